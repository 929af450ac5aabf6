section
-- ===== PART A: goes FIRST, ahead of the names: the tables' words, and 'selects' of the private methods out of them =====
/-- a private method of a class that the tables say can be made, by its rows of tables_1 -/
def lw_okq (q : MethodName × Nat) : Prop := (q.1.cls ≠ "java/lang/invoke/MethodHandle" ∧ q.1.cls ≠ "java/lang/invoke/VarHandle") ∧ Cond.instantiable q.1.cls q.2 ∈ tables_1 ∧ Cond.privateMethod q.1 ∈ tables_1 ∧ Cond.instanceMethod q.1 ∈ tables_1
theorem lw_p0 : lw_okq (⟨"MapDrawer$Story", "leadsForth", "(III)Z"⟩, 9) := ⟨⟨by decide +kernel, by decide +kernel⟩, List.mem_of_getElem? (i := 21) (by decide +kernel), List.mem_of_getElem? (i := 317) (by decide +kernel), List.mem_of_getElem? (i := 318) (by decide +kernel)⟩
theorem lw_p1 : lw_okq (⟨"MapDrawer$Story", "leadsBack", "(III)Z"⟩, 9) := ⟨⟨by decide +kernel, by decide +kernel⟩, List.mem_of_getElem? (i := 21) (by decide +kernel), List.mem_of_getElem? (i := 321) (by decide +kernel), List.mem_of_getElem? (i := 322) (by decide +kernel)⟩
theorem lw_p2 : lw_okq (⟨"MapDrawer", "playToNewRoom", "(II)I"⟩, 6) := ⟨⟨by decide +kernel, by decide +kernel⟩, List.mem_of_getElem? (i := 13) (by decide +kernel), List.mem_of_getElem? (i := 358) (by decide +kernel), List.mem_of_getElem? (i := 359) (by decide +kernel)⟩
theorem lw_p3 : lw_okq (⟨"MapDrawer", "playToRoom", "(III)I"⟩, 6) := ⟨⟨by decide +kernel, by decide +kernel⟩, List.mem_of_getElem? (i := 13) (by decide +kernel), List.mem_of_getElem? (i := 362) (by decide +kernel), List.mem_of_getElem? (i := 363) (by decide +kernel)⟩
theorem lw_p4 : lw_okq (⟨"MapDrawer$Parts", "sinkToLeastRooms", "(LMapDrawer$Story;)Z"⟩, 1) := ⟨⟨by decide +kernel, by decide +kernel⟩, List.mem_of_getElem? (i := 92) (by decide +kernel), List.mem_of_getElem? (i := 398) (by decide +kernel), List.mem_of_getElem? (i := 399) (by decide +kernel)⟩
theorem lw_p5 : lw_okq (⟨"MapDrawer$Parts", "countUp", "(I)I"⟩, 1) := ⟨⟨by decide +kernel, by decide +kernel⟩, List.mem_of_getElem? (i := 92) (by decide +kernel), List.mem_of_getElem? (i := 405) (by decide +kernel), List.mem_of_getElem? (i := 406) (by decide +kernel)⟩
theorem lw_p6 : lw_okq (⟨"MapDrawer$Planner", "drawPartOf", "(I)V"⟩, 15) := ⟨⟨by decide +kernel, by decide +kernel⟩, List.mem_of_getElem? (i := 142) (by decide +kernel), List.mem_of_getElem? (i := 427) (by decide +kernel), List.mem_of_getElem? (i := 428) (by decide +kernel)⟩
theorem lw_p7 : lw_okq (⟨"MapDrawer$Planner", "spread", "(LMapDrawer$Places;)V"⟩, 15) := ⟨⟨by decide +kernel, by decide +kernel⟩, List.mem_of_getElem? (i := 142) (by decide +kernel), List.mem_of_getElem? (i := 435) (by decide +kernel), List.mem_of_getElem? (i := 436) (by decide +kernel)⟩
theorem lw_p8 : lw_okq (⟨"MapDrawer$Planner", "nextRoom", "(LMapDrawer$Places;)I"⟩, 15) := ⟨⟨by decide +kernel, by decide +kernel⟩, List.mem_of_getElem? (i := 142) (by decide +kernel), List.mem_of_getElem? (i := 439) (by decide +kernel), List.mem_of_getElem? (i := 440) (by decide +kernel)⟩
theorem lw_p9 : lw_okq (⟨"MapDrawer$Chances", "lookAround", "(LMapDrawer$Places;III)Z"⟩, 5) := ⟨⟨by decide +kernel, by decide +kernel⟩, List.mem_of_getElem? (i := 163) (by decide +kernel), List.mem_of_getElem? (i := 486) (by decide +kernel), List.mem_of_getElem? (i := 487) (by decide +kernel)⟩
theorem lw_p10 : lw_okq (⟨"MapDrawer$Planner", "keepTrial", "()V"⟩, 15) := ⟨⟨by decide +kernel, by decide +kernel⟩, List.mem_of_getElem? (i := 142) (by decide +kernel), List.mem_of_getElem? (i := 493) (by decide +kernel), List.mem_of_getElem? (i := 494) (by decide +kernel)⟩
theorem lw_p11 : lw_okq (⟨"MapDrawer$Planner", "tryHere", "(I)V"⟩, 15) := ⟨⟨by decide +kernel, by decide +kernel⟩, List.mem_of_getElem? (i := 142) (by decide +kernel), List.mem_of_getElem? (i := 502) (by decide +kernel), List.mem_of_getElem? (i := 503) (by decide +kernel)⟩
theorem lw_p12 : lw_okq (⟨"MapDrawer$Planner", "weighTrial", "()V"⟩, 15) := ⟨⟨by decide +kernel, by decide +kernel⟩, List.mem_of_getElem? (i := 142) (by decide +kernel), List.mem_of_getElem? (i := 509) (by decide +kernel), List.mem_of_getElem? (i := 510) (by decide +kernel)⟩
theorem lw_p13 : lw_okq (⟨"MapDrawer$Places", "isWeighed", "(I)Z"⟩, 5) := ⟨⟨by decide +kernel, by decide +kernel⟩, List.mem_of_getElem? (i := 104) (by decide +kernel), List.mem_of_getElem? (i := 517) (by decide +kernel), List.mem_of_getElem? (i := 518) (by decide +kernel)⟩
theorem lw_p14 : lw_okq (⟨"MapDrawer$Places", "distance", "(III)I"⟩, 5) := ⟨⟨by decide +kernel, by decide +kernel⟩, List.mem_of_getElem? (i := 104) (by decide +kernel), List.mem_of_getElem? (i := 530) (by decide +kernel), List.mem_of_getElem? (i := 531) (by decide +kernel)⟩
theorem lw_p15 : lw_okq (⟨"MapDrawer$Planner", "moveBehind", "(I)I"⟩, 15) := ⟨⟨by decide +kernel, by decide +kernel⟩, List.mem_of_getElem? (i := 142) (by decide +kernel), List.mem_of_getElem? (i := 541) (by decide +kernel), List.mem_of_getElem? (i := 542) (by decide +kernel)⟩
def lw_privs_1 : List (MethodName × Nat) := [(⟨"MapDrawer$Story", "leadsForth", "(III)Z"⟩, 9), (⟨"MapDrawer$Story", "leadsBack", "(III)Z"⟩, 9), (⟨"MapDrawer", "playToNewRoom", "(II)I"⟩, 6), (⟨"MapDrawer", "playToRoom", "(III)I"⟩, 6), (⟨"MapDrawer$Parts", "sinkToLeastRooms", "(LMapDrawer$Story;)Z"⟩, 1), (⟨"MapDrawer$Parts", "countUp", "(I)I"⟩, 1), (⟨"MapDrawer$Planner", "drawPartOf", "(I)V"⟩, 15), (⟨"MapDrawer$Planner", "spread", "(LMapDrawer$Places;)V"⟩, 15), (⟨"MapDrawer$Planner", "nextRoom", "(LMapDrawer$Places;)I"⟩, 15), (⟨"MapDrawer$Chances", "lookAround", "(LMapDrawer$Places;III)Z"⟩, 5), (⟨"MapDrawer$Planner", "keepTrial", "()V"⟩, 15), (⟨"MapDrawer$Planner", "tryHere", "(I)V"⟩, 15), (⟨"MapDrawer$Planner", "weighTrial", "()V"⟩, 15), (⟨"MapDrawer$Places", "isWeighed", "(I)Z"⟩, 5), (⟨"MapDrawer$Places", "distance", "(III)I"⟩, 5), (⟨"MapDrawer$Planner", "moveBehind", "(I)I"⟩, 15)]
theorem lw_r1 : ∀ q ∈ lw_privs_1, lw_okq q := List.forall_mem_cons.mpr ⟨lw_p0, List.forall_mem_cons.mpr ⟨lw_p1, List.forall_mem_cons.mpr ⟨lw_p2, List.forall_mem_cons.mpr ⟨lw_p3, List.forall_mem_cons.mpr ⟨lw_p4, List.forall_mem_cons.mpr ⟨lw_p5, List.forall_mem_cons.mpr ⟨lw_p6, List.forall_mem_cons.mpr ⟨lw_p7, List.forall_mem_cons.mpr ⟨lw_p8, List.forall_mem_cons.mpr ⟨lw_p9, List.forall_mem_cons.mpr ⟨lw_p10, List.forall_mem_cons.mpr ⟨lw_p11, List.forall_mem_cons.mpr ⟨lw_p12, List.forall_mem_cons.mpr ⟨lw_p13, List.forall_mem_cons.mpr ⟨lw_p14, List.forall_mem_cons.mpr ⟨lw_p15, fun _ h => absurd h List.not_mem_nil⟩⟩⟩⟩⟩⟩⟩⟩⟩⟩⟩⟩⟩⟩⟩⟩
theorem lw_p16 : lw_okq (⟨"MapDrawer$Walker", "measure", "(I)V"⟩, 2) := ⟨⟨by decide +kernel, by decide +kernel⟩, List.mem_of_getElem? (i := 235) (by decide +kernel), List.mem_of_getElem? (i := 605) (by decide +kernel), List.mem_of_getElem? (i := 606) (by decide +kernel)⟩
theorem lw_p17 : lw_okq (⟨"MapDrawer$Walker", "shortenAll", "()Z"⟩, 2) := ⟨⟨by decide +kernel, by decide +kernel⟩, List.mem_of_getElem? (i := 235) (by decide +kernel), List.mem_of_getElem? (i := 609) (by decide +kernel), List.mem_of_getElem? (i := 610) (by decide +kernel)⟩
theorem lw_p18 : lw_okq (⟨"MapDrawer$Walker", "shorten", "(II)Z"⟩, 2) := ⟨⟨by decide +kernel, by decide +kernel⟩, List.mem_of_getElem? (i := 235) (by decide +kernel), List.mem_of_getElem? (i := 613) (by decide +kernel), List.mem_of_getElem? (i := 614) (by decide +kernel)⟩
theorem lw_p19 : lw_okq (⟨"MapDrawer$Walker", "leastGoodDirection", "(I)I"⟩, 2) := ⟨⟨by decide +kernel, by decide +kernel⟩, List.mem_of_getElem? (i := 235) (by decide +kernel), List.mem_of_getElem? (i := 626) (by decide +kernel), List.mem_of_getElem? (i := 627) (by decide +kernel)⟩
theorem lw_p20 : lw_okq (⟨"MapDrawer$Sheet", "letterAt", "(III)I"⟩, 4) := ⟨⟨by decide +kernel, by decide +kernel⟩, List.mem_of_getElem? (i := 248) (by decide +kernel), List.mem_of_getElem? (i := 643) (by decide +kernel), List.mem_of_getElem? (i := 644) (by decide +kernel)⟩
theorem lw_p21 : lw_okq (⟨"MapDrawer$Sheet", "isInRow", "(III)Z"⟩, 4) := ⟨⟨by decide +kernel, by decide +kernel⟩, List.mem_of_getElem? (i := 248) (by decide +kernel), List.mem_of_getElem? (i := 647) (by decide +kernel), List.mem_of_getElem? (i := 648) (by decide +kernel)⟩
theorem lw_p22 : lw_okq (⟨"MapDrawer$Sheet", "rowOf", "(I)I"⟩, 4) := ⟨⟨by decide +kernel, by decide +kernel⟩, List.mem_of_getElem? (i := 248) (by decide +kernel), List.mem_of_getElem? (i := 651) (by decide +kernel), List.mem_of_getElem? (i := 652) (by decide +kernel)⟩
theorem lw_p23 : lw_okq (⟨"MapDrawer$Sheet", "columnOf", "(I)I"⟩, 4) := ⟨⟨by decide +kernel, by decide +kernel⟩, List.mem_of_getElem? (i := 248) (by decide +kernel), List.mem_of_getElem? (i := 655) (by decide +kernel), List.mem_of_getElem? (i := 656) (by decide +kernel)⟩
theorem lw_p24 : lw_okq (⟨"MapDrawer$Sheet", "columnBehind", "(I)I"⟩, 4) := ⟨⟨by decide +kernel, by decide +kernel⟩, List.mem_of_getElem? (i := 248) (by decide +kernel), List.mem_of_getElem? (i := 659) (by decide +kernel), List.mem_of_getElem? (i := 660) (by decide +kernel)⟩
theorem lw_p25 : lw_okq (⟨"MapDrawer$Sheet", "stairsAt", "(III)I"⟩, 4) := ⟨⟨by decide +kernel, by decide +kernel⟩, List.mem_of_getElem? (i := 248) (by decide +kernel), List.mem_of_getElem? (i := 663) (by decide +kernel), List.mem_of_getElem? (i := 664) (by decide +kernel)⟩
theorem lw_p26 : lw_okq (⟨"MapDrawer$Sheet", "lineAt", "(III)I"⟩, 4) := ⟨⟨by decide +kernel, by decide +kernel⟩, List.mem_of_getElem? (i := 248) (by decide +kernel), List.mem_of_getElem? (i := 668) (by decide +kernel), List.mem_of_getElem? (i := 669) (by decide +kernel)⟩
theorem lw_p27 : lw_okq (⟨"MapDrawer$Sheet", "isOnLine", "(III)Z"⟩, 4) := ⟨⟨by decide +kernel, by decide +kernel⟩, List.mem_of_getElem? (i := 248) (by decide +kernel), List.mem_of_getElem? (i := 673) (by decide +kernel), List.mem_of_getElem? (i := 674) (by decide +kernel)⟩
theorem lw_p28 : lw_okq (⟨"MapDrawer$Sheet", "isOnSlant", "(III)Z"⟩, 4) := ⟨⟨by decide +kernel, by decide +kernel⟩, List.mem_of_getElem? (i := 248) (by decide +kernel), List.mem_of_getElem? (i := 680) (by decide +kernel), List.mem_of_getElem? (i := 681) (by decide +kernel)⟩
theorem lw_p29 : lw_okq (⟨"MapDrawerModel", "isRoom", "(I)Z"⟩, 35) := ⟨⟨by decide +kernel, by decide +kernel⟩, List.mem_of_getElem? (i := 700) (by decide +kernel), List.mem_of_getElem? (i := 823) (by decide +kernel), List.mem_of_getElem? (i := 824) (by decide +kernel)⟩
theorem lw_p30 : lw_okq (⟨"MapDrawerModel", "outOf", "(II)I"⟩, 35) := ⟨⟨by decide +kernel, by decide +kernel⟩, List.mem_of_getElem? (i := 700) (by decide +kernel), List.mem_of_getElem? (i := 827) (by decide +kernel), List.mem_of_getElem? (i := 828) (by decide +kernel)⟩
theorem lw_p31 : lw_okq (⟨"MapDrawerModel", "lay", "(IIIZ)I"⟩, 35) := ⟨⟨by decide +kernel, by decide +kernel⟩, List.mem_of_getElem? (i := 700) (by decide +kernel), List.mem_of_getElem? (i := 834) (by decide +kernel), List.mem_of_getElem? (i := 835) (by decide +kernel)⟩
def lw_privs_2 : List (MethodName × Nat) := [(⟨"MapDrawer$Walker", "measure", "(I)V"⟩, 2), (⟨"MapDrawer$Walker", "shortenAll", "()Z"⟩, 2), (⟨"MapDrawer$Walker", "shorten", "(II)Z"⟩, 2), (⟨"MapDrawer$Walker", "leastGoodDirection", "(I)I"⟩, 2), (⟨"MapDrawer$Sheet", "letterAt", "(III)I"⟩, 4), (⟨"MapDrawer$Sheet", "isInRow", "(III)Z"⟩, 4), (⟨"MapDrawer$Sheet", "rowOf", "(I)I"⟩, 4), (⟨"MapDrawer$Sheet", "columnOf", "(I)I"⟩, 4), (⟨"MapDrawer$Sheet", "columnBehind", "(I)I"⟩, 4), (⟨"MapDrawer$Sheet", "stairsAt", "(III)I"⟩, 4), (⟨"MapDrawer$Sheet", "lineAt", "(III)I"⟩, 4), (⟨"MapDrawer$Sheet", "isOnLine", "(III)Z"⟩, 4), (⟨"MapDrawer$Sheet", "isOnSlant", "(III)Z"⟩, 4), (⟨"MapDrawerModel", "isRoom", "(I)Z"⟩, 35), (⟨"MapDrawerModel", "outOf", "(II)I"⟩, 35), (⟨"MapDrawerModel", "lay", "(IIIZ)I"⟩, 35)]
theorem lw_r2 : ∀ q ∈ lw_privs_2, lw_okq q := List.forall_mem_cons.mpr ⟨lw_p16, List.forall_mem_cons.mpr ⟨lw_p17, List.forall_mem_cons.mpr ⟨lw_p18, List.forall_mem_cons.mpr ⟨lw_p19, List.forall_mem_cons.mpr ⟨lw_p20, List.forall_mem_cons.mpr ⟨lw_p21, List.forall_mem_cons.mpr ⟨lw_p22, List.forall_mem_cons.mpr ⟨lw_p23, List.forall_mem_cons.mpr ⟨lw_p24, List.forall_mem_cons.mpr ⟨lw_p25, List.forall_mem_cons.mpr ⟨lw_p26, List.forall_mem_cons.mpr ⟨lw_p27, List.forall_mem_cons.mpr ⟨lw_p28, List.forall_mem_cons.mpr ⟨lw_p29, List.forall_mem_cons.mpr ⟨lw_p30, List.forall_mem_cons.mpr ⟨lw_p31, fun _ h => absurd h List.not_mem_nil⟩⟩⟩⟩⟩⟩⟩⟩⟩⟩⟩⟩⟩⟩⟩⟩
theorem lw_p32 : lw_okq (⟨"MapDrawerModel", "isLink", "(I)Z"⟩, 35) := ⟨⟨by decide +kernel, by decide +kernel⟩, List.mem_of_getElem? (i := 700) (by decide +kernel), List.mem_of_getElem? (i := 842) (by decide +kernel), List.mem_of_getElem? (i := 843) (by decide +kernel)⟩
theorem lw_p33 : lw_okq (⟨"MapDrawerModel", "endOf", "(III)I"⟩, 35) := ⟨⟨by decide +kernel, by decide +kernel⟩, List.mem_of_getElem? (i := 700) (by decide +kernel), List.mem_of_getElem? (i := 850) (by decide +kernel), List.mem_of_getElem? (i := 851) (by decide +kernel)⟩
theorem lw_p34 : lw_okq (⟨"MapDrawerModel", "backOf", "(III)I"⟩, 35) := ⟨⟨by decide +kernel, by decide +kernel⟩, List.mem_of_getElem? (i := 700) (by decide +kernel), List.mem_of_getElem? (i := 854) (by decide +kernel), List.mem_of_getElem? (i := 855) (by decide +kernel)⟩
theorem lw_p35 : lw_okq (⟨"MapDrawerModel", "findParts", "()V"⟩, 35) := ⟨⟨by decide +kernel, by decide +kernel⟩, List.mem_of_getElem? (i := 700) (by decide +kernel), List.mem_of_getElem? (i := 879) (by decide +kernel), List.mem_of_getElem? (i := 880) (by decide +kernel)⟩
theorem lw_p36 : lw_okq (⟨"MapDrawerModel", "findOrder", "(I)V"⟩, 35) := ⟨⟨by decide +kernel, by decide +kernel⟩, List.mem_of_getElem? (i := 700) (by decide +kernel), List.mem_of_getElem? (i := 887) (by decide +kernel), List.mem_of_getElem? (i := 888) (by decide +kernel)⟩
theorem lw_p37 : lw_okq (⟨"MapDrawerModel", "hasTaken", "(I)Z"⟩, 35) := ⟨⟨by decide +kernel, by decide +kernel⟩, List.mem_of_getElem? (i := 700) (by decide +kernel), List.mem_of_getElem? (i := 891) (by decide +kernel), List.mem_of_getElem? (i := 892) (by decide +kernel)⟩
theorem lw_p38 : lw_okq (⟨"MapDrawerModel", "tryPart", "(I)Z"⟩, 35) := ⟨⟨by decide +kernel, by decide +kernel⟩, List.mem_of_getElem? (i := 700) (by decide +kernel), List.mem_of_getElem? (i := 895) (by decide +kernel), List.mem_of_getElem? (i := 896) (by decide +kernel)⟩
theorem lw_p39 : lw_okq (⟨"MapDrawerModel", "noneThere", "()V"⟩, 35) := ⟨⟨by decide +kernel, by decide +kernel⟩, List.mem_of_getElem? (i := 700) (by decide +kernel), List.mem_of_getElem? (i := 899) (by decide +kernel), List.mem_of_getElem? (i := 900) (by decide +kernel)⟩
theorem lw_p40 : lw_okq (⟨"MapDrawerModel", "stand", "(IIII)V"⟩, 35) := ⟨⟨by decide +kernel, by decide +kernel⟩, List.mem_of_getElem? (i := 700) (by decide +kernel), List.mem_of_getElem? (i := 903) (by decide +kernel), List.mem_of_getElem? (i := 904) (by decide +kernel)⟩
theorem lw_p41 : lw_okq (⟨"MapDrawerModel", "noteBest", "()V"⟩, 35) := ⟨⟨by decide +kernel, by decide +kernel⟩, List.mem_of_getElem? (i := 700) (by decide +kernel), List.mem_of_getElem? (i := 907) (by decide +kernel), List.mem_of_getElem? (i := 908) (by decide +kernel)⟩
theorem lw_p42 : lw_okq (⟨"MapDrawerModel", "costNow", "()I"⟩, 35) := ⟨⟨by decide +kernel, by decide +kernel⟩, List.mem_of_getElem? (i := 700) (by decide +kernel), List.mem_of_getElem? (i := 911) (by decide +kernel), List.mem_of_getElem? (i := 912) (by decide +kernel)⟩
theorem lw_p43 : lw_okq (⟨"MapDrawerModel", "isLoop", "(I)Z"⟩, 35) := ⟨⟨by decide +kernel, by decide +kernel⟩, List.mem_of_getElem? (i := 700) (by decide +kernel), List.mem_of_getElem? (i := 915) (by decide +kernel), List.mem_of_getElem? (i := 916) (by decide +kernel)⟩
theorem lw_p44 : lw_okq (⟨"MapDrawerModel", "straightBy", "(I)I"⟩, 35) := ⟨⟨by decide +kernel, by decide +kernel⟩, List.mem_of_getElem? (i := 700) (by decide +kernel), List.mem_of_getElem? (i := 919) (by decide +kernel), List.mem_of_getElem? (i := 920) (by decide +kernel)⟩
theorem lw_p45 : lw_okq (⟨"MapDrawerModel", "farBy", "(IIII)I"⟩, 35) := ⟨⟨by decide +kernel, by decide +kernel⟩, List.mem_of_getElem? (i := 700) (by decide +kernel), List.mem_of_getElem? (i := 926) (by decide +kernel), List.mem_of_getElem? (i := 927) (by decide +kernel)⟩
theorem lw_p46 : lw_okq (⟨"MapDrawerModel", "chance", "(II)Z"⟩, 35) := ⟨⟨by decide +kernel, by decide +kernel⟩, List.mem_of_getElem? (i := 700) (by decide +kernel), List.mem_of_getElem? (i := 936) (by decide +kernel), List.mem_of_getElem? (i := 937) (by decide +kernel)⟩
theorem lw_p47 : lw_okq (⟨"MapDrawerModel", "at", "(III)I"⟩, 35) := ⟨⟨by decide +kernel, by decide +kernel⟩, List.mem_of_getElem? (i := 700) (by decide +kernel), List.mem_of_getElem? (i := 940) (by decide +kernel), List.mem_of_getElem? (i := 941) (by decide +kernel)⟩
def lw_privs_3 : List (MethodName × Nat) := [(⟨"MapDrawerModel", "isLink", "(I)Z"⟩, 35), (⟨"MapDrawerModel", "endOf", "(III)I"⟩, 35), (⟨"MapDrawerModel", "backOf", "(III)I"⟩, 35), (⟨"MapDrawerModel", "findParts", "()V"⟩, 35), (⟨"MapDrawerModel", "findOrder", "(I)V"⟩, 35), (⟨"MapDrawerModel", "hasTaken", "(I)Z"⟩, 35), (⟨"MapDrawerModel", "tryPart", "(I)Z"⟩, 35), (⟨"MapDrawerModel", "noneThere", "()V"⟩, 35), (⟨"MapDrawerModel", "stand", "(IIII)V"⟩, 35), (⟨"MapDrawerModel", "noteBest", "()V"⟩, 35), (⟨"MapDrawerModel", "costNow", "()I"⟩, 35), (⟨"MapDrawerModel", "isLoop", "(I)Z"⟩, 35), (⟨"MapDrawerModel", "straightBy", "(I)I"⟩, 35), (⟨"MapDrawerModel", "farBy", "(IIII)I"⟩, 35), (⟨"MapDrawerModel", "chance", "(II)Z"⟩, 35), (⟨"MapDrawerModel", "at", "(III)I"⟩, 35)]
theorem lw_r3 : ∀ q ∈ lw_privs_3, lw_okq q := List.forall_mem_cons.mpr ⟨lw_p32, List.forall_mem_cons.mpr ⟨lw_p33, List.forall_mem_cons.mpr ⟨lw_p34, List.forall_mem_cons.mpr ⟨lw_p35, List.forall_mem_cons.mpr ⟨lw_p36, List.forall_mem_cons.mpr ⟨lw_p37, List.forall_mem_cons.mpr ⟨lw_p38, List.forall_mem_cons.mpr ⟨lw_p39, List.forall_mem_cons.mpr ⟨lw_p40, List.forall_mem_cons.mpr ⟨lw_p41, List.forall_mem_cons.mpr ⟨lw_p42, List.forall_mem_cons.mpr ⟨lw_p43, List.forall_mem_cons.mpr ⟨lw_p44, List.forall_mem_cons.mpr ⟨lw_p45, List.forall_mem_cons.mpr ⟨lw_p46, List.forall_mem_cons.mpr ⟨lw_p47, fun _ h => absurd h List.not_mem_nil⟩⟩⟩⟩⟩⟩⟩⟩⟩⟩⟩⟩⟩⟩⟩⟩
theorem lw_p48 : lw_okq (⟨"MapDrawerModel", "standBy", "(II)Z"⟩, 35) := ⟨⟨by decide +kernel, by decide +kernel⟩, List.mem_of_getElem? (i := 700) (by decide +kernel), List.mem_of_getElem? (i := 944) (by decide +kernel), List.mem_of_getElem? (i := 945) (by decide +kernel)⟩
theorem lw_p49 : lw_okq (⟨"MapDrawerModel", "spare", "(I)V"⟩, 35) := ⟨⟨by decide +kernel, by decide +kernel⟩, List.mem_of_getElem? (i := 700) (by decide +kernel), List.mem_of_getElem? (i := 948) (by decide +kernel), List.mem_of_getElem? (i := 949) (by decide +kernel)⟩
theorem lw_p50 : lw_okq (⟨"MapDrawerModel", "byFirst", "()V"⟩, 35) := ⟨⟨by decide +kernel, by decide +kernel⟩, List.mem_of_getElem? (i := 700) (by decide +kernel), List.mem_of_getElem? (i := 952) (by decide +kernel), List.mem_of_getElem? (i := 953) (by decide +kernel)⟩
theorem lw_p51 : lw_okq (⟨"MapDrawerModel", "movePart", "(I)I"⟩, 35) := ⟨⟨by decide +kernel, by decide +kernel⟩, List.mem_of_getElem? (i := 700) (by decide +kernel), List.mem_of_getElem? (i := 956) (by decide +kernel), List.mem_of_getElem? (i := 957) (by decide +kernel)⟩
theorem lw_p52 : lw_okq (⟨"MapDrawerModel", "load", "()V"⟩, 35) := ⟨⟨by decide +kernel, by decide +kernel⟩, List.mem_of_getElem? (i := 700) (by decide +kernel), List.mem_of_getElem? (i := 960) (by decide +kernel), List.mem_of_getElem? (i := 961) (by decide +kernel)⟩
theorem lw_p53 : lw_okq (⟨"MapDrawerModel", "bentNow", "()I"⟩, 35) := ⟨⟨by decide +kernel, by decide +kernel⟩, List.mem_of_getElem? (i := 700) (by decide +kernel), List.mem_of_getElem? (i := 964) (by decide +kernel), List.mem_of_getElem? (i := 965) (by decide +kernel)⟩
theorem lw_p54 : lw_okq (⟨"MapDrawerModel", "isJoined", "(I)Z"⟩, 35) := ⟨⟨by decide +kernel, by decide +kernel⟩, List.mem_of_getElem? (i := 700) (by decide +kernel), List.mem_of_getElem? (i := 972) (by decide +kernel), List.mem_of_getElem? (i := 973) (by decide +kernel)⟩
theorem lw_p55 : lw_okq (⟨"MapDrawerModel", "eastmost", "()I"⟩, 35) := ⟨⟨by decide +kernel, by decide +kernel⟩, List.mem_of_getElem? (i := 700) (by decide +kernel), List.mem_of_getElem? (i := 976) (by decide +kernel), List.mem_of_getElem? (i := 977) (by decide +kernel)⟩
theorem lw_p56 : lw_okq (⟨"MapDrawerModel", "keep", "(I)V"⟩, 35) := ⟨⟨by decide +kernel, by decide +kernel⟩, List.mem_of_getElem? (i := 700) (by decide +kernel), List.mem_of_getElem? (i := 980) (by decide +kernel), List.mem_of_getElem? (i := 981) (by decide +kernel)⟩
theorem lw_p57 : lw_okq (⟨"MapDrawerModel", "findDistances", "(I)V"⟩, 35) := ⟨⟨by decide +kernel, by decide +kernel⟩, List.mem_of_getElem? (i := 700) (by decide +kernel), List.mem_of_getElem? (i := 1008) (by decide +kernel), List.mem_of_getElem? (i := 1009) (by decide +kernel)⟩
theorem lw_p58 : lw_okq (⟨"MapDrawerModel", "leastOf", "(Z)I"⟩, 35) := ⟨⟨by decide +kernel, by decide +kernel⟩, List.mem_of_getElem? (i := 700) (by decide +kernel), List.mem_of_getElem? (i := 1021) (by decide +kernel), List.mem_of_getElem? (i := 1022) (by decide +kernel)⟩
theorem lw_p59 : lw_okq (⟨"MapDrawerModel", "lineAt", "(IIIIII)I"⟩, 35) := ⟨⟨by decide +kernel, by decide +kernel⟩, List.mem_of_getElem? (i := 700) (by decide +kernel), List.mem_of_getElem? (i := 1027) (by decide +kernel), List.mem_of_getElem? (i := 1028) (by decide +kernel)⟩
def lw_privs_4 : List (MethodName × Nat) := [(⟨"MapDrawerModel", "standBy", "(II)Z"⟩, 35), (⟨"MapDrawerModel", "spare", "(I)V"⟩, 35), (⟨"MapDrawerModel", "byFirst", "()V"⟩, 35), (⟨"MapDrawerModel", "movePart", "(I)I"⟩, 35), (⟨"MapDrawerModel", "load", "()V"⟩, 35), (⟨"MapDrawerModel", "bentNow", "()I"⟩, 35), (⟨"MapDrawerModel", "isJoined", "(I)Z"⟩, 35), (⟨"MapDrawerModel", "eastmost", "()I"⟩, 35), (⟨"MapDrawerModel", "keep", "(I)V"⟩, 35), (⟨"MapDrawerModel", "findDistances", "(I)V"⟩, 35), (⟨"MapDrawerModel", "leastOf", "(Z)I"⟩, 35), (⟨"MapDrawerModel", "lineAt", "(IIIIII)I"⟩, 35)]
theorem lw_r4 : ∀ q ∈ lw_privs_4, lw_okq q := List.forall_mem_cons.mpr ⟨lw_p48, List.forall_mem_cons.mpr ⟨lw_p49, List.forall_mem_cons.mpr ⟨lw_p50, List.forall_mem_cons.mpr ⟨lw_p51, List.forall_mem_cons.mpr ⟨lw_p52, List.forall_mem_cons.mpr ⟨lw_p53, List.forall_mem_cons.mpr ⟨lw_p54, List.forall_mem_cons.mpr ⟨lw_p55, List.forall_mem_cons.mpr ⟨lw_p56, List.forall_mem_cons.mpr ⟨lw_p57, List.forall_mem_cons.mpr ⟨lw_p58, List.forall_mem_cons.mpr ⟨lw_p59, fun _ h => absurd h List.not_mem_nil⟩⟩⟩⟩⟩⟩⟩⟩⟩⟩⟩⟩
def lw_privs : List (MethodName × Nat) := lw_privs_1 ++ (lw_privs_2 ++ (lw_privs_3 ++ (lw_privs_4)))
def lw_tbl : List Cond := k2_sels lw_privs ++ tables_1
theorem lw_privs_ok : ∀ q ∈ lw_privs, lw_okq q := by
  show ∀ q ∈ lw_privs_1 ++ (lw_privs_2 ++ (lw_privs_3 ++ (lw_privs_4))), lw_okq q
  exact List.forall_mem_append.mpr ⟨lw_r1, List.forall_mem_append.mpr ⟨lw_r2, List.forall_mem_append.mpr ⟨lw_r3, lw_r4⟩⟩⟩
theorem goodIn_r {big : List Cond} (ws : List Cond) (ps : List Nat) (hp : ws = ps.filterMap (fun i => big[i]?)) (h : ws.all goodWord = true) : GoodIn big ws := by
  intro w hw
  have h1 := List.all_eq_true.mp h w hw
  rw [hp] at hw
  obtain ⟨i, -, hi⟩ := List.mem_filterMap.mp hw
  have hm : w ∈ big := by first | exact List.mem_of_getElem? hi | exact List.getElem?_mem hi
  exact ⟨hm, good_of_word h1⟩
theorem goodIn_app {big a b : List Cond} (ha : GoodIn big a) (hb : GoodIn big b) : GoodIn big (a ++ b) := fun w h => (List.mem_append.mp h).elim (ha w) (hb w)
theorem goodIn_ca {big a b : List Cond} {c : Cond} (ha : GoodIn big (c :: a)) (hb : GoodIn big b) : GoodIn big (c :: (a ++ b)) := fun w h => (List.mem_cons.mp h).elim (fun e => ha w (List.mem_cons.mpr (Or.inl e))) (fun h => (List.mem_append.mp h).elim (fun h => ha w (List.mem_cons.mpr (Or.inr h))) (hb w))
theorem goodIn_sub {big ws : List Cond} (hm : ∀ w ∈ ws, w ∈ big) (h : ws.all goodWord = true) : GoodIn big ws := fun w hw => ⟨hm w hw, good_of_word (List.all_eq_true.mp h w hw)⟩
def RX0 : String := "MapDrawer$Chances"
def TX0 : u_T := fun k => match k with
  | 0 => ("MapDrawer$Chances", "story", "LMapDrawer$Story;", true)
  | 1 => ("MapDrawer$Chances", "ties", "LMapDrawer$Ties;", true)
  | 2 => ("MapDrawer$Chances", "x", "I", false)
  | 3 => ("MapDrawer$Chances", "y", "I", false)
  | _ => ("MapDrawer$Chances", "level", "I", false)
def tyX0 : Nat → FieldType := fun k => match k with
  | 0 => .object "MapDrawer$Story"
  | 1 => .object "MapDrawer$Ties"
  | 2 => .int
  | 3 => .int
  | _ => .int
abbrev wsX00 : List Cond := u_ws RX0 TX0 5
theorem nmX0 : ∀ a, a < 5 → ∀ b, b < 5 → a ≠ b → (TX0 a).2.1 ≠ (TX0 b).2.1 := by decide +kernel
theorem tyX0_ok : ∀ k, k < 5 → parseFieldDescriptor (TX0 k).2.2.1 = some (tyX0 k) := by decide +kernel
abbrev cX0_init : ByteArray := prog_2_method_1_code
def yX0_init : MethodName := ⟨RX0, "<init>", "(LMapDrawer$Story;LMapDrawer$Ties;)V"⟩
abbrev cX0_bound : ByteArray := prog_2_method_2_code
def yX0_bound : MethodName := ⟨RX0, "bound", "(I)I"⟩
abbrev cX0_lookAtOrigin : ByteArray := prog_2_method_3_code
def yX0_lookAtOrigin : MethodName := ⟨RX0, "lookAtOrigin", "()V"⟩
abbrev cX0_lookAtChance : ByteArray := prog_2_method_4_code
def yX0_lookAtChance : MethodName := ⟨RX0, "lookAtChance", "(LMapDrawer$Places;II)Z"⟩
abbrev cX0_lookAtFirst : ByteArray := prog_2_method_5_code
def yX0_lookAtFirst : MethodName := ⟨RX0, "lookAtFirst", "(LMapDrawer$Places;I)V"⟩
abbrev cX0_lookAtSpare : ByteArray := prog_2_method_6_code
def yX0_lookAtSpare : MethodName := ⟨RX0, "lookAtSpare", "(LMapDrawer$Places;I)V"⟩
abbrev cX0_firstPlacedNeighbour : ByteArray := prog_2_method_7_code
def yX0_firstPlacedNeighbour : MethodName := ⟨RX0, "firstPlacedNeighbour", "(LMapDrawer$Places;I)I"⟩
abbrev cX0_lookAround : ByteArray := prog_2_method_8_code
def yX0_lookAround : MethodName := ⟨RX0, "lookAround", "(LMapDrawer$Places;III)Z"⟩
def RX1 : String := "MapDrawer$Parts"
def TX1 : u_T := fun k => match k with
  | _ => ("MapDrawer$Parts", "number", "[I", true)
def tyX1 : Nat → FieldType := fun k => match k with
  | _ => .array .int
abbrev wsX10 : List Cond := u_ws RX1 TX1 1
theorem nmX1 : ∀ a, a < 1 → ∀ b, b < 1 → a ≠ b → (TX1 a).2.1 ≠ (TX1 b).2.1 := by decide +kernel
theorem tyX1_ok : ∀ k, k < 1 → parseFieldDescriptor (TX1 k).2.2.1 = some (tyX1 k) := by decide +kernel
abbrev cX1_init : ByteArray := prog_3_method_1_code
def yX1_init : MethodName := ⟨RX1, "<init>", "()V"⟩
abbrev cX1_find : ByteArray := prog_3_method_2_code
def yX1_find : MethodName := ⟨RX1, "find", "(LMapDrawer$Story;)I"⟩
abbrev cX1_sinkToLeastRooms : ByteArray := prog_3_method_3_code
def yX1_sinkToLeastRooms : MethodName := ⟨RX1, "sinkToLeastRooms", "(LMapDrawer$Story;)Z"⟩
abbrev cX1_countUp : ByteArray := prog_3_method_4_code
def yX1_countUp : MethodName := ⟨RX1, "countUp", "(I)I"⟩
def RX2 : String := "MapDrawer$Places"
def TX2 : u_T := fun k => match k with
  | 0 => ("MapDrawer$Places", "story", "LMapDrawer$Story;", true)
  | 1 => ("MapDrawer$Places", "x", "[I", true)
  | 2 => ("MapDrawer$Places", "y", "[I", true)
  | 3 => ("MapDrawer$Places", "level", "[I", true)
  | _ => ("MapDrawer$Places", "placed", "[Z", true)
def tyX2 : Nat → FieldType := fun k => match k with
  | 0 => .object "MapDrawer$Story"
  | 1 => .array .int
  | 2 => .array .int
  | 3 => .array .int
  | _ => .array .boolean
abbrev wsX20 : List Cond := u_ws RX2 TX2 5
theorem nmX2 : ∀ a, a < 5 → ∀ b, b < 5 → a ≠ b → (TX2 a).2.1 ≠ (TX2 b).2.1 := by decide +kernel
theorem tyX2_ok : ∀ k, k < 5 → parseFieldDescriptor (TX2 k).2.2.1 = some (tyX2 k) := by decide +kernel
abbrev cX2_init : ByteArray := prog_4_method_1_code
def yX2_init : MethodName := ⟨RX2, "<init>", "(LMapDrawer$Story;)V"⟩
abbrev cX2_clear : ByteArray := prog_4_method_2_code
def yX2_clear : MethodName := ⟨RX2, "clear", "()V"⟩
abbrev cX2_put : ByteArray := prog_4_method_3_code
def yX2_put : MethodName := ⟨RX2, "put", "(IIII)V"⟩
abbrev cX2_lift : ByteArray := prog_4_method_4_code
def yX2_lift : MethodName := ⟨RX2, "lift", "(I)V"⟩
abbrev cX2_isFree : ByteArray := prog_4_method_5_code
def yX2_isFree : MethodName := ⟨RX2, "isFree", "(III)Z"⟩
abbrev cX2_hasBothEnds : ByteArray := prog_4_method_6_code
def yX2_hasBothEnds : MethodName := ⟨RX2, "hasBothEnds", "(I)Z"⟩
abbrev cX2_straightLength : ByteArray := prog_4_method_7_code
def yX2_straightLength : MethodName := ⟨RX2, "straightLength", "(I)I"⟩
abbrev cX2_costBelow : ByteArray := prog_4_method_8_code
def yX2_costBelow : MethodName := ⟨RX2, "costBelow", "(I)I"⟩
abbrev cX2_bentLinks : ByteArray := prog_4_method_9_code
def yX2_bentLinks : MethodName := ⟨RX2, "bentLinks", "()I"⟩
abbrev cX2_count : ByteArray := prog_4_method_10_code
def yX2_count : MethodName := ⟨RX2, "count", "()I"⟩
abbrev cX2_lowest : ByteArray := prog_4_method_11_code
def yX2_lowest : MethodName := ⟨RX2, "lowest", "([I)I"⟩
abbrev cX2_highest : ByteArray := prog_4_method_12_code
def yX2_highest : MethodName := ⟨RX2, "highest", "([I)I"⟩
abbrev cX2_extent : ByteArray := prog_4_method_13_code
def yX2_extent : MethodName := ⟨RX2, "extent", "([I)I"⟩
abbrev cX2_isWeighed : ByteArray := prog_4_method_14_code
def yX2_isWeighed : MethodName := ⟨RX2, "isWeighed", "(I)Z"⟩
abbrev cX2_distance : ByteArray := prog_4_method_15_code
def yX2_distance : MethodName := ⟨RX2, "distance", "(III)I"⟩
def RX3 : String := "MapDrawer$Planner"
def TX3 : u_T := fun k => match k with
  | 0 => ("MapDrawer$Planner", "story", "LMapDrawer$Story;", true)
  | 1 => ("MapDrawer$Planner", "parts", "LMapDrawer$Parts;", true)
  | 2 => ("MapDrawer$Planner", "places", "LMapDrawer$Places;", true)
  | 3 => ("MapDrawer$Planner", "trial", "LMapDrawer$Places;", true)
  | 4 => ("MapDrawer$Planner", "ties", "LMapDrawer$Ties;", true)
  | 5 => ("MapDrawer$Planner", "chances", "LMapDrawer$Chances;", true)
  | 6 => ("MapDrawer$Planner", "order", "[I", true)
  | 7 => ("MapDrawer$Planner", "ordered", "I", false)
  | 8 => ("MapDrawer$Planner", "allTried", "[Z", true)
  | 9 => ("MapDrawer$Planner", "drawnParts", "I", false)
  | 10 => ("MapDrawer$Planner", "stepsInAll", "I", false)
  | 11 => ("MapDrawer$Planner", "limit", "I", false)
  | 12 => ("MapDrawer$Planner", "made", "I", false)
  | 13 => ("MapDrawer$Planner", "stopped", "Z", false)
  | _ => ("MapDrawer$Planner", "bestCost", "I", false)
def tyX3 : Nat → FieldType := fun k => match k with
  | 0 => .object "MapDrawer$Story"
  | 1 => .object "MapDrawer$Parts"
  | 2 => .object "MapDrawer$Places"
  | 3 => .object "MapDrawer$Places"
  | 4 => .object "MapDrawer$Ties"
  | 5 => .object "MapDrawer$Chances"
  | 6 => .array .int
  | 7 => .int
  | 8 => .array .boolean
  | 9 => .int
  | 10 => .int
  | 11 => .int
  | 12 => .int
  | 13 => .boolean
  | _ => .int
abbrev wsX30 : List Cond := u_ws RX3 TX3 15
theorem nmX3 : ∀ a, a < 15 → ∀ b, b < 15 → a ≠ b → (TX3 a).2.1 ≠ (TX3 b).2.1 := by decide +kernel
theorem tyX3_ok : ∀ k, k < 15 → parseFieldDescriptor (TX3 k).2.2.1 = some (tyX3 k) := by decide +kernel
abbrev cX3_init : ByteArray := prog_5_method_1_code
def yX3_init : MethodName := ⟨RX3, "<init>", "(LMapDrawer$Story;LMapDrawer$Parts;LMapDrawer$Places;)V"⟩
abbrev cX3_leastness : ByteArray := prog_5_method_2_code
def yX3_leastness : MethodName := ⟨RX3, "leastness", "(I)I"⟩
abbrev cX3_drawAll : ByteArray := prog_5_method_3_code
def yX3_drawAll : MethodName := ⟨RX3, "drawAll", "(I)V"⟩
abbrev cX3_growAll : ByteArray := prog_5_method_4_code
def yX3_growAll : MethodName := ⟨RX3, "growAll", "()V"⟩
abbrev cX3_drawPartOf : ByteArray := prog_5_method_5_code
def yX3_drawPartOf : MethodName := ⟨RX3, "drawPartOf", "(I)V"⟩
abbrev cX3_spread : ByteArray := prog_5_method_6_code
def yX3_spread : MethodName := ⟨RX3, "spread", "(LMapDrawer$Places;)V"⟩
abbrev cX3_nextRoom : ByteArray := prog_5_method_7_code
def yX3_nextRoom : MethodName := ⟨RX3, "nextRoom", "(LMapDrawer$Places;)I"⟩
abbrev cX3_tryHere : ByteArray := prog_5_method_8_code
def yX3_tryHere : MethodName := ⟨RX3, "tryHere", "(I)V"⟩
abbrev cX3_weighTrial : ByteArray := prog_5_method_9_code
def yX3_weighTrial : MethodName := ⟨RX3, "weighTrial", "()V"⟩
abbrev cX3_keepTrial : ByteArray := prog_5_method_10_code
def yX3_keepTrial : MethodName := ⟨RX3, "keepTrial", "()V"⟩
abbrev cX3_moveBehind : ByteArray := prog_5_method_11_code
def yX3_moveBehind : MethodName := ⟨RX3, "moveBehind", "(I)I"⟩
def RX4 : String := "MapDrawer$Sheet"
def TX4 : u_T := fun k => match k with
  | 0 => ("MapDrawer$Sheet", "story", "LMapDrawer$Story;", true)
  | 1 => ("MapDrawer$Sheet", "places", "LMapDrawer$Places;", true)
  | 2 => ("MapDrawer$Sheet", "west", "I", false)
  | _ => ("MapDrawer$Sheet", "north", "I", false)
def tyX4 : Nat → FieldType := fun k => match k with
  | 0 => .object "MapDrawer$Story"
  | 1 => .object "MapDrawer$Places"
  | 2 => .int
  | _ => .int
abbrev wsX40 : List Cond := u_ws RX4 TX4 4
theorem nmX4 : ∀ a, a < 4 → ∀ b, b < 4 → a ≠ b → (TX4 a).2.1 ≠ (TX4 b).2.1 := by decide +kernel
theorem tyX4_ok : ∀ k, k < 4 → parseFieldDescriptor (TX4 k).2.2.1 = some (tyX4 k) := by decide +kernel
abbrev cX4_init : ByteArray := prog_6_method_1_code
def yX4_init : MethodName := ⟨RX4, "<init>", "(LMapDrawer$Story;LMapDrawer$Places;)V"⟩
abbrev cX4_signAt : ByteArray := prog_6_method_2_code
def yX4_signAt : MethodName := ⟨RX4, "signAt", "(III)I"⟩
abbrev cX4_letterAt : ByteArray := prog_6_method_3_code
def yX4_letterAt : MethodName := ⟨RX4, "letterAt", "(III)I"⟩
abbrev cX4_stairsAt : ByteArray := prog_6_method_4_code
def yX4_stairsAt : MethodName := ⟨RX4, "stairsAt", "(III)I"⟩
abbrev cX4_lineAt : ByteArray := prog_6_method_5_code
def yX4_lineAt : MethodName := ⟨RX4, "lineAt", "(III)I"⟩
abbrev cX4_isOnLine : ByteArray := prog_6_method_6_code
def yX4_isOnLine : MethodName := ⟨RX4, "isOnLine", "(III)Z"⟩
abbrev cX4_isOnSlant : ByteArray := prog_6_method_7_code
def yX4_isOnSlant : MethodName := ⟨RX4, "isOnSlant", "(III)Z"⟩
abbrev cX4_isInRow : ByteArray := prog_6_method_8_code
def yX4_isInRow : MethodName := ⟨RX4, "isInRow", "(III)Z"⟩
abbrev cX4_columnOf : ByteArray := prog_6_method_9_code
def yX4_columnOf : MethodName := ⟨RX4, "columnOf", "(I)I"⟩
abbrev cX4_columnBehind : ByteArray := prog_6_method_10_code
def yX4_columnBehind : MethodName := ⟨RX4, "columnBehind", "(I)I"⟩
abbrev cX4_rowOf : ByteArray := prog_6_method_11_code
def yX4_rowOf : MethodName := ⟨RX4, "rowOf", "(I)I"⟩
def RX5 : String := "MapDrawer$Story"
def TX5 : u_T := fun k => match k with
  | 0 => ("MapDrawer$Story", "width", "[I", true)
  | 1 => ("MapDrawer$Story", "region", "[I", true)
  | 2 => ("MapDrawer$Story", "thing", "[I", true)
  | 3 => ("MapDrawer$Story", "roomCount", "I", false)
  | 4 => ("MapDrawer$Story", "from", "[I", true)
  | 5 => ("MapDrawer$Story", "direction", "[I", true)
  | 6 => ("MapDrawer$Story", "to", "[I", true)
  | 7 => ("MapDrawer$Story", "both", "[Z", true)
  | _ => ("MapDrawer$Story", "linkCount", "I", false)
def tyX5 : Nat → FieldType := fun k => match k with
  | 0 => .array .int
  | 1 => .array .int
  | 2 => .array .int
  | 3 => .int
  | 4 => .array .int
  | 5 => .array .int
  | 6 => .array .int
  | 7 => .array .boolean
  | _ => .int
abbrev wsX50 : List Cond := u_ws RX5 TX5 9
theorem nmX5 : ∀ a, a < 9 → ∀ b, b < 9 → a ≠ b → (TX5 a).2.1 ≠ (TX5 b).2.1 := by decide +kernel
theorem tyX5_ok : ∀ k, k < 9 → parseFieldDescriptor (TX5 k).2.2.1 = some (tyX5 k) := by decide +kernel
abbrev cX5_init : ByteArray := prog_7_method_1_code
def yX5_init : MethodName := ⟨RX5, "<init>", "()V"⟩
abbrev cX5_isRoom : ByteArray := prog_7_method_2_code
def yX5_isRoom : MethodName := ⟨RX5, "isRoom", "(I)Z"⟩
abbrev cX5_isLink : ByteArray := prog_7_method_3_code
def yX5_isLink : MethodName := ⟨RX5, "isLink", "(I)Z"⟩
abbrev cX5_isFullOfRooms : ByteArray := prog_7_method_4_code
def yX5_isFullOfRooms : MethodName := ⟨RX5, "isFullOfRooms", "()Z"⟩
abbrev cX5_isFullOfLinks : ByteArray := prog_7_method_5_code
def yX5_isFullOfLinks : MethodName := ⟨RX5, "isFullOfLinks", "()Z"⟩
abbrev cX5_addRoom : ByteArray := prog_7_method_6_code
def yX5_addRoom : MethodName := ⟨RX5, "addRoom", "(II)I"⟩
abbrev cX5_addLink : ByteArray := prog_7_method_7_code
def yX5_addLink : MethodName := ⟨RX5, "addLink", "(IIIZ)I"⟩
abbrev cX5_removeLink : ByteArray := prog_7_method_8_code
def yX5_removeLink : MethodName := ⟨RX5, "removeLink", "(I)V"⟩
abbrev cX5_isLoop : ByteArray := prog_7_method_9_code
def yX5_isLoop : MethodName := ⟨RX5, "isLoop", "(I)Z"⟩
abbrev cX5_leading : ByteArray := prog_7_method_10_code
def yX5_leading : MethodName := ⟨RX5, "leading", "(II)I"⟩
abbrev cX5_beyond : ByteArray := prog_7_method_11_code
def yX5_beyond : MethodName := ⟨RX5, "beyond", "(II)I"⟩
abbrev cX5_otherEnd : ByteArray := prog_7_method_12_code
def yX5_otherEnd : MethodName := ⟨RX5, "otherEnd", "(II)I"⟩
abbrev cX5_firstNotToldApart : ByteArray := prog_7_method_13_code
def yX5_firstNotToldApart : MethodName := ⟨RX5, "firstNotToldApart", "(I)I"⟩
abbrev cX5_leadsForth : ByteArray := prog_7_method_14_code
def yX5_leadsForth : MethodName := ⟨RX5, "leadsForth", "(III)Z"⟩
abbrev cX5_leadsBack : ByteArray := prog_7_method_15_code
def yX5_leadsBack : MethodName := ⟨RX5, "leadsBack", "(III)Z"⟩
def RX6 : String := "MapDrawer$Ties"
def TX6 : u_T := fun k => match k with
  | 0 => ("MapDrawer$Ties", "first", "[I", true)
  | _ => ("MapDrawer$Ties", "links", "[I", true)
def tyX6 : Nat → FieldType := fun k => match k with
  | 0 => .array .int
  | _ => .array .int
abbrev wsX60 : List Cond := u_ws RX6 TX6 2
theorem nmX6 : ∀ a, a < 2 → ∀ b, b < 2 → a ≠ b → (TX6 a).2.1 ≠ (TX6 b).2.1 := by decide +kernel
theorem tyX6_ok : ∀ k, k < 2 → parseFieldDescriptor (TX6 k).2.2.1 = some (tyX6 k) := by decide +kernel
abbrev cX6_init : ByteArray := prog_8_method_1_code
def yX6_init : MethodName := ⟨RX6, "<init>", "()V"⟩
abbrev cX6_gather : ByteArray := prog_8_method_2_code
def yX6_gather : MethodName := ⟨RX6, "gather", "(LMapDrawer$Story;)V"⟩
abbrev cX6_count : ByteArray := prog_8_method_3_code
def yX6_count : MethodName := ⟨RX6, "count", "(I)I"⟩
abbrev cX6_get : ByteArray := prog_8_method_4_code
def yX6_get : MethodName := ⟨RX6, "get", "(II)I"⟩
def RX7 : String := "MapDrawer$Walker"
def TX7 : u_T := fun k => match k with
  | 0 => ("MapDrawer$Walker", "story", "LMapDrawer$Story;", true)
  | _ => ("MapDrawer$Walker", "ahead", "[I", true)
def tyX7 : Nat → FieldType := fun k => match k with
  | 0 => .object "MapDrawer$Story"
  | _ => .array .int
abbrev wsX70 : List Cond := u_ws RX7 TX7 2
theorem nmX7 : ∀ a, a < 2 → ∀ b, b < 2 → a ≠ b → (TX7 a).2.1 ≠ (TX7 b).2.1 := by decide +kernel
theorem tyX7_ok : ∀ k, k < 2 → parseFieldDescriptor (TX7 k).2.2.1 = some (tyX7 k) := by decide +kernel
abbrev cX7_init : ByteArray := prog_9_method_1_code
def yX7_init : MethodName := ⟨RX7, "<init>", "(LMapDrawer$Story;)V"⟩
abbrev cX7_wayLength : ByteArray := prog_9_method_2_code
def yX7_wayLength : MethodName := ⟨RX7, "wayLength", "(II)I"⟩
abbrev cX7_wayDirection : ByteArray := prog_9_method_3_code
def yX7_wayDirection : MethodName := ⟨RX7, "wayDirection", "(III)I"⟩
abbrev cX7_measure : ByteArray := prog_9_method_4_code
def yX7_measure : MethodName := ⟨RX7, "measure", "(I)V"⟩
abbrev cX7_shortenAll : ByteArray := prog_9_method_5_code
def yX7_shortenAll : MethodName := ⟨RX7, "shortenAll", "()Z"⟩
abbrev cX7_shorten : ByteArray := prog_9_method_6_code
def yX7_shorten : MethodName := ⟨RX7, "shorten", "(II)Z"⟩
abbrev cX7_leastGoodDirection : ByteArray := prog_9_method_7_code
def yX7_leastGoodDirection : MethodName := ⟨RX7, "leastGoodDirection", "(I)I"⟩
def RX8 : String := "MapDrawer"
def TX8 : u_T := fun k => match k with
  | 0 => ("MapDrawer", "story", "LMapDrawer$Story;", true)
  | 1 => ("MapDrawer", "parts", "LMapDrawer$Parts;", true)
  | 2 => ("MapDrawer", "places", "LMapDrawer$Places;", true)
  | 3 => ("MapDrawer", "planner", "LMapDrawer$Planner;", true)
  | 4 => ("MapDrawer", "walker", "LMapDrawer$Walker;", true)
  | _ => ("MapDrawer", "sheet", "LMapDrawer$Sheet;", true)
def tyX8 : Nat → FieldType := fun k => match k with
  | 0 => .object "MapDrawer$Story"
  | 1 => .object "MapDrawer$Parts"
  | 2 => .object "MapDrawer$Places"
  | 3 => .object "MapDrawer$Planner"
  | 4 => .object "MapDrawer$Walker"
  | _ => .object "MapDrawer$Sheet"
abbrev wsX80 : List Cond := u_ws RX8 TX8 6
theorem nmX8 : ∀ a, a < 6 → ∀ b, b < 6 → a ≠ b → (TX8 a).2.1 ≠ (TX8 b).2.1 := by decide +kernel
theorem tyX8_ok : ∀ k, k < 6 → parseFieldDescriptor (TX8 k).2.2.1 = some (tyX8 k) := by decide +kernel
abbrev cX8_init : ByteArray := prog_1_method_1_code
def yX8_init : MethodName := ⟨RX8, "<init>", "()V"⟩
abbrev cX8_room : ByteArray := prog_1_method_2_code
def yX8_room : MethodName := ⟨RX8, "room", "(II)I"⟩
abbrev cX8_exit : ByteArray := prog_1_method_3_code
def yX8_exit : MethodName := ⟨RX8, "exit", "(IIIZ)I"⟩
abbrev cX8_cut : ByteArray := prog_1_method_4_code
def yX8_cut : MethodName := ⟨RX8, "cut", "(I)I"⟩
abbrev cX8_play : ByteArray := prog_1_method_5_code
def yX8_play : MethodName := ⟨RX8, "play", "(III)I"⟩
abbrev cX8_mark : ByteArray := prog_1_method_6_code
def yX8_mark : MethodName := ⟨RX8, "mark", "(II)I"⟩
abbrev cX8_alike : ByteArray := prog_1_method_7_code
def yX8_alike : MethodName := ⟨RX8, "alike", "(I)I"⟩
abbrev cX8_link : ByteArray := prog_1_method_8_code
def yX8_link : MethodName := ⟨RX8, "link", "(II)I"⟩
abbrev cX8_out : ByteArray := prog_1_method_9_code
def yX8_out : MethodName := ⟨RX8, "out", "(II)I"⟩
abbrev cX8_part : ByteArray := prog_1_method_10_code
def yX8_part : MethodName := ⟨RX8, "part", "(I)I"⟩
abbrev cX8_draw : ByteArray := prog_1_method_11_code
def yX8_draw : MethodName := ⟨RX8, "draw", "(I)I"⟩
abbrev cX8_grow : ByteArray := prog_1_method_12_code
def yX8_grow : MethodName := ⟨RX8, "grow", "()I"⟩
abbrev cX8_least : ByteArray := prog_1_method_13_code
def yX8_least : MethodName := ⟨RX8, "least", "(I)I"⟩
abbrev cX8_steps : ByteArray := prog_1_method_14_code
def yX8_steps : MethodName := ⟨RX8, "steps", "()I"⟩
abbrev cX8_place : ByteArray := prog_1_method_15_code
def yX8_place : MethodName := ⟨RX8, "place", "(II)I"⟩
abbrev cX8_straight : ByteArray := prog_1_method_16_code
def yX8_straight : MethodName := ⟨RX8, "straight", "(I)I"⟩
abbrev cX8_cost : ByteArray := prog_1_method_17_code
def yX8_cost : MethodName := ⟨RX8, "cost", "()I"⟩
abbrev cX8_far : ByteArray := prog_1_method_18_code
def yX8_far : MethodName := ⟨RX8, "far", "(II)I"⟩
abbrev cX8_step : ByteArray := prog_1_method_19_code
def yX8_step : MethodName := ⟨RX8, "step", "(III)I"⟩
abbrev cX8_sign : ByteArray := prog_1_method_20_code
def yX8_sign : MethodName := ⟨RX8, "sign", "(III)I"⟩
abbrev cX8_told : ByteArray := prog_1_method_21_code
def yX8_told : MethodName := ⟨RX8, "told", "(I)I"⟩
abbrev cX8_isDirection : ByteArray := prog_1_method_22_code
def yX8_isDirection : MethodName := ⟨RX8, "isDirection", "(I)Z"⟩
abbrev cX8_isKind : ByteArray := prog_1_method_23_code
def yX8_isKind : MethodName := ⟨RX8, "isKind", "(I)Z"⟩
abbrev cX8_playToNewRoom : ByteArray := prog_1_method_24_code
def yX8_playToNewRoom : MethodName := ⟨RX8, "playToNewRoom", "(II)I"⟩
abbrev cX8_playToRoom : ByteArray := prog_1_method_25_code
def yX8_playToRoom : MethodName := ⟨RX8, "playToRoom", "(III)I"⟩
def RX9 : String := "MapDrawerModel"
def TX9 : u_T := fun k => match k with
  | 0 => ("MapDrawerModel", "rooms", "I", false)
  | 1 => ("MapDrawerModel", "width", "[I", true)
  | 2 => ("MapDrawerModel", "region", "[I", true)
  | 3 => ("MapDrawerModel", "thing", "[I", true)
  | 4 => ("MapDrawerModel", "links", "I", false)
  | 5 => ("MapDrawerModel", "from", "[I", true)
  | 6 => ("MapDrawerModel", "direction", "[I", true)
  | 7 => ("MapDrawerModel", "to", "[I", true)
  | 8 => ("MapDrawerModel", "isBoth", "[Z", true)
  | 9 => ("MapDrawerModel", "isPlaced", "[Z", true)
  | 10 => ("MapDrawerModel", "placeX", "[I", true)
  | 11 => ("MapDrawerModel", "placeY", "[I", true)
  | 12 => ("MapDrawerModel", "placeL", "[I", true)
  | 13 => ("MapDrawerModel", "steps", "I", false)
  | 14 => ("MapDrawerModel", "drawnParts", "I", false)
  | 15 => ("MapDrawerModel", "isLeast", "[Z", true)
  | 16 => ("MapDrawerModel", "least", "[I", true)
  | 17 => ("MapDrawerModel", "parts", "I", false)
  | 18 => ("MapDrawerModel", "partOf", "[I", true)
  | 19 => ("MapDrawerModel", "isThere", "[Z", true)
  | 20 => ("MapDrawerModel", "x", "[I", true)
  | 21 => ("MapDrawerModel", "y", "[I", true)
  | 22 => ("MapDrawerModel", "level", "[I", true)
  | 23 => ("MapDrawerModel", "chanceX", "I", false)
  | 24 => ("MapDrawerModel", "chanceY", "I", false)
  | 25 => ("MapDrawerModel", "chanceL", "I", false)
  | 26 => ("MapDrawerModel", "count", "I", false)
  | 27 => ("MapDrawerModel", "order", "[I", true)
  | 28 => ("MapDrawerModel", "isTaken", "[Z", true)
  | 29 => ("MapDrawerModel", "chosen", "[I", true)
  | 30 => ("MapDrawerModel", "bestX", "[I", true)
  | 31 => ("MapDrawerModel", "bestY", "[I", true)
  | 32 => ("MapDrawerModel", "bestL", "[I", true)
  | 33 => ("MapDrawerModel", "best", "I", false)
  | _ => ("MapDrawerModel", "distance", "[I", true)
def tyX9 : Nat → FieldType := fun k => match k with
  | 0 => .int
  | 1 => .array .int
  | 2 => .array .int
  | 3 => .array .int
  | 4 => .int
  | 5 => .array .int
  | 6 => .array .int
  | 7 => .array .int
  | 8 => .array .boolean
  | 9 => .array .boolean
  | 10 => .array .int
  | 11 => .array .int
  | 12 => .array .int
  | 13 => .int
  | 14 => .int
  | 15 => .array .boolean
  | 16 => .array .int
  | 17 => .int
  | 18 => .array .int
  | 19 => .array .boolean
  | 20 => .array .int
  | 21 => .array .int
  | 22 => .array .int
  | 23 => .int
  | 24 => .int
  | 25 => .int
  | 26 => .int
  | 27 => .array .int
  | 28 => .array .boolean
  | 29 => .array .int
  | 30 => .array .int
  | 31 => .array .int
  | 32 => .array .int
  | 33 => .int
  | _ => .array .int
abbrev wsX90 : List Cond := u_ws RX9 TX9 35
theorem nmX9 : ∀ a, a < 35 → ∀ b, b < 35 → a ≠ b → (TX9 a).2.1 ≠ (TX9 b).2.1 := by decide +kernel
theorem tyX9_ok : ∀ k, k < 35 → parseFieldDescriptor (TX9 k).2.2.1 = some (tyX9 k) := by decide +kernel
abbrev cX9_init : ByteArray := prog_11_method_1_code
def yX9_init : MethodName := ⟨RX9, "<init>", "()V"⟩
abbrev cX9_in : ByteArray := prog_11_method_3_code
def yX9_in : MethodName := ⟨RX9, "in", "(III)Z"⟩
abbrev cX9_isRoom : ByteArray := prog_11_method_4_code
def yX9_isRoom : MethodName := ⟨RX9, "isRoom", "(I)Z"⟩
abbrev cX9_opposite : ByteArray := prog_11_method_5_code
def yX9_opposite : MethodName := ⟨RX9, "opposite", "(I)I"⟩
abbrev cX9_east : ByteArray := prog_11_method_6_code
def yX9_east : MethodName := ⟨RX9, "east", "(I)I"⟩
abbrev cX9_south : ByteArray := prog_11_method_7_code
def yX9_south : MethodName := ⟨RX9, "south", "(I)I"⟩
abbrev cX9_up : ByteArray := prog_11_method_8_code
def yX9_up : MethodName := ⟨RX9, "up", "(I)I"⟩
abbrev cX9_room : ByteArray := prog_11_method_9_code
def yX9_room : MethodName := ⟨RX9, "room", "(II)I"⟩
abbrev cX9_outOf : ByteArray := prog_11_method_10_code
def yX9_outOf : MethodName := ⟨RX9, "outOf", "(II)I"⟩
abbrev cX9_endOf : ByteArray := prog_11_method_11_code
def yX9_endOf : MethodName := ⟨RX9, "endOf", "(III)I"⟩
abbrev cX9_lay : ByteArray := prog_11_method_12_code
def yX9_lay : MethodName := ⟨RX9, "lay", "(IIIZ)I"⟩
abbrev cX9_exit : ByteArray := prog_11_method_13_code
def yX9_exit : MethodName := ⟨RX9, "exit", "(IIIZ)I"⟩
abbrev cX9_isLink : ByteArray := prog_11_method_14_code
def yX9_isLink : MethodName := ⟨RX9, "isLink", "(I)Z"⟩
abbrev cX9_cut : ByteArray := prog_11_method_15_code
def yX9_cut : MethodName := ⟨RX9, "cut", "(I)I"⟩
abbrev cX9_play : ByteArray := prog_11_method_16_code
def yX9_play : MethodName := ⟨RX9, "play", "(III)I"⟩
abbrev cX9_backOf : ByteArray := prog_11_method_17_code
def yX9_backOf : MethodName := ⟨RX9, "backOf", "(III)I"⟩
abbrev cX9_mark : ByteArray := prog_11_method_18_code
def yX9_mark : MethodName := ⟨RX9, "mark", "(II)I"⟩
abbrev cX9_alike : ByteArray := prog_11_method_19_code
def yX9_alike : MethodName := ⟨RX9, "alike", "(I)I"⟩
abbrev cX9_link : ByteArray := prog_11_method_20_code
def yX9_link : MethodName := ⟨RX9, "link", "(II)I"⟩
abbrev cX9_out : ByteArray := prog_11_method_21_code
def yX9_out : MethodName := ⟨RX9, "out", "(II)I"⟩
abbrev cX9_findParts : ByteArray := prog_11_method_22_code
def yX9_findParts : MethodName := ⟨RX9, "findParts", "()V"⟩
abbrev cX9_part : ByteArray := prog_11_method_23_code
def yX9_part : MethodName := ⟨RX9, "part", "(I)I"⟩
abbrev cX9_at : ByteArray := prog_11_method_24_code
def yX9_at : MethodName := ⟨RX9, "at", "(III)I"⟩
abbrev cX9_stand : ByteArray := prog_11_method_25_code
def yX9_stand : MethodName := ⟨RX9, "stand", "(IIII)V"⟩
abbrev cX9_farBy : ByteArray := prog_11_method_26_code
def yX9_farBy : MethodName := ⟨RX9, "farBy", "(IIII)I"⟩
abbrev cX9_straightBy : ByteArray := prog_11_method_27_code
def yX9_straightBy : MethodName := ⟨RX9, "straightBy", "(I)I"⟩
abbrev cX9_isLoop : ByteArray := prog_11_method_28_code
def yX9_isLoop : MethodName := ⟨RX9, "isLoop", "(I)Z"⟩
abbrev cX9_costNow : ByteArray := prog_11_method_29_code
def yX9_costNow : MethodName := ⟨RX9, "costNow", "()I"⟩
abbrev cX9_bentNow : ByteArray := prog_11_method_30_code
def yX9_bentNow : MethodName := ⟨RX9, "bentNow", "()I"⟩
abbrev cX9_chance : ByteArray := prog_11_method_31_code
def yX9_chance : MethodName := ⟨RX9, "chance", "(II)Z"⟩
abbrev cX9_spare : ByteArray := prog_11_method_32_code
def yX9_spare : MethodName := ⟨RX9, "spare", "(I)V"⟩
abbrev cX9_standBy : ByteArray := prog_11_method_33_code
def yX9_standBy : MethodName := ⟨RX9, "standBy", "(II)Z"⟩
abbrev cX9_hasTaken : ByteArray := prog_11_method_34_code
def yX9_hasTaken : MethodName := ⟨RX9, "hasTaken", "(I)Z"⟩
abbrev cX9_findOrder : ByteArray := prog_11_method_35_code
def yX9_findOrder : MethodName := ⟨RX9, "findOrder", "(I)V"⟩
abbrev cX9_noteBest : ByteArray := prog_11_method_36_code
def yX9_noteBest : MethodName := ⟨RX9, "noteBest", "()V"⟩
abbrev cX9_noneThere : ByteArray := prog_11_method_37_code
def yX9_noneThere : MethodName := ⟨RX9, "noneThere", "()V"⟩
abbrev cX9_tryPart : ByteArray := prog_11_method_38_code
def yX9_tryPart : MethodName := ⟨RX9, "tryPart", "(I)Z"⟩
abbrev cX9_byFirst : ByteArray := prog_11_method_39_code
def yX9_byFirst : MethodName := ⟨RX9, "byFirst", "()V"⟩
abbrev cX9_draw : ByteArray := prog_11_method_40_code
def yX9_draw : MethodName := ⟨RX9, "draw", "(I)I"⟩
abbrev cX9_movePart : ByteArray := prog_11_method_41_code
def yX9_movePart : MethodName := ⟨RX9, "movePart", "(I)I"⟩
abbrev cX9_load : ByteArray := prog_11_method_42_code
def yX9_load : MethodName := ⟨RX9, "load", "()V"⟩
abbrev cX9_keep : ByteArray := prog_11_method_43_code
def yX9_keep : MethodName := ⟨RX9, "keep", "(I)V"⟩
abbrev cX9_grow : ByteArray := prog_11_method_44_code
def yX9_grow : MethodName := ⟨RX9, "grow", "()I"⟩
abbrev cX9_isJoined : ByteArray := prog_11_method_45_code
def yX9_isJoined : MethodName := ⟨RX9, "isJoined", "(I)Z"⟩
abbrev cX9_eastmost : ByteArray := prog_11_method_46_code
def yX9_eastmost : MethodName := ⟨RX9, "eastmost", "()I"⟩
abbrev cX9_least : ByteArray := prog_11_method_47_code
def yX9_least : MethodName := ⟨RX9, "least", "(I)I"⟩
abbrev cX9_steps : ByteArray := prog_11_method_48_code
def yX9_steps : MethodName := ⟨RX9, "steps", "()I"⟩
abbrev cX9_place : ByteArray := prog_11_method_49_code
def yX9_place : MethodName := ⟨RX9, "place", "(II)I"⟩
abbrev cX9_straight : ByteArray := prog_11_method_50_code
def yX9_straight : MethodName := ⟨RX9, "straight", "(I)I"⟩
abbrev cX9_cost : ByteArray := prog_11_method_51_code
def yX9_cost : MethodName := ⟨RX9, "cost", "()I"⟩
abbrev cX9_findDistances : ByteArray := prog_11_method_52_code
def yX9_findDistances : MethodName := ⟨RX9, "findDistances", "(I)V"⟩
abbrev cX9_far : ByteArray := prog_11_method_53_code
def yX9_far : MethodName := ⟨RX9, "far", "(II)I"⟩
abbrev cX9_step : ByteArray := prog_11_method_54_code
def yX9_step : MethodName := ⟨RX9, "step", "(III)I"⟩
abbrev cX9_leastOf : ByteArray := prog_11_method_55_code
def yX9_leastOf : MethodName := ⟨RX9, "leastOf", "(Z)I"⟩
abbrev cX9_sign : ByteArray := prog_11_method_56_code
def yX9_sign : MethodName := ⟨RX9, "sign", "(III)I"⟩
abbrev cX9_lineAt : ByteArray := prog_11_method_57_code
def yX9_lineAt : MethodName := ⟨RX9, "lineAt", "(IIIIII)I"⟩
abbrev cX9_told : ByteArray := prog_11_method_58_code
def yX9_told : MethodName := ⟨RX9, "told", "(I)I"⟩
def RJ9 : String := "java/lang/Math"
def TJ9 : u_T := fun k => match k with
  | _ => ("", "", "", false)
def tyJ9 : Nat → FieldType := fun k => match k with
  | _ => .int
abbrev wsJ90 : List Cond := u_ws RJ9 TJ9 0
theorem nmJ9 : ∀ a, a < 0 → ∀ b, b < 0 → a ≠ b → (TJ9 a).2.1 ≠ (TJ9 b).2.1 := by decide +kernel
theorem tyJ9_ok : ∀ k, k < 0 → parseFieldDescriptor (TJ9 k).2.2.1 = some (tyJ9 k) := by decide +kernel
abbrev cJ9_abs_0f7a4 : ByteArray := prog_12_method_59_code
def yJ9_abs_0f7a4 : MethodName := ⟨RJ9, "abs", "(I)I"⟩
abbrev cJ9_max_7cf53 : ByteArray := prog_12_method_65_code
def yJ9_max_7cf53 : MethodName := ⟨RJ9, "max", "(II)I"⟩
abbrev cJ9_min_7cf53 : ByteArray := prog_12_method_69_code
def yJ9_min_7cf53 : MethodName := ⟨RJ9, "min", "(II)I"⟩
def RL : String := "MapDrawerLaw"
abbrev cL_law : ByteArray := code
def yL_law : MethodName := ⟨RL, "law", "([I)Z"⟩
abbrev vwCl : List vw_C := [(RX0, TX0, 5), (RX1, TX1, 1), (RX2, TX2, 5), (RX3, TX3, 15), (RX4, TX4, 4), (RX5, TX5, 9), (RX6, TX6, 2), (RX7, TX7, 2), (RX8, TX8, 6), (RX9, TX9, 35)]
end
section
theorem dX5_init_0 : decode cX5_init 0 = .ok (.aload_n 0, 1) := by decide +kernel
theorem dX5_init_1 : decode cX5_init 1 = .ok (.invokespecial 3, 3) := by decide +kernel
theorem dX5_init_4 : decode cX5_init 4 = .ok (.aload_n 0, 1) := by decide +kernel
theorem dX5_init_5 : decode cX5_init 5 = .ok (.bipush 24, 2) := by decide +kernel
theorem dX5_init_7 : decode cX5_init 7 = .ok (.newarray .int, 2) := by decide +kernel
theorem dX5_init_9 : decode cX5_init 9 = .ok (.putfield 9, 3) := by decide +kernel
theorem dX5_init_12 : decode cX5_init 12 = .ok (.aload_n 0, 1) := by decide +kernel
theorem dX5_init_13 : decode cX5_init 13 = .ok (.bipush 24, 2) := by decide +kernel
theorem dX5_init_15 : decode cX5_init 15 = .ok (.newarray .int, 2) := by decide +kernel
theorem dX5_init_17 : decode cX5_init 17 = .ok (.putfield 15, 3) := by decide +kernel
theorem dX5_init_20 : decode cX5_init 20 = .ok (.aload_n 0, 1) := by decide +kernel
theorem dX5_init_21 : decode cX5_init 21 = .ok (.bipush 24, 2) := by decide +kernel
theorem dX5_init_23 : decode cX5_init 23 = .ok (.newarray .int, 2) := by decide +kernel
theorem dX5_init_25 : decode cX5_init 25 = .ok (.putfield 18, 3) := by decide +kernel
theorem dX5_init_28 : decode cX5_init 28 = .ok (.aload_n 0, 1) := by decide +kernel
theorem dX5_init_29 : decode cX5_init 29 = .ok (.bipush 60, 2) := by decide +kernel
theorem dX5_init_31 : decode cX5_init 31 = .ok (.newarray .int, 2) := by decide +kernel
theorem dX5_init_33 : decode cX5_init 33 = .ok (.putfield 21, 3) := by decide +kernel
theorem dX5_init_36 : decode cX5_init 36 = .ok (.aload_n 0, 1) := by decide +kernel
theorem dX5_init_37 : decode cX5_init 37 = .ok (.bipush 60, 2) := by decide +kernel
theorem dX5_init_39 : decode cX5_init 39 = .ok (.newarray .int, 2) := by decide +kernel
theorem dX5_init_41 : decode cX5_init 41 = .ok (.putfield 24, 3) := by decide +kernel
theorem dX5_init_44 : decode cX5_init 44 = .ok (.aload_n 0, 1) := by decide +kernel
theorem dX5_init_45 : decode cX5_init 45 = .ok (.bipush 60, 2) := by decide +kernel
theorem dX5_init_47 : decode cX5_init 47 = .ok (.newarray .int, 2) := by decide +kernel
theorem dX5_init_49 : decode cX5_init 49 = .ok (.putfield 27, 3) := by decide +kernel
theorem dX5_init_52 : decode cX5_init 52 = .ok (.aload_n 0, 1) := by decide +kernel
theorem dX5_init_53 : decode cX5_init 53 = .ok (.bipush 60, 2) := by decide +kernel
theorem dX5_init_55 : decode cX5_init 55 = .ok (.newarray .boolean, 2) := by decide +kernel
theorem dX5_init_57 : decode cX5_init 57 = .ok (.putfield 30, 3) := by decide +kernel
theorem dX5_init_60 : decode cX5_init 60 = .ok (.return_, 1) := by decide +kernel
theorem dX5_isRoom_0 : decode cX5_isRoom 0 = .ok (.iload_n 1, 1) := by decide +kernel
theorem dX5_isRoom_1 : decode cX5_isRoom 1 = .ok (.ifCond .lt 15, 3) := by decide +kernel
theorem dX5_isRoom_4 : decode cX5_isRoom 4 = .ok (.iload_n 1, 1) := by decide +kernel
theorem dX5_isRoom_5 : decode cX5_isRoom 5 = .ok (.aload_n 0, 1) := by decide +kernel
theorem dX5_isRoom_6 : decode cX5_isRoom 6 = .ok (.getfield 34, 3) := by decide +kernel
theorem dX5_isRoom_9 : decode cX5_isRoom 9 = .ok (.if_icmp .ge 7, 3) := by decide +kernel
theorem dX5_isRoom_12 : decode cX5_isRoom 12 = .ok (.iconst 1, 1) := by decide +kernel
theorem dX5_isRoom_13 : decode cX5_isRoom 13 = .ok (.goto 4, 3) := by decide +kernel
theorem dX5_isRoom_16 : decode cX5_isRoom 16 = .ok (.iconst 0, 1) := by decide +kernel
theorem dX5_isRoom_17 : decode cX5_isRoom 17 = .ok (.ireturn, 1) := by decide +kernel
theorem dX5_isLink_0 : decode cX5_isLink 0 = .ok (.iload_n 1, 1) := by decide +kernel
theorem dX5_isLink_1 : decode cX5_isLink 1 = .ok (.ifCond .lt 15, 3) := by decide +kernel
theorem dX5_isLink_4 : decode cX5_isLink 4 = .ok (.iload_n 1, 1) := by decide +kernel
theorem dX5_isLink_5 : decode cX5_isLink 5 = .ok (.aload_n 0, 1) := by decide +kernel
theorem dX5_isLink_6 : decode cX5_isLink 6 = .ok (.getfield 38, 3) := by decide +kernel
theorem dX5_isLink_9 : decode cX5_isLink 9 = .ok (.if_icmp .ge 7, 3) := by decide +kernel
theorem dX5_isLink_12 : decode cX5_isLink 12 = .ok (.iconst 1, 1) := by decide +kernel
theorem dX5_isLink_13 : decode cX5_isLink 13 = .ok (.goto 4, 3) := by decide +kernel
theorem dX5_isLink_16 : decode cX5_isLink 16 = .ok (.iconst 0, 1) := by decide +kernel
theorem dX5_isLink_17 : decode cX5_isLink 17 = .ok (.ireturn, 1) := by decide +kernel
theorem dX5_isFullOfRooms_0 : decode cX5_isFullOfRooms 0 = .ok (.aload_n 0, 1) := by decide +kernel
theorem dX5_isFullOfRooms_1 : decode cX5_isFullOfRooms 1 = .ok (.getfield 34, 3) := by decide +kernel
theorem dX5_isFullOfRooms_4 : decode cX5_isFullOfRooms 4 = .ok (.bipush 24, 2) := by decide +kernel
theorem dX5_isFullOfRooms_6 : decode cX5_isFullOfRooms 6 = .ok (.if_icmp .lt 7, 3) := by decide +kernel
theorem dX5_isFullOfRooms_9 : decode cX5_isFullOfRooms 9 = .ok (.iconst 1, 1) := by decide +kernel
theorem dX5_isFullOfRooms_10 : decode cX5_isFullOfRooms 10 = .ok (.goto 4, 3) := by decide +kernel
theorem dX5_isFullOfRooms_13 : decode cX5_isFullOfRooms 13 = .ok (.iconst 0, 1) := by decide +kernel
theorem dX5_isFullOfRooms_14 : decode cX5_isFullOfRooms 14 = .ok (.ireturn, 1) := by decide +kernel
theorem dX5_isFullOfLinks_0 : decode cX5_isFullOfLinks 0 = .ok (.aload_n 0, 1) := by decide +kernel
theorem dX5_isFullOfLinks_1 : decode cX5_isFullOfLinks 1 = .ok (.getfield 38, 3) := by decide +kernel
theorem dX5_isFullOfLinks_4 : decode cX5_isFullOfLinks 4 = .ok (.bipush 60, 2) := by decide +kernel
theorem dX5_isFullOfLinks_6 : decode cX5_isFullOfLinks 6 = .ok (.if_icmp .lt 7, 3) := by decide +kernel
theorem dX5_isFullOfLinks_9 : decode cX5_isFullOfLinks 9 = .ok (.iconst 1, 1) := by decide +kernel
theorem dX5_isFullOfLinks_10 : decode cX5_isFullOfLinks 10 = .ok (.goto 4, 3) := by decide +kernel
theorem dX5_isFullOfLinks_13 : decode cX5_isFullOfLinks 13 = .ok (.iconst 0, 1) := by decide +kernel
theorem dX5_isFullOfLinks_14 : decode cX5_isFullOfLinks 14 = .ok (.ireturn, 1) := by decide +kernel
theorem dX5_addRoom_0 : decode cX5_addRoom 0 = .ok (.aload_n 0, 1) := by decide +kernel
theorem dX5_addRoom_1 : decode cX5_addRoom 1 = .ok (.invokevirtual 41, 3) := by decide +kernel
theorem dX5_addRoom_4 : decode cX5_addRoom 4 = .ok (.ifCond .eq 6, 3) := by decide +kernel
theorem dX5_addRoom_7 : decode cX5_addRoom 7 = .ok (.bipush (-4), 2) := by decide +kernel
theorem dX5_addRoom_9 : decode cX5_addRoom 9 = .ok (.ireturn, 1) := by decide +kernel
theorem dX5_addRoom_10 : decode cX5_addRoom 10 = .ok (.aload_n 0, 1) := by decide +kernel
theorem dX5_addRoom_11 : decode cX5_addRoom 11 = .ok (.getfield 9, 3) := by decide +kernel
theorem dX5_addRoom_14 : decode cX5_addRoom 14 = .ok (.aload_n 0, 1) := by decide +kernel
theorem dX5_addRoom_15 : decode cX5_addRoom 15 = .ok (.getfield 34, 3) := by decide +kernel
theorem dX5_addRoom_18 : decode cX5_addRoom 18 = .ok (.iload_n 1, 1) := by decide +kernel
theorem dX5_addRoom_19 : decode cX5_addRoom 19 = .ok (.iastore, 1) := by decide +kernel
theorem dX5_addRoom_20 : decode cX5_addRoom 20 = .ok (.aload_n 0, 1) := by decide +kernel
theorem dX5_addRoom_21 : decode cX5_addRoom 21 = .ok (.getfield 15, 3) := by decide +kernel
theorem dX5_addRoom_24 : decode cX5_addRoom 24 = .ok (.aload_n 0, 1) := by decide +kernel
theorem dX5_addRoom_25 : decode cX5_addRoom 25 = .ok (.getfield 34, 3) := by decide +kernel
theorem dX5_addRoom_28 : decode cX5_addRoom 28 = .ok (.iload_n 2, 1) := by decide +kernel
theorem dX5_addRoom_29 : decode cX5_addRoom 29 = .ok (.iastore, 1) := by decide +kernel
theorem dX5_addRoom_30 : decode cX5_addRoom 30 = .ok (.aload_n 0, 1) := by decide +kernel
theorem dX5_addRoom_31 : decode cX5_addRoom 31 = .ok (.getfield 18, 3) := by decide +kernel
theorem dX5_addRoom_34 : decode cX5_addRoom 34 = .ok (.aload_n 0, 1) := by decide +kernel
theorem dX5_addRoom_35 : decode cX5_addRoom 35 = .ok (.getfield 34, 3) := by decide +kernel
theorem dX5_addRoom_38 : decode cX5_addRoom 38 = .ok (.bipush (-2), 2) := by decide +kernel
theorem dX5_addRoom_40 : decode cX5_addRoom 40 = .ok (.iastore, 1) := by decide +kernel
theorem dX5_addRoom_41 : decode cX5_addRoom 41 = .ok (.aload_n 0, 1) := by decide +kernel
theorem dX5_addRoom_42 : decode cX5_addRoom 42 = .ok (.dup, 1) := by decide +kernel
theorem dX5_addRoom_43 : decode cX5_addRoom 43 = .ok (.getfield 34, 3) := by decide +kernel
theorem dX5_addRoom_46 : decode cX5_addRoom 46 = .ok (.dup_x1, 1) := by decide +kernel
theorem dX5_addRoom_47 : decode cX5_addRoom 47 = .ok (.iconst 1, 1) := by decide +kernel
theorem dX5_addRoom_48 : decode cX5_addRoom 48 = .ok (.iadd, 1) := by decide +kernel
theorem dX5_addRoom_49 : decode cX5_addRoom 49 = .ok (.putfield 34, 3) := by decide +kernel
theorem dX5_addRoom_52 : decode cX5_addRoom 52 = .ok (.ireturn, 1) := by decide +kernel
theorem dX5_addLink_0 : decode cX5_addLink 0 = .ok (.aload_n 0, 1) := by decide +kernel
theorem dX5_addLink_1 : decode cX5_addLink 1 = .ok (.invokevirtual 45, 3) := by decide +kernel
theorem dX5_addLink_4 : decode cX5_addLink 4 = .ok (.ifCond .eq 6, 3) := by decide +kernel
theorem dX5_addLink_7 : decode cX5_addLink 7 = .ok (.bipush (-4), 2) := by decide +kernel
theorem dX5_addLink_9 : decode cX5_addLink 9 = .ok (.ireturn, 1) := by decide +kernel
theorem dX5_addLink_10 : decode cX5_addLink 10 = .ok (.aload_n 0, 1) := by decide +kernel
theorem dX5_addLink_11 : decode cX5_addLink 11 = .ok (.getfield 21, 3) := by decide +kernel
theorem dX5_addLink_14 : decode cX5_addLink 14 = .ok (.aload_n 0, 1) := by decide +kernel
theorem dX5_addLink_15 : decode cX5_addLink 15 = .ok (.getfield 38, 3) := by decide +kernel
theorem dX5_addLink_18 : decode cX5_addLink 18 = .ok (.iload_n 1, 1) := by decide +kernel
theorem dX5_addLink_19 : decode cX5_addLink 19 = .ok (.iastore, 1) := by decide +kernel
theorem dX5_addLink_20 : decode cX5_addLink 20 = .ok (.aload_n 0, 1) := by decide +kernel
theorem dX5_addLink_21 : decode cX5_addLink 21 = .ok (.getfield 24, 3) := by decide +kernel
theorem dX5_addLink_24 : decode cX5_addLink 24 = .ok (.aload_n 0, 1) := by decide +kernel
theorem dX5_addLink_25 : decode cX5_addLink 25 = .ok (.getfield 38, 3) := by decide +kernel
theorem dX5_addLink_28 : decode cX5_addLink 28 = .ok (.iload_n 2, 1) := by decide +kernel
theorem dX5_addLink_29 : decode cX5_addLink 29 = .ok (.iastore, 1) := by decide +kernel
theorem dX5_addLink_30 : decode cX5_addLink 30 = .ok (.aload_n 0, 1) := by decide +kernel
theorem dX5_addLink_31 : decode cX5_addLink 31 = .ok (.getfield 27, 3) := by decide +kernel
theorem dX5_addLink_34 : decode cX5_addLink 34 = .ok (.aload_n 0, 1) := by decide +kernel
theorem dX5_addLink_35 : decode cX5_addLink 35 = .ok (.getfield 38, 3) := by decide +kernel
theorem dX5_addLink_38 : decode cX5_addLink 38 = .ok (.iload_n 3, 1) := by decide +kernel
theorem dX5_addLink_39 : decode cX5_addLink 39 = .ok (.iastore, 1) := by decide +kernel
theorem dX5_addLink_40 : decode cX5_addLink 40 = .ok (.aload_n 0, 1) := by decide +kernel
theorem dX5_addLink_41 : decode cX5_addLink 41 = .ok (.getfield 30, 3) := by decide +kernel
theorem dX5_addLink_44 : decode cX5_addLink 44 = .ok (.aload_n 0, 1) := by decide +kernel
theorem dX5_addLink_45 : decode cX5_addLink 45 = .ok (.getfield 38, 3) := by decide +kernel
theorem dX5_addLink_48 : decode cX5_addLink 48 = .ok (.iload 4, 2) := by decide +kernel
theorem dX5_addLink_50 : decode cX5_addLink 50 = .ok (.bastore, 1) := by decide +kernel
theorem dX5_addLink_51 : decode cX5_addLink 51 = .ok (.aload_n 0, 1) := by decide +kernel
theorem dX5_addLink_52 : decode cX5_addLink 52 = .ok (.dup, 1) := by decide +kernel
theorem dX5_addLink_53 : decode cX5_addLink 53 = .ok (.getfield 38, 3) := by decide +kernel
theorem dX5_addLink_56 : decode cX5_addLink 56 = .ok (.dup_x1, 1) := by decide +kernel
theorem dX5_addLink_57 : decode cX5_addLink 57 = .ok (.iconst 1, 1) := by decide +kernel
theorem dX5_addLink_58 : decode cX5_addLink 58 = .ok (.iadd, 1) := by decide +kernel
theorem dX5_addLink_59 : decode cX5_addLink 59 = .ok (.putfield 38, 3) := by decide +kernel
theorem dX5_addLink_62 : decode cX5_addLink 62 = .ok (.ireturn, 1) := by decide +kernel
theorem dX5_removeLink_0 : decode cX5_removeLink 0 = .ok (.iload_n 1, 1) := by decide +kernel
theorem dX5_removeLink_1 : decode cX5_removeLink 1 = .ok (.istore_n 2, 1) := by decide +kernel
theorem dX5_removeLink_2 : decode cX5_removeLink 2 = .ok (.iload_n 2, 1) := by decide +kernel
theorem dX5_removeLink_3 : decode cX5_removeLink 3 = .ok (.iconst 1, 1) := by decide +kernel
theorem dX5_removeLink_4 : decode cX5_removeLink 4 = .ok (.iadd, 1) := by decide +kernel
theorem dX5_removeLink_5 : decode cX5_removeLink 5 = .ok (.aload_n 0, 1) := by decide +kernel
theorem dX5_removeLink_6 : decode cX5_removeLink 6 = .ok (.getfield 38, 3) := by decide +kernel
theorem dX5_removeLink_9 : decode cX5_removeLink 9 = .ok (.if_icmp .ge 65, 3) := by decide +kernel
theorem dX5_removeLink_12 : decode cX5_removeLink 12 = .ok (.aload_n 0, 1) := by decide +kernel
theorem dX5_removeLink_13 : decode cX5_removeLink 13 = .ok (.getfield 21, 3) := by decide +kernel
theorem dX5_removeLink_16 : decode cX5_removeLink 16 = .ok (.iload_n 2, 1) := by decide +kernel
theorem dX5_removeLink_17 : decode cX5_removeLink 17 = .ok (.aload_n 0, 1) := by decide +kernel
theorem dX5_removeLink_18 : decode cX5_removeLink 18 = .ok (.getfield 21, 3) := by decide +kernel
theorem dX5_removeLink_21 : decode cX5_removeLink 21 = .ok (.iload_n 2, 1) := by decide +kernel
theorem dX5_removeLink_22 : decode cX5_removeLink 22 = .ok (.iconst 1, 1) := by decide +kernel
theorem dX5_removeLink_23 : decode cX5_removeLink 23 = .ok (.iadd, 1) := by decide +kernel
theorem dX5_removeLink_24 : decode cX5_removeLink 24 = .ok (.iaload, 1) := by decide +kernel
theorem dX5_removeLink_25 : decode cX5_removeLink 25 = .ok (.iastore, 1) := by decide +kernel
theorem dX5_removeLink_26 : decode cX5_removeLink 26 = .ok (.aload_n 0, 1) := by decide +kernel
theorem dX5_removeLink_27 : decode cX5_removeLink 27 = .ok (.getfield 24, 3) := by decide +kernel
theorem dX5_removeLink_30 : decode cX5_removeLink 30 = .ok (.iload_n 2, 1) := by decide +kernel
theorem dX5_removeLink_31 : decode cX5_removeLink 31 = .ok (.aload_n 0, 1) := by decide +kernel
theorem dX5_removeLink_32 : decode cX5_removeLink 32 = .ok (.getfield 24, 3) := by decide +kernel
theorem dX5_removeLink_35 : decode cX5_removeLink 35 = .ok (.iload_n 2, 1) := by decide +kernel
theorem dX5_removeLink_36 : decode cX5_removeLink 36 = .ok (.iconst 1, 1) := by decide +kernel
theorem dX5_removeLink_37 : decode cX5_removeLink 37 = .ok (.iadd, 1) := by decide +kernel
theorem dX5_removeLink_38 : decode cX5_removeLink 38 = .ok (.iaload, 1) := by decide +kernel
theorem dX5_removeLink_39 : decode cX5_removeLink 39 = .ok (.iastore, 1) := by decide +kernel
theorem dX5_removeLink_40 : decode cX5_removeLink 40 = .ok (.aload_n 0, 1) := by decide +kernel
theorem dX5_removeLink_41 : decode cX5_removeLink 41 = .ok (.getfield 27, 3) := by decide +kernel
theorem dX5_removeLink_44 : decode cX5_removeLink 44 = .ok (.iload_n 2, 1) := by decide +kernel
theorem dX5_removeLink_45 : decode cX5_removeLink 45 = .ok (.aload_n 0, 1) := by decide +kernel
theorem dX5_removeLink_46 : decode cX5_removeLink 46 = .ok (.getfield 27, 3) := by decide +kernel
theorem dX5_removeLink_49 : decode cX5_removeLink 49 = .ok (.iload_n 2, 1) := by decide +kernel
theorem dX5_removeLink_50 : decode cX5_removeLink 50 = .ok (.iconst 1, 1) := by decide +kernel
theorem dX5_removeLink_51 : decode cX5_removeLink 51 = .ok (.iadd, 1) := by decide +kernel
theorem dX5_removeLink_52 : decode cX5_removeLink 52 = .ok (.iaload, 1) := by decide +kernel
theorem dX5_removeLink_53 : decode cX5_removeLink 53 = .ok (.iastore, 1) := by decide +kernel
theorem dX5_removeLink_54 : decode cX5_removeLink 54 = .ok (.aload_n 0, 1) := by decide +kernel
theorem dX5_removeLink_55 : decode cX5_removeLink 55 = .ok (.getfield 30, 3) := by decide +kernel
theorem dX5_removeLink_58 : decode cX5_removeLink 58 = .ok (.iload_n 2, 1) := by decide +kernel
theorem dX5_removeLink_59 : decode cX5_removeLink 59 = .ok (.aload_n 0, 1) := by decide +kernel
theorem dX5_removeLink_60 : decode cX5_removeLink 60 = .ok (.getfield 30, 3) := by decide +kernel
theorem dX5_removeLink_63 : decode cX5_removeLink 63 = .ok (.iload_n 2, 1) := by decide +kernel
theorem dX5_removeLink_64 : decode cX5_removeLink 64 = .ok (.iconst 1, 1) := by decide +kernel
theorem dX5_removeLink_65 : decode cX5_removeLink 65 = .ok (.iadd, 1) := by decide +kernel
theorem dX5_removeLink_66 : decode cX5_removeLink 66 = .ok (.baload, 1) := by decide +kernel
theorem dX5_removeLink_67 : decode cX5_removeLink 67 = .ok (.bastore, 1) := by decide +kernel
theorem dX5_removeLink_68 : decode cX5_removeLink 68 = .ok (.iinc 2 1, 3) := by decide +kernel
theorem dX5_removeLink_71 : decode cX5_removeLink 71 = .ok (.goto (-69), 3) := by decide +kernel
theorem dX5_removeLink_74 : decode cX5_removeLink 74 = .ok (.aload_n 0, 1) := by decide +kernel
theorem dX5_removeLink_75 : decode cX5_removeLink 75 = .ok (.dup, 1) := by decide +kernel
theorem dX5_removeLink_76 : decode cX5_removeLink 76 = .ok (.getfield 38, 3) := by decide +kernel
theorem dX5_removeLink_79 : decode cX5_removeLink 79 = .ok (.iconst 1, 1) := by decide +kernel
theorem dX5_removeLink_80 : decode cX5_removeLink 80 = .ok (.isub, 1) := by decide +kernel
theorem dX5_removeLink_81 : decode cX5_removeLink 81 = .ok (.putfield 38, 3) := by decide +kernel
theorem dX5_removeLink_84 : decode cX5_removeLink 84 = .ok (.return_, 1) := by decide +kernel
theorem dX5_isLoop_0 : decode cX5_isLoop 0 = .ok (.aload_n 0, 1) := by decide +kernel
theorem dX5_isLoop_1 : decode cX5_isLoop 1 = .ok (.getfield 21, 3) := by decide +kernel
theorem dX5_isLoop_4 : decode cX5_isLoop 4 = .ok (.iload_n 1, 1) := by decide +kernel
theorem dX5_isLoop_5 : decode cX5_isLoop 5 = .ok (.iaload, 1) := by decide +kernel
theorem dX5_isLoop_6 : decode cX5_isLoop 6 = .ok (.aload_n 0, 1) := by decide +kernel
theorem dX5_isLoop_7 : decode cX5_isLoop 7 = .ok (.getfield 27, 3) := by decide +kernel
theorem dX5_isLoop_10 : decode cX5_isLoop 10 = .ok (.iload_n 1, 1) := by decide +kernel
theorem dX5_isLoop_11 : decode cX5_isLoop 11 = .ok (.iaload, 1) := by decide +kernel
theorem dX5_isLoop_12 : decode cX5_isLoop 12 = .ok (.if_icmp .ne 7, 3) := by decide +kernel
theorem dX5_isLoop_15 : decode cX5_isLoop 15 = .ok (.iconst 1, 1) := by decide +kernel
theorem dX5_isLoop_16 : decode cX5_isLoop 16 = .ok (.goto 4, 3) := by decide +kernel
theorem dX5_isLoop_19 : decode cX5_isLoop 19 = .ok (.iconst 0, 1) := by decide +kernel
theorem dX5_isLoop_20 : decode cX5_isLoop 20 = .ok (.ireturn, 1) := by decide +kernel
theorem dX5_leading_0 : decode cX5_leading 0 = .ok (.iconst 0, 1) := by decide +kernel
theorem dX5_leading_1 : decode cX5_leading 1 = .ok (.istore_n 3, 1) := by decide +kernel
theorem dX5_leading_2 : decode cX5_leading 2 = .ok (.iload_n 3, 1) := by decide +kernel
theorem dX5_leading_3 : decode cX5_leading 3 = .ok (.aload_n 0, 1) := by decide +kernel
theorem dX5_leading_4 : decode cX5_leading 4 = .ok (.getfield 38, 3) := by decide +kernel
theorem dX5_leading_7 : decode cX5_leading 7 = .ok (.if_icmp .ge 31, 3) := by decide +kernel
theorem dX5_leading_10 : decode cX5_leading 10 = .ok (.aload_n 0, 1) := by decide +kernel
theorem dX5_leading_11 : decode cX5_leading 11 = .ok (.iload_n 3, 1) := by decide +kernel
theorem dX5_leading_12 : decode cX5_leading 12 = .ok (.iload_n 1, 1) := by decide +kernel
theorem dX5_leading_13 : decode cX5_leading 13 = .ok (.iload_n 2, 1) := by decide +kernel
theorem dX5_leading_14 : decode cX5_leading 14 = .ok (.invokevirtual 48, 3) := by decide +kernel
theorem dX5_leading_17 : decode cX5_leading 17 = .ok (.ifCond .ne 13, 3) := by decide +kernel
theorem dX5_leading_20 : decode cX5_leading 20 = .ok (.aload_n 0, 1) := by decide +kernel
theorem dX5_leading_21 : decode cX5_leading 21 = .ok (.iload_n 3, 1) := by decide +kernel
theorem dX5_leading_22 : decode cX5_leading 22 = .ok (.iload_n 1, 1) := by decide +kernel
theorem dX5_leading_23 : decode cX5_leading 23 = .ok (.iload_n 2, 1) := by decide +kernel
theorem dX5_leading_24 : decode cX5_leading 24 = .ok (.invokevirtual 52, 3) := by decide +kernel
theorem dX5_leading_27 : decode cX5_leading 27 = .ok (.ifCond .eq 5, 3) := by decide +kernel
theorem dX5_leading_30 : decode cX5_leading 30 = .ok (.iload_n 3, 1) := by decide +kernel
theorem dX5_leading_31 : decode cX5_leading 31 = .ok (.ireturn, 1) := by decide +kernel
theorem dX5_leading_32 : decode cX5_leading 32 = .ok (.iinc 3 1, 3) := by decide +kernel
theorem dX5_leading_35 : decode cX5_leading 35 = .ok (.goto (-33), 3) := by decide +kernel
theorem dX5_leading_38 : decode cX5_leading 38 = .ok (.bipush (-2), 2) := by decide +kernel
theorem dX5_leading_40 : decode cX5_leading 40 = .ok (.ireturn, 1) := by decide +kernel
theorem dX5_beyond_0 : decode cX5_beyond 0 = .ok (.aload_n 0, 1) := by decide +kernel
theorem dX5_beyond_1 : decode cX5_beyond 1 = .ok (.iload_n 1, 1) := by decide +kernel
theorem dX5_beyond_2 : decode cX5_beyond 2 = .ok (.iload_n 2, 1) := by decide +kernel
theorem dX5_beyond_3 : decode cX5_beyond 3 = .ok (.invokevirtual 55, 3) := by decide +kernel
theorem dX5_beyond_6 : decode cX5_beyond 6 = .ok (.istore_n 3, 1) := by decide +kernel
theorem dX5_beyond_7 : decode cX5_beyond 7 = .ok (.iload_n 3, 1) := by decide +kernel
theorem dX5_beyond_8 : decode cX5_beyond 8 = .ok (.ifCond .ge 6, 3) := by decide +kernel
theorem dX5_beyond_11 : decode cX5_beyond 11 = .ok (.bipush (-2), 2) := by decide +kernel
theorem dX5_beyond_13 : decode cX5_beyond 13 = .ok (.ireturn, 1) := by decide +kernel
theorem dX5_beyond_14 : decode cX5_beyond 14 = .ok (.aload_n 0, 1) := by decide +kernel
theorem dX5_beyond_15 : decode cX5_beyond 15 = .ok (.iload_n 3, 1) := by decide +kernel
theorem dX5_beyond_16 : decode cX5_beyond 16 = .ok (.iload_n 1, 1) := by decide +kernel
theorem dX5_beyond_17 : decode cX5_beyond 17 = .ok (.iload_n 2, 1) := by decide +kernel
theorem dX5_beyond_18 : decode cX5_beyond 18 = .ok (.invokevirtual 48, 3) := by decide +kernel
theorem dX5_beyond_21 : decode cX5_beyond 21 = .ok (.ifCond .eq 12, 3) := by decide +kernel
theorem dX5_beyond_24 : decode cX5_beyond 24 = .ok (.aload_n 0, 1) := by decide +kernel
theorem dX5_beyond_25 : decode cX5_beyond 25 = .ok (.getfield 27, 3) := by decide +kernel
theorem dX5_beyond_28 : decode cX5_beyond 28 = .ok (.iload_n 3, 1) := by decide +kernel
theorem dX5_beyond_29 : decode cX5_beyond 29 = .ok (.iaload, 1) := by decide +kernel
theorem dX5_beyond_30 : decode cX5_beyond 30 = .ok (.goto 9, 3) := by decide +kernel
theorem dX5_beyond_33 : decode cX5_beyond 33 = .ok (.aload_n 0, 1) := by decide +kernel
theorem dX5_beyond_34 : decode cX5_beyond 34 = .ok (.getfield 21, 3) := by decide +kernel
theorem dX5_beyond_37 : decode cX5_beyond 37 = .ok (.iload_n 3, 1) := by decide +kernel
theorem dX5_beyond_38 : decode cX5_beyond 38 = .ok (.iaload, 1) := by decide +kernel
theorem dX5_beyond_39 : decode cX5_beyond 39 = .ok (.ireturn, 1) := by decide +kernel
theorem dX5_otherEnd_0 : decode cX5_otherEnd 0 = .ok (.aload_n 0, 1) := by decide +kernel
theorem dX5_otherEnd_1 : decode cX5_otherEnd 1 = .ok (.getfield 21, 3) := by decide +kernel
theorem dX5_otherEnd_4 : decode cX5_otherEnd 4 = .ok (.iload_n 1, 1) := by decide +kernel
theorem dX5_otherEnd_5 : decode cX5_otherEnd 5 = .ok (.iaload, 1) := by decide +kernel
theorem dX5_otherEnd_6 : decode cX5_otherEnd 6 = .ok (.iload_n 2, 1) := by decide +kernel
theorem dX5_otherEnd_7 : decode cX5_otherEnd 7 = .ok (.if_icmp .ne 12, 3) := by decide +kernel
theorem dX5_otherEnd_10 : decode cX5_otherEnd 10 = .ok (.aload_n 0, 1) := by decide +kernel
theorem dX5_otherEnd_11 : decode cX5_otherEnd 11 = .ok (.getfield 27, 3) := by decide +kernel
theorem dX5_otherEnd_14 : decode cX5_otherEnd 14 = .ok (.iload_n 1, 1) := by decide +kernel
theorem dX5_otherEnd_15 : decode cX5_otherEnd 15 = .ok (.iaload, 1) := by decide +kernel
theorem dX5_otherEnd_16 : decode cX5_otherEnd 16 = .ok (.goto 9, 3) := by decide +kernel
theorem dX5_otherEnd_19 : decode cX5_otherEnd 19 = .ok (.aload_n 0, 1) := by decide +kernel
theorem dX5_otherEnd_20 : decode cX5_otherEnd 20 = .ok (.getfield 21, 3) := by decide +kernel
theorem dX5_otherEnd_23 : decode cX5_otherEnd 23 = .ok (.iload_n 1, 1) := by decide +kernel
theorem dX5_otherEnd_24 : decode cX5_otherEnd 24 = .ok (.iaload, 1) := by decide +kernel
theorem dX5_otherEnd_25 : decode cX5_otherEnd 25 = .ok (.ireturn, 1) := by decide +kernel
theorem dX5_firstNotToldApart_0 : decode cX5_firstNotToldApart 0 = .ok (.iconst 0, 1) := by decide +kernel
theorem dX5_firstNotToldApart_1 : decode cX5_firstNotToldApart 1 = .ok (.istore_n 2, 1) := by decide +kernel
theorem dX5_firstNotToldApart_2 : decode cX5_firstNotToldApart 2 = .ok (.iconst 0, 1) := by decide +kernel
theorem dX5_firstNotToldApart_3 : decode cX5_firstNotToldApart 3 = .ok (.istore_n 3, 1) := by decide +kernel
theorem dX5_firstNotToldApart_4 : decode cX5_firstNotToldApart 4 = .ok (.iload_n 3, 1) := by decide +kernel
theorem dX5_firstNotToldApart_5 : decode cX5_firstNotToldApart 5 = .ok (.aload_n 0, 1) := by decide +kernel
theorem dX5_firstNotToldApart_6 : decode cX5_firstNotToldApart 6 = .ok (.getfield 34, 3) := by decide +kernel
theorem dX5_firstNotToldApart_9 : decode cX5_firstNotToldApart 9 = .ok (.if_icmp .ge 57, 3) := by decide +kernel
theorem dX5_firstNotToldApart_12 : decode cX5_firstNotToldApart 12 = .ok (.aload_n 0, 1) := by decide +kernel
theorem dX5_firstNotToldApart_13 : decode cX5_firstNotToldApart 13 = .ok (.getfield 15, 3) := by decide +kernel
theorem dX5_firstNotToldApart_16 : decode cX5_firstNotToldApart 16 = .ok (.iload_n 3, 1) := by decide +kernel
theorem dX5_firstNotToldApart_17 : decode cX5_firstNotToldApart 17 = .ok (.iaload, 1) := by decide +kernel
theorem dX5_firstNotToldApart_18 : decode cX5_firstNotToldApart 18 = .ok (.iload_n 1, 1) := by decide +kernel
theorem dX5_firstNotToldApart_19 : decode cX5_firstNotToldApart 19 = .ok (.if_icmp .ne 41, 3) := by decide +kernel
theorem dX5_firstNotToldApart_22 : decode cX5_firstNotToldApart 22 = .ok (.aload_n 0, 1) := by decide +kernel
theorem dX5_firstNotToldApart_23 : decode cX5_firstNotToldApart 23 = .ok (.getfield 18, 3) := by decide +kernel
theorem dX5_firstNotToldApart_26 : decode cX5_firstNotToldApart 26 = .ok (.iload_n 3, 1) := by decide +kernel
theorem dX5_firstNotToldApart_27 : decode cX5_firstNotToldApart 27 = .ok (.iaload, 1) := by decide +kernel
theorem dX5_firstNotToldApart_28 : decode cX5_firstNotToldApart 28 = .ok (.bipush (-2), 2) := by decide +kernel
theorem dX5_firstNotToldApart_30 : decode cX5_firstNotToldApart 30 = .ok (.if_icmp .eq 17, 3) := by decide +kernel
theorem dX5_firstNotToldApart_33 : decode cX5_firstNotToldApart 33 = .ok (.iload_n 2, 1) := by decide +kernel
theorem dX5_firstNotToldApart_34 : decode cX5_firstNotToldApart 34 = .ok (.aload_n 0, 1) := by decide +kernel
theorem dX5_firstNotToldApart_35 : decode cX5_firstNotToldApart 35 = .ok (.getfield 18, 3) := by decide +kernel
theorem dX5_firstNotToldApart_38 : decode cX5_firstNotToldApart 38 = .ok (.iload_n 3, 1) := by decide +kernel
theorem dX5_firstNotToldApart_39 : decode cX5_firstNotToldApart 39 = .ok (.iaload, 1) := by decide +kernel
theorem dX5_firstNotToldApart_40 : decode cX5_firstNotToldApart 40 = .ok (.ishr, 1) := by decide +kernel
theorem dX5_firstNotToldApart_41 : decode cX5_firstNotToldApart 41 = .ok (.iconst 1, 1) := by decide +kernel
theorem dX5_firstNotToldApart_42 : decode cX5_firstNotToldApart 42 = .ok (.iand, 1) := by decide +kernel
theorem dX5_firstNotToldApart_43 : decode cX5_firstNotToldApart 43 = .ok (.iconst 1, 1) := by decide +kernel
theorem dX5_firstNotToldApart_44 : decode cX5_firstNotToldApart 44 = .ok (.if_icmp .ne 5, 3) := by decide +kernel
theorem dX5_firstNotToldApart_47 : decode cX5_firstNotToldApart 47 = .ok (.iload_n 3, 1) := by decide +kernel
theorem dX5_firstNotToldApart_48 : decode cX5_firstNotToldApart 48 = .ok (.ireturn, 1) := by decide +kernel
theorem dX5_firstNotToldApart_49 : decode cX5_firstNotToldApart 49 = .ok (.iload_n 2, 1) := by decide +kernel
theorem dX5_firstNotToldApart_50 : decode cX5_firstNotToldApart 50 = .ok (.iconst 1, 1) := by decide +kernel
theorem dX5_firstNotToldApart_51 : decode cX5_firstNotToldApart 51 = .ok (.aload_n 0, 1) := by decide +kernel
theorem dX5_firstNotToldApart_52 : decode cX5_firstNotToldApart 52 = .ok (.getfield 18, 3) := by decide +kernel
theorem dX5_firstNotToldApart_55 : decode cX5_firstNotToldApart 55 = .ok (.iload_n 3, 1) := by decide +kernel
theorem dX5_firstNotToldApart_56 : decode cX5_firstNotToldApart 56 = .ok (.iaload, 1) := by decide +kernel
theorem dX5_firstNotToldApart_57 : decode cX5_firstNotToldApart 57 = .ok (.ishl, 1) := by decide +kernel
theorem dX5_firstNotToldApart_58 : decode cX5_firstNotToldApart 58 = .ok (.ior, 1) := by decide +kernel
theorem dX5_firstNotToldApart_59 : decode cX5_firstNotToldApart 59 = .ok (.istore_n 2, 1) := by decide +kernel
theorem dX5_firstNotToldApart_60 : decode cX5_firstNotToldApart 60 = .ok (.iinc 3 1, 3) := by decide +kernel
theorem dX5_firstNotToldApart_63 : decode cX5_firstNotToldApart 63 = .ok (.goto (-59), 3) := by decide +kernel
theorem dX5_firstNotToldApart_66 : decode cX5_firstNotToldApart 66 = .ok (.bipush (-2), 2) := by decide +kernel
theorem dX5_firstNotToldApart_68 : decode cX5_firstNotToldApart 68 = .ok (.ireturn, 1) := by decide +kernel
theorem dX5_leadsForth_0 : decode cX5_leadsForth 0 = .ok (.aload_n 0, 1) := by decide +kernel
theorem dX5_leadsForth_1 : decode cX5_leadsForth 1 = .ok (.getfield 21, 3) := by decide +kernel
theorem dX5_leadsForth_4 : decode cX5_leadsForth 4 = .ok (.iload_n 1, 1) := by decide +kernel
theorem dX5_leadsForth_5 : decode cX5_leadsForth 5 = .ok (.iaload, 1) := by decide +kernel
theorem dX5_leadsForth_6 : decode cX5_leadsForth 6 = .ok (.iload_n 2, 1) := by decide +kernel
theorem dX5_leadsForth_7 : decode cX5_leadsForth 7 = .ok (.if_icmp .ne 17, 3) := by decide +kernel
theorem dX5_leadsForth_10 : decode cX5_leadsForth 10 = .ok (.aload_n 0, 1) := by decide +kernel
theorem dX5_leadsForth_11 : decode cX5_leadsForth 11 = .ok (.getfield 24, 3) := by decide +kernel
theorem dX5_leadsForth_14 : decode cX5_leadsForth 14 = .ok (.iload_n 1, 1) := by decide +kernel
theorem dX5_leadsForth_15 : decode cX5_leadsForth 15 = .ok (.iaload, 1) := by decide +kernel
theorem dX5_leadsForth_16 : decode cX5_leadsForth 16 = .ok (.iload_n 3, 1) := by decide +kernel
theorem dX5_leadsForth_17 : decode cX5_leadsForth 17 = .ok (.if_icmp .ne 7, 3) := by decide +kernel
theorem dX5_leadsForth_20 : decode cX5_leadsForth 20 = .ok (.iconst 1, 1) := by decide +kernel
theorem dX5_leadsForth_21 : decode cX5_leadsForth 21 = .ok (.goto 4, 3) := by decide +kernel
theorem dX5_leadsForth_24 : decode cX5_leadsForth 24 = .ok (.iconst 0, 1) := by decide +kernel
theorem dX5_leadsForth_25 : decode cX5_leadsForth 25 = .ok (.ireturn, 1) := by decide +kernel
theorem dX5_leadsBack_0 : decode cX5_leadsBack 0 = .ok (.aload_n 0, 1) := by decide +kernel
theorem dX5_leadsBack_1 : decode cX5_leadsBack 1 = .ok (.getfield 30, 3) := by decide +kernel
theorem dX5_leadsBack_4 : decode cX5_leadsBack 4 = .ok (.iload_n 1, 1) := by decide +kernel
theorem dX5_leadsBack_5 : decode cX5_leadsBack 5 = .ok (.baload, 1) := by decide +kernel
theorem dX5_leadsBack_6 : decode cX5_leadsBack 6 = .ok (.ifCond .eq 31, 3) := by decide +kernel
theorem dX5_leadsBack_9 : decode cX5_leadsBack 9 = .ok (.aload_n 0, 1) := by decide +kernel
theorem dX5_leadsBack_10 : decode cX5_leadsBack 10 = .ok (.getfield 27, 3) := by decide +kernel
theorem dX5_leadsBack_13 : decode cX5_leadsBack 13 = .ok (.iload_n 1, 1) := by decide +kernel
theorem dX5_leadsBack_14 : decode cX5_leadsBack 14 = .ok (.iaload, 1) := by decide +kernel
theorem dX5_leadsBack_15 : decode cX5_leadsBack 15 = .ok (.iload_n 2, 1) := by decide +kernel
theorem dX5_leadsBack_16 : decode cX5_leadsBack 16 = .ok (.if_icmp .ne 21, 3) := by decide +kernel
theorem dX5_leadsBack_19 : decode cX5_leadsBack 19 = .ok (.getstatic 59, 3) := by decide +kernel
theorem dX5_leadsBack_22 : decode cX5_leadsBack 22 = .ok (.aload_n 0, 1) := by decide +kernel
theorem dX5_leadsBack_23 : decode cX5_leadsBack 23 = .ok (.getfield 24, 3) := by decide +kernel
theorem dX5_leadsBack_26 : decode cX5_leadsBack 26 = .ok (.iload_n 1, 1) := by decide +kernel
theorem dX5_leadsBack_27 : decode cX5_leadsBack 27 = .ok (.iaload, 1) := by decide +kernel
theorem dX5_leadsBack_28 : decode cX5_leadsBack 28 = .ok (.iaload, 1) := by decide +kernel
theorem dX5_leadsBack_29 : decode cX5_leadsBack 29 = .ok (.iload_n 3, 1) := by decide +kernel
theorem dX5_leadsBack_30 : decode cX5_leadsBack 30 = .ok (.if_icmp .ne 7, 3) := by decide +kernel
theorem dX5_leadsBack_33 : decode cX5_leadsBack 33 = .ok (.iconst 1, 1) := by decide +kernel
theorem dX5_leadsBack_34 : decode cX5_leadsBack 34 = .ok (.goto 4, 3) := by decide +kernel
theorem dX5_leadsBack_37 : decode cX5_leadsBack 37 = .ok (.iconst 0, 1) := by decide +kernel
theorem dX5_leadsBack_38 : decode cX5_leadsBack 38 = .ok (.ireturn, 1) := by decide +kernel
theorem dX1_init_0 : decode cX1_init 0 = .ok (.aload_n 0, 1) := by decide +kernel
theorem dX1_init_1 : decode cX1_init 1 = .ok (.invokespecial 3, 3) := by decide +kernel
theorem dX1_init_4 : decode cX1_init 4 = .ok (.aload_n 0, 1) := by decide +kernel
theorem dX1_init_5 : decode cX1_init 5 = .ok (.bipush 24, 2) := by decide +kernel
theorem dX1_init_7 : decode cX1_init 7 = .ok (.newarray .int, 2) := by decide +kernel
theorem dX1_init_9 : decode cX1_init 9 = .ok (.putfield 9, 3) := by decide +kernel
theorem dX1_init_12 : decode cX1_init 12 = .ok (.return_, 1) := by decide +kernel
theorem dX1_find_0 : decode cX1_find 0 = .ok (.iconst 0, 1) := by decide +kernel
theorem dX1_find_1 : decode cX1_find 1 = .ok (.istore_n 2, 1) := by decide +kernel
theorem dX1_find_2 : decode cX1_find 2 = .ok (.iload_n 2, 1) := by decide +kernel
theorem dX1_find_3 : decode cX1_find 3 = .ok (.aload_n 1, 1) := by decide +kernel
theorem dX1_find_4 : decode cX1_find 4 = .ok (.getfield 15, 3) := by decide +kernel
theorem dX1_find_7 : decode cX1_find 7 = .ok (.if_icmp .ge 16, 3) := by decide +kernel
theorem dX1_find_10 : decode cX1_find 10 = .ok (.aload_n 0, 1) := by decide +kernel
theorem dX1_find_11 : decode cX1_find 11 = .ok (.getfield 9, 3) := by decide +kernel
theorem dX1_find_14 : decode cX1_find 14 = .ok (.iload_n 2, 1) := by decide +kernel
theorem dX1_find_15 : decode cX1_find 15 = .ok (.iload_n 2, 1) := by decide +kernel
theorem dX1_find_16 : decode cX1_find 16 = .ok (.iastore, 1) := by decide +kernel
theorem dX1_find_17 : decode cX1_find 17 = .ok (.iinc 2 1, 3) := by decide +kernel
theorem dX1_find_20 : decode cX1_find 20 = .ok (.goto (-18), 3) := by decide +kernel
theorem dX1_find_23 : decode cX1_find 23 = .ok (.iconst 1, 1) := by decide +kernel
theorem dX1_find_24 : decode cX1_find 24 = .ok (.istore_n 2, 1) := by decide +kernel
theorem dX1_find_25 : decode cX1_find 25 = .ok (.iconst 0, 1) := by decide +kernel
theorem dX1_find_26 : decode cX1_find 26 = .ok (.istore_n 3, 1) := by decide +kernel
theorem dX1_find_27 : decode cX1_find 27 = .ok (.iload_n 3, 1) := by decide +kernel
theorem dX1_find_28 : decode cX1_find 28 = .ok (.aload_n 1, 1) := by decide +kernel
theorem dX1_find_29 : decode cX1_find 29 = .ok (.getfield 15, 3) := by decide +kernel
theorem dX1_find_32 : decode cX1_find 32 = .ok (.if_icmp .ge 19, 3) := by decide +kernel
theorem dX1_find_35 : decode cX1_find 35 = .ok (.iload_n 2, 1) := by decide +kernel
theorem dX1_find_36 : decode cX1_find 36 = .ok (.ifCond .eq 15, 3) := by decide +kernel
theorem dX1_find_39 : decode cX1_find 39 = .ok (.aload_n 0, 1) := by decide +kernel
theorem dX1_find_40 : decode cX1_find 40 = .ok (.aload_n 1, 1) := by decide +kernel
theorem dX1_find_41 : decode cX1_find 41 = .ok (.invokevirtual 21, 3) := by decide +kernel
theorem dX1_find_44 : decode cX1_find 44 = .ok (.istore_n 2, 1) := by decide +kernel
theorem dX1_find_45 : decode cX1_find 45 = .ok (.iinc 3 1, 3) := by decide +kernel
theorem dX1_find_48 : decode cX1_find 48 = .ok (.goto (-21), 3) := by decide +kernel
theorem dX1_find_51 : decode cX1_find 51 = .ok (.aload_n 0, 1) := by decide +kernel
theorem dX1_find_52 : decode cX1_find 52 = .ok (.aload_n 1, 1) := by decide +kernel
theorem dX1_find_53 : decode cX1_find 53 = .ok (.getfield 15, 3) := by decide +kernel
theorem dX1_find_56 : decode cX1_find 56 = .ok (.invokevirtual 25, 3) := by decide +kernel
theorem dX1_find_59 : decode cX1_find 59 = .ok (.ireturn, 1) := by decide +kernel
theorem dX1_sinkToLeastRooms_0 : decode cX1_sinkToLeastRooms 0 = .ok (.iconst 0, 1) := by decide +kernel
theorem dX1_sinkToLeastRooms_1 : decode cX1_sinkToLeastRooms 1 = .ok (.istore_n 2, 1) := by decide +kernel
theorem dX1_sinkToLeastRooms_2 : decode cX1_sinkToLeastRooms 2 = .ok (.iconst 0, 1) := by decide +kernel
theorem dX1_sinkToLeastRooms_3 : decode cX1_sinkToLeastRooms 3 = .ok (.istore_n 3, 1) := by decide +kernel
theorem dX1_sinkToLeastRooms_4 : decode cX1_sinkToLeastRooms 4 = .ok (.iload_n 3, 1) := by decide +kernel
theorem dX1_sinkToLeastRooms_5 : decode cX1_sinkToLeastRooms 5 = .ok (.aload_n 1, 1) := by decide +kernel
theorem dX1_sinkToLeastRooms_6 : decode cX1_sinkToLeastRooms 6 = .ok (.getfield 29, 3) := by decide +kernel
theorem dX1_sinkToLeastRooms_9 : decode cX1_sinkToLeastRooms 9 = .ok (.if_icmp .ge 82, 3) := by decide +kernel
theorem dX1_sinkToLeastRooms_12 : decode cX1_sinkToLeastRooms 12 = .ok (.aload_n 1, 1) := by decide +kernel
theorem dX1_sinkToLeastRooms_13 : decode cX1_sinkToLeastRooms 13 = .ok (.getfield 32, 3) := by decide +kernel
theorem dX1_sinkToLeastRooms_16 : decode cX1_sinkToLeastRooms 16 = .ok (.iload_n 3, 1) := by decide +kernel
theorem dX1_sinkToLeastRooms_17 : decode cX1_sinkToLeastRooms 17 = .ok (.iaload, 1) := by decide +kernel
theorem dX1_sinkToLeastRooms_18 : decode cX1_sinkToLeastRooms 18 = .ok (.istore 4, 2) := by decide +kernel
theorem dX1_sinkToLeastRooms_20 : decode cX1_sinkToLeastRooms 20 = .ok (.aload_n 1, 1) := by decide +kernel
theorem dX1_sinkToLeastRooms_21 : decode cX1_sinkToLeastRooms 21 = .ok (.getfield 35, 3) := by decide +kernel
theorem dX1_sinkToLeastRooms_24 : decode cX1_sinkToLeastRooms 24 = .ok (.iload_n 3, 1) := by decide +kernel
theorem dX1_sinkToLeastRooms_25 : decode cX1_sinkToLeastRooms 25 = .ok (.iaload, 1) := by decide +kernel
theorem dX1_sinkToLeastRooms_26 : decode cX1_sinkToLeastRooms 26 = .ok (.istore 5, 2) := by decide +kernel
theorem dX1_sinkToLeastRooms_28 : decode cX1_sinkToLeastRooms 28 = .ok (.aload_n 0, 1) := by decide +kernel
theorem dX1_sinkToLeastRooms_29 : decode cX1_sinkToLeastRooms 29 = .ok (.getfield 9, 3) := by decide +kernel
theorem dX1_sinkToLeastRooms_32 : decode cX1_sinkToLeastRooms 32 = .ok (.iload 4, 2) := by decide +kernel
theorem dX1_sinkToLeastRooms_34 : decode cX1_sinkToLeastRooms 34 = .ok (.iaload, 1) := by decide +kernel
theorem dX1_sinkToLeastRooms_35 : decode cX1_sinkToLeastRooms 35 = .ok (.aload_n 0, 1) := by decide +kernel
theorem dX1_sinkToLeastRooms_36 : decode cX1_sinkToLeastRooms 36 = .ok (.getfield 9, 3) := by decide +kernel
theorem dX1_sinkToLeastRooms_39 : decode cX1_sinkToLeastRooms 39 = .ok (.iload 5, 2) := by decide +kernel
theorem dX1_sinkToLeastRooms_41 : decode cX1_sinkToLeastRooms 41 = .ok (.iaload, 1) := by decide +kernel
theorem dX1_sinkToLeastRooms_42 : decode cX1_sinkToLeastRooms 42 = .ok (.if_icmp .eq 43, 3) := by decide +kernel
theorem dX1_sinkToLeastRooms_45 : decode cX1_sinkToLeastRooms 45 = .ok (.aload_n 0, 1) := by decide +kernel
theorem dX1_sinkToLeastRooms_46 : decode cX1_sinkToLeastRooms 46 = .ok (.getfield 9, 3) := by decide +kernel
theorem dX1_sinkToLeastRooms_49 : decode cX1_sinkToLeastRooms 49 = .ok (.iload 4, 2) := by decide +kernel
theorem dX1_sinkToLeastRooms_51 : decode cX1_sinkToLeastRooms 51 = .ok (.aload_n 0, 1) := by decide +kernel
theorem dX1_sinkToLeastRooms_52 : decode cX1_sinkToLeastRooms 52 = .ok (.getfield 9, 3) := by decide +kernel
theorem dX1_sinkToLeastRooms_55 : decode cX1_sinkToLeastRooms 55 = .ok (.iload 4, 2) := by decide +kernel
theorem dX1_sinkToLeastRooms_57 : decode cX1_sinkToLeastRooms 57 = .ok (.iaload, 1) := by decide +kernel
theorem dX1_sinkToLeastRooms_58 : decode cX1_sinkToLeastRooms 58 = .ok (.aload_n 0, 1) := by decide +kernel
theorem dX1_sinkToLeastRooms_59 : decode cX1_sinkToLeastRooms 59 = .ok (.getfield 9, 3) := by decide +kernel
theorem dX1_sinkToLeastRooms_62 : decode cX1_sinkToLeastRooms 62 = .ok (.iload 5, 2) := by decide +kernel
theorem dX1_sinkToLeastRooms_64 : decode cX1_sinkToLeastRooms 64 = .ok (.iaload, 1) := by decide +kernel
theorem dX1_sinkToLeastRooms_65 : decode cX1_sinkToLeastRooms 65 = .ok (.invokestatic 38, 3) := by decide +kernel
theorem dX1_sinkToLeastRooms_68 : decode cX1_sinkToLeastRooms 68 = .ok (.iastore, 1) := by decide +kernel
theorem dX1_sinkToLeastRooms_69 : decode cX1_sinkToLeastRooms 69 = .ok (.aload_n 0, 1) := by decide +kernel
theorem dX1_sinkToLeastRooms_70 : decode cX1_sinkToLeastRooms 70 = .ok (.getfield 9, 3) := by decide +kernel
theorem dX1_sinkToLeastRooms_73 : decode cX1_sinkToLeastRooms 73 = .ok (.iload 5, 2) := by decide +kernel
theorem dX1_sinkToLeastRooms_75 : decode cX1_sinkToLeastRooms 75 = .ok (.aload_n 0, 1) := by decide +kernel
theorem dX1_sinkToLeastRooms_76 : decode cX1_sinkToLeastRooms 76 = .ok (.getfield 9, 3) := by decide +kernel
theorem dX1_sinkToLeastRooms_79 : decode cX1_sinkToLeastRooms 79 = .ok (.iload 4, 2) := by decide +kernel
theorem dX1_sinkToLeastRooms_81 : decode cX1_sinkToLeastRooms 81 = .ok (.iaload, 1) := by decide +kernel
theorem dX1_sinkToLeastRooms_82 : decode cX1_sinkToLeastRooms 82 = .ok (.iastore, 1) := by decide +kernel
theorem dX1_sinkToLeastRooms_83 : decode cX1_sinkToLeastRooms 83 = .ok (.iconst 1, 1) := by decide +kernel
theorem dX1_sinkToLeastRooms_84 : decode cX1_sinkToLeastRooms 84 = .ok (.istore_n 2, 1) := by decide +kernel
theorem dX1_sinkToLeastRooms_85 : decode cX1_sinkToLeastRooms 85 = .ok (.iinc 3 1, 3) := by decide +kernel
theorem dX1_sinkToLeastRooms_88 : decode cX1_sinkToLeastRooms 88 = .ok (.goto (-84), 3) := by decide +kernel
theorem dX1_sinkToLeastRooms_91 : decode cX1_sinkToLeastRooms 91 = .ok (.iload_n 2, 1) := by decide +kernel
theorem dX1_sinkToLeastRooms_92 : decode cX1_sinkToLeastRooms 92 = .ok (.ireturn, 1) := by decide +kernel
theorem dX1_countUp_0 : decode cX1_countUp 0 = .ok (.iconst 0, 1) := by decide +kernel
theorem dX1_countUp_1 : decode cX1_countUp 1 = .ok (.istore_n 2, 1) := by decide +kernel
theorem dX1_countUp_2 : decode cX1_countUp 2 = .ok (.iconst 0, 1) := by decide +kernel
theorem dX1_countUp_3 : decode cX1_countUp 3 = .ok (.istore_n 3, 1) := by decide +kernel
theorem dX1_countUp_4 : decode cX1_countUp 4 = .ok (.iload_n 3, 1) := by decide +kernel
theorem dX1_countUp_5 : decode cX1_countUp 5 = .ok (.iload_n 1, 1) := by decide +kernel
theorem dX1_countUp_6 : decode cX1_countUp 6 = .ok (.if_icmp .ge 43, 3) := by decide +kernel
theorem dX1_countUp_9 : decode cX1_countUp 9 = .ok (.aload_n 0, 1) := by decide +kernel
theorem dX1_countUp_10 : decode cX1_countUp 10 = .ok (.getfield 9, 3) := by decide +kernel
theorem dX1_countUp_13 : decode cX1_countUp 13 = .ok (.iload_n 3, 1) := by decide +kernel
theorem dX1_countUp_14 : decode cX1_countUp 14 = .ok (.aload_n 0, 1) := by decide +kernel
theorem dX1_countUp_15 : decode cX1_countUp 15 = .ok (.getfield 9, 3) := by decide +kernel
theorem dX1_countUp_18 : decode cX1_countUp 18 = .ok (.iload_n 3, 1) := by decide +kernel
theorem dX1_countUp_19 : decode cX1_countUp 19 = .ok (.iaload, 1) := by decide +kernel
theorem dX1_countUp_20 : decode cX1_countUp 20 = .ok (.iload_n 3, 1) := by decide +kernel
theorem dX1_countUp_21 : decode cX1_countUp 21 = .ok (.if_icmp .ne 10, 3) := by decide +kernel
theorem dX1_countUp_24 : decode cX1_countUp 24 = .ok (.iload_n 2, 1) := by decide +kernel
theorem dX1_countUp_25 : decode cX1_countUp 25 = .ok (.iinc 2 1, 3) := by decide +kernel
theorem dX1_countUp_28 : decode cX1_countUp 28 = .ok (.goto 14, 3) := by decide +kernel
theorem dX1_countUp_31 : decode cX1_countUp 31 = .ok (.aload_n 0, 1) := by decide +kernel
theorem dX1_countUp_32 : decode cX1_countUp 32 = .ok (.getfield 9, 3) := by decide +kernel
theorem dX1_countUp_35 : decode cX1_countUp 35 = .ok (.aload_n 0, 1) := by decide +kernel
theorem dX1_countUp_36 : decode cX1_countUp 36 = .ok (.getfield 9, 3) := by decide +kernel
theorem dX1_countUp_39 : decode cX1_countUp 39 = .ok (.iload_n 3, 1) := by decide +kernel
theorem dX1_countUp_40 : decode cX1_countUp 40 = .ok (.iaload, 1) := by decide +kernel
theorem dX1_countUp_41 : decode cX1_countUp 41 = .ok (.iaload, 1) := by decide +kernel
theorem dX1_countUp_42 : decode cX1_countUp 42 = .ok (.iastore, 1) := by decide +kernel
theorem dX1_countUp_43 : decode cX1_countUp 43 = .ok (.iinc 3 1, 3) := by decide +kernel
theorem dX1_countUp_46 : decode cX1_countUp 46 = .ok (.goto (-42), 3) := by decide +kernel
theorem dX1_countUp_49 : decode cX1_countUp 49 = .ok (.iload_n 2, 1) := by decide +kernel
theorem dX1_countUp_50 : decode cX1_countUp 50 = .ok (.ireturn, 1) := by decide +kernel
theorem dX2_init_0 : decode cX2_init 0 = .ok (.aload_n 0, 1) := by decide +kernel
theorem dX2_init_1 : decode cX2_init 1 = .ok (.invokespecial 3, 3) := by decide +kernel
theorem dX2_init_4 : decode cX2_init 4 = .ok (.aload_n 0, 1) := by decide +kernel
theorem dX2_init_5 : decode cX2_init 5 = .ok (.bipush 24, 2) := by decide +kernel
theorem dX2_init_7 : decode cX2_init 7 = .ok (.newarray .int, 2) := by decide +kernel
theorem dX2_init_9 : decode cX2_init 9 = .ok (.putfield 9, 3) := by decide +kernel
theorem dX2_init_12 : decode cX2_init 12 = .ok (.aload_n 0, 1) := by decide +kernel
theorem dX2_init_13 : decode cX2_init 13 = .ok (.bipush 24, 2) := by decide +kernel
theorem dX2_init_15 : decode cX2_init 15 = .ok (.newarray .int, 2) := by decide +kernel
theorem dX2_init_17 : decode cX2_init 17 = .ok (.putfield 15, 3) := by decide +kernel
theorem dX2_init_20 : decode cX2_init 20 = .ok (.aload_n 0, 1) := by decide +kernel
theorem dX2_init_21 : decode cX2_init 21 = .ok (.bipush 24, 2) := by decide +kernel
theorem dX2_init_23 : decode cX2_init 23 = .ok (.newarray .int, 2) := by decide +kernel
theorem dX2_init_25 : decode cX2_init 25 = .ok (.putfield 18, 3) := by decide +kernel
theorem dX2_init_28 : decode cX2_init 28 = .ok (.aload_n 0, 1) := by decide +kernel
theorem dX2_init_29 : decode cX2_init 29 = .ok (.bipush 24, 2) := by decide +kernel
theorem dX2_init_31 : decode cX2_init 31 = .ok (.newarray .boolean, 2) := by decide +kernel
theorem dX2_init_33 : decode cX2_init 33 = .ok (.putfield 21, 3) := by decide +kernel
theorem dX2_init_36 : decode cX2_init 36 = .ok (.aload_n 0, 1) := by decide +kernel
theorem dX2_init_37 : decode cX2_init 37 = .ok (.aload_n 1, 1) := by decide +kernel
theorem dX2_init_38 : decode cX2_init 38 = .ok (.putfield 25, 3) := by decide +kernel
theorem dX2_init_41 : decode cX2_init 41 = .ok (.return_, 1) := by decide +kernel
theorem dX2_clear_0 : decode cX2_clear 0 = .ok (.iconst 0, 1) := by decide +kernel
theorem dX2_clear_1 : decode cX2_clear 1 = .ok (.istore_n 1, 1) := by decide +kernel
theorem dX2_clear_2 : decode cX2_clear 2 = .ok (.iload_n 1, 1) := by decide +kernel
theorem dX2_clear_3 : decode cX2_clear 3 = .ok (.aload_n 0, 1) := by decide +kernel
theorem dX2_clear_4 : decode cX2_clear 4 = .ok (.getfield 25, 3) := by decide +kernel
theorem dX2_clear_7 : decode cX2_clear 7 = .ok (.getfield 29, 3) := by decide +kernel
theorem dX2_clear_10 : decode cX2_clear 10 = .ok (.if_icmp .ge 16, 3) := by decide +kernel
theorem dX2_clear_13 : decode cX2_clear 13 = .ok (.aload_n 0, 1) := by decide +kernel
theorem dX2_clear_14 : decode cX2_clear 14 = .ok (.getfield 21, 3) := by decide +kernel
theorem dX2_clear_17 : decode cX2_clear 17 = .ok (.iload_n 1, 1) := by decide +kernel
theorem dX2_clear_18 : decode cX2_clear 18 = .ok (.iconst 0, 1) := by decide +kernel
theorem dX2_clear_19 : decode cX2_clear 19 = .ok (.bastore, 1) := by decide +kernel
theorem dX2_clear_20 : decode cX2_clear 20 = .ok (.iinc 1 1, 3) := by decide +kernel
theorem dX2_clear_23 : decode cX2_clear 23 = .ok (.goto (-21), 3) := by decide +kernel
theorem dX2_clear_26 : decode cX2_clear 26 = .ok (.return_, 1) := by decide +kernel
theorem dX2_put_0 : decode cX2_put 0 = .ok (.aload_n 0, 1) := by decide +kernel
theorem dX2_put_1 : decode cX2_put 1 = .ok (.getfield 9, 3) := by decide +kernel
theorem dX2_put_4 : decode cX2_put 4 = .ok (.iload_n 1, 1) := by decide +kernel
theorem dX2_put_5 : decode cX2_put 5 = .ok (.iload_n 2, 1) := by decide +kernel
theorem dX2_put_6 : decode cX2_put 6 = .ok (.iastore, 1) := by decide +kernel
theorem dX2_put_7 : decode cX2_put 7 = .ok (.aload_n 0, 1) := by decide +kernel
theorem dX2_put_8 : decode cX2_put 8 = .ok (.getfield 15, 3) := by decide +kernel
theorem dX2_put_11 : decode cX2_put 11 = .ok (.iload_n 1, 1) := by decide +kernel
theorem dX2_put_12 : decode cX2_put 12 = .ok (.iload_n 3, 1) := by decide +kernel
theorem dX2_put_13 : decode cX2_put 13 = .ok (.iastore, 1) := by decide +kernel
theorem dX2_put_14 : decode cX2_put 14 = .ok (.aload_n 0, 1) := by decide +kernel
theorem dX2_put_15 : decode cX2_put 15 = .ok (.getfield 18, 3) := by decide +kernel
theorem dX2_put_18 : decode cX2_put 18 = .ok (.iload_n 1, 1) := by decide +kernel
theorem dX2_put_19 : decode cX2_put 19 = .ok (.iload 4, 2) := by decide +kernel
theorem dX2_put_21 : decode cX2_put 21 = .ok (.iastore, 1) := by decide +kernel
theorem dX2_put_22 : decode cX2_put 22 = .ok (.aload_n 0, 1) := by decide +kernel
theorem dX2_put_23 : decode cX2_put 23 = .ok (.getfield 21, 3) := by decide +kernel
theorem dX2_put_26 : decode cX2_put 26 = .ok (.iload_n 1, 1) := by decide +kernel
theorem dX2_put_27 : decode cX2_put 27 = .ok (.iconst 1, 1) := by decide +kernel
theorem dX2_put_28 : decode cX2_put 28 = .ok (.bastore, 1) := by decide +kernel
theorem dX2_put_29 : decode cX2_put 29 = .ok (.return_, 1) := by decide +kernel
theorem dX2_lift_0 : decode cX2_lift 0 = .ok (.aload_n 0, 1) := by decide +kernel
theorem dX2_lift_1 : decode cX2_lift 1 = .ok (.getfield 21, 3) := by decide +kernel
theorem dX2_lift_4 : decode cX2_lift 4 = .ok (.iload_n 1, 1) := by decide +kernel
theorem dX2_lift_5 : decode cX2_lift 5 = .ok (.iconst 0, 1) := by decide +kernel
theorem dX2_lift_6 : decode cX2_lift 6 = .ok (.bastore, 1) := by decide +kernel
theorem dX2_lift_7 : decode cX2_lift 7 = .ok (.return_, 1) := by decide +kernel
theorem dX2_isFree_0 : decode cX2_isFree 0 = .ok (.iconst 0, 1) := by decide +kernel
theorem dX2_isFree_1 : decode cX2_isFree 1 = .ok (.istore 4, 2) := by decide +kernel
theorem dX2_isFree_3 : decode cX2_isFree 3 = .ok (.iload 4, 2) := by decide +kernel
theorem dX2_isFree_5 : decode cX2_isFree 5 = .ok (.aload_n 0, 1) := by decide +kernel
theorem dX2_isFree_6 : decode cX2_isFree 6 = .ok (.getfield 25, 3) := by decide +kernel
theorem dX2_isFree_9 : decode cX2_isFree 9 = .ok (.getfield 29, 3) := by decide +kernel
theorem dX2_isFree_12 : decode cX2_isFree 12 = .ok (.if_icmp .ge 54, 3) := by decide +kernel
theorem dX2_isFree_15 : decode cX2_isFree 15 = .ok (.aload_n 0, 1) := by decide +kernel
theorem dX2_isFree_16 : decode cX2_isFree 16 = .ok (.getfield 21, 3) := by decide +kernel
theorem dX2_isFree_19 : decode cX2_isFree 19 = .ok (.iload 4, 2) := by decide +kernel
theorem dX2_isFree_21 : decode cX2_isFree 21 = .ok (.baload, 1) := by decide +kernel
theorem dX2_isFree_22 : decode cX2_isFree 22 = .ok (.ifCond .eq 38, 3) := by decide +kernel
theorem dX2_isFree_25 : decode cX2_isFree 25 = .ok (.aload_n 0, 1) := by decide +kernel
theorem dX2_isFree_26 : decode cX2_isFree 26 = .ok (.getfield 9, 3) := by decide +kernel
theorem dX2_isFree_29 : decode cX2_isFree 29 = .ok (.iload 4, 2) := by decide +kernel
theorem dX2_isFree_31 : decode cX2_isFree 31 = .ok (.iaload, 1) := by decide +kernel
theorem dX2_isFree_32 : decode cX2_isFree 32 = .ok (.iload_n 1, 1) := by decide +kernel
theorem dX2_isFree_33 : decode cX2_isFree 33 = .ok (.if_icmp .ne 27, 3) := by decide +kernel
theorem dX2_isFree_36 : decode cX2_isFree 36 = .ok (.aload_n 0, 1) := by decide +kernel
theorem dX2_isFree_37 : decode cX2_isFree 37 = .ok (.getfield 15, 3) := by decide +kernel
theorem dX2_isFree_40 : decode cX2_isFree 40 = .ok (.iload 4, 2) := by decide +kernel
theorem dX2_isFree_42 : decode cX2_isFree 42 = .ok (.iaload, 1) := by decide +kernel
theorem dX2_isFree_43 : decode cX2_isFree 43 = .ok (.iload_n 2, 1) := by decide +kernel
theorem dX2_isFree_44 : decode cX2_isFree 44 = .ok (.if_icmp .ne 16, 3) := by decide +kernel
theorem dX2_isFree_47 : decode cX2_isFree 47 = .ok (.aload_n 0, 1) := by decide +kernel
theorem dX2_isFree_48 : decode cX2_isFree 48 = .ok (.getfield 18, 3) := by decide +kernel
theorem dX2_isFree_51 : decode cX2_isFree 51 = .ok (.iload 4, 2) := by decide +kernel
theorem dX2_isFree_53 : decode cX2_isFree 53 = .ok (.iaload, 1) := by decide +kernel
theorem dX2_isFree_54 : decode cX2_isFree 54 = .ok (.iload_n 3, 1) := by decide +kernel
theorem dX2_isFree_55 : decode cX2_isFree 55 = .ok (.if_icmp .ne 5, 3) := by decide +kernel
theorem dX2_isFree_58 : decode cX2_isFree 58 = .ok (.iconst 0, 1) := by decide +kernel
theorem dX2_isFree_59 : decode cX2_isFree 59 = .ok (.ireturn, 1) := by decide +kernel
theorem dX2_isFree_60 : decode cX2_isFree 60 = .ok (.iinc 4 1, 3) := by decide +kernel
theorem dX2_isFree_63 : decode cX2_isFree 63 = .ok (.goto (-60), 3) := by decide +kernel
theorem dX2_isFree_66 : decode cX2_isFree 66 = .ok (.iconst 1, 1) := by decide +kernel
theorem dX2_isFree_67 : decode cX2_isFree 67 = .ok (.ireturn, 1) := by decide +kernel
theorem dX2_hasBothEnds_0 : decode cX2_hasBothEnds 0 = .ok (.aload_n 0, 1) := by decide +kernel
theorem dX2_hasBothEnds_1 : decode cX2_hasBothEnds 1 = .ok (.getfield 21, 3) := by decide +kernel
theorem dX2_hasBothEnds_4 : decode cX2_hasBothEnds 4 = .ok (.aload_n 0, 1) := by decide +kernel
theorem dX2_hasBothEnds_5 : decode cX2_hasBothEnds 5 = .ok (.getfield 25, 3) := by decide +kernel
theorem dX2_hasBothEnds_8 : decode cX2_hasBothEnds 8 = .ok (.getfield 35, 3) := by decide +kernel
theorem dX2_hasBothEnds_11 : decode cX2_hasBothEnds 11 = .ok (.iload_n 1, 1) := by decide +kernel
theorem dX2_hasBothEnds_12 : decode cX2_hasBothEnds 12 = .ok (.iaload, 1) := by decide +kernel
theorem dX2_hasBothEnds_13 : decode cX2_hasBothEnds 13 = .ok (.baload, 1) := by decide +kernel
theorem dX2_hasBothEnds_14 : decode cX2_hasBothEnds 14 = .ok (.ifCond .eq 24, 3) := by decide +kernel
theorem dX2_hasBothEnds_17 : decode cX2_hasBothEnds 17 = .ok (.aload_n 0, 1) := by decide +kernel
theorem dX2_hasBothEnds_18 : decode cX2_hasBothEnds 18 = .ok (.getfield 21, 3) := by decide +kernel
theorem dX2_hasBothEnds_21 : decode cX2_hasBothEnds 21 = .ok (.aload_n 0, 1) := by decide +kernel
theorem dX2_hasBothEnds_22 : decode cX2_hasBothEnds 22 = .ok (.getfield 25, 3) := by decide +kernel
theorem dX2_hasBothEnds_25 : decode cX2_hasBothEnds 25 = .ok (.getfield 38, 3) := by decide +kernel
theorem dX2_hasBothEnds_28 : decode cX2_hasBothEnds 28 = .ok (.iload_n 1, 1) := by decide +kernel
theorem dX2_hasBothEnds_29 : decode cX2_hasBothEnds 29 = .ok (.iaload, 1) := by decide +kernel
theorem dX2_hasBothEnds_30 : decode cX2_hasBothEnds 30 = .ok (.baload, 1) := by decide +kernel
theorem dX2_hasBothEnds_31 : decode cX2_hasBothEnds 31 = .ok (.ifCond .eq 7, 3) := by decide +kernel
theorem dX2_hasBothEnds_34 : decode cX2_hasBothEnds 34 = .ok (.iconst 1, 1) := by decide +kernel
theorem dX2_hasBothEnds_35 : decode cX2_hasBothEnds 35 = .ok (.goto 4, 3) := by decide +kernel
theorem dX2_hasBothEnds_38 : decode cX2_hasBothEnds 38 = .ok (.iconst 0, 1) := by decide +kernel
theorem dX2_hasBothEnds_39 : decode cX2_hasBothEnds 39 = .ok (.ireturn, 1) := by decide +kernel
theorem dX2_straightLength_0 : decode cX2_straightLength 0 = .ok (.aload_n 0, 1) := by decide +kernel
theorem dX2_straightLength_1 : decode cX2_straightLength 1 = .ok (.getfield 25, 3) := by decide +kernel
theorem dX2_straightLength_4 : decode cX2_straightLength 4 = .ok (.getfield 35, 3) := by decide +kernel
theorem dX2_straightLength_7 : decode cX2_straightLength 7 = .ok (.iload_n 1, 1) := by decide +kernel
theorem dX2_straightLength_8 : decode cX2_straightLength 8 = .ok (.iaload, 1) := by decide +kernel
theorem dX2_straightLength_9 : decode cX2_straightLength 9 = .ok (.istore_n 2, 1) := by decide +kernel
theorem dX2_straightLength_10 : decode cX2_straightLength 10 = .ok (.aload_n 0, 1) := by decide +kernel
theorem dX2_straightLength_11 : decode cX2_straightLength 11 = .ok (.getfield 25, 3) := by decide +kernel
theorem dX2_straightLength_14 : decode cX2_straightLength 14 = .ok (.getfield 41, 3) := by decide +kernel
theorem dX2_straightLength_17 : decode cX2_straightLength 17 = .ok (.iload_n 1, 1) := by decide +kernel
theorem dX2_straightLength_18 : decode cX2_straightLength 18 = .ok (.iaload, 1) := by decide +kernel
theorem dX2_straightLength_19 : decode cX2_straightLength 19 = .ok (.istore_n 3, 1) := by decide +kernel
theorem dX2_straightLength_20 : decode cX2_straightLength 20 = .ok (.aload_n 0, 1) := by decide +kernel
theorem dX2_straightLength_21 : decode cX2_straightLength 21 = .ok (.iload_n 2, 1) := by decide +kernel
theorem dX2_straightLength_22 : decode cX2_straightLength 22 = .ok (.iload_n 3, 1) := by decide +kernel
theorem dX2_straightLength_23 : decode cX2_straightLength 23 = .ok (.aload_n 0, 1) := by decide +kernel
theorem dX2_straightLength_24 : decode cX2_straightLength 24 = .ok (.getfield 25, 3) := by decide +kernel
theorem dX2_straightLength_27 : decode cX2_straightLength 27 = .ok (.getfield 38, 3) := by decide +kernel
theorem dX2_straightLength_30 : decode cX2_straightLength 30 = .ok (.iload_n 1, 1) := by decide +kernel
theorem dX2_straightLength_31 : decode cX2_straightLength 31 = .ok (.iaload, 1) := by decide +kernel
theorem dX2_straightLength_32 : decode cX2_straightLength 32 = .ok (.invokevirtual 44, 3) := by decide +kernel
theorem dX2_straightLength_35 : decode cX2_straightLength 35 = .ok (.istore 4, 2) := by decide +kernel
theorem dX2_straightLength_37 : decode cX2_straightLength 37 = .ok (.iconst 0, 1) := by decide +kernel
theorem dX2_straightLength_38 : decode cX2_straightLength 38 = .ok (.istore 5, 2) := by decide +kernel
theorem dX2_straightLength_40 : decode cX2_straightLength 40 = .ok (.iload 5, 2) := by decide +kernel
theorem dX2_straightLength_42 : decode cX2_straightLength 42 = .ok (.aload_n 0, 1) := by decide +kernel
theorem dX2_straightLength_43 : decode cX2_straightLength 43 = .ok (.getfield 25, 3) := by decide +kernel
theorem dX2_straightLength_46 : decode cX2_straightLength 46 = .ok (.getfield 29, 3) := by decide +kernel
theorem dX2_straightLength_49 : decode cX2_straightLength 49 = .ok (.if_icmp .ge 53, 3) := by decide +kernel
theorem dX2_straightLength_52 : decode cX2_straightLength 52 = .ok (.iload 4, 2) := by decide +kernel
theorem dX2_straightLength_54 : decode cX2_straightLength 54 = .ok (.iconst 1, 1) := by decide +kernel
theorem dX2_straightLength_55 : decode cX2_straightLength 55 = .ok (.if_icmp .le 47, 3) := by decide +kernel
theorem dX2_straightLength_58 : decode cX2_straightLength 58 = .ok (.aload_n 0, 1) := by decide +kernel
theorem dX2_straightLength_59 : decode cX2_straightLength 59 = .ok (.getfield 21, 3) := by decide +kernel
theorem dX2_straightLength_62 : decode cX2_straightLength 62 = .ok (.iload 5, 2) := by decide +kernel
theorem dX2_straightLength_64 : decode cX2_straightLength 64 = .ok (.baload, 1) := by decide +kernel
theorem dX2_straightLength_65 : decode cX2_straightLength 65 = .ok (.ifCond .eq 14, 3) := by decide +kernel
theorem dX2_straightLength_68 : decode cX2_straightLength 68 = .ok (.aload_n 0, 1) := by decide +kernel
theorem dX2_straightLength_69 : decode cX2_straightLength 69 = .ok (.iload_n 2, 1) := by decide +kernel
theorem dX2_straightLength_70 : decode cX2_straightLength 70 = .ok (.iload_n 3, 1) := by decide +kernel
theorem dX2_straightLength_71 : decode cX2_straightLength 71 = .ok (.iload 5, 2) := by decide +kernel
theorem dX2_straightLength_73 : decode cX2_straightLength 73 = .ok (.invokevirtual 44, 3) := by decide +kernel
theorem dX2_straightLength_76 : decode cX2_straightLength 76 = .ok (.goto 4, 3) := by decide +kernel
theorem dX2_straightLength_79 : decode cX2_straightLength 79 = .ok (.iconst 0, 1) := by decide +kernel
theorem dX2_straightLength_80 : decode cX2_straightLength 80 = .ok (.istore 6, 2) := by decide +kernel
theorem dX2_straightLength_82 : decode cX2_straightLength 82 = .ok (.iload 6, 2) := by decide +kernel
theorem dX2_straightLength_84 : decode cX2_straightLength 84 = .ok (.ifCond .le 12, 3) := by decide +kernel
theorem dX2_straightLength_87 : decode cX2_straightLength 87 = .ok (.iload 6, 2) := by decide +kernel
theorem dX2_straightLength_89 : decode cX2_straightLength 89 = .ok (.iload 4, 2) := by decide +kernel
theorem dX2_straightLength_91 : decode cX2_straightLength 91 = .ok (.if_icmp .ge 5, 3) := by decide +kernel
theorem dX2_straightLength_94 : decode cX2_straightLength 94 = .ok (.iconst 0, 1) := by decide +kernel
theorem dX2_straightLength_95 : decode cX2_straightLength 95 = .ok (.ireturn, 1) := by decide +kernel
theorem dX2_straightLength_96 : decode cX2_straightLength 96 = .ok (.iinc 5 1, 3) := by decide +kernel
theorem dX2_straightLength_99 : decode cX2_straightLength 99 = .ok (.goto (-59), 3) := by decide +kernel
theorem dX2_straightLength_102 : decode cX2_straightLength 102 = .ok (.iload 4, 2) := by decide +kernel
theorem dX2_straightLength_104 : decode cX2_straightLength 104 = .ok (.ireturn, 1) := by decide +kernel
theorem dX2_costBelow_0 : decode cX2_costBelow 0 = .ok (.iconst 0, 1) := by decide +kernel
theorem dX2_costBelow_1 : decode cX2_costBelow 1 = .ok (.istore_n 2, 1) := by decide +kernel
theorem dX2_costBelow_2 : decode cX2_costBelow 2 = .ok (.iconst 0, 1) := by decide +kernel
theorem dX2_costBelow_3 : decode cX2_costBelow 3 = .ok (.istore_n 3, 1) := by decide +kernel
theorem dX2_costBelow_4 : decode cX2_costBelow 4 = .ok (.iload_n 3, 1) := by decide +kernel
theorem dX2_costBelow_5 : decode cX2_costBelow 5 = .ok (.aload_n 0, 1) := by decide +kernel
theorem dX2_costBelow_6 : decode cX2_costBelow 6 = .ok (.getfield 25, 3) := by decide +kernel
theorem dX2_costBelow_9 : decode cX2_costBelow 9 = .ok (.getfield 48, 3) := by decide +kernel
theorem dX2_costBelow_12 : decode cX2_costBelow 12 = .ok (.if_icmp .ge 46, 3) := by decide +kernel
theorem dX2_costBelow_15 : decode cX2_costBelow 15 = .ok (.iload_n 2, 1) := by decide +kernel
theorem dX2_costBelow_16 : decode cX2_costBelow 16 = .ok (.iload_n 1, 1) := by decide +kernel
theorem dX2_costBelow_17 : decode cX2_costBelow 17 = .ok (.if_icmp .ge 41, 3) := by decide +kernel
theorem dX2_costBelow_20 : decode cX2_costBelow 20 = .ok (.aload_n 0, 1) := by decide +kernel
theorem dX2_costBelow_21 : decode cX2_costBelow 21 = .ok (.iload_n 3, 1) := by decide +kernel
theorem dX2_costBelow_22 : decode cX2_costBelow 22 = .ok (.invokevirtual 51, 3) := by decide +kernel
theorem dX2_costBelow_25 : decode cX2_costBelow 25 = .ok (.ifCond .eq 27, 3) := by decide +kernel
theorem dX2_costBelow_28 : decode cX2_costBelow 28 = .ok (.aload_n 0, 1) := by decide +kernel
theorem dX2_costBelow_29 : decode cX2_costBelow 29 = .ok (.iload_n 3, 1) := by decide +kernel
theorem dX2_costBelow_30 : decode cX2_costBelow 30 = .ok (.invokevirtual 55, 3) := by decide +kernel
theorem dX2_costBelow_33 : decode cX2_costBelow 33 = .ok (.istore 4, 2) := by decide +kernel
theorem dX2_costBelow_35 : decode cX2_costBelow 35 = .ok (.iload_n 2, 1) := by decide +kernel
theorem dX2_costBelow_36 : decode cX2_costBelow 36 = .ok (.iload 4, 2) := by decide +kernel
theorem dX2_costBelow_38 : decode cX2_costBelow 38 = .ok (.ifCond .le 10, 3) := by decide +kernel
theorem dX2_costBelow_41 : decode cX2_costBelow 41 = .ok (.iload 4, 2) := by decide +kernel
theorem dX2_costBelow_43 : decode cX2_costBelow 43 = .ok (.iconst 1, 1) := by decide +kernel
theorem dX2_costBelow_44 : decode cX2_costBelow 44 = .ok (.isub, 1) := by decide +kernel
theorem dX2_costBelow_45 : decode cX2_costBelow 45 = .ok (.goto 5, 3) := by decide +kernel
theorem dX2_costBelow_48 : decode cX2_costBelow 48 = .ok (.bipush 10, 2) := by decide +kernel
theorem dX2_costBelow_50 : decode cX2_costBelow 50 = .ok (.iadd, 1) := by decide +kernel
theorem dX2_costBelow_51 : decode cX2_costBelow 51 = .ok (.istore_n 2, 1) := by decide +kernel
theorem dX2_costBelow_52 : decode cX2_costBelow 52 = .ok (.iinc 3 1, 3) := by decide +kernel
theorem dX2_costBelow_55 : decode cX2_costBelow 55 = .ok (.goto (-51), 3) := by decide +kernel
theorem dX2_costBelow_58 : decode cX2_costBelow 58 = .ok (.iload_n 2, 1) := by decide +kernel
theorem dX2_costBelow_59 : decode cX2_costBelow 59 = .ok (.ireturn, 1) := by decide +kernel
theorem dX2_bentLinks_0 : decode cX2_bentLinks 0 = .ok (.iconst 0, 1) := by decide +kernel
theorem dX2_bentLinks_1 : decode cX2_bentLinks 1 = .ok (.istore_n 1, 1) := by decide +kernel
theorem dX2_bentLinks_2 : decode cX2_bentLinks 2 = .ok (.iconst 0, 1) := by decide +kernel
theorem dX2_bentLinks_3 : decode cX2_bentLinks 3 = .ok (.istore_n 2, 1) := by decide +kernel
theorem dX2_bentLinks_4 : decode cX2_bentLinks 4 = .ok (.iload_n 2, 1) := by decide +kernel
theorem dX2_bentLinks_5 : decode cX2_bentLinks 5 = .ok (.aload_n 0, 1) := by decide +kernel
theorem dX2_bentLinks_6 : decode cX2_bentLinks 6 = .ok (.getfield 25, 3) := by decide +kernel
theorem dX2_bentLinks_9 : decode cX2_bentLinks 9 = .ok (.getfield 48, 3) := by decide +kernel
theorem dX2_bentLinks_12 : decode cX2_bentLinks 12 = .ok (.if_icmp .ge 28, 3) := by decide +kernel
theorem dX2_bentLinks_15 : decode cX2_bentLinks 15 = .ok (.aload_n 0, 1) := by decide +kernel
theorem dX2_bentLinks_16 : decode cX2_bentLinks 16 = .ok (.iload_n 2, 1) := by decide +kernel
theorem dX2_bentLinks_17 : decode cX2_bentLinks 17 = .ok (.invokevirtual 51, 3) := by decide +kernel
theorem dX2_bentLinks_20 : decode cX2_bentLinks 20 = .ok (.ifCond .eq 14, 3) := by decide +kernel
theorem dX2_bentLinks_23 : decode cX2_bentLinks 23 = .ok (.aload_n 0, 1) := by decide +kernel
theorem dX2_bentLinks_24 : decode cX2_bentLinks 24 = .ok (.iload_n 2, 1) := by decide +kernel
theorem dX2_bentLinks_25 : decode cX2_bentLinks 25 = .ok (.invokevirtual 55, 3) := by decide +kernel
theorem dX2_bentLinks_28 : decode cX2_bentLinks 28 = .ok (.ifCond .ne 6, 3) := by decide +kernel
theorem dX2_bentLinks_31 : decode cX2_bentLinks 31 = .ok (.iinc 1 1, 3) := by decide +kernel
theorem dX2_bentLinks_34 : decode cX2_bentLinks 34 = .ok (.iinc 2 1, 3) := by decide +kernel
theorem dX2_bentLinks_37 : decode cX2_bentLinks 37 = .ok (.goto (-33), 3) := by decide +kernel
theorem dX2_bentLinks_40 : decode cX2_bentLinks 40 = .ok (.iload_n 1, 1) := by decide +kernel
theorem dX2_bentLinks_41 : decode cX2_bentLinks 41 = .ok (.ireturn, 1) := by decide +kernel
theorem dX2_count_0 : decode cX2_count 0 = .ok (.iconst 0, 1) := by decide +kernel
theorem dX2_count_1 : decode cX2_count 1 = .ok (.istore_n 1, 1) := by decide +kernel
theorem dX2_count_2 : decode cX2_count 2 = .ok (.iconst 0, 1) := by decide +kernel
theorem dX2_count_3 : decode cX2_count 3 = .ok (.istore_n 2, 1) := by decide +kernel
theorem dX2_count_4 : decode cX2_count 4 = .ok (.iload_n 2, 1) := by decide +kernel
theorem dX2_count_5 : decode cX2_count 5 = .ok (.aload_n 0, 1) := by decide +kernel
theorem dX2_count_6 : decode cX2_count 6 = .ok (.getfield 25, 3) := by decide +kernel
theorem dX2_count_9 : decode cX2_count 9 = .ok (.getfield 29, 3) := by decide +kernel
theorem dX2_count_12 : decode cX2_count 12 = .ok (.if_icmp .ge 26, 3) := by decide +kernel
theorem dX2_count_15 : decode cX2_count 15 = .ok (.iload_n 1, 1) := by decide +kernel
theorem dX2_count_16 : decode cX2_count 16 = .ok (.aload_n 0, 1) := by decide +kernel
theorem dX2_count_17 : decode cX2_count 17 = .ok (.getfield 21, 3) := by decide +kernel
theorem dX2_count_20 : decode cX2_count 20 = .ok (.iload_n 2, 1) := by decide +kernel
theorem dX2_count_21 : decode cX2_count 21 = .ok (.baload, 1) := by decide +kernel
theorem dX2_count_22 : decode cX2_count 22 = .ok (.ifCond .eq 7, 3) := by decide +kernel
theorem dX2_count_25 : decode cX2_count 25 = .ok (.iconst 1, 1) := by decide +kernel
theorem dX2_count_26 : decode cX2_count 26 = .ok (.goto 4, 3) := by decide +kernel
theorem dX2_count_29 : decode cX2_count 29 = .ok (.iconst 0, 1) := by decide +kernel
theorem dX2_count_30 : decode cX2_count 30 = .ok (.iadd, 1) := by decide +kernel
theorem dX2_count_31 : decode cX2_count 31 = .ok (.istore_n 1, 1) := by decide +kernel
theorem dX2_count_32 : decode cX2_count 32 = .ok (.iinc 2 1, 3) := by decide +kernel
theorem dX2_count_35 : decode cX2_count 35 = .ok (.goto (-31), 3) := by decide +kernel
theorem dX2_count_38 : decode cX2_count 38 = .ok (.iload_n 1, 1) := by decide +kernel
theorem dX2_count_39 : decode cX2_count 39 = .ok (.ireturn, 1) := by decide +kernel
theorem dX2_lowest_0 : decode cX2_lowest 0 = .ok (.bipush (-2), 2) := by decide +kernel
theorem dX2_lowest_2 : decode cX2_lowest 2 = .ok (.istore_n 2, 1) := by decide +kernel
theorem dX2_lowest_3 : decode cX2_lowest 3 = .ok (.iconst 0, 1) := by decide +kernel
theorem dX2_lowest_4 : decode cX2_lowest 4 = .ok (.istore_n 3, 1) := by decide +kernel
theorem dX2_lowest_5 : decode cX2_lowest 5 = .ok (.iload_n 3, 1) := by decide +kernel
theorem dX2_lowest_6 : decode cX2_lowest 6 = .ok (.aload_n 0, 1) := by decide +kernel
theorem dX2_lowest_7 : decode cX2_lowest 7 = .ok (.getfield 25, 3) := by decide +kernel
theorem dX2_lowest_10 : decode cX2_lowest 10 = .ok (.getfield 29, 3) := by decide +kernel
theorem dX2_lowest_13 : decode cX2_lowest 13 = .ok (.if_icmp .ge 33, 3) := by decide +kernel
theorem dX2_lowest_16 : decode cX2_lowest 16 = .ok (.aload_n 0, 1) := by decide +kernel
theorem dX2_lowest_17 : decode cX2_lowest 17 = .ok (.getfield 21, 3) := by decide +kernel
theorem dX2_lowest_20 : decode cX2_lowest 20 = .ok (.iload_n 3, 1) := by decide +kernel
theorem dX2_lowest_21 : decode cX2_lowest 21 = .ok (.baload, 1) := by decide +kernel
theorem dX2_lowest_22 : decode cX2_lowest 22 = .ok (.ifCond .eq 18, 3) := by decide +kernel
theorem dX2_lowest_25 : decode cX2_lowest 25 = .ok (.iload_n 2, 1) := by decide +kernel
theorem dX2_lowest_26 : decode cX2_lowest 26 = .ok (.ifCond .lt 12, 3) := by decide +kernel
theorem dX2_lowest_29 : decode cX2_lowest 29 = .ok (.aload_n 1, 1) := by decide +kernel
theorem dX2_lowest_30 : decode cX2_lowest 30 = .ok (.iload_n 3, 1) := by decide +kernel
theorem dX2_lowest_31 : decode cX2_lowest 31 = .ok (.iaload, 1) := by decide +kernel
theorem dX2_lowest_32 : decode cX2_lowest 32 = .ok (.aload_n 1, 1) := by decide +kernel
theorem dX2_lowest_33 : decode cX2_lowest 33 = .ok (.iload_n 2, 1) := by decide +kernel
theorem dX2_lowest_34 : decode cX2_lowest 34 = .ok (.iaload, 1) := by decide +kernel
theorem dX2_lowest_35 : decode cX2_lowest 35 = .ok (.if_icmp .ge 5, 3) := by decide +kernel
theorem dX2_lowest_38 : decode cX2_lowest 38 = .ok (.iload_n 3, 1) := by decide +kernel
theorem dX2_lowest_39 : decode cX2_lowest 39 = .ok (.istore_n 2, 1) := by decide +kernel
theorem dX2_lowest_40 : decode cX2_lowest 40 = .ok (.iinc 3 1, 3) := by decide +kernel
theorem dX2_lowest_43 : decode cX2_lowest 43 = .ok (.goto (-38), 3) := by decide +kernel
theorem dX2_lowest_46 : decode cX2_lowest 46 = .ok (.iload_n 2, 1) := by decide +kernel
theorem dX2_lowest_47 : decode cX2_lowest 47 = .ok (.ifCond .ge 7, 3) := by decide +kernel
theorem dX2_lowest_50 : decode cX2_lowest 50 = .ok (.iconst 0, 1) := by decide +kernel
theorem dX2_lowest_51 : decode cX2_lowest 51 = .ok (.goto 6, 3) := by decide +kernel
theorem dX2_lowest_54 : decode cX2_lowest 54 = .ok (.aload_n 1, 1) := by decide +kernel
theorem dX2_lowest_55 : decode cX2_lowest 55 = .ok (.iload_n 2, 1) := by decide +kernel
theorem dX2_lowest_56 : decode cX2_lowest 56 = .ok (.iaload, 1) := by decide +kernel
theorem dX2_lowest_57 : decode cX2_lowest 57 = .ok (.ireturn, 1) := by decide +kernel
theorem dX2_highest_0 : decode cX2_highest 0 = .ok (.bipush (-2), 2) := by decide +kernel
theorem dX2_highest_2 : decode cX2_highest 2 = .ok (.istore_n 2, 1) := by decide +kernel
theorem dX2_highest_3 : decode cX2_highest 3 = .ok (.iconst 0, 1) := by decide +kernel
theorem dX2_highest_4 : decode cX2_highest 4 = .ok (.istore_n 3, 1) := by decide +kernel
theorem dX2_highest_5 : decode cX2_highest 5 = .ok (.iload_n 3, 1) := by decide +kernel
theorem dX2_highest_6 : decode cX2_highest 6 = .ok (.aload_n 0, 1) := by decide +kernel
theorem dX2_highest_7 : decode cX2_highest 7 = .ok (.getfield 25, 3) := by decide +kernel
theorem dX2_highest_10 : decode cX2_highest 10 = .ok (.getfield 29, 3) := by decide +kernel
theorem dX2_highest_13 : decode cX2_highest 13 = .ok (.if_icmp .ge 33, 3) := by decide +kernel
theorem dX2_highest_16 : decode cX2_highest 16 = .ok (.aload_n 0, 1) := by decide +kernel
theorem dX2_highest_17 : decode cX2_highest 17 = .ok (.getfield 21, 3) := by decide +kernel
theorem dX2_highest_20 : decode cX2_highest 20 = .ok (.iload_n 3, 1) := by decide +kernel
theorem dX2_highest_21 : decode cX2_highest 21 = .ok (.baload, 1) := by decide +kernel
theorem dX2_highest_22 : decode cX2_highest 22 = .ok (.ifCond .eq 18, 3) := by decide +kernel
theorem dX2_highest_25 : decode cX2_highest 25 = .ok (.iload_n 2, 1) := by decide +kernel
theorem dX2_highest_26 : decode cX2_highest 26 = .ok (.ifCond .lt 12, 3) := by decide +kernel
theorem dX2_highest_29 : decode cX2_highest 29 = .ok (.aload_n 1, 1) := by decide +kernel
theorem dX2_highest_30 : decode cX2_highest 30 = .ok (.iload_n 3, 1) := by decide +kernel
theorem dX2_highest_31 : decode cX2_highest 31 = .ok (.iaload, 1) := by decide +kernel
theorem dX2_highest_32 : decode cX2_highest 32 = .ok (.aload_n 1, 1) := by decide +kernel
theorem dX2_highest_33 : decode cX2_highest 33 = .ok (.iload_n 2, 1) := by decide +kernel
theorem dX2_highest_34 : decode cX2_highest 34 = .ok (.iaload, 1) := by decide +kernel
theorem dX2_highest_35 : decode cX2_highest 35 = .ok (.if_icmp .le 5, 3) := by decide +kernel
theorem dX2_highest_38 : decode cX2_highest 38 = .ok (.iload_n 3, 1) := by decide +kernel
theorem dX2_highest_39 : decode cX2_highest 39 = .ok (.istore_n 2, 1) := by decide +kernel
theorem dX2_highest_40 : decode cX2_highest 40 = .ok (.iinc 3 1, 3) := by decide +kernel
theorem dX2_highest_43 : decode cX2_highest 43 = .ok (.goto (-38), 3) := by decide +kernel
theorem dX2_highest_46 : decode cX2_highest 46 = .ok (.iload_n 2, 1) := by decide +kernel
theorem dX2_highest_47 : decode cX2_highest 47 = .ok (.ifCond .ge 7, 3) := by decide +kernel
theorem dX2_highest_50 : decode cX2_highest 50 = .ok (.iconst 0, 1) := by decide +kernel
theorem dX2_highest_51 : decode cX2_highest 51 = .ok (.goto 6, 3) := by decide +kernel
theorem dX2_highest_54 : decode cX2_highest 54 = .ok (.aload_n 1, 1) := by decide +kernel
theorem dX2_highest_55 : decode cX2_highest 55 = .ok (.iload_n 2, 1) := by decide +kernel
theorem dX2_highest_56 : decode cX2_highest 56 = .ok (.iaload, 1) := by decide +kernel
theorem dX2_highest_57 : decode cX2_highest 57 = .ok (.ireturn, 1) := by decide +kernel
theorem dX2_extent_0 : decode cX2_extent 0 = .ok (.aload_n 0, 1) := by decide +kernel
theorem dX2_extent_1 : decode cX2_extent 1 = .ok (.invokevirtual 59, 3) := by decide +kernel
theorem dX2_extent_4 : decode cX2_extent 4 = .ok (.ifCond .ne 7, 3) := by decide +kernel
theorem dX2_extent_7 : decode cX2_extent 7 = .ok (.iconst 0, 1) := by decide +kernel
theorem dX2_extent_8 : decode cX2_extent 8 = .ok (.goto 16, 3) := by decide +kernel
theorem dX2_extent_11 : decode cX2_extent 11 = .ok (.aload_n 0, 1) := by decide +kernel
theorem dX2_extent_12 : decode cX2_extent 12 = .ok (.aload_n 1, 1) := by decide +kernel
theorem dX2_extent_13 : decode cX2_extent 13 = .ok (.invokevirtual 63, 3) := by decide +kernel
theorem dX2_extent_16 : decode cX2_extent 16 = .ok (.aload_n 0, 1) := by decide +kernel
theorem dX2_extent_17 : decode cX2_extent 17 = .ok (.aload_n 1, 1) := by decide +kernel
theorem dX2_extent_18 : decode cX2_extent 18 = .ok (.invokevirtual 67, 3) := by decide +kernel
theorem dX2_extent_21 : decode cX2_extent 21 = .ok (.isub, 1) := by decide +kernel
theorem dX2_extent_22 : decode cX2_extent 22 = .ok (.iconst 1, 1) := by decide +kernel
theorem dX2_extent_23 : decode cX2_extent 23 = .ok (.iadd, 1) := by decide +kernel
theorem dX2_extent_24 : decode cX2_extent 24 = .ok (.ireturn, 1) := by decide +kernel
theorem dX2_isWeighed_0 : decode cX2_isWeighed 0 = .ok (.aload_n 0, 1) := by decide +kernel
theorem dX2_isWeighed_1 : decode cX2_isWeighed 1 = .ok (.getfield 25, 3) := by decide +kernel
theorem dX2_isWeighed_4 : decode cX2_isWeighed 4 = .ok (.iload_n 1, 1) := by decide +kernel
theorem dX2_isWeighed_5 : decode cX2_isWeighed 5 = .ok (.invokevirtual 70, 3) := by decide +kernel
theorem dX2_isWeighed_8 : decode cX2_isWeighed 8 = .ok (.ifCond .ne 15, 3) := by decide +kernel
theorem dX2_isWeighed_11 : decode cX2_isWeighed 11 = .ok (.aload_n 0, 1) := by decide +kernel
theorem dX2_isWeighed_12 : decode cX2_isWeighed 12 = .ok (.iload_n 1, 1) := by decide +kernel
theorem dX2_isWeighed_13 : decode cX2_isWeighed 13 = .ok (.invokevirtual 73, 3) := by decide +kernel
theorem dX2_isWeighed_16 : decode cX2_isWeighed 16 = .ok (.ifCond .eq 7, 3) := by decide +kernel
theorem dX2_isWeighed_19 : decode cX2_isWeighed 19 = .ok (.iconst 1, 1) := by decide +kernel
theorem dX2_isWeighed_20 : decode cX2_isWeighed 20 = .ok (.goto 4, 3) := by decide +kernel
theorem dX2_isWeighed_23 : decode cX2_isWeighed 23 = .ok (.iconst 0, 1) := by decide +kernel
theorem dX2_isWeighed_24 : decode cX2_isWeighed 24 = .ok (.ireturn, 1) := by decide +kernel
theorem dX2_distance_0 : decode cX2_distance 0 = .ok (.aload_n 0, 1) := by decide +kernel
theorem dX2_distance_1 : decode cX2_distance 1 = .ok (.getfield 9, 3) := by decide +kernel
theorem dX2_distance_4 : decode cX2_distance 4 = .ok (.iload_n 3, 1) := by decide +kernel
theorem dX2_distance_5 : decode cX2_distance 5 = .ok (.iaload, 1) := by decide +kernel
theorem dX2_distance_6 : decode cX2_distance 6 = .ok (.aload_n 0, 1) := by decide +kernel
theorem dX2_distance_7 : decode cX2_distance 7 = .ok (.getfield 9, 3) := by decide +kernel
theorem dX2_distance_10 : decode cX2_distance 10 = .ok (.iload_n 1, 1) := by decide +kernel
theorem dX2_distance_11 : decode cX2_distance 11 = .ok (.iaload, 1) := by decide +kernel
theorem dX2_distance_12 : decode cX2_distance 12 = .ok (.isub, 1) := by decide +kernel
theorem dX2_distance_13 : decode cX2_distance 13 = .ok (.istore 4, 2) := by decide +kernel
theorem dX2_distance_15 : decode cX2_distance 15 = .ok (.aload_n 0, 1) := by decide +kernel
theorem dX2_distance_16 : decode cX2_distance 16 = .ok (.getfield 15, 3) := by decide +kernel
theorem dX2_distance_19 : decode cX2_distance 19 = .ok (.iload_n 3, 1) := by decide +kernel
theorem dX2_distance_20 : decode cX2_distance 20 = .ok (.iaload, 1) := by decide +kernel
end
section
theorem dX2_distance_21 : decode cX2_distance 21 = .ok (.aload_n 0, 1) := by decide +kernel
theorem dX2_distance_22 : decode cX2_distance 22 = .ok (.getfield 15, 3) := by decide +kernel
theorem dX2_distance_25 : decode cX2_distance 25 = .ok (.iload_n 1, 1) := by decide +kernel
theorem dX2_distance_26 : decode cX2_distance 26 = .ok (.iaload, 1) := by decide +kernel
theorem dX2_distance_27 : decode cX2_distance 27 = .ok (.isub, 1) := by decide +kernel
theorem dX2_distance_28 : decode cX2_distance 28 = .ok (.istore 5, 2) := by decide +kernel
theorem dX2_distance_30 : decode cX2_distance 30 = .ok (.aload_n 0, 1) := by decide +kernel
theorem dX2_distance_31 : decode cX2_distance 31 = .ok (.getfield 18, 3) := by decide +kernel
theorem dX2_distance_34 : decode cX2_distance 34 = .ok (.iload_n 3, 1) := by decide +kernel
theorem dX2_distance_35 : decode cX2_distance 35 = .ok (.iaload, 1) := by decide +kernel
theorem dX2_distance_36 : decode cX2_distance 36 = .ok (.aload_n 0, 1) := by decide +kernel
theorem dX2_distance_37 : decode cX2_distance 37 = .ok (.getfield 18, 3) := by decide +kernel
theorem dX2_distance_40 : decode cX2_distance 40 = .ok (.iload_n 1, 1) := by decide +kernel
theorem dX2_distance_41 : decode cX2_distance 41 = .ok (.iaload, 1) := by decide +kernel
theorem dX2_distance_42 : decode cX2_distance 42 = .ok (.isub, 1) := by decide +kernel
theorem dX2_distance_43 : decode cX2_distance 43 = .ok (.getstatic 76, 3) := by decide +kernel
theorem dX2_distance_46 : decode cX2_distance 46 = .ok (.iload_n 2, 1) := by decide +kernel
theorem dX2_distance_47 : decode cX2_distance 47 = .ok (.iaload, 1) := by decide +kernel
theorem dX2_distance_48 : decode cX2_distance 48 = .ok (.if_icmp .eq 5, 3) := by decide +kernel
theorem dX2_distance_51 : decode cX2_distance 51 = .ok (.iconst 0, 1) := by decide +kernel
theorem dX2_distance_52 : decode cX2_distance 52 = .ok (.ireturn, 1) := by decide +kernel
theorem dX2_distance_53 : decode cX2_distance 53 = .ok (.iload_n 2, 1) := by decide +kernel
theorem dX2_distance_54 : decode cX2_distance 54 = .ok (.bipush 8, 2) := by decide +kernel
theorem dX2_distance_56 : decode cX2_distance 56 = .ok (.if_icmp .lt 19, 3) := by decide +kernel
theorem dX2_distance_59 : decode cX2_distance 59 = .ok (.iload 4, 2) := by decide +kernel
theorem dX2_distance_61 : decode cX2_distance 61 = .ok (.ifCond .ne 12, 3) := by decide +kernel
theorem dX2_distance_64 : decode cX2_distance 64 = .ok (.iload 5, 2) := by decide +kernel
theorem dX2_distance_66 : decode cX2_distance 66 = .ok (.ifCond .ne 7, 3) := by decide +kernel
theorem dX2_distance_69 : decode cX2_distance 69 = .ok (.iconst 1, 1) := by decide +kernel
theorem dX2_distance_70 : decode cX2_distance 70 = .ok (.goto 4, 3) := by decide +kernel
theorem dX2_distance_73 : decode cX2_distance 73 = .ok (.iconst 0, 1) := by decide +kernel
theorem dX2_distance_74 : decode cX2_distance 74 = .ok (.ireturn, 1) := by decide +kernel
theorem dX2_distance_75 : decode cX2_distance 75 = .ok (.getstatic 79, 3) := by decide +kernel
theorem dX2_distance_78 : decode cX2_distance 78 = .ok (.iload_n 2, 1) := by decide +kernel
theorem dX2_distance_79 : decode cX2_distance 79 = .ok (.iaload, 1) := by decide +kernel
theorem dX2_distance_80 : decode cX2_distance 80 = .ok (.ifCond .eq 14, 3) := by decide +kernel
theorem dX2_distance_83 : decode cX2_distance 83 = .ok (.iload 4, 2) := by decide +kernel
theorem dX2_distance_85 : decode cX2_distance 85 = .ok (.getstatic 79, 3) := by decide +kernel
theorem dX2_distance_88 : decode cX2_distance 88 = .ok (.iload_n 2, 1) := by decide +kernel
theorem dX2_distance_89 : decode cX2_distance 89 = .ok (.iaload, 1) := by decide +kernel
theorem dX2_distance_90 : decode cX2_distance 90 = .ok (.imul, 1) := by decide +kernel
theorem dX2_distance_91 : decode cX2_distance 91 = .ok (.goto 11, 3) := by decide +kernel
theorem dX2_distance_94 : decode cX2_distance 94 = .ok (.iload 5, 2) := by decide +kernel
theorem dX2_distance_96 : decode cX2_distance 96 = .ok (.getstatic 82, 3) := by decide +kernel
theorem dX2_distance_99 : decode cX2_distance 99 = .ok (.iload_n 2, 1) := by decide +kernel
theorem dX2_distance_100 : decode cX2_distance 100 = .ok (.iaload, 1) := by decide +kernel
theorem dX2_distance_101 : decode cX2_distance 101 = .ok (.imul, 1) := by decide +kernel
theorem dX2_distance_102 : decode cX2_distance 102 = .ok (.istore 6, 2) := by decide +kernel
theorem dX2_distance_104 : decode cX2_distance 104 = .ok (.iload 6, 2) := by decide +kernel
theorem dX2_distance_106 : decode cX2_distance 106 = .ok (.ifCond .le 40, 3) := by decide +kernel
theorem dX2_distance_109 : decode cX2_distance 109 = .ok (.iload 6, 2) := by decide +kernel
theorem dX2_distance_111 : decode cX2_distance 111 = .ok (.bipush 60, 2) := by decide +kernel
theorem dX2_distance_113 : decode cX2_distance 113 = .ok (.if_icmp .gt 33, 3) := by decide +kernel
theorem dX2_distance_116 : decode cX2_distance 116 = .ok (.iload 4, 2) := by decide +kernel
theorem dX2_distance_118 : decode cX2_distance 118 = .ok (.iload 6, 2) := by decide +kernel
theorem dX2_distance_120 : decode cX2_distance 120 = .ok (.getstatic 79, 3) := by decide +kernel
theorem dX2_distance_123 : decode cX2_distance 123 = .ok (.iload_n 2, 1) := by decide +kernel
theorem dX2_distance_124 : decode cX2_distance 124 = .ok (.iaload, 1) := by decide +kernel
theorem dX2_distance_125 : decode cX2_distance 125 = .ok (.imul, 1) := by decide +kernel
theorem dX2_distance_126 : decode cX2_distance 126 = .ok (.if_icmp .ne 20, 3) := by decide +kernel
theorem dX2_distance_129 : decode cX2_distance 129 = .ok (.iload 5, 2) := by decide +kernel
theorem dX2_distance_131 : decode cX2_distance 131 = .ok (.iload 6, 2) := by decide +kernel
theorem dX2_distance_133 : decode cX2_distance 133 = .ok (.getstatic 82, 3) := by decide +kernel
theorem dX2_distance_136 : decode cX2_distance 136 = .ok (.iload_n 2, 1) := by decide +kernel
theorem dX2_distance_137 : decode cX2_distance 137 = .ok (.iaload, 1) := by decide +kernel
theorem dX2_distance_138 : decode cX2_distance 138 = .ok (.imul, 1) := by decide +kernel
theorem dX2_distance_139 : decode cX2_distance 139 = .ok (.if_icmp .ne 7, 3) := by decide +kernel
theorem dX2_distance_142 : decode cX2_distance 142 = .ok (.iconst 1, 1) := by decide +kernel
theorem dX2_distance_143 : decode cX2_distance 143 = .ok (.goto 4, 3) := by decide +kernel
theorem dX2_distance_146 : decode cX2_distance 146 = .ok (.iconst 0, 1) := by decide +kernel
theorem dX2_distance_147 : decode cX2_distance 147 = .ok (.istore 7, 2) := by decide +kernel
theorem dX2_distance_149 : decode cX2_distance 149 = .ok (.iload 7, 2) := by decide +kernel
theorem dX2_distance_151 : decode cX2_distance 151 = .ok (.ifCond .eq 8, 3) := by decide +kernel
theorem dX2_distance_154 : decode cX2_distance 154 = .ok (.iload 6, 2) := by decide +kernel
theorem dX2_distance_156 : decode cX2_distance 156 = .ok (.goto 4, 3) := by decide +kernel
theorem dX2_distance_159 : decode cX2_distance 159 = .ok (.iconst 0, 1) := by decide +kernel
theorem dX2_distance_160 : decode cX2_distance 160 = .ok (.ireturn, 1) := by decide +kernel
theorem dX6_init_0 : decode cX6_init 0 = .ok (.aload_n 0, 1) := by decide +kernel
theorem dX6_init_1 : decode cX6_init 1 = .ok (.invokespecial 3, 3) := by decide +kernel
theorem dX6_init_4 : decode cX6_init 4 = .ok (.aload_n 0, 1) := by decide +kernel
theorem dX6_init_5 : decode cX6_init 5 = .ok (.bipush 25, 2) := by decide +kernel
theorem dX6_init_7 : decode cX6_init 7 = .ok (.newarray .int, 2) := by decide +kernel
theorem dX6_init_9 : decode cX6_init 9 = .ok (.putfield 9, 3) := by decide +kernel
theorem dX6_init_12 : decode cX6_init 12 = .ok (.aload_n 0, 1) := by decide +kernel
theorem dX6_init_13 : decode cX6_init 13 = .ok (.bipush 120, 2) := by decide +kernel
theorem dX6_init_15 : decode cX6_init 15 = .ok (.newarray .int, 2) := by decide +kernel
theorem dX6_init_17 : decode cX6_init 17 = .ok (.putfield 15, 3) := by decide +kernel
theorem dX6_init_20 : decode cX6_init 20 = .ok (.return_, 1) := by decide +kernel
theorem dX6_gather_0 : decode cX6_gather 0 = .ok (.iconst 0, 1) := by decide +kernel
theorem dX6_gather_1 : decode cX6_gather 1 = .ok (.istore_n 2, 1) := by decide +kernel
theorem dX6_gather_2 : decode cX6_gather 2 = .ok (.iconst 0, 1) := by decide +kernel
theorem dX6_gather_3 : decode cX6_gather 3 = .ok (.istore_n 3, 1) := by decide +kernel
theorem dX6_gather_4 : decode cX6_gather 4 = .ok (.iload_n 3, 1) := by decide +kernel
theorem dX6_gather_5 : decode cX6_gather 5 = .ok (.aload_n 1, 1) := by decide +kernel
theorem dX6_gather_6 : decode cX6_gather 6 = .ok (.getfield 18, 3) := by decide +kernel
theorem dX6_gather_9 : decode cX6_gather 9 = .ok (.if_icmp .ge 97, 3) := by decide +kernel
theorem dX6_gather_12 : decode cX6_gather 12 = .ok (.aload_n 0, 1) := by decide +kernel
theorem dX6_gather_13 : decode cX6_gather 13 = .ok (.getfield 9, 3) := by decide +kernel
theorem dX6_gather_16 : decode cX6_gather 16 = .ok (.iload_n 3, 1) := by decide +kernel
theorem dX6_gather_17 : decode cX6_gather 17 = .ok (.iload_n 2, 1) := by decide +kernel
theorem dX6_gather_18 : decode cX6_gather 18 = .ok (.iastore, 1) := by decide +kernel
theorem dX6_gather_19 : decode cX6_gather 19 = .ok (.iconst 0, 1) := by decide +kernel
theorem dX6_gather_20 : decode cX6_gather 20 = .ok (.istore 4, 2) := by decide +kernel
theorem dX6_gather_22 : decode cX6_gather 22 = .ok (.iload 4, 2) := by decide +kernel
theorem dX6_gather_24 : decode cX6_gather 24 = .ok (.aload_n 1, 1) := by decide +kernel
theorem dX6_gather_25 : decode cX6_gather 25 = .ok (.getfield 24, 3) := by decide +kernel
theorem dX6_gather_28 : decode cX6_gather 28 = .ok (.if_icmp .ge 72, 3) := by decide +kernel
theorem dX6_gather_31 : decode cX6_gather 31 = .ok (.aload_n 1, 1) := by decide +kernel
theorem dX6_gather_32 : decode cX6_gather 32 = .ok (.getfield 27, 3) := by decide +kernel
theorem dX6_gather_35 : decode cX6_gather 35 = .ok (.iload 4, 2) := by decide +kernel
theorem dX6_gather_37 : decode cX6_gather 37 = .ok (.iaload, 1) := by decide +kernel
theorem dX6_gather_38 : decode cX6_gather 38 = .ok (.iload_n 3, 1) := by decide +kernel
theorem dX6_gather_39 : decode cX6_gather 39 = .ok (.if_icmp .eq 14, 3) := by decide +kernel
theorem dX6_gather_42 : decode cX6_gather 42 = .ok (.aload_n 1, 1) := by decide +kernel
theorem dX6_gather_43 : decode cX6_gather 43 = .ok (.getfield 30, 3) := by decide +kernel
theorem dX6_gather_46 : decode cX6_gather 46 = .ok (.iload 4, 2) := by decide +kernel
theorem dX6_gather_48 : decode cX6_gather 48 = .ok (.iaload, 1) := by decide +kernel
theorem dX6_gather_49 : decode cX6_gather 49 = .ok (.iload_n 3, 1) := by decide +kernel
theorem dX6_gather_50 : decode cX6_gather 50 = .ok (.if_icmp .ne 7, 3) := by decide +kernel
theorem dX6_gather_53 : decode cX6_gather 53 = .ok (.iconst 1, 1) := by decide +kernel
theorem dX6_gather_54 : decode cX6_gather 54 = .ok (.goto 4, 3) := by decide +kernel
theorem dX6_gather_57 : decode cX6_gather 57 = .ok (.iconst 0, 1) := by decide +kernel
theorem dX6_gather_58 : decode cX6_gather 58 = .ok (.istore 5, 2) := by decide +kernel
theorem dX6_gather_60 : decode cX6_gather 60 = .ok (.iload 5, 2) := by decide +kernel
theorem dX6_gather_62 : decode cX6_gather 62 = .ok (.ifCond .eq 32, 3) := by decide +kernel
theorem dX6_gather_65 : decode cX6_gather 65 = .ok (.aload_n 1, 1) := by decide +kernel
theorem dX6_gather_66 : decode cX6_gather 66 = .ok (.iload 4, 2) := by decide +kernel
theorem dX6_gather_68 : decode cX6_gather 68 = .ok (.invokevirtual 33, 3) := by decide +kernel
theorem dX6_gather_71 : decode cX6_gather 71 = .ok (.ifCond .ne 23, 3) := by decide +kernel
theorem dX6_gather_74 : decode cX6_gather 74 = .ok (.iload_n 2, 1) := by decide +kernel
theorem dX6_gather_75 : decode cX6_gather 75 = .ok (.aload_n 0, 1) := by decide +kernel
theorem dX6_gather_76 : decode cX6_gather 76 = .ok (.getfield 15, 3) := by decide +kernel
theorem dX6_gather_79 : decode cX6_gather 79 = .ok (.arraylength, 1) := by decide +kernel
theorem dX6_gather_80 : decode cX6_gather 80 = .ok (.if_icmp .ge 14, 3) := by decide +kernel
theorem dX6_gather_83 : decode cX6_gather 83 = .ok (.aload_n 0, 1) := by decide +kernel
theorem dX6_gather_84 : decode cX6_gather 84 = .ok (.getfield 15, 3) := by decide +kernel
theorem dX6_gather_87 : decode cX6_gather 87 = .ok (.iload_n 2, 1) := by decide +kernel
theorem dX6_gather_88 : decode cX6_gather 88 = .ok (.iinc 2 1, 3) := by decide +kernel
theorem dX6_gather_91 : decode cX6_gather 91 = .ok (.iload 4, 2) := by decide +kernel
theorem dX6_gather_93 : decode cX6_gather 93 = .ok (.iastore, 1) := by decide +kernel
theorem dX6_gather_94 : decode cX6_gather 94 = .ok (.iinc 4 1, 3) := by decide +kernel
theorem dX6_gather_97 : decode cX6_gather 97 = .ok (.goto (-75), 3) := by decide +kernel
theorem dX6_gather_100 : decode cX6_gather 100 = .ok (.iinc 3 1, 3) := by decide +kernel
theorem dX6_gather_103 : decode cX6_gather 103 = .ok (.goto (-99), 3) := by decide +kernel
theorem dX6_gather_106 : decode cX6_gather 106 = .ok (.aload_n 0, 1) := by decide +kernel
theorem dX6_gather_107 : decode cX6_gather 107 = .ok (.getfield 9, 3) := by decide +kernel
theorem dX6_gather_110 : decode cX6_gather 110 = .ok (.aload_n 1, 1) := by decide +kernel
theorem dX6_gather_111 : decode cX6_gather 111 = .ok (.getfield 18, 3) := by decide +kernel
theorem dX6_gather_114 : decode cX6_gather 114 = .ok (.iload_n 2, 1) := by decide +kernel
theorem dX6_gather_115 : decode cX6_gather 115 = .ok (.iastore, 1) := by decide +kernel
theorem dX6_gather_116 : decode cX6_gather 116 = .ok (.return_, 1) := by decide +kernel
theorem dX6_count_0 : decode cX6_count 0 = .ok (.aload_n 0, 1) := by decide +kernel
theorem dX6_count_1 : decode cX6_count 1 = .ok (.getfield 9, 3) := by decide +kernel
theorem dX6_count_4 : decode cX6_count 4 = .ok (.iload_n 1, 1) := by decide +kernel
theorem dX6_count_5 : decode cX6_count 5 = .ok (.iconst 1, 1) := by decide +kernel
theorem dX6_count_6 : decode cX6_count 6 = .ok (.iadd, 1) := by decide +kernel
theorem dX6_count_7 : decode cX6_count 7 = .ok (.iaload, 1) := by decide +kernel
theorem dX6_count_8 : decode cX6_count 8 = .ok (.aload_n 0, 1) := by decide +kernel
theorem dX6_count_9 : decode cX6_count 9 = .ok (.getfield 9, 3) := by decide +kernel
theorem dX6_count_12 : decode cX6_count 12 = .ok (.iload_n 1, 1) := by decide +kernel
theorem dX6_count_13 : decode cX6_count 13 = .ok (.iaload, 1) := by decide +kernel
theorem dX6_count_14 : decode cX6_count 14 = .ok (.isub, 1) := by decide +kernel
theorem dX6_count_15 : decode cX6_count 15 = .ok (.ireturn, 1) := by decide +kernel
theorem dX6_get_0 : decode cX6_get 0 = .ok (.aload_n 0, 1) := by decide +kernel
theorem dX6_get_1 : decode cX6_get 1 = .ok (.getfield 15, 3) := by decide +kernel
theorem dX6_get_4 : decode cX6_get 4 = .ok (.aload_n 0, 1) := by decide +kernel
theorem dX6_get_5 : decode cX6_get 5 = .ok (.getfield 9, 3) := by decide +kernel
theorem dX6_get_8 : decode cX6_get 8 = .ok (.iload_n 1, 1) := by decide +kernel
theorem dX6_get_9 : decode cX6_get 9 = .ok (.iaload, 1) := by decide +kernel
theorem dX6_get_10 : decode cX6_get 10 = .ok (.iload_n 2, 1) := by decide +kernel
theorem dX6_get_11 : decode cX6_get 11 = .ok (.iadd, 1) := by decide +kernel
theorem dX6_get_12 : decode cX6_get 12 = .ok (.iaload, 1) := by decide +kernel
theorem dX6_get_13 : decode cX6_get 13 = .ok (.ireturn, 1) := by decide +kernel
theorem dX0_init_0 : decode cX0_init 0 = .ok (.aload_n 0, 1) := by decide +kernel
theorem dX0_init_1 : decode cX0_init 1 = .ok (.invokespecial 3, 3) := by decide +kernel
theorem dX0_init_4 : decode cX0_init 4 = .ok (.aload_n 0, 1) := by decide +kernel
theorem dX0_init_5 : decode cX0_init 5 = .ok (.aload_n 1, 1) := by decide +kernel
theorem dX0_init_6 : decode cX0_init 6 = .ok (.putfield 9, 3) := by decide +kernel
theorem dX0_init_9 : decode cX0_init 9 = .ok (.aload_n 0, 1) := by decide +kernel
theorem dX0_init_10 : decode cX0_init 10 = .ok (.aload_n 2, 1) := by decide +kernel
theorem dX0_init_11 : decode cX0_init 11 = .ok (.putfield 15, 3) := by decide +kernel
theorem dX0_init_14 : decode cX0_init 14 = .ok (.return_, 1) := by decide +kernel
theorem dX0_bound_0 : decode cX0_bound 0 = .ok (.iconst 3, 1) := by decide +kernel
theorem dX0_bound_1 : decode cX0_bound 1 = .ok (.aload_n 0, 1) := by decide +kernel
theorem dX0_bound_2 : decode cX0_bound 2 = .ok (.getfield 15, 3) := by decide +kernel
theorem dX0_bound_5 : decode cX0_bound 5 = .ok (.iload_n 1, 1) := by decide +kernel
theorem dX0_bound_6 : decode cX0_bound 6 = .ok (.invokevirtual 19, 3) := by decide +kernel
theorem dX0_bound_9 : decode cX0_bound 9 = .ok (.imul, 1) := by decide +kernel
theorem dX0_bound_10 : decode cX0_bound 10 = .ok (.ireturn, 1) := by decide +kernel
theorem dX0_lookAtOrigin_0 : decode cX0_lookAtOrigin 0 = .ok (.aload_n 0, 1) := by decide +kernel
theorem dX0_lookAtOrigin_1 : decode cX0_lookAtOrigin 1 = .ok (.iconst 0, 1) := by decide +kernel
theorem dX0_lookAtOrigin_2 : decode cX0_lookAtOrigin 2 = .ok (.putfield 25, 3) := by decide +kernel
theorem dX0_lookAtOrigin_5 : decode cX0_lookAtOrigin 5 = .ok (.aload_n 0, 1) := by decide +kernel
theorem dX0_lookAtOrigin_6 : decode cX0_lookAtOrigin 6 = .ok (.iconst 0, 1) := by decide +kernel
theorem dX0_lookAtOrigin_7 : decode cX0_lookAtOrigin 7 = .ok (.putfield 29, 3) := by decide +kernel
theorem dX0_lookAtOrigin_10 : decode cX0_lookAtOrigin 10 = .ok (.aload_n 0, 1) := by decide +kernel
theorem dX0_lookAtOrigin_11 : decode cX0_lookAtOrigin 11 = .ok (.iconst 0, 1) := by decide +kernel
theorem dX0_lookAtOrigin_12 : decode cX0_lookAtOrigin 12 = .ok (.putfield 32, 3) := by decide +kernel
theorem dX0_lookAtOrigin_15 : decode cX0_lookAtOrigin 15 = .ok (.return_, 1) := by decide +kernel
theorem dX0_lookAtChance_0 : decode cX0_lookAtChance 0 = .ok (.aload_n 0, 1) := by decide +kernel
theorem dX0_lookAtChance_1 : decode cX0_lookAtChance 1 = .ok (.getfield 15, 3) := by decide +kernel
theorem dX0_lookAtChance_4 : decode cX0_lookAtChance 4 = .ok (.iload_n 2, 1) := by decide +kernel
theorem dX0_lookAtChance_5 : decode cX0_lookAtChance 5 = .ok (.iload_n 3, 1) := by decide +kernel
theorem dX0_lookAtChance_6 : decode cX0_lookAtChance 6 = .ok (.iconst 3, 1) := by decide +kernel
theorem dX0_lookAtChance_7 : decode cX0_lookAtChance 7 = .ok (.idiv, 1) := by decide +kernel
theorem dX0_lookAtChance_8 : decode cX0_lookAtChance 8 = .ok (.invokevirtual 35, 3) := by decide +kernel
theorem dX0_lookAtChance_11 : decode cX0_lookAtChance 11 = .ok (.istore 4, 2) := by decide +kernel
theorem dX0_lookAtChance_13 : decode cX0_lookAtChance 13 = .ok (.iload_n 3, 1) := by decide +kernel
theorem dX0_lookAtChance_14 : decode cX0_lookAtChance 14 = .ok (.iconst 3, 1) := by decide +kernel
theorem dX0_lookAtChance_15 : decode cX0_lookAtChance 15 = .ok (.irem, 1) := by decide +kernel
theorem dX0_lookAtChance_16 : decode cX0_lookAtChance 16 = .ok (.iconst 1, 1) := by decide +kernel
theorem dX0_lookAtChance_17 : decode cX0_lookAtChance 17 = .ok (.iadd, 1) := by decide +kernel
theorem dX0_lookAtChance_18 : decode cX0_lookAtChance 18 = .ok (.istore 5, 2) := by decide +kernel
theorem dX0_lookAtChance_20 : decode cX0_lookAtChance 20 = .ok (.aload_n 0, 1) := by decide +kernel
theorem dX0_lookAtChance_21 : decode cX0_lookAtChance 21 = .ok (.getfield 9, 3) := by decide +kernel
theorem dX0_lookAtChance_24 : decode cX0_lookAtChance 24 = .ok (.getfield 39, 3) := by decide +kernel
theorem dX0_lookAtChance_27 : decode cX0_lookAtChance 27 = .ok (.iload 4, 2) := by decide +kernel
theorem dX0_lookAtChance_29 : decode cX0_lookAtChance 29 = .ok (.iaload, 1) := by decide +kernel
theorem dX0_lookAtChance_30 : decode cX0_lookAtChance 30 = .ok (.istore 6, 2) := by decide +kernel
theorem dX0_lookAtChance_32 : decode cX0_lookAtChance 32 = .ok (.aload_n 0, 1) := by decide +kernel
theorem dX0_lookAtChance_33 : decode cX0_lookAtChance 33 = .ok (.getfield 9, 3) := by decide +kernel
theorem dX0_lookAtChance_36 : decode cX0_lookAtChance 36 = .ok (.iload 4, 2) := by decide +kernel
theorem dX0_lookAtChance_38 : decode cX0_lookAtChance 38 = .ok (.iload_n 2, 1) := by decide +kernel
theorem dX0_lookAtChance_39 : decode cX0_lookAtChance 39 = .ok (.invokevirtual 45, 3) := by decide +kernel
theorem dX0_lookAtChance_42 : decode cX0_lookAtChance 42 = .ok (.istore 7, 2) := by decide +kernel
theorem dX0_lookAtChance_44 : decode cX0_lookAtChance 44 = .ok (.aload_n 1, 1) := by decide +kernel
theorem dX0_lookAtChance_45 : decode cX0_lookAtChance 45 = .ok (.getfield 48, 3) := by decide +kernel
theorem dX0_lookAtChance_48 : decode cX0_lookAtChance 48 = .ok (.iload 7, 2) := by decide +kernel
theorem dX0_lookAtChance_50 : decode cX0_lookAtChance 50 = .ok (.baload, 1) := by decide +kernel
theorem dX0_lookAtChance_51 : decode cX0_lookAtChance 51 = .ok (.ifCond .eq 16, 3) := by decide +kernel
theorem dX0_lookAtChance_54 : decode cX0_lookAtChance 54 = .ok (.iload 6, 2) := by decide +kernel
theorem dX0_lookAtChance_56 : decode cX0_lookAtChance 56 = .ok (.bipush 8, 2) := by decide +kernel
theorem dX0_lookAtChance_58 : decode cX0_lookAtChance 58 = .ok (.if_icmp .lt 11, 3) := by decide +kernel
theorem dX0_lookAtChance_61 : decode cX0_lookAtChance 61 = .ok (.iload 5, 2) := by decide +kernel
theorem dX0_lookAtChance_63 : decode cX0_lookAtChance 63 = .ok (.iconst 1, 1) := by decide +kernel
theorem dX0_lookAtChance_64 : decode cX0_lookAtChance 64 = .ok (.if_icmp .le 5, 3) := by decide +kernel
theorem dX0_lookAtChance_67 : decode cX0_lookAtChance 67 = .ok (.iconst 0, 1) := by decide +kernel
theorem dX0_lookAtChance_68 : decode cX0_lookAtChance 68 = .ok (.ireturn, 1) := by decide +kernel
theorem dX0_lookAtChance_69 : decode cX0_lookAtChance 69 = .ok (.aload_n 0, 1) := by decide +kernel
theorem dX0_lookAtChance_70 : decode cX0_lookAtChance 70 = .ok (.getfield 9, 3) := by decide +kernel
theorem dX0_lookAtChance_73 : decode cX0_lookAtChance 73 = .ok (.getfield 54, 3) := by decide +kernel
theorem dX0_lookAtChance_76 : decode cX0_lookAtChance 76 = .ok (.iload 4, 2) := by decide +kernel
theorem dX0_lookAtChance_78 : decode cX0_lookAtChance 78 = .ok (.iaload, 1) := by decide +kernel
theorem dX0_lookAtChance_79 : decode cX0_lookAtChance 79 = .ok (.iload_n 2, 1) := by decide +kernel
theorem dX0_lookAtChance_80 : decode cX0_lookAtChance 80 = .ok (.if_icmp .ne 8, 3) := by decide +kernel
theorem dX0_lookAtChance_83 : decode cX0_lookAtChance 83 = .ok (.iload 5, 2) := by decide +kernel
theorem dX0_lookAtChance_85 : decode cX0_lookAtChance 85 = .ok (.goto 6, 3) := by decide +kernel
theorem dX0_lookAtChance_88 : decode cX0_lookAtChance 88 = .ok (.iload 5, 2) := by decide +kernel
theorem dX0_lookAtChance_90 : decode cX0_lookAtChance 90 = .ok (.ineg, 1) := by decide +kernel
theorem dX0_lookAtChance_91 : decode cX0_lookAtChance 91 = .ok (.istore 8, 2) := by decide +kernel
theorem dX0_lookAtChance_93 : decode cX0_lookAtChance 93 = .ok (.aload_n 0, 1) := by decide +kernel
theorem dX0_lookAtChance_94 : decode cX0_lookAtChance 94 = .ok (.aload_n 1, 1) := by decide +kernel
theorem dX0_lookAtChance_95 : decode cX0_lookAtChance 95 = .ok (.getfield 57, 3) := by decide +kernel
theorem dX0_lookAtChance_98 : decode cX0_lookAtChance 98 = .ok (.iload 7, 2) := by decide +kernel
theorem dX0_lookAtChance_100 : decode cX0_lookAtChance 100 = .ok (.iaload, 1) := by decide +kernel
theorem dX0_lookAtChance_101 : decode cX0_lookAtChance 101 = .ok (.iload 8, 2) := by decide +kernel
theorem dX0_lookAtChance_103 : decode cX0_lookAtChance 103 = .ok (.getstatic 59, 3) := by decide +kernel
theorem dX0_lookAtChance_106 : decode cX0_lookAtChance 106 = .ok (.iload 6, 2) := by decide +kernel
theorem dX0_lookAtChance_108 : decode cX0_lookAtChance 108 = .ok (.iaload, 1) := by decide +kernel
theorem dX0_lookAtChance_109 : decode cX0_lookAtChance 109 = .ok (.imul, 1) := by decide +kernel
theorem dX0_lookAtChance_110 : decode cX0_lookAtChance 110 = .ok (.iadd, 1) := by decide +kernel
theorem dX0_lookAtChance_111 : decode cX0_lookAtChance 111 = .ok (.putfield 25, 3) := by decide +kernel
theorem dX0_lookAtChance_114 : decode cX0_lookAtChance 114 = .ok (.aload_n 0, 1) := by decide +kernel
theorem dX0_lookAtChance_115 : decode cX0_lookAtChance 115 = .ok (.aload_n 1, 1) := by decide +kernel
theorem dX0_lookAtChance_116 : decode cX0_lookAtChance 116 = .ok (.getfield 62, 3) := by decide +kernel
theorem dX0_lookAtChance_119 : decode cX0_lookAtChance 119 = .ok (.iload 7, 2) := by decide +kernel
theorem dX0_lookAtChance_121 : decode cX0_lookAtChance 121 = .ok (.iaload, 1) := by decide +kernel
theorem dX0_lookAtChance_122 : decode cX0_lookAtChance 122 = .ok (.iload 8, 2) := by decide +kernel
theorem dX0_lookAtChance_124 : decode cX0_lookAtChance 124 = .ok (.getstatic 64, 3) := by decide +kernel
theorem dX0_lookAtChance_127 : decode cX0_lookAtChance 127 = .ok (.iload 6, 2) := by decide +kernel
theorem dX0_lookAtChance_129 : decode cX0_lookAtChance 129 = .ok (.iaload, 1) := by decide +kernel
theorem dX0_lookAtChance_130 : decode cX0_lookAtChance 130 = .ok (.imul, 1) := by decide +kernel
theorem dX0_lookAtChance_131 : decode cX0_lookAtChance 131 = .ok (.iadd, 1) := by decide +kernel
theorem dX0_lookAtChance_132 : decode cX0_lookAtChance 132 = .ok (.putfield 29, 3) := by decide +kernel
theorem dX0_lookAtChance_135 : decode cX0_lookAtChance 135 = .ok (.aload_n 0, 1) := by decide +kernel
theorem dX0_lookAtChance_136 : decode cX0_lookAtChance 136 = .ok (.aload_n 1, 1) := by decide +kernel
theorem dX0_lookAtChance_137 : decode cX0_lookAtChance 137 = .ok (.getfield 67, 3) := by decide +kernel
theorem dX0_lookAtChance_140 : decode cX0_lookAtChance 140 = .ok (.iload 7, 2) := by decide +kernel
theorem dX0_lookAtChance_142 : decode cX0_lookAtChance 142 = .ok (.iaload, 1) := by decide +kernel
theorem dX0_lookAtChance_143 : decode cX0_lookAtChance 143 = .ok (.iload 8, 2) := by decide +kernel
theorem dX0_lookAtChance_145 : decode cX0_lookAtChance 145 = .ok (.getstatic 69, 3) := by decide +kernel
theorem dX0_lookAtChance_148 : decode cX0_lookAtChance 148 = .ok (.iload 6, 2) := by decide +kernel
theorem dX0_lookAtChance_150 : decode cX0_lookAtChance 150 = .ok (.iaload, 1) := by decide +kernel
theorem dX0_lookAtChance_151 : decode cX0_lookAtChance 151 = .ok (.imul, 1) := by decide +kernel
theorem dX0_lookAtChance_152 : decode cX0_lookAtChance 152 = .ok (.iadd, 1) := by decide +kernel
theorem dX0_lookAtChance_153 : decode cX0_lookAtChance 153 = .ok (.putfield 32, 3) := by decide +kernel
theorem dX0_lookAtChance_156 : decode cX0_lookAtChance 156 = .ok (.aload_n 1, 1) := by decide +kernel
theorem dX0_lookAtChance_157 : decode cX0_lookAtChance 157 = .ok (.aload_n 0, 1) := by decide +kernel
theorem dX0_lookAtChance_158 : decode cX0_lookAtChance 158 = .ok (.getfield 25, 3) := by decide +kernel
theorem dX0_lookAtChance_161 : decode cX0_lookAtChance 161 = .ok (.aload_n 0, 1) := by decide +kernel
theorem dX0_lookAtChance_162 : decode cX0_lookAtChance 162 = .ok (.getfield 29, 3) := by decide +kernel
theorem dX0_lookAtChance_165 : decode cX0_lookAtChance 165 = .ok (.aload_n 0, 1) := by decide +kernel
theorem dX0_lookAtChance_166 : decode cX0_lookAtChance 166 = .ok (.getfield 32, 3) := by decide +kernel
theorem dX0_lookAtChance_169 : decode cX0_lookAtChance 169 = .ok (.invokevirtual 72, 3) := by decide +kernel
theorem dX0_lookAtChance_172 : decode cX0_lookAtChance 172 = .ok (.ireturn, 1) := by decide +kernel
theorem dX0_lookAtFirst_0 : decode cX0_lookAtFirst 0 = .ok (.iconst 0, 1) := by decide +kernel
theorem dX0_lookAtFirst_1 : decode cX0_lookAtFirst 1 = .ok (.istore_n 3, 1) := by decide +kernel
theorem dX0_lookAtFirst_2 : decode cX0_lookAtFirst 2 = .ok (.iload_n 3, 1) := by decide +kernel
theorem dX0_lookAtFirst_3 : decode cX0_lookAtFirst 3 = .ok (.aload_n 0, 1) := by decide +kernel
theorem dX0_lookAtFirst_4 : decode cX0_lookAtFirst 4 = .ok (.iload_n 2, 1) := by decide +kernel
theorem dX0_lookAtFirst_5 : decode cX0_lookAtFirst 5 = .ok (.invokevirtual 76, 3) := by decide +kernel
theorem dX0_lookAtFirst_8 : decode cX0_lookAtFirst 8 = .ok (.if_icmp .ge 20, 3) := by decide +kernel
theorem dX0_lookAtFirst_11 : decode cX0_lookAtFirst 11 = .ok (.aload_n 0, 1) := by decide +kernel
theorem dX0_lookAtFirst_12 : decode cX0_lookAtFirst 12 = .ok (.aload_n 1, 1) := by decide +kernel
theorem dX0_lookAtFirst_13 : decode cX0_lookAtFirst 13 = .ok (.iload_n 2, 1) := by decide +kernel
theorem dX0_lookAtFirst_14 : decode cX0_lookAtFirst 14 = .ok (.iload_n 3, 1) := by decide +kernel
theorem dX0_lookAtFirst_15 : decode cX0_lookAtFirst 15 = .ok (.invokevirtual 79, 3) := by decide +kernel
theorem dX0_lookAtFirst_18 : decode cX0_lookAtFirst 18 = .ok (.ifCond .eq 4, 3) := by decide +kernel
theorem dX0_lookAtFirst_21 : decode cX0_lookAtFirst 21 = .ok (.return_, 1) := by decide +kernel
theorem dX0_lookAtFirst_22 : decode cX0_lookAtFirst 22 = .ok (.iinc 3 1, 3) := by decide +kernel
theorem dX0_lookAtFirst_25 : decode cX0_lookAtFirst 25 = .ok (.goto (-23), 3) := by decide +kernel
theorem dX0_lookAtFirst_28 : decode cX0_lookAtFirst 28 = .ok (.aload_n 0, 1) := by decide +kernel
theorem dX0_lookAtFirst_29 : decode cX0_lookAtFirst 29 = .ok (.aload_n 1, 1) := by decide +kernel
theorem dX0_lookAtFirst_30 : decode cX0_lookAtFirst 30 = .ok (.iload_n 2, 1) := by decide +kernel
theorem dX0_lookAtFirst_31 : decode cX0_lookAtFirst 31 = .ok (.invokevirtual 83, 3) := by decide +kernel
theorem dX0_lookAtFirst_34 : decode cX0_lookAtFirst 34 = .ok (.return_, 1) := by decide +kernel
theorem dX0_lookAtSpare_0 : decode cX0_lookAtSpare 0 = .ok (.aload_n 0, 1) := by decide +kernel
theorem dX0_lookAtSpare_1 : decode cX0_lookAtSpare 1 = .ok (.aload_n 1, 1) := by decide +kernel
theorem dX0_lookAtSpare_2 : decode cX0_lookAtSpare 2 = .ok (.iload_n 2, 1) := by decide +kernel
theorem dX0_lookAtSpare_3 : decode cX0_lookAtSpare 3 = .ok (.invokevirtual 87, 3) := by decide +kernel
theorem dX0_lookAtSpare_6 : decode cX0_lookAtSpare 6 = .ok (.istore_n 3, 1) := by decide +kernel
theorem dX0_lookAtSpare_7 : decode cX0_lookAtSpare 7 = .ok (.iload_n 3, 1) := by decide +kernel
theorem dX0_lookAtSpare_8 : decode cX0_lookAtSpare 8 = .ok (.ifCond .ge 4, 3) := by decide +kernel
theorem dX0_lookAtSpare_11 : decode cX0_lookAtSpare 11 = .ok (.return_, 1) := by decide +kernel
theorem dX0_lookAtSpare_12 : decode cX0_lookAtSpare 12 = .ok (.aload_n 0, 1) := by decide +kernel
theorem dX0_lookAtSpare_13 : decode cX0_lookAtSpare 13 = .ok (.aload_n 1, 1) := by decide +kernel
theorem dX0_lookAtSpare_14 : decode cX0_lookAtSpare 14 = .ok (.getfield 67, 3) := by decide +kernel
theorem dX0_lookAtSpare_17 : decode cX0_lookAtSpare 17 = .ok (.iload_n 3, 1) := by decide +kernel
theorem dX0_lookAtSpare_18 : decode cX0_lookAtSpare 18 = .ok (.iaload, 1) := by decide +kernel
theorem dX0_lookAtSpare_19 : decode cX0_lookAtSpare 19 = .ok (.putfield 32, 3) := by decide +kernel
theorem dX0_lookAtSpare_22 : decode cX0_lookAtSpare 22 = .ok (.iconst 1, 1) := by decide +kernel
theorem dX0_lookAtSpare_23 : decode cX0_lookAtSpare 23 = .ok (.istore 4, 2) := by decide +kernel
theorem dX0_lookAtSpare_25 : decode cX0_lookAtSpare 25 = .ok (.iload 4, 2) := by decide +kernel
theorem dX0_lookAtSpare_27 : decode cX0_lookAtSpare 27 = .ok (.bipush 24, 2) := by decide +kernel
theorem dX0_lookAtSpare_29 : decode cX0_lookAtSpare 29 = .ok (.if_icmp .gt 32, 3) := by decide +kernel
theorem dX0_lookAtSpare_32 : decode cX0_lookAtSpare 32 = .ok (.aload_n 0, 1) := by decide +kernel
theorem dX0_lookAtSpare_33 : decode cX0_lookAtSpare 33 = .ok (.aload_n 1, 1) := by decide +kernel
theorem dX0_lookAtSpare_34 : decode cX0_lookAtSpare 34 = .ok (.aload_n 1, 1) := by decide +kernel
theorem dX0_lookAtSpare_35 : decode cX0_lookAtSpare 35 = .ok (.getfield 57, 3) := by decide +kernel
theorem dX0_lookAtSpare_38 : decode cX0_lookAtSpare 38 = .ok (.iload_n 3, 1) := by decide +kernel
theorem dX0_lookAtSpare_39 : decode cX0_lookAtSpare 39 = .ok (.iaload, 1) := by decide +kernel
theorem dX0_lookAtSpare_40 : decode cX0_lookAtSpare 40 = .ok (.aload_n 1, 1) := by decide +kernel
theorem dX0_lookAtSpare_41 : decode cX0_lookAtSpare 41 = .ok (.getfield 62, 3) := by decide +kernel
theorem dX0_lookAtSpare_44 : decode cX0_lookAtSpare 44 = .ok (.iload_n 3, 1) := by decide +kernel
theorem dX0_lookAtSpare_45 : decode cX0_lookAtSpare 45 = .ok (.iaload, 1) := by decide +kernel
theorem dX0_lookAtSpare_46 : decode cX0_lookAtSpare 46 = .ok (.iload 4, 2) := by decide +kernel
theorem dX0_lookAtSpare_48 : decode cX0_lookAtSpare 48 = .ok (.invokevirtual 91, 3) := by decide +kernel
theorem dX0_lookAtSpare_51 : decode cX0_lookAtSpare 51 = .ok (.ifCond .eq 4, 3) := by decide +kernel
theorem dX0_lookAtSpare_54 : decode cX0_lookAtSpare 54 = .ok (.return_, 1) := by decide +kernel
theorem dX0_lookAtSpare_55 : decode cX0_lookAtSpare 55 = .ok (.iinc 4 1, 3) := by decide +kernel
theorem dX0_lookAtSpare_58 : decode cX0_lookAtSpare 58 = .ok (.goto (-33), 3) := by decide +kernel
theorem dX0_lookAtSpare_61 : decode cX0_lookAtSpare 61 = .ok (.return_, 1) := by decide +kernel
theorem dX0_firstPlacedNeighbour_0 : decode cX0_firstPlacedNeighbour 0 = .ok (.iconst 0, 1) := by decide +kernel
theorem dX0_firstPlacedNeighbour_1 : decode cX0_firstPlacedNeighbour 1 = .ok (.istore_n 3, 1) := by decide +kernel
theorem dX0_firstPlacedNeighbour_2 : decode cX0_firstPlacedNeighbour 2 = .ok (.iload_n 3, 1) := by decide +kernel
theorem dX0_firstPlacedNeighbour_3 : decode cX0_firstPlacedNeighbour 3 = .ok (.aload_n 0, 1) := by decide +kernel
theorem dX0_firstPlacedNeighbour_4 : decode cX0_firstPlacedNeighbour 4 = .ok (.getfield 15, 3) := by decide +kernel
theorem dX0_firstPlacedNeighbour_7 : decode cX0_firstPlacedNeighbour 7 = .ok (.iload_n 2, 1) := by decide +kernel
theorem dX0_firstPlacedNeighbour_8 : decode cX0_firstPlacedNeighbour 8 = .ok (.invokevirtual 19, 3) := by decide +kernel
theorem dX0_firstPlacedNeighbour_11 : decode cX0_firstPlacedNeighbour 11 = .ok (.if_icmp .ge 41, 3) := by decide +kernel
theorem dX0_firstPlacedNeighbour_14 : decode cX0_firstPlacedNeighbour 14 = .ok (.aload_n 0, 1) := by decide +kernel
theorem dX0_firstPlacedNeighbour_15 : decode cX0_firstPlacedNeighbour 15 = .ok (.getfield 9, 3) := by decide +kernel
theorem dX0_firstPlacedNeighbour_18 : decode cX0_firstPlacedNeighbour 18 = .ok (.aload_n 0, 1) := by decide +kernel
theorem dX0_firstPlacedNeighbour_19 : decode cX0_firstPlacedNeighbour 19 = .ok (.getfield 15, 3) := by decide +kernel
theorem dX0_firstPlacedNeighbour_22 : decode cX0_firstPlacedNeighbour 22 = .ok (.iload_n 2, 1) := by decide +kernel
theorem dX0_firstPlacedNeighbour_23 : decode cX0_firstPlacedNeighbour 23 = .ok (.iload_n 3, 1) := by decide +kernel
theorem dX0_firstPlacedNeighbour_24 : decode cX0_firstPlacedNeighbour 24 = .ok (.invokevirtual 35, 3) := by decide +kernel
theorem dX0_firstPlacedNeighbour_27 : decode cX0_firstPlacedNeighbour 27 = .ok (.iload_n 2, 1) := by decide +kernel
theorem dX0_firstPlacedNeighbour_28 : decode cX0_firstPlacedNeighbour 28 = .ok (.invokevirtual 45, 3) := by decide +kernel
theorem dX0_firstPlacedNeighbour_31 : decode cX0_firstPlacedNeighbour 31 = .ok (.istore 4, 2) := by decide +kernel
theorem dX0_firstPlacedNeighbour_33 : decode cX0_firstPlacedNeighbour 33 = .ok (.aload_n 1, 1) := by decide +kernel
theorem dX0_firstPlacedNeighbour_34 : decode cX0_firstPlacedNeighbour 34 = .ok (.getfield 48, 3) := by decide +kernel
theorem dX0_firstPlacedNeighbour_37 : decode cX0_firstPlacedNeighbour 37 = .ok (.iload 4, 2) := by decide +kernel
theorem dX0_firstPlacedNeighbour_39 : decode cX0_firstPlacedNeighbour 39 = .ok (.baload, 1) := by decide +kernel
theorem dX0_firstPlacedNeighbour_40 : decode cX0_firstPlacedNeighbour 40 = .ok (.ifCond .eq 6, 3) := by decide +kernel
theorem dX0_firstPlacedNeighbour_43 : decode cX0_firstPlacedNeighbour 43 = .ok (.iload 4, 2) := by decide +kernel
theorem dX0_firstPlacedNeighbour_45 : decode cX0_firstPlacedNeighbour 45 = .ok (.ireturn, 1) := by decide +kernel
theorem dX0_firstPlacedNeighbour_46 : decode cX0_firstPlacedNeighbour 46 = .ok (.iinc 3 1, 3) := by decide +kernel
theorem dX0_firstPlacedNeighbour_49 : decode cX0_firstPlacedNeighbour 49 = .ok (.goto (-47), 3) := by decide +kernel
theorem dX0_firstPlacedNeighbour_52 : decode cX0_firstPlacedNeighbour 52 = .ok (.bipush (-2), 2) := by decide +kernel
theorem dX0_firstPlacedNeighbour_54 : decode cX0_firstPlacedNeighbour 54 = .ok (.ireturn, 1) := by decide +kernel
theorem dX0_lookAround_0 : decode cX0_lookAround 0 = .ok (.iload 4, 2) := by decide +kernel
theorem dX0_lookAround_2 : decode cX0_lookAround 2 = .ok (.ineg, 1) := by decide +kernel
theorem dX0_lookAround_3 : decode cX0_lookAround 3 = .ok (.istore 5, 2) := by decide +kernel
theorem dX0_lookAround_5 : decode cX0_lookAround 5 = .ok (.iload 5, 2) := by decide +kernel
theorem dX0_lookAround_7 : decode cX0_lookAround 7 = .ok (.iload 4, 2) := by decide +kernel
theorem dX0_lookAround_9 : decode cX0_lookAround 9 = .ok (.if_icmp .gt 85, 3) := by decide +kernel
theorem dX0_lookAround_12 : decode cX0_lookAround 12 = .ok (.iload 4, 2) := by decide +kernel
theorem dX0_lookAround_14 : decode cX0_lookAround 14 = .ok (.iload 5, 2) := by decide +kernel
theorem dX0_lookAround_16 : decode cX0_lookAround 16 = .ok (.invokestatic 95, 3) := by decide +kernel
theorem dX0_lookAround_19 : decode cX0_lookAround 19 = .ok (.isub, 1) := by decide +kernel
theorem dX0_lookAround_20 : decode cX0_lookAround 20 = .ok (.istore 6, 2) := by decide +kernel
theorem dX0_lookAround_22 : decode cX0_lookAround 22 = .ok (.aload_n 0, 1) := by decide +kernel
theorem dX0_lookAround_23 : decode cX0_lookAround 23 = .ok (.iload_n 3, 1) := by decide +kernel
theorem dX0_lookAround_24 : decode cX0_lookAround 24 = .ok (.iload 5, 2) := by decide +kernel
theorem dX0_lookAround_26 : decode cX0_lookAround 26 = .ok (.iadd, 1) := by decide +kernel
theorem dX0_lookAround_27 : decode cX0_lookAround 27 = .ok (.putfield 29, 3) := by decide +kernel
theorem dX0_lookAround_30 : decode cX0_lookAround 30 = .ok (.aload_n 0, 1) := by decide +kernel
theorem dX0_lookAround_31 : decode cX0_lookAround 31 = .ok (.iload_n 2, 1) := by decide +kernel
theorem dX0_lookAround_32 : decode cX0_lookAround 32 = .ok (.iload 6, 2) := by decide +kernel
theorem dX0_lookAround_34 : decode cX0_lookAround 34 = .ok (.isub, 1) := by decide +kernel
theorem dX0_lookAround_35 : decode cX0_lookAround 35 = .ok (.putfield 25, 3) := by decide +kernel
theorem dX0_lookAround_38 : decode cX0_lookAround 38 = .ok (.aload_n 1, 1) := by decide +kernel
theorem dX0_lookAround_39 : decode cX0_lookAround 39 = .ok (.aload_n 0, 1) := by decide +kernel
theorem dX0_lookAround_40 : decode cX0_lookAround 40 = .ok (.getfield 25, 3) := by decide +kernel
theorem dX0_lookAround_43 : decode cX0_lookAround 43 = .ok (.aload_n 0, 1) := by decide +kernel
theorem dX0_lookAround_44 : decode cX0_lookAround 44 = .ok (.getfield 29, 3) := by decide +kernel
theorem dX0_lookAround_47 : decode cX0_lookAround 47 = .ok (.aload_n 0, 1) := by decide +kernel
theorem dX0_lookAround_48 : decode cX0_lookAround 48 = .ok (.getfield 32, 3) := by decide +kernel
theorem dX0_lookAround_51 : decode cX0_lookAround 51 = .ok (.invokevirtual 72, 3) := by decide +kernel
theorem dX0_lookAround_54 : decode cX0_lookAround 54 = .ok (.ifCond .eq 5, 3) := by decide +kernel
theorem dX0_lookAround_57 : decode cX0_lookAround 57 = .ok (.iconst 1, 1) := by decide +kernel
theorem dX0_lookAround_58 : decode cX0_lookAround 58 = .ok (.ireturn, 1) := by decide +kernel
theorem dX0_lookAround_59 : decode cX0_lookAround 59 = .ok (.aload_n 0, 1) := by decide +kernel
theorem dX0_lookAround_60 : decode cX0_lookAround 60 = .ok (.iload_n 2, 1) := by decide +kernel
theorem dX0_lookAround_61 : decode cX0_lookAround 61 = .ok (.iload 6, 2) := by decide +kernel
theorem dX0_lookAround_63 : decode cX0_lookAround 63 = .ok (.iadd, 1) := by decide +kernel
theorem dX0_lookAround_64 : decode cX0_lookAround 64 = .ok (.putfield 25, 3) := by decide +kernel
theorem dX0_lookAround_67 : decode cX0_lookAround 67 = .ok (.aload_n 1, 1) := by decide +kernel
theorem dX0_lookAround_68 : decode cX0_lookAround 68 = .ok (.aload_n 0, 1) := by decide +kernel
theorem dX0_lookAround_69 : decode cX0_lookAround 69 = .ok (.getfield 25, 3) := by decide +kernel
theorem dX0_lookAround_72 : decode cX0_lookAround 72 = .ok (.aload_n 0, 1) := by decide +kernel
theorem dX0_lookAround_73 : decode cX0_lookAround 73 = .ok (.getfield 29, 3) := by decide +kernel
theorem dX0_lookAround_76 : decode cX0_lookAround 76 = .ok (.aload_n 0, 1) := by decide +kernel
theorem dX0_lookAround_77 : decode cX0_lookAround 77 = .ok (.getfield 32, 3) := by decide +kernel
theorem dX0_lookAround_80 : decode cX0_lookAround 80 = .ok (.invokevirtual 72, 3) := by decide +kernel
theorem dX0_lookAround_83 : decode cX0_lookAround 83 = .ok (.ifCond .eq 5, 3) := by decide +kernel
theorem dX0_lookAround_86 : decode cX0_lookAround 86 = .ok (.iconst 1, 1) := by decide +kernel
theorem dX0_lookAround_87 : decode cX0_lookAround 87 = .ok (.ireturn, 1) := by decide +kernel
theorem dX0_lookAround_88 : decode cX0_lookAround 88 = .ok (.iinc 5 1, 3) := by decide +kernel
theorem dX0_lookAround_91 : decode cX0_lookAround 91 = .ok (.goto (-86), 3) := by decide +kernel
theorem dX0_lookAround_94 : decode cX0_lookAround 94 = .ok (.iconst 0, 1) := by decide +kernel
theorem dX0_lookAround_95 : decode cX0_lookAround 95 = .ok (.ireturn, 1) := by decide +kernel
theorem dX7_init_0 : decode cX7_init 0 = .ok (.aload_n 0, 1) := by decide +kernel
theorem dX7_init_1 : decode cX7_init 1 = .ok (.invokespecial 3, 3) := by decide +kernel
theorem dX7_init_4 : decode cX7_init 4 = .ok (.aload_n 0, 1) := by decide +kernel
theorem dX7_init_5 : decode cX7_init 5 = .ok (.bipush 24, 2) := by decide +kernel
theorem dX7_init_7 : decode cX7_init 7 = .ok (.newarray .int, 2) := by decide +kernel
theorem dX7_init_9 : decode cX7_init 9 = .ok (.putfield 9, 3) := by decide +kernel
theorem dX7_init_12 : decode cX7_init 12 = .ok (.aload_n 0, 1) := by decide +kernel
theorem dX7_init_13 : decode cX7_init 13 = .ok (.aload_n 1, 1) := by decide +kernel
theorem dX7_init_14 : decode cX7_init 14 = .ok (.putfield 15, 3) := by decide +kernel
theorem dX7_init_17 : decode cX7_init 17 = .ok (.return_, 1) := by decide +kernel
theorem dX7_wayLength_0 : decode cX7_wayLength 0 = .ok (.aload_n 0, 1) := by decide +kernel
theorem dX7_wayLength_1 : decode cX7_wayLength 1 = .ok (.iload_n 2, 1) := by decide +kernel
theorem dX7_wayLength_2 : decode cX7_wayLength 2 = .ok (.invokevirtual 19, 3) := by decide +kernel
theorem dX7_wayLength_5 : decode cX7_wayLength 5 = .ok (.aload_n 0, 1) := by decide +kernel
theorem dX7_wayLength_6 : decode cX7_wayLength 6 = .ok (.getfield 9, 3) := by decide +kernel
theorem dX7_wayLength_9 : decode cX7_wayLength 9 = .ok (.iload_n 1, 1) := by decide +kernel
theorem dX7_wayLength_10 : decode cX7_wayLength 10 = .ok (.iaload, 1) := by decide +kernel
theorem dX7_wayLength_11 : decode cX7_wayLength 11 = .ok (.sipush 1000, 3) := by decide +kernel
theorem dX7_wayLength_14 : decode cX7_wayLength 14 = .ok (.if_icmp .ge 12, 3) := by decide +kernel
theorem dX7_wayLength_17 : decode cX7_wayLength 17 = .ok (.aload_n 0, 1) := by decide +kernel
theorem dX7_wayLength_18 : decode cX7_wayLength 18 = .ok (.getfield 9, 3) := by decide +kernel
theorem dX7_wayLength_21 : decode cX7_wayLength 21 = .ok (.iload_n 1, 1) := by decide +kernel
theorem dX7_wayLength_22 : decode cX7_wayLength 22 = .ok (.iaload, 1) := by decide +kernel
theorem dX7_wayLength_23 : decode cX7_wayLength 23 = .ok (.goto 5, 3) := by decide +kernel
theorem dX7_wayLength_26 : decode cX7_wayLength 26 = .ok (.bipush (-2), 2) := by decide +kernel
theorem dX7_wayLength_28 : decode cX7_wayLength 28 = .ok (.ireturn, 1) := by decide +kernel
theorem dX7_wayDirection_0 : decode cX7_wayDirection 0 = .ok (.aload_n 0, 1) := by decide +kernel
theorem dX7_wayDirection_1 : decode cX7_wayDirection 1 = .ok (.iload_n 1, 1) := by decide +kernel
theorem dX7_wayDirection_2 : decode cX7_wayDirection 2 = .ok (.iload_n 2, 1) := by decide +kernel
theorem dX7_wayDirection_3 : decode cX7_wayDirection 3 = .ok (.invokevirtual 23, 3) := by decide +kernel
theorem dX7_wayDirection_6 : decode cX7_wayDirection 6 = .ok (.istore 4, 2) := by decide +kernel
theorem dX7_wayDirection_8 : decode cX7_wayDirection 8 = .ok (.iload_n 3, 1) := by decide +kernel
theorem dX7_wayDirection_9 : decode cX7_wayDirection 9 = .ok (.ifCond .lt 9, 3) := by decide +kernel
theorem dX7_wayDirection_12 : decode cX7_wayDirection 12 = .ok (.iload_n 3, 1) := by decide +kernel
theorem dX7_wayDirection_13 : decode cX7_wayDirection 13 = .ok (.iload 4, 2) := by decide +kernel
theorem dX7_wayDirection_15 : decode cX7_wayDirection 15 = .ok (.if_icmp .lt 6, 3) := by decide +kernel
theorem dX7_wayDirection_18 : decode cX7_wayDirection 18 = .ok (.bipush (-2), 2) := by decide +kernel
theorem dX7_wayDirection_20 : decode cX7_wayDirection 20 = .ok (.ireturn, 1) := by decide +kernel
theorem dX7_wayDirection_21 : decode cX7_wayDirection 21 = .ok (.iload_n 1, 1) := by decide +kernel
theorem dX7_wayDirection_22 : decode cX7_wayDirection 22 = .ok (.istore 5, 2) := by decide +kernel
theorem dX7_wayDirection_24 : decode cX7_wayDirection 24 = .ok (.aload_n 0, 1) := by decide +kernel
theorem dX7_wayDirection_25 : decode cX7_wayDirection 25 = .ok (.iload 5, 2) := by decide +kernel
theorem dX7_wayDirection_27 : decode cX7_wayDirection 27 = .ok (.invokevirtual 27, 3) := by decide +kernel
theorem dX7_wayDirection_30 : decode cX7_wayDirection 30 = .ok (.istore 6, 2) := by decide +kernel
theorem dX7_wayDirection_32 : decode cX7_wayDirection 32 = .ok (.iconst 0, 1) := by decide +kernel
theorem dX7_wayDirection_33 : decode cX7_wayDirection 33 = .ok (.istore 7, 2) := by decide +kernel
theorem dX7_wayDirection_35 : decode cX7_wayDirection 35 = .ok (.iload 7, 2) := by decide +kernel
theorem dX7_wayDirection_37 : decode cX7_wayDirection 37 = .ok (.iload_n 3, 1) := by decide +kernel
theorem dX7_wayDirection_38 : decode cX7_wayDirection 38 = .ok (.if_icmp .ge 35, 3) := by decide +kernel
theorem dX7_wayDirection_41 : decode cX7_wayDirection 41 = .ok (.iload 6, 2) := by decide +kernel
theorem dX7_wayDirection_43 : decode cX7_wayDirection 43 = .ok (.ifCond .lt 30, 3) := by decide +kernel
theorem dX7_wayDirection_46 : decode cX7_wayDirection 46 = .ok (.aload_n 0, 1) := by decide +kernel
theorem dX7_wayDirection_47 : decode cX7_wayDirection 47 = .ok (.getfield 15, 3) := by decide +kernel
theorem dX7_wayDirection_50 : decode cX7_wayDirection 50 = .ok (.iload 5, 2) := by decide +kernel
theorem dX7_wayDirection_52 : decode cX7_wayDirection 52 = .ok (.iload 6, 2) := by decide +kernel
theorem dX7_wayDirection_54 : decode cX7_wayDirection 54 = .ok (.invokevirtual 31, 3) := by decide +kernel
theorem dX7_wayDirection_57 : decode cX7_wayDirection 57 = .ok (.istore 5, 2) := by decide +kernel
theorem dX7_wayDirection_59 : decode cX7_wayDirection 59 = .ok (.aload_n 0, 1) := by decide +kernel
theorem dX7_wayDirection_60 : decode cX7_wayDirection 60 = .ok (.iload 5, 2) := by decide +kernel
theorem dX7_wayDirection_62 : decode cX7_wayDirection 62 = .ok (.invokevirtual 27, 3) := by decide +kernel
theorem dX7_wayDirection_65 : decode cX7_wayDirection 65 = .ok (.istore 6, 2) := by decide +kernel
theorem dX7_wayDirection_67 : decode cX7_wayDirection 67 = .ok (.iinc 7 1, 3) := by decide +kernel
theorem dX7_wayDirection_70 : decode cX7_wayDirection 70 = .ok (.goto (-35), 3) := by decide +kernel
theorem dX7_wayDirection_73 : decode cX7_wayDirection 73 = .ok (.iload 6, 2) := by decide +kernel
theorem dX7_wayDirection_75 : decode cX7_wayDirection 75 = .ok (.ireturn, 1) := by decide +kernel
theorem dX7_measure_0 : decode cX7_measure 0 = .ok (.iconst 0, 1) := by decide +kernel
theorem dX7_measure_1 : decode cX7_measure 1 = .ok (.istore_n 2, 1) := by decide +kernel
theorem dX7_measure_2 : decode cX7_measure 2 = .ok (.iload_n 2, 1) := by decide +kernel
theorem dX7_measure_3 : decode cX7_measure 3 = .ok (.aload_n 0, 1) := by decide +kernel
theorem dX7_measure_4 : decode cX7_measure 4 = .ok (.getfield 15, 3) := by decide +kernel
theorem dX7_measure_7 : decode cX7_measure 7 = .ok (.getfield 36, 3) := by decide +kernel
theorem dX7_measure_10 : decode cX7_measure 10 = .ok (.if_icmp .ge 27, 3) := by decide +kernel
theorem dX7_measure_13 : decode cX7_measure 13 = .ok (.aload_n 0, 1) := by decide +kernel
theorem dX7_measure_14 : decode cX7_measure 14 = .ok (.getfield 9, 3) := by decide +kernel
theorem dX7_measure_17 : decode cX7_measure 17 = .ok (.iload_n 2, 1) := by decide +kernel
theorem dX7_measure_18 : decode cX7_measure 18 = .ok (.iload_n 2, 1) := by decide +kernel
theorem dX7_measure_19 : decode cX7_measure 19 = .ok (.iload_n 1, 1) := by decide +kernel
theorem dX7_measure_20 : decode cX7_measure 20 = .ok (.if_icmp .ne 7, 3) := by decide +kernel
theorem dX7_measure_23 : decode cX7_measure 23 = .ok (.iconst 0, 1) := by decide +kernel
theorem dX7_measure_24 : decode cX7_measure 24 = .ok (.goto 6, 3) := by decide +kernel
theorem dX7_measure_27 : decode cX7_measure 27 = .ok (.sipush 1000, 3) := by decide +kernel
theorem dX7_measure_30 : decode cX7_measure 30 = .ok (.iastore, 1) := by decide +kernel
theorem dX7_measure_31 : decode cX7_measure 31 = .ok (.iinc 2 1, 3) := by decide +kernel
theorem dX7_measure_34 : decode cX7_measure 34 = .ok (.goto (-32), 3) := by decide +kernel
theorem dX7_measure_37 : decode cX7_measure 37 = .ok (.iconst 1, 1) := by decide +kernel
theorem dX7_measure_38 : decode cX7_measure 38 = .ok (.istore_n 2, 1) := by decide +kernel
theorem dX7_measure_39 : decode cX7_measure 39 = .ok (.iconst 0, 1) := by decide +kernel
theorem dX7_measure_40 : decode cX7_measure 40 = .ok (.istore_n 3, 1) := by decide +kernel
theorem dX7_measure_41 : decode cX7_measure 41 = .ok (.iload_n 3, 1) := by decide +kernel
theorem dX7_measure_42 : decode cX7_measure 42 = .ok (.aload_n 0, 1) := by decide +kernel
theorem dX7_measure_43 : decode cX7_measure 43 = .ok (.getfield 15, 3) := by decide +kernel
theorem dX7_measure_46 : decode cX7_measure 46 = .ok (.getfield 36, 3) := by decide +kernel
theorem dX7_measure_49 : decode cX7_measure 49 = .ok (.if_icmp .ge 18, 3) := by decide +kernel
theorem dX7_measure_52 : decode cX7_measure 52 = .ok (.iload_n 2, 1) := by decide +kernel
theorem dX7_measure_53 : decode cX7_measure 53 = .ok (.ifCond .eq 14, 3) := by decide +kernel
theorem dX7_measure_56 : decode cX7_measure 56 = .ok (.aload_n 0, 1) := by decide +kernel
theorem dX7_measure_57 : decode cX7_measure 57 = .ok (.invokevirtual 40, 3) := by decide +kernel
theorem dX7_measure_60 : decode cX7_measure 60 = .ok (.istore_n 2, 1) := by decide +kernel
theorem dX7_measure_61 : decode cX7_measure 61 = .ok (.iinc 3 1, 3) := by decide +kernel
theorem dX7_measure_64 : decode cX7_measure 64 = .ok (.goto (-23), 3) := by decide +kernel
theorem dX7_measure_67 : decode cX7_measure 67 = .ok (.return_, 1) := by decide +kernel
theorem dX7_shortenAll_0 : decode cX7_shortenAll 0 = .ok (.iconst 0, 1) := by decide +kernel
theorem dX7_shortenAll_1 : decode cX7_shortenAll 1 = .ok (.istore_n 1, 1) := by decide +kernel
theorem dX7_shortenAll_2 : decode cX7_shortenAll 2 = .ok (.iconst 0, 1) := by decide +kernel
theorem dX7_shortenAll_3 : decode cX7_shortenAll 3 = .ok (.istore_n 2, 1) := by decide +kernel
theorem dX7_shortenAll_4 : decode cX7_shortenAll 4 = .ok (.iload_n 2, 1) := by decide +kernel
theorem dX7_shortenAll_5 : decode cX7_shortenAll 5 = .ok (.aload_n 0, 1) := by decide +kernel
theorem dX7_shortenAll_6 : decode cX7_shortenAll 6 = .ok (.getfield 15, 3) := by decide +kernel
theorem dX7_shortenAll_9 : decode cX7_shortenAll 9 = .ok (.getfield 44, 3) := by decide +kernel
theorem dX7_shortenAll_12 : decode cX7_shortenAll 12 = .ok (.if_icmp .ge 71, 3) := by decide +kernel
theorem dX7_shortenAll_15 : decode cX7_shortenAll 15 = .ok (.iload_n 1, 1) := by decide +kernel
theorem dX7_shortenAll_16 : decode cX7_shortenAll 16 = .ok (.aload_n 0, 1) := by decide +kernel
theorem dX7_shortenAll_17 : decode cX7_shortenAll 17 = .ok (.aload_n 0, 1) := by decide +kernel
theorem dX7_shortenAll_18 : decode cX7_shortenAll 18 = .ok (.getfield 15, 3) := by decide +kernel
theorem dX7_shortenAll_21 : decode cX7_shortenAll 21 = .ok (.getfield 47, 3) := by decide +kernel
theorem dX7_shortenAll_24 : decode cX7_shortenAll 24 = .ok (.iload_n 2, 1) := by decide +kernel
theorem dX7_shortenAll_25 : decode cX7_shortenAll 25 = .ok (.iaload, 1) := by decide +kernel
theorem dX7_shortenAll_26 : decode cX7_shortenAll 26 = .ok (.aload_n 0, 1) := by decide +kernel
theorem dX7_shortenAll_27 : decode cX7_shortenAll 27 = .ok (.getfield 15, 3) := by decide +kernel
theorem dX7_shortenAll_30 : decode cX7_shortenAll 30 = .ok (.getfield 50, 3) := by decide +kernel
theorem dX7_shortenAll_33 : decode cX7_shortenAll 33 = .ok (.iload_n 2, 1) := by decide +kernel
theorem dX7_shortenAll_34 : decode cX7_shortenAll 34 = .ok (.iaload, 1) := by decide +kernel
theorem dX7_shortenAll_35 : decode cX7_shortenAll 35 = .ok (.invokevirtual 53, 3) := by decide +kernel
theorem dX7_shortenAll_38 : decode cX7_shortenAll 38 = .ok (.ior, 1) := by decide +kernel
theorem dX7_shortenAll_39 : decode cX7_shortenAll 39 = .ok (.istore_n 1, 1) := by decide +kernel
theorem dX7_shortenAll_40 : decode cX7_shortenAll 40 = .ok (.aload_n 0, 1) := by decide +kernel
theorem dX7_shortenAll_41 : decode cX7_shortenAll 41 = .ok (.getfield 15, 3) := by decide +kernel
theorem dX7_shortenAll_44 : decode cX7_shortenAll 44 = .ok (.getfield 57, 3) := by decide +kernel
theorem dX7_shortenAll_47 : decode cX7_shortenAll 47 = .ok (.iload_n 2, 1) := by decide +kernel
theorem dX7_shortenAll_48 : decode cX7_shortenAll 48 = .ok (.baload, 1) := by decide +kernel
theorem dX7_shortenAll_49 : decode cX7_shortenAll 49 = .ok (.ifCond .eq 28, 3) := by decide +kernel
theorem dX7_shortenAll_52 : decode cX7_shortenAll 52 = .ok (.iload_n 1, 1) := by decide +kernel
theorem dX7_shortenAll_53 : decode cX7_shortenAll 53 = .ok (.aload_n 0, 1) := by decide +kernel
theorem dX7_shortenAll_54 : decode cX7_shortenAll 54 = .ok (.aload_n 0, 1) := by decide +kernel
theorem dX7_shortenAll_55 : decode cX7_shortenAll 55 = .ok (.getfield 15, 3) := by decide +kernel
theorem dX7_shortenAll_58 : decode cX7_shortenAll 58 = .ok (.getfield 50, 3) := by decide +kernel
theorem dX7_shortenAll_61 : decode cX7_shortenAll 61 = .ok (.iload_n 2, 1) := by decide +kernel
theorem dX7_shortenAll_62 : decode cX7_shortenAll 62 = .ok (.iaload, 1) := by decide +kernel
theorem dX7_shortenAll_63 : decode cX7_shortenAll 63 = .ok (.aload_n 0, 1) := by decide +kernel
theorem dX7_shortenAll_64 : decode cX7_shortenAll 64 = .ok (.getfield 15, 3) := by decide +kernel
theorem dX7_shortenAll_67 : decode cX7_shortenAll 67 = .ok (.getfield 47, 3) := by decide +kernel
theorem dX7_shortenAll_70 : decode cX7_shortenAll 70 = .ok (.iload_n 2, 1) := by decide +kernel
theorem dX7_shortenAll_71 : decode cX7_shortenAll 71 = .ok (.iaload, 1) := by decide +kernel
theorem dX7_shortenAll_72 : decode cX7_shortenAll 72 = .ok (.invokevirtual 53, 3) := by decide +kernel
theorem dX7_shortenAll_75 : decode cX7_shortenAll 75 = .ok (.ior, 1) := by decide +kernel
theorem dX7_shortenAll_76 : decode cX7_shortenAll 76 = .ok (.istore_n 1, 1) := by decide +kernel
theorem dX7_shortenAll_77 : decode cX7_shortenAll 77 = .ok (.iinc 2 1, 3) := by decide +kernel
theorem dX7_shortenAll_80 : decode cX7_shortenAll 80 = .ok (.goto (-76), 3) := by decide +kernel
theorem dX7_shortenAll_83 : decode cX7_shortenAll 83 = .ok (.iload_n 1, 1) := by decide +kernel
theorem dX7_shortenAll_84 : decode cX7_shortenAll 84 = .ok (.ireturn, 1) := by decide +kernel
theorem dX7_shorten_0 : decode cX7_shorten 0 = .ok (.aload_n 0, 1) := by decide +kernel
theorem dX7_shorten_1 : decode cX7_shorten 1 = .ok (.getfield 9, 3) := by decide +kernel
theorem dX7_shorten_4 : decode cX7_shorten 4 = .ok (.iload_n 2, 1) := by decide +kernel
theorem dX7_shorten_5 : decode cX7_shorten 5 = .ok (.iaload, 1) := by decide +kernel
theorem dX7_shorten_6 : decode cX7_shorten 6 = .ok (.iconst 1, 1) := by decide +kernel
theorem dX7_shorten_7 : decode cX7_shorten 7 = .ok (.iadd, 1) := by decide +kernel
theorem dX7_shorten_8 : decode cX7_shorten 8 = .ok (.aload_n 0, 1) := by decide +kernel
theorem dX7_shorten_9 : decode cX7_shorten 9 = .ok (.getfield 9, 3) := by decide +kernel
theorem dX7_shorten_12 : decode cX7_shorten 12 = .ok (.iload_n 1, 1) := by decide +kernel
theorem dX7_shorten_13 : decode cX7_shorten 13 = .ok (.iaload, 1) := by decide +kernel
theorem dX7_shorten_14 : decode cX7_shorten 14 = .ok (.if_icmp .lt 5, 3) := by decide +kernel
theorem dX7_shorten_17 : decode cX7_shorten 17 = .ok (.iconst 0, 1) := by decide +kernel
theorem dX7_shorten_18 : decode cX7_shorten 18 = .ok (.ireturn, 1) := by decide +kernel
theorem dX7_shorten_19 : decode cX7_shorten 19 = .ok (.aload_n 0, 1) := by decide +kernel
theorem dX7_shorten_20 : decode cX7_shorten 20 = .ok (.getfield 9, 3) := by decide +kernel
theorem dX7_shorten_23 : decode cX7_shorten 23 = .ok (.iload_n 1, 1) := by decide +kernel
theorem dX7_shorten_24 : decode cX7_shorten 24 = .ok (.aload_n 0, 1) := by decide +kernel
theorem dX7_shorten_25 : decode cX7_shorten 25 = .ok (.getfield 9, 3) := by decide +kernel
theorem dX7_shorten_28 : decode cX7_shorten 28 = .ok (.iload_n 2, 1) := by decide +kernel
theorem dX7_shorten_29 : decode cX7_shorten 29 = .ok (.iaload, 1) := by decide +kernel
theorem dX7_shorten_30 : decode cX7_shorten 30 = .ok (.iconst 1, 1) := by decide +kernel
theorem dX7_shorten_31 : decode cX7_shorten 31 = .ok (.iadd, 1) := by decide +kernel
theorem dX7_shorten_32 : decode cX7_shorten 32 = .ok (.iastore, 1) := by decide +kernel
theorem dX7_shorten_33 : decode cX7_shorten 33 = .ok (.iconst 1, 1) := by decide +kernel
theorem dX7_shorten_34 : decode cX7_shorten 34 = .ok (.ireturn, 1) := by decide +kernel
theorem dX7_leastGoodDirection_0 : decode cX7_leastGoodDirection 0 = .ok (.iconst 0, 1) := by decide +kernel
theorem dX7_leastGoodDirection_1 : decode cX7_leastGoodDirection 1 = .ok (.istore_n 2, 1) := by decide +kernel
theorem dX7_leastGoodDirection_2 : decode cX7_leastGoodDirection 2 = .ok (.iload_n 2, 1) := by decide +kernel
theorem dX7_leastGoodDirection_3 : decode cX7_leastGoodDirection 3 = .ok (.bipush 10, 2) := by decide +kernel
theorem dX7_leastGoodDirection_5 : decode cX7_leastGoodDirection 5 = .ok (.if_icmp .ge 42, 3) := by decide +kernel
theorem dX7_leastGoodDirection_8 : decode cX7_leastGoodDirection 8 = .ok (.aload_n 0, 1) := by decide +kernel
theorem dX7_leastGoodDirection_9 : decode cX7_leastGoodDirection 9 = .ok (.getfield 15, 3) := by decide +kernel
theorem dX7_leastGoodDirection_12 : decode cX7_leastGoodDirection 12 = .ok (.iload_n 1, 1) := by decide +kernel
theorem dX7_leastGoodDirection_13 : decode cX7_leastGoodDirection 13 = .ok (.iload_n 2, 1) := by decide +kernel
theorem dX7_leastGoodDirection_14 : decode cX7_leastGoodDirection 14 = .ok (.invokevirtual 31, 3) := by decide +kernel
theorem dX7_leastGoodDirection_17 : decode cX7_leastGoodDirection 17 = .ok (.istore_n 3, 1) := by decide +kernel
theorem dX7_leastGoodDirection_18 : decode cX7_leastGoodDirection 18 = .ok (.iload_n 3, 1) := by decide +kernel
theorem dX7_leastGoodDirection_19 : decode cX7_leastGoodDirection 19 = .ok (.ifCond .lt 22, 3) := by decide +kernel
theorem dX7_leastGoodDirection_22 : decode cX7_leastGoodDirection 22 = .ok (.aload_n 0, 1) := by decide +kernel
theorem dX7_leastGoodDirection_23 : decode cX7_leastGoodDirection 23 = .ok (.getfield 9, 3) := by decide +kernel
theorem dX7_leastGoodDirection_26 : decode cX7_leastGoodDirection 26 = .ok (.iload_n 3, 1) := by decide +kernel
theorem dX7_leastGoodDirection_27 : decode cX7_leastGoodDirection 27 = .ok (.iaload, 1) := by decide +kernel
theorem dX7_leastGoodDirection_28 : decode cX7_leastGoodDirection 28 = .ok (.iconst 1, 1) := by decide +kernel
theorem dX7_leastGoodDirection_29 : decode cX7_leastGoodDirection 29 = .ok (.iadd, 1) := by decide +kernel
theorem dX7_leastGoodDirection_30 : decode cX7_leastGoodDirection 30 = .ok (.aload_n 0, 1) := by decide +kernel
theorem dX7_leastGoodDirection_31 : decode cX7_leastGoodDirection 31 = .ok (.getfield 9, 3) := by decide +kernel
theorem dX7_leastGoodDirection_34 : decode cX7_leastGoodDirection 34 = .ok (.iload_n 1, 1) := by decide +kernel
theorem dX7_leastGoodDirection_35 : decode cX7_leastGoodDirection 35 = .ok (.iaload, 1) := by decide +kernel
theorem dX7_leastGoodDirection_36 : decode cX7_leastGoodDirection 36 = .ok (.if_icmp .ne 5, 3) := by decide +kernel
theorem dX7_leastGoodDirection_39 : decode cX7_leastGoodDirection 39 = .ok (.iload_n 2, 1) := by decide +kernel
theorem dX7_leastGoodDirection_40 : decode cX7_leastGoodDirection 40 = .ok (.ireturn, 1) := by decide +kernel
theorem dX7_leastGoodDirection_41 : decode cX7_leastGoodDirection 41 = .ok (.iinc 2 1, 3) := by decide +kernel
theorem dX7_leastGoodDirection_44 : decode cX7_leastGoodDirection 44 = .ok (.goto (-42), 3) := by decide +kernel
theorem dX7_leastGoodDirection_47 : decode cX7_leastGoodDirection 47 = .ok (.bipush (-2), 2) := by decide +kernel
theorem dX7_leastGoodDirection_49 : decode cX7_leastGoodDirection 49 = .ok (.ireturn, 1) := by decide +kernel
theorem dX4_init_0 : decode cX4_init 0 = .ok (.aload_n 0, 1) := by decide +kernel
theorem dX4_init_1 : decode cX4_init 1 = .ok (.invokespecial 3, 3) := by decide +kernel
theorem dX4_init_4 : decode cX4_init 4 = .ok (.aload_n 0, 1) := by decide +kernel
theorem dX4_init_5 : decode cX4_init 5 = .ok (.aload_n 1, 1) := by decide +kernel
theorem dX4_init_6 : decode cX4_init 6 = .ok (.putfield 9, 3) := by decide +kernel
theorem dX4_init_9 : decode cX4_init 9 = .ok (.aload_n 0, 1) := by decide +kernel
theorem dX4_init_10 : decode cX4_init 10 = .ok (.aload_n 2, 1) := by decide +kernel
theorem dX4_init_11 : decode cX4_init 11 = .ok (.putfield 15, 3) := by decide +kernel
theorem dX4_init_14 : decode cX4_init 14 = .ok (.return_, 1) := by decide +kernel
theorem dX4_signAt_0 : decode cX4_signAt 0 = .ok (.aload_n 0, 1) := by decide +kernel
theorem dX4_signAt_1 : decode cX4_signAt 1 = .ok (.aload_n 0, 1) := by decide +kernel
theorem dX4_signAt_2 : decode cX4_signAt 2 = .ok (.getfield 15, 3) := by decide +kernel
theorem dX4_signAt_5 : decode cX4_signAt 5 = .ok (.aload_n 0, 1) := by decide +kernel
theorem dX4_signAt_6 : decode cX4_signAt 6 = .ok (.getfield 15, 3) := by decide +kernel
theorem dX4_signAt_9 : decode cX4_signAt 9 = .ok (.getfield 19, 3) := by decide +kernel
theorem dX4_signAt_12 : decode cX4_signAt 12 = .ok (.invokevirtual 25, 3) := by decide +kernel
theorem dX4_signAt_15 : decode cX4_signAt 15 = .ok (.putfield 29, 3) := by decide +kernel
theorem dX4_signAt_18 : decode cX4_signAt 18 = .ok (.aload_n 0, 1) := by decide +kernel
theorem dX4_signAt_19 : decode cX4_signAt 19 = .ok (.aload_n 0, 1) := by decide +kernel
theorem dX4_signAt_20 : decode cX4_signAt 20 = .ok (.getfield 15, 3) := by decide +kernel
theorem dX4_signAt_23 : decode cX4_signAt 23 = .ok (.aload_n 0, 1) := by decide +kernel
theorem dX4_signAt_24 : decode cX4_signAt 24 = .ok (.getfield 15, 3) := by decide +kernel
theorem dX4_signAt_27 : decode cX4_signAt 27 = .ok (.getfield 33, 3) := by decide +kernel
theorem dX4_signAt_30 : decode cX4_signAt 30 = .ok (.invokevirtual 25, 3) := by decide +kernel
theorem dX4_signAt_33 : decode cX4_signAt 33 = .ok (.putfield 36, 3) := by decide +kernel
theorem dX4_signAt_36 : decode cX4_signAt 36 = .ok (.aload_n 0, 1) := by decide +kernel
theorem dX4_signAt_37 : decode cX4_signAt 37 = .ok (.iload_n 1, 1) := by decide +kernel
theorem dX4_signAt_38 : decode cX4_signAt 38 = .ok (.iload_n 2, 1) := by decide +kernel
theorem dX4_signAt_39 : decode cX4_signAt 39 = .ok (.iload_n 3, 1) := by decide +kernel
theorem dX4_signAt_40 : decode cX4_signAt 40 = .ok (.invokevirtual 39, 3) := by decide +kernel
theorem dX4_signAt_43 : decode cX4_signAt 43 = .ok (.istore 4, 2) := by decide +kernel
theorem dX4_signAt_45 : decode cX4_signAt 45 = .ok (.iload 4, 2) := by decide +kernel
theorem dX4_signAt_47 : decode cX4_signAt 47 = .ok (.bipush 32, 2) := by decide +kernel
theorem dX4_signAt_49 : decode cX4_signAt 49 = .ok (.if_icmp .ne 12, 3) := by decide +kernel
theorem dX4_signAt_52 : decode cX4_signAt 52 = .ok (.aload_n 0, 1) := by decide +kernel
theorem dX4_signAt_53 : decode cX4_signAt 53 = .ok (.iload_n 1, 1) := by decide +kernel
theorem dX4_signAt_54 : decode cX4_signAt 54 = .ok (.iload_n 2, 1) := by decide +kernel
theorem dX4_signAt_55 : decode cX4_signAt 55 = .ok (.iload_n 3, 1) := by decide +kernel
theorem dX4_signAt_56 : decode cX4_signAt 56 = .ok (.invokevirtual 43, 3) := by decide +kernel
theorem dX4_signAt_59 : decode cX4_signAt 59 = .ok (.istore 4, 2) := by decide +kernel
theorem dX4_signAt_61 : decode cX4_signAt 61 = .ok (.iload 4, 2) := by decide +kernel
theorem dX4_signAt_63 : decode cX4_signAt 63 = .ok (.bipush 32, 2) := by decide +kernel
theorem dX4_signAt_65 : decode cX4_signAt 65 = .ok (.if_icmp .ne 13, 3) := by decide +kernel
theorem dX4_signAt_68 : decode cX4_signAt 68 = .ok (.aload_n 0, 1) := by decide +kernel
theorem dX4_signAt_69 : decode cX4_signAt 69 = .ok (.iload_n 1, 1) := by decide +kernel
theorem dX4_signAt_70 : decode cX4_signAt 70 = .ok (.iload_n 2, 1) := by decide +kernel
theorem dX4_signAt_71 : decode cX4_signAt 71 = .ok (.iload_n 3, 1) := by decide +kernel
theorem dX4_signAt_72 : decode cX4_signAt 72 = .ok (.invokevirtual 46, 3) := by decide +kernel
theorem dX4_signAt_75 : decode cX4_signAt 75 = .ok (.goto 5, 3) := by decide +kernel
theorem dX4_signAt_78 : decode cX4_signAt 78 = .ok (.iload 4, 2) := by decide +kernel
theorem dX4_signAt_80 : decode cX4_signAt 80 = .ok (.ireturn, 1) := by decide +kernel
theorem dX4_letterAt_0 : decode cX4_letterAt 0 = .ok (.iconst 0, 1) := by decide +kernel
theorem dX4_letterAt_1 : decode cX4_letterAt 1 = .ok (.istore 4, 2) := by decide +kernel
theorem dX4_letterAt_3 : decode cX4_letterAt 3 = .ok (.iload 4, 2) := by decide +kernel
theorem dX4_letterAt_5 : decode cX4_letterAt 5 = .ok (.aload_n 0, 1) := by decide +kernel
theorem dX4_letterAt_6 : decode cX4_letterAt 6 = .ok (.getfield 9, 3) := by decide +kernel
theorem dX4_letterAt_9 : decode cX4_letterAt 9 = .ok (.getfield 49, 3) := by decide +kernel
theorem dX4_letterAt_12 : decode cX4_letterAt 12 = .ok (.if_icmp .ge 46, 3) := by decide +kernel
theorem dX4_letterAt_15 : decode cX4_letterAt 15 = .ok (.aload_n 0, 1) := by decide +kernel
theorem dX4_letterAt_16 : decode cX4_letterAt 16 = .ok (.iload 4, 2) := by decide +kernel
theorem dX4_letterAt_18 : decode cX4_letterAt 18 = .ok (.iload_n 1, 1) := by decide +kernel
theorem dX4_letterAt_19 : decode cX4_letterAt 19 = .ok (.iload_n 3, 1) := by decide +kernel
theorem dX4_letterAt_20 : decode cX4_letterAt 20 = .ok (.invokevirtual 54, 3) := by decide +kernel
theorem dX4_letterAt_23 : decode cX4_letterAt 23 = .ok (.ifCond .eq 29, 3) := by decide +kernel
theorem dX4_letterAt_26 : decode cX4_letterAt 26 = .ok (.iload_n 2, 1) := by decide +kernel
theorem dX4_letterAt_27 : decode cX4_letterAt 27 = .ok (.aload_n 0, 1) := by decide +kernel
theorem dX4_letterAt_28 : decode cX4_letterAt 28 = .ok (.iload 4, 2) := by decide +kernel
theorem dX4_letterAt_30 : decode cX4_letterAt 30 = .ok (.invokevirtual 58, 3) := by decide +kernel
theorem dX4_letterAt_33 : decode cX4_letterAt 33 = .ok (.if_icmp .lt 19, 3) := by decide +kernel
theorem dX4_letterAt_36 : decode cX4_letterAt 36 = .ok (.iload_n 2, 1) := by decide +kernel
theorem dX4_letterAt_37 : decode cX4_letterAt 37 = .ok (.aload_n 0, 1) := by decide +kernel
theorem dX4_letterAt_38 : decode cX4_letterAt 38 = .ok (.iload 4, 2) := by decide +kernel
theorem dX4_letterAt_40 : decode cX4_letterAt 40 = .ok (.invokevirtual 62, 3) := by decide +kernel
theorem dX4_letterAt_43 : decode cX4_letterAt 43 = .ok (.if_icmp .ge 9, 3) := by decide +kernel
theorem dX4_letterAt_46 : decode cX4_letterAt 46 = .ok (.bipush 65, 2) := by decide +kernel
theorem dX4_letterAt_48 : decode cX4_letterAt 48 = .ok (.iload 4, 2) := by decide +kernel
theorem dX4_letterAt_50 : decode cX4_letterAt 50 = .ok (.iadd, 1) := by decide +kernel
theorem dX4_letterAt_51 : decode cX4_letterAt 51 = .ok (.ireturn, 1) := by decide +kernel
theorem dX4_letterAt_52 : decode cX4_letterAt 52 = .ok (.iinc 4 1, 3) := by decide +kernel
theorem dX4_letterAt_55 : decode cX4_letterAt 55 = .ok (.goto (-52), 3) := by decide +kernel
theorem dX4_letterAt_58 : decode cX4_letterAt 58 = .ok (.bipush 32, 2) := by decide +kernel
theorem dX4_letterAt_60 : decode cX4_letterAt 60 = .ok (.ireturn, 1) := by decide +kernel
theorem dX4_stairsAt_0 : decode cX4_stairsAt 0 = .ok (.iconst 0, 1) := by decide +kernel
theorem dX4_stairsAt_1 : decode cX4_stairsAt 1 = .ok (.istore 4, 2) := by decide +kernel
theorem dX4_stairsAt_3 : decode cX4_stairsAt 3 = .ok (.iload 4, 2) := by decide +kernel
theorem dX4_stairsAt_5 : decode cX4_stairsAt 5 = .ok (.aload_n 0, 1) := by decide +kernel
theorem dX4_stairsAt_6 : decode cX4_stairsAt 6 = .ok (.getfield 9, 3) := by decide +kernel
theorem dX4_stairsAt_9 : decode cX4_stairsAt 9 = .ok (.getfield 49, 3) := by decide +kernel
theorem dX4_stairsAt_12 : decode cX4_stairsAt 12 = .ok (.if_icmp .ge 77, 3) := by decide +kernel
theorem dX4_stairsAt_15 : decode cX4_stairsAt 15 = .ok (.aload_n 0, 1) := by decide +kernel
theorem dX4_stairsAt_16 : decode cX4_stairsAt 16 = .ok (.iload 4, 2) := by decide +kernel
theorem dX4_stairsAt_18 : decode cX4_stairsAt 18 = .ok (.iload_n 1, 1) := by decide +kernel
theorem dX4_stairsAt_19 : decode cX4_stairsAt 19 = .ok (.iload_n 3, 1) := by decide +kernel
theorem dX4_stairsAt_20 : decode cX4_stairsAt 20 = .ok (.invokevirtual 54, 3) := by decide +kernel
theorem dX4_stairsAt_23 : decode cX4_stairsAt 23 = .ok (.ifCond .eq 60, 3) := by decide +kernel
theorem dX4_stairsAt_26 : decode cX4_stairsAt 26 = .ok (.aload_n 0, 1) := by decide +kernel
theorem dX4_stairsAt_27 : decode cX4_stairsAt 27 = .ok (.iload 4, 2) := by decide +kernel
theorem dX4_stairsAt_29 : decode cX4_stairsAt 29 = .ok (.invokevirtual 62, 3) := by decide +kernel
theorem dX4_stairsAt_32 : decode cX4_stairsAt 32 = .ok (.istore 5, 2) := by decide +kernel
theorem dX4_stairsAt_34 : decode cX4_stairsAt 34 = .ok (.aload_n 0, 1) := by decide +kernel
theorem dX4_stairsAt_35 : decode cX4_stairsAt 35 = .ok (.getfield 9, 3) := by decide +kernel
theorem dX4_stairsAt_38 : decode cX4_stairsAt 38 = .ok (.iload 4, 2) := by decide +kernel
theorem dX4_stairsAt_40 : decode cX4_stairsAt 40 = .ok (.bipush 8, 2) := by decide +kernel
theorem dX4_stairsAt_42 : decode cX4_stairsAt 42 = .ok (.invokevirtual 65, 3) := by decide +kernel
theorem dX4_stairsAt_45 : decode cX4_stairsAt 45 = .ok (.ifCond .lt 15, 3) := by decide +kernel
theorem dX4_stairsAt_48 : decode cX4_stairsAt 48 = .ok (.iload_n 2, 1) := by decide +kernel
theorem dX4_stairsAt_49 : decode cX4_stairsAt 49 = .ok (.iload 5, 2) := by decide +kernel
theorem dX4_stairsAt_51 : decode cX4_stairsAt 51 = .ok (.if_icmp .ne 6, 3) := by decide +kernel
theorem dX4_stairsAt_54 : decode cX4_stairsAt 54 = .ok (.bipush 94, 2) := by decide +kernel
theorem dX4_stairsAt_56 : decode cX4_stairsAt 56 = .ok (.ireturn, 1) := by decide +kernel
theorem dX4_stairsAt_57 : decode cX4_stairsAt 57 = .ok (.iinc 5 1, 3) := by decide +kernel
theorem dX4_stairsAt_60 : decode cX4_stairsAt 60 = .ok (.iload_n 2, 1) := by decide +kernel
theorem dX4_stairsAt_61 : decode cX4_stairsAt 61 = .ok (.iload 5, 2) := by decide +kernel
theorem dX4_stairsAt_63 : decode cX4_stairsAt 63 = .ok (.if_icmp .ne 20, 3) := by decide +kernel
theorem dX4_stairsAt_66 : decode cX4_stairsAt 66 = .ok (.aload_n 0, 1) := by decide +kernel
theorem dX4_stairsAt_67 : decode cX4_stairsAt 67 = .ok (.getfield 9, 3) := by decide +kernel
theorem dX4_stairsAt_70 : decode cX4_stairsAt 70 = .ok (.iload 4, 2) := by decide +kernel
theorem dX4_stairsAt_72 : decode cX4_stairsAt 72 = .ok (.bipush 9, 2) := by decide +kernel
theorem dX4_stairsAt_74 : decode cX4_stairsAt 74 = .ok (.invokevirtual 65, 3) := by decide +kernel
theorem dX4_stairsAt_77 : decode cX4_stairsAt 77 = .ok (.ifCond .lt 6, 3) := by decide +kernel
theorem dX4_stairsAt_80 : decode cX4_stairsAt 80 = .ok (.bipush 118, 2) := by decide +kernel
theorem dX4_stairsAt_82 : decode cX4_stairsAt 82 = .ok (.ireturn, 1) := by decide +kernel
theorem dX4_stairsAt_83 : decode cX4_stairsAt 83 = .ok (.iinc 4 1, 3) := by decide +kernel
theorem dX4_stairsAt_86 : decode cX4_stairsAt 86 = .ok (.goto (-83), 3) := by decide +kernel
theorem dX4_stairsAt_89 : decode cX4_stairsAt 89 = .ok (.bipush 32, 2) := by decide +kernel
theorem dX4_stairsAt_91 : decode cX4_stairsAt 91 = .ok (.ireturn, 1) := by decide +kernel
theorem dX4_lineAt_0 : decode cX4_lineAt 0 = .ok (.iconst 0, 1) := by decide +kernel
theorem dX4_lineAt_1 : decode cX4_lineAt 1 = .ok (.istore 4, 2) := by decide +kernel
theorem dX4_lineAt_3 : decode cX4_lineAt 3 = .ok (.iload 4, 2) := by decide +kernel
theorem dX4_lineAt_5 : decode cX4_lineAt 5 = .ok (.aload_n 0, 1) := by decide +kernel
theorem dX4_lineAt_6 : decode cX4_lineAt 6 = .ok (.getfield 9, 3) := by decide +kernel
theorem dX4_lineAt_9 : decode cX4_lineAt 9 = .ok (.getfield 69, 3) := by decide +kernel
theorem dX4_lineAt_12 : decode cX4_lineAt 12 = .ok (.if_icmp .ge 96, 3) := by decide +kernel
theorem dX4_lineAt_15 : decode cX4_lineAt 15 = .ok (.aload_n 0, 1) := by decide +kernel
theorem dX4_lineAt_16 : decode cX4_lineAt 16 = .ok (.getfield 9, 3) := by decide +kernel
theorem dX4_lineAt_19 : decode cX4_lineAt 19 = .ok (.getfield 72, 3) := by decide +kernel
theorem dX4_lineAt_22 : decode cX4_lineAt 22 = .ok (.iload 4, 2) := by decide +kernel
theorem dX4_lineAt_24 : decode cX4_lineAt 24 = .ok (.iaload, 1) := by decide +kernel
theorem dX4_lineAt_25 : decode cX4_lineAt 25 = .ok (.bipush 8, 2) := by decide +kernel
theorem dX4_lineAt_27 : decode cX4_lineAt 27 = .ok (.if_icmp .ge 19, 3) := by decide +kernel
theorem dX4_lineAt_30 : decode cX4_lineAt 30 = .ok (.aload_n 0, 1) := by decide +kernel
theorem dX4_lineAt_31 : decode cX4_lineAt 31 = .ok (.getfield 15, 3) := by decide +kernel
theorem dX4_lineAt_34 : decode cX4_lineAt 34 = .ok (.iload 4, 2) := by decide +kernel
theorem dX4_lineAt_36 : decode cX4_lineAt 36 = .ok (.invokevirtual 75, 3) := by decide +kernel
theorem dX4_lineAt_39 : decode cX4_lineAt 39 = .ok (.ifCond .eq 7, 3) := by decide +kernel
theorem dX4_lineAt_42 : decode cX4_lineAt 42 = .ok (.iconst 1, 1) := by decide +kernel
theorem dX4_lineAt_43 : decode cX4_lineAt 43 = .ok (.goto 4, 3) := by decide +kernel
theorem dX4_lineAt_46 : decode cX4_lineAt 46 = .ok (.iconst 0, 1) := by decide +kernel
theorem dX4_lineAt_47 : decode cX4_lineAt 47 = .ok (.istore 5, 2) := by decide +kernel
theorem dX4_lineAt_49 : decode cX4_lineAt 49 = .ok (.iload 5, 2) := by decide +kernel
theorem dX4_lineAt_51 : decode cX4_lineAt 51 = .ok (.ifCond .eq 51, 3) := by decide +kernel
theorem dX4_lineAt_54 : decode cX4_lineAt 54 = .ok (.aload_n 0, 1) := by decide +kernel
theorem dX4_lineAt_55 : decode cX4_lineAt 55 = .ok (.getfield 15, 3) := by decide +kernel
theorem dX4_lineAt_58 : decode cX4_lineAt 58 = .ok (.getfield 79, 3) := by decide +kernel
theorem dX4_lineAt_61 : decode cX4_lineAt 61 = .ok (.aload_n 0, 1) := by decide +kernel
theorem dX4_lineAt_62 : decode cX4_lineAt 62 = .ok (.getfield 9, 3) := by decide +kernel
theorem dX4_lineAt_65 : decode cX4_lineAt 65 = .ok (.getfield 82, 3) := by decide +kernel
theorem dX4_lineAt_68 : decode cX4_lineAt 68 = .ok (.iload 4, 2) := by decide +kernel
theorem dX4_lineAt_70 : decode cX4_lineAt 70 = .ok (.iaload, 1) := by decide +kernel
theorem dX4_lineAt_71 : decode cX4_lineAt 71 = .ok (.iaload, 1) := by decide +kernel
theorem dX4_lineAt_72 : decode cX4_lineAt 72 = .ok (.iload_n 1, 1) := by decide +kernel
theorem dX4_lineAt_73 : decode cX4_lineAt 73 = .ok (.if_icmp .ne 29, 3) := by decide +kernel
theorem dX4_lineAt_76 : decode cX4_lineAt 76 = .ok (.aload_n 0, 1) := by decide +kernel
theorem dX4_lineAt_77 : decode cX4_lineAt 77 = .ok (.iload 4, 2) := by decide +kernel
theorem dX4_lineAt_79 : decode cX4_lineAt 79 = .ok (.iload_n 2, 1) := by decide +kernel
theorem dX4_lineAt_80 : decode cX4_lineAt 80 = .ok (.iload_n 3, 1) := by decide +kernel
theorem dX4_lineAt_81 : decode cX4_lineAt 81 = .ok (.invokevirtual 85, 3) := by decide +kernel
theorem dX4_lineAt_84 : decode cX4_lineAt 84 = .ok (.ifCond .eq 18, 3) := by decide +kernel
theorem dX4_lineAt_87 : decode cX4_lineAt 87 = .ok (.getstatic 88, 3) := by decide +kernel
theorem dX4_lineAt_90 : decode cX4_lineAt 90 = .ok (.aload_n 0, 1) := by decide +kernel
theorem dX4_lineAt_91 : decode cX4_lineAt 91 = .ok (.getfield 9, 3) := by decide +kernel
theorem dX4_lineAt_94 : decode cX4_lineAt 94 = .ok (.getfield 72, 3) := by decide +kernel
theorem dX4_lineAt_97 : decode cX4_lineAt 97 = .ok (.iload 4, 2) := by decide +kernel
theorem dX4_lineAt_99 : decode cX4_lineAt 99 = .ok (.iaload, 1) := by decide +kernel
theorem dX4_lineAt_100 : decode cX4_lineAt 100 = .ok (.iaload, 1) := by decide +kernel
theorem dX4_lineAt_101 : decode cX4_lineAt 101 = .ok (.ireturn, 1) := by decide +kernel
theorem dX4_lineAt_102 : decode cX4_lineAt 102 = .ok (.iinc 4 1, 3) := by decide +kernel
theorem dX4_lineAt_105 : decode cX4_lineAt 105 = .ok (.goto (-102), 3) := by decide +kernel
theorem dX4_lineAt_108 : decode cX4_lineAt 108 = .ok (.bipush 32, 2) := by decide +kernel
theorem dX4_lineAt_110 : decode cX4_lineAt 110 = .ok (.ireturn, 1) := by decide +kernel
theorem dX4_isOnLine_0 : decode cX4_isOnLine 0 = .ok (.aload_n 0, 1) := by decide +kernel
theorem dX4_isOnLine_1 : decode cX4_isOnLine 1 = .ok (.getfield 15, 3) := by decide +kernel
theorem dX4_isOnLine_4 : decode cX4_isOnLine 4 = .ok (.iload_n 1, 1) := by decide +kernel
theorem dX4_isOnLine_5 : decode cX4_isOnLine 5 = .ok (.invokevirtual 91, 3) := by decide +kernel
theorem dX4_isOnLine_8 : decode cX4_isOnLine 8 = .ok (.istore 4, 2) := by decide +kernel
theorem dX4_isOnLine_10 : decode cX4_isOnLine 10 = .ok (.iload 4, 2) := by decide +kernel
theorem dX4_isOnLine_12 : decode cX4_isOnLine 12 = .ok (.ifCond .ne 5, 3) := by decide +kernel
theorem dX4_isOnLine_15 : decode cX4_isOnLine 15 = .ok (.iconst 0, 1) := by decide +kernel
theorem dX4_isOnLine_16 : decode cX4_isOnLine 16 = .ok (.ireturn, 1) := by decide +kernel
theorem dX4_isOnLine_17 : decode cX4_isOnLine 17 = .ok (.aload_n 0, 1) := by decide +kernel
theorem dX4_isOnLine_18 : decode cX4_isOnLine 18 = .ok (.getfield 9, 3) := by decide +kernel
theorem dX4_isOnLine_21 : decode cX4_isOnLine 21 = .ok (.getfield 72, 3) := by decide +kernel
theorem dX4_isOnLine_24 : decode cX4_isOnLine 24 = .ok (.iload_n 1, 1) := by decide +kernel
theorem dX4_isOnLine_25 : decode cX4_isOnLine 25 = .ok (.iaload, 1) := by decide +kernel
theorem dX4_isOnLine_26 : decode cX4_isOnLine 26 = .ok (.istore 5, 2) := by decide +kernel
theorem dX4_isOnLine_28 : decode cX4_isOnLine 28 = .ok (.getstatic 94, 3) := by decide +kernel
theorem dX4_isOnLine_31 : decode cX4_isOnLine 31 = .ok (.iload 5, 2) := by decide +kernel
theorem dX4_isOnLine_33 : decode cX4_isOnLine 33 = .ok (.iaload, 1) := by decide +kernel
theorem dX4_isOnLine_34 : decode cX4_isOnLine 34 = .ok (.ifCond .lt 21, 3) := by decide +kernel
theorem dX4_isOnLine_37 : decode cX4_isOnLine 37 = .ok (.getstatic 94, 3) := by decide +kernel
theorem dX4_isOnLine_40 : decode cX4_isOnLine 40 = .ok (.iload 5, 2) := by decide +kernel
theorem dX4_isOnLine_42 : decode cX4_isOnLine 42 = .ok (.iaload, 1) := by decide +kernel
theorem dX4_isOnLine_43 : decode cX4_isOnLine 43 = .ok (.ifCond .ne 16, 3) := by decide +kernel
theorem dX4_isOnLine_46 : decode cX4_isOnLine 46 = .ok (.getstatic 97, 3) := by decide +kernel
theorem dX4_isOnLine_49 : decode cX4_isOnLine 49 = .ok (.iload 5, 2) := by decide +kernel
theorem dX4_isOnLine_51 : decode cX4_isOnLine 51 = .ok (.iaload, 1) := by decide +kernel
theorem dX4_isOnLine_52 : decode cX4_isOnLine 52 = .ok (.ifCond .ge 7, 3) := by decide +kernel
theorem dX4_isOnLine_55 : decode cX4_isOnLine 55 = .ok (.iconst 1, 1) := by decide +kernel
theorem dX4_isOnLine_56 : decode cX4_isOnLine 56 = .ok (.goto 4, 3) := by decide +kernel
theorem dX4_isOnLine_59 : decode cX4_isOnLine 59 = .ok (.iconst 0, 1) := by decide +kernel
theorem dX4_isOnLine_60 : decode cX4_isOnLine 60 = .ok (.istore 6, 2) := by decide +kernel
theorem dX4_isOnLine_62 : decode cX4_isOnLine 62 = .ok (.iload 6, 2) := by decide +kernel
end
section
theorem dX4_isOnLine_64 : decode cX4_isOnLine 64 = .ok (.ifCond .eq 15, 3) := by decide +kernel
theorem dX4_isOnLine_67 : decode cX4_isOnLine 67 = .ok (.aload_n 0, 1) := by decide +kernel
theorem dX4_isOnLine_68 : decode cX4_isOnLine 68 = .ok (.getfield 9, 3) := by decide +kernel
theorem dX4_isOnLine_71 : decode cX4_isOnLine 71 = .ok (.getfield 100, 3) := by decide +kernel
theorem dX4_isOnLine_74 : decode cX4_isOnLine 74 = .ok (.iload_n 1, 1) := by decide +kernel
theorem dX4_isOnLine_75 : decode cX4_isOnLine 75 = .ok (.iaload, 1) := by decide +kernel
theorem dX4_isOnLine_76 : decode cX4_isOnLine 76 = .ok (.goto 12, 3) := by decide +kernel
theorem dX4_isOnLine_79 : decode cX4_isOnLine 79 = .ok (.aload_n 0, 1) := by decide +kernel
theorem dX4_isOnLine_80 : decode cX4_isOnLine 80 = .ok (.getfield 9, 3) := by decide +kernel
theorem dX4_isOnLine_83 : decode cX4_isOnLine 83 = .ok (.getfield 82, 3) := by decide +kernel
theorem dX4_isOnLine_86 : decode cX4_isOnLine 86 = .ok (.iload_n 1, 1) := by decide +kernel
theorem dX4_isOnLine_87 : decode cX4_isOnLine 87 = .ok (.iaload, 1) := by decide +kernel
theorem dX4_isOnLine_88 : decode cX4_isOnLine 88 = .ok (.istore 7, 2) := by decide +kernel
theorem dX4_isOnLine_90 : decode cX4_isOnLine 90 = .ok (.iload 6, 2) := by decide +kernel
theorem dX4_isOnLine_92 : decode cX4_isOnLine 92 = .ok (.ifCond .eq 15, 3) := by decide +kernel
theorem dX4_isOnLine_95 : decode cX4_isOnLine 95 = .ok (.aload_n 0, 1) := by decide +kernel
theorem dX4_isOnLine_96 : decode cX4_isOnLine 96 = .ok (.getfield 9, 3) := by decide +kernel
theorem dX4_isOnLine_99 : decode cX4_isOnLine 99 = .ok (.getfield 82, 3) := by decide +kernel
theorem dX4_isOnLine_102 : decode cX4_isOnLine 102 = .ok (.iload_n 1, 1) := by decide +kernel
theorem dX4_isOnLine_103 : decode cX4_isOnLine 103 = .ok (.iaload, 1) := by decide +kernel
theorem dX4_isOnLine_104 : decode cX4_isOnLine 104 = .ok (.goto 12, 3) := by decide +kernel
theorem dX4_isOnLine_107 : decode cX4_isOnLine 107 = .ok (.aload_n 0, 1) := by decide +kernel
theorem dX4_isOnLine_108 : decode cX4_isOnLine 108 = .ok (.getfield 9, 3) := by decide +kernel
theorem dX4_isOnLine_111 : decode cX4_isOnLine 111 = .ok (.getfield 100, 3) := by decide +kernel
theorem dX4_isOnLine_114 : decode cX4_isOnLine 114 = .ok (.iload_n 1, 1) := by decide +kernel
theorem dX4_isOnLine_115 : decode cX4_isOnLine 115 = .ok (.iaload, 1) := by decide +kernel
theorem dX4_isOnLine_116 : decode cX4_isOnLine 116 = .ok (.istore 8, 2) := by decide +kernel
theorem dX4_isOnLine_118 : decode cX4_isOnLine 118 = .ok (.getstatic 94, 3) := by decide +kernel
theorem dX4_isOnLine_121 : decode cX4_isOnLine 121 = .ok (.iload 5, 2) := by decide +kernel
theorem dX4_isOnLine_123 : decode cX4_isOnLine 123 = .ok (.iaload, 1) := by decide +kernel
theorem dX4_isOnLine_124 : decode cX4_isOnLine 124 = .ok (.ifCond .ne 39, 3) := by decide +kernel
theorem dX4_isOnLine_127 : decode cX4_isOnLine 127 = .ok (.iload_n 2, 1) := by decide +kernel
theorem dX4_isOnLine_128 : decode cX4_isOnLine 128 = .ok (.aload_n 0, 1) := by decide +kernel
theorem dX4_isOnLine_129 : decode cX4_isOnLine 129 = .ok (.iload 7, 2) := by decide +kernel
theorem dX4_isOnLine_131 : decode cX4_isOnLine 131 = .ok (.invokevirtual 58, 3) := by decide +kernel
theorem dX4_isOnLine_134 : decode cX4_isOnLine 134 = .ok (.if_icmp .ne 27, 3) := by decide +kernel
theorem dX4_isOnLine_137 : decode cX4_isOnLine 137 = .ok (.iload_n 3, 1) := by decide +kernel
theorem dX4_isOnLine_138 : decode cX4_isOnLine 138 = .ok (.aload_n 0, 1) := by decide +kernel
theorem dX4_isOnLine_139 : decode cX4_isOnLine 139 = .ok (.iload 7, 2) := by decide +kernel
theorem dX4_isOnLine_141 : decode cX4_isOnLine 141 = .ok (.invokevirtual 103, 3) := by decide +kernel
theorem dX4_isOnLine_144 : decode cX4_isOnLine 144 = .ok (.if_icmp .le 17, 3) := by decide +kernel
theorem dX4_isOnLine_147 : decode cX4_isOnLine 147 = .ok (.iload_n 3, 1) := by decide +kernel
theorem dX4_isOnLine_148 : decode cX4_isOnLine 148 = .ok (.aload_n 0, 1) := by decide +kernel
theorem dX4_isOnLine_149 : decode cX4_isOnLine 149 = .ok (.iload 8, 2) := by decide +kernel
theorem dX4_isOnLine_151 : decode cX4_isOnLine 151 = .ok (.invokevirtual 103, 3) := by decide +kernel
theorem dX4_isOnLine_154 : decode cX4_isOnLine 154 = .ok (.if_icmp .ge 7, 3) := by decide +kernel
theorem dX4_isOnLine_157 : decode cX4_isOnLine 157 = .ok (.iconst 1, 1) := by decide +kernel
theorem dX4_isOnLine_158 : decode cX4_isOnLine 158 = .ok (.goto 4, 3) := by decide +kernel
theorem dX4_isOnLine_161 : decode cX4_isOnLine 161 = .ok (.iconst 0, 1) := by decide +kernel
theorem dX4_isOnLine_162 : decode cX4_isOnLine 162 = .ok (.ireturn, 1) := by decide +kernel
theorem dX4_isOnLine_163 : decode cX4_isOnLine 163 = .ok (.getstatic 97, 3) := by decide +kernel
theorem dX4_isOnLine_166 : decode cX4_isOnLine 166 = .ok (.iload 5, 2) := by decide +kernel
theorem dX4_isOnLine_168 : decode cX4_isOnLine 168 = .ok (.iaload, 1) := by decide +kernel
theorem dX4_isOnLine_169 : decode cX4_isOnLine 169 = .ok (.ifCond .ne 39, 3) := by decide +kernel
theorem dX4_isOnLine_172 : decode cX4_isOnLine 172 = .ok (.iload_n 3, 1) := by decide +kernel
theorem dX4_isOnLine_173 : decode cX4_isOnLine 173 = .ok (.aload_n 0, 1) := by decide +kernel
theorem dX4_isOnLine_174 : decode cX4_isOnLine 174 = .ok (.iload 7, 2) := by decide +kernel
theorem dX4_isOnLine_176 : decode cX4_isOnLine 176 = .ok (.invokevirtual 103, 3) := by decide +kernel
theorem dX4_isOnLine_179 : decode cX4_isOnLine 179 = .ok (.if_icmp .ne 27, 3) := by decide +kernel
theorem dX4_isOnLine_182 : decode cX4_isOnLine 182 = .ok (.iload_n 2, 1) := by decide +kernel
theorem dX4_isOnLine_183 : decode cX4_isOnLine 183 = .ok (.aload_n 0, 1) := by decide +kernel
theorem dX4_isOnLine_184 : decode cX4_isOnLine 184 = .ok (.iload 7, 2) := by decide +kernel
theorem dX4_isOnLine_186 : decode cX4_isOnLine 186 = .ok (.invokevirtual 62, 3) := by decide +kernel
theorem dX4_isOnLine_189 : decode cX4_isOnLine 189 = .ok (.if_icmp .lt 17, 3) := by decide +kernel
theorem dX4_isOnLine_192 : decode cX4_isOnLine 192 = .ok (.iload_n 2, 1) := by decide +kernel
theorem dX4_isOnLine_193 : decode cX4_isOnLine 193 = .ok (.aload_n 0, 1) := by decide +kernel
theorem dX4_isOnLine_194 : decode cX4_isOnLine 194 = .ok (.iload 8, 2) := by decide +kernel
theorem dX4_isOnLine_196 : decode cX4_isOnLine 196 = .ok (.invokevirtual 58, 3) := by decide +kernel
theorem dX4_isOnLine_199 : decode cX4_isOnLine 199 = .ok (.if_icmp .ge 7, 3) := by decide +kernel
theorem dX4_isOnLine_202 : decode cX4_isOnLine 202 = .ok (.iconst 1, 1) := by decide +kernel
theorem dX4_isOnLine_203 : decode cX4_isOnLine 203 = .ok (.goto 4, 3) := by decide +kernel
theorem dX4_isOnLine_206 : decode cX4_isOnLine 206 = .ok (.iconst 0, 1) := by decide +kernel
theorem dX4_isOnLine_207 : decode cX4_isOnLine 207 = .ok (.ireturn, 1) := by decide +kernel
theorem dX4_isOnLine_208 : decode cX4_isOnLine 208 = .ok (.getstatic 94, 3) := by decide +kernel
theorem dX4_isOnLine_211 : decode cX4_isOnLine 211 = .ok (.iload 5, 2) := by decide +kernel
theorem dX4_isOnLine_213 : decode cX4_isOnLine 213 = .ok (.iaload, 1) := by decide +kernel
theorem dX4_isOnLine_214 : decode cX4_isOnLine 214 = .ok (.getstatic 97, 3) := by decide +kernel
theorem dX4_isOnLine_217 : decode cX4_isOnLine 217 = .ok (.iload 5, 2) := by decide +kernel
theorem dX4_isOnLine_219 : decode cX4_isOnLine 219 = .ok (.iaload, 1) := by decide +kernel
theorem dX4_isOnLine_220 : decode cX4_isOnLine 220 = .ok (.imul, 1) := by decide +kernel
theorem dX4_isOnLine_221 : decode cX4_isOnLine 221 = .ok (.istore 9, 2) := by decide +kernel
theorem dX4_isOnLine_223 : decode cX4_isOnLine 223 = .ok (.aload_n 0, 1) := by decide +kernel
theorem dX4_isOnLine_224 : decode cX4_isOnLine 224 = .ok (.iload_n 2, 1) := by decide +kernel
theorem dX4_isOnLine_225 : decode cX4_isOnLine 225 = .ok (.aload_n 0, 1) := by decide +kernel
theorem dX4_isOnLine_226 : decode cX4_isOnLine 226 = .ok (.iload 7, 2) := by decide +kernel
theorem dX4_isOnLine_228 : decode cX4_isOnLine 228 = .ok (.invokevirtual 58, 3) := by decide +kernel
theorem dX4_isOnLine_231 : decode cX4_isOnLine 231 = .ok (.isub, 1) := by decide +kernel
theorem dX4_isOnLine_232 : decode cX4_isOnLine 232 = .ok (.iload 9, 2) := by decide +kernel
theorem dX4_isOnLine_234 : decode cX4_isOnLine 234 = .ok (.iload_n 3, 1) := by decide +kernel
theorem dX4_isOnLine_235 : decode cX4_isOnLine 235 = .ok (.aload_n 0, 1) := by decide +kernel
theorem dX4_isOnLine_236 : decode cX4_isOnLine 236 = .ok (.iload 7, 2) := by decide +kernel
theorem dX4_isOnLine_238 : decode cX4_isOnLine 238 = .ok (.invokevirtual 103, 3) := by decide +kernel
theorem dX4_isOnLine_241 : decode cX4_isOnLine 241 = .ok (.isub, 1) := by decide +kernel
theorem dX4_isOnLine_242 : decode cX4_isOnLine 242 = .ok (.imul, 1) := by decide +kernel
theorem dX4_isOnLine_243 : decode cX4_isOnLine 243 = .ok (.iload 4, 2) := by decide +kernel
theorem dX4_isOnLine_245 : decode cX4_isOnLine 245 = .ok (.invokevirtual 106, 3) := by decide +kernel
theorem dX4_isOnLine_248 : decode cX4_isOnLine 248 = .ok (.ireturn, 1) := by decide +kernel
theorem dX4_isOnSlant_0 : decode cX4_isOnSlant 0 = .ok (.iconst 0, 1) := by decide +kernel
theorem dX4_isOnSlant_1 : decode cX4_isOnSlant 1 = .ok (.istore 4, 2) := by decide +kernel
theorem dX4_isOnSlant_3 : decode cX4_isOnSlant 3 = .ok (.iload 4, 2) := by decide +kernel
theorem dX4_isOnSlant_5 : decode cX4_isOnSlant 5 = .ok (.iload_n 3, 1) := by decide +kernel
theorem dX4_isOnSlant_6 : decode cX4_isOnSlant 6 = .ok (.if_icmp .ge 32, 3) := by decide +kernel
theorem dX4_isOnSlant_9 : decode cX4_isOnSlant 9 = .ok (.iload_n 1, 1) := by decide +kernel
theorem dX4_isOnSlant_10 : decode cX4_isOnSlant 10 = .ok (.bipush 6, 2) := by decide +kernel
theorem dX4_isOnSlant_12 : decode cX4_isOnSlant 12 = .ok (.iload 4, 2) := by decide +kernel
theorem dX4_isOnSlant_14 : decode cX4_isOnSlant 14 = .ok (.imul, 1) := by decide +kernel
theorem dX4_isOnSlant_15 : decode cX4_isOnSlant 15 = .ok (.iconst 3, 1) := by decide +kernel
theorem dX4_isOnSlant_16 : decode cX4_isOnSlant 16 = .ok (.iadd, 1) := by decide +kernel
theorem dX4_isOnSlant_17 : decode cX4_isOnSlant 17 = .ok (.if_icmp .ne 15, 3) := by decide +kernel
theorem dX4_isOnSlant_20 : decode cX4_isOnSlant 20 = .ok (.iload_n 2, 1) := by decide +kernel
theorem dX4_isOnSlant_21 : decode cX4_isOnSlant 21 = .ok (.iconst 2, 1) := by decide +kernel
theorem dX4_isOnSlant_22 : decode cX4_isOnSlant 22 = .ok (.iload 4, 2) := by decide +kernel
theorem dX4_isOnSlant_24 : decode cX4_isOnSlant 24 = .ok (.imul, 1) := by decide +kernel
theorem dX4_isOnSlant_25 : decode cX4_isOnSlant 25 = .ok (.iconst 1, 1) := by decide +kernel
theorem dX4_isOnSlant_26 : decode cX4_isOnSlant 26 = .ok (.iadd, 1) := by decide +kernel
theorem dX4_isOnSlant_27 : decode cX4_isOnSlant 27 = .ok (.if_icmp .ne 5, 3) := by decide +kernel
theorem dX4_isOnSlant_30 : decode cX4_isOnSlant 30 = .ok (.iconst 1, 1) := by decide +kernel
theorem dX4_isOnSlant_31 : decode cX4_isOnSlant 31 = .ok (.ireturn, 1) := by decide +kernel
theorem dX4_isOnSlant_32 : decode cX4_isOnSlant 32 = .ok (.iinc 4 1, 3) := by decide +kernel
theorem dX4_isOnSlant_35 : decode cX4_isOnSlant 35 = .ok (.goto (-32), 3) := by decide +kernel
theorem dX4_isOnSlant_38 : decode cX4_isOnSlant 38 = .ok (.iconst 0, 1) := by decide +kernel
theorem dX4_isOnSlant_39 : decode cX4_isOnSlant 39 = .ok (.ireturn, 1) := by decide +kernel
theorem dX4_isInRow_0 : decode cX4_isInRow 0 = .ok (.aload_n 0, 1) := by decide +kernel
theorem dX4_isInRow_1 : decode cX4_isInRow 1 = .ok (.getfield 15, 3) := by decide +kernel
theorem dX4_isInRow_4 : decode cX4_isInRow 4 = .ok (.getfield 109, 3) := by decide +kernel
theorem dX4_isInRow_7 : decode cX4_isInRow 7 = .ok (.iload_n 1, 1) := by decide +kernel
theorem dX4_isInRow_8 : decode cX4_isInRow 8 = .ok (.baload, 1) := by decide +kernel
theorem dX4_isInRow_9 : decode cX4_isInRow 9 = .ok (.ifCond .eq 29, 3) := by decide +kernel
theorem dX4_isInRow_12 : decode cX4_isInRow 12 = .ok (.aload_n 0, 1) := by decide +kernel
theorem dX4_isInRow_13 : decode cX4_isInRow 13 = .ok (.getfield 15, 3) := by decide +kernel
theorem dX4_isInRow_16 : decode cX4_isInRow 16 = .ok (.getfield 79, 3) := by decide +kernel
theorem dX4_isInRow_19 : decode cX4_isInRow 19 = .ok (.iload_n 1, 1) := by decide +kernel
theorem dX4_isInRow_20 : decode cX4_isInRow 20 = .ok (.iaload, 1) := by decide +kernel
theorem dX4_isInRow_21 : decode cX4_isInRow 21 = .ok (.iload_n 2, 1) := by decide +kernel
theorem dX4_isInRow_22 : decode cX4_isInRow 22 = .ok (.if_icmp .ne 16, 3) := by decide +kernel
theorem dX4_isInRow_25 : decode cX4_isInRow 25 = .ok (.aload_n 0, 1) := by decide +kernel
theorem dX4_isInRow_26 : decode cX4_isInRow 26 = .ok (.iload_n 1, 1) := by decide +kernel
theorem dX4_isInRow_27 : decode cX4_isInRow 27 = .ok (.invokevirtual 103, 3) := by decide +kernel
theorem dX4_isInRow_30 : decode cX4_isInRow 30 = .ok (.iload_n 3, 1) := by decide +kernel
theorem dX4_isInRow_31 : decode cX4_isInRow 31 = .ok (.if_icmp .ne 7, 3) := by decide +kernel
theorem dX4_isInRow_34 : decode cX4_isInRow 34 = .ok (.iconst 1, 1) := by decide +kernel
theorem dX4_isInRow_35 : decode cX4_isInRow 35 = .ok (.goto 4, 3) := by decide +kernel
theorem dX4_isInRow_38 : decode cX4_isInRow 38 = .ok (.iconst 0, 1) := by decide +kernel
theorem dX4_isInRow_39 : decode cX4_isInRow 39 = .ok (.ireturn, 1) := by decide +kernel
theorem dX4_columnOf_0 : decode cX4_columnOf 0 = .ok (.bipush 6, 2) := by decide +kernel
theorem dX4_columnOf_2 : decode cX4_columnOf 2 = .ok (.aload_n 0, 1) := by decide +kernel
theorem dX4_columnOf_3 : decode cX4_columnOf 3 = .ok (.getfield 15, 3) := by decide +kernel
theorem dX4_columnOf_6 : decode cX4_columnOf 6 = .ok (.getfield 19, 3) := by decide +kernel
theorem dX4_columnOf_9 : decode cX4_columnOf 9 = .ok (.iload_n 1, 1) := by decide +kernel
theorem dX4_columnOf_10 : decode cX4_columnOf 10 = .ok (.iaload, 1) := by decide +kernel
theorem dX4_columnOf_11 : decode cX4_columnOf 11 = .ok (.aload_n 0, 1) := by decide +kernel
theorem dX4_columnOf_12 : decode cX4_columnOf 12 = .ok (.getfield 29, 3) := by decide +kernel
theorem dX4_columnOf_15 : decode cX4_columnOf 15 = .ok (.isub, 1) := by decide +kernel
theorem dX4_columnOf_16 : decode cX4_columnOf 16 = .ok (.imul, 1) := by decide +kernel
theorem dX4_columnOf_17 : decode cX4_columnOf 17 = .ok (.ireturn, 1) := by decide +kernel
theorem dX4_columnBehind_0 : decode cX4_columnBehind 0 = .ok (.aload_n 0, 1) := by decide +kernel
theorem dX4_columnBehind_1 : decode cX4_columnBehind 1 = .ok (.iload_n 1, 1) := by decide +kernel
theorem dX4_columnBehind_2 : decode cX4_columnBehind 2 = .ok (.invokevirtual 58, 3) := by decide +kernel
theorem dX4_columnBehind_5 : decode cX4_columnBehind 5 = .ok (.aload_n 0, 1) := by decide +kernel
theorem dX4_columnBehind_6 : decode cX4_columnBehind 6 = .ok (.getfield 9, 3) := by decide +kernel
theorem dX4_columnBehind_9 : decode cX4_columnBehind 9 = .ok (.getfield 113, 3) := by decide +kernel
theorem dX4_columnBehind_12 : decode cX4_columnBehind 12 = .ok (.iload_n 1, 1) := by decide +kernel
theorem dX4_columnBehind_13 : decode cX4_columnBehind 13 = .ok (.iaload, 1) := by decide +kernel
theorem dX4_columnBehind_14 : decode cX4_columnBehind 14 = .ok (.iadd, 1) := by decide +kernel
theorem dX4_columnBehind_15 : decode cX4_columnBehind 15 = .ok (.ireturn, 1) := by decide +kernel
theorem dX4_rowOf_0 : decode cX4_rowOf 0 = .ok (.iconst 2, 1) := by decide +kernel
theorem dX4_rowOf_1 : decode cX4_rowOf 1 = .ok (.aload_n 0, 1) := by decide +kernel
theorem dX4_rowOf_2 : decode cX4_rowOf 2 = .ok (.getfield 15, 3) := by decide +kernel
theorem dX4_rowOf_5 : decode cX4_rowOf 5 = .ok (.getfield 33, 3) := by decide +kernel
theorem dX4_rowOf_8 : decode cX4_rowOf 8 = .ok (.iload_n 1, 1) := by decide +kernel
theorem dX4_rowOf_9 : decode cX4_rowOf 9 = .ok (.iaload, 1) := by decide +kernel
theorem dX4_rowOf_10 : decode cX4_rowOf 10 = .ok (.aload_n 0, 1) := by decide +kernel
theorem dX4_rowOf_11 : decode cX4_rowOf 11 = .ok (.getfield 36, 3) := by decide +kernel
theorem dX4_rowOf_14 : decode cX4_rowOf 14 = .ok (.isub, 1) := by decide +kernel
theorem dX4_rowOf_15 : decode cX4_rowOf 15 = .ok (.imul, 1) := by decide +kernel
theorem dX4_rowOf_16 : decode cX4_rowOf 16 = .ok (.ireturn, 1) := by decide +kernel
theorem dX3_init_0 : decode cX3_init 0 = .ok (.aload_n 0, 1) := by decide +kernel
theorem dX3_init_1 : decode cX3_init 1 = .ok (.invokespecial 3, 3) := by decide +kernel
theorem dX3_init_4 : decode cX3_init 4 = .ok (.aload_n 0, 1) := by decide +kernel
theorem dX3_init_5 : decode cX3_init 5 = .ok (.new 9, 3) := by decide +kernel
theorem dX3_init_8 : decode cX3_init 8 = .ok (.dup, 1) := by decide +kernel
theorem dX3_init_9 : decode cX3_init 9 = .ok (.invokespecial 11, 3) := by decide +kernel
theorem dX3_init_12 : decode cX3_init 12 = .ok (.putfield 12, 3) := by decide +kernel
theorem dX3_init_15 : decode cX3_init 15 = .ok (.aload_n 0, 1) := by decide +kernel
theorem dX3_init_16 : decode cX3_init 16 = .ok (.bipush 24, 2) := by decide +kernel
theorem dX3_init_18 : decode cX3_init 18 = .ok (.newarray .int, 2) := by decide +kernel
theorem dX3_init_20 : decode cX3_init 20 = .ok (.putfield 18, 3) := by decide +kernel
theorem dX3_init_23 : decode cX3_init 23 = .ok (.aload_n 0, 1) := by decide +kernel
theorem dX3_init_24 : decode cX3_init 24 = .ok (.bipush 24, 2) := by decide +kernel
theorem dX3_init_26 : decode cX3_init 26 = .ok (.newarray .boolean, 2) := by decide +kernel
theorem dX3_init_28 : decode cX3_init 28 = .ok (.putfield 22, 3) := by decide +kernel
theorem dX3_init_31 : decode cX3_init 31 = .ok (.aload_n 0, 1) := by decide +kernel
theorem dX3_init_32 : decode cX3_init 32 = .ok (.aload_n 1, 1) := by decide +kernel
theorem dX3_init_33 : decode cX3_init 33 = .ok (.putfield 26, 3) := by decide +kernel
theorem dX3_init_36 : decode cX3_init 36 = .ok (.aload_n 0, 1) := by decide +kernel
theorem dX3_init_37 : decode cX3_init 37 = .ok (.aload_n 2, 1) := by decide +kernel
theorem dX3_init_38 : decode cX3_init 38 = .ok (.putfield 30, 3) := by decide +kernel
theorem dX3_init_41 : decode cX3_init 41 = .ok (.aload_n 0, 1) := by decide +kernel
theorem dX3_init_42 : decode cX3_init 42 = .ok (.aload_n 3, 1) := by decide +kernel
theorem dX3_init_43 : decode cX3_init 43 = .ok (.putfield 34, 3) := by decide +kernel
theorem dX3_init_46 : decode cX3_init 46 = .ok (.aload_n 0, 1) := by decide +kernel
theorem dX3_init_47 : decode cX3_init 47 = .ok (.new 38, 3) := by decide +kernel
theorem dX3_init_50 : decode cX3_init 50 = .ok (.dup, 1) := by decide +kernel
theorem dX3_init_51 : decode cX3_init 51 = .ok (.aload_n 1, 1) := by decide +kernel
theorem dX3_init_52 : decode cX3_init 52 = .ok (.invokespecial 40, 3) := by decide +kernel
theorem dX3_init_55 : decode cX3_init 55 = .ok (.putfield 43, 3) := by decide +kernel
theorem dX3_init_58 : decode cX3_init 58 = .ok (.aload_n 0, 1) := by decide +kernel
theorem dX3_init_59 : decode cX3_init 59 = .ok (.new 46, 3) := by decide +kernel
theorem dX3_init_62 : decode cX3_init 62 = .ok (.dup, 1) := by decide +kernel
theorem dX3_init_63 : decode cX3_init 63 = .ok (.aload_n 1, 1) := by decide +kernel
theorem dX3_init_64 : decode cX3_init 64 = .ok (.aload_n 0, 1) := by decide +kernel
theorem dX3_init_65 : decode cX3_init 65 = .ok (.getfield 12, 3) := by decide +kernel
theorem dX3_init_68 : decode cX3_init 68 = .ok (.invokespecial 48, 3) := by decide +kernel
theorem dX3_init_71 : decode cX3_init 71 = .ok (.putfield 51, 3) := by decide +kernel
theorem dX3_init_74 : decode cX3_init 74 = .ok (.return_, 1) := by decide +kernel
theorem dX3_leastness_0 : decode cX3_leastness 0 = .ok (.iload_n 1, 1) := by decide +kernel
theorem dX3_leastness_1 : decode cX3_leastness 1 = .ok (.aload_n 0, 1) := by decide +kernel
theorem dX3_leastness_2 : decode cX3_leastness 2 = .ok (.getfield 55, 3) := by decide +kernel
theorem dX3_leastness_5 : decode cX3_leastness 5 = .ok (.if_icmp .lt 6, 3) := by decide +kernel
theorem dX3_leastness_8 : decode cX3_leastness 8 = .ok (.bipush (-2), 2) := by decide +kernel
theorem dX3_leastness_10 : decode cX3_leastness 10 = .ok (.ireturn, 1) := by decide +kernel
theorem dX3_leastness_11 : decode cX3_leastness 11 = .ok (.aload_n 0, 1) := by decide +kernel
theorem dX3_leastness_12 : decode cX3_leastness 12 = .ok (.getfield 22, 3) := by decide +kernel
theorem dX3_leastness_15 : decode cX3_leastness 15 = .ok (.iload_n 1, 1) := by decide +kernel
theorem dX3_leastness_16 : decode cX3_leastness 16 = .ok (.baload, 1) := by decide +kernel
theorem dX3_leastness_17 : decode cX3_leastness 17 = .ok (.ifCond .eq 7, 3) := by decide +kernel
theorem dX3_leastness_20 : decode cX3_leastness 20 = .ok (.iconst 1, 1) := by decide +kernel
theorem dX3_leastness_21 : decode cX3_leastness 21 = .ok (.goto 4, 3) := by decide +kernel
theorem dX3_leastness_24 : decode cX3_leastness 24 = .ok (.iconst 0, 1) := by decide +kernel
theorem dX3_leastness_25 : decode cX3_leastness 25 = .ok (.ireturn, 1) := by decide +kernel
theorem dX3_drawAll_0 : decode cX3_drawAll 0 = .ok (.aload_n 0, 1) := by decide +kernel
theorem dX3_drawAll_1 : decode cX3_drawAll 1 = .ok (.getfield 12, 3) := by decide +kernel
theorem dX3_drawAll_4 : decode cX3_drawAll 4 = .ok (.aload_n 0, 1) := by decide +kernel
theorem dX3_drawAll_5 : decode cX3_drawAll 5 = .ok (.getfield 26, 3) := by decide +kernel
theorem dX3_drawAll_8 : decode cX3_drawAll 8 = .ok (.invokevirtual 59, 3) := by decide +kernel
theorem dX3_drawAll_11 : decode cX3_drawAll 11 = .ok (.aload_n 0, 1) := by decide +kernel
theorem dX3_drawAll_12 : decode cX3_drawAll 12 = .ok (.aload_n 0, 1) := by decide +kernel
theorem dX3_drawAll_13 : decode cX3_drawAll 13 = .ok (.getfield 30, 3) := by decide +kernel
theorem dX3_drawAll_16 : decode cX3_drawAll 16 = .ok (.aload_n 0, 1) := by decide +kernel
theorem dX3_drawAll_17 : decode cX3_drawAll 17 = .ok (.getfield 26, 3) := by decide +kernel
theorem dX3_drawAll_20 : decode cX3_drawAll 20 = .ok (.invokevirtual 62, 3) := by decide +kernel
theorem dX3_drawAll_23 : decode cX3_drawAll 23 = .ok (.putfield 55, 3) := by decide +kernel
theorem dX3_drawAll_26 : decode cX3_drawAll 26 = .ok (.aload_n 0, 1) := by decide +kernel
theorem dX3_drawAll_27 : decode cX3_drawAll 27 = .ok (.iload_n 1, 1) := by decide +kernel
theorem dX3_drawAll_28 : decode cX3_drawAll 28 = .ok (.putfield 68, 3) := by decide +kernel
theorem dX3_drawAll_31 : decode cX3_drawAll 31 = .ok (.aload_n 0, 1) := by decide +kernel
theorem dX3_drawAll_32 : decode cX3_drawAll 32 = .ok (.iconst 0, 1) := by decide +kernel
theorem dX3_drawAll_33 : decode cX3_drawAll 33 = .ok (.putfield 71, 3) := by decide +kernel
theorem dX3_drawAll_36 : decode cX3_drawAll 36 = .ok (.aload_n 0, 1) := by decide +kernel
theorem dX3_drawAll_37 : decode cX3_drawAll 37 = .ok (.getfield 34, 3) := by decide +kernel
theorem dX3_drawAll_40 : decode cX3_drawAll 40 = .ok (.invokevirtual 74, 3) := by decide +kernel
theorem dX3_drawAll_43 : decode cX3_drawAll 43 = .ok (.iconst 0, 1) := by decide +kernel
theorem dX3_drawAll_44 : decode cX3_drawAll 44 = .ok (.istore_n 2, 1) := by decide +kernel
theorem dX3_drawAll_45 : decode cX3_drawAll 45 = .ok (.iconst 0, 1) := by decide +kernel
theorem dX3_drawAll_46 : decode cX3_drawAll 46 = .ok (.istore_n 3, 1) := by decide +kernel
theorem dX3_drawAll_47 : decode cX3_drawAll 47 = .ok (.iload_n 3, 1) := by decide +kernel
theorem dX3_drawAll_48 : decode cX3_drawAll 48 = .ok (.aload_n 0, 1) := by decide +kernel
theorem dX3_drawAll_49 : decode cX3_drawAll 49 = .ok (.getfield 26, 3) := by decide +kernel
theorem dX3_drawAll_52 : decode cX3_drawAll 52 = .ok (.getfield 77, 3) := by decide +kernel
theorem dX3_drawAll_55 : decode cX3_drawAll 55 = .ok (.if_icmp .ge 73, 3) := by decide +kernel
theorem dX3_drawAll_58 : decode cX3_drawAll 58 = .ok (.aload_n 0, 1) := by decide +kernel
theorem dX3_drawAll_59 : decode cX3_drawAll 59 = .ok (.getfield 34, 3) := by decide +kernel
theorem dX3_drawAll_62 : decode cX3_drawAll 62 = .ok (.getfield 82, 3) := by decide +kernel
theorem dX3_drawAll_65 : decode cX3_drawAll 65 = .ok (.iload_n 3, 1) := by decide +kernel
theorem dX3_drawAll_66 : decode cX3_drawAll 66 = .ok (.baload, 1) := by decide +kernel
theorem dX3_drawAll_67 : decode cX3_drawAll 67 = .ok (.ifCond .ne 55, 3) := by decide +kernel
theorem dX3_drawAll_70 : decode cX3_drawAll 70 = .ok (.aload_n 0, 1) := by decide +kernel
theorem dX3_drawAll_71 : decode cX3_drawAll 71 = .ok (.iload_n 3, 1) := by decide +kernel
theorem dX3_drawAll_72 : decode cX3_drawAll 72 = .ok (.invokevirtual 85, 3) := by decide +kernel
theorem dX3_drawAll_75 : decode cX3_drawAll 75 = .ok (.aload_n 0, 1) := by decide +kernel
theorem dX3_drawAll_76 : decode cX3_drawAll 76 = .ok (.getfield 22, 3) := by decide +kernel
theorem dX3_drawAll_79 : decode cX3_drawAll 79 = .ok (.aload_n 0, 1) := by decide +kernel
theorem dX3_drawAll_80 : decode cX3_drawAll 80 = .ok (.getfield 30, 3) := by decide +kernel
theorem dX3_drawAll_83 : decode cX3_drawAll 83 = .ok (.getfield 89, 3) := by decide +kernel
theorem dX3_drawAll_86 : decode cX3_drawAll 86 = .ok (.iload_n 3, 1) := by decide +kernel
theorem dX3_drawAll_87 : decode cX3_drawAll 87 = .ok (.iaload, 1) := by decide +kernel
theorem dX3_drawAll_88 : decode cX3_drawAll 88 = .ok (.aload_n 0, 1) := by decide +kernel
theorem dX3_drawAll_89 : decode cX3_drawAll 89 = .ok (.getfield 92, 3) := by decide +kernel
theorem dX3_drawAll_92 : decode cX3_drawAll 92 = .ok (.ifCond .ne 7, 3) := by decide +kernel
theorem dX3_drawAll_95 : decode cX3_drawAll 95 = .ok (.iconst 1, 1) := by decide +kernel
theorem dX3_drawAll_96 : decode cX3_drawAll 96 = .ok (.goto 4, 3) := by decide +kernel
theorem dX3_drawAll_99 : decode cX3_drawAll 99 = .ok (.iconst 0, 1) := by decide +kernel
theorem dX3_drawAll_100 : decode cX3_drawAll 100 = .ok (.bastore, 1) := by decide +kernel
theorem dX3_drawAll_101 : decode cX3_drawAll 101 = .ok (.aload_n 0, 1) := by decide +kernel
theorem dX3_drawAll_102 : decode cX3_drawAll 102 = .ok (.dup, 1) := by decide +kernel
theorem dX3_drawAll_103 : decode cX3_drawAll 103 = .ok (.getfield 71, 3) := by decide +kernel
theorem dX3_drawAll_106 : decode cX3_drawAll 106 = .ok (.aload_n 0, 1) := by decide +kernel
theorem dX3_drawAll_107 : decode cX3_drawAll 107 = .ok (.getfield 96, 3) := by decide +kernel
theorem dX3_drawAll_110 : decode cX3_drawAll 110 = .ok (.iadd, 1) := by decide +kernel
theorem dX3_drawAll_111 : decode cX3_drawAll 111 = .ok (.putfield 71, 3) := by decide +kernel
theorem dX3_drawAll_114 : decode cX3_drawAll 114 = .ok (.aload_n 0, 1) := by decide +kernel
theorem dX3_drawAll_115 : decode cX3_drawAll 115 = .ok (.iload_n 2, 1) := by decide +kernel
theorem dX3_drawAll_116 : decode cX3_drawAll 116 = .ok (.invokevirtual 99, 3) := by decide +kernel
theorem dX3_drawAll_119 : decode cX3_drawAll 119 = .ok (.iconst 2, 1) := by decide +kernel
theorem dX3_drawAll_120 : decode cX3_drawAll 120 = .ok (.iadd, 1) := by decide +kernel
theorem dX3_drawAll_121 : decode cX3_drawAll 121 = .ok (.istore_n 2, 1) := by decide +kernel
theorem dX3_drawAll_122 : decode cX3_drawAll 122 = .ok (.iinc 3 1, 3) := by decide +kernel
theorem dX3_drawAll_125 : decode cX3_drawAll 125 = .ok (.goto (-78), 3) := by decide +kernel
theorem dX3_drawAll_128 : decode cX3_drawAll 128 = .ok (.return_, 1) := by decide +kernel
theorem dX3_growAll_0 : decode cX3_growAll 0 = .ok (.aload_n 0, 1) := by decide +kernel
theorem dX3_growAll_1 : decode cX3_growAll 1 = .ok (.getfield 12, 3) := by decide +kernel
theorem dX3_growAll_4 : decode cX3_growAll 4 = .ok (.aload_n 0, 1) := by decide +kernel
theorem dX3_growAll_5 : decode cX3_growAll 5 = .ok (.getfield 26, 3) := by decide +kernel
theorem dX3_growAll_8 : decode cX3_growAll 8 = .ok (.invokevirtual 59, 3) := by decide +kernel
theorem dX3_growAll_11 : decode cX3_growAll 11 = .ok (.aload_n 0, 1) := by decide +kernel
theorem dX3_growAll_12 : decode cX3_growAll 12 = .ok (.iconst 0, 1) := by decide +kernel
theorem dX3_growAll_13 : decode cX3_growAll 13 = .ok (.putfield 55, 3) := by decide +kernel
theorem dX3_growAll_16 : decode cX3_growAll 16 = .ok (.aload_n 0, 1) := by decide +kernel
theorem dX3_growAll_17 : decode cX3_growAll 17 = .ok (.iconst 0, 1) := by decide +kernel
theorem dX3_growAll_18 : decode cX3_growAll 18 = .ok (.putfield 103, 3) := by decide +kernel
theorem dX3_growAll_21 : decode cX3_growAll 21 = .ok (.aload_n 0, 1) := by decide +kernel
theorem dX3_growAll_22 : decode cX3_growAll 22 = .ok (.aload_n 0, 1) := by decide +kernel
theorem dX3_growAll_23 : decode cX3_growAll 23 = .ok (.getfield 34, 3) := by decide +kernel
theorem dX3_growAll_26 : decode cX3_growAll 26 = .ok (.invokevirtual 106, 3) := by decide +kernel
theorem dX3_growAll_29 : decode cX3_growAll 29 = .ok (.iconst 0, 1) := by decide +kernel
theorem dX3_growAll_30 : decode cX3_growAll 30 = .ok (.istore_n 1, 1) := by decide +kernel
theorem dX3_growAll_31 : decode cX3_growAll 31 = .ok (.iload_n 1, 1) := by decide +kernel
theorem dX3_growAll_32 : decode cX3_growAll 32 = .ok (.aload_n 0, 1) := by decide +kernel
theorem dX3_growAll_33 : decode cX3_growAll 33 = .ok (.getfield 26, 3) := by decide +kernel
theorem dX3_growAll_36 : decode cX3_growAll 36 = .ok (.getfield 77, 3) := by decide +kernel
theorem dX3_growAll_39 : decode cX3_growAll 39 = .ok (.if_icmp .ge 71, 3) := by decide +kernel
theorem dX3_growAll_42 : decode cX3_growAll 42 = .ok (.aload_n 0, 1) := by decide +kernel
theorem dX3_growAll_43 : decode cX3_growAll 43 = .ok (.getfield 34, 3) := by decide +kernel
theorem dX3_growAll_46 : decode cX3_growAll 46 = .ok (.getfield 82, 3) := by decide +kernel
theorem dX3_growAll_49 : decode cX3_growAll 49 = .ok (.iload_n 1, 1) := by decide +kernel
theorem dX3_growAll_50 : decode cX3_growAll 50 = .ok (.baload, 1) := by decide +kernel
theorem dX3_growAll_51 : decode cX3_growAll 51 = .ok (.ifCond .ne 53, 3) := by decide +kernel
theorem dX3_growAll_54 : decode cX3_growAll 54 = .ok (.aload_n 0, 1) := by decide +kernel
theorem dX3_growAll_55 : decode cX3_growAll 55 = .ok (.getfield 34, 3) := by decide +kernel
theorem dX3_growAll_58 : decode cX3_growAll 58 = .ok (.invokevirtual 110, 3) := by decide +kernel
theorem dX3_growAll_61 : decode cX3_growAll 61 = .ok (.ifCond .ne 7, 3) := by decide +kernel
theorem dX3_growAll_64 : decode cX3_growAll 64 = .ok (.iconst 0, 1) := by decide +kernel
theorem dX3_growAll_65 : decode cX3_growAll 65 = .ok (.goto 19, 3) := by decide +kernel
theorem dX3_growAll_68 : decode cX3_growAll 68 = .ok (.aload_n 0, 1) := by decide +kernel
theorem dX3_growAll_69 : decode cX3_growAll 69 = .ok (.getfield 34, 3) := by decide +kernel
theorem dX3_growAll_72 : decode cX3_growAll 72 = .ok (.aload_n 0, 1) := by decide +kernel
theorem dX3_growAll_73 : decode cX3_growAll 73 = .ok (.getfield 34, 3) := by decide +kernel
theorem dX3_growAll_76 : decode cX3_growAll 76 = .ok (.getfield 114, 3) := by decide +kernel
theorem dX3_growAll_79 : decode cX3_growAll 79 = .ok (.invokevirtual 117, 3) := by decide +kernel
theorem dX3_growAll_82 : decode cX3_growAll 82 = .ok (.iconst 2, 1) := by decide +kernel
theorem dX3_growAll_83 : decode cX3_growAll 83 = .ok (.iadd, 1) := by decide +kernel
theorem dX3_growAll_84 : decode cX3_growAll 84 = .ok (.istore_n 2, 1) := by decide +kernel
theorem dX3_growAll_85 : decode cX3_growAll 85 = .ok (.aload_n 0, 1) := by decide +kernel
theorem dX3_growAll_86 : decode cX3_growAll 86 = .ok (.getfield 34, 3) := by decide +kernel
theorem dX3_growAll_89 : decode cX3_growAll 89 = .ok (.iload_n 1, 1) := by decide +kernel
theorem dX3_growAll_90 : decode cX3_growAll 90 = .ok (.iload_n 2, 1) := by decide +kernel
theorem dX3_growAll_91 : decode cX3_growAll 91 = .ok (.iconst 0, 1) := by decide +kernel
theorem dX3_growAll_92 : decode cX3_growAll 92 = .ok (.iconst 0, 1) := by decide +kernel
theorem dX3_growAll_93 : decode cX3_growAll 93 = .ok (.invokevirtual 121, 3) := by decide +kernel
theorem dX3_growAll_96 : decode cX3_growAll 96 = .ok (.aload_n 0, 1) := by decide +kernel
theorem dX3_growAll_97 : decode cX3_growAll 97 = .ok (.aload_n 0, 1) := by decide +kernel
theorem dX3_growAll_98 : decode cX3_growAll 98 = .ok (.getfield 34, 3) := by decide +kernel
theorem dX3_growAll_101 : decode cX3_growAll 101 = .ok (.invokevirtual 106, 3) := by decide +kernel
theorem dX3_growAll_104 : decode cX3_growAll 104 = .ok (.iinc 1 1, 3) := by decide +kernel
theorem dX3_growAll_107 : decode cX3_growAll 107 = .ok (.goto (-76), 3) := by decide +kernel
theorem dX3_growAll_110 : decode cX3_growAll 110 = .ok (.return_, 1) := by decide +kernel
theorem dX3_drawPartOf_0 : decode cX3_drawPartOf 0 = .ok (.aload_n 0, 1) := by decide +kernel
theorem dX3_drawPartOf_1 : decode cX3_drawPartOf 1 = .ok (.getfield 43, 3) := by decide +kernel
theorem dX3_drawPartOf_4 : decode cX3_drawPartOf 4 = .ok (.invokevirtual 74, 3) := by decide +kernel
theorem dX3_drawPartOf_7 : decode cX3_drawPartOf 7 = .ok (.aload_n 0, 1) := by decide +kernel
theorem dX3_drawPartOf_8 : decode cX3_drawPartOf 8 = .ok (.getfield 43, 3) := by decide +kernel
theorem dX3_drawPartOf_11 : decode cX3_drawPartOf 11 = .ok (.iload_n 1, 1) := by decide +kernel
theorem dX3_drawPartOf_12 : decode cX3_drawPartOf 12 = .ok (.iconst 0, 1) := by decide +kernel
theorem dX3_drawPartOf_13 : decode cX3_drawPartOf 13 = .ok (.iconst 0, 1) := by decide +kernel
theorem dX3_drawPartOf_14 : decode cX3_drawPartOf 14 = .ok (.iconst 0, 1) := by decide +kernel
theorem dX3_drawPartOf_15 : decode cX3_drawPartOf 15 = .ok (.invokevirtual 121, 3) := by decide +kernel
theorem dX3_drawPartOf_18 : decode cX3_drawPartOf 18 = .ok (.aload_n 0, 1) := by decide +kernel
theorem dX3_drawPartOf_19 : decode cX3_drawPartOf 19 = .ok (.getfield 18, 3) := by decide +kernel
theorem dX3_drawPartOf_22 : decode cX3_drawPartOf 22 = .ok (.iconst 0, 1) := by decide +kernel
theorem dX3_drawPartOf_23 : decode cX3_drawPartOf 23 = .ok (.iload_n 1, 1) := by decide +kernel
theorem dX3_drawPartOf_24 : decode cX3_drawPartOf 24 = .ok (.iastore, 1) := by decide +kernel
theorem dX3_drawPartOf_25 : decode cX3_drawPartOf 25 = .ok (.aload_n 0, 1) := by decide +kernel
theorem dX3_drawPartOf_26 : decode cX3_drawPartOf 26 = .ok (.iconst 1, 1) := by decide +kernel
theorem dX3_drawPartOf_27 : decode cX3_drawPartOf 27 = .ok (.putfield 103, 3) := by decide +kernel
theorem dX3_drawPartOf_30 : decode cX3_drawPartOf 30 = .ok (.aload_n 0, 1) := by decide +kernel
theorem dX3_drawPartOf_31 : decode cX3_drawPartOf 31 = .ok (.aload_n 0, 1) := by decide +kernel
theorem dX3_drawPartOf_32 : decode cX3_drawPartOf 32 = .ok (.getfield 43, 3) := by decide +kernel
theorem dX3_drawPartOf_35 : decode cX3_drawPartOf 35 = .ok (.invokevirtual 106, 3) := by decide +kernel
theorem dX3_drawPartOf_38 : decode cX3_drawPartOf 38 = .ok (.aload_n 0, 1) := by decide +kernel
theorem dX3_drawPartOf_39 : decode cX3_drawPartOf 39 = .ok (.invokevirtual 125, 3) := by decide +kernel
theorem dX3_drawPartOf_42 : decode cX3_drawPartOf 42 = .ok (.aload_n 0, 1) := by decide +kernel
theorem dX3_drawPartOf_43 : decode cX3_drawPartOf 43 = .ok (.getfield 43, 3) := by decide +kernel
theorem dX3_drawPartOf_46 : decode cX3_drawPartOf 46 = .ok (.invokevirtual 74, 3) := by decide +kernel
theorem dX3_drawPartOf_49 : decode cX3_drawPartOf 49 = .ok (.aload_n 0, 1) := by decide +kernel
theorem dX3_drawPartOf_50 : decode cX3_drawPartOf 50 = .ok (.iconst 0, 1) := by decide +kernel
theorem dX3_drawPartOf_51 : decode cX3_drawPartOf 51 = .ok (.putfield 96, 3) := by decide +kernel
theorem dX3_drawPartOf_54 : decode cX3_drawPartOf 54 = .ok (.aload_n 0, 1) := by decide +kernel
theorem dX3_drawPartOf_55 : decode cX3_drawPartOf 55 = .ok (.iconst 0, 1) := by decide +kernel
theorem dX3_drawPartOf_56 : decode cX3_drawPartOf 56 = .ok (.putfield 92, 3) := by decide +kernel
theorem dX3_drawPartOf_59 : decode cX3_drawPartOf 59 = .ok (.aload_n 0, 1) := by decide +kernel
theorem dX3_drawPartOf_60 : decode cX3_drawPartOf 60 = .ok (.ldc 130, 2) := by decide +kernel
theorem dX3_drawPartOf_62 : decode cX3_drawPartOf 62 = .ok (.putfield 131, 3) := by decide +kernel
theorem dX3_drawPartOf_65 : decode cX3_drawPartOf 65 = .ok (.aload_n 0, 1) := by decide +kernel
theorem dX3_drawPartOf_66 : decode cX3_drawPartOf 66 = .ok (.getfield 51, 3) := by decide +kernel
theorem dX3_drawPartOf_69 : decode cX3_drawPartOf 69 = .ok (.invokevirtual 134, 3) := by decide +kernel
theorem dX3_drawPartOf_72 : decode cX3_drawPartOf 72 = .ok (.aload_n 0, 1) := by decide +kernel
theorem dX3_drawPartOf_73 : decode cX3_drawPartOf 73 = .ok (.iconst 0, 1) := by decide +kernel
theorem dX3_drawPartOf_74 : decode cX3_drawPartOf 74 = .ok (.invokevirtual 137, 3) := by decide +kernel
theorem dX3_drawPartOf_77 : decode cX3_drawPartOf 77 = .ok (.return_, 1) := by decide +kernel
theorem dX3_spread_0 : decode cX3_spread 0 = .ok (.iconst 0, 1) := by decide +kernel
theorem dX3_spread_1 : decode cX3_spread 1 = .ok (.istore_n 2, 1) := by decide +kernel
theorem dX3_spread_2 : decode cX3_spread 2 = .ok (.iload_n 2, 1) := by decide +kernel
theorem dX3_spread_3 : decode cX3_spread 3 = .ok (.bipush 24, 2) := by decide +kernel
theorem dX3_spread_5 : decode cX3_spread 5 = .ok (.if_icmp .ge 81, 3) := by decide +kernel
theorem dX3_spread_8 : decode cX3_spread 8 = .ok (.aload_n 0, 1) := by decide +kernel
theorem dX3_spread_9 : decode cX3_spread 9 = .ok (.aload_n 1, 1) := by decide +kernel
theorem dX3_spread_10 : decode cX3_spread 10 = .ok (.invokevirtual 140, 3) := by decide +kernel
theorem dX3_spread_13 : decode cX3_spread 13 = .ok (.istore_n 3, 1) := by decide +kernel
theorem dX3_spread_14 : decode cX3_spread 14 = .ok (.iload_n 3, 1) := by decide +kernel
theorem dX3_spread_15 : decode cX3_spread 15 = .ok (.ifCond .ge 4, 3) := by decide +kernel
theorem dX3_spread_18 : decode cX3_spread 18 = .ok (.return_, 1) := by decide +kernel
theorem dX3_spread_19 : decode cX3_spread 19 = .ok (.aload_n 0, 1) := by decide +kernel
theorem dX3_spread_20 : decode cX3_spread 20 = .ok (.getfield 51, 3) := by decide +kernel
theorem dX3_spread_23 : decode cX3_spread 23 = .ok (.aload_n 1, 1) := by decide +kernel
theorem dX3_spread_24 : decode cX3_spread 24 = .ok (.iload_n 3, 1) := by decide +kernel
theorem dX3_spread_25 : decode cX3_spread 25 = .ok (.invokevirtual 144, 3) := by decide +kernel
theorem dX3_spread_28 : decode cX3_spread 28 = .ok (.aload_n 1, 1) := by decide +kernel
theorem dX3_spread_29 : decode cX3_spread 29 = .ok (.iload_n 3, 1) := by decide +kernel
theorem dX3_spread_30 : decode cX3_spread 30 = .ok (.aload_n 0, 1) := by decide +kernel
theorem dX3_spread_31 : decode cX3_spread 31 = .ok (.getfield 51, 3) := by decide +kernel
theorem dX3_spread_34 : decode cX3_spread 34 = .ok (.getfield 148, 3) := by decide +kernel
theorem dX3_spread_37 : decode cX3_spread 37 = .ok (.aload_n 0, 1) := by decide +kernel
theorem dX3_spread_38 : decode cX3_spread 38 = .ok (.getfield 51, 3) := by decide +kernel
theorem dX3_spread_41 : decode cX3_spread 41 = .ok (.getfield 150, 3) := by decide +kernel
theorem dX3_spread_44 : decode cX3_spread 44 = .ok (.aload_n 0, 1) := by decide +kernel
theorem dX3_spread_45 : decode cX3_spread 45 = .ok (.getfield 51, 3) := by decide +kernel
theorem dX3_spread_48 : decode cX3_spread 48 = .ok (.getfield 153, 3) := by decide +kernel
theorem dX3_spread_51 : decode cX3_spread 51 = .ok (.invokevirtual 121, 3) := by decide +kernel
theorem dX3_spread_54 : decode cX3_spread 54 = .ok (.aload_n 0, 1) := by decide +kernel
theorem dX3_spread_55 : decode cX3_spread 55 = .ok (.getfield 103, 3) := by decide +kernel
theorem dX3_spread_58 : decode cX3_spread 58 = .ok (.bipush 24, 2) := by decide +kernel
theorem dX3_spread_60 : decode cX3_spread 60 = .ok (.if_icmp .ge 20, 3) := by decide +kernel
theorem dX3_spread_63 : decode cX3_spread 63 = .ok (.aload_n 0, 1) := by decide +kernel
theorem dX3_spread_64 : decode cX3_spread 64 = .ok (.getfield 18, 3) := by decide +kernel
theorem dX3_spread_67 : decode cX3_spread 67 = .ok (.aload_n 0, 1) := by decide +kernel
theorem dX3_spread_68 : decode cX3_spread 68 = .ok (.dup, 1) := by decide +kernel
theorem dX3_spread_69 : decode cX3_spread 69 = .ok (.getfield 103, 3) := by decide +kernel
theorem dX3_spread_72 : decode cX3_spread 72 = .ok (.dup_x1, 1) := by decide +kernel
theorem dX3_spread_73 : decode cX3_spread 73 = .ok (.iconst 1, 1) := by decide +kernel
theorem dX3_spread_74 : decode cX3_spread 74 = .ok (.iadd, 1) := by decide +kernel
theorem dX3_spread_75 : decode cX3_spread 75 = .ok (.putfield 103, 3) := by decide +kernel
theorem dX3_spread_78 : decode cX3_spread 78 = .ok (.iload_n 3, 1) := by decide +kernel
theorem dX3_spread_79 : decode cX3_spread 79 = .ok (.iastore, 1) := by decide +kernel
theorem dX3_spread_80 : decode cX3_spread 80 = .ok (.iinc 2 1, 3) := by decide +kernel
theorem dX3_spread_83 : decode cX3_spread 83 = .ok (.goto (-81), 3) := by decide +kernel
theorem dX3_spread_86 : decode cX3_spread 86 = .ok (.return_, 1) := by decide +kernel
theorem dX3_nextRoom_0 : decode cX3_nextRoom 0 = .ok (.iconst 0, 1) := by decide +kernel
theorem dX3_nextRoom_1 : decode cX3_nextRoom 1 = .ok (.istore_n 2, 1) := by decide +kernel
theorem dX3_nextRoom_2 : decode cX3_nextRoom 2 = .ok (.iload_n 2, 1) := by decide +kernel
theorem dX3_nextRoom_3 : decode cX3_nextRoom 3 = .ok (.aload_n 0, 1) := by decide +kernel
theorem dX3_nextRoom_4 : decode cX3_nextRoom 4 = .ok (.getfield 26, 3) := by decide +kernel
theorem dX3_nextRoom_7 : decode cX3_nextRoom 7 = .ok (.getfield 77, 3) := by decide +kernel
theorem dX3_nextRoom_10 : decode cX3_nextRoom 10 = .ok (.if_icmp .ge 32, 3) := by decide +kernel
theorem dX3_nextRoom_13 : decode cX3_nextRoom 13 = .ok (.aload_n 1, 1) := by decide +kernel
theorem dX3_nextRoom_14 : decode cX3_nextRoom 14 = .ok (.getfield 82, 3) := by decide +kernel
theorem dX3_nextRoom_17 : decode cX3_nextRoom 17 = .ok (.iload_n 2, 1) := by decide +kernel
theorem dX3_nextRoom_18 : decode cX3_nextRoom 18 = .ok (.baload, 1) := by decide +kernel
theorem dX3_nextRoom_19 : decode cX3_nextRoom 19 = .ok (.ifCond .ne 17, 3) := by decide +kernel
theorem dX3_nextRoom_22 : decode cX3_nextRoom 22 = .ok (.aload_n 0, 1) := by decide +kernel
theorem dX3_nextRoom_23 : decode cX3_nextRoom 23 = .ok (.getfield 51, 3) := by decide +kernel
theorem dX3_nextRoom_26 : decode cX3_nextRoom 26 = .ok (.aload_n 1, 1) := by decide +kernel
theorem dX3_nextRoom_27 : decode cX3_nextRoom 27 = .ok (.iload_n 2, 1) := by decide +kernel
theorem dX3_nextRoom_28 : decode cX3_nextRoom 28 = .ok (.invokevirtual 156, 3) := by decide +kernel
theorem dX3_nextRoom_31 : decode cX3_nextRoom 31 = .ok (.ifCond .lt 5, 3) := by decide +kernel
theorem dX3_nextRoom_34 : decode cX3_nextRoom 34 = .ok (.iload_n 2, 1) := by decide +kernel
theorem dX3_nextRoom_35 : decode cX3_nextRoom 35 = .ok (.ireturn, 1) := by decide +kernel
theorem dX3_nextRoom_36 : decode cX3_nextRoom 36 = .ok (.iinc 2 1, 3) := by decide +kernel
theorem dX3_nextRoom_39 : decode cX3_nextRoom 39 = .ok (.goto (-37), 3) := by decide +kernel
theorem dX3_nextRoom_42 : decode cX3_nextRoom 42 = .ok (.bipush (-2), 2) := by decide +kernel
theorem dX3_nextRoom_44 : decode cX3_nextRoom 44 = .ok (.ireturn, 1) := by decide +kernel
theorem dX3_tryHere_0 : decode cX3_tryHere 0 = .ok (.aload_n 0, 1) := by decide +kernel
theorem dX3_tryHere_1 : decode cX3_tryHere 1 = .ok (.getfield 96, 3) := by decide +kernel
theorem dX3_tryHere_4 : decode cX3_tryHere 4 = .ok (.aload_n 0, 1) := by decide +kernel
theorem dX3_tryHere_5 : decode cX3_tryHere 5 = .ok (.getfield 68, 3) := by decide +kernel
theorem dX3_tryHere_8 : decode cX3_tryHere 8 = .ok (.if_icmp .lt 9, 3) := by decide +kernel
theorem dX3_tryHere_11 : decode cX3_tryHere 11 = .ok (.aload_n 0, 1) := by decide +kernel
theorem dX3_tryHere_12 : decode cX3_tryHere 12 = .ok (.iconst 1, 1) := by decide +kernel
theorem dX3_tryHere_13 : decode cX3_tryHere 13 = .ok (.putfield 92, 3) := by decide +kernel
theorem dX3_tryHere_16 : decode cX3_tryHere 16 = .ok (.return_, 1) := by decide +kernel
theorem dX3_tryHere_17 : decode cX3_tryHere 17 = .ok (.aload_n 0, 1) := by decide +kernel
theorem dX3_tryHere_18 : decode cX3_tryHere 18 = .ok (.dup, 1) := by decide +kernel
theorem dX3_tryHere_19 : decode cX3_tryHere 19 = .ok (.getfield 96, 3) := by decide +kernel
theorem dX3_tryHere_22 : decode cX3_tryHere 22 = .ok (.iconst 1, 1) := by decide +kernel
theorem dX3_tryHere_23 : decode cX3_tryHere 23 = .ok (.iadd, 1) := by decide +kernel
theorem dX3_tryHere_24 : decode cX3_tryHere 24 = .ok (.putfield 96, 3) := by decide +kernel
theorem dX3_tryHere_27 : decode cX3_tryHere 27 = .ok (.aload_n 0, 1) := by decide +kernel
theorem dX3_tryHere_28 : decode cX3_tryHere 28 = .ok (.getfield 43, 3) := by decide +kernel
theorem dX3_tryHere_31 : decode cX3_tryHere 31 = .ok (.aload_n 0, 1) := by decide +kernel
theorem dX3_tryHere_32 : decode cX3_tryHere 32 = .ok (.getfield 18, 3) := by decide +kernel
theorem dX3_tryHere_35 : decode cX3_tryHere 35 = .ok (.iload_n 1, 1) := by decide +kernel
theorem dX3_tryHere_36 : decode cX3_tryHere 36 = .ok (.iaload, 1) := by decide +kernel
theorem dX3_tryHere_37 : decode cX3_tryHere 37 = .ok (.aload_n 0, 1) := by decide +kernel
theorem dX3_tryHere_38 : decode cX3_tryHere 38 = .ok (.getfield 51, 3) := by decide +kernel
theorem dX3_tryHere_41 : decode cX3_tryHere 41 = .ok (.getfield 148, 3) := by decide +kernel
theorem dX3_tryHere_44 : decode cX3_tryHere 44 = .ok (.aload_n 0, 1) := by decide +kernel
theorem dX3_tryHere_45 : decode cX3_tryHere 45 = .ok (.getfield 51, 3) := by decide +kernel
theorem dX3_tryHere_48 : decode cX3_tryHere 48 = .ok (.getfield 150, 3) := by decide +kernel
theorem dX3_tryHere_51 : decode cX3_tryHere 51 = .ok (.aload_n 0, 1) := by decide +kernel
theorem dX3_tryHere_52 : decode cX3_tryHere 52 = .ok (.getfield 51, 3) := by decide +kernel
theorem dX3_tryHere_55 : decode cX3_tryHere 55 = .ok (.getfield 153, 3) := by decide +kernel
theorem dX3_tryHere_58 : decode cX3_tryHere 58 = .ok (.invokevirtual 121, 3) := by decide +kernel
theorem dX3_tryHere_61 : decode cX3_tryHere 61 = .ok (.iload_n 1, 1) := by decide +kernel
theorem dX3_tryHere_62 : decode cX3_tryHere 62 = .ok (.iconst 1, 1) := by decide +kernel
theorem dX3_tryHere_63 : decode cX3_tryHere 63 = .ok (.iadd, 1) := by decide +kernel
theorem dX3_tryHere_64 : decode cX3_tryHere 64 = .ok (.aload_n 0, 1) := by decide +kernel
theorem dX3_tryHere_65 : decode cX3_tryHere 65 = .ok (.getfield 103, 3) := by decide +kernel
theorem dX3_tryHere_68 : decode cX3_tryHere 68 = .ok (.if_icmp .ge 95, 3) := by decide +kernel
theorem dX3_tryHere_71 : decode cX3_tryHere 71 = .ok (.aload_n 0, 1) := by decide +kernel
theorem dX3_tryHere_72 : decode cX3_tryHere 72 = .ok (.getfield 18, 3) := by decide +kernel
theorem dX3_tryHere_75 : decode cX3_tryHere 75 = .ok (.iload_n 1, 1) := by decide +kernel
theorem dX3_tryHere_76 : decode cX3_tryHere 76 = .ok (.iconst 1, 1) := by decide +kernel
theorem dX3_tryHere_77 : decode cX3_tryHere 77 = .ok (.iadd, 1) := by decide +kernel
theorem dX3_tryHere_78 : decode cX3_tryHere 78 = .ok (.iaload, 1) := by decide +kernel
theorem dX3_tryHere_79 : decode cX3_tryHere 79 = .ok (.istore_n 2, 1) := by decide +kernel
theorem dX3_tryHere_80 : decode cX3_tryHere 80 = .ok (.iconst 0, 1) := by decide +kernel
theorem dX3_tryHere_81 : decode cX3_tryHere 81 = .ok (.istore_n 3, 1) := by decide +kernel
theorem dX3_tryHere_82 : decode cX3_tryHere 82 = .ok (.iconst 0, 1) := by decide +kernel
theorem dX3_tryHere_83 : decode cX3_tryHere 83 = .ok (.istore 4, 2) := by decide +kernel
theorem dX3_tryHere_85 : decode cX3_tryHere 85 = .ok (.iload 4, 2) := by decide +kernel
theorem dX3_tryHere_87 : decode cX3_tryHere 87 = .ok (.aload_n 0, 1) := by decide +kernel
theorem dX3_tryHere_88 : decode cX3_tryHere 88 = .ok (.getfield 51, 3) := by decide +kernel
theorem dX3_tryHere_91 : decode cX3_tryHere 91 = .ok (.iload_n 2, 1) := by decide +kernel
theorem dX3_tryHere_92 : decode cX3_tryHere 92 = .ok (.invokevirtual 160, 3) := by decide +kernel
theorem dX3_tryHere_95 : decode cX3_tryHere 95 = .ok (.if_icmp .ge 42, 3) := by decide +kernel
theorem dX3_tryHere_98 : decode cX3_tryHere 98 = .ok (.aload_n 0, 1) := by decide +kernel
theorem dX3_tryHere_99 : decode cX3_tryHere 99 = .ok (.getfield 92, 3) := by decide +kernel
theorem dX3_tryHere_102 : decode cX3_tryHere 102 = .ok (.ifCond .ne 35, 3) := by decide +kernel
theorem dX3_tryHere_105 : decode cX3_tryHere 105 = .ok (.aload_n 0, 1) := by decide +kernel
theorem dX3_tryHere_106 : decode cX3_tryHere 106 = .ok (.getfield 51, 3) := by decide +kernel
theorem dX3_tryHere_109 : decode cX3_tryHere 109 = .ok (.aload_n 0, 1) := by decide +kernel
theorem dX3_tryHere_110 : decode cX3_tryHere 110 = .ok (.getfield 43, 3) := by decide +kernel
theorem dX3_tryHere_113 : decode cX3_tryHere 113 = .ok (.iload_n 2, 1) := by decide +kernel
theorem dX3_tryHere_114 : decode cX3_tryHere 114 = .ok (.iload 4, 2) := by decide +kernel
theorem dX3_tryHere_116 : decode cX3_tryHere 116 = .ok (.invokevirtual 163, 3) := by decide +kernel
theorem dX3_tryHere_119 : decode cX3_tryHere 119 = .ok (.ifCond .eq 12, 3) := by decide +kernel
theorem dX3_tryHere_122 : decode cX3_tryHere 122 = .ok (.iconst 1, 1) := by decide +kernel
theorem dX3_tryHere_123 : decode cX3_tryHere 123 = .ok (.istore_n 3, 1) := by decide +kernel
theorem dX3_tryHere_124 : decode cX3_tryHere 124 = .ok (.aload_n 0, 1) := by decide +kernel
theorem dX3_tryHere_125 : decode cX3_tryHere 125 = .ok (.iload_n 1, 1) := by decide +kernel
theorem dX3_tryHere_126 : decode cX3_tryHere 126 = .ok (.iconst 1, 1) := by decide +kernel
theorem dX3_tryHere_127 : decode cX3_tryHere 127 = .ok (.iadd, 1) := by decide +kernel
theorem dX3_tryHere_128 : decode cX3_tryHere 128 = .ok (.invokevirtual 137, 3) := by decide +kernel
theorem dX3_tryHere_131 : decode cX3_tryHere 131 = .ok (.iinc 4 1, 3) := by decide +kernel
theorem dX3_tryHere_134 : decode cX3_tryHere 134 = .ok (.goto (-49), 3) := by decide +kernel
theorem dX3_tryHere_137 : decode cX3_tryHere 137 = .ok (.iload_n 3, 1) := by decide +kernel
theorem dX3_tryHere_138 : decode cX3_tryHere 138 = .ok (.ifCond .ne 22, 3) := by decide +kernel
theorem dX3_tryHere_141 : decode cX3_tryHere 141 = .ok (.aload_n 0, 1) := by decide +kernel
theorem dX3_tryHere_142 : decode cX3_tryHere 142 = .ok (.getfield 51, 3) := by decide +kernel
theorem dX3_tryHere_145 : decode cX3_tryHere 145 = .ok (.aload_n 0, 1) := by decide +kernel
theorem dX3_tryHere_146 : decode cX3_tryHere 146 = .ok (.getfield 43, 3) := by decide +kernel
theorem dX3_tryHere_149 : decode cX3_tryHere 149 = .ok (.iload_n 2, 1) := by decide +kernel
theorem dX3_tryHere_150 : decode cX3_tryHere 150 = .ok (.invokevirtual 167, 3) := by decide +kernel
theorem dX3_tryHere_153 : decode cX3_tryHere 153 = .ok (.aload_n 0, 1) := by decide +kernel
theorem dX3_tryHere_154 : decode cX3_tryHere 154 = .ok (.iload_n 1, 1) := by decide +kernel
theorem dX3_tryHere_155 : decode cX3_tryHere 155 = .ok (.iconst 1, 1) := by decide +kernel
theorem dX3_tryHere_156 : decode cX3_tryHere 156 = .ok (.iadd, 1) := by decide +kernel
theorem dX3_tryHere_157 : decode cX3_tryHere 157 = .ok (.invokevirtual 137, 3) := by decide +kernel
theorem dX3_tryHere_160 : decode cX3_tryHere 160 = .ok (.goto 7, 3) := by decide +kernel
theorem dX3_tryHere_163 : decode cX3_tryHere 163 = .ok (.aload_n 0, 1) := by decide +kernel
theorem dX3_tryHere_164 : decode cX3_tryHere 164 = .ok (.invokevirtual 170, 3) := by decide +kernel
theorem dX3_tryHere_167 : decode cX3_tryHere 167 = .ok (.aload_n 0, 1) := by decide +kernel
theorem dX3_tryHere_168 : decode cX3_tryHere 168 = .ok (.getfield 43, 3) := by decide +kernel
theorem dX3_tryHere_171 : decode cX3_tryHere 171 = .ok (.aload_n 0, 1) := by decide +kernel
theorem dX3_tryHere_172 : decode cX3_tryHere 172 = .ok (.getfield 18, 3) := by decide +kernel
theorem dX3_tryHere_175 : decode cX3_tryHere 175 = .ok (.iload_n 1, 1) := by decide +kernel
theorem dX3_tryHere_176 : decode cX3_tryHere 176 = .ok (.iaload, 1) := by decide +kernel
theorem dX3_tryHere_177 : decode cX3_tryHere 177 = .ok (.invokevirtual 173, 3) := by decide +kernel
theorem dX3_tryHere_180 : decode cX3_tryHere 180 = .ok (.return_, 1) := by decide +kernel
theorem dX3_weighTrial_0 : decode cX3_weighTrial 0 = .ok (.aload_n 0, 1) := by decide +kernel
theorem dX3_weighTrial_1 : decode cX3_weighTrial 1 = .ok (.getfield 43, 3) := by decide +kernel
theorem dX3_weighTrial_4 : decode cX3_weighTrial 4 = .ok (.aload_n 0, 1) := by decide +kernel
theorem dX3_weighTrial_5 : decode cX3_weighTrial 5 = .ok (.getfield 131, 3) := by decide +kernel
theorem dX3_weighTrial_8 : decode cX3_weighTrial 8 = .ok (.invokevirtual 176, 3) := by decide +kernel
theorem dX3_weighTrial_11 : decode cX3_weighTrial 11 = .ok (.istore_n 1, 1) := by decide +kernel
theorem dX3_weighTrial_12 : decode cX3_weighTrial 12 = .ok (.iload_n 1, 1) := by decide +kernel
theorem dX3_weighTrial_13 : decode cX3_weighTrial 13 = .ok (.aload_n 0, 1) := by decide +kernel
theorem dX3_weighTrial_14 : decode cX3_weighTrial 14 = .ok (.getfield 131, 3) := by decide +kernel
theorem dX3_weighTrial_17 : decode cX3_weighTrial 17 = .ok (.if_icmp .ge 12, 3) := by decide +kernel
theorem dX3_weighTrial_20 : decode cX3_weighTrial 20 = .ok (.aload_n 0, 1) := by decide +kernel
theorem dX3_weighTrial_21 : decode cX3_weighTrial 21 = .ok (.iload_n 1, 1) := by decide +kernel
theorem dX3_weighTrial_22 : decode cX3_weighTrial 22 = .ok (.putfield 131, 3) := by decide +kernel
theorem dX3_weighTrial_25 : decode cX3_weighTrial 25 = .ok (.aload_n 0, 1) := by decide +kernel
theorem dX3_weighTrial_26 : decode cX3_weighTrial 26 = .ok (.invokevirtual 125, 3) := by decide +kernel
theorem dX3_weighTrial_29 : decode cX3_weighTrial 29 = .ok (.return_, 1) := by decide +kernel
theorem dX3_keepTrial_0 : decode cX3_keepTrial 0 = .ok (.iconst 0, 1) := by decide +kernel
theorem dX3_keepTrial_1 : decode cX3_keepTrial 1 = .ok (.istore_n 1, 1) := by decide +kernel
theorem dX3_keepTrial_2 : decode cX3_keepTrial 2 = .ok (.iload_n 1, 1) := by decide +kernel
theorem dX3_keepTrial_3 : decode cX3_keepTrial 3 = .ok (.aload_n 0, 1) := by decide +kernel
theorem dX3_keepTrial_4 : decode cX3_keepTrial 4 = .ok (.getfield 103, 3) := by decide +kernel
theorem dX3_keepTrial_7 : decode cX3_keepTrial 7 = .ok (.if_icmp .ge 51, 3) := by decide +kernel
theorem dX3_keepTrial_10 : decode cX3_keepTrial 10 = .ok (.aload_n 0, 1) := by decide +kernel
theorem dX3_keepTrial_11 : decode cX3_keepTrial 11 = .ok (.getfield 18, 3) := by decide +kernel
theorem dX3_keepTrial_14 : decode cX3_keepTrial 14 = .ok (.iload_n 1, 1) := by decide +kernel
theorem dX3_keepTrial_15 : decode cX3_keepTrial 15 = .ok (.iaload, 1) := by decide +kernel
theorem dX3_keepTrial_16 : decode cX3_keepTrial 16 = .ok (.istore_n 2, 1) := by decide +kernel
theorem dX3_keepTrial_17 : decode cX3_keepTrial 17 = .ok (.aload_n 0, 1) := by decide +kernel
theorem dX3_keepTrial_18 : decode cX3_keepTrial 18 = .ok (.getfield 34, 3) := by decide +kernel
theorem dX3_keepTrial_21 : decode cX3_keepTrial 21 = .ok (.iload_n 2, 1) := by decide +kernel
theorem dX3_keepTrial_22 : decode cX3_keepTrial 22 = .ok (.aload_n 0, 1) := by decide +kernel
theorem dX3_keepTrial_23 : decode cX3_keepTrial 23 = .ok (.getfield 43, 3) := by decide +kernel
theorem dX3_keepTrial_26 : decode cX3_keepTrial 26 = .ok (.getfield 114, 3) := by decide +kernel
theorem dX3_keepTrial_29 : decode cX3_keepTrial 29 = .ok (.iload_n 2, 1) := by decide +kernel
theorem dX3_keepTrial_30 : decode cX3_keepTrial 30 = .ok (.iaload, 1) := by decide +kernel
theorem dX3_keepTrial_31 : decode cX3_keepTrial 31 = .ok (.aload_n 0, 1) := by decide +kernel
theorem dX3_keepTrial_32 : decode cX3_keepTrial 32 = .ok (.getfield 43, 3) := by decide +kernel
theorem dX3_keepTrial_35 : decode cX3_keepTrial 35 = .ok (.getfield 179, 3) := by decide +kernel
theorem dX3_keepTrial_38 : decode cX3_keepTrial 38 = .ok (.iload_n 2, 1) := by decide +kernel
theorem dX3_keepTrial_39 : decode cX3_keepTrial 39 = .ok (.iaload, 1) := by decide +kernel
theorem dX3_keepTrial_40 : decode cX3_keepTrial 40 = .ok (.aload_n 0, 1) := by decide +kernel
theorem dX3_keepTrial_41 : decode cX3_keepTrial 41 = .ok (.getfield 43, 3) := by decide +kernel
theorem dX3_keepTrial_44 : decode cX3_keepTrial 44 = .ok (.getfield 181, 3) := by decide +kernel
theorem dX3_keepTrial_47 : decode cX3_keepTrial 47 = .ok (.iload_n 2, 1) := by decide +kernel
theorem dX3_keepTrial_48 : decode cX3_keepTrial 48 = .ok (.iaload, 1) := by decide +kernel
theorem dX3_keepTrial_49 : decode cX3_keepTrial 49 = .ok (.invokevirtual 121, 3) := by decide +kernel
theorem dX3_keepTrial_52 : decode cX3_keepTrial 52 = .ok (.iinc 1 1, 3) := by decide +kernel
theorem dX3_keepTrial_55 : decode cX3_keepTrial 55 = .ok (.goto (-53), 3) := by decide +kernel
theorem dX3_keepTrial_58 : decode cX3_keepTrial 58 = .ok (.return_, 1) := by decide +kernel
theorem dX3_moveBehind_0 : decode cX3_moveBehind 0 = .ok (.aload_n 0, 1) := by decide +kernel
theorem dX3_moveBehind_1 : decode cX3_moveBehind 1 = .ok (.getfield 34, 3) := by decide +kernel
theorem dX3_moveBehind_4 : decode cX3_moveBehind 4 = .ok (.getfield 114, 3) := by decide +kernel
theorem dX3_moveBehind_7 : decode cX3_moveBehind 7 = .ok (.aload_n 0, 1) := by decide +kernel
theorem dX3_moveBehind_8 : decode cX3_moveBehind 8 = .ok (.getfield 18, 3) := by decide +kernel
theorem dX3_moveBehind_11 : decode cX3_moveBehind 11 = .ok (.iconst 0, 1) := by decide +kernel
theorem dX3_moveBehind_12 : decode cX3_moveBehind 12 = .ok (.iaload, 1) := by decide +kernel
theorem dX3_moveBehind_13 : decode cX3_moveBehind 13 = .ok (.iaload, 1) := by decide +kernel
theorem dX3_moveBehind_14 : decode cX3_moveBehind 14 = .ok (.istore_n 2, 1) := by decide +kernel
theorem dX3_moveBehind_15 : decode cX3_moveBehind 15 = .ok (.aload_n 0, 1) := by decide +kernel
theorem dX3_moveBehind_16 : decode cX3_moveBehind 16 = .ok (.getfield 34, 3) := by decide +kernel
theorem dX3_moveBehind_19 : decode cX3_moveBehind 19 = .ok (.getfield 179, 3) := by decide +kernel
theorem dX3_moveBehind_22 : decode cX3_moveBehind 22 = .ok (.aload_n 0, 1) := by decide +kernel
theorem dX3_moveBehind_23 : decode cX3_moveBehind 23 = .ok (.getfield 18, 3) := by decide +kernel
theorem dX3_moveBehind_26 : decode cX3_moveBehind 26 = .ok (.iconst 0, 1) := by decide +kernel
theorem dX3_moveBehind_27 : decode cX3_moveBehind 27 = .ok (.iaload, 1) := by decide +kernel
theorem dX3_moveBehind_28 : decode cX3_moveBehind 28 = .ok (.iaload, 1) := by decide +kernel
theorem dX3_moveBehind_29 : decode cX3_moveBehind 29 = .ok (.istore_n 3, 1) := by decide +kernel
theorem dX3_moveBehind_30 : decode cX3_moveBehind 30 = .ok (.iload_n 2, 1) := by decide +kernel
theorem dX3_moveBehind_31 : decode cX3_moveBehind 31 = .ok (.istore 4, 2) := by decide +kernel
theorem dX3_moveBehind_33 : decode cX3_moveBehind 33 = .ok (.iconst 1, 1) := by decide +kernel
theorem dX3_moveBehind_34 : decode cX3_moveBehind 34 = .ok (.istore 5, 2) := by decide +kernel
theorem dX3_moveBehind_36 : decode cX3_moveBehind 36 = .ok (.iload 5, 2) := by decide +kernel
theorem dX3_moveBehind_38 : decode cX3_moveBehind 38 = .ok (.aload_n 0, 1) := by decide +kernel
theorem dX3_moveBehind_39 : decode cX3_moveBehind 39 = .ok (.getfield 103, 3) := by decide +kernel
theorem dX3_moveBehind_42 : decode cX3_moveBehind 42 = .ok (.if_icmp .ge 71, 3) := by decide +kernel
theorem dX3_moveBehind_45 : decode cX3_moveBehind 45 = .ok (.iload_n 2, 1) := by decide +kernel
theorem dX3_moveBehind_46 : decode cX3_moveBehind 46 = .ok (.aload_n 0, 1) := by decide +kernel
theorem dX3_moveBehind_47 : decode cX3_moveBehind 47 = .ok (.getfield 34, 3) := by decide +kernel
theorem dX3_moveBehind_50 : decode cX3_moveBehind 50 = .ok (.getfield 114, 3) := by decide +kernel
theorem dX3_moveBehind_53 : decode cX3_moveBehind 53 = .ok (.aload_n 0, 1) := by decide +kernel
theorem dX3_moveBehind_54 : decode cX3_moveBehind 54 = .ok (.getfield 18, 3) := by decide +kernel
theorem dX3_moveBehind_57 : decode cX3_moveBehind 57 = .ok (.iload 5, 2) := by decide +kernel
theorem dX3_moveBehind_59 : decode cX3_moveBehind 59 = .ok (.iaload, 1) := by decide +kernel
theorem dX3_moveBehind_60 : decode cX3_moveBehind 60 = .ok (.iaload, 1) := by decide +kernel
theorem dX3_moveBehind_61 : decode cX3_moveBehind 61 = .ok (.invokestatic 183, 3) := by decide +kernel
theorem dX3_moveBehind_64 : decode cX3_moveBehind 64 = .ok (.istore_n 2, 1) := by decide +kernel
theorem dX3_moveBehind_65 : decode cX3_moveBehind 65 = .ok (.iload 4, 2) := by decide +kernel
theorem dX3_moveBehind_67 : decode cX3_moveBehind 67 = .ok (.aload_n 0, 1) := by decide +kernel
theorem dX3_moveBehind_68 : decode cX3_moveBehind 68 = .ok (.getfield 34, 3) := by decide +kernel
theorem dX3_moveBehind_71 : decode cX3_moveBehind 71 = .ok (.getfield 114, 3) := by decide +kernel
theorem dX3_moveBehind_74 : decode cX3_moveBehind 74 = .ok (.aload_n 0, 1) := by decide +kernel
theorem dX3_moveBehind_75 : decode cX3_moveBehind 75 = .ok (.getfield 18, 3) := by decide +kernel
theorem dX3_moveBehind_78 : decode cX3_moveBehind 78 = .ok (.iload 5, 2) := by decide +kernel
theorem dX3_moveBehind_80 : decode cX3_moveBehind 80 = .ok (.iaload, 1) := by decide +kernel
theorem dX3_moveBehind_81 : decode cX3_moveBehind 81 = .ok (.iaload, 1) := by decide +kernel
theorem dX3_moveBehind_82 : decode cX3_moveBehind 82 = .ok (.invokestatic 189, 3) := by decide +kernel
theorem dX3_moveBehind_85 : decode cX3_moveBehind 85 = .ok (.istore 4, 2) := by decide +kernel
theorem dX3_moveBehind_87 : decode cX3_moveBehind 87 = .ok (.iload_n 3, 1) := by decide +kernel
theorem dX3_moveBehind_88 : decode cX3_moveBehind 88 = .ok (.aload_n 0, 1) := by decide +kernel
theorem dX3_moveBehind_89 : decode cX3_moveBehind 89 = .ok (.getfield 34, 3) := by decide +kernel
theorem dX3_moveBehind_92 : decode cX3_moveBehind 92 = .ok (.getfield 179, 3) := by decide +kernel
theorem dX3_moveBehind_95 : decode cX3_moveBehind 95 = .ok (.aload_n 0, 1) := by decide +kernel
theorem dX3_moveBehind_96 : decode cX3_moveBehind 96 = .ok (.getfield 18, 3) := by decide +kernel
theorem dX3_moveBehind_99 : decode cX3_moveBehind 99 = .ok (.iload 5, 2) := by decide +kernel
theorem dX3_moveBehind_101 : decode cX3_moveBehind 101 = .ok (.iaload, 1) := by decide +kernel
theorem dX3_moveBehind_102 : decode cX3_moveBehind 102 = .ok (.iaload, 1) := by decide +kernel
theorem dX3_moveBehind_103 : decode cX3_moveBehind 103 = .ok (.invokestatic 183, 3) := by decide +kernel
theorem dX3_moveBehind_106 : decode cX3_moveBehind 106 = .ok (.istore_n 3, 1) := by decide +kernel
theorem dX3_moveBehind_107 : decode cX3_moveBehind 107 = .ok (.iinc 5 1, 3) := by decide +kernel
theorem dX3_moveBehind_110 : decode cX3_moveBehind 110 = .ok (.goto (-74), 3) := by decide +kernel
theorem dX3_moveBehind_113 : decode cX3_moveBehind 113 = .ok (.iconst 0, 1) := by decide +kernel
theorem dX3_moveBehind_114 : decode cX3_moveBehind 114 = .ok (.istore 5, 2) := by decide +kernel
theorem dX3_moveBehind_116 : decode cX3_moveBehind 116 = .ok (.iload 5, 2) := by decide +kernel
theorem dX3_moveBehind_118 : decode cX3_moveBehind 118 = .ok (.aload_n 0, 1) := by decide +kernel
theorem dX3_moveBehind_119 : decode cX3_moveBehind 119 = .ok (.getfield 103, 3) := by decide +kernel
theorem dX3_moveBehind_122 : decode cX3_moveBehind 122 = .ok (.if_icmp .ge 49, 3) := by decide +kernel
theorem dX3_moveBehind_125 : decode cX3_moveBehind 125 = .ok (.aload_n 0, 1) := by decide +kernel
theorem dX3_moveBehind_126 : decode cX3_moveBehind 126 = .ok (.getfield 34, 3) := by decide +kernel
theorem dX3_moveBehind_129 : decode cX3_moveBehind 129 = .ok (.getfield 114, 3) := by decide +kernel
theorem dX3_moveBehind_132 : decode cX3_moveBehind 132 = .ok (.aload_n 0, 1) := by decide +kernel
theorem dX3_moveBehind_133 : decode cX3_moveBehind 133 = .ok (.getfield 18, 3) := by decide +kernel
theorem dX3_moveBehind_136 : decode cX3_moveBehind 136 = .ok (.iload 5, 2) := by decide +kernel
theorem dX3_moveBehind_138 : decode cX3_moveBehind 138 = .ok (.iaload, 1) := by decide +kernel
theorem dX3_moveBehind_139 : decode cX3_moveBehind 139 = .ok (.dup2, 1) := by decide +kernel
theorem dX3_moveBehind_140 : decode cX3_moveBehind 140 = .ok (.iaload, 1) := by decide +kernel
theorem dX3_moveBehind_141 : decode cX3_moveBehind 141 = .ok (.iload_n 1, 1) := by decide +kernel
theorem dX3_moveBehind_142 : decode cX3_moveBehind 142 = .ok (.iload_n 2, 1) := by decide +kernel
theorem dX3_moveBehind_143 : decode cX3_moveBehind 143 = .ok (.isub, 1) := by decide +kernel
theorem dX3_moveBehind_144 : decode cX3_moveBehind 144 = .ok (.iadd, 1) := by decide +kernel
theorem dX3_moveBehind_145 : decode cX3_moveBehind 145 = .ok (.iastore, 1) := by decide +kernel
theorem dX3_moveBehind_146 : decode cX3_moveBehind 146 = .ok (.aload_n 0, 1) := by decide +kernel
theorem dX3_moveBehind_147 : decode cX3_moveBehind 147 = .ok (.getfield 34, 3) := by decide +kernel
theorem dX3_moveBehind_150 : decode cX3_moveBehind 150 = .ok (.getfield 179, 3) := by decide +kernel
theorem dX3_moveBehind_153 : decode cX3_moveBehind 153 = .ok (.aload_n 0, 1) := by decide +kernel
theorem dX3_moveBehind_154 : decode cX3_moveBehind 154 = .ok (.getfield 18, 3) := by decide +kernel
theorem dX3_moveBehind_157 : decode cX3_moveBehind 157 = .ok (.iload 5, 2) := by decide +kernel
theorem dX3_moveBehind_159 : decode cX3_moveBehind 159 = .ok (.iaload, 1) := by decide +kernel
theorem dX3_moveBehind_160 : decode cX3_moveBehind 160 = .ok (.dup2, 1) := by decide +kernel
theorem dX3_moveBehind_161 : decode cX3_moveBehind 161 = .ok (.iaload, 1) := by decide +kernel
theorem dX3_moveBehind_162 : decode cX3_moveBehind 162 = .ok (.iload_n 3, 1) := by decide +kernel
theorem dX3_moveBehind_163 : decode cX3_moveBehind 163 = .ok (.isub, 1) := by decide +kernel
theorem dX3_moveBehind_164 : decode cX3_moveBehind 164 = .ok (.iastore, 1) := by decide +kernel
theorem dX3_moveBehind_165 : decode cX3_moveBehind 165 = .ok (.iinc 5 1, 3) := by decide +kernel
theorem dX3_moveBehind_168 : decode cX3_moveBehind 168 = .ok (.goto (-52), 3) := by decide +kernel
theorem dX3_moveBehind_171 : decode cX3_moveBehind 171 = .ok (.iload 4, 2) := by decide +kernel
theorem dX3_moveBehind_173 : decode cX3_moveBehind 173 = .ok (.iload_n 1, 1) := by decide +kernel
theorem dX3_moveBehind_174 : decode cX3_moveBehind 174 = .ok (.iadd, 1) := by decide +kernel
theorem dX3_moveBehind_175 : decode cX3_moveBehind 175 = .ok (.iload_n 2, 1) := by decide +kernel
theorem dX3_moveBehind_176 : decode cX3_moveBehind 176 = .ok (.isub, 1) := by decide +kernel
theorem dX3_moveBehind_177 : decode cX3_moveBehind 177 = .ok (.ireturn, 1) := by decide +kernel
theorem dX8_init_0 : decode cX8_init 0 = .ok (.aload_n 0, 1) := by decide +kernel
theorem dX8_init_1 : decode cX8_init 1 = .ok (.invokespecial 1, 3) := by decide +kernel
theorem dX8_init_4 : decode cX8_init 4 = .ok (.aload_n 0, 1) := by decide +kernel
theorem dX8_init_5 : decode cX8_init 5 = .ok (.new 7, 3) := by decide +kernel
theorem dX8_init_8 : decode cX8_init 8 = .ok (.dup, 1) := by decide +kernel
theorem dX8_init_9 : decode cX8_init 9 = .ok (.invokespecial 9, 3) := by decide +kernel
theorem dX8_init_12 : decode cX8_init 12 = .ok (.putfield 10, 3) := by decide +kernel
theorem dX8_init_15 : decode cX8_init 15 = .ok (.aload_n 0, 1) := by decide +kernel
theorem dX8_init_16 : decode cX8_init 16 = .ok (.new 16, 3) := by decide +kernel
theorem dX8_init_19 : decode cX8_init 19 = .ok (.dup, 1) := by decide +kernel
theorem dX8_init_20 : decode cX8_init 20 = .ok (.invokespecial 18, 3) := by decide +kernel
theorem dX8_init_23 : decode cX8_init 23 = .ok (.putfield 19, 3) := by decide +kernel
theorem dX8_init_26 : decode cX8_init 26 = .ok (.aload_n 0, 1) := by decide +kernel
theorem dX8_init_27 : decode cX8_init 27 = .ok (.new 23, 3) := by decide +kernel
theorem dX8_init_30 : decode cX8_init 30 = .ok (.dup, 1) := by decide +kernel
theorem dX8_init_31 : decode cX8_init 31 = .ok (.aload_n 0, 1) := by decide +kernel
theorem dX8_init_32 : decode cX8_init 32 = .ok (.getfield 10, 3) := by decide +kernel
theorem dX8_init_35 : decode cX8_init 35 = .ok (.invokespecial 25, 3) := by decide +kernel
theorem dX8_init_38 : decode cX8_init 38 = .ok (.putfield 28, 3) := by decide +kernel
theorem dX8_init_41 : decode cX8_init 41 = .ok (.aload_n 0, 1) := by decide +kernel
theorem dX8_init_42 : decode cX8_init 42 = .ok (.new 32, 3) := by decide +kernel
theorem dX8_init_45 : decode cX8_init 45 = .ok (.dup, 1) := by decide +kernel
theorem dX8_init_46 : decode cX8_init 46 = .ok (.aload_n 0, 1) := by decide +kernel
theorem dX8_init_47 : decode cX8_init 47 = .ok (.getfield 10, 3) := by decide +kernel
theorem dX8_init_50 : decode cX8_init 50 = .ok (.aload_n 0, 1) := by decide +kernel
theorem dX8_init_51 : decode cX8_init 51 = .ok (.getfield 19, 3) := by decide +kernel
theorem dX8_init_54 : decode cX8_init 54 = .ok (.aload_n 0, 1) := by decide +kernel
theorem dX8_init_55 : decode cX8_init 55 = .ok (.getfield 28, 3) := by decide +kernel
theorem dX8_init_58 : decode cX8_init 58 = .ok (.invokespecial 34, 3) := by decide +kernel
theorem dX8_init_61 : decode cX8_init 61 = .ok (.putfield 37, 3) := by decide +kernel
theorem dX8_init_64 : decode cX8_init 64 = .ok (.aload_n 0, 1) := by decide +kernel
theorem dX8_init_65 : decode cX8_init 65 = .ok (.new 41, 3) := by decide +kernel
theorem dX8_init_68 : decode cX8_init 68 = .ok (.dup, 1) := by decide +kernel
theorem dX8_init_69 : decode cX8_init 69 = .ok (.aload_n 0, 1) := by decide +kernel
theorem dX8_init_70 : decode cX8_init 70 = .ok (.getfield 10, 3) := by decide +kernel
theorem dX8_init_73 : decode cX8_init 73 = .ok (.invokespecial 43, 3) := by decide +kernel
theorem dX8_init_76 : decode cX8_init 76 = .ok (.putfield 44, 3) := by decide +kernel
theorem dX8_init_79 : decode cX8_init 79 = .ok (.aload_n 0, 1) := by decide +kernel
theorem dX8_init_80 : decode cX8_init 80 = .ok (.new 48, 3) := by decide +kernel
theorem dX8_init_83 : decode cX8_init 83 = .ok (.dup, 1) := by decide +kernel
theorem dX8_init_84 : decode cX8_init 84 = .ok (.aload_n 0, 1) := by decide +kernel
theorem dX8_init_85 : decode cX8_init 85 = .ok (.getfield 10, 3) := by decide +kernel
theorem dX8_init_88 : decode cX8_init 88 = .ok (.aload_n 0, 1) := by decide +kernel
theorem dX8_init_89 : decode cX8_init 89 = .ok (.getfield 28, 3) := by decide +kernel
theorem dX8_init_92 : decode cX8_init 92 = .ok (.invokespecial 50, 3) := by decide +kernel
theorem dX8_init_95 : decode cX8_init 95 = .ok (.putfield 53, 3) := by decide +kernel
theorem dX8_init_98 : decode cX8_init 98 = .ok (.return_, 1) := by decide +kernel
theorem dX8_room_0 : decode cX8_room 0 = .ok (.iload_n 1, 1) := by decide +kernel
theorem dX8_room_1 : decode cX8_room 1 = .ok (.iconst 1, 1) := by decide +kernel
theorem dX8_room_2 : decode cX8_room 2 = .ok (.if_icmp .lt 15, 3) := by decide +kernel
theorem dX8_room_5 : decode cX8_room 5 = .ok (.iload_n 1, 1) := by decide +kernel
theorem dX8_room_6 : decode cX8_room 6 = .ok (.iconst 5, 1) := by decide +kernel
theorem dX8_room_7 : decode cX8_room 7 = .ok (.if_icmp .gt 10, 3) := by decide +kernel
theorem dX8_room_10 : decode cX8_room 10 = .ok (.iload_n 2, 1) := by decide +kernel
theorem dX8_room_11 : decode cX8_room 11 = .ok (.invokestatic 57, 3) := by decide +kernel
theorem dX8_room_14 : decode cX8_room 14 = .ok (.ifCond .ne 5, 3) := by decide +kernel
theorem dX8_room_17 : decode cX8_room 17 = .ok (.iconst (-1), 1) := by decide +kernel
theorem dX8_room_18 : decode cX8_room 18 = .ok (.ireturn, 1) := by decide +kernel
theorem dX8_room_19 : decode cX8_room 19 = .ok (.aload_n 0, 1) := by decide +kernel
theorem dX8_room_20 : decode cX8_room 20 = .ok (.getfield 10, 3) := by decide +kernel
theorem dX8_room_23 : decode cX8_room 23 = .ok (.invokevirtual 61, 3) := by decide +kernel
theorem dX8_room_26 : decode cX8_room 26 = .ok (.ifCond .eq 8, 3) := by decide +kernel
theorem dX8_room_29 : decode cX8_room 29 = .ok (.bipush (-4), 2) := by decide +kernel
theorem dX8_room_31 : decode cX8_room 31 = .ok (.goto 12, 3) := by decide +kernel
theorem dX8_room_34 : decode cX8_room 34 = .ok (.aload_n 0, 1) := by decide +kernel
theorem dX8_room_35 : decode cX8_room 35 = .ok (.getfield 10, 3) := by decide +kernel
theorem dX8_room_38 : decode cX8_room 38 = .ok (.iload_n 1, 1) := by decide +kernel
theorem dX8_room_39 : decode cX8_room 39 = .ok (.iload_n 2, 1) := by decide +kernel
theorem dX8_room_40 : decode cX8_room 40 = .ok (.invokevirtual 65, 3) := by decide +kernel
theorem dX8_room_43 : decode cX8_room 43 = .ok (.ireturn, 1) := by decide +kernel
theorem dX8_exit_0 : decode cX8_exit 0 = .ok (.aload_n 0, 1) := by decide +kernel
theorem dX8_exit_1 : decode cX8_exit 1 = .ok (.getfield 10, 3) := by decide +kernel
theorem dX8_exit_4 : decode cX8_exit 4 = .ok (.iload_n 1, 1) := by decide +kernel
theorem dX8_exit_5 : decode cX8_exit 5 = .ok (.invokevirtual 69, 3) := by decide +kernel
theorem dX8_exit_8 : decode cX8_exit 8 = .ok (.ifCond .eq 21, 3) := by decide +kernel
theorem dX8_exit_11 : decode cX8_exit 11 = .ok (.iload_n 2, 1) := by decide +kernel
theorem dX8_exit_12 : decode cX8_exit 12 = .ok (.invokestatic 72, 3) := by decide +kernel
theorem dX8_exit_15 : decode cX8_exit 15 = .ok (.ifCond .eq 14, 3) := by decide +kernel
theorem dX8_exit_18 : decode cX8_exit 18 = .ok (.aload_n 0, 1) := by decide +kernel
theorem dX8_exit_19 : decode cX8_exit 19 = .ok (.getfield 10, 3) := by decide +kernel
theorem dX8_exit_22 : decode cX8_exit 22 = .ok (.iload_n 3, 1) := by decide +kernel
theorem dX8_exit_23 : decode cX8_exit 23 = .ok (.invokevirtual 69, 3) := by decide +kernel
theorem dX8_exit_26 : decode cX8_exit 26 = .ok (.ifCond .ne 5, 3) := by decide +kernel
theorem dX8_exit_29 : decode cX8_exit 29 = .ok (.iconst (-1), 1) := by decide +kernel
theorem dX8_exit_30 : decode cX8_exit 30 = .ok (.ireturn, 1) := by decide +kernel
theorem dX8_exit_31 : decode cX8_exit 31 = .ok (.aload_n 0, 1) := by decide +kernel
theorem dX8_exit_32 : decode cX8_exit 32 = .ok (.getfield 10, 3) := by decide +kernel
theorem dX8_exit_35 : decode cX8_exit 35 = .ok (.iload_n 1, 1) := by decide +kernel
theorem dX8_exit_36 : decode cX8_exit 36 = .ok (.iload_n 2, 1) := by decide +kernel
theorem dX8_exit_37 : decode cX8_exit 37 = .ok (.invokevirtual 75, 3) := by decide +kernel
theorem dX8_exit_40 : decode cX8_exit 40 = .ok (.ifCond .ge 24, 3) := by decide +kernel
theorem dX8_exit_43 : decode cX8_exit 43 = .ok (.iload 4, 2) := by decide +kernel
theorem dX8_exit_45 : decode cX8_exit 45 = .ok (.ifCond .eq 23, 3) := by decide +kernel
theorem dX8_exit_48 : decode cX8_exit 48 = .ok (.aload_n 0, 1) := by decide +kernel
theorem dX8_exit_49 : decode cX8_exit 49 = .ok (.getfield 10, 3) := by decide +kernel
theorem dX8_exit_52 : decode cX8_exit 52 = .ok (.iload_n 3, 1) := by decide +kernel
theorem dX8_exit_53 : decode cX8_exit 53 = .ok (.getstatic 78, 3) := by decide +kernel
theorem dX8_exit_56 : decode cX8_exit 56 = .ok (.iload_n 2, 1) := by decide +kernel
theorem dX8_exit_57 : decode cX8_exit 57 = .ok (.iaload, 1) := by decide +kernel
theorem dX8_exit_58 : decode cX8_exit 58 = .ok (.invokevirtual 75, 3) := by decide +kernel
theorem dX8_exit_61 : decode cX8_exit 61 = .ok (.ifCond .lt 7, 3) := by decide +kernel
theorem dX8_exit_64 : decode cX8_exit 64 = .ok (.iconst 1, 1) := by decide +kernel
theorem dX8_exit_65 : decode cX8_exit 65 = .ok (.goto 4, 3) := by decide +kernel
theorem dX8_exit_68 : decode cX8_exit 68 = .ok (.iconst 0, 1) := by decide +kernel
theorem dX8_exit_69 : decode cX8_exit 69 = .ok (.istore 5, 2) := by decide +kernel
theorem dX8_exit_71 : decode cX8_exit 71 = .ok (.iload 5, 2) := by decide +kernel
theorem dX8_exit_73 : decode cX8_exit 73 = .ok (.ifCond .eq 6, 3) := by decide +kernel
theorem dX8_exit_76 : decode cX8_exit 76 = .ok (.bipush (-3), 2) := by decide +kernel
theorem dX8_exit_78 : decode cX8_exit 78 = .ok (.ireturn, 1) := by decide +kernel
theorem dX8_exit_79 : decode cX8_exit 79 = .ok (.aload_n 0, 1) := by decide +kernel
theorem dX8_exit_80 : decode cX8_exit 80 = .ok (.getfield 10, 3) := by decide +kernel
theorem dX8_exit_83 : decode cX8_exit 83 = .ok (.invokevirtual 82, 3) := by decide +kernel
theorem dX8_exit_86 : decode cX8_exit 86 = .ok (.ifCond .eq 8, 3) := by decide +kernel
theorem dX8_exit_89 : decode cX8_exit 89 = .ok (.bipush (-4), 2) := by decide +kernel
theorem dX8_exit_91 : decode cX8_exit 91 = .ok (.goto 15, 3) := by decide +kernel
theorem dX8_exit_94 : decode cX8_exit 94 = .ok (.aload_n 0, 1) := by decide +kernel
theorem dX8_exit_95 : decode cX8_exit 95 = .ok (.getfield 10, 3) := by decide +kernel
theorem dX8_exit_98 : decode cX8_exit 98 = .ok (.iload_n 1, 1) := by decide +kernel
theorem dX8_exit_99 : decode cX8_exit 99 = .ok (.iload_n 2, 1) := by decide +kernel
theorem dX8_exit_100 : decode cX8_exit 100 = .ok (.iload_n 3, 1) := by decide +kernel
theorem dX8_exit_101 : decode cX8_exit 101 = .ok (.iload 4, 2) := by decide +kernel
theorem dX8_exit_103 : decode cX8_exit 103 = .ok (.invokevirtual 85, 3) := by decide +kernel
theorem dX8_exit_106 : decode cX8_exit 106 = .ok (.ireturn, 1) := by decide +kernel
theorem dX8_cut_0 : decode cX8_cut 0 = .ok (.aload_n 0, 1) := by decide +kernel
theorem dX8_cut_1 : decode cX8_cut 1 = .ok (.getfield 10, 3) := by decide +kernel
theorem dX8_cut_4 : decode cX8_cut 4 = .ok (.iload_n 1, 1) := by decide +kernel
theorem dX8_cut_5 : decode cX8_cut 5 = .ok (.invokevirtual 89, 3) := by decide +kernel
theorem dX8_cut_8 : decode cX8_cut 8 = .ok (.ifCond .ne 5, 3) := by decide +kernel
theorem dX8_cut_11 : decode cX8_cut 11 = .ok (.iconst (-1), 1) := by decide +kernel
theorem dX8_cut_12 : decode cX8_cut 12 = .ok (.ireturn, 1) := by decide +kernel
theorem dX8_cut_13 : decode cX8_cut 13 = .ok (.aload_n 0, 1) := by decide +kernel
theorem dX8_cut_14 : decode cX8_cut 14 = .ok (.getfield 10, 3) := by decide +kernel
end
section
theorem dX8_cut_17 : decode cX8_cut 17 = .ok (.iload_n 1, 1) := by decide +kernel
theorem dX8_cut_18 : decode cX8_cut 18 = .ok (.invokevirtual 92, 3) := by decide +kernel
theorem dX8_cut_21 : decode cX8_cut 21 = .ok (.aload_n 0, 1) := by decide +kernel
theorem dX8_cut_22 : decode cX8_cut 22 = .ok (.getfield 10, 3) := by decide +kernel
theorem dX8_cut_25 : decode cX8_cut 25 = .ok (.getfield 96, 3) := by decide +kernel
theorem dX8_cut_28 : decode cX8_cut 28 = .ok (.ireturn, 1) := by decide +kernel
theorem dX8_play_0 : decode cX8_play 0 = .ok (.aload_n 0, 1) := by decide +kernel
theorem dX8_play_1 : decode cX8_play 1 = .ok (.getfield 10, 3) := by decide +kernel
theorem dX8_play_4 : decode cX8_play 4 = .ok (.iload_n 1, 1) := by decide +kernel
theorem dX8_play_5 : decode cX8_play 5 = .ok (.invokevirtual 69, 3) := by decide +kernel
theorem dX8_play_8 : decode cX8_play 8 = .ok (.ifCond .eq 27, 3) := by decide +kernel
theorem dX8_play_11 : decode cX8_play 11 = .ok (.iload_n 2, 1) := by decide +kernel
theorem dX8_play_12 : decode cX8_play 12 = .ok (.invokestatic 72, 3) := by decide +kernel
theorem dX8_play_15 : decode cX8_play 15 = .ok (.ifCond .eq 20, 3) := by decide +kernel
theorem dX8_play_18 : decode cX8_play 18 = .ok (.iload_n 3, 1) := by decide +kernel
theorem dX8_play_19 : decode cX8_play 19 = .ok (.bipush (-2), 2) := by decide +kernel
theorem dX8_play_21 : decode cX8_play 21 = .ok (.if_icmp .eq 16, 3) := by decide +kernel
theorem dX8_play_24 : decode cX8_play 24 = .ok (.aload_n 0, 1) := by decide +kernel
theorem dX8_play_25 : decode cX8_play 25 = .ok (.getfield 10, 3) := by decide +kernel
theorem dX8_play_28 : decode cX8_play 28 = .ok (.iload_n 3, 1) := by decide +kernel
theorem dX8_play_29 : decode cX8_play 29 = .ok (.invokevirtual 69, 3) := by decide +kernel
theorem dX8_play_32 : decode cX8_play 32 = .ok (.ifCond .ne 5, 3) := by decide +kernel
theorem dX8_play_35 : decode cX8_play 35 = .ok (.iconst (-1), 1) := by decide +kernel
theorem dX8_play_36 : decode cX8_play 36 = .ok (.ireturn, 1) := by decide +kernel
theorem dX8_play_37 : decode cX8_play 37 = .ok (.aload_n 0, 1) := by decide +kernel
theorem dX8_play_38 : decode cX8_play 38 = .ok (.getfield 10, 3) := by decide +kernel
theorem dX8_play_41 : decode cX8_play 41 = .ok (.iload_n 1, 1) := by decide +kernel
theorem dX8_play_42 : decode cX8_play 42 = .ok (.iload_n 2, 1) := by decide +kernel
theorem dX8_play_43 : decode cX8_play 43 = .ok (.invokevirtual 100, 3) := by decide +kernel
theorem dX8_play_46 : decode cX8_play 46 = .ok (.istore 4, 2) := by decide +kernel
theorem dX8_play_48 : decode cX8_play 48 = .ok (.iload 4, 2) := by decide +kernel
theorem dX8_play_50 : decode cX8_play 50 = .ok (.ifCond .lt 16, 3) := by decide +kernel
theorem dX8_play_53 : decode cX8_play 53 = .ok (.iload 4, 2) := by decide +kernel
theorem dX8_play_55 : decode cX8_play 55 = .ok (.iload_n 3, 1) := by decide +kernel
theorem dX8_play_56 : decode cX8_play 56 = .ok (.if_icmp .ne 7, 3) := by decide +kernel
theorem dX8_play_59 : decode cX8_play 59 = .ok (.iload_n 3, 1) := by decide +kernel
theorem dX8_play_60 : decode cX8_play 60 = .ok (.goto 5, 3) := by decide +kernel
theorem dX8_play_63 : decode cX8_play 63 = .ok (.bipush (-3), 2) := by decide +kernel
theorem dX8_play_65 : decode cX8_play 65 = .ok (.ireturn, 1) := by decide +kernel
theorem dX8_play_66 : decode cX8_play 66 = .ok (.iload_n 3, 1) := by decide +kernel
theorem dX8_play_67 : decode cX8_play 67 = .ok (.bipush (-2), 2) := by decide +kernel
theorem dX8_play_69 : decode cX8_play 69 = .ok (.if_icmp .ne 12, 3) := by decide +kernel
theorem dX8_play_72 : decode cX8_play 72 = .ok (.aload_n 0, 1) := by decide +kernel
theorem dX8_play_73 : decode cX8_play 73 = .ok (.iload_n 1, 1) := by decide +kernel
theorem dX8_play_74 : decode cX8_play 74 = .ok (.iload_n 2, 1) := by decide +kernel
theorem dX8_play_75 : decode cX8_play 75 = .ok (.invokevirtual 103, 3) := by decide +kernel
theorem dX8_play_78 : decode cX8_play 78 = .ok (.goto 10, 3) := by decide +kernel
theorem dX8_play_81 : decode cX8_play 81 = .ok (.aload_n 0, 1) := by decide +kernel
theorem dX8_play_82 : decode cX8_play 82 = .ok (.iload_n 1, 1) := by decide +kernel
theorem dX8_play_83 : decode cX8_play 83 = .ok (.iload_n 2, 1) := by decide +kernel
theorem dX8_play_84 : decode cX8_play 84 = .ok (.iload_n 3, 1) := by decide +kernel
theorem dX8_play_85 : decode cX8_play 85 = .ok (.invokevirtual 106, 3) := by decide +kernel
theorem dX8_play_88 : decode cX8_play 88 = .ok (.ireturn, 1) := by decide +kernel
theorem dX8_mark_0 : decode cX8_mark 0 = .ok (.aload_n 0, 1) := by decide +kernel
theorem dX8_mark_1 : decode cX8_mark 1 = .ok (.getfield 10, 3) := by decide +kernel
theorem dX8_mark_4 : decode cX8_mark 4 = .ok (.iload_n 1, 1) := by decide +kernel
theorem dX8_mark_5 : decode cX8_mark 5 = .ok (.invokevirtual 69, 3) := by decide +kernel
theorem dX8_mark_8 : decode cX8_mark 8 = .ok (.ifCond .eq 16, 3) := by decide +kernel
theorem dX8_mark_11 : decode cX8_mark 11 = .ok (.iload_n 2, 1) := by decide +kernel
theorem dX8_mark_12 : decode cX8_mark 12 = .ok (.bipush (-2), 2) := by decide +kernel
theorem dX8_mark_14 : decode cX8_mark 14 = .ok (.if_icmp .eq 12, 3) := by decide +kernel
theorem dX8_mark_17 : decode cX8_mark 17 = .ok (.iload_n 2, 1) := by decide +kernel
theorem dX8_mark_18 : decode cX8_mark 18 = .ok (.invokestatic 57, 3) := by decide +kernel
theorem dX8_mark_21 : decode cX8_mark 21 = .ok (.ifCond .ne 5, 3) := by decide +kernel
theorem dX8_mark_24 : decode cX8_mark 24 = .ok (.iconst (-1), 1) := by decide +kernel
theorem dX8_mark_25 : decode cX8_mark 25 = .ok (.ireturn, 1) := by decide +kernel
theorem dX8_mark_26 : decode cX8_mark 26 = .ok (.aload_n 0, 1) := by decide +kernel
theorem dX8_mark_27 : decode cX8_mark 27 = .ok (.getfield 10, 3) := by decide +kernel
theorem dX8_mark_30 : decode cX8_mark 30 = .ok (.getfield 110, 3) := by decide +kernel
theorem dX8_mark_33 : decode cX8_mark 33 = .ok (.iload_n 1, 1) := by decide +kernel
theorem dX8_mark_34 : decode cX8_mark 34 = .ok (.iaload, 1) := by decide +kernel
theorem dX8_mark_35 : decode cX8_mark 35 = .ok (.istore_n 3, 1) := by decide +kernel
theorem dX8_mark_36 : decode cX8_mark 36 = .ok (.aload_n 0, 1) := by decide +kernel
theorem dX8_mark_37 : decode cX8_mark 37 = .ok (.getfield 10, 3) := by decide +kernel
theorem dX8_mark_40 : decode cX8_mark 40 = .ok (.getfield 110, 3) := by decide +kernel
theorem dX8_mark_43 : decode cX8_mark 43 = .ok (.iload_n 1, 1) := by decide +kernel
theorem dX8_mark_44 : decode cX8_mark 44 = .ok (.iload_n 2, 1) := by decide +kernel
theorem dX8_mark_45 : decode cX8_mark 45 = .ok (.iastore, 1) := by decide +kernel
theorem dX8_mark_46 : decode cX8_mark 46 = .ok (.iload_n 3, 1) := by decide +kernel
theorem dX8_mark_47 : decode cX8_mark 47 = .ok (.ireturn, 1) := by decide +kernel
theorem dX8_alike_0 : decode cX8_alike 0 = .ok (.iload_n 1, 1) := by decide +kernel
theorem dX8_alike_1 : decode cX8_alike 1 = .ok (.invokestatic 57, 3) := by decide +kernel
theorem dX8_alike_4 : decode cX8_alike 4 = .ok (.ifCond .eq 14, 3) := by decide +kernel
theorem dX8_alike_7 : decode cX8_alike 7 = .ok (.aload_n 0, 1) := by decide +kernel
theorem dX8_alike_8 : decode cX8_alike 8 = .ok (.getfield 10, 3) := by decide +kernel
theorem dX8_alike_11 : decode cX8_alike 11 = .ok (.iload_n 1, 1) := by decide +kernel
theorem dX8_alike_12 : decode cX8_alike 12 = .ok (.invokevirtual 113, 3) := by decide +kernel
theorem dX8_alike_15 : decode cX8_alike 15 = .ok (.goto 4, 3) := by decide +kernel
theorem dX8_alike_18 : decode cX8_alike 18 = .ok (.iconst (-1), 1) := by decide +kernel
theorem dX8_alike_19 : decode cX8_alike 19 = .ok (.ireturn, 1) := by decide +kernel
theorem dX8_link_0 : decode cX8_link 0 = .ok (.aload_n 0, 1) := by decide +kernel
theorem dX8_link_1 : decode cX8_link 1 = .ok (.getfield 10, 3) := by decide +kernel
theorem dX8_link_4 : decode cX8_link 4 = .ok (.iload_n 1, 1) := by decide +kernel
theorem dX8_link_5 : decode cX8_link 5 = .ok (.invokevirtual 89, 3) := by decide +kernel
theorem dX8_link_8 : decode cX8_link 8 = .ok (.ifCond .ne 5, 3) := by decide +kernel
theorem dX8_link_11 : decode cX8_link 11 = .ok (.iconst (-1), 1) := by decide +kernel
theorem dX8_link_12 : decode cX8_link 12 = .ok (.ireturn, 1) := by decide +kernel
theorem dX8_link_13 : decode cX8_link 13 = .ok (.iload_n 2, 1) := by decide +kernel
theorem dX8_link_14 : decode cX8_link 14 = .ok (.tableswitch 99 0 4 #[34, 44, 54, 64, 82], 34) := by decide +kernel
theorem dX8_link_48 : decode cX8_link 48 = .ok (.aload_n 0, 1) := by decide +kernel
theorem dX8_link_49 : decode cX8_link 49 = .ok (.getfield 10, 3) := by decide +kernel
theorem dX8_link_52 : decode cX8_link 52 = .ok (.getfield 117, 3) := by decide +kernel
theorem dX8_link_55 : decode cX8_link 55 = .ok (.iload_n 1, 1) := by decide +kernel
theorem dX8_link_56 : decode cX8_link 56 = .ok (.iaload, 1) := by decide +kernel
theorem dX8_link_57 : decode cX8_link 57 = .ok (.ireturn, 1) := by decide +kernel
theorem dX8_link_58 : decode cX8_link 58 = .ok (.aload_n 0, 1) := by decide +kernel
theorem dX8_link_59 : decode cX8_link 59 = .ok (.getfield 10, 3) := by decide +kernel
theorem dX8_link_62 : decode cX8_link 62 = .ok (.getfield 120, 3) := by decide +kernel
theorem dX8_link_65 : decode cX8_link 65 = .ok (.iload_n 1, 1) := by decide +kernel
theorem dX8_link_66 : decode cX8_link 66 = .ok (.iaload, 1) := by decide +kernel
theorem dX8_link_67 : decode cX8_link 67 = .ok (.ireturn, 1) := by decide +kernel
theorem dX8_link_68 : decode cX8_link 68 = .ok (.aload_n 0, 1) := by decide +kernel
theorem dX8_link_69 : decode cX8_link 69 = .ok (.getfield 10, 3) := by decide +kernel
theorem dX8_link_72 : decode cX8_link 72 = .ok (.getfield 123, 3) := by decide +kernel
theorem dX8_link_75 : decode cX8_link 75 = .ok (.iload_n 1, 1) := by decide +kernel
theorem dX8_link_76 : decode cX8_link 76 = .ok (.iaload, 1) := by decide +kernel
theorem dX8_link_77 : decode cX8_link 77 = .ok (.ireturn, 1) := by decide +kernel
theorem dX8_link_78 : decode cX8_link 78 = .ok (.aload_n 0, 1) := by decide +kernel
theorem dX8_link_79 : decode cX8_link 79 = .ok (.getfield 10, 3) := by decide +kernel
theorem dX8_link_82 : decode cX8_link 82 = .ok (.getfield 126, 3) := by decide +kernel
theorem dX8_link_85 : decode cX8_link 85 = .ok (.iload_n 1, 1) := by decide +kernel
theorem dX8_link_86 : decode cX8_link 86 = .ok (.baload, 1) := by decide +kernel
theorem dX8_link_87 : decode cX8_link 87 = .ok (.ifCond .eq 7, 3) := by decide +kernel
theorem dX8_link_90 : decode cX8_link 90 = .ok (.iconst 1, 1) := by decide +kernel
theorem dX8_link_91 : decode cX8_link 91 = .ok (.goto 4, 3) := by decide +kernel
theorem dX8_link_94 : decode cX8_link 94 = .ok (.iconst 0, 1) := by decide +kernel
theorem dX8_link_95 : decode cX8_link 95 = .ok (.ireturn, 1) := by decide +kernel
theorem dX8_link_96 : decode cX8_link 96 = .ok (.aload_n 0, 1) := by decide +kernel
theorem dX8_link_97 : decode cX8_link 97 = .ok (.getfield 10, 3) := by decide +kernel
theorem dX8_link_100 : decode cX8_link 100 = .ok (.iload_n 1, 1) := by decide +kernel
theorem dX8_link_101 : decode cX8_link 101 = .ok (.invokevirtual 130, 3) := by decide +kernel
theorem dX8_link_104 : decode cX8_link 104 = .ok (.ifCond .eq 7, 3) := by decide +kernel
theorem dX8_link_107 : decode cX8_link 107 = .ok (.iconst 1, 1) := by decide +kernel
theorem dX8_link_108 : decode cX8_link 108 = .ok (.goto 4, 3) := by decide +kernel
theorem dX8_link_111 : decode cX8_link 111 = .ok (.iconst 0, 1) := by decide +kernel
theorem dX8_link_112 : decode cX8_link 112 = .ok (.ireturn, 1) := by decide +kernel
theorem dX8_link_113 : decode cX8_link 113 = .ok (.iconst (-1), 1) := by decide +kernel
theorem dX8_link_114 : decode cX8_link 114 = .ok (.ireturn, 1) := by decide +kernel
theorem dX8_out_0 : decode cX8_out 0 = .ok (.aload_n 0, 1) := by decide +kernel
theorem dX8_out_1 : decode cX8_out 1 = .ok (.getfield 10, 3) := by decide +kernel
theorem dX8_out_4 : decode cX8_out 4 = .ok (.iload_n 1, 1) := by decide +kernel
theorem dX8_out_5 : decode cX8_out 5 = .ok (.invokevirtual 69, 3) := by decide +kernel
theorem dX8_out_8 : decode cX8_out 8 = .ok (.ifCond .eq 22, 3) := by decide +kernel
theorem dX8_out_11 : decode cX8_out 11 = .ok (.iload_n 2, 1) := by decide +kernel
theorem dX8_out_12 : decode cX8_out 12 = .ok (.invokestatic 72, 3) := by decide +kernel
theorem dX8_out_15 : decode cX8_out 15 = .ok (.ifCond .eq 15, 3) := by decide +kernel
theorem dX8_out_18 : decode cX8_out 18 = .ok (.aload_n 0, 1) := by decide +kernel
theorem dX8_out_19 : decode cX8_out 19 = .ok (.getfield 10, 3) := by decide +kernel
theorem dX8_out_22 : decode cX8_out 22 = .ok (.iload_n 1, 1) := by decide +kernel
theorem dX8_out_23 : decode cX8_out 23 = .ok (.iload_n 2, 1) := by decide +kernel
theorem dX8_out_24 : decode cX8_out 24 = .ok (.invokevirtual 75, 3) := by decide +kernel
theorem dX8_out_27 : decode cX8_out 27 = .ok (.goto 4, 3) := by decide +kernel
theorem dX8_out_30 : decode cX8_out 30 = .ok (.iconst (-1), 1) := by decide +kernel
theorem dX8_out_31 : decode cX8_out 31 = .ok (.ireturn, 1) := by decide +kernel
theorem dX8_part_0 : decode cX8_part 0 = .ok (.aload_n 0, 1) := by decide +kernel
theorem dX8_part_1 : decode cX8_part 1 = .ok (.getfield 10, 3) := by decide +kernel
theorem dX8_part_4 : decode cX8_part 4 = .ok (.iload_n 1, 1) := by decide +kernel
theorem dX8_part_5 : decode cX8_part 5 = .ok (.invokevirtual 69, 3) := by decide +kernel
theorem dX8_part_8 : decode cX8_part 8 = .ok (.ifCond .ne 5, 3) := by decide +kernel
theorem dX8_part_11 : decode cX8_part 11 = .ok (.iconst (-1), 1) := by decide +kernel
theorem dX8_part_12 : decode cX8_part 12 = .ok (.ireturn, 1) := by decide +kernel
theorem dX8_part_13 : decode cX8_part 13 = .ok (.aload_n 0, 1) := by decide +kernel
theorem dX8_part_14 : decode cX8_part 14 = .ok (.getfield 19, 3) := by decide +kernel
theorem dX8_part_17 : decode cX8_part 17 = .ok (.aload_n 0, 1) := by decide +kernel
theorem dX8_part_18 : decode cX8_part 18 = .ok (.getfield 10, 3) := by decide +kernel
theorem dX8_part_21 : decode cX8_part 21 = .ok (.invokevirtual 133, 3) := by decide +kernel
theorem dX8_part_24 : decode cX8_part 24 = .ok (.pop, 1) := by decide +kernel
theorem dX8_part_25 : decode cX8_part 25 = .ok (.aload_n 0, 1) := by decide +kernel
theorem dX8_part_26 : decode cX8_part 26 = .ok (.getfield 19, 3) := by decide +kernel
theorem dX8_part_29 : decode cX8_part 29 = .ok (.getfield 137, 3) := by decide +kernel
theorem dX8_part_32 : decode cX8_part 32 = .ok (.iload_n 1, 1) := by decide +kernel
theorem dX8_part_33 : decode cX8_part 33 = .ok (.iaload, 1) := by decide +kernel
theorem dX8_part_34 : decode cX8_part 34 = .ok (.ireturn, 1) := by decide +kernel
theorem dX8_draw_0 : decode cX8_draw 0 = .ok (.iload_n 1, 1) := by decide +kernel
theorem dX8_draw_1 : decode cX8_draw 1 = .ok (.iconst 1, 1) := by decide +kernel
theorem dX8_draw_2 : decode cX8_draw 2 = .ok (.if_icmp .lt 10, 3) := by decide +kernel
theorem dX8_draw_5 : decode cX8_draw 5 = .ok (.iload_n 1, 1) := by decide +kernel
theorem dX8_draw_6 : decode cX8_draw 6 = .ok (.sipush 20000, 3) := by decide +kernel
theorem dX8_draw_9 : decode cX8_draw 9 = .ok (.if_icmp .le 5, 3) := by decide +kernel
theorem dX8_draw_12 : decode cX8_draw 12 = .ok (.iconst (-1), 1) := by decide +kernel
theorem dX8_draw_13 : decode cX8_draw 13 = .ok (.ireturn, 1) := by decide +kernel
theorem dX8_draw_14 : decode cX8_draw 14 = .ok (.aload_n 0, 1) := by decide +kernel
theorem dX8_draw_15 : decode cX8_draw 15 = .ok (.getfield 37, 3) := by decide +kernel
theorem dX8_draw_18 : decode cX8_draw 18 = .ok (.iload_n 1, 1) := by decide +kernel
theorem dX8_draw_19 : decode cX8_draw 19 = .ok (.invokevirtual 140, 3) := by decide +kernel
theorem dX8_draw_22 : decode cX8_draw 22 = .ok (.aload_n 0, 1) := by decide +kernel
theorem dX8_draw_23 : decode cX8_draw 23 = .ok (.getfield 28, 3) := by decide +kernel
theorem dX8_draw_26 : decode cX8_draw 26 = .ok (.invokevirtual 143, 3) := by decide +kernel
theorem dX8_draw_29 : decode cX8_draw 29 = .ok (.ireturn, 1) := by decide +kernel
theorem dX8_grow_0 : decode cX8_grow 0 = .ok (.aload_n 0, 1) := by decide +kernel
theorem dX8_grow_1 : decode cX8_grow 1 = .ok (.getfield 37, 3) := by decide +kernel
theorem dX8_grow_4 : decode cX8_grow 4 = .ok (.invokevirtual 147, 3) := by decide +kernel
theorem dX8_grow_7 : decode cX8_grow 7 = .ok (.aload_n 0, 1) := by decide +kernel
theorem dX8_grow_8 : decode cX8_grow 8 = .ok (.getfield 28, 3) := by decide +kernel
theorem dX8_grow_11 : decode cX8_grow 11 = .ok (.invokevirtual 143, 3) := by decide +kernel
theorem dX8_grow_14 : decode cX8_grow 14 = .ok (.ireturn, 1) := by decide +kernel
theorem dX8_least_0 : decode cX8_least 0 = .ok (.iload_n 1, 1) := by decide +kernel
theorem dX8_least_1 : decode cX8_least 1 = .ok (.ifCond .lt 9, 3) := by decide +kernel
theorem dX8_least_4 : decode cX8_least 4 = .ok (.iload_n 1, 1) := by decide +kernel
theorem dX8_least_5 : decode cX8_least 5 = .ok (.bipush 24, 2) := by decide +kernel
theorem dX8_least_7 : decode cX8_least 7 = .ok (.if_icmp .lt 7, 3) := by decide +kernel
theorem dX8_least_10 : decode cX8_least 10 = .ok (.iconst (-1), 1) := by decide +kernel
theorem dX8_least_11 : decode cX8_least 11 = .ok (.goto 11, 3) := by decide +kernel
theorem dX8_least_14 : decode cX8_least 14 = .ok (.aload_n 0, 1) := by decide +kernel
theorem dX8_least_15 : decode cX8_least 15 = .ok (.getfield 37, 3) := by decide +kernel
theorem dX8_least_18 : decode cX8_least 18 = .ok (.iload_n 1, 1) := by decide +kernel
theorem dX8_least_19 : decode cX8_least 19 = .ok (.invokevirtual 150, 3) := by decide +kernel
theorem dX8_least_22 : decode cX8_least 22 = .ok (.ireturn, 1) := by decide +kernel
theorem dX8_steps_0 : decode cX8_steps 0 = .ok (.aload_n 0, 1) := by decide +kernel
theorem dX8_steps_1 : decode cX8_steps 1 = .ok (.getfield 37, 3) := by decide +kernel
theorem dX8_steps_4 : decode cX8_steps 4 = .ok (.getfield 153, 3) := by decide +kernel
theorem dX8_steps_7 : decode cX8_steps 7 = .ok (.ireturn, 1) := by decide +kernel
theorem dX8_place_0 : decode cX8_place 0 = .ok (.aload_n 0, 1) := by decide +kernel
theorem dX8_place_1 : decode cX8_place 1 = .ok (.getfield 10, 3) := by decide +kernel
theorem dX8_place_4 : decode cX8_place 4 = .ok (.iload_n 1, 1) := by decide +kernel
theorem dX8_place_5 : decode cX8_place 5 = .ok (.invokevirtual 69, 3) := by decide +kernel
theorem dX8_place_8 : decode cX8_place 8 = .ok (.ifCond .eq 12, 3) := by decide +kernel
theorem dX8_place_11 : decode cX8_place 11 = .ok (.iload_n 2, 1) := by decide +kernel
theorem dX8_place_12 : decode cX8_place 12 = .ok (.ifCond .lt 8, 3) := by decide +kernel
theorem dX8_place_15 : decode cX8_place 15 = .ok (.iload_n 2, 1) := by decide +kernel
theorem dX8_place_16 : decode cX8_place 16 = .ok (.iconst 2, 1) := by decide +kernel
theorem dX8_place_17 : decode cX8_place 17 = .ok (.if_icmp .le 7, 3) := by decide +kernel
theorem dX8_place_20 : decode cX8_place 20 = .ok (.sipush (-1001), 3) := by decide +kernel
theorem dX8_place_23 : decode cX8_place 23 = .ok (.ireturn, 1) := by decide +kernel
theorem dX8_place_24 : decode cX8_place 24 = .ok (.aload_n 0, 1) := by decide +kernel
theorem dX8_place_25 : decode cX8_place 25 = .ok (.getfield 28, 3) := by decide +kernel
theorem dX8_place_28 : decode cX8_place 28 = .ok (.getfield 156, 3) := by decide +kernel
theorem dX8_place_31 : decode cX8_place 31 = .ok (.iload_n 1, 1) := by decide +kernel
theorem dX8_place_32 : decode cX8_place 32 = .ok (.baload, 1) := by decide +kernel
theorem dX8_place_33 : decode cX8_place 33 = .ok (.ifCond .ne 7, 3) := by decide +kernel
theorem dX8_place_36 : decode cX8_place 36 = .ok (.sipush (-1002), 3) := by decide +kernel
theorem dX8_place_39 : decode cX8_place 39 = .ok (.ireturn, 1) := by decide +kernel
theorem dX8_place_40 : decode cX8_place 40 = .ok (.iload_n 2, 1) := by decide +kernel
theorem dX8_place_41 : decode cX8_place 41 = .ok (.lookupswitch 47 #[(0, 27), (1, 37)], 27) := by decide +kernel
theorem dX8_place_68 : decode cX8_place 68 = .ok (.aload_n 0, 1) := by decide +kernel
theorem dX8_place_69 : decode cX8_place 69 = .ok (.getfield 28, 3) := by decide +kernel
theorem dX8_place_72 : decode cX8_place 72 = .ok (.getfield 159, 3) := by decide +kernel
theorem dX8_place_75 : decode cX8_place 75 = .ok (.iload_n 1, 1) := by decide +kernel
theorem dX8_place_76 : decode cX8_place 76 = .ok (.iaload, 1) := by decide +kernel
theorem dX8_place_77 : decode cX8_place 77 = .ok (.ireturn, 1) := by decide +kernel
theorem dX8_place_78 : decode cX8_place 78 = .ok (.aload_n 0, 1) := by decide +kernel
theorem dX8_place_79 : decode cX8_place 79 = .ok (.getfield 28, 3) := by decide +kernel
theorem dX8_place_82 : decode cX8_place 82 = .ok (.getfield 162, 3) := by decide +kernel
theorem dX8_place_85 : decode cX8_place 85 = .ok (.iload_n 1, 1) := by decide +kernel
theorem dX8_place_86 : decode cX8_place 86 = .ok (.iaload, 1) := by decide +kernel
theorem dX8_place_87 : decode cX8_place 87 = .ok (.ireturn, 1) := by decide +kernel
theorem dX8_place_88 : decode cX8_place 88 = .ok (.aload_n 0, 1) := by decide +kernel
theorem dX8_place_89 : decode cX8_place 89 = .ok (.getfield 28, 3) := by decide +kernel
theorem dX8_place_92 : decode cX8_place 92 = .ok (.getfield 165, 3) := by decide +kernel
theorem dX8_place_95 : decode cX8_place 95 = .ok (.iload_n 1, 1) := by decide +kernel
theorem dX8_place_96 : decode cX8_place 96 = .ok (.iaload, 1) := by decide +kernel
theorem dX8_place_97 : decode cX8_place 97 = .ok (.ireturn, 1) := by decide +kernel
theorem dX8_straight_0 : decode cX8_straight 0 = .ok (.aload_n 0, 1) := by decide +kernel
theorem dX8_straight_1 : decode cX8_straight 1 = .ok (.getfield 10, 3) := by decide +kernel
theorem dX8_straight_4 : decode cX8_straight 4 = .ok (.iload_n 1, 1) := by decide +kernel
theorem dX8_straight_5 : decode cX8_straight 5 = .ok (.invokevirtual 89, 3) := by decide +kernel
theorem dX8_straight_8 : decode cX8_straight 8 = .ok (.ifCond .ne 5, 3) := by decide +kernel
theorem dX8_straight_11 : decode cX8_straight 11 = .ok (.iconst (-1), 1) := by decide +kernel
theorem dX8_straight_12 : decode cX8_straight 12 = .ok (.ireturn, 1) := by decide +kernel
theorem dX8_straight_13 : decode cX8_straight 13 = .ok (.aload_n 0, 1) := by decide +kernel
theorem dX8_straight_14 : decode cX8_straight 14 = .ok (.getfield 28, 3) := by decide +kernel
theorem dX8_straight_17 : decode cX8_straight 17 = .ok (.iload_n 1, 1) := by decide +kernel
theorem dX8_straight_18 : decode cX8_straight 18 = .ok (.invokevirtual 168, 3) := by decide +kernel
theorem dX8_straight_21 : decode cX8_straight 21 = .ok (.ifCond .ne 6, 3) := by decide +kernel
theorem dX8_straight_24 : decode cX8_straight 24 = .ok (.bipush (-3), 2) := by decide +kernel
theorem dX8_straight_26 : decode cX8_straight 26 = .ok (.ireturn, 1) := by decide +kernel
theorem dX8_straight_27 : decode cX8_straight 27 = .ok (.aload_n 0, 1) := by decide +kernel
theorem dX8_straight_28 : decode cX8_straight 28 = .ok (.getfield 10, 3) := by decide +kernel
theorem dX8_straight_31 : decode cX8_straight 31 = .ok (.iload_n 1, 1) := by decide +kernel
theorem dX8_straight_32 : decode cX8_straight 32 = .ok (.invokevirtual 130, 3) := by decide +kernel
theorem dX8_straight_35 : decode cX8_straight 35 = .ok (.ifCond .eq 5, 3) := by decide +kernel
theorem dX8_straight_38 : decode cX8_straight 38 = .ok (.iconst 0, 1) := by decide +kernel
theorem dX8_straight_39 : decode cX8_straight 39 = .ok (.ireturn, 1) := by decide +kernel
theorem dX8_straight_40 : decode cX8_straight 40 = .ok (.aload_n 0, 1) := by decide +kernel
theorem dX8_straight_41 : decode cX8_straight 41 = .ok (.getfield 28, 3) := by decide +kernel
theorem dX8_straight_44 : decode cX8_straight 44 = .ok (.iload_n 1, 1) := by decide +kernel
theorem dX8_straight_45 : decode cX8_straight 45 = .ok (.invokevirtual 171, 3) := by decide +kernel
theorem dX8_straight_48 : decode cX8_straight 48 = .ok (.istore_n 2, 1) := by decide +kernel
theorem dX8_straight_49 : decode cX8_straight 49 = .ok (.iload_n 2, 1) := by decide +kernel
theorem dX8_straight_50 : decode cX8_straight 50 = .ok (.ifCond .le 7, 3) := by decide +kernel
theorem dX8_straight_53 : decode cX8_straight 53 = .ok (.iload_n 2, 1) := by decide +kernel
theorem dX8_straight_54 : decode cX8_straight 54 = .ok (.goto 5, 3) := by decide +kernel
theorem dX8_straight_57 : decode cX8_straight 57 = .ok (.bipush (-2), 2) := by decide +kernel
theorem dX8_straight_59 : decode cX8_straight 59 = .ok (.ireturn, 1) := by decide +kernel
theorem dX8_cost_0 : decode cX8_cost 0 = .ok (.aload_n 0, 1) := by decide +kernel
theorem dX8_cost_1 : decode cX8_cost 1 = .ok (.getfield 28, 3) := by decide +kernel
theorem dX8_cost_4 : decode cX8_cost 4 = .ok (.ldc 176, 2) := by decide +kernel
theorem dX8_cost_6 : decode cX8_cost 6 = .ok (.invokevirtual 177, 3) := by decide +kernel
theorem dX8_cost_9 : decode cX8_cost 9 = .ok (.ireturn, 1) := by decide +kernel
theorem dX8_far_0 : decode cX8_far 0 = .ok (.aload_n 0, 1) := by decide +kernel
theorem dX8_far_1 : decode cX8_far 1 = .ok (.getfield 10, 3) := by decide +kernel
theorem dX8_far_4 : decode cX8_far 4 = .ok (.iload_n 1, 1) := by decide +kernel
theorem dX8_far_5 : decode cX8_far 5 = .ok (.invokevirtual 69, 3) := by decide +kernel
theorem dX8_far_8 : decode cX8_far 8 = .ok (.ifCond .eq 26, 3) := by decide +kernel
theorem dX8_far_11 : decode cX8_far 11 = .ok (.aload_n 0, 1) := by decide +kernel
theorem dX8_far_12 : decode cX8_far 12 = .ok (.getfield 10, 3) := by decide +kernel
theorem dX8_far_15 : decode cX8_far 15 = .ok (.iload_n 2, 1) := by decide +kernel
theorem dX8_far_16 : decode cX8_far 16 = .ok (.invokevirtual 69, 3) := by decide +kernel
theorem dX8_far_19 : decode cX8_far 19 = .ok (.ifCond .eq 15, 3) := by decide +kernel
theorem dX8_far_22 : decode cX8_far 22 = .ok (.aload_n 0, 1) := by decide +kernel
theorem dX8_far_23 : decode cX8_far 23 = .ok (.getfield 44, 3) := by decide +kernel
theorem dX8_far_26 : decode cX8_far 26 = .ok (.iload_n 1, 1) := by decide +kernel
theorem dX8_far_27 : decode cX8_far 27 = .ok (.iload_n 2, 1) := by decide +kernel
theorem dX8_far_28 : decode cX8_far 28 = .ok (.invokevirtual 180, 3) := by decide +kernel
theorem dX8_far_31 : decode cX8_far 31 = .ok (.goto 4, 3) := by decide +kernel
theorem dX8_far_34 : decode cX8_far 34 = .ok (.iconst (-1), 1) := by decide +kernel
theorem dX8_far_35 : decode cX8_far 35 = .ok (.ireturn, 1) := by decide +kernel
theorem dX8_step_0 : decode cX8_step 0 = .ok (.aload_n 0, 1) := by decide +kernel
theorem dX8_step_1 : decode cX8_step 1 = .ok (.getfield 10, 3) := by decide +kernel
theorem dX8_step_4 : decode cX8_step 4 = .ok (.iload_n 1, 1) := by decide +kernel
theorem dX8_step_5 : decode cX8_step 5 = .ok (.invokevirtual 69, 3) := by decide +kernel
theorem dX8_step_8 : decode cX8_step 8 = .ok (.ifCond .eq 27, 3) := by decide +kernel
theorem dX8_step_11 : decode cX8_step 11 = .ok (.aload_n 0, 1) := by decide +kernel
theorem dX8_step_12 : decode cX8_step 12 = .ok (.getfield 10, 3) := by decide +kernel
theorem dX8_step_15 : decode cX8_step 15 = .ok (.iload_n 2, 1) := by decide +kernel
theorem dX8_step_16 : decode cX8_step 16 = .ok (.invokevirtual 69, 3) := by decide +kernel
theorem dX8_step_19 : decode cX8_step 19 = .ok (.ifCond .eq 16, 3) := by decide +kernel
theorem dX8_step_22 : decode cX8_step 22 = .ok (.aload_n 0, 1) := by decide +kernel
theorem dX8_step_23 : decode cX8_step 23 = .ok (.getfield 44, 3) := by decide +kernel
theorem dX8_step_26 : decode cX8_step 26 = .ok (.iload_n 1, 1) := by decide +kernel
theorem dX8_step_27 : decode cX8_step 27 = .ok (.iload_n 2, 1) := by decide +kernel
theorem dX8_step_28 : decode cX8_step 28 = .ok (.iload_n 3, 1) := by decide +kernel
theorem dX8_step_29 : decode cX8_step 29 = .ok (.invokevirtual 183, 3) := by decide +kernel
theorem dX8_step_32 : decode cX8_step 32 = .ok (.goto 4, 3) := by decide +kernel
theorem dX8_step_35 : decode cX8_step 35 = .ok (.iconst (-1), 1) := by decide +kernel
theorem dX8_step_36 : decode cX8_step 36 = .ok (.ireturn, 1) := by decide +kernel
theorem dX8_sign_0 : decode cX8_sign 0 = .ok (.iload_n 2, 1) := by decide +kernel
theorem dX8_sign_1 : decode cX8_sign 1 = .ok (.ifCond .lt 7, 3) := by decide +kernel
theorem dX8_sign_4 : decode cX8_sign 4 = .ok (.iload_n 3, 1) := by decide +kernel
theorem dX8_sign_5 : decode cX8_sign 5 = .ok (.ifCond .ge 7, 3) := by decide +kernel
theorem dX8_sign_8 : decode cX8_sign 8 = .ok (.iconst (-1), 1) := by decide +kernel
theorem dX8_sign_9 : decode cX8_sign 9 = .ok (.goto 13, 3) := by decide +kernel
theorem dX8_sign_12 : decode cX8_sign 12 = .ok (.aload_n 0, 1) := by decide +kernel
theorem dX8_sign_13 : decode cX8_sign 13 = .ok (.getfield 53, 3) := by decide +kernel
theorem dX8_sign_16 : decode cX8_sign 16 = .ok (.iload_n 1, 1) := by decide +kernel
theorem dX8_sign_17 : decode cX8_sign 17 = .ok (.iload_n 2, 1) := by decide +kernel
theorem dX8_sign_18 : decode cX8_sign 18 = .ok (.iload_n 3, 1) := by decide +kernel
theorem dX8_sign_19 : decode cX8_sign 19 = .ok (.invokevirtual 186, 3) := by decide +kernel
theorem dX8_sign_22 : decode cX8_sign 22 = .ok (.ireturn, 1) := by decide +kernel
theorem dX8_told_0 : decode cX8_told 0 = .ok (.iload_n 1, 1) := by decide +kernel
theorem dX8_told_1 : decode cX8_told 1 = .ok (.tableswitch 143 0 7 #[47, 55, 63, 75, 83, 98, 113, 128], 47) := by decide +kernel
theorem dX8_told_48 : decode cX8_told 48 = .ok (.aload_n 0, 1) := by decide +kernel
theorem dX8_told_49 : decode cX8_told 49 = .ok (.getfield 10, 3) := by decide +kernel
theorem dX8_told_52 : decode cX8_told 52 = .ok (.getfield 189, 3) := by decide +kernel
theorem dX8_told_55 : decode cX8_told 55 = .ok (.ireturn, 1) := by decide +kernel
theorem dX8_told_56 : decode cX8_told 56 = .ok (.aload_n 0, 1) := by decide +kernel
theorem dX8_told_57 : decode cX8_told 57 = .ok (.getfield 10, 3) := by decide +kernel
theorem dX8_told_60 : decode cX8_told 60 = .ok (.getfield 96, 3) := by decide +kernel
theorem dX8_told_63 : decode cX8_told 63 = .ok (.ireturn, 1) := by decide +kernel
theorem dX8_told_64 : decode cX8_told 64 = .ok (.aload_n 0, 1) := by decide +kernel
theorem dX8_told_65 : decode cX8_told 65 = .ok (.getfield 19, 3) := by decide +kernel
theorem dX8_told_68 : decode cX8_told 68 = .ok (.aload_n 0, 1) := by decide +kernel
theorem dX8_told_69 : decode cX8_told 69 = .ok (.getfield 10, 3) := by decide +kernel
theorem dX8_told_72 : decode cX8_told 72 = .ok (.invokevirtual 133, 3) := by decide +kernel
theorem dX8_told_75 : decode cX8_told 75 = .ok (.ireturn, 1) := by decide +kernel
theorem dX8_told_76 : decode cX8_told 76 = .ok (.aload_n 0, 1) := by decide +kernel
theorem dX8_told_77 : decode cX8_told 77 = .ok (.getfield 28, 3) := by decide +kernel
theorem dX8_told_80 : decode cX8_told 80 = .ok (.invokevirtual 192, 3) := by decide +kernel
theorem dX8_told_83 : decode cX8_told 83 = .ok (.ireturn, 1) := by decide +kernel
theorem dX8_told_84 : decode cX8_told 84 = .ok (.aload_n 0, 1) := by decide +kernel
theorem dX8_told_85 : decode cX8_told 85 = .ok (.getfield 28, 3) := by decide +kernel
theorem dX8_told_88 : decode cX8_told 88 = .ok (.aload_n 0, 1) := by decide +kernel
theorem dX8_told_89 : decode cX8_told 89 = .ok (.getfield 28, 3) := by decide +kernel
theorem dX8_told_92 : decode cX8_told 92 = .ok (.getfield 165, 3) := by decide +kernel
theorem dX8_told_95 : decode cX8_told 95 = .ok (.invokevirtual 195, 3) := by decide +kernel
theorem dX8_told_98 : decode cX8_told 98 = .ok (.ireturn, 1) := by decide +kernel
theorem dX8_told_99 : decode cX8_told 99 = .ok (.aload_n 0, 1) := by decide +kernel
theorem dX8_told_100 : decode cX8_told 100 = .ok (.getfield 28, 3) := by decide +kernel
theorem dX8_told_103 : decode cX8_told 103 = .ok (.aload_n 0, 1) := by decide +kernel
theorem dX8_told_104 : decode cX8_told 104 = .ok (.getfield 28, 3) := by decide +kernel
theorem dX8_told_107 : decode cX8_told 107 = .ok (.getfield 165, 3) := by decide +kernel
theorem dX8_told_110 : decode cX8_told 110 = .ok (.invokevirtual 199, 3) := by decide +kernel
theorem dX8_told_113 : decode cX8_told 113 = .ok (.ireturn, 1) := by decide +kernel
theorem dX8_told_114 : decode cX8_told 114 = .ok (.aload_n 0, 1) := by decide +kernel
theorem dX8_told_115 : decode cX8_told 115 = .ok (.getfield 28, 3) := by decide +kernel
theorem dX8_told_118 : decode cX8_told 118 = .ok (.aload_n 0, 1) := by decide +kernel
theorem dX8_told_119 : decode cX8_told 119 = .ok (.getfield 28, 3) := by decide +kernel
theorem dX8_told_122 : decode cX8_told 122 = .ok (.getfield 159, 3) := by decide +kernel
theorem dX8_told_125 : decode cX8_told 125 = .ok (.invokevirtual 202, 3) := by decide +kernel
theorem dX8_told_128 : decode cX8_told 128 = .ok (.ireturn, 1) := by decide +kernel
theorem dX8_told_129 : decode cX8_told 129 = .ok (.aload_n 0, 1) := by decide +kernel
theorem dX8_told_130 : decode cX8_told 130 = .ok (.getfield 28, 3) := by decide +kernel
theorem dX8_told_133 : decode cX8_told 133 = .ok (.aload_n 0, 1) := by decide +kernel
theorem dX8_told_134 : decode cX8_told 134 = .ok (.getfield 28, 3) := by decide +kernel
theorem dX8_told_137 : decode cX8_told 137 = .ok (.getfield 162, 3) := by decide +kernel
theorem dX8_told_140 : decode cX8_told 140 = .ok (.invokevirtual 202, 3) := by decide +kernel
theorem dX8_told_143 : decode cX8_told 143 = .ok (.ireturn, 1) := by decide +kernel
theorem dX8_told_144 : decode cX8_told 144 = .ok (.iconst (-1), 1) := by decide +kernel
theorem dX8_told_145 : decode cX8_told 145 = .ok (.ireturn, 1) := by decide +kernel
theorem dX8_isDirection_0 : decode cX8_isDirection 0 = .ok (.iload_n 0, 1) := by decide +kernel
theorem dX8_isDirection_1 : decode cX8_isDirection 1 = .ok (.ifCond .lt 13, 3) := by decide +kernel
theorem dX8_isDirection_4 : decode cX8_isDirection 4 = .ok (.iload_n 0, 1) := by decide +kernel
theorem dX8_isDirection_5 : decode cX8_isDirection 5 = .ok (.bipush 10, 2) := by decide +kernel
theorem dX8_isDirection_7 : decode cX8_isDirection 7 = .ok (.if_icmp .ge 7, 3) := by decide +kernel
theorem dX8_isDirection_10 : decode cX8_isDirection 10 = .ok (.iconst 1, 1) := by decide +kernel
theorem dX8_isDirection_11 : decode cX8_isDirection 11 = .ok (.goto 4, 3) := by decide +kernel
theorem dX8_isDirection_14 : decode cX8_isDirection 14 = .ok (.iconst 0, 1) := by decide +kernel
theorem dX8_isDirection_15 : decode cX8_isDirection 15 = .ok (.ireturn, 1) := by decide +kernel
theorem dX8_isKind_0 : decode cX8_isKind 0 = .ok (.iload_n 0, 1) := by decide +kernel
theorem dX8_isKind_1 : decode cX8_isKind 1 = .ok (.ifCond .lt 13, 3) := by decide +kernel
theorem dX8_isKind_4 : decode cX8_isKind 4 = .ok (.iload_n 0, 1) := by decide +kernel
theorem dX8_isKind_5 : decode cX8_isKind 5 = .ok (.bipush 10, 2) := by decide +kernel
theorem dX8_isKind_7 : decode cX8_isKind 7 = .ok (.if_icmp .ge 7, 3) := by decide +kernel
theorem dX8_isKind_10 : decode cX8_isKind 10 = .ok (.iconst 1, 1) := by decide +kernel
theorem dX8_isKind_11 : decode cX8_isKind 11 = .ok (.goto 4, 3) := by decide +kernel
theorem dX8_isKind_14 : decode cX8_isKind 14 = .ok (.iconst 0, 1) := by decide +kernel
theorem dX8_isKind_15 : decode cX8_isKind 15 = .ok (.ireturn, 1) := by decide +kernel
theorem dX8_playToNewRoom_0 : decode cX8_playToNewRoom 0 = .ok (.aload_n 0, 1) := by decide +kernel
theorem dX8_playToNewRoom_1 : decode cX8_playToNewRoom 1 = .ok (.getfield 10, 3) := by decide +kernel
theorem dX8_playToNewRoom_4 : decode cX8_playToNewRoom 4 = .ok (.invokevirtual 61, 3) := by decide +kernel
theorem dX8_playToNewRoom_7 : decode cX8_playToNewRoom 7 = .ok (.ifCond .ne 13, 3) := by decide +kernel
theorem dX8_playToNewRoom_10 : decode cX8_playToNewRoom 10 = .ok (.aload_n 0, 1) := by decide +kernel
theorem dX8_playToNewRoom_11 : decode cX8_playToNewRoom 11 = .ok (.getfield 10, 3) := by decide +kernel
theorem dX8_playToNewRoom_14 : decode cX8_playToNewRoom 14 = .ok (.invokevirtual 82, 3) := by decide +kernel
theorem dX8_playToNewRoom_17 : decode cX8_playToNewRoom 17 = .ok (.ifCond .eq 6, 3) := by decide +kernel
theorem dX8_playToNewRoom_20 : decode cX8_playToNewRoom 20 = .ok (.bipush (-4), 2) := by decide +kernel
theorem dX8_playToNewRoom_22 : decode cX8_playToNewRoom 22 = .ok (.ireturn, 1) := by decide +kernel
theorem dX8_playToNewRoom_23 : decode cX8_playToNewRoom 23 = .ok (.aload_n 0, 1) := by decide +kernel
theorem dX8_playToNewRoom_24 : decode cX8_playToNewRoom 24 = .ok (.getfield 10, 3) := by decide +kernel
theorem dX8_playToNewRoom_27 : decode cX8_playToNewRoom 27 = .ok (.iconst 1, 1) := by decide +kernel
theorem dX8_playToNewRoom_28 : decode cX8_playToNewRoom 28 = .ok (.aload_n 0, 1) := by decide +kernel
theorem dX8_playToNewRoom_29 : decode cX8_playToNewRoom 29 = .ok (.getfield 10, 3) := by decide +kernel
theorem dX8_playToNewRoom_32 : decode cX8_playToNewRoom 32 = .ok (.getfield 205, 3) := by decide +kernel
theorem dX8_playToNewRoom_35 : decode cX8_playToNewRoom 35 = .ok (.iload_n 1, 1) := by decide +kernel
theorem dX8_playToNewRoom_36 : decode cX8_playToNewRoom 36 = .ok (.iaload, 1) := by decide +kernel
theorem dX8_playToNewRoom_37 : decode cX8_playToNewRoom 37 = .ok (.invokevirtual 65, 3) := by decide +kernel
theorem dX8_playToNewRoom_40 : decode cX8_playToNewRoom 40 = .ok (.istore_n 3, 1) := by decide +kernel
theorem dX8_playToNewRoom_41 : decode cX8_playToNewRoom 41 = .ok (.aload_n 0, 1) := by decide +kernel
theorem dX8_playToNewRoom_42 : decode cX8_playToNewRoom 42 = .ok (.getfield 10, 3) := by decide +kernel
theorem dX8_playToNewRoom_45 : decode cX8_playToNewRoom 45 = .ok (.iload_n 1, 1) := by decide +kernel
theorem dX8_playToNewRoom_46 : decode cX8_playToNewRoom 46 = .ok (.iload_n 2, 1) := by decide +kernel
theorem dX8_playToNewRoom_47 : decode cX8_playToNewRoom 47 = .ok (.iload_n 3, 1) := by decide +kernel
theorem dX8_playToNewRoom_48 : decode cX8_playToNewRoom 48 = .ok (.iconst 0, 1) := by decide +kernel
theorem dX8_playToNewRoom_49 : decode cX8_playToNewRoom 49 = .ok (.invokevirtual 85, 3) := by decide +kernel
theorem dX8_playToNewRoom_52 : decode cX8_playToNewRoom 52 = .ok (.pop, 1) := by decide +kernel
theorem dX8_playToNewRoom_53 : decode cX8_playToNewRoom 53 = .ok (.iload_n 3, 1) := by decide +kernel
theorem dX8_playToNewRoom_54 : decode cX8_playToNewRoom 54 = .ok (.ireturn, 1) := by decide +kernel
theorem dX8_playToRoom_0 : decode cX8_playToRoom 0 = .ok (.aload_n 0, 1) := by decide +kernel
theorem dX8_playToRoom_1 : decode cX8_playToRoom 1 = .ok (.getfield 10, 3) := by decide +kernel
theorem dX8_playToRoom_4 : decode cX8_playToRoom 4 = .ok (.iload_n 3, 1) := by decide +kernel
theorem dX8_playToRoom_5 : decode cX8_playToRoom 5 = .ok (.getstatic 78, 3) := by decide +kernel
theorem dX8_playToRoom_8 : decode cX8_playToRoom 8 = .ok (.iload_n 2, 1) := by decide +kernel
theorem dX8_playToRoom_9 : decode cX8_playToRoom 9 = .ok (.iaload, 1) := by decide +kernel
theorem dX8_playToRoom_10 : decode cX8_playToRoom 10 = .ok (.invokevirtual 75, 3) := by decide +kernel
theorem dX8_playToRoom_13 : decode cX8_playToRoom 13 = .ok (.istore 4, 2) := by decide +kernel
theorem dX8_playToRoom_15 : decode cX8_playToRoom 15 = .ok (.iload 4, 2) := by decide +kernel
theorem dX8_playToRoom_17 : decode cX8_playToRoom 17 = .ok (.ifCond .lt 43, 3) := by decide +kernel
theorem dX8_playToRoom_20 : decode cX8_playToRoom 20 = .ok (.aload_n 0, 1) := by decide +kernel
theorem dX8_playToRoom_21 : decode cX8_playToRoom 21 = .ok (.getfield 10, 3) := by decide +kernel
theorem dX8_playToRoom_24 : decode cX8_playToRoom 24 = .ok (.getfield 126, 3) := by decide +kernel
theorem dX8_playToRoom_27 : decode cX8_playToRoom 27 = .ok (.iload 4, 2) := by decide +kernel
theorem dX8_playToRoom_29 : decode cX8_playToRoom 29 = .ok (.baload, 1) := by decide +kernel
theorem dX8_playToRoom_30 : decode cX8_playToRoom 30 = .ok (.ifCond .ne 30, 3) := by decide +kernel
theorem dX8_playToRoom_33 : decode cX8_playToRoom 33 = .ok (.aload_n 0, 1) := by decide +kernel
theorem dX8_playToRoom_34 : decode cX8_playToRoom 34 = .ok (.getfield 10, 3) := by decide +kernel
theorem dX8_playToRoom_37 : decode cX8_playToRoom 37 = .ok (.getfield 123, 3) := by decide +kernel
theorem dX8_playToRoom_40 : decode cX8_playToRoom 40 = .ok (.iload 4, 2) := by decide +kernel
theorem dX8_playToRoom_42 : decode cX8_playToRoom 42 = .ok (.iaload, 1) := by decide +kernel
theorem dX8_playToRoom_43 : decode cX8_playToRoom 43 = .ok (.iload_n 1, 1) := by decide +kernel
theorem dX8_playToRoom_44 : decode cX8_playToRoom 44 = .ok (.if_icmp .ne 16, 3) := by decide +kernel
theorem dX8_playToRoom_47 : decode cX8_playToRoom 47 = .ok (.aload_n 0, 1) := by decide +kernel
theorem dX8_playToRoom_48 : decode cX8_playToRoom 48 = .ok (.getfield 10, 3) := by decide +kernel
theorem dX8_playToRoom_51 : decode cX8_playToRoom 51 = .ok (.getfield 126, 3) := by decide +kernel
theorem dX8_playToRoom_54 : decode cX8_playToRoom 54 = .ok (.iload 4, 2) := by decide +kernel
theorem dX8_playToRoom_56 : decode cX8_playToRoom 56 = .ok (.iconst 1, 1) := by decide +kernel
theorem dX8_playToRoom_57 : decode cX8_playToRoom 57 = .ok (.bastore, 1) := by decide +kernel
theorem dX8_playToRoom_58 : decode cX8_playToRoom 58 = .ok (.iload_n 3, 1) := by decide +kernel
theorem dX8_playToRoom_59 : decode cX8_playToRoom 59 = .ok (.ireturn, 1) := by decide +kernel
theorem dX8_playToRoom_60 : decode cX8_playToRoom 60 = .ok (.aload_n 0, 1) := by decide +kernel
theorem dX8_playToRoom_61 : decode cX8_playToRoom 61 = .ok (.getfield 10, 3) := by decide +kernel
theorem dX8_playToRoom_64 : decode cX8_playToRoom 64 = .ok (.invokevirtual 82, 3) := by decide +kernel
theorem dX8_playToRoom_67 : decode cX8_playToRoom 67 = .ok (.ifCond .eq 6, 3) := by decide +kernel
theorem dX8_playToRoom_70 : decode cX8_playToRoom 70 = .ok (.bipush (-4), 2) := by decide +kernel
theorem dX8_playToRoom_72 : decode cX8_playToRoom 72 = .ok (.ireturn, 1) := by decide +kernel
theorem dX8_playToRoom_73 : decode cX8_playToRoom 73 = .ok (.aload_n 0, 1) := by decide +kernel
theorem dX8_playToRoom_74 : decode cX8_playToRoom 74 = .ok (.getfield 10, 3) := by decide +kernel
theorem dX8_playToRoom_77 : decode cX8_playToRoom 77 = .ok (.iload_n 1, 1) := by decide +kernel
theorem dX8_playToRoom_78 : decode cX8_playToRoom 78 = .ok (.iload_n 2, 1) := by decide +kernel
theorem dX8_playToRoom_79 : decode cX8_playToRoom 79 = .ok (.iload_n 3, 1) := by decide +kernel
theorem dX8_playToRoom_80 : decode cX8_playToRoom 80 = .ok (.iconst 0, 1) := by decide +kernel
theorem dX8_playToRoom_81 : decode cX8_playToRoom 81 = .ok (.invokevirtual 85, 3) := by decide +kernel
theorem dX8_playToRoom_84 : decode cX8_playToRoom 84 = .ok (.pop, 1) := by decide +kernel
theorem dX8_playToRoom_85 : decode cX8_playToRoom 85 = .ok (.iload_n 3, 1) := by decide +kernel
theorem dX8_playToRoom_86 : decode cX8_playToRoom 86 = .ok (.ireturn, 1) := by decide +kernel
theorem dJ9_abs_0f7a4_0 : decode cJ9_abs_0f7a4 0 = .ok (.iload_n 0, 1) := by decide +kernel
theorem dJ9_abs_0f7a4_1 : decode cJ9_abs_0f7a4 1 = .ok (.ifCond .ge 8, 3) := by decide +kernel
theorem dJ9_abs_0f7a4_4 : decode cJ9_abs_0f7a4 4 = .ok (.iload_n 0, 1) := by decide +kernel
theorem dJ9_abs_0f7a4_5 : decode cJ9_abs_0f7a4 5 = .ok (.ineg, 1) := by decide +kernel
theorem dJ9_abs_0f7a4_6 : decode cJ9_abs_0f7a4 6 = .ok (.goto 4, 3) := by decide +kernel
theorem dJ9_abs_0f7a4_9 : decode cJ9_abs_0f7a4 9 = .ok (.iload_n 0, 1) := by decide +kernel
theorem dJ9_abs_0f7a4_10 : decode cJ9_abs_0f7a4 10 = .ok (.ireturn, 1) := by decide +kernel
theorem dJ9_max_7cf53_0 : decode cJ9_max_7cf53 0 = .ok (.iload_n 0, 1) := by decide +kernel
theorem dJ9_max_7cf53_1 : decode cJ9_max_7cf53 1 = .ok (.iload_n 1, 1) := by decide +kernel
theorem dJ9_max_7cf53_2 : decode cJ9_max_7cf53 2 = .ok (.if_icmp .lt 7, 3) := by decide +kernel
theorem dJ9_max_7cf53_5 : decode cJ9_max_7cf53 5 = .ok (.iload_n 0, 1) := by decide +kernel
theorem dJ9_max_7cf53_6 : decode cJ9_max_7cf53 6 = .ok (.goto 4, 3) := by decide +kernel
theorem dJ9_max_7cf53_9 : decode cJ9_max_7cf53 9 = .ok (.iload_n 1, 1) := by decide +kernel
theorem dJ9_max_7cf53_10 : decode cJ9_max_7cf53 10 = .ok (.ireturn, 1) := by decide +kernel
theorem dJ9_min_7cf53_0 : decode cJ9_min_7cf53 0 = .ok (.iload_n 0, 1) := by decide +kernel
theorem dJ9_min_7cf53_1 : decode cJ9_min_7cf53 1 = .ok (.iload_n 1, 1) := by decide +kernel
theorem dJ9_min_7cf53_2 : decode cJ9_min_7cf53 2 = .ok (.if_icmp .gt 7, 3) := by decide +kernel
theorem dJ9_min_7cf53_5 : decode cJ9_min_7cf53 5 = .ok (.iload_n 0, 1) := by decide +kernel
theorem dJ9_min_7cf53_6 : decode cJ9_min_7cf53 6 = .ok (.goto 4, 3) := by decide +kernel
theorem dJ9_min_7cf53_9 : decode cJ9_min_7cf53 9 = .ok (.iload_n 1, 1) := by decide +kernel
theorem dJ9_min_7cf53_10 : decode cJ9_min_7cf53 10 = .ok (.ireturn, 1) := by decide +kernel
theorem dL_law_0 : decode cL_law 0 = .ok (.new 7, 3) := by decide +kernel
theorem dL_law_3 : decode cL_law 3 = .ok (.dup, 1) := by decide +kernel
theorem dL_law_4 : decode cL_law 4 = .ok (.invokespecial 9, 3) := by decide +kernel
theorem dL_law_7 : decode cL_law 7 = .ok (.astore_n 1, 1) := by decide +kernel
theorem dL_law_8 : decode cL_law 8 = .ok (.new 10, 3) := by decide +kernel
theorem dL_law_11 : decode cL_law 11 = .ok (.dup, 1) := by decide +kernel
theorem dL_law_12 : decode cL_law 12 = .ok (.invokespecial 12, 3) := by decide +kernel
theorem dL_law_15 : decode cL_law 15 = .ok (.astore_n 2, 1) := by decide +kernel
theorem dL_law_16 : decode cL_law 16 = .ok (.iconst 0, 1) := by decide +kernel
theorem dL_law_17 : decode cL_law 17 = .ok (.istore_n 3, 1) := by decide +kernel
theorem dL_law_18 : decode cL_law 18 = .ok (.iload_n 3, 1) := by decide +kernel
theorem dL_law_19 : decode cL_law 19 = .ok (.aload_n 0, 1) := by decide +kernel
theorem dL_law_20 : decode cL_law 20 = .ok (.arraylength, 1) := by decide +kernel
theorem dL_law_21 : decode cL_law 21 = .ok (.iconst 5, 1) := by decide +kernel
theorem dL_law_22 : decode cL_law 22 = .ok (.isub, 1) := by decide +kernel
theorem dL_law_23 : decode cL_law 23 = .ok (.if_icmp .gt 707, 3) := by decide +kernel
theorem dL_law_26 : decode cL_law 26 = .ok (.aload_n 0, 1) := by decide +kernel
theorem dL_law_27 : decode cL_law 27 = .ok (.iload_n 3, 1) := by decide +kernel
theorem dL_law_28 : decode cL_law 28 = .ok (.iaload, 1) := by decide +kernel
theorem dL_law_29 : decode cL_law 29 = .ok (.bipush 31, 2) := by decide +kernel
theorem dL_law_31 : decode cL_law 31 = .ok (.iand, 1) := by decide +kernel
theorem dL_law_32 : decode cL_law 32 = .ok (.tableswitch 692 0 19 #[96, 129, 198, 221, 264, 297, 320, 353, 386, 409, 432, 445, 468, 481, 514, 537, 550, 583, 626, 669], 96) := by decide +kernel
theorem dL_law_128 : decode cL_law 128 = .ok (.aload_n 1, 1) := by decide +kernel
theorem dL_law_129 : decode cL_law 129 = .ok (.aload_n 0, 1) := by decide +kernel
theorem dL_law_130 : decode cL_law 130 = .ok (.iload_n 3, 1) := by decide +kernel
theorem dL_law_131 : decode cL_law 131 = .ok (.iconst 1, 1) := by decide +kernel
theorem dL_law_132 : decode cL_law 132 = .ok (.iadd, 1) := by decide +kernel
theorem dL_law_133 : decode cL_law 133 = .ok (.iaload, 1) := by decide +kernel
theorem dL_law_134 : decode cL_law 134 = .ok (.aload_n 0, 1) := by decide +kernel
theorem dL_law_135 : decode cL_law 135 = .ok (.iload_n 3, 1) := by decide +kernel
theorem dL_law_136 : decode cL_law 136 = .ok (.iconst 2, 1) := by decide +kernel
theorem dL_law_137 : decode cL_law 137 = .ok (.iadd, 1) := by decide +kernel
theorem dL_law_138 : decode cL_law 138 = .ok (.iaload, 1) := by decide +kernel
theorem dL_law_139 : decode cL_law 139 = .ok (.invokevirtual 13, 3) := by decide +kernel
theorem dL_law_142 : decode cL_law 142 = .ok (.aload_n 2, 1) := by decide +kernel
theorem dL_law_143 : decode cL_law 143 = .ok (.aload_n 0, 1) := by decide +kernel
theorem dL_law_144 : decode cL_law 144 = .ok (.iload_n 3, 1) := by decide +kernel
theorem dL_law_145 : decode cL_law 145 = .ok (.iconst 1, 1) := by decide +kernel
theorem dL_law_146 : decode cL_law 146 = .ok (.iadd, 1) := by decide +kernel
theorem dL_law_147 : decode cL_law 147 = .ok (.iaload, 1) := by decide +kernel
theorem dL_law_148 : decode cL_law 148 = .ok (.aload_n 0, 1) := by decide +kernel
theorem dL_law_149 : decode cL_law 149 = .ok (.iload_n 3, 1) := by decide +kernel
theorem dL_law_150 : decode cL_law 150 = .ok (.iconst 2, 1) := by decide +kernel
theorem dL_law_151 : decode cL_law 151 = .ok (.iadd, 1) := by decide +kernel
theorem dL_law_152 : decode cL_law 152 = .ok (.iaload, 1) := by decide +kernel
theorem dL_law_153 : decode cL_law 153 = .ok (.invokevirtual 17, 3) := by decide +kernel
theorem dL_law_156 : decode cL_law 156 = .ok (.if_icmp .eq 568, 3) := by decide +kernel
theorem dL_law_159 : decode cL_law 159 = .ok (.iconst 0, 1) := by decide +kernel
theorem dL_law_160 : decode cL_law 160 = .ok (.ireturn, 1) := by decide +kernel
theorem dL_law_161 : decode cL_law 161 = .ok (.aload_n 1, 1) := by decide +kernel
theorem dL_law_162 : decode cL_law 162 = .ok (.aload_n 0, 1) := by decide +kernel
theorem dL_law_163 : decode cL_law 163 = .ok (.iload_n 3, 1) := by decide +kernel
theorem dL_law_164 : decode cL_law 164 = .ok (.iconst 1, 1) := by decide +kernel
theorem dL_law_165 : decode cL_law 165 = .ok (.iadd, 1) := by decide +kernel
theorem dL_law_166 : decode cL_law 166 = .ok (.iaload, 1) := by decide +kernel
theorem dL_law_167 : decode cL_law 167 = .ok (.aload_n 0, 1) := by decide +kernel
theorem dL_law_168 : decode cL_law 168 = .ok (.iload_n 3, 1) := by decide +kernel
theorem dL_law_169 : decode cL_law 169 = .ok (.iconst 2, 1) := by decide +kernel
theorem dL_law_170 : decode cL_law 170 = .ok (.iadd, 1) := by decide +kernel
theorem dL_law_171 : decode cL_law 171 = .ok (.iaload, 1) := by decide +kernel
theorem dL_law_172 : decode cL_law 172 = .ok (.aload_n 0, 1) := by decide +kernel
theorem dL_law_173 : decode cL_law 173 = .ok (.iload_n 3, 1) := by decide +kernel
theorem dL_law_174 : decode cL_law 174 = .ok (.iconst 3, 1) := by decide +kernel
theorem dL_law_175 : decode cL_law 175 = .ok (.iadd, 1) := by decide +kernel
theorem dL_law_176 : decode cL_law 176 = .ok (.iaload, 1) := by decide +kernel
theorem dL_law_177 : decode cL_law 177 = .ok (.aload_n 0, 1) := by decide +kernel
theorem dL_law_178 : decode cL_law 178 = .ok (.iload_n 3, 1) := by decide +kernel
theorem dL_law_179 : decode cL_law 179 = .ok (.iconst 4, 1) := by decide +kernel
theorem dL_law_180 : decode cL_law 180 = .ok (.iadd, 1) := by decide +kernel
theorem dL_law_181 : decode cL_law 181 = .ok (.iaload, 1) := by decide +kernel
theorem dL_law_182 : decode cL_law 182 = .ok (.ifCond .eq 7, 3) := by decide +kernel
theorem dL_law_185 : decode cL_law 185 = .ok (.iconst 1, 1) := by decide +kernel
theorem dL_law_186 : decode cL_law 186 = .ok (.goto 4, 3) := by decide +kernel
theorem dL_law_189 : decode cL_law 189 = .ok (.iconst 0, 1) := by decide +kernel
theorem dL_law_190 : decode cL_law 190 = .ok (.invokevirtual 18, 3) := by decide +kernel
theorem dL_law_193 : decode cL_law 193 = .ok (.aload_n 2, 1) := by decide +kernel
theorem dL_law_194 : decode cL_law 194 = .ok (.aload_n 0, 1) := by decide +kernel
theorem dL_law_195 : decode cL_law 195 = .ok (.iload_n 3, 1) := by decide +kernel
theorem dL_law_196 : decode cL_law 196 = .ok (.iconst 1, 1) := by decide +kernel
theorem dL_law_197 : decode cL_law 197 = .ok (.iadd, 1) := by decide +kernel
theorem dL_law_198 : decode cL_law 198 = .ok (.iaload, 1) := by decide +kernel
theorem dL_law_199 : decode cL_law 199 = .ok (.aload_n 0, 1) := by decide +kernel
theorem dL_law_200 : decode cL_law 200 = .ok (.iload_n 3, 1) := by decide +kernel
theorem dL_law_201 : decode cL_law 201 = .ok (.iconst 2, 1) := by decide +kernel
theorem dL_law_202 : decode cL_law 202 = .ok (.iadd, 1) := by decide +kernel
theorem dL_law_203 : decode cL_law 203 = .ok (.iaload, 1) := by decide +kernel
theorem dL_law_204 : decode cL_law 204 = .ok (.aload_n 0, 1) := by decide +kernel
theorem dL_law_205 : decode cL_law 205 = .ok (.iload_n 3, 1) := by decide +kernel
theorem dL_law_206 : decode cL_law 206 = .ok (.iconst 3, 1) := by decide +kernel
theorem dL_law_207 : decode cL_law 207 = .ok (.iadd, 1) := by decide +kernel
theorem dL_law_208 : decode cL_law 208 = .ok (.iaload, 1) := by decide +kernel
theorem dL_law_209 : decode cL_law 209 = .ok (.aload_n 0, 1) := by decide +kernel
theorem dL_law_210 : decode cL_law 210 = .ok (.iload_n 3, 1) := by decide +kernel
theorem dL_law_211 : decode cL_law 211 = .ok (.iconst 4, 1) := by decide +kernel
theorem dL_law_212 : decode cL_law 212 = .ok (.iadd, 1) := by decide +kernel
theorem dL_law_213 : decode cL_law 213 = .ok (.iaload, 1) := by decide +kernel
theorem dL_law_214 : decode cL_law 214 = .ok (.ifCond .eq 7, 3) := by decide +kernel
theorem dL_law_217 : decode cL_law 217 = .ok (.iconst 1, 1) := by decide +kernel
theorem dL_law_218 : decode cL_law 218 = .ok (.goto 4, 3) := by decide +kernel
theorem dL_law_221 : decode cL_law 221 = .ok (.iconst 0, 1) := by decide +kernel
theorem dL_law_222 : decode cL_law 222 = .ok (.invokevirtual 22, 3) := by decide +kernel
theorem dL_law_225 : decode cL_law 225 = .ok (.if_icmp .eq 499, 3) := by decide +kernel
theorem dL_law_228 : decode cL_law 228 = .ok (.iconst 0, 1) := by decide +kernel
theorem dL_law_229 : decode cL_law 229 = .ok (.ireturn, 1) := by decide +kernel
theorem dL_law_230 : decode cL_law 230 = .ok (.aload_n 1, 1) := by decide +kernel
theorem dL_law_231 : decode cL_law 231 = .ok (.aload_n 0, 1) := by decide +kernel
theorem dL_law_232 : decode cL_law 232 = .ok (.iload_n 3, 1) := by decide +kernel
theorem dL_law_233 : decode cL_law 233 = .ok (.iconst 1, 1) := by decide +kernel
theorem dL_law_234 : decode cL_law 234 = .ok (.iadd, 1) := by decide +kernel
theorem dL_law_235 : decode cL_law 235 = .ok (.iaload, 1) := by decide +kernel
theorem dL_law_236 : decode cL_law 236 = .ok (.invokevirtual 23, 3) := by decide +kernel
theorem dL_law_239 : decode cL_law 239 = .ok (.aload_n 2, 1) := by decide +kernel
theorem dL_law_240 : decode cL_law 240 = .ok (.aload_n 0, 1) := by decide +kernel
theorem dL_law_241 : decode cL_law 241 = .ok (.iload_n 3, 1) := by decide +kernel
theorem dL_law_242 : decode cL_law 242 = .ok (.iconst 1, 1) := by decide +kernel
theorem dL_law_243 : decode cL_law 243 = .ok (.iadd, 1) := by decide +kernel
theorem dL_law_244 : decode cL_law 244 = .ok (.iaload, 1) := by decide +kernel
theorem dL_law_245 : decode cL_law 245 = .ok (.invokevirtual 27, 3) := by decide +kernel
theorem dL_law_248 : decode cL_law 248 = .ok (.if_icmp .eq 476, 3) := by decide +kernel
theorem dL_law_251 : decode cL_law 251 = .ok (.iconst 0, 1) := by decide +kernel
theorem dL_law_252 : decode cL_law 252 = .ok (.ireturn, 1) := by decide +kernel
theorem dL_law_253 : decode cL_law 253 = .ok (.aload_n 1, 1) := by decide +kernel
theorem dL_law_254 : decode cL_law 254 = .ok (.aload_n 0, 1) := by decide +kernel
theorem dL_law_255 : decode cL_law 255 = .ok (.iload_n 3, 1) := by decide +kernel
theorem dL_law_256 : decode cL_law 256 = .ok (.iconst 1, 1) := by decide +kernel
theorem dL_law_257 : decode cL_law 257 = .ok (.iadd, 1) := by decide +kernel
theorem dL_law_258 : decode cL_law 258 = .ok (.iaload, 1) := by decide +kernel
theorem dL_law_259 : decode cL_law 259 = .ok (.aload_n 0, 1) := by decide +kernel
theorem dL_law_260 : decode cL_law 260 = .ok (.iload_n 3, 1) := by decide +kernel
theorem dL_law_261 : decode cL_law 261 = .ok (.iconst 2, 1) := by decide +kernel
theorem dL_law_262 : decode cL_law 262 = .ok (.iadd, 1) := by decide +kernel
theorem dL_law_263 : decode cL_law 263 = .ok (.iaload, 1) := by decide +kernel
theorem dL_law_264 : decode cL_law 264 = .ok (.aload_n 0, 1) := by decide +kernel
theorem dL_law_265 : decode cL_law 265 = .ok (.iload_n 3, 1) := by decide +kernel
theorem dL_law_266 : decode cL_law 266 = .ok (.iconst 3, 1) := by decide +kernel
theorem dL_law_267 : decode cL_law 267 = .ok (.iadd, 1) := by decide +kernel
theorem dL_law_268 : decode cL_law 268 = .ok (.iaload, 1) := by decide +kernel
theorem dL_law_269 : decode cL_law 269 = .ok (.invokevirtual 28, 3) := by decide +kernel
theorem dL_law_272 : decode cL_law 272 = .ok (.aload_n 2, 1) := by decide +kernel
theorem dL_law_273 : decode cL_law 273 = .ok (.aload_n 0, 1) := by decide +kernel
theorem dL_law_274 : decode cL_law 274 = .ok (.iload_n 3, 1) := by decide +kernel
theorem dL_law_275 : decode cL_law 275 = .ok (.iconst 1, 1) := by decide +kernel
theorem dL_law_276 : decode cL_law 276 = .ok (.iadd, 1) := by decide +kernel
theorem dL_law_277 : decode cL_law 277 = .ok (.iaload, 1) := by decide +kernel
theorem dL_law_278 : decode cL_law 278 = .ok (.aload_n 0, 1) := by decide +kernel
theorem dL_law_279 : decode cL_law 279 = .ok (.iload_n 3, 1) := by decide +kernel
theorem dL_law_280 : decode cL_law 280 = .ok (.iconst 2, 1) := by decide +kernel
theorem dL_law_281 : decode cL_law 281 = .ok (.iadd, 1) := by decide +kernel
theorem dL_law_282 : decode cL_law 282 = .ok (.iaload, 1) := by decide +kernel
theorem dL_law_283 : decode cL_law 283 = .ok (.aload_n 0, 1) := by decide +kernel
theorem dL_law_284 : decode cL_law 284 = .ok (.iload_n 3, 1) := by decide +kernel
theorem dL_law_285 : decode cL_law 285 = .ok (.iconst 3, 1) := by decide +kernel
theorem dL_law_286 : decode cL_law 286 = .ok (.iadd, 1) := by decide +kernel
theorem dL_law_287 : decode cL_law 287 = .ok (.iaload, 1) := by decide +kernel
theorem dL_law_288 : decode cL_law 288 = .ok (.invokevirtual 32, 3) := by decide +kernel
theorem dL_law_291 : decode cL_law 291 = .ok (.if_icmp .eq 433, 3) := by decide +kernel
theorem dL_law_294 : decode cL_law 294 = .ok (.iconst 0, 1) := by decide +kernel
theorem dL_law_295 : decode cL_law 295 = .ok (.ireturn, 1) := by decide +kernel
theorem dL_law_296 : decode cL_law 296 = .ok (.aload_n 1, 1) := by decide +kernel
theorem dL_law_297 : decode cL_law 297 = .ok (.aload_n 0, 1) := by decide +kernel
theorem dL_law_298 : decode cL_law 298 = .ok (.iload_n 3, 1) := by decide +kernel
theorem dL_law_299 : decode cL_law 299 = .ok (.iconst 1, 1) := by decide +kernel
theorem dL_law_300 : decode cL_law 300 = .ok (.iadd, 1) := by decide +kernel
theorem dL_law_301 : decode cL_law 301 = .ok (.iaload, 1) := by decide +kernel
theorem dL_law_302 : decode cL_law 302 = .ok (.aload_n 0, 1) := by decide +kernel
theorem dL_law_303 : decode cL_law 303 = .ok (.iload_n 3, 1) := by decide +kernel
theorem dL_law_304 : decode cL_law 304 = .ok (.iconst 2, 1) := by decide +kernel
theorem dL_law_305 : decode cL_law 305 = .ok (.iadd, 1) := by decide +kernel
theorem dL_law_306 : decode cL_law 306 = .ok (.iaload, 1) := by decide +kernel
theorem dL_law_307 : decode cL_law 307 = .ok (.invokevirtual 33, 3) := by decide +kernel
theorem dL_law_310 : decode cL_law 310 = .ok (.aload_n 2, 1) := by decide +kernel
theorem dL_law_311 : decode cL_law 311 = .ok (.aload_n 0, 1) := by decide +kernel
theorem dL_law_312 : decode cL_law 312 = .ok (.iload_n 3, 1) := by decide +kernel
theorem dL_law_313 : decode cL_law 313 = .ok (.iconst 1, 1) := by decide +kernel
theorem dL_law_314 : decode cL_law 314 = .ok (.iadd, 1) := by decide +kernel
theorem dL_law_315 : decode cL_law 315 = .ok (.iaload, 1) := by decide +kernel
theorem dL_law_316 : decode cL_law 316 = .ok (.aload_n 0, 1) := by decide +kernel
theorem dL_law_317 : decode cL_law 317 = .ok (.iload_n 3, 1) := by decide +kernel
theorem dL_law_318 : decode cL_law 318 = .ok (.iconst 2, 1) := by decide +kernel
theorem dL_law_319 : decode cL_law 319 = .ok (.iadd, 1) := by decide +kernel
theorem dL_law_320 : decode cL_law 320 = .ok (.iaload, 1) := by decide +kernel
theorem dL_law_321 : decode cL_law 321 = .ok (.invokevirtual 36, 3) := by decide +kernel
theorem dL_law_324 : decode cL_law 324 = .ok (.if_icmp .eq 400, 3) := by decide +kernel
theorem dL_law_327 : decode cL_law 327 = .ok (.iconst 0, 1) := by decide +kernel
theorem dL_law_328 : decode cL_law 328 = .ok (.ireturn, 1) := by decide +kernel
theorem dL_law_329 : decode cL_law 329 = .ok (.aload_n 1, 1) := by decide +kernel
theorem dL_law_330 : decode cL_law 330 = .ok (.aload_n 0, 1) := by decide +kernel
theorem dL_law_331 : decode cL_law 331 = .ok (.iload_n 3, 1) := by decide +kernel
theorem dL_law_332 : decode cL_law 332 = .ok (.iconst 1, 1) := by decide +kernel
theorem dL_law_333 : decode cL_law 333 = .ok (.iadd, 1) := by decide +kernel
theorem dL_law_334 : decode cL_law 334 = .ok (.iaload, 1) := by decide +kernel
theorem dL_law_335 : decode cL_law 335 = .ok (.invokevirtual 37, 3) := by decide +kernel
theorem dL_law_338 : decode cL_law 338 = .ok (.aload_n 2, 1) := by decide +kernel
theorem dL_law_339 : decode cL_law 339 = .ok (.aload_n 0, 1) := by decide +kernel
theorem dL_law_340 : decode cL_law 340 = .ok (.iload_n 3, 1) := by decide +kernel
theorem dL_law_341 : decode cL_law 341 = .ok (.iconst 1, 1) := by decide +kernel
theorem dL_law_342 : decode cL_law 342 = .ok (.iadd, 1) := by decide +kernel
theorem dL_law_343 : decode cL_law 343 = .ok (.iaload, 1) := by decide +kernel
theorem dL_law_344 : decode cL_law 344 = .ok (.invokevirtual 40, 3) := by decide +kernel
theorem dL_law_347 : decode cL_law 347 = .ok (.if_icmp .eq 377, 3) := by decide +kernel
theorem dL_law_350 : decode cL_law 350 = .ok (.iconst 0, 1) := by decide +kernel
theorem dL_law_351 : decode cL_law 351 = .ok (.ireturn, 1) := by decide +kernel
theorem dL_law_352 : decode cL_law 352 = .ok (.aload_n 1, 1) := by decide +kernel
theorem dL_law_353 : decode cL_law 353 = .ok (.aload_n 0, 1) := by decide +kernel
theorem dL_law_354 : decode cL_law 354 = .ok (.iload_n 3, 1) := by decide +kernel
theorem dL_law_355 : decode cL_law 355 = .ok (.iconst 1, 1) := by decide +kernel
theorem dL_law_356 : decode cL_law 356 = .ok (.iadd, 1) := by decide +kernel
theorem dL_law_357 : decode cL_law 357 = .ok (.iaload, 1) := by decide +kernel
theorem dL_law_358 : decode cL_law 358 = .ok (.aload_n 0, 1) := by decide +kernel
theorem dL_law_359 : decode cL_law 359 = .ok (.iload_n 3, 1) := by decide +kernel
theorem dL_law_360 : decode cL_law 360 = .ok (.iconst 2, 1) := by decide +kernel
theorem dL_law_361 : decode cL_law 361 = .ok (.iadd, 1) := by decide +kernel
theorem dL_law_362 : decode cL_law 362 = .ok (.iaload, 1) := by decide +kernel
theorem dL_law_363 : decode cL_law 363 = .ok (.invokevirtual 41, 3) := by decide +kernel
theorem dL_law_366 : decode cL_law 366 = .ok (.aload_n 2, 1) := by decide +kernel
theorem dL_law_367 : decode cL_law 367 = .ok (.aload_n 0, 1) := by decide +kernel
theorem dL_law_368 : decode cL_law 368 = .ok (.iload_n 3, 1) := by decide +kernel
theorem dL_law_369 : decode cL_law 369 = .ok (.iconst 1, 1) := by decide +kernel
theorem dL_law_370 : decode cL_law 370 = .ok (.iadd, 1) := by decide +kernel
theorem dL_law_371 : decode cL_law 371 = .ok (.iaload, 1) := by decide +kernel
theorem dL_law_372 : decode cL_law 372 = .ok (.aload_n 0, 1) := by decide +kernel
theorem dL_law_373 : decode cL_law 373 = .ok (.iload_n 3, 1) := by decide +kernel
theorem dL_law_374 : decode cL_law 374 = .ok (.iconst 2, 1) := by decide +kernel
theorem dL_law_375 : decode cL_law 375 = .ok (.iadd, 1) := by decide +kernel
theorem dL_law_376 : decode cL_law 376 = .ok (.iaload, 1) := by decide +kernel
theorem dL_law_377 : decode cL_law 377 = .ok (.invokevirtual 44, 3) := by decide +kernel
theorem dL_law_380 : decode cL_law 380 = .ok (.if_icmp .eq 344, 3) := by decide +kernel
theorem dL_law_383 : decode cL_law 383 = .ok (.iconst 0, 1) := by decide +kernel
theorem dL_law_384 : decode cL_law 384 = .ok (.ireturn, 1) := by decide +kernel
theorem dL_law_385 : decode cL_law 385 = .ok (.aload_n 1, 1) := by decide +kernel
theorem dL_law_386 : decode cL_law 386 = .ok (.aload_n 0, 1) := by decide +kernel
theorem dL_law_387 : decode cL_law 387 = .ok (.iload_n 3, 1) := by decide +kernel
theorem dL_law_388 : decode cL_law 388 = .ok (.iconst 1, 1) := by decide +kernel
theorem dL_law_389 : decode cL_law 389 = .ok (.iadd, 1) := by decide +kernel
theorem dL_law_390 : decode cL_law 390 = .ok (.iaload, 1) := by decide +kernel
theorem dL_law_391 : decode cL_law 391 = .ok (.aload_n 0, 1) := by decide +kernel
theorem dL_law_392 : decode cL_law 392 = .ok (.iload_n 3, 1) := by decide +kernel
theorem dL_law_393 : decode cL_law 393 = .ok (.iconst 2, 1) := by decide +kernel
theorem dL_law_394 : decode cL_law 394 = .ok (.iadd, 1) := by decide +kernel
theorem dL_law_395 : decode cL_law 395 = .ok (.iaload, 1) := by decide +kernel
theorem dL_law_396 : decode cL_law 396 = .ok (.invokevirtual 45, 3) := by decide +kernel
theorem dL_law_399 : decode cL_law 399 = .ok (.aload_n 2, 1) := by decide +kernel
theorem dL_law_400 : decode cL_law 400 = .ok (.aload_n 0, 1) := by decide +kernel
theorem dL_law_401 : decode cL_law 401 = .ok (.iload_n 3, 1) := by decide +kernel
theorem dL_law_402 : decode cL_law 402 = .ok (.iconst 1, 1) := by decide +kernel
theorem dL_law_403 : decode cL_law 403 = .ok (.iadd, 1) := by decide +kernel
theorem dL_law_404 : decode cL_law 404 = .ok (.iaload, 1) := by decide +kernel
theorem dL_law_405 : decode cL_law 405 = .ok (.aload_n 0, 1) := by decide +kernel
theorem dL_law_406 : decode cL_law 406 = .ok (.iload_n 3, 1) := by decide +kernel
theorem dL_law_407 : decode cL_law 407 = .ok (.iconst 2, 1) := by decide +kernel
theorem dL_law_408 : decode cL_law 408 = .ok (.iadd, 1) := by decide +kernel
theorem dL_law_409 : decode cL_law 409 = .ok (.iaload, 1) := by decide +kernel
theorem dL_law_410 : decode cL_law 410 = .ok (.invokevirtual 48, 3) := by decide +kernel
theorem dL_law_413 : decode cL_law 413 = .ok (.if_icmp .eq 311, 3) := by decide +kernel
theorem dL_law_416 : decode cL_law 416 = .ok (.iconst 0, 1) := by decide +kernel
theorem dL_law_417 : decode cL_law 417 = .ok (.ireturn, 1) := by decide +kernel
theorem dL_law_418 : decode cL_law 418 = .ok (.aload_n 1, 1) := by decide +kernel
theorem dL_law_419 : decode cL_law 419 = .ok (.aload_n 0, 1) := by decide +kernel
theorem dL_law_420 : decode cL_law 420 = .ok (.iload_n 3, 1) := by decide +kernel
theorem dL_law_421 : decode cL_law 421 = .ok (.iconst 1, 1) := by decide +kernel
theorem dL_law_422 : decode cL_law 422 = .ok (.iadd, 1) := by decide +kernel
theorem dL_law_423 : decode cL_law 423 = .ok (.iaload, 1) := by decide +kernel
theorem dL_law_424 : decode cL_law 424 = .ok (.invokevirtual 49, 3) := by decide +kernel
theorem dL_law_427 : decode cL_law 427 = .ok (.aload_n 2, 1) := by decide +kernel
theorem dL_law_428 : decode cL_law 428 = .ok (.aload_n 0, 1) := by decide +kernel
theorem dL_law_429 : decode cL_law 429 = .ok (.iload_n 3, 1) := by decide +kernel
theorem dL_law_430 : decode cL_law 430 = .ok (.iconst 1, 1) := by decide +kernel
theorem dL_law_431 : decode cL_law 431 = .ok (.iadd, 1) := by decide +kernel
theorem dL_law_432 : decode cL_law 432 = .ok (.iaload, 1) := by decide +kernel
theorem dL_law_433 : decode cL_law 433 = .ok (.invokevirtual 52, 3) := by decide +kernel
theorem dL_law_436 : decode cL_law 436 = .ok (.if_icmp .eq 288, 3) := by decide +kernel
theorem dL_law_439 : decode cL_law 439 = .ok (.iconst 0, 1) := by decide +kernel
theorem dL_law_440 : decode cL_law 440 = .ok (.ireturn, 1) := by decide +kernel
theorem dL_law_441 : decode cL_law 441 = .ok (.aload_n 1, 1) := by decide +kernel
theorem dL_law_442 : decode cL_law 442 = .ok (.aload_n 0, 1) := by decide +kernel
theorem dL_law_443 : decode cL_law 443 = .ok (.iload_n 3, 1) := by decide +kernel
theorem dL_law_444 : decode cL_law 444 = .ok (.iconst 1, 1) := by decide +kernel
theorem dL_law_445 : decode cL_law 445 = .ok (.iadd, 1) := by decide +kernel
theorem dL_law_446 : decode cL_law 446 = .ok (.iaload, 1) := by decide +kernel
theorem dL_law_447 : decode cL_law 447 = .ok (.invokevirtual 53, 3) := by decide +kernel
theorem dL_law_450 : decode cL_law 450 = .ok (.aload_n 2, 1) := by decide +kernel
theorem dL_law_451 : decode cL_law 451 = .ok (.aload_n 0, 1) := by decide +kernel
theorem dL_law_452 : decode cL_law 452 = .ok (.iload_n 3, 1) := by decide +kernel
theorem dL_law_453 : decode cL_law 453 = .ok (.iconst 1, 1) := by decide +kernel
theorem dL_law_454 : decode cL_law 454 = .ok (.iadd, 1) := by decide +kernel
theorem dL_law_455 : decode cL_law 455 = .ok (.iaload, 1) := by decide +kernel
theorem dL_law_456 : decode cL_law 456 = .ok (.invokevirtual 56, 3) := by decide +kernel
theorem dL_law_459 : decode cL_law 459 = .ok (.if_icmp .eq 265, 3) := by decide +kernel
theorem dL_law_462 : decode cL_law 462 = .ok (.iconst 0, 1) := by decide +kernel
theorem dL_law_463 : decode cL_law 463 = .ok (.ireturn, 1) := by decide +kernel
theorem dL_law_464 : decode cL_law 464 = .ok (.aload_n 1, 1) := by decide +kernel
theorem dL_law_465 : decode cL_law 465 = .ok (.invokevirtual 57, 3) := by decide +kernel
theorem dL_law_468 : decode cL_law 468 = .ok (.aload_n 2, 1) := by decide +kernel
theorem dL_law_469 : decode cL_law 469 = .ok (.invokevirtual 61, 3) := by decide +kernel
theorem dL_law_472 : decode cL_law 472 = .ok (.if_icmp .eq 252, 3) := by decide +kernel
theorem dL_law_475 : decode cL_law 475 = .ok (.iconst 0, 1) := by decide +kernel
theorem dL_law_476 : decode cL_law 476 = .ok (.ireturn, 1) := by decide +kernel
theorem dL_law_477 : decode cL_law 477 = .ok (.aload_n 1, 1) := by decide +kernel
theorem dL_law_478 : decode cL_law 478 = .ok (.aload_n 0, 1) := by decide +kernel
theorem dL_law_479 : decode cL_law 479 = .ok (.iload_n 3, 1) := by decide +kernel
theorem dL_law_480 : decode cL_law 480 = .ok (.iconst 1, 1) := by decide +kernel
theorem dL_law_481 : decode cL_law 481 = .ok (.iadd, 1) := by decide +kernel
theorem dL_law_482 : decode cL_law 482 = .ok (.iaload, 1) := by decide +kernel
theorem dL_law_483 : decode cL_law 483 = .ok (.invokevirtual 62, 3) := by decide +kernel
theorem dL_law_486 : decode cL_law 486 = .ok (.aload_n 2, 1) := by decide +kernel
theorem dL_law_487 : decode cL_law 487 = .ok (.aload_n 0, 1) := by decide +kernel
theorem dL_law_488 : decode cL_law 488 = .ok (.iload_n 3, 1) := by decide +kernel
theorem dL_law_489 : decode cL_law 489 = .ok (.iconst 1, 1) := by decide +kernel
theorem dL_law_490 : decode cL_law 490 = .ok (.iadd, 1) := by decide +kernel
theorem dL_law_491 : decode cL_law 491 = .ok (.iaload, 1) := by decide +kernel
theorem dL_law_492 : decode cL_law 492 = .ok (.invokevirtual 65, 3) := by decide +kernel
theorem dL_law_495 : decode cL_law 495 = .ok (.if_icmp .eq 229, 3) := by decide +kernel
theorem dL_law_498 : decode cL_law 498 = .ok (.iconst 0, 1) := by decide +kernel
theorem dL_law_499 : decode cL_law 499 = .ok (.ireturn, 1) := by decide +kernel
theorem dL_law_500 : decode cL_law 500 = .ok (.aload_n 1, 1) := by decide +kernel
theorem dL_law_501 : decode cL_law 501 = .ok (.invokevirtual 66, 3) := by decide +kernel
theorem dL_law_504 : decode cL_law 504 = .ok (.aload_n 2, 1) := by decide +kernel
theorem dL_law_505 : decode cL_law 505 = .ok (.invokevirtual 69, 3) := by decide +kernel
theorem dL_law_508 : decode cL_law 508 = .ok (.if_icmp .eq 216, 3) := by decide +kernel
theorem dL_law_511 : decode cL_law 511 = .ok (.iconst 0, 1) := by decide +kernel
theorem dL_law_512 : decode cL_law 512 = .ok (.ireturn, 1) := by decide +kernel
theorem dL_law_513 : decode cL_law 513 = .ok (.aload_n 1, 1) := by decide +kernel
theorem dL_law_514 : decode cL_law 514 = .ok (.aload_n 0, 1) := by decide +kernel
theorem dL_law_515 : decode cL_law 515 = .ok (.iload_n 3, 1) := by decide +kernel
theorem dL_law_516 : decode cL_law 516 = .ok (.iconst 1, 1) := by decide +kernel
theorem dL_law_517 : decode cL_law 517 = .ok (.iadd, 1) := by decide +kernel
theorem dL_law_518 : decode cL_law 518 = .ok (.iaload, 1) := by decide +kernel
theorem dL_law_519 : decode cL_law 519 = .ok (.aload_n 0, 1) := by decide +kernel
theorem dL_law_520 : decode cL_law 520 = .ok (.iload_n 3, 1) := by decide +kernel
theorem dL_law_521 : decode cL_law 521 = .ok (.iconst 2, 1) := by decide +kernel
theorem dL_law_522 : decode cL_law 522 = .ok (.iadd, 1) := by decide +kernel
theorem dL_law_523 : decode cL_law 523 = .ok (.iaload, 1) := by decide +kernel
theorem dL_law_524 : decode cL_law 524 = .ok (.invokevirtual 70, 3) := by decide +kernel
theorem dL_law_527 : decode cL_law 527 = .ok (.aload_n 2, 1) := by decide +kernel
theorem dL_law_528 : decode cL_law 528 = .ok (.aload_n 0, 1) := by decide +kernel
theorem dL_law_529 : decode cL_law 529 = .ok (.iload_n 3, 1) := by decide +kernel
theorem dL_law_530 : decode cL_law 530 = .ok (.iconst 1, 1) := by decide +kernel
theorem dL_law_531 : decode cL_law 531 = .ok (.iadd, 1) := by decide +kernel
theorem dL_law_532 : decode cL_law 532 = .ok (.iaload, 1) := by decide +kernel
theorem dL_law_533 : decode cL_law 533 = .ok (.aload_n 0, 1) := by decide +kernel
theorem dL_law_534 : decode cL_law 534 = .ok (.iload_n 3, 1) := by decide +kernel
theorem dL_law_535 : decode cL_law 535 = .ok (.iconst 2, 1) := by decide +kernel
theorem dL_law_536 : decode cL_law 536 = .ok (.iadd, 1) := by decide +kernel
theorem dL_law_537 : decode cL_law 537 = .ok (.iaload, 1) := by decide +kernel
theorem dL_law_538 : decode cL_law 538 = .ok (.invokevirtual 73, 3) := by decide +kernel
end
section
theorem dL_law_541 : decode cL_law 541 = .ok (.if_icmp .eq 183, 3) := by decide +kernel
theorem dL_law_544 : decode cL_law 544 = .ok (.iconst 0, 1) := by decide +kernel
theorem dL_law_545 : decode cL_law 545 = .ok (.ireturn, 1) := by decide +kernel
theorem dL_law_546 : decode cL_law 546 = .ok (.aload_n 1, 1) := by decide +kernel
theorem dL_law_547 : decode cL_law 547 = .ok (.aload_n 0, 1) := by decide +kernel
theorem dL_law_548 : decode cL_law 548 = .ok (.iload_n 3, 1) := by decide +kernel
theorem dL_law_549 : decode cL_law 549 = .ok (.iconst 1, 1) := by decide +kernel
theorem dL_law_550 : decode cL_law 550 = .ok (.iadd, 1) := by decide +kernel
theorem dL_law_551 : decode cL_law 551 = .ok (.iaload, 1) := by decide +kernel
theorem dL_law_552 : decode cL_law 552 = .ok (.invokevirtual 74, 3) := by decide +kernel
theorem dL_law_555 : decode cL_law 555 = .ok (.aload_n 2, 1) := by decide +kernel
theorem dL_law_556 : decode cL_law 556 = .ok (.aload_n 0, 1) := by decide +kernel
theorem dL_law_557 : decode cL_law 557 = .ok (.iload_n 3, 1) := by decide +kernel
theorem dL_law_558 : decode cL_law 558 = .ok (.iconst 1, 1) := by decide +kernel
theorem dL_law_559 : decode cL_law 559 = .ok (.iadd, 1) := by decide +kernel
theorem dL_law_560 : decode cL_law 560 = .ok (.iaload, 1) := by decide +kernel
theorem dL_law_561 : decode cL_law 561 = .ok (.invokevirtual 77, 3) := by decide +kernel
theorem dL_law_564 : decode cL_law 564 = .ok (.if_icmp .eq 160, 3) := by decide +kernel
theorem dL_law_567 : decode cL_law 567 = .ok (.iconst 0, 1) := by decide +kernel
theorem dL_law_568 : decode cL_law 568 = .ok (.ireturn, 1) := by decide +kernel
theorem dL_law_569 : decode cL_law 569 = .ok (.aload_n 1, 1) := by decide +kernel
theorem dL_law_570 : decode cL_law 570 = .ok (.invokevirtual 78, 3) := by decide +kernel
theorem dL_law_573 : decode cL_law 573 = .ok (.aload_n 2, 1) := by decide +kernel
theorem dL_law_574 : decode cL_law 574 = .ok (.invokevirtual 81, 3) := by decide +kernel
theorem dL_law_577 : decode cL_law 577 = .ok (.if_icmp .eq 147, 3) := by decide +kernel
theorem dL_law_580 : decode cL_law 580 = .ok (.iconst 0, 1) := by decide +kernel
theorem dL_law_581 : decode cL_law 581 = .ok (.ireturn, 1) := by decide +kernel
theorem dL_law_582 : decode cL_law 582 = .ok (.aload_n 1, 1) := by decide +kernel
theorem dL_law_583 : decode cL_law 583 = .ok (.aload_n 0, 1) := by decide +kernel
theorem dL_law_584 : decode cL_law 584 = .ok (.iload_n 3, 1) := by decide +kernel
theorem dL_law_585 : decode cL_law 585 = .ok (.iconst 1, 1) := by decide +kernel
theorem dL_law_586 : decode cL_law 586 = .ok (.iadd, 1) := by decide +kernel
theorem dL_law_587 : decode cL_law 587 = .ok (.iaload, 1) := by decide +kernel
theorem dL_law_588 : decode cL_law 588 = .ok (.aload_n 0, 1) := by decide +kernel
theorem dL_law_589 : decode cL_law 589 = .ok (.iload_n 3, 1) := by decide +kernel
theorem dL_law_590 : decode cL_law 590 = .ok (.iconst 2, 1) := by decide +kernel
theorem dL_law_591 : decode cL_law 591 = .ok (.iadd, 1) := by decide +kernel
theorem dL_law_592 : decode cL_law 592 = .ok (.iaload, 1) := by decide +kernel
theorem dL_law_593 : decode cL_law 593 = .ok (.invokevirtual 82, 3) := by decide +kernel
theorem dL_law_596 : decode cL_law 596 = .ok (.aload_n 2, 1) := by decide +kernel
theorem dL_law_597 : decode cL_law 597 = .ok (.aload_n 0, 1) := by decide +kernel
theorem dL_law_598 : decode cL_law 598 = .ok (.iload_n 3, 1) := by decide +kernel
theorem dL_law_599 : decode cL_law 599 = .ok (.iconst 1, 1) := by decide +kernel
theorem dL_law_600 : decode cL_law 600 = .ok (.iadd, 1) := by decide +kernel
theorem dL_law_601 : decode cL_law 601 = .ok (.iaload, 1) := by decide +kernel
theorem dL_law_602 : decode cL_law 602 = .ok (.aload_n 0, 1) := by decide +kernel
theorem dL_law_603 : decode cL_law 603 = .ok (.iload_n 3, 1) := by decide +kernel
theorem dL_law_604 : decode cL_law 604 = .ok (.iconst 2, 1) := by decide +kernel
theorem dL_law_605 : decode cL_law 605 = .ok (.iadd, 1) := by decide +kernel
theorem dL_law_606 : decode cL_law 606 = .ok (.iaload, 1) := by decide +kernel
theorem dL_law_607 : decode cL_law 607 = .ok (.invokevirtual 85, 3) := by decide +kernel
theorem dL_law_610 : decode cL_law 610 = .ok (.if_icmp .eq 114, 3) := by decide +kernel
theorem dL_law_613 : decode cL_law 613 = .ok (.iconst 0, 1) := by decide +kernel
theorem dL_law_614 : decode cL_law 614 = .ok (.ireturn, 1) := by decide +kernel
theorem dL_law_615 : decode cL_law 615 = .ok (.aload_n 1, 1) := by decide +kernel
theorem dL_law_616 : decode cL_law 616 = .ok (.aload_n 0, 1) := by decide +kernel
theorem dL_law_617 : decode cL_law 617 = .ok (.iload_n 3, 1) := by decide +kernel
theorem dL_law_618 : decode cL_law 618 = .ok (.iconst 1, 1) := by decide +kernel
theorem dL_law_619 : decode cL_law 619 = .ok (.iadd, 1) := by decide +kernel
theorem dL_law_620 : decode cL_law 620 = .ok (.iaload, 1) := by decide +kernel
theorem dL_law_621 : decode cL_law 621 = .ok (.aload_n 0, 1) := by decide +kernel
theorem dL_law_622 : decode cL_law 622 = .ok (.iload_n 3, 1) := by decide +kernel
theorem dL_law_623 : decode cL_law 623 = .ok (.iconst 2, 1) := by decide +kernel
theorem dL_law_624 : decode cL_law 624 = .ok (.iadd, 1) := by decide +kernel
theorem dL_law_625 : decode cL_law 625 = .ok (.iaload, 1) := by decide +kernel
theorem dL_law_626 : decode cL_law 626 = .ok (.aload_n 0, 1) := by decide +kernel
theorem dL_law_627 : decode cL_law 627 = .ok (.iload_n 3, 1) := by decide +kernel
theorem dL_law_628 : decode cL_law 628 = .ok (.iconst 3, 1) := by decide +kernel
theorem dL_law_629 : decode cL_law 629 = .ok (.iadd, 1) := by decide +kernel
theorem dL_law_630 : decode cL_law 630 = .ok (.iaload, 1) := by decide +kernel
theorem dL_law_631 : decode cL_law 631 = .ok (.invokevirtual 86, 3) := by decide +kernel
theorem dL_law_634 : decode cL_law 634 = .ok (.aload_n 2, 1) := by decide +kernel
theorem dL_law_635 : decode cL_law 635 = .ok (.aload_n 0, 1) := by decide +kernel
theorem dL_law_636 : decode cL_law 636 = .ok (.iload_n 3, 1) := by decide +kernel
theorem dL_law_637 : decode cL_law 637 = .ok (.iconst 1, 1) := by decide +kernel
theorem dL_law_638 : decode cL_law 638 = .ok (.iadd, 1) := by decide +kernel
theorem dL_law_639 : decode cL_law 639 = .ok (.iaload, 1) := by decide +kernel
theorem dL_law_640 : decode cL_law 640 = .ok (.aload_n 0, 1) := by decide +kernel
theorem dL_law_641 : decode cL_law 641 = .ok (.iload_n 3, 1) := by decide +kernel
theorem dL_law_642 : decode cL_law 642 = .ok (.iconst 2, 1) := by decide +kernel
theorem dL_law_643 : decode cL_law 643 = .ok (.iadd, 1) := by decide +kernel
theorem dL_law_644 : decode cL_law 644 = .ok (.iaload, 1) := by decide +kernel
theorem dL_law_645 : decode cL_law 645 = .ok (.aload_n 0, 1) := by decide +kernel
theorem dL_law_646 : decode cL_law 646 = .ok (.iload_n 3, 1) := by decide +kernel
theorem dL_law_647 : decode cL_law 647 = .ok (.iconst 3, 1) := by decide +kernel
theorem dL_law_648 : decode cL_law 648 = .ok (.iadd, 1) := by decide +kernel
theorem dL_law_649 : decode cL_law 649 = .ok (.iaload, 1) := by decide +kernel
theorem dL_law_650 : decode cL_law 650 = .ok (.invokevirtual 89, 3) := by decide +kernel
theorem dL_law_653 : decode cL_law 653 = .ok (.if_icmp .eq 71, 3) := by decide +kernel
theorem dL_law_656 : decode cL_law 656 = .ok (.iconst 0, 1) := by decide +kernel
theorem dL_law_657 : decode cL_law 657 = .ok (.ireturn, 1) := by decide +kernel
theorem dL_law_658 : decode cL_law 658 = .ok (.aload_n 1, 1) := by decide +kernel
theorem dL_law_659 : decode cL_law 659 = .ok (.aload_n 0, 1) := by decide +kernel
theorem dL_law_660 : decode cL_law 660 = .ok (.iload_n 3, 1) := by decide +kernel
theorem dL_law_661 : decode cL_law 661 = .ok (.iconst 1, 1) := by decide +kernel
theorem dL_law_662 : decode cL_law 662 = .ok (.iadd, 1) := by decide +kernel
theorem dL_law_663 : decode cL_law 663 = .ok (.iaload, 1) := by decide +kernel
theorem dL_law_664 : decode cL_law 664 = .ok (.aload_n 0, 1) := by decide +kernel
theorem dL_law_665 : decode cL_law 665 = .ok (.iload_n 3, 1) := by decide +kernel
theorem dL_law_666 : decode cL_law 666 = .ok (.iconst 2, 1) := by decide +kernel
theorem dL_law_667 : decode cL_law 667 = .ok (.iadd, 1) := by decide +kernel
theorem dL_law_668 : decode cL_law 668 = .ok (.iaload, 1) := by decide +kernel
theorem dL_law_669 : decode cL_law 669 = .ok (.aload_n 0, 1) := by decide +kernel
theorem dL_law_670 : decode cL_law 670 = .ok (.iload_n 3, 1) := by decide +kernel
theorem dL_law_671 : decode cL_law 671 = .ok (.iconst 3, 1) := by decide +kernel
theorem dL_law_672 : decode cL_law 672 = .ok (.iadd, 1) := by decide +kernel
theorem dL_law_673 : decode cL_law 673 = .ok (.iaload, 1) := by decide +kernel
theorem dL_law_674 : decode cL_law 674 = .ok (.invokevirtual 90, 3) := by decide +kernel
theorem dL_law_677 : decode cL_law 677 = .ok (.aload_n 2, 1) := by decide +kernel
theorem dL_law_678 : decode cL_law 678 = .ok (.aload_n 0, 1) := by decide +kernel
theorem dL_law_679 : decode cL_law 679 = .ok (.iload_n 3, 1) := by decide +kernel
theorem dL_law_680 : decode cL_law 680 = .ok (.iconst 1, 1) := by decide +kernel
theorem dL_law_681 : decode cL_law 681 = .ok (.iadd, 1) := by decide +kernel
theorem dL_law_682 : decode cL_law 682 = .ok (.iaload, 1) := by decide +kernel
theorem dL_law_683 : decode cL_law 683 = .ok (.aload_n 0, 1) := by decide +kernel
theorem dL_law_684 : decode cL_law 684 = .ok (.iload_n 3, 1) := by decide +kernel
theorem dL_law_685 : decode cL_law 685 = .ok (.iconst 2, 1) := by decide +kernel
theorem dL_law_686 : decode cL_law 686 = .ok (.iadd, 1) := by decide +kernel
theorem dL_law_687 : decode cL_law 687 = .ok (.iaload, 1) := by decide +kernel
theorem dL_law_688 : decode cL_law 688 = .ok (.aload_n 0, 1) := by decide +kernel
theorem dL_law_689 : decode cL_law 689 = .ok (.iload_n 3, 1) := by decide +kernel
theorem dL_law_690 : decode cL_law 690 = .ok (.iconst 3, 1) := by decide +kernel
theorem dL_law_691 : decode cL_law 691 = .ok (.iadd, 1) := by decide +kernel
theorem dL_law_692 : decode cL_law 692 = .ok (.iaload, 1) := by decide +kernel
theorem dL_law_693 : decode cL_law 693 = .ok (.invokevirtual 93, 3) := by decide +kernel
theorem dL_law_696 : decode cL_law 696 = .ok (.if_icmp .eq 28, 3) := by decide +kernel
theorem dL_law_699 : decode cL_law 699 = .ok (.iconst 0, 1) := by decide +kernel
theorem dL_law_700 : decode cL_law 700 = .ok (.ireturn, 1) := by decide +kernel
theorem dL_law_701 : decode cL_law 701 = .ok (.aload_n 1, 1) := by decide +kernel
theorem dL_law_702 : decode cL_law 702 = .ok (.aload_n 0, 1) := by decide +kernel
theorem dL_law_703 : decode cL_law 703 = .ok (.iload_n 3, 1) := by decide +kernel
theorem dL_law_704 : decode cL_law 704 = .ok (.iconst 1, 1) := by decide +kernel
theorem dL_law_705 : decode cL_law 705 = .ok (.iadd, 1) := by decide +kernel
theorem dL_law_706 : decode cL_law 706 = .ok (.iaload, 1) := by decide +kernel
theorem dL_law_707 : decode cL_law 707 = .ok (.invokevirtual 94, 3) := by decide +kernel
theorem dL_law_710 : decode cL_law 710 = .ok (.aload_n 2, 1) := by decide +kernel
theorem dL_law_711 : decode cL_law 711 = .ok (.aload_n 0, 1) := by decide +kernel
theorem dL_law_712 : decode cL_law 712 = .ok (.iload_n 3, 1) := by decide +kernel
theorem dL_law_713 : decode cL_law 713 = .ok (.iconst 1, 1) := by decide +kernel
theorem dL_law_714 : decode cL_law 714 = .ok (.iadd, 1) := by decide +kernel
theorem dL_law_715 : decode cL_law 715 = .ok (.iaload, 1) := by decide +kernel
theorem dL_law_716 : decode cL_law 716 = .ok (.invokevirtual 97, 3) := by decide +kernel
theorem dL_law_719 : decode cL_law 719 = .ok (.if_icmp .eq 5, 3) := by decide +kernel
theorem dL_law_722 : decode cL_law 722 = .ok (.iconst 0, 1) := by decide +kernel
theorem dL_law_723 : decode cL_law 723 = .ok (.ireturn, 1) := by decide +kernel
theorem dL_law_724 : decode cL_law 724 = .ok (.iinc 3 5, 3) := by decide +kernel
theorem dL_law_727 : decode cL_law 727 = .ok (.goto (-709), 3) := by decide +kernel
theorem dL_law_730 : decode cL_law 730 = .ok (.iconst 1, 1) := by decide +kernel
theorem dL_law_731 : decode cL_law 731 = .ok (.ireturn, 1) := by decide +kernel
theorem dX9_init_0 : decode cX9_init 0 = .ok (.aload_n 0, 1) := by decide +kernel
theorem dX9_init_1 : decode cX9_init 1 = .ok (.invokespecial 1, 3) := by decide +kernel
theorem dX9_init_4 : decode cX9_init 4 = .ok (.aload_n 0, 1) := by decide +kernel
theorem dX9_init_5 : decode cX9_init 5 = .ok (.bipush 24, 2) := by decide +kernel
theorem dX9_init_7 : decode cX9_init 7 = .ok (.newarray .int, 2) := by decide +kernel
theorem dX9_init_9 : decode cX9_init 9 = .ok (.putfield 7, 3) := by decide +kernel
theorem dX9_init_12 : decode cX9_init 12 = .ok (.aload_n 0, 1) := by decide +kernel
theorem dX9_init_13 : decode cX9_init 13 = .ok (.bipush 24, 2) := by decide +kernel
theorem dX9_init_15 : decode cX9_init 15 = .ok (.newarray .int, 2) := by decide +kernel
theorem dX9_init_17 : decode cX9_init 17 = .ok (.putfield 13, 3) := by decide +kernel
theorem dX9_init_20 : decode cX9_init 20 = .ok (.aload_n 0, 1) := by decide +kernel
theorem dX9_init_21 : decode cX9_init 21 = .ok (.bipush 24, 2) := by decide +kernel
theorem dX9_init_23 : decode cX9_init 23 = .ok (.newarray .int, 2) := by decide +kernel
theorem dX9_init_25 : decode cX9_init 25 = .ok (.putfield 16, 3) := by decide +kernel
theorem dX9_init_28 : decode cX9_init 28 = .ok (.aload_n 0, 1) := by decide +kernel
theorem dX9_init_29 : decode cX9_init 29 = .ok (.bipush 60, 2) := by decide +kernel
theorem dX9_init_31 : decode cX9_init 31 = .ok (.newarray .int, 2) := by decide +kernel
theorem dX9_init_33 : decode cX9_init 33 = .ok (.putfield 19, 3) := by decide +kernel
theorem dX9_init_36 : decode cX9_init 36 = .ok (.aload_n 0, 1) := by decide +kernel
theorem dX9_init_37 : decode cX9_init 37 = .ok (.bipush 60, 2) := by decide +kernel
theorem dX9_init_39 : decode cX9_init 39 = .ok (.newarray .int, 2) := by decide +kernel
theorem dX9_init_41 : decode cX9_init 41 = .ok (.putfield 22, 3) := by decide +kernel
theorem dX9_init_44 : decode cX9_init 44 = .ok (.aload_n 0, 1) := by decide +kernel
theorem dX9_init_45 : decode cX9_init 45 = .ok (.bipush 60, 2) := by decide +kernel
theorem dX9_init_47 : decode cX9_init 47 = .ok (.newarray .int, 2) := by decide +kernel
theorem dX9_init_49 : decode cX9_init 49 = .ok (.putfield 25, 3) := by decide +kernel
theorem dX9_init_52 : decode cX9_init 52 = .ok (.aload_n 0, 1) := by decide +kernel
theorem dX9_init_53 : decode cX9_init 53 = .ok (.bipush 60, 2) := by decide +kernel
theorem dX9_init_55 : decode cX9_init 55 = .ok (.newarray .boolean, 2) := by decide +kernel
theorem dX9_init_57 : decode cX9_init 57 = .ok (.putfield 28, 3) := by decide +kernel
theorem dX9_init_60 : decode cX9_init 60 = .ok (.aload_n 0, 1) := by decide +kernel
theorem dX9_init_61 : decode cX9_init 61 = .ok (.bipush 24, 2) := by decide +kernel
theorem dX9_init_63 : decode cX9_init 63 = .ok (.newarray .boolean, 2) := by decide +kernel
theorem dX9_init_65 : decode cX9_init 65 = .ok (.putfield 32, 3) := by decide +kernel
theorem dX9_init_68 : decode cX9_init 68 = .ok (.aload_n 0, 1) := by decide +kernel
theorem dX9_init_69 : decode cX9_init 69 = .ok (.bipush 24, 2) := by decide +kernel
theorem dX9_init_71 : decode cX9_init 71 = .ok (.newarray .int, 2) := by decide +kernel
theorem dX9_init_73 : decode cX9_init 73 = .ok (.putfield 35, 3) := by decide +kernel
theorem dX9_init_76 : decode cX9_init 76 = .ok (.aload_n 0, 1) := by decide +kernel
theorem dX9_init_77 : decode cX9_init 77 = .ok (.bipush 24, 2) := by decide +kernel
theorem dX9_init_79 : decode cX9_init 79 = .ok (.newarray .int, 2) := by decide +kernel
theorem dX9_init_81 : decode cX9_init 81 = .ok (.putfield 38, 3) := by decide +kernel
theorem dX9_init_84 : decode cX9_init 84 = .ok (.aload_n 0, 1) := by decide +kernel
theorem dX9_init_85 : decode cX9_init 85 = .ok (.bipush 24, 2) := by decide +kernel
theorem dX9_init_87 : decode cX9_init 87 = .ok (.newarray .int, 2) := by decide +kernel
theorem dX9_init_89 : decode cX9_init 89 = .ok (.putfield 41, 3) := by decide +kernel
theorem dX9_init_92 : decode cX9_init 92 = .ok (.aload_n 0, 1) := by decide +kernel
theorem dX9_init_93 : decode cX9_init 93 = .ok (.bipush 24, 2) := by decide +kernel
theorem dX9_init_95 : decode cX9_init 95 = .ok (.newarray .boolean, 2) := by decide +kernel
theorem dX9_init_97 : decode cX9_init 97 = .ok (.putfield 44, 3) := by decide +kernel
theorem dX9_init_100 : decode cX9_init 100 = .ok (.aload_n 0, 1) := by decide +kernel
theorem dX9_init_101 : decode cX9_init 101 = .ok (.bipush 24, 2) := by decide +kernel
theorem dX9_init_103 : decode cX9_init 103 = .ok (.newarray .int, 2) := by decide +kernel
theorem dX9_init_105 : decode cX9_init 105 = .ok (.putfield 47, 3) := by decide +kernel
theorem dX9_init_108 : decode cX9_init 108 = .ok (.aload_n 0, 1) := by decide +kernel
theorem dX9_init_109 : decode cX9_init 109 = .ok (.bipush 24, 2) := by decide +kernel
theorem dX9_init_111 : decode cX9_init 111 = .ok (.newarray .int, 2) := by decide +kernel
theorem dX9_init_113 : decode cX9_init 113 = .ok (.putfield 50, 3) := by decide +kernel
theorem dX9_init_116 : decode cX9_init 116 = .ok (.aload_n 0, 1) := by decide +kernel
theorem dX9_init_117 : decode cX9_init 117 = .ok (.bipush 24, 2) := by decide +kernel
theorem dX9_init_119 : decode cX9_init 119 = .ok (.newarray .boolean, 2) := by decide +kernel
theorem dX9_init_121 : decode cX9_init 121 = .ok (.putfield 53, 3) := by decide +kernel
theorem dX9_init_124 : decode cX9_init 124 = .ok (.aload_n 0, 1) := by decide +kernel
theorem dX9_init_125 : decode cX9_init 125 = .ok (.bipush 24, 2) := by decide +kernel
theorem dX9_init_127 : decode cX9_init 127 = .ok (.newarray .int, 2) := by decide +kernel
theorem dX9_init_129 : decode cX9_init 129 = .ok (.putfield 56, 3) := by decide +kernel
theorem dX9_init_132 : decode cX9_init 132 = .ok (.aload_n 0, 1) := by decide +kernel
theorem dX9_init_133 : decode cX9_init 133 = .ok (.bipush 24, 2) := by decide +kernel
theorem dX9_init_135 : decode cX9_init 135 = .ok (.newarray .int, 2) := by decide +kernel
theorem dX9_init_137 : decode cX9_init 137 = .ok (.putfield 59, 3) := by decide +kernel
theorem dX9_init_140 : decode cX9_init 140 = .ok (.aload_n 0, 1) := by decide +kernel
theorem dX9_init_141 : decode cX9_init 141 = .ok (.bipush 24, 2) := by decide +kernel
theorem dX9_init_143 : decode cX9_init 143 = .ok (.newarray .int, 2) := by decide +kernel
theorem dX9_init_145 : decode cX9_init 145 = .ok (.putfield 62, 3) := by decide +kernel
theorem dX9_init_148 : decode cX9_init 148 = .ok (.aload_n 0, 1) := by decide +kernel
theorem dX9_init_149 : decode cX9_init 149 = .ok (.bipush 24, 2) := by decide +kernel
theorem dX9_init_151 : decode cX9_init 151 = .ok (.newarray .int, 2) := by decide +kernel
theorem dX9_init_153 : decode cX9_init 153 = .ok (.putfield 65, 3) := by decide +kernel
theorem dX9_init_156 : decode cX9_init 156 = .ok (.aload_n 0, 1) := by decide +kernel
theorem dX9_init_157 : decode cX9_init 157 = .ok (.bipush 24, 2) := by decide +kernel
theorem dX9_init_159 : decode cX9_init 159 = .ok (.newarray .boolean, 2) := by decide +kernel
theorem dX9_init_161 : decode cX9_init 161 = .ok (.putfield 68, 3) := by decide +kernel
theorem dX9_init_164 : decode cX9_init 164 = .ok (.aload_n 0, 1) := by decide +kernel
theorem dX9_init_165 : decode cX9_init 165 = .ok (.bipush 24, 2) := by decide +kernel
theorem dX9_init_167 : decode cX9_init 167 = .ok (.newarray .int, 2) := by decide +kernel
theorem dX9_init_169 : decode cX9_init 169 = .ok (.putfield 71, 3) := by decide +kernel
theorem dX9_init_172 : decode cX9_init 172 = .ok (.aload_n 0, 1) := by decide +kernel
theorem dX9_init_173 : decode cX9_init 173 = .ok (.bipush 24, 2) := by decide +kernel
theorem dX9_init_175 : decode cX9_init 175 = .ok (.newarray .int, 2) := by decide +kernel
theorem dX9_init_177 : decode cX9_init 177 = .ok (.putfield 74, 3) := by decide +kernel
theorem dX9_init_180 : decode cX9_init 180 = .ok (.aload_n 0, 1) := by decide +kernel
theorem dX9_init_181 : decode cX9_init 181 = .ok (.bipush 24, 2) := by decide +kernel
theorem dX9_init_183 : decode cX9_init 183 = .ok (.newarray .int, 2) := by decide +kernel
theorem dX9_init_185 : decode cX9_init 185 = .ok (.putfield 77, 3) := by decide +kernel
theorem dX9_init_188 : decode cX9_init 188 = .ok (.aload_n 0, 1) := by decide +kernel
theorem dX9_init_189 : decode cX9_init 189 = .ok (.bipush 24, 2) := by decide +kernel
theorem dX9_init_191 : decode cX9_init 191 = .ok (.newarray .int, 2) := by decide +kernel
theorem dX9_init_193 : decode cX9_init 193 = .ok (.putfield 80, 3) := by decide +kernel
theorem dX9_init_196 : decode cX9_init 196 = .ok (.aload_n 0, 1) := by decide +kernel
theorem dX9_init_197 : decode cX9_init 197 = .ok (.bipush 24, 2) := by decide +kernel
theorem dX9_init_199 : decode cX9_init 199 = .ok (.newarray .int, 2) := by decide +kernel
theorem dX9_init_201 : decode cX9_init 201 = .ok (.putfield 83, 3) := by decide +kernel
theorem dX9_init_204 : decode cX9_init 204 = .ok (.return_, 1) := by decide +kernel
theorem dX9_in_0 : decode cX9_in 0 = .ok (.iload_n 0, 1) := by decide +kernel
theorem dX9_in_1 : decode cX9_in 1 = .ok (.iload_n 1, 1) := by decide +kernel
theorem dX9_in_2 : decode cX9_in 2 = .ok (.if_icmp .lt 12, 3) := by decide +kernel
theorem dX9_in_5 : decode cX9_in 5 = .ok (.iload_n 0, 1) := by decide +kernel
theorem dX9_in_6 : decode cX9_in 6 = .ok (.iload_n 2, 1) := by decide +kernel
theorem dX9_in_7 : decode cX9_in 7 = .ok (.if_icmp .gt 7, 3) := by decide +kernel
theorem dX9_in_10 : decode cX9_in 10 = .ok (.iconst 1, 1) := by decide +kernel
theorem dX9_in_11 : decode cX9_in 11 = .ok (.goto 4, 3) := by decide +kernel
theorem dX9_in_14 : decode cX9_in 14 = .ok (.iconst 0, 1) := by decide +kernel
theorem dX9_in_15 : decode cX9_in 15 = .ok (.ireturn, 1) := by decide +kernel
theorem dX9_isRoom_0 : decode cX9_isRoom 0 = .ok (.iload_n 1, 1) := by decide +kernel
theorem dX9_isRoom_1 : decode cX9_isRoom 1 = .ok (.iconst 0, 1) := by decide +kernel
theorem dX9_isRoom_2 : decode cX9_isRoom 2 = .ok (.aload_n 0, 1) := by decide +kernel
theorem dX9_isRoom_3 : decode cX9_isRoom 3 = .ok (.getfield 86, 3) := by decide +kernel
theorem dX9_isRoom_6 : decode cX9_isRoom 6 = .ok (.iconst 1, 1) := by decide +kernel
theorem dX9_isRoom_7 : decode cX9_isRoom 7 = .ok (.isub, 1) := by decide +kernel
theorem dX9_isRoom_8 : decode cX9_isRoom 8 = .ok (.invokestatic 90, 3) := by decide +kernel
theorem dX9_isRoom_11 : decode cX9_isRoom 11 = .ok (.ireturn, 1) := by decide +kernel
theorem dX9_opposite_0 : decode cX9_opposite 0 = .ok (.iload_n 0, 1) := by decide +kernel
theorem dX9_opposite_1 : decode cX9_opposite 1 = .ok (.bipush 8, 2) := by decide +kernel
theorem dX9_opposite_3 : decode cX9_opposite 3 = .ok (.if_icmp .ge 12, 3) := by decide +kernel
theorem dX9_opposite_6 : decode cX9_opposite 6 = .ok (.iload_n 0, 1) := by decide +kernel
theorem dX9_opposite_7 : decode cX9_opposite 7 = .ok (.iconst 4, 1) := by decide +kernel
theorem dX9_opposite_8 : decode cX9_opposite 8 = .ok (.iadd, 1) := by decide +kernel
theorem dX9_opposite_9 : decode cX9_opposite 9 = .ok (.bipush 8, 2) := by decide +kernel
theorem dX9_opposite_11 : decode cX9_opposite 11 = .ok (.irem, 1) := by decide +kernel
theorem dX9_opposite_12 : decode cX9_opposite 12 = .ok (.goto 7, 3) := by decide +kernel
theorem dX9_opposite_15 : decode cX9_opposite 15 = .ok (.bipush 17, 2) := by decide +kernel
theorem dX9_opposite_17 : decode cX9_opposite 17 = .ok (.iload_n 0, 1) := by decide +kernel
theorem dX9_opposite_18 : decode cX9_opposite 18 = .ok (.isub, 1) := by decide +kernel
theorem dX9_opposite_19 : decode cX9_opposite 19 = .ok (.ireturn, 1) := by decide +kernel
theorem dX9_east_0 : decode cX9_east 0 = .ok (.iload_n 0, 1) := by decide +kernel
theorem dX9_east_1 : decode cX9_east 1 = .ok (.iconst 1, 1) := by decide +kernel
theorem dX9_east_2 : decode cX9_east 2 = .ok (.iconst 3, 1) := by decide +kernel
theorem dX9_east_3 : decode cX9_east 3 = .ok (.invokestatic 90, 3) := by decide +kernel
theorem dX9_east_6 : decode cX9_east 6 = .ok (.ifCond .eq 7, 3) := by decide +kernel
theorem dX9_east_9 : decode cX9_east 9 = .ok (.iconst 1, 1) := by decide +kernel
theorem dX9_east_10 : decode cX9_east 10 = .ok (.goto 18, 3) := by decide +kernel
theorem dX9_east_13 : decode cX9_east 13 = .ok (.iload_n 0, 1) := by decide +kernel
theorem dX9_east_14 : decode cX9_east 14 = .ok (.iconst 5, 1) := by decide +kernel
theorem dX9_east_15 : decode cX9_east 15 = .ok (.bipush 7, 2) := by decide +kernel
theorem dX9_east_17 : decode cX9_east 17 = .ok (.invokestatic 90, 3) := by decide +kernel
theorem dX9_east_20 : decode cX9_east 20 = .ok (.ifCond .eq 7, 3) := by decide +kernel
theorem dX9_east_23 : decode cX9_east 23 = .ok (.iconst (-1), 1) := by decide +kernel
theorem dX9_east_24 : decode cX9_east 24 = .ok (.goto 4, 3) := by decide +kernel
theorem dX9_east_27 : decode cX9_east 27 = .ok (.iconst 0, 1) := by decide +kernel
theorem dX9_east_28 : decode cX9_east 28 = .ok (.ireturn, 1) := by decide +kernel
theorem dX9_south_0 : decode cX9_south 0 = .ok (.iload_n 0, 1) := by decide +kernel
theorem dX9_south_1 : decode cX9_south 1 = .ok (.iconst 3, 1) := by decide +kernel
theorem dX9_south_2 : decode cX9_south 2 = .ok (.iconst 5, 1) := by decide +kernel
theorem dX9_south_3 : decode cX9_south 3 = .ok (.invokestatic 90, 3) := by decide +kernel
theorem dX9_south_6 : decode cX9_south 6 = .ok (.ifCond .eq 7, 3) := by decide +kernel
theorem dX9_south_9 : decode cX9_south 9 = .ok (.iconst 1, 1) := by decide +kernel
theorem dX9_south_10 : decode cX9_south 10 = .ok (.goto 23, 3) := by decide +kernel
theorem dX9_south_13 : decode cX9_south 13 = .ok (.iload_n 0, 1) := by decide +kernel
theorem dX9_south_14 : decode cX9_south 14 = .ok (.bipush 7, 2) := by decide +kernel
theorem dX9_south_16 : decode cX9_south 16 = .ok (.if_icmp .eq 12, 3) := by decide +kernel
theorem dX9_south_19 : decode cX9_south 19 = .ok (.iload_n 0, 1) := by decide +kernel
theorem dX9_south_20 : decode cX9_south 20 = .ok (.ifCond .eq 8, 3) := by decide +kernel
theorem dX9_south_23 : decode cX9_south 23 = .ok (.iload_n 0, 1) := by decide +kernel
theorem dX9_south_24 : decode cX9_south 24 = .ok (.iconst 1, 1) := by decide +kernel
theorem dX9_south_25 : decode cX9_south 25 = .ok (.if_icmp .ne 7, 3) := by decide +kernel
theorem dX9_south_28 : decode cX9_south 28 = .ok (.iconst (-1), 1) := by decide +kernel
theorem dX9_south_29 : decode cX9_south 29 = .ok (.goto 4, 3) := by decide +kernel
theorem dX9_south_32 : decode cX9_south 32 = .ok (.iconst 0, 1) := by decide +kernel
theorem dX9_south_33 : decode cX9_south 33 = .ok (.ireturn, 1) := by decide +kernel
theorem dX9_up_0 : decode cX9_up 0 = .ok (.iload_n 0, 1) := by decide +kernel
theorem dX9_up_1 : decode cX9_up 1 = .ok (.bipush 8, 2) := by decide +kernel
theorem dX9_up_3 : decode cX9_up 3 = .ok (.if_icmp .ne 7, 3) := by decide +kernel
theorem dX9_up_6 : decode cX9_up 6 = .ok (.iconst 1, 1) := by decide +kernel
theorem dX9_up_7 : decode cX9_up 7 = .ok (.goto 14, 3) := by decide +kernel
theorem dX9_up_10 : decode cX9_up 10 = .ok (.iload_n 0, 1) := by decide +kernel
theorem dX9_up_11 : decode cX9_up 11 = .ok (.bipush 9, 2) := by decide +kernel
theorem dX9_up_13 : decode cX9_up 13 = .ok (.if_icmp .ne 7, 3) := by decide +kernel
theorem dX9_up_16 : decode cX9_up 16 = .ok (.iconst (-1), 1) := by decide +kernel
theorem dX9_up_17 : decode cX9_up 17 = .ok (.goto 4, 3) := by decide +kernel
theorem dX9_up_20 : decode cX9_up 20 = .ok (.iconst 0, 1) := by decide +kernel
theorem dX9_up_21 : decode cX9_up 21 = .ok (.ireturn, 1) := by decide +kernel
theorem dX9_room_0 : decode cX9_room 0 = .ok (.iload_n 1, 1) := by decide +kernel
theorem dX9_room_1 : decode cX9_room 1 = .ok (.iconst 1, 1) := by decide +kernel
theorem dX9_room_2 : decode cX9_room 2 = .ok (.iconst 5, 1) := by decide +kernel
theorem dX9_room_3 : decode cX9_room 3 = .ok (.invokestatic 90, 3) := by decide +kernel
theorem dX9_room_6 : decode cX9_room 6 = .ok (.ifCond .eq 13, 3) := by decide +kernel
theorem dX9_room_9 : decode cX9_room 9 = .ok (.iload_n 2, 1) := by decide +kernel
theorem dX9_room_10 : decode cX9_room 10 = .ok (.iconst 0, 1) := by decide +kernel
theorem dX9_room_11 : decode cX9_room 11 = .ok (.bipush 9, 2) := by decide +kernel
theorem dX9_room_13 : decode cX9_room 13 = .ok (.invokestatic 90, 3) := by decide +kernel
theorem dX9_room_16 : decode cX9_room 16 = .ok (.ifCond .ne 5, 3) := by decide +kernel
theorem dX9_room_19 : decode cX9_room 19 = .ok (.iconst (-1), 1) := by decide +kernel
theorem dX9_room_20 : decode cX9_room 20 = .ok (.ireturn, 1) := by decide +kernel
theorem dX9_room_21 : decode cX9_room 21 = .ok (.aload_n 0, 1) := by decide +kernel
theorem dX9_room_22 : decode cX9_room 22 = .ok (.getfield 86, 3) := by decide +kernel
theorem dX9_room_25 : decode cX9_room 25 = .ok (.bipush 24, 2) := by decide +kernel
theorem dX9_room_27 : decode cX9_room 27 = .ok (.if_icmp .ne 6, 3) := by decide +kernel
theorem dX9_room_30 : decode cX9_room 30 = .ok (.bipush (-4), 2) := by decide +kernel
theorem dX9_room_32 : decode cX9_room 32 = .ok (.ireturn, 1) := by decide +kernel
theorem dX9_room_33 : decode cX9_room 33 = .ok (.aload_n 0, 1) := by decide +kernel
theorem dX9_room_34 : decode cX9_room 34 = .ok (.getfield 7, 3) := by decide +kernel
theorem dX9_room_37 : decode cX9_room 37 = .ok (.aload_n 0, 1) := by decide +kernel
theorem dX9_room_38 : decode cX9_room 38 = .ok (.getfield 86, 3) := by decide +kernel
theorem dX9_room_41 : decode cX9_room 41 = .ok (.iload_n 1, 1) := by decide +kernel
theorem dX9_room_42 : decode cX9_room 42 = .ok (.iastore, 1) := by decide +kernel
theorem dX9_room_43 : decode cX9_room 43 = .ok (.aload_n 0, 1) := by decide +kernel
theorem dX9_room_44 : decode cX9_room 44 = .ok (.getfield 13, 3) := by decide +kernel
theorem dX9_room_47 : decode cX9_room 47 = .ok (.aload_n 0, 1) := by decide +kernel
theorem dX9_room_48 : decode cX9_room 48 = .ok (.getfield 86, 3) := by decide +kernel
theorem dX9_room_51 : decode cX9_room 51 = .ok (.iload_n 2, 1) := by decide +kernel
theorem dX9_room_52 : decode cX9_room 52 = .ok (.iastore, 1) := by decide +kernel
theorem dX9_room_53 : decode cX9_room 53 = .ok (.aload_n 0, 1) := by decide +kernel
theorem dX9_room_54 : decode cX9_room 54 = .ok (.getfield 16, 3) := by decide +kernel
theorem dX9_room_57 : decode cX9_room 57 = .ok (.aload_n 0, 1) := by decide +kernel
theorem dX9_room_58 : decode cX9_room 58 = .ok (.getfield 86, 3) := by decide +kernel
theorem dX9_room_61 : decode cX9_room 61 = .ok (.bipush (-2), 2) := by decide +kernel
theorem dX9_room_63 : decode cX9_room 63 = .ok (.iastore, 1) := by decide +kernel
theorem dX9_room_64 : decode cX9_room 64 = .ok (.aload_n 0, 1) := by decide +kernel
theorem dX9_room_65 : decode cX9_room 65 = .ok (.getfield 32, 3) := by decide +kernel
theorem dX9_room_68 : decode cX9_room 68 = .ok (.aload_n 0, 1) := by decide +kernel
theorem dX9_room_69 : decode cX9_room 69 = .ok (.getfield 86, 3) := by decide +kernel
theorem dX9_room_72 : decode cX9_room 72 = .ok (.iconst 0, 1) := by decide +kernel
theorem dX9_room_73 : decode cX9_room 73 = .ok (.bastore, 1) := by decide +kernel
theorem dX9_room_74 : decode cX9_room 74 = .ok (.aload_n 0, 1) := by decide +kernel
theorem dX9_room_75 : decode cX9_room 75 = .ok (.dup, 1) := by decide +kernel
theorem dX9_room_76 : decode cX9_room 76 = .ok (.getfield 86, 3) := by decide +kernel
theorem dX9_room_79 : decode cX9_room 79 = .ok (.iconst 1, 1) := by decide +kernel
theorem dX9_room_80 : decode cX9_room 80 = .ok (.iadd, 1) := by decide +kernel
theorem dX9_room_81 : decode cX9_room 81 = .ok (.putfield 86, 3) := by decide +kernel
theorem dX9_room_84 : decode cX9_room 84 = .ok (.aload_n 0, 1) := by decide +kernel
theorem dX9_room_85 : decode cX9_room 85 = .ok (.getfield 86, 3) := by decide +kernel
theorem dX9_room_88 : decode cX9_room 88 = .ok (.iconst 1, 1) := by decide +kernel
theorem dX9_room_89 : decode cX9_room 89 = .ok (.isub, 1) := by decide +kernel
theorem dX9_room_90 : decode cX9_room 90 = .ok (.ireturn, 1) := by decide +kernel
theorem dX9_outOf_0 : decode cX9_outOf 0 = .ok (.iconst 0, 1) := by decide +kernel
theorem dX9_outOf_1 : decode cX9_outOf 1 = .ok (.istore_n 3, 1) := by decide +kernel
theorem dX9_outOf_2 : decode cX9_outOf 2 = .ok (.iload_n 3, 1) := by decide +kernel
theorem dX9_outOf_3 : decode cX9_outOf 3 = .ok (.aload_n 0, 1) := by decide +kernel
theorem dX9_outOf_4 : decode cX9_outOf 4 = .ok (.getfield 94, 3) := by decide +kernel
theorem dX9_outOf_7 : decode cX9_outOf 7 = .ok (.if_icmp .ge 63, 3) := by decide +kernel
theorem dX9_outOf_10 : decode cX9_outOf 10 = .ok (.aload_n 0, 1) := by decide +kernel
theorem dX9_outOf_11 : decode cX9_outOf 11 = .ok (.getfield 19, 3) := by decide +kernel
theorem dX9_outOf_14 : decode cX9_outOf 14 = .ok (.iload_n 3, 1) := by decide +kernel
theorem dX9_outOf_15 : decode cX9_outOf 15 = .ok (.iaload, 1) := by decide +kernel
theorem dX9_outOf_16 : decode cX9_outOf 16 = .ok (.iload_n 1, 1) := by decide +kernel
theorem dX9_outOf_17 : decode cX9_outOf 17 = .ok (.if_icmp .ne 13, 3) := by decide +kernel
theorem dX9_outOf_20 : decode cX9_outOf 20 = .ok (.aload_n 0, 1) := by decide +kernel
theorem dX9_outOf_21 : decode cX9_outOf 21 = .ok (.getfield 22, 3) := by decide +kernel
theorem dX9_outOf_24 : decode cX9_outOf 24 = .ok (.iload_n 3, 1) := by decide +kernel
theorem dX9_outOf_25 : decode cX9_outOf 25 = .ok (.iaload, 1) := by decide +kernel
theorem dX9_outOf_26 : decode cX9_outOf 26 = .ok (.iload_n 2, 1) := by decide +kernel
theorem dX9_outOf_27 : decode cX9_outOf 27 = .ok (.if_icmp .eq 35, 3) := by decide +kernel
theorem dX9_outOf_30 : decode cX9_outOf 30 = .ok (.aload_n 0, 1) := by decide +kernel
theorem dX9_outOf_31 : decode cX9_outOf 31 = .ok (.getfield 28, 3) := by decide +kernel
theorem dX9_outOf_34 : decode cX9_outOf 34 = .ok (.iload_n 3, 1) := by decide +kernel
theorem dX9_outOf_35 : decode cX9_outOf 35 = .ok (.baload, 1) := by decide +kernel
theorem dX9_outOf_36 : decode cX9_outOf 36 = .ok (.ifCond .eq 28, 3) := by decide +kernel
theorem dX9_outOf_39 : decode cX9_outOf 39 = .ok (.aload_n 0, 1) := by decide +kernel
theorem dX9_outOf_40 : decode cX9_outOf 40 = .ok (.getfield 25, 3) := by decide +kernel
theorem dX9_outOf_43 : decode cX9_outOf 43 = .ok (.iload_n 3, 1) := by decide +kernel
theorem dX9_outOf_44 : decode cX9_outOf 44 = .ok (.iaload, 1) := by decide +kernel
theorem dX9_outOf_45 : decode cX9_outOf 45 = .ok (.iload_n 1, 1) := by decide +kernel
theorem dX9_outOf_46 : decode cX9_outOf 46 = .ok (.if_icmp .ne 18, 3) := by decide +kernel
theorem dX9_outOf_49 : decode cX9_outOf 49 = .ok (.aload_n 0, 1) := by decide +kernel
theorem dX9_outOf_50 : decode cX9_outOf 50 = .ok (.getfield 22, 3) := by decide +kernel
theorem dX9_outOf_53 : decode cX9_outOf 53 = .ok (.iload_n 3, 1) := by decide +kernel
theorem dX9_outOf_54 : decode cX9_outOf 54 = .ok (.iaload, 1) := by decide +kernel
theorem dX9_outOf_55 : decode cX9_outOf 55 = .ok (.invokestatic 97, 3) := by decide +kernel
theorem dX9_outOf_58 : decode cX9_outOf 58 = .ok (.iload_n 2, 1) := by decide +kernel
theorem dX9_outOf_59 : decode cX9_outOf 59 = .ok (.if_icmp .ne 5, 3) := by decide +kernel
theorem dX9_outOf_62 : decode cX9_outOf 62 = .ok (.iload_n 3, 1) := by decide +kernel
theorem dX9_outOf_63 : decode cX9_outOf 63 = .ok (.ireturn, 1) := by decide +kernel
theorem dX9_outOf_64 : decode cX9_outOf 64 = .ok (.iinc 3 1, 3) := by decide +kernel
theorem dX9_outOf_67 : decode cX9_outOf 67 = .ok (.goto (-65), 3) := by decide +kernel
theorem dX9_outOf_70 : decode cX9_outOf 70 = .ok (.bipush (-2), 2) := by decide +kernel
theorem dX9_outOf_72 : decode cX9_outOf 72 = .ok (.ireturn, 1) := by decide +kernel
theorem dX9_endOf_0 : decode cX9_endOf 0 = .ok (.aload_n 0, 1) := by decide +kernel
theorem dX9_endOf_1 : decode cX9_endOf 1 = .ok (.getfield 19, 3) := by decide +kernel
theorem dX9_endOf_4 : decode cX9_endOf 4 = .ok (.iload_n 1, 1) := by decide +kernel
theorem dX9_endOf_5 : decode cX9_endOf 5 = .ok (.iaload, 1) := by decide +kernel
theorem dX9_endOf_6 : decode cX9_endOf 6 = .ok (.iload_n 2, 1) := by decide +kernel
theorem dX9_endOf_7 : decode cX9_endOf 7 = .ok (.if_icmp .ne 22, 3) := by decide +kernel
theorem dX9_endOf_10 : decode cX9_endOf 10 = .ok (.aload_n 0, 1) := by decide +kernel
theorem dX9_endOf_11 : decode cX9_endOf 11 = .ok (.getfield 22, 3) := by decide +kernel
theorem dX9_endOf_14 : decode cX9_endOf 14 = .ok (.iload_n 1, 1) := by decide +kernel
theorem dX9_endOf_15 : decode cX9_endOf 15 = .ok (.iaload, 1) := by decide +kernel
theorem dX9_endOf_16 : decode cX9_endOf 16 = .ok (.iload_n 3, 1) := by decide +kernel
theorem dX9_endOf_17 : decode cX9_endOf 17 = .ok (.if_icmp .ne 12, 3) := by decide +kernel
theorem dX9_endOf_20 : decode cX9_endOf 20 = .ok (.aload_n 0, 1) := by decide +kernel
theorem dX9_endOf_21 : decode cX9_endOf 21 = .ok (.getfield 25, 3) := by decide +kernel
theorem dX9_endOf_24 : decode cX9_endOf 24 = .ok (.iload_n 1, 1) := by decide +kernel
theorem dX9_endOf_25 : decode cX9_endOf 25 = .ok (.iaload, 1) := by decide +kernel
theorem dX9_endOf_26 : decode cX9_endOf 26 = .ok (.goto 9, 3) := by decide +kernel
theorem dX9_endOf_29 : decode cX9_endOf 29 = .ok (.aload_n 0, 1) := by decide +kernel
theorem dX9_endOf_30 : decode cX9_endOf 30 = .ok (.getfield 19, 3) := by decide +kernel
theorem dX9_endOf_33 : decode cX9_endOf 33 = .ok (.iload_n 1, 1) := by decide +kernel
theorem dX9_endOf_34 : decode cX9_endOf 34 = .ok (.iaload, 1) := by decide +kernel
theorem dX9_endOf_35 : decode cX9_endOf 35 = .ok (.ireturn, 1) := by decide +kernel
theorem dX9_lay_0 : decode cX9_lay 0 = .ok (.aload_n 0, 1) := by decide +kernel
theorem dX9_lay_1 : decode cX9_lay 1 = .ok (.getfield 19, 3) := by decide +kernel
theorem dX9_lay_4 : decode cX9_lay 4 = .ok (.aload_n 0, 1) := by decide +kernel
theorem dX9_lay_5 : decode cX9_lay 5 = .ok (.getfield 94, 3) := by decide +kernel
theorem dX9_lay_8 : decode cX9_lay 8 = .ok (.iload_n 1, 1) := by decide +kernel
theorem dX9_lay_9 : decode cX9_lay 9 = .ok (.iastore, 1) := by decide +kernel
theorem dX9_lay_10 : decode cX9_lay 10 = .ok (.aload_n 0, 1) := by decide +kernel
theorem dX9_lay_11 : decode cX9_lay 11 = .ok (.getfield 22, 3) := by decide +kernel
theorem dX9_lay_14 : decode cX9_lay 14 = .ok (.aload_n 0, 1) := by decide +kernel
theorem dX9_lay_15 : decode cX9_lay 15 = .ok (.getfield 94, 3) := by decide +kernel
theorem dX9_lay_18 : decode cX9_lay 18 = .ok (.iload_n 2, 1) := by decide +kernel
theorem dX9_lay_19 : decode cX9_lay 19 = .ok (.iastore, 1) := by decide +kernel
theorem dX9_lay_20 : decode cX9_lay 20 = .ok (.aload_n 0, 1) := by decide +kernel
theorem dX9_lay_21 : decode cX9_lay 21 = .ok (.getfield 25, 3) := by decide +kernel
theorem dX9_lay_24 : decode cX9_lay 24 = .ok (.aload_n 0, 1) := by decide +kernel
theorem dX9_lay_25 : decode cX9_lay 25 = .ok (.getfield 94, 3) := by decide +kernel
theorem dX9_lay_28 : decode cX9_lay 28 = .ok (.iload_n 3, 1) := by decide +kernel
theorem dX9_lay_29 : decode cX9_lay 29 = .ok (.iastore, 1) := by decide +kernel
theorem dX9_lay_30 : decode cX9_lay 30 = .ok (.aload_n 0, 1) := by decide +kernel
theorem dX9_lay_31 : decode cX9_lay 31 = .ok (.getfield 28, 3) := by decide +kernel
theorem dX9_lay_34 : decode cX9_lay 34 = .ok (.aload_n 0, 1) := by decide +kernel
theorem dX9_lay_35 : decode cX9_lay 35 = .ok (.getfield 94, 3) := by decide +kernel
theorem dX9_lay_38 : decode cX9_lay 38 = .ok (.iload 4, 2) := by decide +kernel
theorem dX9_lay_40 : decode cX9_lay 40 = .ok (.bastore, 1) := by decide +kernel
theorem dX9_lay_41 : decode cX9_lay 41 = .ok (.aload_n 0, 1) := by decide +kernel
theorem dX9_lay_42 : decode cX9_lay 42 = .ok (.dup, 1) := by decide +kernel
theorem dX9_lay_43 : decode cX9_lay 43 = .ok (.getfield 94, 3) := by decide +kernel
theorem dX9_lay_46 : decode cX9_lay 46 = .ok (.iconst 1, 1) := by decide +kernel
theorem dX9_lay_47 : decode cX9_lay 47 = .ok (.iadd, 1) := by decide +kernel
theorem dX9_lay_48 : decode cX9_lay 48 = .ok (.putfield 94, 3) := by decide +kernel
theorem dX9_lay_51 : decode cX9_lay 51 = .ok (.aload_n 0, 1) := by decide +kernel
theorem dX9_lay_52 : decode cX9_lay 52 = .ok (.getfield 94, 3) := by decide +kernel
theorem dX9_lay_55 : decode cX9_lay 55 = .ok (.iconst 1, 1) := by decide +kernel
theorem dX9_lay_56 : decode cX9_lay 56 = .ok (.isub, 1) := by decide +kernel
theorem dX9_lay_57 : decode cX9_lay 57 = .ok (.ireturn, 1) := by decide +kernel
theorem dX9_exit_0 : decode cX9_exit 0 = .ok (.aload_n 0, 1) := by decide +kernel
theorem dX9_exit_1 : decode cX9_exit 1 = .ok (.iload_n 1, 1) := by decide +kernel
theorem dX9_exit_2 : decode cX9_exit 2 = .ok (.invokevirtual 101, 3) := by decide +kernel
theorem dX9_exit_5 : decode cX9_exit 5 = .ok (.ifCond .eq 21, 3) := by decide +kernel
theorem dX9_exit_8 : decode cX9_exit 8 = .ok (.iload_n 2, 1) := by decide +kernel
theorem dX9_exit_9 : decode cX9_exit 9 = .ok (.iconst 0, 1) := by decide +kernel
theorem dX9_exit_10 : decode cX9_exit 10 = .ok (.bipush 9, 2) := by decide +kernel
theorem dX9_exit_12 : decode cX9_exit 12 = .ok (.invokestatic 90, 3) := by decide +kernel
theorem dX9_exit_15 : decode cX9_exit 15 = .ok (.ifCond .eq 11, 3) := by decide +kernel
theorem dX9_exit_18 : decode cX9_exit 18 = .ok (.aload_n 0, 1) := by decide +kernel
theorem dX9_exit_19 : decode cX9_exit 19 = .ok (.iload_n 3, 1) := by decide +kernel
theorem dX9_exit_20 : decode cX9_exit 20 = .ok (.invokevirtual 101, 3) := by decide +kernel
theorem dX9_exit_23 : decode cX9_exit 23 = .ok (.ifCond .ne 5, 3) := by decide +kernel
theorem dX9_exit_26 : decode cX9_exit 26 = .ok (.iconst (-1), 1) := by decide +kernel
theorem dX9_exit_27 : decode cX9_exit 27 = .ok (.ireturn, 1) := by decide +kernel
theorem dX9_exit_28 : decode cX9_exit 28 = .ok (.aload_n 0, 1) := by decide +kernel
theorem dX9_exit_29 : decode cX9_exit 29 = .ok (.iload_n 1, 1) := by decide +kernel
theorem dX9_exit_30 : decode cX9_exit 30 = .ok (.iload_n 2, 1) := by decide +kernel
theorem dX9_exit_31 : decode cX9_exit 31 = .ok (.invokevirtual 105, 3) := by decide +kernel
theorem dX9_exit_34 : decode cX9_exit 34 = .ok (.ifCond .ge 20, 3) := by decide +kernel
theorem dX9_exit_37 : decode cX9_exit 37 = .ok (.iload 4, 2) := by decide +kernel
theorem dX9_exit_39 : decode cX9_exit 39 = .ok (.ifCond .eq 18, 3) := by decide +kernel
theorem dX9_exit_42 : decode cX9_exit 42 = .ok (.aload_n 0, 1) := by decide +kernel
theorem dX9_exit_43 : decode cX9_exit 43 = .ok (.iload_n 3, 1) := by decide +kernel
theorem dX9_exit_44 : decode cX9_exit 44 = .ok (.iload_n 2, 1) := by decide +kernel
theorem dX9_exit_45 : decode cX9_exit 45 = .ok (.invokestatic 97, 3) := by decide +kernel
theorem dX9_exit_48 : decode cX9_exit 48 = .ok (.invokevirtual 105, 3) := by decide +kernel
theorem dX9_exit_51 : decode cX9_exit 51 = .ok (.ifCond .lt 6, 3) := by decide +kernel
theorem dX9_exit_54 : decode cX9_exit 54 = .ok (.bipush (-3), 2) := by decide +kernel
theorem dX9_exit_56 : decode cX9_exit 56 = .ok (.ireturn, 1) := by decide +kernel
theorem dX9_exit_57 : decode cX9_exit 57 = .ok (.aload_n 0, 1) := by decide +kernel
theorem dX9_exit_58 : decode cX9_exit 58 = .ok (.getfield 94, 3) := by decide +kernel
theorem dX9_exit_61 : decode cX9_exit 61 = .ok (.bipush 60, 2) := by decide +kernel
theorem dX9_exit_63 : decode cX9_exit 63 = .ok (.if_icmp .ne 8, 3) := by decide +kernel
theorem dX9_exit_66 : decode cX9_exit 66 = .ok (.bipush (-4), 2) := by decide +kernel
theorem dX9_exit_68 : decode cX9_exit 68 = .ok (.goto 12, 3) := by decide +kernel
theorem dX9_exit_71 : decode cX9_exit 71 = .ok (.aload_n 0, 1) := by decide +kernel
theorem dX9_exit_72 : decode cX9_exit 72 = .ok (.iload_n 1, 1) := by decide +kernel
theorem dX9_exit_73 : decode cX9_exit 73 = .ok (.iload_n 2, 1) := by decide +kernel
theorem dX9_exit_74 : decode cX9_exit 74 = .ok (.iload_n 3, 1) := by decide +kernel
theorem dX9_exit_75 : decode cX9_exit 75 = .ok (.iload 4, 2) := by decide +kernel
theorem dX9_exit_77 : decode cX9_exit 77 = .ok (.invokevirtual 109, 3) := by decide +kernel
theorem dX9_exit_80 : decode cX9_exit 80 = .ok (.ireturn, 1) := by decide +kernel
theorem dX9_isLink_0 : decode cX9_isLink 0 = .ok (.iload_n 1, 1) := by decide +kernel
theorem dX9_isLink_1 : decode cX9_isLink 1 = .ok (.iconst 0, 1) := by decide +kernel
theorem dX9_isLink_2 : decode cX9_isLink 2 = .ok (.aload_n 0, 1) := by decide +kernel
theorem dX9_isLink_3 : decode cX9_isLink 3 = .ok (.getfield 94, 3) := by decide +kernel
theorem dX9_isLink_6 : decode cX9_isLink 6 = .ok (.iconst 1, 1) := by decide +kernel
theorem dX9_isLink_7 : decode cX9_isLink 7 = .ok (.isub, 1) := by decide +kernel
theorem dX9_isLink_8 : decode cX9_isLink 8 = .ok (.invokestatic 90, 3) := by decide +kernel
theorem dX9_isLink_11 : decode cX9_isLink 11 = .ok (.ireturn, 1) := by decide +kernel
theorem dX9_cut_0 : decode cX9_cut 0 = .ok (.aload_n 0, 1) := by decide +kernel
theorem dX9_cut_1 : decode cX9_cut 1 = .ok (.iload_n 1, 1) := by decide +kernel
theorem dX9_cut_2 : decode cX9_cut 2 = .ok (.invokevirtual 113, 3) := by decide +kernel
theorem dX9_cut_5 : decode cX9_cut 5 = .ok (.ifCond .ne 5, 3) := by decide +kernel
theorem dX9_cut_8 : decode cX9_cut 8 = .ok (.iconst (-1), 1) := by decide +kernel
theorem dX9_cut_9 : decode cX9_cut 9 = .ok (.ireturn, 1) := by decide +kernel
theorem dX9_cut_10 : decode cX9_cut 10 = .ok (.aload_n 0, 1) := by decide +kernel
theorem dX9_cut_11 : decode cX9_cut 11 = .ok (.dup, 1) := by decide +kernel
theorem dX9_cut_12 : decode cX9_cut 12 = .ok (.getfield 94, 3) := by decide +kernel
theorem dX9_cut_15 : decode cX9_cut 15 = .ok (.iconst 1, 1) := by decide +kernel
theorem dX9_cut_16 : decode cX9_cut 16 = .ok (.isub, 1) := by decide +kernel
theorem dX9_cut_17 : decode cX9_cut 17 = .ok (.putfield 94, 3) := by decide +kernel
theorem dX9_cut_20 : decode cX9_cut 20 = .ok (.iload_n 1, 1) := by decide +kernel
theorem dX9_cut_21 : decode cX9_cut 21 = .ok (.istore_n 2, 1) := by decide +kernel
theorem dX9_cut_22 : decode cX9_cut 22 = .ok (.iload_n 2, 1) := by decide +kernel
theorem dX9_cut_23 : decode cX9_cut 23 = .ok (.aload_n 0, 1) := by decide +kernel
theorem dX9_cut_24 : decode cX9_cut 24 = .ok (.getfield 94, 3) := by decide +kernel
theorem dX9_cut_27 : decode cX9_cut 27 = .ok (.if_icmp .ge 65, 3) := by decide +kernel
theorem dX9_cut_30 : decode cX9_cut 30 = .ok (.aload_n 0, 1) := by decide +kernel
theorem dX9_cut_31 : decode cX9_cut 31 = .ok (.getfield 19, 3) := by decide +kernel
theorem dX9_cut_34 : decode cX9_cut 34 = .ok (.iload_n 2, 1) := by decide +kernel
theorem dX9_cut_35 : decode cX9_cut 35 = .ok (.aload_n 0, 1) := by decide +kernel
theorem dX9_cut_36 : decode cX9_cut 36 = .ok (.getfield 19, 3) := by decide +kernel
theorem dX9_cut_39 : decode cX9_cut 39 = .ok (.iload_n 2, 1) := by decide +kernel
theorem dX9_cut_40 : decode cX9_cut 40 = .ok (.iconst 1, 1) := by decide +kernel
theorem dX9_cut_41 : decode cX9_cut 41 = .ok (.iadd, 1) := by decide +kernel
theorem dX9_cut_42 : decode cX9_cut 42 = .ok (.iaload, 1) := by decide +kernel
theorem dX9_cut_43 : decode cX9_cut 43 = .ok (.iastore, 1) := by decide +kernel
theorem dX9_cut_44 : decode cX9_cut 44 = .ok (.aload_n 0, 1) := by decide +kernel
theorem dX9_cut_45 : decode cX9_cut 45 = .ok (.getfield 22, 3) := by decide +kernel
theorem dX9_cut_48 : decode cX9_cut 48 = .ok (.iload_n 2, 1) := by decide +kernel
theorem dX9_cut_49 : decode cX9_cut 49 = .ok (.aload_n 0, 1) := by decide +kernel
theorem dX9_cut_50 : decode cX9_cut 50 = .ok (.getfield 22, 3) := by decide +kernel
theorem dX9_cut_53 : decode cX9_cut 53 = .ok (.iload_n 2, 1) := by decide +kernel
theorem dX9_cut_54 : decode cX9_cut 54 = .ok (.iconst 1, 1) := by decide +kernel
theorem dX9_cut_55 : decode cX9_cut 55 = .ok (.iadd, 1) := by decide +kernel
theorem dX9_cut_56 : decode cX9_cut 56 = .ok (.iaload, 1) := by decide +kernel
theorem dX9_cut_57 : decode cX9_cut 57 = .ok (.iastore, 1) := by decide +kernel
theorem dX9_cut_58 : decode cX9_cut 58 = .ok (.aload_n 0, 1) := by decide +kernel
theorem dX9_cut_59 : decode cX9_cut 59 = .ok (.getfield 25, 3) := by decide +kernel
theorem dX9_cut_62 : decode cX9_cut 62 = .ok (.iload_n 2, 1) := by decide +kernel
theorem dX9_cut_63 : decode cX9_cut 63 = .ok (.aload_n 0, 1) := by decide +kernel
theorem dX9_cut_64 : decode cX9_cut 64 = .ok (.getfield 25, 3) := by decide +kernel
theorem dX9_cut_67 : decode cX9_cut 67 = .ok (.iload_n 2, 1) := by decide +kernel
theorem dX9_cut_68 : decode cX9_cut 68 = .ok (.iconst 1, 1) := by decide +kernel
theorem dX9_cut_69 : decode cX9_cut 69 = .ok (.iadd, 1) := by decide +kernel
theorem dX9_cut_70 : decode cX9_cut 70 = .ok (.iaload, 1) := by decide +kernel
theorem dX9_cut_71 : decode cX9_cut 71 = .ok (.iastore, 1) := by decide +kernel
theorem dX9_cut_72 : decode cX9_cut 72 = .ok (.aload_n 0, 1) := by decide +kernel
theorem dX9_cut_73 : decode cX9_cut 73 = .ok (.getfield 28, 3) := by decide +kernel
theorem dX9_cut_76 : decode cX9_cut 76 = .ok (.iload_n 2, 1) := by decide +kernel
theorem dX9_cut_77 : decode cX9_cut 77 = .ok (.aload_n 0, 1) := by decide +kernel
theorem dX9_cut_78 : decode cX9_cut 78 = .ok (.getfield 28, 3) := by decide +kernel
theorem dX9_cut_81 : decode cX9_cut 81 = .ok (.iload_n 2, 1) := by decide +kernel
theorem dX9_cut_82 : decode cX9_cut 82 = .ok (.iconst 1, 1) := by decide +kernel
theorem dX9_cut_83 : decode cX9_cut 83 = .ok (.iadd, 1) := by decide +kernel
theorem dX9_cut_84 : decode cX9_cut 84 = .ok (.baload, 1) := by decide +kernel
theorem dX9_cut_85 : decode cX9_cut 85 = .ok (.bastore, 1) := by decide +kernel
theorem dX9_cut_86 : decode cX9_cut 86 = .ok (.iinc 2 1, 3) := by decide +kernel
theorem dX9_cut_89 : decode cX9_cut 89 = .ok (.goto (-67), 3) := by decide +kernel
theorem dX9_cut_92 : decode cX9_cut 92 = .ok (.aload_n 0, 1) := by decide +kernel
theorem dX9_cut_93 : decode cX9_cut 93 = .ok (.getfield 94, 3) := by decide +kernel
theorem dX9_cut_96 : decode cX9_cut 96 = .ok (.ireturn, 1) := by decide +kernel
theorem dX9_play_0 : decode cX9_play 0 = .ok (.aload_n 0, 1) := by decide +kernel
theorem dX9_play_1 : decode cX9_play 1 = .ok (.iload_n 1, 1) := by decide +kernel
theorem dX9_play_2 : decode cX9_play 2 = .ok (.invokevirtual 101, 3) := by decide +kernel
theorem dX9_play_5 : decode cX9_play 5 = .ok (.ifCond .eq 27, 3) := by decide +kernel
theorem dX9_play_8 : decode cX9_play 8 = .ok (.iload_n 2, 1) := by decide +kernel
theorem dX9_play_9 : decode cX9_play 9 = .ok (.iconst 0, 1) := by decide +kernel
theorem dX9_play_10 : decode cX9_play 10 = .ok (.bipush 9, 2) := by decide +kernel
theorem dX9_play_12 : decode cX9_play 12 = .ok (.invokestatic 90, 3) := by decide +kernel
theorem dX9_play_15 : decode cX9_play 15 = .ok (.ifCond .eq 17, 3) := by decide +kernel
theorem dX9_play_18 : decode cX9_play 18 = .ok (.iload_n 3, 1) := by decide +kernel
theorem dX9_play_19 : decode cX9_play 19 = .ok (.bipush (-2), 2) := by decide +kernel
theorem dX9_play_21 : decode cX9_play 21 = .ok (.if_icmp .eq 13, 3) := by decide +kernel
theorem dX9_play_24 : decode cX9_play 24 = .ok (.aload_n 0, 1) := by decide +kernel
theorem dX9_play_25 : decode cX9_play 25 = .ok (.iload_n 3, 1) := by decide +kernel
theorem dX9_play_26 : decode cX9_play 26 = .ok (.invokevirtual 101, 3) := by decide +kernel
theorem dX9_play_29 : decode cX9_play 29 = .ok (.ifCond .ne 5, 3) := by decide +kernel
theorem dX9_play_32 : decode cX9_play 32 = .ok (.iconst (-1), 1) := by decide +kernel
theorem dX9_play_33 : decode cX9_play 33 = .ok (.ireturn, 1) := by decide +kernel
theorem dX9_play_34 : decode cX9_play 34 = .ok (.aload_n 0, 1) := by decide +kernel
theorem dX9_play_35 : decode cX9_play 35 = .ok (.iload_n 1, 1) := by decide +kernel
theorem dX9_play_36 : decode cX9_play 36 = .ok (.iload_n 2, 1) := by decide +kernel
theorem dX9_play_37 : decode cX9_play 37 = .ok (.invokevirtual 105, 3) := by decide +kernel
theorem dX9_play_40 : decode cX9_play 40 = .ok (.istore 4, 2) := by decide +kernel
theorem dX9_play_42 : decode cX9_play 42 = .ok (.iload 4, 2) := by decide +kernel
theorem dX9_play_44 : decode cX9_play 44 = .ok (.ifCond .lt 28, 3) := by decide +kernel
theorem dX9_play_47 : decode cX9_play 47 = .ok (.iload_n 3, 1) := by decide +kernel
theorem dX9_play_48 : decode cX9_play 48 = .ok (.bipush (-2), 2) := by decide +kernel
theorem dX9_play_50 : decode cX9_play 50 = .ok (.if_icmp .eq 15, 3) := by decide +kernel
theorem dX9_play_53 : decode cX9_play 53 = .ok (.aload_n 0, 1) := by decide +kernel
theorem dX9_play_54 : decode cX9_play 54 = .ok (.iload 4, 2) := by decide +kernel
theorem dX9_play_56 : decode cX9_play 56 = .ok (.iload_n 1, 1) := by decide +kernel
theorem dX9_play_57 : decode cX9_play 57 = .ok (.iload_n 2, 1) := by decide +kernel
theorem dX9_play_58 : decode cX9_play 58 = .ok (.invokevirtual 116, 3) := by decide +kernel
theorem dX9_play_61 : decode cX9_play 61 = .ok (.iload_n 3, 1) := by decide +kernel
theorem dX9_play_62 : decode cX9_play 62 = .ok (.if_icmp .eq 8, 3) := by decide +kernel
theorem dX9_play_65 : decode cX9_play 65 = .ok (.bipush (-3), 2) := by decide +kernel
theorem dX9_play_67 : decode cX9_play 67 = .ok (.goto 4, 3) := by decide +kernel
theorem dX9_play_70 : decode cX9_play 70 = .ok (.iload_n 3, 1) := by decide +kernel
theorem dX9_play_71 : decode cX9_play 71 = .ok (.ireturn, 1) := by decide +kernel
theorem dX9_play_72 : decode cX9_play 72 = .ok (.iload_n 3, 1) := by decide +kernel
theorem dX9_play_73 : decode cX9_play 73 = .ok (.bipush (-2), 2) := by decide +kernel
theorem dX9_play_75 : decode cX9_play 75 = .ok (.if_icmp .ne 8, 3) := by decide +kernel
theorem dX9_play_78 : decode cX9_play 78 = .ok (.bipush (-2), 2) := by decide +kernel
theorem dX9_play_80 : decode cX9_play 80 = .ok (.goto 10, 3) := by decide +kernel
theorem dX9_play_83 : decode cX9_play 83 = .ok (.aload_n 0, 1) := by decide +kernel
theorem dX9_play_84 : decode cX9_play 84 = .ok (.iload_n 1, 1) := by decide +kernel
theorem dX9_play_85 : decode cX9_play 85 = .ok (.iload_n 2, 1) := by decide +kernel
theorem dX9_play_86 : decode cX9_play 86 = .ok (.iload_n 3, 1) := by decide +kernel
theorem dX9_play_87 : decode cX9_play 87 = .ok (.invokevirtual 120, 3) := by decide +kernel
theorem dX9_play_90 : decode cX9_play 90 = .ok (.istore 5, 2) := by decide +kernel
theorem dX9_play_92 : decode cX9_play 92 = .ok (.iload 5, 2) := by decide +kernel
theorem dX9_play_94 : decode cX9_play 94 = .ok (.ifCond .lt 13, 3) := by decide +kernel
theorem dX9_play_97 : decode cX9_play 97 = .ok (.aload_n 0, 1) := by decide +kernel
theorem dX9_play_98 : decode cX9_play 98 = .ok (.getfield 28, 3) := by decide +kernel
theorem dX9_play_101 : decode cX9_play 101 = .ok (.iload 5, 2) := by decide +kernel
theorem dX9_play_103 : decode cX9_play 103 = .ok (.iconst 1, 1) := by decide +kernel
theorem dX9_play_104 : decode cX9_play 104 = .ok (.bastore, 1) := by decide +kernel
theorem dX9_play_105 : decode cX9_play 105 = .ok (.iload_n 3, 1) := by decide +kernel
theorem dX9_play_106 : decode cX9_play 106 = .ok (.ireturn, 1) := by decide +kernel
theorem dX9_play_107 : decode cX9_play 107 = .ok (.iload_n 3, 1) := by decide +kernel
theorem dX9_play_108 : decode cX9_play 108 = .ok (.bipush (-2), 2) := by decide +kernel
theorem dX9_play_110 : decode cX9_play 110 = .ok (.if_icmp .ne 12, 3) := by decide +kernel
theorem dX9_play_113 : decode cX9_play 113 = .ok (.aload_n 0, 1) := by decide +kernel
theorem dX9_play_114 : decode cX9_play 114 = .ok (.getfield 86, 3) := by decide +kernel
theorem dX9_play_117 : decode cX9_play 117 = .ok (.bipush 24, 2) := by decide +kernel
theorem dX9_play_119 : decode cX9_play 119 = .ok (.if_icmp .eq 12, 3) := by decide +kernel
theorem dX9_play_122 : decode cX9_play 122 = .ok (.aload_n 0, 1) := by decide +kernel
theorem dX9_play_123 : decode cX9_play 123 = .ok (.getfield 94, 3) := by decide +kernel
theorem dX9_play_126 : decode cX9_play 126 = .ok (.bipush 60, 2) := by decide +kernel
theorem dX9_play_128 : decode cX9_play 128 = .ok (.if_icmp .ne 6, 3) := by decide +kernel
theorem dX9_play_131 : decode cX9_play 131 = .ok (.bipush (-4), 2) := by decide +kernel
theorem dX9_play_133 : decode cX9_play 133 = .ok (.ireturn, 1) := by decide +kernel
theorem dX9_play_134 : decode cX9_play 134 = .ok (.iload_n 3, 1) := by decide +kernel
theorem dX9_play_135 : decode cX9_play 135 = .ok (.bipush (-2), 2) := by decide +kernel
theorem dX9_play_137 : decode cX9_play 137 = .ok (.if_icmp .ne 17, 3) := by decide +kernel
theorem dX9_play_140 : decode cX9_play 140 = .ok (.aload_n 0, 1) := by decide +kernel
theorem dX9_play_141 : decode cX9_play 141 = .ok (.iconst 1, 1) := by decide +kernel
theorem dX9_play_142 : decode cX9_play 142 = .ok (.aload_n 0, 1) := by decide +kernel
theorem dX9_play_143 : decode cX9_play 143 = .ok (.getfield 13, 3) := by decide +kernel
theorem dX9_play_146 : decode cX9_play 146 = .ok (.iload_n 1, 1) := by decide +kernel
theorem dX9_play_147 : decode cX9_play 147 = .ok (.iaload, 1) := by decide +kernel
theorem dX9_play_148 : decode cX9_play 148 = .ok (.invokevirtual 123, 3) := by decide +kernel
theorem dX9_play_151 : decode cX9_play 151 = .ok (.goto 4, 3) := by decide +kernel
theorem dX9_play_154 : decode cX9_play 154 = .ok (.iload_n 3, 1) := by decide +kernel
theorem dX9_play_155 : decode cX9_play 155 = .ok (.istore 6, 2) := by decide +kernel
theorem dX9_play_157 : decode cX9_play 157 = .ok (.aload_n 0, 1) := by decide +kernel
theorem dX9_play_158 : decode cX9_play 158 = .ok (.iload_n 1, 1) := by decide +kernel
theorem dX9_play_159 : decode cX9_play 159 = .ok (.iload_n 2, 1) := by decide +kernel
theorem dX9_play_160 : decode cX9_play 160 = .ok (.iload 6, 2) := by decide +kernel
theorem dX9_play_162 : decode cX9_play 162 = .ok (.iconst 0, 1) := by decide +kernel
theorem dX9_play_163 : decode cX9_play 163 = .ok (.invokevirtual 109, 3) := by decide +kernel
theorem dX9_play_166 : decode cX9_play 166 = .ok (.istore 7, 2) := by decide +kernel
theorem dX9_play_168 : decode cX9_play 168 = .ok (.iload 6, 2) := by decide +kernel
theorem dX9_play_170 : decode cX9_play 170 = .ok (.ireturn, 1) := by decide +kernel
theorem dX9_backOf_0 : decode cX9_backOf 0 = .ok (.iconst 0, 1) := by decide +kernel
theorem dX9_backOf_1 : decode cX9_backOf 1 = .ok (.istore 4, 2) := by decide +kernel
theorem dX9_backOf_3 : decode cX9_backOf 3 = .ok (.iload 4, 2) := by decide +kernel
theorem dX9_backOf_5 : decode cX9_backOf 5 = .ok (.aload_n 0, 1) := by decide +kernel
theorem dX9_backOf_6 : decode cX9_backOf 6 = .ok (.getfield 94, 3) := by decide +kernel
theorem dX9_backOf_9 : decode cX9_backOf 9 = .ok (.if_icmp .ge 58, 3) := by decide +kernel
theorem dX9_backOf_12 : decode cX9_backOf 12 = .ok (.aload_n 0, 1) := by decide +kernel
theorem dX9_backOf_13 : decode cX9_backOf 13 = .ok (.getfield 28, 3) := by decide +kernel
theorem dX9_backOf_16 : decode cX9_backOf 16 = .ok (.iload 4, 2) := by decide +kernel
theorem dX9_backOf_18 : decode cX9_backOf 18 = .ok (.baload, 1) := by decide +kernel
theorem dX9_backOf_19 : decode cX9_backOf 19 = .ok (.ifCond .ne 42, 3) := by decide +kernel
theorem dX9_backOf_22 : decode cX9_backOf 22 = .ok (.aload_n 0, 1) := by decide +kernel
theorem dX9_backOf_23 : decode cX9_backOf 23 = .ok (.getfield 19, 3) := by decide +kernel
theorem dX9_backOf_26 : decode cX9_backOf 26 = .ok (.iload 4, 2) := by decide +kernel
theorem dX9_backOf_28 : decode cX9_backOf 28 = .ok (.iaload, 1) := by decide +kernel
theorem dX9_backOf_29 : decode cX9_backOf 29 = .ok (.iload_n 3, 1) := by decide +kernel
theorem dX9_backOf_30 : decode cX9_backOf 30 = .ok (.if_icmp .ne 31, 3) := by decide +kernel
theorem dX9_backOf_33 : decode cX9_backOf 33 = .ok (.aload_n 0, 1) := by decide +kernel
theorem dX9_backOf_34 : decode cX9_backOf 34 = .ok (.getfield 22, 3) := by decide +kernel
theorem dX9_backOf_37 : decode cX9_backOf 37 = .ok (.iload 4, 2) := by decide +kernel
theorem dX9_backOf_39 : decode cX9_backOf 39 = .ok (.iaload, 1) := by decide +kernel
theorem dX9_backOf_40 : decode cX9_backOf 40 = .ok (.iload_n 2, 1) := by decide +kernel
theorem dX9_backOf_41 : decode cX9_backOf 41 = .ok (.invokestatic 97, 3) := by decide +kernel
theorem dX9_backOf_44 : decode cX9_backOf 44 = .ok (.if_icmp .ne 17, 3) := by decide +kernel
theorem dX9_backOf_47 : decode cX9_backOf 47 = .ok (.aload_n 0, 1) := by decide +kernel
theorem dX9_backOf_48 : decode cX9_backOf 48 = .ok (.getfield 25, 3) := by decide +kernel
theorem dX9_backOf_51 : decode cX9_backOf 51 = .ok (.iload 4, 2) := by decide +kernel
theorem dX9_backOf_53 : decode cX9_backOf 53 = .ok (.iaload, 1) := by decide +kernel
theorem dX9_backOf_54 : decode cX9_backOf 54 = .ok (.iload_n 1, 1) := by decide +kernel
theorem dX9_backOf_55 : decode cX9_backOf 55 = .ok (.if_icmp .ne 6, 3) := by decide +kernel
theorem dX9_backOf_58 : decode cX9_backOf 58 = .ok (.iload 4, 2) := by decide +kernel
theorem dX9_backOf_60 : decode cX9_backOf 60 = .ok (.ireturn, 1) := by decide +kernel
theorem dX9_backOf_61 : decode cX9_backOf 61 = .ok (.iinc 4 1, 3) := by decide +kernel
theorem dX9_backOf_64 : decode cX9_backOf 64 = .ok (.goto (-61), 3) := by decide +kernel
theorem dX9_backOf_67 : decode cX9_backOf 67 = .ok (.bipush (-2), 2) := by decide +kernel
theorem dX9_backOf_69 : decode cX9_backOf 69 = .ok (.ireturn, 1) := by decide +kernel
theorem dX9_mark_0 : decode cX9_mark 0 = .ok (.aload_n 0, 1) := by decide +kernel
theorem dX9_mark_1 : decode cX9_mark 1 = .ok (.iload_n 1, 1) := by decide +kernel
theorem dX9_mark_2 : decode cX9_mark 2 = .ok (.invokevirtual 101, 3) := by decide +kernel
theorem dX9_mark_5 : decode cX9_mark 5 = .ok (.ifCond .eq 19, 3) := by decide +kernel
theorem dX9_mark_8 : decode cX9_mark 8 = .ok (.iload_n 2, 1) := by decide +kernel
theorem dX9_mark_9 : decode cX9_mark 9 = .ok (.bipush (-2), 2) := by decide +kernel
theorem dX9_mark_11 : decode cX9_mark 11 = .ok (.if_icmp .eq 15, 3) := by decide +kernel
theorem dX9_mark_14 : decode cX9_mark 14 = .ok (.iload_n 2, 1) := by decide +kernel
theorem dX9_mark_15 : decode cX9_mark 15 = .ok (.iconst 0, 1) := by decide +kernel
theorem dX9_mark_16 : decode cX9_mark 16 = .ok (.bipush 9, 2) := by decide +kernel
theorem dX9_mark_18 : decode cX9_mark 18 = .ok (.invokestatic 90, 3) := by decide +kernel
theorem dX9_mark_21 : decode cX9_mark 21 = .ok (.ifCond .ne 5, 3) := by decide +kernel
theorem dX9_mark_24 : decode cX9_mark 24 = .ok (.iconst (-1), 1) := by decide +kernel
theorem dX9_mark_25 : decode cX9_mark 25 = .ok (.ireturn, 1) := by decide +kernel
theorem dX9_mark_26 : decode cX9_mark 26 = .ok (.aload_n 0, 1) := by decide +kernel
theorem dX9_mark_27 : decode cX9_mark 27 = .ok (.getfield 16, 3) := by decide +kernel
theorem dX9_mark_30 : decode cX9_mark 30 = .ok (.iload_n 1, 1) := by decide +kernel
theorem dX9_mark_31 : decode cX9_mark 31 = .ok (.iaload, 1) := by decide +kernel
theorem dX9_mark_32 : decode cX9_mark 32 = .ok (.istore_n 3, 1) := by decide +kernel
theorem dX9_mark_33 : decode cX9_mark 33 = .ok (.aload_n 0, 1) := by decide +kernel
theorem dX9_mark_34 : decode cX9_mark 34 = .ok (.getfield 16, 3) := by decide +kernel
theorem dX9_mark_37 : decode cX9_mark 37 = .ok (.iload_n 1, 1) := by decide +kernel
theorem dX9_mark_38 : decode cX9_mark 38 = .ok (.iload_n 2, 1) := by decide +kernel
theorem dX9_mark_39 : decode cX9_mark 39 = .ok (.iastore, 1) := by decide +kernel
theorem dX9_mark_40 : decode cX9_mark 40 = .ok (.iload_n 3, 1) := by decide +kernel
theorem dX9_mark_41 : decode cX9_mark 41 = .ok (.ireturn, 1) := by decide +kernel
theorem dX9_alike_0 : decode cX9_alike 0 = .ok (.iload_n 1, 1) := by decide +kernel
theorem dX9_alike_1 : decode cX9_alike 1 = .ok (.iconst 0, 1) := by decide +kernel
theorem dX9_alike_2 : decode cX9_alike 2 = .ok (.bipush 9, 2) := by decide +kernel
theorem dX9_alike_4 : decode cX9_alike 4 = .ok (.invokestatic 90, 3) := by decide +kernel
theorem dX9_alike_7 : decode cX9_alike 7 = .ok (.ifCond .ne 5, 3) := by decide +kernel
theorem dX9_alike_10 : decode cX9_alike 10 = .ok (.iconst (-1), 1) := by decide +kernel
theorem dX9_alike_11 : decode cX9_alike 11 = .ok (.ireturn, 1) := by decide +kernel
theorem dX9_alike_12 : decode cX9_alike 12 = .ok (.iconst 0, 1) := by decide +kernel
theorem dX9_alike_13 : decode cX9_alike 13 = .ok (.istore_n 2, 1) := by decide +kernel
theorem dX9_alike_14 : decode cX9_alike 14 = .ok (.iload_n 2, 1) := by decide +kernel
theorem dX9_alike_15 : decode cX9_alike 15 = .ok (.aload_n 0, 1) := by decide +kernel
theorem dX9_alike_16 : decode cX9_alike 16 = .ok (.getfield 86, 3) := by decide +kernel
theorem dX9_alike_19 : decode cX9_alike 19 = .ok (.if_icmp .ge 97, 3) := by decide +kernel
theorem dX9_alike_22 : decode cX9_alike 22 = .ok (.aload_n 0, 1) := by decide +kernel
theorem dX9_alike_23 : decode cX9_alike 23 = .ok (.getfield 13, 3) := by decide +kernel
theorem dX9_alike_26 : decode cX9_alike 26 = .ok (.iload_n 2, 1) := by decide +kernel
theorem dX9_alike_27 : decode cX9_alike 27 = .ok (.iaload, 1) := by decide +kernel
theorem dX9_alike_28 : decode cX9_alike 28 = .ok (.iload_n 1, 1) := by decide +kernel
theorem dX9_alike_29 : decode cX9_alike 29 = .ok (.if_icmp .eq 6, 3) := by decide +kernel
theorem dX9_alike_32 : decode cX9_alike 32 = .ok (.goto 78, 3) := by decide +kernel
theorem dX9_alike_35 : decode cX9_alike 35 = .ok (.aload_n 0, 1) := by decide +kernel
theorem dX9_alike_36 : decode cX9_alike 36 = .ok (.getfield 16, 3) := by decide +kernel
theorem dX9_alike_39 : decode cX9_alike 39 = .ok (.iload_n 2, 1) := by decide +kernel
theorem dX9_alike_40 : decode cX9_alike 40 = .ok (.iaload, 1) := by decide +kernel
theorem dX9_alike_41 : decode cX9_alike 41 = .ok (.bipush (-2), 2) := by decide +kernel
theorem dX9_alike_43 : decode cX9_alike 43 = .ok (.if_icmp .ne 7, 3) := by decide +kernel
theorem dX9_alike_46 : decode cX9_alike 46 = .ok (.iconst 1, 1) := by decide +kernel
theorem dX9_alike_47 : decode cX9_alike 47 = .ok (.goto 4, 3) := by decide +kernel
theorem dX9_alike_50 : decode cX9_alike 50 = .ok (.iconst 0, 1) := by decide +kernel
theorem dX9_alike_51 : decode cX9_alike 51 = .ok (.istore_n 3, 1) := by decide +kernel
theorem dX9_alike_52 : decode cX9_alike 52 = .ok (.iconst 0, 1) := by decide +kernel
theorem dX9_alike_53 : decode cX9_alike 53 = .ok (.istore 4, 2) := by decide +kernel
theorem dX9_alike_55 : decode cX9_alike 55 = .ok (.iload 4, 2) := by decide +kernel
theorem dX9_alike_57 : decode cX9_alike 57 = .ok (.iload_n 2, 1) := by decide +kernel
theorem dX9_alike_58 : decode cX9_alike 58 = .ok (.if_icmp .ge 46, 3) := by decide +kernel
theorem dX9_alike_61 : decode cX9_alike 61 = .ok (.iload_n 3, 1) := by decide +kernel
theorem dX9_alike_62 : decode cX9_alike 62 = .ok (.ifCond .ne 30, 3) := by decide +kernel
theorem dX9_alike_65 : decode cX9_alike 65 = .ok (.aload_n 0, 1) := by decide +kernel
theorem dX9_alike_66 : decode cX9_alike 66 = .ok (.getfield 13, 3) := by decide +kernel
theorem dX9_alike_69 : decode cX9_alike 69 = .ok (.iload 4, 2) := by decide +kernel
theorem dX9_alike_71 : decode cX9_alike 71 = .ok (.iaload, 1) := by decide +kernel
theorem dX9_alike_72 : decode cX9_alike 72 = .ok (.iload_n 1, 1) := by decide +kernel
theorem dX9_alike_73 : decode cX9_alike 73 = .ok (.if_icmp .ne 23, 3) := by decide +kernel
theorem dX9_alike_76 : decode cX9_alike 76 = .ok (.aload_n 0, 1) := by decide +kernel
theorem dX9_alike_77 : decode cX9_alike 77 = .ok (.getfield 16, 3) := by decide +kernel
theorem dX9_alike_80 : decode cX9_alike 80 = .ok (.iload 4, 2) := by decide +kernel
theorem dX9_alike_82 : decode cX9_alike 82 = .ok (.iaload, 1) := by decide +kernel
theorem dX9_alike_83 : decode cX9_alike 83 = .ok (.aload_n 0, 1) := by decide +kernel
theorem dX9_alike_84 : decode cX9_alike 84 = .ok (.getfield 16, 3) := by decide +kernel
theorem dX9_alike_87 : decode cX9_alike 87 = .ok (.iload_n 2, 1) := by decide +kernel
theorem dX9_alike_88 : decode cX9_alike 88 = .ok (.iaload, 1) := by decide +kernel
theorem dX9_alike_89 : decode cX9_alike 89 = .ok (.if_icmp .ne 7, 3) := by decide +kernel
theorem dX9_alike_92 : decode cX9_alike 92 = .ok (.iconst 1, 1) := by decide +kernel
theorem dX9_alike_93 : decode cX9_alike 93 = .ok (.goto 4, 3) := by decide +kernel
theorem dX9_alike_96 : decode cX9_alike 96 = .ok (.iconst 0, 1) := by decide +kernel
theorem dX9_alike_97 : decode cX9_alike 97 = .ok (.istore_n 3, 1) := by decide +kernel
theorem dX9_alike_98 : decode cX9_alike 98 = .ok (.iinc 4 1, 3) := by decide +kernel
theorem dX9_alike_101 : decode cX9_alike 101 = .ok (.goto (-46), 3) := by decide +kernel
theorem dX9_alike_104 : decode cX9_alike 104 = .ok (.iload_n 3, 1) := by decide +kernel
theorem dX9_alike_105 : decode cX9_alike 105 = .ok (.ifCond .eq 5, 3) := by decide +kernel
theorem dX9_alike_108 : decode cX9_alike 108 = .ok (.iload_n 2, 1) := by decide +kernel
theorem dX9_alike_109 : decode cX9_alike 109 = .ok (.ireturn, 1) := by decide +kernel
theorem dX9_alike_110 : decode cX9_alike 110 = .ok (.iinc 2 1, 3) := by decide +kernel
theorem dX9_alike_113 : decode cX9_alike 113 = .ok (.goto (-99), 3) := by decide +kernel
theorem dX9_alike_116 : decode cX9_alike 116 = .ok (.bipush (-2), 2) := by decide +kernel
theorem dX9_alike_118 : decode cX9_alike 118 = .ok (.ireturn, 1) := by decide +kernel
theorem dX9_link_0 : decode cX9_link 0 = .ok (.aload_n 0, 1) := by decide +kernel
theorem dX9_link_1 : decode cX9_link 1 = .ok (.iload_n 1, 1) := by decide +kernel
theorem dX9_link_2 : decode cX9_link 2 = .ok (.invokevirtual 113, 3) := by decide +kernel
theorem dX9_link_5 : decode cX9_link 5 = .ok (.ifCond .eq 12, 3) := by decide +kernel
theorem dX9_link_8 : decode cX9_link 8 = .ok (.iload_n 2, 1) := by decide +kernel
theorem dX9_link_9 : decode cX9_link 9 = .ok (.iconst 0, 1) := by decide +kernel
theorem dX9_link_10 : decode cX9_link 10 = .ok (.iconst 4, 1) := by decide +kernel
theorem dX9_link_11 : decode cX9_link 11 = .ok (.invokestatic 90, 3) := by decide +kernel
theorem dX9_link_14 : decode cX9_link 14 = .ok (.ifCond .ne 5, 3) := by decide +kernel
theorem dX9_link_17 : decode cX9_link 17 = .ok (.iconst (-1), 1) := by decide +kernel
theorem dX9_link_18 : decode cX9_link 18 = .ok (.ireturn, 1) := by decide +kernel
theorem dX9_link_19 : decode cX9_link 19 = .ok (.iload_n 2, 1) := by decide +kernel
theorem dX9_link_20 : decode cX9_link 20 = .ok (.ifCond .ne 12, 3) := by decide +kernel
theorem dX9_link_23 : decode cX9_link 23 = .ok (.aload_n 0, 1) := by decide +kernel
theorem dX9_link_24 : decode cX9_link 24 = .ok (.getfield 19, 3) := by decide +kernel
theorem dX9_link_27 : decode cX9_link 27 = .ok (.iload_n 1, 1) := by decide +kernel
theorem dX9_link_28 : decode cX9_link 28 = .ok (.iaload, 1) := by decide +kernel
theorem dX9_link_29 : decode cX9_link 29 = .ok (.goto 73, 3) := by decide +kernel
theorem dX9_link_32 : decode cX9_link 32 = .ok (.iload_n 2, 1) := by decide +kernel
theorem dX9_link_33 : decode cX9_link 33 = .ok (.iconst 1, 1) := by decide +kernel
theorem dX9_link_34 : decode cX9_link 34 = .ok (.if_icmp .ne 12, 3) := by decide +kernel
theorem dX9_link_37 : decode cX9_link 37 = .ok (.aload_n 0, 1) := by decide +kernel
theorem dX9_link_38 : decode cX9_link 38 = .ok (.getfield 22, 3) := by decide +kernel
theorem dX9_link_41 : decode cX9_link 41 = .ok (.iload_n 1, 1) := by decide +kernel
theorem dX9_link_42 : decode cX9_link 42 = .ok (.iaload, 1) := by decide +kernel
theorem dX9_link_43 : decode cX9_link 43 = .ok (.goto 59, 3) := by decide +kernel
theorem dX9_link_46 : decode cX9_link 46 = .ok (.iload_n 2, 1) := by decide +kernel
theorem dX9_link_47 : decode cX9_link 47 = .ok (.iconst 2, 1) := by decide +kernel
theorem dX9_link_48 : decode cX9_link 48 = .ok (.if_icmp .ne 12, 3) := by decide +kernel
theorem dX9_link_51 : decode cX9_link 51 = .ok (.aload_n 0, 1) := by decide +kernel
theorem dX9_link_52 : decode cX9_link 52 = .ok (.getfield 25, 3) := by decide +kernel
theorem dX9_link_55 : decode cX9_link 55 = .ok (.iload_n 1, 1) := by decide +kernel
end
section
theorem dX9_link_56 : decode cX9_link 56 = .ok (.iaload, 1) := by decide +kernel
theorem dX9_link_57 : decode cX9_link 57 = .ok (.goto 45, 3) := by decide +kernel
theorem dX9_link_60 : decode cX9_link 60 = .ok (.iload_n 2, 1) := by decide +kernel
theorem dX9_link_61 : decode cX9_link 61 = .ok (.iconst 3, 1) := by decide +kernel
theorem dX9_link_62 : decode cX9_link 62 = .ok (.if_icmp .ne 20, 3) := by decide +kernel
theorem dX9_link_65 : decode cX9_link 65 = .ok (.aload_n 0, 1) := by decide +kernel
theorem dX9_link_66 : decode cX9_link 66 = .ok (.getfield 28, 3) := by decide +kernel
theorem dX9_link_69 : decode cX9_link 69 = .ok (.iload_n 1, 1) := by decide +kernel
theorem dX9_link_70 : decode cX9_link 70 = .ok (.baload, 1) := by decide +kernel
theorem dX9_link_71 : decode cX9_link 71 = .ok (.ifCond .eq 7, 3) := by decide +kernel
theorem dX9_link_74 : decode cX9_link 74 = .ok (.iconst 1, 1) := by decide +kernel
theorem dX9_link_75 : decode cX9_link 75 = .ok (.goto 27, 3) := by decide +kernel
theorem dX9_link_78 : decode cX9_link 78 = .ok (.iconst 0, 1) := by decide +kernel
theorem dX9_link_79 : decode cX9_link 79 = .ok (.goto 23, 3) := by decide +kernel
theorem dX9_link_82 : decode cX9_link 82 = .ok (.aload_n 0, 1) := by decide +kernel
theorem dX9_link_83 : decode cX9_link 83 = .ok (.getfield 19, 3) := by decide +kernel
theorem dX9_link_86 : decode cX9_link 86 = .ok (.iload_n 1, 1) := by decide +kernel
theorem dX9_link_87 : decode cX9_link 87 = .ok (.iaload, 1) := by decide +kernel
theorem dX9_link_88 : decode cX9_link 88 = .ok (.aload_n 0, 1) := by decide +kernel
theorem dX9_link_89 : decode cX9_link 89 = .ok (.getfield 25, 3) := by decide +kernel
theorem dX9_link_92 : decode cX9_link 92 = .ok (.iload_n 1, 1) := by decide +kernel
theorem dX9_link_93 : decode cX9_link 93 = .ok (.iaload, 1) := by decide +kernel
theorem dX9_link_94 : decode cX9_link 94 = .ok (.if_icmp .ne 7, 3) := by decide +kernel
theorem dX9_link_97 : decode cX9_link 97 = .ok (.iconst 1, 1) := by decide +kernel
theorem dX9_link_98 : decode cX9_link 98 = .ok (.goto 4, 3) := by decide +kernel
theorem dX9_link_101 : decode cX9_link 101 = .ok (.iconst 0, 1) := by decide +kernel
theorem dX9_link_102 : decode cX9_link 102 = .ok (.ireturn, 1) := by decide +kernel
theorem dX9_out_0 : decode cX9_out 0 = .ok (.aload_n 0, 1) := by decide +kernel
theorem dX9_out_1 : decode cX9_out 1 = .ok (.iload_n 1, 1) := by decide +kernel
theorem dX9_out_2 : decode cX9_out 2 = .ok (.invokevirtual 101, 3) := by decide +kernel
theorem dX9_out_5 : decode cX9_out 5 = .ok (.ifCond .eq 13, 3) := by decide +kernel
theorem dX9_out_8 : decode cX9_out 8 = .ok (.iload_n 2, 1) := by decide +kernel
theorem dX9_out_9 : decode cX9_out 9 = .ok (.iconst 0, 1) := by decide +kernel
theorem dX9_out_10 : decode cX9_out 10 = .ok (.bipush 9, 2) := by decide +kernel
theorem dX9_out_12 : decode cX9_out 12 = .ok (.invokestatic 90, 3) := by decide +kernel
theorem dX9_out_15 : decode cX9_out 15 = .ok (.ifCond .ne 7, 3) := by decide +kernel
theorem dX9_out_18 : decode cX9_out 18 = .ok (.iconst (-1), 1) := by decide +kernel
theorem dX9_out_19 : decode cX9_out 19 = .ok (.goto 9, 3) := by decide +kernel
theorem dX9_out_22 : decode cX9_out 22 = .ok (.aload_n 0, 1) := by decide +kernel
theorem dX9_out_23 : decode cX9_out 23 = .ok (.iload_n 1, 1) := by decide +kernel
theorem dX9_out_24 : decode cX9_out 24 = .ok (.iload_n 2, 1) := by decide +kernel
theorem dX9_out_25 : decode cX9_out 25 = .ok (.invokevirtual 105, 3) := by decide +kernel
theorem dX9_out_28 : decode cX9_out 28 = .ok (.ireturn, 1) := by decide +kernel
theorem dX9_findParts_0 : decode cX9_findParts 0 = .ok (.iconst 0, 1) := by decide +kernel
theorem dX9_findParts_1 : decode cX9_findParts 1 = .ok (.istore_n 1, 1) := by decide +kernel
theorem dX9_findParts_2 : decode cX9_findParts 2 = .ok (.iload_n 1, 1) := by decide +kernel
theorem dX9_findParts_3 : decode cX9_findParts 3 = .ok (.aload_n 0, 1) := by decide +kernel
theorem dX9_findParts_4 : decode cX9_findParts 4 = .ok (.getfield 86, 3) := by decide +kernel
theorem dX9_findParts_7 : decode cX9_findParts 7 = .ok (.if_icmp .ge 16, 3) := by decide +kernel
theorem dX9_findParts_10 : decode cX9_findParts 10 = .ok (.aload_n 0, 1) := by decide +kernel
theorem dX9_findParts_11 : decode cX9_findParts 11 = .ok (.getfield 47, 3) := by decide +kernel
theorem dX9_findParts_14 : decode cX9_findParts 14 = .ok (.iload_n 1, 1) := by decide +kernel
theorem dX9_findParts_15 : decode cX9_findParts 15 = .ok (.iload_n 1, 1) := by decide +kernel
theorem dX9_findParts_16 : decode cX9_findParts 16 = .ok (.iastore, 1) := by decide +kernel
theorem dX9_findParts_17 : decode cX9_findParts 17 = .ok (.iinc 1 1, 3) := by decide +kernel
theorem dX9_findParts_20 : decode cX9_findParts 20 = .ok (.goto (-18), 3) := by decide +kernel
theorem dX9_findParts_23 : decode cX9_findParts 23 = .ok (.iconst 0, 1) := by decide +kernel
theorem dX9_findParts_24 : decode cX9_findParts 24 = .ok (.istore_n 1, 1) := by decide +kernel
theorem dX9_findParts_25 : decode cX9_findParts 25 = .ok (.iload_n 1, 1) := by decide +kernel
theorem dX9_findParts_26 : decode cX9_findParts 26 = .ok (.aload_n 0, 1) := by decide +kernel
theorem dX9_findParts_27 : decode cX9_findParts 27 = .ok (.getfield 86, 3) := by decide +kernel
theorem dX9_findParts_30 : decode cX9_findParts 30 = .ok (.if_icmp .ge 100, 3) := by decide +kernel
theorem dX9_findParts_33 : decode cX9_findParts 33 = .ok (.iconst 0, 1) := by decide +kernel
theorem dX9_findParts_34 : decode cX9_findParts 34 = .ok (.istore_n 2, 1) := by decide +kernel
theorem dX9_findParts_35 : decode cX9_findParts 35 = .ok (.iload_n 2, 1) := by decide +kernel
theorem dX9_findParts_36 : decode cX9_findParts 36 = .ok (.aload_n 0, 1) := by decide +kernel
theorem dX9_findParts_37 : decode cX9_findParts 37 = .ok (.getfield 94, 3) := by decide +kernel
theorem dX9_findParts_40 : decode cX9_findParts 40 = .ok (.if_icmp .ge 84, 3) := by decide +kernel
theorem dX9_findParts_43 : decode cX9_findParts 43 = .ok (.aload_n 0, 1) := by decide +kernel
theorem dX9_findParts_44 : decode cX9_findParts 44 = .ok (.getfield 47, 3) := by decide +kernel
theorem dX9_findParts_47 : decode cX9_findParts 47 = .ok (.aload_n 0, 1) := by decide +kernel
theorem dX9_findParts_48 : decode cX9_findParts 48 = .ok (.getfield 19, 3) := by decide +kernel
theorem dX9_findParts_51 : decode cX9_findParts 51 = .ok (.iload_n 2, 1) := by decide +kernel
theorem dX9_findParts_52 : decode cX9_findParts 52 = .ok (.iaload, 1) := by decide +kernel
theorem dX9_findParts_53 : decode cX9_findParts 53 = .ok (.iaload, 1) := by decide +kernel
theorem dX9_findParts_54 : decode cX9_findParts 54 = .ok (.aload_n 0, 1) := by decide +kernel
theorem dX9_findParts_55 : decode cX9_findParts 55 = .ok (.getfield 47, 3) := by decide +kernel
theorem dX9_findParts_58 : decode cX9_findParts 58 = .ok (.aload_n 0, 1) := by decide +kernel
theorem dX9_findParts_59 : decode cX9_findParts 59 = .ok (.getfield 25, 3) := by decide +kernel
theorem dX9_findParts_62 : decode cX9_findParts 62 = .ok (.iload_n 2, 1) := by decide +kernel
theorem dX9_findParts_63 : decode cX9_findParts 63 = .ok (.iaload, 1) := by decide +kernel
theorem dX9_findParts_64 : decode cX9_findParts 64 = .ok (.iaload, 1) := by decide +kernel
theorem dX9_findParts_65 : decode cX9_findParts 65 = .ok (.if_icmp .ge 17, 3) := by decide +kernel
theorem dX9_findParts_68 : decode cX9_findParts 68 = .ok (.aload_n 0, 1) := by decide +kernel
theorem dX9_findParts_69 : decode cX9_findParts 69 = .ok (.getfield 47, 3) := by decide +kernel
theorem dX9_findParts_72 : decode cX9_findParts 72 = .ok (.aload_n 0, 1) := by decide +kernel
theorem dX9_findParts_73 : decode cX9_findParts 73 = .ok (.getfield 19, 3) := by decide +kernel
theorem dX9_findParts_76 : decode cX9_findParts 76 = .ok (.iload_n 2, 1) := by decide +kernel
theorem dX9_findParts_77 : decode cX9_findParts 77 = .ok (.iaload, 1) := by decide +kernel
theorem dX9_findParts_78 : decode cX9_findParts 78 = .ok (.iaload, 1) := by decide +kernel
theorem dX9_findParts_79 : decode cX9_findParts 79 = .ok (.goto 14, 3) := by decide +kernel
theorem dX9_findParts_82 : decode cX9_findParts 82 = .ok (.aload_n 0, 1) := by decide +kernel
theorem dX9_findParts_83 : decode cX9_findParts 83 = .ok (.getfield 47, 3) := by decide +kernel
theorem dX9_findParts_86 : decode cX9_findParts 86 = .ok (.aload_n 0, 1) := by decide +kernel
theorem dX9_findParts_87 : decode cX9_findParts 87 = .ok (.getfield 25, 3) := by decide +kernel
theorem dX9_findParts_90 : decode cX9_findParts 90 = .ok (.iload_n 2, 1) := by decide +kernel
theorem dX9_findParts_91 : decode cX9_findParts 91 = .ok (.iaload, 1) := by decide +kernel
theorem dX9_findParts_92 : decode cX9_findParts 92 = .ok (.iaload, 1) := by decide +kernel
theorem dX9_findParts_93 : decode cX9_findParts 93 = .ok (.istore_n 3, 1) := by decide +kernel
theorem dX9_findParts_94 : decode cX9_findParts 94 = .ok (.aload_n 0, 1) := by decide +kernel
theorem dX9_findParts_95 : decode cX9_findParts 95 = .ok (.getfield 47, 3) := by decide +kernel
theorem dX9_findParts_98 : decode cX9_findParts 98 = .ok (.aload_n 0, 1) := by decide +kernel
theorem dX9_findParts_99 : decode cX9_findParts 99 = .ok (.getfield 19, 3) := by decide +kernel
theorem dX9_findParts_102 : decode cX9_findParts 102 = .ok (.iload_n 2, 1) := by decide +kernel
theorem dX9_findParts_103 : decode cX9_findParts 103 = .ok (.iaload, 1) := by decide +kernel
theorem dX9_findParts_104 : decode cX9_findParts 104 = .ok (.iload_n 3, 1) := by decide +kernel
theorem dX9_findParts_105 : decode cX9_findParts 105 = .ok (.iastore, 1) := by decide +kernel
theorem dX9_findParts_106 : decode cX9_findParts 106 = .ok (.aload_n 0, 1) := by decide +kernel
theorem dX9_findParts_107 : decode cX9_findParts 107 = .ok (.getfield 47, 3) := by decide +kernel
theorem dX9_findParts_110 : decode cX9_findParts 110 = .ok (.aload_n 0, 1) := by decide +kernel
theorem dX9_findParts_111 : decode cX9_findParts 111 = .ok (.getfield 25, 3) := by decide +kernel
theorem dX9_findParts_114 : decode cX9_findParts 114 = .ok (.iload_n 2, 1) := by decide +kernel
theorem dX9_findParts_115 : decode cX9_findParts 115 = .ok (.iaload, 1) := by decide +kernel
theorem dX9_findParts_116 : decode cX9_findParts 116 = .ok (.iload_n 3, 1) := by decide +kernel
theorem dX9_findParts_117 : decode cX9_findParts 117 = .ok (.iastore, 1) := by decide +kernel
theorem dX9_findParts_118 : decode cX9_findParts 118 = .ok (.iinc 2 1, 3) := by decide +kernel
theorem dX9_findParts_121 : decode cX9_findParts 121 = .ok (.goto (-86), 3) := by decide +kernel
theorem dX9_findParts_124 : decode cX9_findParts 124 = .ok (.iinc 1 1, 3) := by decide +kernel
theorem dX9_findParts_127 : decode cX9_findParts 127 = .ok (.goto (-102), 3) := by decide +kernel
theorem dX9_findParts_130 : decode cX9_findParts 130 = .ok (.aload_n 0, 1) := by decide +kernel
theorem dX9_findParts_131 : decode cX9_findParts 131 = .ok (.iconst 0, 1) := by decide +kernel
theorem dX9_findParts_132 : decode cX9_findParts 132 = .ok (.putfield 126, 3) := by decide +kernel
theorem dX9_findParts_135 : decode cX9_findParts 135 = .ok (.iconst 0, 1) := by decide +kernel
theorem dX9_findParts_136 : decode cX9_findParts 136 = .ok (.istore_n 1, 1) := by decide +kernel
theorem dX9_findParts_137 : decode cX9_findParts 137 = .ok (.iload_n 1, 1) := by decide +kernel
theorem dX9_findParts_138 : decode cX9_findParts 138 = .ok (.aload_n 0, 1) := by decide +kernel
theorem dX9_findParts_139 : decode cX9_findParts 139 = .ok (.getfield 86, 3) := by decide +kernel
theorem dX9_findParts_142 : decode cX9_findParts 142 = .ok (.if_icmp .ge 59, 3) := by decide +kernel
theorem dX9_findParts_145 : decode cX9_findParts 145 = .ok (.aload_n 0, 1) := by decide +kernel
theorem dX9_findParts_146 : decode cX9_findParts 146 = .ok (.getfield 47, 3) := by decide +kernel
theorem dX9_findParts_149 : decode cX9_findParts 149 = .ok (.iload_n 1, 1) := by decide +kernel
theorem dX9_findParts_150 : decode cX9_findParts 150 = .ok (.iaload, 1) := by decide +kernel
theorem dX9_findParts_151 : decode cX9_findParts 151 = .ok (.iload_n 1, 1) := by decide +kernel
theorem dX9_findParts_152 : decode cX9_findParts 152 = .ok (.if_icmp .ne 26, 3) := by decide +kernel
theorem dX9_findParts_155 : decode cX9_findParts 155 = .ok (.aload_n 0, 1) := by decide +kernel
theorem dX9_findParts_156 : decode cX9_findParts 156 = .ok (.getfield 50, 3) := by decide +kernel
theorem dX9_findParts_159 : decode cX9_findParts 159 = .ok (.iload_n 1, 1) := by decide +kernel
theorem dX9_findParts_160 : decode cX9_findParts 160 = .ok (.aload_n 0, 1) := by decide +kernel
theorem dX9_findParts_161 : decode cX9_findParts 161 = .ok (.getfield 126, 3) := by decide +kernel
theorem dX9_findParts_164 : decode cX9_findParts 164 = .ok (.iastore, 1) := by decide +kernel
theorem dX9_findParts_165 : decode cX9_findParts 165 = .ok (.aload_n 0, 1) := by decide +kernel
theorem dX9_findParts_166 : decode cX9_findParts 166 = .ok (.dup, 1) := by decide +kernel
theorem dX9_findParts_167 : decode cX9_findParts 167 = .ok (.getfield 126, 3) := by decide +kernel
theorem dX9_findParts_170 : decode cX9_findParts 170 = .ok (.iconst 1, 1) := by decide +kernel
theorem dX9_findParts_171 : decode cX9_findParts 171 = .ok (.iadd, 1) := by decide +kernel
theorem dX9_findParts_172 : decode cX9_findParts 172 = .ok (.putfield 126, 3) := by decide +kernel
theorem dX9_findParts_175 : decode cX9_findParts 175 = .ok (.goto 20, 3) := by decide +kernel
theorem dX9_findParts_178 : decode cX9_findParts 178 = .ok (.aload_n 0, 1) := by decide +kernel
theorem dX9_findParts_179 : decode cX9_findParts 179 = .ok (.getfield 50, 3) := by decide +kernel
theorem dX9_findParts_182 : decode cX9_findParts 182 = .ok (.iload_n 1, 1) := by decide +kernel
theorem dX9_findParts_183 : decode cX9_findParts 183 = .ok (.aload_n 0, 1) := by decide +kernel
theorem dX9_findParts_184 : decode cX9_findParts 184 = .ok (.getfield 50, 3) := by decide +kernel
theorem dX9_findParts_187 : decode cX9_findParts 187 = .ok (.aload_n 0, 1) := by decide +kernel
theorem dX9_findParts_188 : decode cX9_findParts 188 = .ok (.getfield 47, 3) := by decide +kernel
theorem dX9_findParts_191 : decode cX9_findParts 191 = .ok (.iload_n 1, 1) := by decide +kernel
theorem dX9_findParts_192 : decode cX9_findParts 192 = .ok (.iaload, 1) := by decide +kernel
theorem dX9_findParts_193 : decode cX9_findParts 193 = .ok (.iaload, 1) := by decide +kernel
theorem dX9_findParts_194 : decode cX9_findParts 194 = .ok (.iastore, 1) := by decide +kernel
theorem dX9_findParts_195 : decode cX9_findParts 195 = .ok (.iinc 1 1, 3) := by decide +kernel
theorem dX9_findParts_198 : decode cX9_findParts 198 = .ok (.goto (-61), 3) := by decide +kernel
theorem dX9_findParts_201 : decode cX9_findParts 201 = .ok (.return_, 1) := by decide +kernel
theorem dX9_part_0 : decode cX9_part 0 = .ok (.aload_n 0, 1) := by decide +kernel
theorem dX9_part_1 : decode cX9_part 1 = .ok (.iload_n 1, 1) := by decide +kernel
theorem dX9_part_2 : decode cX9_part 2 = .ok (.invokevirtual 101, 3) := by decide +kernel
theorem dX9_part_5 : decode cX9_part 5 = .ok (.ifCond .ne 5, 3) := by decide +kernel
theorem dX9_part_8 : decode cX9_part 8 = .ok (.iconst (-1), 1) := by decide +kernel
theorem dX9_part_9 : decode cX9_part 9 = .ok (.ireturn, 1) := by decide +kernel
theorem dX9_part_10 : decode cX9_part 10 = .ok (.aload_n 0, 1) := by decide +kernel
theorem dX9_part_11 : decode cX9_part 11 = .ok (.invokevirtual 129, 3) := by decide +kernel
theorem dX9_part_14 : decode cX9_part 14 = .ok (.aload_n 0, 1) := by decide +kernel
theorem dX9_part_15 : decode cX9_part 15 = .ok (.getfield 50, 3) := by decide +kernel
theorem dX9_part_18 : decode cX9_part 18 = .ok (.iload_n 1, 1) := by decide +kernel
theorem dX9_part_19 : decode cX9_part 19 = .ok (.iaload, 1) := by decide +kernel
theorem dX9_part_20 : decode cX9_part 20 = .ok (.ireturn, 1) := by decide +kernel
theorem dX9_at_0 : decode cX9_at 0 = .ok (.iconst 0, 1) := by decide +kernel
theorem dX9_at_1 : decode cX9_at 1 = .ok (.istore 4, 2) := by decide +kernel
theorem dX9_at_3 : decode cX9_at 3 = .ok (.iload 4, 2) := by decide +kernel
theorem dX9_at_5 : decode cX9_at 5 = .ok (.aload_n 0, 1) := by decide +kernel
theorem dX9_at_6 : decode cX9_at 6 = .ok (.getfield 86, 3) := by decide +kernel
theorem dX9_at_9 : decode cX9_at 9 = .ok (.if_icmp .ge 55, 3) := by decide +kernel
theorem dX9_at_12 : decode cX9_at 12 = .ok (.aload_n 0, 1) := by decide +kernel
theorem dX9_at_13 : decode cX9_at 13 = .ok (.getfield 53, 3) := by decide +kernel
theorem dX9_at_16 : decode cX9_at 16 = .ok (.iload 4, 2) := by decide +kernel
theorem dX9_at_18 : decode cX9_at 18 = .ok (.baload, 1) := by decide +kernel
theorem dX9_at_19 : decode cX9_at 19 = .ok (.ifCond .eq 39, 3) := by decide +kernel
theorem dX9_at_22 : decode cX9_at 22 = .ok (.aload_n 0, 1) := by decide +kernel
theorem dX9_at_23 : decode cX9_at 23 = .ok (.getfield 56, 3) := by decide +kernel
theorem dX9_at_26 : decode cX9_at 26 = .ok (.iload 4, 2) := by decide +kernel
theorem dX9_at_28 : decode cX9_at 28 = .ok (.iaload, 1) := by decide +kernel
theorem dX9_at_29 : decode cX9_at 29 = .ok (.iload_n 1, 1) := by decide +kernel
theorem dX9_at_30 : decode cX9_at 30 = .ok (.if_icmp .ne 28, 3) := by decide +kernel
theorem dX9_at_33 : decode cX9_at 33 = .ok (.aload_n 0, 1) := by decide +kernel
theorem dX9_at_34 : decode cX9_at 34 = .ok (.getfield 59, 3) := by decide +kernel
theorem dX9_at_37 : decode cX9_at 37 = .ok (.iload 4, 2) := by decide +kernel
theorem dX9_at_39 : decode cX9_at 39 = .ok (.iaload, 1) := by decide +kernel
theorem dX9_at_40 : decode cX9_at 40 = .ok (.iload_n 2, 1) := by decide +kernel
theorem dX9_at_41 : decode cX9_at 41 = .ok (.if_icmp .ne 17, 3) := by decide +kernel
theorem dX9_at_44 : decode cX9_at 44 = .ok (.aload_n 0, 1) := by decide +kernel
theorem dX9_at_45 : decode cX9_at 45 = .ok (.getfield 62, 3) := by decide +kernel
theorem dX9_at_48 : decode cX9_at 48 = .ok (.iload 4, 2) := by decide +kernel
theorem dX9_at_50 : decode cX9_at 50 = .ok (.iaload, 1) := by decide +kernel
theorem dX9_at_51 : decode cX9_at 51 = .ok (.iload_n 3, 1) := by decide +kernel
theorem dX9_at_52 : decode cX9_at 52 = .ok (.if_icmp .ne 6, 3) := by decide +kernel
theorem dX9_at_55 : decode cX9_at 55 = .ok (.iload 4, 2) := by decide +kernel
theorem dX9_at_57 : decode cX9_at 57 = .ok (.ireturn, 1) := by decide +kernel
theorem dX9_at_58 : decode cX9_at 58 = .ok (.iinc 4 1, 3) := by decide +kernel
theorem dX9_at_61 : decode cX9_at 61 = .ok (.goto (-58), 3) := by decide +kernel
theorem dX9_at_64 : decode cX9_at 64 = .ok (.bipush (-2), 2) := by decide +kernel
theorem dX9_at_66 : decode cX9_at 66 = .ok (.ireturn, 1) := by decide +kernel
theorem dX9_stand_0 : decode cX9_stand 0 = .ok (.aload_n 0, 1) := by decide +kernel
theorem dX9_stand_1 : decode cX9_stand 1 = .ok (.getfield 53, 3) := by decide +kernel
theorem dX9_stand_4 : decode cX9_stand 4 = .ok (.iload_n 1, 1) := by decide +kernel
theorem dX9_stand_5 : decode cX9_stand 5 = .ok (.iconst 1, 1) := by decide +kernel
theorem dX9_stand_6 : decode cX9_stand 6 = .ok (.bastore, 1) := by decide +kernel
theorem dX9_stand_7 : decode cX9_stand 7 = .ok (.aload_n 0, 1) := by decide +kernel
theorem dX9_stand_8 : decode cX9_stand 8 = .ok (.getfield 56, 3) := by decide +kernel
theorem dX9_stand_11 : decode cX9_stand 11 = .ok (.iload_n 1, 1) := by decide +kernel
theorem dX9_stand_12 : decode cX9_stand 12 = .ok (.iload_n 2, 1) := by decide +kernel
theorem dX9_stand_13 : decode cX9_stand 13 = .ok (.iastore, 1) := by decide +kernel
theorem dX9_stand_14 : decode cX9_stand 14 = .ok (.aload_n 0, 1) := by decide +kernel
theorem dX9_stand_15 : decode cX9_stand 15 = .ok (.getfield 59, 3) := by decide +kernel
theorem dX9_stand_18 : decode cX9_stand 18 = .ok (.iload_n 1, 1) := by decide +kernel
theorem dX9_stand_19 : decode cX9_stand 19 = .ok (.iload_n 3, 1) := by decide +kernel
theorem dX9_stand_20 : decode cX9_stand 20 = .ok (.iastore, 1) := by decide +kernel
theorem dX9_stand_21 : decode cX9_stand 21 = .ok (.aload_n 0, 1) := by decide +kernel
theorem dX9_stand_22 : decode cX9_stand 22 = .ok (.getfield 62, 3) := by decide +kernel
theorem dX9_stand_25 : decode cX9_stand 25 = .ok (.iload_n 1, 1) := by decide +kernel
theorem dX9_stand_26 : decode cX9_stand 26 = .ok (.iload 4, 2) := by decide +kernel
theorem dX9_stand_28 : decode cX9_stand 28 = .ok (.iastore, 1) := by decide +kernel
theorem dX9_stand_29 : decode cX9_stand 29 = .ok (.return_, 1) := by decide +kernel
theorem dX9_farBy_0 : decode cX9_farBy 0 = .ok (.iload_n 3, 1) := by decide +kernel
theorem dX9_farBy_1 : decode cX9_farBy 1 = .ok (.aload_n 0, 1) := by decide +kernel
theorem dX9_farBy_2 : decode cX9_farBy 2 = .ok (.getfield 56, 3) := by decide +kernel
theorem dX9_farBy_5 : decode cX9_farBy 5 = .ok (.iload_n 1, 1) := by decide +kernel
theorem dX9_farBy_6 : decode cX9_farBy 6 = .ok (.iaload, 1) := by decide +kernel
theorem dX9_farBy_7 : decode cX9_farBy 7 = .ok (.isub, 1) := by decide +kernel
theorem dX9_farBy_8 : decode cX9_farBy 8 = .ok (.istore 5, 2) := by decide +kernel
theorem dX9_farBy_10 : decode cX9_farBy 10 = .ok (.iload 4, 2) := by decide +kernel
theorem dX9_farBy_12 : decode cX9_farBy 12 = .ok (.aload_n 0, 1) := by decide +kernel
theorem dX9_farBy_13 : decode cX9_farBy 13 = .ok (.getfield 59, 3) := by decide +kernel
theorem dX9_farBy_16 : decode cX9_farBy 16 = .ok (.iload_n 1, 1) := by decide +kernel
theorem dX9_farBy_17 : decode cX9_farBy 17 = .ok (.iaload, 1) := by decide +kernel
theorem dX9_farBy_18 : decode cX9_farBy 18 = .ok (.isub, 1) := by decide +kernel
theorem dX9_farBy_19 : decode cX9_farBy 19 = .ok (.istore 6, 2) := by decide +kernel
theorem dX9_farBy_21 : decode cX9_farBy 21 = .ok (.iload 5, 2) := by decide +kernel
theorem dX9_farBy_23 : decode cX9_farBy 23 = .ok (.iload_n 2, 1) := by decide +kernel
theorem dX9_farBy_24 : decode cX9_farBy 24 = .ok (.invokestatic 132, 3) := by decide +kernel
theorem dX9_farBy_27 : decode cX9_farBy 27 = .ok (.imul, 1) := by decide +kernel
theorem dX9_farBy_28 : decode cX9_farBy 28 = .ok (.iload 6, 2) := by decide +kernel
theorem dX9_farBy_30 : decode cX9_farBy 30 = .ok (.iload_n 2, 1) := by decide +kernel
theorem dX9_farBy_31 : decode cX9_farBy 31 = .ok (.invokestatic 135, 3) := by decide +kernel
theorem dX9_farBy_34 : decode cX9_farBy 34 = .ok (.imul, 1) := by decide +kernel
theorem dX9_farBy_35 : decode cX9_farBy 35 = .ok (.iadd, 1) := by decide +kernel
theorem dX9_farBy_36 : decode cX9_farBy 36 = .ok (.istore 7, 2) := by decide +kernel
theorem dX9_farBy_38 : decode cX9_farBy 38 = .ok (.iload_n 2, 1) := by decide +kernel
theorem dX9_farBy_39 : decode cX9_farBy 39 = .ok (.iconst 2, 1) := by decide +kernel
theorem dX9_farBy_40 : decode cX9_farBy 40 = .ok (.irem, 1) := by decide +kernel
theorem dX9_farBy_41 : decode cX9_farBy 41 = .ok (.iconst 1, 1) := by decide +kernel
theorem dX9_farBy_42 : decode cX9_farBy 42 = .ok (.if_icmp .ne 10, 3) := by decide +kernel
theorem dX9_farBy_45 : decode cX9_farBy 45 = .ok (.iload 7, 2) := by decide +kernel
theorem dX9_farBy_47 : decode cX9_farBy 47 = .ok (.iconst 2, 1) := by decide +kernel
theorem dX9_farBy_48 : decode cX9_farBy 48 = .ok (.idiv, 1) := by decide +kernel
theorem dX9_farBy_49 : decode cX9_farBy 49 = .ok (.goto 5, 3) := by decide +kernel
theorem dX9_farBy_52 : decode cX9_farBy 52 = .ok (.iload 7, 2) := by decide +kernel
theorem dX9_farBy_54 : decode cX9_farBy 54 = .ok (.istore 7, 2) := by decide +kernel
theorem dX9_farBy_56 : decode cX9_farBy 56 = .ok (.iload 7, 2) := by decide +kernel
theorem dX9_farBy_58 : decode cX9_farBy 58 = .ok (.ifCond .le 32, 3) := by decide +kernel
theorem dX9_farBy_61 : decode cX9_farBy 61 = .ok (.iload 5, 2) := by decide +kernel
theorem dX9_farBy_63 : decode cX9_farBy 63 = .ok (.iload 7, 2) := by decide +kernel
theorem dX9_farBy_65 : decode cX9_farBy 65 = .ok (.iload_n 2, 1) := by decide +kernel
theorem dX9_farBy_66 : decode cX9_farBy 66 = .ok (.invokestatic 132, 3) := by decide +kernel
theorem dX9_farBy_69 : decode cX9_farBy 69 = .ok (.imul, 1) := by decide +kernel
theorem dX9_farBy_70 : decode cX9_farBy 70 = .ok (.if_icmp .ne 20, 3) := by decide +kernel
theorem dX9_farBy_73 : decode cX9_farBy 73 = .ok (.iload 6, 2) := by decide +kernel
theorem dX9_farBy_75 : decode cX9_farBy 75 = .ok (.iload 7, 2) := by decide +kernel
theorem dX9_farBy_77 : decode cX9_farBy 77 = .ok (.iload_n 2, 1) := by decide +kernel
theorem dX9_farBy_78 : decode cX9_farBy 78 = .ok (.invokestatic 135, 3) := by decide +kernel
theorem dX9_farBy_81 : decode cX9_farBy 81 = .ok (.imul, 1) := by decide +kernel
theorem dX9_farBy_82 : decode cX9_farBy 82 = .ok (.if_icmp .ne 8, 3) := by decide +kernel
theorem dX9_farBy_85 : decode cX9_farBy 85 = .ok (.iload 7, 2) := by decide +kernel
theorem dX9_farBy_87 : decode cX9_farBy 87 = .ok (.goto 4, 3) := by decide +kernel
theorem dX9_farBy_90 : decode cX9_farBy 90 = .ok (.iconst 0, 1) := by decide +kernel
theorem dX9_farBy_91 : decode cX9_farBy 91 = .ok (.ireturn, 1) := by decide +kernel
theorem dX9_straightBy_0 : decode cX9_straightBy 0 = .ok (.aload_n 0, 1) := by decide +kernel
theorem dX9_straightBy_1 : decode cX9_straightBy 1 = .ok (.getfield 22, 3) := by decide +kernel
theorem dX9_straightBy_4 : decode cX9_straightBy 4 = .ok (.iload_n 1, 1) := by decide +kernel
theorem dX9_straightBy_5 : decode cX9_straightBy 5 = .ok (.iaload, 1) := by decide +kernel
theorem dX9_straightBy_6 : decode cX9_straightBy 6 = .ok (.istore_n 2, 1) := by decide +kernel
theorem dX9_straightBy_7 : decode cX9_straightBy 7 = .ok (.aload_n 0, 1) := by decide +kernel
theorem dX9_straightBy_8 : decode cX9_straightBy 8 = .ok (.getfield 19, 3) := by decide +kernel
theorem dX9_straightBy_11 : decode cX9_straightBy 11 = .ok (.iload_n 1, 1) := by decide +kernel
theorem dX9_straightBy_12 : decode cX9_straightBy 12 = .ok (.iaload, 1) := by decide +kernel
theorem dX9_straightBy_13 : decode cX9_straightBy 13 = .ok (.istore_n 3, 1) := by decide +kernel
theorem dX9_straightBy_14 : decode cX9_straightBy 14 = .ok (.aload_n 0, 1) := by decide +kernel
theorem dX9_straightBy_15 : decode cX9_straightBy 15 = .ok (.getfield 25, 3) := by decide +kernel
theorem dX9_straightBy_18 : decode cX9_straightBy 18 = .ok (.iload_n 1, 1) := by decide +kernel
theorem dX9_straightBy_19 : decode cX9_straightBy 19 = .ok (.iaload, 1) := by decide +kernel
theorem dX9_straightBy_20 : decode cX9_straightBy 20 = .ok (.istore 4, 2) := by decide +kernel
theorem dX9_straightBy_22 : decode cX9_straightBy 22 = .ok (.iload_n 2, 1) := by decide +kernel
theorem dX9_straightBy_23 : decode cX9_straightBy 23 = .ok (.bipush 7, 2) := by decide +kernel
theorem dX9_straightBy_25 : decode cX9_straightBy 25 = .ok (.if_icmp .le 62, 3) := by decide +kernel
theorem dX9_straightBy_28 : decode cX9_straightBy 28 = .ok (.aload_n 0, 1) := by decide +kernel
theorem dX9_straightBy_29 : decode cX9_straightBy 29 = .ok (.getfield 56, 3) := by decide +kernel
theorem dX9_straightBy_32 : decode cX9_straightBy 32 = .ok (.iload_n 3, 1) := by decide +kernel
theorem dX9_straightBy_33 : decode cX9_straightBy 33 = .ok (.iaload, 1) := by decide +kernel
theorem dX9_straightBy_34 : decode cX9_straightBy 34 = .ok (.aload_n 0, 1) := by decide +kernel
theorem dX9_straightBy_35 : decode cX9_straightBy 35 = .ok (.getfield 56, 3) := by decide +kernel
theorem dX9_straightBy_38 : decode cX9_straightBy 38 = .ok (.iload 4, 2) := by decide +kernel
theorem dX9_straightBy_40 : decode cX9_straightBy 40 = .ok (.iaload, 1) := by decide +kernel
theorem dX9_straightBy_41 : decode cX9_straightBy 41 = .ok (.if_icmp .ne 44, 3) := by decide +kernel
theorem dX9_straightBy_44 : decode cX9_straightBy 44 = .ok (.aload_n 0, 1) := by decide +kernel
theorem dX9_straightBy_45 : decode cX9_straightBy 45 = .ok (.getfield 59, 3) := by decide +kernel
theorem dX9_straightBy_48 : decode cX9_straightBy 48 = .ok (.iload_n 3, 1) := by decide +kernel
theorem dX9_straightBy_49 : decode cX9_straightBy 49 = .ok (.iaload, 1) := by decide +kernel
theorem dX9_straightBy_50 : decode cX9_straightBy 50 = .ok (.aload_n 0, 1) := by decide +kernel
theorem dX9_straightBy_51 : decode cX9_straightBy 51 = .ok (.getfield 59, 3) := by decide +kernel
theorem dX9_straightBy_54 : decode cX9_straightBy 54 = .ok (.iload 4, 2) := by decide +kernel
theorem dX9_straightBy_56 : decode cX9_straightBy 56 = .ok (.iaload, 1) := by decide +kernel
theorem dX9_straightBy_57 : decode cX9_straightBy 57 = .ok (.if_icmp .ne 28, 3) := by decide +kernel
theorem dX9_straightBy_60 : decode cX9_straightBy 60 = .ok (.aload_n 0, 1) := by decide +kernel
theorem dX9_straightBy_61 : decode cX9_straightBy 61 = .ok (.getfield 62, 3) := by decide +kernel
theorem dX9_straightBy_64 : decode cX9_straightBy 64 = .ok (.iload 4, 2) := by decide +kernel
theorem dX9_straightBy_66 : decode cX9_straightBy 66 = .ok (.iaload, 1) := by decide +kernel
theorem dX9_straightBy_67 : decode cX9_straightBy 67 = .ok (.aload_n 0, 1) := by decide +kernel
theorem dX9_straightBy_68 : decode cX9_straightBy 68 = .ok (.getfield 62, 3) := by decide +kernel
theorem dX9_straightBy_71 : decode cX9_straightBy 71 = .ok (.iload_n 3, 1) := by decide +kernel
theorem dX9_straightBy_72 : decode cX9_straightBy 72 = .ok (.iaload, 1) := by decide +kernel
theorem dX9_straightBy_73 : decode cX9_straightBy 73 = .ok (.iload_n 2, 1) := by decide +kernel
theorem dX9_straightBy_74 : decode cX9_straightBy 74 = .ok (.invokestatic 138, 3) := by decide +kernel
theorem dX9_straightBy_77 : decode cX9_straightBy 77 = .ok (.iadd, 1) := by decide +kernel
theorem dX9_straightBy_78 : decode cX9_straightBy 78 = .ok (.if_icmp .ne 7, 3) := by decide +kernel
theorem dX9_straightBy_81 : decode cX9_straightBy 81 = .ok (.iconst 1, 1) := by decide +kernel
theorem dX9_straightBy_82 : decode cX9_straightBy 82 = .ok (.goto 4, 3) := by decide +kernel
theorem dX9_straightBy_85 : decode cX9_straightBy 85 = .ok (.iconst 0, 1) := by decide +kernel
theorem dX9_straightBy_86 : decode cX9_straightBy 86 = .ok (.ireturn, 1) := by decide +kernel
theorem dX9_straightBy_87 : decode cX9_straightBy 87 = .ok (.aload_n 0, 1) := by decide +kernel
theorem dX9_straightBy_88 : decode cX9_straightBy 88 = .ok (.getfield 62, 3) := by decide +kernel
theorem dX9_straightBy_91 : decode cX9_straightBy 91 = .ok (.iload_n 3, 1) := by decide +kernel
theorem dX9_straightBy_92 : decode cX9_straightBy 92 = .ok (.iaload, 1) := by decide +kernel
theorem dX9_straightBy_93 : decode cX9_straightBy 93 = .ok (.aload_n 0, 1) := by decide +kernel
theorem dX9_straightBy_94 : decode cX9_straightBy 94 = .ok (.getfield 62, 3) := by decide +kernel
theorem dX9_straightBy_97 : decode cX9_straightBy 97 = .ok (.iload 4, 2) := by decide +kernel
theorem dX9_straightBy_99 : decode cX9_straightBy 99 = .ok (.iaload, 1) := by decide +kernel
theorem dX9_straightBy_100 : decode cX9_straightBy 100 = .ok (.if_icmp .ne 26, 3) := by decide +kernel
theorem dX9_straightBy_103 : decode cX9_straightBy 103 = .ok (.aload_n 0, 1) := by decide +kernel
theorem dX9_straightBy_104 : decode cX9_straightBy 104 = .ok (.iload_n 3, 1) := by decide +kernel
theorem dX9_straightBy_105 : decode cX9_straightBy 105 = .ok (.iload_n 2, 1) := by decide +kernel
theorem dX9_straightBy_106 : decode cX9_straightBy 106 = .ok (.aload_n 0, 1) := by decide +kernel
theorem dX9_straightBy_107 : decode cX9_straightBy 107 = .ok (.getfield 56, 3) := by decide +kernel
theorem dX9_straightBy_110 : decode cX9_straightBy 110 = .ok (.iload 4, 2) := by decide +kernel
theorem dX9_straightBy_112 : decode cX9_straightBy 112 = .ok (.iaload, 1) := by decide +kernel
theorem dX9_straightBy_113 : decode cX9_straightBy 113 = .ok (.aload_n 0, 1) := by decide +kernel
theorem dX9_straightBy_114 : decode cX9_straightBy 114 = .ok (.getfield 59, 3) := by decide +kernel
theorem dX9_straightBy_117 : decode cX9_straightBy 117 = .ok (.iload 4, 2) := by decide +kernel
theorem dX9_straightBy_119 : decode cX9_straightBy 119 = .ok (.iaload, 1) := by decide +kernel
theorem dX9_straightBy_120 : decode cX9_straightBy 120 = .ok (.invokevirtual 141, 3) := by decide +kernel
theorem dX9_straightBy_123 : decode cX9_straightBy 123 = .ok (.goto 4, 3) := by decide +kernel
theorem dX9_straightBy_126 : decode cX9_straightBy 126 = .ok (.iconst 0, 1) := by decide +kernel
theorem dX9_straightBy_127 : decode cX9_straightBy 127 = .ok (.istore 5, 2) := by decide +kernel
theorem dX9_straightBy_129 : decode cX9_straightBy 129 = .ok (.iload 5, 2) := by decide +kernel
theorem dX9_straightBy_131 : decode cX9_straightBy 131 = .ok (.bipush 60, 2) := by decide +kernel
theorem dX9_straightBy_133 : decode cX9_straightBy 133 = .ok (.if_icmp .le 5, 3) := by decide +kernel
theorem dX9_straightBy_136 : decode cX9_straightBy 136 = .ok (.iconst 0, 1) := by decide +kernel
theorem dX9_straightBy_137 : decode cX9_straightBy 137 = .ok (.ireturn, 1) := by decide +kernel
theorem dX9_straightBy_138 : decode cX9_straightBy 138 = .ok (.iconst 0, 1) := by decide +kernel
theorem dX9_straightBy_139 : decode cX9_straightBy 139 = .ok (.istore 6, 2) := by decide +kernel
theorem dX9_straightBy_141 : decode cX9_straightBy 141 = .ok (.iload 6, 2) := by decide +kernel
theorem dX9_straightBy_143 : decode cX9_straightBy 143 = .ok (.aload_n 0, 1) := by decide +kernel
theorem dX9_straightBy_144 : decode cX9_straightBy 144 = .ok (.getfield 86, 3) := by decide +kernel
theorem dX9_straightBy_147 : decode cX9_straightBy 147 = .ok (.if_icmp .ge 87, 3) := by decide +kernel
theorem dX9_straightBy_150 : decode cX9_straightBy 150 = .ok (.iload 5, 2) := by decide +kernel
theorem dX9_straightBy_152 : decode cX9_straightBy 152 = .ok (.iconst 1, 1) := by decide +kernel
theorem dX9_straightBy_153 : decode cX9_straightBy 153 = .ok (.if_icmp .le 81, 3) := by decide +kernel
theorem dX9_straightBy_156 : decode cX9_straightBy 156 = .ok (.aload_n 0, 1) := by decide +kernel
theorem dX9_straightBy_157 : decode cX9_straightBy 157 = .ok (.getfield 53, 3) := by decide +kernel
theorem dX9_straightBy_160 : decode cX9_straightBy 160 = .ok (.iload 6, 2) := by decide +kernel
theorem dX9_straightBy_162 : decode cX9_straightBy 162 = .ok (.baload, 1) := by decide +kernel
theorem dX9_straightBy_163 : decode cX9_straightBy 163 = .ok (.ifCond .eq 42, 3) := by decide +kernel
theorem dX9_straightBy_166 : decode cX9_straightBy 166 = .ok (.aload_n 0, 1) := by decide +kernel
theorem dX9_straightBy_167 : decode cX9_straightBy 167 = .ok (.getfield 62, 3) := by decide +kernel
theorem dX9_straightBy_170 : decode cX9_straightBy 170 = .ok (.iload 6, 2) := by decide +kernel
theorem dX9_straightBy_172 : decode cX9_straightBy 172 = .ok (.iaload, 1) := by decide +kernel
theorem dX9_straightBy_173 : decode cX9_straightBy 173 = .ok (.aload_n 0, 1) := by decide +kernel
theorem dX9_straightBy_174 : decode cX9_straightBy 174 = .ok (.getfield 62, 3) := by decide +kernel
theorem dX9_straightBy_177 : decode cX9_straightBy 177 = .ok (.iload_n 3, 1) := by decide +kernel
theorem dX9_straightBy_178 : decode cX9_straightBy 178 = .ok (.iaload, 1) := by decide +kernel
theorem dX9_straightBy_179 : decode cX9_straightBy 179 = .ok (.if_icmp .ne 26, 3) := by decide +kernel
theorem dX9_straightBy_182 : decode cX9_straightBy 182 = .ok (.aload_n 0, 1) := by decide +kernel
theorem dX9_straightBy_183 : decode cX9_straightBy 183 = .ok (.iload_n 3, 1) := by decide +kernel
theorem dX9_straightBy_184 : decode cX9_straightBy 184 = .ok (.iload_n 2, 1) := by decide +kernel
theorem dX9_straightBy_185 : decode cX9_straightBy 185 = .ok (.aload_n 0, 1) := by decide +kernel
theorem dX9_straightBy_186 : decode cX9_straightBy 186 = .ok (.getfield 56, 3) := by decide +kernel
theorem dX9_straightBy_189 : decode cX9_straightBy 189 = .ok (.iload 6, 2) := by decide +kernel
theorem dX9_straightBy_191 : decode cX9_straightBy 191 = .ok (.iaload, 1) := by decide +kernel
theorem dX9_straightBy_192 : decode cX9_straightBy 192 = .ok (.aload_n 0, 1) := by decide +kernel
theorem dX9_straightBy_193 : decode cX9_straightBy 193 = .ok (.getfield 59, 3) := by decide +kernel
theorem dX9_straightBy_196 : decode cX9_straightBy 196 = .ok (.iload 6, 2) := by decide +kernel
theorem dX9_straightBy_198 : decode cX9_straightBy 198 = .ok (.iaload, 1) := by decide +kernel
theorem dX9_straightBy_199 : decode cX9_straightBy 199 = .ok (.invokevirtual 141, 3) := by decide +kernel
theorem dX9_straightBy_202 : decode cX9_straightBy 202 = .ok (.goto 4, 3) := by decide +kernel
theorem dX9_straightBy_205 : decode cX9_straightBy 205 = .ok (.iconst 0, 1) := by decide +kernel
theorem dX9_straightBy_206 : decode cX9_straightBy 206 = .ok (.istore 7, 2) := by decide +kernel
theorem dX9_straightBy_208 : decode cX9_straightBy 208 = .ok (.iload 7, 2) := by decide +kernel
theorem dX9_straightBy_210 : decode cX9_straightBy 210 = .ok (.ifCond .le 14, 3) := by decide +kernel
theorem dX9_straightBy_213 : decode cX9_straightBy 213 = .ok (.iload 7, 2) := by decide +kernel
theorem dX9_straightBy_215 : decode cX9_straightBy 215 = .ok (.iload 5, 2) := by decide +kernel
theorem dX9_straightBy_217 : decode cX9_straightBy 217 = .ok (.if_icmp .ge 7, 3) := by decide +kernel
theorem dX9_straightBy_220 : decode cX9_straightBy 220 = .ok (.iconst 0, 1) := by decide +kernel
theorem dX9_straightBy_221 : decode cX9_straightBy 221 = .ok (.goto 5, 3) := by decide +kernel
theorem dX9_straightBy_224 : decode cX9_straightBy 224 = .ok (.iload 5, 2) := by decide +kernel
theorem dX9_straightBy_226 : decode cX9_straightBy 226 = .ok (.istore 5, 2) := by decide +kernel
theorem dX9_straightBy_228 : decode cX9_straightBy 228 = .ok (.iinc 6 1, 3) := by decide +kernel
theorem dX9_straightBy_231 : decode cX9_straightBy 231 = .ok (.goto (-90), 3) := by decide +kernel
theorem dX9_straightBy_234 : decode cX9_straightBy 234 = .ok (.iload 5, 2) := by decide +kernel
theorem dX9_straightBy_236 : decode cX9_straightBy 236 = .ok (.ireturn, 1) := by decide +kernel
theorem dX9_isLoop_0 : decode cX9_isLoop 0 = .ok (.aload_n 0, 1) := by decide +kernel
theorem dX9_isLoop_1 : decode cX9_isLoop 1 = .ok (.getfield 19, 3) := by decide +kernel
theorem dX9_isLoop_4 : decode cX9_isLoop 4 = .ok (.iload_n 1, 1) := by decide +kernel
theorem dX9_isLoop_5 : decode cX9_isLoop 5 = .ok (.iaload, 1) := by decide +kernel
theorem dX9_isLoop_6 : decode cX9_isLoop 6 = .ok (.aload_n 0, 1) := by decide +kernel
theorem dX9_isLoop_7 : decode cX9_isLoop 7 = .ok (.getfield 25, 3) := by decide +kernel
theorem dX9_isLoop_10 : decode cX9_isLoop 10 = .ok (.iload_n 1, 1) := by decide +kernel
theorem dX9_isLoop_11 : decode cX9_isLoop 11 = .ok (.iaload, 1) := by decide +kernel
theorem dX9_isLoop_12 : decode cX9_isLoop 12 = .ok (.if_icmp .ne 7, 3) := by decide +kernel
theorem dX9_isLoop_15 : decode cX9_isLoop 15 = .ok (.iconst 1, 1) := by decide +kernel
theorem dX9_isLoop_16 : decode cX9_isLoop 16 = .ok (.goto 4, 3) := by decide +kernel
theorem dX9_isLoop_19 : decode cX9_isLoop 19 = .ok (.iconst 0, 1) := by decide +kernel
theorem dX9_isLoop_20 : decode cX9_isLoop 20 = .ok (.ireturn, 1) := by decide +kernel
theorem dX9_costNow_0 : decode cX9_costNow 0 = .ok (.iconst 0, 1) := by decide +kernel
theorem dX9_costNow_1 : decode cX9_costNow 1 = .ok (.istore_n 1, 1) := by decide +kernel
theorem dX9_costNow_2 : decode cX9_costNow 2 = .ok (.iconst 0, 1) := by decide +kernel
theorem dX9_costNow_3 : decode cX9_costNow 3 = .ok (.istore_n 2, 1) := by decide +kernel
theorem dX9_costNow_4 : decode cX9_costNow 4 = .ok (.iload_n 2, 1) := by decide +kernel
theorem dX9_costNow_5 : decode cX9_costNow 5 = .ok (.aload_n 0, 1) := by decide +kernel
theorem dX9_costNow_6 : decode cX9_costNow 6 = .ok (.getfield 94, 3) := by decide +kernel
theorem dX9_costNow_9 : decode cX9_costNow 9 = .ok (.if_icmp .ge 66, 3) := by decide +kernel
theorem dX9_costNow_12 : decode cX9_costNow 12 = .ok (.aload_n 0, 1) := by decide +kernel
theorem dX9_costNow_13 : decode cX9_costNow 13 = .ok (.iload_n 2, 1) := by decide +kernel
theorem dX9_costNow_14 : decode cX9_costNow 14 = .ok (.invokevirtual 145, 3) := by decide +kernel
theorem dX9_costNow_17 : decode cX9_costNow 17 = .ok (.ifCond .ne 52, 3) := by decide +kernel
theorem dX9_costNow_20 : decode cX9_costNow 20 = .ok (.aload_n 0, 1) := by decide +kernel
theorem dX9_costNow_21 : decode cX9_costNow 21 = .ok (.getfield 53, 3) := by decide +kernel
theorem dX9_costNow_24 : decode cX9_costNow 24 = .ok (.aload_n 0, 1) := by decide +kernel
theorem dX9_costNow_25 : decode cX9_costNow 25 = .ok (.getfield 19, 3) := by decide +kernel
theorem dX9_costNow_28 : decode cX9_costNow 28 = .ok (.iload_n 2, 1) := by decide +kernel
theorem dX9_costNow_29 : decode cX9_costNow 29 = .ok (.iaload, 1) := by decide +kernel
theorem dX9_costNow_30 : decode cX9_costNow 30 = .ok (.baload, 1) := by decide +kernel
theorem dX9_costNow_31 : decode cX9_costNow 31 = .ok (.ifCond .eq 38, 3) := by decide +kernel
theorem dX9_costNow_34 : decode cX9_costNow 34 = .ok (.aload_n 0, 1) := by decide +kernel
theorem dX9_costNow_35 : decode cX9_costNow 35 = .ok (.getfield 53, 3) := by decide +kernel
theorem dX9_costNow_38 : decode cX9_costNow 38 = .ok (.aload_n 0, 1) := by decide +kernel
theorem dX9_costNow_39 : decode cX9_costNow 39 = .ok (.getfield 25, 3) := by decide +kernel
theorem dX9_costNow_42 : decode cX9_costNow 42 = .ok (.iload_n 2, 1) := by decide +kernel
theorem dX9_costNow_43 : decode cX9_costNow 43 = .ok (.iaload, 1) := by decide +kernel
theorem dX9_costNow_44 : decode cX9_costNow 44 = .ok (.baload, 1) := by decide +kernel
theorem dX9_costNow_45 : decode cX9_costNow 45 = .ok (.ifCond .eq 24, 3) := by decide +kernel
theorem dX9_costNow_48 : decode cX9_costNow 48 = .ok (.aload_n 0, 1) := by decide +kernel
theorem dX9_costNow_49 : decode cX9_costNow 49 = .ok (.iload_n 2, 1) := by decide +kernel
theorem dX9_costNow_50 : decode cX9_costNow 50 = .ok (.invokevirtual 148, 3) := by decide +kernel
theorem dX9_costNow_53 : decode cX9_costNow 53 = .ok (.istore_n 3, 1) := by decide +kernel
theorem dX9_costNow_54 : decode cX9_costNow 54 = .ok (.iload_n 1, 1) := by decide +kernel
theorem dX9_costNow_55 : decode cX9_costNow 55 = .ok (.iload_n 3, 1) := by decide +kernel
theorem dX9_costNow_56 : decode cX9_costNow 56 = .ok (.ifCond .ne 8, 3) := by decide +kernel
theorem dX9_costNow_59 : decode cX9_costNow 59 = .ok (.bipush 10, 2) := by decide +kernel
theorem dX9_costNow_61 : decode cX9_costNow 61 = .ok (.goto 6, 3) := by decide +kernel
theorem dX9_costNow_64 : decode cX9_costNow 64 = .ok (.iload_n 3, 1) := by decide +kernel
theorem dX9_costNow_65 : decode cX9_costNow 65 = .ok (.iconst 1, 1) := by decide +kernel
theorem dX9_costNow_66 : decode cX9_costNow 66 = .ok (.isub, 1) := by decide +kernel
theorem dX9_costNow_67 : decode cX9_costNow 67 = .ok (.iadd, 1) := by decide +kernel
theorem dX9_costNow_68 : decode cX9_costNow 68 = .ok (.istore_n 1, 1) := by decide +kernel
theorem dX9_costNow_69 : decode cX9_costNow 69 = .ok (.iinc 2 1, 3) := by decide +kernel
theorem dX9_costNow_72 : decode cX9_costNow 72 = .ok (.goto (-68), 3) := by decide +kernel
theorem dX9_costNow_75 : decode cX9_costNow 75 = .ok (.iload_n 1, 1) := by decide +kernel
theorem dX9_costNow_76 : decode cX9_costNow 76 = .ok (.ireturn, 1) := by decide +kernel
theorem dX9_bentNow_0 : decode cX9_bentNow 0 = .ok (.iconst 0, 1) := by decide +kernel
theorem dX9_bentNow_1 : decode cX9_bentNow 1 = .ok (.istore_n 1, 1) := by decide +kernel
theorem dX9_bentNow_2 : decode cX9_bentNow 2 = .ok (.iconst 0, 1) := by decide +kernel
theorem dX9_bentNow_3 : decode cX9_bentNow 3 = .ok (.istore_n 2, 1) := by decide +kernel
theorem dX9_bentNow_4 : decode cX9_bentNow 4 = .ok (.iload_n 2, 1) := by decide +kernel
theorem dX9_bentNow_5 : decode cX9_bentNow 5 = .ok (.aload_n 0, 1) := by decide +kernel
theorem dX9_bentNow_6 : decode cX9_bentNow 6 = .ok (.getfield 94, 3) := by decide +kernel
theorem dX9_bentNow_9 : decode cX9_bentNow 9 = .ok (.if_icmp .ge 61, 3) := by decide +kernel
theorem dX9_bentNow_12 : decode cX9_bentNow 12 = .ok (.iload_n 1, 1) := by decide +kernel
theorem dX9_bentNow_13 : decode cX9_bentNow 13 = .ok (.aload_n 0, 1) := by decide +kernel
theorem dX9_bentNow_14 : decode cX9_bentNow 14 = .ok (.iload_n 2, 1) := by decide +kernel
theorem dX9_bentNow_15 : decode cX9_bentNow 15 = .ok (.invokevirtual 145, 3) := by decide +kernel
theorem dX9_bentNow_18 : decode cX9_bentNow 18 = .ok (.ifCond .ne 43, 3) := by decide +kernel
theorem dX9_bentNow_21 : decode cX9_bentNow 21 = .ok (.aload_n 0, 1) := by decide +kernel
theorem dX9_bentNow_22 : decode cX9_bentNow 22 = .ok (.getfield 53, 3) := by decide +kernel
theorem dX9_bentNow_25 : decode cX9_bentNow 25 = .ok (.aload_n 0, 1) := by decide +kernel
theorem dX9_bentNow_26 : decode cX9_bentNow 26 = .ok (.getfield 19, 3) := by decide +kernel
theorem dX9_bentNow_29 : decode cX9_bentNow 29 = .ok (.iload_n 2, 1) := by decide +kernel
theorem dX9_bentNow_30 : decode cX9_bentNow 30 = .ok (.iaload, 1) := by decide +kernel
theorem dX9_bentNow_31 : decode cX9_bentNow 31 = .ok (.baload, 1) := by decide +kernel
theorem dX9_bentNow_32 : decode cX9_bentNow 32 = .ok (.ifCond .eq 29, 3) := by decide +kernel
theorem dX9_bentNow_35 : decode cX9_bentNow 35 = .ok (.aload_n 0, 1) := by decide +kernel
theorem dX9_bentNow_36 : decode cX9_bentNow 36 = .ok (.getfield 53, 3) := by decide +kernel
theorem dX9_bentNow_39 : decode cX9_bentNow 39 = .ok (.aload_n 0, 1) := by decide +kernel
theorem dX9_bentNow_40 : decode cX9_bentNow 40 = .ok (.getfield 25, 3) := by decide +kernel
theorem dX9_bentNow_43 : decode cX9_bentNow 43 = .ok (.iload_n 2, 1) := by decide +kernel
theorem dX9_bentNow_44 : decode cX9_bentNow 44 = .ok (.iaload, 1) := by decide +kernel
theorem dX9_bentNow_45 : decode cX9_bentNow 45 = .ok (.baload, 1) := by decide +kernel
theorem dX9_bentNow_46 : decode cX9_bentNow 46 = .ok (.ifCond .eq 15, 3) := by decide +kernel
theorem dX9_bentNow_49 : decode cX9_bentNow 49 = .ok (.aload_n 0, 1) := by decide +kernel
theorem dX9_bentNow_50 : decode cX9_bentNow 50 = .ok (.iload_n 2, 1) := by decide +kernel
theorem dX9_bentNow_51 : decode cX9_bentNow 51 = .ok (.invokevirtual 148, 3) := by decide +kernel
theorem dX9_bentNow_54 : decode cX9_bentNow 54 = .ok (.ifCond .ne 7, 3) := by decide +kernel
theorem dX9_bentNow_57 : decode cX9_bentNow 57 = .ok (.iconst 1, 1) := by decide +kernel
theorem dX9_bentNow_58 : decode cX9_bentNow 58 = .ok (.goto 4, 3) := by decide +kernel
theorem dX9_bentNow_61 : decode cX9_bentNow 61 = .ok (.iconst 0, 1) := by decide +kernel
theorem dX9_bentNow_62 : decode cX9_bentNow 62 = .ok (.iadd, 1) := by decide +kernel
theorem dX9_bentNow_63 : decode cX9_bentNow 63 = .ok (.istore_n 1, 1) := by decide +kernel
theorem dX9_bentNow_64 : decode cX9_bentNow 64 = .ok (.iinc 2 1, 3) := by decide +kernel
theorem dX9_bentNow_67 : decode cX9_bentNow 67 = .ok (.goto (-63), 3) := by decide +kernel
theorem dX9_bentNow_70 : decode cX9_bentNow 70 = .ok (.iload_n 1, 1) := by decide +kernel
theorem dX9_bentNow_71 : decode cX9_bentNow 71 = .ok (.ireturn, 1) := by decide +kernel
theorem dX9_chance_0 : decode cX9_chance 0 = .ok (.iconst 0, 1) := by decide +kernel
theorem dX9_chance_1 : decode cX9_chance 1 = .ok (.istore_n 3, 1) := by decide +kernel
theorem dX9_chance_2 : decode cX9_chance 2 = .ok (.iconst 0, 1) := by decide +kernel
theorem dX9_chance_3 : decode cX9_chance 3 = .ok (.istore 4, 2) := by decide +kernel
theorem dX9_chance_5 : decode cX9_chance 5 = .ok (.iload 4, 2) := by decide +kernel
theorem dX9_chance_7 : decode cX9_chance 7 = .ok (.aload_n 0, 1) := by decide +kernel
theorem dX9_chance_8 : decode cX9_chance 8 = .ok (.getfield 94, 3) := by decide +kernel
theorem dX9_chance_11 : decode cX9_chance 11 = .ok (.if_icmp .ge 240, 3) := by decide +kernel
theorem dX9_chance_14 : decode cX9_chance 14 = .ok (.aload_n 0, 1) := by decide +kernel
theorem dX9_chance_15 : decode cX9_chance 15 = .ok (.getfield 19, 3) := by decide +kernel
theorem dX9_chance_18 : decode cX9_chance 18 = .ok (.iload 4, 2) := by decide +kernel
theorem dX9_chance_20 : decode cX9_chance 20 = .ok (.iaload, 1) := by decide +kernel
theorem dX9_chance_21 : decode cX9_chance 21 = .ok (.iload_n 1, 1) := by decide +kernel
theorem dX9_chance_22 : decode cX9_chance 22 = .ok (.if_icmp .ne 13, 3) := by decide +kernel
theorem dX9_chance_25 : decode cX9_chance 25 = .ok (.aload_n 0, 1) := by decide +kernel
theorem dX9_chance_26 : decode cX9_chance 26 = .ok (.getfield 25, 3) := by decide +kernel
theorem dX9_chance_29 : decode cX9_chance 29 = .ok (.iload 4, 2) := by decide +kernel
theorem dX9_chance_31 : decode cX9_chance 31 = .ok (.iaload, 1) := by decide +kernel
theorem dX9_chance_32 : decode cX9_chance 32 = .ok (.goto 10, 3) := by decide +kernel
theorem dX9_chance_35 : decode cX9_chance 35 = .ok (.aload_n 0, 1) := by decide +kernel
theorem dX9_chance_36 : decode cX9_chance 36 = .ok (.getfield 19, 3) := by decide +kernel
theorem dX9_chance_39 : decode cX9_chance 39 = .ok (.iload 4, 2) := by decide +kernel
theorem dX9_chance_41 : decode cX9_chance 41 = .ok (.iaload, 1) := by decide +kernel
theorem dX9_chance_42 : decode cX9_chance 42 = .ok (.istore 5, 2) := by decide +kernel
theorem dX9_chance_44 : decode cX9_chance 44 = .ok (.aload_n 0, 1) := by decide +kernel
theorem dX9_chance_45 : decode cX9_chance 45 = .ok (.iload 4, 2) := by decide +kernel
theorem dX9_chance_47 : decode cX9_chance 47 = .ok (.invokevirtual 145, 3) := by decide +kernel
theorem dX9_chance_50 : decode cX9_chance 50 = .ok (.ifCond .ne 195, 3) := by decide +kernel
theorem dX9_chance_53 : decode cX9_chance 53 = .ok (.aload_n 0, 1) := by decide +kernel
theorem dX9_chance_54 : decode cX9_chance 54 = .ok (.getfield 19, 3) := by decide +kernel
theorem dX9_chance_57 : decode cX9_chance 57 = .ok (.iload 4, 2) := by decide +kernel
theorem dX9_chance_59 : decode cX9_chance 59 = .ok (.iaload, 1) := by decide +kernel
theorem dX9_chance_60 : decode cX9_chance 60 = .ok (.iload_n 1, 1) := by decide +kernel
theorem dX9_chance_61 : decode cX9_chance 61 = .ok (.if_icmp .eq 14, 3) := by decide +kernel
theorem dX9_chance_64 : decode cX9_chance 64 = .ok (.aload_n 0, 1) := by decide +kernel
theorem dX9_chance_65 : decode cX9_chance 65 = .ok (.getfield 25, 3) := by decide +kernel
theorem dX9_chance_68 : decode cX9_chance 68 = .ok (.iload 4, 2) := by decide +kernel
theorem dX9_chance_70 : decode cX9_chance 70 = .ok (.iaload, 1) := by decide +kernel
theorem dX9_chance_71 : decode cX9_chance 71 = .ok (.iload_n 1, 1) := by decide +kernel
theorem dX9_chance_72 : decode cX9_chance 72 = .ok (.if_icmp .ne 173, 3) := by decide +kernel
theorem dX9_chance_75 : decode cX9_chance 75 = .ok (.aload_n 0, 1) := by decide +kernel
theorem dX9_chance_76 : decode cX9_chance 76 = .ok (.getfield 53, 3) := by decide +kernel
theorem dX9_chance_79 : decode cX9_chance 79 = .ok (.iload 5, 2) := by decide +kernel
theorem dX9_chance_81 : decode cX9_chance 81 = .ok (.baload, 1) := by decide +kernel
theorem dX9_chance_82 : decode cX9_chance 82 = .ok (.ifCond .ne 6, 3) := by decide +kernel
theorem dX9_chance_85 : decode cX9_chance 85 = .ok (.goto 160, 3) := by decide +kernel
theorem dX9_chance_88 : decode cX9_chance 88 = .ok (.aload_n 0, 1) := by decide +kernel
theorem dX9_chance_89 : decode cX9_chance 89 = .ok (.getfield 22, 3) := by decide +kernel
theorem dX9_chance_92 : decode cX9_chance 92 = .ok (.iload 4, 2) := by decide +kernel
theorem dX9_chance_94 : decode cX9_chance 94 = .ok (.iaload, 1) := by decide +kernel
theorem dX9_chance_95 : decode cX9_chance 95 = .ok (.istore 6, 2) := by decide +kernel
theorem dX9_chance_97 : decode cX9_chance 97 = .ok (.aload_n 0, 1) := by decide +kernel
theorem dX9_chance_98 : decode cX9_chance 98 = .ok (.getfield 19, 3) := by decide +kernel
theorem dX9_chance_101 : decode cX9_chance 101 = .ok (.iload 4, 2) := by decide +kernel
theorem dX9_chance_103 : decode cX9_chance 103 = .ok (.iaload, 1) := by decide +kernel
theorem dX9_chance_104 : decode cX9_chance 104 = .ok (.iload_n 1, 1) := by decide +kernel
theorem dX9_chance_105 : decode cX9_chance 105 = .ok (.if_icmp .ne 7, 3) := by decide +kernel
theorem dX9_chance_108 : decode cX9_chance 108 = .ok (.iconst (-1), 1) := by decide +kernel
theorem dX9_chance_109 : decode cX9_chance 109 = .ok (.goto 4, 3) := by decide +kernel
theorem dX9_chance_112 : decode cX9_chance 112 = .ok (.iconst 1, 1) := by decide +kernel
theorem dX9_chance_113 : decode cX9_chance 113 = .ok (.istore 7, 2) := by decide +kernel
theorem dX9_chance_115 : decode cX9_chance 115 = .ok (.iconst 1, 1) := by decide +kernel
theorem dX9_chance_116 : decode cX9_chance 116 = .ok (.istore 8, 2) := by decide +kernel
theorem dX9_chance_118 : decode cX9_chance 118 = .ok (.iload 8, 2) := by decide +kernel
theorem dX9_chance_120 : decode cX9_chance 120 = .ok (.iload 6, 2) := by decide +kernel
theorem dX9_chance_122 : decode cX9_chance 122 = .ok (.bipush 7, 2) := by decide +kernel
theorem dX9_chance_124 : decode cX9_chance 124 = .ok (.if_icmp .le 7, 3) := by decide +kernel
theorem dX9_chance_127 : decode cX9_chance 127 = .ok (.iconst 1, 1) := by decide +kernel
theorem dX9_chance_128 : decode cX9_chance 128 = .ok (.goto 4, 3) := by decide +kernel
theorem dX9_chance_131 : decode cX9_chance 131 = .ok (.iconst 3, 1) := by decide +kernel
theorem dX9_chance_132 : decode cX9_chance 132 = .ok (.if_icmp .gt 113, 3) := by decide +kernel
theorem dX9_chance_135 : decode cX9_chance 135 = .ok (.aload_n 0, 1) := by decide +kernel
theorem dX9_chance_136 : decode cX9_chance 136 = .ok (.getfield 56, 3) := by decide +kernel
theorem dX9_chance_139 : decode cX9_chance 139 = .ok (.iload 5, 2) := by decide +kernel
theorem dX9_chance_141 : decode cX9_chance 141 = .ok (.iaload, 1) := by decide +kernel
theorem dX9_chance_142 : decode cX9_chance 142 = .ok (.iload 7, 2) := by decide +kernel
theorem dX9_chance_144 : decode cX9_chance 144 = .ok (.iload 8, 2) := by decide +kernel
theorem dX9_chance_146 : decode cX9_chance 146 = .ok (.imul, 1) := by decide +kernel
theorem dX9_chance_147 : decode cX9_chance 147 = .ok (.iload 6, 2) := by decide +kernel
theorem dX9_chance_149 : decode cX9_chance 149 = .ok (.invokestatic 132, 3) := by decide +kernel
theorem dX9_chance_152 : decode cX9_chance 152 = .ok (.imul, 1) := by decide +kernel
theorem dX9_chance_153 : decode cX9_chance 153 = .ok (.iadd, 1) := by decide +kernel
theorem dX9_chance_154 : decode cX9_chance 154 = .ok (.istore 9, 2) := by decide +kernel
theorem dX9_chance_156 : decode cX9_chance 156 = .ok (.aload_n 0, 1) := by decide +kernel
theorem dX9_chance_157 : decode cX9_chance 157 = .ok (.getfield 59, 3) := by decide +kernel
theorem dX9_chance_160 : decode cX9_chance 160 = .ok (.iload 5, 2) := by decide +kernel
theorem dX9_chance_162 : decode cX9_chance 162 = .ok (.iaload, 1) := by decide +kernel
theorem dX9_chance_163 : decode cX9_chance 163 = .ok (.iload 7, 2) := by decide +kernel
theorem dX9_chance_165 : decode cX9_chance 165 = .ok (.iload 8, 2) := by decide +kernel
theorem dX9_chance_167 : decode cX9_chance 167 = .ok (.imul, 1) := by decide +kernel
theorem dX9_chance_168 : decode cX9_chance 168 = .ok (.iload 6, 2) := by decide +kernel
theorem dX9_chance_170 : decode cX9_chance 170 = .ok (.invokestatic 135, 3) := by decide +kernel
theorem dX9_chance_173 : decode cX9_chance 173 = .ok (.imul, 1) := by decide +kernel
theorem dX9_chance_174 : decode cX9_chance 174 = .ok (.iadd, 1) := by decide +kernel
theorem dX9_chance_175 : decode cX9_chance 175 = .ok (.istore 10, 2) := by decide +kernel
theorem dX9_chance_177 : decode cX9_chance 177 = .ok (.aload_n 0, 1) := by decide +kernel
theorem dX9_chance_178 : decode cX9_chance 178 = .ok (.getfield 62, 3) := by decide +kernel
theorem dX9_chance_181 : decode cX9_chance 181 = .ok (.iload 5, 2) := by decide +kernel
theorem dX9_chance_183 : decode cX9_chance 183 = .ok (.iaload, 1) := by decide +kernel
theorem dX9_chance_184 : decode cX9_chance 184 = .ok (.iload 7, 2) := by decide +kernel
theorem dX9_chance_186 : decode cX9_chance 186 = .ok (.iload 6, 2) := by decide +kernel
theorem dX9_chance_188 : decode cX9_chance 188 = .ok (.invokestatic 138, 3) := by decide +kernel
theorem dX9_chance_191 : decode cX9_chance 191 = .ok (.imul, 1) := by decide +kernel
theorem dX9_chance_192 : decode cX9_chance 192 = .ok (.iadd, 1) := by decide +kernel
theorem dX9_chance_193 : decode cX9_chance 193 = .ok (.istore 11, 2) := by decide +kernel
theorem dX9_chance_195 : decode cX9_chance 195 = .ok (.aload_n 0, 1) := by decide +kernel
theorem dX9_chance_196 : decode cX9_chance 196 = .ok (.iload 9, 2) := by decide +kernel
theorem dX9_chance_198 : decode cX9_chance 198 = .ok (.iload 10, 2) := by decide +kernel
theorem dX9_chance_200 : decode cX9_chance 200 = .ok (.iload 11, 2) := by decide +kernel
theorem dX9_chance_202 : decode cX9_chance 202 = .ok (.invokevirtual 151, 3) := by decide +kernel
theorem dX9_chance_205 : decode cX9_chance 205 = .ok (.ifCond .lt 6, 3) := by decide +kernel
theorem dX9_chance_208 : decode cX9_chance 208 = .ok (.goto 31, 3) := by decide +kernel
theorem dX9_chance_211 : decode cX9_chance 211 = .ok (.iload_n 3, 1) := by decide +kernel
theorem dX9_chance_212 : decode cX9_chance 212 = .ok (.iload_n 2, 1) := by decide +kernel
theorem dX9_chance_213 : decode cX9_chance 213 = .ok (.if_icmp .ne 23, 3) := by decide +kernel
theorem dX9_chance_216 : decode cX9_chance 216 = .ok (.aload_n 0, 1) := by decide +kernel
theorem dX9_chance_217 : decode cX9_chance 217 = .ok (.iload 9, 2) := by decide +kernel
theorem dX9_chance_219 : decode cX9_chance 219 = .ok (.putfield 154, 3) := by decide +kernel
theorem dX9_chance_222 : decode cX9_chance 222 = .ok (.aload_n 0, 1) := by decide +kernel
theorem dX9_chance_223 : decode cX9_chance 223 = .ok (.iload 10, 2) := by decide +kernel
theorem dX9_chance_225 : decode cX9_chance 225 = .ok (.putfield 157, 3) := by decide +kernel
theorem dX9_chance_228 : decode cX9_chance 228 = .ok (.aload_n 0, 1) := by decide +kernel
theorem dX9_chance_229 : decode cX9_chance 229 = .ok (.iload 11, 2) := by decide +kernel
theorem dX9_chance_231 : decode cX9_chance 231 = .ok (.putfield 160, 3) := by decide +kernel
theorem dX9_chance_234 : decode cX9_chance 234 = .ok (.iconst 1, 1) := by decide +kernel
theorem dX9_chance_235 : decode cX9_chance 235 = .ok (.ireturn, 1) := by decide +kernel
theorem dX9_chance_236 : decode cX9_chance 236 = .ok (.iinc 3 1, 3) := by decide +kernel
theorem dX9_chance_239 : decode cX9_chance 239 = .ok (.iinc 8 1, 3) := by decide +kernel
theorem dX9_chance_242 : decode cX9_chance 242 = .ok (.goto (-124), 3) := by decide +kernel
theorem dX9_chance_245 : decode cX9_chance 245 = .ok (.iinc 4 1, 3) := by decide +kernel
theorem dX9_chance_248 : decode cX9_chance 248 = .ok (.goto (-243), 3) := by decide +kernel
theorem dX9_chance_251 : decode cX9_chance 251 = .ok (.iconst 0, 1) := by decide +kernel
theorem dX9_chance_252 : decode cX9_chance 252 = .ok (.ireturn, 1) := by decide +kernel
theorem dX9_spare_0 : decode cX9_spare 0 = .ok (.bipush (-2), 2) := by decide +kernel
theorem dX9_spare_2 : decode cX9_spare 2 = .ok (.istore_n 2, 1) := by decide +kernel
theorem dX9_spare_3 : decode cX9_spare 3 = .ok (.aload_n 0, 1) := by decide +kernel
theorem dX9_spare_4 : decode cX9_spare 4 = .ok (.getfield 94, 3) := by decide +kernel
theorem dX9_spare_7 : decode cX9_spare 7 = .ok (.iconst 1, 1) := by decide +kernel
theorem dX9_spare_8 : decode cX9_spare 8 = .ok (.isub, 1) := by decide +kernel
theorem dX9_spare_9 : decode cX9_spare 9 = .ok (.istore_n 3, 1) := by decide +kernel
theorem dX9_spare_10 : decode cX9_spare 10 = .ok (.iload_n 3, 1) := by decide +kernel
theorem dX9_spare_11 : decode cX9_spare 11 = .ok (.ifCond .lt 93, 3) := by decide +kernel
theorem dX9_spare_14 : decode cX9_spare 14 = .ok (.aload_n 0, 1) := by decide +kernel
theorem dX9_spare_15 : decode cX9_spare 15 = .ok (.getfield 19, 3) := by decide +kernel
theorem dX9_spare_18 : decode cX9_spare 18 = .ok (.iload_n 3, 1) := by decide +kernel
theorem dX9_spare_19 : decode cX9_spare 19 = .ok (.iaload, 1) := by decide +kernel
theorem dX9_spare_20 : decode cX9_spare 20 = .ok (.iload_n 1, 1) := by decide +kernel
theorem dX9_spare_21 : decode cX9_spare 21 = .ok (.if_icmp .ne 12, 3) := by decide +kernel
theorem dX9_spare_24 : decode cX9_spare 24 = .ok (.aload_n 0, 1) := by decide +kernel
theorem dX9_spare_25 : decode cX9_spare 25 = .ok (.getfield 25, 3) := by decide +kernel
theorem dX9_spare_28 : decode cX9_spare 28 = .ok (.iload_n 3, 1) := by decide +kernel
theorem dX9_spare_29 : decode cX9_spare 29 = .ok (.iaload, 1) := by decide +kernel
theorem dX9_spare_30 : decode cX9_spare 30 = .ok (.goto 9, 3) := by decide +kernel
theorem dX9_spare_33 : decode cX9_spare 33 = .ok (.aload_n 0, 1) := by decide +kernel
theorem dX9_spare_34 : decode cX9_spare 34 = .ok (.getfield 19, 3) := by decide +kernel
theorem dX9_spare_37 : decode cX9_spare 37 = .ok (.iload_n 3, 1) := by decide +kernel
theorem dX9_spare_38 : decode cX9_spare 38 = .ok (.iaload, 1) := by decide +kernel
theorem dX9_spare_39 : decode cX9_spare 39 = .ok (.istore 4, 2) := by decide +kernel
theorem dX9_spare_41 : decode cX9_spare 41 = .ok (.aload_n 0, 1) := by decide +kernel
theorem dX9_spare_42 : decode cX9_spare 42 = .ok (.iload_n 3, 1) := by decide +kernel
theorem dX9_spare_43 : decode cX9_spare 43 = .ok (.invokevirtual 145, 3) := by decide +kernel
theorem dX9_spare_46 : decode cX9_spare 46 = .ok (.ifCond .ne 37, 3) := by decide +kernel
theorem dX9_spare_49 : decode cX9_spare 49 = .ok (.aload_n 0, 1) := by decide +kernel
theorem dX9_spare_50 : decode cX9_spare 50 = .ok (.getfield 19, 3) := by decide +kernel
theorem dX9_spare_53 : decode cX9_spare 53 = .ok (.iload_n 3, 1) := by decide +kernel
theorem dX9_spare_54 : decode cX9_spare 54 = .ok (.iaload, 1) := by decide +kernel
theorem dX9_spare_55 : decode cX9_spare 55 = .ok (.iload_n 1, 1) := by decide +kernel
theorem dX9_spare_56 : decode cX9_spare 56 = .ok (.if_icmp .eq 13, 3) := by decide +kernel
theorem dX9_spare_59 : decode cX9_spare 59 = .ok (.aload_n 0, 1) := by decide +kernel
theorem dX9_spare_60 : decode cX9_spare 60 = .ok (.getfield 25, 3) := by decide +kernel
theorem dX9_spare_63 : decode cX9_spare 63 = .ok (.iload_n 3, 1) := by decide +kernel
theorem dX9_spare_64 : decode cX9_spare 64 = .ok (.iaload, 1) := by decide +kernel
theorem dX9_spare_65 : decode cX9_spare 65 = .ok (.iload_n 1, 1) := by decide +kernel
theorem dX9_spare_66 : decode cX9_spare 66 = .ok (.if_icmp .ne 17, 3) := by decide +kernel
theorem dX9_spare_69 : decode cX9_spare 69 = .ok (.aload_n 0, 1) := by decide +kernel
theorem dX9_spare_70 : decode cX9_spare 70 = .ok (.getfield 53, 3) := by decide +kernel
theorem dX9_spare_73 : decode cX9_spare 73 = .ok (.iload 4, 2) := by decide +kernel
theorem dX9_spare_75 : decode cX9_spare 75 = .ok (.baload, 1) := by decide +kernel
theorem dX9_spare_76 : decode cX9_spare 76 = .ok (.ifCond .eq 7, 3) := by decide +kernel
theorem dX9_spare_79 : decode cX9_spare 79 = .ok (.iconst 1, 1) := by decide +kernel
theorem dX9_spare_80 : decode cX9_spare 80 = .ok (.goto 4, 3) := by decide +kernel
theorem dX9_spare_83 : decode cX9_spare 83 = .ok (.iconst 0, 1) := by decide +kernel
theorem dX9_spare_84 : decode cX9_spare 84 = .ok (.istore 5, 2) := by decide +kernel
theorem dX9_spare_86 : decode cX9_spare 86 = .ok (.iload 5, 2) := by decide +kernel
theorem dX9_spare_88 : decode cX9_spare 88 = .ok (.ifCond .eq 8, 3) := by decide +kernel
theorem dX9_spare_91 : decode cX9_spare 91 = .ok (.iload 4, 2) := by decide +kernel
theorem dX9_spare_93 : decode cX9_spare 93 = .ok (.goto 4, 3) := by decide +kernel
theorem dX9_spare_96 : decode cX9_spare 96 = .ok (.iload_n 2, 1) := by decide +kernel
theorem dX9_spare_97 : decode cX9_spare 97 = .ok (.istore_n 2, 1) := by decide +kernel
theorem dX9_spare_98 : decode cX9_spare 98 = .ok (.iinc 3 (-1), 3) := by decide +kernel
theorem dX9_spare_101 : decode cX9_spare 101 = .ok (.goto (-91), 3) := by decide +kernel
theorem dX9_spare_104 : decode cX9_spare 104 = .ok (.aload_n 0, 1) := by decide +kernel
theorem dX9_spare_105 : decode cX9_spare 105 = .ok (.aload_n 0, 1) := by decide +kernel
theorem dX9_spare_106 : decode cX9_spare 106 = .ok (.getfield 62, 3) := by decide +kernel
theorem dX9_spare_109 : decode cX9_spare 109 = .ok (.iload_n 2, 1) := by decide +kernel
theorem dX9_spare_110 : decode cX9_spare 110 = .ok (.iaload, 1) := by decide +kernel
theorem dX9_spare_111 : decode cX9_spare 111 = .ok (.putfield 160, 3) := by decide +kernel
theorem dX9_spare_114 : decode cX9_spare 114 = .ok (.iconst 1, 1) := by decide +kernel
theorem dX9_spare_115 : decode cX9_spare 115 = .ok (.istore_n 3, 1) := by decide +kernel
theorem dX9_spare_116 : decode cX9_spare 116 = .ok (.iload_n 3, 1) := by decide +kernel
theorem dX9_spare_117 : decode cX9_spare 117 = .ok (.bipush 100, 2) := by decide +kernel
theorem dX9_spare_119 : decode cX9_spare 119 = .ok (.if_icmp .ge 106, 3) := by decide +kernel
theorem dX9_spare_122 : decode cX9_spare 122 = .ok (.iload_n 3, 1) := by decide +kernel
theorem dX9_spare_123 : decode cX9_spare 123 = .ok (.ineg, 1) := by decide +kernel
theorem dX9_spare_124 : decode cX9_spare 124 = .ok (.istore 4, 2) := by decide +kernel
theorem dX9_spare_126 : decode cX9_spare 126 = .ok (.iload 4, 2) := by decide +kernel
theorem dX9_spare_128 : decode cX9_spare 128 = .ok (.iload_n 3, 1) := by decide +kernel
theorem dX9_spare_129 : decode cX9_spare 129 = .ok (.if_icmp .gt 90, 3) := by decide +kernel
theorem dX9_spare_132 : decode cX9_spare 132 = .ok (.iload_n 3, 1) := by decide +kernel
theorem dX9_spare_133 : decode cX9_spare 133 = .ok (.iload 4, 2) := by decide +kernel
theorem dX9_spare_135 : decode cX9_spare 135 = .ok (.ifCond .ge 9, 3) := by decide +kernel
theorem dX9_spare_138 : decode cX9_spare 138 = .ok (.iload 4, 2) := by decide +kernel
theorem dX9_spare_140 : decode cX9_spare 140 = .ok (.ineg, 1) := by decide +kernel
theorem dX9_spare_141 : decode cX9_spare 141 = .ok (.goto 5, 3) := by decide +kernel
theorem dX9_spare_144 : decode cX9_spare 144 = .ok (.iload 4, 2) := by decide +kernel
theorem dX9_spare_146 : decode cX9_spare 146 = .ok (.isub, 1) := by decide +kernel
theorem dX9_spare_147 : decode cX9_spare 147 = .ok (.istore 5, 2) := by decide +kernel
theorem dX9_spare_149 : decode cX9_spare 149 = .ok (.iconst (-1), 1) := by decide +kernel
theorem dX9_spare_150 : decode cX9_spare 150 = .ok (.istore 6, 2) := by decide +kernel
theorem dX9_spare_152 : decode cX9_spare 152 = .ok (.iload 6, 2) := by decide +kernel
theorem dX9_spare_154 : decode cX9_spare 154 = .ok (.iconst 2, 1) := by decide +kernel
theorem dX9_spare_155 : decode cX9_spare 155 = .ok (.if_icmp .ge 58, 3) := by decide +kernel
theorem dX9_spare_158 : decode cX9_spare 158 = .ok (.aload_n 0, 1) := by decide +kernel
theorem dX9_spare_159 : decode cX9_spare 159 = .ok (.aload_n 0, 1) := by decide +kernel
theorem dX9_spare_160 : decode cX9_spare 160 = .ok (.getfield 56, 3) := by decide +kernel
theorem dX9_spare_163 : decode cX9_spare 163 = .ok (.iload_n 2, 1) := by decide +kernel
theorem dX9_spare_164 : decode cX9_spare 164 = .ok (.iaload, 1) := by decide +kernel
theorem dX9_spare_165 : decode cX9_spare 165 = .ok (.iload 6, 2) := by decide +kernel
theorem dX9_spare_167 : decode cX9_spare 167 = .ok (.iload 5, 2) := by decide +kernel
theorem dX9_spare_169 : decode cX9_spare 169 = .ok (.imul, 1) := by decide +kernel
theorem dX9_spare_170 : decode cX9_spare 170 = .ok (.iadd, 1) := by decide +kernel
theorem dX9_spare_171 : decode cX9_spare 171 = .ok (.putfield 154, 3) := by decide +kernel
theorem dX9_spare_174 : decode cX9_spare 174 = .ok (.aload_n 0, 1) := by decide +kernel
theorem dX9_spare_175 : decode cX9_spare 175 = .ok (.aload_n 0, 1) := by decide +kernel
theorem dX9_spare_176 : decode cX9_spare 176 = .ok (.getfield 59, 3) := by decide +kernel
theorem dX9_spare_179 : decode cX9_spare 179 = .ok (.iload_n 2, 1) := by decide +kernel
theorem dX9_spare_180 : decode cX9_spare 180 = .ok (.iaload, 1) := by decide +kernel
theorem dX9_spare_181 : decode cX9_spare 181 = .ok (.iload 4, 2) := by decide +kernel
theorem dX9_spare_183 : decode cX9_spare 183 = .ok (.iadd, 1) := by decide +kernel
theorem dX9_spare_184 : decode cX9_spare 184 = .ok (.putfield 157, 3) := by decide +kernel
theorem dX9_spare_187 : decode cX9_spare 187 = .ok (.aload_n 0, 1) := by decide +kernel
theorem dX9_spare_188 : decode cX9_spare 188 = .ok (.aload_n 0, 1) := by decide +kernel
theorem dX9_spare_189 : decode cX9_spare 189 = .ok (.getfield 154, 3) := by decide +kernel
theorem dX9_spare_192 : decode cX9_spare 192 = .ok (.aload_n 0, 1) := by decide +kernel
theorem dX9_spare_193 : decode cX9_spare 193 = .ok (.getfield 157, 3) := by decide +kernel
theorem dX9_spare_196 : decode cX9_spare 196 = .ok (.aload_n 0, 1) := by decide +kernel
theorem dX9_spare_197 : decode cX9_spare 197 = .ok (.getfield 160, 3) := by decide +kernel
theorem dX9_spare_200 : decode cX9_spare 200 = .ok (.invokevirtual 151, 3) := by decide +kernel
theorem dX9_spare_203 : decode cX9_spare 203 = .ok (.ifCond .ge 4, 3) := by decide +kernel
theorem dX9_spare_206 : decode cX9_spare 206 = .ok (.return_, 1) := by decide +kernel
theorem dX9_spare_207 : decode cX9_spare 207 = .ok (.iinc 6 2, 3) := by decide +kernel
theorem dX9_spare_210 : decode cX9_spare 210 = .ok (.goto (-58), 3) := by decide +kernel
theorem dX9_spare_213 : decode cX9_spare 213 = .ok (.iinc 4 1, 3) := by decide +kernel
theorem dX9_spare_216 : decode cX9_spare 216 = .ok (.goto (-90), 3) := by decide +kernel
theorem dX9_spare_219 : decode cX9_spare 219 = .ok (.iinc 3 1, 3) := by decide +kernel
theorem dX9_spare_222 : decode cX9_spare 222 = .ok (.goto (-106), 3) := by decide +kernel
theorem dX9_spare_225 : decode cX9_spare 225 = .ok (.return_, 1) := by decide +kernel
theorem dX9_standBy_0 : decode cX9_standBy 0 = .ok (.aload_n 0, 1) := by decide +kernel
theorem dX9_standBy_1 : decode cX9_standBy 1 = .ok (.iload_n 1, 1) := by decide +kernel
theorem dX9_standBy_2 : decode cX9_standBy 2 = .ok (.iload_n 2, 1) := by decide +kernel
theorem dX9_standBy_3 : decode cX9_standBy 3 = .ok (.invokevirtual 163, 3) := by decide +kernel
theorem dX9_standBy_6 : decode cX9_standBy 6 = .ok (.istore_n 3, 1) := by decide +kernel
theorem dX9_standBy_7 : decode cX9_standBy 7 = .ok (.iload_n 3, 1) := by decide +kernel
theorem dX9_standBy_8 : decode cX9_standBy 8 = .ok (.ifCond .ne 9, 3) := by decide +kernel
theorem dX9_standBy_11 : decode cX9_standBy 11 = .ok (.iload_n 2, 1) := by decide +kernel
theorem dX9_standBy_12 : decode cX9_standBy 12 = .ok (.ifCond .le 5, 3) := by decide +kernel
theorem dX9_standBy_15 : decode cX9_standBy 15 = .ok (.iconst 0, 1) := by decide +kernel
theorem dX9_standBy_16 : decode cX9_standBy 16 = .ok (.ireturn, 1) := by decide +kernel
theorem dX9_standBy_17 : decode cX9_standBy 17 = .ok (.iload_n 3, 1) := by decide +kernel
theorem dX9_standBy_18 : decode cX9_standBy 18 = .ok (.ifCond .ne 8, 3) := by decide +kernel
theorem dX9_standBy_21 : decode cX9_standBy 21 = .ok (.aload_n 0, 1) := by decide +kernel
theorem dX9_standBy_22 : decode cX9_standBy 22 = .ok (.iload_n 1, 1) := by decide +kernel
theorem dX9_standBy_23 : decode cX9_standBy 23 = .ok (.invokevirtual 167, 3) := by decide +kernel
theorem dX9_standBy_26 : decode cX9_standBy 26 = .ok (.aload_n 0, 1) := by decide +kernel
theorem dX9_standBy_27 : decode cX9_standBy 27 = .ok (.iload_n 1, 1) := by decide +kernel
theorem dX9_standBy_28 : decode cX9_standBy 28 = .ok (.aload_n 0, 1) := by decide +kernel
theorem dX9_standBy_29 : decode cX9_standBy 29 = .ok (.getfield 154, 3) := by decide +kernel
theorem dX9_standBy_32 : decode cX9_standBy 32 = .ok (.aload_n 0, 1) := by decide +kernel
theorem dX9_standBy_33 : decode cX9_standBy 33 = .ok (.getfield 157, 3) := by decide +kernel
theorem dX9_standBy_36 : decode cX9_standBy 36 = .ok (.aload_n 0, 1) := by decide +kernel
theorem dX9_standBy_37 : decode cX9_standBy 37 = .ok (.getfield 160, 3) := by decide +kernel
theorem dX9_standBy_40 : decode cX9_standBy 40 = .ok (.invokevirtual 171, 3) := by decide +kernel
theorem dX9_standBy_43 : decode cX9_standBy 43 = .ok (.iconst 1, 1) := by decide +kernel
theorem dX9_standBy_44 : decode cX9_standBy 44 = .ok (.ireturn, 1) := by decide +kernel
theorem dX9_hasTaken_0 : decode cX9_hasTaken 0 = .ok (.iconst 0, 1) := by decide +kernel
theorem dX9_hasTaken_1 : decode cX9_hasTaken 1 = .ok (.istore_n 2, 1) := by decide +kernel
theorem dX9_hasTaken_2 : decode cX9_hasTaken 2 = .ok (.iconst 0, 1) := by decide +kernel
theorem dX9_hasTaken_3 : decode cX9_hasTaken 3 = .ok (.istore_n 3, 1) := by decide +kernel
theorem dX9_hasTaken_4 : decode cX9_hasTaken 4 = .ok (.iload_n 3, 1) := by decide +kernel
theorem dX9_hasTaken_5 : decode cX9_hasTaken 5 = .ok (.aload_n 0, 1) := by decide +kernel
theorem dX9_hasTaken_6 : decode cX9_hasTaken 6 = .ok (.getfield 94, 3) := by decide +kernel
theorem dX9_hasTaken_9 : decode cX9_hasTaken 9 = .ok (.if_icmp .ge 67, 3) := by decide +kernel
theorem dX9_hasTaken_12 : decode cX9_hasTaken 12 = .ok (.iload_n 2, 1) := by decide +kernel
theorem dX9_hasTaken_13 : decode cX9_hasTaken 13 = .ok (.ifCond .ne 51, 3) := by decide +kernel
theorem dX9_hasTaken_16 : decode cX9_hasTaken 16 = .ok (.aload_n 0, 1) := by decide +kernel
theorem dX9_hasTaken_17 : decode cX9_hasTaken 17 = .ok (.getfield 19, 3) := by decide +kernel
theorem dX9_hasTaken_20 : decode cX9_hasTaken 20 = .ok (.iload_n 3, 1) := by decide +kernel
theorem dX9_hasTaken_21 : decode cX9_hasTaken 21 = .ok (.iaload, 1) := by decide +kernel
theorem dX9_hasTaken_22 : decode cX9_hasTaken 22 = .ok (.iload_n 1, 1) := by decide +kernel
theorem dX9_hasTaken_23 : decode cX9_hasTaken 23 = .ok (.if_icmp .ne 17, 3) := by decide +kernel
theorem dX9_hasTaken_26 : decode cX9_hasTaken 26 = .ok (.aload_n 0, 1) := by decide +kernel
theorem dX9_hasTaken_27 : decode cX9_hasTaken 27 = .ok (.getfield 68, 3) := by decide +kernel
theorem dX9_hasTaken_30 : decode cX9_hasTaken 30 = .ok (.aload_n 0, 1) := by decide +kernel
theorem dX9_hasTaken_31 : decode cX9_hasTaken 31 = .ok (.getfield 25, 3) := by decide +kernel
theorem dX9_hasTaken_34 : decode cX9_hasTaken 34 = .ok (.iload_n 3, 1) := by decide +kernel
theorem dX9_hasTaken_35 : decode cX9_hasTaken 35 = .ok (.iaload, 1) := by decide +kernel
theorem dX9_hasTaken_36 : decode cX9_hasTaken 36 = .ok (.baload, 1) := by decide +kernel
theorem dX9_hasTaken_37 : decode cX9_hasTaken 37 = .ok (.ifCond .ne 27, 3) := by decide +kernel
theorem dX9_hasTaken_40 : decode cX9_hasTaken 40 = .ok (.aload_n 0, 1) := by decide +kernel
theorem dX9_hasTaken_41 : decode cX9_hasTaken 41 = .ok (.getfield 25, 3) := by decide +kernel
theorem dX9_hasTaken_44 : decode cX9_hasTaken 44 = .ok (.iload_n 3, 1) := by decide +kernel
theorem dX9_hasTaken_45 : decode cX9_hasTaken 45 = .ok (.iaload, 1) := by decide +kernel
theorem dX9_hasTaken_46 : decode cX9_hasTaken 46 = .ok (.iload_n 1, 1) := by decide +kernel
theorem dX9_hasTaken_47 : decode cX9_hasTaken 47 = .ok (.if_icmp .ne 21, 3) := by decide +kernel
theorem dX9_hasTaken_50 : decode cX9_hasTaken 50 = .ok (.aload_n 0, 1) := by decide +kernel
theorem dX9_hasTaken_51 : decode cX9_hasTaken 51 = .ok (.getfield 68, 3) := by decide +kernel
theorem dX9_hasTaken_54 : decode cX9_hasTaken 54 = .ok (.aload_n 0, 1) := by decide +kernel
theorem dX9_hasTaken_55 : decode cX9_hasTaken 55 = .ok (.getfield 19, 3) := by decide +kernel
theorem dX9_hasTaken_58 : decode cX9_hasTaken 58 = .ok (.iload_n 3, 1) := by decide +kernel
theorem dX9_hasTaken_59 : decode cX9_hasTaken 59 = .ok (.iaload, 1) := by decide +kernel
theorem dX9_hasTaken_60 : decode cX9_hasTaken 60 = .ok (.baload, 1) := by decide +kernel
theorem dX9_hasTaken_61 : decode cX9_hasTaken 61 = .ok (.ifCond .eq 7, 3) := by decide +kernel
theorem dX9_hasTaken_64 : decode cX9_hasTaken 64 = .ok (.iconst 1, 1) := by decide +kernel
theorem dX9_hasTaken_65 : decode cX9_hasTaken 65 = .ok (.goto 4, 3) := by decide +kernel
theorem dX9_hasTaken_68 : decode cX9_hasTaken 68 = .ok (.iconst 0, 1) := by decide +kernel
theorem dX9_hasTaken_69 : decode cX9_hasTaken 69 = .ok (.istore_n 2, 1) := by decide +kernel
theorem dX9_hasTaken_70 : decode cX9_hasTaken 70 = .ok (.iinc 3 1, 3) := by decide +kernel
theorem dX9_hasTaken_73 : decode cX9_hasTaken 73 = .ok (.goto (-69), 3) := by decide +kernel
theorem dX9_hasTaken_76 : decode cX9_hasTaken 76 = .ok (.iload_n 2, 1) := by decide +kernel
theorem dX9_hasTaken_77 : decode cX9_hasTaken 77 = .ok (.ireturn, 1) := by decide +kernel
theorem dX9_findOrder_0 : decode cX9_findOrder 0 = .ok (.aload_n 0, 1) := by decide +kernel
theorem dX9_findOrder_1 : decode cX9_findOrder 1 = .ok (.iconst 0, 1) := by decide +kernel
theorem dX9_findOrder_2 : decode cX9_findOrder 2 = .ok (.putfield 175, 3) := by decide +kernel
theorem dX9_findOrder_5 : decode cX9_findOrder 5 = .ok (.iconst 0, 1) := by decide +kernel
end
section
theorem dX9_findOrder_6 : decode cX9_findOrder 6 = .ok (.istore_n 2, 1) := by decide +kernel
theorem dX9_findOrder_7 : decode cX9_findOrder 7 = .ok (.iload_n 2, 1) := by decide +kernel
theorem dX9_findOrder_8 : decode cX9_findOrder 8 = .ok (.aload_n 0, 1) := by decide +kernel
theorem dX9_findOrder_9 : decode cX9_findOrder 9 = .ok (.getfield 86, 3) := by decide +kernel
theorem dX9_findOrder_12 : decode cX9_findOrder 12 = .ok (.if_icmp .ge 16, 3) := by decide +kernel
theorem dX9_findOrder_15 : decode cX9_findOrder 15 = .ok (.aload_n 0, 1) := by decide +kernel
theorem dX9_findOrder_16 : decode cX9_findOrder 16 = .ok (.getfield 68, 3) := by decide +kernel
theorem dX9_findOrder_19 : decode cX9_findOrder 19 = .ok (.iload_n 2, 1) := by decide +kernel
theorem dX9_findOrder_20 : decode cX9_findOrder 20 = .ok (.iconst 0, 1) := by decide +kernel
theorem dX9_findOrder_21 : decode cX9_findOrder 21 = .ok (.bastore, 1) := by decide +kernel
theorem dX9_findOrder_22 : decode cX9_findOrder 22 = .ok (.iinc 2 1, 3) := by decide +kernel
theorem dX9_findOrder_25 : decode cX9_findOrder 25 = .ok (.goto (-18), 3) := by decide +kernel
theorem dX9_findOrder_28 : decode cX9_findOrder 28 = .ok (.iconst 1, 1) := by decide +kernel
theorem dX9_findOrder_29 : decode cX9_findOrder 29 = .ok (.istore_n 2, 1) := by decide +kernel
theorem dX9_findOrder_30 : decode cX9_findOrder 30 = .ok (.iload_n 2, 1) := by decide +kernel
theorem dX9_findOrder_31 : decode cX9_findOrder 31 = .ok (.ifCond .eq 91, 3) := by decide +kernel
theorem dX9_findOrder_34 : decode cX9_findOrder 34 = .ok (.iconst 0, 1) := by decide +kernel
theorem dX9_findOrder_35 : decode cX9_findOrder 35 = .ok (.istore_n 2, 1) := by decide +kernel
theorem dX9_findOrder_36 : decode cX9_findOrder 36 = .ok (.iconst 0, 1) := by decide +kernel
theorem dX9_findOrder_37 : decode cX9_findOrder 37 = .ok (.istore_n 3, 1) := by decide +kernel
theorem dX9_findOrder_38 : decode cX9_findOrder 38 = .ok (.iload_n 3, 1) := by decide +kernel
theorem dX9_findOrder_39 : decode cX9_findOrder 39 = .ok (.aload_n 0, 1) := by decide +kernel
theorem dX9_findOrder_40 : decode cX9_findOrder 40 = .ok (.getfield 86, 3) := by decide +kernel
theorem dX9_findOrder_43 : decode cX9_findOrder 43 = .ok (.if_icmp .ge 76, 3) := by decide +kernel
theorem dX9_findOrder_46 : decode cX9_findOrder 46 = .ok (.iload_n 2, 1) := by decide +kernel
theorem dX9_findOrder_47 : decode cX9_findOrder 47 = .ok (.ifCond .ne 72, 3) := by decide +kernel
theorem dX9_findOrder_50 : decode cX9_findOrder 50 = .ok (.aload_n 0, 1) := by decide +kernel
theorem dX9_findOrder_51 : decode cX9_findOrder 51 = .ok (.getfield 50, 3) := by decide +kernel
theorem dX9_findOrder_54 : decode cX9_findOrder 54 = .ok (.iload_n 3, 1) := by decide +kernel
theorem dX9_findOrder_55 : decode cX9_findOrder 55 = .ok (.iaload, 1) := by decide +kernel
theorem dX9_findOrder_56 : decode cX9_findOrder 56 = .ok (.iload_n 1, 1) := by decide +kernel
theorem dX9_findOrder_57 : decode cX9_findOrder 57 = .ok (.if_icmp .ne 56, 3) := by decide +kernel
theorem dX9_findOrder_60 : decode cX9_findOrder 60 = .ok (.aload_n 0, 1) := by decide +kernel
theorem dX9_findOrder_61 : decode cX9_findOrder 61 = .ok (.getfield 68, 3) := by decide +kernel
theorem dX9_findOrder_64 : decode cX9_findOrder 64 = .ok (.iload_n 3, 1) := by decide +kernel
theorem dX9_findOrder_65 : decode cX9_findOrder 65 = .ok (.baload, 1) := by decide +kernel
theorem dX9_findOrder_66 : decode cX9_findOrder 66 = .ok (.ifCond .ne 47, 3) := by decide +kernel
theorem dX9_findOrder_69 : decode cX9_findOrder 69 = .ok (.aload_n 0, 1) := by decide +kernel
theorem dX9_findOrder_70 : decode cX9_findOrder 70 = .ok (.getfield 175, 3) := by decide +kernel
theorem dX9_findOrder_73 : decode cX9_findOrder 73 = .ok (.ifCond .eq 11, 3) := by decide +kernel
theorem dX9_findOrder_76 : decode cX9_findOrder 76 = .ok (.aload_n 0, 1) := by decide +kernel
theorem dX9_findOrder_77 : decode cX9_findOrder 77 = .ok (.iload_n 3, 1) := by decide +kernel
theorem dX9_findOrder_78 : decode cX9_findOrder 78 = .ok (.invokevirtual 178, 3) := by decide +kernel
theorem dX9_findOrder_81 : decode cX9_findOrder 81 = .ok (.ifCond .eq 32, 3) := by decide +kernel
theorem dX9_findOrder_84 : decode cX9_findOrder 84 = .ok (.aload_n 0, 1) := by decide +kernel
theorem dX9_findOrder_85 : decode cX9_findOrder 85 = .ok (.getfield 65, 3) := by decide +kernel
theorem dX9_findOrder_88 : decode cX9_findOrder 88 = .ok (.aload_n 0, 1) := by decide +kernel
theorem dX9_findOrder_89 : decode cX9_findOrder 89 = .ok (.getfield 175, 3) := by decide +kernel
theorem dX9_findOrder_92 : decode cX9_findOrder 92 = .ok (.iload_n 3, 1) := by decide +kernel
theorem dX9_findOrder_93 : decode cX9_findOrder 93 = .ok (.iastore, 1) := by decide +kernel
theorem dX9_findOrder_94 : decode cX9_findOrder 94 = .ok (.aload_n 0, 1) := by decide +kernel
theorem dX9_findOrder_95 : decode cX9_findOrder 95 = .ok (.getfield 68, 3) := by decide +kernel
theorem dX9_findOrder_98 : decode cX9_findOrder 98 = .ok (.iload_n 3, 1) := by decide +kernel
theorem dX9_findOrder_99 : decode cX9_findOrder 99 = .ok (.iconst 1, 1) := by decide +kernel
theorem dX9_findOrder_100 : decode cX9_findOrder 100 = .ok (.bastore, 1) := by decide +kernel
theorem dX9_findOrder_101 : decode cX9_findOrder 101 = .ok (.aload_n 0, 1) := by decide +kernel
theorem dX9_findOrder_102 : decode cX9_findOrder 102 = .ok (.dup, 1) := by decide +kernel
theorem dX9_findOrder_103 : decode cX9_findOrder 103 = .ok (.getfield 175, 3) := by decide +kernel
theorem dX9_findOrder_106 : decode cX9_findOrder 106 = .ok (.iconst 1, 1) := by decide +kernel
theorem dX9_findOrder_107 : decode cX9_findOrder 107 = .ok (.iadd, 1) := by decide +kernel
theorem dX9_findOrder_108 : decode cX9_findOrder 108 = .ok (.putfield 175, 3) := by decide +kernel
theorem dX9_findOrder_111 : decode cX9_findOrder 111 = .ok (.iconst 1, 1) := by decide +kernel
theorem dX9_findOrder_112 : decode cX9_findOrder 112 = .ok (.istore_n 2, 1) := by decide +kernel
theorem dX9_findOrder_113 : decode cX9_findOrder 113 = .ok (.iinc 3 1, 3) := by decide +kernel
theorem dX9_findOrder_116 : decode cX9_findOrder 116 = .ok (.goto (-78), 3) := by decide +kernel
theorem dX9_findOrder_119 : decode cX9_findOrder 119 = .ok (.goto (-89), 3) := by decide +kernel
theorem dX9_findOrder_122 : decode cX9_findOrder 122 = .ok (.return_, 1) := by decide +kernel
theorem dX9_noteBest_0 : decode cX9_noteBest 0 = .ok (.aload_n 0, 1) := by decide +kernel
theorem dX9_noteBest_1 : decode cX9_noteBest 1 = .ok (.invokevirtual 181, 3) := by decide +kernel
theorem dX9_noteBest_4 : decode cX9_noteBest 4 = .ok (.istore_n 1, 1) := by decide +kernel
theorem dX9_noteBest_5 : decode cX9_noteBest 5 = .ok (.aload_n 0, 1) := by decide +kernel
theorem dX9_noteBest_6 : decode cX9_noteBest 6 = .ok (.getfield 185, 3) := by decide +kernel
theorem dX9_noteBest_9 : decode cX9_noteBest 9 = .ok (.ifCond .lt 11, 3) := by decide +kernel
theorem dX9_noteBest_12 : decode cX9_noteBest 12 = .ok (.iload_n 1, 1) := by decide +kernel
theorem dX9_noteBest_13 : decode cX9_noteBest 13 = .ok (.aload_n 0, 1) := by decide +kernel
theorem dX9_noteBest_14 : decode cX9_noteBest 14 = .ok (.getfield 185, 3) := by decide +kernel
theorem dX9_noteBest_17 : decode cX9_noteBest 17 = .ok (.if_icmp .ge 67, 3) := by decide +kernel
theorem dX9_noteBest_20 : decode cX9_noteBest 20 = .ok (.aload_n 0, 1) := by decide +kernel
theorem dX9_noteBest_21 : decode cX9_noteBest 21 = .ok (.iload_n 1, 1) := by decide +kernel
theorem dX9_noteBest_22 : decode cX9_noteBest 22 = .ok (.putfield 185, 3) := by decide +kernel
theorem dX9_noteBest_25 : decode cX9_noteBest 25 = .ok (.iconst 0, 1) := by decide +kernel
theorem dX9_noteBest_26 : decode cX9_noteBest 26 = .ok (.istore_n 2, 1) := by decide +kernel
theorem dX9_noteBest_27 : decode cX9_noteBest 27 = .ok (.iload_n 2, 1) := by decide +kernel
theorem dX9_noteBest_28 : decode cX9_noteBest 28 = .ok (.aload_n 0, 1) := by decide +kernel
theorem dX9_noteBest_29 : decode cX9_noteBest 29 = .ok (.getfield 175, 3) := by decide +kernel
theorem dX9_noteBest_32 : decode cX9_noteBest 32 = .ok (.if_icmp .ge 52, 3) := by decide +kernel
theorem dX9_noteBest_35 : decode cX9_noteBest 35 = .ok (.aload_n 0, 1) := by decide +kernel
theorem dX9_noteBest_36 : decode cX9_noteBest 36 = .ok (.getfield 65, 3) := by decide +kernel
theorem dX9_noteBest_39 : decode cX9_noteBest 39 = .ok (.iload_n 2, 1) := by decide +kernel
theorem dX9_noteBest_40 : decode cX9_noteBest 40 = .ok (.iaload, 1) := by decide +kernel
theorem dX9_noteBest_41 : decode cX9_noteBest 41 = .ok (.istore_n 3, 1) := by decide +kernel
theorem dX9_noteBest_42 : decode cX9_noteBest 42 = .ok (.aload_n 0, 1) := by decide +kernel
theorem dX9_noteBest_43 : decode cX9_noteBest 43 = .ok (.getfield 74, 3) := by decide +kernel
theorem dX9_noteBest_46 : decode cX9_noteBest 46 = .ok (.iload_n 3, 1) := by decide +kernel
theorem dX9_noteBest_47 : decode cX9_noteBest 47 = .ok (.aload_n 0, 1) := by decide +kernel
theorem dX9_noteBest_48 : decode cX9_noteBest 48 = .ok (.getfield 56, 3) := by decide +kernel
theorem dX9_noteBest_51 : decode cX9_noteBest 51 = .ok (.iload_n 3, 1) := by decide +kernel
theorem dX9_noteBest_52 : decode cX9_noteBest 52 = .ok (.iaload, 1) := by decide +kernel
theorem dX9_noteBest_53 : decode cX9_noteBest 53 = .ok (.iastore, 1) := by decide +kernel
theorem dX9_noteBest_54 : decode cX9_noteBest 54 = .ok (.aload_n 0, 1) := by decide +kernel
theorem dX9_noteBest_55 : decode cX9_noteBest 55 = .ok (.getfield 77, 3) := by decide +kernel
theorem dX9_noteBest_58 : decode cX9_noteBest 58 = .ok (.iload_n 3, 1) := by decide +kernel
theorem dX9_noteBest_59 : decode cX9_noteBest 59 = .ok (.aload_n 0, 1) := by decide +kernel
theorem dX9_noteBest_60 : decode cX9_noteBest 60 = .ok (.getfield 59, 3) := by decide +kernel
theorem dX9_noteBest_63 : decode cX9_noteBest 63 = .ok (.iload_n 3, 1) := by decide +kernel
theorem dX9_noteBest_64 : decode cX9_noteBest 64 = .ok (.iaload, 1) := by decide +kernel
theorem dX9_noteBest_65 : decode cX9_noteBest 65 = .ok (.iastore, 1) := by decide +kernel
theorem dX9_noteBest_66 : decode cX9_noteBest 66 = .ok (.aload_n 0, 1) := by decide +kernel
theorem dX9_noteBest_67 : decode cX9_noteBest 67 = .ok (.getfield 80, 3) := by decide +kernel
theorem dX9_noteBest_70 : decode cX9_noteBest 70 = .ok (.iload_n 3, 1) := by decide +kernel
theorem dX9_noteBest_71 : decode cX9_noteBest 71 = .ok (.aload_n 0, 1) := by decide +kernel
theorem dX9_noteBest_72 : decode cX9_noteBest 72 = .ok (.getfield 62, 3) := by decide +kernel
theorem dX9_noteBest_75 : decode cX9_noteBest 75 = .ok (.iload_n 3, 1) := by decide +kernel
theorem dX9_noteBest_76 : decode cX9_noteBest 76 = .ok (.iaload, 1) := by decide +kernel
theorem dX9_noteBest_77 : decode cX9_noteBest 77 = .ok (.iastore, 1) := by decide +kernel
theorem dX9_noteBest_78 : decode cX9_noteBest 78 = .ok (.iinc 2 1, 3) := by decide +kernel
theorem dX9_noteBest_81 : decode cX9_noteBest 81 = .ok (.goto (-54), 3) := by decide +kernel
theorem dX9_noteBest_84 : decode cX9_noteBest 84 = .ok (.return_, 1) := by decide +kernel
theorem dX9_noneThere_0 : decode cX9_noneThere 0 = .ok (.iconst 0, 1) := by decide +kernel
theorem dX9_noneThere_1 : decode cX9_noneThere 1 = .ok (.istore_n 1, 1) := by decide +kernel
theorem dX9_noneThere_2 : decode cX9_noneThere 2 = .ok (.iload_n 1, 1) := by decide +kernel
theorem dX9_noneThere_3 : decode cX9_noneThere 3 = .ok (.aload_n 0, 1) := by decide +kernel
theorem dX9_noneThere_4 : decode cX9_noneThere 4 = .ok (.getfield 86, 3) := by decide +kernel
theorem dX9_noneThere_7 : decode cX9_noneThere 7 = .ok (.if_icmp .ge 16, 3) := by decide +kernel
theorem dX9_noneThere_10 : decode cX9_noneThere 10 = .ok (.aload_n 0, 1) := by decide +kernel
theorem dX9_noneThere_11 : decode cX9_noneThere 11 = .ok (.getfield 53, 3) := by decide +kernel
theorem dX9_noneThere_14 : decode cX9_noneThere 14 = .ok (.iload_n 1, 1) := by decide +kernel
theorem dX9_noneThere_15 : decode cX9_noneThere 15 = .ok (.iconst 0, 1) := by decide +kernel
theorem dX9_noneThere_16 : decode cX9_noneThere 16 = .ok (.bastore, 1) := by decide +kernel
theorem dX9_noneThere_17 : decode cX9_noneThere 17 = .ok (.iinc 1 1, 3) := by decide +kernel
theorem dX9_noneThere_20 : decode cX9_noneThere 20 = .ok (.goto (-18), 3) := by decide +kernel
theorem dX9_noneThere_23 : decode cX9_noneThere 23 = .ok (.return_, 1) := by decide +kernel
theorem dX9_tryPart_0 : decode cX9_tryPart 0 = .ok (.aload_n 0, 1) := by decide +kernel
theorem dX9_tryPart_1 : decode cX9_tryPart 1 = .ok (.invokevirtual 188, 3) := by decide +kernel
theorem dX9_tryPart_4 : decode cX9_tryPart 4 = .ok (.aload_n 0, 1) := by decide +kernel
theorem dX9_tryPart_5 : decode cX9_tryPart 5 = .ok (.iconst (-1), 1) := by decide +kernel
theorem dX9_tryPart_6 : decode cX9_tryPart 6 = .ok (.putfield 185, 3) := by decide +kernel
theorem dX9_tryPart_9 : decode cX9_tryPart 9 = .ok (.iconst 1, 1) := by decide +kernel
theorem dX9_tryPart_10 : decode cX9_tryPart 10 = .ok (.istore_n 2, 1) := by decide +kernel
theorem dX9_tryPart_11 : decode cX9_tryPart 11 = .ok (.aload_n 0, 1) := by decide +kernel
theorem dX9_tryPart_12 : decode cX9_tryPart 12 = .ok (.aload_n 0, 1) := by decide +kernel
theorem dX9_tryPart_13 : decode cX9_tryPart 13 = .ok (.getfield 65, 3) := by decide +kernel
theorem dX9_tryPart_16 : decode cX9_tryPart 16 = .ok (.iconst 0, 1) := by decide +kernel
theorem dX9_tryPart_17 : decode cX9_tryPart 17 = .ok (.iaload, 1) := by decide +kernel
theorem dX9_tryPart_18 : decode cX9_tryPart 18 = .ok (.iconst 0, 1) := by decide +kernel
theorem dX9_tryPart_19 : decode cX9_tryPart 19 = .ok (.iconst 0, 1) := by decide +kernel
theorem dX9_tryPart_20 : decode cX9_tryPart 20 = .ok (.iconst 0, 1) := by decide +kernel
theorem dX9_tryPart_21 : decode cX9_tryPart 21 = .ok (.invokevirtual 171, 3) := by decide +kernel
theorem dX9_tryPart_24 : decode cX9_tryPart 24 = .ok (.iconst 1, 1) := by decide +kernel
theorem dX9_tryPart_25 : decode cX9_tryPart 25 = .ok (.istore_n 3, 1) := by decide +kernel
theorem dX9_tryPart_26 : decode cX9_tryPart 26 = .ok (.aload_n 0, 1) := by decide +kernel
theorem dX9_tryPart_27 : decode cX9_tryPart 27 = .ok (.getfield 71, 3) := by decide +kernel
theorem dX9_tryPart_30 : decode cX9_tryPart 30 = .ok (.iconst 1, 1) := by decide +kernel
theorem dX9_tryPart_31 : decode cX9_tryPart 31 = .ok (.iconst 0, 1) := by decide +kernel
theorem dX9_tryPart_32 : decode cX9_tryPart 32 = .ok (.iastore, 1) := by decide +kernel
theorem dX9_tryPart_33 : decode cX9_tryPart 33 = .ok (.iconst 0, 1) := by decide +kernel
theorem dX9_tryPart_34 : decode cX9_tryPart 34 = .ok (.istore 4, 2) := by decide +kernel
theorem dX9_tryPart_36 : decode cX9_tryPart 36 = .ok (.aload_n 0, 1) := by decide +kernel
theorem dX9_tryPart_37 : decode cX9_tryPart 37 = .ok (.getfield 175, 3) := by decide +kernel
theorem dX9_tryPart_40 : decode cX9_tryPart 40 = .ok (.iconst 1, 1) := by decide +kernel
theorem dX9_tryPart_41 : decode cX9_tryPart 41 = .ok (.if_icmp .ne 7, 3) := by decide +kernel
theorem dX9_tryPart_44 : decode cX9_tryPart 44 = .ok (.aload_n 0, 1) := by decide +kernel
theorem dX9_tryPart_45 : decode cX9_tryPart 45 = .ok (.invokevirtual 191, 3) := by decide +kernel
theorem dX9_tryPart_48 : decode cX9_tryPart 48 = .ok (.iload_n 3, 1) := by decide +kernel
theorem dX9_tryPart_49 : decode cX9_tryPart 49 = .ok (.ifCond .le 16, 3) := by decide +kernel
theorem dX9_tryPart_52 : decode cX9_tryPart 52 = .ok (.iload_n 3, 1) := by decide +kernel
theorem dX9_tryPart_53 : decode cX9_tryPart 53 = .ok (.aload_n 0, 1) := by decide +kernel
theorem dX9_tryPart_54 : decode cX9_tryPart 54 = .ok (.getfield 175, 3) := by decide +kernel
theorem dX9_tryPart_57 : decode cX9_tryPart 57 = .ok (.if_icmp .ge 8, 3) := by decide +kernel
theorem dX9_tryPart_60 : decode cX9_tryPart 60 = .ok (.iload 4, 2) := by decide +kernel
theorem dX9_tryPart_62 : decode cX9_tryPart 62 = .ok (.ifCond .eq 24, 3) := by decide +kernel
theorem dX9_tryPart_65 : decode cX9_tryPart 65 = .ok (.iload_n 3, 1) := by decide +kernel
theorem dX9_tryPart_66 : decode cX9_tryPart 66 = .ok (.aload_n 0, 1) := by decide +kernel
theorem dX9_tryPart_67 : decode cX9_tryPart 67 = .ok (.getfield 175, 3) := by decide +kernel
theorem dX9_tryPart_70 : decode cX9_tryPart 70 = .ok (.if_icmp .ne 181, 3) := by decide +kernel
theorem dX9_tryPart_73 : decode cX9_tryPart 73 = .ok (.aload_n 0, 1) := by decide +kernel
theorem dX9_tryPart_74 : decode cX9_tryPart 74 = .ok (.getfield 175, 3) := by decide +kernel
theorem dX9_tryPart_77 : decode cX9_tryPart 77 = .ok (.iconst 1, 1) := by decide +kernel
theorem dX9_tryPart_78 : decode cX9_tryPart 78 = .ok (.if_icmp .le 173, 3) := by decide +kernel
theorem dX9_tryPart_81 : decode cX9_tryPart 81 = .ok (.iload 4, 2) := by decide +kernel
theorem dX9_tryPart_83 : decode cX9_tryPart 83 = .ok (.ifCond .ne 168, 3) := by decide +kernel
theorem dX9_tryPart_86 : decode cX9_tryPart 86 = .ok (.iload_n 3, 1) := by decide +kernel
theorem dX9_tryPart_87 : decode cX9_tryPart 87 = .ok (.aload_n 0, 1) := by decide +kernel
theorem dX9_tryPart_88 : decode cX9_tryPart 88 = .ok (.getfield 175, 3) := by decide +kernel
theorem dX9_tryPart_91 : decode cX9_tryPart 91 = .ok (.if_icmp .ne 35, 3) := by decide +kernel
theorem dX9_tryPart_94 : decode cX9_tryPart 94 = .ok (.aload_n 0, 1) := by decide +kernel
theorem dX9_tryPart_95 : decode cX9_tryPart 95 = .ok (.invokevirtual 191, 3) := by decide +kernel
theorem dX9_tryPart_98 : decode cX9_tryPart 98 = .ok (.iinc 3 (-1), 3) := by decide +kernel
theorem dX9_tryPart_101 : decode cX9_tryPart 101 = .ok (.aload_n 0, 1) := by decide +kernel
theorem dX9_tryPart_102 : decode cX9_tryPart 102 = .ok (.getfield 53, 3) := by decide +kernel
theorem dX9_tryPart_105 : decode cX9_tryPart 105 = .ok (.aload_n 0, 1) := by decide +kernel
theorem dX9_tryPart_106 : decode cX9_tryPart 106 = .ok (.getfield 65, 3) := by decide +kernel
theorem dX9_tryPart_109 : decode cX9_tryPart 109 = .ok (.iload_n 3, 1) := by decide +kernel
theorem dX9_tryPart_110 : decode cX9_tryPart 110 = .ok (.iaload, 1) := by decide +kernel
theorem dX9_tryPart_111 : decode cX9_tryPart 111 = .ok (.iconst 0, 1) := by decide +kernel
theorem dX9_tryPart_112 : decode cX9_tryPart 112 = .ok (.bastore, 1) := by decide +kernel
theorem dX9_tryPart_113 : decode cX9_tryPart 113 = .ok (.aload_n 0, 1) := by decide +kernel
theorem dX9_tryPart_114 : decode cX9_tryPart 114 = .ok (.getfield 71, 3) := by decide +kernel
theorem dX9_tryPart_117 : decode cX9_tryPart 117 = .ok (.iload_n 3, 1) := by decide +kernel
theorem dX9_tryPart_118 : decode cX9_tryPart 118 = .ok (.dup2, 1) := by decide +kernel
theorem dX9_tryPart_119 : decode cX9_tryPart 119 = .ok (.iaload, 1) := by decide +kernel
theorem dX9_tryPart_120 : decode cX9_tryPart 120 = .ok (.iconst 1, 1) := by decide +kernel
theorem dX9_tryPart_121 : decode cX9_tryPart 121 = .ok (.iadd, 1) := by decide +kernel
theorem dX9_tryPart_122 : decode cX9_tryPart 122 = .ok (.iastore, 1) := by decide +kernel
theorem dX9_tryPart_123 : decode cX9_tryPart 123 = .ok (.goto (-75), 3) := by decide +kernel
theorem dX9_tryPart_126 : decode cX9_tryPart 126 = .ok (.aload_n 0, 1) := by decide +kernel
theorem dX9_tryPart_127 : decode cX9_tryPart 127 = .ok (.getfield 65, 3) := by decide +kernel
theorem dX9_tryPart_130 : decode cX9_tryPart 130 = .ok (.iload_n 3, 1) := by decide +kernel
theorem dX9_tryPart_131 : decode cX9_tryPart 131 = .ok (.iaload, 1) := by decide +kernel
theorem dX9_tryPart_132 : decode cX9_tryPart 132 = .ok (.istore 5, 2) := by decide +kernel
theorem dX9_tryPart_134 : decode cX9_tryPart 134 = .ok (.aload_n 0, 1) := by decide +kernel
theorem dX9_tryPart_135 : decode cX9_tryPart 135 = .ok (.iload 5, 2) := by decide +kernel
theorem dX9_tryPart_137 : decode cX9_tryPart 137 = .ok (.aload_n 0, 1) := by decide +kernel
theorem dX9_tryPart_138 : decode cX9_tryPart 138 = .ok (.getfield 71, 3) := by decide +kernel
theorem dX9_tryPart_141 : decode cX9_tryPart 141 = .ok (.iload_n 3, 1) := by decide +kernel
theorem dX9_tryPart_142 : decode cX9_tryPart 142 = .ok (.iaload, 1) := by decide +kernel
theorem dX9_tryPart_143 : decode cX9_tryPart 143 = .ok (.invokevirtual 163, 3) := by decide +kernel
theorem dX9_tryPart_146 : decode cX9_tryPart 146 = .ok (.ifCond .ne 12, 3) := by decide +kernel
theorem dX9_tryPart_149 : decode cX9_tryPart 149 = .ok (.aload_n 0, 1) := by decide +kernel
theorem dX9_tryPart_150 : decode cX9_tryPart 150 = .ok (.getfield 71, 3) := by decide +kernel
theorem dX9_tryPart_153 : decode cX9_tryPart 153 = .ok (.iload_n 3, 1) := by decide +kernel
theorem dX9_tryPart_154 : decode cX9_tryPart 154 = .ok (.iaload, 1) := by decide +kernel
theorem dX9_tryPart_155 : decode cX9_tryPart 155 = .ok (.ifCond .ne 7, 3) := by decide +kernel
theorem dX9_tryPart_158 : decode cX9_tryPart 158 = .ok (.iconst 1, 1) := by decide +kernel
theorem dX9_tryPart_159 : decode cX9_tryPart 159 = .ok (.goto 4, 3) := by decide +kernel
theorem dX9_tryPart_162 : decode cX9_tryPart 162 = .ok (.iconst 0, 1) := by decide +kernel
theorem dX9_tryPart_163 : decode cX9_tryPart 163 = .ok (.istore 6, 2) := by decide +kernel
theorem dX9_tryPart_165 : decode cX9_tryPart 165 = .ok (.iload 6, 2) := by decide +kernel
theorem dX9_tryPart_167 : decode cX9_tryPart 167 = .ok (.ifCond .ne 35, 3) := by decide +kernel
theorem dX9_tryPart_170 : decode cX9_tryPart 170 = .ok (.iinc 3 (-1), 3) := by decide +kernel
theorem dX9_tryPart_173 : decode cX9_tryPart 173 = .ok (.iload_n 3, 1) := by decide +kernel
theorem dX9_tryPart_174 : decode cX9_tryPart 174 = .ok (.ifCond .le 74, 3) := by decide +kernel
theorem dX9_tryPart_177 : decode cX9_tryPart 177 = .ok (.aload_n 0, 1) := by decide +kernel
theorem dX9_tryPart_178 : decode cX9_tryPart 178 = .ok (.getfield 53, 3) := by decide +kernel
theorem dX9_tryPart_181 : decode cX9_tryPart 181 = .ok (.aload_n 0, 1) := by decide +kernel
theorem dX9_tryPart_182 : decode cX9_tryPart 182 = .ok (.getfield 65, 3) := by decide +kernel
theorem dX9_tryPart_185 : decode cX9_tryPart 185 = .ok (.iload_n 3, 1) := by decide +kernel
theorem dX9_tryPart_186 : decode cX9_tryPart 186 = .ok (.iaload, 1) := by decide +kernel
theorem dX9_tryPart_187 : decode cX9_tryPart 187 = .ok (.iconst 0, 1) := by decide +kernel
theorem dX9_tryPart_188 : decode cX9_tryPart 188 = .ok (.bastore, 1) := by decide +kernel
theorem dX9_tryPart_189 : decode cX9_tryPart 189 = .ok (.aload_n 0, 1) := by decide +kernel
theorem dX9_tryPart_190 : decode cX9_tryPart 190 = .ok (.getfield 71, 3) := by decide +kernel
theorem dX9_tryPart_193 : decode cX9_tryPart 193 = .ok (.iload_n 3, 1) := by decide +kernel
theorem dX9_tryPart_194 : decode cX9_tryPart 194 = .ok (.dup2, 1) := by decide +kernel
theorem dX9_tryPart_195 : decode cX9_tryPart 195 = .ok (.iaload, 1) := by decide +kernel
theorem dX9_tryPart_196 : decode cX9_tryPart 196 = .ok (.iconst 1, 1) := by decide +kernel
theorem dX9_tryPart_197 : decode cX9_tryPart 197 = .ok (.iadd, 1) := by decide +kernel
theorem dX9_tryPart_198 : decode cX9_tryPart 198 = .ok (.iastore, 1) := by decide +kernel
theorem dX9_tryPart_199 : decode cX9_tryPart 199 = .ok (.goto 49, 3) := by decide +kernel
theorem dX9_tryPart_202 : decode cX9_tryPart 202 = .ok (.iload_n 2, 1) := by decide +kernel
theorem dX9_tryPart_203 : decode cX9_tryPart 203 = .ok (.iload_n 1, 1) := by decide +kernel
theorem dX9_tryPart_204 : decode cX9_tryPart 204 = .ok (.if_icmp .ne 9, 3) := by decide +kernel
theorem dX9_tryPart_207 : decode cX9_tryPart 207 = .ok (.iconst 1, 1) := by decide +kernel
theorem dX9_tryPart_208 : decode cX9_tryPart 208 = .ok (.istore 4, 2) := by decide +kernel
theorem dX9_tryPart_210 : decode cX9_tryPart 210 = .ok (.goto 38, 3) := by decide +kernel
theorem dX9_tryPart_213 : decode cX9_tryPart 213 = .ok (.aload_n 0, 1) := by decide +kernel
theorem dX9_tryPart_214 : decode cX9_tryPart 214 = .ok (.iload 5, 2) := by decide +kernel
theorem dX9_tryPart_216 : decode cX9_tryPart 216 = .ok (.aload_n 0, 1) := by decide +kernel
theorem dX9_tryPart_217 : decode cX9_tryPart 217 = .ok (.getfield 71, 3) := by decide +kernel
theorem dX9_tryPart_220 : decode cX9_tryPart 220 = .ok (.iload_n 3, 1) := by decide +kernel
theorem dX9_tryPart_221 : decode cX9_tryPart 221 = .ok (.iaload, 1) := by decide +kernel
theorem dX9_tryPart_222 : decode cX9_tryPart 222 = .ok (.invokevirtual 194, 3) := by decide +kernel
theorem dX9_tryPart_225 : decode cX9_tryPart 225 = .ok (.istore 7, 2) := by decide +kernel
theorem dX9_tryPart_227 : decode cX9_tryPart 227 = .ok (.iinc 2 1, 3) := by decide +kernel
theorem dX9_tryPart_230 : decode cX9_tryPart 230 = .ok (.iinc 3 1, 3) := by decide +kernel
theorem dX9_tryPart_233 : decode cX9_tryPart 233 = .ok (.iload_n 3, 1) := by decide +kernel
theorem dX9_tryPart_234 : decode cX9_tryPart 234 = .ok (.aload_n 0, 1) := by decide +kernel
theorem dX9_tryPart_235 : decode cX9_tryPart 235 = .ok (.getfield 175, 3) := by decide +kernel
theorem dX9_tryPart_238 : decode cX9_tryPart 238 = .ok (.if_icmp .ge 10, 3) := by decide +kernel
theorem dX9_tryPart_241 : decode cX9_tryPart 241 = .ok (.aload_n 0, 1) := by decide +kernel
theorem dX9_tryPart_242 : decode cX9_tryPart 242 = .ok (.getfield 71, 3) := by decide +kernel
theorem dX9_tryPart_245 : decode cX9_tryPart 245 = .ok (.iload_n 3, 1) := by decide +kernel
theorem dX9_tryPart_246 : decode cX9_tryPart 246 = .ok (.iconst 0, 1) := by decide +kernel
theorem dX9_tryPart_247 : decode cX9_tryPart 247 = .ok (.iastore, 1) := by decide +kernel
theorem dX9_tryPart_248 : decode cX9_tryPart 248 = .ok (.goto (-200), 3) := by decide +kernel
theorem dX9_tryPart_251 : decode cX9_tryPart 251 = .ok (.aload_n 0, 1) := by decide +kernel
theorem dX9_tryPart_252 : decode cX9_tryPart 252 = .ok (.dup, 1) := by decide +kernel
theorem dX9_tryPart_253 : decode cX9_tryPart 253 = .ok (.getfield 197, 3) := by decide +kernel
theorem dX9_tryPart_256 : decode cX9_tryPart 256 = .ok (.iload_n 2, 1) := by decide +kernel
theorem dX9_tryPart_257 : decode cX9_tryPart 257 = .ok (.iadd, 1) := by decide +kernel
theorem dX9_tryPart_258 : decode cX9_tryPart 258 = .ok (.putfield 197, 3) := by decide +kernel
theorem dX9_tryPart_261 : decode cX9_tryPart 261 = .ok (.iload 4, 2) := by decide +kernel
theorem dX9_tryPart_263 : decode cX9_tryPart 263 = .ok (.ifCond .ne 7, 3) := by decide +kernel
theorem dX9_tryPart_266 : decode cX9_tryPart 266 = .ok (.iconst 1, 1) := by decide +kernel
theorem dX9_tryPart_267 : decode cX9_tryPart 267 = .ok (.goto 4, 3) := by decide +kernel
theorem dX9_tryPart_270 : decode cX9_tryPart 270 = .ok (.iconst 0, 1) := by decide +kernel
theorem dX9_tryPart_271 : decode cX9_tryPart 271 = .ok (.ireturn, 1) := by decide +kernel
theorem dX9_byFirst_0 : decode cX9_byFirst 0 = .ok (.aload_n 0, 1) := by decide +kernel
theorem dX9_byFirst_1 : decode cX9_byFirst 1 = .ok (.invokevirtual 188, 3) := by decide +kernel
theorem dX9_byFirst_4 : decode cX9_byFirst 4 = .ok (.aload_n 0, 1) := by decide +kernel
theorem dX9_byFirst_5 : decode cX9_byFirst 5 = .ok (.aload_n 0, 1) := by decide +kernel
theorem dX9_byFirst_6 : decode cX9_byFirst 6 = .ok (.getfield 65, 3) := by decide +kernel
theorem dX9_byFirst_9 : decode cX9_byFirst 9 = .ok (.iconst 0, 1) := by decide +kernel
theorem dX9_byFirst_10 : decode cX9_byFirst 10 = .ok (.iaload, 1) := by decide +kernel
theorem dX9_byFirst_11 : decode cX9_byFirst 11 = .ok (.iconst 0, 1) := by decide +kernel
theorem dX9_byFirst_12 : decode cX9_byFirst 12 = .ok (.iconst 0, 1) := by decide +kernel
theorem dX9_byFirst_13 : decode cX9_byFirst 13 = .ok (.iconst 0, 1) := by decide +kernel
theorem dX9_byFirst_14 : decode cX9_byFirst 14 = .ok (.invokevirtual 171, 3) := by decide +kernel
theorem dX9_byFirst_17 : decode cX9_byFirst 17 = .ok (.iconst 1, 1) := by decide +kernel
theorem dX9_byFirst_18 : decode cX9_byFirst 18 = .ok (.istore_n 1, 1) := by decide +kernel
theorem dX9_byFirst_19 : decode cX9_byFirst 19 = .ok (.iload_n 1, 1) := by decide +kernel
theorem dX9_byFirst_20 : decode cX9_byFirst 20 = .ok (.aload_n 0, 1) := by decide +kernel
theorem dX9_byFirst_21 : decode cX9_byFirst 21 = .ok (.getfield 175, 3) := by decide +kernel
theorem dX9_byFirst_24 : decode cX9_byFirst 24 = .ok (.if_icmp .ge 21, 3) := by decide +kernel
theorem dX9_byFirst_27 : decode cX9_byFirst 27 = .ok (.aload_n 0, 1) := by decide +kernel
theorem dX9_byFirst_28 : decode cX9_byFirst 28 = .ok (.aload_n 0, 1) := by decide +kernel
theorem dX9_byFirst_29 : decode cX9_byFirst 29 = .ok (.getfield 65, 3) := by decide +kernel
theorem dX9_byFirst_32 : decode cX9_byFirst 32 = .ok (.iload_n 1, 1) := by decide +kernel
theorem dX9_byFirst_33 : decode cX9_byFirst 33 = .ok (.iaload, 1) := by decide +kernel
theorem dX9_byFirst_34 : decode cX9_byFirst 34 = .ok (.iconst 0, 1) := by decide +kernel
theorem dX9_byFirst_35 : decode cX9_byFirst 35 = .ok (.invokevirtual 194, 3) := by decide +kernel
theorem dX9_byFirst_38 : decode cX9_byFirst 38 = .ok (.istore_n 2, 1) := by decide +kernel
theorem dX9_byFirst_39 : decode cX9_byFirst 39 = .ok (.iinc 1 1, 3) := by decide +kernel
theorem dX9_byFirst_42 : decode cX9_byFirst 42 = .ok (.goto (-23), 3) := by decide +kernel
theorem dX9_byFirst_45 : decode cX9_byFirst 45 = .ok (.aload_n 0, 1) := by decide +kernel
theorem dX9_byFirst_46 : decode cX9_byFirst 46 = .ok (.invokevirtual 191, 3) := by decide +kernel
theorem dX9_byFirst_49 : decode cX9_byFirst 49 = .ok (.return_, 1) := by decide +kernel
theorem dX9_draw_0 : decode cX9_draw 0 = .ok (.iload_n 1, 1) := by decide +kernel
theorem dX9_draw_1 : decode cX9_draw 1 = .ok (.iconst 1, 1) := by decide +kernel
theorem dX9_draw_2 : decode cX9_draw 2 = .ok (.sipush 20000, 3) := by decide +kernel
theorem dX9_draw_5 : decode cX9_draw 5 = .ok (.invokestatic 90, 3) := by decide +kernel
theorem dX9_draw_8 : decode cX9_draw 8 = .ok (.ifCond .ne 5, 3) := by decide +kernel
theorem dX9_draw_11 : decode cX9_draw 11 = .ok (.iconst (-1), 1) := by decide +kernel
theorem dX9_draw_12 : decode cX9_draw 12 = .ok (.ireturn, 1) := by decide +kernel
theorem dX9_draw_13 : decode cX9_draw 13 = .ok (.aload_n 0, 1) := by decide +kernel
theorem dX9_draw_14 : decode cX9_draw 14 = .ok (.invokevirtual 129, 3) := by decide +kernel
theorem dX9_draw_17 : decode cX9_draw 17 = .ok (.aload_n 0, 1) := by decide +kernel
theorem dX9_draw_18 : decode cX9_draw 18 = .ok (.iconst 0, 1) := by decide +kernel
theorem dX9_draw_19 : decode cX9_draw 19 = .ok (.putfield 197, 3) := by decide +kernel
theorem dX9_draw_22 : decode cX9_draw 22 = .ok (.aload_n 0, 1) := by decide +kernel
theorem dX9_draw_23 : decode cX9_draw 23 = .ok (.aload_n 0, 1) := by decide +kernel
theorem dX9_draw_24 : decode cX9_draw 24 = .ok (.getfield 126, 3) := by decide +kernel
theorem dX9_draw_27 : decode cX9_draw 27 = .ok (.putfield 200, 3) := by decide +kernel
theorem dX9_draw_30 : decode cX9_draw 30 = .ok (.iconst 0, 1) := by decide +kernel
theorem dX9_draw_31 : decode cX9_draw 31 = .ok (.istore_n 2, 1) := by decide +kernel
theorem dX9_draw_32 : decode cX9_draw 32 = .ok (.iconst 0, 1) := by decide +kernel
theorem dX9_draw_33 : decode cX9_draw 33 = .ok (.istore_n 3, 1) := by decide +kernel
theorem dX9_draw_34 : decode cX9_draw 34 = .ok (.iload_n 3, 1) := by decide +kernel
theorem dX9_draw_35 : decode cX9_draw 35 = .ok (.aload_n 0, 1) := by decide +kernel
theorem dX9_draw_36 : decode cX9_draw 36 = .ok (.getfield 126, 3) := by decide +kernel
theorem dX9_draw_39 : decode cX9_draw 39 = .ok (.if_icmp .ge 42, 3) := by decide +kernel
theorem dX9_draw_42 : decode cX9_draw 42 = .ok (.aload_n 0, 1) := by decide +kernel
theorem dX9_draw_43 : decode cX9_draw 43 = .ok (.iload_n 3, 1) := by decide +kernel
theorem dX9_draw_44 : decode cX9_draw 44 = .ok (.invokevirtual 203, 3) := by decide +kernel
theorem dX9_draw_47 : decode cX9_draw 47 = .ok (.aload_n 0, 1) := by decide +kernel
theorem dX9_draw_48 : decode cX9_draw 48 = .ok (.getfield 44, 3) := by decide +kernel
theorem dX9_draw_51 : decode cX9_draw 51 = .ok (.iload_n 3, 1) := by decide +kernel
theorem dX9_draw_52 : decode cX9_draw 52 = .ok (.aload_n 0, 1) := by decide +kernel
theorem dX9_draw_53 : decode cX9_draw 53 = .ok (.iload_n 1, 1) := by decide +kernel
theorem dX9_draw_54 : decode cX9_draw 54 = .ok (.invokevirtual 206, 3) := by decide +kernel
theorem dX9_draw_57 : decode cX9_draw 57 = .ok (.bastore, 1) := by decide +kernel
theorem dX9_draw_58 : decode cX9_draw 58 = .ok (.aload_n 0, 1) := by decide +kernel
theorem dX9_draw_59 : decode cX9_draw 59 = .ok (.getfield 185, 3) := by decide +kernel
theorem dX9_draw_62 : decode cX9_draw 62 = .ok (.ifCond .ge 7, 3) := by decide +kernel
theorem dX9_draw_65 : decode cX9_draw 65 = .ok (.aload_n 0, 1) := by decide +kernel
theorem dX9_draw_66 : decode cX9_draw 66 = .ok (.invokevirtual 209, 3) := by decide +kernel
theorem dX9_draw_69 : decode cX9_draw 69 = .ok (.aload_n 0, 1) := by decide +kernel
theorem dX9_draw_70 : decode cX9_draw 70 = .ok (.iload_n 2, 1) := by decide +kernel
theorem dX9_draw_71 : decode cX9_draw 71 = .ok (.invokevirtual 212, 3) := by decide +kernel
theorem dX9_draw_74 : decode cX9_draw 74 = .ok (.istore_n 2, 1) := by decide +kernel
theorem dX9_draw_75 : decode cX9_draw 75 = .ok (.iinc 3 1, 3) := by decide +kernel
theorem dX9_draw_78 : decode cX9_draw 78 = .ok (.goto (-44), 3) := by decide +kernel
theorem dX9_draw_81 : decode cX9_draw 81 = .ok (.aload_n 0, 1) := by decide +kernel
theorem dX9_draw_82 : decode cX9_draw 82 = .ok (.invokevirtual 215, 3) := by decide +kernel
theorem dX9_draw_85 : decode cX9_draw 85 = .ok (.aload_n 0, 1) := by decide +kernel
theorem dX9_draw_86 : decode cX9_draw 86 = .ok (.invokevirtual 218, 3) := by decide +kernel
theorem dX9_draw_89 : decode cX9_draw 89 = .ok (.ireturn, 1) := by decide +kernel
theorem dX9_movePart_0 : decode cX9_movePart 0 = .ok (.aload_n 0, 1) := by decide +kernel
theorem dX9_movePart_1 : decode cX9_movePart 1 = .ok (.getfield 74, 3) := by decide +kernel
theorem dX9_movePart_4 : decode cX9_movePart 4 = .ok (.aload_n 0, 1) := by decide +kernel
theorem dX9_movePart_5 : decode cX9_movePart 5 = .ok (.getfield 65, 3) := by decide +kernel
theorem dX9_movePart_8 : decode cX9_movePart 8 = .ok (.iconst 0, 1) := by decide +kernel
theorem dX9_movePart_9 : decode cX9_movePart 9 = .ok (.iaload, 1) := by decide +kernel
theorem dX9_movePart_10 : decode cX9_movePart 10 = .ok (.iaload, 1) := by decide +kernel
theorem dX9_movePart_11 : decode cX9_movePart 11 = .ok (.istore_n 2, 1) := by decide +kernel
theorem dX9_movePart_12 : decode cX9_movePart 12 = .ok (.aload_n 0, 1) := by decide +kernel
theorem dX9_movePart_13 : decode cX9_movePart 13 = .ok (.getfield 77, 3) := by decide +kernel
theorem dX9_movePart_16 : decode cX9_movePart 16 = .ok (.aload_n 0, 1) := by decide +kernel
theorem dX9_movePart_17 : decode cX9_movePart 17 = .ok (.getfield 65, 3) := by decide +kernel
theorem dX9_movePart_20 : decode cX9_movePart 20 = .ok (.iconst 0, 1) := by decide +kernel
theorem dX9_movePart_21 : decode cX9_movePart 21 = .ok (.iaload, 1) := by decide +kernel
theorem dX9_movePart_22 : decode cX9_movePart 22 = .ok (.iaload, 1) := by decide +kernel
theorem dX9_movePart_23 : decode cX9_movePart 23 = .ok (.istore_n 3, 1) := by decide +kernel
theorem dX9_movePart_24 : decode cX9_movePart 24 = .ok (.iconst 0, 1) := by decide +kernel
theorem dX9_movePart_25 : decode cX9_movePart 25 = .ok (.istore 4, 2) := by decide +kernel
theorem dX9_movePart_27 : decode cX9_movePart 27 = .ok (.iload 4, 2) := by decide +kernel
theorem dX9_movePart_29 : decode cX9_movePart 29 = .ok (.aload_n 0, 1) := by decide +kernel
theorem dX9_movePart_30 : decode cX9_movePart 30 = .ok (.getfield 175, 3) := by decide +kernel
theorem dX9_movePart_33 : decode cX9_movePart 33 = .ok (.if_icmp .ge 75, 3) := by decide +kernel
theorem dX9_movePart_36 : decode cX9_movePart 36 = .ok (.aload_n 0, 1) := by decide +kernel
theorem dX9_movePart_37 : decode cX9_movePart 37 = .ok (.getfield 74, 3) := by decide +kernel
theorem dX9_movePart_40 : decode cX9_movePart 40 = .ok (.aload_n 0, 1) := by decide +kernel
theorem dX9_movePart_41 : decode cX9_movePart 41 = .ok (.getfield 65, 3) := by decide +kernel
theorem dX9_movePart_44 : decode cX9_movePart 44 = .ok (.iload 4, 2) := by decide +kernel
theorem dX9_movePart_46 : decode cX9_movePart 46 = .ok (.iaload, 1) := by decide +kernel
theorem dX9_movePart_47 : decode cX9_movePart 47 = .ok (.iaload, 1) := by decide +kernel
theorem dX9_movePart_48 : decode cX9_movePart 48 = .ok (.iload_n 2, 1) := by decide +kernel
theorem dX9_movePart_49 : decode cX9_movePart 49 = .ok (.if_icmp .ge 18, 3) := by decide +kernel
theorem dX9_movePart_52 : decode cX9_movePart 52 = .ok (.aload_n 0, 1) := by decide +kernel
theorem dX9_movePart_53 : decode cX9_movePart 53 = .ok (.getfield 74, 3) := by decide +kernel
theorem dX9_movePart_56 : decode cX9_movePart 56 = .ok (.aload_n 0, 1) := by decide +kernel
theorem dX9_movePart_57 : decode cX9_movePart 57 = .ok (.getfield 65, 3) := by decide +kernel
theorem dX9_movePart_60 : decode cX9_movePart 60 = .ok (.iload 4, 2) := by decide +kernel
theorem dX9_movePart_62 : decode cX9_movePart 62 = .ok (.iaload, 1) := by decide +kernel
theorem dX9_movePart_63 : decode cX9_movePart 63 = .ok (.iaload, 1) := by decide +kernel
theorem dX9_movePart_64 : decode cX9_movePart 64 = .ok (.goto 4, 3) := by decide +kernel
theorem dX9_movePart_67 : decode cX9_movePart 67 = .ok (.iload_n 2, 1) := by decide +kernel
theorem dX9_movePart_68 : decode cX9_movePart 68 = .ok (.istore_n 2, 1) := by decide +kernel
theorem dX9_movePart_69 : decode cX9_movePart 69 = .ok (.aload_n 0, 1) := by decide +kernel
theorem dX9_movePart_70 : decode cX9_movePart 70 = .ok (.getfield 77, 3) := by decide +kernel
theorem dX9_movePart_73 : decode cX9_movePart 73 = .ok (.aload_n 0, 1) := by decide +kernel
theorem dX9_movePart_74 : decode cX9_movePart 74 = .ok (.getfield 65, 3) := by decide +kernel
theorem dX9_movePart_77 : decode cX9_movePart 77 = .ok (.iload 4, 2) := by decide +kernel
theorem dX9_movePart_79 : decode cX9_movePart 79 = .ok (.iaload, 1) := by decide +kernel
theorem dX9_movePart_80 : decode cX9_movePart 80 = .ok (.iaload, 1) := by decide +kernel
theorem dX9_movePart_81 : decode cX9_movePart 81 = .ok (.iload_n 3, 1) := by decide +kernel
theorem dX9_movePart_82 : decode cX9_movePart 82 = .ok (.if_icmp .ge 18, 3) := by decide +kernel
theorem dX9_movePart_85 : decode cX9_movePart 85 = .ok (.aload_n 0, 1) := by decide +kernel
theorem dX9_movePart_86 : decode cX9_movePart 86 = .ok (.getfield 77, 3) := by decide +kernel
theorem dX9_movePart_89 : decode cX9_movePart 89 = .ok (.aload_n 0, 1) := by decide +kernel
theorem dX9_movePart_90 : decode cX9_movePart 90 = .ok (.getfield 65, 3) := by decide +kernel
theorem dX9_movePart_93 : decode cX9_movePart 93 = .ok (.iload 4, 2) := by decide +kernel
theorem dX9_movePart_95 : decode cX9_movePart 95 = .ok (.iaload, 1) := by decide +kernel
theorem dX9_movePart_96 : decode cX9_movePart 96 = .ok (.iaload, 1) := by decide +kernel
theorem dX9_movePart_97 : decode cX9_movePart 97 = .ok (.goto 4, 3) := by decide +kernel
theorem dX9_movePart_100 : decode cX9_movePart 100 = .ok (.iload_n 3, 1) := by decide +kernel
theorem dX9_movePart_101 : decode cX9_movePart 101 = .ok (.istore_n 3, 1) := by decide +kernel
theorem dX9_movePart_102 : decode cX9_movePart 102 = .ok (.iinc 4 1, 3) := by decide +kernel
theorem dX9_movePart_105 : decode cX9_movePart 105 = .ok (.goto (-78), 3) := by decide +kernel
theorem dX9_movePart_108 : decode cX9_movePart 108 = .ok (.iload_n 1, 1) := by decide +kernel
theorem dX9_movePart_109 : decode cX9_movePart 109 = .ok (.istore 4, 2) := by decide +kernel
theorem dX9_movePart_111 : decode cX9_movePart 111 = .ok (.iconst 0, 1) := by decide +kernel
theorem dX9_movePart_112 : decode cX9_movePart 112 = .ok (.istore 5, 2) := by decide +kernel
theorem dX9_movePart_114 : decode cX9_movePart 114 = .ok (.iload 5, 2) := by decide +kernel
theorem dX9_movePart_116 : decode cX9_movePart 116 = .ok (.aload_n 0, 1) := by decide +kernel
theorem dX9_movePart_117 : decode cX9_movePart 117 = .ok (.getfield 175, 3) := by decide +kernel
theorem dX9_movePart_120 : decode cX9_movePart 120 = .ok (.if_icmp .ge 104, 3) := by decide +kernel
theorem dX9_movePart_123 : decode cX9_movePart 123 = .ok (.aload_n 0, 1) := by decide +kernel
theorem dX9_movePart_124 : decode cX9_movePart 124 = .ok (.getfield 65, 3) := by decide +kernel
theorem dX9_movePart_127 : decode cX9_movePart 127 = .ok (.iload 5, 2) := by decide +kernel
theorem dX9_movePart_129 : decode cX9_movePart 129 = .ok (.iaload, 1) := by decide +kernel
theorem dX9_movePart_130 : decode cX9_movePart 130 = .ok (.istore 6, 2) := by decide +kernel
theorem dX9_movePart_132 : decode cX9_movePart 132 = .ok (.aload_n 0, 1) := by decide +kernel
theorem dX9_movePart_133 : decode cX9_movePart 133 = .ok (.getfield 32, 3) := by decide +kernel
theorem dX9_movePart_136 : decode cX9_movePart 136 = .ok (.iload 6, 2) := by decide +kernel
theorem dX9_movePart_138 : decode cX9_movePart 138 = .ok (.iconst 1, 1) := by decide +kernel
theorem dX9_movePart_139 : decode cX9_movePart 139 = .ok (.bastore, 1) := by decide +kernel
theorem dX9_movePart_140 : decode cX9_movePart 140 = .ok (.aload_n 0, 1) := by decide +kernel
theorem dX9_movePart_141 : decode cX9_movePart 141 = .ok (.getfield 35, 3) := by decide +kernel
theorem dX9_movePart_144 : decode cX9_movePart 144 = .ok (.iload 6, 2) := by decide +kernel
theorem dX9_movePart_146 : decode cX9_movePart 146 = .ok (.aload_n 0, 1) := by decide +kernel
theorem dX9_movePart_147 : decode cX9_movePart 147 = .ok (.getfield 74, 3) := by decide +kernel
theorem dX9_movePart_150 : decode cX9_movePart 150 = .ok (.iload 6, 2) := by decide +kernel
theorem dX9_movePart_152 : decode cX9_movePart 152 = .ok (.iaload, 1) := by decide +kernel
theorem dX9_movePart_153 : decode cX9_movePart 153 = .ok (.iload_n 2, 1) := by decide +kernel
theorem dX9_movePart_154 : decode cX9_movePart 154 = .ok (.isub, 1) := by decide +kernel
theorem dX9_movePart_155 : decode cX9_movePart 155 = .ok (.iload_n 1, 1) := by decide +kernel
theorem dX9_movePart_156 : decode cX9_movePart 156 = .ok (.iadd, 1) := by decide +kernel
theorem dX9_movePart_157 : decode cX9_movePart 157 = .ok (.iastore, 1) := by decide +kernel
theorem dX9_movePart_158 : decode cX9_movePart 158 = .ok (.aload_n 0, 1) := by decide +kernel
theorem dX9_movePart_159 : decode cX9_movePart 159 = .ok (.getfield 38, 3) := by decide +kernel
theorem dX9_movePart_162 : decode cX9_movePart 162 = .ok (.iload 6, 2) := by decide +kernel
theorem dX9_movePart_164 : decode cX9_movePart 164 = .ok (.aload_n 0, 1) := by decide +kernel
theorem dX9_movePart_165 : decode cX9_movePart 165 = .ok (.getfield 77, 3) := by decide +kernel
theorem dX9_movePart_168 : decode cX9_movePart 168 = .ok (.iload 6, 2) := by decide +kernel
theorem dX9_movePart_170 : decode cX9_movePart 170 = .ok (.iaload, 1) := by decide +kernel
theorem dX9_movePart_171 : decode cX9_movePart 171 = .ok (.iload_n 3, 1) := by decide +kernel
theorem dX9_movePart_172 : decode cX9_movePart 172 = .ok (.isub, 1) := by decide +kernel
theorem dX9_movePart_173 : decode cX9_movePart 173 = .ok (.iastore, 1) := by decide +kernel
theorem dX9_movePart_174 : decode cX9_movePart 174 = .ok (.aload_n 0, 1) := by decide +kernel
theorem dX9_movePart_175 : decode cX9_movePart 175 = .ok (.getfield 41, 3) := by decide +kernel
theorem dX9_movePart_178 : decode cX9_movePart 178 = .ok (.iload 6, 2) := by decide +kernel
theorem dX9_movePart_180 : decode cX9_movePart 180 = .ok (.aload_n 0, 1) := by decide +kernel
theorem dX9_movePart_181 : decode cX9_movePart 181 = .ok (.getfield 80, 3) := by decide +kernel
theorem dX9_movePart_184 : decode cX9_movePart 184 = .ok (.iload 6, 2) := by decide +kernel
theorem dX9_movePart_186 : decode cX9_movePart 186 = .ok (.iaload, 1) := by decide +kernel
theorem dX9_movePart_187 : decode cX9_movePart 187 = .ok (.iastore, 1) := by decide +kernel
theorem dX9_movePart_188 : decode cX9_movePart 188 = .ok (.aload_n 0, 1) := by decide +kernel
theorem dX9_movePart_189 : decode cX9_movePart 189 = .ok (.getfield 35, 3) := by decide +kernel
theorem dX9_movePart_192 : decode cX9_movePart 192 = .ok (.iload 6, 2) := by decide +kernel
theorem dX9_movePart_194 : decode cX9_movePart 194 = .ok (.iaload, 1) := by decide +kernel
theorem dX9_movePart_195 : decode cX9_movePart 195 = .ok (.iconst 2, 1) := by decide +kernel
theorem dX9_movePart_196 : decode cX9_movePart 196 = .ok (.iadd, 1) := by decide +kernel
theorem dX9_movePart_197 : decode cX9_movePart 197 = .ok (.iload 4, 2) := by decide +kernel
theorem dX9_movePart_199 : decode cX9_movePart 199 = .ok (.if_icmp .le 15, 3) := by decide +kernel
theorem dX9_movePart_202 : decode cX9_movePart 202 = .ok (.aload_n 0, 1) := by decide +kernel
theorem dX9_movePart_203 : decode cX9_movePart 203 = .ok (.getfield 35, 3) := by decide +kernel
theorem dX9_movePart_206 : decode cX9_movePart 206 = .ok (.iload 6, 2) := by decide +kernel
theorem dX9_movePart_208 : decode cX9_movePart 208 = .ok (.iaload, 1) := by decide +kernel
theorem dX9_movePart_209 : decode cX9_movePart 209 = .ok (.iconst 2, 1) := by decide +kernel
theorem dX9_movePart_210 : decode cX9_movePart 210 = .ok (.iadd, 1) := by decide +kernel
theorem dX9_movePart_211 : decode cX9_movePart 211 = .ok (.goto 5, 3) := by decide +kernel
theorem dX9_movePart_214 : decode cX9_movePart 214 = .ok (.iload 4, 2) := by decide +kernel
theorem dX9_movePart_216 : decode cX9_movePart 216 = .ok (.istore 4, 2) := by decide +kernel
theorem dX9_movePart_218 : decode cX9_movePart 218 = .ok (.iinc 5 1, 3) := by decide +kernel
theorem dX9_movePart_221 : decode cX9_movePart 221 = .ok (.goto (-107), 3) := by decide +kernel
theorem dX9_movePart_224 : decode cX9_movePart 224 = .ok (.iload 4, 2) := by decide +kernel
theorem dX9_movePart_226 : decode cX9_movePart 226 = .ok (.ireturn, 1) := by decide +kernel
theorem dX9_load_0 : decode cX9_load 0 = .ok (.iconst 0, 1) := by decide +kernel
theorem dX9_load_1 : decode cX9_load 1 = .ok (.istore_n 1, 1) := by decide +kernel
theorem dX9_load_2 : decode cX9_load 2 = .ok (.iload_n 1, 1) := by decide +kernel
theorem dX9_load_3 : decode cX9_load 3 = .ok (.aload_n 0, 1) := by decide +kernel
theorem dX9_load_4 : decode cX9_load 4 = .ok (.getfield 86, 3) := by decide +kernel
theorem dX9_load_7 : decode cX9_load 7 = .ok (.if_icmp .ge 57, 3) := by decide +kernel
theorem dX9_load_10 : decode cX9_load 10 = .ok (.aload_n 0, 1) := by decide +kernel
theorem dX9_load_11 : decode cX9_load 11 = .ok (.getfield 53, 3) := by decide +kernel
theorem dX9_load_14 : decode cX9_load 14 = .ok (.iload_n 1, 1) := by decide +kernel
theorem dX9_load_15 : decode cX9_load 15 = .ok (.aload_n 0, 1) := by decide +kernel
theorem dX9_load_16 : decode cX9_load 16 = .ok (.getfield 32, 3) := by decide +kernel
theorem dX9_load_19 : decode cX9_load 19 = .ok (.iload_n 1, 1) := by decide +kernel
theorem dX9_load_20 : decode cX9_load 20 = .ok (.baload, 1) := by decide +kernel
theorem dX9_load_21 : decode cX9_load 21 = .ok (.bastore, 1) := by decide +kernel
theorem dX9_load_22 : decode cX9_load 22 = .ok (.aload_n 0, 1) := by decide +kernel
theorem dX9_load_23 : decode cX9_load 23 = .ok (.getfield 56, 3) := by decide +kernel
theorem dX9_load_26 : decode cX9_load 26 = .ok (.iload_n 1, 1) := by decide +kernel
theorem dX9_load_27 : decode cX9_load 27 = .ok (.aload_n 0, 1) := by decide +kernel
theorem dX9_load_28 : decode cX9_load 28 = .ok (.getfield 35, 3) := by decide +kernel
theorem dX9_load_31 : decode cX9_load 31 = .ok (.iload_n 1, 1) := by decide +kernel
theorem dX9_load_32 : decode cX9_load 32 = .ok (.iaload, 1) := by decide +kernel
theorem dX9_load_33 : decode cX9_load 33 = .ok (.iastore, 1) := by decide +kernel
theorem dX9_load_34 : decode cX9_load 34 = .ok (.aload_n 0, 1) := by decide +kernel
theorem dX9_load_35 : decode cX9_load 35 = .ok (.getfield 59, 3) := by decide +kernel
theorem dX9_load_38 : decode cX9_load 38 = .ok (.iload_n 1, 1) := by decide +kernel
theorem dX9_load_39 : decode cX9_load 39 = .ok (.aload_n 0, 1) := by decide +kernel
theorem dX9_load_40 : decode cX9_load 40 = .ok (.getfield 38, 3) := by decide +kernel
theorem dX9_load_43 : decode cX9_load 43 = .ok (.iload_n 1, 1) := by decide +kernel
theorem dX9_load_44 : decode cX9_load 44 = .ok (.iaload, 1) := by decide +kernel
theorem dX9_load_45 : decode cX9_load 45 = .ok (.iastore, 1) := by decide +kernel
theorem dX9_load_46 : decode cX9_load 46 = .ok (.aload_n 0, 1) := by decide +kernel
theorem dX9_load_47 : decode cX9_load 47 = .ok (.getfield 62, 3) := by decide +kernel
theorem dX9_load_50 : decode cX9_load 50 = .ok (.iload_n 1, 1) := by decide +kernel
theorem dX9_load_51 : decode cX9_load 51 = .ok (.aload_n 0, 1) := by decide +kernel
theorem dX9_load_52 : decode cX9_load 52 = .ok (.getfield 41, 3) := by decide +kernel
theorem dX9_load_55 : decode cX9_load 55 = .ok (.iload_n 1, 1) := by decide +kernel
theorem dX9_load_56 : decode cX9_load 56 = .ok (.iaload, 1) := by decide +kernel
theorem dX9_load_57 : decode cX9_load 57 = .ok (.iastore, 1) := by decide +kernel
theorem dX9_load_58 : decode cX9_load 58 = .ok (.iinc 1 1, 3) := by decide +kernel
theorem dX9_load_61 : decode cX9_load 61 = .ok (.goto (-59), 3) := by decide +kernel
theorem dX9_load_64 : decode cX9_load 64 = .ok (.return_, 1) := by decide +kernel
theorem dX9_keep_0 : decode cX9_keep 0 = .ok (.aload_n 0, 1) := by decide +kernel
theorem dX9_keep_1 : decode cX9_keep 1 = .ok (.getfield 32, 3) := by decide +kernel
theorem dX9_keep_4 : decode cX9_keep 4 = .ok (.iload_n 1, 1) := by decide +kernel
theorem dX9_keep_5 : decode cX9_keep 5 = .ok (.iconst 1, 1) := by decide +kernel
theorem dX9_keep_6 : decode cX9_keep 6 = .ok (.bastore, 1) := by decide +kernel
theorem dX9_keep_7 : decode cX9_keep 7 = .ok (.aload_n 0, 1) := by decide +kernel
theorem dX9_keep_8 : decode cX9_keep 8 = .ok (.getfield 35, 3) := by decide +kernel
theorem dX9_keep_11 : decode cX9_keep 11 = .ok (.iload_n 1, 1) := by decide +kernel
theorem dX9_keep_12 : decode cX9_keep 12 = .ok (.aload_n 0, 1) := by decide +kernel
theorem dX9_keep_13 : decode cX9_keep 13 = .ok (.getfield 56, 3) := by decide +kernel
theorem dX9_keep_16 : decode cX9_keep 16 = .ok (.iload_n 1, 1) := by decide +kernel
theorem dX9_keep_17 : decode cX9_keep 17 = .ok (.iaload, 1) := by decide +kernel
theorem dX9_keep_18 : decode cX9_keep 18 = .ok (.iastore, 1) := by decide +kernel
theorem dX9_keep_19 : decode cX9_keep 19 = .ok (.aload_n 0, 1) := by decide +kernel
theorem dX9_keep_20 : decode cX9_keep 20 = .ok (.getfield 38, 3) := by decide +kernel
theorem dX9_keep_23 : decode cX9_keep 23 = .ok (.iload_n 1, 1) := by decide +kernel
theorem dX9_keep_24 : decode cX9_keep 24 = .ok (.aload_n 0, 1) := by decide +kernel
theorem dX9_keep_25 : decode cX9_keep 25 = .ok (.getfield 59, 3) := by decide +kernel
theorem dX9_keep_28 : decode cX9_keep 28 = .ok (.iload_n 1, 1) := by decide +kernel
theorem dX9_keep_29 : decode cX9_keep 29 = .ok (.iaload, 1) := by decide +kernel
theorem dX9_keep_30 : decode cX9_keep 30 = .ok (.iastore, 1) := by decide +kernel
theorem dX9_keep_31 : decode cX9_keep 31 = .ok (.aload_n 0, 1) := by decide +kernel
theorem dX9_keep_32 : decode cX9_keep 32 = .ok (.getfield 41, 3) := by decide +kernel
theorem dX9_keep_35 : decode cX9_keep 35 = .ok (.iload_n 1, 1) := by decide +kernel
theorem dX9_keep_36 : decode cX9_keep 36 = .ok (.aload_n 0, 1) := by decide +kernel
theorem dX9_keep_37 : decode cX9_keep 37 = .ok (.getfield 62, 3) := by decide +kernel
theorem dX9_keep_40 : decode cX9_keep 40 = .ok (.iload_n 1, 1) := by decide +kernel
theorem dX9_keep_41 : decode cX9_keep 41 = .ok (.iaload, 1) := by decide +kernel
theorem dX9_keep_42 : decode cX9_keep 42 = .ok (.iastore, 1) := by decide +kernel
theorem dX9_keep_43 : decode cX9_keep 43 = .ok (.return_, 1) := by decide +kernel
theorem dX9_grow_0 : decode cX9_grow 0 = .ok (.aload_n 0, 1) := by decide +kernel
theorem dX9_grow_1 : decode cX9_grow 1 = .ok (.invokevirtual 215, 3) := by decide +kernel
theorem dX9_grow_4 : decode cX9_grow 4 = .ok (.aload_n 0, 1) := by decide +kernel
theorem dX9_grow_5 : decode cX9_grow 5 = .ok (.iconst 0, 1) := by decide +kernel
theorem dX9_grow_6 : decode cX9_grow 6 = .ok (.putfield 200, 3) := by decide +kernel
theorem dX9_grow_9 : decode cX9_grow 9 = .ok (.iconst 1, 1) := by decide +kernel
theorem dX9_grow_10 : decode cX9_grow 10 = .ok (.istore_n 1, 1) := by decide +kernel
theorem dX9_grow_11 : decode cX9_grow 11 = .ok (.iload_n 1, 1) := by decide +kernel
theorem dX9_grow_12 : decode cX9_grow 12 = .ok (.ifCond .eq 118, 3) := by decide +kernel
theorem dX9_grow_15 : decode cX9_grow 15 = .ok (.iconst 0, 1) := by decide +kernel
theorem dX9_grow_16 : decode cX9_grow 16 = .ok (.istore_n 1, 1) := by decide +kernel
theorem dX9_grow_17 : decode cX9_grow 17 = .ok (.bipush (-2), 2) := by decide +kernel
theorem dX9_grow_19 : decode cX9_grow 19 = .ok (.istore_n 2, 1) := by decide +kernel
theorem dX9_grow_20 : decode cX9_grow 20 = .ok (.iconst 0, 1) := by decide +kernel
theorem dX9_grow_21 : decode cX9_grow 21 = .ok (.istore_n 3, 1) := by decide +kernel
theorem dX9_grow_22 : decode cX9_grow 22 = .ok (.aload_n 0, 1) := by decide +kernel
theorem dX9_grow_23 : decode cX9_grow 23 = .ok (.getfield 86, 3) := by decide +kernel
theorem dX9_grow_26 : decode cX9_grow 26 = .ok (.iconst 1, 1) := by decide +kernel
theorem dX9_grow_27 : decode cX9_grow 27 = .ok (.isub, 1) := by decide +kernel
theorem dX9_grow_28 : decode cX9_grow 28 = .ok (.istore 4, 2) := by decide +kernel
theorem dX9_grow_30 : decode cX9_grow 30 = .ok (.iload 4, 2) := by decide +kernel
theorem dX9_grow_32 : decode cX9_grow 32 = .ok (.ifCond .lt 58, 3) := by decide +kernel
theorem dX9_grow_35 : decode cX9_grow 35 = .ok (.aload_n 0, 1) := by decide +kernel
theorem dX9_grow_36 : decode cX9_grow 36 = .ok (.getfield 53, 3) := by decide +kernel
theorem dX9_grow_39 : decode cX9_grow 39 = .ok (.iload 4, 2) := by decide +kernel
theorem dX9_grow_41 : decode cX9_grow 41 = .ok (.baload, 1) := by decide +kernel
theorem dX9_grow_42 : decode cX9_grow 42 = .ok (.ifCond .ne 42, 3) := by decide +kernel
theorem dX9_grow_45 : decode cX9_grow 45 = .ok (.aload_n 0, 1) := by decide +kernel
theorem dX9_grow_46 : decode cX9_grow 46 = .ok (.iload 4, 2) := by decide +kernel
theorem dX9_grow_48 : decode cX9_grow 48 = .ok (.invokevirtual 221, 3) := by decide +kernel
theorem dX9_grow_51 : decode cX9_grow 51 = .ok (.istore 5, 2) := by decide +kernel
theorem dX9_grow_53 : decode cX9_grow 53 = .ok (.iload 5, 2) := by decide +kernel
theorem dX9_grow_55 : decode cX9_grow 55 = .ok (.ifCond .ne 7, 3) := by decide +kernel
theorem dX9_grow_58 : decode cX9_grow 58 = .ok (.iload_n 3, 1) := by decide +kernel
theorem dX9_grow_59 : decode cX9_grow 59 = .ok (.ifCond .ne 8, 3) := by decide +kernel
theorem dX9_grow_62 : decode cX9_grow 62 = .ok (.iload 4, 2) := by decide +kernel
theorem dX9_grow_64 : decode cX9_grow 64 = .ok (.goto 4, 3) := by decide +kernel
theorem dX9_grow_67 : decode cX9_grow 67 = .ok (.iload_n 2, 1) := by decide +kernel
theorem dX9_grow_68 : decode cX9_grow 68 = .ok (.istore_n 2, 1) := by decide +kernel
theorem dX9_grow_69 : decode cX9_grow 69 = .ok (.iload_n 3, 1) := by decide +kernel
theorem dX9_grow_70 : decode cX9_grow 70 = .ok (.ifCond .ne 8, 3) := by decide +kernel
theorem dX9_grow_73 : decode cX9_grow 73 = .ok (.iload 5, 2) := by decide +kernel
theorem dX9_grow_75 : decode cX9_grow 75 = .ok (.ifCond .eq 7, 3) := by decide +kernel
theorem dX9_grow_78 : decode cX9_grow 78 = .ok (.iconst 1, 1) := by decide +kernel
theorem dX9_grow_79 : decode cX9_grow 79 = .ok (.goto 4, 3) := by decide +kernel
theorem dX9_grow_82 : decode cX9_grow 82 = .ok (.iconst 0, 1) := by decide +kernel
theorem dX9_grow_83 : decode cX9_grow 83 = .ok (.istore_n 3, 1) := by decide +kernel
theorem dX9_grow_84 : decode cX9_grow 84 = .ok (.iinc 4 (-1), 3) := by decide +kernel
theorem dX9_grow_87 : decode cX9_grow 87 = .ok (.goto (-57), 3) := by decide +kernel
theorem dX9_grow_90 : decode cX9_grow 90 = .ok (.iload_n 2, 1) := by decide +kernel
theorem dX9_grow_91 : decode cX9_grow 91 = .ok (.ifCond .lt 36, 3) := by decide +kernel
theorem dX9_grow_94 : decode cX9_grow 94 = .ok (.iconst 1, 1) := by decide +kernel
theorem dX9_grow_95 : decode cX9_grow 95 = .ok (.istore_n 1, 1) := by decide +kernel
theorem dX9_grow_96 : decode cX9_grow 96 = .ok (.iload_n 3, 1) := by decide +kernel
theorem dX9_grow_97 : decode cX9_grow 97 = .ok (.ifCond .eq 14, 3) := by decide +kernel
theorem dX9_grow_100 : decode cX9_grow 100 = .ok (.aload_n 0, 1) := by decide +kernel
theorem dX9_grow_101 : decode cX9_grow 101 = .ok (.iload_n 2, 1) := by decide +kernel
theorem dX9_grow_102 : decode cX9_grow 102 = .ok (.iconst 0, 1) := by decide +kernel
theorem dX9_grow_103 : decode cX9_grow 103 = .ok (.invokevirtual 194, 3) := by decide +kernel
theorem dX9_grow_106 : decode cX9_grow 106 = .ok (.istore 4, 2) := by decide +kernel
theorem dX9_grow_108 : decode cX9_grow 108 = .ok (.goto 14, 3) := by decide +kernel
theorem dX9_grow_111 : decode cX9_grow 111 = .ok (.aload_n 0, 1) := by decide +kernel
theorem dX9_grow_112 : decode cX9_grow 112 = .ok (.iload_n 2, 1) := by decide +kernel
theorem dX9_grow_113 : decode cX9_grow 113 = .ok (.aload_n 0, 1) := by decide +kernel
theorem dX9_grow_114 : decode cX9_grow 114 = .ok (.invokevirtual 224, 3) := by decide +kernel
theorem dX9_grow_117 : decode cX9_grow 117 = .ok (.iconst 0, 1) := by decide +kernel
theorem dX9_grow_118 : decode cX9_grow 118 = .ok (.iconst 0, 1) := by decide +kernel
theorem dX9_grow_119 : decode cX9_grow 119 = .ok (.invokevirtual 171, 3) := by decide +kernel
theorem dX9_grow_122 : decode cX9_grow 122 = .ok (.aload_n 0, 1) := by decide +kernel
theorem dX9_grow_123 : decode cX9_grow 123 = .ok (.iload_n 2, 1) := by decide +kernel
theorem dX9_grow_124 : decode cX9_grow 124 = .ok (.invokevirtual 227, 3) := by decide +kernel
theorem dX9_grow_127 : decode cX9_grow 127 = .ok (.goto (-116), 3) := by decide +kernel
theorem dX9_grow_130 : decode cX9_grow 130 = .ok (.aload_n 0, 1) := by decide +kernel
theorem dX9_grow_131 : decode cX9_grow 131 = .ok (.invokevirtual 218, 3) := by decide +kernel
theorem dX9_grow_134 : decode cX9_grow 134 = .ok (.ireturn, 1) := by decide +kernel
theorem dX9_isJoined_0 : decode cX9_isJoined 0 = .ok (.iconst 0, 1) := by decide +kernel
theorem dX9_isJoined_1 : decode cX9_isJoined 1 = .ok (.istore_n 2, 1) := by decide +kernel
theorem dX9_isJoined_2 : decode cX9_isJoined 2 = .ok (.iconst 0, 1) := by decide +kernel
theorem dX9_isJoined_3 : decode cX9_isJoined 3 = .ok (.istore_n 3, 1) := by decide +kernel
theorem dX9_isJoined_4 : decode cX9_isJoined 4 = .ok (.iload_n 3, 1) := by decide +kernel
theorem dX9_isJoined_5 : decode cX9_isJoined 5 = .ok (.aload_n 0, 1) := by decide +kernel
theorem dX9_isJoined_6 : decode cX9_isJoined 6 = .ok (.getfield 94, 3) := by decide +kernel
theorem dX9_isJoined_9 : decode cX9_isJoined 9 = .ok (.if_icmp .ge 67, 3) := by decide +kernel
theorem dX9_isJoined_12 : decode cX9_isJoined 12 = .ok (.iload_n 2, 1) := by decide +kernel
theorem dX9_isJoined_13 : decode cX9_isJoined 13 = .ok (.ifCond .ne 51, 3) := by decide +kernel
theorem dX9_isJoined_16 : decode cX9_isJoined 16 = .ok (.aload_n 0, 1) := by decide +kernel
theorem dX9_isJoined_17 : decode cX9_isJoined 17 = .ok (.getfield 19, 3) := by decide +kernel
theorem dX9_isJoined_20 : decode cX9_isJoined 20 = .ok (.iload_n 3, 1) := by decide +kernel
theorem dX9_isJoined_21 : decode cX9_isJoined 21 = .ok (.iaload, 1) := by decide +kernel
theorem dX9_isJoined_22 : decode cX9_isJoined 22 = .ok (.iload_n 1, 1) := by decide +kernel
theorem dX9_isJoined_23 : decode cX9_isJoined 23 = .ok (.if_icmp .ne 17, 3) := by decide +kernel
theorem dX9_isJoined_26 : decode cX9_isJoined 26 = .ok (.aload_n 0, 1) := by decide +kernel
theorem dX9_isJoined_27 : decode cX9_isJoined 27 = .ok (.getfield 53, 3) := by decide +kernel
theorem dX9_isJoined_30 : decode cX9_isJoined 30 = .ok (.aload_n 0, 1) := by decide +kernel
theorem dX9_isJoined_31 : decode cX9_isJoined 31 = .ok (.getfield 25, 3) := by decide +kernel
theorem dX9_isJoined_34 : decode cX9_isJoined 34 = .ok (.iload_n 3, 1) := by decide +kernel
theorem dX9_isJoined_35 : decode cX9_isJoined 35 = .ok (.iaload, 1) := by decide +kernel
theorem dX9_isJoined_36 : decode cX9_isJoined 36 = .ok (.baload, 1) := by decide +kernel
theorem dX9_isJoined_37 : decode cX9_isJoined 37 = .ok (.ifCond .ne 27, 3) := by decide +kernel
theorem dX9_isJoined_40 : decode cX9_isJoined 40 = .ok (.aload_n 0, 1) := by decide +kernel
theorem dX9_isJoined_41 : decode cX9_isJoined 41 = .ok (.getfield 25, 3) := by decide +kernel
theorem dX9_isJoined_44 : decode cX9_isJoined 44 = .ok (.iload_n 3, 1) := by decide +kernel
theorem dX9_isJoined_45 : decode cX9_isJoined 45 = .ok (.iaload, 1) := by decide +kernel
theorem dX9_isJoined_46 : decode cX9_isJoined 46 = .ok (.iload_n 1, 1) := by decide +kernel
theorem dX9_isJoined_47 : decode cX9_isJoined 47 = .ok (.if_icmp .ne 21, 3) := by decide +kernel
theorem dX9_isJoined_50 : decode cX9_isJoined 50 = .ok (.aload_n 0, 1) := by decide +kernel
theorem dX9_isJoined_51 : decode cX9_isJoined 51 = .ok (.getfield 53, 3) := by decide +kernel
theorem dX9_isJoined_54 : decode cX9_isJoined 54 = .ok (.aload_n 0, 1) := by decide +kernel
theorem dX9_isJoined_55 : decode cX9_isJoined 55 = .ok (.getfield 19, 3) := by decide +kernel
theorem dX9_isJoined_58 : decode cX9_isJoined 58 = .ok (.iload_n 3, 1) := by decide +kernel
theorem dX9_isJoined_59 : decode cX9_isJoined 59 = .ok (.iaload, 1) := by decide +kernel
theorem dX9_isJoined_60 : decode cX9_isJoined 60 = .ok (.baload, 1) := by decide +kernel
theorem dX9_isJoined_61 : decode cX9_isJoined 61 = .ok (.ifCond .eq 7, 3) := by decide +kernel
theorem dX9_isJoined_64 : decode cX9_isJoined 64 = .ok (.iconst 1, 1) := by decide +kernel
theorem dX9_isJoined_65 : decode cX9_isJoined 65 = .ok (.goto 4, 3) := by decide +kernel
theorem dX9_isJoined_68 : decode cX9_isJoined 68 = .ok (.iconst 0, 1) := by decide +kernel
theorem dX9_isJoined_69 : decode cX9_isJoined 69 = .ok (.istore_n 2, 1) := by decide +kernel
theorem dX9_isJoined_70 : decode cX9_isJoined 70 = .ok (.iinc 3 1, 3) := by decide +kernel
theorem dX9_isJoined_73 : decode cX9_isJoined 73 = .ok (.goto (-69), 3) := by decide +kernel
theorem dX9_isJoined_76 : decode cX9_isJoined 76 = .ok (.iload_n 2, 1) := by decide +kernel
theorem dX9_isJoined_77 : decode cX9_isJoined 77 = .ok (.ireturn, 1) := by decide +kernel
theorem dX9_eastmost_0 : decode cX9_eastmost 0 = .ok (.bipush (-2), 2) := by decide +kernel
theorem dX9_eastmost_2 : decode cX9_eastmost 2 = .ok (.istore_n 1, 1) := by decide +kernel
theorem dX9_eastmost_3 : decode cX9_eastmost 3 = .ok (.iconst 0, 1) := by decide +kernel
theorem dX9_eastmost_4 : decode cX9_eastmost 4 = .ok (.istore_n 2, 1) := by decide +kernel
theorem dX9_eastmost_5 : decode cX9_eastmost 5 = .ok (.iconst 0, 1) := by decide +kernel
theorem dX9_eastmost_6 : decode cX9_eastmost 6 = .ok (.istore_n 3, 1) := by decide +kernel
theorem dX9_eastmost_7 : decode cX9_eastmost 7 = .ok (.iload_n 3, 1) := by decide +kernel
theorem dX9_eastmost_8 : decode cX9_eastmost 8 = .ok (.aload_n 0, 1) := by decide +kernel
theorem dX9_eastmost_9 : decode cX9_eastmost 9 = .ok (.getfield 86, 3) := by decide +kernel
theorem dX9_eastmost_12 : decode cX9_eastmost 12 = .ok (.if_icmp .ge 45, 3) := by decide +kernel
theorem dX9_eastmost_15 : decode cX9_eastmost 15 = .ok (.aload_n 0, 1) := by decide +kernel
theorem dX9_eastmost_16 : decode cX9_eastmost 16 = .ok (.getfield 53, 3) := by decide +kernel
theorem dX9_eastmost_19 : decode cX9_eastmost 19 = .ok (.iload_n 3, 1) := by decide +kernel
theorem dX9_eastmost_20 : decode cX9_eastmost 20 = .ok (.baload, 1) := by decide +kernel
theorem dX9_eastmost_21 : decode cX9_eastmost 21 = .ok (.ifCond .eq 30, 3) := by decide +kernel
theorem dX9_eastmost_24 : decode cX9_eastmost 24 = .ok (.iload_n 2, 1) := by decide +kernel
theorem dX9_eastmost_25 : decode cX9_eastmost 25 = .ok (.ifCond .eq 13, 3) := by decide +kernel
theorem dX9_eastmost_28 : decode cX9_eastmost 28 = .ok (.aload_n 0, 1) := by decide +kernel
theorem dX9_eastmost_29 : decode cX9_eastmost 29 = .ok (.getfield 56, 3) := by decide +kernel
theorem dX9_eastmost_32 : decode cX9_eastmost 32 = .ok (.iload_n 3, 1) := by decide +kernel
theorem dX9_eastmost_33 : decode cX9_eastmost 33 = .ok (.iaload, 1) := by decide +kernel
theorem dX9_eastmost_34 : decode cX9_eastmost 34 = .ok (.iload_n 1, 1) := by decide +kernel
theorem dX9_eastmost_35 : decode cX9_eastmost 35 = .ok (.if_icmp .le 12, 3) := by decide +kernel
theorem dX9_eastmost_38 : decode cX9_eastmost 38 = .ok (.aload_n 0, 1) := by decide +kernel
theorem dX9_eastmost_39 : decode cX9_eastmost 39 = .ok (.getfield 56, 3) := by decide +kernel
theorem dX9_eastmost_42 : decode cX9_eastmost 42 = .ok (.iload_n 3, 1) := by decide +kernel
theorem dX9_eastmost_43 : decode cX9_eastmost 43 = .ok (.iaload, 1) := by decide +kernel
theorem dX9_eastmost_44 : decode cX9_eastmost 44 = .ok (.goto 4, 3) := by decide +kernel
theorem dX9_eastmost_47 : decode cX9_eastmost 47 = .ok (.iload_n 1, 1) := by decide +kernel
theorem dX9_eastmost_48 : decode cX9_eastmost 48 = .ok (.istore_n 1, 1) := by decide +kernel
theorem dX9_eastmost_49 : decode cX9_eastmost 49 = .ok (.iconst 1, 1) := by decide +kernel
theorem dX9_eastmost_50 : decode cX9_eastmost 50 = .ok (.istore_n 2, 1) := by decide +kernel
theorem dX9_eastmost_51 : decode cX9_eastmost 51 = .ok (.iinc 3 1, 3) := by decide +kernel
theorem dX9_eastmost_54 : decode cX9_eastmost 54 = .ok (.goto (-47), 3) := by decide +kernel
theorem dX9_eastmost_57 : decode cX9_eastmost 57 = .ok (.iload_n 2, 1) := by decide +kernel
theorem dX9_eastmost_58 : decode cX9_eastmost 58 = .ok (.ifCond .eq 9, 3) := by decide +kernel
theorem dX9_eastmost_61 : decode cX9_eastmost 61 = .ok (.iload_n 1, 1) := by decide +kernel
theorem dX9_eastmost_62 : decode cX9_eastmost 62 = .ok (.iconst 2, 1) := by decide +kernel
theorem dX9_eastmost_63 : decode cX9_eastmost 63 = .ok (.iadd, 1) := by decide +kernel
theorem dX9_eastmost_64 : decode cX9_eastmost 64 = .ok (.goto 4, 3) := by decide +kernel
theorem dX9_eastmost_67 : decode cX9_eastmost 67 = .ok (.iconst 0, 1) := by decide +kernel
theorem dX9_eastmost_68 : decode cX9_eastmost 68 = .ok (.ireturn, 1) := by decide +kernel
theorem dX9_least_0 : decode cX9_least 0 = .ok (.iload_n 1, 1) := by decide +kernel
theorem dX9_least_1 : decode cX9_least 1 = .ok (.iconst 0, 1) := by decide +kernel
theorem dX9_least_2 : decode cX9_least 2 = .ok (.bipush 23, 2) := by decide +kernel
theorem dX9_least_4 : decode cX9_least 4 = .ok (.invokestatic 90, 3) := by decide +kernel
theorem dX9_least_7 : decode cX9_least 7 = .ok (.ifCond .ne 7, 3) := by decide +kernel
theorem dX9_least_10 : decode cX9_least 10 = .ok (.iconst (-1), 1) := by decide +kernel
theorem dX9_least_11 : decode cX9_least 11 = .ok (.goto 30, 3) := by decide +kernel
theorem dX9_least_14 : decode cX9_least 14 = .ok (.iload_n 1, 1) := by decide +kernel
theorem dX9_least_15 : decode cX9_least 15 = .ok (.aload_n 0, 1) := by decide +kernel
theorem dX9_least_16 : decode cX9_least 16 = .ok (.getfield 200, 3) := by decide +kernel
theorem dX9_least_19 : decode cX9_least 19 = .ok (.if_icmp .lt 8, 3) := by decide +kernel
theorem dX9_least_22 : decode cX9_least 22 = .ok (.bipush (-2), 2) := by decide +kernel
theorem dX9_least_24 : decode cX9_least 24 = .ok (.goto 17, 3) := by decide +kernel
theorem dX9_least_27 : decode cX9_least 27 = .ok (.aload_n 0, 1) := by decide +kernel
theorem dX9_least_28 : decode cX9_least 28 = .ok (.getfield 44, 3) := by decide +kernel
theorem dX9_least_31 : decode cX9_least 31 = .ok (.iload_n 1, 1) := by decide +kernel
theorem dX9_least_32 : decode cX9_least 32 = .ok (.baload, 1) := by decide +kernel
theorem dX9_least_33 : decode cX9_least 33 = .ok (.ifCond .eq 7, 3) := by decide +kernel
theorem dX9_least_36 : decode cX9_least 36 = .ok (.iconst 1, 1) := by decide +kernel
theorem dX9_least_37 : decode cX9_least 37 = .ok (.goto 4, 3) := by decide +kernel
theorem dX9_least_40 : decode cX9_least 40 = .ok (.iconst 0, 1) := by decide +kernel
theorem dX9_least_41 : decode cX9_least 41 = .ok (.ireturn, 1) := by decide +kernel
theorem dX9_steps_0 : decode cX9_steps 0 = .ok (.aload_n 0, 1) := by decide +kernel
theorem dX9_steps_1 : decode cX9_steps 1 = .ok (.getfield 197, 3) := by decide +kernel
theorem dX9_steps_4 : decode cX9_steps 4 = .ok (.ireturn, 1) := by decide +kernel
theorem dX9_place_0 : decode cX9_place 0 = .ok (.aload_n 0, 1) := by decide +kernel
theorem dX9_place_1 : decode cX9_place 1 = .ok (.iload_n 1, 1) := by decide +kernel
theorem dX9_place_2 : decode cX9_place 2 = .ok (.invokevirtual 101, 3) := by decide +kernel
theorem dX9_place_5 : decode cX9_place 5 = .ok (.ifCond .eq 12, 3) := by decide +kernel
theorem dX9_place_8 : decode cX9_place 8 = .ok (.iload_n 2, 1) := by decide +kernel
theorem dX9_place_9 : decode cX9_place 9 = .ok (.iconst 0, 1) := by decide +kernel
theorem dX9_place_10 : decode cX9_place 10 = .ok (.iconst 2, 1) := by decide +kernel
theorem dX9_place_11 : decode cX9_place 11 = .ok (.invokestatic 90, 3) := by decide +kernel
theorem dX9_place_14 : decode cX9_place 14 = .ok (.ifCond .ne 7, 3) := by decide +kernel
theorem dX9_place_17 : decode cX9_place 17 = .ok (.sipush (-1001), 3) := by decide +kernel
theorem dX9_place_20 : decode cX9_place 20 = .ok (.ireturn, 1) := by decide +kernel
theorem dX9_place_21 : decode cX9_place 21 = .ok (.aload_n 0, 1) := by decide +kernel
theorem dX9_place_22 : decode cX9_place 22 = .ok (.getfield 32, 3) := by decide +kernel
theorem dX9_place_25 : decode cX9_place 25 = .ok (.iload_n 1, 1) := by decide +kernel
theorem dX9_place_26 : decode cX9_place 26 = .ok (.baload, 1) := by decide +kernel
theorem dX9_place_27 : decode cX9_place 27 = .ok (.ifCond .ne 9, 3) := by decide +kernel
theorem dX9_place_30 : decode cX9_place 30 = .ok (.sipush (-1002), 3) := by decide +kernel
theorem dX9_place_33 : decode cX9_place 33 = .ok (.goto 36, 3) := by decide +kernel
theorem dX9_place_36 : decode cX9_place 36 = .ok (.iload_n 2, 1) := by decide +kernel
theorem dX9_place_37 : decode cX9_place 37 = .ok (.ifCond .ne 12, 3) := by decide +kernel
theorem dX9_place_40 : decode cX9_place 40 = .ok (.aload_n 0, 1) := by decide +kernel
theorem dX9_place_41 : decode cX9_place 41 = .ok (.getfield 35, 3) := by decide +kernel
theorem dX9_place_44 : decode cX9_place 44 = .ok (.iload_n 1, 1) := by decide +kernel
theorem dX9_place_45 : decode cX9_place 45 = .ok (.iaload, 1) := by decide +kernel
theorem dX9_place_46 : decode cX9_place 46 = .ok (.goto 23, 3) := by decide +kernel
theorem dX9_place_49 : decode cX9_place 49 = .ok (.iload_n 2, 1) := by decide +kernel
theorem dX9_place_50 : decode cX9_place 50 = .ok (.iconst 1, 1) := by decide +kernel
theorem dX9_place_51 : decode cX9_place 51 = .ok (.if_icmp .ne 12, 3) := by decide +kernel
theorem dX9_place_54 : decode cX9_place 54 = .ok (.aload_n 0, 1) := by decide +kernel
theorem dX9_place_55 : decode cX9_place 55 = .ok (.getfield 38, 3) := by decide +kernel
theorem dX9_place_58 : decode cX9_place 58 = .ok (.iload_n 1, 1) := by decide +kernel
theorem dX9_place_59 : decode cX9_place 59 = .ok (.iaload, 1) := by decide +kernel
theorem dX9_place_60 : decode cX9_place 60 = .ok (.goto 9, 3) := by decide +kernel
theorem dX9_place_63 : decode cX9_place 63 = .ok (.aload_n 0, 1) := by decide +kernel
theorem dX9_place_64 : decode cX9_place 64 = .ok (.getfield 41, 3) := by decide +kernel
theorem dX9_place_67 : decode cX9_place 67 = .ok (.iload_n 1, 1) := by decide +kernel
theorem dX9_place_68 : decode cX9_place 68 = .ok (.iaload, 1) := by decide +kernel
theorem dX9_place_69 : decode cX9_place 69 = .ok (.ireturn, 1) := by decide +kernel
theorem dX9_straight_0 : decode cX9_straight 0 = .ok (.aload_n 0, 1) := by decide +kernel
theorem dX9_straight_1 : decode cX9_straight 1 = .ok (.iload_n 1, 1) := by decide +kernel
theorem dX9_straight_2 : decode cX9_straight 2 = .ok (.invokevirtual 113, 3) := by decide +kernel
theorem dX9_straight_5 : decode cX9_straight 5 = .ok (.ifCond .ne 5, 3) := by decide +kernel
theorem dX9_straight_8 : decode cX9_straight 8 = .ok (.iconst (-1), 1) := by decide +kernel
theorem dX9_straight_9 : decode cX9_straight 9 = .ok (.ireturn, 1) := by decide +kernel
theorem dX9_straight_10 : decode cX9_straight 10 = .ok (.aload_n 0, 1) := by decide +kernel
theorem dX9_straight_11 : decode cX9_straight 11 = .ok (.getfield 32, 3) := by decide +kernel
theorem dX9_straight_14 : decode cX9_straight 14 = .ok (.aload_n 0, 1) := by decide +kernel
theorem dX9_straight_15 : decode cX9_straight 15 = .ok (.getfield 19, 3) := by decide +kernel
theorem dX9_straight_18 : decode cX9_straight 18 = .ok (.iload_n 1, 1) := by decide +kernel
theorem dX9_straight_19 : decode cX9_straight 19 = .ok (.iaload, 1) := by decide +kernel
theorem dX9_straight_20 : decode cX9_straight 20 = .ok (.baload, 1) := by decide +kernel
theorem dX9_straight_21 : decode cX9_straight 21 = .ok (.ifCond .eq 17, 3) := by decide +kernel
theorem dX9_straight_24 : decode cX9_straight 24 = .ok (.aload_n 0, 1) := by decide +kernel
theorem dX9_straight_25 : decode cX9_straight 25 = .ok (.getfield 32, 3) := by decide +kernel
theorem dX9_straight_28 : decode cX9_straight 28 = .ok (.aload_n 0, 1) := by decide +kernel
theorem dX9_straight_29 : decode cX9_straight 29 = .ok (.getfield 25, 3) := by decide +kernel
theorem dX9_straight_32 : decode cX9_straight 32 = .ok (.iload_n 1, 1) := by decide +kernel
theorem dX9_straight_33 : decode cX9_straight 33 = .ok (.iaload, 1) := by decide +kernel
theorem dX9_straight_34 : decode cX9_straight 34 = .ok (.baload, 1) := by decide +kernel
theorem dX9_straight_35 : decode cX9_straight 35 = .ok (.ifCond .ne 6, 3) := by decide +kernel
theorem dX9_straight_38 : decode cX9_straight 38 = .ok (.bipush (-3), 2) := by decide +kernel
theorem dX9_straight_40 : decode cX9_straight 40 = .ok (.ireturn, 1) := by decide +kernel
theorem dX9_straight_41 : decode cX9_straight 41 = .ok (.aload_n 0, 1) := by decide +kernel
theorem dX9_straight_42 : decode cX9_straight 42 = .ok (.invokevirtual 215, 3) := by decide +kernel
theorem dX9_straight_45 : decode cX9_straight 45 = .ok (.aload_n 0, 1) := by decide +kernel
theorem dX9_straight_46 : decode cX9_straight 46 = .ok (.iload_n 1, 1) := by decide +kernel
theorem dX9_straight_47 : decode cX9_straight 47 = .ok (.invokevirtual 145, 3) := by decide +kernel
theorem dX9_straight_50 : decode cX9_straight 50 = .ok (.ifCond .eq 7, 3) := by decide +kernel
theorem dX9_straight_53 : decode cX9_straight 53 = .ok (.iconst 0, 1) := by decide +kernel
theorem dX9_straight_54 : decode cX9_straight 54 = .ok (.goto 8, 3) := by decide +kernel
theorem dX9_straight_57 : decode cX9_straight 57 = .ok (.aload_n 0, 1) := by decide +kernel
theorem dX9_straight_58 : decode cX9_straight 58 = .ok (.iload_n 1, 1) := by decide +kernel
theorem dX9_straight_59 : decode cX9_straight 59 = .ok (.invokevirtual 148, 3) := by decide +kernel
theorem dX9_straight_62 : decode cX9_straight 62 = .ok (.istore_n 2, 1) := by decide +kernel
theorem dX9_straight_63 : decode cX9_straight 63 = .ok (.aload_n 0, 1) := by decide +kernel
theorem dX9_straight_64 : decode cX9_straight 64 = .ok (.iload_n 1, 1) := by decide +kernel
theorem dX9_straight_65 : decode cX9_straight 65 = .ok (.invokevirtual 145, 3) := by decide +kernel
theorem dX9_straight_68 : decode cX9_straight 68 = .ok (.ifCond .eq 7, 3) := by decide +kernel
theorem dX9_straight_71 : decode cX9_straight 71 = .ok (.iconst 0, 1) := by decide +kernel
theorem dX9_straight_72 : decode cX9_straight 72 = .ok (.goto 13, 3) := by decide +kernel
theorem dX9_straight_75 : decode cX9_straight 75 = .ok (.iload_n 2, 1) := by decide +kernel
theorem dX9_straight_76 : decode cX9_straight 76 = .ok (.ifCond .ne 8, 3) := by decide +kernel
theorem dX9_straight_79 : decode cX9_straight 79 = .ok (.bipush (-2), 2) := by decide +kernel
theorem dX9_straight_81 : decode cX9_straight 81 = .ok (.goto 4, 3) := by decide +kernel
theorem dX9_straight_84 : decode cX9_straight 84 = .ok (.iload_n 2, 1) := by decide +kernel
theorem dX9_straight_85 : decode cX9_straight 85 = .ok (.ireturn, 1) := by decide +kernel
theorem dX9_cost_0 : decode cX9_cost 0 = .ok (.aload_n 0, 1) := by decide +kernel
theorem dX9_cost_1 : decode cX9_cost 1 = .ok (.invokevirtual 215, 3) := by decide +kernel
theorem dX9_cost_4 : decode cX9_cost 4 = .ok (.aload_n 0, 1) := by decide +kernel
theorem dX9_cost_5 : decode cX9_cost 5 = .ok (.invokevirtual 181, 3) := by decide +kernel
theorem dX9_cost_8 : decode cX9_cost 8 = .ok (.ireturn, 1) := by decide +kernel
theorem dX9_findDistances_0 : decode cX9_findDistances 0 = .ok (.iconst 0, 1) := by decide +kernel
theorem dX9_findDistances_1 : decode cX9_findDistances 1 = .ok (.istore_n 2, 1) := by decide +kernel
end
section
theorem dX9_findDistances_2 : decode cX9_findDistances 2 = .ok (.iload_n 2, 1) := by decide +kernel
theorem dX9_findDistances_3 : decode cX9_findDistances 3 = .ok (.aload_n 0, 1) := by decide +kernel
theorem dX9_findDistances_4 : decode cX9_findDistances 4 = .ok (.getfield 86, 3) := by decide +kernel
theorem dX9_findDistances_7 : decode cX9_findDistances 7 = .ok (.if_icmp .ge 26, 3) := by decide +kernel
theorem dX9_findDistances_10 : decode cX9_findDistances 10 = .ok (.aload_n 0, 1) := by decide +kernel
theorem dX9_findDistances_11 : decode cX9_findDistances 11 = .ok (.getfield 83, 3) := by decide +kernel
theorem dX9_findDistances_14 : decode cX9_findDistances 14 = .ok (.iload_n 2, 1) := by decide +kernel
theorem dX9_findDistances_15 : decode cX9_findDistances 15 = .ok (.iload_n 2, 1) := by decide +kernel
theorem dX9_findDistances_16 : decode cX9_findDistances 16 = .ok (.iload_n 1, 1) := by decide +kernel
theorem dX9_findDistances_17 : decode cX9_findDistances 17 = .ok (.if_icmp .ne 7, 3) := by decide +kernel
theorem dX9_findDistances_20 : decode cX9_findDistances 20 = .ok (.iconst 0, 1) := by decide +kernel
theorem dX9_findDistances_21 : decode cX9_findDistances 21 = .ok (.goto 5, 3) := by decide +kernel
theorem dX9_findDistances_24 : decode cX9_findDistances 24 = .ok (.bipush 99, 2) := by decide +kernel
theorem dX9_findDistances_26 : decode cX9_findDistances 26 = .ok (.iastore, 1) := by decide +kernel
theorem dX9_findDistances_27 : decode cX9_findDistances 27 = .ok (.iinc 2 1, 3) := by decide +kernel
theorem dX9_findDistances_30 : decode cX9_findDistances 30 = .ok (.goto (-28), 3) := by decide +kernel
theorem dX9_findDistances_33 : decode cX9_findDistances 33 = .ok (.iconst 1, 1) := by decide +kernel
theorem dX9_findDistances_34 : decode cX9_findDistances 34 = .ok (.istore_n 2, 1) := by decide +kernel
theorem dX9_findDistances_35 : decode cX9_findDistances 35 = .ok (.iload_n 2, 1) := by decide +kernel
theorem dX9_findDistances_36 : decode cX9_findDistances 36 = .ok (.ifCond .eq 123, 3) := by decide +kernel
theorem dX9_findDistances_39 : decode cX9_findDistances 39 = .ok (.iconst 0, 1) := by decide +kernel
theorem dX9_findDistances_40 : decode cX9_findDistances 40 = .ok (.istore_n 2, 1) := by decide +kernel
theorem dX9_findDistances_41 : decode cX9_findDistances 41 = .ok (.iconst 0, 1) := by decide +kernel
theorem dX9_findDistances_42 : decode cX9_findDistances 42 = .ok (.istore_n 3, 1) := by decide +kernel
theorem dX9_findDistances_43 : decode cX9_findDistances 43 = .ok (.iload_n 3, 1) := by decide +kernel
theorem dX9_findDistances_44 : decode cX9_findDistances 44 = .ok (.aload_n 0, 1) := by decide +kernel
theorem dX9_findDistances_45 : decode cX9_findDistances 45 = .ok (.getfield 94, 3) := by decide +kernel
theorem dX9_findDistances_48 : decode cX9_findDistances 48 = .ok (.if_icmp .ge 108, 3) := by decide +kernel
theorem dX9_findDistances_51 : decode cX9_findDistances 51 = .ok (.aload_n 0, 1) := by decide +kernel
theorem dX9_findDistances_52 : decode cX9_findDistances 52 = .ok (.getfield 19, 3) := by decide +kernel
theorem dX9_findDistances_55 : decode cX9_findDistances 55 = .ok (.iload_n 3, 1) := by decide +kernel
theorem dX9_findDistances_56 : decode cX9_findDistances 56 = .ok (.iaload, 1) := by decide +kernel
theorem dX9_findDistances_57 : decode cX9_findDistances 57 = .ok (.istore 4, 2) := by decide +kernel
theorem dX9_findDistances_59 : decode cX9_findDistances 59 = .ok (.aload_n 0, 1) := by decide +kernel
theorem dX9_findDistances_60 : decode cX9_findDistances 60 = .ok (.getfield 25, 3) := by decide +kernel
theorem dX9_findDistances_63 : decode cX9_findDistances 63 = .ok (.iload_n 3, 1) := by decide +kernel
theorem dX9_findDistances_64 : decode cX9_findDistances 64 = .ok (.iaload, 1) := by decide +kernel
theorem dX9_findDistances_65 : decode cX9_findDistances 65 = .ok (.istore 5, 2) := by decide +kernel
theorem dX9_findDistances_67 : decode cX9_findDistances 67 = .ok (.aload_n 0, 1) := by decide +kernel
theorem dX9_findDistances_68 : decode cX9_findDistances 68 = .ok (.getfield 83, 3) := by decide +kernel
theorem dX9_findDistances_71 : decode cX9_findDistances 71 = .ok (.iload 5, 2) := by decide +kernel
theorem dX9_findDistances_73 : decode cX9_findDistances 73 = .ok (.iaload, 1) := by decide +kernel
theorem dX9_findDistances_74 : decode cX9_findDistances 74 = .ok (.iconst 1, 1) := by decide +kernel
theorem dX9_findDistances_75 : decode cX9_findDistances 75 = .ok (.iadd, 1) := by decide +kernel
theorem dX9_findDistances_76 : decode cX9_findDistances 76 = .ok (.aload_n 0, 1) := by decide +kernel
theorem dX9_findDistances_77 : decode cX9_findDistances 77 = .ok (.getfield 83, 3) := by decide +kernel
theorem dX9_findDistances_80 : decode cX9_findDistances 80 = .ok (.iload 4, 2) := by decide +kernel
theorem dX9_findDistances_82 : decode cX9_findDistances 82 = .ok (.iaload, 1) := by decide +kernel
theorem dX9_findDistances_83 : decode cX9_findDistances 83 = .ok (.if_icmp .ge 21, 3) := by decide +kernel
theorem dX9_findDistances_86 : decode cX9_findDistances 86 = .ok (.aload_n 0, 1) := by decide +kernel
theorem dX9_findDistances_87 : decode cX9_findDistances 87 = .ok (.getfield 83, 3) := by decide +kernel
theorem dX9_findDistances_90 : decode cX9_findDistances 90 = .ok (.iload 4, 2) := by decide +kernel
theorem dX9_findDistances_92 : decode cX9_findDistances 92 = .ok (.aload_n 0, 1) := by decide +kernel
theorem dX9_findDistances_93 : decode cX9_findDistances 93 = .ok (.getfield 83, 3) := by decide +kernel
theorem dX9_findDistances_96 : decode cX9_findDistances 96 = .ok (.iload 5, 2) := by decide +kernel
theorem dX9_findDistances_98 : decode cX9_findDistances 98 = .ok (.iaload, 1) := by decide +kernel
theorem dX9_findDistances_99 : decode cX9_findDistances 99 = .ok (.iconst 1, 1) := by decide +kernel
theorem dX9_findDistances_100 : decode cX9_findDistances 100 = .ok (.iadd, 1) := by decide +kernel
theorem dX9_findDistances_101 : decode cX9_findDistances 101 = .ok (.iastore, 1) := by decide +kernel
theorem dX9_findDistances_102 : decode cX9_findDistances 102 = .ok (.iconst 1, 1) := by decide +kernel
theorem dX9_findDistances_103 : decode cX9_findDistances 103 = .ok (.istore_n 2, 1) := by decide +kernel
theorem dX9_findDistances_104 : decode cX9_findDistances 104 = .ok (.aload_n 0, 1) := by decide +kernel
theorem dX9_findDistances_105 : decode cX9_findDistances 105 = .ok (.getfield 28, 3) := by decide +kernel
theorem dX9_findDistances_108 : decode cX9_findDistances 108 = .ok (.iload_n 3, 1) := by decide +kernel
theorem dX9_findDistances_109 : decode cX9_findDistances 109 = .ok (.baload, 1) := by decide +kernel
theorem dX9_findDistances_110 : decode cX9_findDistances 110 = .ok (.ifCond .eq 40, 3) := by decide +kernel
theorem dX9_findDistances_113 : decode cX9_findDistances 113 = .ok (.aload_n 0, 1) := by decide +kernel
theorem dX9_findDistances_114 : decode cX9_findDistances 114 = .ok (.getfield 83, 3) := by decide +kernel
theorem dX9_findDistances_117 : decode cX9_findDistances 117 = .ok (.iload 4, 2) := by decide +kernel
theorem dX9_findDistances_119 : decode cX9_findDistances 119 = .ok (.iaload, 1) := by decide +kernel
theorem dX9_findDistances_120 : decode cX9_findDistances 120 = .ok (.iconst 1, 1) := by decide +kernel
theorem dX9_findDistances_121 : decode cX9_findDistances 121 = .ok (.iadd, 1) := by decide +kernel
theorem dX9_findDistances_122 : decode cX9_findDistances 122 = .ok (.aload_n 0, 1) := by decide +kernel
theorem dX9_findDistances_123 : decode cX9_findDistances 123 = .ok (.getfield 83, 3) := by decide +kernel
theorem dX9_findDistances_126 : decode cX9_findDistances 126 = .ok (.iload 5, 2) := by decide +kernel
theorem dX9_findDistances_128 : decode cX9_findDistances 128 = .ok (.iaload, 1) := by decide +kernel
theorem dX9_findDistances_129 : decode cX9_findDistances 129 = .ok (.if_icmp .ge 21, 3) := by decide +kernel
theorem dX9_findDistances_132 : decode cX9_findDistances 132 = .ok (.aload_n 0, 1) := by decide +kernel
theorem dX9_findDistances_133 : decode cX9_findDistances 133 = .ok (.getfield 83, 3) := by decide +kernel
theorem dX9_findDistances_136 : decode cX9_findDistances 136 = .ok (.iload 5, 2) := by decide +kernel
theorem dX9_findDistances_138 : decode cX9_findDistances 138 = .ok (.aload_n 0, 1) := by decide +kernel
theorem dX9_findDistances_139 : decode cX9_findDistances 139 = .ok (.getfield 83, 3) := by decide +kernel
theorem dX9_findDistances_142 : decode cX9_findDistances 142 = .ok (.iload 4, 2) := by decide +kernel
theorem dX9_findDistances_144 : decode cX9_findDistances 144 = .ok (.iaload, 1) := by decide +kernel
theorem dX9_findDistances_145 : decode cX9_findDistances 145 = .ok (.iconst 1, 1) := by decide +kernel
theorem dX9_findDistances_146 : decode cX9_findDistances 146 = .ok (.iadd, 1) := by decide +kernel
theorem dX9_findDistances_147 : decode cX9_findDistances 147 = .ok (.iastore, 1) := by decide +kernel
theorem dX9_findDistances_148 : decode cX9_findDistances 148 = .ok (.iconst 1, 1) := by decide +kernel
theorem dX9_findDistances_149 : decode cX9_findDistances 149 = .ok (.istore_n 2, 1) := by decide +kernel
theorem dX9_findDistances_150 : decode cX9_findDistances 150 = .ok (.iinc 3 1, 3) := by decide +kernel
theorem dX9_findDistances_153 : decode cX9_findDistances 153 = .ok (.goto (-110), 3) := by decide +kernel
theorem dX9_findDistances_156 : decode cX9_findDistances 156 = .ok (.goto (-121), 3) := by decide +kernel
theorem dX9_findDistances_159 : decode cX9_findDistances 159 = .ok (.return_, 1) := by decide +kernel
theorem dX9_far_0 : decode cX9_far 0 = .ok (.aload_n 0, 1) := by decide +kernel
theorem dX9_far_1 : decode cX9_far 1 = .ok (.iload_n 1, 1) := by decide +kernel
theorem dX9_far_2 : decode cX9_far 2 = .ok (.invokevirtual 101, 3) := by decide +kernel
theorem dX9_far_5 : decode cX9_far 5 = .ok (.ifCond .eq 11, 3) := by decide +kernel
theorem dX9_far_8 : decode cX9_far 8 = .ok (.aload_n 0, 1) := by decide +kernel
theorem dX9_far_9 : decode cX9_far 9 = .ok (.iload_n 2, 1) := by decide +kernel
theorem dX9_far_10 : decode cX9_far 10 = .ok (.invokevirtual 101, 3) := by decide +kernel
theorem dX9_far_13 : decode cX9_far 13 = .ok (.ifCond .ne 5, 3) := by decide +kernel
theorem dX9_far_16 : decode cX9_far 16 = .ok (.iconst (-1), 1) := by decide +kernel
theorem dX9_far_17 : decode cX9_far 17 = .ok (.ireturn, 1) := by decide +kernel
theorem dX9_far_18 : decode cX9_far 18 = .ok (.aload_n 0, 1) := by decide +kernel
theorem dX9_far_19 : decode cX9_far 19 = .ok (.iload_n 2, 1) := by decide +kernel
theorem dX9_far_20 : decode cX9_far 20 = .ok (.invokevirtual 230, 3) := by decide +kernel
theorem dX9_far_23 : decode cX9_far 23 = .ok (.aload_n 0, 1) := by decide +kernel
theorem dX9_far_24 : decode cX9_far 24 = .ok (.getfield 83, 3) := by decide +kernel
theorem dX9_far_27 : decode cX9_far 27 = .ok (.iload_n 1, 1) := by decide +kernel
theorem dX9_far_28 : decode cX9_far 28 = .ok (.iaload, 1) := by decide +kernel
theorem dX9_far_29 : decode cX9_far 29 = .ok (.bipush 24, 2) := by decide +kernel
theorem dX9_far_31 : decode cX9_far 31 = .ok (.if_icmp .le 8, 3) := by decide +kernel
theorem dX9_far_34 : decode cX9_far 34 = .ok (.bipush (-2), 2) := by decide +kernel
theorem dX9_far_36 : decode cX9_far 36 = .ok (.goto 9, 3) := by decide +kernel
theorem dX9_far_39 : decode cX9_far 39 = .ok (.aload_n 0, 1) := by decide +kernel
theorem dX9_far_40 : decode cX9_far 40 = .ok (.getfield 83, 3) := by decide +kernel
theorem dX9_far_43 : decode cX9_far 43 = .ok (.iload_n 1, 1) := by decide +kernel
theorem dX9_far_44 : decode cX9_far 44 = .ok (.iaload, 1) := by decide +kernel
theorem dX9_far_45 : decode cX9_far 45 = .ok (.ireturn, 1) := by decide +kernel
theorem dX9_step_0 : decode cX9_step 0 = .ok (.aload_n 0, 1) := by decide +kernel
theorem dX9_step_1 : decode cX9_step 1 = .ok (.iload_n 1, 1) := by decide +kernel
theorem dX9_step_2 : decode cX9_step 2 = .ok (.iload_n 2, 1) := by decide +kernel
theorem dX9_step_3 : decode cX9_step 3 = .ok (.invokevirtual 233, 3) := by decide +kernel
theorem dX9_step_6 : decode cX9_step 6 = .ok (.istore 4, 2) := by decide +kernel
theorem dX9_step_8 : decode cX9_step 8 = .ok (.iload 4, 2) := by decide +kernel
theorem dX9_step_10 : decode cX9_step 10 = .ok (.ifCond .ge 6, 3) := by decide +kernel
theorem dX9_step_13 : decode cX9_step 13 = .ok (.iload 4, 2) := by decide +kernel
theorem dX9_step_15 : decode cX9_step 15 = .ok (.ireturn, 1) := by decide +kernel
theorem dX9_step_16 : decode cX9_step 16 = .ok (.iload_n 3, 1) := by decide +kernel
theorem dX9_step_17 : decode cX9_step 17 = .ok (.iconst 0, 1) := by decide +kernel
theorem dX9_step_18 : decode cX9_step 18 = .ok (.iload 4, 2) := by decide +kernel
theorem dX9_step_20 : decode cX9_step 20 = .ok (.iconst 1, 1) := by decide +kernel
theorem dX9_step_21 : decode cX9_step 21 = .ok (.isub, 1) := by decide +kernel
theorem dX9_step_22 : decode cX9_step 22 = .ok (.invokestatic 90, 3) := by decide +kernel
theorem dX9_step_25 : decode cX9_step 25 = .ok (.ifCond .ne 6, 3) := by decide +kernel
theorem dX9_step_28 : decode cX9_step 28 = .ok (.bipush (-2), 2) := by decide +kernel
theorem dX9_step_30 : decode cX9_step 30 = .ok (.ireturn, 1) := by decide +kernel
theorem dX9_step_31 : decode cX9_step 31 = .ok (.iload_n 1, 1) := by decide +kernel
theorem dX9_step_32 : decode cX9_step 32 = .ok (.istore 5, 2) := by decide +kernel
theorem dX9_step_34 : decode cX9_step 34 = .ok (.bipush (-2), 2) := by decide +kernel
theorem dX9_step_36 : decode cX9_step 36 = .ok (.istore 6, 2) := by decide +kernel
theorem dX9_step_38 : decode cX9_step 38 = .ok (.iconst 0, 1) := by decide +kernel
theorem dX9_step_39 : decode cX9_step 39 = .ok (.istore 7, 2) := by decide +kernel
theorem dX9_step_41 : decode cX9_step 41 = .ok (.iload 7, 2) := by decide +kernel
theorem dX9_step_43 : decode cX9_step 43 = .ok (.iload_n 3, 1) := by decide +kernel
theorem dX9_step_44 : decode cX9_step 44 = .ok (.if_icmp .gt 97, 3) := by decide +kernel
theorem dX9_step_47 : decode cX9_step 47 = .ok (.bipush (-2), 2) := by decide +kernel
theorem dX9_step_49 : decode cX9_step 49 = .ok (.istore 6, 2) := by decide +kernel
theorem dX9_step_51 : decode cX9_step 51 = .ok (.bipush 9, 2) := by decide +kernel
theorem dX9_step_53 : decode cX9_step 53 = .ok (.istore 8, 2) := by decide +kernel
theorem dX9_step_55 : decode cX9_step 55 = .ok (.iload 8, 2) := by decide +kernel
theorem dX9_step_57 : decode cX9_step 57 = .ok (.ifCond .lt 60, 3) := by decide +kernel
theorem dX9_step_60 : decode cX9_step 60 = .ok (.aload_n 0, 1) := by decide +kernel
theorem dX9_step_61 : decode cX9_step 61 = .ok (.iload 5, 2) := by decide +kernel
theorem dX9_step_63 : decode cX9_step 63 = .ok (.iload 8, 2) := by decide +kernel
theorem dX9_step_65 : decode cX9_step 65 = .ok (.invokevirtual 105, 3) := by decide +kernel
theorem dX9_step_68 : decode cX9_step 68 = .ok (.istore 9, 2) := by decide +kernel
theorem dX9_step_70 : decode cX9_step 70 = .ok (.iload 9, 2) := by decide +kernel
theorem dX9_step_72 : decode cX9_step 72 = .ok (.ifCond .lt 35, 3) := by decide +kernel
theorem dX9_step_75 : decode cX9_step 75 = .ok (.aload_n 0, 1) := by decide +kernel
theorem dX9_step_76 : decode cX9_step 76 = .ok (.getfield 83, 3) := by decide +kernel
theorem dX9_step_79 : decode cX9_step 79 = .ok (.aload_n 0, 1) := by decide +kernel
theorem dX9_step_80 : decode cX9_step 80 = .ok (.iload 9, 2) := by decide +kernel
theorem dX9_step_82 : decode cX9_step 82 = .ok (.iload 5, 2) := by decide +kernel
theorem dX9_step_84 : decode cX9_step 84 = .ok (.iload 8, 2) := by decide +kernel
theorem dX9_step_86 : decode cX9_step 86 = .ok (.invokevirtual 116, 3) := by decide +kernel
theorem dX9_step_89 : decode cX9_step 89 = .ok (.iaload, 1) := by decide +kernel
theorem dX9_step_90 : decode cX9_step 90 = .ok (.aload_n 0, 1) := by decide +kernel
theorem dX9_step_91 : decode cX9_step 91 = .ok (.getfield 83, 3) := by decide +kernel
theorem dX9_step_94 : decode cX9_step 94 = .ok (.iload 5, 2) := by decide +kernel
theorem dX9_step_96 : decode cX9_step 96 = .ok (.iaload, 1) := by decide +kernel
theorem dX9_step_97 : decode cX9_step 97 = .ok (.iconst 1, 1) := by decide +kernel
theorem dX9_step_98 : decode cX9_step 98 = .ok (.isub, 1) := by decide +kernel
theorem dX9_step_99 : decode cX9_step 99 = .ok (.if_icmp .ne 8, 3) := by decide +kernel
theorem dX9_step_102 : decode cX9_step 102 = .ok (.iload 8, 2) := by decide +kernel
theorem dX9_step_104 : decode cX9_step 104 = .ok (.goto 5, 3) := by decide +kernel
theorem dX9_step_107 : decode cX9_step 107 = .ok (.iload 6, 2) := by decide +kernel
theorem dX9_step_109 : decode cX9_step 109 = .ok (.istore 6, 2) := by decide +kernel
theorem dX9_step_111 : decode cX9_step 111 = .ok (.iinc 8 (-1), 3) := by decide +kernel
theorem dX9_step_114 : decode cX9_step 114 = .ok (.goto (-59), 3) := by decide +kernel
theorem dX9_step_117 : decode cX9_step 117 = .ok (.aload_n 0, 1) := by decide +kernel
theorem dX9_step_118 : decode cX9_step 118 = .ok (.aload_n 0, 1) := by decide +kernel
theorem dX9_step_119 : decode cX9_step 119 = .ok (.iload 5, 2) := by decide +kernel
theorem dX9_step_121 : decode cX9_step 121 = .ok (.iload 6, 2) := by decide +kernel
theorem dX9_step_123 : decode cX9_step 123 = .ok (.invokevirtual 105, 3) := by decide +kernel
theorem dX9_step_126 : decode cX9_step 126 = .ok (.iload 5, 2) := by decide +kernel
theorem dX9_step_128 : decode cX9_step 128 = .ok (.iload 6, 2) := by decide +kernel
theorem dX9_step_130 : decode cX9_step 130 = .ok (.invokevirtual 116, 3) := by decide +kernel
theorem dX9_step_133 : decode cX9_step 133 = .ok (.istore 5, 2) := by decide +kernel
theorem dX9_step_135 : decode cX9_step 135 = .ok (.iinc 7 1, 3) := by decide +kernel
theorem dX9_step_138 : decode cX9_step 138 = .ok (.goto (-97), 3) := by decide +kernel
theorem dX9_step_141 : decode cX9_step 141 = .ok (.iload 6, 2) := by decide +kernel
theorem dX9_step_143 : decode cX9_step 143 = .ok (.ireturn, 1) := by decide +kernel
theorem dX9_leastOf_0 : decode cX9_leastOf 0 = .ok (.iconst 0, 1) := by decide +kernel
theorem dX9_leastOf_1 : decode cX9_leastOf 1 = .ok (.istore_n 2, 1) := by decide +kernel
theorem dX9_leastOf_2 : decode cX9_leastOf 2 = .ok (.iconst 0, 1) := by decide +kernel
theorem dX9_leastOf_3 : decode cX9_leastOf 3 = .ok (.istore_n 3, 1) := by decide +kernel
theorem dX9_leastOf_4 : decode cX9_leastOf 4 = .ok (.iconst 0, 1) := by decide +kernel
theorem dX9_leastOf_5 : decode cX9_leastOf 5 = .ok (.istore 4, 2) := by decide +kernel
theorem dX9_leastOf_7 : decode cX9_leastOf 7 = .ok (.iload 4, 2) := by decide +kernel
theorem dX9_leastOf_9 : decode cX9_leastOf 9 = .ok (.aload_n 0, 1) := by decide +kernel
theorem dX9_leastOf_10 : decode cX9_leastOf 10 = .ok (.getfield 86, 3) := by decide +kernel
theorem dX9_leastOf_13 : decode cX9_leastOf 13 = .ok (.if_icmp .ge 61, 3) := by decide +kernel
theorem dX9_leastOf_16 : decode cX9_leastOf 16 = .ok (.iload_n 1, 1) := by decide +kernel
theorem dX9_leastOf_17 : decode cX9_leastOf 17 = .ok (.ifCond .eq 13, 3) := by decide +kernel
theorem dX9_leastOf_20 : decode cX9_leastOf 20 = .ok (.aload_n 0, 1) := by decide +kernel
theorem dX9_leastOf_21 : decode cX9_leastOf 21 = .ok (.getfield 35, 3) := by decide +kernel
theorem dX9_leastOf_24 : decode cX9_leastOf 24 = .ok (.iload 4, 2) := by decide +kernel
theorem dX9_leastOf_26 : decode cX9_leastOf 26 = .ok (.iaload, 1) := by decide +kernel
theorem dX9_leastOf_27 : decode cX9_leastOf 27 = .ok (.goto 10, 3) := by decide +kernel
theorem dX9_leastOf_30 : decode cX9_leastOf 30 = .ok (.aload_n 0, 1) := by decide +kernel
theorem dX9_leastOf_31 : decode cX9_leastOf 31 = .ok (.getfield 38, 3) := by decide +kernel
theorem dX9_leastOf_34 : decode cX9_leastOf 34 = .ok (.iload 4, 2) := by decide +kernel
theorem dX9_leastOf_36 : decode cX9_leastOf 36 = .ok (.iaload, 1) := by decide +kernel
theorem dX9_leastOf_37 : decode cX9_leastOf 37 = .ok (.istore 5, 2) := by decide +kernel
theorem dX9_leastOf_39 : decode cX9_leastOf 39 = .ok (.aload_n 0, 1) := by decide +kernel
theorem dX9_leastOf_40 : decode cX9_leastOf 40 = .ok (.getfield 32, 3) := by decide +kernel
theorem dX9_leastOf_43 : decode cX9_leastOf 43 = .ok (.iload 4, 2) := by decide +kernel
theorem dX9_leastOf_45 : decode cX9_leastOf 45 = .ok (.baload, 1) := by decide +kernel
theorem dX9_leastOf_46 : decode cX9_leastOf 46 = .ok (.ifCond .eq 22, 3) := by decide +kernel
theorem dX9_leastOf_49 : decode cX9_leastOf 49 = .ok (.iload_n 3, 1) := by decide +kernel
theorem dX9_leastOf_50 : decode cX9_leastOf 50 = .ok (.ifCond .eq 9, 3) := by decide +kernel
theorem dX9_leastOf_53 : decode cX9_leastOf 53 = .ok (.iload 5, 2) := by decide +kernel
theorem dX9_leastOf_55 : decode cX9_leastOf 55 = .ok (.iload_n 2, 1) := by decide +kernel
theorem dX9_leastOf_56 : decode cX9_leastOf 56 = .ok (.if_icmp .ge 8, 3) := by decide +kernel
theorem dX9_leastOf_59 : decode cX9_leastOf 59 = .ok (.iload 5, 2) := by decide +kernel
theorem dX9_leastOf_61 : decode cX9_leastOf 61 = .ok (.goto 4, 3) := by decide +kernel
theorem dX9_leastOf_64 : decode cX9_leastOf 64 = .ok (.iload_n 2, 1) := by decide +kernel
theorem dX9_leastOf_65 : decode cX9_leastOf 65 = .ok (.istore_n 2, 1) := by decide +kernel
theorem dX9_leastOf_66 : decode cX9_leastOf 66 = .ok (.iconst 1, 1) := by decide +kernel
theorem dX9_leastOf_67 : decode cX9_leastOf 67 = .ok (.istore_n 3, 1) := by decide +kernel
theorem dX9_leastOf_68 : decode cX9_leastOf 68 = .ok (.iinc 4 1, 3) := by decide +kernel
theorem dX9_leastOf_71 : decode cX9_leastOf 71 = .ok (.goto (-64), 3) := by decide +kernel
theorem dX9_leastOf_74 : decode cX9_leastOf 74 = .ok (.iload_n 2, 1) := by decide +kernel
theorem dX9_leastOf_75 : decode cX9_leastOf 75 = .ok (.ireturn, 1) := by decide +kernel
theorem dX9_sign_0 : decode cX9_sign 0 = .ok (.iload_n 2, 1) := by decide +kernel
theorem dX9_sign_1 : decode cX9_sign 1 = .ok (.ifCond .lt 7, 3) := by decide +kernel
theorem dX9_sign_4 : decode cX9_sign 4 = .ok (.iload_n 3, 1) := by decide +kernel
theorem dX9_sign_5 : decode cX9_sign 5 = .ok (.ifCond .ge 5, 3) := by decide +kernel
theorem dX9_sign_8 : decode cX9_sign 8 = .ok (.iconst (-1), 1) := by decide +kernel
theorem dX9_sign_9 : decode cX9_sign 9 = .ok (.ireturn, 1) := by decide +kernel
theorem dX9_sign_10 : decode cX9_sign 10 = .ok (.aload_n 0, 1) := by decide +kernel
theorem dX9_sign_11 : decode cX9_sign 11 = .ok (.invokevirtual 215, 3) := by decide +kernel
theorem dX9_sign_14 : decode cX9_sign 14 = .ok (.aload_n 0, 1) := by decide +kernel
theorem dX9_sign_15 : decode cX9_sign 15 = .ok (.iconst 1, 1) := by decide +kernel
theorem dX9_sign_16 : decode cX9_sign 16 = .ok (.invokevirtual 236, 3) := by decide +kernel
theorem dX9_sign_19 : decode cX9_sign 19 = .ok (.istore 4, 2) := by decide +kernel
theorem dX9_sign_21 : decode cX9_sign 21 = .ok (.aload_n 0, 1) := by decide +kernel
theorem dX9_sign_22 : decode cX9_sign 22 = .ok (.iconst 0, 1) := by decide +kernel
theorem dX9_sign_23 : decode cX9_sign 23 = .ok (.invokevirtual 236, 3) := by decide +kernel
theorem dX9_sign_26 : decode cX9_sign 26 = .ok (.istore 5, 2) := by decide +kernel
theorem dX9_sign_28 : decode cX9_sign 28 = .ok (.iconst 0, 1) := by decide +kernel
theorem dX9_sign_29 : decode cX9_sign 29 = .ok (.istore 6, 2) := by decide +kernel
theorem dX9_sign_31 : decode cX9_sign 31 = .ok (.iload 6, 2) := by decide +kernel
theorem dX9_sign_33 : decode cX9_sign 33 = .ok (.aload_n 0, 1) := by decide +kernel
theorem dX9_sign_34 : decode cX9_sign 34 = .ok (.getfield 86, 3) := by decide +kernel
theorem dX9_sign_37 : decode cX9_sign 37 = .ok (.if_icmp .ge 98, 3) := by decide +kernel
theorem dX9_sign_40 : decode cX9_sign 40 = .ok (.iload_n 2, 1) := by decide +kernel
theorem dX9_sign_41 : decode cX9_sign 41 = .ok (.i2l, 1) := by decide +kernel
theorem dX9_sign_42 : decode cX9_sign 42 = .ok (.ldc2_w 240, 3) := by decide +kernel
theorem dX9_sign_45 : decode cX9_sign 45 = .ok (.aload_n 0, 1) := by decide +kernel
theorem dX9_sign_46 : decode cX9_sign 46 = .ok (.getfield 56, 3) := by decide +kernel
theorem dX9_sign_49 : decode cX9_sign 49 = .ok (.iload 6, 2) := by decide +kernel
theorem dX9_sign_51 : decode cX9_sign 51 = .ok (.iaload, 1) := by decide +kernel
theorem dX9_sign_52 : decode cX9_sign 52 = .ok (.iload 4, 2) := by decide +kernel
theorem dX9_sign_54 : decode cX9_sign 54 = .ok (.isub, 1) := by decide +kernel
theorem dX9_sign_55 : decode cX9_sign 55 = .ok (.i2l, 1) := by decide +kernel
theorem dX9_sign_56 : decode cX9_sign 56 = .ok (.lmul, 1) := by decide +kernel
theorem dX9_sign_57 : decode cX9_sign 57 = .ok (.lsub, 1) := by decide +kernel
theorem dX9_sign_58 : decode cX9_sign 58 = .ok (.lstore 7, 2) := by decide +kernel
theorem dX9_sign_60 : decode cX9_sign 60 = .ok (.aload_n 0, 1) := by decide +kernel
theorem dX9_sign_61 : decode cX9_sign 61 = .ok (.getfield 53, 3) := by decide +kernel
theorem dX9_sign_64 : decode cX9_sign 64 = .ok (.iload 6, 2) := by decide +kernel
theorem dX9_sign_66 : decode cX9_sign 66 = .ok (.baload, 1) := by decide +kernel
theorem dX9_sign_67 : decode cX9_sign 67 = .ok (.ifCond .eq 62, 3) := by decide +kernel
theorem dX9_sign_70 : decode cX9_sign 70 = .ok (.aload_n 0, 1) := by decide +kernel
theorem dX9_sign_71 : decode cX9_sign 71 = .ok (.getfield 62, 3) := by decide +kernel
theorem dX9_sign_74 : decode cX9_sign 74 = .ok (.iload 6, 2) := by decide +kernel
theorem dX9_sign_76 : decode cX9_sign 76 = .ok (.iaload, 1) := by decide +kernel
theorem dX9_sign_77 : decode cX9_sign 77 = .ok (.iload_n 1, 1) := by decide +kernel
theorem dX9_sign_78 : decode cX9_sign 78 = .ok (.if_icmp .ne 51, 3) := by decide +kernel
theorem dX9_sign_81 : decode cX9_sign 81 = .ok (.iload_n 3, 1) := by decide +kernel
theorem dX9_sign_82 : decode cX9_sign 82 = .ok (.i2l, 1) := by decide +kernel
theorem dX9_sign_83 : decode cX9_sign 83 = .ok (.ldc2_w 242, 3) := by decide +kernel
theorem dX9_sign_86 : decode cX9_sign 86 = .ok (.aload_n 0, 1) := by decide +kernel
theorem dX9_sign_87 : decode cX9_sign 87 = .ok (.getfield 59, 3) := by decide +kernel
theorem dX9_sign_90 : decode cX9_sign 90 = .ok (.iload 6, 2) := by decide +kernel
theorem dX9_sign_92 : decode cX9_sign 92 = .ok (.iaload, 1) := by decide +kernel
theorem dX9_sign_93 : decode cX9_sign 93 = .ok (.iload 5, 2) := by decide +kernel
theorem dX9_sign_95 : decode cX9_sign 95 = .ok (.isub, 1) := by decide +kernel
theorem dX9_sign_96 : decode cX9_sign 96 = .ok (.i2l, 1) := by decide +kernel
theorem dX9_sign_97 : decode cX9_sign 97 = .ok (.lmul, 1) := by decide +kernel
theorem dX9_sign_98 : decode cX9_sign 98 = .ok (.lcmp, 1) := by decide +kernel
theorem dX9_sign_99 : decode cX9_sign 99 = .ok (.ifCond .ne 30, 3) := by decide +kernel
theorem dX9_sign_102 : decode cX9_sign 102 = .ok (.lload 7, 2) := by decide +kernel
theorem dX9_sign_104 : decode cX9_sign 104 = .ok (.lconst 0, 1) := by decide +kernel
theorem dX9_sign_105 : decode cX9_sign 105 = .ok (.lcmp, 1) := by decide +kernel
theorem dX9_sign_106 : decode cX9_sign 106 = .ok (.ifCond .lt 23, 3) := by decide +kernel
theorem dX9_sign_109 : decode cX9_sign 109 = .ok (.lload 7, 2) := by decide +kernel
theorem dX9_sign_111 : decode cX9_sign 111 = .ok (.aload_n 0, 1) := by decide +kernel
theorem dX9_sign_112 : decode cX9_sign 112 = .ok (.getfield 7, 3) := by decide +kernel
theorem dX9_sign_115 : decode cX9_sign 115 = .ok (.iload 6, 2) := by decide +kernel
theorem dX9_sign_117 : decode cX9_sign 117 = .ok (.iaload, 1) := by decide +kernel
theorem dX9_sign_118 : decode cX9_sign 118 = .ok (.i2l, 1) := by decide +kernel
theorem dX9_sign_119 : decode cX9_sign 119 = .ok (.lcmp, 1) := by decide +kernel
theorem dX9_sign_120 : decode cX9_sign 120 = .ok (.ifCond .ge 9, 3) := by decide +kernel
theorem dX9_sign_123 : decode cX9_sign 123 = .ok (.bipush 65, 2) := by decide +kernel
theorem dX9_sign_125 : decode cX9_sign 125 = .ok (.iload 6, 2) := by decide +kernel
theorem dX9_sign_127 : decode cX9_sign 127 = .ok (.iadd, 1) := by decide +kernel
theorem dX9_sign_128 : decode cX9_sign 128 = .ok (.ireturn, 1) := by decide +kernel
theorem dX9_sign_129 : decode cX9_sign 129 = .ok (.iinc 6 1, 3) := by decide +kernel
theorem dX9_sign_132 : decode cX9_sign 132 = .ok (.goto (-101), 3) := by decide +kernel
theorem dX9_sign_135 : decode cX9_sign 135 = .ok (.iconst 0, 1) := by decide +kernel
theorem dX9_sign_136 : decode cX9_sign 136 = .ok (.istore 6, 2) := by decide +kernel
theorem dX9_sign_138 : decode cX9_sign 138 = .ok (.iload 6, 2) := by decide +kernel
theorem dX9_sign_140 : decode cX9_sign 140 = .ok (.aload_n 0, 1) := by decide +kernel
theorem dX9_sign_141 : decode cX9_sign 141 = .ok (.getfield 86, 3) := by decide +kernel
theorem dX9_sign_144 : decode cX9_sign 144 = .ok (.if_icmp .ge 137, 3) := by decide +kernel
theorem dX9_sign_147 : decode cX9_sign 147 = .ok (.iload_n 2, 1) := by decide +kernel
theorem dX9_sign_148 : decode cX9_sign 148 = .ok (.i2l, 1) := by decide +kernel
theorem dX9_sign_149 : decode cX9_sign 149 = .ok (.ldc2_w 240, 3) := by decide +kernel
theorem dX9_sign_152 : decode cX9_sign 152 = .ok (.aload_n 0, 1) := by decide +kernel
theorem dX9_sign_153 : decode cX9_sign 153 = .ok (.getfield 56, 3) := by decide +kernel
theorem dX9_sign_156 : decode cX9_sign 156 = .ok (.iload 6, 2) := by decide +kernel
theorem dX9_sign_158 : decode cX9_sign 158 = .ok (.iaload, 1) := by decide +kernel
theorem dX9_sign_159 : decode cX9_sign 159 = .ok (.iload 4, 2) := by decide +kernel
theorem dX9_sign_161 : decode cX9_sign 161 = .ok (.isub, 1) := by decide +kernel
theorem dX9_sign_162 : decode cX9_sign 162 = .ok (.i2l, 1) := by decide +kernel
theorem dX9_sign_163 : decode cX9_sign 163 = .ok (.lmul, 1) := by decide +kernel
theorem dX9_sign_164 : decode cX9_sign 164 = .ok (.lsub, 1) := by decide +kernel
theorem dX9_sign_165 : decode cX9_sign 165 = .ok (.aload_n 0, 1) := by decide +kernel
theorem dX9_sign_166 : decode cX9_sign 166 = .ok (.getfield 7, 3) := by decide +kernel
theorem dX9_sign_169 : decode cX9_sign 169 = .ok (.iload 6, 2) := by decide +kernel
theorem dX9_sign_171 : decode cX9_sign 171 = .ok (.iaload, 1) := by decide +kernel
theorem dX9_sign_172 : decode cX9_sign 172 = .ok (.i2l, 1) := by decide +kernel
theorem dX9_sign_173 : decode cX9_sign 173 = .ok (.lsub, 1) := by decide +kernel
theorem dX9_sign_174 : decode cX9_sign 174 = .ok (.lstore 7, 2) := by decide +kernel
theorem dX9_sign_176 : decode cX9_sign 176 = .ok (.aload_n 0, 1) := by decide +kernel
theorem dX9_sign_177 : decode cX9_sign 177 = .ok (.getfield 53, 3) := by decide +kernel
theorem dX9_sign_180 : decode cX9_sign 180 = .ok (.iload 6, 2) := by decide +kernel
theorem dX9_sign_182 : decode cX9_sign 182 = .ok (.baload, 1) := by decide +kernel
theorem dX9_sign_183 : decode cX9_sign 183 = .ok (.ifCond .eq 92, 3) := by decide +kernel
theorem dX9_sign_186 : decode cX9_sign 186 = .ok (.aload_n 0, 1) := by decide +kernel
theorem dX9_sign_187 : decode cX9_sign 187 = .ok (.getfield 62, 3) := by decide +kernel
theorem dX9_sign_190 : decode cX9_sign 190 = .ok (.iload 6, 2) := by decide +kernel
theorem dX9_sign_192 : decode cX9_sign 192 = .ok (.iaload, 1) := by decide +kernel
theorem dX9_sign_193 : decode cX9_sign 193 = .ok (.iload_n 1, 1) := by decide +kernel
theorem dX9_sign_194 : decode cX9_sign 194 = .ok (.if_icmp .ne 81, 3) := by decide +kernel
theorem dX9_sign_197 : decode cX9_sign 197 = .ok (.iload_n 3, 1) := by decide +kernel
theorem dX9_sign_198 : decode cX9_sign 198 = .ok (.i2l, 1) := by decide +kernel
theorem dX9_sign_199 : decode cX9_sign 199 = .ok (.ldc2_w 242, 3) := by decide +kernel
theorem dX9_sign_202 : decode cX9_sign 202 = .ok (.aload_n 0, 1) := by decide +kernel
theorem dX9_sign_203 : decode cX9_sign 203 = .ok (.getfield 59, 3) := by decide +kernel
theorem dX9_sign_206 : decode cX9_sign 206 = .ok (.iload 6, 2) := by decide +kernel
theorem dX9_sign_208 : decode cX9_sign 208 = .ok (.iaload, 1) := by decide +kernel
theorem dX9_sign_209 : decode cX9_sign 209 = .ok (.iload 5, 2) := by decide +kernel
theorem dX9_sign_211 : decode cX9_sign 211 = .ok (.isub, 1) := by decide +kernel
theorem dX9_sign_212 : decode cX9_sign 212 = .ok (.i2l, 1) := by decide +kernel
theorem dX9_sign_213 : decode cX9_sign 213 = .ok (.lmul, 1) := by decide +kernel
theorem dX9_sign_214 : decode cX9_sign 214 = .ok (.lcmp, 1) := by decide +kernel
theorem dX9_sign_215 : decode cX9_sign 215 = .ok (.ifCond .ne 60, 3) := by decide +kernel
theorem dX9_sign_218 : decode cX9_sign 218 = .ok (.lload 7, 2) := by decide +kernel
theorem dX9_sign_220 : decode cX9_sign 220 = .ok (.lconst 0, 1) := by decide +kernel
theorem dX9_sign_221 : decode cX9_sign 221 = .ok (.lcmp, 1) := by decide +kernel
theorem dX9_sign_222 : decode cX9_sign 222 = .ok (.ifCond .ne 17, 3) := by decide +kernel
theorem dX9_sign_225 : decode cX9_sign 225 = .ok (.aload_n 0, 1) := by decide +kernel
theorem dX9_sign_226 : decode cX9_sign 226 = .ok (.iload 6, 2) := by decide +kernel
theorem dX9_sign_228 : decode cX9_sign 228 = .ok (.bipush 8, 2) := by decide +kernel
theorem dX9_sign_230 : decode cX9_sign 230 = .ok (.invokevirtual 105, 3) := by decide +kernel
theorem dX9_sign_233 : decode cX9_sign 233 = .ok (.ifCond .lt 6, 3) := by decide +kernel
theorem dX9_sign_236 : decode cX9_sign 236 = .ok (.bipush 94, 2) := by decide +kernel
theorem dX9_sign_238 : decode cX9_sign 238 = .ok (.ireturn, 1) := by decide +kernel
theorem dX9_sign_239 : decode cX9_sign 239 = .ok (.lload 7, 2) := by decide +kernel
theorem dX9_sign_241 : decode cX9_sign 241 = .ok (.aload_n 0, 1) := by decide +kernel
theorem dX9_sign_242 : decode cX9_sign 242 = .ok (.iload 6, 2) := by decide +kernel
theorem dX9_sign_244 : decode cX9_sign 244 = .ok (.bipush 8, 2) := by decide +kernel
theorem dX9_sign_246 : decode cX9_sign 246 = .ok (.invokevirtual 105, 3) := by decide +kernel
theorem dX9_sign_249 : decode cX9_sign 249 = .ok (.ifCond .lt 7, 3) := by decide +kernel
theorem dX9_sign_252 : decode cX9_sign 252 = .ok (.lconst 1, 1) := by decide +kernel
theorem dX9_sign_253 : decode cX9_sign 253 = .ok (.goto 4, 3) := by decide +kernel
theorem dX9_sign_256 : decode cX9_sign 256 = .ok (.lconst 0, 1) := by decide +kernel
theorem dX9_sign_257 : decode cX9_sign 257 = .ok (.lcmp, 1) := by decide +kernel
theorem dX9_sign_258 : decode cX9_sign 258 = .ok (.ifCond .ne 17, 3) := by decide +kernel
theorem dX9_sign_261 : decode cX9_sign 261 = .ok (.aload_n 0, 1) := by decide +kernel
theorem dX9_sign_262 : decode cX9_sign 262 = .ok (.iload 6, 2) := by decide +kernel
theorem dX9_sign_264 : decode cX9_sign 264 = .ok (.bipush 9, 2) := by decide +kernel
theorem dX9_sign_266 : decode cX9_sign 266 = .ok (.invokevirtual 105, 3) := by decide +kernel
theorem dX9_sign_269 : decode cX9_sign 269 = .ok (.ifCond .lt 6, 3) := by decide +kernel
theorem dX9_sign_272 : decode cX9_sign 272 = .ok (.bipush 118, 2) := by decide +kernel
theorem dX9_sign_274 : decode cX9_sign 274 = .ok (.ireturn, 1) := by decide +kernel
theorem dX9_sign_275 : decode cX9_sign 275 = .ok (.iinc 6 1, 3) := by decide +kernel
theorem dX9_sign_278 : decode cX9_sign 278 = .ok (.goto (-140), 3) := by decide +kernel
theorem dX9_sign_281 : decode cX9_sign 281 = .ok (.iconst 0, 1) := by decide +kernel
theorem dX9_sign_282 : decode cX9_sign 282 = .ok (.istore 6, 2) := by decide +kernel
theorem dX9_sign_284 : decode cX9_sign 284 = .ok (.iload 6, 2) := by decide +kernel
theorem dX9_sign_286 : decode cX9_sign 286 = .ok (.aload_n 0, 1) := by decide +kernel
theorem dX9_sign_287 : decode cX9_sign 287 = .ok (.getfield 94, 3) := by decide +kernel
theorem dX9_sign_290 : decode cX9_sign 290 = .ok (.if_icmp .ge 122, 3) := by decide +kernel
theorem dX9_sign_293 : decode cX9_sign 293 = .ok (.aload_n 0, 1) := by decide +kernel
theorem dX9_sign_294 : decode cX9_sign 294 = .ok (.getfield 19, 3) := by decide +kernel
theorem dX9_sign_297 : decode cX9_sign 297 = .ok (.iload 6, 2) := by decide +kernel
theorem dX9_sign_299 : decode cX9_sign 299 = .ok (.iaload, 1) := by decide +kernel
theorem dX9_sign_300 : decode cX9_sign 300 = .ok (.istore 7, 2) := by decide +kernel
theorem dX9_sign_302 : decode cX9_sign 302 = .ok (.aload_n 0, 1) := by decide +kernel
theorem dX9_sign_303 : decode cX9_sign 303 = .ok (.iload 6, 2) := by decide +kernel
theorem dX9_sign_305 : decode cX9_sign 305 = .ok (.invokevirtual 145, 3) := by decide +kernel
theorem dX9_sign_308 : decode cX9_sign 308 = .ok (.ifCond .ne 98, 3) := by decide +kernel
theorem dX9_sign_311 : decode cX9_sign 311 = .ok (.aload_n 0, 1) := by decide +kernel
theorem dX9_sign_312 : decode cX9_sign 312 = .ok (.getfield 53, 3) := by decide +kernel
theorem dX9_sign_315 : decode cX9_sign 315 = .ok (.iload 7, 2) := by decide +kernel
theorem dX9_sign_317 : decode cX9_sign 317 = .ok (.baload, 1) := by decide +kernel
theorem dX9_sign_318 : decode cX9_sign 318 = .ok (.ifCond .eq 88, 3) := by decide +kernel
theorem dX9_sign_321 : decode cX9_sign 321 = .ok (.aload_n 0, 1) := by decide +kernel
theorem dX9_sign_322 : decode cX9_sign 322 = .ok (.getfield 53, 3) := by decide +kernel
theorem dX9_sign_325 : decode cX9_sign 325 = .ok (.aload_n 0, 1) := by decide +kernel
theorem dX9_sign_326 : decode cX9_sign 326 = .ok (.getfield 25, 3) := by decide +kernel
theorem dX9_sign_329 : decode cX9_sign 329 = .ok (.iload 6, 2) := by decide +kernel
theorem dX9_sign_331 : decode cX9_sign 331 = .ok (.iaload, 1) := by decide +kernel
theorem dX9_sign_332 : decode cX9_sign 332 = .ok (.baload, 1) := by decide +kernel
theorem dX9_sign_333 : decode cX9_sign 333 = .ok (.ifCond .eq 73, 3) := by decide +kernel
theorem dX9_sign_336 : decode cX9_sign 336 = .ok (.aload_n 0, 1) := by decide +kernel
theorem dX9_sign_337 : decode cX9_sign 337 = .ok (.getfield 62, 3) := by decide +kernel
theorem dX9_sign_340 : decode cX9_sign 340 = .ok (.iload 7, 2) := by decide +kernel
theorem dX9_sign_342 : decode cX9_sign 342 = .ok (.iaload, 1) := by decide +kernel
theorem dX9_sign_343 : decode cX9_sign 343 = .ok (.iload_n 1, 1) := by decide +kernel
theorem dX9_sign_344 : decode cX9_sign 344 = .ok (.if_icmp .ne 62, 3) := by decide +kernel
theorem dX9_sign_347 : decode cX9_sign 347 = .ok (.aload_n 0, 1) := by decide +kernel
theorem dX9_sign_348 : decode cX9_sign 348 = .ok (.getfield 22, 3) := by decide +kernel
theorem dX9_sign_351 : decode cX9_sign 351 = .ok (.iload 6, 2) := by decide +kernel
theorem dX9_sign_353 : decode cX9_sign 353 = .ok (.iaload, 1) := by decide +kernel
theorem dX9_sign_354 : decode cX9_sign 354 = .ok (.bipush 7, 2) := by decide +kernel
theorem dX9_sign_356 : decode cX9_sign 356 = .ok (.if_icmp .le 6, 3) := by decide +kernel
theorem dX9_sign_359 : decode cX9_sign 359 = .ok (.goto 47, 3) := by decide +kernel
theorem dX9_sign_362 : decode cX9_sign 362 = .ok (.aload_n 0, 1) := by decide +kernel
theorem dX9_sign_363 : decode cX9_sign 363 = .ok (.iload 6, 2) := by decide +kernel
theorem dX9_sign_365 : decode cX9_sign 365 = .ok (.invokevirtual 148, 3) := by decide +kernel
theorem dX9_sign_368 : decode cX9_sign 368 = .ok (.istore 8, 2) := by decide +kernel
theorem dX9_sign_370 : decode cX9_sign 370 = .ok (.iload 8, 2) := by decide +kernel
theorem dX9_sign_372 : decode cX9_sign 372 = .ok (.ifCond .ne 8, 3) := by decide +kernel
theorem dX9_sign_375 : decode cX9_sign 375 = .ok (.bipush 32, 2) := by decide +kernel
theorem dX9_sign_377 : decode cX9_sign 377 = .ok (.goto 17, 3) := by decide +kernel
theorem dX9_sign_380 : decode cX9_sign 380 = .ok (.aload_n 0, 1) := by decide +kernel
theorem dX9_sign_381 : decode cX9_sign 381 = .ok (.iload 6, 2) := by decide +kernel
theorem dX9_sign_383 : decode cX9_sign 383 = .ok (.iload 8, 2) := by decide +kernel
theorem dX9_sign_385 : decode cX9_sign 385 = .ok (.iload_n 2, 1) := by decide +kernel
theorem dX9_sign_386 : decode cX9_sign 386 = .ok (.iload_n 3, 1) := by decide +kernel
theorem dX9_sign_387 : decode cX9_sign 387 = .ok (.iload 4, 2) := by decide +kernel
theorem dX9_sign_389 : decode cX9_sign 389 = .ok (.iload 5, 2) := by decide +kernel
theorem dX9_sign_391 : decode cX9_sign 391 = .ok (.invokevirtual 244, 3) := by decide +kernel
theorem dX9_sign_394 : decode cX9_sign 394 = .ok (.istore 9, 2) := by decide +kernel
theorem dX9_sign_396 : decode cX9_sign 396 = .ok (.iload 9, 2) := by decide +kernel
theorem dX9_sign_398 : decode cX9_sign 398 = .ok (.bipush 32, 2) := by decide +kernel
theorem dX9_sign_400 : decode cX9_sign 400 = .ok (.if_icmp .eq 6, 3) := by decide +kernel
theorem dX9_sign_403 : decode cX9_sign 403 = .ok (.iload 9, 2) := by decide +kernel
theorem dX9_sign_405 : decode cX9_sign 405 = .ok (.ireturn, 1) := by decide +kernel
theorem dX9_sign_406 : decode cX9_sign 406 = .ok (.iinc 6 1, 3) := by decide +kernel
theorem dX9_sign_409 : decode cX9_sign 409 = .ok (.goto (-125), 3) := by decide +kernel
theorem dX9_sign_412 : decode cX9_sign 412 = .ok (.bipush 32, 2) := by decide +kernel
theorem dX9_sign_414 : decode cX9_sign 414 = .ok (.ireturn, 1) := by decide +kernel
theorem dX9_lineAt_0 : decode cX9_lineAt 0 = .ok (.aload_n 0, 1) := by decide +kernel
theorem dX9_lineAt_1 : decode cX9_lineAt 1 = .ok (.getfield 19, 3) := by decide +kernel
theorem dX9_lineAt_4 : decode cX9_lineAt 4 = .ok (.iload_n 1, 1) := by decide +kernel
theorem dX9_lineAt_5 : decode cX9_lineAt 5 = .ok (.iaload, 1) := by decide +kernel
theorem dX9_lineAt_6 : decode cX9_lineAt 6 = .ok (.istore 7, 2) := by decide +kernel
theorem dX9_lineAt_8 : decode cX9_lineAt 8 = .ok (.aload_n 0, 1) := by decide +kernel
theorem dX9_lineAt_9 : decode cX9_lineAt 9 = .ok (.getfield 25, 3) := by decide +kernel
theorem dX9_lineAt_12 : decode cX9_lineAt 12 = .ok (.iload_n 1, 1) := by decide +kernel
theorem dX9_lineAt_13 : decode cX9_lineAt 13 = .ok (.iaload, 1) := by decide +kernel
theorem dX9_lineAt_14 : decode cX9_lineAt 14 = .ok (.istore 8, 2) := by decide +kernel
theorem dX9_lineAt_16 : decode cX9_lineAt 16 = .ok (.aload_n 0, 1) := by decide +kernel
theorem dX9_lineAt_17 : decode cX9_lineAt 17 = .ok (.getfield 22, 3) := by decide +kernel
theorem dX9_lineAt_20 : decode cX9_lineAt 20 = .ok (.iload_n 1, 1) := by decide +kernel
theorem dX9_lineAt_21 : decode cX9_lineAt 21 = .ok (.iaload, 1) := by decide +kernel
theorem dX9_lineAt_22 : decode cX9_lineAt 22 = .ok (.istore 9, 2) := by decide +kernel
theorem dX9_lineAt_24 : decode cX9_lineAt 24 = .ok (.iload 9, 2) := by decide +kernel
theorem dX9_lineAt_26 : decode cX9_lineAt 26 = .ok (.iconst 2, 1) := by decide +kernel
theorem dX9_lineAt_27 : decode cX9_lineAt 27 = .ok (.if_icmp .eq 10, 3) := by decide +kernel
theorem dX9_lineAt_30 : decode cX9_lineAt 30 = .ok (.iload 9, 2) := by decide +kernel
theorem dX9_lineAt_32 : decode cX9_lineAt 32 = .ok (.bipush 6, 2) := by decide +kernel
theorem dX9_lineAt_34 : decode cX9_lineAt 34 = .ok (.if_icmp .ne 112, 3) := by decide +kernel
theorem dX9_lineAt_37 : decode cX9_lineAt 37 = .ok (.iload 9, 2) := by decide +kernel
theorem dX9_lineAt_39 : decode cX9_lineAt 39 = .ok (.iconst 2, 1) := by decide +kernel
theorem dX9_lineAt_40 : decode cX9_lineAt 40 = .ok (.if_icmp .ne 8, 3) := by decide +kernel
theorem dX9_lineAt_43 : decode cX9_lineAt 43 = .ok (.iload 7, 2) := by decide +kernel
theorem dX9_lineAt_45 : decode cX9_lineAt 45 = .ok (.goto 5, 3) := by decide +kernel
theorem dX9_lineAt_48 : decode cX9_lineAt 48 = .ok (.iload 8, 2) := by decide +kernel
theorem dX9_lineAt_50 : decode cX9_lineAt 50 = .ok (.istore 10, 2) := by decide +kernel
theorem dX9_lineAt_52 : decode cX9_lineAt 52 = .ok (.iload 9, 2) := by decide +kernel
theorem dX9_lineAt_54 : decode cX9_lineAt 54 = .ok (.iconst 2, 1) := by decide +kernel
theorem dX9_lineAt_55 : decode cX9_lineAt 55 = .ok (.if_icmp .ne 8, 3) := by decide +kernel
theorem dX9_lineAt_58 : decode cX9_lineAt 58 = .ok (.iload 8, 2) := by decide +kernel
theorem dX9_lineAt_60 : decode cX9_lineAt 60 = .ok (.goto 5, 3) := by decide +kernel
theorem dX9_lineAt_63 : decode cX9_lineAt 63 = .ok (.iload 7, 2) := by decide +kernel
theorem dX9_lineAt_65 : decode cX9_lineAt 65 = .ok (.istore 11, 2) := by decide +kernel
theorem dX9_lineAt_67 : decode cX9_lineAt 67 = .ok (.iload 4, 2) := by decide +kernel
theorem dX9_lineAt_69 : decode cX9_lineAt 69 = .ok (.iconst 2, 1) := by decide +kernel
theorem dX9_lineAt_70 : decode cX9_lineAt 70 = .ok (.aload_n 0, 1) := by decide +kernel
theorem dX9_lineAt_71 : decode cX9_lineAt 71 = .ok (.getfield 59, 3) := by decide +kernel
theorem dX9_lineAt_74 : decode cX9_lineAt 74 = .ok (.iload 7, 2) := by decide +kernel
theorem dX9_lineAt_76 : decode cX9_lineAt 76 = .ok (.iaload, 1) := by decide +kernel
theorem dX9_lineAt_77 : decode cX9_lineAt 77 = .ok (.iload 6, 2) := by decide +kernel
theorem dX9_lineAt_79 : decode cX9_lineAt 79 = .ok (.isub, 1) := by decide +kernel
theorem dX9_lineAt_80 : decode cX9_lineAt 80 = .ok (.imul, 1) := by decide +kernel
theorem dX9_lineAt_81 : decode cX9_lineAt 81 = .ok (.if_icmp .ne 49, 3) := by decide +kernel
theorem dX9_lineAt_84 : decode cX9_lineAt 84 = .ok (.iload_n 3, 1) := by decide +kernel
theorem dX9_lineAt_85 : decode cX9_lineAt 85 = .ok (.bipush 6, 2) := by decide +kernel
theorem dX9_lineAt_87 : decode cX9_lineAt 87 = .ok (.aload_n 0, 1) := by decide +kernel
theorem dX9_lineAt_88 : decode cX9_lineAt 88 = .ok (.getfield 56, 3) := by decide +kernel
theorem dX9_lineAt_91 : decode cX9_lineAt 91 = .ok (.iload 10, 2) := by decide +kernel
theorem dX9_lineAt_93 : decode cX9_lineAt 93 = .ok (.iaload, 1) := by decide +kernel
theorem dX9_lineAt_94 : decode cX9_lineAt 94 = .ok (.iload 5, 2) := by decide +kernel
theorem dX9_lineAt_96 : decode cX9_lineAt 96 = .ok (.isub, 1) := by decide +kernel
theorem dX9_lineAt_97 : decode cX9_lineAt 97 = .ok (.imul, 1) := by decide +kernel
theorem dX9_lineAt_98 : decode cX9_lineAt 98 = .ok (.aload_n 0, 1) := by decide +kernel
theorem dX9_lineAt_99 : decode cX9_lineAt 99 = .ok (.getfield 7, 3) := by decide +kernel
theorem dX9_lineAt_102 : decode cX9_lineAt 102 = .ok (.iload 10, 2) := by decide +kernel
theorem dX9_lineAt_104 : decode cX9_lineAt 104 = .ok (.iaload, 1) := by decide +kernel
theorem dX9_lineAt_105 : decode cX9_lineAt 105 = .ok (.iadd, 1) := by decide +kernel
theorem dX9_lineAt_106 : decode cX9_lineAt 106 = .ok (.if_icmp .lt 24, 3) := by decide +kernel
theorem dX9_lineAt_109 : decode cX9_lineAt 109 = .ok (.iload_n 3, 1) := by decide +kernel
theorem dX9_lineAt_110 : decode cX9_lineAt 110 = .ok (.bipush 6, 2) := by decide +kernel
theorem dX9_lineAt_112 : decode cX9_lineAt 112 = .ok (.aload_n 0, 1) := by decide +kernel
theorem dX9_lineAt_113 : decode cX9_lineAt 113 = .ok (.getfield 56, 3) := by decide +kernel
theorem dX9_lineAt_116 : decode cX9_lineAt 116 = .ok (.iload 11, 2) := by decide +kernel
theorem dX9_lineAt_118 : decode cX9_lineAt 118 = .ok (.iaload, 1) := by decide +kernel
theorem dX9_lineAt_119 : decode cX9_lineAt 119 = .ok (.iload 5, 2) := by decide +kernel
theorem dX9_lineAt_121 : decode cX9_lineAt 121 = .ok (.isub, 1) := by decide +kernel
theorem dX9_lineAt_122 : decode cX9_lineAt 122 = .ok (.imul, 1) := by decide +kernel
theorem dX9_lineAt_123 : decode cX9_lineAt 123 = .ok (.if_icmp .ge 7, 3) := by decide +kernel
theorem dX9_lineAt_126 : decode cX9_lineAt 126 = .ok (.iconst 1, 1) := by decide +kernel
theorem dX9_lineAt_127 : decode cX9_lineAt 127 = .ok (.goto 4, 3) := by decide +kernel
theorem dX9_lineAt_130 : decode cX9_lineAt 130 = .ok (.iconst 0, 1) := by decide +kernel
theorem dX9_lineAt_131 : decode cX9_lineAt 131 = .ok (.istore 12, 2) := by decide +kernel
theorem dX9_lineAt_133 : decode cX9_lineAt 133 = .ok (.iload 12, 2) := by decide +kernel
theorem dX9_lineAt_135 : decode cX9_lineAt 135 = .ok (.ifCond .eq 8, 3) := by decide +kernel
theorem dX9_lineAt_138 : decode cX9_lineAt 138 = .ok (.bipush 45, 2) := by decide +kernel
theorem dX9_lineAt_140 : decode cX9_lineAt 140 = .ok (.goto 5, 3) := by decide +kernel
theorem dX9_lineAt_143 : decode cX9_lineAt 143 = .ok (.bipush 32, 2) := by decide +kernel
theorem dX9_lineAt_145 : decode cX9_lineAt 145 = .ok (.ireturn, 1) := by decide +kernel
theorem dX9_lineAt_146 : decode cX9_lineAt 146 = .ok (.iload 9, 2) := by decide +kernel
theorem dX9_lineAt_148 : decode cX9_lineAt 148 = .ok (.ifCond .eq 9, 3) := by decide +kernel
theorem dX9_lineAt_151 : decode cX9_lineAt 151 = .ok (.iload 9, 2) := by decide +kernel
theorem dX9_lineAt_153 : decode cX9_lineAt 153 = .ok (.iconst 4, 1) := by decide +kernel
theorem dX9_lineAt_154 : decode cX9_lineAt 154 = .ok (.if_icmp .ne 102, 3) := by decide +kernel
theorem dX9_lineAt_157 : decode cX9_lineAt 157 = .ok (.aload_n 0, 1) := by decide +kernel
theorem dX9_lineAt_158 : decode cX9_lineAt 158 = .ok (.getfield 59, 3) := by decide +kernel
theorem dX9_lineAt_161 : decode cX9_lineAt 161 = .ok (.iload 7, 2) := by decide +kernel
theorem dX9_lineAt_163 : decode cX9_lineAt 163 = .ok (.iaload, 1) := by decide +kernel
theorem dX9_lineAt_164 : decode cX9_lineAt 164 = .ok (.aload_n 0, 1) := by decide +kernel
theorem dX9_lineAt_165 : decode cX9_lineAt 165 = .ok (.getfield 59, 3) := by decide +kernel
theorem dX9_lineAt_168 : decode cX9_lineAt 168 = .ok (.iload 8, 2) := by decide +kernel
theorem dX9_lineAt_170 : decode cX9_lineAt 170 = .ok (.iaload, 1) := by decide +kernel
theorem dX9_lineAt_171 : decode cX9_lineAt 171 = .ok (.if_icmp .ge 13, 3) := by decide +kernel
theorem dX9_lineAt_174 : decode cX9_lineAt 174 = .ok (.aload_n 0, 1) := by decide +kernel
theorem dX9_lineAt_175 : decode cX9_lineAt 175 = .ok (.getfield 59, 3) := by decide +kernel
theorem dX9_lineAt_178 : decode cX9_lineAt 178 = .ok (.iload 7, 2) := by decide +kernel
theorem dX9_lineAt_180 : decode cX9_lineAt 180 = .ok (.iaload, 1) := by decide +kernel
theorem dX9_lineAt_181 : decode cX9_lineAt 181 = .ok (.goto 10, 3) := by decide +kernel
theorem dX9_lineAt_184 : decode cX9_lineAt 184 = .ok (.aload_n 0, 1) := by decide +kernel
theorem dX9_lineAt_185 : decode cX9_lineAt 185 = .ok (.getfield 59, 3) := by decide +kernel
theorem dX9_lineAt_188 : decode cX9_lineAt 188 = .ok (.iload 8, 2) := by decide +kernel
theorem dX9_lineAt_190 : decode cX9_lineAt 190 = .ok (.iaload, 1) := by decide +kernel
theorem dX9_lineAt_191 : decode cX9_lineAt 191 = .ok (.istore 10, 2) := by decide +kernel
theorem dX9_lineAt_193 : decode cX9_lineAt 193 = .ok (.iload_n 3, 1) := by decide +kernel
theorem dX9_lineAt_194 : decode cX9_lineAt 194 = .ok (.bipush 6, 2) := by decide +kernel
theorem dX9_lineAt_196 : decode cX9_lineAt 196 = .ok (.aload_n 0, 1) := by decide +kernel
theorem dX9_lineAt_197 : decode cX9_lineAt 197 = .ok (.getfield 56, 3) := by decide +kernel
theorem dX9_lineAt_200 : decode cX9_lineAt 200 = .ok (.iload 7, 2) := by decide +kernel
theorem dX9_lineAt_202 : decode cX9_lineAt 202 = .ok (.iaload, 1) := by decide +kernel
theorem dX9_lineAt_203 : decode cX9_lineAt 203 = .ok (.iload 5, 2) := by decide +kernel
theorem dX9_lineAt_205 : decode cX9_lineAt 205 = .ok (.isub, 1) := by decide +kernel
theorem dX9_lineAt_206 : decode cX9_lineAt 206 = .ok (.imul, 1) := by decide +kernel
theorem dX9_lineAt_207 : decode cX9_lineAt 207 = .ok (.if_icmp .ne 33, 3) := by decide +kernel
theorem dX9_lineAt_210 : decode cX9_lineAt 210 = .ok (.iload 4, 2) := by decide +kernel
theorem dX9_lineAt_212 : decode cX9_lineAt 212 = .ok (.iconst 2, 1) := by decide +kernel
theorem dX9_lineAt_213 : decode cX9_lineAt 213 = .ok (.iload 10, 2) := by decide +kernel
theorem dX9_lineAt_215 : decode cX9_lineAt 215 = .ok (.iload 6, 2) := by decide +kernel
theorem dX9_lineAt_217 : decode cX9_lineAt 217 = .ok (.isub, 1) := by decide +kernel
theorem dX9_lineAt_218 : decode cX9_lineAt 218 = .ok (.imul, 1) := by decide +kernel
theorem dX9_lineAt_219 : decode cX9_lineAt 219 = .ok (.if_icmp .le 21, 3) := by decide +kernel
theorem dX9_lineAt_222 : decode cX9_lineAt 222 = .ok (.iload 4, 2) := by decide +kernel
theorem dX9_lineAt_224 : decode cX9_lineAt 224 = .ok (.iconst 2, 1) := by decide +kernel
theorem dX9_lineAt_225 : decode cX9_lineAt 225 = .ok (.iload 10, 2) := by decide +kernel
theorem dX9_lineAt_227 : decode cX9_lineAt 227 = .ok (.iload_n 2, 1) := by decide +kernel
theorem dX9_lineAt_228 : decode cX9_lineAt 228 = .ok (.iadd, 1) := by decide +kernel
theorem dX9_lineAt_229 : decode cX9_lineAt 229 = .ok (.iload 6, 2) := by decide +kernel
theorem dX9_lineAt_231 : decode cX9_lineAt 231 = .ok (.isub, 1) := by decide +kernel
theorem dX9_lineAt_232 : decode cX9_lineAt 232 = .ok (.imul, 1) := by decide +kernel
theorem dX9_lineAt_233 : decode cX9_lineAt 233 = .ok (.if_icmp .ge 7, 3) := by decide +kernel
theorem dX9_lineAt_236 : decode cX9_lineAt 236 = .ok (.iconst 1, 1) := by decide +kernel
theorem dX9_lineAt_237 : decode cX9_lineAt 237 = .ok (.goto 4, 3) := by decide +kernel
theorem dX9_lineAt_240 : decode cX9_lineAt 240 = .ok (.iconst 0, 1) := by decide +kernel
theorem dX9_lineAt_241 : decode cX9_lineAt 241 = .ok (.istore 11, 2) := by decide +kernel
theorem dX9_lineAt_243 : decode cX9_lineAt 243 = .ok (.iload 11, 2) := by decide +kernel
theorem dX9_lineAt_245 : decode cX9_lineAt 245 = .ok (.ifCond .eq 8, 3) := by decide +kernel
theorem dX9_lineAt_248 : decode cX9_lineAt 248 = .ok (.bipush 124, 2) := by decide +kernel
theorem dX9_lineAt_250 : decode cX9_lineAt 250 = .ok (.goto 5, 3) := by decide +kernel
theorem dX9_lineAt_253 : decode cX9_lineAt 253 = .ok (.bipush 32, 2) := by decide +kernel
theorem dX9_lineAt_255 : decode cX9_lineAt 255 = .ok (.ireturn, 1) := by decide +kernel
theorem dX9_lineAt_256 : decode cX9_lineAt 256 = .ok (.iconst 0, 1) := by decide +kernel
theorem dX9_lineAt_257 : decode cX9_lineAt 257 = .ok (.istore 10, 2) := by decide +kernel
theorem dX9_lineAt_259 : decode cX9_lineAt 259 = .ok (.iload 10, 2) := by decide +kernel
theorem dX9_lineAt_261 : decode cX9_lineAt 261 = .ok (.iload_n 2, 1) := by decide +kernel
theorem dX9_lineAt_262 : decode cX9_lineAt 262 = .ok (.if_icmp .ge 131, 3) := by decide +kernel
theorem dX9_lineAt_265 : decode cX9_lineAt 265 = .ok (.aload_n 0, 1) := by decide +kernel
theorem dX9_lineAt_266 : decode cX9_lineAt 266 = .ok (.getfield 56, 3) := by decide +kernel
theorem dX9_lineAt_269 : decode cX9_lineAt 269 = .ok (.iload 7, 2) := by decide +kernel
theorem dX9_lineAt_271 : decode cX9_lineAt 271 = .ok (.iaload, 1) := by decide +kernel
theorem dX9_lineAt_272 : decode cX9_lineAt 272 = .ok (.iload 10, 2) := by decide +kernel
theorem dX9_lineAt_274 : decode cX9_lineAt 274 = .ok (.iload 9, 2) := by decide +kernel
theorem dX9_lineAt_276 : decode cX9_lineAt 276 = .ok (.invokestatic 132, 3) := by decide +kernel
theorem dX9_lineAt_279 : decode cX9_lineAt 279 = .ok (.imul, 1) := by decide +kernel
theorem dX9_lineAt_280 : decode cX9_lineAt 280 = .ok (.iadd, 1) := by decide +kernel
theorem dX9_lineAt_281 : decode cX9_lineAt 281 = .ok (.istore 11, 2) := by decide +kernel
theorem dX9_lineAt_283 : decode cX9_lineAt 283 = .ok (.aload_n 0, 1) := by decide +kernel
theorem dX9_lineAt_284 : decode cX9_lineAt 284 = .ok (.getfield 59, 3) := by decide +kernel
theorem dX9_lineAt_287 : decode cX9_lineAt 287 = .ok (.iload 7, 2) := by decide +kernel
theorem dX9_lineAt_289 : decode cX9_lineAt 289 = .ok (.iaload, 1) := by decide +kernel
theorem dX9_lineAt_290 : decode cX9_lineAt 290 = .ok (.iload 10, 2) := by decide +kernel
theorem dX9_lineAt_292 : decode cX9_lineAt 292 = .ok (.iload 9, 2) := by decide +kernel
theorem dX9_lineAt_294 : decode cX9_lineAt 294 = .ok (.invokestatic 135, 3) := by decide +kernel
theorem dX9_lineAt_297 : decode cX9_lineAt 297 = .ok (.imul, 1) := by decide +kernel
theorem dX9_lineAt_298 : decode cX9_lineAt 298 = .ok (.iadd, 1) := by decide +kernel
theorem dX9_lineAt_299 : decode cX9_lineAt 299 = .ok (.istore 12, 2) := by decide +kernel
theorem dX9_lineAt_301 : decode cX9_lineAt 301 = .ok (.iload 9, 2) := by decide +kernel
theorem dX9_lineAt_303 : decode cX9_lineAt 303 = .ok (.invokestatic 132, 3) := by decide +kernel
theorem dX9_lineAt_306 : decode cX9_lineAt 306 = .ok (.ifCond .le 8, 3) := by decide +kernel
theorem dX9_lineAt_309 : decode cX9_lineAt 309 = .ok (.iload 11, 2) := by decide +kernel
theorem dX9_lineAt_311 : decode cX9_lineAt 311 = .ok (.goto 7, 3) := by decide +kernel
theorem dX9_lineAt_314 : decode cX9_lineAt 314 = .ok (.iload 11, 2) := by decide +kernel
theorem dX9_lineAt_316 : decode cX9_lineAt 316 = .ok (.iconst 1, 1) := by decide +kernel
theorem dX9_lineAt_317 : decode cX9_lineAt 317 = .ok (.isub, 1) := by decide +kernel
theorem dX9_lineAt_318 : decode cX9_lineAt 318 = .ok (.istore 13, 2) := by decide +kernel
theorem dX9_lineAt_320 : decode cX9_lineAt 320 = .ok (.iload 9, 2) := by decide +kernel
theorem dX9_lineAt_322 : decode cX9_lineAt 322 = .ok (.invokestatic 135, 3) := by decide +kernel
theorem dX9_lineAt_325 : decode cX9_lineAt 325 = .ok (.ifCond .le 8, 3) := by decide +kernel
theorem dX9_lineAt_328 : decode cX9_lineAt 328 = .ok (.iload 12, 2) := by decide +kernel
theorem dX9_lineAt_330 : decode cX9_lineAt 330 = .ok (.goto 7, 3) := by decide +kernel
theorem dX9_lineAt_333 : decode cX9_lineAt 333 = .ok (.iload 12, 2) := by decide +kernel
theorem dX9_lineAt_335 : decode cX9_lineAt 335 = .ok (.iconst 1, 1) := by decide +kernel
theorem dX9_lineAt_336 : decode cX9_lineAt 336 = .ok (.isub, 1) := by decide +kernel
theorem dX9_lineAt_337 : decode cX9_lineAt 337 = .ok (.istore 14, 2) := by decide +kernel
theorem dX9_lineAt_339 : decode cX9_lineAt 339 = .ok (.iload_n 3, 1) := by decide +kernel
theorem dX9_lineAt_340 : decode cX9_lineAt 340 = .ok (.bipush 6, 2) := by decide +kernel
theorem dX9_lineAt_342 : decode cX9_lineAt 342 = .ok (.iload 13, 2) := by decide +kernel
theorem dX9_lineAt_344 : decode cX9_lineAt 344 = .ok (.iload 5, 2) := by decide +kernel
theorem dX9_lineAt_346 : decode cX9_lineAt 346 = .ok (.isub, 1) := by decide +kernel
theorem dX9_lineAt_347 : decode cX9_lineAt 347 = .ok (.imul, 1) := by decide +kernel
theorem dX9_lineAt_348 : decode cX9_lineAt 348 = .ok (.iconst 3, 1) := by decide +kernel
theorem dX9_lineAt_349 : decode cX9_lineAt 349 = .ok (.iadd, 1) := by decide +kernel
theorem dX9_lineAt_350 : decode cX9_lineAt 350 = .ok (.if_icmp .ne 37, 3) := by decide +kernel
theorem dX9_lineAt_353 : decode cX9_lineAt 353 = .ok (.iload 4, 2) := by decide +kernel
theorem dX9_lineAt_355 : decode cX9_lineAt 355 = .ok (.iconst 2, 1) := by decide +kernel
theorem dX9_lineAt_356 : decode cX9_lineAt 356 = .ok (.iload 14, 2) := by decide +kernel
theorem dX9_lineAt_358 : decode cX9_lineAt 358 = .ok (.iload 6, 2) := by decide +kernel
theorem dX9_lineAt_360 : decode cX9_lineAt 360 = .ok (.isub, 1) := by decide +kernel
theorem dX9_lineAt_361 : decode cX9_lineAt 361 = .ok (.imul, 1) := by decide +kernel
theorem dX9_lineAt_362 : decode cX9_lineAt 362 = .ok (.iconst 1, 1) := by decide +kernel
theorem dX9_lineAt_363 : decode cX9_lineAt 363 = .ok (.iadd, 1) := by decide +kernel
theorem dX9_lineAt_364 : decode cX9_lineAt 364 = .ok (.if_icmp .ne 23, 3) := by decide +kernel
theorem dX9_lineAt_367 : decode cX9_lineAt 367 = .ok (.iload 9, 2) := by decide +kernel
theorem dX9_lineAt_369 : decode cX9_lineAt 369 = .ok (.iconst 1, 1) := by decide +kernel
theorem dX9_lineAt_370 : decode cX9_lineAt 370 = .ok (.if_icmp .eq 9, 3) := by decide +kernel
theorem dX9_lineAt_373 : decode cX9_lineAt 373 = .ok (.iload 9, 2) := by decide +kernel
theorem dX9_lineAt_375 : decode cX9_lineAt 375 = .ok (.iconst 5, 1) := by decide +kernel
theorem dX9_lineAt_376 : decode cX9_lineAt 376 = .ok (.if_icmp .ne 8, 3) := by decide +kernel
theorem dX9_lineAt_379 : decode cX9_lineAt 379 = .ok (.bipush 47, 2) := by decide +kernel
theorem dX9_lineAt_381 : decode cX9_lineAt 381 = .ok (.goto 5, 3) := by decide +kernel
theorem dX9_lineAt_384 : decode cX9_lineAt 384 = .ok (.bipush 92, 2) := by decide +kernel
theorem dX9_lineAt_386 : decode cX9_lineAt 386 = .ok (.ireturn, 1) := by decide +kernel
theorem dX9_lineAt_387 : decode cX9_lineAt 387 = .ok (.iinc 10 1, 3) := by decide +kernel
theorem dX9_lineAt_390 : decode cX9_lineAt 390 = .ok (.goto (-131), 3) := by decide +kernel
theorem dX9_lineAt_393 : decode cX9_lineAt 393 = .ok (.bipush 32, 2) := by decide +kernel
theorem dX9_lineAt_395 : decode cX9_lineAt 395 = .ok (.ireturn, 1) := by decide +kernel
theorem dX9_told_0 : decode cX9_told 0 = .ok (.iconst 0, 1) := by decide +kernel
theorem dX9_told_1 : decode cX9_told 1 = .ok (.istore_n 2, 1) := by decide +kernel
theorem dX9_told_2 : decode cX9_told 2 = .ok (.iconst 0, 1) := by decide +kernel
theorem dX9_told_3 : decode cX9_told 3 = .ok (.istore_n 3, 1) := by decide +kernel
theorem dX9_told_4 : decode cX9_told 4 = .ok (.iconst 0, 1) := by decide +kernel
theorem dX9_told_5 : decode cX9_told 5 = .ok (.istore 4, 2) := by decide +kernel
theorem dX9_told_7 : decode cX9_told 7 = .ok (.iconst 0, 1) := by decide +kernel
theorem dX9_told_8 : decode cX9_told 8 = .ok (.istore 5, 2) := by decide +kernel
theorem dX9_told_10 : decode cX9_told 10 = .ok (.iconst 0, 1) := by decide +kernel
theorem dX9_told_11 : decode cX9_told 11 = .ok (.istore 6, 2) := by decide +kernel
theorem dX9_told_13 : decode cX9_told 13 = .ok (.iconst 0, 1) := by decide +kernel
theorem dX9_told_14 : decode cX9_told 14 = .ok (.istore 7, 2) := by decide +kernel
theorem dX9_told_16 : decode cX9_told 16 = .ok (.iload 7, 2) := by decide +kernel
theorem dX9_told_18 : decode cX9_told 18 = .ok (.aload_n 0, 1) := by decide +kernel
theorem dX9_told_19 : decode cX9_told 19 = .ok (.getfield 86, 3) := by decide +kernel
theorem dX9_told_22 : decode cX9_told 22 = .ok (.if_icmp .ge 139, 3) := by decide +kernel
theorem dX9_told_25 : decode cX9_told 25 = .ok (.aload_n 0, 1) := by decide +kernel
theorem dX9_told_26 : decode cX9_told 26 = .ok (.getfield 32, 3) := by decide +kernel
theorem dX9_told_29 : decode cX9_told 29 = .ok (.iload 7, 2) := by decide +kernel
theorem dX9_told_31 : decode cX9_told 31 = .ok (.baload, 1) := by decide +kernel
theorem dX9_told_32 : decode cX9_told 32 = .ok (.ifCond .eq 123, 3) := by decide +kernel
theorem dX9_told_35 : decode cX9_told 35 = .ok (.iload_n 2, 1) := by decide +kernel
theorem dX9_told_36 : decode cX9_told 36 = .ok (.ifCond .eq 14, 3) := by decide +kernel
theorem dX9_told_39 : decode cX9_told 39 = .ok (.aload_n 0, 1) := by decide +kernel
theorem dX9_told_40 : decode cX9_told 40 = .ok (.getfield 41, 3) := by decide +kernel
theorem dX9_told_43 : decode cX9_told 43 = .ok (.iload 7, 2) := by decide +kernel
theorem dX9_told_45 : decode cX9_told 45 = .ok (.iaload, 1) := by decide +kernel
theorem dX9_told_46 : decode cX9_told 46 = .ok (.iload_n 3, 1) := by decide +kernel
theorem dX9_told_47 : decode cX9_told 47 = .ok (.if_icmp .ge 13, 3) := by decide +kernel
theorem dX9_told_50 : decode cX9_told 50 = .ok (.aload_n 0, 1) := by decide +kernel
theorem dX9_told_51 : decode cX9_told 51 = .ok (.getfield 41, 3) := by decide +kernel
theorem dX9_told_54 : decode cX9_told 54 = .ok (.iload 7, 2) := by decide +kernel
theorem dX9_told_56 : decode cX9_told 56 = .ok (.iaload, 1) := by decide +kernel
theorem dX9_told_57 : decode cX9_told 57 = .ok (.goto 4, 3) := by decide +kernel
theorem dX9_told_60 : decode cX9_told 60 = .ok (.iload_n 3, 1) := by decide +kernel
theorem dX9_told_61 : decode cX9_told 61 = .ok (.istore_n 3, 1) := by decide +kernel
theorem dX9_told_62 : decode cX9_told 62 = .ok (.iload_n 2, 1) := by decide +kernel
theorem dX9_told_63 : decode cX9_told 63 = .ok (.ifCond .eq 15, 3) := by decide +kernel
theorem dX9_told_66 : decode cX9_told 66 = .ok (.aload_n 0, 1) := by decide +kernel
theorem dX9_told_67 : decode cX9_told 67 = .ok (.getfield 41, 3) := by decide +kernel
theorem dX9_told_70 : decode cX9_told 70 = .ok (.iload 7, 2) := by decide +kernel
theorem dX9_told_72 : decode cX9_told 72 = .ok (.iaload, 1) := by decide +kernel
theorem dX9_told_73 : decode cX9_told 73 = .ok (.iload 4, 2) := by decide +kernel
theorem dX9_told_75 : decode cX9_told 75 = .ok (.if_icmp .le 13, 3) := by decide +kernel
theorem dX9_told_78 : decode cX9_told 78 = .ok (.aload_n 0, 1) := by decide +kernel
theorem dX9_told_79 : decode cX9_told 79 = .ok (.getfield 41, 3) := by decide +kernel
theorem dX9_told_82 : decode cX9_told 82 = .ok (.iload 7, 2) := by decide +kernel
theorem dX9_told_84 : decode cX9_told 84 = .ok (.iaload, 1) := by decide +kernel
theorem dX9_told_85 : decode cX9_told 85 = .ok (.goto 5, 3) := by decide +kernel
theorem dX9_told_88 : decode cX9_told 88 = .ok (.iload 4, 2) := by decide +kernel
theorem dX9_told_90 : decode cX9_told 90 = .ok (.istore 4, 2) := by decide +kernel
theorem dX9_told_92 : decode cX9_told 92 = .ok (.iload_n 2, 1) := by decide +kernel
theorem dX9_told_93 : decode cX9_told 93 = .ok (.ifCond .eq 15, 3) := by decide +kernel
theorem dX9_told_96 : decode cX9_told 96 = .ok (.aload_n 0, 1) := by decide +kernel
theorem dX9_told_97 : decode cX9_told 97 = .ok (.getfield 35, 3) := by decide +kernel
theorem dX9_told_100 : decode cX9_told 100 = .ok (.iload 7, 2) := by decide +kernel
theorem dX9_told_102 : decode cX9_told 102 = .ok (.iaload, 1) := by decide +kernel
theorem dX9_told_103 : decode cX9_told 103 = .ok (.iload 5, 2) := by decide +kernel
theorem dX9_told_105 : decode cX9_told 105 = .ok (.if_icmp .le 13, 3) := by decide +kernel
theorem dX9_told_108 : decode cX9_told 108 = .ok (.aload_n 0, 1) := by decide +kernel
theorem dX9_told_109 : decode cX9_told 109 = .ok (.getfield 35, 3) := by decide +kernel
theorem dX9_told_112 : decode cX9_told 112 = .ok (.iload 7, 2) := by decide +kernel
theorem dX9_told_114 : decode cX9_told 114 = .ok (.iaload, 1) := by decide +kernel
theorem dX9_told_115 : decode cX9_told 115 = .ok (.goto 5, 3) := by decide +kernel
theorem dX9_told_118 : decode cX9_told 118 = .ok (.iload 5, 2) := by decide +kernel
theorem dX9_told_120 : decode cX9_told 120 = .ok (.istore 5, 2) := by decide +kernel
theorem dX9_told_122 : decode cX9_told 122 = .ok (.iload_n 2, 1) := by decide +kernel
theorem dX9_told_123 : decode cX9_told 123 = .ok (.ifCond .eq 15, 3) := by decide +kernel
theorem dX9_told_126 : decode cX9_told 126 = .ok (.aload_n 0, 1) := by decide +kernel
theorem dX9_told_127 : decode cX9_told 127 = .ok (.getfield 38, 3) := by decide +kernel
theorem dX9_told_130 : decode cX9_told 130 = .ok (.iload 7, 2) := by decide +kernel
theorem dX9_told_132 : decode cX9_told 132 = .ok (.iaload, 1) := by decide +kernel
theorem dX9_told_133 : decode cX9_told 133 = .ok (.iload 6, 2) := by decide +kernel
theorem dX9_told_135 : decode cX9_told 135 = .ok (.if_icmp .le 13, 3) := by decide +kernel
theorem dX9_told_138 : decode cX9_told 138 = .ok (.aload_n 0, 1) := by decide +kernel
theorem dX9_told_139 : decode cX9_told 139 = .ok (.getfield 38, 3) := by decide +kernel
theorem dX9_told_142 : decode cX9_told 142 = .ok (.iload 7, 2) := by decide +kernel
theorem dX9_told_144 : decode cX9_told 144 = .ok (.iaload, 1) := by decide +kernel
theorem dX9_told_145 : decode cX9_told 145 = .ok (.goto 5, 3) := by decide +kernel
theorem dX9_told_148 : decode cX9_told 148 = .ok (.iload 6, 2) := by decide +kernel
theorem dX9_told_150 : decode cX9_told 150 = .ok (.istore 6, 2) := by decide +kernel
theorem dX9_told_152 : decode cX9_told 152 = .ok (.iinc 2 1, 3) := by decide +kernel
theorem dX9_told_155 : decode cX9_told 155 = .ok (.iinc 7 1, 3) := by decide +kernel
theorem dX9_told_158 : decode cX9_told 158 = .ok (.goto (-142), 3) := by decide +kernel
theorem dX9_told_161 : decode cX9_told 161 = .ok (.aload_n 0, 1) := by decide +kernel
theorem dX9_told_162 : decode cX9_told 162 = .ok (.invokevirtual 129, 3) := by decide +kernel
theorem dX9_told_165 : decode cX9_told 165 = .ok (.iload_n 2, 1) := by decide +kernel
theorem dX9_told_166 : decode cX9_told 166 = .ok (.ifCond .ne 7, 3) := by decide +kernel
theorem dX9_told_169 : decode cX9_told 169 = .ok (.iconst 0, 1) := by decide +kernel
theorem dX9_told_170 : decode cX9_told 170 = .ok (.goto 4, 3) := by decide +kernel
theorem dX9_told_173 : decode cX9_told 173 = .ok (.iconst 1, 1) := by decide +kernel
theorem dX9_told_174 : decode cX9_told 174 = .ok (.istore 7, 2) := by decide +kernel
theorem dX9_told_176 : decode cX9_told 176 = .ok (.iload_n 1, 1) := by decide +kernel
theorem dX9_told_177 : decode cX9_told 177 = .ok (.ifCond .ne 10, 3) := by decide +kernel
theorem dX9_told_180 : decode cX9_told 180 = .ok (.aload_n 0, 1) := by decide +kernel
theorem dX9_told_181 : decode cX9_told 181 = .ok (.getfield 86, 3) := by decide +kernel
theorem dX9_told_184 : decode cX9_told 184 = .ok (.goto 100, 3) := by decide +kernel
theorem dX9_told_187 : decode cX9_told 187 = .ok (.iload_n 1, 1) := by decide +kernel
theorem dX9_told_188 : decode cX9_told 188 = .ok (.iconst 1, 1) := by decide +kernel
theorem dX9_told_189 : decode cX9_told 189 = .ok (.if_icmp .ne 10, 3) := by decide +kernel
theorem dX9_told_192 : decode cX9_told 192 = .ok (.aload_n 0, 1) := by decide +kernel
theorem dX9_told_193 : decode cX9_told 193 = .ok (.getfield 94, 3) := by decide +kernel
theorem dX9_told_196 : decode cX9_told 196 = .ok (.goto 88, 3) := by decide +kernel
theorem dX9_told_199 : decode cX9_told 199 = .ok (.iload_n 1, 1) := by decide +kernel
theorem dX9_told_200 : decode cX9_told 200 = .ok (.iconst 2, 1) := by decide +kernel
theorem dX9_told_201 : decode cX9_told 201 = .ok (.if_icmp .ne 10, 3) := by decide +kernel
theorem dX9_told_204 : decode cX9_told 204 = .ok (.aload_n 0, 1) := by decide +kernel
theorem dX9_told_205 : decode cX9_told 205 = .ok (.getfield 126, 3) := by decide +kernel
theorem dX9_told_208 : decode cX9_told 208 = .ok (.goto 76, 3) := by decide +kernel
theorem dX9_told_211 : decode cX9_told 211 = .ok (.iload_n 1, 1) := by decide +kernel
theorem dX9_told_212 : decode cX9_told 212 = .ok (.iconst 3, 1) := by decide +kernel
theorem dX9_told_213 : decode cX9_told 213 = .ok (.if_icmp .ne 7, 3) := by decide +kernel
theorem dX9_told_216 : decode cX9_told 216 = .ok (.iload_n 2, 1) := by decide +kernel
theorem dX9_told_217 : decode cX9_told 217 = .ok (.goto 67, 3) := by decide +kernel
theorem dX9_told_220 : decode cX9_told 220 = .ok (.iload_n 1, 1) := by decide +kernel
theorem dX9_told_221 : decode cX9_told 221 = .ok (.iconst 4, 1) := by decide +kernel
theorem dX9_told_222 : decode cX9_told 222 = .ok (.if_icmp .ne 7, 3) := by decide +kernel
theorem dX9_told_225 : decode cX9_told 225 = .ok (.iload_n 3, 1) := by decide +kernel
theorem dX9_told_226 : decode cX9_told 226 = .ok (.goto 58, 3) := by decide +kernel
theorem dX9_told_229 : decode cX9_told 229 = .ok (.iload_n 1, 1) := by decide +kernel
theorem dX9_told_230 : decode cX9_told 230 = .ok (.iconst 5, 1) := by decide +kernel
theorem dX9_told_231 : decode cX9_told 231 = .ok (.if_icmp .ne 8, 3) := by decide +kernel
theorem dX9_told_234 : decode cX9_told 234 = .ok (.iload 4, 2) := by decide +kernel
theorem dX9_told_236 : decode cX9_told 236 = .ok (.goto 48, 3) := by decide +kernel
theorem dX9_told_239 : decode cX9_told 239 = .ok (.iload_n 1, 1) := by decide +kernel
theorem dX9_told_240 : decode cX9_told 240 = .ok (.bipush 6, 2) := by decide +kernel
theorem dX9_told_242 : decode cX9_told 242 = .ok (.if_icmp .ne 19, 3) := by decide +kernel
theorem dX9_told_245 : decode cX9_told 245 = .ok (.iload 7, 2) := by decide +kernel
theorem dX9_told_247 : decode cX9_told 247 = .ok (.iload 5, 2) := by decide +kernel
theorem dX9_told_249 : decode cX9_told 249 = .ok (.aload_n 0, 1) := by decide +kernel
theorem dX9_told_250 : decode cX9_told 250 = .ok (.iconst 1, 1) := by decide +kernel
theorem dX9_told_251 : decode cX9_told 251 = .ok (.invokevirtual 236, 3) := by decide +kernel
theorem dX9_told_254 : decode cX9_told 254 = .ok (.isub, 1) := by decide +kernel
theorem dX9_told_255 : decode cX9_told 255 = .ok (.iconst 1, 1) := by decide +kernel
theorem dX9_told_256 : decode cX9_told 256 = .ok (.iadd, 1) := by decide +kernel
theorem dX9_told_257 : decode cX9_told 257 = .ok (.imul, 1) := by decide +kernel
theorem dX9_told_258 : decode cX9_told 258 = .ok (.goto 26, 3) := by decide +kernel
theorem dX9_told_261 : decode cX9_told 261 = .ok (.iload_n 1, 1) := by decide +kernel
theorem dX9_told_262 : decode cX9_told 262 = .ok (.bipush 7, 2) := by decide +kernel
theorem dX9_told_264 : decode cX9_told 264 = .ok (.if_icmp .ne 19, 3) := by decide +kernel
theorem dX9_told_267 : decode cX9_told 267 = .ok (.iload 7, 2) := by decide +kernel
theorem dX9_told_269 : decode cX9_told 269 = .ok (.iload 6, 2) := by decide +kernel
theorem dX9_told_271 : decode cX9_told 271 = .ok (.aload_n 0, 1) := by decide +kernel
theorem dX9_told_272 : decode cX9_told 272 = .ok (.iconst 0, 1) := by decide +kernel
theorem dX9_told_273 : decode cX9_told 273 = .ok (.invokevirtual 236, 3) := by decide +kernel
theorem dX9_told_276 : decode cX9_told 276 = .ok (.isub, 1) := by decide +kernel
theorem dX9_told_277 : decode cX9_told 277 = .ok (.iconst 1, 1) := by decide +kernel
theorem dX9_told_278 : decode cX9_told 278 = .ok (.iadd, 1) := by decide +kernel
theorem dX9_told_279 : decode cX9_told 279 = .ok (.imul, 1) := by decide +kernel
theorem dX9_told_280 : decode cX9_told 280 = .ok (.goto 4, 3) := by decide +kernel
theorem dX9_told_283 : decode cX9_told 283 = .ok (.iconst (-1), 1) := by decide +kernel
theorem dX9_told_284 : decode cX9_told 284 = .ok (.ireturn, 1) := by decide +kernel
end
section
/-! ENGINE: the machine over whole numbers. Values are ints, longs (whole numbers in range) and places; the store gives each variable (an array's place, or an object's int field) its elements. -/
abbrev Sto : Type := Nat → Int → Int
abbrev MV : Type := Int ⊕ (Nat ⊕ Int)
abbrev mI (x : Int) : MV := Sum.inl x
abbrev mP (q : Nat) : MV := Sum.inr (Sum.inl q)
abbrev mL (x : Int) : MV := Sum.inr (Sum.inr x)
def mval (ad : Nat → Nat) (v : MV) : Value := match v with
  | Sum.inl x => .int (Int32.ofInt x)
  | Sum.inr (Sum.inl q) => .ref (ad q)
  | Sum.inr (Sum.inr x) => .long (Int64.ofInt x)
def inR (x : Int) : Prop := -2147483648 ≤ x ∧ x ≤ 2147483647
def inL (x : Int) : Prop := -9223372036854775808 ≤ x ∧ x ≤ 9223372036854775807
def okV (v : MV) : Prop := match v with
  | Sum.inl x => inR x
  | Sum.inr (Sum.inl _) => True
  | Sum.inr (Sum.inr x) => inL x
def su (t : Sto) (v : Nat) (i x : Int) : Sto := fun w j => if w = v ∧ j = i then x else t w j
theorem su_ne {t : Sto} {v w : Nat} {i x : Int} (h : w ≠ v) : su t v i x w = t w := by funext j; simp [su, h]
theorem su_at (t : Sto) (v : Nat) (i x : Int) : su t v i x v i = x := by simp [su]
theorem su_same (t : Sto) (v : Nat) (i x j : Int) : su t v i x v j = if j = i then x else t v j := by simp [su]
def okS (t : Sto) : Prop := ∀ v i, inR (t v i)
theorem okS_su {t : Sto} (h : okS t) {v : Nat} {i x : Int} (hx : inR x) : okS (su t v i x) := by
  intro w j
  unfold su
  split
  · exact hx
  · exact h w j
-- numbers
theorem io_toInt {x : Int} (h : inR x) : (Int32.ofInt x).toInt = x := Int32.toInt_ofInt_of_le (by unfold inR at h; omega) (by unfold inR at h; omega)
theorem io_eq {x y : Int} (hx : inR x) (hy : inR y) : Int32.ofInt x = Int32.ofInt y ↔ x = y := by
  constructor
  · intro h
    rw [← io_toInt hx, ← io_toInt hy, h]
  · intro h; rw [h]
theorem io_lt {x y : Int} (hx : inR x) (hy : inR y) : Int32.ofInt x < Int32.ofInt y ↔ x < y := by
  rw [Int32.lt_iff_toInt_lt, io_toInt hx, io_toInt hy]
theorem io_le {x y : Int} (hx : inR x) (hy : inR y) : Int32.ofInt x ≤ Int32.ofInt y ↔ x ≤ y := by
  rw [Int32.le_iff_toInt_le, io_toInt hx, io_toInt hy]
theorem io_0 : (0 : Int32) = Int32.ofInt 0 := rfl
theorem inR_0 : inR 0 := ⟨by decide, by decide⟩
theorem io_in {i : Int} {n : Nat} (hi : inR i) (h0 : 0 ≤ i) (h1 : i < n) : vp_in (Int32.ofInt i) n := by
  unfold vp_in
  rw [io_0, io_lt hi inR_0, Int32.toNatClampNeg_ofInt_of_le (by unfold inR at hi; omega) (by unfold inR at hi; omega)]
  omega
theorem io_nat {i : Int} (hi : inR i) : (Int32.ofInt i).toNatClampNeg = i.toNat := Int32.toNatClampNeg_ofInt_of_le (by unfold inR at hi; omega) (by unfold inR at hi; omega)
-- the shapes of the places
def NP : Nat := 57
def arS (k : Nat) : Option (Bool × Nat) := match k with
  | 10 => some (false, 24)
  | 11 => some (false, 24)
  | 12 => some (false, 24)
  | 13 => some (false, 60)
  | 14 => some (false, 60)
  | 15 => some (false, 60)
  | 16 => some (true, 60)
  | 17 => some (false, 24)
  | 18 => some (false, 24)
  | 19 => some (false, 24)
  | 20 => some (false, 24)
  | 21 => some (true, 24)
  | 22 => some (false, 24)
  | 23 => some (false, 24)
  | 24 => some (false, 24)
  | 25 => some (true, 24)
  | 26 => some (false, 24)
  | 27 => some (true, 24)
  | 28 => some (false, 25)
  | 29 => some (false, 120)
  | 30 => some (false, 24)
  | 32 => some (false, 24)
  | 33 => some (false, 24)
  | 34 => some (false, 24)
  | 35 => some (false, 60)
  | 36 => some (false, 60)
  | 37 => some (false, 60)
  | 38 => some (true, 60)
  | 39 => some (true, 24)
  | 40 => some (false, 24)
  | 41 => some (false, 24)
  | 42 => some (false, 24)
  | 43 => some (true, 24)
  | 44 => some (false, 24)
  | 45 => some (false, 24)
  | 46 => some (true, 24)
  | 47 => some (false, 24)
  | 48 => some (false, 24)
  | 49 => some (false, 24)
  | 50 => some (false, 24)
  | 51 => some (true, 24)
  | 52 => some (false, 24)
  | 53 => some (false, 24)
  | 54 => some (false, 24)
  | 55 => some (false, 24)
  | 56 => some (false, 24)
  | _ => none
def ocS (k : Nat) : Nat := match k with
  | 0 => 8
  | 1 => 5
  | 2 => 1
  | 3 => 2
  | 4 => 2
  | 5 => 3
  | 6 => 6
  | 7 => 0
  | 8 => 7
  | 9 => 4
  | 31 => 9
  | _ => 0
def fkS (k : Nat) : List (Nat ⊕ Nat) := match k with
  | 0 => [Sum.inr 1, Sum.inr 2, Sum.inr 3, Sum.inr 5, Sum.inr 8, Sum.inr 9]
  | 1 => [Sum.inr 10, Sum.inr 11, Sum.inr 12, Sum.inl 267, Sum.inr 13, Sum.inr 14, Sum.inr 15, Sum.inr 16, Sum.inl 272]
  | 2 => [Sum.inr 17]
  | 3 => [Sum.inr 1, Sum.inr 18, Sum.inr 19, Sum.inr 20, Sum.inr 21]
  | 4 => [Sum.inr 1, Sum.inr 22, Sum.inr 23, Sum.inr 24, Sum.inr 25]
  | 5 => [Sum.inr 1, Sum.inr 2, Sum.inr 3, Sum.inr 4, Sum.inr 6, Sum.inr 7, Sum.inr 26, Sum.inl 527, Sum.inr 27, Sum.inl 529, Sum.inl 530, Sum.inl 531, Sum.inl 532, Sum.inl 533, Sum.inl 534]
  | 6 => [Sum.inr 28, Sum.inr 29]
  | 7 => [Sum.inr 1, Sum.inr 6, Sum.inl 650, Sum.inl 651, Sum.inl 652]
  | 8 => [Sum.inr 1, Sum.inr 30]
  | 9 => [Sum.inr 1, Sum.inr 3, Sum.inl 778, Sum.inl 779]
  | 31 => [Sum.inl 2184, Sum.inr 32, Sum.inr 33, Sum.inr 34, Sum.inl 2188, Sum.inr 35, Sum.inr 36, Sum.inr 37, Sum.inr 38, Sum.inr 39, Sum.inr 40, Sum.inr 41, Sum.inr 42, Sum.inl 2197, Sum.inl 2198, Sum.inr 43, Sum.inr 44, Sum.inl 2201, Sum.inr 45, Sum.inr 46, Sum.inr 47, Sum.inr 48, Sum.inr 49, Sum.inl 2207, Sum.inl 2208, Sum.inl 2209, Sum.inl 2210, Sum.inr 50, Sum.inr 51, Sum.inr 52, Sum.inr 53, Sum.inr 54, Sum.inr 55, Sum.inl 2217, Sum.inr 56]
  | _ => []
/-- the static rows: class, name, contents -/
def stS : List (String × String × List Int) := [("MapDrawer", "OPPOSITE", [4, 5, 6, 7, 0, 1, 2, 3, 9, 8]), ("MapDrawer", "EAST", [0, 1, 1, 1, 0, (-1), (-1), (-1), 0, 0]), ("MapDrawer", "SOUTH", [(-1), (-1), 0, 1, 1, 1, 0, (-1), 0, 0]), ("MapDrawer", "RISE", [0, 0, 0, 0, 0, 0, 0, 0, 1, (-1)]), ("MapDrawer$Sheet", "LINE", [124, 47, 45, 92, 124, 47, 45, 92])]
def fvS (ad : Nat → Nat) (t : Sto) (f : Nat ⊕ Nat) : Value := match f with
  | Sum.inl v => .int (Int32.ofInt (t v 0))
  | Sum.inr q => .ref (ad q)
def entS (cy : Bool → ClassId) (ad : Nat → Nat) (t : Sto) (k : Nat) : va_E := match arS k with
  | some (b, n) => .inl (cy b, n, .inl (fun j => Int32.ofInt (t k (j : Int))))
  | none => .inr (ocS k, (fkS k).map (fvS ad t))
def wd (cy : Bool → ClassId) (ad : Nat → Nat) (t : Sto) : va_W := (List.range NP).map (fun k => (ad k, entS cy ad t k))
theorem wd_at {cy : Bool → ClassId} {ad : Nat → Nat} {t : Sto} {k : Nat} (h : k < NP) : (wd cy ad t)[k]? = some (ad k, entS cy ad t k) := by
  simp [wd, h]
theorem wd_len {cy : Bool → ClassId} {ad : Nat → Nat} {t : Sto} : (wd cy ad t).length = NP := by simp [wd]
theorem wd_arr {cy : Bool → ClassId} {ad : Nat → Nat} {t : Sto} {k n : Nat} {b : Bool} (ha : arS k = some (b, n)) (h : k < NP) : (wd cy ad t)[k]? = some (ad k, .inl (cy b, n, .inl (fun j => Int32.ofInt (t k (j : Int))))) := by
  rw [wd_at h]; simp [entS, ha]
theorem wd_obj {cy : Bool → ClassId} {ad : Nat → Nat} {t : Sto} {k : Nat} (ha : arS k = none) (h : k < NP) : (wd cy ad t)[k]? = some (ad k, .inr (ocS k, (fkS k).map (fvS ad t))) := by
  rw [wd_at h]; simp [entS, ha]
def fkCheck : Bool := (List.range NP).all fun k => (List.range (fkS k).length).all fun f => match (fkS k)[f]? with
  | some (Sum.inl v) => v == 200 + 64 * k + f && decide (f < 64)
  | _ => true
theorem fk_ok : fkCheck = true := by decide +kernel
theorem fk_var {k f v : Nat} (hk : k < NP) (h : (fkS k)[f]? = some (Sum.inl v)) : v = 200 + 64 * k + f ∧ f < 64 := by
  have h1 := List.all_eq_true.mp fk_ok k (List.mem_range.mpr hk)
  have hf : f < (fkS k).length := (List.getElem?_eq_some_iff.mp h).1
  have h2 := List.all_eq_true.mp h1 f (List.mem_range.mpr hf)
  rw [h] at h2
  simpa using h2
theorem fvS_ne {ad : Nat → Nat} {t : Sto} {v : Nat} {i x : Int} {f : Nat ⊕ Nat} (h : f ≠ Sum.inl v) : fvS ad (su t v i x) f = fvS ad t f := by
  cases f with
  | inl w =>
    have hw : w ≠ v := fun e => h (by rw [e])
    simp [fvS, su_ne hw]
  | inr q => rfl
theorem wd_set_arr {cy : Bool → ClassId} {ad : Nat → Nat} {t : Sto} {k n : Nat} {b : Bool} {i x : Int} (ha : arS k = some (b, n)) (hk : k < NP) (h0 : 0 ≤ i) :
    (wd cy ad t).set k (ad k, .inl (cy b, n, .inl (upd (fun j => Int32.ofInt (t k (j : Int))) i.toNat (Int32.ofInt x)))) = wd cy ad (su t k i x) := by
  apply List.ext_getElem?
  intro j
  rw [List.getElem?_set]
  by_cases hj : k = j
  · subst hj
    simp only [wd_len, hk, if_true]
    rw [wd_arr ha hk]
    congr 6
    funext q
    unfold upd
    by_cases hq : q = i.toNat
    · subst hq
      have : ((i.toNat : Nat) : Int) = i := Int.toNat_of_nonneg h0
      rw [if_pos rfl, this, su_at]
    · have hne : ¬ ((q : Int) = i) := fun e => hq (by omega)
      simp [hq, su_same, hne]
  · rw [if_neg hj]
    by_cases hjN : j < NP
    · rw [wd_at hjN, wd_at hjN]
      congr 2
      unfold entS
      cases hA : arS j with
      | some q =>
        obtain ⟨b2, n2⟩ := q
        simp only [su_ne (Ne.symm hj)]
      | none =>
        show Sum.inr _ = Sum.inr _
        congr 2
        apply List.map_congr_left
        intro f hf
        apply Eq.symm
        apply fvS_ne
        intro e
        obtain ⟨fi, hfi⟩ := List.getElem?_of_mem hf
        rw [e] at hfi
        have := (fk_var hjN hfi).1
        unfold NP at hk
        omega
    · rw [List.getElem?_eq_none (by rw [wd_len]; omega), List.getElem?_eq_none (by rw [wd_len]; omega)]
theorem wd_set_fld {cy : Bool → ClassId} {ad : Nat → Nat} {t : Sto} {k f v : Nat} {x : Int} (ha : arS k = none) (hk : k < NP) (hf : (fkS k)[f]? = some (Sum.inl v)) :
    (wd cy ad t).set k (ad k, .inr (ocS k, ((fkS k).map (fvS ad t)).set f (.int (Int32.ofInt x)))) = wd cy ad (su t v 0 x) := by
  have hv := (fk_var hk hf).1
  apply List.ext_getElem?
  intro j
  rw [List.getElem?_set]
  by_cases hj : k = j
  · subst hj
    simp only [wd_len, hk, if_true]
    rw [wd_obj ha hk]
    congr 4
    apply List.ext_getElem?
    intro g
    rw [List.getElem?_set, List.getElem?_map, List.getElem?_map]
    by_cases hg : f = g
    · subst hg
      have hlt := (List.getElem?_eq_some_iff.mp hf).1
      rw [if_pos rfl, List.length_map, if_pos hlt, hf]
      simp [fvS, su_at]
    · rw [if_neg hg]
      cases hq : (fkS k)[g]? with
      | none => rfl
      | some w =>
        simp only [Option.map_some]
        rw [fvS_ne]
        intro e
        rw [e] at hq
        have := (fk_var hk hq).1
        omega
  · rw [if_neg hj]
    by_cases hjN : j < NP
    · rw [wd_at hjN, wd_at hjN]
      congr 2
      unfold entS
      cases hA : arS j with
      | some q =>
        obtain ⟨b2, n2⟩ := q
        have : j ≠ v := by unfold NP at hjN; omega
        simp only [su_ne this]
      | none =>
        show Sum.inr _ = Sum.inr _
        congr 2
        apply List.map_congr_left
        intro fe hfe
        apply Eq.symm
        apply fvS_ne
        intro e
        obtain ⟨fi, hfi⟩ := List.getElem?_of_mem hfe
        rw [e] at hfi
        have h3 := (fk_var hjN hfi)
        have h4 := (fk_var hk hf)
        omega
    · rw [List.getElem?_eq_none (by rw [wd_len]; omega), List.getElem?_eq_none (by rw [wd_len]; omega)]
-- the world's addresses
def Aw (ad : Nat → Nat) : Nat → Prop := fun q => ∃ k, k < NP ∧ q = ad k
def apartW (ad : Nat → Nat) : Prop := ∀ i j, i < NP → j < NP → ad i = ad j → i = j
theorem wd_D {cy : Bool → ClassId} {ad : Nat → Nat} {t : Sto} (h : apartW ad) : va_D (Aw ad) (wd cy ad t) := by
  refine ⟨fun i j p q hp hq e => ?_, fun k q hq => ?_⟩
  · have hi : i < NP := by have := (List.getElem?_eq_some_iff.mp hp).1; rwa [wd_len] at this
    have hj : j < NP := by have := (List.getElem?_eq_some_iff.mp hq).1; rwa [wd_len] at this
    rw [wd_at hi] at hp
    rw [wd_at hj] at hq
    cases hp
    cases hq
    exact h i j hi hj e
  · have hk : k < NP := by have := (List.getElem?_eq_some_iff.mp hq).1; rwa [wd_len] at this
    rw [wd_at hk] at hq
    cases hq
    exact ⟨k, hk, rfl⟩
end
section
/-! THE JUDGEMENT G and its rules, an instruction a rule -/
def gw : List Cond := lw_tbl.filter goodWord
theorem gw_mem {w : Cond} (i : Nat) (h : lw_tbl[i]? = some w) (hg : goodWord w = true) : w ∈ gw := List.mem_filter.mpr ⟨List.mem_of_getElem? h, hg⟩
theorem gw_in {w : Cond} (h : w ∈ gw) : w ∈ lw_tbl := (List.mem_filter.mp h).1
theorem gw_good {y : MethodName} {cc : ByteArray} {nL : Nat} {ret : Option FieldType} (hm : Cond.code y cc nL ret ∈ gw) : GoodIn gw (Cond.code y cc nL ret :: gw) := by
  intro w hw
  have h : w ∈ gw := by
    rcases List.mem_cons.mp hw with e | e
    · rw [e]; exact hm
    · exact e
  exact ⟨h, good_of_word (List.mem_filter.mp h).2⟩
def isNest (w : Cond) : Bool := match w with
  | .fieldLinkNest _ _ _ _ _ _ => true
  | _ => false
def nwF : List Cond := lw_tbl.filter isNest
theorem nw_mem {w : Cond} (i : Nat) (h : lw_tbl[i]? = some w) (hg : isNest w = true) : w ∈ nwF := List.mem_filter.mpr ⟨List.mem_of_getElem? h, hg⟩
theorem nw_warm {s U : State} (hW : s.WarmedH U.vm) (h : ∀ w ∈ nwF, va_Nw w s) : ∀ w ∈ nwF, va_Nw w U := by
  intro w hw
  have h1 := h w hw
  have h2 := (List.mem_filter.mp hw).2
  cases w <;> first | exact va_Nw.warmF hW h1 | (simp [isNest] at h2)
theorem nw_same {s U : State} (hv : s.vm = U.vm) (h : ∀ w ∈ nwF, va_Nw w s) : ∀ w ∈ nwF, va_Nw w U := by
  intro w hw
  have h1 := h w hw
  have h2 := (List.mem_filter.mp hw).2
  cases w <;> first | exact va_Nw.same rfl hv h1 | (simp [isNest] at h2)
def stK (ad : Nat → Nat) (U : State) (H : Heap) : Prop := ∀ (k : Nat) (q : String × String × List Int), stS[k]? = some q → va_Z q.1 q.2.1 "[I" (.ref (ad (100 + k))) (Aw ad) U H ∧ va_T .int (ad (100 + k)) q.2.2.length (fun j => .int (Int32.ofInt (q.2.2.getD j 0))) (Aw ad) U H
theorem stK.moved {ad : Nat → Nat} {u U : State} {H : Heap} (hvm : u.vm.Alike U.vm) (h : stK ad u H) : stK ad U H := fun k q hq => ⟨(h k q hq).1.moved hvm, (h k q hq).2.moved hvm⟩
theorem stK.kept {ad : Nat → Nat} {U : State} {H H1 : Heap} (h : stK ad U H) (hq : ∀ a : Nat, a < H.size → ¬ Aw ad a → H1[a]? = H[a]?) : stK ad U H1 := fun k q hk => ⟨(h k q hk).1.kept hq, (h k q hk).2.kept hq⟩
abbrev tyW (cy : Bool → ClassId) : List (ClassId × FieldType) := [(cy false, .int), (cy true, .boolean)]
def cxK (D : va_G) (cy : Bool → ClassId) (ad : Nat → Nat) (U : State) (H : Heap) : Prop := va_K D vwCl (tyW cy) U ∧ (∀ w ∈ nwF, va_Nw w U) ∧ stK ad U H
/-- what stands behind a method: an answer, a store -/
def Qx (D : va_G) (cy : Bool → ClassId) (ad : Nat → Nat) (Q : Option MV → Sto → Prop) : Array Value → State → Outcome → State → Prop := fun _ st oc t =>
  (∃ (r : Option MV) (t' : Sto), oc = .returned (r.map (mval ad)) ∧ (∀ v, r = some v → okV v) ∧ Q r t' ∧ va_P D vwCl (wd cy ad t') t.heap ∧ okS t') ∧ va_F (Aw ad) st t
def lok (la : Array Slot) (nL : Nat) (ad : Nat → Nat) (ls : List (Option MV)) : Prop := ∃ lv, lv_has la nL lv ∧ ls.length ≤ nL ∧ ∀ n v, ls[n]? = some (some v) → (n, mval ad v) ∈ lv
abbrev Ev : Type := (Program × Launch × Env × Room × State) × (MethodId × Array Value × List Frame × Method × Code) × (va_G × (Bool → ClassId) × (Nat → Nat))
def EvOK (E : Ev) (cc : ByteArray) (own : String) (ret : Option FieldType) (d : Nat) : Prop := match E with
  | ((p, _, _, R, s), (m, args, _, meth, c), (D, cy, ad)) => p.tables.exec = Jvm.exec ∧ c.code = cc ∧ meth.sig.returnType = ret ∧ meth.locks = false ∧ s.vm.findClass own = some m.cls ∧ (∀ w ∈ gw, w.before args s = true) ∧ apartW ad ∧ cxK D cy ad s s.heap ∧ d ≤ R.frames ∧ 64 * d ≤ R.locals
def G (E : Ev) (cc : ByteArray) (own : String) (ret : Option FieldType) (d : Nat) (pc : Nat) (ls : List (Option MV)) (st : List MV) (t : Sto) (Q : Option MV → Sto → Prop) : Prop := match E with
  | ((p, l, e, R, s), (m, args, below, meth, c), (D, cy, ad)) => EvOK ((p, l, e, R, s), (m, args, below, meth, c), (D, cy, ad)) cc own ret d → okS t → (∀ v ∈ st, okV v) → (∀ v, some v ∈ ls → okV v) →
    ∀ (H : Heap) (locs : List Loc) (la : Array Slot), va_P D vwCl (wd cy ad t) H → va_S (Aw ad) s.heap H locs → lok la c.maxLocals ad ls →
      W p l e R s m args below meth c H locs 0 0 (MQ below (Qx D cy ad Q) args s 0 0 (Aw ad)) (F0 m pc la (st.map (mval ad)))
/-- a method's contract at a store: called with these values it answers and leaves a store so that Q -/
def CT (y : MethodName) (cc : ByteArray) (nL : Nat) (ret : Option FieldType) (d : Nat) (as : List MV) (t : Sto) (Q : Option MV → Sto → Prop) : Prop :=
  ∀ (l : Launch) (D : va_G) (cy : Bool → ClassId) (ad : Nat → Nat), Met l y (Cond.code y cc nL ret :: gw) { frames := d, cells := 0, slots := 0, locals := 64 * d }
    (va_Pc (as.map (mval ad)) (fun U => va_P D vwCl (wd cy ad t) U.heap ∧ okS t ∧ (∀ v ∈ as, okV v) ∧ apartW ad ∧ cxK D cy ad U U.heap)) (Qx D cy ad Q) 0 0 (Aw ad)
theorem lok.get {la : Array Slot} {nL : Nat} {ad : Nat → Nat} {ls : List (Option MV)} (h : lok la nL ad ls) {n : Nat} {v : MV} (hn : ls[n]? = some (some v)) : la[n]? = some (.val (mval ad v)) := by
  obtain ⟨lv, h1, -, h3⟩ := h
  exact h1.2.2 _ (h3 n v hn)
def notLong (o : Option (Option MV)) : Bool := match o with
  | some (some (Sum.inr (Sum.inr _))) => false
  | _ => true
theorem mval_cat {ad : Nat → Nat} {v : MV} (h : notLong (some (some v)) = true) : (mval ad v).category = 1 := by
  rcases v with x | q | x
  · rfl
  · rfl
  · simp [notLong] at h
/-- a value of one slot is put -/
theorem lok.put {la : Array Slot} {nL : Nat} {ad : Nat → Nat} {ls : List (Option MV)} (h : lok la nL ad ls) {i : Nat} (v : MV) (hi : i < ls.length) (hv : notLong (some (some v)) = true) (hb : (i == 0 || notLong ls[i-1]?) = true) {lv : List (Nat × Value)} (hlv : lv_has la nL lv) (hin : ∀ n v, ls[n]? = some (some v) → (n, mval ad v) ∈ lv) {la' : Array Slot} (h' : lv_has la' nL ((i, mval ad v) :: lv.filter (fun q => !(q.1 == i) && !(q.1 + 1 == i && q.2.category == 2)))) : lok la' nL ad (ls.set i (some v)) := by
  obtain ⟨-, -, hlen, -⟩ := h
  refine ⟨_, h', by simpa using hlen, fun n w hn => ?_⟩
  rw [List.getElem?_set] at hn
  by_cases e : i = n
  · subst e
    simp only [hi, if_true] at hn
    cases hn
    exact List.mem_cons_self
  · rw [if_neg e] at hn
    refine List.mem_cons_of_mem _ (List.mem_filter.mpr ⟨hin n w hn, ?_⟩)
    simp only [Bool.and_eq_true, Bool.not_eq_true', beq_eq_false_iff_ne, ne_eq, Bool.and_eq_false_iff]
    refine ⟨fun e2 => e e2.symm, ?_⟩
    by_cases e3 : n + 1 = i
    · right
      have hb2 : notLong ls[i-1]? = true := by
        rcases Bool.or_eq_true_iff.mp hb with z | z
        · have : i = 0 := by simpa using z
          omega
        · exact z
      have e4 : i - 1 = n := by omega
      rw [e4, hn] at hb2
      rw [mval_cat hb2]
      decide
    · left
      exact e3
theorem ok_cons {v : MV} {st : List MV} (hv : okV v) (h : ∀ w ∈ st, okV w) : ∀ w ∈ v :: st, okV w := by
  intro w hw
  rcases List.mem_cons.mp hw with e | e
  · rw [e]; exact hv
  · exact h w e
theorem ok_tl {v : MV} {st : List MV} (h : ∀ w ∈ v :: st, okV w) : ∀ w ∈ st, okV w := fun w hw => h w (List.mem_cons_of_mem _ hw)
theorem ok_hd {v : MV} {st : List MV} (h : ∀ w ∈ v :: st, okV w) : okV v := h v List.mem_cons_self
theorem ok_set {ls : List (Option MV)} {i : Nat} {v : MV} (h : ∀ w, some w ∈ ls → okV w) (hv : okV v) : ∀ w, some w ∈ ls.set i (some v) → okV w := by
  intro w hw
  rcases List.mem_or_eq_of_mem_set hw with e | e
  · exact h w e
  · cases e; exact hv
theorem ok_at {ls : List (Option MV)} {n : Nat} {v : MV} (h : ∀ w, some w ∈ ls → okV w) (hn : ls[n]? = some (some v)) : okV v := h v (List.mem_of_getElem? hn)
section RULES
variable {E : Ev} {cc : ByteArray} {own : String} {ret : Option FieldType} {d pc : Nat} {ls : List (Option MV)} {st : List MV} {t : Sto} {Q : Option MV → Sto → Prop}
theorem G_iconst {n : Int} (hd : decode cc pc = .ok (.iconst n, 1)) (hn : -2147483648 ≤ n ∧ n ≤ 2147483647) (k : G E cc own ret d (pc + 1) ls (mI n :: st) t Q) : G E cc own ret d pc ls st t Q := by
  obtain ⟨⟨p, l, e, R, s⟩, ⟨m, args, below, meth, c⟩, ⟨D, cy, ad⟩⟩ := E
  intro hE ht hst hls H locs la hP hS hla
  exact lv_iconst hE.1 hE.2.1 hd rfl (k hE ht (ok_cons hn hst) hls H locs la hP hS hla)
theorem G_bipush {n x : Int} (hd : decode cc pc = .ok (.bipush n, 2)) (hx : (Int8.ofInt n).toInt32 = Int32.ofInt x) (hn : -2147483648 ≤ x ∧ x ≤ 2147483647) (k : G E cc own ret d (pc + 2) ls (mI x :: st) t Q) : G E cc own ret d pc ls st t Q := by
  obtain ⟨⟨p, l, e, R, s⟩, ⟨m, args, below, meth, c⟩, ⟨D, cy, ad⟩⟩ := E
  intro hE ht hst hls H locs la hP hS hla
  exact lv_bipush hE.1 hE.2.1 hd hx (k hE ht (ok_cons hn hst) hls H locs la hP hS hla)
theorem G_sipush {n x : Int} (hd : decode cc pc = .ok (.sipush n, 3)) (hx : (Int16.ofInt n).toInt32 = Int32.ofInt x) (hn : -2147483648 ≤ x ∧ x ≤ 2147483647) (k : G E cc own ret d (pc + 3) ls (mI x :: st) t Q) : G E cc own ret d pc ls st t Q := by
  obtain ⟨⟨p, l, e, R, s⟩, ⟨m, args, below, meth, c⟩, ⟨D, cy, ad⟩⟩ := E
  intro hE ht hst hls H locs la hP hS hla
  exact lv_sipush hE.1 hE.2.1 hd hx (k hE ht (ok_cons hn hst) hls H locs la hP hS hla)
theorem G_ldc {n : Nat} {x : Int} (hd : decode cc pc = .ok (.ldc n, 2)) (hw : Cond.constant own n (Int32.ofInt x) ∈ gw) (hn : -2147483648 ≤ x ∧ x ≤ 2147483647) (k : G E cc own ret d (pc + 2) ls (mI x :: st) t Q) : G E cc own ret d pc ls st t Q := by
  obtain ⟨⟨p, l, e, R, s⟩, ⟨m, args, below, meth, c⟩, ⟨D, cy, ad⟩⟩ := E
  intro hE ht hst hls H locs la hP hS hla
  exact W.ldc hE.1 hE.2.1 hE.2.2.2.2.1 (hE.2.2.2.2.2.1 _ hw) rfl hd (k hE ht (ok_cons hn hst) hls H locs la hP hS hla)
theorem G_iload_n {n : Fin 4} {x : Int} (hd : decode cc pc = .ok (.iload_n n, 1)) (hl : ls[(n : Nat)]? = some (some (mI x))) (k : G E cc own ret d (pc + 1) ls (mI x :: st) t Q) : G E cc own ret d pc ls st t Q := by
  obtain ⟨⟨p, l, e, R, s⟩, ⟨m, args, below, meth, c⟩, ⟨D, cy, ad⟩⟩ := E
  intro hE ht hst hls H locs la hP hS hla
  exact lv_iload_n hE.1 hE.2.1 hd rfl (hla.get hl) (k hE ht (ok_cons (ok_at hls hl) hst) hls H locs la hP hS hla)
theorem G_iload {n : Nat} {x : Int} (hd : decode cc pc = .ok (.iload n, 2)) (hl : ls[n]? = some (some (mI x))) (k : G E cc own ret d (pc + 2) ls (mI x :: st) t Q) : G E cc own ret d pc ls st t Q := by
  obtain ⟨⟨p, l, e, R, s⟩, ⟨m, args, below, meth, c⟩, ⟨D, cy, ad⟩⟩ := E
  intro hE ht hst hls H locs la hP hS hla
  exact lv_iload hE.1 hE.2.1 hd (hla.get hl) (k hE ht (ok_cons (ok_at hls hl) hst) hls H locs la hP hS hla)
theorem G_aload_n {n : Fin 4} {x : Nat} (hd : decode cc pc = .ok (.aload_n n, 1)) (hl : ls[(n : Nat)]? = some (some (mP x))) (k : G E cc own ret d (pc + 1) ls (mP x :: st) t Q) : G E cc own ret d pc ls st t Q := by
  obtain ⟨⟨p, l, e, R, s⟩, ⟨m, args, below, meth, c⟩, ⟨D, cy, ad⟩⟩ := E
  intro hE ht hst hls H locs la hP hS hla
  exact lv_aload_n hE.1 hE.2.1 hd rfl (hla.get hl) (k hE ht (ok_cons (ok_at hls hl) hst) hls H locs la hP hS hla)
theorem G_lload {n : Nat} {x : Int} (hd : decode cc pc = .ok (.lload n, 2)) (hl : ls[n]? = some (some (mL x))) (k : G E cc own ret d (pc + 2) ls (mL x :: st) t Q) : G E cc own ret d pc ls st t Q := by
  obtain ⟨⟨p, l, e, R, s⟩, ⟨m, args, below, meth, c⟩, ⟨D, cy, ad⟩⟩ := E
  intro hE ht hst hls H locs la hP hS hla
  exact lv_lload hE.1 hE.2.1 hd (hla.get hl) (k hE ht (ok_cons (ok_at hls hl) hst) hls H locs la hP hS hla)
theorem G_istore_n {n : Fin 4} {v : Int} (hd : decode cc pc = .ok (.istore_n n, 1)) (hi : (n : Nat) < ls.length) (hb : ((n : Nat) == 0 || notLong ls[(n : Nat)-1]?) = true) (k : G E cc own ret d (pc + 1) (ls.set n (some (mI v))) st t Q) : G E cc own ret d pc ls (mI v :: st) t Q := by
  obtain ⟨⟨p, l, e, R, s⟩, ⟨m, args, below, meth, c⟩, ⟨D, cy, ad⟩⟩ := E
  intro hE ht hst hls H locs la hP hS hla
  obtain ⟨lv, h1, h2, h3⟩ := id hla
  exact lv_istore_n hE.1 hE.2.1 hd rfl h1 (Nat.lt_of_lt_of_le hi h2) rfl (fun la' h' => k hE ht (ok_tl hst) (ok_set hls (ok_hd hst)) H locs la' hP hS (hla.put (mI v) hi rfl hb h1 h3 h'))
theorem G_istore {n : Nat} {v : Int} (hd : decode cc pc = .ok (.istore n, 2)) (hi : n < ls.length) (hb : (n == 0 || notLong ls[n-1]?) = true) (k : G E cc own ret d (pc + 2) (ls.set n (some (mI v))) st t Q) : G E cc own ret d pc ls (mI v :: st) t Q := by
  obtain ⟨⟨p, l, e, R, s⟩, ⟨m, args, below, meth, c⟩, ⟨D, cy, ad⟩⟩ := E
  intro hE ht hst hls H locs la hP hS hla
  obtain ⟨lv, h1, h2, h3⟩ := id hla
  exact lv_istore hE.1 hE.2.1 hd h1 (Nat.lt_of_lt_of_le hi h2) rfl (fun la' h' => k hE ht (ok_tl hst) (ok_set hls (ok_hd hst)) H locs la' hP hS (hla.put (mI v) hi rfl hb h1 h3 h'))
theorem G_iinc {n : Nat} {x a : Int} (hd : decode cc pc = .ok (.iinc n a, 3)) (hl : ls[n]? = some (some (mI x))) (hb : (n == 0 || notLong ls[n-1]?) = true) (hr : -2147483648 ≤ x + a ∧ x + a ≤ 2147483647) (k : G E cc own ret d (pc + 3) (ls.set n (some (mI (x + a)))) st t Q) : G E cc own ret d pc ls st t Q := by
  obtain ⟨⟨p, l, e, R, s⟩, ⟨m, args, below, meth, c⟩, ⟨D, cy, ad⟩⟩ := E
  intro hE ht hst hls H locs la hP hS hla
  obtain ⟨lv, h1, h2, h3⟩ := id hla
  obtain ⟨kk, hkk⟩ := List.getElem?_of_mem (h3 n _ hl)
  have hi : n < ls.length := (List.getElem?_eq_some_iff.mp hl).1
  exact lv_iinc (v := Int32.ofInt (x + a)) hE.1 hE.2.1 hd h1 hkk (by rw [Int32.ofInt_add]) (Nat.lt_of_lt_of_le hi h2) rfl (fun la' h' => k hE ht hst (ok_set hls hr) H locs la' hP hS (hla.put (mI (x + a)) hi rfl hb h1 h3 h'))
theorem G_iadd {a b : Int} (hd : decode cc pc = .ok (.iadd, 1)) (hr : -2147483648 ≤ a + b ∧ a + b ≤ 2147483647) (k : G E cc own ret d (pc + 1) ls (mI (a + b) :: st) t Q) : G E cc own ret d pc ls (mI b :: mI a :: st) t Q := by
  obtain ⟨⟨p, l, e, R, s⟩, ⟨m, args, below, meth, c⟩, ⟨D, cy, ad⟩⟩ := E
  intro hE ht hst hls H locs la hP hS hla
  have h := k hE ht (ok_cons hr (ok_tl (ok_tl hst))) hls H locs la hP hS hla
  simp only [List.map_cons, mval, Int32.ofInt_add] at h
  exact lv_iadd hE.1 hE.2.1 hd h
theorem G_isub {a b : Int} (hd : decode cc pc = .ok (.isub, 1)) (hr : -2147483648 ≤ a - b ∧ a - b ≤ 2147483647) (k : G E cc own ret d (pc + 1) ls (mI (a - b) :: st) t Q) : G E cc own ret d pc ls (mI b :: mI a :: st) t Q := by
  obtain ⟨⟨p, l, e, R, s⟩, ⟨m, args, below, meth, c⟩, ⟨D, cy, ad⟩⟩ := E
  intro hE ht hst hls H locs la hP hS hla
  have h := k hE ht (ok_cons hr (ok_tl (ok_tl hst))) hls H locs la hP hS hla
  simp only [List.map_cons, mval, Int32.ofInt_sub] at h
  exact lv_isub hE.1 hE.2.1 hd h
theorem G_imul {a b : Int} (hd : decode cc pc = .ok (.imul, 1)) (hr : -2147483648 ≤ a * b ∧ a * b ≤ 2147483647) (k : G E cc own ret d (pc + 1) ls (mI (a * b) :: st) t Q) : G E cc own ret d pc ls (mI b :: mI a :: st) t Q := by
  obtain ⟨⟨p, l, e, R, s⟩, ⟨m, args, below, meth, c⟩, ⟨D, cy, ad⟩⟩ := E
  intro hE ht hst hls H locs la hP hS hla
  have h := k hE ht (ok_cons hr (ok_tl (ok_tl hst))) hls H locs la hP hS hla
  simp only [List.map_cons, mval, Int32.ofInt_mul] at h
  exact lv_imul hE.1 hE.2.1 hd h
theorem G_ineg {a : Int} (hd : decode cc pc = .ok (.ineg, 1)) (hr : -2147483648 ≤ -a ∧ -a ≤ 2147483647) (k : G E cc own ret d (pc + 1) ls (mI (-a) :: st) t Q) : G E cc own ret d pc ls (mI a :: st) t Q := by
  obtain ⟨⟨p, l, e, R, s⟩, ⟨m, args, below, meth, c⟩, ⟨D, cy, ad⟩⟩ := E
  intro hE ht hst hls H locs la hP hS hla
  have h := k hE ht (ok_cons hr (ok_tl hst)) hls H locs la hP hS hla
  simp only [List.map_cons, mval, Int32.ofInt_neg] at h
  exact lv_ineg hE.1 hE.2.1 hd h
theorem io_div {a b : Int} (ha : inR a) (hb : inR b) (h0 : 0 < b) : Int32.ofInt a / Int32.ofInt b = Int32.ofInt (a.tdiv b) := by
  apply Int32.toInt_inj.mp
  have hne : Int32.ofInt b ≠ -1 := by
    intro e
    have h1 := io_toInt hb
    rw [e] at h1
    have h2 : (-1 : Int32).toInt = -1 := rfl
    omega
  have hq : inR (a.tdiv b) := by
    unfold inR at *
    rcases Int.lt_or_le a 0 with hn | hn
    · have e : a.tdiv b = -((-a).tdiv b) := by rw [Int.neg_tdiv, Int.neg_neg]
      have h1 : 0 ≤ (-a).tdiv b := Int.tdiv_nonneg (by omega) (by omega)
      have h2 : (-a).tdiv b ≤ -a := Int.tdiv_le_self _ (by omega)
      omega
    · have h1 : 0 ≤ a.tdiv b := Int.tdiv_nonneg hn (by omega)
      have h2 : a.tdiv b ≤ a := Int.tdiv_le_self _ hn
      omega
  rw [Int32.toInt_div_of_ne_right _ _ hne, io_toInt ha, io_toInt hb, io_toInt hq]
theorem inR_tdiv {a b : Int} (ha : inR a) (h0 : 0 < b) : inR (a.tdiv b) := by
  unfold inR at *
  rcases Int.lt_or_le a 0 with hn | hn
  · have e : a.tdiv b = -((-a).tdiv b) := by rw [Int.neg_tdiv, Int.neg_neg]
    have h1 : 0 ≤ (-a).tdiv b := Int.tdiv_nonneg (by omega) (by omega)
    have h2 : (-a).tdiv b ≤ -a := Int.tdiv_le_self _ (by omega)
    omega
  · have h1 : 0 ≤ a.tdiv b := Int.tdiv_nonneg hn (by omega)
    have h2 : a.tdiv b ≤ a := Int.tdiv_le_self _ hn
    omega
theorem G_idiv {a b : Int} (hd : decode cc pc = .ok (.idiv, 1)) (h0 : 0 < b) (k : G E cc own ret d (pc + 1) ls (mI (a.tdiv b) :: st) t Q) : G E cc own ret d pc ls (mI b :: mI a :: st) t Q := by
  obtain ⟨⟨p, l, e, R, s⟩, ⟨m, args, below, meth, c⟩, ⟨D, cy, ad⟩⟩ := E
  intro hE ht hst hls H locs la hP hS hla
  have ha : inR a := ok_hd (ok_tl hst)
  have hb : inR b := ok_hd hst
  have h := k hE ht (ok_cons (v := mI (a.tdiv b)) (inR_tdiv ha h0) (ok_tl (ok_tl hst))) hls H locs la hP hS hla
  simp only [List.map_cons, mval, ← io_div ha hb h0] at h
  exact lv_idiv hE.1 hE.2.1 hd (fun e => by rw [io_0, io_eq hb inR_0] at e; omega) h
theorem G_irem {a b : Int} (hd : decode cc pc = .ok (.irem, 1)) (h0 : 0 < b) (k : G E cc own ret d (pc + 1) ls (mI (a.tmod b) :: st) t Q) : G E cc own ret d pc ls (mI b :: mI a :: st) t Q := by
  obtain ⟨⟨p, l, e, R, s⟩, ⟨m, args, below, meth, c⟩, ⟨D, cy, ad⟩⟩ := E
  intro hE ht hst hls H locs la hP hS hla
  have ha : inR a := ok_hd (ok_tl hst)
  have hb : inR b := ok_hd hst
  have hm : a.tmod b = a - a.tdiv b * b := by rw [Int.tmod_def, Int.mul_comm]
  have hr : inR (a.tmod b) := by
    unfold inR at *
    have h1 := tmod_bounds (a := a) h0
    omega
  have h := k hE ht (ok_cons (v := mI (a.tmod b)) hr (ok_tl (ok_tl hst))) hls H locs la hP hS hla
  simp only [List.map_cons, mval, hm, Int32.ofInt_sub, Int32.ofInt_mul, ← io_div ha hb h0] at h
  exact lv_irem hE.1 hE.2.1 hd (fun e => by rw [io_0, io_eq hb inR_0] at e; omega) h
theorem inR_toInt (x : Int32) : inR x.toInt := ⟨by have := x.le_toInt; omega, by have := x.toInt_lt; omega⟩
theorem G_iand {a b : Int} (hd : decode cc pc = .ok (.iand, 1)) (k : G E cc own ret d (pc + 1) ls (mI (Int32.ofInt a &&& Int32.ofInt b).toInt :: st) t Q) : G E cc own ret d pc ls (mI b :: mI a :: st) t Q := by
  obtain ⟨⟨p, l, e, R, s⟩, ⟨m, args, below, meth, c⟩, ⟨D, cy, ad⟩⟩ := E
  intro hE ht hst hls H locs la hP hS hla
  have h := k hE ht (ok_cons (v := mI _) (inR_toInt _) (ok_tl (ok_tl hst))) hls H locs la hP hS hla
  simp only [List.map_cons, mval, Int32.ofInt_toInt] at h
  exact lv_iand hE.1 hE.2.1 hd h
theorem G_ior {a b : Int} (hd : decode cc pc = .ok (.ior, 1)) (k : G E cc own ret d (pc + 1) ls (mI (Int32.ofInt a ||| Int32.ofInt b).toInt :: st) t Q) : G E cc own ret d pc ls (mI b :: mI a :: st) t Q := by
  obtain ⟨⟨p, l, e, R, s⟩, ⟨m, args, below, meth, c⟩, ⟨D, cy, ad⟩⟩ := E
  intro hE ht hst hls H locs la hP hS hla
  have h := k hE ht (ok_cons (v := mI _) (inR_toInt _) (ok_tl (ok_tl hst))) hls H locs la hP hS hla
  simp only [List.map_cons, mval, Int32.ofInt_toInt] at h
  exact lv_ior hE.1 hE.2.1 hd h
theorem G_ishl {a b : Int} (hd : decode cc pc = .ok (.ishl, 1)) (k : G E cc own ret d (pc + 1) ls (mI (Int32.ofInt a <<< (Int32.ofInt b &&& 31)).toInt :: st) t Q) : G E cc own ret d pc ls (mI b :: mI a :: st) t Q := by
  obtain ⟨⟨p, l, e, R, s⟩, ⟨m, args, below, meth, c⟩, ⟨D, cy, ad⟩⟩ := E
  intro hE ht hst hls H locs la hP hS hla
  have h := k hE ht (ok_cons (v := mI _) (inR_toInt _) (ok_tl (ok_tl hst))) hls H locs la hP hS hla
  simp only [List.map_cons, mval, Int32.ofInt_toInt] at h
  exact lv_ishl hE.1 hE.2.1 hd h
theorem G_ishr {a b : Int} (hd : decode cc pc = .ok (.ishr, 1)) (k : G E cc own ret d (pc + 1) ls (mI (Int32.ofInt a >>> (Int32.ofInt b &&& 31)).toInt :: st) t Q) : G E cc own ret d pc ls (mI b :: mI a :: st) t Q := by
  obtain ⟨⟨p, l, e, R, s⟩, ⟨m, args, below, meth, c⟩, ⟨D, cy, ad⟩⟩ := E
  intro hE ht hst hls H locs la hP hS hla
  have h := k hE ht (ok_cons (v := mI _) (inR_toInt _) (ok_tl (ok_tl hst))) hls H locs la hP hS hla
  simp only [List.map_cons, mval, Int32.ofInt_toInt] at h
  exact lv_ishr hE.1 hE.2.1 hd h
theorem G_dup {v : MV} (hd : decode cc pc = .ok (.dup, 1)) (hv : notLong (some (some v)) = true) (k : G E cc own ret d (pc + 1) ls (v :: v :: st) t Q) : G E cc own ret d pc ls (v :: st) t Q := by
  obtain ⟨⟨p, l, e, R, s⟩, ⟨m, args, below, meth, c⟩, ⟨D, cy, ad⟩⟩ := E
  intro hE ht hst hls H locs la hP hS hla
  exact lv_dup hE.1 hE.2.1 hd (mval_cat hv) (k hE ht (ok_cons (ok_hd hst) hst) hls H locs la hP hS hla)
theorem G_dup_x1 {v w : MV} (hd : decode cc pc = .ok (.dup_x1, 1)) (hv : notLong (some (some v)) = true) (hw : notLong (some (some w)) = true) (k : G E cc own ret d (pc + 1) ls (v :: w :: v :: st) t Q) : G E cc own ret d pc ls (v :: w :: st) t Q := by
  obtain ⟨⟨p, l, e, R, s⟩, ⟨m, args, below, meth, c⟩, ⟨D, cy, ad⟩⟩ := E
  intro hE ht hst hls H locs la hP hS hla
  exact lv_dup_x1 hE.1 hE.2.1 hd (mval_cat hv) (mval_cat hw) (k hE ht (ok_cons (ok_hd hst) (ok_cons (ok_hd (ok_tl hst)) (ok_cons (ok_hd hst) (ok_tl (ok_tl hst))))) hls H locs la hP hS hla)
theorem G_dup2 {v w : MV} (hd : decode cc pc = .ok (.dup2, 1)) (hv : notLong (some (some v)) = true) (hw : notLong (some (some w)) = true) (k : G E cc own ret d (pc + 1) ls (v :: w :: v :: w :: st) t Q) : G E cc own ret d pc ls (v :: w :: st) t Q := by
  obtain ⟨⟨p, l, e, R, s⟩, ⟨m, args, below, meth, c⟩, ⟨D, cy, ad⟩⟩ := E
  intro hE ht hst hls H locs la hP hS hla
  exact lv_dup2_11 hE.1 hE.2.1 hd (mval_cat hv) (mval_cat hw) (k hE ht (ok_cons (ok_hd hst) (ok_cons (ok_hd (ok_tl hst)) hst)) hls H locs la hP hS hla)
theorem G_pop {v : MV} (hd : decode cc pc = .ok (.pop, 1)) (hv : notLong (some (some v)) = true) (k : G E cc own ret d (pc + 1) ls st t Q) : G E cc own ret d pc ls (v :: st) t Q := by
  obtain ⟨⟨p, l, e, R, s⟩, ⟨m, args, below, meth, c⟩, ⟨D, cy, ad⟩⟩ := E
  intro hE ht hst hls H locs la hP hS hla
  exact lv_pop hE.1 hE.2.1 hd (mval_cat hv) (k hE ht (ok_tl hst) hls H locs la hP hS hla)
theorem G_goto {off : Int} {tgt : Nat} (hd : decode cc pc = .ok (.goto off, 3)) (htg : (pc : Int) + off = (tgt : Int)) (k : G E cc own ret d tgt ls st t Q) : G E cc own ret d pc ls st t Q := by
  obtain ⟨⟨p, l, e, R, s⟩, ⟨m, args, below, meth, c⟩, ⟨D, cy, ad⟩⟩ := E
  intro hE ht hst hls H locs la hP hS hla
  exact lv_goto hE.1 hE.2.1 hd htg (k hE ht hst hls H locs la hP hS hla)
theorem G_icmp_eq {a b : Int} {off : Int} {tgt : Nat} (hd : decode cc pc = .ok (.if_icmp .eq off, 3)) (htg : (pc : Int) + off = (tgt : Int)) (kt : a = b → G E cc own ret d tgt ls st t Q) (kf : ¬ (a = b) → G E cc own ret d (pc + 3) ls st t Q) : G E cc own ret d pc ls (mI b :: mI a :: st) t Q := by
  obtain ⟨⟨p, l, e, R, s⟩, ⟨m, args, below, meth, c⟩, ⟨D, cy, ad⟩⟩ := E
  intro hE ht hst hls H locs la hP hS hla
  have ha : inR a := ok_hd (ok_tl hst)
  have hb : inR b := ok_hd hst
  exact lv_icmp_eq hE.1 hE.2.1 hd htg (fun h => kt ((io_eq ha hb).mp h) hE ht (ok_tl (ok_tl hst)) hls H locs la hP hS hla) (fun h => kf (fun q => h ((io_eq ha hb).mpr q)) hE ht (ok_tl (ok_tl hst)) hls H locs la hP hS hla)
theorem G_icmp_ne {a b : Int} {off : Int} {tgt : Nat} (hd : decode cc pc = .ok (.if_icmp .ne off, 3)) (htg : (pc : Int) + off = (tgt : Int)) (kt : a ≠ b → G E cc own ret d tgt ls st t Q) (kf : a = b → G E cc own ret d (pc + 3) ls st t Q) : G E cc own ret d pc ls (mI b :: mI a :: st) t Q := by
  obtain ⟨⟨p, l, e, R, s⟩, ⟨m, args, below, meth, c⟩, ⟨D, cy, ad⟩⟩ := E
  intro hE ht hst hls H locs la hP hS hla
  have ha : inR a := ok_hd (ok_tl hst)
  have hb : inR b := ok_hd hst
  exact lv_icmp_ne hE.1 hE.2.1 hd htg (fun h => kt ((not_congr (io_eq ha hb)).mp h) hE ht (ok_tl (ok_tl hst)) hls H locs la hP hS hla) (fun h => kf ((io_eq ha hb).mp h) hE ht (ok_tl (ok_tl hst)) hls H locs la hP hS hla)
theorem G_icmp_lt {a b : Int} {off : Int} {tgt : Nat} (hd : decode cc pc = .ok (.if_icmp .lt off, 3)) (htg : (pc : Int) + off = (tgt : Int)) (kt : a < b → G E cc own ret d tgt ls st t Q) (kf : ¬ (a < b) → G E cc own ret d (pc + 3) ls st t Q) : G E cc own ret d pc ls (mI b :: mI a :: st) t Q := by
  obtain ⟨⟨p, l, e, R, s⟩, ⟨m, args, below, meth, c⟩, ⟨D, cy, ad⟩⟩ := E
  intro hE ht hst hls H locs la hP hS hla
  have ha : inR a := ok_hd (ok_tl hst)
  have hb : inR b := ok_hd hst
  exact lv_icmp_lt hE.1 hE.2.1 hd htg (fun h => kt ((io_lt ha hb).mp h) hE ht (ok_tl (ok_tl hst)) hls H locs la hP hS hla) (fun h => kf (fun q => h ((io_lt ha hb).mpr q)) hE ht (ok_tl (ok_tl hst)) hls H locs la hP hS hla)
theorem G_icmp_le {a b : Int} {off : Int} {tgt : Nat} (hd : decode cc pc = .ok (.if_icmp .le off, 3)) (htg : (pc : Int) + off = (tgt : Int)) (kt : a ≤ b → G E cc own ret d tgt ls st t Q) (kf : ¬ (a ≤ b) → G E cc own ret d (pc + 3) ls st t Q) : G E cc own ret d pc ls (mI b :: mI a :: st) t Q := by
  obtain ⟨⟨p, l, e, R, s⟩, ⟨m, args, below, meth, c⟩, ⟨D, cy, ad⟩⟩ := E
  intro hE ht hst hls H locs la hP hS hla
  have ha : inR a := ok_hd (ok_tl hst)
  have hb : inR b := ok_hd hst
  exact lv_icmp_le hE.1 hE.2.1 hd htg (fun h => kt ((io_le ha hb).mp h) hE ht (ok_tl (ok_tl hst)) hls H locs la hP hS hla) (fun h => kf (fun q => h ((io_le ha hb).mpr q)) hE ht (ok_tl (ok_tl hst)) hls H locs la hP hS hla)
theorem G_icmp_gt {a b : Int} {off : Int} {tgt : Nat} (hd : decode cc pc = .ok (.if_icmp .gt off, 3)) (htg : (pc : Int) + off = (tgt : Int)) (kt : b < a → G E cc own ret d tgt ls st t Q) (kf : ¬ (b < a) → G E cc own ret d (pc + 3) ls st t Q) : G E cc own ret d pc ls (mI b :: mI a :: st) t Q := by
  obtain ⟨⟨p, l, e, R, s⟩, ⟨m, args, below, meth, c⟩, ⟨D, cy, ad⟩⟩ := E
  intro hE ht hst hls H locs la hP hS hla
  have ha : inR a := ok_hd (ok_tl hst)
  have hb : inR b := ok_hd hst
  exact lv_icmp_gt hE.1 hE.2.1 hd htg (fun h => kt ((io_lt hb ha).mp h) hE ht (ok_tl (ok_tl hst)) hls H locs la hP hS hla) (fun h => kf (fun q => h ((io_lt hb ha).mpr q)) hE ht (ok_tl (ok_tl hst)) hls H locs la hP hS hla)
theorem G_icmp_ge {a b : Int} {off : Int} {tgt : Nat} (hd : decode cc pc = .ok (.if_icmp .ge off, 3)) (htg : (pc : Int) + off = (tgt : Int)) (kt : b ≤ a → G E cc own ret d tgt ls st t Q) (kf : ¬ (b ≤ a) → G E cc own ret d (pc + 3) ls st t Q) : G E cc own ret d pc ls (mI b :: mI a :: st) t Q := by
  obtain ⟨⟨p, l, e, R, s⟩, ⟨m, args, below, meth, c⟩, ⟨D, cy, ad⟩⟩ := E
  intro hE ht hst hls H locs la hP hS hla
  have ha : inR a := ok_hd (ok_tl hst)
  have hb : inR b := ok_hd hst
  exact lv_icmp_ge hE.1 hE.2.1 hd htg (fun h => kt ((io_le hb ha).mp h) hE ht (ok_tl (ok_tl hst)) hls H locs la hP hS hla) (fun h => kf (fun q => h ((io_le hb ha).mpr q)) hE ht (ok_tl (ok_tl hst)) hls H locs la hP hS hla)
theorem G_if_eq {a : Int} {off : Int} {tgt : Nat} (hd : decode cc pc = .ok (.ifCond .eq off, 3)) (htg : (pc : Int) + off = (tgt : Int)) (kt : a = 0 → G E cc own ret d tgt ls st t Q) (kf : ¬ (a = 0) → G E cc own ret d (pc + 3) ls st t Q) : G E cc own ret d pc ls (mI a :: st) t Q := by
  obtain ⟨⟨p, l, e, R, s⟩, ⟨m, args, below, meth, c⟩, ⟨D, cy, ad⟩⟩ := E
  intro hE ht hst hls H locs la hP hS hla
  have ha : inR a := ok_hd hst
  exact lv_if_eq hE.1 hE.2.1 hd htg (fun h => kt ((io_eq ha inR_0).mp h) hE ht (ok_tl hst) hls H locs la hP hS hla) (fun h => kf (fun q => h ((io_eq ha inR_0).mpr q)) hE ht (ok_tl hst) hls H locs la hP hS hla)
theorem G_if_ne {a : Int} {off : Int} {tgt : Nat} (hd : decode cc pc = .ok (.ifCond .ne off, 3)) (htg : (pc : Int) + off = (tgt : Int)) (kt : a ≠ 0 → G E cc own ret d tgt ls st t Q) (kf : a = 0 → G E cc own ret d (pc + 3) ls st t Q) : G E cc own ret d pc ls (mI a :: st) t Q := by
  obtain ⟨⟨p, l, e, R, s⟩, ⟨m, args, below, meth, c⟩, ⟨D, cy, ad⟩⟩ := E
  intro hE ht hst hls H locs la hP hS hla
  have ha : inR a := ok_hd hst
  exact lv_if_ne hE.1 hE.2.1 hd htg (fun h => kt ((not_congr (io_eq ha inR_0)).mp h) hE ht (ok_tl hst) hls H locs la hP hS hla) (fun h => kf ((io_eq ha inR_0).mp h) hE ht (ok_tl hst) hls H locs la hP hS hla)
theorem G_if_lt {a : Int} {off : Int} {tgt : Nat} (hd : decode cc pc = .ok (.ifCond .lt off, 3)) (htg : (pc : Int) + off = (tgt : Int)) (kt : a < 0 → G E cc own ret d tgt ls st t Q) (kf : ¬ (a < 0) → G E cc own ret d (pc + 3) ls st t Q) : G E cc own ret d pc ls (mI a :: st) t Q := by
  obtain ⟨⟨p, l, e, R, s⟩, ⟨m, args, below, meth, c⟩, ⟨D, cy, ad⟩⟩ := E
  intro hE ht hst hls H locs la hP hS hla
  have ha : inR a := ok_hd hst
  exact lv_if_lt hE.1 hE.2.1 hd htg (fun h => kt ((io_lt ha inR_0).mp h) hE ht (ok_tl hst) hls H locs la hP hS hla) (fun h => kf (fun q => h ((io_lt ha inR_0).mpr q)) hE ht (ok_tl hst) hls H locs la hP hS hla)
theorem G_if_le {a : Int} {off : Int} {tgt : Nat} (hd : decode cc pc = .ok (.ifCond .le off, 3)) (htg : (pc : Int) + off = (tgt : Int)) (kt : a ≤ 0 → G E cc own ret d tgt ls st t Q) (kf : ¬ (a ≤ 0) → G E cc own ret d (pc + 3) ls st t Q) : G E cc own ret d pc ls (mI a :: st) t Q := by
  obtain ⟨⟨p, l, e, R, s⟩, ⟨m, args, below, meth, c⟩, ⟨D, cy, ad⟩⟩ := E
  intro hE ht hst hls H locs la hP hS hla
  have ha : inR a := ok_hd hst
  exact lv_if_le hE.1 hE.2.1 hd htg (fun h => kt ((io_le ha inR_0).mp h) hE ht (ok_tl hst) hls H locs la hP hS hla) (fun h => kf (fun q => h ((io_le ha inR_0).mpr q)) hE ht (ok_tl hst) hls H locs la hP hS hla)
theorem G_if_gt {a : Int} {off : Int} {tgt : Nat} (hd : decode cc pc = .ok (.ifCond .gt off, 3)) (htg : (pc : Int) + off = (tgt : Int)) (kt : 0 < a → G E cc own ret d tgt ls st t Q) (kf : ¬ (0 < a) → G E cc own ret d (pc + 3) ls st t Q) : G E cc own ret d pc ls (mI a :: st) t Q := by
  obtain ⟨⟨p, l, e, R, s⟩, ⟨m, args, below, meth, c⟩, ⟨D, cy, ad⟩⟩ := E
  intro hE ht hst hls H locs la hP hS hla
  have ha : inR a := ok_hd hst
  exact lv_if_gt hE.1 hE.2.1 hd htg (fun h => kt ((io_lt inR_0 ha).mp h) hE ht (ok_tl hst) hls H locs la hP hS hla) (fun h => kf (fun q => h ((io_lt inR_0 ha).mpr q)) hE ht (ok_tl hst) hls H locs la hP hS hla)
theorem G_if_ge {a : Int} {off : Int} {tgt : Nat} (hd : decode cc pc = .ok (.ifCond .ge off, 3)) (htg : (pc : Int) + off = (tgt : Int)) (kt : 0 ≤ a → G E cc own ret d tgt ls st t Q) (kf : ¬ (0 ≤ a) → G E cc own ret d (pc + 3) ls st t Q) : G E cc own ret d pc ls (mI a :: st) t Q := by
  obtain ⟨⟨p, l, e, R, s⟩, ⟨m, args, below, meth, c⟩, ⟨D, cy, ad⟩⟩ := E
  intro hE ht hst hls H locs la hP hS hla
  have ha : inR a := ok_hd hst
  exact lv_if_ge hE.1 hE.2.1 hd htg (fun h => kt ((io_le inR_0 ha).mp h) hE ht (ok_tl hst) hls H locs la hP hS hla) (fun h => kf (fun q => h ((io_le inR_0 ha).mpr q)) hE ht (ok_tl hst) hls H locs la hP hS hla)
end RULES
end
section
/-! RULES of the heap, of calls and returns -/
section RULES2
variable {E : Ev} {cc : ByteArray} {own : String} {ret : Option FieldType} {d pc : Nat} {ls : List (Option MV)} {st : List MV} {t : Sto} {Q : Option MV → Sto → Prop}
theorem ty_at (cy : Bool → ClassId) (b : Bool) : (tyW cy)[(if b then 1 else 0)]? = some (cy b, if b then .boolean else .int) := by cases b <;> rfl
theorem G_iaload {q n : Nat} {i : Int} (hd : decode cc pc = .ok (.iaload, 1)) (ha : arS q = some (false, n)) (hq : (decide (q < NP)) = true) (hi : 0 ≤ i ∧ i < n) (k : G E cc own ret d (pc + 1) ls (mI (t q i) :: st) t Q) : G E cc own ret d pc ls (mI i :: mP q :: st) t Q := by
  obtain ⟨⟨p, l, e, R, s⟩, ⟨m, args, below, meth, c⟩, ⟨D, cy, ad⟩⟩ := E
  intro hE ht hst hls H locs la hP hS hla
  have hir : inR i := ok_hd hst
  have h := k hE ht (ok_cons (v := mI (t q i)) (ht q i) (ok_tl (ok_tl hst))) hls H locs la hP hS hla
  refine va_iald hE.1 hE.2.1 hE.2.2.2.2.2.2.2.1.1 hP q 0 (wd_arr ha (of_decide_eq_true hq)) rfl (io_in hir hi.1 hi.2) hd ?_
  rw [io_nat hir, Int.toNat_of_nonneg hi.1]
  exact h
theorem G_baload {q n : Nat} {i : Int} (hd : decode cc pc = .ok (.baload, 1)) (ha : arS q = some (true, n)) (hq : (decide (q < NP)) = true) (hi : 0 ≤ i ∧ i < n) (k : G E cc own ret d (pc + 1) ls (mI (t q i) :: st) t Q) : G E cc own ret d pc ls (mI i :: mP q :: st) t Q := by
  obtain ⟨⟨p, l, e, R, s⟩, ⟨m, args, below, meth, c⟩, ⟨D, cy, ad⟩⟩ := E
  intro hE ht hst hls H locs la hP hS hla
  have hir : inR i := ok_hd hst
  have h := k hE ht (ok_cons (v := mI (t q i)) (ht q i) (ok_tl (ok_tl hst))) hls H locs la hP hS hla
  refine va_zald hE.1 hE.2.1 hE.2.2.2.2.2.2.2.1.1 hP q 1 (wd_arr ha (of_decide_eq_true hq)) rfl (io_in hir hi.1 hi.2) hd ?_
  rw [io_nat hir, Int.toNat_of_nonneg hi.1]
  exact h
theorem G_iastore {q n : Nat} {i x : Int} (hd : decode cc pc = .ok (.iastore, 1)) (ha : arS q = some (false, n)) (hq : (decide (q < NP)) = true) (hi : 0 ≤ i ∧ i < n) (k : G E cc own ret d (pc + 1) ls st (su t q i x) Q) : G E cc own ret d pc ls (mI x :: mI i :: mP q :: st) t Q := by
  obtain ⟨⟨p, l, e, R, s⟩, ⟨m, args, below, meth, c⟩, ⟨D, cy, ad⟩⟩ := E
  intro hE ht hst hls H locs la hP hS hla
  have hxr : inR x := ok_hd hst
  have hir : inR i := ok_hd (ok_tl hst)
  refine va_iast hE.1 hE.2.1 hE.2.2.2.2.2.2.2.1.1 hP (wd_D hE.2.2.2.2.2.2.1) hS q 0 (wd_arr ha (of_decide_eq_true hq)) rfl (io_in hir hi.1 hi.2) hd (fun H1 locs1 hP1 _ hS1 => ?_)
  rw [io_nat hir, wd_set_arr ha (of_decide_eq_true hq) hi.1] at hP1
  exact k hE (okS_su ht hxr) (ok_tl (ok_tl (ok_tl hst))) hls H1 locs1 la hP1 hS1 hla
theorem io_nar {x : Int} (h : x = 0 ∨ x = 1) : vp_nar .boolean (Int32.ofInt x) = Int32.ofInt x := by
  rcases h with rfl | rfl <;> rfl
theorem G_bastore {q n : Nat} {i x : Int} (hd : decode cc pc = .ok (.bastore, 1)) (ha : arS q = some (true, n)) (hq : (decide (q < NP)) = true) (hi : 0 ≤ i ∧ i < n) (hx : x = 0 ∨ x = 1) (k : G E cc own ret d (pc + 1) ls st (su t q i x) Q) : G E cc own ret d pc ls (mI x :: mI i :: mP q :: st) t Q := by
  obtain ⟨⟨p, l, e, R, s⟩, ⟨m, args, below, meth, c⟩, ⟨D, cy, ad⟩⟩ := E
  intro hE ht hst hls H locs la hP hS hla
  have hxr : inR x := ok_hd hst
  have hir : inR i := ok_hd (ok_tl hst)
  refine va_zast hE.1 hE.2.1 hE.2.2.2.2.2.2.2.1.1 hP (wd_D hE.2.2.2.2.2.2.1) hS q 1 (wd_arr ha (of_decide_eq_true hq)) rfl (io_in hir hi.1 hi.2) hd (fun H1 locs1 hP1 _ hS1 => ?_)
  rw [io_nar hx, io_nat hir, wd_set_arr ha (of_decide_eq_true hq) hi.1] at hP1
  exact k hE (okS_su ht hxr) (ok_tl (ok_tl (ok_tl hst))) hls H1 locs1 la hP1 hS1 hla
theorem G_alen {q n : Nat} {b : Bool} (hd : decode cc pc = .ok (.arraylength, 1)) (ha : arS q = some (b, n)) (hq : (decide (q < NP)) = true) (hn : -2147483648 ≤ (n : Int) ∧ (n : Int) ≤ 2147483647) (k : G E cc own ret d (pc + 1) ls (mI (n : Int) :: st) t Q) : G E cc own ret d pc ls (mP q :: st) t Q := by
  obtain ⟨⟨p, l, e, R, s⟩, ⟨m, args, below, meth, c⟩, ⟨D, cy, ad⟩⟩ := E
  intro hE ht hst hls H locs la hP hS hla
  have h := k hE ht (ok_cons (v := mI (n : Int)) hn (ok_tl hst)) hls H locs la hP hS hla
  exact va_alen hE.1 hE.2.1 hE.2.2.2.2.2.2.2.1.1 hP q (if b then 1 else 0) (wd_arr ha (of_decide_eq_true hq)) (ty_at cy b) (v := Int32.ofInt (n : Int)) (by rw [Int32.ofInt_eq_ofNat]) hd h
/-- a field that an instruction of class own names by idx: the f-th of class ci -/
def FLk (own : String) (idx ci f : Nat) : Prop := ∃ (C : String) (T : u_T) (N : Nat) (ty : Nat → FieldType), vwCl[ci]? = some (C, T, N) ∧ f < N ∧ (∀ w ∈ u_ws C T N, w ∈ gw) ∧ (∀ k, k < N → parseFieldDescriptor (T k).2.2.1 = some (ty k)) ∧ (∀ a, a < N → ∀ b, b < N → a ≠ b → (T a).2.1 ≠ (T b).2.1) ∧ (T f).1 = C ∧
  (Cond.fieldLink own idx C (T f).2.1 (T f).2.2.1 ∈ gw ∨ ∃ host, Cond.fieldLinkNest own idx C (T f).2.1 (T f).2.2.1 host ∈ nwF)
/-- and it may be written: not final, an int or a boolean -/
def FLw (ci f : Nat) (b : Bool) : Prop := ∃ (C : String) (T : u_T) (N : Nat), vwCl[ci]? = some (C, T, N) ∧ (T f).2.2.2 = false ∧ parseFieldDescriptor (T f).2.2.1 = some (if b then .boolean else .int)
theorem G_get {q idx f : Nat} {v : MV} {fe : Nat ⊕ Nat} (hd : decode cc pc = .ok (.getfield idx, 3)) (hl : FLk own idx (ocS q) f) (hq : (decide (q < NP)) = true) (ha : arS q = none) (hf : (fkS q)[f]? = some fe) (hv : ∀ ad, fvS ad t fe = mval ad v) (hok : okS t → okV v) (k : G E cc own ret d (pc + 3) ls (v :: st) t Q) : G E cc own ret d pc ls (mP q :: st) t Q := by
  obtain ⟨⟨p, l, e, R, s⟩, ⟨m, args, below, meth, c⟩, ⟨D, cy, ad⟩⟩ := E
  intro hE ht hst hls H locs la hP hS hla
  obtain ⟨C, T, N, ty, hc, hfN, hws, hty, hnm, hTC, hlk⟩ := hl
  have h := k hE ht (ok_cons (hok ht) (ok_tl hst)) hls H locs la hP hS hla
  have hfs : ((fkS q).map (fvS ad t))[f]? = some (mval ad v) := by rw [List.getElem?_map, hf, Option.map_some, hv ad]
  rcases hlk with hlk | ⟨host, hlk⟩
  · exact va_get (ref := C) hE.1 hE.2.1 hE.2.2.2.2.2.1 hws hE.2.2.2.2.1 hE.2.2.2.2.2.2.2.1.1 hP q (wd_obj ha (of_decide_eq_true hq)) hc f hfN (hE.2.2.2.2.2.1 _ hlk) (by rw [hTC]; exact fun _ h9 => h9) hfs hd h
  · exact va_getN (ref := C) (host := host) hE.1 hE.2.1 hE.2.2.2.2.2.1 hws hE.2.2.2.2.1 hE.2.2.2.2.2.2.2.1.1 hP q (wd_obj ha (of_decide_eq_true hq)) hc f hfN (va_Nw.use rfl (hE.2.2.2.2.2.2.2.1.2.1 _ hlk)) (by rw [hTC]; exact fun _ h9 => h9) hfs hd h
/-- an int field is read -/
theorem G_getI {q idx f v : Nat} (hd : decode cc pc = .ok (.getfield idx, 3)) (hl : FLk own idx (ocS q) f) (hq : (decide (q < NP)) = true) (ha : arS q = none) (hf : (fkS q)[f]? = some (Sum.inl v)) (k : G E cc own ret d (pc + 3) ls (mI (t v 0) :: st) t Q) : G E cc own ret d pc ls (mP q :: st) t Q :=
  G_get (v := mI (t v 0)) hd hl hq ha hf (fun _ => rfl) (fun ht => ht v 0) k
/-- a reference field is read -/
theorem G_getP {q idx f r : Nat} (hd : decode cc pc = .ok (.getfield idx, 3)) (hl : FLk own idx (ocS q) f) (hq : (decide (q < NP)) = true) (ha : arS q = none) (hf : (fkS q)[f]? = some (Sum.inr r)) (k : G E cc own ret d (pc + 3) ls (mP r :: st) t Q) : G E cc own ret d pc ls (mP q :: st) t Q :=
  G_get (v := mP r) hd hl hq ha hf (fun _ => rfl) (fun _ => trivial) k
theorem fit_i {x : Int32} : fits .int (.int x) = true := rfl
theorem G_put {q idx f v : Nat} {x : Int} {b : Bool} (hd : decode cc pc = .ok (.putfield idx, 3)) (hl : FLk own idx (ocS q) f) (hw : FLw (ocS q) f b) (hq : (decide (q < NP)) = true) (ha : arS q = none) (hf : (fkS q)[f]? = some (Sum.inl v)) (hx : b = true → x = 0 ∨ x = 1) (k : G E cc own ret d (pc + 3) ls st (su t v 0 x) Q) : G E cc own ret d pc ls (mI x :: mP q :: st) t Q := by
  obtain ⟨⟨p, l, e, R, s⟩, ⟨m, args, below, meth, c⟩, ⟨D, cy, ad⟩⟩ := E
  intro hE ht hst hls H locs la hP hS hla
  obtain ⟨C, T, N, ty, hc, hfN, hws, hty, hnm, hTC, hlk⟩ := hl
  obtain ⟨C2, T2, N2, hc2, hfin, hpd⟩ := hw
  cases hc.symm.trans hc2
  have hxr : inR x := ok_hd hst
  have hlen : f < ((fkS q).map (fvS ad t)).length := by rw [List.length_map]; exact (List.getElem?_eq_some_iff.mp hf).1
  have hnar : narrow (if b then .boolean else .int) (.int (Int32.ofInt x)) = .int (Int32.ofInt x) := by
    cases b with
    | false => rfl
    | true => rcases hx rfl with rfl | rfl <;> rfl
  have hfit : fits (if b then .boolean else .int) (.int (Int32.ofInt x)) = true := by
    cases b with
    | false => rfl
    | true => rcases hx rfl with rfl | rfl <;> rfl
  have hend : ∀ (H1 : Heap) (locs1 : List Loc), va_P D vwCl ((wd cy ad t).set q (ad q, .inr (ocS q, ((fkS q).map (fvS ad t)).set f (.int (Int32.ofInt x))))) H1 → va_D (Aw ad) ((wd cy ad t).set q (ad q, .inr (ocS q, ((fkS q).map (fvS ad t)).set f (.int (Int32.ofInt x))))) → va_S (Aw ad) s.heap H1 locs1 → W p l e R s m args below meth c H1 locs1 0 0 (MQ below (Qx D cy ad Q) args s 0 0 (Aw ad)) (F0 m (pc + 3) la (st.map (mval ad))) := by
    intro H1 locs1 hP1 _ hS1
    rw [wd_set_fld ha (of_decide_eq_true hq) hf] at hP1
    exact k hE (okS_su ht hxr) (ok_tl (ok_tl hst)) hls H1 locs1 la hP1 hS1 hla
  rcases hlk with hlk | ⟨host, hlk⟩
  · exact va_put (ref := C) hE.1 hE.2.1 hE.2.2.2.2.2.1 hws ty hty hnm hE.2.2.2.2.1 hE.2.2.2.2.2.2.2.1.1 hP (wd_D hE.2.2.2.2.2.2.1) hS q (wd_obj ha (of_decide_eq_true hq)) hc f hfN (hE.2.2.2.2.2.1 _ hlk) (by rw [hTC]; exact fun _ h9 => h9) hfin hpd hnar hfit hlen hd hend
  · exact va_putN (ref := C) (host := host) hE.1 hE.2.1 hE.2.2.2.2.2.1 hws ty hty hnm hE.2.2.2.2.1 hE.2.2.2.2.2.2.2.1.1 hP (wd_D hE.2.2.2.2.2.2.1) hS q (wd_obj ha (of_decide_eq_true hq)) hc f hfN (va_Nw.use rfl (hE.2.2.2.2.2.2.2.1.2.1 _ hlk)) (by rw [hTC]; exact fun _ h9 => h9) hfin hpd hnar hfit hlen hd hend
/-- a static row's name: the k-th -/
def STk (own : String) (idx k : Nat) : Prop := ∃ q, stS[k]? = some q ∧ (Cond.fieldLink own idx q.1 q.2.1 "[I" ∈ gw ∨ ∃ host, Cond.fieldLinkNest own idx q.1 q.2.1 "[I" host ∈ nwF)
theorem G_ireturn {x : Int} (hd : decode cc pc = .ok (.ireturn, 1)) (k : Q (some (mI x)) t) : G E cc own (some .int) d pc ls [mI x] t Q := by
  obtain ⟨⟨p, l, e, R, s⟩, ⟨m, args, below, meth, c⟩, ⟨D, cy, ad⟩⟩ := E
  intro hE ht hst hls H locs la hP hS hla
  have hlocks := hE.2.2.2.1
  exact W.iret hE.1 hE.2.1 hE.2.2.1 (fun tt htt _ => ⟨⟨some (mI x), t, rfl, fun v hv => by cases hv; exact ok_hd hst, k, by rw [htt]; exact hP, ht⟩, hS.F htt⟩) hS.2.2 hd hlocks
theorem G_zreturn {x : Int} (hd : decode cc pc = .ok (.ireturn, 1)) (hx : x = 0 ∨ x = 1) (k : Q (some (mI x)) t) : G E cc own (some .boolean) d pc ls [mI x] t Q := by
  obtain ⟨⟨p, l, e, R, s⟩, ⟨m, args, below, meth, c⟩, ⟨D, cy, ad⟩⟩ := E
  intro hE ht hst hls H locs la hP hS hla
  have hlocks := hE.2.2.2.1
  have hn : narrow .boolean (.int (Int32.ofInt x)) = .int (Int32.ofInt x) := by rcases hx with rfl | rfl <;> rfl
  exact W.zret hE.1 hE.2.1 hE.2.2.1 hn (fun tt htt _ => ⟨⟨some (mI x), t, rfl, fun v hv => by cases hv; exact ok_hd hst, k, by rw [htt]; exact hP, ht⟩, hS.F htt⟩) hS.2.2 hd hlocks
theorem G_return (hd : decode cc pc = .ok (.return_, 1)) (k : Q none t) : G E cc own none d pc ls [] t Q := by
  obtain ⟨⟨p, l, e, R, s⟩, ⟨m, args, below, meth, c⟩, ⟨D, cy, ad⟩⟩ := E
  intro hE ht hst hls H locs la hP hS hla
  have hlocks := hE.2.2.2.1
  exact W.vret hE.1 hE.2.1 hE.2.2.1 (fun tt htt _ => ⟨⟨none, t, rfl, (fun v hv => by cases hv), k, by rw [htt]; exact hP, ht⟩, hS.F htt⟩) hS.2.2 hd hlocks
/-- a store or a claim that is weaker -/
theorem G_mono {Q' : Option MV → Sto → Prop} (h : ∀ r t', Q r t' → Q' r t') (k : G E cc own ret d pc ls st t Q) : G E cc own ret d pc ls st t Q' := by
  obtain ⟨⟨p, l, e, R, s⟩, ⟨m, args, below, meth, c⟩, ⟨D, cy, ad⟩⟩ := E
  intro hE ht hst hls H locs la hP hS hla T hT X
  obtain ⟨tt, a1, o, b1, b2, b3, b4⟩ := k hE ht hst hls H locs la hP hS hla T hT X
  refine ⟨tt, a1, o, b1, b2, ?_, b4⟩
  obtain ⟨⟨r, t', e1, e2, e3, e4⟩, e5⟩ := b3
  exact ⟨⟨r, t', e1, e2, h r t' e3, e4⟩, e5⟩
end RULES2
end
section
/-! RULES of statics, of calls, of longs and switches; a contract out of a walk -/
section RULES3
variable {E : Ev} {cc : ByteArray} {own : String} {ret : Option FieldType} {d pc : Nat} {ls : List (Option MV)} {st : List MV} {t : Sto} {Q : Option MV → Sto → Prop}
theorem G_getstatic {idx k : Nat} (hd : decode cc pc = .ok (.getstatic idx, 3)) (hl : STk own idx k) (kk : G E cc own ret d (pc + 3) ls (mP (100 + k) :: st) t Q) : G E cc own ret d pc ls st t Q := by
  obtain ⟨⟨p, l, e, R, s⟩, ⟨m, args, below, meth, c⟩, ⟨D, cy, ad⟩⟩ := E
  intro hE ht hst hls H locs la hP hS hla
  obtain ⟨q, hq, hlk⟩ := hl
  have h := kk hE ht (ok_cons (v := mP (100 + k)) trivial hst) hls H locs la hP hS hla
  have hZ := (hE.2.2.2.2.2.2.2.1.2.2 k q hq).1
  rcases hlk with hlk | ⟨host, hlk⟩
  · exact va_gets (ref := q.1) hE.1 hE.2.1 hZ hS hE.2.2.2.2.1 (hE.2.2.2.2.2.1 _ hlk) (fun _ h9 => h9) hd h
  · exact va_getsN (ref := q.1) (host := host) hE.1 hE.2.1 hZ hS hE.2.2.2.2.1 (va_Nw.use rfl (hE.2.2.2.2.2.2.2.1.2.1 _ hlk)) (fun _ h9 => h9) hd h
theorem G_sload {k : Nat} {i : Int} {xs : List Int} (hd : decode cc pc = .ok (.iaload, 1)) (hk : (stS[k]?).map (fun q => q.2.2) = some xs) (hr : xs.all (fun x => decide (-2147483648 ≤ x ∧ x ≤ 2147483647)) = true) (hi : 0 ≤ i ∧ i < xs.length) (kk : G E cc own ret d (pc + 1) ls (mI (xs.getD i.toNat 0) :: st) t Q) : G E cc own ret d pc ls (mI i :: mP (100 + k) :: st) t Q := by
  obtain ⟨⟨p, l, e, R, s⟩, ⟨m, args, below, meth, c⟩, ⟨D, cy, ad⟩⟩ := E
  intro hE ht hst hls H locs la hP hS hla
  have hir : inR i := ok_hd hst
  have hxr : inR (xs.getD i.toNat 0) := by
    have hlt : i.toNat < xs.length := by omega
    rw [List.getD_eq_getElem?_getD, List.getElem?_eq_getElem hlt]
    have h1 := List.all_eq_true.mp hr _ (List.getElem_mem hlt)
    simp only [decide_eq_true_eq] at h1
    exact h1
  obtain ⟨q, hq, he⟩ := Option.map_eq_some_iff.mp hk
  have hT := (hE.2.2.2.2.2.2.2.1.2.2 k q hq).2
  rw [he] at hT
  have h := kk hE ht (ok_cons (v := mI (xs.getD i.toNat 0)) hxr (ok_tl (ok_tl hst))) hls H locs la hP hS hla
  exact va_ti hE.1 hE.2.1 hT hS (io_in hir hi.1 hi.2) (by rw [io_nat hir]; rfl) hd h
/-- the contract's start holds of the caller's state -/
theorem pc_blind {D : va_G} {cy : Bool → ClassId} {ad : Nat → Nat} {as : List MV} : FrameBlind (va_Pc (as.map (mval ad)) (fun U => va_P D vwCl (wd cy ad t) U.heap ∧ okS t ∧ (∀ v ∈ as, okV v) ∧ apartW ad ∧ cxK D cy ad U U.heap)) := by
  intro a U g mk q
  obtain ⟨q0, qP, q1, q2, q3, qK, qN, qT⟩ := q
  exact ⟨q0, qP, q1, q2, q3, va_K.moved (u := U) (U := U.calling g mk a) (Vm.Alike.refl U.vm) qK, nw_same (s := U) (U := U.calling g mk a) rfl qN, stK.moved (u := U) (U := U.calling g mk a) (Vm.Alike.refl U.vm) qT⟩
theorem pc_at {s U : State} {H : Heap} {locs : List Loc} {D : va_G} {cy : Bool → ClassId} {ad : Nat → Nat} {as : List MV} (hP : va_P D vwCl (wd cy ad t) H) (ht : okS t) (has : ∀ v ∈ as, okV v) (hap : apartW ad) (hK : cxK D cy ad s s.heap) (hS : va_S (Aw ad) s.heap H locs) (hU : U.heap = H) (hW : s.WarmedH U.vm) :
    va_Pc (as.map (mval ad)) (fun U => va_P D vwCl (wd cy ad t) U.heap ∧ okS t ∧ (∀ v ∈ as, okV v) ∧ apartW ad ∧ cxK D cy ad U U.heap) (as.map (mval ad)).toArray U := by
  refine ⟨rfl, by rw [hU]; exact hP, ht, has, hap, va_K.moved hW.alike hK.1, nw_warm hW hK.2.1, ?_⟩
  rw [hU]
  exact (hK.2.2.kept hS.2.1).moved hW.alike
theorem G_ret {p : Program} {l : Launch} {e : Env} {R : Room} {s : State} {m : MethodId} {args : Array Value} {below : List Frame} {meth : Method} {c : Code} {D : va_G} {cy : Bool → ClassId} {ad : Nat → Nat} {H : Heap} {locs : List Loc} {g : JFrame} {rest : List Value} {a : Array Value} {Qc : Option MV → Sto → Prop} {Z : State → Prop}
    (hr : va_Run p l e R s m args below meth c H locs 0 0 0 0 g rest (Qx D cy ad Qc a) (Aw ad)) (hS : va_S (Aw ad) s.heap H locs)
    (kk : ∀ (r : Option MV) (t' : Sto) (H1 : Heap) (locs1 : List Loc), (∀ v, r = some v → okV v) → Qc r t' → va_P D vwCl (wd cy ad t') H1 → okS t' → va_S (Aw ad) s.heap H1 locs1 → W p l e R s m args below meth c H1 locs1 0 0 Z { g with pc := g.pc + 3, stack := (r.map (mval ad)).toList ++ rest }) : W p l e R s m args below meth c H locs 0 0 Z g := by
  intro T hT X
  obtain ⟨v, st₀, t1, T', L, h0, X', hL, e1, e2, ⟨⟨r, t', hv, hok, hq, hP, ht⟩, hz, hk⟩, stp⟩ := hr T hT X
  cases hv
  rw [h0] at hz hk
  obtain ⟨t2, a1, b1⟩ := kk r t' T'.heap (locs ++ L) hok hq (by rw [e1]; exact hP) ht
    ⟨Nat.le_trans hS.1 (by rw [e1]; exact hz), fun q h1 h2 => by rw [e1, hk q (Nat.lt_of_lt_of_le h1 hS.1) h2]; exact hS.2.1 q h1 h2, fun q hq => by
      rcases List.mem_append.mp hq with h | h
      · exact hS.2.2 q h
      · exact hL q h⟩ T' rfl X'
  exact ⟨t2, stp t2 a1, b1⟩
/-- an instance method that an instruction of own names by idx -/
def MLV (own : String) (idx : Nat) (y : MethodName) (ci : Nat) (cc : ByteArray) (nL : Nat) (ret : Option FieldType) (n : Nat) : Prop := Cond.methodLink own idx y ∈ gw ∧ Cond.instanceMethod y ∈ gw ∧ (∃ C T N, vwCl[ci]? = some (C, T, N) ∧ Cond.selects C y y ∈ gw ∧ Cond.initialized C ∈ gw ∧ (y.cls = C ∧ y.cls ≠ "java/lang/invoke/MethodHandle" ∧ y.cls ≠ "java/lang/invoke/VarHandle" ∧ (parseMethodDescriptor y.desc).map (fun d => d.parameters.length) = some n)) ∧ Cond.code y cc nL ret ∈ gw ∧ nL ≤ 45
def MLS (own : String) (idx : Nat) (y : MethodName) (cc : ByteArray) (nL : Nat) (ret : Option FieldType) (n : Nat) : Prop := Cond.methodLink own idx y ∈ gw ∧ Cond.static y ∈ gw ∧ Cond.initialized y.cls ∈ gw ∧ (y.cls ≠ "java/lang/invoke/MethodHandle" ∧ y.cls ≠ "java/lang/invoke/VarHandle" ∧ (parseMethodDescriptor y.desc).map (fun d => d.parameters.length) = some n) ∧ Cond.code y cc nL ret ∈ gw ∧ nL ≤ 45
theorem map_rev {ad : Nat → Nat} {as rest : List MV} : (as.reverse ++ rest).map (mval ad) = (as.map (mval ad)).reverse ++ rest.map (mval ad) := by simp
def catS (v : MV) : Nat := match v with
  | Sum.inr (Sum.inr _) => 2
  | _ => 1
theorem cat_sum {ad : Nat → Nat} (rest : List MV) : ((rest.map (mval ad)).map fun v => v.category).sum = (rest.map catS).sum := by
  induction rest with
  | nil => rfl
  | cons v r ih =>
    simp only [List.map_cons, List.sum_cons, ih]
    rcases v with x | q | x <;> rfl
theorem lok.size {la : Array Slot} {nL : Nat} {ad : Nat → Nat} (h : lok la nL ad ls) : la.size = nL := by
  obtain ⟨lv, h1, -⟩ := h
  exact h1.1
theorem ok_app {a b : List MV} (h : ∀ v ∈ a ++ b, okV v) : (∀ v ∈ a, okV v) ∧ ∀ v ∈ b, okV v := ⟨fun v hv => h v (List.mem_append_left _ hv), fun v hv => h v (List.mem_append_right _ hv)⟩
theorem G_callV {y : MethodName} {cc' : ByteArray} {nL' : Nat} {ret' : Option FieldType} {d' idx q : Nat} {as rest : List MV} {Qc : Option MV → Sto → Prop} (hct : CT y cc' nL' ret' d' (mP q :: as) t Qc) (hd : decode cc pc = .ok (.invokevirtual idx, 3)) (hl : MLV own idx y (ocS q) cc' nL' ret' as.length) (hq : (decide (q < NP)) = true) (ha : arS q = none) (hst : st = as.reverse ++ mP q :: rest) (hdep : d' + 1 ≤ d) (hcat : (rest.map catS).sum ≤ 8)
    (k : ∀ r t', Qc r t' → G E cc own ret d (pc + 3) ls (r.toList ++ rest) t' Q) : G E cc own ret d pc ls st t Q := by
  subst hst
  obtain ⟨⟨p, l, e, R, s⟩, ⟨m, args, below, meth, c⟩, ⟨D, cy, ad⟩⟩ := E
  intro hE ht hst hls H locs la hP hS hla
  obtain ⟨hx, hb, hret, hlk, hown, hts, hap, hK, hfr, hlo⟩ := id hE
  obtain ⟨hl1, hl2, ⟨C, T, N, hc, hsel, hini, hy⟩, hcode, hnl⟩ := hl
  obtain ⟨has, hrest0⟩ := ok_app hst
  have has : ∀ v ∈ mP q :: as, okV v := ok_cons trivial (fun v hv => has v (List.mem_reverse.mpr hv))
  have hrest : ∀ v ∈ rest, okV v := ok_tl hrest0
  have hGI : GoodIn gw (wsV own idx C y (Cond.code y cc' nL' ret' :: gw)) := by
    intro w hw
    have hg := gw_good hcode
    rcases List.mem_append.mp hw with h | h
    · have hm : w ∈ gw := by
        simp only [List.mem_cons, List.not_mem_nil, or_false] at h
        rcases h with rfl | rfl | rfl | rfl
        · exact hl1
        · exact hl2
        · exact hsel
        · exact hini
      exact ⟨hm, good_of_word (List.mem_filter.mp hm).2⟩
    · exact hg w h
  have hrun := va_runV (As := as.map (mval ad)) (rest := rest.map (mval ad)) (g := F0 m pc la ((as.reverse ++ mP q :: rest).map (mval ad))) (e := e) (below := below) (meth := meth) (locs := locs) (cells := 0) (slots := 0) ⟨hx, hb, rfl, hown, hts⟩ (hct l D cy ad)
    (cwV as.length hts hGI rfl rfl rfl hy ⟨Nat.le_trans hdep hfr, by show 8 + (nL' + 11) + 64 * d' ≤ R.locals; omega⟩)
    ⟨pc_blind, va_recv hK.1 hP hc (wd_obj ha (of_decide_eq_true hq)), fun U hU hW => pc_at hP ht has hap hK hS hU hW⟩ rfl (by simp) hla.size (by rw [map_rev]; rfl) (lv_room (by rw [cat_sum]; exact hcat)) hd ⟨Nat.zero_le _, Nat.zero_le _⟩
  refine G_ret hrun hS (fun r t' H1 locs1 hok hQ hP1 ht1 hS1 => ?_)
  have h := k r t' hQ hE ht1 (fun v hv => by
    rcases List.mem_append.mp hv with h | h
    · exact hok v (by simpa using h)
    · exact hrest v h) hls H1 locs1 la hP1 hS1 hla
  cases r <;> exact h
theorem G_callS {y : MethodName} {cc' : ByteArray} {nL' : Nat} {ret' : Option FieldType} {d' idx : Nat} {as rest : List MV} {Qc : Option MV → Sto → Prop} (hct : CT y cc' nL' ret' d' as t Qc) (hd : decode cc pc = .ok (.invokestatic idx, 3)) (hl : MLS own idx y cc' nL' ret' as.length) (hst : st = as.reverse ++ rest) (hdep : d' + 1 ≤ d) (hcat : (rest.map catS).sum ≤ 8)
    (k : ∀ r t', Qc r t' → G E cc own ret d (pc + 3) ls (r.toList ++ rest) t' Q) : G E cc own ret d pc ls st t Q := by
  subst hst
  obtain ⟨⟨p, l, e, R, s⟩, ⟨m, args, below, meth, c⟩, ⟨D, cy, ad⟩⟩ := E
  intro hE ht hst hls H locs la hP hS hla
  obtain ⟨hx, hb, hret, hlk, hown, hts, hap, hK, hfr, hlo⟩ := id hE
  obtain ⟨hl1, hl2, hini, hy, hcode, hnl⟩ := hl
  obtain ⟨has, hrest⟩ := ok_app hst
  have has : ∀ v ∈ as, okV v := fun v hv => has v (List.mem_reverse.mpr hv)
  have hGI : GoodIn gw (va_wsS own idx y (Cond.code y cc' nL' ret' :: gw)) := by
    intro w hw
    have hg := gw_good hcode
    rcases List.mem_append.mp hw with h | h
    · have hm : w ∈ gw := by
        simp only [List.mem_cons, List.not_mem_nil, or_false] at h
        rcases h with rfl | rfl | rfl
        · exact hl1
        · exact hl2
        · exact hini
      exact ⟨hm, good_of_word (List.mem_filter.mp hm).2⟩
    · exact hg w h
  have hrun := va_runS (As := as.map (mval ad)) (rest := rest.map (mval ad)) (g := F0 m pc la ((as.reverse ++ rest).map (mval ad))) (e := e) (below := below) (meth := meth) (locs := locs) (cells := 0) (slots := 0) ⟨hx, hb, rfl, hown, hts⟩ (hct l D cy ad)
    (va_cwS as.length hts hGI rfl rfl rfl hy ⟨Nat.le_trans hdep hfr, by show 8 + (nL' + 11) + 64 * d' ≤ R.locals; omega⟩)
    ⟨pc_blind, fun U hU hW => pc_at hP ht has hap hK hS hU hW⟩ rfl (by simp) hla.size (by rw [map_rev]) (lv_room (by rw [cat_sum]; exact hcat)) hd ⟨Nat.zero_le _, Nat.zero_le _⟩
  refine G_ret hrun hS (fun r t' H1 locs1 hok hQ hP1 ht1 hS1 => ?_)
  have h := k r t' hQ hE ht1 (fun v hv => by
    rcases List.mem_append.mp hv with h | h
    · exact hok v (by simpa using h)
    · exact hrest v h) hls H1 locs1 la hP1 hS1 hla
  cases r <;> exact h
/-- a contract out of a walk from the entry -/
theorem lv_args_get (ad : Nat → Nat) (as : List MV) (hl : ∀ v ∈ as, notLong (some (some v)) = true) : ∀ (k n : Nat) (v : MV), as[n]? = some v → (k + n, mval ad v) ∈ lv_args k (as.map (mval ad)) := by
  induction as with
  | nil => intro k n v h; simp at h
  | cons a as ih =>
    intro k n v h
    have hc : ¬ (mval ad a).category = 2 := by rw [mval_cat (hl a List.mem_cons_self)]; decide
    show _ ∈ (k, mval ad a) :: lv_args (if (mval ad a).category = 2 then k + 2 else k + 1) (as.map (mval ad))
    rw [if_neg hc]
    cases n with
    | zero =>
      have : a = v := by simpa using h
      rw [this]
      exact List.mem_cons_self
    | succ n =>
      refine List.mem_cons_of_mem _ ?_
      have := ih (fun v hv => hl v (List.mem_cons_of_mem _ hv)) (k + 1) n v (by simpa using h)
      rwa [show k + (n + 1) = k + 1 + n by omega]
theorem sl_len (ad : Nat → Nat) (as : List MV) (hl : ∀ v ∈ as, notLong (some (some v)) = true) : (lg_sl (as.map (mval ad))).length = as.length := by
  induction as with
  | nil => rfl
  | cons a as ih =>
    have hc : ¬ (mval ad a).category = 2 := by rw [mval_cat (hl a List.mem_cons_self)]; decide
    have := ih (fun v hv => hl v (List.mem_cons_of_mem _ hv))
    simp only [lg_sl, List.map_cons, List.flatMap_cons, if_neg hc] at this ⊢
    simp [this]
theorem CT_of {y : MethodName} {cc : ByteArray} {nL : Nat} {ret : Option FieldType} {d : Nat} {as : List MV} {t : Sto} {Q : Option MV → Sto → Prop} (hy : plainName y.cls = true) (hl : as.all (fun v => notLong (some (some v))) = true) (hn : as.length ≤ nL)
    (k : ∀ E : Ev, okS t → (∀ v ∈ as, okV v) → G E cc y.cls ret d 0 (as.map some ++ List.replicate (nL - as.length) none) [] t Q) : CT y cc nL ret d as t Q := by
  intro l D cy ad
  refine Met.ofW (cc := cc) (maxL := nL) (ret := ret) hy rfl ?_
  intro p e s m args below meth c s₁ B hml hv
  obtain ⟨rfl, hP, ht, has, hap, hK⟩ := hv
  have hl' : ∀ v ∈ as, notLong (some (some v)) = true := fun v hv => List.all_eq_true.mp hl v hv
  have hts := atoms_spec (ws := Cond.code y cc nL ret :: gw) B.pre
  have hown : s.vm.findClass y.cls = some m.cls := findClass_of_methodNamed B.named
  have hl := lv_entry (as.map (mval ad)) (n := nL) (by rw [sl_len ad as hl']; exact hn)
  rw [lg_entry_eq]
  have h := k ((p, l, e, (headSpec (Cond.code y cc nL ret :: gw) { frames := d, cells := 0, slots := 0, locals := 64 * d }).room, s), (m, (as.map (mval ad)).toArray, below, meth, c), (D, cy, ad)) ht has
    ⟨B.exec, B.bytes, B.returns, B.notSynchronized, hown, fun w hw => hts w (List.mem_cons_of_mem _ hw), hap, hK, Nat.le_refl _, Nat.le_refl _⟩ ht (fun v hv => by cases hv) (fun v hv => by
      rcases List.mem_append.mp hv with h | h
      · exact has v (by simpa using h)
      · have := List.eq_of_mem_replicate h
        cases this) s.heap [] _ hP va_S.rf ⟨_, by rw [hml]; exact hl, by rw [hml]; simp; omega, fun n v hn2 => ?_⟩
  · exact h
  · have hn3 : as[n]? = some v := by
      by_cases hlt : n < as.length
      · rw [List.getElem?_append_left (by simpa using hlt), List.getElem?_map] at hn2
        cases hq : as[n]? with
        | none => rw [hq] at hn2; cases hn2
        | some w => rw [hq] at hn2; simpa using hn2
      · rw [List.getElem?_append_right (by simpa using hlt)] at hn2
        have := List.eq_of_mem_replicate (List.mem_of_getElem? hn2)
        cases this
    have := lv_args_get ad as hl' 0 n v hn3
    rwa [Nat.zero_add] at this
end RULES3
end
section
/-! RULES of longs, switches, Math; short forms of calls -/
section RULES4
variable {E : Ev} {cc : ByteArray} {own : String} {ret : Option FieldType} {d pc : Nat} {ls : List (Option MV)} {st : List MV} {t : Sto} {Q : Option MV → Sto → Prop}
theorem jo_toInt {x : Int} (h : inL x) : (Int64.ofInt x).toInt = x := Int64.toInt_ofInt_of_le (by unfold inL at h; omega) (by unfold inL at h; omega)
theorem inL_of {x : Int} (h : inR x) : inL x := ⟨by unfold inR at h; omega, by unfold inR at h; omega⟩
theorem G_i2l {a : Int} (hd : decode cc pc = .ok (.i2l, 1)) (k : G E cc own ret d (pc + 1) ls (mL a :: st) t Q) : G E cc own ret d pc ls (mI a :: st) t Q := by
  obtain ⟨⟨p, l, e, R, s⟩, ⟨m, args, below, meth, c⟩, ⟨D, cy, ad⟩⟩ := E
  intro hE ht hst hls H locs la hP hS hla
  have ha : inR a := ok_hd hst
  have h := k hE ht (ok_cons (v := mL a) (inL_of ha) (ok_tl hst)) hls H locs la hP hS hla
  refine lv_i2l hE.1 hE.2.1 hd ?_ h
  apply Int64.toInt_inj.mp
  rw [Int32.toInt_toInt64, io_toInt ha, jo_toInt (inL_of ha)]
theorem G_lmul {a b : Int} (hd : decode cc pc = .ok (.lmul, 1)) (hr : -9223372036854775808 ≤ a * b ∧ a * b ≤ 9223372036854775807) (k : G E cc own ret d (pc + 1) ls (mL (a * b) :: st) t Q) : G E cc own ret d pc ls (mL b :: mL a :: st) t Q := by
  obtain ⟨⟨p, l, e, R, s⟩, ⟨m, args, below, meth, c⟩, ⟨D, cy, ad⟩⟩ := E
  intro hE ht hst hls H locs la hP hS hla
  have h := k hE ht (ok_cons (v := mL (a * b)) hr (ok_tl (ok_tl hst))) hls H locs la hP hS hla
  simp only [List.map_cons, mval, Int64.ofInt_mul] at h
  exact lv_lmul hE.1 hE.2.1 hd h
theorem G_lsub {a b : Int} (hd : decode cc pc = .ok (.lsub, 1)) (hr : -9223372036854775808 ≤ a - b ∧ a - b ≤ 9223372036854775807) (k : G E cc own ret d (pc + 1) ls (mL (a - b) :: st) t Q) : G E cc own ret d pc ls (mL b :: mL a :: st) t Q := by
  obtain ⟨⟨p, l, e, R, s⟩, ⟨m, args, below, meth, c⟩, ⟨D, cy, ad⟩⟩ := E
  intro hE ht hst hls H locs la hP hS hla
  have h := k hE ht (ok_cons (v := mL (a - b)) hr (ok_tl (ok_tl hst))) hls H locs la hP hS hla
  simp only [List.map_cons, mval, Int64.ofInt_sub] at h
  exact lv_lsub hE.1 hE.2.1 hd h
theorem G_lconst {n : Fin 2} {x : Int} (hd : decode cc pc = .ok (.lconst n, 1)) (hx : Int64.ofNat (n : Nat) = Int64.ofInt x) (hr : -9223372036854775808 ≤ x ∧ x ≤ 9223372036854775807) (k : G E cc own ret d (pc + 1) ls (mL x :: st) t Q) : G E cc own ret d pc ls st t Q := by
  obtain ⟨⟨p, l, e, R, s⟩, ⟨m, args, below, meth, c⟩, ⟨D, cy, ad⟩⟩ := E
  intro hE ht hst hls H locs la hP hS hla
  exact lv_lconst hE.1 hE.2.1 hd hx (k hE ht (ok_cons (v := mL x) hr hst) hls H locs la hP hS hla)
theorem G_ldc2 {n : Nat} {x : Int} (hd : decode cc pc = .ok (.ldc2_w n, 3)) (hw : Cond.constantLong own n (Int64.ofInt x) ∈ gw) (hr : -9223372036854775808 ≤ x ∧ x ≤ 9223372036854775807) (k : G E cc own ret d (pc + 3) ls (mL x :: st) t Q) : G E cc own ret d pc ls st t Q := by
  obtain ⟨⟨p, l, e, R, s⟩, ⟨m, args, below, meth, c⟩, ⟨D, cy, ad⟩⟩ := E
  intro hE ht hst hls H locs la hP hS hla
  exact W.ldc2 hE.1 hE.2.1 hE.2.2.2.2.1 (hE.2.2.2.2.2.1 _ hw) rfl hd (k hE ht (ok_cons (v := mL x) hr hst) hls H locs la hP hS hla)
def lcmpI (a b : Int) : Int := if b < a then 1 else if a = b then 0 else -1
theorem jo_eq {x y : Int} (hx : inL x) (hy : inL y) : Int64.ofInt x = Int64.ofInt y ↔ x = y := by
  constructor
  · intro h
    rw [← jo_toInt hx, ← jo_toInt hy, h]
  · intro h; rw [h]
theorem jo_lt {x y : Int} (hx : inL x) (hy : inL y) : Int64.ofInt x < Int64.ofInt y ↔ x < y := by
  rw [Int64.lt_iff_toInt_lt, jo_toInt hx, jo_toInt hy]
theorem G_lcmp {a b : Int} (hd : decode cc pc = .ok (.lcmp, 1)) (k : G E cc own ret d (pc + 1) ls (mI (lcmpI a b) :: st) t Q) : G E cc own ret d pc ls (mL b :: mL a :: st) t Q := by
  obtain ⟨⟨p, l, e, R, s⟩, ⟨m, args, below, meth, c⟩, ⟨D, cy, ad⟩⟩ := E
  intro hE ht hst hls H locs la hP hS hla
  have ha : inL a := ok_hd (ok_tl hst)
  have hb : inL b := ok_hd hst
  have hr : inR (lcmpI a b) := by
    unfold lcmpI inR
    split
    · omega
    · split <;> omega
  have h := k hE ht (ok_cons (v := mI (lcmpI a b)) hr (ok_tl (ok_tl hst))) hls H locs la hP hS hla
  have e1 : lg_cmp (Int64.ofInt a) (Int64.ofInt b) = Int32.ofInt (lcmpI a b) := by
    unfold lg_cmp lcmpI
    simp only [gt_iff_lt, jo_lt hb ha, jo_eq ha hb]
    split
    · rfl
    · split <;> rfl
  refine W.lcmp hE.1 hE.2.1 hd ?_
  rw [e1]
  exact h
theorem lok.putL {la : Array Slot} {nL : Nat} {ad : Nat → Nat} {ls : List (Option MV)} (h : lok la nL ad ls) {i : Nat} (x : Int) (hi : i + 1 < ls.length) (hb : (i == 0 || notLong ls[i-1]?) = true) {lv : List (Nat × Value)} (hin : ∀ n v, ls[n]? = some (some v) → (n, mval ad v) ∈ lv) {la' : Array Slot} (h' : lv_has la' nL ((i, mval ad (mL x)) :: lv.filter (fun q => !(q.1 == i) && (!(q.1 == i + 1) && !(q.1 + 1 == i && q.2.category == 2))))) : lok la' nL ad ((ls.set i (some (mL x))).set (i + 1) none) := by
  obtain ⟨-, -, hlen, -⟩ := h
  refine ⟨_, h', by simpa using hlen, fun n w hn => ?_⟩
  rw [List.getElem?_set] at hn
  by_cases e1 : i + 1 = n
  · rw [if_pos e1] at hn
    split at hn
    · cases hn
    · cases hn
  · rw [if_neg e1, List.getElem?_set] at hn
    by_cases e : i = n
    · subst e
      have hi2 : i < ls.length := by omega
      simp only [hi2, if_true] at hn
      cases hn
      exact List.mem_cons_self
    · rw [if_neg e] at hn
      refine List.mem_cons_of_mem _ (List.mem_filter.mpr ⟨hin n w hn, ?_⟩)
      simp only [Bool.and_eq_true, Bool.not_eq_true', beq_eq_false_iff_ne, ne_eq, Bool.and_eq_false_iff]
      refine ⟨fun e2 => e e2.symm, fun e2 => e1 e2.symm, ?_⟩
      by_cases e3 : n + 1 = i
      · right
        have hb2 : notLong ls[i-1]? = true := by
          rcases Bool.or_eq_true_iff.mp hb with z | z
          · have : i = 0 := by simpa using z
            omega
          · exact z
        have e4 : i - 1 = n := by omega
        rw [e4, hn] at hb2
        rw [mval_cat hb2]
        decide
      · left
        exact e3
theorem G_lstore {n : Nat} {v : Int} (hd : decode cc pc = .ok (.lstore n, 2)) (hi : n + 1 < ls.length) (hb : (n == 0 || notLong ls[n-1]?) = true) (k : G E cc own ret d (pc + 2) ((ls.set n (some (mL v))).set (n + 1) none) st t Q) : G E cc own ret d pc ls (mL v :: st) t Q := by
  obtain ⟨⟨p, l, e, R, s⟩, ⟨m, args, below, meth, c⟩, ⟨D, cy, ad⟩⟩ := E
  intro hE ht hst hls H locs la hP hS hla
  obtain ⟨lv, h1, h2, h3⟩ := id hla
  refine lv_lstore hE.1 hE.2.1 hd h1 (Nat.lt_of_lt_of_le hi h2) rfl (fun la' h' => k hE ht (ok_tl hst) ?_ H locs la' hP hS (hla.putL v hi hb h3 h'))
  intro w hw
  rcases List.mem_or_eq_of_mem_set hw with e | e
  · exact ok_set hls (ok_hd hst) w e
  · cases e
theorem G_tableAt {dflt lo hi x off : Int} {offs : Array Int} {len tgt : Nat} (hd : decode cc pc = .ok (.tableswitch dflt lo hi offs, len)) (h1 : lo ≤ x ∧ x ≤ hi) (ho : offs[(x - lo).toNat]? = some off) (htg : (pc : Int) + off = (tgt : Int)) (k : G E cc own ret d tgt ls st t Q) : G E cc own ret d pc ls (mI x :: st) t Q := by
  obtain ⟨⟨p, l, e, R, s⟩, ⟨m, args, below, meth, c⟩, ⟨D, cy, ad⟩⟩ := E
  intro hE ht hst hls H locs la hP hS hla
  have ha : inR x := ok_hd hst
  exact lv_tableIn hE.1 hE.2.1 hd (by rw [io_toInt ha]; omega) (by rw [io_toInt ha]; omega) (by rw [io_toInt ha]; exact ho) htg (k hE ht (ok_tl hst) hls H locs la hP hS hla)
theorem G_tableOut {dflt lo hi x : Int} {offs : Array Int} {len tgt : Nat} (hd : decode cc pc = .ok (.tableswitch dflt lo hi offs, len)) (h1 : x < lo ∨ hi < x) (htg : (pc : Int) + dflt = (tgt : Int)) (k : G E cc own ret d tgt ls st t Q) : G E cc own ret d pc ls (mI x :: st) t Q := by
  obtain ⟨⟨p, l, e, R, s⟩, ⟨m, args, below, meth, c⟩, ⟨D, cy, ad⟩⟩ := E
  intro hE ht hst hls H locs la hP hS hla
  have ha : inR x := ok_hd hst
  exact lv_tableOut hE.1 hE.2.1 hd (by rw [io_toInt ha]; exact h1) htg (k hE ht (ok_tl hst) hls H locs la hP hS hla)
theorem G_lookup {dflt x off : Int} {ps : Array (Int × Int)} {len tgt : Nat} (hd : decode cc pc = .ok (.lookupswitch dflt ps, len)) (hp : (ps.toList.zip (ps.toList.drop 1)).all (fun (a, next) => a.1 < next.1) = true) (ho : Op.lookupswitch.offset ps.toList dflt x = off) (htg : (pc : Int) + off = (tgt : Int)) (k : G E cc own ret d tgt ls st t Q) : G E cc own ret d pc ls (mI x :: st) t Q := by
  obtain ⟨⟨p, l, e, R, s⟩, ⟨m, args, below, meth, c⟩, ⟨D, cy, ad⟩⟩ := E
  intro hE ht hst hls H locs la hP hS hla
  have ha : inR x := ok_hd hst
  exact lv_lookup hE.1 hE.2.1 hd hp (by rw [io_toInt ha]; exact ho) htg (k hE ht (ok_tl hst) hls H locs la hP hS hla)
def MthL (own : String) (idx : Nat) (y : MethodName) (cc : ByteArray) (nL : Nat) : Prop := Cond.methodLink own idx y ∈ gw ∧ Cond.static y ∈ gw ∧ Cond.initialized "java/lang/Math" ∈ gw ∧ Cond.code y cc nL (some .int) ∈ gw
theorem rest_le {ad : Nat → Nat} {rest : List MV} (h : (rest.map catS).sum ≤ 8) {d : Nat} {R : Room} (hd : 1 ≤ d) (hR : 64 * d ≤ R.locals) : ((rest.map (mval ad)).map fun v => v.category).sum + 13 ≤ R.locals := by
  rw [cat_sum]; omega
theorem G_min {a b : Int} {idx : Nat} (hd : decode cc pc = .ok (.invokestatic idx, 3)) (hl : MthL own idx Lib.Math.min.name Lib.Math.min.code 2) (hdep : 1 ≤ d) (hcat : (st.map catS).sum ≤ 8) (k : G E cc own ret d (pc + 3) ls (mI (if b < a then b else a) :: st) t Q) : G E cc own ret d pc ls (mI b :: mI a :: st) t Q := by
  obtain ⟨⟨p, l, e, R, s⟩, ⟨m, args, below, meth, c⟩, ⟨D, cy, ad⟩⟩ := E
  intro hE ht hst hls H locs la hP hS hla
  obtain ⟨hx, hb, hret, hlk, hown, hts, hap, hK, hfr, hlo⟩ := id hE
  have ha : inR a := ok_hd (ok_tl hst)
  have hb2 : inR b := ok_hd hst
  have hr : okV (mI (if b < a then b else a)) := by
    show inR _
    split
    · exact hb2
    · exact ha
  have h := k hE ht (ok_cons hr (ok_tl (ok_tl hst))) hls H locs la hP hS hla
  refine va_mmin hx hb hla.size.symm hown (hts _ hl.1) (hts _ hl.2.1) (hts _ hl.2.2.1) (hts _ hl.2.2.2) (Nat.le_trans hdep hfr) (rest_le hcat hdep hlo) (Nat.zero_le _) (Nat.zero_le _) hd ?_
  rw [show (if Int32.ofInt b < Int32.ofInt a then Int32.ofInt b else Int32.ofInt a) = Int32.ofInt (if b < a then b else a) by simp only [io_lt hb2 ha]; split <;> rfl]
  exact h
theorem G_max {a b : Int} {idx : Nat} (hd : decode cc pc = .ok (.invokestatic idx, 3)) (hl : MthL own idx Lib.Math.max.name Lib.Math.max.code 2) (hdep : 1 ≤ d) (hcat : (st.map catS).sum ≤ 8) (k : G E cc own ret d (pc + 3) ls (mI (if a < b then b else a) :: st) t Q) : G E cc own ret d pc ls (mI b :: mI a :: st) t Q := by
  obtain ⟨⟨p, l, e, R, s⟩, ⟨m, args, below, meth, c⟩, ⟨D, cy, ad⟩⟩ := E
  intro hE ht hst hls H locs la hP hS hla
  obtain ⟨hx, hb, hret, hlk, hown, hts, hap, hK, hfr, hlo⟩ := id hE
  have ha : inR a := ok_hd (ok_tl hst)
  have hb2 : inR b := ok_hd hst
  have hr : okV (mI (if a < b then b else a)) := by
    show inR _
    split
    · exact hb2
    · exact ha
  have h := k hE ht (ok_cons hr (ok_tl (ok_tl hst))) hls H locs la hP hS hla
  refine va_mmax hx hb hla.size.symm hown (hts _ hl.1) (hts _ hl.2.1) (hts _ hl.2.2.1) (hts _ hl.2.2.2) (Nat.le_trans hdep hfr) (rest_le hcat hdep hlo) (Nat.zero_le _) (Nat.zero_le _) hd ?_
  rw [show (if Int32.ofInt a < Int32.ofInt b then Int32.ofInt b else Int32.ofInt a) = Int32.ofInt (if a < b then b else a) by simp only [io_lt ha hb2]; split <;> rfl]
  exact h
theorem G_abs {a : Int} {idx : Nat} (hd : decode cc pc = .ok (.invokestatic idx, 3)) (hl : MthL own idx Lib.Math.abs.name Lib.Math.abs.code 1) (hdep : 1 ≤ d) (hcat : (st.map catS).sum ≤ 8) (hr : -2147483647 ≤ a) (k : G E cc own ret d (pc + 3) ls (mI (if 0 ≤ a then a else -a) :: st) t Q) : G E cc own ret d pc ls (mI a :: st) t Q := by
  obtain ⟨⟨p, l, e, R, s⟩, ⟨m, args, below, meth, c⟩, ⟨D, cy, ad⟩⟩ := E
  intro hE ht hst hls H locs la hP hS hla
  obtain ⟨hx, hb, hret, hlk, hown, hts, hap, hK, hfr, hlo⟩ := id hE
  have ha : inR a := ok_hd hst
  have hr : okV (mI (if 0 ≤ a then a else -a)) := by
    show inR _
    unfold inR at *
    split <;> omega
  have h := k hE ht (ok_cons hr (ok_tl hst)) hls H locs la hP hS hla
  refine va_mabs hx hb hla.size.symm hown (hts _ hl.1) (hts _ hl.2.1) (hts _ hl.2.2.1) (hts _ hl.2.2.2) (Nat.le_trans hdep hfr) (rest_le hcat hdep hlo) (Nat.zero_le _) (Nat.zero_le _) hd ?_
  rw [show (if 0 ≤ Int32.ofInt a then Int32.ofInt a else 0 - Int32.ofInt a) = Int32.ofInt (if 0 ≤ a then a else -a) by
    simp only [show ((0 : Int32) ≤ Int32.ofInt a) ↔ 0 ≤ a from io_le inR_0 ha]
    split
    · rfl
    · rw [Int32.ofInt_neg, Int32.zero_sub]]
  exact h
/-- a call whose answer and store are told outright -/
theorem G_callV' {y : MethodName} {cc' : ByteArray} {nL' : Nat} {ret' : Option FieldType} {d' idx q : Nat} {as rest : List MV} {r : Option MV} {t' : Sto} (hct : CT y cc' nL' ret' d' (mP q :: as) t (fun r1 t1 => r1 = r ∧ t1 = t')) (hd : decode cc pc = .ok (.invokevirtual idx, 3)) (hl : MLV own idx y (ocS q) cc' nL' ret' as.length) (hq : (decide (q < NP)) = true) (ha : arS q = none) (hst : st = as.reverse ++ mP q :: rest) (hdep : d' + 1 ≤ d) (hcat : (rest.map catS).sum ≤ 8)
    (k : G E cc own ret d (pc + 3) ls (r.toList ++ rest) t' Q) : G E cc own ret d pc ls st t Q :=
  G_callV hct hd hl hq ha hst hdep hcat (fun r1 t1 h => by rw [h.1, h.2]; exact k)
theorem G_callS' {y : MethodName} {cc' : ByteArray} {nL' : Nat} {ret' : Option FieldType} {d' idx : Nat} {as rest : List MV} {r : Option MV} {t' : Sto} (hct : CT y cc' nL' ret' d' as t (fun r1 t1 => r1 = r ∧ t1 = t')) (hd : decode cc pc = .ok (.invokestatic idx, 3)) (hl : MLS own idx y cc' nL' ret' as.length) (hst : st = as.reverse ++ rest) (hdep : d' + 1 ≤ d) (hcat : (rest.map catS).sum ≤ 8)
    (k : G E cc own ret d (pc + 3) ls (r.toList ++ rest) t' Q) : G E cc own ret d pc ls st t Q :=
  G_callS hct hd hl hst hdep hcat (fun r1 t1 h => by rw [h.1, h.2]; exact k)
end RULES4
section RULES5
variable {E : Ev} {cc : ByteArray} {own : String} {ret : Option FieldType} {d pc : Nat} {ls : List (Option MV)} {st : List MV} {t : Sto} {Q : Option MV → Sto → Prop}
theorem qeq {x y : Int} {t : Sto} (h : x = y) : some (mI x) = some (mI y) ∧ t = t := ⟨by rw [h], rfl⟩
theorem qeq' {x y : Int} {t t' : Sto} (h : x = y) (ht : t = t') : some (mI x) = some (mI y) ∧ t = t' := ⟨by rw [h], ht⟩
theorem G_join {P : Int → Prop} (J : Nat) (k : ∀ v, P v → G E cc own ret d J ls (mI v :: st) t Q) (h : (∀ v, P v → G E cc own ret d J ls (mI v :: st) t Q) → G E cc own ret d pc ls st t Q) : G E cc own ret d pc ls st t Q := h k
/-- a contract whose answer is an int -/
theorem G_cV1 {y : MethodName} {cc' : ByteArray} {nL' : Nat} {ret' : Option FieldType} {d' idx q : Nat} {as rest : List MV} {x : Int} {t' : Sto} (hct : CT y cc' nL' ret' d' (mP q :: as) t (fun r1 t1 => r1 = some (mI x) ∧ t1 = t')) (hd : decode cc pc = .ok (.invokevirtual idx, 3)) (hl : MLV own idx y (ocS q) cc' nL' ret' as.length) (hq : (decide (q < NP)) = true) (ha : arS q = none) (hst : st = as.reverse ++ mP q :: rest) (hdep : d' + 1 ≤ d) (hcat : (rest.map catS).sum ≤ 8)
    (k : G E cc own ret d (pc + 3) ls (mI x :: rest) t' Q) : G E cc own ret d pc ls st t Q :=
  G_callV hct hd hl hq ha hst hdep hcat (fun r1 t1 h => by rw [h.1, h.2]; exact k)
theorem G_cV0 {y : MethodName} {cc' : ByteArray} {nL' : Nat} {ret' : Option FieldType} {d' idx q : Nat} {as rest : List MV} {t' : Sto} (hct : CT y cc' nL' ret' d' (mP q :: as) t (fun r1 t1 => r1 = none ∧ t1 = t')) (hd : decode cc pc = .ok (.invokevirtual idx, 3)) (hl : MLV own idx y (ocS q) cc' nL' ret' as.length) (hq : (decide (q < NP)) = true) (ha : arS q = none) (hst : st = as.reverse ++ mP q :: rest) (hdep : d' + 1 ≤ d) (hcat : (rest.map catS).sum ≤ 8)
    (k : G E cc own ret d (pc + 3) ls rest t' Q) : G E cc own ret d pc ls st t Q :=
  G_callV hct hd hl hq ha hst hdep hcat (fun r1 t1 h => by rw [h.1, h.2]; exact k)
theorem G_cS1 {y : MethodName} {cc' : ByteArray} {nL' : Nat} {ret' : Option FieldType} {d' idx : Nat} {as rest : List MV} {x : Int} {t' : Sto} (hct : CT y cc' nL' ret' d' as t (fun r1 t1 => r1 = some (mI x) ∧ t1 = t')) (hd : decode cc pc = .ok (.invokestatic idx, 3)) (hl : MLS own idx y cc' nL' ret' as.length) (hst : st = as.reverse ++ rest) (hdep : d' + 1 ≤ d) (hcat : (rest.map catS).sum ≤ 8)
    (k : G E cc own ret d (pc + 3) ls (mI x :: rest) t' Q) : G E cc own ret d pc ls st t Q :=
  G_callS hct hd hl hst hdep hcat (fun r1 t1 h => by rw [h.1, h.2]; exact k)
/-- a contract whose answer is an int, told by a claim on answer and store -/
theorem G_cVg1 {y : MethodName} {cc' : ByteArray} {nL' : Nat} {ret' : Option FieldType} {d' idx q : Nat} {as rest : List MV} {Z : Int → Sto → Prop} (hct : CT y cc' nL' ret' d' (mP q :: as) t (fun r1 t1 => ∃ x, r1 = some (mI x) ∧ Z x t1)) (hd : decode cc pc = .ok (.invokevirtual idx, 3)) (hl : MLV own idx y (ocS q) cc' nL' ret' as.length) (hq : (decide (q < NP)) = true) (ha : arS q = none) (hst : st = as.reverse ++ mP q :: rest) (hdep : d' + 1 ≤ d) (hcat : (rest.map catS).sum ≤ 8)
    (k : ∀ x t', Z x t' → G E cc own ret d (pc + 3) ls (mI x :: rest) t' Q) : G E cc own ret d pc ls st t Q :=
  G_callV hct hd hl hq ha hst hdep hcat (fun r1 t1 h => by obtain ⟨x, h1, h2⟩ := h; rw [h1]; exact k x t1 h2)
theorem G_cVg0 {y : MethodName} {cc' : ByteArray} {nL' : Nat} {ret' : Option FieldType} {d' idx q : Nat} {as rest : List MV} {Z : Sto → Prop} (hct : CT y cc' nL' ret' d' (mP q :: as) t (fun r1 t1 => r1 = none ∧ Z t1)) (hd : decode cc pc = .ok (.invokevirtual idx, 3)) (hl : MLV own idx y (ocS q) cc' nL' ret' as.length) (hq : (decide (q < NP)) = true) (ha : arS q = none) (hst : st = as.reverse ++ mP q :: rest) (hdep : d' + 1 ≤ d) (hcat : (rest.map catS).sum ≤ 8)
    (k : ∀ t', Z t' → G E cc own ret d (pc + 3) ls rest t' Q) : G E cc own ret d pc ls st t Q :=
  G_callV hct hd hl hq ha hst hdep hcat (fun r1 t1 h => by rw [h.1]; exact k t1 h.2)
end RULES5
end
section
set_option maxRecDepth 100000 in
theorem wg_X0 : ∀ w ∈ u_ws RX0 TX0 5, w ∈ gw := by decide +kernel
set_option maxRecDepth 100000 in
theorem wg_X1 : ∀ w ∈ u_ws RX1 TX1 1, w ∈ gw := by decide +kernel
set_option maxRecDepth 100000 in
theorem wg_X2 : ∀ w ∈ u_ws RX2 TX2 5, w ∈ gw := by decide +kernel
set_option maxRecDepth 100000 in
theorem wg_X3 : ∀ w ∈ u_ws RX3 TX3 15, w ∈ gw := by decide +kernel
set_option maxRecDepth 100000 in
theorem wg_X4 : ∀ w ∈ u_ws RX4 TX4 4, w ∈ gw := by decide +kernel
set_option maxRecDepth 100000 in
theorem wg_X5 : ∀ w ∈ u_ws RX5 TX5 9, w ∈ gw := by decide +kernel
set_option maxRecDepth 100000 in
theorem wg_X6 : ∀ w ∈ u_ws RX6 TX6 2, w ∈ gw := by decide +kernel
set_option maxRecDepth 100000 in
theorem wg_X7 : ∀ w ∈ u_ws RX7 TX7 2, w ∈ gw := by decide +kernel
set_option maxRecDepth 100000 in
theorem wg_X8 : ∀ w ∈ u_ws RX8 TX8 6, w ∈ gw := by decide +kernel
set_option maxRecDepth 100000 in
theorem wg_X9 : ∀ w ∈ u_ws RX9 TX9 35, w ∈ gw := by decide +kernel
theorem fk_X5_9 : FLk RX5 9 5 0 := ⟨RX5, TX5, 9, tyX5, rfl, by decide, wg_X5, tyX5_ok, nmX5, rfl, Or.inl (gw_mem 86 (by decide +kernel) (by decide +kernel))⟩
theorem fk_X4_113 : FLk RX4 113 5 0 := ⟨RX5, TX5, 9, tyX5, rfl, by decide, wg_X5, tyX5_ok, nmX5, rfl, Or.inr ⟨"MapDrawer", nw_mem 87 (by decide +kernel) (by decide +kernel)⟩⟩
theorem fk_X5_15 : FLk RX5 15 5 1 := ⟨RX5, TX5, 9, tyX5, rfl, by decide, wg_X5, tyX5_ok, nmX5, rfl, Or.inl (gw_mem 88 (by decide +kernel) (by decide +kernel))⟩
theorem fk_X8_205 : FLk RX8 205 5 1 := ⟨RX5, TX5, 9, tyX5, rfl, by decide, wg_X5, tyX5_ok, nmX5, rfl, Or.inr ⟨"MapDrawer", nw_mem 89 (by decide +kernel) (by decide +kernel)⟩⟩
theorem fk_X5_18 : FLk RX5 18 5 2 := ⟨RX5, TX5, 9, tyX5, rfl, by decide, wg_X5, tyX5_ok, nmX5, rfl, Or.inl (gw_mem 90 (by decide +kernel) (by decide +kernel))⟩
theorem fk_X8_110 : FLk RX8 110 5 2 := ⟨RX5, TX5, 9, tyX5, rfl, by decide, wg_X5, tyX5_ok, nmX5, rfl, Or.inr ⟨"MapDrawer", nw_mem 91 (by decide +kernel) (by decide +kernel)⟩⟩
theorem fk_X1_15 : FLk RX1 15 5 3 := ⟨RX5, TX5, 9, tyX5, rfl, by decide, wg_X5, tyX5_ok, nmX5, rfl, Or.inr ⟨"MapDrawer", nw_mem 92 (by decide +kernel) (by decide +kernel)⟩⟩
theorem fk_X5_34 : FLk RX5 34 5 3 := ⟨RX5, TX5, 9, tyX5, rfl, by decide, wg_X5, tyX5_ok, nmX5, rfl, Or.inl (gw_mem 93 (by decide +kernel) (by decide +kernel))⟩
theorem fk_X6_18 : FLk RX6 18 5 3 := ⟨RX5, TX5, 9, tyX5, rfl, by decide, wg_X5, tyX5_ok, nmX5, rfl, Or.inr ⟨"MapDrawer", nw_mem 94 (by decide +kernel) (by decide +kernel)⟩⟩
theorem fk_X2_29 : FLk RX2 29 5 3 := ⟨RX5, TX5, 9, tyX5, rfl, by decide, wg_X5, tyX5_ok, nmX5, rfl, Or.inr ⟨"MapDrawer", nw_mem 95 (by decide +kernel) (by decide +kernel)⟩⟩
theorem fk_X4_49 : FLk RX4 49 5 3 := ⟨RX5, TX5, 9, tyX5, rfl, by decide, wg_X5, tyX5_ok, nmX5, rfl, Or.inr ⟨"MapDrawer", nw_mem 96 (by decide +kernel) (by decide +kernel)⟩⟩
theorem fk_X3_77 : FLk RX3 77 5 3 := ⟨RX5, TX5, 9, tyX5, rfl, by decide, wg_X5, tyX5_ok, nmX5, rfl, Or.inr ⟨"MapDrawer", nw_mem 97 (by decide +kernel) (by decide +kernel)⟩⟩
theorem fk_X7_36 : FLk RX7 36 5 3 := ⟨RX5, TX5, 9, tyX5, rfl, by decide, wg_X5, tyX5_ok, nmX5, rfl, Or.inr ⟨"MapDrawer", nw_mem 98 (by decide +kernel) (by decide +kernel)⟩⟩
theorem fk_X8_189 : FLk RX8 189 5 3 := ⟨RX5, TX5, 9, tyX5, rfl, by decide, wg_X5, tyX5_ok, nmX5, rfl, Or.inr ⟨"MapDrawer", nw_mem 99 (by decide +kernel) (by decide +kernel)⟩⟩
theorem fk_X5_21 : FLk RX5 21 5 4 := ⟨RX5, TX5, 9, tyX5, rfl, by decide, wg_X5, tyX5_ok, nmX5, rfl, Or.inl (gw_mem 100 (by decide +kernel) (by decide +kernel))⟩
theorem fk_X6_27 : FLk RX6 27 5 4 := ⟨RX5, TX5, 9, tyX5, rfl, by decide, wg_X5, tyX5_ok, nmX5, rfl, Or.inr ⟨"MapDrawer", nw_mem 101 (by decide +kernel) (by decide +kernel)⟩⟩
theorem fk_X1_32 : FLk RX1 32 5 4 := ⟨RX5, TX5, 9, tyX5, rfl, by decide, wg_X5, tyX5_ok, nmX5, rfl, Or.inr ⟨"MapDrawer", nw_mem 102 (by decide +kernel) (by decide +kernel)⟩⟩
theorem fk_X7_47 : FLk RX7 47 5 4 := ⟨RX5, TX5, 9, tyX5, rfl, by decide, wg_X5, tyX5_ok, nmX5, rfl, Or.inr ⟨"MapDrawer", nw_mem 103 (by decide +kernel) (by decide +kernel)⟩⟩
theorem fk_X4_82 : FLk RX4 82 5 4 := ⟨RX5, TX5, 9, tyX5, rfl, by decide, wg_X5, tyX5_ok, nmX5, rfl, Or.inr ⟨"MapDrawer", nw_mem 104 (by decide +kernel) (by decide +kernel)⟩⟩
theorem fk_X2_35 : FLk RX2 35 5 4 := ⟨RX5, TX5, 9, tyX5, rfl, by decide, wg_X5, tyX5_ok, nmX5, rfl, Or.inr ⟨"MapDrawer", nw_mem 105 (by decide +kernel) (by decide +kernel)⟩⟩
theorem fk_X8_117 : FLk RX8 117 5 4 := ⟨RX5, TX5, 9, tyX5, rfl, by decide, wg_X5, tyX5_ok, nmX5, rfl, Or.inr ⟨"MapDrawer", nw_mem 106 (by decide +kernel) (by decide +kernel)⟩⟩
theorem fk_X5_24 : FLk RX5 24 5 5 := ⟨RX5, TX5, 9, tyX5, rfl, by decide, wg_X5, tyX5_ok, nmX5, rfl, Or.inl (gw_mem 107 (by decide +kernel) (by decide +kernel))⟩
theorem fk_X0_39 : FLk RX0 39 5 5 := ⟨RX5, TX5, 9, tyX5, rfl, by decide, wg_X5, tyX5_ok, nmX5, rfl, Or.inr ⟨"MapDrawer", nw_mem 108 (by decide +kernel) (by decide +kernel)⟩⟩
theorem fk_X4_72 : FLk RX4 72 5 5 := ⟨RX5, TX5, 9, tyX5, rfl, by decide, wg_X5, tyX5_ok, nmX5, rfl, Or.inr ⟨"MapDrawer", nw_mem 109 (by decide +kernel) (by decide +kernel)⟩⟩
theorem fk_X2_41 : FLk RX2 41 5 5 := ⟨RX5, TX5, 9, tyX5, rfl, by decide, wg_X5, tyX5_ok, nmX5, rfl, Or.inr ⟨"MapDrawer", nw_mem 110 (by decide +kernel) (by decide +kernel)⟩⟩
theorem fk_X8_120 : FLk RX8 120 5 5 := ⟨RX5, TX5, 9, tyX5, rfl, by decide, wg_X5, tyX5_ok, nmX5, rfl, Or.inr ⟨"MapDrawer", nw_mem 111 (by decide +kernel) (by decide +kernel)⟩⟩
theorem fk_X5_27 : FLk RX5 27 5 6 := ⟨RX5, TX5, 9, tyX5, rfl, by decide, wg_X5, tyX5_ok, nmX5, rfl, Or.inl (gw_mem 112 (by decide +kernel) (by decide +kernel))⟩
theorem fk_X6_30 : FLk RX6 30 5 6 := ⟨RX5, TX5, 9, tyX5, rfl, by decide, wg_X5, tyX5_ok, nmX5, rfl, Or.inr ⟨"MapDrawer", nw_mem 113 (by decide +kernel) (by decide +kernel)⟩⟩
theorem fk_X1_35 : FLk RX1 35 5 6 := ⟨RX5, TX5, 9, tyX5, rfl, by decide, wg_X5, tyX5_ok, nmX5, rfl, Or.inr ⟨"MapDrawer", nw_mem 114 (by decide +kernel) (by decide +kernel)⟩⟩
theorem fk_X0_54 : FLk RX0 54 5 6 := ⟨RX5, TX5, 9, tyX5, rfl, by decide, wg_X5, tyX5_ok, nmX5, rfl, Or.inr ⟨"MapDrawer", nw_mem 115 (by decide +kernel) (by decide +kernel)⟩⟩
theorem fk_X7_50 : FLk RX7 50 5 6 := ⟨RX5, TX5, 9, tyX5, rfl, by decide, wg_X5, tyX5_ok, nmX5, rfl, Or.inr ⟨"MapDrawer", nw_mem 116 (by decide +kernel) (by decide +kernel)⟩⟩
theorem fk_X2_38 : FLk RX2 38 5 6 := ⟨RX5, TX5, 9, tyX5, rfl, by decide, wg_X5, tyX5_ok, nmX5, rfl, Or.inr ⟨"MapDrawer", nw_mem 117 (by decide +kernel) (by decide +kernel)⟩⟩
theorem fk_X4_100 : FLk RX4 100 5 6 := ⟨RX5, TX5, 9, tyX5, rfl, by decide, wg_X5, tyX5_ok, nmX5, rfl, Or.inr ⟨"MapDrawer", nw_mem 118 (by decide +kernel) (by decide +kernel)⟩⟩
theorem fk_X8_123 : FLk RX8 123 5 6 := ⟨RX5, TX5, 9, tyX5, rfl, by decide, wg_X5, tyX5_ok, nmX5, rfl, Or.inr ⟨"MapDrawer", nw_mem 119 (by decide +kernel) (by decide +kernel)⟩⟩
theorem fk_X5_30 : FLk RX5 30 5 7 := ⟨RX5, TX5, 9, tyX5, rfl, by decide, wg_X5, tyX5_ok, nmX5, rfl, Or.inl (gw_mem 120 (by decide +kernel) (by decide +kernel))⟩
theorem fk_X7_57 : FLk RX7 57 5 7 := ⟨RX5, TX5, 9, tyX5, rfl, by decide, wg_X5, tyX5_ok, nmX5, rfl, Or.inr ⟨"MapDrawer", nw_mem 121 (by decide +kernel) (by decide +kernel)⟩⟩
theorem fk_X8_126 : FLk RX8 126 5 7 := ⟨RX5, TX5, 9, tyX5, rfl, by decide, wg_X5, tyX5_ok, nmX5, rfl, Or.inr ⟨"MapDrawer", nw_mem 122 (by decide +kernel) (by decide +kernel)⟩⟩
theorem fk_X6_24 : FLk RX6 24 5 8 := ⟨RX5, TX5, 9, tyX5, rfl, by decide, wg_X5, tyX5_ok, nmX5, rfl, Or.inr ⟨"MapDrawer", nw_mem 123 (by decide +kernel) (by decide +kernel)⟩⟩
theorem fk_X5_38 : FLk RX5 38 5 8 := ⟨RX5, TX5, 9, tyX5, rfl, by decide, wg_X5, tyX5_ok, nmX5, rfl, Or.inl (gw_mem 124 (by decide +kernel) (by decide +kernel))⟩
theorem fk_X1_29 : FLk RX1 29 5 8 := ⟨RX5, TX5, 9, tyX5, rfl, by decide, wg_X5, tyX5_ok, nmX5, rfl, Or.inr ⟨"MapDrawer", nw_mem 125 (by decide +kernel) (by decide +kernel)⟩⟩
theorem fk_X8_96 : FLk RX8 96 5 8 := ⟨RX5, TX5, 9, tyX5, rfl, by decide, wg_X5, tyX5_ok, nmX5, rfl, Or.inr ⟨"MapDrawer", nw_mem 126 (by decide +kernel) (by decide +kernel)⟩⟩
theorem fk_X7_44 : FLk RX7 44 5 8 := ⟨RX5, TX5, 9, tyX5, rfl, by decide, wg_X5, tyX5_ok, nmX5, rfl, Or.inr ⟨"MapDrawer", nw_mem 127 (by decide +kernel) (by decide +kernel)⟩⟩
theorem fk_X4_69 : FLk RX4 69 5 8 := ⟨RX5, TX5, 9, tyX5, rfl, by decide, wg_X5, tyX5_ok, nmX5, rfl, Or.inr ⟨"MapDrawer", nw_mem 128 (by decide +kernel) (by decide +kernel)⟩⟩
theorem fk_X2_48 : FLk RX2 48 5 8 := ⟨RX5, TX5, 9, tyX5, rfl, by decide, wg_X5, tyX5_ok, nmX5, rfl, Or.inr ⟨"MapDrawer", nw_mem 129 (by decide +kernel) (by decide +kernel)⟩⟩
theorem fk_X1_9 : FLk RX1 9 1 0 := ⟨RX1, TX1, 1, tyX1, rfl, by decide, wg_X1, tyX1_ok, nmX1, rfl, Or.inl (gw_mem 157 (by decide +kernel) (by decide +kernel))⟩
theorem fk_X3_89 : FLk RX3 89 1 0 := ⟨RX1, TX1, 1, tyX1, rfl, by decide, wg_X1, tyX1_ok, nmX1, rfl, Or.inr ⟨"MapDrawer", nw_mem 158 (by decide +kernel) (by decide +kernel)⟩⟩
theorem fk_X8_137 : FLk RX8 137 1 0 := ⟨RX1, TX1, 1, tyX1, rfl, by decide, wg_X1, tyX1_ok, nmX1, rfl, Or.inr ⟨"MapDrawer", nw_mem 159 (by decide +kernel) (by decide +kernel)⟩⟩
theorem fk_X2_25 : FLk RX2 25 2 0 := ⟨RX2, TX2, 5, tyX2, rfl, by decide, wg_X2, tyX2_ok, nmX2, rfl, Or.inl (gw_mem 169 (by decide +kernel) (by decide +kernel))⟩
theorem fk_X2_9 : FLk RX2 9 2 1 := ⟨RX2, TX2, 5, tyX2, rfl, by decide, wg_X2, tyX2_ok, nmX2, rfl, Or.inl (gw_mem 170 (by decide +kernel) (by decide +kernel))⟩
theorem fk_X4_19 : FLk RX4 19 2 1 := ⟨RX2, TX2, 5, tyX2, rfl, by decide, wg_X2, tyX2_ok, nmX2, rfl, Or.inr ⟨"MapDrawer", nw_mem 171 (by decide +kernel) (by decide +kernel)⟩⟩
theorem fk_X3_114 : FLk RX3 114 2 1 := ⟨RX2, TX2, 5, tyX2, rfl, by decide, wg_X2, tyX2_ok, nmX2, rfl, Or.inr ⟨"MapDrawer", nw_mem 172 (by decide +kernel) (by decide +kernel)⟩⟩
theorem fk_X0_57 : FLk RX0 57 2 1 := ⟨RX2, TX2, 5, tyX2, rfl, by decide, wg_X2, tyX2_ok, nmX2, rfl, Or.inr ⟨"MapDrawer", nw_mem 173 (by decide +kernel) (by decide +kernel)⟩⟩
theorem fk_X8_159 : FLk RX8 159 2 1 := ⟨RX2, TX2, 5, tyX2, rfl, by decide, wg_X2, tyX2_ok, nmX2, rfl, Or.inr ⟨"MapDrawer", nw_mem 174 (by decide +kernel) (by decide +kernel)⟩⟩
theorem fk_X2_15 : FLk RX2 15 2 2 := ⟨RX2, TX2, 5, tyX2, rfl, by decide, wg_X2, tyX2_ok, nmX2, rfl, Or.inl (gw_mem 175 (by decide +kernel) (by decide +kernel))⟩
theorem fk_X4_33 : FLk RX4 33 2 2 := ⟨RX2, TX2, 5, tyX2, rfl, by decide, wg_X2, tyX2_ok, nmX2, rfl, Or.inr ⟨"MapDrawer", nw_mem 176 (by decide +kernel) (by decide +kernel)⟩⟩
theorem fk_X0_62 : FLk RX0 62 2 2 := ⟨RX2, TX2, 5, tyX2, rfl, by decide, wg_X2, tyX2_ok, nmX2, rfl, Or.inr ⟨"MapDrawer", nw_mem 177 (by decide +kernel) (by decide +kernel)⟩⟩
theorem fk_X3_179 : FLk RX3 179 2 2 := ⟨RX2, TX2, 5, tyX2, rfl, by decide, wg_X2, tyX2_ok, nmX2, rfl, Or.inr ⟨"MapDrawer", nw_mem 178 (by decide +kernel) (by decide +kernel)⟩⟩
theorem fk_X8_162 : FLk RX8 162 2 2 := ⟨RX2, TX2, 5, tyX2, rfl, by decide, wg_X2, tyX2_ok, nmX2, rfl, Or.inr ⟨"MapDrawer", nw_mem 179 (by decide +kernel) (by decide +kernel)⟩⟩
theorem fk_X2_18 : FLk RX2 18 2 3 := ⟨RX2, TX2, 5, tyX2, rfl, by decide, wg_X2, tyX2_ok, nmX2, rfl, Or.inl (gw_mem 180 (by decide +kernel) (by decide +kernel))⟩
theorem fk_X0_67 : FLk RX0 67 2 3 := ⟨RX2, TX2, 5, tyX2, rfl, by decide, wg_X2, tyX2_ok, nmX2, rfl, Or.inr ⟨"MapDrawer", nw_mem 181 (by decide +kernel) (by decide +kernel)⟩⟩
theorem fk_X4_79 : FLk RX4 79 2 3 := ⟨RX2, TX2, 5, tyX2, rfl, by decide, wg_X2, tyX2_ok, nmX2, rfl, Or.inr ⟨"MapDrawer", nw_mem 182 (by decide +kernel) (by decide +kernel)⟩⟩
theorem fk_X3_181 : FLk RX3 181 2 3 := ⟨RX2, TX2, 5, tyX2, rfl, by decide, wg_X2, tyX2_ok, nmX2, rfl, Or.inr ⟨"MapDrawer", nw_mem 183 (by decide +kernel) (by decide +kernel)⟩⟩
theorem fk_X8_165 : FLk RX8 165 2 3 := ⟨RX2, TX2, 5, tyX2, rfl, by decide, wg_X2, tyX2_ok, nmX2, rfl, Or.inr ⟨"MapDrawer", nw_mem 184 (by decide +kernel) (by decide +kernel)⟩⟩
theorem fk_X2_21 : FLk RX2 21 2 4 := ⟨RX2, TX2, 5, tyX2, rfl, by decide, wg_X2, tyX2_ok, nmX2, rfl, Or.inl (gw_mem 185 (by decide +kernel) (by decide +kernel))⟩
theorem fk_X3_82 : FLk RX3 82 2 4 := ⟨RX2, TX2, 5, tyX2, rfl, by decide, wg_X2, tyX2_ok, nmX2, rfl, Or.inr ⟨"MapDrawer", nw_mem 186 (by decide +kernel) (by decide +kernel)⟩⟩
theorem fk_X0_48 : FLk RX0 48 2 4 := ⟨RX2, TX2, 5, tyX2, rfl, by decide, wg_X2, tyX2_ok, nmX2, rfl, Or.inr ⟨"MapDrawer", nw_mem 187 (by decide +kernel) (by decide +kernel)⟩⟩
theorem fk_X4_109 : FLk RX4 109 2 4 := ⟨RX2, TX2, 5, tyX2, rfl, by decide, wg_X2, tyX2_ok, nmX2, rfl, Or.inr ⟨"MapDrawer", nw_mem 188 (by decide +kernel) (by decide +kernel)⟩⟩
theorem fk_X8_156 : FLk RX8 156 2 4 := ⟨RX2, TX2, 5, tyX2, rfl, by decide, wg_X2, tyX2_ok, nmX2, rfl, Or.inr ⟨"MapDrawer", nw_mem 189 (by decide +kernel) (by decide +kernel)⟩⟩
theorem fk_X6_9 : FLk RX6 9 6 0 := ⟨RX6, TX6, 2, tyX6, rfl, by decide, wg_X6, tyX6_ok, nmX6, rfl, Or.inl (gw_mem 213 (by decide +kernel) (by decide +kernel))⟩
theorem fk_X6_15 : FLk RX6 15 6 1 := ⟨RX6, TX6, 2, tyX6, rfl, by decide, wg_X6, tyX6_ok, nmX6, rfl, Or.inl (gw_mem 214 (by decide +kernel) (by decide +kernel))⟩
theorem fk_X0_9 : FLk RX0 9 0 0 := ⟨RX0, TX0, 5, tyX0, rfl, by decide, wg_X0, tyX0_ok, nmX0, rfl, Or.inl (gw_mem 228 (by decide +kernel) (by decide +kernel))⟩
theorem fk_X0_15 : FLk RX0 15 0 1 := ⟨RX0, TX0, 5, tyX0, rfl, by decide, wg_X0, tyX0_ok, nmX0, rfl, Or.inl (gw_mem 229 (by decide +kernel) (by decide +kernel))⟩
theorem fk_X0_25 : FLk RX0 25 0 2 := ⟨RX0, TX0, 5, tyX0, rfl, by decide, wg_X0, tyX0_ok, nmX0, rfl, Or.inl (gw_mem 230 (by decide +kernel) (by decide +kernel))⟩
theorem fk_X3_148 : FLk RX3 148 0 2 := ⟨RX0, TX0, 5, tyX0, rfl, by decide, wg_X0, tyX0_ok, nmX0, rfl, Or.inr ⟨"MapDrawer", nw_mem 231 (by decide +kernel) (by decide +kernel)⟩⟩
theorem fk_X0_29 : FLk RX0 29 0 3 := ⟨RX0, TX0, 5, tyX0, rfl, by decide, wg_X0, tyX0_ok, nmX0, rfl, Or.inl (gw_mem 232 (by decide +kernel) (by decide +kernel))⟩
theorem fk_X3_150 : FLk RX3 150 0 3 := ⟨RX0, TX0, 5, tyX0, rfl, by decide, wg_X0, tyX0_ok, nmX0, rfl, Or.inr ⟨"MapDrawer", nw_mem 233 (by decide +kernel) (by decide +kernel)⟩⟩
theorem fk_X0_32 : FLk RX0 32 0 4 := ⟨RX0, TX0, 5, tyX0, rfl, by decide, wg_X0, tyX0_ok, nmX0, rfl, Or.inl (gw_mem 234 (by decide +kernel) (by decide +kernel))⟩
theorem fk_X3_153 : FLk RX3 153 0 4 := ⟨RX0, TX0, 5, tyX0, rfl, by decide, wg_X0, tyX0_ok, nmX0, rfl, Or.inr ⟨"MapDrawer", nw_mem 235 (by decide +kernel) (by decide +kernel)⟩⟩
theorem fk_X3_26 : FLk RX3 26 3 0 := ⟨RX3, TX3, 15, tyX3, rfl, by decide, wg_X3, tyX3_ok, nmX3, rfl, Or.inl (gw_mem 247 (by decide +kernel) (by decide +kernel))⟩
theorem fk_X3_30 : FLk RX3 30 3 1 := ⟨RX3, TX3, 15, tyX3, rfl, by decide, wg_X3, tyX3_ok, nmX3, rfl, Or.inl (gw_mem 248 (by decide +kernel) (by decide +kernel))⟩
theorem fk_X3_34 : FLk RX3 34 3 2 := ⟨RX3, TX3, 15, tyX3, rfl, by decide, wg_X3, tyX3_ok, nmX3, rfl, Or.inl (gw_mem 249 (by decide +kernel) (by decide +kernel))⟩
theorem fk_X3_43 : FLk RX3 43 3 3 := ⟨RX3, TX3, 15, tyX3, rfl, by decide, wg_X3, tyX3_ok, nmX3, rfl, Or.inl (gw_mem 250 (by decide +kernel) (by decide +kernel))⟩
theorem fk_X3_12 : FLk RX3 12 3 4 := ⟨RX3, TX3, 15, tyX3, rfl, by decide, wg_X3, tyX3_ok, nmX3, rfl, Or.inl (gw_mem 251 (by decide +kernel) (by decide +kernel))⟩
theorem fk_X3_51 : FLk RX3 51 3 5 := ⟨RX3, TX3, 15, tyX3, rfl, by decide, wg_X3, tyX3_ok, nmX3, rfl, Or.inl (gw_mem 252 (by decide +kernel) (by decide +kernel))⟩
theorem fk_X3_18 : FLk RX3 18 3 6 := ⟨RX3, TX3, 15, tyX3, rfl, by decide, wg_X3, tyX3_ok, nmX3, rfl, Or.inl (gw_mem 253 (by decide +kernel) (by decide +kernel))⟩
theorem fk_X3_103 : FLk RX3 103 3 7 := ⟨RX3, TX3, 15, tyX3, rfl, by decide, wg_X3, tyX3_ok, nmX3, rfl, Or.inl (gw_mem 254 (by decide +kernel) (by decide +kernel))⟩
theorem fk_X3_22 : FLk RX3 22 3 8 := ⟨RX3, TX3, 15, tyX3, rfl, by decide, wg_X3, tyX3_ok, nmX3, rfl, Or.inl (gw_mem 255 (by decide +kernel) (by decide +kernel))⟩
theorem fk_X3_55 : FLk RX3 55 3 9 := ⟨RX3, TX3, 15, tyX3, rfl, by decide, wg_X3, tyX3_ok, nmX3, rfl, Or.inl (gw_mem 256 (by decide +kernel) (by decide +kernel))⟩
theorem fk_X3_71 : FLk RX3 71 3 10 := ⟨RX3, TX3, 15, tyX3, rfl, by decide, wg_X3, tyX3_ok, nmX3, rfl, Or.inl (gw_mem 257 (by decide +kernel) (by decide +kernel))⟩
theorem fk_X8_153 : FLk RX8 153 3 10 := ⟨RX3, TX3, 15, tyX3, rfl, by decide, wg_X3, tyX3_ok, nmX3, rfl, Or.inr ⟨"MapDrawer", nw_mem 258 (by decide +kernel) (by decide +kernel)⟩⟩
theorem fk_X3_68 : FLk RX3 68 3 11 := ⟨RX3, TX3, 15, tyX3, rfl, by decide, wg_X3, tyX3_ok, nmX3, rfl, Or.inl (gw_mem 259 (by decide +kernel) (by decide +kernel))⟩
theorem fk_X3_96 : FLk RX3 96 3 12 := ⟨RX3, TX3, 15, tyX3, rfl, by decide, wg_X3, tyX3_ok, nmX3, rfl, Or.inl (gw_mem 260 (by decide +kernel) (by decide +kernel))⟩
theorem fk_X3_92 : FLk RX3 92 3 13 := ⟨RX3, TX3, 15, tyX3, rfl, by decide, wg_X3, tyX3_ok, nmX3, rfl, Or.inl (gw_mem 261 (by decide +kernel) (by decide +kernel))⟩
theorem fk_X3_131 : FLk RX3 131 3 14 := ⟨RX3, TX3, 15, tyX3, rfl, by decide, wg_X3, tyX3_ok, nmX3, rfl, Or.inl (gw_mem 262 (by decide +kernel) (by decide +kernel))⟩
theorem fk_X7_15 : FLk RX7 15 7 0 := ⟨RX7, TX7, 2, tyX7, rfl, by decide, wg_X7, tyX7_ok, nmX7, rfl, Or.inl (gw_mem 300 (by decide +kernel) (by decide +kernel))⟩
theorem fk_X7_9 : FLk RX7 9 7 1 := ⟨RX7, TX7, 2, tyX7, rfl, by decide, wg_X7, tyX7_ok, nmX7, rfl, Or.inl (gw_mem 301 (by decide +kernel) (by decide +kernel))⟩
theorem fk_X4_9 : FLk RX4 9 4 0 := ⟨RX4, TX4, 4, tyX4, rfl, by decide, wg_X4, tyX4_ok, nmX4, rfl, Or.inl (gw_mem 313 (by decide +kernel) (by decide +kernel))⟩
theorem fk_X4_15 : FLk RX4 15 4 1 := ⟨RX4, TX4, 4, tyX4, rfl, by decide, wg_X4, tyX4_ok, nmX4, rfl, Or.inl (gw_mem 314 (by decide +kernel) (by decide +kernel))⟩
theorem fk_X4_29 : FLk RX4 29 4 2 := ⟨RX4, TX4, 4, tyX4, rfl, by decide, wg_X4, tyX4_ok, nmX4, rfl, Or.inl (gw_mem 315 (by decide +kernel) (by decide +kernel))⟩
theorem fk_X4_36 : FLk RX4 36 4 3 := ⟨RX4, TX4, 4, tyX4, rfl, by decide, wg_X4, tyX4_ok, nmX4, rfl, Or.inl (gw_mem 316 (by decide +kernel) (by decide +kernel))⟩
theorem fk_X8_10 : FLk RX8 10 8 0 := ⟨RX8, TX8, 6, tyX8, rfl, by decide, wg_X8, tyX8_ok, nmX8, rfl, Or.inl (gw_mem 326 (by decide +kernel) (by decide +kernel))⟩
theorem fk_X8_19 : FLk RX8 19 8 1 := ⟨RX8, TX8, 6, tyX8, rfl, by decide, wg_X8, tyX8_ok, nmX8, rfl, Or.inl (gw_mem 327 (by decide +kernel) (by decide +kernel))⟩
theorem fk_X8_28 : FLk RX8 28 8 2 := ⟨RX8, TX8, 6, tyX8, rfl, by decide, wg_X8, tyX8_ok, nmX8, rfl, Or.inl (gw_mem 328 (by decide +kernel) (by decide +kernel))⟩
theorem fk_X8_37 : FLk RX8 37 8 3 := ⟨RX8, TX8, 6, tyX8, rfl, by decide, wg_X8, tyX8_ok, nmX8, rfl, Or.inl (gw_mem 329 (by decide +kernel) (by decide +kernel))⟩
theorem fk_X8_44 : FLk RX8 44 8 4 := ⟨RX8, TX8, 6, tyX8, rfl, by decide, wg_X8, tyX8_ok, nmX8, rfl, Or.inl (gw_mem 330 (by decide +kernel) (by decide +kernel))⟩
theorem fk_X8_53 : FLk RX8 53 8 5 := ⟨RX8, TX8, 6, tyX8, rfl, by decide, wg_X8, tyX8_ok, nmX8, rfl, Or.inl (gw_mem 331 (by decide +kernel) (by decide +kernel))⟩
theorem sk_X5_59 : STk RX5 59 0 := ⟨_, rfl, Or.inr ⟨"MapDrawer", nw_mem 384 (by decide +kernel) (by decide +kernel)⟩⟩
theorem sk_X8_78 : STk RX8 78 0 := ⟨_, rfl, Or.inl (gw_mem 386 (by decide +kernel) (by decide +kernel))⟩
theorem sk_X0_59 : STk RX0 59 1 := ⟨_, rfl, Or.inr ⟨"MapDrawer", nw_mem 530 (by decide +kernel) (by decide +kernel)⟩⟩
theorem sk_X0_64 : STk RX0 64 2 := ⟨_, rfl, Or.inr ⟨"MapDrawer", nw_mem 532 (by decide +kernel) (by decide +kernel)⟩⟩
theorem sk_X0_69 : STk RX0 69 3 := ⟨_, rfl, Or.inr ⟨"MapDrawer", nw_mem 534 (by decide +kernel) (by decide +kernel)⟩⟩
theorem sk_X2_76 : STk RX2 76 3 := ⟨_, rfl, Or.inr ⟨"MapDrawer", nw_mem 593 (by decide +kernel) (by decide +kernel)⟩⟩
theorem sk_X2_79 : STk RX2 79 1 := ⟨_, rfl, Or.inr ⟨"MapDrawer", nw_mem 594 (by decide +kernel) (by decide +kernel)⟩⟩
theorem sk_X2_82 : STk RX2 82 2 := ⟨_, rfl, Or.inr ⟨"MapDrawer", nw_mem 595 (by decide +kernel) (by decide +kernel)⟩⟩
theorem sk_X4_94 : STk RX4 94 1 := ⟨_, rfl, Or.inr ⟨"MapDrawer", nw_mem 737 (by decide +kernel) (by decide +kernel)⟩⟩
theorem sk_X4_97 : STk RX4 97 2 := ⟨_, rfl, Or.inr ⟨"MapDrawer", nw_mem 738 (by decide +kernel) (by decide +kernel)⟩⟩
theorem sk_X4_88 : STk RX4 88 4 := ⟨_, rfl, Or.inl (gw_mem 743 (by decide +kernel) (by decide +kernel))⟩
theorem fk_X9_86 : FLk RX9 86 9 0 := ⟨RX9, TX9, 35, tyX9, rfl, by decide, wg_X9, tyX9_ok, nmX9, rfl, Or.inl (gw_mem 765 (by decide +kernel) (by decide +kernel))⟩
theorem fk_X9_7 : FLk RX9 7 9 1 := ⟨RX9, TX9, 35, tyX9, rfl, by decide, wg_X9, tyX9_ok, nmX9, rfl, Or.inl (gw_mem 766 (by decide +kernel) (by decide +kernel))⟩
theorem fk_X9_13 : FLk RX9 13 9 2 := ⟨RX9, TX9, 35, tyX9, rfl, by decide, wg_X9, tyX9_ok, nmX9, rfl, Or.inl (gw_mem 767 (by decide +kernel) (by decide +kernel))⟩
theorem fk_X9_16 : FLk RX9 16 9 3 := ⟨RX9, TX9, 35, tyX9, rfl, by decide, wg_X9, tyX9_ok, nmX9, rfl, Or.inl (gw_mem 768 (by decide +kernel) (by decide +kernel))⟩
theorem fk_X9_94 : FLk RX9 94 9 4 := ⟨RX9, TX9, 35, tyX9, rfl, by decide, wg_X9, tyX9_ok, nmX9, rfl, Or.inl (gw_mem 769 (by decide +kernel) (by decide +kernel))⟩
theorem fk_X9_19 : FLk RX9 19 9 5 := ⟨RX9, TX9, 35, tyX9, rfl, by decide, wg_X9, tyX9_ok, nmX9, rfl, Or.inl (gw_mem 770 (by decide +kernel) (by decide +kernel))⟩
theorem fk_X9_22 : FLk RX9 22 9 6 := ⟨RX9, TX9, 35, tyX9, rfl, by decide, wg_X9, tyX9_ok, nmX9, rfl, Or.inl (gw_mem 771 (by decide +kernel) (by decide +kernel))⟩
theorem fk_X9_25 : FLk RX9 25 9 7 := ⟨RX9, TX9, 35, tyX9, rfl, by decide, wg_X9, tyX9_ok, nmX9, rfl, Or.inl (gw_mem 772 (by decide +kernel) (by decide +kernel))⟩
theorem fk_X9_28 : FLk RX9 28 9 8 := ⟨RX9, TX9, 35, tyX9, rfl, by decide, wg_X9, tyX9_ok, nmX9, rfl, Or.inl (gw_mem 773 (by decide +kernel) (by decide +kernel))⟩
theorem fk_X9_32 : FLk RX9 32 9 9 := ⟨RX9, TX9, 35, tyX9, rfl, by decide, wg_X9, tyX9_ok, nmX9, rfl, Or.inl (gw_mem 774 (by decide +kernel) (by decide +kernel))⟩
theorem fk_X9_35 : FLk RX9 35 9 10 := ⟨RX9, TX9, 35, tyX9, rfl, by decide, wg_X9, tyX9_ok, nmX9, rfl, Or.inl (gw_mem 775 (by decide +kernel) (by decide +kernel))⟩
theorem fk_X9_38 : FLk RX9 38 9 11 := ⟨RX9, TX9, 35, tyX9, rfl, by decide, wg_X9, tyX9_ok, nmX9, rfl, Or.inl (gw_mem 776 (by decide +kernel) (by decide +kernel))⟩
theorem fk_X9_41 : FLk RX9 41 9 12 := ⟨RX9, TX9, 35, tyX9, rfl, by decide, wg_X9, tyX9_ok, nmX9, rfl, Or.inl (gw_mem 777 (by decide +kernel) (by decide +kernel))⟩
theorem fk_X9_197 : FLk RX9 197 9 13 := ⟨RX9, TX9, 35, tyX9, rfl, by decide, wg_X9, tyX9_ok, nmX9, rfl, Or.inl (gw_mem 778 (by decide +kernel) (by decide +kernel))⟩
theorem fk_X9_200 : FLk RX9 200 9 14 := ⟨RX9, TX9, 35, tyX9, rfl, by decide, wg_X9, tyX9_ok, nmX9, rfl, Or.inl (gw_mem 779 (by decide +kernel) (by decide +kernel))⟩
theorem fk_X9_44 : FLk RX9 44 9 15 := ⟨RX9, TX9, 35, tyX9, rfl, by decide, wg_X9, tyX9_ok, nmX9, rfl, Or.inl (gw_mem 780 (by decide +kernel) (by decide +kernel))⟩
theorem fk_X9_47 : FLk RX9 47 9 16 := ⟨RX9, TX9, 35, tyX9, rfl, by decide, wg_X9, tyX9_ok, nmX9, rfl, Or.inl (gw_mem 781 (by decide +kernel) (by decide +kernel))⟩
theorem fk_X9_126 : FLk RX9 126 9 17 := ⟨RX9, TX9, 35, tyX9, rfl, by decide, wg_X9, tyX9_ok, nmX9, rfl, Or.inl (gw_mem 782 (by decide +kernel) (by decide +kernel))⟩
theorem fk_X9_50 : FLk RX9 50 9 18 := ⟨RX9, TX9, 35, tyX9, rfl, by decide, wg_X9, tyX9_ok, nmX9, rfl, Or.inl (gw_mem 783 (by decide +kernel) (by decide +kernel))⟩
theorem fk_X9_53 : FLk RX9 53 9 19 := ⟨RX9, TX9, 35, tyX9, rfl, by decide, wg_X9, tyX9_ok, nmX9, rfl, Or.inl (gw_mem 784 (by decide +kernel) (by decide +kernel))⟩
theorem fk_X9_56 : FLk RX9 56 9 20 := ⟨RX9, TX9, 35, tyX9, rfl, by decide, wg_X9, tyX9_ok, nmX9, rfl, Or.inl (gw_mem 785 (by decide +kernel) (by decide +kernel))⟩
theorem fk_X9_59 : FLk RX9 59 9 21 := ⟨RX9, TX9, 35, tyX9, rfl, by decide, wg_X9, tyX9_ok, nmX9, rfl, Or.inl (gw_mem 786 (by decide +kernel) (by decide +kernel))⟩
theorem fk_X9_62 : FLk RX9 62 9 22 := ⟨RX9, TX9, 35, tyX9, rfl, by decide, wg_X9, tyX9_ok, nmX9, rfl, Or.inl (gw_mem 787 (by decide +kernel) (by decide +kernel))⟩
theorem fk_X9_154 : FLk RX9 154 9 23 := ⟨RX9, TX9, 35, tyX9, rfl, by decide, wg_X9, tyX9_ok, nmX9, rfl, Or.inl (gw_mem 788 (by decide +kernel) (by decide +kernel))⟩
theorem fk_X9_157 : FLk RX9 157 9 24 := ⟨RX9, TX9, 35, tyX9, rfl, by decide, wg_X9, tyX9_ok, nmX9, rfl, Or.inl (gw_mem 789 (by decide +kernel) (by decide +kernel))⟩
theorem fk_X9_160 : FLk RX9 160 9 25 := ⟨RX9, TX9, 35, tyX9, rfl, by decide, wg_X9, tyX9_ok, nmX9, rfl, Or.inl (gw_mem 790 (by decide +kernel) (by decide +kernel))⟩
theorem fk_X9_175 : FLk RX9 175 9 26 := ⟨RX9, TX9, 35, tyX9, rfl, by decide, wg_X9, tyX9_ok, nmX9, rfl, Or.inl (gw_mem 791 (by decide +kernel) (by decide +kernel))⟩
theorem fk_X9_65 : FLk RX9 65 9 27 := ⟨RX9, TX9, 35, tyX9, rfl, by decide, wg_X9, tyX9_ok, nmX9, rfl, Or.inl (gw_mem 792 (by decide +kernel) (by decide +kernel))⟩
theorem fk_X9_68 : FLk RX9 68 9 28 := ⟨RX9, TX9, 35, tyX9, rfl, by decide, wg_X9, tyX9_ok, nmX9, rfl, Or.inl (gw_mem 793 (by decide +kernel) (by decide +kernel))⟩
theorem fk_X9_71 : FLk RX9 71 9 29 := ⟨RX9, TX9, 35, tyX9, rfl, by decide, wg_X9, tyX9_ok, nmX9, rfl, Or.inl (gw_mem 794 (by decide +kernel) (by decide +kernel))⟩
theorem fk_X9_74 : FLk RX9 74 9 30 := ⟨RX9, TX9, 35, tyX9, rfl, by decide, wg_X9, tyX9_ok, nmX9, rfl, Or.inl (gw_mem 795 (by decide +kernel) (by decide +kernel))⟩
theorem fk_X9_77 : FLk RX9 77 9 31 := ⟨RX9, TX9, 35, tyX9, rfl, by decide, wg_X9, tyX9_ok, nmX9, rfl, Or.inl (gw_mem 796 (by decide +kernel) (by decide +kernel))⟩
theorem fk_X9_80 : FLk RX9 80 9 32 := ⟨RX9, TX9, 35, tyX9, rfl, by decide, wg_X9, tyX9_ok, nmX9, rfl, Or.inl (gw_mem 797 (by decide +kernel) (by decide +kernel))⟩
theorem fk_X9_185 : FLk RX9 185 9 33 := ⟨RX9, TX9, 35, tyX9, rfl, by decide, wg_X9, tyX9_ok, nmX9, rfl, Or.inl (gw_mem 798 (by decide +kernel) (by decide +kernel))⟩
theorem fk_X9_83 : FLk RX9 83 9 34 := ⟨RX9, TX9, 35, tyX9, rfl, by decide, wg_X9, tyX9_ok, nmX9, rfl, Or.inl (gw_mem 799 (by decide +kernel) (by decide +kernel))⟩
theorem fw_X0_2 : FLw 0 2 false := ⟨RX0, TX0, 5, rfl, rfl, by decide +kernel⟩
theorem fw_X0_3 : FLw 0 3 false := ⟨RX0, TX0, 5, rfl, rfl, by decide +kernel⟩
theorem fw_X0_4 : FLw 0 4 false := ⟨RX0, TX0, 5, rfl, rfl, by decide +kernel⟩
theorem fw_X3_7 : FLw 3 7 false := ⟨RX3, TX3, 15, rfl, rfl, by decide +kernel⟩
theorem fw_X3_9 : FLw 3 9 false := ⟨RX3, TX3, 15, rfl, rfl, by decide +kernel⟩
theorem fw_X3_10 : FLw 3 10 false := ⟨RX3, TX3, 15, rfl, rfl, by decide +kernel⟩
theorem fw_X3_11 : FLw 3 11 false := ⟨RX3, TX3, 15, rfl, rfl, by decide +kernel⟩
theorem fw_X3_12 : FLw 3 12 false := ⟨RX3, TX3, 15, rfl, rfl, by decide +kernel⟩
theorem fw_X3_13 : FLw 3 13 true := ⟨RX3, TX3, 15, rfl, rfl, by decide +kernel⟩
theorem fw_X3_14 : FLw 3 14 false := ⟨RX3, TX3, 15, rfl, rfl, by decide +kernel⟩
theorem fw_X4_2 : FLw 4 2 false := ⟨RX4, TX4, 4, rfl, rfl, by decide +kernel⟩
theorem fw_X4_3 : FLw 4 3 false := ⟨RX4, TX4, 4, rfl, rfl, by decide +kernel⟩
theorem fw_X5_3 : FLw 5 3 false := ⟨RX5, TX5, 9, rfl, rfl, by decide +kernel⟩
theorem fw_X5_8 : FLw 5 8 false := ⟨RX5, TX5, 9, rfl, rfl, by decide +kernel⟩
theorem fw_X9_0 : FLw 9 0 false := ⟨RX9, TX9, 35, rfl, rfl, by decide +kernel⟩
theorem fw_X9_4 : FLw 9 4 false := ⟨RX9, TX9, 35, rfl, rfl, by decide +kernel⟩
theorem fw_X9_13 : FLw 9 13 false := ⟨RX9, TX9, 35, rfl, rfl, by decide +kernel⟩
theorem fw_X9_14 : FLw 9 14 false := ⟨RX9, TX9, 35, rfl, rfl, by decide +kernel⟩
theorem fw_X9_17 : FLw 9 17 false := ⟨RX9, TX9, 35, rfl, rfl, by decide +kernel⟩
theorem fw_X9_23 : FLw 9 23 false := ⟨RX9, TX9, 35, rfl, rfl, by decide +kernel⟩
theorem fw_X9_24 : FLw 9 24 false := ⟨RX9, TX9, 35, rfl, rfl, by decide +kernel⟩
theorem fw_X9_25 : FLw 9 25 false := ⟨RX9, TX9, 35, rfl, rfl, by decide +kernel⟩
theorem fw_X9_26 : FLw 9 26 false := ⟨RX9, TX9, 35, rfl, rfl, by decide +kernel⟩
theorem fw_X9_33 : FLw 9 33 false := ⟨RX9, TX9, 35, rfl, rfl, by decide +kernel⟩
theorem ml_X8_57 : MLS RX8 57 yX8_isKind cX8_isKind 1 (some .boolean) 1 := ⟨gw_mem 349 (by decide +kernel) (by decide +kernel), gw_mem 350 (by decide +kernel) (by decide +kernel), gw_mem 61 (by decide +kernel) (by decide +kernel), ⟨by decide +kernel, by decide +kernel, by decide +kernel⟩, gw_mem 351 (by decide +kernel) (by decide +kernel), by decide⟩
theorem mi_X5_isFullOfRooms : Cond.instanceMethod yX5_isFullOfRooms ∈ gw ∧ (∃ C T N, vwCl[5]? = some (C, T, N) ∧ Cond.selects C yX5_isFullOfRooms yX5_isFullOfRooms ∈ gw ∧ Cond.initialized C ∈ gw ∧ (yX5_isFullOfRooms.cls = C ∧ yX5_isFullOfRooms.cls ≠ "java/lang/invoke/MethodHandle" ∧ yX5_isFullOfRooms.cls ≠ "java/lang/invoke/VarHandle" ∧ (parseMethodDescriptor yX5_isFullOfRooms.desc).map (fun d => d.parameters.length) = some 0)) ∧ Cond.code yX5_isFullOfRooms cX5_isFullOfRooms 1 (some .boolean) ∈ gw ∧ 1 ≤ 45 := ⟨gw_mem 353 (by decide +kernel) (by decide +kernel), ⟨RX5, TX5, 9, rfl, gw_mem 354 (by decide +kernel) (by decide +kernel), gw_mem 62 (by decide +kernel) (by decide +kernel), rfl, by decide +kernel, by decide +kernel, by decide +kernel⟩, gw_mem 355 (by decide +kernel) (by decide +kernel), by decide⟩
theorem ml_X8_61 : MLV RX8 61 yX5_isFullOfRooms 5 cX5_isFullOfRooms 1 (some .boolean) 0 := ⟨gw_mem 352 (by decide +kernel) (by decide +kernel), mi_X5_isFullOfRooms⟩
theorem mi_X5_addRoom : Cond.instanceMethod yX5_addRoom ∈ gw ∧ (∃ C T N, vwCl[5]? = some (C, T, N) ∧ Cond.selects C yX5_addRoom yX5_addRoom ∈ gw ∧ Cond.initialized C ∈ gw ∧ (yX5_addRoom.cls = C ∧ yX5_addRoom.cls ≠ "java/lang/invoke/MethodHandle" ∧ yX5_addRoom.cls ≠ "java/lang/invoke/VarHandle" ∧ (parseMethodDescriptor yX5_addRoom.desc).map (fun d => d.parameters.length) = some 2)) ∧ Cond.code yX5_addRoom cX5_addRoom 3 (some .int) ∈ gw ∧ 3 ≤ 45 := ⟨gw_mem 357 (by decide +kernel) (by decide +kernel), ⟨RX5, TX5, 9, rfl, gw_mem 358 (by decide +kernel) (by decide +kernel), gw_mem 62 (by decide +kernel) (by decide +kernel), rfl, by decide +kernel, by decide +kernel, by decide +kernel⟩, gw_mem 359 (by decide +kernel) (by decide +kernel), by decide⟩
theorem ml_X8_65 : MLV RX8 65 yX5_addRoom 5 cX5_addRoom 3 (some .int) 2 := ⟨gw_mem 356 (by decide +kernel) (by decide +kernel), mi_X5_addRoom⟩
theorem ml_X5_41 : MLV RX5 41 yX5_isFullOfRooms 5 cX5_isFullOfRooms 1 (some .boolean) 0 := ⟨gw_mem 360 (by decide +kernel) (by decide +kernel), mi_X5_isFullOfRooms⟩
theorem mi_X5_isRoom : Cond.instanceMethod yX5_isRoom ∈ gw ∧ (∃ C T N, vwCl[5]? = some (C, T, N) ∧ Cond.selects C yX5_isRoom yX5_isRoom ∈ gw ∧ Cond.initialized C ∈ gw ∧ (yX5_isRoom.cls = C ∧ yX5_isRoom.cls ≠ "java/lang/invoke/MethodHandle" ∧ yX5_isRoom.cls ≠ "java/lang/invoke/VarHandle" ∧ (parseMethodDescriptor yX5_isRoom.desc).map (fun d => d.parameters.length) = some 1)) ∧ Cond.code yX5_isRoom cX5_isRoom 2 (some .boolean) ∈ gw ∧ 2 ≤ 45 := ⟨gw_mem 366 (by decide +kernel) (by decide +kernel), ⟨RX5, TX5, 9, rfl, gw_mem 367 (by decide +kernel) (by decide +kernel), gw_mem 62 (by decide +kernel) (by decide +kernel), rfl, by decide +kernel, by decide +kernel, by decide +kernel⟩, gw_mem 368 (by decide +kernel) (by decide +kernel), by decide⟩
theorem ml_X8_69 : MLV RX8 69 yX5_isRoom 5 cX5_isRoom 2 (some .boolean) 1 := ⟨gw_mem 365 (by decide +kernel) (by decide +kernel), mi_X5_isRoom⟩
theorem ml_X8_72 : MLS RX8 72 yX8_isDirection cX8_isDirection 1 (some .boolean) 1 := ⟨gw_mem 369 (by decide +kernel) (by decide +kernel), gw_mem 370 (by decide +kernel) (by decide +kernel), gw_mem 61 (by decide +kernel) (by decide +kernel), ⟨by decide +kernel, by decide +kernel, by decide +kernel⟩, gw_mem 371 (by decide +kernel) (by decide +kernel), by decide⟩
theorem mi_X5_leading : Cond.instanceMethod yX5_leading ∈ gw ∧ (∃ C T N, vwCl[5]? = some (C, T, N) ∧ Cond.selects C yX5_leading yX5_leading ∈ gw ∧ Cond.initialized C ∈ gw ∧ (yX5_leading.cls = C ∧ yX5_leading.cls ≠ "java/lang/invoke/MethodHandle" ∧ yX5_leading.cls ≠ "java/lang/invoke/VarHandle" ∧ (parseMethodDescriptor yX5_leading.desc).map (fun d => d.parameters.length) = some 2)) ∧ Cond.code yX5_leading cX5_leading 4 (some .int) ∈ gw ∧ 4 ≤ 45 := ⟨gw_mem 373 (by decide +kernel) (by decide +kernel), ⟨RX5, TX5, 9, rfl, gw_mem 374 (by decide +kernel) (by decide +kernel), gw_mem 62 (by decide +kernel) (by decide +kernel), rfl, by decide +kernel, by decide +kernel, by decide +kernel⟩, gw_mem 375 (by decide +kernel) (by decide +kernel), by decide⟩
theorem ml_X8_75 : MLV RX8 75 yX5_leading 5 cX5_leading 4 (some .int) 2 := ⟨gw_mem 372 (by decide +kernel) (by decide +kernel), mi_X5_leading⟩
theorem mi_X5_leadsForth : Cond.instanceMethod yX5_leadsForth ∈ gw ∧ (∃ C T N, vwCl[5]? = some (C, T, N) ∧ Cond.selects C yX5_leadsForth yX5_leadsForth ∈ gw ∧ Cond.initialized C ∈ gw ∧ (yX5_leadsForth.cls = C ∧ yX5_leadsForth.cls ≠ "java/lang/invoke/MethodHandle" ∧ yX5_leadsForth.cls ≠ "java/lang/invoke/VarHandle" ∧ (parseMethodDescriptor yX5_leadsForth.desc).map (fun d => d.parameters.length) = some 3)) ∧ Cond.code yX5_leadsForth cX5_leadsForth 4 (some .boolean) ∈ gw ∧ 4 ≤ 45 := ⟨gw_mem 378 (by decide +kernel) (by decide +kernel), ⟨RX5, TX5, 9, rfl, gw_mem 0 (by decide +kernel) (by decide +kernel), gw_mem 62 (by decide +kernel) (by decide +kernel), rfl, by decide +kernel, by decide +kernel, by decide +kernel⟩, gw_mem 379 (by decide +kernel) (by decide +kernel), by decide⟩
theorem ml_X5_48 : MLV RX5 48 yX5_leadsForth 5 cX5_leadsForth 4 (some .boolean) 3 := ⟨gw_mem 376 (by decide +kernel) (by decide +kernel), mi_X5_leadsForth⟩
theorem mi_X5_leadsBack : Cond.instanceMethod yX5_leadsBack ∈ gw ∧ (∃ C T N, vwCl[5]? = some (C, T, N) ∧ Cond.selects C yX5_leadsBack yX5_leadsBack ∈ gw ∧ Cond.initialized C ∈ gw ∧ (yX5_leadsBack.cls = C ∧ yX5_leadsBack.cls ≠ "java/lang/invoke/MethodHandle" ∧ yX5_leadsBack.cls ≠ "java/lang/invoke/VarHandle" ∧ (parseMethodDescriptor yX5_leadsBack.desc).map (fun d => d.parameters.length) = some 3)) ∧ Cond.code yX5_leadsBack cX5_leadsBack 4 (some .boolean) ∈ gw ∧ 4 ≤ 45 := ⟨gw_mem 382 (by decide +kernel) (by decide +kernel), ⟨RX5, TX5, 9, rfl, gw_mem 1 (by decide +kernel) (by decide +kernel), gw_mem 62 (by decide +kernel) (by decide +kernel), rfl, by decide +kernel, by decide +kernel, by decide +kernel⟩, gw_mem 383 (by decide +kernel) (by decide +kernel), by decide⟩
theorem ml_X5_52 : MLV RX5 52 yX5_leadsBack 5 cX5_leadsBack 4 (some .boolean) 3 := ⟨gw_mem 380 (by decide +kernel) (by decide +kernel), mi_X5_leadsBack⟩
theorem mi_X5_isFullOfLinks : Cond.instanceMethod yX5_isFullOfLinks ∈ gw ∧ (∃ C T N, vwCl[5]? = some (C, T, N) ∧ Cond.selects C yX5_isFullOfLinks yX5_isFullOfLinks ∈ gw ∧ Cond.initialized C ∈ gw ∧ (yX5_isFullOfLinks.cls = C ∧ yX5_isFullOfLinks.cls ≠ "java/lang/invoke/MethodHandle" ∧ yX5_isFullOfLinks.cls ≠ "java/lang/invoke/VarHandle" ∧ (parseMethodDescriptor yX5_isFullOfLinks.desc).map (fun d => d.parameters.length) = some 0)) ∧ Cond.code yX5_isFullOfLinks cX5_isFullOfLinks 1 (some .boolean) ∈ gw ∧ 1 ≤ 45 := ⟨gw_mem 388 (by decide +kernel) (by decide +kernel), ⟨RX5, TX5, 9, rfl, gw_mem 389 (by decide +kernel) (by decide +kernel), gw_mem 62 (by decide +kernel) (by decide +kernel), rfl, by decide +kernel, by decide +kernel, by decide +kernel⟩, gw_mem 390 (by decide +kernel) (by decide +kernel), by decide⟩
theorem ml_X8_82 : MLV RX8 82 yX5_isFullOfLinks 5 cX5_isFullOfLinks 1 (some .boolean) 0 := ⟨gw_mem 387 (by decide +kernel) (by decide +kernel), mi_X5_isFullOfLinks⟩
theorem mi_X5_addLink : Cond.instanceMethod yX5_addLink ∈ gw ∧ (∃ C T N, vwCl[5]? = some (C, T, N) ∧ Cond.selects C yX5_addLink yX5_addLink ∈ gw ∧ Cond.initialized C ∈ gw ∧ (yX5_addLink.cls = C ∧ yX5_addLink.cls ≠ "java/lang/invoke/MethodHandle" ∧ yX5_addLink.cls ≠ "java/lang/invoke/VarHandle" ∧ (parseMethodDescriptor yX5_addLink.desc).map (fun d => d.parameters.length) = some 4)) ∧ Cond.code yX5_addLink cX5_addLink 5 (some .int) ∈ gw ∧ 5 ≤ 45 := ⟨gw_mem 392 (by decide +kernel) (by decide +kernel), ⟨RX5, TX5, 9, rfl, gw_mem 393 (by decide +kernel) (by decide +kernel), gw_mem 62 (by decide +kernel) (by decide +kernel), rfl, by decide +kernel, by decide +kernel, by decide +kernel⟩, gw_mem 394 (by decide +kernel) (by decide +kernel), by decide⟩
theorem ml_X8_85 : MLV RX8 85 yX5_addLink 5 cX5_addLink 5 (some .int) 4 := ⟨gw_mem 391 (by decide +kernel) (by decide +kernel), mi_X5_addLink⟩
theorem ml_X5_45 : MLV RX5 45 yX5_isFullOfLinks 5 cX5_isFullOfLinks 1 (some .boolean) 0 := ⟨gw_mem 395 (by decide +kernel) (by decide +kernel), mi_X5_isFullOfLinks⟩
theorem mi_X5_isLink : Cond.instanceMethod yX5_isLink ∈ gw ∧ (∃ C T N, vwCl[5]? = some (C, T, N) ∧ Cond.selects C yX5_isLink yX5_isLink ∈ gw ∧ Cond.initialized C ∈ gw ∧ (yX5_isLink.cls = C ∧ yX5_isLink.cls ≠ "java/lang/invoke/MethodHandle" ∧ yX5_isLink.cls ≠ "java/lang/invoke/VarHandle" ∧ (parseMethodDescriptor yX5_isLink.desc).map (fun d => d.parameters.length) = some 1)) ∧ Cond.code yX5_isLink cX5_isLink 2 (some .boolean) ∈ gw ∧ 2 ≤ 45 := ⟨gw_mem 401 (by decide +kernel) (by decide +kernel), ⟨RX5, TX5, 9, rfl, gw_mem 402 (by decide +kernel) (by decide +kernel), gw_mem 62 (by decide +kernel) (by decide +kernel), rfl, by decide +kernel, by decide +kernel, by decide +kernel⟩, gw_mem 403 (by decide +kernel) (by decide +kernel), by decide⟩
theorem ml_X8_89 : MLV RX8 89 yX5_isLink 5 cX5_isLink 2 (some .boolean) 1 := ⟨gw_mem 400 (by decide +kernel) (by decide +kernel), mi_X5_isLink⟩
theorem mi_X5_removeLink : Cond.instanceMethod yX5_removeLink ∈ gw ∧ (∃ C T N, vwCl[5]? = some (C, T, N) ∧ Cond.selects C yX5_removeLink yX5_removeLink ∈ gw ∧ Cond.initialized C ∈ gw ∧ (yX5_removeLink.cls = C ∧ yX5_removeLink.cls ≠ "java/lang/invoke/MethodHandle" ∧ yX5_removeLink.cls ≠ "java/lang/invoke/VarHandle" ∧ (parseMethodDescriptor yX5_removeLink.desc).map (fun d => d.parameters.length) = some 1)) ∧ Cond.code yX5_removeLink cX5_removeLink 3 none ∈ gw ∧ 3 ≤ 45 := ⟨gw_mem 405 (by decide +kernel) (by decide +kernel), ⟨RX5, TX5, 9, rfl, gw_mem 406 (by decide +kernel) (by decide +kernel), gw_mem 62 (by decide +kernel) (by decide +kernel), rfl, by decide +kernel, by decide +kernel, by decide +kernel⟩, gw_mem 407 (by decide +kernel) (by decide +kernel), by decide⟩
theorem ml_X8_92 : MLV RX8 92 yX5_removeLink 5 cX5_removeLink 3 none 1 := ⟨gw_mem 404 (by decide +kernel) (by decide +kernel), mi_X5_removeLink⟩
theorem mi_X5_beyond : Cond.instanceMethod yX5_beyond ∈ gw ∧ (∃ C T N, vwCl[5]? = some (C, T, N) ∧ Cond.selects C yX5_beyond yX5_beyond ∈ gw ∧ Cond.initialized C ∈ gw ∧ (yX5_beyond.cls = C ∧ yX5_beyond.cls ≠ "java/lang/invoke/MethodHandle" ∧ yX5_beyond.cls ≠ "java/lang/invoke/VarHandle" ∧ (parseMethodDescriptor yX5_beyond.desc).map (fun d => d.parameters.length) = some 2)) ∧ Cond.code yX5_beyond cX5_beyond 4 (some .int) ∈ gw ∧ 4 ≤ 45 := ⟨gw_mem 413 (by decide +kernel) (by decide +kernel), ⟨RX5, TX5, 9, rfl, gw_mem 414 (by decide +kernel) (by decide +kernel), gw_mem 62 (by decide +kernel) (by decide +kernel), rfl, by decide +kernel, by decide +kernel, by decide +kernel⟩, gw_mem 415 (by decide +kernel) (by decide +kernel), by decide⟩
theorem ml_X8_100 : MLV RX8 100 yX5_beyond 5 cX5_beyond 4 (some .int) 2 := ⟨gw_mem 412 (by decide +kernel) (by decide +kernel), mi_X5_beyond⟩
theorem ml_X5_55 : MLV RX5 55 yX5_leading 5 cX5_leading 4 (some .int) 2 := ⟨gw_mem 416 (by decide +kernel) (by decide +kernel), mi_X5_leading⟩
theorem mi_X8_playToNewRoom : Cond.instanceMethod yX8_playToNewRoom ∈ gw ∧ (∃ C T N, vwCl[8]? = some (C, T, N) ∧ Cond.selects C yX8_playToNewRoom yX8_playToNewRoom ∈ gw ∧ Cond.initialized C ∈ gw ∧ (yX8_playToNewRoom.cls = C ∧ yX8_playToNewRoom.cls ≠ "java/lang/invoke/MethodHandle" ∧ yX8_playToNewRoom.cls ≠ "java/lang/invoke/VarHandle" ∧ (parseMethodDescriptor yX8_playToNewRoom.desc).map (fun d => d.parameters.length) = some 2)) ∧ Cond.code yX8_playToNewRoom cX8_playToNewRoom 4 (some .int) ∈ gw ∧ 4 ≤ 45 := ⟨gw_mem 419 (by decide +kernel) (by decide +kernel), ⟨RX8, TX8, 6, rfl, gw_mem 2 (by decide +kernel) (by decide +kernel), gw_mem 61 (by decide +kernel) (by decide +kernel), rfl, by decide +kernel, by decide +kernel, by decide +kernel⟩, gw_mem 420 (by decide +kernel) (by decide +kernel), by decide⟩
theorem ml_X8_103 : MLV RX8 103 yX8_playToNewRoom 8 cX8_playToNewRoom 4 (some .int) 2 := ⟨gw_mem 417 (by decide +kernel) (by decide +kernel), mi_X8_playToNewRoom⟩
theorem mi_X8_playToRoom : Cond.instanceMethod yX8_playToRoom ∈ gw ∧ (∃ C T N, vwCl[8]? = some (C, T, N) ∧ Cond.selects C yX8_playToRoom yX8_playToRoom ∈ gw ∧ Cond.initialized C ∈ gw ∧ (yX8_playToRoom.cls = C ∧ yX8_playToRoom.cls ≠ "java/lang/invoke/MethodHandle" ∧ yX8_playToRoom.cls ≠ "java/lang/invoke/VarHandle" ∧ (parseMethodDescriptor yX8_playToRoom.desc).map (fun d => d.parameters.length) = some 3)) ∧ Cond.code yX8_playToRoom cX8_playToRoom 5 (some .int) ∈ gw ∧ 5 ≤ 45 := ⟨gw_mem 423 (by decide +kernel) (by decide +kernel), ⟨RX8, TX8, 6, rfl, gw_mem 3 (by decide +kernel) (by decide +kernel), gw_mem 61 (by decide +kernel) (by decide +kernel), rfl, by decide +kernel, by decide +kernel, by decide +kernel⟩, gw_mem 424 (by decide +kernel) (by decide +kernel), by decide⟩
theorem ml_X8_106 : MLV RX8 106 yX8_playToRoom 8 cX8_playToRoom 5 (some .int) 3 := ⟨gw_mem 421 (by decide +kernel) (by decide +kernel), mi_X8_playToRoom⟩
theorem mi_X5_firstNotToldApart : Cond.instanceMethod yX5_firstNotToldApart ∈ gw ∧ (∃ C T N, vwCl[5]? = some (C, T, N) ∧ Cond.selects C yX5_firstNotToldApart yX5_firstNotToldApart ∈ gw ∧ Cond.initialized C ∈ gw ∧ (yX5_firstNotToldApart.cls = C ∧ yX5_firstNotToldApart.cls ≠ "java/lang/invoke/MethodHandle" ∧ yX5_firstNotToldApart.cls ≠ "java/lang/invoke/VarHandle" ∧ (parseMethodDescriptor yX5_firstNotToldApart.desc).map (fun d => d.parameters.length) = some 1)) ∧ Cond.code yX5_firstNotToldApart cX5_firstNotToldApart 4 (some .int) ∈ gw ∧ 4 ≤ 45 := ⟨gw_mem 434 (by decide +kernel) (by decide +kernel), ⟨RX5, TX5, 9, rfl, gw_mem 435 (by decide +kernel) (by decide +kernel), gw_mem 62 (by decide +kernel) (by decide +kernel), rfl, by decide +kernel, by decide +kernel, by decide +kernel⟩, gw_mem 436 (by decide +kernel) (by decide +kernel), by decide⟩
theorem ml_X8_113 : MLV RX8 113 yX5_firstNotToldApart 5 cX5_firstNotToldApart 4 (some .int) 1 := ⟨gw_mem 433 (by decide +kernel) (by decide +kernel), mi_X5_firstNotToldApart⟩
theorem mi_X5_isLoop : Cond.instanceMethod yX5_isLoop ∈ gw ∧ (∃ C T N, vwCl[5]? = some (C, T, N) ∧ Cond.selects C yX5_isLoop yX5_isLoop ∈ gw ∧ Cond.initialized C ∈ gw ∧ (yX5_isLoop.cls = C ∧ yX5_isLoop.cls ≠ "java/lang/invoke/MethodHandle" ∧ yX5_isLoop.cls ≠ "java/lang/invoke/VarHandle" ∧ (parseMethodDescriptor yX5_isLoop.desc).map (fun d => d.parameters.length) = some 1)) ∧ Cond.code yX5_isLoop cX5_isLoop 2 (some .boolean) ∈ gw ∧ 2 ≤ 45 := ⟨gw_mem 442 (by decide +kernel) (by decide +kernel), ⟨RX5, TX5, 9, rfl, gw_mem 443 (by decide +kernel) (by decide +kernel), gw_mem 62 (by decide +kernel) (by decide +kernel), rfl, by decide +kernel, by decide +kernel, by decide +kernel⟩, gw_mem 444 (by decide +kernel) (by decide +kernel), by decide⟩
theorem ml_X8_130 : MLV RX8 130 yX5_isLoop 5 cX5_isLoop 2 (some .boolean) 1 := ⟨gw_mem 441 (by decide +kernel) (by decide +kernel), mi_X5_isLoop⟩
theorem mi_X1_find : Cond.instanceMethod yX1_find ∈ gw ∧ (∃ C T N, vwCl[1]? = some (C, T, N) ∧ Cond.selects C yX1_find yX1_find ∈ gw ∧ Cond.initialized C ∈ gw ∧ (yX1_find.cls = C ∧ yX1_find.cls ≠ "java/lang/invoke/MethodHandle" ∧ yX1_find.cls ≠ "java/lang/invoke/VarHandle" ∧ (parseMethodDescriptor yX1_find.desc).map (fun d => d.parameters.length) = some 1)) ∧ Cond.code yX1_find cX1_find 4 (some .int) ∈ gw ∧ 4 ≤ 45 := ⟨gw_mem 454 (by decide +kernel) (by decide +kernel), ⟨RX1, TX1, 1, rfl, gw_mem 455 (by decide +kernel) (by decide +kernel), gw_mem 63 (by decide +kernel) (by decide +kernel), rfl, by decide +kernel, by decide +kernel, by decide +kernel⟩, gw_mem 456 (by decide +kernel) (by decide +kernel), by decide⟩
theorem ml_X8_133 : MLV RX8 133 yX1_find 1 cX1_find 4 (some .int) 1 := ⟨gw_mem 453 (by decide +kernel) (by decide +kernel), mi_X1_find⟩
theorem mi_X1_sinkToLeastRooms : Cond.instanceMethod yX1_sinkToLeastRooms ∈ gw ∧ (∃ C T N, vwCl[1]? = some (C, T, N) ∧ Cond.selects C yX1_sinkToLeastRooms yX1_sinkToLeastRooms ∈ gw ∧ Cond.initialized C ∈ gw ∧ (yX1_sinkToLeastRooms.cls = C ∧ yX1_sinkToLeastRooms.cls ≠ "java/lang/invoke/MethodHandle" ∧ yX1_sinkToLeastRooms.cls ≠ "java/lang/invoke/VarHandle" ∧ (parseMethodDescriptor yX1_sinkToLeastRooms.desc).map (fun d => d.parameters.length) = some 1)) ∧ Cond.code yX1_sinkToLeastRooms cX1_sinkToLeastRooms 6 (some .boolean) ∈ gw ∧ 6 ≤ 45 := ⟨gw_mem 459 (by decide +kernel) (by decide +kernel), ⟨RX1, TX1, 1, rfl, gw_mem 4 (by decide +kernel) (by decide +kernel), gw_mem 63 (by decide +kernel) (by decide +kernel), rfl, by decide +kernel, by decide +kernel, by decide +kernel⟩, gw_mem 460 (by decide +kernel) (by decide +kernel), by decide⟩
theorem ml_X1_21 : MLV RX1 21 yX1_sinkToLeastRooms 1 cX1_sinkToLeastRooms 6 (some .boolean) 1 := ⟨gw_mem 457 (by decide +kernel) (by decide +kernel), mi_X1_sinkToLeastRooms⟩
theorem ml_X1_38 : MthL RX1 38 Lib.Math.min.name Lib.Math.min.code 2 := ⟨gw_mem 461 (by decide +kernel) (by decide +kernel), gw_mem 462 (by decide +kernel) (by decide +kernel), gw_mem 71 (by decide +kernel) (by decide +kernel), gw_mem 463 (by decide +kernel) (by decide +kernel)⟩
theorem mi_X1_countUp : Cond.instanceMethod yX1_countUp ∈ gw ∧ (∃ C T N, vwCl[1]? = some (C, T, N) ∧ Cond.selects C yX1_countUp yX1_countUp ∈ gw ∧ Cond.initialized C ∈ gw ∧ (yX1_countUp.cls = C ∧ yX1_countUp.cls ≠ "java/lang/invoke/MethodHandle" ∧ yX1_countUp.cls ≠ "java/lang/invoke/VarHandle" ∧ (parseMethodDescriptor yX1_countUp.desc).map (fun d => d.parameters.length) = some 1)) ∧ Cond.code yX1_countUp cX1_countUp 4 (some .int) ∈ gw ∧ 4 ≤ 45 := ⟨gw_mem 466 (by decide +kernel) (by decide +kernel), ⟨RX1, TX1, 1, rfl, gw_mem 5 (by decide +kernel) (by decide +kernel), gw_mem 63 (by decide +kernel) (by decide +kernel), rfl, by decide +kernel, by decide +kernel, by decide +kernel⟩, gw_mem 467 (by decide +kernel) (by decide +kernel), by decide⟩
theorem ml_X1_25 : MLV RX1 25 yX1_countUp 1 cX1_countUp 4 (some .int) 1 := ⟨gw_mem 464 (by decide +kernel) (by decide +kernel), mi_X1_countUp⟩
theorem mi_X3_drawAll : Cond.instanceMethod yX3_drawAll ∈ gw ∧ (∃ C T N, vwCl[3]? = some (C, T, N) ∧ Cond.selects C yX3_drawAll yX3_drawAll ∈ gw ∧ Cond.initialized C ∈ gw ∧ (yX3_drawAll.cls = C ∧ yX3_drawAll.cls ≠ "java/lang/invoke/MethodHandle" ∧ yX3_drawAll.cls ≠ "java/lang/invoke/VarHandle" ∧ (parseMethodDescriptor yX3_drawAll.desc).map (fun d => d.parameters.length) = some 1)) ∧ Cond.code yX3_drawAll cX3_drawAll 4 none ∈ gw ∧ 4 ≤ 45 := ⟨gw_mem 473 (by decide +kernel) (by decide +kernel), ⟨RX3, TX3, 15, rfl, gw_mem 474 (by decide +kernel) (by decide +kernel), gw_mem 65 (by decide +kernel) (by decide +kernel), rfl, by decide +kernel, by decide +kernel, by decide +kernel⟩, gw_mem 475 (by decide +kernel) (by decide +kernel), by decide⟩
theorem ml_X8_140 : MLV RX8 140 yX3_drawAll 3 cX3_drawAll 4 none 1 := ⟨gw_mem 472 (by decide +kernel) (by decide +kernel), mi_X3_drawAll⟩
theorem mi_X6_gather : Cond.instanceMethod yX6_gather ∈ gw ∧ (∃ C T N, vwCl[6]? = some (C, T, N) ∧ Cond.selects C yX6_gather yX6_gather ∈ gw ∧ Cond.initialized C ∈ gw ∧ (yX6_gather.cls = C ∧ yX6_gather.cls ≠ "java/lang/invoke/MethodHandle" ∧ yX6_gather.cls ≠ "java/lang/invoke/VarHandle" ∧ (parseMethodDescriptor yX6_gather.desc).map (fun d => d.parameters.length) = some 1)) ∧ Cond.code yX6_gather cX6_gather 6 none ∈ gw ∧ 6 ≤ 45 := ⟨gw_mem 477 (by decide +kernel) (by decide +kernel), ⟨RX6, TX6, 2, rfl, gw_mem 478 (by decide +kernel) (by decide +kernel), gw_mem 66 (by decide +kernel) (by decide +kernel), rfl, by decide +kernel, by decide +kernel, by decide +kernel⟩, gw_mem 479 (by decide +kernel) (by decide +kernel), by decide⟩
theorem ml_X3_59 : MLV RX3 59 yX6_gather 6 cX6_gather 6 none 1 := ⟨gw_mem 476 (by decide +kernel) (by decide +kernel), mi_X6_gather⟩
theorem ml_X6_33 : MLV RX6 33 yX5_isLoop 5 cX5_isLoop 2 (some .boolean) 1 := ⟨gw_mem 480 (by decide +kernel) (by decide +kernel), mi_X5_isLoop⟩
theorem ml_X3_62 : MLV RX3 62 yX1_find 1 cX1_find 4 (some .int) 1 := ⟨gw_mem 481 (by decide +kernel) (by decide +kernel), mi_X1_find⟩
theorem mi_X2_clear : Cond.instanceMethod yX2_clear ∈ gw ∧ (∃ C T N, vwCl[2]? = some (C, T, N) ∧ Cond.selects C yX2_clear yX2_clear ∈ gw ∧ Cond.initialized C ∈ gw ∧ (yX2_clear.cls = C ∧ yX2_clear.cls ≠ "java/lang/invoke/MethodHandle" ∧ yX2_clear.cls ≠ "java/lang/invoke/VarHandle" ∧ (parseMethodDescriptor yX2_clear.desc).map (fun d => d.parameters.length) = some 0)) ∧ Cond.code yX2_clear cX2_clear 2 none ∈ gw ∧ 2 ≤ 45 := ⟨gw_mem 483 (by decide +kernel) (by decide +kernel), ⟨RX2, TX2, 5, rfl, gw_mem 484 (by decide +kernel) (by decide +kernel), gw_mem 64 (by decide +kernel) (by decide +kernel), rfl, by decide +kernel, by decide +kernel, by decide +kernel⟩, gw_mem 485 (by decide +kernel) (by decide +kernel), by decide⟩
theorem ml_X3_74 : MLV RX3 74 yX2_clear 2 cX2_clear 2 none 0 := ⟨gw_mem 482 (by decide +kernel) (by decide +kernel), mi_X2_clear⟩
theorem mi_X3_drawPartOf : Cond.instanceMethod yX3_drawPartOf ∈ gw ∧ (∃ C T N, vwCl[3]? = some (C, T, N) ∧ Cond.selects C yX3_drawPartOf yX3_drawPartOf ∈ gw ∧ Cond.initialized C ∈ gw ∧ (yX3_drawPartOf.cls = C ∧ yX3_drawPartOf.cls ≠ "java/lang/invoke/MethodHandle" ∧ yX3_drawPartOf.cls ≠ "java/lang/invoke/VarHandle" ∧ (parseMethodDescriptor yX3_drawPartOf.desc).map (fun d => d.parameters.length) = some 1)) ∧ Cond.code yX3_drawPartOf cX3_drawPartOf 2 none ∈ gw ∧ 2 ≤ 45 := ⟨gw_mem 488 (by decide +kernel) (by decide +kernel), ⟨RX3, TX3, 15, rfl, gw_mem 6 (by decide +kernel) (by decide +kernel), gw_mem 65 (by decide +kernel) (by decide +kernel), rfl, by decide +kernel, by decide +kernel, by decide +kernel⟩, gw_mem 489 (by decide +kernel) (by decide +kernel), by decide⟩
theorem ml_X3_85 : MLV RX3 85 yX3_drawPartOf 3 cX3_drawPartOf 2 none 1 := ⟨gw_mem 486 (by decide +kernel) (by decide +kernel), mi_X3_drawPartOf⟩
theorem mi_X2_put : Cond.instanceMethod yX2_put ∈ gw ∧ (∃ C T N, vwCl[2]? = some (C, T, N) ∧ Cond.selects C yX2_put yX2_put ∈ gw ∧ Cond.initialized C ∈ gw ∧ (yX2_put.cls = C ∧ yX2_put.cls ≠ "java/lang/invoke/MethodHandle" ∧ yX2_put.cls ≠ "java/lang/invoke/VarHandle" ∧ (parseMethodDescriptor yX2_put.desc).map (fun d => d.parameters.length) = some 4)) ∧ Cond.code yX2_put cX2_put 5 none ∈ gw ∧ 5 ≤ 45 := ⟨gw_mem 491 (by decide +kernel) (by decide +kernel), ⟨RX2, TX2, 5, rfl, gw_mem 492 (by decide +kernel) (by decide +kernel), gw_mem 64 (by decide +kernel) (by decide +kernel), rfl, by decide +kernel, by decide +kernel, by decide +kernel⟩, gw_mem 493 (by decide +kernel) (by decide +kernel), by decide⟩
theorem ml_X3_121 : MLV RX3 121 yX2_put 2 cX2_put 5 none 4 := ⟨gw_mem 490 (by decide +kernel) (by decide +kernel), mi_X2_put⟩
theorem mi_X3_spread : Cond.instanceMethod yX3_spread ∈ gw ∧ (∃ C T N, vwCl[3]? = some (C, T, N) ∧ Cond.selects C yX3_spread yX3_spread ∈ gw ∧ Cond.initialized C ∈ gw ∧ (yX3_spread.cls = C ∧ yX3_spread.cls ≠ "java/lang/invoke/MethodHandle" ∧ yX3_spread.cls ≠ "java/lang/invoke/VarHandle" ∧ (parseMethodDescriptor yX3_spread.desc).map (fun d => d.parameters.length) = some 1)) ∧ Cond.code yX3_spread cX3_spread 4 none ∈ gw ∧ 4 ≤ 45 := ⟨gw_mem 496 (by decide +kernel) (by decide +kernel), ⟨RX3, TX3, 15, rfl, gw_mem 7 (by decide +kernel) (by decide +kernel), gw_mem 65 (by decide +kernel) (by decide +kernel), rfl, by decide +kernel, by decide +kernel, by decide +kernel⟩, gw_mem 497 (by decide +kernel) (by decide +kernel), by decide⟩
theorem ml_X3_106 : MLV RX3 106 yX3_spread 3 cX3_spread 4 none 1 := ⟨gw_mem 494 (by decide +kernel) (by decide +kernel), mi_X3_spread⟩
theorem mi_X3_nextRoom : Cond.instanceMethod yX3_nextRoom ∈ gw ∧ (∃ C T N, vwCl[3]? = some (C, T, N) ∧ Cond.selects C yX3_nextRoom yX3_nextRoom ∈ gw ∧ Cond.initialized C ∈ gw ∧ (yX3_nextRoom.cls = C ∧ yX3_nextRoom.cls ≠ "java/lang/invoke/MethodHandle" ∧ yX3_nextRoom.cls ≠ "java/lang/invoke/VarHandle" ∧ (parseMethodDescriptor yX3_nextRoom.desc).map (fun d => d.parameters.length) = some 1)) ∧ Cond.code yX3_nextRoom cX3_nextRoom 3 (some .int) ∈ gw ∧ 3 ≤ 45 := ⟨gw_mem 500 (by decide +kernel) (by decide +kernel), ⟨RX3, TX3, 15, rfl, gw_mem 8 (by decide +kernel) (by decide +kernel), gw_mem 65 (by decide +kernel) (by decide +kernel), rfl, by decide +kernel, by decide +kernel, by decide +kernel⟩, gw_mem 501 (by decide +kernel) (by decide +kernel), by decide⟩
theorem ml_X3_140 : MLV RX3 140 yX3_nextRoom 3 cX3_nextRoom 3 (some .int) 1 := ⟨gw_mem 498 (by decide +kernel) (by decide +kernel), mi_X3_nextRoom⟩
theorem mi_X0_firstPlacedNeighbour : Cond.instanceMethod yX0_firstPlacedNeighbour ∈ gw ∧ (∃ C T N, vwCl[0]? = some (C, T, N) ∧ Cond.selects C yX0_firstPlacedNeighbour yX0_firstPlacedNeighbour ∈ gw ∧ Cond.initialized C ∈ gw ∧ (yX0_firstPlacedNeighbour.cls = C ∧ yX0_firstPlacedNeighbour.cls ≠ "java/lang/invoke/MethodHandle" ∧ yX0_firstPlacedNeighbour.cls ≠ "java/lang/invoke/VarHandle" ∧ (parseMethodDescriptor yX0_firstPlacedNeighbour.desc).map (fun d => d.parameters.length) = some 2)) ∧ Cond.code yX0_firstPlacedNeighbour cX0_firstPlacedNeighbour 5 (some .int) ∈ gw ∧ 5 ≤ 45 := ⟨gw_mem 503 (by decide +kernel) (by decide +kernel), ⟨RX0, TX0, 5, rfl, gw_mem 504 (by decide +kernel) (by decide +kernel), gw_mem 67 (by decide +kernel) (by decide +kernel), rfl, by decide +kernel, by decide +kernel, by decide +kernel⟩, gw_mem 505 (by decide +kernel) (by decide +kernel), by decide⟩
theorem ml_X3_156 : MLV RX3 156 yX0_firstPlacedNeighbour 0 cX0_firstPlacedNeighbour 5 (some .int) 2 := ⟨gw_mem 502 (by decide +kernel) (by decide +kernel), mi_X0_firstPlacedNeighbour⟩
theorem mi_X6_count : Cond.instanceMethod yX6_count ∈ gw ∧ (∃ C T N, vwCl[6]? = some (C, T, N) ∧ Cond.selects C yX6_count yX6_count ∈ gw ∧ Cond.initialized C ∈ gw ∧ (yX6_count.cls = C ∧ yX6_count.cls ≠ "java/lang/invoke/MethodHandle" ∧ yX6_count.cls ≠ "java/lang/invoke/VarHandle" ∧ (parseMethodDescriptor yX6_count.desc).map (fun d => d.parameters.length) = some 1)) ∧ Cond.code yX6_count cX6_count 2 (some .int) ∈ gw ∧ 2 ≤ 45 := ⟨gw_mem 507 (by decide +kernel) (by decide +kernel), ⟨RX6, TX6, 2, rfl, gw_mem 508 (by decide +kernel) (by decide +kernel), gw_mem 66 (by decide +kernel) (by decide +kernel), rfl, by decide +kernel, by decide +kernel, by decide +kernel⟩, gw_mem 509 (by decide +kernel) (by decide +kernel), by decide⟩
theorem ml_X0_19 : MLV RX0 19 yX6_count 6 cX6_count 2 (some .int) 1 := ⟨gw_mem 506 (by decide +kernel) (by decide +kernel), mi_X6_count⟩
theorem mi_X6_get : Cond.instanceMethod yX6_get ∈ gw ∧ (∃ C T N, vwCl[6]? = some (C, T, N) ∧ Cond.selects C yX6_get yX6_get ∈ gw ∧ Cond.initialized C ∈ gw ∧ (yX6_get.cls = C ∧ yX6_get.cls ≠ "java/lang/invoke/MethodHandle" ∧ yX6_get.cls ≠ "java/lang/invoke/VarHandle" ∧ (parseMethodDescriptor yX6_get.desc).map (fun d => d.parameters.length) = some 2)) ∧ Cond.code yX6_get cX6_get 3 (some .int) ∈ gw ∧ 3 ≤ 45 := ⟨gw_mem 511 (by decide +kernel) (by decide +kernel), ⟨RX6, TX6, 2, rfl, gw_mem 512 (by decide +kernel) (by decide +kernel), gw_mem 66 (by decide +kernel) (by decide +kernel), rfl, by decide +kernel, by decide +kernel, by decide +kernel⟩, gw_mem 513 (by decide +kernel) (by decide +kernel), by decide⟩
theorem ml_X0_35 : MLV RX0 35 yX6_get 6 cX6_get 3 (some .int) 2 := ⟨gw_mem 510 (by decide +kernel) (by decide +kernel), mi_X6_get⟩
theorem mi_X5_otherEnd : Cond.instanceMethod yX5_otherEnd ∈ gw ∧ (∃ C T N, vwCl[5]? = some (C, T, N) ∧ Cond.selects C yX5_otherEnd yX5_otherEnd ∈ gw ∧ Cond.initialized C ∈ gw ∧ (yX5_otherEnd.cls = C ∧ yX5_otherEnd.cls ≠ "java/lang/invoke/MethodHandle" ∧ yX5_otherEnd.cls ≠ "java/lang/invoke/VarHandle" ∧ (parseMethodDescriptor yX5_otherEnd.desc).map (fun d => d.parameters.length) = some 2)) ∧ Cond.code yX5_otherEnd cX5_otherEnd 3 (some .int) ∈ gw ∧ 3 ≤ 45 := ⟨gw_mem 515 (by decide +kernel) (by decide +kernel), ⟨RX5, TX5, 9, rfl, gw_mem 516 (by decide +kernel) (by decide +kernel), gw_mem 62 (by decide +kernel) (by decide +kernel), rfl, by decide +kernel, by decide +kernel, by decide +kernel⟩, gw_mem 517 (by decide +kernel) (by decide +kernel), by decide⟩
theorem ml_X0_45 : MLV RX0 45 yX5_otherEnd 5 cX5_otherEnd 3 (some .int) 2 := ⟨gw_mem 514 (by decide +kernel) (by decide +kernel), mi_X5_otherEnd⟩
theorem mi_X0_lookAtFirst : Cond.instanceMethod yX0_lookAtFirst ∈ gw ∧ (∃ C T N, vwCl[0]? = some (C, T, N) ∧ Cond.selects C yX0_lookAtFirst yX0_lookAtFirst ∈ gw ∧ Cond.initialized C ∈ gw ∧ (yX0_lookAtFirst.cls = C ∧ yX0_lookAtFirst.cls ≠ "java/lang/invoke/MethodHandle" ∧ yX0_lookAtFirst.cls ≠ "java/lang/invoke/VarHandle" ∧ (parseMethodDescriptor yX0_lookAtFirst.desc).map (fun d => d.parameters.length) = some 2)) ∧ Cond.code yX0_lookAtFirst cX0_lookAtFirst 4 none ∈ gw ∧ 4 ≤ 45 := ⟨gw_mem 519 (by decide +kernel) (by decide +kernel), ⟨RX0, TX0, 5, rfl, gw_mem 520 (by decide +kernel) (by decide +kernel), gw_mem 67 (by decide +kernel) (by decide +kernel), rfl, by decide +kernel, by decide +kernel, by decide +kernel⟩, gw_mem 521 (by decide +kernel) (by decide +kernel), by decide⟩
theorem ml_X3_144 : MLV RX3 144 yX0_lookAtFirst 0 cX0_lookAtFirst 4 none 2 := ⟨gw_mem 518 (by decide +kernel) (by decide +kernel), mi_X0_lookAtFirst⟩
theorem mi_X0_bound : Cond.instanceMethod yX0_bound ∈ gw ∧ (∃ C T N, vwCl[0]? = some (C, T, N) ∧ Cond.selects C yX0_bound yX0_bound ∈ gw ∧ Cond.initialized C ∈ gw ∧ (yX0_bound.cls = C ∧ yX0_bound.cls ≠ "java/lang/invoke/MethodHandle" ∧ yX0_bound.cls ≠ "java/lang/invoke/VarHandle" ∧ (parseMethodDescriptor yX0_bound.desc).map (fun d => d.parameters.length) = some 1)) ∧ Cond.code yX0_bound cX0_bound 2 (some .int) ∈ gw ∧ 2 ≤ 45 := ⟨gw_mem 523 (by decide +kernel) (by decide +kernel), ⟨RX0, TX0, 5, rfl, gw_mem 524 (by decide +kernel) (by decide +kernel), gw_mem 67 (by decide +kernel) (by decide +kernel), rfl, by decide +kernel, by decide +kernel, by decide +kernel⟩, gw_mem 525 (by decide +kernel) (by decide +kernel), by decide⟩
theorem ml_X0_76 : MLV RX0 76 yX0_bound 0 cX0_bound 2 (some .int) 1 := ⟨gw_mem 522 (by decide +kernel) (by decide +kernel), mi_X0_bound⟩
theorem mi_X0_lookAtChance : Cond.instanceMethod yX0_lookAtChance ∈ gw ∧ (∃ C T N, vwCl[0]? = some (C, T, N) ∧ Cond.selects C yX0_lookAtChance yX0_lookAtChance ∈ gw ∧ Cond.initialized C ∈ gw ∧ (yX0_lookAtChance.cls = C ∧ yX0_lookAtChance.cls ≠ "java/lang/invoke/MethodHandle" ∧ yX0_lookAtChance.cls ≠ "java/lang/invoke/VarHandle" ∧ (parseMethodDescriptor yX0_lookAtChance.desc).map (fun d => d.parameters.length) = some 3)) ∧ Cond.code yX0_lookAtChance cX0_lookAtChance 9 (some .boolean) ∈ gw ∧ 9 ≤ 45 := ⟨gw_mem 527 (by decide +kernel) (by decide +kernel), ⟨RX0, TX0, 5, rfl, gw_mem 528 (by decide +kernel) (by decide +kernel), gw_mem 67 (by decide +kernel) (by decide +kernel), rfl, by decide +kernel, by decide +kernel, by decide +kernel⟩, gw_mem 529 (by decide +kernel) (by decide +kernel), by decide⟩
theorem ml_X0_79 : MLV RX0 79 yX0_lookAtChance 0 cX0_lookAtChance 9 (some .boolean) 3 := ⟨gw_mem 526 (by decide +kernel) (by decide +kernel), mi_X0_lookAtChance⟩
theorem mi_X2_isFree : Cond.instanceMethod yX2_isFree ∈ gw ∧ (∃ C T N, vwCl[2]? = some (C, T, N) ∧ Cond.selects C yX2_isFree yX2_isFree ∈ gw ∧ Cond.initialized C ∈ gw ∧ (yX2_isFree.cls = C ∧ yX2_isFree.cls ≠ "java/lang/invoke/MethodHandle" ∧ yX2_isFree.cls ≠ "java/lang/invoke/VarHandle" ∧ (parseMethodDescriptor yX2_isFree.desc).map (fun d => d.parameters.length) = some 3)) ∧ Cond.code yX2_isFree cX2_isFree 5 (some .boolean) ∈ gw ∧ 5 ≤ 45 := ⟨gw_mem 537 (by decide +kernel) (by decide +kernel), ⟨RX2, TX2, 5, rfl, gw_mem 538 (by decide +kernel) (by decide +kernel), gw_mem 64 (by decide +kernel) (by decide +kernel), rfl, by decide +kernel, by decide +kernel, by decide +kernel⟩, gw_mem 539 (by decide +kernel) (by decide +kernel), by decide⟩
theorem ml_X0_72 : MLV RX0 72 yX2_isFree 2 cX2_isFree 5 (some .boolean) 3 := ⟨gw_mem 536 (by decide +kernel) (by decide +kernel), mi_X2_isFree⟩
theorem mi_X0_lookAtSpare : Cond.instanceMethod yX0_lookAtSpare ∈ gw ∧ (∃ C T N, vwCl[0]? = some (C, T, N) ∧ Cond.selects C yX0_lookAtSpare yX0_lookAtSpare ∈ gw ∧ Cond.initialized C ∈ gw ∧ (yX0_lookAtSpare.cls = C ∧ yX0_lookAtSpare.cls ≠ "java/lang/invoke/MethodHandle" ∧ yX0_lookAtSpare.cls ≠ "java/lang/invoke/VarHandle" ∧ (parseMethodDescriptor yX0_lookAtSpare.desc).map (fun d => d.parameters.length) = some 2)) ∧ Cond.code yX0_lookAtSpare cX0_lookAtSpare 5 none ∈ gw ∧ 5 ≤ 45 := ⟨gw_mem 541 (by decide +kernel) (by decide +kernel), ⟨RX0, TX0, 5, rfl, gw_mem 542 (by decide +kernel) (by decide +kernel), gw_mem 67 (by decide +kernel) (by decide +kernel), rfl, by decide +kernel, by decide +kernel, by decide +kernel⟩, gw_mem 543 (by decide +kernel) (by decide +kernel), by decide⟩
theorem ml_X0_83 : MLV RX0 83 yX0_lookAtSpare 0 cX0_lookAtSpare 5 none 2 := ⟨gw_mem 540 (by decide +kernel) (by decide +kernel), mi_X0_lookAtSpare⟩
theorem ml_X0_87 : MLV RX0 87 yX0_firstPlacedNeighbour 0 cX0_firstPlacedNeighbour 5 (some .int) 2 := ⟨gw_mem 544 (by decide +kernel) (by decide +kernel), mi_X0_firstPlacedNeighbour⟩
theorem mi_X0_lookAround : Cond.instanceMethod yX0_lookAround ∈ gw ∧ (∃ C T N, vwCl[0]? = some (C, T, N) ∧ Cond.selects C yX0_lookAround yX0_lookAround ∈ gw ∧ Cond.initialized C ∈ gw ∧ (yX0_lookAround.cls = C ∧ yX0_lookAround.cls ≠ "java/lang/invoke/MethodHandle" ∧ yX0_lookAround.cls ≠ "java/lang/invoke/VarHandle" ∧ (parseMethodDescriptor yX0_lookAround.desc).map (fun d => d.parameters.length) = some 4)) ∧ Cond.code yX0_lookAround cX0_lookAround 7 (some .boolean) ∈ gw ∧ 7 ≤ 45 := ⟨gw_mem 547 (by decide +kernel) (by decide +kernel), ⟨RX0, TX0, 5, rfl, gw_mem 9 (by decide +kernel) (by decide +kernel), gw_mem 67 (by decide +kernel) (by decide +kernel), rfl, by decide +kernel, by decide +kernel, by decide +kernel⟩, gw_mem 548 (by decide +kernel) (by decide +kernel), by decide⟩
theorem ml_X0_91 : MLV RX0 91 yX0_lookAround 0 cX0_lookAround 7 (some .boolean) 4 := ⟨gw_mem 545 (by decide +kernel) (by decide +kernel), mi_X0_lookAround⟩
theorem ml_X0_95 : MthL RX0 95 Lib.Math.abs.name Lib.Math.abs.code 1 := ⟨gw_mem 549 (by decide +kernel) (by decide +kernel), gw_mem 550 (by decide +kernel) (by decide +kernel), gw_mem 71 (by decide +kernel) (by decide +kernel), gw_mem 551 (by decide +kernel) (by decide +kernel)⟩
theorem mi_X3_keepTrial : Cond.instanceMethod yX3_keepTrial ∈ gw ∧ (∃ C T N, vwCl[3]? = some (C, T, N) ∧ Cond.selects C yX3_keepTrial yX3_keepTrial ∈ gw ∧ Cond.initialized C ∈ gw ∧ (yX3_keepTrial.cls = C ∧ yX3_keepTrial.cls ≠ "java/lang/invoke/MethodHandle" ∧ yX3_keepTrial.cls ≠ "java/lang/invoke/VarHandle" ∧ (parseMethodDescriptor yX3_keepTrial.desc).map (fun d => d.parameters.length) = some 0)) ∧ Cond.code yX3_keepTrial cX3_keepTrial 3 none ∈ gw ∧ 3 ≤ 45 := ⟨gw_mem 554 (by decide +kernel) (by decide +kernel), ⟨RX3, TX3, 15, rfl, gw_mem 10 (by decide +kernel) (by decide +kernel), gw_mem 65 (by decide +kernel) (by decide +kernel), rfl, by decide +kernel, by decide +kernel, by decide +kernel⟩, gw_mem 555 (by decide +kernel) (by decide +kernel), by decide⟩
theorem ml_X3_125 : MLV RX3 125 yX3_keepTrial 3 cX3_keepTrial 3 none 0 := ⟨gw_mem 552 (by decide +kernel) (by decide +kernel), mi_X3_keepTrial⟩
theorem kc_X3_130 : Cond.constant RX3 130 (Int32.ofInt 2147483647) ∈ gw := gw_mem 556 (by decide +kernel) (by decide +kernel)
theorem mi_X0_lookAtOrigin : Cond.instanceMethod yX0_lookAtOrigin ∈ gw ∧ (∃ C T N, vwCl[0]? = some (C, T, N) ∧ Cond.selects C yX0_lookAtOrigin yX0_lookAtOrigin ∈ gw ∧ Cond.initialized C ∈ gw ∧ (yX0_lookAtOrigin.cls = C ∧ yX0_lookAtOrigin.cls ≠ "java/lang/invoke/MethodHandle" ∧ yX0_lookAtOrigin.cls ≠ "java/lang/invoke/VarHandle" ∧ (parseMethodDescriptor yX0_lookAtOrigin.desc).map (fun d => d.parameters.length) = some 0)) ∧ Cond.code yX0_lookAtOrigin cX0_lookAtOrigin 1 none ∈ gw ∧ 1 ≤ 45 := ⟨gw_mem 558 (by decide +kernel) (by decide +kernel), ⟨RX0, TX0, 5, rfl, gw_mem 559 (by decide +kernel) (by decide +kernel), gw_mem 67 (by decide +kernel) (by decide +kernel), rfl, by decide +kernel, by decide +kernel, by decide +kernel⟩, gw_mem 560 (by decide +kernel) (by decide +kernel), by decide⟩
theorem ml_X3_134 : MLV RX3 134 yX0_lookAtOrigin 0 cX0_lookAtOrigin 1 none 0 := ⟨gw_mem 557 (by decide +kernel) (by decide +kernel), mi_X0_lookAtOrigin⟩
theorem mi_X3_tryHere : Cond.instanceMethod yX3_tryHere ∈ gw ∧ (∃ C T N, vwCl[3]? = some (C, T, N) ∧ Cond.selects C yX3_tryHere yX3_tryHere ∈ gw ∧ Cond.initialized C ∈ gw ∧ (yX3_tryHere.cls = C ∧ yX3_tryHere.cls ≠ "java/lang/invoke/MethodHandle" ∧ yX3_tryHere.cls ≠ "java/lang/invoke/VarHandle" ∧ (parseMethodDescriptor yX3_tryHere.desc).map (fun d => d.parameters.length) = some 1)) ∧ Cond.code yX3_tryHere cX3_tryHere 5 none ∈ gw ∧ 5 ≤ 45 := ⟨gw_mem 563 (by decide +kernel) (by decide +kernel), ⟨RX3, TX3, 15, rfl, gw_mem 11 (by decide +kernel) (by decide +kernel), gw_mem 65 (by decide +kernel) (by decide +kernel), rfl, by decide +kernel, by decide +kernel, by decide +kernel⟩, gw_mem 564 (by decide +kernel) (by decide +kernel), by decide⟩
theorem ml_X3_137 : MLV RX3 137 yX3_tryHere 3 cX3_tryHere 5 none 1 := ⟨gw_mem 561 (by decide +kernel) (by decide +kernel), mi_X3_tryHere⟩
theorem ml_X3_160 : MLV RX3 160 yX0_bound 0 cX0_bound 2 (some .int) 1 := ⟨gw_mem 565 (by decide +kernel) (by decide +kernel), mi_X0_bound⟩
theorem ml_X3_163 : MLV RX3 163 yX0_lookAtChance 0 cX0_lookAtChance 9 (some .boolean) 3 := ⟨gw_mem 566 (by decide +kernel) (by decide +kernel), mi_X0_lookAtChance⟩
theorem ml_X3_167 : MLV RX3 167 yX0_lookAtSpare 0 cX0_lookAtSpare 5 none 2 := ⟨gw_mem 567 (by decide +kernel) (by decide +kernel), mi_X0_lookAtSpare⟩
theorem mi_X3_weighTrial : Cond.instanceMethod yX3_weighTrial ∈ gw ∧ (∃ C T N, vwCl[3]? = some (C, T, N) ∧ Cond.selects C yX3_weighTrial yX3_weighTrial ∈ gw ∧ Cond.initialized C ∈ gw ∧ (yX3_weighTrial.cls = C ∧ yX3_weighTrial.cls ≠ "java/lang/invoke/MethodHandle" ∧ yX3_weighTrial.cls ≠ "java/lang/invoke/VarHandle" ∧ (parseMethodDescriptor yX3_weighTrial.desc).map (fun d => d.parameters.length) = some 0)) ∧ Cond.code yX3_weighTrial cX3_weighTrial 2 none ∈ gw ∧ 2 ≤ 45 := ⟨gw_mem 570 (by decide +kernel) (by decide +kernel), ⟨RX3, TX3, 15, rfl, gw_mem 12 (by decide +kernel) (by decide +kernel), gw_mem 65 (by decide +kernel) (by decide +kernel), rfl, by decide +kernel, by decide +kernel, by decide +kernel⟩, gw_mem 571 (by decide +kernel) (by decide +kernel), by decide⟩
theorem ml_X3_170 : MLV RX3 170 yX3_weighTrial 3 cX3_weighTrial 2 none 0 := ⟨gw_mem 568 (by decide +kernel) (by decide +kernel), mi_X3_weighTrial⟩
theorem mi_X2_costBelow : Cond.instanceMethod yX2_costBelow ∈ gw ∧ (∃ C T N, vwCl[2]? = some (C, T, N) ∧ Cond.selects C yX2_costBelow yX2_costBelow ∈ gw ∧ Cond.initialized C ∈ gw ∧ (yX2_costBelow.cls = C ∧ yX2_costBelow.cls ≠ "java/lang/invoke/MethodHandle" ∧ yX2_costBelow.cls ≠ "java/lang/invoke/VarHandle" ∧ (parseMethodDescriptor yX2_costBelow.desc).map (fun d => d.parameters.length) = some 1)) ∧ Cond.code yX2_costBelow cX2_costBelow 5 (some .int) ∈ gw ∧ 5 ≤ 45 := ⟨gw_mem 573 (by decide +kernel) (by decide +kernel), ⟨RX2, TX2, 5, rfl, gw_mem 574 (by decide +kernel) (by decide +kernel), gw_mem 64 (by decide +kernel) (by decide +kernel), rfl, by decide +kernel, by decide +kernel, by decide +kernel⟩, gw_mem 575 (by decide +kernel) (by decide +kernel), by decide⟩
theorem ml_X3_176 : MLV RX3 176 yX2_costBelow 2 cX2_costBelow 5 (some .int) 1 := ⟨gw_mem 572 (by decide +kernel) (by decide +kernel), mi_X2_costBelow⟩
theorem mi_X2_isWeighed : Cond.instanceMethod yX2_isWeighed ∈ gw ∧ (∃ C T N, vwCl[2]? = some (C, T, N) ∧ Cond.selects C yX2_isWeighed yX2_isWeighed ∈ gw ∧ Cond.initialized C ∈ gw ∧ (yX2_isWeighed.cls = C ∧ yX2_isWeighed.cls ≠ "java/lang/invoke/MethodHandle" ∧ yX2_isWeighed.cls ≠ "java/lang/invoke/VarHandle" ∧ (parseMethodDescriptor yX2_isWeighed.desc).map (fun d => d.parameters.length) = some 1)) ∧ Cond.code yX2_isWeighed cX2_isWeighed 2 (some .boolean) ∈ gw ∧ 2 ≤ 45 := ⟨gw_mem 578 (by decide +kernel) (by decide +kernel), ⟨RX2, TX2, 5, rfl, gw_mem 13 (by decide +kernel) (by decide +kernel), gw_mem 64 (by decide +kernel) (by decide +kernel), rfl, by decide +kernel, by decide +kernel, by decide +kernel⟩, gw_mem 579 (by decide +kernel) (by decide +kernel), by decide⟩
theorem ml_X2_51 : MLV RX2 51 yX2_isWeighed 2 cX2_isWeighed 2 (some .boolean) 1 := ⟨gw_mem 576 (by decide +kernel) (by decide +kernel), mi_X2_isWeighed⟩
theorem ml_X2_70 : MLV RX2 70 yX5_isLoop 5 cX5_isLoop 2 (some .boolean) 1 := ⟨gw_mem 580 (by decide +kernel) (by decide +kernel), mi_X5_isLoop⟩
theorem mi_X2_hasBothEnds : Cond.instanceMethod yX2_hasBothEnds ∈ gw ∧ (∃ C T N, vwCl[2]? = some (C, T, N) ∧ Cond.selects C yX2_hasBothEnds yX2_hasBothEnds ∈ gw ∧ Cond.initialized C ∈ gw ∧ (yX2_hasBothEnds.cls = C ∧ yX2_hasBothEnds.cls ≠ "java/lang/invoke/MethodHandle" ∧ yX2_hasBothEnds.cls ≠ "java/lang/invoke/VarHandle" ∧ (parseMethodDescriptor yX2_hasBothEnds.desc).map (fun d => d.parameters.length) = some 1)) ∧ Cond.code yX2_hasBothEnds cX2_hasBothEnds 2 (some .boolean) ∈ gw ∧ 2 ≤ 45 := ⟨gw_mem 582 (by decide +kernel) (by decide +kernel), ⟨RX2, TX2, 5, rfl, gw_mem 583 (by decide +kernel) (by decide +kernel), gw_mem 64 (by decide +kernel) (by decide +kernel), rfl, by decide +kernel, by decide +kernel, by decide +kernel⟩, gw_mem 584 (by decide +kernel) (by decide +kernel), by decide⟩
theorem ml_X2_73 : MLV RX2 73 yX2_hasBothEnds 2 cX2_hasBothEnds 2 (some .boolean) 1 := ⟨gw_mem 581 (by decide +kernel) (by decide +kernel), mi_X2_hasBothEnds⟩
theorem mi_X2_straightLength : Cond.instanceMethod yX2_straightLength ∈ gw ∧ (∃ C T N, vwCl[2]? = some (C, T, N) ∧ Cond.selects C yX2_straightLength yX2_straightLength ∈ gw ∧ Cond.initialized C ∈ gw ∧ (yX2_straightLength.cls = C ∧ yX2_straightLength.cls ≠ "java/lang/invoke/MethodHandle" ∧ yX2_straightLength.cls ≠ "java/lang/invoke/VarHandle" ∧ (parseMethodDescriptor yX2_straightLength.desc).map (fun d => d.parameters.length) = some 1)) ∧ Cond.code yX2_straightLength cX2_straightLength 7 (some .int) ∈ gw ∧ 7 ≤ 45 := ⟨gw_mem 586 (by decide +kernel) (by decide +kernel), ⟨RX2, TX2, 5, rfl, gw_mem 587 (by decide +kernel) (by decide +kernel), gw_mem 64 (by decide +kernel) (by decide +kernel), rfl, by decide +kernel, by decide +kernel, by decide +kernel⟩, gw_mem 588 (by decide +kernel) (by decide +kernel), by decide⟩
theorem ml_X2_55 : MLV RX2 55 yX2_straightLength 2 cX2_straightLength 7 (some .int) 1 := ⟨gw_mem 585 (by decide +kernel) (by decide +kernel), mi_X2_straightLength⟩
theorem mi_X2_distance : Cond.instanceMethod yX2_distance ∈ gw ∧ (∃ C T N, vwCl[2]? = some (C, T, N) ∧ Cond.selects C yX2_distance yX2_distance ∈ gw ∧ Cond.initialized C ∈ gw ∧ (yX2_distance.cls = C ∧ yX2_distance.cls ≠ "java/lang/invoke/MethodHandle" ∧ yX2_distance.cls ≠ "java/lang/invoke/VarHandle" ∧ (parseMethodDescriptor yX2_distance.desc).map (fun d => d.parameters.length) = some 3)) ∧ Cond.code yX2_distance cX2_distance 8 (some .int) ∈ gw ∧ 8 ≤ 45 := ⟨gw_mem 591 (by decide +kernel) (by decide +kernel), ⟨RX2, TX2, 5, rfl, gw_mem 14 (by decide +kernel) (by decide +kernel), gw_mem 64 (by decide +kernel) (by decide +kernel), rfl, by decide +kernel, by decide +kernel, by decide +kernel⟩, gw_mem 592 (by decide +kernel) (by decide +kernel), by decide⟩
theorem ml_X2_44 : MLV RX2 44 yX2_distance 2 cX2_distance 8 (some .int) 3 := ⟨gw_mem 589 (by decide +kernel) (by decide +kernel), mi_X2_distance⟩
theorem mi_X2_lift : Cond.instanceMethod yX2_lift ∈ gw ∧ (∃ C T N, vwCl[2]? = some (C, T, N) ∧ Cond.selects C yX2_lift yX2_lift ∈ gw ∧ Cond.initialized C ∈ gw ∧ (yX2_lift.cls = C ∧ yX2_lift.cls ≠ "java/lang/invoke/MethodHandle" ∧ yX2_lift.cls ≠ "java/lang/invoke/VarHandle" ∧ (parseMethodDescriptor yX2_lift.desc).map (fun d => d.parameters.length) = some 1)) ∧ Cond.code yX2_lift cX2_lift 2 none ∈ gw ∧ 2 ≤ 45 := ⟨gw_mem 597 (by decide +kernel) (by decide +kernel), ⟨RX2, TX2, 5, rfl, gw_mem 598 (by decide +kernel) (by decide +kernel), gw_mem 64 (by decide +kernel) (by decide +kernel), rfl, by decide +kernel, by decide +kernel, by decide +kernel⟩, gw_mem 599 (by decide +kernel) (by decide +kernel), by decide⟩
theorem ml_X3_173 : MLV RX3 173 yX2_lift 2 cX2_lift 2 none 1 := ⟨gw_mem 596 (by decide +kernel) (by decide +kernel), mi_X2_lift⟩
theorem mi_X3_moveBehind : Cond.instanceMethod yX3_moveBehind ∈ gw ∧ (∃ C T N, vwCl[3]? = some (C, T, N) ∧ Cond.selects C yX3_moveBehind yX3_moveBehind ∈ gw ∧ Cond.initialized C ∈ gw ∧ (yX3_moveBehind.cls = C ∧ yX3_moveBehind.cls ≠ "java/lang/invoke/MethodHandle" ∧ yX3_moveBehind.cls ≠ "java/lang/invoke/VarHandle" ∧ (parseMethodDescriptor yX3_moveBehind.desc).map (fun d => d.parameters.length) = some 1)) ∧ Cond.code yX3_moveBehind cX3_moveBehind 6 (some .int) ∈ gw ∧ 6 ≤ 45 := ⟨gw_mem 602 (by decide +kernel) (by decide +kernel), ⟨RX3, TX3, 15, rfl, gw_mem 15 (by decide +kernel) (by decide +kernel), gw_mem 65 (by decide +kernel) (by decide +kernel), rfl, by decide +kernel, by decide +kernel, by decide +kernel⟩, gw_mem 603 (by decide +kernel) (by decide +kernel), by decide⟩
theorem ml_X3_99 : MLV RX3 99 yX3_moveBehind 3 cX3_moveBehind 6 (some .int) 1 := ⟨gw_mem 600 (by decide +kernel) (by decide +kernel), mi_X3_moveBehind⟩
theorem ml_X3_183 : MthL RX3 183 Lib.Math.min.name Lib.Math.min.code 2 := ⟨gw_mem 604 (by decide +kernel) (by decide +kernel), gw_mem 462 (by decide +kernel) (by decide +kernel), gw_mem 71 (by decide +kernel) (by decide +kernel), gw_mem 463 (by decide +kernel) (by decide +kernel)⟩
theorem ml_X3_189 : MthL RX3 189 Lib.Math.max.name Lib.Math.max.code 2 := ⟨gw_mem 605 (by decide +kernel) (by decide +kernel), gw_mem 606 (by decide +kernel) (by decide +kernel), gw_mem 71 (by decide +kernel) (by decide +kernel), gw_mem 607 (by decide +kernel) (by decide +kernel)⟩
theorem mi_X2_bentLinks : Cond.instanceMethod yX2_bentLinks ∈ gw ∧ (∃ C T N, vwCl[2]? = some (C, T, N) ∧ Cond.selects C yX2_bentLinks yX2_bentLinks ∈ gw ∧ Cond.initialized C ∈ gw ∧ (yX2_bentLinks.cls = C ∧ yX2_bentLinks.cls ≠ "java/lang/invoke/MethodHandle" ∧ yX2_bentLinks.cls ≠ "java/lang/invoke/VarHandle" ∧ (parseMethodDescriptor yX2_bentLinks.desc).map (fun d => d.parameters.length) = some 0)) ∧ Cond.code yX2_bentLinks cX2_bentLinks 3 (some .int) ∈ gw ∧ 3 ≤ 45 := ⟨gw_mem 609 (by decide +kernel) (by decide +kernel), ⟨RX2, TX2, 5, rfl, gw_mem 610 (by decide +kernel) (by decide +kernel), gw_mem 64 (by decide +kernel) (by decide +kernel), rfl, by decide +kernel, by decide +kernel, by decide +kernel⟩, gw_mem 611 (by decide +kernel) (by decide +kernel), by decide⟩
theorem ml_X8_143 : MLV RX8 143 yX2_bentLinks 2 cX2_bentLinks 3 (some .int) 0 := ⟨gw_mem 608 (by decide +kernel) (by decide +kernel), mi_X2_bentLinks⟩
theorem mi_X3_growAll : Cond.instanceMethod yX3_growAll ∈ gw ∧ (∃ C T N, vwCl[3]? = some (C, T, N) ∧ Cond.selects C yX3_growAll yX3_growAll ∈ gw ∧ Cond.initialized C ∈ gw ∧ (yX3_growAll.cls = C ∧ yX3_growAll.cls ≠ "java/lang/invoke/MethodHandle" ∧ yX3_growAll.cls ≠ "java/lang/invoke/VarHandle" ∧ (parseMethodDescriptor yX3_growAll.desc).map (fun d => d.parameters.length) = some 0)) ∧ Cond.code yX3_growAll cX3_growAll 3 none ∈ gw ∧ 3 ≤ 45 := ⟨gw_mem 617 (by decide +kernel) (by decide +kernel), ⟨RX3, TX3, 15, rfl, gw_mem 618 (by decide +kernel) (by decide +kernel), gw_mem 65 (by decide +kernel) (by decide +kernel), rfl, by decide +kernel, by decide +kernel, by decide +kernel⟩, gw_mem 619 (by decide +kernel) (by decide +kernel), by decide⟩
theorem ml_X8_147 : MLV RX8 147 yX3_growAll 3 cX3_growAll 3 none 0 := ⟨gw_mem 616 (by decide +kernel) (by decide +kernel), mi_X3_growAll⟩
theorem mi_X2_count : Cond.instanceMethod yX2_count ∈ gw ∧ (∃ C T N, vwCl[2]? = some (C, T, N) ∧ Cond.selects C yX2_count yX2_count ∈ gw ∧ Cond.initialized C ∈ gw ∧ (yX2_count.cls = C ∧ yX2_count.cls ≠ "java/lang/invoke/MethodHandle" ∧ yX2_count.cls ≠ "java/lang/invoke/VarHandle" ∧ (parseMethodDescriptor yX2_count.desc).map (fun d => d.parameters.length) = some 0)) ∧ Cond.code yX2_count cX2_count 3 (some .int) ∈ gw ∧ 3 ≤ 45 := ⟨gw_mem 621 (by decide +kernel) (by decide +kernel), ⟨RX2, TX2, 5, rfl, gw_mem 622 (by decide +kernel) (by decide +kernel), gw_mem 64 (by decide +kernel) (by decide +kernel), rfl, by decide +kernel, by decide +kernel, by decide +kernel⟩, gw_mem 623 (by decide +kernel) (by decide +kernel), by decide⟩
theorem ml_X3_110 : MLV RX3 110 yX2_count 2 cX2_count 3 (some .int) 0 := ⟨gw_mem 620 (by decide +kernel) (by decide +kernel), mi_X2_count⟩
theorem mi_X2_highest : Cond.instanceMethod yX2_highest ∈ gw ∧ (∃ C T N, vwCl[2]? = some (C, T, N) ∧ Cond.selects C yX2_highest yX2_highest ∈ gw ∧ Cond.initialized C ∈ gw ∧ (yX2_highest.cls = C ∧ yX2_highest.cls ≠ "java/lang/invoke/MethodHandle" ∧ yX2_highest.cls ≠ "java/lang/invoke/VarHandle" ∧ (parseMethodDescriptor yX2_highest.desc).map (fun d => d.parameters.length) = some 1)) ∧ Cond.code yX2_highest cX2_highest 4 (some .int) ∈ gw ∧ 4 ≤ 45 := ⟨gw_mem 625 (by decide +kernel) (by decide +kernel), ⟨RX2, TX2, 5, rfl, gw_mem 626 (by decide +kernel) (by decide +kernel), gw_mem 64 (by decide +kernel) (by decide +kernel), rfl, by decide +kernel, by decide +kernel, by decide +kernel⟩, gw_mem 627 (by decide +kernel) (by decide +kernel), by decide⟩
theorem ml_X3_117 : MLV RX3 117 yX2_highest 2 cX2_highest 4 (some .int) 1 := ⟨gw_mem 624 (by decide +kernel) (by decide +kernel), mi_X2_highest⟩
theorem mi_X3_leastness : Cond.instanceMethod yX3_leastness ∈ gw ∧ (∃ C T N, vwCl[3]? = some (C, T, N) ∧ Cond.selects C yX3_leastness yX3_leastness ∈ gw ∧ Cond.initialized C ∈ gw ∧ (yX3_leastness.cls = C ∧ yX3_leastness.cls ≠ "java/lang/invoke/MethodHandle" ∧ yX3_leastness.cls ≠ "java/lang/invoke/VarHandle" ∧ (parseMethodDescriptor yX3_leastness.desc).map (fun d => d.parameters.length) = some 1)) ∧ Cond.code yX3_leastness cX3_leastness 2 (some .int) ∈ gw ∧ 2 ≤ 45 := ⟨gw_mem 633 (by decide +kernel) (by decide +kernel), ⟨RX3, TX3, 15, rfl, gw_mem 634 (by decide +kernel) (by decide +kernel), gw_mem 65 (by decide +kernel) (by decide +kernel), rfl, by decide +kernel, by decide +kernel, by decide +kernel⟩, gw_mem 635 (by decide +kernel) (by decide +kernel), by decide⟩
theorem ml_X8_150 : MLV RX8 150 yX3_leastness 3 cX3_leastness 2 (some .int) 1 := ⟨gw_mem 632 (by decide +kernel) (by decide +kernel), mi_X3_leastness⟩
theorem ml_X8_168 : MLV RX8 168 yX2_hasBothEnds 2 cX2_hasBothEnds 2 (some .boolean) 1 := ⟨gw_mem 648 (by decide +kernel) (by decide +kernel), mi_X2_hasBothEnds⟩
theorem ml_X8_171 : MLV RX8 171 yX2_straightLength 2 cX2_straightLength 7 (some .int) 1 := ⟨gw_mem 649 (by decide +kernel) (by decide +kernel), mi_X2_straightLength⟩
theorem kc_X8_176 : Cond.constant RX8 176 (Int32.ofInt 2147483647) ∈ gw := gw_mem 654 (by decide +kernel) (by decide +kernel)
theorem ml_X8_177 : MLV RX8 177 yX2_costBelow 2 cX2_costBelow 5 (some .int) 1 := ⟨gw_mem 655 (by decide +kernel) (by decide +kernel), mi_X2_costBelow⟩
theorem mi_X7_wayLength : Cond.instanceMethod yX7_wayLength ∈ gw ∧ (∃ C T N, vwCl[7]? = some (C, T, N) ∧ Cond.selects C yX7_wayLength yX7_wayLength ∈ gw ∧ Cond.initialized C ∈ gw ∧ (yX7_wayLength.cls = C ∧ yX7_wayLength.cls ≠ "java/lang/invoke/MethodHandle" ∧ yX7_wayLength.cls ≠ "java/lang/invoke/VarHandle" ∧ (parseMethodDescriptor yX7_wayLength.desc).map (fun d => d.parameters.length) = some 2)) ∧ Cond.code yX7_wayLength cX7_wayLength 3 (some .int) ∈ gw ∧ 3 ≤ 45 := ⟨gw_mem 661 (by decide +kernel) (by decide +kernel), ⟨RX7, TX7, 2, rfl, gw_mem 662 (by decide +kernel) (by decide +kernel), gw_mem 68 (by decide +kernel) (by decide +kernel), rfl, by decide +kernel, by decide +kernel, by decide +kernel⟩, gw_mem 663 (by decide +kernel) (by decide +kernel), by decide⟩
theorem ml_X8_180 : MLV RX8 180 yX7_wayLength 7 cX7_wayLength 3 (some .int) 2 := ⟨gw_mem 660 (by decide +kernel) (by decide +kernel), mi_X7_wayLength⟩
theorem mi_X7_measure : Cond.instanceMethod yX7_measure ∈ gw ∧ (∃ C T N, vwCl[7]? = some (C, T, N) ∧ Cond.selects C yX7_measure yX7_measure ∈ gw ∧ Cond.initialized C ∈ gw ∧ (yX7_measure.cls = C ∧ yX7_measure.cls ≠ "java/lang/invoke/MethodHandle" ∧ yX7_measure.cls ≠ "java/lang/invoke/VarHandle" ∧ (parseMethodDescriptor yX7_measure.desc).map (fun d => d.parameters.length) = some 1)) ∧ Cond.code yX7_measure cX7_measure 4 none ∈ gw ∧ 4 ≤ 45 := ⟨gw_mem 666 (by decide +kernel) (by decide +kernel), ⟨RX7, TX7, 2, rfl, gw_mem 16 (by decide +kernel) (by decide +kernel), gw_mem 68 (by decide +kernel) (by decide +kernel), rfl, by decide +kernel, by decide +kernel, by decide +kernel⟩, gw_mem 667 (by decide +kernel) (by decide +kernel), by decide⟩
theorem ml_X7_19 : MLV RX7 19 yX7_measure 7 cX7_measure 4 none 1 := ⟨gw_mem 664 (by decide +kernel) (by decide +kernel), mi_X7_measure⟩
theorem mi_X7_shortenAll : Cond.instanceMethod yX7_shortenAll ∈ gw ∧ (∃ C T N, vwCl[7]? = some (C, T, N) ∧ Cond.selects C yX7_shortenAll yX7_shortenAll ∈ gw ∧ Cond.initialized C ∈ gw ∧ (yX7_shortenAll.cls = C ∧ yX7_shortenAll.cls ≠ "java/lang/invoke/MethodHandle" ∧ yX7_shortenAll.cls ≠ "java/lang/invoke/VarHandle" ∧ (parseMethodDescriptor yX7_shortenAll.desc).map (fun d => d.parameters.length) = some 0)) ∧ Cond.code yX7_shortenAll cX7_shortenAll 3 (some .boolean) ∈ gw ∧ 3 ≤ 45 := ⟨gw_mem 670 (by decide +kernel) (by decide +kernel), ⟨RX7, TX7, 2, rfl, gw_mem 17 (by decide +kernel) (by decide +kernel), gw_mem 68 (by decide +kernel) (by decide +kernel), rfl, by decide +kernel, by decide +kernel, by decide +kernel⟩, gw_mem 671 (by decide +kernel) (by decide +kernel), by decide⟩
theorem ml_X7_40 : MLV RX7 40 yX7_shortenAll 7 cX7_shortenAll 3 (some .boolean) 0 := ⟨gw_mem 668 (by decide +kernel) (by decide +kernel), mi_X7_shortenAll⟩
theorem mi_X7_shorten : Cond.instanceMethod yX7_shorten ∈ gw ∧ (∃ C T N, vwCl[7]? = some (C, T, N) ∧ Cond.selects C yX7_shorten yX7_shorten ∈ gw ∧ Cond.initialized C ∈ gw ∧ (yX7_shorten.cls = C ∧ yX7_shorten.cls ≠ "java/lang/invoke/MethodHandle" ∧ yX7_shorten.cls ≠ "java/lang/invoke/VarHandle" ∧ (parseMethodDescriptor yX7_shorten.desc).map (fun d => d.parameters.length) = some 2)) ∧ Cond.code yX7_shorten cX7_shorten 3 (some .boolean) ∈ gw ∧ 3 ≤ 45 := ⟨gw_mem 674 (by decide +kernel) (by decide +kernel), ⟨RX7, TX7, 2, rfl, gw_mem 18 (by decide +kernel) (by decide +kernel), gw_mem 68 (by decide +kernel) (by decide +kernel), rfl, by decide +kernel, by decide +kernel, by decide +kernel⟩, gw_mem 675 (by decide +kernel) (by decide +kernel), by decide⟩
theorem ml_X7_53 : MLV RX7 53 yX7_shorten 7 cX7_shorten 3 (some .boolean) 2 := ⟨gw_mem 672 (by decide +kernel) (by decide +kernel), mi_X7_shorten⟩
theorem mi_X7_wayDirection : Cond.instanceMethod yX7_wayDirection ∈ gw ∧ (∃ C T N, vwCl[7]? = some (C, T, N) ∧ Cond.selects C yX7_wayDirection yX7_wayDirection ∈ gw ∧ Cond.initialized C ∈ gw ∧ (yX7_wayDirection.cls = C ∧ yX7_wayDirection.cls ≠ "java/lang/invoke/MethodHandle" ∧ yX7_wayDirection.cls ≠ "java/lang/invoke/VarHandle" ∧ (parseMethodDescriptor yX7_wayDirection.desc).map (fun d => d.parameters.length) = some 3)) ∧ Cond.code yX7_wayDirection cX7_wayDirection 8 (some .int) ∈ gw ∧ 8 ≤ 45 := ⟨gw_mem 681 (by decide +kernel) (by decide +kernel), ⟨RX7, TX7, 2, rfl, gw_mem 682 (by decide +kernel) (by decide +kernel), gw_mem 68 (by decide +kernel) (by decide +kernel), rfl, by decide +kernel, by decide +kernel, by decide +kernel⟩, gw_mem 683 (by decide +kernel) (by decide +kernel), by decide⟩
theorem ml_X8_183 : MLV RX8 183 yX7_wayDirection 7 cX7_wayDirection 8 (some .int) 3 := ⟨gw_mem 680 (by decide +kernel) (by decide +kernel), mi_X7_wayDirection⟩
theorem ml_X7_23 : MLV RX7 23 yX7_wayLength 7 cX7_wayLength 3 (some .int) 2 := ⟨gw_mem 684 (by decide +kernel) (by decide +kernel), mi_X7_wayLength⟩
theorem mi_X7_leastGoodDirection : Cond.instanceMethod yX7_leastGoodDirection ∈ gw ∧ (∃ C T N, vwCl[7]? = some (C, T, N) ∧ Cond.selects C yX7_leastGoodDirection yX7_leastGoodDirection ∈ gw ∧ Cond.initialized C ∈ gw ∧ (yX7_leastGoodDirection.cls = C ∧ yX7_leastGoodDirection.cls ≠ "java/lang/invoke/MethodHandle" ∧ yX7_leastGoodDirection.cls ≠ "java/lang/invoke/VarHandle" ∧ (parseMethodDescriptor yX7_leastGoodDirection.desc).map (fun d => d.parameters.length) = some 1)) ∧ Cond.code yX7_leastGoodDirection cX7_leastGoodDirection 4 (some .int) ∈ gw ∧ 4 ≤ 45 := ⟨gw_mem 687 (by decide +kernel) (by decide +kernel), ⟨RX7, TX7, 2, rfl, gw_mem 19 (by decide +kernel) (by decide +kernel), gw_mem 68 (by decide +kernel) (by decide +kernel), rfl, by decide +kernel, by decide +kernel, by decide +kernel⟩, gw_mem 688 (by decide +kernel) (by decide +kernel), by decide⟩
theorem ml_X7_27 : MLV RX7 27 yX7_leastGoodDirection 7 cX7_leastGoodDirection 4 (some .int) 1 := ⟨gw_mem 685 (by decide +kernel) (by decide +kernel), mi_X7_leastGoodDirection⟩
theorem ml_X7_31 : MLV RX7 31 yX5_beyond 5 cX5_beyond 4 (some .int) 2 := ⟨gw_mem 689 (by decide +kernel) (by decide +kernel), mi_X5_beyond⟩
theorem mi_X4_signAt : Cond.instanceMethod yX4_signAt ∈ gw ∧ (∃ C T N, vwCl[4]? = some (C, T, N) ∧ Cond.selects C yX4_signAt yX4_signAt ∈ gw ∧ Cond.initialized C ∈ gw ∧ (yX4_signAt.cls = C ∧ yX4_signAt.cls ≠ "java/lang/invoke/MethodHandle" ∧ yX4_signAt.cls ≠ "java/lang/invoke/VarHandle" ∧ (parseMethodDescriptor yX4_signAt.desc).map (fun d => d.parameters.length) = some 3)) ∧ Cond.code yX4_signAt cX4_signAt 5 (some .int) ∈ gw ∧ 5 ≤ 45 := ⟨gw_mem 695 (by decide +kernel) (by decide +kernel), ⟨RX4, TX4, 4, rfl, gw_mem 696 (by decide +kernel) (by decide +kernel), gw_mem 69 (by decide +kernel) (by decide +kernel), rfl, by decide +kernel, by decide +kernel, by decide +kernel⟩, gw_mem 697 (by decide +kernel) (by decide +kernel), by decide⟩
theorem ml_X8_186 : MLV RX8 186 yX4_signAt 4 cX4_signAt 5 (some .int) 3 := ⟨gw_mem 694 (by decide +kernel) (by decide +kernel), mi_X4_signAt⟩
theorem mi_X2_lowest : Cond.instanceMethod yX2_lowest ∈ gw ∧ (∃ C T N, vwCl[2]? = some (C, T, N) ∧ Cond.selects C yX2_lowest yX2_lowest ∈ gw ∧ Cond.initialized C ∈ gw ∧ (yX2_lowest.cls = C ∧ yX2_lowest.cls ≠ "java/lang/invoke/MethodHandle" ∧ yX2_lowest.cls ≠ "java/lang/invoke/VarHandle" ∧ (parseMethodDescriptor yX2_lowest.desc).map (fun d => d.parameters.length) = some 1)) ∧ Cond.code yX2_lowest cX2_lowest 4 (some .int) ∈ gw ∧ 4 ≤ 45 := ⟨gw_mem 699 (by decide +kernel) (by decide +kernel), ⟨RX2, TX2, 5, rfl, gw_mem 700 (by decide +kernel) (by decide +kernel), gw_mem 64 (by decide +kernel) (by decide +kernel), rfl, by decide +kernel, by decide +kernel, by decide +kernel⟩, gw_mem 701 (by decide +kernel) (by decide +kernel), by decide⟩
theorem ml_X4_25 : MLV RX4 25 yX2_lowest 2 cX2_lowest 4 (some .int) 1 := ⟨gw_mem 698 (by decide +kernel) (by decide +kernel), mi_X2_lowest⟩
theorem mi_X4_letterAt : Cond.instanceMethod yX4_letterAt ∈ gw ∧ (∃ C T N, vwCl[4]? = some (C, T, N) ∧ Cond.selects C yX4_letterAt yX4_letterAt ∈ gw ∧ Cond.initialized C ∈ gw ∧ (yX4_letterAt.cls = C ∧ yX4_letterAt.cls ≠ "java/lang/invoke/MethodHandle" ∧ yX4_letterAt.cls ≠ "java/lang/invoke/VarHandle" ∧ (parseMethodDescriptor yX4_letterAt.desc).map (fun d => d.parameters.length) = some 3)) ∧ Cond.code yX4_letterAt cX4_letterAt 5 (some .int) ∈ gw ∧ 5 ≤ 45 := ⟨gw_mem 704 (by decide +kernel) (by decide +kernel), ⟨RX4, TX4, 4, rfl, gw_mem 20 (by decide +kernel) (by decide +kernel), gw_mem 69 (by decide +kernel) (by decide +kernel), rfl, by decide +kernel, by decide +kernel, by decide +kernel⟩, gw_mem 705 (by decide +kernel) (by decide +kernel), by decide⟩
theorem ml_X4_39 : MLV RX4 39 yX4_letterAt 4 cX4_letterAt 5 (some .int) 3 := ⟨gw_mem 702 (by decide +kernel) (by decide +kernel), mi_X4_letterAt⟩
theorem mi_X4_isInRow : Cond.instanceMethod yX4_isInRow ∈ gw ∧ (∃ C T N, vwCl[4]? = some (C, T, N) ∧ Cond.selects C yX4_isInRow yX4_isInRow ∈ gw ∧ Cond.initialized C ∈ gw ∧ (yX4_isInRow.cls = C ∧ yX4_isInRow.cls ≠ "java/lang/invoke/MethodHandle" ∧ yX4_isInRow.cls ≠ "java/lang/invoke/VarHandle" ∧ (parseMethodDescriptor yX4_isInRow.desc).map (fun d => d.parameters.length) = some 3)) ∧ Cond.code yX4_isInRow cX4_isInRow 4 (some .boolean) ∈ gw ∧ 4 ≤ 45 := ⟨gw_mem 708 (by decide +kernel) (by decide +kernel), ⟨RX4, TX4, 4, rfl, gw_mem 21 (by decide +kernel) (by decide +kernel), gw_mem 69 (by decide +kernel) (by decide +kernel), rfl, by decide +kernel, by decide +kernel, by decide +kernel⟩, gw_mem 709 (by decide +kernel) (by decide +kernel), by decide⟩
theorem ml_X4_54 : MLV RX4 54 yX4_isInRow 4 cX4_isInRow 4 (some .boolean) 3 := ⟨gw_mem 706 (by decide +kernel) (by decide +kernel), mi_X4_isInRow⟩
theorem mi_X4_rowOf : Cond.instanceMethod yX4_rowOf ∈ gw ∧ (∃ C T N, vwCl[4]? = some (C, T, N) ∧ Cond.selects C yX4_rowOf yX4_rowOf ∈ gw ∧ Cond.initialized C ∈ gw ∧ (yX4_rowOf.cls = C ∧ yX4_rowOf.cls ≠ "java/lang/invoke/MethodHandle" ∧ yX4_rowOf.cls ≠ "java/lang/invoke/VarHandle" ∧ (parseMethodDescriptor yX4_rowOf.desc).map (fun d => d.parameters.length) = some 1)) ∧ Cond.code yX4_rowOf cX4_rowOf 2 (some .int) ∈ gw ∧ 2 ≤ 45 := ⟨gw_mem 712 (by decide +kernel) (by decide +kernel), ⟨RX4, TX4, 4, rfl, gw_mem 22 (by decide +kernel) (by decide +kernel), gw_mem 69 (by decide +kernel) (by decide +kernel), rfl, by decide +kernel, by decide +kernel, by decide +kernel⟩, gw_mem 713 (by decide +kernel) (by decide +kernel), by decide⟩
theorem ml_X4_103 : MLV RX4 103 yX4_rowOf 4 cX4_rowOf 2 (some .int) 1 := ⟨gw_mem 710 (by decide +kernel) (by decide +kernel), mi_X4_rowOf⟩
theorem mi_X4_columnOf : Cond.instanceMethod yX4_columnOf ∈ gw ∧ (∃ C T N, vwCl[4]? = some (C, T, N) ∧ Cond.selects C yX4_columnOf yX4_columnOf ∈ gw ∧ Cond.initialized C ∈ gw ∧ (yX4_columnOf.cls = C ∧ yX4_columnOf.cls ≠ "java/lang/invoke/MethodHandle" ∧ yX4_columnOf.cls ≠ "java/lang/invoke/VarHandle" ∧ (parseMethodDescriptor yX4_columnOf.desc).map (fun d => d.parameters.length) = some 1)) ∧ Cond.code yX4_columnOf cX4_columnOf 2 (some .int) ∈ gw ∧ 2 ≤ 45 := ⟨gw_mem 716 (by decide +kernel) (by decide +kernel), ⟨RX4, TX4, 4, rfl, gw_mem 23 (by decide +kernel) (by decide +kernel), gw_mem 69 (by decide +kernel) (by decide +kernel), rfl, by decide +kernel, by decide +kernel, by decide +kernel⟩, gw_mem 717 (by decide +kernel) (by decide +kernel), by decide⟩
theorem ml_X4_58 : MLV RX4 58 yX4_columnOf 4 cX4_columnOf 2 (some .int) 1 := ⟨gw_mem 714 (by decide +kernel) (by decide +kernel), mi_X4_columnOf⟩
theorem mi_X4_columnBehind : Cond.instanceMethod yX4_columnBehind ∈ gw ∧ (∃ C T N, vwCl[4]? = some (C, T, N) ∧ Cond.selects C yX4_columnBehind yX4_columnBehind ∈ gw ∧ Cond.initialized C ∈ gw ∧ (yX4_columnBehind.cls = C ∧ yX4_columnBehind.cls ≠ "java/lang/invoke/MethodHandle" ∧ yX4_columnBehind.cls ≠ "java/lang/invoke/VarHandle" ∧ (parseMethodDescriptor yX4_columnBehind.desc).map (fun d => d.parameters.length) = some 1)) ∧ Cond.code yX4_columnBehind cX4_columnBehind 2 (some .int) ∈ gw ∧ 2 ≤ 45 := ⟨gw_mem 720 (by decide +kernel) (by decide +kernel), ⟨RX4, TX4, 4, rfl, gw_mem 24 (by decide +kernel) (by decide +kernel), gw_mem 69 (by decide +kernel) (by decide +kernel), rfl, by decide +kernel, by decide +kernel, by decide +kernel⟩, gw_mem 721 (by decide +kernel) (by decide +kernel), by decide⟩
theorem ml_X4_62 : MLV RX4 62 yX4_columnBehind 4 cX4_columnBehind 2 (some .int) 1 := ⟨gw_mem 718 (by decide +kernel) (by decide +kernel), mi_X4_columnBehind⟩
theorem mi_X4_stairsAt : Cond.instanceMethod yX4_stairsAt ∈ gw ∧ (∃ C T N, vwCl[4]? = some (C, T, N) ∧ Cond.selects C yX4_stairsAt yX4_stairsAt ∈ gw ∧ Cond.initialized C ∈ gw ∧ (yX4_stairsAt.cls = C ∧ yX4_stairsAt.cls ≠ "java/lang/invoke/MethodHandle" ∧ yX4_stairsAt.cls ≠ "java/lang/invoke/VarHandle" ∧ (parseMethodDescriptor yX4_stairsAt.desc).map (fun d => d.parameters.length) = some 3)) ∧ Cond.code yX4_stairsAt cX4_stairsAt 6 (some .int) ∈ gw ∧ 6 ≤ 45 := ⟨gw_mem 724 (by decide +kernel) (by decide +kernel), ⟨RX4, TX4, 4, rfl, gw_mem 25 (by decide +kernel) (by decide +kernel), gw_mem 69 (by decide +kernel) (by decide +kernel), rfl, by decide +kernel, by decide +kernel, by decide +kernel⟩, gw_mem 725 (by decide +kernel) (by decide +kernel), by decide⟩
theorem ml_X4_43 : MLV RX4 43 yX4_stairsAt 4 cX4_stairsAt 6 (some .int) 3 := ⟨gw_mem 722 (by decide +kernel) (by decide +kernel), mi_X4_stairsAt⟩
theorem ml_X4_65 : MLV RX4 65 yX5_leading 5 cX5_leading 4 (some .int) 2 := ⟨gw_mem 726 (by decide +kernel) (by decide +kernel), mi_X5_leading⟩
theorem mi_X4_lineAt : Cond.instanceMethod yX4_lineAt ∈ gw ∧ (∃ C T N, vwCl[4]? = some (C, T, N) ∧ Cond.selects C yX4_lineAt yX4_lineAt ∈ gw ∧ Cond.initialized C ∈ gw ∧ (yX4_lineAt.cls = C ∧ yX4_lineAt.cls ≠ "java/lang/invoke/MethodHandle" ∧ yX4_lineAt.cls ≠ "java/lang/invoke/VarHandle" ∧ (parseMethodDescriptor yX4_lineAt.desc).map (fun d => d.parameters.length) = some 3)) ∧ Cond.code yX4_lineAt cX4_lineAt 6 (some .int) ∈ gw ∧ 6 ≤ 45 := ⟨gw_mem 729 (by decide +kernel) (by decide +kernel), ⟨RX4, TX4, 4, rfl, gw_mem 26 (by decide +kernel) (by decide +kernel), gw_mem 69 (by decide +kernel) (by decide +kernel), rfl, by decide +kernel, by decide +kernel, by decide +kernel⟩, gw_mem 730 (by decide +kernel) (by decide +kernel), by decide⟩
theorem ml_X4_46 : MLV RX4 46 yX4_lineAt 4 cX4_lineAt 6 (some .int) 3 := ⟨gw_mem 727 (by decide +kernel) (by decide +kernel), mi_X4_lineAt⟩
theorem ml_X4_75 : MLV RX4 75 yX2_hasBothEnds 2 cX2_hasBothEnds 2 (some .boolean) 1 := ⟨gw_mem 731 (by decide +kernel) (by decide +kernel), mi_X2_hasBothEnds⟩
theorem mi_X4_isOnLine : Cond.instanceMethod yX4_isOnLine ∈ gw ∧ (∃ C T N, vwCl[4]? = some (C, T, N) ∧ Cond.selects C yX4_isOnLine yX4_isOnLine ∈ gw ∧ Cond.initialized C ∈ gw ∧ (yX4_isOnLine.cls = C ∧ yX4_isOnLine.cls ≠ "java/lang/invoke/MethodHandle" ∧ yX4_isOnLine.cls ≠ "java/lang/invoke/VarHandle" ∧ (parseMethodDescriptor yX4_isOnLine.desc).map (fun d => d.parameters.length) = some 3)) ∧ Cond.code yX4_isOnLine cX4_isOnLine 10 (some .boolean) ∈ gw ∧ 10 ≤ 45 := ⟨gw_mem 734 (by decide +kernel) (by decide +kernel), ⟨RX4, TX4, 4, rfl, gw_mem 27 (by decide +kernel) (by decide +kernel), gw_mem 69 (by decide +kernel) (by decide +kernel), rfl, by decide +kernel, by decide +kernel, by decide +kernel⟩, gw_mem 735 (by decide +kernel) (by decide +kernel), by decide⟩
theorem ml_X4_85 : MLV RX4 85 yX4_isOnLine 4 cX4_isOnLine 10 (some .boolean) 3 := ⟨gw_mem 732 (by decide +kernel) (by decide +kernel), mi_X4_isOnLine⟩
theorem ml_X4_91 : MLV RX4 91 yX2_straightLength 2 cX2_straightLength 7 (some .int) 1 := ⟨gw_mem 736 (by decide +kernel) (by decide +kernel), mi_X2_straightLength⟩
theorem mi_X4_isOnSlant : Cond.instanceMethod yX4_isOnSlant ∈ gw ∧ (∃ C T N, vwCl[4]? = some (C, T, N) ∧ Cond.selects C yX4_isOnSlant yX4_isOnSlant ∈ gw ∧ Cond.initialized C ∈ gw ∧ (yX4_isOnSlant.cls = C ∧ yX4_isOnSlant.cls ≠ "java/lang/invoke/MethodHandle" ∧ yX4_isOnSlant.cls ≠ "java/lang/invoke/VarHandle" ∧ (parseMethodDescriptor yX4_isOnSlant.desc).map (fun d => d.parameters.length) = some 3)) ∧ Cond.code yX4_isOnSlant cX4_isOnSlant 5 (some .boolean) ∈ gw ∧ 5 ≤ 45 := ⟨gw_mem 741 (by decide +kernel) (by decide +kernel), ⟨RX4, TX4, 4, rfl, gw_mem 28 (by decide +kernel) (by decide +kernel), gw_mem 69 (by decide +kernel) (by decide +kernel), rfl, by decide +kernel, by decide +kernel, by decide +kernel⟩, gw_mem 742 (by decide +kernel) (by decide +kernel), by decide⟩
theorem ml_X4_106 : MLV RX4 106 yX4_isOnSlant 4 cX4_isOnSlant 5 (some .boolean) 3 := ⟨gw_mem 739 (by decide +kernel) (by decide +kernel), mi_X4_isOnSlant⟩
theorem ml_X8_192 : MLV RX8 192 yX2_count 2 cX2_count 3 (some .int) 0 := ⟨gw_mem 749 (by decide +kernel) (by decide +kernel), mi_X2_count⟩
theorem ml_X8_195 : MLV RX8 195 yX2_lowest 2 cX2_lowest 4 (some .int) 1 := ⟨gw_mem 750 (by decide +kernel) (by decide +kernel), mi_X2_lowest⟩
theorem ml_X8_199 : MLV RX8 199 yX2_highest 2 cX2_highest 4 (some .int) 1 := ⟨gw_mem 751 (by decide +kernel) (by decide +kernel), mi_X2_highest⟩
theorem mi_X2_extent : Cond.instanceMethod yX2_extent ∈ gw ∧ (∃ C T N, vwCl[2]? = some (C, T, N) ∧ Cond.selects C yX2_extent yX2_extent ∈ gw ∧ Cond.initialized C ∈ gw ∧ (yX2_extent.cls = C ∧ yX2_extent.cls ≠ "java/lang/invoke/MethodHandle" ∧ yX2_extent.cls ≠ "java/lang/invoke/VarHandle" ∧ (parseMethodDescriptor yX2_extent.desc).map (fun d => d.parameters.length) = some 1)) ∧ Cond.code yX2_extent cX2_extent 2 (some .int) ∈ gw ∧ 2 ≤ 45 := ⟨gw_mem 753 (by decide +kernel) (by decide +kernel), ⟨RX2, TX2, 5, rfl, gw_mem 754 (by decide +kernel) (by decide +kernel), gw_mem 64 (by decide +kernel) (by decide +kernel), rfl, by decide +kernel, by decide +kernel, by decide +kernel⟩, gw_mem 755 (by decide +kernel) (by decide +kernel), by decide⟩
theorem ml_X8_202 : MLV RX8 202 yX2_extent 2 cX2_extent 2 (some .int) 1 := ⟨gw_mem 752 (by decide +kernel) (by decide +kernel), mi_X2_extent⟩
theorem ml_X2_59 : MLV RX2 59 yX2_count 2 cX2_count 3 (some .int) 0 := ⟨gw_mem 756 (by decide +kernel) (by decide +kernel), mi_X2_count⟩
theorem ml_X2_63 : MLV RX2 63 yX2_highest 2 cX2_highest 4 (some .int) 1 := ⟨gw_mem 757 (by decide +kernel) (by decide +kernel), mi_X2_highest⟩
theorem ml_X2_67 : MLV RX2 67 yX2_lowest 2 cX2_lowest 4 (some .int) 1 := ⟨gw_mem 758 (by decide +kernel) (by decide +kernel), mi_X2_lowest⟩
theorem ml_X9_90 : MLS RX9 90 yX9_in cX9_in 3 (some .boolean) 3 := ⟨gw_mem 875 (by decide +kernel) (by decide +kernel), gw_mem 876 (by decide +kernel) (by decide +kernel), gw_mem 70 (by decide +kernel) (by decide +kernel), ⟨by decide +kernel, by decide +kernel, by decide +kernel⟩, gw_mem 877 (by decide +kernel) (by decide +kernel), by decide⟩
theorem mi_X9_isRoom : Cond.instanceMethod yX9_isRoom ∈ gw ∧ (∃ C T N, vwCl[9]? = some (C, T, N) ∧ Cond.selects C yX9_isRoom yX9_isRoom ∈ gw ∧ Cond.initialized C ∈ gw ∧ (yX9_isRoom.cls = C ∧ yX9_isRoom.cls ≠ "java/lang/invoke/MethodHandle" ∧ yX9_isRoom.cls ≠ "java/lang/invoke/VarHandle" ∧ (parseMethodDescriptor yX9_isRoom.desc).map (fun d => d.parameters.length) = some 1)) ∧ Cond.code yX9_isRoom cX9_isRoom 2 (some .boolean) ∈ gw ∧ 2 ≤ 45 := ⟨gw_mem 884 (by decide +kernel) (by decide +kernel), ⟨RX9, TX9, 35, rfl, gw_mem 29 (by decide +kernel) (by decide +kernel), gw_mem 70 (by decide +kernel) (by decide +kernel), rfl, by decide +kernel, by decide +kernel, by decide +kernel⟩, gw_mem 885 (by decide +kernel) (by decide +kernel), by decide⟩
theorem ml_X9_101 : MLV RX9 101 yX9_isRoom 9 cX9_isRoom 2 (some .boolean) 1 := ⟨gw_mem 882 (by decide +kernel) (by decide +kernel), mi_X9_isRoom⟩
theorem mi_X9_outOf : Cond.instanceMethod yX9_outOf ∈ gw ∧ (∃ C T N, vwCl[9]? = some (C, T, N) ∧ Cond.selects C yX9_outOf yX9_outOf ∈ gw ∧ Cond.initialized C ∈ gw ∧ (yX9_outOf.cls = C ∧ yX9_outOf.cls ≠ "java/lang/invoke/MethodHandle" ∧ yX9_outOf.cls ≠ "java/lang/invoke/VarHandle" ∧ (parseMethodDescriptor yX9_outOf.desc).map (fun d => d.parameters.length) = some 2)) ∧ Cond.code yX9_outOf cX9_outOf 4 (some .int) ∈ gw ∧ 4 ≤ 45 := ⟨gw_mem 888 (by decide +kernel) (by decide +kernel), ⟨RX9, TX9, 35, rfl, gw_mem 30 (by decide +kernel) (by decide +kernel), gw_mem 70 (by decide +kernel) (by decide +kernel), rfl, by decide +kernel, by decide +kernel, by decide +kernel⟩, gw_mem 889 (by decide +kernel) (by decide +kernel), by decide⟩
theorem ml_X9_105 : MLV RX9 105 yX9_outOf 9 cX9_outOf 4 (some .int) 2 := ⟨gw_mem 886 (by decide +kernel) (by decide +kernel), mi_X9_outOf⟩
theorem ml_X9_97 : MLS RX9 97 yX9_opposite cX9_opposite 1 (some .int) 1 := ⟨gw_mem 890 (by decide +kernel) (by decide +kernel), gw_mem 891 (by decide +kernel) (by decide +kernel), gw_mem 70 (by decide +kernel) (by decide +kernel), ⟨by decide +kernel, by decide +kernel, by decide +kernel⟩, gw_mem 892 (by decide +kernel) (by decide +kernel), by decide⟩
theorem mi_X9_lay : Cond.instanceMethod yX9_lay ∈ gw ∧ (∃ C T N, vwCl[9]? = some (C, T, N) ∧ Cond.selects C yX9_lay yX9_lay ∈ gw ∧ Cond.initialized C ∈ gw ∧ (yX9_lay.cls = C ∧ yX9_lay.cls ≠ "java/lang/invoke/MethodHandle" ∧ yX9_lay.cls ≠ "java/lang/invoke/VarHandle" ∧ (parseMethodDescriptor yX9_lay.desc).map (fun d => d.parameters.length) = some 4)) ∧ Cond.code yX9_lay cX9_lay 5 (some .int) ∈ gw ∧ 5 ≤ 45 := ⟨gw_mem 895 (by decide +kernel) (by decide +kernel), ⟨RX9, TX9, 35, rfl, gw_mem 31 (by decide +kernel) (by decide +kernel), gw_mem 70 (by decide +kernel) (by decide +kernel), rfl, by decide +kernel, by decide +kernel, by decide +kernel⟩, gw_mem 896 (by decide +kernel) (by decide +kernel), by decide⟩
theorem ml_X9_109 : MLV RX9 109 yX9_lay 9 cX9_lay 5 (some .int) 4 := ⟨gw_mem 893 (by decide +kernel) (by decide +kernel), mi_X9_lay⟩
theorem mi_X9_isLink : Cond.instanceMethod yX9_isLink ∈ gw ∧ (∃ C T N, vwCl[9]? = some (C, T, N) ∧ Cond.selects C yX9_isLink yX9_isLink ∈ gw ∧ Cond.initialized C ∈ gw ∧ (yX9_isLink.cls = C ∧ yX9_isLink.cls ≠ "java/lang/invoke/MethodHandle" ∧ yX9_isLink.cls ≠ "java/lang/invoke/VarHandle" ∧ (parseMethodDescriptor yX9_isLink.desc).map (fun d => d.parameters.length) = some 1)) ∧ Cond.code yX9_isLink cX9_isLink 2 (some .boolean) ∈ gw ∧ 2 ≤ 45 := ⟨gw_mem 903 (by decide +kernel) (by decide +kernel), ⟨RX9, TX9, 35, rfl, gw_mem 32 (by decide +kernel) (by decide +kernel), gw_mem 70 (by decide +kernel) (by decide +kernel), rfl, by decide +kernel, by decide +kernel, by decide +kernel⟩, gw_mem 904 (by decide +kernel) (by decide +kernel), by decide⟩
theorem ml_X9_113 : MLV RX9 113 yX9_isLink 9 cX9_isLink 2 (some .boolean) 1 := ⟨gw_mem 901 (by decide +kernel) (by decide +kernel), mi_X9_isLink⟩
theorem mi_X9_endOf : Cond.instanceMethod yX9_endOf ∈ gw ∧ (∃ C T N, vwCl[9]? = some (C, T, N) ∧ Cond.selects C yX9_endOf yX9_endOf ∈ gw ∧ Cond.initialized C ∈ gw ∧ (yX9_endOf.cls = C ∧ yX9_endOf.cls ≠ "java/lang/invoke/MethodHandle" ∧ yX9_endOf.cls ≠ "java/lang/invoke/VarHandle" ∧ (parseMethodDescriptor yX9_endOf.desc).map (fun d => d.parameters.length) = some 3)) ∧ Cond.code yX9_endOf cX9_endOf 4 (some .int) ∈ gw ∧ 4 ≤ 45 := ⟨gw_mem 911 (by decide +kernel) (by decide +kernel), ⟨RX9, TX9, 35, rfl, gw_mem 33 (by decide +kernel) (by decide +kernel), gw_mem 70 (by decide +kernel) (by decide +kernel), rfl, by decide +kernel, by decide +kernel, by decide +kernel⟩, gw_mem 912 (by decide +kernel) (by decide +kernel), by decide⟩
theorem ml_X9_116 : MLV RX9 116 yX9_endOf 9 cX9_endOf 4 (some .int) 3 := ⟨gw_mem 909 (by decide +kernel) (by decide +kernel), mi_X9_endOf⟩
theorem mi_X9_backOf : Cond.instanceMethod yX9_backOf ∈ gw ∧ (∃ C T N, vwCl[9]? = some (C, T, N) ∧ Cond.selects C yX9_backOf yX9_backOf ∈ gw ∧ Cond.initialized C ∈ gw ∧ (yX9_backOf.cls = C ∧ yX9_backOf.cls ≠ "java/lang/invoke/MethodHandle" ∧ yX9_backOf.cls ≠ "java/lang/invoke/VarHandle" ∧ (parseMethodDescriptor yX9_backOf.desc).map (fun d => d.parameters.length) = some 3)) ∧ Cond.code yX9_backOf cX9_backOf 5 (some .int) ∈ gw ∧ 5 ≤ 45 := ⟨gw_mem 915 (by decide +kernel) (by decide +kernel), ⟨RX9, TX9, 35, rfl, gw_mem 34 (by decide +kernel) (by decide +kernel), gw_mem 70 (by decide +kernel) (by decide +kernel), rfl, by decide +kernel, by decide +kernel, by decide +kernel⟩, gw_mem 916 (by decide +kernel) (by decide +kernel), by decide⟩
theorem ml_X9_120 : MLV RX9 120 yX9_backOf 9 cX9_backOf 5 (some .int) 3 := ⟨gw_mem 913 (by decide +kernel) (by decide +kernel), mi_X9_backOf⟩
theorem mi_X9_room : Cond.instanceMethod yX9_room ∈ gw ∧ (∃ C T N, vwCl[9]? = some (C, T, N) ∧ Cond.selects C yX9_room yX9_room ∈ gw ∧ Cond.initialized C ∈ gw ∧ (yX9_room.cls = C ∧ yX9_room.cls ≠ "java/lang/invoke/MethodHandle" ∧ yX9_room.cls ≠ "java/lang/invoke/VarHandle" ∧ (parseMethodDescriptor yX9_room.desc).map (fun d => d.parameters.length) = some 2)) ∧ Cond.code yX9_room cX9_room 3 (some .int) ∈ gw ∧ 3 ≤ 45 := ⟨gw_mem 872 (by decide +kernel) (by decide +kernel), ⟨RX9, TX9, 35, rfl, gw_mem 873 (by decide +kernel) (by decide +kernel), gw_mem 70 (by decide +kernel) (by decide +kernel), rfl, by decide +kernel, by decide +kernel, by decide +kernel⟩, gw_mem 874 (by decide +kernel) (by decide +kernel), by decide⟩
theorem ml_X9_123 : MLV RX9 123 yX9_room 9 cX9_room 3 (some .int) 2 := ⟨gw_mem 917 (by decide +kernel) (by decide +kernel), mi_X9_room⟩
theorem mi_X9_findParts : Cond.instanceMethod yX9_findParts ∈ gw ∧ (∃ C T N, vwCl[9]? = some (C, T, N) ∧ Cond.selects C yX9_findParts yX9_findParts ∈ gw ∧ Cond.initialized C ∈ gw ∧ (yX9_findParts.cls = C ∧ yX9_findParts.cls ≠ "java/lang/invoke/MethodHandle" ∧ yX9_findParts.cls ≠ "java/lang/invoke/VarHandle" ∧ (parseMethodDescriptor yX9_findParts.desc).map (fun d => d.parameters.length) = some 0)) ∧ Cond.code yX9_findParts cX9_findParts 4 none ∈ gw ∧ 4 ≤ 45 := ⟨gw_mem 940 (by decide +kernel) (by decide +kernel), ⟨RX9, TX9, 35, rfl, gw_mem 35 (by decide +kernel) (by decide +kernel), gw_mem 70 (by decide +kernel) (by decide +kernel), rfl, by decide +kernel, by decide +kernel, by decide +kernel⟩, gw_mem 941 (by decide +kernel) (by decide +kernel), by decide⟩
theorem ml_X9_129 : MLV RX9 129 yX9_findParts 9 cX9_findParts 4 none 0 := ⟨gw_mem 938 (by decide +kernel) (by decide +kernel), mi_X9_findParts⟩
theorem mi_X9_findOrder : Cond.instanceMethod yX9_findOrder ∈ gw ∧ (∃ C T N, vwCl[9]? = some (C, T, N) ∧ Cond.selects C yX9_findOrder yX9_findOrder ∈ gw ∧ Cond.initialized C ∈ gw ∧ (yX9_findOrder.cls = C ∧ yX9_findOrder.cls ≠ "java/lang/invoke/MethodHandle" ∧ yX9_findOrder.cls ≠ "java/lang/invoke/VarHandle" ∧ (parseMethodDescriptor yX9_findOrder.desc).map (fun d => d.parameters.length) = some 1)) ∧ Cond.code yX9_findOrder cX9_findOrder 4 none ∈ gw ∧ 4 ≤ 45 := ⟨gw_mem 948 (by decide +kernel) (by decide +kernel), ⟨RX9, TX9, 35, rfl, gw_mem 36 (by decide +kernel) (by decide +kernel), gw_mem 70 (by decide +kernel) (by decide +kernel), rfl, by decide +kernel, by decide +kernel, by decide +kernel⟩, gw_mem 949 (by decide +kernel) (by decide +kernel), by decide⟩
theorem ml_X9_203 : MLV RX9 203 yX9_findOrder 9 cX9_findOrder 4 none 1 := ⟨gw_mem 946 (by decide +kernel) (by decide +kernel), mi_X9_findOrder⟩
theorem mi_X9_hasTaken : Cond.instanceMethod yX9_hasTaken ∈ gw ∧ (∃ C T N, vwCl[9]? = some (C, T, N) ∧ Cond.selects C yX9_hasTaken yX9_hasTaken ∈ gw ∧ Cond.initialized C ∈ gw ∧ (yX9_hasTaken.cls = C ∧ yX9_hasTaken.cls ≠ "java/lang/invoke/MethodHandle" ∧ yX9_hasTaken.cls ≠ "java/lang/invoke/VarHandle" ∧ (parseMethodDescriptor yX9_hasTaken.desc).map (fun d => d.parameters.length) = some 1)) ∧ Cond.code yX9_hasTaken cX9_hasTaken 4 (some .boolean) ∈ gw ∧ 4 ≤ 45 := ⟨gw_mem 952 (by decide +kernel) (by decide +kernel), ⟨RX9, TX9, 35, rfl, gw_mem 37 (by decide +kernel) (by decide +kernel), gw_mem 70 (by decide +kernel) (by decide +kernel), rfl, by decide +kernel, by decide +kernel, by decide +kernel⟩, gw_mem 953 (by decide +kernel) (by decide +kernel), by decide⟩
theorem ml_X9_178 : MLV RX9 178 yX9_hasTaken 9 cX9_hasTaken 4 (some .boolean) 1 := ⟨gw_mem 950 (by decide +kernel) (by decide +kernel), mi_X9_hasTaken⟩
theorem mi_X9_tryPart : Cond.instanceMethod yX9_tryPart ∈ gw ∧ (∃ C T N, vwCl[9]? = some (C, T, N) ∧ Cond.selects C yX9_tryPart yX9_tryPart ∈ gw ∧ Cond.initialized C ∈ gw ∧ (yX9_tryPart.cls = C ∧ yX9_tryPart.cls ≠ "java/lang/invoke/MethodHandle" ∧ yX9_tryPart.cls ≠ "java/lang/invoke/VarHandle" ∧ (parseMethodDescriptor yX9_tryPart.desc).map (fun d => d.parameters.length) = some 1)) ∧ Cond.code yX9_tryPart cX9_tryPart 8 (some .boolean) ∈ gw ∧ 8 ≤ 45 := ⟨gw_mem 956 (by decide +kernel) (by decide +kernel), ⟨RX9, TX9, 35, rfl, gw_mem 38 (by decide +kernel) (by decide +kernel), gw_mem 70 (by decide +kernel) (by decide +kernel), rfl, by decide +kernel, by decide +kernel, by decide +kernel⟩, gw_mem 957 (by decide +kernel) (by decide +kernel), by decide⟩
theorem ml_X9_206 : MLV RX9 206 yX9_tryPart 9 cX9_tryPart 8 (some .boolean) 1 := ⟨gw_mem 954 (by decide +kernel) (by decide +kernel), mi_X9_tryPart⟩
theorem mi_X9_noneThere : Cond.instanceMethod yX9_noneThere ∈ gw ∧ (∃ C T N, vwCl[9]? = some (C, T, N) ∧ Cond.selects C yX9_noneThere yX9_noneThere ∈ gw ∧ Cond.initialized C ∈ gw ∧ (yX9_noneThere.cls = C ∧ yX9_noneThere.cls ≠ "java/lang/invoke/MethodHandle" ∧ yX9_noneThere.cls ≠ "java/lang/invoke/VarHandle" ∧ (parseMethodDescriptor yX9_noneThere.desc).map (fun d => d.parameters.length) = some 0)) ∧ Cond.code yX9_noneThere cX9_noneThere 2 none ∈ gw ∧ 2 ≤ 45 := ⟨gw_mem 960 (by decide +kernel) (by decide +kernel), ⟨RX9, TX9, 35, rfl, gw_mem 39 (by decide +kernel) (by decide +kernel), gw_mem 70 (by decide +kernel) (by decide +kernel), rfl, by decide +kernel, by decide +kernel, by decide +kernel⟩, gw_mem 961 (by decide +kernel) (by decide +kernel), by decide⟩
theorem ml_X9_188 : MLV RX9 188 yX9_noneThere 9 cX9_noneThere 2 none 0 := ⟨gw_mem 958 (by decide +kernel) (by decide +kernel), mi_X9_noneThere⟩
theorem mi_X9_stand : Cond.instanceMethod yX9_stand ∈ gw ∧ (∃ C T N, vwCl[9]? = some (C, T, N) ∧ Cond.selects C yX9_stand yX9_stand ∈ gw ∧ Cond.initialized C ∈ gw ∧ (yX9_stand.cls = C ∧ yX9_stand.cls ≠ "java/lang/invoke/MethodHandle" ∧ yX9_stand.cls ≠ "java/lang/invoke/VarHandle" ∧ (parseMethodDescriptor yX9_stand.desc).map (fun d => d.parameters.length) = some 4)) ∧ Cond.code yX9_stand cX9_stand 5 none ∈ gw ∧ 5 ≤ 45 := ⟨gw_mem 964 (by decide +kernel) (by decide +kernel), ⟨RX9, TX9, 35, rfl, gw_mem 40 (by decide +kernel) (by decide +kernel), gw_mem 70 (by decide +kernel) (by decide +kernel), rfl, by decide +kernel, by decide +kernel, by decide +kernel⟩, gw_mem 965 (by decide +kernel) (by decide +kernel), by decide⟩
theorem ml_X9_171 : MLV RX9 171 yX9_stand 9 cX9_stand 5 none 4 := ⟨gw_mem 962 (by decide +kernel) (by decide +kernel), mi_X9_stand⟩
theorem mi_X9_noteBest : Cond.instanceMethod yX9_noteBest ∈ gw ∧ (∃ C T N, vwCl[9]? = some (C, T, N) ∧ Cond.selects C yX9_noteBest yX9_noteBest ∈ gw ∧ Cond.initialized C ∈ gw ∧ (yX9_noteBest.cls = C ∧ yX9_noteBest.cls ≠ "java/lang/invoke/MethodHandle" ∧ yX9_noteBest.cls ≠ "java/lang/invoke/VarHandle" ∧ (parseMethodDescriptor yX9_noteBest.desc).map (fun d => d.parameters.length) = some 0)) ∧ Cond.code yX9_noteBest cX9_noteBest 4 none ∈ gw ∧ 4 ≤ 45 := ⟨gw_mem 968 (by decide +kernel) (by decide +kernel), ⟨RX9, TX9, 35, rfl, gw_mem 41 (by decide +kernel) (by decide +kernel), gw_mem 70 (by decide +kernel) (by decide +kernel), rfl, by decide +kernel, by decide +kernel, by decide +kernel⟩, gw_mem 969 (by decide +kernel) (by decide +kernel), by decide⟩
theorem ml_X9_191 : MLV RX9 191 yX9_noteBest 9 cX9_noteBest 4 none 0 := ⟨gw_mem 966 (by decide +kernel) (by decide +kernel), mi_X9_noteBest⟩
theorem mi_X9_costNow : Cond.instanceMethod yX9_costNow ∈ gw ∧ (∃ C T N, vwCl[9]? = some (C, T, N) ∧ Cond.selects C yX9_costNow yX9_costNow ∈ gw ∧ Cond.initialized C ∈ gw ∧ (yX9_costNow.cls = C ∧ yX9_costNow.cls ≠ "java/lang/invoke/MethodHandle" ∧ yX9_costNow.cls ≠ "java/lang/invoke/VarHandle" ∧ (parseMethodDescriptor yX9_costNow.desc).map (fun d => d.parameters.length) = some 0)) ∧ Cond.code yX9_costNow cX9_costNow 4 (some .int) ∈ gw ∧ 4 ≤ 45 := ⟨gw_mem 972 (by decide +kernel) (by decide +kernel), ⟨RX9, TX9, 35, rfl, gw_mem 42 (by decide +kernel) (by decide +kernel), gw_mem 70 (by decide +kernel) (by decide +kernel), rfl, by decide +kernel, by decide +kernel, by decide +kernel⟩, gw_mem 973 (by decide +kernel) (by decide +kernel), by decide⟩
theorem ml_X9_181 : MLV RX9 181 yX9_costNow 9 cX9_costNow 4 (some .int) 0 := ⟨gw_mem 970 (by decide +kernel) (by decide +kernel), mi_X9_costNow⟩
theorem mi_X9_isLoop : Cond.instanceMethod yX9_isLoop ∈ gw ∧ (∃ C T N, vwCl[9]? = some (C, T, N) ∧ Cond.selects C yX9_isLoop yX9_isLoop ∈ gw ∧ Cond.initialized C ∈ gw ∧ (yX9_isLoop.cls = C ∧ yX9_isLoop.cls ≠ "java/lang/invoke/MethodHandle" ∧ yX9_isLoop.cls ≠ "java/lang/invoke/VarHandle" ∧ (parseMethodDescriptor yX9_isLoop.desc).map (fun d => d.parameters.length) = some 1)) ∧ Cond.code yX9_isLoop cX9_isLoop 2 (some .boolean) ∈ gw ∧ 2 ≤ 45 := ⟨gw_mem 976 (by decide +kernel) (by decide +kernel), ⟨RX9, TX9, 35, rfl, gw_mem 43 (by decide +kernel) (by decide +kernel), gw_mem 70 (by decide +kernel) (by decide +kernel), rfl, by decide +kernel, by decide +kernel, by decide +kernel⟩, gw_mem 977 (by decide +kernel) (by decide +kernel), by decide⟩
theorem ml_X9_145 : MLV RX9 145 yX9_isLoop 9 cX9_isLoop 2 (some .boolean) 1 := ⟨gw_mem 974 (by decide +kernel) (by decide +kernel), mi_X9_isLoop⟩
theorem mi_X9_straightBy : Cond.instanceMethod yX9_straightBy ∈ gw ∧ (∃ C T N, vwCl[9]? = some (C, T, N) ∧ Cond.selects C yX9_straightBy yX9_straightBy ∈ gw ∧ Cond.initialized C ∈ gw ∧ (yX9_straightBy.cls = C ∧ yX9_straightBy.cls ≠ "java/lang/invoke/MethodHandle" ∧ yX9_straightBy.cls ≠ "java/lang/invoke/VarHandle" ∧ (parseMethodDescriptor yX9_straightBy.desc).map (fun d => d.parameters.length) = some 1)) ∧ Cond.code yX9_straightBy cX9_straightBy 8 (some .int) ∈ gw ∧ 8 ≤ 45 := ⟨gw_mem 980 (by decide +kernel) (by decide +kernel), ⟨RX9, TX9, 35, rfl, gw_mem 44 (by decide +kernel) (by decide +kernel), gw_mem 70 (by decide +kernel) (by decide +kernel), rfl, by decide +kernel, by decide +kernel, by decide +kernel⟩, gw_mem 981 (by decide +kernel) (by decide +kernel), by decide⟩
theorem ml_X9_148 : MLV RX9 148 yX9_straightBy 9 cX9_straightBy 8 (some .int) 1 := ⟨gw_mem 978 (by decide +kernel) (by decide +kernel), mi_X9_straightBy⟩
theorem ml_X9_138 : MLS RX9 138 yX9_up cX9_up 1 (some .int) 1 := ⟨gw_mem 982 (by decide +kernel) (by decide +kernel), gw_mem 983 (by decide +kernel) (by decide +kernel), gw_mem 70 (by decide +kernel) (by decide +kernel), ⟨by decide +kernel, by decide +kernel, by decide +kernel⟩, gw_mem 984 (by decide +kernel) (by decide +kernel), by decide⟩
theorem mi_X9_farBy : Cond.instanceMethod yX9_farBy ∈ gw ∧ (∃ C T N, vwCl[9]? = some (C, T, N) ∧ Cond.selects C yX9_farBy yX9_farBy ∈ gw ∧ Cond.initialized C ∈ gw ∧ (yX9_farBy.cls = C ∧ yX9_farBy.cls ≠ "java/lang/invoke/MethodHandle" ∧ yX9_farBy.cls ≠ "java/lang/invoke/VarHandle" ∧ (parseMethodDescriptor yX9_farBy.desc).map (fun d => d.parameters.length) = some 4)) ∧ Cond.code yX9_farBy cX9_farBy 8 (some .int) ∈ gw ∧ 8 ≤ 45 := ⟨gw_mem 987 (by decide +kernel) (by decide +kernel), ⟨RX9, TX9, 35, rfl, gw_mem 45 (by decide +kernel) (by decide +kernel), gw_mem 70 (by decide +kernel) (by decide +kernel), rfl, by decide +kernel, by decide +kernel, by decide +kernel⟩, gw_mem 988 (by decide +kernel) (by decide +kernel), by decide⟩
theorem ml_X9_141 : MLV RX9 141 yX9_farBy 9 cX9_farBy 8 (some .int) 4 := ⟨gw_mem 985 (by decide +kernel) (by decide +kernel), mi_X9_farBy⟩
theorem ml_X9_132 : MLS RX9 132 yX9_east cX9_east 1 (some .int) 1 := ⟨gw_mem 989 (by decide +kernel) (by decide +kernel), gw_mem 990 (by decide +kernel) (by decide +kernel), gw_mem 70 (by decide +kernel) (by decide +kernel), ⟨by decide +kernel, by decide +kernel, by decide +kernel⟩, gw_mem 991 (by decide +kernel) (by decide +kernel), by decide⟩
theorem ml_X9_135 : MLS RX9 135 yX9_south cX9_south 1 (some .int) 1 := ⟨gw_mem 992 (by decide +kernel) (by decide +kernel), gw_mem 993 (by decide +kernel) (by decide +kernel), gw_mem 70 (by decide +kernel) (by decide +kernel), ⟨by decide +kernel, by decide +kernel, by decide +kernel⟩, gw_mem 994 (by decide +kernel) (by decide +kernel), by decide⟩
theorem mi_X9_chance : Cond.instanceMethod yX9_chance ∈ gw ∧ (∃ C T N, vwCl[9]? = some (C, T, N) ∧ Cond.selects C yX9_chance yX9_chance ∈ gw ∧ Cond.initialized C ∈ gw ∧ (yX9_chance.cls = C ∧ yX9_chance.cls ≠ "java/lang/invoke/MethodHandle" ∧ yX9_chance.cls ≠ "java/lang/invoke/VarHandle" ∧ (parseMethodDescriptor yX9_chance.desc).map (fun d => d.parameters.length) = some 2)) ∧ Cond.code yX9_chance cX9_chance 12 (some .boolean) ∈ gw ∧ 12 ≤ 45 := ⟨gw_mem 997 (by decide +kernel) (by decide +kernel), ⟨RX9, TX9, 35, rfl, gw_mem 46 (by decide +kernel) (by decide +kernel), gw_mem 70 (by decide +kernel) (by decide +kernel), rfl, by decide +kernel, by decide +kernel, by decide +kernel⟩, gw_mem 998 (by decide +kernel) (by decide +kernel), by decide⟩
theorem ml_X9_163 : MLV RX9 163 yX9_chance 9 cX9_chance 12 (some .boolean) 2 := ⟨gw_mem 995 (by decide +kernel) (by decide +kernel), mi_X9_chance⟩
theorem mi_X9_at : Cond.instanceMethod yX9_at ∈ gw ∧ (∃ C T N, vwCl[9]? = some (C, T, N) ∧ Cond.selects C yX9_at yX9_at ∈ gw ∧ Cond.initialized C ∈ gw ∧ (yX9_at.cls = C ∧ yX9_at.cls ≠ "java/lang/invoke/MethodHandle" ∧ yX9_at.cls ≠ "java/lang/invoke/VarHandle" ∧ (parseMethodDescriptor yX9_at.desc).map (fun d => d.parameters.length) = some 3)) ∧ Cond.code yX9_at cX9_at 5 (some .int) ∈ gw ∧ 5 ≤ 45 := ⟨gw_mem 1001 (by decide +kernel) (by decide +kernel), ⟨RX9, TX9, 35, rfl, gw_mem 47 (by decide +kernel) (by decide +kernel), gw_mem 70 (by decide +kernel) (by decide +kernel), rfl, by decide +kernel, by decide +kernel, by decide +kernel⟩, gw_mem 1002 (by decide +kernel) (by decide +kernel), by decide⟩
theorem ml_X9_151 : MLV RX9 151 yX9_at 9 cX9_at 5 (some .int) 3 := ⟨gw_mem 999 (by decide +kernel) (by decide +kernel), mi_X9_at⟩
theorem mi_X9_standBy : Cond.instanceMethod yX9_standBy ∈ gw ∧ (∃ C T N, vwCl[9]? = some (C, T, N) ∧ Cond.selects C yX9_standBy yX9_standBy ∈ gw ∧ Cond.initialized C ∈ gw ∧ (yX9_standBy.cls = C ∧ yX9_standBy.cls ≠ "java/lang/invoke/MethodHandle" ∧ yX9_standBy.cls ≠ "java/lang/invoke/VarHandle" ∧ (parseMethodDescriptor yX9_standBy.desc).map (fun d => d.parameters.length) = some 2)) ∧ Cond.code yX9_standBy cX9_standBy 4 (some .boolean) ∈ gw ∧ 4 ≤ 45 := ⟨gw_mem 1005 (by decide +kernel) (by decide +kernel), ⟨RX9, TX9, 35, rfl, gw_mem 48 (by decide +kernel) (by decide +kernel), gw_mem 70 (by decide +kernel) (by decide +kernel), rfl, by decide +kernel, by decide +kernel, by decide +kernel⟩, gw_mem 1006 (by decide +kernel) (by decide +kernel), by decide⟩
theorem ml_X9_194 : MLV RX9 194 yX9_standBy 9 cX9_standBy 4 (some .boolean) 2 := ⟨gw_mem 1003 (by decide +kernel) (by decide +kernel), mi_X9_standBy⟩
theorem mi_X9_spare : Cond.instanceMethod yX9_spare ∈ gw ∧ (∃ C T N, vwCl[9]? = some (C, T, N) ∧ Cond.selects C yX9_spare yX9_spare ∈ gw ∧ Cond.initialized C ∈ gw ∧ (yX9_spare.cls = C ∧ yX9_spare.cls ≠ "java/lang/invoke/MethodHandle" ∧ yX9_spare.cls ≠ "java/lang/invoke/VarHandle" ∧ (parseMethodDescriptor yX9_spare.desc).map (fun d => d.parameters.length) = some 1)) ∧ Cond.code yX9_spare cX9_spare 7 none ∈ gw ∧ 7 ≤ 45 := ⟨gw_mem 1009 (by decide +kernel) (by decide +kernel), ⟨RX9, TX9, 35, rfl, gw_mem 49 (by decide +kernel) (by decide +kernel), gw_mem 70 (by decide +kernel) (by decide +kernel), rfl, by decide +kernel, by decide +kernel, by decide +kernel⟩, gw_mem 1010 (by decide +kernel) (by decide +kernel), by decide⟩
theorem ml_X9_167 : MLV RX9 167 yX9_spare 9 cX9_spare 7 none 1 := ⟨gw_mem 1007 (by decide +kernel) (by decide +kernel), mi_X9_spare⟩
theorem mi_X9_byFirst : Cond.instanceMethod yX9_byFirst ∈ gw ∧ (∃ C T N, vwCl[9]? = some (C, T, N) ∧ Cond.selects C yX9_byFirst yX9_byFirst ∈ gw ∧ Cond.initialized C ∈ gw ∧ (yX9_byFirst.cls = C ∧ yX9_byFirst.cls ≠ "java/lang/invoke/MethodHandle" ∧ yX9_byFirst.cls ≠ "java/lang/invoke/VarHandle" ∧ (parseMethodDescriptor yX9_byFirst.desc).map (fun d => d.parameters.length) = some 0)) ∧ Cond.code yX9_byFirst cX9_byFirst 3 none ∈ gw ∧ 3 ≤ 45 := ⟨gw_mem 1013 (by decide +kernel) (by decide +kernel), ⟨RX9, TX9, 35, rfl, gw_mem 50 (by decide +kernel) (by decide +kernel), gw_mem 70 (by decide +kernel) (by decide +kernel), rfl, by decide +kernel, by decide +kernel, by decide +kernel⟩, gw_mem 1014 (by decide +kernel) (by decide +kernel), by decide⟩
theorem ml_X9_209 : MLV RX9 209 yX9_byFirst 9 cX9_byFirst 3 none 0 := ⟨gw_mem 1011 (by decide +kernel) (by decide +kernel), mi_X9_byFirst⟩
theorem mi_X9_movePart : Cond.instanceMethod yX9_movePart ∈ gw ∧ (∃ C T N, vwCl[9]? = some (C, T, N) ∧ Cond.selects C yX9_movePart yX9_movePart ∈ gw ∧ Cond.initialized C ∈ gw ∧ (yX9_movePart.cls = C ∧ yX9_movePart.cls ≠ "java/lang/invoke/MethodHandle" ∧ yX9_movePart.cls ≠ "java/lang/invoke/VarHandle" ∧ (parseMethodDescriptor yX9_movePart.desc).map (fun d => d.parameters.length) = some 1)) ∧ Cond.code yX9_movePart cX9_movePart 7 (some .int) ∈ gw ∧ 7 ≤ 45 := ⟨gw_mem 1017 (by decide +kernel) (by decide +kernel), ⟨RX9, TX9, 35, rfl, gw_mem 51 (by decide +kernel) (by decide +kernel), gw_mem 70 (by decide +kernel) (by decide +kernel), rfl, by decide +kernel, by decide +kernel, by decide +kernel⟩, gw_mem 1018 (by decide +kernel) (by decide +kernel), by decide⟩
theorem ml_X9_212 : MLV RX9 212 yX9_movePart 9 cX9_movePart 7 (some .int) 1 := ⟨gw_mem 1015 (by decide +kernel) (by decide +kernel), mi_X9_movePart⟩
theorem mi_X9_load : Cond.instanceMethod yX9_load ∈ gw ∧ (∃ C T N, vwCl[9]? = some (C, T, N) ∧ Cond.selects C yX9_load yX9_load ∈ gw ∧ Cond.initialized C ∈ gw ∧ (yX9_load.cls = C ∧ yX9_load.cls ≠ "java/lang/invoke/MethodHandle" ∧ yX9_load.cls ≠ "java/lang/invoke/VarHandle" ∧ (parseMethodDescriptor yX9_load.desc).map (fun d => d.parameters.length) = some 0)) ∧ Cond.code yX9_load cX9_load 2 none ∈ gw ∧ 2 ≤ 45 := ⟨gw_mem 1021 (by decide +kernel) (by decide +kernel), ⟨RX9, TX9, 35, rfl, gw_mem 52 (by decide +kernel) (by decide +kernel), gw_mem 70 (by decide +kernel) (by decide +kernel), rfl, by decide +kernel, by decide +kernel, by decide +kernel⟩, gw_mem 1022 (by decide +kernel) (by decide +kernel), by decide⟩
theorem ml_X9_215 : MLV RX9 215 yX9_load 9 cX9_load 2 none 0 := ⟨gw_mem 1019 (by decide +kernel) (by decide +kernel), mi_X9_load⟩
theorem mi_X9_bentNow : Cond.instanceMethod yX9_bentNow ∈ gw ∧ (∃ C T N, vwCl[9]? = some (C, T, N) ∧ Cond.selects C yX9_bentNow yX9_bentNow ∈ gw ∧ Cond.initialized C ∈ gw ∧ (yX9_bentNow.cls = C ∧ yX9_bentNow.cls ≠ "java/lang/invoke/MethodHandle" ∧ yX9_bentNow.cls ≠ "java/lang/invoke/VarHandle" ∧ (parseMethodDescriptor yX9_bentNow.desc).map (fun d => d.parameters.length) = some 0)) ∧ Cond.code yX9_bentNow cX9_bentNow 3 (some .int) ∈ gw ∧ 3 ≤ 45 := ⟨gw_mem 1025 (by decide +kernel) (by decide +kernel), ⟨RX9, TX9, 35, rfl, gw_mem 53 (by decide +kernel) (by decide +kernel), gw_mem 70 (by decide +kernel) (by decide +kernel), rfl, by decide +kernel, by decide +kernel, by decide +kernel⟩, gw_mem 1026 (by decide +kernel) (by decide +kernel), by decide⟩
theorem ml_X9_218 : MLV RX9 218 yX9_bentNow 9 cX9_bentNow 3 (some .int) 0 := ⟨gw_mem 1023 (by decide +kernel) (by decide +kernel), mi_X9_bentNow⟩
theorem mi_X9_isJoined : Cond.instanceMethod yX9_isJoined ∈ gw ∧ (∃ C T N, vwCl[9]? = some (C, T, N) ∧ Cond.selects C yX9_isJoined yX9_isJoined ∈ gw ∧ Cond.initialized C ∈ gw ∧ (yX9_isJoined.cls = C ∧ yX9_isJoined.cls ≠ "java/lang/invoke/MethodHandle" ∧ yX9_isJoined.cls ≠ "java/lang/invoke/VarHandle" ∧ (parseMethodDescriptor yX9_isJoined.desc).map (fun d => d.parameters.length) = some 1)) ∧ Cond.code yX9_isJoined cX9_isJoined 4 (some .boolean) ∈ gw ∧ 4 ≤ 45 := ⟨gw_mem 1033 (by decide +kernel) (by decide +kernel), ⟨RX9, TX9, 35, rfl, gw_mem 54 (by decide +kernel) (by decide +kernel), gw_mem 70 (by decide +kernel) (by decide +kernel), rfl, by decide +kernel, by decide +kernel, by decide +kernel⟩, gw_mem 1034 (by decide +kernel) (by decide +kernel), by decide⟩
theorem ml_X9_221 : MLV RX9 221 yX9_isJoined 9 cX9_isJoined 4 (some .boolean) 1 := ⟨gw_mem 1031 (by decide +kernel) (by decide +kernel), mi_X9_isJoined⟩
theorem mi_X9_eastmost : Cond.instanceMethod yX9_eastmost ∈ gw ∧ (∃ C T N, vwCl[9]? = some (C, T, N) ∧ Cond.selects C yX9_eastmost yX9_eastmost ∈ gw ∧ Cond.initialized C ∈ gw ∧ (yX9_eastmost.cls = C ∧ yX9_eastmost.cls ≠ "java/lang/invoke/MethodHandle" ∧ yX9_eastmost.cls ≠ "java/lang/invoke/VarHandle" ∧ (parseMethodDescriptor yX9_eastmost.desc).map (fun d => d.parameters.length) = some 0)) ∧ Cond.code yX9_eastmost cX9_eastmost 4 (some .int) ∈ gw ∧ 4 ≤ 45 := ⟨gw_mem 1037 (by decide +kernel) (by decide +kernel), ⟨RX9, TX9, 35, rfl, gw_mem 55 (by decide +kernel) (by decide +kernel), gw_mem 70 (by decide +kernel) (by decide +kernel), rfl, by decide +kernel, by decide +kernel, by decide +kernel⟩, gw_mem 1038 (by decide +kernel) (by decide +kernel), by decide⟩
theorem ml_X9_224 : MLV RX9 224 yX9_eastmost 9 cX9_eastmost 4 (some .int) 0 := ⟨gw_mem 1035 (by decide +kernel) (by decide +kernel), mi_X9_eastmost⟩
theorem mi_X9_keep : Cond.instanceMethod yX9_keep ∈ gw ∧ (∃ C T N, vwCl[9]? = some (C, T, N) ∧ Cond.selects C yX9_keep yX9_keep ∈ gw ∧ Cond.initialized C ∈ gw ∧ (yX9_keep.cls = C ∧ yX9_keep.cls ≠ "java/lang/invoke/MethodHandle" ∧ yX9_keep.cls ≠ "java/lang/invoke/VarHandle" ∧ (parseMethodDescriptor yX9_keep.desc).map (fun d => d.parameters.length) = some 1)) ∧ Cond.code yX9_keep cX9_keep 2 none ∈ gw ∧ 2 ≤ 45 := ⟨gw_mem 1041 (by decide +kernel) (by decide +kernel), ⟨RX9, TX9, 35, rfl, gw_mem 56 (by decide +kernel) (by decide +kernel), gw_mem 70 (by decide +kernel) (by decide +kernel), rfl, by decide +kernel, by decide +kernel, by decide +kernel⟩, gw_mem 1042 (by decide +kernel) (by decide +kernel), by decide⟩
theorem ml_X9_227 : MLV RX9 227 yX9_keep 9 cX9_keep 2 none 1 := ⟨gw_mem 1039 (by decide +kernel) (by decide +kernel), mi_X9_keep⟩
theorem mi_X9_findDistances : Cond.instanceMethod yX9_findDistances ∈ gw ∧ (∃ C T N, vwCl[9]? = some (C, T, N) ∧ Cond.selects C yX9_findDistances yX9_findDistances ∈ gw ∧ Cond.initialized C ∈ gw ∧ (yX9_findDistances.cls = C ∧ yX9_findDistances.cls ≠ "java/lang/invoke/MethodHandle" ∧ yX9_findDistances.cls ≠ "java/lang/invoke/VarHandle" ∧ (parseMethodDescriptor yX9_findDistances.desc).map (fun d => d.parameters.length) = some 1)) ∧ Cond.code yX9_findDistances cX9_findDistances 6 none ∈ gw ∧ 6 ≤ 45 := ⟨gw_mem 1069 (by decide +kernel) (by decide +kernel), ⟨RX9, TX9, 35, rfl, gw_mem 57 (by decide +kernel) (by decide +kernel), gw_mem 70 (by decide +kernel) (by decide +kernel), rfl, by decide +kernel, by decide +kernel, by decide +kernel⟩, gw_mem 1070 (by decide +kernel) (by decide +kernel), by decide⟩
theorem ml_X9_230 : MLV RX9 230 yX9_findDistances 9 cX9_findDistances 6 none 1 := ⟨gw_mem 1067 (by decide +kernel) (by decide +kernel), mi_X9_findDistances⟩
theorem mi_X9_far : Cond.instanceMethod yX9_far ∈ gw ∧ (∃ C T N, vwCl[9]? = some (C, T, N) ∧ Cond.selects C yX9_far yX9_far ∈ gw ∧ Cond.initialized C ∈ gw ∧ (yX9_far.cls = C ∧ yX9_far.cls ≠ "java/lang/invoke/MethodHandle" ∧ yX9_far.cls ≠ "java/lang/invoke/VarHandle" ∧ (parseMethodDescriptor yX9_far.desc).map (fun d => d.parameters.length) = some 2)) ∧ Cond.code yX9_far cX9_far 3 (some .int) ∈ gw ∧ 3 ≤ 45 := ⟨gw_mem 1064 (by decide +kernel) (by decide +kernel), ⟨RX9, TX9, 35, rfl, gw_mem 1065 (by decide +kernel) (by decide +kernel), gw_mem 70 (by decide +kernel) (by decide +kernel), rfl, by decide +kernel, by decide +kernel, by decide +kernel⟩, gw_mem 1066 (by decide +kernel) (by decide +kernel), by decide⟩
theorem ml_X9_233 : MLV RX9 233 yX9_far 9 cX9_far 3 (some .int) 2 := ⟨gw_mem 1075 (by decide +kernel) (by decide +kernel), mi_X9_far⟩
theorem mi_X9_leastOf : Cond.instanceMethod yX9_leastOf ∈ gw ∧ (∃ C T N, vwCl[9]? = some (C, T, N) ∧ Cond.selects C yX9_leastOf yX9_leastOf ∈ gw ∧ Cond.initialized C ∈ gw ∧ (yX9_leastOf.cls = C ∧ yX9_leastOf.cls ≠ "java/lang/invoke/MethodHandle" ∧ yX9_leastOf.cls ≠ "java/lang/invoke/VarHandle" ∧ (parseMethodDescriptor yX9_leastOf.desc).map (fun d => d.parameters.length) = some 1)) ∧ Cond.code yX9_leastOf cX9_leastOf 6 (some .int) ∈ gw ∧ 6 ≤ 45 := ⟨gw_mem 1082 (by decide +kernel) (by decide +kernel), ⟨RX9, TX9, 35, rfl, gw_mem 58 (by decide +kernel) (by decide +kernel), gw_mem 70 (by decide +kernel) (by decide +kernel), rfl, by decide +kernel, by decide +kernel, by decide +kernel⟩, gw_mem 1083 (by decide +kernel) (by decide +kernel), by decide⟩
theorem ml_X9_236 : MLV RX9 236 yX9_leastOf 9 cX9_leastOf 6 (some .int) 1 := ⟨gw_mem 1080 (by decide +kernel) (by decide +kernel), mi_X9_leastOf⟩
theorem kc_X9_240 : Cond.constantLong RX9 240 (Int64.ofInt 6) ∈ gw := gw_mem 1084 (by decide +kernel) (by decide +kernel)
theorem kc_X9_242 : Cond.constantLong RX9 242 (Int64.ofInt 2) ∈ gw := gw_mem 1085 (by decide +kernel) (by decide +kernel)
theorem mi_X9_lineAt : Cond.instanceMethod yX9_lineAt ∈ gw ∧ (∃ C T N, vwCl[9]? = some (C, T, N) ∧ Cond.selects C yX9_lineAt yX9_lineAt ∈ gw ∧ Cond.initialized C ∈ gw ∧ (yX9_lineAt.cls = C ∧ yX9_lineAt.cls ≠ "java/lang/invoke/MethodHandle" ∧ yX9_lineAt.cls ≠ "java/lang/invoke/VarHandle" ∧ (parseMethodDescriptor yX9_lineAt.desc).map (fun d => d.parameters.length) = some 6)) ∧ Cond.code yX9_lineAt cX9_lineAt 15 (some .int) ∈ gw ∧ 15 ≤ 45 := ⟨gw_mem 1088 (by decide +kernel) (by decide +kernel), ⟨RX9, TX9, 35, rfl, gw_mem 59 (by decide +kernel) (by decide +kernel), gw_mem 70 (by decide +kernel) (by decide +kernel), rfl, by decide +kernel, by decide +kernel, by decide +kernel⟩, gw_mem 1089 (by decide +kernel) (by decide +kernel), by decide⟩
theorem ml_X9_244 : MLV RX9 244 yX9_lineAt 9 cX9_lineAt 15 (some .int) 6 := ⟨gw_mem 1086 (by decide +kernel) (by decide +kernel), mi_X9_lineAt⟩
end
section
/-! WORDS of the maths: stores by variables, the first of a row, loops upwards -/
def sv (t : Sto) (v : Nat) (f : Int → Int) : Sto := fun w => if w = v then f else t w
def fu (f : Int → Int) (i x : Int) : Int → Int := fun j => if j = i then x else f j
theorem su_sv (t : Sto) (v : Nat) (i x : Int) : su t v i x = sv t v (fu (t v) i x) := by
  funext w j
  unfold su sv fu
  by_cases h : w = v
  · subst h; simp
  · simp [h]
theorem sv_at (t : Sto) (v : Nat) (f : Int → Int) : sv t v f v = f := by simp [sv]
theorem sv_ne {t : Sto} {v w : Nat} {f : Int → Int} (h : w ≠ v) : sv t v f w = t w := by simp [sv, h]
theorem sv_sv (t : Sto) (v : Nat) (f g : Int → Int) : sv (sv t v f) v g = sv t v g := by
  funext w
  unfold sv
  split <;> rfl
theorem sv_id (t : Sto) (v : Nat) : sv t v (t v) = t := by
  funext w
  unfold sv
  split
  · next h => rw [h]
  · rfl
theorem fu_at (f : Int → Int) (i x : Int) : fu f i x i = x := by simp [fu]
theorem fu_ne {f : Int → Int} {i j x : Int} (h : j ≠ i) : fu f i x j = f j := by simp [fu, h]
theorem fu_id (f : Int → Int) (i : Int) : fu f i (f i) = f := by
  funext j
  unfold fu
  split
  · next h => rw [h]
  · rfl
theorem bq0 {P : Prop} [Decidable P] : ((if P then (1 : Int) else 0) = 0) = ¬ P := by
  by_cases h : P <;> simp [h]
theorem bq1 {P : Prop} [Decidable P] : ((if P then (1 : Int) else 0) = 1) = P := by
  by_cases h : P <;> simp [h]
theorem bqr {P : Prop} [Decidable P] : (if P then (1 : Int) else 0) = 0 ∨ (if P then (1 : Int) else 0) = 1 := by
  by_cases h : P <;> simp [h]
/-- upwards to k -/
theorem up_ind {k : Int} {M : Int → Prop} (step : ∀ l, l ≤ k → (l < k → M (l + 1)) → M l) : ∀ l, l ≤ k → M l := by
  have h : ∀ (n : Nat) (l : Int), l ≤ k → (k - l).toNat = n → M l := by
    intro n
    induction n with
    | zero => intro l h1 h2; exact step l h1 (fun h => absurd h (by omega))
    | succ n ih => intro l h1 h2; exact step l h1 (fun h => ih (l + 1) (by omega) (by omega))
  exact fun l hl => h _ l hl rfl
/-- downwards from k to z -/
theorem down_ind {z : Int} {M : Int → Prop} (step : ∀ l, z ≤ l → (z < l → M (l - 1)) → M l) : ∀ l, z ≤ l → M l := by
  have h : ∀ (n : Nat) (l : Int), z ≤ l → (l - z).toNat = n → M l := by
    intro n
    induction n with
    | zero => intro l h1 h2; exact step l h1 (fun h => absurd h (by omega))
    | succ n ih => intro l h1 h2; exact step l h1 (fun h => ih (l - 1) (by omega) (by omega))
  exact fun l hl => h _ l hl rfl
noncomputable def fstN (P : Int → Prop) (l : Int) (n : Nat) : Int := match n with
  | 0 => -2
  | n + 1 => @ite _ (P l) (Classical.propDecidable _) l (fstN P (l + 1) n)
/-- the first of l .. k - 1 that P; -2 -/
noncomputable def fst (P : Int → Prop) (l k : Int) : Int := fstN P l (k - l).toNat
theorem fst_ge {P : Int → Prop} {l k : Int} (h : k ≤ l) : fst P l k = -2 := by
  unfold fst
  rw [show (k - l).toNat = 0 by omega]
  rfl
theorem fst_pos {P : Int → Prop} {l k : Int} (h : l < k) (hP : P l) : fst P l k = l := by
  unfold fst
  rw [show (k - l).toNat = (k - (l + 1)).toNat + 1 by omega]
  simp [fstN, hP]
theorem fst_neg {P : Int → Prop} {l k : Int} (h : l < k) (hP : ¬ P l) : fst P l k = fst P (l + 1) k := by
  unfold fst
  rw [show (k - l).toNat = (k - (l + 1)).toNat + 1 by omega]
  simp [fstN, hP]
theorem fst_spec (P : Int → Prop) (l k : Int) : (fst P l k = -2 ∧ ∀ j, l ≤ j → j < k → ¬ P j) ∨ (l ≤ fst P l k ∧ fst P l k < k ∧ P (fst P l k) ∧ ∀ j, l ≤ j → j < fst P l k → ¬ P j) := by
  rcases Int.le_total l k with hlk | hlk
  · refine up_ind (k := k) (M := fun l => (fst P l k = -2 ∧ ∀ j, l ≤ j → j < k → ¬ P j) ∨ (l ≤ fst P l k ∧ fst P l k < k ∧ P (fst P l k) ∧ ∀ j, l ≤ j → j < fst P l k → ¬ P j)) (fun l hl ih => ?_) l hlk
    rcases Int.lt_or_le l k with h | h
    · by_cases hP : P l
      · right
        rw [fst_pos h hP]
        exact ⟨Int.le_refl _, h, hP, fun j h1 h2 => by omega⟩
      · rw [fst_neg h hP]
        rcases ih h with ⟨a, b⟩ | ⟨a, b, c, e⟩
        · left
          refine ⟨a, fun j h1 h2 => ?_⟩
          by_cases hj : j = l
          · rw [hj]; exact hP
          · exact b j (by omega) h2
        · right
          refine ⟨by omega, b, c, fun j h1 h2 => ?_⟩
          by_cases hj : j = l
          · rw [hj]; exact hP
          · exact e j (by omega) h2
    · left
      exact ⟨fst_ge h, fun j h1 h2 => by omega⟩
  · left
    exact ⟨fst_ge hlk, fun j h1 h2 => by omega⟩
theorem fst_congr {P P' : Int → Prop} {l k : Int} (h : ∀ j, l ≤ j → j < k → (P j ↔ P' j)) : fst P l k = fst P' l k := by
  rcases fst_spec P l k with ⟨a, b⟩ | ⟨a, b, c, e⟩ <;> rcases fst_spec P' l k with ⟨a', b'⟩ | ⟨a', b', c', e'⟩
  · omega
  · exact absurd ((h _ a' b').mpr c') (b _ a' b')
  · exact absurd ((h _ a b).mp c) (b' _ a b)
  · rcases Int.lt_trichotomy (fst P l k) (fst P' l k) with q | q | q
    · exact absurd ((h _ a b).mp c) (e' _ a q)
    · exact q
    · exact absurd ((h _ a' b').mpr c') (e _ a' q)
theorem fst_uniq {P : Int → Prop} {l k x : Int} (h0 : l ≤ x) (h1 : x < k) (hP : P x) (hu : ∀ j, l ≤ j → j < k → P j → j = x) : fst P l k = x := by
  rcases fst_spec P l k with ⟨a, b⟩ | ⟨a, b, c, e⟩
  · exact absurd hP (b x h0 h1)
  · exact hu _ a b c
theorem fst_none {P : Int → Prop} {l k : Int} (h : ∀ j, l ≤ j → j < k → ¬ P j) : fst P l k = -2 := by
  rcases fst_spec P l k with ⟨a, b⟩ | ⟨a, b, c, e⟩
  · exact a
  · exact absurd c (h _ a b)
theorem fst_lo {P : Int → Prop} {l k : Int} (hl : 0 ≤ l) : (fst P l k < 0 ↔ ∀ j, l ≤ j → j < k → ¬ P j) := by
  rcases fst_spec P l k with ⟨a, b⟩ | ⟨a, b, c, e⟩
  · exact ⟨fun _ => b, fun _ => by omega⟩
  · exact ⟨fun h => by omega, fun h => absurd c (h _ a b)⟩
/-! the tables of directions -/
def oppI (d : Int) : Int := ([4, 5, 6, 7, 0, 1, 2, 3, 9, 8] : List Int).getD d.toNat 0
def eaI (d : Int) : Int := ([0, 1, 1, 1, 0, -1, -1, -1, 0, 0] : List Int).getD d.toNat 0
def soI (d : Int) : Int := ([-1, -1, 0, 1, 1, 1, 0, -1, 0, 0] : List Int).getD d.toNat 0
def riI (d : Int) : Int := ([0, 0, 0, 0, 0, 0, 0, 0, 1, -1] : List Int).getD d.toNat 0
theorem dir_cases {d : Int} (h : 0 ≤ d ∧ d ≤ 9) : d = 0 ∨ d = 1 ∨ d = 2 ∨ d = 3 ∨ d = 4 ∨ d = 5 ∨ d = 6 ∨ d = 7 ∨ d = 8 ∨ d = 9 := by omega
theorem oppI_r {d : Int} (h : 0 ≤ d ∧ d ≤ 9) : 0 ≤ oppI d ∧ oppI d ≤ 9 := by
  rcases dir_cases h with rfl | rfl | rfl | rfl | rfl | rfl | rfl | rfl | rfl | rfl <;> decide
theorem oppI_opp {d : Int} (h : 0 ≤ d ∧ d ≤ 9) : oppI (oppI d) = d := by
  rcases dir_cases h with rfl | rfl | rfl | rfl | rfl | rfl | rfl | rfl | rfl | rfl <;> decide
theorem eaI_r {d : Int} (h : 0 ≤ d ∧ d ≤ 9) : eaI d = -1 ∨ eaI d = 0 ∨ eaI d = 1 := by
  rcases dir_cases h with rfl | rfl | rfl | rfl | rfl | rfl | rfl | rfl | rfl | rfl <;> decide
theorem soI_r {d : Int} (h : 0 ≤ d ∧ d ≤ 9) : soI d = -1 ∨ soI d = 0 ∨ soI d = 1 := by
  rcases dir_cases h with rfl | rfl | rfl | rfl | rfl | rfl | rfl | rfl | rfl | rfl <;> decide
theorem riI_r {d : Int} (h : 0 ≤ d ∧ d ≤ 9) : riI d = -1 ∨ riI d = 0 ∨ riI d = 1 := by
  rcases dir_cases h with rfl | rfl | rfl | rfl | rfl | rfl | rfl | rfl | rfl | rfl <;> decide
/-! the story -/
def SOK (n k : Int) (fr di to bo : Int → Int) : Prop := (0 ≤ n ∧ n ≤ 24 ∧ 0 ≤ k ∧ k ≤ 60) ∧ ∀ l, 0 ≤ l → l < k → (0 ≤ fr l ∧ fr l < n) ∧ (0 ≤ to l ∧ to l < n) ∧ (0 ≤ di l ∧ di l ≤ 9) ∧ (bo l = 0 ∨ bo l = 1)
abbrev SC (t : Sto) : Prop := SOK (t 267 0) (t 272 0) (t 13) (t 14) (t 15) (t 16)
abbrev SM (t : Sto) : Prop := SOK (t 2184 0) (t 2188 0) (t 35) (t 36) (t 37) (t 38)
def outP (fr di to bo : Int → Int) (r w l : Int) : Prop := (fr l = r ∧ di l = w) ∨ (bo l ≠ 0 ∧ to l = r ∧ oppI (di l) = w)
/-- the link that leads out -/
noncomputable def outS (k : Int) (fr di to bo : Int → Int) (r w : Int) : Int := fst (outP fr di to bo r w) 0 k
theorem outS_r (k : Int) (fr di to bo : Int → Int) (r w : Int) : outS k fr di to bo r w = -2 ∨ (0 ≤ outS k fr di to bo r w ∧ outS k fr di to bo r w < k) := by
  rcases fst_spec (outP fr di to bo r w) 0 k with ⟨a, b⟩ | ⟨a, b, c, e⟩
  · exact Or.inl a
  · exact Or.inr ⟨a, b⟩
def endS (fr di to : Int → Int) (l r w : Int) : Int := if fr l = r ∧ di l = w then to l else fr l
noncomputable def beyS (k : Int) (fr di to bo : Int → Int) (r w : Int) : Int := if outS k fr di to bo r w < 0 then -2 else endS fr di to (outS k fr di to bo r w) r w
end
section
/-! STORY: the small methods -/
theorem c_X5_isRoom (t : Sto) (r : Int) : CT yX5_isRoom cX5_isRoom 2 (some .boolean) 0 [mP 1, mI r] t (fun a t' => a = some (mI (if 0 ≤ r ∧ r < t 267 0 then 1 else 0)) ∧ t' = t) := by
  refine CT_of rfl rfl (Nat.le_of_ble_eq_true rfl) (fun E ht has => ?_)
  refine G_iload_n (pc := 0) dX5_isRoom_0 rfl ?_
  refine G_if_lt (pc := 1) (tgt := 16) dX5_isRoom_1 rfl (fun h_1 => ?_) (fun h_1 => ?_)
  · refine G_iconst (pc := 16) dX5_isRoom_16 (by decide) ?_
    exact G_zreturn (pc := 17) dX5_isRoom_17 (by first | exact Or.inl rfl | exact Or.inr rfl | omega | (split <;> first | exact Or.inl rfl | exact Or.inr rfl)) (qeq (by first | rfl | omega | (split <;> omega) | grind))
  · refine G_iload_n (pc := 4) dX5_isRoom_4 rfl ?_
    refine G_aload_n (pc := 5) dX5_isRoom_5 rfl ?_
    refine G_getI (pc := 6) dX5_isRoom_6 fk_X5_34 rfl rfl rfl ?_
    refine G_icmp_ge (pc := 9) (tgt := 16) dX5_isRoom_9 rfl (fun h_9 => ?_) (fun h_9 => ?_)
    · refine G_iconst (pc := 16) dX5_isRoom_16 (by decide) ?_
      exact G_zreturn (pc := 17) dX5_isRoom_17 (by first | exact Or.inl rfl | exact Or.inr rfl | omega | (split <;> first | exact Or.inl rfl | exact Or.inr rfl)) (qeq (by first | rfl | omega | (split <;> omega) | grind))
    · refine G_iconst (pc := 12) dX5_isRoom_12 (by decide) ?_
      refine G_goto (pc := 13) (tgt := 17) dX5_isRoom_13 rfl ?_
      exact G_zreturn (pc := 17) dX5_isRoom_17 (by first | exact Or.inl rfl | exact Or.inr rfl | omega | (split <;> first | exact Or.inl rfl | exact Or.inr rfl)) (qeq (by first | rfl | omega | (split <;> omega) | grind))
theorem c_X5_isLink (t : Sto) (r : Int) : CT yX5_isLink cX5_isLink 2 (some .boolean) 0 [mP 1, mI r] t (fun a t' => a = some (mI (if 0 ≤ r ∧ r < t 272 0 then 1 else 0)) ∧ t' = t) := by
  refine CT_of rfl rfl (Nat.le_of_ble_eq_true rfl) (fun E ht has => ?_)
  refine G_iload_n (pc := 0) dX5_isLink_0 rfl ?_
  refine G_if_lt (pc := 1) (tgt := 16) dX5_isLink_1 rfl (fun h_1 => ?_) (fun h_1 => ?_)
  · refine G_iconst (pc := 16) dX5_isLink_16 (by decide) ?_
    exact G_zreturn (pc := 17) dX5_isLink_17 (by first | exact Or.inl rfl | exact Or.inr rfl | omega | (split <;> first | exact Or.inl rfl | exact Or.inr rfl)) (qeq (by first | rfl | omega | (split <;> omega) | grind))
  · refine G_iload_n (pc := 4) dX5_isLink_4 rfl ?_
    refine G_aload_n (pc := 5) dX5_isLink_5 rfl ?_
    refine G_getI (pc := 6) dX5_isLink_6 fk_X5_38 rfl rfl rfl ?_
    refine G_icmp_ge (pc := 9) (tgt := 16) dX5_isLink_9 rfl (fun h_9 => ?_) (fun h_9 => ?_)
    · refine G_iconst (pc := 16) dX5_isLink_16 (by decide) ?_
      exact G_zreturn (pc := 17) dX5_isLink_17 (by first | exact Or.inl rfl | exact Or.inr rfl | omega | (split <;> first | exact Or.inl rfl | exact Or.inr rfl)) (qeq (by first | rfl | omega | (split <;> omega) | grind))
    · refine G_iconst (pc := 12) dX5_isLink_12 (by decide) ?_
      refine G_goto (pc := 13) (tgt := 17) dX5_isLink_13 rfl ?_
      exact G_zreturn (pc := 17) dX5_isLink_17 (by first | exact Or.inl rfl | exact Or.inr rfl | omega | (split <;> first | exact Or.inl rfl | exact Or.inr rfl)) (qeq (by first | rfl | omega | (split <;> omega) | grind))
theorem c_X5_isFullOfRooms (t : Sto) : CT yX5_isFullOfRooms cX5_isFullOfRooms 1 (some .boolean) 0 [mP 1] t (fun a t' => a = some (mI (if 24 ≤ t 267 0 then 1 else 0)) ∧ t' = t) := by
  refine CT_of rfl rfl (Nat.le_of_ble_eq_true rfl) (fun E ht has => ?_)
  refine G_aload_n (pc := 0) dX5_isFullOfRooms_0 rfl ?_
  refine G_getI (pc := 1) dX5_isFullOfRooms_1 fk_X5_34 rfl rfl rfl ?_
  refine G_bipush (pc := 4) (x := 24) dX5_isFullOfRooms_4 rfl (by decide) ?_
  refine G_icmp_lt (pc := 6) (tgt := 13) dX5_isFullOfRooms_6 rfl (fun h_6 => ?_) (fun h_6 => ?_)
  · refine G_iconst (pc := 13) dX5_isFullOfRooms_13 (by decide) ?_
    exact G_zreturn (pc := 14) dX5_isFullOfRooms_14 (by first | exact Or.inl rfl | exact Or.inr rfl | omega | (split <;> first | exact Or.inl rfl | exact Or.inr rfl)) (qeq (by first | rfl | omega | (split <;> omega) | grind))
  · refine G_iconst (pc := 9) dX5_isFullOfRooms_9 (by decide) ?_
    refine G_goto (pc := 10) (tgt := 14) dX5_isFullOfRooms_10 rfl ?_
    exact G_zreturn (pc := 14) dX5_isFullOfRooms_14 (by first | exact Or.inl rfl | exact Or.inr rfl | omega | (split <;> first | exact Or.inl rfl | exact Or.inr rfl)) (qeq (by first | rfl | omega | (split <;> omega) | grind))
theorem c_X5_isFullOfLinks (t : Sto) : CT yX5_isFullOfLinks cX5_isFullOfLinks 1 (some .boolean) 0 [mP 1] t (fun a t' => a = some (mI (if 60 ≤ t 272 0 then 1 else 0)) ∧ t' = t) := by
  refine CT_of rfl rfl (Nat.le_of_ble_eq_true rfl) (fun E ht has => ?_)
  refine G_aload_n (pc := 0) dX5_isFullOfLinks_0 rfl ?_
  refine G_getI (pc := 1) dX5_isFullOfLinks_1 fk_X5_38 rfl rfl rfl ?_
  refine G_bipush (pc := 4) (x := 60) dX5_isFullOfLinks_4 rfl (by decide) ?_
  refine G_icmp_lt (pc := 6) (tgt := 13) dX5_isFullOfLinks_6 rfl (fun h_6 => ?_) (fun h_6 => ?_)
  · refine G_iconst (pc := 13) dX5_isFullOfLinks_13 (by decide) ?_
    exact G_zreturn (pc := 14) dX5_isFullOfLinks_14 (by first | exact Or.inl rfl | exact Or.inr rfl | omega | (split <;> first | exact Or.inl rfl | exact Or.inr rfl)) (qeq (by first | rfl | omega | (split <;> omega) | grind))
  · refine G_iconst (pc := 9) dX5_isFullOfLinks_9 (by decide) ?_
    refine G_goto (pc := 10) (tgt := 14) dX5_isFullOfLinks_10 rfl ?_
    exact G_zreturn (pc := 14) dX5_isFullOfLinks_14 (by first | exact Or.inl rfl | exact Or.inr rfl | omega | (split <;> first | exact Or.inl rfl | exact Or.inr rfl)) (qeq (by first | rfl | omega | (split <;> omega) | grind))
theorem c_X5_isLoop (t : Sto) (l : Int) (h : 0 ≤ l ∧ l < 60) : CT yX5_isLoop cX5_isLoop 2 (some .boolean) 0 [mP 1, mI l] t (fun a t' => a = some (mI (if t 13 l = t 15 l then 1 else 0)) ∧ t' = t) := by
  refine CT_of rfl rfl (Nat.le_of_ble_eq_true rfl) (fun E ht has => ?_)
  refine G_aload_n (pc := 0) dX5_isLoop_0 rfl ?_
  refine G_getP (pc := 1) dX5_isLoop_1 fk_X5_21 rfl rfl rfl ?_
  refine G_iload_n (pc := 4) dX5_isLoop_4 rfl ?_
  refine G_iaload (pc := 5) dX5_isLoop_5 rfl rfl (by omega) ?_
  refine G_aload_n (pc := 6) dX5_isLoop_6 rfl ?_
  refine G_getP (pc := 7) dX5_isLoop_7 fk_X5_27 rfl rfl rfl ?_
  refine G_iload_n (pc := 10) dX5_isLoop_10 rfl ?_
  refine G_iaload (pc := 11) dX5_isLoop_11 rfl rfl (by omega) ?_
  refine G_icmp_ne (pc := 12) (tgt := 19) dX5_isLoop_12 rfl (fun h_12 => ?_) (fun h_12 => ?_)
  · refine G_iconst (pc := 19) dX5_isLoop_19 (by decide) ?_
    exact G_zreturn (pc := 20) dX5_isLoop_20 (by first | exact Or.inl rfl | exact Or.inr rfl | omega | (split <;> first | exact Or.inl rfl | exact Or.inr rfl)) (qeq (by first | rfl | omega | (split <;> omega) | grind))
  · refine G_iconst (pc := 15) dX5_isLoop_15 (by decide) ?_
    refine G_goto (pc := 16) (tgt := 20) dX5_isLoop_16 rfl ?_
    exact G_zreturn (pc := 20) dX5_isLoop_20 (by first | exact Or.inl rfl | exact Or.inr rfl | omega | (split <;> first | exact Or.inl rfl | exact Or.inr rfl)) (qeq (by first | rfl | omega | (split <;> omega) | grind))
theorem c_X5_otherEnd (t : Sto) (l e : Int) (h : 0 ≤ l ∧ l < 60) : CT yX5_otherEnd cX5_otherEnd 3 (some .int) 0 [mP 1, mI l, mI e] t (fun a t' => a = some (mI (if t 13 l = e then t 15 l else t 13 l)) ∧ t' = t) := by
  refine CT_of rfl rfl (Nat.le_of_ble_eq_true rfl) (fun E ht has => ?_)
  refine G_aload_n (pc := 0) dX5_otherEnd_0 rfl ?_
  refine G_getP (pc := 1) dX5_otherEnd_1 fk_X5_21 rfl rfl rfl ?_
  refine G_iload_n (pc := 4) dX5_otherEnd_4 rfl ?_
  refine G_iaload (pc := 5) dX5_otherEnd_5 rfl rfl (by omega) ?_
  refine G_iload_n (pc := 6) dX5_otherEnd_6 rfl ?_
  refine G_icmp_ne (pc := 7) (tgt := 19) dX5_otherEnd_7 rfl (fun h_7 => ?_) (fun h_7 => ?_)
  · refine G_aload_n (pc := 19) dX5_otherEnd_19 rfl ?_
    refine G_getP (pc := 20) dX5_otherEnd_20 fk_X5_21 rfl rfl rfl ?_
    refine G_iload_n (pc := 23) dX5_otherEnd_23 rfl ?_
    refine G_iaload (pc := 24) dX5_otherEnd_24 rfl rfl (by omega) ?_
    exact G_ireturn (pc := 25) dX5_otherEnd_25 (qeq (by first | rfl | omega | (split <;> omega) | grind))
  · refine G_aload_n (pc := 10) dX5_otherEnd_10 rfl ?_
    refine G_getP (pc := 11) dX5_otherEnd_11 fk_X5_27 rfl rfl rfl ?_
    refine G_iload_n (pc := 14) dX5_otherEnd_14 rfl ?_
    refine G_iaload (pc := 15) dX5_otherEnd_15 rfl rfl (by omega) ?_
    refine G_goto (pc := 16) (tgt := 25) dX5_otherEnd_16 rfl ?_
    exact G_ireturn (pc := 25) dX5_otherEnd_25 (qeq (by first | rfl | omega | (split <;> omega) | grind))
theorem c_X5_leadsForth (t : Sto) (l r w : Int) (h : 0 ≤ l ∧ l < 60) : CT yX5_leadsForth cX5_leadsForth 4 (some .boolean) 0 [mP 1, mI l, mI r, mI w] t (fun a t' => a = some (mI (if t 13 l = r ∧ t 14 l = w then 1 else 0)) ∧ t' = t) := by
  refine CT_of rfl rfl (Nat.le_of_ble_eq_true rfl) (fun E ht has => ?_)
  refine G_aload_n (pc := 0) dX5_leadsForth_0 rfl ?_
  refine G_getP (pc := 1) dX5_leadsForth_1 fk_X5_21 rfl rfl rfl ?_
  refine G_iload_n (pc := 4) dX5_leadsForth_4 rfl ?_
  refine G_iaload (pc := 5) dX5_leadsForth_5 rfl rfl (by omega) ?_
  refine G_iload_n (pc := 6) dX5_leadsForth_6 rfl ?_
  refine G_icmp_ne (pc := 7) (tgt := 24) dX5_leadsForth_7 rfl (fun h_7 => ?_) (fun h_7 => ?_)
  · refine G_iconst (pc := 24) dX5_leadsForth_24 (by decide) ?_
    exact G_zreturn (pc := 25) dX5_leadsForth_25 (by first | exact Or.inl rfl | exact Or.inr rfl | omega | (split <;> first | exact Or.inl rfl | exact Or.inr rfl)) (qeq (by first | rfl | omega | (split <;> omega) | grind))
  · refine G_aload_n (pc := 10) dX5_leadsForth_10 rfl ?_
    refine G_getP (pc := 11) dX5_leadsForth_11 fk_X5_24 rfl rfl rfl ?_
    refine G_iload_n (pc := 14) dX5_leadsForth_14 rfl ?_
    refine G_iaload (pc := 15) dX5_leadsForth_15 rfl rfl (by omega) ?_
    refine G_iload_n (pc := 16) dX5_leadsForth_16 rfl ?_
    refine G_icmp_ne (pc := 17) (tgt := 24) dX5_leadsForth_17 rfl (fun h_17 => ?_) (fun h_17 => ?_)
    · refine G_iconst (pc := 24) dX5_leadsForth_24 (by decide) ?_
      exact G_zreturn (pc := 25) dX5_leadsForth_25 (by first | exact Or.inl rfl | exact Or.inr rfl | omega | (split <;> first | exact Or.inl rfl | exact Or.inr rfl)) (qeq (by first | rfl | omega | (split <;> omega) | grind))
    · refine G_iconst (pc := 20) dX5_leadsForth_20 (by decide) ?_
      refine G_goto (pc := 21) (tgt := 25) dX5_leadsForth_21 rfl ?_
      exact G_zreturn (pc := 25) dX5_leadsForth_25 (by first | exact Or.inl rfl | exact Or.inr rfl | omega | (split <;> first | exact Or.inl rfl | exact Or.inr rfl)) (qeq (by first | rfl | omega | (split <;> omega) | grind))
theorem c_X5_leadsBack (t : Sto) (l r w : Int) (h : 0 ≤ l ∧ l < 60) (hd : 0 ≤ t 14 l ∧ t 14 l ≤ 9) : CT yX5_leadsBack cX5_leadsBack 4 (some .boolean) 0 [mP 1, mI l, mI r, mI w] t (fun a t' => a = some (mI (if t 16 l ≠ 0 ∧ t 15 l = r ∧ oppI (t 14 l) = w then 1 else 0)) ∧ t' = t) := by
  refine CT_of rfl rfl (Nat.le_of_ble_eq_true rfl) (fun E ht has => ?_)
  refine G_aload_n (pc := 0) dX5_leadsBack_0 rfl ?_
  refine G_getP (pc := 1) dX5_leadsBack_1 fk_X5_30 rfl rfl rfl ?_
  refine G_iload_n (pc := 4) dX5_leadsBack_4 rfl ?_
  refine G_baload (pc := 5) dX5_leadsBack_5 rfl rfl (by omega) ?_
  refine G_if_eq (pc := 6) (tgt := 37) dX5_leadsBack_6 rfl (fun h_6 => ?_) (fun h_6 => ?_)
  · try simp only [bq0, ne_eq, Classical.not_not] at h_6
    refine G_iconst (pc := 37) dX5_leadsBack_37 (by decide) ?_
    exact G_zreturn (pc := 38) dX5_leadsBack_38 (by first | exact Or.inl rfl | exact Or.inr rfl | omega | (split <;> first | exact Or.inl rfl | exact Or.inr rfl)) (qeq (by first | rfl | omega | (split <;> omega) | (simp only [oppI] at *; grind)))
  · try simp only [bq0, ne_eq, Classical.not_not] at h_6
    refine G_aload_n (pc := 9) dX5_leadsBack_9 rfl ?_
    refine G_getP (pc := 10) dX5_leadsBack_10 fk_X5_27 rfl rfl rfl ?_
    refine G_iload_n (pc := 13) dX5_leadsBack_13 rfl ?_
    refine G_iaload (pc := 14) dX5_leadsBack_14 rfl rfl (by omega) ?_
    refine G_iload_n (pc := 15) dX5_leadsBack_15 rfl ?_
    refine G_icmp_ne (pc := 16) (tgt := 37) dX5_leadsBack_16 rfl (fun h_16 => ?_) (fun h_16 => ?_)
    · refine G_iconst (pc := 37) dX5_leadsBack_37 (by decide) ?_
      exact G_zreturn (pc := 38) dX5_leadsBack_38 (by first | exact Or.inl rfl | exact Or.inr rfl | omega | (split <;> first | exact Or.inl rfl | exact Or.inr rfl)) (qeq (by first | rfl | omega | (split <;> omega) | (simp only [oppI] at *; grind)))
    · refine G_getstatic (pc := 19) dX5_leadsBack_19 sk_X5_59 ?_
      refine G_aload_n (pc := 22) dX5_leadsBack_22 rfl ?_
      refine G_getP (pc := 23) dX5_leadsBack_23 fk_X5_24 rfl rfl rfl ?_
      refine G_iload_n (pc := 26) dX5_leadsBack_26 rfl ?_
      refine G_iaload (pc := 27) dX5_leadsBack_27 rfl rfl (by omega) ?_
      refine G_sload (pc := 28) (k := 0) dX5_leadsBack_28 rfl rfl (by simp only [List.length_cons, List.length_nil]; omega) ?_
      refine G_iload_n (pc := 29) dX5_leadsBack_29 rfl ?_
      refine G_icmp_ne (pc := 30) (tgt := 37) dX5_leadsBack_30 rfl (fun h_30 => ?_) (fun h_30 => ?_)
      · refine G_iconst (pc := 37) dX5_leadsBack_37 (by decide) ?_
        exact G_zreturn (pc := 38) dX5_leadsBack_38 (by first | exact Or.inl rfl | exact Or.inr rfl | omega | (split <;> first | exact Or.inl rfl | exact Or.inr rfl)) (qeq (by first | rfl | omega | (split <;> omega) | (simp only [oppI] at *; grind)))
      · refine G_iconst (pc := 33) dX5_leadsBack_33 (by decide) ?_
        refine G_goto (pc := 34) (tgt := 38) dX5_leadsBack_34 rfl ?_
        exact G_zreturn (pc := 38) dX5_leadsBack_38 (by first | exact Or.inl rfl | exact Or.inr rfl | omega | (split <;> first | exact Or.inl rfl | exact Or.inr rfl)) (qeq (by first | rfl | omega | (split <;> omega) | (simp only [oppI] at *; grind)))
theorem c_X5_leading (t : Sto) (r w : Int) (hS : SC t) : CT yX5_leading cX5_leading 4 (some .int) 1 [mP 1, mI r, mI w] t (fun a t' => a = some (mI (outS (t 272 0) (t 13) (t 14) (t 15) (t 16) r w)) ∧ t' = t) := by
  refine CT_of rfl rfl (Nat.le_of_ble_eq_true rfl) (fun E ht has => ?_)
  obtain ⟨hb, hS⟩ := hS
  have loop : ∀ l, l ≤ t 272 0 → 0 ≤ l → fst (outP (t 13) (t 14) (t 15) (t 16) r w) l (t 272 0) = outS (t 272 0) (t 13) (t 14) (t 15) (t 16) r w → G E cX5_leading RX5 (some .int) 1 2 [some (mP 1), some (mI r), some (mI w), some (mI l)] [] t (fun a t' => a = some (mI (outS (t 272 0) (t 13) (t 14) (t 15) (t 16) r w)) ∧ t' = t) := by
    refine up_ind (fun l hl ih h0 hX => ?_)
    refine G_iload_n (pc := 2) dX5_leading_2 rfl ?_
    refine G_aload_n (pc := 3) dX5_leading_3 rfl ?_
    refine G_getI (pc := 4) dX5_leading_4 fk_X5_38 rfl rfl rfl ?_
    refine G_icmp_ge (pc := 7) (tgt := 38) dX5_leading_7 rfl (fun h_7 => ?_) (fun h_7 => ?_)
    · refine G_bipush (pc := 38) (x := (-2)) dX5_leading_38 rfl (by decide) ?_
      exact G_ireturn (pc := 40) dX5_leading_40 (qeq (by rw [← hX, fst_ge (by omega)]))
    · obtain ⟨-, -, hdi, -⟩ := hS l h0 (by omega)
      refine G_aload_n (pc := 10) dX5_leading_10 rfl ?_
      refine G_iload_n (pc := 11) dX5_leading_11 rfl ?_
      refine G_iload_n (pc := 12) dX5_leading_12 rfl ?_
      refine G_iload_n (pc := 13) dX5_leading_13 rfl ?_
      refine G_cV1 (pc := 14) (c_X5_leadsForth _ _ _ _ (by omega)) dX5_leading_14 ml_X5_48 rfl rfl rfl (by decide) (Nat.le_of_ble_eq_true rfl) ?_
      refine G_if_ne (pc := 17) (tgt := 30) dX5_leading_17 rfl (fun h_17 => ?_) (fun h_17 => ?_)
      · try simp only [bq0, ne_eq, Classical.not_not] at h_17
        refine G_iload_n (pc := 30) dX5_leading_30 rfl ?_
        exact G_ireturn (pc := 31) dX5_leading_31 (qeq (by rw [← hX, fst_pos (by omega) (by unfold outP; omega)]))
      · try simp only [bq0, ne_eq, Classical.not_not] at h_17
        refine G_aload_n (pc := 20) dX5_leading_20 rfl ?_
        refine G_iload_n (pc := 21) dX5_leading_21 rfl ?_
        refine G_iload_n (pc := 22) dX5_leading_22 rfl ?_
        refine G_iload_n (pc := 23) dX5_leading_23 rfl ?_
        refine G_cV1 (pc := 24) (c_X5_leadsBack _ _ _ _ (by omega) (by omega)) dX5_leading_24 ml_X5_52 rfl rfl rfl (by decide) (Nat.le_of_ble_eq_true rfl) ?_
        refine G_if_eq (pc := 27) (tgt := 32) dX5_leading_27 rfl (fun h_27 => ?_) (fun h_27 => ?_)
        · try simp only [bq0, ne_eq, Classical.not_not] at h_27
          refine G_iinc (pc := 32) dX5_leading_32 rfl rfl (by omega) ?_
          refine G_goto (pc := 35) (tgt := 2) dX5_leading_35 rfl ?_
          exact ih (by omega) (by omega) ((fst_neg (by omega) (by unfold outP; omega)).symm.trans hX)
        · try simp only [bq0, ne_eq, Classical.not_not] at h_27
          refine G_iload_n (pc := 30) dX5_leading_30 rfl ?_
          exact G_ireturn (pc := 31) dX5_leading_31 (qeq (by rw [← hX, fst_pos (by omega) (by unfold outP; omega)]))
  refine G_iconst (pc := 0) dX5_leading_0 (by decide) ?_
  refine G_istore_n (pc := 1) dX5_leading_1 (Nat.le_of_ble_eq_true rfl) rfl ?_
  exact loop 0 (by omega) (by omega) rfl
theorem c_X5_beyond (t : Sto) (r w : Int) (hS : SC t) : CT yX5_beyond cX5_beyond 4 (some .int) 2 [mP 1, mI r, mI w] t (fun a t' => a = some (mI (beyS (t 272 0) (t 13) (t 14) (t 15) (t 16) r w)) ∧ t' = t) := by
  refine CT_of rfl rfl (Nat.le_of_ble_eq_true rfl) (fun E ht has => ?_)
  have hr := outS_r (t 272 0) (t 13) (t 14) (t 15) (t 16) r w
  have hb := hS.1
  refine G_aload_n (pc := 0) dX5_beyond_0 rfl ?_
  refine G_iload_n (pc := 1) dX5_beyond_1 rfl ?_
  refine G_iload_n (pc := 2) dX5_beyond_2 rfl ?_
  refine G_cV1 (pc := 3) (c_X5_leading _ _ _ (by exact hS)) dX5_beyond_3 ml_X5_55 rfl rfl rfl (by decide) (Nat.le_of_ble_eq_true rfl) ?_
  refine G_istore_n (pc := 6) dX5_beyond_6 (Nat.le_of_ble_eq_true rfl) rfl ?_
  refine G_iload_n (pc := 7) dX5_beyond_7 rfl ?_
  refine G_if_ge (pc := 8) (tgt := 14) dX5_beyond_8 rfl (fun h_8 => ?_) (fun h_8 => ?_)
  · refine G_aload_n (pc := 14) dX5_beyond_14 rfl ?_
    refine G_iload_n (pc := 15) dX5_beyond_15 rfl ?_
    refine G_iload_n (pc := 16) dX5_beyond_16 rfl ?_
    refine G_iload_n (pc := 17) dX5_beyond_17 rfl ?_
    refine G_cV1 (pc := 18) (c_X5_leadsForth _ _ _ _ (by omega)) dX5_beyond_18 ml_X5_48 rfl rfl rfl (by decide) (Nat.le_of_ble_eq_true rfl) ?_
    refine G_if_eq (pc := 21) (tgt := 33) dX5_beyond_21 rfl (fun h_21 => ?_) (fun h_21 => ?_)
    · try simp only [bq0, ne_eq, Classical.not_not] at h_21
      refine G_aload_n (pc := 33) dX5_beyond_33 rfl ?_
      refine G_getP (pc := 34) dX5_beyond_34 fk_X5_21 rfl rfl rfl ?_
      refine G_iload_n (pc := 37) dX5_beyond_37 rfl ?_
      refine G_iaload (pc := 38) dX5_beyond_38 rfl rfl (by omega) ?_
      exact G_ireturn (pc := 39) dX5_beyond_39 (qeq (by unfold beyS endS; grind))
    · try simp only [bq0, ne_eq, Classical.not_not] at h_21
      refine G_aload_n (pc := 24) dX5_beyond_24 rfl ?_
      refine G_getP (pc := 25) dX5_beyond_25 fk_X5_27 rfl rfl rfl ?_
      refine G_iload_n (pc := 28) dX5_beyond_28 rfl ?_
      refine G_iaload (pc := 29) dX5_beyond_29 rfl rfl (by omega) ?_
      refine G_goto (pc := 30) (tgt := 39) dX5_beyond_30 rfl ?_
      exact G_ireturn (pc := 39) dX5_beyond_39 (qeq (by unfold beyS endS; grind))
  · refine G_bipush (pc := 11) (x := (-2)) dX5_beyond_11 rfl (by decide) ?_
    exact G_ireturn (pc := 13) dX5_beyond_13 (qeq (by unfold beyS endS; grind))
end
section
/-! STORY: rooms and links come and go; the class's own methods over them -/
theorem c_X8_isKind (t : Sto) (r : Int) : CT yX8_isKind cX8_isKind 1 (some .boolean) 0 [mI r] t (fun a t' => a = some (mI (if 0 ≤ r ∧ r ≤ 9 then 1 else 0)) ∧ t' = t) := by
  refine CT_of rfl rfl (Nat.le_of_ble_eq_true rfl) (fun E ht has => ?_)
  refine G_iload_n (pc := 0) dX8_isKind_0 rfl ?_
  refine G_if_lt (pc := 1) (tgt := 14) dX8_isKind_1 rfl (fun h_1 => ?_) (fun h_1 => ?_)
  · refine G_iconst (pc := 14) dX8_isKind_14 (by decide) ?_
    exact G_zreturn (pc := 15) dX8_isKind_15 (by first | exact Or.inl rfl | exact Or.inr rfl | omega | (split <;> first | exact Or.inl rfl | exact Or.inr rfl)) (qeq (by first | rfl | omega | (split <;> omega) | grind))
  · refine G_iload_n (pc := 4) dX8_isKind_4 rfl ?_
    refine G_bipush (pc := 5) (x := 10) dX8_isKind_5 rfl (by decide) ?_
    refine G_icmp_ge (pc := 7) (tgt := 14) dX8_isKind_7 rfl (fun h_7 => ?_) (fun h_7 => ?_)
    · refine G_iconst (pc := 14) dX8_isKind_14 (by decide) ?_
      exact G_zreturn (pc := 15) dX8_isKind_15 (by first | exact Or.inl rfl | exact Or.inr rfl | omega | (split <;> first | exact Or.inl rfl | exact Or.inr rfl)) (qeq (by first | rfl | omega | (split <;> omega) | grind))
    · refine G_iconst (pc := 10) dX8_isKind_10 (by decide) ?_
      refine G_goto (pc := 11) (tgt := 15) dX8_isKind_11 rfl ?_
      exact G_zreturn (pc := 15) dX8_isKind_15 (by first | exact Or.inl rfl | exact Or.inr rfl | omega | (split <;> first | exact Or.inl rfl | exact Or.inr rfl)) (qeq (by first | rfl | omega | (split <;> omega) | grind))
theorem c_X8_isDirection (t : Sto) (r : Int) : CT yX8_isDirection cX8_isDirection 1 (some .boolean) 0 [mI r] t (fun a t' => a = some (mI (if 0 ≤ r ∧ r ≤ 9 then 1 else 0)) ∧ t' = t) := by
  refine CT_of rfl rfl (Nat.le_of_ble_eq_true rfl) (fun E ht has => ?_)
  refine G_iload_n (pc := 0) dX8_isDirection_0 rfl ?_
  refine G_if_lt (pc := 1) (tgt := 14) dX8_isDirection_1 rfl (fun h_1 => ?_) (fun h_1 => ?_)
  · refine G_iconst (pc := 14) dX8_isDirection_14 (by decide) ?_
    exact G_zreturn (pc := 15) dX8_isDirection_15 (by first | exact Or.inl rfl | exact Or.inr rfl | omega | (split <;> first | exact Or.inl rfl | exact Or.inr rfl)) (qeq (by first | rfl | omega | (split <;> omega) | grind))
  · refine G_iload_n (pc := 4) dX8_isDirection_4 rfl ?_
    refine G_bipush (pc := 5) (x := 10) dX8_isDirection_5 rfl (by decide) ?_
    refine G_icmp_ge (pc := 7) (tgt := 14) dX8_isDirection_7 rfl (fun h_7 => ?_) (fun h_7 => ?_)
    · refine G_iconst (pc := 14) dX8_isDirection_14 (by decide) ?_
      exact G_zreturn (pc := 15) dX8_isDirection_15 (by first | exact Or.inl rfl | exact Or.inr rfl | omega | (split <;> first | exact Or.inl rfl | exact Or.inr rfl)) (qeq (by first | rfl | omega | (split <;> omega) | grind))
    · refine G_iconst (pc := 10) dX8_isDirection_10 (by decide) ?_
      refine G_goto (pc := 11) (tgt := 15) dX8_isDirection_11 rfl ?_
      exact G_zreturn (pc := 15) dX8_isDirection_15 (by first | exact Or.inl rfl | exact Or.inr rfl | omega | (split <;> first | exact Or.inl rfl | exact Or.inr rfl)) (qeq (by first | rfl | omega | (split <;> omega) | grind))
def addRoomC (t : Sto) (w g : Int) : Sto := su (su (su (su t 10 (t 267 0) w) 11 (t 267 0) g) 12 (t 267 0) (-2)) 267 0 (t 267 0 + 1)
def addLinkC (t : Sto) (a d b o : Int) : Sto := su (su (su (su (su t 13 (t 272 0) a) 14 (t 272 0) d) 15 (t 272 0) b) 16 (t 272 0) o) 272 0 (t 272 0 + 1)
theorem c_X5_addRoom (t : Sto) (w g : Int) (hn : 0 ≤ t 267 0 ∧ t 267 0 < 24) : CT yX5_addRoom cX5_addRoom 3 (some .int) 1 [mP 1, mI w, mI g] t (fun a t' => a = some (mI (t 267 0)) ∧ t' = addRoomC t w g) := by
  refine CT_of rfl rfl (Nat.le_of_ble_eq_true rfl) (fun E ht has => ?_)
  refine G_aload_n (pc := 0) dX5_addRoom_0 rfl ?_
  refine G_cV1 (pc := 1) (c_X5_isFullOfRooms _) dX5_addRoom_1 ml_X5_41 rfl rfl rfl (by decide) (Nat.le_of_ble_eq_true rfl) ?_
  refine G_if_eq (pc := 4) (tgt := 10) dX5_addRoom_4 rfl (fun h_4 => ?_) (fun h_4 => ?_)
  · try simp only [bq0, ne_eq, Classical.not_not] at h_4
    refine G_aload_n (pc := 10) dX5_addRoom_10 rfl ?_
    refine G_getP (pc := 11) dX5_addRoom_11 fk_X5_9 rfl rfl rfl ?_
    refine G_aload_n (pc := 14) dX5_addRoom_14 rfl ?_
    refine G_getI (pc := 15) dX5_addRoom_15 fk_X5_34 rfl rfl rfl ?_
    refine G_iload_n (pc := 18) dX5_addRoom_18 rfl ?_
    refine G_iastore (pc := 19) dX5_addRoom_19 rfl rfl (by omega) ?_
    refine G_aload_n (pc := 20) dX5_addRoom_20 rfl ?_
    refine G_getP (pc := 21) dX5_addRoom_21 fk_X5_15 rfl rfl rfl ?_
    refine G_aload_n (pc := 24) dX5_addRoom_24 rfl ?_
    refine G_getI (pc := 25) dX5_addRoom_25 fk_X5_34 rfl rfl rfl ?_
    try simp (disch := decide) only [su_ne, su_at, su_same, sv_ne, sv_at]
    refine G_iload_n (pc := 28) dX5_addRoom_28 rfl ?_
    refine G_iastore (pc := 29) dX5_addRoom_29 rfl rfl (by omega) ?_
    refine G_aload_n (pc := 30) dX5_addRoom_30 rfl ?_
    refine G_getP (pc := 31) dX5_addRoom_31 fk_X5_18 rfl rfl rfl ?_
    refine G_aload_n (pc := 34) dX5_addRoom_34 rfl ?_
    refine G_getI (pc := 35) dX5_addRoom_35 fk_X5_34 rfl rfl rfl ?_
    try simp (disch := decide) only [su_ne, su_at, su_same, sv_ne, sv_at]
    refine G_bipush (pc := 38) (x := (-2)) dX5_addRoom_38 rfl (by decide) ?_
    refine G_iastore (pc := 40) dX5_addRoom_40 rfl rfl (by omega) ?_
    refine G_aload_n (pc := 41) dX5_addRoom_41 rfl ?_
    refine G_dup (pc := 42) dX5_addRoom_42 rfl ?_
    refine G_getI (pc := 43) dX5_addRoom_43 fk_X5_34 rfl rfl rfl ?_
    try simp (disch := decide) only [su_ne, su_at, su_same, sv_ne, sv_at]
    refine G_dup_x1 (pc := 46) dX5_addRoom_46 rfl rfl ?_
    refine G_iconst (pc := 47) dX5_addRoom_47 (by decide) ?_
    refine G_iadd (pc := 48) dX5_addRoom_48 (by omega) ?_
    refine G_put (pc := 49) dX5_addRoom_49 fk_X5_34 fw_X5_3 rfl rfl rfl (fun h => absurd h (by decide)) ?_
    exact G_ireturn (pc := 52) dX5_addRoom_52 ⟨rfl, rfl⟩
  · try simp only [bq0, ne_eq, Classical.not_not] at h_4
    exact absurd h_4 (by omega)
theorem c_X5_addLink (t : Sto) (a d b o : Int) (hn : 0 ≤ t 272 0 ∧ t 272 0 < 60) (ho : o = 0 ∨ o = 1) : CT yX5_addLink cX5_addLink 5 (some .int) 1 [mP 1, mI a, mI d, mI b, mI o] t (fun r t' => r = some (mI (t 272 0)) ∧ t' = addLinkC t a d b o) := by
  refine CT_of rfl rfl (Nat.le_of_ble_eq_true rfl) (fun E ht has => ?_)
  refine G_aload_n (pc := 0) dX5_addLink_0 rfl ?_
  refine G_cV1 (pc := 1) (c_X5_isFullOfLinks _) dX5_addLink_1 ml_X5_45 rfl rfl rfl (by decide) (Nat.le_of_ble_eq_true rfl) ?_
  refine G_if_eq (pc := 4) (tgt := 10) dX5_addLink_4 rfl (fun h_4 => ?_) (fun h_4 => ?_)
  · try simp only [bq0, ne_eq, Classical.not_not] at h_4
    refine G_aload_n (pc := 10) dX5_addLink_10 rfl ?_
    refine G_getP (pc := 11) dX5_addLink_11 fk_X5_21 rfl rfl rfl ?_
    refine G_aload_n (pc := 14) dX5_addLink_14 rfl ?_
    refine G_getI (pc := 15) dX5_addLink_15 fk_X5_38 rfl rfl rfl ?_
    refine G_iload_n (pc := 18) dX5_addLink_18 rfl ?_
    refine G_iastore (pc := 19) dX5_addLink_19 rfl rfl (by omega) ?_
    refine G_aload_n (pc := 20) dX5_addLink_20 rfl ?_
    refine G_getP (pc := 21) dX5_addLink_21 fk_X5_24 rfl rfl rfl ?_
    refine G_aload_n (pc := 24) dX5_addLink_24 rfl ?_
    refine G_getI (pc := 25) dX5_addLink_25 fk_X5_38 rfl rfl rfl ?_
    try simp (disch := decide) only [su_ne, su_at, su_same, sv_ne, sv_at]
    refine G_iload_n (pc := 28) dX5_addLink_28 rfl ?_
    refine G_iastore (pc := 29) dX5_addLink_29 rfl rfl (by omega) ?_
    refine G_aload_n (pc := 30) dX5_addLink_30 rfl ?_
    refine G_getP (pc := 31) dX5_addLink_31 fk_X5_27 rfl rfl rfl ?_
    refine G_aload_n (pc := 34) dX5_addLink_34 rfl ?_
    refine G_getI (pc := 35) dX5_addLink_35 fk_X5_38 rfl rfl rfl ?_
    try simp (disch := decide) only [su_ne, su_at, su_same, sv_ne, sv_at]
    refine G_iload_n (pc := 38) dX5_addLink_38 rfl ?_
    refine G_iastore (pc := 39) dX5_addLink_39 rfl rfl (by omega) ?_
    refine G_aload_n (pc := 40) dX5_addLink_40 rfl ?_
    refine G_getP (pc := 41) dX5_addLink_41 fk_X5_30 rfl rfl rfl ?_
    refine G_aload_n (pc := 44) dX5_addLink_44 rfl ?_
    refine G_getI (pc := 45) dX5_addLink_45 fk_X5_38 rfl rfl rfl ?_
    try simp (disch := decide) only [su_ne, su_at, su_same, sv_ne, sv_at]
    refine G_iload (pc := 48) dX5_addLink_48 rfl ?_
    refine G_bastore (pc := 50) dX5_addLink_50 rfl rfl (by omega) (by first | exact Or.inl rfl | exact Or.inr rfl | omega) ?_
    refine G_aload_n (pc := 51) dX5_addLink_51 rfl ?_
    refine G_dup (pc := 52) dX5_addLink_52 rfl ?_
    refine G_getI (pc := 53) dX5_addLink_53 fk_X5_38 rfl rfl rfl ?_
    try simp (disch := decide) only [su_ne, su_at, su_same, sv_ne, sv_at]
    refine G_dup_x1 (pc := 56) dX5_addLink_56 rfl rfl ?_
    refine G_iconst (pc := 57) dX5_addLink_57 (by decide) ?_
    refine G_iadd (pc := 58) dX5_addLink_58 (by omega) ?_
    refine G_put (pc := 59) dX5_addLink_59 fk_X5_38 fw_X5_8 rfl rfl rfl (fun h => absurd h (by decide)) ?_
    exact G_ireturn (pc := 62) dX5_addLink_62 ⟨rfl, rfl⟩
  · try simp only [bq0, ne_eq, Classical.not_not] at h_4
    exact absurd h_4 (by omega)
/-- a row with one taken out, up to k -/
def cutF (f : Int → Int) (g k : Int) : Int → Int := fun j => if g ≤ j ∧ j + 1 < k then f (j + 1) else f j
/-- the same, done up to l -/
def cutN (f : Int → Int) (g l : Int) : Int → Int := fun j => if g ≤ j ∧ j < l then f (j + 1) else f j
theorem cutN_step {f : Int → Int} {g l : Int} (h : g ≤ l) : fu (cutN f g l) l (cutN f g l (l + 1)) = cutN f g (l + 1) := by
  funext j
  unfold fu cutN
  by_cases hj : j = l
  · subst hj
    rw [if_pos rfl, if_neg (by omega), if_pos (by omega)]
  · rw [if_neg hj]
    by_cases h2 : g ≤ j ∧ j < l
    · rw [if_pos h2, if_pos (by omega)]
    · rw [if_neg h2, if_neg (by omega)]
theorem cutN_0 (f : Int → Int) (g : Int) : cutN f g g = f := by
  funext j
  unfold cutN
  rw [if_neg (by omega)]
theorem cutN_k (f : Int → Int) (g k : Int) : cutN f g (k - 1) = cutF f g k := by
  funext j
  unfold cutN cutF
  by_cases h : g ≤ j ∧ j < k - 1
  · rw [if_pos h, if_pos (by omega)]
  · rw [if_neg h, if_neg (by omega)]
def cutC (t : Sto) (g l : Int) : Sto := sv (sv (sv (sv t 13 (cutN (t 13) g l)) 14 (cutN (t 14) g l)) 15 (cutN (t 15) g l)) 16 (cutN (t 16) g l)
theorem cutC_step (t : Sto) (g l : Int) (h : g ≤ l) : su (su (su (su (cutC t g l) 13 l (cutN (t 13) g l (l + 1))) 14 l (cutN (t 14) g l (l + 1))) 15 l (cutN (t 15) g l (l + 1))) 16 l (cutN (t 16) g l (l + 1)) = cutC t g (l + 1) := by
  funext w
  unfold cutC
  simp only [su_sv]
  by_cases h16 : w = 16
  · subst h16; simp (disch := decide) only [sv_at, sv_ne]; exact cutN_step h
  by_cases h15 : w = 15
  · subst h15; simp (disch := decide) only [sv_at, sv_ne]; exact cutN_step h
  by_cases h14 : w = 14
  · subst h14; simp (disch := decide) only [sv_at, sv_ne]; exact cutN_step h
  by_cases h13 : w = 13
  · subst h13; simp (disch := decide) only [sv_at, sv_ne]; exact cutN_step h
  rw [sv_ne h16, sv_ne h15, sv_ne h14, sv_ne h13, sv_ne h16, sv_ne h15, sv_ne h14, sv_ne h13, sv_ne h16, sv_ne h15, sv_ne h14, sv_ne h13]
theorem cutC_at (t : Sto) (g l : Int) : cutC t g l 13 = cutN (t 13) g l ∧ cutC t g l 14 = cutN (t 14) g l ∧ cutC t g l 15 = cutN (t 15) g l ∧ cutC t g l 16 = cutN (t 16) g l := by
  unfold cutC
  simp (disch := decide) only [sv_at, sv_ne]
  exact ⟨trivial, trivial, trivial, trivial⟩
theorem cutC_ne (t : Sto) (g l : Int) {w : Nat} (h : w ≠ 13 ∧ w ≠ 14 ∧ w ≠ 15 ∧ w ≠ 16) : cutC t g l w = t w := by
  unfold cutC
  rw [sv_ne h.2.2.2, sv_ne h.2.2.1, sv_ne h.2.1, sv_ne h.1]
theorem cutC_0 (t : Sto) (g : Int) : cutC t g g = t := by
  unfold cutC
  simp only [cutN_0]
  funext w
  unfold sv
  split
  · next h => rw [h]
  · split
    · next h => rw [h]
    · split
      · next h => rw [h]
      · split
        · next h => rw [h]
        · rfl
def cutCT (t : Sto) (g : Int) : Sto := su (cutC t g (t 272 0 - 1)) 272 0 (t 272 0 - 1)
theorem c_X5_removeLink (t : Sto) (g : Int) (hn : 0 ≤ g ∧ g < t 272 0) (hk : t 272 0 ≤ 60 ∧ ∀ l, t 16 l = 0 ∨ t 16 l = 1) : CT yX5_removeLink cX5_removeLink 3 none 0 [mP 1, mI g] t (fun r t' => r = none ∧ t' = cutCT t g) := by
  refine CT_of rfl rfl (Nat.le_of_ble_eq_true rfl) (fun E ht has => ?_)
  have loop : ∀ l, l ≤ t 272 0 - 1 → g ≤ l → G E cX5_removeLink RX5 none 0 2 [some (mP 1), some (mI g), some (mI l)] [] (cutC t g l) (fun r t' => r = none ∧ t' = cutCT t g) := by
    refine up_ind (fun l hl ih h0 => ?_)
    have e1 := cutC_ne t g l (w := 272) (by decide)
    obtain ⟨e13, e14, e15, e16⟩ := cutC_at t g l
    have hbo : cutN (t 16) g l (l + 1) = 0 ∨ cutN (t 16) g l (l + 1) = 1 := by unfold cutN; split <;> exact hk.2 _
    refine G_iload_n (pc := 2) dX5_removeLink_2 rfl ?_
    refine G_iconst (pc := 3) dX5_removeLink_3 (by decide) ?_
    refine G_iadd (pc := 4) dX5_removeLink_4 (by omega) ?_
    refine G_aload_n (pc := 5) dX5_removeLink_5 rfl ?_
    refine G_getI (pc := 6) dX5_removeLink_6 fk_X5_38 rfl rfl rfl ?_
    rw [e1]
    refine G_icmp_ge (pc := 9) (tgt := 74) dX5_removeLink_9 rfl (fun h_9 => ?_) (fun h_9 => ?_)
    · have hl2 : l = t 272 0 - 1 := by omega
      subst hl2
      refine G_aload_n (pc := 74) dX5_removeLink_74 rfl ?_
      refine G_dup (pc := 75) dX5_removeLink_75 rfl ?_
      refine G_getI (pc := 76) dX5_removeLink_76 fk_X5_38 rfl rfl rfl ?_
      rw [e1]
      refine G_iconst (pc := 79) dX5_removeLink_79 (by decide) ?_
      refine G_isub (pc := 80) dX5_removeLink_80 (by omega) ?_
      refine G_put (pc := 81) dX5_removeLink_81 fk_X5_38 fw_X5_8 rfl rfl rfl (fun h => absurd h (by decide)) ?_
      exact G_return (pc := 84) dX5_removeLink_84 ⟨rfl, rfl⟩
    · refine G_aload_n (pc := 12) dX5_removeLink_12 rfl ?_
      refine G_getP (pc := 13) dX5_removeLink_13 fk_X5_21 rfl rfl rfl ?_
      refine G_iload_n (pc := 16) dX5_removeLink_16 rfl ?_
      refine G_aload_n (pc := 17) dX5_removeLink_17 rfl ?_
      refine G_getP (pc := 18) dX5_removeLink_18 fk_X5_21 rfl rfl rfl ?_
      refine G_iload_n (pc := 21) dX5_removeLink_21 rfl ?_
      refine G_iconst (pc := 22) dX5_removeLink_22 (by decide) ?_
      refine G_iadd (pc := 23) dX5_removeLink_23 (by omega) ?_
      refine G_iaload (pc := 24) dX5_removeLink_24 rfl rfl (by omega) ?_
      rw [e13]
      refine G_iastore (pc := 25) dX5_removeLink_25 rfl rfl (by omega) ?_
      refine G_aload_n (pc := 26) dX5_removeLink_26 rfl ?_
      refine G_getP (pc := 27) dX5_removeLink_27 fk_X5_24 rfl rfl rfl ?_
      refine G_iload_n (pc := 30) dX5_removeLink_30 rfl ?_
      refine G_aload_n (pc := 31) dX5_removeLink_31 rfl ?_
      refine G_getP (pc := 32) dX5_removeLink_32 fk_X5_24 rfl rfl rfl ?_
      refine G_iload_n (pc := 35) dX5_removeLink_35 rfl ?_
      refine G_iconst (pc := 36) dX5_removeLink_36 (by decide) ?_
      refine G_iadd (pc := 37) dX5_removeLink_37 (by omega) ?_
      refine G_iaload (pc := 38) dX5_removeLink_38 rfl rfl (by omega) ?_
      try simp (disch := decide) only [su_ne, su_at, su_same, sv_ne, sv_at]
      rw [e14]
      refine G_iastore (pc := 39) dX5_removeLink_39 rfl rfl (by omega) ?_
      refine G_aload_n (pc := 40) dX5_removeLink_40 rfl ?_
      refine G_getP (pc := 41) dX5_removeLink_41 fk_X5_27 rfl rfl rfl ?_
      refine G_iload_n (pc := 44) dX5_removeLink_44 rfl ?_
      refine G_aload_n (pc := 45) dX5_removeLink_45 rfl ?_
      refine G_getP (pc := 46) dX5_removeLink_46 fk_X5_27 rfl rfl rfl ?_
      refine G_iload_n (pc := 49) dX5_removeLink_49 rfl ?_
      refine G_iconst (pc := 50) dX5_removeLink_50 (by decide) ?_
      refine G_iadd (pc := 51) dX5_removeLink_51 (by omega) ?_
      refine G_iaload (pc := 52) dX5_removeLink_52 rfl rfl (by omega) ?_
      try simp (disch := decide) only [su_ne, su_at, su_same, sv_ne, sv_at]
      rw [e15]
      refine G_iastore (pc := 53) dX5_removeLink_53 rfl rfl (by omega) ?_
      refine G_aload_n (pc := 54) dX5_removeLink_54 rfl ?_
      refine G_getP (pc := 55) dX5_removeLink_55 fk_X5_30 rfl rfl rfl ?_
      refine G_iload_n (pc := 58) dX5_removeLink_58 rfl ?_
      refine G_aload_n (pc := 59) dX5_removeLink_59 rfl ?_
      refine G_getP (pc := 60) dX5_removeLink_60 fk_X5_30 rfl rfl rfl ?_
      refine G_iload_n (pc := 63) dX5_removeLink_63 rfl ?_
      refine G_iconst (pc := 64) dX5_removeLink_64 (by decide) ?_
      refine G_iadd (pc := 65) dX5_removeLink_65 (by omega) ?_
      refine G_baload (pc := 66) dX5_removeLink_66 rfl rfl (by omega) ?_
      try simp (disch := decide) only [su_ne, su_at, su_same, sv_ne, sv_at]
      rw [e16]
      refine G_bastore (pc := 67) dX5_removeLink_67 rfl rfl (by omega) (by exact hbo) ?_
      refine G_iinc (pc := 68) dX5_removeLink_68 rfl rfl (by omega) ?_
      refine G_goto (pc := 71) (tgt := 2) dX5_removeLink_71 rfl ?_
      rw [cutC_step t g l h0]
      exact ih (by omega) (by omega)
  refine G_iload_n (pc := 0) dX5_removeLink_0 rfl ?_
  refine G_istore_n (pc := 1) dX5_removeLink_1 (Nat.le_of_ble_eq_true rfl) rfl ?_
  have h := loop g (by omega) (by omega)
  rw [cutC_0] at h
  exact h
end
section
/-! STORY: the class's own methods -/
def roomR (n w g : Int) : Int := if 1 ≤ w ∧ w ≤ 5 ∧ 0 ≤ g ∧ g ≤ 9 then (if 24 ≤ n then -4 else n) else -1
def roomC (t : Sto) (w g : Int) : Sto := if (1 ≤ w ∧ w ≤ 5 ∧ 0 ≤ g ∧ g ≤ 9) ∧ ¬ 24 ≤ t 267 0 then addRoomC t w g else t
theorem c_X8_room (t : Sto) (w g : Int) (hn : 0 ≤ t 267 0 ∧ t 267 0 ≤ 24) : CT yX8_room cX8_room 3 (some .int) 2 [mP 0, mI w, mI g] t (fun a t' => a = some (mI (roomR (t 267 0) w g)) ∧ t' = roomC t w g) := by
  refine CT_of rfl rfl (Nat.le_of_ble_eq_true rfl) (fun E ht has => ?_)
  refine G_iload_n (pc := 0) dX8_room_0 rfl ?_
  refine G_iconst (pc := 1) dX8_room_1 (by decide) ?_
  refine G_icmp_lt (pc := 2) (tgt := 17) dX8_room_2 rfl (fun h_2 => ?_) (fun h_2 => ?_)
  · refine G_iconst (pc := 17) dX8_room_17 (by decide) ?_
    exact G_ireturn (pc := 18) dX8_room_18 (qeq' (by unfold roomR; grind) (by unfold roomC; grind))
  · refine G_iload_n (pc := 5) dX8_room_5 rfl ?_
    refine G_iconst (pc := 6) dX8_room_6 (by decide) ?_
    refine G_icmp_gt (pc := 7) (tgt := 17) dX8_room_7 rfl (fun h_7 => ?_) (fun h_7 => ?_)
    · refine G_iconst (pc := 17) dX8_room_17 (by decide) ?_
      exact G_ireturn (pc := 18) dX8_room_18 (qeq' (by unfold roomR; grind) (by unfold roomC; grind))
    · refine G_iload_n (pc := 10) dX8_room_10 rfl ?_
      refine G_cS1 (pc := 11) (c_X8_isKind _ _) dX8_room_11 ml_X8_57 rfl (by decide) (Nat.le_of_ble_eq_true rfl) ?_
      refine G_if_ne (pc := 14) (tgt := 19) dX8_room_14 rfl (fun h_14 => ?_) (fun h_14 => ?_)
      · try simp only [bq0, ne_eq, Classical.not_not] at h_14
        refine G_aload_n (pc := 19) dX8_room_19 rfl ?_
        refine G_getP (pc := 20) dX8_room_20 fk_X8_10 rfl rfl rfl ?_
        refine G_cV1 (pc := 23) (c_X5_isFullOfRooms _) dX8_room_23 ml_X8_61 rfl rfl rfl (by decide) (Nat.le_of_ble_eq_true rfl) ?_
        refine G_if_eq (pc := 26) (tgt := 34) dX8_room_26 rfl (fun h_26 => ?_) (fun h_26 => ?_)
        · try simp only [bq0, ne_eq, Classical.not_not] at h_26
          refine G_aload_n (pc := 34) dX8_room_34 rfl ?_
          refine G_getP (pc := 35) dX8_room_35 fk_X8_10 rfl rfl rfl ?_
          refine G_iload_n (pc := 38) dX8_room_38 rfl ?_
          refine G_iload_n (pc := 39) dX8_room_39 rfl ?_
          refine G_cV1 (pc := 40) (c_X5_addRoom _ _ _ (by omega)) dX8_room_40 ml_X8_65 rfl rfl rfl (by decide) (Nat.le_of_ble_eq_true rfl) ?_
          exact G_ireturn (pc := 43) dX8_room_43 (qeq' (by unfold roomR; grind) (by unfold roomC; grind))
        · try simp only [bq0, ne_eq, Classical.not_not] at h_26
          refine G_bipush (pc := 29) (x := (-4)) dX8_room_29 rfl (by decide) ?_
          refine G_goto (pc := 31) (tgt := 43) dX8_room_31 rfl ?_
          exact G_ireturn (pc := 43) dX8_room_43 (qeq' (by unfold roomR; grind) (by unfold roomC; grind))
      · try simp only [bq0, ne_eq, Classical.not_not] at h_14
        refine G_iconst (pc := 17) dX8_room_17 (by decide) ?_
        exact G_ireturn (pc := 18) dX8_room_18 (qeq' (by unfold roomR; grind) (by unfold roomC; grind))
noncomputable def exitR (n k : Int) (fr di to bo : Int → Int) (a d b o : Int) : Int := if 0 ≤ a ∧ a < n ∧ 0 ≤ d ∧ d ≤ 9 ∧ 0 ≤ b ∧ b < n then (if 0 ≤ outS k fr di to bo a d ∨ (o ≠ 0 ∧ 0 ≤ outS k fr di to bo b (oppI d)) then -3 else if 60 ≤ k then -4 else k) else -1
noncomputable def exitC (t : Sto) (a d b o : Int) : Sto := if 0 ≤ exitR (t 267 0) (t 272 0) (t 13) (t 14) (t 15) (t 16) a d b o then addLinkC t a d b o else t
theorem c_X8_exit (t : Sto) (a d b o : Int) (hS : SC t) (ho : o = 0 ∨ o = 1) : CT yX8_exit cX8_exit 6 (some .int) 2 [mP 0, mI a, mI d, mI b, mI o] t (fun r t' => r = some (mI (exitR (t 267 0) (t 272 0) (t 13) (t 14) (t 15) (t 16) a d b o)) ∧ t' = exitC t a d b o) := by
  refine CT_of rfl rfl (Nat.le_of_ble_eq_true rfl) (fun E ht has => ?_)
  have hb := hS.1
  refine G_aload_n (pc := 0) dX8_exit_0 rfl ?_
  refine G_getP (pc := 1) dX8_exit_1 fk_X8_10 rfl rfl rfl ?_
  refine G_iload_n (pc := 4) dX8_exit_4 rfl ?_
  refine G_cV1 (pc := 5) (c_X5_isRoom _ _) dX8_exit_5 ml_X8_69 rfl rfl rfl (by decide) (Nat.le_of_ble_eq_true rfl) ?_
  refine G_if_eq (pc := 8) (tgt := 29) dX8_exit_8 rfl (fun h_8 => ?_) (fun h_8 => ?_)
  · try simp only [bq0, ne_eq, Classical.not_not] at h_8
    refine G_iconst (pc := 29) dX8_exit_29 (by decide) ?_
    exact G_ireturn (pc := 30) dX8_exit_30 (by unfold exitC; rw [show exitR (t 267 0) (t 272 0) (t 13) (t 14) (t 15) (t 16) a d b o = _ from by unfold exitR; rfl]; constructor <;> grind)
  · try simp only [bq0, ne_eq, Classical.not_not] at h_8
    refine G_iload_n (pc := 11) dX8_exit_11 rfl ?_
    refine G_cS1 (pc := 12) (c_X8_isDirection _ _) dX8_exit_12 ml_X8_72 rfl (by decide) (Nat.le_of_ble_eq_true rfl) ?_
    refine G_if_eq (pc := 15) (tgt := 29) dX8_exit_15 rfl (fun h_15 => ?_) (fun h_15 => ?_)
    · try simp only [bq0, ne_eq, Classical.not_not] at h_15
      refine G_iconst (pc := 29) dX8_exit_29 (by decide) ?_
      exact G_ireturn (pc := 30) dX8_exit_30 (by unfold exitC; rw [show exitR (t 267 0) (t 272 0) (t 13) (t 14) (t 15) (t 16) a d b o = _ from by unfold exitR; rfl]; constructor <;> grind)
    · try simp only [bq0, ne_eq, Classical.not_not] at h_15
      refine G_aload_n (pc := 18) dX8_exit_18 rfl ?_
      refine G_getP (pc := 19) dX8_exit_19 fk_X8_10 rfl rfl rfl ?_
      refine G_iload_n (pc := 22) dX8_exit_22 rfl ?_
      refine G_cV1 (pc := 23) (c_X5_isRoom _ _) dX8_exit_23 ml_X8_69 rfl rfl rfl (by decide) (Nat.le_of_ble_eq_true rfl) ?_
      refine G_if_ne (pc := 26) (tgt := 31) dX8_exit_26 rfl (fun h_26 => ?_) (fun h_26 => ?_)
      · try simp only [bq0, ne_eq, Classical.not_not] at h_26
        refine G_join (pc := 31) (P := fun v => v = (if 0 ≤ outS (t 272 0) (t 13) (t 14) (t 15) (t 16) a d ∨ (o ≠ 0 ∧ 0 ≤ outS (t 272 0) (t 13) (t 14) (t 15) (t 16) b (oppI d)) then (1 : Int) else 0)) 69 (fun v_69 hv_69 => ?_) (fun j_69 => ?_)
        · refine G_istore (pc := 69) dX8_exit_69 (Nat.le_of_ble_eq_true rfl) rfl ?_
          refine G_iload (pc := 71) dX8_exit_71 rfl ?_
          refine G_if_eq (pc := 73) (tgt := 79) dX8_exit_73 rfl (fun h_73 => ?_) (fun h_73 => ?_)
          · try simp only [bq0, ne_eq, Classical.not_not] at h_73
            rw [hv_69] at h_73; simp only [bq0] at h_73
            refine G_aload_n (pc := 79) dX8_exit_79 rfl ?_
            refine G_getP (pc := 80) dX8_exit_80 fk_X8_10 rfl rfl rfl ?_
            refine G_cV1 (pc := 83) (c_X5_isFullOfLinks _) dX8_exit_83 ml_X8_82 rfl rfl rfl (by decide) (Nat.le_of_ble_eq_true rfl) ?_
            refine G_if_eq (pc := 86) (tgt := 94) dX8_exit_86 rfl (fun h_86 => ?_) (fun h_86 => ?_)
            · try simp only [bq0, ne_eq, Classical.not_not] at h_86
              refine G_aload_n (pc := 94) dX8_exit_94 rfl ?_
              refine G_getP (pc := 95) dX8_exit_95 fk_X8_10 rfl rfl rfl ?_
              refine G_iload_n (pc := 98) dX8_exit_98 rfl ?_
              refine G_iload_n (pc := 99) dX8_exit_99 rfl ?_
              refine G_iload_n (pc := 100) dX8_exit_100 rfl ?_
              refine G_iload (pc := 101) dX8_exit_101 rfl ?_
              refine G_cV1 (pc := 103) (c_X5_addLink _ _ _ _ _ (by omega) (by omega)) dX8_exit_103 ml_X8_85 rfl rfl rfl (by decide) (Nat.le_of_ble_eq_true rfl) ?_
              exact G_ireturn (pc := 106) dX8_exit_106 (by unfold exitC; rw [show exitR (t 267 0) (t 272 0) (t 13) (t 14) (t 15) (t 16) a d b o = _ from by unfold exitR; rfl]; constructor <;> grind)
            · try simp only [bq0, ne_eq, Classical.not_not] at h_86
              refine G_bipush (pc := 89) (x := (-4)) dX8_exit_89 rfl (by decide) ?_
              refine G_goto (pc := 91) (tgt := 106) dX8_exit_91 rfl ?_
              exact G_ireturn (pc := 106) dX8_exit_106 (by unfold exitC; rw [show exitR (t 267 0) (t 272 0) (t 13) (t 14) (t 15) (t 16) a d b o = _ from by unfold exitR; rfl]; constructor <;> grind)
          · try simp only [bq0, ne_eq, Classical.not_not] at h_73
            rw [hv_69] at h_73; simp only [bq0, Classical.not_not] at h_73
            refine G_bipush (pc := 76) (x := (-3)) dX8_exit_76 rfl (by decide) ?_
            exact G_ireturn (pc := 78) dX8_exit_78 (by unfold exitC; rw [show exitR (t 267 0) (t 272 0) (t 13) (t 14) (t 15) (t 16) a d b o = _ from by unfold exitR; rfl]; constructor <;> grind)
        · refine G_aload_n (pc := 31) dX8_exit_31 rfl ?_
          refine G_getP (pc := 32) dX8_exit_32 fk_X8_10 rfl rfl rfl ?_
          refine G_iload_n (pc := 35) dX8_exit_35 rfl ?_
          refine G_iload_n (pc := 36) dX8_exit_36 rfl ?_
          refine G_cV1 (pc := 37) (c_X5_leading _ _ _ (by exact hS)) dX8_exit_37 ml_X8_75 rfl rfl rfl (by decide) (Nat.le_of_ble_eq_true rfl) ?_
          refine G_if_ge (pc := 40) (tgt := 64) dX8_exit_40 rfl (fun h_40 => ?_) (fun h_40 => ?_)
          · refine G_iconst (pc := 64) dX8_exit_64 (by decide) ?_
            refine G_goto (pc := 65) (tgt := 69) dX8_exit_65 rfl ?_
            exact j_69 _ (by unfold oppI at *; grind)
          · refine G_iload (pc := 43) dX8_exit_43 rfl ?_
            refine G_if_eq (pc := 45) (tgt := 68) dX8_exit_45 rfl (fun h_45 => ?_) (fun h_45 => ?_)
            · try simp only [bq0, ne_eq, Classical.not_not] at h_45
              refine G_iconst (pc := 68) dX8_exit_68 (by decide) ?_
              exact j_69 _ (by unfold oppI at *; grind)
            · try simp only [bq0, ne_eq, Classical.not_not] at h_45
              refine G_aload_n (pc := 48) dX8_exit_48 rfl ?_
              refine G_getP (pc := 49) dX8_exit_49 fk_X8_10 rfl rfl rfl ?_
              refine G_iload_n (pc := 52) dX8_exit_52 rfl ?_
              refine G_getstatic (pc := 53) dX8_exit_53 sk_X8_78 ?_
              refine G_iload_n (pc := 56) dX8_exit_56 rfl ?_
              refine G_sload (pc := 57) (k := 0) dX8_exit_57 rfl rfl (by simp only [List.length_cons, List.length_nil]; omega) ?_
              refine G_cV1 (pc := 58) (c_X5_leading _ _ _ (by exact hS)) dX8_exit_58 ml_X8_75 rfl rfl rfl (by decide) (Nat.le_of_ble_eq_true rfl) ?_
              refine G_if_lt (pc := 61) (tgt := 68) dX8_exit_61 rfl (fun h_61 => ?_) (fun h_61 => ?_)
              · refine G_iconst (pc := 68) dX8_exit_68 (by decide) ?_
                exact j_69 _ (by unfold oppI at *; grind)
              · refine G_iconst (pc := 64) dX8_exit_64 (by decide) ?_
                refine G_goto (pc := 65) (tgt := 69) dX8_exit_65 rfl ?_
                exact j_69 _ (by unfold oppI at *; grind)
      · try simp only [bq0, ne_eq, Classical.not_not] at h_26
        refine G_iconst (pc := 29) dX8_exit_29 (by decide) ?_
        exact G_ireturn (pc := 30) dX8_exit_30 (by unfold exitC; rw [show exitR (t 267 0) (t 272 0) (t 13) (t 14) (t 15) (t 16) a d b o = _ from by unfold exitR; rfl]; constructor <;> grind)
def cutR (k g : Int) : Int := if 0 ≤ g ∧ g < k then k - 1 else -1
def cutX8 (t : Sto) (g : Int) : Sto := if 0 ≤ g ∧ g < t 272 0 then cutCT t g else t
theorem c_X8_cut (t : Sto) (g : Int) (hS : SC t) (hb : ∀ l, t 16 l = 0 ∨ t 16 l = 1) : CT yX8_cut cX8_cut 2 (some .int) 1 [mP 0, mI g] t (fun r t' => r = some (mI (cutR (t 272 0) g)) ∧ t' = cutX8 t g) := by
  refine CT_of rfl rfl (Nat.le_of_ble_eq_true rfl) (fun E ht has => ?_)
  have hk := hS.1
  refine G_aload_n (pc := 0) dX8_cut_0 rfl ?_
  refine G_getP (pc := 1) dX8_cut_1 fk_X8_10 rfl rfl rfl ?_
  refine G_iload_n (pc := 4) dX8_cut_4 rfl ?_
  refine G_cV1 (pc := 5) (c_X5_isLink _ _) dX8_cut_5 ml_X8_89 rfl rfl rfl (by decide) (Nat.le_of_ble_eq_true rfl) ?_
  refine G_if_ne (pc := 8) (tgt := 13) dX8_cut_8 rfl (fun h_8 => ?_) (fun h_8 => ?_)
  · try simp only [bq0, ne_eq, Classical.not_not] at h_8
    refine G_aload_n (pc := 13) dX8_cut_13 rfl ?_
    refine G_getP (pc := 14) dX8_cut_14 fk_X8_10 rfl rfl rfl ?_
    refine G_iload_n (pc := 17) dX8_cut_17 rfl ?_
    refine G_cV0 (pc := 18) (c_X5_removeLink _ _ (by omega) (by exact ⟨by omega, hb⟩)) dX8_cut_18 ml_X8_92 rfl rfl rfl (by decide) (Nat.le_of_ble_eq_true rfl) ?_
    refine G_aload_n (pc := 21) dX8_cut_21 rfl ?_
    refine G_getP (pc := 22) dX8_cut_22 fk_X8_10 rfl rfl rfl ?_
    refine G_getI (pc := 25) dX8_cut_25 fk_X8_96 rfl rfl rfl ?_
    try simp (disch := decide) only [su_ne, su_at, su_same, sv_ne, sv_at]
    exact G_ireturn (pc := 28) dX8_cut_28 (qeq' (by unfold cutR cutCT; rw [su_at]; grind) (by unfold cutX8; grind))
  · try simp only [bq0, ne_eq, Classical.not_not] at h_8
    refine G_iconst (pc := 11) dX8_cut_11 (by decide) ?_
    exact G_ireturn (pc := 12) dX8_cut_12 (qeq' (by unfold cutR; grind) (by unfold cutX8; grind))
def markR (n : Int) (th : Int → Int) (r x : Int) : Int := if (0 ≤ r ∧ r < n) ∧ (x = -2 ∨ (0 ≤ x ∧ x ≤ 9)) then th r else -1
def markC (t : Sto) (r x : Int) : Sto := if (0 ≤ r ∧ r < t 267 0) ∧ (x = -2 ∨ (0 ≤ x ∧ x ≤ 9)) then su t 12 r x else t
theorem c_X8_mark (t : Sto) (r x : Int) (hn : 0 ≤ t 267 0 ∧ t 267 0 ≤ 24) : CT yX8_mark cX8_mark 4 (some .int) 1 [mP 0, mI r, mI x] t (fun a t' => a = some (mI (markR (t 267 0) (t 12) r x)) ∧ t' = markC t r x) := by
  refine CT_of rfl rfl (Nat.le_of_ble_eq_true rfl) (fun E ht has => ?_)
  refine G_aload_n (pc := 0) dX8_mark_0 rfl ?_
  refine G_getP (pc := 1) dX8_mark_1 fk_X8_10 rfl rfl rfl ?_
  refine G_iload_n (pc := 4) dX8_mark_4 rfl ?_
  refine G_cV1 (pc := 5) (c_X5_isRoom _ _) dX8_mark_5 ml_X8_69 rfl rfl rfl (by decide) (Nat.le_of_ble_eq_true rfl) ?_
  refine G_if_eq (pc := 8) (tgt := 24) dX8_mark_8 rfl (fun h_8 => ?_) (fun h_8 => ?_)
  · try simp only [bq0, ne_eq, Classical.not_not] at h_8
    refine G_iconst (pc := 24) dX8_mark_24 (by decide) ?_
    exact G_ireturn (pc := 25) dX8_mark_25 (qeq' (by unfold markR; grind) (by unfold markC; grind))
  · try simp only [bq0, ne_eq, Classical.not_not] at h_8
    refine G_iload_n (pc := 11) dX8_mark_11 rfl ?_
    refine G_bipush (pc := 12) (x := (-2)) dX8_mark_12 rfl (by decide) ?_
    refine G_icmp_eq (pc := 14) (tgt := 26) dX8_mark_14 rfl (fun h_14 => ?_) (fun h_14 => ?_)
    · refine G_aload_n (pc := 26) dX8_mark_26 rfl ?_
      refine G_getP (pc := 27) dX8_mark_27 fk_X8_10 rfl rfl rfl ?_
      refine G_getP (pc := 30) dX8_mark_30 fk_X8_110 rfl rfl rfl ?_
      refine G_iload_n (pc := 33) dX8_mark_33 rfl ?_
      refine G_iaload (pc := 34) dX8_mark_34 rfl rfl (by omega) ?_
      refine G_istore_n (pc := 35) dX8_mark_35 (Nat.le_of_ble_eq_true rfl) rfl ?_
      refine G_aload_n (pc := 36) dX8_mark_36 rfl ?_
      refine G_getP (pc := 37) dX8_mark_37 fk_X8_10 rfl rfl rfl ?_
      refine G_getP (pc := 40) dX8_mark_40 fk_X8_110 rfl rfl rfl ?_
      refine G_iload_n (pc := 43) dX8_mark_43 rfl ?_
      refine G_iload_n (pc := 44) dX8_mark_44 rfl ?_
      refine G_iastore (pc := 45) dX8_mark_45 rfl rfl (by omega) ?_
      refine G_iload_n (pc := 46) dX8_mark_46 rfl ?_
      exact G_ireturn (pc := 47) dX8_mark_47 (qeq' (by unfold markR; grind) (by unfold markC; grind))
    · refine G_iload_n (pc := 17) dX8_mark_17 rfl ?_
      refine G_cS1 (pc := 18) (c_X8_isKind _ _) dX8_mark_18 ml_X8_57 rfl (by decide) (Nat.le_of_ble_eq_true rfl) ?_
      refine G_if_ne (pc := 21) (tgt := 26) dX8_mark_21 rfl (fun h_21 => ?_) (fun h_21 => ?_)
      · try simp only [bq0, ne_eq, Classical.not_not] at h_21
        refine G_aload_n (pc := 26) dX8_mark_26 rfl ?_
        refine G_getP (pc := 27) dX8_mark_27 fk_X8_10 rfl rfl rfl ?_
        refine G_getP (pc := 30) dX8_mark_30 fk_X8_110 rfl rfl rfl ?_
        refine G_iload_n (pc := 33) dX8_mark_33 rfl ?_
        refine G_iaload (pc := 34) dX8_mark_34 rfl rfl (by omega) ?_
        refine G_istore_n (pc := 35) dX8_mark_35 (Nat.le_of_ble_eq_true rfl) rfl ?_
        refine G_aload_n (pc := 36) dX8_mark_36 rfl ?_
        refine G_getP (pc := 37) dX8_mark_37 fk_X8_10 rfl rfl rfl ?_
        refine G_getP (pc := 40) dX8_mark_40 fk_X8_110 rfl rfl rfl ?_
        refine G_iload_n (pc := 43) dX8_mark_43 rfl ?_
        refine G_iload_n (pc := 44) dX8_mark_44 rfl ?_
        refine G_iastore (pc := 45) dX8_mark_45 rfl rfl (by omega) ?_
        refine G_iload_n (pc := 46) dX8_mark_46 rfl ?_
        exact G_ireturn (pc := 47) dX8_mark_47 (qeq' (by unfold markR; grind) (by unfold markC; grind))
      · try simp only [bq0, ne_eq, Classical.not_not] at h_21
        refine G_iconst (pc := 24) dX8_mark_24 (by decide) ?_
        exact G_ireturn (pc := 25) dX8_mark_25 (qeq' (by unfold markR; grind) (by unfold markC; grind))
def linkR (k : Int) (fr di to bo : Int → Int) (i w : Int) : Int := if 0 ≤ i ∧ i < k then (if w = 0 then fr i else if w = 1 then di i else if w = 2 then to i else if w = 3 then (if bo i = 0 then 0 else 1) else if w = 4 then (if fr i = to i then 1 else 0) else -1) else -1
theorem c_X8_link (t : Sto) (i w : Int) (hS : SC t) : CT yX8_link cX8_link 3 (some .int) 1 [mP 0, mI i, mI w] t (fun a t' => a = some (mI (linkR (t 272 0) (t 13) (t 14) (t 15) (t 16) i w)) ∧ t' = t) := by
  refine CT_of rfl rfl (Nat.le_of_ble_eq_true rfl) (fun E ht has => ?_)
  have hk := hS.1
  refine G_aload_n (pc := 0) dX8_link_0 rfl ?_
  refine G_getP (pc := 1) dX8_link_1 fk_X8_10 rfl rfl rfl ?_
  refine G_iload_n (pc := 4) dX8_link_4 rfl ?_
  refine G_cV1 (pc := 5) (c_X5_isLink _ _) dX8_link_5 ml_X8_89 rfl rfl rfl (by decide) (Nat.le_of_ble_eq_true rfl) ?_
  refine G_if_ne (pc := 8) (tgt := 13) dX8_link_8 rfl (fun h_8 => ?_) (fun h_8 => ?_)
  · try simp only [bq0, ne_eq, Classical.not_not] at h_8
    refine G_iload_n (pc := 13) dX8_link_13 rfl ?_
    rcases (show w = 0 ∨ w = 1 ∨ w = 2 ∨ w = 3 ∨ w = 4 ∨ (w < 0 ∨ 4 < w) by omega) with h_14 | h_14 | h_14 | h_14 | h_14 | h_14
    · subst h_14
      refine G_tableAt (pc := 14) (off := 34) (tgt := 48) dX8_link_14 (by decide) rfl rfl ?_
      refine G_aload_n (pc := 48) dX8_link_48 rfl ?_
      refine G_getP (pc := 49) dX8_link_49 fk_X8_10 rfl rfl rfl ?_
      refine G_getP (pc := 52) dX8_link_52 fk_X8_117 rfl rfl rfl ?_
      refine G_iload_n (pc := 55) dX8_link_55 rfl ?_
      refine G_iaload (pc := 56) dX8_link_56 rfl rfl (by omega) ?_
      exact G_ireturn (pc := 57) dX8_link_57 (qeq (by unfold linkR; grind))
    · subst h_14
      refine G_tableAt (pc := 14) (off := 44) (tgt := 58) dX8_link_14 (by decide) rfl rfl ?_
      refine G_aload_n (pc := 58) dX8_link_58 rfl ?_
      refine G_getP (pc := 59) dX8_link_59 fk_X8_10 rfl rfl rfl ?_
      refine G_getP (pc := 62) dX8_link_62 fk_X8_120 rfl rfl rfl ?_
      refine G_iload_n (pc := 65) dX8_link_65 rfl ?_
      refine G_iaload (pc := 66) dX8_link_66 rfl rfl (by omega) ?_
      exact G_ireturn (pc := 67) dX8_link_67 (qeq (by unfold linkR; grind))
    · subst h_14
      refine G_tableAt (pc := 14) (off := 54) (tgt := 68) dX8_link_14 (by decide) rfl rfl ?_
      refine G_aload_n (pc := 68) dX8_link_68 rfl ?_
      refine G_getP (pc := 69) dX8_link_69 fk_X8_10 rfl rfl rfl ?_
      refine G_getP (pc := 72) dX8_link_72 fk_X8_123 rfl rfl rfl ?_
      refine G_iload_n (pc := 75) dX8_link_75 rfl ?_
      refine G_iaload (pc := 76) dX8_link_76 rfl rfl (by omega) ?_
      exact G_ireturn (pc := 77) dX8_link_77 (qeq (by unfold linkR; grind))
    · subst h_14
      refine G_tableAt (pc := 14) (off := 64) (tgt := 78) dX8_link_14 (by decide) rfl rfl ?_
      refine G_aload_n (pc := 78) dX8_link_78 rfl ?_
      refine G_getP (pc := 79) dX8_link_79 fk_X8_10 rfl rfl rfl ?_
      refine G_getP (pc := 82) dX8_link_82 fk_X8_126 rfl rfl rfl ?_
      refine G_iload_n (pc := 85) dX8_link_85 rfl ?_
      refine G_baload (pc := 86) dX8_link_86 rfl rfl (by omega) ?_
      refine G_if_eq (pc := 87) (tgt := 94) dX8_link_87 rfl (fun h_87 => ?_) (fun h_87 => ?_)
      · try simp only [bq0, ne_eq, Classical.not_not] at h_87
        refine G_iconst (pc := 94) dX8_link_94 (by decide) ?_
        exact G_ireturn (pc := 95) dX8_link_95 (qeq (by unfold linkR; grind))
      · try simp only [bq0, ne_eq, Classical.not_not] at h_87
        refine G_iconst (pc := 90) dX8_link_90 (by decide) ?_
        refine G_goto (pc := 91) (tgt := 95) dX8_link_91 rfl ?_
        exact G_ireturn (pc := 95) dX8_link_95 (qeq (by unfold linkR; grind))
    · subst h_14
      refine G_tableAt (pc := 14) (off := 82) (tgt := 96) dX8_link_14 (by decide) rfl rfl ?_
      refine G_aload_n (pc := 96) dX8_link_96 rfl ?_
      refine G_getP (pc := 97) dX8_link_97 fk_X8_10 rfl rfl rfl ?_
      refine G_iload_n (pc := 100) dX8_link_100 rfl ?_
      refine G_cV1 (pc := 101) (c_X5_isLoop _ _ (by omega)) dX8_link_101 ml_X8_130 rfl rfl rfl (by decide) (Nat.le_of_ble_eq_true rfl) ?_
      refine G_if_eq (pc := 104) (tgt := 111) dX8_link_104 rfl (fun h_104 => ?_) (fun h_104 => ?_)
      · try simp only [bq0, ne_eq, Classical.not_not] at h_104
        refine G_iconst (pc := 111) dX8_link_111 (by decide) ?_
        exact G_ireturn (pc := 112) dX8_link_112 (qeq (by unfold linkR; grind))
      · try simp only [bq0, ne_eq, Classical.not_not] at h_104
        refine G_iconst (pc := 107) dX8_link_107 (by decide) ?_
        refine G_goto (pc := 108) (tgt := 112) dX8_link_108 rfl ?_
        exact G_ireturn (pc := 112) dX8_link_112 (qeq (by unfold linkR; grind))
    · refine G_tableOut (pc := 14) (tgt := 113) dX8_link_14 h_14 rfl ?_
      refine G_iconst (pc := 113) dX8_link_113 (by decide) ?_
      exact G_ireturn (pc := 114) dX8_link_114 (qeq (by unfold linkR; grind))
  · try simp only [bq0, ne_eq, Classical.not_not] at h_8
    refine G_iconst (pc := 11) dX8_link_11 (by decide) ?_
    exact G_ireturn (pc := 12) dX8_link_12 (qeq (by unfold linkR; grind))
noncomputable def outR (n k : Int) (fr di to bo : Int → Int) (r w : Int) : Int := if 0 ≤ r ∧ r < n ∧ 0 ≤ w ∧ w ≤ 9 then outS k fr di to bo r w else -1
theorem c_X8_out (t : Sto) (r w : Int) (hS : SC t) : CT yX8_out cX8_out 3 (some .int) 2 [mP 0, mI r, mI w] t (fun a t' => a = some (mI (outR (t 267 0) (t 272 0) (t 13) (t 14) (t 15) (t 16) r w)) ∧ t' = t) := by
  refine CT_of rfl rfl (Nat.le_of_ble_eq_true rfl) (fun E ht has => ?_)
  refine G_aload_n (pc := 0) dX8_out_0 rfl ?_
  refine G_getP (pc := 1) dX8_out_1 fk_X8_10 rfl rfl rfl ?_
  refine G_iload_n (pc := 4) dX8_out_4 rfl ?_
  refine G_cV1 (pc := 5) (c_X5_isRoom _ _) dX8_out_5 ml_X8_69 rfl rfl rfl (by decide) (Nat.le_of_ble_eq_true rfl) ?_
  refine G_if_eq (pc := 8) (tgt := 30) dX8_out_8 rfl (fun h_8 => ?_) (fun h_8 => ?_)
  · try simp only [bq0, ne_eq, Classical.not_not] at h_8
    refine G_iconst (pc := 30) dX8_out_30 (by decide) ?_
    exact G_ireturn (pc := 31) dX8_out_31 (qeq (by unfold outR; grind))
  · try simp only [bq0, ne_eq, Classical.not_not] at h_8
    refine G_iload_n (pc := 11) dX8_out_11 rfl ?_
    refine G_cS1 (pc := 12) (c_X8_isDirection _ _) dX8_out_12 ml_X8_72 rfl (by decide) (Nat.le_of_ble_eq_true rfl) ?_
    refine G_if_eq (pc := 15) (tgt := 30) dX8_out_15 rfl (fun h_15 => ?_) (fun h_15 => ?_)
    · try simp only [bq0, ne_eq, Classical.not_not] at h_15
      refine G_iconst (pc := 30) dX8_out_30 (by decide) ?_
      exact G_ireturn (pc := 31) dX8_out_31 (qeq (by unfold outR; grind))
    · try simp only [bq0, ne_eq, Classical.not_not] at h_15
      refine G_aload_n (pc := 18) dX8_out_18 rfl ?_
      refine G_getP (pc := 19) dX8_out_19 fk_X8_10 rfl rfl rfl ?_
      refine G_iload_n (pc := 22) dX8_out_22 rfl ?_
      refine G_iload_n (pc := 23) dX8_out_23 rfl ?_
      refine G_cV1 (pc := 24) (c_X5_leading _ _ _ (by exact hS)) dX8_out_24 ml_X8_75 rfl rfl rfl (by decide) (Nat.le_of_ble_eq_true rfl) ?_
      refine G_goto (pc := 27) (tgt := 31) dX8_out_27 rfl ?_
      exact G_ireturn (pc := 31) dX8_out_31 (qeq (by unfold outR; grind))
end
