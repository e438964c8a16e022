section
def lw_okq (q : MethodName × Nat) : Prop := (q.1.cls ≠ "java/lang/invoke/MethodHandle" ∧ q.1.cls ≠ "java/lang/invoke/VarHandle") ∧ Cond.instantiable q.1.cls q.2 ∈ tables_1 ∧ Cond.privateMethod q.1 ∈ tables_1 ∧ Cond.instanceMethod q.1 ∈ tables_1
theorem lw_p0 : lw_okq (⟨"ThreeMasters$Plan", "scan", "()V"⟩, 8) := ⟨⟨by decide +kernel, by decide +kernel⟩, List.mem_of_getElem? (i := 38) (by decide +kernel), List.mem_of_getElem? (i := 261) (by decide +kernel), List.mem_of_getElem? (i := 262) (by decide +kernel)⟩
theorem lw_p1 : lw_okq (⟨"ThreeMasters$Plan", "takeFloor", "(I)Z"⟩, 8) := ⟨⟨by decide +kernel, by decide +kernel⟩, List.mem_of_getElem? (i := 38) (by decide +kernel), List.mem_of_getElem? (i := 265) (by decide +kernel), List.mem_of_getElem? (i := 266) (by decide +kernel)⟩
theorem lw_p2 : lw_okq (⟨"ThreeMasters$Plan", "takeNumber", "(I)I"⟩, 8) := ⟨⟨by decide +kernel, by decide +kernel⟩, List.mem_of_getElem? (i := 38) (by decide +kernel), List.mem_of_getElem? (i := 269) (by decide +kernel), List.mem_of_getElem? (i := 270) (by decide +kernel)⟩
theorem lw_p3 : lw_okq (⟨"ThreeMasters$Plan", "sign", "()I"⟩, 8) := ⟨⟨by decide +kernel, by decide +kernel⟩, List.mem_of_getElem? (i := 38) (by decide +kernel), List.mem_of_getElem? (i := 273) (by decide +kernel), List.mem_of_getElem? (i := 274) (by decide +kernel)⟩
theorem lw_p4 : lw_okq (⟨"ThreeMasters$Plan", "fail", "(I)Z"⟩, 8) := ⟨⟨by decide +kernel, by decide +kernel⟩, List.mem_of_getElem? (i := 38) (by decide +kernel), List.mem_of_getElem? (i := 281) (by decide +kernel), List.mem_of_getElem? (i := 282) (by decide +kernel)⟩
theorem lw_p5 : lw_okq (⟨"ThreeMasters$Plan", "takeUnit", "(I)Z"⟩, 8) := ⟨⟨by decide +kernel, by decide +kernel⟩, List.mem_of_getElem? (i := 38) (by decide +kernel), List.mem_of_getElem? (i := 285) (by decide +kernel), List.mem_of_getElem? (i := 286) (by decide +kernel)⟩
theorem lw_p6 : lw_okq (⟨"ThreeMasters$Plan", "takeSign", "(C)Z"⟩, 8) := ⟨⟨by decide +kernel, by decide +kernel⟩, List.mem_of_getElem? (i := 38) (by decide +kernel), List.mem_of_getElem? (i := 289) (by decide +kernel), List.mem_of_getElem? (i := 290) (by decide +kernel)⟩
theorem lw_p7 : lw_okq (⟨"ThreeMasters$Plan", "takeWay", "(I)Z"⟩, 8) := ⟨⟨by decide +kernel, by decide +kernel⟩, List.mem_of_getElem? (i := 38) (by decide +kernel), List.mem_of_getElem? (i := 293) (by decide +kernel), List.mem_of_getElem? (i := 294) (by decide +kernel)⟩
theorem lw_p8 : lw_okq (⟨"ThreeMasters", "isFloor", "(I)Z"⟩, 10) := ⟨⟨by decide +kernel, by decide +kernel⟩, List.mem_of_getElem? (i := 15) (by decide +kernel), List.mem_of_getElem? (i := 313) (by decide +kernel), List.mem_of_getElem? (i := 314) (by decide +kernel)⟩
theorem lw_p9 : lw_okq (⟨"ThreeMasters", "isSill", "(I)Z"⟩, 10) := ⟨⟨by decide +kernel, by decide +kernel⟩, List.mem_of_getElem? (i := 15) (by decide +kernel), List.mem_of_getElem? (i := 346) (by decide +kernel), List.mem_of_getElem? (i := 347) (by decide +kernel)⟩
theorem lw_p10 : lw_okq (⟨"ThreeMasters", "refuseSheet", "(I)I"⟩, 10) := ⟨⟨by decide +kernel, by decide +kernel⟩, List.mem_of_getElem? (i := 15) (by decide +kernel), List.mem_of_getElem? (i := 411) (by decide +kernel), List.mem_of_getElem? (i := 412) (by decide +kernel)⟩
theorem lw_p11 : lw_okq (⟨"ThreeMasters", "finding", "(I)I"⟩, 10) := ⟨⟨by decide +kernel, by decide +kernel⟩, List.mem_of_getElem? (i := 15) (by decide +kernel), List.mem_of_getElem? (i := 422) (by decide +kernel), List.mem_of_getElem? (i := 423) (by decide +kernel)⟩
theorem lw_p12 : lw_okq (⟨"ThreeMasters$Finds", "addFloor", "(IJ)J"⟩, 4) := ⟨⟨by decide +kernel, by decide +kernel⟩, List.mem_of_getElem? (i := 108) (by decide +kernel), List.mem_of_getElem? (i := 452) (by decide +kernel), List.mem_of_getElem? (i := 453) (by decide +kernel)⟩
theorem lw_p13 : lw_okq (⟨"ThreeMasters$Mender", "share", "(IIIZ)V"⟩, 1) := ⟨⟨by decide +kernel, by decide +kernel⟩, List.mem_of_getElem? (i := 143) (by decide +kernel), List.mem_of_getElem? (i := 500) (by decide +kernel), List.mem_of_getElem? (i := 501) (by decide +kernel)⟩
theorem lw_p14 : lw_okq (⟨"ThreeMasters", "offAfter", "(II)I"⟩, 10) := ⟨⟨by decide +kernel, by decide +kernel⟩, List.mem_of_getElem? (i := 15) (by decide +kernel), List.mem_of_getElem? (i := 510) (by decide +kernel), List.mem_of_getElem? (i := 511) (by decide +kernel)⟩
theorem lw_p15 : lw_okq (⟨"ThreeMasters$Loads", "reserve", "(II)I"⟩, 2) := ⟨⟨by decide +kernel, by decide +kernel⟩, List.mem_of_getElem? (i := 154) (by decide +kernel), List.mem_of_getElem? (i := 536) (by decide +kernel), List.mem_of_getElem? (i := 537) (by decide +kernel)⟩
def lw_privs_1 : List (MethodName × Nat) := [(⟨"ThreeMasters$Plan", "scan", "()V"⟩, 8), (⟨"ThreeMasters$Plan", "takeFloor", "(I)Z"⟩, 8), (⟨"ThreeMasters$Plan", "takeNumber", "(I)I"⟩, 8), (⟨"ThreeMasters$Plan", "sign", "()I"⟩, 8), (⟨"ThreeMasters$Plan", "fail", "(I)Z"⟩, 8), (⟨"ThreeMasters$Plan", "takeUnit", "(I)Z"⟩, 8), (⟨"ThreeMasters$Plan", "takeSign", "(C)Z"⟩, 8), (⟨"ThreeMasters$Plan", "takeWay", "(I)Z"⟩, 8), (⟨"ThreeMasters", "isFloor", "(I)Z"⟩, 10), (⟨"ThreeMasters", "isSill", "(I)Z"⟩, 10), (⟨"ThreeMasters", "refuseSheet", "(I)I"⟩, 10), (⟨"ThreeMasters", "finding", "(I)I"⟩, 10), (⟨"ThreeMasters$Finds", "addFloor", "(IJ)J"⟩, 4), (⟨"ThreeMasters$Mender", "share", "(IIIZ)V"⟩, 1), (⟨"ThreeMasters", "offAfter", "(II)I"⟩, 10), (⟨"ThreeMasters$Loads", "reserve", "(II)I"⟩, 2)]
theorem lw_r1 : ∀ q ∈ lw_privs_1, lw_okq q := List.forall_mem_cons.mpr ⟨lw_p0, List.forall_mem_cons.mpr ⟨lw_p1, List.forall_mem_cons.mpr ⟨lw_p2, List.forall_mem_cons.mpr ⟨lw_p3, List.forall_mem_cons.mpr ⟨lw_p4, List.forall_mem_cons.mpr ⟨lw_p5, List.forall_mem_cons.mpr ⟨lw_p6, List.forall_mem_cons.mpr ⟨lw_p7, List.forall_mem_cons.mpr ⟨lw_p8, List.forall_mem_cons.mpr ⟨lw_p9, List.forall_mem_cons.mpr ⟨lw_p10, List.forall_mem_cons.mpr ⟨lw_p11, List.forall_mem_cons.mpr ⟨lw_p12, List.forall_mem_cons.mpr ⟨lw_p13, List.forall_mem_cons.mpr ⟨lw_p14, List.forall_mem_cons.mpr ⟨lw_p15, fun _ h => absurd h List.not_mem_nil⟩⟩⟩⟩⟩⟩⟩⟩⟩⟩⟩⟩⟩⟩⟩⟩
theorem lw_p16 : lw_okq (⟨"ThreeMasters", "refuseItem", "(III)I"⟩, 10) := ⟨⟨by decide +kernel, by decide +kernel⟩, List.mem_of_getElem? (i := 15) (by decide +kernel), List.mem_of_getElem? (i := 578) (by decide +kernel), List.mem_of_getElem? (i := 579) (by decide +kernel)⟩
theorem lw_p17 : lw_okq (⟨"ThreeMasters", "mixFloor", "(JI)J"⟩, 10) := ⟨⟨by decide +kernel, by decide +kernel⟩, List.mem_of_getElem? (i := 15) (by decide +kernel), List.mem_of_getElem? (i := 626) (by decide +kernel), List.mem_of_getElem? (i := 627) (by decide +kernel)⟩
theorem lw_p18 : lw_okq (⟨"ThreeMasters", "mixMaster", "(JI)J"⟩, 10) := ⟨⟨by decide +kernel, by decide +kernel⟩, List.mem_of_getElem? (i := 15) (by decide +kernel), List.mem_of_getElem? (i := 637) (by decide +kernel), List.mem_of_getElem? (i := 638) (by decide +kernel)⟩
theorem lw_p19 : lw_okq (⟨"ThreeMastersModel", "reads", "()I"⟩, 21) := ⟨⟨by decide +kernel, by decide +kernel⟩, List.mem_of_getElem? (i := 649) (by decide +kernel), List.mem_of_getElem? (i := 739) (by decide +kernel), List.mem_of_getElem? (i := 740) (by decide +kernel)⟩
theorem lw_p20 : lw_okq (⟨"ThreeMastersModel", "numberAt", "(I)I"⟩, 21) := ⟨⟨by decide +kernel, by decide +kernel⟩, List.mem_of_getElem? (i := 649) (by decide +kernel), List.mem_of_getElem? (i := 743) (by decide +kernel), List.mem_of_getElem? (i := 744) (by decide +kernel)⟩
theorem lw_p21 : lw_okq (⟨"ThreeMastersModel", "figures", "(I)I"⟩, 21) := ⟨⟨by decide +kernel, by decide +kernel⟩, List.mem_of_getElem? (i := 649) (by decide +kernel), List.mem_of_getElem? (i := 747) (by decide +kernel), List.mem_of_getElem? (i := 748) (by decide +kernel)⟩
theorem lw_p22 : lw_okq (⟨"ThreeMastersModel", "byteAt", "(I)I"⟩, 21) := ⟨⟨by decide +kernel, by decide +kernel⟩, List.mem_of_getElem? (i := 649) (by decide +kernel), List.mem_of_getElem? (i := 751) (by decide +kernel), List.mem_of_getElem? (i := 752) (by decide +kernel)⟩
theorem lw_p23 : lw_okq (⟨"ThreeMastersModel", "isFloor", "(I)Z"⟩, 21) := ⟨⟨by decide +kernel, by decide +kernel⟩, List.mem_of_getElem? (i := 649) (by decide +kernel), List.mem_of_getElem? (i := 759) (by decide +kernel), List.mem_of_getElem? (i := 760) (by decide +kernel)⟩
theorem lw_p24 : lw_okq (⟨"ThreeMastersModel", "floorsNow", "()I"⟩, 21) := ⟨⟨by decide +kernel, by decide +kernel⟩, List.mem_of_getElem? (i := 649) (by decide +kernel), List.mem_of_getElem? (i := 763) (by decide +kernel), List.mem_of_getElem? (i := 764) (by decide +kernel)⟩
theorem lw_p25 : lw_okq (⟨"ThreeMastersModel", "floorOf", "(II)I"⟩, 21) := ⟨⟨by decide +kernel, by decide +kernel⟩, List.mem_of_getElem? (i := 649) (by decide +kernel), List.mem_of_getElem? (i := 767) (by decide +kernel), List.mem_of_getElem? (i := 768) (by decide +kernel)⟩
theorem lw_p26 : lw_okq (⟨"ThreeMastersModel", "builtOf", "(I)I"⟩, 21) := ⟨⟨by decide +kernel, by decide +kernel⟩, List.mem_of_getElem? (i := 649) (by decide +kernel), List.mem_of_getElem? (i := 771) (by decide +kernel), List.mem_of_getElem? (i := 772) (by decide +kernel)⟩
theorem lw_p27 : lw_okq (⟨"ThreeMastersModel", "cutBy", "(II)I"⟩, 21) := ⟨⟨by decide +kernel, by decide +kernel⟩, List.mem_of_getElem? (i := 649) (by decide +kernel), List.mem_of_getElem? (i := 775) (by decide +kernel), List.mem_of_getElem? (i := 776) (by decide +kernel)⟩
theorem lw_p28 : lw_okq (⟨"ThreeMastersModel", "sillOf", "(II)I"⟩, 21) := ⟨⟨by decide +kernel, by decide +kernel⟩, List.mem_of_getElem? (i := 649) (by decide +kernel), List.mem_of_getElem? (i := 797) (by decide +kernel), List.mem_of_getElem? (i := 798) (by decide +kernel)⟩
theorem lw_p29 : lw_okq (⟨"ThreeMastersModel", "worstNow", "()I"⟩, 21) := ⟨⟨by decide +kernel, by decide +kernel⟩, List.mem_of_getElem? (i := 649) (by decide +kernel), List.mem_of_getElem? (i := 805) (by decide +kernel), List.mem_of_getElem? (i := 806) (by decide +kernel)⟩
theorem lw_p30 : lw_okq (⟨"ThreeMastersModel", "evenOf", "(IIII)I"⟩, 21) := ⟨⟨by decide +kernel, by decide +kernel⟩, List.mem_of_getElem? (i := 649) (by decide +kernel), List.mem_of_getElem? (i := 820) (by decide +kernel), List.mem_of_getElem? (i := 821) (by decide +kernel)⟩
theorem lw_p31 : lw_okq (⟨"ThreeMastersModel", "blameOf", "(III)J"⟩, 21) := ⟨⟨by decide +kernel, by decide +kernel⟩, List.mem_of_getElem? (i := 649) (by decide +kernel), List.mem_of_getElem? (i := 828) (by decide +kernel), List.mem_of_getElem? (i := 829) (by decide +kernel)⟩
def lw_privs_2 : List (MethodName × Nat) := [(⟨"ThreeMasters", "refuseItem", "(III)I"⟩, 10), (⟨"ThreeMasters", "mixFloor", "(JI)J"⟩, 10), (⟨"ThreeMasters", "mixMaster", "(JI)J"⟩, 10), (⟨"ThreeMastersModel", "reads", "()I"⟩, 21), (⟨"ThreeMastersModel", "numberAt", "(I)I"⟩, 21), (⟨"ThreeMastersModel", "figures", "(I)I"⟩, 21), (⟨"ThreeMastersModel", "byteAt", "(I)I"⟩, 21), (⟨"ThreeMastersModel", "isFloor", "(I)Z"⟩, 21), (⟨"ThreeMastersModel", "floorsNow", "()I"⟩, 21), (⟨"ThreeMastersModel", "floorOf", "(II)I"⟩, 21), (⟨"ThreeMastersModel", "builtOf", "(I)I"⟩, 21), (⟨"ThreeMastersModel", "cutBy", "(II)I"⟩, 21), (⟨"ThreeMastersModel", "sillOf", "(II)I"⟩, 21), (⟨"ThreeMastersModel", "worstNow", "()I"⟩, 21), (⟨"ThreeMastersModel", "evenOf", "(IIII)I"⟩, 21), (⟨"ThreeMastersModel", "blameOf", "(III)J"⟩, 21)]
theorem lw_r2 : ∀ q ∈ lw_privs_2, lw_okq q := List.forall_mem_cons.mpr ⟨lw_p16, List.forall_mem_cons.mpr ⟨lw_p17, List.forall_mem_cons.mpr ⟨lw_p18, List.forall_mem_cons.mpr ⟨lw_p19, List.forall_mem_cons.mpr ⟨lw_p20, List.forall_mem_cons.mpr ⟨lw_p21, List.forall_mem_cons.mpr ⟨lw_p22, List.forall_mem_cons.mpr ⟨lw_p23, List.forall_mem_cons.mpr ⟨lw_p24, List.forall_mem_cons.mpr ⟨lw_p25, List.forall_mem_cons.mpr ⟨lw_p26, List.forall_mem_cons.mpr ⟨lw_p27, List.forall_mem_cons.mpr ⟨lw_p28, List.forall_mem_cons.mpr ⟨lw_p29, List.forall_mem_cons.mpr ⟨lw_p30, List.forall_mem_cons.mpr ⟨lw_p31, fun _ h => absurd h List.not_mem_nil⟩⟩⟩⟩⟩⟩⟩⟩⟩⟩⟩⟩⟩⟩⟩⟩
theorem lw_p32 : lw_okq (⟨"ThreeMastersModel", "blameBy", "(I)I"⟩, 21) := ⟨⟨by decide +kernel, by decide +kernel⟩, List.mem_of_getElem? (i := 649) (by decide +kernel), List.mem_of_getElem? (i := 832) (by decide +kernel), List.mem_of_getElem? (i := 833) (by decide +kernel)⟩
theorem lw_p33 : lw_okq (⟨"ThreeMastersModel", "meets", "(I)I"⟩, 21) := ⟨⟨by decide +kernel, by decide +kernel⟩, List.mem_of_getElem? (i := 649) (by decide +kernel), List.mem_of_getElem? (i := 857) (by decide +kernel), List.mem_of_getElem? (i := 858) (by decide +kernel)⟩
theorem lw_p34 : lw_okq (⟨"ThreeMastersModel", "fitsOf", "(I)I"⟩, 21) := ⟨⟨by decide +kernel, by decide +kernel⟩, List.mem_of_getElem? (i := 649) (by decide +kernel), List.mem_of_getElem? (i := 865) (by decide +kernel), List.mem_of_getElem? (i := 866) (by decide +kernel)⟩
theorem lw_p35 : lw_okq (⟨"ThreeMastersModel", "isFit", "(II)Z"⟩, 21) := ⟨⟨by decide +kernel, by decide +kernel⟩, List.mem_of_getElem? (i := 649) (by decide +kernel), List.mem_of_getElem? (i := 869) (by decide +kernel), List.mem_of_getElem? (i := 870) (by decide +kernel)⟩
theorem lw_p36 : lw_okq (⟨"ThreeMastersModel", "worldsBy", "(II)J"⟩, 21) := ⟨⟨by decide +kernel, by decide +kernel⟩, List.mem_of_getElem? (i := 649) (by decide +kernel), List.mem_of_getElem? (i := 877) (by decide +kernel), List.mem_of_getElem? (i := 878) (by decide +kernel)⟩
theorem lw_p37 : lw_okq (⟨"ThreeMastersModel", "oddsOf", "(III)J"⟩, 21) := ⟨⟨by decide +kernel, by decide +kernel⟩, List.mem_of_getElem? (i := 649) (by decide +kernel), List.mem_of_getElem? (i := 885) (by decide +kernel), List.mem_of_getElem? (i := 886) (by decide +kernel)⟩
theorem lw_p38 : lw_okq (⟨"ThreeMastersModel", "spread", "(II)I"⟩, 21) := ⟨⟨by decide +kernel, by decide +kernel⟩, List.mem_of_getElem? (i := 649) (by decide +kernel), List.mem_of_getElem? (i := 897) (by decide +kernel), List.mem_of_getElem? (i := 898) (by decide +kernel)⟩
theorem lw_p39 : lw_okq (⟨"ThreeMastersModel", "liftsNow", "()I"⟩, 21) := ⟨⟨by decide +kernel, by decide +kernel⟩, List.mem_of_getElem? (i := 649) (by decide +kernel), List.mem_of_getElem? (i := 905) (by decide +kernel), List.mem_of_getElem? (i := 906) (by decide +kernel)⟩
theorem lw_p40 : lw_okq (⟨"ThreeMastersModel", "longestOf", "(II)I"⟩, 21) := ⟨⟨by decide +kernel, by decide +kernel⟩, List.mem_of_getElem? (i := 649) (by decide +kernel), List.mem_of_getElem? (i := 913) (by decide +kernel), List.mem_of_getElem? (i := 914) (by decide +kernel)⟩
theorem lw_p41 : lw_okq (⟨"ThreeMastersModel", "mends", "(I)I"⟩, 21) := ⟨⟨by decide +kernel, by decide +kernel⟩, List.mem_of_getElem? (i := 649) (by decide +kernel), List.mem_of_getElem? (i := 921) (by decide +kernel), List.mem_of_getElem? (i := 922) (by decide +kernel)⟩
theorem lw_p42 : lw_okq (⟨"ThreeMastersModel", "nextOf", "(II)I"⟩, 21) := ⟨⟨by decide +kernel, by decide +kernel⟩, List.mem_of_getElem? (i := 649) (by decide +kernel), List.mem_of_getElem? (i := 930) (by decide +kernel), List.mem_of_getElem? (i := 931) (by decide +kernel)⟩
theorem lw_p43 : lw_okq (⟨"ThreeMastersModel", "bearsOf", "(II)I"⟩, 21) := ⟨⟨by decide +kernel, by decide +kernel⟩, List.mem_of_getElem? (i := 649) (by decide +kernel), List.mem_of_getElem? (i := 942) (by decide +kernel), List.mem_of_getElem? (i := 943) (by decide +kernel)⟩
theorem lw_p44 : lw_okq (⟨"ThreeMastersModel", "safeBy", "(II)I"⟩, 21) := ⟨⟨by decide +kernel, by decide +kernel⟩, List.mem_of_getElem? (i := 649) (by decide +kernel), List.mem_of_getElem? (i := 950) (by decide +kernel), List.mem_of_getElem? (i := 951) (by decide +kernel)⟩
theorem lw_p45 : lw_okq (⟨"ThreeMastersModel", "moreNow", "()I"⟩, 21) := ⟨⟨by decide +kernel, by decide +kernel⟩, List.mem_of_getElem? (i := 649) (by decide +kernel), List.mem_of_getElem? (i := 958) (by decide +kernel), List.mem_of_getElem? (i := 959) (by decide +kernel)⟩
theorem lw_p46 : lw_okq (⟨"ThreeMastersModel", "stonesOf", "(I)I"⟩, 21) := ⟨⟨by decide +kernel, by decide +kernel⟩, List.mem_of_getElem? (i := 649) (by decide +kernel), List.mem_of_getElem? (i := 966) (by decide +kernel), List.mem_of_getElem? (i := 967) (by decide +kernel)⟩
theorem lw_p47 : lw_okq (⟨"ThreeMastersModel", "lacks", "(III)I"⟩, 21) := ⟨⟨by decide +kernel, by decide +kernel⟩, List.mem_of_getElem? (i := 649) (by decide +kernel), List.mem_of_getElem? (i := 985) (by decide +kernel), List.mem_of_getElem? (i := 986) (by decide +kernel)⟩
def lw_privs_3 : List (MethodName × Nat) := [(⟨"ThreeMastersModel", "blameBy", "(I)I"⟩, 21), (⟨"ThreeMastersModel", "meets", "(I)I"⟩, 21), (⟨"ThreeMastersModel", "fitsOf", "(I)I"⟩, 21), (⟨"ThreeMastersModel", "isFit", "(II)Z"⟩, 21), (⟨"ThreeMastersModel", "worldsBy", "(II)J"⟩, 21), (⟨"ThreeMastersModel", "oddsOf", "(III)J"⟩, 21), (⟨"ThreeMastersModel", "spread", "(II)I"⟩, 21), (⟨"ThreeMastersModel", "liftsNow", "()I"⟩, 21), (⟨"ThreeMastersModel", "longestOf", "(II)I"⟩, 21), (⟨"ThreeMastersModel", "mends", "(I)I"⟩, 21), (⟨"ThreeMastersModel", "nextOf", "(II)I"⟩, 21), (⟨"ThreeMastersModel", "bearsOf", "(II)I"⟩, 21), (⟨"ThreeMastersModel", "safeBy", "(II)I"⟩, 21), (⟨"ThreeMastersModel", "moreNow", "()I"⟩, 21), (⟨"ThreeMastersModel", "stonesOf", "(I)I"⟩, 21), (⟨"ThreeMastersModel", "lacks", "(III)I"⟩, 21)]
theorem lw_r3 : ∀ q ∈ lw_privs_3, lw_okq q := List.forall_mem_cons.mpr ⟨lw_p32, List.forall_mem_cons.mpr ⟨lw_p33, List.forall_mem_cons.mpr ⟨lw_p34, List.forall_mem_cons.mpr ⟨lw_p35, List.forall_mem_cons.mpr ⟨lw_p36, List.forall_mem_cons.mpr ⟨lw_p37, List.forall_mem_cons.mpr ⟨lw_p38, List.forall_mem_cons.mpr ⟨lw_p39, List.forall_mem_cons.mpr ⟨lw_p40, List.forall_mem_cons.mpr ⟨lw_p41, List.forall_mem_cons.mpr ⟨lw_p42, List.forall_mem_cons.mpr ⟨lw_p43, List.forall_mem_cons.mpr ⟨lw_p44, List.forall_mem_cons.mpr ⟨lw_p45, List.forall_mem_cons.mpr ⟨lw_p46, List.forall_mem_cons.mpr ⟨lw_p47, fun _ h => absurd h List.not_mem_nil⟩⟩⟩⟩⟩⟩⟩⟩⟩⟩⟩⟩⟩⟩⟩⟩
theorem lw_p48 : lw_okq (⟨"ThreeMastersModel", "keep", "(III)V"⟩, 21) := ⟨⟨by decide +kernel, by decide +kernel⟩, List.mem_of_getElem? (i := 649) (by decide +kernel), List.mem_of_getElem? (i := 989) (by decide +kernel), List.mem_of_getElem? (i := 990) (by decide +kernel)⟩
theorem lw_p49 : lw_okq (⟨"ThreeMastersModel", "sumOf", "(I)I"⟩, 21) := ⟨⟨by decide +kernel, by decide +kernel⟩, List.mem_of_getElem? (i := 649) (by decide +kernel), List.mem_of_getElem? (i := 1010) (by decide +kernel), List.mem_of_getElem? (i := 1011) (by decide +kernel)⟩
def lw_privs_4 : List (MethodName × Nat) := [(⟨"ThreeMastersModel", "keep", "(III)V"⟩, 21), (⟨"ThreeMastersModel", "sumOf", "(I)I"⟩, 21)]
theorem lw_r4 : ∀ q ∈ lw_privs_4, lw_okq q := List.forall_mem_cons.mpr ⟨lw_p48, List.forall_mem_cons.mpr ⟨lw_p49, fun _ h => absurd h List.not_mem_nil⟩⟩
def lw_privs : List (MethodName × Nat) := lw_privs_1 ++ (lw_privs_2 ++ (lw_privs_3 ++ (lw_privs_4)))
def lw_tbl : List Cond := k2_sels lw_privs ++ tables_1
theorem lw_privs_ok : ∀ q ∈ lw_privs, lw_okq q := by
  show ∀ q ∈ lw_privs_1 ++ (lw_privs_2 ++ (lw_privs_3 ++ (lw_privs_4))), lw_okq q
  exact List.forall_mem_append.mpr ⟨lw_r1, List.forall_mem_append.mpr ⟨lw_r2, List.forall_mem_append.mpr ⟨lw_r3, lw_r4⟩⟩⟩
end
section
/-! names, fields: printed for the claim; the good words of the tables -/
def RX0 : String := "ThreeMasters$Finds"
def TX0 : u_T := fun k => match k with
  | 0 => ("ThreeMasters$Finds", "measures", "LThreeMasters$Measures;", true)
  | 1 => ("ThreeMasters$Finds", "tower", "LThreeMasters$Tower;", true)
  | 2 => ("ThreeMasters$Finds", "heights", "[I", true)
  | _ => ("ThreeMasters$Finds", "endings", "[J", true)
def tyX0 : Nat → FieldType := fun k => match k with
  | 0 => .object "ThreeMasters$Measures"
  | 1 => .object "ThreeMasters$Tower"
  | 2 => .array .int
  | _ => .array .long
abbrev wsX00 : List Cond := u_ws RX0 TX0 4
theorem nmX0 : ∀ a, a < 4 → ∀ b, b < 4 → a ≠ b → (TX0 a).2.1 ≠ (TX0 b).2.1 := by decide +kernel
theorem tyX0_ok : ∀ k, k < 4 → parseFieldDescriptor (TX0 k).2.2.1 = some (tyX0 k) := by decide +kernel
abbrev cX0_init : ByteArray := prog_2_method_1_code
def yX0_init : MethodName := ⟨RX0, "<init>", "(LThreeMasters$Measures;LThreeMasters$Tower;)V"⟩
abbrev cX0_howMany : ByteArray := prog_2_method_2_code
def yX0_howMany : MethodName := ⟨RX0, "howMany", "()I"⟩
abbrev cX0_fitBits : ByteArray := prog_2_method_3_code
def yX0_fitBits : MethodName := ⟨RX0, "fitBits", "(II)I"⟩
abbrev cX0_countWorlds : ByteArray := prog_2_method_4_code
def yX0_countWorlds : MethodName := ⟨RX0, "countWorlds", "(III)J"⟩
abbrev cX0_addFloor : ByteArray := prog_2_method_5_code
def yX0_addFloor : MethodName := ⟨RX0, "addFloor", "(IJ)J"⟩
def RX1 : String := "ThreeMasters$Loads"
def TX1 : u_T := fun k => match k with
  | 0 => ("ThreeMasters$Loads", "tower", "LThreeMasters$Tower;", true)
  | _ => ("ThreeMasters$Loads", "weights", "[I", true)
def tyX1 : Nat → FieldType := fun k => match k with
  | 0 => .object "ThreeMasters$Tower"
  | _ => .array .int
abbrev wsX10 : List Cond := u_ws RX1 TX1 2
theorem nmX1 : ∀ a, a < 2 → ∀ b, b < 2 → a ≠ b → (TX1 a).2.1 ≠ (TX1 b).2.1 := by decide +kernel
theorem tyX1_ok : ∀ k, k < 2 → parseFieldDescriptor (TX1 k).2.2.1 = some (tyX1 k) := by decide +kernel
abbrev cX1_init : ByteArray := prog_3_method_1_code
def yX1_init : MethodName := ⟨RX1, "<init>", "(LThreeMasters$Tower;)V"⟩
abbrev cX1_strength : ByteArray := prog_3_method_2_code
def yX1_strength : MethodName := ⟨RX1, "strength", "(II)I"⟩
abbrev cX1_firstOverborne : ByteArray := prog_3_method_3_code
def yX1_firstOverborne : MethodName := ⟨RX1, "firstOverborne", "(I)I"⟩
abbrev cX1_spareOnTop : ByteArray := prog_3_method_4_code
def yX1_spareOnTop : MethodName := ⟨RX1, "spareOnTop", "()I"⟩
abbrev cX1_reserve : ByteArray := prog_3_method_5_code
def yX1_reserve : MethodName := ⟨RX1, "reserve", "(II)I"⟩
def RX2 : String := "ThreeMasters$Measures"
def TX2 : u_T := fun k => match k with
  | 0 => ("ThreeMasters$Measures", "sizes", "[I", true)
  | _ => ("ThreeMasters$Measures", "grids", "[I", true)
def tyX2 : Nat → FieldType := fun k => match k with
  | 0 => .array .int
  | _ => .array .int
abbrev wsX20 : List Cond := u_ws RX2 TX2 2
theorem nmX2 : ∀ a, a < 2 → ∀ b, b < 2 → a ≠ b → (TX2 a).2.1 ≠ (TX2 b).2.1 := by decide +kernel
theorem tyX2_ok : ∀ k, k < 2 → parseFieldDescriptor (TX2 k).2.2.1 = some (tyX2 k) := by decide +kernel
abbrev cX2_init : ByteArray := prog_4_method_1_code
def yX2_init : MethodName := ⟨RX2, "<init>", "()V"⟩
abbrev cX2_exchange : ByteArray := prog_4_method_2_code
def yX2_exchange : MethodName := ⟨RX2, "exchange", "(III)I"⟩
abbrev cX2_toParts : ByteArray := prog_4_method_3_code
def yX2_toParts : MethodName := ⟨RX2, "toParts", "(III)I"⟩
def RX3 : String := "ThreeMasters$Mender"
def TX3 : u_T := fun k => match k with
  | _ => ("ThreeMasters$Mender", "row", "[I", true)
def tyX3 : Nat → FieldType := fun k => match k with
  | _ => .array .int
abbrev wsX30 : List Cond := u_ws RX3 TX3 1
theorem nmX3 : ∀ a, a < 1 → ∀ b, b < 1 → a ≠ b → (TX3 a).2.1 ≠ (TX3 b).2.1 := by decide +kernel
theorem tyX3_ok : ∀ k, k < 1 → parseFieldDescriptor (TX3 k).2.2.1 = some (tyX3 k) := by decide +kernel
abbrev cX3_init : ByteArray := prog_5_method_1_code
def yX3_init : MethodName := ⟨RX3, "<init>", "()V"⟩
abbrev cX3_work : ByteArray := prog_5_method_2_code
def yX3_work : MethodName := ⟨RX3, "work", "(LThreeMasters$Tower;III)I"⟩
abbrev cX3_share : ByteArray := prog_5_method_3_code
def yX3_share : MethodName := ⟨RX3, "share", "(IIIZ)V"⟩
def RX4 : String := "ThreeMasters$Plan"
def TX4 : u_T := fun k => match k with
  | 0 => ("ThreeMasters$Plan", "text", "[I", true)
  | 1 => ("ThreeMasters$Plan", "length", "I", false)
  | 2 => ("ThreeMasters$Plan", "fault", "I", false)
  | 3 => ("ThreeMasters$Plan", "floors", "I", false)
  | 4 => ("ThreeMasters$Plan", "unit", "[I", true)
  | 5 => ("ThreeMasters$Plan", "twelfths", "[I", true)
  | 6 => ("ThreeMasters$Plan", "way", "[I", true)
  | _ => ("ThreeMasters$Plan", "at", "I", false)
def tyX4 : Nat → FieldType := fun k => match k with
  | 0 => .array .int
  | 1 => .int
  | 2 => .int
  | 3 => .int
  | 4 => .array .int
  | 5 => .array .int
  | 6 => .array .int
  | _ => .int
abbrev wsX40 : List Cond := u_ws RX4 TX4 8
theorem nmX4 : ∀ a, a < 8 → ∀ b, b < 8 → a ≠ b → (TX4 a).2.1 ≠ (TX4 b).2.1 := by decide +kernel
theorem tyX4_ok : ∀ k, k < 8 → parseFieldDescriptor (TX4 k).2.2.1 = some (tyX4 k) := by decide +kernel
abbrev cX4_init : ByteArray := prog_6_method_1_code
def yX4_init : MethodName := ⟨RX4, "<init>", "()V"⟩
abbrev cX4_append : ByteArray := prog_6_method_2_code
def yX4_append : MethodName := ⟨RX4, "append", "(I)V"⟩
abbrev cX4_clear : ByteArray := prog_6_method_3_code
def yX4_clear : MethodName := ⟨RX4, "clear", "()V"⟩
abbrev cX4_master : ByteArray := prog_6_method_4_code
def yX4_master : MethodName := ⟨RX4, "master", "(I)I"⟩
abbrev cX4_habit : ByteArray := prog_6_method_5_code
def yX4_habit : MethodName := ⟨RX4, "habit", "(I)I"⟩
abbrev cX4_scan : ByteArray := prog_6_method_6_code
def yX4_scan : MethodName := ⟨RX4, "scan", "()V"⟩
abbrev cX4_takeFloor : ByteArray := prog_6_method_7_code
def yX4_takeFloor : MethodName := ⟨RX4, "takeFloor", "(I)Z"⟩
abbrev cX4_takeNumber : ByteArray := prog_6_method_8_code
def yX4_takeNumber : MethodName := ⟨RX4, "takeNumber", "(I)I"⟩
abbrev cX4_takeUnit : ByteArray := prog_6_method_9_code
def yX4_takeUnit : MethodName := ⟨RX4, "takeUnit", "(I)Z"⟩
abbrev cX4_takeWay : ByteArray := prog_6_method_10_code
def yX4_takeWay : MethodName := ⟨RX4, "takeWay", "(I)Z"⟩
abbrev cX4_takeSign : ByteArray := prog_6_method_11_code
def yX4_takeSign : MethodName := ⟨RX4, "takeSign", "(C)Z"⟩
abbrev cX4_sign : ByteArray := prog_6_method_12_code
def yX4_sign : MethodName := ⟨RX4, "sign", "()I"⟩
abbrev cX4_isFigure : ByteArray := prog_6_method_13_code
def yX4_isFigure : MethodName := ⟨RX4, "isFigure", "(I)Z"⟩
abbrev cX4_fail : ByteArray := prog_6_method_14_code
def yX4_fail : MethodName := ⟨RX4, "fail", "(I)Z"⟩
def RX5 : String := "ThreeMasters$Shaft"
def TX5 : u_T := fun k => match k with
  | _ => ("ThreeMasters$Shaft", "leaning", "[I", true)
def tyX5 : Nat → FieldType := fun k => match k with
  | _ => .array .int
abbrev wsX50 : List Cond := u_ws RX5 TX5 1
theorem nmX5 : ∀ a, a < 1 → ∀ b, b < 1 → a ≠ b → (TX5 a).2.1 ≠ (TX5 b).2.1 := by decide +kernel
theorem tyX5_ok : ∀ k, k < 1 → parseFieldDescriptor (TX5 k).2.2.1 = some (tyX5 k) := by decide +kernel
abbrev cX5_init : ByteArray := prog_7_method_1_code
def yX5_init : MethodName := ⟨RX5, "<init>", "()V"⟩
abbrev cX5_spread : ByteArray := prog_7_method_2_code
def yX5_spread : MethodName := ⟨RX5, "spread", "(II)I"⟩
abbrev cX5_lengthFrom : ByteArray := prog_7_method_3_code
def yX5_lengthFrom : MethodName := ⟨RX5, "lengthFrom", "(III)I"⟩
def RX6 : String := "ThreeMasters$Sheet"
def TX6 : u_T := fun k => match k with
  | 0 => ("ThreeMasters$Sheet", "items", "[I", true)
  | 1 => ("ThreeMasters$Sheet", "form", "I", false)
  | _ => ("ThreeMasters$Sheet", "size", "I", false)
def tyX6 : Nat → FieldType := fun k => match k with
  | 0 => .array .int
  | 1 => .int
  | _ => .int
abbrev wsX60 : List Cond := u_ws RX6 TX6 3
theorem nmX6 : ∀ a, a < 3 → ∀ b, b < 3 → a ≠ b → (TX6 a).2.1 ≠ (TX6 b).2.1 := by decide +kernel
theorem tyX6_ok : ∀ k, k < 3 → parseFieldDescriptor (TX6 k).2.2.1 = some (tyX6 k) := by decide +kernel
abbrev cX6_init : ByteArray := prog_8_method_1_code
def yX6_init : MethodName := ⟨RX6, "<init>", "()V"⟩
abbrev cX6_isLost : ByteArray := prog_8_method_2_code
def yX6_isLost : MethodName := ⟨RX6, "isLost", "()Z"⟩
abbrev cX6_renew : ByteArray := prog_8_method_3_code
def yX6_renew : MethodName := ⟨RX6, "renew", "(II)V"⟩
abbrev cX6_hasRun : ByteArray := prog_8_method_4_code
def yX6_hasRun : MethodName := ⟨RX6, "hasRun", "(II)Z"⟩
abbrev cX6_store : ByteArray := prog_8_method_5_code
def yX6_store : MethodName := ⟨RX6, "store", "(II)V"⟩
def RX7 : String := "ThreeMasters$Tower"
def TX7 : u_T := fun k => match k with
  | 0 => ("ThreeMasters$Tower", "measures", "LThreeMasters$Measures;", true)
  | 1 => ("ThreeMasters$Tower", "plan", "LThreeMasters$Plan;", true)
  | 2 => ("ThreeMasters$Tower", "meant", "[I", true)
  | 3 => ("ThreeMasters$Tower", "unshimmed", "[I", true)
  | 4 => ("ThreeMasters$Tower", "shims", "[I", true)
  | 5 => ("ThreeMasters$Tower", "sills", "[I", true)
  | _ => ("ThreeMasters$Tower", "shoulds", "[I", true)
def tyX7 : Nat → FieldType := fun k => match k with
  | 0 => .object "ThreeMasters$Measures"
  | 1 => .object "ThreeMasters$Plan"
  | 2 => .array .int
  | 3 => .array .int
  | 4 => .array .int
  | 5 => .array .int
  | _ => .array .int
abbrev wsX70 : List Cond := u_ws RX7 TX7 7
theorem nmX7 : ∀ a, a < 7 → ∀ b, b < 7 → a ≠ b → (TX7 a).2.1 ≠ (TX7 b).2.1 := by decide +kernel
theorem tyX7_ok : ∀ k, k < 7 → parseFieldDescriptor (TX7 k).2.2.1 = some (tyX7 k) := by decide +kernel
abbrev cX7_init : ByteArray := prog_9_method_1_code
def yX7_init : MethodName := ⟨RX7, "<init>", "(LThreeMasters$Measures;LThreeMasters$Plan;)V"⟩
abbrev cX7_reckon : ByteArray := prog_9_method_2_code
def yX7_reckon : MethodName := ⟨RX7, "reckon", "()V"⟩
abbrev cX7_floors : ByteArray := prog_9_method_3_code
def yX7_floors : MethodName := ⟨RX7, "floors", "()I"⟩
abbrev cX7_built : ByteArray := prog_9_method_4_code
def yX7_built : MethodName := ⟨RX7, "built", "(I)I"⟩
abbrev cX7_off : ByteArray := prog_9_method_5_code
def yX7_off : MethodName := ⟨RX7, "off", "(I)I"⟩
abbrev cX7_missBy : ByteArray := prog_9_method_6_code
def yX7_missBy : MethodName := ⟨RX7, "missBy", "(I)I"⟩
def RX8 : String := "ThreeMasters"
def TX8 : u_T := fun k => match k with
  | 0 => ("ThreeMasters", "measures", "LThreeMasters$Measures;", true)
  | 1 => ("ThreeMasters", "plan", "LThreeMasters$Plan;", true)
  | 2 => ("ThreeMasters", "tower", "LThreeMasters$Tower;", true)
  | 3 => ("ThreeMasters", "finds", "LThreeMasters$Finds;", true)
  | 4 => ("ThreeMasters", "shaft", "LThreeMasters$Shaft;", true)
  | 5 => ("ThreeMasters", "mender", "LThreeMasters$Mender;", true)
  | 6 => ("ThreeMasters", "loads", "LThreeMasters$Loads;", true)
  | 7 => ("ThreeMasters", "sheets", "[LThreeMasters$Sheet;", true)
  | 8 => ("ThreeMasters", "settings", "[I", true)
  | _ => ("ThreeMasters", "latestFinding", "I", false)
def tyX8 : Nat → FieldType := fun k => match k with
  | 0 => .object "ThreeMasters$Measures"
  | 1 => .object "ThreeMasters$Plan"
  | 2 => .object "ThreeMasters$Tower"
  | 3 => .object "ThreeMasters$Finds"
  | 4 => .object "ThreeMasters$Shaft"
  | 5 => .object "ThreeMasters$Mender"
  | 6 => .object "ThreeMasters$Loads"
  | 7 => .array (.object "ThreeMasters$Sheet")
  | 8 => .array .int
  | _ => .int
abbrev wsX80 : List Cond := u_ws RX8 TX8 10
theorem nmX8 : ∀ a, a < 10 → ∀ b, b < 10 → a ≠ b → (TX8 a).2.1 ≠ (TX8 b).2.1 := by decide +kernel
theorem tyX8_ok : ∀ k, k < 10 → parseFieldDescriptor (TX8 k).2.2.1 = some (tyX8 k) := by decide +kernel
abbrev cX8_init : ByteArray := prog_1_method_1_code
def yX8_init : MethodName := ⟨RX8, "<init>", "()V"⟩
abbrev cX8_measure : ByteArray := prog_1_method_2_code
def yX8_measure : MethodName := ⟨RX8, "measure", "(III)I"⟩
abbrev cX8_type : ByteArray := prog_1_method_3_code
def yX8_type : MethodName := ⟨RX8, "type", "(I)I"⟩
abbrev cX8_wipe : ByteArray := prog_1_method_4_code
def yX8_wipe : MethodName := ⟨RX8, "wipe", "()I"⟩
abbrev cX8_fault : ByteArray := prog_1_method_5_code
def yX8_fault : MethodName := ⟨RX8, "fault", "()I"⟩
abbrev cX8_floor : ByteArray := prog_1_method_6_code
def yX8_floor : MethodName := ⟨RX8, "floor", "(II)I"⟩
abbrev cX8_cut : ByteArray := prog_1_method_7_code
def yX8_cut : MethodName := ⟨RX8, "cut", "(III)I"⟩
abbrev cX8_shim : ByteArray := prog_1_method_8_code
def yX8_shim : MethodName := ⟨RX8, "shim", "(II)I"⟩
abbrev cX8_set : ByteArray := prog_1_method_9_code
def yX8_set : MethodName := ⟨RX8, "set", "(II)I"⟩
abbrev cX8_sill : ByteArray := prog_1_method_10_code
def yX8_sill : MethodName := ⟨RX8, "sill", "(II)I"⟩
abbrev cX8_worst : ByteArray := prog_1_method_11_code
def yX8_worst : MethodName := ⟨RX8, "worst", "()I"⟩
abbrev cX8_stairs : ByteArray := prog_1_method_12_code
def yX8_stairs : MethodName := ⟨RX8, "stairs", "(III)I"⟩
abbrev cX8_even : ByteArray := prog_1_method_13_code
def yX8_even : MethodName := ⟨RX8, "even", "(IIII)I"⟩
abbrev cX8_blame : ByteArray := prog_1_method_14_code
def yX8_blame : MethodName := ⟨RX8, "blame", "(III)J"⟩
abbrev cX8_found : ByteArray := prog_1_method_15_code
def yX8_found : MethodName := ⟨RX8, "found", "(II)I"⟩
abbrev cX8_read : ByteArray := prog_1_method_16_code
def yX8_read : MethodName := ⟨RX8, "read", "(I)I"⟩
abbrev cX8_fits : ByteArray := prog_1_method_17_code
def yX8_fits : MethodName := ⟨RX8, "fits", "(I)I"⟩
abbrev cX8_worlds : ByteArray := prog_1_method_18_code
def yX8_worlds : MethodName := ⟨RX8, "worlds", "()J"⟩
abbrev cX8_odds : ByteArray := prog_1_method_19_code
def yX8_odds : MethodName := ⟨RX8, "odds", "(III)J"⟩
abbrev cX8_lean : ByteArray := prog_1_method_20_code
def yX8_lean : MethodName := ⟨RX8, "lean", "(II)I"⟩
abbrev cX8_runs : ByteArray := prog_1_method_21_code
def yX8_runs : MethodName := ⟨RX8, "runs", "(III)I"⟩
abbrev cX8_lifts : ByteArray := prog_1_method_22_code
def yX8_lifts : MethodName := ⟨RX8, "lifts", "()I"⟩
abbrev cX8_longest : ByteArray := prog_1_method_23_code
def yX8_longest : MethodName := ⟨RX8, "longest", "(II)I"⟩
abbrev cX8_mended : ByteArray := prog_1_method_24_code
def yX8_mended : MethodName := ⟨RX8, "mended", "(II)I"⟩
abbrev cX8_next : ByteArray := prog_1_method_25_code
def yX8_next : MethodName := ⟨RX8, "next", "(II)I"⟩
abbrev cX8_weigh : ByteArray := prog_1_method_26_code
def yX8_weigh : MethodName := ⟨RX8, "weigh", "(II)I"⟩
abbrev cX8_bears : ByteArray := prog_1_method_27_code
def yX8_bears : MethodName := ⟨RX8, "bears", "(II)I"⟩
abbrev cX8_safe : ByteArray := prog_1_method_28_code
def yX8_safe : MethodName := ⟨RX8, "safe", "(I)I"⟩
abbrev cX8_more : ByteArray := prog_1_method_29_code
def yX8_more : MethodName := ⟨RX8, "more", "()I"⟩
abbrev cX8_stones : ByteArray := prog_1_method_30_code
def yX8_stones : MethodName := ⟨RX8, "stones", "(I)I"⟩
abbrev cX8_sheet : ByteArray := prog_1_method_31_code
def yX8_sheet : MethodName := ⟨RX8, "sheet", "(III)I"⟩
abbrev cX8_lose : ByteArray := prog_1_method_32_code
def yX8_lose : MethodName := ⟨RX8, "lose", "(I)I"⟩
abbrev cX8_put : ByteArray := prog_1_method_33_code
def yX8_put : MethodName := ⟨RX8, "put", "(IIII)I"⟩
abbrev cX8_get : ByteArray := prog_1_method_34_code
def yX8_get : MethodName := ⟨RX8, "get", "(III)I"⟩
abbrev cX8_copy : ByteArray := prog_1_method_35_code
def yX8_copy : MethodName := ⟨RX8, "copy", "(IIIII)I"⟩
abbrev cX8_write : ByteArray := prog_1_method_36_code
def yX8_write : MethodName := ⟨RX8, "write", "(I)I"⟩
abbrev cX8_count : ByteArray := prog_1_method_37_code
def yX8_count : MethodName := ⟨RX8, "count", "(I)I"⟩
abbrev cX8_digest : ByteArray := prog_1_method_38_code
def yX8_digest : MethodName := ⟨RX8, "digest", "()J"⟩
abbrev cX8_mixFloor : ByteArray := prog_1_method_39_code
def yX8_mixFloor : MethodName := ⟨RX8, "mixFloor", "(JI)J"⟩
abbrev cX8_mixMaster : ByteArray := prog_1_method_40_code
def yX8_mixMaster : MethodName := ⟨RX8, "mixMaster", "(JI)J"⟩
abbrev cX8_mix : ByteArray := prog_1_method_41_code
def yX8_mix : MethodName := ⟨RX8, "mix", "(JJ)J"⟩
abbrev cX8_within : ByteArray := prog_1_method_42_code
def yX8_within : MethodName := ⟨RX8, "within", "(III)Z"⟩
abbrev cX8_isMaster : ByteArray := prog_1_method_43_code
def yX8_isMaster : MethodName := ⟨RX8, "isMaster", "(I)Z"⟩
abbrev cX8_isSheet : ByteArray := prog_1_method_44_code
def yX8_isSheet : MethodName := ⟨RX8, "isSheet", "(I)Z"⟩
abbrev cX8_isForm : ByteArray := prog_1_method_45_code
def yX8_isForm : MethodName := ⟨RX8, "isForm", "(I)Z"⟩
abbrev cX8_isHeight : ByteArray := prog_1_method_46_code
def yX8_isHeight : MethodName := ⟨RX8, "isHeight", "(I)Z"⟩
abbrev cX8_isSpot : ByteArray := prog_1_method_47_code
def yX8_isSpot : MethodName := ⟨RX8, "isSpot", "(I)Z"⟩
abbrev cX8_isFloor : ByteArray := prog_1_method_48_code
def yX8_isFloor : MethodName := ⟨RX8, "isFloor", "(I)Z"⟩
abbrev cX8_isSill : ByteArray := prog_1_method_49_code
def yX8_isSill : MethodName := ⟨RX8, "isSill", "(I)Z"⟩
abbrev cX8_refuseLong : ByteArray := prog_1_method_50_code
def yX8_refuseLong : MethodName := ⟨RX8, "refuseLong", "(I)J"⟩
abbrev cX8_finding : ByteArray := prog_1_method_51_code
def yX8_finding : MethodName := ⟨RX8, "finding", "(I)I"⟩
abbrev cX8_refuseSheet : ByteArray := prog_1_method_52_code
def yX8_refuseSheet : MethodName := ⟨RX8, "refuseSheet", "(I)I"⟩
abbrev cX8_refuseItem : ByteArray := prog_1_method_53_code
def yX8_refuseItem : MethodName := ⟨RX8, "refuseItem", "(III)I"⟩
abbrev cX8_inLowestTerms : ByteArray := prog_1_method_54_code
def yX8_inLowestTerms : MethodName := ⟨RX8, "inLowestTerms", "(JJI)J"⟩
abbrev cX8_evenSteps : ByteArray := prog_1_method_55_code
def yX8_evenSteps : MethodName := ⟨RX8, "evenSteps", "(III)I"⟩
abbrev cX8_evenHeight : ByteArray := prog_1_method_56_code
def yX8_evenHeight : MethodName := ⟨RX8, "evenHeight", "(IIII)I"⟩
abbrev cX8_offAfter : ByteArray := prog_1_method_57_code
def yX8_offAfter : MethodName := ⟨RX8, "offAfter", "(II)I"⟩
abbrev cX8_stonesFor : ByteArray := prog_1_method_58_code
def yX8_stonesFor : MethodName := ⟨RX8, "stonesFor", "(I)I"⟩
def RX9 : String := "ThreeMastersModel"
def TX9 : u_T := fun k => match k with
  | 0 => ("ThreeMastersModel", "sizesOf", "[I", true)
  | 1 => ("ThreeMastersModel", "grids", "[I", true)
  | 2 => ("ThreeMastersModel", "setting", "[I", true)
  | 3 => ("ThreeMastersModel", "typed", "I", false)
  | 4 => ("ThreeMastersModel", "text", "[I", true)
  | 5 => ("ThreeMastersModel", "floors", "I", false)
  | 6 => ("ThreeMastersModel", "meant", "[I", true)
  | 7 => ("ThreeMastersModel", "ways", "[I", true)
  | 8 => ("ThreeMastersModel", "shims", "[I", true)
  | 9 => ("ThreeMastersModel", "foundOf", "[I", true)
  | 10 => ("ThreeMastersModel", "leans", "[I", true)
  | 11 => ("ThreeMastersModel", "weights", "[I", true)
  | 12 => ("ThreeMastersModel", "many", "[J", true)
  | 13 => ("ThreeMastersModel", "next", "[J", true)
  | 14 => ("ThreeMastersModel", "mend", "[I", true)
  | 15 => ("ThreeMastersModel", "isThere", "[Z", true)
  | 16 => ("ThreeMastersModel", "forms", "[I", true)
  | 17 => ("ThreeMastersModel", "sizes", "[I", true)
  | 18 => ("ThreeMastersModel", "items", "[I", true)
  | 19 => ("ThreeMastersModel", "moved", "[I", true)
  | _ => ("ThreeMastersModel", "finding", "I", false)
def tyX9 : Nat → FieldType := fun k => match k with
  | 0 => .array .int
  | 1 => .array .int
  | 2 => .array .int
  | 3 => .int
  | 4 => .array .int
  | 5 => .int
  | 6 => .array .int
  | 7 => .array .int
  | 8 => .array .int
  | 9 => .array .int
  | 10 => .array .int
  | 11 => .array .int
  | 12 => .array .long
  | 13 => .array .long
  | 14 => .array .int
  | 15 => .array .boolean
  | 16 => .array .int
  | 17 => .array .int
  | 18 => .array .int
  | 19 => .array .int
  | _ => .int
abbrev wsX90 : List Cond := u_ws RX9 TX9 21
theorem nmX9 : ∀ a, a < 21 → ∀ b, b < 21 → a ≠ b → (TX9 a).2.1 ≠ (TX9 b).2.1 := by decide +kernel
theorem tyX9_ok : ∀ k, k < 21 → parseFieldDescriptor (TX9 k).2.2.1 = some (tyX9 k) := by decide +kernel
abbrev cX9_init : ByteArray := prog_11_method_1_code
def yX9_init : MethodName := ⟨RX9, "<init>", "()V"⟩
abbrev cX9_in : ByteArray := prog_11_method_3_code
def yX9_in : MethodName := ⟨RX9, "in", "(III)Z"⟩
abbrev cX9_amount : ByteArray := prog_11_method_4_code
def yX9_amount : MethodName := ⟨RX9, "amount", "(I)I"⟩
abbrev cX9_no : ByteArray := prog_11_method_5_code
def yX9_no : MethodName := ⟨RX9, "no", "(I)J"⟩
abbrev cX9_lowest : ByteArray := prog_11_method_6_code
def yX9_lowest : MethodName := ⟨RX9, "lowest", "(JJI)J"⟩
abbrev cX9_measure : ByteArray := prog_11_method_7_code
def yX9_measure : MethodName := ⟨RX9, "measure", "(III)I"⟩
abbrev cX9_type : ByteArray := prog_11_method_8_code
def yX9_type : MethodName := ⟨RX9, "type", "(I)I"⟩
abbrev cX9_wipe : ByteArray := prog_11_method_9_code
def yX9_wipe : MethodName := ⟨RX9, "wipe", "()I"⟩
abbrev cX9_byteAt : ByteArray := prog_11_method_10_code
def yX9_byteAt : MethodName := ⟨RX9, "byteAt", "(I)I"⟩
abbrev cX9_figures : ByteArray := prog_11_method_11_code
def yX9_figures : MethodName := ⟨RX9, "figures", "(I)I"⟩
abbrev cX9_numberAt : ByteArray := prog_11_method_12_code
def yX9_numberAt : MethodName := ⟨RX9, "numberAt", "(I)I"⟩
abbrev cX9_reads : ByteArray := prog_11_method_13_code
def yX9_reads : MethodName := ⟨RX9, "reads", "()I"⟩
abbrev cX9_fault : ByteArray := prog_11_method_14_code
def yX9_fault : MethodName := ⟨RX9, "fault", "()I"⟩
abbrev cX9_floorsNow : ByteArray := prog_11_method_15_code
def yX9_floorsNow : MethodName := ⟨RX9, "floorsNow", "()I"⟩
abbrev cX9_cutBy : ByteArray := prog_11_method_16_code
def yX9_cutBy : MethodName := ⟨RX9, "cutBy", "(II)I"⟩
abbrev cX9_builtOf : ByteArray := prog_11_method_17_code
def yX9_builtOf : MethodName := ⟨RX9, "builtOf", "(I)I"⟩
abbrev cX9_isFloor : ByteArray := prog_11_method_18_code
def yX9_isFloor : MethodName := ⟨RX9, "isFloor", "(I)Z"⟩
abbrev cX9_floorOf : ByteArray := prog_11_method_19_code
def yX9_floorOf : MethodName := ⟨RX9, "floorOf", "(II)I"⟩
abbrev cX9_floor : ByteArray := prog_11_method_20_code
def yX9_floor : MethodName := ⟨RX9, "floor", "(II)I"⟩
abbrev cX9_cut : ByteArray := prog_11_method_21_code
def yX9_cut : MethodName := ⟨RX9, "cut", "(III)I"⟩
abbrev cX9_shim : ByteArray := prog_11_method_22_code
def yX9_shim : MethodName := ⟨RX9, "shim", "(II)I"⟩
abbrev cX9_set : ByteArray := prog_11_method_23_code
def yX9_set : MethodName := ⟨RX9, "set", "(II)I"⟩
abbrev cX9_sillOf : ByteArray := prog_11_method_24_code
def yX9_sillOf : MethodName := ⟨RX9, "sillOf", "(II)I"⟩
abbrev cX9_sill : ByteArray := prog_11_method_25_code
def yX9_sill : MethodName := ⟨RX9, "sill", "(II)I"⟩
abbrev cX9_worstNow : ByteArray := prog_11_method_26_code
def yX9_worstNow : MethodName := ⟨RX9, "worstNow", "()I"⟩
abbrev cX9_worst : ByteArray := prog_11_method_27_code
def yX9_worst : MethodName := ⟨RX9, "worst", "()I"⟩
abbrev cX9_stairs : ByteArray := prog_11_method_28_code
def yX9_stairs : MethodName := ⟨RX9, "stairs", "(III)I"⟩
abbrev cX9_evenOf : ByteArray := prog_11_method_29_code
def yX9_evenOf : MethodName := ⟨RX9, "evenOf", "(IIII)I"⟩
abbrev cX9_even : ByteArray := prog_11_method_30_code
def yX9_even : MethodName := ⟨RX9, "even", "(IIII)I"⟩
abbrev cX9_blameBy : ByteArray := prog_11_method_31_code
def yX9_blameBy : MethodName := ⟨RX9, "blameBy", "(I)I"⟩
abbrev cX9_blameOf : ByteArray := prog_11_method_32_code
def yX9_blameOf : MethodName := ⟨RX9, "blameOf", "(III)J"⟩
abbrev cX9_blame : ByteArray := prog_11_method_33_code
def yX9_blame : MethodName := ⟨RX9, "blame", "(III)J"⟩
abbrev cX9_isFound : ByteArray := prog_11_method_34_code
def yX9_isFound : MethodName := ⟨RX9, "isFound", "(I)Z"⟩
abbrev cX9_found : ByteArray := prog_11_method_35_code
def yX9_found : MethodName := ⟨RX9, "found", "(II)I"⟩
abbrev cX9_read : ByteArray := prog_11_method_36_code
def yX9_read : MethodName := ⟨RX9, "read", "(I)I"⟩
abbrev cX9_isFit : ByteArray := prog_11_method_37_code
def yX9_isFit : MethodName := ⟨RX9, "isFit", "(II)Z"⟩
abbrev cX9_fitsOf : ByteArray := prog_11_method_38_code
def yX9_fitsOf : MethodName := ⟨RX9, "fitsOf", "(I)I"⟩
abbrev cX9_fits : ByteArray := prog_11_method_39_code
def yX9_fits : MethodName := ⟨RX9, "fits", "(I)I"⟩
abbrev cX9_worldsBy : ByteArray := prog_11_method_40_code
def yX9_worldsBy : MethodName := ⟨RX9, "worldsBy", "(II)J"⟩
abbrev cX9_worlds : ByteArray := prog_11_method_41_code
def yX9_worlds : MethodName := ⟨RX9, "worlds", "()J"⟩
abbrev cX9_oddsOf : ByteArray := prog_11_method_42_code
def yX9_oddsOf : MethodName := ⟨RX9, "oddsOf", "(III)J"⟩
abbrev cX9_odds : ByteArray := prog_11_method_43_code
def yX9_odds : MethodName := ⟨RX9, "odds", "(III)J"⟩
abbrev cX9_lean : ByteArray := prog_11_method_44_code
def yX9_lean : MethodName := ⟨RX9, "lean", "(II)I"⟩
abbrev cX9_spread : ByteArray := prog_11_method_45_code
def yX9_spread : MethodName := ⟨RX9, "spread", "(II)I"⟩
abbrev cX9_runs : ByteArray := prog_11_method_46_code
def yX9_runs : MethodName := ⟨RX9, "runs", "(III)I"⟩
abbrev cX9_liftsNow : ByteArray := prog_11_method_47_code
def yX9_liftsNow : MethodName := ⟨RX9, "liftsNow", "()I"⟩
abbrev cX9_lifts : ByteArray := prog_11_method_48_code
def yX9_lifts : MethodName := ⟨RX9, "lifts", "()I"⟩
abbrev cX9_longestOf : ByteArray := prog_11_method_49_code
def yX9_longestOf : MethodName := ⟨RX9, "longestOf", "(II)I"⟩
abbrev cX9_longest : ByteArray := prog_11_method_50_code
def yX9_longest : MethodName := ⟨RX9, "longest", "(II)I"⟩
abbrev cX9_mends : ByteArray := prog_11_method_51_code
def yX9_mends : MethodName := ⟨RX9, "mends", "(I)I"⟩
abbrev cX9_mended : ByteArray := prog_11_method_52_code
def yX9_mended : MethodName := ⟨RX9, "mended", "(II)I"⟩
abbrev cX9_nextOf : ByteArray := prog_11_method_53_code
def yX9_nextOf : MethodName := ⟨RX9, "nextOf", "(II)I"⟩
abbrev cX9_next : ByteArray := prog_11_method_54_code
def yX9_next : MethodName := ⟨RX9, "next", "(II)I"⟩
abbrev cX9_weigh : ByteArray := prog_11_method_55_code
def yX9_weigh : MethodName := ⟨RX9, "weigh", "(II)I"⟩
abbrev cX9_bearsOf : ByteArray := prog_11_method_56_code
def yX9_bearsOf : MethodName := ⟨RX9, "bearsOf", "(II)I"⟩
abbrev cX9_bears : ByteArray := prog_11_method_57_code
def yX9_bears : MethodName := ⟨RX9, "bears", "(II)I"⟩
abbrev cX9_safeBy : ByteArray := prog_11_method_58_code
def yX9_safeBy : MethodName := ⟨RX9, "safeBy", "(II)I"⟩
abbrev cX9_safe : ByteArray := prog_11_method_59_code
def yX9_safe : MethodName := ⟨RX9, "safe", "(I)I"⟩
abbrev cX9_moreNow : ByteArray := prog_11_method_60_code
def yX9_moreNow : MethodName := ⟨RX9, "moreNow", "()I"⟩
abbrev cX9_more : ByteArray := prog_11_method_61_code
def yX9_more : MethodName := ⟨RX9, "more", "()I"⟩
abbrev cX9_up : ByteArray := prog_11_method_62_code
def yX9_up : MethodName := ⟨RX9, "up", "(I)I"⟩
abbrev cX9_stonesOf : ByteArray := prog_11_method_63_code
def yX9_stonesOf : MethodName := ⟨RX9, "stonesOf", "(I)I"⟩
abbrev cX9_stones : ByteArray := prog_11_method_64_code
def yX9_stones : MethodName := ⟨RX9, "stones", "(I)I"⟩
abbrev cX9_meets : ByteArray := prog_11_method_65_code
def yX9_meets : MethodName := ⟨RX9, "meets", "(I)I"⟩
abbrev cX9_isSheet : ByteArray := prog_11_method_66_code
def yX9_isSheet : MethodName := ⟨RX9, "isSheet", "(I)Z"⟩
abbrev cX9_sheet : ByteArray := prog_11_method_67_code
def yX9_sheet : MethodName := ⟨RX9, "sheet", "(III)I"⟩
abbrev cX9_lose : ByteArray := prog_11_method_68_code
def yX9_lose : MethodName := ⟨RX9, "lose", "(I)I"⟩
abbrev cX9_lacks : ByteArray := prog_11_method_69_code
def yX9_lacks : MethodName := ⟨RX9, "lacks", "(III)I"⟩
abbrev cX9_keep : ByteArray := prog_11_method_70_code
def yX9_keep : MethodName := ⟨RX9, "keep", "(III)V"⟩
abbrev cX9_put : ByteArray := prog_11_method_71_code
def yX9_put : MethodName := ⟨RX9, "put", "(IIII)I"⟩
abbrev cX9_get : ByteArray := prog_11_method_72_code
def yX9_get : MethodName := ⟨RX9, "get", "(III)I"⟩
abbrev cX9_copy : ByteArray := prog_11_method_73_code
def yX9_copy : MethodName := ⟨RX9, "copy", "(IIIII)I"⟩
abbrev cX9_write : ByteArray := prog_11_method_74_code
def yX9_write : MethodName := ⟨RX9, "write", "(I)I"⟩
abbrev cX9_sumOf : ByteArray := prog_11_method_75_code
def yX9_sumOf : MethodName := ⟨RX9, "sumOf", "(I)I"⟩
abbrev cX9_count : ByteArray := prog_11_method_76_code
def yX9_count : MethodName := ⟨RX9, "count", "(I)I"⟩
abbrev cX9_digest : ByteArray := prog_11_method_77_code
def yX9_digest : MethodName := ⟨RX9, "digest", "()J"⟩
def RJ9 : String := "java/lang/Math"
def TJ9 : u_T := fun k => match k with
  | _ => ("", "", "", false)
def tyJ9 : Nat → FieldType := fun k => match k with
  | _ => .int
abbrev wsJ90 : List Cond := u_ws RJ9 TJ9 0
theorem nmJ9 : ∀ a, a < 0 → ∀ b, b < 0 → a ≠ b → (TJ9 a).2.1 ≠ (TJ9 b).2.1 := by decide +kernel
theorem tyJ9_ok : ∀ k, k < 0 → parseFieldDescriptor (TJ9 k).2.2.1 = some (tyJ9 k) := by decide +kernel
abbrev cJ9_floorDiv_7cf53 : ByteArray := prog_12_method_47_code
def yJ9_floorDiv_7cf53 : MethodName := ⟨RJ9, "floorDiv", "(II)I"⟩
abbrev cJ9_abs_0f7a4 : ByteArray := prog_12_method_59_code
def yJ9_abs_0f7a4 : MethodName := ⟨RJ9, "abs", "(I)I"⟩
abbrev cJ9_max_7cf53 : ByteArray := prog_12_method_65_code
def yJ9_max_7cf53 : MethodName := ⟨RJ9, "max", "(II)I"⟩
abbrev cJ9_min_7cf53 : ByteArray := prog_12_method_69_code
def yJ9_min_7cf53 : MethodName := ⟨RJ9, "min", "(II)I"⟩
def RJ10 : String := "java/lang/System"
def TJ10 : u_T := fun k => match k with
  | _ => ("", "", "", false)
def tyJ10 : Nat → FieldType := fun k => match k with
  | _ => .int
abbrev wsJ100 : List Cond := u_ws RJ10 TJ10 0
theorem nmJ10 : ∀ a, a < 0 → ∀ b, b < 0 → a ≠ b → (TJ10 a).2.1 ≠ (TJ10 b).2.1 := by decide +kernel
theorem tyJ10_ok : ∀ k, k < 0 → parseFieldDescriptor (TJ10 k).2.2.1 = some (tyJ10 k) := by decide +kernel
def RJ7 : String := "java/util/Arrays"
def TJ7 : u_T := fun k => match k with
  | _ => ("", "", "", false)
def tyJ7 : Nat → FieldType := fun k => match k with
  | _ => .int
abbrev wsJ70 : List Cond := u_ws RJ7 TJ7 0
theorem nmJ7 : ∀ a, a < 0 → ∀ b, b < 0 → a ≠ b → (TJ7 a).2.1 ≠ (TJ7 b).2.1 := by decide +kernel
theorem tyJ7_ok : ∀ k, k < 0 → parseFieldDescriptor (TJ7 k).2.2.1 = some (tyJ7 k) := by decide +kernel
abbrev cJ7_fill_d0a16 : ByteArray := prog_14_method_101_code
def yJ7_fill_d0a16 : MethodName := ⟨RJ7, "fill", "([JJ)V"⟩
abbrev cJ7_fill_53178 : ByteArray := prog_14_method_103_code
def yJ7_fill_53178 : MethodName := ⟨RJ7, "fill", "([II)V"⟩
def RL : String := "ThreeMastersLaw"
abbrev cL_law : ByteArray := code
def yL_law : MethodName := ⟨RL, "law", "([I)Z"⟩
abbrev vwCl : List vw_C := [(RX0, TX0, 4), (RX1, TX1, 2), (RX2, TX2, 2), (RX3, TX3, 1), (RX4, TX4, 8), (RX5, TX5, 1), (RX6, TX6, 3), (RX7, TX7, 7), (RX8, TX8, 10), (RX9, TX9, 21)]
def xbig : List Cond := lw_tbl.filter goodWord
theorem xbig_at {w : Cond} (i : Nat) (h : lw_tbl[i]? = some w) (g : goodWord w = true) : w ∈ xbig := List.mem_filter.mpr ⟨List.mem_of_getElem? h, g⟩
theorem xbig_tbl : ∀ w ∈ xbig, w ∈ lw_tbl := fun _ h => (List.mem_filter.mp h).1
theorem xbig_good : GoodIn xbig xbig := fun _ h => ⟨h, good_of_word (List.mem_filter.mp h).2⟩
theorem xbig_r (ws : List Cond) (ps : List Nat) (hp : ws = ps.filterMap (fun i => lw_tbl[i]?)) (h : ws.all goodWord = true) : ∀ w ∈ ws, w ∈ xbig := by
  intro w hw
  have h1 := List.all_eq_true.mp h w hw
  rw [hp] at hw
  obtain ⟨i, -, hi⟩ := List.mem_filterMap.mp hw
  exact xbig_at i hi h1
set_option maxRecDepth 20000 in
theorem inbX0 : ∀ w ∈ wsX00, w ∈ xbig := xbig_r _ [171, 173, 175, 177] (by decide +kernel) (by decide +kernel)
set_option maxRecDepth 20000 in
theorem inbX1 : ∀ w ∈ wsX10, w ∈ xbig := xbig_r _ [212, 214] (by decide +kernel) (by decide +kernel)
set_option maxRecDepth 20000 in
theorem inbX2 : ∀ w ∈ wsX20, w ∈ xbig := xbig_r _ [81, 83] (by decide +kernel) (by decide +kernel)
set_option maxRecDepth 20000 in
theorem inbX3 : ∀ w ∈ wsX30, w ∈ xbig := xbig_r _ [200] (by decide +kernel) (by decide +kernel)
set_option maxRecDepth 20000 in
theorem inbX4 : ∀ w ∈ wsX40, w ∈ xbig := xbig_r _ [107, 109, 111, 113, 115, 117, 119, 121] (by decide +kernel) (by decide +kernel)
set_option maxRecDepth 20000 in
theorem inbX5 : ∀ w ∈ wsX50, w ∈ xbig := xbig_r _ [189] (by decide +kernel) (by decide +kernel)
set_option maxRecDepth 20000 in
theorem inbX6 : ∀ w ∈ wsX60, w ∈ xbig := xbig_r _ [230, 232, 234] (by decide +kernel) (by decide +kernel)
set_option maxRecDepth 20000 in
theorem inbX7 : ∀ w ∈ wsX70, w ∈ xbig := xbig_r _ [142, 144, 146, 148, 150, 152, 154] (by decide +kernel) (by decide +kernel)
set_option maxRecDepth 20000 in
theorem inbX8 : ∀ w ∈ wsX80, w ∈ xbig := xbig_r _ [247, 249, 251, 253, 255, 257, 259, 261, 263, 265] (by decide +kernel) (by decide +kernel)
set_option maxRecDepth 20000 in
theorem inbX9 : ∀ w ∈ wsX90, w ∈ xbig := xbig_r _ [725, 727, 729, 731, 733, 735, 737, 739, 741, 743, 745, 747, 749, 751, 753, 755, 757, 759, 761, 763, 765] (by decide +kernel) (by decide +kernel)
end
section
theorem kw_0 : Cond.classLink RL 7 RX8 ∈ xbig := xbig_at 64 (by decide +kernel) (by decide +kernel)
theorem kw_1 : Cond.instantiable RX8 10 ∈ xbig := xbig_at 65 (by decide +kernel) (by decide +kernel)
theorem kw_2 : Cond.initialized RX8 ∈ xbig := xbig_at 51 (by decide +kernel) (by decide +kernel)
theorem kw_3 : Cond.classLink RL 10 RX9 ∈ xbig := xbig_at 698 (by decide +kernel) (by decide +kernel)
theorem kw_4 : Cond.instantiable RX9 21 ∈ xbig := xbig_at 699 (by decide +kernel) (by decide +kernel)
theorem kw_5 : Cond.initialized RX9 ∈ xbig := xbig_at 61 (by decide +kernel) (by decide +kernel)
theorem kw_6 : Cond.methodLink RL 9 yX8_init ∈ xbig := xbig_at 66 (by decide +kernel) (by decide +kernel)
theorem kw_7 : Cond.instanceMethod yX8_init ∈ xbig := xbig_at 67 (by decide +kernel) (by decide +kernel)
set_option maxRecDepth 20000 in
theorem kw_8 : Cond.code yX8_init cX8_init 2 none ∈ xbig := xbig_at 68 rfl (by decide +kernel)
theorem kw_9 : Cond.methodLink RX8 1 objectInit ∈ xbig := xbig_at 69 (by decide +kernel) (by decide +kernel)
theorem kw_10 : Cond.instanceMethod objectInit ∈ xbig := xbig_at 70 (by decide +kernel) (by decide +kernel)
set_option maxRecDepth 20000 in
theorem kw_11 : Cond.code objectInit ⟨#[0xb1]⟩ 1 none ∈ xbig := xbig_at 71 rfl (by decide +kernel)
theorem kw_12 : Cond.arrayClass .int ∈ xbig := xbig_at 86 (by decide +kernel) (by decide +kernel)
theorem kw_13 : Cond.fieldLink RX8 7 "ThreeMasters" "settings" "[I" ∈ xbig := xbig_at 245 (by decide +kernel) (by decide +kernel)
theorem kw_14 : Cond.classLink RX8 13 RX2 ∈ xbig := xbig_at 72 (by decide +kernel) (by decide +kernel)
theorem kw_15 : Cond.instantiable RX2 2 ∈ xbig := xbig_at 73 (by decide +kernel) (by decide +kernel)
theorem kw_16 : Cond.initialized RX2 ∈ xbig := xbig_at 52 (by decide +kernel) (by decide +kernel)
theorem kw_17 : Cond.fieldLink RX8 16 "ThreeMasters" "measures" "LThreeMasters$Measures;" ∈ xbig := xbig_at 237 (by decide +kernel) (by decide +kernel)
theorem kw_18 : Cond.classLink RX8 20 RX4 ∈ xbig := xbig_at 87 (by decide +kernel) (by decide +kernel)
theorem kw_19 : Cond.instantiable RX4 8 ∈ xbig := xbig_at 88 (by decide +kernel) (by decide +kernel)
theorem kw_20 : Cond.initialized RX4 ∈ xbig := xbig_at 53 (by decide +kernel) (by decide +kernel)
theorem kw_21 : Cond.fieldLink RX8 23 "ThreeMasters" "plan" "LThreeMasters$Plan;" ∈ xbig := xbig_at 238 (by decide +kernel) (by decide +kernel)
theorem kw_22 : Cond.classLink RX8 27 RX7 ∈ xbig := xbig_at 124 (by decide +kernel) (by decide +kernel)
theorem kw_23 : Cond.instantiable RX7 7 ∈ xbig := xbig_at 125 (by decide +kernel) (by decide +kernel)
theorem kw_24 : Cond.initialized RX7 ∈ xbig := xbig_at 54 (by decide +kernel) (by decide +kernel)
theorem kw_25 : Cond.fieldLink RX8 32 "ThreeMasters" "tower" "LThreeMasters$Tower;" ∈ xbig := xbig_at 239 (by decide +kernel) (by decide +kernel)
theorem kw_26 : Cond.classLink RX8 36 RX0 ∈ xbig := xbig_at 157 (by decide +kernel) (by decide +kernel)
theorem kw_27 : Cond.instantiable RX0 4 ∈ xbig := xbig_at 158 (by decide +kernel) (by decide +kernel)
theorem kw_28 : Cond.initialized RX0 ∈ xbig := xbig_at 55 (by decide +kernel) (by decide +kernel)
theorem kw_29 : Cond.fieldLink RX8 41 "ThreeMasters" "finds" "LThreeMasters$Finds;" ∈ xbig := xbig_at 240 (by decide +kernel) (by decide +kernel)
theorem kw_30 : Cond.classLink RX8 45 RX5 ∈ xbig := xbig_at 181 (by decide +kernel) (by decide +kernel)
theorem kw_31 : Cond.instantiable RX5 1 ∈ xbig := xbig_at 182 (by decide +kernel) (by decide +kernel)
theorem kw_32 : Cond.initialized RX5 ∈ xbig := xbig_at 57 (by decide +kernel) (by decide +kernel)
theorem kw_33 : Cond.fieldLink RX8 48 "ThreeMasters" "shaft" "LThreeMasters$Shaft;" ∈ xbig := xbig_at 241 (by decide +kernel) (by decide +kernel)
theorem kw_34 : Cond.classLink RX8 52 RX3 ∈ xbig := xbig_at 192 (by decide +kernel) (by decide +kernel)
theorem kw_35 : Cond.instantiable RX3 1 ∈ xbig := xbig_at 193 (by decide +kernel) (by decide +kernel)
theorem kw_36 : Cond.initialized RX3 ∈ xbig := xbig_at 58 (by decide +kernel) (by decide +kernel)
theorem kw_37 : Cond.fieldLink RX8 55 "ThreeMasters" "mender" "LThreeMasters$Mender;" ∈ xbig := xbig_at 242 (by decide +kernel) (by decide +kernel)
theorem kw_38 : Cond.classLink RX8 59 RX1 ∈ xbig := xbig_at 203 (by decide +kernel) (by decide +kernel)
theorem kw_39 : Cond.instantiable RX1 2 ∈ xbig := xbig_at 204 (by decide +kernel) (by decide +kernel)
theorem kw_40 : Cond.initialized RX1 ∈ xbig := xbig_at 59 (by decide +kernel) (by decide +kernel)
theorem kw_41 : Cond.fieldLink RX8 64 "ThreeMasters" "loads" "LThreeMasters$Loads;" ∈ xbig := xbig_at 243 (by decide +kernel) (by decide +kernel)
theorem kw_42 : Cond.classLink RX8 68 RX6 ∈ xbig := xbig_at 217 (by decide +kernel) (by decide +kernel)
theorem kw_43 : Cond.fieldLink RX8 70 "ThreeMasters" "sheets" "[LThreeMasters$Sheet;" ∈ xbig := xbig_at 244 (by decide +kernel) (by decide +kernel)
theorem kw_44 : Cond.instantiable RX6 3 ∈ xbig := xbig_at 219 (by decide +kernel) (by decide +kernel)
theorem kw_45 : Cond.initialized RX6 ∈ xbig := xbig_at 60 (by decide +kernel) (by decide +kernel)
theorem kw_46 : Cond.instanceMethod yX2_init ∈ xbig := xbig_at 75 (by decide +kernel) (by decide +kernel)
set_option maxRecDepth 20000 in
theorem kw_47 : Cond.code yX2_init cX2_init 1 none ∈ xbig := xbig_at 76 rfl (by decide +kernel)
theorem kw_48 : Cond.methodLink RX2 1 objectInit ∈ xbig := xbig_at 77 (by decide +kernel) (by decide +kernel)
theorem kw_49 : Cond.fieldLink RX2 7 "ThreeMasters$Measures" "sizes" "[I" ∈ xbig := xbig_at 78 (by decide +kernel) (by decide +kernel)
theorem kw_50 : Cond.fieldLink RX2 13 "ThreeMasters$Measures" "grids" "[I" ∈ xbig := xbig_at 80 (by decide +kernel) (by decide +kernel)
theorem kw_51 : Cond.instanceMethod yX4_init ∈ xbig := xbig_at 90 (by decide +kernel) (by decide +kernel)
set_option maxRecDepth 20000 in
theorem kw_52 : Cond.code yX4_init cX4_init 1 none ∈ xbig := xbig_at 91 rfl (by decide +kernel)
theorem kw_53 : Cond.methodLink RX4 3 objectInit ∈ xbig := xbig_at 92 (by decide +kernel) (by decide +kernel)
theorem kw_54 : Cond.fieldLink RX4 9 "ThreeMasters$Plan" "text" "[I" ∈ xbig := xbig_at 93 (by decide +kernel) (by decide +kernel)
theorem kw_55 : Cond.fieldLink RX4 15 "ThreeMasters$Plan" "fault" "I" ∈ xbig := xbig_at 96 (by decide +kernel) (by decide +kernel)
theorem kw_56 : Cond.fieldLink RX4 19 "ThreeMasters$Plan" "unit" "[I" ∈ xbig := xbig_at 101 (by decide +kernel) (by decide +kernel)
theorem kw_57 : Cond.fieldLink RX4 22 "ThreeMasters$Plan" "twelfths" "[I" ∈ xbig := xbig_at 103 (by decide +kernel) (by decide +kernel)
theorem kw_58 : Cond.fieldLink RX4 25 "ThreeMasters$Plan" "way" "[I" ∈ xbig := xbig_at 105 (by decide +kernel) (by decide +kernel)
theorem kw_59 : Cond.methodLink RX8 29 yX7_init ∈ xbig := xbig_at 126 (by decide +kernel) (by decide +kernel)
theorem kw_60 : Cond.instanceMethod yX7_init ∈ xbig := xbig_at 127 (by decide +kernel) (by decide +kernel)
set_option maxRecDepth 20000 in
theorem kw_61 : Cond.code yX7_init cX7_init 3 none ∈ xbig := xbig_at 128 rfl (by decide +kernel)
theorem kw_62 : Cond.methodLink RX7 3 objectInit ∈ xbig := xbig_at 129 (by decide +kernel) (by decide +kernel)
theorem kw_63 : Cond.fieldLink RX7 9 "ThreeMasters$Tower" "meant" "[I" ∈ xbig := xbig_at 132 (by decide +kernel) (by decide +kernel)
theorem kw_64 : Cond.fieldLink RX7 15 "ThreeMasters$Tower" "unshimmed" "[I" ∈ xbig := xbig_at 135 (by decide +kernel) (by decide +kernel)
theorem kw_65 : Cond.fieldLink RX7 18 "ThreeMasters$Tower" "shims" "[I" ∈ xbig := xbig_at 136 (by decide +kernel) (by decide +kernel)
theorem kw_66 : Cond.fieldLink RX7 21 "ThreeMasters$Tower" "sills" "[I" ∈ xbig := xbig_at 138 (by decide +kernel) (by decide +kernel)
theorem kw_67 : Cond.fieldLink RX7 24 "ThreeMasters$Tower" "shoulds" "[I" ∈ xbig := xbig_at 140 (by decide +kernel) (by decide +kernel)
theorem kw_68 : Cond.fieldLink RX7 27 "ThreeMasters$Tower" "measures" "LThreeMasters$Measures;" ∈ xbig := xbig_at 130 (by decide +kernel) (by decide +kernel)
theorem kw_69 : Cond.fieldLink RX7 31 "ThreeMasters$Tower" "plan" "LThreeMasters$Plan;" ∈ xbig := xbig_at 131 (by decide +kernel) (by decide +kernel)
theorem kw_70 : Cond.methodLink RX8 38 yX0_init ∈ xbig := xbig_at 159 (by decide +kernel) (by decide +kernel)
theorem kw_71 : Cond.instanceMethod yX0_init ∈ xbig := xbig_at 160 (by decide +kernel) (by decide +kernel)
set_option maxRecDepth 20000 in
theorem kw_72 : Cond.code yX0_init cX0_init 3 none ∈ xbig := xbig_at 161 rfl (by decide +kernel)
theorem kw_73 : Cond.methodLink RX0 3 objectInit ∈ xbig := xbig_at 162 (by decide +kernel) (by decide +kernel)
theorem kw_74 : Cond.fieldLink RX0 9 "ThreeMasters$Finds" "heights" "[I" ∈ xbig := xbig_at 168 (by decide +kernel) (by decide +kernel)
theorem kw_75 : Cond.arrayClass .long ∈ xbig := xbig_at 180 (by decide +kernel) (by decide +kernel)
theorem kw_76 : Cond.fieldLink RX0 15 "ThreeMasters$Finds" "endings" "[J" ∈ xbig := xbig_at 170 (by decide +kernel) (by decide +kernel)
theorem kw_77 : Cond.fieldLink RX0 19 "ThreeMasters$Finds" "measures" "LThreeMasters$Measures;" ∈ xbig := xbig_at 166 (by decide +kernel) (by decide +kernel)
theorem kw_78 : Cond.fieldLink RX0 23 "ThreeMasters$Finds" "tower" "LThreeMasters$Tower;" ∈ xbig := xbig_at 167 (by decide +kernel) (by decide +kernel)
theorem kw_79 : Cond.methodLink RX0 27 yJ7_fill_53178 ∈ xbig := xbig_at 163 (by decide +kernel) (by decide +kernel)
theorem kw_80 : Cond.static yJ7_fill_53178 ∈ xbig := xbig_at 164 (by decide +kernel) (by decide +kernel)
theorem kw_81 : Cond.initialized RJ7 ∈ xbig := xbig_at 56 (by decide +kernel) (by decide +kernel)
set_option maxRecDepth 20000 in
theorem kw_82 : Cond.code yJ7_fill_53178 cJ7_fill_53178 4 none ∈ xbig := xbig_at 165 rfl (by decide +kernel)
theorem kw_83 : Cond.instanceMethod yX5_init ∈ xbig := xbig_at 184 (by decide +kernel) (by decide +kernel)
set_option maxRecDepth 20000 in
theorem kw_84 : Cond.code yX5_init cX5_init 1 none ∈ xbig := xbig_at 185 rfl (by decide +kernel)
theorem kw_85 : Cond.methodLink RX5 3 objectInit ∈ xbig := xbig_at 186 (by decide +kernel) (by decide +kernel)
theorem kw_86 : Cond.fieldLink RX5 9 "ThreeMasters$Shaft" "leaning" "[I" ∈ xbig := xbig_at 187 (by decide +kernel) (by decide +kernel)
theorem kw_87 : Cond.instanceMethod yX3_init ∈ xbig := xbig_at 195 (by decide +kernel) (by decide +kernel)
set_option maxRecDepth 20000 in
theorem kw_88 : Cond.code yX3_init cX3_init 1 none ∈ xbig := xbig_at 196 rfl (by decide +kernel)
theorem kw_89 : Cond.methodLink RX3 3 objectInit ∈ xbig := xbig_at 197 (by decide +kernel) (by decide +kernel)
theorem kw_90 : Cond.fieldLink RX3 9 "ThreeMasters$Mender" "row" "[I" ∈ xbig := xbig_at 198 (by decide +kernel) (by decide +kernel)
theorem kw_91 : Cond.methodLink RX8 61 yX1_init ∈ xbig := xbig_at 205 (by decide +kernel) (by decide +kernel)
theorem kw_92 : Cond.instanceMethod yX1_init ∈ xbig := xbig_at 206 (by decide +kernel) (by decide +kernel)
set_option maxRecDepth 20000 in
theorem kw_93 : Cond.code yX1_init cX1_init 2 none ∈ xbig := xbig_at 207 rfl (by decide +kernel)
theorem kw_94 : Cond.methodLink RX1 3 objectInit ∈ xbig := xbig_at 208 (by decide +kernel) (by decide +kernel)
theorem kw_95 : Cond.fieldLink RX1 9 "ThreeMasters$Loads" "weights" "[I" ∈ xbig := xbig_at 210 (by decide +kernel) (by decide +kernel)
theorem kw_96 : Cond.fieldLink RX1 15 "ThreeMasters$Loads" "tower" "LThreeMasters$Tower;" ∈ xbig := xbig_at 209 (by decide +kernel) (by decide +kernel)
theorem kw_97 : Cond.instanceMethod yX6_init ∈ xbig := xbig_at 221 (by decide +kernel) (by decide +kernel)
set_option maxRecDepth 20000 in
theorem kw_98 : Cond.code yX6_init cX6_init 1 none ∈ xbig := xbig_at 222 rfl (by decide +kernel)
theorem kw_99 : Cond.methodLink RX6 3 objectInit ∈ xbig := xbig_at 223 (by decide +kernel) (by decide +kernel)
theorem kw_100 : Cond.fieldLink RX6 9 "ThreeMasters$Sheet" "items" "[I" ∈ xbig := xbig_at 224 (by decide +kernel) (by decide +kernel)
theorem kw_101 : Cond.fieldLink RX6 15 "ThreeMasters$Sheet" "form" "I" ∈ xbig := xbig_at 226 (by decide +kernel) (by decide +kernel)
theorem kw_102 : Cond.methodLink RL 12 yX9_init ∈ xbig := xbig_at 700 (by decide +kernel) (by decide +kernel)
theorem kw_103 : Cond.instanceMethod yX9_init ∈ xbig := xbig_at 701 (by decide +kernel) (by decide +kernel)
set_option maxRecDepth 20000 in
theorem kw_104 : Cond.code yX9_init cX9_init 2 none ∈ xbig := xbig_at 702 rfl (by decide +kernel)
theorem kw_105 : Cond.methodLink RX9 1 objectInit ∈ xbig := xbig_at 703 (by decide +kernel) (by decide +kernel)
theorem kw_106 : Cond.fieldLink RX9 7 "ThreeMastersModel" "sizesOf" "[I" ∈ xbig := xbig_at 704 (by decide +kernel) (by decide +kernel)
theorem kw_107 : Cond.fieldLink RX9 13 "ThreeMastersModel" "grids" "[I" ∈ xbig := xbig_at 705 (by decide +kernel) (by decide +kernel)
theorem kw_108 : Cond.fieldLink RX9 16 "ThreeMastersModel" "setting" "[I" ∈ xbig := xbig_at 706 (by decide +kernel) (by decide +kernel)
theorem kw_109 : Cond.fieldLink RX9 19 "ThreeMastersModel" "text" "[I" ∈ xbig := xbig_at 708 (by decide +kernel) (by decide +kernel)
theorem kw_110 : Cond.fieldLink RX9 22 "ThreeMastersModel" "meant" "[I" ∈ xbig := xbig_at 710 (by decide +kernel) (by decide +kernel)
theorem kw_111 : Cond.fieldLink RX9 25 "ThreeMastersModel" "ways" "[I" ∈ xbig := xbig_at 711 (by decide +kernel) (by decide +kernel)
theorem kw_112 : Cond.fieldLink RX9 28 "ThreeMastersModel" "shims" "[I" ∈ xbig := xbig_at 712 (by decide +kernel) (by decide +kernel)
theorem kw_113 : Cond.fieldLink RX9 31 "ThreeMastersModel" "foundOf" "[I" ∈ xbig := xbig_at 713 (by decide +kernel) (by decide +kernel)
theorem kw_114 : Cond.fieldLink RX9 34 "ThreeMastersModel" "leans" "[I" ∈ xbig := xbig_at 714 (by decide +kernel) (by decide +kernel)
theorem kw_115 : Cond.fieldLink RX9 37 "ThreeMastersModel" "weights" "[I" ∈ xbig := xbig_at 715 (by decide +kernel) (by decide +kernel)
theorem kw_116 : Cond.fieldLink RX9 40 "ThreeMastersModel" "many" "[J" ∈ xbig := xbig_at 716 (by decide +kernel) (by decide +kernel)
theorem kw_117 : Cond.fieldLink RX9 44 "ThreeMastersModel" "next" "[J" ∈ xbig := xbig_at 717 (by decide +kernel) (by decide +kernel)
theorem kw_118 : Cond.fieldLink RX9 47 "ThreeMastersModel" "mend" "[I" ∈ xbig := xbig_at 718 (by decide +kernel) (by decide +kernel)
theorem kw_119 : Cond.arrayClass .boolean ∈ xbig := xbig_at 768 (by decide +kernel) (by decide +kernel)
theorem kw_120 : Cond.fieldLink RX9 50 "ThreeMastersModel" "isThere" "[Z" ∈ xbig := xbig_at 719 (by decide +kernel) (by decide +kernel)
theorem kw_121 : Cond.fieldLink RX9 54 "ThreeMastersModel" "forms" "[I" ∈ xbig := xbig_at 720 (by decide +kernel) (by decide +kernel)
theorem kw_122 : Cond.fieldLink RX9 57 "ThreeMastersModel" "sizes" "[I" ∈ xbig := xbig_at 721 (by decide +kernel) (by decide +kernel)
theorem kw_123 : Cond.fieldLink RX9 60 "ThreeMastersModel" "items" "[I" ∈ xbig := xbig_at 722 (by decide +kernel) (by decide +kernel)
theorem kw_124 : Cond.fieldLink RX9 63 "ThreeMastersModel" "moved" "[I" ∈ xbig := xbig_at 723 (by decide +kernel) (by decide +kernel)
theorem kw_125 : Cond.methodLink RL 13 yX8_measure ∈ xbig := xbig_at 268 (by decide +kernel) (by decide +kernel)
theorem kw_126 : Cond.instanceMethod yX8_measure ∈ xbig := xbig_at 269 (by decide +kernel) (by decide +kernel)
theorem kw_127 : Cond.selects RX8 yX8_measure yX8_measure ∈ xbig := xbig_at 270 (by decide +kernel) (by decide +kernel)
set_option maxRecDepth 20000 in
theorem kw_128 : Cond.code yX8_measure cX8_measure 5 (some .int) ∈ xbig := xbig_at 271 rfl (by decide +kernel)
theorem kw_129 : Cond.methodLink RX8 75 yX8_isMaster ∈ xbig := xbig_at 272 (by decide +kernel) (by decide +kernel)
theorem kw_130 : Cond.static yX8_isMaster ∈ xbig := xbig_at 273 (by decide +kernel) (by decide +kernel)
set_option maxRecDepth 20000 in
theorem kw_131 : Cond.code yX8_isMaster cX8_isMaster 1 (some .boolean) ∈ xbig := xbig_at 274 rfl (by decide +kernel)
theorem kw_132 : Cond.methodLink RX8 79 yX8_within ∈ xbig := xbig_at 275 (by decide +kernel) (by decide +kernel)
theorem kw_133 : Cond.static yX8_within ∈ xbig := xbig_at 276 (by decide +kernel) (by decide +kernel)
set_option maxRecDepth 20000 in
theorem kw_134 : Cond.code yX8_within cX8_within 3 (some .boolean) ∈ xbig := xbig_at 277 rfl (by decide +kernel)
theorem kw_135 : Cond.methodLink RX8 83 yX2_exchange ∈ xbig := xbig_at 278 (by decide +kernel) (by decide +kernel)
theorem kw_136 : Cond.instanceMethod yX2_exchange ∈ xbig := xbig_at 279 (by decide +kernel) (by decide +kernel)
theorem kw_137 : Cond.selects RX2 yX2_exchange yX2_exchange ∈ xbig := xbig_at 280 (by decide +kernel) (by decide +kernel)
set_option maxRecDepth 20000 in
theorem kw_138 : Cond.code yX2_exchange cX2_exchange 6 (some .int) ∈ xbig := xbig_at 281 rfl (by decide +kernel)
theorem kw_139 : Cond.methodLink RX8 87 yX7_reckon ∈ xbig := xbig_at 282 (by decide +kernel) (by decide +kernel)
theorem kw_140 : Cond.instanceMethod yX7_reckon ∈ xbig := xbig_at 283 (by decide +kernel) (by decide +kernel)
theorem kw_141 : Cond.selects RX7 yX7_reckon yX7_reckon ∈ xbig := xbig_at 284 (by decide +kernel) (by decide +kernel)
set_option maxRecDepth 20000 in
theorem kw_142 : Cond.code yX7_reckon cX7_reckon 2 none ∈ xbig := xbig_at 285 rfl (by decide +kernel)
theorem kw_143 : Cond.methodLink RX7 52 yX4_master ∈ xbig := xbig_at 286 (by decide +kernel) (by decide +kernel)
theorem kw_144 : Cond.instanceMethod yX4_master ∈ xbig := xbig_at 287 (by decide +kernel) (by decide +kernel)
theorem kw_145 : Cond.selects RX4 yX4_master yX4_master ∈ xbig := xbig_at 288 (by decide +kernel) (by decide +kernel)
set_option maxRecDepth 20000 in
theorem kw_146 : Cond.code yX4_master cX4_master 2 (some .int) ∈ xbig := xbig_at 289 rfl (by decide +kernel)
theorem kw_147 : Cond.methodLink RX7 56 yX4_habit ∈ xbig := xbig_at 290 (by decide +kernel) (by decide +kernel)
theorem kw_148 : Cond.instanceMethod yX4_habit ∈ xbig := xbig_at 291 (by decide +kernel) (by decide +kernel)
theorem kw_149 : Cond.selects RX4 yX4_habit yX4_habit ∈ xbig := xbig_at 292 (by decide +kernel) (by decide +kernel)
set_option maxRecDepth 20000 in
theorem kw_150 : Cond.code yX4_habit cX4_habit 2 (some .int) ∈ xbig := xbig_at 293 rfl (by decide +kernel)
theorem kw_151 : Cond.methodLink RX7 59 yX2_toParts ∈ xbig := xbig_at 294 (by decide +kernel) (by decide +kernel)
theorem kw_152 : Cond.instanceMethod yX2_toParts ∈ xbig := xbig_at 295 (by decide +kernel) (by decide +kernel)
theorem kw_153 : Cond.selects RX2 yX2_toParts yX2_toParts ∈ xbig := xbig_at 296 (by decide +kernel) (by decide +kernel)
set_option maxRecDepth 20000 in
theorem kw_154 : Cond.code yX2_toParts cX2_toParts 8 (some .int) ∈ xbig := xbig_at 297 rfl (by decide +kernel)
theorem kw_155 : Cond.methodLink RX7 63 yX7_built ∈ xbig := xbig_at 298 (by decide +kernel) (by decide +kernel)
theorem kw_156 : Cond.instanceMethod yX7_built ∈ xbig := xbig_at 299 (by decide +kernel) (by decide +kernel)
theorem kw_157 : Cond.selects RX7 yX7_built yX7_built ∈ xbig := xbig_at 300 (by decide +kernel) (by decide +kernel)
set_option maxRecDepth 20000 in
theorem kw_158 : Cond.code yX7_built cX7_built 2 (some .int) ∈ xbig := xbig_at 301 rfl (by decide +kernel)
theorem kw_159 : Cond.methodLink RL 17 yX9_measure ∈ xbig := xbig_at 769 (by decide +kernel) (by decide +kernel)
theorem kw_160 : Cond.instanceMethod yX9_measure ∈ xbig := xbig_at 770 (by decide +kernel) (by decide +kernel)
theorem kw_161 : Cond.selects RX9 yX9_measure yX9_measure ∈ xbig := xbig_at 771 (by decide +kernel) (by decide +kernel)
set_option maxRecDepth 20000 in
theorem kw_162 : Cond.code yX9_measure cX9_measure 5 (some .int) ∈ xbig := xbig_at 772 rfl (by decide +kernel)
theorem kw_163 : Cond.methodLink RX9 68 yX9_in ∈ xbig := xbig_at 773 (by decide +kernel) (by decide +kernel)
theorem kw_164 : Cond.static yX9_in ∈ xbig := xbig_at 774 (by decide +kernel) (by decide +kernel)
set_option maxRecDepth 20000 in
theorem kw_165 : Cond.code yX9_in cX9_in 3 (some .boolean) ∈ xbig := xbig_at 775 rfl (by decide +kernel)
theorem kw_166 : Cond.methodLink RL 18 yX8_type ∈ xbig := xbig_at 302 (by decide +kernel) (by decide +kernel)
theorem kw_167 : Cond.instanceMethod yX8_type ∈ xbig := xbig_at 303 (by decide +kernel) (by decide +kernel)
theorem kw_168 : Cond.selects RX8 yX8_type yX8_type ∈ xbig := xbig_at 304 (by decide +kernel) (by decide +kernel)
set_option maxRecDepth 20000 in
theorem kw_169 : Cond.code yX8_type cX8_type 2 (some .int) ∈ xbig := xbig_at 305 rfl (by decide +kernel)
theorem kw_170 : Cond.methodLink RX8 94 yX4_append ∈ xbig := xbig_at 306 (by decide +kernel) (by decide +kernel)
theorem kw_171 : Cond.instanceMethod yX4_append ∈ xbig := xbig_at 307 (by decide +kernel) (by decide +kernel)
theorem kw_172 : Cond.selects RX4 yX4_append yX4_append ∈ xbig := xbig_at 308 (by decide +kernel) (by decide +kernel)
set_option maxRecDepth 20000 in
theorem kw_173 : Cond.code yX4_append cX4_append 2 none ∈ xbig := xbig_at 309 rfl (by decide +kernel)
theorem kw_174 : Cond.fieldLink RX4 28 "ThreeMasters$Plan" "length" "I" ∈ xbig := xbig_at 94 (by decide +kernel) (by decide +kernel)
theorem kw_175 : Cond.methodLink RX4 31 yX4_scan ∈ xbig := xbig_at 310 (by decide +kernel) (by decide +kernel)
theorem kw_176 : Cond.instanceMethod yX4_scan ∈ xbig := xbig_at 312 (by decide +kernel) (by decide +kernel)
theorem kw_177 : Cond.selects RX4 yX4_scan yX4_scan ∈ xbig := xbig_at 0 (by decide +kernel) (by decide +kernel)
set_option maxRecDepth 20000 in
theorem kw_178 : Cond.code yX4_scan cX4_scan 3 none ∈ xbig := xbig_at 313 rfl (by decide +kernel)
theorem kw_179 : Cond.fieldLink RX4 34 "ThreeMasters$Plan" "at" "I" ∈ xbig := xbig_at 106 (by decide +kernel) (by decide +kernel)
theorem kw_180 : Cond.fieldLink RX4 48 "ThreeMasters$Plan" "floors" "I" ∈ xbig := xbig_at 99 (by decide +kernel) (by decide +kernel)
theorem kw_181 : Cond.methodLink RX4 37 yX4_takeFloor ∈ xbig := xbig_at 314 (by decide +kernel) (by decide +kernel)
theorem kw_182 : Cond.instanceMethod yX4_takeFloor ∈ xbig := xbig_at 316 (by decide +kernel) (by decide +kernel)
theorem kw_183 : Cond.selects RX4 yX4_takeFloor yX4_takeFloor ∈ xbig := xbig_at 1 (by decide +kernel) (by decide +kernel)
set_option maxRecDepth 20000 in
theorem kw_184 : Cond.code yX4_takeFloor cX4_takeFloor 4 (some .boolean) ∈ xbig := xbig_at 317 rfl (by decide +kernel)
theorem kw_185 : Cond.methodLink RX4 51 yX4_takeNumber ∈ xbig := xbig_at 318 (by decide +kernel) (by decide +kernel)
theorem kw_186 : Cond.instanceMethod yX4_takeNumber ∈ xbig := xbig_at 320 (by decide +kernel) (by decide +kernel)
theorem kw_187 : Cond.selects RX4 yX4_takeNumber yX4_takeNumber ∈ xbig := xbig_at 2 (by decide +kernel) (by decide +kernel)
set_option maxRecDepth 20000 in
theorem kw_188 : Cond.code yX4_takeNumber cX4_takeNumber 4 (some .int) ∈ xbig := xbig_at 321 rfl (by decide +kernel)
theorem kw_189 : Cond.methodLink RX4 58 yX4_sign ∈ xbig := xbig_at 322 (by decide +kernel) (by decide +kernel)
theorem kw_190 : Cond.instanceMethod yX4_sign ∈ xbig := xbig_at 324 (by decide +kernel) (by decide +kernel)
theorem kw_191 : Cond.selects RX4 yX4_sign yX4_sign ∈ xbig := xbig_at 3 (by decide +kernel) (by decide +kernel)
set_option maxRecDepth 20000 in
theorem kw_192 : Cond.code yX4_sign cX4_sign 1 (some .int) ∈ xbig := xbig_at 325 rfl (by decide +kernel)
theorem kw_193 : Cond.methodLink RX4 65 yX4_isFigure ∈ xbig := xbig_at 326 (by decide +kernel) (by decide +kernel)
theorem kw_194 : Cond.static yX4_isFigure ∈ xbig := xbig_at 327 (by decide +kernel) (by decide +kernel)
set_option maxRecDepth 20000 in
theorem kw_195 : Cond.code yX4_isFigure cX4_isFigure 1 (some .boolean) ∈ xbig := xbig_at 328 rfl (by decide +kernel)
theorem kw_196 : Cond.methodLink RX4 45 yX4_fail ∈ xbig := xbig_at 330 (by decide +kernel) (by decide +kernel)
theorem kw_197 : Cond.instanceMethod yX4_fail ∈ xbig := xbig_at 332 (by decide +kernel) (by decide +kernel)
theorem kw_198 : Cond.selects RX4 yX4_fail yX4_fail ∈ xbig := xbig_at 4 (by decide +kernel) (by decide +kernel)
set_option maxRecDepth 20000 in
theorem kw_199 : Cond.code yX4_fail cX4_fail 2 (some .boolean) ∈ xbig := xbig_at 333 rfl (by decide +kernel)
theorem kw_200 : Cond.methodLink RX4 55 yX4_takeUnit ∈ xbig := xbig_at 334 (by decide +kernel) (by decide +kernel)
theorem kw_201 : Cond.instanceMethod yX4_takeUnit ∈ xbig := xbig_at 336 (by decide +kernel) (by decide +kernel)
theorem kw_202 : Cond.selects RX4 yX4_takeUnit yX4_takeUnit ∈ xbig := xbig_at 5 (by decide +kernel) (by decide +kernel)
set_option maxRecDepth 20000 in
theorem kw_203 : Cond.code yX4_takeUnit cX4_takeUnit 3 (some .boolean) ∈ xbig := xbig_at 337 rfl (by decide +kernel)
theorem kw_204 : Cond.methodLink RX4 41 yX4_takeSign ∈ xbig := xbig_at 338 (by decide +kernel) (by decide +kernel)
theorem kw_205 : Cond.instanceMethod yX4_takeSign ∈ xbig := xbig_at 340 (by decide +kernel) (by decide +kernel)
theorem kw_206 : Cond.selects RX4 yX4_takeSign yX4_takeSign ∈ xbig := xbig_at 6 (by decide +kernel) (by decide +kernel)
set_option maxRecDepth 20000 in
theorem kw_207 : Cond.code yX4_takeSign cX4_takeSign 2 (some .boolean) ∈ xbig := xbig_at 341 rfl (by decide +kernel)
theorem kw_208 : Cond.methodLink RX4 62 yX4_takeWay ∈ xbig := xbig_at 342 (by decide +kernel) (by decide +kernel)
theorem kw_209 : Cond.instanceMethod yX4_takeWay ∈ xbig := xbig_at 344 (by decide +kernel) (by decide +kernel)
theorem kw_210 : Cond.selects RX4 yX4_takeWay yX4_takeWay ∈ xbig := xbig_at 7 (by decide +kernel) (by decide +kernel)
set_option maxRecDepth 20000 in
theorem kw_211 : Cond.code yX4_takeWay cX4_takeWay 3 (some .boolean) ∈ xbig := xbig_at 345 rfl (by decide +kernel)
theorem kw_212 : Cond.methodLink RL 22 yX9_type ∈ xbig := xbig_at 776 (by decide +kernel) (by decide +kernel)
theorem kw_213 : Cond.instanceMethod yX9_type ∈ xbig := xbig_at 777 (by decide +kernel) (by decide +kernel)
theorem kw_214 : Cond.selects RX9 yX9_type yX9_type ∈ xbig := xbig_at 778 (by decide +kernel) (by decide +kernel)
set_option maxRecDepth 20000 in
theorem kw_215 : Cond.code yX9_type cX9_type 2 (some .int) ∈ xbig := xbig_at 779 rfl (by decide +kernel)
theorem kw_216 : Cond.fieldLink RX9 72 "ThreeMastersModel" "typed" "I" ∈ xbig := xbig_at 707 (by decide +kernel) (by decide +kernel)
theorem kw_217 : Cond.methodLink RL 23 yX8_wipe ∈ xbig := xbig_at 346 (by decide +kernel) (by decide +kernel)
theorem kw_218 : Cond.instanceMethod yX8_wipe ∈ xbig := xbig_at 347 (by decide +kernel) (by decide +kernel)
theorem kw_219 : Cond.selects RX8 yX8_wipe yX8_wipe ∈ xbig := xbig_at 348 (by decide +kernel) (by decide +kernel)
set_option maxRecDepth 20000 in
theorem kw_220 : Cond.code yX8_wipe cX8_wipe 2 (some .int) ∈ xbig := xbig_at 349 rfl (by decide +kernel)
theorem kw_221 : Cond.methodLink RX8 98 yX4_clear ∈ xbig := xbig_at 350 (by decide +kernel) (by decide +kernel)
theorem kw_222 : Cond.instanceMethod yX4_clear ∈ xbig := xbig_at 351 (by decide +kernel) (by decide +kernel)
theorem kw_223 : Cond.selects RX4 yX4_clear yX4_clear ∈ xbig := xbig_at 352 (by decide +kernel) (by decide +kernel)
set_option maxRecDepth 20000 in
theorem kw_224 : Cond.code yX4_clear cX4_clear 1 none ∈ xbig := xbig_at 353 rfl (by decide +kernel)
theorem kw_225 : Cond.methodLink RL 27 yX9_wipe ∈ xbig := xbig_at 780 (by decide +kernel) (by decide +kernel)
theorem kw_226 : Cond.instanceMethod yX9_wipe ∈ xbig := xbig_at 781 (by decide +kernel) (by decide +kernel)
theorem kw_227 : Cond.selects RX9 yX9_wipe yX9_wipe ∈ xbig := xbig_at 782 (by decide +kernel) (by decide +kernel)
set_option maxRecDepth 20000 in
theorem kw_228 : Cond.code yX9_wipe cX9_wipe 2 (some .int) ∈ xbig := xbig_at 783 rfl (by decide +kernel)
theorem kw_229 : Cond.methodLink RL 28 yX8_fault ∈ xbig := xbig_at 354 (by decide +kernel) (by decide +kernel)
theorem kw_230 : Cond.instanceMethod yX8_fault ∈ xbig := xbig_at 355 (by decide +kernel) (by decide +kernel)
theorem kw_231 : Cond.selects RX8 yX8_fault yX8_fault ∈ xbig := xbig_at 356 (by decide +kernel) (by decide +kernel)
set_option maxRecDepth 20000 in
theorem kw_232 : Cond.code yX8_fault cX8_fault 1 (some .int) ∈ xbig := xbig_at 357 rfl (by decide +kernel)
theorem kw_233 : Cond.methodLink RL 31 yX9_fault ∈ xbig := xbig_at 784 (by decide +kernel) (by decide +kernel)
theorem kw_234 : Cond.instanceMethod yX9_fault ∈ xbig := xbig_at 785 (by decide +kernel) (by decide +kernel)
theorem kw_235 : Cond.selects RX9 yX9_fault yX9_fault ∈ xbig := xbig_at 786 (by decide +kernel) (by decide +kernel)
set_option maxRecDepth 20000 in
theorem kw_236 : Cond.code yX9_fault cX9_fault 1 (some .int) ∈ xbig := xbig_at 787 rfl (by decide +kernel)
theorem kw_237 : Cond.methodLink RX9 89 yX9_reads ∈ xbig := xbig_at 788 (by decide +kernel) (by decide +kernel)
theorem kw_238 : Cond.instanceMethod yX9_reads ∈ xbig := xbig_at 790 (by decide +kernel) (by decide +kernel)
theorem kw_239 : Cond.selects RX9 yX9_reads yX9_reads ∈ xbig := xbig_at 19 (by decide +kernel) (by decide +kernel)
set_option maxRecDepth 20000 in
theorem kw_240 : Cond.code yX9_reads cX9_reads 7 (some .int) ∈ xbig := xbig_at 791 rfl (by decide +kernel)
theorem kw_241 : Cond.fieldLink RX9 83 "ThreeMastersModel" "floors" "I" ∈ xbig := xbig_at 709 (by decide +kernel) (by decide +kernel)
theorem kw_242 : Cond.methodLink RX9 86 yX9_numberAt ∈ xbig := xbig_at 792 (by decide +kernel) (by decide +kernel)
theorem kw_243 : Cond.instanceMethod yX9_numberAt ∈ xbig := xbig_at 794 (by decide +kernel) (by decide +kernel)
theorem kw_244 : Cond.selects RX9 yX9_numberAt yX9_numberAt ∈ xbig := xbig_at 20 (by decide +kernel) (by decide +kernel)
set_option maxRecDepth 20000 in
theorem kw_245 : Cond.code yX9_numberAt cX9_numberAt 3 (some .int) ∈ xbig := xbig_at 795 rfl (by decide +kernel)
theorem kw_246 : Cond.methodLink RX9 80 yX9_figures ∈ xbig := xbig_at 796 (by decide +kernel) (by decide +kernel)
theorem kw_247 : Cond.instanceMethod yX9_figures ∈ xbig := xbig_at 798 (by decide +kernel) (by decide +kernel)
theorem kw_248 : Cond.selects RX9 yX9_figures yX9_figures ∈ xbig := xbig_at 21 (by decide +kernel) (by decide +kernel)
set_option maxRecDepth 20000 in
theorem kw_249 : Cond.code yX9_figures cX9_figures 3 (some .int) ∈ xbig := xbig_at 799 rfl (by decide +kernel)
theorem kw_250 : Cond.methodLink RX9 76 yX9_byteAt ∈ xbig := xbig_at 800 (by decide +kernel) (by decide +kernel)
theorem kw_251 : Cond.instanceMethod yX9_byteAt ∈ xbig := xbig_at 802 (by decide +kernel) (by decide +kernel)
theorem kw_252 : Cond.selects RX9 yX9_byteAt yX9_byteAt ∈ xbig := xbig_at 22 (by decide +kernel) (by decide +kernel)
set_option maxRecDepth 20000 in
theorem kw_253 : Cond.code yX9_byteAt cX9_byteAt 2 (some .int) ∈ xbig := xbig_at 803 rfl (by decide +kernel)
theorem kw_254 : Cond.methodLink RL 32 yX8_floor ∈ xbig := xbig_at 358 (by decide +kernel) (by decide +kernel)
theorem kw_255 : Cond.instanceMethod yX8_floor ∈ xbig := xbig_at 359 (by decide +kernel) (by decide +kernel)
theorem kw_256 : Cond.selects RX8 yX8_floor yX8_floor ∈ xbig := xbig_at 360 (by decide +kernel) (by decide +kernel)
set_option maxRecDepth 20000 in
theorem kw_257 : Cond.code yX8_floor cX8_floor 3 (some .int) ∈ xbig := xbig_at 361 rfl (by decide +kernel)
theorem kw_258 : Cond.constant RX8 107 (-100002) ∈ xbig := xbig_at 366 (by decide +kernel) (by decide +kernel)
theorem kw_259 : Cond.methodLink RX8 104 yX8_isFloor ∈ xbig := xbig_at 362 (by decide +kernel) (by decide +kernel)
theorem kw_260 : Cond.instanceMethod yX8_isFloor ∈ xbig := xbig_at 364 (by decide +kernel) (by decide +kernel)
theorem kw_261 : Cond.selects RX8 yX8_isFloor yX8_isFloor ∈ xbig := xbig_at 8 (by decide +kernel) (by decide +kernel)
set_option maxRecDepth 20000 in
theorem kw_262 : Cond.code yX8_isFloor cX8_isFloor 2 (some .boolean) ∈ xbig := xbig_at 365 rfl (by decide +kernel)
theorem kw_263 : Cond.methodLink RX8 111 yX7_built ∈ xbig := xbig_at 367 (by decide +kernel) (by decide +kernel)
theorem kw_264 : Cond.methodLink RX8 115 yX4_master ∈ xbig := xbig_at 368 (by decide +kernel) (by decide +kernel)
theorem kw_265 : Cond.methodLink RX8 118 yX4_habit ∈ xbig := xbig_at 369 (by decide +kernel) (by decide +kernel)
theorem kw_266 : Cond.methodLink RL 36 yX9_floor ∈ xbig := xbig_at 804 (by decide +kernel) (by decide +kernel)
theorem kw_267 : Cond.instanceMethod yX9_floor ∈ xbig := xbig_at 805 (by decide +kernel) (by decide +kernel)
theorem kw_268 : Cond.selects RX9 yX9_floor yX9_floor ∈ xbig := xbig_at 806 (by decide +kernel) (by decide +kernel)
set_option maxRecDepth 20000 in
theorem kw_269 : Cond.code yX9_floor cX9_floor 3 (some .int) ∈ xbig := xbig_at 807 rfl (by decide +kernel)
theorem kw_270 : Cond.constant RX9 110 (-100002) ∈ xbig := xbig_at 828 (by decide +kernel) (by decide +kernel)
theorem kw_271 : Cond.methodLink RX9 103 yX9_isFloor ∈ xbig := xbig_at 808 (by decide +kernel) (by decide +kernel)
theorem kw_272 : Cond.instanceMethod yX9_isFloor ∈ xbig := xbig_at 810 (by decide +kernel) (by decide +kernel)
theorem kw_273 : Cond.selects RX9 yX9_isFloor yX9_isFloor ∈ xbig := xbig_at 23 (by decide +kernel) (by decide +kernel)
set_option maxRecDepth 20000 in
theorem kw_274 : Cond.code yX9_isFloor cX9_isFloor 2 (some .boolean) ∈ xbig := xbig_at 811 rfl (by decide +kernel)
theorem kw_275 : Cond.methodLink RX9 97 yX9_floorsNow ∈ xbig := xbig_at 812 (by decide +kernel) (by decide +kernel)
theorem kw_276 : Cond.instanceMethod yX9_floorsNow ∈ xbig := xbig_at 814 (by decide +kernel) (by decide +kernel)
theorem kw_277 : Cond.selects RX9 yX9_floorsNow yX9_floorsNow ∈ xbig := xbig_at 24 (by decide +kernel) (by decide +kernel)
set_option maxRecDepth 20000 in
theorem kw_278 : Cond.code yX9_floorsNow cX9_floorsNow 2 (some .int) ∈ xbig := xbig_at 815 rfl (by decide +kernel)
theorem kw_279 : Cond.methodLink RX9 107 yX9_floorOf ∈ xbig := xbig_at 816 (by decide +kernel) (by decide +kernel)
theorem kw_280 : Cond.instanceMethod yX9_floorOf ∈ xbig := xbig_at 818 (by decide +kernel) (by decide +kernel)
theorem kw_281 : Cond.selects RX9 yX9_floorOf yX9_floorOf ∈ xbig := xbig_at 25 (by decide +kernel) (by decide +kernel)
set_option maxRecDepth 20000 in
theorem kw_282 : Cond.code yX9_floorOf cX9_floorOf 3 (some .int) ∈ xbig := xbig_at 819 rfl (by decide +kernel)
theorem kw_283 : Cond.methodLink RX9 100 yX9_builtOf ∈ xbig := xbig_at 820 (by decide +kernel) (by decide +kernel)
theorem kw_284 : Cond.instanceMethod yX9_builtOf ∈ xbig := xbig_at 822 (by decide +kernel) (by decide +kernel)
theorem kw_285 : Cond.selects RX9 yX9_builtOf yX9_builtOf ∈ xbig := xbig_at 26 (by decide +kernel) (by decide +kernel)
set_option maxRecDepth 20000 in
theorem kw_286 : Cond.code yX9_builtOf cX9_builtOf 2 (some .int) ∈ xbig := xbig_at 823 rfl (by decide +kernel)
theorem kw_287 : Cond.methodLink RX9 93 yX9_cutBy ∈ xbig := xbig_at 824 (by decide +kernel) (by decide +kernel)
theorem kw_288 : Cond.instanceMethod yX9_cutBy ∈ xbig := xbig_at 826 (by decide +kernel) (by decide +kernel)
theorem kw_289 : Cond.selects RX9 yX9_cutBy yX9_cutBy ∈ xbig := xbig_at 27 (by decide +kernel) (by decide +kernel)
set_option maxRecDepth 20000 in
theorem kw_290 : Cond.code yX9_cutBy cX9_cutBy 7 (some .int) ∈ xbig := xbig_at 827 rfl (by decide +kernel)
theorem kw_291 : Cond.methodLink RL 37 yX8_cut ∈ xbig := xbig_at 370 (by decide +kernel) (by decide +kernel)
theorem kw_292 : Cond.instanceMethod yX8_cut ∈ xbig := xbig_at 371 (by decide +kernel) (by decide +kernel)
theorem kw_293 : Cond.selects RX8 yX8_cut yX8_cut ∈ xbig := xbig_at 372 (by decide +kernel) (by decide +kernel)
set_option maxRecDepth 20000 in
theorem kw_294 : Cond.code yX8_cut cX8_cut 4 (some .int) ∈ xbig := xbig_at 373 rfl (by decide +kernel)
theorem kw_295 : Cond.constant RX8 127 (99999) ∈ xbig := xbig_at 374 (by decide +kernel) (by decide +kernel)
theorem kw_296 : Cond.methodLink RX8 128 yX2_toParts ∈ xbig := xbig_at 375 (by decide +kernel) (by decide +kernel)
theorem kw_297 : Cond.methodLink RL 40 yX9_cut ∈ xbig := xbig_at 829 (by decide +kernel) (by decide +kernel)
theorem kw_298 : Cond.instanceMethod yX9_cut ∈ xbig := xbig_at 830 (by decide +kernel) (by decide +kernel)
theorem kw_299 : Cond.selects RX9 yX9_cut yX9_cut ∈ xbig := xbig_at 831 (by decide +kernel) (by decide +kernel)
set_option maxRecDepth 20000 in
theorem kw_300 : Cond.code yX9_cut cX9_cut 4 (some .int) ∈ xbig := xbig_at 832 rfl (by decide +kernel)
theorem kw_301 : Cond.constant RX9 111 (99999) ∈ xbig := xbig_at 833 (by decide +kernel) (by decide +kernel)
theorem kw_302 : Cond.methodLink RL 41 yX8_shim ∈ xbig := xbig_at 376 (by decide +kernel) (by decide +kernel)
theorem kw_303 : Cond.instanceMethod yX8_shim ∈ xbig := xbig_at 377 (by decide +kernel) (by decide +kernel)
theorem kw_304 : Cond.selects RX8 yX8_shim yX8_shim ∈ xbig := xbig_at 378 (by decide +kernel) (by decide +kernel)
set_option maxRecDepth 20000 in
theorem kw_305 : Cond.code yX8_shim cX8_shim 4 (some .int) ∈ xbig := xbig_at 379 rfl (by decide +kernel)
theorem kw_306 : Cond.methodLink RX8 131 yX8_isSpot ∈ xbig := xbig_at 380 (by decide +kernel) (by decide +kernel)
theorem kw_307 : Cond.static yX8_isSpot ∈ xbig := xbig_at 381 (by decide +kernel) (by decide +kernel)
set_option maxRecDepth 20000 in
theorem kw_308 : Cond.code yX8_isSpot cX8_isSpot 1 (some .boolean) ∈ xbig := xbig_at 382 rfl (by decide +kernel)
theorem kw_309 : Cond.methodLink RL 44 yX9_shim ∈ xbig := xbig_at 834 (by decide +kernel) (by decide +kernel)
theorem kw_310 : Cond.instanceMethod yX9_shim ∈ xbig := xbig_at 835 (by decide +kernel) (by decide +kernel)
theorem kw_311 : Cond.selects RX9 yX9_shim yX9_shim ∈ xbig := xbig_at 836 (by decide +kernel) (by decide +kernel)
set_option maxRecDepth 20000 in
theorem kw_312 : Cond.code yX9_shim cX9_shim 4 (some .int) ∈ xbig := xbig_at 837 rfl (by decide +kernel)
theorem kw_313 : Cond.methodLink RL 45 yX8_set ∈ xbig := xbig_at 383 (by decide +kernel) (by decide +kernel)
theorem kw_314 : Cond.instanceMethod yX8_set ∈ xbig := xbig_at 384 (by decide +kernel) (by decide +kernel)
theorem kw_315 : Cond.selects RX8 yX8_set yX8_set ∈ xbig := xbig_at 385 (by decide +kernel) (by decide +kernel)
set_option maxRecDepth 20000 in
theorem kw_316 : Cond.code yX8_set cX8_set 4 (some .int) ∈ xbig := xbig_at 386 rfl (by decide +kernel)
theorem kw_317 : Cond.fieldLink RX8 134 "ThreeMasters" "LEAST_SET" "[I" ∈ xbig := xbig_at 387 (by decide +kernel) (by decide +kernel)
theorem kw_318 : Cond.fieldLink RX8 137 "ThreeMasters" "MOST_SET" "[I" ∈ xbig := xbig_at 389 (by decide +kernel) (by decide +kernel)
theorem kw_319 : Cond.methodLink RL 48 yX9_set ∈ xbig := xbig_at 838 (by decide +kernel) (by decide +kernel)
theorem kw_320 : Cond.instanceMethod yX9_set ∈ xbig := xbig_at 839 (by decide +kernel) (by decide +kernel)
theorem kw_321 : Cond.selects RX9 yX9_set yX9_set ∈ xbig := xbig_at 840 (by decide +kernel) (by decide +kernel)
set_option maxRecDepth 20000 in
theorem kw_322 : Cond.code yX9_set cX9_set 4 (some .int) ∈ xbig := xbig_at 841 rfl (by decide +kernel)
theorem kw_323 : Cond.methodLink RL 49 yX8_sill ∈ xbig := xbig_at 391 (by decide +kernel) (by decide +kernel)
theorem kw_324 : Cond.instanceMethod yX8_sill ∈ xbig := xbig_at 392 (by decide +kernel) (by decide +kernel)
theorem kw_325 : Cond.selects RX8 yX8_sill yX8_sill ∈ xbig := xbig_at 393 (by decide +kernel) (by decide +kernel)
set_option maxRecDepth 20000 in
theorem kw_326 : Cond.code yX8_sill cX8_sill 3 (some .int) ∈ xbig := xbig_at 394 rfl (by decide +kernel)
theorem kw_327 : Cond.methodLink RX8 140 yX8_isSill ∈ xbig := xbig_at 395 (by decide +kernel) (by decide +kernel)
theorem kw_328 : Cond.instanceMethod yX8_isSill ∈ xbig := xbig_at 397 (by decide +kernel) (by decide +kernel)
theorem kw_329 : Cond.selects RX8 yX8_isSill yX8_isSill ∈ xbig := xbig_at 9 (by decide +kernel) (by decide +kernel)
set_option maxRecDepth 20000 in
theorem kw_330 : Cond.code yX8_isSill cX8_isSill 2 (some .boolean) ∈ xbig := xbig_at 398 rfl (by decide +kernel)
theorem kw_331 : Cond.methodLink RX8 149 yX7_off ∈ xbig := xbig_at 399 (by decide +kernel) (by decide +kernel)
theorem kw_332 : Cond.instanceMethod yX7_off ∈ xbig := xbig_at 400 (by decide +kernel) (by decide +kernel)
theorem kw_333 : Cond.selects RX7 yX7_off yX7_off ∈ xbig := xbig_at 401 (by decide +kernel) (by decide +kernel)
set_option maxRecDepth 20000 in
theorem kw_334 : Cond.code yX7_off cX7_off 2 (some .int) ∈ xbig := xbig_at 402 rfl (by decide +kernel)
theorem kw_335 : Cond.methodLink RL 52 yX9_sill ∈ xbig := xbig_at 842 (by decide +kernel) (by decide +kernel)
theorem kw_336 : Cond.instanceMethod yX9_sill ∈ xbig := xbig_at 843 (by decide +kernel) (by decide +kernel)
theorem kw_337 : Cond.selects RX9 yX9_sill yX9_sill ∈ xbig := xbig_at 844 (by decide +kernel) (by decide +kernel)
set_option maxRecDepth 20000 in
theorem kw_338 : Cond.code yX9_sill cX9_sill 3 (some .int) ∈ xbig := xbig_at 845 rfl (by decide +kernel)
theorem kw_339 : Cond.methodLink RX9 112 yX9_sillOf ∈ xbig := xbig_at 846 (by decide +kernel) (by decide +kernel)
theorem kw_340 : Cond.instanceMethod yX9_sillOf ∈ xbig := xbig_at 848 (by decide +kernel) (by decide +kernel)
theorem kw_341 : Cond.selects RX9 yX9_sillOf yX9_sillOf ∈ xbig := xbig_at 28 (by decide +kernel) (by decide +kernel)
set_option maxRecDepth 20000 in
theorem kw_342 : Cond.code yX9_sillOf cX9_sillOf 6 (some .int) ∈ xbig := xbig_at 849 rfl (by decide +kernel)
theorem kw_343 : Cond.methodLink RL 53 yX8_worst ∈ xbig := xbig_at 403 (by decide +kernel) (by decide +kernel)
theorem kw_344 : Cond.instanceMethod yX8_worst ∈ xbig := xbig_at 404 (by decide +kernel) (by decide +kernel)
theorem kw_345 : Cond.selects RX8 yX8_worst yX8_worst ∈ xbig := xbig_at 405 (by decide +kernel) (by decide +kernel)
set_option maxRecDepth 20000 in
theorem kw_346 : Cond.code yX8_worst cX8_worst 3 (some .int) ∈ xbig := xbig_at 406 rfl (by decide +kernel)
theorem kw_347 : Cond.methodLink RX8 155 Lib.Math.abs.name ∈ xbig := xbig_at 407 (by decide +kernel) (by decide +kernel)
theorem kw_348 : Cond.static Lib.Math.abs.name ∈ xbig := xbig_at 408 (by decide +kernel) (by decide +kernel)
theorem kw_349 : Cond.initialized "java/lang/Math" ∈ xbig := xbig_at 62 (by decide +kernel) (by decide +kernel)
set_option maxRecDepth 20000 in
theorem kw_350 : Cond.code Lib.Math.abs.name Lib.Math.abs.code 1 (some .int) ∈ xbig := xbig_at 409 rfl (by decide +kernel)
theorem kw_351 : Cond.methodLink RL 56 yX9_worst ∈ xbig := xbig_at 850 (by decide +kernel) (by decide +kernel)
theorem kw_352 : Cond.instanceMethod yX9_worst ∈ xbig := xbig_at 851 (by decide +kernel) (by decide +kernel)
theorem kw_353 : Cond.selects RX9 yX9_worst yX9_worst ∈ xbig := xbig_at 852 (by decide +kernel) (by decide +kernel)
set_option maxRecDepth 20000 in
theorem kw_354 : Cond.code yX9_worst cX9_worst 1 (some .int) ∈ xbig := xbig_at 853 rfl (by decide +kernel)
theorem kw_355 : Cond.methodLink RX9 118 yX9_worstNow ∈ xbig := xbig_at 854 (by decide +kernel) (by decide +kernel)
theorem kw_356 : Cond.instanceMethod yX9_worstNow ∈ xbig := xbig_at 856 (by decide +kernel) (by decide +kernel)
theorem kw_357 : Cond.selects RX9 yX9_worstNow yX9_worstNow ∈ xbig := xbig_at 29 (by decide +kernel) (by decide +kernel)
set_option maxRecDepth 20000 in
theorem kw_358 : Cond.code yX9_worstNow cX9_worstNow 3 (some .int) ∈ xbig := xbig_at 857 rfl (by decide +kernel)
theorem kw_359 : Cond.methodLink RX9 115 yX9_amount ∈ xbig := xbig_at 858 (by decide +kernel) (by decide +kernel)
theorem kw_360 : Cond.static yX9_amount ∈ xbig := xbig_at 859 (by decide +kernel) (by decide +kernel)
set_option maxRecDepth 20000 in
theorem kw_361 : Cond.code yX9_amount cX9_amount 1 (some .int) ∈ xbig := xbig_at 860 rfl (by decide +kernel)
theorem kw_362 : Cond.methodLink RL 57 yX8_stairs ∈ xbig := xbig_at 410 (by decide +kernel) (by decide +kernel)
theorem kw_363 : Cond.instanceMethod yX8_stairs ∈ xbig := xbig_at 411 (by decide +kernel) (by decide +kernel)
theorem kw_364 : Cond.selects RX8 yX8_stairs yX8_stairs ∈ xbig := xbig_at 412 (by decide +kernel) (by decide +kernel)
set_option maxRecDepth 20000 in
theorem kw_365 : Cond.code yX8_stairs cX8_stairs 4 (some .int) ∈ xbig := xbig_at 413 rfl (by decide +kernel)
theorem kw_366 : Cond.methodLink RL 60 yX9_stairs ∈ xbig := xbig_at 861 (by decide +kernel) (by decide +kernel)
theorem kw_367 : Cond.instanceMethod yX9_stairs ∈ xbig := xbig_at 862 (by decide +kernel) (by decide +kernel)
theorem kw_368 : Cond.selects RX9 yX9_stairs yX9_stairs ∈ xbig := xbig_at 863 (by decide +kernel) (by decide +kernel)
set_option maxRecDepth 20000 in
theorem kw_369 : Cond.code yX9_stairs cX9_stairs 4 (some .int) ∈ xbig := xbig_at 864 rfl (by decide +kernel)
theorem kw_370 : Cond.methodLink RL 61 yX8_even ∈ xbig := xbig_at 414 (by decide +kernel) (by decide +kernel)
theorem kw_371 : Cond.instanceMethod yX8_even ∈ xbig := xbig_at 415 (by decide +kernel) (by decide +kernel)
theorem kw_372 : Cond.selects RX8 yX8_even yX8_even ∈ xbig := xbig_at 416 (by decide +kernel) (by decide +kernel)
set_option maxRecDepth 20000 in
theorem kw_373 : Cond.code yX8_even cX8_even 8 (some .int) ∈ xbig := xbig_at 417 rfl (by decide +kernel)
theorem kw_374 : Cond.methodLink RX8 160 yX8_evenSteps ∈ xbig := xbig_at 418 (by decide +kernel) (by decide +kernel)
theorem kw_375 : Cond.static yX8_evenSteps ∈ xbig := xbig_at 419 (by decide +kernel) (by decide +kernel)
set_option maxRecDepth 20000 in
theorem kw_376 : Cond.code yX8_evenSteps cX8_evenSteps 7 (some .int) ∈ xbig := xbig_at 420 rfl (by decide +kernel)
theorem kw_377 : Cond.methodLink RX8 163 yX8_evenHeight ∈ xbig := xbig_at 421 (by decide +kernel) (by decide +kernel)
theorem kw_378 : Cond.static yX8_evenHeight ∈ xbig := xbig_at 422 (by decide +kernel) (by decide +kernel)
set_option maxRecDepth 20000 in
theorem kw_379 : Cond.code yX8_evenHeight cX8_evenHeight 6 (some .int) ∈ xbig := xbig_at 423 rfl (by decide +kernel)
theorem kw_380 : Cond.methodLink RX8 187 Lib.Math.min.name ∈ xbig := xbig_at 427 (by decide +kernel) (by decide +kernel)
theorem kw_381 : Cond.static Lib.Math.min.name ∈ xbig := xbig_at 428 (by decide +kernel) (by decide +kernel)
set_option maxRecDepth 20000 in
theorem kw_382 : Cond.code Lib.Math.min.name Lib.Math.min.code 2 (some .int) ∈ xbig := xbig_at 429 rfl (by decide +kernel)
theorem kw_383 : Cond.methodLink RX8 211 Lib.Math.max.name ∈ xbig := xbig_at 430 (by decide +kernel) (by decide +kernel)
theorem kw_384 : Cond.static Lib.Math.max.name ∈ xbig := xbig_at 431 (by decide +kernel) (by decide +kernel)
set_option maxRecDepth 20000 in
theorem kw_385 : Cond.code Lib.Math.max.name Lib.Math.max.code 2 (some .int) ∈ xbig := xbig_at 432 rfl (by decide +kernel)
theorem kw_386 : Cond.methodLink RX8 358 yJ9_floorDiv_7cf53 ∈ xbig := xbig_at 424 (by decide +kernel) (by decide +kernel)
theorem kw_387 : Cond.static yJ9_floorDiv_7cf53 ∈ xbig := xbig_at 425 (by decide +kernel) (by decide +kernel)
theorem kw_388 : Cond.initialized RJ9 ∈ xbig := xbig_at 62 (by decide +kernel) (by decide +kernel)
set_option maxRecDepth 20000 in
theorem kw_389 : Cond.code yJ9_floorDiv_7cf53 cJ9_floorDiv_7cf53 3 (some .int) ∈ xbig := xbig_at 426 rfl (by decide +kernel)
theorem kw_390 : Cond.methodLink RL 65 yX9_even ∈ xbig := xbig_at 865 (by decide +kernel) (by decide +kernel)
theorem kw_391 : Cond.instanceMethod yX9_even ∈ xbig := xbig_at 866 (by decide +kernel) (by decide +kernel)
theorem kw_392 : Cond.selects RX9 yX9_even yX9_even ∈ xbig := xbig_at 867 (by decide +kernel) (by decide +kernel)
set_option maxRecDepth 20000 in
theorem kw_393 : Cond.code yX9_even cX9_even 5 (some .int) ∈ xbig := xbig_at 868 rfl (by decide +kernel)
theorem kw_394 : Cond.methodLink RX9 121 yX9_evenOf ∈ xbig := xbig_at 869 (by decide +kernel) (by decide +kernel)
theorem kw_395 : Cond.instanceMethod yX9_evenOf ∈ xbig := xbig_at 871 (by decide +kernel) (by decide +kernel)
theorem kw_396 : Cond.selects RX9 yX9_evenOf yX9_evenOf ∈ xbig := xbig_at 30 (by decide +kernel) (by decide +kernel)
set_option maxRecDepth 20000 in
theorem kw_397 : Cond.code yX9_evenOf cX9_evenOf 11 (some .int) ∈ xbig := xbig_at 872 rfl (by decide +kernel)
theorem kw_398 : Cond.methodLink RL 66 yX8_blame ∈ xbig := xbig_at 433 (by decide +kernel) (by decide +kernel)
theorem kw_399 : Cond.instanceMethod yX8_blame ∈ xbig := xbig_at 434 (by decide +kernel) (by decide +kernel)
theorem kw_400 : Cond.selects RX8 yX8_blame yX8_blame ∈ xbig := xbig_at 435 (by decide +kernel) (by decide +kernel)
set_option maxRecDepth 20000 in
theorem kw_401 : Cond.code yX8_blame cX8_blame 9 (some .long) ∈ xbig := xbig_at 436 rfl (by decide +kernel)
theorem kw_402 : Cond.methodLink RX8 167 yX8_refuseLong ∈ xbig := xbig_at 437 (by decide +kernel) (by decide +kernel)
theorem kw_403 : Cond.static yX8_refuseLong ∈ xbig := xbig_at 438 (by decide +kernel) (by decide +kernel)
set_option maxRecDepth 20000 in
theorem kw_404 : Cond.code yX8_refuseLong cX8_refuseLong 1 (some .long) ∈ xbig := xbig_at 439 rfl (by decide +kernel)
theorem kw_405 : Cond.constantLong RX8 356 (-9223372036854775808) ∈ xbig := xbig_at 440 (by decide +kernel) (by decide +kernel)
theorem kw_406 : Cond.methodLink RX8 171 yX7_missBy ∈ xbig := xbig_at 441 (by decide +kernel) (by decide +kernel)
theorem kw_407 : Cond.instanceMethod yX7_missBy ∈ xbig := xbig_at 442 (by decide +kernel) (by decide +kernel)
theorem kw_408 : Cond.selects RX7 yX7_missBy yX7_missBy ∈ xbig := xbig_at 443 (by decide +kernel) (by decide +kernel)
set_option maxRecDepth 20000 in
theorem kw_409 : Cond.code yX7_missBy cX7_missBy 4 (some .int) ∈ xbig := xbig_at 444 rfl (by decide +kernel)
theorem kw_410 : Cond.methodLink RX7 66 Lib.Math.abs.name ∈ xbig := xbig_at 445 (by decide +kernel) (by decide +kernel)
theorem kw_411 : Cond.methodLink RX8 174 yX8_inLowestTerms ∈ xbig := xbig_at 446 (by decide +kernel) (by decide +kernel)
theorem kw_412 : Cond.static yX8_inLowestTerms ∈ xbig := xbig_at 447 (by decide +kernel) (by decide +kernel)
set_option maxRecDepth 20000 in
theorem kw_413 : Cond.code yX8_inLowestTerms cX8_inLowestTerms 12 (some .long) ∈ xbig := xbig_at 448 rfl (by decide +kernel)
theorem kw_414 : Cond.methodLink RL 70 yX9_blame ∈ xbig := xbig_at 873 (by decide +kernel) (by decide +kernel)
theorem kw_415 : Cond.instanceMethod yX9_blame ∈ xbig := xbig_at 874 (by decide +kernel) (by decide +kernel)
theorem kw_416 : Cond.selects RX9 yX9_blame yX9_blame ∈ xbig := xbig_at 875 (by decide +kernel) (by decide +kernel)
set_option maxRecDepth 20000 in
theorem kw_417 : Cond.code yX9_blame cX9_blame 4 (some .long) ∈ xbig := xbig_at 876 rfl (by decide +kernel)
theorem kw_418 : Cond.methodLink RX9 136 yX9_blameOf ∈ xbig := xbig_at 877 (by decide +kernel) (by decide +kernel)
theorem kw_419 : Cond.instanceMethod yX9_blameOf ∈ xbig := xbig_at 879 (by decide +kernel) (by decide +kernel)
theorem kw_420 : Cond.selects RX9 yX9_blameOf yX9_blameOf ∈ xbig := xbig_at 31 (by decide +kernel) (by decide +kernel)
set_option maxRecDepth 20000 in
theorem kw_421 : Cond.code yX9_blameOf cX9_blameOf 7 (some .long) ∈ xbig := xbig_at 880 rfl (by decide +kernel)
theorem kw_422 : Cond.methodLink RX9 125 yX9_blameBy ∈ xbig := xbig_at 881 (by decide +kernel) (by decide +kernel)
theorem kw_423 : Cond.instanceMethod yX9_blameBy ∈ xbig := xbig_at 883 (by decide +kernel) (by decide +kernel)
theorem kw_424 : Cond.selects RX9 yX9_blameBy yX9_blameBy ∈ xbig := xbig_at 32 (by decide +kernel) (by decide +kernel)
set_option maxRecDepth 20000 in
theorem kw_425 : Cond.code yX9_blameBy cX9_blameBy 4 (some .int) ∈ xbig := xbig_at 884 rfl (by decide +kernel)
theorem kw_426 : Cond.methodLink RX9 128 yX9_no ∈ xbig := xbig_at 885 (by decide +kernel) (by decide +kernel)
theorem kw_427 : Cond.static yX9_no ∈ xbig := xbig_at 886 (by decide +kernel) (by decide +kernel)
set_option maxRecDepth 20000 in
theorem kw_428 : Cond.code yX9_no cX9_no 1 (some .long) ∈ xbig := xbig_at 887 rfl (by decide +kernel)
theorem kw_429 : Cond.constantLong RX9 66 (-9223372036854775808) ∈ xbig := xbig_at 888 (by decide +kernel) (by decide +kernel)
theorem kw_430 : Cond.methodLink RX9 132 yX9_lowest ∈ xbig := xbig_at 889 (by decide +kernel) (by decide +kernel)
theorem kw_431 : Cond.static yX9_lowest ∈ xbig := xbig_at 890 (by decide +kernel) (by decide +kernel)
set_option maxRecDepth 20000 in
theorem kw_432 : Cond.code yX9_lowest cX9_lowest 11 (some .long) ∈ xbig := xbig_at 891 rfl (by decide +kernel)
theorem kw_433 : Cond.methodLink RL 71 yX8_found ∈ xbig := xbig_at 449 (by decide +kernel) (by decide +kernel)
theorem kw_434 : Cond.instanceMethod yX8_found ∈ xbig := xbig_at 450 (by decide +kernel) (by decide +kernel)
theorem kw_435 : Cond.selects RX8 yX8_found yX8_found ∈ xbig := xbig_at 451 (by decide +kernel) (by decide +kernel)
set_option maxRecDepth 20000 in
theorem kw_436 : Cond.code yX8_found cX8_found 4 (some .int) ∈ xbig := xbig_at 452 rfl (by decide +kernel)
theorem kw_437 : Cond.methodLink RX8 178 yX8_isHeight ∈ xbig := xbig_at 453 (by decide +kernel) (by decide +kernel)
theorem kw_438 : Cond.static yX8_isHeight ∈ xbig := xbig_at 454 (by decide +kernel) (by decide +kernel)
set_option maxRecDepth 20000 in
theorem kw_439 : Cond.code yX8_isHeight cX8_isHeight 1 (some .boolean) ∈ xbig := xbig_at 455 rfl (by decide +kernel)
theorem kw_440 : Cond.methodLink RL 74 yX9_found ∈ xbig := xbig_at 892 (by decide +kernel) (by decide +kernel)
theorem kw_441 : Cond.instanceMethod yX9_found ∈ xbig := xbig_at 893 (by decide +kernel) (by decide +kernel)
theorem kw_442 : Cond.selects RX9 yX9_found yX9_found ∈ xbig := xbig_at 894 (by decide +kernel) (by decide +kernel)
set_option maxRecDepth 20000 in
theorem kw_443 : Cond.code yX9_found cX9_found 4 (some .int) ∈ xbig := xbig_at 895 rfl (by decide +kernel)
theorem kw_444 : Cond.methodLink RX9 140 yX9_isFound ∈ xbig := xbig_at 896 (by decide +kernel) (by decide +kernel)
theorem kw_445 : Cond.static yX9_isFound ∈ xbig := xbig_at 897 (by decide +kernel) (by decide +kernel)
set_option maxRecDepth 20000 in
theorem kw_446 : Cond.code yX9_isFound cX9_isFound 1 (some .boolean) ∈ xbig := xbig_at 898 rfl (by decide +kernel)
theorem kw_447 : Cond.methodLink RL 75 yX8_read ∈ xbig := xbig_at 456 (by decide +kernel) (by decide +kernel)
theorem kw_448 : Cond.instanceMethod yX8_read ∈ xbig := xbig_at 457 (by decide +kernel) (by decide +kernel)
theorem kw_449 : Cond.selects RX8 yX8_read yX8_read ∈ xbig := xbig_at 458 (by decide +kernel) (by decide +kernel)
end
section
set_option maxRecDepth 20000 in
theorem kw_450 : Cond.code yX8_read cX8_read 6 (some .int) ∈ xbig := xbig_at 459 rfl (by decide +kernel)
theorem kw_451 : Cond.methodLink RX8 181 yX8_refuseSheet ∈ xbig := xbig_at 460 (by decide +kernel) (by decide +kernel)
theorem kw_452 : Cond.instanceMethod yX8_refuseSheet ∈ xbig := xbig_at 462 (by decide +kernel) (by decide +kernel)
theorem kw_453 : Cond.selects RX8 yX8_refuseSheet yX8_refuseSheet ∈ xbig := xbig_at 10 (by decide +kernel) (by decide +kernel)
set_option maxRecDepth 20000 in
theorem kw_454 : Cond.code yX8_refuseSheet cX8_refuseSheet 2 (some .int) ∈ xbig := xbig_at 463 rfl (by decide +kernel)
theorem kw_455 : Cond.methodLink RX8 244 yX8_isSheet ∈ xbig := xbig_at 464 (by decide +kernel) (by decide +kernel)
theorem kw_456 : Cond.static yX8_isSheet ∈ xbig := xbig_at 465 (by decide +kernel) (by decide +kernel)
set_option maxRecDepth 20000 in
theorem kw_457 : Cond.code yX8_isSheet cX8_isSheet 1 (some .boolean) ∈ xbig := xbig_at 466 rfl (by decide +kernel)
theorem kw_458 : Cond.methodLink RX8 266 yX6_isLost ∈ xbig := xbig_at 467 (by decide +kernel) (by decide +kernel)
theorem kw_459 : Cond.instanceMethod yX6_isLost ∈ xbig := xbig_at 468 (by decide +kernel) (by decide +kernel)
theorem kw_460 : Cond.selects RX6 yX6_isLost yX6_isLost ∈ xbig := xbig_at 469 (by decide +kernel) (by decide +kernel)
set_option maxRecDepth 20000 in
theorem kw_461 : Cond.code yX6_isLost cX6_isLost 1 (some .boolean) ∈ xbig := xbig_at 470 rfl (by decide +kernel)
theorem kw_462 : Cond.methodLink RX8 250 yX8_finding ∈ xbig := xbig_at 471 (by decide +kernel) (by decide +kernel)
theorem kw_463 : Cond.instanceMethod yX8_finding ∈ xbig := xbig_at 473 (by decide +kernel) (by decide +kernel)
theorem kw_464 : Cond.selects RX8 yX8_finding yX8_finding ∈ xbig := xbig_at 11 (by decide +kernel) (by decide +kernel)
set_option maxRecDepth 20000 in
theorem kw_465 : Cond.code yX8_finding cX8_finding 2 (some .int) ∈ xbig := xbig_at 474 rfl (by decide +kernel)
theorem kw_466 : Cond.fieldLink RX8 286 "ThreeMasters" "latestFinding" "I" ∈ xbig := xbig_at 246 (by decide +kernel) (by decide +kernel)
theorem kw_467 : Cond.methodLink RL 78 yX9_read ∈ xbig := xbig_at 899 (by decide +kernel) (by decide +kernel)
theorem kw_468 : Cond.instanceMethod yX9_read ∈ xbig := xbig_at 900 (by decide +kernel) (by decide +kernel)
theorem kw_469 : Cond.selects RX9 yX9_read yX9_read ∈ xbig := xbig_at 901 (by decide +kernel) (by decide +kernel)
set_option maxRecDepth 20000 in
theorem kw_470 : Cond.code yX9_read cX9_read 3 (some .int) ∈ xbig := xbig_at 902 rfl (by decide +kernel)
theorem kw_471 : Cond.methodLink RX9 143 yX9_isSheet ∈ xbig := xbig_at 903 (by decide +kernel) (by decide +kernel)
theorem kw_472 : Cond.static yX9_isSheet ∈ xbig := xbig_at 904 (by decide +kernel) (by decide +kernel)
set_option maxRecDepth 20000 in
theorem kw_473 : Cond.code yX9_isSheet cX9_isSheet 1 (some .boolean) ∈ xbig := xbig_at 905 rfl (by decide +kernel)
theorem kw_474 : Cond.methodLink RX9 146 yX9_meets ∈ xbig := xbig_at 906 (by decide +kernel) (by decide +kernel)
theorem kw_475 : Cond.instanceMethod yX9_meets ∈ xbig := xbig_at 908 (by decide +kernel) (by decide +kernel)
theorem kw_476 : Cond.selects RX9 yX9_meets yX9_meets ∈ xbig := xbig_at 33 (by decide +kernel) (by decide +kernel)
set_option maxRecDepth 20000 in
theorem kw_477 : Cond.code yX9_meets cX9_meets 2 (some .int) ∈ xbig := xbig_at 909 rfl (by decide +kernel)
theorem kw_478 : Cond.fieldLink RX9 194 "ThreeMastersModel" "finding" "I" ∈ xbig := xbig_at 724 (by decide +kernel) (by decide +kernel)
theorem kw_479 : Cond.methodLink RL 79 yX8_fits ∈ xbig := xbig_at 475 (by decide +kernel) (by decide +kernel)
theorem kw_480 : Cond.instanceMethod yX8_fits ∈ xbig := xbig_at 476 (by decide +kernel) (by decide +kernel)
theorem kw_481 : Cond.selects RX8 yX8_fits yX8_fits ∈ xbig := xbig_at 477 (by decide +kernel) (by decide +kernel)
set_option maxRecDepth 20000 in
theorem kw_482 : Cond.code yX8_fits cX8_fits 2 (some .int) ∈ xbig := xbig_at 478 rfl (by decide +kernel)
theorem kw_483 : Cond.methodLink RX8 194 yX0_fitBits ∈ xbig := xbig_at 479 (by decide +kernel) (by decide +kernel)
theorem kw_484 : Cond.instanceMethod yX0_fitBits ∈ xbig := xbig_at 480 (by decide +kernel) (by decide +kernel)
theorem kw_485 : Cond.selects RX0 yX0_fitBits yX0_fitBits ∈ xbig := xbig_at 481 (by decide +kernel) (by decide +kernel)
set_option maxRecDepth 20000 in
theorem kw_486 : Cond.code yX0_fitBits cX0_fitBits 6 (some .int) ∈ xbig := xbig_at 482 rfl (by decide +kernel)
theorem kw_487 : Cond.methodLink RX0 44 Lib.Math.abs.name ∈ xbig := xbig_at 484 (by decide +kernel) (by decide +kernel)
theorem kw_488 : Cond.methodLink RX0 38 yX2_toParts ∈ xbig := xbig_at 483 (by decide +kernel) (by decide +kernel)
theorem kw_489 : Cond.methodLink RL 82 yX9_fits ∈ xbig := xbig_at 910 (by decide +kernel) (by decide +kernel)
theorem kw_490 : Cond.instanceMethod yX9_fits ∈ xbig := xbig_at 911 (by decide +kernel) (by decide +kernel)
theorem kw_491 : Cond.selects RX9 yX9_fits yX9_fits ∈ xbig := xbig_at 912 (by decide +kernel) (by decide +kernel)
set_option maxRecDepth 20000 in
theorem kw_492 : Cond.code yX9_fits cX9_fits 2 (some .int) ∈ xbig := xbig_at 913 rfl (by decide +kernel)
theorem kw_493 : Cond.methodLink RX9 153 yX9_fitsOf ∈ xbig := xbig_at 914 (by decide +kernel) (by decide +kernel)
theorem kw_494 : Cond.instanceMethod yX9_fitsOf ∈ xbig := xbig_at 916 (by decide +kernel) (by decide +kernel)
theorem kw_495 : Cond.selects RX9 yX9_fitsOf yX9_fitsOf ∈ xbig := xbig_at 34 (by decide +kernel) (by decide +kernel)
set_option maxRecDepth 20000 in
theorem kw_496 : Cond.code yX9_fitsOf cX9_fitsOf 4 (some .int) ∈ xbig := xbig_at 917 rfl (by decide +kernel)
theorem kw_497 : Cond.methodLink RX9 149 yX9_isFit ∈ xbig := xbig_at 918 (by decide +kernel) (by decide +kernel)
theorem kw_498 : Cond.instanceMethod yX9_isFit ∈ xbig := xbig_at 920 (by decide +kernel) (by decide +kernel)
theorem kw_499 : Cond.selects RX9 yX9_isFit yX9_isFit ∈ xbig := xbig_at 35 (by decide +kernel) (by decide +kernel)
set_option maxRecDepth 20000 in
theorem kw_500 : Cond.code yX9_isFit cX9_isFit 3 (some .boolean) ∈ xbig := xbig_at 921 rfl (by decide +kernel)
theorem kw_501 : Cond.methodLink RL 83 yX8_worlds ∈ xbig := xbig_at 485 (by decide +kernel) (by decide +kernel)
theorem kw_502 : Cond.instanceMethod yX8_worlds ∈ xbig := xbig_at 486 (by decide +kernel) (by decide +kernel)
theorem kw_503 : Cond.selects RX8 yX8_worlds yX8_worlds ∈ xbig := xbig_at 487 (by decide +kernel) (by decide +kernel)
set_option maxRecDepth 20000 in
theorem kw_504 : Cond.code yX8_worlds cX8_worlds 1 (some .long) ∈ xbig := xbig_at 488 rfl (by decide +kernel)
theorem kw_505 : Cond.methodLink RX8 197 yX0_countWorlds ∈ xbig := xbig_at 489 (by decide +kernel) (by decide +kernel)
theorem kw_506 : Cond.instanceMethod yX0_countWorlds ∈ xbig := xbig_at 490 (by decide +kernel) (by decide +kernel)
theorem kw_507 : Cond.selects RX0 yX0_countWorlds yX0_countWorlds ∈ xbig := xbig_at 491 (by decide +kernel) (by decide +kernel)
set_option maxRecDepth 20000 in
theorem kw_508 : Cond.code yX0_countWorlds cX0_countWorlds 8 (some .long) ∈ xbig := xbig_at 492 rfl (by decide +kernel)
theorem kw_509 : Cond.methodLink RX0 50 yJ7_fill_d0a16 ∈ xbig := xbig_at 493 (by decide +kernel) (by decide +kernel)
theorem kw_510 : Cond.static yJ7_fill_d0a16 ∈ xbig := xbig_at 494 (by decide +kernel) (by decide +kernel)
set_option maxRecDepth 20000 in
theorem kw_511 : Cond.code yJ7_fill_d0a16 cJ7_fill_d0a16 5 none ∈ xbig := xbig_at 495 rfl (by decide +kernel)
theorem kw_512 : Cond.methodLink RX0 53 yX7_floors ∈ xbig := xbig_at 496 (by decide +kernel) (by decide +kernel)
theorem kw_513 : Cond.instanceMethod yX7_floors ∈ xbig := xbig_at 497 (by decide +kernel) (by decide +kernel)
theorem kw_514 : Cond.selects RX7 yX7_floors yX7_floors ∈ xbig := xbig_at 498 (by decide +kernel) (by decide +kernel)
set_option maxRecDepth 20000 in
theorem kw_515 : Cond.code yX7_floors cX7_floors 1 (some .int) ∈ xbig := xbig_at 499 rfl (by decide +kernel)
theorem kw_516 : Cond.methodLink RX0 57 yX0_fitBits ∈ xbig := xbig_at 500 (by decide +kernel) (by decide +kernel)
theorem kw_517 : Cond.methodLink RX0 61 yX0_addFloor ∈ xbig := xbig_at 501 (by decide +kernel) (by decide +kernel)
theorem kw_518 : Cond.instanceMethod yX0_addFloor ∈ xbig := xbig_at 503 (by decide +kernel) (by decide +kernel)
theorem kw_519 : Cond.selects RX0 yX0_addFloor yX0_addFloor ∈ xbig := xbig_at 12 (by decide +kernel) (by decide +kernel)
set_option maxRecDepth 20000 in
theorem kw_520 : Cond.code yX0_addFloor cX0_addFloor 10 (some .long) ∈ xbig := xbig_at 504 rfl (by decide +kernel)
theorem kw_521 : Cond.methodLink RL 87 yX9_worlds ∈ xbig := xbig_at 922 (by decide +kernel) (by decide +kernel)
theorem kw_522 : Cond.instanceMethod yX9_worlds ∈ xbig := xbig_at 923 (by decide +kernel) (by decide +kernel)
theorem kw_523 : Cond.selects RX9 yX9_worlds yX9_worlds ∈ xbig := xbig_at 924 (by decide +kernel) (by decide +kernel)
set_option maxRecDepth 20000 in
theorem kw_524 : Cond.code yX9_worlds cX9_worlds 1 (some .long) ∈ xbig := xbig_at 925 rfl (by decide +kernel)
theorem kw_525 : Cond.methodLink RX9 156 yX9_worldsBy ∈ xbig := xbig_at 926 (by decide +kernel) (by decide +kernel)
theorem kw_526 : Cond.instanceMethod yX9_worldsBy ∈ xbig := xbig_at 928 (by decide +kernel) (by decide +kernel)
theorem kw_527 : Cond.selects RX9 yX9_worldsBy yX9_worldsBy ∈ xbig := xbig_at 36 (by decide +kernel) (by decide +kernel)
set_option maxRecDepth 20000 in
theorem kw_528 : Cond.code yX9_worldsBy cX9_worldsBy 10 (some .long) ∈ xbig := xbig_at 929 rfl (by decide +kernel)
theorem kw_529 : Cond.methodLink RL 88 yX8_odds ∈ xbig := xbig_at 505 (by decide +kernel) (by decide +kernel)
theorem kw_530 : Cond.instanceMethod yX8_odds ∈ xbig := xbig_at 506 (by decide +kernel) (by decide +kernel)
theorem kw_531 : Cond.selects RX8 yX8_odds yX8_odds ∈ xbig := xbig_at 507 (by decide +kernel) (by decide +kernel)
set_option maxRecDepth 20000 in
theorem kw_532 : Cond.code yX8_odds cX8_odds 6 (some .long) ∈ xbig := xbig_at 508 rfl (by decide +kernel)
theorem kw_533 : Cond.methodLink RX8 201 yX8_worlds ∈ xbig := xbig_at 509 (by decide +kernel) (by decide +kernel)
theorem kw_534 : Cond.methodLink RL 91 yX9_odds ∈ xbig := xbig_at 930 (by decide +kernel) (by decide +kernel)
theorem kw_535 : Cond.instanceMethod yX9_odds ∈ xbig := xbig_at 931 (by decide +kernel) (by decide +kernel)
theorem kw_536 : Cond.selects RX9 yX9_odds yX9_odds ∈ xbig := xbig_at 932 (by decide +kernel) (by decide +kernel)
set_option maxRecDepth 20000 in
theorem kw_537 : Cond.code yX9_odds cX9_odds 4 (some .long) ∈ xbig := xbig_at 933 rfl (by decide +kernel)
theorem kw_538 : Cond.methodLink RX9 160 yX9_oddsOf ∈ xbig := xbig_at 934 (by decide +kernel) (by decide +kernel)
theorem kw_539 : Cond.instanceMethod yX9_oddsOf ∈ xbig := xbig_at 936 (by decide +kernel) (by decide +kernel)
theorem kw_540 : Cond.selects RX9 yX9_oddsOf yX9_oddsOf ∈ xbig := xbig_at 37 (by decide +kernel) (by decide +kernel)
set_option maxRecDepth 20000 in
theorem kw_541 : Cond.code yX9_oddsOf cX9_oddsOf 6 (some .long) ∈ xbig := xbig_at 937 rfl (by decide +kernel)
theorem kw_542 : Cond.methodLink RL 92 yX8_lean ∈ xbig := xbig_at 510 (by decide +kernel) (by decide +kernel)
theorem kw_543 : Cond.instanceMethod yX8_lean ∈ xbig := xbig_at 511 (by decide +kernel) (by decide +kernel)
theorem kw_544 : Cond.selects RX8 yX8_lean yX8_lean ∈ xbig := xbig_at 512 (by decide +kernel) (by decide +kernel)
set_option maxRecDepth 20000 in
theorem kw_545 : Cond.code yX8_lean cX8_lean 4 (some .int) ∈ xbig := xbig_at 513 rfl (by decide +kernel)
theorem kw_546 : Cond.methodLink RL 95 yX9_lean ∈ xbig := xbig_at 938 (by decide +kernel) (by decide +kernel)
theorem kw_547 : Cond.instanceMethod yX9_lean ∈ xbig := xbig_at 939 (by decide +kernel) (by decide +kernel)
theorem kw_548 : Cond.selects RX9 yX9_lean yX9_lean ∈ xbig := xbig_at 940 (by decide +kernel) (by decide +kernel)
set_option maxRecDepth 20000 in
theorem kw_549 : Cond.code yX9_lean cX9_lean 4 (some .int) ∈ xbig := xbig_at 941 rfl (by decide +kernel)
theorem kw_550 : Cond.methodLink RL 96 yX8_runs ∈ xbig := xbig_at 514 (by decide +kernel) (by decide +kernel)
theorem kw_551 : Cond.instanceMethod yX8_runs ∈ xbig := xbig_at 515 (by decide +kernel) (by decide +kernel)
theorem kw_552 : Cond.selects RX8 yX8_runs yX8_runs ∈ xbig := xbig_at 516 (by decide +kernel) (by decide +kernel)
set_option maxRecDepth 20000 in
theorem kw_553 : Cond.code yX8_runs cX8_runs 4 (some .int) ∈ xbig := xbig_at 517 rfl (by decide +kernel)
theorem kw_554 : Cond.methodLink RX8 208 yX5_spread ∈ xbig := xbig_at 518 (by decide +kernel) (by decide +kernel)
theorem kw_555 : Cond.instanceMethod yX5_spread ∈ xbig := xbig_at 519 (by decide +kernel) (by decide +kernel)
theorem kw_556 : Cond.selects RX5 yX5_spread yX5_spread ∈ xbig := xbig_at 520 (by decide +kernel) (by decide +kernel)
set_option maxRecDepth 20000 in
theorem kw_557 : Cond.code yX5_spread cX5_spread 6 (some .int) ∈ xbig := xbig_at 521 rfl (by decide +kernel)
theorem kw_558 : Cond.methodLink RX5 15 Lib.Math.min.name ∈ xbig := xbig_at 522 (by decide +kernel) (by decide +kernel)
theorem kw_559 : Cond.methodLink RX5 21 Lib.Math.max.name ∈ xbig := xbig_at 523 (by decide +kernel) (by decide +kernel)
theorem kw_560 : Cond.methodLink RL 99 yX9_runs ∈ xbig := xbig_at 942 (by decide +kernel) (by decide +kernel)
theorem kw_561 : Cond.instanceMethod yX9_runs ∈ xbig := xbig_at 943 (by decide +kernel) (by decide +kernel)
theorem kw_562 : Cond.selects RX9 yX9_runs yX9_runs ∈ xbig := xbig_at 944 (by decide +kernel) (by decide +kernel)
set_option maxRecDepth 20000 in
theorem kw_563 : Cond.code yX9_runs cX9_runs 4 (some .int) ∈ xbig := xbig_at 945 rfl (by decide +kernel)
theorem kw_564 : Cond.methodLink RX9 163 yX9_spread ∈ xbig := xbig_at 946 (by decide +kernel) (by decide +kernel)
theorem kw_565 : Cond.instanceMethod yX9_spread ∈ xbig := xbig_at 948 (by decide +kernel) (by decide +kernel)
theorem kw_566 : Cond.selects RX9 yX9_spread yX9_spread ∈ xbig := xbig_at 38 (by decide +kernel) (by decide +kernel)
set_option maxRecDepth 20000 in
theorem kw_567 : Cond.code yX9_spread cX9_spread 6 (some .int) ∈ xbig := xbig_at 949 rfl (by decide +kernel)
theorem kw_568 : Cond.methodLink RL 100 yX8_lifts ∈ xbig := xbig_at 524 (by decide +kernel) (by decide +kernel)
theorem kw_569 : Cond.instanceMethod yX8_lifts ∈ xbig := xbig_at 525 (by decide +kernel) (by decide +kernel)
theorem kw_570 : Cond.selects RX8 yX8_lifts yX8_lifts ∈ xbig := xbig_at 526 (by decide +kernel) (by decide +kernel)
set_option maxRecDepth 20000 in
theorem kw_571 : Cond.code yX8_lifts cX8_lifts 1 (some .int) ∈ xbig := xbig_at 527 rfl (by decide +kernel)
theorem kw_572 : Cond.methodLink RL 103 yX9_lifts ∈ xbig := xbig_at 950 (by decide +kernel) (by decide +kernel)
theorem kw_573 : Cond.instanceMethod yX9_lifts ∈ xbig := xbig_at 951 (by decide +kernel) (by decide +kernel)
theorem kw_574 : Cond.selects RX9 yX9_lifts yX9_lifts ∈ xbig := xbig_at 952 (by decide +kernel) (by decide +kernel)
set_option maxRecDepth 20000 in
theorem kw_575 : Cond.code yX9_lifts cX9_lifts 1 (some .int) ∈ xbig := xbig_at 953 rfl (by decide +kernel)
theorem kw_576 : Cond.methodLink RX9 166 yX9_liftsNow ∈ xbig := xbig_at 954 (by decide +kernel) (by decide +kernel)
theorem kw_577 : Cond.instanceMethod yX9_liftsNow ∈ xbig := xbig_at 956 (by decide +kernel) (by decide +kernel)
theorem kw_578 : Cond.selects RX9 yX9_liftsNow yX9_liftsNow ∈ xbig := xbig_at 39 (by decide +kernel) (by decide +kernel)
set_option maxRecDepth 20000 in
theorem kw_579 : Cond.code yX9_liftsNow cX9_liftsNow 2 (some .int) ∈ xbig := xbig_at 957 rfl (by decide +kernel)
theorem kw_580 : Cond.methodLink RL 104 yX8_longest ∈ xbig := xbig_at 528 (by decide +kernel) (by decide +kernel)
theorem kw_581 : Cond.instanceMethod yX8_longest ∈ xbig := xbig_at 529 (by decide +kernel) (by decide +kernel)
theorem kw_582 : Cond.selects RX8 yX8_longest yX8_longest ∈ xbig := xbig_at 530 (by decide +kernel) (by decide +kernel)
set_option maxRecDepth 20000 in
theorem kw_583 : Cond.code yX8_longest cX8_longest 7 (some .int) ∈ xbig := xbig_at 531 rfl (by decide +kernel)
theorem kw_584 : Cond.methodLink RX8 214 yX5_lengthFrom ∈ xbig := xbig_at 532 (by decide +kernel) (by decide +kernel)
theorem kw_585 : Cond.instanceMethod yX5_lengthFrom ∈ xbig := xbig_at 533 (by decide +kernel) (by decide +kernel)
theorem kw_586 : Cond.selects RX5 yX5_lengthFrom yX5_lengthFrom ∈ xbig := xbig_at 534 (by decide +kernel) (by decide +kernel)
set_option maxRecDepth 20000 in
theorem kw_587 : Cond.code yX5_lengthFrom cX5_lengthFrom 5 (some .int) ∈ xbig := xbig_at 535 rfl (by decide +kernel)
theorem kw_588 : Cond.methodLink RX5 24 yX5_spread ∈ xbig := xbig_at 536 (by decide +kernel) (by decide +kernel)
theorem kw_589 : Cond.methodLink RL 107 yX9_longest ∈ xbig := xbig_at 958 (by decide +kernel) (by decide +kernel)
theorem kw_590 : Cond.instanceMethod yX9_longest ∈ xbig := xbig_at 959 (by decide +kernel) (by decide +kernel)
theorem kw_591 : Cond.selects RX9 yX9_longest yX9_longest ∈ xbig := xbig_at 960 (by decide +kernel) (by decide +kernel)
set_option maxRecDepth 20000 in
theorem kw_592 : Cond.code yX9_longest cX9_longest 3 (some .int) ∈ xbig := xbig_at 961 rfl (by decide +kernel)
theorem kw_593 : Cond.methodLink RX9 169 yX9_longestOf ∈ xbig := xbig_at 962 (by decide +kernel) (by decide +kernel)
theorem kw_594 : Cond.instanceMethod yX9_longestOf ∈ xbig := xbig_at 964 (by decide +kernel) (by decide +kernel)
theorem kw_595 : Cond.selects RX9 yX9_longestOf yX9_longestOf ∈ xbig := xbig_at 40 (by decide +kernel) (by decide +kernel)
set_option maxRecDepth 20000 in
theorem kw_596 : Cond.code yX9_longestOf cX9_longestOf 9 (some .int) ∈ xbig := xbig_at 965 rfl (by decide +kernel)
theorem kw_597 : Cond.methodLink RL 108 yX8_mended ∈ xbig := xbig_at 537 (by decide +kernel) (by decide +kernel)
theorem kw_598 : Cond.instanceMethod yX8_mended ∈ xbig := xbig_at 538 (by decide +kernel) (by decide +kernel)
theorem kw_599 : Cond.selects RX8 yX8_mended yX8_mended ∈ xbig := xbig_at 539 (by decide +kernel) (by decide +kernel)
set_option maxRecDepth 20000 in
theorem kw_600 : Cond.code yX8_mended cX8_mended 4 (some .int) ∈ xbig := xbig_at 540 rfl (by decide +kernel)
theorem kw_601 : Cond.constant RX8 221 (-100003) ∈ xbig := xbig_at 554 (by decide +kernel) (by decide +kernel)
theorem kw_602 : Cond.methodLink RX8 217 yX3_work ∈ xbig := xbig_at 541 (by decide +kernel) (by decide +kernel)
theorem kw_603 : Cond.instanceMethod yX3_work ∈ xbig := xbig_at 542 (by decide +kernel) (by decide +kernel)
theorem kw_604 : Cond.selects RX3 yX3_work yX3_work ∈ xbig := xbig_at 543 (by decide +kernel) (by decide +kernel)
set_option maxRecDepth 20000 in
theorem kw_605 : Cond.code yX3_work cX3_work 10 (some .int) ∈ xbig := xbig_at 544 rfl (by decide +kernel)
theorem kw_606 : Cond.methodLink RX3 31 Lib.Math.abs.name ∈ xbig := xbig_at 548 (by decide +kernel) (by decide +kernel)
theorem kw_607 : Cond.methodLink RX3 15 yJ7_fill_53178 ∈ xbig := xbig_at 545 (by decide +kernel) (by decide +kernel)
theorem kw_608 : Cond.methodLink RX3 21 yX7_floors ∈ xbig := xbig_at 546 (by decide +kernel) (by decide +kernel)
theorem kw_609 : Cond.methodLink RX3 27 yX7_off ∈ xbig := xbig_at 547 (by decide +kernel) (by decide +kernel)
theorem kw_610 : Cond.methodLink RX3 36 yX3_share ∈ xbig := xbig_at 549 (by decide +kernel) (by decide +kernel)
theorem kw_611 : Cond.instanceMethod yX3_share ∈ xbig := xbig_at 551 (by decide +kernel) (by decide +kernel)
theorem kw_612 : Cond.selects RX3 yX3_share yX3_share ∈ xbig := xbig_at 13 (by decide +kernel) (by decide +kernel)
set_option maxRecDepth 20000 in
theorem kw_613 : Cond.code yX3_share cX3_share 9 none ∈ xbig := xbig_at 552 rfl (by decide +kernel)
theorem kw_614 : Cond.methodLink RX3 40 Lib.Math.max.name ∈ xbig := xbig_at 553 (by decide +kernel) (by decide +kernel)
theorem kw_615 : Cond.methodLink RL 111 yX9_mended ∈ xbig := xbig_at 966 (by decide +kernel) (by decide +kernel)
theorem kw_616 : Cond.instanceMethod yX9_mended ∈ xbig := xbig_at 967 (by decide +kernel) (by decide +kernel)
theorem kw_617 : Cond.selects RX9 yX9_mended yX9_mended ∈ xbig := xbig_at 968 (by decide +kernel) (by decide +kernel)
set_option maxRecDepth 20000 in
theorem kw_618 : Cond.code yX9_mended cX9_mended 4 (some .int) ∈ xbig := xbig_at 969 rfl (by decide +kernel)
theorem kw_619 : Cond.constant RX9 175 (-100003) ∈ xbig := xbig_at 974 (by decide +kernel) (by decide +kernel)
theorem kw_620 : Cond.methodLink RX9 172 yX9_mends ∈ xbig := xbig_at 970 (by decide +kernel) (by decide +kernel)
theorem kw_621 : Cond.instanceMethod yX9_mends ∈ xbig := xbig_at 972 (by decide +kernel) (by decide +kernel)
theorem kw_622 : Cond.selects RX9 yX9_mends yX9_mends ∈ xbig := xbig_at 41 (by decide +kernel) (by decide +kernel)
set_option maxRecDepth 20000 in
theorem kw_623 : Cond.code yX9_mends cX9_mends 14 (some .int) ∈ xbig := xbig_at 973 rfl (by decide +kernel)
theorem kw_624 : Cond.methodLink RL 112 yX8_next ∈ xbig := xbig_at 555 (by decide +kernel) (by decide +kernel)
theorem kw_625 : Cond.instanceMethod yX8_next ∈ xbig := xbig_at 556 (by decide +kernel) (by decide +kernel)
theorem kw_626 : Cond.selects RX8 yX8_next yX8_next ∈ xbig := xbig_at 557 (by decide +kernel) (by decide +kernel)
set_option maxRecDepth 20000 in
theorem kw_627 : Cond.code yX8_next cX8_next 5 (some .int) ∈ xbig := xbig_at 558 rfl (by decide +kernel)
theorem kw_628 : Cond.methodLink RX8 225 yX8_offAfter ∈ xbig := xbig_at 559 (by decide +kernel) (by decide +kernel)
theorem kw_629 : Cond.instanceMethod yX8_offAfter ∈ xbig := xbig_at 561 (by decide +kernel) (by decide +kernel)
theorem kw_630 : Cond.selects RX8 yX8_offAfter yX8_offAfter ∈ xbig := xbig_at 14 (by decide +kernel) (by decide +kernel)
set_option maxRecDepth 20000 in
theorem kw_631 : Cond.code yX8_offAfter cX8_offAfter 3 (some .int) ∈ xbig := xbig_at 562 rfl (by decide +kernel)
theorem kw_632 : Cond.methodLink RL 115 yX9_next ∈ xbig := xbig_at 975 (by decide +kernel) (by decide +kernel)
theorem kw_633 : Cond.instanceMethod yX9_next ∈ xbig := xbig_at 976 (by decide +kernel) (by decide +kernel)
theorem kw_634 : Cond.selects RX9 yX9_next yX9_next ∈ xbig := xbig_at 977 (by decide +kernel) (by decide +kernel)
set_option maxRecDepth 20000 in
theorem kw_635 : Cond.code yX9_next cX9_next 3 (some .int) ∈ xbig := xbig_at 978 rfl (by decide +kernel)
theorem kw_636 : Cond.methodLink RX9 176 yX9_nextOf ∈ xbig := xbig_at 979 (by decide +kernel) (by decide +kernel)
theorem kw_637 : Cond.instanceMethod yX9_nextOf ∈ xbig := xbig_at 981 (by decide +kernel) (by decide +kernel)
theorem kw_638 : Cond.selects RX9 yX9_nextOf yX9_nextOf ∈ xbig := xbig_at 42 (by decide +kernel) (by decide +kernel)
set_option maxRecDepth 20000 in
theorem kw_639 : Cond.code yX9_nextOf cX9_nextOf 8 (some .int) ∈ xbig := xbig_at 982 rfl (by decide +kernel)
theorem kw_640 : Cond.methodLink RL 116 yX8_weigh ∈ xbig := xbig_at 563 (by decide +kernel) (by decide +kernel)
theorem kw_641 : Cond.instanceMethod yX8_weigh ∈ xbig := xbig_at 564 (by decide +kernel) (by decide +kernel)
theorem kw_642 : Cond.selects RX8 yX8_weigh yX8_weigh ∈ xbig := xbig_at 565 (by decide +kernel) (by decide +kernel)
set_option maxRecDepth 20000 in
theorem kw_643 : Cond.code yX8_weigh cX8_weigh 4 (some .int) ∈ xbig := xbig_at 566 rfl (by decide +kernel)
theorem kw_644 : Cond.methodLink RL 119 yX9_weigh ∈ xbig := xbig_at 983 (by decide +kernel) (by decide +kernel)
theorem kw_645 : Cond.instanceMethod yX9_weigh ∈ xbig := xbig_at 984 (by decide +kernel) (by decide +kernel)
theorem kw_646 : Cond.selects RX9 yX9_weigh yX9_weigh ∈ xbig := xbig_at 985 (by decide +kernel) (by decide +kernel)
set_option maxRecDepth 20000 in
theorem kw_647 : Cond.code yX9_weigh cX9_weigh 4 (some .int) ∈ xbig := xbig_at 986 rfl (by decide +kernel)
theorem kw_648 : Cond.methodLink RL 120 yX8_bears ∈ xbig := xbig_at 567 (by decide +kernel) (by decide +kernel)
theorem kw_649 : Cond.instanceMethod yX8_bears ∈ xbig := xbig_at 568 (by decide +kernel) (by decide +kernel)
theorem kw_650 : Cond.selects RX8 yX8_bears yX8_bears ∈ xbig := xbig_at 569 (by decide +kernel) (by decide +kernel)
set_option maxRecDepth 20000 in
theorem kw_651 : Cond.code yX8_bears cX8_bears 3 (some .int) ∈ xbig := xbig_at 570 rfl (by decide +kernel)
theorem kw_652 : Cond.methodLink RX8 231 yX1_strength ∈ xbig := xbig_at 571 (by decide +kernel) (by decide +kernel)
theorem kw_653 : Cond.instanceMethod yX1_strength ∈ xbig := xbig_at 572 (by decide +kernel) (by decide +kernel)
theorem kw_654 : Cond.selects RX1 yX1_strength yX1_strength ∈ xbig := xbig_at 573 (by decide +kernel) (by decide +kernel)
set_option maxRecDepth 20000 in
theorem kw_655 : Cond.code yX1_strength cX1_strength 3 (some .int) ∈ xbig := xbig_at 574 rfl (by decide +kernel)
theorem kw_656 : Cond.methodLink RX1 19 yX7_built ∈ xbig := xbig_at 575 (by decide +kernel) (by decide +kernel)
theorem kw_657 : Cond.methodLink RL 123 yX9_bears ∈ xbig := xbig_at 987 (by decide +kernel) (by decide +kernel)
theorem kw_658 : Cond.instanceMethod yX9_bears ∈ xbig := xbig_at 988 (by decide +kernel) (by decide +kernel)
theorem kw_659 : Cond.selects RX9 yX9_bears yX9_bears ∈ xbig := xbig_at 989 (by decide +kernel) (by decide +kernel)
set_option maxRecDepth 20000 in
theorem kw_660 : Cond.code yX9_bears cX9_bears 3 (some .int) ∈ xbig := xbig_at 990 rfl (by decide +kernel)
theorem kw_661 : Cond.methodLink RX9 179 yX9_bearsOf ∈ xbig := xbig_at 991 (by decide +kernel) (by decide +kernel)
theorem kw_662 : Cond.instanceMethod yX9_bearsOf ∈ xbig := xbig_at 993 (by decide +kernel) (by decide +kernel)
theorem kw_663 : Cond.selects RX9 yX9_bearsOf yX9_bearsOf ∈ xbig := xbig_at 43 (by decide +kernel) (by decide +kernel)
set_option maxRecDepth 20000 in
theorem kw_664 : Cond.code yX9_bearsOf cX9_bearsOf 3 (some .int) ∈ xbig := xbig_at 994 rfl (by decide +kernel)
theorem kw_665 : Cond.methodLink RL 124 yX8_safe ∈ xbig := xbig_at 576 (by decide +kernel) (by decide +kernel)
theorem kw_666 : Cond.instanceMethod yX8_safe ∈ xbig := xbig_at 577 (by decide +kernel) (by decide +kernel)
theorem kw_667 : Cond.selects RX8 yX8_safe yX8_safe ∈ xbig := xbig_at 578 (by decide +kernel) (by decide +kernel)
set_option maxRecDepth 20000 in
theorem kw_668 : Cond.code yX8_safe cX8_safe 2 (some .int) ∈ xbig := xbig_at 579 rfl (by decide +kernel)
theorem kw_669 : Cond.methodLink RX8 234 yX1_firstOverborne ∈ xbig := xbig_at 580 (by decide +kernel) (by decide +kernel)
theorem kw_670 : Cond.instanceMethod yX1_firstOverborne ∈ xbig := xbig_at 581 (by decide +kernel) (by decide +kernel)
theorem kw_671 : Cond.selects RX1 yX1_firstOverborne yX1_firstOverborne ∈ xbig := xbig_at 582 (by decide +kernel) (by decide +kernel)
set_option maxRecDepth 20000 in
theorem kw_672 : Cond.code yX1_firstOverborne cX1_firstOverborne 3 (some .int) ∈ xbig := xbig_at 583 rfl (by decide +kernel)
theorem kw_673 : Cond.methodLink RX1 25 yX7_floors ∈ xbig := xbig_at 584 (by decide +kernel) (by decide +kernel)
theorem kw_674 : Cond.methodLink RX1 29 yX1_reserve ∈ xbig := xbig_at 585 (by decide +kernel) (by decide +kernel)
theorem kw_675 : Cond.instanceMethod yX1_reserve ∈ xbig := xbig_at 587 (by decide +kernel) (by decide +kernel)
theorem kw_676 : Cond.selects RX1 yX1_reserve yX1_reserve ∈ xbig := xbig_at 15 (by decide +kernel) (by decide +kernel)
set_option maxRecDepth 20000 in
theorem kw_677 : Cond.code yX1_reserve cX1_reserve 5 (some .int) ∈ xbig := xbig_at 588 rfl (by decide +kernel)
theorem kw_678 : Cond.methodLink RX1 41 yX1_strength ∈ xbig := xbig_at 589 (by decide +kernel) (by decide +kernel)
theorem kw_679 : Cond.methodLink RL 127 yX9_safe ∈ xbig := xbig_at 995 (by decide +kernel) (by decide +kernel)
theorem kw_680 : Cond.instanceMethod yX9_safe ∈ xbig := xbig_at 996 (by decide +kernel) (by decide +kernel)
theorem kw_681 : Cond.selects RX9 yX9_safe yX9_safe ∈ xbig := xbig_at 997 (by decide +kernel) (by decide +kernel)
set_option maxRecDepth 20000 in
theorem kw_682 : Cond.code yX9_safe cX9_safe 2 (some .int) ∈ xbig := xbig_at 998 rfl (by decide +kernel)
theorem kw_683 : Cond.methodLink RX9 182 yX9_safeBy ∈ xbig := xbig_at 999 (by decide +kernel) (by decide +kernel)
theorem kw_684 : Cond.instanceMethod yX9_safeBy ∈ xbig := xbig_at 1001 (by decide +kernel) (by decide +kernel)
theorem kw_685 : Cond.selects RX9 yX9_safeBy yX9_safeBy ∈ xbig := xbig_at 44 (by decide +kernel) (by decide +kernel)
set_option maxRecDepth 20000 in
theorem kw_686 : Cond.code yX9_safeBy cX9_safeBy 7 (some .int) ∈ xbig := xbig_at 1002 rfl (by decide +kernel)
theorem kw_687 : Cond.methodLink RL 128 yX8_more ∈ xbig := xbig_at 590 (by decide +kernel) (by decide +kernel)
theorem kw_688 : Cond.instanceMethod yX8_more ∈ xbig := xbig_at 591 (by decide +kernel) (by decide +kernel)
theorem kw_689 : Cond.selects RX8 yX8_more yX8_more ∈ xbig := xbig_at 592 (by decide +kernel) (by decide +kernel)
set_option maxRecDepth 20000 in
theorem kw_690 : Cond.code yX8_more cX8_more 1 (some .int) ∈ xbig := xbig_at 593 rfl (by decide +kernel)
theorem kw_691 : Cond.methodLink RX8 237 yX1_spareOnTop ∈ xbig := xbig_at 594 (by decide +kernel) (by decide +kernel)
theorem kw_692 : Cond.instanceMethod yX1_spareOnTop ∈ xbig := xbig_at 595 (by decide +kernel) (by decide +kernel)
theorem kw_693 : Cond.selects RX1 yX1_spareOnTop yX1_spareOnTop ∈ xbig := xbig_at 596 (by decide +kernel) (by decide +kernel)
set_option maxRecDepth 20000 in
theorem kw_694 : Cond.code yX1_spareOnTop cX1_spareOnTop 5 (some .int) ∈ xbig := xbig_at 597 rfl (by decide +kernel)
theorem kw_695 : Cond.methodLink RX1 36 Lib.Math.min.name ∈ xbig := xbig_at 599 (by decide +kernel) (by decide +kernel)
theorem kw_696 : Cond.methodLink RX1 33 yX1_firstOverborne ∈ xbig := xbig_at 598 (by decide +kernel) (by decide +kernel)
theorem kw_697 : Cond.methodLink RL 131 yX9_more ∈ xbig := xbig_at 1003 (by decide +kernel) (by decide +kernel)
theorem kw_698 : Cond.instanceMethod yX9_more ∈ xbig := xbig_at 1004 (by decide +kernel) (by decide +kernel)
theorem kw_699 : Cond.selects RX9 yX9_more yX9_more ∈ xbig := xbig_at 1005 (by decide +kernel) (by decide +kernel)
set_option maxRecDepth 20000 in
theorem kw_700 : Cond.code yX9_more cX9_more 1 (some .int) ∈ xbig := xbig_at 1006 rfl (by decide +kernel)
theorem kw_701 : Cond.methodLink RX9 185 yX9_moreNow ∈ xbig := xbig_at 1007 (by decide +kernel) (by decide +kernel)
theorem kw_702 : Cond.instanceMethod yX9_moreNow ∈ xbig := xbig_at 1009 (by decide +kernel) (by decide +kernel)
theorem kw_703 : Cond.selects RX9 yX9_moreNow yX9_moreNow ∈ xbig := xbig_at 45 (by decide +kernel) (by decide +kernel)
set_option maxRecDepth 20000 in
theorem kw_704 : Cond.code yX9_moreNow cX9_moreNow 4 (some .int) ∈ xbig := xbig_at 1010 rfl (by decide +kernel)
theorem kw_705 : Cond.methodLink RL 132 yX8_stones ∈ xbig := xbig_at 600 (by decide +kernel) (by decide +kernel)
theorem kw_706 : Cond.instanceMethod yX8_stones ∈ xbig := xbig_at 601 (by decide +kernel) (by decide +kernel)
theorem kw_707 : Cond.selects RX8 yX8_stones yX8_stones ∈ xbig := xbig_at 602 (by decide +kernel) (by decide +kernel)
set_option maxRecDepth 20000 in
theorem kw_708 : Cond.code yX8_stones cX8_stones 5 (some .int) ∈ xbig := xbig_at 603 rfl (by decide +kernel)
theorem kw_709 : Cond.methodLink RX8 241 yX8_stonesFor ∈ xbig := xbig_at 604 (by decide +kernel) (by decide +kernel)
theorem kw_710 : Cond.static yX8_stonesFor ∈ xbig := xbig_at 605 (by decide +kernel) (by decide +kernel)
set_option maxRecDepth 20000 in
theorem kw_711 : Cond.code yX8_stonesFor cX8_stonesFor 1 (some .int) ∈ xbig := xbig_at 606 rfl (by decide +kernel)
theorem kw_712 : Cond.methodLink RL 135 yX9_stones ∈ xbig := xbig_at 1011 (by decide +kernel) (by decide +kernel)
theorem kw_713 : Cond.instanceMethod yX9_stones ∈ xbig := xbig_at 1012 (by decide +kernel) (by decide +kernel)
theorem kw_714 : Cond.selects RX9 yX9_stones yX9_stones ∈ xbig := xbig_at 1013 (by decide +kernel) (by decide +kernel)
set_option maxRecDepth 20000 in
theorem kw_715 : Cond.code yX9_stones cX9_stones 2 (some .int) ∈ xbig := xbig_at 1014 rfl (by decide +kernel)
theorem kw_716 : Cond.methodLink RX9 191 yX9_stonesOf ∈ xbig := xbig_at 1015 (by decide +kernel) (by decide +kernel)
theorem kw_717 : Cond.instanceMethod yX9_stonesOf ∈ xbig := xbig_at 1017 (by decide +kernel) (by decide +kernel)
theorem kw_718 : Cond.selects RX9 yX9_stonesOf yX9_stonesOf ∈ xbig := xbig_at 46 (by decide +kernel) (by decide +kernel)
set_option maxRecDepth 20000 in
theorem kw_719 : Cond.code yX9_stonesOf cX9_stonesOf 6 (some .int) ∈ xbig := xbig_at 1018 rfl (by decide +kernel)
theorem kw_720 : Cond.methodLink RX9 188 yX9_up ∈ xbig := xbig_at 1019 (by decide +kernel) (by decide +kernel)
theorem kw_721 : Cond.static yX9_up ∈ xbig := xbig_at 1020 (by decide +kernel) (by decide +kernel)
set_option maxRecDepth 20000 in
theorem kw_722 : Cond.code yX9_up cX9_up 1 (some .int) ∈ xbig := xbig_at 1021 rfl (by decide +kernel)
theorem kw_723 : Cond.methodLink RL 136 yX8_sheet ∈ xbig := xbig_at 607 (by decide +kernel) (by decide +kernel)
theorem kw_724 : Cond.instanceMethod yX8_sheet ∈ xbig := xbig_at 608 (by decide +kernel) (by decide +kernel)
theorem kw_725 : Cond.selects RX8 yX8_sheet yX8_sheet ∈ xbig := xbig_at 609 (by decide +kernel) (by decide +kernel)
set_option maxRecDepth 20000 in
theorem kw_726 : Cond.code yX8_sheet cX8_sheet 4 (some .int) ∈ xbig := xbig_at 610 rfl (by decide +kernel)
theorem kw_727 : Cond.methodLink RX8 247 yX8_isForm ∈ xbig := xbig_at 611 (by decide +kernel) (by decide +kernel)
theorem kw_728 : Cond.static yX8_isForm ∈ xbig := xbig_at 612 (by decide +kernel) (by decide +kernel)
set_option maxRecDepth 20000 in
theorem kw_729 : Cond.code yX8_isForm cX8_isForm 1 (some .boolean) ∈ xbig := xbig_at 613 rfl (by decide +kernel)
theorem kw_730 : Cond.methodLink RX8 253 yX6_renew ∈ xbig := xbig_at 614 (by decide +kernel) (by decide +kernel)
theorem kw_731 : Cond.instanceMethod yX6_renew ∈ xbig := xbig_at 615 (by decide +kernel) (by decide +kernel)
theorem kw_732 : Cond.selects RX6 yX6_renew yX6_renew ∈ xbig := xbig_at 616 (by decide +kernel) (by decide +kernel)
set_option maxRecDepth 20000 in
theorem kw_733 : Cond.code yX6_renew cX6_renew 3 none ∈ xbig := xbig_at 617 rfl (by decide +kernel)
theorem kw_734 : Cond.fieldLink RX6 19 "ThreeMasters$Sheet" "size" "I" ∈ xbig := xbig_at 228 (by decide +kernel) (by decide +kernel)
theorem kw_735 : Cond.methodLink RX6 22 yJ7_fill_53178 ∈ xbig := xbig_at 618 (by decide +kernel) (by decide +kernel)
theorem kw_736 : Cond.methodLink RL 139 yX9_sheet ∈ xbig := xbig_at 1022 (by decide +kernel) (by decide +kernel)
theorem kw_737 : Cond.instanceMethod yX9_sheet ∈ xbig := xbig_at 1023 (by decide +kernel) (by decide +kernel)
theorem kw_738 : Cond.selects RX9 yX9_sheet yX9_sheet ∈ xbig := xbig_at 1024 (by decide +kernel) (by decide +kernel)
set_option maxRecDepth 20000 in
theorem kw_739 : Cond.code yX9_sheet cX9_sheet 5 (some .int) ∈ xbig := xbig_at 1025 rfl (by decide +kernel)
theorem kw_740 : Cond.methodLink RL 140 yX8_lose ∈ xbig := xbig_at 619 (by decide +kernel) (by decide +kernel)
theorem kw_741 : Cond.instanceMethod yX8_lose ∈ xbig := xbig_at 620 (by decide +kernel) (by decide +kernel)
theorem kw_742 : Cond.selects RX8 yX8_lose yX8_lose ∈ xbig := xbig_at 621 (by decide +kernel) (by decide +kernel)
set_option maxRecDepth 20000 in
theorem kw_743 : Cond.code yX8_lose cX8_lose 4 (some .int) ∈ xbig := xbig_at 622 rfl (by decide +kernel)
theorem kw_744 : Cond.methodLink RL 143 yX9_lose ∈ xbig := xbig_at 1026 (by decide +kernel) (by decide +kernel)
theorem kw_745 : Cond.instanceMethod yX9_lose ∈ xbig := xbig_at 1027 (by decide +kernel) (by decide +kernel)
theorem kw_746 : Cond.selects RX9 yX9_lose yX9_lose ∈ xbig := xbig_at 1028 (by decide +kernel) (by decide +kernel)
set_option maxRecDepth 20000 in
theorem kw_747 : Cond.code yX9_lose cX9_lose 2 (some .int) ∈ xbig := xbig_at 1029 rfl (by decide +kernel)
theorem kw_748 : Cond.methodLink RL 144 yX8_put ∈ xbig := xbig_at 623 (by decide +kernel) (by decide +kernel)
theorem kw_749 : Cond.instanceMethod yX8_put ∈ xbig := xbig_at 624 (by decide +kernel) (by decide +kernel)
theorem kw_750 : Cond.selects RX8 yX8_put yX8_put ∈ xbig := xbig_at 625 (by decide +kernel) (by decide +kernel)
set_option maxRecDepth 20000 in
theorem kw_751 : Cond.code yX8_put cX8_put 6 (some .int) ∈ xbig := xbig_at 626 rfl (by decide +kernel)
theorem kw_752 : Cond.methodLink RX8 257 yX8_refuseItem ∈ xbig := xbig_at 627 (by decide +kernel) (by decide +kernel)
theorem kw_753 : Cond.instanceMethod yX8_refuseItem ∈ xbig := xbig_at 629 (by decide +kernel) (by decide +kernel)
theorem kw_754 : Cond.selects RX8 yX8_refuseItem yX8_refuseItem ∈ xbig := xbig_at 16 (by decide +kernel) (by decide +kernel)
set_option maxRecDepth 20000 in
theorem kw_755 : Cond.code yX8_refuseItem cX8_refuseItem 5 (some .int) ∈ xbig := xbig_at 630 rfl (by decide +kernel)
theorem kw_756 : Cond.methodLink RX8 260 yX6_store ∈ xbig := xbig_at 631 (by decide +kernel) (by decide +kernel)
theorem kw_757 : Cond.instanceMethod yX6_store ∈ xbig := xbig_at 632 (by decide +kernel) (by decide +kernel)
theorem kw_758 : Cond.selects RX6 yX6_store yX6_store ∈ xbig := xbig_at 633 (by decide +kernel) (by decide +kernel)
set_option maxRecDepth 20000 in
theorem kw_759 : Cond.code yX6_store cX6_store 3 none ∈ xbig := xbig_at 634 rfl (by decide +kernel)
theorem kw_760 : Cond.methodLink RL 147 yX9_put ∈ xbig := xbig_at 1030 (by decide +kernel) (by decide +kernel)
theorem kw_761 : Cond.instanceMethod yX9_put ∈ xbig := xbig_at 1031 (by decide +kernel) (by decide +kernel)
theorem kw_762 : Cond.selects RX9 yX9_put yX9_put ∈ xbig := xbig_at 1032 (by decide +kernel) (by decide +kernel)
set_option maxRecDepth 20000 in
theorem kw_763 : Cond.code yX9_put cX9_put 6 (some .int) ∈ xbig := xbig_at 1033 rfl (by decide +kernel)
theorem kw_764 : Cond.methodLink RX9 197 yX9_lacks ∈ xbig := xbig_at 1034 (by decide +kernel) (by decide +kernel)
theorem kw_765 : Cond.instanceMethod yX9_lacks ∈ xbig := xbig_at 1036 (by decide +kernel) (by decide +kernel)
theorem kw_766 : Cond.selects RX9 yX9_lacks yX9_lacks ∈ xbig := xbig_at 47 (by decide +kernel) (by decide +kernel)
set_option maxRecDepth 20000 in
theorem kw_767 : Cond.code yX9_lacks cX9_lacks 4 (some .int) ∈ xbig := xbig_at 1037 rfl (by decide +kernel)
theorem kw_768 : Cond.methodLink RX9 201 yX9_keep ∈ xbig := xbig_at 1038 (by decide +kernel) (by decide +kernel)
theorem kw_769 : Cond.instanceMethod yX9_keep ∈ xbig := xbig_at 1040 (by decide +kernel) (by decide +kernel)
theorem kw_770 : Cond.selects RX9 yX9_keep yX9_keep ∈ xbig := xbig_at 48 (by decide +kernel) (by decide +kernel)
set_option maxRecDepth 20000 in
theorem kw_771 : Cond.code yX9_keep cX9_keep 4 none ∈ xbig := xbig_at 1041 rfl (by decide +kernel)
theorem kw_772 : Cond.methodLink RL 148 yX8_get ∈ xbig := xbig_at 636 (by decide +kernel) (by decide +kernel)
theorem kw_773 : Cond.instanceMethod yX8_get ∈ xbig := xbig_at 637 (by decide +kernel) (by decide +kernel)
theorem kw_774 : Cond.selects RX8 yX8_get yX8_get ∈ xbig := xbig_at 638 (by decide +kernel) (by decide +kernel)
set_option maxRecDepth 20000 in
theorem kw_775 : Cond.code yX8_get cX8_get 4 (some .int) ∈ xbig := xbig_at 639 rfl (by decide +kernel)
theorem kw_776 : Cond.constant RX8 265 (-2147483648) ∈ xbig := xbig_at 640 (by decide +kernel) (by decide +kernel)
theorem kw_777 : Cond.methodLink RL 151 yX9_get ∈ xbig := xbig_at 1042 (by decide +kernel) (by decide +kernel)
theorem kw_778 : Cond.instanceMethod yX9_get ∈ xbig := xbig_at 1043 (by decide +kernel) (by decide +kernel)
theorem kw_779 : Cond.selects RX9 yX9_get yX9_get ∈ xbig := xbig_at 1044 (by decide +kernel) (by decide +kernel)
set_option maxRecDepth 20000 in
theorem kw_780 : Cond.code yX9_get cX9_get 5 (some .int) ∈ xbig := xbig_at 1045 rfl (by decide +kernel)
theorem kw_781 : Cond.constant RX9 205 (-2147483648) ∈ xbig := xbig_at 1046 (by decide +kernel) (by decide +kernel)
theorem kw_782 : Cond.methodLink RL 152 yX8_copy ∈ xbig := xbig_at 641 (by decide +kernel) (by decide +kernel)
theorem kw_783 : Cond.instanceMethod yX8_copy ∈ xbig := xbig_at 642 (by decide +kernel) (by decide +kernel)
theorem kw_784 : Cond.selects RX8 yX8_copy yX8_copy ∈ xbig := xbig_at 643 (by decide +kernel) (by decide +kernel)
set_option maxRecDepth 20000 in
theorem kw_785 : Cond.code yX8_copy cX8_copy 8 (some .int) ∈ xbig := xbig_at 644 rfl (by decide +kernel)
theorem kw_786 : Cond.methodLink RX8 277 arraycopyName ∈ xbig := xbig_at 649 (by decide +kernel) (by decide +kernel)
theorem kw_787 : Cond.native arraycopyName ∈ xbig := xbig_at 651 (by decide +kernel) (by decide +kernel)
theorem kw_788 : Cond.static arraycopyName ∈ xbig := xbig_at 650 (by decide +kernel) (by decide +kernel)
theorem kw_789 : Cond.initialized "java/lang/System" ∈ xbig := xbig_at 63 (by decide +kernel) (by decide +kernel)
theorem kw_790 : Cond.methodLink RX8 273 yX6_hasRun ∈ xbig := xbig_at 645 (by decide +kernel) (by decide +kernel)
theorem kw_791 : Cond.instanceMethod yX6_hasRun ∈ xbig := xbig_at 646 (by decide +kernel) (by decide +kernel)
theorem kw_792 : Cond.selects RX6 yX6_hasRun yX6_hasRun ∈ xbig := xbig_at 647 (by decide +kernel) (by decide +kernel)
set_option maxRecDepth 20000 in
theorem kw_793 : Cond.code yX6_hasRun cX6_hasRun 3 (some .boolean) ∈ xbig := xbig_at 648 rfl (by decide +kernel)
theorem kw_794 : Cond.methodLink RL 156 yX9_copy ∈ xbig := xbig_at 1047 (by decide +kernel) (by decide +kernel)
theorem kw_795 : Cond.instanceMethod yX9_copy ∈ xbig := xbig_at 1048 (by decide +kernel) (by decide +kernel)
theorem kw_796 : Cond.selects RX9 yX9_copy yX9_copy ∈ xbig := xbig_at 1049 (by decide +kernel) (by decide +kernel)
set_option maxRecDepth 20000 in
theorem kw_797 : Cond.code yX9_copy cX9_copy 7 (some .int) ∈ xbig := xbig_at 1050 rfl (by decide +kernel)
theorem kw_798 : Cond.methodLink RL 157 yX8_write ∈ xbig := xbig_at 652 (by decide +kernel) (by decide +kernel)
theorem kw_799 : Cond.instanceMethod yX8_write ∈ xbig := xbig_at 653 (by decide +kernel) (by decide +kernel)
theorem kw_800 : Cond.selects RX8 yX8_write yX8_write ∈ xbig := xbig_at 654 (by decide +kernel) (by decide +kernel)
set_option maxRecDepth 20000 in
theorem kw_801 : Cond.code yX8_write cX8_write 5 (some .int) ∈ xbig := xbig_at 655 rfl (by decide +kernel)
theorem kw_802 : Cond.methodLink RL 160 yX9_write ∈ xbig := xbig_at 1051 (by decide +kernel) (by decide +kernel)
theorem kw_803 : Cond.instanceMethod yX9_write ∈ xbig := xbig_at 1052 (by decide +kernel) (by decide +kernel)
theorem kw_804 : Cond.selects RX9 yX9_write yX9_write ∈ xbig := xbig_at 1053 (by decide +kernel) (by decide +kernel)
set_option maxRecDepth 20000 in
theorem kw_805 : Cond.code yX9_write cX9_write 3 (some .int) ∈ xbig := xbig_at 1054 rfl (by decide +kernel)
theorem kw_806 : Cond.methodLink RL 161 yX8_count ∈ xbig := xbig_at 656 (by decide +kernel) (by decide +kernel)
theorem kw_807 : Cond.instanceMethod yX8_count ∈ xbig := xbig_at 657 (by decide +kernel) (by decide +kernel)
theorem kw_808 : Cond.selects RX8 yX8_count yX8_count ∈ xbig := xbig_at 658 (by decide +kernel) (by decide +kernel)
set_option maxRecDepth 20000 in
theorem kw_809 : Cond.code yX8_count cX8_count 2 (some .int) ∈ xbig := xbig_at 659 rfl (by decide +kernel)
theorem kw_810 : Cond.methodLink RX8 283 yX0_howMany ∈ xbig := xbig_at 660 (by decide +kernel) (by decide +kernel)
theorem kw_811 : Cond.instanceMethod yX0_howMany ∈ xbig := xbig_at 661 (by decide +kernel) (by decide +kernel)
theorem kw_812 : Cond.selects RX0 yX0_howMany yX0_howMany ∈ xbig := xbig_at 662 (by decide +kernel) (by decide +kernel)
set_option maxRecDepth 20000 in
theorem kw_813 : Cond.code yX0_howMany cX0_howMany 3 (some .int) ∈ xbig := xbig_at 663 rfl (by decide +kernel)
theorem kw_814 : Cond.methodLink RL 164 yX9_count ∈ xbig := xbig_at 1055 (by decide +kernel) (by decide +kernel)
theorem kw_815 : Cond.instanceMethod yX9_count ∈ xbig := xbig_at 1056 (by decide +kernel) (by decide +kernel)
theorem kw_816 : Cond.selects RX9 yX9_count yX9_count ∈ xbig := xbig_at 1057 (by decide +kernel) (by decide +kernel)
set_option maxRecDepth 20000 in
theorem kw_817 : Cond.code yX9_count cX9_count 2 (some .int) ∈ xbig := xbig_at 1058 rfl (by decide +kernel)
theorem kw_818 : Cond.methodLink RX9 206 yX9_sumOf ∈ xbig := xbig_at 1059 (by decide +kernel) (by decide +kernel)
theorem kw_819 : Cond.instanceMethod yX9_sumOf ∈ xbig := xbig_at 1061 (by decide +kernel) (by decide +kernel)
theorem kw_820 : Cond.selects RX9 yX9_sumOf yX9_sumOf ∈ xbig := xbig_at 49 (by decide +kernel) (by decide +kernel)
set_option maxRecDepth 20000 in
theorem kw_821 : Cond.code yX9_sumOf cX9_sumOf 4 (some .int) ∈ xbig := xbig_at 1062 rfl (by decide +kernel)
theorem kw_822 : Cond.methodLink RL 165 yX8_digest ∈ xbig := xbig_at 664 (by decide +kernel) (by decide +kernel)
theorem kw_823 : Cond.instanceMethod yX8_digest ∈ xbig := xbig_at 665 (by decide +kernel) (by decide +kernel)
theorem kw_824 : Cond.selects RX8 yX8_digest yX8_digest ∈ xbig := xbig_at 666 (by decide +kernel) (by decide +kernel)
set_option maxRecDepth 20000 in
theorem kw_825 : Cond.code yX8_digest cX8_digest 4 (some .long) ∈ xbig := xbig_at 667 rfl (by decide +kernel)
theorem kw_826 : Cond.constantLong RX8 289 (17) ∈ xbig := xbig_at 668 (by decide +kernel) (by decide +kernel)
theorem kw_827 : Cond.methodLink RX8 291 yX8_count ∈ xbig := xbig_at 669 (by decide +kernel) (by decide +kernel)
theorem kw_828 : Cond.methodLink RX8 294 yX8_mix ∈ xbig := xbig_at 670 (by decide +kernel) (by decide +kernel)
theorem kw_829 : Cond.static yX8_mix ∈ xbig := xbig_at 671 (by decide +kernel) (by decide +kernel)
set_option maxRecDepth 20000 in
theorem kw_830 : Cond.code yX8_mix cX8_mix 4 (some .long) ∈ xbig := xbig_at 672 rfl (by decide +kernel)
theorem kw_831 : Cond.constantLong RX8 352 (31) ∈ xbig := xbig_at 673 (by decide +kernel) (by decide +kernel)
theorem kw_832 : Cond.methodLink RX8 298 yX8_fault ∈ xbig := xbig_at 674 (by decide +kernel) (by decide +kernel)
theorem kw_833 : Cond.methodLink RX8 300 yX8_mixFloor ∈ xbig := xbig_at 675 (by decide +kernel) (by decide +kernel)
theorem kw_834 : Cond.instanceMethod yX8_mixFloor ∈ xbig := xbig_at 677 (by decide +kernel) (by decide +kernel)
theorem kw_835 : Cond.selects RX8 yX8_mixFloor yX8_mixFloor ∈ xbig := xbig_at 17 (by decide +kernel) (by decide +kernel)
set_option maxRecDepth 20000 in
theorem kw_836 : Cond.code yX8_mixFloor cX8_mixFloor 7 (some .long) ∈ xbig := xbig_at 678 rfl (by decide +kernel)
theorem kw_837 : Cond.methodLink RX8 331 yX8_floor ∈ xbig := xbig_at 679 (by decide +kernel) (by decide +kernel)
theorem kw_838 : Cond.methodLink RX8 304 yX8_sill ∈ xbig := xbig_at 680 (by decide +kernel) (by decide +kernel)
theorem kw_839 : Cond.methodLink RX8 334 yX8_fits ∈ xbig := xbig_at 681 (by decide +kernel) (by decide +kernel)
theorem kw_840 : Cond.methodLink RX8 337 yX8_even ∈ xbig := xbig_at 682 (by decide +kernel) (by decide +kernel)
theorem kw_841 : Cond.methodLink RX8 340 yX8_odds ∈ xbig := xbig_at 683 (by decide +kernel) (by decide +kernel)
theorem kw_842 : Cond.methodLink RX8 343 yX8_bears ∈ xbig := xbig_at 684 (by decide +kernel) (by decide +kernel)
theorem kw_843 : Cond.methodLink RX8 307 yX8_worst ∈ xbig := xbig_at 685 (by decide +kernel) (by decide +kernel)
theorem kw_844 : Cond.methodLink RX8 310 yX8_mixMaster ∈ xbig := xbig_at 686 (by decide +kernel) (by decide +kernel)
theorem kw_845 : Cond.instanceMethod yX8_mixMaster ∈ xbig := xbig_at 688 (by decide +kernel) (by decide +kernel)
theorem kw_846 : Cond.selects RX8 yX8_mixMaster yX8_mixMaster ∈ xbig := xbig_at 18 (by decide +kernel) (by decide +kernel)
set_option maxRecDepth 20000 in
theorem kw_847 : Cond.code yX8_mixMaster cX8_mixMaster 6 (some .long) ∈ xbig := xbig_at 689 rfl (by decide +kernel)
theorem kw_848 : Cond.methodLink RX8 346 yX8_blame ∈ xbig := xbig_at 690 (by decide +kernel) (by decide +kernel)
theorem kw_849 : Cond.methodLink RX8 349 yX8_safe ∈ xbig := xbig_at 691 (by decide +kernel) (by decide +kernel)
theorem kw_850 : Cond.methodLink RX8 313 yX8_lifts ∈ xbig := xbig_at 692 (by decide +kernel) (by decide +kernel)
theorem kw_851 : Cond.methodLink RX8 316 yX8_longest ∈ xbig := xbig_at 693 (by decide +kernel) (by decide +kernel)
theorem kw_852 : Cond.methodLink RX8 319 yX8_mended ∈ xbig := xbig_at 694 (by decide +kernel) (by decide +kernel)
theorem kw_853 : Cond.methodLink RX8 322 yX8_next ∈ xbig := xbig_at 695 (by decide +kernel) (by decide +kernel)
theorem kw_854 : Cond.methodLink RX8 325 yX8_more ∈ xbig := xbig_at 696 (by decide +kernel) (by decide +kernel)
theorem kw_855 : Cond.methodLink RX8 328 yX8_stones ∈ xbig := xbig_at 697 (by decide +kernel) (by decide +kernel)
theorem kw_856 : Cond.methodLink RL 168 yX9_digest ∈ xbig := xbig_at 1063 (by decide +kernel) (by decide +kernel)
theorem kw_857 : Cond.instanceMethod yX9_digest ∈ xbig := xbig_at 1064 (by decide +kernel) (by decide +kernel)
theorem kw_858 : Cond.selects RX9 yX9_digest yX9_digest ∈ xbig := xbig_at 1065 (by decide +kernel) (by decide +kernel)
set_option maxRecDepth 20000 in
theorem kw_859 : Cond.code yX9_digest cX9_digest 5 (some .long) ∈ xbig := xbig_at 1066 rfl (by decide +kernel)
theorem kw_860 : Cond.constantLong RX9 209 (17) ∈ xbig := xbig_at 1067 (by decide +kernel) (by decide +kernel)
theorem kw_861 : Cond.constantLong RX9 211 (31) ∈ xbig := xbig_at 1068 (by decide +kernel) (by decide +kernel)
theorem kw_862 : Cond.methodLink RX9 213 yX9_count ∈ xbig := xbig_at 1069 (by decide +kernel) (by decide +kernel)
end
section
theorem dX0_init_0 : decode cX0_init 0 = .ok (.aload_n 0, 1) := by decide +kernel
theorem dX0_init_1 : decode cX0_init 1 = .ok (.invokespecial 3, 3) := by decide +kernel
theorem dX0_init_4 : decode cX0_init 4 = .ok (.aload_n 0, 1) := by decide +kernel
theorem dX0_init_5 : decode cX0_init 5 = .ok (.bipush 10, 2) := by decide +kernel
theorem dX0_init_7 : decode cX0_init 7 = .ok (.newarray .int, 2) := by decide +kernel
theorem dX0_init_9 : decode cX0_init 9 = .ok (.putfield 9, 3) := by decide +kernel
theorem dX0_init_12 : decode cX0_init 12 = .ok (.aload_n 0, 1) := by decide +kernel
theorem dX0_init_13 : decode cX0_init 13 = .ok (.bipush 9, 2) := by decide +kernel
theorem dX0_init_15 : decode cX0_init 15 = .ok (.newarray .long, 2) := by decide +kernel
theorem dX0_init_17 : decode cX0_init 17 = .ok (.putfield 15, 3) := by decide +kernel
theorem dX0_init_20 : decode cX0_init 20 = .ok (.aload_n 0, 1) := by decide +kernel
theorem dX0_init_21 : decode cX0_init 21 = .ok (.aload_n 1, 1) := by decide +kernel
theorem dX0_init_22 : decode cX0_init 22 = .ok (.putfield 19, 3) := by decide +kernel
theorem dX0_init_25 : decode cX0_init 25 = .ok (.aload_n 0, 1) := by decide +kernel
theorem dX0_init_26 : decode cX0_init 26 = .ok (.aload_n 2, 1) := by decide +kernel
theorem dX0_init_27 : decode cX0_init 27 = .ok (.putfield 23, 3) := by decide +kernel
theorem dX0_init_30 : decode cX0_init 30 = .ok (.aload_n 0, 1) := by decide +kernel
theorem dX0_init_31 : decode cX0_init 31 = .ok (.getfield 9, 3) := by decide +kernel
theorem dX0_init_34 : decode cX0_init 34 = .ok (.iconst (-1), 1) := by decide +kernel
theorem dX0_init_35 : decode cX0_init 35 = .ok (.invokestatic 27, 3) := by decide +kernel
theorem dX0_init_38 : decode cX0_init 38 = .ok (.return_, 1) := by decide +kernel
theorem dX0_howMany_0 : decode cX0_howMany 0 = .ok (.iconst 0, 1) := by decide +kernel
theorem dX0_howMany_1 : decode cX0_howMany 1 = .ok (.istore_n 1, 1) := by decide +kernel
theorem dX0_howMany_2 : decode cX0_howMany 2 = .ok (.iconst 0, 1) := by decide +kernel
theorem dX0_howMany_3 : decode cX0_howMany 3 = .ok (.istore_n 2, 1) := by decide +kernel
theorem dX0_howMany_4 : decode cX0_howMany 4 = .ok (.iload_n 2, 1) := by decide +kernel
theorem dX0_howMany_5 : decode cX0_howMany 5 = .ok (.bipush 10, 2) := by decide +kernel
theorem dX0_howMany_7 : decode cX0_howMany 7 = .ok (.if_icmp .ge 22, 3) := by decide +kernel
theorem dX0_howMany_10 : decode cX0_howMany 10 = .ok (.aload_n 0, 1) := by decide +kernel
theorem dX0_howMany_11 : decode cX0_howMany 11 = .ok (.getfield 9, 3) := by decide +kernel
theorem dX0_howMany_14 : decode cX0_howMany 14 = .ok (.iload_n 2, 1) := by decide +kernel
theorem dX0_howMany_15 : decode cX0_howMany 15 = .ok (.iaload, 1) := by decide +kernel
theorem dX0_howMany_16 : decode cX0_howMany 16 = .ok (.iconst (-1), 1) := by decide +kernel
theorem dX0_howMany_17 : decode cX0_howMany 17 = .ok (.if_icmp .eq 6, 3) := by decide +kernel
theorem dX0_howMany_20 : decode cX0_howMany 20 = .ok (.iinc 1 1, 3) := by decide +kernel
theorem dX0_howMany_23 : decode cX0_howMany 23 = .ok (.iinc 2 1, 3) := by decide +kernel
theorem dX0_howMany_26 : decode cX0_howMany 26 = .ok (.goto (-22), 3) := by decide +kernel
theorem dX0_howMany_29 : decode cX0_howMany 29 = .ok (.iload_n 1, 1) := by decide +kernel
theorem dX0_howMany_30 : decode cX0_howMany 30 = .ok (.ireturn, 1) := by decide +kernel
theorem dX0_fitBits_0 : decode cX0_fitBits 0 = .ok (.iconst 0, 1) := by decide +kernel
theorem dX0_fitBits_1 : decode cX0_fitBits 1 = .ok (.istore_n 3, 1) := by decide +kernel
theorem dX0_fitBits_2 : decode cX0_fitBits 2 = .ok (.iconst 0, 1) := by decide +kernel
theorem dX0_fitBits_3 : decode cX0_fitBits 3 = .ok (.istore 4, 2) := by decide +kernel
theorem dX0_fitBits_5 : decode cX0_fitBits 5 = .ok (.iload 4, 2) := by decide +kernel
theorem dX0_fitBits_7 : decode cX0_fitBits 7 = .ok (.bipush 9, 2) := by decide +kernel
theorem dX0_fitBits_9 : decode cX0_fitBits 9 = .ok (.if_icmp .ge 68, 3) := by decide +kernel
theorem dX0_fitBits_12 : decode cX0_fitBits 12 = .ok (.aload_n 0, 1) := by decide +kernel
theorem dX0_fitBits_13 : decode cX0_fitBits 13 = .ok (.getfield 19, 3) := by decide +kernel
theorem dX0_fitBits_16 : decode cX0_fitBits 16 = .ok (.aload_n 0, 1) := by decide +kernel
theorem dX0_fitBits_17 : decode cX0_fitBits 17 = .ok (.getfield 23, 3) := by decide +kernel
theorem dX0_fitBits_20 : decode cX0_fitBits 20 = .ok (.getfield 33, 3) := by decide +kernel
theorem dX0_fitBits_23 : decode cX0_fitBits 23 = .ok (.iload_n 1, 1) := by decide +kernel
theorem dX0_fitBits_24 : decode cX0_fitBits 24 = .ok (.iaload, 1) := by decide +kernel
theorem dX0_fitBits_25 : decode cX0_fitBits 25 = .ok (.iload 4, 2) := by decide +kernel
theorem dX0_fitBits_27 : decode cX0_fitBits 27 = .ok (.iconst 3, 1) := by decide +kernel
theorem dX0_fitBits_28 : decode cX0_fitBits 28 = .ok (.idiv, 1) := by decide +kernel
theorem dX0_fitBits_29 : decode cX0_fitBits 29 = .ok (.iload 4, 2) := by decide +kernel
theorem dX0_fitBits_31 : decode cX0_fitBits 31 = .ok (.iconst 3, 1) := by decide +kernel
theorem dX0_fitBits_32 : decode cX0_fitBits 32 = .ok (.irem, 1) := by decide +kernel
theorem dX0_fitBits_33 : decode cX0_fitBits 33 = .ok (.invokevirtual 38, 3) := by decide +kernel
theorem dX0_fitBits_36 : decode cX0_fitBits 36 = .ok (.istore 5, 2) := by decide +kernel
theorem dX0_fitBits_38 : decode cX0_fitBits 38 = .ok (.aload_n 0, 1) := by decide +kernel
theorem dX0_fitBits_39 : decode cX0_fitBits 39 = .ok (.getfield 9, 3) := by decide +kernel
theorem dX0_fitBits_42 : decode cX0_fitBits 42 = .ok (.iload_n 1, 1) := by decide +kernel
theorem dX0_fitBits_43 : decode cX0_fitBits 43 = .ok (.iaload, 1) := by decide +kernel
theorem dX0_fitBits_44 : decode cX0_fitBits 44 = .ok (.iconst (-1), 1) := by decide +kernel
theorem dX0_fitBits_45 : decode cX0_fitBits 45 = .ok (.if_icmp .eq 19, 3) := by decide +kernel
theorem dX0_fitBits_48 : decode cX0_fitBits 48 = .ok (.iload 5, 2) := by decide +kernel
theorem dX0_fitBits_50 : decode cX0_fitBits 50 = .ok (.aload_n 0, 1) := by decide +kernel
theorem dX0_fitBits_51 : decode cX0_fitBits 51 = .ok (.getfield 9, 3) := by decide +kernel
theorem dX0_fitBits_54 : decode cX0_fitBits 54 = .ok (.iload_n 1, 1) := by decide +kernel
theorem dX0_fitBits_55 : decode cX0_fitBits 55 = .ok (.iaload, 1) := by decide +kernel
theorem dX0_fitBits_56 : decode cX0_fitBits 56 = .ok (.isub, 1) := by decide +kernel
theorem dX0_fitBits_57 : decode cX0_fitBits 57 = .ok (.invokestatic 44, 3) := by decide +kernel
theorem dX0_fitBits_60 : decode cX0_fitBits 60 = .ok (.iload_n 2, 1) := by decide +kernel
theorem dX0_fitBits_61 : decode cX0_fitBits 61 = .ok (.if_icmp .gt 10, 3) := by decide +kernel
theorem dX0_fitBits_64 : decode cX0_fitBits 64 = .ok (.iload_n 3, 1) := by decide +kernel
theorem dX0_fitBits_65 : decode cX0_fitBits 65 = .ok (.iconst 1, 1) := by decide +kernel
theorem dX0_fitBits_66 : decode cX0_fitBits 66 = .ok (.iload 4, 2) := by decide +kernel
theorem dX0_fitBits_68 : decode cX0_fitBits 68 = .ok (.ishl, 1) := by decide +kernel
theorem dX0_fitBits_69 : decode cX0_fitBits 69 = .ok (.ior, 1) := by decide +kernel
theorem dX0_fitBits_70 : decode cX0_fitBits 70 = .ok (.istore_n 3, 1) := by decide +kernel
theorem dX0_fitBits_71 : decode cX0_fitBits 71 = .ok (.iinc 4 1, 3) := by decide +kernel
theorem dX0_fitBits_74 : decode cX0_fitBits 74 = .ok (.goto (-69), 3) := by decide +kernel
theorem dX0_fitBits_77 : decode cX0_fitBits 77 = .ok (.iload_n 3, 1) := by decide +kernel
theorem dX0_fitBits_78 : decode cX0_fitBits 78 = .ok (.ireturn, 1) := by decide +kernel
theorem dX0_countWorlds_0 : decode cX0_countWorlds 0 = .ok (.aload_n 0, 1) := by decide +kernel
theorem dX0_countWorlds_1 : decode cX0_countWorlds 1 = .ok (.getfield 15, 3) := by decide +kernel
theorem dX0_countWorlds_4 : decode cX0_countWorlds 4 = .ok (.lconst 0, 1) := by decide +kernel
theorem dX0_countWorlds_5 : decode cX0_countWorlds 5 = .ok (.invokestatic 50, 3) := by decide +kernel
theorem dX0_countWorlds_8 : decode cX0_countWorlds 8 = .ok (.lconst 1, 1) := by decide +kernel
theorem dX0_countWorlds_9 : decode cX0_countWorlds 9 = .ok (.lstore 4, 2) := by decide +kernel
theorem dX0_countWorlds_11 : decode cX0_countWorlds 11 = .ok (.iconst 0, 1) := by decide +kernel
theorem dX0_countWorlds_12 : decode cX0_countWorlds 12 = .ok (.istore 6, 2) := by decide +kernel
theorem dX0_countWorlds_14 : decode cX0_countWorlds 14 = .ok (.iload 6, 2) := by decide +kernel
theorem dX0_countWorlds_16 : decode cX0_countWorlds 16 = .ok (.aload_n 0, 1) := by decide +kernel
theorem dX0_countWorlds_17 : decode cX0_countWorlds 17 = .ok (.getfield 23, 3) := by decide +kernel
theorem dX0_countWorlds_20 : decode cX0_countWorlds 20 = .ok (.invokevirtual 53, 3) := by decide +kernel
theorem dX0_countWorlds_23 : decode cX0_countWorlds 23 = .ok (.if_icmp .ge 47, 3) := by decide +kernel
theorem dX0_countWorlds_26 : decode cX0_countWorlds 26 = .ok (.iload 6, 2) := by decide +kernel
theorem dX0_countWorlds_28 : decode cX0_countWorlds 28 = .ok (.iload_n 2, 1) := by decide +kernel
theorem dX0_countWorlds_29 : decode cX0_countWorlds 29 = .ok (.if_icmp .ne 12, 3) := by decide +kernel
theorem dX0_countWorlds_32 : decode cX0_countWorlds 32 = .ok (.bipush 7, 2) := by decide +kernel
theorem dX0_countWorlds_34 : decode cX0_countWorlds 34 = .ok (.iconst 3, 1) := by decide +kernel
theorem dX0_countWorlds_35 : decode cX0_countWorlds 35 = .ok (.iload_n 3, 1) := by decide +kernel
theorem dX0_countWorlds_36 : decode cX0_countWorlds 36 = .ok (.imul, 1) := by decide +kernel
theorem dX0_countWorlds_37 : decode cX0_countWorlds 37 = .ok (.ishl, 1) := by decide +kernel
theorem dX0_countWorlds_38 : decode cX0_countWorlds 38 = .ok (.goto 6, 3) := by decide +kernel
theorem dX0_countWorlds_41 : decode cX0_countWorlds 41 = .ok (.sipush 511, 3) := by decide +kernel
theorem dX0_countWorlds_44 : decode cX0_countWorlds 44 = .ok (.istore 7, 2) := by decide +kernel
theorem dX0_countWorlds_46 : decode cX0_countWorlds 46 = .ok (.aload_n 0, 1) := by decide +kernel
theorem dX0_countWorlds_47 : decode cX0_countWorlds 47 = .ok (.aload_n 0, 1) := by decide +kernel
theorem dX0_countWorlds_48 : decode cX0_countWorlds 48 = .ok (.iload 6, 2) := by decide +kernel
theorem dX0_countWorlds_50 : decode cX0_countWorlds 50 = .ok (.iload_n 1, 1) := by decide +kernel
theorem dX0_countWorlds_51 : decode cX0_countWorlds 51 = .ok (.invokevirtual 57, 3) := by decide +kernel
theorem dX0_countWorlds_54 : decode cX0_countWorlds 54 = .ok (.iload 7, 2) := by decide +kernel
theorem dX0_countWorlds_56 : decode cX0_countWorlds 56 = .ok (.iand, 1) := by decide +kernel
theorem dX0_countWorlds_57 : decode cX0_countWorlds 57 = .ok (.lload 4, 2) := by decide +kernel
theorem dX0_countWorlds_59 : decode cX0_countWorlds 59 = .ok (.invokevirtual 61, 3) := by decide +kernel
theorem dX0_countWorlds_62 : decode cX0_countWorlds 62 = .ok (.lstore 4, 2) := by decide +kernel
theorem dX0_countWorlds_64 : decode cX0_countWorlds 64 = .ok (.iinc 6 1, 3) := by decide +kernel
theorem dX0_countWorlds_67 : decode cX0_countWorlds 67 = .ok (.goto (-53), 3) := by decide +kernel
theorem dX0_countWorlds_70 : decode cX0_countWorlds 70 = .ok (.lload 4, 2) := by decide +kernel
theorem dX0_countWorlds_72 : decode cX0_countWorlds 72 = .ok (.lreturn, 1) := by decide +kernel
theorem dX0_addFloor_0 : decode cX0_addFloor 0 = .ok (.lconst 0, 1) := by decide +kernel
theorem dX0_addFloor_1 : decode cX0_addFloor 1 = .ok (.lstore 4, 2) := by decide +kernel
theorem dX0_addFloor_3 : decode cX0_addFloor 3 = .ok (.iconst 0, 1) := by decide +kernel
theorem dX0_addFloor_4 : decode cX0_addFloor 4 = .ok (.istore 6, 2) := by decide +kernel
theorem dX0_addFloor_6 : decode cX0_addFloor 6 = .ok (.iload 6, 2) := by decide +kernel
theorem dX0_addFloor_8 : decode cX0_addFloor 8 = .ok (.bipush 9, 2) := by decide +kernel
theorem dX0_addFloor_10 : decode cX0_addFloor 10 = .ok (.if_icmp .ge 101, 3) := by decide +kernel
theorem dX0_addFloor_13 : decode cX0_addFloor 13 = .ok (.lload_n 2, 1) := by decide +kernel
theorem dX0_addFloor_14 : decode cX0_addFloor 14 = .ok (.aload_n 0, 1) := by decide +kernel
theorem dX0_addFloor_15 : decode cX0_addFloor 15 = .ok (.getfield 15, 3) := by decide +kernel
theorem dX0_addFloor_18 : decode cX0_addFloor 18 = .ok (.iload 6, 2) := by decide +kernel
theorem dX0_addFloor_20 : decode cX0_addFloor 20 = .ok (.laload, 1) := by decide +kernel
theorem dX0_addFloor_21 : decode cX0_addFloor 21 = .ok (.lsub, 1) := by decide +kernel
theorem dX0_addFloor_22 : decode cX0_addFloor 22 = .ok (.aload_n 0, 1) := by decide +kernel
theorem dX0_addFloor_23 : decode cX0_addFloor 23 = .ok (.getfield 15, 3) := by decide +kernel
theorem dX0_addFloor_26 : decode cX0_addFloor 26 = .ok (.iload 6, 2) := by decide +kernel
theorem dX0_addFloor_28 : decode cX0_addFloor 28 = .ok (.iconst 1, 1) := by decide +kernel
theorem dX0_addFloor_29 : decode cX0_addFloor 29 = .ok (.iadd, 1) := by decide +kernel
theorem dX0_addFloor_30 : decode cX0_addFloor 30 = .ok (.laload, 1) := by decide +kernel
theorem dX0_addFloor_31 : decode cX0_addFloor 31 = .ok (.lsub, 1) := by decide +kernel
theorem dX0_addFloor_32 : decode cX0_addFloor 32 = .ok (.aload_n 0, 1) := by decide +kernel
theorem dX0_addFloor_33 : decode cX0_addFloor 33 = .ok (.getfield 15, 3) := by decide +kernel
theorem dX0_addFloor_36 : decode cX0_addFloor 36 = .ok (.iload 6, 2) := by decide +kernel
theorem dX0_addFloor_38 : decode cX0_addFloor 38 = .ok (.iconst 2, 1) := by decide +kernel
theorem dX0_addFloor_39 : decode cX0_addFloor 39 = .ok (.iadd, 1) := by decide +kernel
theorem dX0_addFloor_40 : decode cX0_addFloor 40 = .ok (.laload, 1) := by decide +kernel
theorem dX0_addFloor_41 : decode cX0_addFloor 41 = .ok (.lsub, 1) := by decide +kernel
theorem dX0_addFloor_42 : decode cX0_addFloor 42 = .ok (.lstore 7, 2) := by decide +kernel
theorem dX0_addFloor_44 : decode cX0_addFloor 44 = .ok (.iload 6, 2) := by decide +kernel
theorem dX0_addFloor_46 : decode cX0_addFloor 46 = .ok (.istore 9, 2) := by decide +kernel
theorem dX0_addFloor_48 : decode cX0_addFloor 48 = .ok (.iload 9, 2) := by decide +kernel
theorem dX0_addFloor_50 : decode cX0_addFloor 50 = .ok (.iload 6, 2) := by decide +kernel
theorem dX0_addFloor_52 : decode cX0_addFloor 52 = .ok (.iconst 3, 1) := by decide +kernel
theorem dX0_addFloor_53 : decode cX0_addFloor 53 = .ok (.iadd, 1) := by decide +kernel
theorem dX0_addFloor_54 : decode cX0_addFloor 54 = .ok (.if_icmp .ge 51, 3) := by decide +kernel
theorem dX0_addFloor_57 : decode cX0_addFloor 57 = .ok (.aload_n 0, 1) := by decide +kernel
theorem dX0_addFloor_58 : decode cX0_addFloor 58 = .ok (.getfield 15, 3) := by decide +kernel
theorem dX0_addFloor_61 : decode cX0_addFloor 61 = .ok (.iload 9, 2) := by decide +kernel
theorem dX0_addFloor_63 : decode cX0_addFloor 63 = .ok (.iload_n 1, 1) := by decide +kernel
theorem dX0_addFloor_64 : decode cX0_addFloor 64 = .ok (.iload 9, 2) := by decide +kernel
theorem dX0_addFloor_66 : decode cX0_addFloor 66 = .ok (.ishr, 1) := by decide +kernel
theorem dX0_addFloor_67 : decode cX0_addFloor 67 = .ok (.iconst 1, 1) := by decide +kernel
theorem dX0_addFloor_68 : decode cX0_addFloor 68 = .ok (.iand, 1) := by decide +kernel
theorem dX0_addFloor_69 : decode cX0_addFloor 69 = .ok (.ifCond .ne 7, 3) := by decide +kernel
theorem dX0_addFloor_72 : decode cX0_addFloor 72 = .ok (.lconst 0, 1) := by decide +kernel
theorem dX0_addFloor_73 : decode cX0_addFloor 73 = .ok (.goto 13, 3) := by decide +kernel
theorem dX0_addFloor_76 : decode cX0_addFloor 76 = .ok (.lload 7, 2) := by decide +kernel
theorem dX0_addFloor_78 : decode cX0_addFloor 78 = .ok (.aload_n 0, 1) := by decide +kernel
theorem dX0_addFloor_79 : decode cX0_addFloor 79 = .ok (.getfield 15, 3) := by decide +kernel
theorem dX0_addFloor_82 : decode cX0_addFloor 82 = .ok (.iload 9, 2) := by decide +kernel
theorem dX0_addFloor_84 : decode cX0_addFloor 84 = .ok (.laload, 1) := by decide +kernel
theorem dX0_addFloor_85 : decode cX0_addFloor 85 = .ok (.ladd, 1) := by decide +kernel
theorem dX0_addFloor_86 : decode cX0_addFloor 86 = .ok (.lastore, 1) := by decide +kernel
theorem dX0_addFloor_87 : decode cX0_addFloor 87 = .ok (.lload 4, 2) := by decide +kernel
theorem dX0_addFloor_89 : decode cX0_addFloor 89 = .ok (.aload_n 0, 1) := by decide +kernel
theorem dX0_addFloor_90 : decode cX0_addFloor 90 = .ok (.getfield 15, 3) := by decide +kernel
theorem dX0_addFloor_93 : decode cX0_addFloor 93 = .ok (.iload 9, 2) := by decide +kernel
theorem dX0_addFloor_95 : decode cX0_addFloor 95 = .ok (.laload, 1) := by decide +kernel
theorem dX0_addFloor_96 : decode cX0_addFloor 96 = .ok (.ladd, 1) := by decide +kernel
theorem dX0_addFloor_97 : decode cX0_addFloor 97 = .ok (.lstore 4, 2) := by decide +kernel
theorem dX0_addFloor_99 : decode cX0_addFloor 99 = .ok (.iinc 9 1, 3) := by decide +kernel
theorem dX0_addFloor_102 : decode cX0_addFloor 102 = .ok (.goto (-54), 3) := by decide +kernel
theorem dX0_addFloor_105 : decode cX0_addFloor 105 = .ok (.iinc 6 3, 3) := by decide +kernel
theorem dX0_addFloor_108 : decode cX0_addFloor 108 = .ok (.goto (-102), 3) := by decide +kernel
theorem dX0_addFloor_111 : decode cX0_addFloor 111 = .ok (.lload 4, 2) := by decide +kernel
theorem dX0_addFloor_113 : decode cX0_addFloor 113 = .ok (.lreturn, 1) := by decide +kernel
theorem dX1_init_0 : decode cX1_init 0 = .ok (.aload_n 0, 1) := by decide +kernel
theorem dX1_init_1 : decode cX1_init 1 = .ok (.invokespecial 3, 3) := by decide +kernel
theorem dX1_init_4 : decode cX1_init 4 = .ok (.aload_n 0, 1) := by decide +kernel
theorem dX1_init_5 : decode cX1_init 5 = .ok (.bipush 10, 2) := by decide +kernel
theorem dX1_init_7 : decode cX1_init 7 = .ok (.newarray .int, 2) := by decide +kernel
theorem dX1_init_9 : decode cX1_init 9 = .ok (.putfield 9, 3) := by decide +kernel
theorem dX1_init_12 : decode cX1_init 12 = .ok (.aload_n 0, 1) := by decide +kernel
theorem dX1_init_13 : decode cX1_init 13 = .ok (.aload_n 1, 1) := by decide +kernel
theorem dX1_init_14 : decode cX1_init 14 = .ok (.putfield 15, 3) := by decide +kernel
theorem dX1_init_17 : decode cX1_init 17 = .ok (.return_, 1) := by decide +kernel
theorem dX1_strength_0 : decode cX1_strength 0 = .ok (.iload_n 2, 1) := by decide +kernel
theorem dX1_strength_1 : decode cX1_strength 1 = .ok (.iconst 2, 1) := by decide +kernel
theorem dX1_strength_2 : decode cX1_strength 2 = .ok (.iadd, 1) := by decide +kernel
theorem dX1_strength_3 : decode cX1_strength 3 = .ok (.aload_n 0, 1) := by decide +kernel
theorem dX1_strength_4 : decode cX1_strength 4 = .ok (.getfield 15, 3) := by decide +kernel
theorem dX1_strength_7 : decode cX1_strength 7 = .ok (.iload_n 1, 1) := by decide +kernel
theorem dX1_strength_8 : decode cX1_strength 8 = .ok (.invokevirtual 19, 3) := by decide +kernel
theorem dX1_strength_11 : decode cX1_strength 11 = .ok (.imul, 1) := by decide +kernel
theorem dX1_strength_12 : decode cX1_strength 12 = .ok (.bipush 10, 2) := by decide +kernel
theorem dX1_strength_14 : decode cX1_strength 14 = .ok (.idiv, 1) := by decide +kernel
theorem dX1_strength_15 : decode cX1_strength 15 = .ok (.ireturn, 1) := by decide +kernel
theorem dX1_firstOverborne_0 : decode cX1_firstOverborne 0 = .ok (.iconst 0, 1) := by decide +kernel
theorem dX1_firstOverborne_1 : decode cX1_firstOverborne 1 = .ok (.istore_n 2, 1) := by decide +kernel
theorem dX1_firstOverborne_2 : decode cX1_firstOverborne 2 = .ok (.iload_n 2, 1) := by decide +kernel
theorem dX1_firstOverborne_3 : decode cX1_firstOverborne 3 = .ok (.aload_n 0, 1) := by decide +kernel
theorem dX1_firstOverborne_4 : decode cX1_firstOverborne 4 = .ok (.getfield 15, 3) := by decide +kernel
theorem dX1_firstOverborne_7 : decode cX1_firstOverborne 7 = .ok (.invokevirtual 25, 3) := by decide +kernel
theorem dX1_firstOverborne_10 : decode cX1_firstOverborne 10 = .ok (.if_icmp .ge 20, 3) := by decide +kernel
theorem dX1_firstOverborne_13 : decode cX1_firstOverborne 13 = .ok (.aload_n 0, 1) := by decide +kernel
theorem dX1_firstOverborne_14 : decode cX1_firstOverborne 14 = .ok (.iload_n 2, 1) := by decide +kernel
theorem dX1_firstOverborne_15 : decode cX1_firstOverborne 15 = .ok (.iload_n 1, 1) := by decide +kernel
theorem dX1_firstOverborne_16 : decode cX1_firstOverborne 16 = .ok (.invokevirtual 29, 3) := by decide +kernel
theorem dX1_firstOverborne_19 : decode cX1_firstOverborne 19 = .ok (.ifCond .ge 5, 3) := by decide +kernel
theorem dX1_firstOverborne_22 : decode cX1_firstOverborne 22 = .ok (.iload_n 2, 1) := by decide +kernel
theorem dX1_firstOverborne_23 : decode cX1_firstOverborne 23 = .ok (.ireturn, 1) := by decide +kernel
theorem dX1_firstOverborne_24 : decode cX1_firstOverborne 24 = .ok (.iinc 2 1, 3) := by decide +kernel
theorem dX1_firstOverborne_27 : decode cX1_firstOverborne 27 = .ok (.goto (-25), 3) := by decide +kernel
theorem dX1_firstOverborne_30 : decode cX1_firstOverborne 30 = .ok (.iconst (-1), 1) := by decide +kernel
theorem dX1_firstOverborne_31 : decode cX1_firstOverborne 31 = .ok (.ireturn, 1) := by decide +kernel
theorem dX1_spareOnTop_0 : decode cX1_spareOnTop 0 = .ok (.aload_n 0, 1) := by decide +kernel
theorem dX1_spareOnTop_1 : decode cX1_spareOnTop 1 = .ok (.getfield 15, 3) := by decide +kernel
theorem dX1_spareOnTop_4 : decode cX1_spareOnTop 4 = .ok (.invokevirtual 25, 3) := by decide +kernel
theorem dX1_spareOnTop_7 : decode cX1_spareOnTop 7 = .ok (.iconst 1, 1) := by decide +kernel
theorem dX1_spareOnTop_8 : decode cX1_spareOnTop 8 = .ok (.isub, 1) := by decide +kernel
theorem dX1_spareOnTop_9 : decode cX1_spareOnTop 9 = .ok (.istore_n 1, 1) := by decide +kernel
theorem dX1_spareOnTop_10 : decode cX1_spareOnTop 10 = .ok (.bipush 99, 2) := by decide +kernel
theorem dX1_spareOnTop_12 : decode cX1_spareOnTop 12 = .ok (.istore_n 2, 1) := by decide +kernel
theorem dX1_spareOnTop_13 : decode cX1_spareOnTop 13 = .ok (.iconst 0, 1) := by decide +kernel
theorem dX1_spareOnTop_14 : decode cX1_spareOnTop 14 = .ok (.istore_n 3, 1) := by decide +kernel
theorem dX1_spareOnTop_15 : decode cX1_spareOnTop 15 = .ok (.iload_n 3, 1) := by decide +kernel
theorem dX1_spareOnTop_16 : decode cX1_spareOnTop 16 = .ok (.iconst 3, 1) := by decide +kernel
theorem dX1_spareOnTop_17 : decode cX1_spareOnTop 17 = .ok (.if_icmp .ge 47, 3) := by decide +kernel
theorem dX1_spareOnTop_20 : decode cX1_spareOnTop 20 = .ok (.aload_n 0, 1) := by decide +kernel
theorem dX1_spareOnTop_21 : decode cX1_spareOnTop 21 = .ok (.iload_n 3, 1) := by decide +kernel
theorem dX1_spareOnTop_22 : decode cX1_spareOnTop 22 = .ok (.invokevirtual 33, 3) := by decide +kernel
theorem dX1_spareOnTop_25 : decode cX1_spareOnTop 25 = .ok (.iconst (-1), 1) := by decide +kernel
theorem dX1_spareOnTop_26 : decode cX1_spareOnTop 26 = .ok (.if_icmp .eq 5, 3) := by decide +kernel
theorem dX1_spareOnTop_29 : decode cX1_spareOnTop 29 = .ok (.iconst (-1), 1) := by decide +kernel
theorem dX1_spareOnTop_30 : decode cX1_spareOnTop 30 = .ok (.ireturn, 1) := by decide +kernel
theorem dX1_spareOnTop_31 : decode cX1_spareOnTop 31 = .ok (.iconst 0, 1) := by decide +kernel
theorem dX1_spareOnTop_32 : decode cX1_spareOnTop 32 = .ok (.istore 4, 2) := by decide +kernel
theorem dX1_spareOnTop_34 : decode cX1_spareOnTop 34 = .ok (.iload 4, 2) := by decide +kernel
theorem dX1_spareOnTop_36 : decode cX1_spareOnTop 36 = .ok (.iload_n 1, 1) := by decide +kernel
theorem dX1_spareOnTop_37 : decode cX1_spareOnTop 37 = .ok (.if_icmp .ge 21, 3) := by decide +kernel
theorem dX1_spareOnTop_40 : decode cX1_spareOnTop 40 = .ok (.iload_n 2, 1) := by decide +kernel
theorem dX1_spareOnTop_41 : decode cX1_spareOnTop 41 = .ok (.aload_n 0, 1) := by decide +kernel
theorem dX1_spareOnTop_42 : decode cX1_spareOnTop 42 = .ok (.iload 4, 2) := by decide +kernel
theorem dX1_spareOnTop_44 : decode cX1_spareOnTop 44 = .ok (.iload_n 3, 1) := by decide +kernel
theorem dX1_spareOnTop_45 : decode cX1_spareOnTop 45 = .ok (.invokevirtual 29, 3) := by decide +kernel
theorem dX1_spareOnTop_48 : decode cX1_spareOnTop 48 = .ok (.invokestatic 36, 3) := by decide +kernel
theorem dX1_spareOnTop_51 : decode cX1_spareOnTop 51 = .ok (.istore_n 2, 1) := by decide +kernel
theorem dX1_spareOnTop_52 : decode cX1_spareOnTop 52 = .ok (.iinc 4 1, 3) := by decide +kernel
theorem dX1_spareOnTop_55 : decode cX1_spareOnTop 55 = .ok (.goto (-21), 3) := by decide +kernel
theorem dX1_spareOnTop_58 : decode cX1_spareOnTop 58 = .ok (.iinc 3 1, 3) := by decide +kernel
theorem dX1_spareOnTop_61 : decode cX1_spareOnTop 61 = .ok (.goto (-46), 3) := by decide +kernel
theorem dX1_spareOnTop_64 : decode cX1_spareOnTop 64 = .ok (.iload_n 2, 1) := by decide +kernel
theorem dX1_spareOnTop_65 : decode cX1_spareOnTop 65 = .ok (.ireturn, 1) := by decide +kernel
theorem dX1_reserve_0 : decode cX1_reserve 0 = .ok (.iconst 0, 1) := by decide +kernel
theorem dX1_reserve_1 : decode cX1_reserve 1 = .ok (.istore_n 3, 1) := by decide +kernel
theorem dX1_reserve_2 : decode cX1_reserve 2 = .ok (.iload_n 1, 1) := by decide +kernel
theorem dX1_reserve_3 : decode cX1_reserve 3 = .ok (.iconst 1, 1) := by decide +kernel
theorem dX1_reserve_4 : decode cX1_reserve 4 = .ok (.iadd, 1) := by decide +kernel
theorem dX1_reserve_5 : decode cX1_reserve 5 = .ok (.istore 4, 2) := by decide +kernel
theorem dX1_reserve_7 : decode cX1_reserve 7 = .ok (.iload 4, 2) := by decide +kernel
theorem dX1_reserve_9 : decode cX1_reserve 9 = .ok (.aload_n 0, 1) := by decide +kernel
theorem dX1_reserve_10 : decode cX1_reserve 10 = .ok (.getfield 15, 3) := by decide +kernel
theorem dX1_reserve_13 : decode cX1_reserve 13 = .ok (.invokevirtual 25, 3) := by decide +kernel
theorem dX1_reserve_16 : decode cX1_reserve 16 = .ok (.if_icmp .ge 19, 3) := by decide +kernel
theorem dX1_reserve_19 : decode cX1_reserve 19 = .ok (.iload_n 3, 1) := by decide +kernel
theorem dX1_reserve_20 : decode cX1_reserve 20 = .ok (.aload_n 0, 1) := by decide +kernel
theorem dX1_reserve_21 : decode cX1_reserve 21 = .ok (.getfield 9, 3) := by decide +kernel
theorem dX1_reserve_24 : decode cX1_reserve 24 = .ok (.iload 4, 2) := by decide +kernel
theorem dX1_reserve_26 : decode cX1_reserve 26 = .ok (.iaload, 1) := by decide +kernel
theorem dX1_reserve_27 : decode cX1_reserve 27 = .ok (.iadd, 1) := by decide +kernel
theorem dX1_reserve_28 : decode cX1_reserve 28 = .ok (.istore_n 3, 1) := by decide +kernel
theorem dX1_reserve_29 : decode cX1_reserve 29 = .ok (.iinc 4 1, 3) := by decide +kernel
theorem dX1_reserve_32 : decode cX1_reserve 32 = .ok (.goto (-25), 3) := by decide +kernel
theorem dX1_reserve_35 : decode cX1_reserve 35 = .ok (.aload_n 0, 1) := by decide +kernel
theorem dX1_reserve_36 : decode cX1_reserve 36 = .ok (.iload_n 1, 1) := by decide +kernel
theorem dX1_reserve_37 : decode cX1_reserve 37 = .ok (.iload_n 2, 1) := by decide +kernel
theorem dX1_reserve_38 : decode cX1_reserve 38 = .ok (.invokevirtual 41, 3) := by decide +kernel
theorem dX1_reserve_41 : decode cX1_reserve 41 = .ok (.iload_n 3, 1) := by decide +kernel
theorem dX1_reserve_42 : decode cX1_reserve 42 = .ok (.isub, 1) := by decide +kernel
theorem dX1_reserve_43 : decode cX1_reserve 43 = .ok (.ireturn, 1) := by decide +kernel
theorem dX2_init_0 : decode cX2_init 0 = .ok (.aload_n 0, 1) := by decide +kernel
theorem dX2_init_1 : decode cX2_init 1 = .ok (.invokespecial 1, 3) := by decide +kernel
theorem dX2_init_4 : decode cX2_init 4 = .ok (.aload_n 0, 1) := by decide +kernel
theorem dX2_init_5 : decode cX2_init 5 = .ok (.iconst 3, 1) := by decide +kernel
theorem dX2_init_6 : decode cX2_init 6 = .ok (.newarray .int, 2) := by decide +kernel
theorem dX2_init_8 : decode cX2_init 8 = .ok (.dup, 1) := by decide +kernel
theorem dX2_init_9 : decode cX2_init 9 = .ok (.iconst 0, 1) := by decide +kernel
theorem dX2_init_10 : decode cX2_init 10 = .ok (.bipush 12, 2) := by decide +kernel
theorem dX2_init_12 : decode cX2_init 12 = .ok (.iastore, 1) := by decide +kernel
theorem dX2_init_13 : decode cX2_init 13 = .ok (.dup, 1) := by decide +kernel
theorem dX2_init_14 : decode cX2_init 14 = .ok (.iconst 1, 1) := by decide +kernel
theorem dX2_init_15 : decode cX2_init 15 = .ok (.bipush 45, 2) := by decide +kernel
theorem dX2_init_17 : decode cX2_init 17 = .ok (.iastore, 1) := by decide +kernel
theorem dX2_init_18 : decode cX2_init 18 = .ok (.dup, 1) := by decide +kernel
theorem dX2_init_19 : decode cX2_init 19 = .ok (.iconst 2, 1) := by decide +kernel
theorem dX2_init_20 : decode cX2_init 20 = .ok (.bipush 9, 2) := by decide +kernel
theorem dX2_init_22 : decode cX2_init 22 = .ok (.iastore, 1) := by decide +kernel
theorem dX2_init_23 : decode cX2_init 23 = .ok (.putfield 7, 3) := by decide +kernel
theorem dX2_init_26 : decode cX2_init 26 = .ok (.aload_n 0, 1) := by decide +kernel
theorem dX2_init_27 : decode cX2_init 27 = .ok (.iconst 3, 1) := by decide +kernel
theorem dX2_init_28 : decode cX2_init 28 = .ok (.newarray .int, 2) := by decide +kernel
theorem dX2_init_30 : decode cX2_init 30 = .ok (.dup, 1) := by decide +kernel
theorem dX2_init_31 : decode cX2_init 31 = .ok (.iconst 0, 1) := by decide +kernel
theorem dX2_init_32 : decode cX2_init 32 = .ok (.iconst 1, 1) := by decide +kernel
theorem dX2_init_33 : decode cX2_init 33 = .ok (.iastore, 1) := by decide +kernel
theorem dX2_init_34 : decode cX2_init 34 = .ok (.dup, 1) := by decide +kernel
theorem dX2_init_35 : decode cX2_init 35 = .ok (.iconst 1, 1) := by decide +kernel
theorem dX2_init_36 : decode cX2_init 36 = .ok (.iconst 1, 1) := by decide +kernel
theorem dX2_init_37 : decode cX2_init 37 = .ok (.iastore, 1) := by decide +kernel
theorem dX2_init_38 : decode cX2_init 38 = .ok (.dup, 1) := by decide +kernel
theorem dX2_init_39 : decode cX2_init 39 = .ok (.iconst 2, 1) := by decide +kernel
theorem dX2_init_40 : decode cX2_init 40 = .ok (.iconst 1, 1) := by decide +kernel
theorem dX2_init_41 : decode cX2_init 41 = .ok (.iastore, 1) := by decide +kernel
theorem dX2_init_42 : decode cX2_init 42 = .ok (.putfield 13, 3) := by decide +kernel
theorem dX2_init_45 : decode cX2_init 45 = .ok (.return_, 1) := by decide +kernel
theorem dX2_exchange_0 : decode cX2_exchange 0 = .ok (.iload_n 2, 1) := by decide +kernel
theorem dX2_exchange_1 : decode cX2_exchange 1 = .ok (.ifCond .ne 10, 3) := by decide +kernel
theorem dX2_exchange_4 : decode cX2_exchange 4 = .ok (.aload_n 0, 1) := by decide +kernel
theorem dX2_exchange_5 : decode cX2_exchange 5 = .ok (.getfield 7, 3) := by decide +kernel
theorem dX2_exchange_8 : decode cX2_exchange 8 = .ok (.goto 7, 3) := by decide +kernel
theorem dX2_exchange_11 : decode cX2_exchange 11 = .ok (.aload_n 0, 1) := by decide +kernel
theorem dX2_exchange_12 : decode cX2_exchange 12 = .ok (.getfield 13, 3) := by decide +kernel
theorem dX2_exchange_15 : decode cX2_exchange 15 = .ok (.astore 4, 2) := by decide +kernel
theorem dX2_exchange_17 : decode cX2_exchange 17 = .ok (.aload 4, 2) := by decide +kernel
theorem dX2_exchange_19 : decode cX2_exchange 19 = .ok (.iload_n 1, 1) := by decide +kernel
theorem dX2_exchange_20 : decode cX2_exchange 20 = .ok (.iaload, 1) := by decide +kernel
theorem dX2_exchange_21 : decode cX2_exchange 21 = .ok (.istore 5, 2) := by decide +kernel
theorem dX2_exchange_23 : decode cX2_exchange 23 = .ok (.aload 4, 2) := by decide +kernel
theorem dX2_exchange_25 : decode cX2_exchange 25 = .ok (.iload_n 1, 1) := by decide +kernel
theorem dX2_exchange_26 : decode cX2_exchange 26 = .ok (.iload_n 3, 1) := by decide +kernel
theorem dX2_exchange_27 : decode cX2_exchange 27 = .ok (.iastore, 1) := by decide +kernel
theorem dX2_exchange_28 : decode cX2_exchange 28 = .ok (.iload 5, 2) := by decide +kernel
theorem dX2_exchange_30 : decode cX2_exchange 30 = .ok (.ireturn, 1) := by decide +kernel
theorem dX2_toParts_0 : decode cX2_toParts 0 = .ok (.aload_n 0, 1) := by decide +kernel
theorem dX2_toParts_1 : decode cX2_toParts 1 = .ok (.getfield 7, 3) := by decide +kernel
theorem dX2_toParts_4 : decode cX2_toParts 4 = .ok (.iload_n 2, 1) := by decide +kernel
theorem dX2_toParts_5 : decode cX2_toParts 5 = .ok (.iaload, 1) := by decide +kernel
theorem dX2_toParts_6 : decode cX2_toParts 6 = .ok (.istore 4, 2) := by decide +kernel
theorem dX2_toParts_8 : decode cX2_toParts 8 = .ok (.aload_n 0, 1) := by decide +kernel
theorem dX2_toParts_9 : decode cX2_toParts 9 = .ok (.getfield 13, 3) := by decide +kernel
theorem dX2_toParts_12 : decode cX2_toParts 12 = .ok (.iload_n 2, 1) := by decide +kernel
theorem dX2_toParts_13 : decode cX2_toParts 13 = .ok (.iaload, 1) := by decide +kernel
theorem dX2_toParts_14 : decode cX2_toParts 14 = .ok (.istore 5, 2) := by decide +kernel
theorem dX2_toParts_16 : decode cX2_toParts 16 = .ok (.iload_n 1, 1) := by decide +kernel
theorem dX2_toParts_17 : decode cX2_toParts 17 = .ok (.iload 5, 2) := by decide +kernel
theorem dX2_toParts_19 : decode cX2_toParts 19 = .ok (.imul, 1) := by decide +kernel
theorem dX2_toParts_20 : decode cX2_toParts 20 = .ok (.istore 6, 2) := by decide +kernel
theorem dX2_toParts_22 : decode cX2_toParts 22 = .ok (.iload_n 3, 1) := by decide +kernel
theorem dX2_toParts_23 : decode cX2_toParts 23 = .ok (.ifCond .ne 13, 3) := by decide +kernel
theorem dX2_toParts_26 : decode cX2_toParts 26 = .ok (.iload 6, 2) := by decide +kernel
theorem dX2_toParts_28 : decode cX2_toParts 28 = .ok (.iload 4, 2) := by decide +kernel
theorem dX2_toParts_30 : decode cX2_toParts 30 = .ok (.idiv, 1) := by decide +kernel
theorem dX2_toParts_31 : decode cX2_toParts 31 = .ok (.istore 7, 2) := by decide +kernel
theorem dX2_toParts_33 : decode cX2_toParts 33 = .ok (.goto 39, 3) := by decide +kernel
theorem dX2_toParts_36 : decode cX2_toParts 36 = .ok (.iload_n 3, 1) := by decide +kernel
theorem dX2_toParts_37 : decode cX2_toParts 37 = .ok (.iconst 1, 1) := by decide +kernel
theorem dX2_toParts_38 : decode cX2_toParts 38 = .ok (.if_icmp .ne 18, 3) := by decide +kernel
theorem dX2_toParts_41 : decode cX2_toParts 41 = .ok (.iload 6, 2) := by decide +kernel
theorem dX2_toParts_43 : decode cX2_toParts 43 = .ok (.iload 4, 2) := by decide +kernel
theorem dX2_toParts_45 : decode cX2_toParts 45 = .ok (.iadd, 1) := by decide +kernel
theorem dX2_toParts_46 : decode cX2_toParts 46 = .ok (.iconst 1, 1) := by decide +kernel
theorem dX2_toParts_47 : decode cX2_toParts 47 = .ok (.isub, 1) := by decide +kernel
theorem dX2_toParts_48 : decode cX2_toParts 48 = .ok (.iload 4, 2) := by decide +kernel
theorem dX2_toParts_50 : decode cX2_toParts 50 = .ok (.idiv, 1) := by decide +kernel
theorem dX2_toParts_51 : decode cX2_toParts 51 = .ok (.istore 7, 2) := by decide +kernel
theorem dX2_toParts_53 : decode cX2_toParts 53 = .ok (.goto 19, 3) := by decide +kernel
theorem dX2_toParts_56 : decode cX2_toParts 56 = .ok (.iconst 2, 1) := by decide +kernel
theorem dX2_toParts_57 : decode cX2_toParts 57 = .ok (.iload 6, 2) := by decide +kernel
theorem dX2_toParts_59 : decode cX2_toParts 59 = .ok (.imul, 1) := by decide +kernel
theorem dX2_toParts_60 : decode cX2_toParts 60 = .ok (.iload 4, 2) := by decide +kernel
theorem dX2_toParts_62 : decode cX2_toParts 62 = .ok (.iadd, 1) := by decide +kernel
theorem dX2_toParts_63 : decode cX2_toParts 63 = .ok (.iconst 1, 1) := by decide +kernel
theorem dX2_toParts_64 : decode cX2_toParts 64 = .ok (.isub, 1) := by decide +kernel
theorem dX2_toParts_65 : decode cX2_toParts 65 = .ok (.iconst 2, 1) := by decide +kernel
theorem dX2_toParts_66 : decode cX2_toParts 66 = .ok (.iload 4, 2) := by decide +kernel
theorem dX2_toParts_68 : decode cX2_toParts 68 = .ok (.imul, 1) := by decide +kernel
theorem dX2_toParts_69 : decode cX2_toParts 69 = .ok (.idiv, 1) := by decide +kernel
theorem dX2_toParts_70 : decode cX2_toParts 70 = .ok (.istore 7, 2) := by decide +kernel
theorem dX2_toParts_72 : decode cX2_toParts 72 = .ok (.iload 7, 2) := by decide +kernel
theorem dX2_toParts_74 : decode cX2_toParts 74 = .ok (.iload 4, 2) := by decide +kernel
theorem dX2_toParts_76 : decode cX2_toParts 76 = .ok (.imul, 1) := by decide +kernel
theorem dX2_toParts_77 : decode cX2_toParts 77 = .ok (.iload 5, 2) := by decide +kernel
theorem dX2_toParts_79 : decode cX2_toParts 79 = .ok (.idiv, 1) := by decide +kernel
theorem dX2_toParts_80 : decode cX2_toParts 80 = .ok (.ireturn, 1) := by decide +kernel
theorem dX3_init_0 : decode cX3_init 0 = .ok (.aload_n 0, 1) := by decide +kernel
theorem dX3_init_1 : decode cX3_init 1 = .ok (.invokespecial 3, 3) := by decide +kernel
theorem dX3_init_4 : decode cX3_init 4 = .ok (.aload_n 0, 1) := by decide +kernel
theorem dX3_init_5 : decode cX3_init 5 = .ok (.bipush 10, 2) := by decide +kernel
theorem dX3_init_7 : decode cX3_init 7 = .ok (.newarray .int, 2) := by decide +kernel
theorem dX3_init_9 : decode cX3_init 9 = .ok (.putfield 9, 3) := by decide +kernel
theorem dX3_init_12 : decode cX3_init 12 = .ok (.return_, 1) := by decide +kernel
theorem dX3_work_0 : decode cX3_work 0 = .ok (.aload_n 0, 1) := by decide +kernel
theorem dX3_work_1 : decode cX3_work 1 = .ok (.getfield 9, 3) := by decide +kernel
theorem dX3_work_4 : decode cX3_work 4 = .ok (.iconst 0, 1) := by decide +kernel
theorem dX3_work_5 : decode cX3_work 5 = .ok (.invokestatic 15, 3) := by decide +kernel
theorem dX3_work_8 : decode cX3_work 8 = .ok (.iload_n 3, 1) := by decide +kernel
theorem dX3_work_9 : decode cX3_work 9 = .ok (.ifCond .ne 12, 3) := by decide +kernel
theorem dX3_work_12 : decode cX3_work 12 = .ok (.iload 4, 2) := by decide +kernel
theorem dX3_work_14 : decode cX3_work 14 = .ok (.ifCond .ne 7, 3) := by decide +kernel
theorem dX3_work_17 : decode cX3_work 17 = .ok (.iconst 1, 1) := by decide +kernel
theorem dX3_work_18 : decode cX3_work 18 = .ok (.goto 4, 3) := by decide +kernel
theorem dX3_work_21 : decode cX3_work 21 = .ok (.iconst 0, 1) := by decide +kernel
theorem dX3_work_22 : decode cX3_work 22 = .ok (.istore 5, 2) := by decide +kernel
theorem dX3_work_24 : decode cX3_work 24 = .ok (.iconst 0, 1) := by decide +kernel
theorem dX3_work_25 : decode cX3_work 25 = .ok (.istore 6, 2) := by decide +kernel
theorem dX3_work_27 : decode cX3_work 27 = .ok (.iconst 0, 1) := by decide +kernel
theorem dX3_work_28 : decode cX3_work 28 = .ok (.istore 7, 2) := by decide +kernel
theorem dX3_work_30 : decode cX3_work 30 = .ok (.iconst 1, 1) := by decide +kernel
theorem dX3_work_31 : decode cX3_work 31 = .ok (.istore 8, 2) := by decide +kernel
theorem dX3_work_33 : decode cX3_work 33 = .ok (.iload 8, 2) := by decide +kernel
theorem dX3_work_35 : decode cX3_work 35 = .ok (.aload_n 1, 1) := by decide +kernel
theorem dX3_work_36 : decode cX3_work 36 = .ok (.invokevirtual 21, 3) := by decide +kernel
theorem dX3_work_39 : decode cX3_work 39 = .ok (.if_icmp .gt 95, 3) := by decide +kernel
theorem dX3_work_42 : decode cX3_work 42 = .ok (.iload_n 2, 1) := by decide +kernel
theorem dX3_work_43 : decode cX3_work 43 = .ok (.iload 8, 2) := by decide +kernel
theorem dX3_work_45 : decode cX3_work 45 = .ok (.iconst 1, 1) := by decide +kernel
theorem dX3_work_46 : decode cX3_work 46 = .ok (.isub, 1) := by decide +kernel
theorem dX3_work_47 : decode cX3_work 47 = .ok (.ishr, 1) := by decide +kernel
theorem dX3_work_48 : decode cX3_work 48 = .ok (.iconst 1, 1) := by decide +kernel
theorem dX3_work_49 : decode cX3_work 49 = .ok (.iand, 1) := by decide +kernel
theorem dX3_work_50 : decode cX3_work 50 = .ok (.ifCond .ne 6, 3) := by decide +kernel
theorem dX3_work_53 : decode cX3_work 53 = .ok (.goto 75, 3) := by decide +kernel
theorem dX3_work_56 : decode cX3_work 56 = .ok (.aload_n 1, 1) := by decide +kernel
theorem dX3_work_57 : decode cX3_work 57 = .ok (.iload 7, 2) := by decide +kernel
theorem dX3_work_59 : decode cX3_work 59 = .ok (.invokevirtual 27, 3) := by decide +kernel
theorem dX3_work_62 : decode cX3_work 62 = .ok (.aload_n 1, 1) := by decide +kernel
theorem dX3_work_63 : decode cX3_work 63 = .ok (.iload 8, 2) := by decide +kernel
theorem dX3_work_65 : decode cX3_work 65 = .ok (.invokevirtual 27, 3) := by decide +kernel
theorem dX3_work_68 : decode cX3_work 68 = .ok (.isub, 1) := by decide +kernel
theorem dX3_work_69 : decode cX3_work 69 = .ok (.istore 9, 2) := by decide +kernel
theorem dX3_work_71 : decode cX3_work 71 = .ok (.iload 9, 2) := by decide +kernel
theorem dX3_work_73 : decode cX3_work 73 = .ok (.invokestatic 31, 3) := by decide +kernel
theorem dX3_work_76 : decode cX3_work 76 = .ok (.bipush 99, 2) := by decide +kernel
theorem dX3_work_78 : decode cX3_work 78 = .ok (.iload 8, 2) := by decide +kernel
theorem dX3_work_80 : decode cX3_work 80 = .ok (.iload 7, 2) := by decide +kernel
theorem dX3_work_82 : decode cX3_work 82 = .ok (.isub, 1) := by decide +kernel
theorem dX3_work_83 : decode cX3_work 83 = .ok (.imul, 1) := by decide +kernel
theorem dX3_work_84 : decode cX3_work 84 = .ok (.if_icmp .le 5, 3) := by decide +kernel
theorem dX3_work_87 : decode cX3_work 87 = .ok (.iconst (-1), 1) := by decide +kernel
theorem dX3_work_88 : decode cX3_work 88 = .ok (.ireturn, 1) := by decide +kernel
theorem dX3_work_89 : decode cX3_work 89 = .ok (.iload 6, 2) := by decide +kernel
theorem dX3_work_91 : decode cX3_work 91 = .ok (.iload 9, 2) := by decide +kernel
theorem dX3_work_93 : decode cX3_work 93 = .ok (.ifCond .le 10, 3) := by decide +kernel
theorem dX3_work_96 : decode cX3_work 96 = .ok (.iload 9, 2) := by decide +kernel
theorem dX3_work_98 : decode cX3_work 98 = .ok (.iload_n 3, 1) := by decide +kernel
theorem dX3_work_99 : decode cX3_work 99 = .ok (.imul, 1) := by decide +kernel
theorem dX3_work_100 : decode cX3_work 100 = .ok (.goto 9, 3) := by decide +kernel
theorem dX3_work_103 : decode cX3_work 103 = .ok (.iload 9, 2) := by decide +kernel
theorem dX3_work_105 : decode cX3_work 105 = .ok (.ineg, 1) := by decide +kernel
theorem dX3_work_106 : decode cX3_work 106 = .ok (.iload 4, 2) := by decide +kernel
theorem dX3_work_108 : decode cX3_work 108 = .ok (.imul, 1) := by decide +kernel
theorem dX3_work_109 : decode cX3_work 109 = .ok (.iadd, 1) := by decide +kernel
theorem dX3_work_110 : decode cX3_work 110 = .ok (.istore 6, 2) := by decide +kernel
theorem dX3_work_112 : decode cX3_work 112 = .ok (.aload_n 0, 1) := by decide +kernel
theorem dX3_work_113 : decode cX3_work 113 = .ok (.iload 9, 2) := by decide +kernel
theorem dX3_work_115 : decode cX3_work 115 = .ok (.iload 7, 2) := by decide +kernel
theorem dX3_work_117 : decode cX3_work 117 = .ok (.iload 8, 2) := by decide +kernel
theorem dX3_work_119 : decode cX3_work 119 = .ok (.iload 5, 2) := by decide +kernel
theorem dX3_work_121 : decode cX3_work 121 = .ok (.invokevirtual 36, 3) := by decide +kernel
theorem dX3_work_124 : decode cX3_work 124 = .ok (.iload 8, 2) := by decide +kernel
theorem dX3_work_126 : decode cX3_work 126 = .ok (.istore 7, 2) := by decide +kernel
theorem dX3_work_128 : decode cX3_work 128 = .ok (.iinc 8 1, 3) := by decide +kernel
theorem dX3_work_131 : decode cX3_work 131 = .ok (.goto (-98), 3) := by decide +kernel
theorem dX3_work_134 : decode cX3_work 134 = .ok (.iload 6, 2) := by decide +kernel
theorem dX3_work_136 : decode cX3_work 136 = .ok (.ireturn, 1) := by decide +kernel
theorem dX3_share_0 : decode cX3_share 0 = .ok (.iload 4, 2) := by decide +kernel
theorem dX3_share_2 : decode cX3_share 2 = .ok (.ifCond .ne 7, 3) := by decide +kernel
theorem dX3_share_5 : decode cX3_share 5 = .ok (.iload_n 1, 1) := by decide +kernel
theorem dX3_share_6 : decode cX3_share 6 = .ok (.ifCond .ge 8, 3) := by decide +kernel
theorem dX3_share_9 : decode cX3_share 9 = .ok (.bipush (-99), 2) := by decide +kernel
theorem dX3_share_11 : decode cX3_share 11 = .ok (.goto 4, 3) := by decide +kernel
theorem dX3_share_14 : decode cX3_share 14 = .ok (.iconst 0, 1) := by decide +kernel
theorem dX3_share_15 : decode cX3_share 15 = .ok (.istore 5, 2) := by decide +kernel
theorem dX3_share_17 : decode cX3_share 17 = .ok (.iload 4, 2) := by decide +kernel
theorem dX3_share_19 : decode cX3_share 19 = .ok (.ifCond .ne 7, 3) := by decide +kernel
theorem dX3_share_22 : decode cX3_share 22 = .ok (.iload_n 1, 1) := by decide +kernel
theorem dX3_share_23 : decode cX3_share 23 = .ok (.ifCond .le 8, 3) := by decide +kernel
theorem dX3_share_26 : decode cX3_share 26 = .ok (.bipush 99, 2) := by decide +kernel
theorem dX3_share_28 : decode cX3_share 28 = .ok (.goto 4, 3) := by decide +kernel
theorem dX3_share_31 : decode cX3_share 31 = .ok (.iconst 0, 1) := by decide +kernel
theorem dX3_share_32 : decode cX3_share 32 = .ok (.istore 6, 2) := by decide +kernel
theorem dX3_share_34 : decode cX3_share 34 = .ok (.iload_n 1, 1) := by decide +kernel
theorem dX3_share_35 : decode cX3_share 35 = .ok (.istore 7, 2) := by decide +kernel
theorem dX3_share_37 : decode cX3_share 37 = .ok (.iload_n 2, 1) := by decide +kernel
theorem dX3_share_38 : decode cX3_share 38 = .ok (.istore 8, 2) := by decide +kernel
theorem dX3_share_40 : decode cX3_share 40 = .ok (.iload 8, 2) := by decide +kernel
theorem dX3_share_42 : decode cX3_share 42 = .ok (.iload_n 3, 1) := by decide +kernel
theorem dX3_share_43 : decode cX3_share 43 = .ok (.if_icmp .ge 45, 3) := by decide +kernel
theorem dX3_share_46 : decode cX3_share 46 = .ok (.aload_n 0, 1) := by decide +kernel
theorem dX3_share_47 : decode cX3_share 47 = .ok (.getfield 9, 3) := by decide +kernel
theorem dX3_share_50 : decode cX3_share 50 = .ok (.iload 8, 2) := by decide +kernel
theorem dX3_share_52 : decode cX3_share 52 = .ok (.iload 5, 2) := by decide +kernel
theorem dX3_share_54 : decode cX3_share 54 = .ok (.iload 7, 2) := by decide +kernel
theorem dX3_share_56 : decode cX3_share 56 = .ok (.iload 6, 2) := by decide +kernel
theorem dX3_share_58 : decode cX3_share 58 = .ok (.iload_n 3, 1) := by decide +kernel
theorem dX3_share_59 : decode cX3_share 59 = .ok (.iload 8, 2) := by decide +kernel
theorem dX3_share_61 : decode cX3_share 61 = .ok (.isub, 1) := by decide +kernel
theorem dX3_share_62 : decode cX3_share 62 = .ok (.iconst 1, 1) := by decide +kernel
theorem dX3_share_63 : decode cX3_share 63 = .ok (.isub, 1) := by decide +kernel
theorem dX3_share_64 : decode cX3_share 64 = .ok (.imul, 1) := by decide +kernel
theorem dX3_share_65 : decode cX3_share 65 = .ok (.isub, 1) := by decide +kernel
theorem dX3_share_66 : decode cX3_share 66 = .ok (.invokestatic 40, 3) := by decide +kernel
theorem dX3_share_69 : decode cX3_share 69 = .ok (.iastore, 1) := by decide +kernel
theorem dX3_share_70 : decode cX3_share 70 = .ok (.iload 7, 2) := by decide +kernel
theorem dX3_share_72 : decode cX3_share 72 = .ok (.aload_n 0, 1) := by decide +kernel
theorem dX3_share_73 : decode cX3_share 73 = .ok (.getfield 9, 3) := by decide +kernel
theorem dX3_share_76 : decode cX3_share 76 = .ok (.iload 8, 2) := by decide +kernel
theorem dX3_share_78 : decode cX3_share 78 = .ok (.iaload, 1) := by decide +kernel
theorem dX3_share_79 : decode cX3_share 79 = .ok (.isub, 1) := by decide +kernel
theorem dX3_share_80 : decode cX3_share 80 = .ok (.istore 7, 2) := by decide +kernel
theorem dX3_share_82 : decode cX3_share 82 = .ok (.iinc 8 1, 3) := by decide +kernel
theorem dX3_share_85 : decode cX3_share 85 = .ok (.goto (-45), 3) := by decide +kernel
theorem dX3_share_88 : decode cX3_share 88 = .ok (.return_, 1) := by decide +kernel
theorem dX4_init_0 : decode cX4_init 0 = .ok (.aload_n 0, 1) := by decide +kernel
theorem dX4_init_1 : decode cX4_init 1 = .ok (.invokespecial 3, 3) := by decide +kernel
theorem dX4_init_4 : decode cX4_init 4 = .ok (.aload_n 0, 1) := by decide +kernel
theorem dX4_init_5 : decode cX4_init 5 = .ok (.bipush 80, 2) := by decide +kernel
theorem dX4_init_7 : decode cX4_init 7 = .ok (.newarray .int, 2) := by decide +kernel
theorem dX4_init_9 : decode cX4_init 9 = .ok (.putfield 9, 3) := by decide +kernel
theorem dX4_init_12 : decode cX4_init 12 = .ok (.aload_n 0, 1) := by decide +kernel
theorem dX4_init_13 : decode cX4_init 13 = .ok (.iconst (-1), 1) := by decide +kernel
theorem dX4_init_14 : decode cX4_init 14 = .ok (.putfield 15, 3) := by decide +kernel
theorem dX4_init_17 : decode cX4_init 17 = .ok (.aload_n 0, 1) := by decide +kernel
theorem dX4_init_18 : decode cX4_init 18 = .ok (.bipush 10, 2) := by decide +kernel
theorem dX4_init_20 : decode cX4_init 20 = .ok (.newarray .int, 2) := by decide +kernel
theorem dX4_init_22 : decode cX4_init 22 = .ok (.putfield 19, 3) := by decide +kernel
theorem dX4_init_25 : decode cX4_init 25 = .ok (.aload_n 0, 1) := by decide +kernel
theorem dX4_init_26 : decode cX4_init 26 = .ok (.bipush 10, 2) := by decide +kernel
theorem dX4_init_28 : decode cX4_init 28 = .ok (.newarray .int, 2) := by decide +kernel
theorem dX4_init_30 : decode cX4_init 30 = .ok (.putfield 22, 3) := by decide +kernel
theorem dX4_init_33 : decode cX4_init 33 = .ok (.aload_n 0, 1) := by decide +kernel
theorem dX4_init_34 : decode cX4_init 34 = .ok (.bipush 10, 2) := by decide +kernel
theorem dX4_init_36 : decode cX4_init 36 = .ok (.newarray .int, 2) := by decide +kernel
theorem dX4_init_38 : decode cX4_init 38 = .ok (.putfield 25, 3) := by decide +kernel
theorem dX4_init_41 : decode cX4_init 41 = .ok (.return_, 1) := by decide +kernel
theorem dX4_append_0 : decode cX4_append 0 = .ok (.aload_n 0, 1) := by decide +kernel
theorem dX4_append_1 : decode cX4_append 1 = .ok (.getfield 28, 3) := by decide +kernel
theorem dX4_append_4 : decode cX4_append 4 = .ok (.bipush 80, 2) := by decide +kernel
theorem dX4_append_6 : decode cX4_append 6 = .ok (.if_icmp .ge 27, 3) := by decide +kernel
theorem dX4_append_9 : decode cX4_append 9 = .ok (.aload_n 0, 1) := by decide +kernel
theorem dX4_append_10 : decode cX4_append 10 = .ok (.getfield 9, 3) := by decide +kernel
theorem dX4_append_13 : decode cX4_append 13 = .ok (.aload_n 0, 1) := by decide +kernel
theorem dX4_append_14 : decode cX4_append 14 = .ok (.getfield 28, 3) := by decide +kernel
theorem dX4_append_17 : decode cX4_append 17 = .ok (.iload_n 1, 1) := by decide +kernel
theorem dX4_append_18 : decode cX4_append 18 = .ok (.iastore, 1) := by decide +kernel
theorem dX4_append_19 : decode cX4_append 19 = .ok (.aload_n 0, 1) := by decide +kernel
theorem dX4_append_20 : decode cX4_append 20 = .ok (.dup, 1) := by decide +kernel
theorem dX4_append_21 : decode cX4_append 21 = .ok (.getfield 28, 3) := by decide +kernel
theorem dX4_append_24 : decode cX4_append 24 = .ok (.iconst 1, 1) := by decide +kernel
theorem dX4_append_25 : decode cX4_append 25 = .ok (.iadd, 1) := by decide +kernel
theorem dX4_append_26 : decode cX4_append 26 = .ok (.putfield 28, 3) := by decide +kernel
theorem dX4_append_29 : decode cX4_append 29 = .ok (.aload_n 0, 1) := by decide +kernel
theorem dX4_append_30 : decode cX4_append 30 = .ok (.invokevirtual 31, 3) := by decide +kernel
theorem dX4_append_33 : decode cX4_append 33 = .ok (.return_, 1) := by decide +kernel
theorem dX4_clear_0 : decode cX4_clear 0 = .ok (.aload_n 0, 1) := by decide +kernel
theorem dX4_clear_1 : decode cX4_clear 1 = .ok (.iconst 0, 1) := by decide +kernel
theorem dX4_clear_2 : decode cX4_clear 2 = .ok (.putfield 28, 3) := by decide +kernel
theorem dX4_clear_5 : decode cX4_clear 5 = .ok (.aload_n 0, 1) := by decide +kernel
theorem dX4_clear_6 : decode cX4_clear 6 = .ok (.invokevirtual 31, 3) := by decide +kernel
theorem dX4_clear_9 : decode cX4_clear 9 = .ok (.return_, 1) := by decide +kernel
theorem dX4_master_0 : decode cX4_master 0 = .ok (.aload_n 0, 1) := by decide +kernel
theorem dX4_master_1 : decode cX4_master 1 = .ok (.getfield 25, 3) := by decide +kernel
theorem dX4_master_4 : decode cX4_master 4 = .ok (.iload_n 1, 1) := by decide +kernel
theorem dX4_master_5 : decode cX4_master 5 = .ok (.iaload, 1) := by decide +kernel
theorem dX4_master_6 : decode cX4_master 6 = .ok (.iconst 3, 1) := by decide +kernel
theorem dX4_master_7 : decode cX4_master 7 = .ok (.idiv, 1) := by decide +kernel
theorem dX4_master_8 : decode cX4_master 8 = .ok (.ireturn, 1) := by decide +kernel
theorem dX4_habit_0 : decode cX4_habit 0 = .ok (.aload_n 0, 1) := by decide +kernel
theorem dX4_habit_1 : decode cX4_habit 1 = .ok (.getfield 25, 3) := by decide +kernel
theorem dX4_habit_4 : decode cX4_habit 4 = .ok (.iload_n 1, 1) := by decide +kernel
theorem dX4_habit_5 : decode cX4_habit 5 = .ok (.iaload, 1) := by decide +kernel
theorem dX4_habit_6 : decode cX4_habit 6 = .ok (.iconst 3, 1) := by decide +kernel
theorem dX4_habit_7 : decode cX4_habit 7 = .ok (.irem, 1) := by decide +kernel
theorem dX4_habit_8 : decode cX4_habit 8 = .ok (.ireturn, 1) := by decide +kernel
theorem dX4_scan_0 : decode cX4_scan 0 = .ok (.aload_n 0, 1) := by decide +kernel
theorem dX4_scan_1 : decode cX4_scan 1 = .ok (.iconst 0, 1) := by decide +kernel
theorem dX4_scan_2 : decode cX4_scan 2 = .ok (.putfield 34, 3) := by decide +kernel
theorem dX4_scan_5 : decode cX4_scan 5 = .ok (.aload_n 0, 1) := by decide +kernel
theorem dX4_scan_6 : decode cX4_scan 6 = .ok (.iconst (-1), 1) := by decide +kernel
theorem dX4_scan_7 : decode cX4_scan 7 = .ok (.putfield 15, 3) := by decide +kernel
theorem dX4_scan_10 : decode cX4_scan 10 = .ok (.iconst 0, 1) := by decide +kernel
theorem dX4_scan_11 : decode cX4_scan 11 = .ok (.istore_n 1, 1) := by decide +kernel
theorem dX4_scan_12 : decode cX4_scan 12 = .ok (.aload_n 0, 1) := by decide +kernel
theorem dX4_scan_13 : decode cX4_scan 13 = .ok (.getfield 28, 3) := by decide +kernel
theorem dX4_scan_16 : decode cX4_scan 16 = .ok (.ifCond .le 7, 3) := by decide +kernel
theorem dX4_scan_19 : decode cX4_scan 19 = .ok (.iconst 1, 1) := by decide +kernel
theorem dX4_scan_20 : decode cX4_scan 20 = .ok (.goto 4, 3) := by decide +kernel
theorem dX4_scan_23 : decode cX4_scan 23 = .ok (.iconst 0, 1) := by decide +kernel
theorem dX4_scan_24 : decode cX4_scan 24 = .ok (.istore_n 2, 1) := by decide +kernel
theorem dX4_scan_25 : decode cX4_scan 25 = .ok (.iload_n 2, 1) := by decide +kernel
theorem dX4_scan_26 : decode cX4_scan 26 = .ok (.ifCond .eq 49, 3) := by decide +kernel
theorem dX4_scan_29 : decode cX4_scan 29 = .ok (.iload_n 1, 1) := by decide +kernel
theorem dX4_scan_30 : decode cX4_scan 30 = .ok (.bipush 10, 2) := by decide +kernel
theorem dX4_scan_32 : decode cX4_scan 32 = .ok (.if_icmp .ge 43, 3) := by decide +kernel
theorem dX4_scan_35 : decode cX4_scan 35 = .ok (.aload_n 0, 1) := by decide +kernel
theorem dX4_scan_36 : decode cX4_scan 36 = .ok (.iload_n 1, 1) := by decide +kernel
theorem dX4_scan_37 : decode cX4_scan 37 = .ok (.invokevirtual 37, 3) := by decide +kernel
theorem dX4_scan_40 : decode cX4_scan 40 = .ok (.ifCond .eq 27, 3) := by decide +kernel
theorem dX4_scan_43 : decode cX4_scan 43 = .ok (.aload_n 0, 1) := by decide +kernel
theorem dX4_scan_44 : decode cX4_scan 44 = .ok (.getfield 34, 3) := by decide +kernel
theorem dX4_scan_47 : decode cX4_scan 47 = .ok (.aload_n 0, 1) := by decide +kernel
theorem dX4_scan_48 : decode cX4_scan 48 = .ok (.getfield 28, 3) := by decide +kernel
theorem dX4_scan_51 : decode cX4_scan 51 = .ok (.if_icmp .ge 16, 3) := by decide +kernel
theorem dX4_scan_54 : decode cX4_scan 54 = .ok (.aload_n 0, 1) := by decide +kernel
theorem dX4_scan_55 : decode cX4_scan 55 = .ok (.bipush 59, 2) := by decide +kernel
theorem dX4_scan_57 : decode cX4_scan 57 = .ok (.invokevirtual 41, 3) := by decide +kernel
theorem dX4_scan_60 : decode cX4_scan 60 = .ok (.ifCond .eq 7, 3) := by decide +kernel
theorem dX4_scan_63 : decode cX4_scan 63 = .ok (.iconst 1, 1) := by decide +kernel
theorem dX4_scan_64 : decode cX4_scan 64 = .ok (.goto 4, 3) := by decide +kernel
theorem dX4_scan_67 : decode cX4_scan 67 = .ok (.iconst 0, 1) := by decide +kernel
theorem dX4_scan_68 : decode cX4_scan 68 = .ok (.istore_n 2, 1) := by decide +kernel
theorem dX4_scan_69 : decode cX4_scan 69 = .ok (.iinc 1 1, 3) := by decide +kernel
theorem dX4_scan_72 : decode cX4_scan 72 = .ok (.goto (-47), 3) := by decide +kernel
theorem dX4_scan_75 : decode cX4_scan 75 = .ok (.iload_n 2, 1) := by decide +kernel
theorem dX4_scan_76 : decode cX4_scan 76 = .ok (.ifCond .eq 12, 3) := by decide +kernel
theorem dX4_scan_79 : decode cX4_scan 79 = .ok (.aload_n 0, 1) := by decide +kernel
theorem dX4_scan_80 : decode cX4_scan 80 = .ok (.aload_n 0, 1) := by decide +kernel
theorem dX4_scan_81 : decode cX4_scan 81 = .ok (.getfield 34, 3) := by decide +kernel
theorem dX4_scan_84 : decode cX4_scan 84 = .ok (.invokevirtual 45, 3) := by decide +kernel
theorem dX4_scan_87 : decode cX4_scan 87 = .ok (.pop, 1) := by decide +kernel
theorem dX4_scan_88 : decode cX4_scan 88 = .ok (.aload_n 0, 1) := by decide +kernel
theorem dX4_scan_89 : decode cX4_scan 89 = .ok (.aload_n 0, 1) := by decide +kernel
theorem dX4_scan_90 : decode cX4_scan 90 = .ok (.getfield 15, 3) := by decide +kernel
theorem dX4_scan_93 : decode cX4_scan 93 = .ok (.iconst (-1), 1) := by decide +kernel
theorem dX4_scan_94 : decode cX4_scan 94 = .ok (.if_icmp .ne 7, 3) := by decide +kernel
theorem dX4_scan_97 : decode cX4_scan 97 = .ok (.iload_n 1, 1) := by decide +kernel
theorem dX4_scan_98 : decode cX4_scan 98 = .ok (.goto 4, 3) := by decide +kernel
theorem dX4_scan_101 : decode cX4_scan 101 = .ok (.iconst 0, 1) := by decide +kernel
theorem dX4_scan_102 : decode cX4_scan 102 = .ok (.putfield 48, 3) := by decide +kernel
theorem dX4_scan_105 : decode cX4_scan 105 = .ok (.return_, 1) := by decide +kernel
theorem dX4_takeFloor_0 : decode cX4_takeFloor 0 = .ok (.aload_n 0, 1) := by decide +kernel
theorem dX4_takeFloor_1 : decode cX4_takeFloor 1 = .ok (.bipush 99, 2) := by decide +kernel
theorem dX4_takeFloor_3 : decode cX4_takeFloor 3 = .ok (.invokevirtual 51, 3) := by decide +kernel
theorem dX4_takeFloor_6 : decode cX4_takeFloor 6 = .ok (.istore_n 2, 1) := by decide +kernel
theorem dX4_takeFloor_7 : decode cX4_takeFloor 7 = .ok (.iload_n 2, 1) := by decide +kernel
theorem dX4_takeFloor_8 : decode cX4_takeFloor 8 = .ok (.iconst (-1), 1) := by decide +kernel
theorem dX4_takeFloor_9 : decode cX4_takeFloor 9 = .ok (.if_icmp .eq 11, 3) := by decide +kernel
theorem dX4_takeFloor_12 : decode cX4_takeFloor 12 = .ok (.aload_n 0, 1) := by decide +kernel
theorem dX4_takeFloor_13 : decode cX4_takeFloor 13 = .ok (.iload_n 1, 1) := by decide +kernel
theorem dX4_takeFloor_14 : decode cX4_takeFloor 14 = .ok (.invokevirtual 55, 3) := by decide +kernel
theorem dX4_takeFloor_17 : decode cX4_takeFloor 17 = .ok (.ifCond .ne 5, 3) := by decide +kernel
theorem dX4_takeFloor_20 : decode cX4_takeFloor 20 = .ok (.iconst 0, 1) := by decide +kernel
theorem dX4_takeFloor_21 : decode cX4_takeFloor 21 = .ok (.ireturn, 1) := by decide +kernel
theorem dX4_takeFloor_22 : decode cX4_takeFloor 22 = .ok (.iconst 0, 1) := by decide +kernel
theorem dX4_takeFloor_23 : decode cX4_takeFloor 23 = .ok (.istore_n 3, 1) := by decide +kernel
theorem dX4_takeFloor_24 : decode cX4_takeFloor 24 = .ok (.aload_n 0, 1) := by decide +kernel
theorem dX4_takeFloor_25 : decode cX4_takeFloor 25 = .ok (.invokevirtual 58, 3) := by decide +kernel
theorem dX4_takeFloor_28 : decode cX4_takeFloor 28 = .ok (.bipush 43, 2) := by decide +kernel
theorem dX4_takeFloor_30 : decode cX4_takeFloor 30 = .ok (.if_icmp .ne 20, 3) := by decide +kernel
theorem dX4_takeFloor_33 : decode cX4_takeFloor 33 = .ok (.aload_n 0, 1) := by decide +kernel
theorem dX4_takeFloor_34 : decode cX4_takeFloor 34 = .ok (.dup, 1) := by decide +kernel
theorem dX4_takeFloor_35 : decode cX4_takeFloor 35 = .ok (.getfield 34, 3) := by decide +kernel
theorem dX4_takeFloor_38 : decode cX4_takeFloor 38 = .ok (.iconst 1, 1) := by decide +kernel
theorem dX4_takeFloor_39 : decode cX4_takeFloor 39 = .ok (.iadd, 1) := by decide +kernel
theorem dX4_takeFloor_40 : decode cX4_takeFloor 40 = .ok (.putfield 34, 3) := by decide +kernel
theorem dX4_takeFloor_43 : decode cX4_takeFloor 43 = .ok (.aload_n 0, 1) := by decide +kernel
theorem dX4_takeFloor_44 : decode cX4_takeFloor 44 = .ok (.bipush 11, 2) := by decide +kernel
theorem dX4_takeFloor_46 : decode cX4_takeFloor 46 = .ok (.invokevirtual 51, 3) := by decide +kernel
theorem dX4_takeFloor_49 : decode cX4_takeFloor 49 = .ok (.istore_n 3, 1) := by decide +kernel
theorem dX4_takeFloor_50 : decode cX4_takeFloor 50 = .ok (.iload_n 3, 1) := by decide +kernel
theorem dX4_takeFloor_51 : decode cX4_takeFloor 51 = .ok (.iconst (-1), 1) := by decide +kernel
theorem dX4_takeFloor_52 : decode cX4_takeFloor 52 = .ok (.if_icmp .eq 12, 3) := by decide +kernel
theorem dX4_takeFloor_55 : decode cX4_takeFloor 55 = .ok (.aload_n 0, 1) := by decide +kernel
theorem dX4_takeFloor_56 : decode cX4_takeFloor 56 = .ok (.bipush 61, 2) := by decide +kernel
theorem dX4_takeFloor_58 : decode cX4_takeFloor 58 = .ok (.invokevirtual 41, 3) := by decide +kernel
theorem dX4_takeFloor_61 : decode cX4_takeFloor 61 = .ok (.ifCond .ne 5, 3) := by decide +kernel
theorem dX4_takeFloor_64 : decode cX4_takeFloor 64 = .ok (.iconst 0, 1) := by decide +kernel
theorem dX4_takeFloor_65 : decode cX4_takeFloor 65 = .ok (.ireturn, 1) := by decide +kernel
theorem dX4_takeFloor_66 : decode cX4_takeFloor 66 = .ok (.aload_n 0, 1) := by decide +kernel
theorem dX4_takeFloor_67 : decode cX4_takeFloor 67 = .ok (.getfield 22, 3) := by decide +kernel
theorem dX4_takeFloor_70 : decode cX4_takeFloor 70 = .ok (.iload_n 1, 1) := by decide +kernel
theorem dX4_takeFloor_71 : decode cX4_takeFloor 71 = .ok (.bipush 12, 2) := by decide +kernel
theorem dX4_takeFloor_73 : decode cX4_takeFloor 73 = .ok (.iload_n 2, 1) := by decide +kernel
theorem dX4_takeFloor_74 : decode cX4_takeFloor 74 = .ok (.imul, 1) := by decide +kernel
theorem dX4_takeFloor_75 : decode cX4_takeFloor 75 = .ok (.iload_n 3, 1) := by decide +kernel
theorem dX4_takeFloor_76 : decode cX4_takeFloor 76 = .ok (.iadd, 1) := by decide +kernel
theorem dX4_takeFloor_77 : decode cX4_takeFloor 77 = .ok (.iastore, 1) := by decide +kernel
theorem dX4_takeFloor_78 : decode cX4_takeFloor 78 = .ok (.aload_n 0, 1) := by decide +kernel
theorem dX4_takeFloor_79 : decode cX4_takeFloor 79 = .ok (.iload_n 1, 1) := by decide +kernel
theorem dX4_takeFloor_80 : decode cX4_takeFloor 80 = .ok (.invokevirtual 62, 3) := by decide +kernel
theorem dX4_takeFloor_83 : decode cX4_takeFloor 83 = .ok (.ireturn, 1) := by decide +kernel
theorem dX4_takeNumber_0 : decode cX4_takeNumber 0 = .ok (.aload_n 0, 1) := by decide +kernel
theorem dX4_takeNumber_1 : decode cX4_takeNumber 1 = .ok (.getfield 34, 3) := by decide +kernel
theorem dX4_takeNumber_4 : decode cX4_takeNumber 4 = .ok (.istore_n 2, 1) := by decide +kernel
theorem dX4_takeNumber_5 : decode cX4_takeNumber 5 = .ok (.iconst 0, 1) := by decide +kernel
theorem dX4_takeNumber_6 : decode cX4_takeNumber 6 = .ok (.istore_n 3, 1) := by decide +kernel
theorem dX4_takeNumber_7 : decode cX4_takeNumber 7 = .ok (.aload_n 0, 1) := by decide +kernel
theorem dX4_takeNumber_8 : decode cX4_takeNumber 8 = .ok (.getfield 34, 3) := by decide +kernel
theorem dX4_takeNumber_11 : decode cX4_takeNumber 11 = .ok (.iload_n 2, 1) := by decide +kernel
theorem dX4_takeNumber_12 : decode cX4_takeNumber 12 = .ok (.iconst 2, 1) := by decide +kernel
theorem dX4_takeNumber_13 : decode cX4_takeNumber 13 = .ok (.iadd, 1) := by decide +kernel
theorem dX4_takeNumber_14 : decode cX4_takeNumber 14 = .ok (.if_icmp .ge 39, 3) := by decide +kernel
theorem dX4_takeNumber_17 : decode cX4_takeNumber 17 = .ok (.aload_n 0, 1) := by decide +kernel
theorem dX4_takeNumber_18 : decode cX4_takeNumber 18 = .ok (.invokevirtual 58, 3) := by decide +kernel
theorem dX4_takeNumber_21 : decode cX4_takeNumber 21 = .ok (.invokestatic 65, 3) := by decide +kernel
theorem dX4_takeNumber_24 : decode cX4_takeNumber 24 = .ok (.ifCond .eq 29, 3) := by decide +kernel
theorem dX4_takeNumber_27 : decode cX4_takeNumber 27 = .ok (.bipush 10, 2) := by decide +kernel
theorem dX4_takeNumber_29 : decode cX4_takeNumber 29 = .ok (.iload_n 3, 1) := by decide +kernel
theorem dX4_takeNumber_30 : decode cX4_takeNumber 30 = .ok (.imul, 1) := by decide +kernel
theorem dX4_takeNumber_31 : decode cX4_takeNumber 31 = .ok (.aload_n 0, 1) := by decide +kernel
theorem dX4_takeNumber_32 : decode cX4_takeNumber 32 = .ok (.invokevirtual 58, 3) := by decide +kernel
theorem dX4_takeNumber_35 : decode cX4_takeNumber 35 = .ok (.iadd, 1) := by decide +kernel
theorem dX4_takeNumber_36 : decode cX4_takeNumber 36 = .ok (.bipush 48, 2) := by decide +kernel
theorem dX4_takeNumber_38 : decode cX4_takeNumber 38 = .ok (.isub, 1) := by decide +kernel
theorem dX4_takeNumber_39 : decode cX4_takeNumber 39 = .ok (.istore_n 3, 1) := by decide +kernel
theorem dX4_takeNumber_40 : decode cX4_takeNumber 40 = .ok (.aload_n 0, 1) := by decide +kernel
theorem dX4_takeNumber_41 : decode cX4_takeNumber 41 = .ok (.dup, 1) := by decide +kernel
theorem dX4_takeNumber_42 : decode cX4_takeNumber 42 = .ok (.getfield 34, 3) := by decide +kernel
theorem dX4_takeNumber_45 : decode cX4_takeNumber 45 = .ok (.iconst 1, 1) := by decide +kernel
theorem dX4_takeNumber_46 : decode cX4_takeNumber 46 = .ok (.iadd, 1) := by decide +kernel
theorem dX4_takeNumber_47 : decode cX4_takeNumber 47 = .ok (.putfield 34, 3) := by decide +kernel
theorem dX4_takeNumber_50 : decode cX4_takeNumber 50 = .ok (.goto (-43), 3) := by decide +kernel
theorem dX4_takeNumber_53 : decode cX4_takeNumber 53 = .ok (.iload_n 3, 1) := by decide +kernel
theorem dX4_takeNumber_54 : decode cX4_takeNumber 54 = .ok (.iconst 1, 1) := by decide +kernel
theorem dX4_takeNumber_55 : decode cX4_takeNumber 55 = .ok (.iload_n 1, 1) := by decide +kernel
theorem dX4_takeNumber_56 : decode cX4_takeNumber 56 = .ok (.invokestatic 68, 3) := by decide +kernel
theorem dX4_takeNumber_59 : decode cX4_takeNumber 59 = .ok (.ifCond .ne 11, 3) := by decide +kernel
theorem dX4_takeNumber_62 : decode cX4_takeNumber 62 = .ok (.aload_n 0, 1) := by decide +kernel
theorem dX4_takeNumber_63 : decode cX4_takeNumber 63 = .ok (.iload_n 2, 1) := by decide +kernel
theorem dX4_takeNumber_64 : decode cX4_takeNumber 64 = .ok (.invokevirtual 45, 3) := by decide +kernel
theorem dX4_takeNumber_67 : decode cX4_takeNumber 67 = .ok (.pop, 1) := by decide +kernel
theorem dX4_takeNumber_68 : decode cX4_takeNumber 68 = .ok (.iconst (-1), 1) := by decide +kernel
theorem dX4_takeNumber_69 : decode cX4_takeNumber 69 = .ok (.ireturn, 1) := by decide +kernel
theorem dX4_takeNumber_70 : decode cX4_takeNumber 70 = .ok (.iload_n 3, 1) := by decide +kernel
theorem dX4_takeNumber_71 : decode cX4_takeNumber 71 = .ok (.ireturn, 1) := by decide +kernel
theorem dX4_takeUnit_0 : decode cX4_takeUnit 0 = .ok (.aload_n 0, 1) := by decide +kernel
theorem dX4_takeUnit_1 : decode cX4_takeUnit 1 = .ok (.invokevirtual 58, 3) := by decide +kernel
theorem dX4_takeUnit_4 : decode cX4_takeUnit 4 = .ok (.istore_n 2, 1) := by decide +kernel
theorem dX4_takeUnit_5 : decode cX4_takeUnit 5 = .ok (.iload_n 2, 1) := by decide +kernel
theorem dX4_takeUnit_6 : decode cX4_takeUnit 6 = .ok (.bipush 102, 2) := by decide +kernel
theorem dX4_takeUnit_8 : decode cX4_takeUnit 8 = .ok (.if_icmp .eq 24, 3) := by decide +kernel
theorem dX4_takeUnit_11 : decode cX4_takeUnit 11 = .ok (.iload_n 2, 1) := by decide +kernel
theorem dX4_takeUnit_12 : decode cX4_takeUnit 12 = .ok (.bipush 101, 2) := by decide +kernel
theorem dX4_takeUnit_14 : decode cX4_takeUnit 14 = .ok (.if_icmp .eq 18, 3) := by decide +kernel
theorem dX4_takeUnit_17 : decode cX4_takeUnit 17 = .ok (.iload_n 2, 1) := by decide +kernel
theorem dX4_takeUnit_18 : decode cX4_takeUnit 18 = .ok (.bipush 115, 2) := by decide +kernel
theorem dX4_takeUnit_20 : decode cX4_takeUnit 20 = .ok (.if_icmp .eq 12, 3) := by decide +kernel
theorem dX4_takeUnit_23 : decode cX4_takeUnit 23 = .ok (.aload_n 0, 1) := by decide +kernel
theorem dX4_takeUnit_24 : decode cX4_takeUnit 24 = .ok (.aload_n 0, 1) := by decide +kernel
theorem dX4_takeUnit_25 : decode cX4_takeUnit 25 = .ok (.getfield 34, 3) := by decide +kernel
theorem dX4_takeUnit_28 : decode cX4_takeUnit 28 = .ok (.invokevirtual 45, 3) := by decide +kernel
theorem dX4_takeUnit_31 : decode cX4_takeUnit 31 = .ok (.ireturn, 1) := by decide +kernel
theorem dX4_takeUnit_32 : decode cX4_takeUnit 32 = .ok (.aload_n 0, 1) := by decide +kernel
theorem dX4_takeUnit_33 : decode cX4_takeUnit 33 = .ok (.getfield 19, 3) := by decide +kernel
theorem dX4_takeUnit_36 : decode cX4_takeUnit 36 = .ok (.iload_n 1, 1) := by decide +kernel
theorem dX4_takeUnit_37 : decode cX4_takeUnit 37 = .ok (.iload_n 2, 1) := by decide +kernel
theorem dX4_takeUnit_38 : decode cX4_takeUnit 38 = .ok (.bipush 102, 2) := by decide +kernel
theorem dX4_takeUnit_40 : decode cX4_takeUnit 40 = .ok (.if_icmp .ne 7, 3) := by decide +kernel
theorem dX4_takeUnit_43 : decode cX4_takeUnit 43 = .ok (.iconst 0, 1) := by decide +kernel
theorem dX4_takeUnit_44 : decode cX4_takeUnit 44 = .ok (.goto 14, 3) := by decide +kernel
theorem dX4_takeUnit_47 : decode cX4_takeUnit 47 = .ok (.iload_n 2, 1) := by decide +kernel
theorem dX4_takeUnit_48 : decode cX4_takeUnit 48 = .ok (.bipush 101, 2) := by decide +kernel
theorem dX4_takeUnit_50 : decode cX4_takeUnit 50 = .ok (.if_icmp .ne 7, 3) := by decide +kernel
theorem dX4_takeUnit_53 : decode cX4_takeUnit 53 = .ok (.iconst 1, 1) := by decide +kernel
theorem dX4_takeUnit_54 : decode cX4_takeUnit 54 = .ok (.goto 4, 3) := by decide +kernel
theorem dX4_takeUnit_57 : decode cX4_takeUnit 57 = .ok (.iconst 2, 1) := by decide +kernel
theorem dX4_takeUnit_58 : decode cX4_takeUnit 58 = .ok (.iastore, 1) := by decide +kernel
theorem dX4_takeUnit_59 : decode cX4_takeUnit 59 = .ok (.aload_n 0, 1) := by decide +kernel
theorem dX4_takeUnit_60 : decode cX4_takeUnit 60 = .ok (.dup, 1) := by decide +kernel
theorem dX4_takeUnit_61 : decode cX4_takeUnit 61 = .ok (.getfield 34, 3) := by decide +kernel
theorem dX4_takeUnit_64 : decode cX4_takeUnit 64 = .ok (.iconst 1, 1) := by decide +kernel
theorem dX4_takeUnit_65 : decode cX4_takeUnit 65 = .ok (.iadd, 1) := by decide +kernel
theorem dX4_takeUnit_66 : decode cX4_takeUnit 66 = .ok (.putfield 34, 3) := by decide +kernel
theorem dX4_takeUnit_69 : decode cX4_takeUnit 69 = .ok (.iconst 1, 1) := by decide +kernel
theorem dX4_takeUnit_70 : decode cX4_takeUnit 70 = .ok (.ireturn, 1) := by decide +kernel
theorem dX4_takeWay_0 : decode cX4_takeWay 0 = .ok (.aload_n 0, 1) := by decide +kernel
theorem dX4_takeWay_1 : decode cX4_takeWay 1 = .ok (.invokevirtual 58, 3) := by decide +kernel
theorem dX4_takeWay_4 : decode cX4_takeWay 4 = .ok (.bipush 48, 2) := by decide +kernel
theorem dX4_takeWay_6 : decode cX4_takeWay 6 = .ok (.isub, 1) := by decide +kernel
theorem dX4_takeWay_7 : decode cX4_takeWay 7 = .ok (.istore_n 2, 1) := by decide +kernel
theorem dX4_takeWay_8 : decode cX4_takeWay 8 = .ok (.iload_n 2, 1) := by decide +kernel
theorem dX4_takeWay_9 : decode cX4_takeWay 9 = .ok (.iconst 0, 1) := by decide +kernel
theorem dX4_takeWay_10 : decode cX4_takeWay 10 = .ok (.bipush 8, 2) := by decide +kernel
theorem dX4_takeWay_12 : decode cX4_takeWay 12 = .ok (.invokestatic 68, 3) := by decide +kernel
theorem dX4_takeWay_15 : decode cX4_takeWay 15 = .ok (.ifCond .ne 12, 3) := by decide +kernel
theorem dX4_takeWay_18 : decode cX4_takeWay 18 = .ok (.aload_n 0, 1) := by decide +kernel
theorem dX4_takeWay_19 : decode cX4_takeWay 19 = .ok (.aload_n 0, 1) := by decide +kernel
theorem dX4_takeWay_20 : decode cX4_takeWay 20 = .ok (.getfield 34, 3) := by decide +kernel
theorem dX4_takeWay_23 : decode cX4_takeWay 23 = .ok (.invokevirtual 45, 3) := by decide +kernel
theorem dX4_takeWay_26 : decode cX4_takeWay 26 = .ok (.ireturn, 1) := by decide +kernel
theorem dX4_takeWay_27 : decode cX4_takeWay 27 = .ok (.aload_n 0, 1) := by decide +kernel
theorem dX4_takeWay_28 : decode cX4_takeWay 28 = .ok (.getfield 25, 3) := by decide +kernel
theorem dX4_takeWay_31 : decode cX4_takeWay 31 = .ok (.iload_n 1, 1) := by decide +kernel
theorem dX4_takeWay_32 : decode cX4_takeWay 32 = .ok (.iload_n 2, 1) := by decide +kernel
theorem dX4_takeWay_33 : decode cX4_takeWay 33 = .ok (.iastore, 1) := by decide +kernel
theorem dX4_takeWay_34 : decode cX4_takeWay 34 = .ok (.aload_n 0, 1) := by decide +kernel
theorem dX4_takeWay_35 : decode cX4_takeWay 35 = .ok (.dup, 1) := by decide +kernel
theorem dX4_takeWay_36 : decode cX4_takeWay 36 = .ok (.getfield 34, 3) := by decide +kernel
theorem dX4_takeWay_39 : decode cX4_takeWay 39 = .ok (.iconst 1, 1) := by decide +kernel
theorem dX4_takeWay_40 : decode cX4_takeWay 40 = .ok (.iadd, 1) := by decide +kernel
theorem dX4_takeWay_41 : decode cX4_takeWay 41 = .ok (.putfield 34, 3) := by decide +kernel
theorem dX4_takeWay_44 : decode cX4_takeWay 44 = .ok (.iconst 1, 1) := by decide +kernel
theorem dX4_takeWay_45 : decode cX4_takeWay 45 = .ok (.ireturn, 1) := by decide +kernel
theorem dX4_takeSign_0 : decode cX4_takeSign 0 = .ok (.aload_n 0, 1) := by decide +kernel
theorem dX4_takeSign_1 : decode cX4_takeSign 1 = .ok (.invokevirtual 58, 3) := by decide +kernel
theorem dX4_takeSign_4 : decode cX4_takeSign 4 = .ok (.iload_n 1, 1) := by decide +kernel
theorem dX4_takeSign_5 : decode cX4_takeSign 5 = .ok (.if_icmp .eq 12, 3) := by decide +kernel
theorem dX4_takeSign_8 : decode cX4_takeSign 8 = .ok (.aload_n 0, 1) := by decide +kernel
theorem dX4_takeSign_9 : decode cX4_takeSign 9 = .ok (.aload_n 0, 1) := by decide +kernel
theorem dX4_takeSign_10 : decode cX4_takeSign 10 = .ok (.getfield 34, 3) := by decide +kernel
theorem dX4_takeSign_13 : decode cX4_takeSign 13 = .ok (.invokevirtual 45, 3) := by decide +kernel
theorem dX4_takeSign_16 : decode cX4_takeSign 16 = .ok (.ireturn, 1) := by decide +kernel
theorem dX4_takeSign_17 : decode cX4_takeSign 17 = .ok (.aload_n 0, 1) := by decide +kernel
theorem dX4_takeSign_18 : decode cX4_takeSign 18 = .ok (.dup, 1) := by decide +kernel
theorem dX4_takeSign_19 : decode cX4_takeSign 19 = .ok (.getfield 34, 3) := by decide +kernel
theorem dX4_takeSign_22 : decode cX4_takeSign 22 = .ok (.iconst 1, 1) := by decide +kernel
theorem dX4_takeSign_23 : decode cX4_takeSign 23 = .ok (.iadd, 1) := by decide +kernel
theorem dX4_takeSign_24 : decode cX4_takeSign 24 = .ok (.putfield 34, 3) := by decide +kernel
theorem dX4_takeSign_27 : decode cX4_takeSign 27 = .ok (.iconst 1, 1) := by decide +kernel
theorem dX4_takeSign_28 : decode cX4_takeSign 28 = .ok (.ireturn, 1) := by decide +kernel
theorem dX4_sign_0 : decode cX4_sign 0 = .ok (.aload_n 0, 1) := by decide +kernel
theorem dX4_sign_1 : decode cX4_sign 1 = .ok (.getfield 34, 3) := by decide +kernel
theorem dX4_sign_4 : decode cX4_sign 4 = .ok (.aload_n 0, 1) := by decide +kernel
theorem dX4_sign_5 : decode cX4_sign 5 = .ok (.getfield 28, 3) := by decide +kernel
theorem dX4_sign_8 : decode cX4_sign 8 = .ok (.if_icmp .ge 15, 3) := by decide +kernel
theorem dX4_sign_11 : decode cX4_sign 11 = .ok (.aload_n 0, 1) := by decide +kernel
theorem dX4_sign_12 : decode cX4_sign 12 = .ok (.getfield 9, 3) := by decide +kernel
theorem dX4_sign_15 : decode cX4_sign 15 = .ok (.aload_n 0, 1) := by decide +kernel
theorem dX4_sign_16 : decode cX4_sign 16 = .ok (.getfield 34, 3) := by decide +kernel
theorem dX4_sign_19 : decode cX4_sign 19 = .ok (.iaload, 1) := by decide +kernel
theorem dX4_sign_20 : decode cX4_sign 20 = .ok (.goto 4, 3) := by decide +kernel
theorem dX4_sign_23 : decode cX4_sign 23 = .ok (.iconst (-1), 1) := by decide +kernel
theorem dX4_sign_24 : decode cX4_sign 24 = .ok (.ireturn, 1) := by decide +kernel
theorem dX4_isFigure_0 : decode cX4_isFigure 0 = .ok (.iload_n 0, 1) := by decide +kernel
theorem dX4_isFigure_1 : decode cX4_isFigure 1 = .ok (.bipush 48, 2) := by decide +kernel
theorem dX4_isFigure_3 : decode cX4_isFigure 3 = .ok (.bipush 57, 2) := by decide +kernel
theorem dX4_isFigure_5 : decode cX4_isFigure 5 = .ok (.invokestatic 68, 3) := by decide +kernel
theorem dX4_isFigure_8 : decode cX4_isFigure 8 = .ok (.ireturn, 1) := by decide +kernel
theorem dX4_fail_0 : decode cX4_fail 0 = .ok (.aload_n 0, 1) := by decide +kernel
theorem dX4_fail_1 : decode cX4_fail 1 = .ok (.iload_n 1, 1) := by decide +kernel
theorem dX4_fail_2 : decode cX4_fail 2 = .ok (.putfield 15, 3) := by decide +kernel
theorem dX4_fail_5 : decode cX4_fail 5 = .ok (.iconst 0, 1) := by decide +kernel
theorem dX4_fail_6 : decode cX4_fail 6 = .ok (.ireturn, 1) := by decide +kernel
theorem dX5_init_0 : decode cX5_init 0 = .ok (.aload_n 0, 1) := by decide +kernel
theorem dX5_init_1 : decode cX5_init 1 = .ok (.invokespecial 3, 3) := by decide +kernel
theorem dX5_init_4 : decode cX5_init 4 = .ok (.aload_n 0, 1) := by decide +kernel
theorem dX5_init_5 : decode cX5_init 5 = .ok (.bipush 11, 2) := by decide +kernel
theorem dX5_init_7 : decode cX5_init 7 = .ok (.newarray .int, 2) := by decide +kernel
theorem dX5_init_9 : decode cX5_init 9 = .ok (.putfield 9, 3) := by decide +kernel
theorem dX5_init_12 : decode cX5_init 12 = .ok (.return_, 1) := by decide +kernel
theorem dX5_spread_0 : decode cX5_spread 0 = .ok (.aload_n 0, 1) := by decide +kernel
theorem dX5_spread_1 : decode cX5_spread 1 = .ok (.getfield 9, 3) := by decide +kernel
theorem dX5_spread_4 : decode cX5_spread 4 = .ok (.iload_n 1, 1) := by decide +kernel
theorem dX5_spread_5 : decode cX5_spread 5 = .ok (.iaload, 1) := by decide +kernel
theorem dX5_spread_6 : decode cX5_spread 6 = .ok (.istore_n 3, 1) := by decide +kernel
theorem dX5_spread_7 : decode cX5_spread 7 = .ok (.iload_n 3, 1) := by decide +kernel
theorem dX5_spread_8 : decode cX5_spread 8 = .ok (.istore 4, 2) := by decide +kernel
theorem dX5_spread_10 : decode cX5_spread 10 = .ok (.iload_n 1, 1) := by decide +kernel
theorem dX5_spread_11 : decode cX5_spread 11 = .ok (.iconst 1, 1) := by decide +kernel
theorem dX5_spread_12 : decode cX5_spread 12 = .ok (.iadd, 1) := by decide +kernel
theorem dX5_spread_13 : decode cX5_spread 13 = .ok (.istore 5, 2) := by decide +kernel
theorem dX5_spread_15 : decode cX5_spread 15 = .ok (.iload 5, 2) := by decide +kernel
theorem dX5_spread_17 : decode cX5_spread 17 = .ok (.iload_n 2, 1) := by decide +kernel
theorem dX5_spread_18 : decode cX5_spread 18 = .ok (.if_icmp .gt 35, 3) := by decide +kernel
theorem dX5_spread_21 : decode cX5_spread 21 = .ok (.iload_n 3, 1) := by decide +kernel
theorem dX5_spread_22 : decode cX5_spread 22 = .ok (.aload_n 0, 1) := by decide +kernel
theorem dX5_spread_23 : decode cX5_spread 23 = .ok (.getfield 9, 3) := by decide +kernel
theorem dX5_spread_26 : decode cX5_spread 26 = .ok (.iload 5, 2) := by decide +kernel
theorem dX5_spread_28 : decode cX5_spread 28 = .ok (.iaload, 1) := by decide +kernel
theorem dX5_spread_29 : decode cX5_spread 29 = .ok (.invokestatic 15, 3) := by decide +kernel
theorem dX5_spread_32 : decode cX5_spread 32 = .ok (.istore_n 3, 1) := by decide +kernel
theorem dX5_spread_33 : decode cX5_spread 33 = .ok (.iload 4, 2) := by decide +kernel
theorem dX5_spread_35 : decode cX5_spread 35 = .ok (.aload_n 0, 1) := by decide +kernel
theorem dX5_spread_36 : decode cX5_spread 36 = .ok (.getfield 9, 3) := by decide +kernel
theorem dX5_spread_39 : decode cX5_spread 39 = .ok (.iload 5, 2) := by decide +kernel
theorem dX5_spread_41 : decode cX5_spread 41 = .ok (.iaload, 1) := by decide +kernel
theorem dX5_spread_42 : decode cX5_spread 42 = .ok (.invokestatic 21, 3) := by decide +kernel
theorem dX5_spread_45 : decode cX5_spread 45 = .ok (.istore 4, 2) := by decide +kernel
theorem dX5_spread_47 : decode cX5_spread 47 = .ok (.iinc 5 1, 3) := by decide +kernel
theorem dX5_spread_50 : decode cX5_spread 50 = .ok (.goto (-35), 3) := by decide +kernel
theorem dX5_spread_53 : decode cX5_spread 53 = .ok (.iload 4, 2) := by decide +kernel
theorem dX5_spread_55 : decode cX5_spread 55 = .ok (.iload_n 3, 1) := by decide +kernel
theorem dX5_spread_56 : decode cX5_spread 56 = .ok (.isub, 1) := by decide +kernel
theorem dX5_spread_57 : decode cX5_spread 57 = .ok (.ireturn, 1) := by decide +kernel
theorem dX5_lengthFrom_0 : decode cX5_lengthFrom 0 = .ok (.iload_n 1, 1) := by decide +kernel
theorem dX5_lengthFrom_1 : decode cX5_lengthFrom 1 = .ok (.istore 4, 2) := by decide +kernel
theorem dX5_lengthFrom_3 : decode cX5_lengthFrom 3 = .ok (.iload 4, 2) := by decide +kernel
theorem dX5_lengthFrom_5 : decode cX5_lengthFrom 5 = .ok (.iload_n 2, 1) := by decide +kernel
theorem dX5_lengthFrom_6 : decode cX5_lengthFrom 6 = .ok (.if_icmp .gt 20, 3) := by decide +kernel
theorem dX5_lengthFrom_9 : decode cX5_lengthFrom 9 = .ok (.aload_n 0, 1) := by decide +kernel
theorem dX5_lengthFrom_10 : decode cX5_lengthFrom 10 = .ok (.iload_n 1, 1) := by decide +kernel
theorem dX5_lengthFrom_11 : decode cX5_lengthFrom 11 = .ok (.iload 4, 2) := by decide +kernel
theorem dX5_lengthFrom_13 : decode cX5_lengthFrom 13 = .ok (.invokevirtual 24, 3) := by decide +kernel
theorem dX5_lengthFrom_16 : decode cX5_lengthFrom 16 = .ok (.iload_n 3, 1) := by decide +kernel
theorem dX5_lengthFrom_17 : decode cX5_lengthFrom 17 = .ok (.if_icmp .gt 9, 3) := by decide +kernel
theorem dX5_lengthFrom_20 : decode cX5_lengthFrom 20 = .ok (.iinc 4 1, 3) := by decide +kernel
theorem dX5_lengthFrom_23 : decode cX5_lengthFrom 23 = .ok (.goto (-20), 3) := by decide +kernel
theorem dX5_lengthFrom_26 : decode cX5_lengthFrom 26 = .ok (.iload 4, 2) := by decide +kernel
theorem dX5_lengthFrom_28 : decode cX5_lengthFrom 28 = .ok (.iload_n 1, 1) := by decide +kernel
theorem dX5_lengthFrom_29 : decode cX5_lengthFrom 29 = .ok (.isub, 1) := by decide +kernel
theorem dX5_lengthFrom_30 : decode cX5_lengthFrom 30 = .ok (.ireturn, 1) := by decide +kernel
theorem dX6_init_0 : decode cX6_init 0 = .ok (.aload_n 0, 1) := by decide +kernel
theorem dX6_init_1 : decode cX6_init 1 = .ok (.invokespecial 3, 3) := by decide +kernel
theorem dX6_init_4 : decode cX6_init 4 = .ok (.aload_n 0, 1) := by decide +kernel
theorem dX6_init_5 : decode cX6_init 5 = .ok (.bipush 48, 2) := by decide +kernel
theorem dX6_init_7 : decode cX6_init 7 = .ok (.newarray .int, 2) := by decide +kernel
theorem dX6_init_9 : decode cX6_init 9 = .ok (.putfield 9, 3) := by decide +kernel
theorem dX6_init_12 : decode cX6_init 12 = .ok (.aload_n 0, 1) := by decide +kernel
theorem dX6_init_13 : decode cX6_init 13 = .ok (.iconst (-1), 1) := by decide +kernel
theorem dX6_init_14 : decode cX6_init 14 = .ok (.putfield 15, 3) := by decide +kernel
theorem dX6_init_17 : decode cX6_init 17 = .ok (.return_, 1) := by decide +kernel
theorem dX6_isLost_0 : decode cX6_isLost 0 = .ok (.aload_n 0, 1) := by decide +kernel
theorem dX6_isLost_1 : decode cX6_isLost 1 = .ok (.getfield 15, 3) := by decide +kernel
theorem dX6_isLost_4 : decode cX6_isLost 4 = .ok (.iconst (-1), 1) := by decide +kernel
theorem dX6_isLost_5 : decode cX6_isLost 5 = .ok (.if_icmp .ne 7, 3) := by decide +kernel
theorem dX6_isLost_8 : decode cX6_isLost 8 = .ok (.iconst 1, 1) := by decide +kernel
theorem dX6_isLost_9 : decode cX6_isLost 9 = .ok (.goto 4, 3) := by decide +kernel
theorem dX6_isLost_12 : decode cX6_isLost 12 = .ok (.iconst 0, 1) := by decide +kernel
theorem dX6_isLost_13 : decode cX6_isLost 13 = .ok (.ireturn, 1) := by decide +kernel
theorem dX6_renew_0 : decode cX6_renew 0 = .ok (.aload_n 0, 1) := by decide +kernel
theorem dX6_renew_1 : decode cX6_renew 1 = .ok (.iload_n 1, 1) := by decide +kernel
theorem dX6_renew_2 : decode cX6_renew 2 = .ok (.putfield 15, 3) := by decide +kernel
theorem dX6_renew_5 : decode cX6_renew 5 = .ok (.aload_n 0, 1) := by decide +kernel
theorem dX6_renew_6 : decode cX6_renew 6 = .ok (.iload_n 2, 1) := by decide +kernel
theorem dX6_renew_7 : decode cX6_renew 7 = .ok (.putfield 19, 3) := by decide +kernel
theorem dX6_renew_10 : decode cX6_renew 10 = .ok (.aload_n 0, 1) := by decide +kernel
theorem dX6_renew_11 : decode cX6_renew 11 = .ok (.getfield 9, 3) := by decide +kernel
theorem dX6_renew_14 : decode cX6_renew 14 = .ok (.iconst 0, 1) := by decide +kernel
theorem dX6_renew_15 : decode cX6_renew 15 = .ok (.invokestatic 22, 3) := by decide +kernel
theorem dX6_renew_18 : decode cX6_renew 18 = .ok (.return_, 1) := by decide +kernel
theorem dX6_hasRun_0 : decode cX6_hasRun 0 = .ok (.iload_n 1, 1) := by decide +kernel
theorem dX6_hasRun_1 : decode cX6_hasRun 1 = .ok (.ifCond .lt 21, 3) := by decide +kernel
theorem dX6_hasRun_4 : decode cX6_hasRun 4 = .ok (.iload_n 2, 1) := by decide +kernel
theorem dX6_hasRun_5 : decode cX6_hasRun 5 = .ok (.ifCond .lt 17, 3) := by decide +kernel
theorem dX6_hasRun_8 : decode cX6_hasRun 8 = .ok (.iload_n 2, 1) := by decide +kernel
theorem dX6_hasRun_9 : decode cX6_hasRun 9 = .ok (.aload_n 0, 1) := by decide +kernel
theorem dX6_hasRun_10 : decode cX6_hasRun 10 = .ok (.getfield 19, 3) := by decide +kernel
theorem dX6_hasRun_13 : decode cX6_hasRun 13 = .ok (.iload_n 1, 1) := by decide +kernel
theorem dX6_hasRun_14 : decode cX6_hasRun 14 = .ok (.isub, 1) := by decide +kernel
theorem dX6_hasRun_15 : decode cX6_hasRun 15 = .ok (.if_icmp .gt 7, 3) := by decide +kernel
theorem dX6_hasRun_18 : decode cX6_hasRun 18 = .ok (.iconst 1, 1) := by decide +kernel
theorem dX6_hasRun_19 : decode cX6_hasRun 19 = .ok (.goto 4, 3) := by decide +kernel
theorem dX6_hasRun_22 : decode cX6_hasRun 22 = .ok (.iconst 0, 1) := by decide +kernel
theorem dX6_hasRun_23 : decode cX6_hasRun 23 = .ok (.ireturn, 1) := by decide +kernel
theorem dX6_store_0 : decode cX6_store 0 = .ok (.iload_n 1, 1) := by decide +kernel
theorem dX6_store_1 : decode cX6_store 1 = .ok (.iconst 0, 1) := by decide +kernel
theorem dX6_store_2 : decode cX6_store 2 = .ok (.aload_n 0, 1) := by decide +kernel
theorem dX6_store_3 : decode cX6_store 3 = .ok (.getfield 19, 3) := by decide +kernel
theorem dX6_store_6 : decode cX6_store 6 = .ok (.iconst 1, 1) := by decide +kernel
theorem dX6_store_7 : decode cX6_store 7 = .ok (.isub, 1) := by decide +kernel
theorem dX6_store_8 : decode cX6_store 8 = .ok (.invokestatic 28, 3) := by decide +kernel
theorem dX6_store_11 : decode cX6_store 11 = .ok (.ifCond .eq 35, 3) := by decide +kernel
theorem dX6_store_14 : decode cX6_store 14 = .ok (.aload_n 0, 1) := by decide +kernel
theorem dX6_store_15 : decode cX6_store 15 = .ok (.getfield 9, 3) := by decide +kernel
theorem dX6_store_18 : decode cX6_store 18 = .ok (.iload_n 1, 1) := by decide +kernel
theorem dX6_store_19 : decode cX6_store 19 = .ok (.aload_n 0, 1) := by decide +kernel
theorem dX6_store_20 : decode cX6_store 20 = .ok (.getfield 15, 3) := by decide +kernel
theorem dX6_store_23 : decode cX6_store 23 = .ok (.ifCond .ne 8, 3) := by decide +kernel
theorem dX6_store_26 : decode cX6_store 26 = .ok (.iload_n 2, 1) := by decide +kernel
theorem dX6_store_27 : decode cX6_store 27 = .ok (.i2b, 1) := by decide +kernel
theorem dX6_store_28 : decode cX6_store 28 = .ok (.goto 17, 3) := by decide +kernel
theorem dX6_store_31 : decode cX6_store 31 = .ok (.aload_n 0, 1) := by decide +kernel
theorem dX6_store_32 : decode cX6_store 32 = .ok (.getfield 15, 3) := by decide +kernel
theorem dX6_store_35 : decode cX6_store 35 = .ok (.iconst 1, 1) := by decide +kernel
theorem dX6_store_36 : decode cX6_store 36 = .ok (.if_icmp .ne 8, 3) := by decide +kernel
theorem dX6_store_39 : decode cX6_store 39 = .ok (.iload_n 2, 1) := by decide +kernel
theorem dX6_store_40 : decode cX6_store 40 = .ok (.i2s, 1) := by decide +kernel
theorem dX6_store_41 : decode cX6_store 41 = .ok (.goto 4, 3) := by decide +kernel
theorem dX6_store_44 : decode cX6_store 44 = .ok (.iload_n 2, 1) := by decide +kernel
theorem dX6_store_45 : decode cX6_store 45 = .ok (.iastore, 1) := by decide +kernel
theorem dX6_store_46 : decode cX6_store 46 = .ok (.return_, 1) := by decide +kernel
theorem dX7_init_0 : decode cX7_init 0 = .ok (.aload_n 0, 1) := by decide +kernel
theorem dX7_init_1 : decode cX7_init 1 = .ok (.invokespecial 3, 3) := by decide +kernel
theorem dX7_init_4 : decode cX7_init 4 = .ok (.aload_n 0, 1) := by decide +kernel
theorem dX7_init_5 : decode cX7_init 5 = .ok (.bipush 10, 2) := by decide +kernel
theorem dX7_init_7 : decode cX7_init 7 = .ok (.newarray .int, 2) := by decide +kernel
theorem dX7_init_9 : decode cX7_init 9 = .ok (.putfield 9, 3) := by decide +kernel
theorem dX7_init_12 : decode cX7_init 12 = .ok (.aload_n 0, 1) := by decide +kernel
theorem dX7_init_13 : decode cX7_init 13 = .ok (.bipush 10, 2) := by decide +kernel
theorem dX7_init_15 : decode cX7_init 15 = .ok (.newarray .int, 2) := by decide +kernel
theorem dX7_init_17 : decode cX7_init 17 = .ok (.putfield 15, 3) := by decide +kernel
theorem dX7_init_20 : decode cX7_init 20 = .ok (.aload_n 0, 1) := by decide +kernel
theorem dX7_init_21 : decode cX7_init 21 = .ok (.bipush 10, 2) := by decide +kernel
theorem dX7_init_23 : decode cX7_init 23 = .ok (.newarray .int, 2) := by decide +kernel
theorem dX7_init_25 : decode cX7_init 25 = .ok (.putfield 18, 3) := by decide +kernel
theorem dX7_init_28 : decode cX7_init 28 = .ok (.aload_n 0, 1) := by decide +kernel
theorem dX7_init_29 : decode cX7_init 29 = .ok (.bipush 11, 2) := by decide +kernel
theorem dX7_init_31 : decode cX7_init 31 = .ok (.newarray .int, 2) := by decide +kernel
theorem dX7_init_33 : decode cX7_init 33 = .ok (.putfield 21, 3) := by decide +kernel
theorem dX7_init_36 : decode cX7_init 36 = .ok (.aload_n 0, 1) := by decide +kernel
theorem dX7_init_37 : decode cX7_init 37 = .ok (.bipush 11, 2) := by decide +kernel
theorem dX7_init_39 : decode cX7_init 39 = .ok (.newarray .int, 2) := by decide +kernel
theorem dX7_init_41 : decode cX7_init 41 = .ok (.putfield 24, 3) := by decide +kernel
theorem dX7_init_44 : decode cX7_init 44 = .ok (.aload_n 0, 1) := by decide +kernel
theorem dX7_init_45 : decode cX7_init 45 = .ok (.aload_n 1, 1) := by decide +kernel
theorem dX7_init_46 : decode cX7_init 46 = .ok (.putfield 27, 3) := by decide +kernel
theorem dX7_init_49 : decode cX7_init 49 = .ok (.aload_n 0, 1) := by decide +kernel
theorem dX7_init_50 : decode cX7_init 50 = .ok (.aload_n 2, 1) := by decide +kernel
theorem dX7_init_51 : decode cX7_init 51 = .ok (.putfield 31, 3) := by decide +kernel
theorem dX7_init_54 : decode cX7_init 54 = .ok (.return_, 1) := by decide +kernel
theorem dX7_reckon_0 : decode cX7_reckon 0 = .ok (.iconst 0, 1) := by decide +kernel
theorem dX7_reckon_1 : decode cX7_reckon 1 = .ok (.istore_n 1, 1) := by decide +kernel
theorem dX7_reckon_2 : decode cX7_reckon 2 = .ok (.iload_n 1, 1) := by decide +kernel
theorem dX7_reckon_3 : decode cX7_reckon 3 = .ok (.aload_n 0, 1) := by decide +kernel
theorem dX7_reckon_4 : decode cX7_reckon 4 = .ok (.getfield 31, 3) := by decide +kernel
theorem dX7_reckon_7 : decode cX7_reckon 7 = .ok (.getfield 35, 3) := by decide +kernel
theorem dX7_reckon_10 : decode cX7_reckon 10 = .ok (.if_icmp .ge 121, 3) := by decide +kernel
theorem dX7_reckon_13 : decode cX7_reckon 13 = .ok (.aload_n 0, 1) := by decide +kernel
theorem dX7_reckon_14 : decode cX7_reckon 14 = .ok (.getfield 9, 3) := by decide +kernel
theorem dX7_reckon_17 : decode cX7_reckon 17 = .ok (.iload_n 1, 1) := by decide +kernel
theorem dX7_reckon_18 : decode cX7_reckon 18 = .ok (.aload_n 0, 1) := by decide +kernel
theorem dX7_reckon_19 : decode cX7_reckon 19 = .ok (.getfield 27, 3) := by decide +kernel
theorem dX7_reckon_22 : decode cX7_reckon 22 = .ok (.getfield 41, 3) := by decide +kernel
theorem dX7_reckon_25 : decode cX7_reckon 25 = .ok (.aload_n 0, 1) := by decide +kernel
theorem dX7_reckon_26 : decode cX7_reckon 26 = .ok (.getfield 31, 3) := by decide +kernel
theorem dX7_reckon_29 : decode cX7_reckon 29 = .ok (.getfield 46, 3) := by decide +kernel
theorem dX7_reckon_32 : decode cX7_reckon 32 = .ok (.iload_n 1, 1) := by decide +kernel
theorem dX7_reckon_33 : decode cX7_reckon 33 = .ok (.iaload, 1) := by decide +kernel
theorem dX7_reckon_34 : decode cX7_reckon 34 = .ok (.iaload, 1) := by decide +kernel
theorem dX7_reckon_35 : decode cX7_reckon 35 = .ok (.aload_n 0, 1) := by decide +kernel
theorem dX7_reckon_36 : decode cX7_reckon 36 = .ok (.getfield 31, 3) := by decide +kernel
theorem dX7_reckon_39 : decode cX7_reckon 39 = .ok (.getfield 49, 3) := by decide +kernel
theorem dX7_reckon_42 : decode cX7_reckon 42 = .ok (.iload_n 1, 1) := by decide +kernel
theorem dX7_reckon_43 : decode cX7_reckon 43 = .ok (.iaload, 1) := by decide +kernel
theorem dX7_reckon_44 : decode cX7_reckon 44 = .ok (.imul, 1) := by decide +kernel
theorem dX7_reckon_45 : decode cX7_reckon 45 = .ok (.bipush 12, 2) := by decide +kernel
theorem dX7_reckon_47 : decode cX7_reckon 47 = .ok (.idiv, 1) := by decide +kernel
theorem dX7_reckon_48 : decode cX7_reckon 48 = .ok (.iastore, 1) := by decide +kernel
theorem dX7_reckon_49 : decode cX7_reckon 49 = .ok (.aload_n 0, 1) := by decide +kernel
theorem dX7_reckon_50 : decode cX7_reckon 50 = .ok (.getfield 15, 3) := by decide +kernel
theorem dX7_reckon_53 : decode cX7_reckon 53 = .ok (.iload_n 1, 1) := by decide +kernel
theorem dX7_reckon_54 : decode cX7_reckon 54 = .ok (.aload_n 0, 1) := by decide +kernel
theorem dX7_reckon_55 : decode cX7_reckon 55 = .ok (.getfield 27, 3) := by decide +kernel
theorem dX7_reckon_58 : decode cX7_reckon 58 = .ok (.aload_n 0, 1) := by decide +kernel
theorem dX7_reckon_59 : decode cX7_reckon 59 = .ok (.getfield 9, 3) := by decide +kernel
theorem dX7_reckon_62 : decode cX7_reckon 62 = .ok (.iload_n 1, 1) := by decide +kernel
theorem dX7_reckon_63 : decode cX7_reckon 63 = .ok (.iaload, 1) := by decide +kernel
theorem dX7_reckon_64 : decode cX7_reckon 64 = .ok (.aload_n 0, 1) := by decide +kernel
theorem dX7_reckon_65 : decode cX7_reckon 65 = .ok (.getfield 31, 3) := by decide +kernel
theorem dX7_reckon_68 : decode cX7_reckon 68 = .ok (.iload_n 1, 1) := by decide +kernel
theorem dX7_reckon_69 : decode cX7_reckon 69 = .ok (.invokevirtual 52, 3) := by decide +kernel
theorem dX7_reckon_72 : decode cX7_reckon 72 = .ok (.aload_n 0, 1) := by decide +kernel
theorem dX7_reckon_73 : decode cX7_reckon 73 = .ok (.getfield 31, 3) := by decide +kernel
theorem dX7_reckon_76 : decode cX7_reckon 76 = .ok (.iload_n 1, 1) := by decide +kernel
theorem dX7_reckon_77 : decode cX7_reckon 77 = .ok (.invokevirtual 56, 3) := by decide +kernel
theorem dX7_reckon_80 : decode cX7_reckon 80 = .ok (.invokevirtual 59, 3) := by decide +kernel
theorem dX7_reckon_83 : decode cX7_reckon 83 = .ok (.iastore, 1) := by decide +kernel
theorem dX7_reckon_84 : decode cX7_reckon 84 = .ok (.aload_n 0, 1) := by decide +kernel
theorem dX7_reckon_85 : decode cX7_reckon 85 = .ok (.getfield 21, 3) := by decide +kernel
theorem dX7_reckon_88 : decode cX7_reckon 88 = .ok (.iload_n 1, 1) := by decide +kernel
theorem dX7_reckon_89 : decode cX7_reckon 89 = .ok (.iconst 1, 1) := by decide +kernel
theorem dX7_reckon_90 : decode cX7_reckon 90 = .ok (.iadd, 1) := by decide +kernel
theorem dX7_reckon_91 : decode cX7_reckon 91 = .ok (.aload_n 0, 1) := by decide +kernel
theorem dX7_reckon_92 : decode cX7_reckon 92 = .ok (.getfield 21, 3) := by decide +kernel
theorem dX7_reckon_95 : decode cX7_reckon 95 = .ok (.iload_n 1, 1) := by decide +kernel
theorem dX7_reckon_96 : decode cX7_reckon 96 = .ok (.iaload, 1) := by decide +kernel
theorem dX7_reckon_97 : decode cX7_reckon 97 = .ok (.aload_n 0, 1) := by decide +kernel
theorem dX7_reckon_98 : decode cX7_reckon 98 = .ok (.iload_n 1, 1) := by decide +kernel
theorem dX7_reckon_99 : decode cX7_reckon 99 = .ok (.invokevirtual 63, 3) := by decide +kernel
theorem dX7_reckon_102 : decode cX7_reckon 102 = .ok (.iadd, 1) := by decide +kernel
theorem dX7_reckon_103 : decode cX7_reckon 103 = .ok (.iastore, 1) := by decide +kernel
theorem dX7_reckon_104 : decode cX7_reckon 104 = .ok (.aload_n 0, 1) := by decide +kernel
theorem dX7_reckon_105 : decode cX7_reckon 105 = .ok (.getfield 24, 3) := by decide +kernel
theorem dX7_reckon_108 : decode cX7_reckon 108 = .ok (.iload_n 1, 1) := by decide +kernel
theorem dX7_reckon_109 : decode cX7_reckon 109 = .ok (.iconst 1, 1) := by decide +kernel
theorem dX7_reckon_110 : decode cX7_reckon 110 = .ok (.iadd, 1) := by decide +kernel
theorem dX7_reckon_111 : decode cX7_reckon 111 = .ok (.aload_n 0, 1) := by decide +kernel
theorem dX7_reckon_112 : decode cX7_reckon 112 = .ok (.getfield 24, 3) := by decide +kernel
theorem dX7_reckon_115 : decode cX7_reckon 115 = .ok (.iload_n 1, 1) := by decide +kernel
theorem dX7_reckon_116 : decode cX7_reckon 116 = .ok (.iaload, 1) := by decide +kernel
theorem dX7_reckon_117 : decode cX7_reckon 117 = .ok (.aload_n 0, 1) := by decide +kernel
theorem dX7_reckon_118 : decode cX7_reckon 118 = .ok (.getfield 9, 3) := by decide +kernel
theorem dX7_reckon_121 : decode cX7_reckon 121 = .ok (.iload_n 1, 1) := by decide +kernel
theorem dX7_reckon_122 : decode cX7_reckon 122 = .ok (.iaload, 1) := by decide +kernel
theorem dX7_reckon_123 : decode cX7_reckon 123 = .ok (.iadd, 1) := by decide +kernel
theorem dX7_reckon_124 : decode cX7_reckon 124 = .ok (.iastore, 1) := by decide +kernel
theorem dX7_reckon_125 : decode cX7_reckon 125 = .ok (.iinc 1 1, 3) := by decide +kernel
theorem dX7_reckon_128 : decode cX7_reckon 128 = .ok (.goto (-126), 3) := by decide +kernel
theorem dX7_reckon_131 : decode cX7_reckon 131 = .ok (.return_, 1) := by decide +kernel
theorem dX7_floors_0 : decode cX7_floors 0 = .ok (.aload_n 0, 1) := by decide +kernel
theorem dX7_floors_1 : decode cX7_floors 1 = .ok (.getfield 31, 3) := by decide +kernel
theorem dX7_floors_4 : decode cX7_floors 4 = .ok (.getfield 35, 3) := by decide +kernel
theorem dX7_floors_7 : decode cX7_floors 7 = .ok (.ireturn, 1) := by decide +kernel
theorem dX7_built_0 : decode cX7_built 0 = .ok (.aload_n 0, 1) := by decide +kernel
theorem dX7_built_1 : decode cX7_built 1 = .ok (.getfield 15, 3) := by decide +kernel
theorem dX7_built_4 : decode cX7_built 4 = .ok (.iload_n 1, 1) := by decide +kernel
theorem dX7_built_5 : decode cX7_built 5 = .ok (.iaload, 1) := by decide +kernel
theorem dX7_built_6 : decode cX7_built 6 = .ok (.aload_n 0, 1) := by decide +kernel
theorem dX7_built_7 : decode cX7_built 7 = .ok (.getfield 18, 3) := by decide +kernel
theorem dX7_built_10 : decode cX7_built 10 = .ok (.iload_n 1, 1) := by decide +kernel
theorem dX7_built_11 : decode cX7_built 11 = .ok (.iaload, 1) := by decide +kernel
theorem dX7_built_12 : decode cX7_built 12 = .ok (.iadd, 1) := by decide +kernel
theorem dX7_built_13 : decode cX7_built 13 = .ok (.ireturn, 1) := by decide +kernel
theorem dX7_off_0 : decode cX7_off 0 = .ok (.aload_n 0, 1) := by decide +kernel
theorem dX7_off_1 : decode cX7_off 1 = .ok (.getfield 21, 3) := by decide +kernel
theorem dX7_off_4 : decode cX7_off 4 = .ok (.iload_n 1, 1) := by decide +kernel
theorem dX7_off_5 : decode cX7_off 5 = .ok (.iaload, 1) := by decide +kernel
theorem dX7_off_6 : decode cX7_off 6 = .ok (.aload_n 0, 1) := by decide +kernel
theorem dX7_off_7 : decode cX7_off 7 = .ok (.getfield 24, 3) := by decide +kernel
theorem dX7_off_10 : decode cX7_off 10 = .ok (.iload_n 1, 1) := by decide +kernel
theorem dX7_off_11 : decode cX7_off 11 = .ok (.iaload, 1) := by decide +kernel
theorem dX7_off_12 : decode cX7_off 12 = .ok (.isub, 1) := by decide +kernel
theorem dX7_off_13 : decode cX7_off 13 = .ok (.ireturn, 1) := by decide +kernel
theorem dX7_missBy_0 : decode cX7_missBy 0 = .ok (.iconst 0, 1) := by decide +kernel
theorem dX7_missBy_1 : decode cX7_missBy 1 = .ok (.istore_n 2, 1) := by decide +kernel
theorem dX7_missBy_2 : decode cX7_missBy 2 = .ok (.iconst 0, 1) := by decide +kernel
theorem dX7_missBy_3 : decode cX7_missBy 3 = .ok (.istore_n 3, 1) := by decide +kernel
theorem dX7_missBy_4 : decode cX7_missBy 4 = .ok (.iload_n 3, 1) := by decide +kernel
theorem dX7_missBy_5 : decode cX7_missBy 5 = .ok (.aload_n 0, 1) := by decide +kernel
theorem dX7_missBy_6 : decode cX7_missBy 6 = .ok (.getfield 31, 3) := by decide +kernel
theorem dX7_missBy_9 : decode cX7_missBy 9 = .ok (.getfield 35, 3) := by decide +kernel
theorem dX7_missBy_12 : decode cX7_missBy 12 = .ok (.if_icmp .ge 40, 3) := by decide +kernel
theorem dX7_missBy_15 : decode cX7_missBy 15 = .ok (.aload_n 0, 1) := by decide +kernel
theorem dX7_missBy_16 : decode cX7_missBy 16 = .ok (.getfield 31, 3) := by decide +kernel
theorem dX7_missBy_19 : decode cX7_missBy 19 = .ok (.iload_n 3, 1) := by decide +kernel
theorem dX7_missBy_20 : decode cX7_missBy 20 = .ok (.invokevirtual 52, 3) := by decide +kernel
theorem dX7_missBy_23 : decode cX7_missBy 23 = .ok (.iload_n 1, 1) := by decide +kernel
theorem dX7_missBy_24 : decode cX7_missBy 24 = .ok (.if_icmp .ne 22, 3) := by decide +kernel
theorem dX7_missBy_27 : decode cX7_missBy 27 = .ok (.iload_n 2, 1) := by decide +kernel
theorem dX7_missBy_28 : decode cX7_missBy 28 = .ok (.aload_n 0, 1) := by decide +kernel
theorem dX7_missBy_29 : decode cX7_missBy 29 = .ok (.getfield 15, 3) := by decide +kernel
theorem dX7_missBy_32 : decode cX7_missBy 32 = .ok (.iload_n 3, 1) := by decide +kernel
theorem dX7_missBy_33 : decode cX7_missBy 33 = .ok (.iaload, 1) := by decide +kernel
theorem dX7_missBy_34 : decode cX7_missBy 34 = .ok (.aload_n 0, 1) := by decide +kernel
theorem dX7_missBy_35 : decode cX7_missBy 35 = .ok (.getfield 9, 3) := by decide +kernel
theorem dX7_missBy_38 : decode cX7_missBy 38 = .ok (.iload_n 3, 1) := by decide +kernel
theorem dX7_missBy_39 : decode cX7_missBy 39 = .ok (.iaload, 1) := by decide +kernel
theorem dX7_missBy_40 : decode cX7_missBy 40 = .ok (.isub, 1) := by decide +kernel
theorem dX7_missBy_41 : decode cX7_missBy 41 = .ok (.invokestatic 66, 3) := by decide +kernel
theorem dX7_missBy_44 : decode cX7_missBy 44 = .ok (.iadd, 1) := by decide +kernel
theorem dX7_missBy_45 : decode cX7_missBy 45 = .ok (.istore_n 2, 1) := by decide +kernel
theorem dX7_missBy_46 : decode cX7_missBy 46 = .ok (.iinc 3 1, 3) := by decide +kernel
theorem dX7_missBy_49 : decode cX7_missBy 49 = .ok (.goto (-45), 3) := by decide +kernel
theorem dX7_missBy_52 : decode cX7_missBy 52 = .ok (.iload_n 2, 1) := by decide +kernel
theorem dX7_missBy_53 : decode cX7_missBy 53 = .ok (.ireturn, 1) := by decide +kernel
theorem dX8_init_0 : decode cX8_init 0 = .ok (.aload_n 0, 1) := by decide +kernel
theorem dX8_init_1 : decode cX8_init 1 = .ok (.invokespecial 1, 3) := by decide +kernel
theorem dX8_init_4 : decode cX8_init 4 = .ok (.aload_n 0, 1) := by decide +kernel
theorem dX8_init_5 : decode cX8_init 5 = .ok (.iconst 4, 1) := by decide +kernel
theorem dX8_init_6 : decode cX8_init 6 = .ok (.newarray .int, 2) := by decide +kernel
theorem dX8_init_8 : decode cX8_init 8 = .ok (.dup, 1) := by decide +kernel
theorem dX8_init_9 : decode cX8_init 9 = .ok (.iconst 0, 1) := by decide +kernel
theorem dX8_init_10 : decode cX8_init 10 = .ok (.iconst 0, 1) := by decide +kernel
theorem dX8_init_11 : decode cX8_init 11 = .ok (.iastore, 1) := by decide +kernel
theorem dX8_init_12 : decode cX8_init 12 = .ok (.dup, 1) := by decide +kernel
theorem dX8_init_13 : decode cX8_init 13 = .ok (.iconst 1, 1) := by decide +kernel
theorem dX8_init_14 : decode cX8_init 14 = .ok (.sipush 200, 3) := by decide +kernel
theorem dX8_init_17 : decode cX8_init 17 = .ok (.iastore, 1) := by decide +kernel
theorem dX8_init_18 : decode cX8_init 18 = .ok (.dup, 1) := by decide +kernel
theorem dX8_init_19 : decode cX8_init 19 = .ok (.iconst 2, 1) := by decide +kernel
theorem dX8_init_20 : decode cX8_init 20 = .ok (.iconst 2, 1) := by decide +kernel
theorem dX8_init_21 : decode cX8_init 21 = .ok (.iastore, 1) := by decide +kernel
theorem dX8_init_22 : decode cX8_init 22 = .ok (.dup, 1) := by decide +kernel
theorem dX8_init_23 : decode cX8_init 23 = .ok (.iconst 3, 1) := by decide +kernel
theorem dX8_init_24 : decode cX8_init 24 = .ok (.iconst 5, 1) := by decide +kernel
theorem dX8_init_25 : decode cX8_init 25 = .ok (.iastore, 1) := by decide +kernel
theorem dX8_init_26 : decode cX8_init 26 = .ok (.putfield 7, 3) := by decide +kernel
theorem dX8_init_29 : decode cX8_init 29 = .ok (.aload_n 0, 1) := by decide +kernel
theorem dX8_init_30 : decode cX8_init 30 = .ok (.new 13, 3) := by decide +kernel
theorem dX8_init_33 : decode cX8_init 33 = .ok (.dup, 1) := by decide +kernel
theorem dX8_init_34 : decode cX8_init 34 = .ok (.invokespecial 15, 3) := by decide +kernel
theorem dX8_init_37 : decode cX8_init 37 = .ok (.putfield 16, 3) := by decide +kernel
theorem dX8_init_40 : decode cX8_init 40 = .ok (.aload_n 0, 1) := by decide +kernel
theorem dX8_init_41 : decode cX8_init 41 = .ok (.new 20, 3) := by decide +kernel
theorem dX8_init_44 : decode cX8_init 44 = .ok (.dup, 1) := by decide +kernel
theorem dX8_init_45 : decode cX8_init 45 = .ok (.invokespecial 22, 3) := by decide +kernel
theorem dX8_init_48 : decode cX8_init 48 = .ok (.putfield 23, 3) := by decide +kernel
theorem dX8_init_51 : decode cX8_init 51 = .ok (.aload_n 0, 1) := by decide +kernel
theorem dX8_init_52 : decode cX8_init 52 = .ok (.new 27, 3) := by decide +kernel
theorem dX8_init_55 : decode cX8_init 55 = .ok (.dup, 1) := by decide +kernel
theorem dX8_init_56 : decode cX8_init 56 = .ok (.aload_n 0, 1) := by decide +kernel
theorem dX8_init_57 : decode cX8_init 57 = .ok (.getfield 16, 3) := by decide +kernel
theorem dX8_init_60 : decode cX8_init 60 = .ok (.aload_n 0, 1) := by decide +kernel
theorem dX8_init_61 : decode cX8_init 61 = .ok (.getfield 23, 3) := by decide +kernel
theorem dX8_init_64 : decode cX8_init 64 = .ok (.invokespecial 29, 3) := by decide +kernel
theorem dX8_init_67 : decode cX8_init 67 = .ok (.putfield 32, 3) := by decide +kernel
theorem dX8_init_70 : decode cX8_init 70 = .ok (.aload_n 0, 1) := by decide +kernel
theorem dX8_init_71 : decode cX8_init 71 = .ok (.new 36, 3) := by decide +kernel
theorem dX8_init_74 : decode cX8_init 74 = .ok (.dup, 1) := by decide +kernel
theorem dX8_init_75 : decode cX8_init 75 = .ok (.aload_n 0, 1) := by decide +kernel
theorem dX8_init_76 : decode cX8_init 76 = .ok (.getfield 16, 3) := by decide +kernel
theorem dX8_init_79 : decode cX8_init 79 = .ok (.aload_n 0, 1) := by decide +kernel
theorem dX8_init_80 : decode cX8_init 80 = .ok (.getfield 32, 3) := by decide +kernel
theorem dX8_init_83 : decode cX8_init 83 = .ok (.invokespecial 38, 3) := by decide +kernel
theorem dX8_init_86 : decode cX8_init 86 = .ok (.putfield 41, 3) := by decide +kernel
theorem dX8_init_89 : decode cX8_init 89 = .ok (.aload_n 0, 1) := by decide +kernel
theorem dX8_init_90 : decode cX8_init 90 = .ok (.new 45, 3) := by decide +kernel
theorem dX8_init_93 : decode cX8_init 93 = .ok (.dup, 1) := by decide +kernel
theorem dX8_init_94 : decode cX8_init 94 = .ok (.invokespecial 47, 3) := by decide +kernel
theorem dX8_init_97 : decode cX8_init 97 = .ok (.putfield 48, 3) := by decide +kernel
theorem dX8_init_100 : decode cX8_init 100 = .ok (.aload_n 0, 1) := by decide +kernel
theorem dX8_init_101 : decode cX8_init 101 = .ok (.new 52, 3) := by decide +kernel
theorem dX8_init_104 : decode cX8_init 104 = .ok (.dup, 1) := by decide +kernel
theorem dX8_init_105 : decode cX8_init 105 = .ok (.invokespecial 54, 3) := by decide +kernel
theorem dX8_init_108 : decode cX8_init 108 = .ok (.putfield 55, 3) := by decide +kernel
theorem dX8_init_111 : decode cX8_init 111 = .ok (.aload_n 0, 1) := by decide +kernel
end
section
theorem dX8_init_112 : decode cX8_init 112 = .ok (.new 59, 3) := by decide +kernel
theorem dX8_init_115 : decode cX8_init 115 = .ok (.dup, 1) := by decide +kernel
theorem dX8_init_116 : decode cX8_init 116 = .ok (.aload_n 0, 1) := by decide +kernel
theorem dX8_init_117 : decode cX8_init 117 = .ok (.getfield 32, 3) := by decide +kernel
theorem dX8_init_120 : decode cX8_init 120 = .ok (.invokespecial 61, 3) := by decide +kernel
theorem dX8_init_123 : decode cX8_init 123 = .ok (.putfield 64, 3) := by decide +kernel
theorem dX8_init_126 : decode cX8_init 126 = .ok (.aload_n 0, 1) := by decide +kernel
theorem dX8_init_127 : decode cX8_init 127 = .ok (.iconst 4, 1) := by decide +kernel
theorem dX8_init_128 : decode cX8_init 128 = .ok (.anewarray 68, 3) := by decide +kernel
theorem dX8_init_131 : decode cX8_init 131 = .ok (.putfield 70, 3) := by decide +kernel
theorem dX8_init_134 : decode cX8_init 134 = .ok (.iconst 0, 1) := by decide +kernel
theorem dX8_init_135 : decode cX8_init 135 = .ok (.istore_n 1, 1) := by decide +kernel
theorem dX8_init_136 : decode cX8_init 136 = .ok (.iload_n 1, 1) := by decide +kernel
theorem dX8_init_137 : decode cX8_init 137 = .ok (.iconst 4, 1) := by decide +kernel
theorem dX8_init_138 : decode cX8_init 138 = .ok (.if_icmp .ge 22, 3) := by decide +kernel
theorem dX8_init_141 : decode cX8_init 141 = .ok (.aload_n 0, 1) := by decide +kernel
theorem dX8_init_142 : decode cX8_init 142 = .ok (.getfield 70, 3) := by decide +kernel
theorem dX8_init_145 : decode cX8_init 145 = .ok (.iload_n 1, 1) := by decide +kernel
theorem dX8_init_146 : decode cX8_init 146 = .ok (.new 68, 3) := by decide +kernel
theorem dX8_init_149 : decode cX8_init 149 = .ok (.dup, 1) := by decide +kernel
theorem dX8_init_150 : decode cX8_init 150 = .ok (.invokespecial 74, 3) := by decide +kernel
theorem dX8_init_153 : decode cX8_init 153 = .ok (.aastore, 1) := by decide +kernel
theorem dX8_init_154 : decode cX8_init 154 = .ok (.iinc 1 1, 3) := by decide +kernel
theorem dX8_init_157 : decode cX8_init 157 = .ok (.goto (-21), 3) := by decide +kernel
theorem dX8_init_160 : decode cX8_init 160 = .ok (.return_, 1) := by decide +kernel
theorem dX8_measure_0 : decode cX8_measure 0 = .ok (.iload_n 1, 1) := by decide +kernel
theorem dX8_measure_1 : decode cX8_measure 1 = .ok (.invokestatic 75, 3) := by decide +kernel
theorem dX8_measure_4 : decode cX8_measure 4 = .ok (.ifCond .eq 32, 3) := by decide +kernel
theorem dX8_measure_7 : decode cX8_measure 7 = .ok (.iload_n 2, 1) := by decide +kernel
theorem dX8_measure_8 : decode cX8_measure 8 = .ok (.iconst 0, 1) := by decide +kernel
theorem dX8_measure_9 : decode cX8_measure 9 = .ok (.iconst 1, 1) := by decide +kernel
theorem dX8_measure_10 : decode cX8_measure 10 = .ok (.invokestatic 79, 3) := by decide +kernel
theorem dX8_measure_13 : decode cX8_measure 13 = .ok (.ifCond .eq 23, 3) := by decide +kernel
theorem dX8_measure_16 : decode cX8_measure 16 = .ok (.iload_n 3, 1) := by decide +kernel
theorem dX8_measure_17 : decode cX8_measure 17 = .ok (.iconst 1, 1) := by decide +kernel
theorem dX8_measure_18 : decode cX8_measure 18 = .ok (.iload_n 2, 1) := by decide +kernel
theorem dX8_measure_19 : decode cX8_measure 19 = .ok (.ifCond .ne 9, 3) := by decide +kernel
theorem dX8_measure_22 : decode cX8_measure 22 = .ok (.sipush 999, 3) := by decide +kernel
theorem dX8_measure_25 : decode cX8_measure 25 = .ok (.goto 5, 3) := by decide +kernel
theorem dX8_measure_28 : decode cX8_measure 28 = .ok (.bipush 9, 2) := by decide +kernel
theorem dX8_measure_30 : decode cX8_measure 30 = .ok (.invokestatic 79, 3) := by decide +kernel
theorem dX8_measure_33 : decode cX8_measure 33 = .ok (.ifCond .ne 6, 3) := by decide +kernel
theorem dX8_measure_36 : decode cX8_measure 36 = .ok (.bipush (-2), 2) := by decide +kernel
theorem dX8_measure_38 : decode cX8_measure 38 = .ok (.ireturn, 1) := by decide +kernel
theorem dX8_measure_39 : decode cX8_measure 39 = .ok (.aload_n 0, 1) := by decide +kernel
theorem dX8_measure_40 : decode cX8_measure 40 = .ok (.getfield 16, 3) := by decide +kernel
theorem dX8_measure_43 : decode cX8_measure 43 = .ok (.iload_n 1, 1) := by decide +kernel
theorem dX8_measure_44 : decode cX8_measure 44 = .ok (.iload_n 2, 1) := by decide +kernel
theorem dX8_measure_45 : decode cX8_measure 45 = .ok (.iload_n 3, 1) := by decide +kernel
theorem dX8_measure_46 : decode cX8_measure 46 = .ok (.invokevirtual 83, 3) := by decide +kernel
theorem dX8_measure_49 : decode cX8_measure 49 = .ok (.istore 4, 2) := by decide +kernel
theorem dX8_measure_51 : decode cX8_measure 51 = .ok (.aload_n 0, 1) := by decide +kernel
theorem dX8_measure_52 : decode cX8_measure 52 = .ok (.getfield 32, 3) := by decide +kernel
theorem dX8_measure_55 : decode cX8_measure 55 = .ok (.invokevirtual 87, 3) := by decide +kernel
theorem dX8_measure_58 : decode cX8_measure 58 = .ok (.iload 4, 2) := by decide +kernel
theorem dX8_measure_60 : decode cX8_measure 60 = .ok (.ireturn, 1) := by decide +kernel
theorem dX8_type_0 : decode cX8_type 0 = .ok (.iload_n 1, 1) := by decide +kernel
theorem dX8_type_1 : decode cX8_type 1 = .ok (.iconst 0, 1) := by decide +kernel
theorem dX8_type_2 : decode cX8_type 2 = .ok (.sipush 255, 3) := by decide +kernel
theorem dX8_type_5 : decode cX8_type 5 = .ok (.invokestatic 79, 3) := by decide +kernel
theorem dX8_type_8 : decode cX8_type 8 = .ok (.ifCond .ne 6, 3) := by decide +kernel
theorem dX8_type_11 : decode cX8_type 11 = .ok (.bipush (-2), 2) := by decide +kernel
theorem dX8_type_13 : decode cX8_type 13 = .ok (.ireturn, 1) := by decide +kernel
theorem dX8_type_14 : decode cX8_type 14 = .ok (.aload_n 0, 1) := by decide +kernel
theorem dX8_type_15 : decode cX8_type 15 = .ok (.getfield 23, 3) := by decide +kernel
theorem dX8_type_18 : decode cX8_type 18 = .ok (.getfield 90, 3) := by decide +kernel
theorem dX8_type_21 : decode cX8_type 21 = .ok (.bipush 80, 2) := by decide +kernel
theorem dX8_type_23 : decode cX8_type 23 = .ok (.if_icmp .lt 6, 3) := by decide +kernel
theorem dX8_type_26 : decode cX8_type 26 = .ok (.bipush (-4), 2) := by decide +kernel
theorem dX8_type_28 : decode cX8_type 28 = .ok (.ireturn, 1) := by decide +kernel
theorem dX8_type_29 : decode cX8_type 29 = .ok (.aload_n 0, 1) := by decide +kernel
theorem dX8_type_30 : decode cX8_type 30 = .ok (.getfield 23, 3) := by decide +kernel
theorem dX8_type_33 : decode cX8_type 33 = .ok (.iload_n 1, 1) := by decide +kernel
theorem dX8_type_34 : decode cX8_type 34 = .ok (.invokevirtual 94, 3) := by decide +kernel
theorem dX8_type_37 : decode cX8_type 37 = .ok (.aload_n 0, 1) := by decide +kernel
theorem dX8_type_38 : decode cX8_type 38 = .ok (.getfield 32, 3) := by decide +kernel
theorem dX8_type_41 : decode cX8_type 41 = .ok (.invokevirtual 87, 3) := by decide +kernel
theorem dX8_type_44 : decode cX8_type 44 = .ok (.aload_n 0, 1) := by decide +kernel
theorem dX8_type_45 : decode cX8_type 45 = .ok (.getfield 23, 3) := by decide +kernel
theorem dX8_type_48 : decode cX8_type 48 = .ok (.getfield 90, 3) := by decide +kernel
theorem dX8_type_51 : decode cX8_type 51 = .ok (.ireturn, 1) := by decide +kernel
theorem dX8_wipe_0 : decode cX8_wipe 0 = .ok (.aload_n 0, 1) := by decide +kernel
theorem dX8_wipe_1 : decode cX8_wipe 1 = .ok (.getfield 23, 3) := by decide +kernel
theorem dX8_wipe_4 : decode cX8_wipe 4 = .ok (.getfield 90, 3) := by decide +kernel
theorem dX8_wipe_7 : decode cX8_wipe 7 = .ok (.istore_n 1, 1) := by decide +kernel
theorem dX8_wipe_8 : decode cX8_wipe 8 = .ok (.aload_n 0, 1) := by decide +kernel
theorem dX8_wipe_9 : decode cX8_wipe 9 = .ok (.getfield 23, 3) := by decide +kernel
theorem dX8_wipe_12 : decode cX8_wipe 12 = .ok (.invokevirtual 98, 3) := by decide +kernel
theorem dX8_wipe_15 : decode cX8_wipe 15 = .ok (.aload_n 0, 1) := by decide +kernel
theorem dX8_wipe_16 : decode cX8_wipe 16 = .ok (.getfield 32, 3) := by decide +kernel
theorem dX8_wipe_19 : decode cX8_wipe 19 = .ok (.invokevirtual 87, 3) := by decide +kernel
theorem dX8_wipe_22 : decode cX8_wipe 22 = .ok (.iload_n 1, 1) := by decide +kernel
theorem dX8_wipe_23 : decode cX8_wipe 23 = .ok (.ireturn, 1) := by decide +kernel
theorem dX8_fault_0 : decode cX8_fault 0 = .ok (.aload_n 0, 1) := by decide +kernel
theorem dX8_fault_1 : decode cX8_fault 1 = .ok (.getfield 23, 3) := by decide +kernel
theorem dX8_fault_4 : decode cX8_fault 4 = .ok (.getfield 101, 3) := by decide +kernel
theorem dX8_fault_7 : decode cX8_fault 7 = .ok (.ireturn, 1) := by decide +kernel
theorem dX8_floor_0 : decode cX8_floor 0 = .ok (.aload_n 0, 1) := by decide +kernel
theorem dX8_floor_1 : decode cX8_floor 1 = .ok (.iload_n 1, 1) := by decide +kernel
theorem dX8_floor_2 : decode cX8_floor 2 = .ok (.invokevirtual 104, 3) := by decide +kernel
theorem dX8_floor_5 : decode cX8_floor 5 = .ok (.ifCond .ne 6, 3) := by decide +kernel
theorem dX8_floor_8 : decode cX8_floor 8 = .ok (.ldc 107, 2) := by decide +kernel
theorem dX8_floor_10 : decode cX8_floor 10 = .ok (.ireturn, 1) := by decide +kernel
theorem dX8_floor_11 : decode cX8_floor 11 = .ok (.iload_n 2, 1) := by decide +kernel
theorem dX8_floor_12 : decode cX8_floor 12 = .ok (.tableswitch 97 0 5 #[40, 50, 59, 68, 77, 87], 40) := by decide +kernel
theorem dX8_floor_52 : decode cX8_floor 52 = .ok (.aload_n 0, 1) := by decide +kernel
theorem dX8_floor_53 : decode cX8_floor 53 = .ok (.getfield 32, 3) := by decide +kernel
theorem dX8_floor_56 : decode cX8_floor 56 = .ok (.getfield 108, 3) := by decide +kernel
theorem dX8_floor_59 : decode cX8_floor 59 = .ok (.iload_n 1, 1) := by decide +kernel
theorem dX8_floor_60 : decode cX8_floor 60 = .ok (.iaload, 1) := by decide +kernel
theorem dX8_floor_61 : decode cX8_floor 61 = .ok (.ireturn, 1) := by decide +kernel
theorem dX8_floor_62 : decode cX8_floor 62 = .ok (.aload_n 0, 1) := by decide +kernel
theorem dX8_floor_63 : decode cX8_floor 63 = .ok (.getfield 32, 3) := by decide +kernel
theorem dX8_floor_66 : decode cX8_floor 66 = .ok (.iload_n 1, 1) := by decide +kernel
theorem dX8_floor_67 : decode cX8_floor 67 = .ok (.invokevirtual 111, 3) := by decide +kernel
theorem dX8_floor_70 : decode cX8_floor 70 = .ok (.ireturn, 1) := by decide +kernel
theorem dX8_floor_71 : decode cX8_floor 71 = .ok (.aload_n 0, 1) := by decide +kernel
theorem dX8_floor_72 : decode cX8_floor 72 = .ok (.getfield 23, 3) := by decide +kernel
theorem dX8_floor_75 : decode cX8_floor 75 = .ok (.iload_n 1, 1) := by decide +kernel
theorem dX8_floor_76 : decode cX8_floor 76 = .ok (.invokevirtual 115, 3) := by decide +kernel
theorem dX8_floor_79 : decode cX8_floor 79 = .ok (.ireturn, 1) := by decide +kernel
theorem dX8_floor_80 : decode cX8_floor 80 = .ok (.aload_n 0, 1) := by decide +kernel
theorem dX8_floor_81 : decode cX8_floor 81 = .ok (.getfield 23, 3) := by decide +kernel
theorem dX8_floor_84 : decode cX8_floor 84 = .ok (.iload_n 1, 1) := by decide +kernel
theorem dX8_floor_85 : decode cX8_floor 85 = .ok (.invokevirtual 118, 3) := by decide +kernel
theorem dX8_floor_88 : decode cX8_floor 88 = .ok (.ireturn, 1) := by decide +kernel
theorem dX8_floor_89 : decode cX8_floor 89 = .ok (.aload_n 0, 1) := by decide +kernel
theorem dX8_floor_90 : decode cX8_floor 90 = .ok (.getfield 41, 3) := by decide +kernel
theorem dX8_floor_93 : decode cX8_floor 93 = .ok (.getfield 121, 3) := by decide +kernel
theorem dX8_floor_96 : decode cX8_floor 96 = .ok (.iload_n 1, 1) := by decide +kernel
theorem dX8_floor_97 : decode cX8_floor 97 = .ok (.iaload, 1) := by decide +kernel
theorem dX8_floor_98 : decode cX8_floor 98 = .ok (.ireturn, 1) := by decide +kernel
theorem dX8_floor_99 : decode cX8_floor 99 = .ok (.aload_n 0, 1) := by decide +kernel
theorem dX8_floor_100 : decode cX8_floor 100 = .ok (.getfield 32, 3) := by decide +kernel
theorem dX8_floor_103 : decode cX8_floor 103 = .ok (.getfield 124, 3) := by decide +kernel
theorem dX8_floor_106 : decode cX8_floor 106 = .ok (.iload_n 1, 1) := by decide +kernel
theorem dX8_floor_107 : decode cX8_floor 107 = .ok (.iaload, 1) := by decide +kernel
theorem dX8_floor_108 : decode cX8_floor 108 = .ok (.ireturn, 1) := by decide +kernel
theorem dX8_floor_109 : decode cX8_floor 109 = .ok (.ldc 107, 2) := by decide +kernel
theorem dX8_floor_111 : decode cX8_floor 111 = .ok (.ireturn, 1) := by decide +kernel
theorem dX8_cut_0 : decode cX8_cut 0 = .ok (.iload_n 1, 1) := by decide +kernel
theorem dX8_cut_1 : decode cX8_cut 1 = .ok (.iconst 0, 1) := by decide +kernel
theorem dX8_cut_2 : decode cX8_cut 2 = .ok (.ldc 127, 2) := by decide +kernel
theorem dX8_cut_4 : decode cX8_cut 4 = .ok (.invokestatic 79, 3) := by decide +kernel
theorem dX8_cut_7 : decode cX8_cut 7 = .ok (.ifCond .eq 19, 3) := by decide +kernel
theorem dX8_cut_10 : decode cX8_cut 10 = .ok (.iload_n 2, 1) := by decide +kernel
theorem dX8_cut_11 : decode cX8_cut 11 = .ok (.invokestatic 75, 3) := by decide +kernel
theorem dX8_cut_14 : decode cX8_cut 14 = .ok (.ifCond .eq 12, 3) := by decide +kernel
theorem dX8_cut_17 : decode cX8_cut 17 = .ok (.iload_n 3, 1) := by decide +kernel
theorem dX8_cut_18 : decode cX8_cut 18 = .ok (.iconst 0, 1) := by decide +kernel
theorem dX8_cut_19 : decode cX8_cut 19 = .ok (.iconst 2, 1) := by decide +kernel
theorem dX8_cut_20 : decode cX8_cut 20 = .ok (.invokestatic 79, 3) := by decide +kernel
theorem dX8_cut_23 : decode cX8_cut 23 = .ok (.ifCond .ne 6, 3) := by decide +kernel
theorem dX8_cut_26 : decode cX8_cut 26 = .ok (.bipush (-2), 2) := by decide +kernel
theorem dX8_cut_28 : decode cX8_cut 28 = .ok (.ireturn, 1) := by decide +kernel
theorem dX8_cut_29 : decode cX8_cut 29 = .ok (.aload_n 0, 1) := by decide +kernel
theorem dX8_cut_30 : decode cX8_cut 30 = .ok (.getfield 16, 3) := by decide +kernel
theorem dX8_cut_33 : decode cX8_cut 33 = .ok (.iload_n 1, 1) := by decide +kernel
theorem dX8_cut_34 : decode cX8_cut 34 = .ok (.iload_n 2, 1) := by decide +kernel
theorem dX8_cut_35 : decode cX8_cut 35 = .ok (.iload_n 3, 1) := by decide +kernel
theorem dX8_cut_36 : decode cX8_cut 36 = .ok (.invokevirtual 128, 3) := by decide +kernel
theorem dX8_cut_39 : decode cX8_cut 39 = .ok (.ireturn, 1) := by decide +kernel
theorem dX8_shim_0 : decode cX8_shim 0 = .ok (.iload_n 1, 1) := by decide +kernel
theorem dX8_shim_1 : decode cX8_shim 1 = .ok (.invokestatic 131, 3) := by decide +kernel
theorem dX8_shim_4 : decode cX8_shim 4 = .ok (.ifCond .eq 14, 3) := by decide +kernel
theorem dX8_shim_7 : decode cX8_shim 7 = .ok (.iload_n 2, 1) := by decide +kernel
theorem dX8_shim_8 : decode cX8_shim 8 = .ok (.bipush (-99), 2) := by decide +kernel
theorem dX8_shim_10 : decode cX8_shim 10 = .ok (.bipush 99, 2) := by decide +kernel
theorem dX8_shim_12 : decode cX8_shim 12 = .ok (.invokestatic 79, 3) := by decide +kernel
theorem dX8_shim_15 : decode cX8_shim 15 = .ok (.ifCond .ne 6, 3) := by decide +kernel
theorem dX8_shim_18 : decode cX8_shim 18 = .ok (.ldc 107, 2) := by decide +kernel
theorem dX8_shim_20 : decode cX8_shim 20 = .ok (.ireturn, 1) := by decide +kernel
theorem dX8_shim_21 : decode cX8_shim 21 = .ok (.aload_n 0, 1) := by decide +kernel
theorem dX8_shim_22 : decode cX8_shim 22 = .ok (.getfield 32, 3) := by decide +kernel
theorem dX8_shim_25 : decode cX8_shim 25 = .ok (.getfield 124, 3) := by decide +kernel
theorem dX8_shim_28 : decode cX8_shim 28 = .ok (.iload_n 1, 1) := by decide +kernel
theorem dX8_shim_29 : decode cX8_shim 29 = .ok (.iaload, 1) := by decide +kernel
theorem dX8_shim_30 : decode cX8_shim 30 = .ok (.istore_n 3, 1) := by decide +kernel
theorem dX8_shim_31 : decode cX8_shim 31 = .ok (.aload_n 0, 1) := by decide +kernel
theorem dX8_shim_32 : decode cX8_shim 32 = .ok (.getfield 32, 3) := by decide +kernel
theorem dX8_shim_35 : decode cX8_shim 35 = .ok (.getfield 124, 3) := by decide +kernel
theorem dX8_shim_38 : decode cX8_shim 38 = .ok (.iload_n 1, 1) := by decide +kernel
theorem dX8_shim_39 : decode cX8_shim 39 = .ok (.iload_n 2, 1) := by decide +kernel
theorem dX8_shim_40 : decode cX8_shim 40 = .ok (.iastore, 1) := by decide +kernel
theorem dX8_shim_41 : decode cX8_shim 41 = .ok (.aload_n 0, 1) := by decide +kernel
theorem dX8_shim_42 : decode cX8_shim 42 = .ok (.getfield 32, 3) := by decide +kernel
theorem dX8_shim_45 : decode cX8_shim 45 = .ok (.invokevirtual 87, 3) := by decide +kernel
theorem dX8_shim_48 : decode cX8_shim 48 = .ok (.iload_n 3, 1) := by decide +kernel
theorem dX8_shim_49 : decode cX8_shim 49 = .ok (.ireturn, 1) := by decide +kernel
theorem dX8_set_0 : decode cX8_set 0 = .ok (.iload_n 1, 1) := by decide +kernel
theorem dX8_set_1 : decode cX8_set 1 = .ok (.iconst 0, 1) := by decide +kernel
theorem dX8_set_2 : decode cX8_set 2 = .ok (.iconst 3, 1) := by decide +kernel
theorem dX8_set_3 : decode cX8_set 3 = .ok (.invokestatic 79, 3) := by decide +kernel
theorem dX8_set_6 : decode cX8_set 6 = .ok (.ifCond .eq 20, 3) := by decide +kernel
theorem dX8_set_9 : decode cX8_set 9 = .ok (.iload_n 2, 1) := by decide +kernel
theorem dX8_set_10 : decode cX8_set 10 = .ok (.getstatic 134, 3) := by decide +kernel
theorem dX8_set_13 : decode cX8_set 13 = .ok (.iload_n 1, 1) := by decide +kernel
theorem dX8_set_14 : decode cX8_set 14 = .ok (.iaload, 1) := by decide +kernel
theorem dX8_set_15 : decode cX8_set 15 = .ok (.getstatic 137, 3) := by decide +kernel
theorem dX8_set_18 : decode cX8_set 18 = .ok (.iload_n 1, 1) := by decide +kernel
theorem dX8_set_19 : decode cX8_set 19 = .ok (.iaload, 1) := by decide +kernel
theorem dX8_set_20 : decode cX8_set 20 = .ok (.invokestatic 79, 3) := by decide +kernel
theorem dX8_set_23 : decode cX8_set 23 = .ok (.ifCond .ne 6, 3) := by decide +kernel
theorem dX8_set_26 : decode cX8_set 26 = .ok (.bipush (-2), 2) := by decide +kernel
theorem dX8_set_28 : decode cX8_set 28 = .ok (.ireturn, 1) := by decide +kernel
theorem dX8_set_29 : decode cX8_set 29 = .ok (.aload_n 0, 1) := by decide +kernel
theorem dX8_set_30 : decode cX8_set 30 = .ok (.getfield 7, 3) := by decide +kernel
theorem dX8_set_33 : decode cX8_set 33 = .ok (.iload_n 1, 1) := by decide +kernel
theorem dX8_set_34 : decode cX8_set 34 = .ok (.iaload, 1) := by decide +kernel
theorem dX8_set_35 : decode cX8_set 35 = .ok (.istore_n 3, 1) := by decide +kernel
theorem dX8_set_36 : decode cX8_set 36 = .ok (.aload_n 0, 1) := by decide +kernel
theorem dX8_set_37 : decode cX8_set 37 = .ok (.getfield 7, 3) := by decide +kernel
theorem dX8_set_40 : decode cX8_set 40 = .ok (.iload_n 1, 1) := by decide +kernel
theorem dX8_set_41 : decode cX8_set 41 = .ok (.iload_n 2, 1) := by decide +kernel
theorem dX8_set_42 : decode cX8_set 42 = .ok (.iastore, 1) := by decide +kernel
theorem dX8_set_43 : decode cX8_set 43 = .ok (.iload_n 3, 1) := by decide +kernel
theorem dX8_set_44 : decode cX8_set 44 = .ok (.ireturn, 1) := by decide +kernel
theorem dX8_sill_0 : decode cX8_sill 0 = .ok (.aload_n 0, 1) := by decide +kernel
theorem dX8_sill_1 : decode cX8_sill 1 = .ok (.iload_n 1, 1) := by decide +kernel
theorem dX8_sill_2 : decode cX8_sill 2 = .ok (.invokevirtual 140, 3) := by decide +kernel
theorem dX8_sill_5 : decode cX8_sill 5 = .ok (.ifCond .ne 6, 3) := by decide +kernel
theorem dX8_sill_8 : decode cX8_sill 8 = .ok (.ldc 107, 2) := by decide +kernel
theorem dX8_sill_10 : decode cX8_sill 10 = .ok (.ireturn, 1) := by decide +kernel
theorem dX8_sill_11 : decode cX8_sill 11 = .ok (.iload_n 2, 1) := by decide +kernel
theorem dX8_sill_12 : decode cX8_sill 12 = .ok (.tableswitch 57 0 2 #[28, 38, 48], 28) := by decide +kernel
theorem dX8_sill_40 : decode cX8_sill 40 = .ok (.aload_n 0, 1) := by decide +kernel
theorem dX8_sill_41 : decode cX8_sill 41 = .ok (.getfield 32, 3) := by decide +kernel
theorem dX8_sill_44 : decode cX8_sill 44 = .ok (.getfield 143, 3) := by decide +kernel
theorem dX8_sill_47 : decode cX8_sill 47 = .ok (.iload_n 1, 1) := by decide +kernel
theorem dX8_sill_48 : decode cX8_sill 48 = .ok (.iaload, 1) := by decide +kernel
theorem dX8_sill_49 : decode cX8_sill 49 = .ok (.ireturn, 1) := by decide +kernel
theorem dX8_sill_50 : decode cX8_sill 50 = .ok (.aload_n 0, 1) := by decide +kernel
theorem dX8_sill_51 : decode cX8_sill 51 = .ok (.getfield 32, 3) := by decide +kernel
theorem dX8_sill_54 : decode cX8_sill 54 = .ok (.getfield 146, 3) := by decide +kernel
theorem dX8_sill_57 : decode cX8_sill 57 = .ok (.iload_n 1, 1) := by decide +kernel
theorem dX8_sill_58 : decode cX8_sill 58 = .ok (.iaload, 1) := by decide +kernel
theorem dX8_sill_59 : decode cX8_sill 59 = .ok (.ireturn, 1) := by decide +kernel
theorem dX8_sill_60 : decode cX8_sill 60 = .ok (.aload_n 0, 1) := by decide +kernel
theorem dX8_sill_61 : decode cX8_sill 61 = .ok (.getfield 32, 3) := by decide +kernel
theorem dX8_sill_64 : decode cX8_sill 64 = .ok (.iload_n 1, 1) := by decide +kernel
theorem dX8_sill_65 : decode cX8_sill 65 = .ok (.invokevirtual 149, 3) := by decide +kernel
theorem dX8_sill_68 : decode cX8_sill 68 = .ok (.ireturn, 1) := by decide +kernel
theorem dX8_sill_69 : decode cX8_sill 69 = .ok (.ldc 107, 2) := by decide +kernel
theorem dX8_sill_71 : decode cX8_sill 71 = .ok (.ireturn, 1) := by decide +kernel
theorem dX8_worst_0 : decode cX8_worst 0 = .ok (.iconst 0, 1) := by decide +kernel
theorem dX8_worst_1 : decode cX8_worst 1 = .ok (.istore_n 1, 1) := by decide +kernel
theorem dX8_worst_2 : decode cX8_worst 2 = .ok (.iconst 1, 1) := by decide +kernel
theorem dX8_worst_3 : decode cX8_worst 3 = .ok (.istore_n 2, 1) := by decide +kernel
theorem dX8_worst_4 : decode cX8_worst 4 = .ok (.iload_n 2, 1) := by decide +kernel
theorem dX8_worst_5 : decode cX8_worst 5 = .ok (.aload_n 0, 1) := by decide +kernel
theorem dX8_worst_6 : decode cX8_worst 6 = .ok (.getfield 23, 3) := by decide +kernel
theorem dX8_worst_9 : decode cX8_worst 9 = .ok (.getfield 152, 3) := by decide +kernel
theorem dX8_worst_12 : decode cX8_worst 12 = .ok (.if_icmp .gt 36, 3) := by decide +kernel
theorem dX8_worst_15 : decode cX8_worst 15 = .ok (.aload_n 0, 1) := by decide +kernel
theorem dX8_worst_16 : decode cX8_worst 16 = .ok (.getfield 32, 3) := by decide +kernel
theorem dX8_worst_19 : decode cX8_worst 19 = .ok (.iload_n 2, 1) := by decide +kernel
theorem dX8_worst_20 : decode cX8_worst 20 = .ok (.invokevirtual 149, 3) := by decide +kernel
theorem dX8_worst_23 : decode cX8_worst 23 = .ok (.invokestatic 155, 3) := by decide +kernel
theorem dX8_worst_26 : decode cX8_worst 26 = .ok (.aload_n 0, 1) := by decide +kernel
theorem dX8_worst_27 : decode cX8_worst 27 = .ok (.getfield 32, 3) := by decide +kernel
theorem dX8_worst_30 : decode cX8_worst 30 = .ok (.iload_n 1, 1) := by decide +kernel
theorem dX8_worst_31 : decode cX8_worst 31 = .ok (.invokevirtual 149, 3) := by decide +kernel
theorem dX8_worst_34 : decode cX8_worst 34 = .ok (.invokestatic 155, 3) := by decide +kernel
theorem dX8_worst_37 : decode cX8_worst 37 = .ok (.if_icmp .le 5, 3) := by decide +kernel
theorem dX8_worst_40 : decode cX8_worst 40 = .ok (.iload_n 2, 1) := by decide +kernel
theorem dX8_worst_41 : decode cX8_worst 41 = .ok (.istore_n 1, 1) := by decide +kernel
theorem dX8_worst_42 : decode cX8_worst 42 = .ok (.iinc 2 1, 3) := by decide +kernel
theorem dX8_worst_45 : decode cX8_worst 45 = .ok (.goto (-41), 3) := by decide +kernel
theorem dX8_worst_48 : decode cX8_worst 48 = .ok (.iload_n 1, 1) := by decide +kernel
theorem dX8_worst_49 : decode cX8_worst 49 = .ok (.ireturn, 1) := by decide +kernel
theorem dX8_stairs_0 : decode cX8_stairs 0 = .ok (.aload_n 0, 1) := by decide +kernel
theorem dX8_stairs_1 : decode cX8_stairs 1 = .ok (.iload_n 1, 1) := by decide +kernel
theorem dX8_stairs_2 : decode cX8_stairs 2 = .ok (.invokevirtual 104, 3) := by decide +kernel
theorem dX8_stairs_5 : decode cX8_stairs 5 = .ok (.ifCond .eq 23, 3) := by decide +kernel
theorem dX8_stairs_8 : decode cX8_stairs 8 = .ok (.iload_n 2, 1) := by decide +kernel
theorem dX8_stairs_9 : decode cX8_stairs 9 = .ok (.iconst 1, 1) := by decide +kernel
theorem dX8_stairs_10 : decode cX8_stairs 10 = .ok (.bipush 40, 2) := by decide +kernel
theorem dX8_stairs_12 : decode cX8_stairs 12 = .ok (.invokestatic 79, 3) := by decide +kernel
theorem dX8_stairs_15 : decode cX8_stairs 15 = .ok (.ifCond .eq 13, 3) := by decide +kernel
theorem dX8_stairs_18 : decode cX8_stairs 18 = .ok (.iload_n 3, 1) := by decide +kernel
theorem dX8_stairs_19 : decode cX8_stairs 19 = .ok (.iconst 1, 1) := by decide +kernel
theorem dX8_stairs_20 : decode cX8_stairs 20 = .ok (.bipush 99, 2) := by decide +kernel
theorem dX8_stairs_22 : decode cX8_stairs 22 = .ok (.invokestatic 79, 3) := by decide +kernel
theorem dX8_stairs_25 : decode cX8_stairs 25 = .ok (.ifCond .ne 6, 3) := by decide +kernel
theorem dX8_stairs_28 : decode cX8_stairs 28 = .ok (.ldc 107, 2) := by decide +kernel
theorem dX8_stairs_30 : decode cX8_stairs 30 = .ok (.ireturn, 1) := by decide +kernel
theorem dX8_stairs_31 : decode cX8_stairs 31 = .ok (.aload_n 0, 1) := by decide +kernel
theorem dX8_stairs_32 : decode cX8_stairs 32 = .ok (.getfield 32, 3) := by decide +kernel
theorem dX8_stairs_35 : decode cX8_stairs 35 = .ok (.iload_n 1, 1) := by decide +kernel
theorem dX8_stairs_36 : decode cX8_stairs 36 = .ok (.invokevirtual 111, 3) := by decide +kernel
theorem dX8_stairs_39 : decode cX8_stairs 39 = .ok (.iload_n 2, 1) := by decide +kernel
theorem dX8_stairs_40 : decode cX8_stairs 40 = .ok (.iload_n 3, 1) := by decide +kernel
theorem dX8_stairs_41 : decode cX8_stairs 41 = .ok (.imul, 1) := by decide +kernel
theorem dX8_stairs_42 : decode cX8_stairs 42 = .ok (.isub, 1) := by decide +kernel
theorem dX8_stairs_43 : decode cX8_stairs 43 = .ok (.ireturn, 1) := by decide +kernel
theorem dX8_even_0 : decode cX8_even 0 = .ok (.aload_n 0, 1) := by decide +kernel
theorem dX8_even_1 : decode cX8_even 1 = .ok (.iload_n 1, 1) := by decide +kernel
theorem dX8_even_2 : decode cX8_even 2 = .ok (.invokevirtual 104, 3) := by decide +kernel
theorem dX8_even_5 : decode cX8_even 5 = .ok (.ifCond .eq 33, 3) := by decide +kernel
theorem dX8_even_8 : decode cX8_even 8 = .ok (.iload_n 2, 1) := by decide +kernel
theorem dX8_even_9 : decode cX8_even 9 = .ok (.iconst 1, 1) := by decide +kernel
theorem dX8_even_10 : decode cX8_even 10 = .ok (.bipush 99, 2) := by decide +kernel
theorem dX8_even_12 : decode cX8_even 12 = .ok (.invokestatic 79, 3) := by decide +kernel
theorem dX8_even_15 : decode cX8_even 15 = .ok (.ifCond .eq 23, 3) := by decide +kernel
theorem dX8_even_18 : decode cX8_even 18 = .ok (.iload_n 3, 1) := by decide +kernel
theorem dX8_even_19 : decode cX8_even 19 = .ok (.iload_n 2, 1) := by decide +kernel
theorem dX8_even_20 : decode cX8_even 20 = .ok (.bipush 99, 2) := by decide +kernel
theorem dX8_even_22 : decode cX8_even 22 = .ok (.invokestatic 79, 3) := by decide +kernel
theorem dX8_even_25 : decode cX8_even 25 = .ok (.ifCond .eq 13, 3) := by decide +kernel
theorem dX8_even_28 : decode cX8_even 28 = .ok (.iload 4, 2) := by decide +kernel
theorem dX8_even_30 : decode cX8_even 30 = .ok (.iconst 0, 1) := by decide +kernel
theorem dX8_even_31 : decode cX8_even 31 = .ok (.iconst 2, 1) := by decide +kernel
theorem dX8_even_32 : decode cX8_even 32 = .ok (.invokestatic 79, 3) := by decide +kernel
theorem dX8_even_35 : decode cX8_even 35 = .ok (.ifCond .ne 6, 3) := by decide +kernel
theorem dX8_even_38 : decode cX8_even 38 = .ok (.bipush (-2), 2) := by decide +kernel
theorem dX8_even_40 : decode cX8_even 40 = .ok (.ireturn, 1) := by decide +kernel
theorem dX8_even_41 : decode cX8_even 41 = .ok (.aload_n 0, 1) := by decide +kernel
theorem dX8_even_42 : decode cX8_even 42 = .ok (.getfield 32, 3) := by decide +kernel
theorem dX8_even_45 : decode cX8_even 45 = .ok (.iload_n 1, 1) := by decide +kernel
theorem dX8_even_46 : decode cX8_even 46 = .ok (.invokevirtual 111, 3) := by decide +kernel
theorem dX8_even_49 : decode cX8_even 49 = .ok (.istore 5, 2) := by decide +kernel
theorem dX8_even_51 : decode cX8_even 51 = .ok (.iload 5, 2) := by decide +kernel
theorem dX8_even_53 : decode cX8_even 53 = .ok (.iload_n 2, 1) := by decide +kernel
theorem dX8_even_54 : decode cX8_even 54 = .ok (.iload_n 3, 1) := by decide +kernel
theorem dX8_even_55 : decode cX8_even 55 = .ok (.invokestatic 160, 3) := by decide +kernel
theorem dX8_even_58 : decode cX8_even 58 = .ok (.istore 6, 2) := by decide +kernel
theorem dX8_even_60 : decode cX8_even 60 = .ok (.iload 5, 2) := by decide +kernel
theorem dX8_even_62 : decode cX8_even 62 = .ok (.iload 6, 2) := by decide +kernel
theorem dX8_even_64 : decode cX8_even 64 = .ok (.iload_n 2, 1) := by decide +kernel
theorem dX8_even_65 : decode cX8_even 65 = .ok (.iload_n 3, 1) := by decide +kernel
theorem dX8_even_66 : decode cX8_even 66 = .ok (.invokestatic 163, 3) := by decide +kernel
theorem dX8_even_69 : decode cX8_even 69 = .ok (.istore 7, 2) := by decide +kernel
theorem dX8_even_71 : decode cX8_even 71 = .ok (.iload 4, 2) := by decide +kernel
theorem dX8_even_73 : decode cX8_even 73 = .ok (.lookupswitch 33 #[(0, 27), (1, 30)], 27) := by decide +kernel
theorem dX8_even_100 : decode cX8_even 100 = .ok (.iload 7, 2) := by decide +kernel
theorem dX8_even_102 : decode cX8_even 102 = .ok (.ireturn, 1) := by decide +kernel
theorem dX8_even_103 : decode cX8_even 103 = .ok (.iload 6, 2) := by decide +kernel
theorem dX8_even_105 : decode cX8_even 105 = .ok (.ireturn, 1) := by decide +kernel
theorem dX8_even_106 : decode cX8_even 106 = .ok (.iload 5, 2) := by decide +kernel
theorem dX8_even_108 : decode cX8_even 108 = .ok (.iload 6, 2) := by decide +kernel
theorem dX8_even_110 : decode cX8_even 110 = .ok (.iload 7, 2) := by decide +kernel
theorem dX8_even_112 : decode cX8_even 112 = .ok (.imul, 1) := by decide +kernel
theorem dX8_even_113 : decode cX8_even 113 = .ok (.isub, 1) := by decide +kernel
theorem dX8_even_114 : decode cX8_even 114 = .ok (.invokestatic 155, 3) := by decide +kernel
theorem dX8_even_117 : decode cX8_even 117 = .ok (.ireturn, 1) := by decide +kernel
theorem dX8_blame_0 : decode cX8_blame 0 = .ok (.iload_n 1, 1) := by decide +kernel
theorem dX8_blame_1 : decode cX8_blame 1 = .ok (.invokestatic 75, 3) := by decide +kernel
theorem dX8_blame_4 : decode cX8_blame 4 = .ok (.ifCond .eq 21, 3) := by decide +kernel
theorem dX8_blame_7 : decode cX8_blame 7 = .ok (.iload_n 2, 1) := by decide +kernel
theorem dX8_blame_8 : decode cX8_blame 8 = .ok (.iconst 0, 1) := by decide +kernel
theorem dX8_blame_9 : decode cX8_blame 9 = .ok (.iconst 1, 1) := by decide +kernel
theorem dX8_blame_10 : decode cX8_blame 10 = .ok (.invokestatic 79, 3) := by decide +kernel
theorem dX8_blame_13 : decode cX8_blame 13 = .ok (.ifCond .eq 12, 3) := by decide +kernel
theorem dX8_blame_16 : decode cX8_blame 16 = .ok (.iload_n 3, 1) := by decide +kernel
theorem dX8_blame_17 : decode cX8_blame 17 = .ok (.iconst 0, 1) := by decide +kernel
theorem dX8_blame_18 : decode cX8_blame 18 = .ok (.iconst 1, 1) := by decide +kernel
theorem dX8_blame_19 : decode cX8_blame 19 = .ok (.invokestatic 79, 3) := by decide +kernel
theorem dX8_blame_22 : decode cX8_blame 22 = .ok (.ifCond .ne 9, 3) := by decide +kernel
theorem dX8_blame_25 : decode cX8_blame 25 = .ok (.bipush (-2), 2) := by decide +kernel
theorem dX8_blame_27 : decode cX8_blame 27 = .ok (.invokestatic 167, 3) := by decide +kernel
theorem dX8_blame_30 : decode cX8_blame 30 = .ok (.lreturn, 1) := by decide +kernel
theorem dX8_blame_31 : decode cX8_blame 31 = .ok (.aload_n 0, 1) := by decide +kernel
theorem dX8_blame_32 : decode cX8_blame 32 = .ok (.getfield 32, 3) := by decide +kernel
theorem dX8_blame_35 : decode cX8_blame 35 = .ok (.iload_n 1, 1) := by decide +kernel
theorem dX8_blame_36 : decode cX8_blame 36 = .ok (.invokevirtual 171, 3) := by decide +kernel
theorem dX8_blame_39 : decode cX8_blame 39 = .ok (.i2l, 1) := by decide +kernel
theorem dX8_blame_40 : decode cX8_blame 40 = .ok (.lstore 4, 2) := by decide +kernel
theorem dX8_blame_42 : decode cX8_blame 42 = .ok (.iload_n 2, 1) := by decide +kernel
theorem dX8_blame_43 : decode cX8_blame 43 = .ok (.ifCond .ne 14, 3) := by decide +kernel
theorem dX8_blame_46 : decode cX8_blame 46 = .ok (.iload_n 3, 1) := by decide +kernel
theorem dX8_blame_47 : decode cX8_blame 47 = .ok (.ifCond .ne 8, 3) := by decide +kernel
theorem dX8_blame_50 : decode cX8_blame 50 = .ok (.lload 4, 2) := by decide +kernel
theorem dX8_blame_52 : decode cX8_blame 52 = .ok (.goto 4, 3) := by decide +kernel
theorem dX8_blame_55 : decode cX8_blame 55 = .ok (.lconst 1, 1) := by decide +kernel
theorem dX8_blame_56 : decode cX8_blame 56 = .ok (.lreturn, 1) := by decide +kernel
theorem dX8_blame_57 : decode cX8_blame 57 = .ok (.lconst 0, 1) := by decide +kernel
theorem dX8_blame_58 : decode cX8_blame 58 = .ok (.lstore 6, 2) := by decide +kernel
theorem dX8_blame_60 : decode cX8_blame 60 = .ok (.iconst 0, 1) := by decide +kernel
theorem dX8_blame_61 : decode cX8_blame 61 = .ok (.istore 8, 2) := by decide +kernel
theorem dX8_blame_63 : decode cX8_blame 63 = .ok (.iload 8, 2) := by decide +kernel
theorem dX8_blame_65 : decode cX8_blame 65 = .ok (.iconst 3, 1) := by decide +kernel
theorem dX8_blame_66 : decode cX8_blame 66 = .ok (.if_icmp .ge 24, 3) := by decide +kernel
theorem dX8_blame_69 : decode cX8_blame 69 = .ok (.lload 6, 2) := by decide +kernel
theorem dX8_blame_71 : decode cX8_blame 71 = .ok (.aload_n 0, 1) := by decide +kernel
theorem dX8_blame_72 : decode cX8_blame 72 = .ok (.getfield 32, 3) := by decide +kernel
theorem dX8_blame_75 : decode cX8_blame 75 = .ok (.iload 8, 2) := by decide +kernel
theorem dX8_blame_77 : decode cX8_blame 77 = .ok (.invokevirtual 171, 3) := by decide +kernel
theorem dX8_blame_80 : decode cX8_blame 80 = .ok (.i2l, 1) := by decide +kernel
theorem dX8_blame_81 : decode cX8_blame 81 = .ok (.ladd, 1) := by decide +kernel
theorem dX8_blame_82 : decode cX8_blame 82 = .ok (.lstore 6, 2) := by decide +kernel
theorem dX8_blame_84 : decode cX8_blame 84 = .ok (.iinc 8 1, 3) := by decide +kernel
theorem dX8_blame_87 : decode cX8_blame 87 = .ok (.goto (-24), 3) := by decide +kernel
theorem dX8_blame_90 : decode cX8_blame 90 = .ok (.lload 6, 2) := by decide +kernel
theorem dX8_blame_92 : decode cX8_blame 92 = .ok (.lconst 0, 1) := by decide +kernel
theorem dX8_blame_93 : decode cX8_blame 93 = .ok (.lcmp, 1) := by decide +kernel
theorem dX8_blame_94 : decode cX8_blame 94 = .ok (.ifCond .ne 11, 3) := by decide +kernel
theorem dX8_blame_97 : decode cX8_blame 97 = .ok (.bipush (-3), 2) := by decide +kernel
theorem dX8_blame_99 : decode cX8_blame 99 = .ok (.invokestatic 167, 3) := by decide +kernel
theorem dX8_blame_102 : decode cX8_blame 102 = .ok (.goto 11, 3) := by decide +kernel
theorem dX8_blame_105 : decode cX8_blame 105 = .ok (.lload 4, 2) := by decide +kernel
theorem dX8_blame_107 : decode cX8_blame 107 = .ok (.lload 6, 2) := by decide +kernel
theorem dX8_blame_109 : decode cX8_blame 109 = .ok (.iload_n 3, 1) := by decide +kernel
theorem dX8_blame_110 : decode cX8_blame 110 = .ok (.invokestatic 174, 3) := by decide +kernel
theorem dX8_blame_113 : decode cX8_blame 113 = .ok (.lreturn, 1) := by decide +kernel
theorem dX8_found_0 : decode cX8_found 0 = .ok (.iload_n 1, 1) := by decide +kernel
theorem dX8_found_1 : decode cX8_found 1 = .ok (.invokestatic 131, 3) := by decide +kernel
theorem dX8_found_4 : decode cX8_found 4 = .ok (.ifCond .eq 10, 3) := by decide +kernel
theorem dX8_found_7 : decode cX8_found 7 = .ok (.iload_n 2, 1) := by decide +kernel
theorem dX8_found_8 : decode cX8_found 8 = .ok (.invokestatic 178, 3) := by decide +kernel
theorem dX8_found_11 : decode cX8_found 11 = .ok (.ifCond .ne 6, 3) := by decide +kernel
theorem dX8_found_14 : decode cX8_found 14 = .ok (.bipush (-5), 2) := by decide +kernel
theorem dX8_found_16 : decode cX8_found 16 = .ok (.ireturn, 1) := by decide +kernel
theorem dX8_found_17 : decode cX8_found 17 = .ok (.aload_n 0, 1) := by decide +kernel
theorem dX8_found_18 : decode cX8_found 18 = .ok (.getfield 41, 3) := by decide +kernel
theorem dX8_found_21 : decode cX8_found 21 = .ok (.getfield 121, 3) := by decide +kernel
theorem dX8_found_24 : decode cX8_found 24 = .ok (.iload_n 1, 1) := by decide +kernel
theorem dX8_found_25 : decode cX8_found 25 = .ok (.iaload, 1) := by decide +kernel
theorem dX8_found_26 : decode cX8_found 26 = .ok (.istore_n 3, 1) := by decide +kernel
theorem dX8_found_27 : decode cX8_found 27 = .ok (.aload_n 0, 1) := by decide +kernel
theorem dX8_found_28 : decode cX8_found 28 = .ok (.getfield 41, 3) := by decide +kernel
theorem dX8_found_31 : decode cX8_found 31 = .ok (.getfield 121, 3) := by decide +kernel
theorem dX8_found_34 : decode cX8_found 34 = .ok (.iload_n 1, 1) := by decide +kernel
theorem dX8_found_35 : decode cX8_found 35 = .ok (.iload_n 2, 1) := by decide +kernel
theorem dX8_found_36 : decode cX8_found 36 = .ok (.iastore, 1) := by decide +kernel
theorem dX8_found_37 : decode cX8_found 37 = .ok (.iload_n 3, 1) := by decide +kernel
theorem dX8_found_38 : decode cX8_found 38 = .ok (.ireturn, 1) := by decide +kernel
theorem dX8_read_0 : decode cX8_read 0 = .ok (.aload_n 0, 1) := by decide +kernel
theorem dX8_read_1 : decode cX8_read 1 = .ok (.iload_n 1, 1) := by decide +kernel
theorem dX8_read_2 : decode cX8_read 2 = .ok (.invokevirtual 181, 3) := by decide +kernel
theorem dX8_read_5 : decode cX8_read 5 = .ok (.istore_n 2, 1) := by decide +kernel
theorem dX8_read_6 : decode cX8_read 6 = .ok (.iload_n 2, 1) := by decide +kernel
theorem dX8_read_7 : decode cX8_read 7 = .ok (.ifCond .eq 5, 3) := by decide +kernel
theorem dX8_read_10 : decode cX8_read 10 = .ok (.iload_n 2, 1) := by decide +kernel
theorem dX8_read_11 : decode cX8_read 11 = .ok (.ireturn, 1) := by decide +kernel
theorem dX8_read_12 : decode cX8_read 12 = .ok (.aload_n 0, 1) := by decide +kernel
theorem dX8_read_13 : decode cX8_read 13 = .ok (.getfield 70, 3) := by decide +kernel
theorem dX8_read_16 : decode cX8_read 16 = .ok (.iload_n 1, 1) := by decide +kernel
theorem dX8_read_17 : decode cX8_read 17 = .ok (.aaload, 1) := by decide +kernel
theorem dX8_read_18 : decode cX8_read 18 = .ok (.astore_n 3, 1) := by decide +kernel
theorem dX8_read_19 : decode cX8_read 19 = .ok (.aload_n 3, 1) := by decide +kernel
theorem dX8_read_20 : decode cX8_read 20 = .ok (.getfield 184, 3) := by decide +kernel
theorem dX8_read_23 : decode cX8_read 23 = .ok (.bipush 10, 2) := by decide +kernel
theorem dX8_read_25 : decode cX8_read 25 = .ok (.invokestatic 187, 3) := by decide +kernel
theorem dX8_read_28 : decode cX8_read 28 = .ok (.istore 4, 2) := by decide +kernel
theorem dX8_read_30 : decode cX8_read 30 = .ok (.iconst 0, 1) := by decide +kernel
theorem dX8_read_31 : decode cX8_read 31 = .ok (.istore 5, 2) := by decide +kernel
theorem dX8_read_33 : decode cX8_read 33 = .ok (.iload 5, 2) := by decide +kernel
theorem dX8_read_35 : decode cX8_read 35 = .ok (.iload 4, 2) := by decide +kernel
theorem dX8_read_37 : decode cX8_read 37 = .ok (.if_icmp .ge 39, 3) := by decide +kernel
theorem dX8_read_40 : decode cX8_read 40 = .ok (.aload_n 3, 1) := by decide +kernel
theorem dX8_read_41 : decode cX8_read 41 = .ok (.getfield 191, 3) := by decide +kernel
theorem dX8_read_44 : decode cX8_read 44 = .ok (.iload 5, 2) := by decide +kernel
theorem dX8_read_46 : decode cX8_read 46 = .ok (.iaload, 1) := by decide +kernel
theorem dX8_read_47 : decode cX8_read 47 = .ok (.invokestatic 178, 3) := by decide +kernel
theorem dX8_read_50 : decode cX8_read 50 = .ok (.ifCond .eq 26, 3) := by decide +kernel
theorem dX8_read_53 : decode cX8_read 53 = .ok (.aload_n 0, 1) := by decide +kernel
theorem dX8_read_54 : decode cX8_read 54 = .ok (.getfield 41, 3) := by decide +kernel
theorem dX8_read_57 : decode cX8_read 57 = .ok (.getfield 121, 3) := by decide +kernel
theorem dX8_read_60 : decode cX8_read 60 = .ok (.iload 5, 2) := by decide +kernel
theorem dX8_read_62 : decode cX8_read 62 = .ok (.aload_n 3, 1) := by decide +kernel
theorem dX8_read_63 : decode cX8_read 63 = .ok (.getfield 191, 3) := by decide +kernel
theorem dX8_read_66 : decode cX8_read 66 = .ok (.iload 5, 2) := by decide +kernel
theorem dX8_read_68 : decode cX8_read 68 = .ok (.iaload, 1) := by decide +kernel
theorem dX8_read_69 : decode cX8_read 69 = .ok (.iastore, 1) := by decide +kernel
theorem dX8_read_70 : decode cX8_read 70 = .ok (.iinc 5 1, 3) := by decide +kernel
theorem dX8_read_73 : decode cX8_read 73 = .ok (.goto (-40), 3) := by decide +kernel
theorem dX8_read_76 : decode cX8_read 76 = .ok (.iload 5, 2) := by decide +kernel
theorem dX8_read_78 : decode cX8_read 78 = .ok (.ireturn, 1) := by decide +kernel
theorem dX8_fits_0 : decode cX8_fits 0 = .ok (.aload_n 0, 1) := by decide +kernel
theorem dX8_fits_1 : decode cX8_fits 1 = .ok (.iload_n 1, 1) := by decide +kernel
theorem dX8_fits_2 : decode cX8_fits 2 = .ok (.invokevirtual 104, 3) := by decide +kernel
theorem dX8_fits_5 : decode cX8_fits 5 = .ok (.ifCond .eq 20, 3) := by decide +kernel
theorem dX8_fits_8 : decode cX8_fits 8 = .ok (.aload_n 0, 1) := by decide +kernel
theorem dX8_fits_9 : decode cX8_fits 9 = .ok (.getfield 41, 3) := by decide +kernel
theorem dX8_fits_12 : decode cX8_fits 12 = .ok (.iload_n 1, 1) := by decide +kernel
theorem dX8_fits_13 : decode cX8_fits 13 = .ok (.aload_n 0, 1) := by decide +kernel
theorem dX8_fits_14 : decode cX8_fits 14 = .ok (.getfield 7, 3) := by decide +kernel
theorem dX8_fits_17 : decode cX8_fits 17 = .ok (.iconst 0, 1) := by decide +kernel
theorem dX8_fits_18 : decode cX8_fits 18 = .ok (.iaload, 1) := by decide +kernel
theorem dX8_fits_19 : decode cX8_fits 19 = .ok (.invokevirtual 194, 3) := by decide +kernel
theorem dX8_fits_22 : decode cX8_fits 22 = .ok (.goto 5, 3) := by decide +kernel
theorem dX8_fits_25 : decode cX8_fits 25 = .ok (.bipush (-2), 2) := by decide +kernel
theorem dX8_fits_27 : decode cX8_fits 27 = .ok (.ireturn, 1) := by decide +kernel
theorem dX8_worlds_0 : decode cX8_worlds 0 = .ok (.aload_n 0, 1) := by decide +kernel
theorem dX8_worlds_1 : decode cX8_worlds 1 = .ok (.getfield 41, 3) := by decide +kernel
theorem dX8_worlds_4 : decode cX8_worlds 4 = .ok (.aload_n 0, 1) := by decide +kernel
theorem dX8_worlds_5 : decode cX8_worlds 5 = .ok (.getfield 7, 3) := by decide +kernel
theorem dX8_worlds_8 : decode cX8_worlds 8 = .ok (.iconst 0, 1) := by decide +kernel
theorem dX8_worlds_9 : decode cX8_worlds 9 = .ok (.iaload, 1) := by decide +kernel
theorem dX8_worlds_10 : decode cX8_worlds 10 = .ok (.iconst (-1), 1) := by decide +kernel
theorem dX8_worlds_11 : decode cX8_worlds 11 = .ok (.iconst 0, 1) := by decide +kernel
theorem dX8_worlds_12 : decode cX8_worlds 12 = .ok (.invokevirtual 197, 3) := by decide +kernel
theorem dX8_worlds_15 : decode cX8_worlds 15 = .ok (.lreturn, 1) := by decide +kernel
theorem dX8_odds_0 : decode cX8_odds 0 = .ok (.aload_n 0, 1) := by decide +kernel
theorem dX8_odds_1 : decode cX8_odds 1 = .ok (.iload_n 1, 1) := by decide +kernel
theorem dX8_odds_2 : decode cX8_odds 2 = .ok (.invokevirtual 104, 3) := by decide +kernel
theorem dX8_odds_5 : decode cX8_odds 5 = .ok (.ifCond .eq 19, 3) := by decide +kernel
theorem dX8_odds_8 : decode cX8_odds 8 = .ok (.iload_n 2, 1) := by decide +kernel
theorem dX8_odds_9 : decode cX8_odds 9 = .ok (.invokestatic 75, 3) := by decide +kernel
theorem dX8_odds_12 : decode cX8_odds 12 = .ok (.ifCond .eq 12, 3) := by decide +kernel
theorem dX8_odds_15 : decode cX8_odds 15 = .ok (.iload_n 3, 1) := by decide +kernel
theorem dX8_odds_16 : decode cX8_odds 16 = .ok (.iconst 0, 1) := by decide +kernel
theorem dX8_odds_17 : decode cX8_odds 17 = .ok (.iconst 1, 1) := by decide +kernel
theorem dX8_odds_18 : decode cX8_odds 18 = .ok (.invokestatic 79, 3) := by decide +kernel
theorem dX8_odds_21 : decode cX8_odds 21 = .ok (.ifCond .ne 9, 3) := by decide +kernel
theorem dX8_odds_24 : decode cX8_odds 24 = .ok (.bipush (-2), 2) := by decide +kernel
theorem dX8_odds_26 : decode cX8_odds 26 = .ok (.invokestatic 167, 3) := by decide +kernel
theorem dX8_odds_29 : decode cX8_odds 29 = .ok (.lreturn, 1) := by decide +kernel
theorem dX8_odds_30 : decode cX8_odds 30 = .ok (.aload_n 0, 1) := by decide +kernel
theorem dX8_odds_31 : decode cX8_odds 31 = .ok (.invokevirtual 201, 3) := by decide +kernel
theorem dX8_odds_34 : decode cX8_odds 34 = .ok (.lstore 4, 2) := by decide +kernel
theorem dX8_odds_36 : decode cX8_odds 36 = .ok (.lload 4, 2) := by decide +kernel
theorem dX8_odds_38 : decode cX8_odds 38 = .ok (.lconst 0, 1) := by decide +kernel
theorem dX8_odds_39 : decode cX8_odds 39 = .ok (.lcmp, 1) := by decide +kernel
theorem dX8_odds_40 : decode cX8_odds 40 = .ok (.ifCond .ne 9, 3) := by decide +kernel
theorem dX8_odds_43 : decode cX8_odds 43 = .ok (.bipush (-3), 2) := by decide +kernel
theorem dX8_odds_45 : decode cX8_odds 45 = .ok (.invokestatic 167, 3) := by decide +kernel
theorem dX8_odds_48 : decode cX8_odds 48 = .ok (.lreturn, 1) := by decide +kernel
theorem dX8_odds_49 : decode cX8_odds 49 = .ok (.aload_n 0, 1) := by decide +kernel
theorem dX8_odds_50 : decode cX8_odds 50 = .ok (.getfield 41, 3) := by decide +kernel
theorem dX8_odds_53 : decode cX8_odds 53 = .ok (.aload_n 0, 1) := by decide +kernel
theorem dX8_odds_54 : decode cX8_odds 54 = .ok (.getfield 7, 3) := by decide +kernel
theorem dX8_odds_57 : decode cX8_odds 57 = .ok (.iconst 0, 1) := by decide +kernel
theorem dX8_odds_58 : decode cX8_odds 58 = .ok (.iaload, 1) := by decide +kernel
theorem dX8_odds_59 : decode cX8_odds 59 = .ok (.iload_n 1, 1) := by decide +kernel
theorem dX8_odds_60 : decode cX8_odds 60 = .ok (.iload_n 2, 1) := by decide +kernel
theorem dX8_odds_61 : decode cX8_odds 61 = .ok (.invokevirtual 197, 3) := by decide +kernel
theorem dX8_odds_64 : decode cX8_odds 64 = .ok (.lload 4, 2) := by decide +kernel
theorem dX8_odds_66 : decode cX8_odds 66 = .ok (.iload_n 3, 1) := by decide +kernel
theorem dX8_odds_67 : decode cX8_odds 67 = .ok (.invokestatic 174, 3) := by decide +kernel
theorem dX8_odds_70 : decode cX8_odds 70 = .ok (.lreturn, 1) := by decide +kernel
theorem dX8_lean_0 : decode cX8_lean 0 = .ok (.iload_n 1, 1) := by decide +kernel
theorem dX8_lean_1 : decode cX8_lean 1 = .ok (.iconst 0, 1) := by decide +kernel
theorem dX8_lean_2 : decode cX8_lean 2 = .ok (.bipush 10, 2) := by decide +kernel
theorem dX8_lean_4 : decode cX8_lean 4 = .ok (.invokestatic 79, 3) := by decide +kernel
theorem dX8_lean_7 : decode cX8_lean 7 = .ok (.ifCond .eq 14, 3) := by decide +kernel
theorem dX8_lean_10 : decode cX8_lean 10 = .ok (.iload_n 2, 1) := by decide +kernel
theorem dX8_lean_11 : decode cX8_lean 11 = .ok (.bipush (-99), 2) := by decide +kernel
theorem dX8_lean_13 : decode cX8_lean 13 = .ok (.bipush 99, 2) := by decide +kernel
theorem dX8_lean_15 : decode cX8_lean 15 = .ok (.invokestatic 79, 3) := by decide +kernel
theorem dX8_lean_18 : decode cX8_lean 18 = .ok (.ifCond .ne 6, 3) := by decide +kernel
theorem dX8_lean_21 : decode cX8_lean 21 = .ok (.ldc 107, 2) := by decide +kernel
theorem dX8_lean_23 : decode cX8_lean 23 = .ok (.ireturn, 1) := by decide +kernel
theorem dX8_lean_24 : decode cX8_lean 24 = .ok (.aload_n 0, 1) := by decide +kernel
theorem dX8_lean_25 : decode cX8_lean 25 = .ok (.getfield 48, 3) := by decide +kernel
theorem dX8_lean_28 : decode cX8_lean 28 = .ok (.getfield 205, 3) := by decide +kernel
theorem dX8_lean_31 : decode cX8_lean 31 = .ok (.iload_n 1, 1) := by decide +kernel
theorem dX8_lean_32 : decode cX8_lean 32 = .ok (.iaload, 1) := by decide +kernel
theorem dX8_lean_33 : decode cX8_lean 33 = .ok (.istore_n 3, 1) := by decide +kernel
theorem dX8_lean_34 : decode cX8_lean 34 = .ok (.aload_n 0, 1) := by decide +kernel
theorem dX8_lean_35 : decode cX8_lean 35 = .ok (.getfield 48, 3) := by decide +kernel
theorem dX8_lean_38 : decode cX8_lean 38 = .ok (.getfield 205, 3) := by decide +kernel
theorem dX8_lean_41 : decode cX8_lean 41 = .ok (.iload_n 1, 1) := by decide +kernel
theorem dX8_lean_42 : decode cX8_lean 42 = .ok (.iload_n 2, 1) := by decide +kernel
theorem dX8_lean_43 : decode cX8_lean 43 = .ok (.iastore, 1) := by decide +kernel
theorem dX8_lean_44 : decode cX8_lean 44 = .ok (.iload_n 3, 1) := by decide +kernel
theorem dX8_lean_45 : decode cX8_lean 45 = .ok (.ireturn, 1) := by decide +kernel
theorem dX8_runs_0 : decode cX8_runs 0 = .ok (.iload_n 1, 1) := by decide +kernel
theorem dX8_runs_1 : decode cX8_runs 1 = .ok (.iconst 1, 1) := by decide +kernel
theorem dX8_runs_2 : decode cX8_runs 2 = .ok (.sipush 999, 3) := by decide +kernel
theorem dX8_runs_5 : decode cX8_runs 5 = .ok (.invokestatic 79, 3) := by decide +kernel
theorem dX8_runs_8 : decode cX8_runs 8 = .ok (.ifCond .eq 24, 3) := by decide +kernel
theorem dX8_runs_11 : decode cX8_runs 11 = .ok (.aload_n 0, 1) := by decide +kernel
theorem dX8_runs_12 : decode cX8_runs 12 = .ok (.iload_n 2, 1) := by decide +kernel
theorem dX8_runs_13 : decode cX8_runs 13 = .ok (.invokevirtual 140, 3) := by decide +kernel
theorem dX8_runs_16 : decode cX8_runs 16 = .ok (.ifCond .eq 16, 3) := by decide +kernel
theorem dX8_runs_19 : decode cX8_runs 19 = .ok (.aload_n 0, 1) := by decide +kernel
theorem dX8_runs_20 : decode cX8_runs 20 = .ok (.iload_n 3, 1) := by decide +kernel
theorem dX8_runs_21 : decode cX8_runs 21 = .ok (.invokevirtual 140, 3) := by decide +kernel
theorem dX8_runs_24 : decode cX8_runs 24 = .ok (.ifCond .eq 8, 3) := by decide +kernel
theorem dX8_runs_27 : decode cX8_runs 27 = .ok (.iload_n 3, 1) := by decide +kernel
theorem dX8_runs_28 : decode cX8_runs 28 = .ok (.iload_n 2, 1) := by decide +kernel
theorem dX8_runs_29 : decode cX8_runs 29 = .ok (.if_icmp .ge 6, 3) := by decide +kernel
theorem dX8_runs_32 : decode cX8_runs 32 = .ok (.bipush (-2), 2) := by decide +kernel
theorem dX8_runs_34 : decode cX8_runs 34 = .ok (.ireturn, 1) := by decide +kernel
theorem dX8_runs_35 : decode cX8_runs 35 = .ok (.aload_n 0, 1) := by decide +kernel
theorem dX8_runs_36 : decode cX8_runs 36 = .ok (.getfield 48, 3) := by decide +kernel
theorem dX8_runs_39 : decode cX8_runs 39 = .ok (.iload_n 2, 1) := by decide +kernel
theorem dX8_runs_40 : decode cX8_runs 40 = .ok (.iload_n 3, 1) := by decide +kernel
theorem dX8_runs_41 : decode cX8_runs 41 = .ok (.invokevirtual 208, 3) := by decide +kernel
theorem dX8_runs_44 : decode cX8_runs 44 = .ok (.aload_n 0, 1) := by decide +kernel
theorem dX8_runs_45 : decode cX8_runs 45 = .ok (.getfield 7, 3) := by decide +kernel
theorem dX8_runs_48 : decode cX8_runs 48 = .ok (.iconst 1, 1) := by decide +kernel
theorem dX8_runs_49 : decode cX8_runs 49 = .ok (.iaload, 1) := by decide +kernel
theorem dX8_runs_50 : decode cX8_runs 50 = .ok (.iload_n 1, 1) := by decide +kernel
theorem dX8_runs_51 : decode cX8_runs 51 = .ok (.isub, 1) := by decide +kernel
theorem dX8_runs_52 : decode cX8_runs 52 = .ok (.if_icmp .gt 7, 3) := by decide +kernel
theorem dX8_runs_55 : decode cX8_runs 55 = .ok (.iconst 1, 1) := by decide +kernel
theorem dX8_runs_56 : decode cX8_runs 56 = .ok (.goto 4, 3) := by decide +kernel
theorem dX8_runs_59 : decode cX8_runs 59 = .ok (.iconst 0, 1) := by decide +kernel
theorem dX8_runs_60 : decode cX8_runs 60 = .ok (.ireturn, 1) := by decide +kernel
theorem dX8_lifts_0 : decode cX8_lifts 0 = .ok (.iconst 0, 1) := by decide +kernel
theorem dX8_lifts_1 : decode cX8_lifts 1 = .ok (.aload_n 0, 1) := by decide +kernel
theorem dX8_lifts_2 : decode cX8_lifts 2 = .ok (.getfield 7, 3) := by decide +kernel
theorem dX8_lifts_5 : decode cX8_lifts 5 = .ok (.iconst 1, 1) := by decide +kernel
theorem dX8_lifts_6 : decode cX8_lifts 6 = .ok (.iaload, 1) := by decide +kernel
theorem dX8_lifts_7 : decode cX8_lifts 7 = .ok (.aload_n 0, 1) := by decide +kernel
theorem dX8_lifts_8 : decode cX8_lifts 8 = .ok (.getfield 48, 3) := by decide +kernel
theorem dX8_lifts_11 : decode cX8_lifts 11 = .ok (.iconst 0, 1) := by decide +kernel
theorem dX8_lifts_12 : decode cX8_lifts 12 = .ok (.aload_n 0, 1) := by decide +kernel
theorem dX8_lifts_13 : decode cX8_lifts 13 = .ok (.getfield 23, 3) := by decide +kernel
theorem dX8_lifts_16 : decode cX8_lifts 16 = .ok (.getfield 152, 3) := by decide +kernel
theorem dX8_lifts_19 : decode cX8_lifts 19 = .ok (.invokevirtual 208, 3) := by decide +kernel
theorem dX8_lifts_22 : decode cX8_lifts 22 = .ok (.isub, 1) := by decide +kernel
theorem dX8_lifts_23 : decode cX8_lifts 23 = .ok (.invokestatic 211, 3) := by decide +kernel
theorem dX8_lifts_26 : decode cX8_lifts 26 = .ok (.ireturn, 1) := by decide +kernel
theorem dX8_longest_0 : decode cX8_longest 0 = .ok (.iload_n 1, 1) := by decide +kernel
theorem dX8_longest_1 : decode cX8_longest 1 = .ok (.iconst 1, 1) := by decide +kernel
theorem dX8_longest_2 : decode cX8_longest 2 = .ok (.sipush 999, 3) := by decide +kernel
theorem dX8_longest_5 : decode cX8_longest 5 = .ok (.invokestatic 79, 3) := by decide +kernel
theorem dX8_longest_8 : decode cX8_longest 8 = .ok (.ifCond .eq 12, 3) := by decide +kernel
theorem dX8_longest_11 : decode cX8_longest 11 = .ok (.iload_n 2, 1) := by decide +kernel
theorem dX8_longest_12 : decode cX8_longest 12 = .ok (.iconst 0, 1) := by decide +kernel
theorem dX8_longest_13 : decode cX8_longest 13 = .ok (.iconst 1, 1) := by decide +kernel
theorem dX8_longest_14 : decode cX8_longest 14 = .ok (.invokestatic 79, 3) := by decide +kernel
theorem dX8_longest_17 : decode cX8_longest 17 = .ok (.ifCond .ne 6, 3) := by decide +kernel
theorem dX8_longest_20 : decode cX8_longest 20 = .ok (.bipush (-2), 2) := by decide +kernel
theorem dX8_longest_22 : decode cX8_longest 22 = .ok (.ireturn, 1) := by decide +kernel
theorem dX8_longest_23 : decode cX8_longest 23 = .ok (.iconst 0, 1) := by decide +kernel
theorem dX8_longest_24 : decode cX8_longest 24 = .ok (.istore_n 3, 1) := by decide +kernel
theorem dX8_longest_25 : decode cX8_longest 25 = .ok (.iconst (-1), 1) := by decide +kernel
theorem dX8_longest_26 : decode cX8_longest 26 = .ok (.istore 4, 2) := by decide +kernel
theorem dX8_longest_28 : decode cX8_longest 28 = .ok (.iconst 0, 1) := by decide +kernel
theorem dX8_longest_29 : decode cX8_longest 29 = .ok (.istore 5, 2) := by decide +kernel
theorem dX8_longest_31 : decode cX8_longest 31 = .ok (.iload 5, 2) := by decide +kernel
theorem dX8_longest_33 : decode cX8_longest 33 = .ok (.aload_n 0, 1) := by decide +kernel
theorem dX8_longest_34 : decode cX8_longest 34 = .ok (.getfield 23, 3) := by decide +kernel
theorem dX8_longest_37 : decode cX8_longest 37 = .ok (.getfield 152, 3) := by decide +kernel
theorem dX8_longest_40 : decode cX8_longest 40 = .ok (.if_icmp .gt 48, 3) := by decide +kernel
theorem dX8_longest_43 : decode cX8_longest 43 = .ok (.aload_n 0, 1) := by decide +kernel
theorem dX8_longest_44 : decode cX8_longest 44 = .ok (.getfield 48, 3) := by decide +kernel
theorem dX8_longest_47 : decode cX8_longest 47 = .ok (.iload 5, 2) := by decide +kernel
theorem dX8_longest_49 : decode cX8_longest 49 = .ok (.aload_n 0, 1) := by decide +kernel
theorem dX8_longest_50 : decode cX8_longest 50 = .ok (.getfield 23, 3) := by decide +kernel
theorem dX8_longest_53 : decode cX8_longest 53 = .ok (.getfield 152, 3) := by decide +kernel
theorem dX8_longest_56 : decode cX8_longest 56 = .ok (.aload_n 0, 1) := by decide +kernel
theorem dX8_longest_57 : decode cX8_longest 57 = .ok (.getfield 7, 3) := by decide +kernel
theorem dX8_longest_60 : decode cX8_longest 60 = .ok (.iconst 1, 1) := by decide +kernel
theorem dX8_longest_61 : decode cX8_longest 61 = .ok (.iaload, 1) := by decide +kernel
theorem dX8_longest_62 : decode cX8_longest 62 = .ok (.iload_n 1, 1) := by decide +kernel
theorem dX8_longest_63 : decode cX8_longest 63 = .ok (.isub, 1) := by decide +kernel
theorem dX8_longest_64 : decode cX8_longest 64 = .ok (.invokevirtual 214, 3) := by decide +kernel
theorem dX8_longest_67 : decode cX8_longest 67 = .ok (.istore 6, 2) := by decide +kernel
theorem dX8_longest_69 : decode cX8_longest 69 = .ok (.iload 6, 2) := by decide +kernel
theorem dX8_longest_71 : decode cX8_longest 71 = .ok (.iload_n 3, 1) := by decide +kernel
theorem dX8_longest_72 : decode cX8_longest 72 = .ok (.if_icmp .le 10, 3) := by decide +kernel
theorem dX8_longest_75 : decode cX8_longest 75 = .ok (.iload 6, 2) := by decide +kernel
theorem dX8_longest_77 : decode cX8_longest 77 = .ok (.istore_n 3, 1) := by decide +kernel
theorem dX8_longest_78 : decode cX8_longest 78 = .ok (.iload 5, 2) := by decide +kernel
theorem dX8_longest_80 : decode cX8_longest 80 = .ok (.istore 4, 2) := by decide +kernel
theorem dX8_longest_82 : decode cX8_longest 82 = .ok (.iinc 5 1, 3) := by decide +kernel
theorem dX8_longest_85 : decode cX8_longest 85 = .ok (.goto (-54), 3) := by decide +kernel
theorem dX8_longest_88 : decode cX8_longest 88 = .ok (.iload_n 2, 1) := by decide +kernel
theorem dX8_longest_89 : decode cX8_longest 89 = .ok (.ifCond .ne 7, 3) := by decide +kernel
theorem dX8_longest_92 : decode cX8_longest 92 = .ok (.iload_n 3, 1) := by decide +kernel
theorem dX8_longest_93 : decode cX8_longest 93 = .ok (.goto 5, 3) := by decide +kernel
theorem dX8_longest_96 : decode cX8_longest 96 = .ok (.iload 4, 2) := by decide +kernel
theorem dX8_longest_98 : decode cX8_longest 98 = .ok (.ireturn, 1) := by decide +kernel
theorem dX8_mended_0 : decode cX8_mended 0 = .ok (.iload_n 1, 1) := by decide +kernel
theorem dX8_mended_1 : decode cX8_mended 1 = .ok (.iconst 0, 1) := by decide +kernel
theorem dX8_mended_2 : decode cX8_mended 2 = .ok (.sipush 1023, 3) := by decide +kernel
theorem dX8_mended_5 : decode cX8_mended 5 = .ok (.invokestatic 79, 3) := by decide +kernel
theorem dX8_mended_8 : decode cX8_mended 8 = .ok (.ifCond .eq 16, 3) := by decide +kernel
theorem dX8_mended_11 : decode cX8_mended 11 = .ok (.iload_n 2, 1) := by decide +kernel
theorem dX8_mended_12 : decode cX8_mended 12 = .ok (.iconst (-1), 1) := by decide +kernel
theorem dX8_mended_13 : decode cX8_mended 13 = .ok (.if_icmp .eq 14, 3) := by decide +kernel
theorem dX8_mended_16 : decode cX8_mended 16 = .ok (.aload_n 0, 1) := by decide +kernel
theorem dX8_mended_17 : decode cX8_mended 17 = .ok (.iload_n 2, 1) := by decide +kernel
theorem dX8_mended_18 : decode cX8_mended 18 = .ok (.invokevirtual 104, 3) := by decide +kernel
theorem dX8_mended_21 : decode cX8_mended 21 = .ok (.ifCond .ne 6, 3) := by decide +kernel
theorem dX8_mended_24 : decode cX8_mended 24 = .ok (.ldc 107, 2) := by decide +kernel
theorem dX8_mended_26 : decode cX8_mended 26 = .ok (.ireturn, 1) := by decide +kernel
theorem dX8_mended_27 : decode cX8_mended 27 = .ok (.aload_n 0, 1) := by decide +kernel
theorem dX8_mended_28 : decode cX8_mended 28 = .ok (.getfield 55, 3) := by decide +kernel
theorem dX8_mended_31 : decode cX8_mended 31 = .ok (.aload_n 0, 1) := by decide +kernel
theorem dX8_mended_32 : decode cX8_mended 32 = .ok (.getfield 32, 3) := by decide +kernel
theorem dX8_mended_35 : decode cX8_mended 35 = .ok (.iload_n 1, 1) := by decide +kernel
theorem dX8_mended_36 : decode cX8_mended 36 = .ok (.aload_n 0, 1) := by decide +kernel
theorem dX8_mended_37 : decode cX8_mended 37 = .ok (.getfield 7, 3) := by decide +kernel
theorem dX8_mended_40 : decode cX8_mended 40 = .ok (.iconst 2, 1) := by decide +kernel
theorem dX8_mended_41 : decode cX8_mended 41 = .ok (.iaload, 1) := by decide +kernel
theorem dX8_mended_42 : decode cX8_mended 42 = .ok (.aload_n 0, 1) := by decide +kernel
theorem dX8_mended_43 : decode cX8_mended 43 = .ok (.getfield 7, 3) := by decide +kernel
theorem dX8_mended_46 : decode cX8_mended 46 = .ok (.iconst 3, 1) := by decide +kernel
theorem dX8_mended_47 : decode cX8_mended 47 = .ok (.iaload, 1) := by decide +kernel
theorem dX8_mended_48 : decode cX8_mended 48 = .ok (.invokevirtual 217, 3) := by decide +kernel
theorem dX8_mended_51 : decode cX8_mended 51 = .ok (.istore_n 3, 1) := by decide +kernel
theorem dX8_mended_52 : decode cX8_mended 52 = .ok (.iload_n 2, 1) := by decide +kernel
theorem dX8_mended_53 : decode cX8_mended 53 = .ok (.iconst (-1), 1) := by decide +kernel
theorem dX8_mended_54 : decode cX8_mended 54 = .ok (.if_icmp .ne 5, 3) := by decide +kernel
theorem dX8_mended_57 : decode cX8_mended 57 = .ok (.iload_n 3, 1) := by decide +kernel
theorem dX8_mended_58 : decode cX8_mended 58 = .ok (.ireturn, 1) := by decide +kernel
theorem dX8_mended_59 : decode cX8_mended 59 = .ok (.iload_n 3, 1) := by decide +kernel
theorem dX8_mended_60 : decode cX8_mended 60 = .ok (.iconst (-1), 1) := by decide +kernel
theorem dX8_mended_61 : decode cX8_mended 61 = .ok (.if_icmp .ne 8, 3) := by decide +kernel
theorem dX8_mended_64 : decode cX8_mended 64 = .ok (.ldc 221, 2) := by decide +kernel
theorem dX8_mended_66 : decode cX8_mended 66 = .ok (.goto 12, 3) := by decide +kernel
theorem dX8_mended_69 : decode cX8_mended 69 = .ok (.aload_n 0, 1) := by decide +kernel
theorem dX8_mended_70 : decode cX8_mended 70 = .ok (.getfield 55, 3) := by decide +kernel
theorem dX8_mended_73 : decode cX8_mended 73 = .ok (.getfield 222, 3) := by decide +kernel
theorem dX8_mended_76 : decode cX8_mended 76 = .ok (.iload_n 2, 1) := by decide +kernel
theorem dX8_mended_77 : decode cX8_mended 77 = .ok (.iaload, 1) := by decide +kernel
theorem dX8_mended_78 : decode cX8_mended 78 = .ok (.ireturn, 1) := by decide +kernel
theorem dX8_next_0 : decode cX8_next 0 = .ok (.iload_n 1, 1) := by decide +kernel
theorem dX8_next_1 : decode cX8_next 1 = .ok (.iconst 1, 1) := by decide +kernel
theorem dX8_next_2 : decode cX8_next 2 = .ok (.sipush 9999, 3) := by decide +kernel
theorem dX8_next_5 : decode cX8_next 5 = .ok (.invokestatic 79, 3) := by decide +kernel
theorem dX8_next_8 : decode cX8_next 8 = .ok (.ifCond .eq 12, 3) := by decide +kernel
theorem dX8_next_11 : decode cX8_next 11 = .ok (.iload_n 2, 1) := by decide +kernel
theorem dX8_next_12 : decode cX8_next 12 = .ok (.iconst 0, 1) := by decide +kernel
theorem dX8_next_13 : decode cX8_next 13 = .ok (.iconst 1, 1) := by decide +kernel
theorem dX8_next_14 : decode cX8_next 14 = .ok (.invokestatic 79, 3) := by decide +kernel
theorem dX8_next_17 : decode cX8_next 17 = .ok (.ifCond .ne 6, 3) := by decide +kernel
theorem dX8_next_20 : decode cX8_next 20 = .ok (.bipush (-2), 2) := by decide +kernel
theorem dX8_next_22 : decode cX8_next 22 = .ok (.ireturn, 1) := by decide +kernel
theorem dX8_next_23 : decode cX8_next 23 = .ok (.iconst 0, 1) := by decide +kernel
theorem dX8_next_24 : decode cX8_next 24 = .ok (.istore_n 3, 1) := by decide +kernel
theorem dX8_next_25 : decode cX8_next 25 = .ok (.iconst 1, 1) := by decide +kernel
theorem dX8_next_26 : decode cX8_next 26 = .ok (.istore 4, 2) := by decide +kernel
theorem dX8_next_28 : decode cX8_next 28 = .ok (.iload 4, 2) := by decide +kernel
theorem dX8_next_30 : decode cX8_next 30 = .ok (.bipush 9, 2) := by decide +kernel
theorem dX8_next_32 : decode cX8_next 32 = .ok (.if_icmp .ge 28, 3) := by decide +kernel
theorem dX8_next_35 : decode cX8_next 35 = .ok (.aload_n 0, 1) := by decide +kernel
theorem dX8_next_36 : decode cX8_next 36 = .ok (.iload_n 1, 1) := by decide +kernel
theorem dX8_next_37 : decode cX8_next 37 = .ok (.iload 4, 2) := by decide +kernel
theorem dX8_next_39 : decode cX8_next 39 = .ok (.invokevirtual 225, 3) := by decide +kernel
theorem dX8_next_42 : decode cX8_next 42 = .ok (.aload_n 0, 1) := by decide +kernel
theorem dX8_next_43 : decode cX8_next 43 = .ok (.iload_n 1, 1) := by decide +kernel
theorem dX8_next_44 : decode cX8_next 44 = .ok (.iload_n 3, 1) := by decide +kernel
theorem dX8_next_45 : decode cX8_next 45 = .ok (.invokevirtual 225, 3) := by decide +kernel
theorem dX8_next_48 : decode cX8_next 48 = .ok (.if_icmp .ge 6, 3) := by decide +kernel
theorem dX8_next_51 : decode cX8_next 51 = .ok (.iload 4, 2) := by decide +kernel
theorem dX8_next_53 : decode cX8_next 53 = .ok (.istore_n 3, 1) := by decide +kernel
theorem dX8_next_54 : decode cX8_next 54 = .ok (.iinc 4 1, 3) := by decide +kernel
theorem dX8_next_57 : decode cX8_next 57 = .ok (.goto (-29), 3) := by decide +kernel
theorem dX8_next_60 : decode cX8_next 60 = .ok (.iload_n 2, 1) := by decide +kernel
theorem dX8_next_61 : decode cX8_next 61 = .ok (.ifCond .ne 7, 3) := by decide +kernel
theorem dX8_next_64 : decode cX8_next 64 = .ok (.iload_n 3, 1) := by decide +kernel
theorem dX8_next_65 : decode cX8_next 65 = .ok (.goto 9, 3) := by decide +kernel
theorem dX8_next_68 : decode cX8_next 68 = .ok (.aload_n 0, 1) := by decide +kernel
theorem dX8_next_69 : decode cX8_next 69 = .ok (.iload_n 1, 1) := by decide +kernel
theorem dX8_next_70 : decode cX8_next 70 = .ok (.iload_n 3, 1) := by decide +kernel
theorem dX8_next_71 : decode cX8_next 71 = .ok (.invokevirtual 225, 3) := by decide +kernel
theorem dX8_next_74 : decode cX8_next 74 = .ok (.ireturn, 1) := by decide +kernel
theorem dX8_weigh_0 : decode cX8_weigh 0 = .ok (.iload_n 1, 1) := by decide +kernel
theorem dX8_weigh_1 : decode cX8_weigh 1 = .ok (.invokestatic 131, 3) := by decide +kernel
theorem dX8_weigh_4 : decode cX8_weigh 4 = .ok (.ifCond .eq 13, 3) := by decide +kernel
theorem dX8_weigh_7 : decode cX8_weigh 7 = .ok (.iload_n 2, 1) := by decide +kernel
theorem dX8_weigh_8 : decode cX8_weigh 8 = .ok (.iconst 0, 1) := by decide +kernel
theorem dX8_weigh_9 : decode cX8_weigh 9 = .ok (.bipush 99, 2) := by decide +kernel
theorem dX8_weigh_11 : decode cX8_weigh 11 = .ok (.invokestatic 79, 3) := by decide +kernel
theorem dX8_weigh_14 : decode cX8_weigh 14 = .ok (.ifCond .ne 6, 3) := by decide +kernel
theorem dX8_weigh_17 : decode cX8_weigh 17 = .ok (.bipush (-2), 2) := by decide +kernel
theorem dX8_weigh_19 : decode cX8_weigh 19 = .ok (.ireturn, 1) := by decide +kernel
theorem dX8_weigh_20 : decode cX8_weigh 20 = .ok (.aload_n 0, 1) := by decide +kernel
theorem dX8_weigh_21 : decode cX8_weigh 21 = .ok (.getfield 64, 3) := by decide +kernel
theorem dX8_weigh_24 : decode cX8_weigh 24 = .ok (.getfield 228, 3) := by decide +kernel
theorem dX8_weigh_27 : decode cX8_weigh 27 = .ok (.iload_n 1, 1) := by decide +kernel
theorem dX8_weigh_28 : decode cX8_weigh 28 = .ok (.iaload, 1) := by decide +kernel
theorem dX8_weigh_29 : decode cX8_weigh 29 = .ok (.istore_n 3, 1) := by decide +kernel
theorem dX8_weigh_30 : decode cX8_weigh 30 = .ok (.aload_n 0, 1) := by decide +kernel
theorem dX8_weigh_31 : decode cX8_weigh 31 = .ok (.getfield 64, 3) := by decide +kernel
theorem dX8_weigh_34 : decode cX8_weigh 34 = .ok (.getfield 228, 3) := by decide +kernel
theorem dX8_weigh_37 : decode cX8_weigh 37 = .ok (.iload_n 1, 1) := by decide +kernel
theorem dX8_weigh_38 : decode cX8_weigh 38 = .ok (.iload_n 2, 1) := by decide +kernel
theorem dX8_weigh_39 : decode cX8_weigh 39 = .ok (.iastore, 1) := by decide +kernel
theorem dX8_weigh_40 : decode cX8_weigh 40 = .ok (.iload_n 3, 1) := by decide +kernel
theorem dX8_weigh_41 : decode cX8_weigh 41 = .ok (.ireturn, 1) := by decide +kernel
theorem dX8_bears_0 : decode cX8_bears 0 = .ok (.aload_n 0, 1) := by decide +kernel
theorem dX8_bears_1 : decode cX8_bears 1 = .ok (.iload_n 1, 1) := by decide +kernel
theorem dX8_bears_2 : decode cX8_bears 2 = .ok (.invokevirtual 104, 3) := by decide +kernel
theorem dX8_bears_5 : decode cX8_bears 5 = .ok (.ifCond .eq 22, 3) := by decide +kernel
theorem dX8_bears_8 : decode cX8_bears 8 = .ok (.iload_n 2, 1) := by decide +kernel
theorem dX8_bears_9 : decode cX8_bears 9 = .ok (.invokestatic 75, 3) := by decide +kernel
theorem dX8_bears_12 : decode cX8_bears 12 = .ok (.ifCond .eq 15, 3) := by decide +kernel
theorem dX8_bears_15 : decode cX8_bears 15 = .ok (.aload_n 0, 1) := by decide +kernel
theorem dX8_bears_16 : decode cX8_bears 16 = .ok (.getfield 64, 3) := by decide +kernel
theorem dX8_bears_19 : decode cX8_bears 19 = .ok (.iload_n 1, 1) := by decide +kernel
theorem dX8_bears_20 : decode cX8_bears 20 = .ok (.iload_n 2, 1) := by decide +kernel
theorem dX8_bears_21 : decode cX8_bears 21 = .ok (.invokevirtual 231, 3) := by decide +kernel
theorem dX8_bears_24 : decode cX8_bears 24 = .ok (.goto 5, 3) := by decide +kernel
theorem dX8_bears_27 : decode cX8_bears 27 = .ok (.bipush (-2), 2) := by decide +kernel
theorem dX8_bears_29 : decode cX8_bears 29 = .ok (.ireturn, 1) := by decide +kernel
theorem dX8_safe_0 : decode cX8_safe 0 = .ok (.iload_n 1, 1) := by decide +kernel
theorem dX8_safe_1 : decode cX8_safe 1 = .ok (.invokestatic 75, 3) := by decide +kernel
theorem dX8_safe_4 : decode cX8_safe 4 = .ok (.ifCond .eq 14, 3) := by decide +kernel
theorem dX8_safe_7 : decode cX8_safe 7 = .ok (.aload_n 0, 1) := by decide +kernel
theorem dX8_safe_8 : decode cX8_safe 8 = .ok (.getfield 64, 3) := by decide +kernel
theorem dX8_safe_11 : decode cX8_safe 11 = .ok (.iload_n 1, 1) := by decide +kernel
theorem dX8_safe_12 : decode cX8_safe 12 = .ok (.invokevirtual 234, 3) := by decide +kernel
theorem dX8_safe_15 : decode cX8_safe 15 = .ok (.goto 5, 3) := by decide +kernel
theorem dX8_safe_18 : decode cX8_safe 18 = .ok (.bipush (-2), 2) := by decide +kernel
theorem dX8_safe_20 : decode cX8_safe 20 = .ok (.ireturn, 1) := by decide +kernel
theorem dX8_more_0 : decode cX8_more 0 = .ok (.aload_n 0, 1) := by decide +kernel
theorem dX8_more_1 : decode cX8_more 1 = .ok (.getfield 23, 3) := by decide +kernel
theorem dX8_more_4 : decode cX8_more 4 = .ok (.getfield 152, 3) := by decide +kernel
theorem dX8_more_7 : decode cX8_more 7 = .ok (.ifCond .ne 7, 3) := by decide +kernel
theorem dX8_more_10 : decode cX8_more 10 = .ok (.iconst (-1), 1) := by decide +kernel
theorem dX8_more_11 : decode cX8_more 11 = .ok (.goto 10, 3) := by decide +kernel
theorem dX8_more_14 : decode cX8_more 14 = .ok (.aload_n 0, 1) := by decide +kernel
theorem dX8_more_15 : decode cX8_more 15 = .ok (.getfield 64, 3) := by decide +kernel
theorem dX8_more_18 : decode cX8_more 18 = .ok (.invokevirtual 237, 3) := by decide +kernel
theorem dX8_more_21 : decode cX8_more 21 = .ok (.ireturn, 1) := by decide +kernel
theorem dX8_stones_0 : decode cX8_stones 0 = .ok (.iload_n 1, 1) := by decide +kernel
theorem dX8_stones_1 : decode cX8_stones 1 = .ok (.iconst 0, 1) := by decide +kernel
theorem dX8_stones_2 : decode cX8_stones 2 = .ok (.iconst 1, 1) := by decide +kernel
theorem dX8_stones_3 : decode cX8_stones 3 = .ok (.invokestatic 79, 3) := by decide +kernel
theorem dX8_stones_6 : decode cX8_stones 6 = .ok (.ifCond .ne 6, 3) := by decide +kernel
theorem dX8_stones_9 : decode cX8_stones 9 = .ok (.bipush (-2), 2) := by decide +kernel
theorem dX8_stones_11 : decode cX8_stones 11 = .ok (.ireturn, 1) := by decide +kernel
theorem dX8_stones_12 : decode cX8_stones 12 = .ok (.iconst 0, 1) := by decide +kernel
theorem dX8_stones_13 : decode cX8_stones 13 = .ok (.istore_n 2, 1) := by decide +kernel
theorem dX8_stones_14 : decode cX8_stones 14 = .ok (.iconst 0, 1) := by decide +kernel
theorem dX8_stones_15 : decode cX8_stones 15 = .ok (.istore_n 3, 1) := by decide +kernel
theorem dX8_stones_16 : decode cX8_stones 16 = .ok (.iload_n 3, 1) := by decide +kernel
theorem dX8_stones_17 : decode cX8_stones 17 = .ok (.aload_n 0, 1) := by decide +kernel
theorem dX8_stones_18 : decode cX8_stones 18 = .ok (.getfield 23, 3) := by decide +kernel
theorem dX8_stones_21 : decode cX8_stones 21 = .ok (.getfield 152, 3) := by decide +kernel
theorem dX8_stones_24 : decode cX8_stones 24 = .ok (.if_icmp .ge 54, 3) := by decide +kernel
theorem dX8_stones_27 : decode cX8_stones 27 = .ok (.aload_n 0, 1) := by decide +kernel
theorem dX8_stones_28 : decode cX8_stones 28 = .ok (.getfield 32, 3) := by decide +kernel
theorem dX8_stones_31 : decode cX8_stones 31 = .ok (.getfield 108, 3) := by decide +kernel
theorem dX8_stones_34 : decode cX8_stones 34 = .ok (.iload_n 3, 1) := by decide +kernel
theorem dX8_stones_35 : decode cX8_stones 35 = .ok (.iaload, 1) := by decide +kernel
theorem dX8_stones_36 : decode cX8_stones 36 = .ok (.invokestatic 241, 3) := by decide +kernel
theorem dX8_stones_39 : decode cX8_stones 39 = .ok (.aload_n 0, 1) := by decide +kernel
theorem dX8_stones_40 : decode cX8_stones 40 = .ok (.getfield 32, 3) := by decide +kernel
theorem dX8_stones_43 : decode cX8_stones 43 = .ok (.iload_n 3, 1) := by decide +kernel
theorem dX8_stones_44 : decode cX8_stones 44 = .ok (.invokevirtual 111, 3) := by decide +kernel
theorem dX8_stones_47 : decode cX8_stones 47 = .ok (.invokestatic 241, 3) := by decide +kernel
theorem dX8_stones_50 : decode cX8_stones 50 = .ok (.isub, 1) := by decide +kernel
theorem dX8_stones_51 : decode cX8_stones 51 = .ok (.istore 4, 2) := by decide +kernel
theorem dX8_stones_53 : decode cX8_stones 53 = .ok (.iload_n 2, 1) := by decide +kernel
theorem dX8_stones_54 : decode cX8_stones 54 = .ok (.iconst 0, 1) := by decide +kernel
theorem dX8_stones_55 : decode cX8_stones 55 = .ok (.iload_n 1, 1) := by decide +kernel
theorem dX8_stones_56 : decode cX8_stones 56 = .ok (.ifCond .ne 8, 3) := by decide +kernel
theorem dX8_stones_59 : decode cX8_stones 59 = .ok (.iload 4, 2) := by decide +kernel
theorem dX8_stones_61 : decode cX8_stones 61 = .ok (.goto 6, 3) := by decide +kernel
theorem dX8_stones_64 : decode cX8_stones 64 = .ok (.iload 4, 2) := by decide +kernel
theorem dX8_stones_66 : decode cX8_stones 66 = .ok (.ineg, 1) := by decide +kernel
theorem dX8_stones_67 : decode cX8_stones 67 = .ok (.invokestatic 211, 3) := by decide +kernel
theorem dX8_stones_70 : decode cX8_stones 70 = .ok (.iadd, 1) := by decide +kernel
theorem dX8_stones_71 : decode cX8_stones 71 = .ok (.istore_n 2, 1) := by decide +kernel
theorem dX8_stones_72 : decode cX8_stones 72 = .ok (.iinc 3 1, 3) := by decide +kernel
theorem dX8_stones_75 : decode cX8_stones 75 = .ok (.goto (-59), 3) := by decide +kernel
theorem dX8_stones_78 : decode cX8_stones 78 = .ok (.iload_n 2, 1) := by decide +kernel
theorem dX8_stones_79 : decode cX8_stones 79 = .ok (.ireturn, 1) := by decide +kernel
theorem dX8_sheet_0 : decode cX8_sheet 0 = .ok (.iload_n 1, 1) := by decide +kernel
theorem dX8_sheet_1 : decode cX8_sheet 1 = .ok (.invokestatic 244, 3) := by decide +kernel
theorem dX8_sheet_4 : decode cX8_sheet 4 = .ok (.ifCond .eq 16, 3) := by decide +kernel
theorem dX8_sheet_7 : decode cX8_sheet 7 = .ok (.iload_n 2, 1) := by decide +kernel
theorem dX8_sheet_8 : decode cX8_sheet 8 = .ok (.invokestatic 247, 3) := by decide +kernel
theorem dX8_sheet_11 : decode cX8_sheet 11 = .ok (.ifCond .eq 9, 3) := by decide +kernel
theorem dX8_sheet_14 : decode cX8_sheet 14 = .ok (.iload_n 3, 1) := by decide +kernel
theorem dX8_sheet_15 : decode cX8_sheet 15 = .ok (.bipush 48, 2) := by decide +kernel
theorem dX8_sheet_17 : decode cX8_sheet 17 = .ok (.if_icmp .le 6, 3) := by decide +kernel
theorem dX8_sheet_20 : decode cX8_sheet 20 = .ok (.bipush (-2), 2) := by decide +kernel
theorem dX8_sheet_22 : decode cX8_sheet 22 = .ok (.ireturn, 1) := by decide +kernel
theorem dX8_sheet_23 : decode cX8_sheet 23 = .ok (.iload_n 3, 1) := by decide +kernel
theorem dX8_sheet_24 : decode cX8_sheet 24 = .ok (.ifCond .ge 9, 3) := by decide +kernel
theorem dX8_sheet_27 : decode cX8_sheet 27 = .ok (.aload_n 0, 1) := by decide +kernel
theorem dX8_sheet_28 : decode cX8_sheet 28 = .ok (.iconst 5, 1) := by decide +kernel
theorem dX8_sheet_29 : decode cX8_sheet 29 = .ok (.invokevirtual 250, 3) := by decide +kernel
theorem dX8_sheet_32 : decode cX8_sheet 32 = .ok (.ireturn, 1) := by decide +kernel
theorem dX8_sheet_33 : decode cX8_sheet 33 = .ok (.aload_n 0, 1) := by decide +kernel
theorem dX8_sheet_34 : decode cX8_sheet 34 = .ok (.getfield 70, 3) := by decide +kernel
theorem dX8_sheet_37 : decode cX8_sheet 37 = .ok (.iload_n 1, 1) := by decide +kernel
theorem dX8_sheet_38 : decode cX8_sheet 38 = .ok (.aaload, 1) := by decide +kernel
theorem dX8_sheet_39 : decode cX8_sheet 39 = .ok (.iload_n 2, 1) := by decide +kernel
theorem dX8_sheet_40 : decode cX8_sheet 40 = .ok (.iload_n 3, 1) := by decide +kernel
theorem dX8_sheet_41 : decode cX8_sheet 41 = .ok (.invokevirtual 253, 3) := by decide +kernel
theorem dX8_sheet_44 : decode cX8_sheet 44 = .ok (.iload_n 3, 1) := by decide +kernel
theorem dX8_sheet_45 : decode cX8_sheet 45 = .ok (.ireturn, 1) := by decide +kernel
theorem dX8_lose_0 : decode cX8_lose 0 = .ok (.aload_n 0, 1) := by decide +kernel
theorem dX8_lose_1 : decode cX8_lose 1 = .ok (.iload_n 1, 1) := by decide +kernel
theorem dX8_lose_2 : decode cX8_lose 2 = .ok (.invokevirtual 181, 3) := by decide +kernel
theorem dX8_lose_5 : decode cX8_lose 5 = .ok (.istore_n 2, 1) := by decide +kernel
theorem dX8_lose_6 : decode cX8_lose 6 = .ok (.iload_n 2, 1) := by decide +kernel
theorem dX8_lose_7 : decode cX8_lose 7 = .ok (.ifCond .eq 5, 3) := by decide +kernel
theorem dX8_lose_10 : decode cX8_lose 10 = .ok (.iload_n 2, 1) := by decide +kernel
theorem dX8_lose_11 : decode cX8_lose 11 = .ok (.ireturn, 1) := by decide +kernel
theorem dX8_lose_12 : decode cX8_lose 12 = .ok (.aload_n 0, 1) := by decide +kernel
theorem dX8_lose_13 : decode cX8_lose 13 = .ok (.getfield 70, 3) := by decide +kernel
theorem dX8_lose_16 : decode cX8_lose 16 = .ok (.iload_n 1, 1) := by decide +kernel
theorem dX8_lose_17 : decode cX8_lose 17 = .ok (.aaload, 1) := by decide +kernel
theorem dX8_lose_18 : decode cX8_lose 18 = .ok (.getfield 184, 3) := by decide +kernel
theorem dX8_lose_21 : decode cX8_lose 21 = .ok (.istore_n 3, 1) := by decide +kernel
theorem dX8_lose_22 : decode cX8_lose 22 = .ok (.aload_n 0, 1) := by decide +kernel
theorem dX8_lose_23 : decode cX8_lose 23 = .ok (.getfield 70, 3) := by decide +kernel
theorem dX8_lose_26 : decode cX8_lose 26 = .ok (.iload_n 1, 1) := by decide +kernel
theorem dX8_lose_27 : decode cX8_lose 27 = .ok (.aaload, 1) := by decide +kernel
theorem dX8_lose_28 : decode cX8_lose 28 = .ok (.iconst (-1), 1) := by decide +kernel
theorem dX8_lose_29 : decode cX8_lose 29 = .ok (.iconst 0, 1) := by decide +kernel
theorem dX8_lose_30 : decode cX8_lose 30 = .ok (.invokevirtual 253, 3) := by decide +kernel
theorem dX8_lose_33 : decode cX8_lose 33 = .ok (.iload_n 3, 1) := by decide +kernel
theorem dX8_lose_34 : decode cX8_lose 34 = .ok (.ireturn, 1) := by decide +kernel
theorem dX8_put_0 : decode cX8_put 0 = .ok (.aload_n 0, 1) := by decide +kernel
theorem dX8_put_1 : decode cX8_put 1 = .ok (.iload_n 1, 1) := by decide +kernel
theorem dX8_put_2 : decode cX8_put 2 = .ok (.iload_n 2, 1) := by decide +kernel
theorem dX8_put_3 : decode cX8_put 3 = .ok (.iload_n 3, 1) := by decide +kernel
theorem dX8_put_4 : decode cX8_put 4 = .ok (.invokevirtual 257, 3) := by decide +kernel
theorem dX8_put_7 : decode cX8_put 7 = .ok (.istore 5, 2) := by decide +kernel
theorem dX8_put_9 : decode cX8_put 9 = .ok (.iload 5, 2) := by decide +kernel
theorem dX8_put_11 : decode cX8_put 11 = .ok (.ifCond .eq 6, 3) := by decide +kernel
theorem dX8_put_14 : decode cX8_put 14 = .ok (.iload 5, 2) := by decide +kernel
theorem dX8_put_16 : decode cX8_put 16 = .ok (.ireturn, 1) := by decide +kernel
theorem dX8_put_17 : decode cX8_put 17 = .ok (.aload_n 0, 1) := by decide +kernel
theorem dX8_put_18 : decode cX8_put 18 = .ok (.getfield 70, 3) := by decide +kernel
theorem dX8_put_21 : decode cX8_put 21 = .ok (.iload_n 1, 1) := by decide +kernel
theorem dX8_put_22 : decode cX8_put 22 = .ok (.aaload, 1) := by decide +kernel
theorem dX8_put_23 : decode cX8_put 23 = .ok (.iload_n 3, 1) := by decide +kernel
theorem dX8_put_24 : decode cX8_put 24 = .ok (.iload 4, 2) := by decide +kernel
theorem dX8_put_26 : decode cX8_put 26 = .ok (.invokevirtual 260, 3) := by decide +kernel
theorem dX8_put_29 : decode cX8_put 29 = .ok (.iconst 1, 1) := by decide +kernel
theorem dX8_put_30 : decode cX8_put 30 = .ok (.ireturn, 1) := by decide +kernel
theorem dX8_get_0 : decode cX8_get 0 = .ok (.aload_n 0, 1) := by decide +kernel
theorem dX8_get_1 : decode cX8_get 1 = .ok (.iload_n 1, 1) := by decide +kernel
theorem dX8_get_2 : decode cX8_get 2 = .ok (.iload_n 2, 1) := by decide +kernel
theorem dX8_get_3 : decode cX8_get 3 = .ok (.iload_n 3, 1) := by decide +kernel
theorem dX8_get_4 : decode cX8_get 4 = .ok (.invokevirtual 257, 3) := by decide +kernel
theorem dX8_get_7 : decode cX8_get 7 = .ok (.ifCond .eq 9, 3) := by decide +kernel
theorem dX8_get_10 : decode cX8_get 10 = .ok (.ldc_w 265, 3) := by decide +kernel
theorem dX8_get_13 : decode cX8_get 13 = .ok (.goto 14, 3) := by decide +kernel
theorem dX8_get_16 : decode cX8_get 16 = .ok (.aload_n 0, 1) := by decide +kernel
theorem dX8_get_17 : decode cX8_get 17 = .ok (.getfield 70, 3) := by decide +kernel
theorem dX8_get_20 : decode cX8_get 20 = .ok (.iload_n 1, 1) := by decide +kernel
theorem dX8_get_21 : decode cX8_get 21 = .ok (.aaload, 1) := by decide +kernel
theorem dX8_get_22 : decode cX8_get 22 = .ok (.getfield 191, 3) := by decide +kernel
theorem dX8_get_25 : decode cX8_get 25 = .ok (.iload_n 3, 1) := by decide +kernel
theorem dX8_get_26 : decode cX8_get 26 = .ok (.iaload, 1) := by decide +kernel
theorem dX8_get_27 : decode cX8_get 27 = .ok (.ireturn, 1) := by decide +kernel
theorem dX8_copy_0 : decode cX8_copy 0 = .ok (.iload_n 1, 1) := by decide +kernel
theorem dX8_copy_1 : decode cX8_copy 1 = .ok (.invokestatic 244, 3) := by decide +kernel
theorem dX8_copy_4 : decode cX8_copy 4 = .ok (.ifCond .eq 10, 3) := by decide +kernel
theorem dX8_copy_7 : decode cX8_copy 7 = .ok (.iload_n 3, 1) := by decide +kernel
theorem dX8_copy_8 : decode cX8_copy 8 = .ok (.invokestatic 244, 3) := by decide +kernel
theorem dX8_copy_11 : decode cX8_copy 11 = .ok (.ifCond .ne 6, 3) := by decide +kernel
theorem dX8_copy_14 : decode cX8_copy 14 = .ok (.bipush (-2), 2) := by decide +kernel
theorem dX8_copy_16 : decode cX8_copy 16 = .ok (.ireturn, 1) := by decide +kernel
theorem dX8_copy_17 : decode cX8_copy 17 = .ok (.aload_n 0, 1) := by decide +kernel
theorem dX8_copy_18 : decode cX8_copy 18 = .ok (.getfield 70, 3) := by decide +kernel
theorem dX8_copy_21 : decode cX8_copy 21 = .ok (.iload_n 1, 1) := by decide +kernel
theorem dX8_copy_22 : decode cX8_copy 22 = .ok (.aaload, 1) := by decide +kernel
theorem dX8_copy_23 : decode cX8_copy 23 = .ok (.astore 6, 2) := by decide +kernel
theorem dX8_copy_25 : decode cX8_copy 25 = .ok (.aload_n 0, 1) := by decide +kernel
theorem dX8_copy_26 : decode cX8_copy 26 = .ok (.getfield 70, 3) := by decide +kernel
theorem dX8_copy_29 : decode cX8_copy 29 = .ok (.iload_n 3, 1) := by decide +kernel
theorem dX8_copy_30 : decode cX8_copy 30 = .ok (.aaload, 1) := by decide +kernel
theorem dX8_copy_31 : decode cX8_copy 31 = .ok (.astore 7, 2) := by decide +kernel
theorem dX8_copy_33 : decode cX8_copy 33 = .ok (.aload 6, 2) := by decide +kernel
theorem dX8_copy_35 : decode cX8_copy 35 = .ok (.invokevirtual 266, 3) := by decide +kernel
theorem dX8_copy_38 : decode cX8_copy 38 = .ok (.ifCond .ne 11, 3) := by decide +kernel
theorem dX8_copy_41 : decode cX8_copy 41 = .ok (.aload 7, 2) := by decide +kernel
theorem dX8_copy_43 : decode cX8_copy 43 = .ok (.invokevirtual 266, 3) := by decide +kernel
theorem dX8_copy_46 : decode cX8_copy 46 = .ok (.ifCond .eq 9, 3) := by decide +kernel
theorem dX8_copy_49 : decode cX8_copy 49 = .ok (.aload_n 0, 1) := by decide +kernel
theorem dX8_copy_50 : decode cX8_copy 50 = .ok (.iconst 1, 1) := by decide +kernel
theorem dX8_copy_51 : decode cX8_copy 51 = .ok (.invokevirtual 250, 3) := by decide +kernel
theorem dX8_copy_54 : decode cX8_copy 54 = .ok (.ireturn, 1) := by decide +kernel
theorem dX8_copy_55 : decode cX8_copy 55 = .ok (.aload 6, 2) := by decide +kernel
theorem dX8_copy_57 : decode cX8_copy 57 = .ok (.getfield 270, 3) := by decide +kernel
theorem dX8_copy_60 : decode cX8_copy 60 = .ok (.aload 7, 2) := by decide +kernel
theorem dX8_copy_62 : decode cX8_copy 62 = .ok (.getfield 270, 3) := by decide +kernel
theorem dX8_copy_65 : decode cX8_copy 65 = .ok (.if_icmp .eq 9, 3) := by decide +kernel
theorem dX8_copy_68 : decode cX8_copy 68 = .ok (.aload_n 0, 1) := by decide +kernel
theorem dX8_copy_69 : decode cX8_copy 69 = .ok (.iconst 4, 1) := by decide +kernel
theorem dX8_copy_70 : decode cX8_copy 70 = .ok (.invokevirtual 250, 3) := by decide +kernel
theorem dX8_copy_73 : decode cX8_copy 73 = .ok (.ireturn, 1) := by decide +kernel
theorem dX8_copy_74 : decode cX8_copy 74 = .ok (.aload 6, 2) := by decide +kernel
theorem dX8_copy_76 : decode cX8_copy 76 = .ok (.iload_n 2, 1) := by decide +kernel
theorem dX8_copy_77 : decode cX8_copy 77 = .ok (.iload 5, 2) := by decide +kernel
theorem dX8_copy_79 : decode cX8_copy 79 = .ok (.invokevirtual 273, 3) := by decide +kernel
theorem dX8_copy_82 : decode cX8_copy 82 = .ok (.ifCond .eq 15, 3) := by decide +kernel
theorem dX8_copy_85 : decode cX8_copy 85 = .ok (.aload 7, 2) := by decide +kernel
theorem dX8_copy_87 : decode cX8_copy 87 = .ok (.iload 4, 2) := by decide +kernel
theorem dX8_copy_89 : decode cX8_copy 89 = .ok (.iload 5, 2) := by decide +kernel
theorem dX8_copy_91 : decode cX8_copy 91 = .ok (.invokevirtual 273, 3) := by decide +kernel
theorem dX8_copy_94 : decode cX8_copy 94 = .ok (.ifCond .ne 9, 3) := by decide +kernel
theorem dX8_copy_97 : decode cX8_copy 97 = .ok (.aload_n 0, 1) := by decide +kernel
theorem dX8_copy_98 : decode cX8_copy 98 = .ok (.iconst 2, 1) := by decide +kernel
theorem dX8_copy_99 : decode cX8_copy 99 = .ok (.invokevirtual 250, 3) := by decide +kernel
theorem dX8_copy_102 : decode cX8_copy 102 = .ok (.ireturn, 1) := by decide +kernel
theorem dX8_copy_103 : decode cX8_copy 103 = .ok (.aload 6, 2) := by decide +kernel
theorem dX8_copy_105 : decode cX8_copy 105 = .ok (.getfield 191, 3) := by decide +kernel
theorem dX8_copy_108 : decode cX8_copy 108 = .ok (.iload_n 2, 1) := by decide +kernel
theorem dX8_copy_109 : decode cX8_copy 109 = .ok (.aload 7, 2) := by decide +kernel
theorem dX8_copy_111 : decode cX8_copy 111 = .ok (.getfield 191, 3) := by decide +kernel
theorem dX8_copy_114 : decode cX8_copy 114 = .ok (.iload 4, 2) := by decide +kernel
theorem dX8_copy_116 : decode cX8_copy 116 = .ok (.iload 5, 2) := by decide +kernel
theorem dX8_copy_118 : decode cX8_copy 118 = .ok (.invokestatic 277, 3) := by decide +kernel
theorem dX8_copy_121 : decode cX8_copy 121 = .ok (.iconst 1, 1) := by decide +kernel
theorem dX8_copy_122 : decode cX8_copy 122 = .ok (.ireturn, 1) := by decide +kernel
theorem dX8_write_0 : decode cX8_write 0 = .ok (.aload_n 0, 1) := by decide +kernel
theorem dX8_write_1 : decode cX8_write 1 = .ok (.iload_n 1, 1) := by decide +kernel
theorem dX8_write_2 : decode cX8_write 2 = .ok (.invokevirtual 181, 3) := by decide +kernel
theorem dX8_write_5 : decode cX8_write 5 = .ok (.istore_n 2, 1) := by decide +kernel
theorem dX8_write_6 : decode cX8_write 6 = .ok (.iload_n 2, 1) := by decide +kernel
theorem dX8_write_7 : decode cX8_write 7 = .ok (.ifCond .eq 5, 3) := by decide +kernel
theorem dX8_write_10 : decode cX8_write 10 = .ok (.iload_n 2, 1) := by decide +kernel
theorem dX8_write_11 : decode cX8_write 11 = .ok (.ireturn, 1) := by decide +kernel
theorem dX8_write_12 : decode cX8_write 12 = .ok (.aload_n 0, 1) := by decide +kernel
theorem dX8_write_13 : decode cX8_write 13 = .ok (.getfield 70, 3) := by decide +kernel
theorem dX8_write_16 : decode cX8_write 16 = .ok (.iload_n 1, 1) := by decide +kernel
theorem dX8_write_17 : decode cX8_write 17 = .ok (.aaload, 1) := by decide +kernel
theorem dX8_write_18 : decode cX8_write 18 = .ok (.getfield 184, 3) := by decide +kernel
theorem dX8_write_21 : decode cX8_write 21 = .ok (.aload_n 0, 1) := by decide +kernel
theorem dX8_write_22 : decode cX8_write 22 = .ok (.getfield 23, 3) := by decide +kernel
theorem dX8_write_25 : decode cX8_write 25 = .ok (.getfield 152, 3) := by decide +kernel
theorem dX8_write_28 : decode cX8_write 28 = .ok (.invokestatic 187, 3) := by decide +kernel
theorem dX8_write_31 : decode cX8_write 31 = .ok (.istore_n 3, 1) := by decide +kernel
theorem dX8_write_32 : decode cX8_write 32 = .ok (.iconst 0, 1) := by decide +kernel
theorem dX8_write_33 : decode cX8_write 33 = .ok (.istore 4, 2) := by decide +kernel
theorem dX8_write_35 : decode cX8_write 35 = .ok (.iload 4, 2) := by decide +kernel
theorem dX8_write_37 : decode cX8_write 37 = .ok (.iload_n 3, 1) := by decide +kernel
theorem dX8_write_38 : decode cX8_write 38 = .ok (.if_icmp .ge 29, 3) := by decide +kernel
theorem dX8_write_41 : decode cX8_write 41 = .ok (.aload_n 0, 1) := by decide +kernel
theorem dX8_write_42 : decode cX8_write 42 = .ok (.getfield 70, 3) := by decide +kernel
theorem dX8_write_45 : decode cX8_write 45 = .ok (.iload_n 1, 1) := by decide +kernel
theorem dX8_write_46 : decode cX8_write 46 = .ok (.aaload, 1) := by decide +kernel
theorem dX8_write_47 : decode cX8_write 47 = .ok (.iload 4, 2) := by decide +kernel
theorem dX8_write_49 : decode cX8_write 49 = .ok (.aload_n 0, 1) := by decide +kernel
theorem dX8_write_50 : decode cX8_write 50 = .ok (.getfield 32, 3) := by decide +kernel
theorem dX8_write_53 : decode cX8_write 53 = .ok (.iload 4, 2) := by decide +kernel
theorem dX8_write_55 : decode cX8_write 55 = .ok (.invokevirtual 111, 3) := by decide +kernel
theorem dX8_write_58 : decode cX8_write 58 = .ok (.invokevirtual 260, 3) := by decide +kernel
theorem dX8_write_61 : decode cX8_write 61 = .ok (.iinc 4 1, 3) := by decide +kernel
theorem dX8_write_64 : decode cX8_write 64 = .ok (.goto (-29), 3) := by decide +kernel
theorem dX8_write_67 : decode cX8_write 67 = .ok (.iload_n 3, 1) := by decide +kernel
theorem dX8_write_68 : decode cX8_write 68 = .ok (.ireturn, 1) := by decide +kernel
theorem dX8_count_0 : decode cX8_count 0 = .ok (.iload_n 1, 1) := by decide +kernel
theorem dX8_count_1 : decode cX8_count 1 = .ok (.tableswitch 124 0 8 #[51, 59, 67, 83, 91, 98, 105, 112, 119], 51) := by decide +kernel
theorem dX8_count_52 : decode cX8_count 52 = .ok (.aload_n 0, 1) := by decide +kernel
theorem dX8_count_53 : decode cX8_count 53 = .ok (.getfield 23, 3) := by decide +kernel
theorem dX8_count_56 : decode cX8_count 56 = .ok (.getfield 152, 3) := by decide +kernel
theorem dX8_count_59 : decode cX8_count 59 = .ok (.ireturn, 1) := by decide +kernel
theorem dX8_count_60 : decode cX8_count 60 = .ok (.aload_n 0, 1) := by decide +kernel
theorem dX8_count_61 : decode cX8_count 61 = .ok (.getfield 23, 3) := by decide +kernel
theorem dX8_count_64 : decode cX8_count 64 = .ok (.getfield 90, 3) := by decide +kernel
theorem dX8_count_67 : decode cX8_count 67 = .ok (.ireturn, 1) := by decide +kernel
theorem dX8_count_68 : decode cX8_count 68 = .ok (.aload_n 0, 1) := by decide +kernel
theorem dX8_count_69 : decode cX8_count 69 = .ok (.getfield 32, 3) := by decide +kernel
theorem dX8_count_72 : decode cX8_count 72 = .ok (.getfield 146, 3) := by decide +kernel
theorem dX8_count_75 : decode cX8_count 75 = .ok (.aload_n 0, 1) := by decide +kernel
theorem dX8_count_76 : decode cX8_count 76 = .ok (.getfield 23, 3) := by decide +kernel
theorem dX8_count_79 : decode cX8_count 79 = .ok (.getfield 152, 3) := by decide +kernel
theorem dX8_count_82 : decode cX8_count 82 = .ok (.iaload, 1) := by decide +kernel
theorem dX8_count_83 : decode cX8_count 83 = .ok (.ireturn, 1) := by decide +kernel
theorem dX8_count_84 : decode cX8_count 84 = .ok (.aload_n 0, 1) := by decide +kernel
theorem dX8_count_85 : decode cX8_count 85 = .ok (.getfield 41, 3) := by decide +kernel
theorem dX8_count_88 : decode cX8_count 88 = .ok (.invokevirtual 283, 3) := by decide +kernel
theorem dX8_count_91 : decode cX8_count 91 = .ok (.ireturn, 1) := by decide +kernel
theorem dX8_count_92 : decode cX8_count 92 = .ok (.aload_n 0, 1) := by decide +kernel
theorem dX8_count_93 : decode cX8_count 93 = .ok (.getfield 7, 3) := by decide +kernel
theorem dX8_count_96 : decode cX8_count 96 = .ok (.iconst 0, 1) := by decide +kernel
theorem dX8_count_97 : decode cX8_count 97 = .ok (.iaload, 1) := by decide +kernel
theorem dX8_count_98 : decode cX8_count 98 = .ok (.ireturn, 1) := by decide +kernel
theorem dX8_count_99 : decode cX8_count 99 = .ok (.aload_n 0, 1) := by decide +kernel
theorem dX8_count_100 : decode cX8_count 100 = .ok (.getfield 7, 3) := by decide +kernel
theorem dX8_count_103 : decode cX8_count 103 = .ok (.iconst 1, 1) := by decide +kernel
theorem dX8_count_104 : decode cX8_count 104 = .ok (.iaload, 1) := by decide +kernel
theorem dX8_count_105 : decode cX8_count 105 = .ok (.ireturn, 1) := by decide +kernel
theorem dX8_count_106 : decode cX8_count 106 = .ok (.aload_n 0, 1) := by decide +kernel
theorem dX8_count_107 : decode cX8_count 107 = .ok (.getfield 7, 3) := by decide +kernel
theorem dX8_count_110 : decode cX8_count 110 = .ok (.iconst 2, 1) := by decide +kernel
theorem dX8_count_111 : decode cX8_count 111 = .ok (.iaload, 1) := by decide +kernel
theorem dX8_count_112 : decode cX8_count 112 = .ok (.ireturn, 1) := by decide +kernel
theorem dX8_count_113 : decode cX8_count 113 = .ok (.aload_n 0, 1) := by decide +kernel
theorem dX8_count_114 : decode cX8_count 114 = .ok (.getfield 7, 3) := by decide +kernel
theorem dX8_count_117 : decode cX8_count 117 = .ok (.iconst 3, 1) := by decide +kernel
theorem dX8_count_118 : decode cX8_count 118 = .ok (.iaload, 1) := by decide +kernel
theorem dX8_count_119 : decode cX8_count 119 = .ok (.ireturn, 1) := by decide +kernel
theorem dX8_count_120 : decode cX8_count 120 = .ok (.aload_n 0, 1) := by decide +kernel
theorem dX8_count_121 : decode cX8_count 121 = .ok (.getfield 286, 3) := by decide +kernel
theorem dX8_count_124 : decode cX8_count 124 = .ok (.ireturn, 1) := by decide +kernel
theorem dX8_count_125 : decode cX8_count 125 = .ok (.bipush (-2), 2) := by decide +kernel
theorem dX8_count_127 : decode cX8_count 127 = .ok (.ireturn, 1) := by decide +kernel
theorem dX8_digest_0 : decode cX8_digest 0 = .ok (.ldc2_w 289, 3) := by decide +kernel
theorem dX8_digest_3 : decode cX8_digest 3 = .ok (.lstore_n 1, 1) := by decide +kernel
theorem dX8_digest_4 : decode cX8_digest 4 = .ok (.iconst 0, 1) := by decide +kernel
theorem dX8_digest_5 : decode cX8_digest 5 = .ok (.istore_n 3, 1) := by decide +kernel
theorem dX8_digest_6 : decode cX8_digest 6 = .ok (.iload_n 3, 1) := by decide +kernel
theorem dX8_digest_7 : decode cX8_digest 7 = .ok (.bipush 7, 2) := by decide +kernel
theorem dX8_digest_9 : decode cX8_digest 9 = .ok (.if_icmp .gt 20, 3) := by decide +kernel
theorem dX8_digest_12 : decode cX8_digest 12 = .ok (.lload_n 1, 1) := by decide +kernel
theorem dX8_digest_13 : decode cX8_digest 13 = .ok (.aload_n 0, 1) := by decide +kernel
theorem dX8_digest_14 : decode cX8_digest 14 = .ok (.iload_n 3, 1) := by decide +kernel
theorem dX8_digest_15 : decode cX8_digest 15 = .ok (.invokevirtual 291, 3) := by decide +kernel
theorem dX8_digest_18 : decode cX8_digest 18 = .ok (.i2l, 1) := by decide +kernel
theorem dX8_digest_19 : decode cX8_digest 19 = .ok (.invokestatic 294, 3) := by decide +kernel
theorem dX8_digest_22 : decode cX8_digest 22 = .ok (.lstore_n 1, 1) := by decide +kernel
theorem dX8_digest_23 : decode cX8_digest 23 = .ok (.iinc 3 1, 3) := by decide +kernel
theorem dX8_digest_26 : decode cX8_digest 26 = .ok (.goto (-20), 3) := by decide +kernel
theorem dX8_digest_29 : decode cX8_digest 29 = .ok (.lload_n 1, 1) := by decide +kernel
theorem dX8_digest_30 : decode cX8_digest 30 = .ok (.aload_n 0, 1) := by decide +kernel
theorem dX8_digest_31 : decode cX8_digest 31 = .ok (.invokevirtual 298, 3) := by decide +kernel
theorem dX8_digest_34 : decode cX8_digest 34 = .ok (.i2l, 1) := by decide +kernel
theorem dX8_digest_35 : decode cX8_digest 35 = .ok (.invokestatic 294, 3) := by decide +kernel
theorem dX8_digest_38 : decode cX8_digest 38 = .ok (.lstore_n 1, 1) := by decide +kernel
theorem dX8_digest_39 : decode cX8_digest 39 = .ok (.iconst 0, 1) := by decide +kernel
theorem dX8_digest_40 : decode cX8_digest 40 = .ok (.istore_n 3, 1) := by decide +kernel
theorem dX8_digest_41 : decode cX8_digest 41 = .ok (.iload_n 3, 1) := by decide +kernel
theorem dX8_digest_42 : decode cX8_digest 42 = .ok (.aload_n 0, 1) := by decide +kernel
theorem dX8_digest_43 : decode cX8_digest 43 = .ok (.getfield 23, 3) := by decide +kernel
theorem dX8_digest_46 : decode cX8_digest 46 = .ok (.getfield 152, 3) := by decide +kernel
theorem dX8_digest_49 : decode cX8_digest 49 = .ok (.if_icmp .ge 16, 3) := by decide +kernel
theorem dX8_digest_52 : decode cX8_digest 52 = .ok (.aload_n 0, 1) := by decide +kernel
theorem dX8_digest_53 : decode cX8_digest 53 = .ok (.lload_n 1, 1) := by decide +kernel
theorem dX8_digest_54 : decode cX8_digest 54 = .ok (.iload_n 3, 1) := by decide +kernel
theorem dX8_digest_55 : decode cX8_digest 55 = .ok (.invokevirtual 300, 3) := by decide +kernel
theorem dX8_digest_58 : decode cX8_digest 58 = .ok (.lstore_n 1, 1) := by decide +kernel
theorem dX8_digest_59 : decode cX8_digest 59 = .ok (.iinc 3 1, 3) := by decide +kernel
theorem dX8_digest_62 : decode cX8_digest 62 = .ok (.goto (-21), 3) := by decide +kernel
theorem dX8_digest_65 : decode cX8_digest 65 = .ok (.lload_n 1, 1) := by decide +kernel
theorem dX8_digest_66 : decode cX8_digest 66 = .ok (.aload_n 0, 1) := by decide +kernel
theorem dX8_digest_67 : decode cX8_digest 67 = .ok (.aload_n 0, 1) := by decide +kernel
theorem dX8_digest_68 : decode cX8_digest 68 = .ok (.getfield 23, 3) := by decide +kernel
theorem dX8_digest_71 : decode cX8_digest 71 = .ok (.getfield 152, 3) := by decide +kernel
theorem dX8_digest_74 : decode cX8_digest 74 = .ok (.iconst 0, 1) := by decide +kernel
theorem dX8_digest_75 : decode cX8_digest 75 = .ok (.invokevirtual 304, 3) := by decide +kernel
theorem dX8_digest_78 : decode cX8_digest 78 = .ok (.i2l, 1) := by decide +kernel
theorem dX8_digest_79 : decode cX8_digest 79 = .ok (.invokestatic 294, 3) := by decide +kernel
theorem dX8_digest_82 : decode cX8_digest 82 = .ok (.lstore_n 1, 1) := by decide +kernel
theorem dX8_digest_83 : decode cX8_digest 83 = .ok (.lload_n 1, 1) := by decide +kernel
theorem dX8_digest_84 : decode cX8_digest 84 = .ok (.aload_n 0, 1) := by decide +kernel
theorem dX8_digest_85 : decode cX8_digest 85 = .ok (.aload_n 0, 1) := by decide +kernel
theorem dX8_digest_86 : decode cX8_digest 86 = .ok (.getfield 23, 3) := by decide +kernel
theorem dX8_digest_89 : decode cX8_digest 89 = .ok (.getfield 152, 3) := by decide +kernel
theorem dX8_digest_92 : decode cX8_digest 92 = .ok (.iconst 2, 1) := by decide +kernel
theorem dX8_digest_93 : decode cX8_digest 93 = .ok (.invokevirtual 304, 3) := by decide +kernel
theorem dX8_digest_96 : decode cX8_digest 96 = .ok (.i2l, 1) := by decide +kernel
theorem dX8_digest_97 : decode cX8_digest 97 = .ok (.invokestatic 294, 3) := by decide +kernel
theorem dX8_digest_100 : decode cX8_digest 100 = .ok (.lstore_n 1, 1) := by decide +kernel
theorem dX8_digest_101 : decode cX8_digest 101 = .ok (.lload_n 1, 1) := by decide +kernel
theorem dX8_digest_102 : decode cX8_digest 102 = .ok (.aload_n 0, 1) := by decide +kernel
theorem dX8_digest_103 : decode cX8_digest 103 = .ok (.invokevirtual 307, 3) := by decide +kernel
theorem dX8_digest_106 : decode cX8_digest 106 = .ok (.i2l, 1) := by decide +kernel
theorem dX8_digest_107 : decode cX8_digest 107 = .ok (.invokestatic 294, 3) := by decide +kernel
theorem dX8_digest_110 : decode cX8_digest 110 = .ok (.lstore_n 1, 1) := by decide +kernel
theorem dX8_digest_111 : decode cX8_digest 111 = .ok (.iconst 0, 1) := by decide +kernel
theorem dX8_digest_112 : decode cX8_digest 112 = .ok (.istore_n 3, 1) := by decide +kernel
theorem dX8_digest_113 : decode cX8_digest 113 = .ok (.iload_n 3, 1) := by decide +kernel
theorem dX8_digest_114 : decode cX8_digest 114 = .ok (.iconst 3, 1) := by decide +kernel
theorem dX8_digest_115 : decode cX8_digest 115 = .ok (.if_icmp .ge 16, 3) := by decide +kernel
theorem dX8_digest_118 : decode cX8_digest 118 = .ok (.aload_n 0, 1) := by decide +kernel
theorem dX8_digest_119 : decode cX8_digest 119 = .ok (.lload_n 1, 1) := by decide +kernel
theorem dX8_digest_120 : decode cX8_digest 120 = .ok (.iload_n 3, 1) := by decide +kernel
theorem dX8_digest_121 : decode cX8_digest 121 = .ok (.invokevirtual 310, 3) := by decide +kernel
theorem dX8_digest_124 : decode cX8_digest 124 = .ok (.lstore_n 1, 1) := by decide +kernel
theorem dX8_digest_125 : decode cX8_digest 125 = .ok (.iinc 3 1, 3) := by decide +kernel
theorem dX8_digest_128 : decode cX8_digest 128 = .ok (.goto (-15), 3) := by decide +kernel
theorem dX8_digest_131 : decode cX8_digest 131 = .ok (.lload_n 1, 1) := by decide +kernel
theorem dX8_digest_132 : decode cX8_digest 132 = .ok (.aload_n 0, 1) := by decide +kernel
theorem dX8_digest_133 : decode cX8_digest 133 = .ok (.invokevirtual 201, 3) := by decide +kernel
theorem dX8_digest_136 : decode cX8_digest 136 = .ok (.invokestatic 294, 3) := by decide +kernel
theorem dX8_digest_139 : decode cX8_digest 139 = .ok (.lstore_n 1, 1) := by decide +kernel
theorem dX8_digest_140 : decode cX8_digest 140 = .ok (.lload_n 1, 1) := by decide +kernel
theorem dX8_digest_141 : decode cX8_digest 141 = .ok (.aload_n 0, 1) := by decide +kernel
theorem dX8_digest_142 : decode cX8_digest 142 = .ok (.invokevirtual 313, 3) := by decide +kernel
theorem dX8_digest_145 : decode cX8_digest 145 = .ok (.i2l, 1) := by decide +kernel
theorem dX8_digest_146 : decode cX8_digest 146 = .ok (.invokestatic 294, 3) := by decide +kernel
theorem dX8_digest_149 : decode cX8_digest 149 = .ok (.lstore_n 1, 1) := by decide +kernel
theorem dX8_digest_150 : decode cX8_digest 150 = .ok (.lload_n 1, 1) := by decide +kernel
theorem dX8_digest_151 : decode cX8_digest 151 = .ok (.aload_n 0, 1) := by decide +kernel
theorem dX8_digest_152 : decode cX8_digest 152 = .ok (.sipush 150, 3) := by decide +kernel
theorem dX8_digest_155 : decode cX8_digest 155 = .ok (.iconst 0, 1) := by decide +kernel
theorem dX8_digest_156 : decode cX8_digest 156 = .ok (.invokevirtual 316, 3) := by decide +kernel
theorem dX8_digest_159 : decode cX8_digest 159 = .ok (.i2l, 1) := by decide +kernel
theorem dX8_digest_160 : decode cX8_digest 160 = .ok (.invokestatic 294, 3) := by decide +kernel
theorem dX8_digest_163 : decode cX8_digest 163 = .ok (.lstore_n 1, 1) := by decide +kernel
theorem dX8_digest_164 : decode cX8_digest 164 = .ok (.lload_n 1, 1) := by decide +kernel
theorem dX8_digest_165 : decode cX8_digest 165 = .ok (.aload_n 0, 1) := by decide +kernel
theorem dX8_digest_166 : decode cX8_digest 166 = .ok (.sipush 150, 3) := by decide +kernel
theorem dX8_digest_169 : decode cX8_digest 169 = .ok (.iconst 1, 1) := by decide +kernel
theorem dX8_digest_170 : decode cX8_digest 170 = .ok (.invokevirtual 316, 3) := by decide +kernel
theorem dX8_digest_173 : decode cX8_digest 173 = .ok (.i2l, 1) := by decide +kernel
theorem dX8_digest_174 : decode cX8_digest 174 = .ok (.invokestatic 294, 3) := by decide +kernel
theorem dX8_digest_177 : decode cX8_digest 177 = .ok (.lstore_n 1, 1) := by decide +kernel
theorem dX8_digest_178 : decode cX8_digest 178 = .ok (.lload_n 1, 1) := by decide +kernel
theorem dX8_digest_179 : decode cX8_digest 179 = .ok (.aload_n 0, 1) := by decide +kernel
theorem dX8_digest_180 : decode cX8_digest 180 = .ok (.sipush 1023, 3) := by decide +kernel
theorem dX8_digest_183 : decode cX8_digest 183 = .ok (.iconst (-1), 1) := by decide +kernel
theorem dX8_digest_184 : decode cX8_digest 184 = .ok (.invokevirtual 319, 3) := by decide +kernel
theorem dX8_digest_187 : decode cX8_digest 187 = .ok (.i2l, 1) := by decide +kernel
theorem dX8_digest_188 : decode cX8_digest 188 = .ok (.invokestatic 294, 3) := by decide +kernel
theorem dX8_digest_191 : decode cX8_digest 191 = .ok (.lstore_n 1, 1) := by decide +kernel
theorem dX8_digest_192 : decode cX8_digest 192 = .ok (.lload_n 1, 1) := by decide +kernel
theorem dX8_digest_193 : decode cX8_digest 193 = .ok (.aload_n 0, 1) := by decide +kernel
theorem dX8_digest_194 : decode cX8_digest 194 = .ok (.bipush 100, 2) := by decide +kernel
theorem dX8_digest_196 : decode cX8_digest 196 = .ok (.iconst 0, 1) := by decide +kernel
theorem dX8_digest_197 : decode cX8_digest 197 = .ok (.invokevirtual 322, 3) := by decide +kernel
theorem dX8_digest_200 : decode cX8_digest 200 = .ok (.i2l, 1) := by decide +kernel
theorem dX8_digest_201 : decode cX8_digest 201 = .ok (.invokestatic 294, 3) := by decide +kernel
theorem dX8_digest_204 : decode cX8_digest 204 = .ok (.lstore_n 1, 1) := by decide +kernel
theorem dX8_digest_205 : decode cX8_digest 205 = .ok (.lload_n 1, 1) := by decide +kernel
theorem dX8_digest_206 : decode cX8_digest 206 = .ok (.aload_n 0, 1) := by decide +kernel
theorem dX8_digest_207 : decode cX8_digest 207 = .ok (.bipush 100, 2) := by decide +kernel
theorem dX8_digest_209 : decode cX8_digest 209 = .ok (.iconst 1, 1) := by decide +kernel
theorem dX8_digest_210 : decode cX8_digest 210 = .ok (.invokevirtual 322, 3) := by decide +kernel
theorem dX8_digest_213 : decode cX8_digest 213 = .ok (.i2l, 1) := by decide +kernel
theorem dX8_digest_214 : decode cX8_digest 214 = .ok (.invokestatic 294, 3) := by decide +kernel
end
section
theorem dX8_digest_217 : decode cX8_digest 217 = .ok (.lstore_n 1, 1) := by decide +kernel
theorem dX8_digest_218 : decode cX8_digest 218 = .ok (.lload_n 1, 1) := by decide +kernel
theorem dX8_digest_219 : decode cX8_digest 219 = .ok (.aload_n 0, 1) := by decide +kernel
theorem dX8_digest_220 : decode cX8_digest 220 = .ok (.invokevirtual 325, 3) := by decide +kernel
theorem dX8_digest_223 : decode cX8_digest 223 = .ok (.i2l, 1) := by decide +kernel
theorem dX8_digest_224 : decode cX8_digest 224 = .ok (.invokestatic 294, 3) := by decide +kernel
theorem dX8_digest_227 : decode cX8_digest 227 = .ok (.lstore_n 1, 1) := by decide +kernel
theorem dX8_digest_228 : decode cX8_digest 228 = .ok (.lload_n 1, 1) := by decide +kernel
theorem dX8_digest_229 : decode cX8_digest 229 = .ok (.aload_n 0, 1) := by decide +kernel
theorem dX8_digest_230 : decode cX8_digest 230 = .ok (.iconst 0, 1) := by decide +kernel
theorem dX8_digest_231 : decode cX8_digest 231 = .ok (.invokevirtual 328, 3) := by decide +kernel
theorem dX8_digest_234 : decode cX8_digest 234 = .ok (.i2l, 1) := by decide +kernel
theorem dX8_digest_235 : decode cX8_digest 235 = .ok (.invokestatic 294, 3) := by decide +kernel
theorem dX8_digest_238 : decode cX8_digest 238 = .ok (.lstore_n 1, 1) := by decide +kernel
theorem dX8_digest_239 : decode cX8_digest 239 = .ok (.lload_n 1, 1) := by decide +kernel
theorem dX8_digest_240 : decode cX8_digest 240 = .ok (.aload_n 0, 1) := by decide +kernel
theorem dX8_digest_241 : decode cX8_digest 241 = .ok (.iconst 1, 1) := by decide +kernel
theorem dX8_digest_242 : decode cX8_digest 242 = .ok (.invokevirtual 328, 3) := by decide +kernel
theorem dX8_digest_245 : decode cX8_digest 245 = .ok (.i2l, 1) := by decide +kernel
theorem dX8_digest_246 : decode cX8_digest 246 = .ok (.invokestatic 294, 3) := by decide +kernel
theorem dX8_digest_249 : decode cX8_digest 249 = .ok (.lreturn, 1) := by decide +kernel
theorem dX8_mixFloor_0 : decode cX8_mixFloor 0 = .ok (.lload_n 1, 1) := by decide +kernel
theorem dX8_mixFloor_1 : decode cX8_mixFloor 1 = .ok (.lstore 4, 2) := by decide +kernel
theorem dX8_mixFloor_3 : decode cX8_mixFloor 3 = .ok (.iconst 0, 1) := by decide +kernel
theorem dX8_mixFloor_4 : decode cX8_mixFloor 4 = .ok (.istore 6, 2) := by decide +kernel
theorem dX8_mixFloor_6 : decode cX8_mixFloor 6 = .ok (.iload 6, 2) := by decide +kernel
theorem dX8_mixFloor_8 : decode cX8_mixFloor 8 = .ok (.iconst 5, 1) := by decide +kernel
theorem dX8_mixFloor_9 : decode cX8_mixFloor 9 = .ok (.if_icmp .gt 24, 3) := by decide +kernel
theorem dX8_mixFloor_12 : decode cX8_mixFloor 12 = .ok (.lload 4, 2) := by decide +kernel
theorem dX8_mixFloor_14 : decode cX8_mixFloor 14 = .ok (.aload_n 0, 1) := by decide +kernel
theorem dX8_mixFloor_15 : decode cX8_mixFloor 15 = .ok (.iload_n 3, 1) := by decide +kernel
theorem dX8_mixFloor_16 : decode cX8_mixFloor 16 = .ok (.iload 6, 2) := by decide +kernel
theorem dX8_mixFloor_18 : decode cX8_mixFloor 18 = .ok (.invokevirtual 331, 3) := by decide +kernel
theorem dX8_mixFloor_21 : decode cX8_mixFloor 21 = .ok (.i2l, 1) := by decide +kernel
theorem dX8_mixFloor_22 : decode cX8_mixFloor 22 = .ok (.invokestatic 294, 3) := by decide +kernel
theorem dX8_mixFloor_25 : decode cX8_mixFloor 25 = .ok (.lstore 4, 2) := by decide +kernel
theorem dX8_mixFloor_27 : decode cX8_mixFloor 27 = .ok (.iinc 6 1, 3) := by decide +kernel
theorem dX8_mixFloor_30 : decode cX8_mixFloor 30 = .ok (.goto (-24), 3) := by decide +kernel
theorem dX8_mixFloor_33 : decode cX8_mixFloor 33 = .ok (.lload 4, 2) := by decide +kernel
theorem dX8_mixFloor_35 : decode cX8_mixFloor 35 = .ok (.aload_n 0, 1) := by decide +kernel
theorem dX8_mixFloor_36 : decode cX8_mixFloor 36 = .ok (.iload_n 3, 1) := by decide +kernel
theorem dX8_mixFloor_37 : decode cX8_mixFloor 37 = .ok (.iconst 0, 1) := by decide +kernel
theorem dX8_mixFloor_38 : decode cX8_mixFloor 38 = .ok (.invokevirtual 304, 3) := by decide +kernel
theorem dX8_mixFloor_41 : decode cX8_mixFloor 41 = .ok (.i2l, 1) := by decide +kernel
theorem dX8_mixFloor_42 : decode cX8_mixFloor 42 = .ok (.invokestatic 294, 3) := by decide +kernel
theorem dX8_mixFloor_45 : decode cX8_mixFloor 45 = .ok (.lstore 4, 2) := by decide +kernel
theorem dX8_mixFloor_47 : decode cX8_mixFloor 47 = .ok (.lload 4, 2) := by decide +kernel
theorem dX8_mixFloor_49 : decode cX8_mixFloor 49 = .ok (.aload_n 0, 1) := by decide +kernel
theorem dX8_mixFloor_50 : decode cX8_mixFloor 50 = .ok (.iload_n 3, 1) := by decide +kernel
theorem dX8_mixFloor_51 : decode cX8_mixFloor 51 = .ok (.iconst 2, 1) := by decide +kernel
theorem dX8_mixFloor_52 : decode cX8_mixFloor 52 = .ok (.invokevirtual 304, 3) := by decide +kernel
theorem dX8_mixFloor_55 : decode cX8_mixFloor 55 = .ok (.i2l, 1) := by decide +kernel
theorem dX8_mixFloor_56 : decode cX8_mixFloor 56 = .ok (.invokestatic 294, 3) := by decide +kernel
theorem dX8_mixFloor_59 : decode cX8_mixFloor 59 = .ok (.lstore 4, 2) := by decide +kernel
theorem dX8_mixFloor_61 : decode cX8_mixFloor 61 = .ok (.lload 4, 2) := by decide +kernel
theorem dX8_mixFloor_63 : decode cX8_mixFloor 63 = .ok (.aload_n 0, 1) := by decide +kernel
theorem dX8_mixFloor_64 : decode cX8_mixFloor 64 = .ok (.iload_n 3, 1) := by decide +kernel
theorem dX8_mixFloor_65 : decode cX8_mixFloor 65 = .ok (.invokevirtual 334, 3) := by decide +kernel
theorem dX8_mixFloor_68 : decode cX8_mixFloor 68 = .ok (.i2l, 1) := by decide +kernel
theorem dX8_mixFloor_69 : decode cX8_mixFloor 69 = .ok (.invokestatic 294, 3) := by decide +kernel
theorem dX8_mixFloor_72 : decode cX8_mixFloor 72 = .ok (.lstore 4, 2) := by decide +kernel
theorem dX8_mixFloor_74 : decode cX8_mixFloor 74 = .ok (.iconst 0, 1) := by decide +kernel
theorem dX8_mixFloor_75 : decode cX8_mixFloor 75 = .ok (.istore 6, 2) := by decide +kernel
theorem dX8_mixFloor_77 : decode cX8_mixFloor 77 = .ok (.iload 6, 2) := by decide +kernel
theorem dX8_mixFloor_79 : decode cX8_mixFloor 79 = .ok (.iconst 2, 1) := by decide +kernel
theorem dX8_mixFloor_80 : decode cX8_mixFloor 80 = .ok (.if_icmp .gt 28, 3) := by decide +kernel
theorem dX8_mixFloor_83 : decode cX8_mixFloor 83 = .ok (.lload 4, 2) := by decide +kernel
theorem dX8_mixFloor_85 : decode cX8_mixFloor 85 = .ok (.aload_n 0, 1) := by decide +kernel
theorem dX8_mixFloor_86 : decode cX8_mixFloor 86 = .ok (.iload_n 3, 1) := by decide +kernel
theorem dX8_mixFloor_87 : decode cX8_mixFloor 87 = .ok (.bipush 15, 2) := by decide +kernel
theorem dX8_mixFloor_89 : decode cX8_mixFloor 89 = .ok (.bipush 20, 2) := by decide +kernel
theorem dX8_mixFloor_91 : decode cX8_mixFloor 91 = .ok (.iload 6, 2) := by decide +kernel
theorem dX8_mixFloor_93 : decode cX8_mixFloor 93 = .ok (.invokevirtual 337, 3) := by decide +kernel
theorem dX8_mixFloor_96 : decode cX8_mixFloor 96 = .ok (.i2l, 1) := by decide +kernel
theorem dX8_mixFloor_97 : decode cX8_mixFloor 97 = .ok (.invokestatic 294, 3) := by decide +kernel
theorem dX8_mixFloor_100 : decode cX8_mixFloor 100 = .ok (.lstore 4, 2) := by decide +kernel
theorem dX8_mixFloor_102 : decode cX8_mixFloor 102 = .ok (.iinc 6 1, 3) := by decide +kernel
theorem dX8_mixFloor_105 : decode cX8_mixFloor 105 = .ok (.goto (-28), 3) := by decide +kernel
theorem dX8_mixFloor_108 : decode cX8_mixFloor 108 = .ok (.lload 4, 2) := by decide +kernel
theorem dX8_mixFloor_110 : decode cX8_mixFloor 110 = .ok (.aload_n 0, 1) := by decide +kernel
theorem dX8_mixFloor_111 : decode cX8_mixFloor 111 = .ok (.iload_n 3, 1) := by decide +kernel
theorem dX8_mixFloor_112 : decode cX8_mixFloor 112 = .ok (.iconst 0, 1) := by decide +kernel
theorem dX8_mixFloor_113 : decode cX8_mixFloor 113 = .ok (.iconst 0, 1) := by decide +kernel
theorem dX8_mixFloor_114 : decode cX8_mixFloor 114 = .ok (.invokevirtual 340, 3) := by decide +kernel
theorem dX8_mixFloor_117 : decode cX8_mixFloor 117 = .ok (.invokestatic 294, 3) := by decide +kernel
theorem dX8_mixFloor_120 : decode cX8_mixFloor 120 = .ok (.lstore 4, 2) := by decide +kernel
theorem dX8_mixFloor_122 : decode cX8_mixFloor 122 = .ok (.lload 4, 2) := by decide +kernel
theorem dX8_mixFloor_124 : decode cX8_mixFloor 124 = .ok (.aload_n 0, 1) := by decide +kernel
theorem dX8_mixFloor_125 : decode cX8_mixFloor 125 = .ok (.iload_n 3, 1) := by decide +kernel
theorem dX8_mixFloor_126 : decode cX8_mixFloor 126 = .ok (.iconst 0, 1) := by decide +kernel
theorem dX8_mixFloor_127 : decode cX8_mixFloor 127 = .ok (.iconst 1, 1) := by decide +kernel
theorem dX8_mixFloor_128 : decode cX8_mixFloor 128 = .ok (.invokevirtual 340, 3) := by decide +kernel
theorem dX8_mixFloor_131 : decode cX8_mixFloor 131 = .ok (.invokestatic 294, 3) := by decide +kernel
theorem dX8_mixFloor_134 : decode cX8_mixFloor 134 = .ok (.lstore 4, 2) := by decide +kernel
theorem dX8_mixFloor_136 : decode cX8_mixFloor 136 = .ok (.iconst 0, 1) := by decide +kernel
theorem dX8_mixFloor_137 : decode cX8_mixFloor 137 = .ok (.istore 6, 2) := by decide +kernel
theorem dX8_mixFloor_139 : decode cX8_mixFloor 139 = .ok (.iload 6, 2) := by decide +kernel
theorem dX8_mixFloor_141 : decode cX8_mixFloor 141 = .ok (.iconst 3, 1) := by decide +kernel
theorem dX8_mixFloor_142 : decode cX8_mixFloor 142 = .ok (.if_icmp .ge 24, 3) := by decide +kernel
theorem dX8_mixFloor_145 : decode cX8_mixFloor 145 = .ok (.lload 4, 2) := by decide +kernel
theorem dX8_mixFloor_147 : decode cX8_mixFloor 147 = .ok (.aload_n 0, 1) := by decide +kernel
theorem dX8_mixFloor_148 : decode cX8_mixFloor 148 = .ok (.iload_n 3, 1) := by decide +kernel
theorem dX8_mixFloor_149 : decode cX8_mixFloor 149 = .ok (.iload 6, 2) := by decide +kernel
theorem dX8_mixFloor_151 : decode cX8_mixFloor 151 = .ok (.invokevirtual 343, 3) := by decide +kernel
theorem dX8_mixFloor_154 : decode cX8_mixFloor 154 = .ok (.i2l, 1) := by decide +kernel
theorem dX8_mixFloor_155 : decode cX8_mixFloor 155 = .ok (.invokestatic 294, 3) := by decide +kernel
theorem dX8_mixFloor_158 : decode cX8_mixFloor 158 = .ok (.lstore 4, 2) := by decide +kernel
theorem dX8_mixFloor_160 : decode cX8_mixFloor 160 = .ok (.iinc 6 1, 3) := by decide +kernel
theorem dX8_mixFloor_163 : decode cX8_mixFloor 163 = .ok (.goto (-24), 3) := by decide +kernel
theorem dX8_mixFloor_166 : decode cX8_mixFloor 166 = .ok (.lload 4, 2) := by decide +kernel
theorem dX8_mixFloor_168 : decode cX8_mixFloor 168 = .ok (.lreturn, 1) := by decide +kernel
theorem dX8_mixMaster_0 : decode cX8_mixMaster 0 = .ok (.lload_n 1, 1) := by decide +kernel
theorem dX8_mixMaster_1 : decode cX8_mixMaster 1 = .ok (.aload_n 0, 1) := by decide +kernel
theorem dX8_mixMaster_2 : decode cX8_mixMaster 2 = .ok (.iload_n 3, 1) := by decide +kernel
theorem dX8_mixMaster_3 : decode cX8_mixMaster 3 = .ok (.iconst 0, 1) := by decide +kernel
theorem dX8_mixMaster_4 : decode cX8_mixMaster 4 = .ok (.iconst 0, 1) := by decide +kernel
theorem dX8_mixMaster_5 : decode cX8_mixMaster 5 = .ok (.invokevirtual 346, 3) := by decide +kernel
theorem dX8_mixMaster_8 : decode cX8_mixMaster 8 = .ok (.invokestatic 294, 3) := by decide +kernel
theorem dX8_mixMaster_11 : decode cX8_mixMaster 11 = .ok (.lstore 4, 2) := by decide +kernel
theorem dX8_mixMaster_13 : decode cX8_mixMaster 13 = .ok (.lload 4, 2) := by decide +kernel
theorem dX8_mixMaster_15 : decode cX8_mixMaster 15 = .ok (.aload_n 0, 1) := by decide +kernel
theorem dX8_mixMaster_16 : decode cX8_mixMaster 16 = .ok (.iload_n 3, 1) := by decide +kernel
theorem dX8_mixMaster_17 : decode cX8_mixMaster 17 = .ok (.iconst 0, 1) := by decide +kernel
theorem dX8_mixMaster_18 : decode cX8_mixMaster 18 = .ok (.iconst 1, 1) := by decide +kernel
theorem dX8_mixMaster_19 : decode cX8_mixMaster 19 = .ok (.invokevirtual 346, 3) := by decide +kernel
theorem dX8_mixMaster_22 : decode cX8_mixMaster 22 = .ok (.invokestatic 294, 3) := by decide +kernel
theorem dX8_mixMaster_25 : decode cX8_mixMaster 25 = .ok (.lstore 4, 2) := by decide +kernel
theorem dX8_mixMaster_27 : decode cX8_mixMaster 27 = .ok (.lload 4, 2) := by decide +kernel
theorem dX8_mixMaster_29 : decode cX8_mixMaster 29 = .ok (.aload_n 0, 1) := by decide +kernel
theorem dX8_mixMaster_30 : decode cX8_mixMaster 30 = .ok (.iload_n 3, 1) := by decide +kernel
theorem dX8_mixMaster_31 : decode cX8_mixMaster 31 = .ok (.iconst 1, 1) := by decide +kernel
theorem dX8_mixMaster_32 : decode cX8_mixMaster 32 = .ok (.iconst 0, 1) := by decide +kernel
theorem dX8_mixMaster_33 : decode cX8_mixMaster 33 = .ok (.invokevirtual 346, 3) := by decide +kernel
theorem dX8_mixMaster_36 : decode cX8_mixMaster 36 = .ok (.invokestatic 294, 3) := by decide +kernel
theorem dX8_mixMaster_39 : decode cX8_mixMaster 39 = .ok (.lstore 4, 2) := by decide +kernel
theorem dX8_mixMaster_41 : decode cX8_mixMaster 41 = .ok (.lload 4, 2) := by decide +kernel
theorem dX8_mixMaster_43 : decode cX8_mixMaster 43 = .ok (.aload_n 0, 1) := by decide +kernel
theorem dX8_mixMaster_44 : decode cX8_mixMaster 44 = .ok (.iload_n 3, 1) := by decide +kernel
theorem dX8_mixMaster_45 : decode cX8_mixMaster 45 = .ok (.iconst 1, 1) := by decide +kernel
theorem dX8_mixMaster_46 : decode cX8_mixMaster 46 = .ok (.iconst 1, 1) := by decide +kernel
theorem dX8_mixMaster_47 : decode cX8_mixMaster 47 = .ok (.invokevirtual 346, 3) := by decide +kernel
theorem dX8_mixMaster_50 : decode cX8_mixMaster 50 = .ok (.invokestatic 294, 3) := by decide +kernel
theorem dX8_mixMaster_53 : decode cX8_mixMaster 53 = .ok (.lstore 4, 2) := by decide +kernel
theorem dX8_mixMaster_55 : decode cX8_mixMaster 55 = .ok (.lload 4, 2) := by decide +kernel
theorem dX8_mixMaster_57 : decode cX8_mixMaster 57 = .ok (.aload_n 0, 1) := by decide +kernel
theorem dX8_mixMaster_58 : decode cX8_mixMaster 58 = .ok (.iload_n 3, 1) := by decide +kernel
theorem dX8_mixMaster_59 : decode cX8_mixMaster 59 = .ok (.invokevirtual 349, 3) := by decide +kernel
theorem dX8_mixMaster_62 : decode cX8_mixMaster 62 = .ok (.i2l, 1) := by decide +kernel
theorem dX8_mixMaster_63 : decode cX8_mixMaster 63 = .ok (.invokestatic 294, 3) := by decide +kernel
theorem dX8_mixMaster_66 : decode cX8_mixMaster 66 = .ok (.lreturn, 1) := by decide +kernel
theorem dX8_mix_0 : decode cX8_mix 0 = .ok (.ldc2_w 352, 3) := by decide +kernel
theorem dX8_mix_3 : decode cX8_mix 3 = .ok (.lload_n 0, 1) := by decide +kernel
theorem dX8_mix_4 : decode cX8_mix 4 = .ok (.lmul, 1) := by decide +kernel
theorem dX8_mix_5 : decode cX8_mix 5 = .ok (.lload_n 2, 1) := by decide +kernel
theorem dX8_mix_6 : decode cX8_mix 6 = .ok (.ladd, 1) := by decide +kernel
theorem dX8_mix_7 : decode cX8_mix 7 = .ok (.lreturn, 1) := by decide +kernel
theorem dX8_within_0 : decode cX8_within 0 = .ok (.iload_n 0, 1) := by decide +kernel
theorem dX8_within_1 : decode cX8_within 1 = .ok (.iload_n 1, 1) := by decide +kernel
theorem dX8_within_2 : decode cX8_within 2 = .ok (.if_icmp .lt 12, 3) := by decide +kernel
theorem dX8_within_5 : decode cX8_within 5 = .ok (.iload_n 0, 1) := by decide +kernel
theorem dX8_within_6 : decode cX8_within 6 = .ok (.iload_n 2, 1) := by decide +kernel
theorem dX8_within_7 : decode cX8_within 7 = .ok (.if_icmp .gt 7, 3) := by decide +kernel
theorem dX8_within_10 : decode cX8_within 10 = .ok (.iconst 1, 1) := by decide +kernel
theorem dX8_within_11 : decode cX8_within 11 = .ok (.goto 4, 3) := by decide +kernel
theorem dX8_within_14 : decode cX8_within 14 = .ok (.iconst 0, 1) := by decide +kernel
theorem dX8_within_15 : decode cX8_within 15 = .ok (.ireturn, 1) := by decide +kernel
theorem dX8_isMaster_0 : decode cX8_isMaster 0 = .ok (.iload_n 0, 1) := by decide +kernel
theorem dX8_isMaster_1 : decode cX8_isMaster 1 = .ok (.iconst 0, 1) := by decide +kernel
theorem dX8_isMaster_2 : decode cX8_isMaster 2 = .ok (.iconst 2, 1) := by decide +kernel
theorem dX8_isMaster_3 : decode cX8_isMaster 3 = .ok (.invokestatic 79, 3) := by decide +kernel
theorem dX8_isMaster_6 : decode cX8_isMaster 6 = .ok (.ireturn, 1) := by decide +kernel
theorem dX8_isSheet_0 : decode cX8_isSheet 0 = .ok (.iload_n 0, 1) := by decide +kernel
theorem dX8_isSheet_1 : decode cX8_isSheet 1 = .ok (.iconst 0, 1) := by decide +kernel
theorem dX8_isSheet_2 : decode cX8_isSheet 2 = .ok (.iconst 3, 1) := by decide +kernel
theorem dX8_isSheet_3 : decode cX8_isSheet 3 = .ok (.invokestatic 79, 3) := by decide +kernel
theorem dX8_isSheet_6 : decode cX8_isSheet 6 = .ok (.ireturn, 1) := by decide +kernel
theorem dX8_isForm_0 : decode cX8_isForm 0 = .ok (.iload_n 0, 1) := by decide +kernel
theorem dX8_isForm_1 : decode cX8_isForm 1 = .ok (.iconst 0, 1) := by decide +kernel
theorem dX8_isForm_2 : decode cX8_isForm 2 = .ok (.iconst 2, 1) := by decide +kernel
theorem dX8_isForm_3 : decode cX8_isForm 3 = .ok (.invokestatic 79, 3) := by decide +kernel
theorem dX8_isForm_6 : decode cX8_isForm 6 = .ok (.ireturn, 1) := by decide +kernel
theorem dX8_isHeight_0 : decode cX8_isHeight 0 = .ok (.iload_n 0, 1) := by decide +kernel
theorem dX8_isHeight_1 : decode cX8_isHeight 1 = .ok (.iconst (-1), 1) := by decide +kernel
theorem dX8_isHeight_2 : decode cX8_isHeight 2 = .ok (.if_icmp .eq 13, 3) := by decide +kernel
theorem dX8_isHeight_5 : decode cX8_isHeight 5 = .ok (.iload_n 0, 1) := by decide +kernel
theorem dX8_isHeight_6 : decode cX8_isHeight 6 = .ok (.iconst 1, 1) := by decide +kernel
theorem dX8_isHeight_7 : decode cX8_isHeight 7 = .ok (.ldc 127, 2) := by decide +kernel
theorem dX8_isHeight_9 : decode cX8_isHeight 9 = .ok (.invokestatic 79, 3) := by decide +kernel
theorem dX8_isHeight_12 : decode cX8_isHeight 12 = .ok (.ifCond .eq 7, 3) := by decide +kernel
theorem dX8_isHeight_15 : decode cX8_isHeight 15 = .ok (.iconst 1, 1) := by decide +kernel
theorem dX8_isHeight_16 : decode cX8_isHeight 16 = .ok (.goto 4, 3) := by decide +kernel
theorem dX8_isHeight_19 : decode cX8_isHeight 19 = .ok (.iconst 0, 1) := by decide +kernel
theorem dX8_isHeight_20 : decode cX8_isHeight 20 = .ok (.ireturn, 1) := by decide +kernel
theorem dX8_isSpot_0 : decode cX8_isSpot 0 = .ok (.iload_n 0, 1) := by decide +kernel
theorem dX8_isSpot_1 : decode cX8_isSpot 1 = .ok (.iconst 0, 1) := by decide +kernel
theorem dX8_isSpot_2 : decode cX8_isSpot 2 = .ok (.bipush 9, 2) := by decide +kernel
theorem dX8_isSpot_4 : decode cX8_isSpot 4 = .ok (.invokestatic 79, 3) := by decide +kernel
theorem dX8_isSpot_7 : decode cX8_isSpot 7 = .ok (.ireturn, 1) := by decide +kernel
theorem dX8_isFloor_0 : decode cX8_isFloor 0 = .ok (.iload_n 1, 1) := by decide +kernel
theorem dX8_isFloor_1 : decode cX8_isFloor 1 = .ok (.iconst 0, 1) := by decide +kernel
theorem dX8_isFloor_2 : decode cX8_isFloor 2 = .ok (.aload_n 0, 1) := by decide +kernel
theorem dX8_isFloor_3 : decode cX8_isFloor 3 = .ok (.getfield 23, 3) := by decide +kernel
theorem dX8_isFloor_6 : decode cX8_isFloor 6 = .ok (.getfield 152, 3) := by decide +kernel
theorem dX8_isFloor_9 : decode cX8_isFloor 9 = .ok (.iconst 1, 1) := by decide +kernel
theorem dX8_isFloor_10 : decode cX8_isFloor 10 = .ok (.isub, 1) := by decide +kernel
theorem dX8_isFloor_11 : decode cX8_isFloor 11 = .ok (.invokestatic 79, 3) := by decide +kernel
theorem dX8_isFloor_14 : decode cX8_isFloor 14 = .ok (.ireturn, 1) := by decide +kernel
theorem dX8_isSill_0 : decode cX8_isSill 0 = .ok (.iload_n 1, 1) := by decide +kernel
theorem dX8_isSill_1 : decode cX8_isSill 1 = .ok (.iconst 0, 1) := by decide +kernel
theorem dX8_isSill_2 : decode cX8_isSill 2 = .ok (.aload_n 0, 1) := by decide +kernel
theorem dX8_isSill_3 : decode cX8_isSill 3 = .ok (.getfield 23, 3) := by decide +kernel
theorem dX8_isSill_6 : decode cX8_isSill 6 = .ok (.getfield 152, 3) := by decide +kernel
theorem dX8_isSill_9 : decode cX8_isSill 9 = .ok (.invokestatic 79, 3) := by decide +kernel
theorem dX8_isSill_12 : decode cX8_isSill 12 = .ok (.ireturn, 1) := by decide +kernel
theorem dX8_refuseLong_0 : decode cX8_refuseLong 0 = .ok (.ldc2_w 356, 3) := by decide +kernel
theorem dX8_refuseLong_3 : decode cX8_refuseLong 3 = .ok (.iload_n 0, 1) := by decide +kernel
theorem dX8_refuseLong_4 : decode cX8_refuseLong 4 = .ok (.i2l, 1) := by decide +kernel
theorem dX8_refuseLong_5 : decode cX8_refuseLong 5 = .ok (.lsub, 1) := by decide +kernel
theorem dX8_refuseLong_6 : decode cX8_refuseLong 6 = .ok (.lreturn, 1) := by decide +kernel
theorem dX8_finding_0 : decode cX8_finding 0 = .ok (.aload_n 0, 1) := by decide +kernel
theorem dX8_finding_1 : decode cX8_finding 1 = .ok (.iload_n 1, 1) := by decide +kernel
theorem dX8_finding_2 : decode cX8_finding 2 = .ok (.putfield 286, 3) := by decide +kernel
theorem dX8_finding_5 : decode cX8_finding 5 = .ok (.bipush (-10), 2) := by decide +kernel
theorem dX8_finding_7 : decode cX8_finding 7 = .ok (.iload_n 1, 1) := by decide +kernel
theorem dX8_finding_8 : decode cX8_finding 8 = .ok (.isub, 1) := by decide +kernel
theorem dX8_finding_9 : decode cX8_finding 9 = .ok (.ireturn, 1) := by decide +kernel
theorem dX8_refuseSheet_0 : decode cX8_refuseSheet 0 = .ok (.iload_n 1, 1) := by decide +kernel
theorem dX8_refuseSheet_1 : decode cX8_refuseSheet 1 = .ok (.invokestatic 244, 3) := by decide +kernel
theorem dX8_refuseSheet_4 : decode cX8_refuseSheet 4 = .ok (.ifCond .ne 6, 3) := by decide +kernel
theorem dX8_refuseSheet_7 : decode cX8_refuseSheet 7 = .ok (.bipush (-2), 2) := by decide +kernel
theorem dX8_refuseSheet_9 : decode cX8_refuseSheet 9 = .ok (.ireturn, 1) := by decide +kernel
theorem dX8_refuseSheet_10 : decode cX8_refuseSheet 10 = .ok (.aload_n 0, 1) := by decide +kernel
theorem dX8_refuseSheet_11 : decode cX8_refuseSheet 11 = .ok (.getfield 70, 3) := by decide +kernel
theorem dX8_refuseSheet_14 : decode cX8_refuseSheet 14 = .ok (.iload_n 1, 1) := by decide +kernel
theorem dX8_refuseSheet_15 : decode cX8_refuseSheet 15 = .ok (.aaload, 1) := by decide +kernel
theorem dX8_refuseSheet_16 : decode cX8_refuseSheet 16 = .ok (.invokevirtual 266, 3) := by decide +kernel
theorem dX8_refuseSheet_19 : decode cX8_refuseSheet 19 = .ok (.ifCond .eq 11, 3) := by decide +kernel
theorem dX8_refuseSheet_22 : decode cX8_refuseSheet 22 = .ok (.aload_n 0, 1) := by decide +kernel
theorem dX8_refuseSheet_23 : decode cX8_refuseSheet 23 = .ok (.iconst 1, 1) := by decide +kernel
theorem dX8_refuseSheet_24 : decode cX8_refuseSheet 24 = .ok (.invokevirtual 250, 3) := by decide +kernel
theorem dX8_refuseSheet_27 : decode cX8_refuseSheet 27 = .ok (.goto 4, 3) := by decide +kernel
theorem dX8_refuseSheet_30 : decode cX8_refuseSheet 30 = .ok (.iconst 0, 1) := by decide +kernel
theorem dX8_refuseSheet_31 : decode cX8_refuseSheet 31 = .ok (.ireturn, 1) := by decide +kernel
theorem dX8_refuseItem_0 : decode cX8_refuseItem 0 = .ok (.iload_n 2, 1) := by decide +kernel
theorem dX8_refuseItem_1 : decode cX8_refuseItem 1 = .ok (.invokestatic 247, 3) := by decide +kernel
theorem dX8_refuseItem_4 : decode cX8_refuseItem 4 = .ok (.ifCond .ne 6, 3) := by decide +kernel
theorem dX8_refuseItem_7 : decode cX8_refuseItem 7 = .ok (.bipush (-2), 2) := by decide +kernel
theorem dX8_refuseItem_9 : decode cX8_refuseItem 9 = .ok (.ireturn, 1) := by decide +kernel
theorem dX8_refuseItem_10 : decode cX8_refuseItem 10 = .ok (.aload_n 0, 1) := by decide +kernel
theorem dX8_refuseItem_11 : decode cX8_refuseItem 11 = .ok (.iload_n 1, 1) := by decide +kernel
theorem dX8_refuseItem_12 : decode cX8_refuseItem 12 = .ok (.invokevirtual 181, 3) := by decide +kernel
theorem dX8_refuseItem_15 : decode cX8_refuseItem 15 = .ok (.istore 4, 2) := by decide +kernel
theorem dX8_refuseItem_17 : decode cX8_refuseItem 17 = .ok (.iload 4, 2) := by decide +kernel
theorem dX8_refuseItem_19 : decode cX8_refuseItem 19 = .ok (.ifCond .eq 6, 3) := by decide +kernel
theorem dX8_refuseItem_22 : decode cX8_refuseItem 22 = .ok (.iload 4, 2) := by decide +kernel
theorem dX8_refuseItem_24 : decode cX8_refuseItem 24 = .ok (.ireturn, 1) := by decide +kernel
theorem dX8_refuseItem_25 : decode cX8_refuseItem 25 = .ok (.aload_n 0, 1) := by decide +kernel
theorem dX8_refuseItem_26 : decode cX8_refuseItem 26 = .ok (.getfield 70, 3) := by decide +kernel
theorem dX8_refuseItem_29 : decode cX8_refuseItem 29 = .ok (.iload_n 1, 1) := by decide +kernel
theorem dX8_refuseItem_30 : decode cX8_refuseItem 30 = .ok (.aaload, 1) := by decide +kernel
theorem dX8_refuseItem_31 : decode cX8_refuseItem 31 = .ok (.getfield 270, 3) := by decide +kernel
theorem dX8_refuseItem_34 : decode cX8_refuseItem 34 = .ok (.iload_n 2, 1) := by decide +kernel
theorem dX8_refuseItem_35 : decode cX8_refuseItem 35 = .ok (.if_icmp .eq 9, 3) := by decide +kernel
theorem dX8_refuseItem_38 : decode cX8_refuseItem 38 = .ok (.aload_n 0, 1) := by decide +kernel
theorem dX8_refuseItem_39 : decode cX8_refuseItem 39 = .ok (.iconst 3, 1) := by decide +kernel
theorem dX8_refuseItem_40 : decode cX8_refuseItem 40 = .ok (.invokevirtual 250, 3) := by decide +kernel
theorem dX8_refuseItem_43 : decode cX8_refuseItem 43 = .ok (.ireturn, 1) := by decide +kernel
theorem dX8_refuseItem_44 : decode cX8_refuseItem 44 = .ok (.iload_n 3, 1) := by decide +kernel
theorem dX8_refuseItem_45 : decode cX8_refuseItem 45 = .ok (.iconst 0, 1) := by decide +kernel
theorem dX8_refuseItem_46 : decode cX8_refuseItem 46 = .ok (.aload_n 0, 1) := by decide +kernel
theorem dX8_refuseItem_47 : decode cX8_refuseItem 47 = .ok (.getfield 70, 3) := by decide +kernel
theorem dX8_refuseItem_50 : decode cX8_refuseItem 50 = .ok (.iload_n 1, 1) := by decide +kernel
theorem dX8_refuseItem_51 : decode cX8_refuseItem 51 = .ok (.aaload, 1) := by decide +kernel
theorem dX8_refuseItem_52 : decode cX8_refuseItem 52 = .ok (.getfield 184, 3) := by decide +kernel
theorem dX8_refuseItem_55 : decode cX8_refuseItem 55 = .ok (.iconst 1, 1) := by decide +kernel
theorem dX8_refuseItem_56 : decode cX8_refuseItem 56 = .ok (.isub, 1) := by decide +kernel
theorem dX8_refuseItem_57 : decode cX8_refuseItem 57 = .ok (.invokestatic 79, 3) := by decide +kernel
theorem dX8_refuseItem_60 : decode cX8_refuseItem 60 = .ok (.ifCond .eq 7, 3) := by decide +kernel
theorem dX8_refuseItem_63 : decode cX8_refuseItem 63 = .ok (.iconst 0, 1) := by decide +kernel
theorem dX8_refuseItem_64 : decode cX8_refuseItem 64 = .ok (.goto 8, 3) := by decide +kernel
theorem dX8_refuseItem_67 : decode cX8_refuseItem 67 = .ok (.aload_n 0, 1) := by decide +kernel
theorem dX8_refuseItem_68 : decode cX8_refuseItem 68 = .ok (.iconst 2, 1) := by decide +kernel
theorem dX8_refuseItem_69 : decode cX8_refuseItem 69 = .ok (.invokevirtual 250, 3) := by decide +kernel
theorem dX8_refuseItem_72 : decode cX8_refuseItem 72 = .ok (.ireturn, 1) := by decide +kernel
theorem dX8_inLowestTerms_0 : decode cX8_inLowestTerms 0 = .ok (.lload_n 2, 1) := by decide +kernel
theorem dX8_inLowestTerms_1 : decode cX8_inLowestTerms 1 = .ok (.lstore 5, 2) := by decide +kernel
theorem dX8_inLowestTerms_3 : decode cX8_inLowestTerms 3 = .ok (.lload_n 0, 1) := by decide +kernel
theorem dX8_inLowestTerms_4 : decode cX8_inLowestTerms 4 = .ok (.lstore 7, 2) := by decide +kernel
theorem dX8_inLowestTerms_6 : decode cX8_inLowestTerms 6 = .ok (.iconst 0, 1) := by decide +kernel
theorem dX8_inLowestTerms_7 : decode cX8_inLowestTerms 7 = .ok (.istore 9, 2) := by decide +kernel
theorem dX8_inLowestTerms_9 : decode cX8_inLowestTerms 9 = .ok (.iload 9, 2) := by decide +kernel
theorem dX8_inLowestTerms_11 : decode cX8_inLowestTerms 11 = .ok (.sipush 128, 3) := by decide +kernel
theorem dX8_inLowestTerms_14 : decode cX8_inLowestTerms 14 = .ok (.if_icmp .ge 31, 3) := by decide +kernel
theorem dX8_inLowestTerms_17 : decode cX8_inLowestTerms 17 = .ok (.lload 7, 2) := by decide +kernel
theorem dX8_inLowestTerms_19 : decode cX8_inLowestTerms 19 = .ok (.lconst 0, 1) := by decide +kernel
theorem dX8_inLowestTerms_20 : decode cX8_inLowestTerms 20 = .ok (.lcmp, 1) := by decide +kernel
theorem dX8_inLowestTerms_21 : decode cX8_inLowestTerms 21 = .ok (.ifCond .eq 24, 3) := by decide +kernel
theorem dX8_inLowestTerms_24 : decode cX8_inLowestTerms 24 = .ok (.lload 5, 2) := by decide +kernel
theorem dX8_inLowestTerms_26 : decode cX8_inLowestTerms 26 = .ok (.lload 7, 2) := by decide +kernel
theorem dX8_inLowestTerms_28 : decode cX8_inLowestTerms 28 = .ok (.lrem, 1) := by decide +kernel
theorem dX8_inLowestTerms_29 : decode cX8_inLowestTerms 29 = .ok (.lstore 10, 2) := by decide +kernel
theorem dX8_inLowestTerms_31 : decode cX8_inLowestTerms 31 = .ok (.lload 7, 2) := by decide +kernel
theorem dX8_inLowestTerms_33 : decode cX8_inLowestTerms 33 = .ok (.lstore 5, 2) := by decide +kernel
theorem dX8_inLowestTerms_35 : decode cX8_inLowestTerms 35 = .ok (.lload 10, 2) := by decide +kernel
theorem dX8_inLowestTerms_37 : decode cX8_inLowestTerms 37 = .ok (.lstore 7, 2) := by decide +kernel
theorem dX8_inLowestTerms_39 : decode cX8_inLowestTerms 39 = .ok (.iinc 9 1, 3) := by decide +kernel
theorem dX8_inLowestTerms_42 : decode cX8_inLowestTerms 42 = .ok (.goto (-33), 3) := by decide +kernel
theorem dX8_inLowestTerms_45 : decode cX8_inLowestTerms 45 = .ok (.iload 4, 2) := by decide +kernel
theorem dX8_inLowestTerms_47 : decode cX8_inLowestTerms 47 = .ok (.ifCond .ne 7, 3) := by decide +kernel
theorem dX8_inLowestTerms_50 : decode cX8_inLowestTerms 50 = .ok (.lload_n 0, 1) := by decide +kernel
theorem dX8_inLowestTerms_51 : decode cX8_inLowestTerms 51 = .ok (.goto 4, 3) := by decide +kernel
theorem dX8_inLowestTerms_54 : decode cX8_inLowestTerms 54 = .ok (.lload_n 2, 1) := by decide +kernel
theorem dX8_inLowestTerms_55 : decode cX8_inLowestTerms 55 = .ok (.lstore 9, 2) := by decide +kernel
theorem dX8_inLowestTerms_57 : decode cX8_inLowestTerms 57 = .ok (.lload 5, 2) := by decide +kernel
theorem dX8_inLowestTerms_59 : decode cX8_inLowestTerms 59 = .ok (.lconst 0, 1) := by decide +kernel
theorem dX8_inLowestTerms_60 : decode cX8_inLowestTerms 60 = .ok (.lcmp, 1) := by decide +kernel
theorem dX8_inLowestTerms_61 : decode cX8_inLowestTerms 61 = .ok (.ifCond .ne 8, 3) := by decide +kernel
theorem dX8_inLowestTerms_64 : decode cX8_inLowestTerms 64 = .ok (.lload 9, 2) := by decide +kernel
theorem dX8_inLowestTerms_66 : decode cX8_inLowestTerms 66 = .ok (.goto 8, 3) := by decide +kernel
theorem dX8_inLowestTerms_69 : decode cX8_inLowestTerms 69 = .ok (.lload 9, 2) := by decide +kernel
theorem dX8_inLowestTerms_71 : decode cX8_inLowestTerms 71 = .ok (.lload 5, 2) := by decide +kernel
theorem dX8_inLowestTerms_73 : decode cX8_inLowestTerms 73 = .ok (.ldiv, 1) := by decide +kernel
theorem dX8_inLowestTerms_74 : decode cX8_inLowestTerms 74 = .ok (.lreturn, 1) := by decide +kernel
theorem dX8_evenSteps_0 : decode cX8_evenSteps 0 = .ok (.iconst 1, 1) := by decide +kernel
theorem dX8_evenSteps_1 : decode cX8_evenSteps 1 = .ok (.istore_n 3, 1) := by decide +kernel
theorem dX8_evenSteps_2 : decode cX8_evenSteps 2 = .ok (.iload_n 0, 1) := by decide +kernel
theorem dX8_evenSteps_3 : decode cX8_evenSteps 3 = .ok (.iload_n 0, 1) := by decide +kernel
theorem dX8_evenSteps_4 : decode cX8_evenSteps 4 = .ok (.iconst 1, 1) := by decide +kernel
theorem dX8_evenSteps_5 : decode cX8_evenSteps 5 = .ok (.iload_n 1, 1) := by decide +kernel
theorem dX8_evenSteps_6 : decode cX8_evenSteps 6 = .ok (.iload_n 2, 1) := by decide +kernel
theorem dX8_evenSteps_7 : decode cX8_evenSteps 7 = .ok (.invokestatic 163, 3) := by decide +kernel
theorem dX8_evenSteps_10 : decode cX8_evenSteps 10 = .ok (.isub, 1) := by decide +kernel
theorem dX8_evenSteps_11 : decode cX8_evenSteps 11 = .ok (.invokestatic 155, 3) := by decide +kernel
theorem dX8_evenSteps_14 : decode cX8_evenSteps 14 = .ok (.istore 4, 2) := by decide +kernel
theorem dX8_evenSteps_16 : decode cX8_evenSteps 16 = .ok (.iconst 2, 1) := by decide +kernel
theorem dX8_evenSteps_17 : decode cX8_evenSteps 17 = .ok (.istore 5, 2) := by decide +kernel
theorem dX8_evenSteps_19 : decode cX8_evenSteps 19 = .ok (.iload 5, 2) := by decide +kernel
theorem dX8_evenSteps_21 : decode cX8_evenSteps 21 = .ok (.bipush 40, 2) := by decide +kernel
theorem dX8_evenSteps_23 : decode cX8_evenSteps 23 = .ok (.if_icmp .gt 41, 3) := by decide +kernel
theorem dX8_evenSteps_26 : decode cX8_evenSteps 26 = .ok (.iload_n 0, 1) := by decide +kernel
theorem dX8_evenSteps_27 : decode cX8_evenSteps 27 = .ok (.iload 5, 2) := by decide +kernel
theorem dX8_evenSteps_29 : decode cX8_evenSteps 29 = .ok (.iload_n 0, 1) := by decide +kernel
theorem dX8_evenSteps_30 : decode cX8_evenSteps 30 = .ok (.iload 5, 2) := by decide +kernel
theorem dX8_evenSteps_32 : decode cX8_evenSteps 32 = .ok (.iload_n 1, 1) := by decide +kernel
theorem dX8_evenSteps_33 : decode cX8_evenSteps 33 = .ok (.iload_n 2, 1) := by decide +kernel
theorem dX8_evenSteps_34 : decode cX8_evenSteps 34 = .ok (.invokestatic 163, 3) := by decide +kernel
theorem dX8_evenSteps_37 : decode cX8_evenSteps 37 = .ok (.imul, 1) := by decide +kernel
theorem dX8_evenSteps_38 : decode cX8_evenSteps 38 = .ok (.isub, 1) := by decide +kernel
theorem dX8_evenSteps_39 : decode cX8_evenSteps 39 = .ok (.invokestatic 155, 3) := by decide +kernel
theorem dX8_evenSteps_42 : decode cX8_evenSteps 42 = .ok (.istore 6, 2) := by decide +kernel
theorem dX8_evenSteps_44 : decode cX8_evenSteps 44 = .ok (.iload 6, 2) := by decide +kernel
theorem dX8_evenSteps_46 : decode cX8_evenSteps 46 = .ok (.iload 4, 2) := by decide +kernel
theorem dX8_evenSteps_48 : decode cX8_evenSteps 48 = .ok (.if_icmp .ge 10, 3) := by decide +kernel
theorem dX8_evenSteps_51 : decode cX8_evenSteps 51 = .ok (.iload 6, 2) := by decide +kernel
theorem dX8_evenSteps_53 : decode cX8_evenSteps 53 = .ok (.istore 4, 2) := by decide +kernel
theorem dX8_evenSteps_55 : decode cX8_evenSteps 55 = .ok (.iload 5, 2) := by decide +kernel
theorem dX8_evenSteps_57 : decode cX8_evenSteps 57 = .ok (.istore_n 3, 1) := by decide +kernel
theorem dX8_evenSteps_58 : decode cX8_evenSteps 58 = .ok (.iinc 5 1, 3) := by decide +kernel
theorem dX8_evenSteps_61 : decode cX8_evenSteps 61 = .ok (.goto (-42), 3) := by decide +kernel
theorem dX8_evenSteps_64 : decode cX8_evenSteps 64 = .ok (.iload_n 3, 1) := by decide +kernel
theorem dX8_evenSteps_65 : decode cX8_evenSteps 65 = .ok (.ireturn, 1) := by decide +kernel
theorem dX8_evenHeight_0 : decode cX8_evenHeight 0 = .ok (.iload_n 1, 1) := by decide +kernel
theorem dX8_evenHeight_1 : decode cX8_evenHeight 1 = .ok (.ifCond .gt 7, 3) := by decide +kernel
theorem dX8_evenHeight_4 : decode cX8_evenHeight 4 = .ok (.iload_n 2, 1) := by decide +kernel
theorem dX8_evenHeight_5 : decode cX8_evenHeight 5 = .ok (.goto 16, 3) := by decide +kernel
theorem dX8_evenHeight_8 : decode cX8_evenHeight 8 = .ok (.iload_n 2, 1) := by decide +kernel
theorem dX8_evenHeight_9 : decode cX8_evenHeight 9 = .ok (.iload_n 3, 1) := by decide +kernel
theorem dX8_evenHeight_10 : decode cX8_evenHeight 10 = .ok (.iload_n 0, 1) := by decide +kernel
theorem dX8_evenHeight_11 : decode cX8_evenHeight 11 = .ok (.iload_n 1, 1) := by decide +kernel
theorem dX8_evenHeight_12 : decode cX8_evenHeight 12 = .ok (.invokestatic 358, 3) := by decide +kernel
theorem dX8_evenHeight_15 : decode cX8_evenHeight 15 = .ok (.invokestatic 187, 3) := by decide +kernel
theorem dX8_evenHeight_18 : decode cX8_evenHeight 18 = .ok (.invokestatic 211, 3) := by decide +kernel
theorem dX8_evenHeight_21 : decode cX8_evenHeight 21 = .ok (.istore 4, 2) := by decide +kernel
theorem dX8_evenHeight_23 : decode cX8_evenHeight 23 = .ok (.iload_n 3, 1) := by decide +kernel
theorem dX8_evenHeight_24 : decode cX8_evenHeight 24 = .ok (.iload 4, 2) := by decide +kernel
theorem dX8_evenHeight_26 : decode cX8_evenHeight 26 = .ok (.iconst 1, 1) := by decide +kernel
theorem dX8_evenHeight_27 : decode cX8_evenHeight 27 = .ok (.iadd, 1) := by decide +kernel
theorem dX8_evenHeight_28 : decode cX8_evenHeight 28 = .ok (.invokestatic 187, 3) := by decide +kernel
theorem dX8_evenHeight_31 : decode cX8_evenHeight 31 = .ok (.istore 5, 2) := by decide +kernel
theorem dX8_evenHeight_33 : decode cX8_evenHeight 33 = .ok (.iload_n 0, 1) := by decide +kernel
theorem dX8_evenHeight_34 : decode cX8_evenHeight 34 = .ok (.iload_n 1, 1) := by decide +kernel
theorem dX8_evenHeight_35 : decode cX8_evenHeight 35 = .ok (.iload 5, 2) := by decide +kernel
theorem dX8_evenHeight_37 : decode cX8_evenHeight 37 = .ok (.imul, 1) := by decide +kernel
theorem dX8_evenHeight_38 : decode cX8_evenHeight 38 = .ok (.isub, 1) := by decide +kernel
theorem dX8_evenHeight_39 : decode cX8_evenHeight 39 = .ok (.invokestatic 155, 3) := by decide +kernel
theorem dX8_evenHeight_42 : decode cX8_evenHeight 42 = .ok (.iload_n 0, 1) := by decide +kernel
theorem dX8_evenHeight_43 : decode cX8_evenHeight 43 = .ok (.iload_n 1, 1) := by decide +kernel
theorem dX8_evenHeight_44 : decode cX8_evenHeight 44 = .ok (.iload 4, 2) := by decide +kernel
theorem dX8_evenHeight_46 : decode cX8_evenHeight 46 = .ok (.imul, 1) := by decide +kernel
theorem dX8_evenHeight_47 : decode cX8_evenHeight 47 = .ok (.isub, 1) := by decide +kernel
theorem dX8_evenHeight_48 : decode cX8_evenHeight 48 = .ok (.invokestatic 155, 3) := by decide +kernel
theorem dX8_evenHeight_51 : decode cX8_evenHeight 51 = .ok (.if_icmp .ge 8, 3) := by decide +kernel
theorem dX8_evenHeight_54 : decode cX8_evenHeight 54 = .ok (.iload 5, 2) := by decide +kernel
theorem dX8_evenHeight_56 : decode cX8_evenHeight 56 = .ok (.goto 5, 3) := by decide +kernel
theorem dX8_evenHeight_59 : decode cX8_evenHeight 59 = .ok (.iload 4, 2) := by decide +kernel
theorem dX8_evenHeight_61 : decode cX8_evenHeight 61 = .ok (.ireturn, 1) := by decide +kernel
theorem dX8_offAfter_0 : decode cX8_offAfter 0 = .ok (.aload_n 0, 1) := by decide +kernel
theorem dX8_offAfter_1 : decode cX8_offAfter 1 = .ok (.getfield 32, 3) := by decide +kernel
theorem dX8_offAfter_4 : decode cX8_offAfter 4 = .ok (.aload_n 0, 1) := by decide +kernel
theorem dX8_offAfter_5 : decode cX8_offAfter 5 = .ok (.getfield 23, 3) := by decide +kernel
theorem dX8_offAfter_8 : decode cX8_offAfter 8 = .ok (.getfield 152, 3) := by decide +kernel
theorem dX8_offAfter_11 : decode cX8_offAfter 11 = .ok (.invokevirtual 149, 3) := by decide +kernel
theorem dX8_offAfter_14 : decode cX8_offAfter 14 = .ok (.aload_n 0, 1) := by decide +kernel
theorem dX8_offAfter_15 : decode cX8_offAfter 15 = .ok (.getfield 16, 3) := by decide +kernel
theorem dX8_offAfter_18 : decode cX8_offAfter 18 = .ok (.iload_n 1, 1) := by decide +kernel
theorem dX8_offAfter_19 : decode cX8_offAfter 19 = .ok (.iload_n 2, 1) := by decide +kernel
theorem dX8_offAfter_20 : decode cX8_offAfter 20 = .ok (.iconst 3, 1) := by decide +kernel
theorem dX8_offAfter_21 : decode cX8_offAfter 21 = .ok (.idiv, 1) := by decide +kernel
theorem dX8_offAfter_22 : decode cX8_offAfter 22 = .ok (.iload_n 2, 1) := by decide +kernel
theorem dX8_offAfter_23 : decode cX8_offAfter 23 = .ok (.iconst 3, 1) := by decide +kernel
theorem dX8_offAfter_24 : decode cX8_offAfter 24 = .ok (.irem, 1) := by decide +kernel
theorem dX8_offAfter_25 : decode cX8_offAfter 25 = .ok (.invokevirtual 128, 3) := by decide +kernel
theorem dX8_offAfter_28 : decode cX8_offAfter 28 = .ok (.iadd, 1) := by decide +kernel
theorem dX8_offAfter_29 : decode cX8_offAfter 29 = .ok (.iload_n 1, 1) := by decide +kernel
theorem dX8_offAfter_30 : decode cX8_offAfter 30 = .ok (.isub, 1) := by decide +kernel
theorem dX8_offAfter_31 : decode cX8_offAfter 31 = .ok (.invokestatic 155, 3) := by decide +kernel
theorem dX8_offAfter_34 : decode cX8_offAfter 34 = .ok (.ireturn, 1) := by decide +kernel
theorem dX8_stonesFor_0 : decode cX8_stonesFor 0 = .ok (.iload_n 0, 1) := by decide +kernel
theorem dX8_stonesFor_1 : decode cX8_stonesFor 1 = .ok (.ineg, 1) := by decide +kernel
theorem dX8_stonesFor_2 : decode cX8_stonesFor 2 = .ok (.bipush 10, 2) := by decide +kernel
theorem dX8_stonesFor_4 : decode cX8_stonesFor 4 = .ok (.invokestatic 358, 3) := by decide +kernel
theorem dX8_stonesFor_7 : decode cX8_stonesFor 7 = .ok (.ineg, 1) := by decide +kernel
theorem dX8_stonesFor_8 : decode cX8_stonesFor 8 = .ok (.ireturn, 1) := by decide +kernel
theorem dX9_init_0 : decode cX9_init 0 = .ok (.aload_n 0, 1) := by decide +kernel
theorem dX9_init_1 : decode cX9_init 1 = .ok (.invokespecial 1, 3) := by decide +kernel
theorem dX9_init_4 : decode cX9_init 4 = .ok (.aload_n 0, 1) := by decide +kernel
theorem dX9_init_5 : decode cX9_init 5 = .ok (.iconst 3, 1) := by decide +kernel
theorem dX9_init_6 : decode cX9_init 6 = .ok (.newarray .int, 2) := by decide +kernel
theorem dX9_init_8 : decode cX9_init 8 = .ok (.putfield 7, 3) := by decide +kernel
theorem dX9_init_11 : decode cX9_init 11 = .ok (.aload_n 0, 1) := by decide +kernel
theorem dX9_init_12 : decode cX9_init 12 = .ok (.iconst 3, 1) := by decide +kernel
theorem dX9_init_13 : decode cX9_init 13 = .ok (.newarray .int, 2) := by decide +kernel
theorem dX9_init_15 : decode cX9_init 15 = .ok (.putfield 13, 3) := by decide +kernel
theorem dX9_init_18 : decode cX9_init 18 = .ok (.aload_n 0, 1) := by decide +kernel
theorem dX9_init_19 : decode cX9_init 19 = .ok (.iconst 4, 1) := by decide +kernel
theorem dX9_init_20 : decode cX9_init 20 = .ok (.newarray .int, 2) := by decide +kernel
theorem dX9_init_22 : decode cX9_init 22 = .ok (.putfield 16, 3) := by decide +kernel
theorem dX9_init_25 : decode cX9_init 25 = .ok (.aload_n 0, 1) := by decide +kernel
theorem dX9_init_26 : decode cX9_init 26 = .ok (.bipush 80, 2) := by decide +kernel
theorem dX9_init_28 : decode cX9_init 28 = .ok (.newarray .int, 2) := by decide +kernel
theorem dX9_init_30 : decode cX9_init 30 = .ok (.putfield 19, 3) := by decide +kernel
theorem dX9_init_33 : decode cX9_init 33 = .ok (.aload_n 0, 1) := by decide +kernel
theorem dX9_init_34 : decode cX9_init 34 = .ok (.bipush 11, 2) := by decide +kernel
theorem dX9_init_36 : decode cX9_init 36 = .ok (.newarray .int, 2) := by decide +kernel
theorem dX9_init_38 : decode cX9_init 38 = .ok (.putfield 22, 3) := by decide +kernel
theorem dX9_init_41 : decode cX9_init 41 = .ok (.aload_n 0, 1) := by decide +kernel
theorem dX9_init_42 : decode cX9_init 42 = .ok (.bipush 11, 2) := by decide +kernel
theorem dX9_init_44 : decode cX9_init 44 = .ok (.newarray .int, 2) := by decide +kernel
theorem dX9_init_46 : decode cX9_init 46 = .ok (.putfield 25, 3) := by decide +kernel
theorem dX9_init_49 : decode cX9_init 49 = .ok (.aload_n 0, 1) := by decide +kernel
theorem dX9_init_50 : decode cX9_init 50 = .ok (.bipush 10, 2) := by decide +kernel
theorem dX9_init_52 : decode cX9_init 52 = .ok (.newarray .int, 2) := by decide +kernel
theorem dX9_init_54 : decode cX9_init 54 = .ok (.putfield 28, 3) := by decide +kernel
theorem dX9_init_57 : decode cX9_init 57 = .ok (.aload_n 0, 1) := by decide +kernel
theorem dX9_init_58 : decode cX9_init 58 = .ok (.bipush 10, 2) := by decide +kernel
theorem dX9_init_60 : decode cX9_init 60 = .ok (.newarray .int, 2) := by decide +kernel
theorem dX9_init_62 : decode cX9_init 62 = .ok (.putfield 31, 3) := by decide +kernel
theorem dX9_init_65 : decode cX9_init 65 = .ok (.aload_n 0, 1) := by decide +kernel
theorem dX9_init_66 : decode cX9_init 66 = .ok (.bipush 11, 2) := by decide +kernel
theorem dX9_init_68 : decode cX9_init 68 = .ok (.newarray .int, 2) := by decide +kernel
theorem dX9_init_70 : decode cX9_init 70 = .ok (.putfield 34, 3) := by decide +kernel
theorem dX9_init_73 : decode cX9_init 73 = .ok (.aload_n 0, 1) := by decide +kernel
theorem dX9_init_74 : decode cX9_init 74 = .ok (.bipush 10, 2) := by decide +kernel
theorem dX9_init_76 : decode cX9_init 76 = .ok (.newarray .int, 2) := by decide +kernel
theorem dX9_init_78 : decode cX9_init 78 = .ok (.putfield 37, 3) := by decide +kernel
theorem dX9_init_81 : decode cX9_init 81 = .ok (.aload_n 0, 1) := by decide +kernel
theorem dX9_init_82 : decode cX9_init 82 = .ok (.bipush 9, 2) := by decide +kernel
theorem dX9_init_84 : decode cX9_init 84 = .ok (.newarray .long, 2) := by decide +kernel
theorem dX9_init_86 : decode cX9_init 86 = .ok (.putfield 40, 3) := by decide +kernel
theorem dX9_init_89 : decode cX9_init 89 = .ok (.aload_n 0, 1) := by decide +kernel
theorem dX9_init_90 : decode cX9_init 90 = .ok (.bipush 9, 2) := by decide +kernel
theorem dX9_init_92 : decode cX9_init 92 = .ok (.newarray .long, 2) := by decide +kernel
theorem dX9_init_94 : decode cX9_init 94 = .ok (.putfield 44, 3) := by decide +kernel
theorem dX9_init_97 : decode cX9_init 97 = .ok (.aload_n 0, 1) := by decide +kernel
theorem dX9_init_98 : decode cX9_init 98 = .ok (.bipush 10, 2) := by decide +kernel
theorem dX9_init_100 : decode cX9_init 100 = .ok (.newarray .int, 2) := by decide +kernel
theorem dX9_init_102 : decode cX9_init 102 = .ok (.putfield 47, 3) := by decide +kernel
theorem dX9_init_105 : decode cX9_init 105 = .ok (.aload_n 0, 1) := by decide +kernel
theorem dX9_init_106 : decode cX9_init 106 = .ok (.iconst 4, 1) := by decide +kernel
theorem dX9_init_107 : decode cX9_init 107 = .ok (.newarray .boolean, 2) := by decide +kernel
theorem dX9_init_109 : decode cX9_init 109 = .ok (.putfield 50, 3) := by decide +kernel
theorem dX9_init_112 : decode cX9_init 112 = .ok (.aload_n 0, 1) := by decide +kernel
theorem dX9_init_113 : decode cX9_init 113 = .ok (.iconst 4, 1) := by decide +kernel
theorem dX9_init_114 : decode cX9_init 114 = .ok (.newarray .int, 2) := by decide +kernel
theorem dX9_init_116 : decode cX9_init 116 = .ok (.putfield 54, 3) := by decide +kernel
theorem dX9_init_119 : decode cX9_init 119 = .ok (.aload_n 0, 1) := by decide +kernel
theorem dX9_init_120 : decode cX9_init 120 = .ok (.iconst 4, 1) := by decide +kernel
theorem dX9_init_121 : decode cX9_init 121 = .ok (.newarray .int, 2) := by decide +kernel
theorem dX9_init_123 : decode cX9_init 123 = .ok (.putfield 57, 3) := by decide +kernel
theorem dX9_init_126 : decode cX9_init 126 = .ok (.aload_n 0, 1) := by decide +kernel
theorem dX9_init_127 : decode cX9_init 127 = .ok (.sipush 192, 3) := by decide +kernel
theorem dX9_init_130 : decode cX9_init 130 = .ok (.newarray .int, 2) := by decide +kernel
theorem dX9_init_132 : decode cX9_init 132 = .ok (.putfield 60, 3) := by decide +kernel
theorem dX9_init_135 : decode cX9_init 135 = .ok (.aload_n 0, 1) := by decide +kernel
theorem dX9_init_136 : decode cX9_init 136 = .ok (.bipush 48, 2) := by decide +kernel
theorem dX9_init_138 : decode cX9_init 138 = .ok (.newarray .int, 2) := by decide +kernel
theorem dX9_init_140 : decode cX9_init 140 = .ok (.putfield 63, 3) := by decide +kernel
theorem dX9_init_143 : decode cX9_init 143 = .ok (.aload_n 0, 1) := by decide +kernel
theorem dX9_init_144 : decode cX9_init 144 = .ok (.getfield 7, 3) := by decide +kernel
theorem dX9_init_147 : decode cX9_init 147 = .ok (.iconst 0, 1) := by decide +kernel
theorem dX9_init_148 : decode cX9_init 148 = .ok (.bipush 12, 2) := by decide +kernel
theorem dX9_init_150 : decode cX9_init 150 = .ok (.iastore, 1) := by decide +kernel
theorem dX9_init_151 : decode cX9_init 151 = .ok (.aload_n 0, 1) := by decide +kernel
theorem dX9_init_152 : decode cX9_init 152 = .ok (.getfield 7, 3) := by decide +kernel
theorem dX9_init_155 : decode cX9_init 155 = .ok (.iconst 1, 1) := by decide +kernel
theorem dX9_init_156 : decode cX9_init 156 = .ok (.bipush 45, 2) := by decide +kernel
theorem dX9_init_158 : decode cX9_init 158 = .ok (.iastore, 1) := by decide +kernel
theorem dX9_init_159 : decode cX9_init 159 = .ok (.aload_n 0, 1) := by decide +kernel
theorem dX9_init_160 : decode cX9_init 160 = .ok (.getfield 7, 3) := by decide +kernel
theorem dX9_init_163 : decode cX9_init 163 = .ok (.iconst 2, 1) := by decide +kernel
theorem dX9_init_164 : decode cX9_init 164 = .ok (.bipush 9, 2) := by decide +kernel
theorem dX9_init_166 : decode cX9_init 166 = .ok (.iastore, 1) := by decide +kernel
theorem dX9_init_167 : decode cX9_init 167 = .ok (.iconst 0, 1) := by decide +kernel
theorem dX9_init_168 : decode cX9_init 168 = .ok (.istore_n 1, 1) := by decide +kernel
theorem dX9_init_169 : decode cX9_init 169 = .ok (.iload_n 1, 1) := by decide +kernel
theorem dX9_init_170 : decode cX9_init 170 = .ok (.iconst 3, 1) := by decide +kernel
theorem dX9_init_171 : decode cX9_init 171 = .ok (.if_icmp .ge 16, 3) := by decide +kernel
theorem dX9_init_174 : decode cX9_init 174 = .ok (.aload_n 0, 1) := by decide +kernel
theorem dX9_init_175 : decode cX9_init 175 = .ok (.getfield 13, 3) := by decide +kernel
theorem dX9_init_178 : decode cX9_init 178 = .ok (.iload_n 1, 1) := by decide +kernel
theorem dX9_init_179 : decode cX9_init 179 = .ok (.iconst 1, 1) := by decide +kernel
theorem dX9_init_180 : decode cX9_init 180 = .ok (.iastore, 1) := by decide +kernel
theorem dX9_init_181 : decode cX9_init 181 = .ok (.iinc 1 1, 3) := by decide +kernel
theorem dX9_init_184 : decode cX9_init 184 = .ok (.goto (-15), 3) := by decide +kernel
theorem dX9_init_187 : decode cX9_init 187 = .ok (.iconst 0, 1) := by decide +kernel
theorem dX9_init_188 : decode cX9_init 188 = .ok (.istore_n 1, 1) := by decide +kernel
theorem dX9_init_189 : decode cX9_init 189 = .ok (.iload_n 1, 1) := by decide +kernel
theorem dX9_init_190 : decode cX9_init 190 = .ok (.bipush 10, 2) := by decide +kernel
theorem dX9_init_192 : decode cX9_init 192 = .ok (.if_icmp .ge 16, 3) := by decide +kernel
theorem dX9_init_195 : decode cX9_init 195 = .ok (.aload_n 0, 1) := by decide +kernel
theorem dX9_init_196 : decode cX9_init 196 = .ok (.getfield 31, 3) := by decide +kernel
theorem dX9_init_199 : decode cX9_init 199 = .ok (.iload_n 1, 1) := by decide +kernel
theorem dX9_init_200 : decode cX9_init 200 = .ok (.iconst (-1), 1) := by decide +kernel
theorem dX9_init_201 : decode cX9_init 201 = .ok (.iastore, 1) := by decide +kernel
theorem dX9_init_202 : decode cX9_init 202 = .ok (.iinc 1 1, 3) := by decide +kernel
theorem dX9_init_205 : decode cX9_init 205 = .ok (.goto (-16), 3) := by decide +kernel
theorem dX9_init_208 : decode cX9_init 208 = .ok (.aload_n 0, 1) := by decide +kernel
theorem dX9_init_209 : decode cX9_init 209 = .ok (.getfield 16, 3) := by decide +kernel
theorem dX9_init_212 : decode cX9_init 212 = .ok (.iconst 1, 1) := by decide +kernel
theorem dX9_init_213 : decode cX9_init 213 = .ok (.sipush 200, 3) := by decide +kernel
theorem dX9_init_216 : decode cX9_init 216 = .ok (.iastore, 1) := by decide +kernel
theorem dX9_init_217 : decode cX9_init 217 = .ok (.aload_n 0, 1) := by decide +kernel
theorem dX9_init_218 : decode cX9_init 218 = .ok (.getfield 16, 3) := by decide +kernel
theorem dX9_init_221 : decode cX9_init 221 = .ok (.iconst 2, 1) := by decide +kernel
theorem dX9_init_222 : decode cX9_init 222 = .ok (.iconst 2, 1) := by decide +kernel
theorem dX9_init_223 : decode cX9_init 223 = .ok (.iastore, 1) := by decide +kernel
theorem dX9_init_224 : decode cX9_init 224 = .ok (.aload_n 0, 1) := by decide +kernel
theorem dX9_init_225 : decode cX9_init 225 = .ok (.getfield 16, 3) := by decide +kernel
theorem dX9_init_228 : decode cX9_init 228 = .ok (.iconst 3, 1) := by decide +kernel
theorem dX9_init_229 : decode cX9_init 229 = .ok (.iconst 5, 1) := by decide +kernel
theorem dX9_init_230 : decode cX9_init 230 = .ok (.iastore, 1) := by decide +kernel
theorem dX9_init_231 : decode cX9_init 231 = .ok (.return_, 1) := by decide +kernel
theorem dX9_in_0 : decode cX9_in 0 = .ok (.iload_n 0, 1) := by decide +kernel
theorem dX9_in_1 : decode cX9_in 1 = .ok (.iload_n 1, 1) := by decide +kernel
theorem dX9_in_2 : decode cX9_in 2 = .ok (.if_icmp .lt 12, 3) := by decide +kernel
theorem dX9_in_5 : decode cX9_in 5 = .ok (.iload_n 0, 1) := by decide +kernel
theorem dX9_in_6 : decode cX9_in 6 = .ok (.iload_n 2, 1) := by decide +kernel
theorem dX9_in_7 : decode cX9_in 7 = .ok (.if_icmp .gt 7, 3) := by decide +kernel
theorem dX9_in_10 : decode cX9_in 10 = .ok (.iconst 1, 1) := by decide +kernel
theorem dX9_in_11 : decode cX9_in 11 = .ok (.goto 4, 3) := by decide +kernel
theorem dX9_in_14 : decode cX9_in 14 = .ok (.iconst 0, 1) := by decide +kernel
theorem dX9_in_15 : decode cX9_in 15 = .ok (.ireturn, 1) := by decide +kernel
theorem dX9_amount_0 : decode cX9_amount 0 = .ok (.iload_n 0, 1) := by decide +kernel
theorem dX9_amount_1 : decode cX9_amount 1 = .ok (.ifCond .ge 8, 3) := by decide +kernel
theorem dX9_amount_4 : decode cX9_amount 4 = .ok (.iload_n 0, 1) := by decide +kernel
theorem dX9_amount_5 : decode cX9_amount 5 = .ok (.ineg, 1) := by decide +kernel
theorem dX9_amount_6 : decode cX9_amount 6 = .ok (.goto 4, 3) := by decide +kernel
theorem dX9_amount_9 : decode cX9_amount 9 = .ok (.iload_n 0, 1) := by decide +kernel
theorem dX9_amount_10 : decode cX9_amount 10 = .ok (.ireturn, 1) := by decide +kernel
theorem dX9_no_0 : decode cX9_no 0 = .ok (.ldc2_w 66, 3) := by decide +kernel
theorem dX9_no_3 : decode cX9_no 3 = .ok (.iload_n 0, 1) := by decide +kernel
theorem dX9_no_4 : decode cX9_no 4 = .ok (.i2l, 1) := by decide +kernel
theorem dX9_no_5 : decode cX9_no 5 = .ok (.lsub, 1) := by decide +kernel
theorem dX9_no_6 : decode cX9_no 6 = .ok (.lreturn, 1) := by decide +kernel
theorem dX9_lowest_0 : decode cX9_lowest 0 = .ok (.lload_n 0, 1) := by decide +kernel
theorem dX9_lowest_1 : decode cX9_lowest 1 = .ok (.lstore 5, 2) := by decide +kernel
theorem dX9_lowest_3 : decode cX9_lowest 3 = .ok (.lload_n 2, 1) := by decide +kernel
theorem dX9_lowest_4 : decode cX9_lowest 4 = .ok (.lstore 7, 2) := by decide +kernel
theorem dX9_lowest_6 : decode cX9_lowest 6 = .ok (.lload 7, 2) := by decide +kernel
theorem dX9_lowest_8 : decode cX9_lowest 8 = .ok (.lconst 0, 1) := by decide +kernel
theorem dX9_lowest_9 : decode cX9_lowest 9 = .ok (.lcmp, 1) := by decide +kernel
theorem dX9_lowest_10 : decode cX9_lowest 10 = .ok (.ifCond .eq 21, 3) := by decide +kernel
theorem dX9_lowest_13 : decode cX9_lowest 13 = .ok (.lload 5, 2) := by decide +kernel
theorem dX9_lowest_15 : decode cX9_lowest 15 = .ok (.lload 7, 2) := by decide +kernel
theorem dX9_lowest_17 : decode cX9_lowest 17 = .ok (.lrem, 1) := by decide +kernel
theorem dX9_lowest_18 : decode cX9_lowest 18 = .ok (.lstore 9, 2) := by decide +kernel
theorem dX9_lowest_20 : decode cX9_lowest 20 = .ok (.lload 7, 2) := by decide +kernel
theorem dX9_lowest_22 : decode cX9_lowest 22 = .ok (.lstore 5, 2) := by decide +kernel
theorem dX9_lowest_24 : decode cX9_lowest 24 = .ok (.lload 9, 2) := by decide +kernel
theorem dX9_lowest_26 : decode cX9_lowest 26 = .ok (.lstore 7, 2) := by decide +kernel
theorem dX9_lowest_28 : decode cX9_lowest 28 = .ok (.goto (-22), 3) := by decide +kernel
theorem dX9_lowest_31 : decode cX9_lowest 31 = .ok (.iload 4, 2) := by decide +kernel
theorem dX9_lowest_33 : decode cX9_lowest 33 = .ok (.ifCond .ne 10, 3) := by decide +kernel
theorem dX9_lowest_36 : decode cX9_lowest 36 = .ok (.lload_n 0, 1) := by decide +kernel
theorem dX9_lowest_37 : decode cX9_lowest 37 = .ok (.lload 5, 2) := by decide +kernel
theorem dX9_lowest_39 : decode cX9_lowest 39 = .ok (.ldiv, 1) := by decide +kernel
theorem dX9_lowest_40 : decode cX9_lowest 40 = .ok (.goto 7, 3) := by decide +kernel
theorem dX9_lowest_43 : decode cX9_lowest 43 = .ok (.lload_n 2, 1) := by decide +kernel
theorem dX9_lowest_44 : decode cX9_lowest 44 = .ok (.lload 5, 2) := by decide +kernel
theorem dX9_lowest_46 : decode cX9_lowest 46 = .ok (.ldiv, 1) := by decide +kernel
theorem dX9_lowest_47 : decode cX9_lowest 47 = .ok (.lreturn, 1) := by decide +kernel
theorem dX9_measure_0 : decode cX9_measure 0 = .ok (.iload_n 1, 1) := by decide +kernel
theorem dX9_measure_1 : decode cX9_measure 1 = .ok (.iconst 0, 1) := by decide +kernel
theorem dX9_measure_2 : decode cX9_measure 2 = .ok (.iconst 2, 1) := by decide +kernel
theorem dX9_measure_3 : decode cX9_measure 3 = .ok (.invokestatic 68, 3) := by decide +kernel
theorem dX9_measure_6 : decode cX9_measure 6 = .ok (.ifCond .eq 32, 3) := by decide +kernel
theorem dX9_measure_9 : decode cX9_measure 9 = .ok (.iload_n 2, 1) := by decide +kernel
theorem dX9_measure_10 : decode cX9_measure 10 = .ok (.iconst 0, 1) := by decide +kernel
theorem dX9_measure_11 : decode cX9_measure 11 = .ok (.iconst 1, 1) := by decide +kernel
theorem dX9_measure_12 : decode cX9_measure 12 = .ok (.invokestatic 68, 3) := by decide +kernel
theorem dX9_measure_15 : decode cX9_measure 15 = .ok (.ifCond .eq 23, 3) := by decide +kernel
theorem dX9_measure_18 : decode cX9_measure 18 = .ok (.iload_n 3, 1) := by decide +kernel
theorem dX9_measure_19 : decode cX9_measure 19 = .ok (.iconst 1, 1) := by decide +kernel
theorem dX9_measure_20 : decode cX9_measure 20 = .ok (.iload_n 2, 1) := by decide +kernel
theorem dX9_measure_21 : decode cX9_measure 21 = .ok (.ifCond .ne 9, 3) := by decide +kernel
theorem dX9_measure_24 : decode cX9_measure 24 = .ok (.sipush 999, 3) := by decide +kernel
theorem dX9_measure_27 : decode cX9_measure 27 = .ok (.goto 5, 3) := by decide +kernel
theorem dX9_measure_30 : decode cX9_measure 30 = .ok (.bipush 9, 2) := by decide +kernel
theorem dX9_measure_32 : decode cX9_measure 32 = .ok (.invokestatic 68, 3) := by decide +kernel
theorem dX9_measure_35 : decode cX9_measure 35 = .ok (.ifCond .ne 6, 3) := by decide +kernel
theorem dX9_measure_38 : decode cX9_measure 38 = .ok (.bipush (-2), 2) := by decide +kernel
theorem dX9_measure_40 : decode cX9_measure 40 = .ok (.ireturn, 1) := by decide +kernel
theorem dX9_measure_41 : decode cX9_measure 41 = .ok (.iload_n 2, 1) := by decide +kernel
theorem dX9_measure_42 : decode cX9_measure 42 = .ok (.ifCond .ne 12, 3) := by decide +kernel
theorem dX9_measure_45 : decode cX9_measure 45 = .ok (.aload_n 0, 1) := by decide +kernel
theorem dX9_measure_46 : decode cX9_measure 46 = .ok (.getfield 7, 3) := by decide +kernel
theorem dX9_measure_49 : decode cX9_measure 49 = .ok (.iload_n 1, 1) := by decide +kernel
theorem dX9_measure_50 : decode cX9_measure 50 = .ok (.iaload, 1) := by decide +kernel
theorem dX9_measure_51 : decode cX9_measure 51 = .ok (.goto 9, 3) := by decide +kernel
theorem dX9_measure_54 : decode cX9_measure 54 = .ok (.aload_n 0, 1) := by decide +kernel
theorem dX9_measure_55 : decode cX9_measure 55 = .ok (.getfield 13, 3) := by decide +kernel
theorem dX9_measure_58 : decode cX9_measure 58 = .ok (.iload_n 1, 1) := by decide +kernel
theorem dX9_measure_59 : decode cX9_measure 59 = .ok (.iaload, 1) := by decide +kernel
theorem dX9_measure_60 : decode cX9_measure 60 = .ok (.istore 4, 2) := by decide +kernel
theorem dX9_measure_62 : decode cX9_measure 62 = .ok (.iload_n 2, 1) := by decide +kernel
theorem dX9_measure_63 : decode cX9_measure 63 = .ok (.ifCond .ne 13, 3) := by decide +kernel
theorem dX9_measure_66 : decode cX9_measure 66 = .ok (.aload_n 0, 1) := by decide +kernel
theorem dX9_measure_67 : decode cX9_measure 67 = .ok (.getfield 7, 3) := by decide +kernel
theorem dX9_measure_70 : decode cX9_measure 70 = .ok (.iload_n 1, 1) := by decide +kernel
theorem dX9_measure_71 : decode cX9_measure 71 = .ok (.iload_n 3, 1) := by decide +kernel
theorem dX9_measure_72 : decode cX9_measure 72 = .ok (.iastore, 1) := by decide +kernel
theorem dX9_measure_73 : decode cX9_measure 73 = .ok (.goto 10, 3) := by decide +kernel
theorem dX9_measure_76 : decode cX9_measure 76 = .ok (.aload_n 0, 1) := by decide +kernel
theorem dX9_measure_77 : decode cX9_measure 77 = .ok (.getfield 13, 3) := by decide +kernel
theorem dX9_measure_80 : decode cX9_measure 80 = .ok (.iload_n 1, 1) := by decide +kernel
theorem dX9_measure_81 : decode cX9_measure 81 = .ok (.iload_n 3, 1) := by decide +kernel
theorem dX9_measure_82 : decode cX9_measure 82 = .ok (.iastore, 1) := by decide +kernel
theorem dX9_measure_83 : decode cX9_measure 83 = .ok (.iload 4, 2) := by decide +kernel
theorem dX9_measure_85 : decode cX9_measure 85 = .ok (.ireturn, 1) := by decide +kernel
theorem dX9_type_0 : decode cX9_type 0 = .ok (.iload_n 1, 1) := by decide +kernel
theorem dX9_type_1 : decode cX9_type 1 = .ok (.iconst 0, 1) := by decide +kernel
theorem dX9_type_2 : decode cX9_type 2 = .ok (.sipush 255, 3) := by decide +kernel
theorem dX9_type_5 : decode cX9_type 5 = .ok (.invokestatic 68, 3) := by decide +kernel
theorem dX9_type_8 : decode cX9_type 8 = .ok (.ifCond .ne 6, 3) := by decide +kernel
theorem dX9_type_11 : decode cX9_type 11 = .ok (.bipush (-2), 2) := by decide +kernel
theorem dX9_type_13 : decode cX9_type 13 = .ok (.ireturn, 1) := by decide +kernel
theorem dX9_type_14 : decode cX9_type 14 = .ok (.aload_n 0, 1) := by decide +kernel
theorem dX9_type_15 : decode cX9_type 15 = .ok (.getfield 72, 3) := by decide +kernel
theorem dX9_type_18 : decode cX9_type 18 = .ok (.bipush 80, 2) := by decide +kernel
theorem dX9_type_20 : decode cX9_type 20 = .ok (.if_icmp .ne 6, 3) := by decide +kernel
theorem dX9_type_23 : decode cX9_type 23 = .ok (.bipush (-4), 2) := by decide +kernel
theorem dX9_type_25 : decode cX9_type 25 = .ok (.ireturn, 1) := by decide +kernel
theorem dX9_type_26 : decode cX9_type 26 = .ok (.aload_n 0, 1) := by decide +kernel
theorem dX9_type_27 : decode cX9_type 27 = .ok (.getfield 19, 3) := by decide +kernel
theorem dX9_type_30 : decode cX9_type 30 = .ok (.aload_n 0, 1) := by decide +kernel
theorem dX9_type_31 : decode cX9_type 31 = .ok (.getfield 72, 3) := by decide +kernel
theorem dX9_type_34 : decode cX9_type 34 = .ok (.iload_n 1, 1) := by decide +kernel
theorem dX9_type_35 : decode cX9_type 35 = .ok (.iastore, 1) := by decide +kernel
theorem dX9_type_36 : decode cX9_type 36 = .ok (.aload_n 0, 1) := by decide +kernel
theorem dX9_type_37 : decode cX9_type 37 = .ok (.dup, 1) := by decide +kernel
theorem dX9_type_38 : decode cX9_type 38 = .ok (.getfield 72, 3) := by decide +kernel
theorem dX9_type_41 : decode cX9_type 41 = .ok (.iconst 1, 1) := by decide +kernel
theorem dX9_type_42 : decode cX9_type 42 = .ok (.iadd, 1) := by decide +kernel
theorem dX9_type_43 : decode cX9_type 43 = .ok (.putfield 72, 3) := by decide +kernel
theorem dX9_type_46 : decode cX9_type 46 = .ok (.aload_n 0, 1) := by decide +kernel
theorem dX9_type_47 : decode cX9_type 47 = .ok (.getfield 72, 3) := by decide +kernel
theorem dX9_type_50 : decode cX9_type 50 = .ok (.ireturn, 1) := by decide +kernel
theorem dX9_wipe_0 : decode cX9_wipe 0 = .ok (.aload_n 0, 1) := by decide +kernel
theorem dX9_wipe_1 : decode cX9_wipe 1 = .ok (.getfield 72, 3) := by decide +kernel
theorem dX9_wipe_4 : decode cX9_wipe 4 = .ok (.istore_n 1, 1) := by decide +kernel
theorem dX9_wipe_5 : decode cX9_wipe 5 = .ok (.aload_n 0, 1) := by decide +kernel
theorem dX9_wipe_6 : decode cX9_wipe 6 = .ok (.iconst 0, 1) := by decide +kernel
theorem dX9_wipe_7 : decode cX9_wipe 7 = .ok (.putfield 72, 3) := by decide +kernel
theorem dX9_wipe_10 : decode cX9_wipe 10 = .ok (.iload_n 1, 1) := by decide +kernel
theorem dX9_wipe_11 : decode cX9_wipe 11 = .ok (.ireturn, 1) := by decide +kernel
theorem dX9_byteAt_0 : decode cX9_byteAt 0 = .ok (.iload_n 1, 1) := by decide +kernel
theorem dX9_byteAt_1 : decode cX9_byteAt 1 = .ok (.aload_n 0, 1) := by decide +kernel
theorem dX9_byteAt_2 : decode cX9_byteAt 2 = .ok (.getfield 72, 3) := by decide +kernel
theorem dX9_byteAt_5 : decode cX9_byteAt 5 = .ok (.if_icmp .ge 12, 3) := by decide +kernel
theorem dX9_byteAt_8 : decode cX9_byteAt 8 = .ok (.aload_n 0, 1) := by decide +kernel
theorem dX9_byteAt_9 : decode cX9_byteAt 9 = .ok (.getfield 19, 3) := by decide +kernel
theorem dX9_byteAt_12 : decode cX9_byteAt 12 = .ok (.iload_n 1, 1) := by decide +kernel
theorem dX9_byteAt_13 : decode cX9_byteAt 13 = .ok (.iaload, 1) := by decide +kernel
theorem dX9_byteAt_14 : decode cX9_byteAt 14 = .ok (.goto 4, 3) := by decide +kernel
theorem dX9_byteAt_17 : decode cX9_byteAt 17 = .ok (.iconst (-1), 1) := by decide +kernel
theorem dX9_byteAt_18 : decode cX9_byteAt 18 = .ok (.ireturn, 1) := by decide +kernel
theorem dX9_figures_0 : decode cX9_figures 0 = .ok (.iconst 0, 1) := by decide +kernel
theorem dX9_figures_1 : decode cX9_figures 1 = .ok (.istore_n 2, 1) := by decide +kernel
theorem dX9_figures_2 : decode cX9_figures 2 = .ok (.iload_n 2, 1) := by decide +kernel
theorem dX9_figures_3 : decode cX9_figures 3 = .ok (.iconst 2, 1) := by decide +kernel
theorem dX9_figures_4 : decode cX9_figures 4 = .ok (.if_icmp .ge 26, 3) := by decide +kernel
theorem dX9_figures_7 : decode cX9_figures 7 = .ok (.aload_n 0, 1) := by decide +kernel
theorem dX9_figures_8 : decode cX9_figures 8 = .ok (.iload_n 1, 1) := by decide +kernel
theorem dX9_figures_9 : decode cX9_figures 9 = .ok (.iload_n 2, 1) := by decide +kernel
theorem dX9_figures_10 : decode cX9_figures 10 = .ok (.iadd, 1) := by decide +kernel
theorem dX9_figures_11 : decode cX9_figures 11 = .ok (.invokevirtual 76, 3) := by decide +kernel
theorem dX9_figures_14 : decode cX9_figures 14 = .ok (.bipush 48, 2) := by decide +kernel
theorem dX9_figures_16 : decode cX9_figures 16 = .ok (.bipush 57, 2) := by decide +kernel
theorem dX9_figures_18 : decode cX9_figures 18 = .ok (.invokestatic 68, 3) := by decide +kernel
theorem dX9_figures_21 : decode cX9_figures 21 = .ok (.ifCond .eq 9, 3) := by decide +kernel
theorem dX9_figures_24 : decode cX9_figures 24 = .ok (.iinc 2 1, 3) := by decide +kernel
theorem dX9_figures_27 : decode cX9_figures 27 = .ok (.goto (-25), 3) := by decide +kernel
theorem dX9_figures_30 : decode cX9_figures 30 = .ok (.iload_n 2, 1) := by decide +kernel
theorem dX9_figures_31 : decode cX9_figures 31 = .ok (.ireturn, 1) := by decide +kernel
theorem dX9_numberAt_0 : decode cX9_numberAt 0 = .ok (.aload_n 0, 1) := by decide +kernel
theorem dX9_numberAt_1 : decode cX9_numberAt 1 = .ok (.iload_n 1, 1) := by decide +kernel
theorem dX9_numberAt_2 : decode cX9_numberAt 2 = .ok (.invokevirtual 80, 3) := by decide +kernel
theorem dX9_numberAt_5 : decode cX9_numberAt 5 = .ok (.istore_n 2, 1) := by decide +kernel
theorem dX9_numberAt_6 : decode cX9_numberAt 6 = .ok (.iload_n 2, 1) := by decide +kernel
theorem dX9_numberAt_7 : decode cX9_numberAt 7 = .ok (.ifCond .ne 7, 3) := by decide +kernel
theorem dX9_numberAt_10 : decode cX9_numberAt 10 = .ok (.iconst (-1), 1) := by decide +kernel
theorem dX9_numberAt_11 : decode cX9_numberAt 11 = .ok (.goto 41, 3) := by decide +kernel
theorem dX9_numberAt_14 : decode cX9_numberAt 14 = .ok (.iload_n 2, 1) := by decide +kernel
theorem dX9_numberAt_15 : decode cX9_numberAt 15 = .ok (.iconst 1, 1) := by decide +kernel
theorem dX9_numberAt_16 : decode cX9_numberAt 16 = .ok (.if_icmp .ne 14, 3) := by decide +kernel
theorem dX9_numberAt_19 : decode cX9_numberAt 19 = .ok (.aload_n 0, 1) := by decide +kernel
theorem dX9_numberAt_20 : decode cX9_numberAt 20 = .ok (.iload_n 1, 1) := by decide +kernel
theorem dX9_numberAt_21 : decode cX9_numberAt 21 = .ok (.invokevirtual 76, 3) := by decide +kernel
theorem dX9_numberAt_24 : decode cX9_numberAt 24 = .ok (.bipush 48, 2) := by decide +kernel
theorem dX9_numberAt_26 : decode cX9_numberAt 26 = .ok (.isub, 1) := by decide +kernel
theorem dX9_numberAt_27 : decode cX9_numberAt 27 = .ok (.goto 25, 3) := by decide +kernel
theorem dX9_numberAt_30 : decode cX9_numberAt 30 = .ok (.bipush 10, 2) := by decide +kernel
theorem dX9_numberAt_32 : decode cX9_numberAt 32 = .ok (.aload_n 0, 1) := by decide +kernel
theorem dX9_numberAt_33 : decode cX9_numberAt 33 = .ok (.iload_n 1, 1) := by decide +kernel
theorem dX9_numberAt_34 : decode cX9_numberAt 34 = .ok (.invokevirtual 76, 3) := by decide +kernel
theorem dX9_numberAt_37 : decode cX9_numberAt 37 = .ok (.bipush 48, 2) := by decide +kernel
theorem dX9_numberAt_39 : decode cX9_numberAt 39 = .ok (.isub, 1) := by decide +kernel
theorem dX9_numberAt_40 : decode cX9_numberAt 40 = .ok (.imul, 1) := by decide +kernel
theorem dX9_numberAt_41 : decode cX9_numberAt 41 = .ok (.aload_n 0, 1) := by decide +kernel
theorem dX9_numberAt_42 : decode cX9_numberAt 42 = .ok (.iload_n 1, 1) := by decide +kernel
theorem dX9_numberAt_43 : decode cX9_numberAt 43 = .ok (.iconst 1, 1) := by decide +kernel
theorem dX9_numberAt_44 : decode cX9_numberAt 44 = .ok (.iadd, 1) := by decide +kernel
theorem dX9_numberAt_45 : decode cX9_numberAt 45 = .ok (.invokevirtual 76, 3) := by decide +kernel
theorem dX9_numberAt_48 : decode cX9_numberAt 48 = .ok (.iadd, 1) := by decide +kernel
theorem dX9_numberAt_49 : decode cX9_numberAt 49 = .ok (.bipush 48, 2) := by decide +kernel
theorem dX9_numberAt_51 : decode cX9_numberAt 51 = .ok (.isub, 1) := by decide +kernel
theorem dX9_numberAt_52 : decode cX9_numberAt 52 = .ok (.ireturn, 1) := by decide +kernel
theorem dX9_reads_0 : decode cX9_reads 0 = .ok (.aload_n 0, 1) := by decide +kernel
theorem dX9_reads_1 : decode cX9_reads 1 = .ok (.iconst 0, 1) := by decide +kernel
theorem dX9_reads_2 : decode cX9_reads 2 = .ok (.putfield 83, 3) := by decide +kernel
theorem dX9_reads_5 : decode cX9_reads 5 = .ok (.iconst 0, 1) := by decide +kernel
theorem dX9_reads_6 : decode cX9_reads 6 = .ok (.istore_n 1, 1) := by decide +kernel
theorem dX9_reads_7 : decode cX9_reads 7 = .ok (.iconst 0, 1) := by decide +kernel
theorem dX9_reads_8 : decode cX9_reads 8 = .ok (.istore_n 2, 1) := by decide +kernel
theorem dX9_reads_9 : decode cX9_reads 9 = .ok (.iload_n 2, 1) := by decide +kernel
theorem dX9_reads_10 : decode cX9_reads 10 = .ok (.aload_n 0, 1) := by decide +kernel
theorem dX9_reads_11 : decode cX9_reads 11 = .ok (.getfield 72, 3) := by decide +kernel
theorem dX9_reads_14 : decode cX9_reads 14 = .ok (.if_icmp .lt 7, 3) := by decide +kernel
theorem dX9_reads_17 : decode cX9_reads 17 = .ok (.iload_n 2, 1) := by decide +kernel
theorem dX9_reads_18 : decode cX9_reads 18 = .ok (.ifCond .le 253, 3) := by decide +kernel
theorem dX9_reads_21 : decode cX9_reads 21 = .ok (.iload_n 1, 1) := by decide +kernel
theorem dX9_reads_22 : decode cX9_reads 22 = .ok (.bipush 10, 2) := by decide +kernel
theorem dX9_reads_24 : decode cX9_reads 24 = .ok (.if_icmp .eq 17, 3) := by decide +kernel
theorem dX9_reads_27 : decode cX9_reads 27 = .ok (.aload_n 0, 1) := by decide +kernel
theorem dX9_reads_28 : decode cX9_reads 28 = .ok (.iload_n 2, 1) := by decide +kernel
theorem dX9_reads_29 : decode cX9_reads 29 = .ok (.invokevirtual 86, 3) := by decide +kernel
theorem dX9_reads_32 : decode cX9_reads 32 = .ok (.iconst 1, 1) := by decide +kernel
theorem dX9_reads_33 : decode cX9_reads 33 = .ok (.bipush 99, 2) := by decide +kernel
theorem dX9_reads_35 : decode cX9_reads 35 = .ok (.invokestatic 68, 3) := by decide +kernel
theorem dX9_reads_38 : decode cX9_reads 38 = .ok (.ifCond .ne 5, 3) := by decide +kernel
theorem dX9_reads_41 : decode cX9_reads 41 = .ok (.iload_n 2, 1) := by decide +kernel
theorem dX9_reads_42 : decode cX9_reads 42 = .ok (.ireturn, 1) := by decide +kernel
theorem dX9_reads_43 : decode cX9_reads 43 = .ok (.aload_n 0, 1) := by decide +kernel
theorem dX9_reads_44 : decode cX9_reads 44 = .ok (.iload_n 2, 1) := by decide +kernel
theorem dX9_reads_45 : decode cX9_reads 45 = .ok (.invokevirtual 86, 3) := by decide +kernel
theorem dX9_reads_48 : decode cX9_reads 48 = .ok (.istore_n 3, 1) := by decide +kernel
theorem dX9_reads_49 : decode cX9_reads 49 = .ok (.iload_n 2, 1) := by decide +kernel
theorem dX9_reads_50 : decode cX9_reads 50 = .ok (.aload_n 0, 1) := by decide +kernel
theorem dX9_reads_51 : decode cX9_reads 51 = .ok (.iload_n 2, 1) := by decide +kernel
theorem dX9_reads_52 : decode cX9_reads 52 = .ok (.invokevirtual 80, 3) := by decide +kernel
theorem dX9_reads_55 : decode cX9_reads 55 = .ok (.iadd, 1) := by decide +kernel
theorem dX9_reads_56 : decode cX9_reads 56 = .ok (.istore_n 2, 1) := by decide +kernel
theorem dX9_reads_57 : decode cX9_reads 57 = .ok (.aload_n 0, 1) := by decide +kernel
theorem dX9_reads_58 : decode cX9_reads 58 = .ok (.iload_n 2, 1) := by decide +kernel
theorem dX9_reads_59 : decode cX9_reads 59 = .ok (.invokevirtual 76, 3) := by decide +kernel
theorem dX9_reads_62 : decode cX9_reads 62 = .ok (.istore 4, 2) := by decide +kernel
theorem dX9_reads_64 : decode cX9_reads 64 = .ok (.iload 4, 2) := by decide +kernel
theorem dX9_reads_66 : decode cX9_reads 66 = .ok (.bipush 102, 2) := by decide +kernel
theorem dX9_reads_68 : decode cX9_reads 68 = .ok (.if_icmp .eq 19, 3) := by decide +kernel
theorem dX9_reads_71 : decode cX9_reads 71 = .ok (.iload 4, 2) := by decide +kernel
theorem dX9_reads_73 : decode cX9_reads 73 = .ok (.bipush 101, 2) := by decide +kernel
theorem dX9_reads_75 : decode cX9_reads 75 = .ok (.if_icmp .eq 12, 3) := by decide +kernel
theorem dX9_reads_78 : decode cX9_reads 78 = .ok (.iload 4, 2) := by decide +kernel
theorem dX9_reads_80 : decode cX9_reads 80 = .ok (.bipush 115, 2) := by decide +kernel
theorem dX9_reads_82 : decode cX9_reads 82 = .ok (.if_icmp .eq 5, 3) := by decide +kernel
theorem dX9_reads_85 : decode cX9_reads 85 = .ok (.iload_n 2, 1) := by decide +kernel
theorem dX9_reads_86 : decode cX9_reads 86 = .ok (.ireturn, 1) := by decide +kernel
theorem dX9_reads_87 : decode cX9_reads 87 = .ok (.iload 4, 2) := by decide +kernel
theorem dX9_reads_89 : decode cX9_reads 89 = .ok (.bipush 102, 2) := by decide +kernel
theorem dX9_reads_91 : decode cX9_reads 91 = .ok (.if_icmp .ne 7, 3) := by decide +kernel
theorem dX9_reads_94 : decode cX9_reads 94 = .ok (.iconst 0, 1) := by decide +kernel
theorem dX9_reads_95 : decode cX9_reads 95 = .ok (.goto 15, 3) := by decide +kernel
theorem dX9_reads_98 : decode cX9_reads 98 = .ok (.iload 4, 2) := by decide +kernel
theorem dX9_reads_100 : decode cX9_reads 100 = .ok (.bipush 101, 2) := by decide +kernel
theorem dX9_reads_102 : decode cX9_reads 102 = .ok (.if_icmp .ne 7, 3) := by decide +kernel
theorem dX9_reads_105 : decode cX9_reads 105 = .ok (.iconst 1, 1) := by decide +kernel
theorem dX9_reads_106 : decode cX9_reads 106 = .ok (.goto 4, 3) := by decide +kernel
theorem dX9_reads_109 : decode cX9_reads 109 = .ok (.iconst 2, 1) := by decide +kernel
theorem dX9_reads_110 : decode cX9_reads 110 = .ok (.istore 5, 2) := by decide +kernel
theorem dX9_reads_112 : decode cX9_reads 112 = .ok (.iinc 2 1, 3) := by decide +kernel
theorem dX9_reads_115 : decode cX9_reads 115 = .ok (.iconst 0, 1) := by decide +kernel
theorem dX9_reads_116 : decode cX9_reads 116 = .ok (.istore 6, 2) := by decide +kernel
theorem dX9_reads_118 : decode cX9_reads 118 = .ok (.aload_n 0, 1) := by decide +kernel
theorem dX9_reads_119 : decode cX9_reads 119 = .ok (.iload_n 2, 1) := by decide +kernel
theorem dX9_reads_120 : decode cX9_reads 120 = .ok (.invokevirtual 76, 3) := by decide +kernel
theorem dX9_reads_123 : decode cX9_reads 123 = .ok (.bipush 43, 2) := by decide +kernel
theorem dX9_reads_125 : decode cX9_reads 125 = .ok (.if_icmp .ne 37, 3) := by decide +kernel
theorem dX9_reads_128 : decode cX9_reads 128 = .ok (.iinc 2 1, 3) := by decide +kernel
theorem dX9_reads_131 : decode cX9_reads 131 = .ok (.aload_n 0, 1) := by decide +kernel
theorem dX9_reads_132 : decode cX9_reads 132 = .ok (.iload_n 2, 1) := by decide +kernel
theorem dX9_reads_133 : decode cX9_reads 133 = .ok (.invokevirtual 86, 3) := by decide +kernel
theorem dX9_reads_136 : decode cX9_reads 136 = .ok (.iconst 1, 1) := by decide +kernel
theorem dX9_reads_137 : decode cX9_reads 137 = .ok (.bipush 11, 2) := by decide +kernel
theorem dX9_reads_139 : decode cX9_reads 139 = .ok (.invokestatic 68, 3) := by decide +kernel
theorem dX9_reads_142 : decode cX9_reads 142 = .ok (.ifCond .ne 5, 3) := by decide +kernel
theorem dX9_reads_145 : decode cX9_reads 145 = .ok (.iload_n 2, 1) := by decide +kernel
theorem dX9_reads_146 : decode cX9_reads 146 = .ok (.ireturn, 1) := by decide +kernel
theorem dX9_reads_147 : decode cX9_reads 147 = .ok (.aload_n 0, 1) := by decide +kernel
theorem dX9_reads_148 : decode cX9_reads 148 = .ok (.iload_n 2, 1) := by decide +kernel
theorem dX9_reads_149 : decode cX9_reads 149 = .ok (.invokevirtual 86, 3) := by decide +kernel
theorem dX9_reads_152 : decode cX9_reads 152 = .ok (.istore 6, 2) := by decide +kernel
theorem dX9_reads_154 : decode cX9_reads 154 = .ok (.iload_n 2, 1) := by decide +kernel
theorem dX9_reads_155 : decode cX9_reads 155 = .ok (.aload_n 0, 1) := by decide +kernel
theorem dX9_reads_156 : decode cX9_reads 156 = .ok (.iload_n 2, 1) := by decide +kernel
theorem dX9_reads_157 : decode cX9_reads 157 = .ok (.invokevirtual 80, 3) := by decide +kernel
theorem dX9_reads_160 : decode cX9_reads 160 = .ok (.iadd, 1) := by decide +kernel
theorem dX9_reads_161 : decode cX9_reads 161 = .ok (.istore_n 2, 1) := by decide +kernel
theorem dX9_reads_162 : decode cX9_reads 162 = .ok (.aload_n 0, 1) := by decide +kernel
theorem dX9_reads_163 : decode cX9_reads 163 = .ok (.iload_n 2, 1) := by decide +kernel
theorem dX9_reads_164 : decode cX9_reads 164 = .ok (.invokevirtual 76, 3) := by decide +kernel
theorem dX9_reads_167 : decode cX9_reads 167 = .ok (.bipush 61, 2) := by decide +kernel
theorem dX9_reads_169 : decode cX9_reads 169 = .ok (.if_icmp .eq 5, 3) := by decide +kernel
theorem dX9_reads_172 : decode cX9_reads 172 = .ok (.iload_n 2, 1) := by decide +kernel
theorem dX9_reads_173 : decode cX9_reads 173 = .ok (.ireturn, 1) := by decide +kernel
theorem dX9_reads_174 : decode cX9_reads 174 = .ok (.iinc 2 1, 3) := by decide +kernel
theorem dX9_reads_177 : decode cX9_reads 177 = .ok (.aload_n 0, 1) := by decide +kernel
theorem dX9_reads_178 : decode cX9_reads 178 = .ok (.iload_n 2, 1) := by decide +kernel
theorem dX9_reads_179 : decode cX9_reads 179 = .ok (.invokevirtual 76, 3) := by decide +kernel
theorem dX9_reads_182 : decode cX9_reads 182 = .ok (.bipush 48, 2) := by decide +kernel
theorem dX9_reads_184 : decode cX9_reads 184 = .ok (.bipush 56, 2) := by decide +kernel
theorem dX9_reads_186 : decode cX9_reads 186 = .ok (.invokestatic 68, 3) := by decide +kernel
theorem dX9_reads_189 : decode cX9_reads 189 = .ok (.ifCond .ne 5, 3) := by decide +kernel
theorem dX9_reads_192 : decode cX9_reads 192 = .ok (.iload_n 2, 1) := by decide +kernel
theorem dX9_reads_193 : decode cX9_reads 193 = .ok (.ireturn, 1) := by decide +kernel
theorem dX9_reads_194 : decode cX9_reads 194 = .ok (.aload_n 0, 1) := by decide +kernel
theorem dX9_reads_195 : decode cX9_reads 195 = .ok (.getfield 25, 3) := by decide +kernel
theorem dX9_reads_198 : decode cX9_reads 198 = .ok (.iload_n 1, 1) := by decide +kernel
theorem dX9_reads_199 : decode cX9_reads 199 = .ok (.aload_n 0, 1) := by decide +kernel
theorem dX9_reads_200 : decode cX9_reads 200 = .ok (.iload_n 2, 1) := by decide +kernel
theorem dX9_reads_201 : decode cX9_reads 201 = .ok (.invokevirtual 76, 3) := by decide +kernel
theorem dX9_reads_204 : decode cX9_reads 204 = .ok (.bipush 48, 2) := by decide +kernel
theorem dX9_reads_206 : decode cX9_reads 206 = .ok (.isub, 1) := by decide +kernel
theorem dX9_reads_207 : decode cX9_reads 207 = .ok (.iastore, 1) := by decide +kernel
theorem dX9_reads_208 : decode cX9_reads 208 = .ok (.aload_n 0, 1) := by decide +kernel
theorem dX9_reads_209 : decode cX9_reads 209 = .ok (.getfield 22, 3) := by decide +kernel
theorem dX9_reads_212 : decode cX9_reads 212 = .ok (.iload_n 1, 1) := by decide +kernel
theorem dX9_reads_213 : decode cX9_reads 213 = .ok (.aload_n 0, 1) := by decide +kernel
theorem dX9_reads_214 : decode cX9_reads 214 = .ok (.getfield 7, 3) := by decide +kernel
theorem dX9_reads_217 : decode cX9_reads 217 = .ok (.iload 5, 2) := by decide +kernel
theorem dX9_reads_219 : decode cX9_reads 219 = .ok (.iaload, 1) := by decide +kernel
theorem dX9_reads_220 : decode cX9_reads 220 = .ok (.bipush 12, 2) := by decide +kernel
theorem dX9_reads_222 : decode cX9_reads 222 = .ok (.iload_n 3, 1) := by decide +kernel
theorem dX9_reads_223 : decode cX9_reads 223 = .ok (.imul, 1) := by decide +kernel
theorem dX9_reads_224 : decode cX9_reads 224 = .ok (.iload 6, 2) := by decide +kernel
theorem dX9_reads_226 : decode cX9_reads 226 = .ok (.iadd, 1) := by decide +kernel
theorem dX9_reads_227 : decode cX9_reads 227 = .ok (.imul, 1) := by decide +kernel
theorem dX9_reads_228 : decode cX9_reads 228 = .ok (.bipush 12, 2) := by decide +kernel
theorem dX9_reads_230 : decode cX9_reads 230 = .ok (.idiv, 1) := by decide +kernel
theorem dX9_reads_231 : decode cX9_reads 231 = .ok (.iastore, 1) := by decide +kernel
theorem dX9_reads_232 : decode cX9_reads 232 = .ok (.iinc 1 1, 3) := by decide +kernel
theorem dX9_reads_235 : decode cX9_reads 235 = .ok (.iinc 2 1, 3) := by decide +kernel
theorem dX9_reads_238 : decode cX9_reads 238 = .ok (.iload_n 2, 1) := by decide +kernel
theorem dX9_reads_239 : decode cX9_reads 239 = .ok (.aload_n 0, 1) := by decide +kernel
theorem dX9_reads_240 : decode cX9_reads 240 = .ok (.getfield 72, 3) := by decide +kernel
theorem dX9_reads_243 : decode cX9_reads 243 = .ok (.if_icmp .ne 10, 3) := by decide +kernel
theorem dX9_reads_246 : decode cX9_reads 246 = .ok (.aload_n 0, 1) := by decide +kernel
theorem dX9_reads_247 : decode cX9_reads 247 = .ok (.iload_n 1, 1) := by decide +kernel
theorem dX9_reads_248 : decode cX9_reads 248 = .ok (.putfield 83, 3) := by decide +kernel
theorem dX9_reads_251 : decode cX9_reads 251 = .ok (.iconst (-1), 1) := by decide +kernel
theorem dX9_reads_252 : decode cX9_reads 252 = .ok (.ireturn, 1) := by decide +kernel
theorem dX9_reads_253 : decode cX9_reads 253 = .ok (.aload_n 0, 1) := by decide +kernel
theorem dX9_reads_254 : decode cX9_reads 254 = .ok (.iload_n 2, 1) := by decide +kernel
theorem dX9_reads_255 : decode cX9_reads 255 = .ok (.invokevirtual 76, 3) := by decide +kernel
theorem dX9_reads_258 : decode cX9_reads 258 = .ok (.bipush 59, 2) := by decide +kernel
theorem dX9_reads_260 : decode cX9_reads 260 = .ok (.if_icmp .eq 5, 3) := by decide +kernel
theorem dX9_reads_263 : decode cX9_reads 263 = .ok (.iload_n 2, 1) := by decide +kernel
theorem dX9_reads_264 : decode cX9_reads 264 = .ok (.ireturn, 1) := by decide +kernel
theorem dX9_reads_265 : decode cX9_reads 265 = .ok (.iinc 2 1, 3) := by decide +kernel
theorem dX9_reads_268 : decode cX9_reads 268 = .ok (.goto (-259), 3) := by decide +kernel
theorem dX9_reads_271 : decode cX9_reads 271 = .ok (.iconst (-1), 1) := by decide +kernel
theorem dX9_reads_272 : decode cX9_reads 272 = .ok (.ireturn, 1) := by decide +kernel
theorem dX9_fault_0 : decode cX9_fault 0 = .ok (.aload_n 0, 1) := by decide +kernel
theorem dX9_fault_1 : decode cX9_fault 1 = .ok (.invokevirtual 89, 3) := by decide +kernel
theorem dX9_fault_4 : decode cX9_fault 4 = .ok (.ireturn, 1) := by decide +kernel
theorem dX9_floorsNow_0 : decode cX9_floorsNow 0 = .ok (.aload_n 0, 1) := by decide +kernel
theorem dX9_floorsNow_1 : decode cX9_floorsNow 1 = .ok (.invokevirtual 89, 3) := by decide +kernel
theorem dX9_floorsNow_4 : decode cX9_floorsNow 4 = .ok (.istore_n 1, 1) := by decide +kernel
theorem dX9_floorsNow_5 : decode cX9_floorsNow 5 = .ok (.aload_n 0, 1) := by decide +kernel
theorem dX9_floorsNow_6 : decode cX9_floorsNow 6 = .ok (.getfield 83, 3) := by decide +kernel
theorem dX9_floorsNow_9 : decode cX9_floorsNow 9 = .ok (.ireturn, 1) := by decide +kernel
theorem dX9_cutBy_0 : decode cX9_cutBy 0 = .ok (.aload_n 0, 1) := by decide +kernel
theorem dX9_cutBy_1 : decode cX9_cutBy 1 = .ok (.getfield 7, 3) := by decide +kernel
theorem dX9_cutBy_4 : decode cX9_cutBy 4 = .ok (.iload_n 2, 1) := by decide +kernel
theorem dX9_cutBy_5 : decode cX9_cutBy 5 = .ok (.iconst 3, 1) := by decide +kernel
theorem dX9_cutBy_6 : decode cX9_cutBy 6 = .ok (.idiv, 1) := by decide +kernel
theorem dX9_cutBy_7 : decode cX9_cutBy 7 = .ok (.iaload, 1) := by decide +kernel
theorem dX9_cutBy_8 : decode cX9_cutBy 8 = .ok (.istore_n 3, 1) := by decide +kernel
theorem dX9_cutBy_9 : decode cX9_cutBy 9 = .ok (.aload_n 0, 1) := by decide +kernel
theorem dX9_cutBy_10 : decode cX9_cutBy 10 = .ok (.getfield 13, 3) := by decide +kernel
theorem dX9_cutBy_13 : decode cX9_cutBy 13 = .ok (.iload_n 2, 1) := by decide +kernel
theorem dX9_cutBy_14 : decode cX9_cutBy 14 = .ok (.iconst 3, 1) := by decide +kernel
theorem dX9_cutBy_15 : decode cX9_cutBy 15 = .ok (.idiv, 1) := by decide +kernel
theorem dX9_cutBy_16 : decode cX9_cutBy 16 = .ok (.iaload, 1) := by decide +kernel
theorem dX9_cutBy_17 : decode cX9_cutBy 17 = .ok (.istore 4, 2) := by decide +kernel
theorem dX9_cutBy_19 : decode cX9_cutBy 19 = .ok (.iload_n 1, 1) := by decide +kernel
theorem dX9_cutBy_20 : decode cX9_cutBy 20 = .ok (.iload 4, 2) := by decide +kernel
theorem dX9_cutBy_22 : decode cX9_cutBy 22 = .ok (.imul, 1) := by decide +kernel
theorem dX9_cutBy_23 : decode cX9_cutBy 23 = .ok (.istore 5, 2) := by decide +kernel
theorem dX9_cutBy_25 : decode cX9_cutBy 25 = .ok (.iload_n 2, 1) := by decide +kernel
theorem dX9_cutBy_26 : decode cX9_cutBy 26 = .ok (.iconst 3, 1) := by decide +kernel
theorem dX9_cutBy_27 : decode cX9_cutBy 27 = .ok (.irem, 1) := by decide +kernel
theorem dX9_cutBy_28 : decode cX9_cutBy 28 = .ok (.ifCond .ne 10, 3) := by decide +kernel
theorem dX9_cutBy_31 : decode cX9_cutBy 31 = .ok (.iload 5, 2) := by decide +kernel
theorem dX9_cutBy_33 : decode cX9_cutBy 33 = .ok (.iload_n 3, 1) := by decide +kernel
theorem dX9_cutBy_34 : decode cX9_cutBy 34 = .ok (.idiv, 1) := by decide +kernel
theorem dX9_cutBy_35 : decode cX9_cutBy 35 = .ok (.goto 33, 3) := by decide +kernel
theorem dX9_cutBy_38 : decode cX9_cutBy 38 = .ok (.iload_n 2, 1) := by decide +kernel
theorem dX9_cutBy_39 : decode cX9_cutBy 39 = .ok (.iconst 3, 1) := by decide +kernel
theorem dX9_cutBy_40 : decode cX9_cutBy 40 = .ok (.irem, 1) := by decide +kernel
theorem dX9_cutBy_41 : decode cX9_cutBy 41 = .ok (.iconst 1, 1) := by decide +kernel
theorem dX9_cutBy_42 : decode cX9_cutBy 42 = .ok (.if_icmp .ne 14, 3) := by decide +kernel
theorem dX9_cutBy_45 : decode cX9_cutBy 45 = .ok (.iload 5, 2) := by decide +kernel
theorem dX9_cutBy_47 : decode cX9_cutBy 47 = .ok (.iload_n 3, 1) := by decide +kernel
theorem dX9_cutBy_48 : decode cX9_cutBy 48 = .ok (.iadd, 1) := by decide +kernel
theorem dX9_cutBy_49 : decode cX9_cutBy 49 = .ok (.iconst 1, 1) := by decide +kernel
theorem dX9_cutBy_50 : decode cX9_cutBy 50 = .ok (.isub, 1) := by decide +kernel
theorem dX9_cutBy_51 : decode cX9_cutBy 51 = .ok (.iload_n 3, 1) := by decide +kernel
theorem dX9_cutBy_52 : decode cX9_cutBy 52 = .ok (.idiv, 1) := by decide +kernel
theorem dX9_cutBy_53 : decode cX9_cutBy 53 = .ok (.goto 15, 3) := by decide +kernel
theorem dX9_cutBy_56 : decode cX9_cutBy 56 = .ok (.iconst 2, 1) := by decide +kernel
theorem dX9_cutBy_57 : decode cX9_cutBy 57 = .ok (.iload 5, 2) := by decide +kernel
theorem dX9_cutBy_59 : decode cX9_cutBy 59 = .ok (.imul, 1) := by decide +kernel
theorem dX9_cutBy_60 : decode cX9_cutBy 60 = .ok (.iload_n 3, 1) := by decide +kernel
theorem dX9_cutBy_61 : decode cX9_cutBy 61 = .ok (.iadd, 1) := by decide +kernel
theorem dX9_cutBy_62 : decode cX9_cutBy 62 = .ok (.iconst 1, 1) := by decide +kernel
theorem dX9_cutBy_63 : decode cX9_cutBy 63 = .ok (.isub, 1) := by decide +kernel
theorem dX9_cutBy_64 : decode cX9_cutBy 64 = .ok (.iconst 2, 1) := by decide +kernel
theorem dX9_cutBy_65 : decode cX9_cutBy 65 = .ok (.iload_n 3, 1) := by decide +kernel
theorem dX9_cutBy_66 : decode cX9_cutBy 66 = .ok (.imul, 1) := by decide +kernel
theorem dX9_cutBy_67 : decode cX9_cutBy 67 = .ok (.idiv, 1) := by decide +kernel
theorem dX9_cutBy_68 : decode cX9_cutBy 68 = .ok (.istore 6, 2) := by decide +kernel
theorem dX9_cutBy_70 : decode cX9_cutBy 70 = .ok (.iload 6, 2) := by decide +kernel
theorem dX9_cutBy_72 : decode cX9_cutBy 72 = .ok (.iload_n 3, 1) := by decide +kernel
theorem dX9_cutBy_73 : decode cX9_cutBy 73 = .ok (.imul, 1) := by decide +kernel
theorem dX9_cutBy_74 : decode cX9_cutBy 74 = .ok (.iload 4, 2) := by decide +kernel
theorem dX9_cutBy_76 : decode cX9_cutBy 76 = .ok (.idiv, 1) := by decide +kernel
theorem dX9_cutBy_77 : decode cX9_cutBy 77 = .ok (.ireturn, 1) := by decide +kernel
theorem dX9_builtOf_0 : decode cX9_builtOf 0 = .ok (.aload_n 0, 1) := by decide +kernel
theorem dX9_builtOf_1 : decode cX9_builtOf 1 = .ok (.aload_n 0, 1) := by decide +kernel
theorem dX9_builtOf_2 : decode cX9_builtOf 2 = .ok (.getfield 22, 3) := by decide +kernel
theorem dX9_builtOf_5 : decode cX9_builtOf 5 = .ok (.iload_n 1, 1) := by decide +kernel
theorem dX9_builtOf_6 : decode cX9_builtOf 6 = .ok (.iaload, 1) := by decide +kernel
theorem dX9_builtOf_7 : decode cX9_builtOf 7 = .ok (.aload_n 0, 1) := by decide +kernel
theorem dX9_builtOf_8 : decode cX9_builtOf 8 = .ok (.getfield 25, 3) := by decide +kernel
theorem dX9_builtOf_11 : decode cX9_builtOf 11 = .ok (.iload_n 1, 1) := by decide +kernel
theorem dX9_builtOf_12 : decode cX9_builtOf 12 = .ok (.iaload, 1) := by decide +kernel
theorem dX9_builtOf_13 : decode cX9_builtOf 13 = .ok (.invokevirtual 93, 3) := by decide +kernel
theorem dX9_builtOf_16 : decode cX9_builtOf 16 = .ok (.aload_n 0, 1) := by decide +kernel
theorem dX9_builtOf_17 : decode cX9_builtOf 17 = .ok (.getfield 28, 3) := by decide +kernel
theorem dX9_builtOf_20 : decode cX9_builtOf 20 = .ok (.iload_n 1, 1) := by decide +kernel
theorem dX9_builtOf_21 : decode cX9_builtOf 21 = .ok (.iaload, 1) := by decide +kernel
theorem dX9_builtOf_22 : decode cX9_builtOf 22 = .ok (.iadd, 1) := by decide +kernel
theorem dX9_builtOf_23 : decode cX9_builtOf 23 = .ok (.ireturn, 1) := by decide +kernel
theorem dX9_isFloor_0 : decode cX9_isFloor 0 = .ok (.iload_n 1, 1) := by decide +kernel
theorem dX9_isFloor_1 : decode cX9_isFloor 1 = .ok (.iconst 0, 1) := by decide +kernel
theorem dX9_isFloor_2 : decode cX9_isFloor 2 = .ok (.aload_n 0, 1) := by decide +kernel
theorem dX9_isFloor_3 : decode cX9_isFloor 3 = .ok (.invokevirtual 97, 3) := by decide +kernel
theorem dX9_isFloor_6 : decode cX9_isFloor 6 = .ok (.iconst 1, 1) := by decide +kernel
theorem dX9_isFloor_7 : decode cX9_isFloor 7 = .ok (.isub, 1) := by decide +kernel
theorem dX9_isFloor_8 : decode cX9_isFloor 8 = .ok (.invokestatic 68, 3) := by decide +kernel
theorem dX9_isFloor_11 : decode cX9_isFloor 11 = .ok (.ireturn, 1) := by decide +kernel
theorem dX9_floorOf_0 : decode cX9_floorOf 0 = .ok (.iload_n 2, 1) := by decide +kernel
theorem dX9_floorOf_1 : decode cX9_floorOf 1 = .ok (.ifCond .ne 12, 3) := by decide +kernel
theorem dX9_floorOf_4 : decode cX9_floorOf 4 = .ok (.aload_n 0, 1) := by decide +kernel
theorem dX9_floorOf_5 : decode cX9_floorOf 5 = .ok (.getfield 22, 3) := by decide +kernel
theorem dX9_floorOf_8 : decode cX9_floorOf 8 = .ok (.iload_n 1, 1) := by decide +kernel
theorem dX9_floorOf_9 : decode cX9_floorOf 9 = .ok (.iaload, 1) := by decide +kernel
theorem dX9_floorOf_10 : decode cX9_floorOf 10 = .ok (.goto 68, 3) := by decide +kernel
theorem dX9_floorOf_13 : decode cX9_floorOf 13 = .ok (.iload_n 2, 1) := by decide +kernel
theorem dX9_floorOf_14 : decode cX9_floorOf 14 = .ok (.iconst 1, 1) := by decide +kernel
theorem dX9_floorOf_15 : decode cX9_floorOf 15 = .ok (.if_icmp .ne 11, 3) := by decide +kernel
theorem dX9_floorOf_18 : decode cX9_floorOf 18 = .ok (.aload_n 0, 1) := by decide +kernel
theorem dX9_floorOf_19 : decode cX9_floorOf 19 = .ok (.iload_n 1, 1) := by decide +kernel
theorem dX9_floorOf_20 : decode cX9_floorOf 20 = .ok (.invokevirtual 100, 3) := by decide +kernel
theorem dX9_floorOf_23 : decode cX9_floorOf 23 = .ok (.goto 55, 3) := by decide +kernel
theorem dX9_floorOf_26 : decode cX9_floorOf 26 = .ok (.iload_n 2, 1) := by decide +kernel
theorem dX9_floorOf_27 : decode cX9_floorOf 27 = .ok (.iconst 2, 1) := by decide +kernel
theorem dX9_floorOf_28 : decode cX9_floorOf 28 = .ok (.if_icmp .ne 14, 3) := by decide +kernel
theorem dX9_floorOf_31 : decode cX9_floorOf 31 = .ok (.aload_n 0, 1) := by decide +kernel
theorem dX9_floorOf_32 : decode cX9_floorOf 32 = .ok (.getfield 25, 3) := by decide +kernel
theorem dX9_floorOf_35 : decode cX9_floorOf 35 = .ok (.iload_n 1, 1) := by decide +kernel
theorem dX9_floorOf_36 : decode cX9_floorOf 36 = .ok (.iaload, 1) := by decide +kernel
theorem dX9_floorOf_37 : decode cX9_floorOf 37 = .ok (.iconst 3, 1) := by decide +kernel
theorem dX9_floorOf_38 : decode cX9_floorOf 38 = .ok (.idiv, 1) := by decide +kernel
theorem dX9_floorOf_39 : decode cX9_floorOf 39 = .ok (.goto 39, 3) := by decide +kernel
theorem dX9_floorOf_42 : decode cX9_floorOf 42 = .ok (.iload_n 2, 1) := by decide +kernel
theorem dX9_floorOf_43 : decode cX9_floorOf 43 = .ok (.iconst 3, 1) := by decide +kernel
theorem dX9_floorOf_44 : decode cX9_floorOf 44 = .ok (.if_icmp .ne 14, 3) := by decide +kernel
theorem dX9_floorOf_47 : decode cX9_floorOf 47 = .ok (.aload_n 0, 1) := by decide +kernel
theorem dX9_floorOf_48 : decode cX9_floorOf 48 = .ok (.getfield 25, 3) := by decide +kernel
theorem dX9_floorOf_51 : decode cX9_floorOf 51 = .ok (.iload_n 1, 1) := by decide +kernel
theorem dX9_floorOf_52 : decode cX9_floorOf 52 = .ok (.iaload, 1) := by decide +kernel
theorem dX9_floorOf_53 : decode cX9_floorOf 53 = .ok (.iconst 3, 1) := by decide +kernel
theorem dX9_floorOf_54 : decode cX9_floorOf 54 = .ok (.irem, 1) := by decide +kernel
theorem dX9_floorOf_55 : decode cX9_floorOf 55 = .ok (.goto 23, 3) := by decide +kernel
theorem dX9_floorOf_58 : decode cX9_floorOf 58 = .ok (.iload_n 2, 1) := by decide +kernel
theorem dX9_floorOf_59 : decode cX9_floorOf 59 = .ok (.iconst 4, 1) := by decide +kernel
theorem dX9_floorOf_60 : decode cX9_floorOf 60 = .ok (.if_icmp .ne 12, 3) := by decide +kernel
theorem dX9_floorOf_63 : decode cX9_floorOf 63 = .ok (.aload_n 0, 1) := by decide +kernel
theorem dX9_floorOf_64 : decode cX9_floorOf 64 = .ok (.getfield 31, 3) := by decide +kernel
theorem dX9_floorOf_67 : decode cX9_floorOf 67 = .ok (.iload_n 1, 1) := by decide +kernel
theorem dX9_floorOf_68 : decode cX9_floorOf 68 = .ok (.iaload, 1) := by decide +kernel
theorem dX9_floorOf_69 : decode cX9_floorOf 69 = .ok (.goto 9, 3) := by decide +kernel
theorem dX9_floorOf_72 : decode cX9_floorOf 72 = .ok (.aload_n 0, 1) := by decide +kernel
theorem dX9_floorOf_73 : decode cX9_floorOf 73 = .ok (.getfield 28, 3) := by decide +kernel
theorem dX9_floorOf_76 : decode cX9_floorOf 76 = .ok (.iload_n 1, 1) := by decide +kernel
theorem dX9_floorOf_77 : decode cX9_floorOf 77 = .ok (.iaload, 1) := by decide +kernel
theorem dX9_floorOf_78 : decode cX9_floorOf 78 = .ok (.ireturn, 1) := by decide +kernel
theorem dX9_floor_0 : decode cX9_floor 0 = .ok (.aload_n 0, 1) := by decide +kernel
theorem dX9_floor_1 : decode cX9_floor 1 = .ok (.iload_n 1, 1) := by decide +kernel
theorem dX9_floor_2 : decode cX9_floor 2 = .ok (.invokevirtual 103, 3) := by decide +kernel
theorem dX9_floor_5 : decode cX9_floor 5 = .ok (.ifCond .eq 21, 3) := by decide +kernel
theorem dX9_floor_8 : decode cX9_floor 8 = .ok (.iload_n 2, 1) := by decide +kernel
theorem dX9_floor_9 : decode cX9_floor 9 = .ok (.iconst 0, 1) := by decide +kernel
theorem dX9_floor_10 : decode cX9_floor 10 = .ok (.iconst 5, 1) := by decide +kernel
theorem dX9_floor_11 : decode cX9_floor 11 = .ok (.invokestatic 68, 3) := by decide +kernel
theorem dX9_floor_14 : decode cX9_floor 14 = .ok (.ifCond .eq 12, 3) := by decide +kernel
theorem dX9_floor_17 : decode cX9_floor 17 = .ok (.aload_n 0, 1) := by decide +kernel
theorem dX9_floor_18 : decode cX9_floor 18 = .ok (.iload_n 1, 1) := by decide +kernel
theorem dX9_floor_19 : decode cX9_floor 19 = .ok (.iload_n 2, 1) := by decide +kernel
theorem dX9_floor_20 : decode cX9_floor 20 = .ok (.invokevirtual 107, 3) := by decide +kernel
theorem dX9_floor_23 : decode cX9_floor 23 = .ok (.goto 5, 3) := by decide +kernel
theorem dX9_floor_26 : decode cX9_floor 26 = .ok (.ldc 110, 2) := by decide +kernel
theorem dX9_floor_28 : decode cX9_floor 28 = .ok (.ireturn, 1) := by decide +kernel
theorem dX9_cut_0 : decode cX9_cut 0 = .ok (.iload_n 1, 1) := by decide +kernel
theorem dX9_cut_1 : decode cX9_cut 1 = .ok (.iconst 0, 1) := by decide +kernel
theorem dX9_cut_2 : decode cX9_cut 2 = .ok (.ldc 111, 2) := by decide +kernel
theorem dX9_cut_4 : decode cX9_cut 4 = .ok (.invokestatic 68, 3) := by decide +kernel
theorem dX9_cut_7 : decode cX9_cut 7 = .ok (.ifCond .eq 34, 3) := by decide +kernel
theorem dX9_cut_10 : decode cX9_cut 10 = .ok (.iload_n 2, 1) := by decide +kernel
theorem dX9_cut_11 : decode cX9_cut 11 = .ok (.iconst 0, 1) := by decide +kernel
theorem dX9_cut_12 : decode cX9_cut 12 = .ok (.iconst 2, 1) := by decide +kernel
theorem dX9_cut_13 : decode cX9_cut 13 = .ok (.invokestatic 68, 3) := by decide +kernel
theorem dX9_cut_16 : decode cX9_cut 16 = .ok (.ifCond .eq 25, 3) := by decide +kernel
theorem dX9_cut_19 : decode cX9_cut 19 = .ok (.iload_n 3, 1) := by decide +kernel
theorem dX9_cut_20 : decode cX9_cut 20 = .ok (.iconst 0, 1) := by decide +kernel
theorem dX9_cut_21 : decode cX9_cut 21 = .ok (.iconst 2, 1) := by decide +kernel
theorem dX9_cut_22 : decode cX9_cut 22 = .ok (.invokestatic 68, 3) := by decide +kernel
theorem dX9_cut_25 : decode cX9_cut 25 = .ok (.ifCond .eq 16, 3) := by decide +kernel
theorem dX9_cut_28 : decode cX9_cut 28 = .ok (.aload_n 0, 1) := by decide +kernel
theorem dX9_cut_29 : decode cX9_cut 29 = .ok (.iload_n 1, 1) := by decide +kernel
theorem dX9_cut_30 : decode cX9_cut 30 = .ok (.iconst 3, 1) := by decide +kernel
theorem dX9_cut_31 : decode cX9_cut 31 = .ok (.iload_n 2, 1) := by decide +kernel
theorem dX9_cut_32 : decode cX9_cut 32 = .ok (.imul, 1) := by decide +kernel
theorem dX9_cut_33 : decode cX9_cut 33 = .ok (.iload_n 3, 1) := by decide +kernel
theorem dX9_cut_34 : decode cX9_cut 34 = .ok (.iadd, 1) := by decide +kernel
theorem dX9_cut_35 : decode cX9_cut 35 = .ok (.invokevirtual 93, 3) := by decide +kernel
theorem dX9_cut_38 : decode cX9_cut 38 = .ok (.goto 5, 3) := by decide +kernel
theorem dX9_cut_41 : decode cX9_cut 41 = .ok (.bipush (-2), 2) := by decide +kernel
theorem dX9_cut_43 : decode cX9_cut 43 = .ok (.ireturn, 1) := by decide +kernel
theorem dX9_shim_0 : decode cX9_shim 0 = .ok (.iload_n 1, 1) := by decide +kernel
theorem dX9_shim_1 : decode cX9_shim 1 = .ok (.iconst 0, 1) := by decide +kernel
theorem dX9_shim_2 : decode cX9_shim 2 = .ok (.bipush 9, 2) := by decide +kernel
theorem dX9_shim_4 : decode cX9_shim 4 = .ok (.invokestatic 68, 3) := by decide +kernel
theorem dX9_shim_7 : decode cX9_shim 7 = .ok (.ifCond .eq 14, 3) := by decide +kernel
theorem dX9_shim_10 : decode cX9_shim 10 = .ok (.iload_n 2, 1) := by decide +kernel
theorem dX9_shim_11 : decode cX9_shim 11 = .ok (.bipush (-99), 2) := by decide +kernel
theorem dX9_shim_13 : decode cX9_shim 13 = .ok (.bipush 99, 2) := by decide +kernel
theorem dX9_shim_15 : decode cX9_shim 15 = .ok (.invokestatic 68, 3) := by decide +kernel
theorem dX9_shim_18 : decode cX9_shim 18 = .ok (.ifCond .ne 6, 3) := by decide +kernel
theorem dX9_shim_21 : decode cX9_shim 21 = .ok (.ldc 110, 2) := by decide +kernel
theorem dX9_shim_23 : decode cX9_shim 23 = .ok (.ireturn, 1) := by decide +kernel
theorem dX9_shim_24 : decode cX9_shim 24 = .ok (.aload_n 0, 1) := by decide +kernel
theorem dX9_shim_25 : decode cX9_shim 25 = .ok (.getfield 28, 3) := by decide +kernel
theorem dX9_shim_28 : decode cX9_shim 28 = .ok (.iload_n 1, 1) := by decide +kernel
theorem dX9_shim_29 : decode cX9_shim 29 = .ok (.iaload, 1) := by decide +kernel
theorem dX9_shim_30 : decode cX9_shim 30 = .ok (.istore_n 3, 1) := by decide +kernel
theorem dX9_shim_31 : decode cX9_shim 31 = .ok (.aload_n 0, 1) := by decide +kernel
theorem dX9_shim_32 : decode cX9_shim 32 = .ok (.getfield 28, 3) := by decide +kernel
theorem dX9_shim_35 : decode cX9_shim 35 = .ok (.iload_n 1, 1) := by decide +kernel
theorem dX9_shim_36 : decode cX9_shim 36 = .ok (.iload_n 2, 1) := by decide +kernel
theorem dX9_shim_37 : decode cX9_shim 37 = .ok (.iastore, 1) := by decide +kernel
theorem dX9_shim_38 : decode cX9_shim 38 = .ok (.iload_n 3, 1) := by decide +kernel
theorem dX9_shim_39 : decode cX9_shim 39 = .ok (.ireturn, 1) := by decide +kernel
theorem dX9_set_0 : decode cX9_set 0 = .ok (.iload_n 1, 1) := by decide +kernel
theorem dX9_set_1 : decode cX9_set 1 = .ok (.iconst 0, 1) := by decide +kernel
theorem dX9_set_2 : decode cX9_set 2 = .ok (.iconst 3, 1) := by decide +kernel
theorem dX9_set_3 : decode cX9_set 3 = .ok (.invokestatic 68, 3) := by decide +kernel
theorem dX9_set_6 : decode cX9_set 6 = .ok (.ifCond .eq 42, 3) := by decide +kernel
theorem dX9_set_9 : decode cX9_set 9 = .ok (.iload_n 2, 1) := by decide +kernel
theorem dX9_set_10 : decode cX9_set 10 = .ok (.iload_n 1, 1) := by decide +kernel
theorem dX9_set_11 : decode cX9_set 11 = .ok (.iconst 1, 1) := by decide +kernel
theorem dX9_set_12 : decode cX9_set 12 = .ok (.if_icmp .ne 7, 3) := by decide +kernel
theorem dX9_set_15 : decode cX9_set 15 = .ok (.iconst 1, 1) := by decide +kernel
theorem dX9_set_16 : decode cX9_set 16 = .ok (.goto 4, 3) := by decide +kernel
theorem dX9_set_19 : decode cX9_set 19 = .ok (.iconst 0, 1) := by decide +kernel
theorem dX9_set_20 : decode cX9_set 20 = .ok (.iload_n 1, 1) := by decide +kernel
theorem dX9_set_21 : decode cX9_set 21 = .ok (.ifCond .ne 8, 3) := by decide +kernel
theorem dX9_set_24 : decode cX9_set 24 = .ok (.bipush 99, 2) := by decide +kernel
theorem dX9_set_26 : decode cX9_set 26 = .ok (.goto 16, 3) := by decide +kernel
theorem dX9_set_29 : decode cX9_set 29 = .ok (.iload_n 1, 1) := by decide +kernel
theorem dX9_set_30 : decode cX9_set 30 = .ok (.iconst 1, 1) := by decide +kernel
theorem dX9_set_31 : decode cX9_set 31 = .ok (.if_icmp .ne 9, 3) := by decide +kernel
theorem dX9_set_34 : decode cX9_set 34 = .ok (.sipush 999, 3) := by decide +kernel
theorem dX9_set_37 : decode cX9_set 37 = .ok (.goto 5, 3) := by decide +kernel
theorem dX9_set_40 : decode cX9_set 40 = .ok (.bipush 9, 2) := by decide +kernel
theorem dX9_set_42 : decode cX9_set 42 = .ok (.invokestatic 68, 3) := by decide +kernel
theorem dX9_set_45 : decode cX9_set 45 = .ok (.ifCond .ne 6, 3) := by decide +kernel
theorem dX9_set_48 : decode cX9_set 48 = .ok (.bipush (-2), 2) := by decide +kernel
theorem dX9_set_50 : decode cX9_set 50 = .ok (.ireturn, 1) := by decide +kernel
theorem dX9_set_51 : decode cX9_set 51 = .ok (.aload_n 0, 1) := by decide +kernel
theorem dX9_set_52 : decode cX9_set 52 = .ok (.getfield 16, 3) := by decide +kernel
theorem dX9_set_55 : decode cX9_set 55 = .ok (.iload_n 1, 1) := by decide +kernel
theorem dX9_set_56 : decode cX9_set 56 = .ok (.iaload, 1) := by decide +kernel
theorem dX9_set_57 : decode cX9_set 57 = .ok (.istore_n 3, 1) := by decide +kernel
theorem dX9_set_58 : decode cX9_set 58 = .ok (.aload_n 0, 1) := by decide +kernel
theorem dX9_set_59 : decode cX9_set 59 = .ok (.getfield 16, 3) := by decide +kernel
theorem dX9_set_62 : decode cX9_set 62 = .ok (.iload_n 1, 1) := by decide +kernel
theorem dX9_set_63 : decode cX9_set 63 = .ok (.iload_n 2, 1) := by decide +kernel
theorem dX9_set_64 : decode cX9_set 64 = .ok (.iastore, 1) := by decide +kernel
theorem dX9_set_65 : decode cX9_set 65 = .ok (.iload_n 3, 1) := by decide +kernel
theorem dX9_set_66 : decode cX9_set 66 = .ok (.ireturn, 1) := by decide +kernel
theorem dX9_sillOf_0 : decode cX9_sillOf 0 = .ok (.iconst 0, 1) := by decide +kernel
theorem dX9_sillOf_1 : decode cX9_sillOf 1 = .ok (.istore_n 3, 1) := by decide +kernel
theorem dX9_sillOf_2 : decode cX9_sillOf 2 = .ok (.iconst 0, 1) := by decide +kernel
theorem dX9_sillOf_3 : decode cX9_sillOf 3 = .ok (.istore 4, 2) := by decide +kernel
theorem dX9_sillOf_5 : decode cX9_sillOf 5 = .ok (.iconst 0, 1) := by decide +kernel
theorem dX9_sillOf_6 : decode cX9_sillOf 6 = .ok (.istore 5, 2) := by decide +kernel
theorem dX9_sillOf_8 : decode cX9_sillOf 8 = .ok (.iload 5, 2) := by decide +kernel
theorem dX9_sillOf_10 : decode cX9_sillOf 10 = .ok (.iload_n 1, 1) := by decide +kernel
theorem dX9_sillOf_11 : decode cX9_sillOf 11 = .ok (.if_icmp .ge 30, 3) := by decide +kernel
theorem dX9_sillOf_14 : decode cX9_sillOf 14 = .ok (.iload_n 3, 1) := by decide +kernel
theorem dX9_sillOf_15 : decode cX9_sillOf 15 = .ok (.aload_n 0, 1) := by decide +kernel
theorem dX9_sillOf_16 : decode cX9_sillOf 16 = .ok (.iload 5, 2) := by decide +kernel
theorem dX9_sillOf_18 : decode cX9_sillOf 18 = .ok (.invokevirtual 100, 3) := by decide +kernel
theorem dX9_sillOf_21 : decode cX9_sillOf 21 = .ok (.iadd, 1) := by decide +kernel
theorem dX9_sillOf_22 : decode cX9_sillOf 22 = .ok (.istore_n 3, 1) := by decide +kernel
theorem dX9_sillOf_23 : decode cX9_sillOf 23 = .ok (.iload 4, 2) := by decide +kernel
theorem dX9_sillOf_25 : decode cX9_sillOf 25 = .ok (.aload_n 0, 1) := by decide +kernel
theorem dX9_sillOf_26 : decode cX9_sillOf 26 = .ok (.getfield 22, 3) := by decide +kernel
theorem dX9_sillOf_29 : decode cX9_sillOf 29 = .ok (.iload 5, 2) := by decide +kernel
theorem dX9_sillOf_31 : decode cX9_sillOf 31 = .ok (.iaload, 1) := by decide +kernel
theorem dX9_sillOf_32 : decode cX9_sillOf 32 = .ok (.iadd, 1) := by decide +kernel
theorem dX9_sillOf_33 : decode cX9_sillOf 33 = .ok (.istore 4, 2) := by decide +kernel
theorem dX9_sillOf_35 : decode cX9_sillOf 35 = .ok (.iinc 5 1, 3) := by decide +kernel
theorem dX9_sillOf_38 : decode cX9_sillOf 38 = .ok (.goto (-30), 3) := by decide +kernel
theorem dX9_sillOf_41 : decode cX9_sillOf 41 = .ok (.iload_n 2, 1) := by decide +kernel
theorem dX9_sillOf_42 : decode cX9_sillOf 42 = .ok (.ifCond .ne 7, 3) := by decide +kernel
theorem dX9_sillOf_45 : decode cX9_sillOf 45 = .ok (.iload_n 3, 1) := by decide +kernel
theorem dX9_sillOf_46 : decode cX9_sillOf 46 = .ok (.goto 17, 3) := by decide +kernel
theorem dX9_sillOf_49 : decode cX9_sillOf 49 = .ok (.iload_n 2, 1) := by decide +kernel
theorem dX9_sillOf_50 : decode cX9_sillOf 50 = .ok (.iconst 1, 1) := by decide +kernel
theorem dX9_sillOf_51 : decode cX9_sillOf 51 = .ok (.if_icmp .ne 8, 3) := by decide +kernel
theorem dX9_sillOf_54 : decode cX9_sillOf 54 = .ok (.iload 4, 2) := by decide +kernel
theorem dX9_sillOf_56 : decode cX9_sillOf 56 = .ok (.goto 7, 3) := by decide +kernel
theorem dX9_sillOf_59 : decode cX9_sillOf 59 = .ok (.iload_n 3, 1) := by decide +kernel
theorem dX9_sillOf_60 : decode cX9_sillOf 60 = .ok (.iload 4, 2) := by decide +kernel
theorem dX9_sillOf_62 : decode cX9_sillOf 62 = .ok (.isub, 1) := by decide +kernel
theorem dX9_sillOf_63 : decode cX9_sillOf 63 = .ok (.ireturn, 1) := by decide +kernel
theorem dX9_sill_0 : decode cX9_sill 0 = .ok (.iload_n 1, 1) := by decide +kernel
theorem dX9_sill_1 : decode cX9_sill 1 = .ok (.iconst 0, 1) := by decide +kernel
theorem dX9_sill_2 : decode cX9_sill 2 = .ok (.aload_n 0, 1) := by decide +kernel
theorem dX9_sill_3 : decode cX9_sill 3 = .ok (.invokevirtual 97, 3) := by decide +kernel
theorem dX9_sill_6 : decode cX9_sill 6 = .ok (.invokestatic 68, 3) := by decide +kernel
theorem dX9_sill_9 : decode cX9_sill 9 = .ok (.ifCond .eq 21, 3) := by decide +kernel
theorem dX9_sill_12 : decode cX9_sill 12 = .ok (.iload_n 2, 1) := by decide +kernel
theorem dX9_sill_13 : decode cX9_sill 13 = .ok (.iconst 0, 1) := by decide +kernel
theorem dX9_sill_14 : decode cX9_sill 14 = .ok (.iconst 2, 1) := by decide +kernel
theorem dX9_sill_15 : decode cX9_sill 15 = .ok (.invokestatic 68, 3) := by decide +kernel
theorem dX9_sill_18 : decode cX9_sill 18 = .ok (.ifCond .eq 12, 3) := by decide +kernel
theorem dX9_sill_21 : decode cX9_sill 21 = .ok (.aload_n 0, 1) := by decide +kernel
theorem dX9_sill_22 : decode cX9_sill 22 = .ok (.iload_n 1, 1) := by decide +kernel
theorem dX9_sill_23 : decode cX9_sill 23 = .ok (.iload_n 2, 1) := by decide +kernel
theorem dX9_sill_24 : decode cX9_sill 24 = .ok (.invokevirtual 112, 3) := by decide +kernel
theorem dX9_sill_27 : decode cX9_sill 27 = .ok (.goto 5, 3) := by decide +kernel
theorem dX9_sill_30 : decode cX9_sill 30 = .ok (.ldc 110, 2) := by decide +kernel
theorem dX9_sill_32 : decode cX9_sill 32 = .ok (.ireturn, 1) := by decide +kernel
theorem dX9_worstNow_0 : decode cX9_worstNow 0 = .ok (.iconst 0, 1) := by decide +kernel
theorem dX9_worstNow_1 : decode cX9_worstNow 1 = .ok (.istore_n 1, 1) := by decide +kernel
theorem dX9_worstNow_2 : decode cX9_worstNow 2 = .ok (.iconst 1, 1) := by decide +kernel
end
section
theorem dX9_worstNow_3 : decode cX9_worstNow 3 = .ok (.istore_n 2, 1) := by decide +kernel
theorem dX9_worstNow_4 : decode cX9_worstNow 4 = .ok (.iload_n 2, 1) := by decide +kernel
theorem dX9_worstNow_5 : decode cX9_worstNow 5 = .ok (.aload_n 0, 1) := by decide +kernel
theorem dX9_worstNow_6 : decode cX9_worstNow 6 = .ok (.invokevirtual 97, 3) := by decide +kernel
theorem dX9_worstNow_9 : decode cX9_worstNow 9 = .ok (.if_icmp .gt 36, 3) := by decide +kernel
theorem dX9_worstNow_12 : decode cX9_worstNow 12 = .ok (.aload_n 0, 1) := by decide +kernel
theorem dX9_worstNow_13 : decode cX9_worstNow 13 = .ok (.iload_n 2, 1) := by decide +kernel
theorem dX9_worstNow_14 : decode cX9_worstNow 14 = .ok (.iconst 2, 1) := by decide +kernel
theorem dX9_worstNow_15 : decode cX9_worstNow 15 = .ok (.invokevirtual 112, 3) := by decide +kernel
theorem dX9_worstNow_18 : decode cX9_worstNow 18 = .ok (.invokestatic 115, 3) := by decide +kernel
theorem dX9_worstNow_21 : decode cX9_worstNow 21 = .ok (.aload_n 0, 1) := by decide +kernel
theorem dX9_worstNow_22 : decode cX9_worstNow 22 = .ok (.iload_n 1, 1) := by decide +kernel
theorem dX9_worstNow_23 : decode cX9_worstNow 23 = .ok (.iconst 2, 1) := by decide +kernel
theorem dX9_worstNow_24 : decode cX9_worstNow 24 = .ok (.invokevirtual 112, 3) := by decide +kernel
theorem dX9_worstNow_27 : decode cX9_worstNow 27 = .ok (.invokestatic 115, 3) := by decide +kernel
theorem dX9_worstNow_30 : decode cX9_worstNow 30 = .ok (.if_icmp .le 7, 3) := by decide +kernel
theorem dX9_worstNow_33 : decode cX9_worstNow 33 = .ok (.iload_n 2, 1) := by decide +kernel
theorem dX9_worstNow_34 : decode cX9_worstNow 34 = .ok (.goto 4, 3) := by decide +kernel
theorem dX9_worstNow_37 : decode cX9_worstNow 37 = .ok (.iload_n 1, 1) := by decide +kernel
theorem dX9_worstNow_38 : decode cX9_worstNow 38 = .ok (.istore_n 1, 1) := by decide +kernel
theorem dX9_worstNow_39 : decode cX9_worstNow 39 = .ok (.iinc 2 1, 3) := by decide +kernel
theorem dX9_worstNow_42 : decode cX9_worstNow 42 = .ok (.goto (-38), 3) := by decide +kernel
theorem dX9_worstNow_45 : decode cX9_worstNow 45 = .ok (.iload_n 1, 1) := by decide +kernel
theorem dX9_worstNow_46 : decode cX9_worstNow 46 = .ok (.ireturn, 1) := by decide +kernel
theorem dX9_worst_0 : decode cX9_worst 0 = .ok (.aload_n 0, 1) := by decide +kernel
theorem dX9_worst_1 : decode cX9_worst 1 = .ok (.invokevirtual 118, 3) := by decide +kernel
theorem dX9_worst_4 : decode cX9_worst 4 = .ok (.ireturn, 1) := by decide +kernel
theorem dX9_stairs_0 : decode cX9_stairs 0 = .ok (.aload_n 0, 1) := by decide +kernel
theorem dX9_stairs_1 : decode cX9_stairs 1 = .ok (.iload_n 1, 1) := by decide +kernel
theorem dX9_stairs_2 : decode cX9_stairs 2 = .ok (.invokevirtual 103, 3) := by decide +kernel
theorem dX9_stairs_5 : decode cX9_stairs 5 = .ok (.ifCond .eq 35, 3) := by decide +kernel
theorem dX9_stairs_8 : decode cX9_stairs 8 = .ok (.iload_n 2, 1) := by decide +kernel
theorem dX9_stairs_9 : decode cX9_stairs 9 = .ok (.iconst 1, 1) := by decide +kernel
theorem dX9_stairs_10 : decode cX9_stairs 10 = .ok (.bipush 40, 2) := by decide +kernel
theorem dX9_stairs_12 : decode cX9_stairs 12 = .ok (.invokestatic 68, 3) := by decide +kernel
theorem dX9_stairs_15 : decode cX9_stairs 15 = .ok (.ifCond .eq 25, 3) := by decide +kernel
theorem dX9_stairs_18 : decode cX9_stairs 18 = .ok (.iload_n 3, 1) := by decide +kernel
theorem dX9_stairs_19 : decode cX9_stairs 19 = .ok (.iconst 1, 1) := by decide +kernel
theorem dX9_stairs_20 : decode cX9_stairs 20 = .ok (.bipush 99, 2) := by decide +kernel
theorem dX9_stairs_22 : decode cX9_stairs 22 = .ok (.invokestatic 68, 3) := by decide +kernel
theorem dX9_stairs_25 : decode cX9_stairs 25 = .ok (.ifCond .eq 15, 3) := by decide +kernel
theorem dX9_stairs_28 : decode cX9_stairs 28 = .ok (.aload_n 0, 1) := by decide +kernel
theorem dX9_stairs_29 : decode cX9_stairs 29 = .ok (.iload_n 1, 1) := by decide +kernel
theorem dX9_stairs_30 : decode cX9_stairs 30 = .ok (.invokevirtual 100, 3) := by decide +kernel
theorem dX9_stairs_33 : decode cX9_stairs 33 = .ok (.iload_n 2, 1) := by decide +kernel
theorem dX9_stairs_34 : decode cX9_stairs 34 = .ok (.iload_n 3, 1) := by decide +kernel
theorem dX9_stairs_35 : decode cX9_stairs 35 = .ok (.imul, 1) := by decide +kernel
theorem dX9_stairs_36 : decode cX9_stairs 36 = .ok (.isub, 1) := by decide +kernel
theorem dX9_stairs_37 : decode cX9_stairs 37 = .ok (.goto 5, 3) := by decide +kernel
theorem dX9_stairs_40 : decode cX9_stairs 40 = .ok (.ldc 110, 2) := by decide +kernel
theorem dX9_stairs_42 : decode cX9_stairs 42 = .ok (.ireturn, 1) := by decide +kernel
theorem dX9_evenOf_0 : decode cX9_evenOf 0 = .ok (.iload_n 2, 1) := by decide +kernel
theorem dX9_evenOf_1 : decode cX9_evenOf 1 = .ok (.istore 5, 2) := by decide +kernel
theorem dX9_evenOf_3 : decode cX9_evenOf 3 = .ok (.iconst 1, 1) := by decide +kernel
theorem dX9_evenOf_4 : decode cX9_evenOf 4 = .ok (.istore 6, 2) := by decide +kernel
theorem dX9_evenOf_6 : decode cX9_evenOf 6 = .ok (.aload_n 0, 1) := by decide +kernel
theorem dX9_evenOf_7 : decode cX9_evenOf 7 = .ok (.iload_n 1, 1) := by decide +kernel
theorem dX9_evenOf_8 : decode cX9_evenOf 8 = .ok (.invokevirtual 100, 3) := by decide +kernel
theorem dX9_evenOf_11 : decode cX9_evenOf 11 = .ok (.iload_n 2, 1) := by decide +kernel
theorem dX9_evenOf_12 : decode cX9_evenOf 12 = .ok (.isub, 1) := by decide +kernel
theorem dX9_evenOf_13 : decode cX9_evenOf 13 = .ok (.invokestatic 115, 3) := by decide +kernel
theorem dX9_evenOf_16 : decode cX9_evenOf 16 = .ok (.istore 7, 2) := by decide +kernel
theorem dX9_evenOf_18 : decode cX9_evenOf 18 = .ok (.iconst 1, 1) := by decide +kernel
theorem dX9_evenOf_19 : decode cX9_evenOf 19 = .ok (.istore 8, 2) := by decide +kernel
theorem dX9_evenOf_21 : decode cX9_evenOf 21 = .ok (.iload 8, 2) := by decide +kernel
theorem dX9_evenOf_23 : decode cX9_evenOf 23 = .ok (.bipush 41, 2) := by decide +kernel
theorem dX9_evenOf_25 : decode cX9_evenOf 25 = .ok (.if_icmp .ge 59, 3) := by decide +kernel
theorem dX9_evenOf_28 : decode cX9_evenOf 28 = .ok (.iload_n 2, 1) := by decide +kernel
theorem dX9_evenOf_29 : decode cX9_evenOf 29 = .ok (.istore 9, 2) := by decide +kernel
theorem dX9_evenOf_31 : decode cX9_evenOf 31 = .ok (.iload 9, 2) := by decide +kernel
theorem dX9_evenOf_33 : decode cX9_evenOf 33 = .ok (.iload_n 3, 1) := by decide +kernel
theorem dX9_evenOf_34 : decode cX9_evenOf 34 = .ok (.if_icmp .gt 44, 3) := by decide +kernel
theorem dX9_evenOf_37 : decode cX9_evenOf 37 = .ok (.aload_n 0, 1) := by decide +kernel
theorem dX9_evenOf_38 : decode cX9_evenOf 38 = .ok (.iload_n 1, 1) := by decide +kernel
theorem dX9_evenOf_39 : decode cX9_evenOf 39 = .ok (.invokevirtual 100, 3) := by decide +kernel
theorem dX9_evenOf_42 : decode cX9_evenOf 42 = .ok (.iload 8, 2) := by decide +kernel
theorem dX9_evenOf_44 : decode cX9_evenOf 44 = .ok (.iload 9, 2) := by decide +kernel
theorem dX9_evenOf_46 : decode cX9_evenOf 46 = .ok (.imul, 1) := by decide +kernel
theorem dX9_evenOf_47 : decode cX9_evenOf 47 = .ok (.isub, 1) := by decide +kernel
theorem dX9_evenOf_48 : decode cX9_evenOf 48 = .ok (.invokestatic 115, 3) := by decide +kernel
theorem dX9_evenOf_51 : decode cX9_evenOf 51 = .ok (.istore 10, 2) := by decide +kernel
theorem dX9_evenOf_53 : decode cX9_evenOf 53 = .ok (.iload 10, 2) := by decide +kernel
theorem dX9_evenOf_55 : decode cX9_evenOf 55 = .ok (.iload 7, 2) := by decide +kernel
theorem dX9_evenOf_57 : decode cX9_evenOf 57 = .ok (.if_icmp .ge 15, 3) := by decide +kernel
theorem dX9_evenOf_60 : decode cX9_evenOf 60 = .ok (.iload 10, 2) := by decide +kernel
theorem dX9_evenOf_62 : decode cX9_evenOf 62 = .ok (.istore 7, 2) := by decide +kernel
theorem dX9_evenOf_64 : decode cX9_evenOf 64 = .ok (.iload 9, 2) := by decide +kernel
theorem dX9_evenOf_66 : decode cX9_evenOf 66 = .ok (.istore 5, 2) := by decide +kernel
theorem dX9_evenOf_68 : decode cX9_evenOf 68 = .ok (.iload 8, 2) := by decide +kernel
theorem dX9_evenOf_70 : decode cX9_evenOf 70 = .ok (.istore 6, 2) := by decide +kernel
theorem dX9_evenOf_72 : decode cX9_evenOf 72 = .ok (.iinc 9 1, 3) := by decide +kernel
theorem dX9_evenOf_75 : decode cX9_evenOf 75 = .ok (.goto (-44), 3) := by decide +kernel
theorem dX9_evenOf_78 : decode cX9_evenOf 78 = .ok (.iinc 8 1, 3) := by decide +kernel
theorem dX9_evenOf_81 : decode cX9_evenOf 81 = .ok (.goto (-60), 3) := by decide +kernel
theorem dX9_evenOf_84 : decode cX9_evenOf 84 = .ok (.iload 4, 2) := by decide +kernel
theorem dX9_evenOf_86 : decode cX9_evenOf 86 = .ok (.ifCond .ne 8, 3) := by decide +kernel
theorem dX9_evenOf_89 : decode cX9_evenOf 89 = .ok (.iload 5, 2) := by decide +kernel
theorem dX9_evenOf_91 : decode cX9_evenOf 91 = .ok (.goto 16, 3) := by decide +kernel
theorem dX9_evenOf_94 : decode cX9_evenOf 94 = .ok (.iload 4, 2) := by decide +kernel
theorem dX9_evenOf_96 : decode cX9_evenOf 96 = .ok (.iconst 1, 1) := by decide +kernel
theorem dX9_evenOf_97 : decode cX9_evenOf 97 = .ok (.if_icmp .ne 8, 3) := by decide +kernel
theorem dX9_evenOf_100 : decode cX9_evenOf 100 = .ok (.iload 6, 2) := by decide +kernel
theorem dX9_evenOf_102 : decode cX9_evenOf 102 = .ok (.goto 5, 3) := by decide +kernel
theorem dX9_evenOf_105 : decode cX9_evenOf 105 = .ok (.iload 7, 2) := by decide +kernel
theorem dX9_evenOf_107 : decode cX9_evenOf 107 = .ok (.ireturn, 1) := by decide +kernel
theorem dX9_even_0 : decode cX9_even 0 = .ok (.aload_n 0, 1) := by decide +kernel
theorem dX9_even_1 : decode cX9_even 1 = .ok (.iload_n 1, 1) := by decide +kernel
theorem dX9_even_2 : decode cX9_even 2 = .ok (.invokevirtual 103, 3) := by decide +kernel
theorem dX9_even_5 : decode cX9_even 5 = .ok (.ifCond .eq 45, 3) := by decide +kernel
theorem dX9_even_8 : decode cX9_even 8 = .ok (.iload_n 2, 1) := by decide +kernel
theorem dX9_even_9 : decode cX9_even 9 = .ok (.iconst 1, 1) := by decide +kernel
theorem dX9_even_10 : decode cX9_even 10 = .ok (.bipush 99, 2) := by decide +kernel
theorem dX9_even_12 : decode cX9_even 12 = .ok (.invokestatic 68, 3) := by decide +kernel
theorem dX9_even_15 : decode cX9_even 15 = .ok (.ifCond .eq 35, 3) := by decide +kernel
theorem dX9_even_18 : decode cX9_even 18 = .ok (.iload_n 3, 1) := by decide +kernel
theorem dX9_even_19 : decode cX9_even 19 = .ok (.iload_n 2, 1) := by decide +kernel
theorem dX9_even_20 : decode cX9_even 20 = .ok (.bipush 99, 2) := by decide +kernel
theorem dX9_even_22 : decode cX9_even 22 = .ok (.invokestatic 68, 3) := by decide +kernel
theorem dX9_even_25 : decode cX9_even 25 = .ok (.ifCond .eq 25, 3) := by decide +kernel
theorem dX9_even_28 : decode cX9_even 28 = .ok (.iload 4, 2) := by decide +kernel
theorem dX9_even_30 : decode cX9_even 30 = .ok (.iconst 0, 1) := by decide +kernel
theorem dX9_even_31 : decode cX9_even 31 = .ok (.iconst 2, 1) := by decide +kernel
theorem dX9_even_32 : decode cX9_even 32 = .ok (.invokestatic 68, 3) := by decide +kernel
theorem dX9_even_35 : decode cX9_even 35 = .ok (.ifCond .eq 15, 3) := by decide +kernel
theorem dX9_even_38 : decode cX9_even 38 = .ok (.aload_n 0, 1) := by decide +kernel
theorem dX9_even_39 : decode cX9_even 39 = .ok (.iload_n 1, 1) := by decide +kernel
theorem dX9_even_40 : decode cX9_even 40 = .ok (.iload_n 2, 1) := by decide +kernel
theorem dX9_even_41 : decode cX9_even 41 = .ok (.iload_n 3, 1) := by decide +kernel
theorem dX9_even_42 : decode cX9_even 42 = .ok (.iload 4, 2) := by decide +kernel
theorem dX9_even_44 : decode cX9_even 44 = .ok (.invokevirtual 121, 3) := by decide +kernel
theorem dX9_even_47 : decode cX9_even 47 = .ok (.goto 5, 3) := by decide +kernel
theorem dX9_even_50 : decode cX9_even 50 = .ok (.bipush (-2), 2) := by decide +kernel
theorem dX9_even_52 : decode cX9_even 52 = .ok (.ireturn, 1) := by decide +kernel
theorem dX9_blameBy_0 : decode cX9_blameBy 0 = .ok (.iconst 0, 1) := by decide +kernel
theorem dX9_blameBy_1 : decode cX9_blameBy 1 = .ok (.istore_n 2, 1) := by decide +kernel
theorem dX9_blameBy_2 : decode cX9_blameBy 2 = .ok (.iconst 0, 1) := by decide +kernel
theorem dX9_blameBy_3 : decode cX9_blameBy 3 = .ok (.istore_n 3, 1) := by decide +kernel
theorem dX9_blameBy_4 : decode cX9_blameBy 4 = .ok (.iload_n 3, 1) := by decide +kernel
theorem dX9_blameBy_5 : decode cX9_blameBy 5 = .ok (.aload_n 0, 1) := by decide +kernel
theorem dX9_blameBy_6 : decode cX9_blameBy 6 = .ok (.getfield 83, 3) := by decide +kernel
theorem dX9_blameBy_9 : decode cX9_blameBy 9 = .ok (.if_icmp .ge 54, 3) := by decide +kernel
theorem dX9_blameBy_12 : decode cX9_blameBy 12 = .ok (.iload_n 2, 1) := by decide +kernel
theorem dX9_blameBy_13 : decode cX9_blameBy 13 = .ok (.aload_n 0, 1) := by decide +kernel
theorem dX9_blameBy_14 : decode cX9_blameBy 14 = .ok (.getfield 25, 3) := by decide +kernel
theorem dX9_blameBy_17 : decode cX9_blameBy 17 = .ok (.iload_n 3, 1) := by decide +kernel
theorem dX9_blameBy_18 : decode cX9_blameBy 18 = .ok (.iaload, 1) := by decide +kernel
theorem dX9_blameBy_19 : decode cX9_blameBy 19 = .ok (.iconst 3, 1) := by decide +kernel
theorem dX9_blameBy_20 : decode cX9_blameBy 20 = .ok (.idiv, 1) := by decide +kernel
theorem dX9_blameBy_21 : decode cX9_blameBy 21 = .ok (.iload_n 1, 1) := by decide +kernel
theorem dX9_blameBy_22 : decode cX9_blameBy 22 = .ok (.if_icmp .ne 32, 3) := by decide +kernel
theorem dX9_blameBy_25 : decode cX9_blameBy 25 = .ok (.aload_n 0, 1) := by decide +kernel
theorem dX9_blameBy_26 : decode cX9_blameBy 26 = .ok (.aload_n 0, 1) := by decide +kernel
theorem dX9_blameBy_27 : decode cX9_blameBy 27 = .ok (.getfield 22, 3) := by decide +kernel
theorem dX9_blameBy_30 : decode cX9_blameBy 30 = .ok (.iload_n 3, 1) := by decide +kernel
theorem dX9_blameBy_31 : decode cX9_blameBy 31 = .ok (.iaload, 1) := by decide +kernel
theorem dX9_blameBy_32 : decode cX9_blameBy 32 = .ok (.aload_n 0, 1) := by decide +kernel
theorem dX9_blameBy_33 : decode cX9_blameBy 33 = .ok (.getfield 25, 3) := by decide +kernel
theorem dX9_blameBy_36 : decode cX9_blameBy 36 = .ok (.iload_n 3, 1) := by decide +kernel
theorem dX9_blameBy_37 : decode cX9_blameBy 37 = .ok (.iaload, 1) := by decide +kernel
theorem dX9_blameBy_38 : decode cX9_blameBy 38 = .ok (.invokevirtual 93, 3) := by decide +kernel
theorem dX9_blameBy_41 : decode cX9_blameBy 41 = .ok (.aload_n 0, 1) := by decide +kernel
theorem dX9_blameBy_42 : decode cX9_blameBy 42 = .ok (.getfield 22, 3) := by decide +kernel
theorem dX9_blameBy_45 : decode cX9_blameBy 45 = .ok (.iload_n 3, 1) := by decide +kernel
theorem dX9_blameBy_46 : decode cX9_blameBy 46 = .ok (.iaload, 1) := by decide +kernel
theorem dX9_blameBy_47 : decode cX9_blameBy 47 = .ok (.isub, 1) := by decide +kernel
theorem dX9_blameBy_48 : decode cX9_blameBy 48 = .ok (.invokestatic 115, 3) := by decide +kernel
theorem dX9_blameBy_51 : decode cX9_blameBy 51 = .ok (.goto 4, 3) := by decide +kernel
theorem dX9_blameBy_54 : decode cX9_blameBy 54 = .ok (.iconst 0, 1) := by decide +kernel
theorem dX9_blameBy_55 : decode cX9_blameBy 55 = .ok (.iadd, 1) := by decide +kernel
theorem dX9_blameBy_56 : decode cX9_blameBy 56 = .ok (.istore_n 2, 1) := by decide +kernel
theorem dX9_blameBy_57 : decode cX9_blameBy 57 = .ok (.iinc 3 1, 3) := by decide +kernel
theorem dX9_blameBy_60 : decode cX9_blameBy 60 = .ok (.goto (-56), 3) := by decide +kernel
theorem dX9_blameBy_63 : decode cX9_blameBy 63 = .ok (.iload_n 2, 1) := by decide +kernel
theorem dX9_blameBy_64 : decode cX9_blameBy 64 = .ok (.ireturn, 1) := by decide +kernel
theorem dX9_blameOf_0 : decode cX9_blameOf 0 = .ok (.aload_n 0, 1) := by decide +kernel
theorem dX9_blameOf_1 : decode cX9_blameOf 1 = .ok (.invokevirtual 89, 3) := by decide +kernel
theorem dX9_blameOf_4 : decode cX9_blameOf 4 = .ok (.istore 4, 2) := by decide +kernel
theorem dX9_blameOf_6 : decode cX9_blameOf 6 = .ok (.aload_n 0, 1) := by decide +kernel
theorem dX9_blameOf_7 : decode cX9_blameOf 7 = .ok (.iload_n 1, 1) := by decide +kernel
theorem dX9_blameOf_8 : decode cX9_blameOf 8 = .ok (.invokevirtual 125, 3) := by decide +kernel
theorem dX9_blameOf_11 : decode cX9_blameOf 11 = .ok (.istore 5, 2) := by decide +kernel
theorem dX9_blameOf_13 : decode cX9_blameOf 13 = .ok (.aload_n 0, 1) := by decide +kernel
theorem dX9_blameOf_14 : decode cX9_blameOf 14 = .ok (.iconst 0, 1) := by decide +kernel
theorem dX9_blameOf_15 : decode cX9_blameOf 15 = .ok (.invokevirtual 125, 3) := by decide +kernel
theorem dX9_blameOf_18 : decode cX9_blameOf 18 = .ok (.aload_n 0, 1) := by decide +kernel
theorem dX9_blameOf_19 : decode cX9_blameOf 19 = .ok (.iconst 1, 1) := by decide +kernel
theorem dX9_blameOf_20 : decode cX9_blameOf 20 = .ok (.invokevirtual 125, 3) := by decide +kernel
theorem dX9_blameOf_23 : decode cX9_blameOf 23 = .ok (.iadd, 1) := by decide +kernel
theorem dX9_blameOf_24 : decode cX9_blameOf 24 = .ok (.aload_n 0, 1) := by decide +kernel
theorem dX9_blameOf_25 : decode cX9_blameOf 25 = .ok (.iconst 2, 1) := by decide +kernel
theorem dX9_blameOf_26 : decode cX9_blameOf 26 = .ok (.invokevirtual 125, 3) := by decide +kernel
theorem dX9_blameOf_29 : decode cX9_blameOf 29 = .ok (.iadd, 1) := by decide +kernel
theorem dX9_blameOf_30 : decode cX9_blameOf 30 = .ok (.istore 6, 2) := by decide +kernel
theorem dX9_blameOf_32 : decode cX9_blameOf 32 = .ok (.iload_n 2, 1) := by decide +kernel
theorem dX9_blameOf_33 : decode cX9_blameOf 33 = .ok (.ifCond .ne 17, 3) := by decide +kernel
theorem dX9_blameOf_36 : decode cX9_blameOf 36 = .ok (.iload_n 3, 1) := by decide +kernel
theorem dX9_blameOf_37 : decode cX9_blameOf 37 = .ok (.ifCond .ne 9, 3) := by decide +kernel
theorem dX9_blameOf_40 : decode cX9_blameOf 40 = .ok (.iload 5, 2) := by decide +kernel
theorem dX9_blameOf_42 : decode cX9_blameOf 42 = .ok (.i2l, 1) := by decide +kernel
theorem dX9_blameOf_43 : decode cX9_blameOf 43 = .ok (.goto 30, 3) := by decide +kernel
theorem dX9_blameOf_46 : decode cX9_blameOf 46 = .ok (.lconst 1, 1) := by decide +kernel
theorem dX9_blameOf_47 : decode cX9_blameOf 47 = .ok (.goto 26, 3) := by decide +kernel
theorem dX9_blameOf_50 : decode cX9_blameOf 50 = .ok (.iload 6, 2) := by decide +kernel
theorem dX9_blameOf_52 : decode cX9_blameOf 52 = .ok (.ifCond .ne 11, 3) := by decide +kernel
theorem dX9_blameOf_55 : decode cX9_blameOf 55 = .ok (.bipush (-3), 2) := by decide +kernel
theorem dX9_blameOf_57 : decode cX9_blameOf 57 = .ok (.invokestatic 128, 3) := by decide +kernel
theorem dX9_blameOf_60 : decode cX9_blameOf 60 = .ok (.goto 13, 3) := by decide +kernel
theorem dX9_blameOf_63 : decode cX9_blameOf 63 = .ok (.iload 5, 2) := by decide +kernel
theorem dX9_blameOf_65 : decode cX9_blameOf 65 = .ok (.i2l, 1) := by decide +kernel
theorem dX9_blameOf_66 : decode cX9_blameOf 66 = .ok (.iload 6, 2) := by decide +kernel
theorem dX9_blameOf_68 : decode cX9_blameOf 68 = .ok (.i2l, 1) := by decide +kernel
theorem dX9_blameOf_69 : decode cX9_blameOf 69 = .ok (.iload_n 3, 1) := by decide +kernel
theorem dX9_blameOf_70 : decode cX9_blameOf 70 = .ok (.invokestatic 132, 3) := by decide +kernel
theorem dX9_blameOf_73 : decode cX9_blameOf 73 = .ok (.lreturn, 1) := by decide +kernel
theorem dX9_blame_0 : decode cX9_blame 0 = .ok (.iload_n 1, 1) := by decide +kernel
theorem dX9_blame_1 : decode cX9_blame 1 = .ok (.iconst 0, 1) := by decide +kernel
theorem dX9_blame_2 : decode cX9_blame 2 = .ok (.iconst 2, 1) := by decide +kernel
theorem dX9_blame_3 : decode cX9_blame 3 = .ok (.invokestatic 68, 3) := by decide +kernel
theorem dX9_blame_6 : decode cX9_blame 6 = .ok (.ifCond .eq 31, 3) := by decide +kernel
theorem dX9_blame_9 : decode cX9_blame 9 = .ok (.iload_n 2, 1) := by decide +kernel
theorem dX9_blame_10 : decode cX9_blame 10 = .ok (.iconst 0, 1) := by decide +kernel
theorem dX9_blame_11 : decode cX9_blame 11 = .ok (.iconst 1, 1) := by decide +kernel
theorem dX9_blame_12 : decode cX9_blame 12 = .ok (.invokestatic 68, 3) := by decide +kernel
theorem dX9_blame_15 : decode cX9_blame 15 = .ok (.ifCond .eq 22, 3) := by decide +kernel
theorem dX9_blame_18 : decode cX9_blame 18 = .ok (.iload_n 3, 1) := by decide +kernel
theorem dX9_blame_19 : decode cX9_blame 19 = .ok (.iconst 0, 1) := by decide +kernel
theorem dX9_blame_20 : decode cX9_blame 20 = .ok (.iconst 1, 1) := by decide +kernel
theorem dX9_blame_21 : decode cX9_blame 21 = .ok (.invokestatic 68, 3) := by decide +kernel
theorem dX9_blame_24 : decode cX9_blame 24 = .ok (.ifCond .eq 13, 3) := by decide +kernel
theorem dX9_blame_27 : decode cX9_blame 27 = .ok (.aload_n 0, 1) := by decide +kernel
theorem dX9_blame_28 : decode cX9_blame 28 = .ok (.iload_n 1, 1) := by decide +kernel
theorem dX9_blame_29 : decode cX9_blame 29 = .ok (.iload_n 2, 1) := by decide +kernel
theorem dX9_blame_30 : decode cX9_blame 30 = .ok (.iload_n 3, 1) := by decide +kernel
theorem dX9_blame_31 : decode cX9_blame 31 = .ok (.invokevirtual 136, 3) := by decide +kernel
theorem dX9_blame_34 : decode cX9_blame 34 = .ok (.goto 8, 3) := by decide +kernel
theorem dX9_blame_37 : decode cX9_blame 37 = .ok (.bipush (-2), 2) := by decide +kernel
theorem dX9_blame_39 : decode cX9_blame 39 = .ok (.invokestatic 128, 3) := by decide +kernel
theorem dX9_blame_42 : decode cX9_blame 42 = .ok (.lreturn, 1) := by decide +kernel
theorem dX9_isFound_0 : decode cX9_isFound 0 = .ok (.iload_n 0, 1) := by decide +kernel
theorem dX9_isFound_1 : decode cX9_isFound 1 = .ok (.iconst (-1), 1) := by decide +kernel
theorem dX9_isFound_2 : decode cX9_isFound 2 = .ok (.if_icmp .eq 13, 3) := by decide +kernel
theorem dX9_isFound_5 : decode cX9_isFound 5 = .ok (.iload_n 0, 1) := by decide +kernel
theorem dX9_isFound_6 : decode cX9_isFound 6 = .ok (.iconst 1, 1) := by decide +kernel
theorem dX9_isFound_7 : decode cX9_isFound 7 = .ok (.ldc 111, 2) := by decide +kernel
theorem dX9_isFound_9 : decode cX9_isFound 9 = .ok (.invokestatic 68, 3) := by decide +kernel
theorem dX9_isFound_12 : decode cX9_isFound 12 = .ok (.ifCond .eq 7, 3) := by decide +kernel
theorem dX9_isFound_15 : decode cX9_isFound 15 = .ok (.iconst 1, 1) := by decide +kernel
theorem dX9_isFound_16 : decode cX9_isFound 16 = .ok (.goto 4, 3) := by decide +kernel
theorem dX9_isFound_19 : decode cX9_isFound 19 = .ok (.iconst 0, 1) := by decide +kernel
theorem dX9_isFound_20 : decode cX9_isFound 20 = .ok (.ireturn, 1) := by decide +kernel
theorem dX9_found_0 : decode cX9_found 0 = .ok (.iload_n 1, 1) := by decide +kernel
theorem dX9_found_1 : decode cX9_found 1 = .ok (.iconst 0, 1) := by decide +kernel
theorem dX9_found_2 : decode cX9_found 2 = .ok (.bipush 9, 2) := by decide +kernel
theorem dX9_found_4 : decode cX9_found 4 = .ok (.invokestatic 68, 3) := by decide +kernel
theorem dX9_found_7 : decode cX9_found 7 = .ok (.ifCond .eq 10, 3) := by decide +kernel
theorem dX9_found_10 : decode cX9_found 10 = .ok (.iload_n 2, 1) := by decide +kernel
theorem dX9_found_11 : decode cX9_found 11 = .ok (.invokestatic 140, 3) := by decide +kernel
theorem dX9_found_14 : decode cX9_found 14 = .ok (.ifCond .ne 6, 3) := by decide +kernel
theorem dX9_found_17 : decode cX9_found 17 = .ok (.bipush (-5), 2) := by decide +kernel
theorem dX9_found_19 : decode cX9_found 19 = .ok (.ireturn, 1) := by decide +kernel
theorem dX9_found_20 : decode cX9_found 20 = .ok (.aload_n 0, 1) := by decide +kernel
theorem dX9_found_21 : decode cX9_found 21 = .ok (.getfield 31, 3) := by decide +kernel
theorem dX9_found_24 : decode cX9_found 24 = .ok (.iload_n 1, 1) := by decide +kernel
theorem dX9_found_25 : decode cX9_found 25 = .ok (.iaload, 1) := by decide +kernel
theorem dX9_found_26 : decode cX9_found 26 = .ok (.istore_n 3, 1) := by decide +kernel
theorem dX9_found_27 : decode cX9_found 27 = .ok (.aload_n 0, 1) := by decide +kernel
theorem dX9_found_28 : decode cX9_found 28 = .ok (.getfield 31, 3) := by decide +kernel
theorem dX9_found_31 : decode cX9_found 31 = .ok (.iload_n 1, 1) := by decide +kernel
theorem dX9_found_32 : decode cX9_found 32 = .ok (.iload_n 2, 1) := by decide +kernel
theorem dX9_found_33 : decode cX9_found 33 = .ok (.iastore, 1) := by decide +kernel
theorem dX9_found_34 : decode cX9_found 34 = .ok (.iload_n 3, 1) := by decide +kernel
theorem dX9_found_35 : decode cX9_found 35 = .ok (.ireturn, 1) := by decide +kernel
theorem dX9_read_0 : decode cX9_read 0 = .ok (.iload_n 1, 1) := by decide +kernel
theorem dX9_read_1 : decode cX9_read 1 = .ok (.invokestatic 143, 3) := by decide +kernel
theorem dX9_read_4 : decode cX9_read 4 = .ok (.ifCond .ne 6, 3) := by decide +kernel
theorem dX9_read_7 : decode cX9_read 7 = .ok (.bipush (-2), 2) := by decide +kernel
theorem dX9_read_9 : decode cX9_read 9 = .ok (.ireturn, 1) := by decide +kernel
theorem dX9_read_10 : decode cX9_read 10 = .ok (.aload_n 0, 1) := by decide +kernel
theorem dX9_read_11 : decode cX9_read 11 = .ok (.getfield 50, 3) := by decide +kernel
theorem dX9_read_14 : decode cX9_read 14 = .ok (.iload_n 1, 1) := by decide +kernel
theorem dX9_read_15 : decode cX9_read 15 = .ok (.baload, 1) := by decide +kernel
theorem dX9_read_16 : decode cX9_read 16 = .ok (.ifCond .ne 9, 3) := by decide +kernel
theorem dX9_read_19 : decode cX9_read 19 = .ok (.aload_n 0, 1) := by decide +kernel
theorem dX9_read_20 : decode cX9_read 20 = .ok (.iconst 1, 1) := by decide +kernel
theorem dX9_read_21 : decode cX9_read 21 = .ok (.invokevirtual 146, 3) := by decide +kernel
theorem dX9_read_24 : decode cX9_read 24 = .ok (.ireturn, 1) := by decide +kernel
theorem dX9_read_25 : decode cX9_read 25 = .ok (.iconst 0, 1) := by decide +kernel
theorem dX9_read_26 : decode cX9_read 26 = .ok (.istore_n 2, 1) := by decide +kernel
theorem dX9_read_27 : decode cX9_read 27 = .ok (.iload_n 2, 1) := by decide +kernel
theorem dX9_read_28 : decode cX9_read 28 = .ok (.aload_n 0, 1) := by decide +kernel
theorem dX9_read_29 : decode cX9_read 29 = .ok (.getfield 57, 3) := by decide +kernel
theorem dX9_read_32 : decode cX9_read 32 = .ok (.iload_n 1, 1) := by decide +kernel
theorem dX9_read_33 : decode cX9_read 33 = .ok (.iaload, 1) := by decide +kernel
theorem dX9_read_34 : decode cX9_read 34 = .ok (.if_icmp .ge 49, 3) := by decide +kernel
theorem dX9_read_37 : decode cX9_read 37 = .ok (.iload_n 2, 1) := by decide +kernel
theorem dX9_read_38 : decode cX9_read 38 = .ok (.bipush 10, 2) := by decide +kernel
theorem dX9_read_40 : decode cX9_read 40 = .ok (.if_icmp .ge 43, 3) := by decide +kernel
theorem dX9_read_43 : decode cX9_read 43 = .ok (.aload_n 0, 1) := by decide +kernel
theorem dX9_read_44 : decode cX9_read 44 = .ok (.getfield 60, 3) := by decide +kernel
theorem dX9_read_47 : decode cX9_read 47 = .ok (.bipush 48, 2) := by decide +kernel
theorem dX9_read_49 : decode cX9_read 49 = .ok (.iload_n 1, 1) := by decide +kernel
theorem dX9_read_50 : decode cX9_read 50 = .ok (.imul, 1) := by decide +kernel
theorem dX9_read_51 : decode cX9_read 51 = .ok (.iload_n 2, 1) := by decide +kernel
theorem dX9_read_52 : decode cX9_read 52 = .ok (.iadd, 1) := by decide +kernel
theorem dX9_read_53 : decode cX9_read 53 = .ok (.iaload, 1) := by decide +kernel
theorem dX9_read_54 : decode cX9_read 54 = .ok (.invokestatic 140, 3) := by decide +kernel
theorem dX9_read_57 : decode cX9_read 57 = .ok (.ifCond .eq 26, 3) := by decide +kernel
theorem dX9_read_60 : decode cX9_read 60 = .ok (.aload_n 0, 1) := by decide +kernel
theorem dX9_read_61 : decode cX9_read 61 = .ok (.getfield 31, 3) := by decide +kernel
theorem dX9_read_64 : decode cX9_read 64 = .ok (.iload_n 2, 1) := by decide +kernel
theorem dX9_read_65 : decode cX9_read 65 = .ok (.aload_n 0, 1) := by decide +kernel
theorem dX9_read_66 : decode cX9_read 66 = .ok (.getfield 60, 3) := by decide +kernel
theorem dX9_read_69 : decode cX9_read 69 = .ok (.bipush 48, 2) := by decide +kernel
theorem dX9_read_71 : decode cX9_read 71 = .ok (.iload_n 1, 1) := by decide +kernel
theorem dX9_read_72 : decode cX9_read 72 = .ok (.imul, 1) := by decide +kernel
theorem dX9_read_73 : decode cX9_read 73 = .ok (.iload_n 2, 1) := by decide +kernel
theorem dX9_read_74 : decode cX9_read 74 = .ok (.iadd, 1) := by decide +kernel
theorem dX9_read_75 : decode cX9_read 75 = .ok (.iaload, 1) := by decide +kernel
theorem dX9_read_76 : decode cX9_read 76 = .ok (.iastore, 1) := by decide +kernel
theorem dX9_read_77 : decode cX9_read 77 = .ok (.iinc 2 1, 3) := by decide +kernel
theorem dX9_read_80 : decode cX9_read 80 = .ok (.goto (-53), 3) := by decide +kernel
theorem dX9_read_83 : decode cX9_read 83 = .ok (.iload_n 2, 1) := by decide +kernel
theorem dX9_read_84 : decode cX9_read 84 = .ok (.ireturn, 1) := by decide +kernel
theorem dX9_isFit_0 : decode cX9_isFit 0 = .ok (.aload_n 0, 1) := by decide +kernel
theorem dX9_isFit_1 : decode cX9_isFit 1 = .ok (.getfield 31, 3) := by decide +kernel
theorem dX9_isFit_4 : decode cX9_isFit 4 = .ok (.iload_n 1, 1) := by decide +kernel
theorem dX9_isFit_5 : decode cX9_isFit 5 = .ok (.iaload, 1) := by decide +kernel
theorem dX9_isFit_6 : decode cX9_isFit 6 = .ok (.iconst (-1), 1) := by decide +kernel
theorem dX9_isFit_7 : decode cX9_isFit 7 = .ok (.if_icmp .eq 33, 3) := by decide +kernel
theorem dX9_isFit_10 : decode cX9_isFit 10 = .ok (.aload_n 0, 1) := by decide +kernel
theorem dX9_isFit_11 : decode cX9_isFit 11 = .ok (.aload_n 0, 1) := by decide +kernel
theorem dX9_isFit_12 : decode cX9_isFit 12 = .ok (.getfield 22, 3) := by decide +kernel
theorem dX9_isFit_15 : decode cX9_isFit 15 = .ok (.iload_n 1, 1) := by decide +kernel
theorem dX9_isFit_16 : decode cX9_isFit 16 = .ok (.iaload, 1) := by decide +kernel
theorem dX9_isFit_17 : decode cX9_isFit 17 = .ok (.iload_n 2, 1) := by decide +kernel
theorem dX9_isFit_18 : decode cX9_isFit 18 = .ok (.invokevirtual 93, 3) := by decide +kernel
theorem dX9_isFit_21 : decode cX9_isFit 21 = .ok (.aload_n 0, 1) := by decide +kernel
theorem dX9_isFit_22 : decode cX9_isFit 22 = .ok (.getfield 31, 3) := by decide +kernel
theorem dX9_isFit_25 : decode cX9_isFit 25 = .ok (.iload_n 1, 1) := by decide +kernel
theorem dX9_isFit_26 : decode cX9_isFit 26 = .ok (.iaload, 1) := by decide +kernel
theorem dX9_isFit_27 : decode cX9_isFit 27 = .ok (.isub, 1) := by decide +kernel
theorem dX9_isFit_28 : decode cX9_isFit 28 = .ok (.invokestatic 115, 3) := by decide +kernel
theorem dX9_isFit_31 : decode cX9_isFit 31 = .ok (.aload_n 0, 1) := by decide +kernel
theorem dX9_isFit_32 : decode cX9_isFit 32 = .ok (.getfield 16, 3) := by decide +kernel
theorem dX9_isFit_35 : decode cX9_isFit 35 = .ok (.iconst 0, 1) := by decide +kernel
theorem dX9_isFit_36 : decode cX9_isFit 36 = .ok (.iaload, 1) := by decide +kernel
theorem dX9_isFit_37 : decode cX9_isFit 37 = .ok (.if_icmp .gt 7, 3) := by decide +kernel
theorem dX9_isFit_40 : decode cX9_isFit 40 = .ok (.iconst 1, 1) := by decide +kernel
theorem dX9_isFit_41 : decode cX9_isFit 41 = .ok (.goto 4, 3) := by decide +kernel
theorem dX9_isFit_44 : decode cX9_isFit 44 = .ok (.iconst 0, 1) := by decide +kernel
theorem dX9_isFit_45 : decode cX9_isFit 45 = .ok (.ireturn, 1) := by decide +kernel
theorem dX9_fitsOf_0 : decode cX9_fitsOf 0 = .ok (.iconst 0, 1) := by decide +kernel
theorem dX9_fitsOf_1 : decode cX9_fitsOf 1 = .ok (.istore_n 2, 1) := by decide +kernel
theorem dX9_fitsOf_2 : decode cX9_fitsOf 2 = .ok (.iconst 0, 1) := by decide +kernel
theorem dX9_fitsOf_3 : decode cX9_fitsOf 3 = .ok (.istore_n 3, 1) := by decide +kernel
theorem dX9_fitsOf_4 : decode cX9_fitsOf 4 = .ok (.iload_n 3, 1) := by decide +kernel
theorem dX9_fitsOf_5 : decode cX9_fitsOf 5 = .ok (.bipush 9, 2) := by decide +kernel
theorem dX9_fitsOf_7 : decode cX9_fitsOf 7 = .ok (.if_icmp .ge 28, 3) := by decide +kernel
theorem dX9_fitsOf_10 : decode cX9_fitsOf 10 = .ok (.iload_n 2, 1) := by decide +kernel
theorem dX9_fitsOf_11 : decode cX9_fitsOf 11 = .ok (.aload_n 0, 1) := by decide +kernel
theorem dX9_fitsOf_12 : decode cX9_fitsOf 12 = .ok (.iload_n 1, 1) := by decide +kernel
theorem dX9_fitsOf_13 : decode cX9_fitsOf 13 = .ok (.iload_n 3, 1) := by decide +kernel
theorem dX9_fitsOf_14 : decode cX9_fitsOf 14 = .ok (.invokevirtual 149, 3) := by decide +kernel
theorem dX9_fitsOf_17 : decode cX9_fitsOf 17 = .ok (.ifCond .eq 9, 3) := by decide +kernel
theorem dX9_fitsOf_20 : decode cX9_fitsOf 20 = .ok (.iconst 1, 1) := by decide +kernel
theorem dX9_fitsOf_21 : decode cX9_fitsOf 21 = .ok (.iload_n 3, 1) := by decide +kernel
theorem dX9_fitsOf_22 : decode cX9_fitsOf 22 = .ok (.ishl, 1) := by decide +kernel
theorem dX9_fitsOf_23 : decode cX9_fitsOf 23 = .ok (.goto 4, 3) := by decide +kernel
theorem dX9_fitsOf_26 : decode cX9_fitsOf 26 = .ok (.iconst 0, 1) := by decide +kernel
theorem dX9_fitsOf_27 : decode cX9_fitsOf 27 = .ok (.ior, 1) := by decide +kernel
theorem dX9_fitsOf_28 : decode cX9_fitsOf 28 = .ok (.istore_n 2, 1) := by decide +kernel
theorem dX9_fitsOf_29 : decode cX9_fitsOf 29 = .ok (.iinc 3 1, 3) := by decide +kernel
theorem dX9_fitsOf_32 : decode cX9_fitsOf 32 = .ok (.goto (-28), 3) := by decide +kernel
theorem dX9_fitsOf_35 : decode cX9_fitsOf 35 = .ok (.iload_n 2, 1) := by decide +kernel
theorem dX9_fitsOf_36 : decode cX9_fitsOf 36 = .ok (.ireturn, 1) := by decide +kernel
theorem dX9_fits_0 : decode cX9_fits 0 = .ok (.aload_n 0, 1) := by decide +kernel
theorem dX9_fits_1 : decode cX9_fits 1 = .ok (.iload_n 1, 1) := by decide +kernel
theorem dX9_fits_2 : decode cX9_fits 2 = .ok (.invokevirtual 103, 3) := by decide +kernel
theorem dX9_fits_5 : decode cX9_fits 5 = .ok (.ifCond .eq 11, 3) := by decide +kernel
theorem dX9_fits_8 : decode cX9_fits 8 = .ok (.aload_n 0, 1) := by decide +kernel
theorem dX9_fits_9 : decode cX9_fits 9 = .ok (.iload_n 1, 1) := by decide +kernel
theorem dX9_fits_10 : decode cX9_fits 10 = .ok (.invokevirtual 153, 3) := by decide +kernel
theorem dX9_fits_13 : decode cX9_fits 13 = .ok (.goto 5, 3) := by decide +kernel
theorem dX9_fits_16 : decode cX9_fits 16 = .ok (.bipush (-2), 2) := by decide +kernel
theorem dX9_fits_18 : decode cX9_fits 18 = .ok (.ireturn, 1) := by decide +kernel
theorem dX9_worldsBy_0 : decode cX9_worldsBy 0 = .ok (.aload_n 0, 1) := by decide +kernel
theorem dX9_worldsBy_1 : decode cX9_worldsBy 1 = .ok (.invokevirtual 97, 3) := by decide +kernel
theorem dX9_worldsBy_4 : decode cX9_worldsBy 4 = .ok (.istore_n 3, 1) := by decide +kernel
theorem dX9_worldsBy_5 : decode cX9_worldsBy 5 = .ok (.iconst 0, 1) := by decide +kernel
theorem dX9_worldsBy_6 : decode cX9_worldsBy 6 = .ok (.istore 4, 2) := by decide +kernel
theorem dX9_worldsBy_8 : decode cX9_worldsBy 8 = .ok (.iload 4, 2) := by decide +kernel
theorem dX9_worldsBy_10 : decode cX9_worldsBy 10 = .ok (.iload_n 3, 1) := by decide +kernel
theorem dX9_worldsBy_11 : decode cX9_worldsBy 11 = .ok (.if_icmp .ge 172, 3) := by decide +kernel
theorem dX9_worldsBy_14 : decode cX9_worldsBy 14 = .ok (.iconst 0, 1) := by decide +kernel
theorem dX9_worldsBy_15 : decode cX9_worldsBy 15 = .ok (.istore 5, 2) := by decide +kernel
theorem dX9_worldsBy_17 : decode cX9_worldsBy 17 = .ok (.iload 5, 2) := by decide +kernel
theorem dX9_worldsBy_19 : decode cX9_worldsBy 19 = .ok (.bipush 9, 2) := by decide +kernel
theorem dX9_worldsBy_21 : decode cX9_worldsBy 21 = .ok (.if_icmp .ge 126, 3) := by decide +kernel
theorem dX9_worldsBy_24 : decode cX9_worldsBy 24 = .ok (.aload_n 0, 1) := by decide +kernel
theorem dX9_worldsBy_25 : decode cX9_worldsBy 25 = .ok (.iload 4, 2) := by decide +kernel
theorem dX9_worldsBy_27 : decode cX9_worldsBy 27 = .ok (.iload 5, 2) := by decide +kernel
theorem dX9_worldsBy_29 : decode cX9_worldsBy 29 = .ok (.invokevirtual 149, 3) := by decide +kernel
theorem dX9_worldsBy_32 : decode cX9_worldsBy 32 = .ok (.ifCond .eq 21, 3) := by decide +kernel
theorem dX9_worldsBy_35 : decode cX9_worldsBy 35 = .ok (.iload 4, 2) := by decide +kernel
theorem dX9_worldsBy_37 : decode cX9_worldsBy 37 = .ok (.iload_n 1, 1) := by decide +kernel
theorem dX9_worldsBy_38 : decode cX9_worldsBy 38 = .ok (.if_icmp .ne 11, 3) := by decide +kernel
theorem dX9_worldsBy_41 : decode cX9_worldsBy 41 = .ok (.iload 5, 2) := by decide +kernel
theorem dX9_worldsBy_43 : decode cX9_worldsBy 43 = .ok (.iconst 3, 1) := by decide +kernel
theorem dX9_worldsBy_44 : decode cX9_worldsBy 44 = .ok (.idiv, 1) := by decide +kernel
theorem dX9_worldsBy_45 : decode cX9_worldsBy 45 = .ok (.iload_n 2, 1) := by decide +kernel
theorem dX9_worldsBy_46 : decode cX9_worldsBy 46 = .ok (.if_icmp .ne 7, 3) := by decide +kernel
theorem dX9_worldsBy_49 : decode cX9_worldsBy 49 = .ok (.iconst 1, 1) := by decide +kernel
theorem dX9_worldsBy_50 : decode cX9_worldsBy 50 = .ok (.goto 4, 3) := by decide +kernel
theorem dX9_worldsBy_53 : decode cX9_worldsBy 53 = .ok (.iconst 0, 1) := by decide +kernel
theorem dX9_worldsBy_54 : decode cX9_worldsBy 54 = .ok (.istore 6, 2) := by decide +kernel
theorem dX9_worldsBy_56 : decode cX9_worldsBy 56 = .ok (.iload 4, 2) := by decide +kernel
theorem dX9_worldsBy_58 : decode cX9_worldsBy 58 = .ok (.ifCond .ne 7, 3) := by decide +kernel
theorem dX9_worldsBy_61 : decode cX9_worldsBy 61 = .ok (.lconst 1, 1) := by decide +kernel
theorem dX9_worldsBy_62 : decode cX9_worldsBy 62 = .ok (.goto 4, 3) := by decide +kernel
theorem dX9_worldsBy_65 : decode cX9_worldsBy 65 = .ok (.lconst 0, 1) := by decide +kernel
theorem dX9_worldsBy_66 : decode cX9_worldsBy 66 = .ok (.lstore 7, 2) := by decide +kernel
theorem dX9_worldsBy_68 : decode cX9_worldsBy 68 = .ok (.iconst 0, 1) := by decide +kernel
theorem dX9_worldsBy_69 : decode cX9_worldsBy 69 = .ok (.istore 9, 2) := by decide +kernel
theorem dX9_worldsBy_71 : decode cX9_worldsBy 71 = .ok (.iload 9, 2) := by decide +kernel
theorem dX9_worldsBy_73 : decode cX9_worldsBy 73 = .ok (.bipush 9, 2) := by decide +kernel
theorem dX9_worldsBy_75 : decode cX9_worldsBy 75 = .ok (.if_icmp .ge 48, 3) := by decide +kernel
theorem dX9_worldsBy_78 : decode cX9_worldsBy 78 = .ok (.iload 4, 2) := by decide +kernel
theorem dX9_worldsBy_80 : decode cX9_worldsBy 80 = .ok (.ifCond .le 43, 3) := by decide +kernel
theorem dX9_worldsBy_83 : decode cX9_worldsBy 83 = .ok (.lload 7, 2) := by decide +kernel
theorem dX9_worldsBy_85 : decode cX9_worldsBy 85 = .ok (.iload 9, 2) := by decide +kernel
theorem dX9_worldsBy_87 : decode cX9_worldsBy 87 = .ok (.iload 5, 2) := by decide +kernel
theorem dX9_worldsBy_89 : decode cX9_worldsBy 89 = .ok (.if_icmp .eq 14, 3) := by decide +kernel
theorem dX9_worldsBy_92 : decode cX9_worldsBy 92 = .ok (.iload 9, 2) := by decide +kernel
theorem dX9_worldsBy_94 : decode cX9_worldsBy 94 = .ok (.iconst 3, 1) := by decide +kernel
theorem dX9_worldsBy_95 : decode cX9_worldsBy 95 = .ok (.idiv, 1) := by decide +kernel
theorem dX9_worldsBy_96 : decode cX9_worldsBy 96 = .ok (.iload 5, 2) := by decide +kernel
theorem dX9_worldsBy_98 : decode cX9_worldsBy 98 = .ok (.iconst 3, 1) := by decide +kernel
theorem dX9_worldsBy_99 : decode cX9_worldsBy 99 = .ok (.idiv, 1) := by decide +kernel
theorem dX9_worldsBy_100 : decode cX9_worldsBy 100 = .ok (.if_icmp .eq 13, 3) := by decide +kernel
theorem dX9_worldsBy_103 : decode cX9_worldsBy 103 = .ok (.aload_n 0, 1) := by decide +kernel
theorem dX9_worldsBy_104 : decode cX9_worldsBy 104 = .ok (.getfield 40, 3) := by decide +kernel
theorem dX9_worldsBy_107 : decode cX9_worldsBy 107 = .ok (.iload 9, 2) := by decide +kernel
theorem dX9_worldsBy_109 : decode cX9_worldsBy 109 = .ok (.laload, 1) := by decide +kernel
theorem dX9_worldsBy_110 : decode cX9_worldsBy 110 = .ok (.goto 4, 3) := by decide +kernel
theorem dX9_worldsBy_113 : decode cX9_worldsBy 113 = .ok (.lconst 0, 1) := by decide +kernel
theorem dX9_worldsBy_114 : decode cX9_worldsBy 114 = .ok (.ladd, 1) := by decide +kernel
theorem dX9_worldsBy_115 : decode cX9_worldsBy 115 = .ok (.lstore 7, 2) := by decide +kernel
theorem dX9_worldsBy_117 : decode cX9_worldsBy 117 = .ok (.iinc 9 1, 3) := by decide +kernel
theorem dX9_worldsBy_120 : decode cX9_worldsBy 120 = .ok (.goto (-49), 3) := by decide +kernel
theorem dX9_worldsBy_123 : decode cX9_worldsBy 123 = .ok (.aload_n 0, 1) := by decide +kernel
theorem dX9_worldsBy_124 : decode cX9_worldsBy 124 = .ok (.getfield 44, 3) := by decide +kernel
theorem dX9_worldsBy_127 : decode cX9_worldsBy 127 = .ok (.iload 5, 2) := by decide +kernel
theorem dX9_worldsBy_129 : decode cX9_worldsBy 129 = .ok (.iload 6, 2) := by decide +kernel
theorem dX9_worldsBy_131 : decode cX9_worldsBy 131 = .ok (.ifCond .eq 8, 3) := by decide +kernel
theorem dX9_worldsBy_134 : decode cX9_worldsBy 134 = .ok (.lload 7, 2) := by decide +kernel
theorem dX9_worldsBy_136 : decode cX9_worldsBy 136 = .ok (.goto 4, 3) := by decide +kernel
theorem dX9_worldsBy_139 : decode cX9_worldsBy 139 = .ok (.lconst 0, 1) := by decide +kernel
theorem dX9_worldsBy_140 : decode cX9_worldsBy 140 = .ok (.lastore, 1) := by decide +kernel
theorem dX9_worldsBy_141 : decode cX9_worldsBy 141 = .ok (.iinc 5 1, 3) := by decide +kernel
theorem dX9_worldsBy_144 : decode cX9_worldsBy 144 = .ok (.goto (-127), 3) := by decide +kernel
theorem dX9_worldsBy_147 : decode cX9_worldsBy 147 = .ok (.iconst 0, 1) := by decide +kernel
theorem dX9_worldsBy_148 : decode cX9_worldsBy 148 = .ok (.istore 5, 2) := by decide +kernel
theorem dX9_worldsBy_150 : decode cX9_worldsBy 150 = .ok (.iload 5, 2) := by decide +kernel
theorem dX9_worldsBy_152 : decode cX9_worldsBy 152 = .ok (.bipush 9, 2) := by decide +kernel
theorem dX9_worldsBy_154 : decode cX9_worldsBy 154 = .ok (.if_icmp .ge 23, 3) := by decide +kernel
theorem dX9_worldsBy_157 : decode cX9_worldsBy 157 = .ok (.aload_n 0, 1) := by decide +kernel
theorem dX9_worldsBy_158 : decode cX9_worldsBy 158 = .ok (.getfield 40, 3) := by decide +kernel
theorem dX9_worldsBy_161 : decode cX9_worldsBy 161 = .ok (.iload 5, 2) := by decide +kernel
theorem dX9_worldsBy_163 : decode cX9_worldsBy 163 = .ok (.aload_n 0, 1) := by decide +kernel
theorem dX9_worldsBy_164 : decode cX9_worldsBy 164 = .ok (.getfield 44, 3) := by decide +kernel
theorem dX9_worldsBy_167 : decode cX9_worldsBy 167 = .ok (.iload 5, 2) := by decide +kernel
theorem dX9_worldsBy_169 : decode cX9_worldsBy 169 = .ok (.laload, 1) := by decide +kernel
theorem dX9_worldsBy_170 : decode cX9_worldsBy 170 = .ok (.lastore, 1) := by decide +kernel
theorem dX9_worldsBy_171 : decode cX9_worldsBy 171 = .ok (.iinc 5 1, 3) := by decide +kernel
theorem dX9_worldsBy_174 : decode cX9_worldsBy 174 = .ok (.goto (-24), 3) := by decide +kernel
theorem dX9_worldsBy_177 : decode cX9_worldsBy 177 = .ok (.iinc 4 1, 3) := by decide +kernel
theorem dX9_worldsBy_180 : decode cX9_worldsBy 180 = .ok (.goto (-172), 3) := by decide +kernel
theorem dX9_worldsBy_183 : decode cX9_worldsBy 183 = .ok (.iload_n 3, 1) := by decide +kernel
theorem dX9_worldsBy_184 : decode cX9_worldsBy 184 = .ok (.ifCond .ne 7, 3) := by decide +kernel
theorem dX9_worldsBy_187 : decode cX9_worldsBy 187 = .ok (.lconst 1, 1) := by decide +kernel
theorem dX9_worldsBy_188 : decode cX9_worldsBy 188 = .ok (.goto 4, 3) := by decide +kernel
theorem dX9_worldsBy_191 : decode cX9_worldsBy 191 = .ok (.lconst 0, 1) := by decide +kernel
theorem dX9_worldsBy_192 : decode cX9_worldsBy 192 = .ok (.lstore 4, 2) := by decide +kernel
theorem dX9_worldsBy_194 : decode cX9_worldsBy 194 = .ok (.iconst 0, 1) := by decide +kernel
theorem dX9_worldsBy_195 : decode cX9_worldsBy 195 = .ok (.istore 6, 2) := by decide +kernel
theorem dX9_worldsBy_197 : decode cX9_worldsBy 197 = .ok (.iload 6, 2) := by decide +kernel
theorem dX9_worldsBy_199 : decode cX9_worldsBy 199 = .ok (.bipush 9, 2) := by decide +kernel
theorem dX9_worldsBy_201 : decode cX9_worldsBy 201 = .ok (.if_icmp .ge 25, 3) := by decide +kernel
theorem dX9_worldsBy_204 : decode cX9_worldsBy 204 = .ok (.iload_n 3, 1) := by decide +kernel
theorem dX9_worldsBy_205 : decode cX9_worldsBy 205 = .ok (.ifCond .le 21, 3) := by decide +kernel
theorem dX9_worldsBy_208 : decode cX9_worldsBy 208 = .ok (.lload 4, 2) := by decide +kernel
theorem dX9_worldsBy_210 : decode cX9_worldsBy 210 = .ok (.aload_n 0, 1) := by decide +kernel
theorem dX9_worldsBy_211 : decode cX9_worldsBy 211 = .ok (.getfield 40, 3) := by decide +kernel
theorem dX9_worldsBy_214 : decode cX9_worldsBy 214 = .ok (.iload 6, 2) := by decide +kernel
theorem dX9_worldsBy_216 : decode cX9_worldsBy 216 = .ok (.laload, 1) := by decide +kernel
theorem dX9_worldsBy_217 : decode cX9_worldsBy 217 = .ok (.ladd, 1) := by decide +kernel
theorem dX9_worldsBy_218 : decode cX9_worldsBy 218 = .ok (.lstore 4, 2) := by decide +kernel
theorem dX9_worldsBy_220 : decode cX9_worldsBy 220 = .ok (.iinc 6 1, 3) := by decide +kernel
theorem dX9_worldsBy_223 : decode cX9_worldsBy 223 = .ok (.goto (-26), 3) := by decide +kernel
theorem dX9_worldsBy_226 : decode cX9_worldsBy 226 = .ok (.lload 4, 2) := by decide +kernel
theorem dX9_worldsBy_228 : decode cX9_worldsBy 228 = .ok (.lreturn, 1) := by decide +kernel
theorem dX9_worlds_0 : decode cX9_worlds 0 = .ok (.aload_n 0, 1) := by decide +kernel
theorem dX9_worlds_1 : decode cX9_worlds 1 = .ok (.iconst (-1), 1) := by decide +kernel
theorem dX9_worlds_2 : decode cX9_worlds 2 = .ok (.iconst 0, 1) := by decide +kernel
theorem dX9_worlds_3 : decode cX9_worlds 3 = .ok (.invokevirtual 156, 3) := by decide +kernel
theorem dX9_worlds_6 : decode cX9_worlds 6 = .ok (.lreturn, 1) := by decide +kernel
theorem dX9_oddsOf_0 : decode cX9_oddsOf 0 = .ok (.aload_n 0, 1) := by decide +kernel
theorem dX9_oddsOf_1 : decode cX9_oddsOf 1 = .ok (.iconst (-1), 1) := by decide +kernel
theorem dX9_oddsOf_2 : decode cX9_oddsOf 2 = .ok (.iconst 0, 1) := by decide +kernel
theorem dX9_oddsOf_3 : decode cX9_oddsOf 3 = .ok (.invokevirtual 156, 3) := by decide +kernel
theorem dX9_oddsOf_6 : decode cX9_oddsOf 6 = .ok (.lstore 4, 2) := by decide +kernel
theorem dX9_oddsOf_8 : decode cX9_oddsOf 8 = .ok (.lload 4, 2) := by decide +kernel
theorem dX9_oddsOf_10 : decode cX9_oddsOf 10 = .ok (.lconst 0, 1) := by decide +kernel
theorem dX9_oddsOf_11 : decode cX9_oddsOf 11 = .ok (.lcmp, 1) := by decide +kernel
theorem dX9_oddsOf_12 : decode cX9_oddsOf 12 = .ok (.ifCond .ne 11, 3) := by decide +kernel
theorem dX9_oddsOf_15 : decode cX9_oddsOf 15 = .ok (.bipush (-3), 2) := by decide +kernel
theorem dX9_oddsOf_17 : decode cX9_oddsOf 17 = .ok (.invokestatic 128, 3) := by decide +kernel
theorem dX9_oddsOf_20 : decode cX9_oddsOf 20 = .ok (.goto 15, 3) := by decide +kernel
theorem dX9_oddsOf_23 : decode cX9_oddsOf 23 = .ok (.aload_n 0, 1) := by decide +kernel
theorem dX9_oddsOf_24 : decode cX9_oddsOf 24 = .ok (.iload_n 1, 1) := by decide +kernel
theorem dX9_oddsOf_25 : decode cX9_oddsOf 25 = .ok (.iload_n 2, 1) := by decide +kernel
theorem dX9_oddsOf_26 : decode cX9_oddsOf 26 = .ok (.invokevirtual 156, 3) := by decide +kernel
theorem dX9_oddsOf_29 : decode cX9_oddsOf 29 = .ok (.lload 4, 2) := by decide +kernel
theorem dX9_oddsOf_31 : decode cX9_oddsOf 31 = .ok (.iload_n 3, 1) := by decide +kernel
theorem dX9_oddsOf_32 : decode cX9_oddsOf 32 = .ok (.invokestatic 132, 3) := by decide +kernel
theorem dX9_oddsOf_35 : decode cX9_oddsOf 35 = .ok (.lreturn, 1) := by decide +kernel
theorem dX9_odds_0 : decode cX9_odds 0 = .ok (.aload_n 0, 1) := by decide +kernel
theorem dX9_odds_1 : decode cX9_odds 1 = .ok (.iload_n 1, 1) := by decide +kernel
theorem dX9_odds_2 : decode cX9_odds 2 = .ok (.invokevirtual 103, 3) := by decide +kernel
theorem dX9_odds_5 : decode cX9_odds 5 = .ok (.ifCond .eq 31, 3) := by decide +kernel
theorem dX9_odds_8 : decode cX9_odds 8 = .ok (.iload_n 2, 1) := by decide +kernel
theorem dX9_odds_9 : decode cX9_odds 9 = .ok (.iconst 0, 1) := by decide +kernel
theorem dX9_odds_10 : decode cX9_odds 10 = .ok (.iconst 2, 1) := by decide +kernel
theorem dX9_odds_11 : decode cX9_odds 11 = .ok (.invokestatic 68, 3) := by decide +kernel
theorem dX9_odds_14 : decode cX9_odds 14 = .ok (.ifCond .eq 22, 3) := by decide +kernel
theorem dX9_odds_17 : decode cX9_odds 17 = .ok (.iload_n 3, 1) := by decide +kernel
theorem dX9_odds_18 : decode cX9_odds 18 = .ok (.iconst 0, 1) := by decide +kernel
theorem dX9_odds_19 : decode cX9_odds 19 = .ok (.iconst 1, 1) := by decide +kernel
theorem dX9_odds_20 : decode cX9_odds 20 = .ok (.invokestatic 68, 3) := by decide +kernel
theorem dX9_odds_23 : decode cX9_odds 23 = .ok (.ifCond .eq 13, 3) := by decide +kernel
theorem dX9_odds_26 : decode cX9_odds 26 = .ok (.aload_n 0, 1) := by decide +kernel
theorem dX9_odds_27 : decode cX9_odds 27 = .ok (.iload_n 1, 1) := by decide +kernel
theorem dX9_odds_28 : decode cX9_odds 28 = .ok (.iload_n 2, 1) := by decide +kernel
theorem dX9_odds_29 : decode cX9_odds 29 = .ok (.iload_n 3, 1) := by decide +kernel
theorem dX9_odds_30 : decode cX9_odds 30 = .ok (.invokevirtual 160, 3) := by decide +kernel
theorem dX9_odds_33 : decode cX9_odds 33 = .ok (.goto 8, 3) := by decide +kernel
theorem dX9_odds_36 : decode cX9_odds 36 = .ok (.bipush (-2), 2) := by decide +kernel
theorem dX9_odds_38 : decode cX9_odds 38 = .ok (.invokestatic 128, 3) := by decide +kernel
theorem dX9_odds_41 : decode cX9_odds 41 = .ok (.lreturn, 1) := by decide +kernel
theorem dX9_lean_0 : decode cX9_lean 0 = .ok (.iload_n 1, 1) := by decide +kernel
theorem dX9_lean_1 : decode cX9_lean 1 = .ok (.iconst 0, 1) := by decide +kernel
theorem dX9_lean_2 : decode cX9_lean 2 = .ok (.bipush 10, 2) := by decide +kernel
theorem dX9_lean_4 : decode cX9_lean 4 = .ok (.invokestatic 68, 3) := by decide +kernel
theorem dX9_lean_7 : decode cX9_lean 7 = .ok (.ifCond .eq 14, 3) := by decide +kernel
theorem dX9_lean_10 : decode cX9_lean 10 = .ok (.iload_n 2, 1) := by decide +kernel
theorem dX9_lean_11 : decode cX9_lean 11 = .ok (.bipush (-99), 2) := by decide +kernel
theorem dX9_lean_13 : decode cX9_lean 13 = .ok (.bipush 99, 2) := by decide +kernel
theorem dX9_lean_15 : decode cX9_lean 15 = .ok (.invokestatic 68, 3) := by decide +kernel
theorem dX9_lean_18 : decode cX9_lean 18 = .ok (.ifCond .ne 6, 3) := by decide +kernel
theorem dX9_lean_21 : decode cX9_lean 21 = .ok (.ldc 110, 2) := by decide +kernel
theorem dX9_lean_23 : decode cX9_lean 23 = .ok (.ireturn, 1) := by decide +kernel
theorem dX9_lean_24 : decode cX9_lean 24 = .ok (.aload_n 0, 1) := by decide +kernel
theorem dX9_lean_25 : decode cX9_lean 25 = .ok (.getfield 34, 3) := by decide +kernel
theorem dX9_lean_28 : decode cX9_lean 28 = .ok (.iload_n 1, 1) := by decide +kernel
theorem dX9_lean_29 : decode cX9_lean 29 = .ok (.iaload, 1) := by decide +kernel
theorem dX9_lean_30 : decode cX9_lean 30 = .ok (.istore_n 3, 1) := by decide +kernel
theorem dX9_lean_31 : decode cX9_lean 31 = .ok (.aload_n 0, 1) := by decide +kernel
theorem dX9_lean_32 : decode cX9_lean 32 = .ok (.getfield 34, 3) := by decide +kernel
theorem dX9_lean_35 : decode cX9_lean 35 = .ok (.iload_n 1, 1) := by decide +kernel
theorem dX9_lean_36 : decode cX9_lean 36 = .ok (.iload_n 2, 1) := by decide +kernel
theorem dX9_lean_37 : decode cX9_lean 37 = .ok (.iastore, 1) := by decide +kernel
theorem dX9_lean_38 : decode cX9_lean 38 = .ok (.iload_n 3, 1) := by decide +kernel
theorem dX9_lean_39 : decode cX9_lean 39 = .ok (.ireturn, 1) := by decide +kernel
theorem dX9_spread_0 : decode cX9_spread 0 = .ok (.aload_n 0, 1) := by decide +kernel
theorem dX9_spread_1 : decode cX9_spread 1 = .ok (.getfield 34, 3) := by decide +kernel
theorem dX9_spread_4 : decode cX9_spread 4 = .ok (.iload_n 1, 1) := by decide +kernel
theorem dX9_spread_5 : decode cX9_spread 5 = .ok (.iaload, 1) := by decide +kernel
theorem dX9_spread_6 : decode cX9_spread 6 = .ok (.istore_n 3, 1) := by decide +kernel
theorem dX9_spread_7 : decode cX9_spread 7 = .ok (.aload_n 0, 1) := by decide +kernel
theorem dX9_spread_8 : decode cX9_spread 8 = .ok (.getfield 34, 3) := by decide +kernel
theorem dX9_spread_11 : decode cX9_spread 11 = .ok (.iload_n 1, 1) := by decide +kernel
theorem dX9_spread_12 : decode cX9_spread 12 = .ok (.iaload, 1) := by decide +kernel
theorem dX9_spread_13 : decode cX9_spread 13 = .ok (.istore 4, 2) := by decide +kernel
theorem dX9_spread_15 : decode cX9_spread 15 = .ok (.iload_n 1, 1) := by decide +kernel
theorem dX9_spread_16 : decode cX9_spread 16 = .ok (.istore 5, 2) := by decide +kernel
theorem dX9_spread_18 : decode cX9_spread 18 = .ok (.iload 5, 2) := by decide +kernel
theorem dX9_spread_20 : decode cX9_spread 20 = .ok (.iload_n 2, 1) := by decide +kernel
theorem dX9_spread_21 : decode cX9_spread 21 = .ok (.if_icmp .gt 58, 3) := by decide +kernel
theorem dX9_spread_24 : decode cX9_spread 24 = .ok (.aload_n 0, 1) := by decide +kernel
theorem dX9_spread_25 : decode cX9_spread 25 = .ok (.getfield 34, 3) := by decide +kernel
theorem dX9_spread_28 : decode cX9_spread 28 = .ok (.iload 5, 2) := by decide +kernel
theorem dX9_spread_30 : decode cX9_spread 30 = .ok (.iaload, 1) := by decide +kernel
theorem dX9_spread_31 : decode cX9_spread 31 = .ok (.iload_n 3, 1) := by decide +kernel
theorem dX9_spread_32 : decode cX9_spread 32 = .ok (.if_icmp .ge 13, 3) := by decide +kernel
theorem dX9_spread_35 : decode cX9_spread 35 = .ok (.aload_n 0, 1) := by decide +kernel
theorem dX9_spread_36 : decode cX9_spread 36 = .ok (.getfield 34, 3) := by decide +kernel
theorem dX9_spread_39 : decode cX9_spread 39 = .ok (.iload 5, 2) := by decide +kernel
theorem dX9_spread_41 : decode cX9_spread 41 = .ok (.iaload, 1) := by decide +kernel
theorem dX9_spread_42 : decode cX9_spread 42 = .ok (.goto 4, 3) := by decide +kernel
theorem dX9_spread_45 : decode cX9_spread 45 = .ok (.iload_n 3, 1) := by decide +kernel
theorem dX9_spread_46 : decode cX9_spread 46 = .ok (.istore_n 3, 1) := by decide +kernel
theorem dX9_spread_47 : decode cX9_spread 47 = .ok (.aload_n 0, 1) := by decide +kernel
theorem dX9_spread_48 : decode cX9_spread 48 = .ok (.getfield 34, 3) := by decide +kernel
theorem dX9_spread_51 : decode cX9_spread 51 = .ok (.iload 5, 2) := by decide +kernel
theorem dX9_spread_53 : decode cX9_spread 53 = .ok (.iaload, 1) := by decide +kernel
theorem dX9_spread_54 : decode cX9_spread 54 = .ok (.iload 4, 2) := by decide +kernel
theorem dX9_spread_56 : decode cX9_spread 56 = .ok (.if_icmp .le 13, 3) := by decide +kernel
theorem dX9_spread_59 : decode cX9_spread 59 = .ok (.aload_n 0, 1) := by decide +kernel
theorem dX9_spread_60 : decode cX9_spread 60 = .ok (.getfield 34, 3) := by decide +kernel
theorem dX9_spread_63 : decode cX9_spread 63 = .ok (.iload 5, 2) := by decide +kernel
theorem dX9_spread_65 : decode cX9_spread 65 = .ok (.iaload, 1) := by decide +kernel
theorem dX9_spread_66 : decode cX9_spread 66 = .ok (.goto 5, 3) := by decide +kernel
theorem dX9_spread_69 : decode cX9_spread 69 = .ok (.iload 4, 2) := by decide +kernel
theorem dX9_spread_71 : decode cX9_spread 71 = .ok (.istore 4, 2) := by decide +kernel
theorem dX9_spread_73 : decode cX9_spread 73 = .ok (.iinc 5 1, 3) := by decide +kernel
theorem dX9_spread_76 : decode cX9_spread 76 = .ok (.goto (-58), 3) := by decide +kernel
theorem dX9_spread_79 : decode cX9_spread 79 = .ok (.iload 4, 2) := by decide +kernel
theorem dX9_spread_81 : decode cX9_spread 81 = .ok (.iload_n 3, 1) := by decide +kernel
theorem dX9_spread_82 : decode cX9_spread 82 = .ok (.isub, 1) := by decide +kernel
theorem dX9_spread_83 : decode cX9_spread 83 = .ok (.ireturn, 1) := by decide +kernel
theorem dX9_runs_0 : decode cX9_runs 0 = .ok (.iload_n 1, 1) := by decide +kernel
theorem dX9_runs_1 : decode cX9_runs 1 = .ok (.iconst 1, 1) := by decide +kernel
theorem dX9_runs_2 : decode cX9_runs 2 = .ok (.sipush 999, 3) := by decide +kernel
theorem dX9_runs_5 : decode cX9_runs 5 = .ok (.invokestatic 68, 3) := by decide +kernel
theorem dX9_runs_8 : decode cX9_runs 8 = .ok (.ifCond .eq 19, 3) := by decide +kernel
theorem dX9_runs_11 : decode cX9_runs 11 = .ok (.iload_n 2, 1) := by decide +kernel
theorem dX9_runs_12 : decode cX9_runs 12 = .ok (.ifCond .lt 15, 3) := by decide +kernel
theorem dX9_runs_15 : decode cX9_runs 15 = .ok (.iload_n 3, 1) := by decide +kernel
theorem dX9_runs_16 : decode cX9_runs 16 = .ok (.iload_n 2, 1) := by decide +kernel
theorem dX9_runs_17 : decode cX9_runs 17 = .ok (.aload_n 0, 1) := by decide +kernel
theorem dX9_runs_18 : decode cX9_runs 18 = .ok (.invokevirtual 97, 3) := by decide +kernel
theorem dX9_runs_21 : decode cX9_runs 21 = .ok (.invokestatic 68, 3) := by decide +kernel
theorem dX9_runs_24 : decode cX9_runs 24 = .ok (.ifCond .ne 6, 3) := by decide +kernel
theorem dX9_runs_27 : decode cX9_runs 27 = .ok (.bipush (-2), 2) := by decide +kernel
theorem dX9_runs_29 : decode cX9_runs 29 = .ok (.ireturn, 1) := by decide +kernel
theorem dX9_runs_30 : decode cX9_runs 30 = .ok (.aload_n 0, 1) := by decide +kernel
theorem dX9_runs_31 : decode cX9_runs 31 = .ok (.iload_n 2, 1) := by decide +kernel
theorem dX9_runs_32 : decode cX9_runs 32 = .ok (.iload_n 3, 1) := by decide +kernel
theorem dX9_runs_33 : decode cX9_runs 33 = .ok (.invokevirtual 163, 3) := by decide +kernel
theorem dX9_runs_36 : decode cX9_runs 36 = .ok (.aload_n 0, 1) := by decide +kernel
theorem dX9_runs_37 : decode cX9_runs 37 = .ok (.getfield 16, 3) := by decide +kernel
theorem dX9_runs_40 : decode cX9_runs 40 = .ok (.iconst 1, 1) := by decide +kernel
theorem dX9_runs_41 : decode cX9_runs 41 = .ok (.iaload, 1) := by decide +kernel
theorem dX9_runs_42 : decode cX9_runs 42 = .ok (.iload_n 1, 1) := by decide +kernel
theorem dX9_runs_43 : decode cX9_runs 43 = .ok (.isub, 1) := by decide +kernel
theorem dX9_runs_44 : decode cX9_runs 44 = .ok (.if_icmp .gt 7, 3) := by decide +kernel
theorem dX9_runs_47 : decode cX9_runs 47 = .ok (.iconst 1, 1) := by decide +kernel
theorem dX9_runs_48 : decode cX9_runs 48 = .ok (.goto 4, 3) := by decide +kernel
theorem dX9_runs_51 : decode cX9_runs 51 = .ok (.iconst 0, 1) := by decide +kernel
theorem dX9_runs_52 : decode cX9_runs 52 = .ok (.ireturn, 1) := by decide +kernel
theorem dX9_liftsNow_0 : decode cX9_liftsNow 0 = .ok (.aload_n 0, 1) := by decide +kernel
theorem dX9_liftsNow_1 : decode cX9_liftsNow 1 = .ok (.getfield 16, 3) := by decide +kernel
theorem dX9_liftsNow_4 : decode cX9_liftsNow 4 = .ok (.iconst 1, 1) := by decide +kernel
theorem dX9_liftsNow_5 : decode cX9_liftsNow 5 = .ok (.iaload, 1) := by decide +kernel
theorem dX9_liftsNow_6 : decode cX9_liftsNow 6 = .ok (.aload_n 0, 1) := by decide +kernel
theorem dX9_liftsNow_7 : decode cX9_liftsNow 7 = .ok (.iconst 0, 1) := by decide +kernel
theorem dX9_liftsNow_8 : decode cX9_liftsNow 8 = .ok (.aload_n 0, 1) := by decide +kernel
theorem dX9_liftsNow_9 : decode cX9_liftsNow 9 = .ok (.invokevirtual 97, 3) := by decide +kernel
theorem dX9_liftsNow_12 : decode cX9_liftsNow 12 = .ok (.invokevirtual 163, 3) := by decide +kernel
theorem dX9_liftsNow_15 : decode cX9_liftsNow 15 = .ok (.isub, 1) := by decide +kernel
theorem dX9_liftsNow_16 : decode cX9_liftsNow 16 = .ok (.istore_n 1, 1) := by decide +kernel
theorem dX9_liftsNow_17 : decode cX9_liftsNow 17 = .ok (.iload_n 1, 1) := by decide +kernel
theorem dX9_liftsNow_18 : decode cX9_liftsNow 18 = .ok (.ifCond .ge 7, 3) := by decide +kernel
theorem dX9_liftsNow_21 : decode cX9_liftsNow 21 = .ok (.iconst 0, 1) := by decide +kernel
theorem dX9_liftsNow_22 : decode cX9_liftsNow 22 = .ok (.goto 4, 3) := by decide +kernel
theorem dX9_liftsNow_25 : decode cX9_liftsNow 25 = .ok (.iload_n 1, 1) := by decide +kernel
theorem dX9_liftsNow_26 : decode cX9_liftsNow 26 = .ok (.ireturn, 1) := by decide +kernel
theorem dX9_lifts_0 : decode cX9_lifts 0 = .ok (.aload_n 0, 1) := by decide +kernel
theorem dX9_lifts_1 : decode cX9_lifts 1 = .ok (.invokevirtual 166, 3) := by decide +kernel
theorem dX9_lifts_4 : decode cX9_lifts 4 = .ok (.ireturn, 1) := by decide +kernel
theorem dX9_longestOf_0 : decode cX9_longestOf 0 = .ok (.aload_n 0, 1) := by decide +kernel
theorem dX9_longestOf_1 : decode cX9_longestOf 1 = .ok (.invokevirtual 97, 3) := by decide +kernel
theorem dX9_longestOf_4 : decode cX9_longestOf 4 = .ok (.istore_n 3, 1) := by decide +kernel
theorem dX9_longestOf_5 : decode cX9_longestOf 5 = .ok (.iconst (-1), 1) := by decide +kernel
theorem dX9_longestOf_6 : decode cX9_longestOf 6 = .ok (.istore 4, 2) := by decide +kernel
theorem dX9_longestOf_8 : decode cX9_longestOf 8 = .ok (.iconst 0, 1) := by decide +kernel
theorem dX9_longestOf_9 : decode cX9_longestOf 9 = .ok (.istore 5, 2) := by decide +kernel
theorem dX9_longestOf_11 : decode cX9_longestOf 11 = .ok (.iconst 0, 1) := by decide +kernel
theorem dX9_longestOf_12 : decode cX9_longestOf 12 = .ok (.istore 6, 2) := by decide +kernel
theorem dX9_longestOf_14 : decode cX9_longestOf 14 = .ok (.iload 6, 2) := by decide +kernel
theorem dX9_longestOf_16 : decode cX9_longestOf 16 = .ok (.iload_n 3, 1) := by decide +kernel
theorem dX9_longestOf_17 : decode cX9_longestOf 17 = .ok (.if_icmp .gt 96, 3) := by decide +kernel
theorem dX9_longestOf_20 : decode cX9_longestOf 20 = .ok (.iload 6, 2) := by decide +kernel
theorem dX9_longestOf_22 : decode cX9_longestOf 22 = .ok (.istore 7, 2) := by decide +kernel
theorem dX9_longestOf_24 : decode cX9_longestOf 24 = .ok (.iload 7, 2) := by decide +kernel
theorem dX9_longestOf_26 : decode cX9_longestOf 26 = .ok (.iload_n 3, 1) := by decide +kernel
theorem dX9_longestOf_27 : decode cX9_longestOf 27 = .ok (.if_icmp .gt 80, 3) := by decide +kernel
theorem dX9_longestOf_30 : decode cX9_longestOf 30 = .ok (.aload_n 0, 1) := by decide +kernel
theorem dX9_longestOf_31 : decode cX9_longestOf 31 = .ok (.iload 6, 2) := by decide +kernel
theorem dX9_longestOf_33 : decode cX9_longestOf 33 = .ok (.iload 7, 2) := by decide +kernel
theorem dX9_longestOf_35 : decode cX9_longestOf 35 = .ok (.invokevirtual 163, 3) := by decide +kernel
theorem dX9_longestOf_38 : decode cX9_longestOf 38 = .ok (.aload_n 0, 1) := by decide +kernel
theorem dX9_longestOf_39 : decode cX9_longestOf 39 = .ok (.getfield 16, 3) := by decide +kernel
theorem dX9_longestOf_42 : decode cX9_longestOf 42 = .ok (.iconst 1, 1) := by decide +kernel
theorem dX9_longestOf_43 : decode cX9_longestOf 43 = .ok (.iaload, 1) := by decide +kernel
theorem dX9_longestOf_44 : decode cX9_longestOf 44 = .ok (.iload_n 1, 1) := by decide +kernel
theorem dX9_longestOf_45 : decode cX9_longestOf 45 = .ok (.isub, 1) := by decide +kernel
theorem dX9_longestOf_46 : decode cX9_longestOf 46 = .ok (.if_icmp .gt 19, 3) := by decide +kernel
theorem dX9_longestOf_49 : decode cX9_longestOf 49 = .ok (.iload 7, 2) := by decide +kernel
theorem dX9_longestOf_51 : decode cX9_longestOf 51 = .ok (.iload 6, 2) := by decide +kernel
theorem dX9_longestOf_53 : decode cX9_longestOf 53 = .ok (.isub, 1) := by decide +kernel
theorem dX9_longestOf_54 : decode cX9_longestOf 54 = .ok (.iconst 1, 1) := by decide +kernel
theorem dX9_longestOf_55 : decode cX9_longestOf 55 = .ok (.iadd, 1) := by decide +kernel
theorem dX9_longestOf_56 : decode cX9_longestOf 56 = .ok (.iload 5, 2) := by decide +kernel
theorem dX9_longestOf_58 : decode cX9_longestOf 58 = .ok (.if_icmp .le 7, 3) := by decide +kernel
theorem dX9_longestOf_61 : decode cX9_longestOf 61 = .ok (.iconst 1, 1) := by decide +kernel
theorem dX9_longestOf_62 : decode cX9_longestOf 62 = .ok (.goto 4, 3) := by decide +kernel
theorem dX9_longestOf_65 : decode cX9_longestOf 65 = .ok (.iconst 0, 1) := by decide +kernel
theorem dX9_longestOf_66 : decode cX9_longestOf 66 = .ok (.istore 8, 2) := by decide +kernel
theorem dX9_longestOf_68 : decode cX9_longestOf 68 = .ok (.iload 8, 2) := by decide +kernel
theorem dX9_longestOf_70 : decode cX9_longestOf 70 = .ok (.ifCond .eq 8, 3) := by decide +kernel
theorem dX9_longestOf_73 : decode cX9_longestOf 73 = .ok (.iload 6, 2) := by decide +kernel
theorem dX9_longestOf_75 : decode cX9_longestOf 75 = .ok (.goto 5, 3) := by decide +kernel
theorem dX9_longestOf_78 : decode cX9_longestOf 78 = .ok (.iload 4, 2) := by decide +kernel
theorem dX9_longestOf_80 : decode cX9_longestOf 80 = .ok (.istore 4, 2) := by decide +kernel
theorem dX9_longestOf_82 : decode cX9_longestOf 82 = .ok (.iload 8, 2) := by decide +kernel
theorem dX9_longestOf_84 : decode cX9_longestOf 84 = .ok (.ifCond .eq 13, 3) := by decide +kernel
theorem dX9_longestOf_87 : decode cX9_longestOf 87 = .ok (.iload 7, 2) := by decide +kernel
theorem dX9_longestOf_89 : decode cX9_longestOf 89 = .ok (.iload 6, 2) := by decide +kernel
theorem dX9_longestOf_91 : decode cX9_longestOf 91 = .ok (.isub, 1) := by decide +kernel
theorem dX9_longestOf_92 : decode cX9_longestOf 92 = .ok (.iconst 1, 1) := by decide +kernel
theorem dX9_longestOf_93 : decode cX9_longestOf 93 = .ok (.iadd, 1) := by decide +kernel
theorem dX9_longestOf_94 : decode cX9_longestOf 94 = .ok (.goto 5, 3) := by decide +kernel
theorem dX9_longestOf_97 : decode cX9_longestOf 97 = .ok (.iload 5, 2) := by decide +kernel
theorem dX9_longestOf_99 : decode cX9_longestOf 99 = .ok (.istore 5, 2) := by decide +kernel
theorem dX9_longestOf_101 : decode cX9_longestOf 101 = .ok (.iinc 7 1, 3) := by decide +kernel
theorem dX9_longestOf_104 : decode cX9_longestOf 104 = .ok (.goto (-80), 3) := by decide +kernel
theorem dX9_longestOf_107 : decode cX9_longestOf 107 = .ok (.iinc 6 1, 3) := by decide +kernel
theorem dX9_longestOf_110 : decode cX9_longestOf 110 = .ok (.goto (-96), 3) := by decide +kernel
theorem dX9_longestOf_113 : decode cX9_longestOf 113 = .ok (.iload_n 2, 1) := by decide +kernel
theorem dX9_longestOf_114 : decode cX9_longestOf 114 = .ok (.ifCond .ne 8, 3) := by decide +kernel
theorem dX9_longestOf_117 : decode cX9_longestOf 117 = .ok (.iload 5, 2) := by decide +kernel
theorem dX9_longestOf_119 : decode cX9_longestOf 119 = .ok (.goto 5, 3) := by decide +kernel
theorem dX9_longestOf_122 : decode cX9_longestOf 122 = .ok (.iload 4, 2) := by decide +kernel
theorem dX9_longestOf_124 : decode cX9_longestOf 124 = .ok (.ireturn, 1) := by decide +kernel
theorem dX9_longest_0 : decode cX9_longest 0 = .ok (.iload_n 1, 1) := by decide +kernel
theorem dX9_longest_1 : decode cX9_longest 1 = .ok (.iconst 1, 1) := by decide +kernel
theorem dX9_longest_2 : decode cX9_longest 2 = .ok (.sipush 999, 3) := by decide +kernel
theorem dX9_longest_5 : decode cX9_longest 5 = .ok (.invokestatic 68, 3) := by decide +kernel
theorem dX9_longest_8 : decode cX9_longest 8 = .ok (.ifCond .eq 21, 3) := by decide +kernel
theorem dX9_longest_11 : decode cX9_longest 11 = .ok (.iload_n 2, 1) := by decide +kernel
theorem dX9_longest_12 : decode cX9_longest 12 = .ok (.iconst 0, 1) := by decide +kernel
theorem dX9_longest_13 : decode cX9_longest 13 = .ok (.iconst 1, 1) := by decide +kernel
theorem dX9_longest_14 : decode cX9_longest 14 = .ok (.invokestatic 68, 3) := by decide +kernel
theorem dX9_longest_17 : decode cX9_longest 17 = .ok (.ifCond .eq 12, 3) := by decide +kernel
theorem dX9_longest_20 : decode cX9_longest 20 = .ok (.aload_n 0, 1) := by decide +kernel
theorem dX9_longest_21 : decode cX9_longest 21 = .ok (.iload_n 1, 1) := by decide +kernel
theorem dX9_longest_22 : decode cX9_longest 22 = .ok (.iload_n 2, 1) := by decide +kernel
theorem dX9_longest_23 : decode cX9_longest 23 = .ok (.invokevirtual 169, 3) := by decide +kernel
theorem dX9_longest_26 : decode cX9_longest 26 = .ok (.goto 5, 3) := by decide +kernel
theorem dX9_longest_29 : decode cX9_longest 29 = .ok (.bipush (-2), 2) := by decide +kernel
theorem dX9_longest_31 : decode cX9_longest 31 = .ok (.ireturn, 1) := by decide +kernel
theorem dX9_mends_0 : decode cX9_mends 0 = .ok (.aload_n 0, 1) := by decide +kernel
theorem dX9_mends_1 : decode cX9_mends 1 = .ok (.invokevirtual 97, 3) := by decide +kernel
theorem dX9_mends_4 : decode cX9_mends 4 = .ok (.istore_n 2, 1) := by decide +kernel
theorem dX9_mends_5 : decode cX9_mends 5 = .ok (.iconst 0, 1) := by decide +kernel
theorem dX9_mends_6 : decode cX9_mends 6 = .ok (.istore_n 3, 1) := by decide +kernel
theorem dX9_mends_7 : decode cX9_mends 7 = .ok (.iload_n 3, 1) := by decide +kernel
theorem dX9_mends_8 : decode cX9_mends 8 = .ok (.bipush 10, 2) := by decide +kernel
theorem dX9_mends_10 : decode cX9_mends 10 = .ok (.if_icmp .ge 16, 3) := by decide +kernel
theorem dX9_mends_13 : decode cX9_mends 13 = .ok (.aload_n 0, 1) := by decide +kernel
theorem dX9_mends_14 : decode cX9_mends 14 = .ok (.getfield 47, 3) := by decide +kernel
theorem dX9_mends_17 : decode cX9_mends 17 = .ok (.iload_n 3, 1) := by decide +kernel
theorem dX9_mends_18 : decode cX9_mends 18 = .ok (.iconst 0, 1) := by decide +kernel
theorem dX9_mends_19 : decode cX9_mends 19 = .ok (.iastore, 1) := by decide +kernel
theorem dX9_mends_20 : decode cX9_mends 20 = .ok (.iinc 3 1, 3) := by decide +kernel
theorem dX9_mends_23 : decode cX9_mends 23 = .ok (.goto (-16), 3) := by decide +kernel
theorem dX9_mends_26 : decode cX9_mends 26 = .ok (.iconst 0, 1) := by decide +kernel
theorem dX9_mends_27 : decode cX9_mends 27 = .ok (.istore_n 3, 1) := by decide +kernel
theorem dX9_mends_28 : decode cX9_mends 28 = .ok (.iconst 0, 1) := by decide +kernel
theorem dX9_mends_29 : decode cX9_mends 29 = .ok (.istore 4, 2) := by decide +kernel
theorem dX9_mends_31 : decode cX9_mends 31 = .ok (.iconst 0, 1) := by decide +kernel
theorem dX9_mends_32 : decode cX9_mends 32 = .ok (.istore 5, 2) := by decide +kernel
theorem dX9_mends_34 : decode cX9_mends 34 = .ok (.iconst 1, 1) := by decide +kernel
theorem dX9_mends_35 : decode cX9_mends 35 = .ok (.istore 6, 2) := by decide +kernel
theorem dX9_mends_37 : decode cX9_mends 37 = .ok (.iload 6, 2) := by decide +kernel
theorem dX9_mends_39 : decode cX9_mends 39 = .ok (.iload_n 2, 1) := by decide +kernel
theorem dX9_mends_40 : decode cX9_mends 40 = .ok (.if_icmp .gt 229, 3) := by decide +kernel
theorem dX9_mends_43 : decode cX9_mends 43 = .ok (.iload_n 1, 1) := by decide +kernel
theorem dX9_mends_44 : decode cX9_mends 44 = .ok (.iload 6, 2) := by decide +kernel
theorem dX9_mends_46 : decode cX9_mends 46 = .ok (.iconst 1, 1) := by decide +kernel
theorem dX9_mends_47 : decode cX9_mends 47 = .ok (.isub, 1) := by decide +kernel
theorem dX9_mends_48 : decode cX9_mends 48 = .ok (.ishr, 1) := by decide +kernel
theorem dX9_mends_49 : decode cX9_mends 49 = .ok (.iconst 1, 1) := by decide +kernel
theorem dX9_mends_50 : decode cX9_mends 50 = .ok (.iand, 1) := by decide +kernel
theorem dX9_mends_51 : decode cX9_mends 51 = .ok (.iconst 1, 1) := by decide +kernel
theorem dX9_mends_52 : decode cX9_mends 52 = .ok (.if_icmp .ne 211, 3) := by decide +kernel
theorem dX9_mends_55 : decode cX9_mends 55 = .ok (.aload_n 0, 1) := by decide +kernel
theorem dX9_mends_56 : decode cX9_mends 56 = .ok (.iload 6, 2) := by decide +kernel
theorem dX9_mends_58 : decode cX9_mends 58 = .ok (.iconst 2, 1) := by decide +kernel
theorem dX9_mends_59 : decode cX9_mends 59 = .ok (.invokevirtual 112, 3) := by decide +kernel
theorem dX9_mends_62 : decode cX9_mends 62 = .ok (.ineg, 1) := by decide +kernel
theorem dX9_mends_63 : decode cX9_mends 63 = .ok (.iload 5, 2) := by decide +kernel
theorem dX9_mends_65 : decode cX9_mends 65 = .ok (.isub, 1) := by decide +kernel
theorem dX9_mends_66 : decode cX9_mends 66 = .ok (.istore 7, 2) := by decide +kernel
theorem dX9_mends_68 : decode cX9_mends 68 = .ok (.aload_n 0, 1) := by decide +kernel
theorem dX9_mends_69 : decode cX9_mends 69 = .ok (.getfield 16, 3) := by decide +kernel
theorem dX9_mends_72 : decode cX9_mends 72 = .ok (.iconst 2, 1) := by decide +kernel
theorem dX9_mends_73 : decode cX9_mends 73 = .ok (.iaload, 1) := by decide +kernel
theorem dX9_mends_74 : decode cX9_mends 74 = .ok (.aload_n 0, 1) := by decide +kernel
theorem dX9_mends_75 : decode cX9_mends 75 = .ok (.getfield 16, 3) := by decide +kernel
theorem dX9_mends_78 : decode cX9_mends 78 = .ok (.iconst 3, 1) := by decide +kernel
theorem dX9_mends_79 : decode cX9_mends 79 = .ok (.iaload, 1) := by decide +kernel
theorem dX9_mends_80 : decode cX9_mends 80 = .ok (.iadd, 1) := by decide +kernel
theorem dX9_mends_81 : decode cX9_mends 81 = .ok (.ifCond .ne 7, 3) := by decide +kernel
theorem dX9_mends_84 : decode cX9_mends 84 = .ok (.iconst 1, 1) := by decide +kernel
theorem dX9_mends_85 : decode cX9_mends 85 = .ok (.goto 4, 3) := by decide +kernel
theorem dX9_mends_88 : decode cX9_mends 88 = .ok (.iconst 0, 1) := by decide +kernel
theorem dX9_mends_89 : decode cX9_mends 89 = .ok (.istore 8, 2) := by decide +kernel
theorem dX9_mends_91 : decode cX9_mends 91 = .ok (.iload 8, 2) := by decide +kernel
theorem dX9_mends_93 : decode cX9_mends 93 = .ok (.ifCond .ne 8, 3) := by decide +kernel
theorem dX9_mends_96 : decode cX9_mends 96 = .ok (.iload 7, 2) := by decide +kernel
theorem dX9_mends_98 : decode cX9_mends 98 = .ok (.ifCond .ge 8, 3) := by decide +kernel
theorem dX9_mends_101 : decode cX9_mends 101 = .ok (.bipush (-99), 2) := by decide +kernel
theorem dX9_mends_103 : decode cX9_mends 103 = .ok (.goto 4, 3) := by decide +kernel
theorem dX9_mends_106 : decode cX9_mends 106 = .ok (.iconst 0, 1) := by decide +kernel
theorem dX9_mends_107 : decode cX9_mends 107 = .ok (.istore 9, 2) := by decide +kernel
theorem dX9_mends_109 : decode cX9_mends 109 = .ok (.iload 8, 2) := by decide +kernel
theorem dX9_mends_111 : decode cX9_mends 111 = .ok (.ifCond .ne 8, 3) := by decide +kernel
theorem dX9_mends_114 : decode cX9_mends 114 = .ok (.iload 7, 2) := by decide +kernel
theorem dX9_mends_116 : decode cX9_mends 116 = .ok (.ifCond .lt 8, 3) := by decide +kernel
theorem dX9_mends_119 : decode cX9_mends 119 = .ok (.bipush 99, 2) := by decide +kernel
theorem dX9_mends_121 : decode cX9_mends 121 = .ok (.goto 4, 3) := by decide +kernel
theorem dX9_mends_124 : decode cX9_mends 124 = .ok (.iconst 0, 1) := by decide +kernel
theorem dX9_mends_125 : decode cX9_mends 125 = .ok (.istore 10, 2) := by decide +kernel
theorem dX9_mends_127 : decode cX9_mends 127 = .ok (.iload 7, 2) := by decide +kernel
theorem dX9_mends_129 : decode cX9_mends 129 = .ok (.iload 9, 2) := by decide +kernel
theorem dX9_mends_131 : decode cX9_mends 131 = .ok (.iload 6, 2) := by decide +kernel
theorem dX9_mends_133 : decode cX9_mends 133 = .ok (.iload 4, 2) := by decide +kernel
theorem dX9_mends_135 : decode cX9_mends 135 = .ok (.isub, 1) := by decide +kernel
theorem dX9_mends_136 : decode cX9_mends 136 = .ok (.imul, 1) := by decide +kernel
theorem dX9_mends_137 : decode cX9_mends 137 = .ok (.iload 10, 2) := by decide +kernel
theorem dX9_mends_139 : decode cX9_mends 139 = .ok (.iload 6, 2) := by decide +kernel
theorem dX9_mends_141 : decode cX9_mends 141 = .ok (.iload 4, 2) := by decide +kernel
theorem dX9_mends_143 : decode cX9_mends 143 = .ok (.isub, 1) := by decide +kernel
theorem dX9_mends_144 : decode cX9_mends 144 = .ok (.imul, 1) := by decide +kernel
theorem dX9_mends_145 : decode cX9_mends 145 = .ok (.invokestatic 68, 3) := by decide +kernel
theorem dX9_mends_148 : decode cX9_mends 148 = .ok (.ifCond .ne 5, 3) := by decide +kernel
theorem dX9_mends_151 : decode cX9_mends 151 = .ok (.iconst (-1), 1) := by decide +kernel
theorem dX9_mends_152 : decode cX9_mends 152 = .ok (.ireturn, 1) := by decide +kernel
theorem dX9_mends_153 : decode cX9_mends 153 = .ok (.iload 7, 2) := by decide +kernel
theorem dX9_mends_155 : decode cX9_mends 155 = .ok (.istore 11, 2) := by decide +kernel
theorem dX9_mends_157 : decode cX9_mends 157 = .ok (.iload 4, 2) := by decide +kernel
theorem dX9_mends_159 : decode cX9_mends 159 = .ok (.istore 12, 2) := by decide +kernel
theorem dX9_mends_161 : decode cX9_mends 161 = .ok (.iload 12, 2) := by decide +kernel
theorem dX9_mends_163 : decode cX9_mends 163 = .ok (.iload 6, 2) := by decide +kernel
theorem dX9_mends_165 : decode cX9_mends 165 = .ok (.if_icmp .ge 57, 3) := by decide +kernel
theorem dX9_mends_168 : decode cX9_mends 168 = .ok (.iload 11, 2) := by decide +kernel
theorem dX9_mends_170 : decode cX9_mends 170 = .ok (.iload 10, 2) := by decide +kernel
theorem dX9_mends_172 : decode cX9_mends 172 = .ok (.iload 6, 2) := by decide +kernel
theorem dX9_mends_174 : decode cX9_mends 174 = .ok (.iload 12, 2) := by decide +kernel
theorem dX9_mends_176 : decode cX9_mends 176 = .ok (.isub, 1) := by decide +kernel
theorem dX9_mends_177 : decode cX9_mends 177 = .ok (.iconst 1, 1) := by decide +kernel
theorem dX9_mends_178 : decode cX9_mends 178 = .ok (.isub, 1) := by decide +kernel
theorem dX9_mends_179 : decode cX9_mends 179 = .ok (.imul, 1) := by decide +kernel
theorem dX9_mends_180 : decode cX9_mends 180 = .ok (.isub, 1) := by decide +kernel
theorem dX9_mends_181 : decode cX9_mends 181 = .ok (.istore 13, 2) := by decide +kernel
theorem dX9_mends_183 : decode cX9_mends 183 = .ok (.aload_n 0, 1) := by decide +kernel
theorem dX9_mends_184 : decode cX9_mends 184 = .ok (.getfield 47, 3) := by decide +kernel
theorem dX9_mends_187 : decode cX9_mends 187 = .ok (.iload 12, 2) := by decide +kernel
theorem dX9_mends_189 : decode cX9_mends 189 = .ok (.iload 13, 2) := by decide +kernel
theorem dX9_mends_191 : decode cX9_mends 191 = .ok (.iload 9, 2) := by decide +kernel
theorem dX9_mends_193 : decode cX9_mends 193 = .ok (.if_icmp .ge 8, 3) := by decide +kernel
theorem dX9_mends_196 : decode cX9_mends 196 = .ok (.iload 9, 2) := by decide +kernel
theorem dX9_mends_198 : decode cX9_mends 198 = .ok (.goto 5, 3) := by decide +kernel
theorem dX9_mends_201 : decode cX9_mends 201 = .ok (.iload 13, 2) := by decide +kernel
theorem dX9_mends_203 : decode cX9_mends 203 = .ok (.iastore, 1) := by decide +kernel
theorem dX9_mends_204 : decode cX9_mends 204 = .ok (.iload 11, 2) := by decide +kernel
theorem dX9_mends_206 : decode cX9_mends 206 = .ok (.aload_n 0, 1) := by decide +kernel
theorem dX9_mends_207 : decode cX9_mends 207 = .ok (.getfield 47, 3) := by decide +kernel
theorem dX9_mends_210 : decode cX9_mends 210 = .ok (.iload 12, 2) := by decide +kernel
theorem dX9_mends_212 : decode cX9_mends 212 = .ok (.iaload, 1) := by decide +kernel
theorem dX9_mends_213 : decode cX9_mends 213 = .ok (.isub, 1) := by decide +kernel
theorem dX9_mends_214 : decode cX9_mends 214 = .ok (.istore 11, 2) := by decide +kernel
theorem dX9_mends_216 : decode cX9_mends 216 = .ok (.iinc 12 1, 3) := by decide +kernel
theorem dX9_mends_219 : decode cX9_mends 219 = .ok (.goto (-58), 3) := by decide +kernel
theorem dX9_mends_222 : decode cX9_mends 222 = .ok (.iload_n 3, 1) := by decide +kernel
theorem dX9_mends_223 : decode cX9_mends 223 = .ok (.iload 7, 2) := by decide +kernel
theorem dX9_mends_225 : decode cX9_mends 225 = .ok (.ifCond .ge 16, 3) := by decide +kernel
theorem dX9_mends_228 : decode cX9_mends 228 = .ok (.iload 7, 2) := by decide +kernel
theorem dX9_mends_230 : decode cX9_mends 230 = .ok (.ineg, 1) := by decide +kernel
theorem dX9_mends_231 : decode cX9_mends 231 = .ok (.aload_n 0, 1) := by decide +kernel
theorem dX9_mends_232 : decode cX9_mends 232 = .ok (.getfield 16, 3) := by decide +kernel
theorem dX9_mends_235 : decode cX9_mends 235 = .ok (.iconst 3, 1) := by decide +kernel
theorem dX9_mends_236 : decode cX9_mends 236 = .ok (.iaload, 1) := by decide +kernel
theorem dX9_mends_237 : decode cX9_mends 237 = .ok (.imul, 1) := by decide +kernel
theorem dX9_mends_238 : decode cX9_mends 238 = .ok (.goto 12, 3) := by decide +kernel
theorem dX9_mends_241 : decode cX9_mends 241 = .ok (.iload 7, 2) := by decide +kernel
theorem dX9_mends_243 : decode cX9_mends 243 = .ok (.aload_n 0, 1) := by decide +kernel
theorem dX9_mends_244 : decode cX9_mends 244 = .ok (.getfield 16, 3) := by decide +kernel
theorem dX9_mends_247 : decode cX9_mends 247 = .ok (.iconst 2, 1) := by decide +kernel
theorem dX9_mends_248 : decode cX9_mends 248 = .ok (.iaload, 1) := by decide +kernel
theorem dX9_mends_249 : decode cX9_mends 249 = .ok (.imul, 1) := by decide +kernel
theorem dX9_mends_250 : decode cX9_mends 250 = .ok (.iadd, 1) := by decide +kernel
theorem dX9_mends_251 : decode cX9_mends 251 = .ok (.istore_n 3, 1) := by decide +kernel
theorem dX9_mends_252 : decode cX9_mends 252 = .ok (.iload 5, 2) := by decide +kernel
theorem dX9_mends_254 : decode cX9_mends 254 = .ok (.iload 7, 2) := by decide +kernel
theorem dX9_mends_256 : decode cX9_mends 256 = .ok (.iadd, 1) := by decide +kernel
theorem dX9_mends_257 : decode cX9_mends 257 = .ok (.istore 5, 2) := by decide +kernel
theorem dX9_mends_259 : decode cX9_mends 259 = .ok (.iload 6, 2) := by decide +kernel
theorem dX9_mends_261 : decode cX9_mends 261 = .ok (.istore 4, 2) := by decide +kernel
theorem dX9_mends_263 : decode cX9_mends 263 = .ok (.iinc 6 1, 3) := by decide +kernel
theorem dX9_mends_266 : decode cX9_mends 266 = .ok (.goto (-229), 3) := by decide +kernel
theorem dX9_mends_269 : decode cX9_mends 269 = .ok (.iload_n 3, 1) := by decide +kernel
theorem dX9_mends_270 : decode cX9_mends 270 = .ok (.ireturn, 1) := by decide +kernel
theorem dX9_mended_0 : decode cX9_mended 0 = .ok (.iload_n 1, 1) := by decide +kernel
theorem dX9_mended_1 : decode cX9_mended 1 = .ok (.iconst 0, 1) := by decide +kernel
theorem dX9_mended_2 : decode cX9_mended 2 = .ok (.sipush 1023, 3) := by decide +kernel
theorem dX9_mended_5 : decode cX9_mended 5 = .ok (.invokestatic 68, 3) := by decide +kernel
theorem dX9_mended_8 : decode cX9_mended 8 = .ok (.ifCond .eq 16, 3) := by decide +kernel
theorem dX9_mended_11 : decode cX9_mended 11 = .ok (.iload_n 2, 1) := by decide +kernel
theorem dX9_mended_12 : decode cX9_mended 12 = .ok (.iconst (-1), 1) := by decide +kernel
theorem dX9_mended_13 : decode cX9_mended 13 = .ok (.if_icmp .eq 14, 3) := by decide +kernel
theorem dX9_mended_16 : decode cX9_mended 16 = .ok (.aload_n 0, 1) := by decide +kernel
theorem dX9_mended_17 : decode cX9_mended 17 = .ok (.iload_n 2, 1) := by decide +kernel
theorem dX9_mended_18 : decode cX9_mended 18 = .ok (.invokevirtual 103, 3) := by decide +kernel
theorem dX9_mended_21 : decode cX9_mended 21 = .ok (.ifCond .ne 6, 3) := by decide +kernel
theorem dX9_mended_24 : decode cX9_mended 24 = .ok (.ldc 110, 2) := by decide +kernel
theorem dX9_mended_26 : decode cX9_mended 26 = .ok (.ireturn, 1) := by decide +kernel
theorem dX9_mended_27 : decode cX9_mended 27 = .ok (.aload_n 0, 1) := by decide +kernel
theorem dX9_mended_28 : decode cX9_mended 28 = .ok (.iload_n 1, 1) := by decide +kernel
theorem dX9_mended_29 : decode cX9_mended 29 = .ok (.invokevirtual 172, 3) := by decide +kernel
theorem dX9_mended_32 : decode cX9_mended 32 = .ok (.istore_n 3, 1) := by decide +kernel
theorem dX9_mended_33 : decode cX9_mended 33 = .ok (.iload_n 2, 1) := by decide +kernel
theorem dX9_mended_34 : decode cX9_mended 34 = .ok (.iconst (-1), 1) := by decide +kernel
theorem dX9_mended_35 : decode cX9_mended 35 = .ok (.if_icmp .ne 7, 3) := by decide +kernel
theorem dX9_mended_38 : decode cX9_mended 38 = .ok (.iload_n 3, 1) := by decide +kernel
theorem dX9_mended_39 : decode cX9_mended 39 = .ok (.goto 19, 3) := by decide +kernel
theorem dX9_mended_42 : decode cX9_mended 42 = .ok (.iload_n 3, 1) := by decide +kernel
theorem dX9_mended_43 : decode cX9_mended 43 = .ok (.iconst (-1), 1) := by decide +kernel
theorem dX9_mended_44 : decode cX9_mended 44 = .ok (.if_icmp .ne 8, 3) := by decide +kernel
theorem dX9_mended_47 : decode cX9_mended 47 = .ok (.ldc 175, 2) := by decide +kernel
theorem dX9_mended_49 : decode cX9_mended 49 = .ok (.goto 9, 3) := by decide +kernel
theorem dX9_mended_52 : decode cX9_mended 52 = .ok (.aload_n 0, 1) := by decide +kernel
theorem dX9_mended_53 : decode cX9_mended 53 = .ok (.getfield 47, 3) := by decide +kernel
theorem dX9_mended_56 : decode cX9_mended 56 = .ok (.iload_n 2, 1) := by decide +kernel
theorem dX9_mended_57 : decode cX9_mended 57 = .ok (.iaload, 1) := by decide +kernel
theorem dX9_mended_58 : decode cX9_mended 58 = .ok (.ireturn, 1) := by decide +kernel
theorem dX9_nextOf_0 : decode cX9_nextOf 0 = .ok (.aload_n 0, 1) := by decide +kernel
theorem dX9_nextOf_1 : decode cX9_nextOf 1 = .ok (.aload_n 0, 1) := by decide +kernel
theorem dX9_nextOf_2 : decode cX9_nextOf 2 = .ok (.invokevirtual 97, 3) := by decide +kernel
theorem dX9_nextOf_5 : decode cX9_nextOf 5 = .ok (.iconst 2, 1) := by decide +kernel
theorem dX9_nextOf_6 : decode cX9_nextOf 6 = .ok (.invokevirtual 112, 3) := by decide +kernel
theorem dX9_nextOf_9 : decode cX9_nextOf 9 = .ok (.istore_n 3, 1) := by decide +kernel
theorem dX9_nextOf_10 : decode cX9_nextOf 10 = .ok (.iconst 0, 1) := by decide +kernel
theorem dX9_nextOf_11 : decode cX9_nextOf 11 = .ok (.istore 4, 2) := by decide +kernel
theorem dX9_nextOf_13 : decode cX9_nextOf 13 = .ok (.iload_n 3, 1) := by decide +kernel
theorem dX9_nextOf_14 : decode cX9_nextOf 14 = .ok (.aload_n 0, 1) := by decide +kernel
theorem dX9_nextOf_15 : decode cX9_nextOf 15 = .ok (.iload_n 1, 1) := by decide +kernel
theorem dX9_nextOf_16 : decode cX9_nextOf 16 = .ok (.iconst 0, 1) := by decide +kernel
theorem dX9_nextOf_17 : decode cX9_nextOf 17 = .ok (.invokevirtual 93, 3) := by decide +kernel
theorem dX9_nextOf_20 : decode cX9_nextOf 20 = .ok (.iadd, 1) := by decide +kernel
theorem dX9_nextOf_21 : decode cX9_nextOf 21 = .ok (.iload_n 1, 1) := by decide +kernel
theorem dX9_nextOf_22 : decode cX9_nextOf 22 = .ok (.isub, 1) := by decide +kernel
theorem dX9_nextOf_23 : decode cX9_nextOf 23 = .ok (.invokestatic 115, 3) := by decide +kernel
theorem dX9_nextOf_26 : decode cX9_nextOf 26 = .ok (.istore 5, 2) := by decide +kernel
theorem dX9_nextOf_28 : decode cX9_nextOf 28 = .ok (.iconst 1, 1) := by decide +kernel
theorem dX9_nextOf_29 : decode cX9_nextOf 29 = .ok (.istore 6, 2) := by decide +kernel
theorem dX9_nextOf_31 : decode cX9_nextOf 31 = .ok (.iload 6, 2) := by decide +kernel
theorem dX9_nextOf_33 : decode cX9_nextOf 33 = .ok (.bipush 9, 2) := by decide +kernel
theorem dX9_nextOf_35 : decode cX9_nextOf 35 = .ok (.if_icmp .ge 57, 3) := by decide +kernel
theorem dX9_nextOf_38 : decode cX9_nextOf 38 = .ok (.iload_n 3, 1) := by decide +kernel
theorem dX9_nextOf_39 : decode cX9_nextOf 39 = .ok (.aload_n 0, 1) := by decide +kernel
theorem dX9_nextOf_40 : decode cX9_nextOf 40 = .ok (.iload_n 1, 1) := by decide +kernel
theorem dX9_nextOf_41 : decode cX9_nextOf 41 = .ok (.iload 6, 2) := by decide +kernel
theorem dX9_nextOf_43 : decode cX9_nextOf 43 = .ok (.invokevirtual 93, 3) := by decide +kernel
theorem dX9_nextOf_46 : decode cX9_nextOf 46 = .ok (.iadd, 1) := by decide +kernel
theorem dX9_nextOf_47 : decode cX9_nextOf 47 = .ok (.iload_n 1, 1) := by decide +kernel
theorem dX9_nextOf_48 : decode cX9_nextOf 48 = .ok (.isub, 1) := by decide +kernel
theorem dX9_nextOf_49 : decode cX9_nextOf 49 = .ok (.invokestatic 115, 3) := by decide +kernel
theorem dX9_nextOf_52 : decode cX9_nextOf 52 = .ok (.istore 7, 2) := by decide +kernel
theorem dX9_nextOf_54 : decode cX9_nextOf 54 = .ok (.iload 7, 2) := by decide +kernel
theorem dX9_nextOf_56 : decode cX9_nextOf 56 = .ok (.iload 5, 2) := by decide +kernel
theorem dX9_nextOf_58 : decode cX9_nextOf 58 = .ok (.if_icmp .ge 8, 3) := by decide +kernel
theorem dX9_nextOf_61 : decode cX9_nextOf 61 = .ok (.iload 6, 2) := by decide +kernel
theorem dX9_nextOf_63 : decode cX9_nextOf 63 = .ok (.goto 5, 3) := by decide +kernel
theorem dX9_nextOf_66 : decode cX9_nextOf 66 = .ok (.iload 4, 2) := by decide +kernel
theorem dX9_nextOf_68 : decode cX9_nextOf 68 = .ok (.istore 4, 2) := by decide +kernel
theorem dX9_nextOf_70 : decode cX9_nextOf 70 = .ok (.iload 7, 2) := by decide +kernel
theorem dX9_nextOf_72 : decode cX9_nextOf 72 = .ok (.iload 5, 2) := by decide +kernel
theorem dX9_nextOf_74 : decode cX9_nextOf 74 = .ok (.if_icmp .ge 8, 3) := by decide +kernel
theorem dX9_nextOf_77 : decode cX9_nextOf 77 = .ok (.iload 7, 2) := by decide +kernel
theorem dX9_nextOf_79 : decode cX9_nextOf 79 = .ok (.goto 5, 3) := by decide +kernel
theorem dX9_nextOf_82 : decode cX9_nextOf 82 = .ok (.iload 5, 2) := by decide +kernel
theorem dX9_nextOf_84 : decode cX9_nextOf 84 = .ok (.istore 5, 2) := by decide +kernel
theorem dX9_nextOf_86 : decode cX9_nextOf 86 = .ok (.iinc 6 1, 3) := by decide +kernel
theorem dX9_nextOf_89 : decode cX9_nextOf 89 = .ok (.goto (-58), 3) := by decide +kernel
theorem dX9_nextOf_92 : decode cX9_nextOf 92 = .ok (.iload_n 2, 1) := by decide +kernel
theorem dX9_nextOf_93 : decode cX9_nextOf 93 = .ok (.ifCond .ne 8, 3) := by decide +kernel
theorem dX9_nextOf_96 : decode cX9_nextOf 96 = .ok (.iload 4, 2) := by decide +kernel
theorem dX9_nextOf_98 : decode cX9_nextOf 98 = .ok (.goto 5, 3) := by decide +kernel
theorem dX9_nextOf_101 : decode cX9_nextOf 101 = .ok (.iload 5, 2) := by decide +kernel
theorem dX9_nextOf_103 : decode cX9_nextOf 103 = .ok (.ireturn, 1) := by decide +kernel
theorem dX9_next_0 : decode cX9_next 0 = .ok (.iload_n 1, 1) := by decide +kernel
theorem dX9_next_1 : decode cX9_next 1 = .ok (.iconst 1, 1) := by decide +kernel
theorem dX9_next_2 : decode cX9_next 2 = .ok (.sipush 9999, 3) := by decide +kernel
theorem dX9_next_5 : decode cX9_next 5 = .ok (.invokestatic 68, 3) := by decide +kernel
theorem dX9_next_8 : decode cX9_next 8 = .ok (.ifCond .eq 21, 3) := by decide +kernel
theorem dX9_next_11 : decode cX9_next 11 = .ok (.iload_n 2, 1) := by decide +kernel
theorem dX9_next_12 : decode cX9_next 12 = .ok (.iconst 0, 1) := by decide +kernel
theorem dX9_next_13 : decode cX9_next 13 = .ok (.iconst 1, 1) := by decide +kernel
theorem dX9_next_14 : decode cX9_next 14 = .ok (.invokestatic 68, 3) := by decide +kernel
theorem dX9_next_17 : decode cX9_next 17 = .ok (.ifCond .eq 12, 3) := by decide +kernel
theorem dX9_next_20 : decode cX9_next 20 = .ok (.aload_n 0, 1) := by decide +kernel
theorem dX9_next_21 : decode cX9_next 21 = .ok (.iload_n 1, 1) := by decide +kernel
theorem dX9_next_22 : decode cX9_next 22 = .ok (.iload_n 2, 1) := by decide +kernel
theorem dX9_next_23 : decode cX9_next 23 = .ok (.invokevirtual 176, 3) := by decide +kernel
theorem dX9_next_26 : decode cX9_next 26 = .ok (.goto 5, 3) := by decide +kernel
theorem dX9_next_29 : decode cX9_next 29 = .ok (.bipush (-2), 2) := by decide +kernel
theorem dX9_next_31 : decode cX9_next 31 = .ok (.ireturn, 1) := by decide +kernel
theorem dX9_weigh_0 : decode cX9_weigh 0 = .ok (.iload_n 1, 1) := by decide +kernel
theorem dX9_weigh_1 : decode cX9_weigh 1 = .ok (.iconst 0, 1) := by decide +kernel
theorem dX9_weigh_2 : decode cX9_weigh 2 = .ok (.bipush 9, 2) := by decide +kernel
theorem dX9_weigh_4 : decode cX9_weigh 4 = .ok (.invokestatic 68, 3) := by decide +kernel
theorem dX9_weigh_7 : decode cX9_weigh 7 = .ok (.ifCond .eq 13, 3) := by decide +kernel
theorem dX9_weigh_10 : decode cX9_weigh 10 = .ok (.iload_n 2, 1) := by decide +kernel
theorem dX9_weigh_11 : decode cX9_weigh 11 = .ok (.iconst 0, 1) := by decide +kernel
theorem dX9_weigh_12 : decode cX9_weigh 12 = .ok (.bipush 99, 2) := by decide +kernel
theorem dX9_weigh_14 : decode cX9_weigh 14 = .ok (.invokestatic 68, 3) := by decide +kernel
theorem dX9_weigh_17 : decode cX9_weigh 17 = .ok (.ifCond .ne 6, 3) := by decide +kernel
theorem dX9_weigh_20 : decode cX9_weigh 20 = .ok (.bipush (-2), 2) := by decide +kernel
theorem dX9_weigh_22 : decode cX9_weigh 22 = .ok (.ireturn, 1) := by decide +kernel
theorem dX9_weigh_23 : decode cX9_weigh 23 = .ok (.aload_n 0, 1) := by decide +kernel
theorem dX9_weigh_24 : decode cX9_weigh 24 = .ok (.getfield 37, 3) := by decide +kernel
theorem dX9_weigh_27 : decode cX9_weigh 27 = .ok (.iload_n 1, 1) := by decide +kernel
theorem dX9_weigh_28 : decode cX9_weigh 28 = .ok (.iaload, 1) := by decide +kernel
theorem dX9_weigh_29 : decode cX9_weigh 29 = .ok (.istore_n 3, 1) := by decide +kernel
theorem dX9_weigh_30 : decode cX9_weigh 30 = .ok (.aload_n 0, 1) := by decide +kernel
theorem dX9_weigh_31 : decode cX9_weigh 31 = .ok (.getfield 37, 3) := by decide +kernel
theorem dX9_weigh_34 : decode cX9_weigh 34 = .ok (.iload_n 1, 1) := by decide +kernel
theorem dX9_weigh_35 : decode cX9_weigh 35 = .ok (.iload_n 2, 1) := by decide +kernel
theorem dX9_weigh_36 : decode cX9_weigh 36 = .ok (.iastore, 1) := by decide +kernel
theorem dX9_weigh_37 : decode cX9_weigh 37 = .ok (.iload_n 3, 1) := by decide +kernel
theorem dX9_weigh_38 : decode cX9_weigh 38 = .ok (.ireturn, 1) := by decide +kernel
theorem dX9_bearsOf_0 : decode cX9_bearsOf 0 = .ok (.iload_n 2, 1) := by decide +kernel
theorem dX9_bearsOf_1 : decode cX9_bearsOf 1 = .ok (.iconst 2, 1) := by decide +kernel
theorem dX9_bearsOf_2 : decode cX9_bearsOf 2 = .ok (.iadd, 1) := by decide +kernel
theorem dX9_bearsOf_3 : decode cX9_bearsOf 3 = .ok (.aload_n 0, 1) := by decide +kernel
theorem dX9_bearsOf_4 : decode cX9_bearsOf 4 = .ok (.iload_n 1, 1) := by decide +kernel
theorem dX9_bearsOf_5 : decode cX9_bearsOf 5 = .ok (.invokevirtual 100, 3) := by decide +kernel
theorem dX9_bearsOf_8 : decode cX9_bearsOf 8 = .ok (.imul, 1) := by decide +kernel
theorem dX9_bearsOf_9 : decode cX9_bearsOf 9 = .ok (.bipush 10, 2) := by decide +kernel
theorem dX9_bearsOf_11 : decode cX9_bearsOf 11 = .ok (.idiv, 1) := by decide +kernel
theorem dX9_bearsOf_12 : decode cX9_bearsOf 12 = .ok (.ireturn, 1) := by decide +kernel
theorem dX9_bears_0 : decode cX9_bears 0 = .ok (.aload_n 0, 1) := by decide +kernel
theorem dX9_bears_1 : decode cX9_bears 1 = .ok (.iload_n 1, 1) := by decide +kernel
theorem dX9_bears_2 : decode cX9_bears 2 = .ok (.invokevirtual 103, 3) := by decide +kernel
theorem dX9_bears_5 : decode cX9_bears 5 = .ok (.ifCond .eq 21, 3) := by decide +kernel
theorem dX9_bears_8 : decode cX9_bears 8 = .ok (.iload_n 2, 1) := by decide +kernel
theorem dX9_bears_9 : decode cX9_bears 9 = .ok (.iconst 0, 1) := by decide +kernel
theorem dX9_bears_10 : decode cX9_bears 10 = .ok (.iconst 2, 1) := by decide +kernel
theorem dX9_bears_11 : decode cX9_bears 11 = .ok (.invokestatic 68, 3) := by decide +kernel
theorem dX9_bears_14 : decode cX9_bears 14 = .ok (.ifCond .eq 12, 3) := by decide +kernel
theorem dX9_bears_17 : decode cX9_bears 17 = .ok (.aload_n 0, 1) := by decide +kernel
theorem dX9_bears_18 : decode cX9_bears 18 = .ok (.iload_n 1, 1) := by decide +kernel
theorem dX9_bears_19 : decode cX9_bears 19 = .ok (.iload_n 2, 1) := by decide +kernel
theorem dX9_bears_20 : decode cX9_bears 20 = .ok (.invokevirtual 179, 3) := by decide +kernel
theorem dX9_bears_23 : decode cX9_bears 23 = .ok (.goto 5, 3) := by decide +kernel
theorem dX9_bears_26 : decode cX9_bears 26 = .ok (.bipush (-2), 2) := by decide +kernel
theorem dX9_bears_28 : decode cX9_bears 28 = .ok (.ireturn, 1) := by decide +kernel
theorem dX9_safeBy_0 : decode cX9_safeBy 0 = .ok (.aload_n 0, 1) := by decide +kernel
theorem dX9_safeBy_1 : decode cX9_safeBy 1 = .ok (.invokevirtual 97, 3) := by decide +kernel
theorem dX9_safeBy_4 : decode cX9_safeBy 4 = .ok (.istore_n 3, 1) := by decide +kernel
theorem dX9_safeBy_5 : decode cX9_safeBy 5 = .ok (.iconst 0, 1) := by decide +kernel
theorem dX9_safeBy_6 : decode cX9_safeBy 6 = .ok (.istore 4, 2) := by decide +kernel
theorem dX9_safeBy_8 : decode cX9_safeBy 8 = .ok (.iload 4, 2) := by decide +kernel
theorem dX9_safeBy_10 : decode cX9_safeBy 10 = .ok (.iload_n 3, 1) := by decide +kernel
theorem dX9_safeBy_11 : decode cX9_safeBy 11 = .ok (.if_icmp .ge 69, 3) := by decide +kernel
theorem dX9_safeBy_14 : decode cX9_safeBy 14 = .ok (.iload 4, 2) := by decide +kernel
theorem dX9_safeBy_16 : decode cX9_safeBy 16 = .ok (.iload_n 3, 1) := by decide +kernel
theorem dX9_safeBy_17 : decode cX9_safeBy 17 = .ok (.iconst 1, 1) := by decide +kernel
theorem dX9_safeBy_18 : decode cX9_safeBy 18 = .ok (.isub, 1) := by decide +kernel
theorem dX9_safeBy_19 : decode cX9_safeBy 19 = .ok (.if_icmp .ge 7, 3) := by decide +kernel
theorem dX9_safeBy_22 : decode cX9_safeBy 22 = .ok (.iload_n 2, 1) := by decide +kernel
theorem dX9_safeBy_23 : decode cX9_safeBy 23 = .ok (.goto 4, 3) := by decide +kernel
theorem dX9_safeBy_26 : decode cX9_safeBy 26 = .ok (.iconst 0, 1) := by decide +kernel
theorem dX9_safeBy_27 : decode cX9_safeBy 27 = .ok (.istore 5, 2) := by decide +kernel
theorem dX9_safeBy_29 : decode cX9_safeBy 29 = .ok (.iload 4, 2) := by decide +kernel
theorem dX9_safeBy_31 : decode cX9_safeBy 31 = .ok (.iconst 1, 1) := by decide +kernel
theorem dX9_safeBy_32 : decode cX9_safeBy 32 = .ok (.iadd, 1) := by decide +kernel
theorem dX9_safeBy_33 : decode cX9_safeBy 33 = .ok (.istore 6, 2) := by decide +kernel
theorem dX9_safeBy_35 : decode cX9_safeBy 35 = .ok (.iload 6, 2) := by decide +kernel
theorem dX9_safeBy_37 : decode cX9_safeBy 37 = .ok (.iload_n 3, 1) := by decide +kernel
theorem dX9_safeBy_38 : decode cX9_safeBy 38 = .ok (.if_icmp .ge 21, 3) := by decide +kernel
theorem dX9_safeBy_41 : decode cX9_safeBy 41 = .ok (.iload 5, 2) := by decide +kernel
theorem dX9_safeBy_43 : decode cX9_safeBy 43 = .ok (.aload_n 0, 1) := by decide +kernel
theorem dX9_safeBy_44 : decode cX9_safeBy 44 = .ok (.getfield 37, 3) := by decide +kernel
theorem dX9_safeBy_47 : decode cX9_safeBy 47 = .ok (.iload 6, 2) := by decide +kernel
theorem dX9_safeBy_49 : decode cX9_safeBy 49 = .ok (.iaload, 1) := by decide +kernel
theorem dX9_safeBy_50 : decode cX9_safeBy 50 = .ok (.iadd, 1) := by decide +kernel
theorem dX9_safeBy_51 : decode cX9_safeBy 51 = .ok (.istore 5, 2) := by decide +kernel
theorem dX9_safeBy_53 : decode cX9_safeBy 53 = .ok (.iinc 6 1, 3) := by decide +kernel
theorem dX9_safeBy_56 : decode cX9_safeBy 56 = .ok (.goto (-21), 3) := by decide +kernel
theorem dX9_safeBy_59 : decode cX9_safeBy 59 = .ok (.iload 5, 2) := by decide +kernel
theorem dX9_safeBy_61 : decode cX9_safeBy 61 = .ok (.aload_n 0, 1) := by decide +kernel
theorem dX9_safeBy_62 : decode cX9_safeBy 62 = .ok (.iload 4, 2) := by decide +kernel
theorem dX9_safeBy_64 : decode cX9_safeBy 64 = .ok (.iload_n 1, 1) := by decide +kernel
theorem dX9_safeBy_65 : decode cX9_safeBy 65 = .ok (.invokevirtual 179, 3) := by decide +kernel
theorem dX9_safeBy_68 : decode cX9_safeBy 68 = .ok (.if_icmp .le 6, 3) := by decide +kernel
theorem dX9_safeBy_71 : decode cX9_safeBy 71 = .ok (.iload 4, 2) := by decide +kernel
theorem dX9_safeBy_73 : decode cX9_safeBy 73 = .ok (.ireturn, 1) := by decide +kernel
theorem dX9_safeBy_74 : decode cX9_safeBy 74 = .ok (.iinc 4 1, 3) := by decide +kernel
theorem dX9_safeBy_77 : decode cX9_safeBy 77 = .ok (.goto (-69), 3) := by decide +kernel
theorem dX9_safeBy_80 : decode cX9_safeBy 80 = .ok (.iconst (-1), 1) := by decide +kernel
theorem dX9_safeBy_81 : decode cX9_safeBy 81 = .ok (.ireturn, 1) := by decide +kernel
theorem dX9_safe_0 : decode cX9_safe 0 = .ok (.iload_n 1, 1) := by decide +kernel
theorem dX9_safe_1 : decode cX9_safe 1 = .ok (.iconst 0, 1) := by decide +kernel
theorem dX9_safe_2 : decode cX9_safe 2 = .ok (.iconst 2, 1) := by decide +kernel
theorem dX9_safe_3 : decode cX9_safe 3 = .ok (.invokestatic 68, 3) := by decide +kernel
theorem dX9_safe_6 : decode cX9_safe 6 = .ok (.ifCond .eq 12, 3) := by decide +kernel
theorem dX9_safe_9 : decode cX9_safe 9 = .ok (.aload_n 0, 1) := by decide +kernel
theorem dX9_safe_10 : decode cX9_safe 10 = .ok (.iload_n 1, 1) := by decide +kernel
theorem dX9_safe_11 : decode cX9_safe 11 = .ok (.iconst 0, 1) := by decide +kernel
theorem dX9_safe_12 : decode cX9_safe 12 = .ok (.invokevirtual 182, 3) := by decide +kernel
theorem dX9_safe_15 : decode cX9_safe 15 = .ok (.goto 5, 3) := by decide +kernel
theorem dX9_safe_18 : decode cX9_safe 18 = .ok (.bipush (-2), 2) := by decide +kernel
theorem dX9_safe_20 : decode cX9_safe 20 = .ok (.ireturn, 1) := by decide +kernel
theorem dX9_moreNow_0 : decode cX9_moreNow 0 = .ok (.iconst (-1), 1) := by decide +kernel
theorem dX9_moreNow_1 : decode cX9_moreNow 1 = .ok (.istore_n 1, 1) := by decide +kernel
theorem dX9_moreNow_2 : decode cX9_moreNow 2 = .ok (.iconst 0, 1) := by decide +kernel
theorem dX9_moreNow_3 : decode cX9_moreNow 3 = .ok (.istore_n 2, 1) := by decide +kernel
theorem dX9_moreNow_4 : decode cX9_moreNow 4 = .ok (.iload_n 2, 1) := by decide +kernel
theorem dX9_moreNow_5 : decode cX9_moreNow 5 = .ok (.bipush 100, 2) := by decide +kernel
theorem dX9_moreNow_7 : decode cX9_moreNow 7 = .ok (.if_icmp .ge 62, 3) := by decide +kernel
theorem dX9_moreNow_10 : decode cX9_moreNow 10 = .ok (.aload_n 0, 1) := by decide +kernel
theorem dX9_moreNow_11 : decode cX9_moreNow 11 = .ok (.invokevirtual 97, 3) := by decide +kernel
theorem dX9_moreNow_14 : decode cX9_moreNow 14 = .ok (.ifCond .le 55, 3) := by decide +kernel
theorem dX9_moreNow_17 : decode cX9_moreNow 17 = .ok (.aload_n 0, 1) := by decide +kernel
theorem dX9_moreNow_18 : decode cX9_moreNow 18 = .ok (.iconst 0, 1) := by decide +kernel
theorem dX9_moreNow_19 : decode cX9_moreNow 19 = .ok (.iload_n 2, 1) := by decide +kernel
theorem dX9_moreNow_20 : decode cX9_moreNow 20 = .ok (.invokevirtual 182, 3) := by decide +kernel
theorem dX9_moreNow_23 : decode cX9_moreNow 23 = .ok (.iconst (-1), 1) := by decide +kernel
theorem dX9_moreNow_24 : decode cX9_moreNow 24 = .ok (.if_icmp .ne 27, 3) := by decide +kernel
theorem dX9_moreNow_27 : decode cX9_moreNow 27 = .ok (.aload_n 0, 1) := by decide +kernel
theorem dX9_moreNow_28 : decode cX9_moreNow 28 = .ok (.iconst 1, 1) := by decide +kernel
theorem dX9_moreNow_29 : decode cX9_moreNow 29 = .ok (.iload_n 2, 1) := by decide +kernel
theorem dX9_moreNow_30 : decode cX9_moreNow 30 = .ok (.invokevirtual 182, 3) := by decide +kernel
theorem dX9_moreNow_33 : decode cX9_moreNow 33 = .ok (.iconst (-1), 1) := by decide +kernel
theorem dX9_moreNow_34 : decode cX9_moreNow 34 = .ok (.if_icmp .ne 17, 3) := by decide +kernel
theorem dX9_moreNow_37 : decode cX9_moreNow 37 = .ok (.aload_n 0, 1) := by decide +kernel
theorem dX9_moreNow_38 : decode cX9_moreNow 38 = .ok (.iconst 2, 1) := by decide +kernel
theorem dX9_moreNow_39 : decode cX9_moreNow 39 = .ok (.iload_n 2, 1) := by decide +kernel
theorem dX9_moreNow_40 : decode cX9_moreNow 40 = .ok (.invokevirtual 182, 3) := by decide +kernel
theorem dX9_moreNow_43 : decode cX9_moreNow 43 = .ok (.iconst (-1), 1) := by decide +kernel
theorem dX9_moreNow_44 : decode cX9_moreNow 44 = .ok (.if_icmp .ne 7, 3) := by decide +kernel
theorem dX9_moreNow_47 : decode cX9_moreNow 47 = .ok (.iconst 1, 1) := by decide +kernel
theorem dX9_moreNow_48 : decode cX9_moreNow 48 = .ok (.goto 4, 3) := by decide +kernel
theorem dX9_moreNow_51 : decode cX9_moreNow 51 = .ok (.iconst 0, 1) := by decide +kernel
theorem dX9_moreNow_52 : decode cX9_moreNow 52 = .ok (.istore_n 3, 1) := by decide +kernel
theorem dX9_moreNow_53 : decode cX9_moreNow 53 = .ok (.iload_n 3, 1) := by decide +kernel
theorem dX9_moreNow_54 : decode cX9_moreNow 54 = .ok (.ifCond .eq 7, 3) := by decide +kernel
theorem dX9_moreNow_57 : decode cX9_moreNow 57 = .ok (.iload_n 2, 1) := by decide +kernel
theorem dX9_moreNow_58 : decode cX9_moreNow 58 = .ok (.goto 4, 3) := by decide +kernel
theorem dX9_moreNow_61 : decode cX9_moreNow 61 = .ok (.iload_n 1, 1) := by decide +kernel
theorem dX9_moreNow_62 : decode cX9_moreNow 62 = .ok (.istore_n 1, 1) := by decide +kernel
theorem dX9_moreNow_63 : decode cX9_moreNow 63 = .ok (.iinc 2 1, 3) := by decide +kernel
theorem dX9_moreNow_66 : decode cX9_moreNow 66 = .ok (.goto (-62), 3) := by decide +kernel
theorem dX9_moreNow_69 : decode cX9_moreNow 69 = .ok (.iload_n 1, 1) := by decide +kernel
theorem dX9_moreNow_70 : decode cX9_moreNow 70 = .ok (.ireturn, 1) := by decide +kernel
theorem dX9_more_0 : decode cX9_more 0 = .ok (.aload_n 0, 1) := by decide +kernel
theorem dX9_more_1 : decode cX9_more 1 = .ok (.invokevirtual 185, 3) := by decide +kernel
theorem dX9_more_4 : decode cX9_more 4 = .ok (.ireturn, 1) := by decide +kernel
theorem dX9_up_0 : decode cX9_up 0 = .ok (.iload_n 0, 1) := by decide +kernel
theorem dX9_up_1 : decode cX9_up 1 = .ok (.ifCond .le 13, 3) := by decide +kernel
theorem dX9_up_4 : decode cX9_up 4 = .ok (.iload_n 0, 1) := by decide +kernel
theorem dX9_up_5 : decode cX9_up 5 = .ok (.bipush 9, 2) := by decide +kernel
theorem dX9_up_7 : decode cX9_up 7 = .ok (.iadd, 1) := by decide +kernel
theorem dX9_up_8 : decode cX9_up 8 = .ok (.bipush 10, 2) := by decide +kernel
theorem dX9_up_10 : decode cX9_up 10 = .ok (.idiv, 1) := by decide +kernel
theorem dX9_up_11 : decode cX9_up 11 = .ok (.goto 7, 3) := by decide +kernel
theorem dX9_up_14 : decode cX9_up 14 = .ok (.iload_n 0, 1) := by decide +kernel
theorem dX9_up_15 : decode cX9_up 15 = .ok (.bipush 10, 2) := by decide +kernel
theorem dX9_up_17 : decode cX9_up 17 = .ok (.idiv, 1) := by decide +kernel
theorem dX9_up_18 : decode cX9_up 18 = .ok (.ireturn, 1) := by decide +kernel
theorem dX9_stonesOf_0 : decode cX9_stonesOf 0 = .ok (.iconst 0, 1) := by decide +kernel
theorem dX9_stonesOf_1 : decode cX9_stonesOf 1 = .ok (.istore_n 2, 1) := by decide +kernel
theorem dX9_stonesOf_2 : decode cX9_stonesOf 2 = .ok (.iconst 0, 1) := by decide +kernel
theorem dX9_stonesOf_3 : decode cX9_stonesOf 3 = .ok (.istore_n 3, 1) := by decide +kernel
theorem dX9_stonesOf_4 : decode cX9_stonesOf 4 = .ok (.iconst 0, 1) := by decide +kernel
theorem dX9_stonesOf_5 : decode cX9_stonesOf 5 = .ok (.istore 4, 2) := by decide +kernel
theorem dX9_stonesOf_7 : decode cX9_stonesOf 7 = .ok (.iload 4, 2) := by decide +kernel
theorem dX9_stonesOf_9 : decode cX9_stonesOf 9 = .ok (.aload_n 0, 1) := by decide +kernel
theorem dX9_stonesOf_10 : decode cX9_stonesOf 10 = .ok (.invokevirtual 97, 3) := by decide +kernel
theorem dX9_stonesOf_13 : decode cX9_stonesOf 13 = .ok (.if_icmp .ge 60, 3) := by decide +kernel
theorem dX9_stonesOf_16 : decode cX9_stonesOf 16 = .ok (.aload_n 0, 1) := by decide +kernel
theorem dX9_stonesOf_17 : decode cX9_stonesOf 17 = .ok (.getfield 22, 3) := by decide +kernel
theorem dX9_stonesOf_20 : decode cX9_stonesOf 20 = .ok (.iload 4, 2) := by decide +kernel
theorem dX9_stonesOf_22 : decode cX9_stonesOf 22 = .ok (.iaload, 1) := by decide +kernel
theorem dX9_stonesOf_23 : decode cX9_stonesOf 23 = .ok (.invokestatic 188, 3) := by decide +kernel
theorem dX9_stonesOf_26 : decode cX9_stonesOf 26 = .ok (.aload_n 0, 1) := by decide +kernel
theorem dX9_stonesOf_27 : decode cX9_stonesOf 27 = .ok (.iload 4, 2) := by decide +kernel
theorem dX9_stonesOf_29 : decode cX9_stonesOf 29 = .ok (.invokevirtual 100, 3) := by decide +kernel
theorem dX9_stonesOf_32 : decode cX9_stonesOf 32 = .ok (.invokestatic 188, 3) := by decide +kernel
theorem dX9_stonesOf_35 : decode cX9_stonesOf 35 = .ok (.isub, 1) := by decide +kernel
theorem dX9_stonesOf_36 : decode cX9_stonesOf 36 = .ok (.istore 5, 2) := by decide +kernel
theorem dX9_stonesOf_38 : decode cX9_stonesOf 38 = .ok (.iload_n 2, 1) := by decide +kernel
theorem dX9_stonesOf_39 : decode cX9_stonesOf 39 = .ok (.iload 5, 2) := by decide +kernel
theorem dX9_stonesOf_41 : decode cX9_stonesOf 41 = .ok (.ifCond .le 8, 3) := by decide +kernel
theorem dX9_stonesOf_44 : decode cX9_stonesOf 44 = .ok (.iload 5, 2) := by decide +kernel
theorem dX9_stonesOf_46 : decode cX9_stonesOf 46 = .ok (.goto 4, 3) := by decide +kernel
end
section
theorem dX9_stonesOf_49 : decode cX9_stonesOf 49 = .ok (.iconst 0, 1) := by decide +kernel
theorem dX9_stonesOf_50 : decode cX9_stonesOf 50 = .ok (.iadd, 1) := by decide +kernel
theorem dX9_stonesOf_51 : decode cX9_stonesOf 51 = .ok (.istore_n 2, 1) := by decide +kernel
theorem dX9_stonesOf_52 : decode cX9_stonesOf 52 = .ok (.iload_n 3, 1) := by decide +kernel
theorem dX9_stonesOf_53 : decode cX9_stonesOf 53 = .ok (.iload 5, 2) := by decide +kernel
theorem dX9_stonesOf_55 : decode cX9_stonesOf 55 = .ok (.ifCond .ge 9, 3) := by decide +kernel
theorem dX9_stonesOf_58 : decode cX9_stonesOf 58 = .ok (.iload 5, 2) := by decide +kernel
theorem dX9_stonesOf_60 : decode cX9_stonesOf 60 = .ok (.ineg, 1) := by decide +kernel
theorem dX9_stonesOf_61 : decode cX9_stonesOf 61 = .ok (.goto 4, 3) := by decide +kernel
theorem dX9_stonesOf_64 : decode cX9_stonesOf 64 = .ok (.iconst 0, 1) := by decide +kernel
theorem dX9_stonesOf_65 : decode cX9_stonesOf 65 = .ok (.iadd, 1) := by decide +kernel
theorem dX9_stonesOf_66 : decode cX9_stonesOf 66 = .ok (.istore_n 3, 1) := by decide +kernel
theorem dX9_stonesOf_67 : decode cX9_stonesOf 67 = .ok (.iinc 4 1, 3) := by decide +kernel
theorem dX9_stonesOf_70 : decode cX9_stonesOf 70 = .ok (.goto (-63), 3) := by decide +kernel
theorem dX9_stonesOf_73 : decode cX9_stonesOf 73 = .ok (.iload_n 1, 1) := by decide +kernel
theorem dX9_stonesOf_74 : decode cX9_stonesOf 74 = .ok (.ifCond .ne 7, 3) := by decide +kernel
theorem dX9_stonesOf_77 : decode cX9_stonesOf 77 = .ok (.iload_n 2, 1) := by decide +kernel
theorem dX9_stonesOf_78 : decode cX9_stonesOf 78 = .ok (.goto 4, 3) := by decide +kernel
theorem dX9_stonesOf_81 : decode cX9_stonesOf 81 = .ok (.iload_n 3, 1) := by decide +kernel
theorem dX9_stonesOf_82 : decode cX9_stonesOf 82 = .ok (.ireturn, 1) := by decide +kernel
theorem dX9_stones_0 : decode cX9_stones 0 = .ok (.iload_n 1, 1) := by decide +kernel
theorem dX9_stones_1 : decode cX9_stones 1 = .ok (.iconst 0, 1) := by decide +kernel
theorem dX9_stones_2 : decode cX9_stones 2 = .ok (.iconst 1, 1) := by decide +kernel
theorem dX9_stones_3 : decode cX9_stones 3 = .ok (.invokestatic 68, 3) := by decide +kernel
theorem dX9_stones_6 : decode cX9_stones 6 = .ok (.ifCond .eq 11, 3) := by decide +kernel
theorem dX9_stones_9 : decode cX9_stones 9 = .ok (.aload_n 0, 1) := by decide +kernel
theorem dX9_stones_10 : decode cX9_stones 10 = .ok (.iload_n 1, 1) := by decide +kernel
theorem dX9_stones_11 : decode cX9_stones 11 = .ok (.invokevirtual 191, 3) := by decide +kernel
theorem dX9_stones_14 : decode cX9_stones 14 = .ok (.goto 5, 3) := by decide +kernel
theorem dX9_stones_17 : decode cX9_stones 17 = .ok (.bipush (-2), 2) := by decide +kernel
theorem dX9_stones_19 : decode cX9_stones 19 = .ok (.ireturn, 1) := by decide +kernel
theorem dX9_meets_0 : decode cX9_meets 0 = .ok (.aload_n 0, 1) := by decide +kernel
theorem dX9_meets_1 : decode cX9_meets 1 = .ok (.iload_n 1, 1) := by decide +kernel
theorem dX9_meets_2 : decode cX9_meets 2 = .ok (.putfield 194, 3) := by decide +kernel
theorem dX9_meets_5 : decode cX9_meets 5 = .ok (.bipush (-10), 2) := by decide +kernel
theorem dX9_meets_7 : decode cX9_meets 7 = .ok (.iload_n 1, 1) := by decide +kernel
theorem dX9_meets_8 : decode cX9_meets 8 = .ok (.isub, 1) := by decide +kernel
theorem dX9_meets_9 : decode cX9_meets 9 = .ok (.ireturn, 1) := by decide +kernel
theorem dX9_isSheet_0 : decode cX9_isSheet 0 = .ok (.iload_n 0, 1) := by decide +kernel
theorem dX9_isSheet_1 : decode cX9_isSheet 1 = .ok (.iconst 0, 1) := by decide +kernel
theorem dX9_isSheet_2 : decode cX9_isSheet 2 = .ok (.iconst 3, 1) := by decide +kernel
theorem dX9_isSheet_3 : decode cX9_isSheet 3 = .ok (.invokestatic 68, 3) := by decide +kernel
theorem dX9_isSheet_6 : decode cX9_isSheet 6 = .ok (.ireturn, 1) := by decide +kernel
theorem dX9_sheet_0 : decode cX9_sheet 0 = .ok (.iload_n 1, 1) := by decide +kernel
theorem dX9_sheet_1 : decode cX9_sheet 1 = .ok (.invokestatic 143, 3) := by decide +kernel
theorem dX9_sheet_4 : decode cX9_sheet 4 = .ok (.ifCond .eq 18, 3) := by decide +kernel
theorem dX9_sheet_7 : decode cX9_sheet 7 = .ok (.iload_n 2, 1) := by decide +kernel
theorem dX9_sheet_8 : decode cX9_sheet 8 = .ok (.iconst 0, 1) := by decide +kernel
theorem dX9_sheet_9 : decode cX9_sheet 9 = .ok (.iconst 2, 1) := by decide +kernel
theorem dX9_sheet_10 : decode cX9_sheet 10 = .ok (.invokestatic 68, 3) := by decide +kernel
theorem dX9_sheet_13 : decode cX9_sheet 13 = .ok (.ifCond .eq 9, 3) := by decide +kernel
theorem dX9_sheet_16 : decode cX9_sheet 16 = .ok (.iload_n 3, 1) := by decide +kernel
theorem dX9_sheet_17 : decode cX9_sheet 17 = .ok (.bipush 48, 2) := by decide +kernel
theorem dX9_sheet_19 : decode cX9_sheet 19 = .ok (.if_icmp .le 6, 3) := by decide +kernel
theorem dX9_sheet_22 : decode cX9_sheet 22 = .ok (.bipush (-2), 2) := by decide +kernel
theorem dX9_sheet_24 : decode cX9_sheet 24 = .ok (.ireturn, 1) := by decide +kernel
theorem dX9_sheet_25 : decode cX9_sheet 25 = .ok (.iload_n 3, 1) := by decide +kernel
theorem dX9_sheet_26 : decode cX9_sheet 26 = .ok (.ifCond .ge 9, 3) := by decide +kernel
theorem dX9_sheet_29 : decode cX9_sheet 29 = .ok (.aload_n 0, 1) := by decide +kernel
theorem dX9_sheet_30 : decode cX9_sheet 30 = .ok (.iconst 5, 1) := by decide +kernel
theorem dX9_sheet_31 : decode cX9_sheet 31 = .ok (.invokevirtual 146, 3) := by decide +kernel
theorem dX9_sheet_34 : decode cX9_sheet 34 = .ok (.ireturn, 1) := by decide +kernel
theorem dX9_sheet_35 : decode cX9_sheet 35 = .ok (.aload_n 0, 1) := by decide +kernel
theorem dX9_sheet_36 : decode cX9_sheet 36 = .ok (.getfield 50, 3) := by decide +kernel
theorem dX9_sheet_39 : decode cX9_sheet 39 = .ok (.iload_n 1, 1) := by decide +kernel
theorem dX9_sheet_40 : decode cX9_sheet 40 = .ok (.iconst 1, 1) := by decide +kernel
theorem dX9_sheet_41 : decode cX9_sheet 41 = .ok (.bastore, 1) := by decide +kernel
theorem dX9_sheet_42 : decode cX9_sheet 42 = .ok (.aload_n 0, 1) := by decide +kernel
theorem dX9_sheet_43 : decode cX9_sheet 43 = .ok (.getfield 54, 3) := by decide +kernel
theorem dX9_sheet_46 : decode cX9_sheet 46 = .ok (.iload_n 1, 1) := by decide +kernel
theorem dX9_sheet_47 : decode cX9_sheet 47 = .ok (.iload_n 2, 1) := by decide +kernel
theorem dX9_sheet_48 : decode cX9_sheet 48 = .ok (.iastore, 1) := by decide +kernel
theorem dX9_sheet_49 : decode cX9_sheet 49 = .ok (.aload_n 0, 1) := by decide +kernel
theorem dX9_sheet_50 : decode cX9_sheet 50 = .ok (.getfield 57, 3) := by decide +kernel
theorem dX9_sheet_53 : decode cX9_sheet 53 = .ok (.iload_n 1, 1) := by decide +kernel
theorem dX9_sheet_54 : decode cX9_sheet 54 = .ok (.iload_n 3, 1) := by decide +kernel
theorem dX9_sheet_55 : decode cX9_sheet 55 = .ok (.iastore, 1) := by decide +kernel
theorem dX9_sheet_56 : decode cX9_sheet 56 = .ok (.iconst 0, 1) := by decide +kernel
theorem dX9_sheet_57 : decode cX9_sheet 57 = .ok (.istore 4, 2) := by decide +kernel
theorem dX9_sheet_59 : decode cX9_sheet 59 = .ok (.iload 4, 2) := by decide +kernel
theorem dX9_sheet_61 : decode cX9_sheet 61 = .ok (.bipush 48, 2) := by decide +kernel
theorem dX9_sheet_63 : decode cX9_sheet 63 = .ok (.if_icmp .ge 22, 3) := by decide +kernel
theorem dX9_sheet_66 : decode cX9_sheet 66 = .ok (.aload_n 0, 1) := by decide +kernel
theorem dX9_sheet_67 : decode cX9_sheet 67 = .ok (.getfield 60, 3) := by decide +kernel
theorem dX9_sheet_70 : decode cX9_sheet 70 = .ok (.bipush 48, 2) := by decide +kernel
theorem dX9_sheet_72 : decode cX9_sheet 72 = .ok (.iload_n 1, 1) := by decide +kernel
theorem dX9_sheet_73 : decode cX9_sheet 73 = .ok (.imul, 1) := by decide +kernel
theorem dX9_sheet_74 : decode cX9_sheet 74 = .ok (.iload 4, 2) := by decide +kernel
theorem dX9_sheet_76 : decode cX9_sheet 76 = .ok (.iadd, 1) := by decide +kernel
theorem dX9_sheet_77 : decode cX9_sheet 77 = .ok (.iconst 0, 1) := by decide +kernel
theorem dX9_sheet_78 : decode cX9_sheet 78 = .ok (.iastore, 1) := by decide +kernel
theorem dX9_sheet_79 : decode cX9_sheet 79 = .ok (.iinc 4 1, 3) := by decide +kernel
theorem dX9_sheet_82 : decode cX9_sheet 82 = .ok (.goto (-23), 3) := by decide +kernel
theorem dX9_sheet_85 : decode cX9_sheet 85 = .ok (.iload_n 3, 1) := by decide +kernel
theorem dX9_sheet_86 : decode cX9_sheet 86 = .ok (.ireturn, 1) := by decide +kernel
theorem dX9_lose_0 : decode cX9_lose 0 = .ok (.iload_n 1, 1) := by decide +kernel
theorem dX9_lose_1 : decode cX9_lose 1 = .ok (.invokestatic 143, 3) := by decide +kernel
theorem dX9_lose_4 : decode cX9_lose 4 = .ok (.ifCond .ne 6, 3) := by decide +kernel
theorem dX9_lose_7 : decode cX9_lose 7 = .ok (.bipush (-2), 2) := by decide +kernel
theorem dX9_lose_9 : decode cX9_lose 9 = .ok (.ireturn, 1) := by decide +kernel
theorem dX9_lose_10 : decode cX9_lose 10 = .ok (.aload_n 0, 1) := by decide +kernel
theorem dX9_lose_11 : decode cX9_lose 11 = .ok (.getfield 50, 3) := by decide +kernel
theorem dX9_lose_14 : decode cX9_lose 14 = .ok (.iload_n 1, 1) := by decide +kernel
theorem dX9_lose_15 : decode cX9_lose 15 = .ok (.baload, 1) := by decide +kernel
theorem dX9_lose_16 : decode cX9_lose 16 = .ok (.ifCond .ne 9, 3) := by decide +kernel
theorem dX9_lose_19 : decode cX9_lose 19 = .ok (.aload_n 0, 1) := by decide +kernel
theorem dX9_lose_20 : decode cX9_lose 20 = .ok (.iconst 1, 1) := by decide +kernel
theorem dX9_lose_21 : decode cX9_lose 21 = .ok (.invokevirtual 146, 3) := by decide +kernel
theorem dX9_lose_24 : decode cX9_lose 24 = .ok (.ireturn, 1) := by decide +kernel
theorem dX9_lose_25 : decode cX9_lose 25 = .ok (.aload_n 0, 1) := by decide +kernel
theorem dX9_lose_26 : decode cX9_lose 26 = .ok (.getfield 50, 3) := by decide +kernel
theorem dX9_lose_29 : decode cX9_lose 29 = .ok (.iload_n 1, 1) := by decide +kernel
theorem dX9_lose_30 : decode cX9_lose 30 = .ok (.iconst 0, 1) := by decide +kernel
theorem dX9_lose_31 : decode cX9_lose 31 = .ok (.bastore, 1) := by decide +kernel
theorem dX9_lose_32 : decode cX9_lose 32 = .ok (.aload_n 0, 1) := by decide +kernel
theorem dX9_lose_33 : decode cX9_lose 33 = .ok (.getfield 57, 3) := by decide +kernel
theorem dX9_lose_36 : decode cX9_lose 36 = .ok (.iload_n 1, 1) := by decide +kernel
theorem dX9_lose_37 : decode cX9_lose 37 = .ok (.iaload, 1) := by decide +kernel
theorem dX9_lose_38 : decode cX9_lose 38 = .ok (.ireturn, 1) := by decide +kernel
theorem dX9_lacks_0 : decode cX9_lacks 0 = .ok (.aload_n 0, 1) := by decide +kernel
theorem dX9_lacks_1 : decode cX9_lacks 1 = .ok (.getfield 50, 3) := by decide +kernel
theorem dX9_lacks_4 : decode cX9_lacks 4 = .ok (.iload_n 1, 1) := by decide +kernel
theorem dX9_lacks_5 : decode cX9_lacks 5 = .ok (.baload, 1) := by decide +kernel
theorem dX9_lacks_6 : decode cX9_lacks 6 = .ok (.ifCond .ne 7, 3) := by decide +kernel
theorem dX9_lacks_9 : decode cX9_lacks 9 = .ok (.iconst 1, 1) := by decide +kernel
theorem dX9_lacks_10 : decode cX9_lacks 10 = .ok (.goto 38, 3) := by decide +kernel
theorem dX9_lacks_13 : decode cX9_lacks 13 = .ok (.aload_n 0, 1) := by decide +kernel
theorem dX9_lacks_14 : decode cX9_lacks 14 = .ok (.getfield 54, 3) := by decide +kernel
theorem dX9_lacks_17 : decode cX9_lacks 17 = .ok (.iload_n 1, 1) := by decide +kernel
theorem dX9_lacks_18 : decode cX9_lacks 18 = .ok (.iaload, 1) := by decide +kernel
theorem dX9_lacks_19 : decode cX9_lacks 19 = .ok (.iload_n 2, 1) := by decide +kernel
theorem dX9_lacks_20 : decode cX9_lacks 20 = .ok (.if_icmp .eq 7, 3) := by decide +kernel
theorem dX9_lacks_23 : decode cX9_lacks 23 = .ok (.iconst 3, 1) := by decide +kernel
theorem dX9_lacks_24 : decode cX9_lacks 24 = .ok (.goto 24, 3) := by decide +kernel
theorem dX9_lacks_27 : decode cX9_lacks 27 = .ok (.iload_n 3, 1) := by decide +kernel
theorem dX9_lacks_28 : decode cX9_lacks 28 = .ok (.iconst 0, 1) := by decide +kernel
theorem dX9_lacks_29 : decode cX9_lacks 29 = .ok (.aload_n 0, 1) := by decide +kernel
theorem dX9_lacks_30 : decode cX9_lacks 30 = .ok (.getfield 57, 3) := by decide +kernel
theorem dX9_lacks_33 : decode cX9_lacks 33 = .ok (.iload_n 1, 1) := by decide +kernel
theorem dX9_lacks_34 : decode cX9_lacks 34 = .ok (.iaload, 1) := by decide +kernel
theorem dX9_lacks_35 : decode cX9_lacks 35 = .ok (.iconst 1, 1) := by decide +kernel
theorem dX9_lacks_36 : decode cX9_lacks 36 = .ok (.isub, 1) := by decide +kernel
theorem dX9_lacks_37 : decode cX9_lacks 37 = .ok (.invokestatic 68, 3) := by decide +kernel
theorem dX9_lacks_40 : decode cX9_lacks 40 = .ok (.ifCond .eq 7, 3) := by decide +kernel
theorem dX9_lacks_43 : decode cX9_lacks 43 = .ok (.iconst 0, 1) := by decide +kernel
theorem dX9_lacks_44 : decode cX9_lacks 44 = .ok (.goto 4, 3) := by decide +kernel
theorem dX9_lacks_47 : decode cX9_lacks 47 = .ok (.iconst 2, 1) := by decide +kernel
theorem dX9_lacks_48 : decode cX9_lacks 48 = .ok (.ireturn, 1) := by decide +kernel
theorem dX9_keep_0 : decode cX9_keep 0 = .ok (.aload_n 0, 1) := by decide +kernel
theorem dX9_keep_1 : decode cX9_keep 1 = .ok (.getfield 60, 3) := by decide +kernel
theorem dX9_keep_4 : decode cX9_keep 4 = .ok (.bipush 48, 2) := by decide +kernel
theorem dX9_keep_6 : decode cX9_keep 6 = .ok (.iload_n 1, 1) := by decide +kernel
theorem dX9_keep_7 : decode cX9_keep 7 = .ok (.imul, 1) := by decide +kernel
theorem dX9_keep_8 : decode cX9_keep 8 = .ok (.iload_n 2, 1) := by decide +kernel
theorem dX9_keep_9 : decode cX9_keep 9 = .ok (.iadd, 1) := by decide +kernel
theorem dX9_keep_10 : decode cX9_keep 10 = .ok (.aload_n 0, 1) := by decide +kernel
theorem dX9_keep_11 : decode cX9_keep 11 = .ok (.getfield 54, 3) := by decide +kernel
theorem dX9_keep_14 : decode cX9_keep 14 = .ok (.iload_n 1, 1) := by decide +kernel
theorem dX9_keep_15 : decode cX9_keep 15 = .ok (.iaload, 1) := by decide +kernel
theorem dX9_keep_16 : decode cX9_keep 16 = .ok (.ifCond .ne 8, 3) := by decide +kernel
theorem dX9_keep_19 : decode cX9_keep 19 = .ok (.iload_n 3, 1) := by decide +kernel
theorem dX9_keep_20 : decode cX9_keep 20 = .ok (.i2b, 1) := by decide +kernel
theorem dX9_keep_21 : decode cX9_keep 21 = .ok (.goto 19, 3) := by decide +kernel
theorem dX9_keep_24 : decode cX9_keep 24 = .ok (.aload_n 0, 1) := by decide +kernel
theorem dX9_keep_25 : decode cX9_keep 25 = .ok (.getfield 54, 3) := by decide +kernel
theorem dX9_keep_28 : decode cX9_keep 28 = .ok (.iload_n 1, 1) := by decide +kernel
theorem dX9_keep_29 : decode cX9_keep 29 = .ok (.iaload, 1) := by decide +kernel
theorem dX9_keep_30 : decode cX9_keep 30 = .ok (.iconst 1, 1) := by decide +kernel
theorem dX9_keep_31 : decode cX9_keep 31 = .ok (.if_icmp .ne 8, 3) := by decide +kernel
theorem dX9_keep_34 : decode cX9_keep 34 = .ok (.iload_n 3, 1) := by decide +kernel
theorem dX9_keep_35 : decode cX9_keep 35 = .ok (.i2s, 1) := by decide +kernel
theorem dX9_keep_36 : decode cX9_keep 36 = .ok (.goto 4, 3) := by decide +kernel
theorem dX9_keep_39 : decode cX9_keep 39 = .ok (.iload_n 3, 1) := by decide +kernel
theorem dX9_keep_40 : decode cX9_keep 40 = .ok (.iastore, 1) := by decide +kernel
theorem dX9_keep_41 : decode cX9_keep 41 = .ok (.return_, 1) := by decide +kernel
theorem dX9_put_0 : decode cX9_put 0 = .ok (.iload_n 1, 1) := by decide +kernel
theorem dX9_put_1 : decode cX9_put 1 = .ok (.invokestatic 143, 3) := by decide +kernel
theorem dX9_put_4 : decode cX9_put 4 = .ok (.ifCond .eq 12, 3) := by decide +kernel
theorem dX9_put_7 : decode cX9_put 7 = .ok (.iload_n 2, 1) := by decide +kernel
theorem dX9_put_8 : decode cX9_put 8 = .ok (.iconst 0, 1) := by decide +kernel
theorem dX9_put_9 : decode cX9_put 9 = .ok (.iconst 2, 1) := by decide +kernel
theorem dX9_put_10 : decode cX9_put 10 = .ok (.invokestatic 68, 3) := by decide +kernel
theorem dX9_put_13 : decode cX9_put 13 = .ok (.ifCond .ne 6, 3) := by decide +kernel
theorem dX9_put_16 : decode cX9_put 16 = .ok (.bipush (-2), 2) := by decide +kernel
theorem dX9_put_18 : decode cX9_put 18 = .ok (.ireturn, 1) := by decide +kernel
theorem dX9_put_19 : decode cX9_put 19 = .ok (.aload_n 0, 1) := by decide +kernel
theorem dX9_put_20 : decode cX9_put 20 = .ok (.iload_n 1, 1) := by decide +kernel
theorem dX9_put_21 : decode cX9_put 21 = .ok (.iload_n 2, 1) := by decide +kernel
theorem dX9_put_22 : decode cX9_put 22 = .ok (.iload_n 3, 1) := by decide +kernel
theorem dX9_put_23 : decode cX9_put 23 = .ok (.invokevirtual 197, 3) := by decide +kernel
theorem dX9_put_26 : decode cX9_put 26 = .ok (.istore 5, 2) := by decide +kernel
theorem dX9_put_28 : decode cX9_put 28 = .ok (.iload 5, 2) := by decide +kernel
theorem dX9_put_30 : decode cX9_put 30 = .ok (.ifCond .le 10, 3) := by decide +kernel
theorem dX9_put_33 : decode cX9_put 33 = .ok (.aload_n 0, 1) := by decide +kernel
theorem dX9_put_34 : decode cX9_put 34 = .ok (.iload 5, 2) := by decide +kernel
theorem dX9_put_36 : decode cX9_put 36 = .ok (.invokevirtual 146, 3) := by decide +kernel
theorem dX9_put_39 : decode cX9_put 39 = .ok (.ireturn, 1) := by decide +kernel
theorem dX9_put_40 : decode cX9_put 40 = .ok (.aload_n 0, 1) := by decide +kernel
theorem dX9_put_41 : decode cX9_put 41 = .ok (.iload_n 1, 1) := by decide +kernel
theorem dX9_put_42 : decode cX9_put 42 = .ok (.iload_n 3, 1) := by decide +kernel
theorem dX9_put_43 : decode cX9_put 43 = .ok (.iload 4, 2) := by decide +kernel
theorem dX9_put_45 : decode cX9_put 45 = .ok (.invokevirtual 201, 3) := by decide +kernel
theorem dX9_put_48 : decode cX9_put 48 = .ok (.iconst 1, 1) := by decide +kernel
theorem dX9_put_49 : decode cX9_put 49 = .ok (.ireturn, 1) := by decide +kernel
theorem dX9_get_0 : decode cX9_get 0 = .ok (.iload_n 1, 1) := by decide +kernel
theorem dX9_get_1 : decode cX9_get 1 = .ok (.invokestatic 143, 3) := by decide +kernel
theorem dX9_get_4 : decode cX9_get 4 = .ok (.ifCond .eq 12, 3) := by decide +kernel
theorem dX9_get_7 : decode cX9_get 7 = .ok (.iload_n 2, 1) := by decide +kernel
theorem dX9_get_8 : decode cX9_get 8 = .ok (.iconst 0, 1) := by decide +kernel
theorem dX9_get_9 : decode cX9_get 9 = .ok (.iconst 2, 1) := by decide +kernel
theorem dX9_get_10 : decode cX9_get 10 = .ok (.invokestatic 68, 3) := by decide +kernel
theorem dX9_get_13 : decode cX9_get 13 = .ok (.ifCond .ne 6, 3) := by decide +kernel
theorem dX9_get_16 : decode cX9_get 16 = .ok (.ldc 205, 2) := by decide +kernel
theorem dX9_get_18 : decode cX9_get 18 = .ok (.ireturn, 1) := by decide +kernel
theorem dX9_get_19 : decode cX9_get 19 = .ok (.aload_n 0, 1) := by decide +kernel
theorem dX9_get_20 : decode cX9_get 20 = .ok (.iload_n 1, 1) := by decide +kernel
theorem dX9_get_21 : decode cX9_get 21 = .ok (.iload_n 2, 1) := by decide +kernel
theorem dX9_get_22 : decode cX9_get 22 = .ok (.iload_n 3, 1) := by decide +kernel
theorem dX9_get_23 : decode cX9_get 23 = .ok (.invokevirtual 197, 3) := by decide +kernel
theorem dX9_get_26 : decode cX9_get 26 = .ok (.istore 4, 2) := by decide +kernel
theorem dX9_get_28 : decode cX9_get 28 = .ok (.iload 4, 2) := by decide +kernel
theorem dX9_get_30 : decode cX9_get 30 = .ok (.ifCond .le 12, 3) := by decide +kernel
theorem dX9_get_33 : decode cX9_get 33 = .ok (.aload_n 0, 1) := by decide +kernel
theorem dX9_get_34 : decode cX9_get 34 = .ok (.iload 4, 2) := by decide +kernel
theorem dX9_get_36 : decode cX9_get 36 = .ok (.putfield 194, 3) := by decide +kernel
theorem dX9_get_39 : decode cX9_get 39 = .ok (.ldc 205, 2) := by decide +kernel
theorem dX9_get_41 : decode cX9_get 41 = .ok (.ireturn, 1) := by decide +kernel
theorem dX9_get_42 : decode cX9_get 42 = .ok (.aload_n 0, 1) := by decide +kernel
theorem dX9_get_43 : decode cX9_get 43 = .ok (.getfield 60, 3) := by decide +kernel
theorem dX9_get_46 : decode cX9_get 46 = .ok (.bipush 48, 2) := by decide +kernel
theorem dX9_get_48 : decode cX9_get 48 = .ok (.iload_n 1, 1) := by decide +kernel
theorem dX9_get_49 : decode cX9_get 49 = .ok (.imul, 1) := by decide +kernel
theorem dX9_get_50 : decode cX9_get 50 = .ok (.iload_n 3, 1) := by decide +kernel
theorem dX9_get_51 : decode cX9_get 51 = .ok (.iadd, 1) := by decide +kernel
theorem dX9_get_52 : decode cX9_get 52 = .ok (.iaload, 1) := by decide +kernel
theorem dX9_get_53 : decode cX9_get 53 = .ok (.ireturn, 1) := by decide +kernel
theorem dX9_copy_0 : decode cX9_copy 0 = .ok (.iload_n 1, 1) := by decide +kernel
theorem dX9_copy_1 : decode cX9_copy 1 = .ok (.invokestatic 143, 3) := by decide +kernel
theorem dX9_copy_4 : decode cX9_copy 4 = .ok (.ifCond .eq 10, 3) := by decide +kernel
theorem dX9_copy_7 : decode cX9_copy 7 = .ok (.iload_n 3, 1) := by decide +kernel
theorem dX9_copy_8 : decode cX9_copy 8 = .ok (.invokestatic 143, 3) := by decide +kernel
theorem dX9_copy_11 : decode cX9_copy 11 = .ok (.ifCond .ne 6, 3) := by decide +kernel
theorem dX9_copy_14 : decode cX9_copy 14 = .ok (.bipush (-2), 2) := by decide +kernel
theorem dX9_copy_16 : decode cX9_copy 16 = .ok (.ireturn, 1) := by decide +kernel
theorem dX9_copy_17 : decode cX9_copy 17 = .ok (.aload_n 0, 1) := by decide +kernel
theorem dX9_copy_18 : decode cX9_copy 18 = .ok (.getfield 50, 3) := by decide +kernel
theorem dX9_copy_21 : decode cX9_copy 21 = .ok (.iload_n 1, 1) := by decide +kernel
theorem dX9_copy_22 : decode cX9_copy 22 = .ok (.baload, 1) := by decide +kernel
theorem dX9_copy_23 : decode cX9_copy 23 = .ok (.ifCond .eq 12, 3) := by decide +kernel
theorem dX9_copy_26 : decode cX9_copy 26 = .ok (.aload_n 0, 1) := by decide +kernel
theorem dX9_copy_27 : decode cX9_copy 27 = .ok (.getfield 50, 3) := by decide +kernel
theorem dX9_copy_30 : decode cX9_copy 30 = .ok (.iload_n 3, 1) := by decide +kernel
theorem dX9_copy_31 : decode cX9_copy 31 = .ok (.baload, 1) := by decide +kernel
theorem dX9_copy_32 : decode cX9_copy 32 = .ok (.ifCond .ne 9, 3) := by decide +kernel
theorem dX9_copy_35 : decode cX9_copy 35 = .ok (.aload_n 0, 1) := by decide +kernel
theorem dX9_copy_36 : decode cX9_copy 36 = .ok (.iconst 1, 1) := by decide +kernel
theorem dX9_copy_37 : decode cX9_copy 37 = .ok (.invokevirtual 146, 3) := by decide +kernel
theorem dX9_copy_40 : decode cX9_copy 40 = .ok (.ireturn, 1) := by decide +kernel
theorem dX9_copy_41 : decode cX9_copy 41 = .ok (.aload_n 0, 1) := by decide +kernel
theorem dX9_copy_42 : decode cX9_copy 42 = .ok (.getfield 54, 3) := by decide +kernel
theorem dX9_copy_45 : decode cX9_copy 45 = .ok (.iload_n 1, 1) := by decide +kernel
theorem dX9_copy_46 : decode cX9_copy 46 = .ok (.iaload, 1) := by decide +kernel
theorem dX9_copy_47 : decode cX9_copy 47 = .ok (.aload_n 0, 1) := by decide +kernel
theorem dX9_copy_48 : decode cX9_copy 48 = .ok (.getfield 54, 3) := by decide +kernel
theorem dX9_copy_51 : decode cX9_copy 51 = .ok (.iload_n 3, 1) := by decide +kernel
theorem dX9_copy_52 : decode cX9_copy 52 = .ok (.iaload, 1) := by decide +kernel
theorem dX9_copy_53 : decode cX9_copy 53 = .ok (.if_icmp .eq 9, 3) := by decide +kernel
theorem dX9_copy_56 : decode cX9_copy 56 = .ok (.aload_n 0, 1) := by decide +kernel
theorem dX9_copy_57 : decode cX9_copy 57 = .ok (.iconst 4, 1) := by decide +kernel
theorem dX9_copy_58 : decode cX9_copy 58 = .ok (.invokevirtual 146, 3) := by decide +kernel
theorem dX9_copy_61 : decode cX9_copy 61 = .ok (.ireturn, 1) := by decide +kernel
theorem dX9_copy_62 : decode cX9_copy 62 = .ok (.iload_n 2, 1) := by decide +kernel
theorem dX9_copy_63 : decode cX9_copy 63 = .ok (.ifCond .lt 48, 3) := by decide +kernel
theorem dX9_copy_66 : decode cX9_copy 66 = .ok (.iload 4, 2) := by decide +kernel
theorem dX9_copy_68 : decode cX9_copy 68 = .ok (.ifCond .lt 43, 3) := by decide +kernel
theorem dX9_copy_71 : decode cX9_copy 71 = .ok (.iload 5, 2) := by decide +kernel
theorem dX9_copy_73 : decode cX9_copy 73 = .ok (.ifCond .lt 38, 3) := by decide +kernel
theorem dX9_copy_76 : decode cX9_copy 76 = .ok (.iload_n 2, 1) := by decide +kernel
theorem dX9_copy_77 : decode cX9_copy 77 = .ok (.i2l, 1) := by decide +kernel
theorem dX9_copy_78 : decode cX9_copy 78 = .ok (.iload 5, 2) := by decide +kernel
theorem dX9_copy_80 : decode cX9_copy 80 = .ok (.i2l, 1) := by decide +kernel
theorem dX9_copy_81 : decode cX9_copy 81 = .ok (.ladd, 1) := by decide +kernel
theorem dX9_copy_82 : decode cX9_copy 82 = .ok (.aload_n 0, 1) := by decide +kernel
theorem dX9_copy_83 : decode cX9_copy 83 = .ok (.getfield 57, 3) := by decide +kernel
theorem dX9_copy_86 : decode cX9_copy 86 = .ok (.iload_n 1, 1) := by decide +kernel
theorem dX9_copy_87 : decode cX9_copy 87 = .ok (.iaload, 1) := by decide +kernel
theorem dX9_copy_88 : decode cX9_copy 88 = .ok (.i2l, 1) := by decide +kernel
theorem dX9_copy_89 : decode cX9_copy 89 = .ok (.lcmp, 1) := by decide +kernel
theorem dX9_copy_90 : decode cX9_copy 90 = .ok (.ifCond .gt 21, 3) := by decide +kernel
theorem dX9_copy_93 : decode cX9_copy 93 = .ok (.iload 4, 2) := by decide +kernel
theorem dX9_copy_95 : decode cX9_copy 95 = .ok (.i2l, 1) := by decide +kernel
theorem dX9_copy_96 : decode cX9_copy 96 = .ok (.iload 5, 2) := by decide +kernel
theorem dX9_copy_98 : decode cX9_copy 98 = .ok (.i2l, 1) := by decide +kernel
theorem dX9_copy_99 : decode cX9_copy 99 = .ok (.ladd, 1) := by decide +kernel
theorem dX9_copy_100 : decode cX9_copy 100 = .ok (.aload_n 0, 1) := by decide +kernel
theorem dX9_copy_101 : decode cX9_copy 101 = .ok (.getfield 57, 3) := by decide +kernel
theorem dX9_copy_104 : decode cX9_copy 104 = .ok (.iload_n 3, 1) := by decide +kernel
theorem dX9_copy_105 : decode cX9_copy 105 = .ok (.iaload, 1) := by decide +kernel
theorem dX9_copy_106 : decode cX9_copy 106 = .ok (.i2l, 1) := by decide +kernel
theorem dX9_copy_107 : decode cX9_copy 107 = .ok (.lcmp, 1) := by decide +kernel
theorem dX9_copy_108 : decode cX9_copy 108 = .ok (.ifCond .le 9, 3) := by decide +kernel
theorem dX9_copy_111 : decode cX9_copy 111 = .ok (.aload_n 0, 1) := by decide +kernel
theorem dX9_copy_112 : decode cX9_copy 112 = .ok (.iconst 2, 1) := by decide +kernel
theorem dX9_copy_113 : decode cX9_copy 113 = .ok (.invokevirtual 146, 3) := by decide +kernel
theorem dX9_copy_116 : decode cX9_copy 116 = .ok (.ireturn, 1) := by decide +kernel
theorem dX9_copy_117 : decode cX9_copy 117 = .ok (.iconst 0, 1) := by decide +kernel
theorem dX9_copy_118 : decode cX9_copy 118 = .ok (.istore 6, 2) := by decide +kernel
theorem dX9_copy_120 : decode cX9_copy 120 = .ok (.iload 6, 2) := by decide +kernel
theorem dX9_copy_122 : decode cX9_copy 122 = .ok (.iload 5, 2) := by decide +kernel
theorem dX9_copy_124 : decode cX9_copy 124 = .ok (.if_icmp .ge 30, 3) := by decide +kernel
theorem dX9_copy_127 : decode cX9_copy 127 = .ok (.aload_n 0, 1) := by decide +kernel
theorem dX9_copy_128 : decode cX9_copy 128 = .ok (.getfield 63, 3) := by decide +kernel
theorem dX9_copy_131 : decode cX9_copy 131 = .ok (.iload 6, 2) := by decide +kernel
theorem dX9_copy_133 : decode cX9_copy 133 = .ok (.aload_n 0, 1) := by decide +kernel
theorem dX9_copy_134 : decode cX9_copy 134 = .ok (.getfield 60, 3) := by decide +kernel
theorem dX9_copy_137 : decode cX9_copy 137 = .ok (.bipush 48, 2) := by decide +kernel
theorem dX9_copy_139 : decode cX9_copy 139 = .ok (.iload_n 1, 1) := by decide +kernel
theorem dX9_copy_140 : decode cX9_copy 140 = .ok (.imul, 1) := by decide +kernel
theorem dX9_copy_141 : decode cX9_copy 141 = .ok (.iload_n 2, 1) := by decide +kernel
theorem dX9_copy_142 : decode cX9_copy 142 = .ok (.iadd, 1) := by decide +kernel
theorem dX9_copy_143 : decode cX9_copy 143 = .ok (.iload 6, 2) := by decide +kernel
theorem dX9_copy_145 : decode cX9_copy 145 = .ok (.iadd, 1) := by decide +kernel
theorem dX9_copy_146 : decode cX9_copy 146 = .ok (.iaload, 1) := by decide +kernel
theorem dX9_copy_147 : decode cX9_copy 147 = .ok (.iastore, 1) := by decide +kernel
theorem dX9_copy_148 : decode cX9_copy 148 = .ok (.iinc 6 1, 3) := by decide +kernel
theorem dX9_copy_151 : decode cX9_copy 151 = .ok (.goto (-31), 3) := by decide +kernel
theorem dX9_copy_154 : decode cX9_copy 154 = .ok (.iconst 0, 1) := by decide +kernel
theorem dX9_copy_155 : decode cX9_copy 155 = .ok (.istore 6, 2) := by decide +kernel
theorem dX9_copy_157 : decode cX9_copy 157 = .ok (.iload 6, 2) := by decide +kernel
theorem dX9_copy_159 : decode cX9_copy 159 = .ok (.iload 5, 2) := by decide +kernel
theorem dX9_copy_161 : decode cX9_copy 161 = .ok (.if_icmp .ge 31, 3) := by decide +kernel
theorem dX9_copy_164 : decode cX9_copy 164 = .ok (.aload_n 0, 1) := by decide +kernel
theorem dX9_copy_165 : decode cX9_copy 165 = .ok (.getfield 60, 3) := by decide +kernel
theorem dX9_copy_168 : decode cX9_copy 168 = .ok (.bipush 48, 2) := by decide +kernel
theorem dX9_copy_170 : decode cX9_copy 170 = .ok (.iload_n 3, 1) := by decide +kernel
theorem dX9_copy_171 : decode cX9_copy 171 = .ok (.imul, 1) := by decide +kernel
theorem dX9_copy_172 : decode cX9_copy 172 = .ok (.iload 4, 2) := by decide +kernel
theorem dX9_copy_174 : decode cX9_copy 174 = .ok (.iadd, 1) := by decide +kernel
theorem dX9_copy_175 : decode cX9_copy 175 = .ok (.iload 6, 2) := by decide +kernel
theorem dX9_copy_177 : decode cX9_copy 177 = .ok (.iadd, 1) := by decide +kernel
theorem dX9_copy_178 : decode cX9_copy 178 = .ok (.aload_n 0, 1) := by decide +kernel
theorem dX9_copy_179 : decode cX9_copy 179 = .ok (.getfield 63, 3) := by decide +kernel
theorem dX9_copy_182 : decode cX9_copy 182 = .ok (.iload 6, 2) := by decide +kernel
theorem dX9_copy_184 : decode cX9_copy 184 = .ok (.iaload, 1) := by decide +kernel
theorem dX9_copy_185 : decode cX9_copy 185 = .ok (.iastore, 1) := by decide +kernel
theorem dX9_copy_186 : decode cX9_copy 186 = .ok (.iinc 6 1, 3) := by decide +kernel
theorem dX9_copy_189 : decode cX9_copy 189 = .ok (.goto (-32), 3) := by decide +kernel
theorem dX9_copy_192 : decode cX9_copy 192 = .ok (.iconst 1, 1) := by decide +kernel
theorem dX9_copy_193 : decode cX9_copy 193 = .ok (.ireturn, 1) := by decide +kernel
theorem dX9_write_0 : decode cX9_write 0 = .ok (.iload_n 1, 1) := by decide +kernel
theorem dX9_write_1 : decode cX9_write 1 = .ok (.invokestatic 143, 3) := by decide +kernel
theorem dX9_write_4 : decode cX9_write 4 = .ok (.ifCond .ne 6, 3) := by decide +kernel
theorem dX9_write_7 : decode cX9_write 7 = .ok (.bipush (-2), 2) := by decide +kernel
theorem dX9_write_9 : decode cX9_write 9 = .ok (.ireturn, 1) := by decide +kernel
theorem dX9_write_10 : decode cX9_write 10 = .ok (.aload_n 0, 1) := by decide +kernel
theorem dX9_write_11 : decode cX9_write 11 = .ok (.getfield 50, 3) := by decide +kernel
theorem dX9_write_14 : decode cX9_write 14 = .ok (.iload_n 1, 1) := by decide +kernel
theorem dX9_write_15 : decode cX9_write 15 = .ok (.baload, 1) := by decide +kernel
theorem dX9_write_16 : decode cX9_write 16 = .ok (.ifCond .ne 9, 3) := by decide +kernel
theorem dX9_write_19 : decode cX9_write 19 = .ok (.aload_n 0, 1) := by decide +kernel
theorem dX9_write_20 : decode cX9_write 20 = .ok (.iconst 1, 1) := by decide +kernel
theorem dX9_write_21 : decode cX9_write 21 = .ok (.invokevirtual 146, 3) := by decide +kernel
theorem dX9_write_24 : decode cX9_write 24 = .ok (.ireturn, 1) := by decide +kernel
theorem dX9_write_25 : decode cX9_write 25 = .ok (.iconst 0, 1) := by decide +kernel
theorem dX9_write_26 : decode cX9_write 26 = .ok (.istore_n 2, 1) := by decide +kernel
theorem dX9_write_27 : decode cX9_write 27 = .ok (.iload_n 2, 1) := by decide +kernel
theorem dX9_write_28 : decode cX9_write 28 = .ok (.aload_n 0, 1) := by decide +kernel
theorem dX9_write_29 : decode cX9_write 29 = .ok (.invokevirtual 97, 3) := by decide +kernel
theorem dX9_write_32 : decode cX9_write 32 = .ok (.if_icmp .ge 30, 3) := by decide +kernel
theorem dX9_write_35 : decode cX9_write 35 = .ok (.iload_n 2, 1) := by decide +kernel
theorem dX9_write_36 : decode cX9_write 36 = .ok (.aload_n 0, 1) := by decide +kernel
theorem dX9_write_37 : decode cX9_write 37 = .ok (.getfield 57, 3) := by decide +kernel
theorem dX9_write_40 : decode cX9_write 40 = .ok (.iload_n 1, 1) := by decide +kernel
theorem dX9_write_41 : decode cX9_write 41 = .ok (.iaload, 1) := by decide +kernel
theorem dX9_write_42 : decode cX9_write 42 = .ok (.if_icmp .ge 20, 3) := by decide +kernel
theorem dX9_write_45 : decode cX9_write 45 = .ok (.aload_n 0, 1) := by decide +kernel
theorem dX9_write_46 : decode cX9_write 46 = .ok (.iload_n 1, 1) := by decide +kernel
theorem dX9_write_47 : decode cX9_write 47 = .ok (.iload_n 2, 1) := by decide +kernel
theorem dX9_write_48 : decode cX9_write 48 = .ok (.aload_n 0, 1) := by decide +kernel
theorem dX9_write_49 : decode cX9_write 49 = .ok (.iload_n 2, 1) := by decide +kernel
theorem dX9_write_50 : decode cX9_write 50 = .ok (.invokevirtual 100, 3) := by decide +kernel
theorem dX9_write_53 : decode cX9_write 53 = .ok (.invokevirtual 201, 3) := by decide +kernel
theorem dX9_write_56 : decode cX9_write 56 = .ok (.iinc 2 1, 3) := by decide +kernel
theorem dX9_write_59 : decode cX9_write 59 = .ok (.goto (-32), 3) := by decide +kernel
theorem dX9_write_62 : decode cX9_write 62 = .ok (.iload_n 2, 1) := by decide +kernel
theorem dX9_write_63 : decode cX9_write 63 = .ok (.ireturn, 1) := by decide +kernel
theorem dX9_sumOf_0 : decode cX9_sumOf 0 = .ok (.iconst 0, 1) := by decide +kernel
theorem dX9_sumOf_1 : decode cX9_sumOf 1 = .ok (.istore_n 2, 1) := by decide +kernel
theorem dX9_sumOf_2 : decode cX9_sumOf 2 = .ok (.iconst 0, 1) := by decide +kernel
theorem dX9_sumOf_3 : decode cX9_sumOf 3 = .ok (.istore_n 3, 1) := by decide +kernel
theorem dX9_sumOf_4 : decode cX9_sumOf 4 = .ok (.iload_n 3, 1) := by decide +kernel
theorem dX9_sumOf_5 : decode cX9_sumOf 5 = .ok (.aload_n 0, 1) := by decide +kernel
theorem dX9_sumOf_6 : decode cX9_sumOf 6 = .ok (.invokevirtual 97, 3) := by decide +kernel
theorem dX9_sumOf_9 : decode cX9_sumOf 9 = .ok (.if_icmp .ge 23, 3) := by decide +kernel
theorem dX9_sumOf_12 : decode cX9_sumOf 12 = .ok (.iload_n 1, 1) := by decide +kernel
theorem dX9_sumOf_13 : decode cX9_sumOf 13 = .ok (.iconst 2, 1) := by decide +kernel
theorem dX9_sumOf_14 : decode cX9_sumOf 14 = .ok (.if_icmp .ne 18, 3) := by decide +kernel
theorem dX9_sumOf_17 : decode cX9_sumOf 17 = .ok (.iload_n 2, 1) := by decide +kernel
theorem dX9_sumOf_18 : decode cX9_sumOf 18 = .ok (.aload_n 0, 1) := by decide +kernel
theorem dX9_sumOf_19 : decode cX9_sumOf 19 = .ok (.getfield 22, 3) := by decide +kernel
theorem dX9_sumOf_22 : decode cX9_sumOf 22 = .ok (.iload_n 3, 1) := by decide +kernel
theorem dX9_sumOf_23 : decode cX9_sumOf 23 = .ok (.iaload, 1) := by decide +kernel
theorem dX9_sumOf_24 : decode cX9_sumOf 24 = .ok (.iadd, 1) := by decide +kernel
theorem dX9_sumOf_25 : decode cX9_sumOf 25 = .ok (.istore_n 2, 1) := by decide +kernel
theorem dX9_sumOf_26 : decode cX9_sumOf 26 = .ok (.iinc 3 1, 3) := by decide +kernel
theorem dX9_sumOf_29 : decode cX9_sumOf 29 = .ok (.goto (-25), 3) := by decide +kernel
theorem dX9_sumOf_32 : decode cX9_sumOf 32 = .ok (.iconst 0, 1) := by decide +kernel
theorem dX9_sumOf_33 : decode cX9_sumOf 33 = .ok (.istore_n 3, 1) := by decide +kernel
theorem dX9_sumOf_34 : decode cX9_sumOf 34 = .ok (.iload_n 3, 1) := by decide +kernel
theorem dX9_sumOf_35 : decode cX9_sumOf 35 = .ok (.bipush 10, 2) := by decide +kernel
theorem dX9_sumOf_37 : decode cX9_sumOf 37 = .ok (.if_icmp .ge 32, 3) := by decide +kernel
theorem dX9_sumOf_40 : decode cX9_sumOf 40 = .ok (.iload_n 1, 1) := by decide +kernel
theorem dX9_sumOf_41 : decode cX9_sumOf 41 = .ok (.iconst 3, 1) := by decide +kernel
theorem dX9_sumOf_42 : decode cX9_sumOf 42 = .ok (.if_icmp .ne 27, 3) := by decide +kernel
theorem dX9_sumOf_45 : decode cX9_sumOf 45 = .ok (.iload_n 2, 1) := by decide +kernel
theorem dX9_sumOf_46 : decode cX9_sumOf 46 = .ok (.aload_n 0, 1) := by decide +kernel
theorem dX9_sumOf_47 : decode cX9_sumOf 47 = .ok (.getfield 31, 3) := by decide +kernel
theorem dX9_sumOf_50 : decode cX9_sumOf 50 = .ok (.iload_n 3, 1) := by decide +kernel
theorem dX9_sumOf_51 : decode cX9_sumOf 51 = .ok (.iaload, 1) := by decide +kernel
theorem dX9_sumOf_52 : decode cX9_sumOf 52 = .ok (.iconst (-1), 1) := by decide +kernel
theorem dX9_sumOf_53 : decode cX9_sumOf 53 = .ok (.if_icmp .ne 7, 3) := by decide +kernel
theorem dX9_sumOf_56 : decode cX9_sumOf 56 = .ok (.iconst 0, 1) := by decide +kernel
theorem dX9_sumOf_57 : decode cX9_sumOf 57 = .ok (.goto 4, 3) := by decide +kernel
theorem dX9_sumOf_60 : decode cX9_sumOf 60 = .ok (.iconst 1, 1) := by decide +kernel
theorem dX9_sumOf_61 : decode cX9_sumOf 61 = .ok (.iadd, 1) := by decide +kernel
theorem dX9_sumOf_62 : decode cX9_sumOf 62 = .ok (.istore_n 2, 1) := by decide +kernel
theorem dX9_sumOf_63 : decode cX9_sumOf 63 = .ok (.iinc 3 1, 3) := by decide +kernel
theorem dX9_sumOf_66 : decode cX9_sumOf 66 = .ok (.goto (-32), 3) := by decide +kernel
theorem dX9_sumOf_69 : decode cX9_sumOf 69 = .ok (.iload_n 2, 1) := by decide +kernel
theorem dX9_sumOf_70 : decode cX9_sumOf 70 = .ok (.ireturn, 1) := by decide +kernel
theorem dX9_count_0 : decode cX9_count 0 = .ok (.iload_n 1, 1) := by decide +kernel
theorem dX9_count_1 : decode cX9_count 1 = .ok (.tableswitch 81 0 8 #[51, 56, 61, 61, 67, 67, 67, 67, 76], 51) := by decide +kernel
theorem dX9_count_52 : decode cX9_count 52 = .ok (.aload_n 0, 1) := by decide +kernel
theorem dX9_count_53 : decode cX9_count 53 = .ok (.invokevirtual 97, 3) := by decide +kernel
theorem dX9_count_56 : decode cX9_count 56 = .ok (.ireturn, 1) := by decide +kernel
theorem dX9_count_57 : decode cX9_count 57 = .ok (.aload_n 0, 1) := by decide +kernel
theorem dX9_count_58 : decode cX9_count 58 = .ok (.getfield 72, 3) := by decide +kernel
theorem dX9_count_61 : decode cX9_count 61 = .ok (.ireturn, 1) := by decide +kernel
theorem dX9_count_62 : decode cX9_count 62 = .ok (.aload_n 0, 1) := by decide +kernel
theorem dX9_count_63 : decode cX9_count 63 = .ok (.iload_n 1, 1) := by decide +kernel
theorem dX9_count_64 : decode cX9_count 64 = .ok (.invokevirtual 206, 3) := by decide +kernel
theorem dX9_count_67 : decode cX9_count 67 = .ok (.ireturn, 1) := by decide +kernel
theorem dX9_count_68 : decode cX9_count 68 = .ok (.aload_n 0, 1) := by decide +kernel
theorem dX9_count_69 : decode cX9_count 69 = .ok (.getfield 16, 3) := by decide +kernel
theorem dX9_count_72 : decode cX9_count 72 = .ok (.iload_n 1, 1) := by decide +kernel
theorem dX9_count_73 : decode cX9_count 73 = .ok (.iconst 4, 1) := by decide +kernel
theorem dX9_count_74 : decode cX9_count 74 = .ok (.isub, 1) := by decide +kernel
theorem dX9_count_75 : decode cX9_count 75 = .ok (.iaload, 1) := by decide +kernel
theorem dX9_count_76 : decode cX9_count 76 = .ok (.ireturn, 1) := by decide +kernel
theorem dX9_count_77 : decode cX9_count 77 = .ok (.aload_n 0, 1) := by decide +kernel
theorem dX9_count_78 : decode cX9_count 78 = .ok (.getfield 194, 3) := by decide +kernel
theorem dX9_count_81 : decode cX9_count 81 = .ok (.ireturn, 1) := by decide +kernel
theorem dX9_count_82 : decode cX9_count 82 = .ok (.bipush (-2), 2) := by decide +kernel
theorem dX9_count_84 : decode cX9_count 84 = .ok (.ireturn, 1) := by decide +kernel
theorem dX9_digest_0 : decode cX9_digest 0 = .ok (.ldc2_w 209, 3) := by decide +kernel
theorem dX9_digest_3 : decode cX9_digest 3 = .ok (.lstore_n 1, 1) := by decide +kernel
theorem dX9_digest_4 : decode cX9_digest 4 = .ok (.iconst 0, 1) := by decide +kernel
theorem dX9_digest_5 : decode cX9_digest 5 = .ok (.istore_n 3, 1) := by decide +kernel
theorem dX9_digest_6 : decode cX9_digest 6 = .ok (.iload_n 3, 1) := by decide +kernel
theorem dX9_digest_7 : decode cX9_digest 7 = .ok (.bipush 8, 2) := by decide +kernel
theorem dX9_digest_9 : decode cX9_digest 9 = .ok (.if_icmp .ge 22, 3) := by decide +kernel
theorem dX9_digest_12 : decode cX9_digest 12 = .ok (.ldc2_w 211, 3) := by decide +kernel
theorem dX9_digest_15 : decode cX9_digest 15 = .ok (.lload_n 1, 1) := by decide +kernel
theorem dX9_digest_16 : decode cX9_digest 16 = .ok (.lmul, 1) := by decide +kernel
theorem dX9_digest_17 : decode cX9_digest 17 = .ok (.aload_n 0, 1) := by decide +kernel
theorem dX9_digest_18 : decode cX9_digest 18 = .ok (.iload_n 3, 1) := by decide +kernel
theorem dX9_digest_19 : decode cX9_digest 19 = .ok (.invokevirtual 213, 3) := by decide +kernel
theorem dX9_digest_22 : decode cX9_digest 22 = .ok (.i2l, 1) := by decide +kernel
theorem dX9_digest_23 : decode cX9_digest 23 = .ok (.ladd, 1) := by decide +kernel
theorem dX9_digest_24 : decode cX9_digest 24 = .ok (.lstore_n 1, 1) := by decide +kernel
theorem dX9_digest_25 : decode cX9_digest 25 = .ok (.iinc 3 1, 3) := by decide +kernel
theorem dX9_digest_28 : decode cX9_digest 28 = .ok (.goto (-22), 3) := by decide +kernel
theorem dX9_digest_31 : decode cX9_digest 31 = .ok (.ldc2_w 211, 3) := by decide +kernel
theorem dX9_digest_34 : decode cX9_digest 34 = .ok (.lload_n 1, 1) := by decide +kernel
theorem dX9_digest_35 : decode cX9_digest 35 = .ok (.lmul, 1) := by decide +kernel
theorem dX9_digest_36 : decode cX9_digest 36 = .ok (.aload_n 0, 1) := by decide +kernel
theorem dX9_digest_37 : decode cX9_digest 37 = .ok (.invokevirtual 89, 3) := by decide +kernel
theorem dX9_digest_40 : decode cX9_digest 40 = .ok (.i2l, 1) := by decide +kernel
theorem dX9_digest_41 : decode cX9_digest 41 = .ok (.ladd, 1) := by decide +kernel
theorem dX9_digest_42 : decode cX9_digest 42 = .ok (.lstore_n 1, 1) := by decide +kernel
theorem dX9_digest_43 : decode cX9_digest 43 = .ok (.iconst 0, 1) := by decide +kernel
theorem dX9_digest_44 : decode cX9_digest 44 = .ok (.istore_n 3, 1) := by decide +kernel
theorem dX9_digest_45 : decode cX9_digest 45 = .ok (.iload_n 3, 1) := by decide +kernel
theorem dX9_digest_46 : decode cX9_digest 46 = .ok (.aload_n 0, 1) := by decide +kernel
theorem dX9_digest_47 : decode cX9_digest 47 = .ok (.getfield 83, 3) := by decide +kernel
theorem dX9_digest_50 : decode cX9_digest 50 = .ok (.if_icmp .ge 173, 3) := by decide +kernel
theorem dX9_digest_53 : decode cX9_digest 53 = .ok (.iconst 0, 1) := by decide +kernel
theorem dX9_digest_54 : decode cX9_digest 54 = .ok (.istore 4, 2) := by decide +kernel
theorem dX9_digest_56 : decode cX9_digest 56 = .ok (.iload 4, 2) := by decide +kernel
theorem dX9_digest_58 : decode cX9_digest 58 = .ok (.bipush 6, 2) := by decide +kernel
theorem dX9_digest_60 : decode cX9_digest 60 = .ok (.if_icmp .ge 24, 3) := by decide +kernel
theorem dX9_digest_63 : decode cX9_digest 63 = .ok (.ldc2_w 211, 3) := by decide +kernel
theorem dX9_digest_66 : decode cX9_digest 66 = .ok (.lload_n 1, 1) := by decide +kernel
theorem dX9_digest_67 : decode cX9_digest 67 = .ok (.lmul, 1) := by decide +kernel
theorem dX9_digest_68 : decode cX9_digest 68 = .ok (.aload_n 0, 1) := by decide +kernel
theorem dX9_digest_69 : decode cX9_digest 69 = .ok (.iload_n 3, 1) := by decide +kernel
theorem dX9_digest_70 : decode cX9_digest 70 = .ok (.iload 4, 2) := by decide +kernel
theorem dX9_digest_72 : decode cX9_digest 72 = .ok (.invokevirtual 107, 3) := by decide +kernel
theorem dX9_digest_75 : decode cX9_digest 75 = .ok (.i2l, 1) := by decide +kernel
theorem dX9_digest_76 : decode cX9_digest 76 = .ok (.ladd, 1) := by decide +kernel
theorem dX9_digest_77 : decode cX9_digest 77 = .ok (.lstore_n 1, 1) := by decide +kernel
theorem dX9_digest_78 : decode cX9_digest 78 = .ok (.iinc 4 1, 3) := by decide +kernel
theorem dX9_digest_81 : decode cX9_digest 81 = .ok (.goto (-25), 3) := by decide +kernel
theorem dX9_digest_84 : decode cX9_digest 84 = .ok (.ldc2_w 211, 3) := by decide +kernel
theorem dX9_digest_87 : decode cX9_digest 87 = .ok (.lload_n 1, 1) := by decide +kernel
theorem dX9_digest_88 : decode cX9_digest 88 = .ok (.lmul, 1) := by decide +kernel
theorem dX9_digest_89 : decode cX9_digest 89 = .ok (.aload_n 0, 1) := by decide +kernel
theorem dX9_digest_90 : decode cX9_digest 90 = .ok (.iload_n 3, 1) := by decide +kernel
theorem dX9_digest_91 : decode cX9_digest 91 = .ok (.iconst 0, 1) := by decide +kernel
theorem dX9_digest_92 : decode cX9_digest 92 = .ok (.invokevirtual 112, 3) := by decide +kernel
theorem dX9_digest_95 : decode cX9_digest 95 = .ok (.i2l, 1) := by decide +kernel
theorem dX9_digest_96 : decode cX9_digest 96 = .ok (.ladd, 1) := by decide +kernel
theorem dX9_digest_97 : decode cX9_digest 97 = .ok (.lstore_n 1, 1) := by decide +kernel
theorem dX9_digest_98 : decode cX9_digest 98 = .ok (.ldc2_w 211, 3) := by decide +kernel
theorem dX9_digest_101 : decode cX9_digest 101 = .ok (.lload_n 1, 1) := by decide +kernel
theorem dX9_digest_102 : decode cX9_digest 102 = .ok (.lmul, 1) := by decide +kernel
theorem dX9_digest_103 : decode cX9_digest 103 = .ok (.aload_n 0, 1) := by decide +kernel
theorem dX9_digest_104 : decode cX9_digest 104 = .ok (.iload_n 3, 1) := by decide +kernel
theorem dX9_digest_105 : decode cX9_digest 105 = .ok (.iconst 2, 1) := by decide +kernel
theorem dX9_digest_106 : decode cX9_digest 106 = .ok (.invokevirtual 112, 3) := by decide +kernel
theorem dX9_digest_109 : decode cX9_digest 109 = .ok (.i2l, 1) := by decide +kernel
theorem dX9_digest_110 : decode cX9_digest 110 = .ok (.ladd, 1) := by decide +kernel
theorem dX9_digest_111 : decode cX9_digest 111 = .ok (.lstore_n 1, 1) := by decide +kernel
theorem dX9_digest_112 : decode cX9_digest 112 = .ok (.ldc2_w 211, 3) := by decide +kernel
theorem dX9_digest_115 : decode cX9_digest 115 = .ok (.lload_n 1, 1) := by decide +kernel
theorem dX9_digest_116 : decode cX9_digest 116 = .ok (.lmul, 1) := by decide +kernel
theorem dX9_digest_117 : decode cX9_digest 117 = .ok (.aload_n 0, 1) := by decide +kernel
theorem dX9_digest_118 : decode cX9_digest 118 = .ok (.iload_n 3, 1) := by decide +kernel
theorem dX9_digest_119 : decode cX9_digest 119 = .ok (.invokevirtual 153, 3) := by decide +kernel
theorem dX9_digest_122 : decode cX9_digest 122 = .ok (.i2l, 1) := by decide +kernel
theorem dX9_digest_123 : decode cX9_digest 123 = .ok (.ladd, 1) := by decide +kernel
theorem dX9_digest_124 : decode cX9_digest 124 = .ok (.lstore_n 1, 1) := by decide +kernel
theorem dX9_digest_125 : decode cX9_digest 125 = .ok (.iconst 0, 1) := by decide +kernel
theorem dX9_digest_126 : decode cX9_digest 126 = .ok (.istore 4, 2) := by decide +kernel
theorem dX9_digest_128 : decode cX9_digest 128 = .ok (.iload 4, 2) := by decide +kernel
theorem dX9_digest_130 : decode cX9_digest 130 = .ok (.iconst 3, 1) := by decide +kernel
theorem dX9_digest_131 : decode cX9_digest 131 = .ok (.if_icmp .ge 28, 3) := by decide +kernel
theorem dX9_digest_134 : decode cX9_digest 134 = .ok (.ldc2_w 211, 3) := by decide +kernel
theorem dX9_digest_137 : decode cX9_digest 137 = .ok (.lload_n 1, 1) := by decide +kernel
theorem dX9_digest_138 : decode cX9_digest 138 = .ok (.lmul, 1) := by decide +kernel
theorem dX9_digest_139 : decode cX9_digest 139 = .ok (.aload_n 0, 1) := by decide +kernel
theorem dX9_digest_140 : decode cX9_digest 140 = .ok (.iload_n 3, 1) := by decide +kernel
theorem dX9_digest_141 : decode cX9_digest 141 = .ok (.bipush 15, 2) := by decide +kernel
theorem dX9_digest_143 : decode cX9_digest 143 = .ok (.bipush 20, 2) := by decide +kernel
theorem dX9_digest_145 : decode cX9_digest 145 = .ok (.iload 4, 2) := by decide +kernel
theorem dX9_digest_147 : decode cX9_digest 147 = .ok (.invokevirtual 121, 3) := by decide +kernel
theorem dX9_digest_150 : decode cX9_digest 150 = .ok (.i2l, 1) := by decide +kernel
theorem dX9_digest_151 : decode cX9_digest 151 = .ok (.ladd, 1) := by decide +kernel
theorem dX9_digest_152 : decode cX9_digest 152 = .ok (.lstore_n 1, 1) := by decide +kernel
theorem dX9_digest_153 : decode cX9_digest 153 = .ok (.iinc 4 1, 3) := by decide +kernel
theorem dX9_digest_156 : decode cX9_digest 156 = .ok (.goto (-28), 3) := by decide +kernel
theorem dX9_digest_159 : decode cX9_digest 159 = .ok (.ldc2_w 211, 3) := by decide +kernel
theorem dX9_digest_162 : decode cX9_digest 162 = .ok (.lload_n 1, 1) := by decide +kernel
theorem dX9_digest_163 : decode cX9_digest 163 = .ok (.lmul, 1) := by decide +kernel
theorem dX9_digest_164 : decode cX9_digest 164 = .ok (.aload_n 0, 1) := by decide +kernel
theorem dX9_digest_165 : decode cX9_digest 165 = .ok (.iload_n 3, 1) := by decide +kernel
theorem dX9_digest_166 : decode cX9_digest 166 = .ok (.iconst 0, 1) := by decide +kernel
theorem dX9_digest_167 : decode cX9_digest 167 = .ok (.iconst 0, 1) := by decide +kernel
theorem dX9_digest_168 : decode cX9_digest 168 = .ok (.invokevirtual 160, 3) := by decide +kernel
theorem dX9_digest_171 : decode cX9_digest 171 = .ok (.ladd, 1) := by decide +kernel
theorem dX9_digest_172 : decode cX9_digest 172 = .ok (.lstore_n 1, 1) := by decide +kernel
theorem dX9_digest_173 : decode cX9_digest 173 = .ok (.ldc2_w 211, 3) := by decide +kernel
theorem dX9_digest_176 : decode cX9_digest 176 = .ok (.lload_n 1, 1) := by decide +kernel
theorem dX9_digest_177 : decode cX9_digest 177 = .ok (.lmul, 1) := by decide +kernel
theorem dX9_digest_178 : decode cX9_digest 178 = .ok (.aload_n 0, 1) := by decide +kernel
theorem dX9_digest_179 : decode cX9_digest 179 = .ok (.iload_n 3, 1) := by decide +kernel
theorem dX9_digest_180 : decode cX9_digest 180 = .ok (.iconst 0, 1) := by decide +kernel
theorem dX9_digest_181 : decode cX9_digest 181 = .ok (.iconst 1, 1) := by decide +kernel
theorem dX9_digest_182 : decode cX9_digest 182 = .ok (.invokevirtual 160, 3) := by decide +kernel
theorem dX9_digest_185 : decode cX9_digest 185 = .ok (.ladd, 1) := by decide +kernel
theorem dX9_digest_186 : decode cX9_digest 186 = .ok (.lstore_n 1, 1) := by decide +kernel
theorem dX9_digest_187 : decode cX9_digest 187 = .ok (.iconst 0, 1) := by decide +kernel
theorem dX9_digest_188 : decode cX9_digest 188 = .ok (.istore 4, 2) := by decide +kernel
theorem dX9_digest_190 : decode cX9_digest 190 = .ok (.iload 4, 2) := by decide +kernel
theorem dX9_digest_192 : decode cX9_digest 192 = .ok (.iconst 3, 1) := by decide +kernel
theorem dX9_digest_193 : decode cX9_digest 193 = .ok (.if_icmp .ge 24, 3) := by decide +kernel
theorem dX9_digest_196 : decode cX9_digest 196 = .ok (.ldc2_w 211, 3) := by decide +kernel
theorem dX9_digest_199 : decode cX9_digest 199 = .ok (.lload_n 1, 1) := by decide +kernel
theorem dX9_digest_200 : decode cX9_digest 200 = .ok (.lmul, 1) := by decide +kernel
theorem dX9_digest_201 : decode cX9_digest 201 = .ok (.aload_n 0, 1) := by decide +kernel
theorem dX9_digest_202 : decode cX9_digest 202 = .ok (.iload_n 3, 1) := by decide +kernel
theorem dX9_digest_203 : decode cX9_digest 203 = .ok (.iload 4, 2) := by decide +kernel
theorem dX9_digest_205 : decode cX9_digest 205 = .ok (.invokevirtual 179, 3) := by decide +kernel
theorem dX9_digest_208 : decode cX9_digest 208 = .ok (.i2l, 1) := by decide +kernel
theorem dX9_digest_209 : decode cX9_digest 209 = .ok (.ladd, 1) := by decide +kernel
theorem dX9_digest_210 : decode cX9_digest 210 = .ok (.lstore_n 1, 1) := by decide +kernel
theorem dX9_digest_211 : decode cX9_digest 211 = .ok (.iinc 4 1, 3) := by decide +kernel
theorem dX9_digest_214 : decode cX9_digest 214 = .ok (.goto (-24), 3) := by decide +kernel
theorem dX9_digest_217 : decode cX9_digest 217 = .ok (.iinc 3 1, 3) := by decide +kernel
theorem dX9_digest_220 : decode cX9_digest 220 = .ok (.goto (-175), 3) := by decide +kernel
theorem dX9_digest_223 : decode cX9_digest 223 = .ok (.ldc2_w 211, 3) := by decide +kernel
theorem dX9_digest_226 : decode cX9_digest 226 = .ok (.lload_n 1, 1) := by decide +kernel
theorem dX9_digest_227 : decode cX9_digest 227 = .ok (.lmul, 1) := by decide +kernel
theorem dX9_digest_228 : decode cX9_digest 228 = .ok (.aload_n 0, 1) := by decide +kernel
theorem dX9_digest_229 : decode cX9_digest 229 = .ok (.aload_n 0, 1) := by decide +kernel
theorem dX9_digest_230 : decode cX9_digest 230 = .ok (.getfield 83, 3) := by decide +kernel
theorem dX9_digest_233 : decode cX9_digest 233 = .ok (.iconst 0, 1) := by decide +kernel
theorem dX9_digest_234 : decode cX9_digest 234 = .ok (.invokevirtual 112, 3) := by decide +kernel
theorem dX9_digest_237 : decode cX9_digest 237 = .ok (.i2l, 1) := by decide +kernel
theorem dX9_digest_238 : decode cX9_digest 238 = .ok (.ladd, 1) := by decide +kernel
theorem dX9_digest_239 : decode cX9_digest 239 = .ok (.lstore_n 1, 1) := by decide +kernel
theorem dX9_digest_240 : decode cX9_digest 240 = .ok (.ldc2_w 211, 3) := by decide +kernel
theorem dX9_digest_243 : decode cX9_digest 243 = .ok (.lload_n 1, 1) := by decide +kernel
theorem dX9_digest_244 : decode cX9_digest 244 = .ok (.lmul, 1) := by decide +kernel
theorem dX9_digest_245 : decode cX9_digest 245 = .ok (.aload_n 0, 1) := by decide +kernel
theorem dX9_digest_246 : decode cX9_digest 246 = .ok (.aload_n 0, 1) := by decide +kernel
theorem dX9_digest_247 : decode cX9_digest 247 = .ok (.getfield 83, 3) := by decide +kernel
theorem dX9_digest_250 : decode cX9_digest 250 = .ok (.iconst 2, 1) := by decide +kernel
theorem dX9_digest_251 : decode cX9_digest 251 = .ok (.invokevirtual 112, 3) := by decide +kernel
theorem dX9_digest_254 : decode cX9_digest 254 = .ok (.i2l, 1) := by decide +kernel
theorem dX9_digest_255 : decode cX9_digest 255 = .ok (.ladd, 1) := by decide +kernel
theorem dX9_digest_256 : decode cX9_digest 256 = .ok (.lstore_n 1, 1) := by decide +kernel
theorem dX9_digest_257 : decode cX9_digest 257 = .ok (.ldc2_w 211, 3) := by decide +kernel
theorem dX9_digest_260 : decode cX9_digest 260 = .ok (.lload_n 1, 1) := by decide +kernel
theorem dX9_digest_261 : decode cX9_digest 261 = .ok (.lmul, 1) := by decide +kernel
theorem dX9_digest_262 : decode cX9_digest 262 = .ok (.aload_n 0, 1) := by decide +kernel
theorem dX9_digest_263 : decode cX9_digest 263 = .ok (.invokevirtual 118, 3) := by decide +kernel
theorem dX9_digest_266 : decode cX9_digest 266 = .ok (.i2l, 1) := by decide +kernel
theorem dX9_digest_267 : decode cX9_digest 267 = .ok (.ladd, 1) := by decide +kernel
theorem dX9_digest_268 : decode cX9_digest 268 = .ok (.lstore_n 1, 1) := by decide +kernel
theorem dX9_digest_269 : decode cX9_digest 269 = .ok (.iconst 0, 1) := by decide +kernel
theorem dX9_digest_270 : decode cX9_digest 270 = .ok (.istore_n 3, 1) := by decide +kernel
theorem dX9_digest_271 : decode cX9_digest 271 = .ok (.iload_n 3, 1) := by decide +kernel
theorem dX9_digest_272 : decode cX9_digest 272 = .ok (.iconst 3, 1) := by decide +kernel
theorem dX9_digest_273 : decode cX9_digest 273 = .ok (.if_icmp .ge 58, 3) := by decide +kernel
theorem dX9_digest_276 : decode cX9_digest 276 = .ok (.iconst 0, 1) := by decide +kernel
theorem dX9_digest_277 : decode cX9_digest 277 = .ok (.istore 4, 2) := by decide +kernel
theorem dX9_digest_279 : decode cX9_digest 279 = .ok (.iload 4, 2) := by decide +kernel
theorem dX9_digest_281 : decode cX9_digest 281 = .ok (.iconst 4, 1) := by decide +kernel
theorem dX9_digest_282 : decode cX9_digest 282 = .ok (.if_icmp .ge 29, 3) := by decide +kernel
theorem dX9_digest_285 : decode cX9_digest 285 = .ok (.ldc2_w 211, 3) := by decide +kernel
theorem dX9_digest_288 : decode cX9_digest 288 = .ok (.lload_n 1, 1) := by decide +kernel
theorem dX9_digest_289 : decode cX9_digest 289 = .ok (.lmul, 1) := by decide +kernel
theorem dX9_digest_290 : decode cX9_digest 290 = .ok (.aload_n 0, 1) := by decide +kernel
theorem dX9_digest_291 : decode cX9_digest 291 = .ok (.iload_n 3, 1) := by decide +kernel
theorem dX9_digest_292 : decode cX9_digest 292 = .ok (.iload 4, 2) := by decide +kernel
theorem dX9_digest_294 : decode cX9_digest 294 = .ok (.iconst 2, 1) := by decide +kernel
theorem dX9_digest_295 : decode cX9_digest 295 = .ok (.idiv, 1) := by decide +kernel
theorem dX9_digest_296 : decode cX9_digest 296 = .ok (.iload 4, 2) := by decide +kernel
theorem dX9_digest_298 : decode cX9_digest 298 = .ok (.iconst 2, 1) := by decide +kernel
theorem dX9_digest_299 : decode cX9_digest 299 = .ok (.irem, 1) := by decide +kernel
theorem dX9_digest_300 : decode cX9_digest 300 = .ok (.invokevirtual 136, 3) := by decide +kernel
theorem dX9_digest_303 : decode cX9_digest 303 = .ok (.ladd, 1) := by decide +kernel
theorem dX9_digest_304 : decode cX9_digest 304 = .ok (.lstore_n 1, 1) := by decide +kernel
theorem dX9_digest_305 : decode cX9_digest 305 = .ok (.iinc 4 1, 3) := by decide +kernel
theorem dX9_digest_308 : decode cX9_digest 308 = .ok (.goto (-29), 3) := by decide +kernel
theorem dX9_digest_311 : decode cX9_digest 311 = .ok (.ldc2_w 211, 3) := by decide +kernel
theorem dX9_digest_314 : decode cX9_digest 314 = .ok (.lload_n 1, 1) := by decide +kernel
theorem dX9_digest_315 : decode cX9_digest 315 = .ok (.lmul, 1) := by decide +kernel
theorem dX9_digest_316 : decode cX9_digest 316 = .ok (.aload_n 0, 1) := by decide +kernel
theorem dX9_digest_317 : decode cX9_digest 317 = .ok (.iload_n 3, 1) := by decide +kernel
theorem dX9_digest_318 : decode cX9_digest 318 = .ok (.iconst 0, 1) := by decide +kernel
theorem dX9_digest_319 : decode cX9_digest 319 = .ok (.invokevirtual 182, 3) := by decide +kernel
theorem dX9_digest_322 : decode cX9_digest 322 = .ok (.i2l, 1) := by decide +kernel
theorem dX9_digest_323 : decode cX9_digest 323 = .ok (.ladd, 1) := by decide +kernel
theorem dX9_digest_324 : decode cX9_digest 324 = .ok (.lstore_n 1, 1) := by decide +kernel
theorem dX9_digest_325 : decode cX9_digest 325 = .ok (.iinc 3 1, 3) := by decide +kernel
theorem dX9_digest_328 : decode cX9_digest 328 = .ok (.goto (-57), 3) := by decide +kernel
theorem dX9_digest_331 : decode cX9_digest 331 = .ok (.ldc2_w 211, 3) := by decide +kernel
theorem dX9_digest_334 : decode cX9_digest 334 = .ok (.lload_n 1, 1) := by decide +kernel
theorem dX9_digest_335 : decode cX9_digest 335 = .ok (.lmul, 1) := by decide +kernel
theorem dX9_digest_336 : decode cX9_digest 336 = .ok (.aload_n 0, 1) := by decide +kernel
theorem dX9_digest_337 : decode cX9_digest 337 = .ok (.iconst (-1), 1) := by decide +kernel
theorem dX9_digest_338 : decode cX9_digest 338 = .ok (.iconst 0, 1) := by decide +kernel
theorem dX9_digest_339 : decode cX9_digest 339 = .ok (.invokevirtual 156, 3) := by decide +kernel
theorem dX9_digest_342 : decode cX9_digest 342 = .ok (.ladd, 1) := by decide +kernel
theorem dX9_digest_343 : decode cX9_digest 343 = .ok (.lstore_n 1, 1) := by decide +kernel
theorem dX9_digest_344 : decode cX9_digest 344 = .ok (.ldc2_w 211, 3) := by decide +kernel
theorem dX9_digest_347 : decode cX9_digest 347 = .ok (.lload_n 1, 1) := by decide +kernel
theorem dX9_digest_348 : decode cX9_digest 348 = .ok (.lmul, 1) := by decide +kernel
theorem dX9_digest_349 : decode cX9_digest 349 = .ok (.aload_n 0, 1) := by decide +kernel
theorem dX9_digest_350 : decode cX9_digest 350 = .ok (.invokevirtual 166, 3) := by decide +kernel
theorem dX9_digest_353 : decode cX9_digest 353 = .ok (.i2l, 1) := by decide +kernel
theorem dX9_digest_354 : decode cX9_digest 354 = .ok (.ladd, 1) := by decide +kernel
theorem dX9_digest_355 : decode cX9_digest 355 = .ok (.lstore_n 1, 1) := by decide +kernel
theorem dX9_digest_356 : decode cX9_digest 356 = .ok (.ldc2_w 211, 3) := by decide +kernel
theorem dX9_digest_359 : decode cX9_digest 359 = .ok (.lload_n 1, 1) := by decide +kernel
theorem dX9_digest_360 : decode cX9_digest 360 = .ok (.lmul, 1) := by decide +kernel
theorem dX9_digest_361 : decode cX9_digest 361 = .ok (.aload_n 0, 1) := by decide +kernel
theorem dX9_digest_362 : decode cX9_digest 362 = .ok (.sipush 150, 3) := by decide +kernel
theorem dX9_digest_365 : decode cX9_digest 365 = .ok (.iconst 0, 1) := by decide +kernel
theorem dX9_digest_366 : decode cX9_digest 366 = .ok (.invokevirtual 169, 3) := by decide +kernel
theorem dX9_digest_369 : decode cX9_digest 369 = .ok (.i2l, 1) := by decide +kernel
theorem dX9_digest_370 : decode cX9_digest 370 = .ok (.ladd, 1) := by decide +kernel
theorem dX9_digest_371 : decode cX9_digest 371 = .ok (.lstore_n 1, 1) := by decide +kernel
theorem dX9_digest_372 : decode cX9_digest 372 = .ok (.ldc2_w 211, 3) := by decide +kernel
theorem dX9_digest_375 : decode cX9_digest 375 = .ok (.lload_n 1, 1) := by decide +kernel
theorem dX9_digest_376 : decode cX9_digest 376 = .ok (.lmul, 1) := by decide +kernel
theorem dX9_digest_377 : decode cX9_digest 377 = .ok (.aload_n 0, 1) := by decide +kernel
theorem dX9_digest_378 : decode cX9_digest 378 = .ok (.sipush 150, 3) := by decide +kernel
theorem dX9_digest_381 : decode cX9_digest 381 = .ok (.iconst 1, 1) := by decide +kernel
theorem dX9_digest_382 : decode cX9_digest 382 = .ok (.invokevirtual 169, 3) := by decide +kernel
theorem dX9_digest_385 : decode cX9_digest 385 = .ok (.i2l, 1) := by decide +kernel
theorem dX9_digest_386 : decode cX9_digest 386 = .ok (.ladd, 1) := by decide +kernel
theorem dX9_digest_387 : decode cX9_digest 387 = .ok (.lstore_n 1, 1) := by decide +kernel
theorem dX9_digest_388 : decode cX9_digest 388 = .ok (.ldc2_w 211, 3) := by decide +kernel
theorem dX9_digest_391 : decode cX9_digest 391 = .ok (.lload_n 1, 1) := by decide +kernel
theorem dX9_digest_392 : decode cX9_digest 392 = .ok (.lmul, 1) := by decide +kernel
theorem dX9_digest_393 : decode cX9_digest 393 = .ok (.aload_n 0, 1) := by decide +kernel
theorem dX9_digest_394 : decode cX9_digest 394 = .ok (.sipush 1023, 3) := by decide +kernel
theorem dX9_digest_397 : decode cX9_digest 397 = .ok (.invokevirtual 172, 3) := by decide +kernel
theorem dX9_digest_400 : decode cX9_digest 400 = .ok (.i2l, 1) := by decide +kernel
theorem dX9_digest_401 : decode cX9_digest 401 = .ok (.ladd, 1) := by decide +kernel
theorem dX9_digest_402 : decode cX9_digest 402 = .ok (.lstore_n 1, 1) := by decide +kernel
theorem dX9_digest_403 : decode cX9_digest 403 = .ok (.ldc2_w 211, 3) := by decide +kernel
theorem dX9_digest_406 : decode cX9_digest 406 = .ok (.lload_n 1, 1) := by decide +kernel
theorem dX9_digest_407 : decode cX9_digest 407 = .ok (.lmul, 1) := by decide +kernel
theorem dX9_digest_408 : decode cX9_digest 408 = .ok (.aload_n 0, 1) := by decide +kernel
theorem dX9_digest_409 : decode cX9_digest 409 = .ok (.bipush 100, 2) := by decide +kernel
theorem dX9_digest_411 : decode cX9_digest 411 = .ok (.iconst 0, 1) := by decide +kernel
theorem dX9_digest_412 : decode cX9_digest 412 = .ok (.invokevirtual 176, 3) := by decide +kernel
theorem dX9_digest_415 : decode cX9_digest 415 = .ok (.i2l, 1) := by decide +kernel
theorem dX9_digest_416 : decode cX9_digest 416 = .ok (.ladd, 1) := by decide +kernel
theorem dX9_digest_417 : decode cX9_digest 417 = .ok (.lstore_n 1, 1) := by decide +kernel
theorem dX9_digest_418 : decode cX9_digest 418 = .ok (.ldc2_w 211, 3) := by decide +kernel
theorem dX9_digest_421 : decode cX9_digest 421 = .ok (.lload_n 1, 1) := by decide +kernel
theorem dX9_digest_422 : decode cX9_digest 422 = .ok (.lmul, 1) := by decide +kernel
theorem dX9_digest_423 : decode cX9_digest 423 = .ok (.aload_n 0, 1) := by decide +kernel
theorem dX9_digest_424 : decode cX9_digest 424 = .ok (.bipush 100, 2) := by decide +kernel
theorem dX9_digest_426 : decode cX9_digest 426 = .ok (.iconst 1, 1) := by decide +kernel
theorem dX9_digest_427 : decode cX9_digest 427 = .ok (.invokevirtual 176, 3) := by decide +kernel
theorem dX9_digest_430 : decode cX9_digest 430 = .ok (.i2l, 1) := by decide +kernel
theorem dX9_digest_431 : decode cX9_digest 431 = .ok (.ladd, 1) := by decide +kernel
theorem dX9_digest_432 : decode cX9_digest 432 = .ok (.lstore_n 1, 1) := by decide +kernel
theorem dX9_digest_433 : decode cX9_digest 433 = .ok (.ldc2_w 211, 3) := by decide +kernel
theorem dX9_digest_436 : decode cX9_digest 436 = .ok (.lload_n 1, 1) := by decide +kernel
theorem dX9_digest_437 : decode cX9_digest 437 = .ok (.lmul, 1) := by decide +kernel
theorem dX9_digest_438 : decode cX9_digest 438 = .ok (.aload_n 0, 1) := by decide +kernel
theorem dX9_digest_439 : decode cX9_digest 439 = .ok (.invokevirtual 185, 3) := by decide +kernel
theorem dX9_digest_442 : decode cX9_digest 442 = .ok (.i2l, 1) := by decide +kernel
theorem dX9_digest_443 : decode cX9_digest 443 = .ok (.ladd, 1) := by decide +kernel
theorem dX9_digest_444 : decode cX9_digest 444 = .ok (.lstore_n 1, 1) := by decide +kernel
theorem dX9_digest_445 : decode cX9_digest 445 = .ok (.ldc2_w 211, 3) := by decide +kernel
theorem dX9_digest_448 : decode cX9_digest 448 = .ok (.lload_n 1, 1) := by decide +kernel
theorem dX9_digest_449 : decode cX9_digest 449 = .ok (.lmul, 1) := by decide +kernel
theorem dX9_digest_450 : decode cX9_digest 450 = .ok (.aload_n 0, 1) := by decide +kernel
theorem dX9_digest_451 : decode cX9_digest 451 = .ok (.iconst 0, 1) := by decide +kernel
theorem dX9_digest_452 : decode cX9_digest 452 = .ok (.invokevirtual 191, 3) := by decide +kernel
theorem dX9_digest_455 : decode cX9_digest 455 = .ok (.i2l, 1) := by decide +kernel
theorem dX9_digest_456 : decode cX9_digest 456 = .ok (.ladd, 1) := by decide +kernel
theorem dX9_digest_457 : decode cX9_digest 457 = .ok (.lstore_n 1, 1) := by decide +kernel
theorem dX9_digest_458 : decode cX9_digest 458 = .ok (.ldc2_w 211, 3) := by decide +kernel
theorem dX9_digest_461 : decode cX9_digest 461 = .ok (.lload_n 1, 1) := by decide +kernel
theorem dX9_digest_462 : decode cX9_digest 462 = .ok (.lmul, 1) := by decide +kernel
theorem dX9_digest_463 : decode cX9_digest 463 = .ok (.aload_n 0, 1) := by decide +kernel
theorem dX9_digest_464 : decode cX9_digest 464 = .ok (.iconst 1, 1) := by decide +kernel
theorem dX9_digest_465 : decode cX9_digest 465 = .ok (.invokevirtual 191, 3) := by decide +kernel
theorem dX9_digest_468 : decode cX9_digest 468 = .ok (.i2l, 1) := by decide +kernel
theorem dX9_digest_469 : decode cX9_digest 469 = .ok (.ladd, 1) := by decide +kernel
theorem dX9_digest_470 : decode cX9_digest 470 = .ok (.lreturn, 1) := by decide +kernel
theorem dJ9_floorDiv_7cf53_0 : decode cJ9_floorDiv_7cf53 0 = .ok (.iload_n 0, 1) := by decide +kernel
theorem dJ9_floorDiv_7cf53_1 : decode cJ9_floorDiv_7cf53 1 = .ok (.iload_n 1, 1) := by decide +kernel
theorem dJ9_floorDiv_7cf53_2 : decode cJ9_floorDiv_7cf53 2 = .ok (.idiv, 1) := by decide +kernel
theorem dJ9_floorDiv_7cf53_3 : decode cJ9_floorDiv_7cf53 3 = .ok (.istore_n 2, 1) := by decide +kernel
theorem dJ9_floorDiv_7cf53_4 : decode cJ9_floorDiv_7cf53 4 = .ok (.iload_n 0, 1) := by decide +kernel
theorem dJ9_floorDiv_7cf53_5 : decode cJ9_floorDiv_7cf53 5 = .ok (.iload_n 1, 1) := by decide +kernel
theorem dJ9_floorDiv_7cf53_6 : decode cJ9_floorDiv_7cf53 6 = .ok (.ixor, 1) := by decide +kernel
theorem dJ9_floorDiv_7cf53_7 : decode cJ9_floorDiv_7cf53 7 = .ok (.ifCond .ge 14, 3) := by decide +kernel
theorem dJ9_floorDiv_7cf53_10 : decode cJ9_floorDiv_7cf53 10 = .ok (.iload_n 2, 1) := by decide +kernel
theorem dJ9_floorDiv_7cf53_11 : decode cJ9_floorDiv_7cf53 11 = .ok (.iload_n 1, 1) := by decide +kernel
theorem dJ9_floorDiv_7cf53_12 : decode cJ9_floorDiv_7cf53 12 = .ok (.imul, 1) := by decide +kernel
theorem dJ9_floorDiv_7cf53_13 : decode cJ9_floorDiv_7cf53 13 = .ok (.iload_n 0, 1) := by decide +kernel
theorem dJ9_floorDiv_7cf53_14 : decode cJ9_floorDiv_7cf53 14 = .ok (.if_icmp .eq 7, 3) := by decide +kernel
theorem dJ9_floorDiv_7cf53_17 : decode cJ9_floorDiv_7cf53 17 = .ok (.iload_n 2, 1) := by decide +kernel
theorem dJ9_floorDiv_7cf53_18 : decode cJ9_floorDiv_7cf53 18 = .ok (.iconst 1, 1) := by decide +kernel
theorem dJ9_floorDiv_7cf53_19 : decode cJ9_floorDiv_7cf53 19 = .ok (.isub, 1) := by decide +kernel
theorem dJ9_floorDiv_7cf53_20 : decode cJ9_floorDiv_7cf53 20 = .ok (.ireturn, 1) := by decide +kernel
theorem dJ9_floorDiv_7cf53_21 : decode cJ9_floorDiv_7cf53 21 = .ok (.iload_n 2, 1) := by decide +kernel
theorem dJ9_floorDiv_7cf53_22 : decode cJ9_floorDiv_7cf53 22 = .ok (.ireturn, 1) := by decide +kernel
theorem dJ9_abs_0f7a4_0 : decode cJ9_abs_0f7a4 0 = .ok (.iload_n 0, 1) := by decide +kernel
theorem dJ9_abs_0f7a4_1 : decode cJ9_abs_0f7a4 1 = .ok (.ifCond .ge 8, 3) := by decide +kernel
theorem dJ9_abs_0f7a4_4 : decode cJ9_abs_0f7a4 4 = .ok (.iload_n 0, 1) := by decide +kernel
theorem dJ9_abs_0f7a4_5 : decode cJ9_abs_0f7a4 5 = .ok (.ineg, 1) := by decide +kernel
theorem dJ9_abs_0f7a4_6 : decode cJ9_abs_0f7a4 6 = .ok (.goto 4, 3) := by decide +kernel
theorem dJ9_abs_0f7a4_9 : decode cJ9_abs_0f7a4 9 = .ok (.iload_n 0, 1) := by decide +kernel
theorem dJ9_abs_0f7a4_10 : decode cJ9_abs_0f7a4 10 = .ok (.ireturn, 1) := by decide +kernel
theorem dJ9_max_7cf53_0 : decode cJ9_max_7cf53 0 = .ok (.iload_n 0, 1) := by decide +kernel
theorem dJ9_max_7cf53_1 : decode cJ9_max_7cf53 1 = .ok (.iload_n 1, 1) := by decide +kernel
theorem dJ9_max_7cf53_2 : decode cJ9_max_7cf53 2 = .ok (.if_icmp .lt 7, 3) := by decide +kernel
theorem dJ9_max_7cf53_5 : decode cJ9_max_7cf53 5 = .ok (.iload_n 0, 1) := by decide +kernel
theorem dJ9_max_7cf53_6 : decode cJ9_max_7cf53 6 = .ok (.goto 4, 3) := by decide +kernel
theorem dJ9_max_7cf53_9 : decode cJ9_max_7cf53 9 = .ok (.iload_n 1, 1) := by decide +kernel
theorem dJ9_max_7cf53_10 : decode cJ9_max_7cf53 10 = .ok (.ireturn, 1) := by decide +kernel
theorem dJ9_min_7cf53_0 : decode cJ9_min_7cf53 0 = .ok (.iload_n 0, 1) := by decide +kernel
theorem dJ9_min_7cf53_1 : decode cJ9_min_7cf53 1 = .ok (.iload_n 1, 1) := by decide +kernel
theorem dJ9_min_7cf53_2 : decode cJ9_min_7cf53 2 = .ok (.if_icmp .gt 7, 3) := by decide +kernel
theorem dJ9_min_7cf53_5 : decode cJ9_min_7cf53 5 = .ok (.iload_n 0, 1) := by decide +kernel
theorem dJ9_min_7cf53_6 : decode cJ9_min_7cf53 6 = .ok (.goto 4, 3) := by decide +kernel
theorem dJ9_min_7cf53_9 : decode cJ9_min_7cf53 9 = .ok (.iload_n 1, 1) := by decide +kernel
theorem dJ9_min_7cf53_10 : decode cJ9_min_7cf53 10 = .ok (.ireturn, 1) := by decide +kernel
theorem dJ7_fill_d0a16_0 : decode cJ7_fill_d0a16 0 = .ok (.iconst 0, 1) := by decide +kernel
theorem dJ7_fill_d0a16_1 : decode cJ7_fill_d0a16 1 = .ok (.istore_n 3, 1) := by decide +kernel
theorem dJ7_fill_d0a16_2 : decode cJ7_fill_d0a16 2 = .ok (.aload_n 0, 1) := by decide +kernel
theorem dJ7_fill_d0a16_3 : decode cJ7_fill_d0a16 3 = .ok (.arraylength, 1) := by decide +kernel
theorem dJ7_fill_d0a16_4 : decode cJ7_fill_d0a16 4 = .ok (.istore 4, 2) := by decide +kernel
theorem dJ7_fill_d0a16_6 : decode cJ7_fill_d0a16 6 = .ok (.iload_n 3, 1) := by decide +kernel
theorem dJ7_fill_d0a16_7 : decode cJ7_fill_d0a16 7 = .ok (.iload 4, 2) := by decide +kernel
theorem dJ7_fill_d0a16_9 : decode cJ7_fill_d0a16 9 = .ok (.if_icmp .ge 13, 3) := by decide +kernel
theorem dJ7_fill_d0a16_12 : decode cJ7_fill_d0a16 12 = .ok (.aload_n 0, 1) := by decide +kernel
theorem dJ7_fill_d0a16_13 : decode cJ7_fill_d0a16 13 = .ok (.iload_n 3, 1) := by decide +kernel
theorem dJ7_fill_d0a16_14 : decode cJ7_fill_d0a16 14 = .ok (.lload_n 1, 1) := by decide +kernel
theorem dJ7_fill_d0a16_15 : decode cJ7_fill_d0a16 15 = .ok (.lastore, 1) := by decide +kernel
theorem dJ7_fill_d0a16_16 : decode cJ7_fill_d0a16 16 = .ok (.iinc 3 1, 3) := by decide +kernel
theorem dJ7_fill_d0a16_19 : decode cJ7_fill_d0a16 19 = .ok (.goto (-13), 3) := by decide +kernel
theorem dJ7_fill_d0a16_22 : decode cJ7_fill_d0a16 22 = .ok (.return_, 1) := by decide +kernel
theorem dJ7_fill_53178_0 : decode cJ7_fill_53178 0 = .ok (.iconst 0, 1) := by decide +kernel
theorem dJ7_fill_53178_1 : decode cJ7_fill_53178 1 = .ok (.istore_n 2, 1) := by decide +kernel
theorem dJ7_fill_53178_2 : decode cJ7_fill_53178 2 = .ok (.aload_n 0, 1) := by decide +kernel
theorem dJ7_fill_53178_3 : decode cJ7_fill_53178 3 = .ok (.arraylength, 1) := by decide +kernel
theorem dJ7_fill_53178_4 : decode cJ7_fill_53178 4 = .ok (.istore_n 3, 1) := by decide +kernel
theorem dJ7_fill_53178_5 : decode cJ7_fill_53178 5 = .ok (.iload_n 2, 1) := by decide +kernel
theorem dJ7_fill_53178_6 : decode cJ7_fill_53178 6 = .ok (.iload_n 3, 1) := by decide +kernel
theorem dJ7_fill_53178_7 : decode cJ7_fill_53178 7 = .ok (.if_icmp .ge 13, 3) := by decide +kernel
theorem dJ7_fill_53178_10 : decode cJ7_fill_53178 10 = .ok (.aload_n 0, 1) := by decide +kernel
theorem dJ7_fill_53178_11 : decode cJ7_fill_53178 11 = .ok (.iload_n 2, 1) := by decide +kernel
theorem dJ7_fill_53178_12 : decode cJ7_fill_53178 12 = .ok (.iload_n 1, 1) := by decide +kernel
theorem dJ7_fill_53178_13 : decode cJ7_fill_53178 13 = .ok (.iastore, 1) := by decide +kernel
theorem dJ7_fill_53178_14 : decode cJ7_fill_53178 14 = .ok (.iinc 2 1, 3) := by decide +kernel
theorem dJ7_fill_53178_17 : decode cJ7_fill_53178 17 = .ok (.goto (-12), 3) := by decide +kernel
theorem dJ7_fill_53178_20 : decode cJ7_fill_53178 20 = .ok (.return_, 1) := by decide +kernel
end
section
theorem dL_law_0 : decode cL_law 0 = .ok (.new 7, 3) := by decide +kernel
theorem dL_law_3 : decode cL_law 3 = .ok (.dup, 1) := by decide +kernel
theorem dL_law_4 : decode cL_law 4 = .ok (.invokespecial 9, 3) := by decide +kernel
theorem dL_law_7 : decode cL_law 7 = .ok (.astore_n 1, 1) := by decide +kernel
theorem dL_law_8 : decode cL_law 8 = .ok (.new 10, 3) := by decide +kernel
theorem dL_law_11 : decode cL_law 11 = .ok (.dup, 1) := by decide +kernel
theorem dL_law_12 : decode cL_law 12 = .ok (.invokespecial 12, 3) := by decide +kernel
theorem dL_law_15 : decode cL_law 15 = .ok (.astore_n 2, 1) := by decide +kernel
theorem dL_law_16 : decode cL_law 16 = .ok (.iconst 0, 1) := by decide +kernel
theorem dL_law_17 : decode cL_law 17 = .ok (.istore_n 3, 1) := by decide +kernel
theorem dL_law_18 : decode cL_law 18 = .ok (.iload_n 3, 1) := by decide +kernel
theorem dL_law_19 : decode cL_law 19 = .ok (.aload_n 0, 1) := by decide +kernel
theorem dL_law_20 : decode cL_law 20 = .ok (.arraylength, 1) := by decide +kernel
theorem dL_law_21 : decode cL_law 21 = .ok (.bipush 6, 2) := by decide +kernel
theorem dL_law_23 : decode cL_law 23 = .ok (.isub, 1) := by decide +kernel
theorem dL_law_24 : decode cL_law 24 = .ok (.if_icmp .gt 1333, 3) := by decide +kernel
theorem dL_law_27 : decode cL_law 27 = .ok (.aload_n 0, 1) := by decide +kernel
theorem dL_law_28 : decode cL_law 28 = .ok (.iload_n 3, 1) := by decide +kernel
theorem dL_law_29 : decode cL_law 29 = .ok (.iaload, 1) := by decide +kernel
theorem dL_law_30 : decode cL_law 30 = .ok (.bipush 63, 2) := by decide +kernel
theorem dL_law_32 : decode cL_law 32 = .ok (.iand, 1) := by decide +kernel
theorem dL_law_33 : decode cL_law 33 = .ok (.tableswitch 1318 0 36 #[163, 206, 229, 242, 255, 288, 331, 364, 397, 430, 443, 486, 539, 583, 616, 639, 662, 676, 720, 753, 796, 809, 842, 875, 908, 941, 974, 997, 1010, 1033, 1076, 1099, 1152, 1195, 1258, 1281, 1304], 163) := by decide +kernel
theorem dL_law_196 : decode cL_law 196 = .ok (.aload_n 1, 1) := by decide +kernel
theorem dL_law_197 : decode cL_law 197 = .ok (.aload_n 0, 1) := by decide +kernel
theorem dL_law_198 : decode cL_law 198 = .ok (.iload_n 3, 1) := by decide +kernel
theorem dL_law_199 : decode cL_law 199 = .ok (.iconst 1, 1) := by decide +kernel
theorem dL_law_200 : decode cL_law 200 = .ok (.iadd, 1) := by decide +kernel
theorem dL_law_201 : decode cL_law 201 = .ok (.iaload, 1) := by decide +kernel
theorem dL_law_202 : decode cL_law 202 = .ok (.aload_n 0, 1) := by decide +kernel
theorem dL_law_203 : decode cL_law 203 = .ok (.iload_n 3, 1) := by decide +kernel
theorem dL_law_204 : decode cL_law 204 = .ok (.iconst 2, 1) := by decide +kernel
theorem dL_law_205 : decode cL_law 205 = .ok (.iadd, 1) := by decide +kernel
theorem dL_law_206 : decode cL_law 206 = .ok (.iaload, 1) := by decide +kernel
theorem dL_law_207 : decode cL_law 207 = .ok (.aload_n 0, 1) := by decide +kernel
theorem dL_law_208 : decode cL_law 208 = .ok (.iload_n 3, 1) := by decide +kernel
theorem dL_law_209 : decode cL_law 209 = .ok (.iconst 3, 1) := by decide +kernel
theorem dL_law_210 : decode cL_law 210 = .ok (.iadd, 1) := by decide +kernel
theorem dL_law_211 : decode cL_law 211 = .ok (.iaload, 1) := by decide +kernel
theorem dL_law_212 : decode cL_law 212 = .ok (.invokevirtual 13, 3) := by decide +kernel
theorem dL_law_215 : decode cL_law 215 = .ok (.aload_n 2, 1) := by decide +kernel
theorem dL_law_216 : decode cL_law 216 = .ok (.aload_n 0, 1) := by decide +kernel
theorem dL_law_217 : decode cL_law 217 = .ok (.iload_n 3, 1) := by decide +kernel
theorem dL_law_218 : decode cL_law 218 = .ok (.iconst 1, 1) := by decide +kernel
theorem dL_law_219 : decode cL_law 219 = .ok (.iadd, 1) := by decide +kernel
theorem dL_law_220 : decode cL_law 220 = .ok (.iaload, 1) := by decide +kernel
theorem dL_law_221 : decode cL_law 221 = .ok (.aload_n 0, 1) := by decide +kernel
theorem dL_law_222 : decode cL_law 222 = .ok (.iload_n 3, 1) := by decide +kernel
theorem dL_law_223 : decode cL_law 223 = .ok (.iconst 2, 1) := by decide +kernel
theorem dL_law_224 : decode cL_law 224 = .ok (.iadd, 1) := by decide +kernel
theorem dL_law_225 : decode cL_law 225 = .ok (.iaload, 1) := by decide +kernel
theorem dL_law_226 : decode cL_law 226 = .ok (.aload_n 0, 1) := by decide +kernel
theorem dL_law_227 : decode cL_law 227 = .ok (.iload_n 3, 1) := by decide +kernel
theorem dL_law_228 : decode cL_law 228 = .ok (.iconst 3, 1) := by decide +kernel
theorem dL_law_229 : decode cL_law 229 = .ok (.iadd, 1) := by decide +kernel
theorem dL_law_230 : decode cL_law 230 = .ok (.iaload, 1) := by decide +kernel
theorem dL_law_231 : decode cL_law 231 = .ok (.invokevirtual 17, 3) := by decide +kernel
theorem dL_law_234 : decode cL_law 234 = .ok (.if_icmp .eq 1117, 3) := by decide +kernel
theorem dL_law_237 : decode cL_law 237 = .ok (.iconst 0, 1) := by decide +kernel
theorem dL_law_238 : decode cL_law 238 = .ok (.ireturn, 1) := by decide +kernel
theorem dL_law_239 : decode cL_law 239 = .ok (.aload_n 1, 1) := by decide +kernel
theorem dL_law_240 : decode cL_law 240 = .ok (.aload_n 0, 1) := by decide +kernel
theorem dL_law_241 : decode cL_law 241 = .ok (.iload_n 3, 1) := by decide +kernel
theorem dL_law_242 : decode cL_law 242 = .ok (.iconst 1, 1) := by decide +kernel
theorem dL_law_243 : decode cL_law 243 = .ok (.iadd, 1) := by decide +kernel
theorem dL_law_244 : decode cL_law 244 = .ok (.iaload, 1) := by decide +kernel
theorem dL_law_245 : decode cL_law 245 = .ok (.invokevirtual 18, 3) := by decide +kernel
theorem dL_law_248 : decode cL_law 248 = .ok (.aload_n 2, 1) := by decide +kernel
theorem dL_law_249 : decode cL_law 249 = .ok (.aload_n 0, 1) := by decide +kernel
theorem dL_law_250 : decode cL_law 250 = .ok (.iload_n 3, 1) := by decide +kernel
theorem dL_law_251 : decode cL_law 251 = .ok (.iconst 1, 1) := by decide +kernel
theorem dL_law_252 : decode cL_law 252 = .ok (.iadd, 1) := by decide +kernel
theorem dL_law_253 : decode cL_law 253 = .ok (.iaload, 1) := by decide +kernel
theorem dL_law_254 : decode cL_law 254 = .ok (.invokevirtual 22, 3) := by decide +kernel
theorem dL_law_257 : decode cL_law 257 = .ok (.if_icmp .eq 1094, 3) := by decide +kernel
theorem dL_law_260 : decode cL_law 260 = .ok (.iconst 0, 1) := by decide +kernel
theorem dL_law_261 : decode cL_law 261 = .ok (.ireturn, 1) := by decide +kernel
theorem dL_law_262 : decode cL_law 262 = .ok (.aload_n 1, 1) := by decide +kernel
theorem dL_law_263 : decode cL_law 263 = .ok (.invokevirtual 23, 3) := by decide +kernel
theorem dL_law_266 : decode cL_law 266 = .ok (.aload_n 2, 1) := by decide +kernel
theorem dL_law_267 : decode cL_law 267 = .ok (.invokevirtual 27, 3) := by decide +kernel
theorem dL_law_270 : decode cL_law 270 = .ok (.if_icmp .eq 1081, 3) := by decide +kernel
theorem dL_law_273 : decode cL_law 273 = .ok (.iconst 0, 1) := by decide +kernel
theorem dL_law_274 : decode cL_law 274 = .ok (.ireturn, 1) := by decide +kernel
theorem dL_law_275 : decode cL_law 275 = .ok (.aload_n 1, 1) := by decide +kernel
theorem dL_law_276 : decode cL_law 276 = .ok (.invokevirtual 28, 3) := by decide +kernel
theorem dL_law_279 : decode cL_law 279 = .ok (.aload_n 2, 1) := by decide +kernel
theorem dL_law_280 : decode cL_law 280 = .ok (.invokevirtual 31, 3) := by decide +kernel
theorem dL_law_283 : decode cL_law 283 = .ok (.if_icmp .eq 1068, 3) := by decide +kernel
theorem dL_law_286 : decode cL_law 286 = .ok (.iconst 0, 1) := by decide +kernel
theorem dL_law_287 : decode cL_law 287 = .ok (.ireturn, 1) := by decide +kernel
theorem dL_law_288 : decode cL_law 288 = .ok (.aload_n 1, 1) := by decide +kernel
theorem dL_law_289 : decode cL_law 289 = .ok (.aload_n 0, 1) := by decide +kernel
theorem dL_law_290 : decode cL_law 290 = .ok (.iload_n 3, 1) := by decide +kernel
theorem dL_law_291 : decode cL_law 291 = .ok (.iconst 1, 1) := by decide +kernel
theorem dL_law_292 : decode cL_law 292 = .ok (.iadd, 1) := by decide +kernel
theorem dL_law_293 : decode cL_law 293 = .ok (.iaload, 1) := by decide +kernel
theorem dL_law_294 : decode cL_law 294 = .ok (.aload_n 0, 1) := by decide +kernel
theorem dL_law_295 : decode cL_law 295 = .ok (.iload_n 3, 1) := by decide +kernel
theorem dL_law_296 : decode cL_law 296 = .ok (.iconst 2, 1) := by decide +kernel
theorem dL_law_297 : decode cL_law 297 = .ok (.iadd, 1) := by decide +kernel
theorem dL_law_298 : decode cL_law 298 = .ok (.iaload, 1) := by decide +kernel
theorem dL_law_299 : decode cL_law 299 = .ok (.invokevirtual 32, 3) := by decide +kernel
theorem dL_law_302 : decode cL_law 302 = .ok (.aload_n 2, 1) := by decide +kernel
theorem dL_law_303 : decode cL_law 303 = .ok (.aload_n 0, 1) := by decide +kernel
theorem dL_law_304 : decode cL_law 304 = .ok (.iload_n 3, 1) := by decide +kernel
theorem dL_law_305 : decode cL_law 305 = .ok (.iconst 1, 1) := by decide +kernel
theorem dL_law_306 : decode cL_law 306 = .ok (.iadd, 1) := by decide +kernel
theorem dL_law_307 : decode cL_law 307 = .ok (.iaload, 1) := by decide +kernel
theorem dL_law_308 : decode cL_law 308 = .ok (.aload_n 0, 1) := by decide +kernel
theorem dL_law_309 : decode cL_law 309 = .ok (.iload_n 3, 1) := by decide +kernel
theorem dL_law_310 : decode cL_law 310 = .ok (.iconst 2, 1) := by decide +kernel
theorem dL_law_311 : decode cL_law 311 = .ok (.iadd, 1) := by decide +kernel
theorem dL_law_312 : decode cL_law 312 = .ok (.iaload, 1) := by decide +kernel
theorem dL_law_313 : decode cL_law 313 = .ok (.invokevirtual 36, 3) := by decide +kernel
theorem dL_law_316 : decode cL_law 316 = .ok (.if_icmp .eq 1035, 3) := by decide +kernel
theorem dL_law_319 : decode cL_law 319 = .ok (.iconst 0, 1) := by decide +kernel
theorem dL_law_320 : decode cL_law 320 = .ok (.ireturn, 1) := by decide +kernel
theorem dL_law_321 : decode cL_law 321 = .ok (.aload_n 1, 1) := by decide +kernel
theorem dL_law_322 : decode cL_law 322 = .ok (.aload_n 0, 1) := by decide +kernel
theorem dL_law_323 : decode cL_law 323 = .ok (.iload_n 3, 1) := by decide +kernel
theorem dL_law_324 : decode cL_law 324 = .ok (.iconst 1, 1) := by decide +kernel
theorem dL_law_325 : decode cL_law 325 = .ok (.iadd, 1) := by decide +kernel
theorem dL_law_326 : decode cL_law 326 = .ok (.iaload, 1) := by decide +kernel
theorem dL_law_327 : decode cL_law 327 = .ok (.aload_n 0, 1) := by decide +kernel
theorem dL_law_328 : decode cL_law 328 = .ok (.iload_n 3, 1) := by decide +kernel
theorem dL_law_329 : decode cL_law 329 = .ok (.iconst 2, 1) := by decide +kernel
theorem dL_law_330 : decode cL_law 330 = .ok (.iadd, 1) := by decide +kernel
theorem dL_law_331 : decode cL_law 331 = .ok (.iaload, 1) := by decide +kernel
theorem dL_law_332 : decode cL_law 332 = .ok (.aload_n 0, 1) := by decide +kernel
theorem dL_law_333 : decode cL_law 333 = .ok (.iload_n 3, 1) := by decide +kernel
theorem dL_law_334 : decode cL_law 334 = .ok (.iconst 3, 1) := by decide +kernel
theorem dL_law_335 : decode cL_law 335 = .ok (.iadd, 1) := by decide +kernel
theorem dL_law_336 : decode cL_law 336 = .ok (.iaload, 1) := by decide +kernel
theorem dL_law_337 : decode cL_law 337 = .ok (.invokevirtual 37, 3) := by decide +kernel
theorem dL_law_340 : decode cL_law 340 = .ok (.aload_n 2, 1) := by decide +kernel
theorem dL_law_341 : decode cL_law 341 = .ok (.aload_n 0, 1) := by decide +kernel
theorem dL_law_342 : decode cL_law 342 = .ok (.iload_n 3, 1) := by decide +kernel
theorem dL_law_343 : decode cL_law 343 = .ok (.iconst 1, 1) := by decide +kernel
theorem dL_law_344 : decode cL_law 344 = .ok (.iadd, 1) := by decide +kernel
theorem dL_law_345 : decode cL_law 345 = .ok (.iaload, 1) := by decide +kernel
theorem dL_law_346 : decode cL_law 346 = .ok (.aload_n 0, 1) := by decide +kernel
theorem dL_law_347 : decode cL_law 347 = .ok (.iload_n 3, 1) := by decide +kernel
theorem dL_law_348 : decode cL_law 348 = .ok (.iconst 2, 1) := by decide +kernel
theorem dL_law_349 : decode cL_law 349 = .ok (.iadd, 1) := by decide +kernel
theorem dL_law_350 : decode cL_law 350 = .ok (.iaload, 1) := by decide +kernel
theorem dL_law_351 : decode cL_law 351 = .ok (.aload_n 0, 1) := by decide +kernel
theorem dL_law_352 : decode cL_law 352 = .ok (.iload_n 3, 1) := by decide +kernel
theorem dL_law_353 : decode cL_law 353 = .ok (.iconst 3, 1) := by decide +kernel
theorem dL_law_354 : decode cL_law 354 = .ok (.iadd, 1) := by decide +kernel
theorem dL_law_355 : decode cL_law 355 = .ok (.iaload, 1) := by decide +kernel
theorem dL_law_356 : decode cL_law 356 = .ok (.invokevirtual 40, 3) := by decide +kernel
theorem dL_law_359 : decode cL_law 359 = .ok (.if_icmp .eq 992, 3) := by decide +kernel
theorem dL_law_362 : decode cL_law 362 = .ok (.iconst 0, 1) := by decide +kernel
theorem dL_law_363 : decode cL_law 363 = .ok (.ireturn, 1) := by decide +kernel
theorem dL_law_364 : decode cL_law 364 = .ok (.aload_n 1, 1) := by decide +kernel
theorem dL_law_365 : decode cL_law 365 = .ok (.aload_n 0, 1) := by decide +kernel
theorem dL_law_366 : decode cL_law 366 = .ok (.iload_n 3, 1) := by decide +kernel
theorem dL_law_367 : decode cL_law 367 = .ok (.iconst 1, 1) := by decide +kernel
theorem dL_law_368 : decode cL_law 368 = .ok (.iadd, 1) := by decide +kernel
theorem dL_law_369 : decode cL_law 369 = .ok (.iaload, 1) := by decide +kernel
theorem dL_law_370 : decode cL_law 370 = .ok (.aload_n 0, 1) := by decide +kernel
theorem dL_law_371 : decode cL_law 371 = .ok (.iload_n 3, 1) := by decide +kernel
theorem dL_law_372 : decode cL_law 372 = .ok (.iconst 2, 1) := by decide +kernel
theorem dL_law_373 : decode cL_law 373 = .ok (.iadd, 1) := by decide +kernel
theorem dL_law_374 : decode cL_law 374 = .ok (.iaload, 1) := by decide +kernel
theorem dL_law_375 : decode cL_law 375 = .ok (.invokevirtual 41, 3) := by decide +kernel
theorem dL_law_378 : decode cL_law 378 = .ok (.aload_n 2, 1) := by decide +kernel
theorem dL_law_379 : decode cL_law 379 = .ok (.aload_n 0, 1) := by decide +kernel
theorem dL_law_380 : decode cL_law 380 = .ok (.iload_n 3, 1) := by decide +kernel
theorem dL_law_381 : decode cL_law 381 = .ok (.iconst 1, 1) := by decide +kernel
theorem dL_law_382 : decode cL_law 382 = .ok (.iadd, 1) := by decide +kernel
theorem dL_law_383 : decode cL_law 383 = .ok (.iaload, 1) := by decide +kernel
theorem dL_law_384 : decode cL_law 384 = .ok (.aload_n 0, 1) := by decide +kernel
theorem dL_law_385 : decode cL_law 385 = .ok (.iload_n 3, 1) := by decide +kernel
theorem dL_law_386 : decode cL_law 386 = .ok (.iconst 2, 1) := by decide +kernel
theorem dL_law_387 : decode cL_law 387 = .ok (.iadd, 1) := by decide +kernel
theorem dL_law_388 : decode cL_law 388 = .ok (.iaload, 1) := by decide +kernel
theorem dL_law_389 : decode cL_law 389 = .ok (.invokevirtual 44, 3) := by decide +kernel
theorem dL_law_392 : decode cL_law 392 = .ok (.if_icmp .eq 959, 3) := by decide +kernel
theorem dL_law_395 : decode cL_law 395 = .ok (.iconst 0, 1) := by decide +kernel
theorem dL_law_396 : decode cL_law 396 = .ok (.ireturn, 1) := by decide +kernel
theorem dL_law_397 : decode cL_law 397 = .ok (.aload_n 1, 1) := by decide +kernel
theorem dL_law_398 : decode cL_law 398 = .ok (.aload_n 0, 1) := by decide +kernel
theorem dL_law_399 : decode cL_law 399 = .ok (.iload_n 3, 1) := by decide +kernel
theorem dL_law_400 : decode cL_law 400 = .ok (.iconst 1, 1) := by decide +kernel
theorem dL_law_401 : decode cL_law 401 = .ok (.iadd, 1) := by decide +kernel
theorem dL_law_402 : decode cL_law 402 = .ok (.iaload, 1) := by decide +kernel
theorem dL_law_403 : decode cL_law 403 = .ok (.aload_n 0, 1) := by decide +kernel
theorem dL_law_404 : decode cL_law 404 = .ok (.iload_n 3, 1) := by decide +kernel
theorem dL_law_405 : decode cL_law 405 = .ok (.iconst 2, 1) := by decide +kernel
theorem dL_law_406 : decode cL_law 406 = .ok (.iadd, 1) := by decide +kernel
theorem dL_law_407 : decode cL_law 407 = .ok (.iaload, 1) := by decide +kernel
theorem dL_law_408 : decode cL_law 408 = .ok (.invokevirtual 45, 3) := by decide +kernel
theorem dL_law_411 : decode cL_law 411 = .ok (.aload_n 2, 1) := by decide +kernel
theorem dL_law_412 : decode cL_law 412 = .ok (.aload_n 0, 1) := by decide +kernel
theorem dL_law_413 : decode cL_law 413 = .ok (.iload_n 3, 1) := by decide +kernel
theorem dL_law_414 : decode cL_law 414 = .ok (.iconst 1, 1) := by decide +kernel
theorem dL_law_415 : decode cL_law 415 = .ok (.iadd, 1) := by decide +kernel
theorem dL_law_416 : decode cL_law 416 = .ok (.iaload, 1) := by decide +kernel
theorem dL_law_417 : decode cL_law 417 = .ok (.aload_n 0, 1) := by decide +kernel
theorem dL_law_418 : decode cL_law 418 = .ok (.iload_n 3, 1) := by decide +kernel
theorem dL_law_419 : decode cL_law 419 = .ok (.iconst 2, 1) := by decide +kernel
theorem dL_law_420 : decode cL_law 420 = .ok (.iadd, 1) := by decide +kernel
theorem dL_law_421 : decode cL_law 421 = .ok (.iaload, 1) := by decide +kernel
theorem dL_law_422 : decode cL_law 422 = .ok (.invokevirtual 48, 3) := by decide +kernel
theorem dL_law_425 : decode cL_law 425 = .ok (.if_icmp .eq 926, 3) := by decide +kernel
theorem dL_law_428 : decode cL_law 428 = .ok (.iconst 0, 1) := by decide +kernel
theorem dL_law_429 : decode cL_law 429 = .ok (.ireturn, 1) := by decide +kernel
theorem dL_law_430 : decode cL_law 430 = .ok (.aload_n 1, 1) := by decide +kernel
theorem dL_law_431 : decode cL_law 431 = .ok (.aload_n 0, 1) := by decide +kernel
theorem dL_law_432 : decode cL_law 432 = .ok (.iload_n 3, 1) := by decide +kernel
theorem dL_law_433 : decode cL_law 433 = .ok (.iconst 1, 1) := by decide +kernel
theorem dL_law_434 : decode cL_law 434 = .ok (.iadd, 1) := by decide +kernel
theorem dL_law_435 : decode cL_law 435 = .ok (.iaload, 1) := by decide +kernel
theorem dL_law_436 : decode cL_law 436 = .ok (.aload_n 0, 1) := by decide +kernel
theorem dL_law_437 : decode cL_law 437 = .ok (.iload_n 3, 1) := by decide +kernel
theorem dL_law_438 : decode cL_law 438 = .ok (.iconst 2, 1) := by decide +kernel
theorem dL_law_439 : decode cL_law 439 = .ok (.iadd, 1) := by decide +kernel
theorem dL_law_440 : decode cL_law 440 = .ok (.iaload, 1) := by decide +kernel
theorem dL_law_441 : decode cL_law 441 = .ok (.invokevirtual 49, 3) := by decide +kernel
theorem dL_law_444 : decode cL_law 444 = .ok (.aload_n 2, 1) := by decide +kernel
theorem dL_law_445 : decode cL_law 445 = .ok (.aload_n 0, 1) := by decide +kernel
theorem dL_law_446 : decode cL_law 446 = .ok (.iload_n 3, 1) := by decide +kernel
theorem dL_law_447 : decode cL_law 447 = .ok (.iconst 1, 1) := by decide +kernel
theorem dL_law_448 : decode cL_law 448 = .ok (.iadd, 1) := by decide +kernel
theorem dL_law_449 : decode cL_law 449 = .ok (.iaload, 1) := by decide +kernel
theorem dL_law_450 : decode cL_law 450 = .ok (.aload_n 0, 1) := by decide +kernel
theorem dL_law_451 : decode cL_law 451 = .ok (.iload_n 3, 1) := by decide +kernel
theorem dL_law_452 : decode cL_law 452 = .ok (.iconst 2, 1) := by decide +kernel
theorem dL_law_453 : decode cL_law 453 = .ok (.iadd, 1) := by decide +kernel
theorem dL_law_454 : decode cL_law 454 = .ok (.iaload, 1) := by decide +kernel
theorem dL_law_455 : decode cL_law 455 = .ok (.invokevirtual 52, 3) := by decide +kernel
theorem dL_law_458 : decode cL_law 458 = .ok (.if_icmp .eq 893, 3) := by decide +kernel
theorem dL_law_461 : decode cL_law 461 = .ok (.iconst 0, 1) := by decide +kernel
theorem dL_law_462 : decode cL_law 462 = .ok (.ireturn, 1) := by decide +kernel
theorem dL_law_463 : decode cL_law 463 = .ok (.aload_n 1, 1) := by decide +kernel
theorem dL_law_464 : decode cL_law 464 = .ok (.invokevirtual 53, 3) := by decide +kernel
theorem dL_law_467 : decode cL_law 467 = .ok (.aload_n 2, 1) := by decide +kernel
theorem dL_law_468 : decode cL_law 468 = .ok (.invokevirtual 56, 3) := by decide +kernel
theorem dL_law_471 : decode cL_law 471 = .ok (.if_icmp .eq 880, 3) := by decide +kernel
theorem dL_law_474 : decode cL_law 474 = .ok (.iconst 0, 1) := by decide +kernel
theorem dL_law_475 : decode cL_law 475 = .ok (.ireturn, 1) := by decide +kernel
theorem dL_law_476 : decode cL_law 476 = .ok (.aload_n 1, 1) := by decide +kernel
theorem dL_law_477 : decode cL_law 477 = .ok (.aload_n 0, 1) := by decide +kernel
theorem dL_law_478 : decode cL_law 478 = .ok (.iload_n 3, 1) := by decide +kernel
theorem dL_law_479 : decode cL_law 479 = .ok (.iconst 1, 1) := by decide +kernel
theorem dL_law_480 : decode cL_law 480 = .ok (.iadd, 1) := by decide +kernel
theorem dL_law_481 : decode cL_law 481 = .ok (.iaload, 1) := by decide +kernel
theorem dL_law_482 : decode cL_law 482 = .ok (.aload_n 0, 1) := by decide +kernel
theorem dL_law_483 : decode cL_law 483 = .ok (.iload_n 3, 1) := by decide +kernel
theorem dL_law_484 : decode cL_law 484 = .ok (.iconst 2, 1) := by decide +kernel
theorem dL_law_485 : decode cL_law 485 = .ok (.iadd, 1) := by decide +kernel
theorem dL_law_486 : decode cL_law 486 = .ok (.iaload, 1) := by decide +kernel
theorem dL_law_487 : decode cL_law 487 = .ok (.aload_n 0, 1) := by decide +kernel
theorem dL_law_488 : decode cL_law 488 = .ok (.iload_n 3, 1) := by decide +kernel
theorem dL_law_489 : decode cL_law 489 = .ok (.iconst 3, 1) := by decide +kernel
theorem dL_law_490 : decode cL_law 490 = .ok (.iadd, 1) := by decide +kernel
theorem dL_law_491 : decode cL_law 491 = .ok (.iaload, 1) := by decide +kernel
theorem dL_law_492 : decode cL_law 492 = .ok (.invokevirtual 57, 3) := by decide +kernel
theorem dL_law_495 : decode cL_law 495 = .ok (.aload_n 2, 1) := by decide +kernel
theorem dL_law_496 : decode cL_law 496 = .ok (.aload_n 0, 1) := by decide +kernel
theorem dL_law_497 : decode cL_law 497 = .ok (.iload_n 3, 1) := by decide +kernel
theorem dL_law_498 : decode cL_law 498 = .ok (.iconst 1, 1) := by decide +kernel
theorem dL_law_499 : decode cL_law 499 = .ok (.iadd, 1) := by decide +kernel
theorem dL_law_500 : decode cL_law 500 = .ok (.iaload, 1) := by decide +kernel
theorem dL_law_501 : decode cL_law 501 = .ok (.aload_n 0, 1) := by decide +kernel
theorem dL_law_502 : decode cL_law 502 = .ok (.iload_n 3, 1) := by decide +kernel
theorem dL_law_503 : decode cL_law 503 = .ok (.iconst 2, 1) := by decide +kernel
theorem dL_law_504 : decode cL_law 504 = .ok (.iadd, 1) := by decide +kernel
theorem dL_law_505 : decode cL_law 505 = .ok (.iaload, 1) := by decide +kernel
theorem dL_law_506 : decode cL_law 506 = .ok (.aload_n 0, 1) := by decide +kernel
theorem dL_law_507 : decode cL_law 507 = .ok (.iload_n 3, 1) := by decide +kernel
theorem dL_law_508 : decode cL_law 508 = .ok (.iconst 3, 1) := by decide +kernel
theorem dL_law_509 : decode cL_law 509 = .ok (.iadd, 1) := by decide +kernel
theorem dL_law_510 : decode cL_law 510 = .ok (.iaload, 1) := by decide +kernel
theorem dL_law_511 : decode cL_law 511 = .ok (.invokevirtual 60, 3) := by decide +kernel
theorem dL_law_514 : decode cL_law 514 = .ok (.if_icmp .eq 837, 3) := by decide +kernel
theorem dL_law_517 : decode cL_law 517 = .ok (.iconst 0, 1) := by decide +kernel
theorem dL_law_518 : decode cL_law 518 = .ok (.ireturn, 1) := by decide +kernel
theorem dL_law_519 : decode cL_law 519 = .ok (.aload_n 1, 1) := by decide +kernel
theorem dL_law_520 : decode cL_law 520 = .ok (.aload_n 0, 1) := by decide +kernel
theorem dL_law_521 : decode cL_law 521 = .ok (.iload_n 3, 1) := by decide +kernel
theorem dL_law_522 : decode cL_law 522 = .ok (.iconst 1, 1) := by decide +kernel
theorem dL_law_523 : decode cL_law 523 = .ok (.iadd, 1) := by decide +kernel
theorem dL_law_524 : decode cL_law 524 = .ok (.iaload, 1) := by decide +kernel
theorem dL_law_525 : decode cL_law 525 = .ok (.aload_n 0, 1) := by decide +kernel
theorem dL_law_526 : decode cL_law 526 = .ok (.iload_n 3, 1) := by decide +kernel
theorem dL_law_527 : decode cL_law 527 = .ok (.iconst 2, 1) := by decide +kernel
theorem dL_law_528 : decode cL_law 528 = .ok (.iadd, 1) := by decide +kernel
theorem dL_law_529 : decode cL_law 529 = .ok (.iaload, 1) := by decide +kernel
theorem dL_law_530 : decode cL_law 530 = .ok (.aload_n 0, 1) := by decide +kernel
theorem dL_law_531 : decode cL_law 531 = .ok (.iload_n 3, 1) := by decide +kernel
theorem dL_law_532 : decode cL_law 532 = .ok (.iconst 3, 1) := by decide +kernel
theorem dL_law_533 : decode cL_law 533 = .ok (.iadd, 1) := by decide +kernel
theorem dL_law_534 : decode cL_law 534 = .ok (.iaload, 1) := by decide +kernel
theorem dL_law_535 : decode cL_law 535 = .ok (.aload_n 0, 1) := by decide +kernel
theorem dL_law_536 : decode cL_law 536 = .ok (.iload_n 3, 1) := by decide +kernel
theorem dL_law_537 : decode cL_law 537 = .ok (.iconst 4, 1) := by decide +kernel
theorem dL_law_538 : decode cL_law 538 = .ok (.iadd, 1) := by decide +kernel
theorem dL_law_539 : decode cL_law 539 = .ok (.iaload, 1) := by decide +kernel
theorem dL_law_540 : decode cL_law 540 = .ok (.invokevirtual 61, 3) := by decide +kernel
theorem dL_law_543 : decode cL_law 543 = .ok (.aload_n 2, 1) := by decide +kernel
theorem dL_law_544 : decode cL_law 544 = .ok (.aload_n 0, 1) := by decide +kernel
theorem dL_law_545 : decode cL_law 545 = .ok (.iload_n 3, 1) := by decide +kernel
theorem dL_law_546 : decode cL_law 546 = .ok (.iconst 1, 1) := by decide +kernel
theorem dL_law_547 : decode cL_law 547 = .ok (.iadd, 1) := by decide +kernel
theorem dL_law_548 : decode cL_law 548 = .ok (.iaload, 1) := by decide +kernel
theorem dL_law_549 : decode cL_law 549 = .ok (.aload_n 0, 1) := by decide +kernel
theorem dL_law_550 : decode cL_law 550 = .ok (.iload_n 3, 1) := by decide +kernel
theorem dL_law_551 : decode cL_law 551 = .ok (.iconst 2, 1) := by decide +kernel
theorem dL_law_552 : decode cL_law 552 = .ok (.iadd, 1) := by decide +kernel
theorem dL_law_553 : decode cL_law 553 = .ok (.iaload, 1) := by decide +kernel
theorem dL_law_554 : decode cL_law 554 = .ok (.aload_n 0, 1) := by decide +kernel
theorem dL_law_555 : decode cL_law 555 = .ok (.iload_n 3, 1) := by decide +kernel
theorem dL_law_556 : decode cL_law 556 = .ok (.iconst 3, 1) := by decide +kernel
theorem dL_law_557 : decode cL_law 557 = .ok (.iadd, 1) := by decide +kernel
theorem dL_law_558 : decode cL_law 558 = .ok (.iaload, 1) := by decide +kernel
theorem dL_law_559 : decode cL_law 559 = .ok (.aload_n 0, 1) := by decide +kernel
theorem dL_law_560 : decode cL_law 560 = .ok (.iload_n 3, 1) := by decide +kernel
theorem dL_law_561 : decode cL_law 561 = .ok (.iconst 4, 1) := by decide +kernel
end
section
theorem dL_law_562 : decode cL_law 562 = .ok (.iadd, 1) := by decide +kernel
theorem dL_law_563 : decode cL_law 563 = .ok (.iaload, 1) := by decide +kernel
theorem dL_law_564 : decode cL_law 564 = .ok (.invokevirtual 65, 3) := by decide +kernel
theorem dL_law_567 : decode cL_law 567 = .ok (.if_icmp .eq 784, 3) := by decide +kernel
theorem dL_law_570 : decode cL_law 570 = .ok (.iconst 0, 1) := by decide +kernel
theorem dL_law_571 : decode cL_law 571 = .ok (.ireturn, 1) := by decide +kernel
theorem dL_law_572 : decode cL_law 572 = .ok (.aload_n 1, 1) := by decide +kernel
theorem dL_law_573 : decode cL_law 573 = .ok (.aload_n 0, 1) := by decide +kernel
theorem dL_law_574 : decode cL_law 574 = .ok (.iload_n 3, 1) := by decide +kernel
theorem dL_law_575 : decode cL_law 575 = .ok (.iconst 1, 1) := by decide +kernel
theorem dL_law_576 : decode cL_law 576 = .ok (.iadd, 1) := by decide +kernel
theorem dL_law_577 : decode cL_law 577 = .ok (.iaload, 1) := by decide +kernel
theorem dL_law_578 : decode cL_law 578 = .ok (.aload_n 0, 1) := by decide +kernel
theorem dL_law_579 : decode cL_law 579 = .ok (.iload_n 3, 1) := by decide +kernel
theorem dL_law_580 : decode cL_law 580 = .ok (.iconst 2, 1) := by decide +kernel
theorem dL_law_581 : decode cL_law 581 = .ok (.iadd, 1) := by decide +kernel
theorem dL_law_582 : decode cL_law 582 = .ok (.iaload, 1) := by decide +kernel
theorem dL_law_583 : decode cL_law 583 = .ok (.aload_n 0, 1) := by decide +kernel
theorem dL_law_584 : decode cL_law 584 = .ok (.iload_n 3, 1) := by decide +kernel
theorem dL_law_585 : decode cL_law 585 = .ok (.iconst 3, 1) := by decide +kernel
theorem dL_law_586 : decode cL_law 586 = .ok (.iadd, 1) := by decide +kernel
theorem dL_law_587 : decode cL_law 587 = .ok (.iaload, 1) := by decide +kernel
theorem dL_law_588 : decode cL_law 588 = .ok (.invokevirtual 66, 3) := by decide +kernel
theorem dL_law_591 : decode cL_law 591 = .ok (.aload_n 2, 1) := by decide +kernel
theorem dL_law_592 : decode cL_law 592 = .ok (.aload_n 0, 1) := by decide +kernel
theorem dL_law_593 : decode cL_law 593 = .ok (.iload_n 3, 1) := by decide +kernel
theorem dL_law_594 : decode cL_law 594 = .ok (.iconst 1, 1) := by decide +kernel
theorem dL_law_595 : decode cL_law 595 = .ok (.iadd, 1) := by decide +kernel
theorem dL_law_596 : decode cL_law 596 = .ok (.iaload, 1) := by decide +kernel
theorem dL_law_597 : decode cL_law 597 = .ok (.aload_n 0, 1) := by decide +kernel
theorem dL_law_598 : decode cL_law 598 = .ok (.iload_n 3, 1) := by decide +kernel
theorem dL_law_599 : decode cL_law 599 = .ok (.iconst 2, 1) := by decide +kernel
theorem dL_law_600 : decode cL_law 600 = .ok (.iadd, 1) := by decide +kernel
theorem dL_law_601 : decode cL_law 601 = .ok (.iaload, 1) := by decide +kernel
theorem dL_law_602 : decode cL_law 602 = .ok (.aload_n 0, 1) := by decide +kernel
theorem dL_law_603 : decode cL_law 603 = .ok (.iload_n 3, 1) := by decide +kernel
theorem dL_law_604 : decode cL_law 604 = .ok (.iconst 3, 1) := by decide +kernel
theorem dL_law_605 : decode cL_law 605 = .ok (.iadd, 1) := by decide +kernel
theorem dL_law_606 : decode cL_law 606 = .ok (.iaload, 1) := by decide +kernel
theorem dL_law_607 : decode cL_law 607 = .ok (.invokevirtual 70, 3) := by decide +kernel
theorem dL_law_610 : decode cL_law 610 = .ok (.lcmp, 1) := by decide +kernel
theorem dL_law_611 : decode cL_law 611 = .ok (.ifCond .eq 740, 3) := by decide +kernel
theorem dL_law_614 : decode cL_law 614 = .ok (.iconst 0, 1) := by decide +kernel
theorem dL_law_615 : decode cL_law 615 = .ok (.ireturn, 1) := by decide +kernel
theorem dL_law_616 : decode cL_law 616 = .ok (.aload_n 1, 1) := by decide +kernel
theorem dL_law_617 : decode cL_law 617 = .ok (.aload_n 0, 1) := by decide +kernel
theorem dL_law_618 : decode cL_law 618 = .ok (.iload_n 3, 1) := by decide +kernel
theorem dL_law_619 : decode cL_law 619 = .ok (.iconst 1, 1) := by decide +kernel
theorem dL_law_620 : decode cL_law 620 = .ok (.iadd, 1) := by decide +kernel
theorem dL_law_621 : decode cL_law 621 = .ok (.iaload, 1) := by decide +kernel
theorem dL_law_622 : decode cL_law 622 = .ok (.aload_n 0, 1) := by decide +kernel
theorem dL_law_623 : decode cL_law 623 = .ok (.iload_n 3, 1) := by decide +kernel
theorem dL_law_624 : decode cL_law 624 = .ok (.iconst 2, 1) := by decide +kernel
theorem dL_law_625 : decode cL_law 625 = .ok (.iadd, 1) := by decide +kernel
theorem dL_law_626 : decode cL_law 626 = .ok (.iaload, 1) := by decide +kernel
theorem dL_law_627 : decode cL_law 627 = .ok (.invokevirtual 71, 3) := by decide +kernel
theorem dL_law_630 : decode cL_law 630 = .ok (.aload_n 2, 1) := by decide +kernel
theorem dL_law_631 : decode cL_law 631 = .ok (.aload_n 0, 1) := by decide +kernel
theorem dL_law_632 : decode cL_law 632 = .ok (.iload_n 3, 1) := by decide +kernel
theorem dL_law_633 : decode cL_law 633 = .ok (.iconst 1, 1) := by decide +kernel
theorem dL_law_634 : decode cL_law 634 = .ok (.iadd, 1) := by decide +kernel
theorem dL_law_635 : decode cL_law 635 = .ok (.iaload, 1) := by decide +kernel
theorem dL_law_636 : decode cL_law 636 = .ok (.aload_n 0, 1) := by decide +kernel
theorem dL_law_637 : decode cL_law 637 = .ok (.iload_n 3, 1) := by decide +kernel
theorem dL_law_638 : decode cL_law 638 = .ok (.iconst 2, 1) := by decide +kernel
theorem dL_law_639 : decode cL_law 639 = .ok (.iadd, 1) := by decide +kernel
theorem dL_law_640 : decode cL_law 640 = .ok (.iaload, 1) := by decide +kernel
theorem dL_law_641 : decode cL_law 641 = .ok (.invokevirtual 74, 3) := by decide +kernel
theorem dL_law_644 : decode cL_law 644 = .ok (.if_icmp .eq 707, 3) := by decide +kernel
theorem dL_law_647 : decode cL_law 647 = .ok (.iconst 0, 1) := by decide +kernel
theorem dL_law_648 : decode cL_law 648 = .ok (.ireturn, 1) := by decide +kernel
theorem dL_law_649 : decode cL_law 649 = .ok (.aload_n 1, 1) := by decide +kernel
theorem dL_law_650 : decode cL_law 650 = .ok (.aload_n 0, 1) := by decide +kernel
theorem dL_law_651 : decode cL_law 651 = .ok (.iload_n 3, 1) := by decide +kernel
theorem dL_law_652 : decode cL_law 652 = .ok (.iconst 1, 1) := by decide +kernel
theorem dL_law_653 : decode cL_law 653 = .ok (.iadd, 1) := by decide +kernel
theorem dL_law_654 : decode cL_law 654 = .ok (.iaload, 1) := by decide +kernel
theorem dL_law_655 : decode cL_law 655 = .ok (.invokevirtual 75, 3) := by decide +kernel
theorem dL_law_658 : decode cL_law 658 = .ok (.aload_n 2, 1) := by decide +kernel
theorem dL_law_659 : decode cL_law 659 = .ok (.aload_n 0, 1) := by decide +kernel
theorem dL_law_660 : decode cL_law 660 = .ok (.iload_n 3, 1) := by decide +kernel
theorem dL_law_661 : decode cL_law 661 = .ok (.iconst 1, 1) := by decide +kernel
theorem dL_law_662 : decode cL_law 662 = .ok (.iadd, 1) := by decide +kernel
theorem dL_law_663 : decode cL_law 663 = .ok (.iaload, 1) := by decide +kernel
theorem dL_law_664 : decode cL_law 664 = .ok (.invokevirtual 78, 3) := by decide +kernel
theorem dL_law_667 : decode cL_law 667 = .ok (.if_icmp .eq 684, 3) := by decide +kernel
theorem dL_law_670 : decode cL_law 670 = .ok (.iconst 0, 1) := by decide +kernel
theorem dL_law_671 : decode cL_law 671 = .ok (.ireturn, 1) := by decide +kernel
theorem dL_law_672 : decode cL_law 672 = .ok (.aload_n 1, 1) := by decide +kernel
theorem dL_law_673 : decode cL_law 673 = .ok (.aload_n 0, 1) := by decide +kernel
theorem dL_law_674 : decode cL_law 674 = .ok (.iload_n 3, 1) := by decide +kernel
theorem dL_law_675 : decode cL_law 675 = .ok (.iconst 1, 1) := by decide +kernel
theorem dL_law_676 : decode cL_law 676 = .ok (.iadd, 1) := by decide +kernel
theorem dL_law_677 : decode cL_law 677 = .ok (.iaload, 1) := by decide +kernel
theorem dL_law_678 : decode cL_law 678 = .ok (.invokevirtual 79, 3) := by decide +kernel
theorem dL_law_681 : decode cL_law 681 = .ok (.aload_n 2, 1) := by decide +kernel
theorem dL_law_682 : decode cL_law 682 = .ok (.aload_n 0, 1) := by decide +kernel
theorem dL_law_683 : decode cL_law 683 = .ok (.iload_n 3, 1) := by decide +kernel
theorem dL_law_684 : decode cL_law 684 = .ok (.iconst 1, 1) := by decide +kernel
theorem dL_law_685 : decode cL_law 685 = .ok (.iadd, 1) := by decide +kernel
theorem dL_law_686 : decode cL_law 686 = .ok (.iaload, 1) := by decide +kernel
theorem dL_law_687 : decode cL_law 687 = .ok (.invokevirtual 82, 3) := by decide +kernel
theorem dL_law_690 : decode cL_law 690 = .ok (.if_icmp .eq 661, 3) := by decide +kernel
theorem dL_law_693 : decode cL_law 693 = .ok (.iconst 0, 1) := by decide +kernel
theorem dL_law_694 : decode cL_law 694 = .ok (.ireturn, 1) := by decide +kernel
theorem dL_law_695 : decode cL_law 695 = .ok (.aload_n 1, 1) := by decide +kernel
theorem dL_law_696 : decode cL_law 696 = .ok (.invokevirtual 83, 3) := by decide +kernel
theorem dL_law_699 : decode cL_law 699 = .ok (.aload_n 2, 1) := by decide +kernel
theorem dL_law_700 : decode cL_law 700 = .ok (.invokevirtual 87, 3) := by decide +kernel
theorem dL_law_703 : decode cL_law 703 = .ok (.lcmp, 1) := by decide +kernel
theorem dL_law_704 : decode cL_law 704 = .ok (.ifCond .eq 647, 3) := by decide +kernel
theorem dL_law_707 : decode cL_law 707 = .ok (.iconst 0, 1) := by decide +kernel
theorem dL_law_708 : decode cL_law 708 = .ok (.ireturn, 1) := by decide +kernel
theorem dL_law_709 : decode cL_law 709 = .ok (.aload_n 1, 1) := by decide +kernel
theorem dL_law_710 : decode cL_law 710 = .ok (.aload_n 0, 1) := by decide +kernel
theorem dL_law_711 : decode cL_law 711 = .ok (.iload_n 3, 1) := by decide +kernel
theorem dL_law_712 : decode cL_law 712 = .ok (.iconst 1, 1) := by decide +kernel
theorem dL_law_713 : decode cL_law 713 = .ok (.iadd, 1) := by decide +kernel
theorem dL_law_714 : decode cL_law 714 = .ok (.iaload, 1) := by decide +kernel
theorem dL_law_715 : decode cL_law 715 = .ok (.aload_n 0, 1) := by decide +kernel
theorem dL_law_716 : decode cL_law 716 = .ok (.iload_n 3, 1) := by decide +kernel
theorem dL_law_717 : decode cL_law 717 = .ok (.iconst 2, 1) := by decide +kernel
theorem dL_law_718 : decode cL_law 718 = .ok (.iadd, 1) := by decide +kernel
theorem dL_law_719 : decode cL_law 719 = .ok (.iaload, 1) := by decide +kernel
theorem dL_law_720 : decode cL_law 720 = .ok (.aload_n 0, 1) := by decide +kernel
theorem dL_law_721 : decode cL_law 721 = .ok (.iload_n 3, 1) := by decide +kernel
theorem dL_law_722 : decode cL_law 722 = .ok (.iconst 3, 1) := by decide +kernel
theorem dL_law_723 : decode cL_law 723 = .ok (.iadd, 1) := by decide +kernel
theorem dL_law_724 : decode cL_law 724 = .ok (.iaload, 1) := by decide +kernel
theorem dL_law_725 : decode cL_law 725 = .ok (.invokevirtual 88, 3) := by decide +kernel
theorem dL_law_728 : decode cL_law 728 = .ok (.aload_n 2, 1) := by decide +kernel
theorem dL_law_729 : decode cL_law 729 = .ok (.aload_n 0, 1) := by decide +kernel
theorem dL_law_730 : decode cL_law 730 = .ok (.iload_n 3, 1) := by decide +kernel
theorem dL_law_731 : decode cL_law 731 = .ok (.iconst 1, 1) := by decide +kernel
theorem dL_law_732 : decode cL_law 732 = .ok (.iadd, 1) := by decide +kernel
theorem dL_law_733 : decode cL_law 733 = .ok (.iaload, 1) := by decide +kernel
theorem dL_law_734 : decode cL_law 734 = .ok (.aload_n 0, 1) := by decide +kernel
theorem dL_law_735 : decode cL_law 735 = .ok (.iload_n 3, 1) := by decide +kernel
theorem dL_law_736 : decode cL_law 736 = .ok (.iconst 2, 1) := by decide +kernel
theorem dL_law_737 : decode cL_law 737 = .ok (.iadd, 1) := by decide +kernel
theorem dL_law_738 : decode cL_law 738 = .ok (.iaload, 1) := by decide +kernel
theorem dL_law_739 : decode cL_law 739 = .ok (.aload_n 0, 1) := by decide +kernel
theorem dL_law_740 : decode cL_law 740 = .ok (.iload_n 3, 1) := by decide +kernel
theorem dL_law_741 : decode cL_law 741 = .ok (.iconst 3, 1) := by decide +kernel
theorem dL_law_742 : decode cL_law 742 = .ok (.iadd, 1) := by decide +kernel
theorem dL_law_743 : decode cL_law 743 = .ok (.iaload, 1) := by decide +kernel
theorem dL_law_744 : decode cL_law 744 = .ok (.invokevirtual 91, 3) := by decide +kernel
theorem dL_law_747 : decode cL_law 747 = .ok (.lcmp, 1) := by decide +kernel
theorem dL_law_748 : decode cL_law 748 = .ok (.ifCond .eq 603, 3) := by decide +kernel
theorem dL_law_751 : decode cL_law 751 = .ok (.iconst 0, 1) := by decide +kernel
theorem dL_law_752 : decode cL_law 752 = .ok (.ireturn, 1) := by decide +kernel
theorem dL_law_753 : decode cL_law 753 = .ok (.aload_n 1, 1) := by decide +kernel
theorem dL_law_754 : decode cL_law 754 = .ok (.aload_n 0, 1) := by decide +kernel
theorem dL_law_755 : decode cL_law 755 = .ok (.iload_n 3, 1) := by decide +kernel
theorem dL_law_756 : decode cL_law 756 = .ok (.iconst 1, 1) := by decide +kernel
theorem dL_law_757 : decode cL_law 757 = .ok (.iadd, 1) := by decide +kernel
theorem dL_law_758 : decode cL_law 758 = .ok (.iaload, 1) := by decide +kernel
theorem dL_law_759 : decode cL_law 759 = .ok (.aload_n 0, 1) := by decide +kernel
theorem dL_law_760 : decode cL_law 760 = .ok (.iload_n 3, 1) := by decide +kernel
theorem dL_law_761 : decode cL_law 761 = .ok (.iconst 2, 1) := by decide +kernel
theorem dL_law_762 : decode cL_law 762 = .ok (.iadd, 1) := by decide +kernel
theorem dL_law_763 : decode cL_law 763 = .ok (.iaload, 1) := by decide +kernel
theorem dL_law_764 : decode cL_law 764 = .ok (.invokevirtual 92, 3) := by decide +kernel
theorem dL_law_767 : decode cL_law 767 = .ok (.aload_n 2, 1) := by decide +kernel
theorem dL_law_768 : decode cL_law 768 = .ok (.aload_n 0, 1) := by decide +kernel
theorem dL_law_769 : decode cL_law 769 = .ok (.iload_n 3, 1) := by decide +kernel
theorem dL_law_770 : decode cL_law 770 = .ok (.iconst 1, 1) := by decide +kernel
theorem dL_law_771 : decode cL_law 771 = .ok (.iadd, 1) := by decide +kernel
theorem dL_law_772 : decode cL_law 772 = .ok (.iaload, 1) := by decide +kernel
theorem dL_law_773 : decode cL_law 773 = .ok (.aload_n 0, 1) := by decide +kernel
theorem dL_law_774 : decode cL_law 774 = .ok (.iload_n 3, 1) := by decide +kernel
theorem dL_law_775 : decode cL_law 775 = .ok (.iconst 2, 1) := by decide +kernel
theorem dL_law_776 : decode cL_law 776 = .ok (.iadd, 1) := by decide +kernel
theorem dL_law_777 : decode cL_law 777 = .ok (.iaload, 1) := by decide +kernel
theorem dL_law_778 : decode cL_law 778 = .ok (.invokevirtual 95, 3) := by decide +kernel
theorem dL_law_781 : decode cL_law 781 = .ok (.if_icmp .eq 570, 3) := by decide +kernel
theorem dL_law_784 : decode cL_law 784 = .ok (.iconst 0, 1) := by decide +kernel
theorem dL_law_785 : decode cL_law 785 = .ok (.ireturn, 1) := by decide +kernel
theorem dL_law_786 : decode cL_law 786 = .ok (.aload_n 1, 1) := by decide +kernel
theorem dL_law_787 : decode cL_law 787 = .ok (.aload_n 0, 1) := by decide +kernel
theorem dL_law_788 : decode cL_law 788 = .ok (.iload_n 3, 1) := by decide +kernel
theorem dL_law_789 : decode cL_law 789 = .ok (.iconst 1, 1) := by decide +kernel
theorem dL_law_790 : decode cL_law 790 = .ok (.iadd, 1) := by decide +kernel
theorem dL_law_791 : decode cL_law 791 = .ok (.iaload, 1) := by decide +kernel
theorem dL_law_792 : decode cL_law 792 = .ok (.aload_n 0, 1) := by decide +kernel
theorem dL_law_793 : decode cL_law 793 = .ok (.iload_n 3, 1) := by decide +kernel
theorem dL_law_794 : decode cL_law 794 = .ok (.iconst 2, 1) := by decide +kernel
theorem dL_law_795 : decode cL_law 795 = .ok (.iadd, 1) := by decide +kernel
theorem dL_law_796 : decode cL_law 796 = .ok (.iaload, 1) := by decide +kernel
theorem dL_law_797 : decode cL_law 797 = .ok (.aload_n 0, 1) := by decide +kernel
theorem dL_law_798 : decode cL_law 798 = .ok (.iload_n 3, 1) := by decide +kernel
theorem dL_law_799 : decode cL_law 799 = .ok (.iconst 3, 1) := by decide +kernel
theorem dL_law_800 : decode cL_law 800 = .ok (.iadd, 1) := by decide +kernel
theorem dL_law_801 : decode cL_law 801 = .ok (.iaload, 1) := by decide +kernel
theorem dL_law_802 : decode cL_law 802 = .ok (.invokevirtual 96, 3) := by decide +kernel
theorem dL_law_805 : decode cL_law 805 = .ok (.aload_n 2, 1) := by decide +kernel
theorem dL_law_806 : decode cL_law 806 = .ok (.aload_n 0, 1) := by decide +kernel
theorem dL_law_807 : decode cL_law 807 = .ok (.iload_n 3, 1) := by decide +kernel
theorem dL_law_808 : decode cL_law 808 = .ok (.iconst 1, 1) := by decide +kernel
theorem dL_law_809 : decode cL_law 809 = .ok (.iadd, 1) := by decide +kernel
theorem dL_law_810 : decode cL_law 810 = .ok (.iaload, 1) := by decide +kernel
theorem dL_law_811 : decode cL_law 811 = .ok (.aload_n 0, 1) := by decide +kernel
theorem dL_law_812 : decode cL_law 812 = .ok (.iload_n 3, 1) := by decide +kernel
theorem dL_law_813 : decode cL_law 813 = .ok (.iconst 2, 1) := by decide +kernel
theorem dL_law_814 : decode cL_law 814 = .ok (.iadd, 1) := by decide +kernel
theorem dL_law_815 : decode cL_law 815 = .ok (.iaload, 1) := by decide +kernel
theorem dL_law_816 : decode cL_law 816 = .ok (.aload_n 0, 1) := by decide +kernel
theorem dL_law_817 : decode cL_law 817 = .ok (.iload_n 3, 1) := by decide +kernel
theorem dL_law_818 : decode cL_law 818 = .ok (.iconst 3, 1) := by decide +kernel
theorem dL_law_819 : decode cL_law 819 = .ok (.iadd, 1) := by decide +kernel
theorem dL_law_820 : decode cL_law 820 = .ok (.iaload, 1) := by decide +kernel
theorem dL_law_821 : decode cL_law 821 = .ok (.invokevirtual 99, 3) := by decide +kernel
theorem dL_law_824 : decode cL_law 824 = .ok (.if_icmp .eq 527, 3) := by decide +kernel
theorem dL_law_827 : decode cL_law 827 = .ok (.iconst 0, 1) := by decide +kernel
theorem dL_law_828 : decode cL_law 828 = .ok (.ireturn, 1) := by decide +kernel
theorem dL_law_829 : decode cL_law 829 = .ok (.aload_n 1, 1) := by decide +kernel
theorem dL_law_830 : decode cL_law 830 = .ok (.invokevirtual 100, 3) := by decide +kernel
theorem dL_law_833 : decode cL_law 833 = .ok (.aload_n 2, 1) := by decide +kernel
theorem dL_law_834 : decode cL_law 834 = .ok (.invokevirtual 103, 3) := by decide +kernel
theorem dL_law_837 : decode cL_law 837 = .ok (.if_icmp .eq 514, 3) := by decide +kernel
theorem dL_law_840 : decode cL_law 840 = .ok (.iconst 0, 1) := by decide +kernel
theorem dL_law_841 : decode cL_law 841 = .ok (.ireturn, 1) := by decide +kernel
theorem dL_law_842 : decode cL_law 842 = .ok (.aload_n 1, 1) := by decide +kernel
theorem dL_law_843 : decode cL_law 843 = .ok (.aload_n 0, 1) := by decide +kernel
theorem dL_law_844 : decode cL_law 844 = .ok (.iload_n 3, 1) := by decide +kernel
theorem dL_law_845 : decode cL_law 845 = .ok (.iconst 1, 1) := by decide +kernel
theorem dL_law_846 : decode cL_law 846 = .ok (.iadd, 1) := by decide +kernel
theorem dL_law_847 : decode cL_law 847 = .ok (.iaload, 1) := by decide +kernel
theorem dL_law_848 : decode cL_law 848 = .ok (.aload_n 0, 1) := by decide +kernel
theorem dL_law_849 : decode cL_law 849 = .ok (.iload_n 3, 1) := by decide +kernel
theorem dL_law_850 : decode cL_law 850 = .ok (.iconst 2, 1) := by decide +kernel
theorem dL_law_851 : decode cL_law 851 = .ok (.iadd, 1) := by decide +kernel
theorem dL_law_852 : decode cL_law 852 = .ok (.iaload, 1) := by decide +kernel
theorem dL_law_853 : decode cL_law 853 = .ok (.invokevirtual 104, 3) := by decide +kernel
theorem dL_law_856 : decode cL_law 856 = .ok (.aload_n 2, 1) := by decide +kernel
theorem dL_law_857 : decode cL_law 857 = .ok (.aload_n 0, 1) := by decide +kernel
theorem dL_law_858 : decode cL_law 858 = .ok (.iload_n 3, 1) := by decide +kernel
theorem dL_law_859 : decode cL_law 859 = .ok (.iconst 1, 1) := by decide +kernel
theorem dL_law_860 : decode cL_law 860 = .ok (.iadd, 1) := by decide +kernel
theorem dL_law_861 : decode cL_law 861 = .ok (.iaload, 1) := by decide +kernel
theorem dL_law_862 : decode cL_law 862 = .ok (.aload_n 0, 1) := by decide +kernel
theorem dL_law_863 : decode cL_law 863 = .ok (.iload_n 3, 1) := by decide +kernel
theorem dL_law_864 : decode cL_law 864 = .ok (.iconst 2, 1) := by decide +kernel
theorem dL_law_865 : decode cL_law 865 = .ok (.iadd, 1) := by decide +kernel
theorem dL_law_866 : decode cL_law 866 = .ok (.iaload, 1) := by decide +kernel
theorem dL_law_867 : decode cL_law 867 = .ok (.invokevirtual 107, 3) := by decide +kernel
theorem dL_law_870 : decode cL_law 870 = .ok (.if_icmp .eq 481, 3) := by decide +kernel
theorem dL_law_873 : decode cL_law 873 = .ok (.iconst 0, 1) := by decide +kernel
theorem dL_law_874 : decode cL_law 874 = .ok (.ireturn, 1) := by decide +kernel
theorem dL_law_875 : decode cL_law 875 = .ok (.aload_n 1, 1) := by decide +kernel
theorem dL_law_876 : decode cL_law 876 = .ok (.aload_n 0, 1) := by decide +kernel
theorem dL_law_877 : decode cL_law 877 = .ok (.iload_n 3, 1) := by decide +kernel
theorem dL_law_878 : decode cL_law 878 = .ok (.iconst 1, 1) := by decide +kernel
theorem dL_law_879 : decode cL_law 879 = .ok (.iadd, 1) := by decide +kernel
theorem dL_law_880 : decode cL_law 880 = .ok (.iaload, 1) := by decide +kernel
theorem dL_law_881 : decode cL_law 881 = .ok (.aload_n 0, 1) := by decide +kernel
theorem dL_law_882 : decode cL_law 882 = .ok (.iload_n 3, 1) := by decide +kernel
theorem dL_law_883 : decode cL_law 883 = .ok (.iconst 2, 1) := by decide +kernel
theorem dL_law_884 : decode cL_law 884 = .ok (.iadd, 1) := by decide +kernel
theorem dL_law_885 : decode cL_law 885 = .ok (.iaload, 1) := by decide +kernel
theorem dL_law_886 : decode cL_law 886 = .ok (.invokevirtual 108, 3) := by decide +kernel
theorem dL_law_889 : decode cL_law 889 = .ok (.aload_n 2, 1) := by decide +kernel
theorem dL_law_890 : decode cL_law 890 = .ok (.aload_n 0, 1) := by decide +kernel
theorem dL_law_891 : decode cL_law 891 = .ok (.iload_n 3, 1) := by decide +kernel
theorem dL_law_892 : decode cL_law 892 = .ok (.iconst 1, 1) := by decide +kernel
theorem dL_law_893 : decode cL_law 893 = .ok (.iadd, 1) := by decide +kernel
theorem dL_law_894 : decode cL_law 894 = .ok (.iaload, 1) := by decide +kernel
theorem dL_law_895 : decode cL_law 895 = .ok (.aload_n 0, 1) := by decide +kernel
theorem dL_law_896 : decode cL_law 896 = .ok (.iload_n 3, 1) := by decide +kernel
theorem dL_law_897 : decode cL_law 897 = .ok (.iconst 2, 1) := by decide +kernel
theorem dL_law_898 : decode cL_law 898 = .ok (.iadd, 1) := by decide +kernel
theorem dL_law_899 : decode cL_law 899 = .ok (.iaload, 1) := by decide +kernel
theorem dL_law_900 : decode cL_law 900 = .ok (.invokevirtual 111, 3) := by decide +kernel
theorem dL_law_903 : decode cL_law 903 = .ok (.if_icmp .eq 448, 3) := by decide +kernel
theorem dL_law_906 : decode cL_law 906 = .ok (.iconst 0, 1) := by decide +kernel
theorem dL_law_907 : decode cL_law 907 = .ok (.ireturn, 1) := by decide +kernel
theorem dL_law_908 : decode cL_law 908 = .ok (.aload_n 1, 1) := by decide +kernel
theorem dL_law_909 : decode cL_law 909 = .ok (.aload_n 0, 1) := by decide +kernel
theorem dL_law_910 : decode cL_law 910 = .ok (.iload_n 3, 1) := by decide +kernel
theorem dL_law_911 : decode cL_law 911 = .ok (.iconst 1, 1) := by decide +kernel
theorem dL_law_912 : decode cL_law 912 = .ok (.iadd, 1) := by decide +kernel
theorem dL_law_913 : decode cL_law 913 = .ok (.iaload, 1) := by decide +kernel
theorem dL_law_914 : decode cL_law 914 = .ok (.aload_n 0, 1) := by decide +kernel
theorem dL_law_915 : decode cL_law 915 = .ok (.iload_n 3, 1) := by decide +kernel
theorem dL_law_916 : decode cL_law 916 = .ok (.iconst 2, 1) := by decide +kernel
theorem dL_law_917 : decode cL_law 917 = .ok (.iadd, 1) := by decide +kernel
theorem dL_law_918 : decode cL_law 918 = .ok (.iaload, 1) := by decide +kernel
theorem dL_law_919 : decode cL_law 919 = .ok (.invokevirtual 112, 3) := by decide +kernel
theorem dL_law_922 : decode cL_law 922 = .ok (.aload_n 2, 1) := by decide +kernel
theorem dL_law_923 : decode cL_law 923 = .ok (.aload_n 0, 1) := by decide +kernel
theorem dL_law_924 : decode cL_law 924 = .ok (.iload_n 3, 1) := by decide +kernel
theorem dL_law_925 : decode cL_law 925 = .ok (.iconst 1, 1) := by decide +kernel
theorem dL_law_926 : decode cL_law 926 = .ok (.iadd, 1) := by decide +kernel
theorem dL_law_927 : decode cL_law 927 = .ok (.iaload, 1) := by decide +kernel
theorem dL_law_928 : decode cL_law 928 = .ok (.aload_n 0, 1) := by decide +kernel
theorem dL_law_929 : decode cL_law 929 = .ok (.iload_n 3, 1) := by decide +kernel
theorem dL_law_930 : decode cL_law 930 = .ok (.iconst 2, 1) := by decide +kernel
theorem dL_law_931 : decode cL_law 931 = .ok (.iadd, 1) := by decide +kernel
theorem dL_law_932 : decode cL_law 932 = .ok (.iaload, 1) := by decide +kernel
theorem dL_law_933 : decode cL_law 933 = .ok (.invokevirtual 115, 3) := by decide +kernel
theorem dL_law_936 : decode cL_law 936 = .ok (.if_icmp .eq 415, 3) := by decide +kernel
theorem dL_law_939 : decode cL_law 939 = .ok (.iconst 0, 1) := by decide +kernel
theorem dL_law_940 : decode cL_law 940 = .ok (.ireturn, 1) := by decide +kernel
theorem dL_law_941 : decode cL_law 941 = .ok (.aload_n 1, 1) := by decide +kernel
theorem dL_law_942 : decode cL_law 942 = .ok (.aload_n 0, 1) := by decide +kernel
theorem dL_law_943 : decode cL_law 943 = .ok (.iload_n 3, 1) := by decide +kernel
theorem dL_law_944 : decode cL_law 944 = .ok (.iconst 1, 1) := by decide +kernel
theorem dL_law_945 : decode cL_law 945 = .ok (.iadd, 1) := by decide +kernel
theorem dL_law_946 : decode cL_law 946 = .ok (.iaload, 1) := by decide +kernel
theorem dL_law_947 : decode cL_law 947 = .ok (.aload_n 0, 1) := by decide +kernel
theorem dL_law_948 : decode cL_law 948 = .ok (.iload_n 3, 1) := by decide +kernel
theorem dL_law_949 : decode cL_law 949 = .ok (.iconst 2, 1) := by decide +kernel
theorem dL_law_950 : decode cL_law 950 = .ok (.iadd, 1) := by decide +kernel
theorem dL_law_951 : decode cL_law 951 = .ok (.iaload, 1) := by decide +kernel
theorem dL_law_952 : decode cL_law 952 = .ok (.invokevirtual 116, 3) := by decide +kernel
theorem dL_law_955 : decode cL_law 955 = .ok (.aload_n 2, 1) := by decide +kernel
theorem dL_law_956 : decode cL_law 956 = .ok (.aload_n 0, 1) := by decide +kernel
theorem dL_law_957 : decode cL_law 957 = .ok (.iload_n 3, 1) := by decide +kernel
theorem dL_law_958 : decode cL_law 958 = .ok (.iconst 1, 1) := by decide +kernel
theorem dL_law_959 : decode cL_law 959 = .ok (.iadd, 1) := by decide +kernel
end
section
theorem dL_law_960 : decode cL_law 960 = .ok (.iaload, 1) := by decide +kernel
theorem dL_law_961 : decode cL_law 961 = .ok (.aload_n 0, 1) := by decide +kernel
theorem dL_law_962 : decode cL_law 962 = .ok (.iload_n 3, 1) := by decide +kernel
theorem dL_law_963 : decode cL_law 963 = .ok (.iconst 2, 1) := by decide +kernel
theorem dL_law_964 : decode cL_law 964 = .ok (.iadd, 1) := by decide +kernel
theorem dL_law_965 : decode cL_law 965 = .ok (.iaload, 1) := by decide +kernel
theorem dL_law_966 : decode cL_law 966 = .ok (.invokevirtual 119, 3) := by decide +kernel
theorem dL_law_969 : decode cL_law 969 = .ok (.if_icmp .eq 382, 3) := by decide +kernel
theorem dL_law_972 : decode cL_law 972 = .ok (.iconst 0, 1) := by decide +kernel
theorem dL_law_973 : decode cL_law 973 = .ok (.ireturn, 1) := by decide +kernel
theorem dL_law_974 : decode cL_law 974 = .ok (.aload_n 1, 1) := by decide +kernel
theorem dL_law_975 : decode cL_law 975 = .ok (.aload_n 0, 1) := by decide +kernel
theorem dL_law_976 : decode cL_law 976 = .ok (.iload_n 3, 1) := by decide +kernel
theorem dL_law_977 : decode cL_law 977 = .ok (.iconst 1, 1) := by decide +kernel
theorem dL_law_978 : decode cL_law 978 = .ok (.iadd, 1) := by decide +kernel
theorem dL_law_979 : decode cL_law 979 = .ok (.iaload, 1) := by decide +kernel
theorem dL_law_980 : decode cL_law 980 = .ok (.aload_n 0, 1) := by decide +kernel
theorem dL_law_981 : decode cL_law 981 = .ok (.iload_n 3, 1) := by decide +kernel
theorem dL_law_982 : decode cL_law 982 = .ok (.iconst 2, 1) := by decide +kernel
theorem dL_law_983 : decode cL_law 983 = .ok (.iadd, 1) := by decide +kernel
theorem dL_law_984 : decode cL_law 984 = .ok (.iaload, 1) := by decide +kernel
theorem dL_law_985 : decode cL_law 985 = .ok (.invokevirtual 120, 3) := by decide +kernel
theorem dL_law_988 : decode cL_law 988 = .ok (.aload_n 2, 1) := by decide +kernel
theorem dL_law_989 : decode cL_law 989 = .ok (.aload_n 0, 1) := by decide +kernel
theorem dL_law_990 : decode cL_law 990 = .ok (.iload_n 3, 1) := by decide +kernel
theorem dL_law_991 : decode cL_law 991 = .ok (.iconst 1, 1) := by decide +kernel
theorem dL_law_992 : decode cL_law 992 = .ok (.iadd, 1) := by decide +kernel
theorem dL_law_993 : decode cL_law 993 = .ok (.iaload, 1) := by decide +kernel
theorem dL_law_994 : decode cL_law 994 = .ok (.aload_n 0, 1) := by decide +kernel
theorem dL_law_995 : decode cL_law 995 = .ok (.iload_n 3, 1) := by decide +kernel
theorem dL_law_996 : decode cL_law 996 = .ok (.iconst 2, 1) := by decide +kernel
theorem dL_law_997 : decode cL_law 997 = .ok (.iadd, 1) := by decide +kernel
theorem dL_law_998 : decode cL_law 998 = .ok (.iaload, 1) := by decide +kernel
theorem dL_law_999 : decode cL_law 999 = .ok (.invokevirtual 123, 3) := by decide +kernel
theorem dL_law_1002 : decode cL_law 1002 = .ok (.if_icmp .eq 349, 3) := by decide +kernel
theorem dL_law_1005 : decode cL_law 1005 = .ok (.iconst 0, 1) := by decide +kernel
theorem dL_law_1006 : decode cL_law 1006 = .ok (.ireturn, 1) := by decide +kernel
theorem dL_law_1007 : decode cL_law 1007 = .ok (.aload_n 1, 1) := by decide +kernel
theorem dL_law_1008 : decode cL_law 1008 = .ok (.aload_n 0, 1) := by decide +kernel
theorem dL_law_1009 : decode cL_law 1009 = .ok (.iload_n 3, 1) := by decide +kernel
theorem dL_law_1010 : decode cL_law 1010 = .ok (.iconst 1, 1) := by decide +kernel
theorem dL_law_1011 : decode cL_law 1011 = .ok (.iadd, 1) := by decide +kernel
theorem dL_law_1012 : decode cL_law 1012 = .ok (.iaload, 1) := by decide +kernel
theorem dL_law_1013 : decode cL_law 1013 = .ok (.invokevirtual 124, 3) := by decide +kernel
theorem dL_law_1016 : decode cL_law 1016 = .ok (.aload_n 2, 1) := by decide +kernel
theorem dL_law_1017 : decode cL_law 1017 = .ok (.aload_n 0, 1) := by decide +kernel
theorem dL_law_1018 : decode cL_law 1018 = .ok (.iload_n 3, 1) := by decide +kernel
theorem dL_law_1019 : decode cL_law 1019 = .ok (.iconst 1, 1) := by decide +kernel
theorem dL_law_1020 : decode cL_law 1020 = .ok (.iadd, 1) := by decide +kernel
theorem dL_law_1021 : decode cL_law 1021 = .ok (.iaload, 1) := by decide +kernel
theorem dL_law_1022 : decode cL_law 1022 = .ok (.invokevirtual 127, 3) := by decide +kernel
theorem dL_law_1025 : decode cL_law 1025 = .ok (.if_icmp .eq 326, 3) := by decide +kernel
theorem dL_law_1028 : decode cL_law 1028 = .ok (.iconst 0, 1) := by decide +kernel
theorem dL_law_1029 : decode cL_law 1029 = .ok (.ireturn, 1) := by decide +kernel
theorem dL_law_1030 : decode cL_law 1030 = .ok (.aload_n 1, 1) := by decide +kernel
theorem dL_law_1031 : decode cL_law 1031 = .ok (.invokevirtual 128, 3) := by decide +kernel
theorem dL_law_1034 : decode cL_law 1034 = .ok (.aload_n 2, 1) := by decide +kernel
theorem dL_law_1035 : decode cL_law 1035 = .ok (.invokevirtual 131, 3) := by decide +kernel
theorem dL_law_1038 : decode cL_law 1038 = .ok (.if_icmp .eq 313, 3) := by decide +kernel
theorem dL_law_1041 : decode cL_law 1041 = .ok (.iconst 0, 1) := by decide +kernel
theorem dL_law_1042 : decode cL_law 1042 = .ok (.ireturn, 1) := by decide +kernel
theorem dL_law_1043 : decode cL_law 1043 = .ok (.aload_n 1, 1) := by decide +kernel
theorem dL_law_1044 : decode cL_law 1044 = .ok (.aload_n 0, 1) := by decide +kernel
theorem dL_law_1045 : decode cL_law 1045 = .ok (.iload_n 3, 1) := by decide +kernel
theorem dL_law_1046 : decode cL_law 1046 = .ok (.iconst 1, 1) := by decide +kernel
theorem dL_law_1047 : decode cL_law 1047 = .ok (.iadd, 1) := by decide +kernel
theorem dL_law_1048 : decode cL_law 1048 = .ok (.iaload, 1) := by decide +kernel
theorem dL_law_1049 : decode cL_law 1049 = .ok (.invokevirtual 132, 3) := by decide +kernel
theorem dL_law_1052 : decode cL_law 1052 = .ok (.aload_n 2, 1) := by decide +kernel
theorem dL_law_1053 : decode cL_law 1053 = .ok (.aload_n 0, 1) := by decide +kernel
theorem dL_law_1054 : decode cL_law 1054 = .ok (.iload_n 3, 1) := by decide +kernel
theorem dL_law_1055 : decode cL_law 1055 = .ok (.iconst 1, 1) := by decide +kernel
theorem dL_law_1056 : decode cL_law 1056 = .ok (.iadd, 1) := by decide +kernel
theorem dL_law_1057 : decode cL_law 1057 = .ok (.iaload, 1) := by decide +kernel
theorem dL_law_1058 : decode cL_law 1058 = .ok (.invokevirtual 135, 3) := by decide +kernel
theorem dL_law_1061 : decode cL_law 1061 = .ok (.if_icmp .eq 290, 3) := by decide +kernel
theorem dL_law_1064 : decode cL_law 1064 = .ok (.iconst 0, 1) := by decide +kernel
theorem dL_law_1065 : decode cL_law 1065 = .ok (.ireturn, 1) := by decide +kernel
theorem dL_law_1066 : decode cL_law 1066 = .ok (.aload_n 1, 1) := by decide +kernel
theorem dL_law_1067 : decode cL_law 1067 = .ok (.aload_n 0, 1) := by decide +kernel
theorem dL_law_1068 : decode cL_law 1068 = .ok (.iload_n 3, 1) := by decide +kernel
theorem dL_law_1069 : decode cL_law 1069 = .ok (.iconst 1, 1) := by decide +kernel
theorem dL_law_1070 : decode cL_law 1070 = .ok (.iadd, 1) := by decide +kernel
theorem dL_law_1071 : decode cL_law 1071 = .ok (.iaload, 1) := by decide +kernel
theorem dL_law_1072 : decode cL_law 1072 = .ok (.aload_n 0, 1) := by decide +kernel
theorem dL_law_1073 : decode cL_law 1073 = .ok (.iload_n 3, 1) := by decide +kernel
theorem dL_law_1074 : decode cL_law 1074 = .ok (.iconst 2, 1) := by decide +kernel
theorem dL_law_1075 : decode cL_law 1075 = .ok (.iadd, 1) := by decide +kernel
theorem dL_law_1076 : decode cL_law 1076 = .ok (.iaload, 1) := by decide +kernel
theorem dL_law_1077 : decode cL_law 1077 = .ok (.aload_n 0, 1) := by decide +kernel
theorem dL_law_1078 : decode cL_law 1078 = .ok (.iload_n 3, 1) := by decide +kernel
theorem dL_law_1079 : decode cL_law 1079 = .ok (.iconst 3, 1) := by decide +kernel
theorem dL_law_1080 : decode cL_law 1080 = .ok (.iadd, 1) := by decide +kernel
theorem dL_law_1081 : decode cL_law 1081 = .ok (.iaload, 1) := by decide +kernel
theorem dL_law_1082 : decode cL_law 1082 = .ok (.invokevirtual 136, 3) := by decide +kernel
theorem dL_law_1085 : decode cL_law 1085 = .ok (.aload_n 2, 1) := by decide +kernel
theorem dL_law_1086 : decode cL_law 1086 = .ok (.aload_n 0, 1) := by decide +kernel
theorem dL_law_1087 : decode cL_law 1087 = .ok (.iload_n 3, 1) := by decide +kernel
theorem dL_law_1088 : decode cL_law 1088 = .ok (.iconst 1, 1) := by decide +kernel
theorem dL_law_1089 : decode cL_law 1089 = .ok (.iadd, 1) := by decide +kernel
theorem dL_law_1090 : decode cL_law 1090 = .ok (.iaload, 1) := by decide +kernel
theorem dL_law_1091 : decode cL_law 1091 = .ok (.aload_n 0, 1) := by decide +kernel
theorem dL_law_1092 : decode cL_law 1092 = .ok (.iload_n 3, 1) := by decide +kernel
theorem dL_law_1093 : decode cL_law 1093 = .ok (.iconst 2, 1) := by decide +kernel
theorem dL_law_1094 : decode cL_law 1094 = .ok (.iadd, 1) := by decide +kernel
theorem dL_law_1095 : decode cL_law 1095 = .ok (.iaload, 1) := by decide +kernel
theorem dL_law_1096 : decode cL_law 1096 = .ok (.aload_n 0, 1) := by decide +kernel
theorem dL_law_1097 : decode cL_law 1097 = .ok (.iload_n 3, 1) := by decide +kernel
theorem dL_law_1098 : decode cL_law 1098 = .ok (.iconst 3, 1) := by decide +kernel
theorem dL_law_1099 : decode cL_law 1099 = .ok (.iadd, 1) := by decide +kernel
theorem dL_law_1100 : decode cL_law 1100 = .ok (.iaload, 1) := by decide +kernel
theorem dL_law_1101 : decode cL_law 1101 = .ok (.invokevirtual 139, 3) := by decide +kernel
theorem dL_law_1104 : decode cL_law 1104 = .ok (.if_icmp .eq 247, 3) := by decide +kernel
theorem dL_law_1107 : decode cL_law 1107 = .ok (.iconst 0, 1) := by decide +kernel
theorem dL_law_1108 : decode cL_law 1108 = .ok (.ireturn, 1) := by decide +kernel
theorem dL_law_1109 : decode cL_law 1109 = .ok (.aload_n 1, 1) := by decide +kernel
theorem dL_law_1110 : decode cL_law 1110 = .ok (.aload_n 0, 1) := by decide +kernel
theorem dL_law_1111 : decode cL_law 1111 = .ok (.iload_n 3, 1) := by decide +kernel
theorem dL_law_1112 : decode cL_law 1112 = .ok (.iconst 1, 1) := by decide +kernel
theorem dL_law_1113 : decode cL_law 1113 = .ok (.iadd, 1) := by decide +kernel
theorem dL_law_1114 : decode cL_law 1114 = .ok (.iaload, 1) := by decide +kernel
theorem dL_law_1115 : decode cL_law 1115 = .ok (.invokevirtual 140, 3) := by decide +kernel
theorem dL_law_1118 : decode cL_law 1118 = .ok (.aload_n 2, 1) := by decide +kernel
theorem dL_law_1119 : decode cL_law 1119 = .ok (.aload_n 0, 1) := by decide +kernel
theorem dL_law_1120 : decode cL_law 1120 = .ok (.iload_n 3, 1) := by decide +kernel
theorem dL_law_1121 : decode cL_law 1121 = .ok (.iconst 1, 1) := by decide +kernel
theorem dL_law_1122 : decode cL_law 1122 = .ok (.iadd, 1) := by decide +kernel
theorem dL_law_1123 : decode cL_law 1123 = .ok (.iaload, 1) := by decide +kernel
theorem dL_law_1124 : decode cL_law 1124 = .ok (.invokevirtual 143, 3) := by decide +kernel
theorem dL_law_1127 : decode cL_law 1127 = .ok (.if_icmp .eq 224, 3) := by decide +kernel
theorem dL_law_1130 : decode cL_law 1130 = .ok (.iconst 0, 1) := by decide +kernel
theorem dL_law_1131 : decode cL_law 1131 = .ok (.ireturn, 1) := by decide +kernel
theorem dL_law_1132 : decode cL_law 1132 = .ok (.aload_n 1, 1) := by decide +kernel
theorem dL_law_1133 : decode cL_law 1133 = .ok (.aload_n 0, 1) := by decide +kernel
theorem dL_law_1134 : decode cL_law 1134 = .ok (.iload_n 3, 1) := by decide +kernel
theorem dL_law_1135 : decode cL_law 1135 = .ok (.iconst 1, 1) := by decide +kernel
theorem dL_law_1136 : decode cL_law 1136 = .ok (.iadd, 1) := by decide +kernel
theorem dL_law_1137 : decode cL_law 1137 = .ok (.iaload, 1) := by decide +kernel
theorem dL_law_1138 : decode cL_law 1138 = .ok (.aload_n 0, 1) := by decide +kernel
theorem dL_law_1139 : decode cL_law 1139 = .ok (.iload_n 3, 1) := by decide +kernel
theorem dL_law_1140 : decode cL_law 1140 = .ok (.iconst 2, 1) := by decide +kernel
theorem dL_law_1141 : decode cL_law 1141 = .ok (.iadd, 1) := by decide +kernel
theorem dL_law_1142 : decode cL_law 1142 = .ok (.iaload, 1) := by decide +kernel
theorem dL_law_1143 : decode cL_law 1143 = .ok (.aload_n 0, 1) := by decide +kernel
theorem dL_law_1144 : decode cL_law 1144 = .ok (.iload_n 3, 1) := by decide +kernel
theorem dL_law_1145 : decode cL_law 1145 = .ok (.iconst 3, 1) := by decide +kernel
theorem dL_law_1146 : decode cL_law 1146 = .ok (.iadd, 1) := by decide +kernel
theorem dL_law_1147 : decode cL_law 1147 = .ok (.iaload, 1) := by decide +kernel
theorem dL_law_1148 : decode cL_law 1148 = .ok (.aload_n 0, 1) := by decide +kernel
theorem dL_law_1149 : decode cL_law 1149 = .ok (.iload_n 3, 1) := by decide +kernel
theorem dL_law_1150 : decode cL_law 1150 = .ok (.iconst 4, 1) := by decide +kernel
theorem dL_law_1151 : decode cL_law 1151 = .ok (.iadd, 1) := by decide +kernel
theorem dL_law_1152 : decode cL_law 1152 = .ok (.iaload, 1) := by decide +kernel
theorem dL_law_1153 : decode cL_law 1153 = .ok (.invokevirtual 144, 3) := by decide +kernel
theorem dL_law_1156 : decode cL_law 1156 = .ok (.aload_n 2, 1) := by decide +kernel
theorem dL_law_1157 : decode cL_law 1157 = .ok (.aload_n 0, 1) := by decide +kernel
theorem dL_law_1158 : decode cL_law 1158 = .ok (.iload_n 3, 1) := by decide +kernel
theorem dL_law_1159 : decode cL_law 1159 = .ok (.iconst 1, 1) := by decide +kernel
theorem dL_law_1160 : decode cL_law 1160 = .ok (.iadd, 1) := by decide +kernel
theorem dL_law_1161 : decode cL_law 1161 = .ok (.iaload, 1) := by decide +kernel
theorem dL_law_1162 : decode cL_law 1162 = .ok (.aload_n 0, 1) := by decide +kernel
theorem dL_law_1163 : decode cL_law 1163 = .ok (.iload_n 3, 1) := by decide +kernel
theorem dL_law_1164 : decode cL_law 1164 = .ok (.iconst 2, 1) := by decide +kernel
theorem dL_law_1165 : decode cL_law 1165 = .ok (.iadd, 1) := by decide +kernel
theorem dL_law_1166 : decode cL_law 1166 = .ok (.iaload, 1) := by decide +kernel
theorem dL_law_1167 : decode cL_law 1167 = .ok (.aload_n 0, 1) := by decide +kernel
theorem dL_law_1168 : decode cL_law 1168 = .ok (.iload_n 3, 1) := by decide +kernel
theorem dL_law_1169 : decode cL_law 1169 = .ok (.iconst 3, 1) := by decide +kernel
theorem dL_law_1170 : decode cL_law 1170 = .ok (.iadd, 1) := by decide +kernel
theorem dL_law_1171 : decode cL_law 1171 = .ok (.iaload, 1) := by decide +kernel
theorem dL_law_1172 : decode cL_law 1172 = .ok (.aload_n 0, 1) := by decide +kernel
theorem dL_law_1173 : decode cL_law 1173 = .ok (.iload_n 3, 1) := by decide +kernel
theorem dL_law_1174 : decode cL_law 1174 = .ok (.iconst 4, 1) := by decide +kernel
theorem dL_law_1175 : decode cL_law 1175 = .ok (.iadd, 1) := by decide +kernel
theorem dL_law_1176 : decode cL_law 1176 = .ok (.iaload, 1) := by decide +kernel
theorem dL_law_1177 : decode cL_law 1177 = .ok (.invokevirtual 147, 3) := by decide +kernel
theorem dL_law_1180 : decode cL_law 1180 = .ok (.if_icmp .eq 171, 3) := by decide +kernel
theorem dL_law_1183 : decode cL_law 1183 = .ok (.iconst 0, 1) := by decide +kernel
theorem dL_law_1184 : decode cL_law 1184 = .ok (.ireturn, 1) := by decide +kernel
theorem dL_law_1185 : decode cL_law 1185 = .ok (.aload_n 1, 1) := by decide +kernel
theorem dL_law_1186 : decode cL_law 1186 = .ok (.aload_n 0, 1) := by decide +kernel
theorem dL_law_1187 : decode cL_law 1187 = .ok (.iload_n 3, 1) := by decide +kernel
theorem dL_law_1188 : decode cL_law 1188 = .ok (.iconst 1, 1) := by decide +kernel
theorem dL_law_1189 : decode cL_law 1189 = .ok (.iadd, 1) := by decide +kernel
theorem dL_law_1190 : decode cL_law 1190 = .ok (.iaload, 1) := by decide +kernel
theorem dL_law_1191 : decode cL_law 1191 = .ok (.aload_n 0, 1) := by decide +kernel
theorem dL_law_1192 : decode cL_law 1192 = .ok (.iload_n 3, 1) := by decide +kernel
theorem dL_law_1193 : decode cL_law 1193 = .ok (.iconst 2, 1) := by decide +kernel
theorem dL_law_1194 : decode cL_law 1194 = .ok (.iadd, 1) := by decide +kernel
theorem dL_law_1195 : decode cL_law 1195 = .ok (.iaload, 1) := by decide +kernel
theorem dL_law_1196 : decode cL_law 1196 = .ok (.aload_n 0, 1) := by decide +kernel
theorem dL_law_1197 : decode cL_law 1197 = .ok (.iload_n 3, 1) := by decide +kernel
theorem dL_law_1198 : decode cL_law 1198 = .ok (.iconst 3, 1) := by decide +kernel
theorem dL_law_1199 : decode cL_law 1199 = .ok (.iadd, 1) := by decide +kernel
theorem dL_law_1200 : decode cL_law 1200 = .ok (.iaload, 1) := by decide +kernel
theorem dL_law_1201 : decode cL_law 1201 = .ok (.invokevirtual 148, 3) := by decide +kernel
theorem dL_law_1204 : decode cL_law 1204 = .ok (.aload_n 2, 1) := by decide +kernel
theorem dL_law_1205 : decode cL_law 1205 = .ok (.aload_n 0, 1) := by decide +kernel
theorem dL_law_1206 : decode cL_law 1206 = .ok (.iload_n 3, 1) := by decide +kernel
theorem dL_law_1207 : decode cL_law 1207 = .ok (.iconst 1, 1) := by decide +kernel
theorem dL_law_1208 : decode cL_law 1208 = .ok (.iadd, 1) := by decide +kernel
theorem dL_law_1209 : decode cL_law 1209 = .ok (.iaload, 1) := by decide +kernel
theorem dL_law_1210 : decode cL_law 1210 = .ok (.aload_n 0, 1) := by decide +kernel
theorem dL_law_1211 : decode cL_law 1211 = .ok (.iload_n 3, 1) := by decide +kernel
theorem dL_law_1212 : decode cL_law 1212 = .ok (.iconst 2, 1) := by decide +kernel
theorem dL_law_1213 : decode cL_law 1213 = .ok (.iadd, 1) := by decide +kernel
theorem dL_law_1214 : decode cL_law 1214 = .ok (.iaload, 1) := by decide +kernel
theorem dL_law_1215 : decode cL_law 1215 = .ok (.aload_n 0, 1) := by decide +kernel
theorem dL_law_1216 : decode cL_law 1216 = .ok (.iload_n 3, 1) := by decide +kernel
theorem dL_law_1217 : decode cL_law 1217 = .ok (.iconst 3, 1) := by decide +kernel
theorem dL_law_1218 : decode cL_law 1218 = .ok (.iadd, 1) := by decide +kernel
theorem dL_law_1219 : decode cL_law 1219 = .ok (.iaload, 1) := by decide +kernel
theorem dL_law_1220 : decode cL_law 1220 = .ok (.invokevirtual 151, 3) := by decide +kernel
theorem dL_law_1223 : decode cL_law 1223 = .ok (.if_icmp .eq 128, 3) := by decide +kernel
theorem dL_law_1226 : decode cL_law 1226 = .ok (.iconst 0, 1) := by decide +kernel
theorem dL_law_1227 : decode cL_law 1227 = .ok (.ireturn, 1) := by decide +kernel
theorem dL_law_1228 : decode cL_law 1228 = .ok (.aload_n 1, 1) := by decide +kernel
theorem dL_law_1229 : decode cL_law 1229 = .ok (.aload_n 0, 1) := by decide +kernel
theorem dL_law_1230 : decode cL_law 1230 = .ok (.iload_n 3, 1) := by decide +kernel
theorem dL_law_1231 : decode cL_law 1231 = .ok (.iconst 1, 1) := by decide +kernel
theorem dL_law_1232 : decode cL_law 1232 = .ok (.iadd, 1) := by decide +kernel
theorem dL_law_1233 : decode cL_law 1233 = .ok (.iaload, 1) := by decide +kernel
theorem dL_law_1234 : decode cL_law 1234 = .ok (.aload_n 0, 1) := by decide +kernel
theorem dL_law_1235 : decode cL_law 1235 = .ok (.iload_n 3, 1) := by decide +kernel
theorem dL_law_1236 : decode cL_law 1236 = .ok (.iconst 2, 1) := by decide +kernel
theorem dL_law_1237 : decode cL_law 1237 = .ok (.iadd, 1) := by decide +kernel
theorem dL_law_1238 : decode cL_law 1238 = .ok (.iaload, 1) := by decide +kernel
theorem dL_law_1239 : decode cL_law 1239 = .ok (.aload_n 0, 1) := by decide +kernel
theorem dL_law_1240 : decode cL_law 1240 = .ok (.iload_n 3, 1) := by decide +kernel
theorem dL_law_1241 : decode cL_law 1241 = .ok (.iconst 3, 1) := by decide +kernel
theorem dL_law_1242 : decode cL_law 1242 = .ok (.iadd, 1) := by decide +kernel
theorem dL_law_1243 : decode cL_law 1243 = .ok (.iaload, 1) := by decide +kernel
theorem dL_law_1244 : decode cL_law 1244 = .ok (.aload_n 0, 1) := by decide +kernel
theorem dL_law_1245 : decode cL_law 1245 = .ok (.iload_n 3, 1) := by decide +kernel
theorem dL_law_1246 : decode cL_law 1246 = .ok (.iconst 4, 1) := by decide +kernel
theorem dL_law_1247 : decode cL_law 1247 = .ok (.iadd, 1) := by decide +kernel
theorem dL_law_1248 : decode cL_law 1248 = .ok (.iaload, 1) := by decide +kernel
theorem dL_law_1249 : decode cL_law 1249 = .ok (.aload_n 0, 1) := by decide +kernel
theorem dL_law_1250 : decode cL_law 1250 = .ok (.iload_n 3, 1) := by decide +kernel
theorem dL_law_1251 : decode cL_law 1251 = .ok (.iconst 5, 1) := by decide +kernel
theorem dL_law_1252 : decode cL_law 1252 = .ok (.iadd, 1) := by decide +kernel
theorem dL_law_1253 : decode cL_law 1253 = .ok (.iaload, 1) := by decide +kernel
theorem dL_law_1254 : decode cL_law 1254 = .ok (.invokevirtual 152, 3) := by decide +kernel
theorem dL_law_1257 : decode cL_law 1257 = .ok (.aload_n 2, 1) := by decide +kernel
theorem dL_law_1258 : decode cL_law 1258 = .ok (.aload_n 0, 1) := by decide +kernel
theorem dL_law_1259 : decode cL_law 1259 = .ok (.iload_n 3, 1) := by decide +kernel
theorem dL_law_1260 : decode cL_law 1260 = .ok (.iconst 1, 1) := by decide +kernel
theorem dL_law_1261 : decode cL_law 1261 = .ok (.iadd, 1) := by decide +kernel
theorem dL_law_1262 : decode cL_law 1262 = .ok (.iaload, 1) := by decide +kernel
theorem dL_law_1263 : decode cL_law 1263 = .ok (.aload_n 0, 1) := by decide +kernel
theorem dL_law_1264 : decode cL_law 1264 = .ok (.iload_n 3, 1) := by decide +kernel
theorem dL_law_1265 : decode cL_law 1265 = .ok (.iconst 2, 1) := by decide +kernel
theorem dL_law_1266 : decode cL_law 1266 = .ok (.iadd, 1) := by decide +kernel
theorem dL_law_1267 : decode cL_law 1267 = .ok (.iaload, 1) := by decide +kernel
theorem dL_law_1268 : decode cL_law 1268 = .ok (.aload_n 0, 1) := by decide +kernel
theorem dL_law_1269 : decode cL_law 1269 = .ok (.iload_n 3, 1) := by decide +kernel
theorem dL_law_1270 : decode cL_law 1270 = .ok (.iconst 3, 1) := by decide +kernel
theorem dL_law_1271 : decode cL_law 1271 = .ok (.iadd, 1) := by decide +kernel
theorem dL_law_1272 : decode cL_law 1272 = .ok (.iaload, 1) := by decide +kernel
theorem dL_law_1273 : decode cL_law 1273 = .ok (.aload_n 0, 1) := by decide +kernel
theorem dL_law_1274 : decode cL_law 1274 = .ok (.iload_n 3, 1) := by decide +kernel
theorem dL_law_1275 : decode cL_law 1275 = .ok (.iconst 4, 1) := by decide +kernel
theorem dL_law_1276 : decode cL_law 1276 = .ok (.iadd, 1) := by decide +kernel
theorem dL_law_1277 : decode cL_law 1277 = .ok (.iaload, 1) := by decide +kernel
theorem dL_law_1278 : decode cL_law 1278 = .ok (.aload_n 0, 1) := by decide +kernel
theorem dL_law_1279 : decode cL_law 1279 = .ok (.iload_n 3, 1) := by decide +kernel
theorem dL_law_1280 : decode cL_law 1280 = .ok (.iconst 5, 1) := by decide +kernel
theorem dL_law_1281 : decode cL_law 1281 = .ok (.iadd, 1) := by decide +kernel
theorem dL_law_1282 : decode cL_law 1282 = .ok (.iaload, 1) := by decide +kernel
theorem dL_law_1283 : decode cL_law 1283 = .ok (.invokevirtual 156, 3) := by decide +kernel
theorem dL_law_1286 : decode cL_law 1286 = .ok (.if_icmp .eq 65, 3) := by decide +kernel
theorem dL_law_1289 : decode cL_law 1289 = .ok (.iconst 0, 1) := by decide +kernel
theorem dL_law_1290 : decode cL_law 1290 = .ok (.ireturn, 1) := by decide +kernel
theorem dL_law_1291 : decode cL_law 1291 = .ok (.aload_n 1, 1) := by decide +kernel
theorem dL_law_1292 : decode cL_law 1292 = .ok (.aload_n 0, 1) := by decide +kernel
theorem dL_law_1293 : decode cL_law 1293 = .ok (.iload_n 3, 1) := by decide +kernel
theorem dL_law_1294 : decode cL_law 1294 = .ok (.iconst 1, 1) := by decide +kernel
theorem dL_law_1295 : decode cL_law 1295 = .ok (.iadd, 1) := by decide +kernel
theorem dL_law_1296 : decode cL_law 1296 = .ok (.iaload, 1) := by decide +kernel
theorem dL_law_1297 : decode cL_law 1297 = .ok (.invokevirtual 157, 3) := by decide +kernel
theorem dL_law_1300 : decode cL_law 1300 = .ok (.aload_n 2, 1) := by decide +kernel
theorem dL_law_1301 : decode cL_law 1301 = .ok (.aload_n 0, 1) := by decide +kernel
theorem dL_law_1302 : decode cL_law 1302 = .ok (.iload_n 3, 1) := by decide +kernel
theorem dL_law_1303 : decode cL_law 1303 = .ok (.iconst 1, 1) := by decide +kernel
theorem dL_law_1304 : decode cL_law 1304 = .ok (.iadd, 1) := by decide +kernel
theorem dL_law_1305 : decode cL_law 1305 = .ok (.iaload, 1) := by decide +kernel
theorem dL_law_1306 : decode cL_law 1306 = .ok (.invokevirtual 160, 3) := by decide +kernel
theorem dL_law_1309 : decode cL_law 1309 = .ok (.if_icmp .eq 42, 3) := by decide +kernel
theorem dL_law_1312 : decode cL_law 1312 = .ok (.iconst 0, 1) := by decide +kernel
theorem dL_law_1313 : decode cL_law 1313 = .ok (.ireturn, 1) := by decide +kernel
theorem dL_law_1314 : decode cL_law 1314 = .ok (.aload_n 1, 1) := by decide +kernel
theorem dL_law_1315 : decode cL_law 1315 = .ok (.aload_n 0, 1) := by decide +kernel
theorem dL_law_1316 : decode cL_law 1316 = .ok (.iload_n 3, 1) := by decide +kernel
theorem dL_law_1317 : decode cL_law 1317 = .ok (.iconst 1, 1) := by decide +kernel
theorem dL_law_1318 : decode cL_law 1318 = .ok (.iadd, 1) := by decide +kernel
theorem dL_law_1319 : decode cL_law 1319 = .ok (.iaload, 1) := by decide +kernel
theorem dL_law_1320 : decode cL_law 1320 = .ok (.invokevirtual 161, 3) := by decide +kernel
theorem dL_law_1323 : decode cL_law 1323 = .ok (.aload_n 2, 1) := by decide +kernel
theorem dL_law_1324 : decode cL_law 1324 = .ok (.aload_n 0, 1) := by decide +kernel
theorem dL_law_1325 : decode cL_law 1325 = .ok (.iload_n 3, 1) := by decide +kernel
theorem dL_law_1326 : decode cL_law 1326 = .ok (.iconst 1, 1) := by decide +kernel
theorem dL_law_1327 : decode cL_law 1327 = .ok (.iadd, 1) := by decide +kernel
theorem dL_law_1328 : decode cL_law 1328 = .ok (.iaload, 1) := by decide +kernel
theorem dL_law_1329 : decode cL_law 1329 = .ok (.invokevirtual 164, 3) := by decide +kernel
theorem dL_law_1332 : decode cL_law 1332 = .ok (.if_icmp .eq 19, 3) := by decide +kernel
theorem dL_law_1335 : decode cL_law 1335 = .ok (.iconst 0, 1) := by decide +kernel
theorem dL_law_1336 : decode cL_law 1336 = .ok (.ireturn, 1) := by decide +kernel
theorem dL_law_1337 : decode cL_law 1337 = .ok (.aload_n 1, 1) := by decide +kernel
theorem dL_law_1338 : decode cL_law 1338 = .ok (.invokevirtual 165, 3) := by decide +kernel
theorem dL_law_1341 : decode cL_law 1341 = .ok (.aload_n 2, 1) := by decide +kernel
theorem dL_law_1342 : decode cL_law 1342 = .ok (.invokevirtual 168, 3) := by decide +kernel
theorem dL_law_1345 : decode cL_law 1345 = .ok (.lcmp, 1) := by decide +kernel
theorem dL_law_1346 : decode cL_law 1346 = .ok (.ifCond .eq 5, 3) := by decide +kernel
theorem dL_law_1349 : decode cL_law 1349 = .ok (.iconst 0, 1) := by decide +kernel
theorem dL_law_1350 : decode cL_law 1350 = .ok (.ireturn, 1) := by decide +kernel
theorem dL_law_1351 : decode cL_law 1351 = .ok (.iinc 3 6, 3) := by decide +kernel
theorem dL_law_1354 : decode cL_law 1354 = .ok (.goto (-1336), 3) := by decide +kernel
theorem dL_law_1357 : decode cL_law 1357 = .ok (.iconst 1, 1) := by decide +kernel
theorem dL_law_1358 : decode cL_law 1358 = .ok (.ireturn, 1) := by decide +kernel
end
section
/-! ===== the world: 53 cells, at addresses that are variables; the class's are 0 to 33, the reference's 34 to 52 ===== -/
/-- ints and longs, by cell and place (of an object: by field) -/
abbrev xS : Type := (Nat → Nat → Int32) × (Nat → Nat → Int64)
def xst (S : xS) (q k : Nat) (v : Int32) : xS := (fun a b => if a = q ∧ b = k then v else S.1 a b, S.2)
def xsl (S : xS) (q k : Nat) (v : Int64) : xS := (S.1, fun a b => if a = q ∧ b = k then v else S.2 a b)
def xsf (S : xS) (q : Nat) (f : Nat → Int32) : xS := (fun a b => if a = q then f b else S.1 a b, S.2)
/-- D, the arrays' classes, the addresses -/
abbrev xG : Type := va_G × (Nat → ClassId) × (Nat → Nat)
/-- of each cell: its kind (0 ints, 1 longs, 2 booleans, 3 references, 4 an object), its length or class, its fields: none a number, some r the cell r -/
def xlays : List (Nat × Nat × List (Option Nat)) := [
  (4, 8, [some 1, some 4, some 9, some 15, some 18, some 20, some 22, some 24, some 33, none]),
  (4, 2, [some 2, some 3]), (0, 3, []), (0, 3, []),
  (4, 4, [some 5, none, none, none, some 6, some 7, some 8, none]), (0, 80, []), (0, 10, []), (0, 10, []), (0, 10, []),
  (4, 7, [some 1, some 4, some 10, some 11, some 12, some 13, some 14]), (0, 10, []), (0, 10, []), (0, 10, []), (0, 11, []), (0, 11, []),
  (4, 0, [some 1, some 9, some 16, some 17]), (0, 10, []), (1, 9, []),
  (4, 5, [some 19]), (0, 11, []),
  (4, 3, [some 21]), (0, 10, []),
  (4, 1, [some 9, some 23]), (0, 10, []),
  (3, 4, [some 25, some 26, some 27, some 28]),
  (4, 6, [some 29, none, none]), (4, 6, [some 30, none, none]), (4, 6, [some 31, none, none]), (4, 6, [some 32, none, none]),
  (0, 48, []), (0, 48, []), (0, 48, []), (0, 48, []),
  (0, 4, []),
  (4, 9, [some 35, some 36, some 37, none, some 38, none, some 39, some 40, some 41, some 42, some 43, some 44, some 45, some 46, some 47, some 48, some 49, some 50, some 51, some 52, none]),
  (0, 3, []), (0, 3, []), (0, 4, []), (0, 80, []), (0, 11, []), (0, 11, []), (0, 10, []), (0, 10, []), (0, 11, []), (0, 10, []), (1, 9, []), (1, 9, []), (0, 10, []), (2, 4, []), (0, 4, []), (0, 4, []), (0, 192, []), (0, 48, [])]
def xlay (q : Nat) : Nat × Nat × List (Option Nat) := xlays.getD q (0, 0, [])
/-- a sheet's cell -/
def xsh (q : Nat) : Bool := decide (25 ≤ q ∧ q < 29)
theorem xsh_lay {q : Nat} (h : xsh q = true) : xlay q = (4, 6, [some (q + 4), none, none]) := by
  have h := of_decide_eq_true h
  rcases (show q = 25 ∨ q = 26 ∨ q = 27 ∨ q = 28 by omega) with rfl | rfl | rfl | rfl <;> rfl
theorem xsh_it {q : Nat} (h : xsh q = true) : xlay (q + 4) = (0, 48, []) := by
  have h := of_decide_eq_true h
  rcases (show q = 25 ∨ q = 26 ∨ q = 27 ∨ q = 28 by omega) with rfl | rfl | rfl | rfl <;> rfl
theorem xsh_lt {q : Nat} (h : xsh q = true) : q < 53 := by have h := of_decide_eq_true h; omega
theorem xsh_lt4 {q : Nat} (h : xsh q = true) : q + 4 < 53 := by have h := of_decide_eq_true h; omega
/-- an index is in range -/
def xin (i : Int32) (n : Nat) : Bool := decide (0 ≤ i.toInt ∧ i.toInt < n)
theorem xin_in {i : Int32} {n : Nat} (h : xin i n = true) : vp_in i n := vp_in_iff.mpr (of_decide_eq_true h)
theorem xsh_of {i : Int32} (h : xin i 4 = true) : xsh (25 + i.toNatClampNeg) = true := by
  have h := of_decide_eq_true h
  have e : i.toNatClampNeg = i.toInt.toNat := rfl
  refine decide_eq_true ?_
  omega
def xfs (ad : Nat → Nat) (S : xS) (q : Nat) (fs : List (Option Nat)) : List Value := fs.mapIdx (fun k f => match f with | none => .int (S.1 q k) | some r => .ref (ad r))
def xcellL (G : xG) (S : xS) (q : Nat) (L : Nat × Nat × List (Option Nat)) : va_E :=
  if L.1 = 0 then .inl (G.2.1 0, L.2.1, .inl (S.1 q))
  else if L.1 = 1 then .inl (G.2.1 1, L.2.1, .inr (.inl (S.2 q)))
  else if L.1 = 2 then .inl (G.2.1 2, L.2.1, .inl (S.1 q))
  else if L.1 = 3 then .inl (G.2.1 3, L.2.1, .inr (.inr (.inr (.inr (fun j => (L.2.2.getD j none).map G.2.2)))))
  else .inr (L.2.1, xfs G.2.2 S q L.2.2)
def xcell (G : xG) (S : xS) (q : Nat) : va_E := xcellL G S q (xlay q)
def xW (G : xG) (S : xS) : va_W := (List.range 53).map (fun q => (G.2.2 q, xcell G S q))
theorem xW_at {G : xG} {S : xS} {q : Nat} (hq : q < 53) : (xW G S)[q]? = some (G.2.2 q, xcell G S q) := by
  simp [xW, hq]
theorem xW_lt {G : xG} {S : xS} {q : Nat} {x : Nat × va_E} (h : (xW G S)[q]? = some x) : q < 53 ∧ x = (G.2.2 q, xcell G S q) := by
  have hl : q < 53 := by
    have := (List.getElem?_eq_some_iff.mp h).1
    simpa [xW] using this
  refine ⟨hl, ?_⟩
  rw [xW_at hl] at h
  exact (Option.some.inj h).symm
theorem xcell_congr {G : xG} {S S' : xS} {q : Nat} (h1 : S'.1 q = S.1 q) (h2 : S'.2 q = S.2 q) : xcell G S' q = xcell G S q := by
  unfold xcell xcellL xfs
  rw [h1, h2]
theorem xW_set {G : xG} {S S' : xS} {q : Nat} (hq : q < 53) (h1 : ∀ a, a ≠ q → S'.1 a = S.1 a) (h2 : ∀ a, a ≠ q → S'.2 a = S.2 a) : (xW G S).set q (G.2.2 q, xcell G S' q) = xW G S' := by
  apply List.ext_getElem?
  intro k
  by_cases hk : k = q
  · subst hk
    rw [List.getElem?_set_self (by simpa [xW] using hq), xW_at hq]
  · rw [List.getElem?_set_ne (Ne.symm hk)]
    by_cases hl : k < 53
    · rw [xW_at hl, xW_at hl, xcell_congr (h1 k hk) (h2 k hk)]
    · rw [List.getElem?_eq_none (by simp [xW]; omega), List.getElem?_eq_none (by simp [xW]; omega)]
theorem xst_ne {S : xS} {q k a : Nat} {v : Int32} (h : a ≠ q) : (xst S q k v).1 a = S.1 a := by
  funext b
  simp [xst, h]
theorem xsl_ne {S : xS} {q k a : Nat} {v : Int64} (h : a ≠ q) : (xsl S q k v).2 a = S.2 a := by
  funext b
  simp [xsl, h]
theorem xsf_ne {S : xS} {q a : Nat} {f : Nat → Int32} (h : a ≠ q) : (xsf S q f).1 a = S.1 a := by
  funext b
  simp [xsf, h]
theorem xst_at (S : xS) (q k : Nat) (v : Int32) : (xst S q k v).1 q = upd (S.1 q) k v := by
  funext b
  simp [xst, upd]
theorem xsl_at (S : xS) (q k : Nat) (v : Int64) : (xsl S q k v).2 q = vp_updL (S.2 q) k v := by
  funext b
  simp [xsl, vp_updL]
theorem xsf_at (S : xS) (q : Nat) (f : Nat → Int32) : (xsf S q f).1 q = f := by
  funext b
  simp [xsf]
theorem xc_i {G : xG} {S : xS} {q n : Nat} {fs : List (Option Nat)} (h : xlay q = (0, n, fs)) : xcell G S q = .inl (G.2.1 0, n, .inl (S.1 q)) := by
  unfold xcell
  rw [h]
  rfl
theorem xc_l {G : xG} {S : xS} {q n : Nat} {fs : List (Option Nat)} (h : xlay q = (1, n, fs)) : xcell G S q = .inl (G.2.1 1, n, .inr (.inl (S.2 q))) := by
  unfold xcell
  rw [h]
  rfl
theorem xc_z {G : xG} {S : xS} {q n : Nat} {fs : List (Option Nat)} (h : xlay q = (2, n, fs)) : xcell G S q = .inl (G.2.1 2, n, .inl (S.1 q)) := by
  unfold xcell
  rw [h]
  rfl
theorem xc_r {G : xG} {S : xS} {q n : Nat} {fs : List (Option Nat)} (h : xlay q = (3, n, fs)) : xcell G S q = .inl (G.2.1 3, n, .inr (.inr (.inr (.inr (fun j => (fs.getD j none).map G.2.2))))) := by
  unfold xcell
  rw [h]
  rfl
theorem xc_o {G : xG} {S : xS} {q ci : Nat} {fs : List (Option Nat)} (h : xlay q = (4, ci, fs)) : xcell G S q = .inr (ci, xfs G.2.2 S q fs) := by
  unfold xcell
  rw [h]
  rfl
theorem xfs_i {ad : Nat → Nat} {S : xS} {q k : Nat} {fs : List (Option Nat)} (h : fs[k]? = some none) : (xfs ad S q fs)[k]? = some (.int (S.1 q k)) := by
  unfold xfs
  rw [List.getElem?_mapIdx, h]
  rfl
theorem xfs_r {ad : Nat → Nat} {S : xS} {q k r : Nat} {fs : List (Option Nat)} (h : fs[k]? = some (some r)) : (xfs ad S q fs)[k]? = some (.ref (ad r)) := by
  unfold xfs
  rw [List.getElem?_mapIdx, h]
  rfl
theorem xfs_set {ad : Nat → Nat} {S : xS} {q k : Nat} {v : Int32} {fs : List (Option Nat)} (h : fs[k]? = some none) : (xfs ad S q fs).set k (.int v) = xfs ad (xst S q k v) q fs := by
  apply List.ext_getElem?
  intro j
  by_cases hj : j = k
  · subst hj
    have hl : j < (xfs ad S q fs).length := by
      unfold xfs
      rw [List.length_mapIdx]
      exact (List.getElem?_eq_some_iff.mp h).1
    rw [List.getElem?_set_self hl, xfs_i h]
    simp [xst]
  · rw [List.getElem?_set_ne (Ne.symm hj)]
    unfold xfs
    rw [List.getElem?_mapIdx, List.getElem?_mapIdx]
    cases fs[j]? with
    | none => rfl
    | some f =>
      cases f with
      | none => simp [xst, hj]
      | some r => rfl
theorem xfs_len {ad : Nat → Nat} {S : xS} {q k : Nat} {fs : List (Option Nat)} {f : Option Nat} (h : fs[k]? = some f) : k < (xfs ad S q fs).length := by
  unfold xfs
  rw [List.length_mapIdx]
  exact (List.getElem?_eq_some_iff.mp h).1
def xA (G : xG) : Nat → Prop := fun a => ∃ q, q < 53 ∧ a = G.2.2 q
def xInj (G : xG) : Prop := ∀ i j : Nat, i < 53 → j < 53 → G.2.2 i = G.2.2 j → i = j
theorem xD {G : xG} (h : xInj G) (S : xS) : va_D (xA G) (xW G S) := by
  refine ⟨fun i j p q hi hj e => ?_, fun k q hk => ?_⟩
  · obtain ⟨li, rfl⟩ := xW_lt hi
    obtain ⟨lj, rfl⟩ := xW_lt hj
    exact h i j li lj e
  · obtain ⟨lk, rfl⟩ := xW_lt hk
    exact ⟨k, lk, rfl⟩
def xtys (G : xG) : List (ClassId × FieldType) := [(G.2.1 0, .int), (G.2.1 1, .long), (G.2.1 2, .boolean), (G.2.1 3, .object "ThreeMasters$Sheet")]
/-- what links a nest mate's private members -/
def xnF : List (String × Nat × String × String × String) := [
  (RX8, 101, RX4, "fault", "I"), (RX8, 108, RX7, "meant", "[I"), (RX8, 121, RX0, "heights", "[I"), (RX8, 124, RX7, "shims", "[I"), (RX8, 143, RX7, "sills", "[I"), (RX8, 146, RX7, "shoulds", "[I"), (RX8, 152, RX4, "floors", "I"), (RX8, 184, RX6, "size", "I"), (RX8, 191, RX6, "items", "[I"), (RX8, 205, RX5, "leaning", "[I"), (RX8, 222, RX3, "row", "[I"), (RX8, 228, RX1, "weights", "[I"), (RX8, 270, RX6, "form", "I"), (RX8, 90, RX4, "length", "I"), (RX0, 33, RX7, "meant", "[I"), (RX7, 35, RX4, "floors", "I"), (RX7, 41, RX2, "sizes", "[I"), (RX7, 46, RX4, "unit", "[I"), (RX7, 49, RX4, "twelfths", "[I")]
def xnM : List (String × Nat × MethodName) := [(RX8, 15, yX2_init), (RX8, 22, yX4_init), (RX8, 47, yX5_init), (RX8, 54, yX3_init), (RX8, 74, yX6_init), (RX4, 68, yX8_within), (RX6, 28, yX8_within)]
def xN (U : State) : Prop := (∀ q ∈ xnF, va_Nw (.fieldLinkNest q.1 q.2.1 q.2.2.1 q.2.2.2.1 q.2.2.2.2 "ThreeMasters") U) ∧ ∀ q ∈ xnM, va_Nw (.methodLinkNest q.1 q.2.1 q.2.2 "ThreeMasters") U
theorem xN.warm {s U : State} (hW : s.WarmedH U.vm) (h : xN s) : xN U := ⟨fun q hq => va_Nw.warmF hW (h.1 q hq), fun q hq => va_Nw.warmM hW (h.2 q hq)⟩
theorem xN.same {s U : State} (hv : s.vm = U.vm) (h : xN s) : xN U := ⟨fun q hq => va_Nw.same rfl hv (h.1 q hq), fun q hq => va_Nw.same rfl hv (h.2 q hq)⟩
/-- the two tables of set() -/
def xLS (j : Nat) : Int32 := if j = 1 then 1 else 0
def xMS (j : Nat) : Int32 := if j = 0 then 99 else if j = 1 then 999 else 9
def xZ (G : xG) (U : State) (H : Heap) : Prop := va_Z RX8 "LEAST_SET" "[I" (.ref (G.2.2 60)) (xA G) U H ∧ va_T .int (G.2.2 60) 4 (fun j => .int (xLS j)) (xA G) U H ∧ va_Z RX8 "MOST_SET" "[I" (.ref (G.2.2 61)) (xA G) U H ∧ va_T .int (G.2.2 61) 4 (fun j => .int (xMS j)) (xA G) U H
theorem xZ.moved {G : xG} {s U : State} {H : Heap} (hvm : s.vm.Alike U.vm) (h : xZ G s H) : xZ G U H := ⟨h.1.moved hvm, h.2.1.moved hvm, h.2.2.1.moved hvm, h.2.2.2.moved hvm⟩
theorem xZ.kept {G : xG} {s : State} {H H1 : Heap} (hq : ∀ a : Nat, a < H.size → ¬ xA G a → H1[a]? = H[a]?) (h : xZ G s H) : xZ G s H1 := ⟨h.1.kept hq, h.2.1.kept hq, h.2.2.1.kept hq, h.2.2.2.kept hq⟩
/-- what holds beside the cells' contents -/
def xE (G : xG) (U : State) : Prop := va_K G.1 vwCl (xtys G) U ∧ xN U ∧ xInj G ∧ xZ G U U.heap
abbrev xP (G : xG) (S : xS) (H : Heap) : Prop := va_P G.1 vwCl (xW G S) H
def xI (G : xG) (S : xS) (U : State) : Prop := xP G S U.heap ∧ xE G U
theorem xE.at {G : xG} {s U : State} {H : Heap} {locs : List Loc} (h : xE G s) (hS : va_S (xA G) s.heap H locs) (hW : s.WarmedH U.vm) (hU : U.heap = H) : xE G U := by
  subst hU
  exact ⟨va_K.moved hW.alike h.1, h.2.1.warm hW, h.2.2.1, (h.2.2.2.kept (fun a h1 h2 => hS.2.1 a h1 h2)).moved hW.alike⟩
theorem xI.blind {G : xG} {S : xS} (av : List Value) : FrameBlind (va_Pc av (xI G S)) := by
  intro a U g mk q
  obtain ⟨q0, qP, qK, qN, qJ, qZ⟩ := q
  exact ⟨q0, qP, va_K.moved (u := U) (U := U.calling g mk a) (Vm.Alike.refl U.vm) qK, qN.same rfl, qJ, qZ.moved (s := U) (U := U.calling g mk a) (Vm.Alike.refl U.vm)⟩
abbrev xQi (G : xG) (r : Int32) (S' : xS) : Array Value → State → Outcome → State → Prop := va_Qi (fun (r1 : Int32) (S1 : xS) => r1 = r ∧ S1 = S') (fun S1 t => xI G S1 t) (xA G)
abbrev xQl (G : xG) (r : Int64) (S' : xS) : Array Value → State → Outcome → State → Prop := va_Ql (fun (r1 : Int64) (S1 : xS) => r1 = r ∧ S1 = S') (fun S1 t => xI G S1 t) (xA G)
abbrev xQv (G : xG) (S' : xS) : Array Value → State → Outcome → State → Prop := va_Qv (fun (S1 : xS) => S1 = S') (fun S1 t => xI G S1 t) (xA G)
/-- a method's contract: from the state S, with these arguments, the answer is r and the state S' -/
def xMi (l : Launch) (G : xG) (y : MethodName) (cc : ByteArray) (nL : Nat) (ret : Option FieldType) (fr lo : Nat) (av : List Value) (S : xS) (r : Int32) (S' : xS) : Prop :=
  Met l y (.code y cc nL ret :: xbig) { frames := fr, cells := 0, slots := 0, locals := lo } (va_Pc av (xI G S)) (xQi G r S') 0 0 (xA G)
def xMl (l : Launch) (G : xG) (y : MethodName) (cc : ByteArray) (nL : Nat) (ret : Option FieldType) (fr lo : Nat) (av : List Value) (S : xS) (r : Int64) (S' : xS) : Prop :=
  Met l y (.code y cc nL ret :: xbig) { frames := fr, cells := 0, slots := 0, locals := lo } (va_Pc av (xI G S)) (xQl G r S') 0 0 (xA G)
def xMv (l : Launch) (G : xG) (y : MethodName) (cc : ByteArray) (nL : Nat) (ret : Option FieldType) (fr lo : Nat) (av : List Value) (S : xS) (S' : xS) : Prop :=
  Met l y (.code y cc nL ret :: xbig) { frames := fr, cells := 0, slots := 0, locals := lo } (va_Pc av (xI G S)) (xQv G S') 0 0 (xA G)
/-- what a method's body stands on -/
def xC (p : Program) (s : State) (m : MethodId) (args : Array Value) (c : Code) (G : xG) (own : String) (cc : ByteArray) (nL : Nat) : Prop :=
  p.tables.exec = Jvm.exec ∧ c.code = cc ∧ c.maxLocals = nL ∧ s.vm.findClass own = some m.cls ∧ (∀ w ∈ xbig, w.before args s = true) ∧ xE G s
/-- the machine goes on well from here -/
def xGo (p : Program) (l : Launch) (e : Env) (R : Room) (s : State) (m : MethodId) (args : Array Value) (below : List Frame) (meth : Method) (c : Code) (G : xG) (nL cells slots : Nat) (Q : State → Prop) (S : xS) (pc : Nat) (lv : List (Nat × Value)) (st : List Value) : Prop :=
  ∀ (H : Heap) (locs : List Loc) (ls : Array Slot), xP G S H → va_S (xA G) s.heap H locs → lv_has ls nL lv → W p l e R s m args below meth c H locs cells slots Q (F0 m pc ls st)
end
section
section XR
variable {p : Program} {l : Launch} {e : Env} {R : Room} {s : State} {m : MethodId} {args : Array Value} {below : List Frame} {meth : Method} {c : Code} {H : Heap} {locs : List Loc} {cells slots : Nat} {Q : State → Prop}
variable {cc : ByteArray} {pc nL : Nat} {ls : Array Slot} {rest : List Value} {G : xG} {own : String} {S S' : xS}
theorem xMi_of {y : MethodName} {ret : Option FieldType} {fr lo : Nat} {av : List Value} {r : Int32} (hpl : plainName y.cls = true) (hown : y.cls = own) (hn : (lg_sl av).length ≤ nL)
    (body : ∀ (p : Program) (e : Env) (s : State) (m : MethodId) (args : Array Value) (below : List Frame) (meth : Method) (c : Code), xC p s m args c G own cc nL → meth.sig.returnType = ret → meth.locks = false → xGo p l e { frames := fr, cells := 0, slots := 0, locals := lo } s m args below meth c G nL 0 0 (MQ below (xQi G r S') args s 0 0 (xA G)) S 0 (lv_args 0 av) []) :
    xMi l G y cc nL ret fr lo av S r S' := by
  refine Met.ofW (cc := cc) (maxL := nL) (ret := ret) hpl rfl ?_
  intro p e s m args below meth c s₁ B hml hv
  obtain ⟨rfl, hP, hE⟩ := hv
  have hts := atoms_spec (ws := .code y cc nL ret :: xbig) B.pre
  have hown2 : s.vm.findClass own = some m.cls := by rw [← hown]; exact findClass_of_methodNamed B.named
  have hl := lv_entry av (n := nL) hn
  rw [lg_entry_eq]
  generalize (lg_sl av ++ List.replicate (nL - (lg_sl av).length) Slot.unset).toArray = ls at hl ⊢
  exact body p e s m _ below meth c ⟨B.exec, B.bytes, hml, hown2, fun w hw => hts w (List.mem_cons_of_mem _ hw), hE⟩ B.returns B.notSynchronized s.heap [] ls hP va_S.rf hl
theorem xMl_of {y : MethodName} {ret : Option FieldType} {fr lo : Nat} {av : List Value} {r : Int64} (hpl : plainName y.cls = true) (hown : y.cls = own) (hn : (lg_sl av).length ≤ nL)
    (body : ∀ (p : Program) (e : Env) (s : State) (m : MethodId) (args : Array Value) (below : List Frame) (meth : Method) (c : Code), xC p s m args c G own cc nL → meth.sig.returnType = ret → meth.locks = false → xGo p l e { frames := fr, cells := 0, slots := 0, locals := lo } s m args below meth c G nL 0 0 (MQ below (xQl G r S') args s 0 0 (xA G)) S 0 (lv_args 0 av) []) :
    xMl l G y cc nL ret fr lo av S r S' := by
  refine Met.ofW (cc := cc) (maxL := nL) (ret := ret) hpl rfl ?_
  intro p e s m args below meth c s₁ B hml hv
  obtain ⟨rfl, hP, hE⟩ := hv
  have hts := atoms_spec (ws := .code y cc nL ret :: xbig) B.pre
  have hown2 : s.vm.findClass own = some m.cls := by rw [← hown]; exact findClass_of_methodNamed B.named
  have hl := lv_entry av (n := nL) hn
  rw [lg_entry_eq]
  generalize (lg_sl av ++ List.replicate (nL - (lg_sl av).length) Slot.unset).toArray = ls at hl ⊢
  exact body p e s m _ below meth c ⟨B.exec, B.bytes, hml, hown2, fun w hw => hts w (List.mem_cons_of_mem _ hw), hE⟩ B.returns B.notSynchronized s.heap [] ls hP va_S.rf hl
theorem xMv_of {y : MethodName} {ret : Option FieldType} {fr lo : Nat} {av : List Value} (hpl : plainName y.cls = true) (hown : y.cls = own) (hn : (lg_sl av).length ≤ nL)
    (body : ∀ (p : Program) (e : Env) (s : State) (m : MethodId) (args : Array Value) (below : List Frame) (meth : Method) (c : Code), xC p s m args c G own cc nL → meth.sig.returnType = ret → meth.locks = false → xGo p l e { frames := fr, cells := 0, slots := 0, locals := lo } s m args below meth c G nL 0 0 (MQ below (xQv G S') args s 0 0 (xA G)) S 0 (lv_args 0 av) []) :
    xMv l G y cc nL ret fr lo av S S' := by
  refine Met.ofW (cc := cc) (maxL := nL) (ret := ret) hpl rfl ?_
  intro p e s m args below meth c s₁ B hml hv
  obtain ⟨rfl, hP, hE⟩ := hv
  have hts := atoms_spec (ws := .code y cc nL ret :: xbig) B.pre
  have hown2 : s.vm.findClass own = some m.cls := by rw [← hown]; exact findClass_of_methodNamed B.named
  have hl := lv_entry av (n := nL) hn
  rw [lg_entry_eq]
  generalize (lg_sl av ++ List.replicate (nL - (lg_sl av).length) Slot.unset).toArray = ls at hl ⊢
  exact body p e s m _ below meth c ⟨B.exec, B.bytes, hml, hown2, fun w hw => hts w (List.mem_cons_of_mem _ hw), hE⟩ B.returns B.notSynchronized s.heap [] ls hP va_S.rf hl
theorem x_iret {v r : Int32} (X : xC p s m args c G own cc nL) (hr : meth.sig.returnType = some .int) (hlk : meth.locks = false) (hP : xP G S H) (hS : va_S (xA G) s.heap H locs) (hv : v = r) (hSS : S = S') (hdg : decode cc pc = .ok (.ireturn, 1)) :
    W p l e R s m args below meth c H locs cells slots (MQ below (xQi G r S') args s cells slots (xA G)) (F0 m pc ls [.int v]) :=
  W.iret X.1 X.2.1 hr (fun t ht hW => ⟨⟨v, S, rfl, ⟨hv, hSS⟩, by rw [ht]; exact hP, X.2.2.2.2.2.at hS hW ht⟩, hS.F ht⟩) hS.2.2 hdg hlk
theorem x_zret {v r : Int32} (X : xC p s m args c G own cc nL) (hr : meth.sig.returnType = some .boolean) (hlk : meth.locks = false) (hP : xP G S H) (hS : va_S (xA G) s.heap H locs) (hn : v = 0 ∨ v = 1) (hv : v = r) (hSS : S = S') (hdg : decode cc pc = .ok (.ireturn, 1)) :
    W p l e R s m args below meth c H locs cells slots (MQ below (xQi G r S') args s cells slots (xA G)) (F0 m pc ls [.int v]) :=
  W.zret X.1 X.2.1 hr (by rcases hn with h | h <;> (rw [h]; rfl)) (fun t ht hW => ⟨⟨v, S, rfl, ⟨hv, hSS⟩, by rw [ht]; exact hP, X.2.2.2.2.2.at hS hW ht⟩, hS.F ht⟩) hS.2.2 hdg hlk
theorem x_lret {v r : Int64} (X : xC p s m args c G own cc nL) (hr : meth.sig.returnType = some .long) (hlk : meth.locks = false) (hP : xP G S H) (hS : va_S (xA G) s.heap H locs) (hv : v = r) (hSS : S = S') (hdg : decode cc pc = .ok (.lreturn, 1)) :
    W p l e R s m args below meth c H locs cells slots (MQ below (xQl G r S') args s cells slots (xA G)) (F0 m pc ls [.long v]) :=
  W.lret X.1 X.2.1 hr (fun t ht hW => ⟨⟨v, S, rfl, ⟨hv, hSS⟩, by rw [ht]; exact hP, X.2.2.2.2.2.at hS hW ht⟩, hS.F ht⟩) hS.2.2 hdg hlk
theorem x_vret (X : xC p s m args c G own cc nL) (hr : meth.sig.returnType = none) (hlk : meth.locks = false) (hP : xP G S H) (hS : va_S (xA G) s.heap H locs) (hSS : S = S') (hdg : decode cc pc = .ok (.return_, 1)) :
    W p l e R s m args below meth c H locs cells slots (MQ below (xQv G S') args s cells slots (xA G)) (F0 m pc ls []) :=
  W.vret X.1 X.2.1 hr (fun t ht hW => ⟨⟨S, rfl, hSS, by rw [ht]; exact hP, X.2.2.2.2.2.at hS hW ht⟩, hS.F ht⟩) hS.2.2 hdg hlk
def xLF (own : String) (index ci k : Nat) (C : String) (T : u_T) (N : Nat) : Prop := vwCl[ci]? = some (C, T, N) ∧ k < N ∧ (∀ w ∈ u_ws C T N, w ∈ xbig) ∧ Cond.fieldLink own index C (T k).2.1 (T k).2.2.1 ∈ xbig ∧ (T k).1 = C
def xLFN (own : String) (index ci k : Nat) (C : String) (T : u_T) (N : Nat) : Prop := vwCl[ci]? = some (C, T, N) ∧ k < N ∧ (∀ w ∈ u_ws C T N, w ∈ xbig) ∧ (own, index, C, (T k).2.1, (T k).2.2.1) ∈ xnF ∧ (T k).1 = C
def xLFP (own : String) (index ci k : Nat) (C : String) (T : u_T) (N : Nat) (ty : Nat → FieldType) : Prop := xLF own index ci k C T N ∧ (∀ k, k < N → parseFieldDescriptor (T k).2.2.1 = some (ty k)) ∧ (∀ a, a < N → ∀ b, b < N → a ≠ b → (T a).2.1 ≠ (T b).2.1) ∧ (T k).2.2.2 = false ∧ ty k = .int
theorem x_getI {index ci k q N : Nat} {C : String} {T : u_T} {fs : List (Option Nat)} (X : xC p s m args c G own cc nL) (hP : xP G S H) (F : xLF own index ci k C T N) (hq : q < 53) (hL : xlay q = (4, ci, fs)) (hf : fs[k]? = some none) (hdg : decode cc pc = .ok (.getfield index, 3))
    (kk : W p l e R s m args below meth c H locs cells slots Q (F0 m (pc + 3) ls (.int (S.1 q k) :: rest))) : W p l e R s m args below meth c H locs cells slots Q (F0 m pc ls (.ref (G.2.2 q) :: rest)) := by
  obtain ⟨f1, f2, f3, f4, f5⟩ := F
  obtain ⟨hx, hb, -, hown, hts, hK, -⟩ := X
  exact va_get (D := G.1) (ci := ci) (v := .int (S.1 q k)) (C := C) (T := T) (N := N) hx hb hts f3 hown hK hP q (by rw [xW_at hq, xc_o hL]) f1 k f2 (hts _ f4) (fun _ h => by rw [f5] at h; exact h) (xfs_i hf) hdg kk
theorem x_getR {index ci k q r N : Nat} {C : String} {T : u_T} {fs : List (Option Nat)} (X : xC p s m args c G own cc nL) (hP : xP G S H) (F : xLF own index ci k C T N) (hq : q < 53) (hL : xlay q = (4, ci, fs)) (hf : fs[k]? = some (some r)) (hdg : decode cc pc = .ok (.getfield index, 3))
    (kk : W p l e R s m args below meth c H locs cells slots Q (F0 m (pc + 3) ls (.ref (G.2.2 r) :: rest))) : W p l e R s m args below meth c H locs cells slots Q (F0 m pc ls (.ref (G.2.2 q) :: rest)) := by
  obtain ⟨f1, f2, f3, f4, f5⟩ := F
  obtain ⟨hx, hb, -, hown, hts, hK, -⟩ := X
  exact va_get (D := G.1) (ci := ci) (v := .ref (G.2.2 r)) (C := C) (T := T) (N := N) hx hb hts f3 hown hK hP q (by rw [xW_at hq, xc_o hL]) f1 k f2 (hts _ f4) (fun _ h => by rw [f5] at h; exact h) (xfs_r hf) hdg kk
theorem x_getIN {index ci k q N : Nat} {C : String} {T : u_T} {fs : List (Option Nat)} (X : xC p s m args c G own cc nL) (hP : xP G S H) (F : xLFN own index ci k C T N) (hq : q < 53) (hL : xlay q = (4, ci, fs)) (hf : fs[k]? = some none) (hdg : decode cc pc = .ok (.getfield index, 3))
    (kk : W p l e R s m args below meth c H locs cells slots Q (F0 m (pc + 3) ls (.int (S.1 q k) :: rest))) : W p l e R s m args below meth c H locs cells slots Q (F0 m pc ls (.ref (G.2.2 q) :: rest)) := by
  obtain ⟨f1, f2, f3, f4, f5⟩ := F
  obtain ⟨hx, hb, -, hown, hts, hK, hN, -⟩ := X
  exact va_getN (D := G.1) (ci := ci) (v := .int (S.1 q k)) (C := C) (T := T) (N := N) hx hb hts f3 hown hK hP q (by rw [xW_at hq, xc_o hL]) f1 k f2 (va_Nw.use rfl (hN.1 _ f4)) (fun _ h => by rw [f5] at h; exact h) (xfs_i hf) hdg kk
theorem x_getRN {index ci k q r N : Nat} {C : String} {T : u_T} {fs : List (Option Nat)} (X : xC p s m args c G own cc nL) (hP : xP G S H) (F : xLFN own index ci k C T N) (hq : q < 53) (hL : xlay q = (4, ci, fs)) (hf : fs[k]? = some (some r)) (hdg : decode cc pc = .ok (.getfield index, 3))
    (kk : W p l e R s m args below meth c H locs cells slots Q (F0 m (pc + 3) ls (.ref (G.2.2 r) :: rest))) : W p l e R s m args below meth c H locs cells slots Q (F0 m pc ls (.ref (G.2.2 q) :: rest)) := by
  obtain ⟨f1, f2, f3, f4, f5⟩ := F
  obtain ⟨hx, hb, -, hown, hts, hK, hN, -⟩ := X
  exact va_getN (D := G.1) (ci := ci) (v := .ref (G.2.2 r)) (C := C) (T := T) (N := N) hx hb hts f3 hown hK hP q (by rw [xW_at hq, xc_o hL]) f1 k f2 (va_Nw.use rfl (hN.1 _ f4)) (fun _ h => by rw [f5] at h; exact h) (xfs_r hf) hdg kk
theorem x_putI {index ci k q N : Nat} {C : String} {T : u_T} {ty : Nat → FieldType} {fs : List (Option Nat)} {v : Int32} (X : xC p s m args c G own cc nL) (hP : xP G S H) (hS : va_S (xA G) s.heap H locs) (F : xLFP own index ci k C T N ty) (hq : q < 53) (hL : xlay q = (4, ci, fs)) (hf : fs[k]? = some none) (hdg : decode cc pc = .ok (.putfield index, 3))
    (kk : ∀ (H : Heap) (locs : List Loc), xP G (xst S q k v) H → va_S (xA G) s.heap H locs → W p l e R s m args below meth c H locs cells slots Q (F0 m (pc + 3) ls rest)) : W p l e R s m args below meth c H locs cells slots Q (F0 m pc ls (.int v :: .ref (G.2.2 q) :: rest)) := by
  obtain ⟨⟨f1, f2, f3, f4, f5⟩, g1, g2, g3, g4⟩ := F
  obtain ⟨hx, hb, -, hown, hts, hK, -, hJ, -⟩ := X
  refine va_put (D := G.1) (ci := ci) (v := .int v) (ty := .int) (C := C) (T := T) (N := N) hx hb hts f3 ty g1 g2 hown hK hP (xD hJ S) hS q (by rw [xW_at hq, xc_o hL]) f1 k f2 (hts _ f4) (fun _ h => by rw [f5] at h; exact h) g3 (by rw [g1 k f2, g4]) rfl rfl (xfs_len hf) hdg (fun H1 locs1 h1 _ h3 => ?_)
  refine kk H1 locs1 ?_ h3
  rw [xfs_set hf, ← xc_o (G := G) (S := xst S q k v) hL, xW_set hq (fun a ha => xst_ne ha) (fun a _ => rfl)] at h1
  exact h1
theorem x_iald {q n : Nat} {fs : List (Option Nat)} {i : Int32} (X : xC p s m args c G own cc nL) (hP : xP G S H) (hq : q < 53) (hL : xlay q = (0, n, fs)) (hin : xin i n = true) (hdg : decode cc pc = .ok (.iaload, 1))
    (kk : W p l e R s m args below meth c H locs cells slots Q (F0 m (pc + 1) ls (.int (S.1 q i.toNatClampNeg) :: rest))) : W p l e R s m args below meth c H locs cells slots Q (F0 m pc ls (.int i :: .ref (G.2.2 q) :: rest)) := by
  obtain ⟨hx, hb, -, -, -, hK, -⟩ := X
  exact va_iald hx hb hK hP q 0 (by rw [xW_at hq, xc_i hL]) rfl (xin_in hin) hdg kk
theorem x_lald {q n : Nat} {fs : List (Option Nat)} {i : Int32} (X : xC p s m args c G own cc nL) (hP : xP G S H) (hq : q < 53) (hL : xlay q = (1, n, fs)) (hin : xin i n = true) (hdg : decode cc pc = .ok (.laload, 1))
    (kk : W p l e R s m args below meth c H locs cells slots Q (F0 m (pc + 1) ls (.long (S.2 q i.toNatClampNeg) :: rest))) : W p l e R s m args below meth c H locs cells slots Q (F0 m pc ls (.int i :: .ref (G.2.2 q) :: rest)) := by
  obtain ⟨hx, hb, -, -, -, hK, -⟩ := X
  exact va_lald hx hb hK hP q 1 (by rw [xW_at hq, xc_l hL]) rfl (xin_in hin) hdg kk
theorem x_zald {q n : Nat} {fs : List (Option Nat)} {i : Int32} (X : xC p s m args c G own cc nL) (hP : xP G S H) (hq : q < 53) (hL : xlay q = (2, n, fs)) (hin : xin i n = true) (hdg : decode cc pc = .ok (.baload, 1))
    (kk : W p l e R s m args below meth c H locs cells slots Q (F0 m (pc + 1) ls (.int (S.1 q i.toNatClampNeg) :: rest))) : W p l e R s m args below meth c H locs cells slots Q (F0 m pc ls (.int i :: .ref (G.2.2 q) :: rest)) := by
  obtain ⟨hx, hb, -, -, -, hK, -⟩ := X
  exact va_zald hx hb hK hP q 2 (by rw [xW_at hq, xc_z hL]) rfl (xin_in hin) hdg kk
theorem x_iast {q n : Nat} {fs : List (Option Nat)} {i v : Int32} (X : xC p s m args c G own cc nL) (hP : xP G S H) (hS : va_S (xA G) s.heap H locs) (hq : q < 53) (hL : xlay q = (0, n, fs)) (hin : xin i n = true) (hdg : decode cc pc = .ok (.iastore, 1))
    (kk : ∀ (H : Heap) (locs : List Loc), xP G (xst S q i.toNatClampNeg v) H → va_S (xA G) s.heap H locs → W p l e R s m args below meth c H locs cells slots Q (F0 m (pc + 1) ls rest)) : W p l e R s m args below meth c H locs cells slots Q (F0 m pc ls (.int v :: .int i :: .ref (G.2.2 q) :: rest)) := by
  obtain ⟨hx, hb, -, -, -, hK, -, hJ, -⟩ := X
  refine va_iast hx hb hK hP (xD hJ S) hS q 0 (by rw [xW_at hq, xc_i hL]) rfl (xin_in hin) hdg (fun H1 locs1 h1 _ h3 => ?_)
  refine kk H1 locs1 ?_ h3
  rw [← xst_at, ← xc_i (G := G) (S := xst S q i.toNatClampNeg v) hL, xW_set hq (fun a ha => xst_ne ha) (fun a _ => rfl)] at h1
  exact h1
theorem x_zast {q n : Nat} {fs : List (Option Nat)} {i v : Int32} (X : xC p s m args c G own cc nL) (hP : xP G S H) (hS : va_S (xA G) s.heap H locs) (hq : q < 53) (hL : xlay q = (2, n, fs)) (hin : xin i n = true) (hz : vp_nar .boolean v = v) (hdg : decode cc pc = .ok (.bastore, 1))
    (kk : ∀ (H : Heap) (locs : List Loc), xP G (xst S q i.toNatClampNeg v) H → va_S (xA G) s.heap H locs → W p l e R s m args below meth c H locs cells slots Q (F0 m (pc + 1) ls rest)) : W p l e R s m args below meth c H locs cells slots Q (F0 m pc ls (.int v :: .int i :: .ref (G.2.2 q) :: rest)) := by
  obtain ⟨hx, hb, -, -, -, hK, -, hJ, -⟩ := X
  refine va_zast hx hb hK hP (xD hJ S) hS q 2 (by rw [xW_at hq, xc_z hL]) rfl (xin_in hin) hdg (fun H1 locs1 h1 _ h3 => ?_)
  refine kk H1 locs1 ?_ h3
  rw [hz, ← xst_at, ← xc_z (G := G) (S := xst S q i.toNatClampNeg v) hL, xW_set hq (fun a ha => xst_ne ha) (fun a _ => rfl)] at h1
  exact h1
theorem x_last {q n : Nat} {fs : List (Option Nat)} {i : Int32} {v : Int64} (X : xC p s m args c G own cc nL) (hP : xP G S H) (hS : va_S (xA G) s.heap H locs) (hq : q < 53) (hL : xlay q = (1, n, fs)) (hin : xin i n = true) (hdg : decode cc pc = .ok (.lastore, 1))
    (kk : ∀ (H : Heap) (locs : List Loc), xP G (xsl S q i.toNatClampNeg v) H → va_S (xA G) s.heap H locs → W p l e R s m args below meth c H locs cells slots Q (F0 m (pc + 1) ls rest)) : W p l e R s m args below meth c H locs cells slots Q (F0 m pc ls (.long v :: .int i :: .ref (G.2.2 q) :: rest)) := by
  obtain ⟨hx, hb, -, -, -, hK, -, hJ, -⟩ := X
  refine va_last hx hb hK hP (xD hJ S) hS q 1 (by rw [xW_at hq, xc_l hL]) rfl (xin_in hin) hdg (fun H1 locs1 h1 _ h3 => ?_)
  refine kk H1 locs1 ?_ h3
  rw [← xsl_at, ← xc_l (G := G) (S := xsl S q i.toNatClampNeg v) hL, xW_set (S := S) (S' := xsl S q i.toNatClampNeg v) hq (fun a _ => rfl) (fun a ha => xsl_ne ha)] at h1
  exact h1
theorem x_alenI {q n : Nat} {fs : List (Option Nat)} (X : xC p s m args c G own cc nL) (hP : xP G S H) (hq : q < 53) (hL : xlay q = (0, n, fs)) (hdg : decode cc pc = .ok (.arraylength, 1))
    (kk : W p l e R s m args below meth c H locs cells slots Q (F0 m (pc + 1) ls (.int (Int32.ofNat n) :: rest))) : W p l e R s m args below meth c H locs cells slots Q (F0 m pc ls (.ref (G.2.2 q) :: rest)) := by
  obtain ⟨hx, hb, -, -, -, hK, -⟩ := X
  exact va_alen hx hb hK hP q 0 (by rw [xW_at hq, xc_i hL]) rfl rfl hdg kk
theorem x_alenL {q n : Nat} {fs : List (Option Nat)} (X : xC p s m args c G own cc nL) (hP : xP G S H) (hq : q < 53) (hL : xlay q = (1, n, fs)) (hdg : decode cc pc = .ok (.arraylength, 1))
    (kk : W p l e R s m args below meth c H locs cells slots Q (F0 m (pc + 1) ls (.int (Int32.ofNat n) :: rest))) : W p l e R s m args below meth c H locs cells slots Q (F0 m pc ls (.ref (G.2.2 q) :: rest)) := by
  obtain ⟨hx, hb, -, -, -, hK, -⟩ := X
  exact va_alen hx hb hK hP q 1 (by rw [xW_at hq, xc_l hL]) rfl rfl hdg kk
theorem x_ash {i : Int32} (X : xC p s m args c G own cc nL) (hP : xP G S H) (hin : xin i 4 = true) (hdg : decode cc pc = .ok (.aaload, 1))
    (kk : W p l e R s m args below meth c H locs cells slots Q (F0 m (pc + 1) ls (.ref (G.2.2 (25 + i.toNatClampNeg)) :: rest))) : W p l e R s m args below meth c H locs cells slots Q (F0 m pc ls (.int i :: .ref (G.2.2 24) :: rest)) := by
  obtain ⟨hx, hb, -, -, -, hK, -⟩ := X
  refine va_aldq (C := "ThreeMasters$Sheet") hx hb hK hP 24 3 (by rw [xW_at (by decide), xc_r (n := 4) rfl]) rfl (xin_in hin) hdg ?_
  have h := of_decide_eq_true hin
  have e : i.toNatClampNeg = i.toInt.toNat := rfl
  generalize i.toNatClampNeg = j at *
  rcases (show j = 0 ∨ j = 1 ∨ j = 2 ∨ j = 3 by omega) with rfl | rfl | rfl | rfl <;> exact kk
theorem x_gsL {index : Nat} (X : xC p s m args c G own cc nL) (hS : va_S (xA G) s.heap H locs) (hlk : Cond.fieldLink own index RX8 "LEAST_SET" "[I" ∈ xbig) (hdg : decode cc pc = .ok (.getstatic index, 3))
    (kk : W p l e R s m args below meth c H locs cells slots Q (F0 m (pc + 3) ls (.ref (G.2.2 60) :: rest))) : W p l e R s m args below meth c H locs cells slots Q (F0 m pc ls rest) := by
  obtain ⟨hx, hb, -, hown, hts, -, -, -, hZ⟩ := X
  exact va_gets hx hb hZ.1 hS hown (hts _ hlk) (fun _ h => h) hdg kk
theorem x_gsM {index : Nat} (X : xC p s m args c G own cc nL) (hS : va_S (xA G) s.heap H locs) (hlk : Cond.fieldLink own index RX8 "MOST_SET" "[I" ∈ xbig) (hdg : decode cc pc = .ok (.getstatic index, 3))
    (kk : W p l e R s m args below meth c H locs cells slots Q (F0 m (pc + 3) ls (.ref (G.2.2 61) :: rest))) : W p l e R s m args below meth c H locs cells slots Q (F0 m pc ls rest) := by
  obtain ⟨hx, hb, -, hown, hts, -, -, -, hZ⟩ := X
  exact va_gets hx hb hZ.2.2.1 hS hown (hts _ hlk) (fun _ h => h) hdg kk
theorem x_tiL {i : Int32} (X : xC p s m args c G own cc nL) (hS : va_S (xA G) s.heap H locs) (hin : xin i 4 = true) (hdg : decode cc pc = .ok (.iaload, 1))
    (kk : W p l e R s m args below meth c H locs cells slots Q (F0 m (pc + 1) ls (.int (xLS i.toNatClampNeg) :: rest))) : W p l e R s m args below meth c H locs cells slots Q (F0 m pc ls (.int i :: .ref (G.2.2 60) :: rest)) := by
  obtain ⟨hx, hb, -, -, -, -, -, -, hZ⟩ := X
  exact va_ti hx hb hZ.2.1 hS (xin_in hin) rfl hdg kk
theorem x_tiM {i : Int32} (X : xC p s m args c G own cc nL) (hS : va_S (xA G) s.heap H locs) (hin : xin i 4 = true) (hdg : decode cc pc = .ok (.iaload, 1))
    (kk : W p l e R s m args below meth c H locs cells slots Q (F0 m (pc + 1) ls (.int (xMS i.toNatClampNeg) :: rest))) : W p l e R s m args below meth c H locs cells slots Q (F0 m pc ls (.int i :: .ref (G.2.2 61) :: rest)) := by
  obtain ⟨hx, hb, -, -, -, -, -, -, hZ⟩ := X
  exact va_ti hx hb hZ.2.2.2 hS (xin_in hin) rfl hdg kk
end XR
end
section

def xg {α : Type} (c : Bool) (a : Option α) : Option α := if c = true then a else none
theorem xg_some {α : Type} {c : Bool} {a : Option α} {b : α} (h : xg c a = some b) : c = true ∧ a = some b := by
  unfold xg at h
  split at h
  · exact ⟨by assumption, h⟩
  · cases h
theorem xg_t {α : Type} {c : Bool} {a : Option α} (h : c = true) : xg c a = a := if_pos h
theorem xb_some {α β : Type} {x : Option α} {f : α → Option β} {b : β} (h : x.bind f = some b) : ∃ a, x = some a ∧ f a = some b := by
  cases x with
  | none => cases h
  | some a => exact ⟨a, rfl, h⟩
theorem xne_of {y : Int32} (h : (!decide (y = 0)) = true) : ¬ y = 0 := by simpa using h
theorem xneL_of {y : Int64} (h : (!decide (y = 0)) = true) : ¬ y = 0 := by simpa using h
def xabs (x : Int32) : Int32 := if 0 ≤ x then x else 0 - x
def xmax (x y : Int32) : Int32 := if x < y then y else x
def xmin (x y : Int32) : Int32 := if y < x then y else x
def xLV (own : String) (index : Nat) (y : MethodName) (C : String) (bytes : ByteArray) (maxL : Nat) (ret : Option FieldType) (n : Nat) : Prop :=
  Cond.methodLink own index y ∈ xbig ∧ Cond.instanceMethod y ∈ xbig ∧ Cond.selects C y y ∈ xbig ∧ Cond.initialized C ∈ xbig ∧ Cond.code y bytes maxL ret ∈ xbig ∧ (y.cls = C ∧ y.cls ≠ "java/lang/invoke/MethodHandle" ∧ y.cls ≠ "java/lang/invoke/VarHandle" ∧ (parseMethodDescriptor y.desc).map (fun d => d.parameters.length) = some n)
def xLSt (own : String) (index : Nat) (y : MethodName) (bytes : ByteArray) (maxL : Nat) (ret : Option FieldType) (n : Nat) : Prop :=
  Cond.methodLink own index y ∈ xbig ∧ Cond.static y ∈ xbig ∧ Cond.initialized y.cls ∈ xbig ∧ Cond.code y bytes maxL ret ∈ xbig ∧ (y.cls ≠ "java/lang/invoke/MethodHandle" ∧ y.cls ≠ "java/lang/invoke/VarHandle" ∧ (parseMethodDescriptor y.desc).map (fun d => d.parameters.length) = some n)
def xLSN (own : String) (index : Nat) (y : MethodName) (bytes : ByteArray) (maxL : Nat) (ret : Option FieldType) (n : Nat) : Prop :=
  (own, index, y) ∈ xnM ∧ Cond.static y ∈ xbig ∧ Cond.initialized y.cls ∈ xbig ∧ Cond.code y bytes maxL ret ∈ xbig ∧ (y.cls ≠ "java/lang/invoke/MethodHandle" ∧ y.cls ≠ "java/lang/invoke/VarHandle" ∧ (parseMethodDescriptor y.desc).map (fun d => d.parameters.length) = some n)
theorem xLV.good {own : String} {index : Nat} {y : MethodName} {C : String} {bytes : ByteArray} {maxL : Nat} {ret : Option FieldType} {n : Nat} (V : xLV own index y C bytes maxL ret n) : GoodIn xbig (wsV own index C y (.code y bytes maxL ret :: xbig)) := by
  obtain ⟨h1, h2, h3, h4, h5, -⟩ := V
  intro w hw
  refine xbig_good w ?_
  unfold wsV at hw
  rcases List.mem_append.mp hw with h | h
  · simp only [List.mem_cons, List.not_mem_nil, or_false] at h
    rcases h with rfl | rfl | rfl | rfl <;> assumption
  · rcases List.mem_cons.mp h with rfl | h
    · exact h5
    · exact h
theorem xLSt.good {own : String} {index : Nat} {y : MethodName} {bytes : ByteArray} {maxL : Nat} {ret : Option FieldType} {n : Nat} (V : xLSt own index y bytes maxL ret n) : GoodIn xbig (va_wsS own index y (.code y bytes maxL ret :: xbig)) := by
  obtain ⟨h1, h2, h3, h4, -⟩ := V
  intro w hw
  refine xbig_good w ?_
  unfold va_wsS at hw
  rcases List.mem_append.mp hw with h | h
  · simp only [List.mem_cons, List.not_mem_nil, or_false] at h
    rcases h with rfl | rfl | rfl <;> assumption
  · rcases List.mem_cons.mp h with rfl | h
    · exact h4
    · exact h
theorem xgoodC {w0 : Cond} (h : w0 ∈ xbig) : GoodIn xbig (w0 :: xbig) := by
  intro w hw
  refine xbig_good w ?_
  rcases List.mem_cons.mp hw with rfl | h2
  · exact h
  · exact h2
section XRC
variable {p : Program} {l : Launch} {e : Env} {R : Room} {s : State} {m : MethodId} {args : Array Value} {below : List Frame} {meth : Method} {c : Code} {H : Heap} {locs : List Loc} {cells slots : Nat} {Q : State → Prop}
variable {cc : ByteArray} {pc nL : Nat} {ls : Array Slot} {rest st : List Value} {G : xG} {own : String} {S S' : xS} {y : MethodName} {bytes : ByteArray} {maxL fr lo n index q ci N : Nat} {ret : Option FieldType} {C : String} {T : u_T} {fs : List (Option Nat)} {As : List Value}
theorem x_cVi {r : Int32} (X : xC p s m args c G own cc nL) (hP : xP G S H) (hS : va_S (xA G) s.heap H locs) (V : xLV own index y C bytes maxL ret n) (hM : xMi l G y bytes maxL ret fr lo (.ref (G.2.2 q) :: As) S r S') (hR : fr + 1 ≤ R.frames ∧ 8 + (maxL + 11) + lo ≤ R.locals) (hq : q < 53) (hL : xlay q = (4, ci, fs)) (hc : vwCl[ci]? = some (C, T, N)) (hAs : As.length = n) (hsz : ls.size = nL) (hst : st = As.reverse ++ .ref (G.2.2 q) :: rest) (hW : (rest.map fun v => v.category).sum ≤ 8) (hcs : cells + 0 ≤ R.cells ∧ slots + 0 ≤ R.slots) (hdg : decode cc pc = .ok (.invokevirtual index, 3))
    (kk : ∀ (H : Heap) (locs : List Loc), xP G S' H → va_S (xA G) s.heap H locs → W p l e R s m args below meth c H locs cells slots Q (F0 m (pc + 3) ls (.int r :: rest))) : W p l e R s m args below meth c H locs cells slots Q (F0 m pc ls st) := by
  have hg := V.good
  obtain ⟨-, -, -, -, -, hd⟩ := V
  obtain ⟨hx, hb, hml, hown, hts, hE⟩ := X
  refine va_calli (S := xS) (va_runV (As := As) (rest := rest) ⟨hx, hb, hml, hown, hts⟩ hM (cwV n hts hg rfl rfl rfl hd hR) ⟨xI.blind _, va_recv hE.1 hP hc (q0 := q) (by rw [xW_at hq, xc_o hL]), fun U hU hW => ⟨rfl, by rw [hU]; exact hP, hE.at hS hW hU⟩⟩ rfl hAs hsz hst (lv_room hW) hdg hcs) hS (fun q _ h => h) (fun q h => h) (fun r1 u t H1 locs1 ht hvm hw hB hz1 hk1 hS1 => ?_)
  obtain ⟨rfl, rfl⟩ := hw
  exact kk H1 locs1 (by rw [← ht]; exact hB.1) hS1
theorem x_cVl {r : Int64} (X : xC p s m args c G own cc nL) (hP : xP G S H) (hS : va_S (xA G) s.heap H locs) (V : xLV own index y C bytes maxL ret n) (hM : xMl l G y bytes maxL ret fr lo (.ref (G.2.2 q) :: As) S r S') (hR : fr + 1 ≤ R.frames ∧ 8 + (maxL + 11) + lo ≤ R.locals) (hq : q < 53) (hL : xlay q = (4, ci, fs)) (hc : vwCl[ci]? = some (C, T, N)) (hAs : As.length = n) (hsz : ls.size = nL) (hst : st = As.reverse ++ .ref (G.2.2 q) :: rest) (hW : (rest.map fun v => v.category).sum ≤ 8) (hcs : cells + 0 ≤ R.cells ∧ slots + 0 ≤ R.slots) (hdg : decode cc pc = .ok (.invokevirtual index, 3))
    (kk : ∀ (H : Heap) (locs : List Loc), xP G S' H → va_S (xA G) s.heap H locs → W p l e R s m args below meth c H locs cells slots Q (F0 m (pc + 3) ls (.long r :: rest))) : W p l e R s m args below meth c H locs cells slots Q (F0 m pc ls st) := by
  have hg := V.good
  obtain ⟨-, -, -, -, -, hd⟩ := V
  obtain ⟨hx, hb, hml, hown, hts, hE⟩ := X
  refine va_calll (S := xS) (va_runV (As := As) (rest := rest) ⟨hx, hb, hml, hown, hts⟩ hM (cwV n hts hg rfl rfl rfl hd hR) ⟨xI.blind _, va_recv hE.1 hP hc (q0 := q) (by rw [xW_at hq, xc_o hL]), fun U hU hW => ⟨rfl, by rw [hU]; exact hP, hE.at hS hW hU⟩⟩ rfl hAs hsz hst (lv_room hW) hdg hcs) hS (fun q _ h => h) (fun q h => h) (fun r1 u t H1 locs1 ht hvm hw hB hz1 hk1 hS1 => ?_)
  obtain ⟨rfl, rfl⟩ := hw
  exact kk H1 locs1 (by rw [← ht]; exact hB.1) hS1
theorem x_cVv (X : xC p s m args c G own cc nL) (hP : xP G S H) (hS : va_S (xA G) s.heap H locs) (V : xLV own index y C bytes maxL ret n) (hM : xMv l G y bytes maxL ret fr lo (.ref (G.2.2 q) :: As) S S') (hR : fr + 1 ≤ R.frames ∧ 8 + (maxL + 11) + lo ≤ R.locals) (hq : q < 53) (hL : xlay q = (4, ci, fs)) (hc : vwCl[ci]? = some (C, T, N)) (hAs : As.length = n) (hsz : ls.size = nL) (hst : st = As.reverse ++ .ref (G.2.2 q) :: rest) (hW : (rest.map fun v => v.category).sum ≤ 8) (hcs : cells + 0 ≤ R.cells ∧ slots + 0 ≤ R.slots) (hdg : decode cc pc = .ok (.invokevirtual index, 3))
    (kk : ∀ (H : Heap) (locs : List Loc), xP G S' H → va_S (xA G) s.heap H locs → W p l e R s m args below meth c H locs cells slots Q (F0 m (pc + 3) ls rest)) : W p l e R s m args below meth c H locs cells slots Q (F0 m pc ls st) := by
  have hg := V.good
  obtain ⟨-, -, -, -, -, hd⟩ := V
  obtain ⟨hx, hb, hml, hown, hts, hE⟩ := X
  refine va_callv (S := xS) (va_runV (As := As) (rest := rest) ⟨hx, hb, hml, hown, hts⟩ hM (cwV n hts hg rfl rfl rfl hd hR) ⟨xI.blind _, va_recv hE.1 hP hc (q0 := q) (by rw [xW_at hq, xc_o hL]), fun U hU hW => ⟨rfl, by rw [hU]; exact hP, hE.at hS hW hU⟩⟩ rfl hAs hsz hst (lv_room hW) hdg hcs) hS (fun q _ h => h) (fun q h => h) (fun u t H1 locs1 ht hvm hw hB hz1 hk1 hS1 => ?_)
  subst hw
  exact kk H1 locs1 (by rw [← ht]; exact hB.1) hS1
theorem x_cSi {r : Int32} (X : xC p s m args c G own cc nL) (hP : xP G S H) (hS : va_S (xA G) s.heap H locs) (V : xLSt own index y bytes maxL ret n) (hM : xMi l G y bytes maxL ret fr lo As S r S') (hR : fr + 1 ≤ R.frames ∧ 8 + (maxL + 11) + lo ≤ R.locals) (hAs : As.length = n) (hsz : ls.size = nL) (hst : st = As.reverse ++ rest) (hW : (rest.map fun v => v.category).sum ≤ 8) (hcs : cells + 0 ≤ R.cells ∧ slots + 0 ≤ R.slots) (hdg : decode cc pc = .ok (.invokestatic index, 3))
    (kk : ∀ (H : Heap) (locs : List Loc), xP G S' H → va_S (xA G) s.heap H locs → W p l e R s m args below meth c H locs cells slots Q (F0 m (pc + 3) ls (.int r :: rest))) : W p l e R s m args below meth c H locs cells slots Q (F0 m pc ls st) := by
  have hg := V.good
  obtain ⟨-, -, -, -, hd⟩ := V
  obtain ⟨hx, hb, hml, hown, hts, hE⟩ := X
  refine va_calli (S := xS) (va_runS (As := As) (rest := rest) ⟨hx, hb, hml, hown, hts⟩ hM (va_cwS n hts hg rfl rfl rfl hd hR) ⟨xI.blind _, fun U hU hW => ⟨rfl, by rw [hU]; exact hP, hE.at hS hW hU⟩⟩ rfl hAs hsz hst (lv_room hW) hdg hcs) hS (fun q _ h => h) (fun q h => h) (fun r1 u t H1 locs1 ht hvm hw hB hz1 hk1 hS1 => ?_)
  obtain ⟨rfl, rfl⟩ := hw
  exact kk H1 locs1 (by rw [← ht]; exact hB.1) hS1
theorem x_cSl {r : Int64} (X : xC p s m args c G own cc nL) (hP : xP G S H) (hS : va_S (xA G) s.heap H locs) (V : xLSt own index y bytes maxL ret n) (hM : xMl l G y bytes maxL ret fr lo As S r S') (hR : fr + 1 ≤ R.frames ∧ 8 + (maxL + 11) + lo ≤ R.locals) (hAs : As.length = n) (hsz : ls.size = nL) (hst : st = As.reverse ++ rest) (hW : (rest.map fun v => v.category).sum ≤ 8) (hcs : cells + 0 ≤ R.cells ∧ slots + 0 ≤ R.slots) (hdg : decode cc pc = .ok (.invokestatic index, 3))
    (kk : ∀ (H : Heap) (locs : List Loc), xP G S' H → va_S (xA G) s.heap H locs → W p l e R s m args below meth c H locs cells slots Q (F0 m (pc + 3) ls (.long r :: rest))) : W p l e R s m args below meth c H locs cells slots Q (F0 m pc ls st) := by
  have hg := V.good
  obtain ⟨-, -, -, -, hd⟩ := V
  obtain ⟨hx, hb, hml, hown, hts, hE⟩ := X
  refine va_calll (S := xS) (va_runS (As := As) (rest := rest) ⟨hx, hb, hml, hown, hts⟩ hM (va_cwS n hts hg rfl rfl rfl hd hR) ⟨xI.blind _, fun U hU hW => ⟨rfl, by rw [hU]; exact hP, hE.at hS hW hU⟩⟩ rfl hAs hsz hst (lv_room hW) hdg hcs) hS (fun q _ h => h) (fun q h => h) (fun r1 u t H1 locs1 ht hvm hw hB hz1 hk1 hS1 => ?_)
  obtain ⟨rfl, rfl⟩ := hw
  exact kk H1 locs1 (by rw [← ht]; exact hB.1) hS1
theorem x_cSv (X : xC p s m args c G own cc nL) (hP : xP G S H) (hS : va_S (xA G) s.heap H locs) (V : xLSt own index y bytes maxL ret n) (hM : xMv l G y bytes maxL ret fr lo As S S') (hR : fr + 1 ≤ R.frames ∧ 8 + (maxL + 11) + lo ≤ R.locals) (hAs : As.length = n) (hsz : ls.size = nL) (hst : st = As.reverse ++ rest) (hW : (rest.map fun v => v.category).sum ≤ 8) (hcs : cells + 0 ≤ R.cells ∧ slots + 0 ≤ R.slots) (hdg : decode cc pc = .ok (.invokestatic index, 3))
    (kk : ∀ (H : Heap) (locs : List Loc), xP G S' H → va_S (xA G) s.heap H locs → W p l e R s m args below meth c H locs cells slots Q (F0 m (pc + 3) ls rest)) : W p l e R s m args below meth c H locs cells slots Q (F0 m pc ls st) := by
  have hg := V.good
  obtain ⟨-, -, -, -, hd⟩ := V
  obtain ⟨hx, hb, hml, hown, hts, hE⟩ := X
  refine va_callv (S := xS) (va_runS (As := As) (rest := rest) ⟨hx, hb, hml, hown, hts⟩ hM (va_cwS n hts hg rfl rfl rfl hd hR) ⟨xI.blind _, fun U hU hW => ⟨rfl, by rw [hU]; exact hP, hE.at hS hW hU⟩⟩ rfl hAs hsz hst (lv_room hW) hdg hcs) hS (fun q _ h => h) (fun q h => h) (fun u t H1 locs1 ht hvm hw hB hz1 hk1 hS1 => ?_)
  subst hw
  exact kk H1 locs1 (by rw [← ht]; exact hB.1) hS1
theorem x_cNi {r : Int32} (X : xC p s m args c G own cc nL) (hP : xP G S H) (hS : va_S (xA G) s.heap H locs) (V : xLSN own index y bytes maxL ret n) (hM : xMi l G y bytes maxL ret fr lo As S r S') (hR : fr + 1 ≤ R.frames ∧ 8 + (maxL + 11) + lo ≤ R.locals) (hAs : As.length = n) (hsz : ls.size = nL) (hst : st = As.reverse ++ rest) (hW : (rest.map fun v => v.category).sum ≤ 8) (hcs : cells + 0 ≤ R.cells ∧ slots + 0 ≤ R.slots) (hdg : decode cc pc = .ok (.invokestatic index, 3))
    (kk : ∀ (H : Heap) (locs : List Loc), xP G S' H → va_S (xA G) s.heap H locs → W p l e R s m args below meth c H locs cells slots Q (F0 m (pc + 3) ls (.int r :: rest))) : W p l e R s m args below meth c H locs cells slots Q (F0 m pc ls st) := by
  obtain ⟨v1, v2, v3, v4, hd⟩ := V
  obtain ⟨hx, hb, hml, hown, hts, hE⟩ := X
  refine va_calli (S := xS) (va_runSN (As := As) (rest := rest) ⟨hx, hb, hml, hown, hts⟩ hM (⟨va_cnB n hts (xgoodC v4) rfl rfl rfl (hE.2.1.2 _ v1) (hts _ v3) hd hR, hts _ v2, trivial⟩) ⟨xI.blind _, fun U hU hW => ⟨rfl, by rw [hU]; exact hP, hE.at hS hW hU⟩⟩ rfl hAs hsz hst (lv_room hW) hdg hcs) hS (fun q _ h => h) (fun q h => h) (fun r1 u t H1 locs1 ht hvm hw hB hz1 hk1 hS1 => ?_)
  obtain ⟨rfl, rfl⟩ := hw
  exact kk H1 locs1 (by rw [← ht]; exact hB.1) hS1
theorem x_mabs {x : Int32} (X : xC p s m args c G own cc nL) (hlk : Cond.methodLink own index Lib.Math.abs.name ∈ xbig) (hsz : ls.size = nL) (hR : 1 ≤ R.frames ∧ (rest.map fun v => v.category).sum + 13 ≤ R.locals) (hcs : cells + 0 ≤ R.cells ∧ slots + 0 ≤ R.slots) (hdg : decode cc pc = .ok (.invokestatic index, 3))
    (kk : W p l e R s m args below meth c H locs cells slots Q (F0 m (pc + 3) ls (.int (xabs x) :: rest))) : W p l e R s m args below meth c H locs cells slots Q (F0 m pc ls (.int x :: rest)) := by
  obtain ⟨hx, hb, hml, hown, hts, hE⟩ := X
  exact va_mabs hx hb (hml.trans hsz.symm) hown (hts _ hlk) (hts _ kw_348) (hts _ kw_388) (hts _ kw_350) hR.1 hR.2 hcs.1 hcs.2 hdg kk
theorem x_mmax {x y : Int32} (X : xC p s m args c G own cc nL) (hlk : Cond.methodLink own index Lib.Math.max.name ∈ xbig) (hsz : ls.size = nL) (hR : 1 ≤ R.frames ∧ (rest.map fun v => v.category).sum + 13 ≤ R.locals) (hcs : cells + 0 ≤ R.cells ∧ slots + 0 ≤ R.slots) (hdg : decode cc pc = .ok (.invokestatic index, 3))
    (kk : W p l e R s m args below meth c H locs cells slots Q (F0 m (pc + 3) ls (.int (xmax x y) :: rest))) : W p l e R s m args below meth c H locs cells slots Q (F0 m pc ls (.int y :: .int x :: rest)) := by
  obtain ⟨hx, hb, hml, hown, hts, hE⟩ := X
  exact va_mmax hx hb (hml.trans hsz.symm) hown (hts _ hlk) (hts _ kw_384) (hts _ kw_388) (hts _ kw_385) hR.1 hR.2 hcs.1 hcs.2 hdg kk
theorem x_mmin {x y : Int32} (X : xC p s m args c G own cc nL) (hlk : Cond.methodLink own index Lib.Math.min.name ∈ xbig) (hsz : ls.size = nL) (hR : 1 ≤ R.frames ∧ (rest.map fun v => v.category).sum + 13 ≤ R.locals) (hcs : cells + 0 ≤ R.cells ∧ slots + 0 ≤ R.slots) (hdg : decode cc pc = .ok (.invokestatic index, 3))
    (kk : W p l e R s m args below meth c H locs cells slots Q (F0 m (pc + 3) ls (.int (xmin x y) :: rest))) : W p l e R s m args below meth c H locs cells slots Q (F0 m pc ls (.int y :: .int x :: rest)) := by
  obtain ⟨hx, hb, hml, hown, hts, hE⟩ := X
  exact va_mmin hx hb (hml.trans hsz.symm) hown (hts _ hlk) (hts _ kw_381) (hts _ kw_388) (hts _ kw_382) hR.1 hR.2 hcs.1 hcs.2 hdg kk
def xcp (sp dp n : Int32) (n1 n2 : Nat) : Bool := decide (0 ≤ sp.toInt ∧ 0 ≤ dp.toInt ∧ 0 ≤ n.toInt ∧ sp.toInt + n.toInt ≤ n1 ∧ dp.toInt + n.toInt ≤ n2)
def xcpS (S : xS) (q1 q2 : Nat) (sp dp n : Int32) : xS := xsf S q2 (va_cpy (S.1 q1) (S.1 q2) sp.toNatClampNeg dp.toNatClampNeg n.toNatClampNeg)
theorem x_copy {q1 q2 n1 n2 : Nat} {f1 f2 : List (Option Nat)} {sp dp k : Int32} (X : xC p s m args c G own cc nL) (hP : xP G S H) (hS : va_S (xA G) s.heap H locs) (hlk : Cond.methodLink own index arraycopyName ∈ xbig) (hsz : ls.size = nL) (h1 : q1 < 53) (h2 : q2 < 53) (hL1 : xlay q1 = (0, n1, f1)) (hL2 : xlay q2 = (0, n2, f2)) (hok : xcp sp dp k n1 n2 = true) (hR : 1 ≤ R.frames ∧ (rest.map fun v => v.category).sum + (nativeFrameWords "java/lang/System" "arraycopy" 5 + 11) ≤ R.locals) (hdg : decode cc pc = .ok (.invokestatic index, 3))
    (kk : ∀ (H : Heap) (locs : List Loc), xP G (xcpS S q1 q2 sp dp k) H → va_S (xA G) s.heap H locs → W p l e R s m args below meth c H locs cells slots Q (F0 m (pc + 3) ls rest)) : W p l e R s m args below meth c H locs cells slots Q (F0 m pc ls (.int k :: .int dp :: .ref (G.2.2 q2) :: .int sp :: .ref (G.2.2 q1) :: rest)) := by
  obtain ⟨hx, hb, hml, hown, hts, hE⟩ := X
  obtain ⟨b1, b2, b3, b4, b5⟩ := of_decide_eq_true hok
  have nn : ∀ z : Int32, 0 ≤ z.toInt → ¬ z < 0 := fun z hz h => by
    have := Int32.lt_iff_toInt_lt.mp h
    simp at this
    omega
  have e1 : sp.toNatClampNeg = sp.toInt.toNat := rfl
  have e2 : dp.toNatClampNeg = dp.toInt.toNat := rfl
  have e3 : k.toNatClampNeg = k.toInt.toNat := rfl
  refine va_copyi (ty := .int) hx hb (hml.trans hsz.symm) hown (hts _ hlk) (hts _ kw_787) (hts _ kw_788) (hts _ kw_789) hE.1 hP (xD hE.2.2.1 S) hS q1 q2 0 0 (by rw [xW_at h1, xc_i hL1]) (by rw [xW_at h2, xc_i hL2]) rfl rfl rfl (nn _ b1) (nn _ b2) (nn _ b3) (by omega) (by omega) (fun _ _ => rfl) hR.1 hR.2 hdg (fun H1 locs1 g1 _ g3 => ?_)
  refine kk H1 locs1 ?_ g3
  have hA : (xcpS S q1 q2 sp dp k).1 q2 = va_cpy (S.1 q1) (S.1 q2) sp.toNatClampNeg dp.toNatClampNeg k.toNatClampNeg := xsf_at S q2 _
  rw [← hA, ← xc_i (G := G) (S := xcpS S q1 q2 sp dp k) hL2, xW_set (S := S) (S' := xcpS S q1 q2 sp dp k) h2 (fun a ha => xsf_ne ha) (fun a _ => rfl)] at g1
  exact g1
end XRC
end
