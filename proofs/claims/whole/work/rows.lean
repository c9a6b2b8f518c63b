section
-- ===== PART A: goes FIRST, ahead of the names: the tables' words, and 'selects' of the private methods out of them =====
/-- a private method of a class that the tables say can be made, by its rows of tables_1 -/
def lw_okq (q : MethodName × Nat) : Prop := (q.1.cls ≠ "java/lang/invoke/MethodHandle" ∧ q.1.cls ≠ "java/lang/invoke/VarHandle") ∧ Cond.instantiable q.1.cls q.2 ∈ tables_1 ∧ Cond.privateMethod q.1 ∈ tables_1 ∧ Cond.instanceMethod q.1 ∈ tables_1
theorem lw_p0 : lw_okq (⟨"NotAnOx", "layScroll", "()V"⟩, 12) := ⟨⟨by decide +kernel, by decide +kernel⟩, List.mem_of_getElem? (i := 21) (by decide +kernel), List.mem_of_getElem? (i := 330) (by decide +kernel), List.mem_of_getElem? (i := 331) (by decide +kernel)⟩
theorem lw_p1 : lw_okq (⟨"NotAnOx$Reader", "readItem", "(LNotAnOx$Scroll;LNotAnOx$Land;)Z"⟩, 2) := ⟨⟨by decide +kernel, by decide +kernel⟩, List.mem_of_getElem? (i := 45) (by decide +kernel), List.mem_of_getElem? (i := 346) (by decide +kernel), List.mem_of_getElem? (i := 347) (by decide +kernel)⟩
theorem lw_p2 : lw_okq (⟨"NotAnOx$Reader", "readNumbers", "(LNotAnOx$Scroll;I)Z"⟩, 2) := ⟨⟨by decide +kernel, by decide +kernel⟩, List.mem_of_getElem? (i := 45) (by decide +kernel), List.mem_of_getElem? (i := 354) (by decide +kernel), List.mem_of_getElem? (i := 355) (by decide +kernel)⟩
theorem lw_p3 : lw_okq (⟨"NotAnOx$Reader", "readNumber", "(LNotAnOx$Scroll;)I"⟩, 2) := ⟨⟨by decide +kernel, by decide +kernel⟩, List.mem_of_getElem? (i := 45) (by decide +kernel), List.mem_of_getElem? (i := 358) (by decide +kernel), List.mem_of_getElem? (i := 359) (by decide +kernel)⟩
theorem lw_p4 : lw_okq (⟨"NotAnOx$Land", "isTold", "(I)Z"⟩, 8) := ⟨⟨by decide +kernel, by decide +kernel⟩, List.mem_of_getElem? (i := 59) (by decide +kernel), List.mem_of_getElem? (i := 373) (by decide +kernel), List.mem_of_getElem? (i := 374) (by decide +kernel)⟩
theorem lw_p5 : lw_okq (⟨"NotAnOx", "isVillage", "(I)Z"⟩, 12) := ⟨⟨by decide +kernel, by decide +kernel⟩, List.mem_of_getElem? (i := 21) (by decide +kernel), List.mem_of_getElem? (i := 468) (by decide +kernel), List.mem_of_getElem? (i := 469) (by decide +kernel)⟩
theorem lw_p6 : lw_okq (⟨"NotAnOx", "isParty", "(I)Z"⟩, 12) := ⟨⟨by decide +kernel, by decide +kernel⟩, List.mem_of_getElem? (i := 21) (by decide +kernel), List.mem_of_getElem? (i := 491) (by decide +kernel), List.mem_of_getElem? (i := 492) (by decide +kernel)⟩
theorem lw_p7 : lw_okq (⟨"NotAnOx$Pile", "slotOf", "(I)I"⟩, 3) := ⟨⟨by decide +kernel, by decide +kernel⟩, List.mem_of_getElem? (i := 151) (by decide +kernel), List.mem_of_getElem? (i := 518) (by decide +kernel), List.mem_of_getElem? (i := 519) (by decide +kernel)⟩
theorem lw_p8 : lw_okq (⟨"NotAnOx$Sharing", "walkFrom", "(II[I)V"⟩, 6) := ⟨⟨by decide +kernel, by decide +kernel⟩, List.mem_of_getElem? (i := 188) (by decide +kernel), List.mem_of_getElem? (i := 591) (by decide +kernel), List.mem_of_getElem? (i := 592) (by decide +kernel)⟩
theorem lw_p9 : lw_okq (⟨"NotAnOx$Sharing", "walkTo", "(III)I"⟩, 6) := ⟨⟨by decide +kernel, by decide +kernel⟩, List.mem_of_getElem? (i := 188) (by decide +kernel), List.mem_of_getElem? (i := 596) (by decide +kernel), List.mem_of_getElem? (i := 597) (by decide +kernel)⟩
theorem lw_p10 : lw_okq (⟨"NotAnOx$Sharing", "shareOut", "(II)V"⟩, 6) := ⟨⟨by decide +kernel, by decide +kernel⟩, List.mem_of_getElem? (i := 188) (by decide +kernel), List.mem_of_getElem? (i := 601) (by decide +kernel), List.mem_of_getElem? (i := 602) (by decide +kernel)⟩
theorem lw_p11 : lw_okq (⟨"NotAnOx$Sharing", "daysOfShares", "(LNotAnOx$Book;)I"⟩, 6) := ⟨⟨by decide +kernel, by decide +kernel⟩, List.mem_of_getElem? (i := 188) (by decide +kernel), List.mem_of_getElem? (i := 606) (by decide +kernel), List.mem_of_getElem? (i := 607) (by decide +kernel)⟩
theorem lw_p12 : lw_okq (⟨"NotAnOx", "bestOrder", "(IZ)I"⟩, 12) := ⟨⟨by decide +kernel, by decide +kernel⟩, List.mem_of_getElem? (i := 21) (by decide +kernel), List.mem_of_getElem? (i := 622) (by decide +kernel), List.mem_of_getElem? (i := 623) (by decide +kernel)⟩
theorem lw_p13 : lw_okq (⟨"NotAnOx$Orders", "goOn", "(I)V"⟩, 8) := ⟨⟨by decide +kernel, by decide +kernel⟩, List.mem_of_getElem? (i := 215) (by decide +kernel), List.mem_of_getElem? (i := 633) (by decide +kernel), List.mem_of_getElem? (i := 634) (by decide +kernel)⟩
theorem lw_p14 : lw_okq (⟨"NotAnOx$Orders", "weighOrder", "(I)V"⟩, 8) := ⟨⟨by decide +kernel, by decide +kernel⟩, List.mem_of_getElem? (i := 215) (by decide +kernel), List.mem_of_getElem? (i := 641) (by decide +kernel), List.mem_of_getElem? (i := 642) (by decide +kernel)⟩
theorem lw_p15 : lw_okq (⟨"NotAnOx", "bestChecks", "(I)I"⟩, 12) := ⟨⟨by decide +kernel, by decide +kernel⟩, List.mem_of_getElem? (i := 21) (by decide +kernel), List.mem_of_getElem? (i := 656) (by decide +kernel), List.mem_of_getElem? (i := 657) (by decide +kernel)⟩
def lw_privs_1 : List (MethodName × Nat) := [(⟨"NotAnOx", "layScroll", "()V"⟩, 12), (⟨"NotAnOx$Reader", "readItem", "(LNotAnOx$Scroll;LNotAnOx$Land;)Z"⟩, 2), (⟨"NotAnOx$Reader", "readNumbers", "(LNotAnOx$Scroll;I)Z"⟩, 2), (⟨"NotAnOx$Reader", "readNumber", "(LNotAnOx$Scroll;)I"⟩, 2), (⟨"NotAnOx$Land", "isTold", "(I)Z"⟩, 8), (⟨"NotAnOx", "isVillage", "(I)Z"⟩, 12), (⟨"NotAnOx", "isParty", "(I)Z"⟩, 12), (⟨"NotAnOx$Pile", "slotOf", "(I)I"⟩, 3), (⟨"NotAnOx$Sharing", "walkFrom", "(II[I)V"⟩, 6), (⟨"NotAnOx$Sharing", "walkTo", "(III)I"⟩, 6), (⟨"NotAnOx$Sharing", "shareOut", "(II)V"⟩, 6), (⟨"NotAnOx$Sharing", "daysOfShares", "(LNotAnOx$Book;)I"⟩, 6), (⟨"NotAnOx", "bestOrder", "(IZ)I"⟩, 12), (⟨"NotAnOx$Orders", "goOn", "(I)V"⟩, 8), (⟨"NotAnOx$Orders", "weighOrder", "(I)V"⟩, 8), (⟨"NotAnOx", "bestChecks", "(I)I"⟩, 12)]
theorem lw_r1 : ∀ q ∈ lw_privs_1, lw_okq q := List.forall_mem_cons.mpr ⟨lw_p0, List.forall_mem_cons.mpr ⟨lw_p1, List.forall_mem_cons.mpr ⟨lw_p2, List.forall_mem_cons.mpr ⟨lw_p3, List.forall_mem_cons.mpr ⟨lw_p4, List.forall_mem_cons.mpr ⟨lw_p5, List.forall_mem_cons.mpr ⟨lw_p6, List.forall_mem_cons.mpr ⟨lw_p7, List.forall_mem_cons.mpr ⟨lw_p8, List.forall_mem_cons.mpr ⟨lw_p9, List.forall_mem_cons.mpr ⟨lw_p10, List.forall_mem_cons.mpr ⟨lw_p11, List.forall_mem_cons.mpr ⟨lw_p12, List.forall_mem_cons.mpr ⟨lw_p13, List.forall_mem_cons.mpr ⟨lw_p14, List.forall_mem_cons.mpr ⟨lw_p15, fun _ h => absurd h List.not_mem_nil⟩⟩⟩⟩⟩⟩⟩⟩⟩⟩⟩⟩⟩⟩⟩⟩
theorem lw_p16 : lw_okq (⟨"NotAnOx$Chance", "foundWith", "(LNotAnOx$Book;I)I"⟩, 4) := ⟨⟨by decide +kernel, by decide +kernel⟩, List.mem_of_getElem? (i := 250) (by decide +kernel), List.mem_of_getElem? (i := 715) (by decide +kernel), List.mem_of_getElem? (i := 716) (by decide +kernel)⟩
theorem lw_p17 : lw_okq (⟨"NotAnOx", "stepByDraw", "(I)V"⟩, 12) := ⟨⟨by decide +kernel, by decide +kernel⟩, List.mem_of_getElem? (i := 21) (by decide +kernel), List.mem_of_getElem? (i := 738) (by decide +kernel), List.mem_of_getElem? (i := 739) (by decide +kernel)⟩
theorem lw_p18 : lw_okq (⟨"NotAnOxModel", "lives", "(III)V"⟩, 26) := ⟨⟨by decide +kernel, by decide +kernel⟩, List.mem_of_getElem? (i := 765) (by decide +kernel), List.mem_of_getElem? (i := 771) (by decide +kernel), List.mem_of_getElem? (i := 772) (by decide +kernel)⟩
theorem lw_p19 : lw_okq (⟨"NotAnOxModel", "joins", "(III)V"⟩, 26) := ⟨⟨by decide +kernel, by decide +kernel⟩, List.mem_of_getElem? (i := 765) (by decide +kernel), List.mem_of_getElem? (i := 775) (by decide +kernel), List.mem_of_getElem? (i := 776) (by decide +kernel)⟩
theorem lw_p20 : lw_okq (⟨"NotAnOxModel", "begins", "(II)V"⟩, 26) := ⟨⟨by decide +kernel, by decide +kernel⟩, List.mem_of_getElem? (i := 765) (by decide +kernel), List.mem_of_getElem? (i := 779) (by decide +kernel), List.mem_of_getElem? (i := 780) (by decide +kernel)⟩
theorem lw_p21 : lw_okq (⟨"NotAnOxModel", "settles", "()V"⟩, 26) := ⟨⟨by decide +kernel, by decide +kernel⟩, List.mem_of_getElem? (i := 765) (by decide +kernel), List.mem_of_getElem? (i := 783) (by decide +kernel), List.mem_of_getElem? (i := 784) (by decide +kernel)⟩
theorem lw_p22 : lw_okq (⟨"NotAnOxModel", "reads", "()Z"⟩, 26) := ⟨⟨by decide +kernel, by decide +kernel⟩, List.mem_of_getElem? (i := 765) (by decide +kernel), List.mem_of_getElem? (i := 886) (by decide +kernel), List.mem_of_getElem? (i := 887) (by decide +kernel)⟩
theorem lw_p23 : lw_okq (⟨"NotAnOxModel", "next", "()I"⟩, 26) := ⟨⟨by decide +kernel, by decide +kernel⟩, List.mem_of_getElem? (i := 765) (by decide +kernel), List.mem_of_getElem? (i := 890) (by decide +kernel), List.mem_of_getElem? (i := 891) (by decide +kernel)⟩
theorem lw_p24 : lw_okq (⟨"NotAnOxModel", "item", "(I)V"⟩, 26) := ⟨⟨by decide +kernel, by decide +kernel⟩, List.mem_of_getElem? (i := 765) (by decide +kernel), List.mem_of_getElem? (i := 894) (by decide +kernel), List.mem_of_getElem? (i := 895) (by decide +kernel)⟩
theorem lw_p25 : lw_okq (⟨"NotAnOxModel", "number", "(II)I"⟩, 26) := ⟨⟨by decide +kernel, by decide +kernel⟩, List.mem_of_getElem? (i := 765) (by decide +kernel), List.mem_of_getElem? (i := 898) (by decide +kernel), List.mem_of_getElem? (i := 899) (by decide +kernel)⟩
theorem lw_p26 : lw_okq (⟨"NotAnOxModel", "more", "(II)I"⟩, 26) := ⟨⟨by decide +kernel, by decide +kernel⟩, List.mem_of_getElem? (i := 765) (by decide +kernel), List.mem_of_getElem? (i := 904) (by decide +kernel), List.mem_of_getElem? (i := 905) (by decide +kernel)⟩
theorem lw_p27 : lw_okq (⟨"NotAnOxModel", "copied", "(II)V"⟩, 26) := ⟨⟨by decide +kernel, by decide +kernel⟩, List.mem_of_getElem? (i := 765) (by decide +kernel), List.mem_of_getElem? (i := 912) (by decide +kernel), List.mem_of_getElem? (i := 913) (by decide +kernel)⟩
theorem lw_p28 : lw_okq (⟨"NotAnOxModel", "isVillage", "(I)Z"⟩, 26) := ⟨⟨by decide +kernel, by decide +kernel⟩, List.mem_of_getElem? (i := 765) (by decide +kernel), List.mem_of_getElem? (i := 920) (by decide +kernel), List.mem_of_getElem? (i := 921) (by decide +kernel)⟩
theorem lw_p29 : lw_okq (⟨"NotAnOxModel", "isIn", "(I)Z"⟩, 26) := ⟨⟨by decide +kernel, by decide +kernel⟩, List.mem_of_getElem? (i := 765) (by decide +kernel), List.mem_of_getElem? (i := 925) (by decide +kernel), List.mem_of_getElem? (i := 926) (by decide +kernel)⟩
theorem lw_p30 : lw_okq (⟨"NotAnOxModel", "sworn", "(III)I"⟩, 26) := ⟨⟨by decide +kernel, by decide +kernel⟩, List.mem_of_getElem? (i := 765) (by decide +kernel), List.mem_of_getElem? (i := 932) (by decide +kernel), List.mem_of_getElem? (i := 933) (by decide +kernel)⟩
theorem lw_p31 : lw_okq (⟨"NotAnOxModel", "lowest", "(II)I"⟩, 26) := ⟨⟨by decide +kernel, by decide +kernel⟩, List.mem_of_getElem? (i := 765) (by decide +kernel), List.mem_of_getElem? (i := 936) (by decide +kernel), List.mem_of_getElem? (i := 937) (by decide +kernel)⟩
def lw_privs_2 : List (MethodName × Nat) := [(⟨"NotAnOx$Chance", "foundWith", "(LNotAnOx$Book;I)I"⟩, 4), (⟨"NotAnOx", "stepByDraw", "(I)V"⟩, 12), (⟨"NotAnOxModel", "lives", "(III)V"⟩, 26), (⟨"NotAnOxModel", "joins", "(III)V"⟩, 26), (⟨"NotAnOxModel", "begins", "(II)V"⟩, 26), (⟨"NotAnOxModel", "settles", "()V"⟩, 26), (⟨"NotAnOxModel", "reads", "()Z"⟩, 26), (⟨"NotAnOxModel", "next", "()I"⟩, 26), (⟨"NotAnOxModel", "item", "(I)V"⟩, 26), (⟨"NotAnOxModel", "number", "(II)I"⟩, 26), (⟨"NotAnOxModel", "more", "(II)I"⟩, 26), (⟨"NotAnOxModel", "copied", "(II)V"⟩, 26), (⟨"NotAnOxModel", "isVillage", "(I)Z"⟩, 26), (⟨"NotAnOxModel", "isIn", "(I)Z"⟩, 26), (⟨"NotAnOxModel", "sworn", "(III)I"⟩, 26), (⟨"NotAnOxModel", "lowest", "(II)I"⟩, 26)]
theorem lw_r2 : ∀ q ∈ lw_privs_2, lw_okq q := List.forall_mem_cons.mpr ⟨lw_p16, List.forall_mem_cons.mpr ⟨lw_p17, List.forall_mem_cons.mpr ⟨lw_p18, List.forall_mem_cons.mpr ⟨lw_p19, List.forall_mem_cons.mpr ⟨lw_p20, List.forall_mem_cons.mpr ⟨lw_p21, List.forall_mem_cons.mpr ⟨lw_p22, List.forall_mem_cons.mpr ⟨lw_p23, List.forall_mem_cons.mpr ⟨lw_p24, List.forall_mem_cons.mpr ⟨lw_p25, List.forall_mem_cons.mpr ⟨lw_p26, List.forall_mem_cons.mpr ⟨lw_p27, List.forall_mem_cons.mpr ⟨lw_p28, List.forall_mem_cons.mpr ⟨lw_p29, List.forall_mem_cons.mpr ⟨lw_p30, List.forall_mem_cons.mpr ⟨lw_p31, fun _ h => absurd h List.not_mem_nil⟩⟩⟩⟩⟩⟩⟩⟩⟩⟩⟩⟩⟩⟩⟩⟩
theorem lw_p32 : lw_okq (⟨"NotAnOxModel", "besides", "(I)I"⟩, 26) := ⟨⟨by decide +kernel, by decide +kernel⟩, List.mem_of_getElem? (i := 765) (by decide +kernel), List.mem_of_getElem? (i := 940) (by decide +kernel), List.mem_of_getElem? (i := 941) (by decide +kernel)⟩
theorem lw_p33 : lw_okq (⟨"NotAnOxModel", "areNear", "(II)Z"⟩, 26) := ⟨⟨by decide +kernel, by decide +kernel⟩, List.mem_of_getElem? (i := 765) (by decide +kernel), List.mem_of_getElem? (i := 944) (by decide +kernel), List.mem_of_getElem? (i := 945) (by decide +kernel)⟩
theorem lw_p34 : lw_okq (⟨"NotAnOxModel", "isBesideHonest", "(II)Z"⟩, 26) := ⟨⟨by decide +kernel, by decide +kernel⟩, List.mem_of_getElem? (i := 765) (by decide +kernel), List.mem_of_getElem? (i := 948) (by decide +kernel), List.mem_of_getElem? (i := 949) (by decide +kernel)⟩
theorem lw_p35 : lw_okq (⟨"NotAnOxModel", "canAsk", "(III)Z"⟩, 26) := ⟨⟨by decide +kernel, by decide +kernel⟩, List.mem_of_getElem? (i := 765) (by decide +kernel), List.mem_of_getElem? (i := 964) (by decide +kernel), List.mem_of_getElem? (i := 965) (by decide +kernel)⟩
theorem lw_p36 : lw_okq (⟨"NotAnOxModel", "known", "()V"⟩, 26) := ⟨⟨by decide +kernel, by decide +kernel⟩, List.mem_of_getElem? (i := 765) (by decide +kernel), List.mem_of_getElem? (i := 968) (by decide +kernel), List.mem_of_getElem? (i := 969) (by decide +kernel)⟩
theorem lw_p37 : lw_okq (⟨"NotAnOxModel", "asks", "(III)I"⟩, 26) := ⟨⟨by decide +kernel, by decide +kernel⟩, List.mem_of_getElem? (i := 765) (by decide +kernel), List.mem_of_getElem? (i := 972) (by decide +kernel), List.mem_of_getElem? (i := 973) (by decide +kernel)⟩
theorem lw_p38 : lw_okq (⟨"NotAnOxModel", "writes", "(II)I"⟩, 26) := ⟨⟨by decide +kernel, by decide +kernel⟩, List.mem_of_getElem? (i := 765) (by decide +kernel), List.mem_of_getElem? (i := 976) (by decide +kernel), List.mem_of_getElem? (i := 977) (by decide +kernel)⟩
theorem lw_p39 : lw_okq (⟨"NotAnOxModel", "canCheck", "(II)Z"⟩, 26) := ⟨⟨by decide +kernel, by decide +kernel⟩, List.mem_of_getElem? (i := 765) (by decide +kernel), List.mem_of_getElem? (i := 984) (by decide +kernel), List.mem_of_getElem? (i := 985) (by decide +kernel)⟩
theorem lw_p40 : lw_okq (⟨"NotAnOxModel", "checked", "(II)V"⟩, 26) := ⟨⟨by decide +kernel, by decide +kernel⟩, List.mem_of_getElem? (i := 765) (by decide +kernel), List.mem_of_getElem? (i := 988) (by decide +kernel), List.mem_of_getElem? (i := 989) (by decide +kernel)⟩
theorem lw_p41 : lw_okq (⟨"NotAnOxModel", "struck", "(II)V"⟩, 26) := ⟨⟨by decide +kernel, by decide +kernel⟩, List.mem_of_getElem? (i := 765) (by decide +kernel), List.mem_of_getElem? (i := 996) (by decide +kernel), List.mem_of_getElem? (i := 997) (by decide +kernel)⟩
theorem lw_p42 : lw_okq (⟨"NotAnOxModel", "rest", "()I"⟩, 26) := ⟨⟨by decide +kernel, by decide +kernel⟩, List.mem_of_getElem? (i := 765) (by decide +kernel), List.mem_of_getElem? (i := 1009) (by decide +kernel), List.mem_of_getElem? (i := 1010) (by decide +kernel)⟩
theorem lw_p43 : lw_okq (⟨"NotAnOxModel", "routes", "(I)V"⟩, 26) := ⟨⟨by decide +kernel, by decide +kernel⟩, List.mem_of_getElem? (i := 765) (by decide +kernel), List.mem_of_getElem? (i := 1013) (by decide +kernel), List.mem_of_getElem? (i := 1014) (by decide +kernel)⟩
theorem lw_p44 : lw_okq (⟨"NotAnOxModel", "takes", "(I)I"⟩, 26) := ⟨⟨by decide +kernel, by decide +kernel⟩, List.mem_of_getElem? (i := 765) (by decide +kernel), List.mem_of_getElem? (i := 1018) (by decide +kernel), List.mem_of_getElem? (i := 1019) (by decide +kernel)⟩
theorem lw_p45 : lw_okq (⟨"NotAnOxModel", "askedBy", "(II)I"⟩, 26) := ⟨⟨by decide +kernel, by decide +kernel⟩, List.mem_of_getElem? (i := 765) (by decide +kernel), List.mem_of_getElem? (i := 1022) (by decide +kernel), List.mem_of_getElem? (i := 1023) (by decide +kernel)⟩
theorem lw_p46 : lw_okq (⟨"NotAnOxModel", "ordered", "(IZ)I"⟩, 26) := ⟨⟨by decide +kernel, by decide +kernel⟩, List.mem_of_getElem? (i := 765) (by decide +kernel), List.mem_of_getElem? (i := 1033) (by decide +kernel), List.mem_of_getElem? (i := 1034) (by decide +kernel)⟩
theorem lw_p47 : lw_okq (⟨"NotAnOxModel", "orders", "(Z)I"⟩, 26) := ⟨⟨by decide +kernel, by decide +kernel⟩, List.mem_of_getElem? (i := 765) (by decide +kernel), List.mem_of_getElem? (i := 1038) (by decide +kernel), List.mem_of_getElem? (i := 1039) (by decide +kernel)⟩
def lw_privs_3 : List (MethodName × Nat) := [(⟨"NotAnOxModel", "besides", "(I)I"⟩, 26), (⟨"NotAnOxModel", "areNear", "(II)Z"⟩, 26), (⟨"NotAnOxModel", "isBesideHonest", "(II)Z"⟩, 26), (⟨"NotAnOxModel", "canAsk", "(III)Z"⟩, 26), (⟨"NotAnOxModel", "known", "()V"⟩, 26), (⟨"NotAnOxModel", "asks", "(III)I"⟩, 26), (⟨"NotAnOxModel", "writes", "(II)I"⟩, 26), (⟨"NotAnOxModel", "canCheck", "(II)Z"⟩, 26), (⟨"NotAnOxModel", "checked", "(II)V"⟩, 26), (⟨"NotAnOxModel", "struck", "(II)V"⟩, 26), (⟨"NotAnOxModel", "rest", "()I"⟩, 26), (⟨"NotAnOxModel", "routes", "(I)V"⟩, 26), (⟨"NotAnOxModel", "takes", "(I)I"⟩, 26), (⟨"NotAnOxModel", "askedBy", "(II)I"⟩, 26), (⟨"NotAnOxModel", "ordered", "(IZ)I"⟩, 26), (⟨"NotAnOxModel", "orders", "(Z)I"⟩, 26)]
theorem lw_r3 : ∀ q ∈ lw_privs_3, lw_okq q := List.forall_mem_cons.mpr ⟨lw_p32, List.forall_mem_cons.mpr ⟨lw_p33, List.forall_mem_cons.mpr ⟨lw_p34, List.forall_mem_cons.mpr ⟨lw_p35, List.forall_mem_cons.mpr ⟨lw_p36, List.forall_mem_cons.mpr ⟨lw_p37, List.forall_mem_cons.mpr ⟨lw_p38, List.forall_mem_cons.mpr ⟨lw_p39, List.forall_mem_cons.mpr ⟨lw_p40, List.forall_mem_cons.mpr ⟨lw_p41, List.forall_mem_cons.mpr ⟨lw_p42, List.forall_mem_cons.mpr ⟨lw_p43, List.forall_mem_cons.mpr ⟨lw_p44, List.forall_mem_cons.mpr ⟨lw_p45, List.forall_mem_cons.mpr ⟨lw_p46, List.forall_mem_cons.mpr ⟨lw_p47, fun _ h => absurd h List.not_mem_nil⟩⟩⟩⟩⟩⟩⟩⟩⟩⟩⟩⟩⟩⟩⟩⟩
theorem lw_p48 : lw_okq (⟨"NotAnOxModel", "lists", "()V"⟩, 26) := ⟨⟨by decide +kernel, by decide +kernel⟩, List.mem_of_getElem? (i := 765) (by decide +kernel), List.mem_of_getElem? (i := 1042) (by decide +kernel), List.mem_of_getElem? (i := 1043) (by decide +kernel)⟩
theorem lw_p49 : lw_okq (⟨"NotAnOxModel", "found", "(I)I"⟩, 26) := ⟨⟨by decide +kernel, by decide +kernel⟩, List.mem_of_getElem? (i := 765) (by decide +kernel), List.mem_of_getElem? (i := 1046) (by decide +kernel), List.mem_of_getElem? (i := 1047) (by decide +kernel)⟩
theorem lw_p50 : lw_okq (⟨"NotAnOxModel", "goesOn", "()Z"⟩, 26) := ⟨⟨by decide +kernel, by decide +kernel⟩, List.mem_of_getElem? (i := 765) (by decide +kernel), List.mem_of_getElem? (i := 1050) (by decide +kernel), List.mem_of_getElem? (i := 1051) (by decide +kernel)⟩
theorem lw_p51 : lw_okq (⟨"NotAnOxModel", "swaps", "(II)V"⟩, 26) := ⟨⟨by decide +kernel, by decide +kernel⟩, List.mem_of_getElem? (i := 765) (by decide +kernel), List.mem_of_getElem? (i := 1054) (by decide +kernel), List.mem_of_getElem? (i := 1055) (by decide +kernel)⟩
theorem lw_p52 : lw_okq (⟨"NotAnOxModel", "mostDays", "(I)I"⟩, 26) := ⟨⟨by decide +kernel, by decide +kernel⟩, List.mem_of_getElem? (i := 765) (by decide +kernel), List.mem_of_getElem? (i := 1107) (by decide +kernel), List.mem_of_getElem? (i := 1108) (by decide +kernel)⟩
theorem lw_p53 : lw_okq (⟨"NotAnOxModel", "oxen", "()I"⟩, 26) := ⟨⟨by decide +kernel, by decide +kernel⟩, List.mem_of_getElem? (i := 765) (by decide +kernel), List.mem_of_getElem? (i := 1123) (by decide +kernel), List.mem_of_getElem? (i := 1124) (by decide +kernel)⟩
def lw_privs_4 : List (MethodName × Nat) := [(⟨"NotAnOxModel", "lists", "()V"⟩, 26), (⟨"NotAnOxModel", "found", "(I)I"⟩, 26), (⟨"NotAnOxModel", "goesOn", "()Z"⟩, 26), (⟨"NotAnOxModel", "swaps", "(II)V"⟩, 26), (⟨"NotAnOxModel", "mostDays", "(I)I"⟩, 26), (⟨"NotAnOxModel", "oxen", "()I"⟩, 26)]
theorem lw_r4 : ∀ q ∈ lw_privs_4, lw_okq q := List.forall_mem_cons.mpr ⟨lw_p48, List.forall_mem_cons.mpr ⟨lw_p49, List.forall_mem_cons.mpr ⟨lw_p50, List.forall_mem_cons.mpr ⟨lw_p51, List.forall_mem_cons.mpr ⟨lw_p52, List.forall_mem_cons.mpr ⟨lw_p53, fun _ h => absurd h List.not_mem_nil⟩⟩⟩⟩⟩⟩
def lw_privs : List (MethodName × Nat) := lw_privs_1 ++ (lw_privs_2 ++ (lw_privs_3 ++ (lw_privs_4)))
def lw_tbl : List Cond := k2_sels lw_privs ++ tables_1
theorem lw_privs_ok : ∀ q ∈ lw_privs, lw_okq q := by
  show ∀ q ∈ lw_privs_1 ++ (lw_privs_2 ++ (lw_privs_3 ++ (lw_privs_4))), lw_okq q
  exact List.forall_mem_append.mpr ⟨lw_r1, List.forall_mem_append.mpr ⟨lw_r2, List.forall_mem_append.mpr ⟨lw_r3, lw_r4⟩⟩⟩
end
section
/-! Names of the classes, fields and methods: picked by a program out of the printed names of this claim -/
def RX0 : String := "NotAnOx$Book"
def TX0 : u_T := fun k => match k with
  | 0 => ("NotAnOx$Book", "land", "LNotAnOx$Land;", true)
  | 1 => ("NotAnOx$Book", "oxen", "[I", true)
  | 2 => ("NotAnOx$Book", "written", "[I", true)
  | 3 => ("NotAnOx$Book", "place", "[I", true)
  | 4 => ("NotAnOx$Book", "days", "[I", true)
  | 5 => ("NotAnOx$Book", "inBook", "I", false)
  | _ => ("NotAnOx$Book", "checked", "I", false)
def tyX0 : Nat → FieldType := fun k => match k with
  | 0 => .object "NotAnOx$Land"
  | 1 => .array .int
  | 2 => .array .int
  | 3 => .array .int
  | 4 => .array .int
  | 5 => .int
  | _ => .int
theorem nmX0 : ∀ a, a < 7 → ∀ b, b < 7 → a ≠ b → (TX0 a).2.1 ≠ (TX0 b).2.1 := by decide +kernel
theorem tyX0_ok : ∀ k, k < 7 → parseFieldDescriptor (TX0 k).2.2.1 = some (tyX0 k) := by decide +kernel
abbrev cX0_init : ByteArray := prog_2_method_1_code
def yX0_init : MethodName := ⟨RX0, "<init>", "(LNotAnOx$Land;)V"⟩
abbrev cX0_open : ByteArray := prog_2_method_2_code
def yX0_open : MethodName := ⟨RX0, "open", "()V"⟩
abbrev cX0_copyFrom : ByteArray := prog_2_method_3_code
def yX0_copyFrom : MethodName := ⟨RX0, "copyFrom", "(LNotAnOx$Book;)V"⟩
abbrev cX0_copyEntries : ByteArray := prog_2_method_4_code
def yX0_copyEntries : MethodName := ⟨RX0, "copyEntries", "(LNotAnOx$Book;)V"⟩
abbrev cX0_holds : ByteArray := prog_2_method_5_code
def yX0_holds : MethodName := ⟨RX0, "holds", "(I)Z"⟩
abbrev cX0_isChecked : ByteArray := prog_2_method_6_code
def yX0_isChecked : MethodName := ⟨RX0, "isChecked", "(I)Z"⟩
abbrev cX0_canBeChecked : ByteArray := prog_2_method_7_code
def yX0_canBeChecked : MethodName := ⟨RX0, "canBeChecked", "(I)Z"⟩
abbrev cX0_canBeAsked : ByteArray := prog_2_method_8_code
def yX0_canBeAsked : MethodName := ⟨RX0, "canBeAsked", "(II)Z"⟩
abbrev cX0_rest : ByteArray := prog_2_method_9_code
def yX0_rest : MethodName := ⟨RX0, "rest", "()I"⟩
abbrev cX0_restSize : ByteArray := prog_2_method_10_code
def yX0_restSize : MethodName := ⟨RX0, "restSize", "()I"⟩
abbrev cX0_sworn : ByteArray := prog_2_method_11_code
def yX0_sworn : MethodName := ⟨RX0, "sworn", "(III)I"⟩
abbrev cX0_swear : ByteArray := prog_2_method_12_code
def yX0_swear : MethodName := ⟨RX0, "swear", "(III)I"⟩
abbrev cX0_askBy : ByteArray := prog_2_method_13_code
def yX0_askBy : MethodName := ⟨RX0, "askBy", "(II)I"⟩
abbrev cX0_writeOxen : ByteArray := prog_2_method_14_code
def yX0_writeOxen : MethodName := ⟨RX0, "writeOxen", "(I)I"⟩
abbrev cX0_strikeOut : ByteArray := prog_2_method_15_code
def yX0_strikeOut : MethodName := ⟨RX0, "strikeOut", "(I)I"⟩
abbrev cX0_found : ByteArray := prog_2_method_16_code
def yX0_found : MethodName := ⟨RX0, "found", "()I"⟩
abbrev cX0_allOxen : ByteArray := prog_2_method_17_code
def yX0_allOxen : MethodName := ⟨RX0, "allOxen", "()I"⟩
abbrev cX0_mostDays : ByteArray := prog_2_method_18_code
def yX0_mostDays : MethodName := ⟨RX0, "mostDays", "()I"⟩
abbrev cX0_gainOf : ByteArray := prog_2_method_19_code
def yX0_gainOf : MethodName := ⟨RX0, "gainOf", "(I)I"⟩
abbrev cX0_hasTwin : ByteArray := prog_2_method_20_code
def yX0_hasTwin : MethodName := ⟨RX0, "hasTwin", "(I)Z"⟩
def RX1 : String := "NotAnOx$Chance"
def TX1 : u_T := fun k => match k with
  | 0 => ("NotAnOx$Chance", "land", "LNotAnOx$Land;", true)
  | 1 => ("NotAnOx$Chance", "trial", "LNotAnOx$Book;", true)
  | 2 => ("NotAnOx$Chance", "above", "I", false)
  | _ => ("NotAnOx$Chance", "below", "I", false)
def tyX1 : Nat → FieldType := fun k => match k with
  | 0 => .object "NotAnOx$Land"
  | 1 => .object "NotAnOx$Book"
  | 2 => .int
  | _ => .int
theorem nmX1 : ∀ a, a < 4 → ∀ b, b < 4 → a ≠ b → (TX1 a).2.1 ≠ (TX1 b).2.1 := by decide +kernel
theorem tyX1_ok : ∀ k, k < 4 → parseFieldDescriptor (TX1 k).2.2.1 = some (tyX1 k) := by decide +kernel
abbrev cX1_init : ByteArray := prog_3_method_1_code
def yX1_init : MethodName := ⟨RX1, "<init>", "(LNotAnOx$Land;)V"⟩
abbrev cX1_weigh : ByteArray := prog_3_method_2_code
def yX1_weigh : MethodName := ⟨RX1, "weigh", "(LNotAnOx$Book;II)V"⟩
abbrev cX1_weightOf : ByteArray := prog_3_method_3_code
def yX1_weightOf : MethodName := ⟨RX1, "weightOf", "(III)I"⟩
abbrev cX1_foundWith : ByteArray := prog_3_method_4_code
def yX1_foundWith : MethodName := ⟨RX1, "foundWith", "(LNotAnOx$Book;I)I"⟩
abbrev cX1_commonDivisor : ByteArray := prog_3_method_5_code
def yX1_commonDivisor : MethodName := ⟨RX1, "commonDivisor", "(II)I"⟩
def RX2 : String := "NotAnOx$Land"
def TX2 : u_T := fun k => match k with
  | 0 => ("NotAnOx$Land", "kind", "[I", true)
  | 1 => ("NotAnOx$Land", "oxen", "[I", true)
  | 2 => ("NotAnOx$Land", "start", "[I", true)
  | 3 => ("NotAnOx$Land", "near", "[I", true)
  | 4 => ("NotAnOx$Land", "far", "[[I", true)
  | 5 => ("NotAnOx$Land", "villages", "I", false)
  | 6 => ("NotAnOx$Land", "parties", "I", false)
  | _ => ("NotAnOx$Land", "honestOnes", "I", false)
def tyX2 : Nat → FieldType := fun k => match k with
  | 0 => .array .int
  | 1 => .array .int
  | 2 => .array .int
  | 3 => .array .int
  | 4 => .array (.array .int)
  | 5 => .int
  | 6 => .int
  | _ => .int
theorem nmX2 : ∀ a, a < 8 → ∀ b, b < 8 → a ≠ b → (TX2 a).2.1 ≠ (TX2 b).2.1 := by decide +kernel
theorem tyX2_ok : ∀ k, k < 8 → parseFieldDescriptor (TX2 k).2.2.1 = some (tyX2 k) := by decide +kernel
abbrev cX2_init : ByteArray := prog_4_method_1_code
def yX2_init : MethodName := ⟨RX2, "<init>", "()V"⟩
abbrev cX2_clear : ByteArray := prog_4_method_2_code
def yX2_clear : MethodName := ⟨RX2, "clear", "()V"⟩
abbrev cX2_addVillage : ByteArray := prog_4_method_3_code
def yX2_addVillage : MethodName := ⟨RX2, "addVillage", "(II)Z"⟩
abbrev cX2_addWay : ByteArray := prog_4_method_4_code
def yX2_addWay : MethodName := ⟨RX2, "addWay", "(III)Z"⟩
abbrev cX2_addParty : ByteArray := prog_4_method_5_code
def yX2_addParty : MethodName := ⟨RX2, "addParty", "(I)Z"⟩
abbrev cX2_isTold : ByteArray := prog_4_method_6_code
def yX2_isTold : MethodName := ⟨RX2, "isTold", "(I)Z"⟩
abbrev cX2_measure : ByteArray := prog_4_method_7_code
def yX2_measure : MethodName := ⟨RX2, "measure", "()V"⟩
def RX3 : String := "NotAnOx$Orders"
def TX3 : u_T := fun k => match k with
  | 0 => ("NotAnOx$Orders", "land", "LNotAnOx$Land;", true)
  | 1 => ("NotAnOx$Orders", "levels", "[LNotAnOx$Book;", true)
  | 2 => ("NotAnOx$Orders", "order", "[I", true)
  | 3 => ("NotAnOx$Orders", "best", "[I", true)
  | 4 => ("NotAnOx$Orders", "upwards", "Z", false)
  | 5 => ("NotAnOx$Orders", "hasBest", "Z", false)
  | 6 => ("NotAnOx$Orders", "restSize", "I", false)
  | _ => ("NotAnOx$Orders", "bestFound", "I", false)
def tyX3 : Nat → FieldType := fun k => match k with
  | 0 => .object "NotAnOx$Land"
  | 1 => .array (.object "NotAnOx$Book")
  | 2 => .array .int
  | 3 => .array .int
  | 4 => .boolean
  | 5 => .boolean
  | 6 => .int
  | _ => .int
theorem nmX3 : ∀ a, a < 8 → ∀ b, b < 8 → a ≠ b → (TX3 a).2.1 ≠ (TX3 b).2.1 := by decide +kernel
theorem tyX3_ok : ∀ k, k < 8 → parseFieldDescriptor (TX3 k).2.2.1 = some (tyX3 k) := by decide +kernel
abbrev cX3_init : ByteArray := prog_5_method_1_code
def yX3_init : MethodName := ⟨RX3, "<init>", "(LNotAnOx$Land;)V"⟩
abbrev cX3_seek : ByteArray := prog_5_method_2_code
def yX3_seek : MethodName := ⟨RX3, "seek", "(LNotAnOx$Book;Z)V"⟩
abbrev cX3_goOn : ByteArray := prog_5_method_3_code
def yX3_goOn : MethodName := ⟨RX3, "goOn", "(I)V"⟩
abbrev cX3_weighOrder : ByteArray := prog_5_method_4_code
def yX3_weighOrder : MethodName := ⟨RX3, "weighOrder", "(I)V"⟩
def RX4 : String := "NotAnOx$Pile"
def TX4 : u_T := fun k => match k with
  | 0 => ("NotAnOx$Pile", "books", "[LNotAnOx$Book;", true)
  | 1 => ("NotAnOx$Pile", "oldest", "I", false)
  | _ => ("NotAnOx$Pile", "size", "I", false)
def tyX4 : Nat → FieldType := fun k => match k with
  | 0 => .array (.object "NotAnOx$Book")
  | 1 => .int
  | _ => .int
theorem nmX4 : ∀ a, a < 3 → ∀ b, b < 3 → a ≠ b → (TX4 a).2.1 ≠ (TX4 b).2.1 := by decide +kernel
theorem tyX4_ok : ∀ k, k < 3 → parseFieldDescriptor (TX4 k).2.2.1 = some (tyX4 k) := by decide +kernel
abbrev cX4_init : ByteArray := prog_6_method_1_code
def yX4_init : MethodName := ⟨RX4, "<init>", "(LNotAnOx$Land;I)V"⟩
abbrev cX4_isFull : ByteArray := prog_6_method_2_code
def yX4_isFull : MethodName := ⟨RX4, "isFull", "()Z"⟩
abbrev cX4_clear : ByteArray := prog_6_method_3_code
def yX4_clear : MethodName := ⟨RX4, "clear", "()V"⟩
abbrev cX4_push : ByteArray := prog_6_method_4_code
def yX4_push : MethodName := ⟨RX4, "push", "(LNotAnOx$Book;)V"⟩
abbrev cX4_popInto : ByteArray := prog_6_method_5_code
def yX4_popInto : MethodName := ⟨RX4, "popInto", "(LNotAnOx$Book;)V"⟩
abbrev cX4_slotOf : ByteArray := prog_6_method_6_code
def yX4_slotOf : MethodName := ⟨RX4, "slotOf", "(I)I"⟩
def RX5 : String := "NotAnOx$Reader"
def TX5 : u_T := fun k => match k with
  | 0 => ("NotAnOx$Reader", "numbers", "[I", true)
  | _ => ("NotAnOx$Reader", "place", "I", false)
def tyX5 : Nat → FieldType := fun k => match k with
  | 0 => .array .int
  | _ => .int
theorem nmX5 : ∀ a, a < 2 → ∀ b, b < 2 → a ≠ b → (TX5 a).2.1 ≠ (TX5 b).2.1 := by decide +kernel
theorem tyX5_ok : ∀ k, k < 2 → parseFieldDescriptor (TX5 k).2.2.1 = some (tyX5 k) := by decide +kernel
abbrev cX5_init : ByteArray := prog_7_method_1_code
def yX5_init : MethodName := ⟨RX5, "<init>", "()V"⟩
abbrev cX5_readAll : ByteArray := prog_7_method_2_code
def yX5_readAll : MethodName := ⟨RX5, "readAll", "(LNotAnOx$Scroll;LNotAnOx$Land;)I"⟩
abbrev cX5_readItem : ByteArray := prog_7_method_3_code
def yX5_readItem : MethodName := ⟨RX5, "readItem", "(LNotAnOx$Scroll;LNotAnOx$Land;)Z"⟩
abbrev cX5_readNumbers : ByteArray := prog_7_method_4_code
def yX5_readNumbers : MethodName := ⟨RX5, "readNumbers", "(LNotAnOx$Scroll;I)Z"⟩
abbrev cX5_readNumber : ByteArray := prog_7_method_5_code
def yX5_readNumber : MethodName := ⟨RX5, "readNumber", "(LNotAnOx$Scroll;)I"⟩
def RX6 : String := "NotAnOx$Scroll"
def TX6 : u_T := fun k => match k with
  | 0 => ("NotAnOx$Scroll", "letters", "[C", true)
  | _ => ("NotAnOx$Scroll", "size", "I", false)
def tyX6 : Nat → FieldType := fun k => match k with
  | 0 => .array .char
  | _ => .int
theorem nmX6 : ∀ a, a < 2 → ∀ b, b < 2 → a ≠ b → (TX6 a).2.1 ≠ (TX6 b).2.1 := by decide +kernel
theorem tyX6_ok : ∀ k, k < 2 → parseFieldDescriptor (TX6 k).2.2.1 = some (tyX6 k) := by decide +kernel
abbrev cX6_init : ByteArray := prog_8_method_1_code
def yX6_init : MethodName := ⟨RX6, "<init>", "()V"⟩
abbrev cX6_isFull : ByteArray := prog_8_method_2_code
def yX6_isFull : MethodName := ⟨RX6, "isFull", "()Z"⟩
abbrev cX6_add : ByteArray := prog_8_method_3_code
def yX6_add : MethodName := ⟨RX6, "add", "(C)V"⟩
abbrev cX6_clear : ByteArray := prog_8_method_4_code
def yX6_clear : MethodName := ⟨RX6, "clear", "()V"⟩
abbrev cX6_letterAt : ByteArray := prog_8_method_5_code
def yX6_letterAt : MethodName := ⟨RX6, "letterAt", "(I)C"⟩
def RX7 : String := "NotAnOx$Sharing"
def TX7 : u_T := fun k => match k with
  | 0 => ("NotAnOx$Sharing", "land", "LNotAnOx$Land;", true)
  | 1 => ("NotAnOx$Sharing", "walk", "[I", true)
  | 2 => ("NotAnOx$Sharing", "shortest", "[[I", true)
  | 3 => ("NotAnOx$Sharing", "share", "[I", true)
  | 4 => ("NotAnOx$Sharing", "bestShare", "[I", true)
  | _ => ("NotAnOx$Sharing", "fewest", "I", false)
def tyX7 : Nat → FieldType := fun k => match k with
  | 0 => .object "NotAnOx$Land"
  | 1 => .array .int
  | 2 => .array (.array .int)
  | 3 => .array .int
  | 4 => .array .int
  | _ => .int
theorem nmX7 : ∀ a, a < 6 → ∀ b, b < 6 → a ≠ b → (TX7 a).2.1 ≠ (TX7 b).2.1 := by decide +kernel
theorem tyX7_ok : ∀ k, k < 6 → parseFieldDescriptor (TX7 k).2.2.1 = some (tyX7 k) := by decide +kernel
abbrev cX7_init : ByteArray := prog_9_method_1_code
def yX7_init : MethodName := ⟨RX7, "<init>", "(LNotAnOx$Land;)V"⟩
abbrev cX7_seek : ByteArray := prog_9_method_2_code
def yX7_seek : MethodName := ⟨RX7, "seek", "(LNotAnOx$Book;)V"⟩
abbrev cX7_whoAsks : ByteArray := prog_9_method_3_code
def yX7_whoAsks : MethodName := ⟨RX7, "whoAsks", "(I)I"⟩
abbrev cX7_walkFrom : ByteArray := prog_9_method_4_code
def yX7_walkFrom : MethodName := ⟨RX7, "walkFrom", "(II[I)V"⟩
abbrev cX7_walkTo : ByteArray := prog_9_method_5_code
def yX7_walkTo : MethodName := ⟨RX7, "walkTo", "(III)I"⟩
abbrev cX7_shareOut : ByteArray := prog_9_method_6_code
def yX7_shareOut : MethodName := ⟨RX7, "shareOut", "(II)V"⟩
abbrev cX7_daysOfShares : ByteArray := prog_9_method_7_code
def yX7_daysOfShares : MethodName := ⟨RX7, "daysOfShares", "(LNotAnOx$Book;)I"⟩
def RX8 : String := "NotAnOx$Sightings"
def TX8 : u_T := fun k => match k with
  | 0 => ("NotAnOx$Sightings", "village", "[I", true)
  | 1 => ("NotAnOx$Sightings", "number", "[I", true)
  | _ => ("NotAnOx$Sightings", "size", "I", false)
def tyX8 : Nat → FieldType := fun k => match k with
  | 0 => .array .int
  | 1 => .array .int
  | _ => .int
theorem nmX8 : ∀ a, a < 3 → ∀ b, b < 3 → a ≠ b → (TX8 a).2.1 ≠ (TX8 b).2.1 := by decide +kernel
theorem tyX8_ok : ∀ k, k < 3 → parseFieldDescriptor (TX8 k).2.2.1 = some (tyX8 k) := by decide +kernel
abbrev cX8_init : ByteArray := prog_10_method_1_code
def yX8_init : MethodName := ⟨RX8, "<init>", "()V"⟩
abbrev cX8_isFull : ByteArray := prog_10_method_2_code
def yX8_isFull : MethodName := ⟨RX8, "isFull", "()Z"⟩
abbrev cX8_clear : ByteArray := prog_10_method_3_code
def yX8_clear : MethodName := ⟨RX8, "clear", "()V"⟩
abbrev cX8_add : ByteArray := prog_10_method_4_code
def yX8_add : MethodName := ⟨RX8, "add", "(II)V"⟩
abbrev cX8_fits : ByteArray := prog_10_method_5_code
def yX8_fits : MethodName := ⟨RX8, "fits", "(II)Z"⟩
def RX9 : String := "NotAnOx"
def TX9 : u_T := fun k => match k with
  | 0 => ("NotAnOx", "scroll", "LNotAnOx$Scroll;", true)
  | 1 => ("NotAnOx", "reader", "LNotAnOx$Reader;", true)
  | 2 => ("NotAnOx", "draft", "LNotAnOx$Land;", true)
  | 3 => ("NotAnOx", "land", "LNotAnOx$Land;", true)
  | 4 => ("NotAnOx", "now", "LNotAnOx$Book;", true)
  | 5 => ("NotAnOx", "trial", "LNotAnOx$Book;", true)
  | 6 => ("NotAnOx", "past", "LNotAnOx$Pile;", true)
  | 7 => ("NotAnOx", "kept", "LNotAnOx$Pile;", true)
  | 8 => ("NotAnOx", "seen", "LNotAnOx$Sightings;", true)
  | 9 => ("NotAnOx", "sharing", "LNotAnOx$Sharing;", true)
  | 10 => ("NotAnOx", "orders", "LNotAnOx$Orders;", true)
  | _ => ("NotAnOx", "chance", "LNotAnOx$Chance;", true)
def tyX9 : Nat → FieldType := fun k => match k with
  | 0 => .object "NotAnOx$Scroll"
  | 1 => .object "NotAnOx$Reader"
  | 2 => .object "NotAnOx$Land"
  | 3 => .object "NotAnOx$Land"
  | 4 => .object "NotAnOx$Book"
  | 5 => .object "NotAnOx$Book"
  | 6 => .object "NotAnOx$Pile"
  | 7 => .object "NotAnOx$Pile"
  | 8 => .object "NotAnOx$Sightings"
  | 9 => .object "NotAnOx$Sharing"
  | 10 => .object "NotAnOx$Orders"
  | _ => .object "NotAnOx$Chance"
theorem nmX9 : ∀ a, a < 12 → ∀ b, b < 12 → a ≠ b → (TX9 a).2.1 ≠ (TX9 b).2.1 := by decide +kernel
theorem tyX9_ok : ∀ k, k < 12 → parseFieldDescriptor (TX9 k).2.2.1 = some (tyX9 k) := by decide +kernel
abbrev cX9_init : ByteArray := prog_1_method_1_code
def yX9_init : MethodName := ⟨RX9, "<init>", "()V"⟩
abbrev cX9_write : ByteArray := prog_1_method_2_code
def yX9_write : MethodName := ⟨RX9, "write", "(I)I"⟩
abbrev cX9_wipe : ByteArray := prog_1_method_3_code
def yX9_wipe : MethodName := ⟨RX9, "wipe", "()I"⟩
abbrev cX9_fault : ByteArray := prog_1_method_4_code
def yX9_fault : MethodName := ⟨RX9, "fault", "()I"⟩
abbrev cX9_lay : ByteArray := prog_1_method_5_code
def yX9_lay : MethodName := ⟨RX9, "lay", "()I"⟩
abbrev cX9_village : ByteArray := prog_1_method_6_code
def yX9_village : MethodName := ⟨RX9, "village", "(II)I"⟩
abbrev cX9_party : ByteArray := prog_1_method_7_code
def yX9_party : MethodName := ⟨RX9, "party", "(II)I"⟩
abbrev cX9_far : ByteArray := prog_1_method_8_code
def yX9_far : MethodName := ⟨RX9, "far", "(II)I"⟩
abbrev cX9_ask : ByteArray := prog_1_method_9_code
def yX9_ask : MethodName := ⟨RX9, "ask", "(II)I"⟩
abbrev cX9_check : ByteArray := prog_1_method_10_code
def yX9_check : MethodName := ⟨RX9, "check", "(I)I"⟩
abbrev cX9_strike : ByteArray := prog_1_method_11_code
def yX9_strike : MethodName := ⟨RX9, "strike", "(I)I"⟩
abbrev cX9_undo : ByteArray := prog_1_method_12_code
def yX9_undo : MethodName := ⟨RX9, "undo", "()I"⟩
abbrev cX9_soonest : ByteArray := prog_1_method_13_code
def yX9_soonest : MethodName := ⟨RX9, "soonest", "(I)I"⟩
abbrev cX9_most : ByteArray := prog_1_method_14_code
def yX9_most : MethodName := ⟨RX9, "most", "(I)I"⟩
abbrev cX9_least : ByteArray := prog_1_method_15_code
def yX9_least : MethodName := ⟨RX9, "least", "(I)I"⟩
abbrev cX9_checks : ByteArray := prog_1_method_16_code
def yX9_checks : MethodName := ⟨RX9, "checks", "(II)I"⟩
abbrev cX9_see : ByteArray := prog_1_method_17_code
def yX9_see : MethodName := ⟨RX9, "see", "(II)I"⟩
abbrev cX9_forget : ByteArray := prog_1_method_18_code
def yX9_forget : MethodName := ⟨RX9, "forget", "()I"⟩
abbrev cX9_kinds : ByteArray := prog_1_method_19_code
def yX9_kinds : MethodName := ⟨RX9, "kinds", "(I)I"⟩
abbrev cX9_copies : ByteArray := prog_1_method_20_code
def yX9_copies : MethodName := ⟨RX9, "copies", "()I"⟩
abbrev cX9_agree : ByteArray := prog_1_method_21_code
def yX9_agree : MethodName := ⟨RX9, "agree", "(II)I"⟩
abbrev cX9_honest : ByteArray := prog_1_method_22_code
def yX9_honest : MethodName := ⟨RX9, "honest", "(III)I"⟩
abbrev cX9_shire : ByteArray := prog_1_method_23_code
def yX9_shire : MethodName := ⟨RX9, "shire", "(III)I"⟩
abbrev cX9_keep : ByteArray := prog_1_method_24_code
def yX9_keep : MethodName := ⟨RX9, "keep", "()I"⟩
abbrev cX9_back : ByteArray := prog_1_method_25_code
def yX9_back : MethodName := ⟨RX9, "back", "()I"⟩
abbrev cX9_count : ByteArray := prog_1_method_26_code
def yX9_count : MethodName := ⟨RX9, "count", "(I)I"⟩
abbrev cX9_isWithin : ByteArray := prog_1_method_27_code
def yX9_isWithin : MethodName := ⟨RX9, "isWithin", "(III)Z"⟩
abbrev cX9_lowestOf : ByteArray := prog_1_method_28_code
def yX9_lowestOf : MethodName := ⟨RX9, "lowestOf", "(I)I"⟩
abbrev cX9_isVillage : ByteArray := prog_1_method_29_code
def yX9_isVillage : MethodName := ⟨RX9, "isVillage", "(I)Z"⟩
abbrev cX9_isParty : ByteArray := prog_1_method_30_code
def yX9_isParty : MethodName := ⟨RX9, "isParty", "(I)Z"⟩
abbrev cX9_layScroll : ByteArray := prog_1_method_31_code
def yX9_layScroll : MethodName := ⟨RX9, "layScroll", "()V"⟩
abbrev cX9_bestOrder : ByteArray := prog_1_method_32_code
def yX9_bestOrder : MethodName := ⟨RX9, "bestOrder", "(IZ)I"⟩
abbrev cX9_bestChecks : ByteArray := prog_1_method_33_code
def yX9_bestChecks : MethodName := ⟨RX9, "bestChecks", "(I)I"⟩
abbrev cX9_drawOf : ByteArray := prog_1_method_34_code
def yX9_drawOf : MethodName := ⟨RX9, "drawOf", "(II)I"⟩
abbrev cX9_stepByDraw : ByteArray := prog_1_method_35_code
def yX9_stepByDraw : MethodName := ⟨RX9, "stepByDraw", "(I)V"⟩
def RX10 : String := "NotAnOxModel"
def TX10 : u_T := fun k => match k with
  | 0 => ("NotAnOxModel", "villages", "I", false)
  | 1 => ("NotAnOxModel", "sort", "[I", true)
  | 2 => ("NotAnOxModel", "parties", "I", false)
  | 3 => ("NotAnOxModel", "way", "[I", true)
  | 4 => ("NotAnOxModel", "far", "[I", true)
  | 5 => ("NotAnOxModel", "newVillages", "I", false)
  | 6 => ("NotAnOxModel", "newSort", "[I", true)
  | 7 => ("NotAnOxModel", "newParties", "I", false)
  | 8 => ("NotAnOxModel", "newWay", "[I", true)
  | 9 => ("NotAnOxModel", "slot", "[I", true)
  | 10 => ("NotAnOxModel", "acts", "I", false)
  | 11 => ("NotAnOxModel", "keeps", "I", false)
  | 12 => ("NotAnOxModel", "length", "I", false)
  | 13 => ("NotAnOxModel", "text", "[B", true)
  | 14 => ("NotAnOxModel", "at", "I", false)
  | 15 => ("NotAnOxModel", "begin", "I", false)
  | 16 => ("NotAnOxModel", "isWrong", "Z", false)
  | 17 => ("NotAnOxModel", "seens", "I", false)
  | 18 => ("NotAnOxModel", "sawWhere", "[I", true)
  | 19 => ("NotAnOxModel", "sawMany", "[I", true)
  | 20 => ("NotAnOxModel", "path", "[I", true)
  | 21 => ("NotAnOxModel", "route", "[I", true)
  | 22 => ("NotAnOxModel", "share", "I", false)
  | 23 => ("NotAnOxModel", "many", "I", false)
  | 24 => ("NotAnOxModel", "row", "[I", true)
  | _ => ("NotAnOxModel", "best", "[I", true)
def tyX10 : Nat → FieldType := fun k => match k with
  | 0 => .int
  | 1 => .array .int
  | 2 => .int
  | 3 => .array .int
  | 4 => .array .int
  | 5 => .int
  | 6 => .array .int
  | 7 => .int
  | 8 => .array .int
  | 9 => .array .int
  | 10 => .int
  | 11 => .int
  | 12 => .int
  | 13 => .array .byte
  | 14 => .int
  | 15 => .int
  | 16 => .boolean
  | 17 => .int
  | 18 => .array .int
  | 19 => .array .int
  | 20 => .array .int
  | 21 => .array .int
  | 22 => .int
  | 23 => .int
  | 24 => .array .int
  | _ => .array .int
theorem nmX10 : ∀ a, a < 26 → ∀ b, b < 26 → a ≠ b → (TX10 a).2.1 ≠ (TX10 b).2.1 := by decide +kernel
theorem tyX10_ok : ∀ k, k < 26 → parseFieldDescriptor (TX10 k).2.2.1 = some (tyX10 k) := by decide +kernel
abbrev cX10_init : ByteArray := prog_12_method_1_code
def yX10_init : MethodName := ⟨RX10, "<init>", "()V"⟩
abbrev cX10_in : ByteArray := prog_12_method_2_code
def yX10_in : MethodName := ⟨RX10, "in", "(JJJ)Z"⟩
abbrev cX10_has : ByteArray := prog_12_method_3_code
def yX10_has : MethodName := ⟨RX10, "has", "(II)Z"⟩
abbrev cX10_smaller : ByteArray := prog_12_method_4_code
def yX10_smaller : MethodName := ⟨RX10, "smaller", "(II)I"⟩
abbrev cX10_larger : ByteArray := prog_12_method_5_code
def yX10_larger : MethodName := ⟨RX10, "larger", "(II)I"⟩
abbrev cX10_lives : ByteArray := prog_12_method_6_code
def yX10_lives : MethodName := ⟨RX10, "lives", "(III)V"⟩
abbrev cX10_joins : ByteArray := prog_12_method_7_code
def yX10_joins : MethodName := ⟨RX10, "joins", "(III)V"⟩
abbrev cX10_begins : ByteArray := prog_12_method_8_code
def yX10_begins : MethodName := ⟨RX10, "begins", "(II)V"⟩
abbrev cX10_settles : ByteArray := prog_12_method_9_code
def yX10_settles : MethodName := ⟨RX10, "settles", "()V"⟩
abbrev cX10_copied : ByteArray := prog_12_method_10_code
def yX10_copied : MethodName := ⟨RX10, "copied", "(II)V"⟩
abbrev cX10_isVillage : ByteArray := prog_12_method_11_code
def yX10_isVillage : MethodName := ⟨RX10, "isVillage", "(I)Z"⟩
abbrev cX10_write : ByteArray := prog_12_method_12_code
def yX10_write : MethodName := ⟨RX10, "write", "(I)I"⟩
abbrev cX10_wipe : ByteArray := prog_12_method_13_code
def yX10_wipe : MethodName := ⟨RX10, "wipe", "()I"⟩
abbrev cX10_next : ByteArray := prog_12_method_14_code
def yX10_next : MethodName := ⟨RX10, "next", "()I"⟩
abbrev cX10_number : ByteArray := prog_12_method_15_code
def yX10_number : MethodName := ⟨RX10, "number", "(II)I"⟩
abbrev cX10_more : ByteArray := prog_12_method_16_code
def yX10_more : MethodName := ⟨RX10, "more", "(II)I"⟩
abbrev cX10_item : ByteArray := prog_12_method_17_code
def yX10_item : MethodName := ⟨RX10, "item", "(I)V"⟩
abbrev cX10_reads : ByteArray := prog_12_method_18_code
def yX10_reads : MethodName := ⟨RX10, "reads", "()Z"⟩
abbrev cX10_fault : ByteArray := prog_12_method_19_code
def yX10_fault : MethodName := ⟨RX10, "fault", "()I"⟩
abbrev cX10_lay : ByteArray := prog_12_method_20_code
def yX10_lay : MethodName := ⟨RX10, "lay", "()I"⟩
abbrev cX10_areNear : ByteArray := prog_12_method_21_code
def yX10_areNear : MethodName := ⟨RX10, "areNear", "(II)Z"⟩
abbrev cX10_besides : ByteArray := prog_12_method_22_code
def yX10_besides : MethodName := ⟨RX10, "besides", "(I)I"⟩
abbrev cX10_lowest : ByteArray := prog_12_method_23_code
def yX10_lowest : MethodName := ⟨RX10, "lowest", "(II)I"⟩
abbrev cX10_isBesideHonest : ByteArray := prog_12_method_24_code
def yX10_isBesideHonest : MethodName := ⟨RX10, "isBesideHonest", "(II)Z"⟩
abbrev cX10_sworn : ByteArray := prog_12_method_25_code
def yX10_sworn : MethodName := ⟨RX10, "sworn", "(III)I"⟩
abbrev cX10_writes : ByteArray := prog_12_method_26_code
def yX10_writes : MethodName := ⟨RX10, "writes", "(II)I"⟩
abbrev cX10_found : ByteArray := prog_12_method_27_code
def yX10_found : MethodName := ⟨RX10, "found", "(I)I"⟩
abbrev cX10_isIn : ByteArray := prog_12_method_28_code
def yX10_isIn : MethodName := ⟨RX10, "isIn", "(I)Z"⟩
abbrev cX10_village : ByteArray := prog_12_method_29_code
def yX10_village : MethodName := ⟨RX10, "village", "(II)I"⟩
abbrev cX10_party : ByteArray := prog_12_method_30_code
def yX10_party : MethodName := ⟨RX10, "party", "(II)I"⟩
abbrev cX10_far : ByteArray := prog_12_method_31_code
def yX10_far : MethodName := ⟨RX10, "far", "(II)I"⟩
abbrev cX10_known : ByteArray := prog_12_method_32_code
def yX10_known : MethodName := ⟨RX10, "known", "()V"⟩
abbrev cX10_canAsk : ByteArray := prog_12_method_33_code
def yX10_canAsk : MethodName := ⟨RX10, "canAsk", "(III)Z"⟩
abbrev cX10_asks : ByteArray := prog_12_method_34_code
def yX10_asks : MethodName := ⟨RX10, "asks", "(III)I"⟩
abbrev cX10_ask : ByteArray := prog_12_method_35_code
def yX10_ask : MethodName := ⟨RX10, "ask", "(II)I"⟩
abbrev cX10_canCheck : ByteArray := prog_12_method_36_code
def yX10_canCheck : MethodName := ⟨RX10, "canCheck", "(II)Z"⟩
abbrev cX10_checked : ByteArray := prog_12_method_37_code
def yX10_checked : MethodName := ⟨RX10, "checked", "(II)V"⟩
abbrev cX10_check : ByteArray := prog_12_method_38_code
def yX10_check : MethodName := ⟨RX10, "check", "(I)I"⟩
abbrev cX10_struck : ByteArray := prog_12_method_39_code
def yX10_struck : MethodName := ⟨RX10, "struck", "(II)V"⟩
abbrev cX10_strike : ByteArray := prog_12_method_40_code
def yX10_strike : MethodName := ⟨RX10, "strike", "(I)I"⟩
abbrev cX10_undo : ByteArray := prog_12_method_41_code
def yX10_undo : MethodName := ⟨RX10, "undo", "()I"⟩
abbrev cX10_rest : ByteArray := prog_12_method_42_code
def yX10_rest : MethodName := ⟨RX10, "rest", "()I"⟩
abbrev cX10_routes : ByteArray := prog_12_method_43_code
def yX10_routes : MethodName := ⟨RX10, "routes", "(I)V"⟩
abbrev cX10_askedBy : ByteArray := prog_12_method_44_code
def yX10_askedBy : MethodName := ⟨RX10, "askedBy", "(II)I"⟩
abbrev cX10_takes : ByteArray := prog_12_method_45_code
def yX10_takes : MethodName := ⟨RX10, "takes", "(I)I"⟩
abbrev cX10_soonest : ByteArray := prog_12_method_46_code
def yX10_soonest : MethodName := ⟨RX10, "soonest", "(I)I"⟩
abbrev cX10_lists : ByteArray := prog_12_method_47_code
def yX10_lists : MethodName := ⟨RX10, "lists", "()V"⟩
abbrev cX10_swaps : ByteArray := prog_12_method_48_code
def yX10_swaps : MethodName := ⟨RX10, "swaps", "(II)V"⟩
abbrev cX10_goesOn : ByteArray := prog_12_method_49_code
def yX10_goesOn : MethodName := ⟨RX10, "goesOn", "()Z"⟩
abbrev cX10_orders : ByteArray := prog_12_method_50_code
def yX10_orders : MethodName := ⟨RX10, "orders", "(Z)I"⟩
abbrev cX10_ordered : ByteArray := prog_12_method_51_code
def yX10_ordered : MethodName := ⟨RX10, "ordered", "(IZ)I"⟩
abbrev cX10_most : ByteArray := prog_12_method_52_code
def yX10_most : MethodName := ⟨RX10, "most", "(I)I"⟩
abbrev cX10_least : ByteArray := prog_12_method_53_code
def yX10_least : MethodName := ⟨RX10, "least", "(I)I"⟩
abbrev cX10_bits : ByteArray := prog_12_method_54_code
def yX10_bits : MethodName := ⟨RX10, "bits", "(I)I"⟩
abbrev cX10_checks : ByteArray := prog_12_method_55_code
def yX10_checks : MethodName := ⟨RX10, "checks", "(II)I"⟩
abbrev cX10_see : ByteArray := prog_12_method_56_code
def yX10_see : MethodName := ⟨RX10, "see", "(II)I"⟩
abbrev cX10_forget : ByteArray := prog_12_method_57_code
def yX10_forget : MethodName := ⟨RX10, "forget", "()I"⟩
abbrev cX10_kinds : ByteArray := prog_12_method_58_code
def yX10_kinds : MethodName := ⟨RX10, "kinds", "(I)I"⟩
abbrev cX10_copies : ByteArray := prog_12_method_59_code
def yX10_copies : MethodName := ⟨RX10, "copies", "()I"⟩
abbrev cX10_agree : ByteArray := prog_12_method_60_code
def yX10_agree : MethodName := ⟨RX10, "agree", "(II)I"⟩
abbrev cX10_honest : ByteArray := prog_12_method_61_code
def yX10_honest : MethodName := ⟨RX10, "honest", "(III)I"⟩
abbrev cX10_mostDays : ByteArray := prog_12_method_62_code
def yX10_mostDays : MethodName := ⟨RX10, "mostDays", "(I)I"⟩
abbrev cX10_shire : ByteArray := prog_12_method_63_code
def yX10_shire : MethodName := ⟨RX10, "shire", "(III)I"⟩
abbrev cX10_keep : ByteArray := prog_12_method_64_code
def yX10_keep : MethodName := ⟨RX10, "keep", "()I"⟩
abbrev cX10_back : ByteArray := prog_12_method_65_code
def yX10_back : MethodName := ⟨RX10, "back", "()I"⟩
abbrev cX10_oxen : ByteArray := prog_12_method_66_code
def yX10_oxen : MethodName := ⟨RX10, "oxen", "()I"⟩
abbrev cX10_count : ByteArray := prog_12_method_67_code
def yX10_count : MethodName := ⟨RX10, "count", "(I)I"⟩
def RJ6 : String := "java/lang/Integer"
abbrev cJ6_bitCount_0f7a4 : ByteArray := prog_13_method_49_code
def yJ6_bitCount_0f7a4 : MethodName := ⟨RJ6, "bitCount", "(I)I"⟩
def RJ9 : String := "java/lang/Math"
abbrev cJ9_max_7cf53 : ByteArray := prog_14_method_65_code
def yJ9_max_7cf53 : MethodName := ⟨RJ9, "max", "(II)I"⟩
abbrev cJ9_min_7cf53 : ByteArray := prog_14_method_69_code
def yJ9_min_7cf53 : MethodName := ⟨RJ9, "min", "(II)I"⟩
def RJ0 : String := "java/lang/String"
abbrev cJ0_length_8abf5 : ByteArray := prog_15_method_54_code
def yJ0_length_8abf5 : MethodName := ⟨RJ0, "length", "()I"⟩
abbrev cJ0_charAt_5068e : ByteArray := prog_15_method_56_code
def yJ0_charAt_5068e : MethodName := ⟨RJ0, "charAt", "(I)C"⟩
abbrev cJ0_coder_7d493 : ByteArray := prog_15_method_152_code
def yJ0_coder_7d493 : MethodName := ⟨RJ0, "coder", "()B"⟩
abbrev cJ0_isLatin1_aae02 : ByteArray := prog_15_method_154_code
def yJ0_isLatin1_aae02 : MethodName := ⟨RJ0, "isLatin1", "()Z"⟩
abbrev cJ0_checkIndex_df160 : ByteArray := prog_15_method_155_code
def yJ0_checkIndex_df160 : MethodName := ⟨RJ0, "checkIndex", "(II)V"⟩
def RJ1 : String := "java/lang/StringLatin1"
abbrev cJ1_charAt_3b067 : ByteArray := prog_16_method_2_code
def yJ1_charAt_3b067 : MethodName := ⟨RJ1, "charAt", "([BI)C"⟩
def RJ7 : String := "java/util/Arrays"
abbrev cJ7_fill_53178 : ByteArray := prog_19_method_103_code
def yJ7_fill_53178 : MethodName := ⟨RJ7, "fill", "([II)V"⟩
def RJ3 : String := "jdk/internal/util/Preconditions"
abbrev cJ3_checkIndex_8e157 : ByteArray := prog_20_method_11_code
def yJ3_checkIndex_8e157 : MethodName := ⟨RJ3, "checkIndex", "(IILjava/util/function/BiFunction;)I"⟩
abbrev vwCl : List vw_C := [(RX0, TX0, 7), (RX1, TX1, 4), (RX2, TX2, 8), (RX3, TX3, 8), (RX4, TX4, 3), (RX5, TX5, 2), (RX6, TX6, 2), (RX7, TX7, 6), (RX8, TX8, 3), (RX9, TX9, 12), (RX10, TX10, 26)]
abbrev xM : Type := MethodName × ByteArray × Nat × Option FieldType
def mX0_init : xM := (yX0_init, cX0_init, 2, none)
def mX0_open : xM := (yX0_open, cX0_open, 1, none)
def mX0_copyFrom : xM := (yX0_copyFrom, cX0_copyFrom, 2, none)
def mX0_copyEntries : xM := (yX0_copyEntries, cX0_copyEntries, 2, none)
def mX0_holds : xM := (yX0_holds, cX0_holds, 2, some (.boolean))
def mX0_isChecked : xM := (yX0_isChecked, cX0_isChecked, 2, some (.boolean))
def mX0_canBeChecked : xM := (yX0_canBeChecked, cX0_canBeChecked, 2, some (.boolean))
def mX0_canBeAsked : xM := (yX0_canBeAsked, cX0_canBeAsked, 3, some (.boolean))
def mX0_rest : xM := (yX0_rest, cX0_rest, 1, some (.int))
def mX0_restSize : xM := (yX0_restSize, cX0_restSize, 1, some (.int))
def mX0_sworn : xM := (yX0_sworn, cX0_sworn, 6, some (.int))
def mX0_swear : xM := (yX0_swear, cX0_swear, 5, some (.int))
def mX0_askBy : xM := (yX0_askBy, cX0_askBy, 3, some (.int))
def mX0_writeOxen : xM := (yX0_writeOxen, cX0_writeOxen, 3, some (.int))
def mX0_strikeOut : xM := (yX0_strikeOut, cX0_strikeOut, 2, some (.int))
def mX0_found : xM := (yX0_found, cX0_found, 3, some (.int))
def mX0_allOxen : xM := (yX0_allOxen, cX0_allOxen, 3, some (.int))
def mX0_mostDays : xM := (yX0_mostDays, cX0_mostDays, 3, some (.int))
def mX0_gainOf : xM := (yX0_gainOf, cX0_gainOf, 4, some (.int))
def mX0_hasTwin : xM := (yX0_hasTwin, cX0_hasTwin, 4, some (.boolean))
def mX1_init : xM := (yX1_init, cX1_init, 2, none)
def mX1_weigh : xM := (yX1_weigh, cX1_weigh, 6, none)
def mX1_weightOf : xM := (yX1_weightOf, cX1_weightOf, 5, some (.int))
def mX1_foundWith : xM := (yX1_foundWith, cX1_foundWith, 5, some (.int))
def mX1_commonDivisor : xM := (yX1_commonDivisor, cX1_commonDivisor, 6, some (.int))
def mX2_init : xM := (yX2_init, cX2_init, 1, none)
def mX2_clear : xM := (yX2_clear, cX2_clear, 3, none)
def mX2_addVillage : xM := (yX2_addVillage, cX2_addVillage, 3, some (.boolean))
def mX2_addWay : xM := (yX2_addWay, cX2_addWay, 4, some (.boolean))
def mX2_addParty : xM := (yX2_addParty, cX2_addParty, 2, some (.boolean))
def mX2_isTold : xM := (yX2_isTold, cX2_isTold, 2, some (.boolean))
def mX2_measure : xM := (yX2_measure, cX2_measure, 4, none)
def mX3_init : xM := (yX3_init, cX3_init, 3, none)
def mX3_seek : xM := (yX3_seek, cX3_seek, 3, none)
def mX3_goOn : xM := (yX3_goOn, cX3_goOn, 6, none)
def mX3_weighOrder : xM := (yX3_weighOrder, cX3_weighOrder, 2, none)
def mX4_init : xM := (yX4_init, cX4_init, 4, none)
def mX4_isFull : xM := (yX4_isFull, cX4_isFull, 1, some (.boolean))
def mX4_clear : xM := (yX4_clear, cX4_clear, 1, none)
def mX4_push : xM := (yX4_push, cX4_push, 2, none)
def mX4_popInto : xM := (yX4_popInto, cX4_popInto, 2, none)
def mX4_slotOf : xM := (yX4_slotOf, cX4_slotOf, 3, some (.int))
def mX5_init : xM := (yX5_init, cX5_init, 1, none)
def mX5_readAll : xM := (yX5_readAll, cX5_readAll, 5, some (.int))
def mX5_readItem : xM := (yX5_readItem, cX5_readItem, 4, some (.boolean))
def mX5_readNumbers : xM := (yX5_readNumbers, cX5_readNumbers, 5, some (.boolean))
def mX5_readNumber : xM := (yX5_readNumber, cX5_readNumber, 5, some (.int))
def mX6_init : xM := (yX6_init, cX6_init, 1, none)
def mX6_isFull : xM := (yX6_isFull, cX6_isFull, 1, some (.boolean))
def mX6_add : xM := (yX6_add, cX6_add, 2, none)
def mX6_clear : xM := (yX6_clear, cX6_clear, 1, none)
def mX6_letterAt : xM := (yX6_letterAt, cX6_letterAt, 2, some (.char))
def mX7_init : xM := (yX7_init, cX7_init, 2, none)
def mX7_seek : xM := (yX7_seek, cX7_seek, 6, none)
def mX7_whoAsks : xM := (yX7_whoAsks, cX7_whoAsks, 3, some (.int))
def mX7_walkFrom : xM := (yX7_walkFrom, cX7_walkFrom, 7, none)
def mX7_walkTo : xM := (yX7_walkTo, cX7_walkTo, 7, some (.int))
def mX7_shareOut : xM := (yX7_shareOut, cX7_shareOut, 5, none)
def mX7_daysOfShares : xM := (yX7_daysOfShares, cX7_daysOfShares, 5, some (.int))
def mX8_init : xM := (yX8_init, cX8_init, 1, none)
def mX8_isFull : xM := (yX8_isFull, cX8_isFull, 1, some (.boolean))
def mX8_clear : xM := (yX8_clear, cX8_clear, 1, none)
def mX8_add : xM := (yX8_add, cX8_add, 3, none)
def mX8_fits : xM := (yX8_fits, cX8_fits, 4, some (.boolean))
def mX9_init : xM := (yX9_init, cX9_init, 2, none)
def mX9_write : xM := (yX9_write, cX9_write, 2, some (.int))
def mX9_wipe : xM := (yX9_wipe, cX9_wipe, 2, some (.int))
def mX9_fault : xM := (yX9_fault, cX9_fault, 1, some (.int))
def mX9_lay : xM := (yX9_lay, cX9_lay, 1, some (.int))
def mX9_village : xM := (yX9_village, cX9_village, 3, some (.int))
def mX9_party : xM := (yX9_party, cX9_party, 3, some (.int))
def mX9_far : xM := (yX9_far, cX9_far, 3, some (.int))
def mX9_ask : xM := (yX9_ask, cX9_ask, 3, some (.int))
def mX9_check : xM := (yX9_check, cX9_check, 2, some (.int))
def mX9_strike : xM := (yX9_strike, cX9_strike, 2, some (.int))
def mX9_undo : xM := (yX9_undo, cX9_undo, 1, some (.int))
def mX9_soonest : xM := (yX9_soonest, cX9_soonest, 2, some (.int))
def mX9_most : xM := (yX9_most, cX9_most, 2, some (.int))
def mX9_least : xM := (yX9_least, cX9_least, 2, some (.int))
def mX9_checks : xM := (yX9_checks, cX9_checks, 4, some (.int))
def mX9_see : xM := (yX9_see, cX9_see, 3, some (.int))
def mX9_forget : xM := (yX9_forget, cX9_forget, 2, some (.int))
def mX9_kinds : xM := (yX9_kinds, cX9_kinds, 4, some (.int))
def mX9_copies : xM := (yX9_copies, cX9_copies, 3, some (.int))
def mX9_agree : xM := (yX9_agree, cX9_agree, 3, some (.int))
def mX9_honest : xM := (yX9_honest, cX9_honest, 4, some (.int))
def mX9_shire : xM := (yX9_shire, cX9_shire, 5, some (.int))
def mX9_keep : xM := (yX9_keep, cX9_keep, 1, some (.int))
def mX9_back : xM := (yX9_back, cX9_back, 1, some (.int))
def mX9_count : xM := (yX9_count, cX9_count, 2, some (.int))
def mX9_isWithin : xM := (yX9_isWithin, cX9_isWithin, 3, some (.boolean))
def mX9_lowestOf : xM := (yX9_lowestOf, cX9_lowestOf, 2, some (.int))
def mX9_isVillage : xM := (yX9_isVillage, cX9_isVillage, 2, some (.boolean))
def mX9_isParty : xM := (yX9_isParty, cX9_isParty, 2, some (.boolean))
def mX9_layScroll : xM := (yX9_layScroll, cX9_layScroll, 1, none)
def mX9_bestOrder : xM := (yX9_bestOrder, cX9_bestOrder, 3, some (.int))
def mX9_bestChecks : xM := (yX9_bestChecks, cX9_bestChecks, 6, some (.int))
def mX9_drawOf : xM := (yX9_drawOf, cX9_drawOf, 4, some (.int))
def mX9_stepByDraw : xM := (yX9_stepByDraw, cX9_stepByDraw, 5, none)
def mX10_init : xM := (yX10_init, cX10_init, 2, none)
def mX10_in : xM := (yX10_in, cX10_in, 6, some (.boolean))
def mX10_has : xM := (yX10_has, cX10_has, 2, some (.boolean))
def mX10_smaller : xM := (yX10_smaller, cX10_smaller, 2, some (.int))
def mX10_larger : xM := (yX10_larger, cX10_larger, 2, some (.int))
def mX10_lives : xM := (yX10_lives, cX10_lives, 4, none)
def mX10_joins : xM := (yX10_joins, cX10_joins, 4, none)
def mX10_begins : xM := (yX10_begins, cX10_begins, 3, none)
def mX10_settles : xM := (yX10_settles, cX10_settles, 4, none)
def mX10_copied : xM := (yX10_copied, cX10_copied, 4, none)
def mX10_isVillage : xM := (yX10_isVillage, cX10_isVillage, 2, some (.boolean))
def mX10_write : xM := (yX10_write, cX10_write, 2, some (.int))
def mX10_wipe : xM := (yX10_wipe, cX10_wipe, 2, some (.int))
def mX10_next : xM := (yX10_next, cX10_next, 1, some (.int))
def mX10_number : xM := (yX10_number, cX10_number, 5, some (.int))
def mX10_more : xM := (yX10_more, cX10_more, 3, some (.int))
def mX10_item : xM := (yX10_item, cX10_item, 5, none)
def mX10_reads : xM := (yX10_reads, cX10_reads, 2, some (.boolean))
def mX10_fault : xM := (yX10_fault, cX10_fault, 1, some (.int))
def mX10_lay : xM := (yX10_lay, cX10_lay, 1, some (.int))
def mX10_areNear : xM := (yX10_areNear, cX10_areNear, 3, some (.boolean))
def mX10_besides : xM := (yX10_besides, cX10_besides, 4, some (.int))
def mX10_lowest : xM := (yX10_lowest, cX10_lowest, 5, some (.int))
def mX10_isBesideHonest : xM := (yX10_isBesideHonest, cX10_isBesideHonest, 6, some (.boolean))
def mX10_sworn : xM := (yX10_sworn, cX10_sworn, 6, some (.int))
def mX10_writes : xM := (yX10_writes, cX10_writes, 5, some (.int))
def mX10_found : xM := (yX10_found, cX10_found, 4, some (.int))
def mX10_isIn : xM := (yX10_isIn, cX10_isIn, 2, some (.boolean))
def mX10_village : xM := (yX10_village, cX10_village, 3, some (.int))
def mX10_party : xM := (yX10_party, cX10_party, 3, some (.int))
def mX10_far : xM := (yX10_far, cX10_far, 3, some (.int))
def mX10_known : xM := (yX10_known, cX10_known, 2, none)
def mX10_canAsk : xM := (yX10_canAsk, cX10_canAsk, 4, some (.boolean))
def mX10_asks : xM := (yX10_asks, cX10_asks, 4, some (.int))
def mX10_ask : xM := (yX10_ask, cX10_ask, 3, some (.int))
def mX10_canCheck : xM := (yX10_canCheck, cX10_canCheck, 3, some (.boolean))
def mX10_checked : xM := (yX10_checked, cX10_checked, 3, none)
def mX10_check : xM := (yX10_check, cX10_check, 3, some (.int))
def mX10_struck : xM := (yX10_struck, cX10_struck, 3, none)
def mX10_strike : xM := (yX10_strike, cX10_strike, 2, some (.int))
def mX10_undo : xM := (yX10_undo, cX10_undo, 1, some (.int))
def mX10_rest : xM := (yX10_rest, cX10_rest, 1, some (.int))
def mX10_routes : xM := (yX10_routes, cX10_routes, 8, none)
def mX10_askedBy : xM := (yX10_askedBy, cX10_askedBy, 6, some (.int))
def mX10_takes : xM := (yX10_takes, cX10_takes, 7, some (.int))
def mX10_soonest : xM := (yX10_soonest, cX10_soonest, 6, some (.int))
def mX10_lists : xM := (yX10_lists, cX10_lists, 2, none)
def mX10_swaps : xM := (yX10_swaps, cX10_swaps, 4, none)
def mX10_goesOn : xM := (yX10_goesOn, cX10_goesOn, 5, some (.boolean))
def mX10_orders : xM := (yX10_orders, cX10_orders, 7, some (.int))
def mX10_ordered : xM := (yX10_ordered, cX10_ordered, 4, some (.int))
def mX10_most : xM := (yX10_most, cX10_most, 2, some (.int))
def mX10_least : xM := (yX10_least, cX10_least, 2, some (.int))
def mX10_bits : xM := (yX10_bits, cX10_bits, 3, some (.int))
def mX10_checks : xM := (yX10_checks, cX10_checks, 10, some (.int))
def mX10_see : xM := (yX10_see, cX10_see, 3, some (.int))
def mX10_forget : xM := (yX10_forget, cX10_forget, 2, some (.int))
def mX10_kinds : xM := (yX10_kinds, cX10_kinds, 6, some (.int))
def mX10_copies : xM := (yX10_copies, cX10_copies, 5, some (.int))
def mX10_agree : xM := (yX10_agree, cX10_agree, 3, some (.int))
def mX10_honest : xM := (yX10_honest, cX10_honest, 10, some (.int))
def mX10_mostDays : xM := (yX10_mostDays, cX10_mostDays, 4, some (.int))
def mX10_shire : xM := (yX10_shire, cX10_shire, 12, some (.int))
def mX10_keep : xM := (yX10_keep, cX10_keep, 1, some (.int))
def mX10_back : xM := (yX10_back, cX10_back, 1, some (.int))
def mX10_oxen : xM := (yX10_oxen, cX10_oxen, 3, some (.int))
def mX10_count : xM := (yX10_count, cX10_count, 2, some (.int))
def mJ6_bitCount_0f7a4 : xM := (yJ6_bitCount_0f7a4, cJ6_bitCount_0f7a4, 1, some (.int))
def mJ9_max_7cf53 : xM := (yJ9_max_7cf53, cJ9_max_7cf53, 2, some (.int))
def mJ9_min_7cf53 : xM := (yJ9_min_7cf53, cJ9_min_7cf53, 2, some (.int))
def mJ0_length_8abf5 : xM := (yJ0_length_8abf5, cJ0_length_8abf5, 1, some (.int))
def mJ0_charAt_5068e : xM := (yJ0_charAt_5068e, cJ0_charAt_5068e, 2, some (.char))
def mJ0_coder_7d493 : xM := (yJ0_coder_7d493, cJ0_coder_7d493, 1, some (.byte))
def mJ0_isLatin1_aae02 : xM := (yJ0_isLatin1_aae02, cJ0_isLatin1_aae02, 1, some (.boolean))
def mJ0_checkIndex_df160 : xM := (yJ0_checkIndex_df160, cJ0_checkIndex_df160, 2, none)
def mJ1_charAt_3b067 : xM := (yJ1_charAt_3b067, cJ1_charAt_3b067, 2, some (.char))
def mJ7_fill_53178 : xM := (yJ7_fill_53178, cJ7_fill_53178, 4, none)
def mJ3_checkIndex_8e157 : xM := (yJ3_checkIndex_8e157, cJ3_checkIndex_8e157, 3, some (.int))
def mL : xM := (x, code, 4, some .boolean)
end
section
/-! THE LAYER: a state is a list S of shapes (what is static of each cell of ours) and a table M of ints; a cell c lies at the address B + c. xW: the machine walks on from a place of a method; xC: a method's contract. -/
abbrev xSh : Type := (FieldType × Nat) ⊕ ((Nat × List (Option (Option Nat))) ⊕ (FieldType × List (Option Nat)))
abbrev xMem : Type := Nat → Nat → Int32
/-- B, the script's cell, its length, its ints, the String constant's cells -/
abbrev xGl : Type := Nat × Nat × Nat × (Nat → Int32) × (Nat → Nat) × (Nat → Nat)
def xT : List Cond := lw_tbl.filter goodWord
def xisN : Cond → Bool
  | .fieldLinkNest .. => true
  | .methodLinkNest .. => true
  | _ => false
def xNest : List Cond := lw_tbl.filter xisN
theorem xT_good {w : Cond} (h : w ∈ xT) : goodWord w = true := (List.mem_filter.mp h).2
theorem xT_in {w : Cond} (i : Nat) (h : lw_tbl[i]? = some w) (hg : goodWord w = true) : w ∈ xT := List.mem_filter.mpr ⟨List.mem_of_getElem? h, hg⟩
theorem xN_in {w : Cond} (i : Nat) (h : lw_tbl[i]? = some w) (hg : xisN w = true) : w ∈ xNest := List.mem_filter.mpr ⟨List.mem_of_getElem? h, hg⟩
theorem xtb_0 {w : Cond} (h : w ∈ k2_sels lw_privs) : w ∈ lw_tbl := List.mem_append_left _ h
theorem xtb_1 {w : Cond} (h : w ∈ tables_1_1) : w ∈ lw_tbl := List.mem_append_right _ (List.mem_append_left _ h)
theorem xtb_2 {w : Cond} (h : w ∈ tables_1_2) : w ∈ lw_tbl := List.mem_append_right _ (List.mem_append_right _ (List.mem_append_left _ h))
theorem xtb_3 {w : Cond} (h : w ∈ tables_1_3) : w ∈ lw_tbl := List.mem_append_right _ (List.mem_append_right _ (List.mem_append_right _ (List.mem_append_left _ h)))
theorem xtb_4 {w : Cond} (h : w ∈ tables_1_4) : w ∈ lw_tbl := List.mem_append_right _ (List.mem_append_right _ (List.mem_append_right _ (List.mem_append_right _ (List.mem_append_left _ h))))
theorem xtb_5 {w : Cond} (h : w ∈ tables_1_5) : w ∈ lw_tbl := List.mem_append_right _ (List.mem_append_right _ (List.mem_append_right _ (List.mem_append_right _ (List.mem_append_right _ h))))
theorem xT_0 {w : Cond} (i : Nat) (h : (k2_sels lw_privs)[i]? = some w) (hg : goodWord w = true) : w ∈ xT := List.mem_filter.mpr ⟨xtb_0 (List.mem_of_getElem? h), hg⟩
theorem xN_0 {w : Cond} (i : Nat) (h : (k2_sels lw_privs)[i]? = some w) (hg : xisN w = true) : w ∈ xNest := List.mem_filter.mpr ⟨xtb_0 (List.mem_of_getElem? h), hg⟩
theorem xT_1 {w : Cond} (i : Nat) (h : (tables_1_1)[i]? = some w) (hg : goodWord w = true) : w ∈ xT := List.mem_filter.mpr ⟨xtb_1 (List.mem_of_getElem? h), hg⟩
theorem xN_1 {w : Cond} (i : Nat) (h : (tables_1_1)[i]? = some w) (hg : xisN w = true) : w ∈ xNest := List.mem_filter.mpr ⟨xtb_1 (List.mem_of_getElem? h), hg⟩
theorem xT_2 {w : Cond} (i : Nat) (h : (tables_1_2)[i]? = some w) (hg : goodWord w = true) : w ∈ xT := List.mem_filter.mpr ⟨xtb_2 (List.mem_of_getElem? h), hg⟩
theorem xN_2 {w : Cond} (i : Nat) (h : (tables_1_2)[i]? = some w) (hg : xisN w = true) : w ∈ xNest := List.mem_filter.mpr ⟨xtb_2 (List.mem_of_getElem? h), hg⟩
theorem xT_3 {w : Cond} (i : Nat) (h : (tables_1_3)[i]? = some w) (hg : goodWord w = true) : w ∈ xT := List.mem_filter.mpr ⟨xtb_3 (List.mem_of_getElem? h), hg⟩
theorem xN_3 {w : Cond} (i : Nat) (h : (tables_1_3)[i]? = some w) (hg : xisN w = true) : w ∈ xNest := List.mem_filter.mpr ⟨xtb_3 (List.mem_of_getElem? h), hg⟩
theorem xT_4 {w : Cond} (i : Nat) (h : (tables_1_4)[i]? = some w) (hg : goodWord w = true) : w ∈ xT := List.mem_filter.mpr ⟨xtb_4 (List.mem_of_getElem? h), hg⟩
theorem xN_4 {w : Cond} (i : Nat) (h : (tables_1_4)[i]? = some w) (hg : xisN w = true) : w ∈ xNest := List.mem_filter.mpr ⟨xtb_4 (List.mem_of_getElem? h), hg⟩
theorem xT_5 {w : Cond} (i : Nat) (h : (tables_1_5)[i]? = some w) (hg : goodWord w = true) : w ∈ xT := List.mem_filter.mpr ⟨xtb_5 (List.mem_of_getElem? h), hg⟩
theorem xN_5 {w : Cond} (i : Nat) (h : (tables_1_5)[i]? = some w) (hg : xisN w = true) : w ∈ xNest := List.mem_filter.mpr ⟨xtb_5 (List.mem_of_getElem? h), hg⟩
theorem xGood : GoodIn xT xT := fun _ h => ⟨h, good_of_word (xT_good h)⟩
def xws (m : xM) : List Cond := .code m.1 m.2.1 m.2.2.1 m.2.2.2 :: xT
theorem xGoodM {m : xM} (h : Cond.code m.1 m.2.1 m.2.2.1 m.2.2.2 ∈ xT) : GoodIn xT (xws m) := fun w hw => (List.mem_cons.mp hw).elim (fun e => by rw [e]; exact xGood _ h) (fun h => xGood _ h)
def xval (B : Nat) (M : xMem) (c k : Nat) (o : Option (Option Nat)) : Value := match o with
  | none => .int (M c k)
  | some r => va_rf (r.map (fun j => B + j))
def xCell (D : va_G) (s : State) (B : Nat) (M : xMem) (c : Nat) (sh : xSh) (H : Heap) : Prop := match sh with
  | .inl (ty, n) => ∃ cA : ClassId, ArrOfT s cA ty ∧ H[B + c]? = some (arrV cA n (fun j => .int (M c j)))
  | .inr (.inl (ci, fs)) => ∃ r : vw_C, vwCl[ci]? = some r ∧ t_OB (B + c) (D.1 ci) r.2.2 (D.2 ci) H (fun k => xval B M c k (fs.getD k none))
  | .inr (.inr (ty, rs)) => ∃ cA : ClassId, ArrOfT s cA ty ∧ va_RA s cA ty ∧ H[B + c]? = some (arrV cA rs.length (fun j => va_rf ((rs.getD j none).map (fun i => B + i))))
def xRep (D : va_G) (B : Nat) (S : List xSh) (M : xMem) (s : State) (H : Heap) : Prop := H.size = B + S.length ∧ ∀ (c : Nat) (sh : xSh), S[c]? = some sh → xCell D s B M c sh H
theorem xCell.moved {D : va_G} {u U : State} {B : Nat} {M : xMem} {c : Nat} {sh : xSh} {H : Heap} (hvm : u.vm.Alike U.vm) (h : xCell D u B M c sh H) : xCell D U B M c sh H := by
  rcases sh with ⟨ty, n⟩ | ⟨ci, fs⟩ | ⟨ty, rs⟩
  · obtain ⟨cA, h1, h2⟩ := h
    exact ⟨cA, arrOfT_moved hvm h1, h2⟩
  · exact h
  · obtain ⟨cA, h1, h2, h3⟩ := h
    exact ⟨cA, arrOfT_moved hvm h1, h2.moved hvm, h3⟩
theorem xCell.kept {D : va_G} {s : State} {B : Nat} {M : xMem} {c : Nat} {sh : xSh} {H H1 : Heap} (hq : H1[B + c]? = H[B + c]?) (h : xCell D s B M c sh H) : xCell D s B M c sh H1 := by
  rcases sh with ⟨ty, n⟩ | ⟨ci, fs⟩ | ⟨ty, rs⟩
  · obtain ⟨cA, h1, h2⟩ := h
    exact ⟨cA, h1, hq.trans h2⟩
  · obtain ⟨r, h1, h2⟩ := h
    exact ⟨r, h1, h2.kept hq⟩
  · obtain ⟨cA, h1, h2, h3⟩ := h
    exact ⟨cA, h1, h2, hq.trans h3⟩
theorem xCell.mem {D : va_G} {s : State} {B : Nat} {M M1 : xMem} {c : Nat} {sh : xSh} {H : Heap} (hM : M1 c = M c) (h : xCell D s B M c sh H) : xCell D s B M1 c sh H := by
  rcases sh with ⟨ty, n⟩ | ⟨ci, fs⟩ | ⟨ty, rs⟩
  · obtain ⟨cA, h1, h2⟩ := h
    exact ⟨cA, h1, by rw [hM]; exact h2⟩
  · obtain ⟨r, h1, h2⟩ := h
    refine ⟨r, h1, ?_⟩
    have e : (fun k => xval B M1 c k (fs.getD k none)) = (fun k => xval B M c k (fs.getD k none)) := by
      funext k
      cases fs.getD k none <;> simp [xval, hM]
    rw [e]
    exact h2
  · exact h
theorem xRep.moved {D : va_G} {B : Nat} {S : List xSh} {M : xMem} {u U : State} {H : Heap} (hvm : u.vm.Alike U.vm) (h : xRep D B S M u H) : xRep D B S M U H := ⟨h.1, fun c sh hc => (h.2 c sh hc).moved hvm⟩
theorem xRep.lt {D : va_G} {B : Nat} {S : List xSh} {M : xMem} {s : State} {H : Heap} (h : xRep D B S M s H) {c : Nat} {sh : xSh} (hc : S[c]? = some sh) : B + c < H.size := by
  have := (List.getElem?_eq_some_iff.mp hc).1
  rw [h.1]; omega
/-- one cell changes: its shape, its row -/
theorem xRep.set {D : va_G} {B : Nat} {S : List xSh} {M M1 : xMem} {s : State} {H H1 : Heap} (h : xRep D B S M s H) {c : Nat} {sh sh1 : xSh} (hc : S[c]? = some sh) (hz : H1.size = H.size) (hq : ∀ q, q ≠ B + c → H1[q]? = H[q]?) (hM : ∀ a, a ≠ c → M1 a = M a) (hn : xCell D s B M1 c sh1 H1) : xRep D B (S.set c sh1) M1 s H1 := by
  refine ⟨by rw [hz, h.1, List.length_set], fun a sh2 ha => ?_⟩
  by_cases e : a = c
  · subst e
    rw [List.getElem?_set_self (List.getElem?_eq_some_iff.mp hc).1] at ha
    cases ha
    exact hn
  · rw [List.getElem?_set_ne (Ne.symm e)] at ha
    exact ((h.2 a sh2 ha).mem (hM a e)).kept (hq _ (by omega))
theorem xRep.setM {D : va_G} {B : Nat} {S : List xSh} {M M1 : xMem} {s : State} {H H1 : Heap} (h : xRep D B S M s H) {c : Nat} {sh : xSh} (hc : S[c]? = some sh) (hz : H1.size = H.size) (hq : ∀ q, q ≠ B + c → H1[q]? = H[q]?) (hM : ∀ a, a ≠ c → M1 a = M a) (hn : xCell D s B M1 c sh H1) : xRep D B S M1 s H1 := by
  have h9 := h.set hc hz hq hM hn
  have e : S.set c sh = S := by
    apply List.ext_getElem?
    intro i
    by_cases q : i = c
    · subst q
      rw [List.getElem?_set_self (List.getElem?_eq_some_iff.mp hc).1, hc]
    · rw [List.getElem?_set_ne (Ne.symm q)]
  rwa [e] at h9
theorem xRep.push {D : va_G} {B : Nat} {S : List xSh} {M M1 : xMem} {s : State} {H H1 : Heap} (h : xRep D B S M s H) {sh : xSh} (hz : H1.size = H.size + 1) (hq : ∀ q, q < H.size → H1[q]? = H[q]?) (hM : ∀ a, a < S.length → M1 a = M a) (hn : xCell D s B M1 S.length sh H1) : xRep D B (S ++ [sh]) M1 s H1 := by
  refine ⟨by rw [hz, h.1, List.length_append]; rfl, fun a sh2 ha => ?_⟩
  by_cases e : a < S.length
  · rw [List.getElem?_append_left e] at ha
    exact ((h.2 a sh2 ha).mem (hM a e)).kept (hq _ (h.lt ha))
  · rw [List.getElem?_append_right (by omega)] at ha
    have h0 : a - S.length < 1 := (List.getElem?_eq_some_iff.mp ha).1
    have e2 : a = S.length := by omega
    subst e2
    simp at ha
    subst ha
    exact hn
def xAO2 (U : State) : Prop := (Cond.arrayOver (.array .int)).before #[] U = true
theorem xAO2.moved {u U : State} (hvm : u.vm.Alike U.vm) (h : xAO2 u) : xAO2 U := over_moved hvm h
/-- the constant text of the class, and what the JDK's own methods over it read -/
def xtx : String := "v0,12;v1,20;v2,9;v3,15;v4,18;v1,7;w0,1,2;w1,2,3;w2,3,1;w3,4,2;w4,5,4;w0,5,6;w1,4,3;p0;p3;"
def xby : List Int32 := xtx.toList.map (fun ch => Int32.ofNat ch.toNat)
def xStr (G : xGl) (U : State) (H : Heap) : Prop := vk_S 1 [90] [xby] G.2.2.2.2.1 G.2.2.2.2.2 (fun q => G.1 ≤ q) U H ∧ vk_R RX9 85 xtx (G.2.2.2.2.1 0) U ∧ va_Z "java/lang/String" "COMPACT_STRINGS" "Z" (.int 1) (fun q => G.1 ≤ q) U H ∧ va_Zq "jdk/internal/util/Preconditions" "SIOOBE_FORMATTER" "Ljava/util/function/BiFunction;" (fun q => G.1 ≤ q) U H
def xCtx (G : xGl) (D : va_G) (U : State) : Prop :=
  G.1 ≤ U.heap.size ∧ va_K D vwCl [] U ∧ (∀ w ∈ xNest, va_Nw w U) ∧ (va_X G.2.1 G.2.2.1 G.2.2.2.1 U U.heap ∧ G.2.1 < G.1) ∧ (va_AO "NotAnOx$Book" U ∧ xAO2 U) ∧ xStr G U U.heap
theorem xNw_warm {w : Cond} (hw : xisN w = true) {s U : State} (hW : s.WarmedH U.vm) (h : va_Nw w s) : va_Nw w U := by
  cases w <;> first | exact va_Nw.warmF hW h | exact va_Nw.warmM hW h | (simp [xisN] at hw)
theorem xCtx.move {G : xGl} {D : va_G} {s U : State} (hW : s.WarmedH U.vm) (hz : s.heap.size ≤ U.heap.size) (hF : ∀ q, q < s.heap.size → ¬ G.1 ≤ q → U.heap[q]? = s.heap[q]?) (h : xCtx G D s) : xCtx G D U := by
  obtain ⟨h1, h2, h3, ⟨h4, h4b⟩, ⟨h5, h5b⟩, h6, h7, h8, h9⟩ := h
  have hbl : G.2.1 < s.heap.size := by omega
  refine ⟨by omega, va_K.moved hW.alike h2, fun w hw => xNw_warm (List.mem_filter.mp hw).2 hW (h3 w hw), ⟨va_X.moved hW.alike (h4.kept (hF _ hbl (by omega))), h4b⟩, ⟨va_AO.moved hW.alike h5, xAO2.moved hW.alike h5b⟩, vk_S.moved hW.alike (h6.kept hF), h7.warm hW, va_Z.moved hW.alike (h8.kept hF), va_Zq.moved hW.alike (h9.kept hF)⟩
theorem xCtx.calling {G : xGl} {D : va_G} {U : State} (g : JFrame) (mk : MethodId) (a : Array Value) (h : xCtx G D U) : xCtx G D (U.calling g mk a) := by
  obtain ⟨h1, h2, h3, ⟨h4, h4b⟩, ⟨h5, h5b⟩, h6, h7, h8, h9⟩ := h
  have hv : (U.calling g mk a).vm = U.vm := rfl
  have hA : U.vm.Alike (U.calling g mk a).vm := Vm.Alike.refl U.vm
  exact ⟨h1, va_K.moved hA h2, fun w hw => by
    have h := h3 w hw
    have hw2 := (List.mem_filter.mp hw).2
    cases w <;> first | exact va_Nw.same rfl hv.symm h | (simp [xisN] at hw2), ⟨va_X.moved hA h4, h4b⟩, ⟨va_AO.moved hA h5, xAO2.moved hA h5b⟩, vk_S.moved hA h6, h7.same hv, va_Z.moved hA h8, va_Zq.moved hA h9⟩
def xPre (G : xGl) (D : va_G) (S : List xSh) (M : xMem) (as : List Value) : Array Value → State → Prop := fun v U => v = as.toArray ∧ xCtx G D U ∧ xRep D G.1 S M U U.heap
def xPost (G : xGl) (D : va_G) (Q : Option Value → List xSh → xMem → Prop) : Array Value → State → Outcome → State → Prop := fun _ st o t => ∃ (v : Option Value) (S : List xSh) (M : xMem), o = .returned v ∧ xRep D G.1 S M t t.heap ∧ Q v S M ∧ va_F (fun q => G.1 ≤ q) st t
def xroom (d k n : Nat) : Room := { frames := d, cells := k, slots := n, locals := 60 * d }
/-- a method's contract -/
def xC (G : xGl) (m : xM) (d k n : Nat) (as : List Value) (S : List xSh) (M : xMem) (Q : Option Value → List xSh → xMem → Prop) : Prop :=
  ∀ (l : Launch) (D : va_G), Met l m.1 (xws m) (xroom d k n) (xPre G D S M as) (xPost G D Q) k n (fun q => G.1 ≤ q)
theorem xPre.blind {G : xGl} {D : va_G} {S : List xSh} {M : xMem} {as : List Value} : FrameBlind (xPre G D S M as) := fun a U g mk h => ⟨h.1, h.2.1.calling g mk a, xRep.moved (u := U) (U := U.calling g mk a) (Vm.Alike.refl U.vm) h.2.2⟩
/-- where a return stands, and that the answer is of its kind -/
def xRet (m : xM) (pc : Nat) (v : Option Value) : Prop := match v with
  | none => decode m.2.1 pc = .ok (.return_, 1) ∧ m.2.2.2 = none
  | some (.int y) => decode m.2.1 pc = .ok (.ireturn, 1) ∧ ∃ ty, m.2.2.2 = some ty ∧ narrow ty (.int y) = .int y
  | _ => False
def xEnd (G : xGl) (m : xM) (D : va_G) (Q : Option Value → List xSh → xMem → Prop) (p : Program) (l : Launch) (e : Env) (R : Room) (s : State) (mi : MethodId) (args : Array Value) (below : List Frame) (meth : Method) (c : Code) (Z : State → Prop) : Prop :=
  ∀ (H : Heap) (locs : List Loc) (cells slots : Nat) (ls : Array Slot) (v : Option Value) (S : List xSh) (M : xMem) (pc : Nat), xRep D G.1 S M s H → va_S (fun q => G.1 ≤ q) s.heap H locs → cells ≤ R.cells → slots ≤ R.slots → Q v S M → xRet m pc v → W p l e R s mi args below meth c H locs cells slots Z (F0 mi pc ls v.toList)
def xE (G : xGl) (m : xM) (d k n : Nat) (Q : Option Value → List xSh → xMem → Prop) (l : Launch) (D : va_G) (p : Program) (e : Env) (R : Room) (s : State) (mi : MethodId) (args : Array Value) (below : List Frame) (meth : Method) (c : Code) (cells slots : Nat) (Z : State → Prop) : Prop :=
  p.tables.exec = Jvm.exec ∧ c.code = m.2.1 ∧ c.maxLocals = m.2.2.1 ∧ s.vm.findClass m.1.cls = some mi.cls ∧ (∀ w ∈ xT, w.before args s = true) ∧ meth.name = m.1.name ∧ xCtx G D s ∧ (d ≤ R.frames ∧ 60 * d ≤ R.locals ∧ cells + k ≤ R.cells ∧ slots + n ≤ R.slots) ∧ xEnd G m D Q p l e R s mi args below meth c Z
def xLoc (ls : Array Slot) (nL : Nat) (L : List (Option Value)) : Prop := ls.size = nL ∧ L.length = nL ∧ lv_wf ls ∧ ∀ (i : Nat) (v : Value), L[i]? = some (some v) → ls[i]? = some (.val v)
/-- the walk from a place of a method -/
def xW (G : xGl) (m : xM) (d k n : Nat) (Q : Option Value → List xSh → xMem → Prop) (pc : Nat) (L : List (Option Value)) (st : List Value) (S : List xSh) (M : xMem) : Prop :=
  ∀ (l : Launch) (D : va_G) (p : Program) (e : Env) (R : Room) (s : State) (mi : MethodId) (args : Array Value) (below : List Frame) (meth : Method) (c : Code) (H : Heap) (locs : List Loc) (cells slots : Nat) (Z : State → Prop) (ls : Array Slot),
    xE G m d k n Q l D p e R s mi args below meth c cells slots Z → xRep D G.1 S M s H → va_S (fun q => G.1 ≤ q) s.heap H locs → xLoc ls m.2.2.1 L → W p l e R s mi args below meth c H locs cells slots Z (F0 mi pc ls st)
def xargs (n : Nat) (as : List Value) : List (Option Value) := (List.range n).map (fun i => ((lv_args 0 as).find? (fun q => q.1 == i)).map (·.2))
theorem xargs_loc {as : List Value} {n : Nat} (h : (lg_sl as).length ≤ n) : xLoc ((lg_sl as ++ List.replicate (n - (lg_sl as).length) Slot.unset).toArray) n (xargs n as) := by
  obtain ⟨h1, h2, h3⟩ := lv_entry as h
  refine ⟨h1, by simp [xargs], h2, fun i v hi => ?_⟩
  unfold xargs at hi
  rw [List.getElem?_map] at hi
  by_cases hn : i < n
  · rw [List.getElem?_range hn] at hi
    simp only [Option.map_some, Option.some.injEq, Option.map_eq_some_iff] at hi
    obtain ⟨q, hq, rfl⟩ := hi
    have hm := List.mem_of_find?_eq_some hq
    have he := List.find?_some hq
    have he : q.1 = i := by simpa using he
    rw [← he]
    exact h3 q hm
  · have : (List.range n)[i]? = none := List.getElem?_eq_none (by rw [List.length_range]; omega)
    rw [this] at hi
    cases hi
theorem xC_intro {G : xGl} {m : xM} {d k n : Nat} {as : List Value} {S : List xSh} {M : xMem} {Q : Option Value → List xSh → xMem → Prop} (L : List (Option Value)) (hL : xargs m.2.2.1 as = L) (hp : plainName m.1.cls = true) (hn : (lg_sl as).length ≤ m.2.2.1)
    (h : xW G m d k n Q 0 L [] S M) : xC G m d k n as S M Q := by
  intro l D
  subst hL
  refine Met.ofW (cc := m.2.1) (maxL := m.2.2.1) (ret := m.2.2.2) hp rfl ?_
  intro p e s mi args below meth c s₁ B hml hv
  obtain ⟨rfl, hctx, hrep⟩ := hv
  have hts := atoms_spec (ws := xws m) B.pre
  rw [lg_entry_eq]
  have hlocks := B.notSynchronized
  have hr := B.returns
  refine h l D p e (xroom d k n) s mi _ below meth c s.heap [] 0 0 _ _ ⟨B.exec, B.bytes, hml, findClass_of_methodNamed B.named, fun w hw => hts w (List.mem_cons_of_mem _ hw), (name_of_methodNamed B.named B.method).1, hctx, ⟨Nat.le_refl _, Nat.le_refl _, by simp [xroom], by simp [xroom]⟩, ?_⟩ hrep va_S.rf (xargs_loc hn)
  intro H locs cells slots ls v S' M' pc hR hS hc hs hQ hret
  refine W.widen (k := k) (n := n) hc hs ?_
  match v, hret with
  | none, hret =>
    exact W.vret B.exec B.bytes (hr.trans hret.2) (fun t ht hW => ⟨none, S', M', rfl, by rw [ht]; exact hR.moved hW.alike, hQ, hS.F ht⟩) hS.2.2 hret.1
  | some (.int y), hret =>
    obtain ⟨hd, ty, hty, hnar⟩ := hret
    exact W.zret B.exec B.bytes (hr.trans hty) hnar (fun t ht hW => ⟨some (.int y), S', M', rfl, by rw [ht]; exact hR.moved hW.alike, hQ, hS.F ht⟩) hS.2.2 hd
end
section
/-! THE ROWS: an instruction, a row; a static fact of a place comes first, the walk behind it last -/
section XR
variable {G : xGl} {m : xM} {d k n pc nx : Nat} {Q : Option Value → List xSh → xMem → Prop} {L L1 : List (Option Value)} {st : List Value} {S : List xSh} {M : xMem}
def xD (m : xM) (pc : Nat) (i : Instr) (w nx : Nat) : Prop := decode m.2.1 pc = .ok (i, w) ∧ pc + w = nx
def xJ (m : xM) (pc : Nat) (mk : Int → Instr) (tgt nx : Nat) : Prop := ∃ off : Int, decode m.2.1 pc = .ok (mk off, 3) ∧ (pc : Int) + off = (tgt : Int) ∧ pc + 3 = nx
def xK (m : xM) (pc : Nat) (v : Int32) (nx : Nat) : Prop := (∃ i : Int, decode m.2.1 pc = .ok (.iconst i, 1) ∧ Int32.ofInt i = v ∧ pc + 1 = nx) ∨ (∃ i : Int, decode m.2.1 pc = .ok (.bipush i, 2) ∧ (Int8.ofInt i).toInt32 = v ∧ pc + 2 = nx) ∨ (∃ i : Int, decode m.2.1 pc = .ok (.sipush i, 3) ∧ (Int16.ofInt i).toInt32 = v ∧ pc + 3 = nx) ∨ (∃ i : Nat, decode m.2.1 pc = .ok (.ldc i, 2) ∧ Cond.constant m.1.cls i v ∈ xT ∧ pc + 2 = nx) ∨ (∃ i : Nat, decode m.2.1 pc = .ok (.ldc_w i, 3) ∧ Cond.constant m.1.cls i v ∈ xT ∧ pc + 3 = nx)
def xKL (m : xM) (pc : Nat) (v : Int64) (nx : Nat) : Prop := (∃ i : Fin 2, decode m.2.1 pc = .ok (.lconst i, 1) ∧ Int64.ofNat (i : Nat) = v ∧ pc + 1 = nx) ∨ (∃ i : Nat, decode m.2.1 pc = .ok (.ldc2_w i, 3) ∧ Cond.constantLong m.1.cls i v ∈ xT ∧ pc + 3 = nx)

def x_iload (m : xM) (pc i nx : Nat) : Prop := (∃ k : Fin 4, decode m.2.1 pc = .ok (.iload_n k, 1) ∧ (k : Nat) = i ∧ pc + 1 = nx) ∨ (decode m.2.1 pc = .ok (.iload i, 2) ∧ pc + 2 = nx)
def x_aload (m : xM) (pc i nx : Nat) : Prop := (∃ k : Fin 4, decode m.2.1 pc = .ok (.aload_n k, 1) ∧ (k : Nat) = i ∧ pc + 1 = nx) ∨ (decode m.2.1 pc = .ok (.aload i, 2) ∧ pc + 2 = nx)
def x_lload (m : xM) (pc i nx : Nat) : Prop := (∃ k : Fin 4, decode m.2.1 pc = .ok (.lload_n k, 1) ∧ (k : Nat) = i ∧ pc + 1 = nx) ∨ (decode m.2.1 pc = .ok (.lload i, 2) ∧ pc + 2 = nx)
theorem xs_iload {i : Nat} {y : Int32} (he : x_iload m pc i nx) (hv : L[i]? = some (some (.int y))) (kk : xW G m d k n Q nx L (.int y :: st) S M) : xW G m d k n Q pc L st S M := by
  intro l D p e R s mi args below meth c H locs cells slots Z ls E hR hS hl
  rcases he with ⟨j, hd, hj, rfl⟩ | ⟨hd, rfl⟩
  · exact lv_iload_n E.1 E.2.1 hd hj (hl.2.2.2 i _ hv) (kk l D p e R s mi args below meth c H locs cells slots Z ls E hR hS hl)
  · exact lv_iload E.1 E.2.1 hd (hl.2.2.2 i _ hv) (kk l D p e R s mi args below meth c H locs cells slots Z ls E hR hS hl)
theorem xs_aload {i : Nat} {y : Nat} (he : x_aload m pc i nx) (hv : L[i]? = some (some (.ref y))) (kk : xW G m d k n Q nx L (.ref y :: st) S M) : xW G m d k n Q pc L st S M := by
  intro l D p e R s mi args below meth c H locs cells slots Z ls E hR hS hl
  rcases he with ⟨j, hd, hj, rfl⟩ | ⟨hd, rfl⟩
  · exact lv_aload_n E.1 E.2.1 hd hj (hl.2.2.2 i _ hv) (kk l D p e R s mi args below meth c H locs cells slots Z ls E hR hS hl)
  · exact lv_aload E.1 E.2.1 hd (hl.2.2.2 i _ hv) (kk l D p e R s mi args below meth c H locs cells slots Z ls E hR hS hl)
theorem xs_lload {i : Nat} {y : Int64} (he : x_lload m pc i nx) (hv : L[i]? = some (some (.long y))) (kk : xW G m d k n Q nx L (.long y :: st) S M) : xW G m d k n Q pc L st S M := by
  intro l D p e R s mi args below meth c H locs cells slots Z ls E hR hS hl
  rcases he with ⟨j, hd, hj, rfl⟩ | ⟨hd, rfl⟩
  · exact lv_lload_n E.1 E.2.1 hd hj (hl.2.2.2 i _ hv) (kk l D p e R s mi args below meth c H locs cells slots Z ls E hR hS hl)
  · exact lv_lload E.1 E.2.1 hd (hl.2.2.2 i _ hv) (kk l D p e R s mi args below meth c H locs cells slots Z ls E hR hS hl)
/-- the place below holds no long -/
def xok (L : List (Option Value)) (i : Nat) : Bool := match i with
  | 0 => true
  | j + 1 => match L[j]? with
    | some (some v) => v.category == 1
    | _ => true
theorem xLoc.has {ls : Array Slot} {nL : Nat} (hl : xLoc ls nL L) : lv_has ls nL ((List.range nL).filterMap (fun i => match L[i]? with | some (some v) => some (i, v) | _ => none)) := by
  refine ⟨hl.1, hl.2.2.1, fun q hq => ?_⟩
  obtain ⟨i, -, hi⟩ := List.mem_filterMap.mp hq
  cases hL : L[i]? with
  | none => rw [hL] at hi; cases hi
  | some w =>
    cases w with
    | none => rw [hL] at hi; cases hi
    | some v =>
      rw [hL] at hi
      cases hi
      exact hl.2.2.2 i v hL
theorem xLoc.mem {nL i : Nat} {v : Value} (hlen : L.length = nL) (hv : L[i]? = some (some v)) : (i, v) ∈ ((List.range nL).filterMap (fun i => match L[i]? with | some (some v) => some (i, v) | _ => none)) := by
  refine List.mem_filterMap.mpr ⟨i, List.mem_range.mpr ?_, by rw [hv]⟩
  rw [← hlen]
  exact (List.getElem?_eq_some_iff.mp hv).1
theorem xLoc.set1 {ls ls' : Array Slot} {nL i : Nat} {v : Value} (hl : xLoc ls nL L) (hk : xok L i = true) (h' : lv_has ls' nL ((i, v) :: ((List.range nL).filterMap (fun i => match L[i]? with | some (some v) => some (i, v) | _ => none)).filter (fun q => !(q.1 == i) && !(q.1 + 1 == i && q.2.category == 2)))) : xLoc ls' nL (L.set i (some v)) := by
  refine ⟨h'.1, by rw [List.length_set]; exact hl.2.1, h'.2.1, fun j w hj => ?_⟩
  by_cases e : j = i
  · subst e
    have hlt : j < L.length := by
      have := (List.getElem?_eq_some_iff.mp hj).1
      rwa [List.length_set] at this
    rw [List.getElem?_set_self hlt] at hj
    cases hj
    exact h'.2.2 _ List.mem_cons_self
  · rw [List.getElem?_set_ne (Ne.symm e)] at hj
    refine h'.2.2 (j, w) (List.mem_cons_of_mem _ (List.mem_filter.mpr ⟨xLoc.mem hl.2.1 hj, ?_⟩))
    by_cases e2 : j + 1 = i
    · subst e2
      have hc : w.category = 1 := by simpa [xok, hj] using hk
      simp [hc]
    · simp [e, e2]
theorem xLoc.set2 {ls ls' : Array Slot} {nL i : Nat} {v : Value} (hl : xLoc ls nL L) (hk : xok L i = true) (h' : lv_has ls' nL ((i, v) :: ((List.range nL).filterMap (fun i => match L[i]? with | some (some v) => some (i, v) | _ => none)).filter (fun q => !(q.1 == i) && (!(q.1 == i + 1) && !(q.1 + 1 == i && q.2.category == 2))))) : xLoc ls' nL ((L.set i (some v)).set (i + 1) none) := by
  refine ⟨h'.1, by rw [List.length_set, List.length_set]; exact hl.2.1, h'.2.1, fun j w hj => ?_⟩
  have e1 : j ≠ i + 1 := by
    intro e
    subst e
    have hlt : i + 1 < (L.set i (some v)).length := by
      have := (List.getElem?_eq_some_iff.mp hj).1
      rwa [List.length_set] at this
    rw [List.getElem?_set_self hlt] at hj
    cases hj
  rw [List.getElem?_set_ne (Ne.symm e1)] at hj
  by_cases e : j = i
  · subst e
    have hlt : j < L.length := by
      have := (List.getElem?_eq_some_iff.mp hj).1
      rwa [List.length_set] at this
    rw [List.getElem?_set_self hlt] at hj
    cases hj
    exact h'.2.2 _ List.mem_cons_self
  · rw [List.getElem?_set_ne (Ne.symm e)] at hj
    refine h'.2.2 (j, w) (List.mem_cons_of_mem _ (List.mem_filter.mpr ⟨xLoc.mem hl.2.1 hj, ?_⟩))
    by_cases e2 : j + 1 = i
    · subst e2
      have hc : w.category = 1 := by simpa [xok, hj] using hk
      simp [hc]
      try omega
    · simp [e, e1, e2]
def x_istore (m : xM) (pc i nx : Nat) : Prop := (∃ k : Fin 4, decode m.2.1 pc = .ok (.istore_n k, 1) ∧ (k : Nat) = i ∧ pc + 1 = nx) ∨ (decode m.2.1 pc = .ok (.istore i, 2) ∧ pc + 2 = nx)
def x_astore (m : xM) (pc i nx : Nat) : Prop := (∃ k : Fin 4, decode m.2.1 pc = .ok (.astore_n k, 1) ∧ (k : Nat) = i ∧ pc + 1 = nx) ∨ (decode m.2.1 pc = .ok (.astore i, 2) ∧ pc + 2 = nx)
def x_lstore (m : xM) (pc i nx : Nat) : Prop := (∃ k : Fin 4, decode m.2.1 pc = .ok (.lstore_n k, 1) ∧ (k : Nat) = i ∧ pc + 1 = nx) ∨ (decode m.2.1 pc = .ok (.lstore i, 2) ∧ pc + 2 = nx)
theorem xs_istore {i : Nat} {y : Int32} (he : x_istore m pc i nx) (hi : i < L.length) (hk : xok L i = true) (hL : L.set i (some (.int y)) = L1) (kk : xW G m d k n Q nx L1 st S M) : xW G m d k n Q pc L (.int y :: st) S M := by
  subst hL
  intro l D p e R s mi args below meth c H locs cells slots Z ls E hR hS hl
  rcases he with ⟨j, hd, hj, rfl⟩ | ⟨hd, rfl⟩
  · exact lv_istore_n E.1 E.2.1 hd hj hl.has (by rw [← hl.2.1]; exact hi) rfl (fun ls' h' => kk l D p e R s mi args below meth c H locs cells slots Z ls' E hR hS (hl.set1 hk h'))
  · exact lv_istore E.1 E.2.1 hd hl.has (by rw [← hl.2.1]; exact hi) rfl (fun ls' h' => kk l D p e R s mi args below meth c H locs cells slots Z ls' E hR hS (hl.set1 hk h'))
theorem xs_astore {i : Nat} {y : Nat} (he : x_astore m pc i nx) (hi : i < L.length) (hk : xok L i = true) (hL : L.set i (some (.ref y)) = L1) (kk : xW G m d k n Q nx L1 st S M) : xW G m d k n Q pc L (.ref y :: st) S M := by
  subst hL
  intro l D p e R s mi args below meth c H locs cells slots Z ls E hR hS hl
  rcases he with ⟨j, hd, hj, rfl⟩ | ⟨hd, rfl⟩
  · exact lv_astore_n E.1 E.2.1 hd hj hl.has (by rw [← hl.2.1]; exact hi) rfl (fun ls' h' => kk l D p e R s mi args below meth c H locs cells slots Z ls' E hR hS (hl.set1 hk h'))
  · exact lv_astore E.1 E.2.1 hd hl.has (by rw [← hl.2.1]; exact hi) rfl (fun ls' h' => kk l D p e R s mi args below meth c H locs cells slots Z ls' E hR hS (hl.set1 hk h'))
theorem xs_lstore {i : Nat} {y : Int64} (he : x_lstore m pc i nx) (hi : i + 1 < L.length) (hk : xok L i = true) (hL : (L.set i (some (.long y))).set (i + 1) none = L1) (kk : xW G m d k n Q nx L1 st S M) : xW G m d k n Q pc L (.long y :: st) S M := by
  subst hL
  intro l D p e R s mi args below meth c H locs cells slots Z ls E hR hS hl
  rcases he with ⟨j, hd, hj, rfl⟩ | ⟨hd, rfl⟩
  · exact lv_lstore_n E.1 E.2.1 hd hj hl.has (by rw [← hl.2.1]; exact hi) rfl (fun ls' h' => kk l D p e R s mi args below meth c H locs cells slots Z ls' E hR hS (hl.set2 hk h'))
  · exact lv_lstore E.1 E.2.1 hd hl.has (by rw [← hl.2.1]; exact hi) rfl (fun ls' h' => kk l D p e R s mi args below meth c H locs cells slots Z ls' E hR hS (hl.set2 hk h'))
theorem xs_kill (i : Nat) (hL : L.set i none = L1) (kk : xW G m d k n Q pc L1 st S M) : xW G m d k n Q pc L st S M := by
  subst hL
  intro l D p e R s mi args below meth c H locs cells slots Z ls E hR hS hl
  refine kk l D p e R s mi args below meth c H locs cells slots Z ls E hR hS ⟨hl.1, by rw [List.length_set]; exact hl.2.1, hl.2.2.1, fun j w hj => ?_⟩
  by_cases e : j = i
  · subst e
    have hlt : j < L.length := by
      have := (List.getElem?_eq_some_iff.mp hj).1
      rwa [List.length_set] at this
    rw [List.getElem?_set_self hlt] at hj
    cases hj
  · rw [List.getElem?_set_ne (Ne.symm e)] at hj
    exact hl.2.2.2 j w hj
theorem xs_iinc {i : Nat} {z : Int} {y v : Int32} (he : xD m pc (.iinc i z) 3 nx) (hv : L[i]? = some (some (.int y))) (hz : y + Int32.ofInt z = v) (hk : xok L i = true) (hL : L.set i (some (.int v)) = L1) (kk : xW G m d k n Q nx L1 st S M) : xW G m d k n Q pc L st S M := by
  subst hL
  obtain ⟨hd, rfl⟩ := he
  intro l D p e R s mi args below meth c H locs cells slots Z ls E hR hS hl
  obtain ⟨j, hj⟩ := List.getElem?_of_mem (xLoc.mem hl.2.1 hv)
  have hi : i < m.2.2.1 := by
    rw [← hl.2.1]
    exact (List.getElem?_eq_some_iff.mp hv).1
  exact lv_iinc E.1 E.2.1 hd hl.has hj hz hi rfl (fun ls' h' => kk l D p e R s mi args below meth c H locs cells slots Z ls' E hR hS (hl.set1 hk h'))
/-- a counter goes up by one -/
theorem xs_inc1 {i a : Nat} (he : xD m pc (.iinc i 1) 3 nx) (hv : L[i]? = some (some (.int (nI a)))) (hk : xok L i = true) (hL : L.set i (some (.int (nI (a + 1)))) = L1) (kk : xW G m d k n Q nx L1 st S M) : xW G m d k n Q pc L st S M :=
  xs_iinc he hv (nI_1 a) hk hL kk
theorem xs_eq1 {y z : Int32} (h : y = z) (kk : xW G m d k n Q pc L (.int z :: st) S M) : xW G m d k n Q pc L (.int y :: st) S M := h ▸ kk
theorem xs_eqM {M1 : xMem} (h : M = M1) (kk : xW G m d k n Q pc L st S M1) : xW G m d k n Q pc L st S M := h ▸ kk
theorem xs_K {v : Int32} (he : xK m pc v nx) (kk : xW G m d k n Q nx L (.int v :: st) S M) : xW G m d k n Q pc L st S M := by
  intro l D p e R s mi args below meth c H locs cells slots Z ls E hR hS hl
  rcases he with ⟨i, hd, hv, rfl⟩ | ⟨i, hd, hv, rfl⟩ | ⟨i, hd, hv, rfl⟩ | ⟨i, hd, hw, rfl⟩ | ⟨i, hd, hw, rfl⟩
  · exact lv_iconst E.1 E.2.1 hd hv (kk l D p e R s mi args below meth c H locs cells slots Z ls E hR hS hl)
  · exact lv_bipush E.1 E.2.1 hd hv (kk l D p e R s mi args below meth c H locs cells slots Z ls E hR hS hl)
  · exact lv_sipush E.1 E.2.1 hd hv (kk l D p e R s mi args below meth c H locs cells slots Z ls E hR hS hl)
  · exact lv_ldc E.1 E.2.1 E.2.2.2.1 (E.2.2.2.2.1 _ hw) hd (kk l D p e R s mi args below meth c H locs cells slots Z ls E hR hS hl)
  · exact lv_ldcw E.1 E.2.1 E.2.2.2.1 (E.2.2.2.2.1 _ hw) hd (kk l D p e R s mi args below meth c H locs cells slots Z ls E hR hS hl)
theorem xs_KL {v : Int64} (he : xKL m pc v nx) (kk : xW G m d k n Q nx L (.long v :: st) S M) : xW G m d k n Q pc L st S M := by
  intro l D p e R s mi args below meth c H locs cells slots Z ls E hR hS hl
  rcases he with ⟨i, hd, hv, rfl⟩ | ⟨i, hd, hw, rfl⟩
  · exact lv_lconst E.1 E.2.1 hd hv (kk l D p e R s mi args below meth c H locs cells slots Z ls E hR hS hl)
  · exact lv_ldc2 E.1 E.2.1 E.2.2.2.1 (E.2.2.2.2.1 _ hw) hd (kk l D p e R s mi args below meth c H locs cells slots Z ls E hR hS hl)
theorem xs_iadd {y z : Int32} (he : xD m pc (.iadd) 1 nx) (kk : xW G m d k n Q nx L (.int (y + z) :: st) S M) : xW G m d k n Q pc L (.int z :: .int y :: st) S M := by
  obtain ⟨hd, rfl⟩ := he
  intro l D p e R s mi args below meth c H locs cells slots Z ls E hR hS hl
  exact lv_iadd E.1 E.2.1 hd (kk l D p e R s mi args below meth c H locs cells slots Z ls E hR hS hl)
theorem xs_isub {y z : Int32} (he : xD m pc (.isub) 1 nx) (kk : xW G m d k n Q nx L (.int (y - z) :: st) S M) : xW G m d k n Q pc L (.int z :: .int y :: st) S M := by
  obtain ⟨hd, rfl⟩ := he
  intro l D p e R s mi args below meth c H locs cells slots Z ls E hR hS hl
  exact lv_isub E.1 E.2.1 hd (kk l D p e R s mi args below meth c H locs cells slots Z ls E hR hS hl)
theorem xs_imul {y z : Int32} (he : xD m pc (.imul) 1 nx) (kk : xW G m d k n Q nx L (.int (y * z) :: st) S M) : xW G m d k n Q pc L (.int z :: .int y :: st) S M := by
  obtain ⟨hd, rfl⟩ := he
  intro l D p e R s mi args below meth c H locs cells slots Z ls E hR hS hl
  exact lv_imul E.1 E.2.1 hd (kk l D p e R s mi args below meth c H locs cells slots Z ls E hR hS hl)
theorem xs_iand {y z : Int32} (he : xD m pc (.iand) 1 nx) (kk : xW G m d k n Q nx L (.int (y &&& z) :: st) S M) : xW G m d k n Q pc L (.int z :: .int y :: st) S M := by
  obtain ⟨hd, rfl⟩ := he
  intro l D p e R s mi args below meth c H locs cells slots Z ls E hR hS hl
  exact lv_iand E.1 E.2.1 hd (kk l D p e R s mi args below meth c H locs cells slots Z ls E hR hS hl)
theorem xs_ior {y z : Int32} (he : xD m pc (.ior) 1 nx) (kk : xW G m d k n Q nx L (.int (y ||| z) :: st) S M) : xW G m d k n Q pc L (.int z :: .int y :: st) S M := by
  obtain ⟨hd, rfl⟩ := he
  intro l D p e R s mi args below meth c H locs cells slots Z ls E hR hS hl
  exact lv_ior E.1 E.2.1 hd (kk l D p e R s mi args below meth c H locs cells slots Z ls E hR hS hl)
theorem xs_ixor {y z : Int32} (he : xD m pc (.ixor) 1 nx) (kk : xW G m d k n Q nx L (.int (y ^^^ z) :: st) S M) : xW G m d k n Q pc L (.int z :: .int y :: st) S M := by
  obtain ⟨hd, rfl⟩ := he
  intro l D p e R s mi args below meth c H locs cells slots Z ls E hR hS hl
  exact lv_ixor E.1 E.2.1 hd (kk l D p e R s mi args below meth c H locs cells slots Z ls E hR hS hl)
theorem xs_ishl {y z : Int32} (he : xD m pc (.ishl) 1 nx) (kk : xW G m d k n Q nx L (.int (y <<< (z &&& 31)) :: st) S M) : xW G m d k n Q pc L (.int z :: .int y :: st) S M := by
  obtain ⟨hd, rfl⟩ := he
  intro l D p e R s mi args below meth c H locs cells slots Z ls E hR hS hl
  exact lv_ishl E.1 E.2.1 hd (kk l D p e R s mi args below meth c H locs cells slots Z ls E hR hS hl)
theorem xs_ishr {y z : Int32} (he : xD m pc (.ishr) 1 nx) (kk : xW G m d k n Q nx L (.int (y >>> (z &&& 31)) :: st) S M) : xW G m d k n Q pc L (.int z :: .int y :: st) S M := by
  obtain ⟨hd, rfl⟩ := he
  intro l D p e R s mi args below meth c H locs cells slots Z ls E hR hS hl
  exact lv_ishr E.1 E.2.1 hd (kk l D p e R s mi args below meth c H locs cells slots Z ls E hR hS hl)
theorem xs_idiv {y z : Int32} (he : xD m pc (.idiv) 1 nx) (hz : ¬ z = 0) (kk : xW G m d k n Q nx L (.int (y / z) :: st) S M) : xW G m d k n Q pc L (.int z :: .int y :: st) S M := by
  obtain ⟨hd, rfl⟩ := he
  intro l D p e R s mi args below meth c H locs cells slots Z ls E hR hS hl
  exact lv_idiv E.1 E.2.1 hd hz (kk l D p e R s mi args below meth c H locs cells slots Z ls E hR hS hl)
theorem xs_irem {y z : Int32} (he : xD m pc (.irem) 1 nx) (hz : ¬ z = 0) (kk : xW G m d k n Q nx L (.int (y - y / z * z) :: st) S M) : xW G m d k n Q pc L (.int z :: .int y :: st) S M := by
  obtain ⟨hd, rfl⟩ := he
  intro l D p e R s mi args below meth c H locs cells slots Z ls E hR hS hl
  exact lv_irem E.1 E.2.1 hd hz (kk l D p e R s mi args below meth c H locs cells slots Z ls E hR hS hl)
theorem xs_iushr {y z : Int32} (he : xD m pc (.iushr) 1 nx) (kk : xW G m d k n Q nx L (.int ((y.toUInt32 >>> (z.toUInt32 &&& Int32.toUInt32 31)).toInt32) :: st) S M) : xW G m d k n Q pc L (.int z :: .int y :: st) S M := by
  obtain ⟨hd, rfl⟩ := he
  intro l D p e R s mi args below meth c H locs cells slots Z ls E hR hS hl
  exact lv_iushr E.1 E.2.1 hd rfl (kk l D p e R s mi args below meth c H locs cells slots Z ls E hR hS hl)
theorem xs_ladd {y z : Int64} (he : xD m pc (.ladd) 1 nx) (kk : xW G m d k n Q nx L (.long (y + z) :: st) S M) : xW G m d k n Q pc L (.long z :: .long y :: st) S M := by
  obtain ⟨hd, rfl⟩ := he
  intro l D p e R s mi args below meth c H locs cells slots Z ls E hR hS hl
  exact lv_ladd E.1 E.2.1 hd (kk l D p e R s mi args below meth c H locs cells slots Z ls E hR hS hl)
theorem xs_lmul {y z : Int64} (he : xD m pc (.lmul) 1 nx) (kk : xW G m d k n Q nx L (.long (y * z) :: st) S M) : xW G m d k n Q pc L (.long z :: .long y :: st) S M := by
  obtain ⟨hd, rfl⟩ := he
  intro l D p e R s mi args below meth c H locs cells slots Z ls E hR hS hl
  exact lv_lmul E.1 E.2.1 hd (kk l D p e R s mi args below meth c H locs cells slots Z ls E hR hS hl)
theorem xs_ldiv {y z : Int64} (he : xD m pc (.ldiv) 1 nx) (hz : ¬ z = 0) (kk : xW G m d k n Q nx L (.long (y / z) :: st) S M) : xW G m d k n Q pc L (.long z :: .long y :: st) S M := by
  obtain ⟨hd, rfl⟩ := he
  intro l D p e R s mi args below meth c H locs cells slots Z ls E hR hS hl
  exact lv_ldiv E.1 E.2.1 hd hz (kk l D p e R s mi args below meth c H locs cells slots Z ls E hR hS hl)
theorem xs_lrem {y z : Int64} (he : xD m pc (.lrem) 1 nx) (hz : ¬ z = 0) (kk : xW G m d k n Q nx L (.long (y - y / z * z) :: st) S M) : xW G m d k n Q pc L (.long z :: .long y :: st) S M := by
  obtain ⟨hd, rfl⟩ := he
  intro l D p e R s mi args below meth c H locs cells slots Z ls E hR hS hl
  exact lv_lrem E.1 E.2.1 hd hz (kk l D p e R s mi args below meth c H locs cells slots Z ls E hR hS hl)
theorem xs_lcmp {y z : Int64} (he : xD m pc (.lcmp) 1 nx) (kk : xW G m d k n Q nx L (.int (lg_cmp y z) :: st) S M) : xW G m d k n Q pc L (.long z :: .long y :: st) S M := by
  obtain ⟨hd, rfl⟩ := he
  intro l D p e R s mi args below meth c H locs cells slots Z ls E hR hS hl
  exact W.lcmp E.1 E.2.1 hd (kk l D p e R s mi args below meth c H locs cells slots Z ls E hR hS hl)
theorem xs_i2l {y : Int32} (he : xD m pc (.i2l) 1 nx) (kk : xW G m d k n Q nx L (.long y.toInt64 :: st) S M) : xW G m d k n Q pc L (.int y :: st) S M := by
  obtain ⟨hd, rfl⟩ := he
  intro l D p e R s mi args below meth c H locs cells slots Z ls E hR hS hl
  exact lv_i2l E.1 E.2.1 hd rfl (kk l D p e R s mi args below meth c H locs cells slots Z ls E hR hS hl)
theorem xs_l2i {y : Int64} (he : xD m pc (.l2i) 1 nx) (kk : xW G m d k n Q nx L (.int y.toInt32 :: st) S M) : xW G m d k n Q pc L (.long y :: st) S M := by
  obtain ⟨hd, rfl⟩ := he
  intro l D p e R s mi args below meth c H locs cells slots Z ls E hR hS hl
  exact lv_l2i E.1 E.2.1 hd rfl (kk l D p e R s mi args below meth c H locs cells slots Z ls E hR hS hl)
theorem xs_i2b {y : Int32} (he : xD m pc (.i2b) 1 nx) (kk : xW G m d k n Q nx L (.int y.toInt8.toInt32 :: st) S M) : xW G m d k n Q pc L (.int y :: st) S M := by
  obtain ⟨hd, rfl⟩ := he
  intro l D p e R s mi args below meth c H locs cells slots Z ls E hR hS hl
  exact lv_i2b E.1 E.2.1 hd rfl (kk l D p e R s mi args below meth c H locs cells slots Z ls E hR hS hl)
theorem xs_i2c {y : Int32} (he : xD m pc (.i2c) 1 nx) (kk : xW G m d k n Q nx L (.int (y.toUInt32 % 65536).toInt32 :: st) S M) : xW G m d k n Q pc L (.int y :: st) S M := by
  obtain ⟨hd, rfl⟩ := he
  intro l D p e R s mi args below meth c H locs cells slots Z ls E hR hS hl
  exact lv_i2c E.1 E.2.1 hd rfl (kk l D p e R s mi args below meth c H locs cells slots Z ls E hR hS hl)
theorem xs_dup {v : Value} (he : xD m pc (.dup) 1 nx) (hv : v.category = 1) (kk : xW G m d k n Q nx L (v :: v :: st) S M) : xW G m d k n Q pc L (v :: st) S M := by
  obtain ⟨hd, rfl⟩ := he
  intro l D p e R s mi args below meth c H locs cells slots Z ls E hR hS hl
  exact lv_dup E.1 E.2.1 hd hv (kk l D p e R s mi args below meth c H locs cells slots Z ls E hR hS hl)
theorem xs_pop {v : Value} (he : xD m pc (.pop) 1 nx) (hv : v.category = 1) (kk : xW G m d k n Q nx L (st) S M) : xW G m d k n Q pc L (v :: st) S M := by
  obtain ⟨hd, rfl⟩ := he
  intro l D p e R s mi args below meth c H locs cells slots Z ls E hR hS hl
  exact lv_pop E.1 E.2.1 hd hv (kk l D p e R s mi args below meth c H locs cells slots Z ls E hR hS hl)
theorem xs_dup2 {v w : Value} (he : xD m pc (.dup2) 1 nx) (hv : v.category = 1) (hw : w.category = 1) (kk : xW G m d k n Q nx L (v :: w :: v :: w :: st) S M) : xW G m d k n Q pc L (v :: w :: st) S M := by
  obtain ⟨hd, rfl⟩ := he
  intro l D p e R s mi args below meth c H locs cells slots Z ls E hR hS hl
  exact lv_dup2_11 E.1 E.2.1 hd hv hw (kk l D p e R s mi args below meth c H locs cells slots Z ls E hR hS hl)
theorem xs_if_eq {y : Int32} {tgt : Nat} (he : xJ m pc (.ifCond .eq) tgt nx) (kt : y = 0 → xW G m d k n Q tgt L st S M) (kf : ¬ (y = 0) → xW G m d k n Q nx L st S M) : xW G m d k n Q pc L (.int y :: st) S M := by
  obtain ⟨off, hd, ht, rfl⟩ := he
  intro l D p e R s mi args below meth c H locs cells slots Z ls E hR hS hl
  exact lv_if_eq E.1 E.2.1 hd ht (fun h => kt h l D p e R s mi args below meth c H locs cells slots Z ls E hR hS hl) (fun h => kf h l D p e R s mi args below meth c H locs cells slots Z ls E hR hS hl)
theorem xs_icmp_eq {y z : Int32} {tgt : Nat} (he : xJ m pc (.if_icmp .eq) tgt nx) (kt : y = z → xW G m d k n Q tgt L st S M) (kf : ¬ (y = z) → xW G m d k n Q nx L st S M) : xW G m d k n Q pc L (.int z :: .int y :: st) S M := by
  obtain ⟨off, hd, ht, rfl⟩ := he
  intro l D p e R s mi args below meth c H locs cells slots Z ls E hR hS hl
  exact lv_icmp_eq E.1 E.2.1 hd ht (fun h => kt h l D p e R s mi args below meth c H locs cells slots Z ls E hR hS hl) (fun h => kf h l D p e R s mi args below meth c H locs cells slots Z ls E hR hS hl)
theorem xs_if_ne {y : Int32} {tgt : Nat} (he : xJ m pc (.ifCond .ne) tgt nx) (kt : y ≠ 0 → xW G m d k n Q tgt L st S M) (kf : y = 0 → xW G m d k n Q nx L st S M) : xW G m d k n Q pc L (.int y :: st) S M := by
  obtain ⟨off, hd, ht, rfl⟩ := he
  intro l D p e R s mi args below meth c H locs cells slots Z ls E hR hS hl
  exact lv_if_ne E.1 E.2.1 hd ht (fun h => kt h l D p e R s mi args below meth c H locs cells slots Z ls E hR hS hl) (fun h => kf h l D p e R s mi args below meth c H locs cells slots Z ls E hR hS hl)
theorem xs_icmp_ne {y z : Int32} {tgt : Nat} (he : xJ m pc (.if_icmp .ne) tgt nx) (kt : y ≠ z → xW G m d k n Q tgt L st S M) (kf : y = z → xW G m d k n Q nx L st S M) : xW G m d k n Q pc L (.int z :: .int y :: st) S M := by
  obtain ⟨off, hd, ht, rfl⟩ := he
  intro l D p e R s mi args below meth c H locs cells slots Z ls E hR hS hl
  exact lv_icmp_ne E.1 E.2.1 hd ht (fun h => kt h l D p e R s mi args below meth c H locs cells slots Z ls E hR hS hl) (fun h => kf h l D p e R s mi args below meth c H locs cells slots Z ls E hR hS hl)
theorem xs_if_lt {y : Int32} {tgt : Nat} (he : xJ m pc (.ifCond .lt) tgt nx) (kt : y < 0 → xW G m d k n Q tgt L st S M) (kf : ¬ (y < 0) → xW G m d k n Q nx L st S M) : xW G m d k n Q pc L (.int y :: st) S M := by
  obtain ⟨off, hd, ht, rfl⟩ := he
  intro l D p e R s mi args below meth c H locs cells slots Z ls E hR hS hl
  exact lv_if_lt E.1 E.2.1 hd ht (fun h => kt h l D p e R s mi args below meth c H locs cells slots Z ls E hR hS hl) (fun h => kf h l D p e R s mi args below meth c H locs cells slots Z ls E hR hS hl)
theorem xs_icmp_lt {y z : Int32} {tgt : Nat} (he : xJ m pc (.if_icmp .lt) tgt nx) (kt : y < z → xW G m d k n Q tgt L st S M) (kf : ¬ (y < z) → xW G m d k n Q nx L st S M) : xW G m d k n Q pc L (.int z :: .int y :: st) S M := by
  obtain ⟨off, hd, ht, rfl⟩ := he
  intro l D p e R s mi args below meth c H locs cells slots Z ls E hR hS hl
  exact lv_icmp_lt E.1 E.2.1 hd ht (fun h => kt h l D p e R s mi args below meth c H locs cells slots Z ls E hR hS hl) (fun h => kf h l D p e R s mi args below meth c H locs cells slots Z ls E hR hS hl)
theorem xs_if_ge {y : Int32} {tgt : Nat} (he : xJ m pc (.ifCond .ge) tgt nx) (kt : 0 ≤ y → xW G m d k n Q tgt L st S M) (kf : ¬ (0 ≤ y) → xW G m d k n Q nx L st S M) : xW G m d k n Q pc L (.int y :: st) S M := by
  obtain ⟨off, hd, ht, rfl⟩ := he
  intro l D p e R s mi args below meth c H locs cells slots Z ls E hR hS hl
  exact lv_if_ge E.1 E.2.1 hd ht (fun h => kt h l D p e R s mi args below meth c H locs cells slots Z ls E hR hS hl) (fun h => kf h l D p e R s mi args below meth c H locs cells slots Z ls E hR hS hl)
theorem xs_icmp_ge {y z : Int32} {tgt : Nat} (he : xJ m pc (.if_icmp .ge) tgt nx) (kt : z ≤ y → xW G m d k n Q tgt L st S M) (kf : ¬ (z ≤ y) → xW G m d k n Q nx L st S M) : xW G m d k n Q pc L (.int z :: .int y :: st) S M := by
  obtain ⟨off, hd, ht, rfl⟩ := he
  intro l D p e R s mi args below meth c H locs cells slots Z ls E hR hS hl
  exact lv_icmp_ge E.1 E.2.1 hd ht (fun h => kt h l D p e R s mi args below meth c H locs cells slots Z ls E hR hS hl) (fun h => kf h l D p e R s mi args below meth c H locs cells slots Z ls E hR hS hl)
theorem xs_if_gt {y : Int32} {tgt : Nat} (he : xJ m pc (.ifCond .gt) tgt nx) (kt : 0 < y → xW G m d k n Q tgt L st S M) (kf : ¬ (0 < y) → xW G m d k n Q nx L st S M) : xW G m d k n Q pc L (.int y :: st) S M := by
  obtain ⟨off, hd, ht, rfl⟩ := he
  intro l D p e R s mi args below meth c H locs cells slots Z ls E hR hS hl
  exact lv_if_gt E.1 E.2.1 hd ht (fun h => kt h l D p e R s mi args below meth c H locs cells slots Z ls E hR hS hl) (fun h => kf h l D p e R s mi args below meth c H locs cells slots Z ls E hR hS hl)
theorem xs_icmp_gt {y z : Int32} {tgt : Nat} (he : xJ m pc (.if_icmp .gt) tgt nx) (kt : z < y → xW G m d k n Q tgt L st S M) (kf : ¬ (z < y) → xW G m d k n Q nx L st S M) : xW G m d k n Q pc L (.int z :: .int y :: st) S M := by
  obtain ⟨off, hd, ht, rfl⟩ := he
  intro l D p e R s mi args below meth c H locs cells slots Z ls E hR hS hl
  exact lv_icmp_gt E.1 E.2.1 hd ht (fun h => kt h l D p e R s mi args below meth c H locs cells slots Z ls E hR hS hl) (fun h => kf h l D p e R s mi args below meth c H locs cells slots Z ls E hR hS hl)
theorem xs_if_le {y : Int32} {tgt : Nat} (he : xJ m pc (.ifCond .le) tgt nx) (kt : y ≤ 0 → xW G m d k n Q tgt L st S M) (kf : ¬ (y ≤ 0) → xW G m d k n Q nx L st S M) : xW G m d k n Q pc L (.int y :: st) S M := by
  obtain ⟨off, hd, ht, rfl⟩ := he
  intro l D p e R s mi args below meth c H locs cells slots Z ls E hR hS hl
  exact lv_if_le E.1 E.2.1 hd ht (fun h => kt h l D p e R s mi args below meth c H locs cells slots Z ls E hR hS hl) (fun h => kf h l D p e R s mi args below meth c H locs cells slots Z ls E hR hS hl)
theorem xs_icmp_le {y z : Int32} {tgt : Nat} (he : xJ m pc (.if_icmp .le) tgt nx) (kt : y ≤ z → xW G m d k n Q tgt L st S M) (kf : ¬ (y ≤ z) → xW G m d k n Q nx L st S M) : xW G m d k n Q pc L (.int z :: .int y :: st) S M := by
  obtain ⟨off, hd, ht, rfl⟩ := he
  intro l D p e R s mi args below meth c H locs cells slots Z ls E hR hS hl
  exact lv_icmp_le E.1 E.2.1 hd ht (fun h => kt h l D p e R s mi args below meth c H locs cells slots Z ls E hR hS hl) (fun h => kf h l D p e R s mi args below meth c H locs cells slots Z ls E hR hS hl)
theorem xs_goto {tgt : Nat} (he : xJ m pc .goto tgt nx) (kk : xW G m d k n Q tgt L st S M) : xW G m d k n Q pc L st S M := by
  obtain ⟨off, hd, ht, -⟩ := he
  intro l D p e R s mi args below meth c H locs cells slots Z ls E hR hS hl
  exact lv_goto E.1 E.2.1 hd ht (kk l D p e R s mi args below meth c H locs cells slots Z ls E hR hS hl)
/-- tableswitch: the place that a number goes to -/
def xTS (m : xM) (pc : Nat) (lo hi : Int) (f : Int → Nat) (dflt : Nat) : Prop := ∃ (dd : Int) (offs : Array Int) (w : Nat), decode m.2.1 pc = .ok (.tableswitch dd lo hi offs, w) ∧ (pc : Int) + dd = (dflt : Int) ∧ ∀ j : Nat, j < (hi - lo + 1).toNat → offs[j]? = some ((f (lo + j) : Int) - (pc : Int))
theorem xs_tsOut {y : Int32} {lo hi : Int} {f : Int → Nat} {dflt : Nat} (he : xTS m pc lo hi f dflt) (h : y.toInt < lo ∨ hi < y.toInt) (kk : xW G m d k n Q dflt L st S M) : xW G m d k n Q pc L (.int y :: st) S M := by
  obtain ⟨dd, offs, w, hd, h1, -⟩ := he
  intro l D p e R s mi args below meth c H locs cells slots Z ls E hR hS hl
  exact lv_tableOut E.1 E.2.1 hd h h1 (kk l D p e R s mi args below meth c H locs cells slots Z ls E hR hS hl)
theorem xs_tsIn {y : Int32} {lo hi : Int} {f : Int → Nat} {dflt tgt : Nat} (he : xTS m pc lo hi f dflt) (v : Int) (hv : y.toInt = v) (h1 : lo ≤ v) (h2 : v ≤ hi) (ht : f v = tgt) (kk : xW G m d k n Q tgt L st S M) : xW G m d k n Q pc L (.int y :: st) S M := by
  subst hv
  subst ht
  obtain ⟨dd, offs, w, hd, -, h4⟩ := he
  have ho1 := h4 (y.toInt - lo).toNat (by omega)
  have e9 : lo + ((y.toInt - lo).toNat : Int) = y.toInt := by omega
  rw [e9] at ho1
  intro l D p e R s mi args below meth c H locs cells slots Z ls E hR hS hl
  exact lv_tableIn E.1 E.2.1 hd (by omega) (by omega) ho1 (by omega) (kk l D p e R s mi args below meth c H locs cells slots Z ls E hR hS hl)
theorem xs_iret {y : Int32} (he : xD m pc .ireturn 1 nx) {ty : FieldType} (hty : m.2.2.2 = some ty) (hn : narrow ty (.int y) = .int y) (h : Q (some (.int y)) S M) : xW G m d k n Q pc L [.int y] S M := by
  intro l D p e R s mi args below meth c H locs cells slots Z ls E hR hS hl
  exact E.2.2.2.2.2.2.2.2 H locs cells slots ls (some (.int y)) S M pc hR hS (by have := E.2.2.2.2.2.2.2.1; omega) (by have := E.2.2.2.2.2.2.2.1; omega) h ⟨he.1, ty, hty, hn⟩
theorem xs_vret (he : xD m pc .return_ 1 nx) (hty : m.2.2.2 = none) (h : Q none S M) : xW G m d k n Q pc L [] S M := by
  intro l D p e R s mi args below meth c H locs cells slots Z ls E hR hS hl
  exact E.2.2.2.2.2.2.2.2 H locs cells slots ls none S M pc hR hS (by have := E.2.2.2.2.2.2.2.1; omega) (by have := E.2.2.2.2.2.2.2.1; omega) h ⟨he.1, hty⟩
end XR
end
section
/-! ROWS OF THE HEAP: fields, arrays, new cells -/
theorem inX0 : ∀ w ∈ u_ws RX0 TX0 7, w ∈ xT := by decide +kernel
theorem inX1 : ∀ w ∈ u_ws RX1 TX1 4, w ∈ xT := by decide +kernel
theorem inX2 : ∀ w ∈ u_ws RX2 TX2 8, w ∈ xT := by decide +kernel
theorem inX3 : ∀ w ∈ u_ws RX3 TX3 8, w ∈ xT := by decide +kernel
theorem inX4 : ∀ w ∈ u_ws RX4 TX4 3, w ∈ xT := by decide +kernel
theorem inX5 : ∀ w ∈ u_ws RX5 TX5 2, w ∈ xT := by decide +kernel
theorem inX6 : ∀ w ∈ u_ws RX6 TX6 2, w ∈ xT := by decide +kernel
theorem inX7 : ∀ w ∈ u_ws RX7 TX7 6, w ∈ xT := by decide +kernel
theorem inX8 : ∀ w ∈ u_ws RX8 TX8 3, w ∈ xT := by decide +kernel
theorem inX9 : ∀ w ∈ u_ws RX9 TX9 12, w ∈ xT := by decide +kernel
theorem inX10 : ∀ w ∈ u_ws RX10 TX10 26, w ∈ xT := by decide +kernel
/-- what is known of every class: its fields' words, their types, their names -/
def xKnown (q : vw_C) : Prop := (∀ w ∈ u_ws q.1 q.2.1 q.2.2, w ∈ xT) ∧ (∃ ty : Nat → FieldType, ∀ k, k < q.2.2 → parseFieldDescriptor (q.2.1 k).2.2.1 = some (ty k)) ∧ ∀ a, a < q.2.2 → ∀ b, b < q.2.2 → a ≠ b → (q.2.1 a).2.1 ≠ (q.2.1 b).2.1
theorem xKnown_at {ci : Nat} {q : vw_C} (h : vwCl[ci]? = some q) : xKnown q := by
  match ci, h with
  | 0, h => cases h; exact ⟨inX0, ⟨tyX0, tyX0_ok⟩, nmX0⟩
  | 1, h => cases h; exact ⟨inX1, ⟨tyX1, tyX1_ok⟩, nmX1⟩
  | 2, h => cases h; exact ⟨inX2, ⟨tyX2, tyX2_ok⟩, nmX2⟩
  | 3, h => cases h; exact ⟨inX3, ⟨tyX3, tyX3_ok⟩, nmX3⟩
  | 4, h => cases h; exact ⟨inX4, ⟨tyX4, tyX4_ok⟩, nmX4⟩
  | 5, h => cases h; exact ⟨inX5, ⟨tyX5, tyX5_ok⟩, nmX5⟩
  | 6, h => cases h; exact ⟨inX6, ⟨tyX6, tyX6_ok⟩, nmX6⟩
  | 7, h => cases h; exact ⟨inX7, ⟨tyX7, tyX7_ok⟩, nmX7⟩
  | 8, h => cases h; exact ⟨inX8, ⟨tyX8, tyX8_ok⟩, nmX8⟩
  | 9, h => cases h; exact ⟨inX9, ⟨tyX9, tyX9_ok⟩, nmX9⟩
  | 10, h => cases h; exact ⟨inX10, ⟨tyX10, tyX10_ok⟩, nmX10⟩
  | k + 11, h => simp [vwCl] at h
/-- a field's entry of the pool: field k of class ci -/
def xFl (own : String) (idx ci k : Nat) (ty : FieldType) (fin : Bool) : Prop := ∃ q : vw_C, vwCl[ci]? = some q ∧ k < q.2.2 ∧ parseFieldDescriptor (q.2.1 k).2.2.1 = some ty ∧ (q.2.1 k).2.2.2 = fin ∧ (q.2.1 k).1 = q.1 ∧ (Cond.fieldLink own idx (q.2.1 k).1 (q.2.1 k).2.1 (q.2.1 k).2.2.1 ∈ xT ∨ ∃ host, Cond.fieldLinkNest own idx (q.2.1 k).1 (q.2.1 k).2.1 (q.2.1 k).2.2.1 host ∈ xNest)
def xGF (m : xM) (pc ci k nx : Nat) : Prop := ∃ (idx : Nat) (ty : FieldType) (fin : Bool), decode m.2.1 pc = .ok (.getfield idx, 3) ∧ pc + 3 = nx ∧ xFl m.1.cls idx ci k ty fin
def xPF (m : xM) (pc ci k : Nat) (ty : FieldType) (nx : Nat) : Prop := ∃ (idx : Nat) (fin : Bool), decode m.2.1 pc = .ok (.putfield idx, 3) ∧ pc + 3 = nx ∧ xFl m.1.cls idx ci k ty fin ∧ (fin = true → m.1.name = "<init>" ∧ (∃ q : vw_C, vwCl[ci]? = some q ∧ q.1 = m.1.cls) ∧ ∃ q : vw_C, vwCl[ci]? = some q ∧ Cond.fieldLink m.1.cls idx (q.2.1 k).1 (q.2.1 k).2.1 (q.2.1 k).2.2.1 ∈ xT)
def up2 (M : xMem) (c k : Nat) (v : Int32) : xMem := fun a i => if a = c ∧ i = k then v else M a i
def setR (M : xMem) (c : Nat) (f : Nat → Int32) : xMem := fun a => if a = c then f else M a
theorem up2_ne {M : xMem} {c k a : Nat} {v : Int32} (h : a ≠ c) : up2 M c k v a = M a := by
  funext i
  simp [up2, h]
theorem up2_row {M : xMem} {c k : Nat} {v : Int32} : up2 M c k v c = upd (M c) k v := by
  funext i
  simp [up2, upd]
theorem setR_ne {M : xMem} {c a : Nat} {f : Nat → Int32} (h : a ≠ c) : setR M c f a = M a := by simp [setR, h]
theorem setR_row {M : xMem} {c : Nat} {f : Nat → Int32} : setR M c f c = f := by simp [setR]
section XH
variable {G : xGl} {m : xM} {d k n pc nx : Nat} {Q : Option Value → List xSh → xMem → Prop} {L : List (Option Value)} {st : List Value} {S : List xSh} {M : xMem}
theorem xs_get {c ci j : Nat} {fs : List (Option (Option Nat))} {o : Option (Option Nat)} (he : xGF m pc ci j nx) (hs : S[c]? = some (.inr (.inl (ci, fs)))) (ho : fs[j]? = some o) (kk : xW G m d k n Q nx L (xval G.1 M c j o :: st) S M) : xW G m d k n Q pc L (.ref (G.1 + c) :: st) S M := by
  obtain ⟨idx, ty, fin, hd, rfl, q, hq, hj, -, -, -, hlk⟩ := he
  intro l D p e R s mi args below meth ccc H locs cells slots Z ls E hR hS hl
  obtain ⟨r, hr, hOB⟩ := hR.2 c _ hs
  obtain rfl : r = q := Option.some.inj (hr.symm.trans hq)
  obtain ⟨C, T, N⟩ := r
  obtain ⟨cell, q1, q2, q3, q4⟩ := hOB
  have hK := E.2.2.2.2.2.2.1.2.1
  obtain ⟨hSl, hfc, kC, hkC, hkind⟩ := hK.1 ci _ hq
  obtain ⟨cf, kf, fi, f, hi, hsl⟩ := hSl j hj
  have hst := (u_facts hfc hkC (u_lays E.2.2.2.2.1 (xKnown_at hq).1 hj) hi).1
  have hv : cell.slots[f.slot]? = some (xval G.1 M c j o) := by
    rw [hsl, q4 j hj]
    simp [ho]
  rcases hlk with hlk | ⟨host, hlk⟩
  · exact W.getf E.1 E.2.1 E.2.2.2.1 (E.2.2.2.2.1 _ hlk) hi hst q1 (by rw [q3]; exact fun h => by cases h) hv rfl rfl hd (kk l D p e R s mi args below meth ccc H locs cells slots Z ls E hR hS hl)
  · exact va_Wgetf E.1 E.2.1 E.2.2.2.1 (va_Nw.use rfl (E.2.2.2.2.2.2.1.2.2.1 _ hlk)) hi hst q1 (by rw [q3]; exact fun h => by cases h) hv rfl rfl hd (kk l D p e R s mi args below meth ccc H locs cells slots Z ls E hR hS hl)
theorem xs_getI {c ci j : Nat} {fs : List (Option (Option Nat))} (he : xGF m pc ci j nx) (hs : S[c]? = some (.inr (.inl (ci, fs)))) (ho : fs[j]? = some none) (kk : xW G m d k n Q nx L (.int (M c j) :: st) S M) : xW G m d k n Q pc L (.ref (G.1 + c) :: st) S M := xs_get he hs ho kk
theorem xs_getR {c ci j r : Nat} {fs : List (Option (Option Nat))} (he : xGF m pc ci j nx) (hs : S[c]? = some (.inr (.inl (ci, fs)))) (ho : fs[j]? = some (some (some r))) (kk : xW G m d k n Q nx L (.ref (G.1 + r) :: st) S M) : xW G m d k n Q pc L (.ref (G.1 + c) :: st) S M := xs_get he hs ho kk
theorem xs_put {c ci j : Nat} {ty : FieldType} {v : Value} {M1 : xMem} {fs fs1 : List (Option (Option Nat))} (he : xPF m pc ci j ty nx) (hs : S[c]? = some (.inr (.inl (ci, fs)))) (hn : narrow ty v = v) (hf : fits ty v = true) (hM : ∀ a, a ≠ c → M1 a = M a) (hV : ∀ i, xval G.1 M1 c i (fs1.getD i none) = updV (fun i => xval G.1 M c i (fs.getD i none)) j v i)
    (kk : xW G m d k n Q nx L st (S.set c (.inr (.inl (ci, fs1)))) M1) : xW G m d k n Q pc L (v :: .ref (G.1 + c) :: st) S M := by
  obtain ⟨idx, fin, hd, rfl, ⟨q, hq, hj, hty, hfin, hown1, hlk⟩, hini⟩ := he
  intro l D p e R s mi args below meth ccc H locs cells slots Z ls E hR hS hl
  obtain ⟨r, hr, hOB⟩ := hR.2 c _ hs
  obtain rfl : r = q := Option.some.inj (hr.symm.trans hq)
  obtain ⟨C, T, N⟩ := r
  obtain ⟨cell, q1, q2, q3, q4⟩ := hOB
  have hts := E.2.2.2.2.1
  have hown := E.2.2.2.1
  have hK := E.2.2.2.2.2.2.1.2.1
  obtain ⟨hin, ⟨ty0, hty0⟩, hnm⟩ := xKnown_at hq
  have hap := va_apart (own := m.1.cls) hts hin ty0 hty0 hnm hK hq
  obtain ⟨hSl, hfc, kC, hkC, hkind⟩ := hK.1 ci _ hq
  obtain ⟨cf, kf, fi, f, hi, hsl⟩ := hSl j hj
  have hst := (u_facts hfc hkC (u_lays hts hin hj) hi).1
  have hlay := hts _ (hin _ (u_in_lay hj))
  unfold u_lay at hlay
  have fin1 : ∀ H1 : Heap, H1[G.1 + c]? = some (cell.setSlot f.slot v) → H1.size = H.size → (∀ q, q ≠ G.1 + c → H1[q]? = H[q]?) → W p l e R s mi args below meth ccc H1 (locs ++ [⟨G.1 + c, f.slot⟩]) cells slots Z (F0 mi (pc + 3) ls st) := by
    intro H1 e1 e2 e3
    rw [hsl] at e1
    refine kk l D p e R s mi args below meth ccc H1 _ cells slots Z ls E (hR.set hs e2 e3 hM ⟨(C, T, N), hq, t_OB.to (V := updV (fun i => xval G.1 M c i (fs.getD i none)) j v) ⟨_, e1, q2, q3, t_set q4 hap hj v⟩ (fun i _ => (hV i).symm)⟩) (hS.put e2 e3 (Nat.le_add_right _ _)) hl
  cases hfn : fin with
  | false =>
    rw [if_neg (by rw [hfin, hfn]; decide)] at hlay
    have h6 := u_store hfc hkC hkind hlay hi hty hn hf
    rcases hlk with hlk | ⟨host, hlk⟩
    · exact W.putK E.1 E.2.1 (f := f) ⟨hown, hts _ hlk, ⟨_, _, _, hi⟩, hst⟩ (by rw [q2]; exact h6) q1 q3 (by rw [hsl]; exact k2_hasslot (q4 j hj)) rfl rfl hd fin1
    · exact va_WputK E.1 E.2.1 (f := f) hown (va_Nw.use rfl (E.2.2.2.2.2.2.1.2.2.1 _ hlk)) hi hst (by rw [q2]; exact h6) q1 q3 (by rw [hsl]; exact k2_hasslot (q4 j hj)) rfl rfl hd fin1
  | true =>
    rw [if_pos (by rw [hfin, hfn])] at hlay
    obtain ⟨hnm1, ⟨q', hq', hqc⟩, q'', hq'', hlk2⟩ := hini hfn
    obtain rfl : q' = (C, T, N) := Option.some.inj (hq'.symm.trans hq)
    obtain rfl : q'' = (C, T, N) := Option.some.inj (hq''.symm.trans hq)
    have hcf : mi.cls = cf := by
      obtain ⟨_, _, c', _, _, _, -, -, hf', -, -, -, hown2, -⟩ := Cond.laysFinal_spec hlay
      have e1 : c' = cf := by have := hi.symm.trans hf'; simp at this; exact this.1.symm
      rw [hown1, hqc] at hown2
      rw [← e1]; exact Option.some.inj (hown.symm.trans hown2)
    have h6 := u_fits hfc hkC hkind (Or.inr hlay) hi hty hn hf
    exact W.putFinK E.1 E.2.1 hown (hts _ hlk2) hi hst hcf (E.2.2.2.2.2.1.trans hnm1) (by rw [q2]; exact h6) q1 q3 (by rw [hsl]; exact k2_hasslot (q4 j hj)) rfl rfl hd fin1
theorem xset_self {c : Nat} {sh : xSh} (hc : S[c]? = some sh) : S.set c sh = S := by
  apply List.ext_getElem?
  intro i
  by_cases q : i = c
  · subst q
    rw [List.getElem?_set_self (List.getElem?_eq_some_iff.mp hc).1, hc]
  · rw [List.getElem?_set_ne (Ne.symm q)]
theorem xs_putI {c ci j : Nat} {ty : FieldType} {y : Int32} {fs : List (Option (Option Nat))} (he : xPF m pc ci j ty nx) (hs : S[c]? = some (.inr (.inl (ci, fs)))) (ho : fs[j]? = some none) (hn : narrow ty (.int y) = .int y) (hf : fits ty (.int y) = true) (kk : xW G m d k n Q nx L st S (up2 M c j y)) : xW G m d k n Q pc L (.int y :: .ref (G.1 + c) :: st) S M := by
  refine xs_put (fs1 := fs) (M1 := up2 M c j y) he hs hn hf (fun a h => up2_ne h) (fun i => ?_) (by rw [xset_self hs]; exact kk)
  by_cases e : i = j
  · subst e
    simp [updV, ho, xval, up2]
  · rw [show updV (fun i => xval G.1 M c i (fs.getD i none)) j (.int y) i = xval G.1 M c i (fs.getD i none) from if_neg e]
    cases fs.getD i none with
    | none => simp [xval, up2, e]
    | some r => rfl
theorem xs_putR {c ci j r : Nat} {ty : FieldType} {fs : List (Option (Option Nat))} {S1 : List xSh} (he : xPF m pc ci j ty nx) (hs : S[c]? = some (.inr (.inl (ci, fs)))) (hj : j < fs.length) (hn : narrow ty (.ref (G.1 + r)) = .ref (G.1 + r)) (hf : fits ty (.ref (G.1 + r)) = true) (hS1 : S.set c (.inr (.inl (ci, fs.set j (some (some r))))) = S1) (kk : xW G m d k n Q nx L st S1 M) : xW G m d k n Q pc L (.ref (G.1 + r) :: .ref (G.1 + c) :: st) S M := by
  subst hS1
  refine xs_put (M1 := M) he hs hn hf (fun a h => rfl) (fun i => ?_) kk
  by_cases e : i = j
  · subst e
    simp [updV, xval, va_rf, hj]
  · simp [updV, e, List.getD_eq_getElem?_getD, List.getElem?_set_ne (Ne.symm e)]
/-- an array's element, by a number in range -/
theorem xs_iald {c j N : Nat} (he : xD m pc .iaload 1 nx) (hs : S[c]? = some (.inl (.int, N))) (hj : j < N) (hN : N < 2 ^ 31) (kk : xW G m d k n Q nx L (.int (M c j) :: st) S M) : xW G m d k n Q pc L (.int (nI j) :: .ref (G.1 + c) :: st) S M := by
  obtain ⟨hd, rfl⟩ := he
  intro l D p e R s mi args below meth ccc H locs cells slots Z ls E hR hS hl
  obtain ⟨cA, h1, h2⟩ := hR.2 c _ hs
  exact W.iald (v := .int (M c j)) E.1 E.2.1 h2 (h1 _ _) (fun q => by cases q) (by show ¬ (_ ∨ (arrV _ _ _).slots.size ≤ _); rw [arrV_size]; exact vp_in_nI hj hN) (by show (arrV _ _ _).slots[_]? = _; rw [nI_clamp (by omega), arrV_read _ _ hj]) rfl rfl hd (kk l D p e R s mi args below meth ccc H locs cells slots Z ls E hR hS hl)
theorem xs_cald {c j N : Nat} (he : xD m pc .caload 1 nx) (hs : S[c]? = some (.inl (.char, N))) (hj : j < N) (hN : N < 2 ^ 31) (kk : xW G m d k n Q nx L (.int (M c j) :: st) S M) : xW G m d k n Q pc L (.int (nI j) :: .ref (G.1 + c) :: st) S M := by
  obtain ⟨hd, rfl⟩ := he
  intro l D p e R s mi args below meth ccc H locs cells slots Z ls E hR hS hl
  obtain ⟨cA, h1, h2⟩ := hR.2 c _ hs
  exact W.cald (v := .int (M c j)) E.1 E.2.1 h2 (h1 _ _) (fun q => by cases q) (by show ¬ (_ ∨ (arrV _ _ _).slots.size ≤ _); rw [arrV_size]; exact vp_in_nI hj hN) (by show (arrV _ _ _).slots[_]? = _; rw [nI_clamp (by omega), arrV_read _ _ hj]) rfl rfl hd (kk l D p e R s mi args below meth ccc H locs cells slots Z ls E hR hS hl)
theorem xs_bald {c j N : Nat} (he : xD m pc .baload 1 nx) (hs : S[c]? = some (.inl (.byte, N))) (hj : j < N) (hN : N < 2 ^ 31) (kk : xW G m d k n Q nx L (.int (M c j) :: st) S M) : xW G m d k n Q pc L (.int (nI j) :: .ref (G.1 + c) :: st) S M := by
  obtain ⟨hd, rfl⟩ := he
  intro l D p e R s mi args below meth ccc H locs cells slots Z ls E hR hS hl
  obtain ⟨cA, h1, h2⟩ := hR.2 c _ hs
  exact W.bald (v := .int (M c j)) E.1 E.2.1 h2 (h1 _ _) (fun q => by cases q) (by show ¬ (_ ∨ (arrV _ _ _).slots.size ≤ _); rw [arrV_size]; exact vp_in_nI hj hN) (by show (arrV _ _ _).slots[_]? = _; rw [nI_clamp (by omega), arrV_read _ _ hj]) rfl rfl hd (kk l D p e R s mi args below meth ccc H locs cells slots Z ls E hR hS hl)
theorem xarr_set {D : va_G} {s : State} {H1 : Heap} {c j N : Nat} {ty : FieldType} {y : Int32} {cA : ClassId} (h1 : ArrOfT s cA ty) (e : H1[G.1 + c]? = some ((arrV cA N (fun j => Value.int (M c j))).setSlot j (.int y))) : xCell D s G.1 (up2 M c j y) c (.inl (ty, N)) H1 := by
  refine ⟨cA, h1, ?_⟩
  rw [e, arrV_store]
  congr 2
  funext q
  by_cases hq : q = j <;> simp [updV, up2, hq]
theorem xs_iast {c j N : Nat} {y : Int32} (he : xD m pc .iastore 1 nx) (hs : S[c]? = some (.inl (.int, N))) (hj : j < N) (hN : N < 2 ^ 31) (kk : xW G m d k n Q nx L st S (up2 M c j y)) : xW G m d k n Q pc L (.int y :: .int (nI j) :: .ref (G.1 + c) :: st) S M := by
  obtain ⟨hd, rfl⟩ := he
  intro l D p e R s mi args below meth ccc H locs cells slots Z ls E hR hS hl
  obtain ⟨cA, h1, h2⟩ := hR.2 c _ hs
  refine W.iast E.1 E.2.1 h2 (h1 _ _) (fun q => by cases q) (by show ¬ (_ ∨ (arrV _ _ _).slots.size ≤ _); rw [arrV_size]; exact vp_in_nI hj hN) rfl rfl hd fun H1 e1 z oq => ?_
  rw [nI_clamp (by omega)] at e1 ⊢
  exact kk l D p e R s mi args below meth ccc H1 _ cells slots Z ls E (hR.setM hs z oq (fun a h => up2_ne h) (xarr_set h1 e1)) (hS.put z oq (Nat.le_add_right _ _)) hl
theorem xs_cast {c j N : Nat} {y : Int32} (he : xD m pc .castore 1 nx) (hs : S[c]? = some (.inl (.char, N))) (hj : j < N) (hN : N < 2 ^ 31) (hy : narrow .char (.int y) = .int y) (kk : xW G m d k n Q nx L st S (up2 M c j y)) : xW G m d k n Q pc L (.int y :: .int (nI j) :: .ref (G.1 + c) :: st) S M := by
  obtain ⟨hd, rfl⟩ := he
  intro l D p e R s mi args below meth ccc H locs cells slots Z ls E hR hS hl
  obtain ⟨cA, h1, h2⟩ := hR.2 c _ hs
  refine W.cast E.1 E.2.1 h2 (h1 _ _) (fun q => by cases q) (by show ¬ (_ ∨ (arrV _ _ _).slots.size ≤ _); rw [arrV_size]; exact vp_in_nI hj hN) rfl rfl hd fun H1 e1 z oq => ?_
  rw [nI_clamp (by omega)] at e1 ⊢
  rw [hy] at e1
  exact kk l D p e R s mi args below meth ccc H1 _ cells slots Z ls E (hR.setM hs z oq (fun a h => up2_ne h) (xarr_set h1 e1)) (hS.put z oq (Nat.le_add_right _ _)) hl
theorem xs_bast {c j N : Nat} {y : Int32} (he : xD m pc .bastore 1 nx) (hs : S[c]? = some (.inl (.byte, N))) (hj : j < N) (hN : N < 2 ^ 31) (hy : narrow .byte (.int y) = .int y) (kk : xW G m d k n Q nx L st S (up2 M c j y)) : xW G m d k n Q pc L (.int y :: .int (nI j) :: .ref (G.1 + c) :: st) S M := by
  obtain ⟨hd, rfl⟩ := he
  intro l D p e R s mi args below meth ccc H locs cells slots Z ls E hR hS hl
  obtain ⟨cA, h1, h2⟩ := hR.2 c _ hs
  refine W.bast E.1 E.2.1 h2 (h1 _ _) (fun q => by cases q) (by show ¬ (_ ∨ (arrV _ _ _).slots.size ≤ _); rw [arrV_size]; exact vp_in_nI hj hN) rfl rfl hd fun H1 e1 z oq => ?_
  rw [nI_clamp (by omega)] at e1 ⊢
  rw [hy] at e1
  exact kk l D p e R s mi args below meth ccc H1 _ cells slots Z ls E (hR.setM hs z oq (fun a h => up2_ne h) (xarr_set h1 e1)) (hS.put z oq (Nat.le_add_right _ _)) hl
theorem xs_aald {c j r : Nat} {ty : FieldType} {rs : List (Option Nat)} (he : xD m pc .aaload 1 nx) (hs : S[c]? = some (.inr (.inr (ty, rs)))) (hty : ty.isReference = true) (hr : rs[j]? = some (some r)) (hN : rs.length < 2 ^ 31) (kk : xW G m d k n Q nx L (.ref (G.1 + r) :: st) S M) : xW G m d k n Q pc L (.int (nI j) :: .ref (G.1 + c) :: st) S M := by
  obtain ⟨hd, rfl⟩ := he
  intro l D p e R s mi args below meth ccc H locs cells slots Z ls E hR hS hl
  obtain ⟨cA, h1, -, h2⟩ := hR.2 c _ hs
  have hj : j < rs.length := (List.getElem?_eq_some_iff.mp hr).1
  exact W.aald (v := .ref (G.1 + r)) (ty := ty) E.1 E.2.1 h2 (h1 _ _) hty (fun q => by cases q) (by show ¬ (_ ∨ (arrV _ _ _).slots.size ≤ _); rw [arrV_size]; exact vp_in_nI hj hN) (by show (arrV _ _ _).slots[_]? = _; rw [nI_clamp (by omega), arrV_read _ _ hj]; simp [hr, va_rf]) rfl rfl hd (kk l D p e R s mi args below meth ccc H locs cells slots Z ls E hR hS hl)
theorem xs_alenI {c N : Nat} {ty : FieldType} (he : xD m pc .arraylength 1 nx) (hs : S[c]? = some (.inl (ty, N))) (kk : xW G m d k n Q nx L (.int (nI N) :: st) S M) : xW G m d k n Q pc L (.ref (G.1 + c) :: st) S M := by
  obtain ⟨hd, rfl⟩ := he
  intro l D p e R s mi args below meth ccc H locs cells slots Z ls E hR hS hl
  obtain ⟨cA, h1, h2⟩ := hR.2 c _ hs
  exact W.alen (n := nI N) E.1 E.2.1 h2 (h1 _ _) (by rw [arrV_size]; rfl) rfl rfl hd (kk l D p e R s mi args below meth ccc H locs cells slots Z ls E hR hS hl)
theorem xs_alenR {c : Nat} {ty : FieldType} {rs : List (Option Nat)} (he : xD m pc .arraylength 1 nx) (hs : S[c]? = some (.inr (.inr (ty, rs)))) (kk : xW G m d k n Q nx L (.int (nI rs.length) :: st) S M) : xW G m d k n Q pc L (.ref (G.1 + c) :: st) S M := by
  obtain ⟨hd, rfl⟩ := he
  intro l D p e R s mi args below meth ccc H locs cells slots Z ls E hR hS hl
  obtain ⟨cA, h1, -, h2⟩ := hR.2 c _ hs
  exact W.alen (n := nI rs.length) E.1 E.2.1 h2 (h1 _ _) (by rw [arrV_size]; rfl) rfl rfl hd (kk l D p e R s mi args below meth ccc H locs cells slots Z ls E hR hS hl)
/-- the law's script -/
theorem xs_sld {j : Nat} (he : xD m pc .iaload 1 nx) (hj : j < G.2.2.1) (hN : G.2.2.1 < 2 ^ 31) (kk : xW G m d k n Q nx L (.int (G.2.2.2.1 j) :: st) S M) : xW G m d k n Q pc L (.int (nI j) :: .ref G.2.1 :: st) S M := by
  obtain ⟨hd, rfl⟩ := he
  intro l D p e R s mi args below meth ccc H locs cells slots Z ls E hR hS hl
  obtain ⟨hX, hlt⟩ := E.2.2.2.2.2.2.1.2.2.2.1
  have hB := E.2.2.2.2.2.2.1.1
  have K := kk l D p e R s mi args below meth ccc H locs cells slots Z ls E hR hS hl
  refine va_sld E.1 E.2.1 hX (by omega) (show ¬ G.1 ≤ G.2.1 by omega) hS (vp_in_nI hj hN) hd ?_
  rw [nI_clamp (by omega)]
  exact K
theorem xs_slen (he : xD m pc .arraylength 1 nx) (kk : xW G m d k n Q nx L (.int (nI G.2.2.1) :: st) S M) : xW G m d k n Q pc L (.ref G.2.1 :: st) S M := by
  obtain ⟨hd, rfl⟩ := he
  intro l D p e R s mi args below meth ccc H locs cells slots Z ls E hR hS hl
  obtain ⟨hX, hlt⟩ := E.2.2.2.2.2.2.1.2.2.2.1
  have hB := E.2.2.2.2.2.2.1.1
  exact va_slen E.1 E.2.1 hX (by omega) (show ¬ G.1 ≤ G.2.1 by omega) hS hd (kk l D p e R s mi args below meth ccc H locs cells slots Z ls E hR hS hl)
end XH
end
section
/-! CALLS: a callee's contract, its end the walk that goes on -/
section XC1
variable {p : Program} {l : Launch} {e : Env} {R : Room} {s : State} {mi : MethodId} {args : Array Value} {below : List Frame} {meth : Method} {c : Code} {H : Heap} {locs : List Loc} {cells slots : Nat} {Z : State → Prop}
theorem xcall {G : xGl} {D : va_G} {Q' : Option Value → List xSh → xMem → Prop} {a : Array Value} {mc ms pc : Nat} {ls : Array Slot} {st0 rest : List Value} (hr : va_Run p l e R s mi args below meth c H locs cells slots mc ms (F0 mi pc ls st0) rest (xPost G D Q' a) (fun q => G.1 ≤ q)) (hS : va_S (fun q => G.1 ≤ q) s.heap H locs)
    (kk : ∀ (v : Option Value) (S' : List xSh) (M' : xMem) (H1 : Heap) (locs1 : List Loc), xRep D G.1 S' M' s H1 → Q' v S' M' → va_S (fun q => G.1 ≤ q) s.heap H1 locs1 → W p l e R s mi args below meth c H1 locs1 (cells + mc) (slots + ms) Z (F0 mi (pc + 3) ls (v.toList ++ rest))) : W p l e R s mi args below meth c H locs cells slots Z (F0 mi pc ls st0) := by
  intro T hT X
  obtain ⟨v, st₀, t, T', Lc, h0, X', hL, e1, e2, ⟨v', S', M', hv, hrep, hQ, hz, hk⟩, stp⟩ := hr T hT X
  cases hv
  rw [h0] at hz hk
  have hal : t.vm.Alike s.vm := by
    have := X'.warmed.alike
    rw [e2] at this
    exact this.symm
  obtain ⟨t2, a1, b1⟩ := kk v S' M' T'.heap (locs ++ Lc) (by rw [e1]; exact hrep.moved hal) hQ
    ⟨Nat.le_trans hS.1 (by rw [e1]; exact hz), fun q h1 h2 => by rw [e1, hk q (Nat.lt_of_lt_of_le h1 hS.1) h2]; exact hS.2.1 q h1 h2, fun q hq => by
      rcases List.mem_append.mp hq with h | h
      · exact hS.2.2 q h
      · exact hL q h⟩ T' rfl X'
  exact ⟨t2, stp t2 a1, b1⟩
end XC1
/-- where a call stands, and what the tables say of it; nb: how many parameters -/
def xCm (m : xM) (idx : Nat) (m2 : xM) (np : Nat) : Prop := Cond.code m2.1 m2.2.1 m2.2.2.1 m2.2.2.2 ∈ xT ∧ Cond.initialized m2.1.cls ∈ xT ∧ (m2.1.cls ≠ "java/lang/invoke/MethodHandle" ∧ m2.1.cls ≠ "java/lang/invoke/VarHandle" ∧ (parseMethodDescriptor m2.1.desc).map (fun d => d.parameters.length) = some np) ∧ m2.2.2.1 ≤ 41 ∧ (Cond.methodLink m.1.cls idx m2.1 ∈ xT ∨ ∃ host, Cond.methodLinkNest m.1.cls idx m2.1 host ∈ xNest)
def xCV (m : xM) (pc : Nat) (m2 : xM) (np ci nx : Nat) : Prop := ∃ idx : Nat, decode m.2.1 pc = .ok (.invokevirtual idx, 3) ∧ pc + 3 = nx ∧ xCm m idx m2 np ∧ Cond.instanceMethod m2.1 ∈ xT ∧ Cond.selects m2.1.cls m2.1 m2.1 ∈ xT ∧ ∃ q : vw_C, vwCl[ci]? = some q ∧ q.1 = m2.1.cls
def xCS (m : xM) (pc : Nat) (m2 : xM) (np nx : Nat) : Prop := ∃ idx : Nat, decode m.2.1 pc = .ok (.invokestatic idx, 3) ∧ pc + 3 = nx ∧ xCm m idx m2 np ∧ Cond.static m2.1 ∈ xT
def xCI (m : xM) (pc : Nat) (m2 : xM) (np nx : Nat) : Prop := ∃ idx : Nat, decode m.2.1 pc = .ok (.invokespecial idx, 3) ∧ pc + 3 = nx ∧ xCm m idx m2 np ∧ Cond.instanceMethod m2.1 ∈ xT ∧ m2.1.name = "<init>"
section XC2
variable {G : xGl} {m m2 : xM} {d k n kc nc pc nx np : Nat} {Q : Option Value → List xSh → xMem → Prop} {L : List (Option Value)} {st st0 : List Value} {S : List xSh} {M : xMem}
theorem xPre.use {D : va_G} {s : State} {H : Heap} {locs : List Loc} {as : List Value} (hc : xCtx G D s) (hR : xRep D G.1 S M s H) (hS : va_S (fun q => G.1 ≤ q) s.heap H locs) : ∀ U : State, U.heap = H → s.WarmedH U.vm → xPre G D S M as as.toArray U := fun U hU hW => ⟨rfl, hc.move hW (by rw [hU]; exact hS.1) (fun q h1 h2 => by rw [hU]; exact hS.2.1 q h1 h2), by rw [hU]; exact hR.moved hW.alike⟩
theorem xE.sub {l : Launch} {D : va_G} {p : Program} {e : Env} {R : Room} {s : State} {mi : MethodId} {args : Array Value} {below : List Frame} {meth : Method} {c : Code} {cells slots : Nat} {Z : State → Prop} (E : xE G m d k n Q l D p e R s mi args below meth c cells slots Z) (h1 : kc ≤ k) (h2 : nc ≤ n) : xE G m d (k - kc) (n - nc) Q l D p e R s mi args below meth c (cells + kc) (slots + nc) Z := by
  obtain ⟨a1, a2, a3, a4, a5, a6, a7, ⟨b1, b2, b3, b4⟩, a8⟩ := E
  exact ⟨a1, a2, a3, a4, a5, a6, a7, ⟨b1, b2, by omega, by omega⟩, a8⟩
theorem xs_callV {As : List Value} {ci cb : Nat} {fs : List (Option (Option Nat))} (he : xCV m pc m2 np ci nx) (hs : S[cb]? = some (.inr (.inl (ci, fs)))) (hn : As.length = np) (hst : st0 = As.reverse ++ .ref (G.1 + cb) :: st) (hroom : (st.map fun v => v.category).sum ≤ 8) (hk : kc ≤ k) (hnn : nc ≤ n)
    (hC : xC G m2 d kc nc (.ref (G.1 + cb) :: As) S M (fun v S' M' => xW G m (d + 1) (k - kc) (n - nc) Q nx L (v.toList ++ st) S' M')) : xW G m (d + 1) k n Q pc L st0 S M := by
  subst hst
  obtain ⟨idx, hd, rfl, ⟨hcode, hini, hyd, hml, hlk⟩, hinst, hsel, q, hq, hqc⟩ := he
  intro l D p e R s mi args below meth c H locs cells slots Z ls E hR hS hl
  have hts := E.2.2.2.2.1
  have hctx := E.2.2.2.2.2.2.1
  obtain ⟨rm1, rm2, rm3, rm4⟩ := E.2.2.2.2.2.2.2.1
  obtain ⟨r, hr, cell, q1, q2, q3, -⟩ := hR.2 cb _ hs
  have hrv : ∃ cellB : Cell, H[G.1 + cb]? = some cellB ∧ cellB.vm.isStatics = false ∧ s.vm.findClass m2.1.cls = some cellB.cls := ⟨cell, q1, by rw [q3]; rfl, by rw [q2, ← hqc]; exact (hctx.2.1.1 ci q hq).2.1⟩
  have hP : PreV s H m2.1.cls (G.1 + cb) (xPre G D S M (.ref (G.1 + cb) :: As)) As := ⟨xPre.blind, hrv, xPre.use hctx hR hS⟩
  have hRm : (xroom d kc nc).frames + 1 ≤ R.frames ∧ 8 + (m2.2.2.1 + 11) + (xroom d kc nc).locals ≤ R.locals := ⟨rm1, by show 8 + (m2.2.2.1 + 11) + 60 * d ≤ R.locals; omega⟩
  have hF : CallFix p mi c m.2.1 m.2.2.1 s args xT m.1.cls := ⟨E.1, E.2.1, E.2.2.1, E.2.2.2.1, hts⟩
  have fin : va_Run p l e R s mi args below meth c H locs cells slots kc nc (F0 mi pc ls (As.reverse ++ .ref (G.1 + cb) :: st)) st (xPost G D (fun v S' M' => xW G m (d + 1) (k - kc) (n - nc) Q (pc + 3) L (v.toList ++ st) S' M') (Value.ref (G.1 + cb) :: As).toArray) (fun q => G.1 ≤ q) := by
    rcases hlk with hlk | ⟨host, hlk⟩
    · exact va_runV hF (hC l D) ⟨callB_of np hts (xGoodM hcode) rfl rfl rfl (hts _ hini) (hts _ hlk) hyd hRm, hts _ hinst, hts _ hsel⟩ hP rfl hn hl.1 rfl (lv_room hroom) hd ⟨by omega, by omega⟩
    · exact va_runVN hF (hC l D) ⟨va_cnB np hts (xGoodM hcode) rfl rfl rfl (hctx.2.2.1 _ hlk) (hts _ hini) hyd hRm, hts _ hinst, hts _ hsel⟩ hP rfl hn hl.1 rfl (lv_room hroom) hd ⟨by omega, by omega⟩
  exact xcall fin hS (fun v S' M' H1 locs1 hR1 hQ hS1 => hQ l D p e R s mi args below meth c H1 locs1 (cells + kc) (slots + nc) Z ls (E.sub hk hnn) hR1 hS1 hl)
theorem xs_callS {As : List Value} (he : xCS m pc m2 np nx) (hn : As.length = np) (hst : st0 = As.reverse ++ st) (hroom : (st.map fun v => v.category).sum ≤ 8) (hk : kc ≤ k) (hnn : nc ≤ n)
    (hC : xC G m2 d kc nc As S M (fun v S' M' => xW G m (d + 1) (k - kc) (n - nc) Q nx L (v.toList ++ st) S' M')) : xW G m (d + 1) k n Q pc L st0 S M := by
  subst hst
  obtain ⟨idx, hd, rfl, ⟨hcode, hini, hyd, hml, hlk⟩, hstat⟩ := he
  intro l D p e R s mi args below meth c H locs cells slots Z ls E hR hS hl
  have hts := E.2.2.2.2.1
  have hctx := E.2.2.2.2.2.2.1
  obtain ⟨rm1, rm2, rm3, rm4⟩ := E.2.2.2.2.2.2.2.1
  have hP : PreS s H (xPre G D S M As) As := ⟨xPre.blind, xPre.use hctx hR hS⟩
  have hRm : (xroom d kc nc).frames + 1 ≤ R.frames ∧ 8 + (m2.2.2.1 + 11) + (xroom d kc nc).locals ≤ R.locals := ⟨rm1, by show 8 + (m2.2.2.1 + 11) + 60 * d ≤ R.locals; omega⟩
  have hF : CallFix p mi c m.2.1 m.2.2.1 s args xT m.1.cls := ⟨E.1, E.2.1, E.2.2.1, E.2.2.2.1, hts⟩
  have fin : va_Run p l e R s mi args below meth c H locs cells slots kc nc (F0 mi pc ls (As.reverse ++ st)) st (xPost G D (fun v S' M' => xW G m (d + 1) (k - kc) (n - nc) Q (pc + 3) L (v.toList ++ st) S' M') As.toArray) (fun q => G.1 ≤ q) := by
    rcases hlk with hlk | ⟨host, hlk⟩
    · exact va_runS hF (hC l D) ⟨callB_of np hts (xGoodM hcode) rfl rfl rfl (hts _ hini) (hts _ hlk) hyd hRm, hts _ hstat⟩ hP rfl hn hl.1 rfl (lv_room hroom) hd ⟨by omega, by omega⟩
    · exact va_runSN hF (hC l D) ⟨va_cnB np hts (xGoodM hcode) rfl rfl rfl (hctx.2.2.1 _ hlk) (hts _ hini) hyd hRm, hts _ hstat, trivial⟩ hP rfl hn hl.1 rfl (lv_room hroom) hd ⟨by omega, by omega⟩
  exact xcall fin hS (fun v S' M' H1 locs1 hR1 hQ hS1 => hQ l D p e R s mi args below meth c H1 locs1 (cells + kc) (slots + nc) Z ls (E.sub hk hnn) hR1 hS1 hl)
theorem xs_callI {As : List Value} {cb : Nat} (hret : m2.2.2.2 = none) (he : xCI m pc m2 np nx) (hn : As.length = np) (hst : st0 = As.reverse ++ .ref (G.1 + cb) :: st) (hroom : (st.map fun v => v.category).sum ≤ 8) (hk : kc ≤ k) (hnn : nc ≤ n)
    (hC : xC G m2 d kc nc (.ref (G.1 + cb) :: As) S M (fun v S' M' => xW G m (d + 1) (k - kc) (n - nc) Q nx L (v.toList ++ st) S' M')) : xW G m (d + 1) k n Q pc L st0 S M := by
  subst hst
  obtain ⟨y2, cc2, ml2, ret2⟩ := m2
  obtain rfl : ret2 = none := hret
  obtain ⟨idx, hd, rfl, ⟨hcode, hini, hyd, hml, hlk⟩, hinst, hnm⟩ := he
  intro l D p e R s mi args below meth c H locs cells slots Z ls E hR hS hl
  have hts := E.2.2.2.2.1
  have hctx := E.2.2.2.2.2.2.1
  obtain ⟨rm1, rm2, rm3, rm4⟩ := E.2.2.2.2.2.2.2.1
  have hP : PreS s H (xPre G D S M (.ref (G.1 + cb) :: As)) (.ref (G.1 + cb) :: As) := ⟨xPre.blind, xPre.use hctx hR hS⟩
  have hRm : (xroom d kc nc).frames + 1 ≤ R.frames ∧ 8 + (ml2 + 11) + (xroom d kc nc).locals ≤ R.locals := ⟨rm1, by show 8 + (ml2 + 11) + 60 * d ≤ R.locals; have : ml2 ≤ 41 := hml; omega⟩
  have hF : CallFix p mi c m.2.1 m.2.2.1 s args xT m.1.cls := ⟨E.1, E.2.1, E.2.2.1, E.2.2.2.1, hts⟩
  have fin : va_Run p l e R s mi args below meth c H locs cells slots kc nc (F0 mi pc ls (As.reverse ++ .ref (G.1 + cb) :: st)) st (xPost G D (fun v S' M' => xW G m (d + 1) (k - kc) (n - nc) Q (pc + 3) L (v.toList ++ st) S' M') (Value.ref (G.1 + cb) :: As).toArray) (fun q => G.1 ≤ q) := by
    rcases hlk with hlk | ⟨host, hlk⟩
    · exact va_runI hF (hC l D) ⟨callB_of np hts (xGoodM (m := (y2, cc2, ml2, none)) hcode) rfl rfl rfl (hts _ hini) (hts _ hlk) hyd hRm, hnm, hts _ hinst⟩ hP rfl hn hl.1 rfl (lv_room hroom) hd ⟨by omega, by omega⟩
    · exact va_runIN hF (hC l D) ⟨va_cnB np hts (xGoodM (m := (y2, cc2, ml2, none)) hcode) rfl rfl rfl (hctx.2.2.1 _ hlk) (hts _ hini) hyd hRm, hnm, hts _ hinst⟩ hP rfl hn hl.1 rfl (lv_room hroom) hd ⟨by omega, by omega⟩
  exact xcall fin hS (fun v S' M' H1 locs1 hR1 hQ hS1 => hQ l D p e R s mi args below meth c H1 locs1 (cells + kc) (slots + nc) Z ls (E.sub hk hnn) hR1 hS1 hl)
theorem xC_mono {as : List Value} {Q1 Q2 : Option Value → List xSh → xMem → Prop} (h : xC G m d k n as S M Q1) (hq : ∀ v S' M', Q1 v S' M' → Q2 v S' M') : xC G m d k n as S M Q2 := by
  intro l D p e ha hc hkk s mi args below hf happ hpre htr
  obtain ⟨j, o, h1, h2, h3, ⟨v, S', M', a1, a2, a3, a4⟩, h5⟩ := h l D p e ha hc hkk s mi args below hf happ hpre htr
  exact ⟨j, o, h1, h2, h3, ⟨v, S', M', a1, a2, hq _ _ _ a3, a4⟩, h5⟩
end XC2
end
section
set_option maxRecDepth 20000 in
theorem fl_X0_9 : xFl RX0 9 0 1 (.array .int) true := ⟨(RX0, TX0, 7), rfl, by decide, by decide +kernel, rfl, rfl, Or.inl (xT_1 121 rfl rfl)⟩
set_option maxRecDepth 20000 in
theorem fl_X0_15 : xFl RX0 15 0 2 (.array .int) true := ⟨(RX0, TX0, 7), rfl, by decide, by decide +kernel, rfl, rfl, Or.inl (xT_1 123 rfl rfl)⟩
set_option maxRecDepth 20000 in
theorem fl_X0_18 : xFl RX0 18 0 3 (.array .int) true := ⟨(RX0, TX0, 7), rfl, by decide, by decide +kernel, rfl, rfl, Or.inl (xT_1 125 rfl rfl)⟩
set_option maxRecDepth 20000 in
theorem fl_X0_21 : xFl RX0 21 0 4 (.array .int) true := ⟨(RX0, TX0, 7), rfl, by decide, by decide +kernel, rfl, rfl, Or.inl (xT_1 128 rfl rfl)⟩
set_option maxRecDepth 20000 in
theorem fl_X0_24 : xFl RX0 24 0 0 (.object "NotAnOx$Land") true := ⟨(RX0, TX0, 7), rfl, by decide, by decide +kernel, rfl, rfl, Or.inl (xT_1 120 rfl rfl)⟩
set_option maxRecDepth 20000 in
theorem fl_X0_28 : xFl RX0 28 0 5 (.int) false := ⟨(RX0, TX0, 7), rfl, by decide, by decide +kernel, rfl, rfl, Or.inl (xT_1 131 rfl rfl)⟩
set_option maxRecDepth 20000 in
theorem fl_X0_32 : xFl RX0 32 0 6 (.int) false := ⟨(RX0, TX0, 7), rfl, by decide, by decide +kernel, rfl, rfl, Or.inl (xT_1 133 rfl rfl)⟩
set_option maxRecDepth 20000 in
theorem fl_X0_35 : xFl RX0 35 2 1 (.array .int) true := ⟨(RX2, TX2, 8), rfl, by decide, by decide +kernel, rfl, rfl, Or.inr ⟨"NotAnOx", xN_1 72 rfl rfl⟩⟩
set_option maxRecDepth 20000 in
theorem cm_X0_44 : xCm mX0_open 44 mJ7_fill_53178 2 := ⟨xT_2 103 rfl rfl, xT_1 15 rfl rfl, ⟨by decide, by decide, by decide +kernel⟩, by decide, Or.inl (xT_2 154 rfl rfl)⟩
set_option maxRecDepth 20000 in
theorem fl_X0_50 : xFl RX0 50 2 2 (.array .int) true := ⟨(RX2, TX2, 8), rfl, by decide, by decide +kernel, rfl, rfl, Or.inr ⟨"NotAnOx", xN_1 74 rfl rfl⟩⟩
set_option maxRecDepth 20000 in
theorem cm_X0_53 : xCm mX0_copyFrom 53 mX0_copyEntries 1 := ⟨xT_3 48 rfl rfl, xT_1 5 rfl rfl, ⟨by decide, by decide, by decide +kernel⟩, by decide, Or.inl (xT_3 45 rfl rfl)⟩
set_option maxRecDepth 20000 in
theorem cm_X0_57 : xCm mX0_canBeChecked 57 mX0_holds 1 := ⟨xT_2 234 rfl rfl, xT_1 5 rfl rfl, ⟨by decide, by decide, by decide +kernel⟩, by decide, Or.inl (xT_3 27 rfl rfl)⟩
set_option maxRecDepth 20000 in
theorem cm_X0_61 : xCm mX0_canBeChecked 61 mX0_isChecked 1 := ⟨xT_2 238 rfl rfl, xT_1 5 rfl rfl, ⟨by decide, by decide, by decide +kernel⟩, by decide, Or.inl (xT_3 66 rfl rfl)⟩
set_option maxRecDepth 20000 in
theorem fl_X0_64 : xFl RX0 64 2 4 (.array (.array .int)) true := ⟨(RX2, TX2, 8), rfl, by decide, by decide +kernel, rfl, rfl, Or.inr ⟨"NotAnOx", xN_1 80 rfl rfl⟩⟩
set_option maxRecDepth 20000 in
theorem fl_X0_69 : xFl RX0 69 2 5 (.int) false := ⟨(RX2, TX2, 8), rfl, by decide, by decide +kernel, rfl, rfl, Or.inr ⟨"NotAnOx", xN_1 87 rfl rfl⟩⟩
set_option maxRecDepth 20000 in
theorem cm_X0_72 : xCm mX0_restSize 72 mX0_rest 0 := ⟨xT_3 98 rfl rfl, xT_1 5 rfl rfl, ⟨by decide, by decide, by decide +kernel⟩, by decide, Or.inl (xT_3 103 rfl rfl)⟩
set_option maxRecDepth 20000 in
theorem cm_X0_76 : xCm mX0_restSize 76 mJ6_bitCount_0f7a4 1 := ⟨xT_3 106 rfl rfl, xT_1 19 rfl rfl, ⟨by decide, by decide, by decide +kernel⟩, by decide, Or.inl (xT_3 104 rfl rfl)⟩
set_option maxRecDepth 20000 in
theorem fl_X0_82 : xFl RX0 82 2 3 (.array .int) true := ⟨(RX2, TX2, 8), rfl, by decide, by decide +kernel, rfl, rfl, Or.inr ⟨"NotAnOx", xN_1 77 rfl rfl⟩⟩
set_option maxRecDepth 20000 in
theorem cm_X0_85 : xCm mX0_sworn 85 mX9_lowestOf 1 := ⟨xT_3 5 rfl rfl, xT_1 1 rfl rfl, ⟨by decide, by decide, by decide +kernel⟩, by decide, Or.inr ⟨"NotAnOx", xN_3 3 rfl rfl⟩⟩
set_option maxRecDepth 20000 in
theorem cm_X0_88 : xCm mX0_swear 88 mX0_sworn 3 := ⟨xT_3 2 rfl rfl, xT_1 5 rfl rfl, ⟨by decide, by decide, by decide +kernel⟩, by decide, Or.inl (xT_3 57 rfl rfl)⟩
set_option maxRecDepth 20000 in
theorem fl_X0_92 : xFl RX0 92 2 0 (.array .int) true := ⟨(RX2, TX2, 8), rfl, by decide, by decide +kernel, rfl, rfl, Or.inr ⟨"NotAnOx", xN_1 70 rfl rfl⟩⟩
set_option maxRecDepth 20000 in
theorem fl_X0_95 : xFl RX0 95 2 7 (.int) false := ⟨(RX2, TX2, 8), rfl, by decide, by decide +kernel, rfl, rfl, Or.inr ⟨"NotAnOx", xN_1 96 rfl rfl⟩⟩
set_option maxRecDepth 20000 in
theorem cm_X0_98 : xCm mX0_askBy 98 mX0_swear 3 := ⟨xT_3 56 rfl rfl, xT_1 5 rfl rfl, ⟨by decide, by decide, by decide +kernel⟩, by decide, Or.inl (xT_3 53 rfl rfl)⟩
set_option maxRecDepth 20000 in
theorem fl_X0_101 : xFl RX0 101 2 6 (.int) false := ⟨(RX2, TX2, 8), rfl, by decide, by decide +kernel, rfl, rfl, Or.inr ⟨"NotAnOx", xN_1 91 rfl rfl⟩⟩
set_option maxRecDepth 20000 in
theorem cm_X0_104 : xCm mX0_mostDays 104 mJ9_max_7cf53 2 := ⟨xT_3 131 rfl rfl, xT_1 16 rfl rfl, ⟨by decide, by decide, by decide +kernel⟩, by decide, Or.inl (xT_4 26 rfl rfl)⟩
set_option maxRecDepth 20000 in
theorem fl_X1_9 : xFl RX1 9 1 0 (.object "NotAnOx$Land") true := ⟨(RX1, TX1, 4), rfl, by decide, by decide +kernel, rfl, rfl, Or.inl (xT_2 17 rfl rfl)⟩
set_option maxRecDepth 20000 in
theorem cm_X1_17 : xCm mX1_init 17 mX0_init 1 := ⟨xT_1 118 rfl rfl, xT_1 5 rfl rfl, ⟨by decide, by decide, by decide +kernel⟩, by decide, Or.inl (xT_2 16 rfl rfl)⟩
set_option maxRecDepth 20000 in
theorem fl_X1_20 : xFl RX1 20 1 1 (.object "NotAnOx$Book") true := ⟨(RX1, TX1, 4), rfl, by decide, by decide +kernel, rfl, rfl, Or.inl (xT_2 18 rfl rfl)⟩
set_option maxRecDepth 20000 in
theorem cm_X1_24 : xCm mX1_weigh 24 mX0_rest 0 := ⟨xT_3 98 rfl rfl, xT_1 5 rfl rfl, ⟨by decide, by decide, by decide +kernel⟩, by decide, Or.inl (xT_3 230 rfl rfl)⟩
set_option maxRecDepth 20000 in
theorem fl_X1_28 : xFl RX1 28 1 2 (.int) false := ⟨(RX1, TX1, 4), rfl, by decide, by decide +kernel, rfl, rfl, Or.inl (xT_2 19 rfl rfl)⟩
set_option maxRecDepth 20000 in
theorem cm_X1_32 : xCm mX1_weigh 32 mX1_weightOf 3 := ⟨xT_3 233 rfl rfl, xT_1 10 rfl rfl, ⟨by decide, by decide, by decide +kernel⟩, by decide, Or.inl (xT_3 231 rfl rfl)⟩
set_option maxRecDepth 20000 in
theorem fl_X1_36 : xFl RX1 36 1 3 (.int) false := ⟨(RX1, TX1, 4), rfl, by decide, by decide +kernel, rfl, rfl, Or.inl (xT_2 21 rfl rfl)⟩
set_option maxRecDepth 20000 in
theorem cm_X1_39 : xCm mX1_weigh 39 mX1_foundWith 2 := ⟨xT_3 237 rfl rfl, xT_1 10 rfl rfl, ⟨by decide, by decide, by decide +kernel⟩, by decide, Or.inl (xT_3 234 rfl rfl)⟩
set_option maxRecDepth 20000 in
theorem cm_X1_43 : xCm mX1_weigh 43 mX1_commonDivisor 2 := ⟨xT_4 4 rfl rfl, xT_1 10 rfl rfl, ⟨by decide, by decide, by decide +kernel⟩, by decide, Or.inl (xT_4 2 rfl rfl)⟩
set_option maxRecDepth 20000 in
theorem fl_X1_47 : xFl RX1 47 2 7 (.int) false := ⟨(RX2, TX2, 8), rfl, by decide, by decide +kernel, rfl, rfl, Or.inr ⟨"NotAnOx", xN_1 94 rfl rfl⟩⟩
set_option maxRecDepth 20000 in
theorem cm_X1_52 : xCm mX1_foundWith 52 mX0_copyEntries 1 := ⟨xT_3 48 rfl rfl, xT_1 5 rfl rfl, ⟨by decide, by decide, by decide +kernel⟩, by decide, Or.inl (xT_3 238 rfl rfl)⟩
set_option maxRecDepth 20000 in
theorem fl_X1_56 : xFl RX1 56 2 5 (.int) false := ⟨(RX2, TX2, 8), rfl, by decide, by decide +kernel, rfl, rfl, Or.inr ⟨"NotAnOx", xN_1 84 rfl rfl⟩⟩
set_option maxRecDepth 20000 in
theorem cm_X1_59 : xCm mX1_foundWith 59 mX0_holds 1 := ⟨xT_2 234 rfl rfl, xT_1 5 rfl rfl, ⟨by decide, by decide, by decide +kernel⟩, by decide, Or.inl (xT_3 239 rfl rfl)⟩
set_option maxRecDepth 20000 in
theorem fl_X1_63 : xFl RX1 63 2 0 (.array .int) true := ⟨(RX2, TX2, 8), rfl, by decide, by decide +kernel, rfl, rfl, Or.inr ⟨"NotAnOx", xN_1 68 rfl rfl⟩⟩
set_option maxRecDepth 20000 in
theorem cm_X1_67 : xCm mX1_foundWith 67 mX0_swear 3 := ⟨xT_3 56 rfl rfl, xT_1 5 rfl rfl, ⟨by decide, by decide, by decide +kernel⟩, by decide, Or.inl (xT_4 0 rfl rfl)⟩
set_option maxRecDepth 20000 in
theorem cm_X1_70 : xCm mX1_foundWith 70 mX0_found 0 := ⟨xT_3 159 rfl rfl, xT_1 5 rfl rfl, ⟨by decide, by decide, by decide +kernel⟩, by decide, Or.inl (xT_4 1 rfl rfl)⟩
set_option maxRecDepth 20000 in
theorem fl_X2_9 : xFl RX2 9 2 0 (.array .int) true := ⟨(RX2, TX2, 8), rfl, by decide, by decide +kernel, rfl, rfl, Or.inl (xT_1 66 rfl rfl)⟩
set_option maxRecDepth 20000 in
theorem fl_X2_15 : xFl RX2 15 2 1 (.array .int) true := ⟨(RX2, TX2, 8), rfl, by decide, by decide +kernel, rfl, rfl, Or.inl (xT_1 71 rfl rfl)⟩
set_option maxRecDepth 20000 in
theorem fl_X2_18 : xFl RX2 18 2 2 (.array .int) true := ⟨(RX2, TX2, 8), rfl, by decide, by decide +kernel, rfl, rfl, Or.inl (xT_1 73 rfl rfl)⟩
set_option maxRecDepth 20000 in
theorem fl_X2_21 : xFl RX2 21 2 3 (.array .int) true := ⟨(RX2, TX2, 8), rfl, by decide, by decide +kernel, rfl, rfl, Or.inl (xT_1 75 rfl rfl)⟩
set_option maxRecDepth 20000 in
theorem fl_X2_26 : xFl RX2 26 2 4 (.array (.array .int)) true := ⟨(RX2, TX2, 8), rfl, by decide, by decide +kernel, rfl, rfl, Or.inl (xT_1 78 rfl rfl)⟩
set_option maxRecDepth 20000 in
theorem fl_X2_29 : xFl RX2 29 2 5 (.int) false := ⟨(RX2, TX2, 8), rfl, by decide, by decide +kernel, rfl, rfl, Or.inl (xT_1 82 rfl rfl)⟩
set_option maxRecDepth 20000 in
theorem fl_X2_33 : xFl RX2 33 2 6 (.int) false := ⟨(RX2, TX2, 8), rfl, by decide, by decide +kernel, rfl, rfl, Or.inl (xT_1 88 rfl rfl)⟩
set_option maxRecDepth 20000 in
theorem fl_X2_36 : xFl RX2 36 2 7 (.int) false := ⟨(RX2, TX2, 8), rfl, by decide, by decide +kernel, rfl, rfl, Or.inl (xT_1 92 rfl rfl)⟩
set_option maxRecDepth 20000 in
theorem cm_X2_39 : xCm mX2_clear 39 mJ7_fill_53178 2 := ⟨xT_2 103 rfl rfl, xT_1 15 rfl rfl, ⟨by decide, by decide, by decide +kernel⟩, by decide, Or.inl (xT_2 101 rfl rfl)⟩
set_option maxRecDepth 20000 in
theorem cm_X2_46 : xCm mX2_addVillage 46 mX9_isWithin 3 := ⟨xT_2 127 rfl rfl, xT_1 1 rfl rfl, ⟨by decide, by decide, by decide +kernel⟩, by decide, Or.inr ⟨"NotAnOx", xN_2 125 rfl rfl⟩⟩
set_option maxRecDepth 20000 in
theorem cm_X2_50 : xCm mX2_addWay 50 mX2_isTold 1 := ⟨xT_2 135 rfl rfl, xT_1 4 rfl rfl, ⟨by decide, by decide, by decide +kernel⟩, by decide, Or.inl (xT_2 132 rfl rfl)⟩
set_option maxRecDepth 20000 in
theorem cm_X2_54 : xCm mX2_measure 54 mJ9_min_7cf53 2 := ⟨xT_2 146 rfl rfl, xT_1 16 rfl rfl, ⟨by decide, by decide, by decide +kernel⟩, by decide, Or.inl (xT_2 144 rfl rfl)⟩
set_option maxRecDepth 20000 in
theorem fl_X3_11 : xFl RX3 11 3 1 (.array (.object "NotAnOx$Book")) true := ⟨(RX3, TX3, 8), rfl, by decide, by decide +kernel, rfl, rfl, Or.inl (xT_1 223 rfl rfl)⟩
set_option maxRecDepth 20000 in
theorem fl_X3_17 : xFl RX3 17 3 2 (.array .int) true := ⟨(RX3, TX3, 8), rfl, by decide, by decide +kernel, rfl, rfl, Or.inl (xT_1 224 rfl rfl)⟩
set_option maxRecDepth 20000 in
theorem fl_X3_21 : xFl RX3 21 3 3 (.array .int) true := ⟨(RX3, TX3, 8), rfl, by decide, by decide +kernel, rfl, rfl, Or.inl (xT_1 225 rfl rfl)⟩
set_option maxRecDepth 20000 in
theorem fl_X3_24 : xFl RX3 24 3 0 (.object "NotAnOx$Land") true := ⟨(RX3, TX3, 8), rfl, by decide, by decide +kernel, rfl, rfl, Or.inl (xT_1 222 rfl rfl)⟩
set_option maxRecDepth 20000 in
theorem cm_X3_28 : xCm mX3_init 28 mX0_init 1 := ⟨xT_1 118 rfl rfl, xT_1 5 rfl rfl, ⟨by decide, by decide, by decide +kernel⟩, by decide, Or.inl (xT_1 221 rfl rfl)⟩
set_option maxRecDepth 20000 in
theorem fl_X3_31 : xFl RX3 31 3 4 (.boolean) false := ⟨(RX3, TX3, 8), rfl, by decide, by decide +kernel, rfl, rfl, Or.inl (xT_1 227 rfl rfl)⟩
set_option maxRecDepth 20000 in
theorem fl_X3_35 : xFl RX3 35 3 5 (.boolean) false := ⟨(RX3, TX3, 8), rfl, by decide, by decide +kernel, rfl, rfl, Or.inl (xT_1 228 rfl rfl)⟩
set_option maxRecDepth 20000 in
theorem cm_X3_38 : xCm mX3_seek 38 mX0_restSize 0 := ⟨xT_3 102 rfl rfl, xT_1 5 rfl rfl, ⟨by decide, by decide, by decide +kernel⟩, by decide, Or.inl (xT_3 150 rfl rfl)⟩
set_option maxRecDepth 20000 in
theorem fl_X3_42 : xFl RX3 42 3 6 (.int) false := ⟨(RX3, TX3, 8), rfl, by decide, by decide +kernel, rfl, rfl, Or.inl (xT_1 229 rfl rfl)⟩
set_option maxRecDepth 20000 in
theorem cm_X3_45 : xCm mX3_seek 45 mX0_copyEntries 1 := ⟨xT_3 48 rfl rfl, xT_1 5 rfl rfl, ⟨by decide, by decide, by decide +kernel⟩, by decide, Or.inl (xT_3 151 rfl rfl)⟩
set_option maxRecDepth 20000 in
theorem cm_X3_49 : xCm mX3_seek 49 mX3_goOn 1 := ⟨xT_3 155 rfl rfl, xT_1 9 rfl rfl, ⟨by decide, by decide, by decide +kernel⟩, by decide, Or.inl (xT_3 152 rfl rfl)⟩
set_option maxRecDepth 20000 in
theorem cm_X3_53 : xCm mX3_goOn 53 mX0_found 0 := ⟨xT_3 159 rfl rfl, xT_1 5 rfl rfl, ⟨by decide, by decide, by decide +kernel⟩, by decide, Or.inl (xT_3 156 rfl rfl)⟩
set_option maxRecDepth 20000 in
theorem cm_X3_56 : xCm mX3_goOn 56 mX3_weighOrder 1 := ⟨xT_3 163 rfl rfl, xT_1 9 rfl rfl, ⟨by decide, by decide, by decide +kernel⟩, by decide, Or.inl (xT_3 160 rfl rfl)⟩
set_option maxRecDepth 20000 in
theorem cm_X3_59 : xCm mX3_goOn 59 mX0_rest 0 := ⟨xT_3 98 rfl rfl, xT_1 5 rfl rfl, ⟨by decide, by decide, by decide +kernel⟩, by decide, Or.inl (xT_3 165 rfl rfl)⟩
set_option maxRecDepth 20000 in
theorem fl_X3_62 : xFl RX3 62 2 5 (.int) false := ⟨(RX2, TX2, 8), rfl, by decide, by decide +kernel, rfl, rfl, Or.inr ⟨"NotAnOx", xN_1 83 rfl rfl⟩⟩
set_option maxRecDepth 20000 in
theorem fl_X3_67 : xFl RX3 67 2 0 (.array .int) true := ⟨(RX2, TX2, 8), rfl, by decide, by decide +kernel, rfl, rfl, Or.inr ⟨"NotAnOx", xN_1 67 rfl rfl⟩⟩
set_option maxRecDepth 20000 in
theorem fl_X3_70 : xFl RX3 70 2 7 (.int) false := ⟨(RX2, TX2, 8), rfl, by decide, by decide +kernel, rfl, rfl, Or.inr ⟨"NotAnOx", xN_1 93 rfl rfl⟩⟩
set_option maxRecDepth 20000 in
theorem cm_X3_73 : xCm mX3_goOn 73 mX0_swear 3 := ⟨xT_3 56 rfl rfl, xT_1 5 rfl rfl, ⟨by decide, by decide, by decide +kernel⟩, by decide, Or.inl (xT_3 166 rfl rfl)⟩
set_option maxRecDepth 20000 in
theorem fl_X3_77 : xFl RX3 77 3 7 (.int) false := ⟨(RX3, TX3, 8), rfl, by decide, by decide +kernel, rfl, rfl, Or.inl (xT_1 230 rfl rfl)⟩
set_option maxRecDepth 20000 in
theorem fl_X4_9 : xFl RX4 9 4 0 (.array (.object "NotAnOx$Book")) true := ⟨(RX4, TX4, 3), rfl, by decide, by decide +kernel, rfl, rfl, Or.inl (xT_1 159 rfl rfl)⟩
set_option maxRecDepth 20000 in
theorem cm_X4_15 : xCm mX4_init 15 mX0_init 1 := ⟨xT_1 118 rfl rfl, xT_1 5 rfl rfl, ⟨by decide, by decide, by decide +kernel⟩, by decide, Or.inl (xT_1 158 rfl rfl)⟩
set_option maxRecDepth 20000 in
theorem fl_X4_18 : xFl RX4 18 4 2 (.int) false := ⟨(RX4, TX4, 3), rfl, by decide, by decide +kernel, rfl, rfl, Or.inl (xT_1 161 rfl rfl)⟩
set_option maxRecDepth 20000 in
theorem fl_X4_22 : xFl RX4 22 4 1 (.int) false := ⟨(RX4, TX4, 3), rfl, by decide, by decide +kernel, rfl, rfl, Or.inl (xT_1 160 rfl rfl)⟩
set_option maxRecDepth 20000 in
theorem cm_X4_25 : xCm mX4_push 25 mX4_isFull 0 := ⟨xT_3 36 rfl rfl, xT_1 6 rfl rfl, ⟨by decide, by decide, by decide +kernel⟩, by decide, Or.inl (xT_3 33 rfl rfl)⟩
set_option maxRecDepth 20000 in
theorem cm_X4_29 : xCm mX4_push 29 mX4_slotOf 1 := ⟨xT_3 40 rfl rfl, xT_1 6 rfl rfl, ⟨by decide, by decide, by decide +kernel⟩, by decide, Or.inl (xT_3 37 rfl rfl)⟩
set_option maxRecDepth 20000 in
theorem cm_X4_33 : xCm mX4_push 33 mX0_copyFrom 1 := ⟨xT_3 44 rfl rfl, xT_1 5 rfl rfl, ⟨by decide, by decide, by decide +kernel⟩, by decide, Or.inl (xT_3 41 rfl rfl)⟩
set_option maxRecDepth 20000 in
theorem fl_X5_9 : xFl RX5 9 5 0 (.array .int) true := ⟨(RX5, TX5, 2), rfl, by decide, by decide +kernel, rfl, rfl, Or.inl (xT_1 50 rfl rfl)⟩
set_option maxRecDepth 20000 in
theorem cm_X5_15 : xCm mX5_readAll 15 mX2_clear 0 := ⟨xT_2 100 rfl rfl, xT_1 4 rfl rfl, ⟨by decide, by decide, by decide +kernel⟩, by decide, Or.inl (xT_2 97 rfl rfl)⟩
set_option maxRecDepth 20000 in
theorem fl_X5_20 : xFl RX5 20 5 1 (.int) false := ⟨(RX5, TX5, 2), rfl, by decide, by decide +kernel, rfl, rfl, Or.inl (xT_1 51 rfl rfl)⟩
set_option maxRecDepth 20000 in
theorem fl_X5_24 : xFl RX5 24 6 1 (.int) false := ⟨(RX6, TX6, 2), rfl, by decide, by decide +kernel, rfl, rfl, Or.inr ⟨"NotAnOx", xN_1 36 rfl rfl⟩⟩
set_option maxRecDepth 20000 in
theorem cm_X5_29 : xCm mX5_readAll 29 mX5_readItem 2 := ⟨xT_2 108 rfl rfl, xT_1 3 rfl rfl, ⟨by decide, by decide, by decide +kernel⟩, by decide, Or.inl (xT_2 105 rfl rfl)⟩
set_option maxRecDepth 20000 in
theorem cm_X5_33 : xCm mX5_readItem 33 mX6_letterAt 1 := ⟨xT_2 112 rfl rfl, xT_1 2 rfl rfl, ⟨by decide, by decide, by decide +kernel⟩, by decide, Or.inl (xT_2 109 rfl rfl)⟩
set_option maxRecDepth 20000 in
theorem cm_X5_37 : xCm mX5_readItem 37 mX5_readNumbers 2 := ⟨xT_2 116 rfl rfl, xT_1 3 rfl rfl, ⟨by decide, by decide, by decide +kernel⟩, by decide, Or.inl (xT_2 113 rfl rfl)⟩
set_option maxRecDepth 20000 in
theorem cm_X5_41 : xCm mX5_readItem 41 mX2_addVillage 2 := ⟨xT_2 124 rfl rfl, xT_1 4 rfl rfl, ⟨by decide, by decide, by decide +kernel⟩, by decide, Or.inl (xT_2 121 rfl rfl)⟩
set_option maxRecDepth 20000 in
theorem cm_X5_45 : xCm mX5_readItem 45 mX2_addWay 3 := ⟨xT_2 131 rfl rfl, xT_1 4 rfl rfl, ⟨by decide, by decide, by decide +kernel⟩, by decide, Or.inl (xT_2 128 rfl rfl)⟩
set_option maxRecDepth 20000 in
theorem cm_X5_49 : xCm mX5_readItem 49 mX2_addParty 1 := ⟨xT_2 139 rfl rfl, xT_1 4 rfl rfl, ⟨by decide, by decide, by decide +kernel⟩, by decide, Or.inl (xT_2 136 rfl rfl)⟩
set_option maxRecDepth 20000 in
theorem cm_X5_53 : xCm mX5_readNumbers 53 mX5_readNumber 1 := ⟨xT_2 120 rfl rfl, xT_1 3 rfl rfl, ⟨by decide, by decide, by decide +kernel⟩, by decide, Or.inl (xT_2 117 rfl rfl)⟩
set_option maxRecDepth 20000 in
theorem fl_X6_9 : xFl RX6 9 6 0 (.array .char) true := ⟨(RX6, TX6, 2), rfl, by decide, by decide +kernel, rfl, rfl, Or.inl (xT_1 34 rfl rfl)⟩
set_option maxRecDepth 20000 in
theorem fl_X6_15 : xFl RX6 15 6 1 (.int) false := ⟨(RX6, TX6, 2), rfl, by decide, by decide +kernel, rfl, rfl, Or.inl (xT_1 35 rfl rfl)⟩
set_option maxRecDepth 20000 in
theorem cm_X6_19 : xCm mX6_add 19 mX6_isFull 0 := ⟨xT_2 88 rfl rfl, xT_1 2 rfl rfl, ⟨by decide, by decide, by decide +kernel⟩, by decide, Or.inl (xT_2 85 rfl rfl)⟩
set_option maxRecDepth 20000 in
theorem fl_X7_9 : xFl RX7 9 7 1 (.array .int) true := ⟨(RX7, TX7, 6), rfl, by decide, by decide +kernel, rfl, rfl, Or.inl (xT_1 195 rfl rfl)⟩
set_option maxRecDepth 20000 in
theorem fl_X7_17 : xFl RX7 17 7 2 (.array (.array .int)) true := ⟨(RX7, TX7, 6), rfl, by decide, by decide +kernel, rfl, rfl, Or.inl (xT_1 196 rfl rfl)⟩
set_option maxRecDepth 20000 in
theorem fl_X7_20 : xFl RX7 20 7 3 (.array .int) true := ⟨(RX7, TX7, 6), rfl, by decide, by decide +kernel, rfl, rfl, Or.inl (xT_1 197 rfl rfl)⟩
set_option maxRecDepth 20000 in
theorem fl_X7_23 : xFl RX7 23 7 4 (.array .int) true := ⟨(RX7, TX7, 6), rfl, by decide, by decide +kernel, rfl, rfl, Or.inl (xT_1 198 rfl rfl)⟩
set_option maxRecDepth 20000 in
theorem fl_X7_26 : xFl RX7 26 7 0 (.object "NotAnOx$Land") true := ⟨(RX7, TX7, 6), rfl, by decide, by decide +kernel, rfl, rfl, Or.inl (xT_1 194 rfl rfl)⟩
set_option maxRecDepth 20000 in
theorem cm_X7_30 : xCm mX7_seek 30 mX0_rest 0 := ⟨xT_3 98 rfl rfl, xT_1 5 rfl rfl, ⟨by decide, by decide, by decide +kernel⟩, by decide, Or.inl (xT_3 95 rfl rfl)⟩
set_option maxRecDepth 20000 in
theorem cm_X7_36 : xCm mX7_seek 36 mX0_restSize 0 := ⟨xT_3 102 rfl rfl, xT_1 5 rfl rfl, ⟨by decide, by decide, by decide +kernel⟩, by decide, Or.inl (xT_3 99 rfl rfl)⟩
set_option maxRecDepth 20000 in
theorem fl_X7_39 : xFl RX7 39 2 6 (.int) false := ⟨(RX2, TX2, 8), rfl, by decide, by decide +kernel, rfl, rfl, Or.inr ⟨"NotAnOx", xN_1 89 rfl rfl⟩⟩
set_option maxRecDepth 20000 in
theorem fl_X7_45 : xFl RX7 45 0 3 (.array .int) true := ⟨(RX0, TX0, 7), rfl, by decide, by decide +kernel, rfl, rfl, Or.inr ⟨"NotAnOx", xN_1 126 rfl rfl⟩⟩
set_option maxRecDepth 20000 in
theorem cm_X7_48 : xCm mX7_seek 48 mX7_walkFrom 3 := ⟨xT_3 113 rfl rfl, xT_1 8 rfl rfl, ⟨by decide, by decide, by decide +kernel⟩, by decide, Or.inl (xT_3 110 rfl rfl)⟩
set_option maxRecDepth 20000 in
theorem fl_X7_52 : xFl RX7 52 7 5 (.int) false := ⟨(RX7, TX7, 6), rfl, by decide, by decide +kernel, rfl, rfl, Or.inl (xT_1 199 rfl rfl)⟩
set_option maxRecDepth 20000 in
theorem cm_X7_55 : xCm mX7_seek 55 mX7_shareOut 2 := ⟨xT_3 123 rfl rfl, xT_1 8 rfl rfl, ⟨by decide, by decide, by decide +kernel⟩, by decide, Or.inl (xT_3 120 rfl rfl)⟩
set_option maxRecDepth 20000 in
theorem cm_X7_59 : xCm mX7_seek 59 mX7_daysOfShares 1 := ⟨xT_3 128 rfl rfl, xT_1 8 rfl rfl, ⟨by decide, by decide, by decide +kernel⟩, by decide, Or.inl (xT_3 125 rfl rfl)⟩
set_option maxRecDepth 20000 in
theorem fl_X7_70 : xFl RX7 70 2 5 (.int) false := ⟨(RX2, TX2, 8), rfl, by decide, by decide +kernel, rfl, rfl, Or.inr ⟨"NotAnOx", xN_1 85 rfl rfl⟩⟩
set_option maxRecDepth 20000 in
theorem cm_X7_73 : xCm mX7_walkFrom 73 mX7_walkTo 3 := ⟨xT_3 118 rfl rfl, xT_1 8 rfl rfl, ⟨by decide, by decide, by decide +kernel⟩, by decide, Or.inl (xT_3 115 rfl rfl)⟩
set_option maxRecDepth 20000 in
theorem cm_X7_77 : xCm mX7_walkFrom 77 mJ9_min_7cf53 2 := ⟨xT_2 146 rfl rfl, xT_1 16 rfl rfl, ⟨by decide, by decide, by decide +kernel⟩, by decide, Or.inl (xT_3 119 rfl rfl)⟩
set_option maxRecDepth 20000 in
theorem fl_X7_83 : xFl RX7 83 2 4 (.array (.array .int)) true := ⟨(RX2, TX2, 8), rfl, by decide, by decide +kernel, rfl, rfl, Or.inr ⟨"NotAnOx", xN_1 79 rfl rfl⟩⟩
set_option maxRecDepth 20000 in
theorem cm_X7_86 : xCm mX7_shareOut 86 mJ7_fill_53178 2 := ⟨xT_2 103 rfl rfl, xT_1 15 rfl rfl, ⟨by decide, by decide, by decide +kernel⟩, by decide, Or.inl (xT_3 124 rfl rfl)⟩
set_option maxRecDepth 20000 in
theorem fl_X7_92 : xFl RX7 92 0 4 (.array .int) true := ⟨(RX0, TX0, 7), rfl, by decide, by decide +kernel, rfl, rfl, Or.inr ⟨"NotAnOx", xN_1 130 rfl rfl⟩⟩
set_option maxRecDepth 20000 in
theorem cm_X7_95 : xCm mX7_daysOfShares 95 mJ9_max_7cf53 2 := ⟨xT_3 131 rfl rfl, xT_1 16 rfl rfl, ⟨by decide, by decide, by decide +kernel⟩, by decide, Or.inl (xT_3 129 rfl rfl)⟩
set_option maxRecDepth 20000 in
theorem fl_X8_9 : xFl RX8 9 8 0 (.array .int) true := ⟨(RX8, TX8, 3), rfl, by decide, by decide +kernel, rfl, rfl, Or.inl (xT_1 176 rfl rfl)⟩
set_option maxRecDepth 20000 in
theorem fl_X8_15 : xFl RX8 15 8 1 (.array .int) true := ⟨(RX8, TX8, 3), rfl, by decide, by decide +kernel, rfl, rfl, Or.inl (xT_1 177 rfl rfl)⟩
set_option maxRecDepth 20000 in
theorem fl_X8_18 : xFl RX8 18 8 2 (.int) false := ⟨(RX8, TX8, 3), rfl, by decide, by decide +kernel, rfl, rfl, Or.inl (xT_1 178 rfl rfl)⟩
set_option maxRecDepth 20000 in
theorem cm_X8_22 : xCm mX8_add 22 mX8_isFull 0 := ⟨xT_3 192 rfl rfl, xT_1 7 rfl rfl, ⟨by decide, by decide, by decide +kernel⟩, by decide, Or.inl (xT_3 197 rfl rfl)⟩
set_option maxRecDepth 20000 in
theorem cm_X9_11 : xCm mX9_init 11 mX6_init 0 := ⟨xT_1 32 rfl rfl, xT_1 2 rfl rfl, ⟨by decide, by decide, by decide +kernel⟩, by decide, Or.inr ⟨"NotAnOx", xN_1 30 rfl rfl⟩⟩
set_option maxRecDepth 20000 in
theorem fl_X9_12 : xFl RX9 12 9 0 (.object "NotAnOx$Scroll") true := ⟨(RX9, TX9, 12), rfl, by decide, by decide +kernel, rfl, rfl, Or.inl (xT_2 167 rfl rfl)⟩
set_option maxRecDepth 20000 in
theorem cm_X9_18 : xCm mX9_init 18 mX5_init 0 := ⟨xT_1 48 rfl rfl, xT_1 3 rfl rfl, ⟨by decide, by decide, by decide +kernel⟩, by decide, Or.inr ⟨"NotAnOx", xN_1 46 rfl rfl⟩⟩
set_option maxRecDepth 20000 in
theorem fl_X9_19 : xFl RX9 19 9 1 (.object "NotAnOx$Reader") true := ⟨(RX9, TX9, 12), rfl, by decide, by decide +kernel, rfl, rfl, Or.inl (xT_2 168 rfl rfl)⟩
set_option maxRecDepth 20000 in
theorem cm_X9_25 : xCm mX9_init 25 mX2_init 0 := ⟨xT_1 62 rfl rfl, xT_1 4 rfl rfl, ⟨by decide, by decide, by decide +kernel⟩, by decide, Or.inr ⟨"NotAnOx", xN_1 60 rfl rfl⟩⟩
set_option maxRecDepth 20000 in
theorem fl_X9_26 : xFl RX9 26 9 2 (.object "NotAnOx$Land") true := ⟨(RX9, TX9, 12), rfl, by decide, by decide +kernel, rfl, rfl, Or.inl (xT_2 169 rfl rfl)⟩
set_option maxRecDepth 20000 in
theorem fl_X9_30 : xFl RX9 30 9 3 (.object "NotAnOx$Land") true := ⟨(RX9, TX9, 12), rfl, by decide, by decide +kernel, rfl, rfl, Or.inl (xT_2 170 rfl rfl)⟩
set_option maxRecDepth 20000 in
theorem cm_X9_35 : xCm mX9_init 35 mX0_init 1 := ⟨xT_1 118 rfl rfl, xT_1 5 rfl rfl, ⟨by decide, by decide, by decide +kernel⟩, by decide, Or.inl (xT_1 116 rfl rfl)⟩
set_option maxRecDepth 20000 in
theorem fl_X9_38 : xFl RX9 38 9 4 (.object "NotAnOx$Book") true := ⟨(RX9, TX9, 12), rfl, by decide, by decide +kernel, rfl, rfl, Or.inl (xT_2 171 rfl rfl)⟩
set_option maxRecDepth 20000 in
theorem fl_X9_42 : xFl RX9 42 9 5 (.object "NotAnOx$Book") true := ⟨(RX9, TX9, 12), rfl, by decide, by decide +kernel, rfl, rfl, Or.inl (xT_2 172 rfl rfl)⟩
set_option maxRecDepth 20000 in
theorem cm_X9_47 : xCm mX9_init 47 mX4_init 2 := ⟨xT_1 154 rfl rfl, xT_1 6 rfl rfl, ⟨by decide, by decide, by decide +kernel⟩, by decide, Or.inl (xT_1 152 rfl rfl)⟩
set_option maxRecDepth 20000 in
theorem fl_X9_50 : xFl RX9 50 9 6 (.object "NotAnOx$Pile") true := ⟨(RX9, TX9, 12), rfl, by decide, by decide +kernel, rfl, rfl, Or.inl (xT_2 173 rfl rfl)⟩
set_option maxRecDepth 20000 in
theorem fl_X9_54 : xFl RX9 54 9 7 (.object "NotAnOx$Pile") true := ⟨(RX9, TX9, 12), rfl, by decide, by decide +kernel, rfl, rfl, Or.inl (xT_2 174 rfl rfl)⟩
set_option maxRecDepth 20000 in
theorem cm_X9_59 : xCm mX9_init 59 mX8_init 0 := ⟨xT_1 174 rfl rfl, xT_1 7 rfl rfl, ⟨by decide, by decide, by decide +kernel⟩, by decide, Or.inr ⟨"NotAnOx", xN_1 172 rfl rfl⟩⟩
set_option maxRecDepth 20000 in
theorem fl_X9_60 : xFl RX9 60 9 8 (.object "NotAnOx$Sightings") true := ⟨(RX9, TX9, 12), rfl, by decide, by decide +kernel, rfl, rfl, Or.inl (xT_2 175 rfl rfl)⟩
set_option maxRecDepth 20000 in
theorem cm_X9_66 : xCm mX9_init 66 mX7_init 1 := ⟨xT_1 191 rfl rfl, xT_1 8 rfl rfl, ⟨by decide, by decide, by decide +kernel⟩, by decide, Or.inl (xT_1 189 rfl rfl)⟩
set_option maxRecDepth 20000 in
theorem fl_X9_67 : xFl RX9 67 9 9 (.object "NotAnOx$Sharing") true := ⟨(RX9, TX9, 12), rfl, by decide, by decide +kernel, rfl, rfl, Or.inl (xT_2 176 rfl rfl)⟩
set_option maxRecDepth 20000 in
theorem cm_X9_73 : xCm mX9_init 73 mX3_init 1 := ⟨xT_1 218 rfl rfl, xT_1 9 rfl rfl, ⟨by decide, by decide, by decide +kernel⟩, by decide, Or.inl (xT_1 216 rfl rfl)⟩
set_option maxRecDepth 20000 in
theorem fl_X9_74 : xFl RX9 74 9 10 (.object "NotAnOx$Orders") true := ⟨(RX9, TX9, 12), rfl, by decide, by decide +kernel, rfl, rfl, Or.inl (xT_2 177 rfl rfl)⟩
set_option maxRecDepth 20000 in
theorem cm_X9_80 : xCm mX9_init 80 mX1_init 1 := ⟨xT_2 13 rfl rfl, xT_1 10 rfl rfl, ⟨by decide, by decide, by decide +kernel⟩, by decide, Or.inl (xT_2 11 rfl rfl)⟩
set_option maxRecDepth 20000 in
theorem fl_X9_81 : xFl RX9 81 9 11 (.object "NotAnOx$Chance") true := ⟨(RX9, TX9, 12), rfl, by decide, by decide +kernel, rfl, rfl, Or.inl (xT_2 178 rfl rfl)⟩
set_option maxRecDepth 20000 in
theorem cm_X9_87 : xCm mX9_init 87 mJ0_length_8abf5 0 := ⟨xT_2 36 rfl rfl, xT_1 11 rfl rfl, ⟨by decide, by decide, by decide +kernel⟩, by decide, Or.inl (xT_2 33 rfl rfl)⟩
set_option maxRecDepth 20000 in
theorem cm_X9_93 : xCm mX9_init 93 mJ0_charAt_5068e 1 := ⟨xT_2 46 rfl rfl, xT_1 11 rfl rfl, ⟨by decide, by decide, by decide +kernel⟩, by decide, Or.inl (xT_2 43 rfl rfl)⟩
set_option maxRecDepth 20000 in
theorem cm_X9_97 : xCm mX9_init 97 mX6_add 1 := ⟨xT_2 84 rfl rfl, xT_1 2 rfl rfl, ⟨by decide, by decide, by decide +kernel⟩, by decide, Or.inl (xT_2 81 rfl rfl)⟩
set_option maxRecDepth 20000 in
theorem cm_X9_101 : xCm mX9_init 101 mX9_layScroll 0 := ⟨xT_2 92 rfl rfl, xT_1 1 rfl rfl, ⟨by decide, by decide, by decide +kernel⟩, by decide, Or.inl (xT_2 89 rfl rfl)⟩
set_option maxRecDepth 20000 in
theorem cm_X9_104 : xCm mX9_init 104 mX6_clear 0 := ⟨xT_2 166 rfl rfl, xT_1 2 rfl rfl, ⟨by decide, by decide, by decide +kernel⟩, by decide, Or.inl (xT_2 163 rfl rfl)⟩
set_option maxRecDepth 20000 in
theorem cm_X9_107 : xCm mX9_write 107 mX9_isWithin 3 := ⟨xT_2 127 rfl rfl, xT_1 1 rfl rfl, ⟨by decide, by decide, by decide +kernel⟩, by decide, Or.inl (xT_2 209 rfl rfl)⟩
set_option maxRecDepth 20000 in
theorem cm_X9_111 : xCm mX9_write 111 mX6_isFull 0 := ⟨xT_2 88 rfl rfl, xT_1 2 rfl rfl, ⟨by decide, by decide, by decide +kernel⟩, by decide, Or.inl (xT_2 210 rfl rfl)⟩
set_option maxRecDepth 20000 in
theorem fl_X9_115 : xFl RX9 115 6 1 (.int) false := ⟨(RX6, TX6, 2), rfl, by decide, by decide +kernel, rfl, rfl, Or.inr ⟨"NotAnOx", xN_1 37 rfl rfl⟩⟩
set_option maxRecDepth 20000 in
theorem cm_X9_119 : xCm mX9_fault 119 mX5_readAll 2 := ⟨xT_2 96 rfl rfl, xT_1 3 rfl rfl, ⟨by decide, by decide, by decide +kernel⟩, by decide, Or.inl (xT_2 93 rfl rfl)⟩
set_option maxRecDepth 20000 in
theorem fl_X9_123 : xFl RX9 123 2 5 (.int) false := ⟨(RX2, TX2, 8), rfl, by decide, by decide +kernel, rfl, rfl, Or.inr ⟨"NotAnOx", xN_1 86 rfl rfl⟩⟩
set_option maxRecDepth 20000 in
theorem fl_X9_126 : xFl RX9 126 2 6 (.int) false := ⟨(RX2, TX2, 8), rfl, by decide, by decide +kernel, rfl, rfl, Or.inr ⟨"NotAnOx", xN_1 90 rfl rfl⟩⟩
set_option maxRecDepth 20000 in
theorem cm_X9_129 : xCm mX9_village 129 mX9_isVillage 1 := ⟨xT_2 230 rfl rfl, xT_1 1 rfl rfl, ⟨by decide, by decide, by decide +kernel⟩, by decide, Or.inl (xT_2 227 rfl rfl)⟩
set_option maxRecDepth 20000 in
theorem fl_X9_133 : xFl RX9 133 2 0 (.array .int) true := ⟨(RX2, TX2, 8), rfl, by decide, by decide +kernel, rfl, rfl, Or.inr ⟨"NotAnOx", xN_1 69 rfl rfl⟩⟩
set_option maxRecDepth 20000 in
theorem fl_X9_137 : xFl RX9 137 0 1 (.array .int) true := ⟨(RX0, TX0, 7), rfl, by decide, by decide +kernel, rfl, rfl, Or.inr ⟨"NotAnOx", xN_1 122 rfl rfl⟩⟩
set_option maxRecDepth 20000 in
theorem cm_X9_140 : xCm mX9_village 140 mX0_holds 1 := ⟨xT_2 234 rfl rfl, xT_1 5 rfl rfl, ⟨by decide, by decide, by decide +kernel⟩, by decide, Or.inl (xT_2 231 rfl rfl)⟩
set_option maxRecDepth 20000 in
theorem fl_X9_143 : xFl RX9 143 0 2 (.array .int) true := ⟨(RX0, TX0, 7), rfl, by decide, by decide +kernel, rfl, rfl, Or.inr ⟨"NotAnOx", xN_1 124 rfl rfl⟩⟩
set_option maxRecDepth 20000 in
theorem cm_X9_146 : xCm mX9_village 146 mX0_isChecked 1 := ⟨xT_2 238 rfl rfl, xT_1 5 rfl rfl, ⟨by decide, by decide, by decide +kernel⟩, by decide, Or.inl (xT_2 235 rfl rfl)⟩
set_option maxRecDepth 20000 in
theorem fl_X9_149 : xFl RX9 149 2 7 (.int) false := ⟨(RX2, TX2, 8), rfl, by decide, by decide +kernel, rfl, rfl, Or.inr ⟨"NotAnOx", xN_1 95 rfl rfl⟩⟩
set_option maxRecDepth 20000 in
theorem cm_X9_152 : xCm mX9_village 152 mX0_sworn 3 := ⟨xT_3 2 rfl rfl, xT_1 5 rfl rfl, ⟨by decide, by decide, by decide +kernel⟩, by decide, Or.inl (xT_2 239 rfl rfl)⟩
set_option maxRecDepth 20000 in
theorem fl_X9_156 : xFl RX9 156 2 3 (.array .int) true := ⟨(RX2, TX2, 8), rfl, by decide, by decide +kernel, rfl, rfl, Or.inr ⟨"NotAnOx", xN_1 76 rfl rfl⟩⟩
set_option maxRecDepth 20000 in
theorem cm_X9_159 : xCm mX9_party 159 mX9_isParty 1 := ⟨xT_3 13 rfl rfl, xT_1 1 rfl rfl, ⟨by decide, by decide, by decide +kernel⟩, by decide, Or.inl (xT_3 10 rfl rfl)⟩
set_option maxRecDepth 20000 in
theorem fl_X9_162 : xFl RX9 162 0 3 (.array .int) true := ⟨(RX0, TX0, 7), rfl, by decide, by decide +kernel, rfl, rfl, Or.inr ⟨"NotAnOx", xN_1 127 rfl rfl⟩⟩
set_option maxRecDepth 20000 in
theorem fl_X9_165 : xFl RX9 165 0 4 (.array .int) true := ⟨(RX0, TX0, 7), rfl, by decide, by decide +kernel, rfl, rfl, Or.inr ⟨"NotAnOx", xN_1 129 rfl rfl⟩⟩
set_option maxRecDepth 20000 in
theorem fl_X9_168 : xFl RX9 168 2 4 (.array (.array .int)) true := ⟨(RX2, TX2, 8), rfl, by decide, by decide +kernel, rfl, rfl, Or.inr ⟨"NotAnOx", xN_1 81 rfl rfl⟩⟩
set_option maxRecDepth 20000 in
theorem cm_X9_173 : xCm mX9_ask 173 mX0_canBeAsked 2 := ⟨xT_3 26 rfl rfl, xT_1 5 rfl rfl, ⟨by decide, by decide, by decide +kernel⟩, by decide, Or.inl (xT_3 23 rfl rfl)⟩
set_option maxRecDepth 20000 in
theorem cm_X9_177 : xCm mX9_ask 177 mX4_push 1 := ⟨xT_3 32 rfl rfl, xT_1 6 rfl rfl, ⟨by decide, by decide, by decide +kernel⟩, by decide, Or.inl (xT_3 29 rfl rfl)⟩
set_option maxRecDepth 20000 in
theorem cm_X9_181 : xCm mX9_ask 181 mX0_askBy 2 := ⟨xT_3 52 rfl rfl, xT_1 5 rfl rfl, ⟨by decide, by decide, by decide +kernel⟩, by decide, Or.inl (xT_3 49 rfl rfl)⟩
set_option maxRecDepth 20000 in
theorem cm_X9_185 : xCm mX9_check 185 mX0_canBeChecked 1 := ⟨xT_3 65 rfl rfl, xT_1 5 rfl rfl, ⟨by decide, by decide, by decide +kernel⟩, by decide, Or.inl (xT_3 62 rfl rfl)⟩
set_option maxRecDepth 20000 in
theorem cm_X9_188 : xCm mX9_check 188 mX0_writeOxen 1 := ⟨xT_3 70 rfl rfl, xT_1 5 rfl rfl, ⟨by decide, by decide, by decide +kernel⟩, by decide, Or.inl (xT_3 67 rfl rfl)⟩
set_option maxRecDepth 20000 in
theorem cm_X9_192 : xCm mX9_strike 192 mX0_strikeOut 1 := ⟨xT_3 78 rfl rfl, xT_1 5 rfl rfl, ⟨by decide, by decide, by decide +kernel⟩, by decide, Or.inl (xT_3 75 rfl rfl)⟩
set_option maxRecDepth 20000 in
theorem fl_X9_195 : xFl RX9 195 4 2 (.int) false := ⟨(RX4, TX4, 3), rfl, by decide, by decide +kernel, rfl, rfl, Or.inr ⟨"NotAnOx", xN_1 162 rfl rfl⟩⟩
set_option maxRecDepth 20000 in
theorem cm_X9_196 : xCm mX9_undo 196 mX4_popInto 1 := ⟨xT_3 86 rfl rfl, xT_1 6 rfl rfl, ⟨by decide, by decide, by decide +kernel⟩, by decide, Or.inl (xT_3 83 rfl rfl)⟩
set_option maxRecDepth 20000 in
theorem cm_X9_199 : xCm mX9_soonest 199 mX7_seek 1 := ⟨xT_3 94 rfl rfl, xT_1 8 rfl rfl, ⟨by decide, by decide, by decide +kernel⟩, by decide, Or.inl (xT_3 91 rfl rfl)⟩
set_option maxRecDepth 20000 in
theorem fl_X9_202 : xFl RX9 202 7 5 (.int) false := ⟨(RX7, TX7, 6), rfl, by decide, by decide +kernel, rfl, rfl, Or.inr ⟨"NotAnOx", xN_1 200 rfl rfl⟩⟩
set_option maxRecDepth 20000 in
theorem cm_X9_205 : xCm mX9_soonest 205 mX7_whoAsks 1 := ⟨xT_3 136 rfl rfl, xT_1 8 rfl rfl, ⟨by decide, by decide, by decide +kernel⟩, by decide, Or.inl (xT_3 133 rfl rfl)⟩
set_option maxRecDepth 20000 in
theorem cm_X9_208 : xCm mX9_most 208 mX9_bestOrder 2 := ⟨xT_3 144 rfl rfl, xT_1 1 rfl rfl, ⟨by decide, by decide, by decide +kernel⟩, by decide, Or.inl (xT_3 141 rfl rfl)⟩
set_option maxRecDepth 20000 in
theorem cm_X9_212 : xCm mX9_checks 212 mX9_bestChecks 1 := ⟨xT_3 178 rfl rfl, xT_1 1 rfl rfl, ⟨by decide, by decide, by decide +kernel⟩, by decide, Or.inl (xT_3 175 rfl rfl)⟩
set_option maxRecDepth 20000 in
theorem cm_X9_215 : xCm mX9_checks 215 mX0_gainOf 1 := ⟨xT_3 184 rfl rfl, xT_1 5 rfl rfl, ⟨by decide, by decide, by decide +kernel⟩, by decide, Or.inl (xT_3 181 rfl rfl)⟩
set_option maxRecDepth 20000 in
theorem cm_X9_218 : xCm mX9_see 218 mX8_isFull 0 := ⟨xT_3 192 rfl rfl, xT_1 7 rfl rfl, ⟨by decide, by decide, by decide +kernel⟩, by decide, Or.inl (xT_3 189 rfl rfl)⟩
set_option maxRecDepth 20000 in
theorem cm_X9_219 : xCm mX9_see 219 mX8_add 2 := ⟨xT_3 196 rfl rfl, xT_1 7 rfl rfl, ⟨by decide, by decide, by decide +kernel⟩, by decide, Or.inl (xT_3 193 rfl rfl)⟩
set_option maxRecDepth 20000 in
theorem fl_X9_222 : xFl RX9 222 8 2 (.int) false := ⟨(RX8, TX8, 3), rfl, by decide, by decide +kernel, rfl, rfl, Or.inr ⟨"NotAnOx", xN_1 179 rfl rfl⟩⟩
set_option maxRecDepth 20000 in
theorem cm_X9_223 : xCm mX9_forget 223 mX8_clear 0 := ⟨xT_2 158 rfl rfl, xT_1 7 rfl rfl, ⟨by decide, by decide, by decide +kernel⟩, by decide, Or.inl (xT_2 155 rfl rfl)⟩
set_option maxRecDepth 20000 in
theorem cm_X9_224 : xCm mX9_kinds 224 mX8_fits 2 := ⟨xT_3 209 rfl rfl, xT_1 7 rfl rfl, ⟨by decide, by decide, by decide +kernel⟩, by decide, Or.inl (xT_3 206 rfl rfl)⟩
set_option maxRecDepth 20000 in
theorem cm_X9_227 : xCm mX9_copies 227 mX0_hasTwin 1 := ⟨xT_3 217 rfl rfl, xT_1 5 rfl rfl, ⟨by decide, by decide, by decide +kernel⟩, by decide, Or.inl (xT_3 214 rfl rfl)⟩
set_option maxRecDepth 20000 in
theorem cm_X9_230 : xCm mX9_honest 230 mX1_weigh 3 := ⟨xT_3 229 rfl rfl, xT_1 10 rfl rfl, ⟨by decide, by decide, by decide +kernel⟩, by decide, Or.inl (xT_3 226 rfl rfl)⟩
set_option maxRecDepth 20000 in
theorem fl_X9_234 : xFl RX9 234 1 2 (.int) false := ⟨(RX1, TX1, 4), rfl, by decide, by decide +kernel, rfl, rfl, Or.inr ⟨"NotAnOx", xN_2 20 rfl rfl⟩⟩
set_option maxRecDepth 20000 in
theorem fl_X9_237 : xFl RX9 237 1 3 (.int) false := ⟨(RX1, TX1, 4), rfl, by decide, by decide +kernel, rfl, rfl, Or.inr ⟨"NotAnOx", xN_2 22 rfl rfl⟩⟩
set_option maxRecDepth 20000 in
theorem cm_X9_240 : xCm mX9_shire 240 mX0_copyFrom 1 := ⟨xT_3 44 rfl rfl, xT_1 5 rfl rfl, ⟨by decide, by decide, by decide +kernel⟩, by decide, Or.inl (xT_4 9 rfl rfl)⟩
set_option maxRecDepth 20000 in
theorem cm_X9_243 : xCm mX9_shire 243 mX9_drawOf 2 := ⟨xT_4 12 rfl rfl, xT_1 1 rfl rfl, ⟨by decide, by decide, by decide +kernel⟩, by decide, Or.inl (xT_4 10 rfl rfl)⟩
set_option maxRecDepth 20000 in
theorem cm_X9_246 : xCm mX9_shire 246 mX9_stepByDraw 1 := ⟨xT_4 20 rfl rfl, xT_1 1 rfl rfl, ⟨by decide, by decide, by decide +kernel⟩, by decide, Or.inl (xT_4 17 rfl rfl)⟩
set_option maxRecDepth 20000 in
theorem cm_X9_250 : xCm mX9_shire 250 mX0_found 0 := ⟨xT_3 159 rfl rfl, xT_1 5 rfl rfl, ⟨by decide, by decide, by decide +kernel⟩, by decide, Or.inl (xT_4 21 rfl rfl)⟩
set_option maxRecDepth 20000 in
theorem cm_X9_253 : xCm mX9_shire 253 mX0_mostDays 0 := ⟨xT_4 25 rfl rfl, xT_1 5 rfl rfl, ⟨by decide, by decide, by decide +kernel⟩, by decide, Or.inl (xT_4 22 rfl rfl)⟩
set_option maxRecDepth 20000 in
theorem cm_X9_256 : xCm mX9_keep 256 mX4_isFull 0 := ⟨xT_3 36 rfl rfl, xT_1 6 rfl rfl, ⟨by decide, by decide, by decide +kernel⟩, by decide, Or.inl (xT_4 31 rfl rfl)⟩
set_option maxRecDepth 20000 in
theorem cm_X9_257 : xCm mX9_back 257 mX4_clear 0 := ⟨xT_2 162 rfl rfl, xT_1 6 rfl rfl, ⟨by decide, by decide, by decide +kernel⟩, by decide, Or.inl (xT_2 159 rfl rfl)⟩
set_option maxRecDepth 20000 in
theorem fl_X9_258 : xFl RX9 258 0 5 (.int) false := ⟨(RX0, TX0, 7), rfl, by decide, by decide +kernel, rfl, rfl, Or.inr ⟨"NotAnOx", xN_1 132 rfl rfl⟩⟩
set_option maxRecDepth 20000 in
theorem cm_X9_261 : xCm mX9_count 261 mJ6_bitCount_0f7a4 1 := ⟨xT_3 106 rfl rfl, xT_1 19 rfl rfl, ⟨by decide, by decide, by decide +kernel⟩, by decide, Or.inl (xT_3 179 rfl rfl)⟩
set_option maxRecDepth 20000 in
theorem fl_X9_266 : xFl RX9 266 0 6 (.int) false := ⟨(RX0, TX0, 7), rfl, by decide, by decide +kernel, rfl, rfl, Or.inr ⟨"NotAnOx", xN_1 134 rfl rfl⟩⟩
set_option maxRecDepth 20000 in
theorem cm_X9_269 : xCm mX9_count 269 mX0_allOxen 0 := ⟨xT_4 43 rfl rfl, xT_1 5 rfl rfl, ⟨by decide, by decide, by decide +kernel⟩, by decide, Or.inl (xT_4 40 rfl rfl)⟩
set_option maxRecDepth 20000 in
theorem cm_X9_272 : xCm mX9_layScroll 272 mX2_measure 0 := ⟨xT_2 143 rfl rfl, xT_1 4 rfl rfl, ⟨by decide, by decide, by decide +kernel⟩, by decide, Or.inl (xT_2 140 rfl rfl)⟩
set_option maxRecDepth 20000 in
theorem cm_X9_275 : xCm mX9_layScroll 275 mX0_open 0 := ⟨xT_2 150 rfl rfl, xT_1 5 rfl rfl, ⟨by decide, by decide, by decide +kernel⟩, by decide, Or.inl (xT_2 147 rfl rfl)⟩
set_option maxRecDepth 20000 in
theorem cm_X9_278 : xCm mX9_bestOrder 278 mX0_restSize 0 := ⟨xT_3 102 rfl rfl, xT_1 5 rfl rfl, ⟨by decide, by decide, by decide +kernel⟩, by decide, Or.inl (xT_3 145 rfl rfl)⟩
set_option maxRecDepth 20000 in
theorem cm_X9_281 : xCm mX9_bestOrder 281 mX3_seek 2 := ⟨xT_3 149 rfl rfl, xT_1 9 rfl rfl, ⟨by decide, by decide, by decide +kernel⟩, by decide, Or.inl (xT_3 146 rfl rfl)⟩
set_option maxRecDepth 20000 in
theorem fl_X9_284 : xFl RX9 284 3 7 (.int) false := ⟨(RX3, TX3, 8), rfl, by decide, by decide +kernel, rfl, rfl, Or.inr ⟨"NotAnOx", xN_1 231 rfl rfl⟩⟩
set_option maxRecDepth 20000 in
theorem fl_X9_287 : xFl RX9 287 3 3 (.array .int) true := ⟨(RX3, TX3, 8), rfl, by decide, by decide +kernel, rfl, rfl, Or.inr ⟨"NotAnOx", xN_1 226 rfl rfl⟩⟩
set_option maxRecDepth 20000 in
theorem cm_X9_290 : xCm mX9_bestChecks 290 mJ9_min_7cf53 2 := ⟨xT_2 146 rfl rfl, xT_1 16 rfl rfl, ⟨by decide, by decide, by decide +kernel⟩, by decide, Or.inl (xT_3 180 rfl rfl)⟩
set_option maxRecDepth 20000 in
theorem fl_X10_7 : xFl RX10 7 10 1 (.array .int) true := ⟨(RX10, TX10, 26), rfl, by decide, by decide +kernel, rfl, rfl, Or.inl (xT_4 70 rfl rfl)⟩
set_option maxRecDepth 20000 in
theorem fl_X10_13 : xFl RX10 13 10 3 (.array .int) true := ⟨(RX10, TX10, 26), rfl, by decide, by decide +kernel, rfl, rfl, Or.inl (xT_4 72 rfl rfl)⟩
set_option maxRecDepth 20000 in
theorem fl_X10_16 : xFl RX10 16 10 4 (.array .int) true := ⟨(RX10, TX10, 26), rfl, by decide, by decide +kernel, rfl, rfl, Or.inl (xT_4 73 rfl rfl)⟩
set_option maxRecDepth 20000 in
theorem fl_X10_19 : xFl RX10 19 10 6 (.array .int) true := ⟨(RX10, TX10, 26), rfl, by decide, by decide +kernel, rfl, rfl, Or.inl (xT_4 75 rfl rfl)⟩
set_option maxRecDepth 20000 in
theorem fl_X10_22 : xFl RX10 22 10 8 (.array .int) true := ⟨(RX10, TX10, 26), rfl, by decide, by decide +kernel, rfl, rfl, Or.inl (xT_4 77 rfl rfl)⟩
set_option maxRecDepth 20000 in
theorem fl_X10_25 : xFl RX10 25 10 9 (.array .int) true := ⟨(RX10, TX10, 26), rfl, by decide, by decide +kernel, rfl, rfl, Or.inl (xT_4 78 rfl rfl)⟩
set_option maxRecDepth 20000 in
theorem fl_X10_28 : xFl RX10 28 10 13 (.array .byte) true := ⟨(RX10, TX10, 26), rfl, by decide, by decide +kernel, rfl, rfl, Or.inl (xT_4 82 rfl rfl)⟩
set_option maxRecDepth 20000 in
theorem fl_X10_32 : xFl RX10 32 10 18 (.array .int) true := ⟨(RX10, TX10, 26), rfl, by decide, by decide +kernel, rfl, rfl, Or.inl (xT_4 87 rfl rfl)⟩
set_option maxRecDepth 20000 in
theorem fl_X10_35 : xFl RX10 35 10 19 (.array .int) true := ⟨(RX10, TX10, 26), rfl, by decide, by decide +kernel, rfl, rfl, Or.inl (xT_4 88 rfl rfl)⟩
set_option maxRecDepth 20000 in
theorem fl_X10_38 : xFl RX10 38 10 20 (.array .int) true := ⟨(RX10, TX10, 26), rfl, by decide, by decide +kernel, rfl, rfl, Or.inl (xT_4 89 rfl rfl)⟩
set_option maxRecDepth 20000 in
theorem fl_X10_41 : xFl RX10 41 10 21 (.array .int) true := ⟨(RX10, TX10, 26), rfl, by decide, by decide +kernel, rfl, rfl, Or.inl (xT_4 90 rfl rfl)⟩
set_option maxRecDepth 20000 in
theorem fl_X10_44 : xFl RX10 44 10 24 (.array .int) true := ⟨(RX10, TX10, 26), rfl, by decide, by decide +kernel, rfl, rfl, Or.inl (xT_4 93 rfl rfl)⟩
set_option maxRecDepth 20000 in
theorem fl_X10_47 : xFl RX10 47 10 25 (.array .int) true := ⟨(RX10, TX10, 26), rfl, by decide, by decide +kernel, rfl, rfl, Or.inl (xT_4 94 rfl rfl)⟩
set_option maxRecDepth 20000 in
theorem cm_X10_50 : xCm mX10_init 50 mX10_lives 3 := ⟨xT_4 53 rfl rfl, xT_1 18 rfl rfl, ⟨by decide, by decide, by decide +kernel⟩, by decide, Or.inl (xT_4 50 rfl rfl)⟩
set_option maxRecDepth 20000 in
theorem cm_X10_54 : xCm mX10_init 54 mX10_joins 3 := ⟨xT_4 57 rfl rfl, xT_1 18 rfl rfl, ⟨by decide, by decide, by decide +kernel⟩, by decide, Or.inl (xT_4 54 rfl rfl)⟩
set_option maxRecDepth 20000 in
theorem cm_X10_57 : xCm mX10_init 57 mX10_begins 2 := ⟨xT_4 61 rfl rfl, xT_1 18 rfl rfl, ⟨by decide, by decide, by decide +kernel⟩, by decide, Or.inl (xT_4 58 rfl rfl)⟩
set_option maxRecDepth 20000 in
theorem cm_X10_61 : xCm mX10_init 61 mX10_settles 0 := ⟨xT_4 65 rfl rfl, xT_1 18 rfl rfl, ⟨by decide, by decide, by decide +kernel⟩, by decide, Or.inl (xT_4 62 rfl rfl)⟩
set_option maxRecDepth 20000 in
theorem fl_X10_64 : xFl RX10 64 10 5 (.int) false := ⟨(RX10, TX10, 26), rfl, by decide, by decide +kernel, rfl, rfl, Or.inl (xT_4 74 rfl rfl)⟩
set_option maxRecDepth 20000 in
theorem fl_X10_68 : xFl RX10 68 10 7 (.int) false := ⟨(RX10, TX10, 26), rfl, by decide, by decide +kernel, rfl, rfl, Or.inl (xT_4 76 rfl rfl)⟩
set_option maxRecDepth 20000 in
theorem fl_X10_71 : xFl RX10 71 10 0 (.int) false := ⟨(RX10, TX10, 26), rfl, by decide, by decide +kernel, rfl, rfl, Or.inl (xT_4 69 rfl rfl)⟩
set_option maxRecDepth 20000 in
theorem fl_X10_74 : xFl RX10 74 10 2 (.int) false := ⟨(RX10, TX10, 26), rfl, by decide, by decide +kernel, rfl, rfl, Or.inl (xT_4 71 rfl rfl)⟩
set_option maxRecDepth 20000 in
theorem cm_X10_77 : xCm mX10_settles 77 mX10_smaller 2 := ⟨xT_4 68 rfl rfl, xT_1 18 rfl rfl, ⟨by decide, by decide, by decide +kernel⟩, by decide, Or.inl (xT_4 66 rfl rfl)⟩
set_option maxRecDepth 20000 in
theorem cm_X10_81 : xCm mX10_isVillage 81 mX10_in 3 := ⟨xT_4 156 rfl rfl, xT_1 18 rfl rfl, ⟨by decide, by decide, by decide +kernel⟩, by decide, Or.inl (xT_4 154 rfl rfl)⟩
set_option maxRecDepth 20000 in
theorem fl_X10_89 : xFl RX10 89 10 12 (.int) false := ⟨(RX10, TX10, 26), rfl, by decide, by decide +kernel, rfl, rfl, Or.inl (xT_4 81 rfl rfl)⟩
set_option maxRecDepth 20000 in
theorem fl_X10_92 : xFl RX10 92 10 14 (.int) false := ⟨(RX10, TX10, 26), rfl, by decide, by decide +kernel, rfl, rfl, Or.inl (xT_4 83 rfl rfl)⟩
set_option maxRecDepth 20000 in
theorem cm_X10_95 : xCm mX10_number 95 mX10_next 0 := ⟨xT_4 172 rfl rfl, xT_1 18 rfl rfl, ⟨by decide, by decide, by decide +kernel⟩, by decide, Or.inl (xT_4 169 rfl rfl)⟩
set_option maxRecDepth 20000 in
theorem fl_X10_103 : xFl RX10 103 10 16 (.boolean) false := ⟨(RX10, TX10, 26), rfl, by decide, by decide +kernel, rfl, rfl, Or.inl (xT_4 85 rfl rfl)⟩
set_option maxRecDepth 20000 in
theorem cm_X10_107 : xCm mX10_more 107 mX10_number 2 := ⟨xT_4 180 rfl rfl, xT_1 18 rfl rfl, ⟨by decide, by decide, by decide +kernel⟩, by decide, Or.inl (xT_4 177 rfl rfl)⟩
set_option maxRecDepth 20000 in
theorem cm_X10_110 : xCm mX10_item 110 mX10_more 2 := ⟨xT_4 186 rfl rfl, xT_1 18 rfl rfl, ⟨by decide, by decide, by decide +kernel⟩, by decide, Or.inl (xT_4 183 rfl rfl)⟩
set_option maxRecDepth 20000 in
theorem fl_X10_113 : xFl RX10 113 10 15 (.int) false := ⟨(RX10, TX10, 26), rfl, by decide, by decide +kernel, rfl, rfl, Or.inl (xT_4 84 rfl rfl)⟩
set_option maxRecDepth 20000 in
theorem cm_X10_116 : xCm mX10_reads 116 mX10_item 1 := ⟨xT_4 176 rfl rfl, xT_1 18 rfl rfl, ⟨by decide, by decide, by decide +kernel⟩, by decide, Or.inl (xT_4 173 rfl rfl)⟩
set_option maxRecDepth 20000 in
theorem cm_X10_120 : xCm mX10_fault 120 mX10_reads 0 := ⟨xT_4 168 rfl rfl, xT_1 18 rfl rfl, ⟨by decide, by decide, by decide +kernel⟩, by decide, Or.inl (xT_4 165 rfl rfl)⟩
set_option maxRecDepth 20000 in
theorem cm_X10_124 : xCm mX10_lay 124 mX10_copied 2 := ⟨xT_4 194 rfl rfl, xT_1 18 rfl rfl, ⟨by decide, by decide, by decide +kernel⟩, by decide, Or.inl (xT_4 191 rfl rfl)⟩
set_option maxRecDepth 20000 in
theorem fl_X10_127 : xFl RX10 127 10 10 (.int) false := ⟨(RX10, TX10, 26), rfl, by decide, by decide +kernel, rfl, rfl, Or.inl (xT_4 79 rfl rfl)⟩
set_option maxRecDepth 20000 in
theorem fl_X10_130 : xFl RX10 130 10 11 (.int) false := ⟨(RX10, TX10, 26), rfl, by decide, by decide +kernel, rfl, rfl, Or.inl (xT_4 80 rfl rfl)⟩
set_option maxRecDepth 20000 in
theorem fl_X10_133 : xFl RX10 133 10 17 (.int) false := ⟨(RX10, TX10, 26), rfl, by decide, by decide +kernel, rfl, rfl, Or.inl (xT_4 86 rfl rfl)⟩
set_option maxRecDepth 20000 in
theorem cm_X10_136 : xCm mX10_besides 136 mX10_areNear 2 := ⟨xT_4 226 rfl rfl, xT_1 18 rfl rfl, ⟨by decide, by decide, by decide +kernel⟩, by decide, Or.inl (xT_4 223 rfl rfl)⟩
set_option maxRecDepth 20000 in
theorem cm_X10_140 : xCm mX10_lowest 140 mX10_besides 1 := ⟨xT_4 222 rfl rfl, xT_1 18 rfl rfl, ⟨by decide, by decide, by decide +kernel⟩, by decide, Or.inl (xT_4 219 rfl rfl)⟩
set_option maxRecDepth 20000 in
theorem cm_X10_144 : xCm mX10_lowest 144 mX10_has 2 := ⟨xT_4 210 rfl rfl, xT_1 18 rfl rfl, ⟨by decide, by decide, by decide +kernel⟩, by decide, Or.inl (xT_4 208 rfl rfl)⟩
set_option maxRecDepth 20000 in
theorem cm_X10_147 : xCm mX10_sworn 147 mX10_lowest 2 := ⟨xT_4 218 rfl rfl, xT_1 18 rfl rfl, ⟨by decide, by decide, by decide +kernel⟩, by decide, Or.inl (xT_4 215 rfl rfl)⟩
set_option maxRecDepth 20000 in
theorem cm_X10_150 : xCm mX10_sworn 150 mX10_isBesideHonest 2 := ⟨xT_4 230 rfl rfl, xT_1 18 rfl rfl, ⟨by decide, by decide, by decide +kernel⟩, by decide, Or.inl (xT_4 227 rfl rfl)⟩
set_option maxRecDepth 20000 in
theorem cm_X10_153 : xCm mX10_writes 153 mX10_sworn 3 := ⟨xT_4 214 rfl rfl, xT_1 18 rfl rfl, ⟨by decide, by decide, by decide +kernel⟩, by decide, Or.inl (xT_4 211 rfl rfl)⟩
set_option maxRecDepth 20000 in
theorem cm_X10_157 : xCm mX10_village 157 mX10_isVillage 1 := ⟨xT_4 202 rfl rfl, xT_1 18 rfl rfl, ⟨by decide, by decide, by decide +kernel⟩, by decide, Or.inl (xT_4 199 rfl rfl)⟩
set_option maxRecDepth 20000 in
theorem cm_X10_163 : xCm mX10_village 163 mX10_isIn 1 := ⟨xT_4 207 rfl rfl, xT_1 18 rfl rfl, ⟨by decide, by decide, by decide +kernel⟩, by decide, Or.inl (xT_4 204 rfl rfl)⟩
set_option maxRecDepth 20000 in
theorem cm_X10_166 : xCm mX10_asks 166 mX10_writes 2 := ⟨xT_5 18 rfl rfl, xT_1 18 rfl rfl, ⟨by decide, by decide, by decide +kernel⟩, by decide, Or.inl (xT_5 15 rfl rfl)⟩
set_option maxRecDepth 20000 in
theorem cm_X10_169 : xCm mX10_ask 169 mX10_canAsk 3 := ⟨xT_5 6 rfl rfl, xT_1 18 rfl rfl, ⟨by decide, by decide, by decide +kernel⟩, by decide, Or.inl (xT_5 3 rfl rfl)⟩
set_option maxRecDepth 20000 in
theorem cm_X10_173 : xCm mX10_ask 173 mX10_known 0 := ⟨xT_5 10 rfl rfl, xT_1 18 rfl rfl, ⟨by decide, by decide, by decide +kernel⟩, by decide, Or.inl (xT_5 7 rfl rfl)⟩
set_option maxRecDepth 20000 in
theorem cm_X10_176 : xCm mX10_ask 176 mX10_asks 3 := ⟨xT_5 14 rfl rfl, xT_1 18 rfl rfl, ⟨by decide, by decide, by decide +kernel⟩, by decide, Or.inl (xT_5 11 rfl rfl)⟩
set_option maxRecDepth 20000 in
theorem cm_X10_179 : xCm mX10_check 179 mX10_canCheck 2 := ⟨xT_5 26 rfl rfl, xT_1 18 rfl rfl, ⟨by decide, by decide, by decide +kernel⟩, by decide, Or.inl (xT_5 23 rfl rfl)⟩
set_option maxRecDepth 20000 in
theorem cm_X10_182 : xCm mX10_check 182 mX10_checked 2 := ⟨xT_5 30 rfl rfl, xT_1 18 rfl rfl, ⟨by decide, by decide, by decide +kernel⟩, by decide, Or.inl (xT_5 27 rfl rfl)⟩
set_option maxRecDepth 20000 in
theorem cm_X10_185 : xCm mX10_strike 185 mX10_struck 2 := ⟨xT_5 38 rfl rfl, xT_1 18 rfl rfl, ⟨by decide, by decide, by decide +kernel⟩, by decide, Or.inl (xT_5 35 rfl rfl)⟩
set_option maxRecDepth 20000 in
theorem cm_X10_188 : xCm mX10_askedBy 188 mX10_rest 0 := ⟨xT_5 51 rfl rfl, xT_1 18 rfl rfl, ⟨by decide, by decide, by decide +kernel⟩, by decide, Or.inl (xT_5 48 rfl rfl)⟩
set_option maxRecDepth 20000 in
theorem cm_X10_191 : xCm mX10_takes 191 mX10_askedBy 2 := ⟨xT_5 64 rfl rfl, xT_1 18 rfl rfl, ⟨by decide, by decide, by decide +kernel⟩, by decide, Or.inl (xT_5 61 rfl rfl)⟩
set_option maxRecDepth 20000 in
theorem cm_X10_195 : xCm mX10_takes 195 mX10_larger 2 := ⟨xT_5 67 rfl rfl, xT_1 18 rfl rfl, ⟨by decide, by decide, by decide +kernel⟩, by decide, Or.inl (xT_5 65 rfl rfl)⟩
set_option maxRecDepth 20000 in
theorem cm_X10_200 : xCm mX10_soonest 200 mX10_routes 1 := ⟨xT_5 55 rfl rfl, xT_1 18 rfl rfl, ⟨by decide, by decide, by decide +kernel⟩, by decide, Or.inl (xT_5 52 rfl rfl)⟩
set_option maxRecDepth 20000 in
theorem cm_X10_203 : xCm mX10_soonest 203 mX10_takes 1 := ⟨xT_5 60 rfl rfl, xT_1 18 rfl rfl, ⟨by decide, by decide, by decide +kernel⟩, by decide, Or.inl (xT_5 57 rfl rfl)⟩
set_option maxRecDepth 20000 in
theorem fl_X10_206 : xFl RX10 206 10 22 (.int) false := ⟨(RX10, TX10, 26), rfl, by decide, by decide +kernel, rfl, rfl, Or.inl (xT_4 91 rfl rfl)⟩
set_option maxRecDepth 20000 in
theorem fl_X10_209 : xFl RX10 209 10 23 (.int) false := ⟨(RX10, TX10, 26), rfl, by decide, by decide +kernel, rfl, rfl, Or.inl (xT_4 92 rfl rfl)⟩
set_option maxRecDepth 20000 in
theorem cm_X10_212 : xCm mX10_goesOn 212 mX10_swaps 2 := ⟨xT_5 96 rfl rfl, xT_1 18 rfl rfl, ⟨by decide, by decide, by decide +kernel⟩, by decide, Or.inl (xT_5 93 rfl rfl)⟩
set_option maxRecDepth 20000 in
theorem cm_X10_215 : xCm mX10_orders 215 mX10_lists 0 := ⟨xT_5 84 rfl rfl, xT_1 18 rfl rfl, ⟨by decide, by decide, by decide +kernel⟩, by decide, Or.inl (xT_5 81 rfl rfl)⟩
set_option maxRecDepth 20000 in
theorem cm_X10_218 : xCm mX10_orders 218 mX10_found 1 := ⟨xT_5 88 rfl rfl, xT_1 18 rfl rfl, ⟨by decide, by decide, by decide +kernel⟩, by decide, Or.inl (xT_5 85 rfl rfl)⟩
set_option maxRecDepth 20000 in
theorem cm_X10_221 : xCm mX10_orders 221 mX10_goesOn 0 := ⟨xT_5 92 rfl rfl, xT_1 18 rfl rfl, ⟨by decide, by decide, by decide +kernel⟩, by decide, Or.inl (xT_5 89 rfl rfl)⟩
set_option maxRecDepth 20000 in
theorem cm_X10_226 : xCm mX10_ordered 226 mX10_orders 1 := ⟨xT_5 80 rfl rfl, xT_1 18 rfl rfl, ⟨by decide, by decide, by decide +kernel⟩, by decide, Or.inl (xT_5 77 rfl rfl)⟩
set_option maxRecDepth 20000 in
theorem cm_X10_230 : xCm mX10_most 230 mX10_ordered 2 := ⟨xT_5 75 rfl rfl, xT_1 18 rfl rfl, ⟨by decide, by decide, by decide +kernel⟩, by decide, Or.inl (xT_5 72 rfl rfl)⟩
set_option maxRecDepth 20000 in
theorem cm_X10_236 : xCm mX10_checks 236 mX10_bits 1 := ⟨xT_5 108 rfl rfl, xT_1 18 rfl rfl, ⟨by decide, by decide, by decide +kernel⟩, by decide, Or.inl (xT_5 106 rfl rfl)⟩
set_option maxRecDepth 20000 in
theorem cm_X10_257 : xCm mX10_shire 257 mX10_mostDays 1 := ⟨xT_5 149 rfl rfl, xT_1 18 rfl rfl, ⟨by decide, by decide, by decide +kernel⟩, by decide, Or.inl (xT_5 146 rfl rfl)⟩
set_option maxRecDepth 20000 in
theorem cm_X10_260 : xCm mX10_count 260 mX10_oxen 0 := ⟨xT_5 165 rfl rfl, xT_1 18 rfl rfl, ⟨by decide, by decide, by decide +kernel⟩, by decide, Or.inl (xT_5 162 rfl rfl)⟩
set_option maxRecDepth 20000 in
theorem cm_J0_335 : xCm mJ0_length_8abf5 335 mJ0_coder_7d493 0 := ⟨xT_2 40 rfl rfl, xT_1 11 rfl rfl, ⟨by decide, by decide, by decide +kernel⟩, by decide, Or.inl (xT_2 37 rfl rfl)⟩
set_option maxRecDepth 20000 in
theorem cm_J0_492 : xCm mJ0_charAt_5068e 492 mJ0_isLatin1_aae02 0 := ⟨xT_2 50 rfl rfl, xT_1 11 rfl rfl, ⟨by decide, by decide, by decide +kernel⟩, by decide, Or.inl (xT_2 47 rfl rfl)⟩
set_option maxRecDepth 20000 in
theorem cm_J0_495 : xCm mJ0_charAt_5068e 495 mJ1_charAt_3b067 2 := ⟨xT_2 53 rfl rfl, xT_1 12 rfl rfl, ⟨by decide, by decide, by decide +kernel⟩, by decide, Or.inl (xT_2 51 rfl rfl)⟩
set_option maxRecDepth 20000 in
theorem cm_J0_1059 : xCm mJ0_checkIndex_df160 1059 mJ3_checkIndex_8e157 3 := ⟨xT_2 61 rfl rfl, xT_1 13 rfl rfl, ⟨by decide, by decide, by decide +kernel⟩, by decide, Or.inl (xT_2 59 rfl rfl)⟩
set_option maxRecDepth 20000 in
theorem cm_J1_9 : xCm mJ1_charAt_3b067 9 mJ0_checkIndex_df160 2 := ⟨xT_2 56 rfl rfl, xT_1 11 rfl rfl, ⟨by decide, by decide, by decide +kernel⟩, by decide, Or.inl (xT_2 54 rfl rfl)⟩
set_option maxRecDepth 20000 in
theorem cm_L_9 : xCm mL 9 mX9_init 0 := ⟨xT_1 24 rfl rfl, xT_1 1 rfl rfl, ⟨by decide, by decide, by decide +kernel⟩, by decide, Or.inl (xT_1 22 rfl rfl)⟩
set_option maxRecDepth 20000 in
theorem cm_L_12 : xCm mL 12 mX10_init 0 := ⟨xT_4 48 rfl rfl, xT_1 18 rfl rfl, ⟨by decide, by decide, by decide +kernel⟩, by decide, Or.inl (xT_4 46 rfl rfl)⟩
set_option maxRecDepth 20000 in
theorem cm_L_13 : xCm mL 13 mX9_write 1 := ⟨xT_2 208 rfl rfl, xT_1 1 rfl rfl, ⟨by decide, by decide, by decide +kernel⟩, by decide, Or.inl (xT_2 205 rfl rfl)⟩
set_option maxRecDepth 20000 in
theorem cm_L_17 : xCm mL 17 mX10_write 1 := ⟨xT_4 151 rfl rfl, xT_1 18 rfl rfl, ⟨by decide, by decide, by decide +kernel⟩, by decide, Or.inl (xT_4 148 rfl rfl)⟩
set_option maxRecDepth 20000 in
theorem cm_L_18 : xCm mL 18 mX9_wipe 0 := ⟨xT_2 214 rfl rfl, xT_1 1 rfl rfl, ⟨by decide, by decide, by decide +kernel⟩, by decide, Or.inl (xT_2 211 rfl rfl)⟩
set_option maxRecDepth 20000 in
theorem cm_L_22 : xCm mL 22 mX10_wipe 0 := ⟨xT_4 160 rfl rfl, xT_1 18 rfl rfl, ⟨by decide, by decide, by decide +kernel⟩, by decide, Or.inl (xT_4 157 rfl rfl)⟩
set_option maxRecDepth 20000 in
theorem cm_L_23 : xCm mL 23 mX9_fault 0 := ⟨xT_2 218 rfl rfl, xT_1 1 rfl rfl, ⟨by decide, by decide, by decide +kernel⟩, by decide, Or.inl (xT_2 215 rfl rfl)⟩
set_option maxRecDepth 20000 in
theorem cm_L_26 : xCm mL 26 mX10_fault 0 := ⟨xT_4 164 rfl rfl, xT_1 18 rfl rfl, ⟨by decide, by decide, by decide +kernel⟩, by decide, Or.inl (xT_4 161 rfl rfl)⟩
set_option maxRecDepth 20000 in
theorem cm_L_27 : xCm mL 27 mX9_lay 0 := ⟨xT_2 222 rfl rfl, xT_1 1 rfl rfl, ⟨by decide, by decide, by decide +kernel⟩, by decide, Or.inl (xT_2 219 rfl rfl)⟩
set_option maxRecDepth 20000 in
theorem cm_L_30 : xCm mL 30 mX10_lay 0 := ⟨xT_4 190 rfl rfl, xT_1 18 rfl rfl, ⟨by decide, by decide, by decide +kernel⟩, by decide, Or.inl (xT_4 187 rfl rfl)⟩
set_option maxRecDepth 20000 in
theorem cm_L_31 : xCm mL 31 mX9_village 2 := ⟨xT_2 226 rfl rfl, xT_1 1 rfl rfl, ⟨by decide, by decide, by decide +kernel⟩, by decide, Or.inl (xT_2 223 rfl rfl)⟩
set_option maxRecDepth 20000 in
theorem cm_L_35 : xCm mL 35 mX10_village 2 := ⟨xT_4 198 rfl rfl, xT_1 18 rfl rfl, ⟨by decide, by decide, by decide +kernel⟩, by decide, Or.inl (xT_4 195 rfl rfl)⟩
set_option maxRecDepth 20000 in
theorem cm_L_36 : xCm mL 36 mX9_party 2 := ⟨xT_3 9 rfl rfl, xT_1 1 rfl rfl, ⟨by decide, by decide, by decide +kernel⟩, by decide, Or.inl (xT_3 6 rfl rfl)⟩
set_option maxRecDepth 20000 in
theorem cm_L_39 : xCm mL 39 mX10_party 2 := ⟨xT_4 234 rfl rfl, xT_1 18 rfl rfl, ⟨by decide, by decide, by decide +kernel⟩, by decide, Or.inl (xT_4 231 rfl rfl)⟩
set_option maxRecDepth 20000 in
theorem cm_L_40 : xCm mL 40 mX9_far 2 := ⟨xT_3 17 rfl rfl, xT_1 1 rfl rfl, ⟨by decide, by decide, by decide +kernel⟩, by decide, Or.inl (xT_3 14 rfl rfl)⟩
set_option maxRecDepth 20000 in
theorem cm_L_43 : xCm mL 43 mX10_far 2 := ⟨xT_4 238 rfl rfl, xT_1 18 rfl rfl, ⟨by decide, by decide, by decide +kernel⟩, by decide, Or.inl (xT_4 235 rfl rfl)⟩
set_option maxRecDepth 20000 in
theorem cm_L_44 : xCm mL 44 mX9_ask 2 := ⟨xT_3 22 rfl rfl, xT_1 1 rfl rfl, ⟨by decide, by decide, by decide +kernel⟩, by decide, Or.inl (xT_3 19 rfl rfl)⟩
set_option maxRecDepth 20000 in
theorem cm_L_47 : xCm mL 47 mX10_ask 2 := ⟨xT_5 2 rfl rfl, xT_1 18 rfl rfl, ⟨by decide, by decide, by decide +kernel⟩, by decide, Or.inl (xT_4 239 rfl rfl)⟩
set_option maxRecDepth 20000 in
theorem cm_L_48 : xCm mL 48 mX9_check 1 := ⟨xT_3 61 rfl rfl, xT_1 1 rfl rfl, ⟨by decide, by decide, by decide +kernel⟩, by decide, Or.inl (xT_3 58 rfl rfl)⟩
set_option maxRecDepth 20000 in
theorem cm_L_51 : xCm mL 51 mX10_check 1 := ⟨xT_5 22 rfl rfl, xT_1 18 rfl rfl, ⟨by decide, by decide, by decide +kernel⟩, by decide, Or.inl (xT_5 19 rfl rfl)⟩
set_option maxRecDepth 20000 in
theorem cm_L_52 : xCm mL 52 mX9_strike 1 := ⟨xT_3 74 rfl rfl, xT_1 1 rfl rfl, ⟨by decide, by decide, by decide +kernel⟩, by decide, Or.inl (xT_3 71 rfl rfl)⟩
set_option maxRecDepth 20000 in
theorem cm_L_55 : xCm mL 55 mX10_strike 1 := ⟨xT_5 34 rfl rfl, xT_1 18 rfl rfl, ⟨by decide, by decide, by decide +kernel⟩, by decide, Or.inl (xT_5 31 rfl rfl)⟩
set_option maxRecDepth 20000 in
theorem cm_L_56 : xCm mL 56 mX9_undo 0 := ⟨xT_3 82 rfl rfl, xT_1 1 rfl rfl, ⟨by decide, by decide, by decide +kernel⟩, by decide, Or.inl (xT_3 79 rfl rfl)⟩
set_option maxRecDepth 20000 in
theorem cm_L_59 : xCm mL 59 mX10_undo 0 := ⟨xT_5 42 rfl rfl, xT_1 18 rfl rfl, ⟨by decide, by decide, by decide +kernel⟩, by decide, Or.inl (xT_5 39 rfl rfl)⟩
set_option maxRecDepth 20000 in
theorem cm_L_60 : xCm mL 60 mX9_soonest 1 := ⟨xT_3 90 rfl rfl, xT_1 1 rfl rfl, ⟨by decide, by decide, by decide +kernel⟩, by decide, Or.inl (xT_3 87 rfl rfl)⟩
set_option maxRecDepth 20000 in
theorem cm_L_63 : xCm mL 63 mX10_soonest 1 := ⟨xT_5 46 rfl rfl, xT_1 18 rfl rfl, ⟨by decide, by decide, by decide +kernel⟩, by decide, Or.inl (xT_5 43 rfl rfl)⟩
set_option maxRecDepth 20000 in
theorem cm_L_64 : xCm mL 64 mX9_most 1 := ⟨xT_3 140 rfl rfl, xT_1 1 rfl rfl, ⟨by decide, by decide, by decide +kernel⟩, by decide, Or.inl (xT_3 137 rfl rfl)⟩
set_option maxRecDepth 20000 in
theorem cm_L_67 : xCm mL 67 mX10_most 1 := ⟨xT_5 71 rfl rfl, xT_1 18 rfl rfl, ⟨by decide, by decide, by decide +kernel⟩, by decide, Or.inl (xT_5 68 rfl rfl)⟩
set_option maxRecDepth 20000 in
theorem cm_L_68 : xCm mL 68 mX9_least 1 := ⟨xT_3 170 rfl rfl, xT_1 1 rfl rfl, ⟨by decide, by decide, by decide +kernel⟩, by decide, Or.inl (xT_3 167 rfl rfl)⟩
set_option maxRecDepth 20000 in
theorem cm_L_71 : xCm mL 71 mX10_least 1 := ⟨xT_5 100 rfl rfl, xT_1 18 rfl rfl, ⟨by decide, by decide, by decide +kernel⟩, by decide, Or.inl (xT_5 97 rfl rfl)⟩
set_option maxRecDepth 20000 in
theorem cm_L_72 : xCm mL 72 mX9_checks 2 := ⟨xT_3 174 rfl rfl, xT_1 1 rfl rfl, ⟨by decide, by decide, by decide +kernel⟩, by decide, Or.inl (xT_3 171 rfl rfl)⟩
set_option maxRecDepth 20000 in
theorem cm_L_75 : xCm mL 75 mX10_checks 2 := ⟨xT_5 104 rfl rfl, xT_1 18 rfl rfl, ⟨by decide, by decide, by decide +kernel⟩, by decide, Or.inl (xT_5 101 rfl rfl)⟩
set_option maxRecDepth 20000 in
theorem cm_L_76 : xCm mL 76 mX9_see 2 := ⟨xT_3 188 rfl rfl, xT_1 1 rfl rfl, ⟨by decide, by decide, by decide +kernel⟩, by decide, Or.inl (xT_3 185 rfl rfl)⟩
set_option maxRecDepth 20000 in
theorem cm_L_79 : xCm mL 79 mX10_see 2 := ⟨xT_5 112 rfl rfl, xT_1 18 rfl rfl, ⟨by decide, by decide, by decide +kernel⟩, by decide, Or.inl (xT_5 109 rfl rfl)⟩
set_option maxRecDepth 20000 in
theorem cm_L_80 : xCm mL 80 mX9_forget 0 := ⟨xT_3 201 rfl rfl, xT_1 1 rfl rfl, ⟨by decide, by decide, by decide +kernel⟩, by decide, Or.inl (xT_3 198 rfl rfl)⟩
set_option maxRecDepth 20000 in
theorem cm_L_83 : xCm mL 83 mX10_forget 0 := ⟨xT_5 117 rfl rfl, xT_1 18 rfl rfl, ⟨by decide, by decide, by decide +kernel⟩, by decide, Or.inl (xT_5 114 rfl rfl)⟩
set_option maxRecDepth 20000 in
theorem cm_L_84 : xCm mL 84 mX9_kinds 1 := ⟨xT_3 205 rfl rfl, xT_1 1 rfl rfl, ⟨by decide, by decide, by decide +kernel⟩, by decide, Or.inl (xT_3 202 rfl rfl)⟩
set_option maxRecDepth 20000 in
theorem cm_L_87 : xCm mL 87 mX10_kinds 1 := ⟨xT_5 121 rfl rfl, xT_1 18 rfl rfl, ⟨by decide, by decide, by decide +kernel⟩, by decide, Or.inl (xT_5 118 rfl rfl)⟩
set_option maxRecDepth 20000 in
theorem cm_L_88 : xCm mL 88 mX9_copies 0 := ⟨xT_3 213 rfl rfl, xT_1 1 rfl rfl, ⟨by decide, by decide, by decide +kernel⟩, by decide, Or.inl (xT_3 210 rfl rfl)⟩
set_option maxRecDepth 20000 in
theorem cm_L_91 : xCm mL 91 mX10_copies 0 := ⟨xT_5 125 rfl rfl, xT_1 18 rfl rfl, ⟨by decide, by decide, by decide +kernel⟩, by decide, Or.inl (xT_5 122 rfl rfl)⟩
set_option maxRecDepth 20000 in
theorem cm_L_92 : xCm mL 92 mX9_agree 2 := ⟨xT_3 221 rfl rfl, xT_1 1 rfl rfl, ⟨by decide, by decide, by decide +kernel⟩, by decide, Or.inl (xT_3 218 rfl rfl)⟩
set_option maxRecDepth 20000 in
theorem cm_L_95 : xCm mL 95 mX10_agree 2 := ⟨xT_5 129 rfl rfl, xT_1 18 rfl rfl, ⟨by decide, by decide, by decide +kernel⟩, by decide, Or.inl (xT_5 126 rfl rfl)⟩
set_option maxRecDepth 20000 in
theorem cm_L_96 : xCm mL 96 mX9_honest 3 := ⟨xT_3 225 rfl rfl, xT_1 1 rfl rfl, ⟨by decide, by decide, by decide +kernel⟩, by decide, Or.inl (xT_3 222 rfl rfl)⟩
set_option maxRecDepth 20000 in
theorem cm_L_100 : xCm mL 100 mX10_honest 3 := ⟨xT_5 133 rfl rfl, xT_1 18 rfl rfl, ⟨by decide, by decide, by decide +kernel⟩, by decide, Or.inl (xT_5 130 rfl rfl)⟩
set_option maxRecDepth 20000 in
theorem cm_L_101 : xCm mL 101 mX9_shire 3 := ⟨xT_4 8 rfl rfl, xT_1 1 rfl rfl, ⟨by decide, by decide, by decide +kernel⟩, by decide, Or.inl (xT_4 5 rfl rfl)⟩
set_option maxRecDepth 20000 in
theorem cm_L_104 : xCm mL 104 mX10_shire 3 := ⟨xT_5 139 rfl rfl, xT_1 18 rfl rfl, ⟨by decide, by decide, by decide +kernel⟩, by decide, Or.inl (xT_5 136 rfl rfl)⟩
set_option maxRecDepth 20000 in
theorem cm_L_105 : xCm mL 105 mX9_keep 0 := ⟨xT_4 30 rfl rfl, xT_1 1 rfl rfl, ⟨by decide, by decide, by decide +kernel⟩, by decide, Or.inl (xT_4 27 rfl rfl)⟩
set_option maxRecDepth 20000 in
theorem cm_L_108 : xCm mL 108 mX10_keep 0 := ⟨xT_5 153 rfl rfl, xT_1 18 rfl rfl, ⟨by decide, by decide, by decide +kernel⟩, by decide, Or.inl (xT_5 150 rfl rfl)⟩
set_option maxRecDepth 20000 in
theorem cm_L_109 : xCm mL 109 mX9_back 0 := ⟨xT_4 35 rfl rfl, xT_1 1 rfl rfl, ⟨by decide, by decide, by decide +kernel⟩, by decide, Or.inl (xT_4 32 rfl rfl)⟩
set_option maxRecDepth 20000 in
theorem cm_L_112 : xCm mL 112 mX10_back 0 := ⟨xT_5 157 rfl rfl, xT_1 18 rfl rfl, ⟨by decide, by decide, by decide +kernel⟩, by decide, Or.inl (xT_5 154 rfl rfl)⟩
set_option maxRecDepth 20000 in
theorem cm_L_113 : xCm mL 113 mX9_count 1 := ⟨xT_4 39 rfl rfl, xT_1 1 rfl rfl, ⟨by decide, by decide, by decide +kernel⟩, by decide, Or.inl (xT_4 36 rfl rfl)⟩
set_option maxRecDepth 20000 in
theorem cm_L_116 : xCm mL 116 mX10_count 1 := ⟨xT_5 161 rfl rfl, xT_1 18 rfl rfl, ⟨by decide, by decide, by decide +kernel⟩, by decide, Or.inl (xT_5 158 rfl rfl)⟩
end
section
theorem eX0_init_0 : x_aload mX0_init 0 0 1 := Or.inl ⟨0, by decide +kernel, rfl, rfl⟩
theorem eX0_init_4 : x_aload mX0_init 4 0 5 := Or.inl ⟨0, by decide +kernel, rfl, rfl⟩
theorem eX0_init_5 : xK mX0_init 5 (nI 7) 7 := Or.inr (Or.inl (⟨7, by decide +kernel, by decide, rfl⟩))
set_option maxRecDepth 20000 in
theorem eX0_init_9 : xPF mX0_init 9 0 1 (.array .int) 12 := ⟨9, _, by decide +kernel, rfl, fl_X0_9, fun _ => ⟨rfl, ⟨_, rfl, rfl⟩, _, rfl, xT_1 121 rfl rfl⟩⟩
theorem eX0_init_12 : x_aload mX0_init 12 0 13 := Or.inl ⟨0, by decide +kernel, rfl, rfl⟩
theorem eX0_init_13 : xK mX0_init 13 (nI 7) 15 := Or.inr (Or.inl (⟨7, by decide +kernel, by decide, rfl⟩))
set_option maxRecDepth 20000 in
theorem eX0_init_17 : xPF mX0_init 17 0 2 (.array .int) 20 := ⟨15, _, by decide +kernel, rfl, fl_X0_15, fun _ => ⟨rfl, ⟨_, rfl, rfl⟩, _, rfl, xT_1 123 rfl rfl⟩⟩
theorem eX0_init_20 : x_aload mX0_init 20 0 21 := Or.inl ⟨0, by decide +kernel, rfl, rfl⟩
theorem eX0_init_21 : xK mX0_init 21 (nI 3) 22 := Or.inl (⟨3, by decide +kernel, by decide, rfl⟩)
set_option maxRecDepth 20000 in
theorem eX0_init_24 : xPF mX0_init 24 0 3 (.array .int) 27 := ⟨18, _, by decide +kernel, rfl, fl_X0_18, fun _ => ⟨rfl, ⟨_, rfl, rfl⟩, _, rfl, xT_1 125 rfl rfl⟩⟩
theorem eX0_init_27 : x_aload mX0_init 27 0 28 := Or.inl ⟨0, by decide +kernel, rfl, rfl⟩
theorem eX0_init_28 : xK mX0_init 28 (nI 3) 29 := Or.inl (⟨3, by decide +kernel, by decide, rfl⟩)
set_option maxRecDepth 20000 in
theorem eX0_init_31 : xPF mX0_init 31 0 4 (.array .int) 34 := ⟨21, _, by decide +kernel, rfl, fl_X0_21, fun _ => ⟨rfl, ⟨_, rfl, rfl⟩, _, rfl, xT_1 128 rfl rfl⟩⟩
theorem eX0_init_34 : x_aload mX0_init 34 0 35 := Or.inl ⟨0, by decide +kernel, rfl, rfl⟩
theorem eX0_init_35 : x_aload mX0_init 35 1 36 := Or.inl ⟨1, by decide +kernel, rfl, rfl⟩
set_option maxRecDepth 20000 in
theorem eX0_init_36 : xPF mX0_init 36 0 0 (.object "NotAnOx$Land") 39 := ⟨24, _, by decide +kernel, rfl, fl_X0_24, fun _ => ⟨rfl, ⟨_, rfl, rfl⟩, _, rfl, xT_1 120 rfl rfl⟩⟩
theorem eX0_init_39 : xD mX0_init 39 (.return_) 1 40 := ⟨by decide +kernel, rfl⟩
theorem eX0_open_0 : x_aload mX0_open 0 0 1 := Or.inl ⟨0, by decide +kernel, rfl, rfl⟩
theorem eX0_open_1 : xK mX0_open 1 (nI 0) 2 := Or.inl (⟨0, by decide +kernel, by decide, rfl⟩)
theorem eX0_open_2 : xPF mX0_open 2 0 5 (.int) 5 := ⟨28, _, by decide +kernel, rfl, fl_X0_28, fun h => by cases h⟩
theorem eX0_open_5 : x_aload mX0_open 5 0 6 := Or.inl ⟨0, by decide +kernel, rfl, rfl⟩
theorem eX0_open_6 : xK mX0_open 6 (nI 0) 7 := Or.inl (⟨0, by decide +kernel, by decide, rfl⟩)
theorem eX0_open_7 : xPF mX0_open 7 0 6 (.int) 10 := ⟨32, _, by decide +kernel, rfl, fl_X0_32, fun h => by cases h⟩
theorem eX0_open_10 : x_aload mX0_open 10 0 11 := Or.inl ⟨0, by decide +kernel, rfl, rfl⟩
theorem eX0_open_11 : xGF mX0_open 11 0 0 14 := ⟨24, _, _, by decide +kernel, rfl, fl_X0_24⟩
theorem eX0_open_14 : xGF mX0_open 14 2 1 17 := ⟨35, _, _, by decide +kernel, rfl, fl_X0_35⟩
theorem eX0_open_17 : xK mX0_open 17 (nI 0) 18 := Or.inl (⟨0, by decide +kernel, by decide, rfl⟩)
theorem eX0_open_18 : x_aload mX0_open 18 0 19 := Or.inl ⟨0, by decide +kernel, rfl, rfl⟩
theorem eX0_open_19 : xGF mX0_open 19 0 1 22 := ⟨9, _, _, by decide +kernel, rfl, fl_X0_9⟩
theorem eX0_open_22 : xK mX0_open 22 (nI 0) 23 := Or.inl (⟨0, by decide +kernel, by decide, rfl⟩)
theorem eX0_open_23 : xK mX0_open 23 (nI 7) 25 := Or.inr (Or.inl (⟨7, by decide +kernel, by decide, rfl⟩))
theorem eX0_open_28 : x_aload mX0_open 28 0 29 := Or.inl ⟨0, by decide +kernel, rfl, rfl⟩
theorem eX0_open_29 : xGF mX0_open 29 0 2 32 := ⟨15, _, _, by decide +kernel, rfl, fl_X0_15⟩
theorem eX0_open_32 : xK mX0_open 32 (nI 0) 33 := Or.inl (⟨0, by decide +kernel, by decide, rfl⟩)
set_option maxRecDepth 20000 in
theorem eX0_open_33 : xCS mX0_open 33 mJ7_fill_53178 2 36 := ⟨44, by decide +kernel, rfl, ⟨cm_X0_44.1, cm_X0_44.2.1, cm_X0_44.2.2.1, cm_X0_44.2.2.2.1, cm_X0_44.2.2.2.2⟩, xT_2 102 rfl rfl⟩
theorem eX0_open_36 : x_aload mX0_open 36 0 37 := Or.inl ⟨0, by decide +kernel, rfl, rfl⟩
theorem eX0_open_37 : xGF mX0_open 37 0 0 40 := ⟨24, _, _, by decide +kernel, rfl, fl_X0_24⟩
theorem eX0_open_40 : xGF mX0_open 40 2 2 43 := ⟨50, _, _, by decide +kernel, rfl, fl_X0_50⟩
theorem eX0_open_43 : xK mX0_open 43 (nI 0) 44 := Or.inl (⟨0, by decide +kernel, by decide, rfl⟩)
theorem eX0_open_44 : x_aload mX0_open 44 0 45 := Or.inl ⟨0, by decide +kernel, rfl, rfl⟩
theorem eX0_open_45 : xGF mX0_open 45 0 3 48 := ⟨18, _, _, by decide +kernel, rfl, fl_X0_18⟩
theorem eX0_open_48 : xK mX0_open 48 (nI 0) 49 := Or.inl (⟨0, by decide +kernel, by decide, rfl⟩)
theorem eX0_open_49 : xK mX0_open 49 (nI 3) 50 := Or.inl (⟨3, by decide +kernel, by decide, rfl⟩)
theorem eX0_open_53 : x_aload mX0_open 53 0 54 := Or.inl ⟨0, by decide +kernel, rfl, rfl⟩
theorem eX0_open_54 : xGF mX0_open 54 0 4 57 := ⟨21, _, _, by decide +kernel, rfl, fl_X0_21⟩
theorem eX0_open_57 : xK mX0_open 57 (nI 0) 58 := Or.inl (⟨0, by decide +kernel, by decide, rfl⟩)
set_option maxRecDepth 20000 in
theorem eX0_open_58 : xCS mX0_open 58 mJ7_fill_53178 2 61 := ⟨44, by decide +kernel, rfl, ⟨cm_X0_44.1, cm_X0_44.2.1, cm_X0_44.2.2.1, cm_X0_44.2.2.2.1, cm_X0_44.2.2.2.2⟩, xT_2 102 rfl rfl⟩
theorem eX0_open_61 : xD mX0_open 61 (.return_) 1 62 := ⟨by decide +kernel, rfl⟩
theorem eX0_copyFrom_0 : x_aload mX0_copyFrom 0 0 1 := Or.inl ⟨0, by decide +kernel, rfl, rfl⟩
theorem eX0_copyFrom_1 : x_aload mX0_copyFrom 1 1 2 := Or.inl ⟨1, by decide +kernel, rfl, rfl⟩
set_option maxRecDepth 20000 in
theorem eX0_copyFrom_2 : xCV mX0_copyFrom 2 mX0_copyEntries 1 0 5 := ⟨53, by decide +kernel, rfl, ⟨cm_X0_53.1, cm_X0_53.2.1, cm_X0_53.2.2.1, cm_X0_53.2.2.2.1, cm_X0_53.2.2.2.2⟩, xT_3 46 rfl rfl, xT_3 47 rfl rfl, _, rfl, rfl⟩
theorem eX0_copyFrom_5 : x_aload mX0_copyFrom 5 1 6 := Or.inl ⟨1, by decide +kernel, rfl, rfl⟩
theorem eX0_copyFrom_6 : xGF mX0_copyFrom 6 0 3 9 := ⟨18, _, _, by decide +kernel, rfl, fl_X0_18⟩
theorem eX0_copyFrom_9 : xK mX0_copyFrom 9 (nI 0) 10 := Or.inl (⟨0, by decide +kernel, by decide, rfl⟩)
theorem eX0_copyFrom_10 : x_aload mX0_copyFrom 10 0 11 := Or.inl ⟨0, by decide +kernel, rfl, rfl⟩
theorem eX0_copyFrom_11 : xGF mX0_copyFrom 11 0 3 14 := ⟨18, _, _, by decide +kernel, rfl, fl_X0_18⟩
theorem eX0_copyFrom_14 : xK mX0_copyFrom 14 (nI 0) 15 := Or.inl (⟨0, by decide +kernel, by decide, rfl⟩)
theorem eX0_copyFrom_15 : xK mX0_copyFrom 15 (nI 3) 16 := Or.inl (⟨3, by decide +kernel, by decide, rfl⟩)
theorem eX0_copyFrom_19 : x_aload mX0_copyFrom 19 1 20 := Or.inl ⟨1, by decide +kernel, rfl, rfl⟩
theorem eX0_copyFrom_20 : xGF mX0_copyFrom 20 0 4 23 := ⟨21, _, _, by decide +kernel, rfl, fl_X0_21⟩
theorem eX0_copyFrom_23 : xK mX0_copyFrom 23 (nI 0) 24 := Or.inl (⟨0, by decide +kernel, by decide, rfl⟩)
theorem eX0_copyFrom_24 : x_aload mX0_copyFrom 24 0 25 := Or.inl ⟨0, by decide +kernel, rfl, rfl⟩
theorem eX0_copyFrom_25 : xGF mX0_copyFrom 25 0 4 28 := ⟨21, _, _, by decide +kernel, rfl, fl_X0_21⟩
theorem eX0_copyFrom_28 : xK mX0_copyFrom 28 (nI 0) 29 := Or.inl (⟨0, by decide +kernel, by decide, rfl⟩)
theorem eX0_copyFrom_29 : xK mX0_copyFrom 29 (nI 3) 30 := Or.inl (⟨3, by decide +kernel, by decide, rfl⟩)
theorem eX0_copyFrom_33 : xD mX0_copyFrom 33 (.return_) 1 34 := ⟨by decide +kernel, rfl⟩
theorem eX0_copyEntries_0 : x_aload mX0_copyEntries 0 0 1 := Or.inl ⟨0, by decide +kernel, rfl, rfl⟩
theorem eX0_copyEntries_1 : x_aload mX0_copyEntries 1 1 2 := Or.inl ⟨1, by decide +kernel, rfl, rfl⟩
theorem eX0_copyEntries_2 : xGF mX0_copyEntries 2 0 5 5 := ⟨28, _, _, by decide +kernel, rfl, fl_X0_28⟩
theorem eX0_copyEntries_5 : xPF mX0_copyEntries 5 0 5 (.int) 8 := ⟨28, _, by decide +kernel, rfl, fl_X0_28, fun h => by cases h⟩
theorem eX0_copyEntries_8 : x_aload mX0_copyEntries 8 0 9 := Or.inl ⟨0, by decide +kernel, rfl, rfl⟩
theorem eX0_copyEntries_9 : x_aload mX0_copyEntries 9 1 10 := Or.inl ⟨1, by decide +kernel, rfl, rfl⟩
theorem eX0_copyEntries_10 : xGF mX0_copyEntries 10 0 6 13 := ⟨32, _, _, by decide +kernel, rfl, fl_X0_32⟩
theorem eX0_copyEntries_13 : xPF mX0_copyEntries 13 0 6 (.int) 16 := ⟨32, _, by decide +kernel, rfl, fl_X0_32, fun h => by cases h⟩
theorem eX0_copyEntries_16 : x_aload mX0_copyEntries 16 1 17 := Or.inl ⟨1, by decide +kernel, rfl, rfl⟩
theorem eX0_copyEntries_17 : xGF mX0_copyEntries 17 0 1 20 := ⟨9, _, _, by decide +kernel, rfl, fl_X0_9⟩
theorem eX0_copyEntries_20 : xK mX0_copyEntries 20 (nI 0) 21 := Or.inl (⟨0, by decide +kernel, by decide, rfl⟩)
theorem eX0_copyEntries_21 : x_aload mX0_copyEntries 21 0 22 := Or.inl ⟨0, by decide +kernel, rfl, rfl⟩
theorem eX0_copyEntries_22 : xGF mX0_copyEntries 22 0 1 25 := ⟨9, _, _, by decide +kernel, rfl, fl_X0_9⟩
theorem eX0_copyEntries_25 : xK mX0_copyEntries 25 (nI 0) 26 := Or.inl (⟨0, by decide +kernel, by decide, rfl⟩)
theorem eX0_copyEntries_26 : xK mX0_copyEntries 26 (nI 7) 28 := Or.inr (Or.inl (⟨7, by decide +kernel, by decide, rfl⟩))
theorem eX0_copyEntries_31 : x_aload mX0_copyEntries 31 1 32 := Or.inl ⟨1, by decide +kernel, rfl, rfl⟩
theorem eX0_copyEntries_32 : xGF mX0_copyEntries 32 0 2 35 := ⟨15, _, _, by decide +kernel, rfl, fl_X0_15⟩
theorem eX0_copyEntries_35 : xK mX0_copyEntries 35 (nI 0) 36 := Or.inl (⟨0, by decide +kernel, by decide, rfl⟩)
theorem eX0_copyEntries_36 : x_aload mX0_copyEntries 36 0 37 := Or.inl ⟨0, by decide +kernel, rfl, rfl⟩
theorem eX0_copyEntries_37 : xGF mX0_copyEntries 37 0 2 40 := ⟨15, _, _, by decide +kernel, rfl, fl_X0_15⟩
theorem eX0_copyEntries_40 : xK mX0_copyEntries 40 (nI 0) 41 := Or.inl (⟨0, by decide +kernel, by decide, rfl⟩)
theorem eX0_copyEntries_41 : xK mX0_copyEntries 41 (nI 7) 43 := Or.inr (Or.inl (⟨7, by decide +kernel, by decide, rfl⟩))
theorem eX0_copyEntries_46 : xD mX0_copyEntries 46 (.return_) 1 47 := ⟨by decide +kernel, rfl⟩
theorem eX0_holds_0 : x_aload mX0_holds 0 0 1 := Or.inl ⟨0, by decide +kernel, rfl, rfl⟩
theorem eX0_holds_1 : xGF mX0_holds 1 0 5 4 := ⟨28, _, _, by decide +kernel, rfl, fl_X0_28⟩
theorem eX0_holds_4 : x_iload mX0_holds 4 1 5 := Or.inl ⟨1, by decide +kernel, rfl, rfl⟩
theorem eX0_holds_5 : xD mX0_holds 5 (.ishr) 1 6 := ⟨by decide +kernel, rfl⟩
theorem eX0_holds_6 : xK mX0_holds 6 (nI 1) 7 := Or.inl (⟨1, by decide +kernel, by decide, rfl⟩)
theorem eX0_holds_7 : xD mX0_holds 7 (.iand) 1 8 := ⟨by decide +kernel, rfl⟩
theorem eX0_holds_8 : xJ mX0_holds 8 (.ifCond .eq) 15 11 := ⟨(7), by decide +kernel, by decide, rfl⟩
theorem eX0_holds_11 : xK mX0_holds 11 (nI 1) 12 := Or.inl (⟨1, by decide +kernel, by decide, rfl⟩)
theorem eX0_holds_12 : xJ mX0_holds 12 (.goto) 16 15 := ⟨(4), by decide +kernel, by decide, rfl⟩
theorem eX0_holds_15 : xK mX0_holds 15 (nI 0) 16 := Or.inl (⟨0, by decide +kernel, by decide, rfl⟩)
theorem eX0_holds_16 : xD mX0_holds 16 (.ireturn) 1 17 := ⟨by decide +kernel, rfl⟩
theorem eX0_isChecked_0 : x_aload mX0_isChecked 0 0 1 := Or.inl ⟨0, by decide +kernel, rfl, rfl⟩
theorem eX0_isChecked_1 : xGF mX0_isChecked 1 0 6 4 := ⟨32, _, _, by decide +kernel, rfl, fl_X0_32⟩
theorem eX0_isChecked_4 : x_iload mX0_isChecked 4 1 5 := Or.inl ⟨1, by decide +kernel, rfl, rfl⟩
theorem eX0_isChecked_5 : xD mX0_isChecked 5 (.ishr) 1 6 := ⟨by decide +kernel, rfl⟩
theorem eX0_isChecked_6 : xK mX0_isChecked 6 (nI 1) 7 := Or.inl (⟨1, by decide +kernel, by decide, rfl⟩)
theorem eX0_isChecked_7 : xD mX0_isChecked 7 (.iand) 1 8 := ⟨by decide +kernel, rfl⟩
theorem eX0_isChecked_8 : xJ mX0_isChecked 8 (.ifCond .eq) 15 11 := ⟨(7), by decide +kernel, by decide, rfl⟩
theorem eX0_isChecked_11 : xK mX0_isChecked 11 (nI 1) 12 := Or.inl (⟨1, by decide +kernel, by decide, rfl⟩)
theorem eX0_isChecked_12 : xJ mX0_isChecked 12 (.goto) 16 15 := ⟨(4), by decide +kernel, by decide, rfl⟩
theorem eX0_isChecked_15 : xK mX0_isChecked 15 (nI 0) 16 := Or.inl (⟨0, by decide +kernel, by decide, rfl⟩)
theorem eX0_isChecked_16 : xD mX0_isChecked 16 (.ireturn) 1 17 := ⟨by decide +kernel, rfl⟩
theorem eX0_canBeChecked_0 : x_aload mX0_canBeChecked 0 0 1 := Or.inl ⟨0, by decide +kernel, rfl, rfl⟩
theorem eX0_canBeChecked_1 : x_iload mX0_canBeChecked 1 1 2 := Or.inl ⟨1, by decide +kernel, rfl, rfl⟩
set_option maxRecDepth 20000 in
theorem eX0_canBeChecked_2 : xCV mX0_canBeChecked 2 mX0_holds 1 0 5 := ⟨57, by decide +kernel, rfl, ⟨cm_X0_57.1, cm_X0_57.2.1, cm_X0_57.2.2.1, cm_X0_57.2.2.2.1, cm_X0_57.2.2.2.2⟩, xT_2 232 rfl rfl, xT_2 233 rfl rfl, _, rfl, rfl⟩
theorem eX0_canBeChecked_5 : xJ mX0_canBeChecked 5 (.ifCond .eq) 20 8 := ⟨(15), by decide +kernel, by decide, rfl⟩
theorem eX0_canBeChecked_8 : x_aload mX0_canBeChecked 8 0 9 := Or.inl ⟨0, by decide +kernel, rfl, rfl⟩
theorem eX0_canBeChecked_9 : x_iload mX0_canBeChecked 9 1 10 := Or.inl ⟨1, by decide +kernel, rfl, rfl⟩
set_option maxRecDepth 20000 in
theorem eX0_canBeChecked_10 : xCV mX0_canBeChecked 10 mX0_isChecked 1 0 13 := ⟨61, by decide +kernel, rfl, ⟨cm_X0_61.1, cm_X0_61.2.1, cm_X0_61.2.2.1, cm_X0_61.2.2.2.1, cm_X0_61.2.2.2.2⟩, xT_2 236 rfl rfl, xT_2 237 rfl rfl, _, rfl, rfl⟩
theorem eX0_canBeChecked_13 : xJ mX0_canBeChecked 13 (.ifCond .ne) 20 16 := ⟨(7), by decide +kernel, by decide, rfl⟩
theorem eX0_canBeChecked_16 : xK mX0_canBeChecked 16 (nI 1) 17 := Or.inl (⟨1, by decide +kernel, by decide, rfl⟩)
theorem eX0_canBeChecked_17 : xJ mX0_canBeChecked 17 (.goto) 21 20 := ⟨(4), by decide +kernel, by decide, rfl⟩
theorem eX0_canBeChecked_20 : xK mX0_canBeChecked 20 (nI 0) 21 := Or.inl (⟨0, by decide +kernel, by decide, rfl⟩)
theorem eX0_canBeChecked_21 : xD mX0_canBeChecked 21 (.ireturn) 1 22 := ⟨by decide +kernel, rfl⟩
theorem eX0_canBeAsked_0 : x_aload mX0_canBeAsked 0 0 1 := Or.inl ⟨0, by decide +kernel, rfl, rfl⟩
theorem eX0_canBeAsked_1 : x_iload mX0_canBeAsked 1 2 2 := Or.inl ⟨2, by decide +kernel, rfl, rfl⟩
set_option maxRecDepth 20000 in
theorem eX0_canBeAsked_2 : xCV mX0_canBeAsked 2 mX0_holds 1 0 5 := ⟨57, by decide +kernel, rfl, ⟨cm_X0_57.1, cm_X0_57.2.1, cm_X0_57.2.2.1, cm_X0_57.2.2.2.1, cm_X0_57.2.2.2.2⟩, xT_2 232 rfl rfl, xT_2 233 rfl rfl, _, rfl, rfl⟩
theorem eX0_canBeAsked_5 : xJ mX0_canBeAsked 5 (.ifCond .ne) 33 8 := ⟨(28), by decide +kernel, by decide, rfl⟩
theorem eX0_canBeAsked_8 : x_aload mX0_canBeAsked 8 0 9 := Or.inl ⟨0, by decide +kernel, rfl, rfl⟩
theorem eX0_canBeAsked_9 : xGF mX0_canBeAsked 9 0 0 12 := ⟨24, _, _, by decide +kernel, rfl, fl_X0_24⟩
theorem eX0_canBeAsked_12 : xGF mX0_canBeAsked 12 2 4 15 := ⟨64, _, _, by decide +kernel, rfl, fl_X0_64⟩
theorem eX0_canBeAsked_15 : x_aload mX0_canBeAsked 15 0 16 := Or.inl ⟨0, by decide +kernel, rfl, rfl⟩
theorem eX0_canBeAsked_16 : xGF mX0_canBeAsked 16 0 3 19 := ⟨18, _, _, by decide +kernel, rfl, fl_X0_18⟩
theorem eX0_canBeAsked_19 : x_iload mX0_canBeAsked 19 1 20 := Or.inl ⟨1, by decide +kernel, rfl, rfl⟩
theorem eX0_canBeAsked_20 : xD mX0_canBeAsked 20 (.iaload) 1 21 := ⟨by decide +kernel, rfl⟩
theorem eX0_canBeAsked_21 : xD mX0_canBeAsked 21 (.aaload) 1 22 := ⟨by decide +kernel, rfl⟩
theorem eX0_canBeAsked_22 : x_iload mX0_canBeAsked 22 2 23 := Or.inl ⟨2, by decide +kernel, rfl, rfl⟩
theorem eX0_canBeAsked_23 : xD mX0_canBeAsked 23 (.iaload) 1 24 := ⟨by decide +kernel, rfl⟩
set_option maxRecDepth 20000 in
theorem eX0_canBeAsked_24 : xK mX0_canBeAsked 24 (nI 1000000) 26 := Or.inr (Or.inr (Or.inr (Or.inl (⟨68, by decide +kernel, xT_3 28 rfl rfl, rfl⟩))))
theorem eX0_canBeAsked_26 : xJ mX0_canBeAsked 26 (.if_icmp .ge) 33 29 := ⟨(7), by decide +kernel, by decide, rfl⟩
theorem eX0_canBeAsked_29 : xK mX0_canBeAsked 29 (nI 1) 30 := Or.inl (⟨1, by decide +kernel, by decide, rfl⟩)
theorem eX0_canBeAsked_30 : xJ mX0_canBeAsked 30 (.goto) 34 33 := ⟨(4), by decide +kernel, by decide, rfl⟩
theorem eX0_canBeAsked_33 : xK mX0_canBeAsked 33 (nI 0) 34 := Or.inl (⟨0, by decide +kernel, by decide, rfl⟩)
theorem eX0_canBeAsked_34 : xD mX0_canBeAsked 34 (.ireturn) 1 35 := ⟨by decide +kernel, rfl⟩
theorem eX0_rest_0 : xK mX0_rest 0 (nI 1) 1 := Or.inl (⟨1, by decide +kernel, by decide, rfl⟩)
theorem eX0_rest_1 : x_aload mX0_rest 1 0 2 := Or.inl ⟨0, by decide +kernel, rfl, rfl⟩
theorem eX0_rest_2 : xGF mX0_rest 2 0 0 5 := ⟨24, _, _, by decide +kernel, rfl, fl_X0_24⟩
theorem eX0_rest_5 : xGF mX0_rest 5 2 5 8 := ⟨69, _, _, by decide +kernel, rfl, fl_X0_69⟩
theorem eX0_rest_8 : xD mX0_rest 8 (.ishl) 1 9 := ⟨by decide +kernel, rfl⟩
theorem eX0_rest_9 : xK mX0_rest 9 (nI 1) 10 := Or.inl (⟨1, by decide +kernel, by decide, rfl⟩)
theorem eX0_rest_10 : xD mX0_rest 10 (.isub) 1 11 := ⟨by decide +kernel, rfl⟩
theorem eX0_rest_11 : x_aload mX0_rest 11 0 12 := Or.inl ⟨0, by decide +kernel, rfl, rfl⟩
theorem eX0_rest_12 : xGF mX0_rest 12 0 5 15 := ⟨28, _, _, by decide +kernel, rfl, fl_X0_28⟩
theorem eX0_rest_15 : xK mX0_rest 15 ((-1)) 16 := Or.inl (⟨(-1), by decide +kernel, by decide, rfl⟩)
theorem eX0_rest_16 : xD mX0_rest 16 (.ixor) 1 17 := ⟨by decide +kernel, rfl⟩
theorem eX0_rest_17 : xD mX0_rest 17 (.iand) 1 18 := ⟨by decide +kernel, rfl⟩
theorem eX0_rest_18 : xD mX0_rest 18 (.ireturn) 1 19 := ⟨by decide +kernel, rfl⟩
theorem eX0_restSize_0 : x_aload mX0_restSize 0 0 1 := Or.inl ⟨0, by decide +kernel, rfl, rfl⟩
set_option maxRecDepth 20000 in
theorem eX0_restSize_1 : xCV mX0_restSize 1 mX0_rest 0 0 4 := ⟨72, by decide +kernel, rfl, ⟨cm_X0_72.1, cm_X0_72.2.1, cm_X0_72.2.2.1, cm_X0_72.2.2.2.1, cm_X0_72.2.2.2.2⟩, xT_3 96 rfl rfl, xT_3 97 rfl rfl, _, rfl, rfl⟩
set_option maxRecDepth 20000 in
theorem eX0_restSize_4 : xCS mX0_restSize 4 mJ6_bitCount_0f7a4 1 7 := ⟨76, by decide +kernel, rfl, ⟨cm_X0_76.1, cm_X0_76.2.1, cm_X0_76.2.2.1, cm_X0_76.2.2.2.1, cm_X0_76.2.2.2.2⟩, xT_3 105 rfl rfl⟩
theorem eX0_restSize_7 : xD mX0_restSize 7 (.ireturn) 1 8 := ⟨by decide +kernel, rfl⟩
theorem eX0_sworn_0 : x_aload mX0_sworn 0 0 1 := Or.inl ⟨0, by decide +kernel, rfl, rfl⟩
theorem eX0_sworn_1 : xGF mX0_sworn 1 0 0 4 := ⟨24, _, _, by decide +kernel, rfl, fl_X0_24⟩
theorem eX0_sworn_4 : xGF mX0_sworn 4 2 3 7 := ⟨82, _, _, by decide +kernel, rfl, fl_X0_82⟩
theorem eX0_sworn_7 : x_iload mX0_sworn 7 1 8 := Or.inl ⟨1, by decide +kernel, rfl, rfl⟩
theorem eX0_sworn_8 : xD mX0_sworn 8 (.iaload) 1 9 := ⟨by decide +kernel, rfl⟩
theorem eX0_sworn_9 : x_aload mX0_sworn 9 0 10 := Or.inl ⟨0, by decide +kernel, rfl, rfl⟩
theorem eX0_sworn_10 : xGF mX0_sworn 10 0 5 13 := ⟨28, _, _, by decide +kernel, rfl, fl_X0_28⟩
theorem eX0_sworn_13 : xD mX0_sworn 13 (.iand) 1 14 := ⟨by decide +kernel, rfl⟩
theorem eX0_sworn_14 : x_istore mX0_sworn 14 4 16 := Or.inr ⟨by decide +kernel, rfl⟩
theorem eX0_sworn_16 : x_iload mX0_sworn 16 4 18 := Or.inr ⟨by decide +kernel, rfl⟩
theorem eX0_sworn_18 : x_iload mX0_sworn 18 3 19 := Or.inl ⟨3, by decide +kernel, rfl, rfl⟩
theorem eX0_sworn_19 : xD mX0_sworn 19 (.iand) 1 20 := ⟨by decide +kernel, rfl⟩
theorem eX0_sworn_20 : xJ mX0_sworn 20 (.ifCond .eq) 27 23 := ⟨(7), by decide +kernel, by decide, rfl⟩
theorem eX0_sworn_23 : xK mX0_sworn 23 (nI 1) 24 := Or.inl (⟨1, by decide +kernel, by decide, rfl⟩)
theorem eX0_sworn_24 : xJ mX0_sworn 24 (.goto) 28 27 := ⟨(4), by decide +kernel, by decide, rfl⟩
theorem eX0_sworn_27 : xK mX0_sworn 27 (nI 0) 28 := Or.inl (⟨0, by decide +kernel, by decide, rfl⟩)
theorem eX0_sworn_28 : x_istore mX0_sworn 28 5 30 := Or.inr ⟨by decide +kernel, rfl⟩
theorem eX0_sworn_30 : x_iload mX0_sworn 30 2 31 := Or.inl ⟨2, by decide +kernel, rfl, rfl⟩
def tX0_sworn_31 : Int → Nat := fun v => match v with | 1 => 60 | 2 => 83 | 3 => 99 | 4 => 124 | _ => 0
theorem eX0_sworn_31 : xTS mX0_sworn 31 1 4 tX0_sworn_31 140 := ⟨109, #[29, 52, 68, 93], 29, by decide +kernel, by decide, by decide +kernel⟩
theorem eX0_sworn_60 : x_iload mX0_sworn 60 5 62 := Or.inr ⟨by decide +kernel, rfl⟩
theorem eX0_sworn_62 : xJ mX0_sworn 62 (.ifCond .eq) 74 65 := ⟨(12), by decide +kernel, by decide, rfl⟩
theorem eX0_sworn_65 : x_aload mX0_sworn 65 0 66 := Or.inl ⟨0, by decide +kernel, rfl, rfl⟩
theorem eX0_sworn_66 : xGF mX0_sworn 66 0 1 69 := ⟨9, _, _, by decide +kernel, rfl, fl_X0_9⟩
theorem eX0_sworn_69 : x_iload mX0_sworn 69 1 70 := Or.inl ⟨1, by decide +kernel, rfl, rfl⟩
theorem eX0_sworn_70 : xD mX0_sworn 70 (.iaload) 1 71 := ⟨by decide +kernel, rfl⟩
theorem eX0_sworn_71 : xJ mX0_sworn 71 (.goto) 82 74 := ⟨(11), by decide +kernel, by decide, rfl⟩
theorem eX0_sworn_74 : x_aload mX0_sworn 74 0 75 := Or.inl ⟨0, by decide +kernel, rfl, rfl⟩
theorem eX0_sworn_75 : xGF mX0_sworn 75 0 1 78 := ⟨9, _, _, by decide +kernel, rfl, fl_X0_9⟩
theorem eX0_sworn_78 : x_iload mX0_sworn 78 1 79 := Or.inl ⟨1, by decide +kernel, rfl, rfl⟩
theorem eX0_sworn_79 : xD mX0_sworn 79 (.iaload) 1 80 := ⟨by decide +kernel, rfl⟩
theorem eX0_sworn_80 : xK mX0_sworn 80 (nI 2) 81 := Or.inl (⟨2, by decide +kernel, by decide, rfl⟩)
theorem eX0_sworn_81 : xD mX0_sworn 81 (.idiv) 1 82 := ⟨by decide +kernel, rfl⟩
theorem eX0_sworn_82 : xD mX0_sworn 82 (.ireturn) 1 83 := ⟨by decide +kernel, rfl⟩
theorem eX0_sworn_83 : x_iload mX0_sworn 83 5 85 := Or.inr ⟨by decide +kernel, rfl⟩
theorem eX0_sworn_85 : xJ mX0_sworn 85 (.ifCond .eq) 97 88 := ⟨(12), by decide +kernel, by decide, rfl⟩
theorem eX0_sworn_88 : x_aload mX0_sworn 88 0 89 := Or.inl ⟨0, by decide +kernel, rfl, rfl⟩
theorem eX0_sworn_89 : xGF mX0_sworn 89 0 1 92 := ⟨9, _, _, by decide +kernel, rfl, fl_X0_9⟩
theorem eX0_sworn_92 : x_iload mX0_sworn 92 1 93 := Or.inl ⟨1, by decide +kernel, rfl, rfl⟩
theorem eX0_sworn_93 : xD mX0_sworn 93 (.iaload) 1 94 := ⟨by decide +kernel, rfl⟩
theorem eX0_sworn_94 : xJ mX0_sworn 94 (.goto) 98 97 := ⟨(4), by decide +kernel, by decide, rfl⟩
theorem eX0_sworn_97 : xK mX0_sworn 97 (nI 0) 98 := Or.inl (⟨0, by decide +kernel, by decide, rfl⟩)
theorem eX0_sworn_98 : xD mX0_sworn 98 (.ireturn) 1 99 := ⟨by decide +kernel, rfl⟩
theorem eX0_sworn_99 : x_iload mX0_sworn 99 4 101 := Or.inr ⟨by decide +kernel, rfl⟩
theorem eX0_sworn_101 : xJ mX0_sworn 101 (.ifCond .eq) 117 104 := ⟨(16), by decide +kernel, by decide, rfl⟩
theorem eX0_sworn_104 : x_aload mX0_sworn 104 0 105 := Or.inl ⟨0, by decide +kernel, rfl, rfl⟩
theorem eX0_sworn_105 : xGF mX0_sworn 105 0 2 108 := ⟨15, _, _, by decide +kernel, rfl, fl_X0_15⟩
theorem eX0_sworn_108 : x_iload mX0_sworn 108 4 110 := Or.inr ⟨by decide +kernel, rfl⟩
set_option maxRecDepth 20000 in
theorem eX0_sworn_110 : xCS mX0_sworn 110 mX9_lowestOf 1 113 := ⟨85, by decide +kernel, rfl, ⟨cm_X0_85.1, cm_X0_85.2.1, cm_X0_85.2.2.1, cm_X0_85.2.2.2.1, cm_X0_85.2.2.2.2⟩, xT_3 4 rfl rfl⟩
theorem eX0_sworn_113 : xD mX0_sworn 113 (.iaload) 1 114 := ⟨by decide +kernel, rfl⟩
theorem eX0_sworn_114 : xJ mX0_sworn 114 (.goto) 123 117 := ⟨(9), by decide +kernel, by decide, rfl⟩
theorem eX0_sworn_117 : x_aload mX0_sworn 117 0 118 := Or.inl ⟨0, by decide +kernel, rfl, rfl⟩
theorem eX0_sworn_118 : xGF mX0_sworn 118 0 1 121 := ⟨9, _, _, by decide +kernel, rfl, fl_X0_9⟩
theorem eX0_sworn_121 : x_iload mX0_sworn 121 1 122 := Or.inl ⟨1, by decide +kernel, rfl, rfl⟩
theorem eX0_sworn_122 : xD mX0_sworn 122 (.iaload) 1 123 := ⟨by decide +kernel, rfl⟩
theorem eX0_sworn_123 : xD mX0_sworn 123 (.ireturn) 1 124 := ⟨by decide +kernel, rfl⟩
theorem eX0_sworn_124 : x_iload mX0_sworn 124 4 126 := Or.inr ⟨by decide +kernel, rfl⟩
theorem eX0_sworn_126 : xJ mX0_sworn 126 (.ifCond .eq) 133 129 := ⟨(7), by decide +kernel, by decide, rfl⟩
theorem eX0_sworn_129 : xK mX0_sworn 129 (nI 0) 130 := Or.inl (⟨0, by decide +kernel, by decide, rfl⟩)
theorem eX0_sworn_130 : xJ mX0_sworn 130 (.goto) 139 133 := ⟨(9), by decide +kernel, by decide, rfl⟩
theorem eX0_sworn_133 : x_aload mX0_sworn 133 0 134 := Or.inl ⟨0, by decide +kernel, rfl, rfl⟩
theorem eX0_sworn_134 : xGF mX0_sworn 134 0 1 137 := ⟨9, _, _, by decide +kernel, rfl, fl_X0_9⟩
theorem eX0_sworn_137 : x_iload mX0_sworn 137 1 138 := Or.inl ⟨1, by decide +kernel, rfl, rfl⟩
theorem eX0_sworn_138 : xD mX0_sworn 138 (.iaload) 1 139 := ⟨by decide +kernel, rfl⟩
theorem eX0_sworn_139 : xD mX0_sworn 139 (.ireturn) 1 140 := ⟨by decide +kernel, rfl⟩
theorem eX0_sworn_140 : x_aload mX0_sworn 140 0 141 := Or.inl ⟨0, by decide +kernel, rfl, rfl⟩
theorem eX0_sworn_141 : xGF mX0_sworn 141 0 1 144 := ⟨9, _, _, by decide +kernel, rfl, fl_X0_9⟩
theorem eX0_sworn_144 : x_iload mX0_sworn 144 1 145 := Or.inl ⟨1, by decide +kernel, rfl, rfl⟩
theorem eX0_sworn_145 : xD mX0_sworn 145 (.iaload) 1 146 := ⟨by decide +kernel, rfl⟩
theorem eX0_sworn_146 : xD mX0_sworn 146 (.ireturn) 1 147 := ⟨by decide +kernel, rfl⟩
theorem eX0_swear_0 : x_aload mX0_swear 0 0 1 := Or.inl ⟨0, by decide +kernel, rfl, rfl⟩
theorem eX0_swear_1 : xGF mX0_swear 1 0 2 4 := ⟨15, _, _, by decide +kernel, rfl, fl_X0_15⟩
theorem eX0_swear_4 : x_iload mX0_swear 4 1 5 := Or.inl ⟨1, by decide +kernel, rfl, rfl⟩
theorem eX0_swear_5 : x_aload mX0_swear 5 0 6 := Or.inl ⟨0, by decide +kernel, rfl, rfl⟩
theorem eX0_swear_6 : x_iload mX0_swear 6 1 7 := Or.inl ⟨1, by decide +kernel, rfl, rfl⟩
theorem eX0_swear_7 : x_iload mX0_swear 7 2 8 := Or.inl ⟨2, by decide +kernel, rfl, rfl⟩
theorem eX0_swear_8 : x_iload mX0_swear 8 3 9 := Or.inl ⟨3, by decide +kernel, rfl, rfl⟩
set_option maxRecDepth 20000 in
theorem eX0_swear_9 : xCV mX0_swear 9 mX0_sworn 3 0 12 := ⟨88, by decide +kernel, rfl, ⟨cm_X0_88.1, cm_X0_88.2.1, cm_X0_88.2.2.1, cm_X0_88.2.2.2.1, cm_X0_88.2.2.2.2⟩, xT_3 0 rfl rfl, xT_3 1 rfl rfl, _, rfl, rfl⟩
theorem eX0_swear_12 : xD mX0_swear 12 (.iastore) 1 13 := ⟨by decide +kernel, rfl⟩
theorem eX0_swear_13 : x_aload mX0_swear 13 0 14 := Or.inl ⟨0, by decide +kernel, rfl, rfl⟩
theorem eX0_swear_14 : xGF mX0_swear 14 0 0 17 := ⟨24, _, _, by decide +kernel, rfl, fl_X0_24⟩
theorem eX0_swear_17 : xGF mX0_swear 17 2 3 20 := ⟨82, _, _, by decide +kernel, rfl, fl_X0_82⟩
theorem eX0_swear_20 : x_iload mX0_swear 20 1 21 := Or.inl ⟨1, by decide +kernel, rfl, rfl⟩
theorem eX0_swear_21 : xD mX0_swear 21 (.iaload) 1 22 := ⟨by decide +kernel, rfl⟩
theorem eX0_swear_22 : x_aload mX0_swear 22 0 23 := Or.inl ⟨0, by decide +kernel, rfl, rfl⟩
theorem eX0_swear_23 : xGF mX0_swear 23 0 5 26 := ⟨28, _, _, by decide +kernel, rfl, fl_X0_28⟩
theorem eX0_swear_26 : xD mX0_swear 26 (.iand) 1 27 := ⟨by decide +kernel, rfl⟩
theorem eX0_swear_27 : x_istore mX0_swear 27 4 29 := Or.inr ⟨by decide +kernel, rfl⟩
theorem eX0_swear_29 : x_iload mX0_swear 29 2 30 := Or.inl ⟨2, by decide +kernel, rfl, rfl⟩
theorem eX0_swear_30 : xK mX0_swear 30 (nI 4) 31 := Or.inl (⟨4, by decide +kernel, by decide, rfl⟩)
theorem eX0_swear_31 : xJ mX0_swear 31 (.if_icmp .ne) 65 34 := ⟨(34), by decide +kernel, by decide, rfl⟩
theorem eX0_swear_34 : x_iload mX0_swear 34 4 36 := Or.inr ⟨by decide +kernel, rfl⟩
theorem eX0_swear_36 : xJ mX0_swear 36 (.ifCond .eq) 65 39 := ⟨(29), by decide +kernel, by decide, rfl⟩
theorem eX0_swear_39 : x_aload mX0_swear 39 0 40 := Or.inl ⟨0, by decide +kernel, rfl, rfl⟩
theorem eX0_swear_40 : xGF mX0_swear 40 0 1 43 := ⟨9, _, _, by decide +kernel, rfl, fl_X0_9⟩
theorem eX0_swear_43 : x_iload mX0_swear 43 4 45 := Or.inr ⟨by decide +kernel, rfl⟩
set_option maxRecDepth 20000 in
theorem eX0_swear_45 : xCS mX0_swear 45 mX9_lowestOf 1 48 := ⟨85, by decide +kernel, rfl, ⟨cm_X0_85.1, cm_X0_85.2.1, cm_X0_85.2.2.1, cm_X0_85.2.2.2.1, cm_X0_85.2.2.2.2⟩, xT_3 4 rfl rfl⟩
theorem eX0_swear_48 : xD mX0_swear 48 (.dup2) 1 49 := ⟨by decide +kernel, rfl⟩
theorem eX0_swear_49 : xD mX0_swear 49 (.iaload) 1 50 := ⟨by decide +kernel, rfl⟩
theorem eX0_swear_50 : x_aload mX0_swear 50 0 51 := Or.inl ⟨0, by decide +kernel, rfl, rfl⟩
theorem eX0_swear_51 : xGF mX0_swear 51 0 1 54 := ⟨9, _, _, by decide +kernel, rfl, fl_X0_9⟩
theorem eX0_swear_54 : x_iload mX0_swear 54 1 55 := Or.inl ⟨1, by decide +kernel, rfl, rfl⟩
theorem eX0_swear_55 : xD mX0_swear 55 (.iaload) 1 56 := ⟨by decide +kernel, rfl⟩
theorem eX0_swear_56 : xD mX0_swear 56 (.iadd) 1 57 := ⟨by decide +kernel, rfl⟩
theorem eX0_swear_57 : xD mX0_swear 57 (.iastore) 1 58 := ⟨by decide +kernel, rfl⟩
theorem eX0_swear_58 : x_aload mX0_swear 58 0 59 := Or.inl ⟨0, by decide +kernel, rfl, rfl⟩
theorem eX0_swear_59 : xGF mX0_swear 59 0 1 62 := ⟨9, _, _, by decide +kernel, rfl, fl_X0_9⟩
theorem eX0_swear_62 : x_iload mX0_swear 62 1 63 := Or.inl ⟨1, by decide +kernel, rfl, rfl⟩
theorem eX0_swear_63 : xK mX0_swear 63 (nI 0) 64 := Or.inl (⟨0, by decide +kernel, by decide, rfl⟩)
theorem eX0_swear_64 : xD mX0_swear 64 (.iastore) 1 65 := ⟨by decide +kernel, rfl⟩
theorem eX0_swear_65 : x_aload mX0_swear 65 0 66 := Or.inl ⟨0, by decide +kernel, rfl, rfl⟩
theorem eX0_swear_66 : xD mX0_swear 66 (.dup) 1 67 := ⟨by decide +kernel, rfl⟩
theorem eX0_swear_67 : xGF mX0_swear 67 0 5 70 := ⟨28, _, _, by decide +kernel, rfl, fl_X0_28⟩
theorem eX0_swear_70 : xK mX0_swear 70 (nI 1) 71 := Or.inl (⟨1, by decide +kernel, by decide, rfl⟩)
theorem eX0_swear_71 : x_iload mX0_swear 71 1 72 := Or.inl ⟨1, by decide +kernel, rfl, rfl⟩
theorem eX0_swear_72 : xD mX0_swear 72 (.ishl) 1 73 := ⟨by decide +kernel, rfl⟩
theorem eX0_swear_73 : xD mX0_swear 73 (.ior) 1 74 := ⟨by decide +kernel, rfl⟩
theorem eX0_swear_74 : xPF mX0_swear 74 0 5 (.int) 77 := ⟨28, _, by decide +kernel, rfl, fl_X0_28, fun h => by cases h⟩
theorem eX0_swear_77 : x_aload mX0_swear 77 0 78 := Or.inl ⟨0, by decide +kernel, rfl, rfl⟩
theorem eX0_swear_78 : xGF mX0_swear 78 0 2 81 := ⟨15, _, _, by decide +kernel, rfl, fl_X0_15⟩
theorem eX0_swear_81 : x_iload mX0_swear 81 1 82 := Or.inl ⟨1, by decide +kernel, rfl, rfl⟩
theorem eX0_swear_82 : xD mX0_swear 82 (.iaload) 1 83 := ⟨by decide +kernel, rfl⟩
theorem eX0_swear_83 : xD mX0_swear 83 (.ireturn) 1 84 := ⟨by decide +kernel, rfl⟩
theorem eX0_askBy_0 : x_aload mX0_askBy 0 0 1 := Or.inl ⟨0, by decide +kernel, rfl, rfl⟩
theorem eX0_askBy_1 : xGF mX0_askBy 1 0 4 4 := ⟨21, _, _, by decide +kernel, rfl, fl_X0_21⟩
theorem eX0_askBy_4 : x_iload mX0_askBy 4 1 5 := Or.inl ⟨1, by decide +kernel, rfl, rfl⟩
theorem eX0_askBy_5 : xD mX0_askBy 5 (.dup2) 1 6 := ⟨by decide +kernel, rfl⟩
theorem eX0_askBy_6 : xD mX0_askBy 6 (.iaload) 1 7 := ⟨by decide +kernel, rfl⟩
theorem eX0_askBy_7 : x_aload mX0_askBy 7 0 8 := Or.inl ⟨0, by decide +kernel, rfl, rfl⟩
theorem eX0_askBy_8 : xGF mX0_askBy 8 0 0 11 := ⟨24, _, _, by decide +kernel, rfl, fl_X0_24⟩
theorem eX0_askBy_11 : xGF mX0_askBy 11 2 4 14 := ⟨64, _, _, by decide +kernel, rfl, fl_X0_64⟩
theorem eX0_askBy_14 : x_aload mX0_askBy 14 0 15 := Or.inl ⟨0, by decide +kernel, rfl, rfl⟩
theorem eX0_askBy_15 : xGF mX0_askBy 15 0 3 18 := ⟨18, _, _, by decide +kernel, rfl, fl_X0_18⟩
theorem eX0_askBy_18 : x_iload mX0_askBy 18 1 19 := Or.inl ⟨1, by decide +kernel, rfl, rfl⟩
theorem eX0_askBy_19 : xD mX0_askBy 19 (.iaload) 1 20 := ⟨by decide +kernel, rfl⟩
theorem eX0_askBy_20 : xD mX0_askBy 20 (.aaload) 1 21 := ⟨by decide +kernel, rfl⟩
theorem eX0_askBy_21 : x_iload mX0_askBy 21 2 22 := Or.inl ⟨2, by decide +kernel, rfl, rfl⟩
theorem eX0_askBy_22 : xD mX0_askBy 22 (.iaload) 1 23 := ⟨by decide +kernel, rfl⟩
theorem eX0_askBy_23 : xK mX0_askBy 23 (nI 1) 24 := Or.inl (⟨1, by decide +kernel, by decide, rfl⟩)
theorem eX0_askBy_24 : xD mX0_askBy 24 (.iadd) 1 25 := ⟨by decide +kernel, rfl⟩
theorem eX0_askBy_25 : xD mX0_askBy 25 (.iadd) 1 26 := ⟨by decide +kernel, rfl⟩
theorem eX0_askBy_26 : xD mX0_askBy 26 (.iastore) 1 27 := ⟨by decide +kernel, rfl⟩
theorem eX0_askBy_27 : x_aload mX0_askBy 27 0 28 := Or.inl ⟨0, by decide +kernel, rfl, rfl⟩
theorem eX0_askBy_28 : xGF mX0_askBy 28 0 3 31 := ⟨18, _, _, by decide +kernel, rfl, fl_X0_18⟩
theorem eX0_askBy_31 : x_iload mX0_askBy 31 1 32 := Or.inl ⟨1, by decide +kernel, rfl, rfl⟩
theorem eX0_askBy_32 : x_iload mX0_askBy 32 2 33 := Or.inl ⟨2, by decide +kernel, rfl, rfl⟩
theorem eX0_askBy_33 : xD mX0_askBy 33 (.iastore) 1 34 := ⟨by decide +kernel, rfl⟩
theorem eX0_askBy_34 : x_aload mX0_askBy 34 0 35 := Or.inl ⟨0, by decide +kernel, rfl, rfl⟩
theorem eX0_askBy_35 : x_iload mX0_askBy 35 2 36 := Or.inl ⟨2, by decide +kernel, rfl, rfl⟩
theorem eX0_askBy_36 : x_aload mX0_askBy 36 0 37 := Or.inl ⟨0, by decide +kernel, rfl, rfl⟩
theorem eX0_askBy_37 : xGF mX0_askBy 37 0 0 40 := ⟨24, _, _, by decide +kernel, rfl, fl_X0_24⟩
theorem eX0_askBy_40 : xGF mX0_askBy 40 2 0 43 := ⟨92, _, _, by decide +kernel, rfl, fl_X0_92⟩
theorem eX0_askBy_43 : x_iload mX0_askBy 43 2 44 := Or.inl ⟨2, by decide +kernel, rfl, rfl⟩
theorem eX0_askBy_44 : xD mX0_askBy 44 (.iaload) 1 45 := ⟨by decide +kernel, rfl⟩
theorem eX0_askBy_45 : x_aload mX0_askBy 45 0 46 := Or.inl ⟨0, by decide +kernel, rfl, rfl⟩
theorem eX0_askBy_46 : xGF mX0_askBy 46 0 0 49 := ⟨24, _, _, by decide +kernel, rfl, fl_X0_24⟩
theorem eX0_askBy_49 : xGF mX0_askBy 49 2 7 52 := ⟨95, _, _, by decide +kernel, rfl, fl_X0_95⟩
set_option maxRecDepth 20000 in
theorem eX0_askBy_52 : xCV mX0_askBy 52 mX0_swear 3 0 55 := ⟨98, by decide +kernel, rfl, ⟨cm_X0_98.1, cm_X0_98.2.1, cm_X0_98.2.2.1, cm_X0_98.2.2.2.1, cm_X0_98.2.2.2.2⟩, xT_3 54 rfl rfl, xT_3 55 rfl rfl, _, rfl, rfl⟩
theorem eX0_askBy_55 : xD mX0_askBy 55 (.ireturn) 1 56 := ⟨by decide +kernel, rfl⟩
theorem eX0_writeOxen_0 : x_aload mX0_writeOxen 0 0 1 := Or.inl ⟨0, by decide +kernel, rfl, rfl⟩
theorem eX0_writeOxen_1 : xGF mX0_writeOxen 1 0 1 4 := ⟨9, _, _, by decide +kernel, rfl, fl_X0_9⟩
theorem eX0_writeOxen_4 : x_iload mX0_writeOxen 4 1 5 := Or.inl ⟨1, by decide +kernel, rfl, rfl⟩
theorem eX0_writeOxen_5 : xD mX0_writeOxen 5 (.iaload) 1 6 := ⟨by decide +kernel, rfl⟩
theorem eX0_writeOxen_6 : x_aload mX0_writeOxen 6 0 7 := Or.inl ⟨0, by decide +kernel, rfl, rfl⟩
theorem eX0_writeOxen_7 : xGF mX0_writeOxen 7 0 2 10 := ⟨15, _, _, by decide +kernel, rfl, fl_X0_15⟩
theorem eX0_writeOxen_10 : x_iload mX0_writeOxen 10 1 11 := Or.inl ⟨1, by decide +kernel, rfl, rfl⟩
theorem eX0_writeOxen_11 : xD mX0_writeOxen 11 (.iaload) 1 12 := ⟨by decide +kernel, rfl⟩
theorem eX0_writeOxen_12 : xD mX0_writeOxen 12 (.isub) 1 13 := ⟨by decide +kernel, rfl⟩
theorem eX0_writeOxen_13 : x_istore mX0_writeOxen 13 2 14 := Or.inl ⟨2, by decide +kernel, rfl, rfl⟩
theorem eX0_writeOxen_14 : x_aload mX0_writeOxen 14 0 15 := Or.inl ⟨0, by decide +kernel, rfl, rfl⟩
theorem eX0_writeOxen_15 : xGF mX0_writeOxen 15 0 2 18 := ⟨15, _, _, by decide +kernel, rfl, fl_X0_15⟩
theorem eX0_writeOxen_18 : x_iload mX0_writeOxen 18 1 19 := Or.inl ⟨1, by decide +kernel, rfl, rfl⟩
theorem eX0_writeOxen_19 : x_aload mX0_writeOxen 19 0 20 := Or.inl ⟨0, by decide +kernel, rfl, rfl⟩
theorem eX0_writeOxen_20 : xGF mX0_writeOxen 20 0 1 23 := ⟨9, _, _, by decide +kernel, rfl, fl_X0_9⟩
theorem eX0_writeOxen_23 : x_iload mX0_writeOxen 23 1 24 := Or.inl ⟨1, by decide +kernel, rfl, rfl⟩
theorem eX0_writeOxen_24 : xD mX0_writeOxen 24 (.iaload) 1 25 := ⟨by decide +kernel, rfl⟩
theorem eX0_writeOxen_25 : xD mX0_writeOxen 25 (.iastore) 1 26 := ⟨by decide +kernel, rfl⟩
theorem eX0_writeOxen_26 : x_aload mX0_writeOxen 26 0 27 := Or.inl ⟨0, by decide +kernel, rfl, rfl⟩
theorem eX0_writeOxen_27 : xD mX0_writeOxen 27 (.dup) 1 28 := ⟨by decide +kernel, rfl⟩
theorem eX0_writeOxen_28 : xGF mX0_writeOxen 28 0 6 31 := ⟨32, _, _, by decide +kernel, rfl, fl_X0_32⟩
theorem eX0_writeOxen_31 : xK mX0_writeOxen 31 (nI 1) 32 := Or.inl (⟨1, by decide +kernel, by decide, rfl⟩)
theorem eX0_writeOxen_32 : x_iload mX0_writeOxen 32 1 33 := Or.inl ⟨1, by decide +kernel, rfl, rfl⟩
theorem eX0_writeOxen_33 : xD mX0_writeOxen 33 (.ishl) 1 34 := ⟨by decide +kernel, rfl⟩
theorem eX0_writeOxen_34 : xD mX0_writeOxen 34 (.ior) 1 35 := ⟨by decide +kernel, rfl⟩
theorem eX0_writeOxen_35 : xPF mX0_writeOxen 35 0 6 (.int) 38 := ⟨32, _, by decide +kernel, rfl, fl_X0_32, fun h => by cases h⟩
theorem eX0_writeOxen_38 : x_iload mX0_writeOxen 38 2 39 := Or.inl ⟨2, by decide +kernel, rfl, rfl⟩
theorem eX0_writeOxen_39 : xD mX0_writeOxen 39 (.ireturn) 1 40 := ⟨by decide +kernel, rfl⟩
theorem eX0_strikeOut_0 : x_aload mX0_strikeOut 0 0 1 := Or.inl ⟨0, by decide +kernel, rfl, rfl⟩
theorem eX0_strikeOut_1 : xD mX0_strikeOut 1 (.dup) 1 2 := ⟨by decide +kernel, rfl⟩
theorem eX0_strikeOut_2 : xGF mX0_strikeOut 2 0 5 5 := ⟨28, _, _, by decide +kernel, rfl, fl_X0_28⟩
theorem eX0_strikeOut_5 : xK mX0_strikeOut 5 (nI 1) 6 := Or.inl (⟨1, by decide +kernel, by decide, rfl⟩)
theorem eX0_strikeOut_6 : x_iload mX0_strikeOut 6 1 7 := Or.inl ⟨1, by decide +kernel, rfl, rfl⟩
theorem eX0_strikeOut_7 : xD mX0_strikeOut 7 (.ishl) 1 8 := ⟨by decide +kernel, rfl⟩
theorem eX0_strikeOut_8 : xK mX0_strikeOut 8 ((-1)) 9 := Or.inl (⟨(-1), by decide +kernel, by decide, rfl⟩)
theorem eX0_strikeOut_9 : xD mX0_strikeOut 9 (.ixor) 1 10 := ⟨by decide +kernel, rfl⟩
theorem eX0_strikeOut_10 : xD mX0_strikeOut 10 (.iand) 1 11 := ⟨by decide +kernel, rfl⟩
theorem eX0_strikeOut_11 : xPF mX0_strikeOut 11 0 5 (.int) 14 := ⟨28, _, by decide +kernel, rfl, fl_X0_28, fun h => by cases h⟩
theorem eX0_strikeOut_14 : x_aload mX0_strikeOut 14 0 15 := Or.inl ⟨0, by decide +kernel, rfl, rfl⟩
theorem eX0_strikeOut_15 : xD mX0_strikeOut 15 (.dup) 1 16 := ⟨by decide +kernel, rfl⟩
theorem eX0_strikeOut_16 : xGF mX0_strikeOut 16 0 6 19 := ⟨32, _, _, by decide +kernel, rfl, fl_X0_32⟩
theorem eX0_strikeOut_19 : xK mX0_strikeOut 19 (nI 1) 20 := Or.inl (⟨1, by decide +kernel, by decide, rfl⟩)
theorem eX0_strikeOut_20 : x_iload mX0_strikeOut 20 1 21 := Or.inl ⟨1, by decide +kernel, rfl, rfl⟩
theorem eX0_strikeOut_21 : xD mX0_strikeOut 21 (.ishl) 1 22 := ⟨by decide +kernel, rfl⟩
theorem eX0_strikeOut_22 : xK mX0_strikeOut 22 ((-1)) 23 := Or.inl (⟨(-1), by decide +kernel, by decide, rfl⟩)
theorem eX0_strikeOut_23 : xD mX0_strikeOut 23 (.ixor) 1 24 := ⟨by decide +kernel, rfl⟩
theorem eX0_strikeOut_24 : xD mX0_strikeOut 24 (.iand) 1 25 := ⟨by decide +kernel, rfl⟩
theorem eX0_strikeOut_25 : xPF mX0_strikeOut 25 0 6 (.int) 28 := ⟨32, _, by decide +kernel, rfl, fl_X0_32, fun h => by cases h⟩
theorem eX0_strikeOut_28 : x_aload mX0_strikeOut 28 0 29 := Or.inl ⟨0, by decide +kernel, rfl, rfl⟩
theorem eX0_strikeOut_29 : xGF mX0_strikeOut 29 0 2 32 := ⟨15, _, _, by decide +kernel, rfl, fl_X0_15⟩
theorem eX0_strikeOut_32 : x_iload mX0_strikeOut 32 1 33 := Or.inl ⟨1, by decide +kernel, rfl, rfl⟩
theorem eX0_strikeOut_33 : xD mX0_strikeOut 33 (.iaload) 1 34 := ⟨by decide +kernel, rfl⟩
theorem eX0_strikeOut_34 : xD mX0_strikeOut 34 (.ireturn) 1 35 := ⟨by decide +kernel, rfl⟩
theorem eX0_found_0 : xK mX0_found 0 (nI 0) 1 := Or.inl (⟨0, by decide +kernel, by decide, rfl⟩)
theorem eX0_found_1 : x_istore mX0_found 1 1 2 := Or.inl ⟨1, by decide +kernel, rfl, rfl⟩
theorem eX0_found_2 : xK mX0_found 2 (nI 0) 3 := Or.inl (⟨0, by decide +kernel, by decide, rfl⟩)
theorem eX0_found_3 : x_istore mX0_found 3 2 4 := Or.inl ⟨2, by decide +kernel, rfl, rfl⟩
theorem eX0_found_4 : x_iload mX0_found 4 2 5 := Or.inl ⟨2, by decide +kernel, rfl, rfl⟩
theorem eX0_found_5 : x_aload mX0_found 5 0 6 := Or.inl ⟨0, by decide +kernel, rfl, rfl⟩
theorem eX0_found_6 : xGF mX0_found 6 0 0 9 := ⟨24, _, _, by decide +kernel, rfl, fl_X0_24⟩
theorem eX0_found_9 : xGF mX0_found 9 2 5 12 := ⟨69, _, _, by decide +kernel, rfl, fl_X0_69⟩
theorem eX0_found_12 : xJ mX0_found 12 (.if_icmp .ge) 45 15 := ⟨(33), by decide +kernel, by decide, rfl⟩
theorem eX0_found_15 : x_iload mX0_found 15 1 16 := Or.inl ⟨1, by decide +kernel, rfl, rfl⟩
theorem eX0_found_16 : x_aload mX0_found 16 0 17 := Or.inl ⟨0, by decide +kernel, rfl, rfl⟩
theorem eX0_found_17 : xGF mX0_found 17 0 5 20 := ⟨28, _, _, by decide +kernel, rfl, fl_X0_28⟩
theorem eX0_found_20 : x_iload mX0_found 20 2 21 := Or.inl ⟨2, by decide +kernel, rfl, rfl⟩
theorem eX0_found_21 : xD mX0_found 21 (.ishr) 1 22 := ⟨by decide +kernel, rfl⟩
theorem eX0_found_22 : xK mX0_found 22 (nI 1) 23 := Or.inl (⟨1, by decide +kernel, by decide, rfl⟩)
theorem eX0_found_23 : xD mX0_found 23 (.iand) 1 24 := ⟨by decide +kernel, rfl⟩
theorem eX0_found_24 : xJ mX0_found 24 (.ifCond .eq) 36 27 := ⟨(12), by decide +kernel, by decide, rfl⟩
theorem eX0_found_27 : x_aload mX0_found 27 0 28 := Or.inl ⟨0, by decide +kernel, rfl, rfl⟩
theorem eX0_found_28 : xGF mX0_found 28 0 2 31 := ⟨15, _, _, by decide +kernel, rfl, fl_X0_15⟩
theorem eX0_found_31 : x_iload mX0_found 31 2 32 := Or.inl ⟨2, by decide +kernel, rfl, rfl⟩
theorem eX0_found_32 : xD mX0_found 32 (.iaload) 1 33 := ⟨by decide +kernel, rfl⟩
theorem eX0_found_33 : xJ mX0_found 33 (.goto) 37 36 := ⟨(4), by decide +kernel, by decide, rfl⟩
theorem eX0_found_36 : xK mX0_found 36 (nI 0) 37 := Or.inl (⟨0, by decide +kernel, by decide, rfl⟩)
theorem eX0_found_37 : xD mX0_found 37 (.iadd) 1 38 := ⟨by decide +kernel, rfl⟩
theorem eX0_found_38 : x_istore mX0_found 38 1 39 := Or.inl ⟨1, by decide +kernel, rfl, rfl⟩
theorem eX0_found_39 : xD mX0_found 39 (.iinc 2 1) 3 42 := ⟨by decide +kernel, rfl⟩
theorem eX0_found_42 : xJ mX0_found 42 (.goto) 4 45 := ⟨(-38), by decide +kernel, by decide, rfl⟩
theorem eX0_found_45 : x_iload mX0_found 45 1 46 := Or.inl ⟨1, by decide +kernel, rfl, rfl⟩
theorem eX0_found_46 : xD mX0_found 46 (.ireturn) 1 47 := ⟨by decide +kernel, rfl⟩
theorem eX0_allOxen_0 : xK mX0_allOxen 0 (nI 0) 1 := Or.inl (⟨0, by decide +kernel, by decide, rfl⟩)
theorem eX0_allOxen_1 : x_istore mX0_allOxen 1 1 2 := Or.inl ⟨1, by decide +kernel, rfl, rfl⟩
theorem eX0_allOxen_2 : xK mX0_allOxen 2 (nI 0) 3 := Or.inl (⟨0, by decide +kernel, by decide, rfl⟩)
theorem eX0_allOxen_3 : x_istore mX0_allOxen 3 2 4 := Or.inl ⟨2, by decide +kernel, rfl, rfl⟩
theorem eX0_allOxen_4 : x_iload mX0_allOxen 4 2 5 := Or.inl ⟨2, by decide +kernel, rfl, rfl⟩
theorem eX0_allOxen_5 : x_aload mX0_allOxen 5 0 6 := Or.inl ⟨0, by decide +kernel, rfl, rfl⟩
theorem eX0_allOxen_6 : xGF mX0_allOxen 6 0 0 9 := ⟨24, _, _, by decide +kernel, rfl, fl_X0_24⟩
theorem eX0_allOxen_9 : xGF mX0_allOxen 9 2 5 12 := ⟨69, _, _, by decide +kernel, rfl, fl_X0_69⟩
theorem eX0_allOxen_12 : xJ mX0_allOxen 12 (.if_icmp .ge) 30 15 := ⟨(18), by decide +kernel, by decide, rfl⟩
theorem eX0_allOxen_15 : x_iload mX0_allOxen 15 1 16 := Or.inl ⟨1, by decide +kernel, rfl, rfl⟩
theorem eX0_allOxen_16 : x_aload mX0_allOxen 16 0 17 := Or.inl ⟨0, by decide +kernel, rfl, rfl⟩
theorem eX0_allOxen_17 : xGF mX0_allOxen 17 0 1 20 := ⟨9, _, _, by decide +kernel, rfl, fl_X0_9⟩
theorem eX0_allOxen_20 : x_iload mX0_allOxen 20 2 21 := Or.inl ⟨2, by decide +kernel, rfl, rfl⟩
theorem eX0_allOxen_21 : xD mX0_allOxen 21 (.iaload) 1 22 := ⟨by decide +kernel, rfl⟩
theorem eX0_allOxen_22 : xD mX0_allOxen 22 (.iadd) 1 23 := ⟨by decide +kernel, rfl⟩
theorem eX0_allOxen_23 : x_istore mX0_allOxen 23 1 24 := Or.inl ⟨1, by decide +kernel, rfl, rfl⟩
theorem eX0_allOxen_24 : xD mX0_allOxen 24 (.iinc 2 1) 3 27 := ⟨by decide +kernel, rfl⟩
theorem eX0_allOxen_27 : xJ mX0_allOxen 27 (.goto) 4 30 := ⟨(-23), by decide +kernel, by decide, rfl⟩
theorem eX0_allOxen_30 : x_iload mX0_allOxen 30 1 31 := Or.inl ⟨1, by decide +kernel, rfl, rfl⟩
theorem eX0_allOxen_31 : xD mX0_allOxen 31 (.ireturn) 1 32 := ⟨by decide +kernel, rfl⟩
theorem eX0_mostDays_0 : xK mX0_mostDays 0 (nI 0) 1 := Or.inl (⟨0, by decide +kernel, by decide, rfl⟩)
theorem eX0_mostDays_1 : x_istore mX0_mostDays 1 1 2 := Or.inl ⟨1, by decide +kernel, rfl, rfl⟩
theorem eX0_mostDays_2 : xK mX0_mostDays 2 (nI 0) 3 := Or.inl (⟨0, by decide +kernel, by decide, rfl⟩)
theorem eX0_mostDays_3 : x_istore mX0_mostDays 3 2 4 := Or.inl ⟨2, by decide +kernel, rfl, rfl⟩
theorem eX0_mostDays_4 : x_iload mX0_mostDays 4 2 5 := Or.inl ⟨2, by decide +kernel, rfl, rfl⟩
theorem eX0_mostDays_5 : x_aload mX0_mostDays 5 0 6 := Or.inl ⟨0, by decide +kernel, rfl, rfl⟩
theorem eX0_mostDays_6 : xGF mX0_mostDays 6 0 0 9 := ⟨24, _, _, by decide +kernel, rfl, fl_X0_24⟩
theorem eX0_mostDays_9 : xGF mX0_mostDays 9 2 6 12 := ⟨101, _, _, by decide +kernel, rfl, fl_X0_101⟩
theorem eX0_mostDays_12 : xJ mX0_mostDays 12 (.if_icmp .ge) 32 15 := ⟨(20), by decide +kernel, by decide, rfl⟩
theorem eX0_mostDays_15 : x_iload mX0_mostDays 15 1 16 := Or.inl ⟨1, by decide +kernel, rfl, rfl⟩
theorem eX0_mostDays_16 : x_aload mX0_mostDays 16 0 17 := Or.inl ⟨0, by decide +kernel, rfl, rfl⟩
theorem eX0_mostDays_17 : xGF mX0_mostDays 17 0 4 20 := ⟨21, _, _, by decide +kernel, rfl, fl_X0_21⟩
theorem eX0_mostDays_20 : x_iload mX0_mostDays 20 2 21 := Or.inl ⟨2, by decide +kernel, rfl, rfl⟩
theorem eX0_mostDays_21 : xD mX0_mostDays 21 (.iaload) 1 22 := ⟨by decide +kernel, rfl⟩
set_option maxRecDepth 20000 in
theorem eX0_mostDays_22 : xCS mX0_mostDays 22 mJ9_max_7cf53 2 25 := ⟨104, by decide +kernel, rfl, ⟨cm_X0_104.1, cm_X0_104.2.1, cm_X0_104.2.2.1, cm_X0_104.2.2.2.1, cm_X0_104.2.2.2.2⟩, xT_3 130 rfl rfl⟩
theorem eX0_mostDays_25 : x_istore mX0_mostDays 25 1 26 := Or.inl ⟨1, by decide +kernel, rfl, rfl⟩
theorem eX0_mostDays_26 : xD mX0_mostDays 26 (.iinc 2 1) 3 29 := ⟨by decide +kernel, rfl⟩
theorem eX0_mostDays_29 : xJ mX0_mostDays 29 (.goto) 4 32 := ⟨(-25), by decide +kernel, by decide, rfl⟩
theorem eX0_mostDays_32 : x_iload mX0_mostDays 32 1 33 := Or.inl ⟨1, by decide +kernel, rfl, rfl⟩
theorem eX0_mostDays_33 : xD mX0_mostDays 33 (.ireturn) 1 34 := ⟨by decide +kernel, rfl⟩
theorem eX0_gainOf_0 : xK mX0_gainOf 0 (nI 0) 1 := Or.inl (⟨0, by decide +kernel, by decide, rfl⟩)
theorem eX0_gainOf_1 : x_istore mX0_gainOf 1 2 2 := Or.inl ⟨2, by decide +kernel, rfl, rfl⟩
theorem eX0_gainOf_2 : xK mX0_gainOf 2 (nI 0) 3 := Or.inl (⟨0, by decide +kernel, by decide, rfl⟩)
theorem eX0_gainOf_3 : x_istore mX0_gainOf 3 3 4 := Or.inl ⟨3, by decide +kernel, rfl, rfl⟩
theorem eX0_gainOf_4 : x_iload mX0_gainOf 4 3 5 := Or.inl ⟨3, by decide +kernel, rfl, rfl⟩
theorem eX0_gainOf_5 : x_aload mX0_gainOf 5 0 6 := Or.inl ⟨0, by decide +kernel, rfl, rfl⟩
theorem eX0_gainOf_6 : xGF mX0_gainOf 6 0 0 9 := ⟨24, _, _, by decide +kernel, rfl, fl_X0_24⟩
theorem eX0_gainOf_9 : xGF mX0_gainOf 9 2 5 12 := ⟨69, _, _, by decide +kernel, rfl, fl_X0_69⟩
theorem eX0_gainOf_12 : xJ mX0_gainOf 12 (.if_icmp .ge) 49 15 := ⟨(37), by decide +kernel, by decide, rfl⟩
theorem eX0_gainOf_15 : x_iload mX0_gainOf 15 2 16 := Or.inl ⟨2, by decide +kernel, rfl, rfl⟩
theorem eX0_gainOf_16 : x_iload mX0_gainOf 16 1 17 := Or.inl ⟨1, by decide +kernel, rfl, rfl⟩
theorem eX0_gainOf_17 : x_iload mX0_gainOf 17 3 18 := Or.inl ⟨3, by decide +kernel, rfl, rfl⟩
theorem eX0_gainOf_18 : xD mX0_gainOf 18 (.ishr) 1 19 := ⟨by decide +kernel, rfl⟩
theorem eX0_gainOf_19 : xK mX0_gainOf 19 (nI 1) 20 := Or.inl (⟨1, by decide +kernel, by decide, rfl⟩)
theorem eX0_gainOf_20 : xD mX0_gainOf 20 (.iand) 1 21 := ⟨by decide +kernel, rfl⟩
theorem eX0_gainOf_21 : xJ mX0_gainOf 21 (.ifCond .eq) 40 24 := ⟨(19), by decide +kernel, by decide, rfl⟩
theorem eX0_gainOf_24 : x_aload mX0_gainOf 24 0 25 := Or.inl ⟨0, by decide +kernel, rfl, rfl⟩
theorem eX0_gainOf_25 : xGF mX0_gainOf 25 0 1 28 := ⟨9, _, _, by decide +kernel, rfl, fl_X0_9⟩
theorem eX0_gainOf_28 : x_iload mX0_gainOf 28 3 29 := Or.inl ⟨3, by decide +kernel, rfl, rfl⟩
theorem eX0_gainOf_29 : xD mX0_gainOf 29 (.iaload) 1 30 := ⟨by decide +kernel, rfl⟩
theorem eX0_gainOf_30 : x_aload mX0_gainOf 30 0 31 := Or.inl ⟨0, by decide +kernel, rfl, rfl⟩
theorem eX0_gainOf_31 : xGF mX0_gainOf 31 0 2 34 := ⟨15, _, _, by decide +kernel, rfl, fl_X0_15⟩
theorem eX0_gainOf_34 : x_iload mX0_gainOf 34 3 35 := Or.inl ⟨3, by decide +kernel, rfl, rfl⟩
theorem eX0_gainOf_35 : xD mX0_gainOf 35 (.iaload) 1 36 := ⟨by decide +kernel, rfl⟩
theorem eX0_gainOf_36 : xD mX0_gainOf 36 (.isub) 1 37 := ⟨by decide +kernel, rfl⟩
theorem eX0_gainOf_37 : xJ mX0_gainOf 37 (.goto) 41 40 := ⟨(4), by decide +kernel, by decide, rfl⟩
theorem eX0_gainOf_40 : xK mX0_gainOf 40 (nI 0) 41 := Or.inl (⟨0, by decide +kernel, by decide, rfl⟩)
theorem eX0_gainOf_41 : xD mX0_gainOf 41 (.iadd) 1 42 := ⟨by decide +kernel, rfl⟩
theorem eX0_gainOf_42 : x_istore mX0_gainOf 42 2 43 := Or.inl ⟨2, by decide +kernel, rfl, rfl⟩
theorem eX0_gainOf_43 : xD mX0_gainOf 43 (.iinc 3 1) 3 46 := ⟨by decide +kernel, rfl⟩
theorem eX0_gainOf_46 : xJ mX0_gainOf 46 (.goto) 4 49 := ⟨(-42), by decide +kernel, by decide, rfl⟩
theorem eX0_gainOf_49 : x_iload mX0_gainOf 49 2 50 := Or.inl ⟨2, by decide +kernel, rfl, rfl⟩
theorem eX0_gainOf_50 : xD mX0_gainOf 50 (.ireturn) 1 51 := ⟨by decide +kernel, rfl⟩
theorem eX0_hasTwin_0 : x_aload mX0_hasTwin 0 0 1 := Or.inl ⟨0, by decide +kernel, rfl, rfl⟩
theorem eX0_hasTwin_1 : xGF mX0_hasTwin 1 0 0 4 := ⟨24, _, _, by decide +kernel, rfl, fl_X0_24⟩
theorem eX0_hasTwin_4 : xGF mX0_hasTwin 4 2 3 7 := ⟨82, _, _, by decide +kernel, rfl, fl_X0_82⟩
theorem eX0_hasTwin_7 : x_iload mX0_hasTwin 7 1 8 := Or.inl ⟨1, by decide +kernel, rfl, rfl⟩
theorem eX0_hasTwin_8 : xD mX0_hasTwin 8 (.iaload) 1 9 := ⟨by decide +kernel, rfl⟩
theorem eX0_hasTwin_9 : x_aload mX0_hasTwin 9 0 10 := Or.inl ⟨0, by decide +kernel, rfl, rfl⟩
theorem eX0_hasTwin_10 : xGF mX0_hasTwin 10 0 5 13 := ⟨28, _, _, by decide +kernel, rfl, fl_X0_28⟩
theorem eX0_hasTwin_13 : xD mX0_hasTwin 13 (.iand) 1 14 := ⟨by decide +kernel, rfl⟩
theorem eX0_hasTwin_14 : x_istore mX0_hasTwin 14 2 15 := Or.inl ⟨2, by decide +kernel, rfl, rfl⟩
theorem eX0_hasTwin_15 : xK mX0_hasTwin 15 (nI 0) 16 := Or.inl (⟨0, by decide +kernel, by decide, rfl⟩)
theorem eX0_hasTwin_16 : x_istore mX0_hasTwin 16 3 17 := Or.inl ⟨3, by decide +kernel, rfl, rfl⟩
theorem eX0_hasTwin_17 : x_iload mX0_hasTwin 17 3 18 := Or.inl ⟨3, by decide +kernel, rfl, rfl⟩
theorem eX0_hasTwin_18 : x_aload mX0_hasTwin 18 0 19 := Or.inl ⟨0, by decide +kernel, rfl, rfl⟩
theorem eX0_hasTwin_19 : xGF mX0_hasTwin 19 0 0 22 := ⟨24, _, _, by decide +kernel, rfl, fl_X0_24⟩
theorem eX0_hasTwin_22 : xGF mX0_hasTwin 22 2 5 25 := ⟨69, _, _, by decide +kernel, rfl, fl_X0_69⟩
theorem eX0_hasTwin_25 : xJ mX0_hasTwin 25 (.if_icmp .ge) 59 28 := ⟨(34), by decide +kernel, by decide, rfl⟩
theorem eX0_hasTwin_28 : x_iload mX0_hasTwin 28 2 29 := Or.inl ⟨2, by decide +kernel, rfl, rfl⟩
theorem eX0_hasTwin_29 : x_iload mX0_hasTwin 29 3 30 := Or.inl ⟨3, by decide +kernel, rfl, rfl⟩
theorem eX0_hasTwin_30 : xD mX0_hasTwin 30 (.ishr) 1 31 := ⟨by decide +kernel, rfl⟩
theorem eX0_hasTwin_31 : xK mX0_hasTwin 31 (nI 1) 32 := Or.inl (⟨1, by decide +kernel, by decide, rfl⟩)
theorem eX0_hasTwin_32 : xD mX0_hasTwin 32 (.iand) 1 33 := ⟨by decide +kernel, rfl⟩
theorem eX0_hasTwin_33 : xJ mX0_hasTwin 33 (.ifCond .eq) 53 36 := ⟨(20), by decide +kernel, by decide, rfl⟩
theorem eX0_hasTwin_36 : x_aload mX0_hasTwin 36 0 37 := Or.inl ⟨0, by decide +kernel, rfl, rfl⟩
theorem eX0_hasTwin_37 : xGF mX0_hasTwin 37 0 2 40 := ⟨15, _, _, by decide +kernel, rfl, fl_X0_15⟩
theorem eX0_hasTwin_40 : x_iload mX0_hasTwin 40 3 41 := Or.inl ⟨3, by decide +kernel, rfl, rfl⟩
theorem eX0_hasTwin_41 : xD mX0_hasTwin 41 (.iaload) 1 42 := ⟨by decide +kernel, rfl⟩
theorem eX0_hasTwin_42 : x_aload mX0_hasTwin 42 0 43 := Or.inl ⟨0, by decide +kernel, rfl, rfl⟩
theorem eX0_hasTwin_43 : xGF mX0_hasTwin 43 0 2 46 := ⟨15, _, _, by decide +kernel, rfl, fl_X0_15⟩
theorem eX0_hasTwin_46 : x_iload mX0_hasTwin 46 1 47 := Or.inl ⟨1, by decide +kernel, rfl, rfl⟩
theorem eX0_hasTwin_47 : xD mX0_hasTwin 47 (.iaload) 1 48 := ⟨by decide +kernel, rfl⟩
theorem eX0_hasTwin_48 : xJ mX0_hasTwin 48 (.if_icmp .ne) 53 51 := ⟨(5), by decide +kernel, by decide, rfl⟩
theorem eX0_hasTwin_51 : xK mX0_hasTwin 51 (nI 1) 52 := Or.inl (⟨1, by decide +kernel, by decide, rfl⟩)
theorem eX0_hasTwin_52 : xD mX0_hasTwin 52 (.ireturn) 1 53 := ⟨by decide +kernel, rfl⟩
theorem eX0_hasTwin_53 : xD mX0_hasTwin 53 (.iinc 3 1) 3 56 := ⟨by decide +kernel, rfl⟩
theorem eX0_hasTwin_56 : xJ mX0_hasTwin 56 (.goto) 17 59 := ⟨(-39), by decide +kernel, by decide, rfl⟩
theorem eX0_hasTwin_59 : xK mX0_hasTwin 59 (nI 0) 60 := Or.inl (⟨0, by decide +kernel, by decide, rfl⟩)
theorem eX0_hasTwin_60 : xD mX0_hasTwin 60 (.ireturn) 1 61 := ⟨by decide +kernel, rfl⟩
theorem eX1_init_0 : x_aload mX1_init 0 0 1 := Or.inl ⟨0, by decide +kernel, rfl, rfl⟩
theorem eX1_init_4 : x_aload mX1_init 4 0 5 := Or.inl ⟨0, by decide +kernel, rfl, rfl⟩
theorem eX1_init_5 : x_aload mX1_init 5 1 6 := Or.inl ⟨1, by decide +kernel, rfl, rfl⟩
set_option maxRecDepth 20000 in
theorem eX1_init_6 : xPF mX1_init 6 1 0 (.object "NotAnOx$Land") 9 := ⟨9, _, by decide +kernel, rfl, fl_X1_9, fun _ => ⟨rfl, ⟨_, rfl, rfl⟩, _, rfl, xT_2 17 rfl rfl⟩⟩
theorem eX1_init_9 : x_aload mX1_init 9 0 10 := Or.inl ⟨0, by decide +kernel, rfl, rfl⟩
theorem eX1_init_13 : xD mX1_init 13 (.dup) 1 14 := ⟨by decide +kernel, rfl⟩
theorem eX1_init_14 : x_aload mX1_init 14 1 15 := Or.inl ⟨1, by decide +kernel, rfl, rfl⟩
set_option maxRecDepth 20000 in
theorem eX1_init_15 : xCI mX1_init 15 mX0_init 1 18 := ⟨17, by decide +kernel, rfl, ⟨cm_X1_17.1, cm_X1_17.2.1, cm_X1_17.2.2.1, cm_X1_17.2.2.2.1, cm_X1_17.2.2.2.2⟩, xT_1 117 rfl rfl, rfl⟩
set_option maxRecDepth 20000 in
theorem eX1_init_18 : xPF mX1_init 18 1 1 (.object "NotAnOx$Book") 21 := ⟨20, _, by decide +kernel, rfl, fl_X1_20, fun _ => ⟨rfl, ⟨_, rfl, rfl⟩, _, rfl, xT_2 18 rfl rfl⟩⟩
theorem eX1_init_21 : xD mX1_init 21 (.return_) 1 22 := ⟨by decide +kernel, rfl⟩
theorem eX1_weigh_0 : x_aload mX1_weigh 0 1 1 := Or.inl ⟨1, by decide +kernel, rfl, rfl⟩
set_option maxRecDepth 20000 in
theorem eX1_weigh_1 : xCV mX1_weigh 1 mX0_rest 0 0 4 := ⟨24, by decide +kernel, rfl, ⟨cm_X1_24.1, cm_X1_24.2.1, cm_X1_24.2.2.1, cm_X1_24.2.2.2.1, cm_X1_24.2.2.2.2⟩, xT_3 96 rfl rfl, xT_3 97 rfl rfl, _, rfl, rfl⟩
theorem eX1_weigh_4 : x_istore mX1_weigh 4 4 6 := Or.inr ⟨by decide +kernel, rfl⟩
theorem eX1_weigh_6 : x_aload mX1_weigh 6 0 7 := Or.inl ⟨0, by decide +kernel, rfl, rfl⟩
theorem eX1_weigh_7 : xK mX1_weigh 7 (nI 0) 8 := Or.inl (⟨0, by decide +kernel, by decide, rfl⟩)
theorem eX1_weigh_8 : xPF mX1_weigh 8 1 2 (.int) 11 := ⟨28, _, by decide +kernel, rfl, fl_X1_28, fun h => by cases h⟩
theorem eX1_weigh_11 : x_aload mX1_weigh 11 0 12 := Or.inl ⟨0, by decide +kernel, rfl, rfl⟩
theorem eX1_weigh_12 : x_iload mX1_weigh 12 4 14 := Or.inr ⟨by decide +kernel, rfl⟩
theorem eX1_weigh_14 : xK mX1_weigh 14 (nI 0) 15 := Or.inl (⟨0, by decide +kernel, by decide, rfl⟩)
theorem eX1_weigh_15 : xK mX1_weigh 15 (nI 10) 17 := Or.inr (Or.inl (⟨10, by decide +kernel, by decide, rfl⟩))
set_option maxRecDepth 20000 in
theorem eX1_weigh_17 : xCS mX1_weigh 17 mX1_weightOf 3 20 := ⟨32, by decide +kernel, rfl, ⟨cm_X1_32.1, cm_X1_32.2.1, cm_X1_32.2.2.1, cm_X1_32.2.2.2.1, cm_X1_32.2.2.2.2⟩, xT_3 232 rfl rfl⟩
theorem eX1_weigh_20 : xPF mX1_weigh 20 1 3 (.int) 23 := ⟨36, _, by decide +kernel, rfl, fl_X1_36, fun h => by cases h⟩
theorem eX1_weigh_23 : xK mX1_weigh 23 (nI 0) 24 := Or.inl (⟨0, by decide +kernel, by decide, rfl⟩)
theorem eX1_weigh_24 : x_istore mX1_weigh 24 5 26 := Or.inr ⟨by decide +kernel, rfl⟩
theorem eX1_weigh_26 : x_iload mX1_weigh 26 5 28 := Or.inr ⟨by decide +kernel, rfl⟩
theorem eX1_weigh_28 : xK mX1_weigh 28 (nI 128) 31 := Or.inr (Or.inr (Or.inl (⟨128, by decide +kernel, by decide, rfl⟩)))
theorem eX1_weigh_31 : xJ mX1_weigh 31 (.if_icmp .ge) 83 34 := ⟨(52), by decide +kernel, by decide, rfl⟩
theorem eX1_weigh_34 : x_iload mX1_weigh 34 5 36 := Or.inr ⟨by decide +kernel, rfl⟩
theorem eX1_weigh_36 : x_iload mX1_weigh 36 4 38 := Or.inr ⟨by decide +kernel, rfl⟩
theorem eX1_weigh_38 : xK mX1_weigh 38 ((-1)) 39 := Or.inl (⟨(-1), by decide +kernel, by decide, rfl⟩)
theorem eX1_weigh_39 : xD mX1_weigh 39 (.ixor) 1 40 := ⟨by decide +kernel, rfl⟩
theorem eX1_weigh_40 : xD mX1_weigh 40 (.iand) 1 41 := ⟨by decide +kernel, rfl⟩
theorem eX1_weigh_41 : xJ mX1_weigh 41 (.ifCond .ne) 77 44 := ⟨(36), by decide +kernel, by decide, rfl⟩
theorem eX1_weigh_44 : x_aload mX1_weigh 44 0 45 := Or.inl ⟨0, by decide +kernel, rfl, rfl⟩
theorem eX1_weigh_45 : x_aload mX1_weigh 45 1 46 := Or.inl ⟨1, by decide +kernel, rfl, rfl⟩
theorem eX1_weigh_46 : x_iload mX1_weigh 46 5 48 := Or.inr ⟨by decide +kernel, rfl⟩
set_option maxRecDepth 20000 in
theorem eX1_weigh_48 : xCV mX1_weigh 48 mX1_foundWith 2 1 51 := ⟨39, by decide +kernel, rfl, ⟨cm_X1_39.1, cm_X1_39.2.1, cm_X1_39.2.2.1, cm_X1_39.2.2.2.1, cm_X1_39.2.2.2.2⟩, xT_3 236 rfl rfl, xT_0 16 rfl rfl, _, rfl, rfl⟩
theorem eX1_weigh_51 : x_iload mX1_weigh 51 2 52 := Or.inl ⟨2, by decide +kernel, rfl, rfl⟩
theorem eX1_weigh_52 : xJ mX1_weigh 52 (.if_icmp .lt) 77 55 := ⟨(25), by decide +kernel, by decide, rfl⟩
theorem eX1_weigh_55 : x_aload mX1_weigh 55 0 56 := Or.inl ⟨0, by decide +kernel, rfl, rfl⟩
theorem eX1_weigh_56 : xD mX1_weigh 56 (.dup) 1 57 := ⟨by decide +kernel, rfl⟩
theorem eX1_weigh_57 : xGF mX1_weigh 57 1 2 60 := ⟨28, _, _, by decide +kernel, rfl, fl_X1_28⟩
theorem eX1_weigh_60 : x_iload mX1_weigh 60 5 62 := Or.inr ⟨by decide +kernel, rfl⟩
theorem eX1_weigh_62 : x_iload mX1_weigh 62 4 64 := Or.inr ⟨by decide +kernel, rfl⟩
theorem eX1_weigh_64 : x_iload mX1_weigh 64 5 66 := Or.inr ⟨by decide +kernel, rfl⟩
theorem eX1_weigh_66 : xK mX1_weigh 66 ((-1)) 67 := Or.inl (⟨(-1), by decide +kernel, by decide, rfl⟩)
theorem eX1_weigh_67 : xD mX1_weigh 67 (.ixor) 1 68 := ⟨by decide +kernel, rfl⟩
theorem eX1_weigh_68 : xD mX1_weigh 68 (.iand) 1 69 := ⟨by decide +kernel, rfl⟩
theorem eX1_weigh_69 : x_iload mX1_weigh 69 3 70 := Or.inl ⟨3, by decide +kernel, rfl, rfl⟩
set_option maxRecDepth 20000 in
theorem eX1_weigh_70 : xCS mX1_weigh 70 mX1_weightOf 3 73 := ⟨32, by decide +kernel, rfl, ⟨cm_X1_32.1, cm_X1_32.2.1, cm_X1_32.2.2.1, cm_X1_32.2.2.2.1, cm_X1_32.2.2.2.2⟩, xT_3 232 rfl rfl⟩
theorem eX1_weigh_73 : xD mX1_weigh 73 (.iadd) 1 74 := ⟨by decide +kernel, rfl⟩
theorem eX1_weigh_74 : xPF mX1_weigh 74 1 2 (.int) 77 := ⟨28, _, by decide +kernel, rfl, fl_X1_28, fun h => by cases h⟩
theorem eX1_weigh_77 : xD mX1_weigh 77 (.iinc 5 1) 3 80 := ⟨by decide +kernel, rfl⟩
theorem eX1_weigh_80 : xJ mX1_weigh 80 (.goto) 26 83 := ⟨(-54), by decide +kernel, by decide, rfl⟩
theorem eX1_weigh_83 : x_aload mX1_weigh 83 0 84 := Or.inl ⟨0, by decide +kernel, rfl, rfl⟩
theorem eX1_weigh_84 : xGF mX1_weigh 84 1 2 87 := ⟨28, _, _, by decide +kernel, rfl, fl_X1_28⟩
theorem eX1_weigh_87 : x_aload mX1_weigh 87 0 88 := Or.inl ⟨0, by decide +kernel, rfl, rfl⟩
theorem eX1_weigh_88 : xGF mX1_weigh 88 1 3 91 := ⟨36, _, _, by decide +kernel, rfl, fl_X1_36⟩
set_option maxRecDepth 20000 in
theorem eX1_weigh_91 : xCS mX1_weigh 91 mX1_commonDivisor 2 94 := ⟨43, by decide +kernel, rfl, ⟨cm_X1_43.1, cm_X1_43.2.1, cm_X1_43.2.2.1, cm_X1_43.2.2.2.1, cm_X1_43.2.2.2.2⟩, xT_4 3 rfl rfl⟩
theorem eX1_weigh_94 : x_istore mX1_weigh 94 5 96 := Or.inr ⟨by decide +kernel, rfl⟩
theorem eX1_weigh_96 : x_iload mX1_weigh 96 5 98 := Or.inr ⟨by decide +kernel, rfl⟩
theorem eX1_weigh_98 : xJ mX1_weigh 98 (.ifCond .le) 123 101 := ⟨(25), by decide +kernel, by decide, rfl⟩
theorem eX1_weigh_101 : x_aload mX1_weigh 101 0 102 := Or.inl ⟨0, by decide +kernel, rfl, rfl⟩
theorem eX1_weigh_102 : xD mX1_weigh 102 (.dup) 1 103 := ⟨by decide +kernel, rfl⟩
theorem eX1_weigh_103 : xGF mX1_weigh 103 1 2 106 := ⟨28, _, _, by decide +kernel, rfl, fl_X1_28⟩
theorem eX1_weigh_106 : x_iload mX1_weigh 106 5 108 := Or.inr ⟨by decide +kernel, rfl⟩
theorem eX1_weigh_108 : xD mX1_weigh 108 (.idiv) 1 109 := ⟨by decide +kernel, rfl⟩
theorem eX1_weigh_109 : xPF mX1_weigh 109 1 2 (.int) 112 := ⟨28, _, by decide +kernel, rfl, fl_X1_28, fun h => by cases h⟩
theorem eX1_weigh_112 : x_aload mX1_weigh 112 0 113 := Or.inl ⟨0, by decide +kernel, rfl, rfl⟩
theorem eX1_weigh_113 : xD mX1_weigh 113 (.dup) 1 114 := ⟨by decide +kernel, rfl⟩
theorem eX1_weigh_114 : xGF mX1_weigh 114 1 3 117 := ⟨36, _, _, by decide +kernel, rfl, fl_X1_36⟩
theorem eX1_weigh_117 : x_iload mX1_weigh 117 5 119 := Or.inr ⟨by decide +kernel, rfl⟩
theorem eX1_weigh_119 : xD mX1_weigh 119 (.idiv) 1 120 := ⟨by decide +kernel, rfl⟩
theorem eX1_weigh_120 : xPF mX1_weigh 120 1 3 (.int) 123 := ⟨36, _, by decide +kernel, rfl, fl_X1_36, fun h => by cases h⟩
theorem eX1_weigh_123 : xD mX1_weigh 123 (.return_) 1 124 := ⟨by decide +kernel, rfl⟩
theorem eX1_weightOf_0 : xK mX1_weightOf 0 (nI 1) 1 := Or.inl (⟨1, by decide +kernel, by decide, rfl⟩)
theorem eX1_weightOf_1 : x_istore mX1_weightOf 1 3 2 := Or.inl ⟨3, by decide +kernel, rfl, rfl⟩
theorem eX1_weightOf_2 : xK mX1_weightOf 2 (nI 0) 3 := Or.inl (⟨0, by decide +kernel, by decide, rfl⟩)
theorem eX1_weightOf_3 : x_istore mX1_weightOf 3 4 5 := Or.inr ⟨by decide +kernel, rfl⟩
theorem eX1_weightOf_5 : x_iload mX1_weightOf 5 4 7 := Or.inr ⟨by decide +kernel, rfl⟩
theorem eX1_weightOf_7 : xK mX1_weightOf 7 (nI 7) 9 := Or.inr (Or.inl (⟨7, by decide +kernel, by decide, rfl⟩))
theorem eX1_weightOf_9 : xJ mX1_weightOf 9 (.if_icmp .ge) 50 12 := ⟨(41), by decide +kernel, by decide, rfl⟩
theorem eX1_weightOf_12 : x_iload mX1_weightOf 12 0 13 := Or.inl ⟨0, by decide +kernel, rfl, rfl⟩
theorem eX1_weightOf_13 : x_iload mX1_weightOf 13 4 15 := Or.inr ⟨by decide +kernel, rfl⟩
theorem eX1_weightOf_15 : xD mX1_weightOf 15 (.ishr) 1 16 := ⟨by decide +kernel, rfl⟩
theorem eX1_weightOf_16 : xK mX1_weightOf 16 (nI 1) 17 := Or.inl (⟨1, by decide +kernel, by decide, rfl⟩)
theorem eX1_weightOf_17 : xD mX1_weightOf 17 (.iand) 1 18 := ⟨by decide +kernel, rfl⟩
theorem eX1_weightOf_18 : xJ mX1_weightOf 18 (.ifCond .eq) 28 21 := ⟨(10), by decide +kernel, by decide, rfl⟩
theorem eX1_weightOf_21 : x_iload mX1_weightOf 21 3 22 := Or.inl ⟨3, by decide +kernel, rfl, rfl⟩
theorem eX1_weightOf_22 : x_iload mX1_weightOf 22 2 23 := Or.inl ⟨2, by decide +kernel, rfl, rfl⟩
theorem eX1_weightOf_23 : xD mX1_weightOf 23 (.imul) 1 24 := ⟨by decide +kernel, rfl⟩
theorem eX1_weightOf_24 : x_istore mX1_weightOf 24 3 25 := Or.inl ⟨3, by decide +kernel, rfl, rfl⟩
theorem eX1_weightOf_25 : xJ mX1_weightOf 25 (.goto) 44 28 := ⟨(19), by decide +kernel, by decide, rfl⟩
theorem eX1_weightOf_28 : x_iload mX1_weightOf 28 1 29 := Or.inl ⟨1, by decide +kernel, rfl, rfl⟩
theorem eX1_weightOf_29 : x_iload mX1_weightOf 29 4 31 := Or.inr ⟨by decide +kernel, rfl⟩
theorem eX1_weightOf_31 : xD mX1_weightOf 31 (.ishr) 1 32 := ⟨by decide +kernel, rfl⟩
theorem eX1_weightOf_32 : xK mX1_weightOf 32 (nI 1) 33 := Or.inl (⟨1, by decide +kernel, by decide, rfl⟩)
theorem eX1_weightOf_33 : xD mX1_weightOf 33 (.iand) 1 34 := ⟨by decide +kernel, rfl⟩
theorem eX1_weightOf_34 : xJ mX1_weightOf 34 (.ifCond .eq) 44 37 := ⟨(10), by decide +kernel, by decide, rfl⟩
theorem eX1_weightOf_37 : x_iload mX1_weightOf 37 3 38 := Or.inl ⟨3, by decide +kernel, rfl, rfl⟩
theorem eX1_weightOf_38 : xK mX1_weightOf 38 (nI 10) 40 := Or.inr (Or.inl (⟨10, by decide +kernel, by decide, rfl⟩))
theorem eX1_weightOf_40 : x_iload mX1_weightOf 40 2 41 := Or.inl ⟨2, by decide +kernel, rfl, rfl⟩
theorem eX1_weightOf_41 : xD mX1_weightOf 41 (.isub) 1 42 := ⟨by decide +kernel, rfl⟩
theorem eX1_weightOf_42 : xD mX1_weightOf 42 (.imul) 1 43 := ⟨by decide +kernel, rfl⟩
theorem eX1_weightOf_43 : x_istore mX1_weightOf 43 3 44 := Or.inl ⟨3, by decide +kernel, rfl, rfl⟩
theorem eX1_weightOf_44 : xD mX1_weightOf 44 (.iinc 4 1) 3 47 := ⟨by decide +kernel, rfl⟩
theorem eX1_weightOf_47 : xJ mX1_weightOf 47 (.goto) 5 50 := ⟨(-42), by decide +kernel, by decide, rfl⟩
theorem eX1_weightOf_50 : x_iload mX1_weightOf 50 3 51 := Or.inl ⟨3, by decide +kernel, rfl, rfl⟩
theorem eX1_weightOf_51 : xD mX1_weightOf 51 (.ireturn) 1 52 := ⟨by decide +kernel, rfl⟩
theorem eX1_foundWith_0 : x_aload mX1_foundWith 0 0 1 := Or.inl ⟨0, by decide +kernel, rfl, rfl⟩
theorem eX1_foundWith_1 : xGF mX1_foundWith 1 1 0 4 := ⟨9, _, _, by decide +kernel, rfl, fl_X1_9⟩
theorem eX1_foundWith_4 : xGF mX1_foundWith 4 2 7 7 := ⟨47, _, _, by decide +kernel, rfl, fl_X1_47⟩
theorem eX1_foundWith_7 : x_iload mX1_foundWith 7 2 8 := Or.inl ⟨2, by decide +kernel, rfl, rfl⟩
theorem eX1_foundWith_8 : xD mX1_foundWith 8 (.ior) 1 9 := ⟨by decide +kernel, rfl⟩
theorem eX1_foundWith_9 : x_istore mX1_foundWith 9 3 10 := Or.inl ⟨3, by decide +kernel, rfl, rfl⟩
theorem eX1_foundWith_10 : x_aload mX1_foundWith 10 0 11 := Or.inl ⟨0, by decide +kernel, rfl, rfl⟩
theorem eX1_foundWith_11 : xGF mX1_foundWith 11 1 1 14 := ⟨20, _, _, by decide +kernel, rfl, fl_X1_20⟩
theorem eX1_foundWith_14 : x_aload mX1_foundWith 14 1 15 := Or.inl ⟨1, by decide +kernel, rfl, rfl⟩
set_option maxRecDepth 20000 in
theorem eX1_foundWith_15 : xCV mX1_foundWith 15 mX0_copyEntries 1 0 18 := ⟨52, by decide +kernel, rfl, ⟨cm_X1_52.1, cm_X1_52.2.1, cm_X1_52.2.2.1, cm_X1_52.2.2.2.1, cm_X1_52.2.2.2.2⟩, xT_3 46 rfl rfl, xT_3 47 rfl rfl, _, rfl, rfl⟩
theorem eX1_foundWith_18 : xK mX1_foundWith 18 (nI 0) 19 := Or.inl (⟨0, by decide +kernel, by decide, rfl⟩)
theorem eX1_foundWith_19 : x_istore mX1_foundWith 19 4 21 := Or.inr ⟨by decide +kernel, rfl⟩
theorem eX1_foundWith_21 : x_iload mX1_foundWith 21 4 23 := Or.inr ⟨by decide +kernel, rfl⟩
theorem eX1_foundWith_23 : x_aload mX1_foundWith 23 0 24 := Or.inl ⟨0, by decide +kernel, rfl, rfl⟩
theorem eX1_foundWith_24 : xGF mX1_foundWith 24 1 0 27 := ⟨9, _, _, by decide +kernel, rfl, fl_X1_9⟩
theorem eX1_foundWith_27 : xGF mX1_foundWith 27 2 5 30 := ⟨56, _, _, by decide +kernel, rfl, fl_X1_56⟩
theorem eX1_foundWith_30 : xJ mX1_foundWith 30 (.if_icmp .ge) 82 33 := ⟨(52), by decide +kernel, by decide, rfl⟩
theorem eX1_foundWith_33 : x_aload mX1_foundWith 33 1 34 := Or.inl ⟨1, by decide +kernel, rfl, rfl⟩
theorem eX1_foundWith_34 : x_iload mX1_foundWith 34 4 36 := Or.inr ⟨by decide +kernel, rfl⟩
set_option maxRecDepth 20000 in
theorem eX1_foundWith_36 : xCV mX1_foundWith 36 mX0_holds 1 0 39 := ⟨59, by decide +kernel, rfl, ⟨cm_X1_59.1, cm_X1_59.2.1, cm_X1_59.2.2.1, cm_X1_59.2.2.2.1, cm_X1_59.2.2.2.2⟩, xT_2 232 rfl rfl, xT_2 233 rfl rfl, _, rfl, rfl⟩
theorem eX1_foundWith_39 : xJ mX1_foundWith 39 (.ifCond .ne) 76 42 := ⟨(37), by decide +kernel, by decide, rfl⟩
theorem eX1_foundWith_42 : x_aload mX1_foundWith 42 0 43 := Or.inl ⟨0, by decide +kernel, rfl, rfl⟩
theorem eX1_foundWith_43 : xGF mX1_foundWith 43 1 1 46 := ⟨20, _, _, by decide +kernel, rfl, fl_X1_20⟩
theorem eX1_foundWith_46 : x_iload mX1_foundWith 46 4 48 := Or.inr ⟨by decide +kernel, rfl⟩
theorem eX1_foundWith_48 : x_iload mX1_foundWith 48 2 49 := Or.inl ⟨2, by decide +kernel, rfl, rfl⟩
theorem eX1_foundWith_49 : x_iload mX1_foundWith 49 4 51 := Or.inr ⟨by decide +kernel, rfl⟩
theorem eX1_foundWith_51 : xD mX1_foundWith 51 (.ishr) 1 52 := ⟨by decide +kernel, rfl⟩
theorem eX1_foundWith_52 : xK mX1_foundWith 52 (nI 1) 53 := Or.inl (⟨1, by decide +kernel, by decide, rfl⟩)
theorem eX1_foundWith_53 : xD mX1_foundWith 53 (.iand) 1 54 := ⟨by decide +kernel, rfl⟩
theorem eX1_foundWith_54 : xJ mX1_foundWith 54 (.ifCond .eq) 61 57 := ⟨(7), by decide +kernel, by decide, rfl⟩
theorem eX1_foundWith_57 : xK mX1_foundWith 57 (nI 0) 58 := Or.inl (⟨0, by decide +kernel, by decide, rfl⟩)
theorem eX1_foundWith_58 : xJ mX1_foundWith 58 (.goto) 71 61 := ⟨(13), by decide +kernel, by decide, rfl⟩
theorem eX1_foundWith_61 : x_aload mX1_foundWith 61 0 62 := Or.inl ⟨0, by decide +kernel, rfl, rfl⟩
theorem eX1_foundWith_62 : xGF mX1_foundWith 62 1 0 65 := ⟨9, _, _, by decide +kernel, rfl, fl_X1_9⟩
theorem eX1_foundWith_65 : xGF mX1_foundWith 65 2 0 68 := ⟨63, _, _, by decide +kernel, rfl, fl_X1_63⟩
theorem eX1_foundWith_68 : x_iload mX1_foundWith 68 4 70 := Or.inr ⟨by decide +kernel, rfl⟩
theorem eX1_foundWith_70 : xD mX1_foundWith 70 (.iaload) 1 71 := ⟨by decide +kernel, rfl⟩
theorem eX1_foundWith_71 : x_iload mX1_foundWith 71 3 72 := Or.inl ⟨3, by decide +kernel, rfl, rfl⟩
set_option maxRecDepth 20000 in
theorem eX1_foundWith_72 : xCV mX1_foundWith 72 mX0_swear 3 0 75 := ⟨67, by decide +kernel, rfl, ⟨cm_X1_67.1, cm_X1_67.2.1, cm_X1_67.2.2.1, cm_X1_67.2.2.2.1, cm_X1_67.2.2.2.2⟩, xT_3 54 rfl rfl, xT_3 55 rfl rfl, _, rfl, rfl⟩
theorem eX1_foundWith_75 : xD mX1_foundWith 75 (.pop) 1 76 := ⟨by decide +kernel, rfl⟩
theorem eX1_foundWith_76 : xD mX1_foundWith 76 (.iinc 4 1) 3 79 := ⟨by decide +kernel, rfl⟩
theorem eX1_foundWith_79 : xJ mX1_foundWith 79 (.goto) 21 82 := ⟨(-58), by decide +kernel, by decide, rfl⟩
theorem eX1_foundWith_82 : x_aload mX1_foundWith 82 0 83 := Or.inl ⟨0, by decide +kernel, rfl, rfl⟩
theorem eX1_foundWith_83 : xGF mX1_foundWith 83 1 1 86 := ⟨20, _, _, by decide +kernel, rfl, fl_X1_20⟩
set_option maxRecDepth 20000 in
theorem eX1_foundWith_86 : xCV mX1_foundWith 86 mX0_found 0 0 89 := ⟨70, by decide +kernel, rfl, ⟨cm_X1_70.1, cm_X1_70.2.1, cm_X1_70.2.2.1, cm_X1_70.2.2.2.1, cm_X1_70.2.2.2.2⟩, xT_3 157 rfl rfl, xT_3 158 rfl rfl, _, rfl, rfl⟩
theorem eX1_foundWith_89 : xD mX1_foundWith 89 (.ireturn) 1 90 := ⟨by decide +kernel, rfl⟩
theorem eX1_commonDivisor_0 : x_iload mX1_commonDivisor 0 0 1 := Or.inl ⟨0, by decide +kernel, rfl, rfl⟩
theorem eX1_commonDivisor_1 : x_istore mX1_commonDivisor 1 2 2 := Or.inl ⟨2, by decide +kernel, rfl, rfl⟩
theorem eX1_commonDivisor_2 : x_iload mX1_commonDivisor 2 1 3 := Or.inl ⟨1, by decide +kernel, rfl, rfl⟩
theorem eX1_commonDivisor_3 : x_istore mX1_commonDivisor 3 3 4 := Or.inl ⟨3, by decide +kernel, rfl, rfl⟩
theorem eX1_commonDivisor_4 : xK mX1_commonDivisor 4 (nI 0) 5 := Or.inl (⟨0, by decide +kernel, by decide, rfl⟩)
theorem eX1_commonDivisor_5 : x_istore mX1_commonDivisor 5 4 7 := Or.inr ⟨by decide +kernel, rfl⟩
theorem eX1_commonDivisor_7 : x_iload mX1_commonDivisor 7 4 9 := Or.inr ⟨by decide +kernel, rfl⟩
theorem eX1_commonDivisor_9 : xK mX1_commonDivisor 9 (nI 64) 11 := Or.inr (Or.inl (⟨64, by decide +kernel, by decide, rfl⟩))
theorem eX1_commonDivisor_11 : xJ mX1_commonDivisor 11 (.if_icmp .ge) 34 14 := ⟨(23), by decide +kernel, by decide, rfl⟩
theorem eX1_commonDivisor_14 : x_iload mX1_commonDivisor 14 3 15 := Or.inl ⟨3, by decide +kernel, rfl, rfl⟩
theorem eX1_commonDivisor_15 : xJ mX1_commonDivisor 15 (.ifCond .eq) 34 18 := ⟨(19), by decide +kernel, by decide, rfl⟩
theorem eX1_commonDivisor_18 : x_iload mX1_commonDivisor 18 2 19 := Or.inl ⟨2, by decide +kernel, rfl, rfl⟩
theorem eX1_commonDivisor_19 : x_iload mX1_commonDivisor 19 3 20 := Or.inl ⟨3, by decide +kernel, rfl, rfl⟩
theorem eX1_commonDivisor_20 : xD mX1_commonDivisor 20 (.irem) 1 21 := ⟨by decide +kernel, rfl⟩
theorem eX1_commonDivisor_21 : x_istore mX1_commonDivisor 21 5 23 := Or.inr ⟨by decide +kernel, rfl⟩
theorem eX1_commonDivisor_23 : x_iload mX1_commonDivisor 23 3 24 := Or.inl ⟨3, by decide +kernel, rfl, rfl⟩
theorem eX1_commonDivisor_24 : x_istore mX1_commonDivisor 24 2 25 := Or.inl ⟨2, by decide +kernel, rfl, rfl⟩
theorem eX1_commonDivisor_25 : x_iload mX1_commonDivisor 25 5 27 := Or.inr ⟨by decide +kernel, rfl⟩
theorem eX1_commonDivisor_27 : x_istore mX1_commonDivisor 27 3 28 := Or.inl ⟨3, by decide +kernel, rfl, rfl⟩
theorem eX1_commonDivisor_28 : xD mX1_commonDivisor 28 (.iinc 4 1) 3 31 := ⟨by decide +kernel, rfl⟩
theorem eX1_commonDivisor_31 : xJ mX1_commonDivisor 31 (.goto) 7 34 := ⟨(-24), by decide +kernel, by decide, rfl⟩
theorem eX1_commonDivisor_34 : x_iload mX1_commonDivisor 34 2 35 := Or.inl ⟨2, by decide +kernel, rfl, rfl⟩
theorem eX1_commonDivisor_35 : xD mX1_commonDivisor 35 (.ireturn) 1 36 := ⟨by decide +kernel, rfl⟩
theorem eX2_init_0 : x_aload mX2_init 0 0 1 := Or.inl ⟨0, by decide +kernel, rfl, rfl⟩
theorem eX2_init_4 : x_aload mX2_init 4 0 5 := Or.inl ⟨0, by decide +kernel, rfl, rfl⟩
theorem eX2_init_5 : xK mX2_init 5 (nI 7) 7 := Or.inr (Or.inl (⟨7, by decide +kernel, by decide, rfl⟩))
set_option maxRecDepth 20000 in
theorem eX2_init_9 : xPF mX2_init 9 2 0 (.array .int) 12 := ⟨9, _, by decide +kernel, rfl, fl_X2_9, fun _ => ⟨rfl, ⟨_, rfl, rfl⟩, _, rfl, xT_1 66 rfl rfl⟩⟩
theorem eX2_init_12 : x_aload mX2_init 12 0 13 := Or.inl ⟨0, by decide +kernel, rfl, rfl⟩
theorem eX2_init_13 : xK mX2_init 13 (nI 7) 15 := Or.inr (Or.inl (⟨7, by decide +kernel, by decide, rfl⟩))
set_option maxRecDepth 20000 in
theorem eX2_init_17 : xPF mX2_init 17 2 1 (.array .int) 20 := ⟨15, _, by decide +kernel, rfl, fl_X2_15, fun _ => ⟨rfl, ⟨_, rfl, rfl⟩, _, rfl, xT_1 71 rfl rfl⟩⟩
theorem eX2_init_20 : x_aload mX2_init 20 0 21 := Or.inl ⟨0, by decide +kernel, rfl, rfl⟩
theorem eX2_init_21 : xK mX2_init 21 (nI 3) 22 := Or.inl (⟨3, by decide +kernel, by decide, rfl⟩)
set_option maxRecDepth 20000 in
theorem eX2_init_24 : xPF mX2_init 24 2 2 (.array .int) 27 := ⟨18, _, by decide +kernel, rfl, fl_X2_18, fun _ => ⟨rfl, ⟨_, rfl, rfl⟩, _, rfl, xT_1 73 rfl rfl⟩⟩
theorem eX2_init_27 : x_aload mX2_init 27 0 28 := Or.inl ⟨0, by decide +kernel, rfl, rfl⟩
theorem eX2_init_28 : xK mX2_init 28 (nI 7) 30 := Or.inr (Or.inl (⟨7, by decide +kernel, by decide, rfl⟩))
set_option maxRecDepth 20000 in
theorem eX2_init_32 : xPF mX2_init 32 2 3 (.array .int) 35 := ⟨21, _, by decide +kernel, rfl, fl_X2_21, fun _ => ⟨rfl, ⟨_, rfl, rfl⟩, _, rfl, xT_1 75 rfl rfl⟩⟩
theorem eX2_init_35 : x_aload mX2_init 35 0 36 := Or.inl ⟨0, by decide +kernel, rfl, rfl⟩
theorem eX2_init_36 : xK mX2_init 36 (nI 7) 38 := Or.inr (Or.inl (⟨7, by decide +kernel, by decide, rfl⟩))
theorem eX2_init_38 : xK mX2_init 38 (nI 7) 40 := Or.inr (Or.inl (⟨7, by decide +kernel, by decide, rfl⟩))
set_option maxRecDepth 20000 in
theorem eX2_init_44 : xPF mX2_init 44 2 4 (.array (.array .int)) 47 := ⟨26, _, by decide +kernel, rfl, fl_X2_26, fun _ => ⟨rfl, ⟨_, rfl, rfl⟩, _, rfl, xT_1 78 rfl rfl⟩⟩
theorem eX2_init_47 : xD mX2_init 47 (.return_) 1 48 := ⟨by decide +kernel, rfl⟩
theorem eX2_clear_0 : x_aload mX2_clear 0 0 1 := Or.inl ⟨0, by decide +kernel, rfl, rfl⟩
theorem eX2_clear_1 : xK mX2_clear 1 (nI 0) 2 := Or.inl (⟨0, by decide +kernel, by decide, rfl⟩)
theorem eX2_clear_2 : xPF mX2_clear 2 2 5 (.int) 5 := ⟨29, _, by decide +kernel, rfl, fl_X2_29, fun h => by cases h⟩
theorem eX2_clear_5 : x_aload mX2_clear 5 0 6 := Or.inl ⟨0, by decide +kernel, rfl, rfl⟩
theorem eX2_clear_6 : xK mX2_clear 6 (nI 0) 7 := Or.inl (⟨0, by decide +kernel, by decide, rfl⟩)
theorem eX2_clear_7 : xPF mX2_clear 7 2 6 (.int) 10 := ⟨33, _, by decide +kernel, rfl, fl_X2_33, fun h => by cases h⟩
theorem eX2_clear_10 : x_aload mX2_clear 10 0 11 := Or.inl ⟨0, by decide +kernel, rfl, rfl⟩
theorem eX2_clear_11 : xK mX2_clear 11 (nI 0) 12 := Or.inl (⟨0, by decide +kernel, by decide, rfl⟩)
theorem eX2_clear_12 : xPF mX2_clear 12 2 7 (.int) 15 := ⟨36, _, by decide +kernel, rfl, fl_X2_36, fun h => by cases h⟩
theorem eX2_clear_15 : x_aload mX2_clear 15 0 16 := Or.inl ⟨0, by decide +kernel, rfl, rfl⟩
theorem eX2_clear_16 : xGF mX2_clear 16 2 0 19 := ⟨9, _, _, by decide +kernel, rfl, fl_X2_9⟩
theorem eX2_clear_19 : xK mX2_clear 19 (nI 0) 20 := Or.inl (⟨0, by decide +kernel, by decide, rfl⟩)
set_option maxRecDepth 20000 in
theorem eX2_clear_20 : xCS mX2_clear 20 mJ7_fill_53178 2 23 := ⟨39, by decide +kernel, rfl, ⟨cm_X2_39.1, cm_X2_39.2.1, cm_X2_39.2.2.1, cm_X2_39.2.2.2.1, cm_X2_39.2.2.2.2⟩, xT_2 102 rfl rfl⟩
theorem eX2_clear_23 : x_aload mX2_clear 23 0 24 := Or.inl ⟨0, by decide +kernel, rfl, rfl⟩
theorem eX2_clear_24 : xGF mX2_clear 24 2 1 27 := ⟨15, _, _, by decide +kernel, rfl, fl_X2_15⟩
theorem eX2_clear_27 : xK mX2_clear 27 (nI 0) 28 := Or.inl (⟨0, by decide +kernel, by decide, rfl⟩)
set_option maxRecDepth 20000 in
theorem eX2_clear_28 : xCS mX2_clear 28 mJ7_fill_53178 2 31 := ⟨39, by decide +kernel, rfl, ⟨cm_X2_39.1, cm_X2_39.2.1, cm_X2_39.2.2.1, cm_X2_39.2.2.2.1, cm_X2_39.2.2.2.2⟩, xT_2 102 rfl rfl⟩
theorem eX2_clear_31 : x_aload mX2_clear 31 0 32 := Or.inl ⟨0, by decide +kernel, rfl, rfl⟩
theorem eX2_clear_32 : xGF mX2_clear 32 2 2 35 := ⟨18, _, _, by decide +kernel, rfl, fl_X2_18⟩
theorem eX2_clear_35 : xK mX2_clear 35 (nI 0) 36 := Or.inl (⟨0, by decide +kernel, by decide, rfl⟩)
set_option maxRecDepth 20000 in
theorem eX2_clear_36 : xCS mX2_clear 36 mJ7_fill_53178 2 39 := ⟨39, by decide +kernel, rfl, ⟨cm_X2_39.1, cm_X2_39.2.1, cm_X2_39.2.2.1, cm_X2_39.2.2.2.1, cm_X2_39.2.2.2.2⟩, xT_2 102 rfl rfl⟩
theorem eX2_clear_39 : x_aload mX2_clear 39 0 40 := Or.inl ⟨0, by decide +kernel, rfl, rfl⟩
theorem eX2_clear_40 : xGF mX2_clear 40 2 3 43 := ⟨21, _, _, by decide +kernel, rfl, fl_X2_21⟩
theorem eX2_clear_43 : xK mX2_clear 43 (nI 0) 44 := Or.inl (⟨0, by decide +kernel, by decide, rfl⟩)
set_option maxRecDepth 20000 in
theorem eX2_clear_44 : xCS mX2_clear 44 mJ7_fill_53178 2 47 := ⟨39, by decide +kernel, rfl, ⟨cm_X2_39.1, cm_X2_39.2.1, cm_X2_39.2.2.1, cm_X2_39.2.2.2.1, cm_X2_39.2.2.2.2⟩, xT_2 102 rfl rfl⟩
theorem eX2_clear_47 : xK mX2_clear 47 (nI 0) 48 := Or.inl (⟨0, by decide +kernel, by decide, rfl⟩)
theorem eX2_clear_48 : x_istore mX2_clear 48 1 49 := Or.inl ⟨1, by decide +kernel, rfl, rfl⟩
theorem eX2_clear_49 : x_iload mX2_clear 49 1 50 := Or.inl ⟨1, by decide +kernel, rfl, rfl⟩
theorem eX2_clear_50 : xK mX2_clear 50 (nI 7) 52 := Or.inr (Or.inl (⟨7, by decide +kernel, by decide, rfl⟩))
theorem eX2_clear_52 : xJ mX2_clear 52 (.if_icmp .ge) 94 55 := ⟨(42), by decide +kernel, by decide, rfl⟩
theorem eX2_clear_55 : xK mX2_clear 55 (nI 0) 56 := Or.inl (⟨0, by decide +kernel, by decide, rfl⟩)
theorem eX2_clear_56 : x_istore mX2_clear 56 2 57 := Or.inl ⟨2, by decide +kernel, rfl, rfl⟩
theorem eX2_clear_57 : x_iload mX2_clear 57 2 58 := Or.inl ⟨2, by decide +kernel, rfl, rfl⟩
theorem eX2_clear_58 : xK mX2_clear 58 (nI 7) 60 := Or.inr (Or.inl (⟨7, by decide +kernel, by decide, rfl⟩))
theorem eX2_clear_60 : xJ mX2_clear 60 (.if_icmp .ge) 88 63 := ⟨(28), by decide +kernel, by decide, rfl⟩
theorem eX2_clear_63 : x_aload mX2_clear 63 0 64 := Or.inl ⟨0, by decide +kernel, rfl, rfl⟩
theorem eX2_clear_64 : xGF mX2_clear 64 2 4 67 := ⟨26, _, _, by decide +kernel, rfl, fl_X2_26⟩
theorem eX2_clear_67 : x_iload mX2_clear 67 1 68 := Or.inl ⟨1, by decide +kernel, rfl, rfl⟩
theorem eX2_clear_68 : xD mX2_clear 68 (.aaload) 1 69 := ⟨by decide +kernel, rfl⟩
theorem eX2_clear_69 : x_iload mX2_clear 69 2 70 := Or.inl ⟨2, by decide +kernel, rfl, rfl⟩
theorem eX2_clear_70 : x_iload mX2_clear 70 1 71 := Or.inl ⟨1, by decide +kernel, rfl, rfl⟩
theorem eX2_clear_71 : x_iload mX2_clear 71 2 72 := Or.inl ⟨2, by decide +kernel, rfl, rfl⟩
theorem eX2_clear_72 : xJ mX2_clear 72 (.if_icmp .ne) 79 75 := ⟨(7), by decide +kernel, by decide, rfl⟩
theorem eX2_clear_75 : xK mX2_clear 75 (nI 0) 76 := Or.inl (⟨0, by decide +kernel, by decide, rfl⟩)
theorem eX2_clear_76 : xJ mX2_clear 76 (.goto) 81 79 := ⟨(5), by decide +kernel, by decide, rfl⟩
set_option maxRecDepth 20000 in
theorem eX2_clear_79 : xK mX2_clear 79 (nI 1000000) 81 := Or.inr (Or.inr (Or.inr (Or.inl (⟨45, by decide +kernel, xT_2 104 rfl rfl, rfl⟩))))
theorem eX2_clear_81 : xD mX2_clear 81 (.iastore) 1 82 := ⟨by decide +kernel, rfl⟩
theorem eX2_clear_82 : xD mX2_clear 82 (.iinc 2 1) 3 85 := ⟨by decide +kernel, rfl⟩
theorem eX2_clear_85 : xJ mX2_clear 85 (.goto) 57 88 := ⟨(-28), by decide +kernel, by decide, rfl⟩
theorem eX2_clear_88 : xD mX2_clear 88 (.iinc 1 1) 3 91 := ⟨by decide +kernel, rfl⟩
theorem eX2_clear_91 : xJ mX2_clear 91 (.goto) 49 94 := ⟨(-42), by decide +kernel, by decide, rfl⟩
theorem eX2_clear_94 : xD mX2_clear 94 (.return_) 1 95 := ⟨by decide +kernel, rfl⟩
theorem eX2_addVillage_0 : x_aload mX2_addVillage 0 0 1 := Or.inl ⟨0, by decide +kernel, rfl, rfl⟩
theorem eX2_addVillage_1 : xGF mX2_addVillage 1 2 5 4 := ⟨29, _, _, by decide +kernel, rfl, fl_X2_29⟩
theorem eX2_addVillage_4 : xK mX2_addVillage 4 (nI 7) 6 := Or.inr (Or.inl (⟨7, by decide +kernel, by decide, rfl⟩))
theorem eX2_addVillage_6 : xJ mX2_addVillage 6 (.if_icmp .ge) 28 9 := ⟨(22), by decide +kernel, by decide, rfl⟩
theorem eX2_addVillage_9 : x_iload mX2_addVillage 9 1 10 := Or.inl ⟨1, by decide +kernel, rfl, rfl⟩
theorem eX2_addVillage_10 : xK mX2_addVillage 10 (nI 0) 11 := Or.inl (⟨0, by decide +kernel, by decide, rfl⟩)
theorem eX2_addVillage_11 : xK mX2_addVillage 11 (nI 4) 12 := Or.inl (⟨4, by decide +kernel, by decide, rfl⟩)
set_option maxRecDepth 20000 in
theorem eX2_addVillage_12 : xCS mX2_addVillage 12 mX9_isWithin 3 15 := ⟨46, by decide +kernel, rfl, ⟨cm_X2_46.1, cm_X2_46.2.1, cm_X2_46.2.2.1, cm_X2_46.2.2.2.1, cm_X2_46.2.2.2.2⟩, xT_2 126 rfl rfl⟩
theorem eX2_addVillage_15 : xJ mX2_addVillage 15 (.ifCond .eq) 28 18 := ⟨(13), by decide +kernel, by decide, rfl⟩
theorem eX2_addVillage_18 : x_iload mX2_addVillage 18 2 19 := Or.inl ⟨2, by decide +kernel, rfl, rfl⟩
theorem eX2_addVillage_19 : xK mX2_addVillage 19 (nI 0) 20 := Or.inl (⟨0, by decide +kernel, by decide, rfl⟩)
theorem eX2_addVillage_20 : xK mX2_addVillage 20 (nI 60) 22 := Or.inr (Or.inl (⟨60, by decide +kernel, by decide, rfl⟩))
set_option maxRecDepth 20000 in
theorem eX2_addVillage_22 : xCS mX2_addVillage 22 mX9_isWithin 3 25 := ⟨46, by decide +kernel, rfl, ⟨cm_X2_46.1, cm_X2_46.2.1, cm_X2_46.2.2.1, cm_X2_46.2.2.2.1, cm_X2_46.2.2.2.2⟩, xT_2 126 rfl rfl⟩
theorem eX2_addVillage_25 : xJ mX2_addVillage 25 (.ifCond .ne) 30 28 := ⟨(5), by decide +kernel, by decide, rfl⟩
theorem eX2_addVillage_28 : xK mX2_addVillage 28 (nI 0) 29 := Or.inl (⟨0, by decide +kernel, by decide, rfl⟩)
theorem eX2_addVillage_29 : xD mX2_addVillage 29 (.ireturn) 1 30 := ⟨by decide +kernel, rfl⟩
theorem eX2_addVillage_30 : x_aload mX2_addVillage 30 0 31 := Or.inl ⟨0, by decide +kernel, rfl, rfl⟩
theorem eX2_addVillage_31 : xGF mX2_addVillage 31 2 0 34 := ⟨9, _, _, by decide +kernel, rfl, fl_X2_9⟩
theorem eX2_addVillage_34 : x_aload mX2_addVillage 34 0 35 := Or.inl ⟨0, by decide +kernel, rfl, rfl⟩
theorem eX2_addVillage_35 : xGF mX2_addVillage 35 2 5 38 := ⟨29, _, _, by decide +kernel, rfl, fl_X2_29⟩
theorem eX2_addVillage_38 : x_iload mX2_addVillage 38 1 39 := Or.inl ⟨1, by decide +kernel, rfl, rfl⟩
theorem eX2_addVillage_39 : xD mX2_addVillage 39 (.iastore) 1 40 := ⟨by decide +kernel, rfl⟩
theorem eX2_addVillage_40 : x_aload mX2_addVillage 40 0 41 := Or.inl ⟨0, by decide +kernel, rfl, rfl⟩
theorem eX2_addVillage_41 : xGF mX2_addVillage 41 2 1 44 := ⟨15, _, _, by decide +kernel, rfl, fl_X2_15⟩
theorem eX2_addVillage_44 : x_aload mX2_addVillage 44 0 45 := Or.inl ⟨0, by decide +kernel, rfl, rfl⟩
theorem eX2_addVillage_45 : xGF mX2_addVillage 45 2 5 48 := ⟨29, _, _, by decide +kernel, rfl, fl_X2_29⟩
theorem eX2_addVillage_48 : x_iload mX2_addVillage 48 2 49 := Or.inl ⟨2, by decide +kernel, rfl, rfl⟩
theorem eX2_addVillage_49 : xD mX2_addVillage 49 (.iastore) 1 50 := ⟨by decide +kernel, rfl⟩
theorem eX2_addVillage_50 : x_iload mX2_addVillage 50 1 51 := Or.inl ⟨1, by decide +kernel, rfl, rfl⟩
theorem eX2_addVillage_51 : xJ mX2_addVillage 51 (.ifCond .ne) 69 54 := ⟨(18), by decide +kernel, by decide, rfl⟩
theorem eX2_addVillage_54 : x_aload mX2_addVillage 54 0 55 := Or.inl ⟨0, by decide +kernel, rfl, rfl⟩
theorem eX2_addVillage_55 : xD mX2_addVillage 55 (.dup) 1 56 := ⟨by decide +kernel, rfl⟩
theorem eX2_addVillage_56 : xGF mX2_addVillage 56 2 7 59 := ⟨36, _, _, by decide +kernel, rfl, fl_X2_36⟩
theorem eX2_addVillage_59 : xK mX2_addVillage 59 (nI 1) 60 := Or.inl (⟨1, by decide +kernel, by decide, rfl⟩)
theorem eX2_addVillage_60 : x_aload mX2_addVillage 60 0 61 := Or.inl ⟨0, by decide +kernel, rfl, rfl⟩
theorem eX2_addVillage_61 : xGF mX2_addVillage 61 2 5 64 := ⟨29, _, _, by decide +kernel, rfl, fl_X2_29⟩
theorem eX2_addVillage_64 : xD mX2_addVillage 64 (.ishl) 1 65 := ⟨by decide +kernel, rfl⟩
theorem eX2_addVillage_65 : xD mX2_addVillage 65 (.ior) 1 66 := ⟨by decide +kernel, rfl⟩
theorem eX2_addVillage_66 : xPF mX2_addVillage 66 2 7 (.int) 69 := ⟨36, _, by decide +kernel, rfl, fl_X2_36, fun h => by cases h⟩
theorem eX2_addVillage_69 : x_aload mX2_addVillage 69 0 70 := Or.inl ⟨0, by decide +kernel, rfl, rfl⟩
theorem eX2_addVillage_70 : xD mX2_addVillage 70 (.dup) 1 71 := ⟨by decide +kernel, rfl⟩
theorem eX2_addVillage_71 : xGF mX2_addVillage 71 2 5 74 := ⟨29, _, _, by decide +kernel, rfl, fl_X2_29⟩
theorem eX2_addVillage_74 : xK mX2_addVillage 74 (nI 1) 75 := Or.inl (⟨1, by decide +kernel, by decide, rfl⟩)
theorem eX2_addVillage_75 : xD mX2_addVillage 75 (.iadd) 1 76 := ⟨by decide +kernel, rfl⟩
theorem eX2_addVillage_76 : xPF mX2_addVillage 76 2 5 (.int) 79 := ⟨29, _, by decide +kernel, rfl, fl_X2_29, fun h => by cases h⟩
theorem eX2_addVillage_79 : xK mX2_addVillage 79 (nI 1) 80 := Or.inl (⟨1, by decide +kernel, by decide, rfl⟩)
theorem eX2_addVillage_80 : xD mX2_addVillage 80 (.ireturn) 1 81 := ⟨by decide +kernel, rfl⟩
theorem eX2_addWay_0 : x_aload mX2_addWay 0 0 1 := Or.inl ⟨0, by decide +kernel, rfl, rfl⟩
theorem eX2_addWay_1 : x_iload mX2_addWay 1 1 2 := Or.inl ⟨1, by decide +kernel, rfl, rfl⟩
set_option maxRecDepth 20000 in
theorem eX2_addWay_2 : xCV mX2_addWay 2 mX2_isTold 1 2 5 := ⟨50, by decide +kernel, rfl, ⟨cm_X2_50.1, cm_X2_50.2.1, cm_X2_50.2.2.1, cm_X2_50.2.2.2.1, cm_X2_50.2.2.2.2⟩, xT_2 134 rfl rfl, xT_0 4 rfl rfl, _, rfl, rfl⟩
theorem eX2_addWay_5 : xJ mX2_addWay 5 (.ifCond .eq) 31 8 := ⟨(26), by decide +kernel, by decide, rfl⟩
theorem eX2_addWay_8 : x_aload mX2_addWay 8 0 9 := Or.inl ⟨0, by decide +kernel, rfl, rfl⟩
theorem eX2_addWay_9 : x_iload mX2_addWay 9 2 10 := Or.inl ⟨2, by decide +kernel, rfl, rfl⟩
set_option maxRecDepth 20000 in
theorem eX2_addWay_10 : xCV mX2_addWay 10 mX2_isTold 1 2 13 := ⟨50, by decide +kernel, rfl, ⟨cm_X2_50.1, cm_X2_50.2.1, cm_X2_50.2.2.1, cm_X2_50.2.2.2.1, cm_X2_50.2.2.2.2⟩, xT_2 134 rfl rfl, xT_0 4 rfl rfl, _, rfl, rfl⟩
theorem eX2_addWay_13 : xJ mX2_addWay 13 (.ifCond .eq) 31 16 := ⟨(18), by decide +kernel, by decide, rfl⟩
theorem eX2_addWay_16 : x_iload mX2_addWay 16 1 17 := Or.inl ⟨1, by decide +kernel, rfl, rfl⟩
theorem eX2_addWay_17 : x_iload mX2_addWay 17 2 18 := Or.inl ⟨2, by decide +kernel, rfl, rfl⟩
theorem eX2_addWay_18 : xJ mX2_addWay 18 (.if_icmp .eq) 31 21 := ⟨(13), by decide +kernel, by decide, rfl⟩
theorem eX2_addWay_21 : x_iload mX2_addWay 21 3 22 := Or.inl ⟨3, by decide +kernel, rfl, rfl⟩
theorem eX2_addWay_22 : xK mX2_addWay 22 (nI 1) 23 := Or.inl (⟨1, by decide +kernel, by decide, rfl⟩)
theorem eX2_addWay_23 : xK mX2_addWay 23 (nI 20) 25 := Or.inr (Or.inl (⟨20, by decide +kernel, by decide, rfl⟩))
set_option maxRecDepth 20000 in
theorem eX2_addWay_25 : xCS mX2_addWay 25 mX9_isWithin 3 28 := ⟨46, by decide +kernel, rfl, ⟨cm_X2_46.1, cm_X2_46.2.1, cm_X2_46.2.2.1, cm_X2_46.2.2.2.1, cm_X2_46.2.2.2.2⟩, xT_2 126 rfl rfl⟩
theorem eX2_addWay_28 : xJ mX2_addWay 28 (.ifCond .ne) 33 31 := ⟨(5), by decide +kernel, by decide, rfl⟩
theorem eX2_addWay_31 : xK mX2_addWay 31 (nI 0) 32 := Or.inl (⟨0, by decide +kernel, by decide, rfl⟩)
theorem eX2_addWay_32 : xD mX2_addWay 32 (.ireturn) 1 33 := ⟨by decide +kernel, rfl⟩
theorem eX2_addWay_33 : x_aload mX2_addWay 33 0 34 := Or.inl ⟨0, by decide +kernel, rfl, rfl⟩
theorem eX2_addWay_34 : xGF mX2_addWay 34 2 4 37 := ⟨26, _, _, by decide +kernel, rfl, fl_X2_26⟩
theorem eX2_addWay_37 : x_iload mX2_addWay 37 1 38 := Or.inl ⟨1, by decide +kernel, rfl, rfl⟩
theorem eX2_addWay_38 : xD mX2_addWay 38 (.aaload) 1 39 := ⟨by decide +kernel, rfl⟩
theorem eX2_addWay_39 : x_iload mX2_addWay 39 2 40 := Or.inl ⟨2, by decide +kernel, rfl, rfl⟩
theorem eX2_addWay_40 : x_iload mX2_addWay 40 3 41 := Or.inl ⟨3, by decide +kernel, rfl, rfl⟩
theorem eX2_addWay_41 : xD mX2_addWay 41 (.iastore) 1 42 := ⟨by decide +kernel, rfl⟩
theorem eX2_addWay_42 : x_aload mX2_addWay 42 0 43 := Or.inl ⟨0, by decide +kernel, rfl, rfl⟩
theorem eX2_addWay_43 : xGF mX2_addWay 43 2 4 46 := ⟨26, _, _, by decide +kernel, rfl, fl_X2_26⟩
theorem eX2_addWay_46 : x_iload mX2_addWay 46 2 47 := Or.inl ⟨2, by decide +kernel, rfl, rfl⟩
theorem eX2_addWay_47 : xD mX2_addWay 47 (.aaload) 1 48 := ⟨by decide +kernel, rfl⟩
theorem eX2_addWay_48 : x_iload mX2_addWay 48 1 49 := Or.inl ⟨1, by decide +kernel, rfl, rfl⟩
theorem eX2_addWay_49 : x_iload mX2_addWay 49 3 50 := Or.inl ⟨3, by decide +kernel, rfl, rfl⟩
theorem eX2_addWay_50 : xD mX2_addWay 50 (.iastore) 1 51 := ⟨by decide +kernel, rfl⟩
theorem eX2_addWay_51 : x_aload mX2_addWay 51 0 52 := Or.inl ⟨0, by decide +kernel, rfl, rfl⟩
theorem eX2_addWay_52 : xGF mX2_addWay 52 2 3 55 := ⟨21, _, _, by decide +kernel, rfl, fl_X2_21⟩
theorem eX2_addWay_55 : x_iload mX2_addWay 55 1 56 := Or.inl ⟨1, by decide +kernel, rfl, rfl⟩
theorem eX2_addWay_56 : xD mX2_addWay 56 (.dup2) 1 57 := ⟨by decide +kernel, rfl⟩
theorem eX2_addWay_57 : xD mX2_addWay 57 (.iaload) 1 58 := ⟨by decide +kernel, rfl⟩
theorem eX2_addWay_58 : xK mX2_addWay 58 (nI 1) 59 := Or.inl (⟨1, by decide +kernel, by decide, rfl⟩)
theorem eX2_addWay_59 : x_iload mX2_addWay 59 2 60 := Or.inl ⟨2, by decide +kernel, rfl, rfl⟩
theorem eX2_addWay_60 : xD mX2_addWay 60 (.ishl) 1 61 := ⟨by decide +kernel, rfl⟩
theorem eX2_addWay_61 : xD mX2_addWay 61 (.ior) 1 62 := ⟨by decide +kernel, rfl⟩
theorem eX2_addWay_62 : xD mX2_addWay 62 (.iastore) 1 63 := ⟨by decide +kernel, rfl⟩
theorem eX2_addWay_63 : x_aload mX2_addWay 63 0 64 := Or.inl ⟨0, by decide +kernel, rfl, rfl⟩
theorem eX2_addWay_64 : xGF mX2_addWay 64 2 3 67 := ⟨21, _, _, by decide +kernel, rfl, fl_X2_21⟩
theorem eX2_addWay_67 : x_iload mX2_addWay 67 2 68 := Or.inl ⟨2, by decide +kernel, rfl, rfl⟩
theorem eX2_addWay_68 : xD mX2_addWay 68 (.dup2) 1 69 := ⟨by decide +kernel, rfl⟩
theorem eX2_addWay_69 : xD mX2_addWay 69 (.iaload) 1 70 := ⟨by decide +kernel, rfl⟩
theorem eX2_addWay_70 : xK mX2_addWay 70 (nI 1) 71 := Or.inl (⟨1, by decide +kernel, by decide, rfl⟩)
theorem eX2_addWay_71 : x_iload mX2_addWay 71 1 72 := Or.inl ⟨1, by decide +kernel, rfl, rfl⟩
theorem eX2_addWay_72 : xD mX2_addWay 72 (.ishl) 1 73 := ⟨by decide +kernel, rfl⟩
theorem eX2_addWay_73 : xD mX2_addWay 73 (.ior) 1 74 := ⟨by decide +kernel, rfl⟩
theorem eX2_addWay_74 : xD mX2_addWay 74 (.iastore) 1 75 := ⟨by decide +kernel, rfl⟩
theorem eX2_addWay_75 : xK mX2_addWay 75 (nI 1) 76 := Or.inl (⟨1, by decide +kernel, by decide, rfl⟩)
theorem eX2_addWay_76 : xD mX2_addWay 76 (.ireturn) 1 77 := ⟨by decide +kernel, rfl⟩
theorem eX2_addParty_0 : x_aload mX2_addParty 0 0 1 := Or.inl ⟨0, by decide +kernel, rfl, rfl⟩
theorem eX2_addParty_1 : xGF mX2_addParty 1 2 6 4 := ⟨33, _, _, by decide +kernel, rfl, fl_X2_33⟩
theorem eX2_addParty_4 : xK mX2_addParty 4 (nI 3) 5 := Or.inl (⟨3, by decide +kernel, by decide, rfl⟩)
theorem eX2_addParty_5 : xJ mX2_addParty 5 (.if_icmp .ge) 16 8 := ⟨(11), by decide +kernel, by decide, rfl⟩
theorem eX2_addParty_8 : x_aload mX2_addParty 8 0 9 := Or.inl ⟨0, by decide +kernel, rfl, rfl⟩
theorem eX2_addParty_9 : x_iload mX2_addParty 9 1 10 := Or.inl ⟨1, by decide +kernel, rfl, rfl⟩
set_option maxRecDepth 20000 in
theorem eX2_addParty_10 : xCV mX2_addParty 10 mX2_isTold 1 2 13 := ⟨50, by decide +kernel, rfl, ⟨cm_X2_50.1, cm_X2_50.2.1, cm_X2_50.2.2.1, cm_X2_50.2.2.2.1, cm_X2_50.2.2.2.2⟩, xT_2 134 rfl rfl, xT_0 4 rfl rfl, _, rfl, rfl⟩
theorem eX2_addParty_13 : xJ mX2_addParty 13 (.ifCond .ne) 18 16 := ⟨(5), by decide +kernel, by decide, rfl⟩
theorem eX2_addParty_16 : xK mX2_addParty 16 (nI 0) 17 := Or.inl (⟨0, by decide +kernel, by decide, rfl⟩)
theorem eX2_addParty_17 : xD mX2_addParty 17 (.ireturn) 1 18 := ⟨by decide +kernel, rfl⟩
theorem eX2_addParty_18 : x_aload mX2_addParty 18 0 19 := Or.inl ⟨0, by decide +kernel, rfl, rfl⟩
theorem eX2_addParty_19 : xGF mX2_addParty 19 2 2 22 := ⟨18, _, _, by decide +kernel, rfl, fl_X2_18⟩
theorem eX2_addParty_22 : x_aload mX2_addParty 22 0 23 := Or.inl ⟨0, by decide +kernel, rfl, rfl⟩
theorem eX2_addParty_23 : xGF mX2_addParty 23 2 6 26 := ⟨33, _, _, by decide +kernel, rfl, fl_X2_33⟩
theorem eX2_addParty_26 : x_iload mX2_addParty 26 1 27 := Or.inl ⟨1, by decide +kernel, rfl, rfl⟩
theorem eX2_addParty_27 : xD mX2_addParty 27 (.iastore) 1 28 := ⟨by decide +kernel, rfl⟩
theorem eX2_addParty_28 : x_aload mX2_addParty 28 0 29 := Or.inl ⟨0, by decide +kernel, rfl, rfl⟩
theorem eX2_addParty_29 : xD mX2_addParty 29 (.dup) 1 30 := ⟨by decide +kernel, rfl⟩
theorem eX2_addParty_30 : xGF mX2_addParty 30 2 6 33 := ⟨33, _, _, by decide +kernel, rfl, fl_X2_33⟩
theorem eX2_addParty_33 : xK mX2_addParty 33 (nI 1) 34 := Or.inl (⟨1, by decide +kernel, by decide, rfl⟩)
theorem eX2_addParty_34 : xD mX2_addParty 34 (.iadd) 1 35 := ⟨by decide +kernel, rfl⟩
theorem eX2_addParty_35 : xPF mX2_addParty 35 2 6 (.int) 38 := ⟨33, _, by decide +kernel, rfl, fl_X2_33, fun h => by cases h⟩
theorem eX2_addParty_38 : xK mX2_addParty 38 (nI 1) 39 := Or.inl (⟨1, by decide +kernel, by decide, rfl⟩)
theorem eX2_addParty_39 : xD mX2_addParty 39 (.ireturn) 1 40 := ⟨by decide +kernel, rfl⟩
theorem eX2_isTold_0 : x_iload mX2_isTold 0 1 1 := Or.inl ⟨1, by decide +kernel, rfl, rfl⟩
theorem eX2_isTold_1 : xK mX2_isTold 1 (nI 0) 2 := Or.inl (⟨0, by decide +kernel, by decide, rfl⟩)
theorem eX2_isTold_2 : x_aload mX2_isTold 2 0 3 := Or.inl ⟨0, by decide +kernel, rfl, rfl⟩
theorem eX2_isTold_3 : xGF mX2_isTold 3 2 5 6 := ⟨29, _, _, by decide +kernel, rfl, fl_X2_29⟩
theorem eX2_isTold_6 : xK mX2_isTold 6 (nI 1) 7 := Or.inl (⟨1, by decide +kernel, by decide, rfl⟩)
theorem eX2_isTold_7 : xD mX2_isTold 7 (.isub) 1 8 := ⟨by decide +kernel, rfl⟩
set_option maxRecDepth 20000 in
theorem eX2_isTold_8 : xCS mX2_isTold 8 mX9_isWithin 3 11 := ⟨46, by decide +kernel, rfl, ⟨cm_X2_46.1, cm_X2_46.2.1, cm_X2_46.2.2.1, cm_X2_46.2.2.2.1, cm_X2_46.2.2.2.2⟩, xT_2 126 rfl rfl⟩
theorem eX2_isTold_11 : xD mX2_isTold 11 (.ireturn) 1 12 := ⟨by decide +kernel, rfl⟩
theorem eX2_measure_0 : xK mX2_measure 0 (nI 0) 1 := Or.inl (⟨0, by decide +kernel, by decide, rfl⟩)
theorem eX2_measure_1 : x_istore mX2_measure 1 1 2 := Or.inl ⟨1, by decide +kernel, rfl, rfl⟩
theorem eX2_measure_2 : x_iload mX2_measure 2 1 3 := Or.inl ⟨1, by decide +kernel, rfl, rfl⟩
theorem eX2_measure_3 : x_aload mX2_measure 3 0 4 := Or.inl ⟨0, by decide +kernel, rfl, rfl⟩
theorem eX2_measure_4 : xGF mX2_measure 4 2 5 7 := ⟨29, _, _, by decide +kernel, rfl, fl_X2_29⟩
theorem eX2_measure_7 : xJ mX2_measure 7 (.if_icmp .ge) 84 10 := ⟨(77), by decide +kernel, by decide, rfl⟩
theorem eX2_measure_10 : xK mX2_measure 10 (nI 0) 11 := Or.inl (⟨0, by decide +kernel, by decide, rfl⟩)
theorem eX2_measure_11 : x_istore mX2_measure 11 2 12 := Or.inl ⟨2, by decide +kernel, rfl, rfl⟩
theorem eX2_measure_12 : x_iload mX2_measure 12 2 13 := Or.inl ⟨2, by decide +kernel, rfl, rfl⟩
theorem eX2_measure_13 : x_aload mX2_measure 13 0 14 := Or.inl ⟨0, by decide +kernel, rfl, rfl⟩
theorem eX2_measure_14 : xGF mX2_measure 14 2 5 17 := ⟨29, _, _, by decide +kernel, rfl, fl_X2_29⟩
theorem eX2_measure_17 : xJ mX2_measure 17 (.if_icmp .ge) 78 20 := ⟨(61), by decide +kernel, by decide, rfl⟩
theorem eX2_measure_20 : xK mX2_measure 20 (nI 0) 21 := Or.inl (⟨0, by decide +kernel, by decide, rfl⟩)
theorem eX2_measure_21 : x_istore mX2_measure 21 3 22 := Or.inl ⟨3, by decide +kernel, rfl, rfl⟩
theorem eX2_measure_22 : x_iload mX2_measure 22 3 23 := Or.inl ⟨3, by decide +kernel, rfl, rfl⟩
theorem eX2_measure_23 : x_aload mX2_measure 23 0 24 := Or.inl ⟨0, by decide +kernel, rfl, rfl⟩
theorem eX2_measure_24 : xGF mX2_measure 24 2 5 27 := ⟨29, _, _, by decide +kernel, rfl, fl_X2_29⟩
theorem eX2_measure_27 : xJ mX2_measure 27 (.if_icmp .ge) 72 30 := ⟨(45), by decide +kernel, by decide, rfl⟩
theorem eX2_measure_30 : x_aload mX2_measure 30 0 31 := Or.inl ⟨0, by decide +kernel, rfl, rfl⟩
theorem eX2_measure_31 : xGF mX2_measure 31 2 4 34 := ⟨26, _, _, by decide +kernel, rfl, fl_X2_26⟩
theorem eX2_measure_34 : x_iload mX2_measure 34 2 35 := Or.inl ⟨2, by decide +kernel, rfl, rfl⟩
theorem eX2_measure_35 : xD mX2_measure 35 (.aaload) 1 36 := ⟨by decide +kernel, rfl⟩
theorem eX2_measure_36 : x_iload mX2_measure 36 3 37 := Or.inl ⟨3, by decide +kernel, rfl, rfl⟩
theorem eX2_measure_37 : x_aload mX2_measure 37 0 38 := Or.inl ⟨0, by decide +kernel, rfl, rfl⟩
theorem eX2_measure_38 : xGF mX2_measure 38 2 4 41 := ⟨26, _, _, by decide +kernel, rfl, fl_X2_26⟩
theorem eX2_measure_41 : x_iload mX2_measure 41 2 42 := Or.inl ⟨2, by decide +kernel, rfl, rfl⟩
theorem eX2_measure_42 : xD mX2_measure 42 (.aaload) 1 43 := ⟨by decide +kernel, rfl⟩
theorem eX2_measure_43 : x_iload mX2_measure 43 3 44 := Or.inl ⟨3, by decide +kernel, rfl, rfl⟩
theorem eX2_measure_44 : xD mX2_measure 44 (.iaload) 1 45 := ⟨by decide +kernel, rfl⟩
theorem eX2_measure_45 : x_aload mX2_measure 45 0 46 := Or.inl ⟨0, by decide +kernel, rfl, rfl⟩
theorem eX2_measure_46 : xGF mX2_measure 46 2 4 49 := ⟨26, _, _, by decide +kernel, rfl, fl_X2_26⟩
theorem eX2_measure_49 : x_iload mX2_measure 49 2 50 := Or.inl ⟨2, by decide +kernel, rfl, rfl⟩
theorem eX2_measure_50 : xD mX2_measure 50 (.aaload) 1 51 := ⟨by decide +kernel, rfl⟩
theorem eX2_measure_51 : x_iload mX2_measure 51 1 52 := Or.inl ⟨1, by decide +kernel, rfl, rfl⟩
theorem eX2_measure_52 : xD mX2_measure 52 (.iaload) 1 53 := ⟨by decide +kernel, rfl⟩
theorem eX2_measure_53 : x_aload mX2_measure 53 0 54 := Or.inl ⟨0, by decide +kernel, rfl, rfl⟩
theorem eX2_measure_54 : xGF mX2_measure 54 2 4 57 := ⟨26, _, _, by decide +kernel, rfl, fl_X2_26⟩
theorem eX2_measure_57 : x_iload mX2_measure 57 1 58 := Or.inl ⟨1, by decide +kernel, rfl, rfl⟩
theorem eX2_measure_58 : xD mX2_measure 58 (.aaload) 1 59 := ⟨by decide +kernel, rfl⟩
theorem eX2_measure_59 : x_iload mX2_measure 59 3 60 := Or.inl ⟨3, by decide +kernel, rfl, rfl⟩
theorem eX2_measure_60 : xD mX2_measure 60 (.iaload) 1 61 := ⟨by decide +kernel, rfl⟩
theorem eX2_measure_61 : xD mX2_measure 61 (.iadd) 1 62 := ⟨by decide +kernel, rfl⟩
set_option maxRecDepth 20000 in
theorem eX2_measure_62 : xCS mX2_measure 62 mJ9_min_7cf53 2 65 := ⟨54, by decide +kernel, rfl, ⟨cm_X2_54.1, cm_X2_54.2.1, cm_X2_54.2.2.1, cm_X2_54.2.2.2.1, cm_X2_54.2.2.2.2⟩, xT_2 145 rfl rfl⟩
theorem eX2_measure_65 : xD mX2_measure 65 (.iastore) 1 66 := ⟨by decide +kernel, rfl⟩
theorem eX2_measure_66 : xD mX2_measure 66 (.iinc 3 1) 3 69 := ⟨by decide +kernel, rfl⟩
theorem eX2_measure_69 : xJ mX2_measure 69 (.goto) 22 72 := ⟨(-47), by decide +kernel, by decide, rfl⟩
theorem eX2_measure_72 : xD mX2_measure 72 (.iinc 2 1) 3 75 := ⟨by decide +kernel, rfl⟩
theorem eX2_measure_75 : xJ mX2_measure 75 (.goto) 12 78 := ⟨(-63), by decide +kernel, by decide, rfl⟩
theorem eX2_measure_78 : xD mX2_measure 78 (.iinc 1 1) 3 81 := ⟨by decide +kernel, rfl⟩
theorem eX2_measure_81 : xJ mX2_measure 81 (.goto) 2 84 := ⟨(-79), by decide +kernel, by decide, rfl⟩
theorem eX2_measure_84 : xD mX2_measure 84 (.return_) 1 85 := ⟨by decide +kernel, rfl⟩
end
section
theorem eX3_init_0 : x_aload mX3_init 0 0 1 := Or.inl ⟨0, by decide +kernel, rfl, rfl⟩
theorem eX3_init_4 : x_aload mX3_init 4 0 5 := Or.inl ⟨0, by decide +kernel, rfl, rfl⟩
theorem eX3_init_5 : xK mX3_init 5 (nI 8) 7 := Or.inr (Or.inl (⟨8, by decide +kernel, by decide, rfl⟩))
set_option maxRecDepth 20000 in
theorem eX3_init_10 : xPF mX3_init 10 3 1 (.array (.object "NotAnOx$Book")) 13 := ⟨11, _, by decide +kernel, rfl, fl_X3_11, fun _ => ⟨rfl, ⟨_, rfl, rfl⟩, _, rfl, xT_1 223 rfl rfl⟩⟩
theorem eX3_init_13 : x_aload mX3_init 13 0 14 := Or.inl ⟨0, by decide +kernel, rfl, rfl⟩
theorem eX3_init_14 : xK mX3_init 14 (nI 7) 16 := Or.inr (Or.inl (⟨7, by decide +kernel, by decide, rfl⟩))
set_option maxRecDepth 20000 in
theorem eX3_init_18 : xPF mX3_init 18 3 2 (.array .int) 21 := ⟨17, _, by decide +kernel, rfl, fl_X3_17, fun _ => ⟨rfl, ⟨_, rfl, rfl⟩, _, rfl, xT_1 224 rfl rfl⟩⟩
theorem eX3_init_21 : x_aload mX3_init 21 0 22 := Or.inl ⟨0, by decide +kernel, rfl, rfl⟩
theorem eX3_init_22 : xK mX3_init 22 (nI 7) 24 := Or.inr (Or.inl (⟨7, by decide +kernel, by decide, rfl⟩))
set_option maxRecDepth 20000 in
theorem eX3_init_26 : xPF mX3_init 26 3 3 (.array .int) 29 := ⟨21, _, by decide +kernel, rfl, fl_X3_21, fun _ => ⟨rfl, ⟨_, rfl, rfl⟩, _, rfl, xT_1 225 rfl rfl⟩⟩
theorem eX3_init_29 : x_aload mX3_init 29 0 30 := Or.inl ⟨0, by decide +kernel, rfl, rfl⟩
theorem eX3_init_30 : x_aload mX3_init 30 1 31 := Or.inl ⟨1, by decide +kernel, rfl, rfl⟩
set_option maxRecDepth 20000 in
theorem eX3_init_31 : xPF mX3_init 31 3 0 (.object "NotAnOx$Land") 34 := ⟨24, _, by decide +kernel, rfl, fl_X3_24, fun _ => ⟨rfl, ⟨_, rfl, rfl⟩, _, rfl, xT_1 222 rfl rfl⟩⟩
theorem eX3_init_34 : xK mX3_init 34 (nI 0) 35 := Or.inl (⟨0, by decide +kernel, by decide, rfl⟩)
theorem eX3_init_35 : x_istore mX3_init 35 2 36 := Or.inl ⟨2, by decide +kernel, rfl, rfl⟩
theorem eX3_init_36 : x_iload mX3_init 36 2 37 := Or.inl ⟨2, by decide +kernel, rfl, rfl⟩
theorem eX3_init_37 : x_aload mX3_init 37 0 38 := Or.inl ⟨0, by decide +kernel, rfl, rfl⟩
theorem eX3_init_38 : xGF mX3_init 38 3 1 41 := ⟨11, _, _, by decide +kernel, rfl, fl_X3_11⟩
theorem eX3_init_41 : xD mX3_init 41 (.arraylength) 1 42 := ⟨by decide +kernel, rfl⟩
theorem eX3_init_42 : xJ mX3_init 42 (.if_icmp .ge) 65 45 := ⟨(23), by decide +kernel, by decide, rfl⟩
theorem eX3_init_45 : x_aload mX3_init 45 0 46 := Or.inl ⟨0, by decide +kernel, rfl, rfl⟩
theorem eX3_init_46 : xGF mX3_init 46 3 1 49 := ⟨11, _, _, by decide +kernel, rfl, fl_X3_11⟩
theorem eX3_init_49 : x_iload mX3_init 49 2 50 := Or.inl ⟨2, by decide +kernel, rfl, rfl⟩
theorem eX3_init_53 : xD mX3_init 53 (.dup) 1 54 := ⟨by decide +kernel, rfl⟩
theorem eX3_init_54 : x_aload mX3_init 54 1 55 := Or.inl ⟨1, by decide +kernel, rfl, rfl⟩
set_option maxRecDepth 20000 in
theorem eX3_init_55 : xCI mX3_init 55 mX0_init 1 58 := ⟨28, by decide +kernel, rfl, ⟨cm_X3_28.1, cm_X3_28.2.1, cm_X3_28.2.2.1, cm_X3_28.2.2.2.1, cm_X3_28.2.2.2.2⟩, xT_1 117 rfl rfl, rfl⟩
theorem eX3_init_58 : xD mX3_init 58 (.aastore) 1 59 := ⟨by decide +kernel, rfl⟩
theorem eX3_init_59 : xD mX3_init 59 (.iinc 2 1) 3 62 := ⟨by decide +kernel, rfl⟩
theorem eX3_init_62 : xJ mX3_init 62 (.goto) 36 65 := ⟨(-26), by decide +kernel, by decide, rfl⟩
theorem eX3_init_65 : xD mX3_init 65 (.return_) 1 66 := ⟨by decide +kernel, rfl⟩
theorem eX3_seek_0 : x_aload mX3_seek 0 0 1 := Or.inl ⟨0, by decide +kernel, rfl, rfl⟩
theorem eX3_seek_1 : x_iload mX3_seek 1 2 2 := Or.inl ⟨2, by decide +kernel, rfl, rfl⟩
theorem eX3_seek_2 : xPF mX3_seek 2 3 4 (.boolean) 5 := ⟨31, _, by decide +kernel, rfl, fl_X3_31, fun h => by cases h⟩
theorem eX3_seek_5 : x_aload mX3_seek 5 0 6 := Or.inl ⟨0, by decide +kernel, rfl, rfl⟩
theorem eX3_seek_6 : xK mX3_seek 6 (nI 0) 7 := Or.inl (⟨0, by decide +kernel, by decide, rfl⟩)
theorem eX3_seek_7 : xPF mX3_seek 7 3 5 (.boolean) 10 := ⟨35, _, by decide +kernel, rfl, fl_X3_35, fun h => by cases h⟩
theorem eX3_seek_10 : x_aload mX3_seek 10 0 11 := Or.inl ⟨0, by decide +kernel, rfl, rfl⟩
theorem eX3_seek_11 : x_aload mX3_seek 11 1 12 := Or.inl ⟨1, by decide +kernel, rfl, rfl⟩
set_option maxRecDepth 20000 in
theorem eX3_seek_12 : xCV mX3_seek 12 mX0_restSize 0 0 15 := ⟨38, by decide +kernel, rfl, ⟨cm_X3_38.1, cm_X3_38.2.1, cm_X3_38.2.2.1, cm_X3_38.2.2.2.1, cm_X3_38.2.2.2.2⟩, xT_3 100 rfl rfl, xT_3 101 rfl rfl, _, rfl, rfl⟩
theorem eX3_seek_15 : xPF mX3_seek 15 3 6 (.int) 18 := ⟨42, _, by decide +kernel, rfl, fl_X3_42, fun h => by cases h⟩
theorem eX3_seek_18 : x_aload mX3_seek 18 0 19 := Or.inl ⟨0, by decide +kernel, rfl, rfl⟩
theorem eX3_seek_19 : xGF mX3_seek 19 3 1 22 := ⟨11, _, _, by decide +kernel, rfl, fl_X3_11⟩
theorem eX3_seek_22 : xK mX3_seek 22 (nI 0) 23 := Or.inl (⟨0, by decide +kernel, by decide, rfl⟩)
theorem eX3_seek_23 : xD mX3_seek 23 (.aaload) 1 24 := ⟨by decide +kernel, rfl⟩
theorem eX3_seek_24 : x_aload mX3_seek 24 1 25 := Or.inl ⟨1, by decide +kernel, rfl, rfl⟩
set_option maxRecDepth 20000 in
theorem eX3_seek_25 : xCV mX3_seek 25 mX0_copyEntries 1 0 28 := ⟨45, by decide +kernel, rfl, ⟨cm_X3_45.1, cm_X3_45.2.1, cm_X3_45.2.2.1, cm_X3_45.2.2.2.1, cm_X3_45.2.2.2.2⟩, xT_3 46 rfl rfl, xT_3 47 rfl rfl, _, rfl, rfl⟩
theorem eX3_seek_28 : x_aload mX3_seek 28 0 29 := Or.inl ⟨0, by decide +kernel, rfl, rfl⟩
theorem eX3_seek_29 : xK mX3_seek 29 (nI 0) 30 := Or.inl (⟨0, by decide +kernel, by decide, rfl⟩)
set_option maxRecDepth 20000 in
theorem eX3_seek_30 : xCV mX3_seek 30 mX3_goOn 1 3 33 := ⟨49, by decide +kernel, rfl, ⟨cm_X3_49.1, cm_X3_49.2.1, cm_X3_49.2.2.1, cm_X3_49.2.2.2.1, cm_X3_49.2.2.2.2⟩, xT_3 154 rfl rfl, xT_0 13 rfl rfl, _, rfl, rfl⟩
theorem eX3_seek_33 : xD mX3_seek 33 (.return_) 1 34 := ⟨by decide +kernel, rfl⟩
theorem eX3_goOn_0 : x_iload mX3_goOn 0 1 1 := Or.inl ⟨1, by decide +kernel, rfl, rfl⟩
theorem eX3_goOn_1 : x_aload mX3_goOn 1 0 2 := Or.inl ⟨0, by decide +kernel, rfl, rfl⟩
theorem eX3_goOn_2 : xGF mX3_goOn 2 3 6 5 := ⟨42, _, _, by decide +kernel, rfl, fl_X3_42⟩
theorem eX3_goOn_5 : xJ mX3_goOn 5 (.if_icmp .ge) 14 8 := ⟨(9), by decide +kernel, by decide, rfl⟩
theorem eX3_goOn_8 : x_iload mX3_goOn 8 1 9 := Or.inl ⟨1, by decide +kernel, rfl, rfl⟩
theorem eX3_goOn_9 : xK mX3_goOn 9 (nI 7) 11 := Or.inr (Or.inl (⟨7, by decide +kernel, by decide, rfl⟩))
theorem eX3_goOn_11 : xJ mX3_goOn 11 (.if_icmp .lt) 28 14 := ⟨(17), by decide +kernel, by decide, rfl⟩
theorem eX3_goOn_14 : x_aload mX3_goOn 14 0 15 := Or.inl ⟨0, by decide +kernel, rfl, rfl⟩
theorem eX3_goOn_15 : x_aload mX3_goOn 15 0 16 := Or.inl ⟨0, by decide +kernel, rfl, rfl⟩
theorem eX3_goOn_16 : xGF mX3_goOn 16 3 1 19 := ⟨11, _, _, by decide +kernel, rfl, fl_X3_11⟩
theorem eX3_goOn_19 : x_iload mX3_goOn 19 1 20 := Or.inl ⟨1, by decide +kernel, rfl, rfl⟩
theorem eX3_goOn_20 : xD mX3_goOn 20 (.aaload) 1 21 := ⟨by decide +kernel, rfl⟩
set_option maxRecDepth 20000 in
theorem eX3_goOn_21 : xCV mX3_goOn 21 mX0_found 0 0 24 := ⟨53, by decide +kernel, rfl, ⟨cm_X3_53.1, cm_X3_53.2.1, cm_X3_53.2.2.1, cm_X3_53.2.2.2.1, cm_X3_53.2.2.2.2⟩, xT_3 157 rfl rfl, xT_3 158 rfl rfl, _, rfl, rfl⟩
set_option maxRecDepth 20000 in
theorem eX3_goOn_24 : xCV mX3_goOn 24 mX3_weighOrder 1 3 27 := ⟨56, by decide +kernel, rfl, ⟨cm_X3_56.1, cm_X3_56.2.1, cm_X3_56.2.2.1, cm_X3_56.2.2.2.1, cm_X3_56.2.2.2.2⟩, xT_3 162 rfl rfl, xT_0 14 rfl rfl, _, rfl, rfl⟩
theorem eX3_goOn_27 : xD mX3_goOn 27 (.return_) 1 28 := ⟨by decide +kernel, rfl⟩
theorem eX3_goOn_28 : x_aload mX3_goOn 28 0 29 := Or.inl ⟨0, by decide +kernel, rfl, rfl⟩
theorem eX3_goOn_29 : xGF mX3_goOn 29 3 1 32 := ⟨11, _, _, by decide +kernel, rfl, fl_X3_11⟩
theorem eX3_goOn_32 : x_iload mX3_goOn 32 1 33 := Or.inl ⟨1, by decide +kernel, rfl, rfl⟩
theorem eX3_goOn_33 : xD mX3_goOn 33 (.aaload) 1 34 := ⟨by decide +kernel, rfl⟩
theorem eX3_goOn_34 : x_astore mX3_goOn 34 2 35 := Or.inl ⟨2, by decide +kernel, rfl, rfl⟩
theorem eX3_goOn_35 : x_aload mX3_goOn 35 0 36 := Or.inl ⟨0, by decide +kernel, rfl, rfl⟩
theorem eX3_goOn_36 : xGF mX3_goOn 36 3 1 39 := ⟨11, _, _, by decide +kernel, rfl, fl_X3_11⟩
theorem eX3_goOn_39 : x_iload mX3_goOn 39 1 40 := Or.inl ⟨1, by decide +kernel, rfl, rfl⟩
theorem eX3_goOn_40 : xK mX3_goOn 40 (nI 1) 41 := Or.inl (⟨1, by decide +kernel, by decide, rfl⟩)
theorem eX3_goOn_41 : xD mX3_goOn 41 (.iadd) 1 42 := ⟨by decide +kernel, rfl⟩
theorem eX3_goOn_42 : xD mX3_goOn 42 (.aaload) 1 43 := ⟨by decide +kernel, rfl⟩
theorem eX3_goOn_43 : x_astore mX3_goOn 43 3 44 := Or.inl ⟨3, by decide +kernel, rfl, rfl⟩
theorem eX3_goOn_44 : x_aload mX3_goOn 44 2 45 := Or.inl ⟨2, by decide +kernel, rfl, rfl⟩
set_option maxRecDepth 20000 in
theorem eX3_goOn_45 : xCV mX3_goOn 45 mX0_rest 0 0 48 := ⟨59, by decide +kernel, rfl, ⟨cm_X3_59.1, cm_X3_59.2.1, cm_X3_59.2.2.1, cm_X3_59.2.2.2.1, cm_X3_59.2.2.2.2⟩, xT_3 96 rfl rfl, xT_3 97 rfl rfl, _, rfl, rfl⟩
theorem eX3_goOn_48 : x_istore mX3_goOn 48 4 50 := Or.inr ⟨by decide +kernel, rfl⟩
theorem eX3_goOn_50 : xK mX3_goOn 50 (nI 0) 51 := Or.inl (⟨0, by decide +kernel, by decide, rfl⟩)
theorem eX3_goOn_51 : x_istore mX3_goOn 51 5 53 := Or.inr ⟨by decide +kernel, rfl⟩
theorem eX3_goOn_53 : x_iload mX3_goOn 53 5 55 := Or.inr ⟨by decide +kernel, rfl⟩
theorem eX3_goOn_55 : x_aload mX3_goOn 55 0 56 := Or.inl ⟨0, by decide +kernel, rfl, rfl⟩
theorem eX3_goOn_56 : xGF mX3_goOn 56 3 0 59 := ⟨24, _, _, by decide +kernel, rfl, fl_X3_24⟩
theorem eX3_goOn_59 : xGF mX3_goOn 59 2 5 62 := ⟨62, _, _, by decide +kernel, rfl, fl_X3_62⟩
theorem eX3_goOn_62 : xJ mX3_goOn 62 (.if_icmp .ge) 125 65 := ⟨(63), by decide +kernel, by decide, rfl⟩
theorem eX3_goOn_65 : x_iload mX3_goOn 65 4 67 := Or.inr ⟨by decide +kernel, rfl⟩
theorem eX3_goOn_67 : x_iload mX3_goOn 67 5 69 := Or.inr ⟨by decide +kernel, rfl⟩
theorem eX3_goOn_69 : xD mX3_goOn 69 (.ishr) 1 70 := ⟨by decide +kernel, rfl⟩
theorem eX3_goOn_70 : xK mX3_goOn 70 (nI 1) 71 := Or.inl (⟨1, by decide +kernel, by decide, rfl⟩)
theorem eX3_goOn_71 : xD mX3_goOn 71 (.iand) 1 72 := ⟨by decide +kernel, rfl⟩
theorem eX3_goOn_72 : xJ mX3_goOn 72 (.ifCond .eq) 119 75 := ⟨(47), by decide +kernel, by decide, rfl⟩
theorem eX3_goOn_75 : x_aload mX3_goOn 75 3 76 := Or.inl ⟨3, by decide +kernel, rfl, rfl⟩
theorem eX3_goOn_76 : x_aload mX3_goOn 76 2 77 := Or.inl ⟨2, by decide +kernel, rfl, rfl⟩
set_option maxRecDepth 20000 in
theorem eX3_goOn_77 : xCV mX3_goOn 77 mX0_copyEntries 1 0 80 := ⟨45, by decide +kernel, rfl, ⟨cm_X3_45.1, cm_X3_45.2.1, cm_X3_45.2.2.1, cm_X3_45.2.2.2.1, cm_X3_45.2.2.2.2⟩, xT_3 46 rfl rfl, xT_3 47 rfl rfl, _, rfl, rfl⟩
theorem eX3_goOn_80 : x_aload mX3_goOn 80 3 81 := Or.inl ⟨3, by decide +kernel, rfl, rfl⟩
theorem eX3_goOn_81 : x_iload mX3_goOn 81 5 83 := Or.inr ⟨by decide +kernel, rfl⟩
theorem eX3_goOn_83 : x_aload mX3_goOn 83 0 84 := Or.inl ⟨0, by decide +kernel, rfl, rfl⟩
theorem eX3_goOn_84 : xGF mX3_goOn 84 3 0 87 := ⟨24, _, _, by decide +kernel, rfl, fl_X3_24⟩
theorem eX3_goOn_87 : xGF mX3_goOn 87 2 0 90 := ⟨67, _, _, by decide +kernel, rfl, fl_X3_67⟩
theorem eX3_goOn_90 : x_iload mX3_goOn 90 5 92 := Or.inr ⟨by decide +kernel, rfl⟩
theorem eX3_goOn_92 : xD mX3_goOn 92 (.iaload) 1 93 := ⟨by decide +kernel, rfl⟩
theorem eX3_goOn_93 : x_aload mX3_goOn 93 0 94 := Or.inl ⟨0, by decide +kernel, rfl, rfl⟩
theorem eX3_goOn_94 : xGF mX3_goOn 94 3 0 97 := ⟨24, _, _, by decide +kernel, rfl, fl_X3_24⟩
theorem eX3_goOn_97 : xGF mX3_goOn 97 2 7 100 := ⟨70, _, _, by decide +kernel, rfl, fl_X3_70⟩
set_option maxRecDepth 20000 in
theorem eX3_goOn_100 : xCV mX3_goOn 100 mX0_swear 3 0 103 := ⟨73, by decide +kernel, rfl, ⟨cm_X3_73.1, cm_X3_73.2.1, cm_X3_73.2.2.1, cm_X3_73.2.2.2.1, cm_X3_73.2.2.2.2⟩, xT_3 54 rfl rfl, xT_3 55 rfl rfl, _, rfl, rfl⟩
theorem eX3_goOn_103 : xD mX3_goOn 103 (.pop) 1 104 := ⟨by decide +kernel, rfl⟩
theorem eX3_goOn_104 : x_aload mX3_goOn 104 0 105 := Or.inl ⟨0, by decide +kernel, rfl, rfl⟩
theorem eX3_goOn_105 : xGF mX3_goOn 105 3 2 108 := ⟨17, _, _, by decide +kernel, rfl, fl_X3_17⟩
theorem eX3_goOn_108 : x_iload mX3_goOn 108 1 109 := Or.inl ⟨1, by decide +kernel, rfl, rfl⟩
theorem eX3_goOn_109 : x_iload mX3_goOn 109 5 111 := Or.inr ⟨by decide +kernel, rfl⟩
theorem eX3_goOn_111 : xD mX3_goOn 111 (.iastore) 1 112 := ⟨by decide +kernel, rfl⟩
theorem eX3_goOn_112 : x_aload mX3_goOn 112 0 113 := Or.inl ⟨0, by decide +kernel, rfl, rfl⟩
theorem eX3_goOn_113 : x_iload mX3_goOn 113 1 114 := Or.inl ⟨1, by decide +kernel, rfl, rfl⟩
theorem eX3_goOn_114 : xK mX3_goOn 114 (nI 1) 115 := Or.inl (⟨1, by decide +kernel, by decide, rfl⟩)
theorem eX3_goOn_115 : xD mX3_goOn 115 (.iadd) 1 116 := ⟨by decide +kernel, rfl⟩
set_option maxRecDepth 20000 in
theorem eX3_goOn_116 : xCV mX3_goOn 116 mX3_goOn 1 3 119 := ⟨49, by decide +kernel, rfl, ⟨cm_X3_49.1, cm_X3_49.2.1, cm_X3_49.2.2.1, cm_X3_49.2.2.2.1, cm_X3_49.2.2.2.2⟩, xT_3 154 rfl rfl, xT_0 13 rfl rfl, _, rfl, rfl⟩
theorem eX3_goOn_119 : xD mX3_goOn 119 (.iinc 5 1) 3 122 := ⟨by decide +kernel, rfl⟩
theorem eX3_goOn_122 : xJ mX3_goOn 122 (.goto) 53 125 := ⟨(-69), by decide +kernel, by decide, rfl⟩
theorem eX3_goOn_125 : xD mX3_goOn 125 (.return_) 1 126 := ⟨by decide +kernel, rfl⟩
theorem eX3_weighOrder_0 : x_aload mX3_weighOrder 0 0 1 := Or.inl ⟨0, by decide +kernel, rfl, rfl⟩
theorem eX3_weighOrder_1 : xGF mX3_weighOrder 1 3 5 4 := ⟨35, _, _, by decide +kernel, rfl, fl_X3_35⟩
theorem eX3_weighOrder_4 : xJ mX3_weighOrder 4 (.ifCond .eq) 33 7 := ⟨(29), by decide +kernel, by decide, rfl⟩
theorem eX3_weighOrder_7 : x_aload mX3_weighOrder 7 0 8 := Or.inl ⟨0, by decide +kernel, rfl, rfl⟩
theorem eX3_weighOrder_8 : xGF mX3_weighOrder 8 3 4 11 := ⟨31, _, _, by decide +kernel, rfl, fl_X3_31⟩
theorem eX3_weighOrder_11 : xJ mX3_weighOrder 11 (.ifCond .eq) 25 14 := ⟨(14), by decide +kernel, by decide, rfl⟩
theorem eX3_weighOrder_14 : x_iload mX3_weighOrder 14 1 15 := Or.inl ⟨1, by decide +kernel, rfl, rfl⟩
theorem eX3_weighOrder_15 : x_aload mX3_weighOrder 15 0 16 := Or.inl ⟨0, by decide +kernel, rfl, rfl⟩
theorem eX3_weighOrder_16 : xGF mX3_weighOrder 16 3 7 19 := ⟨77, _, _, by decide +kernel, rfl, fl_X3_77⟩
theorem eX3_weighOrder_19 : xJ mX3_weighOrder 19 (.if_icmp .le) 58 22 := ⟨(39), by decide +kernel, by decide, rfl⟩
theorem eX3_weighOrder_22 : xJ mX3_weighOrder 22 (.goto) 33 25 := ⟨(11), by decide +kernel, by decide, rfl⟩
theorem eX3_weighOrder_25 : x_iload mX3_weighOrder 25 1 26 := Or.inl ⟨1, by decide +kernel, rfl, rfl⟩
theorem eX3_weighOrder_26 : x_aload mX3_weighOrder 26 0 27 := Or.inl ⟨0, by decide +kernel, rfl, rfl⟩
theorem eX3_weighOrder_27 : xGF mX3_weighOrder 27 3 7 30 := ⟨77, _, _, by decide +kernel, rfl, fl_X3_77⟩
theorem eX3_weighOrder_30 : xJ mX3_weighOrder 30 (.if_icmp .ge) 58 33 := ⟨(28), by decide +kernel, by decide, rfl⟩
theorem eX3_weighOrder_33 : x_aload mX3_weighOrder 33 0 34 := Or.inl ⟨0, by decide +kernel, rfl, rfl⟩
theorem eX3_weighOrder_34 : xK mX3_weighOrder 34 (nI 1) 35 := Or.inl (⟨1, by decide +kernel, by decide, rfl⟩)
theorem eX3_weighOrder_35 : xPF mX3_weighOrder 35 3 5 (.boolean) 38 := ⟨35, _, by decide +kernel, rfl, fl_X3_35, fun h => by cases h⟩
theorem eX3_weighOrder_38 : x_aload mX3_weighOrder 38 0 39 := Or.inl ⟨0, by decide +kernel, rfl, rfl⟩
theorem eX3_weighOrder_39 : x_iload mX3_weighOrder 39 1 40 := Or.inl ⟨1, by decide +kernel, rfl, rfl⟩
theorem eX3_weighOrder_40 : xPF mX3_weighOrder 40 3 7 (.int) 43 := ⟨77, _, by decide +kernel, rfl, fl_X3_77, fun h => by cases h⟩
theorem eX3_weighOrder_43 : x_aload mX3_weighOrder 43 0 44 := Or.inl ⟨0, by decide +kernel, rfl, rfl⟩
theorem eX3_weighOrder_44 : xGF mX3_weighOrder 44 3 2 47 := ⟨17, _, _, by decide +kernel, rfl, fl_X3_17⟩
theorem eX3_weighOrder_47 : xK mX3_weighOrder 47 (nI 0) 48 := Or.inl (⟨0, by decide +kernel, by decide, rfl⟩)
theorem eX3_weighOrder_48 : x_aload mX3_weighOrder 48 0 49 := Or.inl ⟨0, by decide +kernel, rfl, rfl⟩
theorem eX3_weighOrder_49 : xGF mX3_weighOrder 49 3 3 52 := ⟨21, _, _, by decide +kernel, rfl, fl_X3_21⟩
theorem eX3_weighOrder_52 : xK mX3_weighOrder 52 (nI 0) 53 := Or.inl (⟨0, by decide +kernel, by decide, rfl⟩)
theorem eX3_weighOrder_53 : xK mX3_weighOrder 53 (nI 7) 55 := Or.inr (Or.inl (⟨7, by decide +kernel, by decide, rfl⟩))
theorem eX3_weighOrder_58 : xD mX3_weighOrder 58 (.return_) 1 59 := ⟨by decide +kernel, rfl⟩
theorem eX4_init_0 : x_aload mX4_init 0 0 1 := Or.inl ⟨0, by decide +kernel, rfl, rfl⟩
theorem eX4_init_4 : x_aload mX4_init 4 0 5 := Or.inl ⟨0, by decide +kernel, rfl, rfl⟩
theorem eX4_init_5 : x_iload mX4_init 5 2 6 := Or.inl ⟨2, by decide +kernel, rfl, rfl⟩
set_option maxRecDepth 20000 in
theorem eX4_init_9 : xPF mX4_init 9 4 0 (.array (.object "NotAnOx$Book")) 12 := ⟨9, _, by decide +kernel, rfl, fl_X4_9, fun _ => ⟨rfl, ⟨_, rfl, rfl⟩, _, rfl, xT_1 159 rfl rfl⟩⟩
theorem eX4_init_12 : xK mX4_init 12 (nI 0) 13 := Or.inl (⟨0, by decide +kernel, by decide, rfl⟩)
theorem eX4_init_13 : x_istore mX4_init 13 3 14 := Or.inl ⟨3, by decide +kernel, rfl, rfl⟩
theorem eX4_init_14 : x_iload mX4_init 14 3 15 := Or.inl ⟨3, by decide +kernel, rfl, rfl⟩
theorem eX4_init_15 : x_iload mX4_init 15 2 16 := Or.inl ⟨2, by decide +kernel, rfl, rfl⟩
theorem eX4_init_16 : xJ mX4_init 16 (.if_icmp .ge) 39 19 := ⟨(23), by decide +kernel, by decide, rfl⟩
theorem eX4_init_19 : x_aload mX4_init 19 0 20 := Or.inl ⟨0, by decide +kernel, rfl, rfl⟩
theorem eX4_init_20 : xGF mX4_init 20 4 0 23 := ⟨9, _, _, by decide +kernel, rfl, fl_X4_9⟩
theorem eX4_init_23 : x_iload mX4_init 23 3 24 := Or.inl ⟨3, by decide +kernel, rfl, rfl⟩
theorem eX4_init_27 : xD mX4_init 27 (.dup) 1 28 := ⟨by decide +kernel, rfl⟩
theorem eX4_init_28 : x_aload mX4_init 28 1 29 := Or.inl ⟨1, by decide +kernel, rfl, rfl⟩
set_option maxRecDepth 20000 in
theorem eX4_init_29 : xCI mX4_init 29 mX0_init 1 32 := ⟨15, by decide +kernel, rfl, ⟨cm_X4_15.1, cm_X4_15.2.1, cm_X4_15.2.2.1, cm_X4_15.2.2.2.1, cm_X4_15.2.2.2.2⟩, xT_1 117 rfl rfl, rfl⟩
theorem eX4_init_32 : xD mX4_init 32 (.aastore) 1 33 := ⟨by decide +kernel, rfl⟩
theorem eX4_init_33 : xD mX4_init 33 (.iinc 3 1) 3 36 := ⟨by decide +kernel, rfl⟩
theorem eX4_init_36 : xJ mX4_init 36 (.goto) 14 39 := ⟨(-22), by decide +kernel, by decide, rfl⟩
theorem eX4_init_39 : xD mX4_init 39 (.return_) 1 40 := ⟨by decide +kernel, rfl⟩
theorem eX4_isFull_0 : x_aload mX4_isFull 0 0 1 := Or.inl ⟨0, by decide +kernel, rfl, rfl⟩
theorem eX4_isFull_1 : xGF mX4_isFull 1 4 2 4 := ⟨18, _, _, by decide +kernel, rfl, fl_X4_18⟩
theorem eX4_isFull_4 : x_aload mX4_isFull 4 0 5 := Or.inl ⟨0, by decide +kernel, rfl, rfl⟩
theorem eX4_isFull_5 : xGF mX4_isFull 5 4 0 8 := ⟨9, _, _, by decide +kernel, rfl, fl_X4_9⟩
theorem eX4_isFull_8 : xD mX4_isFull 8 (.arraylength) 1 9 := ⟨by decide +kernel, rfl⟩
theorem eX4_isFull_9 : xJ mX4_isFull 9 (.if_icmp .lt) 16 12 := ⟨(7), by decide +kernel, by decide, rfl⟩
theorem eX4_isFull_12 : xK mX4_isFull 12 (nI 1) 13 := Or.inl (⟨1, by decide +kernel, by decide, rfl⟩)
theorem eX4_isFull_13 : xJ mX4_isFull 13 (.goto) 17 16 := ⟨(4), by decide +kernel, by decide, rfl⟩
theorem eX4_isFull_16 : xK mX4_isFull 16 (nI 0) 17 := Or.inl (⟨0, by decide +kernel, by decide, rfl⟩)
theorem eX4_isFull_17 : xD mX4_isFull 17 (.ireturn) 1 18 := ⟨by decide +kernel, rfl⟩
theorem eX4_clear_0 : x_aload mX4_clear 0 0 1 := Or.inl ⟨0, by decide +kernel, rfl, rfl⟩
theorem eX4_clear_1 : xK mX4_clear 1 (nI 0) 2 := Or.inl (⟨0, by decide +kernel, by decide, rfl⟩)
theorem eX4_clear_2 : xPF mX4_clear 2 4 1 (.int) 5 := ⟨22, _, by decide +kernel, rfl, fl_X4_22, fun h => by cases h⟩
theorem eX4_clear_5 : x_aload mX4_clear 5 0 6 := Or.inl ⟨0, by decide +kernel, rfl, rfl⟩
theorem eX4_clear_6 : xK mX4_clear 6 (nI 0) 7 := Or.inl (⟨0, by decide +kernel, by decide, rfl⟩)
theorem eX4_clear_7 : xPF mX4_clear 7 4 2 (.int) 10 := ⟨18, _, by decide +kernel, rfl, fl_X4_18, fun h => by cases h⟩
theorem eX4_clear_10 : xD mX4_clear 10 (.return_) 1 11 := ⟨by decide +kernel, rfl⟩
theorem eX4_push_0 : x_aload mX4_push 0 0 1 := Or.inl ⟨0, by decide +kernel, rfl, rfl⟩
set_option maxRecDepth 20000 in
theorem eX4_push_1 : xCV mX4_push 1 mX4_isFull 0 4 4 := ⟨25, by decide +kernel, rfl, ⟨cm_X4_25.1, cm_X4_25.2.1, cm_X4_25.2.2.1, cm_X4_25.2.2.2.1, cm_X4_25.2.2.2.2⟩, xT_3 34 rfl rfl, xT_3 35 rfl rfl, _, rfl, rfl⟩
theorem eX4_push_4 : xJ mX4_push 4 (.ifCond .eq) 26 7 := ⟨(22), by decide +kernel, by decide, rfl⟩
theorem eX4_push_7 : x_aload mX4_push 7 0 8 := Or.inl ⟨0, by decide +kernel, rfl, rfl⟩
theorem eX4_push_8 : x_aload mX4_push 8 0 9 := Or.inl ⟨0, by decide +kernel, rfl, rfl⟩
theorem eX4_push_9 : xK mX4_push 9 (nI 1) 10 := Or.inl (⟨1, by decide +kernel, by decide, rfl⟩)
set_option maxRecDepth 20000 in
theorem eX4_push_10 : xCV mX4_push 10 mX4_slotOf 1 4 13 := ⟨29, by decide +kernel, rfl, ⟨cm_X4_29.1, cm_X4_29.2.1, cm_X4_29.2.2.1, cm_X4_29.2.2.2.1, cm_X4_29.2.2.2.2⟩, xT_3 39 rfl rfl, xT_0 7 rfl rfl, _, rfl, rfl⟩
theorem eX4_push_13 : xPF mX4_push 13 4 1 (.int) 16 := ⟨22, _, by decide +kernel, rfl, fl_X4_22, fun h => by cases h⟩
theorem eX4_push_16 : x_aload mX4_push 16 0 17 := Or.inl ⟨0, by decide +kernel, rfl, rfl⟩
theorem eX4_push_17 : xD mX4_push 17 (.dup) 1 18 := ⟨by decide +kernel, rfl⟩
theorem eX4_push_18 : xGF mX4_push 18 4 2 21 := ⟨18, _, _, by decide +kernel, rfl, fl_X4_18⟩
theorem eX4_push_21 : xK mX4_push 21 (nI 1) 22 := Or.inl (⟨1, by decide +kernel, by decide, rfl⟩)
theorem eX4_push_22 : xD mX4_push 22 (.isub) 1 23 := ⟨by decide +kernel, rfl⟩
theorem eX4_push_23 : xPF mX4_push 23 4 2 (.int) 26 := ⟨18, _, by decide +kernel, rfl, fl_X4_18, fun h => by cases h⟩
theorem eX4_push_26 : x_aload mX4_push 26 0 27 := Or.inl ⟨0, by decide +kernel, rfl, rfl⟩
theorem eX4_push_27 : xGF mX4_push 27 4 0 30 := ⟨9, _, _, by decide +kernel, rfl, fl_X4_9⟩
theorem eX4_push_30 : x_aload mX4_push 30 0 31 := Or.inl ⟨0, by decide +kernel, rfl, rfl⟩
theorem eX4_push_31 : x_aload mX4_push 31 0 32 := Or.inl ⟨0, by decide +kernel, rfl, rfl⟩
theorem eX4_push_32 : xGF mX4_push 32 4 2 35 := ⟨18, _, _, by decide +kernel, rfl, fl_X4_18⟩
set_option maxRecDepth 20000 in
theorem eX4_push_35 : xCV mX4_push 35 mX4_slotOf 1 4 38 := ⟨29, by decide +kernel, rfl, ⟨cm_X4_29.1, cm_X4_29.2.1, cm_X4_29.2.2.1, cm_X4_29.2.2.2.1, cm_X4_29.2.2.2.2⟩, xT_3 39 rfl rfl, xT_0 7 rfl rfl, _, rfl, rfl⟩
theorem eX4_push_38 : xD mX4_push 38 (.aaload) 1 39 := ⟨by decide +kernel, rfl⟩
theorem eX4_push_39 : x_aload mX4_push 39 1 40 := Or.inl ⟨1, by decide +kernel, rfl, rfl⟩
set_option maxRecDepth 20000 in
theorem eX4_push_40 : xCV mX4_push 40 mX0_copyFrom 1 0 43 := ⟨33, by decide +kernel, rfl, ⟨cm_X4_33.1, cm_X4_33.2.1, cm_X4_33.2.2.1, cm_X4_33.2.2.2.1, cm_X4_33.2.2.2.2⟩, xT_3 42 rfl rfl, xT_3 43 rfl rfl, _, rfl, rfl⟩
theorem eX4_push_43 : x_aload mX4_push 43 0 44 := Or.inl ⟨0, by decide +kernel, rfl, rfl⟩
theorem eX4_push_44 : xD mX4_push 44 (.dup) 1 45 := ⟨by decide +kernel, rfl⟩
theorem eX4_push_45 : xGF mX4_push 45 4 2 48 := ⟨18, _, _, by decide +kernel, rfl, fl_X4_18⟩
theorem eX4_push_48 : xK mX4_push 48 (nI 1) 49 := Or.inl (⟨1, by decide +kernel, by decide, rfl⟩)
theorem eX4_push_49 : xD mX4_push 49 (.iadd) 1 50 := ⟨by decide +kernel, rfl⟩
theorem eX4_push_50 : xPF mX4_push 50 4 2 (.int) 53 := ⟨18, _, by decide +kernel, rfl, fl_X4_18, fun h => by cases h⟩
theorem eX4_push_53 : xD mX4_push 53 (.return_) 1 54 := ⟨by decide +kernel, rfl⟩
theorem eX4_popInto_0 : x_aload mX4_popInto 0 0 1 := Or.inl ⟨0, by decide +kernel, rfl, rfl⟩
theorem eX4_popInto_1 : xGF mX4_popInto 1 4 2 4 := ⟨18, _, _, by decide +kernel, rfl, fl_X4_18⟩
theorem eX4_popInto_4 : xJ mX4_popInto 4 (.ifCond .le) 34 7 := ⟨(30), by decide +kernel, by decide, rfl⟩
theorem eX4_popInto_7 : x_aload mX4_popInto 7 0 8 := Or.inl ⟨0, by decide +kernel, rfl, rfl⟩
theorem eX4_popInto_8 : xD mX4_popInto 8 (.dup) 1 9 := ⟨by decide +kernel, rfl⟩
theorem eX4_popInto_9 : xGF mX4_popInto 9 4 2 12 := ⟨18, _, _, by decide +kernel, rfl, fl_X4_18⟩
theorem eX4_popInto_12 : xK mX4_popInto 12 (nI 1) 13 := Or.inl (⟨1, by decide +kernel, by decide, rfl⟩)
theorem eX4_popInto_13 : xD mX4_popInto 13 (.isub) 1 14 := ⟨by decide +kernel, rfl⟩
theorem eX4_popInto_14 : xPF mX4_popInto 14 4 2 (.int) 17 := ⟨18, _, by decide +kernel, rfl, fl_X4_18, fun h => by cases h⟩
theorem eX4_popInto_17 : x_aload mX4_popInto 17 1 18 := Or.inl ⟨1, by decide +kernel, rfl, rfl⟩
theorem eX4_popInto_18 : x_aload mX4_popInto 18 0 19 := Or.inl ⟨0, by decide +kernel, rfl, rfl⟩
theorem eX4_popInto_19 : xGF mX4_popInto 19 4 0 22 := ⟨9, _, _, by decide +kernel, rfl, fl_X4_9⟩
theorem eX4_popInto_22 : x_aload mX4_popInto 22 0 23 := Or.inl ⟨0, by decide +kernel, rfl, rfl⟩
theorem eX4_popInto_23 : x_aload mX4_popInto 23 0 24 := Or.inl ⟨0, by decide +kernel, rfl, rfl⟩
theorem eX4_popInto_24 : xGF mX4_popInto 24 4 2 27 := ⟨18, _, _, by decide +kernel, rfl, fl_X4_18⟩
set_option maxRecDepth 20000 in
theorem eX4_popInto_27 : xCV mX4_popInto 27 mX4_slotOf 1 4 30 := ⟨29, by decide +kernel, rfl, ⟨cm_X4_29.1, cm_X4_29.2.1, cm_X4_29.2.2.1, cm_X4_29.2.2.2.1, cm_X4_29.2.2.2.2⟩, xT_3 39 rfl rfl, xT_0 7 rfl rfl, _, rfl, rfl⟩
theorem eX4_popInto_30 : xD mX4_popInto 30 (.aaload) 1 31 := ⟨by decide +kernel, rfl⟩
set_option maxRecDepth 20000 in
theorem eX4_popInto_31 : xCV mX4_popInto 31 mX0_copyFrom 1 0 34 := ⟨33, by decide +kernel, rfl, ⟨cm_X4_33.1, cm_X4_33.2.1, cm_X4_33.2.2.1, cm_X4_33.2.2.2.1, cm_X4_33.2.2.2.2⟩, xT_3 42 rfl rfl, xT_3 43 rfl rfl, _, rfl, rfl⟩
theorem eX4_popInto_34 : xD mX4_popInto 34 (.return_) 1 35 := ⟨by decide +kernel, rfl⟩
theorem eX4_slotOf_0 : x_aload mX4_slotOf 0 0 1 := Or.inl ⟨0, by decide +kernel, rfl, rfl⟩
theorem eX4_slotOf_1 : xGF mX4_slotOf 1 4 1 4 := ⟨22, _, _, by decide +kernel, rfl, fl_X4_22⟩
theorem eX4_slotOf_4 : x_iload mX4_slotOf 4 1 5 := Or.inl ⟨1, by decide +kernel, rfl, rfl⟩
theorem eX4_slotOf_5 : xD mX4_slotOf 5 (.iadd) 1 6 := ⟨by decide +kernel, rfl⟩
theorem eX4_slotOf_6 : x_istore mX4_slotOf 6 2 7 := Or.inl ⟨2, by decide +kernel, rfl, rfl⟩
theorem eX4_slotOf_7 : x_iload mX4_slotOf 7 2 8 := Or.inl ⟨2, by decide +kernel, rfl, rfl⟩
theorem eX4_slotOf_8 : x_aload mX4_slotOf 8 0 9 := Or.inl ⟨0, by decide +kernel, rfl, rfl⟩
theorem eX4_slotOf_9 : xGF mX4_slotOf 9 4 0 12 := ⟨9, _, _, by decide +kernel, rfl, fl_X4_9⟩
theorem eX4_slotOf_12 : xD mX4_slotOf 12 (.arraylength) 1 13 := ⟨by decide +kernel, rfl⟩
theorem eX4_slotOf_13 : xJ mX4_slotOf 13 (.if_icmp .ge) 20 16 := ⟨(7), by decide +kernel, by decide, rfl⟩
theorem eX4_slotOf_16 : x_iload mX4_slotOf 16 2 17 := Or.inl ⟨2, by decide +kernel, rfl, rfl⟩
theorem eX4_slotOf_17 : xJ mX4_slotOf 17 (.goto) 27 20 := ⟨(10), by decide +kernel, by decide, rfl⟩
theorem eX4_slotOf_20 : x_iload mX4_slotOf 20 2 21 := Or.inl ⟨2, by decide +kernel, rfl, rfl⟩
theorem eX4_slotOf_21 : x_aload mX4_slotOf 21 0 22 := Or.inl ⟨0, by decide +kernel, rfl, rfl⟩
theorem eX4_slotOf_22 : xGF mX4_slotOf 22 4 0 25 := ⟨9, _, _, by decide +kernel, rfl, fl_X4_9⟩
theorem eX4_slotOf_25 : xD mX4_slotOf 25 (.arraylength) 1 26 := ⟨by decide +kernel, rfl⟩
theorem eX4_slotOf_26 : xD mX4_slotOf 26 (.isub) 1 27 := ⟨by decide +kernel, rfl⟩
theorem eX4_slotOf_27 : xD mX4_slotOf 27 (.ireturn) 1 28 := ⟨by decide +kernel, rfl⟩
theorem eX5_init_0 : x_aload mX5_init 0 0 1 := Or.inl ⟨0, by decide +kernel, rfl, rfl⟩
theorem eX5_init_4 : x_aload mX5_init 4 0 5 := Or.inl ⟨0, by decide +kernel, rfl, rfl⟩
theorem eX5_init_5 : xK mX5_init 5 (nI 3) 6 := Or.inl (⟨3, by decide +kernel, by decide, rfl⟩)
set_option maxRecDepth 20000 in
theorem eX5_init_8 : xPF mX5_init 8 5 0 (.array .int) 11 := ⟨9, _, by decide +kernel, rfl, fl_X5_9, fun _ => ⟨rfl, ⟨_, rfl, rfl⟩, _, rfl, xT_1 50 rfl rfl⟩⟩
theorem eX5_init_11 : xD mX5_init 11 (.return_) 1 12 := ⟨by decide +kernel, rfl⟩
theorem eX5_readAll_0 : x_aload mX5_readAll 0 2 1 := Or.inl ⟨2, by decide +kernel, rfl, rfl⟩
set_option maxRecDepth 20000 in
theorem eX5_readAll_1 : xCV mX5_readAll 1 mX2_clear 0 2 4 := ⟨15, by decide +kernel, rfl, ⟨cm_X5_15.1, cm_X5_15.2.1, cm_X5_15.2.2.1, cm_X5_15.2.2.2.1, cm_X5_15.2.2.2.2⟩, xT_2 98 rfl rfl, xT_2 99 rfl rfl, _, rfl, rfl⟩
theorem eX5_readAll_4 : x_aload mX5_readAll 4 0 5 := Or.inl ⟨0, by decide +kernel, rfl, rfl⟩
theorem eX5_readAll_5 : xK mX5_readAll 5 (nI 0) 6 := Or.inl (⟨0, by decide +kernel, by decide, rfl⟩)
theorem eX5_readAll_6 : xPF mX5_readAll 6 5 1 (.int) 9 := ⟨20, _, by decide +kernel, rfl, fl_X5_20, fun h => by cases h⟩
theorem eX5_readAll_9 : xK mX5_readAll 9 (nI 0) 10 := Or.inl (⟨0, by decide +kernel, by decide, rfl⟩)
theorem eX5_readAll_10 : x_istore mX5_readAll 10 3 11 := Or.inl ⟨3, by decide +kernel, rfl, rfl⟩
theorem eX5_readAll_11 : x_iload mX5_readAll 11 3 12 := Or.inl ⟨3, by decide +kernel, rfl, rfl⟩
theorem eX5_readAll_12 : xK mX5_readAll 12 (nI 200) 15 := Or.inr (Or.inr (Or.inl (⟨200, by decide +kernel, by decide, rfl⟩)))
theorem eX5_readAll_15 : xJ mX5_readAll 15 (.if_icmp .ge) 53 18 := ⟨(38), by decide +kernel, by decide, rfl⟩
theorem eX5_readAll_18 : x_aload mX5_readAll 18 0 19 := Or.inl ⟨0, by decide +kernel, rfl, rfl⟩
theorem eX5_readAll_19 : xGF mX5_readAll 19 5 1 22 := ⟨20, _, _, by decide +kernel, rfl, fl_X5_20⟩
theorem eX5_readAll_22 : x_aload mX5_readAll 22 1 23 := Or.inl ⟨1, by decide +kernel, rfl, rfl⟩
theorem eX5_readAll_23 : xGF mX5_readAll 23 6 1 26 := ⟨24, _, _, by decide +kernel, rfl, fl_X5_24⟩
theorem eX5_readAll_26 : xJ mX5_readAll 26 (.if_icmp .ge) 53 29 := ⟨(27), by decide +kernel, by decide, rfl⟩
theorem eX5_readAll_29 : x_aload mX5_readAll 29 0 30 := Or.inl ⟨0, by decide +kernel, rfl, rfl⟩
theorem eX5_readAll_30 : xGF mX5_readAll 30 5 1 33 := ⟨20, _, _, by decide +kernel, rfl, fl_X5_20⟩
theorem eX5_readAll_33 : x_istore mX5_readAll 33 4 35 := Or.inr ⟨by decide +kernel, rfl⟩
theorem eX5_readAll_35 : x_aload mX5_readAll 35 0 36 := Or.inl ⟨0, by decide +kernel, rfl, rfl⟩
theorem eX5_readAll_36 : x_aload mX5_readAll 36 1 37 := Or.inl ⟨1, by decide +kernel, rfl, rfl⟩
theorem eX5_readAll_37 : x_aload mX5_readAll 37 2 38 := Or.inl ⟨2, by decide +kernel, rfl, rfl⟩
set_option maxRecDepth 20000 in
theorem eX5_readAll_38 : xCV mX5_readAll 38 mX5_readItem 2 5 41 := ⟨29, by decide +kernel, rfl, ⟨cm_X5_29.1, cm_X5_29.2.1, cm_X5_29.2.2.1, cm_X5_29.2.2.2.1, cm_X5_29.2.2.2.2⟩, xT_2 107 rfl rfl, xT_0 1 rfl rfl, _, rfl, rfl⟩
theorem eX5_readAll_41 : xJ mX5_readAll 41 (.ifCond .ne) 47 44 := ⟨(6), by decide +kernel, by decide, rfl⟩
theorem eX5_readAll_44 : x_iload mX5_readAll 44 4 46 := Or.inr ⟨by decide +kernel, rfl⟩
theorem eX5_readAll_46 : xD mX5_readAll 46 (.ireturn) 1 47 := ⟨by decide +kernel, rfl⟩
theorem eX5_readAll_47 : xD mX5_readAll 47 (.iinc 3 1) 3 50 := ⟨by decide +kernel, rfl⟩
theorem eX5_readAll_50 : xJ mX5_readAll 50 (.goto) 11 53 := ⟨(-39), by decide +kernel, by decide, rfl⟩
theorem eX5_readAll_53 : xK mX5_readAll 53 ((-4)) 55 := Or.inr (Or.inl (⟨(-4), by decide +kernel, by decide, rfl⟩))
theorem eX5_readAll_55 : xD mX5_readAll 55 (.ireturn) 1 56 := ⟨by decide +kernel, rfl⟩
theorem eX5_readItem_0 : x_aload mX5_readItem 0 1 1 := Or.inl ⟨1, by decide +kernel, rfl, rfl⟩
theorem eX5_readItem_1 : x_aload mX5_readItem 1 0 2 := Or.inl ⟨0, by decide +kernel, rfl, rfl⟩
theorem eX5_readItem_2 : xGF mX5_readItem 2 5 1 5 := ⟨20, _, _, by decide +kernel, rfl, fl_X5_20⟩
set_option maxRecDepth 20000 in
theorem eX5_readItem_5 : xCV mX5_readItem 5 mX6_letterAt 1 6 8 := ⟨33, by decide +kernel, rfl, ⟨cm_X5_33.1, cm_X5_33.2.1, cm_X5_33.2.2.1, cm_X5_33.2.2.2.1, cm_X5_33.2.2.2.2⟩, xT_2 110 rfl rfl, xT_2 111 rfl rfl, _, rfl, rfl⟩
theorem eX5_readItem_8 : x_istore mX5_readItem 8 3 9 := Or.inl ⟨3, by decide +kernel, rfl, rfl⟩
theorem eX5_readItem_9 : x_aload mX5_readItem 9 0 10 := Or.inl ⟨0, by decide +kernel, rfl, rfl⟩
theorem eX5_readItem_10 : xD mX5_readItem 10 (.dup) 1 11 := ⟨by decide +kernel, rfl⟩
theorem eX5_readItem_11 : xGF mX5_readItem 11 5 1 14 := ⟨20, _, _, by decide +kernel, rfl, fl_X5_20⟩
theorem eX5_readItem_14 : xK mX5_readItem 14 (nI 1) 15 := Or.inl (⟨1, by decide +kernel, by decide, rfl⟩)
theorem eX5_readItem_15 : xD mX5_readItem 15 (.iadd) 1 16 := ⟨by decide +kernel, rfl⟩
theorem eX5_readItem_16 : xPF mX5_readItem 16 5 1 (.int) 19 := ⟨20, _, by decide +kernel, rfl, fl_X5_20, fun h => by cases h⟩
theorem eX5_readItem_19 : x_iload mX5_readItem 19 3 20 := Or.inl ⟨3, by decide +kernel, rfl, rfl⟩
theorem eX5_readItem_20 : xK mX5_readItem 20 (nI 118) 22 := Or.inr (Or.inl (⟨118, by decide +kernel, by decide, rfl⟩))
theorem eX5_readItem_22 : xJ mX5_readItem 22 (.if_icmp .ne) 59 25 := ⟨(37), by decide +kernel, by decide, rfl⟩
theorem eX5_readItem_25 : x_aload mX5_readItem 25 0 26 := Or.inl ⟨0, by decide +kernel, rfl, rfl⟩
theorem eX5_readItem_26 : x_aload mX5_readItem 26 1 27 := Or.inl ⟨1, by decide +kernel, rfl, rfl⟩
theorem eX5_readItem_27 : xK mX5_readItem 27 (nI 2) 28 := Or.inl (⟨2, by decide +kernel, by decide, rfl⟩)
set_option maxRecDepth 20000 in
theorem eX5_readItem_28 : xCV mX5_readItem 28 mX5_readNumbers 2 5 31 := ⟨37, by decide +kernel, rfl, ⟨cm_X5_37.1, cm_X5_37.2.1, cm_X5_37.2.2.1, cm_X5_37.2.2.2.1, cm_X5_37.2.2.2.2⟩, xT_2 115 rfl rfl, xT_0 2 rfl rfl, _, rfl, rfl⟩
theorem eX5_readItem_31 : xJ mX5_readItem 31 (.ifCond .eq) 57 34 := ⟨(26), by decide +kernel, by decide, rfl⟩
theorem eX5_readItem_34 : x_aload mX5_readItem 34 2 35 := Or.inl ⟨2, by decide +kernel, rfl, rfl⟩
theorem eX5_readItem_35 : x_aload mX5_readItem 35 0 36 := Or.inl ⟨0, by decide +kernel, rfl, rfl⟩
theorem eX5_readItem_36 : xGF mX5_readItem 36 5 0 39 := ⟨9, _, _, by decide +kernel, rfl, fl_X5_9⟩
theorem eX5_readItem_39 : xK mX5_readItem 39 (nI 0) 40 := Or.inl (⟨0, by decide +kernel, by decide, rfl⟩)
theorem eX5_readItem_40 : xD mX5_readItem 40 (.iaload) 1 41 := ⟨by decide +kernel, rfl⟩
theorem eX5_readItem_41 : x_aload mX5_readItem 41 0 42 := Or.inl ⟨0, by decide +kernel, rfl, rfl⟩
theorem eX5_readItem_42 : xGF mX5_readItem 42 5 0 45 := ⟨9, _, _, by decide +kernel, rfl, fl_X5_9⟩
theorem eX5_readItem_45 : xK mX5_readItem 45 (nI 1) 46 := Or.inl (⟨1, by decide +kernel, by decide, rfl⟩)
theorem eX5_readItem_46 : xD mX5_readItem 46 (.iaload) 1 47 := ⟨by decide +kernel, rfl⟩
set_option maxRecDepth 20000 in
theorem eX5_readItem_47 : xCV mX5_readItem 47 mX2_addVillage 2 2 50 := ⟨41, by decide +kernel, rfl, ⟨cm_X5_41.1, cm_X5_41.2.1, cm_X5_41.2.2.1, cm_X5_41.2.2.2.1, cm_X5_41.2.2.2.2⟩, xT_2 122 rfl rfl, xT_2 123 rfl rfl, _, rfl, rfl⟩
theorem eX5_readItem_50 : xJ mX5_readItem 50 (.ifCond .eq) 57 53 := ⟨(7), by decide +kernel, by decide, rfl⟩
theorem eX5_readItem_53 : xK mX5_readItem 53 (nI 1) 54 := Or.inl (⟨1, by decide +kernel, by decide, rfl⟩)
theorem eX5_readItem_54 : xJ mX5_readItem 54 (.goto) 58 57 := ⟨(4), by decide +kernel, by decide, rfl⟩
theorem eX5_readItem_57 : xK mX5_readItem 57 (nI 0) 58 := Or.inl (⟨0, by decide +kernel, by decide, rfl⟩)
theorem eX5_readItem_58 : xD mX5_readItem 58 (.ireturn) 1 59 := ⟨by decide +kernel, rfl⟩
theorem eX5_readItem_59 : x_iload mX5_readItem 59 3 60 := Or.inl ⟨3, by decide +kernel, rfl, rfl⟩
theorem eX5_readItem_60 : xK mX5_readItem 60 (nI 119) 62 := Or.inr (Or.inl (⟨119, by decide +kernel, by decide, rfl⟩))
theorem eX5_readItem_62 : xJ mX5_readItem 62 (.if_icmp .ne) 105 65 := ⟨(43), by decide +kernel, by decide, rfl⟩
theorem eX5_readItem_65 : x_aload mX5_readItem 65 0 66 := Or.inl ⟨0, by decide +kernel, rfl, rfl⟩
theorem eX5_readItem_66 : x_aload mX5_readItem 66 1 67 := Or.inl ⟨1, by decide +kernel, rfl, rfl⟩
theorem eX5_readItem_67 : xK mX5_readItem 67 (nI 3) 68 := Or.inl (⟨3, by decide +kernel, by decide, rfl⟩)
set_option maxRecDepth 20000 in
theorem eX5_readItem_68 : xCV mX5_readItem 68 mX5_readNumbers 2 5 71 := ⟨37, by decide +kernel, rfl, ⟨cm_X5_37.1, cm_X5_37.2.1, cm_X5_37.2.2.1, cm_X5_37.2.2.2.1, cm_X5_37.2.2.2.2⟩, xT_2 115 rfl rfl, xT_0 2 rfl rfl, _, rfl, rfl⟩
theorem eX5_readItem_71 : xJ mX5_readItem 71 (.ifCond .eq) 103 74 := ⟨(32), by decide +kernel, by decide, rfl⟩
theorem eX5_readItem_74 : x_aload mX5_readItem 74 2 75 := Or.inl ⟨2, by decide +kernel, rfl, rfl⟩
theorem eX5_readItem_75 : x_aload mX5_readItem 75 0 76 := Or.inl ⟨0, by decide +kernel, rfl, rfl⟩
theorem eX5_readItem_76 : xGF mX5_readItem 76 5 0 79 := ⟨9, _, _, by decide +kernel, rfl, fl_X5_9⟩
theorem eX5_readItem_79 : xK mX5_readItem 79 (nI 0) 80 := Or.inl (⟨0, by decide +kernel, by decide, rfl⟩)
theorem eX5_readItem_80 : xD mX5_readItem 80 (.iaload) 1 81 := ⟨by decide +kernel, rfl⟩
theorem eX5_readItem_81 : x_aload mX5_readItem 81 0 82 := Or.inl ⟨0, by decide +kernel, rfl, rfl⟩
theorem eX5_readItem_82 : xGF mX5_readItem 82 5 0 85 := ⟨9, _, _, by decide +kernel, rfl, fl_X5_9⟩
theorem eX5_readItem_85 : xK mX5_readItem 85 (nI 1) 86 := Or.inl (⟨1, by decide +kernel, by decide, rfl⟩)
theorem eX5_readItem_86 : xD mX5_readItem 86 (.iaload) 1 87 := ⟨by decide +kernel, rfl⟩
theorem eX5_readItem_87 : x_aload mX5_readItem 87 0 88 := Or.inl ⟨0, by decide +kernel, rfl, rfl⟩
theorem eX5_readItem_88 : xGF mX5_readItem 88 5 0 91 := ⟨9, _, _, by decide +kernel, rfl, fl_X5_9⟩
theorem eX5_readItem_91 : xK mX5_readItem 91 (nI 2) 92 := Or.inl (⟨2, by decide +kernel, by decide, rfl⟩)
theorem eX5_readItem_92 : xD mX5_readItem 92 (.iaload) 1 93 := ⟨by decide +kernel, rfl⟩
set_option maxRecDepth 20000 in
theorem eX5_readItem_93 : xCV mX5_readItem 93 mX2_addWay 3 2 96 := ⟨45, by decide +kernel, rfl, ⟨cm_X5_45.1, cm_X5_45.2.1, cm_X5_45.2.2.1, cm_X5_45.2.2.2.1, cm_X5_45.2.2.2.2⟩, xT_2 129 rfl rfl, xT_2 130 rfl rfl, _, rfl, rfl⟩
theorem eX5_readItem_96 : xJ mX5_readItem 96 (.ifCond .eq) 103 99 := ⟨(7), by decide +kernel, by decide, rfl⟩
theorem eX5_readItem_99 : xK mX5_readItem 99 (nI 1) 100 := Or.inl (⟨1, by decide +kernel, by decide, rfl⟩)
theorem eX5_readItem_100 : xJ mX5_readItem 100 (.goto) 104 103 := ⟨(4), by decide +kernel, by decide, rfl⟩
theorem eX5_readItem_103 : xK mX5_readItem 103 (nI 0) 104 := Or.inl (⟨0, by decide +kernel, by decide, rfl⟩)
theorem eX5_readItem_104 : xD mX5_readItem 104 (.ireturn) 1 105 := ⟨by decide +kernel, rfl⟩
theorem eX5_readItem_105 : x_iload mX5_readItem 105 3 106 := Or.inl ⟨3, by decide +kernel, rfl, rfl⟩
theorem eX5_readItem_106 : xK mX5_readItem 106 (nI 112) 108 := Or.inr (Or.inl (⟨112, by decide +kernel, by decide, rfl⟩))
theorem eX5_readItem_108 : xJ mX5_readItem 108 (.if_icmp .ne) 137 111 := ⟨(29), by decide +kernel, by decide, rfl⟩
theorem eX5_readItem_111 : x_aload mX5_readItem 111 0 112 := Or.inl ⟨0, by decide +kernel, rfl, rfl⟩
theorem eX5_readItem_112 : x_aload mX5_readItem 112 1 113 := Or.inl ⟨1, by decide +kernel, rfl, rfl⟩
theorem eX5_readItem_113 : xK mX5_readItem 113 (nI 1) 114 := Or.inl (⟨1, by decide +kernel, by decide, rfl⟩)
set_option maxRecDepth 20000 in
theorem eX5_readItem_114 : xCV mX5_readItem 114 mX5_readNumbers 2 5 117 := ⟨37, by decide +kernel, rfl, ⟨cm_X5_37.1, cm_X5_37.2.1, cm_X5_37.2.2.1, cm_X5_37.2.2.2.1, cm_X5_37.2.2.2.2⟩, xT_2 115 rfl rfl, xT_0 2 rfl rfl, _, rfl, rfl⟩
theorem eX5_readItem_117 : xJ mX5_readItem 117 (.ifCond .eq) 137 120 := ⟨(20), by decide +kernel, by decide, rfl⟩
theorem eX5_readItem_120 : x_aload mX5_readItem 120 2 121 := Or.inl ⟨2, by decide +kernel, rfl, rfl⟩
theorem eX5_readItem_121 : x_aload mX5_readItem 121 0 122 := Or.inl ⟨0, by decide +kernel, rfl, rfl⟩
theorem eX5_readItem_122 : xGF mX5_readItem 122 5 0 125 := ⟨9, _, _, by decide +kernel, rfl, fl_X5_9⟩
theorem eX5_readItem_125 : xK mX5_readItem 125 (nI 0) 126 := Or.inl (⟨0, by decide +kernel, by decide, rfl⟩)
theorem eX5_readItem_126 : xD mX5_readItem 126 (.iaload) 1 127 := ⟨by decide +kernel, rfl⟩
set_option maxRecDepth 20000 in
theorem eX5_readItem_127 : xCV mX5_readItem 127 mX2_addParty 1 2 130 := ⟨49, by decide +kernel, rfl, ⟨cm_X5_49.1, cm_X5_49.2.1, cm_X5_49.2.2.1, cm_X5_49.2.2.2.1, cm_X5_49.2.2.2.2⟩, xT_2 137 rfl rfl, xT_2 138 rfl rfl, _, rfl, rfl⟩
theorem eX5_readItem_130 : xJ mX5_readItem 130 (.ifCond .eq) 137 133 := ⟨(7), by decide +kernel, by decide, rfl⟩
theorem eX5_readItem_133 : xK mX5_readItem 133 (nI 1) 134 := Or.inl (⟨1, by decide +kernel, by decide, rfl⟩)
theorem eX5_readItem_134 : xJ mX5_readItem 134 (.goto) 138 137 := ⟨(4), by decide +kernel, by decide, rfl⟩
theorem eX5_readItem_137 : xK mX5_readItem 137 (nI 0) 138 := Or.inl (⟨0, by decide +kernel, by decide, rfl⟩)
theorem eX5_readItem_138 : xD mX5_readItem 138 (.ireturn) 1 139 := ⟨by decide +kernel, rfl⟩
theorem eX5_readNumbers_0 : xK mX5_readNumbers 0 (nI 0) 1 := Or.inl (⟨0, by decide +kernel, by decide, rfl⟩)
theorem eX5_readNumbers_1 : x_istore mX5_readNumbers 1 3 2 := Or.inl ⟨3, by decide +kernel, rfl, rfl⟩
theorem eX5_readNumbers_2 : x_iload mX5_readNumbers 2 3 3 := Or.inl ⟨3, by decide +kernel, rfl, rfl⟩
theorem eX5_readNumbers_3 : x_iload mX5_readNumbers 3 2 4 := Or.inl ⟨2, by decide +kernel, rfl, rfl⟩
theorem eX5_readNumbers_4 : xJ mX5_readNumbers 4 (.if_icmp .ge) 85 7 := ⟨(81), by decide +kernel, by decide, rfl⟩
theorem eX5_readNumbers_7 : x_iload mX5_readNumbers 7 3 8 := Or.inl ⟨3, by decide +kernel, rfl, rfl⟩
theorem eX5_readNumbers_8 : x_aload mX5_readNumbers 8 0 9 := Or.inl ⟨0, by decide +kernel, rfl, rfl⟩
theorem eX5_readNumbers_9 : xGF mX5_readNumbers 9 5 0 12 := ⟨9, _, _, by decide +kernel, rfl, fl_X5_9⟩
theorem eX5_readNumbers_12 : xD mX5_readNumbers 12 (.arraylength) 1 13 := ⟨by decide +kernel, rfl⟩
theorem eX5_readNumbers_13 : xJ mX5_readNumbers 13 (.if_icmp .ge) 85 16 := ⟨(72), by decide +kernel, by decide, rfl⟩
theorem eX5_readNumbers_16 : x_aload mX5_readNumbers 16 0 17 := Or.inl ⟨0, by decide +kernel, rfl, rfl⟩
theorem eX5_readNumbers_17 : xGF mX5_readNumbers 17 5 0 20 := ⟨9, _, _, by decide +kernel, rfl, fl_X5_9⟩
theorem eX5_readNumbers_20 : x_iload mX5_readNumbers 20 3 21 := Or.inl ⟨3, by decide +kernel, rfl, rfl⟩
theorem eX5_readNumbers_21 : x_aload mX5_readNumbers 21 0 22 := Or.inl ⟨0, by decide +kernel, rfl, rfl⟩
theorem eX5_readNumbers_22 : x_aload mX5_readNumbers 22 1 23 := Or.inl ⟨1, by decide +kernel, rfl, rfl⟩
set_option maxRecDepth 20000 in
theorem eX5_readNumbers_23 : xCV mX5_readNumbers 23 mX5_readNumber 1 5 26 := ⟨53, by decide +kernel, rfl, ⟨cm_X5_53.1, cm_X5_53.2.1, cm_X5_53.2.2.1, cm_X5_53.2.2.2.1, cm_X5_53.2.2.2.2⟩, xT_2 119 rfl rfl, xT_0 3 rfl rfl, _, rfl, rfl⟩
theorem eX5_readNumbers_26 : xD mX5_readNumbers 26 (.iastore) 1 27 := ⟨by decide +kernel, rfl⟩
theorem eX5_readNumbers_27 : x_iload mX5_readNumbers 27 3 28 := Or.inl ⟨3, by decide +kernel, rfl, rfl⟩
theorem eX5_readNumbers_28 : x_iload mX5_readNumbers 28 2 29 := Or.inl ⟨2, by decide +kernel, rfl, rfl⟩
theorem eX5_readNumbers_29 : xK mX5_readNumbers 29 (nI 1) 30 := Or.inl (⟨1, by decide +kernel, by decide, rfl⟩)
theorem eX5_readNumbers_30 : xD mX5_readNumbers 30 (.isub) 1 31 := ⟨by decide +kernel, rfl⟩
theorem eX5_readNumbers_31 : xJ mX5_readNumbers 31 (.if_icmp .ne) 39 34 := ⟨(8), by decide +kernel, by decide, rfl⟩
theorem eX5_readNumbers_34 : xK mX5_readNumbers 34 (nI 59) 36 := Or.inr (Or.inl (⟨59, by decide +kernel, by decide, rfl⟩))
theorem eX5_readNumbers_36 : xJ mX5_readNumbers 36 (.goto) 41 39 := ⟨(5), by decide +kernel, by decide, rfl⟩
theorem eX5_readNumbers_39 : xK mX5_readNumbers 39 (nI 44) 41 := Or.inr (Or.inl (⟨44, by decide +kernel, by decide, rfl⟩))
theorem eX5_readNumbers_41 : x_istore mX5_readNumbers 41 4 43 := Or.inr ⟨by decide +kernel, rfl⟩
theorem eX5_readNumbers_43 : x_aload mX5_readNumbers 43 0 44 := Or.inl ⟨0, by decide +kernel, rfl, rfl⟩
theorem eX5_readNumbers_44 : xGF mX5_readNumbers 44 5 0 47 := ⟨9, _, _, by decide +kernel, rfl, fl_X5_9⟩
theorem eX5_readNumbers_47 : x_iload mX5_readNumbers 47 3 48 := Or.inl ⟨3, by decide +kernel, rfl, rfl⟩
theorem eX5_readNumbers_48 : xD mX5_readNumbers 48 (.iaload) 1 49 := ⟨by decide +kernel, rfl⟩
theorem eX5_readNumbers_49 : xK mX5_readNumbers 49 ((-4)) 51 := Or.inr (Or.inl (⟨(-4), by decide +kernel, by decide, rfl⟩))
theorem eX5_readNumbers_51 : xJ mX5_readNumbers 51 (.if_icmp .eq) 67 54 := ⟨(16), by decide +kernel, by decide, rfl⟩
theorem eX5_readNumbers_54 : x_aload mX5_readNumbers 54 1 55 := Or.inl ⟨1, by decide +kernel, rfl, rfl⟩
theorem eX5_readNumbers_55 : x_aload mX5_readNumbers 55 0 56 := Or.inl ⟨0, by decide +kernel, rfl, rfl⟩
theorem eX5_readNumbers_56 : xGF mX5_readNumbers 56 5 1 59 := ⟨20, _, _, by decide +kernel, rfl, fl_X5_20⟩
set_option maxRecDepth 20000 in
theorem eX5_readNumbers_59 : xCV mX5_readNumbers 59 mX6_letterAt 1 6 62 := ⟨33, by decide +kernel, rfl, ⟨cm_X5_33.1, cm_X5_33.2.1, cm_X5_33.2.2.1, cm_X5_33.2.2.2.1, cm_X5_33.2.2.2.2⟩, xT_2 110 rfl rfl, xT_2 111 rfl rfl, _, rfl, rfl⟩
theorem eX5_readNumbers_62 : x_iload mX5_readNumbers 62 4 64 := Or.inr ⟨by decide +kernel, rfl⟩
theorem eX5_readNumbers_64 : xJ mX5_readNumbers 64 (.if_icmp .eq) 69 67 := ⟨(5), by decide +kernel, by decide, rfl⟩
theorem eX5_readNumbers_67 : xK mX5_readNumbers 67 (nI 0) 68 := Or.inl (⟨0, by decide +kernel, by decide, rfl⟩)
theorem eX5_readNumbers_68 : xD mX5_readNumbers 68 (.ireturn) 1 69 := ⟨by decide +kernel, rfl⟩
theorem eX5_readNumbers_69 : x_aload mX5_readNumbers 69 0 70 := Or.inl ⟨0, by decide +kernel, rfl, rfl⟩
theorem eX5_readNumbers_70 : xD mX5_readNumbers 70 (.dup) 1 71 := ⟨by decide +kernel, rfl⟩
theorem eX5_readNumbers_71 : xGF mX5_readNumbers 71 5 1 74 := ⟨20, _, _, by decide +kernel, rfl, fl_X5_20⟩
theorem eX5_readNumbers_74 : xK mX5_readNumbers 74 (nI 1) 75 := Or.inl (⟨1, by decide +kernel, by decide, rfl⟩)
theorem eX5_readNumbers_75 : xD mX5_readNumbers 75 (.iadd) 1 76 := ⟨by decide +kernel, rfl⟩
theorem eX5_readNumbers_76 : xPF mX5_readNumbers 76 5 1 (.int) 79 := ⟨20, _, by decide +kernel, rfl, fl_X5_20, fun h => by cases h⟩
theorem eX5_readNumbers_79 : xD mX5_readNumbers 79 (.iinc 3 1) 3 82 := ⟨by decide +kernel, rfl⟩
theorem eX5_readNumbers_82 : xJ mX5_readNumbers 82 (.goto) 2 85 := ⟨(-80), by decide +kernel, by decide, rfl⟩
theorem eX5_readNumbers_85 : xK mX5_readNumbers 85 (nI 1) 86 := Or.inl (⟨1, by decide +kernel, by decide, rfl⟩)
theorem eX5_readNumbers_86 : xD mX5_readNumbers 86 (.ireturn) 1 87 := ⟨by decide +kernel, rfl⟩
theorem eX5_readNumber_0 : xK mX5_readNumber 0 ((-4)) 2 := Or.inr (Or.inl (⟨(-4), by decide +kernel, by decide, rfl⟩))
theorem eX5_readNumber_2 : x_istore mX5_readNumber 2 2 3 := Or.inl ⟨2, by decide +kernel, rfl, rfl⟩
theorem eX5_readNumber_3 : xK mX5_readNumber 3 (nI 0) 4 := Or.inl (⟨0, by decide +kernel, by decide, rfl⟩)
theorem eX5_readNumber_4 : x_istore mX5_readNumber 4 3 5 := Or.inl ⟨3, by decide +kernel, rfl, rfl⟩
theorem eX5_readNumber_5 : x_iload mX5_readNumber 5 3 6 := Or.inl ⟨3, by decide +kernel, rfl, rfl⟩
theorem eX5_readNumber_6 : xK mX5_readNumber 6 (nI 2) 7 := Or.inl (⟨2, by decide +kernel, by decide, rfl⟩)
theorem eX5_readNumber_7 : xJ mX5_readNumber 7 (.if_icmp .ge) 71 10 := ⟨(64), by decide +kernel, by decide, rfl⟩
theorem eX5_readNumber_10 : x_aload mX5_readNumber 10 1 11 := Or.inl ⟨1, by decide +kernel, rfl, rfl⟩
theorem eX5_readNumber_11 : x_aload mX5_readNumber 11 0 12 := Or.inl ⟨0, by decide +kernel, rfl, rfl⟩
theorem eX5_readNumber_12 : xGF mX5_readNumber 12 5 1 15 := ⟨20, _, _, by decide +kernel, rfl, fl_X5_20⟩
set_option maxRecDepth 20000 in
theorem eX5_readNumber_15 : xCV mX5_readNumber 15 mX6_letterAt 1 6 18 := ⟨33, by decide +kernel, rfl, ⟨cm_X5_33.1, cm_X5_33.2.1, cm_X5_33.2.2.1, cm_X5_33.2.2.2.1, cm_X5_33.2.2.2.2⟩, xT_2 110 rfl rfl, xT_2 111 rfl rfl, _, rfl, rfl⟩
theorem eX5_readNumber_18 : x_istore mX5_readNumber 18 4 20 := Or.inr ⟨by decide +kernel, rfl⟩
theorem eX5_readNumber_20 : x_iload mX5_readNumber 20 4 22 := Or.inr ⟨by decide +kernel, rfl⟩
theorem eX5_readNumber_22 : xK mX5_readNumber 22 (nI 48) 24 := Or.inr (Or.inl (⟨48, by decide +kernel, by decide, rfl⟩))
theorem eX5_readNumber_24 : xJ mX5_readNumber 24 (.if_icmp .lt) 34 27 := ⟨(10), by decide +kernel, by decide, rfl⟩
theorem eX5_readNumber_27 : x_iload mX5_readNumber 27 4 29 := Or.inr ⟨by decide +kernel, rfl⟩
theorem eX5_readNumber_29 : xK mX5_readNumber 29 (nI 57) 31 := Or.inr (Or.inl (⟨57, by decide +kernel, by decide, rfl⟩))
theorem eX5_readNumber_31 : xJ mX5_readNumber 31 (.if_icmp .le) 36 34 := ⟨(5), by decide +kernel, by decide, rfl⟩
theorem eX5_readNumber_34 : x_iload mX5_readNumber 34 2 35 := Or.inl ⟨2, by decide +kernel, rfl, rfl⟩
theorem eX5_readNumber_35 : xD mX5_readNumber 35 (.ireturn) 1 36 := ⟨by decide +kernel, rfl⟩
theorem eX5_readNumber_36 : x_iload mX5_readNumber 36 3 37 := Or.inl ⟨3, by decide +kernel, rfl, rfl⟩
theorem eX5_readNumber_37 : xJ mX5_readNumber 37 (.ifCond .ne) 44 40 := ⟨(7), by decide +kernel, by decide, rfl⟩
theorem eX5_readNumber_40 : xK mX5_readNumber 40 (nI 0) 41 := Or.inl (⟨0, by decide +kernel, by decide, rfl⟩)
theorem eX5_readNumber_41 : xJ mX5_readNumber 41 (.goto) 48 44 := ⟨(7), by decide +kernel, by decide, rfl⟩
theorem eX5_readNumber_44 : x_iload mX5_readNumber 44 2 45 := Or.inl ⟨2, by decide +kernel, rfl, rfl⟩
theorem eX5_readNumber_45 : xK mX5_readNumber 45 (nI 10) 47 := Or.inr (Or.inl (⟨10, by decide +kernel, by decide, rfl⟩))
theorem eX5_readNumber_47 : xD mX5_readNumber 47 (.imul) 1 48 := ⟨by decide +kernel, rfl⟩
theorem eX5_readNumber_48 : x_iload mX5_readNumber 48 4 50 := Or.inr ⟨by decide +kernel, rfl⟩
theorem eX5_readNumber_50 : xK mX5_readNumber 50 (nI 48) 52 := Or.inr (Or.inl (⟨48, by decide +kernel, by decide, rfl⟩))
theorem eX5_readNumber_52 : xD mX5_readNumber 52 (.isub) 1 53 := ⟨by decide +kernel, rfl⟩
theorem eX5_readNumber_53 : xD mX5_readNumber 53 (.iadd) 1 54 := ⟨by decide +kernel, rfl⟩
theorem eX5_readNumber_54 : x_istore mX5_readNumber 54 2 55 := Or.inl ⟨2, by decide +kernel, rfl, rfl⟩
theorem eX5_readNumber_55 : x_aload mX5_readNumber 55 0 56 := Or.inl ⟨0, by decide +kernel, rfl, rfl⟩
theorem eX5_readNumber_56 : xD mX5_readNumber 56 (.dup) 1 57 := ⟨by decide +kernel, rfl⟩
theorem eX5_readNumber_57 : xGF mX5_readNumber 57 5 1 60 := ⟨20, _, _, by decide +kernel, rfl, fl_X5_20⟩
theorem eX5_readNumber_60 : xK mX5_readNumber 60 (nI 1) 61 := Or.inl (⟨1, by decide +kernel, by decide, rfl⟩)
theorem eX5_readNumber_61 : xD mX5_readNumber 61 (.iadd) 1 62 := ⟨by decide +kernel, rfl⟩
theorem eX5_readNumber_62 : xPF mX5_readNumber 62 5 1 (.int) 65 := ⟨20, _, by decide +kernel, rfl, fl_X5_20, fun h => by cases h⟩
theorem eX5_readNumber_65 : xD mX5_readNumber 65 (.iinc 3 1) 3 68 := ⟨by decide +kernel, rfl⟩
theorem eX5_readNumber_68 : xJ mX5_readNumber 68 (.goto) 5 71 := ⟨(-63), by decide +kernel, by decide, rfl⟩
theorem eX5_readNumber_71 : x_iload mX5_readNumber 71 2 72 := Or.inl ⟨2, by decide +kernel, rfl, rfl⟩
theorem eX5_readNumber_72 : xD mX5_readNumber 72 (.ireturn) 1 73 := ⟨by decide +kernel, rfl⟩
theorem eX6_init_0 : x_aload mX6_init 0 0 1 := Or.inl ⟨0, by decide +kernel, rfl, rfl⟩
theorem eX6_init_4 : x_aload mX6_init 4 0 5 := Or.inl ⟨0, by decide +kernel, rfl, rfl⟩
theorem eX6_init_5 : xK mX6_init 5 (nI 200) 8 := Or.inr (Or.inr (Or.inl (⟨200, by decide +kernel, by decide, rfl⟩)))
set_option maxRecDepth 20000 in
theorem eX6_init_10 : xPF mX6_init 10 6 0 (.array .char) 13 := ⟨9, _, by decide +kernel, rfl, fl_X6_9, fun _ => ⟨rfl, ⟨_, rfl, rfl⟩, _, rfl, xT_1 34 rfl rfl⟩⟩
theorem eX6_init_13 : xD mX6_init 13 (.return_) 1 14 := ⟨by decide +kernel, rfl⟩
theorem eX6_isFull_0 : x_aload mX6_isFull 0 0 1 := Or.inl ⟨0, by decide +kernel, rfl, rfl⟩
theorem eX6_isFull_1 : xGF mX6_isFull 1 6 1 4 := ⟨15, _, _, by decide +kernel, rfl, fl_X6_15⟩
theorem eX6_isFull_4 : xK mX6_isFull 4 (nI 200) 7 := Or.inr (Or.inr (Or.inl (⟨200, by decide +kernel, by decide, rfl⟩)))
theorem eX6_isFull_7 : xJ mX6_isFull 7 (.if_icmp .lt) 14 10 := ⟨(7), by decide +kernel, by decide, rfl⟩
theorem eX6_isFull_10 : xK mX6_isFull 10 (nI 1) 11 := Or.inl (⟨1, by decide +kernel, by decide, rfl⟩)
theorem eX6_isFull_11 : xJ mX6_isFull 11 (.goto) 15 14 := ⟨(4), by decide +kernel, by decide, rfl⟩
theorem eX6_isFull_14 : xK mX6_isFull 14 (nI 0) 15 := Or.inl (⟨0, by decide +kernel, by decide, rfl⟩)
theorem eX6_isFull_15 : xD mX6_isFull 15 (.ireturn) 1 16 := ⟨by decide +kernel, rfl⟩
theorem eX6_add_0 : x_aload mX6_add 0 0 1 := Or.inl ⟨0, by decide +kernel, rfl, rfl⟩
set_option maxRecDepth 20000 in
theorem eX6_add_1 : xCV mX6_add 1 mX6_isFull 0 6 4 := ⟨19, by decide +kernel, rfl, ⟨cm_X6_19.1, cm_X6_19.2.1, cm_X6_19.2.2.1, cm_X6_19.2.2.2.1, cm_X6_19.2.2.2.2⟩, xT_2 86 rfl rfl, xT_2 87 rfl rfl, _, rfl, rfl⟩
theorem eX6_add_4 : xJ mX6_add 4 (.ifCond .ne) 27 7 := ⟨(23), by decide +kernel, by decide, rfl⟩
theorem eX6_add_7 : x_aload mX6_add 7 0 8 := Or.inl ⟨0, by decide +kernel, rfl, rfl⟩
theorem eX6_add_8 : xGF mX6_add 8 6 0 11 := ⟨9, _, _, by decide +kernel, rfl, fl_X6_9⟩
theorem eX6_add_11 : x_aload mX6_add 11 0 12 := Or.inl ⟨0, by decide +kernel, rfl, rfl⟩
theorem eX6_add_12 : xGF mX6_add 12 6 1 15 := ⟨15, _, _, by decide +kernel, rfl, fl_X6_15⟩
theorem eX6_add_15 : x_iload mX6_add 15 1 16 := Or.inl ⟨1, by decide +kernel, rfl, rfl⟩
theorem eX6_add_16 : xD mX6_add 16 (.castore) 1 17 := ⟨by decide +kernel, rfl⟩
theorem eX6_add_17 : x_aload mX6_add 17 0 18 := Or.inl ⟨0, by decide +kernel, rfl, rfl⟩
theorem eX6_add_18 : xD mX6_add 18 (.dup) 1 19 := ⟨by decide +kernel, rfl⟩
theorem eX6_add_19 : xGF mX6_add 19 6 1 22 := ⟨15, _, _, by decide +kernel, rfl, fl_X6_15⟩
theorem eX6_add_22 : xK mX6_add 22 (nI 1) 23 := Or.inl (⟨1, by decide +kernel, by decide, rfl⟩)
theorem eX6_add_23 : xD mX6_add 23 (.iadd) 1 24 := ⟨by decide +kernel, rfl⟩
theorem eX6_add_24 : xPF mX6_add 24 6 1 (.int) 27 := ⟨15, _, by decide +kernel, rfl, fl_X6_15, fun h => by cases h⟩
theorem eX6_add_27 : xD mX6_add 27 (.return_) 1 28 := ⟨by decide +kernel, rfl⟩
theorem eX6_clear_0 : x_aload mX6_clear 0 0 1 := Or.inl ⟨0, by decide +kernel, rfl, rfl⟩
theorem eX6_clear_1 : xK mX6_clear 1 (nI 0) 2 := Or.inl (⟨0, by decide +kernel, by decide, rfl⟩)
theorem eX6_clear_2 : xPF mX6_clear 2 6 1 (.int) 5 := ⟨15, _, by decide +kernel, rfl, fl_X6_15, fun h => by cases h⟩
theorem eX6_clear_5 : xD mX6_clear 5 (.return_) 1 6 := ⟨by decide +kernel, rfl⟩
theorem eX6_letterAt_0 : x_iload mX6_letterAt 0 1 1 := Or.inl ⟨1, by decide +kernel, rfl, rfl⟩
theorem eX6_letterAt_1 : xJ mX6_letterAt 1 (.ifCond .lt) 21 4 := ⟨(20), by decide +kernel, by decide, rfl⟩
theorem eX6_letterAt_4 : x_iload mX6_letterAt 4 1 5 := Or.inl ⟨1, by decide +kernel, rfl, rfl⟩
theorem eX6_letterAt_5 : x_aload mX6_letterAt 5 0 6 := Or.inl ⟨0, by decide +kernel, rfl, rfl⟩
theorem eX6_letterAt_6 : xGF mX6_letterAt 6 6 1 9 := ⟨15, _, _, by decide +kernel, rfl, fl_X6_15⟩
theorem eX6_letterAt_9 : xJ mX6_letterAt 9 (.if_icmp .ge) 21 12 := ⟨(12), by decide +kernel, by decide, rfl⟩
theorem eX6_letterAt_12 : x_aload mX6_letterAt 12 0 13 := Or.inl ⟨0, by decide +kernel, rfl, rfl⟩
theorem eX6_letterAt_13 : xGF mX6_letterAt 13 6 0 16 := ⟨9, _, _, by decide +kernel, rfl, fl_X6_9⟩
theorem eX6_letterAt_16 : x_iload mX6_letterAt 16 1 17 := Or.inl ⟨1, by decide +kernel, rfl, rfl⟩
theorem eX6_letterAt_17 : xD mX6_letterAt 17 (.caload) 1 18 := ⟨by decide +kernel, rfl⟩
theorem eX6_letterAt_18 : xJ mX6_letterAt 18 (.goto) 22 21 := ⟨(4), by decide +kernel, by decide, rfl⟩
theorem eX6_letterAt_21 : xK mX6_letterAt 21 (nI 0) 22 := Or.inl (⟨0, by decide +kernel, by decide, rfl⟩)
theorem eX6_letterAt_22 : xD mX6_letterAt 22 (.ireturn) 1 23 := ⟨by decide +kernel, rfl⟩
theorem eX7_init_0 : x_aload mX7_init 0 0 1 := Or.inl ⟨0, by decide +kernel, rfl, rfl⟩
theorem eX7_init_4 : x_aload mX7_init 4 0 5 := Or.inl ⟨0, by decide +kernel, rfl, rfl⟩
theorem eX7_init_5 : xK mX7_init 5 (nI 896) 8 := Or.inr (Or.inr (Or.inl (⟨896, by decide +kernel, by decide, rfl⟩)))
set_option maxRecDepth 20000 in
theorem eX7_init_10 : xPF mX7_init 10 7 1 (.array .int) 13 := ⟨9, _, by decide +kernel, rfl, fl_X7_9, fun _ => ⟨rfl, ⟨_, rfl, rfl⟩, _, rfl, xT_1 195 rfl rfl⟩⟩
theorem eX7_init_13 : x_aload mX7_init 13 0 14 := Or.inl ⟨0, by decide +kernel, rfl, rfl⟩
theorem eX7_init_14 : xK mX7_init 14 (nI 3) 15 := Or.inl (⟨3, by decide +kernel, by decide, rfl⟩)
theorem eX7_init_15 : xK mX7_init 15 (nI 128) 18 := Or.inr (Or.inr (Or.inl (⟨128, by decide +kernel, by decide, rfl⟩)))
set_option maxRecDepth 20000 in
theorem eX7_init_22 : xPF mX7_init 22 7 2 (.array (.array .int)) 25 := ⟨17, _, by decide +kernel, rfl, fl_X7_17, fun _ => ⟨rfl, ⟨_, rfl, rfl⟩, _, rfl, xT_1 196 rfl rfl⟩⟩
theorem eX7_init_25 : x_aload mX7_init 25 0 26 := Or.inl ⟨0, by decide +kernel, rfl, rfl⟩
theorem eX7_init_26 : xK mX7_init 26 (nI 3) 27 := Or.inl (⟨3, by decide +kernel, by decide, rfl⟩)
set_option maxRecDepth 20000 in
theorem eX7_init_29 : xPF mX7_init 29 7 3 (.array .int) 32 := ⟨20, _, by decide +kernel, rfl, fl_X7_20, fun _ => ⟨rfl, ⟨_, rfl, rfl⟩, _, rfl, xT_1 197 rfl rfl⟩⟩
theorem eX7_init_32 : x_aload mX7_init 32 0 33 := Or.inl ⟨0, by decide +kernel, rfl, rfl⟩
theorem eX7_init_33 : xK mX7_init 33 (nI 3) 34 := Or.inl (⟨3, by decide +kernel, by decide, rfl⟩)
set_option maxRecDepth 20000 in
theorem eX7_init_36 : xPF mX7_init 36 7 4 (.array .int) 39 := ⟨23, _, by decide +kernel, rfl, fl_X7_23, fun _ => ⟨rfl, ⟨_, rfl, rfl⟩, _, rfl, xT_1 198 rfl rfl⟩⟩
theorem eX7_init_39 : x_aload mX7_init 39 0 40 := Or.inl ⟨0, by decide +kernel, rfl, rfl⟩
theorem eX7_init_40 : x_aload mX7_init 40 1 41 := Or.inl ⟨1, by decide +kernel, rfl, rfl⟩
set_option maxRecDepth 20000 in
theorem eX7_init_41 : xPF mX7_init 41 7 0 (.object "NotAnOx$Land") 44 := ⟨26, _, by decide +kernel, rfl, fl_X7_26, fun _ => ⟨rfl, ⟨_, rfl, rfl⟩, _, rfl, xT_1 194 rfl rfl⟩⟩
theorem eX7_init_44 : xD mX7_init 44 (.return_) 1 45 := ⟨by decide +kernel, rfl⟩
theorem eX7_seek_0 : x_aload mX7_seek 0 1 1 := Or.inl ⟨1, by decide +kernel, rfl, rfl⟩
set_option maxRecDepth 20000 in
theorem eX7_seek_1 : xCV mX7_seek 1 mX0_rest 0 0 4 := ⟨30, by decide +kernel, rfl, ⟨cm_X7_30.1, cm_X7_30.2.1, cm_X7_30.2.2.1, cm_X7_30.2.2.2.1, cm_X7_30.2.2.2.2⟩, xT_3 96 rfl rfl, xT_3 97 rfl rfl, _, rfl, rfl⟩
theorem eX7_seek_4 : x_istore mX7_seek 4 2 5 := Or.inl ⟨2, by decide +kernel, rfl, rfl⟩
theorem eX7_seek_5 : xK mX7_seek 5 (nI 1) 6 := Or.inl (⟨1, by decide +kernel, by decide, rfl⟩)
theorem eX7_seek_6 : x_istore mX7_seek 6 3 7 := Or.inl ⟨3, by decide +kernel, rfl, rfl⟩
theorem eX7_seek_7 : xK mX7_seek 7 (nI 0) 8 := Or.inl (⟨0, by decide +kernel, by decide, rfl⟩)
theorem eX7_seek_8 : x_istore mX7_seek 8 4 10 := Or.inr ⟨by decide +kernel, rfl⟩
theorem eX7_seek_10 : x_iload mX7_seek 10 4 12 := Or.inr ⟨by decide +kernel, rfl⟩
theorem eX7_seek_12 : x_aload mX7_seek 12 1 13 := Or.inl ⟨1, by decide +kernel, rfl, rfl⟩
set_option maxRecDepth 20000 in
theorem eX7_seek_13 : xCV mX7_seek 13 mX0_restSize 0 0 16 := ⟨36, by decide +kernel, rfl, ⟨cm_X7_36.1, cm_X7_36.2.1, cm_X7_36.2.2.1, cm_X7_36.2.2.2.1, cm_X7_36.2.2.2.2⟩, xT_3 100 rfl rfl, xT_3 101 rfl rfl, _, rfl, rfl⟩
theorem eX7_seek_16 : xJ mX7_seek 16 (.if_icmp .ge) 35 19 := ⟨(19), by decide +kernel, by decide, rfl⟩
theorem eX7_seek_19 : x_iload mX7_seek 19 3 20 := Or.inl ⟨3, by decide +kernel, rfl, rfl⟩
theorem eX7_seek_20 : x_aload mX7_seek 20 0 21 := Or.inl ⟨0, by decide +kernel, rfl, rfl⟩
theorem eX7_seek_21 : xGF mX7_seek 21 7 0 24 := ⟨26, _, _, by decide +kernel, rfl, fl_X7_26⟩
theorem eX7_seek_24 : xGF mX7_seek 24 2 6 27 := ⟨39, _, _, by decide +kernel, rfl, fl_X7_39⟩
theorem eX7_seek_27 : xD mX7_seek 27 (.imul) 1 28 := ⟨by decide +kernel, rfl⟩
theorem eX7_seek_28 : x_istore mX7_seek 28 3 29 := Or.inl ⟨3, by decide +kernel, rfl, rfl⟩
theorem eX7_seek_29 : xD mX7_seek 29 (.iinc 4 1) 3 32 := ⟨by decide +kernel, rfl⟩
theorem eX7_seek_32 : xJ mX7_seek 32 (.goto) 10 35 := ⟨(-22), by decide +kernel, by decide, rfl⟩
theorem eX7_seek_35 : xK mX7_seek 35 (nI 0) 36 := Or.inl (⟨0, by decide +kernel, by decide, rfl⟩)
theorem eX7_seek_36 : x_istore mX7_seek 36 4 38 := Or.inr ⟨by decide +kernel, rfl⟩
theorem eX7_seek_38 : x_iload mX7_seek 38 4 40 := Or.inr ⟨by decide +kernel, rfl⟩
theorem eX7_seek_40 : x_aload mX7_seek 40 0 41 := Or.inl ⟨0, by decide +kernel, rfl, rfl⟩
theorem eX7_seek_41 : xGF mX7_seek 41 7 0 44 := ⟨26, _, _, by decide +kernel, rfl, fl_X7_26⟩
theorem eX7_seek_44 : xGF mX7_seek 44 2 6 47 := ⟨39, _, _, by decide +kernel, rfl, fl_X7_39⟩
theorem eX7_seek_47 : xJ mX7_seek 47 (.if_icmp .ge) 75 50 := ⟨(28), by decide +kernel, by decide, rfl⟩
theorem eX7_seek_50 : x_aload mX7_seek 50 0 51 := Or.inl ⟨0, by decide +kernel, rfl, rfl⟩
theorem eX7_seek_51 : x_aload mX7_seek 51 1 52 := Or.inl ⟨1, by decide +kernel, rfl, rfl⟩
theorem eX7_seek_52 : xGF mX7_seek 52 0 3 55 := ⟨45, _, _, by decide +kernel, rfl, fl_X7_45⟩
theorem eX7_seek_55 : x_iload mX7_seek 55 4 57 := Or.inr ⟨by decide +kernel, rfl⟩
theorem eX7_seek_57 : xD mX7_seek 57 (.iaload) 1 58 := ⟨by decide +kernel, rfl⟩
theorem eX7_seek_58 : x_iload mX7_seek 58 2 59 := Or.inl ⟨2, by decide +kernel, rfl, rfl⟩
theorem eX7_seek_59 : x_aload mX7_seek 59 0 60 := Or.inl ⟨0, by decide +kernel, rfl, rfl⟩
theorem eX7_seek_60 : xGF mX7_seek 60 7 2 63 := ⟨17, _, _, by decide +kernel, rfl, fl_X7_17⟩
theorem eX7_seek_63 : x_iload mX7_seek 63 4 65 := Or.inr ⟨by decide +kernel, rfl⟩
theorem eX7_seek_65 : xD mX7_seek 65 (.aaload) 1 66 := ⟨by decide +kernel, rfl⟩
set_option maxRecDepth 20000 in
theorem eX7_seek_66 : xCV mX7_seek 66 mX7_walkFrom 3 7 69 := ⟨48, by decide +kernel, rfl, ⟨cm_X7_48.1, cm_X7_48.2.1, cm_X7_48.2.2.1, cm_X7_48.2.2.2.1, cm_X7_48.2.2.2.2⟩, xT_3 112 rfl rfl, xT_0 8 rfl rfl, _, rfl, rfl⟩
theorem eX7_seek_69 : xD mX7_seek 69 (.iinc 4 1) 3 72 := ⟨by decide +kernel, rfl⟩
theorem eX7_seek_72 : xJ mX7_seek 72 (.goto) 38 75 := ⟨(-34), by decide +kernel, by decide, rfl⟩
theorem eX7_seek_75 : x_aload mX7_seek 75 0 76 := Or.inl ⟨0, by decide +kernel, rfl, rfl⟩
theorem eX7_seek_76 : xK mX7_seek 76 ((-4)) 78 := Or.inr (Or.inl (⟨(-4), by decide +kernel, by decide, rfl⟩))
theorem eX7_seek_78 : xPF mX7_seek 78 7 5 (.int) 81 := ⟨52, _, by decide +kernel, rfl, fl_X7_52, fun h => by cases h⟩
theorem eX7_seek_81 : xK mX7_seek 81 (nI 0) 82 := Or.inl (⟨0, by decide +kernel, by decide, rfl⟩)
theorem eX7_seek_82 : x_istore mX7_seek 82 4 84 := Or.inr ⟨by decide +kernel, rfl⟩
theorem eX7_seek_84 : x_iload mX7_seek 84 4 86 := Or.inr ⟨by decide +kernel, rfl⟩
theorem eX7_seek_86 : x_iload mX7_seek 86 3 87 := Or.inl ⟨3, by decide +kernel, rfl, rfl⟩
theorem eX7_seek_87 : xJ mX7_seek 87 (.if_icmp .ge) 155 90 := ⟨(68), by decide +kernel, by decide, rfl⟩
theorem eX7_seek_90 : x_aload mX7_seek 90 0 91 := Or.inl ⟨0, by decide +kernel, rfl, rfl⟩
theorem eX7_seek_91 : x_iload mX7_seek 91 4 93 := Or.inr ⟨by decide +kernel, rfl⟩
theorem eX7_seek_93 : x_iload mX7_seek 93 2 94 := Or.inl ⟨2, by decide +kernel, rfl, rfl⟩
set_option maxRecDepth 20000 in
theorem eX7_seek_94 : xCV mX7_seek 94 mX7_shareOut 2 7 97 := ⟨55, by decide +kernel, rfl, ⟨cm_X7_55.1, cm_X7_55.2.1, cm_X7_55.2.2.1, cm_X7_55.2.2.2.1, cm_X7_55.2.2.2.2⟩, xT_3 122 rfl rfl, xT_0 10 rfl rfl, _, rfl, rfl⟩
theorem eX7_seek_97 : x_aload mX7_seek 97 0 98 := Or.inl ⟨0, by decide +kernel, rfl, rfl⟩
theorem eX7_seek_98 : x_aload mX7_seek 98 1 99 := Or.inl ⟨1, by decide +kernel, rfl, rfl⟩
set_option maxRecDepth 20000 in
theorem eX7_seek_99 : xCV mX7_seek 99 mX7_daysOfShares 1 7 102 := ⟨59, by decide +kernel, rfl, ⟨cm_X7_59.1, cm_X7_59.2.1, cm_X7_59.2.2.1, cm_X7_59.2.2.2.1, cm_X7_59.2.2.2.2⟩, xT_3 127 rfl rfl, xT_0 11 rfl rfl, _, rfl, rfl⟩
theorem eX7_seek_102 : x_istore mX7_seek 102 5 104 := Or.inr ⟨by decide +kernel, rfl⟩
theorem eX7_seek_104 : x_iload mX7_seek 104 5 106 := Or.inr ⟨by decide +kernel, rfl⟩
theorem eX7_seek_106 : xK mX7_seek 106 ((-4)) 108 := Or.inr (Or.inl (⟨(-4), by decide +kernel, by decide, rfl⟩))
theorem eX7_seek_108 : xJ mX7_seek 108 (.if_icmp .eq) 149 111 := ⟨(41), by decide +kernel, by decide, rfl⟩
theorem eX7_seek_111 : x_aload mX7_seek 111 0 112 := Or.inl ⟨0, by decide +kernel, rfl, rfl⟩
theorem eX7_seek_112 : xGF mX7_seek 112 7 5 115 := ⟨52, _, _, by decide +kernel, rfl, fl_X7_52⟩
theorem eX7_seek_115 : xK mX7_seek 115 ((-4)) 117 := Or.inr (Or.inl (⟨(-4), by decide +kernel, by decide, rfl⟩))
theorem eX7_seek_117 : xJ mX7_seek 117 (.if_icmp .eq) 129 120 := ⟨(12), by decide +kernel, by decide, rfl⟩
theorem eX7_seek_120 : x_iload mX7_seek 120 5 122 := Or.inr ⟨by decide +kernel, rfl⟩
theorem eX7_seek_122 : x_aload mX7_seek 122 0 123 := Or.inl ⟨0, by decide +kernel, rfl, rfl⟩
theorem eX7_seek_123 : xGF mX7_seek 123 7 5 126 := ⟨52, _, _, by decide +kernel, rfl, fl_X7_52⟩
theorem eX7_seek_126 : xJ mX7_seek 126 (.if_icmp .ge) 149 129 := ⟨(23), by decide +kernel, by decide, rfl⟩
theorem eX7_seek_129 : x_aload mX7_seek 129 0 130 := Or.inl ⟨0, by decide +kernel, rfl, rfl⟩
theorem eX7_seek_130 : x_iload mX7_seek 130 5 132 := Or.inr ⟨by decide +kernel, rfl⟩
theorem eX7_seek_132 : xPF mX7_seek 132 7 5 (.int) 135 := ⟨52, _, by decide +kernel, rfl, fl_X7_52, fun h => by cases h⟩
theorem eX7_seek_135 : x_aload mX7_seek 135 0 136 := Or.inl ⟨0, by decide +kernel, rfl, rfl⟩
theorem eX7_seek_136 : xGF mX7_seek 136 7 3 139 := ⟨20, _, _, by decide +kernel, rfl, fl_X7_20⟩
theorem eX7_seek_139 : xK mX7_seek 139 (nI 0) 140 := Or.inl (⟨0, by decide +kernel, by decide, rfl⟩)
theorem eX7_seek_140 : x_aload mX7_seek 140 0 141 := Or.inl ⟨0, by decide +kernel, rfl, rfl⟩
theorem eX7_seek_141 : xGF mX7_seek 141 7 4 144 := ⟨23, _, _, by decide +kernel, rfl, fl_X7_23⟩
theorem eX7_seek_144 : xK mX7_seek 144 (nI 0) 145 := Or.inl (⟨0, by decide +kernel, by decide, rfl⟩)
theorem eX7_seek_145 : xK mX7_seek 145 (nI 3) 146 := Or.inl (⟨3, by decide +kernel, by decide, rfl⟩)
theorem eX7_seek_149 : xD mX7_seek 149 (.iinc 4 1) 3 152 := ⟨by decide +kernel, rfl⟩
theorem eX7_seek_152 : xJ mX7_seek 152 (.goto) 84 155 := ⟨(-68), by decide +kernel, by decide, rfl⟩
theorem eX7_seek_155 : xD mX7_seek 155 (.return_) 1 156 := ⟨by decide +kernel, rfl⟩
theorem eX7_whoAsks_0 : x_aload mX7_whoAsks 0 0 1 := Or.inl ⟨0, by decide +kernel, rfl, rfl⟩
theorem eX7_whoAsks_1 : xGF mX7_whoAsks 1 7 5 4 := ⟨52, _, _, by decide +kernel, rfl, fl_X7_52⟩
theorem eX7_whoAsks_4 : xK mX7_whoAsks 4 ((-4)) 6 := Or.inr (Or.inl (⟨(-4), by decide +kernel, by decide, rfl⟩))
theorem eX7_whoAsks_6 : xJ mX7_whoAsks 6 (.if_icmp .ne) 12 9 := ⟨(6), by decide +kernel, by decide, rfl⟩
theorem eX7_whoAsks_9 : xK mX7_whoAsks 9 ((-4)) 11 := Or.inr (Or.inl (⟨(-4), by decide +kernel, by decide, rfl⟩))
theorem eX7_whoAsks_11 : xD mX7_whoAsks 11 (.ireturn) 1 12 := ⟨by decide +kernel, rfl⟩
theorem eX7_whoAsks_12 : xK mX7_whoAsks 12 (nI 0) 13 := Or.inl (⟨0, by decide +kernel, by decide, rfl⟩)
theorem eX7_whoAsks_13 : x_istore mX7_whoAsks 13 2 14 := Or.inl ⟨2, by decide +kernel, rfl, rfl⟩
theorem eX7_whoAsks_14 : x_iload mX7_whoAsks 14 2 15 := Or.inl ⟨2, by decide +kernel, rfl, rfl⟩
theorem eX7_whoAsks_15 : x_aload mX7_whoAsks 15 0 16 := Or.inl ⟨0, by decide +kernel, rfl, rfl⟩
theorem eX7_whoAsks_16 : xGF mX7_whoAsks 16 7 0 19 := ⟨26, _, _, by decide +kernel, rfl, fl_X7_26⟩
theorem eX7_whoAsks_19 : xGF mX7_whoAsks 19 2 6 22 := ⟨39, _, _, by decide +kernel, rfl, fl_X7_39⟩
theorem eX7_whoAsks_22 : xJ mX7_whoAsks 22 (.if_icmp .ge) 46 25 := ⟨(24), by decide +kernel, by decide, rfl⟩
theorem eX7_whoAsks_25 : x_aload mX7_whoAsks 25 0 26 := Or.inl ⟨0, by decide +kernel, rfl, rfl⟩
theorem eX7_whoAsks_26 : xGF mX7_whoAsks 26 7 4 29 := ⟨23, _, _, by decide +kernel, rfl, fl_X7_23⟩
theorem eX7_whoAsks_29 : x_iload mX7_whoAsks 29 2 30 := Or.inl ⟨2, by decide +kernel, rfl, rfl⟩
theorem eX7_whoAsks_30 : xD mX7_whoAsks 30 (.iaload) 1 31 := ⟨by decide +kernel, rfl⟩
theorem eX7_whoAsks_31 : x_iload mX7_whoAsks 31 1 32 := Or.inl ⟨1, by decide +kernel, rfl, rfl⟩
theorem eX7_whoAsks_32 : xD mX7_whoAsks 32 (.ishr) 1 33 := ⟨by decide +kernel, rfl⟩
theorem eX7_whoAsks_33 : xK mX7_whoAsks 33 (nI 1) 34 := Or.inl (⟨1, by decide +kernel, by decide, rfl⟩)
theorem eX7_whoAsks_34 : xD mX7_whoAsks 34 (.iand) 1 35 := ⟨by decide +kernel, rfl⟩
theorem eX7_whoAsks_35 : xJ mX7_whoAsks 35 (.ifCond .eq) 40 38 := ⟨(5), by decide +kernel, by decide, rfl⟩
theorem eX7_whoAsks_38 : x_iload mX7_whoAsks 38 2 39 := Or.inl ⟨2, by decide +kernel, rfl, rfl⟩
theorem eX7_whoAsks_39 : xD mX7_whoAsks 39 (.ireturn) 1 40 := ⟨by decide +kernel, rfl⟩
theorem eX7_whoAsks_40 : xD mX7_whoAsks 40 (.iinc 2 1) 3 43 := ⟨by decide +kernel, rfl⟩
theorem eX7_whoAsks_43 : xJ mX7_whoAsks 43 (.goto) 14 46 := ⟨(-29), by decide +kernel, by decide, rfl⟩
theorem eX7_whoAsks_46 : xK mX7_whoAsks 46 ((-4)) 48 := Or.inr (Or.inl (⟨(-4), by decide +kernel, by decide, rfl⟩))
theorem eX7_whoAsks_48 : xD mX7_whoAsks 48 (.ireturn) 1 49 := ⟨by decide +kernel, rfl⟩
theorem eX7_walkFrom_0 : x_aload mX7_walkFrom 0 3 1 := Or.inl ⟨3, by decide +kernel, rfl, rfl⟩
theorem eX7_walkFrom_1 : xK mX7_walkFrom 1 (nI 0) 2 := Or.inl (⟨0, by decide +kernel, by decide, rfl⟩)
theorem eX7_walkFrom_2 : xK mX7_walkFrom 2 (nI 0) 3 := Or.inl (⟨0, by decide +kernel, by decide, rfl⟩)
theorem eX7_walkFrom_3 : xD mX7_walkFrom 3 (.iastore) 1 4 := ⟨by decide +kernel, rfl⟩
theorem eX7_walkFrom_4 : xK mX7_walkFrom 4 (nI 1) 5 := Or.inl (⟨1, by decide +kernel, by decide, rfl⟩)
theorem eX7_walkFrom_5 : x_istore mX7_walkFrom 5 4 7 := Or.inr ⟨by decide +kernel, rfl⟩
theorem eX7_walkFrom_7 : x_iload mX7_walkFrom 7 4 9 := Or.inr ⟨by decide +kernel, rfl⟩
theorem eX7_walkFrom_9 : xK mX7_walkFrom 9 (nI 128) 12 := Or.inr (Or.inr (Or.inl (⟨128, by decide +kernel, by decide, rfl⟩)))
theorem eX7_walkFrom_12 : xJ mX7_walkFrom 12 (.if_icmp .ge) 116 15 := ⟨(104), by decide +kernel, by decide, rfl⟩
theorem eX7_walkFrom_15 : x_iload mX7_walkFrom 15 4 17 := Or.inr ⟨by decide +kernel, rfl⟩
theorem eX7_walkFrom_17 : x_iload mX7_walkFrom 17 2 18 := Or.inl ⟨2, by decide +kernel, rfl, rfl⟩
theorem eX7_walkFrom_18 : xK mX7_walkFrom 18 ((-1)) 19 := Or.inl (⟨(-1), by decide +kernel, by decide, rfl⟩)
theorem eX7_walkFrom_19 : xD mX7_walkFrom 19 (.ixor) 1 20 := ⟨by decide +kernel, rfl⟩
theorem eX7_walkFrom_20 : xD mX7_walkFrom 20 (.iand) 1 21 := ⟨by decide +kernel, rfl⟩
theorem eX7_walkFrom_21 : xJ mX7_walkFrom 21 (.ifCond .eq) 27 24 := ⟨(6), by decide +kernel, by decide, rfl⟩
theorem eX7_walkFrom_24 : xJ mX7_walkFrom 24 (.goto) 110 27 := ⟨(86), by decide +kernel, by decide, rfl⟩
theorem eX7_walkFrom_27 : x_aload mX7_walkFrom 27 3 28 := Or.inl ⟨3, by decide +kernel, rfl, rfl⟩
theorem eX7_walkFrom_28 : x_iload mX7_walkFrom 28 4 30 := Or.inr ⟨by decide +kernel, rfl⟩
set_option maxRecDepth 20000 in
theorem eX7_walkFrom_30 : xK mX7_walkFrom 30 (nI 1000000) 32 := Or.inr (Or.inr (Or.inr (Or.inl (⟨69, by decide +kernel, xT_3 114 rfl rfl, rfl⟩))))
theorem eX7_walkFrom_32 : xD mX7_walkFrom 32 (.iastore) 1 33 := ⟨by decide +kernel, rfl⟩
theorem eX7_walkFrom_33 : xK mX7_walkFrom 33 (nI 0) 34 := Or.inl (⟨0, by decide +kernel, by decide, rfl⟩)
theorem eX7_walkFrom_34 : x_istore mX7_walkFrom 34 5 36 := Or.inr ⟨by decide +kernel, rfl⟩
theorem eX7_walkFrom_36 : x_iload mX7_walkFrom 36 5 38 := Or.inr ⟨by decide +kernel, rfl⟩
theorem eX7_walkFrom_38 : x_aload mX7_walkFrom 38 0 39 := Or.inl ⟨0, by decide +kernel, rfl, rfl⟩
theorem eX7_walkFrom_39 : xGF mX7_walkFrom 39 7 0 42 := ⟨26, _, _, by decide +kernel, rfl, fl_X7_26⟩
theorem eX7_walkFrom_42 : xGF mX7_walkFrom 42 2 5 45 := ⟨70, _, _, by decide +kernel, rfl, fl_X7_70⟩
theorem eX7_walkFrom_45 : xJ mX7_walkFrom 45 (.if_icmp .ge) 110 48 := ⟨(65), by decide +kernel, by decide, rfl⟩
theorem eX7_walkFrom_48 : x_iload mX7_walkFrom 48 4 50 := Or.inr ⟨by decide +kernel, rfl⟩
theorem eX7_walkFrom_50 : x_iload mX7_walkFrom 50 5 52 := Or.inr ⟨by decide +kernel, rfl⟩
theorem eX7_walkFrom_52 : xD mX7_walkFrom 52 (.ishr) 1 53 := ⟨by decide +kernel, rfl⟩
theorem eX7_walkFrom_53 : xK mX7_walkFrom 53 (nI 1) 54 := Or.inl (⟨1, by decide +kernel, by decide, rfl⟩)
theorem eX7_walkFrom_54 : xD mX7_walkFrom 54 (.iand) 1 55 := ⟨by decide +kernel, rfl⟩
theorem eX7_walkFrom_55 : xJ mX7_walkFrom 55 (.ifCond .eq) 104 58 := ⟨(49), by decide +kernel, by decide, rfl⟩
theorem eX7_walkFrom_58 : x_aload mX7_walkFrom 58 0 59 := Or.inl ⟨0, by decide +kernel, rfl, rfl⟩
theorem eX7_walkFrom_59 : x_iload mX7_walkFrom 59 1 60 := Or.inl ⟨1, by decide +kernel, rfl, rfl⟩
theorem eX7_walkFrom_60 : x_iload mX7_walkFrom 60 4 62 := Or.inr ⟨by decide +kernel, rfl⟩
theorem eX7_walkFrom_62 : xK mX7_walkFrom 62 (nI 1) 63 := Or.inl (⟨1, by decide +kernel, by decide, rfl⟩)
theorem eX7_walkFrom_63 : x_iload mX7_walkFrom 63 5 65 := Or.inr ⟨by decide +kernel, rfl⟩
theorem eX7_walkFrom_65 : xD mX7_walkFrom 65 (.ishl) 1 66 := ⟨by decide +kernel, rfl⟩
theorem eX7_walkFrom_66 : xK mX7_walkFrom 66 ((-1)) 67 := Or.inl (⟨(-1), by decide +kernel, by decide, rfl⟩)
theorem eX7_walkFrom_67 : xD mX7_walkFrom 67 (.ixor) 1 68 := ⟨by decide +kernel, rfl⟩
theorem eX7_walkFrom_68 : xD mX7_walkFrom 68 (.iand) 1 69 := ⟨by decide +kernel, rfl⟩
theorem eX7_walkFrom_69 : x_iload mX7_walkFrom 69 5 71 := Or.inr ⟨by decide +kernel, rfl⟩
set_option maxRecDepth 20000 in
theorem eX7_walkFrom_71 : xCV mX7_walkFrom 71 mX7_walkTo 3 7 74 := ⟨73, by decide +kernel, rfl, ⟨cm_X7_73.1, cm_X7_73.2.1, cm_X7_73.2.2.1, cm_X7_73.2.2.2.1, cm_X7_73.2.2.2.2⟩, xT_3 117 rfl rfl, xT_0 9 rfl rfl, _, rfl, rfl⟩
theorem eX7_walkFrom_74 : x_istore mX7_walkFrom 74 6 76 := Or.inr ⟨by decide +kernel, rfl⟩
theorem eX7_walkFrom_76 : x_aload mX7_walkFrom 76 0 77 := Or.inl ⟨0, by decide +kernel, rfl, rfl⟩
theorem eX7_walkFrom_77 : xGF mX7_walkFrom 77 7 1 80 := ⟨9, _, _, by decide +kernel, rfl, fl_X7_9⟩
theorem eX7_walkFrom_80 : x_iload mX7_walkFrom 80 4 82 := Or.inr ⟨by decide +kernel, rfl⟩
theorem eX7_walkFrom_82 : xK mX7_walkFrom 82 (nI 7) 84 := Or.inr (Or.inl (⟨7, by decide +kernel, by decide, rfl⟩))
theorem eX7_walkFrom_84 : xD mX7_walkFrom 84 (.imul) 1 85 := ⟨by decide +kernel, rfl⟩
theorem eX7_walkFrom_85 : x_iload mX7_walkFrom 85 5 87 := Or.inr ⟨by decide +kernel, rfl⟩
theorem eX7_walkFrom_87 : xD mX7_walkFrom 87 (.iadd) 1 88 := ⟨by decide +kernel, rfl⟩
theorem eX7_walkFrom_88 : x_iload mX7_walkFrom 88 6 90 := Or.inr ⟨by decide +kernel, rfl⟩
theorem eX7_walkFrom_90 : xD mX7_walkFrom 90 (.iastore) 1 91 := ⟨by decide +kernel, rfl⟩
theorem eX7_walkFrom_91 : x_aload mX7_walkFrom 91 3 92 := Or.inl ⟨3, by decide +kernel, rfl, rfl⟩
theorem eX7_walkFrom_92 : x_iload mX7_walkFrom 92 4 94 := Or.inr ⟨by decide +kernel, rfl⟩
theorem eX7_walkFrom_94 : x_aload mX7_walkFrom 94 3 95 := Or.inl ⟨3, by decide +kernel, rfl, rfl⟩
theorem eX7_walkFrom_95 : x_iload mX7_walkFrom 95 4 97 := Or.inr ⟨by decide +kernel, rfl⟩
theorem eX7_walkFrom_97 : xD mX7_walkFrom 97 (.iaload) 1 98 := ⟨by decide +kernel, rfl⟩
theorem eX7_walkFrom_98 : x_iload mX7_walkFrom 98 6 100 := Or.inr ⟨by decide +kernel, rfl⟩
set_option maxRecDepth 20000 in
theorem eX7_walkFrom_100 : xCS mX7_walkFrom 100 mJ9_min_7cf53 2 103 := ⟨77, by decide +kernel, rfl, ⟨cm_X7_77.1, cm_X7_77.2.1, cm_X7_77.2.2.1, cm_X7_77.2.2.2.1, cm_X7_77.2.2.2.2⟩, xT_2 145 rfl rfl⟩
theorem eX7_walkFrom_103 : xD mX7_walkFrom 103 (.iastore) 1 104 := ⟨by decide +kernel, rfl⟩
theorem eX7_walkFrom_104 : xD mX7_walkFrom 104 (.iinc 5 1) 3 107 := ⟨by decide +kernel, rfl⟩
theorem eX7_walkFrom_107 : xJ mX7_walkFrom 107 (.goto) 36 110 := ⟨(-71), by decide +kernel, by decide, rfl⟩
theorem eX7_walkFrom_110 : xD mX7_walkFrom 110 (.iinc 4 1) 3 113 := ⟨by decide +kernel, rfl⟩
theorem eX7_walkFrom_113 : xJ mX7_walkFrom 113 (.goto) 7 116 := ⟨(-106), by decide +kernel, by decide, rfl⟩
theorem eX7_walkFrom_116 : xD mX7_walkFrom 116 (.return_) 1 117 := ⟨by decide +kernel, rfl⟩
theorem eX7_walkTo_0 : x_iload mX7_walkTo 0 2 1 := Or.inl ⟨2, by decide +kernel, rfl, rfl⟩
theorem eX7_walkTo_1 : xJ mX7_walkTo 1 (.ifCond .ne) 23 4 := ⟨(22), by decide +kernel, by decide, rfl⟩
set_option maxRecDepth 20000 in
theorem eX7_walkTo_4 : xK mX7_walkTo 4 (nI 1000000) 6 := Or.inr (Or.inr (Or.inr (Or.inl (⟨69, by decide +kernel, xT_3 114 rfl rfl, rfl⟩))))
theorem eX7_walkTo_6 : x_aload mX7_walkTo 6 0 7 := Or.inl ⟨0, by decide +kernel, rfl, rfl⟩
theorem eX7_walkTo_7 : xGF mX7_walkTo 7 7 0 10 := ⟨26, _, _, by decide +kernel, rfl, fl_X7_26⟩
theorem eX7_walkTo_10 : xGF mX7_walkTo 10 2 4 13 := ⟨83, _, _, by decide +kernel, rfl, fl_X7_83⟩
theorem eX7_walkTo_13 : x_iload mX7_walkTo 13 1 14 := Or.inl ⟨1, by decide +kernel, rfl, rfl⟩
theorem eX7_walkTo_14 : xD mX7_walkTo 14 (.aaload) 1 15 := ⟨by decide +kernel, rfl⟩
theorem eX7_walkTo_15 : x_iload mX7_walkTo 15 3 16 := Or.inl ⟨3, by decide +kernel, rfl, rfl⟩
theorem eX7_walkTo_16 : xD mX7_walkTo 16 (.iaload) 1 17 := ⟨by decide +kernel, rfl⟩
theorem eX7_walkTo_17 : xK mX7_walkTo 17 (nI 1) 18 := Or.inl (⟨1, by decide +kernel, by decide, rfl⟩)
theorem eX7_walkTo_18 : xD mX7_walkTo 18 (.iadd) 1 19 := ⟨by decide +kernel, rfl⟩
set_option maxRecDepth 20000 in
theorem eX7_walkTo_19 : xCS mX7_walkTo 19 mJ9_min_7cf53 2 22 := ⟨77, by decide +kernel, rfl, ⟨cm_X7_77.1, cm_X7_77.2.1, cm_X7_77.2.2.1, cm_X7_77.2.2.2.1, cm_X7_77.2.2.2.2⟩, xT_2 145 rfl rfl⟩
theorem eX7_walkTo_22 : xD mX7_walkTo 22 (.ireturn) 1 23 := ⟨by decide +kernel, rfl⟩
set_option maxRecDepth 20000 in
theorem eX7_walkTo_23 : xK mX7_walkTo 23 (nI 1000000) 25 := Or.inr (Or.inr (Or.inr (Or.inl (⟨69, by decide +kernel, xT_3 114 rfl rfl, rfl⟩))))
theorem eX7_walkTo_25 : x_istore mX7_walkTo 25 4 27 := Or.inr ⟨by decide +kernel, rfl⟩
theorem eX7_walkTo_27 : xK mX7_walkTo 27 (nI 0) 28 := Or.inl (⟨0, by decide +kernel, by decide, rfl⟩)
theorem eX7_walkTo_28 : x_istore mX7_walkTo 28 5 30 := Or.inr ⟨by decide +kernel, rfl⟩
theorem eX7_walkTo_30 : x_iload mX7_walkTo 30 5 32 := Or.inr ⟨by decide +kernel, rfl⟩
theorem eX7_walkTo_32 : x_aload mX7_walkTo 32 0 33 := Or.inl ⟨0, by decide +kernel, rfl, rfl⟩
theorem eX7_walkTo_33 : xGF mX7_walkTo 33 7 0 36 := ⟨26, _, _, by decide +kernel, rfl, fl_X7_26⟩
theorem eX7_walkTo_36 : xGF mX7_walkTo 36 2 5 39 := ⟨70, _, _, by decide +kernel, rfl, fl_X7_70⟩
theorem eX7_walkTo_39 : xJ mX7_walkTo 39 (.if_icmp .ge) 95 42 := ⟨(56), by decide +kernel, by decide, rfl⟩
theorem eX7_walkTo_42 : x_iload mX7_walkTo 42 2 43 := Or.inl ⟨2, by decide +kernel, rfl, rfl⟩
theorem eX7_walkTo_43 : x_iload mX7_walkTo 43 5 45 := Or.inr ⟨by decide +kernel, rfl⟩
theorem eX7_walkTo_45 : xD mX7_walkTo 45 (.ishr) 1 46 := ⟨by decide +kernel, rfl⟩
theorem eX7_walkTo_46 : xK mX7_walkTo 46 (nI 1) 47 := Or.inl (⟨1, by decide +kernel, by decide, rfl⟩)
theorem eX7_walkTo_47 : xD mX7_walkTo 47 (.iand) 1 48 := ⟨by decide +kernel, rfl⟩
theorem eX7_walkTo_48 : xJ mX7_walkTo 48 (.ifCond .eq) 89 51 := ⟨(41), by decide +kernel, by decide, rfl⟩
theorem eX7_walkTo_51 : x_aload mX7_walkTo 51 0 52 := Or.inl ⟨0, by decide +kernel, rfl, rfl⟩
theorem eX7_walkTo_52 : xGF mX7_walkTo 52 7 1 55 := ⟨9, _, _, by decide +kernel, rfl, fl_X7_9⟩
theorem eX7_walkTo_55 : x_iload mX7_walkTo 55 2 56 := Or.inl ⟨2, by decide +kernel, rfl, rfl⟩
theorem eX7_walkTo_56 : xK mX7_walkTo 56 (nI 7) 58 := Or.inr (Or.inl (⟨7, by decide +kernel, by decide, rfl⟩))
theorem eX7_walkTo_58 : xD mX7_walkTo 58 (.imul) 1 59 := ⟨by decide +kernel, rfl⟩
theorem eX7_walkTo_59 : x_iload mX7_walkTo 59 5 61 := Or.inr ⟨by decide +kernel, rfl⟩
theorem eX7_walkTo_61 : xD mX7_walkTo 61 (.iadd) 1 62 := ⟨by decide +kernel, rfl⟩
theorem eX7_walkTo_62 : xD mX7_walkTo 62 (.iaload) 1 63 := ⟨by decide +kernel, rfl⟩
theorem eX7_walkTo_63 : x_istore mX7_walkTo 63 6 65 := Or.inr ⟨by decide +kernel, rfl⟩
theorem eX7_walkTo_65 : x_iload mX7_walkTo 65 4 67 := Or.inr ⟨by decide +kernel, rfl⟩
theorem eX7_walkTo_67 : x_iload mX7_walkTo 67 6 69 := Or.inr ⟨by decide +kernel, rfl⟩
theorem eX7_walkTo_69 : x_aload mX7_walkTo 69 0 70 := Or.inl ⟨0, by decide +kernel, rfl, rfl⟩
theorem eX7_walkTo_70 : xGF mX7_walkTo 70 7 0 73 := ⟨26, _, _, by decide +kernel, rfl, fl_X7_26⟩
theorem eX7_walkTo_73 : xGF mX7_walkTo 73 2 4 76 := ⟨83, _, _, by decide +kernel, rfl, fl_X7_83⟩
theorem eX7_walkTo_76 : x_iload mX7_walkTo 76 5 78 := Or.inr ⟨by decide +kernel, rfl⟩
theorem eX7_walkTo_78 : xD mX7_walkTo 78 (.aaload) 1 79 := ⟨by decide +kernel, rfl⟩
theorem eX7_walkTo_79 : x_iload mX7_walkTo 79 3 80 := Or.inl ⟨3, by decide +kernel, rfl, rfl⟩
theorem eX7_walkTo_80 : xD mX7_walkTo 80 (.iaload) 1 81 := ⟨by decide +kernel, rfl⟩
theorem eX7_walkTo_81 : xD mX7_walkTo 81 (.iadd) 1 82 := ⟨by decide +kernel, rfl⟩
theorem eX7_walkTo_82 : xK mX7_walkTo 82 (nI 1) 83 := Or.inl (⟨1, by decide +kernel, by decide, rfl⟩)
theorem eX7_walkTo_83 : xD mX7_walkTo 83 (.iadd) 1 84 := ⟨by decide +kernel, rfl⟩
set_option maxRecDepth 20000 in
theorem eX7_walkTo_84 : xCS mX7_walkTo 84 mJ9_min_7cf53 2 87 := ⟨77, by decide +kernel, rfl, ⟨cm_X7_77.1, cm_X7_77.2.1, cm_X7_77.2.2.1, cm_X7_77.2.2.2.1, cm_X7_77.2.2.2.2⟩, xT_2 145 rfl rfl⟩
theorem eX7_walkTo_87 : x_istore mX7_walkTo 87 4 89 := Or.inr ⟨by decide +kernel, rfl⟩
theorem eX7_walkTo_89 : xD mX7_walkTo 89 (.iinc 5 1) 3 92 := ⟨by decide +kernel, rfl⟩
theorem eX7_walkTo_92 : xJ mX7_walkTo 92 (.goto) 30 95 := ⟨(-62), by decide +kernel, by decide, rfl⟩
theorem eX7_walkTo_95 : x_iload mX7_walkTo 95 4 97 := Or.inr ⟨by decide +kernel, rfl⟩
theorem eX7_walkTo_97 : xD mX7_walkTo 97 (.ireturn) 1 98 := ⟨by decide +kernel, rfl⟩
theorem eX7_shareOut_0 : x_aload mX7_shareOut 0 0 1 := Or.inl ⟨0, by decide +kernel, rfl, rfl⟩
theorem eX7_shareOut_1 : xGF mX7_shareOut 1 7 3 4 := ⟨20, _, _, by decide +kernel, rfl, fl_X7_20⟩
theorem eX7_shareOut_4 : xK mX7_shareOut 4 (nI 0) 5 := Or.inl (⟨0, by decide +kernel, by decide, rfl⟩)
set_option maxRecDepth 20000 in
theorem eX7_shareOut_5 : xCS mX7_shareOut 5 mJ7_fill_53178 2 8 := ⟨86, by decide +kernel, rfl, ⟨cm_X7_86.1, cm_X7_86.2.1, cm_X7_86.2.2.1, cm_X7_86.2.2.2.1, cm_X7_86.2.2.2.2⟩, xT_2 102 rfl rfl⟩
theorem eX7_shareOut_8 : x_iload mX7_shareOut 8 1 9 := Or.inl ⟨1, by decide +kernel, rfl, rfl⟩
theorem eX7_shareOut_9 : x_istore mX7_shareOut 9 3 10 := Or.inl ⟨3, by decide +kernel, rfl, rfl⟩
theorem eX7_shareOut_10 : x_aload mX7_shareOut 10 0 11 := Or.inl ⟨0, by decide +kernel, rfl, rfl⟩
theorem eX7_shareOut_11 : xGF mX7_shareOut 11 7 0 14 := ⟨26, _, _, by decide +kernel, rfl, fl_X7_26⟩
theorem eX7_shareOut_14 : xGF mX7_shareOut 14 2 5 17 := ⟨70, _, _, by decide +kernel, rfl, fl_X7_70⟩
theorem eX7_shareOut_17 : xK mX7_shareOut 17 (nI 1) 18 := Or.inl (⟨1, by decide +kernel, by decide, rfl⟩)
theorem eX7_shareOut_18 : xD mX7_shareOut 18 (.isub) 1 19 := ⟨by decide +kernel, rfl⟩
theorem eX7_shareOut_19 : x_istore mX7_shareOut 19 4 21 := Or.inr ⟨by decide +kernel, rfl⟩
theorem eX7_shareOut_21 : x_iload mX7_shareOut 21 4 23 := Or.inr ⟨by decide +kernel, rfl⟩
theorem eX7_shareOut_23 : xJ mX7_shareOut 23 (.ifCond .lt) 82 26 := ⟨(59), by decide +kernel, by decide, rfl⟩
theorem eX7_shareOut_26 : x_aload mX7_shareOut 26 0 27 := Or.inl ⟨0, by decide +kernel, rfl, rfl⟩
theorem eX7_shareOut_27 : xGF mX7_shareOut 27 7 0 30 := ⟨26, _, _, by decide +kernel, rfl, fl_X7_26⟩
theorem eX7_shareOut_30 : xGF mX7_shareOut 30 2 6 33 := ⟨39, _, _, by decide +kernel, rfl, fl_X7_39⟩
theorem eX7_shareOut_33 : xJ mX7_shareOut 33 (.ifCond .le) 82 36 := ⟨(49), by decide +kernel, by decide, rfl⟩
theorem eX7_shareOut_36 : x_iload mX7_shareOut 36 2 37 := Or.inl ⟨2, by decide +kernel, rfl, rfl⟩
theorem eX7_shareOut_37 : x_iload mX7_shareOut 37 4 39 := Or.inr ⟨by decide +kernel, rfl⟩
theorem eX7_shareOut_39 : xD mX7_shareOut 39 (.ishr) 1 40 := ⟨by decide +kernel, rfl⟩
theorem eX7_shareOut_40 : xK mX7_shareOut 40 (nI 1) 41 := Or.inl (⟨1, by decide +kernel, by decide, rfl⟩)
theorem eX7_shareOut_41 : xD mX7_shareOut 41 (.iand) 1 42 := ⟨by decide +kernel, rfl⟩
theorem eX7_shareOut_42 : xJ mX7_shareOut 42 (.ifCond .eq) 76 45 := ⟨(34), by decide +kernel, by decide, rfl⟩
theorem eX7_shareOut_45 : x_aload mX7_shareOut 45 0 46 := Or.inl ⟨0, by decide +kernel, rfl, rfl⟩
theorem eX7_shareOut_46 : xGF mX7_shareOut 46 7 3 49 := ⟨20, _, _, by decide +kernel, rfl, fl_X7_20⟩
theorem eX7_shareOut_49 : x_iload mX7_shareOut 49 3 50 := Or.inl ⟨3, by decide +kernel, rfl, rfl⟩
theorem eX7_shareOut_50 : x_aload mX7_shareOut 50 0 51 := Or.inl ⟨0, by decide +kernel, rfl, rfl⟩
theorem eX7_shareOut_51 : xGF mX7_shareOut 51 7 0 54 := ⟨26, _, _, by decide +kernel, rfl, fl_X7_26⟩
theorem eX7_shareOut_54 : xGF mX7_shareOut 54 2 6 57 := ⟨39, _, _, by decide +kernel, rfl, fl_X7_39⟩
theorem eX7_shareOut_57 : xD mX7_shareOut 57 (.irem) 1 58 := ⟨by decide +kernel, rfl⟩
theorem eX7_shareOut_58 : xD mX7_shareOut 58 (.dup2) 1 59 := ⟨by decide +kernel, rfl⟩
theorem eX7_shareOut_59 : xD mX7_shareOut 59 (.iaload) 1 60 := ⟨by decide +kernel, rfl⟩
theorem eX7_shareOut_60 : xK mX7_shareOut 60 (nI 1) 61 := Or.inl (⟨1, by decide +kernel, by decide, rfl⟩)
theorem eX7_shareOut_61 : x_iload mX7_shareOut 61 4 63 := Or.inr ⟨by decide +kernel, rfl⟩
theorem eX7_shareOut_63 : xD mX7_shareOut 63 (.ishl) 1 64 := ⟨by decide +kernel, rfl⟩
theorem eX7_shareOut_64 : xD mX7_shareOut 64 (.ior) 1 65 := ⟨by decide +kernel, rfl⟩
theorem eX7_shareOut_65 : xD mX7_shareOut 65 (.iastore) 1 66 := ⟨by decide +kernel, rfl⟩
theorem eX7_shareOut_66 : x_iload mX7_shareOut 66 3 67 := Or.inl ⟨3, by decide +kernel, rfl, rfl⟩
theorem eX7_shareOut_67 : x_aload mX7_shareOut 67 0 68 := Or.inl ⟨0, by decide +kernel, rfl, rfl⟩
theorem eX7_shareOut_68 : xGF mX7_shareOut 68 7 0 71 := ⟨26, _, _, by decide +kernel, rfl, fl_X7_26⟩
theorem eX7_shareOut_71 : xGF mX7_shareOut 71 2 6 74 := ⟨39, _, _, by decide +kernel, rfl, fl_X7_39⟩
theorem eX7_shareOut_74 : xD mX7_shareOut 74 (.idiv) 1 75 := ⟨by decide +kernel, rfl⟩
theorem eX7_shareOut_75 : x_istore mX7_shareOut 75 3 76 := Or.inl ⟨3, by decide +kernel, rfl, rfl⟩
theorem eX7_shareOut_76 : xD mX7_shareOut 76 (.iinc 4 (-1)) 3 79 := ⟨by decide +kernel, rfl⟩
theorem eX7_shareOut_79 : xJ mX7_shareOut 79 (.goto) 21 82 := ⟨(-58), by decide +kernel, by decide, rfl⟩
theorem eX7_shareOut_82 : xD mX7_shareOut 82 (.return_) 1 83 := ⟨by decide +kernel, rfl⟩
theorem eX7_daysOfShares_0 : xK mX7_daysOfShares 0 (nI 0) 1 := Or.inl (⟨0, by decide +kernel, by decide, rfl⟩)
theorem eX7_daysOfShares_1 : x_istore mX7_daysOfShares 1 2 2 := Or.inl ⟨2, by decide +kernel, rfl, rfl⟩
theorem eX7_daysOfShares_2 : xK mX7_daysOfShares 2 (nI 0) 3 := Or.inl (⟨0, by decide +kernel, by decide, rfl⟩)
theorem eX7_daysOfShares_3 : x_istore mX7_daysOfShares 3 3 4 := Or.inl ⟨3, by decide +kernel, rfl, rfl⟩
theorem eX7_daysOfShares_4 : x_iload mX7_daysOfShares 4 3 5 := Or.inl ⟨3, by decide +kernel, rfl, rfl⟩
theorem eX7_daysOfShares_5 : x_aload mX7_daysOfShares 5 0 6 := Or.inl ⟨0, by decide +kernel, rfl, rfl⟩
theorem eX7_daysOfShares_6 : xGF mX7_daysOfShares 6 7 0 9 := ⟨26, _, _, by decide +kernel, rfl, fl_X7_26⟩
theorem eX7_daysOfShares_9 : xGF mX7_daysOfShares 9 2 6 12 := ⟨39, _, _, by decide +kernel, rfl, fl_X7_39⟩
theorem eX7_daysOfShares_12 : xJ mX7_daysOfShares 12 (.if_icmp .ge) 60 15 := ⟨(48), by decide +kernel, by decide, rfl⟩
theorem eX7_daysOfShares_15 : x_aload mX7_daysOfShares 15 0 16 := Or.inl ⟨0, by decide +kernel, rfl, rfl⟩
theorem eX7_daysOfShares_16 : xGF mX7_daysOfShares 16 7 2 19 := ⟨17, _, _, by decide +kernel, rfl, fl_X7_17⟩
theorem eX7_daysOfShares_19 : x_iload mX7_daysOfShares 19 3 20 := Or.inl ⟨3, by decide +kernel, rfl, rfl⟩
theorem eX7_daysOfShares_20 : xD mX7_daysOfShares 20 (.aaload) 1 21 := ⟨by decide +kernel, rfl⟩
theorem eX7_daysOfShares_21 : x_aload mX7_daysOfShares 21 0 22 := Or.inl ⟨0, by decide +kernel, rfl, rfl⟩
theorem eX7_daysOfShares_22 : xGF mX7_daysOfShares 22 7 3 25 := ⟨20, _, _, by decide +kernel, rfl, fl_X7_20⟩
theorem eX7_daysOfShares_25 : x_iload mX7_daysOfShares 25 3 26 := Or.inl ⟨3, by decide +kernel, rfl, rfl⟩
theorem eX7_daysOfShares_26 : xD mX7_daysOfShares 26 (.iaload) 1 27 := ⟨by decide +kernel, rfl⟩
theorem eX7_daysOfShares_27 : xD mX7_daysOfShares 27 (.iaload) 1 28 := ⟨by decide +kernel, rfl⟩
theorem eX7_daysOfShares_28 : x_istore mX7_daysOfShares 28 4 30 := Or.inr ⟨by decide +kernel, rfl⟩
theorem eX7_daysOfShares_30 : x_iload mX7_daysOfShares 30 4 32 := Or.inr ⟨by decide +kernel, rfl⟩
set_option maxRecDepth 20000 in
theorem eX7_daysOfShares_32 : xK mX7_daysOfShares 32 (nI 1000000) 34 := Or.inr (Or.inr (Or.inr (Or.inl (⟨69, by decide +kernel, xT_3 114 rfl rfl, rfl⟩))))
theorem eX7_daysOfShares_34 : xJ mX7_daysOfShares 34 (.if_icmp .lt) 40 37 := ⟨(6), by decide +kernel, by decide, rfl⟩
theorem eX7_daysOfShares_37 : xK mX7_daysOfShares 37 ((-4)) 39 := Or.inr (Or.inl (⟨(-4), by decide +kernel, by decide, rfl⟩))
theorem eX7_daysOfShares_39 : xD mX7_daysOfShares 39 (.ireturn) 1 40 := ⟨by decide +kernel, rfl⟩
theorem eX7_daysOfShares_40 : x_iload mX7_daysOfShares 40 2 41 := Or.inl ⟨2, by decide +kernel, rfl, rfl⟩
theorem eX7_daysOfShares_41 : x_aload mX7_daysOfShares 41 1 42 := Or.inl ⟨1, by decide +kernel, rfl, rfl⟩
theorem eX7_daysOfShares_42 : xGF mX7_daysOfShares 42 0 4 45 := ⟨92, _, _, by decide +kernel, rfl, fl_X7_92⟩
theorem eX7_daysOfShares_45 : x_iload mX7_daysOfShares 45 3 46 := Or.inl ⟨3, by decide +kernel, rfl, rfl⟩
theorem eX7_daysOfShares_46 : xD mX7_daysOfShares 46 (.iaload) 1 47 := ⟨by decide +kernel, rfl⟩
theorem eX7_daysOfShares_47 : x_iload mX7_daysOfShares 47 4 49 := Or.inr ⟨by decide +kernel, rfl⟩
theorem eX7_daysOfShares_49 : xD mX7_daysOfShares 49 (.iadd) 1 50 := ⟨by decide +kernel, rfl⟩
set_option maxRecDepth 20000 in
theorem eX7_daysOfShares_50 : xCS mX7_daysOfShares 50 mJ9_max_7cf53 2 53 := ⟨95, by decide +kernel, rfl, ⟨cm_X7_95.1, cm_X7_95.2.1, cm_X7_95.2.2.1, cm_X7_95.2.2.2.1, cm_X7_95.2.2.2.2⟩, xT_3 130 rfl rfl⟩
theorem eX7_daysOfShares_53 : x_istore mX7_daysOfShares 53 2 54 := Or.inl ⟨2, by decide +kernel, rfl, rfl⟩
theorem eX7_daysOfShares_54 : xD mX7_daysOfShares 54 (.iinc 3 1) 3 57 := ⟨by decide +kernel, rfl⟩
theorem eX7_daysOfShares_57 : xJ mX7_daysOfShares 57 (.goto) 4 60 := ⟨(-53), by decide +kernel, by decide, rfl⟩
theorem eX7_daysOfShares_60 : x_iload mX7_daysOfShares 60 2 61 := Or.inl ⟨2, by decide +kernel, rfl, rfl⟩
theorem eX7_daysOfShares_61 : xD mX7_daysOfShares 61 (.ireturn) 1 62 := ⟨by decide +kernel, rfl⟩
theorem eX8_init_0 : x_aload mX8_init 0 0 1 := Or.inl ⟨0, by decide +kernel, rfl, rfl⟩
theorem eX8_init_4 : x_aload mX8_init 4 0 5 := Or.inl ⟨0, by decide +kernel, rfl, rfl⟩
theorem eX8_init_5 : xK mX8_init 5 (nI 6) 7 := Or.inr (Or.inl (⟨6, by decide +kernel, by decide, rfl⟩))
set_option maxRecDepth 20000 in
theorem eX8_init_9 : xPF mX8_init 9 8 0 (.array .int) 12 := ⟨9, _, by decide +kernel, rfl, fl_X8_9, fun _ => ⟨rfl, ⟨_, rfl, rfl⟩, _, rfl, xT_1 176 rfl rfl⟩⟩
theorem eX8_init_12 : x_aload mX8_init 12 0 13 := Or.inl ⟨0, by decide +kernel, rfl, rfl⟩
theorem eX8_init_13 : xK mX8_init 13 (nI 6) 15 := Or.inr (Or.inl (⟨6, by decide +kernel, by decide, rfl⟩))
set_option maxRecDepth 20000 in
theorem eX8_init_17 : xPF mX8_init 17 8 1 (.array .int) 20 := ⟨15, _, by decide +kernel, rfl, fl_X8_15, fun _ => ⟨rfl, ⟨_, rfl, rfl⟩, _, rfl, xT_1 177 rfl rfl⟩⟩
theorem eX8_init_20 : xD mX8_init 20 (.return_) 1 21 := ⟨by decide +kernel, rfl⟩
theorem eX8_isFull_0 : x_aload mX8_isFull 0 0 1 := Or.inl ⟨0, by decide +kernel, rfl, rfl⟩
theorem eX8_isFull_1 : xGF mX8_isFull 1 8 2 4 := ⟨18, _, _, by decide +kernel, rfl, fl_X8_18⟩
theorem eX8_isFull_4 : xK mX8_isFull 4 (nI 6) 6 := Or.inr (Or.inl (⟨6, by decide +kernel, by decide, rfl⟩))
theorem eX8_isFull_6 : xJ mX8_isFull 6 (.if_icmp .lt) 13 9 := ⟨(7), by decide +kernel, by decide, rfl⟩
theorem eX8_isFull_9 : xK mX8_isFull 9 (nI 1) 10 := Or.inl (⟨1, by decide +kernel, by decide, rfl⟩)
theorem eX8_isFull_10 : xJ mX8_isFull 10 (.goto) 14 13 := ⟨(4), by decide +kernel, by decide, rfl⟩
theorem eX8_isFull_13 : xK mX8_isFull 13 (nI 0) 14 := Or.inl (⟨0, by decide +kernel, by decide, rfl⟩)
theorem eX8_isFull_14 : xD mX8_isFull 14 (.ireturn) 1 15 := ⟨by decide +kernel, rfl⟩
theorem eX8_clear_0 : x_aload mX8_clear 0 0 1 := Or.inl ⟨0, by decide +kernel, rfl, rfl⟩
theorem eX8_clear_1 : xK mX8_clear 1 (nI 0) 2 := Or.inl (⟨0, by decide +kernel, by decide, rfl⟩)
theorem eX8_clear_2 : xPF mX8_clear 2 8 2 (.int) 5 := ⟨18, _, by decide +kernel, rfl, fl_X8_18, fun h => by cases h⟩
theorem eX8_clear_5 : xD mX8_clear 5 (.return_) 1 6 := ⟨by decide +kernel, rfl⟩
theorem eX8_add_0 : x_aload mX8_add 0 0 1 := Or.inl ⟨0, by decide +kernel, rfl, rfl⟩
set_option maxRecDepth 20000 in
theorem eX8_add_1 : xCV mX8_add 1 mX8_isFull 0 8 4 := ⟨22, by decide +kernel, rfl, ⟨cm_X8_22.1, cm_X8_22.2.1, cm_X8_22.2.2.1, cm_X8_22.2.2.2.1, cm_X8_22.2.2.2.2⟩, xT_3 190 rfl rfl, xT_3 191 rfl rfl, _, rfl, rfl⟩
theorem eX8_add_4 : xJ mX8_add 4 (.ifCond .ne) 37 7 := ⟨(33), by decide +kernel, by decide, rfl⟩
theorem eX8_add_7 : x_aload mX8_add 7 0 8 := Or.inl ⟨0, by decide +kernel, rfl, rfl⟩
theorem eX8_add_8 : xGF mX8_add 8 8 0 11 := ⟨9, _, _, by decide +kernel, rfl, fl_X8_9⟩
theorem eX8_add_11 : x_aload mX8_add 11 0 12 := Or.inl ⟨0, by decide +kernel, rfl, rfl⟩
theorem eX8_add_12 : xGF mX8_add 12 8 2 15 := ⟨18, _, _, by decide +kernel, rfl, fl_X8_18⟩
theorem eX8_add_15 : x_iload mX8_add 15 1 16 := Or.inl ⟨1, by decide +kernel, rfl, rfl⟩
theorem eX8_add_16 : xD mX8_add 16 (.iastore) 1 17 := ⟨by decide +kernel, rfl⟩
theorem eX8_add_17 : x_aload mX8_add 17 0 18 := Or.inl ⟨0, by decide +kernel, rfl, rfl⟩
theorem eX8_add_18 : xGF mX8_add 18 8 1 21 := ⟨15, _, _, by decide +kernel, rfl, fl_X8_15⟩
theorem eX8_add_21 : x_aload mX8_add 21 0 22 := Or.inl ⟨0, by decide +kernel, rfl, rfl⟩
theorem eX8_add_22 : xGF mX8_add 22 8 2 25 := ⟨18, _, _, by decide +kernel, rfl, fl_X8_18⟩
theorem eX8_add_25 : x_iload mX8_add 25 2 26 := Or.inl ⟨2, by decide +kernel, rfl, rfl⟩
theorem eX8_add_26 : xD mX8_add 26 (.iastore) 1 27 := ⟨by decide +kernel, rfl⟩
theorem eX8_add_27 : x_aload mX8_add 27 0 28 := Or.inl ⟨0, by decide +kernel, rfl, rfl⟩
theorem eX8_add_28 : xD mX8_add 28 (.dup) 1 29 := ⟨by decide +kernel, rfl⟩
theorem eX8_add_29 : xGF mX8_add 29 8 2 32 := ⟨18, _, _, by decide +kernel, rfl, fl_X8_18⟩
theorem eX8_add_32 : xK mX8_add 32 (nI 1) 33 := Or.inl (⟨1, by decide +kernel, by decide, rfl⟩)
theorem eX8_add_33 : xD mX8_add 33 (.iadd) 1 34 := ⟨by decide +kernel, rfl⟩
theorem eX8_add_34 : xPF mX8_add 34 8 2 (.int) 37 := ⟨18, _, by decide +kernel, rfl, fl_X8_18, fun h => by cases h⟩
theorem eX8_add_37 : xD mX8_add 37 (.return_) 1 38 := ⟨by decide +kernel, rfl⟩
theorem eX8_fits_0 : xK mX8_fits 0 (nI 0) 1 := Or.inl (⟨0, by decide +kernel, by decide, rfl⟩)
theorem eX8_fits_1 : x_istore mX8_fits 1 3 2 := Or.inl ⟨3, by decide +kernel, rfl, rfl⟩
theorem eX8_fits_2 : x_iload mX8_fits 2 3 3 := Or.inl ⟨3, by decide +kernel, rfl, rfl⟩
theorem eX8_fits_3 : x_aload mX8_fits 3 0 4 := Or.inl ⟨0, by decide +kernel, rfl, rfl⟩
theorem eX8_fits_4 : xGF mX8_fits 4 8 2 7 := ⟨18, _, _, by decide +kernel, rfl, fl_X8_18⟩
theorem eX8_fits_7 : xJ mX8_fits 7 (.if_icmp .ge) 38 10 := ⟨(31), by decide +kernel, by decide, rfl⟩
theorem eX8_fits_10 : x_aload mX8_fits 10 0 11 := Or.inl ⟨0, by decide +kernel, rfl, rfl⟩
theorem eX8_fits_11 : xGF mX8_fits 11 8 0 14 := ⟨9, _, _, by decide +kernel, rfl, fl_X8_9⟩
theorem eX8_fits_14 : x_iload mX8_fits 14 3 15 := Or.inl ⟨3, by decide +kernel, rfl, rfl⟩
theorem eX8_fits_15 : xD mX8_fits 15 (.iaload) 1 16 := ⟨by decide +kernel, rfl⟩
theorem eX8_fits_16 : x_iload mX8_fits 16 1 17 := Or.inl ⟨1, by decide +kernel, rfl, rfl⟩
theorem eX8_fits_17 : xJ mX8_fits 17 (.if_icmp .ne) 32 20 := ⟨(15), by decide +kernel, by decide, rfl⟩
theorem eX8_fits_20 : x_aload mX8_fits 20 0 21 := Or.inl ⟨0, by decide +kernel, rfl, rfl⟩
theorem eX8_fits_21 : xGF mX8_fits 21 8 1 24 := ⟨15, _, _, by decide +kernel, rfl, fl_X8_15⟩
theorem eX8_fits_24 : x_iload mX8_fits 24 3 25 := Or.inl ⟨3, by decide +kernel, rfl, rfl⟩
theorem eX8_fits_25 : xD mX8_fits 25 (.iaload) 1 26 := ⟨by decide +kernel, rfl⟩
theorem eX8_fits_26 : x_iload mX8_fits 26 2 27 := Or.inl ⟨2, by decide +kernel, rfl, rfl⟩
theorem eX8_fits_27 : xJ mX8_fits 27 (.if_icmp .eq) 32 30 := ⟨(5), by decide +kernel, by decide, rfl⟩
theorem eX8_fits_30 : xK mX8_fits 30 (nI 0) 31 := Or.inl (⟨0, by decide +kernel, by decide, rfl⟩)
theorem eX8_fits_31 : xD mX8_fits 31 (.ireturn) 1 32 := ⟨by decide +kernel, rfl⟩
theorem eX8_fits_32 : xD mX8_fits 32 (.iinc 3 1) 3 35 := ⟨by decide +kernel, rfl⟩
theorem eX8_fits_35 : xJ mX8_fits 35 (.goto) 2 38 := ⟨(-33), by decide +kernel, by decide, rfl⟩
theorem eX8_fits_38 : xK mX8_fits 38 (nI 1) 39 := Or.inl (⟨1, by decide +kernel, by decide, rfl⟩)
theorem eX8_fits_39 : xD mX8_fits 39 (.ireturn) 1 40 := ⟨by decide +kernel, rfl⟩
theorem eJ6_bitCount_0f7a4_0 : x_iload mJ6_bitCount_0f7a4 0 0 1 := Or.inl ⟨0, by decide +kernel, rfl, rfl⟩
theorem eJ6_bitCount_0f7a4_1 : x_iload mJ6_bitCount_0f7a4 1 0 2 := Or.inl ⟨0, by decide +kernel, rfl, rfl⟩
theorem eJ6_bitCount_0f7a4_2 : xK mJ6_bitCount_0f7a4 2 (nI 1) 3 := Or.inl (⟨1, by decide +kernel, by decide, rfl⟩)
theorem eJ6_bitCount_0f7a4_3 : xD mJ6_bitCount_0f7a4 3 (.iushr) 1 4 := ⟨by decide +kernel, rfl⟩
set_option maxRecDepth 20000 in
theorem eJ6_bitCount_0f7a4_4 : xK mJ6_bitCount_0f7a4 4 (nI 1431655765) 7 := Or.inr (Or.inr (Or.inr (Or.inr (⟨265, by decide +kernel, xT_3 107 rfl rfl, rfl⟩))))
theorem eJ6_bitCount_0f7a4_7 : xD mJ6_bitCount_0f7a4 7 (.iand) 1 8 := ⟨by decide +kernel, rfl⟩
theorem eJ6_bitCount_0f7a4_8 : xD mJ6_bitCount_0f7a4 8 (.isub) 1 9 := ⟨by decide +kernel, rfl⟩
theorem eJ6_bitCount_0f7a4_9 : x_istore mJ6_bitCount_0f7a4 9 0 10 := Or.inl ⟨0, by decide +kernel, rfl, rfl⟩
theorem eJ6_bitCount_0f7a4_10 : x_iload mJ6_bitCount_0f7a4 10 0 11 := Or.inl ⟨0, by decide +kernel, rfl, rfl⟩
set_option maxRecDepth 20000 in
theorem eJ6_bitCount_0f7a4_11 : xK mJ6_bitCount_0f7a4 11 (nI 858993459) 14 := Or.inr (Or.inr (Or.inr (Or.inr (⟨266, by decide +kernel, xT_3 108 rfl rfl, rfl⟩))))
theorem eJ6_bitCount_0f7a4_14 : xD mJ6_bitCount_0f7a4 14 (.iand) 1 15 := ⟨by decide +kernel, rfl⟩
theorem eJ6_bitCount_0f7a4_15 : x_iload mJ6_bitCount_0f7a4 15 0 16 := Or.inl ⟨0, by decide +kernel, rfl, rfl⟩
theorem eJ6_bitCount_0f7a4_16 : xK mJ6_bitCount_0f7a4 16 (nI 2) 17 := Or.inl (⟨2, by decide +kernel, by decide, rfl⟩)
theorem eJ6_bitCount_0f7a4_17 : xD mJ6_bitCount_0f7a4 17 (.iushr) 1 18 := ⟨by decide +kernel, rfl⟩
set_option maxRecDepth 20000 in
theorem eJ6_bitCount_0f7a4_18 : xK mJ6_bitCount_0f7a4 18 (nI 858993459) 21 := Or.inr (Or.inr (Or.inr (Or.inr (⟨266, by decide +kernel, xT_3 108 rfl rfl, rfl⟩))))
theorem eJ6_bitCount_0f7a4_21 : xD mJ6_bitCount_0f7a4 21 (.iand) 1 22 := ⟨by decide +kernel, rfl⟩
theorem eJ6_bitCount_0f7a4_22 : xD mJ6_bitCount_0f7a4 22 (.iadd) 1 23 := ⟨by decide +kernel, rfl⟩
theorem eJ6_bitCount_0f7a4_23 : x_istore mJ6_bitCount_0f7a4 23 0 24 := Or.inl ⟨0, by decide +kernel, rfl, rfl⟩
theorem eJ6_bitCount_0f7a4_24 : x_iload mJ6_bitCount_0f7a4 24 0 25 := Or.inl ⟨0, by decide +kernel, rfl, rfl⟩
theorem eJ6_bitCount_0f7a4_25 : x_iload mJ6_bitCount_0f7a4 25 0 26 := Or.inl ⟨0, by decide +kernel, rfl, rfl⟩
theorem eJ6_bitCount_0f7a4_26 : xK mJ6_bitCount_0f7a4 26 (nI 4) 27 := Or.inl (⟨4, by decide +kernel, by decide, rfl⟩)
theorem eJ6_bitCount_0f7a4_27 : xD mJ6_bitCount_0f7a4 27 (.iushr) 1 28 := ⟨by decide +kernel, rfl⟩
theorem eJ6_bitCount_0f7a4_28 : xD mJ6_bitCount_0f7a4 28 (.iadd) 1 29 := ⟨by decide +kernel, rfl⟩
set_option maxRecDepth 20000 in
theorem eJ6_bitCount_0f7a4_29 : xK mJ6_bitCount_0f7a4 29 (nI 252645135) 32 := Or.inr (Or.inr (Or.inr (Or.inr (⟨267, by decide +kernel, xT_3 109 rfl rfl, rfl⟩))))
theorem eJ6_bitCount_0f7a4_32 : xD mJ6_bitCount_0f7a4 32 (.iand) 1 33 := ⟨by decide +kernel, rfl⟩
theorem eJ6_bitCount_0f7a4_33 : x_istore mJ6_bitCount_0f7a4 33 0 34 := Or.inl ⟨0, by decide +kernel, rfl, rfl⟩
theorem eJ6_bitCount_0f7a4_34 : x_iload mJ6_bitCount_0f7a4 34 0 35 := Or.inl ⟨0, by decide +kernel, rfl, rfl⟩
theorem eJ6_bitCount_0f7a4_35 : x_iload mJ6_bitCount_0f7a4 35 0 36 := Or.inl ⟨0, by decide +kernel, rfl, rfl⟩
theorem eJ6_bitCount_0f7a4_36 : xK mJ6_bitCount_0f7a4 36 (nI 8) 38 := Or.inr (Or.inl (⟨8, by decide +kernel, by decide, rfl⟩))
theorem eJ6_bitCount_0f7a4_38 : xD mJ6_bitCount_0f7a4 38 (.iushr) 1 39 := ⟨by decide +kernel, rfl⟩
theorem eJ6_bitCount_0f7a4_39 : xD mJ6_bitCount_0f7a4 39 (.iadd) 1 40 := ⟨by decide +kernel, rfl⟩
theorem eJ6_bitCount_0f7a4_40 : x_istore mJ6_bitCount_0f7a4 40 0 41 := Or.inl ⟨0, by decide +kernel, rfl, rfl⟩
theorem eJ6_bitCount_0f7a4_41 : x_iload mJ6_bitCount_0f7a4 41 0 42 := Or.inl ⟨0, by decide +kernel, rfl, rfl⟩
theorem eJ6_bitCount_0f7a4_42 : x_iload mJ6_bitCount_0f7a4 42 0 43 := Or.inl ⟨0, by decide +kernel, rfl, rfl⟩
theorem eJ6_bitCount_0f7a4_43 : xK mJ6_bitCount_0f7a4 43 (nI 16) 45 := Or.inr (Or.inl (⟨16, by decide +kernel, by decide, rfl⟩))
theorem eJ6_bitCount_0f7a4_45 : xD mJ6_bitCount_0f7a4 45 (.iushr) 1 46 := ⟨by decide +kernel, rfl⟩
theorem eJ6_bitCount_0f7a4_46 : xD mJ6_bitCount_0f7a4 46 (.iadd) 1 47 := ⟨by decide +kernel, rfl⟩
theorem eJ6_bitCount_0f7a4_47 : x_istore mJ6_bitCount_0f7a4 47 0 48 := Or.inl ⟨0, by decide +kernel, rfl, rfl⟩
theorem eJ6_bitCount_0f7a4_48 : x_iload mJ6_bitCount_0f7a4 48 0 49 := Or.inl ⟨0, by decide +kernel, rfl, rfl⟩
theorem eJ6_bitCount_0f7a4_49 : xK mJ6_bitCount_0f7a4 49 (nI 63) 51 := Or.inr (Or.inl (⟨63, by decide +kernel, by decide, rfl⟩))
theorem eJ6_bitCount_0f7a4_51 : xD mJ6_bitCount_0f7a4 51 (.iand) 1 52 := ⟨by decide +kernel, rfl⟩
theorem eJ6_bitCount_0f7a4_52 : xD mJ6_bitCount_0f7a4 52 (.ireturn) 1 53 := ⟨by decide +kernel, rfl⟩
theorem eJ9_max_7cf53_0 : x_iload mJ9_max_7cf53 0 0 1 := Or.inl ⟨0, by decide +kernel, rfl, rfl⟩
theorem eJ9_max_7cf53_1 : x_iload mJ9_max_7cf53 1 1 2 := Or.inl ⟨1, by decide +kernel, rfl, rfl⟩
theorem eJ9_max_7cf53_2 : xJ mJ9_max_7cf53 2 (.if_icmp .lt) 9 5 := ⟨(7), by decide +kernel, by decide, rfl⟩
theorem eJ9_max_7cf53_5 : x_iload mJ9_max_7cf53 5 0 6 := Or.inl ⟨0, by decide +kernel, rfl, rfl⟩
theorem eJ9_max_7cf53_6 : xJ mJ9_max_7cf53 6 (.goto) 10 9 := ⟨(4), by decide +kernel, by decide, rfl⟩
theorem eJ9_max_7cf53_9 : x_iload mJ9_max_7cf53 9 1 10 := Or.inl ⟨1, by decide +kernel, rfl, rfl⟩
theorem eJ9_max_7cf53_10 : xD mJ9_max_7cf53 10 (.ireturn) 1 11 := ⟨by decide +kernel, rfl⟩
theorem eJ9_min_7cf53_0 : x_iload mJ9_min_7cf53 0 0 1 := Or.inl ⟨0, by decide +kernel, rfl, rfl⟩
theorem eJ9_min_7cf53_1 : x_iload mJ9_min_7cf53 1 1 2 := Or.inl ⟨1, by decide +kernel, rfl, rfl⟩
theorem eJ9_min_7cf53_2 : xJ mJ9_min_7cf53 2 (.if_icmp .gt) 9 5 := ⟨(7), by decide +kernel, by decide, rfl⟩
theorem eJ9_min_7cf53_5 : x_iload mJ9_min_7cf53 5 0 6 := Or.inl ⟨0, by decide +kernel, rfl, rfl⟩
theorem eJ9_min_7cf53_6 : xJ mJ9_min_7cf53 6 (.goto) 10 9 := ⟨(4), by decide +kernel, by decide, rfl⟩
theorem eJ9_min_7cf53_9 : x_iload mJ9_min_7cf53 9 1 10 := Or.inl ⟨1, by decide +kernel, rfl, rfl⟩
theorem eJ9_min_7cf53_10 : xD mJ9_min_7cf53 10 (.ireturn) 1 11 := ⟨by decide +kernel, rfl⟩
theorem eJ0_length_8abf5_0 : x_aload mJ0_length_8abf5 0 0 1 := Or.inl ⟨0, by decide +kernel, rfl, rfl⟩
theorem eJ0_length_8abf5_4 : xD mJ0_length_8abf5 4 (.arraylength) 1 5 := ⟨by decide +kernel, rfl⟩
theorem eJ0_length_8abf5_5 : x_aload mJ0_length_8abf5 5 0 6 := Or.inl ⟨0, by decide +kernel, rfl, rfl⟩
theorem eJ0_length_8abf5_9 : xD mJ0_length_8abf5 9 (.ishr) 1 10 := ⟨by decide +kernel, rfl⟩
theorem eJ0_length_8abf5_10 : xD mJ0_length_8abf5 10 (.ireturn) 1 11 := ⟨by decide +kernel, rfl⟩
theorem eJ0_charAt_5068e_0 : x_aload mJ0_charAt_5068e 0 0 1 := Or.inl ⟨0, by decide +kernel, rfl, rfl⟩
theorem eJ0_charAt_5068e_4 : xJ mJ0_charAt_5068e 4 (.ifCond .eq) 16 7 := ⟨(12), by decide +kernel, by decide, rfl⟩
theorem eJ0_charAt_5068e_7 : x_aload mJ0_charAt_5068e 7 0 8 := Or.inl ⟨0, by decide +kernel, rfl, rfl⟩
theorem eJ0_charAt_5068e_11 : x_iload mJ0_charAt_5068e 11 1 12 := Or.inl ⟨1, by decide +kernel, rfl, rfl⟩
set_option maxRecDepth 20000 in
theorem eJ0_charAt_5068e_12 : xCS mJ0_charAt_5068e 12 mJ1_charAt_3b067 2 15 := ⟨495, by decide +kernel, rfl, ⟨cm_J0_495.1, cm_J0_495.2.1, cm_J0_495.2.2.1, cm_J0_495.2.2.2.1, cm_J0_495.2.2.2.2⟩, xT_2 52 rfl rfl⟩
theorem eJ0_charAt_5068e_15 : xD mJ0_charAt_5068e 15 (.ireturn) 1 16 := ⟨by decide +kernel, rfl⟩
theorem eJ0_charAt_5068e_16 : x_aload mJ0_charAt_5068e 16 0 17 := Or.inl ⟨0, by decide +kernel, rfl, rfl⟩
theorem eJ0_charAt_5068e_20 : x_iload mJ0_charAt_5068e 20 1 21 := Or.inl ⟨1, by decide +kernel, rfl, rfl⟩
theorem eJ0_charAt_5068e_24 : xD mJ0_charAt_5068e 24 (.ireturn) 1 25 := ⟨by decide +kernel, rfl⟩
theorem eJ0_coder_7d493_3 : xJ mJ0_coder_7d493 3 (.ifCond .eq) 13 6 := ⟨(10), by decide +kernel, by decide, rfl⟩
theorem eJ0_coder_7d493_6 : x_aload mJ0_coder_7d493 6 0 7 := Or.inl ⟨0, by decide +kernel, rfl, rfl⟩
theorem eJ0_coder_7d493_10 : xJ mJ0_coder_7d493 10 (.goto) 14 13 := ⟨(4), by decide +kernel, by decide, rfl⟩
theorem eJ0_coder_7d493_13 : xK mJ0_coder_7d493 13 (nI 1) 14 := Or.inl (⟨1, by decide +kernel, by decide, rfl⟩)
theorem eJ0_coder_7d493_14 : xD mJ0_coder_7d493 14 (.ireturn) 1 15 := ⟨by decide +kernel, rfl⟩
theorem eJ0_isLatin1_aae02_3 : xJ mJ0_isLatin1_aae02 3 (.ifCond .eq) 17 6 := ⟨(14), by decide +kernel, by decide, rfl⟩
theorem eJ0_isLatin1_aae02_6 : x_aload mJ0_isLatin1_aae02 6 0 7 := Or.inl ⟨0, by decide +kernel, rfl, rfl⟩
theorem eJ0_isLatin1_aae02_10 : xJ mJ0_isLatin1_aae02 10 (.ifCond .ne) 17 13 := ⟨(7), by decide +kernel, by decide, rfl⟩
theorem eJ0_isLatin1_aae02_13 : xK mJ0_isLatin1_aae02 13 (nI 1) 14 := Or.inl (⟨1, by decide +kernel, by decide, rfl⟩)
theorem eJ0_isLatin1_aae02_14 : xJ mJ0_isLatin1_aae02 14 (.goto) 18 17 := ⟨(4), by decide +kernel, by decide, rfl⟩
theorem eJ0_isLatin1_aae02_17 : xK mJ0_isLatin1_aae02 17 (nI 0) 18 := Or.inl (⟨0, by decide +kernel, by decide, rfl⟩)
theorem eJ0_isLatin1_aae02_18 : xD mJ0_isLatin1_aae02 18 (.ireturn) 1 19 := ⟨by decide +kernel, rfl⟩
theorem eJ0_checkIndex_df160_0 : x_iload mJ0_checkIndex_df160 0 0 1 := Or.inl ⟨0, by decide +kernel, rfl, rfl⟩
theorem eJ0_checkIndex_df160_1 : x_iload mJ0_checkIndex_df160 1 1 2 := Or.inl ⟨1, by decide +kernel, rfl, rfl⟩
set_option maxRecDepth 20000 in
theorem eJ0_checkIndex_df160_5 : xCS mJ0_checkIndex_df160 5 mJ3_checkIndex_8e157 3 8 := ⟨1059, by decide +kernel, rfl, ⟨cm_J0_1059.1, cm_J0_1059.2.1, cm_J0_1059.2.2.1, cm_J0_1059.2.2.2.1, cm_J0_1059.2.2.2.2⟩, xT_2 60 rfl rfl⟩
theorem eJ0_checkIndex_df160_8 : xD mJ0_checkIndex_df160 8 (.pop) 1 9 := ⟨by decide +kernel, rfl⟩
theorem eJ0_checkIndex_df160_9 : xD mJ0_checkIndex_df160 9 (.return_) 1 10 := ⟨by decide +kernel, rfl⟩
theorem eJ1_charAt_3b067_0 : x_iload mJ1_charAt_3b067 0 1 1 := Or.inl ⟨1, by decide +kernel, rfl, rfl⟩
theorem eJ1_charAt_3b067_1 : x_aload mJ1_charAt_3b067 1 0 2 := Or.inl ⟨0, by decide +kernel, rfl, rfl⟩
theorem eJ1_charAt_3b067_2 : xD mJ1_charAt_3b067 2 (.arraylength) 1 3 := ⟨by decide +kernel, rfl⟩
set_option maxRecDepth 20000 in
theorem eJ1_charAt_3b067_3 : xCS mJ1_charAt_3b067 3 mJ0_checkIndex_df160 2 6 := ⟨9, by decide +kernel, rfl, ⟨cm_J1_9.1, cm_J1_9.2.1, cm_J1_9.2.2.1, cm_J1_9.2.2.2.1, cm_J1_9.2.2.2.2⟩, xT_2 55 rfl rfl⟩
theorem eJ1_charAt_3b067_6 : x_aload mJ1_charAt_3b067 6 0 7 := Or.inl ⟨0, by decide +kernel, rfl, rfl⟩
theorem eJ1_charAt_3b067_7 : x_iload mJ1_charAt_3b067 7 1 8 := Or.inl ⟨1, by decide +kernel, rfl, rfl⟩
theorem eJ1_charAt_3b067_8 : xD mJ1_charAt_3b067 8 (.baload) 1 9 := ⟨by decide +kernel, rfl⟩
theorem eJ1_charAt_3b067_9 : xK mJ1_charAt_3b067 9 (nI 255) 12 := Or.inr (Or.inr (Or.inl (⟨255, by decide +kernel, by decide, rfl⟩)))
theorem eJ1_charAt_3b067_12 : xD mJ1_charAt_3b067 12 (.iand) 1 13 := ⟨by decide +kernel, rfl⟩
theorem eJ1_charAt_3b067_13 : xD mJ1_charAt_3b067 13 (.i2c) 1 14 := ⟨by decide +kernel, rfl⟩
theorem eJ1_charAt_3b067_14 : xD mJ1_charAt_3b067 14 (.ireturn) 1 15 := ⟨by decide +kernel, rfl⟩
theorem eJ7_fill_53178_0 : xK mJ7_fill_53178 0 (nI 0) 1 := Or.inl (⟨0, by decide +kernel, by decide, rfl⟩)
theorem eJ7_fill_53178_1 : x_istore mJ7_fill_53178 1 2 2 := Or.inl ⟨2, by decide +kernel, rfl, rfl⟩
theorem eJ7_fill_53178_2 : x_aload mJ7_fill_53178 2 0 3 := Or.inl ⟨0, by decide +kernel, rfl, rfl⟩
theorem eJ7_fill_53178_3 : xD mJ7_fill_53178 3 (.arraylength) 1 4 := ⟨by decide +kernel, rfl⟩
theorem eJ7_fill_53178_4 : x_istore mJ7_fill_53178 4 3 5 := Or.inl ⟨3, by decide +kernel, rfl, rfl⟩
theorem eJ7_fill_53178_5 : x_iload mJ7_fill_53178 5 2 6 := Or.inl ⟨2, by decide +kernel, rfl, rfl⟩
theorem eJ7_fill_53178_6 : x_iload mJ7_fill_53178 6 3 7 := Or.inl ⟨3, by decide +kernel, rfl, rfl⟩
theorem eJ7_fill_53178_7 : xJ mJ7_fill_53178 7 (.if_icmp .ge) 20 10 := ⟨(13), by decide +kernel, by decide, rfl⟩
theorem eJ7_fill_53178_10 : x_aload mJ7_fill_53178 10 0 11 := Or.inl ⟨0, by decide +kernel, rfl, rfl⟩
theorem eJ7_fill_53178_11 : x_iload mJ7_fill_53178 11 2 12 := Or.inl ⟨2, by decide +kernel, rfl, rfl⟩
theorem eJ7_fill_53178_12 : x_iload mJ7_fill_53178 12 1 13 := Or.inl ⟨1, by decide +kernel, rfl, rfl⟩
theorem eJ7_fill_53178_13 : xD mJ7_fill_53178 13 (.iastore) 1 14 := ⟨by decide +kernel, rfl⟩
theorem eJ7_fill_53178_14 : xD mJ7_fill_53178 14 (.iinc 2 1) 3 17 := ⟨by decide +kernel, rfl⟩
theorem eJ7_fill_53178_17 : xJ mJ7_fill_53178 17 (.goto) 5 20 := ⟨(-12), by decide +kernel, by decide, rfl⟩
theorem eJ7_fill_53178_20 : xD mJ7_fill_53178 20 (.return_) 1 21 := ⟨by decide +kernel, rfl⟩
theorem eJ3_checkIndex_8e157_0 : x_iload mJ3_checkIndex_8e157 0 0 1 := Or.inl ⟨0, by decide +kernel, rfl, rfl⟩
theorem eJ3_checkIndex_8e157_1 : xJ mJ3_checkIndex_8e157 1 (.ifCond .lt) 9 4 := ⟨(8), by decide +kernel, by decide, rfl⟩
theorem eJ3_checkIndex_8e157_4 : x_iload mJ3_checkIndex_8e157 4 0 5 := Or.inl ⟨0, by decide +kernel, rfl, rfl⟩
theorem eJ3_checkIndex_8e157_5 : x_iload mJ3_checkIndex_8e157 5 1 6 := Or.inl ⟨1, by decide +kernel, rfl, rfl⟩
theorem eJ3_checkIndex_8e157_6 : xJ mJ3_checkIndex_8e157 6 (.if_icmp .lt) 16 9 := ⟨(10), by decide +kernel, by decide, rfl⟩
theorem eJ3_checkIndex_8e157_9 : x_aload mJ3_checkIndex_8e157 9 2 10 := Or.inl ⟨2, by decide +kernel, rfl, rfl⟩
theorem eJ3_checkIndex_8e157_10 : x_iload mJ3_checkIndex_8e157 10 0 11 := Or.inl ⟨0, by decide +kernel, rfl, rfl⟩
theorem eJ3_checkIndex_8e157_11 : x_iload mJ3_checkIndex_8e157 11 1 12 := Or.inl ⟨1, by decide +kernel, rfl, rfl⟩
theorem eJ3_checkIndex_8e157_16 : x_iload mJ3_checkIndex_8e157 16 0 17 := Or.inl ⟨0, by decide +kernel, rfl, rfl⟩
theorem eJ3_checkIndex_8e157_17 : xD mJ3_checkIndex_8e157 17 (.ireturn) 1 18 := ⟨by decide +kernel, rfl⟩
end
section
theorem eX9_init_0 : x_aload mX9_init 0 0 1 := Or.inl ⟨0, by decide +kernel, rfl, rfl⟩
theorem eX9_init_4 : x_aload mX9_init 4 0 5 := Or.inl ⟨0, by decide +kernel, rfl, rfl⟩
theorem eX9_init_8 : xD mX9_init 8 (.dup) 1 9 := ⟨by decide +kernel, rfl⟩
set_option maxRecDepth 20000 in
theorem eX9_init_9 : xCI mX9_init 9 mX6_init 0 12 := ⟨11, by decide +kernel, rfl, ⟨cm_X9_11.1, cm_X9_11.2.1, cm_X9_11.2.2.1, cm_X9_11.2.2.2.1, cm_X9_11.2.2.2.2⟩, xT_1 31 rfl rfl, rfl⟩
set_option maxRecDepth 20000 in
theorem eX9_init_12 : xPF mX9_init 12 9 0 (.object "NotAnOx$Scroll") 15 := ⟨12, _, by decide +kernel, rfl, fl_X9_12, fun _ => ⟨rfl, ⟨_, rfl, rfl⟩, _, rfl, xT_2 167 rfl rfl⟩⟩
theorem eX9_init_15 : x_aload mX9_init 15 0 16 := Or.inl ⟨0, by decide +kernel, rfl, rfl⟩
theorem eX9_init_19 : xD mX9_init 19 (.dup) 1 20 := ⟨by decide +kernel, rfl⟩
set_option maxRecDepth 20000 in
theorem eX9_init_20 : xCI mX9_init 20 mX5_init 0 23 := ⟨18, by decide +kernel, rfl, ⟨cm_X9_18.1, cm_X9_18.2.1, cm_X9_18.2.2.1, cm_X9_18.2.2.2.1, cm_X9_18.2.2.2.2⟩, xT_1 47 rfl rfl, rfl⟩
set_option maxRecDepth 20000 in
theorem eX9_init_23 : xPF mX9_init 23 9 1 (.object "NotAnOx$Reader") 26 := ⟨19, _, by decide +kernel, rfl, fl_X9_19, fun _ => ⟨rfl, ⟨_, rfl, rfl⟩, _, rfl, xT_2 168 rfl rfl⟩⟩
theorem eX9_init_26 : x_aload mX9_init 26 0 27 := Or.inl ⟨0, by decide +kernel, rfl, rfl⟩
theorem eX9_init_30 : xD mX9_init 30 (.dup) 1 31 := ⟨by decide +kernel, rfl⟩
set_option maxRecDepth 20000 in
theorem eX9_init_31 : xCI mX9_init 31 mX2_init 0 34 := ⟨25, by decide +kernel, rfl, ⟨cm_X9_25.1, cm_X9_25.2.1, cm_X9_25.2.2.1, cm_X9_25.2.2.2.1, cm_X9_25.2.2.2.2⟩, xT_1 61 rfl rfl, rfl⟩
set_option maxRecDepth 20000 in
theorem eX9_init_34 : xPF mX9_init 34 9 2 (.object "NotAnOx$Land") 37 := ⟨26, _, by decide +kernel, rfl, fl_X9_26, fun _ => ⟨rfl, ⟨_, rfl, rfl⟩, _, rfl, xT_2 169 rfl rfl⟩⟩
theorem eX9_init_37 : x_aload mX9_init 37 0 38 := Or.inl ⟨0, by decide +kernel, rfl, rfl⟩
theorem eX9_init_41 : xD mX9_init 41 (.dup) 1 42 := ⟨by decide +kernel, rfl⟩
set_option maxRecDepth 20000 in
theorem eX9_init_42 : xCI mX9_init 42 mX2_init 0 45 := ⟨25, by decide +kernel, rfl, ⟨cm_X9_25.1, cm_X9_25.2.1, cm_X9_25.2.2.1, cm_X9_25.2.2.2.1, cm_X9_25.2.2.2.2⟩, xT_1 61 rfl rfl, rfl⟩
set_option maxRecDepth 20000 in
theorem eX9_init_45 : xPF mX9_init 45 9 3 (.object "NotAnOx$Land") 48 := ⟨30, _, by decide +kernel, rfl, fl_X9_30, fun _ => ⟨rfl, ⟨_, rfl, rfl⟩, _, rfl, xT_2 170 rfl rfl⟩⟩
theorem eX9_init_48 : x_aload mX9_init 48 0 49 := Or.inl ⟨0, by decide +kernel, rfl, rfl⟩
theorem eX9_init_52 : xD mX9_init 52 (.dup) 1 53 := ⟨by decide +kernel, rfl⟩
theorem eX9_init_53 : x_aload mX9_init 53 0 54 := Or.inl ⟨0, by decide +kernel, rfl, rfl⟩
theorem eX9_init_54 : xGF mX9_init 54 9 3 57 := ⟨30, _, _, by decide +kernel, rfl, fl_X9_30⟩
set_option maxRecDepth 20000 in
theorem eX9_init_57 : xCI mX9_init 57 mX0_init 1 60 := ⟨35, by decide +kernel, rfl, ⟨cm_X9_35.1, cm_X9_35.2.1, cm_X9_35.2.2.1, cm_X9_35.2.2.2.1, cm_X9_35.2.2.2.2⟩, xT_1 117 rfl rfl, rfl⟩
set_option maxRecDepth 20000 in
theorem eX9_init_60 : xPF mX9_init 60 9 4 (.object "NotAnOx$Book") 63 := ⟨38, _, by decide +kernel, rfl, fl_X9_38, fun _ => ⟨rfl, ⟨_, rfl, rfl⟩, _, rfl, xT_2 171 rfl rfl⟩⟩
theorem eX9_init_63 : x_aload mX9_init 63 0 64 := Or.inl ⟨0, by decide +kernel, rfl, rfl⟩
theorem eX9_init_67 : xD mX9_init 67 (.dup) 1 68 := ⟨by decide +kernel, rfl⟩
theorem eX9_init_68 : x_aload mX9_init 68 0 69 := Or.inl ⟨0, by decide +kernel, rfl, rfl⟩
theorem eX9_init_69 : xGF mX9_init 69 9 3 72 := ⟨30, _, _, by decide +kernel, rfl, fl_X9_30⟩
set_option maxRecDepth 20000 in
theorem eX9_init_72 : xCI mX9_init 72 mX0_init 1 75 := ⟨35, by decide +kernel, rfl, ⟨cm_X9_35.1, cm_X9_35.2.1, cm_X9_35.2.2.1, cm_X9_35.2.2.2.1, cm_X9_35.2.2.2.2⟩, xT_1 117 rfl rfl, rfl⟩
set_option maxRecDepth 20000 in
theorem eX9_init_75 : xPF mX9_init 75 9 5 (.object "NotAnOx$Book") 78 := ⟨42, _, by decide +kernel, rfl, fl_X9_42, fun _ => ⟨rfl, ⟨_, rfl, rfl⟩, _, rfl, xT_2 172 rfl rfl⟩⟩
theorem eX9_init_78 : x_aload mX9_init 78 0 79 := Or.inl ⟨0, by decide +kernel, rfl, rfl⟩
theorem eX9_init_82 : xD mX9_init 82 (.dup) 1 83 := ⟨by decide +kernel, rfl⟩
theorem eX9_init_83 : x_aload mX9_init 83 0 84 := Or.inl ⟨0, by decide +kernel, rfl, rfl⟩
theorem eX9_init_84 : xGF mX9_init 84 9 3 87 := ⟨30, _, _, by decide +kernel, rfl, fl_X9_30⟩
theorem eX9_init_87 : xK mX9_init 87 (nI 8) 89 := Or.inr (Or.inl (⟨8, by decide +kernel, by decide, rfl⟩))
set_option maxRecDepth 20000 in
theorem eX9_init_89 : xCI mX9_init 89 mX4_init 2 92 := ⟨47, by decide +kernel, rfl, ⟨cm_X9_47.1, cm_X9_47.2.1, cm_X9_47.2.2.1, cm_X9_47.2.2.2.1, cm_X9_47.2.2.2.2⟩, xT_1 153 rfl rfl, rfl⟩
set_option maxRecDepth 20000 in
theorem eX9_init_92 : xPF mX9_init 92 9 6 (.object "NotAnOx$Pile") 95 := ⟨50, _, by decide +kernel, rfl, fl_X9_50, fun _ => ⟨rfl, ⟨_, rfl, rfl⟩, _, rfl, xT_2 173 rfl rfl⟩⟩
theorem eX9_init_95 : x_aload mX9_init 95 0 96 := Or.inl ⟨0, by decide +kernel, rfl, rfl⟩
theorem eX9_init_99 : xD mX9_init 99 (.dup) 1 100 := ⟨by decide +kernel, rfl⟩
theorem eX9_init_100 : x_aload mX9_init 100 0 101 := Or.inl ⟨0, by decide +kernel, rfl, rfl⟩
theorem eX9_init_101 : xGF mX9_init 101 9 3 104 := ⟨30, _, _, by decide +kernel, rfl, fl_X9_30⟩
theorem eX9_init_104 : xK mX9_init 104 (nI 2) 105 := Or.inl (⟨2, by decide +kernel, by decide, rfl⟩)
set_option maxRecDepth 20000 in
theorem eX9_init_105 : xCI mX9_init 105 mX4_init 2 108 := ⟨47, by decide +kernel, rfl, ⟨cm_X9_47.1, cm_X9_47.2.1, cm_X9_47.2.2.1, cm_X9_47.2.2.2.1, cm_X9_47.2.2.2.2⟩, xT_1 153 rfl rfl, rfl⟩
set_option maxRecDepth 20000 in
theorem eX9_init_108 : xPF mX9_init 108 9 7 (.object "NotAnOx$Pile") 111 := ⟨54, _, by decide +kernel, rfl, fl_X9_54, fun _ => ⟨rfl, ⟨_, rfl, rfl⟩, _, rfl, xT_2 174 rfl rfl⟩⟩
theorem eX9_init_111 : x_aload mX9_init 111 0 112 := Or.inl ⟨0, by decide +kernel, rfl, rfl⟩
theorem eX9_init_115 : xD mX9_init 115 (.dup) 1 116 := ⟨by decide +kernel, rfl⟩
set_option maxRecDepth 20000 in
theorem eX9_init_116 : xCI mX9_init 116 mX8_init 0 119 := ⟨59, by decide +kernel, rfl, ⟨cm_X9_59.1, cm_X9_59.2.1, cm_X9_59.2.2.1, cm_X9_59.2.2.2.1, cm_X9_59.2.2.2.2⟩, xT_1 173 rfl rfl, rfl⟩
set_option maxRecDepth 20000 in
theorem eX9_init_119 : xPF mX9_init 119 9 8 (.object "NotAnOx$Sightings") 122 := ⟨60, _, by decide +kernel, rfl, fl_X9_60, fun _ => ⟨rfl, ⟨_, rfl, rfl⟩, _, rfl, xT_2 175 rfl rfl⟩⟩
theorem eX9_init_122 : x_aload mX9_init 122 0 123 := Or.inl ⟨0, by decide +kernel, rfl, rfl⟩
theorem eX9_init_126 : xD mX9_init 126 (.dup) 1 127 := ⟨by decide +kernel, rfl⟩
theorem eX9_init_127 : x_aload mX9_init 127 0 128 := Or.inl ⟨0, by decide +kernel, rfl, rfl⟩
theorem eX9_init_128 : xGF mX9_init 128 9 3 131 := ⟨30, _, _, by decide +kernel, rfl, fl_X9_30⟩
set_option maxRecDepth 20000 in
theorem eX9_init_131 : xCI mX9_init 131 mX7_init 1 134 := ⟨66, by decide +kernel, rfl, ⟨cm_X9_66.1, cm_X9_66.2.1, cm_X9_66.2.2.1, cm_X9_66.2.2.2.1, cm_X9_66.2.2.2.2⟩, xT_1 190 rfl rfl, rfl⟩
set_option maxRecDepth 20000 in
theorem eX9_init_134 : xPF mX9_init 134 9 9 (.object "NotAnOx$Sharing") 137 := ⟨67, _, by decide +kernel, rfl, fl_X9_67, fun _ => ⟨rfl, ⟨_, rfl, rfl⟩, _, rfl, xT_2 176 rfl rfl⟩⟩
theorem eX9_init_137 : x_aload mX9_init 137 0 138 := Or.inl ⟨0, by decide +kernel, rfl, rfl⟩
theorem eX9_init_141 : xD mX9_init 141 (.dup) 1 142 := ⟨by decide +kernel, rfl⟩
theorem eX9_init_142 : x_aload mX9_init 142 0 143 := Or.inl ⟨0, by decide +kernel, rfl, rfl⟩
theorem eX9_init_143 : xGF mX9_init 143 9 3 146 := ⟨30, _, _, by decide +kernel, rfl, fl_X9_30⟩
set_option maxRecDepth 20000 in
theorem eX9_init_146 : xCI mX9_init 146 mX3_init 1 149 := ⟨73, by decide +kernel, rfl, ⟨cm_X9_73.1, cm_X9_73.2.1, cm_X9_73.2.2.1, cm_X9_73.2.2.2.1, cm_X9_73.2.2.2.2⟩, xT_1 217 rfl rfl, rfl⟩
set_option maxRecDepth 20000 in
theorem eX9_init_149 : xPF mX9_init 149 9 10 (.object "NotAnOx$Orders") 152 := ⟨74, _, by decide +kernel, rfl, fl_X9_74, fun _ => ⟨rfl, ⟨_, rfl, rfl⟩, _, rfl, xT_2 177 rfl rfl⟩⟩
theorem eX9_init_152 : x_aload mX9_init 152 0 153 := Or.inl ⟨0, by decide +kernel, rfl, rfl⟩
theorem eX9_init_156 : xD mX9_init 156 (.dup) 1 157 := ⟨by decide +kernel, rfl⟩
theorem eX9_init_157 : x_aload mX9_init 157 0 158 := Or.inl ⟨0, by decide +kernel, rfl, rfl⟩
theorem eX9_init_158 : xGF mX9_init 158 9 3 161 := ⟨30, _, _, by decide +kernel, rfl, fl_X9_30⟩
set_option maxRecDepth 20000 in
theorem eX9_init_161 : xCI mX9_init 161 mX1_init 1 164 := ⟨80, by decide +kernel, rfl, ⟨cm_X9_80.1, cm_X9_80.2.1, cm_X9_80.2.2.1, cm_X9_80.2.2.2.1, cm_X9_80.2.2.2.2⟩, xT_2 12 rfl rfl, rfl⟩
set_option maxRecDepth 20000 in
theorem eX9_init_164 : xPF mX9_init 164 9 11 (.object "NotAnOx$Chance") 167 := ⟨81, _, by decide +kernel, rfl, fl_X9_81, fun _ => ⟨rfl, ⟨_, rfl, rfl⟩, _, rfl, xT_2 178 rfl rfl⟩⟩
theorem eX9_init_167 : xK mX9_init 167 (nI 0) 168 := Or.inl (⟨0, by decide +kernel, by decide, rfl⟩)
theorem eX9_init_168 : x_istore mX9_init 168 1 169 := Or.inl ⟨1, by decide +kernel, rfl, rfl⟩
theorem eX9_init_169 : x_iload mX9_init 169 1 170 := Or.inl ⟨1, by decide +kernel, rfl, rfl⟩
theorem eX9_init_175 : xJ mX9_init 175 (.if_icmp .ge) 197 178 := ⟨(22), by decide +kernel, by decide, rfl⟩
theorem eX9_init_178 : x_aload mX9_init 178 0 179 := Or.inl ⟨0, by decide +kernel, rfl, rfl⟩
theorem eX9_init_179 : xGF mX9_init 179 9 0 182 := ⟨12, _, _, by decide +kernel, rfl, fl_X9_12⟩
theorem eX9_init_184 : x_iload mX9_init 184 1 185 := Or.inl ⟨1, by decide +kernel, rfl, rfl⟩
set_option maxRecDepth 20000 in
theorem eX9_init_188 : xCV mX9_init 188 mX6_add 1 6 191 := ⟨97, by decide +kernel, rfl, ⟨cm_X9_97.1, cm_X9_97.2.1, cm_X9_97.2.2.1, cm_X9_97.2.2.2.1, cm_X9_97.2.2.2.2⟩, xT_2 82 rfl rfl, xT_2 83 rfl rfl, _, rfl, rfl⟩
theorem eX9_init_191 : xD mX9_init 191 (.iinc 1 1) 3 194 := ⟨by decide +kernel, rfl⟩
theorem eX9_init_194 : xJ mX9_init 194 (.goto) 169 197 := ⟨(-25), by decide +kernel, by decide, rfl⟩
theorem eX9_init_197 : x_aload mX9_init 197 0 198 := Or.inl ⟨0, by decide +kernel, rfl, rfl⟩
set_option maxRecDepth 20000 in
theorem eX9_init_198 : xCV mX9_init 198 mX9_layScroll 0 9 201 := ⟨101, by decide +kernel, rfl, ⟨cm_X9_101.1, cm_X9_101.2.1, cm_X9_101.2.2.1, cm_X9_101.2.2.2.1, cm_X9_101.2.2.2.2⟩, xT_2 91 rfl rfl, xT_0 0 rfl rfl, _, rfl, rfl⟩
theorem eX9_init_201 : x_aload mX9_init 201 0 202 := Or.inl ⟨0, by decide +kernel, rfl, rfl⟩
theorem eX9_init_202 : xGF mX9_init 202 9 0 205 := ⟨12, _, _, by decide +kernel, rfl, fl_X9_12⟩
set_option maxRecDepth 20000 in
theorem eX9_init_205 : xCV mX9_init 205 mX6_clear 0 6 208 := ⟨104, by decide +kernel, rfl, ⟨cm_X9_104.1, cm_X9_104.2.1, cm_X9_104.2.2.1, cm_X9_104.2.2.2.1, cm_X9_104.2.2.2.2⟩, xT_2 164 rfl rfl, xT_2 165 rfl rfl, _, rfl, rfl⟩
theorem eX9_init_208 : xD mX9_init 208 (.return_) 1 209 := ⟨by decide +kernel, rfl⟩
theorem eX9_write_0 : x_iload mX9_write 0 1 1 := Or.inl ⟨1, by decide +kernel, rfl, rfl⟩
theorem eX9_write_1 : xK mX9_write 1 (nI 32) 3 := Or.inr (Or.inl (⟨32, by decide +kernel, by decide, rfl⟩))
theorem eX9_write_3 : xK mX9_write 3 (nI 126) 5 := Or.inr (Or.inl (⟨126, by decide +kernel, by decide, rfl⟩))
set_option maxRecDepth 20000 in
theorem eX9_write_5 : xCS mX9_write 5 mX9_isWithin 3 8 := ⟨107, by decide +kernel, rfl, ⟨cm_X9_107.1, cm_X9_107.2.1, cm_X9_107.2.2.1, cm_X9_107.2.2.2.1, cm_X9_107.2.2.2.2⟩, xT_2 126 rfl rfl⟩
theorem eX9_write_8 : xJ mX9_write 8 (.ifCond .ne) 13 11 := ⟨(5), by decide +kernel, by decide, rfl⟩
theorem eX9_write_11 : xK mX9_write 11 ((-1)) 12 := Or.inl (⟨(-1), by decide +kernel, by decide, rfl⟩)
theorem eX9_write_12 : xD mX9_write 12 (.ireturn) 1 13 := ⟨by decide +kernel, rfl⟩
theorem eX9_write_13 : x_aload mX9_write 13 0 14 := Or.inl ⟨0, by decide +kernel, rfl, rfl⟩
theorem eX9_write_14 : xGF mX9_write 14 9 0 17 := ⟨12, _, _, by decide +kernel, rfl, fl_X9_12⟩
set_option maxRecDepth 20000 in
theorem eX9_write_17 : xCV mX9_write 17 mX6_isFull 0 6 20 := ⟨111, by decide +kernel, rfl, ⟨cm_X9_111.1, cm_X9_111.2.1, cm_X9_111.2.2.1, cm_X9_111.2.2.2.1, cm_X9_111.2.2.2.2⟩, xT_2 86 rfl rfl, xT_2 87 rfl rfl, _, rfl, rfl⟩
theorem eX9_write_20 : xJ mX9_write 20 (.ifCond .eq) 26 23 := ⟨(6), by decide +kernel, by decide, rfl⟩
theorem eX9_write_23 : xK mX9_write 23 ((-3)) 25 := Or.inr (Or.inl (⟨(-3), by decide +kernel, by decide, rfl⟩))
theorem eX9_write_25 : xD mX9_write 25 (.ireturn) 1 26 := ⟨by decide +kernel, rfl⟩
theorem eX9_write_26 : x_aload mX9_write 26 0 27 := Or.inl ⟨0, by decide +kernel, rfl, rfl⟩
theorem eX9_write_27 : xGF mX9_write 27 9 0 30 := ⟨12, _, _, by decide +kernel, rfl, fl_X9_12⟩
theorem eX9_write_30 : x_iload mX9_write 30 1 31 := Or.inl ⟨1, by decide +kernel, rfl, rfl⟩
theorem eX9_write_31 : xD mX9_write 31 (.i2c) 1 32 := ⟨by decide +kernel, rfl⟩
set_option maxRecDepth 20000 in
theorem eX9_write_32 : xCV mX9_write 32 mX6_add 1 6 35 := ⟨97, by decide +kernel, rfl, ⟨cm_X9_97.1, cm_X9_97.2.1, cm_X9_97.2.2.1, cm_X9_97.2.2.2.1, cm_X9_97.2.2.2.2⟩, xT_2 82 rfl rfl, xT_2 83 rfl rfl, _, rfl, rfl⟩
theorem eX9_write_35 : x_aload mX9_write 35 0 36 := Or.inl ⟨0, by decide +kernel, rfl, rfl⟩
theorem eX9_write_36 : xGF mX9_write 36 9 0 39 := ⟨12, _, _, by decide +kernel, rfl, fl_X9_12⟩
theorem eX9_write_39 : xGF mX9_write 39 6 1 42 := ⟨115, _, _, by decide +kernel, rfl, fl_X9_115⟩
theorem eX9_write_42 : xD mX9_write 42 (.ireturn) 1 43 := ⟨by decide +kernel, rfl⟩
theorem eX9_wipe_0 : x_aload mX9_wipe 0 0 1 := Or.inl ⟨0, by decide +kernel, rfl, rfl⟩
theorem eX9_wipe_1 : xGF mX9_wipe 1 9 0 4 := ⟨12, _, _, by decide +kernel, rfl, fl_X9_12⟩
theorem eX9_wipe_4 : xGF mX9_wipe 4 6 1 7 := ⟨115, _, _, by decide +kernel, rfl, fl_X9_115⟩
theorem eX9_wipe_7 : x_istore mX9_wipe 7 1 8 := Or.inl ⟨1, by decide +kernel, rfl, rfl⟩
theorem eX9_wipe_8 : x_aload mX9_wipe 8 0 9 := Or.inl ⟨0, by decide +kernel, rfl, rfl⟩
theorem eX9_wipe_9 : xGF mX9_wipe 9 9 0 12 := ⟨12, _, _, by decide +kernel, rfl, fl_X9_12⟩
set_option maxRecDepth 20000 in
theorem eX9_wipe_12 : xCV mX9_wipe 12 mX6_clear 0 6 15 := ⟨104, by decide +kernel, rfl, ⟨cm_X9_104.1, cm_X9_104.2.1, cm_X9_104.2.2.1, cm_X9_104.2.2.2.1, cm_X9_104.2.2.2.2⟩, xT_2 164 rfl rfl, xT_2 165 rfl rfl, _, rfl, rfl⟩
theorem eX9_wipe_15 : x_iload mX9_wipe 15 1 16 := Or.inl ⟨1, by decide +kernel, rfl, rfl⟩
theorem eX9_wipe_16 : xD mX9_wipe 16 (.ireturn) 1 17 := ⟨by decide +kernel, rfl⟩
theorem eX9_fault_0 : x_aload mX9_fault 0 0 1 := Or.inl ⟨0, by decide +kernel, rfl, rfl⟩
theorem eX9_fault_1 : xGF mX9_fault 1 9 1 4 := ⟨19, _, _, by decide +kernel, rfl, fl_X9_19⟩
theorem eX9_fault_4 : x_aload mX9_fault 4 0 5 := Or.inl ⟨0, by decide +kernel, rfl, rfl⟩
theorem eX9_fault_5 : xGF mX9_fault 5 9 0 8 := ⟨12, _, _, by decide +kernel, rfl, fl_X9_12⟩
theorem eX9_fault_8 : x_aload mX9_fault 8 0 9 := Or.inl ⟨0, by decide +kernel, rfl, rfl⟩
theorem eX9_fault_9 : xGF mX9_fault 9 9 2 12 := ⟨26, _, _, by decide +kernel, rfl, fl_X9_26⟩
set_option maxRecDepth 20000 in
theorem eX9_fault_12 : xCV mX9_fault 12 mX5_readAll 2 5 15 := ⟨119, by decide +kernel, rfl, ⟨cm_X9_119.1, cm_X9_119.2.1, cm_X9_119.2.2.1, cm_X9_119.2.2.2.1, cm_X9_119.2.2.2.2⟩, xT_2 94 rfl rfl, xT_2 95 rfl rfl, _, rfl, rfl⟩
theorem eX9_fault_15 : xD mX9_fault 15 (.ireturn) 1 16 := ⟨by decide +kernel, rfl⟩
theorem eX9_lay_0 : x_aload mX9_lay 0 0 1 := Or.inl ⟨0, by decide +kernel, rfl, rfl⟩
theorem eX9_lay_1 : xGF mX9_lay 1 9 1 4 := ⟨19, _, _, by decide +kernel, rfl, fl_X9_19⟩
theorem eX9_lay_4 : x_aload mX9_lay 4 0 5 := Or.inl ⟨0, by decide +kernel, rfl, rfl⟩
theorem eX9_lay_5 : xGF mX9_lay 5 9 0 8 := ⟨12, _, _, by decide +kernel, rfl, fl_X9_12⟩
theorem eX9_lay_8 : x_aload mX9_lay 8 0 9 := Or.inl ⟨0, by decide +kernel, rfl, rfl⟩
theorem eX9_lay_9 : xGF mX9_lay 9 9 2 12 := ⟨26, _, _, by decide +kernel, rfl, fl_X9_26⟩
set_option maxRecDepth 20000 in
theorem eX9_lay_12 : xCV mX9_lay 12 mX5_readAll 2 5 15 := ⟨119, by decide +kernel, rfl, ⟨cm_X9_119.1, cm_X9_119.2.1, cm_X9_119.2.2.1, cm_X9_119.2.2.2.1, cm_X9_119.2.2.2.2⟩, xT_2 94 rfl rfl, xT_2 95 rfl rfl, _, rfl, rfl⟩
theorem eX9_lay_15 : xK mX9_lay 15 ((-4)) 17 := Or.inr (Or.inl (⟨(-4), by decide +kernel, by decide, rfl⟩))
theorem eX9_lay_17 : xJ mX9_lay 17 (.if_icmp .ne) 40 20 := ⟨(23), by decide +kernel, by decide, rfl⟩
theorem eX9_lay_20 : x_aload mX9_lay 20 0 21 := Or.inl ⟨0, by decide +kernel, rfl, rfl⟩
theorem eX9_lay_21 : xGF mX9_lay 21 9 2 24 := ⟨26, _, _, by decide +kernel, rfl, fl_X9_26⟩
theorem eX9_lay_24 : xGF mX9_lay 24 2 5 27 := ⟨123, _, _, by decide +kernel, rfl, fl_X9_123⟩
theorem eX9_lay_27 : xJ mX9_lay 27 (.ifCond .eq) 40 30 := ⟨(13), by decide +kernel, by decide, rfl⟩
theorem eX9_lay_30 : x_aload mX9_lay 30 0 31 := Or.inl ⟨0, by decide +kernel, rfl, rfl⟩
theorem eX9_lay_31 : xGF mX9_lay 31 9 2 34 := ⟨26, _, _, by decide +kernel, rfl, fl_X9_26⟩
theorem eX9_lay_34 : xGF mX9_lay 34 2 6 37 := ⟨126, _, _, by decide +kernel, rfl, fl_X9_126⟩
theorem eX9_lay_37 : xJ mX9_lay 37 (.ifCond .ne) 43 40 := ⟨(6), by decide +kernel, by decide, rfl⟩
theorem eX9_lay_40 : xK mX9_lay 40 ((-2)) 42 := Or.inr (Or.inl (⟨(-2), by decide +kernel, by decide, rfl⟩))
theorem eX9_lay_42 : xD mX9_lay 42 (.ireturn) 1 43 := ⟨by decide +kernel, rfl⟩
theorem eX9_lay_43 : x_aload mX9_lay 43 0 44 := Or.inl ⟨0, by decide +kernel, rfl, rfl⟩
set_option maxRecDepth 20000 in
theorem eX9_lay_44 : xCV mX9_lay 44 mX9_layScroll 0 9 47 := ⟨101, by decide +kernel, rfl, ⟨cm_X9_101.1, cm_X9_101.2.1, cm_X9_101.2.2.1, cm_X9_101.2.2.2.1, cm_X9_101.2.2.2.2⟩, xT_2 91 rfl rfl, xT_0 0 rfl rfl, _, rfl, rfl⟩
theorem eX9_lay_47 : x_aload mX9_lay 47 0 48 := Or.inl ⟨0, by decide +kernel, rfl, rfl⟩
theorem eX9_lay_48 : xGF mX9_lay 48 9 3 51 := ⟨30, _, _, by decide +kernel, rfl, fl_X9_30⟩
theorem eX9_lay_51 : xGF mX9_lay 51 2 5 54 := ⟨123, _, _, by decide +kernel, rfl, fl_X9_123⟩
theorem eX9_lay_54 : xD mX9_lay 54 (.ireturn) 1 55 := ⟨by decide +kernel, rfl⟩
theorem eX9_village_0 : x_aload mX9_village 0 0 1 := Or.inl ⟨0, by decide +kernel, rfl, rfl⟩
theorem eX9_village_1 : x_iload mX9_village 1 1 2 := Or.inl ⟨1, by decide +kernel, rfl, rfl⟩
set_option maxRecDepth 20000 in
theorem eX9_village_2 : xCV mX9_village 2 mX9_isVillage 1 9 5 := ⟨129, by decide +kernel, rfl, ⟨cm_X9_129.1, cm_X9_129.2.1, cm_X9_129.2.2.1, cm_X9_129.2.2.2.1, cm_X9_129.2.2.2.2⟩, xT_2 229 rfl rfl, xT_0 5 rfl rfl, _, rfl, rfl⟩
theorem eX9_village_5 : xJ mX9_village 5 (.ifCond .ne) 10 8 := ⟨(5), by decide +kernel, by decide, rfl⟩
theorem eX9_village_8 : xK mX9_village 8 ((-1)) 9 := Or.inl (⟨(-1), by decide +kernel, by decide, rfl⟩)
theorem eX9_village_9 : xD mX9_village 9 (.ireturn) 1 10 := ⟨by decide +kernel, rfl⟩
theorem eX9_village_10 : x_iload mX9_village 10 2 11 := Or.inl ⟨2, by decide +kernel, rfl, rfl⟩
def tX9_village_11 : Int → Nat := fun v => match v with | 0 => 48 | 1 => 58 | 2 => 68 | 3 => 94 | 4 => 111 | 5 => 152 | _ => 0
theorem eX9_village_11 : xTS mX9_village 11 0 5 tX9_village_11 162 := ⟨151, #[37, 47, 57, 83, 100, 141], 37, by decide +kernel, by decide, by decide +kernel⟩
theorem eX9_village_48 : x_aload mX9_village 48 0 49 := Or.inl ⟨0, by decide +kernel, rfl, rfl⟩
theorem eX9_village_49 : xGF mX9_village 49 9 3 52 := ⟨30, _, _, by decide +kernel, rfl, fl_X9_30⟩
theorem eX9_village_52 : xGF mX9_village 52 2 0 55 := ⟨133, _, _, by decide +kernel, rfl, fl_X9_133⟩
theorem eX9_village_55 : x_iload mX9_village 55 1 56 := Or.inl ⟨1, by decide +kernel, rfl, rfl⟩
theorem eX9_village_56 : xD mX9_village 56 (.iaload) 1 57 := ⟨by decide +kernel, rfl⟩
theorem eX9_village_57 : xD mX9_village 57 (.ireturn) 1 58 := ⟨by decide +kernel, rfl⟩
theorem eX9_village_58 : x_aload mX9_village 58 0 59 := Or.inl ⟨0, by decide +kernel, rfl, rfl⟩
theorem eX9_village_59 : xGF mX9_village 59 9 4 62 := ⟨38, _, _, by decide +kernel, rfl, fl_X9_38⟩
theorem eX9_village_62 : xGF mX9_village 62 0 1 65 := ⟨137, _, _, by decide +kernel, rfl, fl_X9_137⟩
theorem eX9_village_65 : x_iload mX9_village 65 1 66 := Or.inl ⟨1, by decide +kernel, rfl, rfl⟩
theorem eX9_village_66 : xD mX9_village 66 (.iaload) 1 67 := ⟨by decide +kernel, rfl⟩
theorem eX9_village_67 : xD mX9_village 67 (.ireturn) 1 68 := ⟨by decide +kernel, rfl⟩
theorem eX9_village_68 : x_aload mX9_village 68 0 69 := Or.inl ⟨0, by decide +kernel, rfl, rfl⟩
theorem eX9_village_69 : xGF mX9_village 69 9 4 72 := ⟨38, _, _, by decide +kernel, rfl, fl_X9_38⟩
theorem eX9_village_72 : x_iload mX9_village 72 1 73 := Or.inl ⟨1, by decide +kernel, rfl, rfl⟩
set_option maxRecDepth 20000 in
theorem eX9_village_73 : xCV mX9_village 73 mX0_holds 1 0 76 := ⟨140, by decide +kernel, rfl, ⟨cm_X9_140.1, cm_X9_140.2.1, cm_X9_140.2.2.1, cm_X9_140.2.2.2.1, cm_X9_140.2.2.2.2⟩, xT_2 232 rfl rfl, xT_2 233 rfl rfl, _, rfl, rfl⟩
theorem eX9_village_76 : xJ mX9_village 76 (.ifCond .eq) 91 79 := ⟨(15), by decide +kernel, by decide, rfl⟩
theorem eX9_village_79 : x_aload mX9_village 79 0 80 := Or.inl ⟨0, by decide +kernel, rfl, rfl⟩
theorem eX9_village_80 : xGF mX9_village 80 9 4 83 := ⟨38, _, _, by decide +kernel, rfl, fl_X9_38⟩
theorem eX9_village_83 : xGF mX9_village 83 0 2 86 := ⟨143, _, _, by decide +kernel, rfl, fl_X9_143⟩
theorem eX9_village_86 : x_iload mX9_village 86 1 87 := Or.inl ⟨1, by decide +kernel, rfl, rfl⟩
theorem eX9_village_87 : xD mX9_village 87 (.iaload) 1 88 := ⟨by decide +kernel, rfl⟩
theorem eX9_village_88 : xJ mX9_village 88 (.goto) 93 91 := ⟨(5), by decide +kernel, by decide, rfl⟩
theorem eX9_village_91 : xK mX9_village 91 ((-4)) 93 := Or.inr (Or.inl (⟨(-4), by decide +kernel, by decide, rfl⟩))
theorem eX9_village_93 : xD mX9_village 93 (.ireturn) 1 94 := ⟨by decide +kernel, rfl⟩
theorem eX9_village_94 : x_aload mX9_village 94 0 95 := Or.inl ⟨0, by decide +kernel, rfl, rfl⟩
theorem eX9_village_95 : xGF mX9_village 95 9 4 98 := ⟨38, _, _, by decide +kernel, rfl, fl_X9_38⟩
theorem eX9_village_98 : x_iload mX9_village 98 1 99 := Or.inl ⟨1, by decide +kernel, rfl, rfl⟩
set_option maxRecDepth 20000 in
theorem eX9_village_99 : xCV mX9_village 99 mX0_isChecked 1 0 102 := ⟨146, by decide +kernel, rfl, ⟨cm_X9_146.1, cm_X9_146.2.1, cm_X9_146.2.2.1, cm_X9_146.2.2.2.1, cm_X9_146.2.2.2.2⟩, xT_2 236 rfl rfl, xT_2 237 rfl rfl, _, rfl, rfl⟩
theorem eX9_village_102 : xJ mX9_village 102 (.ifCond .eq) 109 105 := ⟨(7), by decide +kernel, by decide, rfl⟩
theorem eX9_village_105 : xK mX9_village 105 (nI 1) 106 := Or.inl (⟨1, by decide +kernel, by decide, rfl⟩)
theorem eX9_village_106 : xJ mX9_village 106 (.goto) 110 109 := ⟨(4), by decide +kernel, by decide, rfl⟩
theorem eX9_village_109 : xK mX9_village 109 (nI 0) 110 := Or.inl (⟨0, by decide +kernel, by decide, rfl⟩)
theorem eX9_village_110 : xD mX9_village 110 (.ireturn) 1 111 := ⟨by decide +kernel, rfl⟩
theorem eX9_village_111 : x_aload mX9_village 111 0 112 := Or.inl ⟨0, by decide +kernel, rfl, rfl⟩
theorem eX9_village_112 : xGF mX9_village 112 9 4 115 := ⟨38, _, _, by decide +kernel, rfl, fl_X9_38⟩
theorem eX9_village_115 : x_iload mX9_village 115 1 116 := Or.inl ⟨1, by decide +kernel, rfl, rfl⟩
set_option maxRecDepth 20000 in
theorem eX9_village_116 : xCV mX9_village 116 mX0_holds 1 0 119 := ⟨140, by decide +kernel, rfl, ⟨cm_X9_140.1, cm_X9_140.2.1, cm_X9_140.2.2.1, cm_X9_140.2.2.2.1, cm_X9_140.2.2.2.2⟩, xT_2 232 rfl rfl, xT_2 233 rfl rfl, _, rfl, rfl⟩
theorem eX9_village_119 : xJ mX9_village 119 (.ifCond .eq) 127 122 := ⟨(8), by decide +kernel, by decide, rfl⟩
theorem eX9_village_122 : xK mX9_village 122 ((-4)) 124 := Or.inr (Or.inl (⟨(-4), by decide +kernel, by decide, rfl⟩))
theorem eX9_village_124 : xJ mX9_village 124 (.goto) 151 127 := ⟨(27), by decide +kernel, by decide, rfl⟩
theorem eX9_village_127 : x_aload mX9_village 127 0 128 := Or.inl ⟨0, by decide +kernel, rfl, rfl⟩
theorem eX9_village_128 : xGF mX9_village 128 9 4 131 := ⟨38, _, _, by decide +kernel, rfl, fl_X9_38⟩
theorem eX9_village_131 : x_iload mX9_village 131 1 132 := Or.inl ⟨1, by decide +kernel, rfl, rfl⟩
theorem eX9_village_132 : x_aload mX9_village 132 0 133 := Or.inl ⟨0, by decide +kernel, rfl, rfl⟩
theorem eX9_village_133 : xGF mX9_village 133 9 3 136 := ⟨30, _, _, by decide +kernel, rfl, fl_X9_30⟩
theorem eX9_village_136 : xGF mX9_village 136 2 0 139 := ⟨133, _, _, by decide +kernel, rfl, fl_X9_133⟩
theorem eX9_village_139 : x_iload mX9_village 139 1 140 := Or.inl ⟨1, by decide +kernel, rfl, rfl⟩
theorem eX9_village_140 : xD mX9_village 140 (.iaload) 1 141 := ⟨by decide +kernel, rfl⟩
theorem eX9_village_141 : x_aload mX9_village 141 0 142 := Or.inl ⟨0, by decide +kernel, rfl, rfl⟩
theorem eX9_village_142 : xGF mX9_village 142 9 3 145 := ⟨30, _, _, by decide +kernel, rfl, fl_X9_30⟩
theorem eX9_village_145 : xGF mX9_village 145 2 7 148 := ⟨149, _, _, by decide +kernel, rfl, fl_X9_149⟩
set_option maxRecDepth 20000 in
theorem eX9_village_148 : xCV mX9_village 148 mX0_sworn 3 0 151 := ⟨152, by decide +kernel, rfl, ⟨cm_X9_152.1, cm_X9_152.2.1, cm_X9_152.2.2.1, cm_X9_152.2.2.2.1, cm_X9_152.2.2.2.2⟩, xT_3 0 rfl rfl, xT_3 1 rfl rfl, _, rfl, rfl⟩
theorem eX9_village_151 : xD mX9_village 151 (.ireturn) 1 152 := ⟨by decide +kernel, rfl⟩
theorem eX9_village_152 : x_aload mX9_village 152 0 153 := Or.inl ⟨0, by decide +kernel, rfl, rfl⟩
theorem eX9_village_153 : xGF mX9_village 153 9 3 156 := ⟨30, _, _, by decide +kernel, rfl, fl_X9_30⟩
theorem eX9_village_156 : xGF mX9_village 156 2 3 159 := ⟨156, _, _, by decide +kernel, rfl, fl_X9_156⟩
theorem eX9_village_159 : x_iload mX9_village 159 1 160 := Or.inl ⟨1, by decide +kernel, rfl, rfl⟩
theorem eX9_village_160 : xD mX9_village 160 (.iaload) 1 161 := ⟨by decide +kernel, rfl⟩
theorem eX9_village_161 : xD mX9_village 161 (.ireturn) 1 162 := ⟨by decide +kernel, rfl⟩
theorem eX9_village_162 : xK mX9_village 162 ((-1)) 163 := Or.inl (⟨(-1), by decide +kernel, by decide, rfl⟩)
theorem eX9_village_163 : xD mX9_village 163 (.ireturn) 1 164 := ⟨by decide +kernel, rfl⟩
theorem eX9_party_0 : x_aload mX9_party 0 0 1 := Or.inl ⟨0, by decide +kernel, rfl, rfl⟩
theorem eX9_party_1 : x_iload mX9_party 1 1 2 := Or.inl ⟨1, by decide +kernel, rfl, rfl⟩
set_option maxRecDepth 20000 in
theorem eX9_party_2 : xCV mX9_party 2 mX9_isParty 1 9 5 := ⟨159, by decide +kernel, rfl, ⟨cm_X9_159.1, cm_X9_159.2.1, cm_X9_159.2.2.1, cm_X9_159.2.2.2.1, cm_X9_159.2.2.2.2⟩, xT_3 12 rfl rfl, xT_0 6 rfl rfl, _, rfl, rfl⟩
theorem eX9_party_5 : xJ mX9_party 5 (.ifCond .eq) 17 8 := ⟨(12), by decide +kernel, by decide, rfl⟩
theorem eX9_party_8 : x_iload mX9_party 8 2 9 := Or.inl ⟨2, by decide +kernel, rfl, rfl⟩
theorem eX9_party_9 : xK mX9_party 9 (nI 0) 10 := Or.inl (⟨0, by decide +kernel, by decide, rfl⟩)
theorem eX9_party_10 : xK mX9_party 10 (nI 1) 11 := Or.inl (⟨1, by decide +kernel, by decide, rfl⟩)
set_option maxRecDepth 20000 in
theorem eX9_party_11 : xCS mX9_party 11 mX9_isWithin 3 14 := ⟨107, by decide +kernel, rfl, ⟨cm_X9_107.1, cm_X9_107.2.1, cm_X9_107.2.2.1, cm_X9_107.2.2.2.1, cm_X9_107.2.2.2.2⟩, xT_2 126 rfl rfl⟩
theorem eX9_party_14 : xJ mX9_party 14 (.ifCond .ne) 19 17 := ⟨(5), by decide +kernel, by decide, rfl⟩
theorem eX9_party_17 : xK mX9_party 17 ((-1)) 18 := Or.inl (⟨(-1), by decide +kernel, by decide, rfl⟩)
theorem eX9_party_18 : xD mX9_party 18 (.ireturn) 1 19 := ⟨by decide +kernel, rfl⟩
theorem eX9_party_19 : x_iload mX9_party 19 2 20 := Or.inl ⟨2, by decide +kernel, rfl, rfl⟩
theorem eX9_party_20 : xJ mX9_party 20 (.ifCond .ne) 35 23 := ⟨(15), by decide +kernel, by decide, rfl⟩
theorem eX9_party_23 : x_aload mX9_party 23 0 24 := Or.inl ⟨0, by decide +kernel, rfl, rfl⟩
theorem eX9_party_24 : xGF mX9_party 24 9 4 27 := ⟨38, _, _, by decide +kernel, rfl, fl_X9_38⟩
theorem eX9_party_27 : xGF mX9_party 27 0 3 30 := ⟨162, _, _, by decide +kernel, rfl, fl_X9_162⟩
theorem eX9_party_30 : x_iload mX9_party 30 1 31 := Or.inl ⟨1, by decide +kernel, rfl, rfl⟩
theorem eX9_party_31 : xD mX9_party 31 (.iaload) 1 32 := ⟨by decide +kernel, rfl⟩
theorem eX9_party_32 : xJ mX9_party 32 (.goto) 44 35 := ⟨(12), by decide +kernel, by decide, rfl⟩
theorem eX9_party_35 : x_aload mX9_party 35 0 36 := Or.inl ⟨0, by decide +kernel, rfl, rfl⟩
theorem eX9_party_36 : xGF mX9_party 36 9 4 39 := ⟨38, _, _, by decide +kernel, rfl, fl_X9_38⟩
theorem eX9_party_39 : xGF mX9_party 39 0 4 42 := ⟨165, _, _, by decide +kernel, rfl, fl_X9_165⟩
theorem eX9_party_42 : x_iload mX9_party 42 1 43 := Or.inl ⟨1, by decide +kernel, rfl, rfl⟩
theorem eX9_party_43 : xD mX9_party 43 (.iaload) 1 44 := ⟨by decide +kernel, rfl⟩
theorem eX9_party_44 : xD mX9_party 44 (.ireturn) 1 45 := ⟨by decide +kernel, rfl⟩
theorem eX9_far_0 : x_aload mX9_far 0 0 1 := Or.inl ⟨0, by decide +kernel, rfl, rfl⟩
theorem eX9_far_1 : x_iload mX9_far 1 1 2 := Or.inl ⟨1, by decide +kernel, rfl, rfl⟩
set_option maxRecDepth 20000 in
theorem eX9_far_2 : xCV mX9_far 2 mX9_isVillage 1 9 5 := ⟨129, by decide +kernel, rfl, ⟨cm_X9_129.1, cm_X9_129.2.1, cm_X9_129.2.2.1, cm_X9_129.2.2.2.1, cm_X9_129.2.2.2.2⟩, xT_2 229 rfl rfl, xT_0 5 rfl rfl, _, rfl, rfl⟩
theorem eX9_far_5 : xJ mX9_far 5 (.ifCond .eq) 16 8 := ⟨(11), by decide +kernel, by decide, rfl⟩
theorem eX9_far_8 : x_aload mX9_far 8 0 9 := Or.inl ⟨0, by decide +kernel, rfl, rfl⟩
theorem eX9_far_9 : x_iload mX9_far 9 2 10 := Or.inl ⟨2, by decide +kernel, rfl, rfl⟩
set_option maxRecDepth 20000 in
theorem eX9_far_10 : xCV mX9_far 10 mX9_isVillage 1 9 13 := ⟨129, by decide +kernel, rfl, ⟨cm_X9_129.1, cm_X9_129.2.1, cm_X9_129.2.2.1, cm_X9_129.2.2.2.1, cm_X9_129.2.2.2.2⟩, xT_2 229 rfl rfl, xT_0 5 rfl rfl, _, rfl, rfl⟩
theorem eX9_far_13 : xJ mX9_far 13 (.ifCond .ne) 18 16 := ⟨(5), by decide +kernel, by decide, rfl⟩
theorem eX9_far_16 : xK mX9_far 16 ((-1)) 17 := Or.inl (⟨(-1), by decide +kernel, by decide, rfl⟩)
theorem eX9_far_17 : xD mX9_far 17 (.ireturn) 1 18 := ⟨by decide +kernel, rfl⟩
theorem eX9_far_18 : x_aload mX9_far 18 0 19 := Or.inl ⟨0, by decide +kernel, rfl, rfl⟩
theorem eX9_far_19 : xGF mX9_far 19 9 3 22 := ⟨30, _, _, by decide +kernel, rfl, fl_X9_30⟩
theorem eX9_far_22 : xGF mX9_far 22 2 4 25 := ⟨168, _, _, by decide +kernel, rfl, fl_X9_168⟩
theorem eX9_far_25 : x_iload mX9_far 25 1 26 := Or.inl ⟨1, by decide +kernel, rfl, rfl⟩
theorem eX9_far_26 : xD mX9_far 26 (.aaload) 1 27 := ⟨by decide +kernel, rfl⟩
theorem eX9_far_27 : x_iload mX9_far 27 2 28 := Or.inl ⟨2, by decide +kernel, rfl, rfl⟩
theorem eX9_far_28 : xD mX9_far 28 (.iaload) 1 29 := ⟨by decide +kernel, rfl⟩
set_option maxRecDepth 20000 in
theorem eX9_far_29 : xK mX9_far 29 (nI 1000000) 31 := Or.inr (Or.inr (Or.inr (Or.inl (⟨172, by decide +kernel, xT_3 18 rfl rfl, rfl⟩))))
theorem eX9_far_31 : xJ mX9_far 31 (.if_icmp .ge) 48 34 := ⟨(17), by decide +kernel, by decide, rfl⟩
theorem eX9_far_34 : x_aload mX9_far 34 0 35 := Or.inl ⟨0, by decide +kernel, rfl, rfl⟩
theorem eX9_far_35 : xGF mX9_far 35 9 3 38 := ⟨30, _, _, by decide +kernel, rfl, fl_X9_30⟩
theorem eX9_far_38 : xGF mX9_far 38 2 4 41 := ⟨168, _, _, by decide +kernel, rfl, fl_X9_168⟩
theorem eX9_far_41 : x_iload mX9_far 41 1 42 := Or.inl ⟨1, by decide +kernel, rfl, rfl⟩
theorem eX9_far_42 : xD mX9_far 42 (.aaload) 1 43 := ⟨by decide +kernel, rfl⟩
theorem eX9_far_43 : x_iload mX9_far 43 2 44 := Or.inl ⟨2, by decide +kernel, rfl, rfl⟩
theorem eX9_far_44 : xD mX9_far 44 (.iaload) 1 45 := ⟨by decide +kernel, rfl⟩
theorem eX9_far_45 : xJ mX9_far 45 (.goto) 50 48 := ⟨(5), by decide +kernel, by decide, rfl⟩
theorem eX9_far_48 : xK mX9_far 48 ((-4)) 50 := Or.inr (Or.inl (⟨(-4), by decide +kernel, by decide, rfl⟩))
theorem eX9_far_50 : xD mX9_far 50 (.ireturn) 1 51 := ⟨by decide +kernel, rfl⟩
theorem eX9_ask_0 : x_aload mX9_ask 0 0 1 := Or.inl ⟨0, by decide +kernel, rfl, rfl⟩
theorem eX9_ask_1 : x_iload mX9_ask 1 1 2 := Or.inl ⟨1, by decide +kernel, rfl, rfl⟩
set_option maxRecDepth 20000 in
theorem eX9_ask_2 : xCV mX9_ask 2 mX9_isParty 1 9 5 := ⟨159, by decide +kernel, rfl, ⟨cm_X9_159.1, cm_X9_159.2.1, cm_X9_159.2.2.1, cm_X9_159.2.2.2.1, cm_X9_159.2.2.2.2⟩, xT_3 12 rfl rfl, xT_0 6 rfl rfl, _, rfl, rfl⟩
theorem eX9_ask_5 : xJ mX9_ask 5 (.ifCond .eq) 16 8 := ⟨(11), by decide +kernel, by decide, rfl⟩
theorem eX9_ask_8 : x_aload mX9_ask 8 0 9 := Or.inl ⟨0, by decide +kernel, rfl, rfl⟩
theorem eX9_ask_9 : x_iload mX9_ask 9 2 10 := Or.inl ⟨2, by decide +kernel, rfl, rfl⟩
set_option maxRecDepth 20000 in
theorem eX9_ask_10 : xCV mX9_ask 10 mX9_isVillage 1 9 13 := ⟨129, by decide +kernel, rfl, ⟨cm_X9_129.1, cm_X9_129.2.1, cm_X9_129.2.2.1, cm_X9_129.2.2.2.1, cm_X9_129.2.2.2.2⟩, xT_2 229 rfl rfl, xT_0 5 rfl rfl, _, rfl, rfl⟩
theorem eX9_ask_13 : xJ mX9_ask 13 (.ifCond .ne) 18 16 := ⟨(5), by decide +kernel, by decide, rfl⟩
theorem eX9_ask_16 : xK mX9_ask 16 ((-1)) 17 := Or.inl (⟨(-1), by decide +kernel, by decide, rfl⟩)
theorem eX9_ask_17 : xD mX9_ask 17 (.ireturn) 1 18 := ⟨by decide +kernel, rfl⟩
theorem eX9_ask_18 : x_aload mX9_ask 18 0 19 := Or.inl ⟨0, by decide +kernel, rfl, rfl⟩
theorem eX9_ask_19 : xGF mX9_ask 19 9 4 22 := ⟨38, _, _, by decide +kernel, rfl, fl_X9_38⟩
theorem eX9_ask_22 : x_iload mX9_ask 22 1 23 := Or.inl ⟨1, by decide +kernel, rfl, rfl⟩
theorem eX9_ask_23 : x_iload mX9_ask 23 2 24 := Or.inl ⟨2, by decide +kernel, rfl, rfl⟩
set_option maxRecDepth 20000 in
theorem eX9_ask_24 : xCV mX9_ask 24 mX0_canBeAsked 2 0 27 := ⟨173, by decide +kernel, rfl, ⟨cm_X9_173.1, cm_X9_173.2.1, cm_X9_173.2.2.1, cm_X9_173.2.2.2.1, cm_X9_173.2.2.2.2⟩, xT_3 24 rfl rfl, xT_3 25 rfl rfl, _, rfl, rfl⟩
theorem eX9_ask_27 : xJ mX9_ask 27 (.ifCond .ne) 33 30 := ⟨(6), by decide +kernel, by decide, rfl⟩
theorem eX9_ask_30 : xK mX9_ask 30 ((-2)) 32 := Or.inr (Or.inl (⟨(-2), by decide +kernel, by decide, rfl⟩))
theorem eX9_ask_32 : xD mX9_ask 32 (.ireturn) 1 33 := ⟨by decide +kernel, rfl⟩
theorem eX9_ask_33 : x_aload mX9_ask 33 0 34 := Or.inl ⟨0, by decide +kernel, rfl, rfl⟩
theorem eX9_ask_34 : xGF mX9_ask 34 9 6 37 := ⟨50, _, _, by decide +kernel, rfl, fl_X9_50⟩
theorem eX9_ask_37 : x_aload mX9_ask 37 0 38 := Or.inl ⟨0, by decide +kernel, rfl, rfl⟩
theorem eX9_ask_38 : xGF mX9_ask 38 9 4 41 := ⟨38, _, _, by decide +kernel, rfl, fl_X9_38⟩
set_option maxRecDepth 20000 in
theorem eX9_ask_41 : xCV mX9_ask 41 mX4_push 1 4 44 := ⟨177, by decide +kernel, rfl, ⟨cm_X9_177.1, cm_X9_177.2.1, cm_X9_177.2.2.1, cm_X9_177.2.2.2.1, cm_X9_177.2.2.2.2⟩, xT_3 30 rfl rfl, xT_3 31 rfl rfl, _, rfl, rfl⟩
theorem eX9_ask_44 : x_aload mX9_ask 44 0 45 := Or.inl ⟨0, by decide +kernel, rfl, rfl⟩
theorem eX9_ask_45 : xGF mX9_ask 45 9 4 48 := ⟨38, _, _, by decide +kernel, rfl, fl_X9_38⟩
theorem eX9_ask_48 : x_iload mX9_ask 48 1 49 := Or.inl ⟨1, by decide +kernel, rfl, rfl⟩
theorem eX9_ask_49 : x_iload mX9_ask 49 2 50 := Or.inl ⟨2, by decide +kernel, rfl, rfl⟩
set_option maxRecDepth 20000 in
theorem eX9_ask_50 : xCV mX9_ask 50 mX0_askBy 2 0 53 := ⟨181, by decide +kernel, rfl, ⟨cm_X9_181.1, cm_X9_181.2.1, cm_X9_181.2.2.1, cm_X9_181.2.2.2.1, cm_X9_181.2.2.2.2⟩, xT_3 50 rfl rfl, xT_3 51 rfl rfl, _, rfl, rfl⟩
theorem eX9_ask_53 : xD mX9_ask 53 (.ireturn) 1 54 := ⟨by decide +kernel, rfl⟩
theorem eX9_check_0 : x_aload mX9_check 0 0 1 := Or.inl ⟨0, by decide +kernel, rfl, rfl⟩
theorem eX9_check_1 : x_iload mX9_check 1 1 2 := Or.inl ⟨1, by decide +kernel, rfl, rfl⟩
set_option maxRecDepth 20000 in
theorem eX9_check_2 : xCV mX9_check 2 mX9_isVillage 1 9 5 := ⟨129, by decide +kernel, rfl, ⟨cm_X9_129.1, cm_X9_129.2.1, cm_X9_129.2.2.1, cm_X9_129.2.2.2.1, cm_X9_129.2.2.2.2⟩, xT_2 229 rfl rfl, xT_0 5 rfl rfl, _, rfl, rfl⟩
theorem eX9_check_5 : xJ mX9_check 5 (.ifCond .ne) 10 8 := ⟨(5), by decide +kernel, by decide, rfl⟩
theorem eX9_check_8 : xK mX9_check 8 ((-1)) 9 := Or.inl (⟨(-1), by decide +kernel, by decide, rfl⟩)
theorem eX9_check_9 : xD mX9_check 9 (.ireturn) 1 10 := ⟨by decide +kernel, rfl⟩
theorem eX9_check_10 : x_aload mX9_check 10 0 11 := Or.inl ⟨0, by decide +kernel, rfl, rfl⟩
theorem eX9_check_11 : xGF mX9_check 11 9 4 14 := ⟨38, _, _, by decide +kernel, rfl, fl_X9_38⟩
theorem eX9_check_14 : x_iload mX9_check 14 1 15 := Or.inl ⟨1, by decide +kernel, rfl, rfl⟩
set_option maxRecDepth 20000 in
theorem eX9_check_15 : xCV mX9_check 15 mX0_canBeChecked 1 0 18 := ⟨185, by decide +kernel, rfl, ⟨cm_X9_185.1, cm_X9_185.2.1, cm_X9_185.2.2.1, cm_X9_185.2.2.2.1, cm_X9_185.2.2.2.2⟩, xT_3 63 rfl rfl, xT_3 64 rfl rfl, _, rfl, rfl⟩
theorem eX9_check_18 : xJ mX9_check 18 (.ifCond .ne) 24 21 := ⟨(6), by decide +kernel, by decide, rfl⟩
theorem eX9_check_21 : xK mX9_check 21 ((-2)) 23 := Or.inr (Or.inl (⟨(-2), by decide +kernel, by decide, rfl⟩))
theorem eX9_check_23 : xD mX9_check 23 (.ireturn) 1 24 := ⟨by decide +kernel, rfl⟩
theorem eX9_check_24 : x_aload mX9_check 24 0 25 := Or.inl ⟨0, by decide +kernel, rfl, rfl⟩
theorem eX9_check_25 : xGF mX9_check 25 9 6 28 := ⟨50, _, _, by decide +kernel, rfl, fl_X9_50⟩
theorem eX9_check_28 : x_aload mX9_check 28 0 29 := Or.inl ⟨0, by decide +kernel, rfl, rfl⟩
theorem eX9_check_29 : xGF mX9_check 29 9 4 32 := ⟨38, _, _, by decide +kernel, rfl, fl_X9_38⟩
set_option maxRecDepth 20000 in
theorem eX9_check_32 : xCV mX9_check 32 mX4_push 1 4 35 := ⟨177, by decide +kernel, rfl, ⟨cm_X9_177.1, cm_X9_177.2.1, cm_X9_177.2.2.1, cm_X9_177.2.2.2.1, cm_X9_177.2.2.2.2⟩, xT_3 30 rfl rfl, xT_3 31 rfl rfl, _, rfl, rfl⟩
theorem eX9_check_35 : x_aload mX9_check 35 0 36 := Or.inl ⟨0, by decide +kernel, rfl, rfl⟩
theorem eX9_check_36 : xGF mX9_check 36 9 4 39 := ⟨38, _, _, by decide +kernel, rfl, fl_X9_38⟩
theorem eX9_check_39 : x_iload mX9_check 39 1 40 := Or.inl ⟨1, by decide +kernel, rfl, rfl⟩
set_option maxRecDepth 20000 in
theorem eX9_check_40 : xCV mX9_check 40 mX0_writeOxen 1 0 43 := ⟨188, by decide +kernel, rfl, ⟨cm_X9_188.1, cm_X9_188.2.1, cm_X9_188.2.2.1, cm_X9_188.2.2.2.1, cm_X9_188.2.2.2.2⟩, xT_3 68 rfl rfl, xT_3 69 rfl rfl, _, rfl, rfl⟩
theorem eX9_check_43 : xK mX9_check 43 (nI 500) 46 := Or.inr (Or.inr (Or.inl (⟨500, by decide +kernel, by decide, rfl⟩)))
theorem eX9_check_46 : xD mX9_check 46 (.iadd) 1 47 := ⟨by decide +kernel, rfl⟩
theorem eX9_check_47 : xD mX9_check 47 (.ireturn) 1 48 := ⟨by decide +kernel, rfl⟩
theorem eX9_strike_0 : x_aload mX9_strike 0 0 1 := Or.inl ⟨0, by decide +kernel, rfl, rfl⟩
theorem eX9_strike_1 : x_iload mX9_strike 1 1 2 := Or.inl ⟨1, by decide +kernel, rfl, rfl⟩
set_option maxRecDepth 20000 in
theorem eX9_strike_2 : xCV mX9_strike 2 mX9_isVillage 1 9 5 := ⟨129, by decide +kernel, rfl, ⟨cm_X9_129.1, cm_X9_129.2.1, cm_X9_129.2.2.1, cm_X9_129.2.2.2.1, cm_X9_129.2.2.2.2⟩, xT_2 229 rfl rfl, xT_0 5 rfl rfl, _, rfl, rfl⟩
theorem eX9_strike_5 : xJ mX9_strike 5 (.ifCond .ne) 10 8 := ⟨(5), by decide +kernel, by decide, rfl⟩
theorem eX9_strike_8 : xK mX9_strike 8 ((-1)) 9 := Or.inl (⟨(-1), by decide +kernel, by decide, rfl⟩)
theorem eX9_strike_9 : xD mX9_strike 9 (.ireturn) 1 10 := ⟨by decide +kernel, rfl⟩
theorem eX9_strike_10 : x_aload mX9_strike 10 0 11 := Or.inl ⟨0, by decide +kernel, rfl, rfl⟩
theorem eX9_strike_11 : xGF mX9_strike 11 9 4 14 := ⟨38, _, _, by decide +kernel, rfl, fl_X9_38⟩
theorem eX9_strike_14 : x_iload mX9_strike 14 1 15 := Or.inl ⟨1, by decide +kernel, rfl, rfl⟩
set_option maxRecDepth 20000 in
theorem eX9_strike_15 : xCV mX9_strike 15 mX0_holds 1 0 18 := ⟨140, by decide +kernel, rfl, ⟨cm_X9_140.1, cm_X9_140.2.1, cm_X9_140.2.2.1, cm_X9_140.2.2.2.1, cm_X9_140.2.2.2.2⟩, xT_2 232 rfl rfl, xT_2 233 rfl rfl, _, rfl, rfl⟩
theorem eX9_strike_18 : xJ mX9_strike 18 (.ifCond .ne) 24 21 := ⟨(6), by decide +kernel, by decide, rfl⟩
theorem eX9_strike_21 : xK mX9_strike 21 ((-2)) 23 := Or.inr (Or.inl (⟨(-2), by decide +kernel, by decide, rfl⟩))
theorem eX9_strike_23 : xD mX9_strike 23 (.ireturn) 1 24 := ⟨by decide +kernel, rfl⟩
theorem eX9_strike_24 : x_aload mX9_strike 24 0 25 := Or.inl ⟨0, by decide +kernel, rfl, rfl⟩
theorem eX9_strike_25 : xGF mX9_strike 25 9 6 28 := ⟨50, _, _, by decide +kernel, rfl, fl_X9_50⟩
theorem eX9_strike_28 : x_aload mX9_strike 28 0 29 := Or.inl ⟨0, by decide +kernel, rfl, rfl⟩
theorem eX9_strike_29 : xGF mX9_strike 29 9 4 32 := ⟨38, _, _, by decide +kernel, rfl, fl_X9_38⟩
set_option maxRecDepth 20000 in
theorem eX9_strike_32 : xCV mX9_strike 32 mX4_push 1 4 35 := ⟨177, by decide +kernel, rfl, ⟨cm_X9_177.1, cm_X9_177.2.1, cm_X9_177.2.2.1, cm_X9_177.2.2.2.1, cm_X9_177.2.2.2.2⟩, xT_3 30 rfl rfl, xT_3 31 rfl rfl, _, rfl, rfl⟩
theorem eX9_strike_35 : x_aload mX9_strike 35 0 36 := Or.inl ⟨0, by decide +kernel, rfl, rfl⟩
theorem eX9_strike_36 : xGF mX9_strike 36 9 4 39 := ⟨38, _, _, by decide +kernel, rfl, fl_X9_38⟩
theorem eX9_strike_39 : x_iload mX9_strike 39 1 40 := Or.inl ⟨1, by decide +kernel, rfl, rfl⟩
set_option maxRecDepth 20000 in
theorem eX9_strike_40 : xCV mX9_strike 40 mX0_strikeOut 1 0 43 := ⟨192, by decide +kernel, rfl, ⟨cm_X9_192.1, cm_X9_192.2.1, cm_X9_192.2.2.1, cm_X9_192.2.2.2.1, cm_X9_192.2.2.2.2⟩, xT_3 76 rfl rfl, xT_3 77 rfl rfl, _, rfl, rfl⟩
theorem eX9_strike_43 : xD mX9_strike 43 (.ireturn) 1 44 := ⟨by decide +kernel, rfl⟩
theorem eX9_undo_0 : x_aload mX9_undo 0 0 1 := Or.inl ⟨0, by decide +kernel, rfl, rfl⟩
theorem eX9_undo_1 : xGF mX9_undo 1 9 6 4 := ⟨50, _, _, by decide +kernel, rfl, fl_X9_50⟩
theorem eX9_undo_4 : xGF mX9_undo 4 4 2 7 := ⟨195, _, _, by decide +kernel, rfl, fl_X9_195⟩
theorem eX9_undo_7 : xJ mX9_undo 7 (.ifCond .ne) 13 10 := ⟨(6), by decide +kernel, by decide, rfl⟩
theorem eX9_undo_10 : xK mX9_undo 10 ((-2)) 12 := Or.inr (Or.inl (⟨(-2), by decide +kernel, by decide, rfl⟩))
theorem eX9_undo_12 : xD mX9_undo 12 (.ireturn) 1 13 := ⟨by decide +kernel, rfl⟩
theorem eX9_undo_13 : x_aload mX9_undo 13 0 14 := Or.inl ⟨0, by decide +kernel, rfl, rfl⟩
theorem eX9_undo_14 : xGF mX9_undo 14 9 6 17 := ⟨50, _, _, by decide +kernel, rfl, fl_X9_50⟩
theorem eX9_undo_17 : x_aload mX9_undo 17 0 18 := Or.inl ⟨0, by decide +kernel, rfl, rfl⟩
theorem eX9_undo_18 : xGF mX9_undo 18 9 4 21 := ⟨38, _, _, by decide +kernel, rfl, fl_X9_38⟩
set_option maxRecDepth 20000 in
theorem eX9_undo_21 : xCV mX9_undo 21 mX4_popInto 1 4 24 := ⟨196, by decide +kernel, rfl, ⟨cm_X9_196.1, cm_X9_196.2.1, cm_X9_196.2.2.1, cm_X9_196.2.2.2.1, cm_X9_196.2.2.2.2⟩, xT_3 84 rfl rfl, xT_3 85 rfl rfl, _, rfl, rfl⟩
theorem eX9_undo_24 : x_aload mX9_undo 24 0 25 := Or.inl ⟨0, by decide +kernel, rfl, rfl⟩
theorem eX9_undo_25 : xGF mX9_undo 25 9 6 28 := ⟨50, _, _, by decide +kernel, rfl, fl_X9_50⟩
theorem eX9_undo_28 : xGF mX9_undo 28 4 2 31 := ⟨195, _, _, by decide +kernel, rfl, fl_X9_195⟩
theorem eX9_undo_31 : xD mX9_undo 31 (.ireturn) 1 32 := ⟨by decide +kernel, rfl⟩
theorem eX9_soonest_0 : x_iload mX9_soonest 0 1 1 := Or.inl ⟨1, by decide +kernel, rfl, rfl⟩
theorem eX9_soonest_1 : xK mX9_soonest 1 ((-1)) 2 := Or.inl (⟨(-1), by decide +kernel, by decide, rfl⟩)
theorem eX9_soonest_2 : xJ mX9_soonest 2 (.if_icmp .eq) 15 5 := ⟨(13), by decide +kernel, by decide, rfl⟩
theorem eX9_soonest_5 : x_aload mX9_soonest 5 0 6 := Or.inl ⟨0, by decide +kernel, rfl, rfl⟩
theorem eX9_soonest_6 : x_iload mX9_soonest 6 1 7 := Or.inl ⟨1, by decide +kernel, rfl, rfl⟩
set_option maxRecDepth 20000 in
theorem eX9_soonest_7 : xCV mX9_soonest 7 mX9_isVillage 1 9 10 := ⟨129, by decide +kernel, rfl, ⟨cm_X9_129.1, cm_X9_129.2.1, cm_X9_129.2.2.1, cm_X9_129.2.2.2.1, cm_X9_129.2.2.2.2⟩, xT_2 229 rfl rfl, xT_0 5 rfl rfl, _, rfl, rfl⟩
theorem eX9_soonest_10 : xJ mX9_soonest 10 (.ifCond .ne) 15 13 := ⟨(5), by decide +kernel, by decide, rfl⟩
theorem eX9_soonest_13 : xK mX9_soonest 13 ((-1)) 14 := Or.inl (⟨(-1), by decide +kernel, by decide, rfl⟩)
theorem eX9_soonest_14 : xD mX9_soonest 14 (.ireturn) 1 15 := ⟨by decide +kernel, rfl⟩
theorem eX9_soonest_15 : x_iload mX9_soonest 15 1 16 := Or.inl ⟨1, by decide +kernel, rfl, rfl⟩
theorem eX9_soonest_16 : xK mX9_soonest 16 ((-1)) 17 := Or.inl (⟨(-1), by decide +kernel, by decide, rfl⟩)
theorem eX9_soonest_17 : xJ mX9_soonest 17 (.if_icmp .eq) 34 20 := ⟨(17), by decide +kernel, by decide, rfl⟩
theorem eX9_soonest_20 : x_aload mX9_soonest 20 0 21 := Or.inl ⟨0, by decide +kernel, rfl, rfl⟩
theorem eX9_soonest_21 : xGF mX9_soonest 21 9 4 24 := ⟨38, _, _, by decide +kernel, rfl, fl_X9_38⟩
theorem eX9_soonest_24 : x_iload mX9_soonest 24 1 25 := Or.inl ⟨1, by decide +kernel, rfl, rfl⟩
set_option maxRecDepth 20000 in
theorem eX9_soonest_25 : xCV mX9_soonest 25 mX0_holds 1 0 28 := ⟨140, by decide +kernel, rfl, ⟨cm_X9_140.1, cm_X9_140.2.1, cm_X9_140.2.2.1, cm_X9_140.2.2.2.1, cm_X9_140.2.2.2.2⟩, xT_2 232 rfl rfl, xT_2 233 rfl rfl, _, rfl, rfl⟩
theorem eX9_soonest_28 : xJ mX9_soonest 28 (.ifCond .eq) 34 31 := ⟨(6), by decide +kernel, by decide, rfl⟩
theorem eX9_soonest_31 : xK mX9_soonest 31 ((-4)) 33 := Or.inr (Or.inl (⟨(-4), by decide +kernel, by decide, rfl⟩))
theorem eX9_soonest_33 : xD mX9_soonest 33 (.ireturn) 1 34 := ⟨by decide +kernel, rfl⟩
theorem eX9_soonest_34 : x_aload mX9_soonest 34 0 35 := Or.inl ⟨0, by decide +kernel, rfl, rfl⟩
theorem eX9_soonest_35 : xGF mX9_soonest 35 9 9 38 := ⟨67, _, _, by decide +kernel, rfl, fl_X9_67⟩
theorem eX9_soonest_38 : x_aload mX9_soonest 38 0 39 := Or.inl ⟨0, by decide +kernel, rfl, rfl⟩
theorem eX9_soonest_39 : xGF mX9_soonest 39 9 4 42 := ⟨38, _, _, by decide +kernel, rfl, fl_X9_38⟩
set_option maxRecDepth 20000 in
theorem eX9_soonest_42 : xCV mX9_soonest 42 mX7_seek 1 7 45 := ⟨199, by decide +kernel, rfl, ⟨cm_X9_199.1, cm_X9_199.2.1, cm_X9_199.2.2.1, cm_X9_199.2.2.2.1, cm_X9_199.2.2.2.2⟩, xT_3 92 rfl rfl, xT_3 93 rfl rfl, _, rfl, rfl⟩
theorem eX9_soonest_45 : x_iload mX9_soonest 45 1 46 := Or.inl ⟨1, by decide +kernel, rfl, rfl⟩
theorem eX9_soonest_46 : xK mX9_soonest 46 ((-1)) 47 := Or.inl (⟨(-1), by decide +kernel, by decide, rfl⟩)
theorem eX9_soonest_47 : xJ mX9_soonest 47 (.if_icmp .ne) 60 50 := ⟨(13), by decide +kernel, by decide, rfl⟩
theorem eX9_soonest_50 : x_aload mX9_soonest 50 0 51 := Or.inl ⟨0, by decide +kernel, rfl, rfl⟩
theorem eX9_soonest_51 : xGF mX9_soonest 51 9 9 54 := ⟨67, _, _, by decide +kernel, rfl, fl_X9_67⟩
theorem eX9_soonest_54 : xGF mX9_soonest 54 7 5 57 := ⟨202, _, _, by decide +kernel, rfl, fl_X9_202⟩
theorem eX9_soonest_57 : xJ mX9_soonest 57 (.goto) 68 60 := ⟨(11), by decide +kernel, by decide, rfl⟩
theorem eX9_soonest_60 : x_aload mX9_soonest 60 0 61 := Or.inl ⟨0, by decide +kernel, rfl, rfl⟩
theorem eX9_soonest_61 : xGF mX9_soonest 61 9 9 64 := ⟨67, _, _, by decide +kernel, rfl, fl_X9_67⟩
theorem eX9_soonest_64 : x_iload mX9_soonest 64 1 65 := Or.inl ⟨1, by decide +kernel, rfl, rfl⟩
set_option maxRecDepth 20000 in
theorem eX9_soonest_65 : xCV mX9_soonest 65 mX7_whoAsks 1 7 68 := ⟨205, by decide +kernel, rfl, ⟨cm_X9_205.1, cm_X9_205.2.1, cm_X9_205.2.2.1, cm_X9_205.2.2.2.1, cm_X9_205.2.2.2.2⟩, xT_3 134 rfl rfl, xT_3 135 rfl rfl, _, rfl, rfl⟩
theorem eX9_soonest_68 : xD mX9_soonest 68 (.ireturn) 1 69 := ⟨by decide +kernel, rfl⟩
theorem eX9_most_0 : x_aload mX9_most 0 0 1 := Or.inl ⟨0, by decide +kernel, rfl, rfl⟩
theorem eX9_most_1 : x_iload mX9_most 1 1 2 := Or.inl ⟨1, by decide +kernel, rfl, rfl⟩
theorem eX9_most_2 : xK mX9_most 2 (nI 1) 3 := Or.inl (⟨1, by decide +kernel, by decide, rfl⟩)
set_option maxRecDepth 20000 in
theorem eX9_most_3 : xCV mX9_most 3 mX9_bestOrder 2 9 6 := ⟨208, by decide +kernel, rfl, ⟨cm_X9_208.1, cm_X9_208.2.1, cm_X9_208.2.2.1, cm_X9_208.2.2.2.1, cm_X9_208.2.2.2.2⟩, xT_3 143 rfl rfl, xT_0 12 rfl rfl, _, rfl, rfl⟩
theorem eX9_most_6 : xD mX9_most 6 (.ireturn) 1 7 := ⟨by decide +kernel, rfl⟩
theorem eX9_least_0 : x_aload mX9_least 0 0 1 := Or.inl ⟨0, by decide +kernel, rfl, rfl⟩
theorem eX9_least_1 : x_iload mX9_least 1 1 2 := Or.inl ⟨1, by decide +kernel, rfl, rfl⟩
theorem eX9_least_2 : xK mX9_least 2 (nI 0) 3 := Or.inl (⟨0, by decide +kernel, by decide, rfl⟩)
set_option maxRecDepth 20000 in
theorem eX9_least_3 : xCV mX9_least 3 mX9_bestOrder 2 9 6 := ⟨208, by decide +kernel, rfl, ⟨cm_X9_208.1, cm_X9_208.2.1, cm_X9_208.2.2.1, cm_X9_208.2.2.2.1, cm_X9_208.2.2.2.2⟩, xT_3 143 rfl rfl, xT_0 12 rfl rfl, _, rfl, rfl⟩
theorem eX9_least_6 : xD mX9_least 6 (.ireturn) 1 7 := ⟨by decide +kernel, rfl⟩
theorem eX9_checks_0 : x_iload mX9_checks 0 1 1 := Or.inl ⟨1, by decide +kernel, rfl, rfl⟩
theorem eX9_checks_1 : xK mX9_checks 1 (nI 1) 2 := Or.inl (⟨1, by decide +kernel, by decide, rfl⟩)
theorem eX9_checks_2 : xK mX9_checks 2 (nI 3) 3 := Or.inl (⟨3, by decide +kernel, by decide, rfl⟩)
set_option maxRecDepth 20000 in
theorem eX9_checks_3 : xCS mX9_checks 3 mX9_isWithin 3 6 := ⟨107, by decide +kernel, rfl, ⟨cm_X9_107.1, cm_X9_107.2.1, cm_X9_107.2.2.1, cm_X9_107.2.2.2.1, cm_X9_107.2.2.2.2⟩, xT_2 126 rfl rfl⟩
theorem eX9_checks_6 : xJ mX9_checks 6 (.ifCond .eq) 18 9 := ⟨(12), by decide +kernel, by decide, rfl⟩
theorem eX9_checks_9 : x_iload mX9_checks 9 2 10 := Or.inl ⟨2, by decide +kernel, rfl, rfl⟩
theorem eX9_checks_10 : xK mX9_checks 10 (nI 0) 11 := Or.inl (⟨0, by decide +kernel, by decide, rfl⟩)
theorem eX9_checks_11 : xK mX9_checks 11 (nI 1) 12 := Or.inl (⟨1, by decide +kernel, by decide, rfl⟩)
set_option maxRecDepth 20000 in
theorem eX9_checks_12 : xCS mX9_checks 12 mX9_isWithin 3 15 := ⟨107, by decide +kernel, rfl, ⟨cm_X9_107.1, cm_X9_107.2.1, cm_X9_107.2.2.1, cm_X9_107.2.2.2.1, cm_X9_107.2.2.2.2⟩, xT_2 126 rfl rfl⟩
theorem eX9_checks_15 : xJ mX9_checks 15 (.ifCond .ne) 20 18 := ⟨(5), by decide +kernel, by decide, rfl⟩
theorem eX9_checks_18 : xK mX9_checks 18 ((-1)) 19 := Or.inl (⟨(-1), by decide +kernel, by decide, rfl⟩)
theorem eX9_checks_19 : xD mX9_checks 19 (.ireturn) 1 20 := ⟨by decide +kernel, rfl⟩
theorem eX9_checks_20 : x_aload mX9_checks 20 0 21 := Or.inl ⟨0, by decide +kernel, rfl, rfl⟩
theorem eX9_checks_21 : x_iload mX9_checks 21 1 22 := Or.inl ⟨1, by decide +kernel, rfl, rfl⟩
set_option maxRecDepth 20000 in
theorem eX9_checks_22 : xCV mX9_checks 22 mX9_bestChecks 1 9 25 := ⟨212, by decide +kernel, rfl, ⟨cm_X9_212.1, cm_X9_212.2.1, cm_X9_212.2.2.1, cm_X9_212.2.2.2.1, cm_X9_212.2.2.2.2⟩, xT_3 177 rfl rfl, xT_0 15 rfl rfl, _, rfl, rfl⟩
theorem eX9_checks_25 : x_istore mX9_checks 25 3 26 := Or.inl ⟨3, by decide +kernel, rfl, rfl⟩
theorem eX9_checks_26 : x_iload mX9_checks 26 2 27 := Or.inl ⟨2, by decide +kernel, rfl, rfl⟩
theorem eX9_checks_27 : xJ mX9_checks 27 (.ifCond .ne) 45 30 := ⟨(18), by decide +kernel, by decide, rfl⟩
theorem eX9_checks_30 : x_aload mX9_checks 30 0 31 := Or.inl ⟨0, by decide +kernel, rfl, rfl⟩
theorem eX9_checks_31 : xGF mX9_checks 31 9 4 34 := ⟨38, _, _, by decide +kernel, rfl, fl_X9_38⟩
theorem eX9_checks_34 : x_iload mX9_checks 34 3 35 := Or.inl ⟨3, by decide +kernel, rfl, rfl⟩
set_option maxRecDepth 20000 in
theorem eX9_checks_35 : xCV mX9_checks 35 mX0_gainOf 1 0 38 := ⟨215, by decide +kernel, rfl, ⟨cm_X9_215.1, cm_X9_215.2.1, cm_X9_215.2.2.1, cm_X9_215.2.2.2.1, cm_X9_215.2.2.2.2⟩, xT_3 182 rfl rfl, xT_3 183 rfl rfl, _, rfl, rfl⟩
theorem eX9_checks_38 : xK mX9_checks 38 (nI 500) 41 := Or.inr (Or.inr (Or.inl (⟨500, by decide +kernel, by decide, rfl⟩)))
theorem eX9_checks_41 : xD mX9_checks 41 (.iadd) 1 42 := ⟨by decide +kernel, rfl⟩
theorem eX9_checks_42 : xJ mX9_checks 42 (.goto) 46 45 := ⟨(4), by decide +kernel, by decide, rfl⟩
theorem eX9_checks_45 : x_iload mX9_checks 45 3 46 := Or.inl ⟨3, by decide +kernel, rfl, rfl⟩
theorem eX9_checks_46 : xD mX9_checks 46 (.ireturn) 1 47 := ⟨by decide +kernel, rfl⟩
theorem eX9_see_0 : x_aload mX9_see 0 0 1 := Or.inl ⟨0, by decide +kernel, rfl, rfl⟩
theorem eX9_see_1 : x_iload mX9_see 1 1 2 := Or.inl ⟨1, by decide +kernel, rfl, rfl⟩
set_option maxRecDepth 20000 in
theorem eX9_see_2 : xCV mX9_see 2 mX9_isVillage 1 9 5 := ⟨129, by decide +kernel, rfl, ⟨cm_X9_129.1, cm_X9_129.2.1, cm_X9_129.2.2.1, cm_X9_129.2.2.2.1, cm_X9_129.2.2.2.2⟩, xT_2 229 rfl rfl, xT_0 5 rfl rfl, _, rfl, rfl⟩
theorem eX9_see_5 : xJ mX9_see 5 (.ifCond .eq) 18 8 := ⟨(13), by decide +kernel, by decide, rfl⟩
theorem eX9_see_8 : x_iload mX9_see 8 2 9 := Or.inl ⟨2, by decide +kernel, rfl, rfl⟩
theorem eX9_see_9 : xK mX9_see 9 (nI 0) 10 := Or.inl (⟨0, by decide +kernel, by decide, rfl⟩)
theorem eX9_see_10 : xK mX9_see 10 (nI 60) 12 := Or.inr (Or.inl (⟨60, by decide +kernel, by decide, rfl⟩))
set_option maxRecDepth 20000 in
theorem eX9_see_12 : xCS mX9_see 12 mX9_isWithin 3 15 := ⟨107, by decide +kernel, rfl, ⟨cm_X9_107.1, cm_X9_107.2.1, cm_X9_107.2.2.1, cm_X9_107.2.2.2.1, cm_X9_107.2.2.2.2⟩, xT_2 126 rfl rfl⟩
theorem eX9_see_15 : xJ mX9_see 15 (.ifCond .ne) 20 18 := ⟨(5), by decide +kernel, by decide, rfl⟩
theorem eX9_see_18 : xK mX9_see 18 ((-1)) 19 := Or.inl (⟨(-1), by decide +kernel, by decide, rfl⟩)
theorem eX9_see_19 : xD mX9_see 19 (.ireturn) 1 20 := ⟨by decide +kernel, rfl⟩
theorem eX9_see_20 : x_aload mX9_see 20 0 21 := Or.inl ⟨0, by decide +kernel, rfl, rfl⟩
theorem eX9_see_21 : xGF mX9_see 21 9 8 24 := ⟨60, _, _, by decide +kernel, rfl, fl_X9_60⟩
set_option maxRecDepth 20000 in
theorem eX9_see_24 : xCV mX9_see 24 mX8_isFull 0 8 27 := ⟨218, by decide +kernel, rfl, ⟨cm_X9_218.1, cm_X9_218.2.1, cm_X9_218.2.2.1, cm_X9_218.2.2.2.1, cm_X9_218.2.2.2.2⟩, xT_3 190 rfl rfl, xT_3 191 rfl rfl, _, rfl, rfl⟩
theorem eX9_see_27 : xJ mX9_see 27 (.ifCond .eq) 33 30 := ⟨(6), by decide +kernel, by decide, rfl⟩
theorem eX9_see_30 : xK mX9_see 30 ((-3)) 32 := Or.inr (Or.inl (⟨(-3), by decide +kernel, by decide, rfl⟩))
theorem eX9_see_32 : xD mX9_see 32 (.ireturn) 1 33 := ⟨by decide +kernel, rfl⟩
theorem eX9_see_33 : x_aload mX9_see 33 0 34 := Or.inl ⟨0, by decide +kernel, rfl, rfl⟩
theorem eX9_see_34 : xGF mX9_see 34 9 8 37 := ⟨60, _, _, by decide +kernel, rfl, fl_X9_60⟩
theorem eX9_see_37 : x_iload mX9_see 37 1 38 := Or.inl ⟨1, by decide +kernel, rfl, rfl⟩
theorem eX9_see_38 : x_iload mX9_see 38 2 39 := Or.inl ⟨2, by decide +kernel, rfl, rfl⟩
set_option maxRecDepth 20000 in
theorem eX9_see_39 : xCV mX9_see 39 mX8_add 2 8 42 := ⟨219, by decide +kernel, rfl, ⟨cm_X9_219.1, cm_X9_219.2.1, cm_X9_219.2.2.1, cm_X9_219.2.2.2.1, cm_X9_219.2.2.2.2⟩, xT_3 194 rfl rfl, xT_3 195 rfl rfl, _, rfl, rfl⟩
theorem eX9_see_42 : x_aload mX9_see 42 0 43 := Or.inl ⟨0, by decide +kernel, rfl, rfl⟩
theorem eX9_see_43 : xGF mX9_see 43 9 8 46 := ⟨60, _, _, by decide +kernel, rfl, fl_X9_60⟩
theorem eX9_see_46 : xGF mX9_see 46 8 2 49 := ⟨222, _, _, by decide +kernel, rfl, fl_X9_222⟩
theorem eX9_see_49 : xD mX9_see 49 (.ireturn) 1 50 := ⟨by decide +kernel, rfl⟩
theorem eX9_forget_0 : x_aload mX9_forget 0 0 1 := Or.inl ⟨0, by decide +kernel, rfl, rfl⟩
theorem eX9_forget_1 : xGF mX9_forget 1 9 8 4 := ⟨60, _, _, by decide +kernel, rfl, fl_X9_60⟩
theorem eX9_forget_4 : xGF mX9_forget 4 8 2 7 := ⟨222, _, _, by decide +kernel, rfl, fl_X9_222⟩
theorem eX9_forget_7 : x_istore mX9_forget 7 1 8 := Or.inl ⟨1, by decide +kernel, rfl, rfl⟩
theorem eX9_forget_8 : x_aload mX9_forget 8 0 9 := Or.inl ⟨0, by decide +kernel, rfl, rfl⟩
theorem eX9_forget_9 : xGF mX9_forget 9 9 8 12 := ⟨60, _, _, by decide +kernel, rfl, fl_X9_60⟩
set_option maxRecDepth 20000 in
theorem eX9_forget_12 : xCV mX9_forget 12 mX8_clear 0 8 15 := ⟨223, by decide +kernel, rfl, ⟨cm_X9_223.1, cm_X9_223.2.1, cm_X9_223.2.2.1, cm_X9_223.2.2.2.1, cm_X9_223.2.2.2.2⟩, xT_2 156 rfl rfl, xT_2 157 rfl rfl, _, rfl, rfl⟩
theorem eX9_forget_15 : x_iload mX9_forget 15 1 16 := Or.inl ⟨1, by decide +kernel, rfl, rfl⟩
theorem eX9_forget_16 : xD mX9_forget 16 (.ireturn) 1 17 := ⟨by decide +kernel, rfl⟩
theorem eX9_kinds_0 : x_aload mX9_kinds 0 0 1 := Or.inl ⟨0, by decide +kernel, rfl, rfl⟩
theorem eX9_kinds_1 : x_iload mX9_kinds 1 1 2 := Or.inl ⟨1, by decide +kernel, rfl, rfl⟩
set_option maxRecDepth 20000 in
theorem eX9_kinds_2 : xCV mX9_kinds 2 mX9_isVillage 1 9 5 := ⟨129, by decide +kernel, rfl, ⟨cm_X9_129.1, cm_X9_129.2.1, cm_X9_129.2.2.1, cm_X9_129.2.2.2.1, cm_X9_129.2.2.2.2⟩, xT_2 229 rfl rfl, xT_0 5 rfl rfl, _, rfl, rfl⟩
theorem eX9_kinds_5 : xJ mX9_kinds 5 (.ifCond .ne) 10 8 := ⟨(5), by decide +kernel, by decide, rfl⟩
theorem eX9_kinds_8 : xK mX9_kinds 8 ((-1)) 9 := Or.inl (⟨(-1), by decide +kernel, by decide, rfl⟩)
theorem eX9_kinds_9 : xD mX9_kinds 9 (.ireturn) 1 10 := ⟨by decide +kernel, rfl⟩
theorem eX9_kinds_10 : x_aload mX9_kinds 10 0 11 := Or.inl ⟨0, by decide +kernel, rfl, rfl⟩
theorem eX9_kinds_11 : xGF mX9_kinds 11 9 4 14 := ⟨38, _, _, by decide +kernel, rfl, fl_X9_38⟩
theorem eX9_kinds_14 : x_iload mX9_kinds 14 1 15 := Or.inl ⟨1, by decide +kernel, rfl, rfl⟩
set_option maxRecDepth 20000 in
theorem eX9_kinds_15 : xCV mX9_kinds 15 mX0_holds 1 0 18 := ⟨140, by decide +kernel, rfl, ⟨cm_X9_140.1, cm_X9_140.2.1, cm_X9_140.2.2.1, cm_X9_140.2.2.2.1, cm_X9_140.2.2.2.2⟩, xT_2 232 rfl rfl, xT_2 233 rfl rfl, _, rfl, rfl⟩
theorem eX9_kinds_18 : xJ mX9_kinds 18 (.ifCond .eq) 24 21 := ⟨(6), by decide +kernel, by decide, rfl⟩
theorem eX9_kinds_21 : xK mX9_kinds 21 ((-2)) 23 := Or.inr (Or.inl (⟨(-2), by decide +kernel, by decide, rfl⟩))
theorem eX9_kinds_23 : xD mX9_kinds 23 (.ireturn) 1 24 := ⟨by decide +kernel, rfl⟩
theorem eX9_kinds_24 : xK mX9_kinds 24 (nI 0) 25 := Or.inl (⟨0, by decide +kernel, by decide, rfl⟩)
theorem eX9_kinds_25 : x_istore mX9_kinds 25 2 26 := Or.inl ⟨2, by decide +kernel, rfl, rfl⟩
theorem eX9_kinds_26 : xK mX9_kinds 26 (nI 0) 27 := Or.inl (⟨0, by decide +kernel, by decide, rfl⟩)
theorem eX9_kinds_27 : x_istore mX9_kinds 27 3 28 := Or.inl ⟨3, by decide +kernel, rfl, rfl⟩
theorem eX9_kinds_28 : x_iload mX9_kinds 28 3 29 := Or.inl ⟨3, by decide +kernel, rfl, rfl⟩
theorem eX9_kinds_29 : xK mX9_kinds 29 (nI 5) 30 := Or.inl (⟨5, by decide +kernel, by decide, rfl⟩)
theorem eX9_kinds_30 : xJ mX9_kinds 30 (.if_icmp .ge) 72 33 := ⟨(42), by decide +kernel, by decide, rfl⟩
theorem eX9_kinds_33 : x_aload mX9_kinds 33 0 34 := Or.inl ⟨0, by decide +kernel, rfl, rfl⟩
theorem eX9_kinds_34 : xGF mX9_kinds 34 9 8 37 := ⟨60, _, _, by decide +kernel, rfl, fl_X9_60⟩
theorem eX9_kinds_37 : x_iload mX9_kinds 37 1 38 := Or.inl ⟨1, by decide +kernel, rfl, rfl⟩
theorem eX9_kinds_38 : x_aload mX9_kinds 38 0 39 := Or.inl ⟨0, by decide +kernel, rfl, rfl⟩
theorem eX9_kinds_39 : xGF mX9_kinds 39 9 4 42 := ⟨38, _, _, by decide +kernel, rfl, fl_X9_38⟩
theorem eX9_kinds_42 : x_iload mX9_kinds 42 1 43 := Or.inl ⟨1, by decide +kernel, rfl, rfl⟩
theorem eX9_kinds_43 : x_iload mX9_kinds 43 3 44 := Or.inl ⟨3, by decide +kernel, rfl, rfl⟩
theorem eX9_kinds_44 : x_aload mX9_kinds 44 0 45 := Or.inl ⟨0, by decide +kernel, rfl, rfl⟩
theorem eX9_kinds_45 : xGF mX9_kinds 45 9 3 48 := ⟨30, _, _, by decide +kernel, rfl, fl_X9_30⟩
theorem eX9_kinds_48 : xGF mX9_kinds 48 2 7 51 := ⟨149, _, _, by decide +kernel, rfl, fl_X9_149⟩
set_option maxRecDepth 20000 in
theorem eX9_kinds_51 : xCV mX9_kinds 51 mX0_sworn 3 0 54 := ⟨152, by decide +kernel, rfl, ⟨cm_X9_152.1, cm_X9_152.2.1, cm_X9_152.2.2.1, cm_X9_152.2.2.2.1, cm_X9_152.2.2.2.2⟩, xT_3 0 rfl rfl, xT_3 1 rfl rfl, _, rfl, rfl⟩
set_option maxRecDepth 20000 in
theorem eX9_kinds_54 : xCV mX9_kinds 54 mX8_fits 2 8 57 := ⟨224, by decide +kernel, rfl, ⟨cm_X9_224.1, cm_X9_224.2.1, cm_X9_224.2.2.1, cm_X9_224.2.2.2.1, cm_X9_224.2.2.2.2⟩, xT_3 207 rfl rfl, xT_3 208 rfl rfl, _, rfl, rfl⟩
theorem eX9_kinds_57 : xJ mX9_kinds 57 (.ifCond .eq) 66 60 := ⟨(9), by decide +kernel, by decide, rfl⟩
theorem eX9_kinds_60 : x_iload mX9_kinds 60 2 61 := Or.inl ⟨2, by decide +kernel, rfl, rfl⟩
theorem eX9_kinds_61 : xK mX9_kinds 61 (nI 1) 62 := Or.inl (⟨1, by decide +kernel, by decide, rfl⟩)
theorem eX9_kinds_62 : x_iload mX9_kinds 62 3 63 := Or.inl ⟨3, by decide +kernel, rfl, rfl⟩
theorem eX9_kinds_63 : xD mX9_kinds 63 (.ishl) 1 64 := ⟨by decide +kernel, rfl⟩
theorem eX9_kinds_64 : xD mX9_kinds 64 (.ior) 1 65 := ⟨by decide +kernel, rfl⟩
theorem eX9_kinds_65 : x_istore mX9_kinds 65 2 66 := Or.inl ⟨2, by decide +kernel, rfl, rfl⟩
theorem eX9_kinds_66 : xD mX9_kinds 66 (.iinc 3 1) 3 69 := ⟨by decide +kernel, rfl⟩
theorem eX9_kinds_69 : xJ mX9_kinds 69 (.goto) 28 72 := ⟨(-41), by decide +kernel, by decide, rfl⟩
theorem eX9_kinds_72 : x_iload mX9_kinds 72 2 73 := Or.inl ⟨2, by decide +kernel, rfl, rfl⟩
theorem eX9_kinds_73 : xD mX9_kinds 73 (.ireturn) 1 74 := ⟨by decide +kernel, rfl⟩
theorem eX9_copies_0 : xK mX9_copies 0 (nI 0) 1 := Or.inl (⟨0, by decide +kernel, by decide, rfl⟩)
theorem eX9_copies_1 : x_istore mX9_copies 1 1 2 := Or.inl ⟨1, by decide +kernel, rfl, rfl⟩
theorem eX9_copies_2 : xK mX9_copies 2 (nI 0) 3 := Or.inl (⟨0, by decide +kernel, by decide, rfl⟩)
theorem eX9_copies_3 : x_istore mX9_copies 3 2 4 := Or.inl ⟨2, by decide +kernel, rfl, rfl⟩
theorem eX9_copies_4 : x_iload mX9_copies 4 2 5 := Or.inl ⟨2, by decide +kernel, rfl, rfl⟩
theorem eX9_copies_5 : x_aload mX9_copies 5 0 6 := Or.inl ⟨0, by decide +kernel, rfl, rfl⟩
theorem eX9_copies_6 : xGF mX9_copies 6 9 3 9 := ⟨30, _, _, by decide +kernel, rfl, fl_X9_30⟩
theorem eX9_copies_9 : xGF mX9_copies 9 2 5 12 := ⟨123, _, _, by decide +kernel, rfl, fl_X9_123⟩
theorem eX9_copies_12 : xJ mX9_copies 12 (.if_icmp .ge) 49 15 := ⟨(37), by decide +kernel, by decide, rfl⟩
theorem eX9_copies_15 : x_aload mX9_copies 15 0 16 := Or.inl ⟨0, by decide +kernel, rfl, rfl⟩
theorem eX9_copies_16 : xGF mX9_copies 16 9 4 19 := ⟨38, _, _, by decide +kernel, rfl, fl_X9_38⟩
theorem eX9_copies_19 : x_iload mX9_copies 19 2 20 := Or.inl ⟨2, by decide +kernel, rfl, rfl⟩
set_option maxRecDepth 20000 in
theorem eX9_copies_20 : xCV mX9_copies 20 mX0_holds 1 0 23 := ⟨140, by decide +kernel, rfl, ⟨cm_X9_140.1, cm_X9_140.2.1, cm_X9_140.2.2.1, cm_X9_140.2.2.2.1, cm_X9_140.2.2.2.2⟩, xT_2 232 rfl rfl, xT_2 233 rfl rfl, _, rfl, rfl⟩
theorem eX9_copies_23 : xJ mX9_copies 23 (.ifCond .eq) 43 26 := ⟨(20), by decide +kernel, by decide, rfl⟩
theorem eX9_copies_26 : x_aload mX9_copies 26 0 27 := Or.inl ⟨0, by decide +kernel, rfl, rfl⟩
theorem eX9_copies_27 : xGF mX9_copies 27 9 4 30 := ⟨38, _, _, by decide +kernel, rfl, fl_X9_38⟩
theorem eX9_copies_30 : x_iload mX9_copies 30 2 31 := Or.inl ⟨2, by decide +kernel, rfl, rfl⟩
set_option maxRecDepth 20000 in
theorem eX9_copies_31 : xCV mX9_copies 31 mX0_hasTwin 1 0 34 := ⟨227, by decide +kernel, rfl, ⟨cm_X9_227.1, cm_X9_227.2.1, cm_X9_227.2.2.1, cm_X9_227.2.2.2.1, cm_X9_227.2.2.2.2⟩, xT_3 215 rfl rfl, xT_3 216 rfl rfl, _, rfl, rfl⟩
theorem eX9_copies_34 : xJ mX9_copies 34 (.ifCond .eq) 43 37 := ⟨(9), by decide +kernel, by decide, rfl⟩
theorem eX9_copies_37 : x_iload mX9_copies 37 1 38 := Or.inl ⟨1, by decide +kernel, rfl, rfl⟩
theorem eX9_copies_38 : xK mX9_copies 38 (nI 1) 39 := Or.inl (⟨1, by decide +kernel, by decide, rfl⟩)
theorem eX9_copies_39 : x_iload mX9_copies 39 2 40 := Or.inl ⟨2, by decide +kernel, rfl, rfl⟩
theorem eX9_copies_40 : xD mX9_copies 40 (.ishl) 1 41 := ⟨by decide +kernel, rfl⟩
theorem eX9_copies_41 : xD mX9_copies 41 (.ior) 1 42 := ⟨by decide +kernel, rfl⟩
theorem eX9_copies_42 : x_istore mX9_copies 42 1 43 := Or.inl ⟨1, by decide +kernel, rfl, rfl⟩
theorem eX9_copies_43 : xD mX9_copies 43 (.iinc 2 1) 3 46 := ⟨by decide +kernel, rfl⟩
theorem eX9_copies_46 : xJ mX9_copies 46 (.goto) 4 49 := ⟨(-42), by decide +kernel, by decide, rfl⟩
theorem eX9_copies_49 : x_iload mX9_copies 49 1 50 := Or.inl ⟨1, by decide +kernel, rfl, rfl⟩
theorem eX9_copies_50 : xD mX9_copies 50 (.ireturn) 1 51 := ⟨by decide +kernel, rfl⟩
theorem eX9_agree_0 : x_aload mX9_agree 0 0 1 := Or.inl ⟨0, by decide +kernel, rfl, rfl⟩
theorem eX9_agree_1 : x_iload mX9_agree 1 1 2 := Or.inl ⟨1, by decide +kernel, rfl, rfl⟩
set_option maxRecDepth 20000 in
theorem eX9_agree_2 : xCV mX9_agree 2 mX9_isVillage 1 9 5 := ⟨129, by decide +kernel, rfl, ⟨cm_X9_129.1, cm_X9_129.2.1, cm_X9_129.2.2.1, cm_X9_129.2.2.2.1, cm_X9_129.2.2.2.2⟩, xT_2 229 rfl rfl, xT_0 5 rfl rfl, _, rfl, rfl⟩
theorem eX9_agree_5 : xJ mX9_agree 5 (.ifCond .eq) 21 8 := ⟨(16), by decide +kernel, by decide, rfl⟩
theorem eX9_agree_8 : x_aload mX9_agree 8 0 9 := Or.inl ⟨0, by decide +kernel, rfl, rfl⟩
theorem eX9_agree_9 : x_iload mX9_agree 9 2 10 := Or.inl ⟨2, by decide +kernel, rfl, rfl⟩
set_option maxRecDepth 20000 in
theorem eX9_agree_10 : xCV mX9_agree 10 mX9_isVillage 1 9 13 := ⟨129, by decide +kernel, rfl, ⟨cm_X9_129.1, cm_X9_129.2.1, cm_X9_129.2.2.1, cm_X9_129.2.2.2.1, cm_X9_129.2.2.2.2⟩, xT_2 229 rfl rfl, xT_0 5 rfl rfl, _, rfl, rfl⟩
theorem eX9_agree_13 : xJ mX9_agree 13 (.ifCond .eq) 21 16 := ⟨(8), by decide +kernel, by decide, rfl⟩
theorem eX9_agree_16 : x_iload mX9_agree 16 1 17 := Or.inl ⟨1, by decide +kernel, rfl, rfl⟩
theorem eX9_agree_17 : x_iload mX9_agree 17 2 18 := Or.inl ⟨2, by decide +kernel, rfl, rfl⟩
theorem eX9_agree_18 : xJ mX9_agree 18 (.if_icmp .ne) 23 21 := ⟨(5), by decide +kernel, by decide, rfl⟩
theorem eX9_agree_21 : xK mX9_agree 21 ((-1)) 22 := Or.inl (⟨(-1), by decide +kernel, by decide, rfl⟩)
theorem eX9_agree_22 : xD mX9_agree 22 (.ireturn) 1 23 := ⟨by decide +kernel, rfl⟩
theorem eX9_agree_23 : x_aload mX9_agree 23 0 24 := Or.inl ⟨0, by decide +kernel, rfl, rfl⟩
theorem eX9_agree_24 : xGF mX9_agree 24 9 4 27 := ⟨38, _, _, by decide +kernel, rfl, fl_X9_38⟩
theorem eX9_agree_27 : x_iload mX9_agree 27 1 28 := Or.inl ⟨1, by decide +kernel, rfl, rfl⟩
set_option maxRecDepth 20000 in
theorem eX9_agree_28 : xCV mX9_agree 28 mX0_holds 1 0 31 := ⟨140, by decide +kernel, rfl, ⟨cm_X9_140.1, cm_X9_140.2.1, cm_X9_140.2.2.1, cm_X9_140.2.2.2.1, cm_X9_140.2.2.2.2⟩, xT_2 232 rfl rfl, xT_2 233 rfl rfl, _, rfl, rfl⟩
theorem eX9_agree_31 : xJ mX9_agree 31 (.ifCond .eq) 45 34 := ⟨(14), by decide +kernel, by decide, rfl⟩
theorem eX9_agree_34 : x_aload mX9_agree 34 0 35 := Or.inl ⟨0, by decide +kernel, rfl, rfl⟩
theorem eX9_agree_35 : xGF mX9_agree 35 9 4 38 := ⟨38, _, _, by decide +kernel, rfl, fl_X9_38⟩
theorem eX9_agree_38 : x_iload mX9_agree 38 2 39 := Or.inl ⟨2, by decide +kernel, rfl, rfl⟩
set_option maxRecDepth 20000 in
theorem eX9_agree_39 : xCV mX9_agree 39 mX0_holds 1 0 42 := ⟨140, by decide +kernel, rfl, ⟨cm_X9_140.1, cm_X9_140.2.1, cm_X9_140.2.2.1, cm_X9_140.2.2.2.1, cm_X9_140.2.2.2.2⟩, xT_2 232 rfl rfl, xT_2 233 rfl rfl, _, rfl, rfl⟩
theorem eX9_agree_42 : xJ mX9_agree 42 (.ifCond .ne) 48 45 := ⟨(6), by decide +kernel, by decide, rfl⟩
theorem eX9_agree_45 : xK mX9_agree 45 ((-2)) 47 := Or.inr (Or.inl (⟨(-2), by decide +kernel, by decide, rfl⟩))
theorem eX9_agree_47 : xD mX9_agree 47 (.ireturn) 1 48 := ⟨by decide +kernel, rfl⟩
theorem eX9_agree_48 : x_aload mX9_agree 48 0 49 := Or.inl ⟨0, by decide +kernel, rfl, rfl⟩
theorem eX9_agree_49 : xGF mX9_agree 49 9 4 52 := ⟨38, _, _, by decide +kernel, rfl, fl_X9_38⟩
theorem eX9_agree_52 : xK mX9_agree 52 (nI 1) 53 := Or.inl (⟨1, by decide +kernel, by decide, rfl⟩)
theorem eX9_agree_53 : x_iload mX9_agree 53 1 54 := Or.inl ⟨1, by decide +kernel, rfl, rfl⟩
theorem eX9_agree_54 : xD mX9_agree 54 (.ishl) 1 55 := ⟨by decide +kernel, rfl⟩
theorem eX9_agree_55 : xK mX9_agree 55 (nI 1) 56 := Or.inl (⟨1, by decide +kernel, by decide, rfl⟩)
theorem eX9_agree_56 : x_iload mX9_agree 56 2 57 := Or.inl ⟨2, by decide +kernel, rfl, rfl⟩
theorem eX9_agree_57 : xD mX9_agree 57 (.ishl) 1 58 := ⟨by decide +kernel, rfl⟩
theorem eX9_agree_58 : xD mX9_agree 58 (.ior) 1 59 := ⟨by decide +kernel, rfl⟩
set_option maxRecDepth 20000 in
theorem eX9_agree_59 : xCV mX9_agree 59 mX0_gainOf 1 0 62 := ⟨215, by decide +kernel, rfl, ⟨cm_X9_215.1, cm_X9_215.2.1, cm_X9_215.2.2.1, cm_X9_215.2.2.2.1, cm_X9_215.2.2.2.2⟩, xT_3 182 rfl rfl, xT_3 183 rfl rfl, _, rfl, rfl⟩
theorem eX9_agree_62 : xJ mX9_agree 62 (.ifCond .ne) 69 65 := ⟨(7), by decide +kernel, by decide, rfl⟩
theorem eX9_agree_65 : xK mX9_agree 65 (nI 1) 66 := Or.inl (⟨1, by decide +kernel, by decide, rfl⟩)
theorem eX9_agree_66 : xJ mX9_agree 66 (.goto) 70 69 := ⟨(4), by decide +kernel, by decide, rfl⟩
theorem eX9_agree_69 : xK mX9_agree 69 (nI 0) 70 := Or.inl (⟨0, by decide +kernel, by decide, rfl⟩)
theorem eX9_agree_70 : xD mX9_agree 70 (.ireturn) 1 71 := ⟨by decide +kernel, rfl⟩
theorem eX9_honest_0 : x_iload mX9_honest 0 1 1 := Or.inl ⟨1, by decide +kernel, rfl, rfl⟩
theorem eX9_honest_1 : xK mX9_honest 1 (nI 0) 2 := Or.inl (⟨0, by decide +kernel, by decide, rfl⟩)
theorem eX9_honest_2 : xK mX9_honest 2 (nI 500) 5 := Or.inr (Or.inr (Or.inl (⟨500, by decide +kernel, by decide, rfl⟩)))
set_option maxRecDepth 20000 in
theorem eX9_honest_5 : xCS mX9_honest 5 mX9_isWithin 3 8 := ⟨107, by decide +kernel, rfl, ⟨cm_X9_107.1, cm_X9_107.2.1, cm_X9_107.2.2.1, cm_X9_107.2.2.2.1, cm_X9_107.2.2.2.2⟩, xT_2 126 rfl rfl⟩
theorem eX9_honest_8 : xJ mX9_honest 8 (.ifCond .eq) 30 11 := ⟨(22), by decide +kernel, by decide, rfl⟩
theorem eX9_honest_11 : x_iload mX9_honest 11 2 12 := Or.inl ⟨2, by decide +kernel, rfl, rfl⟩
theorem eX9_honest_12 : xK mX9_honest 12 (nI 0) 13 := Or.inl (⟨0, by decide +kernel, by decide, rfl⟩)
theorem eX9_honest_13 : xK mX9_honest 13 (nI 10) 15 := Or.inr (Or.inl (⟨10, by decide +kernel, by decide, rfl⟩))
set_option maxRecDepth 20000 in
theorem eX9_honest_15 : xCS mX9_honest 15 mX9_isWithin 3 18 := ⟨107, by decide +kernel, rfl, ⟨cm_X9_107.1, cm_X9_107.2.1, cm_X9_107.2.2.1, cm_X9_107.2.2.2.1, cm_X9_107.2.2.2.2⟩, xT_2 126 rfl rfl⟩
theorem eX9_honest_18 : xJ mX9_honest 18 (.ifCond .eq) 30 21 := ⟨(12), by decide +kernel, by decide, rfl⟩
theorem eX9_honest_21 : x_iload mX9_honest 21 3 22 := Or.inl ⟨3, by decide +kernel, rfl, rfl⟩
theorem eX9_honest_22 : xK mX9_honest 22 (nI 0) 23 := Or.inl (⟨0, by decide +kernel, by decide, rfl⟩)
theorem eX9_honest_23 : xK mX9_honest 23 (nI 1) 24 := Or.inl (⟨1, by decide +kernel, by decide, rfl⟩)
set_option maxRecDepth 20000 in
theorem eX9_honest_24 : xCS mX9_honest 24 mX9_isWithin 3 27 := ⟨107, by decide +kernel, rfl, ⟨cm_X9_107.1, cm_X9_107.2.1, cm_X9_107.2.2.1, cm_X9_107.2.2.2.1, cm_X9_107.2.2.2.2⟩, xT_2 126 rfl rfl⟩
theorem eX9_honest_27 : xJ mX9_honest 27 (.ifCond .ne) 32 30 := ⟨(5), by decide +kernel, by decide, rfl⟩
theorem eX9_honest_30 : xK mX9_honest 30 ((-1)) 31 := Or.inl (⟨(-1), by decide +kernel, by decide, rfl⟩)
theorem eX9_honest_31 : xD mX9_honest 31 (.ireturn) 1 32 := ⟨by decide +kernel, rfl⟩
theorem eX9_honest_32 : x_aload mX9_honest 32 0 33 := Or.inl ⟨0, by decide +kernel, rfl, rfl⟩
theorem eX9_honest_33 : xGF mX9_honest 33 9 11 36 := ⟨81, _, _, by decide +kernel, rfl, fl_X9_81⟩
theorem eX9_honest_36 : x_aload mX9_honest 36 0 37 := Or.inl ⟨0, by decide +kernel, rfl, rfl⟩
theorem eX9_honest_37 : xGF mX9_honest 37 9 4 40 := ⟨38, _, _, by decide +kernel, rfl, fl_X9_38⟩
theorem eX9_honest_40 : x_iload mX9_honest 40 1 41 := Or.inl ⟨1, by decide +kernel, rfl, rfl⟩
theorem eX9_honest_41 : x_iload mX9_honest 41 2 42 := Or.inl ⟨2, by decide +kernel, rfl, rfl⟩
set_option maxRecDepth 20000 in
theorem eX9_honest_42 : xCV mX9_honest 42 mX1_weigh 3 1 45 := ⟨230, by decide +kernel, rfl, ⟨cm_X9_230.1, cm_X9_230.2.1, cm_X9_230.2.2.1, cm_X9_230.2.2.2.1, cm_X9_230.2.2.2.2⟩, xT_3 227 rfl rfl, xT_3 228 rfl rfl, _, rfl, rfl⟩
theorem eX9_honest_45 : x_iload mX9_honest 45 3 46 := Or.inl ⟨3, by decide +kernel, rfl, rfl⟩
theorem eX9_honest_46 : xJ mX9_honest 46 (.ifCond .ne) 59 49 := ⟨(13), by decide +kernel, by decide, rfl⟩
theorem eX9_honest_49 : x_aload mX9_honest 49 0 50 := Or.inl ⟨0, by decide +kernel, rfl, rfl⟩
theorem eX9_honest_50 : xGF mX9_honest 50 9 11 53 := ⟨81, _, _, by decide +kernel, rfl, fl_X9_81⟩
theorem eX9_honest_53 : xGF mX9_honest 53 1 2 56 := ⟨234, _, _, by decide +kernel, rfl, fl_X9_234⟩
theorem eX9_honest_56 : xJ mX9_honest 56 (.goto) 66 59 := ⟨(10), by decide +kernel, by decide, rfl⟩
theorem eX9_honest_59 : x_aload mX9_honest 59 0 60 := Or.inl ⟨0, by decide +kernel, rfl, rfl⟩
theorem eX9_honest_60 : xGF mX9_honest 60 9 11 63 := ⟨81, _, _, by decide +kernel, rfl, fl_X9_81⟩
theorem eX9_honest_63 : xGF mX9_honest 63 1 3 66 := ⟨237, _, _, by decide +kernel, rfl, fl_X9_237⟩
theorem eX9_honest_66 : xD mX9_honest 66 (.ireturn) 1 67 := ⟨by decide +kernel, rfl⟩
theorem eX9_shire_0 : x_iload mX9_shire 0 1 1 := Or.inl ⟨1, by decide +kernel, rfl, rfl⟩
theorem eX9_shire_1 : xK mX9_shire 1 (nI 0) 2 := Or.inl (⟨0, by decide +kernel, by decide, rfl⟩)
theorem eX9_shire_2 : xK mX9_shire 2 (nI 9999) 5 := Or.inr (Or.inr (Or.inl (⟨9999, by decide +kernel, by decide, rfl⟩)))
set_option maxRecDepth 20000 in
theorem eX9_shire_5 : xCS mX9_shire 5 mX9_isWithin 3 8 := ⟨107, by decide +kernel, rfl, ⟨cm_X9_107.1, cm_X9_107.2.1, cm_X9_107.2.2.1, cm_X9_107.2.2.2.1, cm_X9_107.2.2.2.2⟩, xT_2 126 rfl rfl⟩
theorem eX9_shire_8 : xJ mX9_shire 8 (.ifCond .eq) 30 11 := ⟨(22), by decide +kernel, by decide, rfl⟩
theorem eX9_shire_11 : x_iload mX9_shire 11 2 12 := Or.inl ⟨2, by decide +kernel, rfl, rfl⟩
theorem eX9_shire_12 : xK mX9_shire 12 (nI 1) 13 := Or.inl (⟨1, by decide +kernel, by decide, rfl⟩)
theorem eX9_shire_13 : xK mX9_shire 13 (nI 40) 15 := Or.inr (Or.inl (⟨40, by decide +kernel, by decide, rfl⟩))
set_option maxRecDepth 20000 in
theorem eX9_shire_15 : xCS mX9_shire 15 mX9_isWithin 3 18 := ⟨107, by decide +kernel, rfl, ⟨cm_X9_107.1, cm_X9_107.2.1, cm_X9_107.2.2.1, cm_X9_107.2.2.2.1, cm_X9_107.2.2.2.2⟩, xT_2 126 rfl rfl⟩
theorem eX9_shire_18 : xJ mX9_shire 18 (.ifCond .eq) 30 21 := ⟨(12), by decide +kernel, by decide, rfl⟩
theorem eX9_shire_21 : x_iload mX9_shire 21 3 22 := Or.inl ⟨3, by decide +kernel, rfl, rfl⟩
theorem eX9_shire_22 : xK mX9_shire 22 (nI 0) 23 := Or.inl (⟨0, by decide +kernel, by decide, rfl⟩)
theorem eX9_shire_23 : xK mX9_shire 23 (nI 1) 24 := Or.inl (⟨1, by decide +kernel, by decide, rfl⟩)
set_option maxRecDepth 20000 in
theorem eX9_shire_24 : xCS mX9_shire 24 mX9_isWithin 3 27 := ⟨107, by decide +kernel, rfl, ⟨cm_X9_107.1, cm_X9_107.2.1, cm_X9_107.2.2.1, cm_X9_107.2.2.2.1, cm_X9_107.2.2.2.2⟩, xT_2 126 rfl rfl⟩
theorem eX9_shire_27 : xJ mX9_shire 27 (.ifCond .ne) 32 30 := ⟨(5), by decide +kernel, by decide, rfl⟩
theorem eX9_shire_30 : xK mX9_shire 30 ((-1)) 31 := Or.inl (⟨(-1), by decide +kernel, by decide, rfl⟩)
theorem eX9_shire_31 : xD mX9_shire 31 (.ireturn) 1 32 := ⟨by decide +kernel, rfl⟩
theorem eX9_shire_32 : x_aload mX9_shire 32 0 33 := Or.inl ⟨0, by decide +kernel, rfl, rfl⟩
theorem eX9_shire_33 : xGF mX9_shire 33 9 5 36 := ⟨42, _, _, by decide +kernel, rfl, fl_X9_42⟩
theorem eX9_shire_36 : x_aload mX9_shire 36 0 37 := Or.inl ⟨0, by decide +kernel, rfl, rfl⟩
theorem eX9_shire_37 : xGF mX9_shire 37 9 4 40 := ⟨38, _, _, by decide +kernel, rfl, fl_X9_38⟩
set_option maxRecDepth 20000 in
theorem eX9_shire_40 : xCV mX9_shire 40 mX0_copyFrom 1 0 43 := ⟨240, by decide +kernel, rfl, ⟨cm_X9_240.1, cm_X9_240.2.1, cm_X9_240.2.2.1, cm_X9_240.2.2.2.1, cm_X9_240.2.2.2.2⟩, xT_3 42 rfl rfl, xT_3 43 rfl rfl, _, rfl, rfl⟩
theorem eX9_shire_43 : xK mX9_shire 43 (nI 0) 44 := Or.inl (⟨0, by decide +kernel, by decide, rfl⟩)
theorem eX9_shire_44 : x_istore mX9_shire 44 4 46 := Or.inr ⟨by decide +kernel, rfl⟩
theorem eX9_shire_46 : x_iload mX9_shire 46 4 48 := Or.inr ⟨by decide +kernel, rfl⟩
theorem eX9_shire_48 : x_iload mX9_shire 48 2 49 := Or.inl ⟨2, by decide +kernel, rfl, rfl⟩
theorem eX9_shire_49 : xJ mX9_shire 49 (.if_icmp .ge) 68 52 := ⟨(19), by decide +kernel, by decide, rfl⟩
theorem eX9_shire_52 : x_aload mX9_shire 52 0 53 := Or.inl ⟨0, by decide +kernel, rfl, rfl⟩
theorem eX9_shire_53 : x_iload mX9_shire 53 1 54 := Or.inl ⟨1, by decide +kernel, rfl, rfl⟩
theorem eX9_shire_54 : x_iload mX9_shire 54 4 56 := Or.inr ⟨by decide +kernel, rfl⟩
set_option maxRecDepth 20000 in
theorem eX9_shire_56 : xCS mX9_shire 56 mX9_drawOf 2 59 := ⟨243, by decide +kernel, rfl, ⟨cm_X9_243.1, cm_X9_243.2.1, cm_X9_243.2.2.1, cm_X9_243.2.2.2.1, cm_X9_243.2.2.2.2⟩, xT_4 11 rfl rfl⟩
set_option maxRecDepth 20000 in
theorem eX9_shire_59 : xCV mX9_shire 59 mX9_stepByDraw 1 9 62 := ⟨246, by decide +kernel, rfl, ⟨cm_X9_246.1, cm_X9_246.2.1, cm_X9_246.2.2.1, cm_X9_246.2.2.2.1, cm_X9_246.2.2.2.2⟩, xT_4 19 rfl rfl, xT_0 17 rfl rfl, _, rfl, rfl⟩
theorem eX9_shire_62 : xD mX9_shire 62 (.iinc 4 1) 3 65 := ⟨by decide +kernel, rfl⟩
theorem eX9_shire_65 : xJ mX9_shire 65 (.goto) 46 68 := ⟨(-19), by decide +kernel, by decide, rfl⟩
theorem eX9_shire_68 : x_iload mX9_shire 68 3 69 := Or.inl ⟨3, by decide +kernel, rfl, rfl⟩
theorem eX9_shire_69 : xJ mX9_shire 69 (.ifCond .ne) 82 72 := ⟨(13), by decide +kernel, by decide, rfl⟩
theorem eX9_shire_72 : x_aload mX9_shire 72 0 73 := Or.inl ⟨0, by decide +kernel, rfl, rfl⟩
theorem eX9_shire_73 : xGF mX9_shire 73 9 5 76 := ⟨42, _, _, by decide +kernel, rfl, fl_X9_42⟩
set_option maxRecDepth 20000 in
theorem eX9_shire_76 : xCV mX9_shire 76 mX0_found 0 0 79 := ⟨250, by decide +kernel, rfl, ⟨cm_X9_250.1, cm_X9_250.2.1, cm_X9_250.2.2.1, cm_X9_250.2.2.2.1, cm_X9_250.2.2.2.2⟩, xT_3 157 rfl rfl, xT_3 158 rfl rfl, _, rfl, rfl⟩
theorem eX9_shire_79 : xJ mX9_shire 79 (.goto) 89 82 := ⟨(10), by decide +kernel, by decide, rfl⟩
theorem eX9_shire_82 : x_aload mX9_shire 82 0 83 := Or.inl ⟨0, by decide +kernel, rfl, rfl⟩
theorem eX9_shire_83 : xGF mX9_shire 83 9 5 86 := ⟨42, _, _, by decide +kernel, rfl, fl_X9_42⟩
set_option maxRecDepth 20000 in
theorem eX9_shire_86 : xCV mX9_shire 86 mX0_mostDays 0 0 89 := ⟨253, by decide +kernel, rfl, ⟨cm_X9_253.1, cm_X9_253.2.1, cm_X9_253.2.2.1, cm_X9_253.2.2.2.1, cm_X9_253.2.2.2.2⟩, xT_4 23 rfl rfl, xT_4 24 rfl rfl, _, rfl, rfl⟩
theorem eX9_shire_89 : xD mX9_shire 89 (.ireturn) 1 90 := ⟨by decide +kernel, rfl⟩
theorem eX9_keep_0 : x_aload mX9_keep 0 0 1 := Or.inl ⟨0, by decide +kernel, rfl, rfl⟩
theorem eX9_keep_1 : xGF mX9_keep 1 9 7 4 := ⟨54, _, _, by decide +kernel, rfl, fl_X9_54⟩
set_option maxRecDepth 20000 in
theorem eX9_keep_4 : xCV mX9_keep 4 mX4_isFull 0 4 7 := ⟨256, by decide +kernel, rfl, ⟨cm_X9_256.1, cm_X9_256.2.1, cm_X9_256.2.2.1, cm_X9_256.2.2.2.1, cm_X9_256.2.2.2.2⟩, xT_3 34 rfl rfl, xT_3 35 rfl rfl, _, rfl, rfl⟩
theorem eX9_keep_7 : xJ mX9_keep 7 (.ifCond .eq) 13 10 := ⟨(6), by decide +kernel, by decide, rfl⟩
theorem eX9_keep_10 : xK mX9_keep 10 ((-3)) 12 := Or.inr (Or.inl (⟨(-3), by decide +kernel, by decide, rfl⟩))
theorem eX9_keep_12 : xD mX9_keep 12 (.ireturn) 1 13 := ⟨by decide +kernel, rfl⟩
theorem eX9_keep_13 : x_aload mX9_keep 13 0 14 := Or.inl ⟨0, by decide +kernel, rfl, rfl⟩
theorem eX9_keep_14 : xGF mX9_keep 14 9 7 17 := ⟨54, _, _, by decide +kernel, rfl, fl_X9_54⟩
theorem eX9_keep_17 : x_aload mX9_keep 17 0 18 := Or.inl ⟨0, by decide +kernel, rfl, rfl⟩
theorem eX9_keep_18 : xGF mX9_keep 18 9 4 21 := ⟨38, _, _, by decide +kernel, rfl, fl_X9_38⟩
set_option maxRecDepth 20000 in
theorem eX9_keep_21 : xCV mX9_keep 21 mX4_push 1 4 24 := ⟨177, by decide +kernel, rfl, ⟨cm_X9_177.1, cm_X9_177.2.1, cm_X9_177.2.2.1, cm_X9_177.2.2.2.1, cm_X9_177.2.2.2.2⟩, xT_3 30 rfl rfl, xT_3 31 rfl rfl, _, rfl, rfl⟩
theorem eX9_keep_24 : x_aload mX9_keep 24 0 25 := Or.inl ⟨0, by decide +kernel, rfl, rfl⟩
theorem eX9_keep_25 : xGF mX9_keep 25 9 7 28 := ⟨54, _, _, by decide +kernel, rfl, fl_X9_54⟩
theorem eX9_keep_28 : xGF mX9_keep 28 4 2 31 := ⟨195, _, _, by decide +kernel, rfl, fl_X9_195⟩
theorem eX9_keep_31 : xD mX9_keep 31 (.ireturn) 1 32 := ⟨by decide +kernel, rfl⟩
theorem eX9_back_0 : x_aload mX9_back 0 0 1 := Or.inl ⟨0, by decide +kernel, rfl, rfl⟩
theorem eX9_back_1 : xGF mX9_back 1 9 7 4 := ⟨54, _, _, by decide +kernel, rfl, fl_X9_54⟩
theorem eX9_back_4 : xGF mX9_back 4 4 2 7 := ⟨195, _, _, by decide +kernel, rfl, fl_X9_195⟩
theorem eX9_back_7 : xJ mX9_back 7 (.ifCond .ne) 13 10 := ⟨(6), by decide +kernel, by decide, rfl⟩
theorem eX9_back_10 : xK mX9_back 10 ((-2)) 12 := Or.inr (Or.inl (⟨(-2), by decide +kernel, by decide, rfl⟩))
theorem eX9_back_12 : xD mX9_back 12 (.ireturn) 1 13 := ⟨by decide +kernel, rfl⟩
theorem eX9_back_13 : x_aload mX9_back 13 0 14 := Or.inl ⟨0, by decide +kernel, rfl, rfl⟩
theorem eX9_back_14 : xGF mX9_back 14 9 7 17 := ⟨54, _, _, by decide +kernel, rfl, fl_X9_54⟩
theorem eX9_back_17 : x_aload mX9_back 17 0 18 := Or.inl ⟨0, by decide +kernel, rfl, rfl⟩
theorem eX9_back_18 : xGF mX9_back 18 9 4 21 := ⟨38, _, _, by decide +kernel, rfl, fl_X9_38⟩
set_option maxRecDepth 20000 in
theorem eX9_back_21 : xCV mX9_back 21 mX4_popInto 1 4 24 := ⟨196, by decide +kernel, rfl, ⟨cm_X9_196.1, cm_X9_196.2.1, cm_X9_196.2.2.1, cm_X9_196.2.2.2.1, cm_X9_196.2.2.2.2⟩, xT_3 84 rfl rfl, xT_3 85 rfl rfl, _, rfl, rfl⟩
theorem eX9_back_24 : x_aload mX9_back 24 0 25 := Or.inl ⟨0, by decide +kernel, rfl, rfl⟩
theorem eX9_back_25 : xGF mX9_back 25 9 6 28 := ⟨50, _, _, by decide +kernel, rfl, fl_X9_50⟩
set_option maxRecDepth 20000 in
theorem eX9_back_28 : xCV mX9_back 28 mX4_clear 0 4 31 := ⟨257, by decide +kernel, rfl, ⟨cm_X9_257.1, cm_X9_257.2.1, cm_X9_257.2.2.1, cm_X9_257.2.2.2.1, cm_X9_257.2.2.2.2⟩, xT_2 160 rfl rfl, xT_2 161 rfl rfl, _, rfl, rfl⟩
theorem eX9_back_31 : x_aload mX9_back 31 0 32 := Or.inl ⟨0, by decide +kernel, rfl, rfl⟩
theorem eX9_back_32 : xGF mX9_back 32 9 7 35 := ⟨54, _, _, by decide +kernel, rfl, fl_X9_54⟩
theorem eX9_back_35 : xGF mX9_back 35 4 2 38 := ⟨195, _, _, by decide +kernel, rfl, fl_X9_195⟩
theorem eX9_back_38 : xD mX9_back 38 (.ireturn) 1 39 := ⟨by decide +kernel, rfl⟩
theorem eX9_count_0 : x_iload mX9_count 0 1 1 := Or.inl ⟨1, by decide +kernel, rfl, rfl⟩
def tX9_count_1 : Int → Nat := fun v => match v with | 0 => 60 | 1 => 68 | 2 => 76 | 3 => 87 | 4 => 98 | 5 => 106 | 6 => 114 | 7 => 122 | 8 => 130 | 9 => 138 | 10 => 146 | _ => 0
theorem eX9_count_1 : xTS mX9_count 1 0 10 tX9_count_1 154 := ⟨153, #[59, 67, 75, 86, 97, 105, 113, 121, 129, 137, 145], 59, by decide +kernel, by decide, by decide +kernel⟩
theorem eX9_count_60 : x_aload mX9_count 60 0 61 := Or.inl ⟨0, by decide +kernel, rfl, rfl⟩
theorem eX9_count_61 : xGF mX9_count 61 9 3 64 := ⟨30, _, _, by decide +kernel, rfl, fl_X9_30⟩
theorem eX9_count_64 : xGF mX9_count 64 2 5 67 := ⟨123, _, _, by decide +kernel, rfl, fl_X9_123⟩
theorem eX9_count_67 : xD mX9_count 67 (.ireturn) 1 68 := ⟨by decide +kernel, rfl⟩
theorem eX9_count_68 : x_aload mX9_count 68 0 69 := Or.inl ⟨0, by decide +kernel, rfl, rfl⟩
theorem eX9_count_69 : xGF mX9_count 69 9 3 72 := ⟨30, _, _, by decide +kernel, rfl, fl_X9_30⟩
theorem eX9_count_72 : xGF mX9_count 72 2 6 75 := ⟨126, _, _, by decide +kernel, rfl, fl_X9_126⟩
theorem eX9_count_75 : xD mX9_count 75 (.ireturn) 1 76 := ⟨by decide +kernel, rfl⟩
theorem eX9_count_76 : x_aload mX9_count 76 0 77 := Or.inl ⟨0, by decide +kernel, rfl, rfl⟩
theorem eX9_count_77 : xGF mX9_count 77 9 4 80 := ⟨38, _, _, by decide +kernel, rfl, fl_X9_38⟩
theorem eX9_count_80 : xGF mX9_count 80 0 5 83 := ⟨258, _, _, by decide +kernel, rfl, fl_X9_258⟩
set_option maxRecDepth 20000 in
theorem eX9_count_83 : xCS mX9_count 83 mJ6_bitCount_0f7a4 1 86 := ⟨261, by decide +kernel, rfl, ⟨cm_X9_261.1, cm_X9_261.2.1, cm_X9_261.2.2.1, cm_X9_261.2.2.2.1, cm_X9_261.2.2.2.2⟩, xT_3 105 rfl rfl⟩
theorem eX9_count_86 : xD mX9_count 86 (.ireturn) 1 87 := ⟨by decide +kernel, rfl⟩
theorem eX9_count_87 : x_aload mX9_count 87 0 88 := Or.inl ⟨0, by decide +kernel, rfl, rfl⟩
theorem eX9_count_88 : xGF mX9_count 88 9 4 91 := ⟨38, _, _, by decide +kernel, rfl, fl_X9_38⟩
theorem eX9_count_91 : xGF mX9_count 91 0 6 94 := ⟨266, _, _, by decide +kernel, rfl, fl_X9_266⟩
set_option maxRecDepth 20000 in
theorem eX9_count_94 : xCS mX9_count 94 mJ6_bitCount_0f7a4 1 97 := ⟨261, by decide +kernel, rfl, ⟨cm_X9_261.1, cm_X9_261.2.1, cm_X9_261.2.2.1, cm_X9_261.2.2.2.1, cm_X9_261.2.2.2.2⟩, xT_3 105 rfl rfl⟩
theorem eX9_count_97 : xD mX9_count 97 (.ireturn) 1 98 := ⟨by decide +kernel, rfl⟩
theorem eX9_count_98 : x_aload mX9_count 98 0 99 := Or.inl ⟨0, by decide +kernel, rfl, rfl⟩
theorem eX9_count_99 : xGF mX9_count 99 9 4 102 := ⟨38, _, _, by decide +kernel, rfl, fl_X9_38⟩
set_option maxRecDepth 20000 in
theorem eX9_count_102 : xCV mX9_count 102 mX0_found 0 0 105 := ⟨250, by decide +kernel, rfl, ⟨cm_X9_250.1, cm_X9_250.2.1, cm_X9_250.2.2.1, cm_X9_250.2.2.2.1, cm_X9_250.2.2.2.2⟩, xT_3 157 rfl rfl, xT_3 158 rfl rfl, _, rfl, rfl⟩
theorem eX9_count_105 : xD mX9_count 105 (.ireturn) 1 106 := ⟨by decide +kernel, rfl⟩
theorem eX9_count_106 : x_aload mX9_count 106 0 107 := Or.inl ⟨0, by decide +kernel, rfl, rfl⟩
theorem eX9_count_107 : xGF mX9_count 107 9 4 110 := ⟨38, _, _, by decide +kernel, rfl, fl_X9_38⟩
set_option maxRecDepth 20000 in
theorem eX9_count_110 : xCV mX9_count 110 mX0_allOxen 0 0 113 := ⟨269, by decide +kernel, rfl, ⟨cm_X9_269.1, cm_X9_269.2.1, cm_X9_269.2.2.1, cm_X9_269.2.2.2.1, cm_X9_269.2.2.2.2⟩, xT_4 41 rfl rfl, xT_4 42 rfl rfl, _, rfl, rfl⟩
theorem eX9_count_113 : xD mX9_count 113 (.ireturn) 1 114 := ⟨by decide +kernel, rfl⟩
theorem eX9_count_114 : x_aload mX9_count 114 0 115 := Or.inl ⟨0, by decide +kernel, rfl, rfl⟩
theorem eX9_count_115 : xGF mX9_count 115 9 4 118 := ⟨38, _, _, by decide +kernel, rfl, fl_X9_38⟩
set_option maxRecDepth 20000 in
theorem eX9_count_118 : xCV mX9_count 118 mX0_mostDays 0 0 121 := ⟨253, by decide +kernel, rfl, ⟨cm_X9_253.1, cm_X9_253.2.1, cm_X9_253.2.2.1, cm_X9_253.2.2.2.1, cm_X9_253.2.2.2.2⟩, xT_4 23 rfl rfl, xT_4 24 rfl rfl, _, rfl, rfl⟩
theorem eX9_count_121 : xD mX9_count 121 (.ireturn) 1 122 := ⟨by decide +kernel, rfl⟩
theorem eX9_count_122 : x_aload mX9_count 122 0 123 := Or.inl ⟨0, by decide +kernel, rfl, rfl⟩
theorem eX9_count_123 : xGF mX9_count 123 9 8 126 := ⟨60, _, _, by decide +kernel, rfl, fl_X9_60⟩
theorem eX9_count_126 : xGF mX9_count 126 8 2 129 := ⟨222, _, _, by decide +kernel, rfl, fl_X9_222⟩
theorem eX9_count_129 : xD mX9_count 129 (.ireturn) 1 130 := ⟨by decide +kernel, rfl⟩
theorem eX9_count_130 : x_aload mX9_count 130 0 131 := Or.inl ⟨0, by decide +kernel, rfl, rfl⟩
theorem eX9_count_131 : xGF mX9_count 131 9 6 134 := ⟨50, _, _, by decide +kernel, rfl, fl_X9_50⟩
theorem eX9_count_134 : xGF mX9_count 134 4 2 137 := ⟨195, _, _, by decide +kernel, rfl, fl_X9_195⟩
theorem eX9_count_137 : xD mX9_count 137 (.ireturn) 1 138 := ⟨by decide +kernel, rfl⟩
theorem eX9_count_138 : x_aload mX9_count 138 0 139 := Or.inl ⟨0, by decide +kernel, rfl, rfl⟩
theorem eX9_count_139 : xGF mX9_count 139 9 7 142 := ⟨54, _, _, by decide +kernel, rfl, fl_X9_54⟩
theorem eX9_count_142 : xGF mX9_count 142 4 2 145 := ⟨195, _, _, by decide +kernel, rfl, fl_X9_195⟩
theorem eX9_count_145 : xD mX9_count 145 (.ireturn) 1 146 := ⟨by decide +kernel, rfl⟩
theorem eX9_count_146 : x_aload mX9_count 146 0 147 := Or.inl ⟨0, by decide +kernel, rfl, rfl⟩
theorem eX9_count_147 : xGF mX9_count 147 9 0 150 := ⟨12, _, _, by decide +kernel, rfl, fl_X9_12⟩
theorem eX9_count_150 : xGF mX9_count 150 6 1 153 := ⟨115, _, _, by decide +kernel, rfl, fl_X9_115⟩
theorem eX9_count_153 : xD mX9_count 153 (.ireturn) 1 154 := ⟨by decide +kernel, rfl⟩
theorem eX9_count_154 : xK mX9_count 154 ((-1)) 155 := Or.inl (⟨(-1), by decide +kernel, by decide, rfl⟩)
theorem eX9_count_155 : xD mX9_count 155 (.ireturn) 1 156 := ⟨by decide +kernel, rfl⟩
theorem eX9_isWithin_0 : x_iload mX9_isWithin 0 0 1 := Or.inl ⟨0, by decide +kernel, rfl, rfl⟩
theorem eX9_isWithin_1 : x_iload mX9_isWithin 1 1 2 := Or.inl ⟨1, by decide +kernel, rfl, rfl⟩
theorem eX9_isWithin_2 : xJ mX9_isWithin 2 (.if_icmp .lt) 14 5 := ⟨(12), by decide +kernel, by decide, rfl⟩
theorem eX9_isWithin_5 : x_iload mX9_isWithin 5 0 6 := Or.inl ⟨0, by decide +kernel, rfl, rfl⟩
theorem eX9_isWithin_6 : x_iload mX9_isWithin 6 2 7 := Or.inl ⟨2, by decide +kernel, rfl, rfl⟩
theorem eX9_isWithin_7 : xJ mX9_isWithin 7 (.if_icmp .gt) 14 10 := ⟨(7), by decide +kernel, by decide, rfl⟩
theorem eX9_isWithin_10 : xK mX9_isWithin 10 (nI 1) 11 := Or.inl (⟨1, by decide +kernel, by decide, rfl⟩)
theorem eX9_isWithin_11 : xJ mX9_isWithin 11 (.goto) 15 14 := ⟨(4), by decide +kernel, by decide, rfl⟩
theorem eX9_isWithin_14 : xK mX9_isWithin 14 (nI 0) 15 := Or.inl (⟨0, by decide +kernel, by decide, rfl⟩)
theorem eX9_isWithin_15 : xD mX9_isWithin 15 (.ireturn) 1 16 := ⟨by decide +kernel, rfl⟩
theorem eX9_lowestOf_0 : xK mX9_lowestOf 0 (nI 0) 1 := Or.inl (⟨0, by decide +kernel, by decide, rfl⟩)
theorem eX9_lowestOf_1 : x_istore mX9_lowestOf 1 1 2 := Or.inl ⟨1, by decide +kernel, rfl, rfl⟩
theorem eX9_lowestOf_2 : x_iload mX9_lowestOf 2 1 3 := Or.inl ⟨1, by decide +kernel, rfl, rfl⟩
theorem eX9_lowestOf_3 : xK mX9_lowestOf 3 (nI 7) 5 := Or.inr (Or.inl (⟨7, by decide +kernel, by decide, rfl⟩))
theorem eX9_lowestOf_5 : xJ mX9_lowestOf 5 (.if_icmp .ge) 24 8 := ⟨(19), by decide +kernel, by decide, rfl⟩
theorem eX9_lowestOf_8 : x_iload mX9_lowestOf 8 0 9 := Or.inl ⟨0, by decide +kernel, rfl, rfl⟩
theorem eX9_lowestOf_9 : x_iload mX9_lowestOf 9 1 10 := Or.inl ⟨1, by decide +kernel, rfl, rfl⟩
theorem eX9_lowestOf_10 : xD mX9_lowestOf 10 (.ishr) 1 11 := ⟨by decide +kernel, rfl⟩
theorem eX9_lowestOf_11 : xK mX9_lowestOf 11 (nI 1) 12 := Or.inl (⟨1, by decide +kernel, by decide, rfl⟩)
theorem eX9_lowestOf_12 : xD mX9_lowestOf 12 (.iand) 1 13 := ⟨by decide +kernel, rfl⟩
theorem eX9_lowestOf_13 : xJ mX9_lowestOf 13 (.ifCond .eq) 18 16 := ⟨(5), by decide +kernel, by decide, rfl⟩
theorem eX9_lowestOf_16 : x_iload mX9_lowestOf 16 1 17 := Or.inl ⟨1, by decide +kernel, rfl, rfl⟩
theorem eX9_lowestOf_17 : xD mX9_lowestOf 17 (.ireturn) 1 18 := ⟨by decide +kernel, rfl⟩
theorem eX9_lowestOf_18 : xD mX9_lowestOf 18 (.iinc 1 1) 3 21 := ⟨by decide +kernel, rfl⟩
theorem eX9_lowestOf_21 : xJ mX9_lowestOf 21 (.goto) 2 24 := ⟨(-19), by decide +kernel, by decide, rfl⟩
theorem eX9_lowestOf_24 : xK mX9_lowestOf 24 ((-4)) 26 := Or.inr (Or.inl (⟨(-4), by decide +kernel, by decide, rfl⟩))
theorem eX9_lowestOf_26 : xD mX9_lowestOf 26 (.ireturn) 1 27 := ⟨by decide +kernel, rfl⟩
theorem eX9_isVillage_0 : x_iload mX9_isVillage 0 1 1 := Or.inl ⟨1, by decide +kernel, rfl, rfl⟩
theorem eX9_isVillage_1 : xK mX9_isVillage 1 (nI 0) 2 := Or.inl (⟨0, by decide +kernel, by decide, rfl⟩)
theorem eX9_isVillage_2 : x_aload mX9_isVillage 2 0 3 := Or.inl ⟨0, by decide +kernel, rfl, rfl⟩
theorem eX9_isVillage_3 : xGF mX9_isVillage 3 9 3 6 := ⟨30, _, _, by decide +kernel, rfl, fl_X9_30⟩
theorem eX9_isVillage_6 : xGF mX9_isVillage 6 2 5 9 := ⟨123, _, _, by decide +kernel, rfl, fl_X9_123⟩
theorem eX9_isVillage_9 : xK mX9_isVillage 9 (nI 1) 10 := Or.inl (⟨1, by decide +kernel, by decide, rfl⟩)
theorem eX9_isVillage_10 : xD mX9_isVillage 10 (.isub) 1 11 := ⟨by decide +kernel, rfl⟩
set_option maxRecDepth 20000 in
theorem eX9_isVillage_11 : xCS mX9_isVillage 11 mX9_isWithin 3 14 := ⟨107, by decide +kernel, rfl, ⟨cm_X9_107.1, cm_X9_107.2.1, cm_X9_107.2.2.1, cm_X9_107.2.2.2.1, cm_X9_107.2.2.2.2⟩, xT_2 126 rfl rfl⟩
theorem eX9_isVillage_14 : xD mX9_isVillage 14 (.ireturn) 1 15 := ⟨by decide +kernel, rfl⟩
theorem eX9_isParty_0 : x_iload mX9_isParty 0 1 1 := Or.inl ⟨1, by decide +kernel, rfl, rfl⟩
theorem eX9_isParty_1 : xK mX9_isParty 1 (nI 0) 2 := Or.inl (⟨0, by decide +kernel, by decide, rfl⟩)
theorem eX9_isParty_2 : x_aload mX9_isParty 2 0 3 := Or.inl ⟨0, by decide +kernel, rfl, rfl⟩
theorem eX9_isParty_3 : xGF mX9_isParty 3 9 3 6 := ⟨30, _, _, by decide +kernel, rfl, fl_X9_30⟩
theorem eX9_isParty_6 : xGF mX9_isParty 6 2 6 9 := ⟨126, _, _, by decide +kernel, rfl, fl_X9_126⟩
theorem eX9_isParty_9 : xK mX9_isParty 9 (nI 1) 10 := Or.inl (⟨1, by decide +kernel, by decide, rfl⟩)
theorem eX9_isParty_10 : xD mX9_isParty 10 (.isub) 1 11 := ⟨by decide +kernel, rfl⟩
set_option maxRecDepth 20000 in
theorem eX9_isParty_11 : xCS mX9_isParty 11 mX9_isWithin 3 14 := ⟨107, by decide +kernel, rfl, ⟨cm_X9_107.1, cm_X9_107.2.1, cm_X9_107.2.2.1, cm_X9_107.2.2.2.1, cm_X9_107.2.2.2.2⟩, xT_2 126 rfl rfl⟩
theorem eX9_isParty_14 : xD mX9_isParty 14 (.ireturn) 1 15 := ⟨by decide +kernel, rfl⟩
theorem eX9_layScroll_0 : x_aload mX9_layScroll 0 0 1 := Or.inl ⟨0, by decide +kernel, rfl, rfl⟩
theorem eX9_layScroll_1 : xGF mX9_layScroll 1 9 1 4 := ⟨19, _, _, by decide +kernel, rfl, fl_X9_19⟩
theorem eX9_layScroll_4 : x_aload mX9_layScroll 4 0 5 := Or.inl ⟨0, by decide +kernel, rfl, rfl⟩
theorem eX9_layScroll_5 : xGF mX9_layScroll 5 9 0 8 := ⟨12, _, _, by decide +kernel, rfl, fl_X9_12⟩
theorem eX9_layScroll_8 : x_aload mX9_layScroll 8 0 9 := Or.inl ⟨0, by decide +kernel, rfl, rfl⟩
theorem eX9_layScroll_9 : xGF mX9_layScroll 9 9 3 12 := ⟨30, _, _, by decide +kernel, rfl, fl_X9_30⟩
set_option maxRecDepth 20000 in
theorem eX9_layScroll_12 : xCV mX9_layScroll 12 mX5_readAll 2 5 15 := ⟨119, by decide +kernel, rfl, ⟨cm_X9_119.1, cm_X9_119.2.1, cm_X9_119.2.2.1, cm_X9_119.2.2.2.1, cm_X9_119.2.2.2.2⟩, xT_2 94 rfl rfl, xT_2 95 rfl rfl, _, rfl, rfl⟩
theorem eX9_layScroll_15 : xD mX9_layScroll 15 (.pop) 1 16 := ⟨by decide +kernel, rfl⟩
theorem eX9_layScroll_16 : x_aload mX9_layScroll 16 0 17 := Or.inl ⟨0, by decide +kernel, rfl, rfl⟩
theorem eX9_layScroll_17 : xGF mX9_layScroll 17 9 3 20 := ⟨30, _, _, by decide +kernel, rfl, fl_X9_30⟩
set_option maxRecDepth 20000 in
theorem eX9_layScroll_20 : xCV mX9_layScroll 20 mX2_measure 0 2 23 := ⟨272, by decide +kernel, rfl, ⟨cm_X9_272.1, cm_X9_272.2.1, cm_X9_272.2.2.1, cm_X9_272.2.2.2.1, cm_X9_272.2.2.2.2⟩, xT_2 141 rfl rfl, xT_2 142 rfl rfl, _, rfl, rfl⟩
theorem eX9_layScroll_23 : x_aload mX9_layScroll 23 0 24 := Or.inl ⟨0, by decide +kernel, rfl, rfl⟩
theorem eX9_layScroll_24 : xGF mX9_layScroll 24 9 4 27 := ⟨38, _, _, by decide +kernel, rfl, fl_X9_38⟩
set_option maxRecDepth 20000 in
theorem eX9_layScroll_27 : xCV mX9_layScroll 27 mX0_open 0 0 30 := ⟨275, by decide +kernel, rfl, ⟨cm_X9_275.1, cm_X9_275.2.1, cm_X9_275.2.2.1, cm_X9_275.2.2.2.1, cm_X9_275.2.2.2.2⟩, xT_2 148 rfl rfl, xT_2 149 rfl rfl, _, rfl, rfl⟩
theorem eX9_layScroll_30 : x_aload mX9_layScroll 30 0 31 := Or.inl ⟨0, by decide +kernel, rfl, rfl⟩
theorem eX9_layScroll_31 : xGF mX9_layScroll 31 9 8 34 := ⟨60, _, _, by decide +kernel, rfl, fl_X9_60⟩
set_option maxRecDepth 20000 in
theorem eX9_layScroll_34 : xCV mX9_layScroll 34 mX8_clear 0 8 37 := ⟨223, by decide +kernel, rfl, ⟨cm_X9_223.1, cm_X9_223.2.1, cm_X9_223.2.2.1, cm_X9_223.2.2.2.1, cm_X9_223.2.2.2.2⟩, xT_2 156 rfl rfl, xT_2 157 rfl rfl, _, rfl, rfl⟩
theorem eX9_layScroll_37 : x_aload mX9_layScroll 37 0 38 := Or.inl ⟨0, by decide +kernel, rfl, rfl⟩
theorem eX9_layScroll_38 : xGF mX9_layScroll 38 9 6 41 := ⟨50, _, _, by decide +kernel, rfl, fl_X9_50⟩
set_option maxRecDepth 20000 in
theorem eX9_layScroll_41 : xCV mX9_layScroll 41 mX4_clear 0 4 44 := ⟨257, by decide +kernel, rfl, ⟨cm_X9_257.1, cm_X9_257.2.1, cm_X9_257.2.2.1, cm_X9_257.2.2.2.1, cm_X9_257.2.2.2.2⟩, xT_2 160 rfl rfl, xT_2 161 rfl rfl, _, rfl, rfl⟩
theorem eX9_layScroll_44 : x_aload mX9_layScroll 44 0 45 := Or.inl ⟨0, by decide +kernel, rfl, rfl⟩
theorem eX9_layScroll_45 : xGF mX9_layScroll 45 9 7 48 := ⟨54, _, _, by decide +kernel, rfl, fl_X9_54⟩
set_option maxRecDepth 20000 in
theorem eX9_layScroll_48 : xCV mX9_layScroll 48 mX4_clear 0 4 51 := ⟨257, by decide +kernel, rfl, ⟨cm_X9_257.1, cm_X9_257.2.1, cm_X9_257.2.2.1, cm_X9_257.2.2.2.1, cm_X9_257.2.2.2.2⟩, xT_2 160 rfl rfl, xT_2 161 rfl rfl, _, rfl, rfl⟩
theorem eX9_layScroll_51 : xD mX9_layScroll 51 (.return_) 1 52 := ⟨by decide +kernel, rfl⟩
theorem eX9_bestOrder_0 : x_iload mX9_bestOrder 0 1 1 := Or.inl ⟨1, by decide +kernel, rfl, rfl⟩
theorem eX9_bestOrder_1 : xK mX9_bestOrder 1 (nI 0) 2 := Or.inl (⟨0, by decide +kernel, by decide, rfl⟩)
theorem eX9_bestOrder_2 : xK mX9_bestOrder 2 (nI 7) 4 := Or.inr (Or.inl (⟨7, by decide +kernel, by decide, rfl⟩))
set_option maxRecDepth 20000 in
theorem eX9_bestOrder_4 : xCS mX9_bestOrder 4 mX9_isWithin 3 7 := ⟨107, by decide +kernel, rfl, ⟨cm_X9_107.1, cm_X9_107.2.1, cm_X9_107.2.2.1, cm_X9_107.2.2.2.1, cm_X9_107.2.2.2.2⟩, xT_2 126 rfl rfl⟩
theorem eX9_bestOrder_7 : xJ mX9_bestOrder 7 (.ifCond .ne) 12 10 := ⟨(5), by decide +kernel, by decide, rfl⟩
theorem eX9_bestOrder_10 : xK mX9_bestOrder 10 ((-1)) 11 := Or.inl (⟨(-1), by decide +kernel, by decide, rfl⟩)
theorem eX9_bestOrder_11 : xD mX9_bestOrder 11 (.ireturn) 1 12 := ⟨by decide +kernel, rfl⟩
theorem eX9_bestOrder_12 : x_iload mX9_bestOrder 12 1 13 := Or.inl ⟨1, by decide +kernel, rfl, rfl⟩
theorem eX9_bestOrder_13 : x_aload mX9_bestOrder 13 0 14 := Or.inl ⟨0, by decide +kernel, rfl, rfl⟩
theorem eX9_bestOrder_14 : xGF mX9_bestOrder 14 9 4 17 := ⟨38, _, _, by decide +kernel, rfl, fl_X9_38⟩
set_option maxRecDepth 20000 in
theorem eX9_bestOrder_17 : xCV mX9_bestOrder 17 mX0_restSize 0 0 20 := ⟨278, by decide +kernel, rfl, ⟨cm_X9_278.1, cm_X9_278.2.1, cm_X9_278.2.2.1, cm_X9_278.2.2.2.1, cm_X9_278.2.2.2.2⟩, xT_3 100 rfl rfl, xT_3 101 rfl rfl, _, rfl, rfl⟩
theorem eX9_bestOrder_20 : xJ mX9_bestOrder 20 (.if_icmp .le) 26 23 := ⟨(6), by decide +kernel, by decide, rfl⟩
theorem eX9_bestOrder_23 : xK mX9_bestOrder 23 ((-4)) 25 := Or.inr (Or.inl (⟨(-4), by decide +kernel, by decide, rfl⟩))
theorem eX9_bestOrder_25 : xD mX9_bestOrder 25 (.ireturn) 1 26 := ⟨by decide +kernel, rfl⟩
theorem eX9_bestOrder_26 : x_aload mX9_bestOrder 26 0 27 := Or.inl ⟨0, by decide +kernel, rfl, rfl⟩
theorem eX9_bestOrder_27 : xGF mX9_bestOrder 27 9 10 30 := ⟨74, _, _, by decide +kernel, rfl, fl_X9_74⟩
theorem eX9_bestOrder_30 : x_aload mX9_bestOrder 30 0 31 := Or.inl ⟨0, by decide +kernel, rfl, rfl⟩
theorem eX9_bestOrder_31 : xGF mX9_bestOrder 31 9 4 34 := ⟨38, _, _, by decide +kernel, rfl, fl_X9_38⟩
theorem eX9_bestOrder_34 : x_iload mX9_bestOrder 34 2 35 := Or.inl ⟨2, by decide +kernel, rfl, rfl⟩
set_option maxRecDepth 20000 in
theorem eX9_bestOrder_35 : xCV mX9_bestOrder 35 mX3_seek 2 3 38 := ⟨281, by decide +kernel, rfl, ⟨cm_X9_281.1, cm_X9_281.2.1, cm_X9_281.2.2.1, cm_X9_281.2.2.2.1, cm_X9_281.2.2.2.2⟩, xT_3 147 rfl rfl, xT_3 148 rfl rfl, _, rfl, rfl⟩
theorem eX9_bestOrder_38 : x_iload mX9_bestOrder 38 1 39 := Or.inl ⟨1, by decide +kernel, rfl, rfl⟩
theorem eX9_bestOrder_39 : xJ mX9_bestOrder 39 (.ifCond .ne) 52 42 := ⟨(13), by decide +kernel, by decide, rfl⟩
theorem eX9_bestOrder_42 : x_aload mX9_bestOrder 42 0 43 := Or.inl ⟨0, by decide +kernel, rfl, rfl⟩
theorem eX9_bestOrder_43 : xGF mX9_bestOrder 43 9 10 46 := ⟨74, _, _, by decide +kernel, rfl, fl_X9_74⟩
theorem eX9_bestOrder_46 : xGF mX9_bestOrder 46 3 7 49 := ⟨284, _, _, by decide +kernel, rfl, fl_X9_284⟩
theorem eX9_bestOrder_49 : xJ mX9_bestOrder 49 (.goto) 63 52 := ⟨(14), by decide +kernel, by decide, rfl⟩
theorem eX9_bestOrder_52 : x_aload mX9_bestOrder 52 0 53 := Or.inl ⟨0, by decide +kernel, rfl, rfl⟩
theorem eX9_bestOrder_53 : xGF mX9_bestOrder 53 9 10 56 := ⟨74, _, _, by decide +kernel, rfl, fl_X9_74⟩
theorem eX9_bestOrder_56 : xGF mX9_bestOrder 56 3 3 59 := ⟨287, _, _, by decide +kernel, rfl, fl_X9_287⟩
theorem eX9_bestOrder_59 : x_iload mX9_bestOrder 59 1 60 := Or.inl ⟨1, by decide +kernel, rfl, rfl⟩
theorem eX9_bestOrder_60 : xK mX9_bestOrder 60 (nI 1) 61 := Or.inl (⟨1, by decide +kernel, by decide, rfl⟩)
theorem eX9_bestOrder_61 : xD mX9_bestOrder 61 (.isub) 1 62 := ⟨by decide +kernel, rfl⟩
theorem eX9_bestOrder_62 : xD mX9_bestOrder 62 (.iaload) 1 63 := ⟨by decide +kernel, rfl⟩
theorem eX9_bestOrder_63 : xD mX9_bestOrder 63 (.ireturn) 1 64 := ⟨by decide +kernel, rfl⟩
theorem eX9_bestChecks_0 : x_aload mX9_bestChecks 0 0 1 := Or.inl ⟨0, by decide +kernel, rfl, rfl⟩
theorem eX9_bestChecks_1 : xGF mX9_bestChecks 1 9 4 4 := ⟨38, _, _, by decide +kernel, rfl, fl_X9_38⟩
theorem eX9_bestChecks_4 : xGF mX9_bestChecks 4 0 5 7 := ⟨258, _, _, by decide +kernel, rfl, fl_X9_258⟩
theorem eX9_bestChecks_7 : x_aload mX9_bestChecks 7 0 8 := Or.inl ⟨0, by decide +kernel, rfl, rfl⟩
theorem eX9_bestChecks_8 : xGF mX9_bestChecks 8 9 4 11 := ⟨38, _, _, by decide +kernel, rfl, fl_X9_38⟩
theorem eX9_bestChecks_11 : xGF mX9_bestChecks 11 0 6 14 := ⟨266, _, _, by decide +kernel, rfl, fl_X9_266⟩
theorem eX9_bestChecks_14 : xK mX9_bestChecks 14 ((-1)) 15 := Or.inl (⟨(-1), by decide +kernel, by decide, rfl⟩)
theorem eX9_bestChecks_15 : xD mX9_bestChecks 15 (.ixor) 1 16 := ⟨by decide +kernel, rfl⟩
theorem eX9_bestChecks_16 : xD mX9_bestChecks 16 (.iand) 1 17 := ⟨by decide +kernel, rfl⟩
theorem eX9_bestChecks_17 : x_istore mX9_bestChecks 17 2 18 := Or.inl ⟨2, by decide +kernel, rfl, rfl⟩
theorem eX9_bestChecks_18 : x_iload mX9_bestChecks 18 1 19 := Or.inl ⟨1, by decide +kernel, rfl, rfl⟩
theorem eX9_bestChecks_19 : x_iload mX9_bestChecks 19 2 20 := Or.inl ⟨2, by decide +kernel, rfl, rfl⟩
set_option maxRecDepth 20000 in
theorem eX9_bestChecks_20 : xCS mX9_bestChecks 20 mJ6_bitCount_0f7a4 1 23 := ⟨261, by decide +kernel, rfl, ⟨cm_X9_261.1, cm_X9_261.2.1, cm_X9_261.2.2.1, cm_X9_261.2.2.2.1, cm_X9_261.2.2.2.2⟩, xT_3 105 rfl rfl⟩
set_option maxRecDepth 20000 in
theorem eX9_bestChecks_23 : xCS mX9_bestChecks 23 mJ9_min_7cf53 2 26 := ⟨290, by decide +kernel, rfl, ⟨cm_X9_290.1, cm_X9_290.2.1, cm_X9_290.2.2.1, cm_X9_290.2.2.2.1, cm_X9_290.2.2.2.2⟩, xT_2 145 rfl rfl⟩
theorem eX9_bestChecks_26 : x_istore mX9_bestChecks 26 3 27 := Or.inl ⟨3, by decide +kernel, rfl, rfl⟩
theorem eX9_bestChecks_27 : xK mX9_bestChecks 27 ((-4)) 29 := Or.inr (Or.inl (⟨(-4), by decide +kernel, by decide, rfl⟩))
theorem eX9_bestChecks_29 : x_istore mX9_bestChecks 29 4 31 := Or.inr ⟨by decide +kernel, rfl⟩
theorem eX9_bestChecks_31 : xK mX9_bestChecks 31 (nI 0) 32 := Or.inl (⟨0, by decide +kernel, by decide, rfl⟩)
theorem eX9_bestChecks_32 : x_istore mX9_bestChecks 32 5 34 := Or.inr ⟨by decide +kernel, rfl⟩
theorem eX9_bestChecks_34 : x_iload mX9_bestChecks 34 5 36 := Or.inr ⟨by decide +kernel, rfl⟩
theorem eX9_bestChecks_36 : xK mX9_bestChecks 36 (nI 128) 39 := Or.inr (Or.inr (Or.inl (⟨128, by decide +kernel, by decide, rfl⟩)))
theorem eX9_bestChecks_39 : xJ mX9_bestChecks 39 (.if_icmp .ge) 98 42 := ⟨(59), by decide +kernel, by decide, rfl⟩
theorem eX9_bestChecks_42 : x_iload mX9_bestChecks 42 5 44 := Or.inr ⟨by decide +kernel, rfl⟩
theorem eX9_bestChecks_44 : x_iload mX9_bestChecks 44 2 45 := Or.inl ⟨2, by decide +kernel, rfl, rfl⟩
theorem eX9_bestChecks_45 : xK mX9_bestChecks 45 ((-1)) 46 := Or.inl (⟨(-1), by decide +kernel, by decide, rfl⟩)
theorem eX9_bestChecks_46 : xD mX9_bestChecks 46 (.ixor) 1 47 := ⟨by decide +kernel, rfl⟩
theorem eX9_bestChecks_47 : xD mX9_bestChecks 47 (.iand) 1 48 := ⟨by decide +kernel, rfl⟩
theorem eX9_bestChecks_48 : xJ mX9_bestChecks 48 (.ifCond .ne) 92 51 := ⟨(44), by decide +kernel, by decide, rfl⟩
theorem eX9_bestChecks_51 : x_iload mX9_bestChecks 51 5 53 := Or.inr ⟨by decide +kernel, rfl⟩
set_option maxRecDepth 20000 in
theorem eX9_bestChecks_53 : xCS mX9_bestChecks 53 mJ6_bitCount_0f7a4 1 56 := ⟨261, by decide +kernel, rfl, ⟨cm_X9_261.1, cm_X9_261.2.1, cm_X9_261.2.2.1, cm_X9_261.2.2.2.1, cm_X9_261.2.2.2.2⟩, xT_3 105 rfl rfl⟩
theorem eX9_bestChecks_56 : x_iload mX9_bestChecks 56 3 57 := Or.inl ⟨3, by decide +kernel, rfl, rfl⟩
theorem eX9_bestChecks_57 : xJ mX9_bestChecks 57 (.if_icmp .ne) 92 60 := ⟨(35), by decide +kernel, by decide, rfl⟩
theorem eX9_bestChecks_60 : x_iload mX9_bestChecks 60 4 62 := Or.inr ⟨by decide +kernel, rfl⟩
theorem eX9_bestChecks_62 : xK mX9_bestChecks 62 ((-4)) 64 := Or.inr (Or.inl (⟨(-4), by decide +kernel, by decide, rfl⟩))
theorem eX9_bestChecks_64 : xJ mX9_bestChecks 64 (.if_icmp .eq) 88 67 := ⟨(24), by decide +kernel, by decide, rfl⟩
theorem eX9_bestChecks_67 : x_aload mX9_bestChecks 67 0 68 := Or.inl ⟨0, by decide +kernel, rfl, rfl⟩
theorem eX9_bestChecks_68 : xGF mX9_bestChecks 68 9 4 71 := ⟨38, _, _, by decide +kernel, rfl, fl_X9_38⟩
theorem eX9_bestChecks_71 : x_iload mX9_bestChecks 71 5 73 := Or.inr ⟨by decide +kernel, rfl⟩
set_option maxRecDepth 20000 in
theorem eX9_bestChecks_73 : xCV mX9_bestChecks 73 mX0_gainOf 1 0 76 := ⟨215, by decide +kernel, rfl, ⟨cm_X9_215.1, cm_X9_215.2.1, cm_X9_215.2.2.1, cm_X9_215.2.2.2.1, cm_X9_215.2.2.2.2⟩, xT_3 182 rfl rfl, xT_3 183 rfl rfl, _, rfl, rfl⟩
theorem eX9_bestChecks_76 : x_aload mX9_bestChecks 76 0 77 := Or.inl ⟨0, by decide +kernel, rfl, rfl⟩
theorem eX9_bestChecks_77 : xGF mX9_bestChecks 77 9 4 80 := ⟨38, _, _, by decide +kernel, rfl, fl_X9_38⟩
theorem eX9_bestChecks_80 : x_iload mX9_bestChecks 80 4 82 := Or.inr ⟨by decide +kernel, rfl⟩
set_option maxRecDepth 20000 in
theorem eX9_bestChecks_82 : xCV mX9_bestChecks 82 mX0_gainOf 1 0 85 := ⟨215, by decide +kernel, rfl, ⟨cm_X9_215.1, cm_X9_215.2.1, cm_X9_215.2.2.1, cm_X9_215.2.2.2.1, cm_X9_215.2.2.2.2⟩, xT_3 182 rfl rfl, xT_3 183 rfl rfl, _, rfl, rfl⟩
theorem eX9_bestChecks_85 : xJ mX9_bestChecks 85 (.if_icmp .le) 92 88 := ⟨(7), by decide +kernel, by decide, rfl⟩
theorem eX9_bestChecks_88 : x_iload mX9_bestChecks 88 5 90 := Or.inr ⟨by decide +kernel, rfl⟩
theorem eX9_bestChecks_90 : x_istore mX9_bestChecks 90 4 92 := Or.inr ⟨by decide +kernel, rfl⟩
theorem eX9_bestChecks_92 : xD mX9_bestChecks 92 (.iinc 5 1) 3 95 := ⟨by decide +kernel, rfl⟩
theorem eX9_bestChecks_95 : xJ mX9_bestChecks 95 (.goto) 34 98 := ⟨(-61), by decide +kernel, by decide, rfl⟩
theorem eX9_bestChecks_98 : x_iload mX9_bestChecks 98 4 100 := Or.inr ⟨by decide +kernel, rfl⟩
theorem eX9_bestChecks_100 : xD mX9_bestChecks 100 (.ireturn) 1 101 := ⟨by decide +kernel, rfl⟩
set_option maxRecDepth 20000 in
theorem eX9_drawOf_0 : xKL mX9_drawOf 0 (7919) 3 := Or.inr ⟨295, by decide +kernel, xT_4 13 rfl rfl, rfl⟩
theorem eX9_drawOf_3 : x_iload mX9_drawOf 3 0 4 := Or.inl ⟨0, by decide +kernel, rfl, rfl⟩
theorem eX9_drawOf_4 : xD mX9_drawOf 4 (.i2l) 1 5 := ⟨by decide +kernel, rfl⟩
theorem eX9_drawOf_5 : xD mX9_drawOf 5 (.lmul) 1 6 := ⟨by decide +kernel, rfl⟩
set_option maxRecDepth 20000 in
theorem eX9_drawOf_6 : xKL mX9_drawOf 6 (6151) 9 := Or.inr ⟨297, by decide +kernel, xT_4 14 rfl rfl, rfl⟩
theorem eX9_drawOf_9 : x_iload mX9_drawOf 9 1 10 := Or.inl ⟨1, by decide +kernel, rfl, rfl⟩
theorem eX9_drawOf_10 : xD mX9_drawOf 10 (.i2l) 1 11 := ⟨by decide +kernel, rfl⟩
theorem eX9_drawOf_11 : xD mX9_drawOf 11 (.lmul) 1 12 := ⟨by decide +kernel, rfl⟩
theorem eX9_drawOf_12 : xD mX9_drawOf 12 (.ladd) 1 13 := ⟨by decide +kernel, rfl⟩
theorem eX9_drawOf_13 : xKL mX9_drawOf 13 (1) 14 := Or.inl ⟨1, by decide +kernel, by decide, rfl⟩
theorem eX9_drawOf_14 : xD mX9_drawOf 14 (.ladd) 1 15 := ⟨by decide +kernel, rfl⟩
theorem eX9_drawOf_15 : x_lstore mX9_drawOf 15 2 16 := Or.inl ⟨2, by decide +kernel, rfl, rfl⟩
theorem eX9_drawOf_16 : x_lload mX9_drawOf 16 2 17 := Or.inl ⟨2, by decide +kernel, rfl, rfl⟩
theorem eX9_drawOf_17 : x_lload mX9_drawOf 17 2 18 := Or.inl ⟨2, by decide +kernel, rfl, rfl⟩
theorem eX9_drawOf_18 : xD mX9_drawOf 18 (.lmul) 1 19 := ⟨by decide +kernel, rfl⟩
set_option maxRecDepth 20000 in
theorem eX9_drawOf_19 : xKL mX9_drawOf 19 (65521) 22 := Or.inr ⟨299, by decide +kernel, xT_4 15 rfl rfl, rfl⟩
theorem eX9_drawOf_22 : xD mX9_drawOf 22 (.lrem) 1 23 := ⟨by decide +kernel, rfl⟩
set_option maxRecDepth 20000 in
theorem eX9_drawOf_23 : xKL mX9_drawOf 23 (2) 26 := Or.inr ⟨301, by decide +kernel, xT_4 16 rfl rfl, rfl⟩
theorem eX9_drawOf_26 : xD mX9_drawOf 26 (.ldiv) 1 27 := ⟨by decide +kernel, rfl⟩
theorem eX9_drawOf_27 : xD mX9_drawOf 27 (.l2i) 1 28 := ⟨by decide +kernel, rfl⟩
theorem eX9_drawOf_28 : xD mX9_drawOf 28 (.ireturn) 1 29 := ⟨by decide +kernel, rfl⟩
theorem eX9_stepByDraw_0 : x_aload mX9_stepByDraw 0 0 1 := Or.inl ⟨0, by decide +kernel, rfl, rfl⟩
theorem eX9_stepByDraw_1 : xGF mX9_stepByDraw 1 9 3 4 := ⟨30, _, _, by decide +kernel, rfl, fl_X9_30⟩
theorem eX9_stepByDraw_4 : xGF mX9_stepByDraw 4 2 6 7 := ⟨126, _, _, by decide +kernel, rfl, fl_X9_126⟩
theorem eX9_stepByDraw_7 : xK mX9_stepByDraw 7 (nI 1) 8 := Or.inl (⟨1, by decide +kernel, by decide, rfl⟩)
theorem eX9_stepByDraw_8 : xJ mX9_stepByDraw 8 (.if_icmp .lt) 22 11 := ⟨(14), by decide +kernel, by decide, rfl⟩
theorem eX9_stepByDraw_11 : x_aload mX9_stepByDraw 11 0 12 := Or.inl ⟨0, by decide +kernel, rfl, rfl⟩
theorem eX9_stepByDraw_12 : xGF mX9_stepByDraw 12 9 3 15 := ⟨30, _, _, by decide +kernel, rfl, fl_X9_30⟩
theorem eX9_stepByDraw_15 : xGF mX9_stepByDraw 15 2 5 18 := ⟨123, _, _, by decide +kernel, rfl, fl_X9_123⟩
theorem eX9_stepByDraw_18 : xK mX9_stepByDraw 18 (nI 1) 19 := Or.inl (⟨1, by decide +kernel, by decide, rfl⟩)
theorem eX9_stepByDraw_19 : xJ mX9_stepByDraw 19 (.if_icmp .ge) 23 22 := ⟨(4), by decide +kernel, by decide, rfl⟩
theorem eX9_stepByDraw_22 : xD mX9_stepByDraw 22 (.return_) 1 23 := ⟨by decide +kernel, rfl⟩
theorem eX9_stepByDraw_23 : x_iload mX9_stepByDraw 23 1 24 := Or.inl ⟨1, by decide +kernel, rfl, rfl⟩
theorem eX9_stepByDraw_24 : x_aload mX9_stepByDraw 24 0 25 := Or.inl ⟨0, by decide +kernel, rfl, rfl⟩
theorem eX9_stepByDraw_25 : xGF mX9_stepByDraw 25 9 3 28 := ⟨30, _, _, by decide +kernel, rfl, fl_X9_30⟩
theorem eX9_stepByDraw_28 : xGF mX9_stepByDraw 28 2 6 31 := ⟨126, _, _, by decide +kernel, rfl, fl_X9_126⟩
theorem eX9_stepByDraw_31 : xD mX9_stepByDraw 31 (.irem) 1 32 := ⟨by decide +kernel, rfl⟩
theorem eX9_stepByDraw_32 : x_istore mX9_stepByDraw 32 2 33 := Or.inl ⟨2, by decide +kernel, rfl, rfl⟩
theorem eX9_stepByDraw_33 : x_iload mX9_stepByDraw 33 1 34 := Or.inl ⟨1, by decide +kernel, rfl, rfl⟩
theorem eX9_stepByDraw_34 : xK mX9_stepByDraw 34 (nI 8) 36 := Or.inr (Or.inl (⟨8, by decide +kernel, by decide, rfl⟩))
theorem eX9_stepByDraw_36 : xD mX9_stepByDraw 36 (.idiv) 1 37 := ⟨by decide +kernel, rfl⟩
theorem eX9_stepByDraw_37 : x_aload mX9_stepByDraw 37 0 38 := Or.inl ⟨0, by decide +kernel, rfl, rfl⟩
theorem eX9_stepByDraw_38 : xGF mX9_stepByDraw 38 9 3 41 := ⟨30, _, _, by decide +kernel, rfl, fl_X9_30⟩
theorem eX9_stepByDraw_41 : xGF mX9_stepByDraw 41 2 5 44 := ⟨123, _, _, by decide +kernel, rfl, fl_X9_123⟩
theorem eX9_stepByDraw_44 : xD mX9_stepByDraw 44 (.irem) 1 45 := ⟨by decide +kernel, rfl⟩
theorem eX9_stepByDraw_45 : x_istore mX9_stepByDraw 45 3 46 := Or.inl ⟨3, by decide +kernel, rfl, rfl⟩
theorem eX9_stepByDraw_46 : x_iload mX9_stepByDraw 46 1 47 := Or.inl ⟨1, by decide +kernel, rfl, rfl⟩
theorem eX9_stepByDraw_47 : xK mX9_stepByDraw 47 (nI 64) 49 := Or.inr (Or.inl (⟨64, by decide +kernel, by decide, rfl⟩))
theorem eX9_stepByDraw_49 : xD mX9_stepByDraw 49 (.idiv) 1 50 := ⟨by decide +kernel, rfl⟩
theorem eX9_stepByDraw_50 : xK mX9_stepByDraw 50 (nI 3) 51 := Or.inl (⟨3, by decide +kernel, by decide, rfl⟩)
theorem eX9_stepByDraw_51 : xD mX9_stepByDraw 51 (.irem) 1 52 := ⟨by decide +kernel, rfl⟩
theorem eX9_stepByDraw_52 : x_istore mX9_stepByDraw 52 4 54 := Or.inr ⟨by decide +kernel, rfl⟩
theorem eX9_stepByDraw_54 : x_aload mX9_stepByDraw 54 0 55 := Or.inl ⟨0, by decide +kernel, rfl, rfl⟩
theorem eX9_stepByDraw_55 : xGF mX9_stepByDraw 55 9 5 58 := ⟨42, _, _, by decide +kernel, rfl, fl_X9_42⟩
theorem eX9_stepByDraw_58 : x_iload mX9_stepByDraw 58 2 59 := Or.inl ⟨2, by decide +kernel, rfl, rfl⟩
theorem eX9_stepByDraw_59 : x_iload mX9_stepByDraw 59 3 60 := Or.inl ⟨3, by decide +kernel, rfl, rfl⟩
set_option maxRecDepth 20000 in
theorem eX9_stepByDraw_60 : xCV mX9_stepByDraw 60 mX0_canBeAsked 2 0 63 := ⟨173, by decide +kernel, rfl, ⟨cm_X9_173.1, cm_X9_173.2.1, cm_X9_173.2.2.1, cm_X9_173.2.2.2.1, cm_X9_173.2.2.2.2⟩, xT_3 24 rfl rfl, xT_3 25 rfl rfl, _, rfl, rfl⟩
theorem eX9_stepByDraw_63 : xJ mX9_stepByDraw 63 (.ifCond .eq) 79 66 := ⟨(16), by decide +kernel, by decide, rfl⟩
theorem eX9_stepByDraw_66 : x_aload mX9_stepByDraw 66 0 67 := Or.inl ⟨0, by decide +kernel, rfl, rfl⟩
theorem eX9_stepByDraw_67 : xGF mX9_stepByDraw 67 9 5 70 := ⟨42, _, _, by decide +kernel, rfl, fl_X9_42⟩
theorem eX9_stepByDraw_70 : x_iload mX9_stepByDraw 70 2 71 := Or.inl ⟨2, by decide +kernel, rfl, rfl⟩
theorem eX9_stepByDraw_71 : x_iload mX9_stepByDraw 71 3 72 := Or.inl ⟨3, by decide +kernel, rfl, rfl⟩
set_option maxRecDepth 20000 in
theorem eX9_stepByDraw_72 : xCV mX9_stepByDraw 72 mX0_askBy 2 0 75 := ⟨181, by decide +kernel, rfl, ⟨cm_X9_181.1, cm_X9_181.2.1, cm_X9_181.2.2.1, cm_X9_181.2.2.2.1, cm_X9_181.2.2.2.2⟩, xT_3 50 rfl rfl, xT_3 51 rfl rfl, _, rfl, rfl⟩
theorem eX9_stepByDraw_75 : xD mX9_stepByDraw 75 (.pop) 1 76 := ⟨by decide +kernel, rfl⟩
theorem eX9_stepByDraw_76 : xJ mX9_stepByDraw 76 (.goto) 133 79 := ⟨(57), by decide +kernel, by decide, rfl⟩
theorem eX9_stepByDraw_79 : x_iload mX9_stepByDraw 79 4 81 := Or.inr ⟨by decide +kernel, rfl⟩
theorem eX9_stepByDraw_81 : xJ mX9_stepByDraw 81 (.ifCond .ne) 107 84 := ⟨(26), by decide +kernel, by decide, rfl⟩
theorem eX9_stepByDraw_84 : x_aload mX9_stepByDraw 84 0 85 := Or.inl ⟨0, by decide +kernel, rfl, rfl⟩
theorem eX9_stepByDraw_85 : xGF mX9_stepByDraw 85 9 5 88 := ⟨42, _, _, by decide +kernel, rfl, fl_X9_42⟩
theorem eX9_stepByDraw_88 : x_iload mX9_stepByDraw 88 3 89 := Or.inl ⟨3, by decide +kernel, rfl, rfl⟩
set_option maxRecDepth 20000 in
theorem eX9_stepByDraw_89 : xCV mX9_stepByDraw 89 mX0_canBeChecked 1 0 92 := ⟨185, by decide +kernel, rfl, ⟨cm_X9_185.1, cm_X9_185.2.1, cm_X9_185.2.2.1, cm_X9_185.2.2.2.1, cm_X9_185.2.2.2.2⟩, xT_3 63 rfl rfl, xT_3 64 rfl rfl, _, rfl, rfl⟩
theorem eX9_stepByDraw_92 : xJ mX9_stepByDraw 92 (.ifCond .eq) 107 95 := ⟨(15), by decide +kernel, by decide, rfl⟩
theorem eX9_stepByDraw_95 : x_aload mX9_stepByDraw 95 0 96 := Or.inl ⟨0, by decide +kernel, rfl, rfl⟩
theorem eX9_stepByDraw_96 : xGF mX9_stepByDraw 96 9 5 99 := ⟨42, _, _, by decide +kernel, rfl, fl_X9_42⟩
theorem eX9_stepByDraw_99 : x_iload mX9_stepByDraw 99 3 100 := Or.inl ⟨3, by decide +kernel, rfl, rfl⟩
set_option maxRecDepth 20000 in
theorem eX9_stepByDraw_100 : xCV mX9_stepByDraw 100 mX0_writeOxen 1 0 103 := ⟨188, by decide +kernel, rfl, ⟨cm_X9_188.1, cm_X9_188.2.1, cm_X9_188.2.2.1, cm_X9_188.2.2.2.1, cm_X9_188.2.2.2.2⟩, xT_3 68 rfl rfl, xT_3 69 rfl rfl, _, rfl, rfl⟩
theorem eX9_stepByDraw_103 : xD mX9_stepByDraw 103 (.pop) 1 104 := ⟨by decide +kernel, rfl⟩
theorem eX9_stepByDraw_104 : xJ mX9_stepByDraw 104 (.goto) 133 107 := ⟨(29), by decide +kernel, by decide, rfl⟩
theorem eX9_stepByDraw_107 : x_iload mX9_stepByDraw 107 4 109 := Or.inr ⟨by decide +kernel, rfl⟩
theorem eX9_stepByDraw_109 : xK mX9_stepByDraw 109 (nI 1) 110 := Or.inl (⟨1, by decide +kernel, by decide, rfl⟩)
theorem eX9_stepByDraw_110 : xJ mX9_stepByDraw 110 (.if_icmp .ne) 133 113 := ⟨(23), by decide +kernel, by decide, rfl⟩
theorem eX9_stepByDraw_113 : x_aload mX9_stepByDraw 113 0 114 := Or.inl ⟨0, by decide +kernel, rfl, rfl⟩
theorem eX9_stepByDraw_114 : xGF mX9_stepByDraw 114 9 5 117 := ⟨42, _, _, by decide +kernel, rfl, fl_X9_42⟩
theorem eX9_stepByDraw_117 : x_iload mX9_stepByDraw 117 3 118 := Or.inl ⟨3, by decide +kernel, rfl, rfl⟩
set_option maxRecDepth 20000 in
theorem eX9_stepByDraw_118 : xCV mX9_stepByDraw 118 mX0_holds 1 0 121 := ⟨140, by decide +kernel, rfl, ⟨cm_X9_140.1, cm_X9_140.2.1, cm_X9_140.2.2.1, cm_X9_140.2.2.2.1, cm_X9_140.2.2.2.2⟩, xT_2 232 rfl rfl, xT_2 233 rfl rfl, _, rfl, rfl⟩
theorem eX9_stepByDraw_121 : xJ mX9_stepByDraw 121 (.ifCond .eq) 133 124 := ⟨(12), by decide +kernel, by decide, rfl⟩
theorem eX9_stepByDraw_124 : x_aload mX9_stepByDraw 124 0 125 := Or.inl ⟨0, by decide +kernel, rfl, rfl⟩
theorem eX9_stepByDraw_125 : xGF mX9_stepByDraw 125 9 5 128 := ⟨42, _, _, by decide +kernel, rfl, fl_X9_42⟩
theorem eX9_stepByDraw_128 : x_iload mX9_stepByDraw 128 3 129 := Or.inl ⟨3, by decide +kernel, rfl, rfl⟩
set_option maxRecDepth 20000 in
theorem eX9_stepByDraw_129 : xCV mX9_stepByDraw 129 mX0_strikeOut 1 0 132 := ⟨192, by decide +kernel, rfl, ⟨cm_X9_192.1, cm_X9_192.2.1, cm_X9_192.2.2.1, cm_X9_192.2.2.2.1, cm_X9_192.2.2.2.2⟩, xT_3 76 rfl rfl, xT_3 77 rfl rfl, _, rfl, rfl⟩
theorem eX9_stepByDraw_132 : xD mX9_stepByDraw 132 (.pop) 1 133 := ⟨by decide +kernel, rfl⟩
theorem eX9_stepByDraw_133 : xD mX9_stepByDraw 133 (.return_) 1 134 := ⟨by decide +kernel, rfl⟩
end
section
theorem eX10_init_0 : x_aload mX10_init 0 0 1 := Or.inl ⟨0, by decide +kernel, rfl, rfl⟩
theorem eX10_init_4 : x_aload mX10_init 4 0 5 := Or.inl ⟨0, by decide +kernel, rfl, rfl⟩
theorem eX10_init_5 : xK mX10_init 5 (nI 7) 7 := Or.inr (Or.inl (⟨7, by decide +kernel, by decide, rfl⟩))
set_option maxRecDepth 20000 in
theorem eX10_init_9 : xPF mX10_init 9 10 1 (.array .int) 12 := ⟨7, _, by decide +kernel, rfl, fl_X10_7, fun _ => ⟨rfl, ⟨_, rfl, rfl⟩, _, rfl, xT_4 70 rfl rfl⟩⟩
theorem eX10_init_12 : x_aload mX10_init 12 0 13 := Or.inl ⟨0, by decide +kernel, rfl, rfl⟩
theorem eX10_init_13 : xK mX10_init 13 (nI 49) 15 := Or.inr (Or.inl (⟨49, by decide +kernel, by decide, rfl⟩))
set_option maxRecDepth 20000 in
theorem eX10_init_17 : xPF mX10_init 17 10 3 (.array .int) 20 := ⟨13, _, by decide +kernel, rfl, fl_X10_13, fun _ => ⟨rfl, ⟨_, rfl, rfl⟩, _, rfl, xT_4 72 rfl rfl⟩⟩
theorem eX10_init_20 : x_aload mX10_init 20 0 21 := Or.inl ⟨0, by decide +kernel, rfl, rfl⟩
theorem eX10_init_21 : xK mX10_init 21 (nI 49) 23 := Or.inr (Or.inl (⟨49, by decide +kernel, by decide, rfl⟩))
set_option maxRecDepth 20000 in
theorem eX10_init_25 : xPF mX10_init 25 10 4 (.array .int) 28 := ⟨16, _, by decide +kernel, rfl, fl_X10_16, fun _ => ⟨rfl, ⟨_, rfl, rfl⟩, _, rfl, xT_4 73 rfl rfl⟩⟩
theorem eX10_init_28 : x_aload mX10_init 28 0 29 := Or.inl ⟨0, by decide +kernel, rfl, rfl⟩
theorem eX10_init_29 : xK mX10_init 29 (nI 7) 31 := Or.inr (Or.inl (⟨7, by decide +kernel, by decide, rfl⟩))
set_option maxRecDepth 20000 in
theorem eX10_init_33 : xPF mX10_init 33 10 6 (.array .int) 36 := ⟨19, _, by decide +kernel, rfl, fl_X10_19, fun _ => ⟨rfl, ⟨_, rfl, rfl⟩, _, rfl, xT_4 75 rfl rfl⟩⟩
theorem eX10_init_36 : x_aload mX10_init 36 0 37 := Or.inl ⟨0, by decide +kernel, rfl, rfl⟩
theorem eX10_init_37 : xK mX10_init 37 (nI 49) 39 := Or.inr (Or.inl (⟨49, by decide +kernel, by decide, rfl⟩))
set_option maxRecDepth 20000 in
theorem eX10_init_41 : xPF mX10_init 41 10 8 (.array .int) 44 := ⟨22, _, by decide +kernel, rfl, fl_X10_22, fun _ => ⟨rfl, ⟨_, rfl, rfl⟩, _, rfl, xT_4 77 rfl rfl⟩⟩
theorem eX10_init_44 : x_aload mX10_init 44 0 45 := Or.inl ⟨0, by decide +kernel, rfl, rfl⟩
theorem eX10_init_45 : xK mX10_init 45 (nI 264) 48 := Or.inr (Or.inr (Or.inl (⟨264, by decide +kernel, by decide, rfl⟩)))
set_option maxRecDepth 20000 in
theorem eX10_init_50 : xPF mX10_init 50 10 9 (.array .int) 53 := ⟨25, _, by decide +kernel, rfl, fl_X10_25, fun _ => ⟨rfl, ⟨_, rfl, rfl⟩, _, rfl, xT_4 78 rfl rfl⟩⟩
theorem eX10_init_53 : x_aload mX10_init 53 0 54 := Or.inl ⟨0, by decide +kernel, rfl, rfl⟩
theorem eX10_init_54 : xK mX10_init 54 (nI 200) 57 := Or.inr (Or.inr (Or.inl (⟨200, by decide +kernel, by decide, rfl⟩)))
set_option maxRecDepth 20000 in
theorem eX10_init_59 : xPF mX10_init 59 10 13 (.array .byte) 62 := ⟨28, _, by decide +kernel, rfl, fl_X10_28, fun _ => ⟨rfl, ⟨_, rfl, rfl⟩, _, rfl, xT_4 82 rfl rfl⟩⟩
theorem eX10_init_62 : x_aload mX10_init 62 0 63 := Or.inl ⟨0, by decide +kernel, rfl, rfl⟩
theorem eX10_init_63 : xK mX10_init 63 (nI 6) 65 := Or.inr (Or.inl (⟨6, by decide +kernel, by decide, rfl⟩))
set_option maxRecDepth 20000 in
theorem eX10_init_67 : xPF mX10_init 67 10 18 (.array .int) 70 := ⟨32, _, by decide +kernel, rfl, fl_X10_32, fun _ => ⟨rfl, ⟨_, rfl, rfl⟩, _, rfl, xT_4 87 rfl rfl⟩⟩
theorem eX10_init_70 : x_aload mX10_init 70 0 71 := Or.inl ⟨0, by decide +kernel, rfl, rfl⟩
theorem eX10_init_71 : xK mX10_init 71 (nI 6) 73 := Or.inr (Or.inl (⟨6, by decide +kernel, by decide, rfl⟩))
set_option maxRecDepth 20000 in
theorem eX10_init_75 : xPF mX10_init 75 10 19 (.array .int) 78 := ⟨35, _, by decide +kernel, rfl, fl_X10_35, fun _ => ⟨rfl, ⟨_, rfl, rfl⟩, _, rfl, xT_4 88 rfl rfl⟩⟩
theorem eX10_init_78 : x_aload mX10_init 78 0 79 := Or.inl ⟨0, by decide +kernel, rfl, rfl⟩
theorem eX10_init_79 : xK mX10_init 79 (nI 896) 82 := Or.inr (Or.inr (Or.inl (⟨896, by decide +kernel, by decide, rfl⟩)))
set_option maxRecDepth 20000 in
theorem eX10_init_84 : xPF mX10_init 84 10 20 (.array .int) 87 := ⟨38, _, by decide +kernel, rfl, fl_X10_38, fun _ => ⟨rfl, ⟨_, rfl, rfl⟩, _, rfl, xT_4 89 rfl rfl⟩⟩
theorem eX10_init_87 : x_aload mX10_init 87 0 88 := Or.inl ⟨0, by decide +kernel, rfl, rfl⟩
theorem eX10_init_88 : xK mX10_init 88 (nI 384) 91 := Or.inr (Or.inr (Or.inl (⟨384, by decide +kernel, by decide, rfl⟩)))
set_option maxRecDepth 20000 in
theorem eX10_init_93 : xPF mX10_init 93 10 21 (.array .int) 96 := ⟨41, _, by decide +kernel, rfl, fl_X10_41, fun _ => ⟨rfl, ⟨_, rfl, rfl⟩, _, rfl, xT_4 90 rfl rfl⟩⟩
theorem eX10_init_96 : x_aload mX10_init 96 0 97 := Or.inl ⟨0, by decide +kernel, rfl, rfl⟩
theorem eX10_init_97 : xK mX10_init 97 (nI 7) 99 := Or.inr (Or.inl (⟨7, by decide +kernel, by decide, rfl⟩))
set_option maxRecDepth 20000 in
theorem eX10_init_101 : xPF mX10_init 101 10 24 (.array .int) 104 := ⟨44, _, by decide +kernel, rfl, fl_X10_44, fun _ => ⟨rfl, ⟨_, rfl, rfl⟩, _, rfl, xT_4 93 rfl rfl⟩⟩
theorem eX10_init_104 : x_aload mX10_init 104 0 105 := Or.inl ⟨0, by decide +kernel, rfl, rfl⟩
theorem eX10_init_105 : xK mX10_init 105 (nI 7) 107 := Or.inr (Or.inl (⟨7, by decide +kernel, by decide, rfl⟩))
set_option maxRecDepth 20000 in
theorem eX10_init_109 : xPF mX10_init 109 10 25 (.array .int) 112 := ⟨47, _, by decide +kernel, rfl, fl_X10_47, fun _ => ⟨rfl, ⟨_, rfl, rfl⟩, _, rfl, xT_4 94 rfl rfl⟩⟩
theorem eX10_init_112 : xK mX10_init 112 (nI 0) 113 := Or.inl (⟨0, by decide +kernel, by decide, rfl⟩)
theorem eX10_init_113 : x_istore mX10_init 113 1 114 := Or.inl ⟨1, by decide +kernel, rfl, rfl⟩
theorem eX10_init_114 : x_iload mX10_init 114 1 115 := Or.inl ⟨1, by decide +kernel, rfl, rfl⟩
theorem eX10_init_115 : xK mX10_init 115 (nI 49) 117 := Or.inr (Or.inl (⟨49, by decide +kernel, by decide, rfl⟩))
theorem eX10_init_117 : xJ mX10_init 117 (.if_icmp .ge) 133 120 := ⟨(16), by decide +kernel, by decide, rfl⟩
theorem eX10_init_120 : x_aload mX10_init 120 0 121 := Or.inl ⟨0, by decide +kernel, rfl, rfl⟩
theorem eX10_init_121 : xGF mX10_init 121 10 8 124 := ⟨22, _, _, by decide +kernel, rfl, fl_X10_22⟩
theorem eX10_init_124 : x_iload mX10_init 124 1 125 := Or.inl ⟨1, by decide +kernel, rfl, rfl⟩
theorem eX10_init_125 : xK mX10_init 125 (nI 0) 126 := Or.inl (⟨0, by decide +kernel, by decide, rfl⟩)
theorem eX10_init_126 : xD mX10_init 126 (.iastore) 1 127 := ⟨by decide +kernel, rfl⟩
theorem eX10_init_127 : xD mX10_init 127 (.iinc 1 1) 3 130 := ⟨by decide +kernel, rfl⟩
theorem eX10_init_130 : xJ mX10_init 130 (.goto) 114 133 := ⟨(-16), by decide +kernel, by decide, rfl⟩
theorem eX10_init_133 : x_aload mX10_init 133 0 134 := Or.inl ⟨0, by decide +kernel, rfl, rfl⟩
theorem eX10_init_134 : xK mX10_init 134 (nI 0) 135 := Or.inl (⟨0, by decide +kernel, by decide, rfl⟩)
theorem eX10_init_135 : xK mX10_init 135 (nI 0) 136 := Or.inl (⟨0, by decide +kernel, by decide, rfl⟩)
theorem eX10_init_136 : xK mX10_init 136 (nI 12) 138 := Or.inr (Or.inl (⟨12, by decide +kernel, by decide, rfl⟩))
set_option maxRecDepth 20000 in
theorem eX10_init_138 : xCV mX10_init 138 mX10_lives 3 10 141 := ⟨50, by decide +kernel, rfl, ⟨cm_X10_50.1, cm_X10_50.2.1, cm_X10_50.2.2.1, cm_X10_50.2.2.2.1, cm_X10_50.2.2.2.2⟩, xT_4 52 rfl rfl, xT_0 18 rfl rfl, _, rfl, rfl⟩
theorem eX10_init_141 : x_aload mX10_init 141 0 142 := Or.inl ⟨0, by decide +kernel, rfl, rfl⟩
theorem eX10_init_142 : xK mX10_init 142 (nI 0) 143 := Or.inl (⟨0, by decide +kernel, by decide, rfl⟩)
theorem eX10_init_143 : xK mX10_init 143 (nI 1) 144 := Or.inl (⟨1, by decide +kernel, by decide, rfl⟩)
theorem eX10_init_144 : xK mX10_init 144 (nI 20) 146 := Or.inr (Or.inl (⟨20, by decide +kernel, by decide, rfl⟩))
set_option maxRecDepth 20000 in
theorem eX10_init_146 : xCV mX10_init 146 mX10_lives 3 10 149 := ⟨50, by decide +kernel, rfl, ⟨cm_X10_50.1, cm_X10_50.2.1, cm_X10_50.2.2.1, cm_X10_50.2.2.2.1, cm_X10_50.2.2.2.2⟩, xT_4 52 rfl rfl, xT_0 18 rfl rfl, _, rfl, rfl⟩
theorem eX10_init_149 : x_aload mX10_init 149 0 150 := Or.inl ⟨0, by decide +kernel, rfl, rfl⟩
theorem eX10_init_150 : xK mX10_init 150 (nI 0) 151 := Or.inl (⟨0, by decide +kernel, by decide, rfl⟩)
theorem eX10_init_151 : xK mX10_init 151 (nI 2) 152 := Or.inl (⟨2, by decide +kernel, by decide, rfl⟩)
theorem eX10_init_152 : xK mX10_init 152 (nI 9) 154 := Or.inr (Or.inl (⟨9, by decide +kernel, by decide, rfl⟩))
set_option maxRecDepth 20000 in
theorem eX10_init_154 : xCV mX10_init 154 mX10_lives 3 10 157 := ⟨50, by decide +kernel, rfl, ⟨cm_X10_50.1, cm_X10_50.2.1, cm_X10_50.2.2.1, cm_X10_50.2.2.2.1, cm_X10_50.2.2.2.2⟩, xT_4 52 rfl rfl, xT_0 18 rfl rfl, _, rfl, rfl⟩
theorem eX10_init_157 : x_aload mX10_init 157 0 158 := Or.inl ⟨0, by decide +kernel, rfl, rfl⟩
theorem eX10_init_158 : xK mX10_init 158 (nI 0) 159 := Or.inl (⟨0, by decide +kernel, by decide, rfl⟩)
theorem eX10_init_159 : xK mX10_init 159 (nI 3) 160 := Or.inl (⟨3, by decide +kernel, by decide, rfl⟩)
theorem eX10_init_160 : xK mX10_init 160 (nI 15) 162 := Or.inr (Or.inl (⟨15, by decide +kernel, by decide, rfl⟩))
set_option maxRecDepth 20000 in
theorem eX10_init_162 : xCV mX10_init 162 mX10_lives 3 10 165 := ⟨50, by decide +kernel, rfl, ⟨cm_X10_50.1, cm_X10_50.2.1, cm_X10_50.2.2.1, cm_X10_50.2.2.2.1, cm_X10_50.2.2.2.2⟩, xT_4 52 rfl rfl, xT_0 18 rfl rfl, _, rfl, rfl⟩
theorem eX10_init_165 : x_aload mX10_init 165 0 166 := Or.inl ⟨0, by decide +kernel, rfl, rfl⟩
theorem eX10_init_166 : xK mX10_init 166 (nI 0) 167 := Or.inl (⟨0, by decide +kernel, by decide, rfl⟩)
theorem eX10_init_167 : xK mX10_init 167 (nI 4) 168 := Or.inl (⟨4, by decide +kernel, by decide, rfl⟩)
theorem eX10_init_168 : xK mX10_init 168 (nI 18) 170 := Or.inr (Or.inl (⟨18, by decide +kernel, by decide, rfl⟩))
set_option maxRecDepth 20000 in
theorem eX10_init_170 : xCV mX10_init 170 mX10_lives 3 10 173 := ⟨50, by decide +kernel, rfl, ⟨cm_X10_50.1, cm_X10_50.2.1, cm_X10_50.2.2.1, cm_X10_50.2.2.2.1, cm_X10_50.2.2.2.2⟩, xT_4 52 rfl rfl, xT_0 18 rfl rfl, _, rfl, rfl⟩
theorem eX10_init_173 : x_aload mX10_init 173 0 174 := Or.inl ⟨0, by decide +kernel, rfl, rfl⟩
theorem eX10_init_174 : xK mX10_init 174 (nI 0) 175 := Or.inl (⟨0, by decide +kernel, by decide, rfl⟩)
theorem eX10_init_175 : xK mX10_init 175 (nI 1) 176 := Or.inl (⟨1, by decide +kernel, by decide, rfl⟩)
theorem eX10_init_176 : xK mX10_init 176 (nI 7) 178 := Or.inr (Or.inl (⟨7, by decide +kernel, by decide, rfl⟩))
set_option maxRecDepth 20000 in
theorem eX10_init_178 : xCV mX10_init 178 mX10_lives 3 10 181 := ⟨50, by decide +kernel, rfl, ⟨cm_X10_50.1, cm_X10_50.2.1, cm_X10_50.2.2.1, cm_X10_50.2.2.2.1, cm_X10_50.2.2.2.2⟩, xT_4 52 rfl rfl, xT_0 18 rfl rfl, _, rfl, rfl⟩
theorem eX10_init_181 : x_aload mX10_init 181 0 182 := Or.inl ⟨0, by decide +kernel, rfl, rfl⟩
theorem eX10_init_182 : xK mX10_init 182 (nI 0) 183 := Or.inl (⟨0, by decide +kernel, by decide, rfl⟩)
theorem eX10_init_183 : xK mX10_init 183 (nI 1) 184 := Or.inl (⟨1, by decide +kernel, by decide, rfl⟩)
theorem eX10_init_184 : xK mX10_init 184 (nI 2) 185 := Or.inl (⟨2, by decide +kernel, by decide, rfl⟩)
set_option maxRecDepth 20000 in
theorem eX10_init_185 : xCV mX10_init 185 mX10_joins 3 10 188 := ⟨54, by decide +kernel, rfl, ⟨cm_X10_54.1, cm_X10_54.2.1, cm_X10_54.2.2.1, cm_X10_54.2.2.2.1, cm_X10_54.2.2.2.2⟩, xT_4 56 rfl rfl, xT_0 19 rfl rfl, _, rfl, rfl⟩
theorem eX10_init_188 : x_aload mX10_init 188 0 189 := Or.inl ⟨0, by decide +kernel, rfl, rfl⟩
theorem eX10_init_189 : xK mX10_init 189 (nI 1) 190 := Or.inl (⟨1, by decide +kernel, by decide, rfl⟩)
theorem eX10_init_190 : xK mX10_init 190 (nI 2) 191 := Or.inl (⟨2, by decide +kernel, by decide, rfl⟩)
theorem eX10_init_191 : xK mX10_init 191 (nI 3) 192 := Or.inl (⟨3, by decide +kernel, by decide, rfl⟩)
set_option maxRecDepth 20000 in
theorem eX10_init_192 : xCV mX10_init 192 mX10_joins 3 10 195 := ⟨54, by decide +kernel, rfl, ⟨cm_X10_54.1, cm_X10_54.2.1, cm_X10_54.2.2.1, cm_X10_54.2.2.2.1, cm_X10_54.2.2.2.2⟩, xT_4 56 rfl rfl, xT_0 19 rfl rfl, _, rfl, rfl⟩
theorem eX10_init_195 : x_aload mX10_init 195 0 196 := Or.inl ⟨0, by decide +kernel, rfl, rfl⟩
theorem eX10_init_196 : xK mX10_init 196 (nI 2) 197 := Or.inl (⟨2, by decide +kernel, by decide, rfl⟩)
theorem eX10_init_197 : xK mX10_init 197 (nI 3) 198 := Or.inl (⟨3, by decide +kernel, by decide, rfl⟩)
theorem eX10_init_198 : xK mX10_init 198 (nI 1) 199 := Or.inl (⟨1, by decide +kernel, by decide, rfl⟩)
set_option maxRecDepth 20000 in
theorem eX10_init_199 : xCV mX10_init 199 mX10_joins 3 10 202 := ⟨54, by decide +kernel, rfl, ⟨cm_X10_54.1, cm_X10_54.2.1, cm_X10_54.2.2.1, cm_X10_54.2.2.2.1, cm_X10_54.2.2.2.2⟩, xT_4 56 rfl rfl, xT_0 19 rfl rfl, _, rfl, rfl⟩
theorem eX10_init_202 : x_aload mX10_init 202 0 203 := Or.inl ⟨0, by decide +kernel, rfl, rfl⟩
theorem eX10_init_203 : xK mX10_init 203 (nI 3) 204 := Or.inl (⟨3, by decide +kernel, by decide, rfl⟩)
theorem eX10_init_204 : xK mX10_init 204 (nI 4) 205 := Or.inl (⟨4, by decide +kernel, by decide, rfl⟩)
theorem eX10_init_205 : xK mX10_init 205 (nI 2) 206 := Or.inl (⟨2, by decide +kernel, by decide, rfl⟩)
set_option maxRecDepth 20000 in
theorem eX10_init_206 : xCV mX10_init 206 mX10_joins 3 10 209 := ⟨54, by decide +kernel, rfl, ⟨cm_X10_54.1, cm_X10_54.2.1, cm_X10_54.2.2.1, cm_X10_54.2.2.2.1, cm_X10_54.2.2.2.2⟩, xT_4 56 rfl rfl, xT_0 19 rfl rfl, _, rfl, rfl⟩
theorem eX10_init_209 : x_aload mX10_init 209 0 210 := Or.inl ⟨0, by decide +kernel, rfl, rfl⟩
theorem eX10_init_210 : xK mX10_init 210 (nI 4) 211 := Or.inl (⟨4, by decide +kernel, by decide, rfl⟩)
theorem eX10_init_211 : xK mX10_init 211 (nI 5) 212 := Or.inl (⟨5, by decide +kernel, by decide, rfl⟩)
theorem eX10_init_212 : xK mX10_init 212 (nI 4) 213 := Or.inl (⟨4, by decide +kernel, by decide, rfl⟩)
set_option maxRecDepth 20000 in
theorem eX10_init_213 : xCV mX10_init 213 mX10_joins 3 10 216 := ⟨54, by decide +kernel, rfl, ⟨cm_X10_54.1, cm_X10_54.2.1, cm_X10_54.2.2.1, cm_X10_54.2.2.2.1, cm_X10_54.2.2.2.2⟩, xT_4 56 rfl rfl, xT_0 19 rfl rfl, _, rfl, rfl⟩
theorem eX10_init_216 : x_aload mX10_init 216 0 217 := Or.inl ⟨0, by decide +kernel, rfl, rfl⟩
theorem eX10_init_217 : xK mX10_init 217 (nI 0) 218 := Or.inl (⟨0, by decide +kernel, by decide, rfl⟩)
theorem eX10_init_218 : xK mX10_init 218 (nI 5) 219 := Or.inl (⟨5, by decide +kernel, by decide, rfl⟩)
theorem eX10_init_219 : xK mX10_init 219 (nI 6) 221 := Or.inr (Or.inl (⟨6, by decide +kernel, by decide, rfl⟩))
set_option maxRecDepth 20000 in
theorem eX10_init_221 : xCV mX10_init 221 mX10_joins 3 10 224 := ⟨54, by decide +kernel, rfl, ⟨cm_X10_54.1, cm_X10_54.2.1, cm_X10_54.2.2.1, cm_X10_54.2.2.2.1, cm_X10_54.2.2.2.2⟩, xT_4 56 rfl rfl, xT_0 19 rfl rfl, _, rfl, rfl⟩
theorem eX10_init_224 : x_aload mX10_init 224 0 225 := Or.inl ⟨0, by decide +kernel, rfl, rfl⟩
theorem eX10_init_225 : xK mX10_init 225 (nI 1) 226 := Or.inl (⟨1, by decide +kernel, by decide, rfl⟩)
theorem eX10_init_226 : xK mX10_init 226 (nI 4) 227 := Or.inl (⟨4, by decide +kernel, by decide, rfl⟩)
theorem eX10_init_227 : xK mX10_init 227 (nI 3) 228 := Or.inl (⟨3, by decide +kernel, by decide, rfl⟩)
set_option maxRecDepth 20000 in
theorem eX10_init_228 : xCV mX10_init 228 mX10_joins 3 10 231 := ⟨54, by decide +kernel, rfl, ⟨cm_X10_54.1, cm_X10_54.2.1, cm_X10_54.2.2.1, cm_X10_54.2.2.2.1, cm_X10_54.2.2.2.2⟩, xT_4 56 rfl rfl, xT_0 19 rfl rfl, _, rfl, rfl⟩
theorem eX10_init_231 : x_aload mX10_init 231 0 232 := Or.inl ⟨0, by decide +kernel, rfl, rfl⟩
theorem eX10_init_232 : xK mX10_init 232 (nI 0) 233 := Or.inl (⟨0, by decide +kernel, by decide, rfl⟩)
theorem eX10_init_233 : xK mX10_init 233 (nI 0) 234 := Or.inl (⟨0, by decide +kernel, by decide, rfl⟩)
set_option maxRecDepth 20000 in
theorem eX10_init_234 : xCV mX10_init 234 mX10_begins 2 10 237 := ⟨57, by decide +kernel, rfl, ⟨cm_X10_57.1, cm_X10_57.2.1, cm_X10_57.2.2.1, cm_X10_57.2.2.2.1, cm_X10_57.2.2.2.2⟩, xT_4 60 rfl rfl, xT_0 20 rfl rfl, _, rfl, rfl⟩
theorem eX10_init_237 : x_aload mX10_init 237 0 238 := Or.inl ⟨0, by decide +kernel, rfl, rfl⟩
theorem eX10_init_238 : xK mX10_init 238 (nI 0) 239 := Or.inl (⟨0, by decide +kernel, by decide, rfl⟩)
theorem eX10_init_239 : xK mX10_init 239 (nI 3) 240 := Or.inl (⟨3, by decide +kernel, by decide, rfl⟩)
set_option maxRecDepth 20000 in
theorem eX10_init_240 : xCV mX10_init 240 mX10_begins 2 10 243 := ⟨57, by decide +kernel, rfl, ⟨cm_X10_57.1, cm_X10_57.2.1, cm_X10_57.2.2.1, cm_X10_57.2.2.2.1, cm_X10_57.2.2.2.2⟩, xT_4 60 rfl rfl, xT_0 20 rfl rfl, _, rfl, rfl⟩
theorem eX10_init_243 : x_aload mX10_init 243 0 244 := Or.inl ⟨0, by decide +kernel, rfl, rfl⟩
set_option maxRecDepth 20000 in
theorem eX10_init_244 : xCV mX10_init 244 mX10_settles 0 10 247 := ⟨61, by decide +kernel, rfl, ⟨cm_X10_61.1, cm_X10_61.2.1, cm_X10_61.2.2.1, cm_X10_61.2.2.2.1, cm_X10_61.2.2.2.2⟩, xT_4 64 rfl rfl, xT_0 21 rfl rfl, _, rfl, rfl⟩
theorem eX10_init_247 : xD mX10_init 247 (.return_) 1 248 := ⟨by decide +kernel, rfl⟩
theorem eX10_in_0 : x_lload mX10_in 0 0 1 := Or.inl ⟨0, by decide +kernel, rfl, rfl⟩
theorem eX10_in_1 : x_lload mX10_in 1 2 2 := Or.inl ⟨2, by decide +kernel, rfl, rfl⟩
theorem eX10_in_2 : xD mX10_in 2 (.lcmp) 1 3 := ⟨by decide +kernel, rfl⟩
theorem eX10_in_3 : xJ mX10_in 3 (.ifCond .lt) 17 6 := ⟨(14), by decide +kernel, by decide, rfl⟩
theorem eX10_in_6 : x_lload mX10_in 6 0 7 := Or.inl ⟨0, by decide +kernel, rfl, rfl⟩
theorem eX10_in_7 : x_lload mX10_in 7 4 9 := Or.inr ⟨by decide +kernel, rfl⟩
theorem eX10_in_9 : xD mX10_in 9 (.lcmp) 1 10 := ⟨by decide +kernel, rfl⟩
theorem eX10_in_10 : xJ mX10_in 10 (.ifCond .gt) 17 13 := ⟨(7), by decide +kernel, by decide, rfl⟩
theorem eX10_in_13 : xK mX10_in 13 (nI 1) 14 := Or.inl (⟨1, by decide +kernel, by decide, rfl⟩)
theorem eX10_in_14 : xJ mX10_in 14 (.goto) 18 17 := ⟨(4), by decide +kernel, by decide, rfl⟩
theorem eX10_in_17 : xK mX10_in 17 (nI 0) 18 := Or.inl (⟨0, by decide +kernel, by decide, rfl⟩)
theorem eX10_in_18 : xD mX10_in 18 (.ireturn) 1 19 := ⟨by decide +kernel, rfl⟩
theorem eX10_has_0 : x_iload mX10_has 0 0 1 := Or.inl ⟨0, by decide +kernel, rfl, rfl⟩
theorem eX10_has_1 : x_iload mX10_has 1 1 2 := Or.inl ⟨1, by decide +kernel, rfl, rfl⟩
theorem eX10_has_2 : xD mX10_has 2 (.ishr) 1 3 := ⟨by decide +kernel, rfl⟩
theorem eX10_has_3 : xK mX10_has 3 (nI 1) 4 := Or.inl (⟨1, by decide +kernel, by decide, rfl⟩)
theorem eX10_has_4 : xD mX10_has 4 (.iand) 1 5 := ⟨by decide +kernel, rfl⟩
theorem eX10_has_5 : xK mX10_has 5 (nI 1) 6 := Or.inl (⟨1, by decide +kernel, by decide, rfl⟩)
theorem eX10_has_6 : xJ mX10_has 6 (.if_icmp .ne) 13 9 := ⟨(7), by decide +kernel, by decide, rfl⟩
theorem eX10_has_9 : xK mX10_has 9 (nI 1) 10 := Or.inl (⟨1, by decide +kernel, by decide, rfl⟩)
theorem eX10_has_10 : xJ mX10_has 10 (.goto) 14 13 := ⟨(4), by decide +kernel, by decide, rfl⟩
theorem eX10_has_13 : xK mX10_has 13 (nI 0) 14 := Or.inl (⟨0, by decide +kernel, by decide, rfl⟩)
theorem eX10_has_14 : xD mX10_has 14 (.ireturn) 1 15 := ⟨by decide +kernel, rfl⟩
theorem eX10_smaller_0 : x_iload mX10_smaller 0 0 1 := Or.inl ⟨0, by decide +kernel, rfl, rfl⟩
theorem eX10_smaller_1 : x_iload mX10_smaller 1 1 2 := Or.inl ⟨1, by decide +kernel, rfl, rfl⟩
theorem eX10_smaller_2 : xJ mX10_smaller 2 (.if_icmp .ge) 9 5 := ⟨(7), by decide +kernel, by decide, rfl⟩
theorem eX10_smaller_5 : x_iload mX10_smaller 5 0 6 := Or.inl ⟨0, by decide +kernel, rfl, rfl⟩
theorem eX10_smaller_6 : xJ mX10_smaller 6 (.goto) 10 9 := ⟨(4), by decide +kernel, by decide, rfl⟩
theorem eX10_smaller_9 : x_iload mX10_smaller 9 1 10 := Or.inl ⟨1, by decide +kernel, rfl, rfl⟩
theorem eX10_smaller_10 : xD mX10_smaller 10 (.ireturn) 1 11 := ⟨by decide +kernel, rfl⟩
theorem eX10_larger_0 : x_iload mX10_larger 0 0 1 := Or.inl ⟨0, by decide +kernel, rfl, rfl⟩
theorem eX10_larger_1 : x_iload mX10_larger 1 1 2 := Or.inl ⟨1, by decide +kernel, rfl, rfl⟩
theorem eX10_larger_2 : xJ mX10_larger 2 (.if_icmp .ge) 9 5 := ⟨(7), by decide +kernel, by decide, rfl⟩
theorem eX10_larger_5 : x_iload mX10_larger 5 1 6 := Or.inl ⟨1, by decide +kernel, rfl, rfl⟩
theorem eX10_larger_6 : xJ mX10_larger 6 (.goto) 10 9 := ⟨(4), by decide +kernel, by decide, rfl⟩
theorem eX10_larger_9 : x_iload mX10_larger 9 0 10 := Or.inl ⟨0, by decide +kernel, rfl, rfl⟩
theorem eX10_larger_10 : xD mX10_larger 10 (.ireturn) 1 11 := ⟨by decide +kernel, rfl⟩
theorem eX10_lives_0 : x_aload mX10_lives 0 0 1 := Or.inl ⟨0, by decide +kernel, rfl, rfl⟩
theorem eX10_lives_1 : xGF mX10_lives 1 10 6 4 := ⟨19, _, _, by decide +kernel, rfl, fl_X10_19⟩
theorem eX10_lives_4 : x_aload mX10_lives 4 0 5 := Or.inl ⟨0, by decide +kernel, rfl, rfl⟩
theorem eX10_lives_5 : xGF mX10_lives 5 10 5 8 := ⟨64, _, _, by decide +kernel, rfl, fl_X10_64⟩
theorem eX10_lives_8 : x_iload mX10_lives 8 2 9 := Or.inl ⟨2, by decide +kernel, rfl, rfl⟩
theorem eX10_lives_9 : xD mX10_lives 9 (.iastore) 1 10 := ⟨by decide +kernel, rfl⟩
theorem eX10_lives_10 : x_aload mX10_lives 10 0 11 := Or.inl ⟨0, by decide +kernel, rfl, rfl⟩
theorem eX10_lives_11 : xGF mX10_lives 11 10 9 14 := ⟨25, _, _, by decide +kernel, rfl, fl_X10_25⟩
theorem eX10_lives_14 : x_iload mX10_lives 14 1 15 := Or.inl ⟨1, by decide +kernel, rfl, rfl⟩
theorem eX10_lives_15 : x_aload mX10_lives 15 0 16 := Or.inl ⟨0, by decide +kernel, rfl, rfl⟩
theorem eX10_lives_16 : xGF mX10_lives 16 10 5 19 := ⟨64, _, _, by decide +kernel, rfl, fl_X10_64⟩
theorem eX10_lives_19 : xD mX10_lives 19 (.iadd) 1 20 := ⟨by decide +kernel, rfl⟩
theorem eX10_lives_20 : x_iload mX10_lives 20 3 21 := Or.inl ⟨3, by decide +kernel, rfl, rfl⟩
theorem eX10_lives_21 : xD mX10_lives 21 (.iastore) 1 22 := ⟨by decide +kernel, rfl⟩
theorem eX10_lives_22 : x_aload mX10_lives 22 0 23 := Or.inl ⟨0, by decide +kernel, rfl, rfl⟩
theorem eX10_lives_23 : xD mX10_lives 23 (.dup) 1 24 := ⟨by decide +kernel, rfl⟩
theorem eX10_lives_24 : xGF mX10_lives 24 10 5 27 := ⟨64, _, _, by decide +kernel, rfl, fl_X10_64⟩
theorem eX10_lives_27 : xK mX10_lives 27 (nI 1) 28 := Or.inl (⟨1, by decide +kernel, by decide, rfl⟩)
theorem eX10_lives_28 : xD mX10_lives 28 (.iadd) 1 29 := ⟨by decide +kernel, rfl⟩
theorem eX10_lives_29 : xPF mX10_lives 29 10 5 (.int) 32 := ⟨64, _, by decide +kernel, rfl, fl_X10_64, fun h => by cases h⟩
theorem eX10_lives_32 : xD mX10_lives 32 (.return_) 1 33 := ⟨by decide +kernel, rfl⟩
theorem eX10_joins_0 : x_aload mX10_joins 0 0 1 := Or.inl ⟨0, by decide +kernel, rfl, rfl⟩
theorem eX10_joins_1 : xGF mX10_joins 1 10 8 4 := ⟨22, _, _, by decide +kernel, rfl, fl_X10_22⟩
theorem eX10_joins_4 : xK mX10_joins 4 (nI 7) 6 := Or.inr (Or.inl (⟨7, by decide +kernel, by decide, rfl⟩))
theorem eX10_joins_6 : x_iload mX10_joins 6 1 7 := Or.inl ⟨1, by decide +kernel, rfl, rfl⟩
theorem eX10_joins_7 : xD mX10_joins 7 (.imul) 1 8 := ⟨by decide +kernel, rfl⟩
theorem eX10_joins_8 : x_iload mX10_joins 8 2 9 := Or.inl ⟨2, by decide +kernel, rfl, rfl⟩
theorem eX10_joins_9 : xD mX10_joins 9 (.iadd) 1 10 := ⟨by decide +kernel, rfl⟩
theorem eX10_joins_10 : x_iload mX10_joins 10 3 11 := Or.inl ⟨3, by decide +kernel, rfl, rfl⟩
theorem eX10_joins_11 : xD mX10_joins 11 (.iastore) 1 12 := ⟨by decide +kernel, rfl⟩
theorem eX10_joins_12 : x_aload mX10_joins 12 0 13 := Or.inl ⟨0, by decide +kernel, rfl, rfl⟩
theorem eX10_joins_13 : xGF mX10_joins 13 10 8 16 := ⟨22, _, _, by decide +kernel, rfl, fl_X10_22⟩
theorem eX10_joins_16 : xK mX10_joins 16 (nI 7) 18 := Or.inr (Or.inl (⟨7, by decide +kernel, by decide, rfl⟩))
theorem eX10_joins_18 : x_iload mX10_joins 18 2 19 := Or.inl ⟨2, by decide +kernel, rfl, rfl⟩
theorem eX10_joins_19 : xD mX10_joins 19 (.imul) 1 20 := ⟨by decide +kernel, rfl⟩
theorem eX10_joins_20 : x_iload mX10_joins 20 1 21 := Or.inl ⟨1, by decide +kernel, rfl, rfl⟩
theorem eX10_joins_21 : xD mX10_joins 21 (.iadd) 1 22 := ⟨by decide +kernel, rfl⟩
theorem eX10_joins_22 : x_iload mX10_joins 22 3 23 := Or.inl ⟨3, by decide +kernel, rfl, rfl⟩
theorem eX10_joins_23 : xD mX10_joins 23 (.iastore) 1 24 := ⟨by decide +kernel, rfl⟩
theorem eX10_joins_24 : xD mX10_joins 24 (.return_) 1 25 := ⟨by decide +kernel, rfl⟩
theorem eX10_begins_0 : x_aload mX10_begins 0 0 1 := Or.inl ⟨0, by decide +kernel, rfl, rfl⟩
theorem eX10_begins_1 : xGF mX10_begins 1 10 9 4 := ⟨25, _, _, by decide +kernel, rfl, fl_X10_25⟩
theorem eX10_begins_4 : x_iload mX10_begins 4 1 5 := Or.inl ⟨1, by decide +kernel, rfl, rfl⟩
theorem eX10_begins_5 : xK mX10_begins 5 (nI 16) 7 := Or.inr (Or.inl (⟨16, by decide +kernel, by decide, rfl⟩))
theorem eX10_begins_7 : xD mX10_begins 7 (.iadd) 1 8 := ⟨by decide +kernel, rfl⟩
theorem eX10_begins_8 : x_aload mX10_begins 8 0 9 := Or.inl ⟨0, by decide +kernel, rfl, rfl⟩
theorem eX10_begins_9 : xGF mX10_begins 9 10 7 12 := ⟨68, _, _, by decide +kernel, rfl, fl_X10_68⟩
theorem eX10_begins_12 : xD mX10_begins 12 (.iadd) 1 13 := ⟨by decide +kernel, rfl⟩
theorem eX10_begins_13 : x_iload mX10_begins 13 2 14 := Or.inl ⟨2, by decide +kernel, rfl, rfl⟩
theorem eX10_begins_14 : xD mX10_begins 14 (.iastore) 1 15 := ⟨by decide +kernel, rfl⟩
theorem eX10_begins_15 : x_aload mX10_begins 15 0 16 := Or.inl ⟨0, by decide +kernel, rfl, rfl⟩
theorem eX10_begins_16 : xD mX10_begins 16 (.dup) 1 17 := ⟨by decide +kernel, rfl⟩
theorem eX10_begins_17 : xGF mX10_begins 17 10 7 20 := ⟨68, _, _, by decide +kernel, rfl, fl_X10_68⟩
theorem eX10_begins_20 : xK mX10_begins 20 (nI 1) 21 := Or.inl (⟨1, by decide +kernel, by decide, rfl⟩)
theorem eX10_begins_21 : xD mX10_begins 21 (.iadd) 1 22 := ⟨by decide +kernel, rfl⟩
theorem eX10_begins_22 : xPF mX10_begins 22 10 7 (.int) 25 := ⟨68, _, by decide +kernel, rfl, fl_X10_68, fun h => by cases h⟩
theorem eX10_begins_25 : xD mX10_begins 25 (.return_) 1 26 := ⟨by decide +kernel, rfl⟩
theorem eX10_settles_0 : x_aload mX10_settles 0 0 1 := Or.inl ⟨0, by decide +kernel, rfl, rfl⟩
theorem eX10_settles_1 : x_aload mX10_settles 1 0 2 := Or.inl ⟨0, by decide +kernel, rfl, rfl⟩
theorem eX10_settles_2 : xGF mX10_settles 2 10 5 5 := ⟨64, _, _, by decide +kernel, rfl, fl_X10_64⟩
theorem eX10_settles_5 : xPF mX10_settles 5 10 0 (.int) 8 := ⟨71, _, by decide +kernel, rfl, fl_X10_71, fun h => by cases h⟩
theorem eX10_settles_8 : x_aload mX10_settles 8 0 9 := Or.inl ⟨0, by decide +kernel, rfl, rfl⟩
theorem eX10_settles_9 : x_aload mX10_settles 9 0 10 := Or.inl ⟨0, by decide +kernel, rfl, rfl⟩
theorem eX10_settles_10 : xGF mX10_settles 10 10 7 13 := ⟨68, _, _, by decide +kernel, rfl, fl_X10_68⟩
theorem eX10_settles_13 : xPF mX10_settles 13 10 2 (.int) 16 := ⟨74, _, by decide +kernel, rfl, fl_X10_74, fun h => by cases h⟩
theorem eX10_settles_16 : xK mX10_settles 16 (nI 0) 17 := Or.inl (⟨0, by decide +kernel, by decide, rfl⟩)
theorem eX10_settles_17 : x_istore mX10_settles 17 1 18 := Or.inl ⟨1, by decide +kernel, rfl, rfl⟩
theorem eX10_settles_18 : x_iload mX10_settles 18 1 19 := Or.inl ⟨1, by decide +kernel, rfl, rfl⟩
theorem eX10_settles_19 : xK mX10_settles 19 (nI 7) 21 := Or.inr (Or.inl (⟨7, by decide +kernel, by decide, rfl⟩))
theorem eX10_settles_21 : xJ mX10_settles 21 (.if_icmp .ge) 42 24 := ⟨(21), by decide +kernel, by decide, rfl⟩
theorem eX10_settles_24 : x_aload mX10_settles 24 0 25 := Or.inl ⟨0, by decide +kernel, rfl, rfl⟩
theorem eX10_settles_25 : xGF mX10_settles 25 10 1 28 := ⟨7, _, _, by decide +kernel, rfl, fl_X10_7⟩
theorem eX10_settles_28 : x_iload mX10_settles 28 1 29 := Or.inl ⟨1, by decide +kernel, rfl, rfl⟩
theorem eX10_settles_29 : x_aload mX10_settles 29 0 30 := Or.inl ⟨0, by decide +kernel, rfl, rfl⟩
theorem eX10_settles_30 : xGF mX10_settles 30 10 6 33 := ⟨19, _, _, by decide +kernel, rfl, fl_X10_19⟩
theorem eX10_settles_33 : x_iload mX10_settles 33 1 34 := Or.inl ⟨1, by decide +kernel, rfl, rfl⟩
theorem eX10_settles_34 : xD mX10_settles 34 (.iaload) 1 35 := ⟨by decide +kernel, rfl⟩
theorem eX10_settles_35 : xD mX10_settles 35 (.iastore) 1 36 := ⟨by decide +kernel, rfl⟩
theorem eX10_settles_36 : xD mX10_settles 36 (.iinc 1 1) 3 39 := ⟨by decide +kernel, rfl⟩
theorem eX10_settles_39 : xJ mX10_settles 39 (.goto) 18 42 := ⟨(-21), by decide +kernel, by decide, rfl⟩
theorem eX10_settles_42 : xK mX10_settles 42 (nI 0) 43 := Or.inl (⟨0, by decide +kernel, by decide, rfl⟩)
theorem eX10_settles_43 : x_istore mX10_settles 43 1 44 := Or.inl ⟨1, by decide +kernel, rfl, rfl⟩
theorem eX10_settles_44 : x_iload mX10_settles 44 1 45 := Or.inl ⟨1, by decide +kernel, rfl, rfl⟩
theorem eX10_settles_45 : xK mX10_settles 45 (nI 49) 47 := Or.inr (Or.inl (⟨49, by decide +kernel, by decide, rfl⟩))
theorem eX10_settles_47 : xJ mX10_settles 47 (.if_icmp .ge) 106 50 := ⟨(59), by decide +kernel, by decide, rfl⟩
theorem eX10_settles_50 : x_aload mX10_settles 50 0 51 := Or.inl ⟨0, by decide +kernel, rfl, rfl⟩
theorem eX10_settles_51 : xGF mX10_settles 51 10 3 54 := ⟨13, _, _, by decide +kernel, rfl, fl_X10_13⟩
theorem eX10_settles_54 : x_iload mX10_settles 54 1 55 := Or.inl ⟨1, by decide +kernel, rfl, rfl⟩
theorem eX10_settles_55 : x_aload mX10_settles 55 0 56 := Or.inl ⟨0, by decide +kernel, rfl, rfl⟩
theorem eX10_settles_56 : xGF mX10_settles 56 10 8 59 := ⟨22, _, _, by decide +kernel, rfl, fl_X10_22⟩
theorem eX10_settles_59 : x_iload mX10_settles 59 1 60 := Or.inl ⟨1, by decide +kernel, rfl, rfl⟩
theorem eX10_settles_60 : xD mX10_settles 60 (.iaload) 1 61 := ⟨by decide +kernel, rfl⟩
theorem eX10_settles_61 : xD mX10_settles 61 (.iastore) 1 62 := ⟨by decide +kernel, rfl⟩
theorem eX10_settles_62 : x_aload mX10_settles 62 0 63 := Or.inl ⟨0, by decide +kernel, rfl, rfl⟩
theorem eX10_settles_63 : xGF mX10_settles 63 10 4 66 := ⟨16, _, _, by decide +kernel, rfl, fl_X10_16⟩
theorem eX10_settles_66 : x_iload mX10_settles 66 1 67 := Or.inl ⟨1, by decide +kernel, rfl, rfl⟩
theorem eX10_settles_67 : x_iload mX10_settles 67 1 68 := Or.inl ⟨1, by decide +kernel, rfl, rfl⟩
theorem eX10_settles_68 : xK mX10_settles 68 (nI 8) 70 := Or.inr (Or.inl (⟨8, by decide +kernel, by decide, rfl⟩))
theorem eX10_settles_70 : xD mX10_settles 70 (.irem) 1 71 := ⟨by decide +kernel, rfl⟩
theorem eX10_settles_71 : xJ mX10_settles 71 (.ifCond .ne) 78 74 := ⟨(7), by decide +kernel, by decide, rfl⟩
theorem eX10_settles_74 : xK mX10_settles 74 (nI 0) 75 := Or.inl (⟨0, by decide +kernel, by decide, rfl⟩)
theorem eX10_settles_75 : xJ mX10_settles 75 (.goto) 99 78 := ⟨(24), by decide +kernel, by decide, rfl⟩
theorem eX10_settles_78 : x_aload mX10_settles 78 0 79 := Or.inl ⟨0, by decide +kernel, rfl, rfl⟩
theorem eX10_settles_79 : xGF mX10_settles 79 10 8 82 := ⟨22, _, _, by decide +kernel, rfl, fl_X10_22⟩
theorem eX10_settles_82 : x_iload mX10_settles 82 1 83 := Or.inl ⟨1, by decide +kernel, rfl, rfl⟩
theorem eX10_settles_83 : xD mX10_settles 83 (.iaload) 1 84 := ⟨by decide +kernel, rfl⟩
theorem eX10_settles_84 : xJ mX10_settles 84 (.ifCond .ne) 93 87 := ⟨(9), by decide +kernel, by decide, rfl⟩
theorem eX10_settles_87 : xK mX10_settles 87 (nI 9999) 90 := Or.inr (Or.inr (Or.inl (⟨9999, by decide +kernel, by decide, rfl⟩)))
theorem eX10_settles_90 : xJ mX10_settles 90 (.goto) 99 93 := ⟨(9), by decide +kernel, by decide, rfl⟩
theorem eX10_settles_93 : x_aload mX10_settles 93 0 94 := Or.inl ⟨0, by decide +kernel, rfl, rfl⟩
theorem eX10_settles_94 : xGF mX10_settles 94 10 8 97 := ⟨22, _, _, by decide +kernel, rfl, fl_X10_22⟩
theorem eX10_settles_97 : x_iload mX10_settles 97 1 98 := Or.inl ⟨1, by decide +kernel, rfl, rfl⟩
theorem eX10_settles_98 : xD mX10_settles 98 (.iaload) 1 99 := ⟨by decide +kernel, rfl⟩
theorem eX10_settles_99 : xD mX10_settles 99 (.iastore) 1 100 := ⟨by decide +kernel, rfl⟩
theorem eX10_settles_100 : xD mX10_settles 100 (.iinc 1 1) 3 103 := ⟨by decide +kernel, rfl⟩
theorem eX10_settles_103 : xJ mX10_settles 103 (.goto) 44 106 := ⟨(-59), by decide +kernel, by decide, rfl⟩
theorem eX10_settles_106 : xK mX10_settles 106 (nI 0) 107 := Or.inl (⟨0, by decide +kernel, by decide, rfl⟩)
theorem eX10_settles_107 : x_istore mX10_settles 107 1 108 := Or.inl ⟨1, by decide +kernel, rfl, rfl⟩
theorem eX10_settles_108 : x_iload mX10_settles 108 1 109 := Or.inl ⟨1, by decide +kernel, rfl, rfl⟩
theorem eX10_settles_109 : x_aload mX10_settles 109 0 110 := Or.inl ⟨0, by decide +kernel, rfl, rfl⟩
theorem eX10_settles_110 : xGF mX10_settles 110 10 0 113 := ⟨71, _, _, by decide +kernel, rfl, fl_X10_71⟩
theorem eX10_settles_113 : xJ mX10_settles 113 (.if_icmp .ge) 202 116 := ⟨(89), by decide +kernel, by decide, rfl⟩
theorem eX10_settles_116 : xK mX10_settles 116 (nI 0) 117 := Or.inl (⟨0, by decide +kernel, by decide, rfl⟩)
theorem eX10_settles_117 : x_istore mX10_settles 117 2 118 := Or.inl ⟨2, by decide +kernel, rfl, rfl⟩
theorem eX10_settles_118 : x_iload mX10_settles 118 2 119 := Or.inl ⟨2, by decide +kernel, rfl, rfl⟩
theorem eX10_settles_119 : x_aload mX10_settles 119 0 120 := Or.inl ⟨0, by decide +kernel, rfl, rfl⟩
theorem eX10_settles_120 : xGF mX10_settles 120 10 0 123 := ⟨71, _, _, by decide +kernel, rfl, fl_X10_71⟩
theorem eX10_settles_123 : xJ mX10_settles 123 (.if_icmp .ge) 196 126 := ⟨(73), by decide +kernel, by decide, rfl⟩
theorem eX10_settles_126 : xK mX10_settles 126 (nI 0) 127 := Or.inl (⟨0, by decide +kernel, by decide, rfl⟩)
theorem eX10_settles_127 : x_istore mX10_settles 127 3 128 := Or.inl ⟨3, by decide +kernel, rfl, rfl⟩
theorem eX10_settles_128 : x_iload mX10_settles 128 3 129 := Or.inl ⟨3, by decide +kernel, rfl, rfl⟩
theorem eX10_settles_129 : x_aload mX10_settles 129 0 130 := Or.inl ⟨0, by decide +kernel, rfl, rfl⟩
theorem eX10_settles_130 : xGF mX10_settles 130 10 0 133 := ⟨71, _, _, by decide +kernel, rfl, fl_X10_71⟩
theorem eX10_settles_133 : xJ mX10_settles 133 (.if_icmp .ge) 190 136 := ⟨(57), by decide +kernel, by decide, rfl⟩
theorem eX10_settles_136 : x_aload mX10_settles 136 0 137 := Or.inl ⟨0, by decide +kernel, rfl, rfl⟩
theorem eX10_settles_137 : xGF mX10_settles 137 10 4 140 := ⟨16, _, _, by decide +kernel, rfl, fl_X10_16⟩
theorem eX10_settles_140 : xK mX10_settles 140 (nI 7) 142 := Or.inr (Or.inl (⟨7, by decide +kernel, by decide, rfl⟩))
theorem eX10_settles_142 : x_iload mX10_settles 142 2 143 := Or.inl ⟨2, by decide +kernel, rfl, rfl⟩
theorem eX10_settles_143 : xD mX10_settles 143 (.imul) 1 144 := ⟨by decide +kernel, rfl⟩
theorem eX10_settles_144 : x_iload mX10_settles 144 3 145 := Or.inl ⟨3, by decide +kernel, rfl, rfl⟩
theorem eX10_settles_145 : xD mX10_settles 145 (.iadd) 1 146 := ⟨by decide +kernel, rfl⟩
theorem eX10_settles_146 : x_aload mX10_settles 146 0 147 := Or.inl ⟨0, by decide +kernel, rfl, rfl⟩
theorem eX10_settles_147 : xGF mX10_settles 147 10 4 150 := ⟨16, _, _, by decide +kernel, rfl, fl_X10_16⟩
theorem eX10_settles_150 : xK mX10_settles 150 (nI 7) 152 := Or.inr (Or.inl (⟨7, by decide +kernel, by decide, rfl⟩))
theorem eX10_settles_152 : x_iload mX10_settles 152 2 153 := Or.inl ⟨2, by decide +kernel, rfl, rfl⟩
theorem eX10_settles_153 : xD mX10_settles 153 (.imul) 1 154 := ⟨by decide +kernel, rfl⟩
theorem eX10_settles_154 : x_iload mX10_settles 154 3 155 := Or.inl ⟨3, by decide +kernel, rfl, rfl⟩
theorem eX10_settles_155 : xD mX10_settles 155 (.iadd) 1 156 := ⟨by decide +kernel, rfl⟩
theorem eX10_settles_156 : xD mX10_settles 156 (.iaload) 1 157 := ⟨by decide +kernel, rfl⟩
theorem eX10_settles_157 : x_aload mX10_settles 157 0 158 := Or.inl ⟨0, by decide +kernel, rfl, rfl⟩
theorem eX10_settles_158 : xGF mX10_settles 158 10 4 161 := ⟨16, _, _, by decide +kernel, rfl, fl_X10_16⟩
theorem eX10_settles_161 : xK mX10_settles 161 (nI 7) 163 := Or.inr (Or.inl (⟨7, by decide +kernel, by decide, rfl⟩))
theorem eX10_settles_163 : x_iload mX10_settles 163 2 164 := Or.inl ⟨2, by decide +kernel, rfl, rfl⟩
theorem eX10_settles_164 : xD mX10_settles 164 (.imul) 1 165 := ⟨by decide +kernel, rfl⟩
theorem eX10_settles_165 : x_iload mX10_settles 165 1 166 := Or.inl ⟨1, by decide +kernel, rfl, rfl⟩
theorem eX10_settles_166 : xD mX10_settles 166 (.iadd) 1 167 := ⟨by decide +kernel, rfl⟩
theorem eX10_settles_167 : xD mX10_settles 167 (.iaload) 1 168 := ⟨by decide +kernel, rfl⟩
theorem eX10_settles_168 : x_aload mX10_settles 168 0 169 := Or.inl ⟨0, by decide +kernel, rfl, rfl⟩
theorem eX10_settles_169 : xGF mX10_settles 169 10 4 172 := ⟨16, _, _, by decide +kernel, rfl, fl_X10_16⟩
theorem eX10_settles_172 : xK mX10_settles 172 (nI 7) 174 := Or.inr (Or.inl (⟨7, by decide +kernel, by decide, rfl⟩))
theorem eX10_settles_174 : x_iload mX10_settles 174 1 175 := Or.inl ⟨1, by decide +kernel, rfl, rfl⟩
theorem eX10_settles_175 : xD mX10_settles 175 (.imul) 1 176 := ⟨by decide +kernel, rfl⟩
theorem eX10_settles_176 : x_iload mX10_settles 176 3 177 := Or.inl ⟨3, by decide +kernel, rfl, rfl⟩
theorem eX10_settles_177 : xD mX10_settles 177 (.iadd) 1 178 := ⟨by decide +kernel, rfl⟩
theorem eX10_settles_178 : xD mX10_settles 178 (.iaload) 1 179 := ⟨by decide +kernel, rfl⟩
theorem eX10_settles_179 : xD mX10_settles 179 (.iadd) 1 180 := ⟨by decide +kernel, rfl⟩
set_option maxRecDepth 20000 in
theorem eX10_settles_180 : xCS mX10_settles 180 mX10_smaller 2 183 := ⟨77, by decide +kernel, rfl, ⟨cm_X10_77.1, cm_X10_77.2.1, cm_X10_77.2.2.1, cm_X10_77.2.2.2.1, cm_X10_77.2.2.2.2⟩, xT_4 67 rfl rfl⟩
theorem eX10_settles_183 : xD mX10_settles 183 (.iastore) 1 184 := ⟨by decide +kernel, rfl⟩
theorem eX10_settles_184 : xD mX10_settles 184 (.iinc 3 1) 3 187 := ⟨by decide +kernel, rfl⟩
theorem eX10_settles_187 : xJ mX10_settles 187 (.goto) 128 190 := ⟨(-59), by decide +kernel, by decide, rfl⟩
theorem eX10_settles_190 : xD mX10_settles 190 (.iinc 2 1) 3 193 := ⟨by decide +kernel, rfl⟩
theorem eX10_settles_193 : xJ mX10_settles 193 (.goto) 118 196 := ⟨(-75), by decide +kernel, by decide, rfl⟩
theorem eX10_settles_196 : xD mX10_settles 196 (.iinc 1 1) 3 199 := ⟨by decide +kernel, rfl⟩
theorem eX10_settles_199 : xJ mX10_settles 199 (.goto) 108 202 := ⟨(-91), by decide +kernel, by decide, rfl⟩
theorem eX10_settles_202 : xD mX10_settles 202 (.return_) 1 203 := ⟨by decide +kernel, rfl⟩
theorem eX10_copied_0 : xK mX10_copied 0 (nI 0) 1 := Or.inl (⟨0, by decide +kernel, by decide, rfl⟩)
theorem eX10_copied_1 : x_istore mX10_copied 1 3 2 := Or.inl ⟨3, by decide +kernel, rfl, rfl⟩
theorem eX10_copied_2 : x_iload mX10_copied 2 3 3 := Or.inl ⟨3, by decide +kernel, rfl, rfl⟩
theorem eX10_copied_3 : xK mX10_copied 3 (nI 22) 5 := Or.inr (Or.inl (⟨22, by decide +kernel, by decide, rfl⟩))
theorem eX10_copied_5 : xJ mX10_copied 5 (.if_icmp .ge) 30 8 := ⟨(25), by decide +kernel, by decide, rfl⟩
theorem eX10_copied_8 : x_aload mX10_copied 8 0 9 := Or.inl ⟨0, by decide +kernel, rfl, rfl⟩
theorem eX10_copied_9 : xGF mX10_copied 9 10 9 12 := ⟨25, _, _, by decide +kernel, rfl, fl_X10_25⟩
theorem eX10_copied_12 : x_iload mX10_copied 12 2 13 := Or.inl ⟨2, by decide +kernel, rfl, rfl⟩
theorem eX10_copied_13 : x_iload mX10_copied 13 3 14 := Or.inl ⟨3, by decide +kernel, rfl, rfl⟩
theorem eX10_copied_14 : xD mX10_copied 14 (.iadd) 1 15 := ⟨by decide +kernel, rfl⟩
theorem eX10_copied_15 : x_aload mX10_copied 15 0 16 := Or.inl ⟨0, by decide +kernel, rfl, rfl⟩
theorem eX10_copied_16 : xGF mX10_copied 16 10 9 19 := ⟨25, _, _, by decide +kernel, rfl, fl_X10_25⟩
theorem eX10_copied_19 : x_iload mX10_copied 19 1 20 := Or.inl ⟨1, by decide +kernel, rfl, rfl⟩
theorem eX10_copied_20 : x_iload mX10_copied 20 3 21 := Or.inl ⟨3, by decide +kernel, rfl, rfl⟩
theorem eX10_copied_21 : xD mX10_copied 21 (.iadd) 1 22 := ⟨by decide +kernel, rfl⟩
theorem eX10_copied_22 : xD mX10_copied 22 (.iaload) 1 23 := ⟨by decide +kernel, rfl⟩
theorem eX10_copied_23 : xD mX10_copied 23 (.iastore) 1 24 := ⟨by decide +kernel, rfl⟩
theorem eX10_copied_24 : xD mX10_copied 24 (.iinc 3 1) 3 27 := ⟨by decide +kernel, rfl⟩
theorem eX10_copied_27 : xJ mX10_copied 27 (.goto) 2 30 := ⟨(-25), by decide +kernel, by decide, rfl⟩
theorem eX10_copied_30 : xD mX10_copied 30 (.return_) 1 31 := ⟨by decide +kernel, rfl⟩
theorem eX10_isVillage_0 : x_iload mX10_isVillage 0 1 1 := Or.inl ⟨1, by decide +kernel, rfl, rfl⟩
theorem eX10_isVillage_1 : xD mX10_isVillage 1 (.i2l) 1 2 := ⟨by decide +kernel, rfl⟩
theorem eX10_isVillage_2 : xKL mX10_isVillage 2 (0) 3 := Or.inl ⟨0, by decide +kernel, by decide, rfl⟩
theorem eX10_isVillage_3 : x_aload mX10_isVillage 3 0 4 := Or.inl ⟨0, by decide +kernel, rfl, rfl⟩
theorem eX10_isVillage_4 : xGF mX10_isVillage 4 10 0 7 := ⟨71, _, _, by decide +kernel, rfl, fl_X10_71⟩
theorem eX10_isVillage_7 : xK mX10_isVillage 7 (nI 1) 8 := Or.inl (⟨1, by decide +kernel, by decide, rfl⟩)
theorem eX10_isVillage_8 : xD mX10_isVillage 8 (.isub) 1 9 := ⟨by decide +kernel, rfl⟩
theorem eX10_isVillage_9 : xD mX10_isVillage 9 (.i2l) 1 10 := ⟨by decide +kernel, rfl⟩
set_option maxRecDepth 20000 in
theorem eX10_isVillage_10 : xCS mX10_isVillage 10 mX10_in 3 13 := ⟨81, by decide +kernel, rfl, ⟨cm_X10_81.1, cm_X10_81.2.1, cm_X10_81.2.2.1, cm_X10_81.2.2.2.1, cm_X10_81.2.2.2.2⟩, xT_4 155 rfl rfl⟩
theorem eX10_isVillage_13 : xD mX10_isVillage 13 (.ireturn) 1 14 := ⟨by decide +kernel, rfl⟩
theorem eX10_write_0 : x_iload mX10_write 0 1 1 := Or.inl ⟨1, by decide +kernel, rfl, rfl⟩
theorem eX10_write_1 : xD mX10_write 1 (.i2l) 1 2 := ⟨by decide +kernel, rfl⟩
set_option maxRecDepth 20000 in
theorem eX10_write_2 : xKL mX10_write 2 (32) 5 := Or.inr ⟨85, by decide +kernel, xT_4 152 rfl rfl, rfl⟩
set_option maxRecDepth 20000 in
theorem eX10_write_5 : xKL mX10_write 5 (126) 8 := Or.inr ⟨87, by decide +kernel, xT_4 153 rfl rfl, rfl⟩
set_option maxRecDepth 20000 in
theorem eX10_write_8 : xCS mX10_write 8 mX10_in 3 11 := ⟨81, by decide +kernel, rfl, ⟨cm_X10_81.1, cm_X10_81.2.1, cm_X10_81.2.2.1, cm_X10_81.2.2.2.1, cm_X10_81.2.2.2.2⟩, xT_4 155 rfl rfl⟩
theorem eX10_write_11 : xJ mX10_write 11 (.ifCond .ne) 16 14 := ⟨(5), by decide +kernel, by decide, rfl⟩
theorem eX10_write_14 : xK mX10_write 14 ((-1)) 15 := Or.inl (⟨(-1), by decide +kernel, by decide, rfl⟩)
theorem eX10_write_15 : xD mX10_write 15 (.ireturn) 1 16 := ⟨by decide +kernel, rfl⟩
theorem eX10_write_16 : x_aload mX10_write 16 0 17 := Or.inl ⟨0, by decide +kernel, rfl, rfl⟩
theorem eX10_write_17 : xGF mX10_write 17 10 12 20 := ⟨89, _, _, by decide +kernel, rfl, fl_X10_89⟩
theorem eX10_write_20 : xK mX10_write 20 (nI 200) 23 := Or.inr (Or.inr (Or.inl (⟨200, by decide +kernel, by decide, rfl⟩)))
theorem eX10_write_23 : xJ mX10_write 23 (.if_icmp .ne) 29 26 := ⟨(6), by decide +kernel, by decide, rfl⟩
theorem eX10_write_26 : xK mX10_write 26 ((-3)) 28 := Or.inr (Or.inl (⟨(-3), by decide +kernel, by decide, rfl⟩))
theorem eX10_write_28 : xD mX10_write 28 (.ireturn) 1 29 := ⟨by decide +kernel, rfl⟩
theorem eX10_write_29 : x_aload mX10_write 29 0 30 := Or.inl ⟨0, by decide +kernel, rfl, rfl⟩
theorem eX10_write_30 : xGF mX10_write 30 10 13 33 := ⟨28, _, _, by decide +kernel, rfl, fl_X10_28⟩
theorem eX10_write_33 : x_aload mX10_write 33 0 34 := Or.inl ⟨0, by decide +kernel, rfl, rfl⟩
theorem eX10_write_34 : xGF mX10_write 34 10 12 37 := ⟨89, _, _, by decide +kernel, rfl, fl_X10_89⟩
theorem eX10_write_37 : x_iload mX10_write 37 1 38 := Or.inl ⟨1, by decide +kernel, rfl, rfl⟩
theorem eX10_write_38 : xD mX10_write 38 (.i2b) 1 39 := ⟨by decide +kernel, rfl⟩
theorem eX10_write_39 : xD mX10_write 39 (.bastore) 1 40 := ⟨by decide +kernel, rfl⟩
theorem eX10_write_40 : x_aload mX10_write 40 0 41 := Or.inl ⟨0, by decide +kernel, rfl, rfl⟩
theorem eX10_write_41 : xD mX10_write 41 (.dup) 1 42 := ⟨by decide +kernel, rfl⟩
theorem eX10_write_42 : xGF mX10_write 42 10 12 45 := ⟨89, _, _, by decide +kernel, rfl, fl_X10_89⟩
theorem eX10_write_45 : xK mX10_write 45 (nI 1) 46 := Or.inl (⟨1, by decide +kernel, by decide, rfl⟩)
theorem eX10_write_46 : xD mX10_write 46 (.iadd) 1 47 := ⟨by decide +kernel, rfl⟩
theorem eX10_write_47 : xPF mX10_write 47 10 12 (.int) 50 := ⟨89, _, by decide +kernel, rfl, fl_X10_89, fun h => by cases h⟩
theorem eX10_write_50 : x_aload mX10_write 50 0 51 := Or.inl ⟨0, by decide +kernel, rfl, rfl⟩
theorem eX10_write_51 : xGF mX10_write 51 10 12 54 := ⟨89, _, _, by decide +kernel, rfl, fl_X10_89⟩
theorem eX10_write_54 : xD mX10_write 54 (.ireturn) 1 55 := ⟨by decide +kernel, rfl⟩
theorem eX10_wipe_0 : x_aload mX10_wipe 0 0 1 := Or.inl ⟨0, by decide +kernel, rfl, rfl⟩
theorem eX10_wipe_1 : xGF mX10_wipe 1 10 12 4 := ⟨89, _, _, by decide +kernel, rfl, fl_X10_89⟩
theorem eX10_wipe_4 : x_istore mX10_wipe 4 1 5 := Or.inl ⟨1, by decide +kernel, rfl, rfl⟩
theorem eX10_wipe_5 : x_aload mX10_wipe 5 0 6 := Or.inl ⟨0, by decide +kernel, rfl, rfl⟩
theorem eX10_wipe_6 : xK mX10_wipe 6 (nI 0) 7 := Or.inl (⟨0, by decide +kernel, by decide, rfl⟩)
theorem eX10_wipe_7 : xPF mX10_wipe 7 10 12 (.int) 10 := ⟨89, _, by decide +kernel, rfl, fl_X10_89, fun h => by cases h⟩
theorem eX10_wipe_10 : x_iload mX10_wipe 10 1 11 := Or.inl ⟨1, by decide +kernel, rfl, rfl⟩
theorem eX10_wipe_11 : xD mX10_wipe 11 (.ireturn) 1 12 := ⟨by decide +kernel, rfl⟩
theorem eX10_next_0 : x_aload mX10_next 0 0 1 := Or.inl ⟨0, by decide +kernel, rfl, rfl⟩
theorem eX10_next_1 : xGF mX10_next 1 10 14 4 := ⟨92, _, _, by decide +kernel, rfl, fl_X10_92⟩
theorem eX10_next_4 : x_aload mX10_next 4 0 5 := Or.inl ⟨0, by decide +kernel, rfl, rfl⟩
theorem eX10_next_5 : xGF mX10_next 5 10 12 8 := ⟨89, _, _, by decide +kernel, rfl, fl_X10_89⟩
theorem eX10_next_8 : xJ mX10_next 8 (.if_icmp .ge) 23 11 := ⟨(15), by decide +kernel, by decide, rfl⟩
theorem eX10_next_11 : x_aload mX10_next 11 0 12 := Or.inl ⟨0, by decide +kernel, rfl, rfl⟩
theorem eX10_next_12 : xGF mX10_next 12 10 13 15 := ⟨28, _, _, by decide +kernel, rfl, fl_X10_28⟩
theorem eX10_next_15 : x_aload mX10_next 15 0 16 := Or.inl ⟨0, by decide +kernel, rfl, rfl⟩
theorem eX10_next_16 : xGF mX10_next 16 10 14 19 := ⟨92, _, _, by decide +kernel, rfl, fl_X10_92⟩
theorem eX10_next_19 : xD mX10_next 19 (.baload) 1 20 := ⟨by decide +kernel, rfl⟩
theorem eX10_next_20 : xJ mX10_next 20 (.goto) 24 23 := ⟨(4), by decide +kernel, by decide, rfl⟩
theorem eX10_next_23 : xK mX10_next 23 ((-1)) 24 := Or.inl (⟨(-1), by decide +kernel, by decide, rfl⟩)
theorem eX10_next_24 : xD mX10_next 24 (.ireturn) 1 25 := ⟨by decide +kernel, rfl⟩
theorem eX10_number_0 : xK mX10_number 0 (nI 0) 1 := Or.inl (⟨0, by decide +kernel, by decide, rfl⟩)
theorem eX10_number_1 : x_istore mX10_number 1 3 2 := Or.inl ⟨3, by decide +kernel, rfl, rfl⟩
theorem eX10_number_2 : xK mX10_number 2 (nI 0) 3 := Or.inl (⟨0, by decide +kernel, by decide, rfl⟩)
theorem eX10_number_3 : x_istore mX10_number 3 4 5 := Or.inr ⟨by decide +kernel, rfl⟩
theorem eX10_number_5 : x_aload mX10_number 5 0 6 := Or.inl ⟨0, by decide +kernel, rfl, rfl⟩
set_option maxRecDepth 20000 in
theorem eX10_number_6 : xCV mX10_number 6 mX10_next 0 10 9 := ⟨95, by decide +kernel, rfl, ⟨cm_X10_95.1, cm_X10_95.2.1, cm_X10_95.2.2.1, cm_X10_95.2.2.2.1, cm_X10_95.2.2.2.2⟩, xT_4 171 rfl rfl, xT_0 23 rfl rfl, _, rfl, rfl⟩
theorem eX10_number_9 : xD mX10_number 9 (.i2l) 1 10 := ⟨by decide +kernel, rfl⟩
set_option maxRecDepth 20000 in
theorem eX10_number_10 : xKL mX10_number 10 (48) 13 := Or.inr ⟨99, by decide +kernel, xT_4 181 rfl rfl, rfl⟩
set_option maxRecDepth 20000 in
theorem eX10_number_13 : xKL mX10_number 13 (57) 16 := Or.inr ⟨101, by decide +kernel, xT_4 182 rfl rfl, rfl⟩
set_option maxRecDepth 20000 in
theorem eX10_number_16 : xCS mX10_number 16 mX10_in 3 19 := ⟨81, by decide +kernel, rfl, ⟨cm_X10_81.1, cm_X10_81.2.1, cm_X10_81.2.2.1, cm_X10_81.2.2.2.1, cm_X10_81.2.2.2.2⟩, xT_4 155 rfl rfl⟩
theorem eX10_number_19 : xJ mX10_number 19 (.ifCond .eq) 57 22 := ⟨(38), by decide +kernel, by decide, rfl⟩
theorem eX10_number_22 : x_iload mX10_number 22 4 24 := Or.inr ⟨by decide +kernel, rfl⟩
theorem eX10_number_24 : xK mX10_number 24 (nI 3) 25 := Or.inl (⟨3, by decide +kernel, by decide, rfl⟩)
theorem eX10_number_25 : xJ mX10_number 25 (.if_icmp .ge) 57 28 := ⟨(32), by decide +kernel, by decide, rfl⟩
theorem eX10_number_28 : xK mX10_number 28 (nI 10) 30 := Or.inr (Or.inl (⟨10, by decide +kernel, by decide, rfl⟩))
theorem eX10_number_30 : x_iload mX10_number 30 3 31 := Or.inl ⟨3, by decide +kernel, rfl, rfl⟩
theorem eX10_number_31 : xD mX10_number 31 (.imul) 1 32 := ⟨by decide +kernel, rfl⟩
theorem eX10_number_32 : x_aload mX10_number 32 0 33 := Or.inl ⟨0, by decide +kernel, rfl, rfl⟩
set_option maxRecDepth 20000 in
theorem eX10_number_33 : xCV mX10_number 33 mX10_next 0 10 36 := ⟨95, by decide +kernel, rfl, ⟨cm_X10_95.1, cm_X10_95.2.1, cm_X10_95.2.2.1, cm_X10_95.2.2.2.1, cm_X10_95.2.2.2.2⟩, xT_4 171 rfl rfl, xT_0 23 rfl rfl, _, rfl, rfl⟩
theorem eX10_number_36 : xD mX10_number 36 (.iadd) 1 37 := ⟨by decide +kernel, rfl⟩
theorem eX10_number_37 : xK mX10_number 37 (nI 48) 39 := Or.inr (Or.inl (⟨48, by decide +kernel, by decide, rfl⟩))
theorem eX10_number_39 : xD mX10_number 39 (.isub) 1 40 := ⟨by decide +kernel, rfl⟩
theorem eX10_number_40 : x_istore mX10_number 40 3 41 := Or.inl ⟨3, by decide +kernel, rfl, rfl⟩
theorem eX10_number_41 : xD mX10_number 41 (.iinc 4 1) 3 44 := ⟨by decide +kernel, rfl⟩
theorem eX10_number_44 : x_aload mX10_number 44 0 45 := Or.inl ⟨0, by decide +kernel, rfl, rfl⟩
theorem eX10_number_45 : xD mX10_number 45 (.dup) 1 46 := ⟨by decide +kernel, rfl⟩
theorem eX10_number_46 : xGF mX10_number 46 10 14 49 := ⟨92, _, _, by decide +kernel, rfl, fl_X10_92⟩
theorem eX10_number_49 : xK mX10_number 49 (nI 1) 50 := Or.inl (⟨1, by decide +kernel, by decide, rfl⟩)
theorem eX10_number_50 : xD mX10_number 50 (.iadd) 1 51 := ⟨by decide +kernel, rfl⟩
theorem eX10_number_51 : xPF mX10_number 51 10 14 (.int) 54 := ⟨92, _, by decide +kernel, rfl, fl_X10_92, fun h => by cases h⟩
theorem eX10_number_54 : xJ mX10_number 54 (.goto) 5 57 := ⟨(-49), by decide +kernel, by decide, rfl⟩
theorem eX10_number_57 : x_aload mX10_number 57 0 58 := Or.inl ⟨0, by decide +kernel, rfl, rfl⟩
theorem eX10_number_58 : x_aload mX10_number 58 0 59 := Or.inl ⟨0, by decide +kernel, rfl, rfl⟩
theorem eX10_number_59 : xGF mX10_number 59 10 16 62 := ⟨103, _, _, by decide +kernel, rfl, fl_X10_103⟩
theorem eX10_number_62 : xJ mX10_number 62 (.ifCond .ne) 88 65 := ⟨(26), by decide +kernel, by decide, rfl⟩
theorem eX10_number_65 : x_iload mX10_number 65 4 67 := Or.inr ⟨by decide +kernel, rfl⟩
theorem eX10_number_67 : xJ mX10_number 67 (.ifCond .eq) 88 70 := ⟨(21), by decide +kernel, by decide, rfl⟩
theorem eX10_number_70 : x_iload mX10_number 70 4 72 := Or.inr ⟨by decide +kernel, rfl⟩
theorem eX10_number_72 : xK mX10_number 72 (nI 2) 73 := Or.inl (⟨2, by decide +kernel, by decide, rfl⟩)
theorem eX10_number_73 : xJ mX10_number 73 (.if_icmp .gt) 88 76 := ⟨(15), by decide +kernel, by decide, rfl⟩
theorem eX10_number_76 : x_iload mX10_number 76 3 77 := Or.inl ⟨3, by decide +kernel, rfl, rfl⟩
theorem eX10_number_77 : xD mX10_number 77 (.i2l) 1 78 := ⟨by decide +kernel, rfl⟩
theorem eX10_number_78 : x_iload mX10_number 78 1 79 := Or.inl ⟨1, by decide +kernel, rfl, rfl⟩
theorem eX10_number_79 : xD mX10_number 79 (.i2l) 1 80 := ⟨by decide +kernel, rfl⟩
theorem eX10_number_80 : x_iload mX10_number 80 2 81 := Or.inl ⟨2, by decide +kernel, rfl, rfl⟩
theorem eX10_number_81 : xD mX10_number 81 (.i2l) 1 82 := ⟨by decide +kernel, rfl⟩
set_option maxRecDepth 20000 in
theorem eX10_number_82 : xCS mX10_number 82 mX10_in 3 85 := ⟨81, by decide +kernel, rfl, ⟨cm_X10_81.1, cm_X10_81.2.1, cm_X10_81.2.2.1, cm_X10_81.2.2.2.1, cm_X10_81.2.2.2.2⟩, xT_4 155 rfl rfl⟩
theorem eX10_number_85 : xJ mX10_number 85 (.ifCond .ne) 92 88 := ⟨(7), by decide +kernel, by decide, rfl⟩
theorem eX10_number_88 : xK mX10_number 88 (nI 1) 89 := Or.inl (⟨1, by decide +kernel, by decide, rfl⟩)
theorem eX10_number_89 : xJ mX10_number 89 (.goto) 93 92 := ⟨(4), by decide +kernel, by decide, rfl⟩
theorem eX10_number_92 : xK mX10_number 92 (nI 0) 93 := Or.inl (⟨0, by decide +kernel, by decide, rfl⟩)
theorem eX10_number_93 : xPF mX10_number 93 10 16 (.boolean) 96 := ⟨103, _, by decide +kernel, rfl, fl_X10_103, fun h => by cases h⟩
theorem eX10_number_96 : x_aload mX10_number 96 0 97 := Or.inl ⟨0, by decide +kernel, rfl, rfl⟩
theorem eX10_number_97 : xGF mX10_number 97 10 16 100 := ⟨103, _, _, by decide +kernel, rfl, fl_X10_103⟩
theorem eX10_number_100 : xJ mX10_number 100 (.ifCond .eq) 107 103 := ⟨(7), by decide +kernel, by decide, rfl⟩
theorem eX10_number_103 : xK mX10_number 103 (nI 0) 104 := Or.inl (⟨0, by decide +kernel, by decide, rfl⟩)
theorem eX10_number_104 : xJ mX10_number 104 (.goto) 108 107 := ⟨(4), by decide +kernel, by decide, rfl⟩
theorem eX10_number_107 : x_iload mX10_number 107 3 108 := Or.inl ⟨3, by decide +kernel, rfl, rfl⟩
theorem eX10_number_108 : xD mX10_number 108 (.ireturn) 1 109 := ⟨by decide +kernel, rfl⟩
theorem eX10_more_0 : x_aload mX10_more 0 0 1 := Or.inl ⟨0, by decide +kernel, rfl, rfl⟩
theorem eX10_more_1 : x_aload mX10_more 1 0 2 := Or.inl ⟨0, by decide +kernel, rfl, rfl⟩
theorem eX10_more_2 : xGF mX10_more 2 10 16 5 := ⟨103, _, _, by decide +kernel, rfl, fl_X10_103⟩
theorem eX10_more_5 : xJ mX10_more 5 (.ifCond .ne) 17 8 := ⟨(12), by decide +kernel, by decide, rfl⟩
theorem eX10_more_8 : x_aload mX10_more 8 0 9 := Or.inl ⟨0, by decide +kernel, rfl, rfl⟩
set_option maxRecDepth 20000 in
theorem eX10_more_9 : xCV mX10_more 9 mX10_next 0 10 12 := ⟨95, by decide +kernel, rfl, ⟨cm_X10_95.1, cm_X10_95.2.1, cm_X10_95.2.2.1, cm_X10_95.2.2.2.1, cm_X10_95.2.2.2.2⟩, xT_4 171 rfl rfl, xT_0 23 rfl rfl, _, rfl, rfl⟩
theorem eX10_more_12 : xK mX10_more 12 (nI 44) 14 := Or.inr (Or.inl (⟨44, by decide +kernel, by decide, rfl⟩))
theorem eX10_more_14 : xJ mX10_more 14 (.if_icmp .eq) 21 17 := ⟨(7), by decide +kernel, by decide, rfl⟩
theorem eX10_more_17 : xK mX10_more 17 (nI 1) 18 := Or.inl (⟨1, by decide +kernel, by decide, rfl⟩)
theorem eX10_more_18 : xJ mX10_more 18 (.goto) 22 21 := ⟨(4), by decide +kernel, by decide, rfl⟩
theorem eX10_more_21 : xK mX10_more 21 (nI 0) 22 := Or.inl (⟨0, by decide +kernel, by decide, rfl⟩)
theorem eX10_more_22 : xPF mX10_more 22 10 16 (.boolean) 25 := ⟨103, _, by decide +kernel, rfl, fl_X10_103, fun h => by cases h⟩
theorem eX10_more_25 : x_aload mX10_more 25 0 26 := Or.inl ⟨0, by decide +kernel, rfl, rfl⟩
theorem eX10_more_26 : xD mX10_more 26 (.dup) 1 27 := ⟨by decide +kernel, rfl⟩
theorem eX10_more_27 : xGF mX10_more 27 10 14 30 := ⟨92, _, _, by decide +kernel, rfl, fl_X10_92⟩
theorem eX10_more_30 : xK mX10_more 30 (nI 1) 31 := Or.inl (⟨1, by decide +kernel, by decide, rfl⟩)
theorem eX10_more_31 : xD mX10_more 31 (.iadd) 1 32 := ⟨by decide +kernel, rfl⟩
theorem eX10_more_32 : xPF mX10_more 32 10 14 (.int) 35 := ⟨92, _, by decide +kernel, rfl, fl_X10_92, fun h => by cases h⟩
theorem eX10_more_35 : x_aload mX10_more 35 0 36 := Or.inl ⟨0, by decide +kernel, rfl, rfl⟩
theorem eX10_more_36 : xGF mX10_more 36 10 16 39 := ⟨103, _, _, by decide +kernel, rfl, fl_X10_103⟩
theorem eX10_more_39 : xJ mX10_more 39 (.ifCond .eq) 46 42 := ⟨(7), by decide +kernel, by decide, rfl⟩
theorem eX10_more_42 : xK mX10_more 42 (nI 0) 43 := Or.inl (⟨0, by decide +kernel, by decide, rfl⟩)
theorem eX10_more_43 : xJ mX10_more 43 (.goto) 52 46 := ⟨(9), by decide +kernel, by decide, rfl⟩
theorem eX10_more_46 : x_aload mX10_more 46 0 47 := Or.inl ⟨0, by decide +kernel, rfl, rfl⟩
theorem eX10_more_47 : x_iload mX10_more 47 1 48 := Or.inl ⟨1, by decide +kernel, rfl, rfl⟩
theorem eX10_more_48 : x_iload mX10_more 48 2 49 := Or.inl ⟨2, by decide +kernel, rfl, rfl⟩
set_option maxRecDepth 20000 in
theorem eX10_more_49 : xCV mX10_more 49 mX10_number 2 10 52 := ⟨107, by decide +kernel, rfl, ⟨cm_X10_107.1, cm_X10_107.2.1, cm_X10_107.2.2.1, cm_X10_107.2.2.2.1, cm_X10_107.2.2.2.2⟩, xT_4 179 rfl rfl, xT_0 25 rfl rfl, _, rfl, rfl⟩
theorem eX10_more_52 : xD mX10_more 52 (.ireturn) 1 53 := ⟨by decide +kernel, rfl⟩
theorem eX10_item_0 : x_iload mX10_item 0 1 1 := Or.inl ⟨1, by decide +kernel, rfl, rfl⟩
theorem eX10_item_1 : xK mX10_item 1 (nI 118) 3 := Or.inr (Or.inl (⟨118, by decide +kernel, by decide, rfl⟩))
theorem eX10_item_3 : xJ mX10_item 3 (.if_icmp .ne) 69 6 := ⟨(66), by decide +kernel, by decide, rfl⟩
theorem eX10_item_6 : x_aload mX10_item 6 0 7 := Or.inl ⟨0, by decide +kernel, rfl, rfl⟩
theorem eX10_item_7 : x_aload mX10_item 7 0 8 := Or.inl ⟨0, by decide +kernel, rfl, rfl⟩
theorem eX10_item_8 : xGF mX10_item 8 10 5 11 := ⟨64, _, _, by decide +kernel, rfl, fl_X10_64⟩
theorem eX10_item_11 : xK mX10_item 11 (nI 7) 13 := Or.inr (Or.inl (⟨7, by decide +kernel, by decide, rfl⟩))
theorem eX10_item_13 : xJ mX10_item 13 (.if_icmp .ne) 20 16 := ⟨(7), by decide +kernel, by decide, rfl⟩
theorem eX10_item_16 : xK mX10_item 16 (nI 1) 17 := Or.inl (⟨1, by decide +kernel, by decide, rfl⟩)
theorem eX10_item_17 : xJ mX10_item 17 (.goto) 21 20 := ⟨(4), by decide +kernel, by decide, rfl⟩
theorem eX10_item_20 : xK mX10_item 20 (nI 0) 21 := Or.inl (⟨0, by decide +kernel, by decide, rfl⟩)
theorem eX10_item_21 : xPF mX10_item 21 10 16 (.boolean) 24 := ⟨103, _, by decide +kernel, rfl, fl_X10_103, fun h => by cases h⟩
theorem eX10_item_24 : x_aload mX10_item 24 0 25 := Or.inl ⟨0, by decide +kernel, rfl, rfl⟩
theorem eX10_item_25 : xGF mX10_item 25 10 16 28 := ⟨103, _, _, by decide +kernel, rfl, fl_X10_103⟩
theorem eX10_item_28 : xJ mX10_item 28 (.ifCond .eq) 35 31 := ⟨(7), by decide +kernel, by decide, rfl⟩
theorem eX10_item_31 : xK mX10_item 31 (nI 0) 32 := Or.inl (⟨0, by decide +kernel, by decide, rfl⟩)
theorem eX10_item_32 : xJ mX10_item 32 (.goto) 41 35 := ⟨(9), by decide +kernel, by decide, rfl⟩
theorem eX10_item_35 : x_aload mX10_item 35 0 36 := Or.inl ⟨0, by decide +kernel, rfl, rfl⟩
theorem eX10_item_36 : xK mX10_item 36 (nI 0) 37 := Or.inl (⟨0, by decide +kernel, by decide, rfl⟩)
theorem eX10_item_37 : xK mX10_item 37 (nI 4) 38 := Or.inl (⟨4, by decide +kernel, by decide, rfl⟩)
set_option maxRecDepth 20000 in
theorem eX10_item_38 : xCV mX10_item 38 mX10_number 2 10 41 := ⟨107, by decide +kernel, rfl, ⟨cm_X10_107.1, cm_X10_107.2.1, cm_X10_107.2.2.1, cm_X10_107.2.2.2.1, cm_X10_107.2.2.2.2⟩, xT_4 179 rfl rfl, xT_0 25 rfl rfl, _, rfl, rfl⟩
theorem eX10_item_41 : x_istore mX10_item 41 2 42 := Or.inl ⟨2, by decide +kernel, rfl, rfl⟩
theorem eX10_item_42 : x_aload mX10_item 42 0 43 := Or.inl ⟨0, by decide +kernel, rfl, rfl⟩
theorem eX10_item_43 : xK mX10_item 43 (nI 0) 44 := Or.inl (⟨0, by decide +kernel, by decide, rfl⟩)
theorem eX10_item_44 : xK mX10_item 44 (nI 60) 46 := Or.inr (Or.inl (⟨60, by decide +kernel, by decide, rfl⟩))
set_option maxRecDepth 20000 in
theorem eX10_item_46 : xCV mX10_item 46 mX10_more 2 10 49 := ⟨110, by decide +kernel, rfl, ⟨cm_X10_110.1, cm_X10_110.2.1, cm_X10_110.2.2.1, cm_X10_110.2.2.2.1, cm_X10_110.2.2.2.2⟩, xT_4 185 rfl rfl, xT_0 26 rfl rfl, _, rfl, rfl⟩
theorem eX10_item_49 : x_istore mX10_item 49 3 50 := Or.inl ⟨3, by decide +kernel, rfl, rfl⟩
theorem eX10_item_50 : x_aload mX10_item 50 0 51 := Or.inl ⟨0, by decide +kernel, rfl, rfl⟩
theorem eX10_item_51 : xGF mX10_item 51 10 16 54 := ⟨103, _, _, by decide +kernel, rfl, fl_X10_103⟩
theorem eX10_item_54 : xJ mX10_item 54 (.ifCond .ne) 66 57 := ⟨(12), by decide +kernel, by decide, rfl⟩
theorem eX10_item_57 : x_aload mX10_item 57 0 58 := Or.inl ⟨0, by decide +kernel, rfl, rfl⟩
theorem eX10_item_58 : xK mX10_item 58 (nI 242) 61 := Or.inr (Or.inr (Or.inl (⟨242, by decide +kernel, by decide, rfl⟩)))
theorem eX10_item_61 : x_iload mX10_item 61 2 62 := Or.inl ⟨2, by decide +kernel, rfl, rfl⟩
theorem eX10_item_62 : x_iload mX10_item 62 3 63 := Or.inl ⟨3, by decide +kernel, rfl, rfl⟩
set_option maxRecDepth 20000 in
theorem eX10_item_63 : xCV mX10_item 63 mX10_lives 3 10 66 := ⟨50, by decide +kernel, rfl, ⟨cm_X10_50.1, cm_X10_50.2.1, cm_X10_50.2.2.1, cm_X10_50.2.2.2.1, cm_X10_50.2.2.2.2⟩, xT_4 52 rfl rfl, xT_0 18 rfl rfl, _, rfl, rfl⟩
theorem eX10_item_66 : xJ mX10_item 66 (.goto) 216 69 := ⟨(150), by decide +kernel, by decide, rfl⟩
theorem eX10_item_69 : x_iload mX10_item 69 1 70 := Or.inl ⟨1, by decide +kernel, rfl, rfl⟩
theorem eX10_item_70 : xK mX10_item 70 (nI 119) 72 := Or.inr (Or.inl (⟨119, by decide +kernel, by decide, rfl⟩))
theorem eX10_item_72 : xJ mX10_item 72 (.if_icmp .ne) 147 75 := ⟨(75), by decide +kernel, by decide, rfl⟩
theorem eX10_item_75 : x_aload mX10_item 75 0 76 := Or.inl ⟨0, by decide +kernel, rfl, rfl⟩
theorem eX10_item_76 : xK mX10_item 76 (nI 0) 77 := Or.inl (⟨0, by decide +kernel, by decide, rfl⟩)
theorem eX10_item_77 : x_aload mX10_item 77 0 78 := Or.inl ⟨0, by decide +kernel, rfl, rfl⟩
theorem eX10_item_78 : xGF mX10_item 78 10 5 81 := ⟨64, _, _, by decide +kernel, rfl, fl_X10_64⟩
theorem eX10_item_81 : xK mX10_item 81 (nI 1) 82 := Or.inl (⟨1, by decide +kernel, by decide, rfl⟩)
theorem eX10_item_82 : xD mX10_item 82 (.isub) 1 83 := ⟨by decide +kernel, rfl⟩
set_option maxRecDepth 20000 in
theorem eX10_item_83 : xCV mX10_item 83 mX10_number 2 10 86 := ⟨107, by decide +kernel, rfl, ⟨cm_X10_107.1, cm_X10_107.2.1, cm_X10_107.2.2.1, cm_X10_107.2.2.2.1, cm_X10_107.2.2.2.2⟩, xT_4 179 rfl rfl, xT_0 25 rfl rfl, _, rfl, rfl⟩
theorem eX10_item_86 : x_istore mX10_item 86 2 87 := Or.inl ⟨2, by decide +kernel, rfl, rfl⟩
theorem eX10_item_87 : x_aload mX10_item 87 0 88 := Or.inl ⟨0, by decide +kernel, rfl, rfl⟩
theorem eX10_item_88 : xK mX10_item 88 (nI 0) 89 := Or.inl (⟨0, by decide +kernel, by decide, rfl⟩)
theorem eX10_item_89 : x_aload mX10_item 89 0 90 := Or.inl ⟨0, by decide +kernel, rfl, rfl⟩
theorem eX10_item_90 : xGF mX10_item 90 10 5 93 := ⟨64, _, _, by decide +kernel, rfl, fl_X10_64⟩
theorem eX10_item_93 : xK mX10_item 93 (nI 1) 94 := Or.inl (⟨1, by decide +kernel, by decide, rfl⟩)
theorem eX10_item_94 : xD mX10_item 94 (.isub) 1 95 := ⟨by decide +kernel, rfl⟩
set_option maxRecDepth 20000 in
theorem eX10_item_95 : xCV mX10_item 95 mX10_more 2 10 98 := ⟨110, by decide +kernel, rfl, ⟨cm_X10_110.1, cm_X10_110.2.1, cm_X10_110.2.2.1, cm_X10_110.2.2.2.1, cm_X10_110.2.2.2.2⟩, xT_4 185 rfl rfl, xT_0 26 rfl rfl, _, rfl, rfl⟩
theorem eX10_item_98 : x_istore mX10_item 98 3 99 := Or.inl ⟨3, by decide +kernel, rfl, rfl⟩
theorem eX10_item_99 : x_aload mX10_item 99 0 100 := Or.inl ⟨0, by decide +kernel, rfl, rfl⟩
theorem eX10_item_100 : xK mX10_item 100 (nI 1) 101 := Or.inl (⟨1, by decide +kernel, by decide, rfl⟩)
theorem eX10_item_101 : xK mX10_item 101 (nI 20) 103 := Or.inr (Or.inl (⟨20, by decide +kernel, by decide, rfl⟩))
set_option maxRecDepth 20000 in
theorem eX10_item_103 : xCV mX10_item 103 mX10_more 2 10 106 := ⟨110, by decide +kernel, rfl, ⟨cm_X10_110.1, cm_X10_110.2.1, cm_X10_110.2.2.1, cm_X10_110.2.2.2.1, cm_X10_110.2.2.2.2⟩, xT_4 185 rfl rfl, xT_0 26 rfl rfl, _, rfl, rfl⟩
theorem eX10_item_106 : x_istore mX10_item 106 4 108 := Or.inr ⟨by decide +kernel, rfl⟩
theorem eX10_item_108 : x_aload mX10_item 108 0 109 := Or.inl ⟨0, by decide +kernel, rfl, rfl⟩
theorem eX10_item_109 : x_aload mX10_item 109 0 110 := Or.inl ⟨0, by decide +kernel, rfl, rfl⟩
theorem eX10_item_110 : xGF mX10_item 110 10 16 113 := ⟨103, _, _, by decide +kernel, rfl, fl_X10_103⟩
theorem eX10_item_113 : xJ mX10_item 113 (.ifCond .ne) 121 116 := ⟨(8), by decide +kernel, by decide, rfl⟩
theorem eX10_item_116 : x_iload mX10_item 116 2 117 := Or.inl ⟨2, by decide +kernel, rfl, rfl⟩
theorem eX10_item_117 : x_iload mX10_item 117 3 118 := Or.inl ⟨3, by decide +kernel, rfl, rfl⟩
theorem eX10_item_118 : xJ mX10_item 118 (.if_icmp .ne) 125 121 := ⟨(7), by decide +kernel, by decide, rfl⟩
theorem eX10_item_121 : xK mX10_item 121 (nI 1) 122 := Or.inl (⟨1, by decide +kernel, by decide, rfl⟩)
theorem eX10_item_122 : xJ mX10_item 122 (.goto) 126 125 := ⟨(4), by decide +kernel, by decide, rfl⟩
theorem eX10_item_125 : xK mX10_item 125 (nI 0) 126 := Or.inl (⟨0, by decide +kernel, by decide, rfl⟩)
theorem eX10_item_126 : xPF mX10_item 126 10 16 (.boolean) 129 := ⟨103, _, by decide +kernel, rfl, fl_X10_103, fun h => by cases h⟩
theorem eX10_item_129 : x_aload mX10_item 129 0 130 := Or.inl ⟨0, by decide +kernel, rfl, rfl⟩
theorem eX10_item_130 : xGF mX10_item 130 10 16 133 := ⟨103, _, _, by decide +kernel, rfl, fl_X10_103⟩
theorem eX10_item_133 : xJ mX10_item 133 (.ifCond .ne) 144 136 := ⟨(11), by decide +kernel, by decide, rfl⟩
theorem eX10_item_136 : x_aload mX10_item 136 0 137 := Or.inl ⟨0, by decide +kernel, rfl, rfl⟩
theorem eX10_item_137 : x_iload mX10_item 137 2 138 := Or.inl ⟨2, by decide +kernel, rfl, rfl⟩
theorem eX10_item_138 : x_iload mX10_item 138 3 139 := Or.inl ⟨3, by decide +kernel, rfl, rfl⟩
theorem eX10_item_139 : x_iload mX10_item 139 4 141 := Or.inr ⟨by decide +kernel, rfl⟩
set_option maxRecDepth 20000 in
theorem eX10_item_141 : xCV mX10_item 141 mX10_joins 3 10 144 := ⟨54, by decide +kernel, rfl, ⟨cm_X10_54.1, cm_X10_54.2.1, cm_X10_54.2.2.1, cm_X10_54.2.2.2.1, cm_X10_54.2.2.2.2⟩, xT_4 56 rfl rfl, xT_0 19 rfl rfl, _, rfl, rfl⟩
theorem eX10_item_144 : xJ mX10_item 144 (.goto) 216 147 := ⟨(72), by decide +kernel, by decide, rfl⟩
theorem eX10_item_147 : x_iload mX10_item 147 1 148 := Or.inl ⟨1, by decide +kernel, rfl, rfl⟩
theorem eX10_item_148 : xK mX10_item 148 (nI 112) 150 := Or.inr (Or.inl (⟨112, by decide +kernel, by decide, rfl⟩))
theorem eX10_item_150 : xJ mX10_item 150 (.if_icmp .ne) 211 153 := ⟨(61), by decide +kernel, by decide, rfl⟩
theorem eX10_item_153 : x_aload mX10_item 153 0 154 := Or.inl ⟨0, by decide +kernel, rfl, rfl⟩
theorem eX10_item_154 : x_aload mX10_item 154 0 155 := Or.inl ⟨0, by decide +kernel, rfl, rfl⟩
theorem eX10_item_155 : xGF mX10_item 155 10 7 158 := ⟨68, _, _, by decide +kernel, rfl, fl_X10_68⟩
theorem eX10_item_158 : xK mX10_item 158 (nI 3) 159 := Or.inl (⟨3, by decide +kernel, by decide, rfl⟩)
theorem eX10_item_159 : xJ mX10_item 159 (.if_icmp .ne) 166 162 := ⟨(7), by decide +kernel, by decide, rfl⟩
theorem eX10_item_162 : xK mX10_item 162 (nI 1) 163 := Or.inl (⟨1, by decide +kernel, by decide, rfl⟩)
theorem eX10_item_163 : xJ mX10_item 163 (.goto) 167 166 := ⟨(4), by decide +kernel, by decide, rfl⟩
theorem eX10_item_166 : xK mX10_item 166 (nI 0) 167 := Or.inl (⟨0, by decide +kernel, by decide, rfl⟩)
theorem eX10_item_167 : xPF mX10_item 167 10 16 (.boolean) 170 := ⟨103, _, by decide +kernel, rfl, fl_X10_103, fun h => by cases h⟩
theorem eX10_item_170 : x_aload mX10_item 170 0 171 := Or.inl ⟨0, by decide +kernel, rfl, rfl⟩
theorem eX10_item_171 : xGF mX10_item 171 10 16 174 := ⟨103, _, _, by decide +kernel, rfl, fl_X10_103⟩
theorem eX10_item_174 : xJ mX10_item 174 (.ifCond .eq) 181 177 := ⟨(7), by decide +kernel, by decide, rfl⟩
theorem eX10_item_177 : xK mX10_item 177 (nI 0) 178 := Or.inl (⟨0, by decide +kernel, by decide, rfl⟩)
theorem eX10_item_178 : xJ mX10_item 178 (.goto) 192 181 := ⟨(14), by decide +kernel, by decide, rfl⟩
theorem eX10_item_181 : x_aload mX10_item 181 0 182 := Or.inl ⟨0, by decide +kernel, rfl, rfl⟩
theorem eX10_item_182 : xK mX10_item 182 (nI 0) 183 := Or.inl (⟨0, by decide +kernel, by decide, rfl⟩)
theorem eX10_item_183 : x_aload mX10_item 183 0 184 := Or.inl ⟨0, by decide +kernel, rfl, rfl⟩
theorem eX10_item_184 : xGF mX10_item 184 10 5 187 := ⟨64, _, _, by decide +kernel, rfl, fl_X10_64⟩
theorem eX10_item_187 : xK mX10_item 187 (nI 1) 188 := Or.inl (⟨1, by decide +kernel, by decide, rfl⟩)
theorem eX10_item_188 : xD mX10_item 188 (.isub) 1 189 := ⟨by decide +kernel, rfl⟩
set_option maxRecDepth 20000 in
theorem eX10_item_189 : xCV mX10_item 189 mX10_number 2 10 192 := ⟨107, by decide +kernel, rfl, ⟨cm_X10_107.1, cm_X10_107.2.1, cm_X10_107.2.2.1, cm_X10_107.2.2.2.1, cm_X10_107.2.2.2.2⟩, xT_4 179 rfl rfl, xT_0 25 rfl rfl, _, rfl, rfl⟩
theorem eX10_item_192 : x_istore mX10_item 192 2 193 := Or.inl ⟨2, by decide +kernel, rfl, rfl⟩
theorem eX10_item_193 : x_aload mX10_item 193 0 194 := Or.inl ⟨0, by decide +kernel, rfl, rfl⟩
theorem eX10_item_194 : xGF mX10_item 194 10 16 197 := ⟨103, _, _, by decide +kernel, rfl, fl_X10_103⟩
theorem eX10_item_197 : xJ mX10_item 197 (.ifCond .ne) 208 200 := ⟨(11), by decide +kernel, by decide, rfl⟩
theorem eX10_item_200 : x_aload mX10_item 200 0 201 := Or.inl ⟨0, by decide +kernel, rfl, rfl⟩
theorem eX10_item_201 : xK mX10_item 201 (nI 242) 204 := Or.inr (Or.inr (Or.inl (⟨242, by decide +kernel, by decide, rfl⟩)))
theorem eX10_item_204 : x_iload mX10_item 204 2 205 := Or.inl ⟨2, by decide +kernel, rfl, rfl⟩
set_option maxRecDepth 20000 in
theorem eX10_item_205 : xCV mX10_item 205 mX10_begins 2 10 208 := ⟨57, by decide +kernel, rfl, ⟨cm_X10_57.1, cm_X10_57.2.1, cm_X10_57.2.2.1, cm_X10_57.2.2.2.1, cm_X10_57.2.2.2.2⟩, xT_4 60 rfl rfl, xT_0 20 rfl rfl, _, rfl, rfl⟩
theorem eX10_item_208 : xJ mX10_item 208 (.goto) 216 211 := ⟨(8), by decide +kernel, by decide, rfl⟩
theorem eX10_item_211 : x_aload mX10_item 211 0 212 := Or.inl ⟨0, by decide +kernel, rfl, rfl⟩
theorem eX10_item_212 : xK mX10_item 212 (nI 1) 213 := Or.inl (⟨1, by decide +kernel, by decide, rfl⟩)
theorem eX10_item_213 : xPF mX10_item 213 10 16 (.boolean) 216 := ⟨103, _, by decide +kernel, rfl, fl_X10_103, fun h => by cases h⟩
theorem eX10_item_216 : xD mX10_item 216 (.return_) 1 217 := ⟨by decide +kernel, rfl⟩
theorem eX10_reads_0 : x_aload mX10_reads 0 0 1 := Or.inl ⟨0, by decide +kernel, rfl, rfl⟩
theorem eX10_reads_1 : xK mX10_reads 1 (nI 0) 2 := Or.inl (⟨0, by decide +kernel, by decide, rfl⟩)
theorem eX10_reads_2 : xPF mX10_reads 2 10 5 (.int) 5 := ⟨64, _, by decide +kernel, rfl, fl_X10_64, fun h => by cases h⟩
theorem eX10_reads_5 : x_aload mX10_reads 5 0 6 := Or.inl ⟨0, by decide +kernel, rfl, rfl⟩
theorem eX10_reads_6 : xK mX10_reads 6 (nI 0) 7 := Or.inl (⟨0, by decide +kernel, by decide, rfl⟩)
theorem eX10_reads_7 : xPF mX10_reads 7 10 7 (.int) 10 := ⟨68, _, by decide +kernel, rfl, fl_X10_68, fun h => by cases h⟩
theorem eX10_reads_10 : xK mX10_reads 10 (nI 0) 11 := Or.inl (⟨0, by decide +kernel, by decide, rfl⟩)
theorem eX10_reads_11 : x_istore mX10_reads 11 1 12 := Or.inl ⟨1, by decide +kernel, rfl, rfl⟩
theorem eX10_reads_12 : x_iload mX10_reads 12 1 13 := Or.inl ⟨1, by decide +kernel, rfl, rfl⟩
theorem eX10_reads_13 : xK mX10_reads 13 (nI 49) 15 := Or.inr (Or.inl (⟨49, by decide +kernel, by decide, rfl⟩))
theorem eX10_reads_15 : xJ mX10_reads 15 (.if_icmp .ge) 31 18 := ⟨(16), by decide +kernel, by decide, rfl⟩
theorem eX10_reads_18 : x_aload mX10_reads 18 0 19 := Or.inl ⟨0, by decide +kernel, rfl, rfl⟩
theorem eX10_reads_19 : xGF mX10_reads 19 10 8 22 := ⟨22, _, _, by decide +kernel, rfl, fl_X10_22⟩
theorem eX10_reads_22 : x_iload mX10_reads 22 1 23 := Or.inl ⟨1, by decide +kernel, rfl, rfl⟩
theorem eX10_reads_23 : xK mX10_reads 23 (nI 0) 24 := Or.inl (⟨0, by decide +kernel, by decide, rfl⟩)
theorem eX10_reads_24 : xD mX10_reads 24 (.iastore) 1 25 := ⟨by decide +kernel, rfl⟩
theorem eX10_reads_25 : xD mX10_reads 25 (.iinc 1 1) 3 28 := ⟨by decide +kernel, rfl⟩
theorem eX10_reads_28 : xJ mX10_reads 28 (.goto) 12 31 := ⟨(-16), by decide +kernel, by decide, rfl⟩
theorem eX10_reads_31 : xK mX10_reads 31 (nI 0) 32 := Or.inl (⟨0, by decide +kernel, by decide, rfl⟩)
theorem eX10_reads_32 : x_istore mX10_reads 32 1 33 := Or.inl ⟨1, by decide +kernel, rfl, rfl⟩
theorem eX10_reads_33 : x_iload mX10_reads 33 1 34 := Or.inl ⟨1, by decide +kernel, rfl, rfl⟩
theorem eX10_reads_34 : xK mX10_reads 34 (nI 22) 36 := Or.inr (Or.inl (⟨22, by decide +kernel, by decide, rfl⟩))
theorem eX10_reads_36 : xJ mX10_reads 36 (.if_icmp .ge) 56 39 := ⟨(20), by decide +kernel, by decide, rfl⟩
theorem eX10_reads_39 : x_aload mX10_reads 39 0 40 := Or.inl ⟨0, by decide +kernel, rfl, rfl⟩
theorem eX10_reads_40 : xGF mX10_reads 40 10 9 43 := ⟨25, _, _, by decide +kernel, rfl, fl_X10_25⟩
theorem eX10_reads_43 : xK mX10_reads 43 (nI 242) 46 := Or.inr (Or.inr (Or.inl (⟨242, by decide +kernel, by decide, rfl⟩)))
theorem eX10_reads_46 : x_iload mX10_reads 46 1 47 := Or.inl ⟨1, by decide +kernel, rfl, rfl⟩
theorem eX10_reads_47 : xD mX10_reads 47 (.iadd) 1 48 := ⟨by decide +kernel, rfl⟩
theorem eX10_reads_48 : xK mX10_reads 48 (nI 0) 49 := Or.inl (⟨0, by decide +kernel, by decide, rfl⟩)
theorem eX10_reads_49 : xD mX10_reads 49 (.iastore) 1 50 := ⟨by decide +kernel, rfl⟩
theorem eX10_reads_50 : xD mX10_reads 50 (.iinc 1 1) 3 53 := ⟨by decide +kernel, rfl⟩
theorem eX10_reads_53 : xJ mX10_reads 53 (.goto) 33 56 := ⟨(-20), by decide +kernel, by decide, rfl⟩
theorem eX10_reads_56 : x_aload mX10_reads 56 0 57 := Or.inl ⟨0, by decide +kernel, rfl, rfl⟩
theorem eX10_reads_57 : xK mX10_reads 57 (nI 0) 58 := Or.inl (⟨0, by decide +kernel, by decide, rfl⟩)
theorem eX10_reads_58 : xPF mX10_reads 58 10 14 (.int) 61 := ⟨92, _, by decide +kernel, rfl, fl_X10_92, fun h => by cases h⟩
theorem eX10_reads_61 : x_aload mX10_reads 61 0 62 := Or.inl ⟨0, by decide +kernel, rfl, rfl⟩
theorem eX10_reads_62 : xK mX10_reads 62 (nI 0) 63 := Or.inl (⟨0, by decide +kernel, by decide, rfl⟩)
theorem eX10_reads_63 : xPF mX10_reads 63 10 16 (.boolean) 66 := ⟨103, _, by decide +kernel, rfl, fl_X10_103, fun h => by cases h⟩
theorem eX10_reads_66 : x_aload mX10_reads 66 0 67 := Or.inl ⟨0, by decide +kernel, rfl, rfl⟩
theorem eX10_reads_67 : xGF mX10_reads 67 10 14 70 := ⟨92, _, _, by decide +kernel, rfl, fl_X10_92⟩
theorem eX10_reads_70 : x_aload mX10_reads 70 0 71 := Or.inl ⟨0, by decide +kernel, rfl, rfl⟩
theorem eX10_reads_71 : xGF mX10_reads 71 10 12 74 := ⟨89, _, _, by decide +kernel, rfl, fl_X10_89⟩
theorem eX10_reads_74 : xJ mX10_reads 74 (.if_icmp .ge) 150 77 := ⟨(76), by decide +kernel, by decide, rfl⟩
theorem eX10_reads_77 : x_aload mX10_reads 77 0 78 := Or.inl ⟨0, by decide +kernel, rfl, rfl⟩
theorem eX10_reads_78 : xGF mX10_reads 78 10 16 81 := ⟨103, _, _, by decide +kernel, rfl, fl_X10_103⟩
theorem eX10_reads_81 : xJ mX10_reads 81 (.ifCond .ne) 150 84 := ⟨(69), by decide +kernel, by decide, rfl⟩
theorem eX10_reads_84 : x_aload mX10_reads 84 0 85 := Or.inl ⟨0, by decide +kernel, rfl, rfl⟩
theorem eX10_reads_85 : x_aload mX10_reads 85 0 86 := Or.inl ⟨0, by decide +kernel, rfl, rfl⟩
theorem eX10_reads_86 : xGF mX10_reads 86 10 14 89 := ⟨92, _, _, by decide +kernel, rfl, fl_X10_92⟩
theorem eX10_reads_89 : xPF mX10_reads 89 10 15 (.int) 92 := ⟨113, _, by decide +kernel, rfl, fl_X10_113, fun h => by cases h⟩
theorem eX10_reads_92 : x_aload mX10_reads 92 0 93 := Or.inl ⟨0, by decide +kernel, rfl, rfl⟩
set_option maxRecDepth 20000 in
theorem eX10_reads_93 : xCV mX10_reads 93 mX10_next 0 10 96 := ⟨95, by decide +kernel, rfl, ⟨cm_X10_95.1, cm_X10_95.2.1, cm_X10_95.2.2.1, cm_X10_95.2.2.2.1, cm_X10_95.2.2.2.2⟩, xT_4 171 rfl rfl, xT_0 23 rfl rfl, _, rfl, rfl⟩
theorem eX10_reads_96 : x_istore mX10_reads 96 1 97 := Or.inl ⟨1, by decide +kernel, rfl, rfl⟩
theorem eX10_reads_97 : x_aload mX10_reads 97 0 98 := Or.inl ⟨0, by decide +kernel, rfl, rfl⟩
theorem eX10_reads_98 : xD mX10_reads 98 (.dup) 1 99 := ⟨by decide +kernel, rfl⟩
theorem eX10_reads_99 : xGF mX10_reads 99 10 14 102 := ⟨92, _, _, by decide +kernel, rfl, fl_X10_92⟩
theorem eX10_reads_102 : xK mX10_reads 102 (nI 1) 103 := Or.inl (⟨1, by decide +kernel, by decide, rfl⟩)
theorem eX10_reads_103 : xD mX10_reads 103 (.iadd) 1 104 := ⟨by decide +kernel, rfl⟩
theorem eX10_reads_104 : xPF mX10_reads 104 10 14 (.int) 107 := ⟨92, _, by decide +kernel, rfl, fl_X10_92, fun h => by cases h⟩
theorem eX10_reads_107 : x_aload mX10_reads 107 0 108 := Or.inl ⟨0, by decide +kernel, rfl, rfl⟩
theorem eX10_reads_108 : x_iload mX10_reads 108 1 109 := Or.inl ⟨1, by decide +kernel, rfl, rfl⟩
set_option maxRecDepth 20000 in
theorem eX10_reads_109 : xCV mX10_reads 109 mX10_item 1 10 112 := ⟨116, by decide +kernel, rfl, ⟨cm_X10_116.1, cm_X10_116.2.1, cm_X10_116.2.2.1, cm_X10_116.2.2.2.1, cm_X10_116.2.2.2.2⟩, xT_4 175 rfl rfl, xT_0 24 rfl rfl, _, rfl, rfl⟩
theorem eX10_reads_112 : x_aload mX10_reads 112 0 113 := Or.inl ⟨0, by decide +kernel, rfl, rfl⟩
theorem eX10_reads_113 : x_aload mX10_reads 113 0 114 := Or.inl ⟨0, by decide +kernel, rfl, rfl⟩
theorem eX10_reads_114 : xGF mX10_reads 114 10 16 117 := ⟨103, _, _, by decide +kernel, rfl, fl_X10_103⟩
theorem eX10_reads_117 : xJ mX10_reads 117 (.ifCond .ne) 129 120 := ⟨(12), by decide +kernel, by decide, rfl⟩
theorem eX10_reads_120 : x_aload mX10_reads 120 0 121 := Or.inl ⟨0, by decide +kernel, rfl, rfl⟩
set_option maxRecDepth 20000 in
theorem eX10_reads_121 : xCV mX10_reads 121 mX10_next 0 10 124 := ⟨95, by decide +kernel, rfl, ⟨cm_X10_95.1, cm_X10_95.2.1, cm_X10_95.2.2.1, cm_X10_95.2.2.2.1, cm_X10_95.2.2.2.2⟩, xT_4 171 rfl rfl, xT_0 23 rfl rfl, _, rfl, rfl⟩
theorem eX10_reads_124 : xK mX10_reads 124 (nI 59) 126 := Or.inr (Or.inl (⟨59, by decide +kernel, by decide, rfl⟩))
theorem eX10_reads_126 : xJ mX10_reads 126 (.if_icmp .eq) 133 129 := ⟨(7), by decide +kernel, by decide, rfl⟩
theorem eX10_reads_129 : xK mX10_reads 129 (nI 1) 130 := Or.inl (⟨1, by decide +kernel, by decide, rfl⟩)
theorem eX10_reads_130 : xJ mX10_reads 130 (.goto) 134 133 := ⟨(4), by decide +kernel, by decide, rfl⟩
theorem eX10_reads_133 : xK mX10_reads 133 (nI 0) 134 := Or.inl (⟨0, by decide +kernel, by decide, rfl⟩)
theorem eX10_reads_134 : xPF mX10_reads 134 10 16 (.boolean) 137 := ⟨103, _, by decide +kernel, rfl, fl_X10_103, fun h => by cases h⟩
theorem eX10_reads_137 : x_aload mX10_reads 137 0 138 := Or.inl ⟨0, by decide +kernel, rfl, rfl⟩
theorem eX10_reads_138 : xD mX10_reads 138 (.dup) 1 139 := ⟨by decide +kernel, rfl⟩
theorem eX10_reads_139 : xGF mX10_reads 139 10 14 142 := ⟨92, _, _, by decide +kernel, rfl, fl_X10_92⟩
theorem eX10_reads_142 : xK mX10_reads 142 (nI 1) 143 := Or.inl (⟨1, by decide +kernel, by decide, rfl⟩)
theorem eX10_reads_143 : xD mX10_reads 143 (.iadd) 1 144 := ⟨by decide +kernel, rfl⟩
theorem eX10_reads_144 : xPF mX10_reads 144 10 14 (.int) 147 := ⟨92, _, by decide +kernel, rfl, fl_X10_92, fun h => by cases h⟩
theorem eX10_reads_147 : xJ mX10_reads 147 (.goto) 66 150 := ⟨(-81), by decide +kernel, by decide, rfl⟩
theorem eX10_reads_150 : x_aload mX10_reads 150 0 151 := Or.inl ⟨0, by decide +kernel, rfl, rfl⟩
theorem eX10_reads_151 : xGF mX10_reads 151 10 16 154 := ⟨103, _, _, by decide +kernel, rfl, fl_X10_103⟩
theorem eX10_reads_154 : xJ mX10_reads 154 (.ifCond .ne) 161 157 := ⟨(7), by decide +kernel, by decide, rfl⟩
theorem eX10_reads_157 : xK mX10_reads 157 (nI 1) 158 := Or.inl (⟨1, by decide +kernel, by decide, rfl⟩)
theorem eX10_reads_158 : xJ mX10_reads 158 (.goto) 162 161 := ⟨(4), by decide +kernel, by decide, rfl⟩
theorem eX10_reads_161 : xK mX10_reads 161 (nI 0) 162 := Or.inl (⟨0, by decide +kernel, by decide, rfl⟩)
theorem eX10_reads_162 : xD mX10_reads 162 (.ireturn) 1 163 := ⟨by decide +kernel, rfl⟩
theorem eX10_fault_0 : x_aload mX10_fault 0 0 1 := Or.inl ⟨0, by decide +kernel, rfl, rfl⟩
set_option maxRecDepth 20000 in
theorem eX10_fault_1 : xCV mX10_fault 1 mX10_reads 0 10 4 := ⟨120, by decide +kernel, rfl, ⟨cm_X10_120.1, cm_X10_120.2.1, cm_X10_120.2.2.1, cm_X10_120.2.2.2.1, cm_X10_120.2.2.2.2⟩, xT_4 167 rfl rfl, xT_0 22 rfl rfl, _, rfl, rfl⟩
theorem eX10_fault_4 : xJ mX10_fault 4 (.ifCond .eq) 12 7 := ⟨(8), by decide +kernel, by decide, rfl⟩
theorem eX10_fault_7 : xK mX10_fault 7 ((-4)) 9 := Or.inr (Or.inl (⟨(-4), by decide +kernel, by decide, rfl⟩))
theorem eX10_fault_9 : xJ mX10_fault 9 (.goto) 16 12 := ⟨(7), by decide +kernel, by decide, rfl⟩
theorem eX10_fault_12 : x_aload mX10_fault 12 0 13 := Or.inl ⟨0, by decide +kernel, rfl, rfl⟩
theorem eX10_fault_13 : xGF mX10_fault 13 10 15 16 := ⟨113, _, _, by decide +kernel, rfl, fl_X10_113⟩
theorem eX10_fault_16 : xD mX10_fault 16 (.ireturn) 1 17 := ⟨by decide +kernel, rfl⟩
theorem eX10_lay_0 : x_aload mX10_lay 0 0 1 := Or.inl ⟨0, by decide +kernel, rfl, rfl⟩
set_option maxRecDepth 20000 in
theorem eX10_lay_1 : xCV mX10_lay 1 mX10_reads 0 10 4 := ⟨120, by decide +kernel, rfl, ⟨cm_X10_120.1, cm_X10_120.2.1, cm_X10_120.2.2.1, cm_X10_120.2.2.2.1, cm_X10_120.2.2.2.2⟩, xT_4 167 rfl rfl, xT_0 22 rfl rfl, _, rfl, rfl⟩
theorem eX10_lay_4 : xJ mX10_lay 4 (.ifCond .eq) 21 7 := ⟨(17), by decide +kernel, by decide, rfl⟩
theorem eX10_lay_7 : x_aload mX10_lay 7 0 8 := Or.inl ⟨0, by decide +kernel, rfl, rfl⟩
theorem eX10_lay_8 : xGF mX10_lay 8 10 5 11 := ⟨64, _, _, by decide +kernel, rfl, fl_X10_64⟩
theorem eX10_lay_11 : xJ mX10_lay 11 (.ifCond .eq) 21 14 := ⟨(10), by decide +kernel, by decide, rfl⟩
theorem eX10_lay_14 : x_aload mX10_lay 14 0 15 := Or.inl ⟨0, by decide +kernel, rfl, rfl⟩
theorem eX10_lay_15 : xGF mX10_lay 15 10 7 18 := ⟨68, _, _, by decide +kernel, rfl, fl_X10_68⟩
theorem eX10_lay_18 : xJ mX10_lay 18 (.ifCond .ne) 24 21 := ⟨(6), by decide +kernel, by decide, rfl⟩
theorem eX10_lay_21 : xK mX10_lay 21 ((-2)) 23 := Or.inr (Or.inl (⟨(-2), by decide +kernel, by decide, rfl⟩))
theorem eX10_lay_23 : xD mX10_lay 23 (.ireturn) 1 24 := ⟨by decide +kernel, rfl⟩
theorem eX10_lay_24 : x_aload mX10_lay 24 0 25 := Or.inl ⟨0, by decide +kernel, rfl, rfl⟩
set_option maxRecDepth 20000 in
theorem eX10_lay_25 : xCV mX10_lay 25 mX10_settles 0 10 28 := ⟨61, by decide +kernel, rfl, ⟨cm_X10_61.1, cm_X10_61.2.1, cm_X10_61.2.2.1, cm_X10_61.2.2.2.1, cm_X10_61.2.2.2.2⟩, xT_4 64 rfl rfl, xT_0 21 rfl rfl, _, rfl, rfl⟩
theorem eX10_lay_28 : x_aload mX10_lay 28 0 29 := Or.inl ⟨0, by decide +kernel, rfl, rfl⟩
theorem eX10_lay_29 : xK mX10_lay 29 (nI 242) 32 := Or.inr (Or.inr (Or.inl (⟨242, by decide +kernel, by decide, rfl⟩)))
theorem eX10_lay_32 : xK mX10_lay 32 (nI 0) 33 := Or.inl (⟨0, by decide +kernel, by decide, rfl⟩)
set_option maxRecDepth 20000 in
theorem eX10_lay_33 : xCV mX10_lay 33 mX10_copied 2 10 36 := ⟨124, by decide +kernel, rfl, ⟨cm_X10_124.1, cm_X10_124.2.1, cm_X10_124.2.2.1, cm_X10_124.2.2.2.1, cm_X10_124.2.2.2.2⟩, xT_4 193 rfl rfl, xT_0 27 rfl rfl, _, rfl, rfl⟩
theorem eX10_lay_36 : x_aload mX10_lay 36 0 37 := Or.inl ⟨0, by decide +kernel, rfl, rfl⟩
theorem eX10_lay_37 : xK mX10_lay 37 (nI 0) 38 := Or.inl (⟨0, by decide +kernel, by decide, rfl⟩)
theorem eX10_lay_38 : xPF mX10_lay 38 10 10 (.int) 41 := ⟨127, _, by decide +kernel, rfl, fl_X10_127, fun h => by cases h⟩
theorem eX10_lay_41 : x_aload mX10_lay 41 0 42 := Or.inl ⟨0, by decide +kernel, rfl, rfl⟩
theorem eX10_lay_42 : xK mX10_lay 42 (nI 0) 43 := Or.inl (⟨0, by decide +kernel, by decide, rfl⟩)
theorem eX10_lay_43 : xPF mX10_lay 43 10 11 (.int) 46 := ⟨130, _, by decide +kernel, rfl, fl_X10_130, fun h => by cases h⟩
theorem eX10_lay_46 : x_aload mX10_lay 46 0 47 := Or.inl ⟨0, by decide +kernel, rfl, rfl⟩
theorem eX10_lay_47 : xK mX10_lay 47 (nI 0) 48 := Or.inl (⟨0, by decide +kernel, by decide, rfl⟩)
theorem eX10_lay_48 : xPF mX10_lay 48 10 17 (.int) 51 := ⟨133, _, by decide +kernel, rfl, fl_X10_133, fun h => by cases h⟩
theorem eX10_lay_51 : x_aload mX10_lay 51 0 52 := Or.inl ⟨0, by decide +kernel, rfl, rfl⟩
theorem eX10_lay_52 : xGF mX10_lay 52 10 0 55 := ⟨71, _, _, by decide +kernel, rfl, fl_X10_71⟩
theorem eX10_lay_55 : xD mX10_lay 55 (.ireturn) 1 56 := ⟨by decide +kernel, rfl⟩
theorem eX10_areNear_0 : x_aload mX10_areNear 0 0 1 := Or.inl ⟨0, by decide +kernel, rfl, rfl⟩
theorem eX10_areNear_1 : xGF mX10_areNear 1 10 3 4 := ⟨13, _, _, by decide +kernel, rfl, fl_X10_13⟩
theorem eX10_areNear_4 : xK mX10_areNear 4 (nI 7) 6 := Or.inr (Or.inl (⟨7, by decide +kernel, by decide, rfl⟩))
theorem eX10_areNear_6 : x_iload mX10_areNear 6 1 7 := Or.inl ⟨1, by decide +kernel, rfl, rfl⟩
theorem eX10_areNear_7 : xD mX10_areNear 7 (.imul) 1 8 := ⟨by decide +kernel, rfl⟩
theorem eX10_areNear_8 : x_iload mX10_areNear 8 2 9 := Or.inl ⟨2, by decide +kernel, rfl, rfl⟩
theorem eX10_areNear_9 : xD mX10_areNear 9 (.iadd) 1 10 := ⟨by decide +kernel, rfl⟩
theorem eX10_areNear_10 : xD mX10_areNear 10 (.iaload) 1 11 := ⟨by decide +kernel, rfl⟩
theorem eX10_areNear_11 : xJ mX10_areNear 11 (.ifCond .le) 18 14 := ⟨(7), by decide +kernel, by decide, rfl⟩
theorem eX10_areNear_14 : xK mX10_areNear 14 (nI 1) 15 := Or.inl (⟨1, by decide +kernel, by decide, rfl⟩)
theorem eX10_areNear_15 : xJ mX10_areNear 15 (.goto) 19 18 := ⟨(4), by decide +kernel, by decide, rfl⟩
theorem eX10_areNear_18 : xK mX10_areNear 18 (nI 0) 19 := Or.inl (⟨0, by decide +kernel, by decide, rfl⟩)
theorem eX10_areNear_19 : xD mX10_areNear 19 (.ireturn) 1 20 := ⟨by decide +kernel, rfl⟩
theorem eX10_besides_0 : xK mX10_besides 0 (nI 0) 1 := Or.inl (⟨0, by decide +kernel, by decide, rfl⟩)
theorem eX10_besides_1 : x_istore mX10_besides 1 2 2 := Or.inl ⟨2, by decide +kernel, rfl, rfl⟩
theorem eX10_besides_2 : xK mX10_besides 2 (nI 0) 3 := Or.inl (⟨0, by decide +kernel, by decide, rfl⟩)
theorem eX10_besides_3 : x_istore mX10_besides 3 3 4 := Or.inl ⟨3, by decide +kernel, rfl, rfl⟩
theorem eX10_besides_4 : x_iload mX10_besides 4 3 5 := Or.inl ⟨3, by decide +kernel, rfl, rfl⟩
theorem eX10_besides_5 : x_aload mX10_besides 5 0 6 := Or.inl ⟨0, by decide +kernel, rfl, rfl⟩
theorem eX10_besides_6 : xGF mX10_besides 6 10 0 9 := ⟨71, _, _, by decide +kernel, rfl, fl_X10_71⟩
theorem eX10_besides_9 : xJ mX10_besides 9 (.if_icmp .ge) 37 12 := ⟨(28), by decide +kernel, by decide, rfl⟩
theorem eX10_besides_12 : x_iload mX10_besides 12 2 13 := Or.inl ⟨2, by decide +kernel, rfl, rfl⟩
theorem eX10_besides_13 : x_aload mX10_besides 13 0 14 := Or.inl ⟨0, by decide +kernel, rfl, rfl⟩
theorem eX10_besides_14 : x_iload mX10_besides 14 1 15 := Or.inl ⟨1, by decide +kernel, rfl, rfl⟩
theorem eX10_besides_15 : x_iload mX10_besides 15 3 16 := Or.inl ⟨3, by decide +kernel, rfl, rfl⟩
set_option maxRecDepth 20000 in
theorem eX10_besides_16 : xCV mX10_besides 16 mX10_areNear 2 10 19 := ⟨136, by decide +kernel, rfl, ⟨cm_X10_136.1, cm_X10_136.2.1, cm_X10_136.2.2.1, cm_X10_136.2.2.2.1, cm_X10_136.2.2.2.2⟩, xT_4 225 rfl rfl, xT_0 33 rfl rfl, _, rfl, rfl⟩
theorem eX10_besides_19 : xJ mX10_besides 19 (.ifCond .eq) 28 22 := ⟨(9), by decide +kernel, by decide, rfl⟩
theorem eX10_besides_22 : xK mX10_besides 22 (nI 1) 23 := Or.inl (⟨1, by decide +kernel, by decide, rfl⟩)
theorem eX10_besides_23 : x_iload mX10_besides 23 3 24 := Or.inl ⟨3, by decide +kernel, rfl, rfl⟩
theorem eX10_besides_24 : xD mX10_besides 24 (.ishl) 1 25 := ⟨by decide +kernel, rfl⟩
theorem eX10_besides_25 : xJ mX10_besides 25 (.goto) 29 28 := ⟨(4), by decide +kernel, by decide, rfl⟩
theorem eX10_besides_28 : xK mX10_besides 28 (nI 0) 29 := Or.inl (⟨0, by decide +kernel, by decide, rfl⟩)
theorem eX10_besides_29 : xD mX10_besides 29 (.ior) 1 30 := ⟨by decide +kernel, rfl⟩
theorem eX10_besides_30 : x_istore mX10_besides 30 2 31 := Or.inl ⟨2, by decide +kernel, rfl, rfl⟩
theorem eX10_besides_31 : xD mX10_besides 31 (.iinc 3 1) 3 34 := ⟨by decide +kernel, rfl⟩
theorem eX10_besides_34 : xJ mX10_besides 34 (.goto) 4 37 := ⟨(-30), by decide +kernel, by decide, rfl⟩
theorem eX10_besides_37 : x_iload mX10_besides 37 2 38 := Or.inl ⟨2, by decide +kernel, rfl, rfl⟩
theorem eX10_besides_38 : xD mX10_besides 38 (.ireturn) 1 39 := ⟨by decide +kernel, rfl⟩
theorem eX10_lowest_0 : x_aload mX10_lowest 0 0 1 := Or.inl ⟨0, by decide +kernel, rfl, rfl⟩
theorem eX10_lowest_1 : x_iload mX10_lowest 1 2 2 := Or.inl ⟨2, by decide +kernel, rfl, rfl⟩
set_option maxRecDepth 20000 in
theorem eX10_lowest_2 : xCV mX10_lowest 2 mX10_besides 1 10 5 := ⟨140, by decide +kernel, rfl, ⟨cm_X10_140.1, cm_X10_140.2.1, cm_X10_140.2.2.1, cm_X10_140.2.2.2.1, cm_X10_140.2.2.2.2⟩, xT_4 221 rfl rfl, xT_0 32 rfl rfl, _, rfl, rfl⟩
theorem eX10_lowest_5 : x_aload mX10_lowest 5 0 6 := Or.inl ⟨0, by decide +kernel, rfl, rfl⟩
theorem eX10_lowest_6 : xGF mX10_lowest 6 10 9 9 := ⟨25, _, _, by decide +kernel, rfl, fl_X10_25⟩
theorem eX10_lowest_9 : x_iload mX10_lowest 9 1 10 := Or.inl ⟨1, by decide +kernel, rfl, rfl⟩
theorem eX10_lowest_10 : xK mX10_lowest 10 (nI 14) 12 := Or.inr (Or.inl (⟨14, by decide +kernel, by decide, rfl⟩))
theorem eX10_lowest_12 : xD mX10_lowest 12 (.iadd) 1 13 := ⟨by decide +kernel, rfl⟩
theorem eX10_lowest_13 : xD mX10_lowest 13 (.iaload) 1 14 := ⟨by decide +kernel, rfl⟩
theorem eX10_lowest_14 : xD mX10_lowest 14 (.iand) 1 15 := ⟨by decide +kernel, rfl⟩
theorem eX10_lowest_15 : x_istore mX10_lowest 15 3 16 := Or.inl ⟨3, by decide +kernel, rfl, rfl⟩
theorem eX10_lowest_16 : xK mX10_lowest 16 (nI 0) 17 := Or.inl (⟨0, by decide +kernel, by decide, rfl⟩)
theorem eX10_lowest_17 : x_istore mX10_lowest 17 4 19 := Or.inr ⟨by decide +kernel, rfl⟩
theorem eX10_lowest_19 : x_iload mX10_lowest 19 4 21 := Or.inr ⟨by decide +kernel, rfl⟩
theorem eX10_lowest_21 : x_aload mX10_lowest 21 0 22 := Or.inl ⟨0, by decide +kernel, rfl, rfl⟩
theorem eX10_lowest_22 : xGF mX10_lowest 22 10 0 25 := ⟨71, _, _, by decide +kernel, rfl, fl_X10_71⟩
theorem eX10_lowest_25 : xJ mX10_lowest 25 (.if_icmp .ge) 46 28 := ⟨(21), by decide +kernel, by decide, rfl⟩
theorem eX10_lowest_28 : x_iload mX10_lowest 28 3 29 := Or.inl ⟨3, by decide +kernel, rfl, rfl⟩
theorem eX10_lowest_29 : x_iload mX10_lowest 29 4 31 := Or.inr ⟨by decide +kernel, rfl⟩
set_option maxRecDepth 20000 in
theorem eX10_lowest_31 : xCS mX10_lowest 31 mX10_has 2 34 := ⟨144, by decide +kernel, rfl, ⟨cm_X10_144.1, cm_X10_144.2.1, cm_X10_144.2.2.1, cm_X10_144.2.2.2.1, cm_X10_144.2.2.2.2⟩, xT_4 209 rfl rfl⟩
theorem eX10_lowest_34 : xJ mX10_lowest 34 (.ifCond .eq) 40 37 := ⟨(6), by decide +kernel, by decide, rfl⟩
theorem eX10_lowest_37 : x_iload mX10_lowest 37 4 39 := Or.inr ⟨by decide +kernel, rfl⟩
theorem eX10_lowest_39 : xD mX10_lowest 39 (.ireturn) 1 40 := ⟨by decide +kernel, rfl⟩
theorem eX10_lowest_40 : xD mX10_lowest 40 (.iinc 4 1) 3 43 := ⟨by decide +kernel, rfl⟩
theorem eX10_lowest_43 : xJ mX10_lowest 43 (.goto) 19 46 := ⟨(-24), by decide +kernel, by decide, rfl⟩
theorem eX10_lowest_46 : xK mX10_lowest 46 ((-4)) 48 := Or.inr (Or.inl (⟨(-4), by decide +kernel, by decide, rfl⟩))
theorem eX10_lowest_48 : xD mX10_lowest 48 (.ireturn) 1 49 := ⟨by decide +kernel, rfl⟩
theorem eX10_isBesideHonest_0 : x_aload mX10_isBesideHonest 0 0 1 := Or.inl ⟨0, by decide +kernel, rfl, rfl⟩
theorem eX10_isBesideHonest_1 : x_iload mX10_isBesideHonest 1 2 2 := Or.inl ⟨2, by decide +kernel, rfl, rfl⟩
set_option maxRecDepth 20000 in
theorem eX10_isBesideHonest_2 : xCV mX10_isBesideHonest 2 mX10_besides 1 10 5 := ⟨140, by decide +kernel, rfl, ⟨cm_X10_140.1, cm_X10_140.2.1, cm_X10_140.2.2.1, cm_X10_140.2.2.2.1, cm_X10_140.2.2.2.2⟩, xT_4 221 rfl rfl, xT_0 32 rfl rfl, _, rfl, rfl⟩
theorem eX10_isBesideHonest_5 : x_aload mX10_isBesideHonest 5 0 6 := Or.inl ⟨0, by decide +kernel, rfl, rfl⟩
theorem eX10_isBesideHonest_6 : xGF mX10_isBesideHonest 6 10 9 9 := ⟨25, _, _, by decide +kernel, rfl, fl_X10_25⟩
theorem eX10_isBesideHonest_9 : x_iload mX10_isBesideHonest 9 1 10 := Or.inl ⟨1, by decide +kernel, rfl, rfl⟩
theorem eX10_isBesideHonest_10 : xK mX10_isBesideHonest 10 (nI 14) 12 := Or.inr (Or.inl (⟨14, by decide +kernel, by decide, rfl⟩))
theorem eX10_isBesideHonest_12 : xD mX10_isBesideHonest 12 (.iadd) 1 13 := ⟨by decide +kernel, rfl⟩
theorem eX10_isBesideHonest_13 : xD mX10_isBesideHonest 13 (.iaload) 1 14 := ⟨by decide +kernel, rfl⟩
theorem eX10_isBesideHonest_14 : xD mX10_isBesideHonest 14 (.iand) 1 15 := ⟨by decide +kernel, rfl⟩
theorem eX10_isBesideHonest_15 : x_istore mX10_isBesideHonest 15 3 16 := Or.inl ⟨3, by decide +kernel, rfl, rfl⟩
theorem eX10_isBesideHonest_16 : xK mX10_isBesideHonest 16 (nI 0) 17 := Or.inl (⟨0, by decide +kernel, by decide, rfl⟩)
theorem eX10_isBesideHonest_17 : x_istore mX10_isBesideHonest 17 4 19 := Or.inr ⟨by decide +kernel, rfl⟩
theorem eX10_isBesideHonest_19 : xK mX10_isBesideHonest 19 (nI 0) 20 := Or.inl (⟨0, by decide +kernel, by decide, rfl⟩)
theorem eX10_isBesideHonest_20 : x_istore mX10_isBesideHonest 20 5 22 := Or.inr ⟨by decide +kernel, rfl⟩
theorem eX10_isBesideHonest_22 : x_iload mX10_isBesideHonest 22 5 24 := Or.inr ⟨by decide +kernel, rfl⟩
theorem eX10_isBesideHonest_24 : x_aload mX10_isBesideHonest 24 0 25 := Or.inl ⟨0, by decide +kernel, rfl, rfl⟩
theorem eX10_isBesideHonest_25 : xGF mX10_isBesideHonest 25 10 0 28 := ⟨71, _, _, by decide +kernel, rfl, fl_X10_71⟩
theorem eX10_isBesideHonest_28 : xJ mX10_isBesideHonest 28 (.if_icmp .ge) 68 31 := ⟨(40), by decide +kernel, by decide, rfl⟩
theorem eX10_isBesideHonest_31 : x_iload mX10_isBesideHonest 31 4 33 := Or.inr ⟨by decide +kernel, rfl⟩
theorem eX10_isBesideHonest_33 : xJ mX10_isBesideHonest 33 (.ifCond .ne) 55 36 := ⟨(22), by decide +kernel, by decide, rfl⟩
theorem eX10_isBesideHonest_36 : x_iload mX10_isBesideHonest 36 3 37 := Or.inl ⟨3, by decide +kernel, rfl, rfl⟩
theorem eX10_isBesideHonest_37 : x_iload mX10_isBesideHonest 37 5 39 := Or.inr ⟨by decide +kernel, rfl⟩
set_option maxRecDepth 20000 in
theorem eX10_isBesideHonest_39 : xCS mX10_isBesideHonest 39 mX10_has 2 42 := ⟨144, by decide +kernel, rfl, ⟨cm_X10_144.1, cm_X10_144.2.1, cm_X10_144.2.2.1, cm_X10_144.2.2.2.1, cm_X10_144.2.2.2.2⟩, xT_4 209 rfl rfl⟩
theorem eX10_isBesideHonest_42 : xJ mX10_isBesideHonest 42 (.ifCond .eq) 59 45 := ⟨(17), by decide +kernel, by decide, rfl⟩
theorem eX10_isBesideHonest_45 : x_aload mX10_isBesideHonest 45 0 46 := Or.inl ⟨0, by decide +kernel, rfl, rfl⟩
theorem eX10_isBesideHonest_46 : xGF mX10_isBesideHonest 46 10 1 49 := ⟨7, _, _, by decide +kernel, rfl, fl_X10_7⟩
theorem eX10_isBesideHonest_49 : x_iload mX10_isBesideHonest 49 5 51 := Or.inr ⟨by decide +kernel, rfl⟩
theorem eX10_isBesideHonest_51 : xD mX10_isBesideHonest 51 (.iaload) 1 52 := ⟨by decide +kernel, rfl⟩
theorem eX10_isBesideHonest_52 : xJ mX10_isBesideHonest 52 (.ifCond .ne) 59 55 := ⟨(7), by decide +kernel, by decide, rfl⟩
theorem eX10_isBesideHonest_55 : xK mX10_isBesideHonest 55 (nI 1) 56 := Or.inl (⟨1, by decide +kernel, by decide, rfl⟩)
theorem eX10_isBesideHonest_56 : xJ mX10_isBesideHonest 56 (.goto) 60 59 := ⟨(4), by decide +kernel, by decide, rfl⟩
theorem eX10_isBesideHonest_59 : xK mX10_isBesideHonest 59 (nI 0) 60 := Or.inl (⟨0, by decide +kernel, by decide, rfl⟩)
theorem eX10_isBesideHonest_60 : x_istore mX10_isBesideHonest 60 4 62 := Or.inr ⟨by decide +kernel, rfl⟩
theorem eX10_isBesideHonest_62 : xD mX10_isBesideHonest 62 (.iinc 5 1) 3 65 := ⟨by decide +kernel, rfl⟩
theorem eX10_isBesideHonest_65 : xJ mX10_isBesideHonest 65 (.goto) 22 68 := ⟨(-43), by decide +kernel, by decide, rfl⟩
theorem eX10_isBesideHonest_68 : x_iload mX10_isBesideHonest 68 4 70 := Or.inr ⟨by decide +kernel, rfl⟩
theorem eX10_isBesideHonest_70 : xD mX10_isBesideHonest 70 (.ireturn) 1 71 := ⟨by decide +kernel, rfl⟩
theorem eX10_sworn_0 : x_aload mX10_sworn 0 0 1 := Or.inl ⟨0, by decide +kernel, rfl, rfl⟩
theorem eX10_sworn_1 : xGF mX10_sworn 1 10 9 4 := ⟨25, _, _, by decide +kernel, rfl, fl_X10_25⟩
theorem eX10_sworn_4 : x_iload mX10_sworn 4 1 5 := Or.inl ⟨1, by decide +kernel, rfl, rfl⟩
theorem eX10_sworn_5 : x_iload mX10_sworn 5 2 6 := Or.inl ⟨2, by decide +kernel, rfl, rfl⟩
theorem eX10_sworn_6 : xD mX10_sworn 6 (.iadd) 1 7 := ⟨by decide +kernel, rfl⟩
theorem eX10_sworn_7 : xD mX10_sworn 7 (.iaload) 1 8 := ⟨by decide +kernel, rfl⟩
theorem eX10_sworn_8 : x_istore mX10_sworn 8 4 10 := Or.inr ⟨by decide +kernel, rfl⟩
theorem eX10_sworn_10 : x_aload mX10_sworn 10 0 11 := Or.inl ⟨0, by decide +kernel, rfl, rfl⟩
theorem eX10_sworn_11 : x_iload mX10_sworn 11 1 12 := Or.inl ⟨1, by decide +kernel, rfl, rfl⟩
theorem eX10_sworn_12 : x_iload mX10_sworn 12 2 13 := Or.inl ⟨2, by decide +kernel, rfl, rfl⟩
set_option maxRecDepth 20000 in
theorem eX10_sworn_13 : xCV mX10_sworn 13 mX10_lowest 2 10 16 := ⟨147, by decide +kernel, rfl, ⟨cm_X10_147.1, cm_X10_147.2.1, cm_X10_147.2.2.1, cm_X10_147.2.2.2.1, cm_X10_147.2.2.2.2⟩, xT_4 217 rfl rfl, xT_0 31 rfl rfl, _, rfl, rfl⟩
theorem eX10_sworn_16 : x_istore mX10_sworn 16 5 18 := Or.inr ⟨by decide +kernel, rfl⟩
theorem eX10_sworn_18 : x_iload mX10_sworn 18 3 19 := Or.inl ⟨3, by decide +kernel, rfl, rfl⟩
theorem eX10_sworn_19 : xK mX10_sworn 19 (nI 1) 20 := Or.inl (⟨1, by decide +kernel, by decide, rfl⟩)
theorem eX10_sworn_20 : xJ mX10_sworn 20 (.if_icmp .eq) 28 23 := ⟨(8), by decide +kernel, by decide, rfl⟩
theorem eX10_sworn_23 : x_iload mX10_sworn 23 3 24 := Or.inl ⟨3, by decide +kernel, rfl, rfl⟩
theorem eX10_sworn_24 : xK mX10_sworn 24 (nI 2) 25 := Or.inl (⟨2, by decide +kernel, by decide, rfl⟩)
theorem eX10_sworn_25 : xJ mX10_sworn 25 (.if_icmp .ne) 56 28 := ⟨(31), by decide +kernel, by decide, rfl⟩
theorem eX10_sworn_28 : x_aload mX10_sworn 28 0 29 := Or.inl ⟨0, by decide +kernel, rfl, rfl⟩
theorem eX10_sworn_29 : x_iload mX10_sworn 29 1 30 := Or.inl ⟨1, by decide +kernel, rfl, rfl⟩
theorem eX10_sworn_30 : x_iload mX10_sworn 30 2 31 := Or.inl ⟨2, by decide +kernel, rfl, rfl⟩
set_option maxRecDepth 20000 in
theorem eX10_sworn_31 : xCV mX10_sworn 31 mX10_isBesideHonest 2 10 34 := ⟨150, by decide +kernel, rfl, ⟨cm_X10_150.1, cm_X10_150.2.1, cm_X10_150.2.2.1, cm_X10_150.2.2.2.1, cm_X10_150.2.2.2.2⟩, xT_4 229 rfl rfl, xT_0 34 rfl rfl, _, rfl, rfl⟩
theorem eX10_sworn_34 : xJ mX10_sworn 34 (.ifCond .eq) 42 37 := ⟨(8), by decide +kernel, by decide, rfl⟩
theorem eX10_sworn_37 : x_iload mX10_sworn 37 4 39 := Or.inr ⟨by decide +kernel, rfl⟩
theorem eX10_sworn_39 : xJ mX10_sworn 39 (.goto) 55 42 := ⟨(16), by decide +kernel, by decide, rfl⟩
theorem eX10_sworn_42 : x_iload mX10_sworn 42 3 43 := Or.inl ⟨3, by decide +kernel, rfl, rfl⟩
theorem eX10_sworn_43 : xK mX10_sworn 43 (nI 2) 44 := Or.inl (⟨2, by decide +kernel, by decide, rfl⟩)
theorem eX10_sworn_44 : xJ mX10_sworn 44 (.if_icmp .ne) 51 47 := ⟨(7), by decide +kernel, by decide, rfl⟩
theorem eX10_sworn_47 : xK mX10_sworn 47 (nI 0) 48 := Or.inl (⟨0, by decide +kernel, by decide, rfl⟩)
theorem eX10_sworn_48 : xJ mX10_sworn 48 (.goto) 55 51 := ⟨(7), by decide +kernel, by decide, rfl⟩
theorem eX10_sworn_51 : x_iload mX10_sworn 51 4 53 := Or.inr ⟨by decide +kernel, rfl⟩
theorem eX10_sworn_53 : xK mX10_sworn 53 (nI 2) 54 := Or.inl (⟨2, by decide +kernel, by decide, rfl⟩)
theorem eX10_sworn_54 : xD mX10_sworn 54 (.idiv) 1 55 := ⟨by decide +kernel, rfl⟩
theorem eX10_sworn_55 : xD mX10_sworn 55 (.ireturn) 1 56 := ⟨by decide +kernel, rfl⟩
theorem eX10_sworn_56 : x_iload mX10_sworn 56 3 57 := Or.inl ⟨3, by decide +kernel, rfl, rfl⟩
theorem eX10_sworn_57 : xK mX10_sworn 57 (nI 3) 58 := Or.inl (⟨3, by decide +kernel, by decide, rfl⟩)
theorem eX10_sworn_58 : xJ mX10_sworn 58 (.if_icmp .ne) 84 61 := ⟨(26), by decide +kernel, by decide, rfl⟩
theorem eX10_sworn_61 : x_iload mX10_sworn 61 5 63 := Or.inr ⟨by decide +kernel, rfl⟩
theorem eX10_sworn_63 : xJ mX10_sworn 63 (.ifCond .ge) 71 66 := ⟨(8), by decide +kernel, by decide, rfl⟩
theorem eX10_sworn_66 : x_iload mX10_sworn 66 4 68 := Or.inr ⟨by decide +kernel, rfl⟩
theorem eX10_sworn_68 : xJ mX10_sworn 68 (.goto) 83 71 := ⟨(15), by decide +kernel, by decide, rfl⟩
theorem eX10_sworn_71 : x_aload mX10_sworn 71 0 72 := Or.inl ⟨0, by decide +kernel, rfl, rfl⟩
theorem eX10_sworn_72 : xGF mX10_sworn 72 10 9 75 := ⟨25, _, _, by decide +kernel, rfl, fl_X10_25⟩
theorem eX10_sworn_75 : x_iload mX10_sworn 75 1 76 := Or.inl ⟨1, by decide +kernel, rfl, rfl⟩
theorem eX10_sworn_76 : xK mX10_sworn 76 (nI 7) 78 := Or.inr (Or.inl (⟨7, by decide +kernel, by decide, rfl⟩))
theorem eX10_sworn_78 : xD mX10_sworn 78 (.iadd) 1 79 := ⟨by decide +kernel, rfl⟩
theorem eX10_sworn_79 : x_iload mX10_sworn 79 5 81 := Or.inr ⟨by decide +kernel, rfl⟩
theorem eX10_sworn_81 : xD mX10_sworn 81 (.iadd) 1 82 := ⟨by decide +kernel, rfl⟩
theorem eX10_sworn_82 : xD mX10_sworn 82 (.iaload) 1 83 := ⟨by decide +kernel, rfl⟩
theorem eX10_sworn_83 : xD mX10_sworn 83 (.ireturn) 1 84 := ⟨by decide +kernel, rfl⟩
theorem eX10_sworn_84 : x_iload mX10_sworn 84 3 85 := Or.inl ⟨3, by decide +kernel, rfl, rfl⟩
theorem eX10_sworn_85 : xJ mX10_sworn 85 (.ifCond .eq) 93 88 := ⟨(8), by decide +kernel, by decide, rfl⟩
theorem eX10_sworn_88 : x_iload mX10_sworn 88 5 90 := Or.inr ⟨by decide +kernel, rfl⟩
theorem eX10_sworn_90 : xJ mX10_sworn 90 (.ifCond .ge) 98 93 := ⟨(8), by decide +kernel, by decide, rfl⟩
theorem eX10_sworn_93 : x_iload mX10_sworn 93 4 95 := Or.inr ⟨by decide +kernel, rfl⟩
theorem eX10_sworn_95 : xJ mX10_sworn 95 (.goto) 99 98 := ⟨(4), by decide +kernel, by decide, rfl⟩
theorem eX10_sworn_98 : xK mX10_sworn 98 (nI 0) 99 := Or.inl (⟨0, by decide +kernel, by decide, rfl⟩)
theorem eX10_sworn_99 : xD mX10_sworn 99 (.ireturn) 1 100 := ⟨by decide +kernel, rfl⟩
theorem eX10_writes_0 : x_aload mX10_writes 0 0 1 := Or.inl ⟨0, by decide +kernel, rfl, rfl⟩
theorem eX10_writes_1 : x_iload mX10_writes 1 1 2 := Or.inl ⟨1, by decide +kernel, rfl, rfl⟩
theorem eX10_writes_2 : x_iload mX10_writes 2 2 3 := Or.inl ⟨2, by decide +kernel, rfl, rfl⟩
theorem eX10_writes_3 : x_aload mX10_writes 3 0 4 := Or.inl ⟨0, by decide +kernel, rfl, rfl⟩
theorem eX10_writes_4 : xGF mX10_writes 4 10 1 7 := ⟨7, _, _, by decide +kernel, rfl, fl_X10_7⟩
theorem eX10_writes_7 : x_iload mX10_writes 7 2 8 := Or.inl ⟨2, by decide +kernel, rfl, rfl⟩
theorem eX10_writes_8 : xD mX10_writes 8 (.iaload) 1 9 := ⟨by decide +kernel, rfl⟩
set_option maxRecDepth 20000 in
theorem eX10_writes_9 : xCV mX10_writes 9 mX10_sworn 3 10 12 := ⟨153, by decide +kernel, rfl, ⟨cm_X10_153.1, cm_X10_153.2.1, cm_X10_153.2.2.1, cm_X10_153.2.2.2.1, cm_X10_153.2.2.2.2⟩, xT_4 213 rfl rfl, xT_0 30 rfl rfl, _, rfl, rfl⟩
theorem eX10_writes_12 : x_istore mX10_writes 12 3 13 := Or.inl ⟨3, by decide +kernel, rfl, rfl⟩
theorem eX10_writes_13 : x_aload mX10_writes 13 0 14 := Or.inl ⟨0, by decide +kernel, rfl, rfl⟩
theorem eX10_writes_14 : x_iload mX10_writes 14 1 15 := Or.inl ⟨1, by decide +kernel, rfl, rfl⟩
theorem eX10_writes_15 : x_iload mX10_writes 15 2 16 := Or.inl ⟨2, by decide +kernel, rfl, rfl⟩
set_option maxRecDepth 20000 in
theorem eX10_writes_16 : xCV mX10_writes 16 mX10_lowest 2 10 19 := ⟨147, by decide +kernel, rfl, ⟨cm_X10_147.1, cm_X10_147.2.1, cm_X10_147.2.2.1, cm_X10_147.2.2.2.1, cm_X10_147.2.2.2.2⟩, xT_4 217 rfl rfl, xT_0 31 rfl rfl, _, rfl, rfl⟩
theorem eX10_writes_19 : x_istore mX10_writes 19 4 21 := Or.inr ⟨by decide +kernel, rfl⟩
theorem eX10_writes_21 : x_aload mX10_writes 21 0 22 := Or.inl ⟨0, by decide +kernel, rfl, rfl⟩
theorem eX10_writes_22 : xGF mX10_writes 22 10 1 25 := ⟨7, _, _, by decide +kernel, rfl, fl_X10_7⟩
theorem eX10_writes_25 : x_iload mX10_writes 25 2 26 := Or.inl ⟨2, by decide +kernel, rfl, rfl⟩
theorem eX10_writes_26 : xD mX10_writes 26 (.iaload) 1 27 := ⟨by decide +kernel, rfl⟩
theorem eX10_writes_27 : xK mX10_writes 27 (nI 4) 28 := Or.inl (⟨4, by decide +kernel, by decide, rfl⟩)
theorem eX10_writes_28 : xJ mX10_writes 28 (.if_icmp .ne) 65 31 := ⟨(37), by decide +kernel, by decide, rfl⟩
theorem eX10_writes_31 : x_iload mX10_writes 31 4 33 := Or.inr ⟨by decide +kernel, rfl⟩
theorem eX10_writes_33 : xJ mX10_writes 33 (.ifCond .lt) 65 36 := ⟨(32), by decide +kernel, by decide, rfl⟩
theorem eX10_writes_36 : x_aload mX10_writes 36 0 37 := Or.inl ⟨0, by decide +kernel, rfl, rfl⟩
theorem eX10_writes_37 : xGF mX10_writes 37 10 9 40 := ⟨25, _, _, by decide +kernel, rfl, fl_X10_25⟩
theorem eX10_writes_40 : x_iload mX10_writes 40 1 41 := Or.inl ⟨1, by decide +kernel, rfl, rfl⟩
theorem eX10_writes_41 : x_iload mX10_writes 41 4 43 := Or.inr ⟨by decide +kernel, rfl⟩
theorem eX10_writes_43 : xD mX10_writes 43 (.iadd) 1 44 := ⟨by decide +kernel, rfl⟩
theorem eX10_writes_44 : xD mX10_writes 44 (.dup2) 1 45 := ⟨by decide +kernel, rfl⟩
theorem eX10_writes_45 : xD mX10_writes 45 (.iaload) 1 46 := ⟨by decide +kernel, rfl⟩
theorem eX10_writes_46 : x_aload mX10_writes 46 0 47 := Or.inl ⟨0, by decide +kernel, rfl, rfl⟩
theorem eX10_writes_47 : xGF mX10_writes 47 10 9 50 := ⟨25, _, _, by decide +kernel, rfl, fl_X10_25⟩
theorem eX10_writes_50 : x_iload mX10_writes 50 1 51 := Or.inl ⟨1, by decide +kernel, rfl, rfl⟩
theorem eX10_writes_51 : x_iload mX10_writes 51 2 52 := Or.inl ⟨2, by decide +kernel, rfl, rfl⟩
theorem eX10_writes_52 : xD mX10_writes 52 (.iadd) 1 53 := ⟨by decide +kernel, rfl⟩
theorem eX10_writes_53 : xD mX10_writes 53 (.iaload) 1 54 := ⟨by decide +kernel, rfl⟩
theorem eX10_writes_54 : xD mX10_writes 54 (.iadd) 1 55 := ⟨by decide +kernel, rfl⟩
theorem eX10_writes_55 : xD mX10_writes 55 (.iastore) 1 56 := ⟨by decide +kernel, rfl⟩
theorem eX10_writes_56 : x_aload mX10_writes 56 0 57 := Or.inl ⟨0, by decide +kernel, rfl, rfl⟩
theorem eX10_writes_57 : xGF mX10_writes 57 10 9 60 := ⟨25, _, _, by decide +kernel, rfl, fl_X10_25⟩
theorem eX10_writes_60 : x_iload mX10_writes 60 1 61 := Or.inl ⟨1, by decide +kernel, rfl, rfl⟩
theorem eX10_writes_61 : x_iload mX10_writes 61 2 62 := Or.inl ⟨2, by decide +kernel, rfl, rfl⟩
theorem eX10_writes_62 : xD mX10_writes 62 (.iadd) 1 63 := ⟨by decide +kernel, rfl⟩
theorem eX10_writes_63 : xK mX10_writes 63 (nI 0) 64 := Or.inl (⟨0, by decide +kernel, by decide, rfl⟩)
theorem eX10_writes_64 : xD mX10_writes 64 (.iastore) 1 65 := ⟨by decide +kernel, rfl⟩
theorem eX10_writes_65 : x_aload mX10_writes 65 0 66 := Or.inl ⟨0, by decide +kernel, rfl, rfl⟩
theorem eX10_writes_66 : xGF mX10_writes 66 10 9 69 := ⟨25, _, _, by decide +kernel, rfl, fl_X10_25⟩
theorem eX10_writes_69 : x_iload mX10_writes 69 1 70 := Or.inl ⟨1, by decide +kernel, rfl, rfl⟩
theorem eX10_writes_70 : xK mX10_writes 70 (nI 7) 72 := Or.inr (Or.inl (⟨7, by decide +kernel, by decide, rfl⟩))
theorem eX10_writes_72 : xD mX10_writes 72 (.iadd) 1 73 := ⟨by decide +kernel, rfl⟩
theorem eX10_writes_73 : x_iload mX10_writes 73 2 74 := Or.inl ⟨2, by decide +kernel, rfl, rfl⟩
theorem eX10_writes_74 : xD mX10_writes 74 (.iadd) 1 75 := ⟨by decide +kernel, rfl⟩
theorem eX10_writes_75 : x_iload mX10_writes 75 3 76 := Or.inl ⟨3, by decide +kernel, rfl, rfl⟩
theorem eX10_writes_76 : xD mX10_writes 76 (.iastore) 1 77 := ⟨by decide +kernel, rfl⟩
theorem eX10_writes_77 : x_aload mX10_writes 77 0 78 := Or.inl ⟨0, by decide +kernel, rfl, rfl⟩
theorem eX10_writes_78 : xGF mX10_writes 78 10 9 81 := ⟨25, _, _, by decide +kernel, rfl, fl_X10_25⟩
theorem eX10_writes_81 : x_iload mX10_writes 81 1 82 := Or.inl ⟨1, by decide +kernel, rfl, rfl⟩
theorem eX10_writes_82 : xK mX10_writes 82 (nI 14) 84 := Or.inr (Or.inl (⟨14, by decide +kernel, by decide, rfl⟩))
theorem eX10_writes_84 : xD mX10_writes 84 (.iadd) 1 85 := ⟨by decide +kernel, rfl⟩
theorem eX10_writes_85 : xD mX10_writes 85 (.dup2) 1 86 := ⟨by decide +kernel, rfl⟩
theorem eX10_writes_86 : xD mX10_writes 86 (.iaload) 1 87 := ⟨by decide +kernel, rfl⟩
theorem eX10_writes_87 : xK mX10_writes 87 (nI 1) 88 := Or.inl (⟨1, by decide +kernel, by decide, rfl⟩)
theorem eX10_writes_88 : x_iload mX10_writes 88 2 89 := Or.inl ⟨2, by decide +kernel, rfl, rfl⟩
theorem eX10_writes_89 : xD mX10_writes 89 (.ishl) 1 90 := ⟨by decide +kernel, rfl⟩
theorem eX10_writes_90 : xD mX10_writes 90 (.ior) 1 91 := ⟨by decide +kernel, rfl⟩
theorem eX10_writes_91 : xD mX10_writes 91 (.iastore) 1 92 := ⟨by decide +kernel, rfl⟩
theorem eX10_writes_92 : x_iload mX10_writes 92 3 93 := Or.inl ⟨3, by decide +kernel, rfl, rfl⟩
theorem eX10_writes_93 : xD mX10_writes 93 (.ireturn) 1 94 := ⟨by decide +kernel, rfl⟩
theorem eX10_found_0 : xK mX10_found 0 (nI 0) 1 := Or.inl (⟨0, by decide +kernel, by decide, rfl⟩)
theorem eX10_found_1 : x_istore mX10_found 1 2 2 := Or.inl ⟨2, by decide +kernel, rfl, rfl⟩
theorem eX10_found_2 : xK mX10_found 2 (nI 0) 3 := Or.inl (⟨0, by decide +kernel, by decide, rfl⟩)
theorem eX10_found_3 : x_istore mX10_found 3 3 4 := Or.inl ⟨3, by decide +kernel, rfl, rfl⟩
theorem eX10_found_4 : x_iload mX10_found 4 3 5 := Or.inl ⟨3, by decide +kernel, rfl, rfl⟩
theorem eX10_found_5 : x_aload mX10_found 5 0 6 := Or.inl ⟨0, by decide +kernel, rfl, rfl⟩
theorem eX10_found_6 : xGF mX10_found 6 10 0 9 := ⟨71, _, _, by decide +kernel, rfl, fl_X10_71⟩
theorem eX10_found_9 : xJ mX10_found 9 (.if_icmp .ge) 52 12 := ⟨(43), by decide +kernel, by decide, rfl⟩
theorem eX10_found_12 : x_iload mX10_found 12 2 13 := Or.inl ⟨2, by decide +kernel, rfl, rfl⟩
theorem eX10_found_13 : x_aload mX10_found 13 0 14 := Or.inl ⟨0, by decide +kernel, rfl, rfl⟩
theorem eX10_found_14 : xGF mX10_found 14 10 9 17 := ⟨25, _, _, by decide +kernel, rfl, fl_X10_25⟩
theorem eX10_found_17 : x_iload mX10_found 17 1 18 := Or.inl ⟨1, by decide +kernel, rfl, rfl⟩
theorem eX10_found_18 : xK mX10_found 18 (nI 14) 20 := Or.inr (Or.inl (⟨14, by decide +kernel, by decide, rfl⟩))
theorem eX10_found_20 : xD mX10_found 20 (.iadd) 1 21 := ⟨by decide +kernel, rfl⟩
theorem eX10_found_21 : xD mX10_found 21 (.iaload) 1 22 := ⟨by decide +kernel, rfl⟩
theorem eX10_found_22 : x_iload mX10_found 22 3 23 := Or.inl ⟨3, by decide +kernel, rfl, rfl⟩
set_option maxRecDepth 20000 in
theorem eX10_found_23 : xCS mX10_found 23 mX10_has 2 26 := ⟨144, by decide +kernel, rfl, ⟨cm_X10_144.1, cm_X10_144.2.1, cm_X10_144.2.2.1, cm_X10_144.2.2.2.1, cm_X10_144.2.2.2.2⟩, xT_4 209 rfl rfl⟩
theorem eX10_found_26 : xJ mX10_found 26 (.ifCond .eq) 43 29 := ⟨(17), by decide +kernel, by decide, rfl⟩
theorem eX10_found_29 : x_aload mX10_found 29 0 30 := Or.inl ⟨0, by decide +kernel, rfl, rfl⟩
theorem eX10_found_30 : xGF mX10_found 30 10 9 33 := ⟨25, _, _, by decide +kernel, rfl, fl_X10_25⟩
theorem eX10_found_33 : x_iload mX10_found 33 1 34 := Or.inl ⟨1, by decide +kernel, rfl, rfl⟩
theorem eX10_found_34 : xK mX10_found 34 (nI 7) 36 := Or.inr (Or.inl (⟨7, by decide +kernel, by decide, rfl⟩))
theorem eX10_found_36 : xD mX10_found 36 (.iadd) 1 37 := ⟨by decide +kernel, rfl⟩
theorem eX10_found_37 : x_iload mX10_found 37 3 38 := Or.inl ⟨3, by decide +kernel, rfl, rfl⟩
theorem eX10_found_38 : xD mX10_found 38 (.iadd) 1 39 := ⟨by decide +kernel, rfl⟩
theorem eX10_found_39 : xD mX10_found 39 (.iaload) 1 40 := ⟨by decide +kernel, rfl⟩
theorem eX10_found_40 : xJ mX10_found 40 (.goto) 44 43 := ⟨(4), by decide +kernel, by decide, rfl⟩
theorem eX10_found_43 : xK mX10_found 43 (nI 0) 44 := Or.inl (⟨0, by decide +kernel, by decide, rfl⟩)
theorem eX10_found_44 : xD mX10_found 44 (.iadd) 1 45 := ⟨by decide +kernel, rfl⟩
theorem eX10_found_45 : x_istore mX10_found 45 2 46 := Or.inl ⟨2, by decide +kernel, rfl, rfl⟩
theorem eX10_found_46 : xD mX10_found 46 (.iinc 3 1) 3 49 := ⟨by decide +kernel, rfl⟩
theorem eX10_found_49 : xJ mX10_found 49 (.goto) 4 52 := ⟨(-45), by decide +kernel, by decide, rfl⟩
theorem eX10_found_52 : x_iload mX10_found 52 2 53 := Or.inl ⟨2, by decide +kernel, rfl, rfl⟩
theorem eX10_found_53 : xD mX10_found 53 (.ireturn) 1 54 := ⟨by decide +kernel, rfl⟩
theorem eX10_isIn_0 : x_aload mX10_isIn 0 0 1 := Or.inl ⟨0, by decide +kernel, rfl, rfl⟩
theorem eX10_isIn_1 : xGF mX10_isIn 1 10 9 4 := ⟨25, _, _, by decide +kernel, rfl, fl_X10_25⟩
theorem eX10_isIn_4 : xK mX10_isIn 4 (nI 14) 6 := Or.inr (Or.inl (⟨14, by decide +kernel, by decide, rfl⟩))
theorem eX10_isIn_6 : xD mX10_isIn 6 (.iaload) 1 7 := ⟨by decide +kernel, rfl⟩
theorem eX10_isIn_7 : x_iload mX10_isIn 7 1 8 := Or.inl ⟨1, by decide +kernel, rfl, rfl⟩
set_option maxRecDepth 20000 in
theorem eX10_isIn_8 : xCS mX10_isIn 8 mX10_has 2 11 := ⟨144, by decide +kernel, rfl, ⟨cm_X10_144.1, cm_X10_144.2.1, cm_X10_144.2.2.1, cm_X10_144.2.2.2.1, cm_X10_144.2.2.2.2⟩, xT_4 209 rfl rfl⟩
theorem eX10_isIn_11 : xD mX10_isIn 11 (.ireturn) 1 12 := ⟨by decide +kernel, rfl⟩
theorem eX10_village_0 : x_aload mX10_village 0 0 1 := Or.inl ⟨0, by decide +kernel, rfl, rfl⟩
theorem eX10_village_1 : x_iload mX10_village 1 1 2 := Or.inl ⟨1, by decide +kernel, rfl, rfl⟩
set_option maxRecDepth 20000 in
theorem eX10_village_2 : xCV mX10_village 2 mX10_isVillage 1 10 5 := ⟨157, by decide +kernel, rfl, ⟨cm_X10_157.1, cm_X10_157.2.1, cm_X10_157.2.2.1, cm_X10_157.2.2.2.1, cm_X10_157.2.2.2.2⟩, xT_4 201 rfl rfl, xT_0 28 rfl rfl, _, rfl, rfl⟩
theorem eX10_village_5 : xJ mX10_village 5 (.ifCond .eq) 20 8 := ⟨(15), by decide +kernel, by decide, rfl⟩
theorem eX10_village_8 : x_iload mX10_village 8 2 9 := Or.inl ⟨2, by decide +kernel, rfl, rfl⟩
theorem eX10_village_9 : xD mX10_village 9 (.i2l) 1 10 := ⟨by decide +kernel, rfl⟩
theorem eX10_village_10 : xKL mX10_village 10 (0) 11 := Or.inl ⟨0, by decide +kernel, by decide, rfl⟩
set_option maxRecDepth 20000 in
theorem eX10_village_11 : xKL mX10_village 11 (5) 14 := Or.inr ⟨161, by decide +kernel, xT_4 203 rfl rfl, rfl⟩
set_option maxRecDepth 20000 in
theorem eX10_village_14 : xCS mX10_village 14 mX10_in 3 17 := ⟨81, by decide +kernel, rfl, ⟨cm_X10_81.1, cm_X10_81.2.1, cm_X10_81.2.2.1, cm_X10_81.2.2.2.1, cm_X10_81.2.2.2.2⟩, xT_4 155 rfl rfl⟩
theorem eX10_village_17 : xJ mX10_village 17 (.ifCond .ne) 22 20 := ⟨(5), by decide +kernel, by decide, rfl⟩
theorem eX10_village_20 : xK mX10_village 20 ((-1)) 21 := Or.inl (⟨(-1), by decide +kernel, by decide, rfl⟩)
theorem eX10_village_21 : xD mX10_village 21 (.ireturn) 1 22 := ⟨by decide +kernel, rfl⟩
theorem eX10_village_22 : x_iload mX10_village 22 2 23 := Or.inl ⟨2, by decide +kernel, rfl, rfl⟩
theorem eX10_village_23 : xJ mX10_village 23 (.ifCond .ne) 35 26 := ⟨(12), by decide +kernel, by decide, rfl⟩
theorem eX10_village_26 : x_aload mX10_village 26 0 27 := Or.inl ⟨0, by decide +kernel, rfl, rfl⟩
theorem eX10_village_27 : xGF mX10_village 27 10 1 30 := ⟨7, _, _, by decide +kernel, rfl, fl_X10_7⟩
theorem eX10_village_30 : x_iload mX10_village 30 1 31 := Or.inl ⟨1, by decide +kernel, rfl, rfl⟩
theorem eX10_village_31 : xD mX10_village 31 (.iaload) 1 32 := ⟨by decide +kernel, rfl⟩
theorem eX10_village_32 : xJ mX10_village 32 (.goto) 136 35 := ⟨(104), by decide +kernel, by decide, rfl⟩
theorem eX10_village_35 : x_iload mX10_village 35 2 36 := Or.inl ⟨2, by decide +kernel, rfl, rfl⟩
theorem eX10_village_36 : xK mX10_village 36 (nI 1) 37 := Or.inl (⟨1, by decide +kernel, by decide, rfl⟩)
theorem eX10_village_37 : xJ mX10_village 37 (.if_icmp .ne) 49 40 := ⟨(12), by decide +kernel, by decide, rfl⟩
theorem eX10_village_40 : x_aload mX10_village 40 0 41 := Or.inl ⟨0, by decide +kernel, rfl, rfl⟩
theorem eX10_village_41 : xGF mX10_village 41 10 9 44 := ⟨25, _, _, by decide +kernel, rfl, fl_X10_25⟩
theorem eX10_village_44 : x_iload mX10_village 44 1 45 := Or.inl ⟨1, by decide +kernel, rfl, rfl⟩
theorem eX10_village_45 : xD mX10_village 45 (.iaload) 1 46 := ⟨by decide +kernel, rfl⟩
theorem eX10_village_46 : xJ mX10_village 46 (.goto) 136 49 := ⟨(90), by decide +kernel, by decide, rfl⟩
theorem eX10_village_49 : x_iload mX10_village 49 2 50 := Or.inl ⟨2, by decide +kernel, rfl, rfl⟩
theorem eX10_village_50 : xK mX10_village 50 (nI 2) 51 := Or.inl (⟨2, by decide +kernel, by decide, rfl⟩)
theorem eX10_village_51 : xJ mX10_village 51 (.if_icmp .ne) 79 54 := ⟨(28), by decide +kernel, by decide, rfl⟩
theorem eX10_village_54 : x_aload mX10_village 54 0 55 := Or.inl ⟨0, by decide +kernel, rfl, rfl⟩
theorem eX10_village_55 : x_iload mX10_village 55 1 56 := Or.inl ⟨1, by decide +kernel, rfl, rfl⟩
set_option maxRecDepth 20000 in
theorem eX10_village_56 : xCV mX10_village 56 mX10_isIn 1 10 59 := ⟨163, by decide +kernel, rfl, ⟨cm_X10_163.1, cm_X10_163.2.1, cm_X10_163.2.2.1, cm_X10_163.2.2.2.1, cm_X10_163.2.2.2.2⟩, xT_4 206 rfl rfl, xT_0 29 rfl rfl, _, rfl, rfl⟩
theorem eX10_village_59 : xJ mX10_village 59 (.ifCond .eq) 74 62 := ⟨(15), by decide +kernel, by decide, rfl⟩
theorem eX10_village_62 : x_aload mX10_village 62 0 63 := Or.inl ⟨0, by decide +kernel, rfl, rfl⟩
theorem eX10_village_63 : xGF mX10_village 63 10 9 66 := ⟨25, _, _, by decide +kernel, rfl, fl_X10_25⟩
theorem eX10_village_66 : xK mX10_village 66 (nI 7) 68 := Or.inr (Or.inl (⟨7, by decide +kernel, by decide, rfl⟩))
theorem eX10_village_68 : x_iload mX10_village 68 1 69 := Or.inl ⟨1, by decide +kernel, rfl, rfl⟩
theorem eX10_village_69 : xD mX10_village 69 (.iadd) 1 70 := ⟨by decide +kernel, rfl⟩
theorem eX10_village_70 : xD mX10_village 70 (.iaload) 1 71 := ⟨by decide +kernel, rfl⟩
theorem eX10_village_71 : xJ mX10_village 71 (.goto) 136 74 := ⟨(65), by decide +kernel, by decide, rfl⟩
theorem eX10_village_74 : xK mX10_village 74 ((-4)) 76 := Or.inr (Or.inl (⟨(-4), by decide +kernel, by decide, rfl⟩))
theorem eX10_village_76 : xJ mX10_village 76 (.goto) 136 79 := ⟨(60), by decide +kernel, by decide, rfl⟩
theorem eX10_village_79 : x_iload mX10_village 79 2 80 := Or.inl ⟨2, by decide +kernel, rfl, rfl⟩
theorem eX10_village_80 : xK mX10_village 80 (nI 3) 81 := Or.inl (⟨3, by decide +kernel, by decide, rfl⟩)
theorem eX10_village_81 : xJ mX10_village 81 (.if_icmp .ne) 98 84 := ⟨(17), by decide +kernel, by decide, rfl⟩
theorem eX10_village_84 : x_aload mX10_village 84 0 85 := Or.inl ⟨0, by decide +kernel, rfl, rfl⟩
theorem eX10_village_85 : xGF mX10_village 85 10 9 88 := ⟨25, _, _, by decide +kernel, rfl, fl_X10_25⟩
theorem eX10_village_88 : xK mX10_village 88 (nI 15) 90 := Or.inr (Or.inl (⟨15, by decide +kernel, by decide, rfl⟩))
theorem eX10_village_90 : xD mX10_village 90 (.iaload) 1 91 := ⟨by decide +kernel, rfl⟩
theorem eX10_village_91 : x_iload mX10_village 91 1 92 := Or.inl ⟨1, by decide +kernel, rfl, rfl⟩
theorem eX10_village_92 : xD mX10_village 92 (.ishr) 1 93 := ⟨by decide +kernel, rfl⟩
theorem eX10_village_93 : xK mX10_village 93 (nI 1) 94 := Or.inl (⟨1, by decide +kernel, by decide, rfl⟩)
theorem eX10_village_94 : xD mX10_village 94 (.iand) 1 95 := ⟨by decide +kernel, rfl⟩
theorem eX10_village_95 : xJ mX10_village 95 (.goto) 136 98 := ⟨(41), by decide +kernel, by decide, rfl⟩
theorem eX10_village_98 : x_iload mX10_village 98 2 99 := Or.inl ⟨2, by decide +kernel, rfl, rfl⟩
theorem eX10_village_99 : xK mX10_village 99 (nI 4) 100 := Or.inl (⟨4, by decide +kernel, by decide, rfl⟩)
theorem eX10_village_100 : xJ mX10_village 100 (.if_icmp .ne) 131 103 := ⟨(31), by decide +kernel, by decide, rfl⟩
theorem eX10_village_103 : x_aload mX10_village 103 0 104 := Or.inl ⟨0, by decide +kernel, rfl, rfl⟩
theorem eX10_village_104 : x_iload mX10_village 104 1 105 := Or.inl ⟨1, by decide +kernel, rfl, rfl⟩
set_option maxRecDepth 20000 in
theorem eX10_village_105 : xCV mX10_village 105 mX10_isIn 1 10 108 := ⟨163, by decide +kernel, rfl, ⟨cm_X10_163.1, cm_X10_163.2.1, cm_X10_163.2.2.1, cm_X10_163.2.2.2.1, cm_X10_163.2.2.2.2⟩, xT_4 206 rfl rfl, xT_0 29 rfl rfl, _, rfl, rfl⟩
theorem eX10_village_108 : xJ mX10_village 108 (.ifCond .eq) 116 111 := ⟨(8), by decide +kernel, by decide, rfl⟩
theorem eX10_village_111 : xK mX10_village 111 ((-4)) 113 := Or.inr (Or.inl (⟨(-4), by decide +kernel, by decide, rfl⟩))
theorem eX10_village_113 : xJ mX10_village 113 (.goto) 136 116 := ⟨(23), by decide +kernel, by decide, rfl⟩
theorem eX10_village_116 : x_aload mX10_village 116 0 117 := Or.inl ⟨0, by decide +kernel, rfl, rfl⟩
theorem eX10_village_117 : xK mX10_village 117 (nI 0) 118 := Or.inl (⟨0, by decide +kernel, by decide, rfl⟩)
theorem eX10_village_118 : x_iload mX10_village 118 1 119 := Or.inl ⟨1, by decide +kernel, rfl, rfl⟩
theorem eX10_village_119 : x_aload mX10_village 119 0 120 := Or.inl ⟨0, by decide +kernel, rfl, rfl⟩
theorem eX10_village_120 : xGF mX10_village 120 10 1 123 := ⟨7, _, _, by decide +kernel, rfl, fl_X10_7⟩
theorem eX10_village_123 : x_iload mX10_village 123 1 124 := Or.inl ⟨1, by decide +kernel, rfl, rfl⟩
theorem eX10_village_124 : xD mX10_village 124 (.iaload) 1 125 := ⟨by decide +kernel, rfl⟩
set_option maxRecDepth 20000 in
theorem eX10_village_125 : xCV mX10_village 125 mX10_sworn 3 10 128 := ⟨153, by decide +kernel, rfl, ⟨cm_X10_153.1, cm_X10_153.2.1, cm_X10_153.2.2.1, cm_X10_153.2.2.2.1, cm_X10_153.2.2.2.2⟩, xT_4 213 rfl rfl, xT_0 30 rfl rfl, _, rfl, rfl⟩
theorem eX10_village_128 : xJ mX10_village 128 (.goto) 136 131 := ⟨(8), by decide +kernel, by decide, rfl⟩
theorem eX10_village_131 : x_aload mX10_village 131 0 132 := Or.inl ⟨0, by decide +kernel, rfl, rfl⟩
theorem eX10_village_132 : x_iload mX10_village 132 1 133 := Or.inl ⟨1, by decide +kernel, rfl, rfl⟩
set_option maxRecDepth 20000 in
theorem eX10_village_133 : xCV mX10_village 133 mX10_besides 1 10 136 := ⟨140, by decide +kernel, rfl, ⟨cm_X10_140.1, cm_X10_140.2.1, cm_X10_140.2.2.1, cm_X10_140.2.2.2.1, cm_X10_140.2.2.2.2⟩, xT_4 221 rfl rfl, xT_0 32 rfl rfl, _, rfl, rfl⟩
theorem eX10_village_136 : xD mX10_village 136 (.ireturn) 1 137 := ⟨by decide +kernel, rfl⟩
theorem eX10_party_0 : x_iload mX10_party 0 1 1 := Or.inl ⟨1, by decide +kernel, rfl, rfl⟩
theorem eX10_party_1 : xD mX10_party 1 (.i2l) 1 2 := ⟨by decide +kernel, rfl⟩
theorem eX10_party_2 : xKL mX10_party 2 (0) 3 := Or.inl ⟨0, by decide +kernel, by decide, rfl⟩
theorem eX10_party_3 : x_aload mX10_party 3 0 4 := Or.inl ⟨0, by decide +kernel, rfl, rfl⟩
theorem eX10_party_4 : xGF mX10_party 4 10 2 7 := ⟨74, _, _, by decide +kernel, rfl, fl_X10_74⟩
theorem eX10_party_7 : xK mX10_party 7 (nI 1) 8 := Or.inl (⟨1, by decide +kernel, by decide, rfl⟩)
theorem eX10_party_8 : xD mX10_party 8 (.isub) 1 9 := ⟨by decide +kernel, rfl⟩
theorem eX10_party_9 : xD mX10_party 9 (.i2l) 1 10 := ⟨by decide +kernel, rfl⟩
set_option maxRecDepth 20000 in
theorem eX10_party_10 : xCS mX10_party 10 mX10_in 3 13 := ⟨81, by decide +kernel, rfl, ⟨cm_X10_81.1, cm_X10_81.2.1, cm_X10_81.2.2.1, cm_X10_81.2.2.2.1, cm_X10_81.2.2.2.2⟩, xT_4 155 rfl rfl⟩
theorem eX10_party_13 : xJ mX10_party 13 (.ifCond .eq) 26 16 := ⟨(13), by decide +kernel, by decide, rfl⟩
theorem eX10_party_16 : x_iload mX10_party 16 2 17 := Or.inl ⟨2, by decide +kernel, rfl, rfl⟩
theorem eX10_party_17 : xD mX10_party 17 (.i2l) 1 18 := ⟨by decide +kernel, rfl⟩
theorem eX10_party_18 : xKL mX10_party 18 (0) 19 := Or.inl ⟨0, by decide +kernel, by decide, rfl⟩
theorem eX10_party_19 : xKL mX10_party 19 (1) 20 := Or.inl ⟨1, by decide +kernel, by decide, rfl⟩
set_option maxRecDepth 20000 in
theorem eX10_party_20 : xCS mX10_party 20 mX10_in 3 23 := ⟨81, by decide +kernel, rfl, ⟨cm_X10_81.1, cm_X10_81.2.1, cm_X10_81.2.2.1, cm_X10_81.2.2.2.1, cm_X10_81.2.2.2.2⟩, xT_4 155 rfl rfl⟩
theorem eX10_party_23 : xJ mX10_party 23 (.ifCond .ne) 28 26 := ⟨(5), by decide +kernel, by decide, rfl⟩
theorem eX10_party_26 : xK mX10_party 26 ((-1)) 27 := Or.inl (⟨(-1), by decide +kernel, by decide, rfl⟩)
theorem eX10_party_27 : xD mX10_party 27 (.ireturn) 1 28 := ⟨by decide +kernel, rfl⟩
theorem eX10_party_28 : x_iload mX10_party 28 2 29 := Or.inl ⟨2, by decide +kernel, rfl, rfl⟩
theorem eX10_party_29 : xJ mX10_party 29 (.ifCond .ne) 44 32 := ⟨(15), by decide +kernel, by decide, rfl⟩
theorem eX10_party_32 : x_aload mX10_party 32 0 33 := Or.inl ⟨0, by decide +kernel, rfl, rfl⟩
theorem eX10_party_33 : xGF mX10_party 33 10 9 36 := ⟨25, _, _, by decide +kernel, rfl, fl_X10_25⟩
theorem eX10_party_36 : xK mX10_party 36 (nI 16) 38 := Or.inr (Or.inl (⟨16, by decide +kernel, by decide, rfl⟩))
theorem eX10_party_38 : x_iload mX10_party 38 1 39 := Or.inl ⟨1, by decide +kernel, rfl, rfl⟩
theorem eX10_party_39 : xD mX10_party 39 (.iadd) 1 40 := ⟨by decide +kernel, rfl⟩
theorem eX10_party_40 : xD mX10_party 40 (.iaload) 1 41 := ⟨by decide +kernel, rfl⟩
theorem eX10_party_41 : xJ mX10_party 41 (.goto) 53 44 := ⟨(12), by decide +kernel, by decide, rfl⟩
theorem eX10_party_44 : x_aload mX10_party 44 0 45 := Or.inl ⟨0, by decide +kernel, rfl, rfl⟩
theorem eX10_party_45 : xGF mX10_party 45 10 9 48 := ⟨25, _, _, by decide +kernel, rfl, fl_X10_25⟩
theorem eX10_party_48 : xK mX10_party 48 (nI 19) 50 := Or.inr (Or.inl (⟨19, by decide +kernel, by decide, rfl⟩))
theorem eX10_party_50 : x_iload mX10_party 50 1 51 := Or.inl ⟨1, by decide +kernel, rfl, rfl⟩
theorem eX10_party_51 : xD mX10_party 51 (.iadd) 1 52 := ⟨by decide +kernel, rfl⟩
theorem eX10_party_52 : xD mX10_party 52 (.iaload) 1 53 := ⟨by decide +kernel, rfl⟩
theorem eX10_party_53 : xD mX10_party 53 (.ireturn) 1 54 := ⟨by decide +kernel, rfl⟩
theorem eX10_far_0 : x_aload mX10_far 0 0 1 := Or.inl ⟨0, by decide +kernel, rfl, rfl⟩
theorem eX10_far_1 : x_iload mX10_far 1 1 2 := Or.inl ⟨1, by decide +kernel, rfl, rfl⟩
set_option maxRecDepth 20000 in
theorem eX10_far_2 : xCV mX10_far 2 mX10_isVillage 1 10 5 := ⟨157, by decide +kernel, rfl, ⟨cm_X10_157.1, cm_X10_157.2.1, cm_X10_157.2.2.1, cm_X10_157.2.2.2.1, cm_X10_157.2.2.2.2⟩, xT_4 201 rfl rfl, xT_0 28 rfl rfl, _, rfl, rfl⟩
theorem eX10_far_5 : xJ mX10_far 5 (.ifCond .eq) 16 8 := ⟨(11), by decide +kernel, by decide, rfl⟩
theorem eX10_far_8 : x_aload mX10_far 8 0 9 := Or.inl ⟨0, by decide +kernel, rfl, rfl⟩
theorem eX10_far_9 : x_iload mX10_far 9 2 10 := Or.inl ⟨2, by decide +kernel, rfl, rfl⟩
set_option maxRecDepth 20000 in
theorem eX10_far_10 : xCV mX10_far 10 mX10_isVillage 1 10 13 := ⟨157, by decide +kernel, rfl, ⟨cm_X10_157.1, cm_X10_157.2.1, cm_X10_157.2.2.1, cm_X10_157.2.2.2.1, cm_X10_157.2.2.2.2⟩, xT_4 201 rfl rfl, xT_0 28 rfl rfl, _, rfl, rfl⟩
theorem eX10_far_13 : xJ mX10_far 13 (.ifCond .ne) 20 16 := ⟨(7), by decide +kernel, by decide, rfl⟩
theorem eX10_far_16 : xK mX10_far 16 ((-1)) 17 := Or.inl (⟨(-1), by decide +kernel, by decide, rfl⟩)
theorem eX10_far_17 : xJ mX10_far 17 (.goto) 53 20 := ⟨(36), by decide +kernel, by decide, rfl⟩
theorem eX10_far_20 : x_aload mX10_far 20 0 21 := Or.inl ⟨0, by decide +kernel, rfl, rfl⟩
theorem eX10_far_21 : xGF mX10_far 21 10 4 24 := ⟨16, _, _, by decide +kernel, rfl, fl_X10_16⟩
theorem eX10_far_24 : xK mX10_far 24 (nI 7) 26 := Or.inr (Or.inl (⟨7, by decide +kernel, by decide, rfl⟩))
theorem eX10_far_26 : x_iload mX10_far 26 1 27 := Or.inl ⟨1, by decide +kernel, rfl, rfl⟩
theorem eX10_far_27 : xD mX10_far 27 (.imul) 1 28 := ⟨by decide +kernel, rfl⟩
theorem eX10_far_28 : x_iload mX10_far 28 2 29 := Or.inl ⟨2, by decide +kernel, rfl, rfl⟩
theorem eX10_far_29 : xD mX10_far 29 (.iadd) 1 30 := ⟨by decide +kernel, rfl⟩
theorem eX10_far_30 : xD mX10_far 30 (.iaload) 1 31 := ⟨by decide +kernel, rfl⟩
theorem eX10_far_31 : xK mX10_far 31 (nI 9999) 34 := Or.inr (Or.inr (Or.inl (⟨9999, by decide +kernel, by decide, rfl⟩)))
theorem eX10_far_34 : xJ mX10_far 34 (.if_icmp .ge) 51 37 := ⟨(17), by decide +kernel, by decide, rfl⟩
theorem eX10_far_37 : x_aload mX10_far 37 0 38 := Or.inl ⟨0, by decide +kernel, rfl, rfl⟩
theorem eX10_far_38 : xGF mX10_far 38 10 4 41 := ⟨16, _, _, by decide +kernel, rfl, fl_X10_16⟩
theorem eX10_far_41 : xK mX10_far 41 (nI 7) 43 := Or.inr (Or.inl (⟨7, by decide +kernel, by decide, rfl⟩))
theorem eX10_far_43 : x_iload mX10_far 43 1 44 := Or.inl ⟨1, by decide +kernel, rfl, rfl⟩
theorem eX10_far_44 : xD mX10_far 44 (.imul) 1 45 := ⟨by decide +kernel, rfl⟩
theorem eX10_far_45 : x_iload mX10_far 45 2 46 := Or.inl ⟨2, by decide +kernel, rfl, rfl⟩
theorem eX10_far_46 : xD mX10_far 46 (.iadd) 1 47 := ⟨by decide +kernel, rfl⟩
theorem eX10_far_47 : xD mX10_far 47 (.iaload) 1 48 := ⟨by decide +kernel, rfl⟩
theorem eX10_far_48 : xJ mX10_far 48 (.goto) 53 51 := ⟨(5), by decide +kernel, by decide, rfl⟩
theorem eX10_far_51 : xK mX10_far 51 ((-4)) 53 := Or.inr (Or.inl (⟨(-4), by decide +kernel, by decide, rfl⟩))
theorem eX10_far_53 : xD mX10_far 53 (.ireturn) 1 54 := ⟨by decide +kernel, rfl⟩
theorem eX10_known_0 : x_aload mX10_known 0 0 1 := Or.inl ⟨0, by decide +kernel, rfl, rfl⟩
theorem eX10_known_1 : xGF mX10_known 1 10 10 4 := ⟨127, _, _, by decide +kernel, rfl, fl_X10_127⟩
theorem eX10_known_4 : xK mX10_known 4 (nI 8) 6 := Or.inr (Or.inl (⟨8, by decide +kernel, by decide, rfl⟩))
theorem eX10_known_6 : xJ mX10_known 6 (.if_icmp .ne) 46 9 := ⟨(40), by decide +kernel, by decide, rfl⟩
theorem eX10_known_9 : xK mX10_known 9 (nI 22) 11 := Or.inr (Or.inl (⟨22, by decide +kernel, by decide, rfl⟩))
theorem eX10_known_11 : x_istore mX10_known 11 1 12 := Or.inl ⟨1, by decide +kernel, rfl, rfl⟩
theorem eX10_known_12 : x_iload mX10_known 12 1 13 := Or.inl ⟨1, by decide +kernel, rfl, rfl⟩
theorem eX10_known_13 : xK mX10_known 13 (nI 176) 16 := Or.inr (Or.inr (Or.inl (⟨176, by decide +kernel, by decide, rfl⟩)))
theorem eX10_known_16 : xJ mX10_known 16 (.if_icmp .ge) 40 19 := ⟨(24), by decide +kernel, by decide, rfl⟩
theorem eX10_known_19 : x_aload mX10_known 19 0 20 := Or.inl ⟨0, by decide +kernel, rfl, rfl⟩
theorem eX10_known_20 : xGF mX10_known 20 10 9 23 := ⟨25, _, _, by decide +kernel, rfl, fl_X10_25⟩
theorem eX10_known_23 : x_iload mX10_known 23 1 24 := Or.inl ⟨1, by decide +kernel, rfl, rfl⟩
theorem eX10_known_24 : x_aload mX10_known 24 0 25 := Or.inl ⟨0, by decide +kernel, rfl, rfl⟩
theorem eX10_known_25 : xGF mX10_known 25 10 9 28 := ⟨25, _, _, by decide +kernel, rfl, fl_X10_25⟩
theorem eX10_known_28 : x_iload mX10_known 28 1 29 := Or.inl ⟨1, by decide +kernel, rfl, rfl⟩
theorem eX10_known_29 : xK mX10_known 29 (nI 22) 31 := Or.inr (Or.inl (⟨22, by decide +kernel, by decide, rfl⟩))
theorem eX10_known_31 : xD mX10_known 31 (.iadd) 1 32 := ⟨by decide +kernel, rfl⟩
theorem eX10_known_32 : xD mX10_known 32 (.iaload) 1 33 := ⟨by decide +kernel, rfl⟩
theorem eX10_known_33 : xD mX10_known 33 (.iastore) 1 34 := ⟨by decide +kernel, rfl⟩
theorem eX10_known_34 : xD mX10_known 34 (.iinc 1 1) 3 37 := ⟨by decide +kernel, rfl⟩
theorem eX10_known_37 : xJ mX10_known 37 (.goto) 12 40 := ⟨(-25), by decide +kernel, by decide, rfl⟩
theorem eX10_known_40 : x_aload mX10_known 40 0 41 := Or.inl ⟨0, by decide +kernel, rfl, rfl⟩
theorem eX10_known_41 : xK mX10_known 41 (nI 7) 43 := Or.inr (Or.inl (⟨7, by decide +kernel, by decide, rfl⟩))
theorem eX10_known_43 : xPF mX10_known 43 10 10 (.int) 46 := ⟨127, _, by decide +kernel, rfl, fl_X10_127, fun h => by cases h⟩
theorem eX10_known_46 : x_aload mX10_known 46 0 47 := Or.inl ⟨0, by decide +kernel, rfl, rfl⟩
theorem eX10_known_47 : xD mX10_known 47 (.dup) 1 48 := ⟨by decide +kernel, rfl⟩
theorem eX10_known_48 : xGF mX10_known 48 10 10 51 := ⟨127, _, _, by decide +kernel, rfl, fl_X10_127⟩
theorem eX10_known_51 : xK mX10_known 51 (nI 1) 52 := Or.inl (⟨1, by decide +kernel, by decide, rfl⟩)
theorem eX10_known_52 : xD mX10_known 52 (.iadd) 1 53 := ⟨by decide +kernel, rfl⟩
theorem eX10_known_53 : xPF mX10_known 53 10 10 (.int) 56 := ⟨127, _, by decide +kernel, rfl, fl_X10_127, fun h => by cases h⟩
theorem eX10_known_56 : x_aload mX10_known 56 0 57 := Or.inl ⟨0, by decide +kernel, rfl, rfl⟩
theorem eX10_known_57 : xK mX10_known 57 (nI 0) 58 := Or.inl (⟨0, by decide +kernel, by decide, rfl⟩)
theorem eX10_known_58 : x_aload mX10_known 58 0 59 := Or.inl ⟨0, by decide +kernel, rfl, rfl⟩
theorem eX10_known_59 : xGF mX10_known 59 10 10 62 := ⟨127, _, _, by decide +kernel, rfl, fl_X10_127⟩
theorem eX10_known_62 : xK mX10_known 62 (nI 22) 64 := Or.inr (Or.inl (⟨22, by decide +kernel, by decide, rfl⟩))
theorem eX10_known_64 : xD mX10_known 64 (.imul) 1 65 := ⟨by decide +kernel, rfl⟩
set_option maxRecDepth 20000 in
theorem eX10_known_65 : xCV mX10_known 65 mX10_copied 2 10 68 := ⟨124, by decide +kernel, rfl, ⟨cm_X10_124.1, cm_X10_124.2.1, cm_X10_124.2.2.1, cm_X10_124.2.2.2.1, cm_X10_124.2.2.2.2⟩, xT_4 193 rfl rfl, xT_0 27 rfl rfl, _, rfl, rfl⟩
theorem eX10_known_68 : xD mX10_known 68 (.return_) 1 69 := ⟨by decide +kernel, rfl⟩
theorem eX10_canAsk_0 : x_aload mX10_canAsk 0 0 1 := Or.inl ⟨0, by decide +kernel, rfl, rfl⟩
theorem eX10_canAsk_1 : xGF mX10_canAsk 1 10 9 4 := ⟨25, _, _, by decide +kernel, rfl, fl_X10_25⟩
theorem eX10_canAsk_4 : x_iload mX10_canAsk 4 1 5 := Or.inl ⟨1, by decide +kernel, rfl, rfl⟩
theorem eX10_canAsk_5 : xK mX10_canAsk 5 (nI 14) 7 := Or.inr (Or.inl (⟨14, by decide +kernel, by decide, rfl⟩))
theorem eX10_canAsk_7 : xD mX10_canAsk 7 (.iadd) 1 8 := ⟨by decide +kernel, rfl⟩
theorem eX10_canAsk_8 : xD mX10_canAsk 8 (.iaload) 1 9 := ⟨by decide +kernel, rfl⟩
theorem eX10_canAsk_9 : x_iload mX10_canAsk 9 3 10 := Or.inl ⟨3, by decide +kernel, rfl, rfl⟩
set_option maxRecDepth 20000 in
theorem eX10_canAsk_10 : xCS mX10_canAsk 10 mX10_has 2 13 := ⟨144, by decide +kernel, rfl, ⟨cm_X10_144.1, cm_X10_144.2.1, cm_X10_144.2.2.1, cm_X10_144.2.2.2.1, cm_X10_144.2.2.2.2⟩, xT_4 209 rfl rfl⟩
theorem eX10_canAsk_13 : xJ mX10_canAsk 13 (.ifCond .ne) 47 16 := ⟨(34), by decide +kernel, by decide, rfl⟩
theorem eX10_canAsk_16 : x_aload mX10_canAsk 16 0 17 := Or.inl ⟨0, by decide +kernel, rfl, rfl⟩
theorem eX10_canAsk_17 : xGF mX10_canAsk 17 10 4 20 := ⟨16, _, _, by decide +kernel, rfl, fl_X10_16⟩
theorem eX10_canAsk_20 : xK mX10_canAsk 20 (nI 7) 22 := Or.inr (Or.inl (⟨7, by decide +kernel, by decide, rfl⟩))
theorem eX10_canAsk_22 : x_aload mX10_canAsk 22 0 23 := Or.inl ⟨0, by decide +kernel, rfl, rfl⟩
theorem eX10_canAsk_23 : xGF mX10_canAsk 23 10 9 26 := ⟨25, _, _, by decide +kernel, rfl, fl_X10_25⟩
theorem eX10_canAsk_26 : x_iload mX10_canAsk 26 1 27 := Or.inl ⟨1, by decide +kernel, rfl, rfl⟩
theorem eX10_canAsk_27 : xK mX10_canAsk 27 (nI 16) 29 := Or.inr (Or.inl (⟨16, by decide +kernel, by decide, rfl⟩))
theorem eX10_canAsk_29 : xD mX10_canAsk 29 (.iadd) 1 30 := ⟨by decide +kernel, rfl⟩
theorem eX10_canAsk_30 : x_iload mX10_canAsk 30 2 31 := Or.inl ⟨2, by decide +kernel, rfl, rfl⟩
theorem eX10_canAsk_31 : xD mX10_canAsk 31 (.iadd) 1 32 := ⟨by decide +kernel, rfl⟩
theorem eX10_canAsk_32 : xD mX10_canAsk 32 (.iaload) 1 33 := ⟨by decide +kernel, rfl⟩
theorem eX10_canAsk_33 : xD mX10_canAsk 33 (.imul) 1 34 := ⟨by decide +kernel, rfl⟩
theorem eX10_canAsk_34 : x_iload mX10_canAsk 34 3 35 := Or.inl ⟨3, by decide +kernel, rfl, rfl⟩
theorem eX10_canAsk_35 : xD mX10_canAsk 35 (.iadd) 1 36 := ⟨by decide +kernel, rfl⟩
theorem eX10_canAsk_36 : xD mX10_canAsk 36 (.iaload) 1 37 := ⟨by decide +kernel, rfl⟩
theorem eX10_canAsk_37 : xK mX10_canAsk 37 (nI 9999) 40 := Or.inr (Or.inr (Or.inl (⟨9999, by decide +kernel, by decide, rfl⟩)))
theorem eX10_canAsk_40 : xJ mX10_canAsk 40 (.if_icmp .ge) 47 43 := ⟨(7), by decide +kernel, by decide, rfl⟩
theorem eX10_canAsk_43 : xK mX10_canAsk 43 (nI 1) 44 := Or.inl (⟨1, by decide +kernel, by decide, rfl⟩)
theorem eX10_canAsk_44 : xJ mX10_canAsk 44 (.goto) 48 47 := ⟨(4), by decide +kernel, by decide, rfl⟩
theorem eX10_canAsk_47 : xK mX10_canAsk 47 (nI 0) 48 := Or.inl (⟨0, by decide +kernel, by decide, rfl⟩)
theorem eX10_canAsk_48 : xD mX10_canAsk 48 (.ireturn) 1 49 := ⟨by decide +kernel, rfl⟩
end
section
theorem eX10_asks_0 : x_aload mX10_asks 0 0 1 := Or.inl ⟨0, by decide +kernel, rfl, rfl⟩
theorem eX10_asks_1 : xGF mX10_asks 1 10 9 4 := ⟨25, _, _, by decide +kernel, rfl, fl_X10_25⟩
theorem eX10_asks_4 : x_iload mX10_asks 4 1 5 := Or.inl ⟨1, by decide +kernel, rfl, rfl⟩
theorem eX10_asks_5 : xK mX10_asks 5 (nI 19) 7 := Or.inr (Or.inl (⟨19, by decide +kernel, by decide, rfl⟩))
theorem eX10_asks_7 : xD mX10_asks 7 (.iadd) 1 8 := ⟨by decide +kernel, rfl⟩
theorem eX10_asks_8 : x_iload mX10_asks 8 2 9 := Or.inl ⟨2, by decide +kernel, rfl, rfl⟩
theorem eX10_asks_9 : xD mX10_asks 9 (.iadd) 1 10 := ⟨by decide +kernel, rfl⟩
theorem eX10_asks_10 : xD mX10_asks 10 (.dup2) 1 11 := ⟨by decide +kernel, rfl⟩
theorem eX10_asks_11 : xD mX10_asks 11 (.iaload) 1 12 := ⟨by decide +kernel, rfl⟩
theorem eX10_asks_12 : x_aload mX10_asks 12 0 13 := Or.inl ⟨0, by decide +kernel, rfl, rfl⟩
theorem eX10_asks_13 : xGF mX10_asks 13 10 4 16 := ⟨16, _, _, by decide +kernel, rfl, fl_X10_16⟩
theorem eX10_asks_16 : xK mX10_asks 16 (nI 7) 18 := Or.inr (Or.inl (⟨7, by decide +kernel, by decide, rfl⟩))
theorem eX10_asks_18 : x_aload mX10_asks 18 0 19 := Or.inl ⟨0, by decide +kernel, rfl, rfl⟩
theorem eX10_asks_19 : xGF mX10_asks 19 10 9 22 := ⟨25, _, _, by decide +kernel, rfl, fl_X10_25⟩
theorem eX10_asks_22 : x_iload mX10_asks 22 1 23 := Or.inl ⟨1, by decide +kernel, rfl, rfl⟩
theorem eX10_asks_23 : xK mX10_asks 23 (nI 16) 25 := Or.inr (Or.inl (⟨16, by decide +kernel, by decide, rfl⟩))
theorem eX10_asks_25 : xD mX10_asks 25 (.iadd) 1 26 := ⟨by decide +kernel, rfl⟩
theorem eX10_asks_26 : x_iload mX10_asks 26 2 27 := Or.inl ⟨2, by decide +kernel, rfl, rfl⟩
theorem eX10_asks_27 : xD mX10_asks 27 (.iadd) 1 28 := ⟨by decide +kernel, rfl⟩
theorem eX10_asks_28 : xD mX10_asks 28 (.iaload) 1 29 := ⟨by decide +kernel, rfl⟩
theorem eX10_asks_29 : xD mX10_asks 29 (.imul) 1 30 := ⟨by decide +kernel, rfl⟩
theorem eX10_asks_30 : x_iload mX10_asks 30 3 31 := Or.inl ⟨3, by decide +kernel, rfl, rfl⟩
theorem eX10_asks_31 : xD mX10_asks 31 (.iadd) 1 32 := ⟨by decide +kernel, rfl⟩
theorem eX10_asks_32 : xD mX10_asks 32 (.iaload) 1 33 := ⟨by decide +kernel, rfl⟩
theorem eX10_asks_33 : xK mX10_asks 33 (nI 1) 34 := Or.inl (⟨1, by decide +kernel, by decide, rfl⟩)
theorem eX10_asks_34 : xD mX10_asks 34 (.iadd) 1 35 := ⟨by decide +kernel, rfl⟩
theorem eX10_asks_35 : xD mX10_asks 35 (.iadd) 1 36 := ⟨by decide +kernel, rfl⟩
theorem eX10_asks_36 : xD mX10_asks 36 (.iastore) 1 37 := ⟨by decide +kernel, rfl⟩
theorem eX10_asks_37 : x_aload mX10_asks 37 0 38 := Or.inl ⟨0, by decide +kernel, rfl, rfl⟩
theorem eX10_asks_38 : xGF mX10_asks 38 10 9 41 := ⟨25, _, _, by decide +kernel, rfl, fl_X10_25⟩
theorem eX10_asks_41 : x_iload mX10_asks 41 1 42 := Or.inl ⟨1, by decide +kernel, rfl, rfl⟩
theorem eX10_asks_42 : xK mX10_asks 42 (nI 16) 44 := Or.inr (Or.inl (⟨16, by decide +kernel, by decide, rfl⟩))
theorem eX10_asks_44 : xD mX10_asks 44 (.iadd) 1 45 := ⟨by decide +kernel, rfl⟩
theorem eX10_asks_45 : x_iload mX10_asks 45 2 46 := Or.inl ⟨2, by decide +kernel, rfl, rfl⟩
theorem eX10_asks_46 : xD mX10_asks 46 (.iadd) 1 47 := ⟨by decide +kernel, rfl⟩
theorem eX10_asks_47 : x_iload mX10_asks 47 3 48 := Or.inl ⟨3, by decide +kernel, rfl, rfl⟩
theorem eX10_asks_48 : xD mX10_asks 48 (.iastore) 1 49 := ⟨by decide +kernel, rfl⟩
theorem eX10_asks_49 : x_aload mX10_asks 49 0 50 := Or.inl ⟨0, by decide +kernel, rfl, rfl⟩
theorem eX10_asks_50 : x_iload mX10_asks 50 1 51 := Or.inl ⟨1, by decide +kernel, rfl, rfl⟩
theorem eX10_asks_51 : x_iload mX10_asks 51 3 52 := Or.inl ⟨3, by decide +kernel, rfl, rfl⟩
set_option maxRecDepth 20000 in
theorem eX10_asks_52 : xCV mX10_asks 52 mX10_writes 2 10 55 := ⟨166, by decide +kernel, rfl, ⟨cm_X10_166.1, cm_X10_166.2.1, cm_X10_166.2.2.1, cm_X10_166.2.2.2.1, cm_X10_166.2.2.2.2⟩, xT_5 17 rfl rfl, xT_0 38 rfl rfl, _, rfl, rfl⟩
theorem eX10_asks_55 : xD mX10_asks 55 (.ireturn) 1 56 := ⟨by decide +kernel, rfl⟩
theorem eX10_ask_0 : x_iload mX10_ask 0 1 1 := Or.inl ⟨1, by decide +kernel, rfl, rfl⟩
theorem eX10_ask_1 : xD mX10_ask 1 (.i2l) 1 2 := ⟨by decide +kernel, rfl⟩
theorem eX10_ask_2 : xKL mX10_ask 2 (0) 3 := Or.inl ⟨0, by decide +kernel, by decide, rfl⟩
theorem eX10_ask_3 : x_aload mX10_ask 3 0 4 := Or.inl ⟨0, by decide +kernel, rfl, rfl⟩
theorem eX10_ask_4 : xGF mX10_ask 4 10 2 7 := ⟨74, _, _, by decide +kernel, rfl, fl_X10_74⟩
theorem eX10_ask_7 : xK mX10_ask 7 (nI 1) 8 := Or.inl (⟨1, by decide +kernel, by decide, rfl⟩)
theorem eX10_ask_8 : xD mX10_ask 8 (.isub) 1 9 := ⟨by decide +kernel, rfl⟩
theorem eX10_ask_9 : xD mX10_ask 9 (.i2l) 1 10 := ⟨by decide +kernel, rfl⟩
set_option maxRecDepth 20000 in
theorem eX10_ask_10 : xCS mX10_ask 10 mX10_in 3 13 := ⟨81, by decide +kernel, rfl, ⟨cm_X10_81.1, cm_X10_81.2.1, cm_X10_81.2.2.1, cm_X10_81.2.2.2.1, cm_X10_81.2.2.2.2⟩, xT_4 155 rfl rfl⟩
theorem eX10_ask_13 : xJ mX10_ask 13 (.ifCond .eq) 24 16 := ⟨(11), by decide +kernel, by decide, rfl⟩
theorem eX10_ask_16 : x_aload mX10_ask 16 0 17 := Or.inl ⟨0, by decide +kernel, rfl, rfl⟩
theorem eX10_ask_17 : x_iload mX10_ask 17 2 18 := Or.inl ⟨2, by decide +kernel, rfl, rfl⟩
set_option maxRecDepth 20000 in
theorem eX10_ask_18 : xCV mX10_ask 18 mX10_isVillage 1 10 21 := ⟨157, by decide +kernel, rfl, ⟨cm_X10_157.1, cm_X10_157.2.1, cm_X10_157.2.2.1, cm_X10_157.2.2.2.1, cm_X10_157.2.2.2.2⟩, xT_4 201 rfl rfl, xT_0 28 rfl rfl, _, rfl, rfl⟩
theorem eX10_ask_21 : xJ mX10_ask 21 (.ifCond .ne) 26 24 := ⟨(5), by decide +kernel, by decide, rfl⟩
theorem eX10_ask_24 : xK mX10_ask 24 ((-1)) 25 := Or.inl (⟨(-1), by decide +kernel, by decide, rfl⟩)
theorem eX10_ask_25 : xD mX10_ask 25 (.ireturn) 1 26 := ⟨by decide +kernel, rfl⟩
theorem eX10_ask_26 : x_aload mX10_ask 26 0 27 := Or.inl ⟨0, by decide +kernel, rfl, rfl⟩
theorem eX10_ask_27 : xK mX10_ask 27 (nI 0) 28 := Or.inl (⟨0, by decide +kernel, by decide, rfl⟩)
theorem eX10_ask_28 : x_iload mX10_ask 28 1 29 := Or.inl ⟨1, by decide +kernel, rfl, rfl⟩
theorem eX10_ask_29 : x_iload mX10_ask 29 2 30 := Or.inl ⟨2, by decide +kernel, rfl, rfl⟩
set_option maxRecDepth 20000 in
theorem eX10_ask_30 : xCV mX10_ask 30 mX10_canAsk 3 10 33 := ⟨169, by decide +kernel, rfl, ⟨cm_X10_169.1, cm_X10_169.2.1, cm_X10_169.2.2.1, cm_X10_169.2.2.2.1, cm_X10_169.2.2.2.2⟩, xT_5 5 rfl rfl, xT_0 35 rfl rfl, _, rfl, rfl⟩
theorem eX10_ask_33 : xJ mX10_ask 33 (.ifCond .ne) 39 36 := ⟨(6), by decide +kernel, by decide, rfl⟩
theorem eX10_ask_36 : xK mX10_ask 36 ((-2)) 38 := Or.inr (Or.inl (⟨(-2), by decide +kernel, by decide, rfl⟩))
theorem eX10_ask_38 : xD mX10_ask 38 (.ireturn) 1 39 := ⟨by decide +kernel, rfl⟩
theorem eX10_ask_39 : x_aload mX10_ask 39 0 40 := Or.inl ⟨0, by decide +kernel, rfl, rfl⟩
set_option maxRecDepth 20000 in
theorem eX10_ask_40 : xCV mX10_ask 40 mX10_known 0 10 43 := ⟨173, by decide +kernel, rfl, ⟨cm_X10_173.1, cm_X10_173.2.1, cm_X10_173.2.2.1, cm_X10_173.2.2.2.1, cm_X10_173.2.2.2.2⟩, xT_5 9 rfl rfl, xT_0 36 rfl rfl, _, rfl, rfl⟩
theorem eX10_ask_43 : x_aload mX10_ask 43 0 44 := Or.inl ⟨0, by decide +kernel, rfl, rfl⟩
theorem eX10_ask_44 : xK mX10_ask 44 (nI 0) 45 := Or.inl (⟨0, by decide +kernel, by decide, rfl⟩)
theorem eX10_ask_45 : x_iload mX10_ask 45 1 46 := Or.inl ⟨1, by decide +kernel, rfl, rfl⟩
theorem eX10_ask_46 : x_iload mX10_ask 46 2 47 := Or.inl ⟨2, by decide +kernel, rfl, rfl⟩
set_option maxRecDepth 20000 in
theorem eX10_ask_47 : xCV mX10_ask 47 mX10_asks 3 10 50 := ⟨176, by decide +kernel, rfl, ⟨cm_X10_176.1, cm_X10_176.2.1, cm_X10_176.2.2.1, cm_X10_176.2.2.2.1, cm_X10_176.2.2.2.2⟩, xT_5 13 rfl rfl, xT_0 37 rfl rfl, _, rfl, rfl⟩
theorem eX10_ask_50 : xD mX10_ask 50 (.ireturn) 1 51 := ⟨by decide +kernel, rfl⟩
theorem eX10_canCheck_0 : x_aload mX10_canCheck 0 0 1 := Or.inl ⟨0, by decide +kernel, rfl, rfl⟩
theorem eX10_canCheck_1 : xGF mX10_canCheck 1 10 9 4 := ⟨25, _, _, by decide +kernel, rfl, fl_X10_25⟩
theorem eX10_canCheck_4 : x_iload mX10_canCheck 4 1 5 := Or.inl ⟨1, by decide +kernel, rfl, rfl⟩
theorem eX10_canCheck_5 : xK mX10_canCheck 5 (nI 14) 7 := Or.inr (Or.inl (⟨14, by decide +kernel, by decide, rfl⟩))
theorem eX10_canCheck_7 : xD mX10_canCheck 7 (.iadd) 1 8 := ⟨by decide +kernel, rfl⟩
theorem eX10_canCheck_8 : xD mX10_canCheck 8 (.iaload) 1 9 := ⟨by decide +kernel, rfl⟩
theorem eX10_canCheck_9 : x_aload mX10_canCheck 9 0 10 := Or.inl ⟨0, by decide +kernel, rfl, rfl⟩
theorem eX10_canCheck_10 : xGF mX10_canCheck 10 10 9 13 := ⟨25, _, _, by decide +kernel, rfl, fl_X10_25⟩
theorem eX10_canCheck_13 : x_iload mX10_canCheck 13 1 14 := Or.inl ⟨1, by decide +kernel, rfl, rfl⟩
theorem eX10_canCheck_14 : xK mX10_canCheck 14 (nI 15) 16 := Or.inr (Or.inl (⟨15, by decide +kernel, by decide, rfl⟩))
theorem eX10_canCheck_16 : xD mX10_canCheck 16 (.iadd) 1 17 := ⟨by decide +kernel, rfl⟩
theorem eX10_canCheck_17 : xD mX10_canCheck 17 (.iaload) 1 18 := ⟨by decide +kernel, rfl⟩
theorem eX10_canCheck_18 : xK mX10_canCheck 18 ((-1)) 19 := Or.inl (⟨(-1), by decide +kernel, by decide, rfl⟩)
theorem eX10_canCheck_19 : xD mX10_canCheck 19 (.ixor) 1 20 := ⟨by decide +kernel, rfl⟩
theorem eX10_canCheck_20 : xD mX10_canCheck 20 (.iand) 1 21 := ⟨by decide +kernel, rfl⟩
theorem eX10_canCheck_21 : x_iload mX10_canCheck 21 2 22 := Or.inl ⟨2, by decide +kernel, rfl, rfl⟩
set_option maxRecDepth 20000 in
theorem eX10_canCheck_22 : xCS mX10_canCheck 22 mX10_has 2 25 := ⟨144, by decide +kernel, rfl, ⟨cm_X10_144.1, cm_X10_144.2.1, cm_X10_144.2.2.1, cm_X10_144.2.2.2.1, cm_X10_144.2.2.2.2⟩, xT_4 209 rfl rfl⟩
theorem eX10_canCheck_25 : xD mX10_canCheck 25 (.ireturn) 1 26 := ⟨by decide +kernel, rfl⟩
theorem eX10_checked_0 : x_aload mX10_checked 0 0 1 := Or.inl ⟨0, by decide +kernel, rfl, rfl⟩
theorem eX10_checked_1 : xGF mX10_checked 1 10 9 4 := ⟨25, _, _, by decide +kernel, rfl, fl_X10_25⟩
theorem eX10_checked_4 : x_iload mX10_checked 4 1 5 := Or.inl ⟨1, by decide +kernel, rfl, rfl⟩
theorem eX10_checked_5 : xK mX10_checked 5 (nI 7) 7 := Or.inr (Or.inl (⟨7, by decide +kernel, by decide, rfl⟩))
theorem eX10_checked_7 : xD mX10_checked 7 (.iadd) 1 8 := ⟨by decide +kernel, rfl⟩
theorem eX10_checked_8 : x_iload mX10_checked 8 2 9 := Or.inl ⟨2, by decide +kernel, rfl, rfl⟩
theorem eX10_checked_9 : xD mX10_checked 9 (.iadd) 1 10 := ⟨by decide +kernel, rfl⟩
theorem eX10_checked_10 : x_aload mX10_checked 10 0 11 := Or.inl ⟨0, by decide +kernel, rfl, rfl⟩
theorem eX10_checked_11 : xGF mX10_checked 11 10 9 14 := ⟨25, _, _, by decide +kernel, rfl, fl_X10_25⟩
theorem eX10_checked_14 : x_iload mX10_checked 14 1 15 := Or.inl ⟨1, by decide +kernel, rfl, rfl⟩
theorem eX10_checked_15 : x_iload mX10_checked 15 2 16 := Or.inl ⟨2, by decide +kernel, rfl, rfl⟩
theorem eX10_checked_16 : xD mX10_checked 16 (.iadd) 1 17 := ⟨by decide +kernel, rfl⟩
theorem eX10_checked_17 : xD mX10_checked 17 (.iaload) 1 18 := ⟨by decide +kernel, rfl⟩
theorem eX10_checked_18 : xD mX10_checked 18 (.iastore) 1 19 := ⟨by decide +kernel, rfl⟩
theorem eX10_checked_19 : x_aload mX10_checked 19 0 20 := Or.inl ⟨0, by decide +kernel, rfl, rfl⟩
theorem eX10_checked_20 : xGF mX10_checked 20 10 9 23 := ⟨25, _, _, by decide +kernel, rfl, fl_X10_25⟩
theorem eX10_checked_23 : x_iload mX10_checked 23 1 24 := Or.inl ⟨1, by decide +kernel, rfl, rfl⟩
theorem eX10_checked_24 : xK mX10_checked 24 (nI 15) 26 := Or.inr (Or.inl (⟨15, by decide +kernel, by decide, rfl⟩))
theorem eX10_checked_26 : xD mX10_checked 26 (.iadd) 1 27 := ⟨by decide +kernel, rfl⟩
theorem eX10_checked_27 : xD mX10_checked 27 (.dup2) 1 28 := ⟨by decide +kernel, rfl⟩
theorem eX10_checked_28 : xD mX10_checked 28 (.iaload) 1 29 := ⟨by decide +kernel, rfl⟩
theorem eX10_checked_29 : xK mX10_checked 29 (nI 1) 30 := Or.inl (⟨1, by decide +kernel, by decide, rfl⟩)
theorem eX10_checked_30 : x_iload mX10_checked 30 2 31 := Or.inl ⟨2, by decide +kernel, rfl, rfl⟩
theorem eX10_checked_31 : xD mX10_checked 31 (.ishl) 1 32 := ⟨by decide +kernel, rfl⟩
theorem eX10_checked_32 : xD mX10_checked 32 (.ior) 1 33 := ⟨by decide +kernel, rfl⟩
theorem eX10_checked_33 : xD mX10_checked 33 (.iastore) 1 34 := ⟨by decide +kernel, rfl⟩
theorem eX10_checked_34 : xD mX10_checked 34 (.return_) 1 35 := ⟨by decide +kernel, rfl⟩
theorem eX10_check_0 : x_aload mX10_check 0 0 1 := Or.inl ⟨0, by decide +kernel, rfl, rfl⟩
theorem eX10_check_1 : x_iload mX10_check 1 1 2 := Or.inl ⟨1, by decide +kernel, rfl, rfl⟩
set_option maxRecDepth 20000 in
theorem eX10_check_2 : xCV mX10_check 2 mX10_isVillage 1 10 5 := ⟨157, by decide +kernel, rfl, ⟨cm_X10_157.1, cm_X10_157.2.1, cm_X10_157.2.2.1, cm_X10_157.2.2.2.1, cm_X10_157.2.2.2.2⟩, xT_4 201 rfl rfl, xT_0 28 rfl rfl, _, rfl, rfl⟩
theorem eX10_check_5 : xJ mX10_check 5 (.ifCond .ne) 10 8 := ⟨(5), by decide +kernel, by decide, rfl⟩
theorem eX10_check_8 : xK mX10_check 8 ((-1)) 9 := Or.inl (⟨(-1), by decide +kernel, by decide, rfl⟩)
theorem eX10_check_9 : xD mX10_check 9 (.ireturn) 1 10 := ⟨by decide +kernel, rfl⟩
theorem eX10_check_10 : x_aload mX10_check 10 0 11 := Or.inl ⟨0, by decide +kernel, rfl, rfl⟩
theorem eX10_check_11 : xK mX10_check 11 (nI 0) 12 := Or.inl (⟨0, by decide +kernel, by decide, rfl⟩)
theorem eX10_check_12 : x_iload mX10_check 12 1 13 := Or.inl ⟨1, by decide +kernel, rfl, rfl⟩
set_option maxRecDepth 20000 in
theorem eX10_check_13 : xCV mX10_check 13 mX10_canCheck 2 10 16 := ⟨179, by decide +kernel, rfl, ⟨cm_X10_179.1, cm_X10_179.2.1, cm_X10_179.2.2.1, cm_X10_179.2.2.2.1, cm_X10_179.2.2.2.2⟩, xT_5 25 rfl rfl, xT_0 39 rfl rfl, _, rfl, rfl⟩
theorem eX10_check_16 : xJ mX10_check 16 (.ifCond .ne) 22 19 := ⟨(6), by decide +kernel, by decide, rfl⟩
theorem eX10_check_19 : xK mX10_check 19 ((-2)) 21 := Or.inr (Or.inl (⟨(-2), by decide +kernel, by decide, rfl⟩))
theorem eX10_check_21 : xD mX10_check 21 (.ireturn) 1 22 := ⟨by decide +kernel, rfl⟩
theorem eX10_check_22 : x_aload mX10_check 22 0 23 := Or.inl ⟨0, by decide +kernel, rfl, rfl⟩
set_option maxRecDepth 20000 in
theorem eX10_check_23 : xCV mX10_check 23 mX10_known 0 10 26 := ⟨173, by decide +kernel, rfl, ⟨cm_X10_173.1, cm_X10_173.2.1, cm_X10_173.2.2.1, cm_X10_173.2.2.2.1, cm_X10_173.2.2.2.2⟩, xT_5 9 rfl rfl, xT_0 36 rfl rfl, _, rfl, rfl⟩
theorem eX10_check_26 : x_aload mX10_check 26 0 27 := Or.inl ⟨0, by decide +kernel, rfl, rfl⟩
theorem eX10_check_27 : xGF mX10_check 27 10 9 30 := ⟨25, _, _, by decide +kernel, rfl, fl_X10_25⟩
theorem eX10_check_30 : xK mX10_check 30 (nI 7) 32 := Or.inr (Or.inl (⟨7, by decide +kernel, by decide, rfl⟩))
theorem eX10_check_32 : x_iload mX10_check 32 1 33 := Or.inl ⟨1, by decide +kernel, rfl, rfl⟩
theorem eX10_check_33 : xD mX10_check 33 (.iadd) 1 34 := ⟨by decide +kernel, rfl⟩
theorem eX10_check_34 : xD mX10_check 34 (.iaload) 1 35 := ⟨by decide +kernel, rfl⟩
theorem eX10_check_35 : x_istore mX10_check 35 2 36 := Or.inl ⟨2, by decide +kernel, rfl, rfl⟩
theorem eX10_check_36 : x_aload mX10_check 36 0 37 := Or.inl ⟨0, by decide +kernel, rfl, rfl⟩
theorem eX10_check_37 : xK mX10_check 37 (nI 0) 38 := Or.inl (⟨0, by decide +kernel, by decide, rfl⟩)
theorem eX10_check_38 : x_iload mX10_check 38 1 39 := Or.inl ⟨1, by decide +kernel, rfl, rfl⟩
set_option maxRecDepth 20000 in
theorem eX10_check_39 : xCV mX10_check 39 mX10_checked 2 10 42 := ⟨182, by decide +kernel, rfl, ⟨cm_X10_182.1, cm_X10_182.2.1, cm_X10_182.2.2.1, cm_X10_182.2.2.2.1, cm_X10_182.2.2.2.2⟩, xT_5 29 rfl rfl, xT_0 40 rfl rfl, _, rfl, rfl⟩
theorem eX10_check_42 : x_aload mX10_check 42 0 43 := Or.inl ⟨0, by decide +kernel, rfl, rfl⟩
theorem eX10_check_43 : xGF mX10_check 43 10 9 46 := ⟨25, _, _, by decide +kernel, rfl, fl_X10_25⟩
theorem eX10_check_46 : x_iload mX10_check 46 1 47 := Or.inl ⟨1, by decide +kernel, rfl, rfl⟩
theorem eX10_check_47 : xD mX10_check 47 (.iaload) 1 48 := ⟨by decide +kernel, rfl⟩
theorem eX10_check_48 : x_iload mX10_check 48 2 49 := Or.inl ⟨2, by decide +kernel, rfl, rfl⟩
theorem eX10_check_49 : xD mX10_check 49 (.isub) 1 50 := ⟨by decide +kernel, rfl⟩
theorem eX10_check_50 : xK mX10_check 50 (nI 500) 53 := Or.inr (Or.inr (Or.inl (⟨500, by decide +kernel, by decide, rfl⟩)))
theorem eX10_check_53 : xD mX10_check 53 (.iadd) 1 54 := ⟨by decide +kernel, rfl⟩
theorem eX10_check_54 : xD mX10_check 54 (.ireturn) 1 55 := ⟨by decide +kernel, rfl⟩
theorem eX10_struck_0 : x_aload mX10_struck 0 0 1 := Or.inl ⟨0, by decide +kernel, rfl, rfl⟩
theorem eX10_struck_1 : xGF mX10_struck 1 10 9 4 := ⟨25, _, _, by decide +kernel, rfl, fl_X10_25⟩
theorem eX10_struck_4 : x_iload mX10_struck 4 1 5 := Or.inl ⟨1, by decide +kernel, rfl, rfl⟩
theorem eX10_struck_5 : xK mX10_struck 5 (nI 14) 7 := Or.inr (Or.inl (⟨14, by decide +kernel, by decide, rfl⟩))
theorem eX10_struck_7 : xD mX10_struck 7 (.iadd) 1 8 := ⟨by decide +kernel, rfl⟩
theorem eX10_struck_8 : xD mX10_struck 8 (.dup2) 1 9 := ⟨by decide +kernel, rfl⟩
theorem eX10_struck_9 : xD mX10_struck 9 (.iaload) 1 10 := ⟨by decide +kernel, rfl⟩
theorem eX10_struck_10 : xK mX10_struck 10 (nI 1) 11 := Or.inl (⟨1, by decide +kernel, by decide, rfl⟩)
theorem eX10_struck_11 : x_iload mX10_struck 11 2 12 := Or.inl ⟨2, by decide +kernel, rfl, rfl⟩
theorem eX10_struck_12 : xD mX10_struck 12 (.ishl) 1 13 := ⟨by decide +kernel, rfl⟩
theorem eX10_struck_13 : xK mX10_struck 13 ((-1)) 14 := Or.inl (⟨(-1), by decide +kernel, by decide, rfl⟩)
theorem eX10_struck_14 : xD mX10_struck 14 (.ixor) 1 15 := ⟨by decide +kernel, rfl⟩
theorem eX10_struck_15 : xD mX10_struck 15 (.iand) 1 16 := ⟨by decide +kernel, rfl⟩
theorem eX10_struck_16 : xD mX10_struck 16 (.iastore) 1 17 := ⟨by decide +kernel, rfl⟩
theorem eX10_struck_17 : x_aload mX10_struck 17 0 18 := Or.inl ⟨0, by decide +kernel, rfl, rfl⟩
theorem eX10_struck_18 : xGF mX10_struck 18 10 9 21 := ⟨25, _, _, by decide +kernel, rfl, fl_X10_25⟩
theorem eX10_struck_21 : x_iload mX10_struck 21 1 22 := Or.inl ⟨1, by decide +kernel, rfl, rfl⟩
theorem eX10_struck_22 : xK mX10_struck 22 (nI 15) 24 := Or.inr (Or.inl (⟨15, by decide +kernel, by decide, rfl⟩))
theorem eX10_struck_24 : xD mX10_struck 24 (.iadd) 1 25 := ⟨by decide +kernel, rfl⟩
theorem eX10_struck_25 : xD mX10_struck 25 (.dup2) 1 26 := ⟨by decide +kernel, rfl⟩
theorem eX10_struck_26 : xD mX10_struck 26 (.iaload) 1 27 := ⟨by decide +kernel, rfl⟩
theorem eX10_struck_27 : xK mX10_struck 27 (nI 1) 28 := Or.inl (⟨1, by decide +kernel, by decide, rfl⟩)
theorem eX10_struck_28 : x_iload mX10_struck 28 2 29 := Or.inl ⟨2, by decide +kernel, rfl, rfl⟩
theorem eX10_struck_29 : xD mX10_struck 29 (.ishl) 1 30 := ⟨by decide +kernel, rfl⟩
theorem eX10_struck_30 : xK mX10_struck 30 ((-1)) 31 := Or.inl (⟨(-1), by decide +kernel, by decide, rfl⟩)
theorem eX10_struck_31 : xD mX10_struck 31 (.ixor) 1 32 := ⟨by decide +kernel, rfl⟩
theorem eX10_struck_32 : xD mX10_struck 32 (.iand) 1 33 := ⟨by decide +kernel, rfl⟩
theorem eX10_struck_33 : xD mX10_struck 33 (.iastore) 1 34 := ⟨by decide +kernel, rfl⟩
theorem eX10_struck_34 : xD mX10_struck 34 (.return_) 1 35 := ⟨by decide +kernel, rfl⟩
theorem eX10_strike_0 : x_aload mX10_strike 0 0 1 := Or.inl ⟨0, by decide +kernel, rfl, rfl⟩
theorem eX10_strike_1 : x_iload mX10_strike 1 1 2 := Or.inl ⟨1, by decide +kernel, rfl, rfl⟩
set_option maxRecDepth 20000 in
theorem eX10_strike_2 : xCV mX10_strike 2 mX10_isVillage 1 10 5 := ⟨157, by decide +kernel, rfl, ⟨cm_X10_157.1, cm_X10_157.2.1, cm_X10_157.2.2.1, cm_X10_157.2.2.2.1, cm_X10_157.2.2.2.2⟩, xT_4 201 rfl rfl, xT_0 28 rfl rfl, _, rfl, rfl⟩
theorem eX10_strike_5 : xJ mX10_strike 5 (.ifCond .ne) 10 8 := ⟨(5), by decide +kernel, by decide, rfl⟩
theorem eX10_strike_8 : xK mX10_strike 8 ((-1)) 9 := Or.inl (⟨(-1), by decide +kernel, by decide, rfl⟩)
theorem eX10_strike_9 : xD mX10_strike 9 (.ireturn) 1 10 := ⟨by decide +kernel, rfl⟩
theorem eX10_strike_10 : x_aload mX10_strike 10 0 11 := Or.inl ⟨0, by decide +kernel, rfl, rfl⟩
theorem eX10_strike_11 : x_iload mX10_strike 11 1 12 := Or.inl ⟨1, by decide +kernel, rfl, rfl⟩
set_option maxRecDepth 20000 in
theorem eX10_strike_12 : xCV mX10_strike 12 mX10_isIn 1 10 15 := ⟨163, by decide +kernel, rfl, ⟨cm_X10_163.1, cm_X10_163.2.1, cm_X10_163.2.2.1, cm_X10_163.2.2.2.1, cm_X10_163.2.2.2.2⟩, xT_4 206 rfl rfl, xT_0 29 rfl rfl, _, rfl, rfl⟩
theorem eX10_strike_15 : xJ mX10_strike 15 (.ifCond .ne) 21 18 := ⟨(6), by decide +kernel, by decide, rfl⟩
theorem eX10_strike_18 : xK mX10_strike 18 ((-2)) 20 := Or.inr (Or.inl (⟨(-2), by decide +kernel, by decide, rfl⟩))
theorem eX10_strike_20 : xD mX10_strike 20 (.ireturn) 1 21 := ⟨by decide +kernel, rfl⟩
theorem eX10_strike_21 : x_aload mX10_strike 21 0 22 := Or.inl ⟨0, by decide +kernel, rfl, rfl⟩
set_option maxRecDepth 20000 in
theorem eX10_strike_22 : xCV mX10_strike 22 mX10_known 0 10 25 := ⟨173, by decide +kernel, rfl, ⟨cm_X10_173.1, cm_X10_173.2.1, cm_X10_173.2.2.1, cm_X10_173.2.2.2.1, cm_X10_173.2.2.2.2⟩, xT_5 9 rfl rfl, xT_0 36 rfl rfl, _, rfl, rfl⟩
theorem eX10_strike_25 : x_aload mX10_strike 25 0 26 := Or.inl ⟨0, by decide +kernel, rfl, rfl⟩
theorem eX10_strike_26 : xK mX10_strike 26 (nI 0) 27 := Or.inl (⟨0, by decide +kernel, by decide, rfl⟩)
theorem eX10_strike_27 : x_iload mX10_strike 27 1 28 := Or.inl ⟨1, by decide +kernel, rfl, rfl⟩
set_option maxRecDepth 20000 in
theorem eX10_strike_28 : xCV mX10_strike 28 mX10_struck 2 10 31 := ⟨185, by decide +kernel, rfl, ⟨cm_X10_185.1, cm_X10_185.2.1, cm_X10_185.2.2.1, cm_X10_185.2.2.2.1, cm_X10_185.2.2.2.2⟩, xT_5 37 rfl rfl, xT_0 41 rfl rfl, _, rfl, rfl⟩
theorem eX10_strike_31 : x_aload mX10_strike 31 0 32 := Or.inl ⟨0, by decide +kernel, rfl, rfl⟩
theorem eX10_strike_32 : xGF mX10_strike 32 10 9 35 := ⟨25, _, _, by decide +kernel, rfl, fl_X10_25⟩
theorem eX10_strike_35 : xK mX10_strike 35 (nI 7) 37 := Or.inr (Or.inl (⟨7, by decide +kernel, by decide, rfl⟩))
theorem eX10_strike_37 : x_iload mX10_strike 37 1 38 := Or.inl ⟨1, by decide +kernel, rfl, rfl⟩
theorem eX10_strike_38 : xD mX10_strike 38 (.iadd) 1 39 := ⟨by decide +kernel, rfl⟩
theorem eX10_strike_39 : xD mX10_strike 39 (.iaload) 1 40 := ⟨by decide +kernel, rfl⟩
theorem eX10_strike_40 : xD mX10_strike 40 (.ireturn) 1 41 := ⟨by decide +kernel, rfl⟩
theorem eX10_undo_0 : x_aload mX10_undo 0 0 1 := Or.inl ⟨0, by decide +kernel, rfl, rfl⟩
theorem eX10_undo_1 : xGF mX10_undo 1 10 10 4 := ⟨127, _, _, by decide +kernel, rfl, fl_X10_127⟩
theorem eX10_undo_4 : xJ mX10_undo 4 (.ifCond .ne) 10 7 := ⟨(6), by decide +kernel, by decide, rfl⟩
theorem eX10_undo_7 : xK mX10_undo 7 ((-2)) 9 := Or.inr (Or.inl (⟨(-2), by decide +kernel, by decide, rfl⟩))
theorem eX10_undo_9 : xD mX10_undo 9 (.ireturn) 1 10 := ⟨by decide +kernel, rfl⟩
theorem eX10_undo_10 : x_aload mX10_undo 10 0 11 := Or.inl ⟨0, by decide +kernel, rfl, rfl⟩
theorem eX10_undo_11 : x_aload mX10_undo 11 0 12 := Or.inl ⟨0, by decide +kernel, rfl, rfl⟩
theorem eX10_undo_12 : xGF mX10_undo 12 10 10 15 := ⟨127, _, _, by decide +kernel, rfl, fl_X10_127⟩
theorem eX10_undo_15 : xK mX10_undo 15 (nI 22) 17 := Or.inr (Or.inl (⟨22, by decide +kernel, by decide, rfl⟩))
theorem eX10_undo_17 : xD mX10_undo 17 (.imul) 1 18 := ⟨by decide +kernel, rfl⟩
theorem eX10_undo_18 : xK mX10_undo 18 (nI 0) 19 := Or.inl (⟨0, by decide +kernel, by decide, rfl⟩)
set_option maxRecDepth 20000 in
theorem eX10_undo_19 : xCV mX10_undo 19 mX10_copied 2 10 22 := ⟨124, by decide +kernel, rfl, ⟨cm_X10_124.1, cm_X10_124.2.1, cm_X10_124.2.2.1, cm_X10_124.2.2.2.1, cm_X10_124.2.2.2.2⟩, xT_4 193 rfl rfl, xT_0 27 rfl rfl, _, rfl, rfl⟩
theorem eX10_undo_22 : x_aload mX10_undo 22 0 23 := Or.inl ⟨0, by decide +kernel, rfl, rfl⟩
theorem eX10_undo_23 : xD mX10_undo 23 (.dup) 1 24 := ⟨by decide +kernel, rfl⟩
theorem eX10_undo_24 : xGF mX10_undo 24 10 10 27 := ⟨127, _, _, by decide +kernel, rfl, fl_X10_127⟩
theorem eX10_undo_27 : xK mX10_undo 27 (nI 1) 28 := Or.inl (⟨1, by decide +kernel, by decide, rfl⟩)
theorem eX10_undo_28 : xD mX10_undo 28 (.isub) 1 29 := ⟨by decide +kernel, rfl⟩
theorem eX10_undo_29 : xPF mX10_undo 29 10 10 (.int) 32 := ⟨127, _, by decide +kernel, rfl, fl_X10_127, fun h => by cases h⟩
theorem eX10_undo_32 : x_aload mX10_undo 32 0 33 := Or.inl ⟨0, by decide +kernel, rfl, rfl⟩
theorem eX10_undo_33 : xGF mX10_undo 33 10 10 36 := ⟨127, _, _, by decide +kernel, rfl, fl_X10_127⟩
theorem eX10_undo_36 : xD mX10_undo 36 (.ireturn) 1 37 := ⟨by decide +kernel, rfl⟩
theorem eX10_rest_0 : xK mX10_rest 0 (nI 1) 1 := Or.inl (⟨1, by decide +kernel, by decide, rfl⟩)
theorem eX10_rest_1 : x_aload mX10_rest 1 0 2 := Or.inl ⟨0, by decide +kernel, rfl, rfl⟩
theorem eX10_rest_2 : xGF mX10_rest 2 10 0 5 := ⟨71, _, _, by decide +kernel, rfl, fl_X10_71⟩
theorem eX10_rest_5 : xD mX10_rest 5 (.ishl) 1 6 := ⟨by decide +kernel, rfl⟩
theorem eX10_rest_6 : xK mX10_rest 6 (nI 1) 7 := Or.inl (⟨1, by decide +kernel, by decide, rfl⟩)
theorem eX10_rest_7 : xD mX10_rest 7 (.isub) 1 8 := ⟨by decide +kernel, rfl⟩
theorem eX10_rest_8 : x_aload mX10_rest 8 0 9 := Or.inl ⟨0, by decide +kernel, rfl, rfl⟩
theorem eX10_rest_9 : xGF mX10_rest 9 10 9 12 := ⟨25, _, _, by decide +kernel, rfl, fl_X10_25⟩
theorem eX10_rest_12 : xK mX10_rest 12 (nI 14) 14 := Or.inr (Or.inl (⟨14, by decide +kernel, by decide, rfl⟩))
theorem eX10_rest_14 : xD mX10_rest 14 (.iaload) 1 15 := ⟨by decide +kernel, rfl⟩
theorem eX10_rest_15 : xK mX10_rest 15 ((-1)) 16 := Or.inl (⟨(-1), by decide +kernel, by decide, rfl⟩)
theorem eX10_rest_16 : xD mX10_rest 16 (.ixor) 1 17 := ⟨by decide +kernel, rfl⟩
theorem eX10_rest_17 : xD mX10_rest 17 (.iand) 1 18 := ⟨by decide +kernel, rfl⟩
theorem eX10_rest_18 : xD mX10_rest 18 (.ireturn) 1 19 := ⟨by decide +kernel, rfl⟩
theorem eX10_routes_0 : xK mX10_routes 0 (nI 0) 1 := Or.inl (⟨0, by decide +kernel, by decide, rfl⟩)
theorem eX10_routes_1 : x_istore mX10_routes 1 2 2 := Or.inl ⟨2, by decide +kernel, rfl, rfl⟩
theorem eX10_routes_2 : x_iload mX10_routes 2 2 3 := Or.inl ⟨2, by decide +kernel, rfl, rfl⟩
theorem eX10_routes_3 : xK mX10_routes 3 (nI 1) 4 := Or.inl (⟨1, by decide +kernel, by decide, rfl⟩)
theorem eX10_routes_4 : x_aload mX10_routes 4 0 5 := Or.inl ⟨0, by decide +kernel, rfl, rfl⟩
theorem eX10_routes_5 : xGF mX10_routes 5 10 0 8 := ⟨71, _, _, by decide +kernel, rfl, fl_X10_71⟩
theorem eX10_routes_8 : xD mX10_routes 8 (.ishl) 1 9 := ⟨by decide +kernel, rfl⟩
theorem eX10_routes_9 : xJ mX10_routes 9 (.if_icmp .ge) 219 12 := ⟨(210), by decide +kernel, by decide, rfl⟩
theorem eX10_routes_12 : x_iload mX10_routes 12 2 13 := Or.inl ⟨2, by decide +kernel, rfl, rfl⟩
theorem eX10_routes_13 : xJ mX10_routes 13 (.ifCond .ne) 20 16 := ⟨(7), by decide +kernel, by decide, rfl⟩
theorem eX10_routes_16 : xK mX10_routes 16 (nI 0) 17 := Or.inl (⟨0, by decide +kernel, by decide, rfl⟩)
theorem eX10_routes_17 : xJ mX10_routes 17 (.goto) 23 20 := ⟨(6), by decide +kernel, by decide, rfl⟩
theorem eX10_routes_20 : xK mX10_routes 20 (nI 9999) 23 := Or.inr (Or.inr (Or.inl (⟨9999, by decide +kernel, by decide, rfl⟩)))
theorem eX10_routes_23 : x_istore mX10_routes 23 3 24 := Or.inl ⟨3, by decide +kernel, rfl, rfl⟩
theorem eX10_routes_24 : xK mX10_routes 24 (nI 0) 25 := Or.inl (⟨0, by decide +kernel, by decide, rfl⟩)
theorem eX10_routes_25 : x_istore mX10_routes 25 4 27 := Or.inr ⟨by decide +kernel, rfl⟩
theorem eX10_routes_27 : x_iload mX10_routes 27 4 29 := Or.inr ⟨by decide +kernel, rfl⟩
theorem eX10_routes_29 : x_aload mX10_routes 29 0 30 := Or.inl ⟨0, by decide +kernel, rfl, rfl⟩
theorem eX10_routes_30 : xGF mX10_routes 30 10 0 33 := ⟨71, _, _, by decide +kernel, rfl, fl_X10_71⟩
theorem eX10_routes_33 : xJ mX10_routes 33 (.if_icmp .ge) 200 36 := ⟨(167), by decide +kernel, by decide, rfl⟩
theorem eX10_routes_36 : x_iload mX10_routes 36 2 37 := Or.inl ⟨2, by decide +kernel, rfl, rfl⟩
theorem eX10_routes_37 : x_iload mX10_routes 37 4 39 := Or.inr ⟨by decide +kernel, rfl⟩
set_option maxRecDepth 20000 in
theorem eX10_routes_39 : xCS mX10_routes 39 mX10_has 2 42 := ⟨144, by decide +kernel, rfl, ⟨cm_X10_144.1, cm_X10_144.2.1, cm_X10_144.2.2.1, cm_X10_144.2.2.2.1, cm_X10_144.2.2.2.2⟩, xT_4 209 rfl rfl⟩
theorem eX10_routes_42 : xJ mX10_routes 42 (.ifCond .eq) 194 45 := ⟨(152), by decide +kernel, by decide, rfl⟩
theorem eX10_routes_45 : x_iload mX10_routes 45 2 46 := Or.inl ⟨2, by decide +kernel, rfl, rfl⟩
theorem eX10_routes_46 : xK mX10_routes 46 (nI 1) 47 := Or.inl (⟨1, by decide +kernel, by decide, rfl⟩)
theorem eX10_routes_47 : x_iload mX10_routes 47 4 49 := Or.inr ⟨by decide +kernel, rfl⟩
theorem eX10_routes_49 : xD mX10_routes 49 (.ishl) 1 50 := ⟨by decide +kernel, rfl⟩
theorem eX10_routes_50 : xK mX10_routes 50 ((-1)) 51 := Or.inl (⟨(-1), by decide +kernel, by decide, rfl⟩)
theorem eX10_routes_51 : xD mX10_routes 51 (.ixor) 1 52 := ⟨by decide +kernel, rfl⟩
theorem eX10_routes_52 : xD mX10_routes 52 (.iand) 1 53 := ⟨by decide +kernel, rfl⟩
theorem eX10_routes_53 : x_istore mX10_routes 53 5 55 := Or.inr ⟨by decide +kernel, rfl⟩
theorem eX10_routes_55 : x_iload mX10_routes 55 5 57 := Or.inr ⟨by decide +kernel, rfl⟩
theorem eX10_routes_57 : xJ mX10_routes 57 (.ifCond .ne) 83 60 := ⟨(26), by decide +kernel, by decide, rfl⟩
theorem eX10_routes_60 : x_aload mX10_routes 60 0 61 := Or.inl ⟨0, by decide +kernel, rfl, rfl⟩
theorem eX10_routes_61 : xGF mX10_routes 61 10 4 64 := ⟨16, _, _, by decide +kernel, rfl, fl_X10_16⟩
theorem eX10_routes_64 : xK mX10_routes 64 (nI 7) 66 := Or.inr (Or.inl (⟨7, by decide +kernel, by decide, rfl⟩))
theorem eX10_routes_66 : x_aload mX10_routes 66 0 67 := Or.inl ⟨0, by decide +kernel, rfl, rfl⟩
theorem eX10_routes_67 : xGF mX10_routes 67 10 9 70 := ⟨25, _, _, by decide +kernel, rfl, fl_X10_25⟩
theorem eX10_routes_70 : xK mX10_routes 70 (nI 16) 72 := Or.inr (Or.inl (⟨16, by decide +kernel, by decide, rfl⟩))
theorem eX10_routes_72 : x_iload mX10_routes 72 1 73 := Or.inl ⟨1, by decide +kernel, rfl, rfl⟩
theorem eX10_routes_73 : xD mX10_routes 73 (.iadd) 1 74 := ⟨by decide +kernel, rfl⟩
theorem eX10_routes_74 : xD mX10_routes 74 (.iaload) 1 75 := ⟨by decide +kernel, rfl⟩
theorem eX10_routes_75 : xD mX10_routes 75 (.imul) 1 76 := ⟨by decide +kernel, rfl⟩
theorem eX10_routes_76 : x_iload mX10_routes 76 4 78 := Or.inr ⟨by decide +kernel, rfl⟩
theorem eX10_routes_78 : xD mX10_routes 78 (.iadd) 1 79 := ⟨by decide +kernel, rfl⟩
theorem eX10_routes_79 : xD mX10_routes 79 (.iaload) 1 80 := ⟨by decide +kernel, rfl⟩
theorem eX10_routes_80 : xJ mX10_routes 80 (.goto) 86 83 := ⟨(6), by decide +kernel, by decide, rfl⟩
theorem eX10_routes_83 : xK mX10_routes 83 (nI 9999) 86 := Or.inr (Or.inr (Or.inl (⟨9999, by decide +kernel, by decide, rfl⟩)))
theorem eX10_routes_86 : x_istore mX10_routes 86 6 88 := Or.inr ⟨by decide +kernel, rfl⟩
theorem eX10_routes_88 : xK mX10_routes 88 (nI 0) 89 := Or.inl (⟨0, by decide +kernel, by decide, rfl⟩)
theorem eX10_routes_89 : x_istore mX10_routes 89 7 91 := Or.inr ⟨by decide +kernel, rfl⟩
theorem eX10_routes_91 : x_iload mX10_routes 91 7 93 := Or.inr ⟨by decide +kernel, rfl⟩
theorem eX10_routes_93 : x_aload mX10_routes 93 0 94 := Or.inl ⟨0, by decide +kernel, rfl, rfl⟩
theorem eX10_routes_94 : xGF mX10_routes 94 10 0 97 := ⟨71, _, _, by decide +kernel, rfl, fl_X10_71⟩
theorem eX10_routes_97 : xJ mX10_routes 97 (.if_icmp .ge) 155 100 := ⟨(58), by decide +kernel, by decide, rfl⟩
theorem eX10_routes_100 : x_iload mX10_routes 100 5 102 := Or.inr ⟨by decide +kernel, rfl⟩
theorem eX10_routes_102 : x_iload mX10_routes 102 7 104 := Or.inr ⟨by decide +kernel, rfl⟩
set_option maxRecDepth 20000 in
theorem eX10_routes_104 : xCS mX10_routes 104 mX10_has 2 107 := ⟨144, by decide +kernel, rfl, ⟨cm_X10_144.1, cm_X10_144.2.1, cm_X10_144.2.2.1, cm_X10_144.2.2.2.1, cm_X10_144.2.2.2.2⟩, xT_4 209 rfl rfl⟩
theorem eX10_routes_107 : xJ mX10_routes 107 (.ifCond .eq) 145 110 := ⟨(38), by decide +kernel, by decide, rfl⟩
theorem eX10_routes_110 : x_iload mX10_routes 110 6 112 := Or.inr ⟨by decide +kernel, rfl⟩
theorem eX10_routes_112 : x_aload mX10_routes 112 0 113 := Or.inl ⟨0, by decide +kernel, rfl, rfl⟩
theorem eX10_routes_113 : xGF mX10_routes 113 10 20 116 := ⟨38, _, _, by decide +kernel, rfl, fl_X10_38⟩
theorem eX10_routes_116 : xK mX10_routes 116 (nI 7) 118 := Or.inr (Or.inl (⟨7, by decide +kernel, by decide, rfl⟩))
theorem eX10_routes_118 : x_iload mX10_routes 118 5 120 := Or.inr ⟨by decide +kernel, rfl⟩
theorem eX10_routes_120 : xD mX10_routes 120 (.imul) 1 121 := ⟨by decide +kernel, rfl⟩
theorem eX10_routes_121 : x_iload mX10_routes 121 7 123 := Or.inr ⟨by decide +kernel, rfl⟩
theorem eX10_routes_123 : xD mX10_routes 123 (.iadd) 1 124 := ⟨by decide +kernel, rfl⟩
theorem eX10_routes_124 : xD mX10_routes 124 (.iaload) 1 125 := ⟨by decide +kernel, rfl⟩
theorem eX10_routes_125 : x_aload mX10_routes 125 0 126 := Or.inl ⟨0, by decide +kernel, rfl, rfl⟩
theorem eX10_routes_126 : xGF mX10_routes 126 10 4 129 := ⟨16, _, _, by decide +kernel, rfl, fl_X10_16⟩
theorem eX10_routes_129 : xK mX10_routes 129 (nI 7) 131 := Or.inr (Or.inl (⟨7, by decide +kernel, by decide, rfl⟩))
theorem eX10_routes_131 : x_iload mX10_routes 131 7 133 := Or.inr ⟨by decide +kernel, rfl⟩
theorem eX10_routes_133 : xD mX10_routes 133 (.imul) 1 134 := ⟨by decide +kernel, rfl⟩
theorem eX10_routes_134 : x_iload mX10_routes 134 4 136 := Or.inr ⟨by decide +kernel, rfl⟩
theorem eX10_routes_136 : xD mX10_routes 136 (.iadd) 1 137 := ⟨by decide +kernel, rfl⟩
theorem eX10_routes_137 : xD mX10_routes 137 (.iaload) 1 138 := ⟨by decide +kernel, rfl⟩
theorem eX10_routes_138 : xD mX10_routes 138 (.iadd) 1 139 := ⟨by decide +kernel, rfl⟩
set_option maxRecDepth 20000 in
theorem eX10_routes_139 : xCS mX10_routes 139 mX10_smaller 2 142 := ⟨77, by decide +kernel, rfl, ⟨cm_X10_77.1, cm_X10_77.2.1, cm_X10_77.2.2.1, cm_X10_77.2.2.2.1, cm_X10_77.2.2.2.2⟩, xT_4 67 rfl rfl⟩
theorem eX10_routes_142 : xJ mX10_routes 142 (.goto) 147 145 := ⟨(5), by decide +kernel, by decide, rfl⟩
theorem eX10_routes_145 : x_iload mX10_routes 145 6 147 := Or.inr ⟨by decide +kernel, rfl⟩
theorem eX10_routes_147 : x_istore mX10_routes 147 6 149 := Or.inr ⟨by decide +kernel, rfl⟩
theorem eX10_routes_149 : xD mX10_routes 149 (.iinc 7 1) 3 152 := ⟨by decide +kernel, rfl⟩
theorem eX10_routes_152 : xJ mX10_routes 152 (.goto) 91 155 := ⟨(-61), by decide +kernel, by decide, rfl⟩
theorem eX10_routes_155 : x_aload mX10_routes 155 0 156 := Or.inl ⟨0, by decide +kernel, rfl, rfl⟩
theorem eX10_routes_156 : xGF mX10_routes 156 10 20 159 := ⟨38, _, _, by decide +kernel, rfl, fl_X10_38⟩
theorem eX10_routes_159 : xK mX10_routes 159 (nI 7) 161 := Or.inr (Or.inl (⟨7, by decide +kernel, by decide, rfl⟩))
theorem eX10_routes_161 : x_iload mX10_routes 161 2 162 := Or.inl ⟨2, by decide +kernel, rfl, rfl⟩
theorem eX10_routes_162 : xD mX10_routes 162 (.imul) 1 163 := ⟨by decide +kernel, rfl⟩
theorem eX10_routes_163 : x_iload mX10_routes 163 4 165 := Or.inr ⟨by decide +kernel, rfl⟩
theorem eX10_routes_165 : xD mX10_routes 165 (.iadd) 1 166 := ⟨by decide +kernel, rfl⟩
theorem eX10_routes_166 : xK mX10_routes 166 (nI 9999) 169 := Or.inr (Or.inr (Or.inl (⟨9999, by decide +kernel, by decide, rfl⟩)))
theorem eX10_routes_169 : x_iload mX10_routes 169 6 171 := Or.inr ⟨by decide +kernel, rfl⟩
theorem eX10_routes_171 : xK mX10_routes 171 (nI 1) 172 := Or.inl (⟨1, by decide +kernel, by decide, rfl⟩)
theorem eX10_routes_172 : xD mX10_routes 172 (.iadd) 1 173 := ⟨by decide +kernel, rfl⟩
set_option maxRecDepth 20000 in
theorem eX10_routes_173 : xCS mX10_routes 173 mX10_smaller 2 176 := ⟨77, by decide +kernel, rfl, ⟨cm_X10_77.1, cm_X10_77.2.1, cm_X10_77.2.2.1, cm_X10_77.2.2.2.1, cm_X10_77.2.2.2.2⟩, xT_4 67 rfl rfl⟩
theorem eX10_routes_176 : xD mX10_routes 176 (.iastore) 1 177 := ⟨by decide +kernel, rfl⟩
theorem eX10_routes_177 : x_iload mX10_routes 177 3 178 := Or.inl ⟨3, by decide +kernel, rfl, rfl⟩
theorem eX10_routes_178 : x_aload mX10_routes 178 0 179 := Or.inl ⟨0, by decide +kernel, rfl, rfl⟩
theorem eX10_routes_179 : xGF mX10_routes 179 10 20 182 := ⟨38, _, _, by decide +kernel, rfl, fl_X10_38⟩
theorem eX10_routes_182 : xK mX10_routes 182 (nI 7) 184 := Or.inr (Or.inl (⟨7, by decide +kernel, by decide, rfl⟩))
theorem eX10_routes_184 : x_iload mX10_routes 184 2 185 := Or.inl ⟨2, by decide +kernel, rfl, rfl⟩
theorem eX10_routes_185 : xD mX10_routes 185 (.imul) 1 186 := ⟨by decide +kernel, rfl⟩
theorem eX10_routes_186 : x_iload mX10_routes 186 4 188 := Or.inr ⟨by decide +kernel, rfl⟩
theorem eX10_routes_188 : xD mX10_routes 188 (.iadd) 1 189 := ⟨by decide +kernel, rfl⟩
theorem eX10_routes_189 : xD mX10_routes 189 (.iaload) 1 190 := ⟨by decide +kernel, rfl⟩
set_option maxRecDepth 20000 in
theorem eX10_routes_190 : xCS mX10_routes 190 mX10_smaller 2 193 := ⟨77, by decide +kernel, rfl, ⟨cm_X10_77.1, cm_X10_77.2.1, cm_X10_77.2.2.1, cm_X10_77.2.2.2.1, cm_X10_77.2.2.2.2⟩, xT_4 67 rfl rfl⟩
theorem eX10_routes_193 : x_istore mX10_routes 193 3 194 := Or.inl ⟨3, by decide +kernel, rfl, rfl⟩
theorem eX10_routes_194 : xD mX10_routes 194 (.iinc 4 1) 3 197 := ⟨by decide +kernel, rfl⟩
theorem eX10_routes_197 : xJ mX10_routes 197 (.goto) 27 200 := ⟨(-170), by decide +kernel, by decide, rfl⟩
theorem eX10_routes_200 : x_aload mX10_routes 200 0 201 := Or.inl ⟨0, by decide +kernel, rfl, rfl⟩
theorem eX10_routes_201 : xGF mX10_routes 201 10 21 204 := ⟨41, _, _, by decide +kernel, rfl, fl_X10_41⟩
theorem eX10_routes_204 : xK mX10_routes 204 (nI 128) 207 := Or.inr (Or.inr (Or.inl (⟨128, by decide +kernel, by decide, rfl⟩)))
theorem eX10_routes_207 : x_iload mX10_routes 207 1 208 := Or.inl ⟨1, by decide +kernel, rfl, rfl⟩
theorem eX10_routes_208 : xD mX10_routes 208 (.imul) 1 209 := ⟨by decide +kernel, rfl⟩
theorem eX10_routes_209 : x_iload mX10_routes 209 2 210 := Or.inl ⟨2, by decide +kernel, rfl, rfl⟩
theorem eX10_routes_210 : xD mX10_routes 210 (.iadd) 1 211 := ⟨by decide +kernel, rfl⟩
theorem eX10_routes_211 : x_iload mX10_routes 211 3 212 := Or.inl ⟨3, by decide +kernel, rfl, rfl⟩
theorem eX10_routes_212 : xD mX10_routes 212 (.iastore) 1 213 := ⟨by decide +kernel, rfl⟩
theorem eX10_routes_213 : xD mX10_routes 213 (.iinc 2 1) 3 216 := ⟨by decide +kernel, rfl⟩
theorem eX10_routes_216 : xJ mX10_routes 216 (.goto) 2 219 := ⟨(-214), by decide +kernel, by decide, rfl⟩
theorem eX10_routes_219 : xD mX10_routes 219 (.return_) 1 220 := ⟨by decide +kernel, rfl⟩
theorem eX10_askedBy_0 : x_aload mX10_askedBy 0 0 1 := Or.inl ⟨0, by decide +kernel, rfl, rfl⟩
set_option maxRecDepth 20000 in
theorem eX10_askedBy_1 : xCV mX10_askedBy 1 mX10_rest 0 10 4 := ⟨188, by decide +kernel, rfl, ⟨cm_X10_188.1, cm_X10_188.2.1, cm_X10_188.2.2.1, cm_X10_188.2.2.2.1, cm_X10_188.2.2.2.2⟩, xT_5 50 rfl rfl, xT_0 42 rfl rfl, _, rfl, rfl⟩
theorem eX10_askedBy_4 : x_istore mX10_askedBy 4 3 5 := Or.inl ⟨3, by decide +kernel, rfl, rfl⟩
theorem eX10_askedBy_5 : x_iload mX10_askedBy 5 1 6 := Or.inl ⟨1, by decide +kernel, rfl, rfl⟩
theorem eX10_askedBy_6 : x_istore mX10_askedBy 6 4 8 := Or.inr ⟨by decide +kernel, rfl⟩
theorem eX10_askedBy_8 : x_aload mX10_askedBy 8 0 9 := Or.inl ⟨0, by decide +kernel, rfl, rfl⟩
theorem eX10_askedBy_9 : xGF mX10_askedBy 9 10 0 12 := ⟨71, _, _, by decide +kernel, rfl, fl_X10_71⟩
theorem eX10_askedBy_12 : xK mX10_askedBy 12 (nI 1) 13 := Or.inl (⟨1, by decide +kernel, by decide, rfl⟩)
theorem eX10_askedBy_13 : xD mX10_askedBy 13 (.isub) 1 14 := ⟨by decide +kernel, rfl⟩
theorem eX10_askedBy_14 : x_istore mX10_askedBy 14 5 16 := Or.inr ⟨by decide +kernel, rfl⟩
theorem eX10_askedBy_16 : x_iload mX10_askedBy 16 5 18 := Or.inr ⟨by decide +kernel, rfl⟩
theorem eX10_askedBy_18 : x_iload mX10_askedBy 18 2 19 := Or.inl ⟨2, by decide +kernel, rfl, rfl⟩
theorem eX10_askedBy_19 : xJ mX10_askedBy 19 (.if_icmp .le) 51 22 := ⟨(32), by decide +kernel, by decide, rfl⟩
theorem eX10_askedBy_22 : x_iload mX10_askedBy 22 3 23 := Or.inl ⟨3, by decide +kernel, rfl, rfl⟩
theorem eX10_askedBy_23 : x_iload mX10_askedBy 23 5 25 := Or.inr ⟨by decide +kernel, rfl⟩
set_option maxRecDepth 20000 in
theorem eX10_askedBy_25 : xCS mX10_askedBy 25 mX10_has 2 28 := ⟨144, by decide +kernel, rfl, ⟨cm_X10_144.1, cm_X10_144.2.1, cm_X10_144.2.2.1, cm_X10_144.2.2.2.1, cm_X10_144.2.2.2.2⟩, xT_4 209 rfl rfl⟩
theorem eX10_askedBy_28 : xJ mX10_askedBy 28 (.ifCond .eq) 41 31 := ⟨(13), by decide +kernel, by decide, rfl⟩
theorem eX10_askedBy_31 : x_iload mX10_askedBy 31 4 33 := Or.inr ⟨by decide +kernel, rfl⟩
theorem eX10_askedBy_33 : x_aload mX10_askedBy 33 0 34 := Or.inl ⟨0, by decide +kernel, rfl, rfl⟩
theorem eX10_askedBy_34 : xGF mX10_askedBy 34 10 2 37 := ⟨74, _, _, by decide +kernel, rfl, fl_X10_74⟩
theorem eX10_askedBy_37 : xD mX10_askedBy 37 (.idiv) 1 38 := ⟨by decide +kernel, rfl⟩
theorem eX10_askedBy_38 : xJ mX10_askedBy 38 (.goto) 43 41 := ⟨(5), by decide +kernel, by decide, rfl⟩
theorem eX10_askedBy_41 : x_iload mX10_askedBy 41 4 43 := Or.inr ⟨by decide +kernel, rfl⟩
theorem eX10_askedBy_43 : x_istore mX10_askedBy 43 4 45 := Or.inr ⟨by decide +kernel, rfl⟩
theorem eX10_askedBy_45 : xD mX10_askedBy 45 (.iinc 5 (-1)) 3 48 := ⟨by decide +kernel, rfl⟩
theorem eX10_askedBy_48 : xJ mX10_askedBy 48 (.goto) 16 51 := ⟨(-32), by decide +kernel, by decide, rfl⟩
theorem eX10_askedBy_51 : x_iload mX10_askedBy 51 4 53 := Or.inr ⟨by decide +kernel, rfl⟩
theorem eX10_askedBy_53 : x_aload mX10_askedBy 53 0 54 := Or.inl ⟨0, by decide +kernel, rfl, rfl⟩
theorem eX10_askedBy_54 : xGF mX10_askedBy 54 10 2 57 := ⟨74, _, _, by decide +kernel, rfl, fl_X10_74⟩
theorem eX10_askedBy_57 : xD mX10_askedBy 57 (.irem) 1 58 := ⟨by decide +kernel, rfl⟩
theorem eX10_askedBy_58 : xD mX10_askedBy 58 (.ireturn) 1 59 := ⟨by decide +kernel, rfl⟩
theorem eX10_takes_0 : x_aload mX10_takes 0 0 1 := Or.inl ⟨0, by decide +kernel, rfl, rfl⟩
set_option maxRecDepth 20000 in
theorem eX10_takes_1 : xCV mX10_takes 1 mX10_rest 0 10 4 := ⟨188, by decide +kernel, rfl, ⟨cm_X10_188.1, cm_X10_188.2.1, cm_X10_188.2.2.1, cm_X10_188.2.2.2.1, cm_X10_188.2.2.2.2⟩, xT_5 50 rfl rfl, xT_0 42 rfl rfl, _, rfl, rfl⟩
theorem eX10_takes_4 : x_istore mX10_takes 4 2 5 := Or.inl ⟨2, by decide +kernel, rfl, rfl⟩
theorem eX10_takes_5 : xK mX10_takes 5 (nI 0) 6 := Or.inl (⟨0, by decide +kernel, by decide, rfl⟩)
theorem eX10_takes_6 : x_istore mX10_takes 6 3 7 := Or.inl ⟨3, by decide +kernel, rfl, rfl⟩
theorem eX10_takes_7 : xK mX10_takes 7 (nI 0) 8 := Or.inl (⟨0, by decide +kernel, by decide, rfl⟩)
theorem eX10_takes_8 : x_istore mX10_takes 8 4 10 := Or.inr ⟨by decide +kernel, rfl⟩
theorem eX10_takes_10 : x_iload mX10_takes 10 4 12 := Or.inr ⟨by decide +kernel, rfl⟩
theorem eX10_takes_12 : x_aload mX10_takes 12 0 13 := Or.inl ⟨0, by decide +kernel, rfl, rfl⟩
theorem eX10_takes_13 : xGF mX10_takes 13 10 2 16 := ⟨74, _, _, by decide +kernel, rfl, fl_X10_74⟩
theorem eX10_takes_16 : xJ mX10_takes 16 (.if_icmp .ge) 135 19 := ⟨(119), by decide +kernel, by decide, rfl⟩
theorem eX10_takes_19 : xK mX10_takes 19 (nI 0) 20 := Or.inl (⟨0, by decide +kernel, by decide, rfl⟩)
theorem eX10_takes_20 : x_istore mX10_takes 20 5 22 := Or.inr ⟨by decide +kernel, rfl⟩
theorem eX10_takes_22 : xK mX10_takes 22 (nI 0) 23 := Or.inl (⟨0, by decide +kernel, by decide, rfl⟩)
theorem eX10_takes_23 : x_istore mX10_takes 23 6 25 := Or.inr ⟨by decide +kernel, rfl⟩
theorem eX10_takes_25 : x_iload mX10_takes 25 6 27 := Or.inr ⟨by decide +kernel, rfl⟩
theorem eX10_takes_27 : x_aload mX10_takes 27 0 28 := Or.inl ⟨0, by decide +kernel, rfl, rfl⟩
theorem eX10_takes_28 : xGF mX10_takes 28 10 0 31 := ⟨71, _, _, by decide +kernel, rfl, fl_X10_71⟩
theorem eX10_takes_31 : xJ mX10_takes 31 (.if_icmp .ge) 74 34 := ⟨(43), by decide +kernel, by decide, rfl⟩
theorem eX10_takes_34 : x_iload mX10_takes 34 5 36 := Or.inr ⟨by decide +kernel, rfl⟩
theorem eX10_takes_36 : x_iload mX10_takes 36 2 37 := Or.inl ⟨2, by decide +kernel, rfl, rfl⟩
theorem eX10_takes_37 : x_iload mX10_takes 37 6 39 := Or.inr ⟨by decide +kernel, rfl⟩
set_option maxRecDepth 20000 in
theorem eX10_takes_39 : xCS mX10_takes 39 mX10_has 2 42 := ⟨144, by decide +kernel, rfl, ⟨cm_X10_144.1, cm_X10_144.2.1, cm_X10_144.2.2.1, cm_X10_144.2.2.2.1, cm_X10_144.2.2.2.2⟩, xT_4 209 rfl rfl⟩
theorem eX10_takes_42 : xJ mX10_takes 42 (.ifCond .eq) 64 45 := ⟨(22), by decide +kernel, by decide, rfl⟩
theorem eX10_takes_45 : x_aload mX10_takes 45 0 46 := Or.inl ⟨0, by decide +kernel, rfl, rfl⟩
theorem eX10_takes_46 : x_iload mX10_takes 46 1 47 := Or.inl ⟨1, by decide +kernel, rfl, rfl⟩
theorem eX10_takes_47 : x_iload mX10_takes 47 6 49 := Or.inr ⟨by decide +kernel, rfl⟩
set_option maxRecDepth 20000 in
theorem eX10_takes_49 : xCV mX10_takes 49 mX10_askedBy 2 10 52 := ⟨191, by decide +kernel, rfl, ⟨cm_X10_191.1, cm_X10_191.2.1, cm_X10_191.2.2.1, cm_X10_191.2.2.2.1, cm_X10_191.2.2.2.2⟩, xT_5 63 rfl rfl, xT_0 45 rfl rfl, _, rfl, rfl⟩
theorem eX10_takes_52 : x_iload mX10_takes 52 4 54 := Or.inr ⟨by decide +kernel, rfl⟩
theorem eX10_takes_54 : xJ mX10_takes 54 (.if_icmp .ne) 64 57 := ⟨(10), by decide +kernel, by decide, rfl⟩
theorem eX10_takes_57 : xK mX10_takes 57 (nI 1) 58 := Or.inl (⟨1, by decide +kernel, by decide, rfl⟩)
theorem eX10_takes_58 : x_iload mX10_takes 58 6 60 := Or.inr ⟨by decide +kernel, rfl⟩
theorem eX10_takes_60 : xD mX10_takes 60 (.ishl) 1 61 := ⟨by decide +kernel, rfl⟩
theorem eX10_takes_61 : xJ mX10_takes 61 (.goto) 65 64 := ⟨(4), by decide +kernel, by decide, rfl⟩
theorem eX10_takes_64 : xK mX10_takes 64 (nI 0) 65 := Or.inl (⟨0, by decide +kernel, by decide, rfl⟩)
theorem eX10_takes_65 : xD mX10_takes 65 (.ior) 1 66 := ⟨by decide +kernel, rfl⟩
theorem eX10_takes_66 : x_istore mX10_takes 66 5 68 := Or.inr ⟨by decide +kernel, rfl⟩
theorem eX10_takes_68 : xD mX10_takes 68 (.iinc 6 1) 3 71 := ⟨by decide +kernel, rfl⟩
theorem eX10_takes_71 : xJ mX10_takes 71 (.goto) 25 74 := ⟨(-46), by decide +kernel, by decide, rfl⟩
theorem eX10_takes_74 : x_iload mX10_takes 74 3 75 := Or.inl ⟨3, by decide +kernel, rfl, rfl⟩
theorem eX10_takes_75 : x_aload mX10_takes 75 0 76 := Or.inl ⟨0, by decide +kernel, rfl, rfl⟩
theorem eX10_takes_76 : xGF mX10_takes 76 10 21 79 := ⟨41, _, _, by decide +kernel, rfl, fl_X10_41⟩
theorem eX10_takes_79 : xK mX10_takes 79 (nI 128) 82 := Or.inr (Or.inr (Or.inl (⟨128, by decide +kernel, by decide, rfl⟩)))
theorem eX10_takes_82 : x_iload mX10_takes 82 4 84 := Or.inr ⟨by decide +kernel, rfl⟩
theorem eX10_takes_84 : xD mX10_takes 84 (.imul) 1 85 := ⟨by decide +kernel, rfl⟩
theorem eX10_takes_85 : x_iload mX10_takes 85 5 87 := Or.inr ⟨by decide +kernel, rfl⟩
theorem eX10_takes_87 : xD mX10_takes 87 (.iadd) 1 88 := ⟨by decide +kernel, rfl⟩
theorem eX10_takes_88 : xD mX10_takes 88 (.iaload) 1 89 := ⟨by decide +kernel, rfl⟩
theorem eX10_takes_89 : xK mX10_takes 89 (nI 9999) 92 := Or.inr (Or.inr (Or.inl (⟨9999, by decide +kernel, by decide, rfl⟩)))
theorem eX10_takes_92 : xJ mX10_takes 92 (.if_icmp .ge) 123 95 := ⟨(31), by decide +kernel, by decide, rfl⟩
theorem eX10_takes_95 : x_aload mX10_takes 95 0 96 := Or.inl ⟨0, by decide +kernel, rfl, rfl⟩
theorem eX10_takes_96 : xGF mX10_takes 96 10 9 99 := ⟨25, _, _, by decide +kernel, rfl, fl_X10_25⟩
theorem eX10_takes_99 : xK mX10_takes 99 (nI 19) 101 := Or.inr (Or.inl (⟨19, by decide +kernel, by decide, rfl⟩))
theorem eX10_takes_101 : x_iload mX10_takes 101 4 103 := Or.inr ⟨by decide +kernel, rfl⟩
theorem eX10_takes_103 : xD mX10_takes 103 (.iadd) 1 104 := ⟨by decide +kernel, rfl⟩
theorem eX10_takes_104 : xD mX10_takes 104 (.iaload) 1 105 := ⟨by decide +kernel, rfl⟩
theorem eX10_takes_105 : x_aload mX10_takes 105 0 106 := Or.inl ⟨0, by decide +kernel, rfl, rfl⟩
theorem eX10_takes_106 : xGF mX10_takes 106 10 21 109 := ⟨41, _, _, by decide +kernel, rfl, fl_X10_41⟩
theorem eX10_takes_109 : xK mX10_takes 109 (nI 128) 112 := Or.inr (Or.inr (Or.inl (⟨128, by decide +kernel, by decide, rfl⟩)))
theorem eX10_takes_112 : x_iload mX10_takes 112 4 114 := Or.inr ⟨by decide +kernel, rfl⟩
theorem eX10_takes_114 : xD mX10_takes 114 (.imul) 1 115 := ⟨by decide +kernel, rfl⟩
theorem eX10_takes_115 : x_iload mX10_takes 115 5 117 := Or.inr ⟨by decide +kernel, rfl⟩
theorem eX10_takes_117 : xD mX10_takes 117 (.iadd) 1 118 := ⟨by decide +kernel, rfl⟩
theorem eX10_takes_118 : xD mX10_takes 118 (.iaload) 1 119 := ⟨by decide +kernel, rfl⟩
theorem eX10_takes_119 : xD mX10_takes 119 (.iadd) 1 120 := ⟨by decide +kernel, rfl⟩
theorem eX10_takes_120 : xJ mX10_takes 120 (.goto) 125 123 := ⟨(5), by decide +kernel, by decide, rfl⟩
set_option maxRecDepth 20000 in
theorem eX10_takes_123 : xK mX10_takes 123 (nI 89991) 125 := Or.inr (Or.inr (Or.inr (Or.inl (⟨194, by decide +kernel, xT_5 56 rfl rfl, rfl⟩))))
set_option maxRecDepth 20000 in
theorem eX10_takes_125 : xCS mX10_takes 125 mX10_larger 2 128 := ⟨195, by decide +kernel, rfl, ⟨cm_X10_195.1, cm_X10_195.2.1, cm_X10_195.2.2.1, cm_X10_195.2.2.2.1, cm_X10_195.2.2.2.2⟩, xT_5 66 rfl rfl⟩
theorem eX10_takes_128 : x_istore mX10_takes 128 3 129 := Or.inl ⟨3, by decide +kernel, rfl, rfl⟩
theorem eX10_takes_129 : xD mX10_takes 129 (.iinc 4 1) 3 132 := ⟨by decide +kernel, rfl⟩
theorem eX10_takes_132 : xJ mX10_takes 132 (.goto) 10 135 := ⟨(-122), by decide +kernel, by decide, rfl⟩
theorem eX10_takes_135 : x_iload mX10_takes 135 3 136 := Or.inl ⟨3, by decide +kernel, rfl, rfl⟩
theorem eX10_takes_136 : xD mX10_takes 136 (.ireturn) 1 137 := ⟨by decide +kernel, rfl⟩
theorem eX10_soonest_0 : x_iload mX10_soonest 0 1 1 := Or.inl ⟨1, by decide +kernel, rfl, rfl⟩
theorem eX10_soonest_1 : xD mX10_soonest 1 (.i2l) 1 2 := ⟨by decide +kernel, rfl⟩
set_option maxRecDepth 20000 in
theorem eX10_soonest_2 : xKL mX10_soonest 2 (-1) 5 := Or.inr ⟨198, by decide +kernel, xT_5 47 rfl rfl, rfl⟩
theorem eX10_soonest_5 : x_aload mX10_soonest 5 0 6 := Or.inl ⟨0, by decide +kernel, rfl, rfl⟩
theorem eX10_soonest_6 : xGF mX10_soonest 6 10 0 9 := ⟨71, _, _, by decide +kernel, rfl, fl_X10_71⟩
theorem eX10_soonest_9 : xK mX10_soonest 9 (nI 1) 10 := Or.inl (⟨1, by decide +kernel, by decide, rfl⟩)
theorem eX10_soonest_10 : xD mX10_soonest 10 (.isub) 1 11 := ⟨by decide +kernel, rfl⟩
theorem eX10_soonest_11 : xD mX10_soonest 11 (.i2l) 1 12 := ⟨by decide +kernel, rfl⟩
set_option maxRecDepth 20000 in
theorem eX10_soonest_12 : xCS mX10_soonest 12 mX10_in 3 15 := ⟨81, by decide +kernel, rfl, ⟨cm_X10_81.1, cm_X10_81.2.1, cm_X10_81.2.2.1, cm_X10_81.2.2.2.1, cm_X10_81.2.2.2.2⟩, xT_4 155 rfl rfl⟩
theorem eX10_soonest_15 : xJ mX10_soonest 15 (.ifCond .ne) 20 18 := ⟨(5), by decide +kernel, by decide, rfl⟩
theorem eX10_soonest_18 : xK mX10_soonest 18 ((-1)) 19 := Or.inl (⟨(-1), by decide +kernel, by decide, rfl⟩)
theorem eX10_soonest_19 : xD mX10_soonest 19 (.ireturn) 1 20 := ⟨by decide +kernel, rfl⟩
theorem eX10_soonest_20 : xK mX10_soonest 20 (nI 1) 21 := Or.inl (⟨1, by decide +kernel, by decide, rfl⟩)
theorem eX10_soonest_21 : x_istore mX10_soonest 21 2 22 := Or.inl ⟨2, by decide +kernel, rfl, rfl⟩
theorem eX10_soonest_22 : xK mX10_soonest 22 (nI 0) 23 := Or.inl (⟨0, by decide +kernel, by decide, rfl⟩)
theorem eX10_soonest_23 : x_istore mX10_soonest 23 3 24 := Or.inl ⟨3, by decide +kernel, rfl, rfl⟩
theorem eX10_soonest_24 : x_iload mX10_soonest 24 3 25 := Or.inl ⟨3, by decide +kernel, rfl, rfl⟩
theorem eX10_soonest_25 : x_aload mX10_soonest 25 0 26 := Or.inl ⟨0, by decide +kernel, rfl, rfl⟩
theorem eX10_soonest_26 : xGF mX10_soonest 26 10 0 29 := ⟨71, _, _, by decide +kernel, rfl, fl_X10_71⟩
theorem eX10_soonest_29 : xJ mX10_soonest 29 (.if_icmp .ge) 60 32 := ⟨(31), by decide +kernel, by decide, rfl⟩
theorem eX10_soonest_32 : x_iload mX10_soonest 32 2 33 := Or.inl ⟨2, by decide +kernel, rfl, rfl⟩
theorem eX10_soonest_33 : x_aload mX10_soonest 33 0 34 := Or.inl ⟨0, by decide +kernel, rfl, rfl⟩
set_option maxRecDepth 20000 in
theorem eX10_soonest_34 : xCV mX10_soonest 34 mX10_rest 0 10 37 := ⟨188, by decide +kernel, rfl, ⟨cm_X10_188.1, cm_X10_188.2.1, cm_X10_188.2.2.1, cm_X10_188.2.2.2.1, cm_X10_188.2.2.2.2⟩, xT_5 50 rfl rfl, xT_0 42 rfl rfl, _, rfl, rfl⟩
theorem eX10_soonest_37 : x_iload mX10_soonest 37 3 38 := Or.inl ⟨3, by decide +kernel, rfl, rfl⟩
set_option maxRecDepth 20000 in
theorem eX10_soonest_38 : xCS mX10_soonest 38 mX10_has 2 41 := ⟨144, by decide +kernel, rfl, ⟨cm_X10_144.1, cm_X10_144.2.1, cm_X10_144.2.2.1, cm_X10_144.2.2.2.1, cm_X10_144.2.2.2.2⟩, xT_4 209 rfl rfl⟩
theorem eX10_soonest_41 : xJ mX10_soonest 41 (.ifCond .eq) 51 44 := ⟨(10), by decide +kernel, by decide, rfl⟩
theorem eX10_soonest_44 : x_aload mX10_soonest 44 0 45 := Or.inl ⟨0, by decide +kernel, rfl, rfl⟩
theorem eX10_soonest_45 : xGF mX10_soonest 45 10 2 48 := ⟨74, _, _, by decide +kernel, rfl, fl_X10_74⟩
theorem eX10_soonest_48 : xJ mX10_soonest 48 (.goto) 52 51 := ⟨(4), by decide +kernel, by decide, rfl⟩
theorem eX10_soonest_51 : xK mX10_soonest 51 (nI 1) 52 := Or.inl (⟨1, by decide +kernel, by decide, rfl⟩)
theorem eX10_soonest_52 : xD mX10_soonest 52 (.imul) 1 53 := ⟨by decide +kernel, rfl⟩
theorem eX10_soonest_53 : x_istore mX10_soonest 53 2 54 := Or.inl ⟨2, by decide +kernel, rfl, rfl⟩
theorem eX10_soonest_54 : xD mX10_soonest 54 (.iinc 3 1) 3 57 := ⟨by decide +kernel, rfl⟩
theorem eX10_soonest_57 : xJ mX10_soonest 57 (.goto) 24 60 := ⟨(-33), by decide +kernel, by decide, rfl⟩
theorem eX10_soonest_60 : xK mX10_soonest 60 (nI 0) 61 := Or.inl (⟨0, by decide +kernel, by decide, rfl⟩)
theorem eX10_soonest_61 : x_istore mX10_soonest 61 3 62 := Or.inl ⟨3, by decide +kernel, rfl, rfl⟩
theorem eX10_soonest_62 : x_iload mX10_soonest 62 3 63 := Or.inl ⟨3, by decide +kernel, rfl, rfl⟩
theorem eX10_soonest_63 : x_aload mX10_soonest 63 0 64 := Or.inl ⟨0, by decide +kernel, rfl, rfl⟩
theorem eX10_soonest_64 : xGF mX10_soonest 64 10 2 67 := ⟨74, _, _, by decide +kernel, rfl, fl_X10_74⟩
theorem eX10_soonest_67 : xJ mX10_soonest 67 (.if_icmp .ge) 81 70 := ⟨(14), by decide +kernel, by decide, rfl⟩
theorem eX10_soonest_70 : x_aload mX10_soonest 70 0 71 := Or.inl ⟨0, by decide +kernel, rfl, rfl⟩
theorem eX10_soonest_71 : x_iload mX10_soonest 71 3 72 := Or.inl ⟨3, by decide +kernel, rfl, rfl⟩
set_option maxRecDepth 20000 in
theorem eX10_soonest_72 : xCV mX10_soonest 72 mX10_routes 1 10 75 := ⟨200, by decide +kernel, rfl, ⟨cm_X10_200.1, cm_X10_200.2.1, cm_X10_200.2.2.1, cm_X10_200.2.2.2.1, cm_X10_200.2.2.2.2⟩, xT_5 54 rfl rfl, xT_0 43 rfl rfl, _, rfl, rfl⟩
theorem eX10_soonest_75 : xD mX10_soonest 75 (.iinc 3 1) 3 78 := ⟨by decide +kernel, rfl⟩
theorem eX10_soonest_78 : xJ mX10_soonest 78 (.goto) 62 81 := ⟨(-16), by decide +kernel, by decide, rfl⟩
set_option maxRecDepth 20000 in
theorem eX10_soonest_81 : xK mX10_soonest 81 (nI 89991) 83 := Or.inr (Or.inr (Or.inr (Or.inl (⟨194, by decide +kernel, xT_5 56 rfl rfl, rfl⟩))))
theorem eX10_soonest_83 : x_istore mX10_soonest 83 3 84 := Or.inl ⟨3, by decide +kernel, rfl, rfl⟩
theorem eX10_soonest_84 : xK mX10_soonest 84 (nI 0) 85 := Or.inl (⟨0, by decide +kernel, by decide, rfl⟩)
theorem eX10_soonest_85 : x_istore mX10_soonest 85 4 87 := Or.inr ⟨by decide +kernel, rfl⟩
theorem eX10_soonest_87 : x_iload mX10_soonest 87 4 89 := Or.inr ⟨by decide +kernel, rfl⟩
theorem eX10_soonest_89 : x_iload mX10_soonest 89 2 90 := Or.inl ⟨2, by decide +kernel, rfl, rfl⟩
theorem eX10_soonest_90 : xJ mX10_soonest 90 (.if_icmp .ge) 133 93 := ⟨(43), by decide +kernel, by decide, rfl⟩
theorem eX10_soonest_93 : x_aload mX10_soonest 93 0 94 := Or.inl ⟨0, by decide +kernel, rfl, rfl⟩
theorem eX10_soonest_94 : x_iload mX10_soonest 94 4 96 := Or.inr ⟨by decide +kernel, rfl⟩
set_option maxRecDepth 20000 in
theorem eX10_soonest_96 : xCV mX10_soonest 96 mX10_takes 1 10 99 := ⟨203, by decide +kernel, rfl, ⟨cm_X10_203.1, cm_X10_203.2.1, cm_X10_203.2.2.1, cm_X10_203.2.2.2.1, cm_X10_203.2.2.2.2⟩, xT_5 59 rfl rfl, xT_0 44 rfl rfl, _, rfl, rfl⟩
theorem eX10_soonest_99 : x_istore mX10_soonest 99 5 101 := Or.inr ⟨by decide +kernel, rfl⟩
theorem eX10_soonest_101 : x_aload mX10_soonest 101 0 102 := Or.inl ⟨0, by decide +kernel, rfl, rfl⟩
theorem eX10_soonest_102 : x_iload mX10_soonest 102 5 104 := Or.inr ⟨by decide +kernel, rfl⟩
theorem eX10_soonest_104 : x_iload mX10_soonest 104 3 105 := Or.inl ⟨3, by decide +kernel, rfl, rfl⟩
theorem eX10_soonest_105 : xJ mX10_soonest 105 (.if_icmp .ge) 113 108 := ⟨(8), by decide +kernel, by decide, rfl⟩
theorem eX10_soonest_108 : x_iload mX10_soonest 108 4 110 := Or.inr ⟨by decide +kernel, rfl⟩
theorem eX10_soonest_110 : xJ mX10_soonest 110 (.goto) 117 113 := ⟨(7), by decide +kernel, by decide, rfl⟩
theorem eX10_soonest_113 : x_aload mX10_soonest 113 0 114 := Or.inl ⟨0, by decide +kernel, rfl, rfl⟩
theorem eX10_soonest_114 : xGF mX10_soonest 114 10 22 117 := ⟨206, _, _, by decide +kernel, rfl, fl_X10_206⟩
theorem eX10_soonest_117 : xPF mX10_soonest 117 10 22 (.int) 120 := ⟨206, _, by decide +kernel, rfl, fl_X10_206, fun h => by cases h⟩
theorem eX10_soonest_120 : x_iload mX10_soonest 120 3 121 := Or.inl ⟨3, by decide +kernel, rfl, rfl⟩
theorem eX10_soonest_121 : x_iload mX10_soonest 121 5 123 := Or.inr ⟨by decide +kernel, rfl⟩
set_option maxRecDepth 20000 in
theorem eX10_soonest_123 : xCS mX10_soonest 123 mX10_smaller 2 126 := ⟨77, by decide +kernel, rfl, ⟨cm_X10_77.1, cm_X10_77.2.1, cm_X10_77.2.2.1, cm_X10_77.2.2.2.1, cm_X10_77.2.2.2.2⟩, xT_4 67 rfl rfl⟩
theorem eX10_soonest_126 : x_istore mX10_soonest 126 3 127 := Or.inl ⟨3, by decide +kernel, rfl, rfl⟩
theorem eX10_soonest_127 : xD mX10_soonest 127 (.iinc 4 1) 3 130 := ⟨by decide +kernel, rfl⟩
theorem eX10_soonest_130 : xJ mX10_soonest 130 (.goto) 87 133 := ⟨(-43), by decide +kernel, by decide, rfl⟩
theorem eX10_soonest_133 : x_iload mX10_soonest 133 3 134 := Or.inl ⟨3, by decide +kernel, rfl, rfl⟩
set_option maxRecDepth 20000 in
theorem eX10_soonest_134 : xK mX10_soonest 134 (nI 89991) 136 := Or.inr (Or.inr (Or.inr (Or.inl (⟨194, by decide +kernel, xT_5 56 rfl rfl, rfl⟩))))
theorem eX10_soonest_136 : xJ mX10_soonest 136 (.if_icmp .ne) 144 139 := ⟨(8), by decide +kernel, by decide, rfl⟩
theorem eX10_soonest_139 : xK mX10_soonest 139 ((-4)) 141 := Or.inr (Or.inl (⟨(-4), by decide +kernel, by decide, rfl⟩))
theorem eX10_soonest_141 : xJ mX10_soonest 141 (.goto) 177 144 := ⟨(36), by decide +kernel, by decide, rfl⟩
theorem eX10_soonest_144 : x_iload mX10_soonest 144 1 145 := Or.inl ⟨1, by decide +kernel, rfl, rfl⟩
theorem eX10_soonest_145 : xJ mX10_soonest 145 (.ifCond .ge) 152 148 := ⟨(7), by decide +kernel, by decide, rfl⟩
theorem eX10_soonest_148 : x_iload mX10_soonest 148 3 149 := Or.inl ⟨3, by decide +kernel, rfl, rfl⟩
theorem eX10_soonest_149 : xJ mX10_soonest 149 (.goto) 177 152 := ⟨(28), by decide +kernel, by decide, rfl⟩
theorem eX10_soonest_152 : x_aload mX10_soonest 152 0 153 := Or.inl ⟨0, by decide +kernel, rfl, rfl⟩
set_option maxRecDepth 20000 in
theorem eX10_soonest_153 : xCV mX10_soonest 153 mX10_rest 0 10 156 := ⟨188, by decide +kernel, rfl, ⟨cm_X10_188.1, cm_X10_188.2.1, cm_X10_188.2.2.1, cm_X10_188.2.2.2.1, cm_X10_188.2.2.2.2⟩, xT_5 50 rfl rfl, xT_0 42 rfl rfl, _, rfl, rfl⟩
theorem eX10_soonest_156 : x_iload mX10_soonest 156 1 157 := Or.inl ⟨1, by decide +kernel, rfl, rfl⟩
set_option maxRecDepth 20000 in
theorem eX10_soonest_157 : xCS mX10_soonest 157 mX10_has 2 160 := ⟨144, by decide +kernel, rfl, ⟨cm_X10_144.1, cm_X10_144.2.1, cm_X10_144.2.2.1, cm_X10_144.2.2.2.1, cm_X10_144.2.2.2.2⟩, xT_4 209 rfl rfl⟩
theorem eX10_soonest_160 : xJ mX10_soonest 160 (.ifCond .eq) 175 163 := ⟨(15), by decide +kernel, by decide, rfl⟩
theorem eX10_soonest_163 : x_aload mX10_soonest 163 0 164 := Or.inl ⟨0, by decide +kernel, rfl, rfl⟩
theorem eX10_soonest_164 : x_aload mX10_soonest 164 0 165 := Or.inl ⟨0, by decide +kernel, rfl, rfl⟩
theorem eX10_soonest_165 : xGF mX10_soonest 165 10 22 168 := ⟨206, _, _, by decide +kernel, rfl, fl_X10_206⟩
theorem eX10_soonest_168 : x_iload mX10_soonest 168 1 169 := Or.inl ⟨1, by decide +kernel, rfl, rfl⟩
set_option maxRecDepth 20000 in
theorem eX10_soonest_169 : xCV mX10_soonest 169 mX10_askedBy 2 10 172 := ⟨191, by decide +kernel, rfl, ⟨cm_X10_191.1, cm_X10_191.2.1, cm_X10_191.2.2.1, cm_X10_191.2.2.2.1, cm_X10_191.2.2.2.2⟩, xT_5 63 rfl rfl, xT_0 45 rfl rfl, _, rfl, rfl⟩
theorem eX10_soonest_172 : xJ mX10_soonest 172 (.goto) 177 175 := ⟨(5), by decide +kernel, by decide, rfl⟩
theorem eX10_soonest_175 : xK mX10_soonest 175 ((-4)) 177 := Or.inr (Or.inl (⟨(-4), by decide +kernel, by decide, rfl⟩))
theorem eX10_soonest_177 : xD mX10_soonest 177 (.ireturn) 1 178 := ⟨by decide +kernel, rfl⟩
theorem eX10_lists_0 : x_aload mX10_lists 0 0 1 := Or.inl ⟨0, by decide +kernel, rfl, rfl⟩
theorem eX10_lists_1 : xK mX10_lists 1 (nI 0) 2 := Or.inl (⟨0, by decide +kernel, by decide, rfl⟩)
theorem eX10_lists_2 : xPF mX10_lists 2 10 23 (.int) 5 := ⟨209, _, by decide +kernel, rfl, fl_X10_209, fun h => by cases h⟩
theorem eX10_lists_5 : xK mX10_lists 5 (nI 0) 6 := Or.inl (⟨0, by decide +kernel, by decide, rfl⟩)
theorem eX10_lists_6 : x_istore mX10_lists 6 1 7 := Or.inl ⟨1, by decide +kernel, rfl, rfl⟩
theorem eX10_lists_7 : x_iload mX10_lists 7 1 8 := Or.inl ⟨1, by decide +kernel, rfl, rfl⟩
theorem eX10_lists_8 : x_aload mX10_lists 8 0 9 := Or.inl ⟨0, by decide +kernel, rfl, rfl⟩
theorem eX10_lists_9 : xGF mX10_lists 9 10 0 12 := ⟨71, _, _, by decide +kernel, rfl, fl_X10_71⟩
theorem eX10_lists_12 : xJ mX10_lists 12 (.if_icmp .ge) 49 15 := ⟨(37), by decide +kernel, by decide, rfl⟩
theorem eX10_lists_15 : x_aload mX10_lists 15 0 16 := Or.inl ⟨0, by decide +kernel, rfl, rfl⟩
theorem eX10_lists_16 : x_iload mX10_lists 16 1 17 := Or.inl ⟨1, by decide +kernel, rfl, rfl⟩
set_option maxRecDepth 20000 in
theorem eX10_lists_17 : xCV mX10_lists 17 mX10_isIn 1 10 20 := ⟨163, by decide +kernel, rfl, ⟨cm_X10_163.1, cm_X10_163.2.1, cm_X10_163.2.2.1, cm_X10_163.2.2.2.1, cm_X10_163.2.2.2.2⟩, xT_4 206 rfl rfl, xT_0 29 rfl rfl, _, rfl, rfl⟩
theorem eX10_lists_20 : xJ mX10_lists 20 (.ifCond .ne) 43 23 := ⟨(23), by decide +kernel, by decide, rfl⟩
theorem eX10_lists_23 : x_aload mX10_lists 23 0 24 := Or.inl ⟨0, by decide +kernel, rfl, rfl⟩
theorem eX10_lists_24 : xGF mX10_lists 24 10 24 27 := ⟨44, _, _, by decide +kernel, rfl, fl_X10_44⟩
theorem eX10_lists_27 : x_aload mX10_lists 27 0 28 := Or.inl ⟨0, by decide +kernel, rfl, rfl⟩
theorem eX10_lists_28 : xGF mX10_lists 28 10 23 31 := ⟨209, _, _, by decide +kernel, rfl, fl_X10_209⟩
theorem eX10_lists_31 : x_iload mX10_lists 31 1 32 := Or.inl ⟨1, by decide +kernel, rfl, rfl⟩
theorem eX10_lists_32 : xD mX10_lists 32 (.iastore) 1 33 := ⟨by decide +kernel, rfl⟩
theorem eX10_lists_33 : x_aload mX10_lists 33 0 34 := Or.inl ⟨0, by decide +kernel, rfl, rfl⟩
theorem eX10_lists_34 : xD mX10_lists 34 (.dup) 1 35 := ⟨by decide +kernel, rfl⟩
theorem eX10_lists_35 : xGF mX10_lists 35 10 23 38 := ⟨209, _, _, by decide +kernel, rfl, fl_X10_209⟩
theorem eX10_lists_38 : xK mX10_lists 38 (nI 1) 39 := Or.inl (⟨1, by decide +kernel, by decide, rfl⟩)
theorem eX10_lists_39 : xD mX10_lists 39 (.iadd) 1 40 := ⟨by decide +kernel, rfl⟩
theorem eX10_lists_40 : xPF mX10_lists 40 10 23 (.int) 43 := ⟨209, _, by decide +kernel, rfl, fl_X10_209, fun h => by cases h⟩
theorem eX10_lists_43 : xD mX10_lists 43 (.iinc 1 1) 3 46 := ⟨by decide +kernel, rfl⟩
theorem eX10_lists_46 : xJ mX10_lists 46 (.goto) 7 49 := ⟨(-39), by decide +kernel, by decide, rfl⟩
theorem eX10_lists_49 : xD mX10_lists 49 (.return_) 1 50 := ⟨by decide +kernel, rfl⟩
theorem eX10_swaps_0 : x_aload mX10_swaps 0 0 1 := Or.inl ⟨0, by decide +kernel, rfl, rfl⟩
theorem eX10_swaps_1 : xGF mX10_swaps 1 10 24 4 := ⟨44, _, _, by decide +kernel, rfl, fl_X10_44⟩
theorem eX10_swaps_4 : x_iload mX10_swaps 4 1 5 := Or.inl ⟨1, by decide +kernel, rfl, rfl⟩
theorem eX10_swaps_5 : xD mX10_swaps 5 (.iaload) 1 6 := ⟨by decide +kernel, rfl⟩
theorem eX10_swaps_6 : x_istore mX10_swaps 6 3 7 := Or.inl ⟨3, by decide +kernel, rfl, rfl⟩
theorem eX10_swaps_7 : x_aload mX10_swaps 7 0 8 := Or.inl ⟨0, by decide +kernel, rfl, rfl⟩
theorem eX10_swaps_8 : xGF mX10_swaps 8 10 24 11 := ⟨44, _, _, by decide +kernel, rfl, fl_X10_44⟩
theorem eX10_swaps_11 : x_iload mX10_swaps 11 1 12 := Or.inl ⟨1, by decide +kernel, rfl, rfl⟩
theorem eX10_swaps_12 : x_aload mX10_swaps 12 0 13 := Or.inl ⟨0, by decide +kernel, rfl, rfl⟩
theorem eX10_swaps_13 : xGF mX10_swaps 13 10 24 16 := ⟨44, _, _, by decide +kernel, rfl, fl_X10_44⟩
theorem eX10_swaps_16 : x_iload mX10_swaps 16 2 17 := Or.inl ⟨2, by decide +kernel, rfl, rfl⟩
theorem eX10_swaps_17 : xD mX10_swaps 17 (.iaload) 1 18 := ⟨by decide +kernel, rfl⟩
theorem eX10_swaps_18 : xD mX10_swaps 18 (.iastore) 1 19 := ⟨by decide +kernel, rfl⟩
theorem eX10_swaps_19 : x_aload mX10_swaps 19 0 20 := Or.inl ⟨0, by decide +kernel, rfl, rfl⟩
theorem eX10_swaps_20 : xGF mX10_swaps 20 10 24 23 := ⟨44, _, _, by decide +kernel, rfl, fl_X10_44⟩
theorem eX10_swaps_23 : x_iload mX10_swaps 23 2 24 := Or.inl ⟨2, by decide +kernel, rfl, rfl⟩
theorem eX10_swaps_24 : x_iload mX10_swaps 24 3 25 := Or.inl ⟨3, by decide +kernel, rfl, rfl⟩
theorem eX10_swaps_25 : xD mX10_swaps 25 (.iastore) 1 26 := ⟨by decide +kernel, rfl⟩
theorem eX10_swaps_26 : xD mX10_swaps 26 (.return_) 1 27 := ⟨by decide +kernel, rfl⟩
theorem eX10_goesOn_0 : x_aload mX10_goesOn 0 0 1 := Or.inl ⟨0, by decide +kernel, rfl, rfl⟩
theorem eX10_goesOn_1 : xGF mX10_goesOn 1 10 23 4 := ⟨209, _, _, by decide +kernel, rfl, fl_X10_209⟩
theorem eX10_goesOn_4 : xK mX10_goesOn 4 (nI 2) 5 := Or.inl (⟨2, by decide +kernel, by decide, rfl⟩)
theorem eX10_goesOn_5 : xD mX10_goesOn 5 (.isub) 1 6 := ⟨by decide +kernel, rfl⟩
theorem eX10_goesOn_6 : x_istore mX10_goesOn 6 1 7 := Or.inl ⟨1, by decide +kernel, rfl, rfl⟩
theorem eX10_goesOn_7 : x_iload mX10_goesOn 7 1 8 := Or.inl ⟨1, by decide +kernel, rfl, rfl⟩
theorem eX10_goesOn_8 : xJ mX10_goesOn 8 (.ifCond .lt) 34 11 := ⟨(26), by decide +kernel, by decide, rfl⟩
theorem eX10_goesOn_11 : x_aload mX10_goesOn 11 0 12 := Or.inl ⟨0, by decide +kernel, rfl, rfl⟩
theorem eX10_goesOn_12 : xGF mX10_goesOn 12 10 24 15 := ⟨44, _, _, by decide +kernel, rfl, fl_X10_44⟩
theorem eX10_goesOn_15 : x_iload mX10_goesOn 15 1 16 := Or.inl ⟨1, by decide +kernel, rfl, rfl⟩
theorem eX10_goesOn_16 : xD mX10_goesOn 16 (.iaload) 1 17 := ⟨by decide +kernel, rfl⟩
theorem eX10_goesOn_17 : x_aload mX10_goesOn 17 0 18 := Or.inl ⟨0, by decide +kernel, rfl, rfl⟩
theorem eX10_goesOn_18 : xGF mX10_goesOn 18 10 24 21 := ⟨44, _, _, by decide +kernel, rfl, fl_X10_44⟩
theorem eX10_goesOn_21 : x_iload mX10_goesOn 21 1 22 := Or.inl ⟨1, by decide +kernel, rfl, rfl⟩
theorem eX10_goesOn_22 : xK mX10_goesOn 22 (nI 1) 23 := Or.inl (⟨1, by decide +kernel, by decide, rfl⟩)
theorem eX10_goesOn_23 : xD mX10_goesOn 23 (.iadd) 1 24 := ⟨by decide +kernel, rfl⟩
theorem eX10_goesOn_24 : xD mX10_goesOn 24 (.iaload) 1 25 := ⟨by decide +kernel, rfl⟩
theorem eX10_goesOn_25 : xJ mX10_goesOn 25 (.if_icmp .le) 34 28 := ⟨(9), by decide +kernel, by decide, rfl⟩
theorem eX10_goesOn_28 : xD mX10_goesOn 28 (.iinc 1 (-1)) 3 31 := ⟨by decide +kernel, rfl⟩
theorem eX10_goesOn_31 : xJ mX10_goesOn 31 (.goto) 7 34 := ⟨(-24), by decide +kernel, by decide, rfl⟩
theorem eX10_goesOn_34 : x_iload mX10_goesOn 34 1 35 := Or.inl ⟨1, by decide +kernel, rfl, rfl⟩
theorem eX10_goesOn_35 : xJ mX10_goesOn 35 (.ifCond .ge) 40 38 := ⟨(5), by decide +kernel, by decide, rfl⟩
theorem eX10_goesOn_38 : xK mX10_goesOn 38 (nI 0) 39 := Or.inl (⟨0, by decide +kernel, by decide, rfl⟩)
theorem eX10_goesOn_39 : xD mX10_goesOn 39 (.ireturn) 1 40 := ⟨by decide +kernel, rfl⟩
theorem eX10_goesOn_40 : x_aload mX10_goesOn 40 0 41 := Or.inl ⟨0, by decide +kernel, rfl, rfl⟩
theorem eX10_goesOn_41 : xGF mX10_goesOn 41 10 23 44 := ⟨209, _, _, by decide +kernel, rfl, fl_X10_209⟩
theorem eX10_goesOn_44 : xK mX10_goesOn 44 (nI 1) 45 := Or.inl (⟨1, by decide +kernel, by decide, rfl⟩)
theorem eX10_goesOn_45 : xD mX10_goesOn 45 (.isub) 1 46 := ⟨by decide +kernel, rfl⟩
theorem eX10_goesOn_46 : x_istore mX10_goesOn 46 2 47 := Or.inl ⟨2, by decide +kernel, rfl, rfl⟩
theorem eX10_goesOn_47 : x_aload mX10_goesOn 47 0 48 := Or.inl ⟨0, by decide +kernel, rfl, rfl⟩
theorem eX10_goesOn_48 : xGF mX10_goesOn 48 10 24 51 := ⟨44, _, _, by decide +kernel, rfl, fl_X10_44⟩
theorem eX10_goesOn_51 : x_iload mX10_goesOn 51 2 52 := Or.inl ⟨2, by decide +kernel, rfl, rfl⟩
theorem eX10_goesOn_52 : xD mX10_goesOn 52 (.iaload) 1 53 := ⟨by decide +kernel, rfl⟩
theorem eX10_goesOn_53 : x_aload mX10_goesOn 53 0 54 := Or.inl ⟨0, by decide +kernel, rfl, rfl⟩
theorem eX10_goesOn_54 : xGF mX10_goesOn 54 10 24 57 := ⟨44, _, _, by decide +kernel, rfl, fl_X10_44⟩
theorem eX10_goesOn_57 : x_iload mX10_goesOn 57 1 58 := Or.inl ⟨1, by decide +kernel, rfl, rfl⟩
theorem eX10_goesOn_58 : xD mX10_goesOn 58 (.iaload) 1 59 := ⟨by decide +kernel, rfl⟩
theorem eX10_goesOn_59 : xJ mX10_goesOn 59 (.if_icmp .ge) 68 62 := ⟨(9), by decide +kernel, by decide, rfl⟩
theorem eX10_goesOn_62 : xD mX10_goesOn 62 (.iinc 2 (-1)) 3 65 := ⟨by decide +kernel, rfl⟩
theorem eX10_goesOn_65 : xJ mX10_goesOn 65 (.goto) 47 68 := ⟨(-18), by decide +kernel, by decide, rfl⟩
theorem eX10_goesOn_68 : x_aload mX10_goesOn 68 0 69 := Or.inl ⟨0, by decide +kernel, rfl, rfl⟩
theorem eX10_goesOn_69 : x_iload mX10_goesOn 69 1 70 := Or.inl ⟨1, by decide +kernel, rfl, rfl⟩
theorem eX10_goesOn_70 : x_iload mX10_goesOn 70 2 71 := Or.inl ⟨2, by decide +kernel, rfl, rfl⟩
set_option maxRecDepth 20000 in
theorem eX10_goesOn_71 : xCV mX10_goesOn 71 mX10_swaps 2 10 74 := ⟨212, by decide +kernel, rfl, ⟨cm_X10_212.1, cm_X10_212.2.1, cm_X10_212.2.2.1, cm_X10_212.2.2.2.1, cm_X10_212.2.2.2.2⟩, xT_5 95 rfl rfl, xT_0 51 rfl rfl, _, rfl, rfl⟩
theorem eX10_goesOn_74 : x_iload mX10_goesOn 74 1 75 := Or.inl ⟨1, by decide +kernel, rfl, rfl⟩
theorem eX10_goesOn_75 : xK mX10_goesOn 75 (nI 1) 76 := Or.inl (⟨1, by decide +kernel, by decide, rfl⟩)
theorem eX10_goesOn_76 : xD mX10_goesOn 76 (.iadd) 1 77 := ⟨by decide +kernel, rfl⟩
theorem eX10_goesOn_77 : x_istore mX10_goesOn 77 3 78 := Or.inl ⟨3, by decide +kernel, rfl, rfl⟩
theorem eX10_goesOn_78 : x_aload mX10_goesOn 78 0 79 := Or.inl ⟨0, by decide +kernel, rfl, rfl⟩
theorem eX10_goesOn_79 : xGF mX10_goesOn 79 10 23 82 := ⟨209, _, _, by decide +kernel, rfl, fl_X10_209⟩
theorem eX10_goesOn_82 : xK mX10_goesOn 82 (nI 1) 83 := Or.inl (⟨1, by decide +kernel, by decide, rfl⟩)
theorem eX10_goesOn_83 : xD mX10_goesOn 83 (.isub) 1 84 := ⟨by decide +kernel, rfl⟩
theorem eX10_goesOn_84 : x_istore mX10_goesOn 84 4 86 := Or.inr ⟨by decide +kernel, rfl⟩
theorem eX10_goesOn_86 : x_iload mX10_goesOn 86 3 87 := Or.inl ⟨3, by decide +kernel, rfl, rfl⟩
theorem eX10_goesOn_87 : x_iload mX10_goesOn 87 4 89 := Or.inr ⟨by decide +kernel, rfl⟩
theorem eX10_goesOn_89 : xJ mX10_goesOn 89 (.if_icmp .ge) 108 92 := ⟨(19), by decide +kernel, by decide, rfl⟩
theorem eX10_goesOn_92 : x_aload mX10_goesOn 92 0 93 := Or.inl ⟨0, by decide +kernel, rfl, rfl⟩
theorem eX10_goesOn_93 : x_iload mX10_goesOn 93 3 94 := Or.inl ⟨3, by decide +kernel, rfl, rfl⟩
theorem eX10_goesOn_94 : x_iload mX10_goesOn 94 4 96 := Or.inr ⟨by decide +kernel, rfl⟩
set_option maxRecDepth 20000 in
theorem eX10_goesOn_96 : xCV mX10_goesOn 96 mX10_swaps 2 10 99 := ⟨212, by decide +kernel, rfl, ⟨cm_X10_212.1, cm_X10_212.2.1, cm_X10_212.2.2.1, cm_X10_212.2.2.2.1, cm_X10_212.2.2.2.2⟩, xT_5 95 rfl rfl, xT_0 51 rfl rfl, _, rfl, rfl⟩
theorem eX10_goesOn_99 : xD mX10_goesOn 99 (.iinc 3 1) 3 102 := ⟨by decide +kernel, rfl⟩
theorem eX10_goesOn_102 : xD mX10_goesOn 102 (.iinc 4 (-1)) 3 105 := ⟨by decide +kernel, rfl⟩
theorem eX10_goesOn_105 : xJ mX10_goesOn 105 (.goto) 86 108 := ⟨(-19), by decide +kernel, by decide, rfl⟩
theorem eX10_goesOn_108 : xK mX10_goesOn 108 (nI 1) 109 := Or.inl (⟨1, by decide +kernel, by decide, rfl⟩)
theorem eX10_goesOn_109 : xD mX10_goesOn 109 (.ireturn) 1 110 := ⟨by decide +kernel, rfl⟩
theorem eX10_orders_0 : x_aload mX10_orders 0 0 1 := Or.inl ⟨0, by decide +kernel, rfl, rfl⟩
set_option maxRecDepth 20000 in
theorem eX10_orders_1 : xCV mX10_orders 1 mX10_lists 0 10 4 := ⟨215, by decide +kernel, rfl, ⟨cm_X10_215.1, cm_X10_215.2.1, cm_X10_215.2.2.1, cm_X10_215.2.2.2.1, cm_X10_215.2.2.2.2⟩, xT_5 83 rfl rfl, xT_0 48 rfl rfl, _, rfl, rfl⟩
theorem eX10_orders_4 : xK mX10_orders 4 ((-1)) 5 := Or.inl (⟨(-1), by decide +kernel, by decide, rfl⟩)
theorem eX10_orders_5 : x_istore mX10_orders 5 2 6 := Or.inl ⟨2, by decide +kernel, rfl, rfl⟩
theorem eX10_orders_6 : xK mX10_orders 6 (nI 1) 7 := Or.inl (⟨1, by decide +kernel, by decide, rfl⟩)
theorem eX10_orders_7 : x_istore mX10_orders 7 3 8 := Or.inl ⟨3, by decide +kernel, rfl, rfl⟩
theorem eX10_orders_8 : x_iload mX10_orders 8 3 9 := Or.inl ⟨3, by decide +kernel, rfl, rfl⟩
theorem eX10_orders_9 : xJ mX10_orders 9 (.ifCond .eq) 140 12 := ⟨(131), by decide +kernel, by decide, rfl⟩
theorem eX10_orders_12 : x_aload mX10_orders 12 0 13 := Or.inl ⟨0, by decide +kernel, rfl, rfl⟩
theorem eX10_orders_13 : xK mX10_orders 13 (nI 0) 14 := Or.inl (⟨0, by decide +kernel, by decide, rfl⟩)
theorem eX10_orders_14 : xK mX10_orders 14 (nI 242) 17 := Or.inr (Or.inr (Or.inl (⟨242, by decide +kernel, by decide, rfl⟩)))
set_option maxRecDepth 20000 in
theorem eX10_orders_17 : xCV mX10_orders 17 mX10_copied 2 10 20 := ⟨124, by decide +kernel, rfl, ⟨cm_X10_124.1, cm_X10_124.2.1, cm_X10_124.2.2.1, cm_X10_124.2.2.2.1, cm_X10_124.2.2.2.2⟩, xT_4 193 rfl rfl, xT_0 27 rfl rfl, _, rfl, rfl⟩
theorem eX10_orders_20 : xK mX10_orders 20 (nI 0) 21 := Or.inl (⟨0, by decide +kernel, by decide, rfl⟩)
theorem eX10_orders_21 : x_istore mX10_orders 21 4 23 := Or.inr ⟨by decide +kernel, rfl⟩
theorem eX10_orders_23 : xK mX10_orders 23 (nI 0) 24 := Or.inl (⟨0, by decide +kernel, by decide, rfl⟩)
theorem eX10_orders_24 : x_istore mX10_orders 24 5 26 := Or.inr ⟨by decide +kernel, rfl⟩
theorem eX10_orders_26 : x_iload mX10_orders 26 5 28 := Or.inr ⟨by decide +kernel, rfl⟩
theorem eX10_orders_28 : x_aload mX10_orders 28 0 29 := Or.inl ⟨0, by decide +kernel, rfl, rfl⟩
theorem eX10_orders_29 : xGF mX10_orders 29 10 23 32 := ⟨209, _, _, by decide +kernel, rfl, fl_X10_209⟩
theorem eX10_orders_32 : xJ mX10_orders 32 (.if_icmp .ge) 60 35 := ⟨(28), by decide +kernel, by decide, rfl⟩
theorem eX10_orders_35 : x_iload mX10_orders 35 4 37 := Or.inr ⟨by decide +kernel, rfl⟩
theorem eX10_orders_37 : x_aload mX10_orders 37 0 38 := Or.inl ⟨0, by decide +kernel, rfl, rfl⟩
theorem eX10_orders_38 : xK mX10_orders 38 (nI 242) 41 := Or.inr (Or.inr (Or.inl (⟨242, by decide +kernel, by decide, rfl⟩)))
theorem eX10_orders_41 : x_aload mX10_orders 41 0 42 := Or.inl ⟨0, by decide +kernel, rfl, rfl⟩
theorem eX10_orders_42 : xGF mX10_orders 42 10 24 45 := ⟨44, _, _, by decide +kernel, rfl, fl_X10_44⟩
theorem eX10_orders_45 : x_iload mX10_orders 45 5 47 := Or.inr ⟨by decide +kernel, rfl⟩
theorem eX10_orders_47 : xD mX10_orders 47 (.iaload) 1 48 := ⟨by decide +kernel, rfl⟩
set_option maxRecDepth 20000 in
theorem eX10_orders_48 : xCV mX10_orders 48 mX10_writes 2 10 51 := ⟨166, by decide +kernel, rfl, ⟨cm_X10_166.1, cm_X10_166.2.1, cm_X10_166.2.2.1, cm_X10_166.2.2.2.1, cm_X10_166.2.2.2.2⟩, xT_5 17 rfl rfl, xT_0 38 rfl rfl, _, rfl, rfl⟩
theorem eX10_orders_51 : xD mX10_orders 51 (.iadd) 1 52 := ⟨by decide +kernel, rfl⟩
theorem eX10_orders_52 : x_istore mX10_orders 52 4 54 := Or.inr ⟨by decide +kernel, rfl⟩
theorem eX10_orders_54 : xD mX10_orders 54 (.iinc 5 1) 3 57 := ⟨by decide +kernel, rfl⟩
theorem eX10_orders_57 : xJ mX10_orders 57 (.goto) 26 60 := ⟨(-31), by decide +kernel, by decide, rfl⟩
theorem eX10_orders_60 : x_aload mX10_orders 60 0 61 := Or.inl ⟨0, by decide +kernel, rfl, rfl⟩
theorem eX10_orders_61 : xK mX10_orders 61 (nI 242) 64 := Or.inr (Or.inr (Or.inl (⟨242, by decide +kernel, by decide, rfl⟩)))
set_option maxRecDepth 20000 in
theorem eX10_orders_64 : xCV mX10_orders 64 mX10_found 1 10 67 := ⟨218, by decide +kernel, rfl, ⟨cm_X10_218.1, cm_X10_218.2.1, cm_X10_218.2.2.1, cm_X10_218.2.2.2.1, cm_X10_218.2.2.2.2⟩, xT_5 87 rfl rfl, xT_0 49 rfl rfl, _, rfl, rfl⟩
theorem eX10_orders_67 : x_istore mX10_orders 67 5 69 := Or.inr ⟨by decide +kernel, rfl⟩
theorem eX10_orders_69 : x_iload mX10_orders 69 4 71 := Or.inr ⟨by decide +kernel, rfl⟩
theorem eX10_orders_71 : xJ mX10_orders 71 (.ifCond .lt) 132 74 := ⟨(61), by decide +kernel, by decide, rfl⟩
theorem eX10_orders_74 : x_iload mX10_orders 74 2 75 := Or.inl ⟨2, by decide +kernel, rfl, rfl⟩
theorem eX10_orders_75 : xJ mX10_orders 75 (.ifCond .lt) 97 78 := ⟨(22), by decide +kernel, by decide, rfl⟩
theorem eX10_orders_78 : x_iload mX10_orders 78 1 79 := Or.inl ⟨1, by decide +kernel, rfl, rfl⟩
theorem eX10_orders_79 : xJ mX10_orders 79 (.ifCond .eq) 91 82 := ⟨(12), by decide +kernel, by decide, rfl⟩
theorem eX10_orders_82 : x_iload mX10_orders 82 5 84 := Or.inr ⟨by decide +kernel, rfl⟩
theorem eX10_orders_84 : x_iload mX10_orders 84 2 85 := Or.inl ⟨2, by decide +kernel, rfl, rfl⟩
theorem eX10_orders_85 : xJ mX10_orders 85 (.if_icmp .le) 132 88 := ⟨(47), by decide +kernel, by decide, rfl⟩
theorem eX10_orders_88 : xJ mX10_orders 88 (.goto) 97 91 := ⟨(9), by decide +kernel, by decide, rfl⟩
theorem eX10_orders_91 : x_iload mX10_orders 91 5 93 := Or.inr ⟨by decide +kernel, rfl⟩
theorem eX10_orders_93 : x_iload mX10_orders 93 2 94 := Or.inl ⟨2, by decide +kernel, rfl, rfl⟩
theorem eX10_orders_94 : xJ mX10_orders 94 (.if_icmp .ge) 132 97 := ⟨(38), by decide +kernel, by decide, rfl⟩
theorem eX10_orders_97 : x_iload mX10_orders 97 5 99 := Or.inr ⟨by decide +kernel, rfl⟩
theorem eX10_orders_99 : x_istore mX10_orders 99 2 100 := Or.inl ⟨2, by decide +kernel, rfl, rfl⟩
theorem eX10_orders_100 : xK mX10_orders 100 (nI 0) 101 := Or.inl (⟨0, by decide +kernel, by decide, rfl⟩)
theorem eX10_orders_101 : x_istore mX10_orders 101 6 103 := Or.inr ⟨by decide +kernel, rfl⟩
theorem eX10_orders_103 : x_iload mX10_orders 103 6 105 := Or.inr ⟨by decide +kernel, rfl⟩
theorem eX10_orders_105 : x_aload mX10_orders 105 0 106 := Or.inl ⟨0, by decide +kernel, rfl, rfl⟩
theorem eX10_orders_106 : xGF mX10_orders 106 10 23 109 := ⟨209, _, _, by decide +kernel, rfl, fl_X10_209⟩
theorem eX10_orders_109 : xJ mX10_orders 109 (.if_icmp .ge) 132 112 := ⟨(23), by decide +kernel, by decide, rfl⟩
theorem eX10_orders_112 : x_aload mX10_orders 112 0 113 := Or.inl ⟨0, by decide +kernel, rfl, rfl⟩
theorem eX10_orders_113 : xGF mX10_orders 113 10 25 116 := ⟨47, _, _, by decide +kernel, rfl, fl_X10_47⟩
theorem eX10_orders_116 : x_iload mX10_orders 116 6 118 := Or.inr ⟨by decide +kernel, rfl⟩
theorem eX10_orders_118 : x_aload mX10_orders 118 0 119 := Or.inl ⟨0, by decide +kernel, rfl, rfl⟩
theorem eX10_orders_119 : xGF mX10_orders 119 10 24 122 := ⟨44, _, _, by decide +kernel, rfl, fl_X10_44⟩
theorem eX10_orders_122 : x_iload mX10_orders 122 6 124 := Or.inr ⟨by decide +kernel, rfl⟩
theorem eX10_orders_124 : xD mX10_orders 124 (.iaload) 1 125 := ⟨by decide +kernel, rfl⟩
theorem eX10_orders_125 : xD mX10_orders 125 (.iastore) 1 126 := ⟨by decide +kernel, rfl⟩
theorem eX10_orders_126 : xD mX10_orders 126 (.iinc 6 1) 3 129 := ⟨by decide +kernel, rfl⟩
theorem eX10_orders_129 : xJ mX10_orders 129 (.goto) 103 132 := ⟨(-26), by decide +kernel, by decide, rfl⟩
theorem eX10_orders_132 : x_aload mX10_orders 132 0 133 := Or.inl ⟨0, by decide +kernel, rfl, rfl⟩
set_option maxRecDepth 20000 in
theorem eX10_orders_133 : xCV mX10_orders 133 mX10_goesOn 0 10 136 := ⟨221, by decide +kernel, rfl, ⟨cm_X10_221.1, cm_X10_221.2.1, cm_X10_221.2.2.1, cm_X10_221.2.2.2.1, cm_X10_221.2.2.2.2⟩, xT_5 91 rfl rfl, xT_0 50 rfl rfl, _, rfl, rfl⟩
theorem eX10_orders_136 : x_istore mX10_orders 136 3 137 := Or.inl ⟨3, by decide +kernel, rfl, rfl⟩
theorem eX10_orders_137 : xJ mX10_orders 137 (.goto) 8 140 := ⟨(-129), by decide +kernel, by decide, rfl⟩
theorem eX10_orders_140 : x_iload mX10_orders 140 2 141 := Or.inl ⟨2, by decide +kernel, rfl, rfl⟩
theorem eX10_orders_141 : xD mX10_orders 141 (.ireturn) 1 142 := ⟨by decide +kernel, rfl⟩
theorem eX10_ordered_0 : x_iload mX10_ordered 0 1 1 := Or.inl ⟨1, by decide +kernel, rfl, rfl⟩
theorem eX10_ordered_1 : xD mX10_ordered 1 (.i2l) 1 2 := ⟨by decide +kernel, rfl⟩
theorem eX10_ordered_2 : xKL mX10_ordered 2 (0) 3 := Or.inl ⟨0, by decide +kernel, by decide, rfl⟩
set_option maxRecDepth 20000 in
theorem eX10_ordered_3 : xKL mX10_ordered 3 (7) 6 := Or.inr ⟨224, by decide +kernel, xT_5 76 rfl rfl, rfl⟩
set_option maxRecDepth 20000 in
theorem eX10_ordered_6 : xCS mX10_ordered 6 mX10_in 3 9 := ⟨81, by decide +kernel, rfl, ⟨cm_X10_81.1, cm_X10_81.2.1, cm_X10_81.2.2.1, cm_X10_81.2.2.2.1, cm_X10_81.2.2.2.2⟩, xT_4 155 rfl rfl⟩
theorem eX10_ordered_9 : xJ mX10_ordered 9 (.ifCond .ne) 14 12 := ⟨(5), by decide +kernel, by decide, rfl⟩
theorem eX10_ordered_12 : xK mX10_ordered 12 ((-1)) 13 := Or.inl (⟨(-1), by decide +kernel, by decide, rfl⟩)
theorem eX10_ordered_13 : xD mX10_ordered 13 (.ireturn) 1 14 := ⟨by decide +kernel, rfl⟩
theorem eX10_ordered_14 : x_aload mX10_ordered 14 0 15 := Or.inl ⟨0, by decide +kernel, rfl, rfl⟩
theorem eX10_ordered_15 : x_iload mX10_ordered 15 2 16 := Or.inl ⟨2, by decide +kernel, rfl, rfl⟩
set_option maxRecDepth 20000 in
theorem eX10_ordered_16 : xCV mX10_ordered 16 mX10_orders 1 10 19 := ⟨226, by decide +kernel, rfl, ⟨cm_X10_226.1, cm_X10_226.2.1, cm_X10_226.2.2.1, cm_X10_226.2.2.2.1, cm_X10_226.2.2.2.2⟩, xT_5 79 rfl rfl, xT_0 47 rfl rfl, _, rfl, rfl⟩
theorem eX10_ordered_19 : x_istore mX10_ordered 19 3 20 := Or.inl ⟨3, by decide +kernel, rfl, rfl⟩
theorem eX10_ordered_20 : x_iload mX10_ordered 20 1 21 := Or.inl ⟨1, by decide +kernel, rfl, rfl⟩
theorem eX10_ordered_21 : xJ mX10_ordered 21 (.ifCond .ne) 28 24 := ⟨(7), by decide +kernel, by decide, rfl⟩
theorem eX10_ordered_24 : x_iload mX10_ordered 24 3 25 := Or.inl ⟨3, by decide +kernel, rfl, rfl⟩
theorem eX10_ordered_25 : xJ mX10_ordered 25 (.goto) 49 28 := ⟨(24), by decide +kernel, by decide, rfl⟩
theorem eX10_ordered_28 : x_iload mX10_ordered 28 1 29 := Or.inl ⟨1, by decide +kernel, rfl, rfl⟩
theorem eX10_ordered_29 : x_aload mX10_ordered 29 0 30 := Or.inl ⟨0, by decide +kernel, rfl, rfl⟩
theorem eX10_ordered_30 : xGF mX10_ordered 30 10 23 33 := ⟨209, _, _, by decide +kernel, rfl, fl_X10_209⟩
theorem eX10_ordered_33 : xJ mX10_ordered 33 (.if_icmp .le) 41 36 := ⟨(8), by decide +kernel, by decide, rfl⟩
theorem eX10_ordered_36 : xK mX10_ordered 36 ((-4)) 38 := Or.inr (Or.inl (⟨(-4), by decide +kernel, by decide, rfl⟩))
theorem eX10_ordered_38 : xJ mX10_ordered 38 (.goto) 49 41 := ⟨(11), by decide +kernel, by decide, rfl⟩
theorem eX10_ordered_41 : x_aload mX10_ordered 41 0 42 := Or.inl ⟨0, by decide +kernel, rfl, rfl⟩
theorem eX10_ordered_42 : xGF mX10_ordered 42 10 25 45 := ⟨47, _, _, by decide +kernel, rfl, fl_X10_47⟩
theorem eX10_ordered_45 : x_iload mX10_ordered 45 1 46 := Or.inl ⟨1, by decide +kernel, rfl, rfl⟩
theorem eX10_ordered_46 : xK mX10_ordered 46 (nI 1) 47 := Or.inl (⟨1, by decide +kernel, by decide, rfl⟩)
theorem eX10_ordered_47 : xD mX10_ordered 47 (.isub) 1 48 := ⟨by decide +kernel, rfl⟩
theorem eX10_ordered_48 : xD mX10_ordered 48 (.iaload) 1 49 := ⟨by decide +kernel, rfl⟩
theorem eX10_ordered_49 : xD mX10_ordered 49 (.ireturn) 1 50 := ⟨by decide +kernel, rfl⟩
theorem eX10_most_0 : x_aload mX10_most 0 0 1 := Or.inl ⟨0, by decide +kernel, rfl, rfl⟩
theorem eX10_most_1 : x_iload mX10_most 1 1 2 := Or.inl ⟨1, by decide +kernel, rfl, rfl⟩
theorem eX10_most_2 : xK mX10_most 2 (nI 1) 3 := Or.inl (⟨1, by decide +kernel, by decide, rfl⟩)
set_option maxRecDepth 20000 in
theorem eX10_most_3 : xCV mX10_most 3 mX10_ordered 2 10 6 := ⟨230, by decide +kernel, rfl, ⟨cm_X10_230.1, cm_X10_230.2.1, cm_X10_230.2.2.1, cm_X10_230.2.2.2.1, cm_X10_230.2.2.2.2⟩, xT_5 74 rfl rfl, xT_0 46 rfl rfl, _, rfl, rfl⟩
theorem eX10_most_6 : xD mX10_most 6 (.ireturn) 1 7 := ⟨by decide +kernel, rfl⟩
theorem eX10_least_0 : x_aload mX10_least 0 0 1 := Or.inl ⟨0, by decide +kernel, rfl, rfl⟩
theorem eX10_least_1 : x_iload mX10_least 1 1 2 := Or.inl ⟨1, by decide +kernel, rfl, rfl⟩
theorem eX10_least_2 : xK mX10_least 2 (nI 0) 3 := Or.inl (⟨0, by decide +kernel, by decide, rfl⟩)
set_option maxRecDepth 20000 in
theorem eX10_least_3 : xCV mX10_least 3 mX10_ordered 2 10 6 := ⟨230, by decide +kernel, rfl, ⟨cm_X10_230.1, cm_X10_230.2.1, cm_X10_230.2.2.1, cm_X10_230.2.2.2.1, cm_X10_230.2.2.2.2⟩, xT_5 74 rfl rfl, xT_0 46 rfl rfl, _, rfl, rfl⟩
theorem eX10_least_6 : xD mX10_least 6 (.ireturn) 1 7 := ⟨by decide +kernel, rfl⟩
theorem eX10_bits_0 : xK mX10_bits 0 (nI 0) 1 := Or.inl (⟨0, by decide +kernel, by decide, rfl⟩)
theorem eX10_bits_1 : x_istore mX10_bits 1 1 2 := Or.inl ⟨1, by decide +kernel, rfl, rfl⟩
theorem eX10_bits_2 : xK mX10_bits 2 (nI 0) 3 := Or.inl (⟨0, by decide +kernel, by decide, rfl⟩)
theorem eX10_bits_3 : x_istore mX10_bits 3 2 4 := Or.inl ⟨2, by decide +kernel, rfl, rfl⟩
theorem eX10_bits_4 : x_iload mX10_bits 4 2 5 := Or.inl ⟨2, by decide +kernel, rfl, rfl⟩
theorem eX10_bits_5 : xK mX10_bits 5 (nI 7) 7 := Or.inr (Or.inl (⟨7, by decide +kernel, by decide, rfl⟩))
theorem eX10_bits_7 : xJ mX10_bits 7 (.if_icmp .ge) 24 10 := ⟨(17), by decide +kernel, by decide, rfl⟩
theorem eX10_bits_10 : x_iload mX10_bits 10 1 11 := Or.inl ⟨1, by decide +kernel, rfl, rfl⟩
theorem eX10_bits_11 : x_iload mX10_bits 11 0 12 := Or.inl ⟨0, by decide +kernel, rfl, rfl⟩
theorem eX10_bits_12 : x_iload mX10_bits 12 2 13 := Or.inl ⟨2, by decide +kernel, rfl, rfl⟩
theorem eX10_bits_13 : xD mX10_bits 13 (.ishr) 1 14 := ⟨by decide +kernel, rfl⟩
theorem eX10_bits_14 : xK mX10_bits 14 (nI 1) 15 := Or.inl (⟨1, by decide +kernel, by decide, rfl⟩)
theorem eX10_bits_15 : xD mX10_bits 15 (.iand) 1 16 := ⟨by decide +kernel, rfl⟩
theorem eX10_bits_16 : xD mX10_bits 16 (.iadd) 1 17 := ⟨by decide +kernel, rfl⟩
theorem eX10_bits_17 : x_istore mX10_bits 17 1 18 := Or.inl ⟨1, by decide +kernel, rfl, rfl⟩
theorem eX10_bits_18 : xD mX10_bits 18 (.iinc 2 1) 3 21 := ⟨by decide +kernel, rfl⟩
theorem eX10_bits_21 : xJ mX10_bits 21 (.goto) 4 24 := ⟨(-17), by decide +kernel, by decide, rfl⟩
theorem eX10_bits_24 : x_iload mX10_bits 24 1 25 := Or.inl ⟨1, by decide +kernel, rfl, rfl⟩
theorem eX10_bits_25 : xD mX10_bits 25 (.ireturn) 1 26 := ⟨by decide +kernel, rfl⟩
theorem eX10_checks_0 : x_iload mX10_checks 0 1 1 := Or.inl ⟨1, by decide +kernel, rfl, rfl⟩
theorem eX10_checks_1 : xD mX10_checks 1 (.i2l) 1 2 := ⟨by decide +kernel, rfl⟩
theorem eX10_checks_2 : xKL mX10_checks 2 (1) 3 := Or.inl ⟨1, by decide +kernel, by decide, rfl⟩
set_option maxRecDepth 20000 in
theorem eX10_checks_3 : xKL mX10_checks 3 (3) 6 := Or.inr ⟨234, by decide +kernel, xT_5 105 rfl rfl, rfl⟩
set_option maxRecDepth 20000 in
theorem eX10_checks_6 : xCS mX10_checks 6 mX10_in 3 9 := ⟨81, by decide +kernel, rfl, ⟨cm_X10_81.1, cm_X10_81.2.1, cm_X10_81.2.2.1, cm_X10_81.2.2.2.1, cm_X10_81.2.2.2.2⟩, xT_4 155 rfl rfl⟩
theorem eX10_checks_9 : xJ mX10_checks 9 (.ifCond .eq) 22 12 := ⟨(13), by decide +kernel, by decide, rfl⟩
theorem eX10_checks_12 : x_iload mX10_checks 12 2 13 := Or.inl ⟨2, by decide +kernel, rfl, rfl⟩
theorem eX10_checks_13 : xD mX10_checks 13 (.i2l) 1 14 := ⟨by decide +kernel, rfl⟩
theorem eX10_checks_14 : xKL mX10_checks 14 (0) 15 := Or.inl ⟨0, by decide +kernel, by decide, rfl⟩
theorem eX10_checks_15 : xKL mX10_checks 15 (1) 16 := Or.inl ⟨1, by decide +kernel, by decide, rfl⟩
set_option maxRecDepth 20000 in
theorem eX10_checks_16 : xCS mX10_checks 16 mX10_in 3 19 := ⟨81, by decide +kernel, rfl, ⟨cm_X10_81.1, cm_X10_81.2.1, cm_X10_81.2.2.1, cm_X10_81.2.2.2.1, cm_X10_81.2.2.2.2⟩, xT_4 155 rfl rfl⟩
theorem eX10_checks_19 : xJ mX10_checks 19 (.ifCond .ne) 24 22 := ⟨(5), by decide +kernel, by decide, rfl⟩
theorem eX10_checks_22 : xK mX10_checks 22 ((-1)) 23 := Or.inl (⟨(-1), by decide +kernel, by decide, rfl⟩)
theorem eX10_checks_23 : xD mX10_checks 23 (.ireturn) 1 24 := ⟨by decide +kernel, rfl⟩
theorem eX10_checks_24 : x_aload mX10_checks 24 0 25 := Or.inl ⟨0, by decide +kernel, rfl, rfl⟩
theorem eX10_checks_25 : xGF mX10_checks 25 10 9 28 := ⟨25, _, _, by decide +kernel, rfl, fl_X10_25⟩
theorem eX10_checks_28 : xK mX10_checks 28 (nI 14) 30 := Or.inr (Or.inl (⟨14, by decide +kernel, by decide, rfl⟩))
theorem eX10_checks_30 : xD mX10_checks 30 (.iaload) 1 31 := ⟨by decide +kernel, rfl⟩
theorem eX10_checks_31 : x_aload mX10_checks 31 0 32 := Or.inl ⟨0, by decide +kernel, rfl, rfl⟩
theorem eX10_checks_32 : xGF mX10_checks 32 10 9 35 := ⟨25, _, _, by decide +kernel, rfl, fl_X10_25⟩
theorem eX10_checks_35 : xK mX10_checks 35 (nI 15) 37 := Or.inr (Or.inl (⟨15, by decide +kernel, by decide, rfl⟩))
theorem eX10_checks_37 : xD mX10_checks 37 (.iaload) 1 38 := ⟨by decide +kernel, rfl⟩
theorem eX10_checks_38 : xK mX10_checks 38 ((-1)) 39 := Or.inl (⟨(-1), by decide +kernel, by decide, rfl⟩)
theorem eX10_checks_39 : xD mX10_checks 39 (.ixor) 1 40 := ⟨by decide +kernel, rfl⟩
theorem eX10_checks_40 : xD mX10_checks 40 (.iand) 1 41 := ⟨by decide +kernel, rfl⟩
theorem eX10_checks_41 : x_istore mX10_checks 41 3 42 := Or.inl ⟨3, by decide +kernel, rfl, rfl⟩
theorem eX10_checks_42 : x_iload mX10_checks 42 1 43 := Or.inl ⟨1, by decide +kernel, rfl, rfl⟩
theorem eX10_checks_43 : x_iload mX10_checks 43 3 44 := Or.inl ⟨3, by decide +kernel, rfl, rfl⟩
set_option maxRecDepth 20000 in
theorem eX10_checks_44 : xCS mX10_checks 44 mX10_bits 1 47 := ⟨236, by decide +kernel, rfl, ⟨cm_X10_236.1, cm_X10_236.2.1, cm_X10_236.2.2.1, cm_X10_236.2.2.2.1, cm_X10_236.2.2.2.2⟩, xT_5 107 rfl rfl⟩
set_option maxRecDepth 20000 in
theorem eX10_checks_47 : xCS mX10_checks 47 mX10_smaller 2 50 := ⟨77, by decide +kernel, rfl, ⟨cm_X10_77.1, cm_X10_77.2.1, cm_X10_77.2.2.1, cm_X10_77.2.2.2.1, cm_X10_77.2.2.2.2⟩, xT_4 67 rfl rfl⟩
theorem eX10_checks_50 : x_istore mX10_checks 50 4 52 := Or.inr ⟨by decide +kernel, rfl⟩
theorem eX10_checks_52 : xK mX10_checks 52 ((-1)) 53 := Or.inl (⟨(-1), by decide +kernel, by decide, rfl⟩)
theorem eX10_checks_53 : x_istore mX10_checks 53 5 55 := Or.inr ⟨by decide +kernel, rfl⟩
theorem eX10_checks_55 : xK mX10_checks 55 ((-9999)) 58 := Or.inr (Or.inr (Or.inl (⟨(-9999), by decide +kernel, by decide, rfl⟩)))
theorem eX10_checks_58 : x_istore mX10_checks 58 6 60 := Or.inr ⟨by decide +kernel, rfl⟩
theorem eX10_checks_60 : xK mX10_checks 60 (nI 0) 61 := Or.inl (⟨0, by decide +kernel, by decide, rfl⟩)
theorem eX10_checks_61 : x_istore mX10_checks 61 7 63 := Or.inr ⟨by decide +kernel, rfl⟩
theorem eX10_checks_63 : x_iload mX10_checks 63 7 65 := Or.inr ⟨by decide +kernel, rfl⟩
theorem eX10_checks_65 : xK mX10_checks 65 (nI 1) 66 := Or.inl (⟨1, by decide +kernel, by decide, rfl⟩)
theorem eX10_checks_66 : x_aload mX10_checks 66 0 67 := Or.inl ⟨0, by decide +kernel, rfl, rfl⟩
theorem eX10_checks_67 : xGF mX10_checks 67 10 0 70 := ⟨71, _, _, by decide +kernel, rfl, fl_X10_71⟩
theorem eX10_checks_70 : xD mX10_checks 70 (.ishl) 1 71 := ⟨by decide +kernel, rfl⟩
theorem eX10_checks_71 : xJ mX10_checks 71 (.if_icmp .ge) 199 74 := ⟨(128), by decide +kernel, by decide, rfl⟩
theorem eX10_checks_74 : xK mX10_checks 74 (nI 0) 75 := Or.inl (⟨0, by decide +kernel, by decide, rfl⟩)
theorem eX10_checks_75 : x_istore mX10_checks 75 8 77 := Or.inr ⟨by decide +kernel, rfl⟩
theorem eX10_checks_77 : xK mX10_checks 77 (nI 0) 78 := Or.inl (⟨0, by decide +kernel, by decide, rfl⟩)
theorem eX10_checks_78 : x_istore mX10_checks 78 9 80 := Or.inr ⟨by decide +kernel, rfl⟩
theorem eX10_checks_80 : x_iload mX10_checks 80 9 82 := Or.inr ⟨by decide +kernel, rfl⟩
theorem eX10_checks_82 : x_aload mX10_checks 82 0 83 := Or.inl ⟨0, by decide +kernel, rfl, rfl⟩
theorem eX10_checks_83 : xGF mX10_checks 83 10 0 86 := ⟨71, _, _, by decide +kernel, rfl, fl_X10_71⟩
theorem eX10_checks_86 : xJ mX10_checks 86 (.if_icmp .ge) 132 89 := ⟨(46), by decide +kernel, by decide, rfl⟩
theorem eX10_checks_89 : x_iload mX10_checks 89 8 91 := Or.inr ⟨by decide +kernel, rfl⟩
theorem eX10_checks_91 : x_iload mX10_checks 91 7 93 := Or.inr ⟨by decide +kernel, rfl⟩
theorem eX10_checks_93 : x_iload mX10_checks 93 9 95 := Or.inr ⟨by decide +kernel, rfl⟩
set_option maxRecDepth 20000 in
theorem eX10_checks_95 : xCS mX10_checks 95 mX10_has 2 98 := ⟨144, by decide +kernel, rfl, ⟨cm_X10_144.1, cm_X10_144.2.1, cm_X10_144.2.2.1, cm_X10_144.2.2.2.1, cm_X10_144.2.2.2.2⟩, xT_4 209 rfl rfl⟩
theorem eX10_checks_98 : xJ mX10_checks 98 (.ifCond .eq) 122 101 := ⟨(24), by decide +kernel, by decide, rfl⟩
theorem eX10_checks_101 : x_aload mX10_checks 101 0 102 := Or.inl ⟨0, by decide +kernel, rfl, rfl⟩
theorem eX10_checks_102 : xGF mX10_checks 102 10 9 105 := ⟨25, _, _, by decide +kernel, rfl, fl_X10_25⟩
theorem eX10_checks_105 : x_iload mX10_checks 105 9 107 := Or.inr ⟨by decide +kernel, rfl⟩
theorem eX10_checks_107 : xD mX10_checks 107 (.iaload) 1 108 := ⟨by decide +kernel, rfl⟩
theorem eX10_checks_108 : x_aload mX10_checks 108 0 109 := Or.inl ⟨0, by decide +kernel, rfl, rfl⟩
theorem eX10_checks_109 : xGF mX10_checks 109 10 9 112 := ⟨25, _, _, by decide +kernel, rfl, fl_X10_25⟩
theorem eX10_checks_112 : xK mX10_checks 112 (nI 7) 114 := Or.inr (Or.inl (⟨7, by decide +kernel, by decide, rfl⟩))
theorem eX10_checks_114 : x_iload mX10_checks 114 9 116 := Or.inr ⟨by decide +kernel, rfl⟩
theorem eX10_checks_116 : xD mX10_checks 116 (.iadd) 1 117 := ⟨by decide +kernel, rfl⟩
theorem eX10_checks_117 : xD mX10_checks 117 (.iaload) 1 118 := ⟨by decide +kernel, rfl⟩
theorem eX10_checks_118 : xD mX10_checks 118 (.isub) 1 119 := ⟨by decide +kernel, rfl⟩
theorem eX10_checks_119 : xJ mX10_checks 119 (.goto) 123 122 := ⟨(4), by decide +kernel, by decide, rfl⟩
theorem eX10_checks_122 : xK mX10_checks 122 (nI 0) 123 := Or.inl (⟨0, by decide +kernel, by decide, rfl⟩)
theorem eX10_checks_123 : xD mX10_checks 123 (.iadd) 1 124 := ⟨by decide +kernel, rfl⟩
theorem eX10_checks_124 : x_istore mX10_checks 124 8 126 := Or.inr ⟨by decide +kernel, rfl⟩
theorem eX10_checks_126 : xD mX10_checks 126 (.iinc 9 1) 3 129 := ⟨by decide +kernel, rfl⟩
theorem eX10_checks_129 : xJ mX10_checks 129 (.goto) 80 132 := ⟨(-49), by decide +kernel, by decide, rfl⟩
theorem eX10_checks_132 : x_iload mX10_checks 132 7 134 := Or.inr ⟨by decide +kernel, rfl⟩
theorem eX10_checks_134 : x_iload mX10_checks 134 3 135 := Or.inl ⟨3, by decide +kernel, rfl, rfl⟩
theorem eX10_checks_135 : xK mX10_checks 135 ((-1)) 136 := Or.inl (⟨(-1), by decide +kernel, by decide, rfl⟩)
theorem eX10_checks_136 : xD mX10_checks 136 (.ixor) 1 137 := ⟨by decide +kernel, rfl⟩
theorem eX10_checks_137 : xD mX10_checks 137 (.iand) 1 138 := ⟨by decide +kernel, rfl⟩
theorem eX10_checks_138 : xJ mX10_checks 138 (.ifCond .ne) 162 141 := ⟨(24), by decide +kernel, by decide, rfl⟩
theorem eX10_checks_141 : x_iload mX10_checks 141 7 143 := Or.inr ⟨by decide +kernel, rfl⟩
set_option maxRecDepth 20000 in
theorem eX10_checks_143 : xCS mX10_checks 143 mX10_bits 1 146 := ⟨236, by decide +kernel, rfl, ⟨cm_X10_236.1, cm_X10_236.2.1, cm_X10_236.2.2.1, cm_X10_236.2.2.2.1, cm_X10_236.2.2.2.2⟩, xT_5 107 rfl rfl⟩
theorem eX10_checks_146 : x_iload mX10_checks 146 4 148 := Or.inr ⟨by decide +kernel, rfl⟩
theorem eX10_checks_148 : xJ mX10_checks 148 (.if_icmp .ne) 162 151 := ⟨(14), by decide +kernel, by decide, rfl⟩
theorem eX10_checks_151 : x_iload mX10_checks 151 8 153 := Or.inr ⟨by decide +kernel, rfl⟩
theorem eX10_checks_153 : x_iload mX10_checks 153 6 155 := Or.inr ⟨by decide +kernel, rfl⟩
theorem eX10_checks_155 : xJ mX10_checks 155 (.if_icmp .le) 162 158 := ⟨(7), by decide +kernel, by decide, rfl⟩
theorem eX10_checks_158 : xK mX10_checks 158 (nI 1) 159 := Or.inl (⟨1, by decide +kernel, by decide, rfl⟩)
theorem eX10_checks_159 : xJ mX10_checks 159 (.goto) 163 162 := ⟨(4), by decide +kernel, by decide, rfl⟩
theorem eX10_checks_162 : xK mX10_checks 162 (nI 0) 163 := Or.inl (⟨0, by decide +kernel, by decide, rfl⟩)
theorem eX10_checks_163 : x_istore mX10_checks 163 9 165 := Or.inr ⟨by decide +kernel, rfl⟩
theorem eX10_checks_165 : x_iload mX10_checks 165 9 167 := Or.inr ⟨by decide +kernel, rfl⟩
theorem eX10_checks_167 : xJ mX10_checks 167 (.ifCond .eq) 175 170 := ⟨(8), by decide +kernel, by decide, rfl⟩
theorem eX10_checks_170 : x_iload mX10_checks 170 7 172 := Or.inr ⟨by decide +kernel, rfl⟩
theorem eX10_checks_172 : xJ mX10_checks 172 (.goto) 177 175 := ⟨(5), by decide +kernel, by decide, rfl⟩
theorem eX10_checks_175 : x_iload mX10_checks 175 5 177 := Or.inr ⟨by decide +kernel, rfl⟩
theorem eX10_checks_177 : x_istore mX10_checks 177 5 179 := Or.inr ⟨by decide +kernel, rfl⟩
theorem eX10_checks_179 : x_iload mX10_checks 179 9 181 := Or.inr ⟨by decide +kernel, rfl⟩
theorem eX10_checks_181 : xJ mX10_checks 181 (.ifCond .eq) 189 184 := ⟨(8), by decide +kernel, by decide, rfl⟩
theorem eX10_checks_184 : x_iload mX10_checks 184 8 186 := Or.inr ⟨by decide +kernel, rfl⟩
theorem eX10_checks_186 : xJ mX10_checks 186 (.goto) 191 189 := ⟨(5), by decide +kernel, by decide, rfl⟩
theorem eX10_checks_189 : x_iload mX10_checks 189 6 191 := Or.inr ⟨by decide +kernel, rfl⟩
theorem eX10_checks_191 : x_istore mX10_checks 191 6 193 := Or.inr ⟨by decide +kernel, rfl⟩
theorem eX10_checks_193 : xD mX10_checks 193 (.iinc 7 1) 3 196 := ⟨by decide +kernel, rfl⟩
theorem eX10_checks_196 : xJ mX10_checks 196 (.goto) 63 199 := ⟨(-133), by decide +kernel, by decide, rfl⟩
theorem eX10_checks_199 : x_iload mX10_checks 199 2 200 := Or.inl ⟨2, by decide +kernel, rfl, rfl⟩
theorem eX10_checks_200 : xJ mX10_checks 200 (.ifCond .ne) 212 203 := ⟨(12), by decide +kernel, by decide, rfl⟩
theorem eX10_checks_203 : x_iload mX10_checks 203 6 205 := Or.inr ⟨by decide +kernel, rfl⟩
theorem eX10_checks_205 : xK mX10_checks 205 (nI 500) 208 := Or.inr (Or.inr (Or.inl (⟨500, by decide +kernel, by decide, rfl⟩)))
theorem eX10_checks_208 : xD mX10_checks 208 (.iadd) 1 209 := ⟨by decide +kernel, rfl⟩
theorem eX10_checks_209 : xJ mX10_checks 209 (.goto) 214 212 := ⟨(5), by decide +kernel, by decide, rfl⟩
theorem eX10_checks_212 : x_iload mX10_checks 212 5 214 := Or.inr ⟨by decide +kernel, rfl⟩
theorem eX10_checks_214 : xD mX10_checks 214 (.ireturn) 1 215 := ⟨by decide +kernel, rfl⟩
theorem eX10_see_0 : x_aload mX10_see 0 0 1 := Or.inl ⟨0, by decide +kernel, rfl, rfl⟩
theorem eX10_see_1 : x_iload mX10_see 1 1 2 := Or.inl ⟨1, by decide +kernel, rfl, rfl⟩
set_option maxRecDepth 20000 in
theorem eX10_see_2 : xCV mX10_see 2 mX10_isVillage 1 10 5 := ⟨157, by decide +kernel, rfl, ⟨cm_X10_157.1, cm_X10_157.2.1, cm_X10_157.2.2.1, cm_X10_157.2.2.2.1, cm_X10_157.2.2.2.2⟩, xT_4 201 rfl rfl, xT_0 28 rfl rfl, _, rfl, rfl⟩
theorem eX10_see_5 : xJ mX10_see 5 (.ifCond .eq) 20 8 := ⟨(15), by decide +kernel, by decide, rfl⟩
theorem eX10_see_8 : x_iload mX10_see 8 2 9 := Or.inl ⟨2, by decide +kernel, rfl, rfl⟩
theorem eX10_see_9 : xD mX10_see 9 (.i2l) 1 10 := ⟨by decide +kernel, rfl⟩
theorem eX10_see_10 : xKL mX10_see 10 (0) 11 := Or.inl ⟨0, by decide +kernel, by decide, rfl⟩
set_option maxRecDepth 20000 in
theorem eX10_see_11 : xKL mX10_see 11 (60) 14 := Or.inr ⟨239, by decide +kernel, xT_5 113 rfl rfl, rfl⟩
set_option maxRecDepth 20000 in
theorem eX10_see_14 : xCS mX10_see 14 mX10_in 3 17 := ⟨81, by decide +kernel, rfl, ⟨cm_X10_81.1, cm_X10_81.2.1, cm_X10_81.2.2.1, cm_X10_81.2.2.2.1, cm_X10_81.2.2.2.2⟩, xT_4 155 rfl rfl⟩
theorem eX10_see_17 : xJ mX10_see 17 (.ifCond .ne) 22 20 := ⟨(5), by decide +kernel, by decide, rfl⟩
theorem eX10_see_20 : xK mX10_see 20 ((-1)) 21 := Or.inl (⟨(-1), by decide +kernel, by decide, rfl⟩)
theorem eX10_see_21 : xD mX10_see 21 (.ireturn) 1 22 := ⟨by decide +kernel, rfl⟩
theorem eX10_see_22 : x_aload mX10_see 22 0 23 := Or.inl ⟨0, by decide +kernel, rfl, rfl⟩
theorem eX10_see_23 : xGF mX10_see 23 10 17 26 := ⟨133, _, _, by decide +kernel, rfl, fl_X10_133⟩
theorem eX10_see_26 : xK mX10_see 26 (nI 6) 28 := Or.inr (Or.inl (⟨6, by decide +kernel, by decide, rfl⟩))
theorem eX10_see_28 : xJ mX10_see 28 (.if_icmp .ne) 34 31 := ⟨(6), by decide +kernel, by decide, rfl⟩
theorem eX10_see_31 : xK mX10_see 31 ((-3)) 33 := Or.inr (Or.inl (⟨(-3), by decide +kernel, by decide, rfl⟩))
theorem eX10_see_33 : xD mX10_see 33 (.ireturn) 1 34 := ⟨by decide +kernel, rfl⟩
theorem eX10_see_34 : x_aload mX10_see 34 0 35 := Or.inl ⟨0, by decide +kernel, rfl, rfl⟩
theorem eX10_see_35 : xGF mX10_see 35 10 18 38 := ⟨32, _, _, by decide +kernel, rfl, fl_X10_32⟩
theorem eX10_see_38 : x_aload mX10_see 38 0 39 := Or.inl ⟨0, by decide +kernel, rfl, rfl⟩
theorem eX10_see_39 : xGF mX10_see 39 10 17 42 := ⟨133, _, _, by decide +kernel, rfl, fl_X10_133⟩
theorem eX10_see_42 : x_iload mX10_see 42 1 43 := Or.inl ⟨1, by decide +kernel, rfl, rfl⟩
theorem eX10_see_43 : xD mX10_see 43 (.iastore) 1 44 := ⟨by decide +kernel, rfl⟩
theorem eX10_see_44 : x_aload mX10_see 44 0 45 := Or.inl ⟨0, by decide +kernel, rfl, rfl⟩
theorem eX10_see_45 : xGF mX10_see 45 10 19 48 := ⟨35, _, _, by decide +kernel, rfl, fl_X10_35⟩
theorem eX10_see_48 : x_aload mX10_see 48 0 49 := Or.inl ⟨0, by decide +kernel, rfl, rfl⟩
theorem eX10_see_49 : xGF mX10_see 49 10 17 52 := ⟨133, _, _, by decide +kernel, rfl, fl_X10_133⟩
theorem eX10_see_52 : x_iload mX10_see 52 2 53 := Or.inl ⟨2, by decide +kernel, rfl, rfl⟩
theorem eX10_see_53 : xD mX10_see 53 (.iastore) 1 54 := ⟨by decide +kernel, rfl⟩
theorem eX10_see_54 : x_aload mX10_see 54 0 55 := Or.inl ⟨0, by decide +kernel, rfl, rfl⟩
theorem eX10_see_55 : xD mX10_see 55 (.dup) 1 56 := ⟨by decide +kernel, rfl⟩
theorem eX10_see_56 : xGF mX10_see 56 10 17 59 := ⟨133, _, _, by decide +kernel, rfl, fl_X10_133⟩
theorem eX10_see_59 : xK mX10_see 59 (nI 1) 60 := Or.inl (⟨1, by decide +kernel, by decide, rfl⟩)
theorem eX10_see_60 : xD mX10_see 60 (.iadd) 1 61 := ⟨by decide +kernel, rfl⟩
theorem eX10_see_61 : xPF mX10_see 61 10 17 (.int) 64 := ⟨133, _, by decide +kernel, rfl, fl_X10_133, fun h => by cases h⟩
theorem eX10_see_64 : x_aload mX10_see 64 0 65 := Or.inl ⟨0, by decide +kernel, rfl, rfl⟩
theorem eX10_see_65 : xGF mX10_see 65 10 17 68 := ⟨133, _, _, by decide +kernel, rfl, fl_X10_133⟩
theorem eX10_see_68 : xD mX10_see 68 (.ireturn) 1 69 := ⟨by decide +kernel, rfl⟩
theorem eX10_forget_0 : x_aload mX10_forget 0 0 1 := Or.inl ⟨0, by decide +kernel, rfl, rfl⟩
theorem eX10_forget_1 : xGF mX10_forget 1 10 17 4 := ⟨133, _, _, by decide +kernel, rfl, fl_X10_133⟩
theorem eX10_forget_4 : x_istore mX10_forget 4 1 5 := Or.inl ⟨1, by decide +kernel, rfl, rfl⟩
theorem eX10_forget_5 : x_aload mX10_forget 5 0 6 := Or.inl ⟨0, by decide +kernel, rfl, rfl⟩
theorem eX10_forget_6 : xK mX10_forget 6 (nI 0) 7 := Or.inl (⟨0, by decide +kernel, by decide, rfl⟩)
theorem eX10_forget_7 : xPF mX10_forget 7 10 17 (.int) 10 := ⟨133, _, by decide +kernel, rfl, fl_X10_133, fun h => by cases h⟩
theorem eX10_forget_10 : x_iload mX10_forget 10 1 11 := Or.inl ⟨1, by decide +kernel, rfl, rfl⟩
theorem eX10_forget_11 : xD mX10_forget 11 (.ireturn) 1 12 := ⟨by decide +kernel, rfl⟩
theorem eX10_kinds_0 : x_aload mX10_kinds 0 0 1 := Or.inl ⟨0, by decide +kernel, rfl, rfl⟩
theorem eX10_kinds_1 : x_iload mX10_kinds 1 1 2 := Or.inl ⟨1, by decide +kernel, rfl, rfl⟩
set_option maxRecDepth 20000 in
theorem eX10_kinds_2 : xCV mX10_kinds 2 mX10_isVillage 1 10 5 := ⟨157, by decide +kernel, rfl, ⟨cm_X10_157.1, cm_X10_157.2.1, cm_X10_157.2.2.1, cm_X10_157.2.2.2.1, cm_X10_157.2.2.2.2⟩, xT_4 201 rfl rfl, xT_0 28 rfl rfl, _, rfl, rfl⟩
theorem eX10_kinds_5 : xJ mX10_kinds 5 (.ifCond .ne) 10 8 := ⟨(5), by decide +kernel, by decide, rfl⟩
theorem eX10_kinds_8 : xK mX10_kinds 8 ((-1)) 9 := Or.inl (⟨(-1), by decide +kernel, by decide, rfl⟩)
theorem eX10_kinds_9 : xD mX10_kinds 9 (.ireturn) 1 10 := ⟨by decide +kernel, rfl⟩
theorem eX10_kinds_10 : x_aload mX10_kinds 10 0 11 := Or.inl ⟨0, by decide +kernel, rfl, rfl⟩
theorem eX10_kinds_11 : x_iload mX10_kinds 11 1 12 := Or.inl ⟨1, by decide +kernel, rfl, rfl⟩
set_option maxRecDepth 20000 in
theorem eX10_kinds_12 : xCV mX10_kinds 12 mX10_isIn 1 10 15 := ⟨163, by decide +kernel, rfl, ⟨cm_X10_163.1, cm_X10_163.2.1, cm_X10_163.2.2.1, cm_X10_163.2.2.2.1, cm_X10_163.2.2.2.2⟩, xT_4 206 rfl rfl, xT_0 29 rfl rfl, _, rfl, rfl⟩
theorem eX10_kinds_15 : xJ mX10_kinds 15 (.ifCond .eq) 21 18 := ⟨(6), by decide +kernel, by decide, rfl⟩
theorem eX10_kinds_18 : xK mX10_kinds 18 ((-2)) 20 := Or.inr (Or.inl (⟨(-2), by decide +kernel, by decide, rfl⟩))
theorem eX10_kinds_20 : xD mX10_kinds 20 (.ireturn) 1 21 := ⟨by decide +kernel, rfl⟩
theorem eX10_kinds_21 : xK mX10_kinds 21 (nI 0) 22 := Or.inl (⟨0, by decide +kernel, by decide, rfl⟩)
theorem eX10_kinds_22 : x_istore mX10_kinds 22 2 23 := Or.inl ⟨2, by decide +kernel, rfl, rfl⟩
theorem eX10_kinds_23 : xK mX10_kinds 23 (nI 0) 24 := Or.inl (⟨0, by decide +kernel, by decide, rfl⟩)
theorem eX10_kinds_24 : x_istore mX10_kinds 24 3 25 := Or.inl ⟨3, by decide +kernel, rfl, rfl⟩
theorem eX10_kinds_25 : x_iload mX10_kinds 25 3 26 := Or.inl ⟨3, by decide +kernel, rfl, rfl⟩
theorem eX10_kinds_26 : xK mX10_kinds 26 (nI 5) 27 := Or.inl (⟨5, by decide +kernel, by decide, rfl⟩)
theorem eX10_kinds_27 : xJ mX10_kinds 27 (.if_icmp .ge) 112 30 := ⟨(85), by decide +kernel, by decide, rfl⟩
theorem eX10_kinds_30 : xK mX10_kinds 30 (nI 1) 31 := Or.inl (⟨1, by decide +kernel, by decide, rfl⟩)
theorem eX10_kinds_31 : x_istore mX10_kinds 31 4 33 := Or.inr ⟨by decide +kernel, rfl⟩
theorem eX10_kinds_33 : xK mX10_kinds 33 (nI 0) 34 := Or.inl (⟨0, by decide +kernel, by decide, rfl⟩)
theorem eX10_kinds_34 : x_istore mX10_kinds 34 5 36 := Or.inr ⟨by decide +kernel, rfl⟩
theorem eX10_kinds_36 : x_iload mX10_kinds 36 5 38 := Or.inr ⟨by decide +kernel, rfl⟩
theorem eX10_kinds_38 : x_aload mX10_kinds 38 0 39 := Or.inl ⟨0, by decide +kernel, rfl, rfl⟩
theorem eX10_kinds_39 : xGF mX10_kinds 39 10 17 42 := ⟨133, _, _, by decide +kernel, rfl, fl_X10_133⟩
theorem eX10_kinds_42 : xJ mX10_kinds 42 (.if_icmp .ge) 91 45 := ⟨(49), by decide +kernel, by decide, rfl⟩
theorem eX10_kinds_45 : x_iload mX10_kinds 45 4 47 := Or.inr ⟨by decide +kernel, rfl⟩
theorem eX10_kinds_47 : xJ mX10_kinds 47 (.ifCond .eq) 82 50 := ⟨(35), by decide +kernel, by decide, rfl⟩
theorem eX10_kinds_50 : x_aload mX10_kinds 50 0 51 := Or.inl ⟨0, by decide +kernel, rfl, rfl⟩
theorem eX10_kinds_51 : xGF mX10_kinds 51 10 18 54 := ⟨32, _, _, by decide +kernel, rfl, fl_X10_32⟩
theorem eX10_kinds_54 : x_iload mX10_kinds 54 5 56 := Or.inr ⟨by decide +kernel, rfl⟩
theorem eX10_kinds_56 : xD mX10_kinds 56 (.iaload) 1 57 := ⟨by decide +kernel, rfl⟩
theorem eX10_kinds_57 : x_iload mX10_kinds 57 1 58 := Or.inl ⟨1, by decide +kernel, rfl, rfl⟩
theorem eX10_kinds_58 : xJ mX10_kinds 58 (.if_icmp .ne) 78 61 := ⟨(20), by decide +kernel, by decide, rfl⟩
theorem eX10_kinds_61 : x_aload mX10_kinds 61 0 62 := Or.inl ⟨0, by decide +kernel, rfl, rfl⟩
theorem eX10_kinds_62 : xK mX10_kinds 62 (nI 0) 63 := Or.inl (⟨0, by decide +kernel, by decide, rfl⟩)
theorem eX10_kinds_63 : x_iload mX10_kinds 63 1 64 := Or.inl ⟨1, by decide +kernel, rfl, rfl⟩
theorem eX10_kinds_64 : x_iload mX10_kinds 64 3 65 := Or.inl ⟨3, by decide +kernel, rfl, rfl⟩
set_option maxRecDepth 20000 in
theorem eX10_kinds_65 : xCV mX10_kinds 65 mX10_sworn 3 10 68 := ⟨153, by decide +kernel, rfl, ⟨cm_X10_153.1, cm_X10_153.2.1, cm_X10_153.2.2.1, cm_X10_153.2.2.2.1, cm_X10_153.2.2.2.2⟩, xT_4 213 rfl rfl, xT_0 30 rfl rfl, _, rfl, rfl⟩
theorem eX10_kinds_68 : x_aload mX10_kinds 68 0 69 := Or.inl ⟨0, by decide +kernel, rfl, rfl⟩
theorem eX10_kinds_69 : xGF mX10_kinds 69 10 19 72 := ⟨35, _, _, by decide +kernel, rfl, fl_X10_35⟩
theorem eX10_kinds_72 : x_iload mX10_kinds 72 5 74 := Or.inr ⟨by decide +kernel, rfl⟩
theorem eX10_kinds_74 : xD mX10_kinds 74 (.iaload) 1 75 := ⟨by decide +kernel, rfl⟩
theorem eX10_kinds_75 : xJ mX10_kinds 75 (.if_icmp .ne) 82 78 := ⟨(7), by decide +kernel, by decide, rfl⟩
theorem eX10_kinds_78 : xK mX10_kinds 78 (nI 1) 79 := Or.inl (⟨1, by decide +kernel, by decide, rfl⟩)
theorem eX10_kinds_79 : xJ mX10_kinds 79 (.goto) 83 82 := ⟨(4), by decide +kernel, by decide, rfl⟩
theorem eX10_kinds_82 : xK mX10_kinds 82 (nI 0) 83 := Or.inl (⟨0, by decide +kernel, by decide, rfl⟩)
theorem eX10_kinds_83 : x_istore mX10_kinds 83 4 85 := Or.inr ⟨by decide +kernel, rfl⟩
theorem eX10_kinds_85 : xD mX10_kinds 85 (.iinc 5 1) 3 88 := ⟨by decide +kernel, rfl⟩
theorem eX10_kinds_88 : xJ mX10_kinds 88 (.goto) 36 91 := ⟨(-52), by decide +kernel, by decide, rfl⟩
theorem eX10_kinds_91 : x_iload mX10_kinds 91 2 92 := Or.inl ⟨2, by decide +kernel, rfl, rfl⟩
theorem eX10_kinds_92 : x_iload mX10_kinds 92 4 94 := Or.inr ⟨by decide +kernel, rfl⟩
theorem eX10_kinds_94 : xJ mX10_kinds 94 (.ifCond .eq) 103 97 := ⟨(9), by decide +kernel, by decide, rfl⟩
theorem eX10_kinds_97 : xK mX10_kinds 97 (nI 1) 98 := Or.inl (⟨1, by decide +kernel, by decide, rfl⟩)
theorem eX10_kinds_98 : x_iload mX10_kinds 98 3 99 := Or.inl ⟨3, by decide +kernel, rfl, rfl⟩
theorem eX10_kinds_99 : xD mX10_kinds 99 (.ishl) 1 100 := ⟨by decide +kernel, rfl⟩
theorem eX10_kinds_100 : xJ mX10_kinds 100 (.goto) 104 103 := ⟨(4), by decide +kernel, by decide, rfl⟩
theorem eX10_kinds_103 : xK mX10_kinds 103 (nI 0) 104 := Or.inl (⟨0, by decide +kernel, by decide, rfl⟩)
theorem eX10_kinds_104 : xD mX10_kinds 104 (.ior) 1 105 := ⟨by decide +kernel, rfl⟩
theorem eX10_kinds_105 : x_istore mX10_kinds 105 2 106 := Or.inl ⟨2, by decide +kernel, rfl, rfl⟩
theorem eX10_kinds_106 : xD mX10_kinds 106 (.iinc 3 1) 3 109 := ⟨by decide +kernel, rfl⟩
theorem eX10_kinds_109 : xJ mX10_kinds 109 (.goto) 25 112 := ⟨(-84), by decide +kernel, by decide, rfl⟩
theorem eX10_kinds_112 : x_iload mX10_kinds 112 2 113 := Or.inl ⟨2, by decide +kernel, rfl, rfl⟩
theorem eX10_kinds_113 : xD mX10_kinds 113 (.ireturn) 1 114 := ⟨by decide +kernel, rfl⟩
theorem eX10_copies_0 : xK mX10_copies 0 (nI 0) 1 := Or.inl (⟨0, by decide +kernel, by decide, rfl⟩)
theorem eX10_copies_1 : x_istore mX10_copies 1 1 2 := Or.inl ⟨1, by decide +kernel, rfl, rfl⟩
theorem eX10_copies_2 : xK mX10_copies 2 (nI 0) 3 := Or.inl (⟨0, by decide +kernel, by decide, rfl⟩)
theorem eX10_copies_3 : x_istore mX10_copies 3 2 4 := Or.inl ⟨2, by decide +kernel, rfl, rfl⟩
theorem eX10_copies_4 : x_iload mX10_copies 4 2 5 := Or.inl ⟨2, by decide +kernel, rfl, rfl⟩
theorem eX10_copies_5 : x_aload mX10_copies 5 0 6 := Or.inl ⟨0, by decide +kernel, rfl, rfl⟩
theorem eX10_copies_6 : xGF mX10_copies 6 10 0 9 := ⟨71, _, _, by decide +kernel, rfl, fl_X10_71⟩
theorem eX10_copies_9 : xJ mX10_copies 9 (.if_icmp .ge) 102 12 := ⟨(93), by decide +kernel, by decide, rfl⟩
theorem eX10_copies_12 : xK mX10_copies 12 (nI 0) 13 := Or.inl (⟨0, by decide +kernel, by decide, rfl⟩)
theorem eX10_copies_13 : x_istore mX10_copies 13 3 14 := Or.inl ⟨3, by decide +kernel, rfl, rfl⟩
theorem eX10_copies_14 : x_iload mX10_copies 14 3 15 := Or.inl ⟨3, by decide +kernel, rfl, rfl⟩
theorem eX10_copies_15 : x_aload mX10_copies 15 0 16 := Or.inl ⟨0, by decide +kernel, rfl, rfl⟩
theorem eX10_copies_16 : xGF mX10_copies 16 10 0 19 := ⟨71, _, _, by decide +kernel, rfl, fl_X10_71⟩
theorem eX10_copies_19 : xJ mX10_copies 19 (.if_icmp .ge) 96 22 := ⟨(77), by decide +kernel, by decide, rfl⟩
theorem eX10_copies_22 : x_aload mX10_copies 22 0 23 := Or.inl ⟨0, by decide +kernel, rfl, rfl⟩
theorem eX10_copies_23 : x_iload mX10_copies 23 2 24 := Or.inl ⟨2, by decide +kernel, rfl, rfl⟩
set_option maxRecDepth 20000 in
theorem eX10_copies_24 : xCV mX10_copies 24 mX10_isIn 1 10 27 := ⟨163, by decide +kernel, rfl, ⟨cm_X10_163.1, cm_X10_163.2.1, cm_X10_163.2.2.1, cm_X10_163.2.2.2.1, cm_X10_163.2.2.2.2⟩, xT_4 206 rfl rfl, xT_0 29 rfl rfl, _, rfl, rfl⟩
theorem eX10_copies_27 : xJ mX10_copies 27 (.ifCond .eq) 72 30 := ⟨(45), by decide +kernel, by decide, rfl⟩
theorem eX10_copies_30 : x_aload mX10_copies 30 0 31 := Or.inl ⟨0, by decide +kernel, rfl, rfl⟩
theorem eX10_copies_31 : x_iload mX10_copies 31 3 32 := Or.inl ⟨3, by decide +kernel, rfl, rfl⟩
set_option maxRecDepth 20000 in
theorem eX10_copies_32 : xCV mX10_copies 32 mX10_isIn 1 10 35 := ⟨163, by decide +kernel, rfl, ⟨cm_X10_163.1, cm_X10_163.2.1, cm_X10_163.2.2.1, cm_X10_163.2.2.2.1, cm_X10_163.2.2.2.2⟩, xT_4 206 rfl rfl, xT_0 29 rfl rfl, _, rfl, rfl⟩
theorem eX10_copies_35 : xJ mX10_copies 35 (.ifCond .eq) 72 38 := ⟨(37), by decide +kernel, by decide, rfl⟩
theorem eX10_copies_38 : x_aload mX10_copies 38 0 39 := Or.inl ⟨0, by decide +kernel, rfl, rfl⟩
theorem eX10_copies_39 : x_iload mX10_copies 39 2 40 := Or.inl ⟨2, by decide +kernel, rfl, rfl⟩
theorem eX10_copies_40 : x_iload mX10_copies 40 3 41 := Or.inl ⟨3, by decide +kernel, rfl, rfl⟩
set_option maxRecDepth 20000 in
theorem eX10_copies_41 : xCV mX10_copies 41 mX10_areNear 2 10 44 := ⟨136, by decide +kernel, rfl, ⟨cm_X10_136.1, cm_X10_136.2.1, cm_X10_136.2.2.1, cm_X10_136.2.2.2.1, cm_X10_136.2.2.2.2⟩, xT_4 225 rfl rfl, xT_0 33 rfl rfl, _, rfl, rfl⟩
theorem eX10_copies_44 : xJ mX10_copies 44 (.ifCond .eq) 72 47 := ⟨(28), by decide +kernel, by decide, rfl⟩
theorem eX10_copies_47 : x_aload mX10_copies 47 0 48 := Or.inl ⟨0, by decide +kernel, rfl, rfl⟩
theorem eX10_copies_48 : xGF mX10_copies 48 10 9 51 := ⟨25, _, _, by decide +kernel, rfl, fl_X10_25⟩
theorem eX10_copies_51 : xK mX10_copies 51 (nI 7) 53 := Or.inr (Or.inl (⟨7, by decide +kernel, by decide, rfl⟩))
theorem eX10_copies_53 : x_iload mX10_copies 53 2 54 := Or.inl ⟨2, by decide +kernel, rfl, rfl⟩
theorem eX10_copies_54 : xD mX10_copies 54 (.iadd) 1 55 := ⟨by decide +kernel, rfl⟩
theorem eX10_copies_55 : xD mX10_copies 55 (.iaload) 1 56 := ⟨by decide +kernel, rfl⟩
theorem eX10_copies_56 : x_aload mX10_copies 56 0 57 := Or.inl ⟨0, by decide +kernel, rfl, rfl⟩
theorem eX10_copies_57 : xGF mX10_copies 57 10 9 60 := ⟨25, _, _, by decide +kernel, rfl, fl_X10_25⟩
theorem eX10_copies_60 : xK mX10_copies 60 (nI 7) 62 := Or.inr (Or.inl (⟨7, by decide +kernel, by decide, rfl⟩))
theorem eX10_copies_62 : x_iload mX10_copies 62 3 63 := Or.inl ⟨3, by decide +kernel, rfl, rfl⟩
theorem eX10_copies_63 : xD mX10_copies 63 (.iadd) 1 64 := ⟨by decide +kernel, rfl⟩
theorem eX10_copies_64 : xD mX10_copies 64 (.iaload) 1 65 := ⟨by decide +kernel, rfl⟩
theorem eX10_copies_65 : xJ mX10_copies 65 (.if_icmp .ne) 72 68 := ⟨(7), by decide +kernel, by decide, rfl⟩
theorem eX10_copies_68 : xK mX10_copies 68 (nI 1) 69 := Or.inl (⟨1, by decide +kernel, by decide, rfl⟩)
theorem eX10_copies_69 : xJ mX10_copies 69 (.goto) 73 72 := ⟨(4), by decide +kernel, by decide, rfl⟩
theorem eX10_copies_72 : xK mX10_copies 72 (nI 0) 73 := Or.inl (⟨0, by decide +kernel, by decide, rfl⟩)
theorem eX10_copies_73 : x_istore mX10_copies 73 4 75 := Or.inr ⟨by decide +kernel, rfl⟩
theorem eX10_copies_75 : x_iload mX10_copies 75 1 76 := Or.inl ⟨1, by decide +kernel, rfl, rfl⟩
theorem eX10_copies_76 : x_iload mX10_copies 76 4 78 := Or.inr ⟨by decide +kernel, rfl⟩
theorem eX10_copies_78 : xJ mX10_copies 78 (.ifCond .eq) 87 81 := ⟨(9), by decide +kernel, by decide, rfl⟩
theorem eX10_copies_81 : xK mX10_copies 81 (nI 1) 82 := Or.inl (⟨1, by decide +kernel, by decide, rfl⟩)
theorem eX10_copies_82 : x_iload mX10_copies 82 2 83 := Or.inl ⟨2, by decide +kernel, rfl, rfl⟩
theorem eX10_copies_83 : xD mX10_copies 83 (.ishl) 1 84 := ⟨by decide +kernel, rfl⟩
theorem eX10_copies_84 : xJ mX10_copies 84 (.goto) 88 87 := ⟨(4), by decide +kernel, by decide, rfl⟩
theorem eX10_copies_87 : xK mX10_copies 87 (nI 0) 88 := Or.inl (⟨0, by decide +kernel, by decide, rfl⟩)
theorem eX10_copies_88 : xD mX10_copies 88 (.ior) 1 89 := ⟨by decide +kernel, rfl⟩
theorem eX10_copies_89 : x_istore mX10_copies 89 1 90 := Or.inl ⟨1, by decide +kernel, rfl, rfl⟩
theorem eX10_copies_90 : xD mX10_copies 90 (.iinc 3 1) 3 93 := ⟨by decide +kernel, rfl⟩
theorem eX10_copies_93 : xJ mX10_copies 93 (.goto) 14 96 := ⟨(-79), by decide +kernel, by decide, rfl⟩
theorem eX10_copies_96 : xD mX10_copies 96 (.iinc 2 1) 3 99 := ⟨by decide +kernel, rfl⟩
theorem eX10_copies_99 : xJ mX10_copies 99 (.goto) 4 102 := ⟨(-95), by decide +kernel, by decide, rfl⟩
theorem eX10_copies_102 : x_iload mX10_copies 102 1 103 := Or.inl ⟨1, by decide +kernel, rfl, rfl⟩
theorem eX10_copies_103 : xD mX10_copies 103 (.ireturn) 1 104 := ⟨by decide +kernel, rfl⟩
theorem eX10_agree_0 : x_aload mX10_agree 0 0 1 := Or.inl ⟨0, by decide +kernel, rfl, rfl⟩
theorem eX10_agree_1 : x_iload mX10_agree 1 1 2 := Or.inl ⟨1, by decide +kernel, rfl, rfl⟩
set_option maxRecDepth 20000 in
theorem eX10_agree_2 : xCV mX10_agree 2 mX10_isVillage 1 10 5 := ⟨157, by decide +kernel, rfl, ⟨cm_X10_157.1, cm_X10_157.2.1, cm_X10_157.2.2.1, cm_X10_157.2.2.2.1, cm_X10_157.2.2.2.2⟩, xT_4 201 rfl rfl, xT_0 28 rfl rfl, _, rfl, rfl⟩
theorem eX10_agree_5 : xJ mX10_agree 5 (.ifCond .eq) 21 8 := ⟨(16), by decide +kernel, by decide, rfl⟩
theorem eX10_agree_8 : x_aload mX10_agree 8 0 9 := Or.inl ⟨0, by decide +kernel, rfl, rfl⟩
theorem eX10_agree_9 : x_iload mX10_agree 9 2 10 := Or.inl ⟨2, by decide +kernel, rfl, rfl⟩
set_option maxRecDepth 20000 in
theorem eX10_agree_10 : xCV mX10_agree 10 mX10_isVillage 1 10 13 := ⟨157, by decide +kernel, rfl, ⟨cm_X10_157.1, cm_X10_157.2.1, cm_X10_157.2.2.1, cm_X10_157.2.2.2.1, cm_X10_157.2.2.2.2⟩, xT_4 201 rfl rfl, xT_0 28 rfl rfl, _, rfl, rfl⟩
theorem eX10_agree_13 : xJ mX10_agree 13 (.ifCond .eq) 21 16 := ⟨(8), by decide +kernel, by decide, rfl⟩
theorem eX10_agree_16 : x_iload mX10_agree 16 1 17 := Or.inl ⟨1, by decide +kernel, rfl, rfl⟩
theorem eX10_agree_17 : x_iload mX10_agree 17 2 18 := Or.inl ⟨2, by decide +kernel, rfl, rfl⟩
theorem eX10_agree_18 : xJ mX10_agree 18 (.if_icmp .ne) 23 21 := ⟨(5), by decide +kernel, by decide, rfl⟩
theorem eX10_agree_21 : xK mX10_agree 21 ((-1)) 22 := Or.inl (⟨(-1), by decide +kernel, by decide, rfl⟩)
theorem eX10_agree_22 : xD mX10_agree 22 (.ireturn) 1 23 := ⟨by decide +kernel, rfl⟩
theorem eX10_agree_23 : x_aload mX10_agree 23 0 24 := Or.inl ⟨0, by decide +kernel, rfl, rfl⟩
theorem eX10_agree_24 : x_iload mX10_agree 24 1 25 := Or.inl ⟨1, by decide +kernel, rfl, rfl⟩
set_option maxRecDepth 20000 in
theorem eX10_agree_25 : xCV mX10_agree 25 mX10_isIn 1 10 28 := ⟨163, by decide +kernel, rfl, ⟨cm_X10_163.1, cm_X10_163.2.1, cm_X10_163.2.2.1, cm_X10_163.2.2.2.1, cm_X10_163.2.2.2.2⟩, xT_4 206 rfl rfl, xT_0 29 rfl rfl, _, rfl, rfl⟩
theorem eX10_agree_28 : xJ mX10_agree 28 (.ifCond .eq) 39 31 := ⟨(11), by decide +kernel, by decide, rfl⟩
theorem eX10_agree_31 : x_aload mX10_agree 31 0 32 := Or.inl ⟨0, by decide +kernel, rfl, rfl⟩
theorem eX10_agree_32 : x_iload mX10_agree 32 2 33 := Or.inl ⟨2, by decide +kernel, rfl, rfl⟩
set_option maxRecDepth 20000 in
theorem eX10_agree_33 : xCV mX10_agree 33 mX10_isIn 1 10 36 := ⟨163, by decide +kernel, rfl, ⟨cm_X10_163.1, cm_X10_163.2.1, cm_X10_163.2.2.1, cm_X10_163.2.2.2.1, cm_X10_163.2.2.2.2⟩, xT_4 206 rfl rfl, xT_0 29 rfl rfl, _, rfl, rfl⟩
theorem eX10_agree_36 : xJ mX10_agree 36 (.ifCond .ne) 42 39 := ⟨(6), by decide +kernel, by decide, rfl⟩
theorem eX10_agree_39 : xK mX10_agree 39 ((-2)) 41 := Or.inr (Or.inl (⟨(-2), by decide +kernel, by decide, rfl⟩))
theorem eX10_agree_41 : xD mX10_agree 41 (.ireturn) 1 42 := ⟨by decide +kernel, rfl⟩
theorem eX10_agree_42 : x_aload mX10_agree 42 0 43 := Or.inl ⟨0, by decide +kernel, rfl, rfl⟩
theorem eX10_agree_43 : xGF mX10_agree 43 10 9 46 := ⟨25, _, _, by decide +kernel, rfl, fl_X10_25⟩
theorem eX10_agree_46 : xK mX10_agree 46 (nI 7) 48 := Or.inr (Or.inl (⟨7, by decide +kernel, by decide, rfl⟩))
theorem eX10_agree_48 : x_iload mX10_agree 48 1 49 := Or.inl ⟨1, by decide +kernel, rfl, rfl⟩
theorem eX10_agree_49 : xD mX10_agree 49 (.iadd) 1 50 := ⟨by decide +kernel, rfl⟩
theorem eX10_agree_50 : xD mX10_agree 50 (.iaload) 1 51 := ⟨by decide +kernel, rfl⟩
theorem eX10_agree_51 : x_aload mX10_agree 51 0 52 := Or.inl ⟨0, by decide +kernel, rfl, rfl⟩
theorem eX10_agree_52 : xGF mX10_agree 52 10 9 55 := ⟨25, _, _, by decide +kernel, rfl, fl_X10_25⟩
theorem eX10_agree_55 : xK mX10_agree 55 (nI 7) 57 := Or.inr (Or.inl (⟨7, by decide +kernel, by decide, rfl⟩))
theorem eX10_agree_57 : x_iload mX10_agree 57 2 58 := Or.inl ⟨2, by decide +kernel, rfl, rfl⟩
theorem eX10_agree_58 : xD mX10_agree 58 (.iadd) 1 59 := ⟨by decide +kernel, rfl⟩
theorem eX10_agree_59 : xD mX10_agree 59 (.iaload) 1 60 := ⟨by decide +kernel, rfl⟩
theorem eX10_agree_60 : xD mX10_agree 60 (.iadd) 1 61 := ⟨by decide +kernel, rfl⟩
theorem eX10_agree_61 : x_aload mX10_agree 61 0 62 := Or.inl ⟨0, by decide +kernel, rfl, rfl⟩
theorem eX10_agree_62 : xGF mX10_agree 62 10 9 65 := ⟨25, _, _, by decide +kernel, rfl, fl_X10_25⟩
theorem eX10_agree_65 : x_iload mX10_agree 65 1 66 := Or.inl ⟨1, by decide +kernel, rfl, rfl⟩
theorem eX10_agree_66 : xD mX10_agree 66 (.iaload) 1 67 := ⟨by decide +kernel, rfl⟩
theorem eX10_agree_67 : x_aload mX10_agree 67 0 68 := Or.inl ⟨0, by decide +kernel, rfl, rfl⟩
theorem eX10_agree_68 : xGF mX10_agree 68 10 9 71 := ⟨25, _, _, by decide +kernel, rfl, fl_X10_25⟩
theorem eX10_agree_71 : x_iload mX10_agree 71 2 72 := Or.inl ⟨2, by decide +kernel, rfl, rfl⟩
theorem eX10_agree_72 : xD mX10_agree 72 (.iaload) 1 73 := ⟨by decide +kernel, rfl⟩
theorem eX10_agree_73 : xD mX10_agree 73 (.iadd) 1 74 := ⟨by decide +kernel, rfl⟩
theorem eX10_agree_74 : xJ mX10_agree 74 (.if_icmp .ne) 81 77 := ⟨(7), by decide +kernel, by decide, rfl⟩
theorem eX10_agree_77 : xK mX10_agree 77 (nI 1) 78 := Or.inl (⟨1, by decide +kernel, by decide, rfl⟩)
theorem eX10_agree_78 : xJ mX10_agree 78 (.goto) 82 81 := ⟨(4), by decide +kernel, by decide, rfl⟩
theorem eX10_agree_81 : xK mX10_agree 81 (nI 0) 82 := Or.inl (⟨0, by decide +kernel, by decide, rfl⟩)
theorem eX10_agree_82 : xD mX10_agree 82 (.ireturn) 1 83 := ⟨by decide +kernel, rfl⟩
theorem eX10_honest_0 : x_iload mX10_honest 0 1 1 := Or.inl ⟨1, by decide +kernel, rfl, rfl⟩
theorem eX10_honest_1 : xD mX10_honest 1 (.i2l) 1 2 := ⟨by decide +kernel, rfl⟩
theorem eX10_honest_2 : xKL mX10_honest 2 (0) 3 := Or.inl ⟨0, by decide +kernel, by decide, rfl⟩
set_option maxRecDepth 20000 in
theorem eX10_honest_3 : xKL mX10_honest 3 (500) 6 := Or.inr ⟨241, by decide +kernel, xT_5 134 rfl rfl, rfl⟩
set_option maxRecDepth 20000 in
theorem eX10_honest_6 : xCS mX10_honest 6 mX10_in 3 9 := ⟨81, by decide +kernel, rfl, ⟨cm_X10_81.1, cm_X10_81.2.1, cm_X10_81.2.2.1, cm_X10_81.2.2.2.1, cm_X10_81.2.2.2.2⟩, xT_4 155 rfl rfl⟩
theorem eX10_honest_9 : xJ mX10_honest 9 (.ifCond .eq) 34 12 := ⟨(25), by decide +kernel, by decide, rfl⟩
theorem eX10_honest_12 : x_iload mX10_honest 12 2 13 := Or.inl ⟨2, by decide +kernel, rfl, rfl⟩
theorem eX10_honest_13 : xD mX10_honest 13 (.i2l) 1 14 := ⟨by decide +kernel, rfl⟩
theorem eX10_honest_14 : xKL mX10_honest 14 (0) 15 := Or.inl ⟨0, by decide +kernel, by decide, rfl⟩
set_option maxRecDepth 20000 in
theorem eX10_honest_15 : xKL mX10_honest 15 (10) 18 := Or.inr ⟨243, by decide +kernel, xT_5 135 rfl rfl, rfl⟩
set_option maxRecDepth 20000 in
theorem eX10_honest_18 : xCS mX10_honest 18 mX10_in 3 21 := ⟨81, by decide +kernel, rfl, ⟨cm_X10_81.1, cm_X10_81.2.1, cm_X10_81.2.2.1, cm_X10_81.2.2.2.1, cm_X10_81.2.2.2.2⟩, xT_4 155 rfl rfl⟩
theorem eX10_honest_21 : xJ mX10_honest 21 (.ifCond .eq) 34 24 := ⟨(13), by decide +kernel, by decide, rfl⟩
theorem eX10_honest_24 : x_iload mX10_honest 24 3 25 := Or.inl ⟨3, by decide +kernel, rfl, rfl⟩
theorem eX10_honest_25 : xD mX10_honest 25 (.i2l) 1 26 := ⟨by decide +kernel, rfl⟩
theorem eX10_honest_26 : xKL mX10_honest 26 (0) 27 := Or.inl ⟨0, by decide +kernel, by decide, rfl⟩
theorem eX10_honest_27 : xKL mX10_honest 27 (1) 28 := Or.inl ⟨1, by decide +kernel, by decide, rfl⟩
set_option maxRecDepth 20000 in
theorem eX10_honest_28 : xCS mX10_honest 28 mX10_in 3 31 := ⟨81, by decide +kernel, rfl, ⟨cm_X10_81.1, cm_X10_81.2.1, cm_X10_81.2.2.1, cm_X10_81.2.2.2.1, cm_X10_81.2.2.2.2⟩, xT_4 155 rfl rfl⟩
theorem eX10_honest_31 : xJ mX10_honest 31 (.ifCond .ne) 36 34 := ⟨(5), by decide +kernel, by decide, rfl⟩
theorem eX10_honest_34 : xK mX10_honest 34 ((-1)) 35 := Or.inl (⟨(-1), by decide +kernel, by decide, rfl⟩)
theorem eX10_honest_35 : xD mX10_honest 35 (.ireturn) 1 36 := ⟨by decide +kernel, rfl⟩
theorem eX10_honest_36 : x_aload mX10_honest 36 0 37 := Or.inl ⟨0, by decide +kernel, rfl, rfl⟩
set_option maxRecDepth 20000 in
theorem eX10_honest_37 : xCV mX10_honest 37 mX10_lists 0 10 40 := ⟨215, by decide +kernel, rfl, ⟨cm_X10_215.1, cm_X10_215.2.1, cm_X10_215.2.2.1, cm_X10_215.2.2.2.1, cm_X10_215.2.2.2.2⟩, xT_5 83 rfl rfl, xT_0 48 rfl rfl, _, rfl, rfl⟩
theorem eX10_honest_40 : xK mX10_honest 40 (nI 0) 41 := Or.inl (⟨0, by decide +kernel, by decide, rfl⟩)
theorem eX10_honest_41 : x_istore mX10_honest 41 4 43 := Or.inr ⟨by decide +kernel, rfl⟩
theorem eX10_honest_43 : xK mX10_honest 43 (nI 0) 44 := Or.inl (⟨0, by decide +kernel, by decide, rfl⟩)
theorem eX10_honest_44 : x_istore mX10_honest 44 5 46 := Or.inr ⟨by decide +kernel, rfl⟩
theorem eX10_honest_46 : xK mX10_honest 46 (nI 0) 47 := Or.inl (⟨0, by decide +kernel, by decide, rfl⟩)
theorem eX10_honest_47 : x_istore mX10_honest 47 6 49 := Or.inr ⟨by decide +kernel, rfl⟩
theorem eX10_honest_49 : x_iload mX10_honest 49 6 51 := Or.inr ⟨by decide +kernel, rfl⟩
theorem eX10_honest_51 : xK mX10_honest 51 (nI 1) 52 := Or.inl (⟨1, by decide +kernel, by decide, rfl⟩)
theorem eX10_honest_52 : x_aload mX10_honest 52 0 53 := Or.inl ⟨0, by decide +kernel, rfl, rfl⟩
theorem eX10_honest_53 : xGF mX10_honest 53 10 23 56 := ⟨209, _, _, by decide +kernel, rfl, fl_X10_209⟩
theorem eX10_honest_56 : xD mX10_honest 56 (.ishl) 1 57 := ⟨by decide +kernel, rfl⟩
theorem eX10_honest_57 : xJ mX10_honest 57 (.if_icmp .ge) 281 60 := ⟨(224), by decide +kernel, by decide, rfl⟩
theorem eX10_honest_60 : xK mX10_honest 60 (nI 1) 61 := Or.inl (⟨1, by decide +kernel, by decide, rfl⟩)
theorem eX10_honest_61 : x_istore mX10_honest 61 7 63 := Or.inr ⟨by decide +kernel, rfl⟩
theorem eX10_honest_63 : x_aload mX10_honest 63 0 64 := Or.inl ⟨0, by decide +kernel, rfl, rfl⟩
theorem eX10_honest_64 : xK mX10_honest 64 (nI 0) 65 := Or.inl (⟨0, by decide +kernel, by decide, rfl⟩)
theorem eX10_honest_65 : xK mX10_honest 65 (nI 242) 68 := Or.inr (Or.inr (Or.inl (⟨242, by decide +kernel, by decide, rfl⟩)))
set_option maxRecDepth 20000 in
theorem eX10_honest_68 : xCV mX10_honest 68 mX10_copied 2 10 71 := ⟨124, by decide +kernel, rfl, ⟨cm_X10_124.1, cm_X10_124.2.1, cm_X10_124.2.2.1, cm_X10_124.2.2.2.1, cm_X10_124.2.2.2.2⟩, xT_4 193 rfl rfl, xT_0 27 rfl rfl, _, rfl, rfl⟩
theorem eX10_honest_71 : xK mX10_honest 71 (nI 0) 72 := Or.inl (⟨0, by decide +kernel, by decide, rfl⟩)
theorem eX10_honest_72 : x_istore mX10_honest 72 8 74 := Or.inr ⟨by decide +kernel, rfl⟩
theorem eX10_honest_74 : x_iload mX10_honest 74 8 76 := Or.inr ⟨by decide +kernel, rfl⟩
theorem eX10_honest_76 : x_aload mX10_honest 76 0 77 := Or.inl ⟨0, by decide +kernel, rfl, rfl⟩
theorem eX10_honest_77 : xGF mX10_honest 77 10 23 80 := ⟨209, _, _, by decide +kernel, rfl, fl_X10_209⟩
theorem eX10_honest_80 : xJ mX10_honest 80 (.if_icmp .ge) 164 83 := ⟨(84), by decide +kernel, by decide, rfl⟩
theorem eX10_honest_83 : x_iload mX10_honest 83 7 85 := Or.inr ⟨by decide +kernel, rfl⟩
theorem eX10_honest_85 : x_iload mX10_honest 85 6 87 := Or.inr ⟨by decide +kernel, rfl⟩
theorem eX10_honest_87 : x_iload mX10_honest 87 8 89 := Or.inr ⟨by decide +kernel, rfl⟩
set_option maxRecDepth 20000 in
theorem eX10_honest_89 : xCS mX10_honest 89 mX10_has 2 92 := ⟨144, by decide +kernel, rfl, ⟨cm_X10_144.1, cm_X10_144.2.1, cm_X10_144.2.2.1, cm_X10_144.2.2.2.1, cm_X10_144.2.2.2.2⟩, xT_4 209 rfl rfl⟩
theorem eX10_honest_92 : xJ mX10_honest 92 (.ifCond .eq) 99 95 := ⟨(7), by decide +kernel, by decide, rfl⟩
theorem eX10_honest_95 : x_iload mX10_honest 95 2 96 := Or.inl ⟨2, by decide +kernel, rfl, rfl⟩
theorem eX10_honest_96 : xJ mX10_honest 96 (.goto) 103 99 := ⟨(7), by decide +kernel, by decide, rfl⟩
theorem eX10_honest_99 : xK mX10_honest 99 (nI 10) 101 := Or.inr (Or.inl (⟨10, by decide +kernel, by decide, rfl⟩))
theorem eX10_honest_101 : x_iload mX10_honest 101 2 102 := Or.inl ⟨2, by decide +kernel, rfl, rfl⟩
theorem eX10_honest_102 : xD mX10_honest 102 (.isub) 1 103 := ⟨by decide +kernel, rfl⟩
theorem eX10_honest_103 : xD mX10_honest 103 (.imul) 1 104 := ⟨by decide +kernel, rfl⟩
theorem eX10_honest_104 : x_istore mX10_honest 104 7 106 := Or.inr ⟨by decide +kernel, rfl⟩
theorem eX10_honest_106 : x_aload mX10_honest 106 0 107 := Or.inl ⟨0, by decide +kernel, rfl, rfl⟩
theorem eX10_honest_107 : xGF mX10_honest 107 10 25 110 := ⟨47, _, _, by decide +kernel, rfl, fl_X10_47⟩
theorem eX10_honest_110 : x_iload mX10_honest 110 8 112 := Or.inr ⟨by decide +kernel, rfl⟩
theorem eX10_honest_112 : x_aload mX10_honest 112 0 113 := Or.inl ⟨0, by decide +kernel, rfl, rfl⟩
theorem eX10_honest_113 : xGF mX10_honest 113 10 1 116 := ⟨7, _, _, by decide +kernel, rfl, fl_X10_7⟩
theorem eX10_honest_116 : x_aload mX10_honest 116 0 117 := Or.inl ⟨0, by decide +kernel, rfl, rfl⟩
theorem eX10_honest_117 : xGF mX10_honest 117 10 24 120 := ⟨44, _, _, by decide +kernel, rfl, fl_X10_44⟩
theorem eX10_honest_120 : x_iload mX10_honest 120 8 122 := Or.inr ⟨by decide +kernel, rfl⟩
theorem eX10_honest_122 : xD mX10_honest 122 (.iaload) 1 123 := ⟨by decide +kernel, rfl⟩
theorem eX10_honest_123 : xD mX10_honest 123 (.iaload) 1 124 := ⟨by decide +kernel, rfl⟩
theorem eX10_honest_124 : xD mX10_honest 124 (.iastore) 1 125 := ⟨by decide +kernel, rfl⟩
theorem eX10_honest_125 : x_aload mX10_honest 125 0 126 := Or.inl ⟨0, by decide +kernel, rfl, rfl⟩
theorem eX10_honest_126 : xGF mX10_honest 126 10 1 129 := ⟨7, _, _, by decide +kernel, rfl, fl_X10_7⟩
theorem eX10_honest_129 : x_aload mX10_honest 129 0 130 := Or.inl ⟨0, by decide +kernel, rfl, rfl⟩
theorem eX10_honest_130 : xGF mX10_honest 130 10 24 133 := ⟨44, _, _, by decide +kernel, rfl, fl_X10_44⟩
theorem eX10_honest_133 : x_iload mX10_honest 133 8 135 := Or.inr ⟨by decide +kernel, rfl⟩
theorem eX10_honest_135 : xD mX10_honest 135 (.iaload) 1 136 := ⟨by decide +kernel, rfl⟩
theorem eX10_honest_136 : x_iload mX10_honest 136 6 138 := Or.inr ⟨by decide +kernel, rfl⟩
theorem eX10_honest_138 : x_iload mX10_honest 138 8 140 := Or.inr ⟨by decide +kernel, rfl⟩
set_option maxRecDepth 20000 in
theorem eX10_honest_140 : xCS mX10_honest 140 mX10_has 2 143 := ⟨144, by decide +kernel, rfl, ⟨cm_X10_144.1, cm_X10_144.2.1, cm_X10_144.2.2.1, cm_X10_144.2.2.2.1, cm_X10_144.2.2.2.2⟩, xT_4 209 rfl rfl⟩
theorem eX10_honest_143 : xJ mX10_honest 143 (.ifCond .eq) 150 146 := ⟨(7), by decide +kernel, by decide, rfl⟩
theorem eX10_honest_146 : xK mX10_honest 146 (nI 0) 147 := Or.inl (⟨0, by decide +kernel, by decide, rfl⟩)
theorem eX10_honest_147 : xJ mX10_honest 147 (.goto) 157 150 := ⟨(10), by decide +kernel, by decide, rfl⟩
theorem eX10_honest_150 : x_aload mX10_honest 150 0 151 := Or.inl ⟨0, by decide +kernel, rfl, rfl⟩
theorem eX10_honest_151 : xGF mX10_honest 151 10 25 154 := ⟨47, _, _, by decide +kernel, rfl, fl_X10_47⟩
theorem eX10_honest_154 : x_iload mX10_honest 154 8 156 := Or.inr ⟨by decide +kernel, rfl⟩
theorem eX10_honest_156 : xD mX10_honest 156 (.iaload) 1 157 := ⟨by decide +kernel, rfl⟩
theorem eX10_honest_157 : xD mX10_honest 157 (.iastore) 1 158 := ⟨by decide +kernel, rfl⟩
theorem eX10_honest_158 : xD mX10_honest 158 (.iinc 8 1) 3 161 := ⟨by decide +kernel, rfl⟩
theorem eX10_honest_161 : xJ mX10_honest 161 (.goto) 74 164 := ⟨(-87), by decide +kernel, by decide, rfl⟩
theorem eX10_honest_164 : xK mX10_honest 164 (nI 0) 165 := Or.inl (⟨0, by decide +kernel, by decide, rfl⟩)
theorem eX10_honest_165 : x_istore mX10_honest 165 8 167 := Or.inr ⟨by decide +kernel, rfl⟩
theorem eX10_honest_167 : xK mX10_honest 167 (nI 0) 168 := Or.inl (⟨0, by decide +kernel, by decide, rfl⟩)
theorem eX10_honest_168 : x_istore mX10_honest 168 9 170 := Or.inr ⟨by decide +kernel, rfl⟩
theorem eX10_honest_170 : x_iload mX10_honest 170 9 172 := Or.inr ⟨by decide +kernel, rfl⟩
theorem eX10_honest_172 : x_aload mX10_honest 172 0 173 := Or.inl ⟨0, by decide +kernel, rfl, rfl⟩
theorem eX10_honest_173 : xGF mX10_honest 173 10 23 176 := ⟨209, _, _, by decide +kernel, rfl, fl_X10_209⟩
theorem eX10_honest_176 : xJ mX10_honest 176 (.if_icmp .ge) 204 179 := ⟨(28), by decide +kernel, by decide, rfl⟩
theorem eX10_honest_179 : x_iload mX10_honest 179 8 181 := Or.inr ⟨by decide +kernel, rfl⟩
theorem eX10_honest_181 : x_aload mX10_honest 181 0 182 := Or.inl ⟨0, by decide +kernel, rfl, rfl⟩
theorem eX10_honest_182 : xK mX10_honest 182 (nI 242) 185 := Or.inr (Or.inr (Or.inl (⟨242, by decide +kernel, by decide, rfl⟩)))
theorem eX10_honest_185 : x_aload mX10_honest 185 0 186 := Or.inl ⟨0, by decide +kernel, rfl, rfl⟩
theorem eX10_honest_186 : xGF mX10_honest 186 10 24 189 := ⟨44, _, _, by decide +kernel, rfl, fl_X10_44⟩
theorem eX10_honest_189 : x_iload mX10_honest 189 9 191 := Or.inr ⟨by decide +kernel, rfl⟩
theorem eX10_honest_191 : xD mX10_honest 191 (.iaload) 1 192 := ⟨by decide +kernel, rfl⟩
set_option maxRecDepth 20000 in
theorem eX10_honest_192 : xCV mX10_honest 192 mX10_writes 2 10 195 := ⟨166, by decide +kernel, rfl, ⟨cm_X10_166.1, cm_X10_166.2.1, cm_X10_166.2.2.1, cm_X10_166.2.2.2.1, cm_X10_166.2.2.2.2⟩, xT_5 17 rfl rfl, xT_0 38 rfl rfl, _, rfl, rfl⟩
theorem eX10_honest_195 : xD mX10_honest 195 (.iadd) 1 196 := ⟨by decide +kernel, rfl⟩
theorem eX10_honest_196 : x_istore mX10_honest 196 8 198 := Or.inr ⟨by decide +kernel, rfl⟩
theorem eX10_honest_198 : xD mX10_honest 198 (.iinc 9 1) 3 201 := ⟨by decide +kernel, rfl⟩
theorem eX10_honest_201 : xJ mX10_honest 201 (.goto) 170 204 := ⟨(-31), by decide +kernel, by decide, rfl⟩
theorem eX10_honest_204 : x_iload mX10_honest 204 5 206 := Or.inr ⟨by decide +kernel, rfl⟩
theorem eX10_honest_206 : x_iload mX10_honest 206 7 208 := Or.inr ⟨by decide +kernel, rfl⟩
theorem eX10_honest_208 : xD mX10_honest 208 (.iadd) 1 209 := ⟨by decide +kernel, rfl⟩
theorem eX10_honest_209 : x_istore mX10_honest 209 5 211 := Or.inr ⟨by decide +kernel, rfl⟩
theorem eX10_honest_211 : x_iload mX10_honest 211 4 213 := Or.inr ⟨by decide +kernel, rfl⟩
theorem eX10_honest_213 : x_iload mX10_honest 213 8 215 := Or.inr ⟨by decide +kernel, rfl⟩
theorem eX10_honest_215 : xJ mX10_honest 215 (.ifCond .lt) 234 218 := ⟨(19), by decide +kernel, by decide, rfl⟩
theorem eX10_honest_218 : x_aload mX10_honest 218 0 219 := Or.inl ⟨0, by decide +kernel, rfl, rfl⟩
theorem eX10_honest_219 : xK mX10_honest 219 (nI 242) 222 := Or.inr (Or.inr (Or.inl (⟨242, by decide +kernel, by decide, rfl⟩)))
set_option maxRecDepth 20000 in
theorem eX10_honest_222 : xCV mX10_honest 222 mX10_found 1 10 225 := ⟨218, by decide +kernel, rfl, ⟨cm_X10_218.1, cm_X10_218.2.1, cm_X10_218.2.2.1, cm_X10_218.2.2.2.1, cm_X10_218.2.2.2.2⟩, xT_5 87 rfl rfl, xT_0 49 rfl rfl, _, rfl, rfl⟩
theorem eX10_honest_225 : x_iload mX10_honest 225 1 226 := Or.inl ⟨1, by decide +kernel, rfl, rfl⟩
theorem eX10_honest_226 : xJ mX10_honest 226 (.if_icmp .lt) 234 229 := ⟨(8), by decide +kernel, by decide, rfl⟩
theorem eX10_honest_229 : x_iload mX10_honest 229 7 231 := Or.inr ⟨by decide +kernel, rfl⟩
theorem eX10_honest_231 : xJ mX10_honest 231 (.goto) 235 234 := ⟨(4), by decide +kernel, by decide, rfl⟩
theorem eX10_honest_234 : xK mX10_honest 234 (nI 0) 235 := Or.inl (⟨0, by decide +kernel, by decide, rfl⟩)
theorem eX10_honest_235 : xD mX10_honest 235 (.iadd) 1 236 := ⟨by decide +kernel, rfl⟩
theorem eX10_honest_236 : x_istore mX10_honest 236 4 238 := Or.inr ⟨by decide +kernel, rfl⟩
theorem eX10_honest_238 : xK mX10_honest 238 (nI 0) 239 := Or.inl (⟨0, by decide +kernel, by decide, rfl⟩)
theorem eX10_honest_239 : x_istore mX10_honest 239 9 241 := Or.inr ⟨by decide +kernel, rfl⟩
theorem eX10_honest_241 : x_iload mX10_honest 241 9 243 := Or.inr ⟨by decide +kernel, rfl⟩
theorem eX10_honest_243 : x_aload mX10_honest 243 0 244 := Or.inl ⟨0, by decide +kernel, rfl, rfl⟩
theorem eX10_honest_244 : xGF mX10_honest 244 10 23 247 := ⟨209, _, _, by decide +kernel, rfl, fl_X10_209⟩
theorem eX10_honest_247 : xJ mX10_honest 247 (.if_icmp .ge) 275 250 := ⟨(28), by decide +kernel, by decide, rfl⟩
theorem eX10_honest_250 : x_aload mX10_honest 250 0 251 := Or.inl ⟨0, by decide +kernel, rfl, rfl⟩
theorem eX10_honest_251 : xGF mX10_honest 251 10 1 254 := ⟨7, _, _, by decide +kernel, rfl, fl_X10_7⟩
theorem eX10_honest_254 : x_aload mX10_honest 254 0 255 := Or.inl ⟨0, by decide +kernel, rfl, rfl⟩
theorem eX10_honest_255 : xGF mX10_honest 255 10 24 258 := ⟨44, _, _, by decide +kernel, rfl, fl_X10_44⟩
theorem eX10_honest_258 : x_iload mX10_honest 258 9 260 := Or.inr ⟨by decide +kernel, rfl⟩
theorem eX10_honest_260 : xD mX10_honest 260 (.iaload) 1 261 := ⟨by decide +kernel, rfl⟩
theorem eX10_honest_261 : x_aload mX10_honest 261 0 262 := Or.inl ⟨0, by decide +kernel, rfl, rfl⟩
theorem eX10_honest_262 : xGF mX10_honest 262 10 25 265 := ⟨47, _, _, by decide +kernel, rfl, fl_X10_47⟩
theorem eX10_honest_265 : x_iload mX10_honest 265 9 267 := Or.inr ⟨by decide +kernel, rfl⟩
theorem eX10_honest_267 : xD mX10_honest 267 (.iaload) 1 268 := ⟨by decide +kernel, rfl⟩
theorem eX10_honest_268 : xD mX10_honest 268 (.iastore) 1 269 := ⟨by decide +kernel, rfl⟩
theorem eX10_honest_269 : xD mX10_honest 269 (.iinc 9 1) 3 272 := ⟨by decide +kernel, rfl⟩
theorem eX10_honest_272 : xJ mX10_honest 272 (.goto) 241 275 := ⟨(-31), by decide +kernel, by decide, rfl⟩
theorem eX10_honest_275 : xD mX10_honest 275 (.iinc 6 1) 3 278 := ⟨by decide +kernel, rfl⟩
theorem eX10_honest_278 : xJ mX10_honest 278 (.goto) 49 281 := ⟨(-229), by decide +kernel, by decide, rfl⟩
theorem eX10_honest_281 : x_iload mX10_honest 281 4 283 := Or.inr ⟨by decide +kernel, rfl⟩
theorem eX10_honest_283 : x_istore mX10_honest 283 6 285 := Or.inr ⟨by decide +kernel, rfl⟩
theorem eX10_honest_285 : x_iload mX10_honest 285 5 287 := Or.inr ⟨by decide +kernel, rfl⟩
theorem eX10_honest_287 : x_istore mX10_honest 287 7 289 := Or.inr ⟨by decide +kernel, rfl⟩
theorem eX10_honest_289 : x_iload mX10_honest 289 7 291 := Or.inr ⟨by decide +kernel, rfl⟩
theorem eX10_honest_291 : xJ mX10_honest 291 (.ifCond .eq) 312 294 := ⟨(21), by decide +kernel, by decide, rfl⟩
theorem eX10_honest_294 : x_iload mX10_honest 294 6 296 := Or.inr ⟨by decide +kernel, rfl⟩
theorem eX10_honest_296 : x_iload mX10_honest 296 7 298 := Or.inr ⟨by decide +kernel, rfl⟩
theorem eX10_honest_298 : xD mX10_honest 298 (.irem) 1 299 := ⟨by decide +kernel, rfl⟩
theorem eX10_honest_299 : x_istore mX10_honest 299 8 301 := Or.inr ⟨by decide +kernel, rfl⟩
theorem eX10_honest_301 : x_iload mX10_honest 301 7 303 := Or.inr ⟨by decide +kernel, rfl⟩
theorem eX10_honest_303 : x_istore mX10_honest 303 6 305 := Or.inr ⟨by decide +kernel, rfl⟩
theorem eX10_honest_305 : x_iload mX10_honest 305 8 307 := Or.inr ⟨by decide +kernel, rfl⟩
theorem eX10_honest_307 : x_istore mX10_honest 307 7 309 := Or.inr ⟨by decide +kernel, rfl⟩
theorem eX10_honest_309 : xJ mX10_honest 309 (.goto) 289 312 := ⟨(-20), by decide +kernel, by decide, rfl⟩
theorem eX10_honest_312 : x_iload mX10_honest 312 3 313 := Or.inl ⟨3, by decide +kernel, rfl, rfl⟩
theorem eX10_honest_313 : xJ mX10_honest 313 (.ifCond .ne) 324 316 := ⟨(11), by decide +kernel, by decide, rfl⟩
theorem eX10_honest_316 : x_iload mX10_honest 316 4 318 := Or.inr ⟨by decide +kernel, rfl⟩
theorem eX10_honest_318 : x_iload mX10_honest 318 6 320 := Or.inr ⟨by decide +kernel, rfl⟩
theorem eX10_honest_320 : xD mX10_honest 320 (.idiv) 1 321 := ⟨by decide +kernel, rfl⟩
theorem eX10_honest_321 : xJ mX10_honest 321 (.goto) 329 324 := ⟨(8), by decide +kernel, by decide, rfl⟩
theorem eX10_honest_324 : x_iload mX10_honest 324 5 326 := Or.inr ⟨by decide +kernel, rfl⟩
theorem eX10_honest_326 : x_iload mX10_honest 326 6 328 := Or.inr ⟨by decide +kernel, rfl⟩
theorem eX10_honest_328 : xD mX10_honest 328 (.idiv) 1 329 := ⟨by decide +kernel, rfl⟩
theorem eX10_honest_329 : xD mX10_honest 329 (.ireturn) 1 330 := ⟨by decide +kernel, rfl⟩
theorem eX10_mostDays_0 : xK mX10_mostDays 0 (nI 0) 1 := Or.inl (⟨0, by decide +kernel, by decide, rfl⟩)
theorem eX10_mostDays_1 : x_istore mX10_mostDays 1 2 2 := Or.inl ⟨2, by decide +kernel, rfl, rfl⟩
theorem eX10_mostDays_2 : xK mX10_mostDays 2 (nI 0) 3 := Or.inl (⟨0, by decide +kernel, by decide, rfl⟩)
theorem eX10_mostDays_3 : x_istore mX10_mostDays 3 3 4 := Or.inl ⟨3, by decide +kernel, rfl, rfl⟩
theorem eX10_mostDays_4 : x_iload mX10_mostDays 4 3 5 := Or.inl ⟨3, by decide +kernel, rfl, rfl⟩
theorem eX10_mostDays_5 : x_aload mX10_mostDays 5 0 6 := Or.inl ⟨0, by decide +kernel, rfl, rfl⟩
theorem eX10_mostDays_6 : xGF mX10_mostDays 6 10 2 9 := ⟨74, _, _, by decide +kernel, rfl, fl_X10_74⟩
theorem eX10_mostDays_9 : xJ mX10_mostDays 9 (.if_icmp .ge) 34 12 := ⟨(25), by decide +kernel, by decide, rfl⟩
theorem eX10_mostDays_12 : x_iload mX10_mostDays 12 2 13 := Or.inl ⟨2, by decide +kernel, rfl, rfl⟩
theorem eX10_mostDays_13 : x_aload mX10_mostDays 13 0 14 := Or.inl ⟨0, by decide +kernel, rfl, rfl⟩
theorem eX10_mostDays_14 : xGF mX10_mostDays 14 10 9 17 := ⟨25, _, _, by decide +kernel, rfl, fl_X10_25⟩
theorem eX10_mostDays_17 : x_iload mX10_mostDays 17 1 18 := Or.inl ⟨1, by decide +kernel, rfl, rfl⟩
theorem eX10_mostDays_18 : xK mX10_mostDays 18 (nI 19) 20 := Or.inr (Or.inl (⟨19, by decide +kernel, by decide, rfl⟩))
theorem eX10_mostDays_20 : xD mX10_mostDays 20 (.iadd) 1 21 := ⟨by decide +kernel, rfl⟩
theorem eX10_mostDays_21 : x_iload mX10_mostDays 21 3 22 := Or.inl ⟨3, by decide +kernel, rfl, rfl⟩
theorem eX10_mostDays_22 : xD mX10_mostDays 22 (.iadd) 1 23 := ⟨by decide +kernel, rfl⟩
theorem eX10_mostDays_23 : xD mX10_mostDays 23 (.iaload) 1 24 := ⟨by decide +kernel, rfl⟩
set_option maxRecDepth 20000 in
theorem eX10_mostDays_24 : xCS mX10_mostDays 24 mX10_larger 2 27 := ⟨195, by decide +kernel, rfl, ⟨cm_X10_195.1, cm_X10_195.2.1, cm_X10_195.2.2.1, cm_X10_195.2.2.2.1, cm_X10_195.2.2.2.2⟩, xT_5 66 rfl rfl⟩
theorem eX10_mostDays_27 : x_istore mX10_mostDays 27 2 28 := Or.inl ⟨2, by decide +kernel, rfl, rfl⟩
theorem eX10_mostDays_28 : xD mX10_mostDays 28 (.iinc 3 1) 3 31 := ⟨by decide +kernel, rfl⟩
theorem eX10_mostDays_31 : xJ mX10_mostDays 31 (.goto) 4 34 := ⟨(-27), by decide +kernel, by decide, rfl⟩
theorem eX10_mostDays_34 : x_iload mX10_mostDays 34 2 35 := Or.inl ⟨2, by decide +kernel, rfl, rfl⟩
theorem eX10_mostDays_35 : xD mX10_mostDays 35 (.ireturn) 1 36 := ⟨by decide +kernel, rfl⟩
theorem eX10_shire_0 : x_iload mX10_shire 0 1 1 := Or.inl ⟨1, by decide +kernel, rfl, rfl⟩
theorem eX10_shire_1 : xD mX10_shire 1 (.i2l) 1 2 := ⟨by decide +kernel, rfl⟩
theorem eX10_shire_2 : xKL mX10_shire 2 (0) 3 := Or.inl ⟨0, by decide +kernel, by decide, rfl⟩
set_option maxRecDepth 20000 in
theorem eX10_shire_3 : xKL mX10_shire 3 (9999) 6 := Or.inr ⟨245, by decide +kernel, xT_5 140 rfl rfl, rfl⟩
set_option maxRecDepth 20000 in
theorem eX10_shire_6 : xCS mX10_shire 6 mX10_in 3 9 := ⟨81, by decide +kernel, rfl, ⟨cm_X10_81.1, cm_X10_81.2.1, cm_X10_81.2.2.1, cm_X10_81.2.2.2.1, cm_X10_81.2.2.2.2⟩, xT_4 155 rfl rfl⟩
theorem eX10_shire_9 : xJ mX10_shire 9 (.ifCond .eq) 34 12 := ⟨(25), by decide +kernel, by decide, rfl⟩
theorem eX10_shire_12 : x_iload mX10_shire 12 2 13 := Or.inl ⟨2, by decide +kernel, rfl, rfl⟩
theorem eX10_shire_13 : xD mX10_shire 13 (.i2l) 1 14 := ⟨by decide +kernel, rfl⟩
theorem eX10_shire_14 : xKL mX10_shire 14 (1) 15 := Or.inl ⟨1, by decide +kernel, by decide, rfl⟩
set_option maxRecDepth 20000 in
theorem eX10_shire_15 : xKL mX10_shire 15 (40) 18 := Or.inr ⟨247, by decide +kernel, xT_5 141 rfl rfl, rfl⟩
set_option maxRecDepth 20000 in
theorem eX10_shire_18 : xCS mX10_shire 18 mX10_in 3 21 := ⟨81, by decide +kernel, rfl, ⟨cm_X10_81.1, cm_X10_81.2.1, cm_X10_81.2.2.1, cm_X10_81.2.2.2.1, cm_X10_81.2.2.2.2⟩, xT_4 155 rfl rfl⟩
theorem eX10_shire_21 : xJ mX10_shire 21 (.ifCond .eq) 34 24 := ⟨(13), by decide +kernel, by decide, rfl⟩
theorem eX10_shire_24 : x_iload mX10_shire 24 3 25 := Or.inl ⟨3, by decide +kernel, rfl, rfl⟩
theorem eX10_shire_25 : xD mX10_shire 25 (.i2l) 1 26 := ⟨by decide +kernel, rfl⟩
theorem eX10_shire_26 : xKL mX10_shire 26 (0) 27 := Or.inl ⟨0, by decide +kernel, by decide, rfl⟩
theorem eX10_shire_27 : xKL mX10_shire 27 (1) 28 := Or.inl ⟨1, by decide +kernel, by decide, rfl⟩
set_option maxRecDepth 20000 in
theorem eX10_shire_28 : xCS mX10_shire 28 mX10_in 3 31 := ⟨81, by decide +kernel, rfl, ⟨cm_X10_81.1, cm_X10_81.2.1, cm_X10_81.2.2.1, cm_X10_81.2.2.2.1, cm_X10_81.2.2.2.2⟩, xT_4 155 rfl rfl⟩
theorem eX10_shire_31 : xJ mX10_shire 31 (.ifCond .ne) 36 34 := ⟨(5), by decide +kernel, by decide, rfl⟩
theorem eX10_shire_34 : xK mX10_shire 34 ((-1)) 35 := Or.inl (⟨(-1), by decide +kernel, by decide, rfl⟩)
theorem eX10_shire_35 : xD mX10_shire 35 (.ireturn) 1 36 := ⟨by decide +kernel, rfl⟩
theorem eX10_shire_36 : x_aload mX10_shire 36 0 37 := Or.inl ⟨0, by decide +kernel, rfl, rfl⟩
theorem eX10_shire_37 : xK mX10_shire 37 (nI 0) 38 := Or.inl (⟨0, by decide +kernel, by decide, rfl⟩)
theorem eX10_shire_38 : xK mX10_shire 38 (nI 242) 41 := Or.inr (Or.inr (Or.inl (⟨242, by decide +kernel, by decide, rfl⟩)))
set_option maxRecDepth 20000 in
theorem eX10_shire_41 : xCV mX10_shire 41 mX10_copied 2 10 44 := ⟨124, by decide +kernel, rfl, ⟨cm_X10_124.1, cm_X10_124.2.1, cm_X10_124.2.2.1, cm_X10_124.2.2.2.1, cm_X10_124.2.2.2.2⟩, xT_4 193 rfl rfl, xT_0 27 rfl rfl, _, rfl, rfl⟩
theorem eX10_shire_44 : xK mX10_shire 44 (nI 0) 45 := Or.inl (⟨0, by decide +kernel, by decide, rfl⟩)
theorem eX10_shire_45 : x_istore mX10_shire 45 4 47 := Or.inr ⟨by decide +kernel, rfl⟩
theorem eX10_shire_47 : xK mX10_shire 47 (nI 0) 48 := Or.inl (⟨0, by decide +kernel, by decide, rfl⟩)
theorem eX10_shire_48 : x_istore mX10_shire 48 5 50 := Or.inr ⟨by decide +kernel, rfl⟩
theorem eX10_shire_50 : x_iload mX10_shire 50 5 52 := Or.inr ⟨by decide +kernel, rfl⟩
theorem eX10_shire_52 : x_iload mX10_shire 52 2 53 := Or.inl ⟨2, by decide +kernel, rfl, rfl⟩
theorem eX10_shire_53 : xJ mX10_shire 53 (.if_icmp .ge) 219 56 := ⟨(166), by decide +kernel, by decide, rfl⟩
set_option maxRecDepth 20000 in
theorem eX10_shire_56 : xKL mX10_shire 56 (7919) 59 := Or.inr ⟨249, by decide +kernel, xT_5 142 rfl rfl, rfl⟩
theorem eX10_shire_59 : x_iload mX10_shire 59 1 60 := Or.inl ⟨1, by decide +kernel, rfl, rfl⟩
theorem eX10_shire_60 : xD mX10_shire 60 (.i2l) 1 61 := ⟨by decide +kernel, rfl⟩
theorem eX10_shire_61 : xD mX10_shire 61 (.lmul) 1 62 := ⟨by decide +kernel, rfl⟩
set_option maxRecDepth 20000 in
theorem eX10_shire_62 : xKL mX10_shire 62 (6151) 65 := Or.inr ⟨251, by decide +kernel, xT_5 143 rfl rfl, rfl⟩
theorem eX10_shire_65 : x_iload mX10_shire 65 5 67 := Or.inr ⟨by decide +kernel, rfl⟩
theorem eX10_shire_67 : xD mX10_shire 67 (.i2l) 1 68 := ⟨by decide +kernel, rfl⟩
theorem eX10_shire_68 : xD mX10_shire 68 (.lmul) 1 69 := ⟨by decide +kernel, rfl⟩
theorem eX10_shire_69 : xD mX10_shire 69 (.ladd) 1 70 := ⟨by decide +kernel, rfl⟩
theorem eX10_shire_70 : xKL mX10_shire 70 (1) 71 := Or.inl ⟨1, by decide +kernel, by decide, rfl⟩
theorem eX10_shire_71 : xD mX10_shire 71 (.ladd) 1 72 := ⟨by decide +kernel, rfl⟩
theorem eX10_shire_72 : x_lstore mX10_shire 72 6 74 := Or.inr ⟨by decide +kernel, rfl⟩
theorem eX10_shire_74 : x_lload mX10_shire 74 6 76 := Or.inr ⟨by decide +kernel, rfl⟩
theorem eX10_shire_76 : x_lload mX10_shire 76 6 78 := Or.inr ⟨by decide +kernel, rfl⟩
theorem eX10_shire_78 : xD mX10_shire 78 (.lmul) 1 79 := ⟨by decide +kernel, rfl⟩
set_option maxRecDepth 20000 in
theorem eX10_shire_79 : xKL mX10_shire 79 (65521) 82 := Or.inr ⟨253, by decide +kernel, xT_5 144 rfl rfl, rfl⟩
theorem eX10_shire_82 : xD mX10_shire 82 (.lrem) 1 83 := ⟨by decide +kernel, rfl⟩
set_option maxRecDepth 20000 in
theorem eX10_shire_83 : xKL mX10_shire 83 (2) 86 := Or.inr ⟨255, by decide +kernel, xT_5 145 rfl rfl, rfl⟩
theorem eX10_shire_86 : xD mX10_shire 86 (.ldiv) 1 87 := ⟨by decide +kernel, rfl⟩
theorem eX10_shire_87 : xD mX10_shire 87 (.l2i) 1 88 := ⟨by decide +kernel, rfl⟩
theorem eX10_shire_88 : x_istore mX10_shire 88 8 90 := Or.inr ⟨by decide +kernel, rfl⟩
theorem eX10_shire_90 : x_iload mX10_shire 90 8 92 := Or.inr ⟨by decide +kernel, rfl⟩
theorem eX10_shire_92 : x_aload mX10_shire 92 0 93 := Or.inl ⟨0, by decide +kernel, rfl, rfl⟩
theorem eX10_shire_93 : xGF mX10_shire 93 10 2 96 := ⟨74, _, _, by decide +kernel, rfl, fl_X10_74⟩
theorem eX10_shire_96 : xD mX10_shire 96 (.irem) 1 97 := ⟨by decide +kernel, rfl⟩
theorem eX10_shire_97 : x_istore mX10_shire 97 9 99 := Or.inr ⟨by decide +kernel, rfl⟩
theorem eX10_shire_99 : x_iload mX10_shire 99 8 101 := Or.inr ⟨by decide +kernel, rfl⟩
theorem eX10_shire_101 : xK mX10_shire 101 (nI 8) 103 := Or.inr (Or.inl (⟨8, by decide +kernel, by decide, rfl⟩))
theorem eX10_shire_103 : xD mX10_shire 103 (.idiv) 1 104 := ⟨by decide +kernel, rfl⟩
theorem eX10_shire_104 : x_aload mX10_shire 104 0 105 := Or.inl ⟨0, by decide +kernel, rfl, rfl⟩
theorem eX10_shire_105 : xGF mX10_shire 105 10 0 108 := ⟨71, _, _, by decide +kernel, rfl, fl_X10_71⟩
theorem eX10_shire_108 : xD mX10_shire 108 (.irem) 1 109 := ⟨by decide +kernel, rfl⟩
theorem eX10_shire_109 : x_istore mX10_shire 109 10 111 := Or.inr ⟨by decide +kernel, rfl⟩
theorem eX10_shire_111 : x_iload mX10_shire 111 8 113 := Or.inr ⟨by decide +kernel, rfl⟩
theorem eX10_shire_113 : xK mX10_shire 113 (nI 64) 115 := Or.inr (Or.inl (⟨64, by decide +kernel, by decide, rfl⟩))
theorem eX10_shire_115 : xD mX10_shire 115 (.idiv) 1 116 := ⟨by decide +kernel, rfl⟩
theorem eX10_shire_116 : xK mX10_shire 116 (nI 3) 117 := Or.inl (⟨3, by decide +kernel, by decide, rfl⟩)
theorem eX10_shire_117 : xD mX10_shire 117 (.irem) 1 118 := ⟨by decide +kernel, rfl⟩
theorem eX10_shire_118 : x_istore mX10_shire 118 11 120 := Or.inr ⟨by decide +kernel, rfl⟩
theorem eX10_shire_120 : x_aload mX10_shire 120 0 121 := Or.inl ⟨0, by decide +kernel, rfl, rfl⟩
theorem eX10_shire_121 : xK mX10_shire 121 (nI 242) 124 := Or.inr (Or.inr (Or.inl (⟨242, by decide +kernel, by decide, rfl⟩)))
theorem eX10_shire_124 : x_iload mX10_shire 124 9 126 := Or.inr ⟨by decide +kernel, rfl⟩
theorem eX10_shire_126 : x_iload mX10_shire 126 10 128 := Or.inr ⟨by decide +kernel, rfl⟩
set_option maxRecDepth 20000 in
theorem eX10_shire_128 : xCV mX10_shire 128 mX10_canAsk 3 10 131 := ⟨169, by decide +kernel, rfl, ⟨cm_X10_169.1, cm_X10_169.2.1, cm_X10_169.2.2.1, cm_X10_169.2.2.2.1, cm_X10_169.2.2.2.2⟩, xT_5 5 rfl rfl, xT_0 35 rfl rfl, _, rfl, rfl⟩
theorem eX10_shire_131 : xJ mX10_shire 131 (.ifCond .eq) 153 134 := ⟨(22), by decide +kernel, by decide, rfl⟩
theorem eX10_shire_134 : x_iload mX10_shire 134 4 136 := Or.inr ⟨by decide +kernel, rfl⟩
theorem eX10_shire_136 : x_aload mX10_shire 136 0 137 := Or.inl ⟨0, by decide +kernel, rfl, rfl⟩
theorem eX10_shire_137 : xK mX10_shire 137 (nI 242) 140 := Or.inr (Or.inr (Or.inl (⟨242, by decide +kernel, by decide, rfl⟩)))
theorem eX10_shire_140 : x_iload mX10_shire 140 9 142 := Or.inr ⟨by decide +kernel, rfl⟩
theorem eX10_shire_142 : x_iload mX10_shire 142 10 144 := Or.inr ⟨by decide +kernel, rfl⟩
set_option maxRecDepth 20000 in
theorem eX10_shire_144 : xCV mX10_shire 144 mX10_asks 3 10 147 := ⟨176, by decide +kernel, rfl, ⟨cm_X10_176.1, cm_X10_176.2.1, cm_X10_176.2.2.1, cm_X10_176.2.2.2.1, cm_X10_176.2.2.2.2⟩, xT_5 13 rfl rfl, xT_0 37 rfl rfl, _, rfl, rfl⟩
theorem eX10_shire_147 : xD mX10_shire 147 (.iadd) 1 148 := ⟨by decide +kernel, rfl⟩
theorem eX10_shire_148 : x_istore mX10_shire 148 4 150 := Or.inr ⟨by decide +kernel, rfl⟩
theorem eX10_shire_150 : xJ mX10_shire 150 (.goto) 213 153 := ⟨(63), by decide +kernel, by decide, rfl⟩
theorem eX10_shire_153 : x_iload mX10_shire 153 11 155 := Or.inr ⟨by decide +kernel, rfl⟩
theorem eX10_shire_155 : xJ mX10_shire 155 (.ifCond .ne) 182 158 := ⟨(27), by decide +kernel, by decide, rfl⟩
theorem eX10_shire_158 : x_aload mX10_shire 158 0 159 := Or.inl ⟨0, by decide +kernel, rfl, rfl⟩
theorem eX10_shire_159 : xK mX10_shire 159 (nI 242) 162 := Or.inr (Or.inr (Or.inl (⟨242, by decide +kernel, by decide, rfl⟩)))
theorem eX10_shire_162 : x_iload mX10_shire 162 10 164 := Or.inr ⟨by decide +kernel, rfl⟩
set_option maxRecDepth 20000 in
theorem eX10_shire_164 : xCV mX10_shire 164 mX10_canCheck 2 10 167 := ⟨179, by decide +kernel, rfl, ⟨cm_X10_179.1, cm_X10_179.2.1, cm_X10_179.2.2.1, cm_X10_179.2.2.2.1, cm_X10_179.2.2.2.2⟩, xT_5 25 rfl rfl, xT_0 39 rfl rfl, _, rfl, rfl⟩
theorem eX10_shire_167 : xJ mX10_shire 167 (.ifCond .eq) 182 170 := ⟨(15), by decide +kernel, by decide, rfl⟩
theorem eX10_shire_170 : x_aload mX10_shire 170 0 171 := Or.inl ⟨0, by decide +kernel, rfl, rfl⟩
theorem eX10_shire_171 : xK mX10_shire 171 (nI 242) 174 := Or.inr (Or.inr (Or.inl (⟨242, by decide +kernel, by decide, rfl⟩)))
theorem eX10_shire_174 : x_iload mX10_shire 174 10 176 := Or.inr ⟨by decide +kernel, rfl⟩
set_option maxRecDepth 20000 in
theorem eX10_shire_176 : xCV mX10_shire 176 mX10_checked 2 10 179 := ⟨182, by decide +kernel, rfl, ⟨cm_X10_182.1, cm_X10_182.2.1, cm_X10_182.2.2.1, cm_X10_182.2.2.2.1, cm_X10_182.2.2.2.2⟩, xT_5 29 rfl rfl, xT_0 40 rfl rfl, _, rfl, rfl⟩
theorem eX10_shire_179 : xJ mX10_shire 179 (.goto) 213 182 := ⟨(34), by decide +kernel, by decide, rfl⟩
theorem eX10_shire_182 : x_iload mX10_shire 182 11 184 := Or.inr ⟨by decide +kernel, rfl⟩
theorem eX10_shire_184 : xK mX10_shire 184 (nI 1) 185 := Or.inl (⟨1, by decide +kernel, by decide, rfl⟩)
theorem eX10_shire_185 : xJ mX10_shire 185 (.if_icmp .ne) 213 188 := ⟨(28), by decide +kernel, by decide, rfl⟩
theorem eX10_shire_188 : x_aload mX10_shire 188 0 189 := Or.inl ⟨0, by decide +kernel, rfl, rfl⟩
theorem eX10_shire_189 : xGF mX10_shire 189 10 9 192 := ⟨25, _, _, by decide +kernel, rfl, fl_X10_25⟩
theorem eX10_shire_192 : xK mX10_shire 192 (nI 256) 195 := Or.inr (Or.inr (Or.inl (⟨256, by decide +kernel, by decide, rfl⟩)))
theorem eX10_shire_195 : xD mX10_shire 195 (.iaload) 1 196 := ⟨by decide +kernel, rfl⟩
theorem eX10_shire_196 : x_iload mX10_shire 196 10 198 := Or.inr ⟨by decide +kernel, rfl⟩
set_option maxRecDepth 20000 in
theorem eX10_shire_198 : xCS mX10_shire 198 mX10_has 2 201 := ⟨144, by decide +kernel, rfl, ⟨cm_X10_144.1, cm_X10_144.2.1, cm_X10_144.2.2.1, cm_X10_144.2.2.2.1, cm_X10_144.2.2.2.2⟩, xT_4 209 rfl rfl⟩
theorem eX10_shire_201 : xJ mX10_shire 201 (.ifCond .eq) 213 204 := ⟨(12), by decide +kernel, by decide, rfl⟩
theorem eX10_shire_204 : x_aload mX10_shire 204 0 205 := Or.inl ⟨0, by decide +kernel, rfl, rfl⟩
theorem eX10_shire_205 : xK mX10_shire 205 (nI 242) 208 := Or.inr (Or.inr (Or.inl (⟨242, by decide +kernel, by decide, rfl⟩)))
theorem eX10_shire_208 : x_iload mX10_shire 208 10 210 := Or.inr ⟨by decide +kernel, rfl⟩
set_option maxRecDepth 20000 in
theorem eX10_shire_210 : xCV mX10_shire 210 mX10_struck 2 10 213 := ⟨185, by decide +kernel, rfl, ⟨cm_X10_185.1, cm_X10_185.2.1, cm_X10_185.2.2.1, cm_X10_185.2.2.2.1, cm_X10_185.2.2.2.2⟩, xT_5 37 rfl rfl, xT_0 41 rfl rfl, _, rfl, rfl⟩
theorem eX10_shire_213 : xD mX10_shire 213 (.iinc 5 1) 3 216 := ⟨by decide +kernel, rfl⟩
theorem eX10_shire_216 : xJ mX10_shire 216 (.goto) 50 219 := ⟨(-166), by decide +kernel, by decide, rfl⟩
theorem eX10_shire_219 : x_iload mX10_shire 219 4 221 := Or.inr ⟨by decide +kernel, rfl⟩
theorem eX10_shire_221 : xJ mX10_shire 221 (.ifCond .ge) 229 224 := ⟨(8), by decide +kernel, by decide, rfl⟩
theorem eX10_shire_224 : xK mX10_shire 224 ((-2)) 226 := Or.inr (Or.inl (⟨(-2), by decide +kernel, by decide, rfl⟩))
theorem eX10_shire_226 : xJ mX10_shire 226 (.goto) 250 229 := ⟨(24), by decide +kernel, by decide, rfl⟩
theorem eX10_shire_229 : x_iload mX10_shire 229 3 230 := Or.inl ⟨3, by decide +kernel, rfl, rfl⟩
theorem eX10_shire_230 : xJ mX10_shire 230 (.ifCond .ne) 243 233 := ⟨(13), by decide +kernel, by decide, rfl⟩
theorem eX10_shire_233 : x_aload mX10_shire 233 0 234 := Or.inl ⟨0, by decide +kernel, rfl, rfl⟩
theorem eX10_shire_234 : xK mX10_shire 234 (nI 242) 237 := Or.inr (Or.inr (Or.inl (⟨242, by decide +kernel, by decide, rfl⟩)))
set_option maxRecDepth 20000 in
theorem eX10_shire_237 : xCV mX10_shire 237 mX10_found 1 10 240 := ⟨218, by decide +kernel, rfl, ⟨cm_X10_218.1, cm_X10_218.2.1, cm_X10_218.2.2.1, cm_X10_218.2.2.2.1, cm_X10_218.2.2.2.2⟩, xT_5 87 rfl rfl, xT_0 49 rfl rfl, _, rfl, rfl⟩
theorem eX10_shire_240 : xJ mX10_shire 240 (.goto) 250 243 := ⟨(10), by decide +kernel, by decide, rfl⟩
theorem eX10_shire_243 : x_aload mX10_shire 243 0 244 := Or.inl ⟨0, by decide +kernel, rfl, rfl⟩
theorem eX10_shire_244 : xK mX10_shire 244 (nI 242) 247 := Or.inr (Or.inr (Or.inl (⟨242, by decide +kernel, by decide, rfl⟩)))
set_option maxRecDepth 20000 in
theorem eX10_shire_247 : xCV mX10_shire 247 mX10_mostDays 1 10 250 := ⟨257, by decide +kernel, rfl, ⟨cm_X10_257.1, cm_X10_257.2.1, cm_X10_257.2.2.1, cm_X10_257.2.2.2.1, cm_X10_257.2.2.2.2⟩, xT_5 148 rfl rfl, xT_0 52 rfl rfl, _, rfl, rfl⟩
theorem eX10_shire_250 : xD mX10_shire 250 (.ireturn) 1 251 := ⟨by decide +kernel, rfl⟩
theorem eX10_keep_0 : x_aload mX10_keep 0 0 1 := Or.inl ⟨0, by decide +kernel, rfl, rfl⟩
theorem eX10_keep_1 : xGF mX10_keep 1 10 11 4 := ⟨130, _, _, by decide +kernel, rfl, fl_X10_130⟩
theorem eX10_keep_4 : xK mX10_keep 4 (nI 2) 5 := Or.inl (⟨2, by decide +kernel, by decide, rfl⟩)
theorem eX10_keep_5 : xJ mX10_keep 5 (.if_icmp .ne) 11 8 := ⟨(6), by decide +kernel, by decide, rfl⟩
theorem eX10_keep_8 : xK mX10_keep 8 ((-3)) 10 := Or.inr (Or.inl (⟨(-3), by decide +kernel, by decide, rfl⟩))
theorem eX10_keep_10 : xD mX10_keep 10 (.ireturn) 1 11 := ⟨by decide +kernel, rfl⟩
theorem eX10_keep_11 : x_aload mX10_keep 11 0 12 := Or.inl ⟨0, by decide +kernel, rfl, rfl⟩
theorem eX10_keep_12 : xK mX10_keep 12 (nI 0) 13 := Or.inl (⟨0, by decide +kernel, by decide, rfl⟩)
theorem eX10_keep_13 : xK mX10_keep 13 (nI 9) 15 := Or.inr (Or.inl (⟨9, by decide +kernel, by decide, rfl⟩))
theorem eX10_keep_15 : x_aload mX10_keep 15 0 16 := Or.inl ⟨0, by decide +kernel, rfl, rfl⟩
theorem eX10_keep_16 : xGF mX10_keep 16 10 11 19 := ⟨130, _, _, by decide +kernel, rfl, fl_X10_130⟩
theorem eX10_keep_19 : xD mX10_keep 19 (.iadd) 1 20 := ⟨by decide +kernel, rfl⟩
theorem eX10_keep_20 : xK mX10_keep 20 (nI 22) 22 := Or.inr (Or.inl (⟨22, by decide +kernel, by decide, rfl⟩))
theorem eX10_keep_22 : xD mX10_keep 22 (.imul) 1 23 := ⟨by decide +kernel, rfl⟩
set_option maxRecDepth 20000 in
theorem eX10_keep_23 : xCV mX10_keep 23 mX10_copied 2 10 26 := ⟨124, by decide +kernel, rfl, ⟨cm_X10_124.1, cm_X10_124.2.1, cm_X10_124.2.2.1, cm_X10_124.2.2.2.1, cm_X10_124.2.2.2.2⟩, xT_4 193 rfl rfl, xT_0 27 rfl rfl, _, rfl, rfl⟩
theorem eX10_keep_26 : x_aload mX10_keep 26 0 27 := Or.inl ⟨0, by decide +kernel, rfl, rfl⟩
theorem eX10_keep_27 : xD mX10_keep 27 (.dup) 1 28 := ⟨by decide +kernel, rfl⟩
theorem eX10_keep_28 : xGF mX10_keep 28 10 11 31 := ⟨130, _, _, by decide +kernel, rfl, fl_X10_130⟩
theorem eX10_keep_31 : xK mX10_keep 31 (nI 1) 32 := Or.inl (⟨1, by decide +kernel, by decide, rfl⟩)
theorem eX10_keep_32 : xD mX10_keep 32 (.iadd) 1 33 := ⟨by decide +kernel, rfl⟩
theorem eX10_keep_33 : xPF mX10_keep 33 10 11 (.int) 36 := ⟨130, _, by decide +kernel, rfl, fl_X10_130, fun h => by cases h⟩
theorem eX10_keep_36 : x_aload mX10_keep 36 0 37 := Or.inl ⟨0, by decide +kernel, rfl, rfl⟩
theorem eX10_keep_37 : xGF mX10_keep 37 10 11 40 := ⟨130, _, _, by decide +kernel, rfl, fl_X10_130⟩
theorem eX10_keep_40 : xD mX10_keep 40 (.ireturn) 1 41 := ⟨by decide +kernel, rfl⟩
theorem eX10_back_0 : x_aload mX10_back 0 0 1 := Or.inl ⟨0, by decide +kernel, rfl, rfl⟩
theorem eX10_back_1 : xGF mX10_back 1 10 11 4 := ⟨130, _, _, by decide +kernel, rfl, fl_X10_130⟩
theorem eX10_back_4 : xJ mX10_back 4 (.ifCond .ne) 10 7 := ⟨(6), by decide +kernel, by decide, rfl⟩
theorem eX10_back_7 : xK mX10_back 7 ((-2)) 9 := Or.inr (Or.inl (⟨(-2), by decide +kernel, by decide, rfl⟩))
theorem eX10_back_9 : xD mX10_back 9 (.ireturn) 1 10 := ⟨by decide +kernel, rfl⟩
theorem eX10_back_10 : x_aload mX10_back 10 0 11 := Or.inl ⟨0, by decide +kernel, rfl, rfl⟩
theorem eX10_back_11 : xD mX10_back 11 (.dup) 1 12 := ⟨by decide +kernel, rfl⟩
theorem eX10_back_12 : xGF mX10_back 12 10 11 15 := ⟨130, _, _, by decide +kernel, rfl, fl_X10_130⟩
theorem eX10_back_15 : xK mX10_back 15 (nI 1) 16 := Or.inl (⟨1, by decide +kernel, by decide, rfl⟩)
theorem eX10_back_16 : xD mX10_back 16 (.isub) 1 17 := ⟨by decide +kernel, rfl⟩
theorem eX10_back_17 : xPF mX10_back 17 10 11 (.int) 20 := ⟨130, _, by decide +kernel, rfl, fl_X10_130, fun h => by cases h⟩
theorem eX10_back_20 : x_aload mX10_back 20 0 21 := Or.inl ⟨0, by decide +kernel, rfl, rfl⟩
theorem eX10_back_21 : xK mX10_back 21 (nI 9) 23 := Or.inr (Or.inl (⟨9, by decide +kernel, by decide, rfl⟩))
theorem eX10_back_23 : x_aload mX10_back 23 0 24 := Or.inl ⟨0, by decide +kernel, rfl, rfl⟩
theorem eX10_back_24 : xGF mX10_back 24 10 11 27 := ⟨130, _, _, by decide +kernel, rfl, fl_X10_130⟩
theorem eX10_back_27 : xD mX10_back 27 (.iadd) 1 28 := ⟨by decide +kernel, rfl⟩
theorem eX10_back_28 : xK mX10_back 28 (nI 22) 30 := Or.inr (Or.inl (⟨22, by decide +kernel, by decide, rfl⟩))
theorem eX10_back_30 : xD mX10_back 30 (.imul) 1 31 := ⟨by decide +kernel, rfl⟩
theorem eX10_back_31 : xK mX10_back 31 (nI 0) 32 := Or.inl (⟨0, by decide +kernel, by decide, rfl⟩)
set_option maxRecDepth 20000 in
theorem eX10_back_32 : xCV mX10_back 32 mX10_copied 2 10 35 := ⟨124, by decide +kernel, rfl, ⟨cm_X10_124.1, cm_X10_124.2.1, cm_X10_124.2.2.1, cm_X10_124.2.2.2.1, cm_X10_124.2.2.2.2⟩, xT_4 193 rfl rfl, xT_0 27 rfl rfl, _, rfl, rfl⟩
theorem eX10_back_35 : x_aload mX10_back 35 0 36 := Or.inl ⟨0, by decide +kernel, rfl, rfl⟩
theorem eX10_back_36 : xK mX10_back 36 (nI 0) 37 := Or.inl (⟨0, by decide +kernel, by decide, rfl⟩)
theorem eX10_back_37 : xPF mX10_back 37 10 10 (.int) 40 := ⟨127, _, by decide +kernel, rfl, fl_X10_127, fun h => by cases h⟩
theorem eX10_back_40 : x_aload mX10_back 40 0 41 := Or.inl ⟨0, by decide +kernel, rfl, rfl⟩
theorem eX10_back_41 : xGF mX10_back 41 10 11 44 := ⟨130, _, _, by decide +kernel, rfl, fl_X10_130⟩
theorem eX10_back_44 : xD mX10_back 44 (.ireturn) 1 45 := ⟨by decide +kernel, rfl⟩
theorem eX10_oxen_0 : xK mX10_oxen 0 (nI 0) 1 := Or.inl (⟨0, by decide +kernel, by decide, rfl⟩)
theorem eX10_oxen_1 : x_istore mX10_oxen 1 1 2 := Or.inl ⟨1, by decide +kernel, rfl, rfl⟩
theorem eX10_oxen_2 : xK mX10_oxen 2 (nI 0) 3 := Or.inl (⟨0, by decide +kernel, by decide, rfl⟩)
theorem eX10_oxen_3 : x_istore mX10_oxen 3 2 4 := Or.inl ⟨2, by decide +kernel, rfl, rfl⟩
theorem eX10_oxen_4 : x_iload mX10_oxen 4 2 5 := Or.inl ⟨2, by decide +kernel, rfl, rfl⟩
theorem eX10_oxen_5 : x_aload mX10_oxen 5 0 6 := Or.inl ⟨0, by decide +kernel, rfl, rfl⟩
theorem eX10_oxen_6 : xGF mX10_oxen 6 10 0 9 := ⟨71, _, _, by decide +kernel, rfl, fl_X10_71⟩
theorem eX10_oxen_9 : xJ mX10_oxen 9 (.if_icmp .ge) 27 12 := ⟨(18), by decide +kernel, by decide, rfl⟩
theorem eX10_oxen_12 : x_iload mX10_oxen 12 1 13 := Or.inl ⟨1, by decide +kernel, rfl, rfl⟩
theorem eX10_oxen_13 : x_aload mX10_oxen 13 0 14 := Or.inl ⟨0, by decide +kernel, rfl, rfl⟩
theorem eX10_oxen_14 : xGF mX10_oxen 14 10 9 17 := ⟨25, _, _, by decide +kernel, rfl, fl_X10_25⟩
theorem eX10_oxen_17 : x_iload mX10_oxen 17 2 18 := Or.inl ⟨2, by decide +kernel, rfl, rfl⟩
theorem eX10_oxen_18 : xD mX10_oxen 18 (.iaload) 1 19 := ⟨by decide +kernel, rfl⟩
theorem eX10_oxen_19 : xD mX10_oxen 19 (.iadd) 1 20 := ⟨by decide +kernel, rfl⟩
theorem eX10_oxen_20 : x_istore mX10_oxen 20 1 21 := Or.inl ⟨1, by decide +kernel, rfl, rfl⟩
theorem eX10_oxen_21 : xD mX10_oxen 21 (.iinc 2 1) 3 24 := ⟨by decide +kernel, rfl⟩
theorem eX10_oxen_24 : xJ mX10_oxen 24 (.goto) 4 27 := ⟨(-20), by decide +kernel, by decide, rfl⟩
theorem eX10_oxen_27 : x_iload mX10_oxen 27 1 28 := Or.inl ⟨1, by decide +kernel, rfl, rfl⟩
theorem eX10_oxen_28 : xD mX10_oxen 28 (.ireturn) 1 29 := ⟨by decide +kernel, rfl⟩
theorem eX10_count_0 : x_iload mX10_count 0 1 1 := Or.inl ⟨1, by decide +kernel, rfl, rfl⟩
theorem eX10_count_1 : xJ mX10_count 1 (.ifCond .ne) 11 4 := ⟨(10), by decide +kernel, by decide, rfl⟩
theorem eX10_count_4 : x_aload mX10_count 4 0 5 := Or.inl ⟨0, by decide +kernel, rfl, rfl⟩
theorem eX10_count_5 : xGF mX10_count 5 10 0 8 := ⟨71, _, _, by decide +kernel, rfl, fl_X10_71⟩
theorem eX10_count_8 : xJ mX10_count 8 (.goto) 151 11 := ⟨(143), by decide +kernel, by decide, rfl⟩
theorem eX10_count_11 : x_iload mX10_count 11 1 12 := Or.inl ⟨1, by decide +kernel, rfl, rfl⟩
theorem eX10_count_12 : xK mX10_count 12 (nI 1) 13 := Or.inl (⟨1, by decide +kernel, by decide, rfl⟩)
theorem eX10_count_13 : xJ mX10_count 13 (.if_icmp .ne) 23 16 := ⟨(10), by decide +kernel, by decide, rfl⟩
theorem eX10_count_16 : x_aload mX10_count 16 0 17 := Or.inl ⟨0, by decide +kernel, rfl, rfl⟩
theorem eX10_count_17 : xGF mX10_count 17 10 2 20 := ⟨74, _, _, by decide +kernel, rfl, fl_X10_74⟩
theorem eX10_count_20 : xJ mX10_count 20 (.goto) 151 23 := ⟨(131), by decide +kernel, by decide, rfl⟩
theorem eX10_count_23 : x_iload mX10_count 23 1 24 := Or.inl ⟨1, by decide +kernel, rfl, rfl⟩
theorem eX10_count_24 : xK mX10_count 24 (nI 2) 25 := Or.inl (⟨2, by decide +kernel, by decide, rfl⟩)
theorem eX10_count_25 : xJ mX10_count 25 (.if_icmp .ne) 41 28 := ⟨(16), by decide +kernel, by decide, rfl⟩
theorem eX10_count_28 : x_aload mX10_count 28 0 29 := Or.inl ⟨0, by decide +kernel, rfl, rfl⟩
theorem eX10_count_29 : xGF mX10_count 29 10 9 32 := ⟨25, _, _, by decide +kernel, rfl, fl_X10_25⟩
theorem eX10_count_32 : xK mX10_count 32 (nI 14) 34 := Or.inr (Or.inl (⟨14, by decide +kernel, by decide, rfl⟩))
theorem eX10_count_34 : xD mX10_count 34 (.iaload) 1 35 := ⟨by decide +kernel, rfl⟩
set_option maxRecDepth 20000 in
theorem eX10_count_35 : xCS mX10_count 35 mX10_bits 1 38 := ⟨236, by decide +kernel, rfl, ⟨cm_X10_236.1, cm_X10_236.2.1, cm_X10_236.2.2.1, cm_X10_236.2.2.2.1, cm_X10_236.2.2.2.2⟩, xT_5 107 rfl rfl⟩
theorem eX10_count_38 : xJ mX10_count 38 (.goto) 151 41 := ⟨(113), by decide +kernel, by decide, rfl⟩
theorem eX10_count_41 : x_iload mX10_count 41 1 42 := Or.inl ⟨1, by decide +kernel, rfl, rfl⟩
theorem eX10_count_42 : xK mX10_count 42 (nI 3) 43 := Or.inl (⟨3, by decide +kernel, by decide, rfl⟩)
theorem eX10_count_43 : xJ mX10_count 43 (.if_icmp .ne) 59 46 := ⟨(16), by decide +kernel, by decide, rfl⟩
theorem eX10_count_46 : x_aload mX10_count 46 0 47 := Or.inl ⟨0, by decide +kernel, rfl, rfl⟩
theorem eX10_count_47 : xGF mX10_count 47 10 9 50 := ⟨25, _, _, by decide +kernel, rfl, fl_X10_25⟩
theorem eX10_count_50 : xK mX10_count 50 (nI 15) 52 := Or.inr (Or.inl (⟨15, by decide +kernel, by decide, rfl⟩))
theorem eX10_count_52 : xD mX10_count 52 (.iaload) 1 53 := ⟨by decide +kernel, rfl⟩
set_option maxRecDepth 20000 in
theorem eX10_count_53 : xCS mX10_count 53 mX10_bits 1 56 := ⟨236, by decide +kernel, rfl, ⟨cm_X10_236.1, cm_X10_236.2.1, cm_X10_236.2.2.1, cm_X10_236.2.2.2.1, cm_X10_236.2.2.2.2⟩, xT_5 107 rfl rfl⟩
theorem eX10_count_56 : xJ mX10_count 56 (.goto) 151 59 := ⟨(95), by decide +kernel, by decide, rfl⟩
theorem eX10_count_59 : x_iload mX10_count 59 1 60 := Or.inl ⟨1, by decide +kernel, rfl, rfl⟩
theorem eX10_count_60 : xK mX10_count 60 (nI 4) 61 := Or.inl (⟨4, by decide +kernel, by decide, rfl⟩)
theorem eX10_count_61 : xJ mX10_count 61 (.if_icmp .ne) 72 64 := ⟨(11), by decide +kernel, by decide, rfl⟩
theorem eX10_count_64 : x_aload mX10_count 64 0 65 := Or.inl ⟨0, by decide +kernel, rfl, rfl⟩
theorem eX10_count_65 : xK mX10_count 65 (nI 0) 66 := Or.inl (⟨0, by decide +kernel, by decide, rfl⟩)
set_option maxRecDepth 20000 in
theorem eX10_count_66 : xCV mX10_count 66 mX10_found 1 10 69 := ⟨218, by decide +kernel, rfl, ⟨cm_X10_218.1, cm_X10_218.2.1, cm_X10_218.2.2.1, cm_X10_218.2.2.2.1, cm_X10_218.2.2.2.2⟩, xT_5 87 rfl rfl, xT_0 49 rfl rfl, _, rfl, rfl⟩
theorem eX10_count_69 : xJ mX10_count 69 (.goto) 151 72 := ⟨(82), by decide +kernel, by decide, rfl⟩
theorem eX10_count_72 : x_iload mX10_count 72 1 73 := Or.inl ⟨1, by decide +kernel, rfl, rfl⟩
theorem eX10_count_73 : xK mX10_count 73 (nI 5) 74 := Or.inl (⟨5, by decide +kernel, by decide, rfl⟩)
theorem eX10_count_74 : xJ mX10_count 74 (.if_icmp .ne) 84 77 := ⟨(10), by decide +kernel, by decide, rfl⟩
theorem eX10_count_77 : x_aload mX10_count 77 0 78 := Or.inl ⟨0, by decide +kernel, rfl, rfl⟩
set_option maxRecDepth 20000 in
theorem eX10_count_78 : xCV mX10_count 78 mX10_oxen 0 10 81 := ⟨260, by decide +kernel, rfl, ⟨cm_X10_260.1, cm_X10_260.2.1, cm_X10_260.2.2.1, cm_X10_260.2.2.2.1, cm_X10_260.2.2.2.2⟩, xT_5 164 rfl rfl, xT_0 53 rfl rfl, _, rfl, rfl⟩
theorem eX10_count_81 : xJ mX10_count 81 (.goto) 151 84 := ⟨(70), by decide +kernel, by decide, rfl⟩
theorem eX10_count_84 : x_iload mX10_count 84 1 85 := Or.inl ⟨1, by decide +kernel, rfl, rfl⟩
theorem eX10_count_85 : xK mX10_count 85 (nI 6) 87 := Or.inr (Or.inl (⟨6, by decide +kernel, by decide, rfl⟩))
theorem eX10_count_87 : xJ mX10_count 87 (.if_icmp .ne) 98 90 := ⟨(11), by decide +kernel, by decide, rfl⟩
theorem eX10_count_90 : x_aload mX10_count 90 0 91 := Or.inl ⟨0, by decide +kernel, rfl, rfl⟩
theorem eX10_count_91 : xK mX10_count 91 (nI 0) 92 := Or.inl (⟨0, by decide +kernel, by decide, rfl⟩)
set_option maxRecDepth 20000 in
theorem eX10_count_92 : xCV mX10_count 92 mX10_mostDays 1 10 95 := ⟨257, by decide +kernel, rfl, ⟨cm_X10_257.1, cm_X10_257.2.1, cm_X10_257.2.2.1, cm_X10_257.2.2.2.1, cm_X10_257.2.2.2.2⟩, xT_5 148 rfl rfl, xT_0 52 rfl rfl, _, rfl, rfl⟩
theorem eX10_count_95 : xJ mX10_count 95 (.goto) 151 98 := ⟨(56), by decide +kernel, by decide, rfl⟩
theorem eX10_count_98 : x_iload mX10_count 98 1 99 := Or.inl ⟨1, by decide +kernel, rfl, rfl⟩
theorem eX10_count_99 : xK mX10_count 99 (nI 7) 101 := Or.inr (Or.inl (⟨7, by decide +kernel, by decide, rfl⟩))
theorem eX10_count_101 : xJ mX10_count 101 (.if_icmp .ne) 111 104 := ⟨(10), by decide +kernel, by decide, rfl⟩
theorem eX10_count_104 : x_aload mX10_count 104 0 105 := Or.inl ⟨0, by decide +kernel, rfl, rfl⟩
theorem eX10_count_105 : xGF mX10_count 105 10 17 108 := ⟨133, _, _, by decide +kernel, rfl, fl_X10_133⟩
theorem eX10_count_108 : xJ mX10_count 108 (.goto) 151 111 := ⟨(43), by decide +kernel, by decide, rfl⟩
theorem eX10_count_111 : x_iload mX10_count 111 1 112 := Or.inl ⟨1, by decide +kernel, rfl, rfl⟩
theorem eX10_count_112 : xK mX10_count 112 (nI 8) 114 := Or.inr (Or.inl (⟨8, by decide +kernel, by decide, rfl⟩))
theorem eX10_count_114 : xJ mX10_count 114 (.if_icmp .ne) 124 117 := ⟨(10), by decide +kernel, by decide, rfl⟩
theorem eX10_count_117 : x_aload mX10_count 117 0 118 := Or.inl ⟨0, by decide +kernel, rfl, rfl⟩
theorem eX10_count_118 : xGF mX10_count 118 10 10 121 := ⟨127, _, _, by decide +kernel, rfl, fl_X10_127⟩
theorem eX10_count_121 : xJ mX10_count 121 (.goto) 151 124 := ⟨(30), by decide +kernel, by decide, rfl⟩
theorem eX10_count_124 : x_iload mX10_count 124 1 125 := Or.inl ⟨1, by decide +kernel, rfl, rfl⟩
theorem eX10_count_125 : xK mX10_count 125 (nI 9) 127 := Or.inr (Or.inl (⟨9, by decide +kernel, by decide, rfl⟩))
theorem eX10_count_127 : xJ mX10_count 127 (.if_icmp .ne) 137 130 := ⟨(10), by decide +kernel, by decide, rfl⟩
theorem eX10_count_130 : x_aload mX10_count 130 0 131 := Or.inl ⟨0, by decide +kernel, rfl, rfl⟩
theorem eX10_count_131 : xGF mX10_count 131 10 11 134 := ⟨130, _, _, by decide +kernel, rfl, fl_X10_130⟩
theorem eX10_count_134 : xJ mX10_count 134 (.goto) 151 137 := ⟨(17), by decide +kernel, by decide, rfl⟩
theorem eX10_count_137 : x_iload mX10_count 137 1 138 := Or.inl ⟨1, by decide +kernel, rfl, rfl⟩
theorem eX10_count_138 : xK mX10_count 138 (nI 10) 140 := Or.inr (Or.inl (⟨10, by decide +kernel, by decide, rfl⟩))
theorem eX10_count_140 : xJ mX10_count 140 (.if_icmp .ne) 150 143 := ⟨(10), by decide +kernel, by decide, rfl⟩
theorem eX10_count_143 : x_aload mX10_count 143 0 144 := Or.inl ⟨0, by decide +kernel, rfl, rfl⟩
theorem eX10_count_144 : xGF mX10_count 144 10 12 147 := ⟨89, _, _, by decide +kernel, rfl, fl_X10_89⟩
theorem eX10_count_147 : xJ mX10_count 147 (.goto) 151 150 := ⟨(4), by decide +kernel, by decide, rfl⟩
theorem eX10_count_150 : xK mX10_count 150 ((-1)) 151 := Or.inl (⟨(-1), by decide +kernel, by decide, rfl⟩)
theorem eX10_count_151 : xD mX10_count 151 (.ireturn) 1 152 := ⟨by decide +kernel, rfl⟩
end
section
theorem eL_3 : xD mL 3 (.dup) 1 4 := ⟨by decide +kernel, rfl⟩
set_option maxRecDepth 20000 in
theorem eL_4 : xCI mL 4 mX9_init 0 7 := ⟨9, by decide +kernel, rfl, ⟨cm_L_9.1, cm_L_9.2.1, cm_L_9.2.2.1, cm_L_9.2.2.2.1, cm_L_9.2.2.2.2⟩, xT_1 23 rfl rfl, rfl⟩
theorem eL_7 : x_astore mL 7 1 8 := Or.inl ⟨1, by decide +kernel, rfl, rfl⟩
theorem eL_11 : xD mL 11 (.dup) 1 12 := ⟨by decide +kernel, rfl⟩
set_option maxRecDepth 20000 in
theorem eL_12 : xCI mL 12 mX10_init 0 15 := ⟨12, by decide +kernel, rfl, ⟨cm_L_12.1, cm_L_12.2.1, cm_L_12.2.2.1, cm_L_12.2.2.2.1, cm_L_12.2.2.2.2⟩, xT_4 47 rfl rfl, rfl⟩
theorem eL_15 : x_astore mL 15 2 16 := Or.inl ⟨2, by decide +kernel, rfl, rfl⟩
theorem eL_16 : xK mL 16 (nI 0) 17 := Or.inl (⟨0, by decide +kernel, by decide, rfl⟩)
theorem eL_17 : x_istore mL 17 3 18 := Or.inl ⟨3, by decide +kernel, rfl, rfl⟩
theorem eL_18 : x_iload mL 18 3 19 := Or.inl ⟨3, by decide +kernel, rfl, rfl⟩
theorem eL_19 : x_aload mL 19 0 20 := Or.inl ⟨0, by decide +kernel, rfl, rfl⟩
theorem eL_20 : xD mL 20 (.arraylength) 1 21 := ⟨by decide +kernel, rfl⟩
theorem eL_21 : xK mL 21 (nI 4) 22 := Or.inl (⟨4, by decide +kernel, by decide, rfl⟩)
theorem eL_22 : xD mL 22 (.isub) 1 23 := ⟨by decide +kernel, rfl⟩
theorem eL_23 : xJ mL 23 (.if_icmp .gt) 759 26 := ⟨(736), by decide +kernel, by decide, rfl⟩
theorem eL_26 : x_aload mL 26 0 27 := Or.inl ⟨0, by decide +kernel, rfl, rfl⟩
theorem eL_27 : x_iload mL 27 3 28 := Or.inl ⟨3, by decide +kernel, rfl, rfl⟩
theorem eL_28 : xD mL 28 (.iaload) 1 29 := ⟨by decide +kernel, rfl⟩
theorem eL_29 : xK mL 29 (nI 31) 31 := Or.inr (Or.inl (⟨31, by decide +kernel, by decide, rfl⟩))
theorem eL_31 : xD mL 31 (.iand) 1 32 := ⟨by decide +kernel, rfl⟩
def tL_32 : Int → Nat := fun v => match v with | 0 => 148 | 1 => 171 | 2 => 184 | 3 => 197 | 4 => 210 | 5 => 243 | 6 => 276 | 7 => 309 | 8 => 342 | 9 => 365 | 10 => 388 | 11 => 401 | 12 => 424 | 13 => 447 | 14 => 470 | 15 => 503 | 16 => 536 | 17 => 549 | 18 => 572 | 19 => 585 | 20 => 618 | 21 => 661 | 22 => 704 | 23 => 717 | 24 => 730 | _ => 0
theorem eL_32 : xTS mL 32 0 24 tL_32 753 := ⟨721, #[116, 139, 152, 165, 178, 211, 244, 277, 310, 333, 356, 369, 392, 415, 438, 471, 504, 517, 540, 553, 586, 629, 672, 685, 698], 116, by decide +kernel, by decide, by decide +kernel⟩
theorem eL_148 : x_aload mL 148 1 149 := Or.inl ⟨1, by decide +kernel, rfl, rfl⟩
theorem eL_149 : x_aload mL 149 0 150 := Or.inl ⟨0, by decide +kernel, rfl, rfl⟩
theorem eL_150 : x_iload mL 150 3 151 := Or.inl ⟨3, by decide +kernel, rfl, rfl⟩
theorem eL_151 : xK mL 151 (nI 1) 152 := Or.inl (⟨1, by decide +kernel, by decide, rfl⟩)
theorem eL_152 : xD mL 152 (.iadd) 1 153 := ⟨by decide +kernel, rfl⟩
theorem eL_153 : xD mL 153 (.iaload) 1 154 := ⟨by decide +kernel, rfl⟩
set_option maxRecDepth 20000 in
theorem eL_154 : xCV mL 154 mX9_write 1 9 157 := ⟨13, by decide +kernel, rfl, ⟨cm_L_13.1, cm_L_13.2.1, cm_L_13.2.2.1, cm_L_13.2.2.2.1, cm_L_13.2.2.2.2⟩, xT_2 206 rfl rfl, xT_2 207 rfl rfl, _, rfl, rfl⟩
theorem eL_157 : x_aload mL 157 2 158 := Or.inl ⟨2, by decide +kernel, rfl, rfl⟩
theorem eL_158 : x_aload mL 158 0 159 := Or.inl ⟨0, by decide +kernel, rfl, rfl⟩
theorem eL_159 : x_iload mL 159 3 160 := Or.inl ⟨3, by decide +kernel, rfl, rfl⟩
theorem eL_160 : xK mL 160 (nI 1) 161 := Or.inl (⟨1, by decide +kernel, by decide, rfl⟩)
theorem eL_161 : xD mL 161 (.iadd) 1 162 := ⟨by decide +kernel, rfl⟩
theorem eL_162 : xD mL 162 (.iaload) 1 163 := ⟨by decide +kernel, rfl⟩
set_option maxRecDepth 20000 in
theorem eL_163 : xCV mL 163 mX10_write 1 10 166 := ⟨17, by decide +kernel, rfl, ⟨cm_L_17.1, cm_L_17.2.1, cm_L_17.2.2.1, cm_L_17.2.2.2.1, cm_L_17.2.2.2.2⟩, xT_4 149 rfl rfl, xT_4 150 rfl rfl, _, rfl, rfl⟩
theorem eL_166 : xJ mL 166 (.if_icmp .eq) 753 169 := ⟨(587), by decide +kernel, by decide, rfl⟩
theorem eL_169 : xK mL 169 (nI 0) 170 := Or.inl (⟨0, by decide +kernel, by decide, rfl⟩)
theorem eL_170 : xD mL 170 (.ireturn) 1 171 := ⟨by decide +kernel, rfl⟩
theorem eL_171 : x_aload mL 171 1 172 := Or.inl ⟨1, by decide +kernel, rfl, rfl⟩
set_option maxRecDepth 20000 in
theorem eL_172 : xCV mL 172 mX9_wipe 0 9 175 := ⟨18, by decide +kernel, rfl, ⟨cm_L_18.1, cm_L_18.2.1, cm_L_18.2.2.1, cm_L_18.2.2.2.1, cm_L_18.2.2.2.2⟩, xT_2 212 rfl rfl, xT_2 213 rfl rfl, _, rfl, rfl⟩
theorem eL_175 : x_aload mL 175 2 176 := Or.inl ⟨2, by decide +kernel, rfl, rfl⟩
set_option maxRecDepth 20000 in
theorem eL_176 : xCV mL 176 mX10_wipe 0 10 179 := ⟨22, by decide +kernel, rfl, ⟨cm_L_22.1, cm_L_22.2.1, cm_L_22.2.2.1, cm_L_22.2.2.2.1, cm_L_22.2.2.2.2⟩, xT_4 158 rfl rfl, xT_4 159 rfl rfl, _, rfl, rfl⟩
theorem eL_179 : xJ mL 179 (.if_icmp .eq) 753 182 := ⟨(574), by decide +kernel, by decide, rfl⟩
theorem eL_182 : xK mL 182 (nI 0) 183 := Or.inl (⟨0, by decide +kernel, by decide, rfl⟩)
theorem eL_183 : xD mL 183 (.ireturn) 1 184 := ⟨by decide +kernel, rfl⟩
theorem eL_184 : x_aload mL 184 1 185 := Or.inl ⟨1, by decide +kernel, rfl, rfl⟩
set_option maxRecDepth 20000 in
theorem eL_185 : xCV mL 185 mX9_fault 0 9 188 := ⟨23, by decide +kernel, rfl, ⟨cm_L_23.1, cm_L_23.2.1, cm_L_23.2.2.1, cm_L_23.2.2.2.1, cm_L_23.2.2.2.2⟩, xT_2 216 rfl rfl, xT_2 217 rfl rfl, _, rfl, rfl⟩
theorem eL_188 : x_aload mL 188 2 189 := Or.inl ⟨2, by decide +kernel, rfl, rfl⟩
set_option maxRecDepth 20000 in
theorem eL_189 : xCV mL 189 mX10_fault 0 10 192 := ⟨26, by decide +kernel, rfl, ⟨cm_L_26.1, cm_L_26.2.1, cm_L_26.2.2.1, cm_L_26.2.2.2.1, cm_L_26.2.2.2.2⟩, xT_4 162 rfl rfl, xT_4 163 rfl rfl, _, rfl, rfl⟩
theorem eL_192 : xJ mL 192 (.if_icmp .eq) 753 195 := ⟨(561), by decide +kernel, by decide, rfl⟩
theorem eL_195 : xK mL 195 (nI 0) 196 := Or.inl (⟨0, by decide +kernel, by decide, rfl⟩)
theorem eL_196 : xD mL 196 (.ireturn) 1 197 := ⟨by decide +kernel, rfl⟩
theorem eL_197 : x_aload mL 197 1 198 := Or.inl ⟨1, by decide +kernel, rfl, rfl⟩
set_option maxRecDepth 20000 in
theorem eL_198 : xCV mL 198 mX9_lay 0 9 201 := ⟨27, by decide +kernel, rfl, ⟨cm_L_27.1, cm_L_27.2.1, cm_L_27.2.2.1, cm_L_27.2.2.2.1, cm_L_27.2.2.2.2⟩, xT_2 220 rfl rfl, xT_2 221 rfl rfl, _, rfl, rfl⟩
theorem eL_201 : x_aload mL 201 2 202 := Or.inl ⟨2, by decide +kernel, rfl, rfl⟩
set_option maxRecDepth 20000 in
theorem eL_202 : xCV mL 202 mX10_lay 0 10 205 := ⟨30, by decide +kernel, rfl, ⟨cm_L_30.1, cm_L_30.2.1, cm_L_30.2.2.1, cm_L_30.2.2.2.1, cm_L_30.2.2.2.2⟩, xT_4 188 rfl rfl, xT_4 189 rfl rfl, _, rfl, rfl⟩
theorem eL_205 : xJ mL 205 (.if_icmp .eq) 753 208 := ⟨(548), by decide +kernel, by decide, rfl⟩
theorem eL_208 : xK mL 208 (nI 0) 209 := Or.inl (⟨0, by decide +kernel, by decide, rfl⟩)
theorem eL_209 : xD mL 209 (.ireturn) 1 210 := ⟨by decide +kernel, rfl⟩
theorem eL_210 : x_aload mL 210 1 211 := Or.inl ⟨1, by decide +kernel, rfl, rfl⟩
theorem eL_211 : x_aload mL 211 0 212 := Or.inl ⟨0, by decide +kernel, rfl, rfl⟩
theorem eL_212 : x_iload mL 212 3 213 := Or.inl ⟨3, by decide +kernel, rfl, rfl⟩
theorem eL_213 : xK mL 213 (nI 1) 214 := Or.inl (⟨1, by decide +kernel, by decide, rfl⟩)
theorem eL_214 : xD mL 214 (.iadd) 1 215 := ⟨by decide +kernel, rfl⟩
theorem eL_215 : xD mL 215 (.iaload) 1 216 := ⟨by decide +kernel, rfl⟩
theorem eL_216 : x_aload mL 216 0 217 := Or.inl ⟨0, by decide +kernel, rfl, rfl⟩
theorem eL_217 : x_iload mL 217 3 218 := Or.inl ⟨3, by decide +kernel, rfl, rfl⟩
theorem eL_218 : xK mL 218 (nI 2) 219 := Or.inl (⟨2, by decide +kernel, by decide, rfl⟩)
theorem eL_219 : xD mL 219 (.iadd) 1 220 := ⟨by decide +kernel, rfl⟩
theorem eL_220 : xD mL 220 (.iaload) 1 221 := ⟨by decide +kernel, rfl⟩
set_option maxRecDepth 20000 in
theorem eL_221 : xCV mL 221 mX9_village 2 9 224 := ⟨31, by decide +kernel, rfl, ⟨cm_L_31.1, cm_L_31.2.1, cm_L_31.2.2.1, cm_L_31.2.2.2.1, cm_L_31.2.2.2.2⟩, xT_2 224 rfl rfl, xT_2 225 rfl rfl, _, rfl, rfl⟩
theorem eL_224 : x_aload mL 224 2 225 := Or.inl ⟨2, by decide +kernel, rfl, rfl⟩
theorem eL_225 : x_aload mL 225 0 226 := Or.inl ⟨0, by decide +kernel, rfl, rfl⟩
theorem eL_226 : x_iload mL 226 3 227 := Or.inl ⟨3, by decide +kernel, rfl, rfl⟩
theorem eL_227 : xK mL 227 (nI 1) 228 := Or.inl (⟨1, by decide +kernel, by decide, rfl⟩)
theorem eL_228 : xD mL 228 (.iadd) 1 229 := ⟨by decide +kernel, rfl⟩
theorem eL_229 : xD mL 229 (.iaload) 1 230 := ⟨by decide +kernel, rfl⟩
theorem eL_230 : x_aload mL 230 0 231 := Or.inl ⟨0, by decide +kernel, rfl, rfl⟩
theorem eL_231 : x_iload mL 231 3 232 := Or.inl ⟨3, by decide +kernel, rfl, rfl⟩
theorem eL_232 : xK mL 232 (nI 2) 233 := Or.inl (⟨2, by decide +kernel, by decide, rfl⟩)
theorem eL_233 : xD mL 233 (.iadd) 1 234 := ⟨by decide +kernel, rfl⟩
theorem eL_234 : xD mL 234 (.iaload) 1 235 := ⟨by decide +kernel, rfl⟩
set_option maxRecDepth 20000 in
theorem eL_235 : xCV mL 235 mX10_village 2 10 238 := ⟨35, by decide +kernel, rfl, ⟨cm_L_35.1, cm_L_35.2.1, cm_L_35.2.2.1, cm_L_35.2.2.2.1, cm_L_35.2.2.2.2⟩, xT_4 196 rfl rfl, xT_4 197 rfl rfl, _, rfl, rfl⟩
theorem eL_238 : xJ mL 238 (.if_icmp .eq) 753 241 := ⟨(515), by decide +kernel, by decide, rfl⟩
theorem eL_241 : xK mL 241 (nI 0) 242 := Or.inl (⟨0, by decide +kernel, by decide, rfl⟩)
theorem eL_242 : xD mL 242 (.ireturn) 1 243 := ⟨by decide +kernel, rfl⟩
theorem eL_243 : x_aload mL 243 1 244 := Or.inl ⟨1, by decide +kernel, rfl, rfl⟩
theorem eL_244 : x_aload mL 244 0 245 := Or.inl ⟨0, by decide +kernel, rfl, rfl⟩
theorem eL_245 : x_iload mL 245 3 246 := Or.inl ⟨3, by decide +kernel, rfl, rfl⟩
theorem eL_246 : xK mL 246 (nI 1) 247 := Or.inl (⟨1, by decide +kernel, by decide, rfl⟩)
theorem eL_247 : xD mL 247 (.iadd) 1 248 := ⟨by decide +kernel, rfl⟩
theorem eL_248 : xD mL 248 (.iaload) 1 249 := ⟨by decide +kernel, rfl⟩
theorem eL_249 : x_aload mL 249 0 250 := Or.inl ⟨0, by decide +kernel, rfl, rfl⟩
theorem eL_250 : x_iload mL 250 3 251 := Or.inl ⟨3, by decide +kernel, rfl, rfl⟩
theorem eL_251 : xK mL 251 (nI 2) 252 := Or.inl (⟨2, by decide +kernel, by decide, rfl⟩)
theorem eL_252 : xD mL 252 (.iadd) 1 253 := ⟨by decide +kernel, rfl⟩
theorem eL_253 : xD mL 253 (.iaload) 1 254 := ⟨by decide +kernel, rfl⟩
set_option maxRecDepth 20000 in
theorem eL_254 : xCV mL 254 mX9_party 2 9 257 := ⟨36, by decide +kernel, rfl, ⟨cm_L_36.1, cm_L_36.2.1, cm_L_36.2.2.1, cm_L_36.2.2.2.1, cm_L_36.2.2.2.2⟩, xT_3 7 rfl rfl, xT_3 8 rfl rfl, _, rfl, rfl⟩
theorem eL_257 : x_aload mL 257 2 258 := Or.inl ⟨2, by decide +kernel, rfl, rfl⟩
theorem eL_258 : x_aload mL 258 0 259 := Or.inl ⟨0, by decide +kernel, rfl, rfl⟩
theorem eL_259 : x_iload mL 259 3 260 := Or.inl ⟨3, by decide +kernel, rfl, rfl⟩
theorem eL_260 : xK mL 260 (nI 1) 261 := Or.inl (⟨1, by decide +kernel, by decide, rfl⟩)
theorem eL_261 : xD mL 261 (.iadd) 1 262 := ⟨by decide +kernel, rfl⟩
theorem eL_262 : xD mL 262 (.iaload) 1 263 := ⟨by decide +kernel, rfl⟩
theorem eL_263 : x_aload mL 263 0 264 := Or.inl ⟨0, by decide +kernel, rfl, rfl⟩
theorem eL_264 : x_iload mL 264 3 265 := Or.inl ⟨3, by decide +kernel, rfl, rfl⟩
theorem eL_265 : xK mL 265 (nI 2) 266 := Or.inl (⟨2, by decide +kernel, by decide, rfl⟩)
theorem eL_266 : xD mL 266 (.iadd) 1 267 := ⟨by decide +kernel, rfl⟩
theorem eL_267 : xD mL 267 (.iaload) 1 268 := ⟨by decide +kernel, rfl⟩
set_option maxRecDepth 20000 in
theorem eL_268 : xCV mL 268 mX10_party 2 10 271 := ⟨39, by decide +kernel, rfl, ⟨cm_L_39.1, cm_L_39.2.1, cm_L_39.2.2.1, cm_L_39.2.2.2.1, cm_L_39.2.2.2.2⟩, xT_4 232 rfl rfl, xT_4 233 rfl rfl, _, rfl, rfl⟩
theorem eL_271 : xJ mL 271 (.if_icmp .eq) 753 274 := ⟨(482), by decide +kernel, by decide, rfl⟩
theorem eL_274 : xK mL 274 (nI 0) 275 := Or.inl (⟨0, by decide +kernel, by decide, rfl⟩)
theorem eL_275 : xD mL 275 (.ireturn) 1 276 := ⟨by decide +kernel, rfl⟩
theorem eL_276 : x_aload mL 276 1 277 := Or.inl ⟨1, by decide +kernel, rfl, rfl⟩
theorem eL_277 : x_aload mL 277 0 278 := Or.inl ⟨0, by decide +kernel, rfl, rfl⟩
theorem eL_278 : x_iload mL 278 3 279 := Or.inl ⟨3, by decide +kernel, rfl, rfl⟩
theorem eL_279 : xK mL 279 (nI 1) 280 := Or.inl (⟨1, by decide +kernel, by decide, rfl⟩)
theorem eL_280 : xD mL 280 (.iadd) 1 281 := ⟨by decide +kernel, rfl⟩
theorem eL_281 : xD mL 281 (.iaload) 1 282 := ⟨by decide +kernel, rfl⟩
theorem eL_282 : x_aload mL 282 0 283 := Or.inl ⟨0, by decide +kernel, rfl, rfl⟩
theorem eL_283 : x_iload mL 283 3 284 := Or.inl ⟨3, by decide +kernel, rfl, rfl⟩
theorem eL_284 : xK mL 284 (nI 2) 285 := Or.inl (⟨2, by decide +kernel, by decide, rfl⟩)
theorem eL_285 : xD mL 285 (.iadd) 1 286 := ⟨by decide +kernel, rfl⟩
theorem eL_286 : xD mL 286 (.iaload) 1 287 := ⟨by decide +kernel, rfl⟩
set_option maxRecDepth 20000 in
theorem eL_287 : xCV mL 287 mX9_far 2 9 290 := ⟨40, by decide +kernel, rfl, ⟨cm_L_40.1, cm_L_40.2.1, cm_L_40.2.2.1, cm_L_40.2.2.2.1, cm_L_40.2.2.2.2⟩, xT_3 15 rfl rfl, xT_3 16 rfl rfl, _, rfl, rfl⟩
theorem eL_290 : x_aload mL 290 2 291 := Or.inl ⟨2, by decide +kernel, rfl, rfl⟩
theorem eL_291 : x_aload mL 291 0 292 := Or.inl ⟨0, by decide +kernel, rfl, rfl⟩
theorem eL_292 : x_iload mL 292 3 293 := Or.inl ⟨3, by decide +kernel, rfl, rfl⟩
theorem eL_293 : xK mL 293 (nI 1) 294 := Or.inl (⟨1, by decide +kernel, by decide, rfl⟩)
theorem eL_294 : xD mL 294 (.iadd) 1 295 := ⟨by decide +kernel, rfl⟩
theorem eL_295 : xD mL 295 (.iaload) 1 296 := ⟨by decide +kernel, rfl⟩
theorem eL_296 : x_aload mL 296 0 297 := Or.inl ⟨0, by decide +kernel, rfl, rfl⟩
theorem eL_297 : x_iload mL 297 3 298 := Or.inl ⟨3, by decide +kernel, rfl, rfl⟩
theorem eL_298 : xK mL 298 (nI 2) 299 := Or.inl (⟨2, by decide +kernel, by decide, rfl⟩)
theorem eL_299 : xD mL 299 (.iadd) 1 300 := ⟨by decide +kernel, rfl⟩
theorem eL_300 : xD mL 300 (.iaload) 1 301 := ⟨by decide +kernel, rfl⟩
set_option maxRecDepth 20000 in
theorem eL_301 : xCV mL 301 mX10_far 2 10 304 := ⟨43, by decide +kernel, rfl, ⟨cm_L_43.1, cm_L_43.2.1, cm_L_43.2.2.1, cm_L_43.2.2.2.1, cm_L_43.2.2.2.2⟩, xT_4 236 rfl rfl, xT_4 237 rfl rfl, _, rfl, rfl⟩
theorem eL_304 : xJ mL 304 (.if_icmp .eq) 753 307 := ⟨(449), by decide +kernel, by decide, rfl⟩
theorem eL_307 : xK mL 307 (nI 0) 308 := Or.inl (⟨0, by decide +kernel, by decide, rfl⟩)
theorem eL_308 : xD mL 308 (.ireturn) 1 309 := ⟨by decide +kernel, rfl⟩
theorem eL_309 : x_aload mL 309 1 310 := Or.inl ⟨1, by decide +kernel, rfl, rfl⟩
theorem eL_310 : x_aload mL 310 0 311 := Or.inl ⟨0, by decide +kernel, rfl, rfl⟩
theorem eL_311 : x_iload mL 311 3 312 := Or.inl ⟨3, by decide +kernel, rfl, rfl⟩
theorem eL_312 : xK mL 312 (nI 1) 313 := Or.inl (⟨1, by decide +kernel, by decide, rfl⟩)
theorem eL_313 : xD mL 313 (.iadd) 1 314 := ⟨by decide +kernel, rfl⟩
theorem eL_314 : xD mL 314 (.iaload) 1 315 := ⟨by decide +kernel, rfl⟩
theorem eL_315 : x_aload mL 315 0 316 := Or.inl ⟨0, by decide +kernel, rfl, rfl⟩
theorem eL_316 : x_iload mL 316 3 317 := Or.inl ⟨3, by decide +kernel, rfl, rfl⟩
theorem eL_317 : xK mL 317 (nI 2) 318 := Or.inl (⟨2, by decide +kernel, by decide, rfl⟩)
theorem eL_318 : xD mL 318 (.iadd) 1 319 := ⟨by decide +kernel, rfl⟩
theorem eL_319 : xD mL 319 (.iaload) 1 320 := ⟨by decide +kernel, rfl⟩
set_option maxRecDepth 20000 in
theorem eL_320 : xCV mL 320 mX9_ask 2 9 323 := ⟨44, by decide +kernel, rfl, ⟨cm_L_44.1, cm_L_44.2.1, cm_L_44.2.2.1, cm_L_44.2.2.2.1, cm_L_44.2.2.2.2⟩, xT_3 20 rfl rfl, xT_3 21 rfl rfl, _, rfl, rfl⟩
theorem eL_323 : x_aload mL 323 2 324 := Or.inl ⟨2, by decide +kernel, rfl, rfl⟩
theorem eL_324 : x_aload mL 324 0 325 := Or.inl ⟨0, by decide +kernel, rfl, rfl⟩
theorem eL_325 : x_iload mL 325 3 326 := Or.inl ⟨3, by decide +kernel, rfl, rfl⟩
theorem eL_326 : xK mL 326 (nI 1) 327 := Or.inl (⟨1, by decide +kernel, by decide, rfl⟩)
theorem eL_327 : xD mL 327 (.iadd) 1 328 := ⟨by decide +kernel, rfl⟩
theorem eL_328 : xD mL 328 (.iaload) 1 329 := ⟨by decide +kernel, rfl⟩
theorem eL_329 : x_aload mL 329 0 330 := Or.inl ⟨0, by decide +kernel, rfl, rfl⟩
theorem eL_330 : x_iload mL 330 3 331 := Or.inl ⟨3, by decide +kernel, rfl, rfl⟩
theorem eL_331 : xK mL 331 (nI 2) 332 := Or.inl (⟨2, by decide +kernel, by decide, rfl⟩)
theorem eL_332 : xD mL 332 (.iadd) 1 333 := ⟨by decide +kernel, rfl⟩
theorem eL_333 : xD mL 333 (.iaload) 1 334 := ⟨by decide +kernel, rfl⟩
set_option maxRecDepth 20000 in
theorem eL_334 : xCV mL 334 mX10_ask 2 10 337 := ⟨47, by decide +kernel, rfl, ⟨cm_L_47.1, cm_L_47.2.1, cm_L_47.2.2.1, cm_L_47.2.2.2.1, cm_L_47.2.2.2.2⟩, xT_5 0 rfl rfl, xT_5 1 rfl rfl, _, rfl, rfl⟩
theorem eL_337 : xJ mL 337 (.if_icmp .eq) 753 340 := ⟨(416), by decide +kernel, by decide, rfl⟩
theorem eL_340 : xK mL 340 (nI 0) 341 := Or.inl (⟨0, by decide +kernel, by decide, rfl⟩)
theorem eL_341 : xD mL 341 (.ireturn) 1 342 := ⟨by decide +kernel, rfl⟩
theorem eL_342 : x_aload mL 342 1 343 := Or.inl ⟨1, by decide +kernel, rfl, rfl⟩
theorem eL_343 : x_aload mL 343 0 344 := Or.inl ⟨0, by decide +kernel, rfl, rfl⟩
theorem eL_344 : x_iload mL 344 3 345 := Or.inl ⟨3, by decide +kernel, rfl, rfl⟩
theorem eL_345 : xK mL 345 (nI 1) 346 := Or.inl (⟨1, by decide +kernel, by decide, rfl⟩)
theorem eL_346 : xD mL 346 (.iadd) 1 347 := ⟨by decide +kernel, rfl⟩
theorem eL_347 : xD mL 347 (.iaload) 1 348 := ⟨by decide +kernel, rfl⟩
set_option maxRecDepth 20000 in
theorem eL_348 : xCV mL 348 mX9_check 1 9 351 := ⟨48, by decide +kernel, rfl, ⟨cm_L_48.1, cm_L_48.2.1, cm_L_48.2.2.1, cm_L_48.2.2.2.1, cm_L_48.2.2.2.2⟩, xT_3 59 rfl rfl, xT_3 60 rfl rfl, _, rfl, rfl⟩
theorem eL_351 : x_aload mL 351 2 352 := Or.inl ⟨2, by decide +kernel, rfl, rfl⟩
theorem eL_352 : x_aload mL 352 0 353 := Or.inl ⟨0, by decide +kernel, rfl, rfl⟩
theorem eL_353 : x_iload mL 353 3 354 := Or.inl ⟨3, by decide +kernel, rfl, rfl⟩
theorem eL_354 : xK mL 354 (nI 1) 355 := Or.inl (⟨1, by decide +kernel, by decide, rfl⟩)
theorem eL_355 : xD mL 355 (.iadd) 1 356 := ⟨by decide +kernel, rfl⟩
theorem eL_356 : xD mL 356 (.iaload) 1 357 := ⟨by decide +kernel, rfl⟩
set_option maxRecDepth 20000 in
theorem eL_357 : xCV mL 357 mX10_check 1 10 360 := ⟨51, by decide +kernel, rfl, ⟨cm_L_51.1, cm_L_51.2.1, cm_L_51.2.2.1, cm_L_51.2.2.2.1, cm_L_51.2.2.2.2⟩, xT_5 20 rfl rfl, xT_5 21 rfl rfl, _, rfl, rfl⟩
theorem eL_360 : xJ mL 360 (.if_icmp .eq) 753 363 := ⟨(393), by decide +kernel, by decide, rfl⟩
theorem eL_363 : xK mL 363 (nI 0) 364 := Or.inl (⟨0, by decide +kernel, by decide, rfl⟩)
theorem eL_364 : xD mL 364 (.ireturn) 1 365 := ⟨by decide +kernel, rfl⟩
theorem eL_365 : x_aload mL 365 1 366 := Or.inl ⟨1, by decide +kernel, rfl, rfl⟩
theorem eL_366 : x_aload mL 366 0 367 := Or.inl ⟨0, by decide +kernel, rfl, rfl⟩
theorem eL_367 : x_iload mL 367 3 368 := Or.inl ⟨3, by decide +kernel, rfl, rfl⟩
theorem eL_368 : xK mL 368 (nI 1) 369 := Or.inl (⟨1, by decide +kernel, by decide, rfl⟩)
theorem eL_369 : xD mL 369 (.iadd) 1 370 := ⟨by decide +kernel, rfl⟩
theorem eL_370 : xD mL 370 (.iaload) 1 371 := ⟨by decide +kernel, rfl⟩
set_option maxRecDepth 20000 in
theorem eL_371 : xCV mL 371 mX9_strike 1 9 374 := ⟨52, by decide +kernel, rfl, ⟨cm_L_52.1, cm_L_52.2.1, cm_L_52.2.2.1, cm_L_52.2.2.2.1, cm_L_52.2.2.2.2⟩, xT_3 72 rfl rfl, xT_3 73 rfl rfl, _, rfl, rfl⟩
theorem eL_374 : x_aload mL 374 2 375 := Or.inl ⟨2, by decide +kernel, rfl, rfl⟩
theorem eL_375 : x_aload mL 375 0 376 := Or.inl ⟨0, by decide +kernel, rfl, rfl⟩
theorem eL_376 : x_iload mL 376 3 377 := Or.inl ⟨3, by decide +kernel, rfl, rfl⟩
theorem eL_377 : xK mL 377 (nI 1) 378 := Or.inl (⟨1, by decide +kernel, by decide, rfl⟩)
theorem eL_378 : xD mL 378 (.iadd) 1 379 := ⟨by decide +kernel, rfl⟩
theorem eL_379 : xD mL 379 (.iaload) 1 380 := ⟨by decide +kernel, rfl⟩
set_option maxRecDepth 20000 in
theorem eL_380 : xCV mL 380 mX10_strike 1 10 383 := ⟨55, by decide +kernel, rfl, ⟨cm_L_55.1, cm_L_55.2.1, cm_L_55.2.2.1, cm_L_55.2.2.2.1, cm_L_55.2.2.2.2⟩, xT_5 32 rfl rfl, xT_5 33 rfl rfl, _, rfl, rfl⟩
theorem eL_383 : xJ mL 383 (.if_icmp .eq) 753 386 := ⟨(370), by decide +kernel, by decide, rfl⟩
theorem eL_386 : xK mL 386 (nI 0) 387 := Or.inl (⟨0, by decide +kernel, by decide, rfl⟩)
theorem eL_387 : xD mL 387 (.ireturn) 1 388 := ⟨by decide +kernel, rfl⟩
theorem eL_388 : x_aload mL 388 1 389 := Or.inl ⟨1, by decide +kernel, rfl, rfl⟩
set_option maxRecDepth 20000 in
theorem eL_389 : xCV mL 389 mX9_undo 0 9 392 := ⟨56, by decide +kernel, rfl, ⟨cm_L_56.1, cm_L_56.2.1, cm_L_56.2.2.1, cm_L_56.2.2.2.1, cm_L_56.2.2.2.2⟩, xT_3 80 rfl rfl, xT_3 81 rfl rfl, _, rfl, rfl⟩
theorem eL_392 : x_aload mL 392 2 393 := Or.inl ⟨2, by decide +kernel, rfl, rfl⟩
set_option maxRecDepth 20000 in
theorem eL_393 : xCV mL 393 mX10_undo 0 10 396 := ⟨59, by decide +kernel, rfl, ⟨cm_L_59.1, cm_L_59.2.1, cm_L_59.2.2.1, cm_L_59.2.2.2.1, cm_L_59.2.2.2.2⟩, xT_5 40 rfl rfl, xT_5 41 rfl rfl, _, rfl, rfl⟩
theorem eL_396 : xJ mL 396 (.if_icmp .eq) 753 399 := ⟨(357), by decide +kernel, by decide, rfl⟩
theorem eL_399 : xK mL 399 (nI 0) 400 := Or.inl (⟨0, by decide +kernel, by decide, rfl⟩)
theorem eL_400 : xD mL 400 (.ireturn) 1 401 := ⟨by decide +kernel, rfl⟩
theorem eL_401 : x_aload mL 401 1 402 := Or.inl ⟨1, by decide +kernel, rfl, rfl⟩
theorem eL_402 : x_aload mL 402 0 403 := Or.inl ⟨0, by decide +kernel, rfl, rfl⟩
theorem eL_403 : x_iload mL 403 3 404 := Or.inl ⟨3, by decide +kernel, rfl, rfl⟩
theorem eL_404 : xK mL 404 (nI 1) 405 := Or.inl (⟨1, by decide +kernel, by decide, rfl⟩)
theorem eL_405 : xD mL 405 (.iadd) 1 406 := ⟨by decide +kernel, rfl⟩
theorem eL_406 : xD mL 406 (.iaload) 1 407 := ⟨by decide +kernel, rfl⟩
set_option maxRecDepth 20000 in
theorem eL_407 : xCV mL 407 mX9_soonest 1 9 410 := ⟨60, by decide +kernel, rfl, ⟨cm_L_60.1, cm_L_60.2.1, cm_L_60.2.2.1, cm_L_60.2.2.2.1, cm_L_60.2.2.2.2⟩, xT_3 88 rfl rfl, xT_3 89 rfl rfl, _, rfl, rfl⟩
theorem eL_410 : x_aload mL 410 2 411 := Or.inl ⟨2, by decide +kernel, rfl, rfl⟩
theorem eL_411 : x_aload mL 411 0 412 := Or.inl ⟨0, by decide +kernel, rfl, rfl⟩
theorem eL_412 : x_iload mL 412 3 413 := Or.inl ⟨3, by decide +kernel, rfl, rfl⟩
theorem eL_413 : xK mL 413 (nI 1) 414 := Or.inl (⟨1, by decide +kernel, by decide, rfl⟩)
theorem eL_414 : xD mL 414 (.iadd) 1 415 := ⟨by decide +kernel, rfl⟩
theorem eL_415 : xD mL 415 (.iaload) 1 416 := ⟨by decide +kernel, rfl⟩
set_option maxRecDepth 20000 in
theorem eL_416 : xCV mL 416 mX10_soonest 1 10 419 := ⟨63, by decide +kernel, rfl, ⟨cm_L_63.1, cm_L_63.2.1, cm_L_63.2.2.1, cm_L_63.2.2.2.1, cm_L_63.2.2.2.2⟩, xT_5 44 rfl rfl, xT_5 45 rfl rfl, _, rfl, rfl⟩
theorem eL_419 : xJ mL 419 (.if_icmp .eq) 753 422 := ⟨(334), by decide +kernel, by decide, rfl⟩
theorem eL_422 : xK mL 422 (nI 0) 423 := Or.inl (⟨0, by decide +kernel, by decide, rfl⟩)
theorem eL_423 : xD mL 423 (.ireturn) 1 424 := ⟨by decide +kernel, rfl⟩
theorem eL_424 : x_aload mL 424 1 425 := Or.inl ⟨1, by decide +kernel, rfl, rfl⟩
theorem eL_425 : x_aload mL 425 0 426 := Or.inl ⟨0, by decide +kernel, rfl, rfl⟩
theorem eL_426 : x_iload mL 426 3 427 := Or.inl ⟨3, by decide +kernel, rfl, rfl⟩
theorem eL_427 : xK mL 427 (nI 1) 428 := Or.inl (⟨1, by decide +kernel, by decide, rfl⟩)
theorem eL_428 : xD mL 428 (.iadd) 1 429 := ⟨by decide +kernel, rfl⟩
theorem eL_429 : xD mL 429 (.iaload) 1 430 := ⟨by decide +kernel, rfl⟩
set_option maxRecDepth 20000 in
theorem eL_430 : xCV mL 430 mX9_most 1 9 433 := ⟨64, by decide +kernel, rfl, ⟨cm_L_64.1, cm_L_64.2.1, cm_L_64.2.2.1, cm_L_64.2.2.2.1, cm_L_64.2.2.2.2⟩, xT_3 138 rfl rfl, xT_3 139 rfl rfl, _, rfl, rfl⟩
theorem eL_433 : x_aload mL 433 2 434 := Or.inl ⟨2, by decide +kernel, rfl, rfl⟩
theorem eL_434 : x_aload mL 434 0 435 := Or.inl ⟨0, by decide +kernel, rfl, rfl⟩
theorem eL_435 : x_iload mL 435 3 436 := Or.inl ⟨3, by decide +kernel, rfl, rfl⟩
theorem eL_436 : xK mL 436 (nI 1) 437 := Or.inl (⟨1, by decide +kernel, by decide, rfl⟩)
theorem eL_437 : xD mL 437 (.iadd) 1 438 := ⟨by decide +kernel, rfl⟩
theorem eL_438 : xD mL 438 (.iaload) 1 439 := ⟨by decide +kernel, rfl⟩
set_option maxRecDepth 20000 in
theorem eL_439 : xCV mL 439 mX10_most 1 10 442 := ⟨67, by decide +kernel, rfl, ⟨cm_L_67.1, cm_L_67.2.1, cm_L_67.2.2.1, cm_L_67.2.2.2.1, cm_L_67.2.2.2.2⟩, xT_5 69 rfl rfl, xT_5 70 rfl rfl, _, rfl, rfl⟩
theorem eL_442 : xJ mL 442 (.if_icmp .eq) 753 445 := ⟨(311), by decide +kernel, by decide, rfl⟩
theorem eL_445 : xK mL 445 (nI 0) 446 := Or.inl (⟨0, by decide +kernel, by decide, rfl⟩)
theorem eL_446 : xD mL 446 (.ireturn) 1 447 := ⟨by decide +kernel, rfl⟩
theorem eL_447 : x_aload mL 447 1 448 := Or.inl ⟨1, by decide +kernel, rfl, rfl⟩
theorem eL_448 : x_aload mL 448 0 449 := Or.inl ⟨0, by decide +kernel, rfl, rfl⟩
theorem eL_449 : x_iload mL 449 3 450 := Or.inl ⟨3, by decide +kernel, rfl, rfl⟩
theorem eL_450 : xK mL 450 (nI 1) 451 := Or.inl (⟨1, by decide +kernel, by decide, rfl⟩)
theorem eL_451 : xD mL 451 (.iadd) 1 452 := ⟨by decide +kernel, rfl⟩
theorem eL_452 : xD mL 452 (.iaload) 1 453 := ⟨by decide +kernel, rfl⟩
set_option maxRecDepth 20000 in
theorem eL_453 : xCV mL 453 mX9_least 1 9 456 := ⟨68, by decide +kernel, rfl, ⟨cm_L_68.1, cm_L_68.2.1, cm_L_68.2.2.1, cm_L_68.2.2.2.1, cm_L_68.2.2.2.2⟩, xT_3 168 rfl rfl, xT_3 169 rfl rfl, _, rfl, rfl⟩
theorem eL_456 : x_aload mL 456 2 457 := Or.inl ⟨2, by decide +kernel, rfl, rfl⟩
theorem eL_457 : x_aload mL 457 0 458 := Or.inl ⟨0, by decide +kernel, rfl, rfl⟩
theorem eL_458 : x_iload mL 458 3 459 := Or.inl ⟨3, by decide +kernel, rfl, rfl⟩
theorem eL_459 : xK mL 459 (nI 1) 460 := Or.inl (⟨1, by decide +kernel, by decide, rfl⟩)
theorem eL_460 : xD mL 460 (.iadd) 1 461 := ⟨by decide +kernel, rfl⟩
theorem eL_461 : xD mL 461 (.iaload) 1 462 := ⟨by decide +kernel, rfl⟩
set_option maxRecDepth 20000 in
theorem eL_462 : xCV mL 462 mX10_least 1 10 465 := ⟨71, by decide +kernel, rfl, ⟨cm_L_71.1, cm_L_71.2.1, cm_L_71.2.2.1, cm_L_71.2.2.2.1, cm_L_71.2.2.2.2⟩, xT_5 98 rfl rfl, xT_5 99 rfl rfl, _, rfl, rfl⟩
theorem eL_465 : xJ mL 465 (.if_icmp .eq) 753 468 := ⟨(288), by decide +kernel, by decide, rfl⟩
theorem eL_468 : xK mL 468 (nI 0) 469 := Or.inl (⟨0, by decide +kernel, by decide, rfl⟩)
theorem eL_469 : xD mL 469 (.ireturn) 1 470 := ⟨by decide +kernel, rfl⟩
theorem eL_470 : x_aload mL 470 1 471 := Or.inl ⟨1, by decide +kernel, rfl, rfl⟩
theorem eL_471 : x_aload mL 471 0 472 := Or.inl ⟨0, by decide +kernel, rfl, rfl⟩
theorem eL_472 : x_iload mL 472 3 473 := Or.inl ⟨3, by decide +kernel, rfl, rfl⟩
theorem eL_473 : xK mL 473 (nI 1) 474 := Or.inl (⟨1, by decide +kernel, by decide, rfl⟩)
theorem eL_474 : xD mL 474 (.iadd) 1 475 := ⟨by decide +kernel, rfl⟩
theorem eL_475 : xD mL 475 (.iaload) 1 476 := ⟨by decide +kernel, rfl⟩
theorem eL_476 : x_aload mL 476 0 477 := Or.inl ⟨0, by decide +kernel, rfl, rfl⟩
theorem eL_477 : x_iload mL 477 3 478 := Or.inl ⟨3, by decide +kernel, rfl, rfl⟩
theorem eL_478 : xK mL 478 (nI 2) 479 := Or.inl (⟨2, by decide +kernel, by decide, rfl⟩)
theorem eL_479 : xD mL 479 (.iadd) 1 480 := ⟨by decide +kernel, rfl⟩
theorem eL_480 : xD mL 480 (.iaload) 1 481 := ⟨by decide +kernel, rfl⟩
set_option maxRecDepth 20000 in
theorem eL_481 : xCV mL 481 mX9_checks 2 9 484 := ⟨72, by decide +kernel, rfl, ⟨cm_L_72.1, cm_L_72.2.1, cm_L_72.2.2.1, cm_L_72.2.2.2.1, cm_L_72.2.2.2.2⟩, xT_3 172 rfl rfl, xT_3 173 rfl rfl, _, rfl, rfl⟩
theorem eL_484 : x_aload mL 484 2 485 := Or.inl ⟨2, by decide +kernel, rfl, rfl⟩
theorem eL_485 : x_aload mL 485 0 486 := Or.inl ⟨0, by decide +kernel, rfl, rfl⟩
theorem eL_486 : x_iload mL 486 3 487 := Or.inl ⟨3, by decide +kernel, rfl, rfl⟩
theorem eL_487 : xK mL 487 (nI 1) 488 := Or.inl (⟨1, by decide +kernel, by decide, rfl⟩)
theorem eL_488 : xD mL 488 (.iadd) 1 489 := ⟨by decide +kernel, rfl⟩
theorem eL_489 : xD mL 489 (.iaload) 1 490 := ⟨by decide +kernel, rfl⟩
theorem eL_490 : x_aload mL 490 0 491 := Or.inl ⟨0, by decide +kernel, rfl, rfl⟩
theorem eL_491 : x_iload mL 491 3 492 := Or.inl ⟨3, by decide +kernel, rfl, rfl⟩
theorem eL_492 : xK mL 492 (nI 2) 493 := Or.inl (⟨2, by decide +kernel, by decide, rfl⟩)
theorem eL_493 : xD mL 493 (.iadd) 1 494 := ⟨by decide +kernel, rfl⟩
theorem eL_494 : xD mL 494 (.iaload) 1 495 := ⟨by decide +kernel, rfl⟩
set_option maxRecDepth 20000 in
theorem eL_495 : xCV mL 495 mX10_checks 2 10 498 := ⟨75, by decide +kernel, rfl, ⟨cm_L_75.1, cm_L_75.2.1, cm_L_75.2.2.1, cm_L_75.2.2.2.1, cm_L_75.2.2.2.2⟩, xT_5 102 rfl rfl, xT_5 103 rfl rfl, _, rfl, rfl⟩
theorem eL_498 : xJ mL 498 (.if_icmp .eq) 753 501 := ⟨(255), by decide +kernel, by decide, rfl⟩
theorem eL_501 : xK mL 501 (nI 0) 502 := Or.inl (⟨0, by decide +kernel, by decide, rfl⟩)
theorem eL_502 : xD mL 502 (.ireturn) 1 503 := ⟨by decide +kernel, rfl⟩
theorem eL_503 : x_aload mL 503 1 504 := Or.inl ⟨1, by decide +kernel, rfl, rfl⟩
theorem eL_504 : x_aload mL 504 0 505 := Or.inl ⟨0, by decide +kernel, rfl, rfl⟩
theorem eL_505 : x_iload mL 505 3 506 := Or.inl ⟨3, by decide +kernel, rfl, rfl⟩
theorem eL_506 : xK mL 506 (nI 1) 507 := Or.inl (⟨1, by decide +kernel, by decide, rfl⟩)
theorem eL_507 : xD mL 507 (.iadd) 1 508 := ⟨by decide +kernel, rfl⟩
theorem eL_508 : xD mL 508 (.iaload) 1 509 := ⟨by decide +kernel, rfl⟩
theorem eL_509 : x_aload mL 509 0 510 := Or.inl ⟨0, by decide +kernel, rfl, rfl⟩
theorem eL_510 : x_iload mL 510 3 511 := Or.inl ⟨3, by decide +kernel, rfl, rfl⟩
theorem eL_511 : xK mL 511 (nI 2) 512 := Or.inl (⟨2, by decide +kernel, by decide, rfl⟩)
theorem eL_512 : xD mL 512 (.iadd) 1 513 := ⟨by decide +kernel, rfl⟩
theorem eL_513 : xD mL 513 (.iaload) 1 514 := ⟨by decide +kernel, rfl⟩
set_option maxRecDepth 20000 in
theorem eL_514 : xCV mL 514 mX9_see 2 9 517 := ⟨76, by decide +kernel, rfl, ⟨cm_L_76.1, cm_L_76.2.1, cm_L_76.2.2.1, cm_L_76.2.2.2.1, cm_L_76.2.2.2.2⟩, xT_3 186 rfl rfl, xT_3 187 rfl rfl, _, rfl, rfl⟩
theorem eL_517 : x_aload mL 517 2 518 := Or.inl ⟨2, by decide +kernel, rfl, rfl⟩
theorem eL_518 : x_aload mL 518 0 519 := Or.inl ⟨0, by decide +kernel, rfl, rfl⟩
theorem eL_519 : x_iload mL 519 3 520 := Or.inl ⟨3, by decide +kernel, rfl, rfl⟩
theorem eL_520 : xK mL 520 (nI 1) 521 := Or.inl (⟨1, by decide +kernel, by decide, rfl⟩)
theorem eL_521 : xD mL 521 (.iadd) 1 522 := ⟨by decide +kernel, rfl⟩
theorem eL_522 : xD mL 522 (.iaload) 1 523 := ⟨by decide +kernel, rfl⟩
theorem eL_523 : x_aload mL 523 0 524 := Or.inl ⟨0, by decide +kernel, rfl, rfl⟩
theorem eL_524 : x_iload mL 524 3 525 := Or.inl ⟨3, by decide +kernel, rfl, rfl⟩
theorem eL_525 : xK mL 525 (nI 2) 526 := Or.inl (⟨2, by decide +kernel, by decide, rfl⟩)
theorem eL_526 : xD mL 526 (.iadd) 1 527 := ⟨by decide +kernel, rfl⟩
theorem eL_527 : xD mL 527 (.iaload) 1 528 := ⟨by decide +kernel, rfl⟩
set_option maxRecDepth 20000 in
theorem eL_528 : xCV mL 528 mX10_see 2 10 531 := ⟨79, by decide +kernel, rfl, ⟨cm_L_79.1, cm_L_79.2.1, cm_L_79.2.2.1, cm_L_79.2.2.2.1, cm_L_79.2.2.2.2⟩, xT_5 110 rfl rfl, xT_5 111 rfl rfl, _, rfl, rfl⟩
theorem eL_531 : xJ mL 531 (.if_icmp .eq) 753 534 := ⟨(222), by decide +kernel, by decide, rfl⟩
theorem eL_534 : xK mL 534 (nI 0) 535 := Or.inl (⟨0, by decide +kernel, by decide, rfl⟩)
theorem eL_535 : xD mL 535 (.ireturn) 1 536 := ⟨by decide +kernel, rfl⟩
theorem eL_536 : x_aload mL 536 1 537 := Or.inl ⟨1, by decide +kernel, rfl, rfl⟩
set_option maxRecDepth 20000 in
theorem eL_537 : xCV mL 537 mX9_forget 0 9 540 := ⟨80, by decide +kernel, rfl, ⟨cm_L_80.1, cm_L_80.2.1, cm_L_80.2.2.1, cm_L_80.2.2.2.1, cm_L_80.2.2.2.2⟩, xT_3 199 rfl rfl, xT_3 200 rfl rfl, _, rfl, rfl⟩
theorem eL_540 : x_aload mL 540 2 541 := Or.inl ⟨2, by decide +kernel, rfl, rfl⟩
set_option maxRecDepth 20000 in
theorem eL_541 : xCV mL 541 mX10_forget 0 10 544 := ⟨83, by decide +kernel, rfl, ⟨cm_L_83.1, cm_L_83.2.1, cm_L_83.2.2.1, cm_L_83.2.2.2.1, cm_L_83.2.2.2.2⟩, xT_5 115 rfl rfl, xT_5 116 rfl rfl, _, rfl, rfl⟩
theorem eL_544 : xJ mL 544 (.if_icmp .eq) 753 547 := ⟨(209), by decide +kernel, by decide, rfl⟩
theorem eL_547 : xK mL 547 (nI 0) 548 := Or.inl (⟨0, by decide +kernel, by decide, rfl⟩)
theorem eL_548 : xD mL 548 (.ireturn) 1 549 := ⟨by decide +kernel, rfl⟩
theorem eL_549 : x_aload mL 549 1 550 := Or.inl ⟨1, by decide +kernel, rfl, rfl⟩
theorem eL_550 : x_aload mL 550 0 551 := Or.inl ⟨0, by decide +kernel, rfl, rfl⟩
theorem eL_551 : x_iload mL 551 3 552 := Or.inl ⟨3, by decide +kernel, rfl, rfl⟩
theorem eL_552 : xK mL 552 (nI 1) 553 := Or.inl (⟨1, by decide +kernel, by decide, rfl⟩)
theorem eL_553 : xD mL 553 (.iadd) 1 554 := ⟨by decide +kernel, rfl⟩
theorem eL_554 : xD mL 554 (.iaload) 1 555 := ⟨by decide +kernel, rfl⟩
set_option maxRecDepth 20000 in
theorem eL_555 : xCV mL 555 mX9_kinds 1 9 558 := ⟨84, by decide +kernel, rfl, ⟨cm_L_84.1, cm_L_84.2.1, cm_L_84.2.2.1, cm_L_84.2.2.2.1, cm_L_84.2.2.2.2⟩, xT_3 203 rfl rfl, xT_3 204 rfl rfl, _, rfl, rfl⟩
theorem eL_558 : x_aload mL 558 2 559 := Or.inl ⟨2, by decide +kernel, rfl, rfl⟩
theorem eL_559 : x_aload mL 559 0 560 := Or.inl ⟨0, by decide +kernel, rfl, rfl⟩
theorem eL_560 : x_iload mL 560 3 561 := Or.inl ⟨3, by decide +kernel, rfl, rfl⟩
theorem eL_561 : xK mL 561 (nI 1) 562 := Or.inl (⟨1, by decide +kernel, by decide, rfl⟩)
theorem eL_562 : xD mL 562 (.iadd) 1 563 := ⟨by decide +kernel, rfl⟩
theorem eL_563 : xD mL 563 (.iaload) 1 564 := ⟨by decide +kernel, rfl⟩
set_option maxRecDepth 20000 in
theorem eL_564 : xCV mL 564 mX10_kinds 1 10 567 := ⟨87, by decide +kernel, rfl, ⟨cm_L_87.1, cm_L_87.2.1, cm_L_87.2.2.1, cm_L_87.2.2.2.1, cm_L_87.2.2.2.2⟩, xT_5 119 rfl rfl, xT_5 120 rfl rfl, _, rfl, rfl⟩
theorem eL_567 : xJ mL 567 (.if_icmp .eq) 753 570 := ⟨(186), by decide +kernel, by decide, rfl⟩
theorem eL_570 : xK mL 570 (nI 0) 571 := Or.inl (⟨0, by decide +kernel, by decide, rfl⟩)
theorem eL_571 : xD mL 571 (.ireturn) 1 572 := ⟨by decide +kernel, rfl⟩
theorem eL_572 : x_aload mL 572 1 573 := Or.inl ⟨1, by decide +kernel, rfl, rfl⟩
set_option maxRecDepth 20000 in
theorem eL_573 : xCV mL 573 mX9_copies 0 9 576 := ⟨88, by decide +kernel, rfl, ⟨cm_L_88.1, cm_L_88.2.1, cm_L_88.2.2.1, cm_L_88.2.2.2.1, cm_L_88.2.2.2.2⟩, xT_3 211 rfl rfl, xT_3 212 rfl rfl, _, rfl, rfl⟩
theorem eL_576 : x_aload mL 576 2 577 := Or.inl ⟨2, by decide +kernel, rfl, rfl⟩
set_option maxRecDepth 20000 in
theorem eL_577 : xCV mL 577 mX10_copies 0 10 580 := ⟨91, by decide +kernel, rfl, ⟨cm_L_91.1, cm_L_91.2.1, cm_L_91.2.2.1, cm_L_91.2.2.2.1, cm_L_91.2.2.2.2⟩, xT_5 123 rfl rfl, xT_5 124 rfl rfl, _, rfl, rfl⟩
theorem eL_580 : xJ mL 580 (.if_icmp .eq) 753 583 := ⟨(173), by decide +kernel, by decide, rfl⟩
theorem eL_583 : xK mL 583 (nI 0) 584 := Or.inl (⟨0, by decide +kernel, by decide, rfl⟩)
theorem eL_584 : xD mL 584 (.ireturn) 1 585 := ⟨by decide +kernel, rfl⟩
theorem eL_585 : x_aload mL 585 1 586 := Or.inl ⟨1, by decide +kernel, rfl, rfl⟩
theorem eL_586 : x_aload mL 586 0 587 := Or.inl ⟨0, by decide +kernel, rfl, rfl⟩
theorem eL_587 : x_iload mL 587 3 588 := Or.inl ⟨3, by decide +kernel, rfl, rfl⟩
theorem eL_588 : xK mL 588 (nI 1) 589 := Or.inl (⟨1, by decide +kernel, by decide, rfl⟩)
theorem eL_589 : xD mL 589 (.iadd) 1 590 := ⟨by decide +kernel, rfl⟩
theorem eL_590 : xD mL 590 (.iaload) 1 591 := ⟨by decide +kernel, rfl⟩
theorem eL_591 : x_aload mL 591 0 592 := Or.inl ⟨0, by decide +kernel, rfl, rfl⟩
theorem eL_592 : x_iload mL 592 3 593 := Or.inl ⟨3, by decide +kernel, rfl, rfl⟩
theorem eL_593 : xK mL 593 (nI 2) 594 := Or.inl (⟨2, by decide +kernel, by decide, rfl⟩)
theorem eL_594 : xD mL 594 (.iadd) 1 595 := ⟨by decide +kernel, rfl⟩
theorem eL_595 : xD mL 595 (.iaload) 1 596 := ⟨by decide +kernel, rfl⟩
set_option maxRecDepth 20000 in
theorem eL_596 : xCV mL 596 mX9_agree 2 9 599 := ⟨92, by decide +kernel, rfl, ⟨cm_L_92.1, cm_L_92.2.1, cm_L_92.2.2.1, cm_L_92.2.2.2.1, cm_L_92.2.2.2.2⟩, xT_3 219 rfl rfl, xT_3 220 rfl rfl, _, rfl, rfl⟩
theorem eL_599 : x_aload mL 599 2 600 := Or.inl ⟨2, by decide +kernel, rfl, rfl⟩
theorem eL_600 : x_aload mL 600 0 601 := Or.inl ⟨0, by decide +kernel, rfl, rfl⟩
theorem eL_601 : x_iload mL 601 3 602 := Or.inl ⟨3, by decide +kernel, rfl, rfl⟩
theorem eL_602 : xK mL 602 (nI 1) 603 := Or.inl (⟨1, by decide +kernel, by decide, rfl⟩)
theorem eL_603 : xD mL 603 (.iadd) 1 604 := ⟨by decide +kernel, rfl⟩
theorem eL_604 : xD mL 604 (.iaload) 1 605 := ⟨by decide +kernel, rfl⟩
theorem eL_605 : x_aload mL 605 0 606 := Or.inl ⟨0, by decide +kernel, rfl, rfl⟩
theorem eL_606 : x_iload mL 606 3 607 := Or.inl ⟨3, by decide +kernel, rfl, rfl⟩
theorem eL_607 : xK mL 607 (nI 2) 608 := Or.inl (⟨2, by decide +kernel, by decide, rfl⟩)
theorem eL_608 : xD mL 608 (.iadd) 1 609 := ⟨by decide +kernel, rfl⟩
theorem eL_609 : xD mL 609 (.iaload) 1 610 := ⟨by decide +kernel, rfl⟩
set_option maxRecDepth 20000 in
theorem eL_610 : xCV mL 610 mX10_agree 2 10 613 := ⟨95, by decide +kernel, rfl, ⟨cm_L_95.1, cm_L_95.2.1, cm_L_95.2.2.1, cm_L_95.2.2.2.1, cm_L_95.2.2.2.2⟩, xT_5 127 rfl rfl, xT_5 128 rfl rfl, _, rfl, rfl⟩
theorem eL_613 : xJ mL 613 (.if_icmp .eq) 753 616 := ⟨(140), by decide +kernel, by decide, rfl⟩
theorem eL_616 : xK mL 616 (nI 0) 617 := Or.inl (⟨0, by decide +kernel, by decide, rfl⟩)
theorem eL_617 : xD mL 617 (.ireturn) 1 618 := ⟨by decide +kernel, rfl⟩
theorem eL_618 : x_aload mL 618 1 619 := Or.inl ⟨1, by decide +kernel, rfl, rfl⟩
theorem eL_619 : x_aload mL 619 0 620 := Or.inl ⟨0, by decide +kernel, rfl, rfl⟩
theorem eL_620 : x_iload mL 620 3 621 := Or.inl ⟨3, by decide +kernel, rfl, rfl⟩
theorem eL_621 : xK mL 621 (nI 1) 622 := Or.inl (⟨1, by decide +kernel, by decide, rfl⟩)
theorem eL_622 : xD mL 622 (.iadd) 1 623 := ⟨by decide +kernel, rfl⟩
theorem eL_623 : xD mL 623 (.iaload) 1 624 := ⟨by decide +kernel, rfl⟩
theorem eL_624 : x_aload mL 624 0 625 := Or.inl ⟨0, by decide +kernel, rfl, rfl⟩
theorem eL_625 : x_iload mL 625 3 626 := Or.inl ⟨3, by decide +kernel, rfl, rfl⟩
theorem eL_626 : xK mL 626 (nI 2) 627 := Or.inl (⟨2, by decide +kernel, by decide, rfl⟩)
theorem eL_627 : xD mL 627 (.iadd) 1 628 := ⟨by decide +kernel, rfl⟩
theorem eL_628 : xD mL 628 (.iaload) 1 629 := ⟨by decide +kernel, rfl⟩
theorem eL_629 : x_aload mL 629 0 630 := Or.inl ⟨0, by decide +kernel, rfl, rfl⟩
theorem eL_630 : x_iload mL 630 3 631 := Or.inl ⟨3, by decide +kernel, rfl, rfl⟩
theorem eL_631 : xK mL 631 (nI 3) 632 := Or.inl (⟨3, by decide +kernel, by decide, rfl⟩)
theorem eL_632 : xD mL 632 (.iadd) 1 633 := ⟨by decide +kernel, rfl⟩
theorem eL_633 : xD mL 633 (.iaload) 1 634 := ⟨by decide +kernel, rfl⟩
set_option maxRecDepth 20000 in
theorem eL_634 : xCV mL 634 mX9_honest 3 9 637 := ⟨96, by decide +kernel, rfl, ⟨cm_L_96.1, cm_L_96.2.1, cm_L_96.2.2.1, cm_L_96.2.2.2.1, cm_L_96.2.2.2.2⟩, xT_3 223 rfl rfl, xT_3 224 rfl rfl, _, rfl, rfl⟩
theorem eL_637 : x_aload mL 637 2 638 := Or.inl ⟨2, by decide +kernel, rfl, rfl⟩
theorem eL_638 : x_aload mL 638 0 639 := Or.inl ⟨0, by decide +kernel, rfl, rfl⟩
theorem eL_639 : x_iload mL 639 3 640 := Or.inl ⟨3, by decide +kernel, rfl, rfl⟩
theorem eL_640 : xK mL 640 (nI 1) 641 := Or.inl (⟨1, by decide +kernel, by decide, rfl⟩)
theorem eL_641 : xD mL 641 (.iadd) 1 642 := ⟨by decide +kernel, rfl⟩
theorem eL_642 : xD mL 642 (.iaload) 1 643 := ⟨by decide +kernel, rfl⟩
theorem eL_643 : x_aload mL 643 0 644 := Or.inl ⟨0, by decide +kernel, rfl, rfl⟩
theorem eL_644 : x_iload mL 644 3 645 := Or.inl ⟨3, by decide +kernel, rfl, rfl⟩
theorem eL_645 : xK mL 645 (nI 2) 646 := Or.inl (⟨2, by decide +kernel, by decide, rfl⟩)
theorem eL_646 : xD mL 646 (.iadd) 1 647 := ⟨by decide +kernel, rfl⟩
theorem eL_647 : xD mL 647 (.iaload) 1 648 := ⟨by decide +kernel, rfl⟩
theorem eL_648 : x_aload mL 648 0 649 := Or.inl ⟨0, by decide +kernel, rfl, rfl⟩
theorem eL_649 : x_iload mL 649 3 650 := Or.inl ⟨3, by decide +kernel, rfl, rfl⟩
theorem eL_650 : xK mL 650 (nI 3) 651 := Or.inl (⟨3, by decide +kernel, by decide, rfl⟩)
theorem eL_651 : xD mL 651 (.iadd) 1 652 := ⟨by decide +kernel, rfl⟩
theorem eL_652 : xD mL 652 (.iaload) 1 653 := ⟨by decide +kernel, rfl⟩
set_option maxRecDepth 20000 in
theorem eL_653 : xCV mL 653 mX10_honest 3 10 656 := ⟨100, by decide +kernel, rfl, ⟨cm_L_100.1, cm_L_100.2.1, cm_L_100.2.2.1, cm_L_100.2.2.2.1, cm_L_100.2.2.2.2⟩, xT_5 131 rfl rfl, xT_5 132 rfl rfl, _, rfl, rfl⟩
theorem eL_656 : xJ mL 656 (.if_icmp .eq) 753 659 := ⟨(97), by decide +kernel, by decide, rfl⟩
theorem eL_659 : xK mL 659 (nI 0) 660 := Or.inl (⟨0, by decide +kernel, by decide, rfl⟩)
theorem eL_660 : xD mL 660 (.ireturn) 1 661 := ⟨by decide +kernel, rfl⟩
theorem eL_661 : x_aload mL 661 1 662 := Or.inl ⟨1, by decide +kernel, rfl, rfl⟩
theorem eL_662 : x_aload mL 662 0 663 := Or.inl ⟨0, by decide +kernel, rfl, rfl⟩
theorem eL_663 : x_iload mL 663 3 664 := Or.inl ⟨3, by decide +kernel, rfl, rfl⟩
theorem eL_664 : xK mL 664 (nI 1) 665 := Or.inl (⟨1, by decide +kernel, by decide, rfl⟩)
theorem eL_665 : xD mL 665 (.iadd) 1 666 := ⟨by decide +kernel, rfl⟩
theorem eL_666 : xD mL 666 (.iaload) 1 667 := ⟨by decide +kernel, rfl⟩
theorem eL_667 : x_aload mL 667 0 668 := Or.inl ⟨0, by decide +kernel, rfl, rfl⟩
theorem eL_668 : x_iload mL 668 3 669 := Or.inl ⟨3, by decide +kernel, rfl, rfl⟩
theorem eL_669 : xK mL 669 (nI 2) 670 := Or.inl (⟨2, by decide +kernel, by decide, rfl⟩)
theorem eL_670 : xD mL 670 (.iadd) 1 671 := ⟨by decide +kernel, rfl⟩
theorem eL_671 : xD mL 671 (.iaload) 1 672 := ⟨by decide +kernel, rfl⟩
theorem eL_672 : x_aload mL 672 0 673 := Or.inl ⟨0, by decide +kernel, rfl, rfl⟩
theorem eL_673 : x_iload mL 673 3 674 := Or.inl ⟨3, by decide +kernel, rfl, rfl⟩
theorem eL_674 : xK mL 674 (nI 3) 675 := Or.inl (⟨3, by decide +kernel, by decide, rfl⟩)
theorem eL_675 : xD mL 675 (.iadd) 1 676 := ⟨by decide +kernel, rfl⟩
theorem eL_676 : xD mL 676 (.iaload) 1 677 := ⟨by decide +kernel, rfl⟩
set_option maxRecDepth 20000 in
theorem eL_677 : xCV mL 677 mX9_shire 3 9 680 := ⟨101, by decide +kernel, rfl, ⟨cm_L_101.1, cm_L_101.2.1, cm_L_101.2.2.1, cm_L_101.2.2.2.1, cm_L_101.2.2.2.2⟩, xT_4 6 rfl rfl, xT_4 7 rfl rfl, _, rfl, rfl⟩
theorem eL_680 : x_aload mL 680 2 681 := Or.inl ⟨2, by decide +kernel, rfl, rfl⟩
theorem eL_681 : x_aload mL 681 0 682 := Or.inl ⟨0, by decide +kernel, rfl, rfl⟩
theorem eL_682 : x_iload mL 682 3 683 := Or.inl ⟨3, by decide +kernel, rfl, rfl⟩
theorem eL_683 : xK mL 683 (nI 1) 684 := Or.inl (⟨1, by decide +kernel, by decide, rfl⟩)
theorem eL_684 : xD mL 684 (.iadd) 1 685 := ⟨by decide +kernel, rfl⟩
theorem eL_685 : xD mL 685 (.iaload) 1 686 := ⟨by decide +kernel, rfl⟩
theorem eL_686 : x_aload mL 686 0 687 := Or.inl ⟨0, by decide +kernel, rfl, rfl⟩
theorem eL_687 : x_iload mL 687 3 688 := Or.inl ⟨3, by decide +kernel, rfl, rfl⟩
theorem eL_688 : xK mL 688 (nI 2) 689 := Or.inl (⟨2, by decide +kernel, by decide, rfl⟩)
theorem eL_689 : xD mL 689 (.iadd) 1 690 := ⟨by decide +kernel, rfl⟩
theorem eL_690 : xD mL 690 (.iaload) 1 691 := ⟨by decide +kernel, rfl⟩
theorem eL_691 : x_aload mL 691 0 692 := Or.inl ⟨0, by decide +kernel, rfl, rfl⟩
theorem eL_692 : x_iload mL 692 3 693 := Or.inl ⟨3, by decide +kernel, rfl, rfl⟩
theorem eL_693 : xK mL 693 (nI 3) 694 := Or.inl (⟨3, by decide +kernel, by decide, rfl⟩)
theorem eL_694 : xD mL 694 (.iadd) 1 695 := ⟨by decide +kernel, rfl⟩
theorem eL_695 : xD mL 695 (.iaload) 1 696 := ⟨by decide +kernel, rfl⟩
set_option maxRecDepth 20000 in
theorem eL_696 : xCV mL 696 mX10_shire 3 10 699 := ⟨104, by decide +kernel, rfl, ⟨cm_L_104.1, cm_L_104.2.1, cm_L_104.2.2.1, cm_L_104.2.2.2.1, cm_L_104.2.2.2.2⟩, xT_5 137 rfl rfl, xT_5 138 rfl rfl, _, rfl, rfl⟩
theorem eL_699 : xJ mL 699 (.if_icmp .eq) 753 702 := ⟨(54), by decide +kernel, by decide, rfl⟩
theorem eL_702 : xK mL 702 (nI 0) 703 := Or.inl (⟨0, by decide +kernel, by decide, rfl⟩)
theorem eL_703 : xD mL 703 (.ireturn) 1 704 := ⟨by decide +kernel, rfl⟩
theorem eL_704 : x_aload mL 704 1 705 := Or.inl ⟨1, by decide +kernel, rfl, rfl⟩
set_option maxRecDepth 20000 in
theorem eL_705 : xCV mL 705 mX9_keep 0 9 708 := ⟨105, by decide +kernel, rfl, ⟨cm_L_105.1, cm_L_105.2.1, cm_L_105.2.2.1, cm_L_105.2.2.2.1, cm_L_105.2.2.2.2⟩, xT_4 28 rfl rfl, xT_4 29 rfl rfl, _, rfl, rfl⟩
theorem eL_708 : x_aload mL 708 2 709 := Or.inl ⟨2, by decide +kernel, rfl, rfl⟩
set_option maxRecDepth 20000 in
theorem eL_709 : xCV mL 709 mX10_keep 0 10 712 := ⟨108, by decide +kernel, rfl, ⟨cm_L_108.1, cm_L_108.2.1, cm_L_108.2.2.1, cm_L_108.2.2.2.1, cm_L_108.2.2.2.2⟩, xT_5 151 rfl rfl, xT_5 152 rfl rfl, _, rfl, rfl⟩
theorem eL_712 : xJ mL 712 (.if_icmp .eq) 753 715 := ⟨(41), by decide +kernel, by decide, rfl⟩
theorem eL_715 : xK mL 715 (nI 0) 716 := Or.inl (⟨0, by decide +kernel, by decide, rfl⟩)
theorem eL_716 : xD mL 716 (.ireturn) 1 717 := ⟨by decide +kernel, rfl⟩
theorem eL_717 : x_aload mL 717 1 718 := Or.inl ⟨1, by decide +kernel, rfl, rfl⟩
set_option maxRecDepth 20000 in
theorem eL_718 : xCV mL 718 mX9_back 0 9 721 := ⟨109, by decide +kernel, rfl, ⟨cm_L_109.1, cm_L_109.2.1, cm_L_109.2.2.1, cm_L_109.2.2.2.1, cm_L_109.2.2.2.2⟩, xT_4 33 rfl rfl, xT_4 34 rfl rfl, _, rfl, rfl⟩
theorem eL_721 : x_aload mL 721 2 722 := Or.inl ⟨2, by decide +kernel, rfl, rfl⟩
set_option maxRecDepth 20000 in
theorem eL_722 : xCV mL 722 mX10_back 0 10 725 := ⟨112, by decide +kernel, rfl, ⟨cm_L_112.1, cm_L_112.2.1, cm_L_112.2.2.1, cm_L_112.2.2.2.1, cm_L_112.2.2.2.2⟩, xT_5 155 rfl rfl, xT_5 156 rfl rfl, _, rfl, rfl⟩
theorem eL_725 : xJ mL 725 (.if_icmp .eq) 753 728 := ⟨(28), by decide +kernel, by decide, rfl⟩
theorem eL_728 : xK mL 728 (nI 0) 729 := Or.inl (⟨0, by decide +kernel, by decide, rfl⟩)
theorem eL_729 : xD mL 729 (.ireturn) 1 730 := ⟨by decide +kernel, rfl⟩
theorem eL_730 : x_aload mL 730 1 731 := Or.inl ⟨1, by decide +kernel, rfl, rfl⟩
theorem eL_731 : x_aload mL 731 0 732 := Or.inl ⟨0, by decide +kernel, rfl, rfl⟩
theorem eL_732 : x_iload mL 732 3 733 := Or.inl ⟨3, by decide +kernel, rfl, rfl⟩
theorem eL_733 : xK mL 733 (nI 1) 734 := Or.inl (⟨1, by decide +kernel, by decide, rfl⟩)
theorem eL_734 : xD mL 734 (.iadd) 1 735 := ⟨by decide +kernel, rfl⟩
theorem eL_735 : xD mL 735 (.iaload) 1 736 := ⟨by decide +kernel, rfl⟩
set_option maxRecDepth 20000 in
theorem eL_736 : xCV mL 736 mX9_count 1 9 739 := ⟨113, by decide +kernel, rfl, ⟨cm_L_113.1, cm_L_113.2.1, cm_L_113.2.2.1, cm_L_113.2.2.2.1, cm_L_113.2.2.2.2⟩, xT_4 37 rfl rfl, xT_4 38 rfl rfl, _, rfl, rfl⟩
theorem eL_739 : x_aload mL 739 2 740 := Or.inl ⟨2, by decide +kernel, rfl, rfl⟩
theorem eL_740 : x_aload mL 740 0 741 := Or.inl ⟨0, by decide +kernel, rfl, rfl⟩
theorem eL_741 : x_iload mL 741 3 742 := Or.inl ⟨3, by decide +kernel, rfl, rfl⟩
theorem eL_742 : xK mL 742 (nI 1) 743 := Or.inl (⟨1, by decide +kernel, by decide, rfl⟩)
theorem eL_743 : xD mL 743 (.iadd) 1 744 := ⟨by decide +kernel, rfl⟩
theorem eL_744 : xD mL 744 (.iaload) 1 745 := ⟨by decide +kernel, rfl⟩
set_option maxRecDepth 20000 in
theorem eL_745 : xCV mL 745 mX10_count 1 10 748 := ⟨116, by decide +kernel, rfl, ⟨cm_L_116.1, cm_L_116.2.1, cm_L_116.2.2.1, cm_L_116.2.2.2.1, cm_L_116.2.2.2.2⟩, xT_5 159 rfl rfl, xT_5 160 rfl rfl, _, rfl, rfl⟩
theorem eL_748 : xJ mL 748 (.if_icmp .eq) 753 751 := ⟨(5), by decide +kernel, by decide, rfl⟩
theorem eL_751 : xK mL 751 (nI 0) 752 := Or.inl (⟨0, by decide +kernel, by decide, rfl⟩)
theorem eL_752 : xD mL 752 (.ireturn) 1 753 := ⟨by decide +kernel, rfl⟩
theorem eL_753 : xD mL 753 (.iinc 3 4) 3 756 := ⟨by decide +kernel, rfl⟩
theorem eL_756 : xJ mL 756 (.goto) 18 759 := ⟨(-738), by decide +kernel, by decide, rfl⟩
theorem eL_759 : xK mL 759 (nI 1) 760 := Or.inl (⟨1, by decide +kernel, by decide, rfl⟩)
theorem eL_760 : xD mL 760 (.ireturn) 1 761 := ⟨by decide +kernel, rfl⟩
end
section
/-! System.arraycopy of a whole row of ints; Object.<init> -/
theorem xarr_congr {cA : ClassId} {N : Nat} {f g : Nat → Value} (h : ∀ j, j < N → f j = g j) : arrV cA N f = arrV cA N g := by
  unfold arrV
  have : (fun j : Fin N => f j.val) = (fun j : Fin N => g j.val) := by
    funext j
    exact h j.1 j.2
  rw [this]
def xCP (m : xM) (pc nx : Nat) : Prop := ∃ idx : Nat, decode m.2.1 pc = .ok (.invokestatic idx, 3) ∧ pc + 3 = nx ∧ Cond.methodLink m.1.cls idx arraycopyName ∈ xT ∧ Cond.native arraycopyName ∈ xT ∧ Cond.static arraycopyName ∈ xT ∧ Cond.initialized "java/lang/System" ∈ xT
section XP
variable {G : xGl} {m : xM} {d k n pc nx : Nat} {Q : Option Value → List xSh → xMem → Prop} {L : List (Option Value)} {st : List Value} {S : List xSh} {M : xMem}
theorem xs_copy {cs cd N : Nat} (he : xCP m pc nx) (h0 : S[cs]? = some (.inl (.int, N))) (h1 : S[cd]? = some (.inl (.int, N))) (hN : N < 2 ^ 31) (hroom : (st.map fun v => v.category).sum ≤ 8) (kk : xW G m (d + 1) k n Q nx L st S (setR M cd (M cs))) : xW G m (d + 1) k n Q pc L (.int (nI N) :: .int (nI 0) :: .ref (G.1 + cd) :: .int (nI 0) :: .ref (G.1 + cs) :: st) S M := by
  obtain ⟨idx, hd, rfl, hlink, hnat, hstat, hini⟩ := he
  intro l D p e R s mi args below meth c H locs cells slots Z ls E hR hS hl
  have hts := E.2.2.2.2.1
  obtain ⟨rm1, rm2, -, -⟩ := E.2.2.2.2.2.2.2.1
  intro T hT X
  obtain ⟨c0, hA0, hc0⟩ := hR.2 cs _ h0
  obtain ⟨c1, hA1, hc1⟩ := hR.2 cd _ h1
  obtain ⟨-, k0, hk0, cm0, hkk0⟩ := hA0 N (fun j => .int (M cs j))
  obtain ⟨-, k1, hk1, cm1, hkk1⟩ := hA1 N (fun j => .int (M cd j))
  have hz : (nI 0).toNatClampNeg = 0 := nI_clamp (by omega)
  have hzN : (nI N).toNatClampNeg = N := nI_clamp hN
  have hzi : (nI 0).toInt = 0 := nI_toInt (by omega)
  have hzNi : (nI N).toInt = (N : Int) := nI_toInt hN
  obtain ⟨vm', X', step⟩ := X.arraycopy E.1 E.2.2.2.1 (hts _ hlink) (hts _ hnat) (hts _ hstat) (hts _ hini) (src := G.1 + cs) (dst := G.1 + cd) (cs := arrV c0 N (fun j => .int (M cs j))) (cd := arrV c1 N (fun j => .int (M cd j))) (srcPos := nI 0) (destPos := nI 0) (n := nI N) (by rw [hT]; exact hc0) (by rw [hT]; exact hc1)
    (fun _ h => by cases h) (fun _ h => by cases h) (fun h => by cases h) (fun h => by cases h) hk0 hk1 hkk0 hkk1 (by simp [refKind]) (nI_pos (by omega)) (nI_pos (by omega)) (nI_pos hN)
    (by rw [hzi, hzNi, arrV_size]; omega)
    (by rw [hzi, hzNi, arrV_size]; omega)
    (fun vm₁ _ i hi => by
      rw [hzN] at hi
      have e1 : (arrV c0 N (fun j => Value.int (M cs j))).slots.getD ((nI 0).toNatClampNeg + i) .null = .int (M cs i) := by
        rw [hz, Nat.zero_add, Array.getD_eq_getD_getElem?, arrV_read _ _ hi]
        rfl
      refine ⟨?_, ?_⟩
      · rw [e1]
        rfl
      · rw [e1]
        exact trivial)
    (g := F0 mi pc ls (.int (nI N) :: .int (nI 0) :: .ref (G.1 + cd) :: .int (nI 0) :: .ref (G.1 + cs) :: st)) rfl (by rw [E.2.2.1]; exact hl.1) (rest := st) rfl (by rw [E.2.1]; exact hd) (by omega) (by
      have h7 : nativeFrameWords "java/lang/System" "arraycopy" 5 ≤ 7 := by decide
      show 2 * 0 + _ + _ ≤ _
      omega)
  have e1 : copied (arrV c0 N (fun j => Value.int (M cs j))) (arrV c1 N (fun j => Value.int (M cd j))) (nI 0) (nI 0) (nI N) = arrV c1 N (fun j => .int (M cs j)) := by
    refine (va_copied (fun z => Value.int z) c0 c1 (sp := (nI 0).toNatClampNeg) (dp := (nI 0).toNatClampNeg) (n := (nI N).toNatClampNeg) (M cs) (M cd) (by rw [hz, hzN]; omega)).trans ?_
    refine xarr_congr (fun j hj => ?_)
    rw [hz, hzN]
    simp [va_cpy, hj]
  rw [e1] at X' step
  have hl1 : G.1 + cd < H.size := (Array.getElem?_eq_some_iff.mp hc1).1
  have hheap : ((T.setVm vm').setCell (G.1 + cd) (arrV c1 N (fun j => .int (M cs j)))).heap = H.setIfInBounds (G.1 + cd) (arrV c1 N (fun j => .int (M cs j))) := by rw [← hT]; rfl
  have oq : ∀ q : Nat, q ≠ G.1 + cd → (H.setIfInBounds (G.1 + cd) (arrV c1 N (fun j => Value.int (M cs j))))[q]? = H[q]? := fun q hq => by simp [Array.getElem?_setIfInBounds, Ne.symm hq]
  have hself : (H.setIfInBounds (G.1 + cd) (arrV c1 N (fun j => Value.int (M cs j))))[G.1 + cd]? = some (arrV c1 N (fun j => Value.int (M cs j))) := by simp [Array.getElem?_setIfInBounds, hl1]
  obtain ⟨t, a1, b1⟩ := kk l D p e R s mi args below meth c _ _ cells slots Z ls E (hR.setM (M1 := setR M cd (M cs)) h1 (by simp) oq (fun a h => setR_ne h) ⟨c1, hA1, by rw [setR_row]; exact hself⟩) ⟨by simp; exact hS.1, fun q g1 g2 => by
      rw [oq q (fun e => g2 (by rw [e]; exact Nat.le_add_right _ _))]
      exact hS.2.1 q g1 g2, fun q hq => by
      rcases List.mem_append.mp hq with h | h
      · exact hS.2.2 q h
      · obtain ⟨z, -, hz2⟩ := List.mem_map.mp h
        rw [← hz2]
        exact Nat.le_add_right _ _⟩ hl _ hheap X'
  exact ⟨t, step t a1, b1⟩
/-- Object.<init> -/
def xOI (m : xM) (pc nx : Nat) : Prop := ∃ idx : Nat, decode m.2.1 pc = .ok (.invokespecial idx, 3) ∧ pc + 3 = nx ∧ Cond.methodLink m.1.cls idx objectInit ∈ xT ∧ Cond.instanceMethod objectInit ∈ xT ∧ Cond.code objectInit ⟨#[0xb1]⟩ 1 none ∈ xT
theorem xs_objI {a : Nat} (he : xOI m pc nx) (hroom : (st.map fun v => v.category).sum ≤ 8) (kk : xW G m (d + 1) k n Q nx L st S M) : xW G m (d + 1) k n Q pc L (.ref a :: st) S M := by
  obtain ⟨idx, hd, rfl, hlink, hin, hcode⟩ := he
  intro l D p e R s mi args below meth c H locs cells slots Z ls E hR hS hl
  have hts := E.2.2.2.2.1
  obtain ⟨rm1, rm2, -, -⟩ := E.2.2.2.2.2.2.2.1
  exact W.objInit E.1 E.2.1 E.2.2.2.1 (hts _ hlink) (hts _ hin) (hts _ hcode) rfl (by rw [E.2.2.1]; exact hl.1) rfl hd (by omega) (by show 2 * 0 + _ + 12 ≤ _; omega) (kk l D p e R s mi args below meth c H locs cells slots Z ls E hR hS hl)
end XP
end
section
/-! arraycopy and Object.<init>: where they are called -/
set_option maxRecDepth 20000 in
theorem eX0_init_1 : xOI mX0_init 1 4 := ⟨3, by decide +kernel, rfl, xT_1 119 rfl rfl, xT_1 26 rfl rfl, xT_1 27 rfl rfl⟩
set_option maxRecDepth 20000 in
theorem eX0_open_25 : xCP mX0_open 25 28 := ⟨38, by decide +kernel, rfl, xT_2 151 rfl rfl, xT_2 153 rfl rfl, xT_2 152 rfl rfl, xT_1 17 rfl rfl⟩
set_option maxRecDepth 20000 in
theorem eX0_open_50 : xCP mX0_open 50 53 := ⟨38, by decide +kernel, rfl, xT_2 151 rfl rfl, xT_2 153 rfl rfl, xT_2 152 rfl rfl, xT_1 17 rfl rfl⟩
set_option maxRecDepth 20000 in
theorem eX0_copyFrom_16 : xCP mX0_copyFrom 16 19 := ⟨38, by decide +kernel, rfl, xT_2 151 rfl rfl, xT_2 153 rfl rfl, xT_2 152 rfl rfl, xT_1 17 rfl rfl⟩
set_option maxRecDepth 20000 in
theorem eX0_copyFrom_30 : xCP mX0_copyFrom 30 33 := ⟨38, by decide +kernel, rfl, xT_2 151 rfl rfl, xT_2 153 rfl rfl, xT_2 152 rfl rfl, xT_1 17 rfl rfl⟩
set_option maxRecDepth 20000 in
theorem eX0_copyEntries_28 : xCP mX0_copyEntries 28 31 := ⟨38, by decide +kernel, rfl, xT_2 151 rfl rfl, xT_2 153 rfl rfl, xT_2 152 rfl rfl, xT_1 17 rfl rfl⟩
set_option maxRecDepth 20000 in
theorem eX0_copyEntries_43 : xCP mX0_copyEntries 43 46 := ⟨38, by decide +kernel, rfl, xT_2 151 rfl rfl, xT_2 153 rfl rfl, xT_2 152 rfl rfl, xT_1 17 rfl rfl⟩
set_option maxRecDepth 20000 in
theorem eX1_init_1 : xOI mX1_init 1 4 := ⟨3, by decide +kernel, rfl, xT_2 14 rfl rfl, xT_1 26 rfl rfl, xT_1 27 rfl rfl⟩
set_option maxRecDepth 20000 in
theorem eX2_init_1 : xOI mX2_init 1 4 := ⟨3, by decide +kernel, rfl, xT_1 63 rfl rfl, xT_1 26 rfl rfl, xT_1 27 rfl rfl⟩
set_option maxRecDepth 20000 in
theorem eX3_init_1 : xOI mX3_init 1 4 := ⟨3, by decide +kernel, rfl, xT_1 219 rfl rfl, xT_1 26 rfl rfl, xT_1 27 rfl rfl⟩
set_option maxRecDepth 20000 in
theorem eX3_weighOrder_55 : xCP mX3_weighOrder 55 58 := ⟨80, by decide +kernel, rfl, xT_3 164 rfl rfl, xT_2 153 rfl rfl, xT_2 152 rfl rfl, xT_1 17 rfl rfl⟩
set_option maxRecDepth 20000 in
theorem eX4_init_1 : xOI mX4_init 1 4 := ⟨1, by decide +kernel, rfl, xT_1 155 rfl rfl, xT_1 26 rfl rfl, xT_1 27 rfl rfl⟩
set_option maxRecDepth 20000 in
theorem eX5_init_1 : xOI mX5_init 1 4 := ⟨3, by decide +kernel, rfl, xT_1 49 rfl rfl, xT_1 26 rfl rfl, xT_1 27 rfl rfl⟩
set_option maxRecDepth 20000 in
theorem eX6_init_1 : xOI mX6_init 1 4 := ⟨3, by decide +kernel, rfl, xT_1 33 rfl rfl, xT_1 26 rfl rfl, xT_1 27 rfl rfl⟩
set_option maxRecDepth 20000 in
theorem eX7_init_1 : xOI mX7_init 1 4 := ⟨3, by decide +kernel, rfl, xT_1 192 rfl rfl, xT_1 26 rfl rfl, xT_1 27 rfl rfl⟩
set_option maxRecDepth 20000 in
theorem eX7_seek_146 : xCP mX7_seek 146 149 := ⟨63, by decide +kernel, rfl, xT_3 132 rfl rfl, xT_2 153 rfl rfl, xT_2 152 rfl rfl, xT_1 17 rfl rfl⟩
set_option maxRecDepth 20000 in
theorem eX8_init_1 : xOI mX8_init 1 4 := ⟨3, by decide +kernel, rfl, xT_1 175 rfl rfl, xT_1 26 rfl rfl, xT_1 27 rfl rfl⟩
set_option maxRecDepth 20000 in
theorem eX9_init_1 : xOI mX9_init 1 4 := ⟨3, by decide +kernel, rfl, xT_1 25 rfl rfl, xT_1 26 rfl rfl, xT_1 27 rfl rfl⟩
set_option maxRecDepth 20000 in
theorem eX10_init_1 : xOI mX10_init 1 4 := ⟨1, by decide +kernel, rfl, xT_4 49 rfl rfl, xT_1 26 rfl rfl, xT_1 27 rfl rfl⟩
end
section
/-! CALLS by the number of their arguments, without new cells; answers: an int (i), nothing (v) -/
/-- a truth as the machine has it -/
def bI (b : Bool) : Int32 := if b then nI 1 else nI 0
theorem bI_0 {b : Bool} : bI b = 0 ↔ b = false := by cases b <;> decide
theorem bI_nar (b : Bool) : narrow .boolean (.int (bI b)) = .int (bI b) := by cases b <;> rfl
theorem bI_fit (b : Bool) : fits .boolean (.int (bI b)) = true := by cases b <;> rfl
section XW
variable {G : xGl} {m m2 : xM} {d k n pc nx np : Nat} {Q : Option Value → List xSh → xMem → Prop} {L : List (Option Value)} {st : List Value} {S : List xSh} {M : xMem}
theorem xs_ifeqB {b : Bool} {tgt : Nat} (he : xJ m pc (.ifCond .eq) tgt nx) (kt : b = false → xW G m d k n Q tgt L st S M) (kf : b = true → xW G m d k n Q nx L st S M) : xW G m d k n Q pc L (.int (bI b) :: st) S M :=
  xs_if_eq he (fun h => kt (bI_0.mp h)) (fun h => kf (by cases b with | true => rfl | false => exact absurd rfl h))
theorem xs_ifneB {b : Bool} {tgt : Nat} (he : xJ m pc (.ifCond .ne) tgt nx) (kt : b = true → xW G m d k n Q tgt L st S M) (kf : b = false → xW G m d k n Q nx L st S M) : xW G m d k n Q pc L (.int (bI b) :: st) S M :=
  xs_if_ne he (fun h => kt (by cases b with | true => rfl | false => exact absurd rfl h)) (fun h => kf (bI_0.mp h))
theorem xs_zret {b : Bool} (he : xD m pc .ireturn 1 nx) (hty : m.2.2.2 = some .boolean) (h : Q (some (.int (bI b))) S M) : xW G m d k n Q pc L [.int (bI b)] S M := xs_iret he hty (bI_nar b) h
theorem xs_iretI {y : Int32} (he : xD m pc .ireturn 1 nx) (hty : m.2.2.2 = some .int) (h : Q (some (.int y)) S M) : xW G m d k n Q pc L [.int y] S M := xs_iret he hty rfl h
theorem xs_callV0i {ci cb : Nat} {fs : List (Option (Option Nat))} (he : xCV m pc m2 0 ci nx) (hs : S[cb]? = some (.inr (.inl (ci, fs)))) (hroom : (st.map fun v => v.category).sum ≤ 8) (hC : xC G m2 d 0 0 (.ref (G.1 + cb) :: []) S M (fun v S1 M1 => ∃ r : Int32, v = some (.int r) ∧ xW G m (d + 1) k n Q nx L (.int r :: st) S1 M1)) : xW G m (d + 1) k n Q pc L (.ref (G.1 + cb) :: st) S M :=
  xs_callV (As := []) he hs rfl rfl hroom (Nat.zero_le _) (Nat.zero_le _) (xC_mono hC (fun v S1 M1 h => by obtain ⟨r, rfl, h⟩ := h; exact h))
theorem xs_callV0v {ci cb : Nat} {fs : List (Option (Option Nat))} (he : xCV m pc m2 0 ci nx) (hs : S[cb]? = some (.inr (.inl (ci, fs)))) (hroom : (st.map fun v => v.category).sum ≤ 8) (hC : xC G m2 d 0 0 (.ref (G.1 + cb) :: []) S M (fun v S1 M1 => v = none ∧ xW G m (d + 1) k n Q nx L st S1 M1)) : xW G m (d + 1) k n Q pc L (.ref (G.1 + cb) :: st) S M :=
  xs_callV (As := []) he hs rfl rfl hroom (Nat.zero_le _) (Nat.zero_le _) (xC_mono hC (fun v S1 M1 h => by obtain ⟨rfl, h⟩ := h; exact h))
theorem xs_callV1i {a1 : Value} {ci cb : Nat} {fs : List (Option (Option Nat))} (he : xCV m pc m2 1 ci nx) (hs : S[cb]? = some (.inr (.inl (ci, fs)))) (hroom : (st.map fun v => v.category).sum ≤ 8) (hC : xC G m2 d 0 0 (.ref (G.1 + cb) :: [a1]) S M (fun v S1 M1 => ∃ r : Int32, v = some (.int r) ∧ xW G m (d + 1) k n Q nx L (.int r :: st) S1 M1)) : xW G m (d + 1) k n Q pc L (a1 :: .ref (G.1 + cb) :: st) S M :=
  xs_callV (As := [a1]) he hs rfl rfl hroom (Nat.zero_le _) (Nat.zero_le _) (xC_mono hC (fun v S1 M1 h => by obtain ⟨r, rfl, h⟩ := h; exact h))
theorem xs_callS1i {a1 : Value} (he : xCS m pc m2 1 nx) (hroom : (st.map fun v => v.category).sum ≤ 8) (hC : xC G m2 d 0 0 [a1] S M (fun v S1 M1 => ∃ r : Int32, v = some (.int r) ∧ xW G m (d + 1) k n Q nx L (.int r :: st) S1 M1)) : xW G m (d + 1) k n Q pc L (a1 :: st) S M :=
  xs_callS (As := [a1]) he rfl rfl hroom (Nat.zero_le _) (Nat.zero_le _) (xC_mono hC (fun v S1 M1 h => by obtain ⟨r, rfl, h⟩ := h; exact h))
theorem xs_callV1v {a1 : Value} {ci cb : Nat} {fs : List (Option (Option Nat))} (he : xCV m pc m2 1 ci nx) (hs : S[cb]? = some (.inr (.inl (ci, fs)))) (hroom : (st.map fun v => v.category).sum ≤ 8) (hC : xC G m2 d 0 0 (.ref (G.1 + cb) :: [a1]) S M (fun v S1 M1 => v = none ∧ xW G m (d + 1) k n Q nx L st S1 M1)) : xW G m (d + 1) k n Q pc L (a1 :: .ref (G.1 + cb) :: st) S M :=
  xs_callV (As := [a1]) he hs rfl rfl hroom (Nat.zero_le _) (Nat.zero_le _) (xC_mono hC (fun v S1 M1 h => by obtain ⟨rfl, h⟩ := h; exact h))
theorem xs_callS1v {a1 : Value} (he : xCS m pc m2 1 nx) (hroom : (st.map fun v => v.category).sum ≤ 8) (hC : xC G m2 d 0 0 [a1] S M (fun v S1 M1 => v = none ∧ xW G m (d + 1) k n Q nx L st S1 M1)) : xW G m (d + 1) k n Q pc L (a1 :: st) S M :=
  xs_callS (As := [a1]) he rfl rfl hroom (Nat.zero_le _) (Nat.zero_le _) (xC_mono hC (fun v S1 M1 h => by obtain ⟨rfl, h⟩ := h; exact h))
theorem xs_callV2i {a1 a2 : Value} {ci cb : Nat} {fs : List (Option (Option Nat))} (he : xCV m pc m2 2 ci nx) (hs : S[cb]? = some (.inr (.inl (ci, fs)))) (hroom : (st.map fun v => v.category).sum ≤ 8) (hC : xC G m2 d 0 0 (.ref (G.1 + cb) :: [a1, a2]) S M (fun v S1 M1 => ∃ r : Int32, v = some (.int r) ∧ xW G m (d + 1) k n Q nx L (.int r :: st) S1 M1)) : xW G m (d + 1) k n Q pc L (a2 :: a1 :: .ref (G.1 + cb) :: st) S M :=
  xs_callV (As := [a1, a2]) he hs rfl rfl hroom (Nat.zero_le _) (Nat.zero_le _) (xC_mono hC (fun v S1 M1 h => by obtain ⟨r, rfl, h⟩ := h; exact h))
theorem xs_callS2i {a1 a2 : Value} (he : xCS m pc m2 2 nx) (hroom : (st.map fun v => v.category).sum ≤ 8) (hC : xC G m2 d 0 0 [a1, a2] S M (fun v S1 M1 => ∃ r : Int32, v = some (.int r) ∧ xW G m (d + 1) k n Q nx L (.int r :: st) S1 M1)) : xW G m (d + 1) k n Q pc L (a2 :: a1 :: st) S M :=
  xs_callS (As := [a1, a2]) he rfl rfl hroom (Nat.zero_le _) (Nat.zero_le _) (xC_mono hC (fun v S1 M1 h => by obtain ⟨r, rfl, h⟩ := h; exact h))
theorem xs_callV2v {a1 a2 : Value} {ci cb : Nat} {fs : List (Option (Option Nat))} (he : xCV m pc m2 2 ci nx) (hs : S[cb]? = some (.inr (.inl (ci, fs)))) (hroom : (st.map fun v => v.category).sum ≤ 8) (hC : xC G m2 d 0 0 (.ref (G.1 + cb) :: [a1, a2]) S M (fun v S1 M1 => v = none ∧ xW G m (d + 1) k n Q nx L st S1 M1)) : xW G m (d + 1) k n Q pc L (a2 :: a1 :: .ref (G.1 + cb) :: st) S M :=
  xs_callV (As := [a1, a2]) he hs rfl rfl hroom (Nat.zero_le _) (Nat.zero_le _) (xC_mono hC (fun v S1 M1 h => by obtain ⟨rfl, h⟩ := h; exact h))
theorem xs_callS2v {a1 a2 : Value} (he : xCS m pc m2 2 nx) (hroom : (st.map fun v => v.category).sum ≤ 8) (hC : xC G m2 d 0 0 [a1, a2] S M (fun v S1 M1 => v = none ∧ xW G m (d + 1) k n Q nx L st S1 M1)) : xW G m (d + 1) k n Q pc L (a2 :: a1 :: st) S M :=
  xs_callS (As := [a1, a2]) he rfl rfl hroom (Nat.zero_le _) (Nat.zero_le _) (xC_mono hC (fun v S1 M1 h => by obtain ⟨rfl, h⟩ := h; exact h))
theorem xs_callV3i {a1 a2 a3 : Value} {ci cb : Nat} {fs : List (Option (Option Nat))} (he : xCV m pc m2 3 ci nx) (hs : S[cb]? = some (.inr (.inl (ci, fs)))) (hroom : (st.map fun v => v.category).sum ≤ 8) (hC : xC G m2 d 0 0 (.ref (G.1 + cb) :: [a1, a2, a3]) S M (fun v S1 M1 => ∃ r : Int32, v = some (.int r) ∧ xW G m (d + 1) k n Q nx L (.int r :: st) S1 M1)) : xW G m (d + 1) k n Q pc L (a3 :: a2 :: a1 :: .ref (G.1 + cb) :: st) S M :=
  xs_callV (As := [a1, a2, a3]) he hs rfl rfl hroom (Nat.zero_le _) (Nat.zero_le _) (xC_mono hC (fun v S1 M1 h => by obtain ⟨r, rfl, h⟩ := h; exact h))
theorem xs_callS3i {a1 a2 a3 : Value} (he : xCS m pc m2 3 nx) (hroom : (st.map fun v => v.category).sum ≤ 8) (hC : xC G m2 d 0 0 [a1, a2, a3] S M (fun v S1 M1 => ∃ r : Int32, v = some (.int r) ∧ xW G m (d + 1) k n Q nx L (.int r :: st) S1 M1)) : xW G m (d + 1) k n Q pc L (a3 :: a2 :: a1 :: st) S M :=
  xs_callS (As := [a1, a2, a3]) he rfl rfl hroom (Nat.zero_le _) (Nat.zero_le _) (xC_mono hC (fun v S1 M1 h => by obtain ⟨r, rfl, h⟩ := h; exact h))
theorem xs_callV3v {a1 a2 a3 : Value} {ci cb : Nat} {fs : List (Option (Option Nat))} (he : xCV m pc m2 3 ci nx) (hs : S[cb]? = some (.inr (.inl (ci, fs)))) (hroom : (st.map fun v => v.category).sum ≤ 8) (hC : xC G m2 d 0 0 (.ref (G.1 + cb) :: [a1, a2, a3]) S M (fun v S1 M1 => v = none ∧ xW G m (d + 1) k n Q nx L st S1 M1)) : xW G m (d + 1) k n Q pc L (a3 :: a2 :: a1 :: .ref (G.1 + cb) :: st) S M :=
  xs_callV (As := [a1, a2, a3]) he hs rfl rfl hroom (Nat.zero_le _) (Nat.zero_le _) (xC_mono hC (fun v S1 M1 h => by obtain ⟨rfl, h⟩ := h; exact h))
theorem xs_callS3v {a1 a2 a3 : Value} (he : xCS m pc m2 3 nx) (hroom : (st.map fun v => v.category).sum ≤ 8) (hC : xC G m2 d 0 0 [a1, a2, a3] S M (fun v S1 M1 => v = none ∧ xW G m (d + 1) k n Q nx L st S1 M1)) : xW G m (d + 1) k n Q pc L (a3 :: a2 :: a1 :: st) S M :=
  xs_callS (As := [a1, a2, a3]) he rfl rfl hroom (Nat.zero_le _) (Nat.zero_le _) (xC_mono hC (fun v S1 M1 h => by obtain ⟨rfl, h⟩ := h; exact h))
theorem xs_callS4i {a1 a2 a3 a4 : Value} (he : xCS m pc m2 4 nx) (hroom : (st.map fun v => v.category).sum ≤ 8) (hC : xC G m2 d 0 0 [a1, a2, a3, a4] S M (fun v S1 M1 => ∃ r : Int32, v = some (.int r) ∧ xW G m (d + 1) k n Q nx L (.int r :: st) S1 M1)) : xW G m (d + 1) k n Q pc L (a4 :: a3 :: a2 :: a1 :: st) S M :=
  xs_callS (As := [a1, a2, a3, a4]) he rfl rfl hroom (Nat.zero_le _) (Nat.zero_le _) (xC_mono hC (fun v S1 M1 h => by obtain ⟨r, rfl, h⟩ := h; exact h))
theorem xs_callS4v {a1 a2 a3 a4 : Value} (he : xCS m pc m2 4 nx) (hroom : (st.map fun v => v.category).sum ≤ 8) (hC : xC G m2 d 0 0 [a1, a2, a3, a4] S M (fun v S1 M1 => v = none ∧ xW G m (d + 1) k n Q nx L st S1 M1)) : xW G m (d + 1) k n Q pc L (a4 :: a3 :: a2 :: a1 :: st) S M :=
  xs_callS (As := [a1, a2, a3, a4]) he rfl rfl hroom (Nat.zero_le _) (Nat.zero_le _) (xC_mono hC (fun v S1 M1 h => by obtain ⟨rfl, h⟩ := h; exact h))
end XW
end
section
/-! bits of an Int32 (begun with the kit's rows to paste) -/
def bt (x : Int32) (i : Nat) : Bool := x.toBitVec.getLsbD i
theorem b_ext {x y : Int32} (h : ∀ i, i < 32 → bt x i = bt y i) : x = y := Int32.toBitVec_inj.mp (BitVec.eq_of_getLsbD_eq (fun i hi => h i hi))
theorem b_or (x y : Int32) (i : Nat) : bt (x ||| y) i = (bt x i || bt y i) := by unfold bt; rw [Int32.toBitVec_or, BitVec.getLsbD_or]
theorem b_and (x y : Int32) (i : Nat) : bt (x &&& y) i = (bt x i && bt y i) := by unfold bt; rw [Int32.toBitVec_and, BitVec.getLsbD_and]
theorem b_xor (x y : Int32) (i : Nat) : bt (x ^^^ y) i = (bt x i ^^ bt y i) := by unfold bt; rw [Int32.toBitVec_xor, BitVec.getLsbD_xor]
theorem b_big {x : Int32} {i : Nat} (h : 32 ≤ i) : bt x i = false := BitVec.getLsbD_of_ge _ _ h
theorem b_m1 : ∀ i, i < 32 → bt (-1) i = true := by decide +kernel
theorem b_0 (i : Nat) : bt 0 i = false := BitVec.getLsbD_zero
theorem s_l : ∀ n, n < 32 → ((nI n &&& 31).toBitVec.smod 32).toNat = n := by decide +kernel
theorem s_u : ∀ n, n < 32 → (((nI n).toUInt32 &&& Int32.toUInt32 31).toBitVec % 32).toNat = n := by decide +kernel
theorem b_shl (n : Nat) (hn : n < 32) (x : Int32) {i : Nat} (hi : i < 32) : bt (x <<< (nI n &&& 31)) i = (decide (n ≤ i) && bt x (i - n)) := by
  unfold bt
  rw [Int32.toBitVec_shiftLeft]
  show (x.toBitVec <<< ((nI n &&& 31).toBitVec.smod 32).toNat).getLsbD i = _
  rw [s_l n hn, BitVec.getLsbD_shiftLeft]
  rcases Nat.lt_or_ge i n with h | h
  · simp [h, Nat.not_le.mpr h]
  · simp [hi, h, Nat.not_lt.mpr h]
theorem b_ushr (n : Nat) (hn : n < 32) (x : Int32) (i : Nat) : bt ((x.toUInt32 >>> ((nI n).toUInt32 &&& Int32.toUInt32 31)).toInt32) i = bt x (n + i) := by
  show (x.toUInt32 >>> ((nI n).toUInt32 &&& Int32.toUInt32 31)).toBitVec.getLsbD i = x.toUInt32.toBitVec.getLsbD (n + i)
  rw [UInt32.toBitVec_shiftRight]
  show (x.toUInt32.toBitVec >>> (((nI n).toUInt32 &&& Int32.toUInt32 31).toBitVec % 32).toNat).getLsbD i = _
  rw [s_u n hn, BitVec.getLsbD_ushiftRight]
theorem b_sshr (n : Nat) (hn : n < 32) (x : Int32) {i : Nat} (hi : i < 32) : bt (x >>> (nI n &&& 31)) i = if n + i < 32 then bt x (n + i) else bt x 31 := by
  unfold bt
  rw [Int32.toBitVec_shiftRight]
  show (x.toBitVec.sshiftRight ((nI n &&& 31).toBitVec.smod 32).toNat).getLsbD i = _
  rw [s_l n hn, BitVec.getLsbD_sshiftRight, BitVec.msb_eq_getLsbD_last]
  simp [hi]
theorem nx_and (a b : Nat) : nI a &&& nI b = nI (a &&& b) := by
  apply Int32.toBitVec_inj.1
  show BitVec.ofNat 32 a &&& BitVec.ofNat 32 b = BitVec.ofNat 32 (a &&& b)
  apply BitVec.eq_of_getLsbD_eq
  intro i hi
  simp [hi]
theorem bt_nI {a i : Nat} (h : i < 32) : bt (nI a) i = a.testBit i := by
  show (BitVec.ofNat 32 a).getLsbD i = _
  rw [BitVec.getLsbD_ofNat]
  simp [h]
theorem bt_1 (i : Nat) : bt (nI 1) i = decide (i = 0) := by
  rcases Nat.lt_or_ge i 32 with h | h
  · exact (by decide +kernel : ∀ i, i < 32 → bt (nI 1) i = decide (i = 0)) i h
  · rw [b_big h, decide_eq_false (by omega)]
/-- one bit asked for -/
theorem bt_ask (y : Int32) {v : Nat} (hv : v < 32) : (y >>> (nI v &&& 31)) &&& nI 1 = bI (bt y v) := by
  apply b_ext
  intro i hi
  rw [b_and, bt_1, b_sshr v hv y hi]
  by_cases h : i = 0
  · subst h
    rw [if_pos (by omega)]
    cases hb : bt y v <;> simp [hb, bI] <;> decide
  · simp [h]
    cases bt y v
    · show bt (nI 0) i = false
      rw [bt_nI hi]; simp
    · show bt (nI 1) i = false
      rw [bt_1]; simp [h]
theorem bt_pow {v : Nat} (hv : v < 32) {i : Nat} (hi : i < 32) : bt (nI 1 <<< (nI v &&& 31)) i = decide (i = v) := by
  rw [b_shl v hv _ hi, bt_1]
  by_cases h : v ≤ i
  · simp [h]; omega
  · simp [h]; omega
theorem bt_not (y : Int32) {i : Nat} (hi : i < 32) : bt (y ^^^ (-1)) i = !bt y i := by
  rw [b_xor, b_m1 i hi]
  simp
theorem bt_zero {y : Int32} : y = 0 ↔ ∀ i, i < 32 → bt y i = false := by
  constructor
  · intro h i _
    rw [h]
    exact b_0 i
  · intro h
    exact b_ext (fun i hi => by rw [h i hi, b_0])
/-- y with bit v put, taken away -/
def bon (y : Int32) (v : Nat) : Int32 := y ||| nI 1 <<< (nI v &&& 31)
def boff (y : Int32) (v : Nat) : Int32 := y &&& ((nI 1 <<< (nI v &&& 31)) ^^^ (-1))
theorem bt_on (y : Int32) {v : Nat} (hv : v < 32) {i : Nat} (hi : i < 32) : bt (bon y v) i = (bt y i || decide (i = v)) := by
  unfold bon
  rw [b_or, bt_pow hv hi]
theorem bt_off (y : Int32) {v : Nat} (hv : v < 32) {i : Nat} (hi : i < 32) : bt (boff y v) i = (bt y i && !decide (i = v)) := by
  unfold boff
  rw [b_and, bt_not _ hi, bt_pow hv hi]
/-- only the lowest n bits -/
def bw (n : Nat) (y : Int32) : Prop := ∀ i, n ≤ i → bt y i = false
theorem dn {P : Nat → Prop} (n : Nat) (hn : P n) (hs : ∀ i, i < n → P (i + 1) → P i) (i : Nat) (hi : i ≤ n) : P i := by
  have h : ∀ j, P (n - j) := by
    intro j
    induction j with
    | zero => exact hn
    | succ j ih =>
      rcases Nat.lt_or_ge j n with q | q
      · refine hs (n - (j + 1)) (by omega) ?_
        rw [show n - (j + 1) + 1 = n - j by omega]
        exact ih
      · rw [show n - (j + 1) = n - j by omega]
        exact ih
  have := h (n - i)
  rwa [show n - (n - i) = i by omega] at this
def sumN (f : Nat → Int32) : Nat → Int32
  | 0 => nI 0
  | n + 1 => sumN f n + f n
end
section
/-! THE SHAPES of all cells, class (0 to 155) and reference (156 to 169): made by a program -/
def SF : List xSh := [.inr (.inl (9, [some (some 1), some (some 3), some (some 5), some (some 18), some (some 31), some (some 36), some (some 41), some (some 83), some (some 95), some (some 98), some (some 106), some (some 150)])),
  .inr (.inl (6, [some (some 2), none])),
  .inl (.char, 200),
  .inr (.inl (5, [some (some 4), none])),
  .inl (.int, 3),
  .inr (.inl (2, [some (some 6), some (some 7), some (some 8), some (some 9), some (some 10), none, none, none])),
  .inl (.int, 7),
  .inl (.int, 7),
  .inl (.int, 3),
  .inl (.int, 7),
  .inr (.inr (.array .int, [some 11, some 12, some 13, some 14, some 15, some 16, some 17])),
  .inl (.int, 7),
  .inl (.int, 7),
  .inl (.int, 7),
  .inl (.int, 7),
  .inl (.int, 7),
  .inl (.int, 7),
  .inl (.int, 7),
  .inr (.inl (2, [some (some 19), some (some 20), some (some 21), some (some 22), some (some 23), none, none, none])),
  .inl (.int, 7),
  .inl (.int, 7),
  .inl (.int, 3),
  .inl (.int, 7),
  .inr (.inr (.array .int, [some 24, some 25, some 26, some 27, some 28, some 29, some 30])),
  .inl (.int, 7),
  .inl (.int, 7),
  .inl (.int, 7),
  .inl (.int, 7),
  .inl (.int, 7),
  .inl (.int, 7),
  .inl (.int, 7),
  .inr (.inl (0, [some (some 18), some (some 32), some (some 33), some (some 34), some (some 35), none, none])),
  .inl (.int, 7),
  .inl (.int, 7),
  .inl (.int, 3),
  .inl (.int, 3),
  .inr (.inl (0, [some (some 18), some (some 37), some (some 38), some (some 39), some (some 40), none, none])),
  .inl (.int, 7),
  .inl (.int, 7),
  .inl (.int, 3),
  .inl (.int, 3),
  .inr (.inl (4, [some (some 42), none, none])),
  .inr (.inr (.object "NotAnOx$Book", [some 43, some 48, some 53, some 58, some 63, some 68, some 73, some 78])),
  .inr (.inl (0, [some (some 18), some (some 44), some (some 45), some (some 46), some (some 47), none, none])),
  .inl (.int, 7),
  .inl (.int, 7),
  .inl (.int, 3),
  .inl (.int, 3),
  .inr (.inl (0, [some (some 18), some (some 49), some (some 50), some (some 51), some (some 52), none, none])),
  .inl (.int, 7),
  .inl (.int, 7),
  .inl (.int, 3),
  .inl (.int, 3),
  .inr (.inl (0, [some (some 18), some (some 54), some (some 55), some (some 56), some (some 57), none, none])),
  .inl (.int, 7),
  .inl (.int, 7),
  .inl (.int, 3),
  .inl (.int, 3),
  .inr (.inl (0, [some (some 18), some (some 59), some (some 60), some (some 61), some (some 62), none, none])),
  .inl (.int, 7),
  .inl (.int, 7),
  .inl (.int, 3),
  .inl (.int, 3),
  .inr (.inl (0, [some (some 18), some (some 64), some (some 65), some (some 66), some (some 67), none, none])),
  .inl (.int, 7),
  .inl (.int, 7),
  .inl (.int, 3),
  .inl (.int, 3),
  .inr (.inl (0, [some (some 18), some (some 69), some (some 70), some (some 71), some (some 72), none, none])),
  .inl (.int, 7),
  .inl (.int, 7),
  .inl (.int, 3),
  .inl (.int, 3),
  .inr (.inl (0, [some (some 18), some (some 74), some (some 75), some (some 76), some (some 77), none, none])),
  .inl (.int, 7),
  .inl (.int, 7),
  .inl (.int, 3),
  .inl (.int, 3),
  .inr (.inl (0, [some (some 18), some (some 79), some (some 80), some (some 81), some (some 82), none, none])),
  .inl (.int, 7),
  .inl (.int, 7),
  .inl (.int, 3),
  .inl (.int, 3),
  .inr (.inl (4, [some (some 84), none, none])),
  .inr (.inr (.object "NotAnOx$Book", [some 85, some 90])),
  .inr (.inl (0, [some (some 18), some (some 86), some (some 87), some (some 88), some (some 89), none, none])),
  .inl (.int, 7),
  .inl (.int, 7),
  .inl (.int, 3),
  .inl (.int, 3),
  .inr (.inl (0, [some (some 18), some (some 91), some (some 92), some (some 93), some (some 94), none, none])),
  .inl (.int, 7),
  .inl (.int, 7),
  .inl (.int, 3),
  .inl (.int, 3),
  .inr (.inl (8, [some (some 96), some (some 97), none])),
  .inl (.int, 6),
  .inl (.int, 6),
  .inr (.inl (7, [some (some 18), some (some 99), some (some 100), some (some 104), some (some 105), none])),
  .inl (.int, 896),
  .inr (.inr (.array .int, [some 101, some 102, some 103])),
  .inl (.int, 128),
  .inl (.int, 128),
  .inl (.int, 128),
  .inl (.int, 3),
  .inl (.int, 3),
  .inr (.inl (3, [some (some 18), some (some 107), some (some 108), some (some 109), none, none, none, none])),
  .inr (.inr (.object "NotAnOx$Book", [some 110, some 115, some 120, some 125, some 130, some 135, some 140, some 145])),
  .inl (.int, 7),
  .inl (.int, 7),
  .inr (.inl (0, [some (some 18), some (some 111), some (some 112), some (some 113), some (some 114), none, none])),
  .inl (.int, 7),
  .inl (.int, 7),
  .inl (.int, 3),
  .inl (.int, 3),
  .inr (.inl (0, [some (some 18), some (some 116), some (some 117), some (some 118), some (some 119), none, none])),
  .inl (.int, 7),
  .inl (.int, 7),
  .inl (.int, 3),
  .inl (.int, 3),
  .inr (.inl (0, [some (some 18), some (some 121), some (some 122), some (some 123), some (some 124), none, none])),
  .inl (.int, 7),
  .inl (.int, 7),
  .inl (.int, 3),
  .inl (.int, 3),
  .inr (.inl (0, [some (some 18), some (some 126), some (some 127), some (some 128), some (some 129), none, none])),
  .inl (.int, 7),
  .inl (.int, 7),
  .inl (.int, 3),
  .inl (.int, 3),
  .inr (.inl (0, [some (some 18), some (some 131), some (some 132), some (some 133), some (some 134), none, none])),
  .inl (.int, 7),
  .inl (.int, 7),
  .inl (.int, 3),
  .inl (.int, 3),
  .inr (.inl (0, [some (some 18), some (some 136), some (some 137), some (some 138), some (some 139), none, none])),
  .inl (.int, 7),
  .inl (.int, 7),
  .inl (.int, 3),
  .inl (.int, 3),
  .inr (.inl (0, [some (some 18), some (some 141), some (some 142), some (some 143), some (some 144), none, none])),
  .inl (.int, 7),
  .inl (.int, 7),
  .inl (.int, 3),
  .inl (.int, 3),
  .inr (.inl (0, [some (some 18), some (some 146), some (some 147), some (some 148), some (some 149), none, none])),
  .inl (.int, 7),
  .inl (.int, 7),
  .inl (.int, 3),
  .inl (.int, 3),
  .inr (.inl (1, [some (some 18), some (some 151), none, none])),
  .inr (.inl (0, [some (some 18), some (some 152), some (some 153), some (some 154), some (some 155), none, none])),
  .inl (.int, 7),
  .inl (.int, 7),
  .inl (.int, 3),
  .inl (.int, 3),
  .inr (.inl (10, [none, some (some 157), none, some (some 158), some (some 159), none, some (some 160), none, some (some 161), some (some 162), none, none, none, some (some 163), none, none, none, none, some (some 164), some (some 165), some (some 166), some (some 167), none, none, some (some 168), some (some 169)])),
  .inl (.int, 7),
  .inl (.int, 49),
  .inl (.int, 49),
  .inl (.int, 7),
  .inl (.int, 49),
  .inl (.int, 264),
  .inl (.byte, 200),
  .inl (.int, 6),
  .inl (.int, 6),
  .inl (.int, 896),
  .inl (.int, 384),
  .inl (.int, 7),
  .inl (.int, 7)]
theorem sh0 : SF[0]? = some (.inr (.inl (9, [some (some 1), some (some 3), some (some 5), some (some 18), some (some 31), some (some 36), some (some 41), some (some 83), some (some 95), some (some 98), some (some 106), some (some 150)]))) := rfl
theorem sh1 : SF[1]? = some (.inr (.inl (6, [some (some 2), none]))) := rfl
theorem sh2 : SF[2]? = some (.inl (.char, 200)) := rfl
theorem sh3 : SF[3]? = some (.inr (.inl (5, [some (some 4), none]))) := rfl
theorem sh4 : SF[4]? = some (.inl (.int, 3)) := rfl
theorem sh5 : SF[5]? = some (.inr (.inl (2, [some (some 6), some (some 7), some (some 8), some (some 9), some (some 10), none, none, none]))) := rfl
theorem sh6 : SF[6]? = some (.inl (.int, 7)) := rfl
theorem sh7 : SF[7]? = some (.inl (.int, 7)) := rfl
theorem sh8 : SF[8]? = some (.inl (.int, 3)) := rfl
theorem sh9 : SF[9]? = some (.inl (.int, 7)) := rfl
theorem sh10 : SF[10]? = some (.inr (.inr (.array .int, [some 11, some 12, some 13, some 14, some 15, some 16, some 17]))) := rfl
theorem sh11 : SF[11]? = some (.inl (.int, 7)) := rfl
theorem sh12 : SF[12]? = some (.inl (.int, 7)) := rfl
theorem sh13 : SF[13]? = some (.inl (.int, 7)) := rfl
theorem sh14 : SF[14]? = some (.inl (.int, 7)) := rfl
theorem sh15 : SF[15]? = some (.inl (.int, 7)) := rfl
theorem sh16 : SF[16]? = some (.inl (.int, 7)) := rfl
theorem sh17 : SF[17]? = some (.inl (.int, 7)) := rfl
theorem sh18 : SF[18]? = some (.inr (.inl (2, [some (some 19), some (some 20), some (some 21), some (some 22), some (some 23), none, none, none]))) := rfl
theorem sh19 : SF[19]? = some (.inl (.int, 7)) := rfl
theorem sh20 : SF[20]? = some (.inl (.int, 7)) := rfl
theorem sh21 : SF[21]? = some (.inl (.int, 3)) := rfl
theorem sh22 : SF[22]? = some (.inl (.int, 7)) := rfl
theorem sh23 : SF[23]? = some (.inr (.inr (.array .int, [some 24, some 25, some 26, some 27, some 28, some 29, some 30]))) := rfl
theorem sh24 : SF[24]? = some (.inl (.int, 7)) := rfl
theorem sh25 : SF[25]? = some (.inl (.int, 7)) := rfl
theorem sh26 : SF[26]? = some (.inl (.int, 7)) := rfl
theorem sh27 : SF[27]? = some (.inl (.int, 7)) := rfl
theorem sh28 : SF[28]? = some (.inl (.int, 7)) := rfl
theorem sh29 : SF[29]? = some (.inl (.int, 7)) := rfl
theorem sh30 : SF[30]? = some (.inl (.int, 7)) := rfl
theorem sh31 : SF[31]? = some (.inr (.inl (0, [some (some 18), some (some 32), some (some 33), some (some 34), some (some 35), none, none]))) := rfl
theorem sh32 : SF[32]? = some (.inl (.int, 7)) := rfl
theorem sh33 : SF[33]? = some (.inl (.int, 7)) := rfl
theorem sh34 : SF[34]? = some (.inl (.int, 3)) := rfl
theorem sh35 : SF[35]? = some (.inl (.int, 3)) := rfl
theorem sh36 : SF[36]? = some (.inr (.inl (0, [some (some 18), some (some 37), some (some 38), some (some 39), some (some 40), none, none]))) := rfl
theorem sh37 : SF[37]? = some (.inl (.int, 7)) := rfl
theorem sh38 : SF[38]? = some (.inl (.int, 7)) := rfl
theorem sh39 : SF[39]? = some (.inl (.int, 3)) := rfl
theorem sh40 : SF[40]? = some (.inl (.int, 3)) := rfl
theorem sh41 : SF[41]? = some (.inr (.inl (4, [some (some 42), none, none]))) := rfl
theorem sh42 : SF[42]? = some (.inr (.inr (.object "NotAnOx$Book", [some 43, some 48, some 53, some 58, some 63, some 68, some 73, some 78]))) := rfl
theorem sh43 : SF[43]? = some (.inr (.inl (0, [some (some 18), some (some 44), some (some 45), some (some 46), some (some 47), none, none]))) := rfl
theorem sh44 : SF[44]? = some (.inl (.int, 7)) := rfl
theorem sh45 : SF[45]? = some (.inl (.int, 7)) := rfl
theorem sh46 : SF[46]? = some (.inl (.int, 3)) := rfl
theorem sh47 : SF[47]? = some (.inl (.int, 3)) := rfl
theorem sh48 : SF[48]? = some (.inr (.inl (0, [some (some 18), some (some 49), some (some 50), some (some 51), some (some 52), none, none]))) := rfl
theorem sh49 : SF[49]? = some (.inl (.int, 7)) := rfl
theorem sh50 : SF[50]? = some (.inl (.int, 7)) := rfl
theorem sh51 : SF[51]? = some (.inl (.int, 3)) := rfl
theorem sh52 : SF[52]? = some (.inl (.int, 3)) := rfl
theorem sh53 : SF[53]? = some (.inr (.inl (0, [some (some 18), some (some 54), some (some 55), some (some 56), some (some 57), none, none]))) := rfl
theorem sh54 : SF[54]? = some (.inl (.int, 7)) := rfl
theorem sh55 : SF[55]? = some (.inl (.int, 7)) := rfl
theorem sh56 : SF[56]? = some (.inl (.int, 3)) := rfl
theorem sh57 : SF[57]? = some (.inl (.int, 3)) := rfl
theorem sh58 : SF[58]? = some (.inr (.inl (0, [some (some 18), some (some 59), some (some 60), some (some 61), some (some 62), none, none]))) := rfl
theorem sh59 : SF[59]? = some (.inl (.int, 7)) := rfl
theorem sh60 : SF[60]? = some (.inl (.int, 7)) := rfl
theorem sh61 : SF[61]? = some (.inl (.int, 3)) := rfl
theorem sh62 : SF[62]? = some (.inl (.int, 3)) := rfl
theorem sh63 : SF[63]? = some (.inr (.inl (0, [some (some 18), some (some 64), some (some 65), some (some 66), some (some 67), none, none]))) := rfl
theorem sh64 : SF[64]? = some (.inl (.int, 7)) := rfl
theorem sh65 : SF[65]? = some (.inl (.int, 7)) := rfl
theorem sh66 : SF[66]? = some (.inl (.int, 3)) := rfl
theorem sh67 : SF[67]? = some (.inl (.int, 3)) := rfl
theorem sh68 : SF[68]? = some (.inr (.inl (0, [some (some 18), some (some 69), some (some 70), some (some 71), some (some 72), none, none]))) := rfl
theorem sh69 : SF[69]? = some (.inl (.int, 7)) := rfl
theorem sh70 : SF[70]? = some (.inl (.int, 7)) := rfl
theorem sh71 : SF[71]? = some (.inl (.int, 3)) := rfl
theorem sh72 : SF[72]? = some (.inl (.int, 3)) := rfl
theorem sh73 : SF[73]? = some (.inr (.inl (0, [some (some 18), some (some 74), some (some 75), some (some 76), some (some 77), none, none]))) := rfl
theorem sh74 : SF[74]? = some (.inl (.int, 7)) := rfl
theorem sh75 : SF[75]? = some (.inl (.int, 7)) := rfl
theorem sh76 : SF[76]? = some (.inl (.int, 3)) := rfl
theorem sh77 : SF[77]? = some (.inl (.int, 3)) := rfl
theorem sh78 : SF[78]? = some (.inr (.inl (0, [some (some 18), some (some 79), some (some 80), some (some 81), some (some 82), none, none]))) := rfl
theorem sh79 : SF[79]? = some (.inl (.int, 7)) := rfl
theorem sh80 : SF[80]? = some (.inl (.int, 7)) := rfl
theorem sh81 : SF[81]? = some (.inl (.int, 3)) := rfl
theorem sh82 : SF[82]? = some (.inl (.int, 3)) := rfl
theorem sh83 : SF[83]? = some (.inr (.inl (4, [some (some 84), none, none]))) := rfl
theorem sh84 : SF[84]? = some (.inr (.inr (.object "NotAnOx$Book", [some 85, some 90]))) := rfl
theorem sh85 : SF[85]? = some (.inr (.inl (0, [some (some 18), some (some 86), some (some 87), some (some 88), some (some 89), none, none]))) := rfl
theorem sh86 : SF[86]? = some (.inl (.int, 7)) := rfl
theorem sh87 : SF[87]? = some (.inl (.int, 7)) := rfl
theorem sh88 : SF[88]? = some (.inl (.int, 3)) := rfl
theorem sh89 : SF[89]? = some (.inl (.int, 3)) := rfl
theorem sh90 : SF[90]? = some (.inr (.inl (0, [some (some 18), some (some 91), some (some 92), some (some 93), some (some 94), none, none]))) := rfl
theorem sh91 : SF[91]? = some (.inl (.int, 7)) := rfl
theorem sh92 : SF[92]? = some (.inl (.int, 7)) := rfl
theorem sh93 : SF[93]? = some (.inl (.int, 3)) := rfl
theorem sh94 : SF[94]? = some (.inl (.int, 3)) := rfl
theorem sh95 : SF[95]? = some (.inr (.inl (8, [some (some 96), some (some 97), none]))) := rfl
theorem sh96 : SF[96]? = some (.inl (.int, 6)) := rfl
theorem sh97 : SF[97]? = some (.inl (.int, 6)) := rfl
theorem sh98 : SF[98]? = some (.inr (.inl (7, [some (some 18), some (some 99), some (some 100), some (some 104), some (some 105), none]))) := rfl
theorem sh99 : SF[99]? = some (.inl (.int, 896)) := rfl
theorem sh100 : SF[100]? = some (.inr (.inr (.array .int, [some 101, some 102, some 103]))) := rfl
theorem sh101 : SF[101]? = some (.inl (.int, 128)) := rfl
theorem sh102 : SF[102]? = some (.inl (.int, 128)) := rfl
theorem sh103 : SF[103]? = some (.inl (.int, 128)) := rfl
theorem sh104 : SF[104]? = some (.inl (.int, 3)) := rfl
theorem sh105 : SF[105]? = some (.inl (.int, 3)) := rfl
theorem sh106 : SF[106]? = some (.inr (.inl (3, [some (some 18), some (some 107), some (some 108), some (some 109), none, none, none, none]))) := rfl
theorem sh107 : SF[107]? = some (.inr (.inr (.object "NotAnOx$Book", [some 110, some 115, some 120, some 125, some 130, some 135, some 140, some 145]))) := rfl
theorem sh108 : SF[108]? = some (.inl (.int, 7)) := rfl
theorem sh109 : SF[109]? = some (.inl (.int, 7)) := rfl
theorem sh110 : SF[110]? = some (.inr (.inl (0, [some (some 18), some (some 111), some (some 112), some (some 113), some (some 114), none, none]))) := rfl
theorem sh111 : SF[111]? = some (.inl (.int, 7)) := rfl
theorem sh112 : SF[112]? = some (.inl (.int, 7)) := rfl
theorem sh113 : SF[113]? = some (.inl (.int, 3)) := rfl
theorem sh114 : SF[114]? = some (.inl (.int, 3)) := rfl
theorem sh115 : SF[115]? = some (.inr (.inl (0, [some (some 18), some (some 116), some (some 117), some (some 118), some (some 119), none, none]))) := rfl
theorem sh116 : SF[116]? = some (.inl (.int, 7)) := rfl
theorem sh117 : SF[117]? = some (.inl (.int, 7)) := rfl
theorem sh118 : SF[118]? = some (.inl (.int, 3)) := rfl
theorem sh119 : SF[119]? = some (.inl (.int, 3)) := rfl
theorem sh120 : SF[120]? = some (.inr (.inl (0, [some (some 18), some (some 121), some (some 122), some (some 123), some (some 124), none, none]))) := rfl
theorem sh121 : SF[121]? = some (.inl (.int, 7)) := rfl
theorem sh122 : SF[122]? = some (.inl (.int, 7)) := rfl
theorem sh123 : SF[123]? = some (.inl (.int, 3)) := rfl
theorem sh124 : SF[124]? = some (.inl (.int, 3)) := rfl
theorem sh125 : SF[125]? = some (.inr (.inl (0, [some (some 18), some (some 126), some (some 127), some (some 128), some (some 129), none, none]))) := rfl
theorem sh126 : SF[126]? = some (.inl (.int, 7)) := rfl
theorem sh127 : SF[127]? = some (.inl (.int, 7)) := rfl
theorem sh128 : SF[128]? = some (.inl (.int, 3)) := rfl
theorem sh129 : SF[129]? = some (.inl (.int, 3)) := rfl
theorem sh130 : SF[130]? = some (.inr (.inl (0, [some (some 18), some (some 131), some (some 132), some (some 133), some (some 134), none, none]))) := rfl
theorem sh131 : SF[131]? = some (.inl (.int, 7)) := rfl
theorem sh132 : SF[132]? = some (.inl (.int, 7)) := rfl
theorem sh133 : SF[133]? = some (.inl (.int, 3)) := rfl
theorem sh134 : SF[134]? = some (.inl (.int, 3)) := rfl
theorem sh135 : SF[135]? = some (.inr (.inl (0, [some (some 18), some (some 136), some (some 137), some (some 138), some (some 139), none, none]))) := rfl
theorem sh136 : SF[136]? = some (.inl (.int, 7)) := rfl
theorem sh137 : SF[137]? = some (.inl (.int, 7)) := rfl
theorem sh138 : SF[138]? = some (.inl (.int, 3)) := rfl
theorem sh139 : SF[139]? = some (.inl (.int, 3)) := rfl
theorem sh140 : SF[140]? = some (.inr (.inl (0, [some (some 18), some (some 141), some (some 142), some (some 143), some (some 144), none, none]))) := rfl
theorem sh141 : SF[141]? = some (.inl (.int, 7)) := rfl
theorem sh142 : SF[142]? = some (.inl (.int, 7)) := rfl
theorem sh143 : SF[143]? = some (.inl (.int, 3)) := rfl
theorem sh144 : SF[144]? = some (.inl (.int, 3)) := rfl
theorem sh145 : SF[145]? = some (.inr (.inl (0, [some (some 18), some (some 146), some (some 147), some (some 148), some (some 149), none, none]))) := rfl
theorem sh146 : SF[146]? = some (.inl (.int, 7)) := rfl
theorem sh147 : SF[147]? = some (.inl (.int, 7)) := rfl
theorem sh148 : SF[148]? = some (.inl (.int, 3)) := rfl
theorem sh149 : SF[149]? = some (.inl (.int, 3)) := rfl
theorem sh150 : SF[150]? = some (.inr (.inl (1, [some (some 18), some (some 151), none, none]))) := rfl
theorem sh151 : SF[151]? = some (.inr (.inl (0, [some (some 18), some (some 152), some (some 153), some (some 154), some (some 155), none, none]))) := rfl
theorem sh152 : SF[152]? = some (.inl (.int, 7)) := rfl
theorem sh153 : SF[153]? = some (.inl (.int, 7)) := rfl
theorem sh154 : SF[154]? = some (.inl (.int, 3)) := rfl
theorem sh155 : SF[155]? = some (.inl (.int, 3)) := rfl
theorem sh156 : SF[156]? = some (.inr (.inl (10, [none, some (some 157), none, some (some 158), some (some 159), none, some (some 160), none, some (some 161), some (some 162), none, none, none, some (some 163), none, none, none, none, some (some 164), some (some 165), some (some 166), some (some 167), none, none, some (some 168), some (some 169)]))) := rfl
theorem sh157 : SF[157]? = some (.inl (.int, 7)) := rfl
theorem sh158 : SF[158]? = some (.inl (.int, 49)) := rfl
theorem sh159 : SF[159]? = some (.inl (.int, 49)) := rfl
theorem sh160 : SF[160]? = some (.inl (.int, 7)) := rfl
theorem sh161 : SF[161]? = some (.inl (.int, 49)) := rfl
theorem sh162 : SF[162]? = some (.inl (.int, 264)) := rfl
theorem sh163 : SF[163]? = some (.inl (.byte, 200)) := rfl
theorem sh164 : SF[164]? = some (.inl (.int, 6)) := rfl
theorem sh165 : SF[165]? = some (.inl (.int, 6)) := rfl
theorem sh166 : SF[166]? = some (.inl (.int, 896)) := rfl
theorem sh167 : SF[167]? = some (.inl (.int, 384)) := rfl
theorem sh168 : SF[168]? = some (.inl (.int, 7)) := rfl
theorem sh169 : SF[169]? = some (.inl (.int, 7)) := rfl
def bkL : List Nat := [31, 36, 43, 48, 53, 58, 63, 68, 73, 78, 85, 90, 110, 115, 120, 125, 130, 135, 140, 145, 151]
theorem bk_all : ∀ c ∈ bkL, SF[c]? = some (.inr (.inl (0, [some (some 18), some (some (c + 1)), some (some (c + 2)), some (some (c + 3)), some (some (c + 4)), none, none]))) ∧ SF[c + 1]? = some (.inl (.int, 7)) ∧ SF[c + 2]? = some (.inl (.int, 7)) ∧ SF[c + 3]? = some (.inl (.int, 3)) ∧ SF[c + 4]? = some (.inl (.int, 3)) ∧ 30 < c ∧ c < 152 := by
  unfold bkL
  repeat' (first | exact fun _ h => absurd h List.not_mem_nil | refine List.forall_mem_cons.mpr ⟨⟨rfl, rfl, rfl, rfl, rfl, by decide, by decide⟩, ?_⟩)
/-- c is a Book -/
def isBk (c : Nat) : Prop := c ∈ bkL
theorem bk0 {c : Nat} (h : isBk c) : SF[c]? = some (.inr (.inl (0, [some (some 18), some (some (c + 1)), some (some (c + 2)), some (some (c + 3)), some (some (c + 4)), none, none]))) := (bk_all c h).1
theorem bk1 {c : Nat} (h : isBk c) : SF[c + 1]? = some (.inl (.int, 7)) := (bk_all c h).2.1
theorem bk2 {c : Nat} (h : isBk c) : SF[c + 2]? = some (.inl (.int, 7)) := (bk_all c h).2.2.1
theorem bk3 {c : Nat} (h : isBk c) : SF[c + 3]? = some (.inl (.int, 3)) := (bk_all c h).2.2.2.1
theorem bk4 {c : Nat} (h : isBk c) : SF[c + 4]? = some (.inl (.int, 3)) := (bk_all c h).2.2.2.2.1
theorem bkR {c : Nat} (h : isBk c) : 30 < c ∧ c < 152 := (bk_all c h).2.2.2.2.2
/-- two Books lie apart -/
theorem bk_apart : ∀ c ∈ bkL, ∀ e ∈ bkL, c = e ∨ c + 5 ≤ e ∨ e + 5 ≤ c := by decide +kernel
/-- a Book's cells are its own -/
theorem bk_off : ∀ c ∈ bkL, ∀ q ∈ [41, 42, 83, 84, 95, 96, 97, 98, 99, 100, 101, 102, 103, 104, 105, 106, 107, 108, 109, 150], q < c ∨ c + 4 < q := by decide +kernel
/-- c is a Land -/
def isLd (c : Nat) : Prop := c = 5 ∨ c = 18
theorem ld0 {c : Nat} (h : isLd c) : SF[c]? = some (.inr (.inl (2, [some (some (c + 1)), some (some (c + 2)), some (some (c + 3)), some (some (c + 4)), some (some (c + 5)), none, none, none]))) := by rcases h with rfl | rfl <;> rfl
theorem ld1 {c : Nat} (h : isLd c) : SF[c + 1]? = some (.inl (.int, 7)) := by rcases h with rfl | rfl <;> rfl
theorem ld2 {c : Nat} (h : isLd c) : SF[c + 2]? = some (.inl (.int, 7)) := by rcases h with rfl | rfl <;> rfl
theorem ld3 {c : Nat} (h : isLd c) : SF[c + 3]? = some (.inl (.int, 3)) := by rcases h with rfl | rfl <;> rfl
theorem ld4 {c : Nat} (h : isLd c) : SF[c + 4]? = some (.inl (.int, 7)) := by rcases h with rfl | rfl <;> rfl
theorem ld5 {c : Nat} (h : isLd c) : SF[c + 5]? = some (.inr (.inr (.array .int, [some (c + 6), some (c + 7), some (c + 8), some (c + 9), some (c + 10), some (c + 11), some (c + 12)]))) := by rcases h with rfl | rfl <;> rfl
theorem ldr {c : Nat} (h : isLd c) : ∀ a, a < 7 → SF[c + 6 + a]? = some (.inl (.int, 7)) := by
  intro a ha
  rcases (show a = 0 ∨ a = 1 ∨ a = 2 ∨ a = 3 ∨ a = 4 ∨ a = 5 ∨ a = 6 by omega) with rfl | rfl | rfl | rfl | rfl | rfl | rfl <;> rcases h with rfl | rfl <;> rfl
end
section
/-! Math.max, min, Integer.bitCount, Arrays.fill; rows beyond an array's end are free; equalities at a method's end -/
def mxI (a b : Int32) : Int32 := if a < b then b else a
def mnI (a b : Int32) : Int32 := if b < a then b else a
theorem Qeq {Q : Option Value → List xSh → xMem → Prop} {v v1 : Option Value} {S : List xSh} {M M1 : xMem} (h : Q v S M) (hv : v = v1) (hM : M = M1) : Q v1 S M1 := by
  subst hv
  subst hM
  exact h
theorem Qev {Q : Option Value → List xSh → xMem → Prop} {y z : Int32} {S : List xSh} {M : xMem} (h : Q (some (.int y)) S M) (hv : y = z) : Q (some (.int z)) S M := hv ▸ h
theorem QeM {Q : Option Value → List xSh → xMem → Prop} {v : Option Value} {S : List xSh} {M M1 : xMem} (h : Q v S M) (hM : M = M1) : Q v S M1 := hM ▸ h
section JD
variable {G : xGl} {m : xM} {d k n pc nx : Nat} {Q : Option Value → List xSh → xMem → Prop} {L : List (Option Value)} {st : List Value} {S : List xSh} {M : xMem}
theorem xs_row {c N : Nat} {ty : FieldType} {f : Nat → Int32} (hs : S[c]? = some (.inl (ty, N))) (hf : ∀ j, j < N → M c j = f j) (kk : xW G m d k n Q pc L st S (setR M c f)) : xW G m d k n Q pc L st S M := by
  intro l D p e R s mi args below meth cc H locs cells slots Z ls E hR hS hl
  refine kk l D p e R s mi args below meth cc H locs cells slots Z ls E (hR.setM hs rfl (fun _ _ => rfl) (fun a h => setR_ne h) ?_) hS hl
  obtain ⟨cA, h1, h2⟩ := hR.2 c _ hs
  refine ⟨cA, h1, ?_⟩
  rw [h2, setR_row]
  exact congrArg some (xarr_congr (fun j hj => by rw [hf j hj]))
theorem xs_rowO {c ci : Nat} {fs : List (Option (Option Nat))} {f : Nat → Int32} (hs : S[c]? = some (.inr (.inl (ci, fs)))) (hf : ∀ j, fs.getD j none = none → M c j = f j) (kk : xW G m d k n Q pc L st S (setR M c f)) : xW G m d k n Q pc L st S M := by
  intro l D p e R s mi args below meth cc H locs cells slots Z ls E hR hS hl
  refine kk l D p e R s mi args below meth cc H locs cells slots Z ls E (hR.setM hs rfl (fun _ _ => rfl) (fun a h => setR_ne h) ?_) hS hl
  obtain ⟨r, h1, h2⟩ := hR.2 c _ hs
  refine ⟨r, h1, h2.to (fun j _ => ?_)⟩
  cases hh : fs.getD j none with
  | none => simp only [xval]; rw [hf j hh, setR_row]
  | some o => rfl
theorem xmax_code : (Cond.code mJ9_max_7cf53.1 mJ9_max_7cf53.2.1 mJ9_max_7cf53.2.2.1 mJ9_max_7cf53.2.2.2) = Cond.code Lib.Math.max.name Lib.Math.max.code 2 (some .int) := by decide +kernel
theorem xmin_code : (Cond.code mJ9_min_7cf53.1 mJ9_min_7cf53.2.1 mJ9_min_7cf53.2.2.1 mJ9_min_7cf53.2.2.2) = Cond.code Lib.Math.min.name Lib.Math.min.code 2 (some .int) := by decide +kernel
def xMX (m : xM) (pc : Nat) (m2 : xM) (nx : Nat) : Prop := ∃ idx : Nat, decode m.2.1 pc = .ok (.invokestatic idx, 3) ∧ pc + 3 = nx ∧ Cond.methodLink m.1.cls idx m2.1 ∈ xT ∧ Cond.static m2.1 ∈ xT ∧ Cond.initialized "java/lang/Math" ∈ xT ∧ Cond.code m2.1 m2.2.1 m2.2.2.1 m2.2.2.2 ∈ xT
theorem xs_max {y z : Int32} (he : xMX m pc mJ9_max_7cf53 nx) (hroom : (st.map fun v => v.category).sum ≤ 8) (kk : xW G m (d + 1) k n Q nx L (.int (mxI y z) :: st) S M) : xW G m (d + 1) k n Q pc L (.int z :: .int y :: st) S M := by
  obtain ⟨idx, hd, rfl, hlk, hstat, hini, hcode⟩ := he
  intro l D p e R s mi args below meth c H locs cells slots Z ls E hR hS hl
  have hts := E.2.2.2.2.1
  obtain ⟨rm1, rm2, rm3, rm4⟩ := E.2.2.2.2.2.2.2.1
  exact va_mmax E.1 E.2.1 (E.2.2.1.trans hl.1.symm) E.2.2.2.1 (hts _ hlk) (hts _ hstat) (hts _ hini) (by rw [← xmax_code]; exact hts _ hcode) (by omega) (by omega) (by omega) (by omega) hd (kk l D p e R s mi args below meth c H locs cells slots Z ls E hR hS hl)
theorem xs_min {y z : Int32} (he : xMX m pc mJ9_min_7cf53 nx) (hroom : (st.map fun v => v.category).sum ≤ 8) (kk : xW G m (d + 1) k n Q nx L (.int (mnI y z) :: st) S M) : xW G m (d + 1) k n Q pc L (.int z :: .int y :: st) S M := by
  obtain ⟨idx, hd, rfl, hlk, hstat, hini, hcode⟩ := he
  intro l D p e R s mi args below meth c H locs cells slots Z ls E hR hS hl
  have hts := E.2.2.2.2.1
  obtain ⟨rm1, rm2, rm3, rm4⟩ := E.2.2.2.2.2.2.2.1
  exact va_mmin E.1 E.2.1 (E.2.2.1.trans hl.1.symm) E.2.2.2.1 (hts _ hlk) (hts _ hstat) (hts _ hini) (by rw [← xmin_code]; exact hts _ hcode) (by omega) (by omega) (by omega) (by omega) hd (kk l D p e R s mi args below meth c H locs cells slots Z ls E hR hS hl)
set_option maxRecDepth 20000 in
theorem fX0_mostDays_22 : xMX mX0_mostDays 22 mJ9_max_7cf53 25 := ⟨104, by decide +kernel, rfl, xT_4 26 rfl rfl, xT_3 130 rfl rfl, xT_1 16 rfl rfl, xT_3 131 rfl rfl⟩
set_option maxRecDepth 20000 in
theorem fX2_measure_62 : xMX mX2_measure 62 mJ9_min_7cf53 65 := ⟨54, by decide +kernel, rfl, xT_2 144 rfl rfl, xT_2 145 rfl rfl, xT_1 16 rfl rfl, xT_2 146 rfl rfl⟩
set_option maxRecDepth 20000 in
theorem fX7_walkFrom_100 : xMX mX7_walkFrom 100 mJ9_min_7cf53 103 := ⟨77, by decide +kernel, rfl, xT_3 119 rfl rfl, xT_2 145 rfl rfl, xT_1 16 rfl rfl, xT_2 146 rfl rfl⟩
set_option maxRecDepth 20000 in
theorem fX7_walkTo_19 : xMX mX7_walkTo 19 mJ9_min_7cf53 22 := ⟨77, by decide +kernel, rfl, xT_3 119 rfl rfl, xT_2 145 rfl rfl, xT_1 16 rfl rfl, xT_2 146 rfl rfl⟩
set_option maxRecDepth 20000 in
theorem fX7_walkTo_84 : xMX mX7_walkTo 84 mJ9_min_7cf53 87 := ⟨77, by decide +kernel, rfl, xT_3 119 rfl rfl, xT_2 145 rfl rfl, xT_1 16 rfl rfl, xT_2 146 rfl rfl⟩
set_option maxRecDepth 20000 in
theorem fX7_daysOfShares_50 : xMX mX7_daysOfShares 50 mJ9_max_7cf53 53 := ⟨95, by decide +kernel, rfl, xT_3 129 rfl rfl, xT_3 130 rfl rfl, xT_1 16 rfl rfl, xT_3 131 rfl rfl⟩
set_option maxRecDepth 20000 in
theorem fX9_bestChecks_23 : xMX mX9_bestChecks 23 mJ9_min_7cf53 26 := ⟨290, by decide +kernel, rfl, xT_3 180 rfl rfl, xT_2 145 rfl rfl, xT_1 16 rfl rfl, xT_2 146 rfl rfl⟩
/-- how many of the lowest seven bits are there -/
def pc7 (a : Nat) : Nat := ((List.range 7).filter (fun i => a.testBit i)).length
def bcF (x0 : Int32) : Int32 :=
  let u (y : Int32) (z : Int32) : Int32 := (y.toUInt32 >>> (z.toUInt32 &&& Int32.toUInt32 31)).toInt32
  let x1 := x0 - (u x0 (nI 1) &&& nI 1431655765)
  let x2 := (x1 &&& nI 858993459) + (u x1 (nI 2) &&& nI 858993459)
  let x3 := (x2 + u x2 (nI 4)) &&& nI 252645135
  let x4 := x3 + u x3 (nI 8)
  let x5 := x4 + u x4 (nI 16)
  x5 &&& nI 63
theorem bcF_ok : ∀ a, a < 128 → bcF (nI a) = nI (pc7 a) := by decide +kernel
theorem c_bitCount {a : Nat} (ha : a < 128) (hQ : Q (some (.int (nI (pc7 a)))) S M) : xC G mJ6_bitCount_0f7a4 d 0 0 [.int (nI a)] S M Q := by
  refine xC_intro [some (.int (nI a))] rfl (by decide) (Nat.le_of_ble_eq_true rfl) ?_
  refine xs_iload eJ6_bitCount_0f7a4_0 rfl ?_
  refine xs_iload eJ6_bitCount_0f7a4_1 rfl ?_
  refine xs_K eJ6_bitCount_0f7a4_2 ?_
  refine xs_iushr eJ6_bitCount_0f7a4_3 ?_
  refine xs_K eJ6_bitCount_0f7a4_4 ?_
  refine xs_iand eJ6_bitCount_0f7a4_7 ?_
  refine xs_isub eJ6_bitCount_0f7a4_8 ?_
  refine xs_istore eJ6_bitCount_0f7a4_9 (Nat.le_of_ble_eq_true rfl) rfl rfl ?_
  refine xs_iload eJ6_bitCount_0f7a4_10 rfl ?_
  refine xs_K eJ6_bitCount_0f7a4_11 ?_
  refine xs_iand eJ6_bitCount_0f7a4_14 ?_
  refine xs_iload eJ6_bitCount_0f7a4_15 rfl ?_
  refine xs_K eJ6_bitCount_0f7a4_16 ?_
  refine xs_iushr eJ6_bitCount_0f7a4_17 ?_
  refine xs_K eJ6_bitCount_0f7a4_18 ?_
  refine xs_iand eJ6_bitCount_0f7a4_21 ?_
  refine xs_iadd eJ6_bitCount_0f7a4_22 ?_
  refine xs_istore eJ6_bitCount_0f7a4_23 (Nat.le_of_ble_eq_true rfl) rfl rfl ?_
  refine xs_iload eJ6_bitCount_0f7a4_24 rfl ?_
  refine xs_iload eJ6_bitCount_0f7a4_25 rfl ?_
  refine xs_K eJ6_bitCount_0f7a4_26 ?_
  refine xs_iushr eJ6_bitCount_0f7a4_27 ?_
  refine xs_iadd eJ6_bitCount_0f7a4_28 ?_
  refine xs_K eJ6_bitCount_0f7a4_29 ?_
  refine xs_iand eJ6_bitCount_0f7a4_32 ?_
  refine xs_istore eJ6_bitCount_0f7a4_33 (Nat.le_of_ble_eq_true rfl) rfl rfl ?_
  refine xs_iload eJ6_bitCount_0f7a4_34 rfl ?_
  refine xs_iload eJ6_bitCount_0f7a4_35 rfl ?_
  refine xs_K eJ6_bitCount_0f7a4_36 ?_
  refine xs_iushr eJ6_bitCount_0f7a4_38 ?_
  refine xs_iadd eJ6_bitCount_0f7a4_39 ?_
  refine xs_istore eJ6_bitCount_0f7a4_40 (Nat.le_of_ble_eq_true rfl) rfl rfl ?_
  refine xs_iload eJ6_bitCount_0f7a4_41 rfl ?_
  refine xs_iload eJ6_bitCount_0f7a4_42 rfl ?_
  refine xs_K eJ6_bitCount_0f7a4_43 ?_
  refine xs_iushr eJ6_bitCount_0f7a4_45 ?_
  refine xs_iadd eJ6_bitCount_0f7a4_46 ?_
  refine xs_istore eJ6_bitCount_0f7a4_47 (Nat.le_of_ble_eq_true rfl) rfl rfl ?_
  refine xs_iload eJ6_bitCount_0f7a4_48 rfl ?_
  refine xs_K eJ6_bitCount_0f7a4_49 ?_
  refine xs_iand eJ6_bitCount_0f7a4_51 ?_
  exact xs_iretI eJ6_bitCount_0f7a4_52 rfl (Qev hQ (bcF_ok a ha).symm)
theorem c_fill {c N : Nat} {y : Int32} (hs : S[c]? = some (.inl (.int, N))) (hN : N < 2 ^ 31) (hQ : Q none S (setR M c (fun _ => y))) : xC G mJ7_fill_53178 d 0 0 [.ref (G.1 + c), .int y] S M Q := by
  refine xC_intro [some (.ref (G.1 + c)), some (.int y), none, none] rfl (by decide) (Nat.le_of_ble_eq_true rfl) ?_
  refine xs_K eJ7_fill_53178_0 ?_
  refine xs_istore eJ7_fill_53178_1 (Nat.le_of_ble_eq_true rfl) rfl rfl ?_
  refine xs_aload eJ7_fill_53178_2 rfl ?_
  refine xs_alenI eJ7_fill_53178_3 (by assumption) ?_
  refine xs_istore eJ7_fill_53178_4 (Nat.le_of_ble_eq_true rfl) rfl rfl ?_
  have K := dn (P := fun i => xW G mJ7_fill_53178 d 0 0 Q 5 [some (.ref (G.1 + c)), some (.int y), some (.int (nI i)), some (.int (nI N))] [] S (setR M c (fun j => if j < i then y else M c j))) N ?_ ?_ 0 (Nat.zero_le _)
  · refine xs_eqM ?_ K
    funext a
    by_cases h : a = c
    · subst h
      rw [setR_row]
      simp
    · rw [setR_ne h]
  · refine xs_row hs (f := fun _ => y) (fun j hj => by rw [setR_row]; simp [hj]) ?_
    refine xs_iload eJ7_fill_53178_5 rfl ?_
    refine xs_iload eJ7_fill_53178_6 rfl ?_
    refine xs_icmp_ge eJ7_fill_53178_7 (fun h7 => ?_) (fun h => absurd (Int32.le_refl _) h)
    exact xs_vret eJ7_fill_53178_20 rfl (QeM hQ (by funext a; by_cases h : a = c <;> simp [setR, h]))
  · intro i hi ih
    refine xs_iload eJ7_fill_53178_5 rfl ?_
    refine xs_iload eJ7_fill_53178_6 rfl ?_
    refine xs_icmp_ge eJ7_fill_53178_7 (fun h => absurd h (nI_ge hi (by omega))) (fun h7 => ?_)
    refine xs_aload eJ7_fill_53178_10 rfl ?_
    refine xs_iload eJ7_fill_53178_11 rfl ?_
    refine xs_iload eJ7_fill_53178_12 rfl ?_
    refine xs_iast eJ7_fill_53178_13 hs hi hN ?_
    refine xs_inc1 eJ7_fill_53178_14 rfl rfl rfl ?_
    refine xs_goto eJ7_fill_53178_17 ?_
    exact xs_eqM (by funext a j; by_cases h : a = c <;> by_cases h1 : j = i <;> simp [setR, up2, h, h1] <;> (have e9 : (j < i) = (j < i + 1) := propext (by omega); simp [e9])) ih
end JD
end
section
/-! Book: what its methods answer and change; c the Book's cell; the land's cells are 18 and on -/
def lowF (p : Nat → Bool) : Nat → Nat → Nat
  | 0, i => i
  | f + 1, i => if p i then i else lowF p f (i + 1)
/-- the lowest of seven bits (7: none) -/
def lowN (y : Int32) : Nat := lowF (bt y) 7 0
def lowI (j : Nat) : Int32 := if j < 7 then nI j else (-4)
theorem lowI_lt {j : Nat} (h : j < 7) : lowI j = nI j := if_pos h
/-- the rest, as bits -/
def restM (nv : Nat) (ib : Int32) : Int32 := ((nI 1 <<< (nI nv &&& 31)) - nI 1) &&& (ib ^^^ (-1))
/-- what one would swear to: an the neighbours in the book, hon the honest ones -/
def swornP (an hon : Int32) (ox wr : Nat → Int32) (v kd : Nat) : Int32 :=
  if kd = 1 then (if an &&& hon = 0 then ox v / nI 2 else ox v) else if kd = 2 then (if an &&& hon = 0 then nI 0 else ox v)
  else if kd = 3 then (if an = 0 then ox v else wr (lowN an)) else if kd = 4 then (if an = 0 then ox v else nI 0) else ox v
def swearM (M : xMem) (c v kd : Nat) (hon : Int32) : xMem :=
  let an := M 22 v &&& M c 5
  let M1 := up2 M (c + 2) v (swornP an hon (M (c + 1)) (M (c + 2)) v kd)
  let M2 := if kd = 4 ∧ ¬ an = 0 then up2 (up2 M1 (c + 1) (lowN an) (M (c + 1) (lowN an) + M (c + 1) v)) (c + 1) v (nI 0) else M1
  up2 M2 c 5 (bon (M c 5) v)
def askM (M : xMem) (c p v w kd : Nat) (hon : Int32) : xMem := swearM (up2 (up2 M (c + 4) p (M (c + 4) p + (M (24 + w) v + nI 1))) (c + 3) p (nI v)) c v kd hon
def checkM (M : xMem) (c v : Nat) : xMem := up2 (up2 M (c + 2) v (M (c + 1) v)) c 6 (bon (M c 6) v)
def strikeM (M : xMem) (c v : Nat) : xMem := up2 (up2 M c 5 (boff (M c 5) v)) c 6 (boff (M c 6) v)
/-- Book e copied into Book c: the entries; all -/
def cpE (M : xMem) (c e : Nat) : xMem := setR (setR (setR M c (M e)) (c + 1) (M (e + 1))) (c + 2) (M (e + 2))
def cpB (M : xMem) (c e : Nat) : xMem := setR (setR (cpE M c e) (c + 3) (M (e + 3))) (c + 4) (M (e + 4))
def openM (M : xMem) (c : Nat) : xMem := setR (setR (setR (setR (setR M c (fun _ => nI 0)) (c + 1) (M 20)) (c + 2) (fun _ => nI 0)) (c + 3) (M 21)) (c + 4) (fun _ => nI 0)
/-- the sum of what is written of those in the book; how many more would be of a set -/
def foundF (nv : Nat) (ib : Int32) (wr : Nat → Int32) : Int32 := sumN (fun v => if bt ib v then wr v else nI 0) nv
def gainF (nv : Nat) (set : Int32) (ox wr : Nat → Int32) : Int32 := sumN (fun v => if bt set v then ox v - wr v else nI 0) nv
def maxN (f : Nat → Int32) : Nat → Int32
  | 0 => nI 0
  | n + 1 => mxI (maxN f n) (f n)
/-- one of the neighbours in the book has the same written -/
def twinF (an : Int32) (wr : Nat → Int32) (v : Nat) : Nat → Bool
  | 0 => false
  | n + 1 => twinF an wr v n || (bt an n && decide (wr n = wr v))
section BK
variable {G : xGl} {d c e v p w nv np kd : Nat} {M : xMem} {Q : Option Value → List xSh → xMem → Prop}
theorem c_X0_holds (hc : isBk c) (hv : v < 7) (hQ : Q (some (.int (bI (bt (M c 5) v)))) SF M) : xC G mX0_holds d 0 0 [.ref (G.1 + c), .int (nI v)] SF M Q := by
  have h0 := bk0 hc
  refine xC_intro [some (.ref (G.1 + c)), some (.int (nI v))] rfl (by decide) (Nat.le_of_ble_eq_true rfl) ?_
  refine xs_aload eX0_holds_0 rfl ?_
  refine xs_getI eX0_holds_1 (by assumption) (by rfl) ?_
  refine xs_iload eX0_holds_4 rfl ?_
  refine xs_ishr eX0_holds_5 ?_
  refine xs_K eX0_holds_6 ?_
  refine xs_iand eX0_holds_7 ?_
  refine xs_eq1 (bt_ask _ (by omega)) ?_
  refine xs_ifeqB eX0_holds_8 (fun h8 => ?_) (fun h8 => ?_)
  · refine xs_K eX0_holds_15 ?_
    exact xs_iret eX0_holds_16 rfl (by first | exact bI_nar _ | rfl) (by rw [h8] at hQ; exact hQ)
  · refine xs_K eX0_holds_11 ?_
    refine xs_goto eX0_holds_12 ?_
    exact xs_iret eX0_holds_16 rfl (by first | exact bI_nar _ | rfl) (by rw [h8] at hQ; exact hQ)
theorem c_X0_isChecked (hc : isBk c) (hv : v < 7) (hQ : Q (some (.int (bI (bt (M c 6) v)))) SF M) : xC G mX0_isChecked d 0 0 [.ref (G.1 + c), .int (nI v)] SF M Q := by
  have h0 := bk0 hc
  refine xC_intro [some (.ref (G.1 + c)), some (.int (nI v))] rfl (by decide) (Nat.le_of_ble_eq_true rfl) ?_
  refine xs_aload eX0_isChecked_0 rfl ?_
  refine xs_getI eX0_isChecked_1 (by assumption) (by rfl) ?_
  refine xs_iload eX0_isChecked_4 rfl ?_
  refine xs_ishr eX0_isChecked_5 ?_
  refine xs_K eX0_isChecked_6 ?_
  refine xs_iand eX0_isChecked_7 ?_
  refine xs_eq1 (bt_ask _ (by omega)) ?_
  refine xs_ifeqB eX0_isChecked_8 (fun h8 => ?_) (fun h8 => ?_)
  · refine xs_K eX0_isChecked_15 ?_
    exact xs_iret eX0_isChecked_16 rfl (by first | exact bI_nar _ | rfl) (by rw [h8] at hQ; exact hQ)
  · refine xs_K eX0_isChecked_11 ?_
    refine xs_goto eX0_isChecked_12 ?_
    exact xs_iret eX0_isChecked_16 rfl (by first | exact bI_nar _ | rfl) (by rw [h8] at hQ; exact hQ)
theorem c_X0_canBeChecked (hc : isBk c) (hv : v < 7) (hQ : Q (some (.int (bI (bt (M c 5) v && !bt (M c 6) v)))) SF M) : xC G mX0_canBeChecked (d + 1) 0 0 [.ref (G.1 + c), .int (nI v)] SF M Q := by
  have h0 := bk0 hc
  refine xC_intro [some (.ref (G.1 + c)), some (.int (nI v))] rfl (by decide) (Nat.le_of_ble_eq_true rfl) ?_
  refine xs_aload eX0_canBeChecked_0 rfl ?_
  refine xs_iload eX0_canBeChecked_1 rfl ?_
  refine xs_callV1i eX0_canBeChecked_2 (by assumption) (Nat.le_of_ble_eq_true rfl) (c_X0_holds (by assumption) (by omega) ⟨_, rfl, ?_⟩)
  refine xs_ifeqB eX0_canBeChecked_5 (fun h5 => ?_) (fun h5 => ?_)
  · refine xs_K eX0_canBeChecked_20 ?_
    exact xs_iret eX0_canBeChecked_21 rfl (by first | exact bI_nar _ | rfl) (by simp_all [bI])
  · refine xs_aload eX0_canBeChecked_8 rfl ?_
    refine xs_iload eX0_canBeChecked_9 rfl ?_
    refine xs_callV1i eX0_canBeChecked_10 (by assumption) (Nat.le_of_ble_eq_true rfl) (c_X0_isChecked (by assumption) (by omega) ⟨_, rfl, ?_⟩)
    refine xs_ifneB eX0_canBeChecked_13 (fun h13 => ?_) (fun h13 => ?_)
    · refine xs_K eX0_canBeChecked_20 ?_
      exact xs_iret eX0_canBeChecked_21 rfl (by first | exact bI_nar _ | rfl) (by simp_all [bI])
    · refine xs_K eX0_canBeChecked_16 ?_
      refine xs_goto eX0_canBeChecked_17 ?_
      exact xs_iret eX0_canBeChecked_21 rfl (by first | exact bI_nar _ | rfl) (by simp_all [bI])
theorem c_X0_canBeAsked (hc : isBk c) (hp : p < 3) (hv : v < 7) (hw : M (c + 3) p = nI w) (hw7 : w < 7) (hQ : Q (some (.int (bI (!bt (M c 5) v && decide (M (24 + w) v < nI 1000000))))) SF M) : xC G mX0_canBeAsked (d + 1) 0 0 [.ref (G.1 + c), .int (nI p), .int (nI v)] SF M Q := by
  have h0 := bk0 hc
  have h3 := bk3 hc
  have l0 := sh18
  have l5 := sh23
  have lr := ldr (Or.inr rfl) w hw7
  refine xC_intro [some (.ref (G.1 + c)), some (.int (nI p)), some (.int (nI v))] rfl (by decide) (Nat.le_of_ble_eq_true rfl) ?_
  refine xs_aload eX0_canBeAsked_0 rfl ?_
  refine xs_iload eX0_canBeAsked_1 rfl ?_
  refine xs_callV1i eX0_canBeAsked_2 (by assumption) (Nat.le_of_ble_eq_true rfl) (c_X0_holds (by assumption) (by omega) ⟨_, rfl, ?_⟩)
  refine xs_ifneB eX0_canBeAsked_5 (fun h5 => ?_) (fun h5 => ?_)
  · refine xs_K eX0_canBeAsked_33 ?_
    exact xs_iret eX0_canBeAsked_34 rfl (by first | exact bI_nar _ | rfl) (by simp_all [bI])
  · refine xs_aload eX0_canBeAsked_8 rfl ?_
    refine xs_getR eX0_canBeAsked_9 (by assumption) (by rfl) ?_
    refine xs_getR eX0_canBeAsked_12 (by assumption) (by rfl) ?_
    refine xs_aload eX0_canBeAsked_15 rfl ?_
    refine xs_getR eX0_canBeAsked_16 (by assumption) (by rfl) ?_
    refine xs_iload eX0_canBeAsked_19 rfl ?_
    refine xs_iald eX0_canBeAsked_20 (by assumption) (by omega) (by decide) ?_
    refine xs_eq1 hw ?_
    refine xs_aald (r := 24 + w) eX0_canBeAsked_21 l5 rfl (by rcases (show w = 0 ∨ w = 1 ∨ w = 2 ∨ w = 3 ∨ w = 4 ∨ w = 5 ∨ w = 6 by omega) with rfl | rfl | rfl | rfl | rfl | rfl | rfl <;> rfl) (by decide) ?_
    refine xs_iload eX0_canBeAsked_22 rfl ?_
    refine xs_iald eX0_canBeAsked_23 (by assumption) (by omega) (by decide) ?_
    refine xs_K eX0_canBeAsked_24 ?_
    refine xs_icmp_ge eX0_canBeAsked_26 (fun h26 => ?_) (fun h26 => ?_)
    · refine xs_K eX0_canBeAsked_33 ?_
      exact xs_iret eX0_canBeAsked_34 rfl (by first | exact bI_nar _ | rfl) (Qev hQ (by rw [h5, decide_eq_false (Int32.not_lt.mpr h26)]; rfl))
    · refine xs_K eX0_canBeAsked_29 ?_
      refine xs_goto eX0_canBeAsked_30 ?_
      exact xs_iret eX0_canBeAsked_34 rfl (by first | exact bI_nar _ | rfl) (Qev hQ (by rw [h5, decide_eq_true (Int32.not_le.mp h26)]; rfl))
theorem c_X0_rest (hc : isBk c) (hn : M 18 5 = nI nv) (hQ : Q (some (.int (restM nv (M c 5)))) SF M) : xC G mX0_rest d 0 0 [.ref (G.1 + c)] SF M Q := by
  have h0 := bk0 hc
  have l0 := sh18
  refine xC_intro [some (.ref (G.1 + c))] rfl (by decide) (Nat.le_of_ble_eq_true rfl) ?_
  refine xs_K eX0_rest_0 ?_
  refine xs_aload eX0_rest_1 rfl ?_
  refine xs_getR eX0_rest_2 (by assumption) (by rfl) ?_
  refine xs_getI eX0_rest_5 (by assumption) (by rfl) ?_
  refine xs_eq1 hn ?_
  refine xs_ishl eX0_rest_8 ?_
  refine xs_K eX0_rest_9 ?_
  refine xs_isub eX0_rest_10 ?_
  refine xs_aload eX0_rest_11 rfl ?_
  refine xs_getI eX0_rest_12 (by assumption) (by rfl) ?_
  refine xs_K eX0_rest_15 ?_
  refine xs_ixor eX0_rest_16 ?_
  refine xs_iand eX0_rest_17 ?_
  exact xs_iretI eX0_rest_18 rfl (hQ)
theorem restM_bt {nv : Nat} (h7 : nv ≤ 7) (ib : Int32) {i : Nat} (hi : i < 32) : bt (restM nv ib) i = (decide (i < nv) && !bt ib i) := by
  unfold restM
  rw [b_and, bt_not _ hi]
  congr 1
  exact (by decide +kernel : ∀ nv, nv ≤ 7 → ∀ i, i < 32 → bt ((nI 1 <<< (nI nv &&& 31)) - nI 1) i = decide (i < nv)) nv h7 i hi
/-- few bits are a small number -/
theorem bw7 {y : Int32} (h : ∀ i, 7 ≤ i → i < 32 → bt y i = false) : ∃ a : Nat, a < 128 ∧ y = nI a := by
  refine ⟨y.toBitVec.toNat, ?_, Int32.toBitVec_inj.mp (by show _ = BitVec.ofNat 32 _; simp)⟩
  show y.toBitVec.toNat < 2 ^ 7
  apply Nat.lt_pow_two_of_testBit
  intro j hj
  rw [BitVec.testBit_toNat]
  rcases Nat.lt_or_ge j 32 with q | q
  · exact h j hj q
  · exact b_big q
theorem c_X0_restSize {a : Nat} (hc : isBk c) (hn : M 18 5 = nI nv) (h7 : nv ≤ 7) (hr : restM nv (M c 5) = nI a) (ha : a < 128) (hQ : Q (some (.int (nI (pc7 a)))) SF M) : xC G mX0_restSize (d + 1) 0 0 [.ref (G.1 + c)] SF M Q := by
  have h0 := bk0 hc
  refine xC_intro [some (.ref (G.1 + c))] rfl (by decide) (Nat.le_of_ble_eq_true rfl) ?_
  refine xs_aload eX0_restSize_0 rfl ?_
  refine xs_callV0i eX0_restSize_1 (by assumption) (Nat.le_of_ble_eq_true rfl) (c_X0_rest (by assumption) (by assumption) ⟨_, rfl, ?_⟩)
  refine xs_eq1 hr ?_
  refine xs_callS1i eX0_restSize_4 (Nat.le_of_ble_eq_true rfl) (c_bitCount (by omega) ⟨_, rfl, ?_⟩)
  exact xs_iretI eX0_restSize_7 rfl (hQ)
theorem c_X9_lowestOf {y : Int32} (hQ : Q (some (.int (lowI (lowN y)))) SF M) : xC G mX9_lowestOf d 0 0 [.int y] SF M Q := by
  refine xC_intro [some (.int y), none] rfl (by decide) (Nat.le_of_ble_eq_true rfl) ?_
  refine xs_K eX9_lowestOf_0 ?_
  refine xs_istore eX9_lowestOf_1 (Nat.le_of_ble_eq_true rfl) rfl rfl ?_
  refine dn (P := fun i => Q (some (.int (lowI (lowF (bt y) (7 - i) i)))) SF M → xW G mX9_lowestOf d 0 0 Q 2 [some (.int y), some (.int (nI i))] [] SF M) 7 ?_ ?_ 0 (by omega) hQ
  · intro hQ
    refine xs_iload eX9_lowestOf_2 rfl ?_
    refine xs_K eX9_lowestOf_3 ?_
    refine xs_icmp_ge eX9_lowestOf_5 (fun h5 => ?_) (fun h => absurd (Int32.le_refl _) h)
    refine xs_K eX9_lowestOf_24 ?_
    exact xs_iretI eX9_lowestOf_26 rfl (hQ)
  · intro i hi ih hQ
    rw [show 7 - i = (7 - (i + 1)) + 1 by omega, lowF] at hQ
    refine xs_iload eX9_lowestOf_2 rfl ?_
    refine xs_K eX9_lowestOf_3 ?_
    refine xs_icmp_ge eX9_lowestOf_5 (fun h => absurd h (nI_ge hi (by omega))) (fun h5 => ?_)
    refine xs_iload eX9_lowestOf_8 rfl ?_
    refine xs_iload eX9_lowestOf_9 rfl ?_
    refine xs_ishr eX9_lowestOf_10 ?_
    refine xs_K eX9_lowestOf_11 ?_
    refine xs_iand eX9_lowestOf_12 ?_
    refine xs_eq1 (bt_ask _ (by omega)) ?_
    refine xs_ifeqB eX9_lowestOf_13 (fun h13 => ?_) (fun h13 => ?_)
    · refine xs_inc1 eX9_lowestOf_18 rfl rfl rfl ?_
      refine xs_goto eX9_lowestOf_21 ?_
      exact ih (by simpa [h13] using hQ)
    · refine xs_iload eX9_lowestOf_16 rfl ?_
      exact xs_iretI eX9_lowestOf_17 rfl (Qev hQ (by simp only [h13, reduceIte]; exact lowI_lt hi))
theorem c_X0_sworn {hon : Int32} (hc : isBk c) (hv : v < 7) (hk : kd < 5) (hl : M 22 v &&& M c 5 = 0 ∨ lowN (M 22 v &&& M c 5) < 7) (hQ : Q (some (.int (swornP (M 22 v &&& M c 5) hon (M (c + 1)) (M (c + 2)) v kd))) SF M) : xC G mX0_sworn (d + 1) 0 0 [.ref (G.1 + c), .int (nI v), .int (nI kd), .int hon] SF M Q := by
  have h0 := bk0 hc
  have h1 := bk1 hc
  have h2 := bk2 hc
  have l0 := sh18
  have l4 := sh22
  refine xC_intro [some (.ref (G.1 + c)), some (.int (nI v)), some (.int (nI kd)), some (.int hon), none, none] rfl (by decide) (Nat.le_of_ble_eq_true rfl) ?_
  refine xs_aload eX0_sworn_0 rfl ?_
  refine xs_getR eX0_sworn_1 (by assumption) (by rfl) ?_
  refine xs_getR eX0_sworn_4 (by assumption) (by rfl) ?_
  refine xs_iload eX0_sworn_7 rfl ?_
  refine xs_iald eX0_sworn_8 (by assumption) (by omega) (by decide) ?_
  refine xs_aload eX0_sworn_9 rfl ?_
  refine xs_getI eX0_sworn_10 (by assumption) (by rfl) ?_
  refine xs_iand eX0_sworn_13 ?_
  refine xs_istore eX0_sworn_14 (Nat.le_of_ble_eq_true rfl) rfl rfl ?_
  refine xs_iload eX0_sworn_16 rfl ?_
  refine xs_iload eX0_sworn_18 rfl ?_
  refine xs_iand eX0_sworn_19 ?_
  have K : ∀ b : Bool, b = !decide ((M 22 v &&& M c 5) &&& hon = 0) → xW G mX0_sworn (d + 1) 0 0 Q 28 [some (.ref (G.1 + c)), some (.int (nI v)), some (.int (nI kd)), some (.int hon), some (.int (M 22 v &&& M c 5)), none] [.int (bI b)] SF M := by
    intro b hb
    refine xs_istore eX0_sworn_28 (Nat.le_of_ble_eq_true rfl) rfl rfl ?_
    refine xs_iload eX0_sworn_30 rfl ?_
    rcases (show kd = 0 ∨ kd = 1 ∨ kd = 2 ∨ kd = 3 ∨ kd = 4 by omega) with rfl | rfl | rfl | rfl | rfl
    · refine xs_tsOut eX0_sworn_31 (by decide) ?_
      refine xs_aload eX0_sworn_140 rfl ?_
      refine xs_getR eX0_sworn_141 (by assumption) (by rfl) ?_
      refine xs_iload eX0_sworn_144 rfl ?_
      refine xs_iald eX0_sworn_145 (by assumption) (by omega) (by decide) ?_
      exact xs_iretI eX0_sworn_146 rfl (by simp_all [swornP])
    · refine xs_tsIn eX0_sworn_31 1 (by decide) (by decide) (by decide) rfl ?_
      refine xs_iload eX0_sworn_60 rfl ?_
      refine xs_ifeqB eX0_sworn_62 (fun h62 => ?_) (fun h62 => ?_)
      · refine xs_aload eX0_sworn_74 rfl ?_
        refine xs_getR eX0_sworn_75 (by assumption) (by rfl) ?_
        refine xs_iload eX0_sworn_78 rfl ?_
        refine xs_iald eX0_sworn_79 (by assumption) (by omega) (by decide) ?_
        refine xs_K eX0_sworn_80 ?_
        refine xs_idiv eX0_sworn_81 (by decide) ?_
        exact xs_iretI eX0_sworn_82 rfl (by simp_all [swornP])
      · refine xs_aload eX0_sworn_65 rfl ?_
        refine xs_getR eX0_sworn_66 (by assumption) (by rfl) ?_
        refine xs_iload eX0_sworn_69 rfl ?_
        refine xs_iald eX0_sworn_70 (by assumption) (by omega) (by decide) ?_
        refine xs_goto eX0_sworn_71 ?_
        exact xs_iretI eX0_sworn_82 rfl (by simp_all [swornP])
    · refine xs_tsIn eX0_sworn_31 2 (by decide) (by decide) (by decide) rfl ?_
      refine xs_iload eX0_sworn_83 rfl ?_
      refine xs_ifeqB eX0_sworn_85 (fun h85 => ?_) (fun h85 => ?_)
      · refine xs_K eX0_sworn_97 ?_
        exact xs_iretI eX0_sworn_98 rfl (by simp_all [swornP])
      · refine xs_aload eX0_sworn_88 rfl ?_
        refine xs_getR eX0_sworn_89 (by assumption) (by rfl) ?_
        refine xs_iload eX0_sworn_92 rfl ?_
        refine xs_iald eX0_sworn_93 (by assumption) (by omega) (by decide) ?_
        refine xs_goto eX0_sworn_94 ?_
        exact xs_iretI eX0_sworn_98 rfl (by simp_all [swornP])
    · refine xs_tsIn eX0_sworn_31 3 (by decide) (by decide) (by decide) rfl ?_
      refine xs_iload eX0_sworn_99 rfl ?_
      refine xs_if_eq eX0_sworn_101 (fun h101 => ?_) (fun h101 => ?_)
      · refine xs_aload eX0_sworn_117 rfl ?_
        refine xs_getR eX0_sworn_118 (by assumption) (by rfl) ?_
        refine xs_iload eX0_sworn_121 rfl ?_
        refine xs_iald eX0_sworn_122 (by assumption) (by omega) (by decide) ?_
        exact xs_iretI eX0_sworn_123 rfl (by simp_all [swornP])
      · refine xs_aload eX0_sworn_104 rfl ?_
        refine xs_getR eX0_sworn_105 (by assumption) (by rfl) ?_
        refine xs_iload eX0_sworn_108 rfl ?_
        refine xs_callS1i eX0_sworn_110 (Nat.le_of_ble_eq_true rfl) (c_X9_lowestOf ⟨_, rfl, ?_⟩)
        refine xs_eq1 (lowI_lt (hl.resolve_left h101)) ?_
        refine xs_iald eX0_sworn_113 (by assumption) ((hl.resolve_left h101)) (by decide) ?_
        refine xs_goto eX0_sworn_114 ?_
        exact xs_iretI eX0_sworn_123 rfl (by simp_all [swornP])
    · refine xs_tsIn eX0_sworn_31 4 (by decide) (by decide) (by decide) rfl ?_
      refine xs_iload eX0_sworn_124 rfl ?_
      refine xs_if_eq eX0_sworn_126 (fun h126 => ?_) (fun h126 => ?_)
      · refine xs_aload eX0_sworn_133 rfl ?_
        refine xs_getR eX0_sworn_134 (by assumption) (by rfl) ?_
        refine xs_iload eX0_sworn_137 rfl ?_
        refine xs_iald eX0_sworn_138 (by assumption) (by omega) (by decide) ?_
        exact xs_iretI eX0_sworn_139 rfl (by simp_all [swornP])
      · refine xs_K eX0_sworn_129 ?_
        refine xs_goto eX0_sworn_130 ?_
        exact xs_iretI eX0_sworn_139 rfl (by simp_all [swornP])
  refine xs_if_eq eX0_sworn_20 (fun h20 => ?_) (fun h20 => ?_)
  · refine xs_K eX0_sworn_27 ?_
    exact K false (by simp [h20])
  · refine xs_K eX0_sworn_23 ?_
    refine xs_goto eX0_sworn_24 ?_
    exact K true (by simp [h20])
theorem c_X0_swear {hon : Int32} (hc : isBk c) (hv : v < 7) (hk : kd < 5) (hl : M 22 v &&& M c 5 = 0 ∨ lowN (M 22 v &&& M c 5) < 7) (hQ : Q (some (.int (swornP (M 22 v &&& M c 5) hon (M (c + 1)) (M (c + 2)) v kd))) SF (swearM M c v kd hon)) : xC G mX0_swear (d + 2) 0 0 [.ref (G.1 + c), .int (nI v), .int (nI kd), .int hon] SF M Q := by
  have h0 := bk0 hc
  have h1 := bk1 hc
  have h2 := bk2 hc
  have l0 := sh18
  have l4 := sh22
  obtain ⟨b1, b2⟩ := bkR hc
  refine xC_intro [some (.ref (G.1 + c)), some (.int (nI v)), some (.int (nI kd)), some (.int hon), none] rfl (by decide) (Nat.le_of_ble_eq_true rfl) ?_
  refine xs_aload eX0_swear_0 rfl ?_
  refine xs_getR eX0_swear_1 (by assumption) (by rfl) ?_
  refine xs_iload eX0_swear_4 rfl ?_
  refine xs_aload eX0_swear_5 rfl ?_
  refine xs_iload eX0_swear_6 rfl ?_
  refine xs_iload eX0_swear_7 rfl ?_
  refine xs_iload eX0_swear_8 rfl ?_
  refine xs_callV3i eX0_swear_9 (by assumption) (Nat.le_of_ble_eq_true rfl) (c_X0_sworn (by assumption) (by omega) (by omega) (by assumption) ⟨_, rfl, ?_⟩)
  refine xs_iast eX0_swear_12 (by assumption) (by omega) (by decide) ?_
  refine xs_aload eX0_swear_13 rfl ?_
  refine xs_getR eX0_swear_14 (by assumption) (by rfl) ?_
  refine xs_getR eX0_swear_17 (by assumption) (by rfl) ?_
  refine xs_iload eX0_swear_20 rfl ?_
  refine xs_iald eX0_swear_21 (by assumption) (by omega) (by decide) ?_
  generalize hr : swornP (M 22 v &&& M c 5) hon (M (c + 1)) (M (c + 2)) v kd = r at hQ ⊢
  have e1 : up2 M (c + 2) v r 22 v = M 22 v := by rw [up2_ne (by omega)]
  have e2 : up2 M (c + 2) v r c 5 = M c 5 := by rw [up2_ne (by omega)]
  have e3 : ∀ j, up2 M (c + 2) v r (c + 1) j = M (c + 1) j := fun j => by rw [up2_ne (by omega)]
  have K : ∀ M2 : xMem, M2 c 5 = M c 5 → M2 (c + 2) v = r → M2 = (if kd = 4 ∧ ¬ (M 22 v &&& M c 5) = 0 then up2 (up2 (up2 M (c + 2) v r) (c + 1) (lowN (M 22 v &&& M c 5)) (M (c + 1) (lowN (M 22 v &&& M c 5)) + M (c + 1) v)) (c + 1) v (nI 0) else up2 M (c + 2) v r) → xW G mX0_swear (d + 2) 0 0 Q 65 [some (.ref (G.1 + c)), some (.int (nI v)), some (.int (nI kd)), some (.int hon), some (.int (M 22 v &&& M c 5))] [] SF M2 := by
    intro M2 q1 q2 q3
    refine xs_aload eX0_swear_65 rfl ?_
    refine xs_dup eX0_swear_66 rfl ?_
    refine xs_getI eX0_swear_67 (by assumption) (by rfl) ?_
    refine xs_eq1 q1 ?_
    refine xs_K eX0_swear_70 ?_
    refine xs_iload eX0_swear_71 rfl ?_
    refine xs_ishl eX0_swear_72 ?_
    refine xs_ior eX0_swear_73 ?_
    refine xs_putI eX0_swear_74 (by assumption) (by rfl) rfl rfl ?_
    refine xs_aload eX0_swear_77 rfl ?_
    refine xs_getR eX0_swear_78 (by assumption) (by rfl) ?_
    refine xs_iload eX0_swear_81 rfl ?_
    refine xs_iald eX0_swear_82 (by assumption) (by omega) (by decide) ?_
    refine xs_eq1 (z := r) (by rw [up2_ne (by omega)]; exact q2) ?_
    exact xs_iretI eX0_swear_83 rfl (QeM hQ (by unfold swearM; simp only [hr]; rw [← q3]; rfl))
  refine xs_aload eX0_swear_22 rfl ?_
  refine xs_getI eX0_swear_23 (by assumption) (by rfl) ?_
  refine xs_eq1 e2 ?_
  rw [e1]
  refine xs_iand eX0_swear_26 ?_
  refine xs_istore eX0_swear_27 (Nat.le_of_ble_eq_true rfl) rfl rfl ?_
  refine xs_iload eX0_swear_29 rfl ?_
  refine xs_K eX0_swear_30 ?_
  refine xs_icmp_ne eX0_swear_31 (fun h31 => ?_) (fun h31 => ?_)
  · exact K _ (by rw [up2_ne (by omega)]) (by simp [up2]) (by rw [if_neg (fun h => h31 (by rw [h.1]))])
  · refine xs_iload eX0_swear_34 rfl ?_
    refine xs_if_eq eX0_swear_36 (fun h36 => ?_) (fun h36 => ?_)
    · exact K _ (by rw [up2_ne (by omega)]) (by simp [up2]) (by rw [if_neg (fun h => h.2 h36)])
    · refine xs_aload eX0_swear_39 rfl ?_
      refine xs_getR eX0_swear_40 (by assumption) (by rfl) ?_
      refine xs_iload eX0_swear_43 rfl ?_
      skip
      refine xs_callS1i eX0_swear_45 (Nat.le_of_ble_eq_true rfl) (c_X9_lowestOf ⟨_, rfl, ?_⟩)
      refine xs_eq1 (lowI_lt (hl.resolve_left h36)) ?_
      refine xs_dup2 eX0_swear_48 rfl rfl ?_
      refine xs_iald eX0_swear_49 (by assumption) ((hl.resolve_left h36)) (by decide) ?_
      refine xs_aload eX0_swear_50 rfl ?_
      refine xs_getR eX0_swear_51 (by assumption) (by rfl) ?_
      refine xs_iload eX0_swear_54 rfl ?_
      refine xs_iald eX0_swear_55 (by assumption) (by omega) (by decide) ?_
      refine xs_iadd eX0_swear_56 ?_
      rw [e3, e3]
      refine xs_iast eX0_swear_57 (by assumption) ((hl.resolve_left h36)) (by decide) ?_
      refine xs_aload eX0_swear_58 rfl ?_
      refine xs_getR eX0_swear_59 (by assumption) (by rfl) ?_
      refine xs_iload eX0_swear_62 rfl ?_
      refine xs_K eX0_swear_63 ?_
      refine xs_iast eX0_swear_64 (by assumption) (by omega) (by decide) ?_
      exact K _ (by rw [up2_ne (by omega), up2_ne (by omega), up2_ne (by omega)]) (by simp [up2]) (by rw [if_pos ⟨(nI_eq (by omega) (by decide)).mp h31, h36⟩])
theorem c_X0_writeOxen (hc : isBk c) (hv : v < 7) (hQ : Q (some (.int (M (c + 1) v - M (c + 2) v))) SF (checkM M c v)) : xC G mX0_writeOxen d 0 0 [.ref (G.1 + c), .int (nI v)] SF M Q := by
  have h0 := bk0 hc
  have h1 := bk1 hc
  have h2 := bk2 hc
  refine xC_intro [some (.ref (G.1 + c)), some (.int (nI v)), none] rfl (by decide) (Nat.le_of_ble_eq_true rfl) ?_
  refine xs_aload eX0_writeOxen_0 rfl ?_
  refine xs_getR eX0_writeOxen_1 (by assumption) (by rfl) ?_
  refine xs_iload eX0_writeOxen_4 rfl ?_
  refine xs_iald eX0_writeOxen_5 (by assumption) (by omega) (by decide) ?_
  refine xs_aload eX0_writeOxen_6 rfl ?_
  refine xs_getR eX0_writeOxen_7 (by assumption) (by rfl) ?_
  refine xs_iload eX0_writeOxen_10 rfl ?_
  refine xs_iald eX0_writeOxen_11 (by assumption) (by omega) (by decide) ?_
  refine xs_isub eX0_writeOxen_12 ?_
  refine xs_istore eX0_writeOxen_13 (Nat.le_of_ble_eq_true rfl) rfl rfl ?_
  refine xs_aload eX0_writeOxen_14 rfl ?_
  refine xs_getR eX0_writeOxen_15 (by assumption) (by rfl) ?_
  refine xs_iload eX0_writeOxen_18 rfl ?_
  refine xs_aload eX0_writeOxen_19 rfl ?_
  refine xs_getR eX0_writeOxen_20 (by assumption) (by rfl) ?_
  refine xs_iload eX0_writeOxen_23 rfl ?_
  refine xs_iald eX0_writeOxen_24 (by assumption) (by omega) (by decide) ?_
  refine xs_iast eX0_writeOxen_25 (by assumption) (by omega) (by decide) ?_
  refine xs_aload eX0_writeOxen_26 rfl ?_
  refine xs_dup eX0_writeOxen_27 rfl ?_
  refine xs_getI eX0_writeOxen_28 (by assumption) (by rfl) ?_
  refine xs_eq1 (z := M c 6) (by rw [up2_ne (by omega)]) ?_
  refine xs_K eX0_writeOxen_31 ?_
  refine xs_iload eX0_writeOxen_32 rfl ?_
  refine xs_ishl eX0_writeOxen_33 ?_
  refine xs_ior eX0_writeOxen_34 ?_
  refine xs_putI eX0_writeOxen_35 (by assumption) (by rfl) rfl rfl ?_
  refine xs_iload eX0_writeOxen_38 rfl ?_
  exact xs_iretI eX0_writeOxen_39 rfl (hQ)
theorem c_X0_strikeOut (hc : isBk c) (hv : v < 7) (hQ : Q (some (.int (M (c + 2) v))) SF (strikeM M c v)) : xC G mX0_strikeOut d 0 0 [.ref (G.1 + c), .int (nI v)] SF M Q := by
  have h0 := bk0 hc
  have h2 := bk2 hc
  refine xC_intro [some (.ref (G.1 + c)), some (.int (nI v))] rfl (by decide) (Nat.le_of_ble_eq_true rfl) ?_
  refine xs_aload eX0_strikeOut_0 rfl ?_
  refine xs_dup eX0_strikeOut_1 rfl ?_
  refine xs_getI eX0_strikeOut_2 (by assumption) (by rfl) ?_
  refine xs_K eX0_strikeOut_5 ?_
  refine xs_iload eX0_strikeOut_6 rfl ?_
  refine xs_ishl eX0_strikeOut_7 ?_
  refine xs_K eX0_strikeOut_8 ?_
  refine xs_ixor eX0_strikeOut_9 ?_
  refine xs_iand eX0_strikeOut_10 ?_
  refine xs_putI eX0_strikeOut_11 (by assumption) (by rfl) rfl rfl ?_
  refine xs_aload eX0_strikeOut_14 rfl ?_
  refine xs_dup eX0_strikeOut_15 rfl ?_
  refine xs_getI eX0_strikeOut_16 (by assumption) (by rfl) ?_
  refine xs_eq1 (z := M c 6) (by simp [up2]) ?_
  refine xs_K eX0_strikeOut_19 ?_
  refine xs_iload eX0_strikeOut_20 rfl ?_
  refine xs_ishl eX0_strikeOut_21 ?_
  refine xs_K eX0_strikeOut_22 ?_
  refine xs_ixor eX0_strikeOut_23 ?_
  refine xs_iand eX0_strikeOut_24 ?_
  refine xs_putI eX0_strikeOut_25 (by assumption) (by rfl) rfl rfl ?_
  refine xs_aload eX0_strikeOut_28 rfl ?_
  refine xs_getR eX0_strikeOut_29 (by assumption) (by rfl) ?_
  refine xs_iload eX0_strikeOut_32 rfl ?_
  refine xs_iald eX0_strikeOut_33 (by assumption) (by omega) (by decide) ?_
  refine xs_eq1 (z := M (c + 2) v) (by rw [up2_ne (by omega), up2_ne (by omega)]) ?_
  exact xs_iretI eX0_strikeOut_34 rfl (hQ)
theorem c_X0_found (hc : isBk c) (hn : M 18 5 = nI nv) (h7 : nv ≤ 7) (hQ : Q (some (.int (foundF nv (M c 5) (M (c + 2))))) SF M) : xC G mX0_found d 0 0 [.ref (G.1 + c)] SF M Q := by
  have h0 := bk0 hc
  have h2 := bk2 hc
  have l0 := sh18
  refine xC_intro [some (.ref (G.1 + c)), none, none] rfl (by decide) (Nat.le_of_ble_eq_true rfl) ?_
  refine xs_K eX0_found_0 ?_
  refine xs_istore eX0_found_1 (Nat.le_of_ble_eq_true rfl) rfl rfl ?_
  refine xs_K eX0_found_2 ?_
  refine xs_istore eX0_found_3 (Nat.le_of_ble_eq_true rfl) rfl rfl ?_
  refine dn (P := fun i => xW G mX0_found d 0 0 Q 4 [some (.ref (G.1 + c)), some (.int (sumN (fun v => if bt (M c 5) v then M (c + 2) v else nI 0) i)), some (.int (nI i))] [] SF M) nv ?_ ?_ 0 (Nat.zero_le _)
  · refine xs_iload eX0_found_4 rfl ?_
    refine xs_aload eX0_found_5 rfl ?_
    refine xs_getR eX0_found_6 (by assumption) (by rfl) ?_
    refine xs_getI eX0_found_9 (by assumption) (by rfl) ?_
    refine xs_eq1 hn ?_
    refine xs_icmp_ge eX0_found_12 (fun h12 => ?_) (fun h => absurd (Int32.le_refl _) h)
    refine xs_iload eX0_found_45 rfl ?_
    exact xs_iretI eX0_found_46 rfl (hQ)
  · intro i hi ih
    refine xs_iload eX0_found_4 rfl ?_
    refine xs_aload eX0_found_5 rfl ?_
    refine xs_getR eX0_found_6 (by assumption) (by rfl) ?_
    refine xs_getI eX0_found_9 (by assumption) (by rfl) ?_
    refine xs_eq1 hn ?_
    refine xs_icmp_ge eX0_found_12 (fun h => absurd h (nI_ge hi (by omega))) (fun h12 => ?_)
    refine xs_iload eX0_found_15 rfl ?_
    refine xs_aload eX0_found_16 rfl ?_
    refine xs_getI eX0_found_17 (by assumption) (by rfl) ?_
    refine xs_iload eX0_found_20 rfl ?_
    refine xs_ishr eX0_found_21 ?_
    refine xs_K eX0_found_22 ?_
    refine xs_iand eX0_found_23 ?_
    refine xs_eq1 (bt_ask _ (by omega)) ?_
    refine xs_ifeqB eX0_found_24 (fun h24 => ?_) (fun h24 => ?_)
    · refine xs_K eX0_found_36 ?_
      refine xs_iadd eX0_found_37 ?_
      refine xs_istore eX0_found_38 (Nat.le_of_ble_eq_true rfl) rfl rfl ?_
      refine xs_inc1 eX0_found_39 rfl rfl rfl ?_
      refine xs_goto eX0_found_42 ?_
      simp only [sumN, h24, reduceIte, Bool.false_eq_true] at ih
      exact ih
    · refine xs_aload eX0_found_27 rfl ?_
      refine xs_getR eX0_found_28 (by assumption) (by rfl) ?_
      refine xs_iload eX0_found_31 rfl ?_
      refine xs_iald eX0_found_32 (by assumption) (by omega) (by decide) ?_
      refine xs_goto eX0_found_33 ?_
      refine xs_iadd eX0_found_37 ?_
      refine xs_istore eX0_found_38 (Nat.le_of_ble_eq_true rfl) rfl rfl ?_
      refine xs_inc1 eX0_found_39 rfl rfl rfl ?_
      refine xs_goto eX0_found_42 ?_
      simp only [sumN, h24, reduceIte, Bool.false_eq_true] at ih
      exact ih
theorem c_X0_allOxen (hc : isBk c) (hn : M 18 5 = nI nv) (h7 : nv ≤ 7) (hQ : Q (some (.int (sumN (M (c + 1)) nv))) SF M) : xC G mX0_allOxen d 0 0 [.ref (G.1 + c)] SF M Q := by
  have h0 := bk0 hc
  have h1 := bk1 hc
  have l0 := sh18
  refine xC_intro [some (.ref (G.1 + c)), none, none] rfl (by decide) (Nat.le_of_ble_eq_true rfl) ?_
  refine xs_K eX0_allOxen_0 ?_
  refine xs_istore eX0_allOxen_1 (Nat.le_of_ble_eq_true rfl) rfl rfl ?_
  refine xs_K eX0_allOxen_2 ?_
  refine xs_istore eX0_allOxen_3 (Nat.le_of_ble_eq_true rfl) rfl rfl ?_
  refine dn (P := fun i => xW G mX0_allOxen d 0 0 Q 4 [some (.ref (G.1 + c)), some (.int (sumN (M (c + 1)) i)), some (.int (nI i))] [] SF M) nv ?_ ?_ 0 (Nat.zero_le _)
  · refine xs_iload eX0_allOxen_4 rfl ?_
    refine xs_aload eX0_allOxen_5 rfl ?_
    refine xs_getR eX0_allOxen_6 (by assumption) (by rfl) ?_
    refine xs_getI eX0_allOxen_9 (by assumption) (by rfl) ?_
    refine xs_eq1 hn ?_
    refine xs_icmp_ge eX0_allOxen_12 (fun h12 => ?_) (fun h => absurd (Int32.le_refl _) h)
    refine xs_iload eX0_allOxen_30 rfl ?_
    exact xs_iretI eX0_allOxen_31 rfl (hQ)
  · intro i hi ih
    refine xs_iload eX0_allOxen_4 rfl ?_
    refine xs_aload eX0_allOxen_5 rfl ?_
    refine xs_getR eX0_allOxen_6 (by assumption) (by rfl) ?_
    refine xs_getI eX0_allOxen_9 (by assumption) (by rfl) ?_
    refine xs_eq1 hn ?_
    refine xs_icmp_ge eX0_allOxen_12 (fun h => absurd h (nI_ge hi (by omega))) (fun h12 => ?_)
    refine xs_iload eX0_allOxen_15 rfl ?_
    refine xs_aload eX0_allOxen_16 rfl ?_
    refine xs_getR eX0_allOxen_17 (by assumption) (by rfl) ?_
    refine xs_iload eX0_allOxen_20 rfl ?_
    refine xs_iald eX0_allOxen_21 (by assumption) (by omega) (by decide) ?_
    refine xs_iadd eX0_allOxen_22 ?_
    refine xs_istore eX0_allOxen_23 (Nat.le_of_ble_eq_true rfl) rfl rfl ?_
    refine xs_inc1 eX0_allOxen_24 rfl rfl rfl ?_
    refine xs_goto eX0_allOxen_27 ?_
    exact ih
theorem c_X0_mostDays (hc : isBk c) (hn : M 18 6 = nI np) (h7 : np ≤ 3) (hQ : Q (some (.int (maxN (M (c + 4)) np))) SF M) : xC G mX0_mostDays (d + 1) 0 0 [.ref (G.1 + c)] SF M Q := by
  have h0 := bk0 hc
  have h4 := bk4 hc
  have l0 := sh18
  refine xC_intro [some (.ref (G.1 + c)), none, none] rfl (by decide) (Nat.le_of_ble_eq_true rfl) ?_
  refine xs_K eX0_mostDays_0 ?_
  refine xs_istore eX0_mostDays_1 (Nat.le_of_ble_eq_true rfl) rfl rfl ?_
  refine xs_K eX0_mostDays_2 ?_
  refine xs_istore eX0_mostDays_3 (Nat.le_of_ble_eq_true rfl) rfl rfl ?_
  refine dn (P := fun i => xW G mX0_mostDays (d + 1) 0 0 Q 4 [some (.ref (G.1 + c)), some (.int (maxN (M (c + 4)) i)), some (.int (nI i))] [] SF M) np ?_ ?_ 0 (Nat.zero_le _)
  · refine xs_iload eX0_mostDays_4 rfl ?_
    refine xs_aload eX0_mostDays_5 rfl ?_
    refine xs_getR eX0_mostDays_6 (by assumption) (by rfl) ?_
    refine xs_getI eX0_mostDays_9 (by assumption) (by rfl) ?_
    refine xs_eq1 hn ?_
    refine xs_icmp_ge eX0_mostDays_12 (fun h12 => ?_) (fun h => absurd (Int32.le_refl _) h)
    refine xs_iload eX0_mostDays_32 rfl ?_
    exact xs_iretI eX0_mostDays_33 rfl (hQ)
  · intro i hi ih
    refine xs_iload eX0_mostDays_4 rfl ?_
    refine xs_aload eX0_mostDays_5 rfl ?_
    refine xs_getR eX0_mostDays_6 (by assumption) (by rfl) ?_
    refine xs_getI eX0_mostDays_9 (by assumption) (by rfl) ?_
    refine xs_eq1 hn ?_
    refine xs_icmp_ge eX0_mostDays_12 (fun h => absurd h (nI_ge hi (by omega))) (fun h12 => ?_)
    refine xs_iload eX0_mostDays_15 rfl ?_
    refine xs_aload eX0_mostDays_16 rfl ?_
    refine xs_getR eX0_mostDays_17 (by assumption) (by rfl) ?_
    refine xs_iload eX0_mostDays_20 rfl ?_
    refine xs_iald eX0_mostDays_21 (by assumption) (by omega) (by decide) ?_
    refine xs_max fX0_mostDays_22 (Nat.le_of_ble_eq_true rfl) ?_
    refine xs_istore eX0_mostDays_25 (Nat.le_of_ble_eq_true rfl) rfl rfl ?_
    refine xs_inc1 eX0_mostDays_26 rfl rfl rfl ?_
    refine xs_goto eX0_mostDays_29 ?_
    exact ih
theorem c_X0_gainOf {y : Int32} (hc : isBk c) (hn : M 18 5 = nI nv) (h7 : nv ≤ 7) (hQ : Q (some (.int (gainF nv y (M (c + 1)) (M (c + 2))))) SF M) : xC G mX0_gainOf d 0 0 [.ref (G.1 + c), .int y] SF M Q := by
  have h0 := bk0 hc
  have h1 := bk1 hc
  have h2 := bk2 hc
  have l0 := sh18
  refine xC_intro [some (.ref (G.1 + c)), some (.int y), none, none] rfl (by decide) (Nat.le_of_ble_eq_true rfl) ?_
  refine xs_K eX0_gainOf_0 ?_
  refine xs_istore eX0_gainOf_1 (Nat.le_of_ble_eq_true rfl) rfl rfl ?_
  refine xs_K eX0_gainOf_2 ?_
  refine xs_istore eX0_gainOf_3 (Nat.le_of_ble_eq_true rfl) rfl rfl ?_
  refine dn (P := fun i => xW G mX0_gainOf d 0 0 Q 4 [some (.ref (G.1 + c)), some (.int y), some (.int (sumN (fun v => if bt y v then M (c + 1) v - M (c + 2) v else nI 0) i)), some (.int (nI i))] [] SF M) nv ?_ ?_ 0 (Nat.zero_le _)
  · refine xs_iload eX0_gainOf_4 rfl ?_
    refine xs_aload eX0_gainOf_5 rfl ?_
    refine xs_getR eX0_gainOf_6 (by assumption) (by rfl) ?_
    refine xs_getI eX0_gainOf_9 (by assumption) (by rfl) ?_
    refine xs_eq1 hn ?_
    refine xs_icmp_ge eX0_gainOf_12 (fun h12 => ?_) (fun h => absurd (Int32.le_refl _) h)
    refine xs_iload eX0_gainOf_49 rfl ?_
    exact xs_iretI eX0_gainOf_50 rfl (hQ)
  · intro i hi ih
    refine xs_iload eX0_gainOf_4 rfl ?_
    refine xs_aload eX0_gainOf_5 rfl ?_
    refine xs_getR eX0_gainOf_6 (by assumption) (by rfl) ?_
    refine xs_getI eX0_gainOf_9 (by assumption) (by rfl) ?_
    refine xs_eq1 hn ?_
    refine xs_icmp_ge eX0_gainOf_12 (fun h => absurd h (nI_ge hi (by omega))) (fun h12 => ?_)
    refine xs_iload eX0_gainOf_15 rfl ?_
    refine xs_iload eX0_gainOf_16 rfl ?_
    refine xs_iload eX0_gainOf_17 rfl ?_
    refine xs_ishr eX0_gainOf_18 ?_
    refine xs_K eX0_gainOf_19 ?_
    refine xs_iand eX0_gainOf_20 ?_
    refine xs_eq1 (bt_ask _ (by omega)) ?_
    refine xs_ifeqB eX0_gainOf_21 (fun h21 => ?_) (fun h21 => ?_)
    · refine xs_K eX0_gainOf_40 ?_
      refine xs_iadd eX0_gainOf_41 ?_
      refine xs_istore eX0_gainOf_42 (Nat.le_of_ble_eq_true rfl) rfl rfl ?_
      refine xs_inc1 eX0_gainOf_43 rfl rfl rfl ?_
      refine xs_goto eX0_gainOf_46 ?_
      simp only [sumN, h21, reduceIte, Bool.false_eq_true] at ih
      exact ih
    · refine xs_aload eX0_gainOf_24 rfl ?_
      refine xs_getR eX0_gainOf_25 (by assumption) (by rfl) ?_
      refine xs_iload eX0_gainOf_28 rfl ?_
      refine xs_iald eX0_gainOf_29 (by assumption) (by omega) (by decide) ?_
      refine xs_aload eX0_gainOf_30 rfl ?_
      refine xs_getR eX0_gainOf_31 (by assumption) (by rfl) ?_
      refine xs_iload eX0_gainOf_34 rfl ?_
      refine xs_iald eX0_gainOf_35 (by assumption) (by omega) (by decide) ?_
      refine xs_isub eX0_gainOf_36 ?_
      refine xs_goto eX0_gainOf_37 ?_
      refine xs_iadd eX0_gainOf_41 ?_
      refine xs_istore eX0_gainOf_42 (Nat.le_of_ble_eq_true rfl) rfl rfl ?_
      refine xs_inc1 eX0_gainOf_43 rfl rfl rfl ?_
      refine xs_goto eX0_gainOf_46 ?_
      simp only [sumN, h21, reduceIte, Bool.false_eq_true] at ih
      exact ih
end BK
end
