section
-- ===== PART A: goes FIRST, ahead of the names: the tables' words, and 'selects' of the private methods out of them =====
/-- a private method of a class that the tables say can be made, by its rows of tables_1 -/
def lw_okq (q : MethodName × Nat) : Prop := (q.1.cls ≠ "java/lang/invoke/MethodHandle" ∧ q.1.cls ≠ "java/lang/invoke/VarHandle") ∧ Cond.instantiable q.1.cls q.2 ∈ tables_1 ∧ Cond.privateMethod q.1 ∈ tables_1 ∧ Cond.instanceMethod q.1 ∈ tables_1
theorem lw_p0 : lw_okq (⟨"NotAnOx", "layScroll", "()V"⟩, 12) := ⟨⟨by decide +kernel, by decide +kernel⟩, List.mem_of_getElem? (i := 21) (by decide +kernel), List.mem_of_getElem? (i := 330) (by decide +kernel), List.mem_of_getElem? (i := 331) (by decide +kernel)⟩
theorem lw_p1 : lw_okq (⟨"NotAnOx$Reader", "readItem", "(LNotAnOx$Scroll;LNotAnOx$Land;)Z"⟩, 2) := ⟨⟨by decide +kernel, by decide +kernel⟩, List.mem_of_getElem? (i := 45) (by decide +kernel), List.mem_of_getElem? (i := 346) (by decide +kernel), List.mem_of_getElem? (i := 347) (by decide +kernel)⟩
theorem lw_p2 : lw_okq (⟨"NotAnOx$Reader", "readNumbers", "(LNotAnOx$Scroll;I)Z"⟩, 2) := ⟨⟨by decide +kernel, by decide +kernel⟩, List.mem_of_getElem? (i := 45) (by decide +kernel), List.mem_of_getElem? (i := 354) (by decide +kernel), List.mem_of_getElem? (i := 355) (by decide +kernel)⟩
theorem lw_p3 : lw_okq (⟨"NotAnOx$Reader", "readNumber", "(LNotAnOx$Scroll;)I"⟩, 2) := ⟨⟨by decide +kernel, by decide +kernel⟩, List.mem_of_getElem? (i := 45) (by decide +kernel), List.mem_of_getElem? (i := 358) (by decide +kernel), List.mem_of_getElem? (i := 359) (by decide +kernel)⟩
theorem lw_p4 : lw_okq (⟨"NotAnOx$Land", "isTold", "(I)Z"⟩, 8) := ⟨⟨by decide +kernel, by decide +kernel⟩, List.mem_of_getElem? (i := 59) (by decide +kernel), List.mem_of_getElem? (i := 373) (by decide +kernel), List.mem_of_getElem? (i := 374) (by decide +kernel)⟩
theorem lw_p5 : lw_okq (⟨"NotAnOx", "isVillage", "(I)Z"⟩, 12) := ⟨⟨by decide +kernel, by decide +kernel⟩, List.mem_of_getElem? (i := 21) (by decide +kernel), List.mem_of_getElem? (i := 468) (by decide +kernel), List.mem_of_getElem? (i := 469) (by decide +kernel)⟩
theorem lw_p6 : lw_okq (⟨"NotAnOx", "isParty", "(I)Z"⟩, 12) := ⟨⟨by decide +kernel, by decide +kernel⟩, List.mem_of_getElem? (i := 21) (by decide +kernel), List.mem_of_getElem? (i := 491) (by decide +kernel), List.mem_of_getElem? (i := 492) (by decide +kernel)⟩
theorem lw_p7 : lw_okq (⟨"NotAnOx$Pile", "slotOf", "(I)I"⟩, 3) := ⟨⟨by decide +kernel, by decide +kernel⟩, List.mem_of_getElem? (i := 151) (by decide +kernel), List.mem_of_getElem? (i := 518) (by decide +kernel), List.mem_of_getElem? (i := 519) (by decide +kernel)⟩
theorem lw_p8 : lw_okq (⟨"NotAnOx$Sharing", "walkFrom", "(II[I)V"⟩, 6) := ⟨⟨by decide +kernel, by decide +kernel⟩, List.mem_of_getElem? (i := 188) (by decide +kernel), List.mem_of_getElem? (i := 591) (by decide +kernel), List.mem_of_getElem? (i := 592) (by decide +kernel)⟩
theorem lw_p9 : lw_okq (⟨"NotAnOx$Sharing", "walkTo", "(III)I"⟩, 6) := ⟨⟨by decide +kernel, by decide +kernel⟩, List.mem_of_getElem? (i := 188) (by decide +kernel), List.mem_of_getElem? (i := 596) (by decide +kernel), List.mem_of_getElem? (i := 597) (by decide +kernel)⟩
theorem lw_p10 : lw_okq (⟨"NotAnOx$Sharing", "shareOut", "(II)V"⟩, 6) := ⟨⟨by decide +kernel, by decide +kernel⟩, List.mem_of_getElem? (i := 188) (by decide +kernel), List.mem_of_getElem? (i := 601) (by decide +kernel), List.mem_of_getElem? (i := 602) (by decide +kernel)⟩
theorem lw_p11 : lw_okq (⟨"NotAnOx$Sharing", "daysOfShares", "(LNotAnOx$Book;)I"⟩, 6) := ⟨⟨by decide +kernel, by decide +kernel⟩, List.mem_of_getElem? (i := 188) (by decide +kernel), List.mem_of_getElem? (i := 606) (by decide +kernel), List.mem_of_getElem? (i := 607) (by decide +kernel)⟩
theorem lw_p12 : lw_okq (⟨"NotAnOx", "bestOrder", "(IZ)I"⟩, 12) := ⟨⟨by decide +kernel, by decide +kernel⟩, List.mem_of_getElem? (i := 21) (by decide +kernel), List.mem_of_getElem? (i := 622) (by decide +kernel), List.mem_of_getElem? (i := 623) (by decide +kernel)⟩
theorem lw_p13 : lw_okq (⟨"NotAnOx$Orders", "goOn", "(I)V"⟩, 8) := ⟨⟨by decide +kernel, by decide +kernel⟩, List.mem_of_getElem? (i := 215) (by decide +kernel), List.mem_of_getElem? (i := 633) (by decide +kernel), List.mem_of_getElem? (i := 634) (by decide +kernel)⟩
theorem lw_p14 : lw_okq (⟨"NotAnOx$Orders", "weighOrder", "(I)V"⟩, 8) := ⟨⟨by decide +kernel, by decide +kernel⟩, List.mem_of_getElem? (i := 215) (by decide +kernel), List.mem_of_getElem? (i := 641) (by decide +kernel), List.mem_of_getElem? (i := 642) (by decide +kernel)⟩
theorem lw_p15 : lw_okq (⟨"NotAnOx", "bestChecks", "(I)I"⟩, 12) := ⟨⟨by decide +kernel, by decide +kernel⟩, List.mem_of_getElem? (i := 21) (by decide +kernel), List.mem_of_getElem? (i := 656) (by decide +kernel), List.mem_of_getElem? (i := 657) (by decide +kernel)⟩
def lw_privs_1 : List (MethodName × Nat) := [(⟨"NotAnOx", "layScroll", "()V"⟩, 12), (⟨"NotAnOx$Reader", "readItem", "(LNotAnOx$Scroll;LNotAnOx$Land;)Z"⟩, 2), (⟨"NotAnOx$Reader", "readNumbers", "(LNotAnOx$Scroll;I)Z"⟩, 2), (⟨"NotAnOx$Reader", "readNumber", "(LNotAnOx$Scroll;)I"⟩, 2), (⟨"NotAnOx$Land", "isTold", "(I)Z"⟩, 8), (⟨"NotAnOx", "isVillage", "(I)Z"⟩, 12), (⟨"NotAnOx", "isParty", "(I)Z"⟩, 12), (⟨"NotAnOx$Pile", "slotOf", "(I)I"⟩, 3), (⟨"NotAnOx$Sharing", "walkFrom", "(II[I)V"⟩, 6), (⟨"NotAnOx$Sharing", "walkTo", "(III)I"⟩, 6), (⟨"NotAnOx$Sharing", "shareOut", "(II)V"⟩, 6), (⟨"NotAnOx$Sharing", "daysOfShares", "(LNotAnOx$Book;)I"⟩, 6), (⟨"NotAnOx", "bestOrder", "(IZ)I"⟩, 12), (⟨"NotAnOx$Orders", "goOn", "(I)V"⟩, 8), (⟨"NotAnOx$Orders", "weighOrder", "(I)V"⟩, 8), (⟨"NotAnOx", "bestChecks", "(I)I"⟩, 12)]
theorem lw_r1 : ∀ q ∈ lw_privs_1, lw_okq q := List.forall_mem_cons.mpr ⟨lw_p0, List.forall_mem_cons.mpr ⟨lw_p1, List.forall_mem_cons.mpr ⟨lw_p2, List.forall_mem_cons.mpr ⟨lw_p3, List.forall_mem_cons.mpr ⟨lw_p4, List.forall_mem_cons.mpr ⟨lw_p5, List.forall_mem_cons.mpr ⟨lw_p6, List.forall_mem_cons.mpr ⟨lw_p7, List.forall_mem_cons.mpr ⟨lw_p8, List.forall_mem_cons.mpr ⟨lw_p9, List.forall_mem_cons.mpr ⟨lw_p10, List.forall_mem_cons.mpr ⟨lw_p11, List.forall_mem_cons.mpr ⟨lw_p12, List.forall_mem_cons.mpr ⟨lw_p13, List.forall_mem_cons.mpr ⟨lw_p14, List.forall_mem_cons.mpr ⟨lw_p15, fun _ h => absurd h List.not_mem_nil⟩⟩⟩⟩⟩⟩⟩⟩⟩⟩⟩⟩⟩⟩⟩⟩
theorem lw_p16 : lw_okq (⟨"NotAnOx$Chance", "foundWith", "(LNotAnOx$Book;I)I"⟩, 4) := ⟨⟨by decide +kernel, by decide +kernel⟩, List.mem_of_getElem? (i := 250) (by decide +kernel), List.mem_of_getElem? (i := 715) (by decide +kernel), List.mem_of_getElem? (i := 716) (by decide +kernel)⟩
theorem lw_p17 : lw_okq (⟨"NotAnOx", "stepByDraw", "(I)V"⟩, 12) := ⟨⟨by decide +kernel, by decide +kernel⟩, List.mem_of_getElem? (i := 21) (by decide +kernel), List.mem_of_getElem? (i := 738) (by decide +kernel), List.mem_of_getElem? (i := 739) (by decide +kernel)⟩
theorem lw_p18 : lw_okq (⟨"NotAnOxModel", "lives", "(III)V"⟩, 26) := ⟨⟨by decide +kernel, by decide +kernel⟩, List.mem_of_getElem? (i := 765) (by decide +kernel), List.mem_of_getElem? (i := 771) (by decide +kernel), List.mem_of_getElem? (i := 772) (by decide +kernel)⟩
theorem lw_p19 : lw_okq (⟨"NotAnOxModel", "joins", "(III)V"⟩, 26) := ⟨⟨by decide +kernel, by decide +kernel⟩, List.mem_of_getElem? (i := 765) (by decide +kernel), List.mem_of_getElem? (i := 775) (by decide +kernel), List.mem_of_getElem? (i := 776) (by decide +kernel)⟩
theorem lw_p20 : lw_okq (⟨"NotAnOxModel", "begins", "(II)V"⟩, 26) := ⟨⟨by decide +kernel, by decide +kernel⟩, List.mem_of_getElem? (i := 765) (by decide +kernel), List.mem_of_getElem? (i := 779) (by decide +kernel), List.mem_of_getElem? (i := 780) (by decide +kernel)⟩
theorem lw_p21 : lw_okq (⟨"NotAnOxModel", "settles", "()V"⟩, 26) := ⟨⟨by decide +kernel, by decide +kernel⟩, List.mem_of_getElem? (i := 765) (by decide +kernel), List.mem_of_getElem? (i := 783) (by decide +kernel), List.mem_of_getElem? (i := 784) (by decide +kernel)⟩
theorem lw_p22 : lw_okq (⟨"NotAnOxModel", "reads", "()Z"⟩, 26) := ⟨⟨by decide +kernel, by decide +kernel⟩, List.mem_of_getElem? (i := 765) (by decide +kernel), List.mem_of_getElem? (i := 886) (by decide +kernel), List.mem_of_getElem? (i := 887) (by decide +kernel)⟩
theorem lw_p23 : lw_okq (⟨"NotAnOxModel", "next", "()I"⟩, 26) := ⟨⟨by decide +kernel, by decide +kernel⟩, List.mem_of_getElem? (i := 765) (by decide +kernel), List.mem_of_getElem? (i := 890) (by decide +kernel), List.mem_of_getElem? (i := 891) (by decide +kernel)⟩
theorem lw_p24 : lw_okq (⟨"NotAnOxModel", "item", "(I)V"⟩, 26) := ⟨⟨by decide +kernel, by decide +kernel⟩, List.mem_of_getElem? (i := 765) (by decide +kernel), List.mem_of_getElem? (i := 894) (by decide +kernel), List.mem_of_getElem? (i := 895) (by decide +kernel)⟩
theorem lw_p25 : lw_okq (⟨"NotAnOxModel", "number", "(II)I"⟩, 26) := ⟨⟨by decide +kernel, by decide +kernel⟩, List.mem_of_getElem? (i := 765) (by decide +kernel), List.mem_of_getElem? (i := 898) (by decide +kernel), List.mem_of_getElem? (i := 899) (by decide +kernel)⟩
theorem lw_p26 : lw_okq (⟨"NotAnOxModel", "more", "(II)I"⟩, 26) := ⟨⟨by decide +kernel, by decide +kernel⟩, List.mem_of_getElem? (i := 765) (by decide +kernel), List.mem_of_getElem? (i := 904) (by decide +kernel), List.mem_of_getElem? (i := 905) (by decide +kernel)⟩
theorem lw_p27 : lw_okq (⟨"NotAnOxModel", "copied", "(II)V"⟩, 26) := ⟨⟨by decide +kernel, by decide +kernel⟩, List.mem_of_getElem? (i := 765) (by decide +kernel), List.mem_of_getElem? (i := 912) (by decide +kernel), List.mem_of_getElem? (i := 913) (by decide +kernel)⟩
theorem lw_p28 : lw_okq (⟨"NotAnOxModel", "isVillage", "(I)Z"⟩, 26) := ⟨⟨by decide +kernel, by decide +kernel⟩, List.mem_of_getElem? (i := 765) (by decide +kernel), List.mem_of_getElem? (i := 920) (by decide +kernel), List.mem_of_getElem? (i := 921) (by decide +kernel)⟩
theorem lw_p29 : lw_okq (⟨"NotAnOxModel", "isIn", "(I)Z"⟩, 26) := ⟨⟨by decide +kernel, by decide +kernel⟩, List.mem_of_getElem? (i := 765) (by decide +kernel), List.mem_of_getElem? (i := 925) (by decide +kernel), List.mem_of_getElem? (i := 926) (by decide +kernel)⟩
theorem lw_p30 : lw_okq (⟨"NotAnOxModel", "sworn", "(III)I"⟩, 26) := ⟨⟨by decide +kernel, by decide +kernel⟩, List.mem_of_getElem? (i := 765) (by decide +kernel), List.mem_of_getElem? (i := 932) (by decide +kernel), List.mem_of_getElem? (i := 933) (by decide +kernel)⟩
theorem lw_p31 : lw_okq (⟨"NotAnOxModel", "lowest", "(II)I"⟩, 26) := ⟨⟨by decide +kernel, by decide +kernel⟩, List.mem_of_getElem? (i := 765) (by decide +kernel), List.mem_of_getElem? (i := 936) (by decide +kernel), List.mem_of_getElem? (i := 937) (by decide +kernel)⟩
def lw_privs_2 : List (MethodName × Nat) := [(⟨"NotAnOx$Chance", "foundWith", "(LNotAnOx$Book;I)I"⟩, 4), (⟨"NotAnOx", "stepByDraw", "(I)V"⟩, 12), (⟨"NotAnOxModel", "lives", "(III)V"⟩, 26), (⟨"NotAnOxModel", "joins", "(III)V"⟩, 26), (⟨"NotAnOxModel", "begins", "(II)V"⟩, 26), (⟨"NotAnOxModel", "settles", "()V"⟩, 26), (⟨"NotAnOxModel", "reads", "()Z"⟩, 26), (⟨"NotAnOxModel", "next", "()I"⟩, 26), (⟨"NotAnOxModel", "item", "(I)V"⟩, 26), (⟨"NotAnOxModel", "number", "(II)I"⟩, 26), (⟨"NotAnOxModel", "more", "(II)I"⟩, 26), (⟨"NotAnOxModel", "copied", "(II)V"⟩, 26), (⟨"NotAnOxModel", "isVillage", "(I)Z"⟩, 26), (⟨"NotAnOxModel", "isIn", "(I)Z"⟩, 26), (⟨"NotAnOxModel", "sworn", "(III)I"⟩, 26), (⟨"NotAnOxModel", "lowest", "(II)I"⟩, 26)]
theorem lw_r2 : ∀ q ∈ lw_privs_2, lw_okq q := List.forall_mem_cons.mpr ⟨lw_p16, List.forall_mem_cons.mpr ⟨lw_p17, List.forall_mem_cons.mpr ⟨lw_p18, List.forall_mem_cons.mpr ⟨lw_p19, List.forall_mem_cons.mpr ⟨lw_p20, List.forall_mem_cons.mpr ⟨lw_p21, List.forall_mem_cons.mpr ⟨lw_p22, List.forall_mem_cons.mpr ⟨lw_p23, List.forall_mem_cons.mpr ⟨lw_p24, List.forall_mem_cons.mpr ⟨lw_p25, List.forall_mem_cons.mpr ⟨lw_p26, List.forall_mem_cons.mpr ⟨lw_p27, List.forall_mem_cons.mpr ⟨lw_p28, List.forall_mem_cons.mpr ⟨lw_p29, List.forall_mem_cons.mpr ⟨lw_p30, List.forall_mem_cons.mpr ⟨lw_p31, fun _ h => absurd h List.not_mem_nil⟩⟩⟩⟩⟩⟩⟩⟩⟩⟩⟩⟩⟩⟩⟩⟩
theorem lw_p32 : lw_okq (⟨"NotAnOxModel", "besides", "(I)I"⟩, 26) := ⟨⟨by decide +kernel, by decide +kernel⟩, List.mem_of_getElem? (i := 765) (by decide +kernel), List.mem_of_getElem? (i := 940) (by decide +kernel), List.mem_of_getElem? (i := 941) (by decide +kernel)⟩
theorem lw_p33 : lw_okq (⟨"NotAnOxModel", "areNear", "(II)Z"⟩, 26) := ⟨⟨by decide +kernel, by decide +kernel⟩, List.mem_of_getElem? (i := 765) (by decide +kernel), List.mem_of_getElem? (i := 944) (by decide +kernel), List.mem_of_getElem? (i := 945) (by decide +kernel)⟩
theorem lw_p34 : lw_okq (⟨"NotAnOxModel", "isBesideHonest", "(II)Z"⟩, 26) := ⟨⟨by decide +kernel, by decide +kernel⟩, List.mem_of_getElem? (i := 765) (by decide +kernel), List.mem_of_getElem? (i := 948) (by decide +kernel), List.mem_of_getElem? (i := 949) (by decide +kernel)⟩
theorem lw_p35 : lw_okq (⟨"NotAnOxModel", "canAsk", "(III)Z"⟩, 26) := ⟨⟨by decide +kernel, by decide +kernel⟩, List.mem_of_getElem? (i := 765) (by decide +kernel), List.mem_of_getElem? (i := 964) (by decide +kernel), List.mem_of_getElem? (i := 965) (by decide +kernel)⟩
theorem lw_p36 : lw_okq (⟨"NotAnOxModel", "known", "()V"⟩, 26) := ⟨⟨by decide +kernel, by decide +kernel⟩, List.mem_of_getElem? (i := 765) (by decide +kernel), List.mem_of_getElem? (i := 968) (by decide +kernel), List.mem_of_getElem? (i := 969) (by decide +kernel)⟩
theorem lw_p37 : lw_okq (⟨"NotAnOxModel", "asks", "(III)I"⟩, 26) := ⟨⟨by decide +kernel, by decide +kernel⟩, List.mem_of_getElem? (i := 765) (by decide +kernel), List.mem_of_getElem? (i := 972) (by decide +kernel), List.mem_of_getElem? (i := 973) (by decide +kernel)⟩
theorem lw_p38 : lw_okq (⟨"NotAnOxModel", "writes", "(II)I"⟩, 26) := ⟨⟨by decide +kernel, by decide +kernel⟩, List.mem_of_getElem? (i := 765) (by decide +kernel), List.mem_of_getElem? (i := 976) (by decide +kernel), List.mem_of_getElem? (i := 977) (by decide +kernel)⟩
theorem lw_p39 : lw_okq (⟨"NotAnOxModel", "canCheck", "(II)Z"⟩, 26) := ⟨⟨by decide +kernel, by decide +kernel⟩, List.mem_of_getElem? (i := 765) (by decide +kernel), List.mem_of_getElem? (i := 984) (by decide +kernel), List.mem_of_getElem? (i := 985) (by decide +kernel)⟩
theorem lw_p40 : lw_okq (⟨"NotAnOxModel", "checked", "(II)V"⟩, 26) := ⟨⟨by decide +kernel, by decide +kernel⟩, List.mem_of_getElem? (i := 765) (by decide +kernel), List.mem_of_getElem? (i := 988) (by decide +kernel), List.mem_of_getElem? (i := 989) (by decide +kernel)⟩
theorem lw_p41 : lw_okq (⟨"NotAnOxModel", "struck", "(II)V"⟩, 26) := ⟨⟨by decide +kernel, by decide +kernel⟩, List.mem_of_getElem? (i := 765) (by decide +kernel), List.mem_of_getElem? (i := 996) (by decide +kernel), List.mem_of_getElem? (i := 997) (by decide +kernel)⟩
theorem lw_p42 : lw_okq (⟨"NotAnOxModel", "rest", "()I"⟩, 26) := ⟨⟨by decide +kernel, by decide +kernel⟩, List.mem_of_getElem? (i := 765) (by decide +kernel), List.mem_of_getElem? (i := 1009) (by decide +kernel), List.mem_of_getElem? (i := 1010) (by decide +kernel)⟩
theorem lw_p43 : lw_okq (⟨"NotAnOxModel", "routes", "(I)V"⟩, 26) := ⟨⟨by decide +kernel, by decide +kernel⟩, List.mem_of_getElem? (i := 765) (by decide +kernel), List.mem_of_getElem? (i := 1013) (by decide +kernel), List.mem_of_getElem? (i := 1014) (by decide +kernel)⟩
theorem lw_p44 : lw_okq (⟨"NotAnOxModel", "takes", "(I)I"⟩, 26) := ⟨⟨by decide +kernel, by decide +kernel⟩, List.mem_of_getElem? (i := 765) (by decide +kernel), List.mem_of_getElem? (i := 1018) (by decide +kernel), List.mem_of_getElem? (i := 1019) (by decide +kernel)⟩
theorem lw_p45 : lw_okq (⟨"NotAnOxModel", "askedBy", "(II)I"⟩, 26) := ⟨⟨by decide +kernel, by decide +kernel⟩, List.mem_of_getElem? (i := 765) (by decide +kernel), List.mem_of_getElem? (i := 1022) (by decide +kernel), List.mem_of_getElem? (i := 1023) (by decide +kernel)⟩
theorem lw_p46 : lw_okq (⟨"NotAnOxModel", "ordered", "(IZ)I"⟩, 26) := ⟨⟨by decide +kernel, by decide +kernel⟩, List.mem_of_getElem? (i := 765) (by decide +kernel), List.mem_of_getElem? (i := 1033) (by decide +kernel), List.mem_of_getElem? (i := 1034) (by decide +kernel)⟩
theorem lw_p47 : lw_okq (⟨"NotAnOxModel", "orders", "(Z)I"⟩, 26) := ⟨⟨by decide +kernel, by decide +kernel⟩, List.mem_of_getElem? (i := 765) (by decide +kernel), List.mem_of_getElem? (i := 1038) (by decide +kernel), List.mem_of_getElem? (i := 1039) (by decide +kernel)⟩
def lw_privs_3 : List (MethodName × Nat) := [(⟨"NotAnOxModel", "besides", "(I)I"⟩, 26), (⟨"NotAnOxModel", "areNear", "(II)Z"⟩, 26), (⟨"NotAnOxModel", "isBesideHonest", "(II)Z"⟩, 26), (⟨"NotAnOxModel", "canAsk", "(III)Z"⟩, 26), (⟨"NotAnOxModel", "known", "()V"⟩, 26), (⟨"NotAnOxModel", "asks", "(III)I"⟩, 26), (⟨"NotAnOxModel", "writes", "(II)I"⟩, 26), (⟨"NotAnOxModel", "canCheck", "(II)Z"⟩, 26), (⟨"NotAnOxModel", "checked", "(II)V"⟩, 26), (⟨"NotAnOxModel", "struck", "(II)V"⟩, 26), (⟨"NotAnOxModel", "rest", "()I"⟩, 26), (⟨"NotAnOxModel", "routes", "(I)V"⟩, 26), (⟨"NotAnOxModel", "takes", "(I)I"⟩, 26), (⟨"NotAnOxModel", "askedBy", "(II)I"⟩, 26), (⟨"NotAnOxModel", "ordered", "(IZ)I"⟩, 26), (⟨"NotAnOxModel", "orders", "(Z)I"⟩, 26)]
theorem lw_r3 : ∀ q ∈ lw_privs_3, lw_okq q := List.forall_mem_cons.mpr ⟨lw_p32, List.forall_mem_cons.mpr ⟨lw_p33, List.forall_mem_cons.mpr ⟨lw_p34, List.forall_mem_cons.mpr ⟨lw_p35, List.forall_mem_cons.mpr ⟨lw_p36, List.forall_mem_cons.mpr ⟨lw_p37, List.forall_mem_cons.mpr ⟨lw_p38, List.forall_mem_cons.mpr ⟨lw_p39, List.forall_mem_cons.mpr ⟨lw_p40, List.forall_mem_cons.mpr ⟨lw_p41, List.forall_mem_cons.mpr ⟨lw_p42, List.forall_mem_cons.mpr ⟨lw_p43, List.forall_mem_cons.mpr ⟨lw_p44, List.forall_mem_cons.mpr ⟨lw_p45, List.forall_mem_cons.mpr ⟨lw_p46, List.forall_mem_cons.mpr ⟨lw_p47, fun _ h => absurd h List.not_mem_nil⟩⟩⟩⟩⟩⟩⟩⟩⟩⟩⟩⟩⟩⟩⟩⟩
theorem lw_p48 : lw_okq (⟨"NotAnOxModel", "lists", "()V"⟩, 26) := ⟨⟨by decide +kernel, by decide +kernel⟩, List.mem_of_getElem? (i := 765) (by decide +kernel), List.mem_of_getElem? (i := 1042) (by decide +kernel), List.mem_of_getElem? (i := 1043) (by decide +kernel)⟩
theorem lw_p49 : lw_okq (⟨"NotAnOxModel", "found", "(I)I"⟩, 26) := ⟨⟨by decide +kernel, by decide +kernel⟩, List.mem_of_getElem? (i := 765) (by decide +kernel), List.mem_of_getElem? (i := 1046) (by decide +kernel), List.mem_of_getElem? (i := 1047) (by decide +kernel)⟩
theorem lw_p50 : lw_okq (⟨"NotAnOxModel", "goesOn", "()Z"⟩, 26) := ⟨⟨by decide +kernel, by decide +kernel⟩, List.mem_of_getElem? (i := 765) (by decide +kernel), List.mem_of_getElem? (i := 1050) (by decide +kernel), List.mem_of_getElem? (i := 1051) (by decide +kernel)⟩
theorem lw_p51 : lw_okq (⟨"NotAnOxModel", "swaps", "(II)V"⟩, 26) := ⟨⟨by decide +kernel, by decide +kernel⟩, List.mem_of_getElem? (i := 765) (by decide +kernel), List.mem_of_getElem? (i := 1054) (by decide +kernel), List.mem_of_getElem? (i := 1055) (by decide +kernel)⟩
theorem lw_p52 : lw_okq (⟨"NotAnOxModel", "mostDays", "(I)I"⟩, 26) := ⟨⟨by decide +kernel, by decide +kernel⟩, List.mem_of_getElem? (i := 765) (by decide +kernel), List.mem_of_getElem? (i := 1107) (by decide +kernel), List.mem_of_getElem? (i := 1108) (by decide +kernel)⟩
theorem lw_p53 : lw_okq (⟨"NotAnOxModel", "oxen", "()I"⟩, 26) := ⟨⟨by decide +kernel, by decide +kernel⟩, List.mem_of_getElem? (i := 765) (by decide +kernel), List.mem_of_getElem? (i := 1123) (by decide +kernel), List.mem_of_getElem? (i := 1124) (by decide +kernel)⟩
def lw_privs_4 : List (MethodName × Nat) := [(⟨"NotAnOxModel", "lists", "()V"⟩, 26), (⟨"NotAnOxModel", "found", "(I)I"⟩, 26), (⟨"NotAnOxModel", "goesOn", "()Z"⟩, 26), (⟨"NotAnOxModel", "swaps", "(II)V"⟩, 26), (⟨"NotAnOxModel", "mostDays", "(I)I"⟩, 26), (⟨"NotAnOxModel", "oxen", "()I"⟩, 26)]
theorem lw_r4 : ∀ q ∈ lw_privs_4, lw_okq q := List.forall_mem_cons.mpr ⟨lw_p48, List.forall_mem_cons.mpr ⟨lw_p49, List.forall_mem_cons.mpr ⟨lw_p50, List.forall_mem_cons.mpr ⟨lw_p51, List.forall_mem_cons.mpr ⟨lw_p52, List.forall_mem_cons.mpr ⟨lw_p53, fun _ h => absurd h List.not_mem_nil⟩⟩⟩⟩⟩⟩
def lw_privs : List (MethodName × Nat) := lw_privs_1 ++ (lw_privs_2 ++ (lw_privs_3 ++ (lw_privs_4)))
def lw_tbl : List Cond := k2_sels lw_privs ++ tables_1
theorem lw_privs_ok : ∀ q ∈ lw_privs, lw_okq q := by
  show ∀ q ∈ lw_privs_1 ++ (lw_privs_2 ++ (lw_privs_3 ++ (lw_privs_4))), lw_okq q
  exact List.forall_mem_append.mpr ⟨lw_r1, List.forall_mem_append.mpr ⟨lw_r2, List.forall_mem_append.mpr ⟨lw_r3, lw_r4⟩⟩⟩
end
section
/-! Names of the classes, fields and methods: picked by a program out of the printed names of this claim -/
def RX0 : String := "NotAnOx$Book"
def TX0 : u_T := fun k => match k with
  | 0 => ("NotAnOx$Book", "land", "LNotAnOx$Land;", true)
  | 1 => ("NotAnOx$Book", "oxen", "[I", true)
  | 2 => ("NotAnOx$Book", "written", "[I", true)
  | 3 => ("NotAnOx$Book", "place", "[I", true)
  | 4 => ("NotAnOx$Book", "days", "[I", true)
  | 5 => ("NotAnOx$Book", "inBook", "I", false)
  | _ => ("NotAnOx$Book", "checked", "I", false)
def tyX0 : Nat → FieldType := fun k => match k with
  | 0 => .object "NotAnOx$Land"
  | 1 => .array .int
  | 2 => .array .int
  | 3 => .array .int
  | 4 => .array .int
  | 5 => .int
  | _ => .int
theorem nmX0 : ∀ a, a < 7 → ∀ b, b < 7 → a ≠ b → (TX0 a).2.1 ≠ (TX0 b).2.1 := by decide +kernel
theorem tyX0_ok : ∀ k, k < 7 → parseFieldDescriptor (TX0 k).2.2.1 = some (tyX0 k) := by decide +kernel
abbrev cX0_init : ByteArray := prog_2_method_1_code
def yX0_init : MethodName := ⟨RX0, "<init>", "(LNotAnOx$Land;)V"⟩
abbrev cX0_open : ByteArray := prog_2_method_2_code
def yX0_open : MethodName := ⟨RX0, "open", "()V"⟩
abbrev cX0_copyFrom : ByteArray := prog_2_method_3_code
def yX0_copyFrom : MethodName := ⟨RX0, "copyFrom", "(LNotAnOx$Book;)V"⟩
abbrev cX0_copyEntries : ByteArray := prog_2_method_4_code
def yX0_copyEntries : MethodName := ⟨RX0, "copyEntries", "(LNotAnOx$Book;)V"⟩
abbrev cX0_holds : ByteArray := prog_2_method_5_code
def yX0_holds : MethodName := ⟨RX0, "holds", "(I)Z"⟩
abbrev cX0_isChecked : ByteArray := prog_2_method_6_code
def yX0_isChecked : MethodName := ⟨RX0, "isChecked", "(I)Z"⟩
abbrev cX0_canBeChecked : ByteArray := prog_2_method_7_code
def yX0_canBeChecked : MethodName := ⟨RX0, "canBeChecked", "(I)Z"⟩
abbrev cX0_canBeAsked : ByteArray := prog_2_method_8_code
def yX0_canBeAsked : MethodName := ⟨RX0, "canBeAsked", "(II)Z"⟩
abbrev cX0_rest : ByteArray := prog_2_method_9_code
def yX0_rest : MethodName := ⟨RX0, "rest", "()I"⟩
abbrev cX0_restSize : ByteArray := prog_2_method_10_code
def yX0_restSize : MethodName := ⟨RX0, "restSize", "()I"⟩
abbrev cX0_sworn : ByteArray := prog_2_method_11_code
def yX0_sworn : MethodName := ⟨RX0, "sworn", "(III)I"⟩
abbrev cX0_swear : ByteArray := prog_2_method_12_code
def yX0_swear : MethodName := ⟨RX0, "swear", "(III)I"⟩
abbrev cX0_askBy : ByteArray := prog_2_method_13_code
def yX0_askBy : MethodName := ⟨RX0, "askBy", "(II)I"⟩
abbrev cX0_writeOxen : ByteArray := prog_2_method_14_code
def yX0_writeOxen : MethodName := ⟨RX0, "writeOxen", "(I)I"⟩
abbrev cX0_strikeOut : ByteArray := prog_2_method_15_code
def yX0_strikeOut : MethodName := ⟨RX0, "strikeOut", "(I)I"⟩
abbrev cX0_found : ByteArray := prog_2_method_16_code
def yX0_found : MethodName := ⟨RX0, "found", "()I"⟩
abbrev cX0_allOxen : ByteArray := prog_2_method_17_code
def yX0_allOxen : MethodName := ⟨RX0, "allOxen", "()I"⟩
abbrev cX0_mostDays : ByteArray := prog_2_method_18_code
def yX0_mostDays : MethodName := ⟨RX0, "mostDays", "()I"⟩
abbrev cX0_gainOf : ByteArray := prog_2_method_19_code
def yX0_gainOf : MethodName := ⟨RX0, "gainOf", "(I)I"⟩
abbrev cX0_hasTwin : ByteArray := prog_2_method_20_code
def yX0_hasTwin : MethodName := ⟨RX0, "hasTwin", "(I)Z"⟩
def RX1 : String := "NotAnOx$Chance"
def TX1 : u_T := fun k => match k with
  | 0 => ("NotAnOx$Chance", "land", "LNotAnOx$Land;", true)
  | 1 => ("NotAnOx$Chance", "trial", "LNotAnOx$Book;", true)
  | 2 => ("NotAnOx$Chance", "above", "I", false)
  | _ => ("NotAnOx$Chance", "below", "I", false)
def tyX1 : Nat → FieldType := fun k => match k with
  | 0 => .object "NotAnOx$Land"
  | 1 => .object "NotAnOx$Book"
  | 2 => .int
  | _ => .int
theorem nmX1 : ∀ a, a < 4 → ∀ b, b < 4 → a ≠ b → (TX1 a).2.1 ≠ (TX1 b).2.1 := by decide +kernel
theorem tyX1_ok : ∀ k, k < 4 → parseFieldDescriptor (TX1 k).2.2.1 = some (tyX1 k) := by decide +kernel
abbrev cX1_init : ByteArray := prog_3_method_1_code
def yX1_init : MethodName := ⟨RX1, "<init>", "(LNotAnOx$Land;)V"⟩
abbrev cX1_weigh : ByteArray := prog_3_method_2_code
def yX1_weigh : MethodName := ⟨RX1, "weigh", "(LNotAnOx$Book;II)V"⟩
abbrev cX1_weightOf : ByteArray := prog_3_method_3_code
def yX1_weightOf : MethodName := ⟨RX1, "weightOf", "(III)I"⟩
abbrev cX1_foundWith : ByteArray := prog_3_method_4_code
def yX1_foundWith : MethodName := ⟨RX1, "foundWith", "(LNotAnOx$Book;I)I"⟩
abbrev cX1_commonDivisor : ByteArray := prog_3_method_5_code
def yX1_commonDivisor : MethodName := ⟨RX1, "commonDivisor", "(II)I"⟩
def RX2 : String := "NotAnOx$Land"
def TX2 : u_T := fun k => match k with
  | 0 => ("NotAnOx$Land", "kind", "[I", true)
  | 1 => ("NotAnOx$Land", "oxen", "[I", true)
  | 2 => ("NotAnOx$Land", "start", "[I", true)
  | 3 => ("NotAnOx$Land", "near", "[I", true)
  | 4 => ("NotAnOx$Land", "far", "[[I", true)
  | 5 => ("NotAnOx$Land", "villages", "I", false)
  | 6 => ("NotAnOx$Land", "parties", "I", false)
  | _ => ("NotAnOx$Land", "honestOnes", "I", false)
def tyX2 : Nat → FieldType := fun k => match k with
  | 0 => .array .int
  | 1 => .array .int
  | 2 => .array .int
  | 3 => .array .int
  | 4 => .array (.array .int)
  | 5 => .int
  | 6 => .int
  | _ => .int
theorem nmX2 : ∀ a, a < 8 → ∀ b, b < 8 → a ≠ b → (TX2 a).2.1 ≠ (TX2 b).2.1 := by decide +kernel
theorem tyX2_ok : ∀ k, k < 8 → parseFieldDescriptor (TX2 k).2.2.1 = some (tyX2 k) := by decide +kernel
abbrev cX2_init : ByteArray := prog_4_method_1_code
def yX2_init : MethodName := ⟨RX2, "<init>", "()V"⟩
abbrev cX2_clear : ByteArray := prog_4_method_2_code
def yX2_clear : MethodName := ⟨RX2, "clear", "()V"⟩
abbrev cX2_addVillage : ByteArray := prog_4_method_3_code
def yX2_addVillage : MethodName := ⟨RX2, "addVillage", "(II)Z"⟩
abbrev cX2_addWay : ByteArray := prog_4_method_4_code
def yX2_addWay : MethodName := ⟨RX2, "addWay", "(III)Z"⟩
abbrev cX2_addParty : ByteArray := prog_4_method_5_code
def yX2_addParty : MethodName := ⟨RX2, "addParty", "(I)Z"⟩
abbrev cX2_isTold : ByteArray := prog_4_method_6_code
def yX2_isTold : MethodName := ⟨RX2, "isTold", "(I)Z"⟩
abbrev cX2_measure : ByteArray := prog_4_method_7_code
def yX2_measure : MethodName := ⟨RX2, "measure", "()V"⟩
def RX3 : String := "NotAnOx$Orders"
def TX3 : u_T := fun k => match k with
  | 0 => ("NotAnOx$Orders", "land", "LNotAnOx$Land;", true)
  | 1 => ("NotAnOx$Orders", "levels", "[LNotAnOx$Book;", true)
  | 2 => ("NotAnOx$Orders", "order", "[I", true)
  | 3 => ("NotAnOx$Orders", "best", "[I", true)
  | 4 => ("NotAnOx$Orders", "upwards", "Z", false)
  | 5 => ("NotAnOx$Orders", "hasBest", "Z", false)
  | 6 => ("NotAnOx$Orders", "restSize", "I", false)
  | _ => ("NotAnOx$Orders", "bestFound", "I", false)
def tyX3 : Nat → FieldType := fun k => match k with
  | 0 => .object "NotAnOx$Land"
  | 1 => .array (.object "NotAnOx$Book")
  | 2 => .array .int
  | 3 => .array .int
  | 4 => .boolean
  | 5 => .boolean
  | 6 => .int
  | _ => .int
theorem nmX3 : ∀ a, a < 8 → ∀ b, b < 8 → a ≠ b → (TX3 a).2.1 ≠ (TX3 b).2.1 := by decide +kernel
theorem tyX3_ok : ∀ k, k < 8 → parseFieldDescriptor (TX3 k).2.2.1 = some (tyX3 k) := by decide +kernel
abbrev cX3_init : ByteArray := prog_5_method_1_code
def yX3_init : MethodName := ⟨RX3, "<init>", "(LNotAnOx$Land;)V"⟩
abbrev cX3_seek : ByteArray := prog_5_method_2_code
def yX3_seek : MethodName := ⟨RX3, "seek", "(LNotAnOx$Book;Z)V"⟩
abbrev cX3_goOn : ByteArray := prog_5_method_3_code
def yX3_goOn : MethodName := ⟨RX3, "goOn", "(I)V"⟩
abbrev cX3_weighOrder : ByteArray := prog_5_method_4_code
def yX3_weighOrder : MethodName := ⟨RX3, "weighOrder", "(I)V"⟩
def RX4 : String := "NotAnOx$Pile"
def TX4 : u_T := fun k => match k with
  | 0 => ("NotAnOx$Pile", "books", "[LNotAnOx$Book;", true)
  | 1 => ("NotAnOx$Pile", "oldest", "I", false)
  | _ => ("NotAnOx$Pile", "size", "I", false)
def tyX4 : Nat → FieldType := fun k => match k with
  | 0 => .array (.object "NotAnOx$Book")
  | 1 => .int
  | _ => .int
theorem nmX4 : ∀ a, a < 3 → ∀ b, b < 3 → a ≠ b → (TX4 a).2.1 ≠ (TX4 b).2.1 := by decide +kernel
theorem tyX4_ok : ∀ k, k < 3 → parseFieldDescriptor (TX4 k).2.2.1 = some (tyX4 k) := by decide +kernel
abbrev cX4_init : ByteArray := prog_6_method_1_code
def yX4_init : MethodName := ⟨RX4, "<init>", "(LNotAnOx$Land;I)V"⟩
abbrev cX4_isFull : ByteArray := prog_6_method_2_code
def yX4_isFull : MethodName := ⟨RX4, "isFull", "()Z"⟩
abbrev cX4_clear : ByteArray := prog_6_method_3_code
def yX4_clear : MethodName := ⟨RX4, "clear", "()V"⟩
abbrev cX4_push : ByteArray := prog_6_method_4_code
def yX4_push : MethodName := ⟨RX4, "push", "(LNotAnOx$Book;)V"⟩
abbrev cX4_popInto : ByteArray := prog_6_method_5_code
def yX4_popInto : MethodName := ⟨RX4, "popInto", "(LNotAnOx$Book;)V"⟩
abbrev cX4_slotOf : ByteArray := prog_6_method_6_code
def yX4_slotOf : MethodName := ⟨RX4, "slotOf", "(I)I"⟩
def RX5 : String := "NotAnOx$Reader"
def TX5 : u_T := fun k => match k with
  | 0 => ("NotAnOx$Reader", "numbers", "[I", true)
  | _ => ("NotAnOx$Reader", "place", "I", false)
def tyX5 : Nat → FieldType := fun k => match k with
  | 0 => .array .int
  | _ => .int
theorem nmX5 : ∀ a, a < 2 → ∀ b, b < 2 → a ≠ b → (TX5 a).2.1 ≠ (TX5 b).2.1 := by decide +kernel
theorem tyX5_ok : ∀ k, k < 2 → parseFieldDescriptor (TX5 k).2.2.1 = some (tyX5 k) := by decide +kernel
abbrev cX5_init : ByteArray := prog_7_method_1_code
def yX5_init : MethodName := ⟨RX5, "<init>", "()V"⟩
abbrev cX5_readAll : ByteArray := prog_7_method_2_code
def yX5_readAll : MethodName := ⟨RX5, "readAll", "(LNotAnOx$Scroll;LNotAnOx$Land;)I"⟩
abbrev cX5_readItem : ByteArray := prog_7_method_3_code
def yX5_readItem : MethodName := ⟨RX5, "readItem", "(LNotAnOx$Scroll;LNotAnOx$Land;)Z"⟩
abbrev cX5_readNumbers : ByteArray := prog_7_method_4_code
def yX5_readNumbers : MethodName := ⟨RX5, "readNumbers", "(LNotAnOx$Scroll;I)Z"⟩
abbrev cX5_readNumber : ByteArray := prog_7_method_5_code
def yX5_readNumber : MethodName := ⟨RX5, "readNumber", "(LNotAnOx$Scroll;)I"⟩
def RX6 : String := "NotAnOx$Scroll"
def TX6 : u_T := fun k => match k with
  | 0 => ("NotAnOx$Scroll", "letters", "[C", true)
  | _ => ("NotAnOx$Scroll", "size", "I", false)
def tyX6 : Nat → FieldType := fun k => match k with
  | 0 => .array .char
  | _ => .int
theorem nmX6 : ∀ a, a < 2 → ∀ b, b < 2 → a ≠ b → (TX6 a).2.1 ≠ (TX6 b).2.1 := by decide +kernel
theorem tyX6_ok : ∀ k, k < 2 → parseFieldDescriptor (TX6 k).2.2.1 = some (tyX6 k) := by decide +kernel
abbrev cX6_init : ByteArray := prog_8_method_1_code
def yX6_init : MethodName := ⟨RX6, "<init>", "()V"⟩
abbrev cX6_isFull : ByteArray := prog_8_method_2_code
def yX6_isFull : MethodName := ⟨RX6, "isFull", "()Z"⟩
abbrev cX6_add : ByteArray := prog_8_method_3_code
def yX6_add : MethodName := ⟨RX6, "add", "(C)V"⟩
abbrev cX6_clear : ByteArray := prog_8_method_4_code
def yX6_clear : MethodName := ⟨RX6, "clear", "()V"⟩
abbrev cX6_letterAt : ByteArray := prog_8_method_5_code
def yX6_letterAt : MethodName := ⟨RX6, "letterAt", "(I)C"⟩
def RX7 : String := "NotAnOx$Sharing"
def TX7 : u_T := fun k => match k with
  | 0 => ("NotAnOx$Sharing", "land", "LNotAnOx$Land;", true)
  | 1 => ("NotAnOx$Sharing", "walk", "[I", true)
  | 2 => ("NotAnOx$Sharing", "shortest", "[[I", true)
  | 3 => ("NotAnOx$Sharing", "share", "[I", true)
  | 4 => ("NotAnOx$Sharing", "bestShare", "[I", true)
  | _ => ("NotAnOx$Sharing", "fewest", "I", false)
def tyX7 : Nat → FieldType := fun k => match k with
  | 0 => .object "NotAnOx$Land"
  | 1 => .array .int
  | 2 => .array (.array .int)
  | 3 => .array .int
  | 4 => .array .int
  | _ => .int
theorem nmX7 : ∀ a, a < 6 → ∀ b, b < 6 → a ≠ b → (TX7 a).2.1 ≠ (TX7 b).2.1 := by decide +kernel
theorem tyX7_ok : ∀ k, k < 6 → parseFieldDescriptor (TX7 k).2.2.1 = some (tyX7 k) := by decide +kernel
abbrev cX7_init : ByteArray := prog_9_method_1_code
def yX7_init : MethodName := ⟨RX7, "<init>", "(LNotAnOx$Land;)V"⟩
abbrev cX7_seek : ByteArray := prog_9_method_2_code
def yX7_seek : MethodName := ⟨RX7, "seek", "(LNotAnOx$Book;)V"⟩
abbrev cX7_whoAsks : ByteArray := prog_9_method_3_code
def yX7_whoAsks : MethodName := ⟨RX7, "whoAsks", "(I)I"⟩
abbrev cX7_walkFrom : ByteArray := prog_9_method_4_code
def yX7_walkFrom : MethodName := ⟨RX7, "walkFrom", "(II[I)V"⟩
abbrev cX7_walkTo : ByteArray := prog_9_method_5_code
def yX7_walkTo : MethodName := ⟨RX7, "walkTo", "(III)I"⟩
abbrev cX7_shareOut : ByteArray := prog_9_method_6_code
def yX7_shareOut : MethodName := ⟨RX7, "shareOut", "(II)V"⟩
abbrev cX7_daysOfShares : ByteArray := prog_9_method_7_code
def yX7_daysOfShares : MethodName := ⟨RX7, "daysOfShares", "(LNotAnOx$Book;)I"⟩
def RX8 : String := "NotAnOx$Sightings"
def TX8 : u_T := fun k => match k with
  | 0 => ("NotAnOx$Sightings", "village", "[I", true)
  | 1 => ("NotAnOx$Sightings", "number", "[I", true)
  | _ => ("NotAnOx$Sightings", "size", "I", false)
def tyX8 : Nat → FieldType := fun k => match k with
  | 0 => .array .int
  | 1 => .array .int
  | _ => .int
theorem nmX8 : ∀ a, a < 3 → ∀ b, b < 3 → a ≠ b → (TX8 a).2.1 ≠ (TX8 b).2.1 := by decide +kernel
theorem tyX8_ok : ∀ k, k < 3 → parseFieldDescriptor (TX8 k).2.2.1 = some (tyX8 k) := by decide +kernel
abbrev cX8_init : ByteArray := prog_10_method_1_code
def yX8_init : MethodName := ⟨RX8, "<init>", "()V"⟩
abbrev cX8_isFull : ByteArray := prog_10_method_2_code
def yX8_isFull : MethodName := ⟨RX8, "isFull", "()Z"⟩
abbrev cX8_clear : ByteArray := prog_10_method_3_code
def yX8_clear : MethodName := ⟨RX8, "clear", "()V"⟩
abbrev cX8_add : ByteArray := prog_10_method_4_code
def yX8_add : MethodName := ⟨RX8, "add", "(II)V"⟩
abbrev cX8_fits : ByteArray := prog_10_method_5_code
def yX8_fits : MethodName := ⟨RX8, "fits", "(II)Z"⟩
def RX9 : String := "NotAnOx"
def TX9 : u_T := fun k => match k with
  | 0 => ("NotAnOx", "scroll", "LNotAnOx$Scroll;", true)
  | 1 => ("NotAnOx", "reader", "LNotAnOx$Reader;", true)
  | 2 => ("NotAnOx", "draft", "LNotAnOx$Land;", true)
  | 3 => ("NotAnOx", "land", "LNotAnOx$Land;", true)
  | 4 => ("NotAnOx", "now", "LNotAnOx$Book;", true)
  | 5 => ("NotAnOx", "trial", "LNotAnOx$Book;", true)
  | 6 => ("NotAnOx", "past", "LNotAnOx$Pile;", true)
  | 7 => ("NotAnOx", "kept", "LNotAnOx$Pile;", true)
  | 8 => ("NotAnOx", "seen", "LNotAnOx$Sightings;", true)
  | 9 => ("NotAnOx", "sharing", "LNotAnOx$Sharing;", true)
  | 10 => ("NotAnOx", "orders", "LNotAnOx$Orders;", true)
  | _ => ("NotAnOx", "chance", "LNotAnOx$Chance;", true)
def tyX9 : Nat → FieldType := fun k => match k with
  | 0 => .object "NotAnOx$Scroll"
  | 1 => .object "NotAnOx$Reader"
  | 2 => .object "NotAnOx$Land"
  | 3 => .object "NotAnOx$Land"
  | 4 => .object "NotAnOx$Book"
  | 5 => .object "NotAnOx$Book"
  | 6 => .object "NotAnOx$Pile"
  | 7 => .object "NotAnOx$Pile"
  | 8 => .object "NotAnOx$Sightings"
  | 9 => .object "NotAnOx$Sharing"
  | 10 => .object "NotAnOx$Orders"
  | _ => .object "NotAnOx$Chance"
theorem nmX9 : ∀ a, a < 12 → ∀ b, b < 12 → a ≠ b → (TX9 a).2.1 ≠ (TX9 b).2.1 := by decide +kernel
theorem tyX9_ok : ∀ k, k < 12 → parseFieldDescriptor (TX9 k).2.2.1 = some (tyX9 k) := by decide +kernel
abbrev cX9_init : ByteArray := prog_1_method_1_code
def yX9_init : MethodName := ⟨RX9, "<init>", "()V"⟩
abbrev cX9_write : ByteArray := prog_1_method_2_code
def yX9_write : MethodName := ⟨RX9, "write", "(I)I"⟩
abbrev cX9_wipe : ByteArray := prog_1_method_3_code
def yX9_wipe : MethodName := ⟨RX9, "wipe", "()I"⟩
abbrev cX9_fault : ByteArray := prog_1_method_4_code
def yX9_fault : MethodName := ⟨RX9, "fault", "()I"⟩
abbrev cX9_lay : ByteArray := prog_1_method_5_code
def yX9_lay : MethodName := ⟨RX9, "lay", "()I"⟩
abbrev cX9_village : ByteArray := prog_1_method_6_code
def yX9_village : MethodName := ⟨RX9, "village", "(II)I"⟩
abbrev cX9_party : ByteArray := prog_1_method_7_code
def yX9_party : MethodName := ⟨RX9, "party", "(II)I"⟩
abbrev cX9_far : ByteArray := prog_1_method_8_code
def yX9_far : MethodName := ⟨RX9, "far", "(II)I"⟩
abbrev cX9_ask : ByteArray := prog_1_method_9_code
def yX9_ask : MethodName := ⟨RX9, "ask", "(II)I"⟩
abbrev cX9_check : ByteArray := prog_1_method_10_code
def yX9_check : MethodName := ⟨RX9, "check", "(I)I"⟩
abbrev cX9_strike : ByteArray := prog_1_method_11_code
def yX9_strike : MethodName := ⟨RX9, "strike", "(I)I"⟩
abbrev cX9_undo : ByteArray := prog_1_method_12_code
def yX9_undo : MethodName := ⟨RX9, "undo", "()I"⟩
abbrev cX9_soonest : ByteArray := prog_1_method_13_code
def yX9_soonest : MethodName := ⟨RX9, "soonest", "(I)I"⟩
abbrev cX9_most : ByteArray := prog_1_method_14_code
def yX9_most : MethodName := ⟨RX9, "most", "(I)I"⟩
abbrev cX9_least : ByteArray := prog_1_method_15_code
def yX9_least : MethodName := ⟨RX9, "least", "(I)I"⟩
abbrev cX9_checks : ByteArray := prog_1_method_16_code
def yX9_checks : MethodName := ⟨RX9, "checks", "(II)I"⟩
abbrev cX9_see : ByteArray := prog_1_method_17_code
def yX9_see : MethodName := ⟨RX9, "see", "(II)I"⟩
abbrev cX9_forget : ByteArray := prog_1_method_18_code
def yX9_forget : MethodName := ⟨RX9, "forget", "()I"⟩
abbrev cX9_kinds : ByteArray := prog_1_method_19_code
def yX9_kinds : MethodName := ⟨RX9, "kinds", "(I)I"⟩
abbrev cX9_copies : ByteArray := prog_1_method_20_code
def yX9_copies : MethodName := ⟨RX9, "copies", "()I"⟩
abbrev cX9_agree : ByteArray := prog_1_method_21_code
def yX9_agree : MethodName := ⟨RX9, "agree", "(II)I"⟩
abbrev cX9_honest : ByteArray := prog_1_method_22_code
def yX9_honest : MethodName := ⟨RX9, "honest", "(III)I"⟩
abbrev cX9_shire : ByteArray := prog_1_method_23_code
def yX9_shire : MethodName := ⟨RX9, "shire", "(III)I"⟩
abbrev cX9_keep : ByteArray := prog_1_method_24_code
def yX9_keep : MethodName := ⟨RX9, "keep", "()I"⟩
abbrev cX9_back : ByteArray := prog_1_method_25_code
def yX9_back : MethodName := ⟨RX9, "back", "()I"⟩
abbrev cX9_count : ByteArray := prog_1_method_26_code
def yX9_count : MethodName := ⟨RX9, "count", "(I)I"⟩
abbrev cX9_isWithin : ByteArray := prog_1_method_27_code
def yX9_isWithin : MethodName := ⟨RX9, "isWithin", "(III)Z"⟩
abbrev cX9_lowestOf : ByteArray := prog_1_method_28_code
def yX9_lowestOf : MethodName := ⟨RX9, "lowestOf", "(I)I"⟩
abbrev cX9_isVillage : ByteArray := prog_1_method_29_code
def yX9_isVillage : MethodName := ⟨RX9, "isVillage", "(I)Z"⟩
abbrev cX9_isParty : ByteArray := prog_1_method_30_code
def yX9_isParty : MethodName := ⟨RX9, "isParty", "(I)Z"⟩
abbrev cX9_layScroll : ByteArray := prog_1_method_31_code
def yX9_layScroll : MethodName := ⟨RX9, "layScroll", "()V"⟩
abbrev cX9_bestOrder : ByteArray := prog_1_method_32_code
def yX9_bestOrder : MethodName := ⟨RX9, "bestOrder", "(IZ)I"⟩
abbrev cX9_bestChecks : ByteArray := prog_1_method_33_code
def yX9_bestChecks : MethodName := ⟨RX9, "bestChecks", "(I)I"⟩
abbrev cX9_drawOf : ByteArray := prog_1_method_34_code
def yX9_drawOf : MethodName := ⟨RX9, "drawOf", "(II)I"⟩
abbrev cX9_stepByDraw : ByteArray := prog_1_method_35_code
def yX9_stepByDraw : MethodName := ⟨RX9, "stepByDraw", "(I)V"⟩
def RX10 : String := "NotAnOxModel"
def TX10 : u_T := fun k => match k with
  | 0 => ("NotAnOxModel", "villages", "I", false)
  | 1 => ("NotAnOxModel", "sort", "[I", true)
  | 2 => ("NotAnOxModel", "parties", "I", false)
  | 3 => ("NotAnOxModel", "way", "[I", true)
  | 4 => ("NotAnOxModel", "far", "[I", true)
  | 5 => ("NotAnOxModel", "newVillages", "I", false)
  | 6 => ("NotAnOxModel", "newSort", "[I", true)
  | 7 => ("NotAnOxModel", "newParties", "I", false)
  | 8 => ("NotAnOxModel", "newWay", "[I", true)
  | 9 => ("NotAnOxModel", "slot", "[I", true)
  | 10 => ("NotAnOxModel", "acts", "I", false)
  | 11 => ("NotAnOxModel", "keeps", "I", false)
  | 12 => ("NotAnOxModel", "length", "I", false)
  | 13 => ("NotAnOxModel", "text", "[B", true)
  | 14 => ("NotAnOxModel", "at", "I", false)
  | 15 => ("NotAnOxModel", "begin", "I", false)
  | 16 => ("NotAnOxModel", "isWrong", "Z", false)
  | 17 => ("NotAnOxModel", "seens", "I", false)
  | 18 => ("NotAnOxModel", "sawWhere", "[I", true)
  | 19 => ("NotAnOxModel", "sawMany", "[I", true)
  | 20 => ("NotAnOxModel", "path", "[I", true)
  | 21 => ("NotAnOxModel", "route", "[I", true)
  | 22 => ("NotAnOxModel", "share", "I", false)
  | 23 => ("NotAnOxModel", "many", "I", false)
  | 24 => ("NotAnOxModel", "row", "[I", true)
  | _ => ("NotAnOxModel", "best", "[I", true)
def tyX10 : Nat → FieldType := fun k => match k with
  | 0 => .int
  | 1 => .array .int
  | 2 => .int
  | 3 => .array .int
  | 4 => .array .int
  | 5 => .int
  | 6 => .array .int
  | 7 => .int
  | 8 => .array .int
  | 9 => .array .int
  | 10 => .int
  | 11 => .int
  | 12 => .int
  | 13 => .array .byte
  | 14 => .int
  | 15 => .int
  | 16 => .boolean
  | 17 => .int
  | 18 => .array .int
  | 19 => .array .int
  | 20 => .array .int
  | 21 => .array .int
  | 22 => .int
  | 23 => .int
  | 24 => .array .int
  | _ => .array .int
theorem nmX10 : ∀ a, a < 26 → ∀ b, b < 26 → a ≠ b → (TX10 a).2.1 ≠ (TX10 b).2.1 := by decide +kernel
theorem tyX10_ok : ∀ k, k < 26 → parseFieldDescriptor (TX10 k).2.2.1 = some (tyX10 k) := by decide +kernel
abbrev cX10_init : ByteArray := prog_12_method_1_code
def yX10_init : MethodName := ⟨RX10, "<init>", "()V"⟩
abbrev cX10_in : ByteArray := prog_12_method_2_code
def yX10_in : MethodName := ⟨RX10, "in", "(JJJ)Z"⟩
abbrev cX10_has : ByteArray := prog_12_method_3_code
def yX10_has : MethodName := ⟨RX10, "has", "(II)Z"⟩
abbrev cX10_smaller : ByteArray := prog_12_method_4_code
def yX10_smaller : MethodName := ⟨RX10, "smaller", "(II)I"⟩
abbrev cX10_larger : ByteArray := prog_12_method_5_code
def yX10_larger : MethodName := ⟨RX10, "larger", "(II)I"⟩
abbrev cX10_lives : ByteArray := prog_12_method_6_code
def yX10_lives : MethodName := ⟨RX10, "lives", "(III)V"⟩
abbrev cX10_joins : ByteArray := prog_12_method_7_code
def yX10_joins : MethodName := ⟨RX10, "joins", "(III)V"⟩
abbrev cX10_begins : ByteArray := prog_12_method_8_code
def yX10_begins : MethodName := ⟨RX10, "begins", "(II)V"⟩
abbrev cX10_settles : ByteArray := prog_12_method_9_code
def yX10_settles : MethodName := ⟨RX10, "settles", "()V"⟩
abbrev cX10_copied : ByteArray := prog_12_method_10_code
def yX10_copied : MethodName := ⟨RX10, "copied", "(II)V"⟩
abbrev cX10_isVillage : ByteArray := prog_12_method_11_code
def yX10_isVillage : MethodName := ⟨RX10, "isVillage", "(I)Z"⟩
abbrev cX10_write : ByteArray := prog_12_method_12_code
def yX10_write : MethodName := ⟨RX10, "write", "(I)I"⟩
abbrev cX10_wipe : ByteArray := prog_12_method_13_code
def yX10_wipe : MethodName := ⟨RX10, "wipe", "()I"⟩
abbrev cX10_next : ByteArray := prog_12_method_14_code
def yX10_next : MethodName := ⟨RX10, "next", "()I"⟩
abbrev cX10_number : ByteArray := prog_12_method_15_code
def yX10_number : MethodName := ⟨RX10, "number", "(II)I"⟩
abbrev cX10_more : ByteArray := prog_12_method_16_code
def yX10_more : MethodName := ⟨RX10, "more", "(II)I"⟩
abbrev cX10_item : ByteArray := prog_12_method_17_code
def yX10_item : MethodName := ⟨RX10, "item", "(I)V"⟩
abbrev cX10_reads : ByteArray := prog_12_method_18_code
def yX10_reads : MethodName := ⟨RX10, "reads", "()Z"⟩
abbrev cX10_fault : ByteArray := prog_12_method_19_code
def yX10_fault : MethodName := ⟨RX10, "fault", "()I"⟩
abbrev cX10_lay : ByteArray := prog_12_method_20_code
def yX10_lay : MethodName := ⟨RX10, "lay", "()I"⟩
abbrev cX10_areNear : ByteArray := prog_12_method_21_code
def yX10_areNear : MethodName := ⟨RX10, "areNear", "(II)Z"⟩
abbrev cX10_besides : ByteArray := prog_12_method_22_code
def yX10_besides : MethodName := ⟨RX10, "besides", "(I)I"⟩
abbrev cX10_lowest : ByteArray := prog_12_method_23_code
def yX10_lowest : MethodName := ⟨RX10, "lowest", "(II)I"⟩
abbrev cX10_isBesideHonest : ByteArray := prog_12_method_24_code
def yX10_isBesideHonest : MethodName := ⟨RX10, "isBesideHonest", "(II)Z"⟩
abbrev cX10_sworn : ByteArray := prog_12_method_25_code
def yX10_sworn : MethodName := ⟨RX10, "sworn", "(III)I"⟩
abbrev cX10_writes : ByteArray := prog_12_method_26_code
def yX10_writes : MethodName := ⟨RX10, "writes", "(II)I"⟩
abbrev cX10_found : ByteArray := prog_12_method_27_code
def yX10_found : MethodName := ⟨RX10, "found", "(I)I"⟩
abbrev cX10_isIn : ByteArray := prog_12_method_28_code
def yX10_isIn : MethodName := ⟨RX10, "isIn", "(I)Z"⟩
abbrev cX10_village : ByteArray := prog_12_method_29_code
def yX10_village : MethodName := ⟨RX10, "village", "(II)I"⟩
abbrev cX10_party : ByteArray := prog_12_method_30_code
def yX10_party : MethodName := ⟨RX10, "party", "(II)I"⟩
abbrev cX10_far : ByteArray := prog_12_method_31_code
def yX10_far : MethodName := ⟨RX10, "far", "(II)I"⟩
abbrev cX10_known : ByteArray := prog_12_method_32_code
def yX10_known : MethodName := ⟨RX10, "known", "()V"⟩
abbrev cX10_canAsk : ByteArray := prog_12_method_33_code
def yX10_canAsk : MethodName := ⟨RX10, "canAsk", "(III)Z"⟩
abbrev cX10_asks : ByteArray := prog_12_method_34_code
def yX10_asks : MethodName := ⟨RX10, "asks", "(III)I"⟩
abbrev cX10_ask : ByteArray := prog_12_method_35_code
def yX10_ask : MethodName := ⟨RX10, "ask", "(II)I"⟩
abbrev cX10_canCheck : ByteArray := prog_12_method_36_code
def yX10_canCheck : MethodName := ⟨RX10, "canCheck", "(II)Z"⟩
abbrev cX10_checked : ByteArray := prog_12_method_37_code
def yX10_checked : MethodName := ⟨RX10, "checked", "(II)V"⟩
abbrev cX10_check : ByteArray := prog_12_method_38_code
def yX10_check : MethodName := ⟨RX10, "check", "(I)I"⟩
abbrev cX10_struck : ByteArray := prog_12_method_39_code
def yX10_struck : MethodName := ⟨RX10, "struck", "(II)V"⟩
abbrev cX10_strike : ByteArray := prog_12_method_40_code
def yX10_strike : MethodName := ⟨RX10, "strike", "(I)I"⟩
abbrev cX10_undo : ByteArray := prog_12_method_41_code
def yX10_undo : MethodName := ⟨RX10, "undo", "()I"⟩
abbrev cX10_rest : ByteArray := prog_12_method_42_code
def yX10_rest : MethodName := ⟨RX10, "rest", "()I"⟩
abbrev cX10_routes : ByteArray := prog_12_method_43_code
def yX10_routes : MethodName := ⟨RX10, "routes", "(I)V"⟩
abbrev cX10_askedBy : ByteArray := prog_12_method_44_code
def yX10_askedBy : MethodName := ⟨RX10, "askedBy", "(II)I"⟩
abbrev cX10_takes : ByteArray := prog_12_method_45_code
def yX10_takes : MethodName := ⟨RX10, "takes", "(I)I"⟩
abbrev cX10_soonest : ByteArray := prog_12_method_46_code
def yX10_soonest : MethodName := ⟨RX10, "soonest", "(I)I"⟩
abbrev cX10_lists : ByteArray := prog_12_method_47_code
def yX10_lists : MethodName := ⟨RX10, "lists", "()V"⟩
abbrev cX10_swaps : ByteArray := prog_12_method_48_code
def yX10_swaps : MethodName := ⟨RX10, "swaps", "(II)V"⟩
abbrev cX10_goesOn : ByteArray := prog_12_method_49_code
def yX10_goesOn : MethodName := ⟨RX10, "goesOn", "()Z"⟩
abbrev cX10_orders : ByteArray := prog_12_method_50_code
def yX10_orders : MethodName := ⟨RX10, "orders", "(Z)I"⟩
abbrev cX10_ordered : ByteArray := prog_12_method_51_code
def yX10_ordered : MethodName := ⟨RX10, "ordered", "(IZ)I"⟩
abbrev cX10_most : ByteArray := prog_12_method_52_code
def yX10_most : MethodName := ⟨RX10, "most", "(I)I"⟩
abbrev cX10_least : ByteArray := prog_12_method_53_code
def yX10_least : MethodName := ⟨RX10, "least", "(I)I"⟩
abbrev cX10_bits : ByteArray := prog_12_method_54_code
def yX10_bits : MethodName := ⟨RX10, "bits", "(I)I"⟩
abbrev cX10_checks : ByteArray := prog_12_method_55_code
def yX10_checks : MethodName := ⟨RX10, "checks", "(II)I"⟩
abbrev cX10_see : ByteArray := prog_12_method_56_code
def yX10_see : MethodName := ⟨RX10, "see", "(II)I"⟩
abbrev cX10_forget : ByteArray := prog_12_method_57_code
def yX10_forget : MethodName := ⟨RX10, "forget", "()I"⟩
abbrev cX10_kinds : ByteArray := prog_12_method_58_code
def yX10_kinds : MethodName := ⟨RX10, "kinds", "(I)I"⟩
abbrev cX10_copies : ByteArray := prog_12_method_59_code
def yX10_copies : MethodName := ⟨RX10, "copies", "()I"⟩
abbrev cX10_agree : ByteArray := prog_12_method_60_code
def yX10_agree : MethodName := ⟨RX10, "agree", "(II)I"⟩
abbrev cX10_honest : ByteArray := prog_12_method_61_code
def yX10_honest : MethodName := ⟨RX10, "honest", "(III)I"⟩
abbrev cX10_mostDays : ByteArray := prog_12_method_62_code
def yX10_mostDays : MethodName := ⟨RX10, "mostDays", "(I)I"⟩
abbrev cX10_shire : ByteArray := prog_12_method_63_code
def yX10_shire : MethodName := ⟨RX10, "shire", "(III)I"⟩
abbrev cX10_keep : ByteArray := prog_12_method_64_code
def yX10_keep : MethodName := ⟨RX10, "keep", "()I"⟩
abbrev cX10_back : ByteArray := prog_12_method_65_code
def yX10_back : MethodName := ⟨RX10, "back", "()I"⟩
abbrev cX10_oxen : ByteArray := prog_12_method_66_code
def yX10_oxen : MethodName := ⟨RX10, "oxen", "()I"⟩
abbrev cX10_count : ByteArray := prog_12_method_67_code
def yX10_count : MethodName := ⟨RX10, "count", "(I)I"⟩
def RJ6 : String := "java/lang/Integer"
abbrev cJ6_bitCount_0f7a4 : ByteArray := prog_13_method_49_code
def yJ6_bitCount_0f7a4 : MethodName := ⟨RJ6, "bitCount", "(I)I"⟩
def RJ9 : String := "java/lang/Math"
abbrev cJ9_max_7cf53 : ByteArray := prog_14_method_65_code
def yJ9_max_7cf53 : MethodName := ⟨RJ9, "max", "(II)I"⟩
abbrev cJ9_min_7cf53 : ByteArray := prog_14_method_69_code
def yJ9_min_7cf53 : MethodName := ⟨RJ9, "min", "(II)I"⟩
def RJ0 : String := "java/lang/String"
abbrev cJ0_length_8abf5 : ByteArray := prog_15_method_54_code
def yJ0_length_8abf5 : MethodName := ⟨RJ0, "length", "()I"⟩
abbrev cJ0_charAt_5068e : ByteArray := prog_15_method_56_code
def yJ0_charAt_5068e : MethodName := ⟨RJ0, "charAt", "(I)C"⟩
abbrev cJ0_coder_7d493 : ByteArray := prog_15_method_152_code
def yJ0_coder_7d493 : MethodName := ⟨RJ0, "coder", "()B"⟩
abbrev cJ0_isLatin1_aae02 : ByteArray := prog_15_method_154_code
def yJ0_isLatin1_aae02 : MethodName := ⟨RJ0, "isLatin1", "()Z"⟩
abbrev cJ0_checkIndex_df160 : ByteArray := prog_15_method_155_code
def yJ0_checkIndex_df160 : MethodName := ⟨RJ0, "checkIndex", "(II)V"⟩
def RJ1 : String := "java/lang/StringLatin1"
abbrev cJ1_charAt_3b067 : ByteArray := prog_16_method_2_code
def yJ1_charAt_3b067 : MethodName := ⟨RJ1, "charAt", "([BI)C"⟩
def RJ7 : String := "java/util/Arrays"
abbrev cJ7_fill_53178 : ByteArray := prog_19_method_103_code
def yJ7_fill_53178 : MethodName := ⟨RJ7, "fill", "([II)V"⟩
def RJ3 : String := "jdk/internal/util/Preconditions"
abbrev cJ3_checkIndex_8e157 : ByteArray := prog_20_method_11_code
def yJ3_checkIndex_8e157 : MethodName := ⟨RJ3, "checkIndex", "(IILjava/util/function/BiFunction;)I"⟩
abbrev vwCl : List vw_C := [(RX0, TX0, 7), (RX1, TX1, 4), (RX2, TX2, 8), (RX3, TX3, 8), (RX4, TX4, 3), (RX5, TX5, 2), (RX6, TX6, 2), (RX7, TX7, 6), (RX8, TX8, 3), (RX9, TX9, 12), (RX10, TX10, 26)]
abbrev xM : Type := MethodName × ByteArray × Nat × Option FieldType
def mX0_init : xM := (yX0_init, cX0_init, 2, none)
def mX0_open : xM := (yX0_open, cX0_open, 1, none)
def mX0_copyFrom : xM := (yX0_copyFrom, cX0_copyFrom, 2, none)
def mX0_copyEntries : xM := (yX0_copyEntries, cX0_copyEntries, 2, none)
def mX0_holds : xM := (yX0_holds, cX0_holds, 2, some (.boolean))
def mX0_isChecked : xM := (yX0_isChecked, cX0_isChecked, 2, some (.boolean))
def mX0_canBeChecked : xM := (yX0_canBeChecked, cX0_canBeChecked, 2, some (.boolean))
def mX0_canBeAsked : xM := (yX0_canBeAsked, cX0_canBeAsked, 3, some (.boolean))
def mX0_rest : xM := (yX0_rest, cX0_rest, 1, some (.int))
def mX0_restSize : xM := (yX0_restSize, cX0_restSize, 1, some (.int))
def mX0_sworn : xM := (yX0_sworn, cX0_sworn, 6, some (.int))
def mX0_swear : xM := (yX0_swear, cX0_swear, 5, some (.int))
def mX0_askBy : xM := (yX0_askBy, cX0_askBy, 3, some (.int))
def mX0_writeOxen : xM := (yX0_writeOxen, cX0_writeOxen, 3, some (.int))
def mX0_strikeOut : xM := (yX0_strikeOut, cX0_strikeOut, 2, some (.int))
def mX0_found : xM := (yX0_found, cX0_found, 3, some (.int))
def mX0_allOxen : xM := (yX0_allOxen, cX0_allOxen, 3, some (.int))
def mX0_mostDays : xM := (yX0_mostDays, cX0_mostDays, 3, some (.int))
def mX0_gainOf : xM := (yX0_gainOf, cX0_gainOf, 4, some (.int))
def mX0_hasTwin : xM := (yX0_hasTwin, cX0_hasTwin, 4, some (.boolean))
def mX1_init : xM := (yX1_init, cX1_init, 2, none)
def mX1_weigh : xM := (yX1_weigh, cX1_weigh, 6, none)
def mX1_weightOf : xM := (yX1_weightOf, cX1_weightOf, 5, some (.int))
def mX1_foundWith : xM := (yX1_foundWith, cX1_foundWith, 5, some (.int))
def mX1_commonDivisor : xM := (yX1_commonDivisor, cX1_commonDivisor, 6, some (.int))
def mX2_init : xM := (yX2_init, cX2_init, 1, none)
def mX2_clear : xM := (yX2_clear, cX2_clear, 3, none)
def mX2_addVillage : xM := (yX2_addVillage, cX2_addVillage, 3, some (.boolean))
def mX2_addWay : xM := (yX2_addWay, cX2_addWay, 4, some (.boolean))
def mX2_addParty : xM := (yX2_addParty, cX2_addParty, 2, some (.boolean))
def mX2_isTold : xM := (yX2_isTold, cX2_isTold, 2, some (.boolean))
def mX2_measure : xM := (yX2_measure, cX2_measure, 4, none)
def mX3_init : xM := (yX3_init, cX3_init, 3, none)
def mX3_seek : xM := (yX3_seek, cX3_seek, 3, none)
def mX3_goOn : xM := (yX3_goOn, cX3_goOn, 6, none)
def mX3_weighOrder : xM := (yX3_weighOrder, cX3_weighOrder, 2, none)
def mX4_init : xM := (yX4_init, cX4_init, 4, none)
def mX4_isFull : xM := (yX4_isFull, cX4_isFull, 1, some (.boolean))
def mX4_clear : xM := (yX4_clear, cX4_clear, 1, none)
def mX4_push : xM := (yX4_push, cX4_push, 2, none)
def mX4_popInto : xM := (yX4_popInto, cX4_popInto, 2, none)
def mX4_slotOf : xM := (yX4_slotOf, cX4_slotOf, 3, some (.int))
def mX5_init : xM := (yX5_init, cX5_init, 1, none)
def mX5_readAll : xM := (yX5_readAll, cX5_readAll, 5, some (.int))
def mX5_readItem : xM := (yX5_readItem, cX5_readItem, 4, some (.boolean))
def mX5_readNumbers : xM := (yX5_readNumbers, cX5_readNumbers, 5, some (.boolean))
def mX5_readNumber : xM := (yX5_readNumber, cX5_readNumber, 5, some (.int))
def mX6_init : xM := (yX6_init, cX6_init, 1, none)
def mX6_isFull : xM := (yX6_isFull, cX6_isFull, 1, some (.boolean))
def mX6_add : xM := (yX6_add, cX6_add, 2, none)
def mX6_clear : xM := (yX6_clear, cX6_clear, 1, none)
def mX6_letterAt : xM := (yX6_letterAt, cX6_letterAt, 2, some (.char))
def mX7_init : xM := (yX7_init, cX7_init, 2, none)
def mX7_seek : xM := (yX7_seek, cX7_seek, 6, none)
def mX7_whoAsks : xM := (yX7_whoAsks, cX7_whoAsks, 3, some (.int))
def mX7_walkFrom : xM := (yX7_walkFrom, cX7_walkFrom, 7, none)
def mX7_walkTo : xM := (yX7_walkTo, cX7_walkTo, 7, some (.int))
def mX7_shareOut : xM := (yX7_shareOut, cX7_shareOut, 5, none)
def mX7_daysOfShares : xM := (yX7_daysOfShares, cX7_daysOfShares, 5, some (.int))
def mX8_init : xM := (yX8_init, cX8_init, 1, none)
def mX8_isFull : xM := (yX8_isFull, cX8_isFull, 1, some (.boolean))
def mX8_clear : xM := (yX8_clear, cX8_clear, 1, none)
def mX8_add : xM := (yX8_add, cX8_add, 3, none)
def mX8_fits : xM := (yX8_fits, cX8_fits, 4, some (.boolean))
def mX9_init : xM := (yX9_init, cX9_init, 2, none)
def mX9_write : xM := (yX9_write, cX9_write, 2, some (.int))
def mX9_wipe : xM := (yX9_wipe, cX9_wipe, 2, some (.int))
def mX9_fault : xM := (yX9_fault, cX9_fault, 1, some (.int))
def mX9_lay : xM := (yX9_lay, cX9_lay, 1, some (.int))
def mX9_village : xM := (yX9_village, cX9_village, 3, some (.int))
def mX9_party : xM := (yX9_party, cX9_party, 3, some (.int))
def mX9_far : xM := (yX9_far, cX9_far, 3, some (.int))
def mX9_ask : xM := (yX9_ask, cX9_ask, 3, some (.int))
def mX9_check : xM := (yX9_check, cX9_check, 2, some (.int))
def mX9_strike : xM := (yX9_strike, cX9_strike, 2, some (.int))
def mX9_undo : xM := (yX9_undo, cX9_undo, 1, some (.int))
def mX9_soonest : xM := (yX9_soonest, cX9_soonest, 2, some (.int))
def mX9_most : xM := (yX9_most, cX9_most, 2, some (.int))
def mX9_least : xM := (yX9_least, cX9_least, 2, some (.int))
def mX9_checks : xM := (yX9_checks, cX9_checks, 4, some (.int))
def mX9_see : xM := (yX9_see, cX9_see, 3, some (.int))
def mX9_forget : xM := (yX9_forget, cX9_forget, 2, some (.int))
def mX9_kinds : xM := (yX9_kinds, cX9_kinds, 4, some (.int))
def mX9_copies : xM := (yX9_copies, cX9_copies, 3, some (.int))
def mX9_agree : xM := (yX9_agree, cX9_agree, 3, some (.int))
def mX9_honest : xM := (yX9_honest, cX9_honest, 4, some (.int))
def mX9_shire : xM := (yX9_shire, cX9_shire, 5, some (.int))
def mX9_keep : xM := (yX9_keep, cX9_keep, 1, some (.int))
def mX9_back : xM := (yX9_back, cX9_back, 1, some (.int))
def mX9_count : xM := (yX9_count, cX9_count, 2, some (.int))
def mX9_isWithin : xM := (yX9_isWithin, cX9_isWithin, 3, some (.boolean))
def mX9_lowestOf : xM := (yX9_lowestOf, cX9_lowestOf, 2, some (.int))
def mX9_isVillage : xM := (yX9_isVillage, cX9_isVillage, 2, some (.boolean))
def mX9_isParty : xM := (yX9_isParty, cX9_isParty, 2, some (.boolean))
def mX9_layScroll : xM := (yX9_layScroll, cX9_layScroll, 1, none)
def mX9_bestOrder : xM := (yX9_bestOrder, cX9_bestOrder, 3, some (.int))
def mX9_bestChecks : xM := (yX9_bestChecks, cX9_bestChecks, 6, some (.int))
def mX9_drawOf : xM := (yX9_drawOf, cX9_drawOf, 4, some (.int))
def mX9_stepByDraw : xM := (yX9_stepByDraw, cX9_stepByDraw, 5, none)
def mX10_init : xM := (yX10_init, cX10_init, 2, none)
def mX10_in : xM := (yX10_in, cX10_in, 6, some (.boolean))
def mX10_has : xM := (yX10_has, cX10_has, 2, some (.boolean))
def mX10_smaller : xM := (yX10_smaller, cX10_smaller, 2, some (.int))
def mX10_larger : xM := (yX10_larger, cX10_larger, 2, some (.int))
def mX10_lives : xM := (yX10_lives, cX10_lives, 4, none)
def mX10_joins : xM := (yX10_joins, cX10_joins, 4, none)
def mX10_begins : xM := (yX10_begins, cX10_begins, 3, none)
def mX10_settles : xM := (yX10_settles, cX10_settles, 4, none)
def mX10_copied : xM := (yX10_copied, cX10_copied, 4, none)
def mX10_isVillage : xM := (yX10_isVillage, cX10_isVillage, 2, some (.boolean))
def mX10_write : xM := (yX10_write, cX10_write, 2, some (.int))
def mX10_wipe : xM := (yX10_wipe, cX10_wipe, 2, some (.int))
def mX10_next : xM := (yX10_next, cX10_next, 1, some (.int))
def mX10_number : xM := (yX10_number, cX10_number, 5, some (.int))
def mX10_more : xM := (yX10_more, cX10_more, 3, some (.int))
def mX10_item : xM := (yX10_item, cX10_item, 5, none)
def mX10_reads : xM := (yX10_reads, cX10_reads, 2, some (.boolean))
def mX10_fault : xM := (yX10_fault, cX10_fault, 1, some (.int))
def mX10_lay : xM := (yX10_lay, cX10_lay, 1, some (.int))
def mX10_areNear : xM := (yX10_areNear, cX10_areNear, 3, some (.boolean))
def mX10_besides : xM := (yX10_besides, cX10_besides, 4, some (.int))
def mX10_lowest : xM := (yX10_lowest, cX10_lowest, 5, some (.int))
def mX10_isBesideHonest : xM := (yX10_isBesideHonest, cX10_isBesideHonest, 6, some (.boolean))
def mX10_sworn : xM := (yX10_sworn, cX10_sworn, 6, some (.int))
def mX10_writes : xM := (yX10_writes, cX10_writes, 5, some (.int))
def mX10_found : xM := (yX10_found, cX10_found, 4, some (.int))
def mX10_isIn : xM := (yX10_isIn, cX10_isIn, 2, some (.boolean))
def mX10_village : xM := (yX10_village, cX10_village, 3, some (.int))
def mX10_party : xM := (yX10_party, cX10_party, 3, some (.int))
def mX10_far : xM := (yX10_far, cX10_far, 3, some (.int))
def mX10_known : xM := (yX10_known, cX10_known, 2, none)
def mX10_canAsk : xM := (yX10_canAsk, cX10_canAsk, 4, some (.boolean))
def mX10_asks : xM := (yX10_asks, cX10_asks, 4, some (.int))
def mX10_ask : xM := (yX10_ask, cX10_ask, 3, some (.int))
def mX10_canCheck : xM := (yX10_canCheck, cX10_canCheck, 3, some (.boolean))
def mX10_checked : xM := (yX10_checked, cX10_checked, 3, none)
def mX10_check : xM := (yX10_check, cX10_check, 3, some (.int))
def mX10_struck : xM := (yX10_struck, cX10_struck, 3, none)
def mX10_strike : xM := (yX10_strike, cX10_strike, 2, some (.int))
def mX10_undo : xM := (yX10_undo, cX10_undo, 1, some (.int))
def mX10_rest : xM := (yX10_rest, cX10_rest, 1, some (.int))
def mX10_routes : xM := (yX10_routes, cX10_routes, 8, none)
def mX10_askedBy : xM := (yX10_askedBy, cX10_askedBy, 6, some (.int))
def mX10_takes : xM := (yX10_takes, cX10_takes, 7, some (.int))
def mX10_soonest : xM := (yX10_soonest, cX10_soonest, 6, some (.int))
def mX10_lists : xM := (yX10_lists, cX10_lists, 2, none)
def mX10_swaps : xM := (yX10_swaps, cX10_swaps, 4, none)
def mX10_goesOn : xM := (yX10_goesOn, cX10_goesOn, 5, some (.boolean))
def mX10_orders : xM := (yX10_orders, cX10_orders, 7, some (.int))
def mX10_ordered : xM := (yX10_ordered, cX10_ordered, 4, some (.int))
def mX10_most : xM := (yX10_most, cX10_most, 2, some (.int))
def mX10_least : xM := (yX10_least, cX10_least, 2, some (.int))
def mX10_bits : xM := (yX10_bits, cX10_bits, 3, some (.int))
def mX10_checks : xM := (yX10_checks, cX10_checks, 10, some (.int))
def mX10_see : xM := (yX10_see, cX10_see, 3, some (.int))
def mX10_forget : xM := (yX10_forget, cX10_forget, 2, some (.int))
def mX10_kinds : xM := (yX10_kinds, cX10_kinds, 6, some (.int))
def mX10_copies : xM := (yX10_copies, cX10_copies, 5, some (.int))
def mX10_agree : xM := (yX10_agree, cX10_agree, 3, some (.int))
def mX10_honest : xM := (yX10_honest, cX10_honest, 10, some (.int))
def mX10_mostDays : xM := (yX10_mostDays, cX10_mostDays, 4, some (.int))
def mX10_shire : xM := (yX10_shire, cX10_shire, 12, some (.int))
def mX10_keep : xM := (yX10_keep, cX10_keep, 1, some (.int))
def mX10_back : xM := (yX10_back, cX10_back, 1, some (.int))
def mX10_oxen : xM := (yX10_oxen, cX10_oxen, 3, some (.int))
def mX10_count : xM := (yX10_count, cX10_count, 2, some (.int))
def mJ6_bitCount_0f7a4 : xM := (yJ6_bitCount_0f7a4, cJ6_bitCount_0f7a4, 1, some (.int))
def mJ9_max_7cf53 : xM := (yJ9_max_7cf53, cJ9_max_7cf53, 2, some (.int))
def mJ9_min_7cf53 : xM := (yJ9_min_7cf53, cJ9_min_7cf53, 2, some (.int))
def mJ0_length_8abf5 : xM := (yJ0_length_8abf5, cJ0_length_8abf5, 1, some (.int))
def mJ0_charAt_5068e : xM := (yJ0_charAt_5068e, cJ0_charAt_5068e, 2, some (.char))
def mJ0_coder_7d493 : xM := (yJ0_coder_7d493, cJ0_coder_7d493, 1, some (.byte))
def mJ0_isLatin1_aae02 : xM := (yJ0_isLatin1_aae02, cJ0_isLatin1_aae02, 1, some (.boolean))
def mJ0_checkIndex_df160 : xM := (yJ0_checkIndex_df160, cJ0_checkIndex_df160, 2, none)
def mJ1_charAt_3b067 : xM := (yJ1_charAt_3b067, cJ1_charAt_3b067, 2, some (.char))
def mJ7_fill_53178 : xM := (yJ7_fill_53178, cJ7_fill_53178, 4, none)
def mJ3_checkIndex_8e157 : xM := (yJ3_checkIndex_8e157, cJ3_checkIndex_8e157, 3, some (.int))
def mL : xM := (x, code, 4, some .boolean)
end
section
/-! THE LAYER: a state is a list S of shapes (what is static of each cell of ours) and a table M of ints; a cell c lies at the address B + c. xW: the machine walks on from a place of a method; xC: a method's contract. -/
abbrev xSh : Type := (FieldType × Nat) ⊕ ((Nat × List (Option (Option Nat))) ⊕ (FieldType × List (Option Nat)))
abbrev xMem : Type := Nat → Nat → Int32
/-- B, the script's cell, its length, its ints, the String constant's cells -/
abbrev xGl : Type := Nat × Nat × Nat × (Nat → Int32) × (Nat → Nat) × (Nat → Nat)
def xT : List Cond := lw_tbl.filter goodWord
def xisN : Cond → Bool
  | .fieldLinkNest .. => true
  | .methodLinkNest .. => true
  | _ => false
def xNest : List Cond := lw_tbl.filter xisN
theorem xT_good {w : Cond} (h : w ∈ xT) : goodWord w = true := (List.mem_filter.mp h).2
theorem xT_in {w : Cond} (i : Nat) (h : lw_tbl[i]? = some w) (hg : goodWord w = true) : w ∈ xT := List.mem_filter.mpr ⟨List.mem_of_getElem? h, hg⟩
theorem xN_in {w : Cond} (i : Nat) (h : lw_tbl[i]? = some w) (hg : xisN w = true) : w ∈ xNest := List.mem_filter.mpr ⟨List.mem_of_getElem? h, hg⟩
theorem xGood : GoodIn xT xT := fun _ h => ⟨h, good_of_word (xT_good h)⟩
def xws (m : xM) : List Cond := .code m.1 m.2.1 m.2.2.1 m.2.2.2 :: xT
theorem xGoodM {m : xM} (h : Cond.code m.1 m.2.1 m.2.2.1 m.2.2.2 ∈ xT) : GoodIn xT (xws m) := fun w hw => (List.mem_cons.mp hw).elim (fun e => by rw [e]; exact xGood _ h) (fun h => xGood _ h)
def xval (B : Nat) (M : xMem) (c k : Nat) (o : Option (Option Nat)) : Value := match o with
  | none => .int (M c k)
  | some r => va_rf (r.map (fun j => B + j))
def xCell (D : va_G) (s : State) (B : Nat) (M : xMem) (c : Nat) (sh : xSh) (H : Heap) : Prop := match sh with
  | .inl (ty, n) => ∃ cA : ClassId, ArrOfT s cA ty ∧ H[B + c]? = some (arrV cA n (fun j => .int (M c j)))
  | .inr (.inl (ci, fs)) => ∃ r : vw_C, vwCl[ci]? = some r ∧ t_OB (B + c) (D.1 ci) r.2.2 (D.2 ci) H (fun k => xval B M c k (fs.getD k none))
  | .inr (.inr (ty, rs)) => ∃ cA : ClassId, ArrOfT s cA ty ∧ va_RA s cA ty ∧ H[B + c]? = some (arrV cA rs.length (fun j => va_rf ((rs.getD j none).map (fun i => B + i))))
def xRep (D : va_G) (B : Nat) (S : List xSh) (M : xMem) (s : State) (H : Heap) : Prop := H.size = B + S.length ∧ ∀ (c : Nat) (sh : xSh), S[c]? = some sh → xCell D s B M c sh H
theorem xCell.moved {D : va_G} {u U : State} {B : Nat} {M : xMem} {c : Nat} {sh : xSh} {H : Heap} (hvm : u.vm.Alike U.vm) (h : xCell D u B M c sh H) : xCell D U B M c sh H := by
  rcases sh with ⟨ty, n⟩ | ⟨ci, fs⟩ | ⟨ty, rs⟩
  · obtain ⟨cA, h1, h2⟩ := h
    exact ⟨cA, arrOfT_moved hvm h1, h2⟩
  · exact h
  · obtain ⟨cA, h1, h2, h3⟩ := h
    exact ⟨cA, arrOfT_moved hvm h1, h2.moved hvm, h3⟩
theorem xCell.kept {D : va_G} {s : State} {B : Nat} {M : xMem} {c : Nat} {sh : xSh} {H H1 : Heap} (hq : H1[B + c]? = H[B + c]?) (h : xCell D s B M c sh H) : xCell D s B M c sh H1 := by
  rcases sh with ⟨ty, n⟩ | ⟨ci, fs⟩ | ⟨ty, rs⟩
  · obtain ⟨cA, h1, h2⟩ := h
    exact ⟨cA, h1, hq.trans h2⟩
  · obtain ⟨r, h1, h2⟩ := h
    exact ⟨r, h1, h2.kept hq⟩
  · obtain ⟨cA, h1, h2, h3⟩ := h
    exact ⟨cA, h1, h2, hq.trans h3⟩
theorem xCell.mem {D : va_G} {s : State} {B : Nat} {M M1 : xMem} {c : Nat} {sh : xSh} {H : Heap} (hM : M1 c = M c) (h : xCell D s B M c sh H) : xCell D s B M1 c sh H := by
  rcases sh with ⟨ty, n⟩ | ⟨ci, fs⟩ | ⟨ty, rs⟩
  · obtain ⟨cA, h1, h2⟩ := h
    exact ⟨cA, h1, by rw [hM]; exact h2⟩
  · obtain ⟨r, h1, h2⟩ := h
    refine ⟨r, h1, ?_⟩
    have e : (fun k => xval B M1 c k (fs.getD k none)) = (fun k => xval B M c k (fs.getD k none)) := by
      funext k
      cases fs.getD k none <;> simp [xval, hM]
    rw [e]
    exact h2
  · exact h
theorem xRep.moved {D : va_G} {B : Nat} {S : List xSh} {M : xMem} {u U : State} {H : Heap} (hvm : u.vm.Alike U.vm) (h : xRep D B S M u H) : xRep D B S M U H := ⟨h.1, fun c sh hc => (h.2 c sh hc).moved hvm⟩
theorem xRep.lt {D : va_G} {B : Nat} {S : List xSh} {M : xMem} {s : State} {H : Heap} (h : xRep D B S M s H) {c : Nat} {sh : xSh} (hc : S[c]? = some sh) : B + c < H.size := by
  have := (List.getElem?_eq_some_iff.mp hc).1
  rw [h.1]; omega
/-- one cell changes: its shape, its row -/
theorem xRep.set {D : va_G} {B : Nat} {S : List xSh} {M M1 : xMem} {s : State} {H H1 : Heap} (h : xRep D B S M s H) {c : Nat} {sh sh1 : xSh} (hc : S[c]? = some sh) (hz : H1.size = H.size) (hq : ∀ q, q ≠ B + c → H1[q]? = H[q]?) (hM : ∀ a, a ≠ c → M1 a = M a) (hn : xCell D s B M1 c sh1 H1) : xRep D B (S.set c sh1) M1 s H1 := by
  refine ⟨by rw [hz, h.1, List.length_set], fun a sh2 ha => ?_⟩
  by_cases e : a = c
  · subst e
    rw [List.getElem?_set_self (List.getElem?_eq_some_iff.mp hc).1] at ha
    cases ha
    exact hn
  · rw [List.getElem?_set_ne (Ne.symm e)] at ha
    exact ((h.2 a sh2 ha).mem (hM a e)).kept (hq _ (by omega))
theorem xRep.setM {D : va_G} {B : Nat} {S : List xSh} {M M1 : xMem} {s : State} {H H1 : Heap} (h : xRep D B S M s H) {c : Nat} {sh : xSh} (hc : S[c]? = some sh) (hz : H1.size = H.size) (hq : ∀ q, q ≠ B + c → H1[q]? = H[q]?) (hM : ∀ a, a ≠ c → M1 a = M a) (hn : xCell D s B M1 c sh H1) : xRep D B S M1 s H1 := by
  have h9 := h.set hc hz hq hM hn
  have e : S.set c sh = S := by
    apply List.ext_getElem?
    intro i
    by_cases q : i = c
    · subst q
      rw [List.getElem?_set_self (List.getElem?_eq_some_iff.mp hc).1, hc]
    · rw [List.getElem?_set_ne (Ne.symm q)]
  rwa [e] at h9
theorem xRep.push {D : va_G} {B : Nat} {S : List xSh} {M M1 : xMem} {s : State} {H H1 : Heap} (h : xRep D B S M s H) {sh : xSh} (hz : H1.size = H.size + 1) (hq : ∀ q, q < H.size → H1[q]? = H[q]?) (hM : ∀ a, a < S.length → M1 a = M a) (hn : xCell D s B M1 S.length sh H1) : xRep D B (S ++ [sh]) M1 s H1 := by
  refine ⟨by rw [hz, h.1, List.length_append]; rfl, fun a sh2 ha => ?_⟩
  by_cases e : a < S.length
  · rw [List.getElem?_append_left e] at ha
    exact ((h.2 a sh2 ha).mem (hM a e)).kept (hq _ (h.lt ha))
  · rw [List.getElem?_append_right (by omega)] at ha
    have h0 : a - S.length < 1 := (List.getElem?_eq_some_iff.mp ha).1
    have e2 : a = S.length := by omega
    subst e2
    simp at ha
    subst ha
    exact hn
def xAO2 (U : State) : Prop := (Cond.arrayOver (.array .int)).before #[] U = true
theorem xAO2.moved {u U : State} (hvm : u.vm.Alike U.vm) (h : xAO2 u) : xAO2 U := over_moved hvm h
/-- the constant text of the class, and what the JDK's own methods over it read -/
def xtx : String := "v0,12;v1,20;v2,9;v3,15;v4,18;v1,7;w0,1,2;w1,2,3;w2,3,1;w3,4,2;w4,5,4;w0,5,6;w1,4,3;p0;p3;"
def xby : List Int32 := xtx.toList.map (fun ch => Int32.ofNat ch.toNat)
def xStr (G : xGl) (U : State) (H : Heap) : Prop := vk_S 1 [90] [xby] G.2.2.2.2.1 G.2.2.2.2.2 (fun q => G.1 ≤ q) U H ∧ vk_R RX9 85 xtx (G.2.2.2.2.1 0) U ∧ va_Z "java/lang/String" "COMPACT_STRINGS" "Z" (.int 1) (fun q => G.1 ≤ q) U H ∧ va_Zq "jdk/internal/util/Preconditions" "SIOOBE_FORMATTER" "Ljava/util/function/BiFunction;" (fun q => G.1 ≤ q) U H
def xCtx (G : xGl) (D : va_G) (U : State) : Prop :=
  G.1 ≤ U.heap.size ∧ va_K D vwCl [] U ∧ (∀ w ∈ xNest, va_Nw w U) ∧ (va_X G.2.1 G.2.2.1 G.2.2.2.1 U U.heap ∧ G.2.1 < G.1) ∧ (va_AO "NotAnOx$Book" U ∧ xAO2 U) ∧ xStr G U U.heap
theorem xNw_warm {w : Cond} (hw : xisN w = true) {s U : State} (hW : s.WarmedH U.vm) (h : va_Nw w s) : va_Nw w U := by
  cases w <;> first | exact va_Nw.warmF hW h | exact va_Nw.warmM hW h | (simp [xisN] at hw)
theorem xCtx.move {G : xGl} {D : va_G} {s U : State} (hW : s.WarmedH U.vm) (hz : s.heap.size ≤ U.heap.size) (hF : ∀ q, q < s.heap.size → ¬ G.1 ≤ q → U.heap[q]? = s.heap[q]?) (h : xCtx G D s) : xCtx G D U := by
  obtain ⟨h1, h2, h3, ⟨h4, h4b⟩, ⟨h5, h5b⟩, h6, h7, h8, h9⟩ := h
  have hbl : G.2.1 < s.heap.size := by omega
  refine ⟨by omega, va_K.moved hW.alike h2, fun w hw => xNw_warm (List.mem_filter.mp hw).2 hW (h3 w hw), ⟨va_X.moved hW.alike (h4.kept (hF _ hbl (by omega))), h4b⟩, ⟨va_AO.moved hW.alike h5, xAO2.moved hW.alike h5b⟩, vk_S.moved hW.alike (h6.kept hF), h7.warm hW, va_Z.moved hW.alike (h8.kept hF), va_Zq.moved hW.alike (h9.kept hF)⟩
theorem xCtx.calling {G : xGl} {D : va_G} {U : State} (g : JFrame) (mk : MethodId) (a : Array Value) (h : xCtx G D U) : xCtx G D (U.calling g mk a) := by
  obtain ⟨h1, h2, h3, ⟨h4, h4b⟩, ⟨h5, h5b⟩, h6, h7, h8, h9⟩ := h
  have hv : (U.calling g mk a).vm = U.vm := rfl
  have hA : U.vm.Alike (U.calling g mk a).vm := Vm.Alike.refl U.vm
  exact ⟨h1, va_K.moved hA h2, fun w hw => by
    have h := h3 w hw
    have hw2 := (List.mem_filter.mp hw).2
    cases w <;> first | exact va_Nw.same rfl hv.symm h | (simp [xisN] at hw2), ⟨va_X.moved hA h4, h4b⟩, ⟨va_AO.moved hA h5, xAO2.moved hA h5b⟩, vk_S.moved hA h6, h7.same hv, va_Z.moved hA h8, va_Zq.moved hA h9⟩
def xPre (G : xGl) (D : va_G) (S : List xSh) (M : xMem) (as : List Value) : Array Value → State → Prop := fun v U => v = as.toArray ∧ xCtx G D U ∧ xRep D G.1 S M U U.heap
def xPost (G : xGl) (D : va_G) (Q : Option Value → List xSh → xMem → Prop) : Array Value → State → Outcome → State → Prop := fun _ st o t => ∃ (v : Option Value) (S : List xSh) (M : xMem), o = .returned v ∧ xRep D G.1 S M t t.heap ∧ Q v S M ∧ va_F (fun q => G.1 ≤ q) st t
def xroom (d k n : Nat) : Room := { frames := d, cells := k, slots := n, locals := 60 * d }
/-- a method's contract -/
def xC (G : xGl) (m : xM) (d k n : Nat) (as : List Value) (S : List xSh) (M : xMem) (Q : Option Value → List xSh → xMem → Prop) : Prop :=
  ∀ (l : Launch) (D : va_G), Met l m.1 (xws m) (xroom d k n) (xPre G D S M as) (xPost G D Q) k n (fun q => G.1 ≤ q)
theorem xPre.blind {G : xGl} {D : va_G} {S : List xSh} {M : xMem} {as : List Value} : FrameBlind (xPre G D S M as) := fun a U g mk h => ⟨h.1, h.2.1.calling g mk a, xRep.moved (u := U) (U := U.calling g mk a) (Vm.Alike.refl U.vm) h.2.2⟩
/-- where a return stands, and that the answer is of its kind -/
def xRet (m : xM) (pc : Nat) (v : Option Value) : Prop := match v with
  | none => decode m.2.1 pc = .ok (.return_, 1) ∧ m.2.2.2 = none
  | some (.int y) => decode m.2.1 pc = .ok (.ireturn, 1) ∧ ∃ ty, m.2.2.2 = some ty ∧ narrow ty (.int y) = .int y
  | _ => False
def xEnd (G : xGl) (m : xM) (D : va_G) (Q : Option Value → List xSh → xMem → Prop) (p : Program) (l : Launch) (e : Env) (R : Room) (s : State) (mi : MethodId) (args : Array Value) (below : List Frame) (meth : Method) (c : Code) (Z : State → Prop) : Prop :=
  ∀ (H : Heap) (locs : List Loc) (cells slots : Nat) (ls : Array Slot) (v : Option Value) (S : List xSh) (M : xMem) (pc : Nat), xRep D G.1 S M s H → va_S (fun q => G.1 ≤ q) s.heap H locs → cells ≤ R.cells → slots ≤ R.slots → Q v S M → xRet m pc v → W p l e R s mi args below meth c H locs cells slots Z (F0 mi pc ls v.toList)
def xE (G : xGl) (m : xM) (d k n : Nat) (Q : Option Value → List xSh → xMem → Prop) (l : Launch) (D : va_G) (p : Program) (e : Env) (R : Room) (s : State) (mi : MethodId) (args : Array Value) (below : List Frame) (meth : Method) (c : Code) (cells slots : Nat) (Z : State → Prop) : Prop :=
  p.tables.exec = Jvm.exec ∧ c.code = m.2.1 ∧ c.maxLocals = m.2.2.1 ∧ s.vm.findClass m.1.cls = some mi.cls ∧ (∀ w ∈ xT, w.before args s = true) ∧ meth.name = m.1.name ∧ xCtx G D s ∧ (d ≤ R.frames ∧ 60 * d ≤ R.locals ∧ cells + k ≤ R.cells ∧ slots + n ≤ R.slots) ∧ xEnd G m D Q p l e R s mi args below meth c Z
def xLoc (ls : Array Slot) (nL : Nat) (L : List (Option Value)) : Prop := ls.size = nL ∧ L.length = nL ∧ lv_wf ls ∧ ∀ (i : Nat) (v : Value), L[i]? = some (some v) → ls[i]? = some (.val v)
/-- the walk from a place of a method -/
def xW (G : xGl) (m : xM) (d k n : Nat) (Q : Option Value → List xSh → xMem → Prop) (pc : Nat) (L : List (Option Value)) (st : List Value) (S : List xSh) (M : xMem) : Prop :=
  ∀ (l : Launch) (D : va_G) (p : Program) (e : Env) (R : Room) (s : State) (mi : MethodId) (args : Array Value) (below : List Frame) (meth : Method) (c : Code) (H : Heap) (locs : List Loc) (cells slots : Nat) (Z : State → Prop) (ls : Array Slot),
    xE G m d k n Q l D p e R s mi args below meth c cells slots Z → xRep D G.1 S M s H → va_S (fun q => G.1 ≤ q) s.heap H locs → xLoc ls m.2.2.1 L → W p l e R s mi args below meth c H locs cells slots Z (F0 mi pc ls st)
def xargs (n : Nat) (as : List Value) : List (Option Value) := (List.range n).map (fun i => ((lv_args 0 as).find? (fun q => q.1 == i)).map (·.2))
theorem xargs_loc {as : List Value} {n : Nat} (h : (lg_sl as).length ≤ n) : xLoc ((lg_sl as ++ List.replicate (n - (lg_sl as).length) Slot.unset).toArray) n (xargs n as) := by
  obtain ⟨h1, h2, h3⟩ := lv_entry as h
  refine ⟨h1, by simp [xargs], h2, fun i v hi => ?_⟩
  unfold xargs at hi
  rw [List.getElem?_map] at hi
  by_cases hn : i < n
  · rw [List.getElem?_range hn] at hi
    simp only [Option.map_some, Option.some.injEq, Option.map_eq_some_iff] at hi
    obtain ⟨q, hq, rfl⟩ := hi
    have hm := List.mem_of_find?_eq_some hq
    have he := List.find?_some hq
    have he : q.1 = i := by simpa using he
    rw [← he]
    exact h3 q hm
  · have : (List.range n)[i]? = none := List.getElem?_eq_none (by rw [List.length_range]; omega)
    rw [this] at hi
    cases hi
theorem xC_intro {G : xGl} {m : xM} {d k n : Nat} {as : List Value} {S : List xSh} {M : xMem} {Q : Option Value → List xSh → xMem → Prop} (L : List (Option Value)) (hL : xargs m.2.2.1 as = L) (hp : plainName m.1.cls = true) (hn : (lg_sl as).length ≤ m.2.2.1)
    (h : xW G m d k n Q 0 L [] S M) : xC G m d k n as S M Q := by
  intro l D
  subst hL
  refine Met.ofW (cc := m.2.1) (maxL := m.2.2.1) (ret := m.2.2.2) hp rfl ?_
  intro p e s mi args below meth c s₁ B hml hv
  obtain ⟨rfl, hctx, hrep⟩ := hv
  have hts := atoms_spec (ws := xws m) B.pre
  rw [lg_entry_eq]
  have hlocks := B.notSynchronized
  have hr := B.returns
  refine h l D p e (xroom d k n) s mi _ below meth c s.heap [] 0 0 _ _ ⟨B.exec, B.bytes, hml, findClass_of_methodNamed B.named, fun w hw => hts w (List.mem_cons_of_mem _ hw), (name_of_methodNamed B.named B.method).1, hctx, ⟨Nat.le_refl _, Nat.le_refl _, by simp [xroom], by simp [xroom]⟩, ?_⟩ hrep va_S.rf (xargs_loc hn)
  intro H locs cells slots ls v S' M' pc hR hS hc hs hQ hret
  refine W.widen (k := k) (n := n) hc hs ?_
  match v, hret with
  | none, hret =>
    exact W.vret B.exec B.bytes (hr.trans hret.2) (fun t ht hW => ⟨none, S', M', rfl, by rw [ht]; exact hR.moved hW.alike, hQ, hS.F ht⟩) hS.2.2 hret.1
  | some (.int y), hret =>
    obtain ⟨hd, ty, hty, hnar⟩ := hret
    exact W.zret B.exec B.bytes (hr.trans hty) hnar (fun t ht hW => ⟨some (.int y), S', M', rfl, by rw [ht]; exact hR.moved hW.alike, hQ, hS.F ht⟩) hS.2.2 hd
end
section
/-! THE ROWS: an instruction, a row; a static fact of a place comes first, the walk behind it last -/
section XR
variable {G : xGl} {m : xM} {d k n pc nx : Nat} {Q : Option Value → List xSh → xMem → Prop} {L L1 : List (Option Value)} {st : List Value} {S : List xSh} {M : xMem}
def xD (m : xM) (pc : Nat) (i : Instr) (w nx : Nat) : Prop := decode m.2.1 pc = .ok (i, w) ∧ pc + w = nx
def xJ (m : xM) (pc : Nat) (mk : Int → Instr) (tgt nx : Nat) : Prop := ∃ off : Int, decode m.2.1 pc = .ok (mk off, 3) ∧ (pc : Int) + off = (tgt : Int) ∧ pc + 3 = nx
def xK (m : xM) (pc : Nat) (v : Int32) (nx : Nat) : Prop := (∃ i : Int, decode m.2.1 pc = .ok (.iconst i, 1) ∧ Int32.ofInt i = v ∧ pc + 1 = nx) ∨ (∃ i : Int, decode m.2.1 pc = .ok (.bipush i, 2) ∧ (Int8.ofInt i).toInt32 = v ∧ pc + 2 = nx) ∨ (∃ i : Int, decode m.2.1 pc = .ok (.sipush i, 3) ∧ (Int16.ofInt i).toInt32 = v ∧ pc + 3 = nx) ∨ (∃ i : Nat, decode m.2.1 pc = .ok (.ldc i, 2) ∧ Cond.constant m.1.cls i v ∈ xT ∧ pc + 2 = nx) ∨ (∃ i : Nat, decode m.2.1 pc = .ok (.ldc_w i, 3) ∧ Cond.constant m.1.cls i v ∈ xT ∧ pc + 3 = nx)
def xKL (m : xM) (pc : Nat) (v : Int64) (nx : Nat) : Prop := (∃ i : Fin 2, decode m.2.1 pc = .ok (.lconst i, 1) ∧ Int64.ofNat (i : Nat) = v ∧ pc + 1 = nx) ∨ (∃ i : Nat, decode m.2.1 pc = .ok (.ldc2_w i, 3) ∧ Cond.constantLong m.1.cls i v ∈ xT ∧ pc + 3 = nx)

def x_iload (m : xM) (pc i nx : Nat) : Prop := (∃ k : Fin 4, decode m.2.1 pc = .ok (.iload_n k, 1) ∧ (k : Nat) = i ∧ pc + 1 = nx) ∨ (decode m.2.1 pc = .ok (.iload i, 2) ∧ pc + 2 = nx)
def x_aload (m : xM) (pc i nx : Nat) : Prop := (∃ k : Fin 4, decode m.2.1 pc = .ok (.aload_n k, 1) ∧ (k : Nat) = i ∧ pc + 1 = nx) ∨ (decode m.2.1 pc = .ok (.aload i, 2) ∧ pc + 2 = nx)
def x_lload (m : xM) (pc i nx : Nat) : Prop := (∃ k : Fin 4, decode m.2.1 pc = .ok (.lload_n k, 1) ∧ (k : Nat) = i ∧ pc + 1 = nx) ∨ (decode m.2.1 pc = .ok (.lload i, 2) ∧ pc + 2 = nx)
theorem xs_iload {i : Nat} {y : Int32} (he : x_iload m pc i nx) (hv : L[i]? = some (some (.int y))) (kk : xW G m d k n Q nx L (.int y :: st) S M) : xW G m d k n Q pc L st S M := by
  intro l D p e R s mi args below meth c H locs cells slots Z ls E hR hS hl
  rcases he with ⟨j, hd, hj, rfl⟩ | ⟨hd, rfl⟩
  · exact lv_iload_n E.1 E.2.1 hd hj (hl.2.2.2 i _ hv) (kk l D p e R s mi args below meth c H locs cells slots Z ls E hR hS hl)
  · exact lv_iload E.1 E.2.1 hd (hl.2.2.2 i _ hv) (kk l D p e R s mi args below meth c H locs cells slots Z ls E hR hS hl)
theorem xs_aload {i : Nat} {y : Nat} (he : x_aload m pc i nx) (hv : L[i]? = some (some (.ref y))) (kk : xW G m d k n Q nx L (.ref y :: st) S M) : xW G m d k n Q pc L st S M := by
  intro l D p e R s mi args below meth c H locs cells slots Z ls E hR hS hl
  rcases he with ⟨j, hd, hj, rfl⟩ | ⟨hd, rfl⟩
  · exact lv_aload_n E.1 E.2.1 hd hj (hl.2.2.2 i _ hv) (kk l D p e R s mi args below meth c H locs cells slots Z ls E hR hS hl)
  · exact lv_aload E.1 E.2.1 hd (hl.2.2.2 i _ hv) (kk l D p e R s mi args below meth c H locs cells slots Z ls E hR hS hl)
theorem xs_lload {i : Nat} {y : Int64} (he : x_lload m pc i nx) (hv : L[i]? = some (some (.long y))) (kk : xW G m d k n Q nx L (.long y :: st) S M) : xW G m d k n Q pc L st S M := by
  intro l D p e R s mi args below meth c H locs cells slots Z ls E hR hS hl
  rcases he with ⟨j, hd, hj, rfl⟩ | ⟨hd, rfl⟩
  · exact lv_lload_n E.1 E.2.1 hd hj (hl.2.2.2 i _ hv) (kk l D p e R s mi args below meth c H locs cells slots Z ls E hR hS hl)
  · exact lv_lload E.1 E.2.1 hd (hl.2.2.2 i _ hv) (kk l D p e R s mi args below meth c H locs cells slots Z ls E hR hS hl)
/-- the place below holds no long -/
def xok (L : List (Option Value)) (i : Nat) : Bool := match i with
  | 0 => true
  | j + 1 => match L[j]? with
    | some (some v) => v.category == 1
    | _ => true
theorem xLoc.has {ls : Array Slot} {nL : Nat} (hl : xLoc ls nL L) : lv_has ls nL ((List.range nL).filterMap (fun i => match L[i]? with | some (some v) => some (i, v) | _ => none)) := by
  refine ⟨hl.1, hl.2.2.1, fun q hq => ?_⟩
  obtain ⟨i, -, hi⟩ := List.mem_filterMap.mp hq
  cases hL : L[i]? with
  | none => rw [hL] at hi; cases hi
  | some w =>
    cases w with
    | none => rw [hL] at hi; cases hi
    | some v =>
      rw [hL] at hi
      cases hi
      exact hl.2.2.2 i v hL
theorem xLoc.mem {nL i : Nat} {v : Value} (hlen : L.length = nL) (hv : L[i]? = some (some v)) : (i, v) ∈ ((List.range nL).filterMap (fun i => match L[i]? with | some (some v) => some (i, v) | _ => none)) := by
  refine List.mem_filterMap.mpr ⟨i, List.mem_range.mpr ?_, by rw [hv]⟩
  rw [← hlen]
  exact (List.getElem?_eq_some_iff.mp hv).1
theorem xLoc.set1 {ls ls' : Array Slot} {nL i : Nat} {v : Value} (hl : xLoc ls nL L) (hk : xok L i = true) (h' : lv_has ls' nL ((i, v) :: ((List.range nL).filterMap (fun i => match L[i]? with | some (some v) => some (i, v) | _ => none)).filter (fun q => !(q.1 == i) && !(q.1 + 1 == i && q.2.category == 2)))) : xLoc ls' nL (L.set i (some v)) := by
  refine ⟨h'.1, by rw [List.length_set]; exact hl.2.1, h'.2.1, fun j w hj => ?_⟩
  by_cases e : j = i
  · subst e
    have hlt : j < L.length := by
      have := (List.getElem?_eq_some_iff.mp hj).1
      rwa [List.length_set] at this
    rw [List.getElem?_set_self hlt] at hj
    cases hj
    exact h'.2.2 _ List.mem_cons_self
  · rw [List.getElem?_set_ne (Ne.symm e)] at hj
    refine h'.2.2 (j, w) (List.mem_cons_of_mem _ (List.mem_filter.mpr ⟨xLoc.mem hl.2.1 hj, ?_⟩))
    by_cases e2 : j + 1 = i
    · subst e2
      have hc : w.category = 1 := by simpa [xok, hj] using hk
      simp [hc]
    · simp [e, e2]
theorem xLoc.set2 {ls ls' : Array Slot} {nL i : Nat} {v : Value} (hl : xLoc ls nL L) (hk : xok L i = true) (h' : lv_has ls' nL ((i, v) :: ((List.range nL).filterMap (fun i => match L[i]? with | some (some v) => some (i, v) | _ => none)).filter (fun q => !(q.1 == i) && (!(q.1 == i + 1) && !(q.1 + 1 == i && q.2.category == 2))))) : xLoc ls' nL ((L.set i (some v)).set (i + 1) none) := by
  refine ⟨h'.1, by rw [List.length_set, List.length_set]; exact hl.2.1, h'.2.1, fun j w hj => ?_⟩
  have e1 : j ≠ i + 1 := by
    intro e
    subst e
    have hlt : i + 1 < (L.set i (some v)).length := by
      have := (List.getElem?_eq_some_iff.mp hj).1
      rwa [List.length_set] at this
    rw [List.getElem?_set_self hlt] at hj
    cases hj
  rw [List.getElem?_set_ne (Ne.symm e1)] at hj
  by_cases e : j = i
  · subst e
    have hlt : j < L.length := by
      have := (List.getElem?_eq_some_iff.mp hj).1
      rwa [List.length_set] at this
    rw [List.getElem?_set_self hlt] at hj
    cases hj
    exact h'.2.2 _ List.mem_cons_self
  · rw [List.getElem?_set_ne (Ne.symm e)] at hj
    refine h'.2.2 (j, w) (List.mem_cons_of_mem _ (List.mem_filter.mpr ⟨xLoc.mem hl.2.1 hj, ?_⟩))
    by_cases e2 : j + 1 = i
    · subst e2
      have hc : w.category = 1 := by simpa [xok, hj] using hk
      simp [hc]
      try omega
    · simp [e, e1, e2]
def x_istore (m : xM) (pc i nx : Nat) : Prop := (∃ k : Fin 4, decode m.2.1 pc = .ok (.istore_n k, 1) ∧ (k : Nat) = i ∧ pc + 1 = nx) ∨ (decode m.2.1 pc = .ok (.istore i, 2) ∧ pc + 2 = nx)
def x_astore (m : xM) (pc i nx : Nat) : Prop := (∃ k : Fin 4, decode m.2.1 pc = .ok (.astore_n k, 1) ∧ (k : Nat) = i ∧ pc + 1 = nx) ∨ (decode m.2.1 pc = .ok (.astore i, 2) ∧ pc + 2 = nx)
def x_lstore (m : xM) (pc i nx : Nat) : Prop := (∃ k : Fin 4, decode m.2.1 pc = .ok (.lstore_n k, 1) ∧ (k : Nat) = i ∧ pc + 1 = nx) ∨ (decode m.2.1 pc = .ok (.lstore i, 2) ∧ pc + 2 = nx)
theorem xs_istore {i : Nat} {y : Int32} (he : x_istore m pc i nx) (hi : i < L.length) (hk : xok L i = true) (hL : L.set i (some (.int y)) = L1) (kk : xW G m d k n Q nx L1 st S M) : xW G m d k n Q pc L (.int y :: st) S M := by
  subst hL
  intro l D p e R s mi args below meth c H locs cells slots Z ls E hR hS hl
  rcases he with ⟨j, hd, hj, rfl⟩ | ⟨hd, rfl⟩
  · exact lv_istore_n E.1 E.2.1 hd hj hl.has (by rw [← hl.2.1]; exact hi) rfl (fun ls' h' => kk l D p e R s mi args below meth c H locs cells slots Z ls' E hR hS (hl.set1 hk h'))
  · exact lv_istore E.1 E.2.1 hd hl.has (by rw [← hl.2.1]; exact hi) rfl (fun ls' h' => kk l D p e R s mi args below meth c H locs cells slots Z ls' E hR hS (hl.set1 hk h'))
theorem xs_astore {i : Nat} {y : Nat} (he : x_astore m pc i nx) (hi : i < L.length) (hk : xok L i = true) (hL : L.set i (some (.ref y)) = L1) (kk : xW G m d k n Q nx L1 st S M) : xW G m d k n Q pc L (.ref y :: st) S M := by
  subst hL
  intro l D p e R s mi args below meth c H locs cells slots Z ls E hR hS hl
  rcases he with ⟨j, hd, hj, rfl⟩ | ⟨hd, rfl⟩
  · exact lv_astore_n E.1 E.2.1 hd hj hl.has (by rw [← hl.2.1]; exact hi) rfl (fun ls' h' => kk l D p e R s mi args below meth c H locs cells slots Z ls' E hR hS (hl.set1 hk h'))
  · exact lv_astore E.1 E.2.1 hd hl.has (by rw [← hl.2.1]; exact hi) rfl (fun ls' h' => kk l D p e R s mi args below meth c H locs cells slots Z ls' E hR hS (hl.set1 hk h'))
theorem xs_lstore {i : Nat} {y : Int64} (he : x_lstore m pc i nx) (hi : i + 1 < L.length) (hk : xok L i = true) (hL : (L.set i (some (.long y))).set (i + 1) none = L1) (kk : xW G m d k n Q nx L1 st S M) : xW G m d k n Q pc L (.long y :: st) S M := by
  subst hL
  intro l D p e R s mi args below meth c H locs cells slots Z ls E hR hS hl
  rcases he with ⟨j, hd, hj, rfl⟩ | ⟨hd, rfl⟩
  · exact lv_lstore_n E.1 E.2.1 hd hj hl.has (by rw [← hl.2.1]; exact hi) rfl (fun ls' h' => kk l D p e R s mi args below meth c H locs cells slots Z ls' E hR hS (hl.set2 hk h'))
  · exact lv_lstore E.1 E.2.1 hd hl.has (by rw [← hl.2.1]; exact hi) rfl (fun ls' h' => kk l D p e R s mi args below meth c H locs cells slots Z ls' E hR hS (hl.set2 hk h'))
theorem xs_kill (i : Nat) (hL : L.set i none = L1) (kk : xW G m d k n Q pc L1 st S M) : xW G m d k n Q pc L st S M := by
  subst hL
  intro l D p e R s mi args below meth c H locs cells slots Z ls E hR hS hl
  refine kk l D p e R s mi args below meth c H locs cells slots Z ls E hR hS ⟨hl.1, by rw [List.length_set]; exact hl.2.1, hl.2.2.1, fun j w hj => ?_⟩
  by_cases e : j = i
  · subst e
    have hlt : j < L.length := by
      have := (List.getElem?_eq_some_iff.mp hj).1
      rwa [List.length_set] at this
    rw [List.getElem?_set_self hlt] at hj
    cases hj
  · rw [List.getElem?_set_ne (Ne.symm e)] at hj
    exact hl.2.2.2 j w hj
theorem xs_iinc {i : Nat} {z : Int} {y v : Int32} (he : xD m pc (.iinc i z) 3 nx) (hv : L[i]? = some (some (.int y))) (hz : y + Int32.ofInt z = v) (hk : xok L i = true) (hL : L.set i (some (.int v)) = L1) (kk : xW G m d k n Q nx L1 st S M) : xW G m d k n Q pc L st S M := by
  subst hL
  obtain ⟨hd, rfl⟩ := he
  intro l D p e R s mi args below meth c H locs cells slots Z ls E hR hS hl
  obtain ⟨j, hj⟩ := List.getElem?_of_mem (xLoc.mem hl.2.1 hv)
  have hi : i < m.2.2.1 := by
    rw [← hl.2.1]
    exact (List.getElem?_eq_some_iff.mp hv).1
  exact lv_iinc E.1 E.2.1 hd hl.has hj hz hi rfl (fun ls' h' => kk l D p e R s mi args below meth c H locs cells slots Z ls' E hR hS (hl.set1 hk h'))
/-- a counter goes up by one -/
theorem xs_inc1 {i a : Nat} (he : xD m pc (.iinc i 1) 3 nx) (hv : L[i]? = some (some (.int (nI a)))) (hk : xok L i = true) (hL : L.set i (some (.int (nI (a + 1)))) = L1) (kk : xW G m d k n Q nx L1 st S M) : xW G m d k n Q pc L st S M :=
  xs_iinc he hv (nI_1 a) hk hL kk
theorem xs_eq1 {y z : Int32} (h : y = z) (kk : xW G m d k n Q pc L (.int z :: st) S M) : xW G m d k n Q pc L (.int y :: st) S M := h ▸ kk
theorem xs_eqM {M1 : xMem} (h : M = M1) (kk : xW G m d k n Q pc L st S M1) : xW G m d k n Q pc L st S M := h ▸ kk
theorem xs_K {v : Int32} (he : xK m pc v nx) (kk : xW G m d k n Q nx L (.int v :: st) S M) : xW G m d k n Q pc L st S M := by
  intro l D p e R s mi args below meth c H locs cells slots Z ls E hR hS hl
  rcases he with ⟨i, hd, hv, rfl⟩ | ⟨i, hd, hv, rfl⟩ | ⟨i, hd, hv, rfl⟩ | ⟨i, hd, hw, rfl⟩ | ⟨i, hd, hw, rfl⟩
  · exact lv_iconst E.1 E.2.1 hd hv (kk l D p e R s mi args below meth c H locs cells slots Z ls E hR hS hl)
  · exact lv_bipush E.1 E.2.1 hd hv (kk l D p e R s mi args below meth c H locs cells slots Z ls E hR hS hl)
  · exact lv_sipush E.1 E.2.1 hd hv (kk l D p e R s mi args below meth c H locs cells slots Z ls E hR hS hl)
  · exact lv_ldc E.1 E.2.1 E.2.2.2.1 (E.2.2.2.2.1 _ hw) hd (kk l D p e R s mi args below meth c H locs cells slots Z ls E hR hS hl)
  · exact lv_ldcw E.1 E.2.1 E.2.2.2.1 (E.2.2.2.2.1 _ hw) hd (kk l D p e R s mi args below meth c H locs cells slots Z ls E hR hS hl)
theorem xs_KL {v : Int64} (he : xKL m pc v nx) (kk : xW G m d k n Q nx L (.long v :: st) S M) : xW G m d k n Q pc L st S M := by
  intro l D p e R s mi args below meth c H locs cells slots Z ls E hR hS hl
  rcases he with ⟨i, hd, hv, rfl⟩ | ⟨i, hd, hw, rfl⟩
  · exact lv_lconst E.1 E.2.1 hd hv (kk l D p e R s mi args below meth c H locs cells slots Z ls E hR hS hl)
  · exact lv_ldc2 E.1 E.2.1 E.2.2.2.1 (E.2.2.2.2.1 _ hw) hd (kk l D p e R s mi args below meth c H locs cells slots Z ls E hR hS hl)
theorem xs_iadd {y z : Int32} (he : xD m pc (.iadd) 1 nx) (kk : xW G m d k n Q nx L (.int (y + z) :: st) S M) : xW G m d k n Q pc L (.int z :: .int y :: st) S M := by
  obtain ⟨hd, rfl⟩ := he
  intro l D p e R s mi args below meth c H locs cells slots Z ls E hR hS hl
  exact lv_iadd E.1 E.2.1 hd (kk l D p e R s mi args below meth c H locs cells slots Z ls E hR hS hl)
theorem xs_isub {y z : Int32} (he : xD m pc (.isub) 1 nx) (kk : xW G m d k n Q nx L (.int (y - z) :: st) S M) : xW G m d k n Q pc L (.int z :: .int y :: st) S M := by
  obtain ⟨hd, rfl⟩ := he
  intro l D p e R s mi args below meth c H locs cells slots Z ls E hR hS hl
  exact lv_isub E.1 E.2.1 hd (kk l D p e R s mi args below meth c H locs cells slots Z ls E hR hS hl)
theorem xs_imul {y z : Int32} (he : xD m pc (.imul) 1 nx) (kk : xW G m d k n Q nx L (.int (y * z) :: st) S M) : xW G m d k n Q pc L (.int z :: .int y :: st) S M := by
  obtain ⟨hd, rfl⟩ := he
  intro l D p e R s mi args below meth c H locs cells slots Z ls E hR hS hl
  exact lv_imul E.1 E.2.1 hd (kk l D p e R s mi args below meth c H locs cells slots Z ls E hR hS hl)
theorem xs_iand {y z : Int32} (he : xD m pc (.iand) 1 nx) (kk : xW G m d k n Q nx L (.int (y &&& z) :: st) S M) : xW G m d k n Q pc L (.int z :: .int y :: st) S M := by
  obtain ⟨hd, rfl⟩ := he
  intro l D p e R s mi args below meth c H locs cells slots Z ls E hR hS hl
  exact lv_iand E.1 E.2.1 hd (kk l D p e R s mi args below meth c H locs cells slots Z ls E hR hS hl)
theorem xs_ior {y z : Int32} (he : xD m pc (.ior) 1 nx) (kk : xW G m d k n Q nx L (.int (y ||| z) :: st) S M) : xW G m d k n Q pc L (.int z :: .int y :: st) S M := by
  obtain ⟨hd, rfl⟩ := he
  intro l D p e R s mi args below meth c H locs cells slots Z ls E hR hS hl
  exact lv_ior E.1 E.2.1 hd (kk l D p e R s mi args below meth c H locs cells slots Z ls E hR hS hl)
theorem xs_ixor {y z : Int32} (he : xD m pc (.ixor) 1 nx) (kk : xW G m d k n Q nx L (.int (y ^^^ z) :: st) S M) : xW G m d k n Q pc L (.int z :: .int y :: st) S M := by
  obtain ⟨hd, rfl⟩ := he
  intro l D p e R s mi args below meth c H locs cells slots Z ls E hR hS hl
  exact lv_ixor E.1 E.2.1 hd (kk l D p e R s mi args below meth c H locs cells slots Z ls E hR hS hl)
theorem xs_ishl {y z : Int32} (he : xD m pc (.ishl) 1 nx) (kk : xW G m d k n Q nx L (.int (y <<< (z &&& 31)) :: st) S M) : xW G m d k n Q pc L (.int z :: .int y :: st) S M := by
  obtain ⟨hd, rfl⟩ := he
  intro l D p e R s mi args below meth c H locs cells slots Z ls E hR hS hl
  exact lv_ishl E.1 E.2.1 hd (kk l D p e R s mi args below meth c H locs cells slots Z ls E hR hS hl)
theorem xs_ishr {y z : Int32} (he : xD m pc (.ishr) 1 nx) (kk : xW G m d k n Q nx L (.int (y >>> (z &&& 31)) :: st) S M) : xW G m d k n Q pc L (.int z :: .int y :: st) S M := by
  obtain ⟨hd, rfl⟩ := he
  intro l D p e R s mi args below meth c H locs cells slots Z ls E hR hS hl
  exact lv_ishr E.1 E.2.1 hd (kk l D p e R s mi args below meth c H locs cells slots Z ls E hR hS hl)
theorem xs_idiv {y z : Int32} (he : xD m pc (.idiv) 1 nx) (hz : ¬ z = 0) (kk : xW G m d k n Q nx L (.int (y / z) :: st) S M) : xW G m d k n Q pc L (.int z :: .int y :: st) S M := by
  obtain ⟨hd, rfl⟩ := he
  intro l D p e R s mi args below meth c H locs cells slots Z ls E hR hS hl
  exact lv_idiv E.1 E.2.1 hd hz (kk l D p e R s mi args below meth c H locs cells slots Z ls E hR hS hl)
theorem xs_irem {y z : Int32} (he : xD m pc (.irem) 1 nx) (hz : ¬ z = 0) (kk : xW G m d k n Q nx L (.int (y - y / z * z) :: st) S M) : xW G m d k n Q pc L (.int z :: .int y :: st) S M := by
  obtain ⟨hd, rfl⟩ := he
  intro l D p e R s mi args below meth c H locs cells slots Z ls E hR hS hl
  exact lv_irem E.1 E.2.1 hd hz (kk l D p e R s mi args below meth c H locs cells slots Z ls E hR hS hl)
theorem xs_iushr {y z : Int32} (he : xD m pc (.iushr) 1 nx) (kk : xW G m d k n Q nx L (.int ((y.toUInt32 >>> (z.toUInt32 &&& Int32.toUInt32 31)).toInt32) :: st) S M) : xW G m d k n Q pc L (.int z :: .int y :: st) S M := by
  obtain ⟨hd, rfl⟩ := he
  intro l D p e R s mi args below meth c H locs cells slots Z ls E hR hS hl
  exact lv_iushr E.1 E.2.1 hd rfl (kk l D p e R s mi args below meth c H locs cells slots Z ls E hR hS hl)
theorem xs_ladd {y z : Int64} (he : xD m pc (.ladd) 1 nx) (kk : xW G m d k n Q nx L (.long (y + z) :: st) S M) : xW G m d k n Q pc L (.long z :: .long y :: st) S M := by
  obtain ⟨hd, rfl⟩ := he
  intro l D p e R s mi args below meth c H locs cells slots Z ls E hR hS hl
  exact lv_ladd E.1 E.2.1 hd (kk l D p e R s mi args below meth c H locs cells slots Z ls E hR hS hl)
theorem xs_lmul {y z : Int64} (he : xD m pc (.lmul) 1 nx) (kk : xW G m d k n Q nx L (.long (y * z) :: st) S M) : xW G m d k n Q pc L (.long z :: .long y :: st) S M := by
  obtain ⟨hd, rfl⟩ := he
  intro l D p e R s mi args below meth c H locs cells slots Z ls E hR hS hl
  exact lv_lmul E.1 E.2.1 hd (kk l D p e R s mi args below meth c H locs cells slots Z ls E hR hS hl)
theorem xs_ldiv {y z : Int64} (he : xD m pc (.ldiv) 1 nx) (hz : ¬ z = 0) (kk : xW G m d k n Q nx L (.long (y / z) :: st) S M) : xW G m d k n Q pc L (.long z :: .long y :: st) S M := by
  obtain ⟨hd, rfl⟩ := he
  intro l D p e R s mi args below meth c H locs cells slots Z ls E hR hS hl
  exact lv_ldiv E.1 E.2.1 hd hz (kk l D p e R s mi args below meth c H locs cells slots Z ls E hR hS hl)
theorem xs_lrem {y z : Int64} (he : xD m pc (.lrem) 1 nx) (hz : ¬ z = 0) (kk : xW G m d k n Q nx L (.long (y - y / z * z) :: st) S M) : xW G m d k n Q pc L (.long z :: .long y :: st) S M := by
  obtain ⟨hd, rfl⟩ := he
  intro l D p e R s mi args below meth c H locs cells slots Z ls E hR hS hl
  exact lv_lrem E.1 E.2.1 hd hz (kk l D p e R s mi args below meth c H locs cells slots Z ls E hR hS hl)
theorem xs_lcmp {y z : Int64} (he : xD m pc (.lcmp) 1 nx) (kk : xW G m d k n Q nx L (.int (lg_cmp y z) :: st) S M) : xW G m d k n Q pc L (.long z :: .long y :: st) S M := by
  obtain ⟨hd, rfl⟩ := he
  intro l D p e R s mi args below meth c H locs cells slots Z ls E hR hS hl
  exact W.lcmp E.1 E.2.1 hd (kk l D p e R s mi args below meth c H locs cells slots Z ls E hR hS hl)
theorem xs_i2l {y : Int32} (he : xD m pc (.i2l) 1 nx) (kk : xW G m d k n Q nx L (.long y.toInt64 :: st) S M) : xW G m d k n Q pc L (.int y :: st) S M := by
  obtain ⟨hd, rfl⟩ := he
  intro l D p e R s mi args below meth c H locs cells slots Z ls E hR hS hl
  exact lv_i2l E.1 E.2.1 hd rfl (kk l D p e R s mi args below meth c H locs cells slots Z ls E hR hS hl)
theorem xs_l2i {y : Int64} (he : xD m pc (.l2i) 1 nx) (kk : xW G m d k n Q nx L (.int y.toInt32 :: st) S M) : xW G m d k n Q pc L (.long y :: st) S M := by
  obtain ⟨hd, rfl⟩ := he
  intro l D p e R s mi args below meth c H locs cells slots Z ls E hR hS hl
  exact lv_l2i E.1 E.2.1 hd rfl (kk l D p e R s mi args below meth c H locs cells slots Z ls E hR hS hl)
theorem xs_i2b {y : Int32} (he : xD m pc (.i2b) 1 nx) (kk : xW G m d k n Q nx L (.int y.toInt8.toInt32 :: st) S M) : xW G m d k n Q pc L (.int y :: st) S M := by
  obtain ⟨hd, rfl⟩ := he
  intro l D p e R s mi args below meth c H locs cells slots Z ls E hR hS hl
  exact lv_i2b E.1 E.2.1 hd rfl (kk l D p e R s mi args below meth c H locs cells slots Z ls E hR hS hl)
theorem xs_i2c {y : Int32} (he : xD m pc (.i2c) 1 nx) (kk : xW G m d k n Q nx L (.int (y.toUInt32 % 65536).toInt32 :: st) S M) : xW G m d k n Q pc L (.int y :: st) S M := by
  obtain ⟨hd, rfl⟩ := he
  intro l D p e R s mi args below meth c H locs cells slots Z ls E hR hS hl
  exact lv_i2c E.1 E.2.1 hd rfl (kk l D p e R s mi args below meth c H locs cells slots Z ls E hR hS hl)
theorem xs_dup {v : Value} (he : xD m pc (.dup) 1 nx) (hv : v.category = 1) (kk : xW G m d k n Q nx L (v :: v :: st) S M) : xW G m d k n Q pc L (v :: st) S M := by
  obtain ⟨hd, rfl⟩ := he
  intro l D p e R s mi args below meth c H locs cells slots Z ls E hR hS hl
  exact lv_dup E.1 E.2.1 hd hv (kk l D p e R s mi args below meth c H locs cells slots Z ls E hR hS hl)
theorem xs_pop {v : Value} (he : xD m pc (.pop) 1 nx) (hv : v.category = 1) (kk : xW G m d k n Q nx L (st) S M) : xW G m d k n Q pc L (v :: st) S M := by
  obtain ⟨hd, rfl⟩ := he
  intro l D p e R s mi args below meth c H locs cells slots Z ls E hR hS hl
  exact lv_pop E.1 E.2.1 hd hv (kk l D p e R s mi args below meth c H locs cells slots Z ls E hR hS hl)
theorem xs_dup2 {v w : Value} (he : xD m pc (.dup2) 1 nx) (hv : v.category = 1) (hw : w.category = 1) (kk : xW G m d k n Q nx L (v :: w :: v :: w :: st) S M) : xW G m d k n Q pc L (v :: w :: st) S M := by
  obtain ⟨hd, rfl⟩ := he
  intro l D p e R s mi args below meth c H locs cells slots Z ls E hR hS hl
  exact lv_dup2_11 E.1 E.2.1 hd hv hw (kk l D p e R s mi args below meth c H locs cells slots Z ls E hR hS hl)
theorem xs_if_eq {y : Int32} {tgt : Nat} (he : xJ m pc (.ifCond .eq) tgt nx) (kt : y = 0 → xW G m d k n Q tgt L st S M) (kf : ¬ (y = 0) → xW G m d k n Q nx L st S M) : xW G m d k n Q pc L (.int y :: st) S M := by
  obtain ⟨off, hd, ht, rfl⟩ := he
  intro l D p e R s mi args below meth c H locs cells slots Z ls E hR hS hl
  exact lv_if_eq E.1 E.2.1 hd ht (fun h => kt h l D p e R s mi args below meth c H locs cells slots Z ls E hR hS hl) (fun h => kf h l D p e R s mi args below meth c H locs cells slots Z ls E hR hS hl)
theorem xs_icmp_eq {y z : Int32} {tgt : Nat} (he : xJ m pc (.if_icmp .eq) tgt nx) (kt : y = z → xW G m d k n Q tgt L st S M) (kf : ¬ (y = z) → xW G m d k n Q nx L st S M) : xW G m d k n Q pc L (.int z :: .int y :: st) S M := by
  obtain ⟨off, hd, ht, rfl⟩ := he
  intro l D p e R s mi args below meth c H locs cells slots Z ls E hR hS hl
  exact lv_icmp_eq E.1 E.2.1 hd ht (fun h => kt h l D p e R s mi args below meth c H locs cells slots Z ls E hR hS hl) (fun h => kf h l D p e R s mi args below meth c H locs cells slots Z ls E hR hS hl)
theorem xs_if_ne {y : Int32} {tgt : Nat} (he : xJ m pc (.ifCond .ne) tgt nx) (kt : y ≠ 0 → xW G m d k n Q tgt L st S M) (kf : y = 0 → xW G m d k n Q nx L st S M) : xW G m d k n Q pc L (.int y :: st) S M := by
  obtain ⟨off, hd, ht, rfl⟩ := he
  intro l D p e R s mi args below meth c H locs cells slots Z ls E hR hS hl
  exact lv_if_ne E.1 E.2.1 hd ht (fun h => kt h l D p e R s mi args below meth c H locs cells slots Z ls E hR hS hl) (fun h => kf h l D p e R s mi args below meth c H locs cells slots Z ls E hR hS hl)
theorem xs_icmp_ne {y z : Int32} {tgt : Nat} (he : xJ m pc (.if_icmp .ne) tgt nx) (kt : y ≠ z → xW G m d k n Q tgt L st S M) (kf : y = z → xW G m d k n Q nx L st S M) : xW G m d k n Q pc L (.int z :: .int y :: st) S M := by
  obtain ⟨off, hd, ht, rfl⟩ := he
  intro l D p e R s mi args below meth c H locs cells slots Z ls E hR hS hl
  exact lv_icmp_ne E.1 E.2.1 hd ht (fun h => kt h l D p e R s mi args below meth c H locs cells slots Z ls E hR hS hl) (fun h => kf h l D p e R s mi args below meth c H locs cells slots Z ls E hR hS hl)
theorem xs_if_lt {y : Int32} {tgt : Nat} (he : xJ m pc (.ifCond .lt) tgt nx) (kt : y < 0 → xW G m d k n Q tgt L st S M) (kf : ¬ (y < 0) → xW G m d k n Q nx L st S M) : xW G m d k n Q pc L (.int y :: st) S M := by
  obtain ⟨off, hd, ht, rfl⟩ := he
  intro l D p e R s mi args below meth c H locs cells slots Z ls E hR hS hl
  exact lv_if_lt E.1 E.2.1 hd ht (fun h => kt h l D p e R s mi args below meth c H locs cells slots Z ls E hR hS hl) (fun h => kf h l D p e R s mi args below meth c H locs cells slots Z ls E hR hS hl)
theorem xs_icmp_lt {y z : Int32} {tgt : Nat} (he : xJ m pc (.if_icmp .lt) tgt nx) (kt : y < z → xW G m d k n Q tgt L st S M) (kf : ¬ (y < z) → xW G m d k n Q nx L st S M) : xW G m d k n Q pc L (.int z :: .int y :: st) S M := by
  obtain ⟨off, hd, ht, rfl⟩ := he
  intro l D p e R s mi args below meth c H locs cells slots Z ls E hR hS hl
  exact lv_icmp_lt E.1 E.2.1 hd ht (fun h => kt h l D p e R s mi args below meth c H locs cells slots Z ls E hR hS hl) (fun h => kf h l D p e R s mi args below meth c H locs cells slots Z ls E hR hS hl)
theorem xs_if_ge {y : Int32} {tgt : Nat} (he : xJ m pc (.ifCond .ge) tgt nx) (kt : 0 ≤ y → xW G m d k n Q tgt L st S M) (kf : ¬ (0 ≤ y) → xW G m d k n Q nx L st S M) : xW G m d k n Q pc L (.int y :: st) S M := by
  obtain ⟨off, hd, ht, rfl⟩ := he
  intro l D p e R s mi args below meth c H locs cells slots Z ls E hR hS hl
  exact lv_if_ge E.1 E.2.1 hd ht (fun h => kt h l D p e R s mi args below meth c H locs cells slots Z ls E hR hS hl) (fun h => kf h l D p e R s mi args below meth c H locs cells slots Z ls E hR hS hl)
theorem xs_icmp_ge {y z : Int32} {tgt : Nat} (he : xJ m pc (.if_icmp .ge) tgt nx) (kt : z ≤ y → xW G m d k n Q tgt L st S M) (kf : ¬ (z ≤ y) → xW G m d k n Q nx L st S M) : xW G m d k n Q pc L (.int z :: .int y :: st) S M := by
  obtain ⟨off, hd, ht, rfl⟩ := he
  intro l D p e R s mi args below meth c H locs cells slots Z ls E hR hS hl
  exact lv_icmp_ge E.1 E.2.1 hd ht (fun h => kt h l D p e R s mi args below meth c H locs cells slots Z ls E hR hS hl) (fun h => kf h l D p e R s mi args below meth c H locs cells slots Z ls E hR hS hl)
theorem xs_if_gt {y : Int32} {tgt : Nat} (he : xJ m pc (.ifCond .gt) tgt nx) (kt : 0 < y → xW G m d k n Q tgt L st S M) (kf : ¬ (0 < y) → xW G m d k n Q nx L st S M) : xW G m d k n Q pc L (.int y :: st) S M := by
  obtain ⟨off, hd, ht, rfl⟩ := he
  intro l D p e R s mi args below meth c H locs cells slots Z ls E hR hS hl
  exact lv_if_gt E.1 E.2.1 hd ht (fun h => kt h l D p e R s mi args below meth c H locs cells slots Z ls E hR hS hl) (fun h => kf h l D p e R s mi args below meth c H locs cells slots Z ls E hR hS hl)
theorem xs_icmp_gt {y z : Int32} {tgt : Nat} (he : xJ m pc (.if_icmp .gt) tgt nx) (kt : z < y → xW G m d k n Q tgt L st S M) (kf : ¬ (z < y) → xW G m d k n Q nx L st S M) : xW G m d k n Q pc L (.int z :: .int y :: st) S M := by
  obtain ⟨off, hd, ht, rfl⟩ := he
  intro l D p e R s mi args below meth c H locs cells slots Z ls E hR hS hl
  exact lv_icmp_gt E.1 E.2.1 hd ht (fun h => kt h l D p e R s mi args below meth c H locs cells slots Z ls E hR hS hl) (fun h => kf h l D p e R s mi args below meth c H locs cells slots Z ls E hR hS hl)
theorem xs_if_le {y : Int32} {tgt : Nat} (he : xJ m pc (.ifCond .le) tgt nx) (kt : y ≤ 0 → xW G m d k n Q tgt L st S M) (kf : ¬ (y ≤ 0) → xW G m d k n Q nx L st S M) : xW G m d k n Q pc L (.int y :: st) S M := by
  obtain ⟨off, hd, ht, rfl⟩ := he
  intro l D p e R s mi args below meth c H locs cells slots Z ls E hR hS hl
  exact lv_if_le E.1 E.2.1 hd ht (fun h => kt h l D p e R s mi args below meth c H locs cells slots Z ls E hR hS hl) (fun h => kf h l D p e R s mi args below meth c H locs cells slots Z ls E hR hS hl)
theorem xs_icmp_le {y z : Int32} {tgt : Nat} (he : xJ m pc (.if_icmp .le) tgt nx) (kt : y ≤ z → xW G m d k n Q tgt L st S M) (kf : ¬ (y ≤ z) → xW G m d k n Q nx L st S M) : xW G m d k n Q pc L (.int z :: .int y :: st) S M := by
  obtain ⟨off, hd, ht, rfl⟩ := he
  intro l D p e R s mi args below meth c H locs cells slots Z ls E hR hS hl
  exact lv_icmp_le E.1 E.2.1 hd ht (fun h => kt h l D p e R s mi args below meth c H locs cells slots Z ls E hR hS hl) (fun h => kf h l D p e R s mi args below meth c H locs cells slots Z ls E hR hS hl)
theorem xs_goto {tgt : Nat} (he : xJ m pc .goto tgt nx) (kk : xW G m d k n Q tgt L st S M) : xW G m d k n Q pc L st S M := by
  obtain ⟨off, hd, ht, -⟩ := he
  intro l D p e R s mi args below meth c H locs cells slots Z ls E hR hS hl
  exact lv_goto E.1 E.2.1 hd ht (kk l D p e R s mi args below meth c H locs cells slots Z ls E hR hS hl)
/-- tableswitch: the place that a number goes to -/
def xTS (m : xM) (pc : Nat) (lo hi : Int) (f : Int → Nat) (dflt : Nat) : Prop := ∃ (dd : Int) (offs : Array Int) (w : Nat), decode m.2.1 pc = .ok (.tableswitch dd lo hi offs, w) ∧ (pc : Int) + dd = (dflt : Int) ∧ ∀ j : Nat, j < (hi - lo + 1).toNat → ∃ o : Int, offs[j]? = some o ∧ (pc : Int) + o = (f (lo + j) : Int)
theorem xs_tsOut {y : Int32} {lo hi : Int} {f : Int → Nat} {dflt : Nat} (he : xTS m pc lo hi f dflt) (h : y.toInt < lo ∨ hi < y.toInt) (kk : xW G m d k n Q dflt L st S M) : xW G m d k n Q pc L (.int y :: st) S M := by
  obtain ⟨dd, offs, w, hd, h1, -⟩ := he
  intro l D p e R s mi args below meth c H locs cells slots Z ls E hR hS hl
  exact lv_tableOut E.1 E.2.1 hd h h1 (kk l D p e R s mi args below meth c H locs cells slots Z ls E hR hS hl)
theorem xs_tsIn {y : Int32} {lo hi : Int} {f : Int → Nat} {dflt tgt : Nat} (he : xTS m pc lo hi f dflt) (v : Int) (hv : y.toInt = v) (h1 : lo ≤ v) (h2 : v ≤ hi) (ht : f v = tgt) (kk : xW G m d k n Q tgt L st S M) : xW G m d k n Q pc L (.int y :: st) S M := by
  subst hv
  subst ht
  obtain ⟨dd, offs, w, hd, -, h4⟩ := he
  obtain ⟨o, ho1, ho2⟩ := h4 (y.toInt - lo).toNat (by omega)
  have e : lo + ((y.toInt - lo).toNat : Int) = y.toInt := by omega
  rw [e] at ho2
  intro l D p e R s mi args below meth c H locs cells slots Z ls E hR hS hl
  exact lv_tableIn E.1 E.2.1 hd (by omega) (by omega) ho1 ho2 (kk l D p e R s mi args below meth c H locs cells slots Z ls E hR hS hl)
theorem xs_iret {y : Int32} (he : xD m pc .ireturn 1 nx) {ty : FieldType} (hty : m.2.2.2 = some ty) (hn : narrow ty (.int y) = .int y) (h : Q (some (.int y)) S M) : xW G m d k n Q pc L [.int y] S M := by
  intro l D p e R s mi args below meth c H locs cells slots Z ls E hR hS hl
  exact E.2.2.2.2.2.2.2.2 H locs cells slots ls (some (.int y)) S M pc hR hS (by have := E.2.2.2.2.2.2.2.1; omega) (by have := E.2.2.2.2.2.2.2.1; omega) h ⟨he.1, ty, hty, hn⟩
theorem xs_vret (he : xD m pc .return_ 1 nx) (hty : m.2.2.2 = none) (h : Q none S M) : xW G m d k n Q pc L [] S M := by
  intro l D p e R s mi args below meth c H locs cells slots Z ls E hR hS hl
  exact E.2.2.2.2.2.2.2.2 H locs cells slots ls none S M pc hR hS (by have := E.2.2.2.2.2.2.2.1; omega) (by have := E.2.2.2.2.2.2.2.1; omega) h ⟨he.1, hty⟩
end XR
end
section
/-! ROWS OF THE HEAP: fields, arrays, new cells -/
theorem inX0 : ∀ w ∈ u_ws RX0 TX0 7, w ∈ xT := by decide +kernel
theorem inX1 : ∀ w ∈ u_ws RX1 TX1 4, w ∈ xT := by decide +kernel
theorem inX2 : ∀ w ∈ u_ws RX2 TX2 8, w ∈ xT := by decide +kernel
theorem inX3 : ∀ w ∈ u_ws RX3 TX3 8, w ∈ xT := by decide +kernel
theorem inX4 : ∀ w ∈ u_ws RX4 TX4 3, w ∈ xT := by decide +kernel
theorem inX5 : ∀ w ∈ u_ws RX5 TX5 2, w ∈ xT := by decide +kernel
theorem inX6 : ∀ w ∈ u_ws RX6 TX6 2, w ∈ xT := by decide +kernel
theorem inX7 : ∀ w ∈ u_ws RX7 TX7 6, w ∈ xT := by decide +kernel
theorem inX8 : ∀ w ∈ u_ws RX8 TX8 3, w ∈ xT := by decide +kernel
theorem inX9 : ∀ w ∈ u_ws RX9 TX9 12, w ∈ xT := by decide +kernel
theorem inX10 : ∀ w ∈ u_ws RX10 TX10 26, w ∈ xT := by decide +kernel
/-- what is known of every class: its fields' words, their types, their names -/
def xKnown (q : vw_C) : Prop := (∀ w ∈ u_ws q.1 q.2.1 q.2.2, w ∈ xT) ∧ (∃ ty : Nat → FieldType, ∀ k, k < q.2.2 → parseFieldDescriptor (q.2.1 k).2.2.1 = some (ty k)) ∧ ∀ a, a < q.2.2 → ∀ b, b < q.2.2 → a ≠ b → (q.2.1 a).2.1 ≠ (q.2.1 b).2.1
theorem xKnown_at {ci : Nat} {q : vw_C} (h : vwCl[ci]? = some q) : xKnown q := by
  match ci, h with
  | 0, h => cases h; exact ⟨inX0, ⟨tyX0, tyX0_ok⟩, nmX0⟩
  | 1, h => cases h; exact ⟨inX1, ⟨tyX1, tyX1_ok⟩, nmX1⟩
  | 2, h => cases h; exact ⟨inX2, ⟨tyX2, tyX2_ok⟩, nmX2⟩
  | 3, h => cases h; exact ⟨inX3, ⟨tyX3, tyX3_ok⟩, nmX3⟩
  | 4, h => cases h; exact ⟨inX4, ⟨tyX4, tyX4_ok⟩, nmX4⟩
  | 5, h => cases h; exact ⟨inX5, ⟨tyX5, tyX5_ok⟩, nmX5⟩
  | 6, h => cases h; exact ⟨inX6, ⟨tyX6, tyX6_ok⟩, nmX6⟩
  | 7, h => cases h; exact ⟨inX7, ⟨tyX7, tyX7_ok⟩, nmX7⟩
  | 8, h => cases h; exact ⟨inX8, ⟨tyX8, tyX8_ok⟩, nmX8⟩
  | 9, h => cases h; exact ⟨inX9, ⟨tyX9, tyX9_ok⟩, nmX9⟩
  | 10, h => cases h; exact ⟨inX10, ⟨tyX10, tyX10_ok⟩, nmX10⟩
  | k + 11, h => simp [vwCl] at h
/-- a field's entry of the pool: field k of class ci -/
def xFl (own : String) (idx ci k : Nat) (ty : FieldType) (fin : Bool) : Prop := ∃ q : vw_C, vwCl[ci]? = some q ∧ k < q.2.2 ∧ parseFieldDescriptor (q.2.1 k).2.2.1 = some ty ∧ (q.2.1 k).2.2.2 = fin ∧ (q.2.1 k).1 = q.1 ∧ (Cond.fieldLink own idx (q.2.1 k).1 (q.2.1 k).2.1 (q.2.1 k).2.2.1 ∈ xT ∨ ∃ host, Cond.fieldLinkNest own idx (q.2.1 k).1 (q.2.1 k).2.1 (q.2.1 k).2.2.1 host ∈ xNest)
def xGF (m : xM) (pc ci k nx : Nat) : Prop := ∃ (idx : Nat) (ty : FieldType) (fin : Bool), decode m.2.1 pc = .ok (.getfield idx, 3) ∧ pc + 3 = nx ∧ xFl m.1.cls idx ci k ty fin
def xPF (m : xM) (pc ci k : Nat) (ty : FieldType) (nx : Nat) : Prop := ∃ (idx : Nat) (fin : Bool), decode m.2.1 pc = .ok (.putfield idx, 3) ∧ pc + 3 = nx ∧ xFl m.1.cls idx ci k ty fin ∧ (fin = true → m.1.name = "<init>" ∧ (∃ q : vw_C, vwCl[ci]? = some q ∧ q.1 = m.1.cls) ∧ ∃ q : vw_C, vwCl[ci]? = some q ∧ Cond.fieldLink m.1.cls idx (q.2.1 k).1 (q.2.1 k).2.1 (q.2.1 k).2.2.1 ∈ xT)
def up2 (M : xMem) (c k : Nat) (v : Int32) : xMem := fun a i => if a = c ∧ i = k then v else M a i
def setR (M : xMem) (c : Nat) (f : Nat → Int32) : xMem := fun a => if a = c then f else M a
theorem up2_ne {M : xMem} {c k a : Nat} {v : Int32} (h : a ≠ c) : up2 M c k v a = M a := by
  funext i
  simp [up2, h]
theorem up2_row {M : xMem} {c k : Nat} {v : Int32} : up2 M c k v c = upd (M c) k v := by
  funext i
  simp [up2, upd]
theorem setR_ne {M : xMem} {c a : Nat} {f : Nat → Int32} (h : a ≠ c) : setR M c f a = M a := by simp [setR, h]
theorem setR_row {M : xMem} {c : Nat} {f : Nat → Int32} : setR M c f c = f := by simp [setR]
section XH
variable {G : xGl} {m : xM} {d k n pc nx : Nat} {Q : Option Value → List xSh → xMem → Prop} {L : List (Option Value)} {st : List Value} {S : List xSh} {M : xMem}
theorem xs_get {c ci j : Nat} {fs : List (Option (Option Nat))} {o : Option (Option Nat)} (he : xGF m pc ci j nx) (hs : S[c]? = some (.inr (.inl (ci, fs)))) (ho : fs[j]? = some o) (kk : xW G m d k n Q nx L (xval G.1 M c j o :: st) S M) : xW G m d k n Q pc L (.ref (G.1 + c) :: st) S M := by
  obtain ⟨idx, ty, fin, hd, rfl, q, hq, hj, -, -, -, hlk⟩ := he
  intro l D p e R s mi args below meth ccc H locs cells slots Z ls E hR hS hl
  obtain ⟨r, hr, hOB⟩ := hR.2 c _ hs
  obtain rfl : r = q := Option.some.inj (hr.symm.trans hq)
  obtain ⟨C, T, N⟩ := r
  obtain ⟨cell, q1, q2, q3, q4⟩ := hOB
  have hK := E.2.2.2.2.2.2.1.2.1
  obtain ⟨hSl, hfc, kC, hkC, hkind⟩ := hK.1 ci _ hq
  obtain ⟨cf, kf, fi, f, hi, hsl⟩ := hSl j hj
  have hst := (u_facts hfc hkC (u_lays E.2.2.2.2.1 (xKnown_at hq).1 hj) hi).1
  have hv : cell.slots[f.slot]? = some (xval G.1 M c j o) := by
    rw [hsl, q4 j hj]
    simp [ho]
  rcases hlk with hlk | ⟨host, hlk⟩
  · exact W.getf E.1 E.2.1 E.2.2.2.1 (E.2.2.2.2.1 _ hlk) hi hst q1 (by rw [q3]; exact fun h => by cases h) hv rfl rfl hd (kk l D p e R s mi args below meth ccc H locs cells slots Z ls E hR hS hl)
  · exact va_Wgetf E.1 E.2.1 E.2.2.2.1 (va_Nw.use rfl (E.2.2.2.2.2.2.1.2.2.1 _ hlk)) hi hst q1 (by rw [q3]; exact fun h => by cases h) hv rfl rfl hd (kk l D p e R s mi args below meth ccc H locs cells slots Z ls E hR hS hl)
theorem xs_getI {c ci j : Nat} {fs : List (Option (Option Nat))} (he : xGF m pc ci j nx) (hs : S[c]? = some (.inr (.inl (ci, fs)))) (ho : fs[j]? = some none) (kk : xW G m d k n Q nx L (.int (M c j) :: st) S M) : xW G m d k n Q pc L (.ref (G.1 + c) :: st) S M := xs_get he hs ho kk
theorem xs_getR {c ci j r : Nat} {fs : List (Option (Option Nat))} (he : xGF m pc ci j nx) (hs : S[c]? = some (.inr (.inl (ci, fs)))) (ho : fs[j]? = some (some (some r))) (kk : xW G m d k n Q nx L (.ref (G.1 + r) :: st) S M) : xW G m d k n Q pc L (.ref (G.1 + c) :: st) S M := xs_get he hs ho kk
theorem xs_put {c ci j : Nat} {ty : FieldType} {v : Value} {M1 : xMem} {fs fs1 : List (Option (Option Nat))} (he : xPF m pc ci j ty nx) (hs : S[c]? = some (.inr (.inl (ci, fs)))) (hn : narrow ty v = v) (hf : fits ty v = true) (hM : ∀ a, a ≠ c → M1 a = M a) (hV : ∀ i, xval G.1 M1 c i (fs1.getD i none) = updV (fun i => xval G.1 M c i (fs.getD i none)) j v i)
    (kk : xW G m d k n Q nx L st (S.set c (.inr (.inl (ci, fs1)))) M1) : xW G m d k n Q pc L (v :: .ref (G.1 + c) :: st) S M := by
  obtain ⟨idx, fin, hd, rfl, ⟨q, hq, hj, hty, hfin, hown1, hlk⟩, hini⟩ := he
  intro l D p e R s mi args below meth ccc H locs cells slots Z ls E hR hS hl
  obtain ⟨r, hr, hOB⟩ := hR.2 c _ hs
  obtain rfl : r = q := Option.some.inj (hr.symm.trans hq)
  obtain ⟨C, T, N⟩ := r
  obtain ⟨cell, q1, q2, q3, q4⟩ := hOB
  have hts := E.2.2.2.2.1
  have hown := E.2.2.2.1
  have hK := E.2.2.2.2.2.2.1.2.1
  obtain ⟨hin, ⟨ty0, hty0⟩, hnm⟩ := xKnown_at hq
  have hap := va_apart (own := m.1.cls) hts hin ty0 hty0 hnm hK hq
  obtain ⟨hSl, hfc, kC, hkC, hkind⟩ := hK.1 ci _ hq
  obtain ⟨cf, kf, fi, f, hi, hsl⟩ := hSl j hj
  have hst := (u_facts hfc hkC (u_lays hts hin hj) hi).1
  have hlay := hts _ (hin _ (u_in_lay hj))
  unfold u_lay at hlay
  have fin1 : ∀ H1 : Heap, H1[G.1 + c]? = some (cell.setSlot f.slot v) → H1.size = H.size → (∀ q, q ≠ G.1 + c → H1[q]? = H[q]?) → W p l e R s mi args below meth ccc H1 (locs ++ [⟨G.1 + c, f.slot⟩]) cells slots Z (F0 mi (pc + 3) ls st) := by
    intro H1 e1 e2 e3
    rw [hsl] at e1
    refine kk l D p e R s mi args below meth ccc H1 _ cells slots Z ls E (hR.set hs e2 e3 hM ⟨(C, T, N), hq, t_OB.to (V := updV (fun i => xval G.1 M c i (fs.getD i none)) j v) ⟨_, e1, q2, q3, t_set q4 hap hj v⟩ (fun i _ => (hV i).symm)⟩) (hS.put e2 e3 (Nat.le_add_right _ _)) hl
  cases hfn : fin with
  | false =>
    rw [if_neg (by rw [hfin, hfn]; decide)] at hlay
    have h6 := u_store hfc hkC hkind hlay hi hty hn hf
    rcases hlk with hlk | ⟨host, hlk⟩
    · exact W.putK E.1 E.2.1 (f := f) ⟨hown, hts _ hlk, ⟨_, _, _, hi⟩, hst⟩ (by rw [q2]; exact h6) q1 q3 (by rw [hsl]; exact k2_hasslot (q4 j hj)) rfl rfl hd fin1
    · exact va_WputK E.1 E.2.1 (f := f) hown (va_Nw.use rfl (E.2.2.2.2.2.2.1.2.2.1 _ hlk)) hi hst (by rw [q2]; exact h6) q1 q3 (by rw [hsl]; exact k2_hasslot (q4 j hj)) rfl rfl hd fin1
  | true =>
    rw [if_pos (by rw [hfin, hfn])] at hlay
    obtain ⟨hnm1, ⟨q', hq', hqc⟩, q'', hq'', hlk2⟩ := hini hfn
    obtain rfl : q' = (C, T, N) := Option.some.inj (hq'.symm.trans hq)
    obtain rfl : q'' = (C, T, N) := Option.some.inj (hq''.symm.trans hq)
    have hcf : mi.cls = cf := by
      obtain ⟨_, _, c', _, _, _, -, -, hf', -, -, -, hown2, -⟩ := Cond.laysFinal_spec hlay
      have e1 : c' = cf := by have := hi.symm.trans hf'; simp at this; exact this.1.symm
      rw [hown1, hqc] at hown2
      rw [← e1]; exact Option.some.inj (hown.symm.trans hown2)
    have h6 := u_fits hfc hkC hkind (Or.inr hlay) hi hty hn hf
    exact W.putFinK E.1 E.2.1 hown (hts _ hlk2) hi hst hcf (E.2.2.2.2.2.1.trans hnm1) (by rw [q2]; exact h6) q1 q3 (by rw [hsl]; exact k2_hasslot (q4 j hj)) rfl rfl hd fin1
theorem xset_self {c : Nat} {sh : xSh} (hc : S[c]? = some sh) : S.set c sh = S := by
  apply List.ext_getElem?
  intro i
  by_cases q : i = c
  · subst q
    rw [List.getElem?_set_self (List.getElem?_eq_some_iff.mp hc).1, hc]
  · rw [List.getElem?_set_ne (Ne.symm q)]
theorem xs_putI {c ci j : Nat} {ty : FieldType} {y : Int32} {fs : List (Option (Option Nat))} (he : xPF m pc ci j ty nx) (hs : S[c]? = some (.inr (.inl (ci, fs)))) (ho : fs[j]? = some none) (hn : narrow ty (.int y) = .int y) (hf : fits ty (.int y) = true) (kk : xW G m d k n Q nx L st S (up2 M c j y)) : xW G m d k n Q pc L (.int y :: .ref (G.1 + c) :: st) S M := by
  refine xs_put (fs1 := fs) (M1 := up2 M c j y) he hs hn hf (fun a h => up2_ne h) (fun i => ?_) (by rw [xset_self hs]; exact kk)
  by_cases e : i = j
  · subst e
    simp [updV, ho, xval, up2]
  · rw [show updV (fun i => xval G.1 M c i (fs.getD i none)) j (.int y) i = xval G.1 M c i (fs.getD i none) from if_neg e]
    cases fs.getD i none with
    | none => simp [xval, up2, e]
    | some r => rfl
theorem xs_putR {c ci j r : Nat} {ty : FieldType} {fs : List (Option (Option Nat))} {S1 : List xSh} (he : xPF m pc ci j ty nx) (hs : S[c]? = some (.inr (.inl (ci, fs)))) (hj : j < fs.length) (hn : narrow ty (.ref (G.1 + r)) = .ref (G.1 + r)) (hf : fits ty (.ref (G.1 + r)) = true) (hS1 : S.set c (.inr (.inl (ci, fs.set j (some (some r))))) = S1) (kk : xW G m d k n Q nx L st S1 M) : xW G m d k n Q pc L (.ref (G.1 + r) :: .ref (G.1 + c) :: st) S M := by
  subst hS1
  refine xs_put (M1 := M) he hs hn hf (fun a h => rfl) (fun i => ?_) kk
  by_cases e : i = j
  · subst e
    simp [updV, xval, va_rf, hj]
  · simp [updV, e, List.getD_eq_getElem?_getD, List.getElem?_set_ne (Ne.symm e)]
/-- an array's element, by a number in range -/
theorem xs_iald {c j N : Nat} (he : xD m pc .iaload 1 nx) (hs : S[c]? = some (.inl (.int, N))) (hj : j < N) (hN : N < 2 ^ 31) (kk : xW G m d k n Q nx L (.int (M c j) :: st) S M) : xW G m d k n Q pc L (.int (nI j) :: .ref (G.1 + c) :: st) S M := by
  obtain ⟨hd, rfl⟩ := he
  intro l D p e R s mi args below meth ccc H locs cells slots Z ls E hR hS hl
  obtain ⟨cA, h1, h2⟩ := hR.2 c _ hs
  exact W.iald (v := .int (M c j)) E.1 E.2.1 h2 (h1 _ _) (fun q => by cases q) (by show ¬ (_ ∨ (arrV _ _ _).slots.size ≤ _); rw [arrV_size]; exact vp_in_nI hj hN) (by show (arrV _ _ _).slots[_]? = _; rw [nI_clamp (by omega), arrV_read _ _ hj]) rfl rfl hd (kk l D p e R s mi args below meth ccc H locs cells slots Z ls E hR hS hl)
theorem xs_cald {c j N : Nat} (he : xD m pc .caload 1 nx) (hs : S[c]? = some (.inl (.char, N))) (hj : j < N) (hN : N < 2 ^ 31) (kk : xW G m d k n Q nx L (.int (M c j) :: st) S M) : xW G m d k n Q pc L (.int (nI j) :: .ref (G.1 + c) :: st) S M := by
  obtain ⟨hd, rfl⟩ := he
  intro l D p e R s mi args below meth ccc H locs cells slots Z ls E hR hS hl
  obtain ⟨cA, h1, h2⟩ := hR.2 c _ hs
  exact W.cald (v := .int (M c j)) E.1 E.2.1 h2 (h1 _ _) (fun q => by cases q) (by show ¬ (_ ∨ (arrV _ _ _).slots.size ≤ _); rw [arrV_size]; exact vp_in_nI hj hN) (by show (arrV _ _ _).slots[_]? = _; rw [nI_clamp (by omega), arrV_read _ _ hj]) rfl rfl hd (kk l D p e R s mi args below meth ccc H locs cells slots Z ls E hR hS hl)
theorem xs_bald {c j N : Nat} (he : xD m pc .baload 1 nx) (hs : S[c]? = some (.inl (.byte, N))) (hj : j < N) (hN : N < 2 ^ 31) (kk : xW G m d k n Q nx L (.int (M c j) :: st) S M) : xW G m d k n Q pc L (.int (nI j) :: .ref (G.1 + c) :: st) S M := by
  obtain ⟨hd, rfl⟩ := he
  intro l D p e R s mi args below meth ccc H locs cells slots Z ls E hR hS hl
  obtain ⟨cA, h1, h2⟩ := hR.2 c _ hs
  exact W.bald (v := .int (M c j)) E.1 E.2.1 h2 (h1 _ _) (fun q => by cases q) (by show ¬ (_ ∨ (arrV _ _ _).slots.size ≤ _); rw [arrV_size]; exact vp_in_nI hj hN) (by show (arrV _ _ _).slots[_]? = _; rw [nI_clamp (by omega), arrV_read _ _ hj]) rfl rfl hd (kk l D p e R s mi args below meth ccc H locs cells slots Z ls E hR hS hl)
theorem xarr_set {D : va_G} {s : State} {H1 : Heap} {c j N : Nat} {ty : FieldType} {y : Int32} {cA : ClassId} (h1 : ArrOfT s cA ty) (e : H1[G.1 + c]? = some ((arrV cA N (fun j => Value.int (M c j))).setSlot j (.int y))) : xCell D s G.1 (up2 M c j y) c (.inl (ty, N)) H1 := by
  refine ⟨cA, h1, ?_⟩
  rw [e, arrV_store]
  congr 2
  funext q
  by_cases hq : q = j <;> simp [updV, up2, hq]
theorem xs_iast {c j N : Nat} {y : Int32} (he : xD m pc .iastore 1 nx) (hs : S[c]? = some (.inl (.int, N))) (hj : j < N) (hN : N < 2 ^ 31) (kk : xW G m d k n Q nx L st S (up2 M c j y)) : xW G m d k n Q pc L (.int y :: .int (nI j) :: .ref (G.1 + c) :: st) S M := by
  obtain ⟨hd, rfl⟩ := he
  intro l D p e R s mi args below meth ccc H locs cells slots Z ls E hR hS hl
  obtain ⟨cA, h1, h2⟩ := hR.2 c _ hs
  refine W.iast E.1 E.2.1 h2 (h1 _ _) (fun q => by cases q) (by show ¬ (_ ∨ (arrV _ _ _).slots.size ≤ _); rw [arrV_size]; exact vp_in_nI hj hN) rfl rfl hd fun H1 e1 z oq => ?_
  rw [nI_clamp (by omega)] at e1 ⊢
  exact kk l D p e R s mi args below meth ccc H1 _ cells slots Z ls E (hR.setM hs z oq (fun a h => up2_ne h) (xarr_set h1 e1)) (hS.put z oq (Nat.le_add_right _ _)) hl
theorem xs_cast {c j N : Nat} {y : Int32} (he : xD m pc .castore 1 nx) (hs : S[c]? = some (.inl (.char, N))) (hj : j < N) (hN : N < 2 ^ 31) (hy : narrow .char (.int y) = .int y) (kk : xW G m d k n Q nx L st S (up2 M c j y)) : xW G m d k n Q pc L (.int y :: .int (nI j) :: .ref (G.1 + c) :: st) S M := by
  obtain ⟨hd, rfl⟩ := he
  intro l D p e R s mi args below meth ccc H locs cells slots Z ls E hR hS hl
  obtain ⟨cA, h1, h2⟩ := hR.2 c _ hs
  refine W.cast E.1 E.2.1 h2 (h1 _ _) (fun q => by cases q) (by show ¬ (_ ∨ (arrV _ _ _).slots.size ≤ _); rw [arrV_size]; exact vp_in_nI hj hN) rfl rfl hd fun H1 e1 z oq => ?_
  rw [nI_clamp (by omega)] at e1 ⊢
  rw [hy] at e1
  exact kk l D p e R s mi args below meth ccc H1 _ cells slots Z ls E (hR.setM hs z oq (fun a h => up2_ne h) (xarr_set h1 e1)) (hS.put z oq (Nat.le_add_right _ _)) hl
theorem xs_bast {c j N : Nat} {y : Int32} (he : xD m pc .bastore 1 nx) (hs : S[c]? = some (.inl (.byte, N))) (hj : j < N) (hN : N < 2 ^ 31) (hy : narrow .byte (.int y) = .int y) (kk : xW G m d k n Q nx L st S (up2 M c j y)) : xW G m d k n Q pc L (.int y :: .int (nI j) :: .ref (G.1 + c) :: st) S M := by
  obtain ⟨hd, rfl⟩ := he
  intro l D p e R s mi args below meth ccc H locs cells slots Z ls E hR hS hl
  obtain ⟨cA, h1, h2⟩ := hR.2 c _ hs
  refine W.bast E.1 E.2.1 h2 (h1 _ _) (fun q => by cases q) (by show ¬ (_ ∨ (arrV _ _ _).slots.size ≤ _); rw [arrV_size]; exact vp_in_nI hj hN) rfl rfl hd fun H1 e1 z oq => ?_
  rw [nI_clamp (by omega)] at e1 ⊢
  rw [hy] at e1
  exact kk l D p e R s mi args below meth ccc H1 _ cells slots Z ls E (hR.setM hs z oq (fun a h => up2_ne h) (xarr_set h1 e1)) (hS.put z oq (Nat.le_add_right _ _)) hl
theorem xs_aald {c j r : Nat} {ty : FieldType} {rs : List (Option Nat)} (he : xD m pc .aaload 1 nx) (hs : S[c]? = some (.inr (.inr (ty, rs)))) (hty : ty.isReference = true) (hr : rs[j]? = some (some r)) (hN : rs.length < 2 ^ 31) (kk : xW G m d k n Q nx L (.ref (G.1 + r) :: st) S M) : xW G m d k n Q pc L (.int (nI j) :: .ref (G.1 + c) :: st) S M := by
  obtain ⟨hd, rfl⟩ := he
  intro l D p e R s mi args below meth ccc H locs cells slots Z ls E hR hS hl
  obtain ⟨cA, h1, -, h2⟩ := hR.2 c _ hs
  have hj : j < rs.length := (List.getElem?_eq_some_iff.mp hr).1
  exact W.aald (v := .ref (G.1 + r)) (ty := ty) E.1 E.2.1 h2 (h1 _ _) hty (fun q => by cases q) (by show ¬ (_ ∨ (arrV _ _ _).slots.size ≤ _); rw [arrV_size]; exact vp_in_nI hj hN) (by show (arrV _ _ _).slots[_]? = _; rw [nI_clamp (by omega), arrV_read _ _ hj]; simp [hr, va_rf]) rfl rfl hd (kk l D p e R s mi args below meth ccc H locs cells slots Z ls E hR hS hl)
theorem xs_alenI {c N : Nat} {ty : FieldType} (he : xD m pc .arraylength 1 nx) (hs : S[c]? = some (.inl (ty, N))) (kk : xW G m d k n Q nx L (.int (nI N) :: st) S M) : xW G m d k n Q pc L (.ref (G.1 + c) :: st) S M := by
  obtain ⟨hd, rfl⟩ := he
  intro l D p e R s mi args below meth ccc H locs cells slots Z ls E hR hS hl
  obtain ⟨cA, h1, h2⟩ := hR.2 c _ hs
  exact W.alen (n := nI N) E.1 E.2.1 h2 (h1 _ _) (by rw [arrV_size]; rfl) rfl rfl hd (kk l D p e R s mi args below meth ccc H locs cells slots Z ls E hR hS hl)
theorem xs_alenR {c : Nat} {ty : FieldType} {rs : List (Option Nat)} (he : xD m pc .arraylength 1 nx) (hs : S[c]? = some (.inr (.inr (ty, rs)))) (kk : xW G m d k n Q nx L (.int (nI rs.length) :: st) S M) : xW G m d k n Q pc L (.ref (G.1 + c) :: st) S M := by
  obtain ⟨hd, rfl⟩ := he
  intro l D p e R s mi args below meth ccc H locs cells slots Z ls E hR hS hl
  obtain ⟨cA, h1, -, h2⟩ := hR.2 c _ hs
  exact W.alen (n := nI rs.length) E.1 E.2.1 h2 (h1 _ _) (by rw [arrV_size]; rfl) rfl rfl hd (kk l D p e R s mi args below meth ccc H locs cells slots Z ls E hR hS hl)
/-- the law's script -/
theorem xs_sld {j : Nat} (he : xD m pc .iaload 1 nx) (hj : j < G.2.2.1) (hN : G.2.2.1 < 2 ^ 31) (kk : xW G m d k n Q nx L (.int (G.2.2.2.1 j) :: st) S M) : xW G m d k n Q pc L (.int (nI j) :: .ref G.2.1 :: st) S M := by
  obtain ⟨hd, rfl⟩ := he
  intro l D p e R s mi args below meth ccc H locs cells slots Z ls E hR hS hl
  obtain ⟨hX, hlt⟩ := E.2.2.2.2.2.2.1.2.2.2.1
  have hB := E.2.2.2.2.2.2.1.1
  have K := kk l D p e R s mi args below meth ccc H locs cells slots Z ls E hR hS hl
  refine va_sld E.1 E.2.1 hX (by omega) (show ¬ G.1 ≤ G.2.1 by omega) hS (vp_in_nI hj hN) hd ?_
  rw [nI_clamp (by omega)]
  exact K
theorem xs_slen (he : xD m pc .arraylength 1 nx) (kk : xW G m d k n Q nx L (.int (nI G.2.2.1) :: st) S M) : xW G m d k n Q pc L (.ref G.2.1 :: st) S M := by
  obtain ⟨hd, rfl⟩ := he
  intro l D p e R s mi args below meth ccc H locs cells slots Z ls E hR hS hl
  obtain ⟨hX, hlt⟩ := E.2.2.2.2.2.2.1.2.2.2.1
  have hB := E.2.2.2.2.2.2.1.1
  exact va_slen E.1 E.2.1 hX (by omega) (show ¬ G.1 ≤ G.2.1 by omega) hS hd (kk l D p e R s mi args below meth ccc H locs cells slots Z ls E hR hS hl)
end XH
end
section
/-! CALLS: a callee's contract, its end the walk that goes on -/
section XC1
variable {p : Program} {l : Launch} {e : Env} {R : Room} {s : State} {mi : MethodId} {args : Array Value} {below : List Frame} {meth : Method} {c : Code} {H : Heap} {locs : List Loc} {cells slots : Nat} {Z : State → Prop}
theorem xcall {G : xGl} {D : va_G} {Q' : Option Value → List xSh → xMem → Prop} {a : Array Value} {mc ms pc : Nat} {ls : Array Slot} {st0 rest : List Value} (hr : va_Run p l e R s mi args below meth c H locs cells slots mc ms (F0 mi pc ls st0) rest (xPost G D Q' a) (fun q => G.1 ≤ q)) (hS : va_S (fun q => G.1 ≤ q) s.heap H locs)
    (kk : ∀ (v : Option Value) (S' : List xSh) (M' : xMem) (H1 : Heap) (locs1 : List Loc), xRep D G.1 S' M' s H1 → Q' v S' M' → va_S (fun q => G.1 ≤ q) s.heap H1 locs1 → W p l e R s mi args below meth c H1 locs1 (cells + mc) (slots + ms) Z (F0 mi (pc + 3) ls (v.toList ++ rest))) : W p l e R s mi args below meth c H locs cells slots Z (F0 mi pc ls st0) := by
  intro T hT X
  obtain ⟨v, st₀, t, T', Lc, h0, X', hL, e1, e2, ⟨v', S', M', hv, hrep, hQ, hz, hk⟩, stp⟩ := hr T hT X
  cases hv
  rw [h0] at hz hk
  have hal : t.vm.Alike s.vm := by
    have := X'.warmed.alike
    rw [e2] at this
    exact this.symm
  obtain ⟨t2, a1, b1⟩ := kk v S' M' T'.heap (locs ++ Lc) (by rw [e1]; exact hrep.moved hal) hQ
    ⟨Nat.le_trans hS.1 (by rw [e1]; exact hz), fun q h1 h2 => by rw [e1, hk q (Nat.lt_of_lt_of_le h1 hS.1) h2]; exact hS.2.1 q h1 h2, fun q hq => by
      rcases List.mem_append.mp hq with h | h
      · exact hS.2.2 q h
      · exact hL q h⟩ T' rfl X'
  exact ⟨t2, stp t2 a1, b1⟩
end XC1
/-- where a call stands, and what the tables say of it; nb: how many parameters -/
def xCm (m : xM) (idx : Nat) (m2 : xM) (np : Nat) : Prop := Cond.code m2.1 m2.2.1 m2.2.2.1 m2.2.2.2 ∈ xT ∧ Cond.initialized m2.1.cls ∈ xT ∧ (m2.1.cls ≠ "java/lang/invoke/MethodHandle" ∧ m2.1.cls ≠ "java/lang/invoke/VarHandle" ∧ (parseMethodDescriptor m2.1.desc).map (fun d => d.parameters.length) = some np) ∧ m2.2.2.1 ≤ 41 ∧ (Cond.methodLink m.1.cls idx m2.1 ∈ xT ∨ ∃ host, Cond.methodLinkNest m.1.cls idx m2.1 host ∈ xNest)
def xCV (m : xM) (pc : Nat) (m2 : xM) (np ci nx : Nat) : Prop := ∃ idx : Nat, decode m.2.1 pc = .ok (.invokevirtual idx, 3) ∧ pc + 3 = nx ∧ xCm m idx m2 np ∧ Cond.instanceMethod m2.1 ∈ xT ∧ Cond.selects m2.1.cls m2.1 m2.1 ∈ xT ∧ ∃ q : vw_C, vwCl[ci]? = some q ∧ q.1 = m2.1.cls
def xCS (m : xM) (pc : Nat) (m2 : xM) (np nx : Nat) : Prop := ∃ idx : Nat, decode m.2.1 pc = .ok (.invokestatic idx, 3) ∧ pc + 3 = nx ∧ xCm m idx m2 np ∧ Cond.static m2.1 ∈ xT
def xCI (m : xM) (pc : Nat) (m2 : xM) (np nx : Nat) : Prop := ∃ idx : Nat, decode m.2.1 pc = .ok (.invokespecial idx, 3) ∧ pc + 3 = nx ∧ xCm m idx m2 np ∧ Cond.instanceMethod m2.1 ∈ xT ∧ m2.1.name = "<init>"
section XC2
variable {G : xGl} {m m2 : xM} {d k n kc nc pc nx np : Nat} {Q : Option Value → List xSh → xMem → Prop} {L : List (Option Value)} {st st0 : List Value} {S : List xSh} {M : xMem}
theorem xPre.use {D : va_G} {s : State} {H : Heap} {locs : List Loc} {as : List Value} (hc : xCtx G D s) (hR : xRep D G.1 S M s H) (hS : va_S (fun q => G.1 ≤ q) s.heap H locs) : ∀ U : State, U.heap = H → s.WarmedH U.vm → xPre G D S M as as.toArray U := fun U hU hW => ⟨rfl, hc.move hW (by rw [hU]; exact hS.1) (fun q h1 h2 => by rw [hU]; exact hS.2.1 q h1 h2), by rw [hU]; exact hR.moved hW.alike⟩
theorem xE.sub {l : Launch} {D : va_G} {p : Program} {e : Env} {R : Room} {s : State} {mi : MethodId} {args : Array Value} {below : List Frame} {meth : Method} {c : Code} {cells slots : Nat} {Z : State → Prop} (E : xE G m d k n Q l D p e R s mi args below meth c cells slots Z) (h1 : kc ≤ k) (h2 : nc ≤ n) : xE G m d (k - kc) (n - nc) Q l D p e R s mi args below meth c (cells + kc) (slots + nc) Z := by
  obtain ⟨a1, a2, a3, a4, a5, a6, a7, ⟨b1, b2, b3, b4⟩, a8⟩ := E
  exact ⟨a1, a2, a3, a4, a5, a6, a7, ⟨b1, b2, by omega, by omega⟩, a8⟩
theorem xs_callV {As : List Value} {ci cb : Nat} {fs : List (Option (Option Nat))} (he : xCV m pc m2 np ci nx) (hs : S[cb]? = some (.inr (.inl (ci, fs)))) (hn : As.length = np) (hst : st0 = As.reverse ++ .ref (G.1 + cb) :: st) (hroom : (st.map fun v => v.category).sum ≤ 8) (hk : kc ≤ k) (hnn : nc ≤ n)
    (hC : xC G m2 d kc nc (.ref (G.1 + cb) :: As) S M (fun v S' M' => xW G m (d + 1) (k - kc) (n - nc) Q nx L (v.toList ++ st) S' M')) : xW G m (d + 1) k n Q pc L st0 S M := by
  subst hst
  obtain ⟨idx, hd, rfl, ⟨hcode, hini, hyd, hml, hlk⟩, hinst, hsel, q, hq, hqc⟩ := he
  intro l D p e R s mi args below meth c H locs cells slots Z ls E hR hS hl
  have hts := E.2.2.2.2.1
  have hctx := E.2.2.2.2.2.2.1
  obtain ⟨rm1, rm2, rm3, rm4⟩ := E.2.2.2.2.2.2.2.1
  obtain ⟨r, hr, cell, q1, q2, q3, -⟩ := hR.2 cb _ hs
  have hrv : ∃ cellB : Cell, H[G.1 + cb]? = some cellB ∧ cellB.vm.isStatics = false ∧ s.vm.findClass m2.1.cls = some cellB.cls := ⟨cell, q1, by rw [q3]; rfl, by rw [q2, ← hqc]; exact (hctx.2.1.1 ci q hq).2.1⟩
  have hP : PreV s H m2.1.cls (G.1 + cb) (xPre G D S M (.ref (G.1 + cb) :: As)) As := ⟨xPre.blind, hrv, xPre.use hctx hR hS⟩
  have hRm : (xroom d kc nc).frames + 1 ≤ R.frames ∧ 8 + (m2.2.2.1 + 11) + (xroom d kc nc).locals ≤ R.locals := ⟨rm1, by show 8 + (m2.2.2.1 + 11) + 60 * d ≤ R.locals; omega⟩
  have hF : CallFix p mi c m.2.1 m.2.2.1 s args xT m.1.cls := ⟨E.1, E.2.1, E.2.2.1, E.2.2.2.1, hts⟩
  have fin : va_Run p l e R s mi args below meth c H locs cells slots kc nc (F0 mi pc ls (As.reverse ++ .ref (G.1 + cb) :: st)) st (xPost G D (fun v S' M' => xW G m (d + 1) (k - kc) (n - nc) Q (pc + 3) L (v.toList ++ st) S' M') (Value.ref (G.1 + cb) :: As).toArray) (fun q => G.1 ≤ q) := by
    rcases hlk with hlk | ⟨host, hlk⟩
    · exact va_runV hF (hC l D) ⟨callB_of np hts (xGoodM hcode) rfl rfl rfl (hts _ hini) (hts _ hlk) hyd hRm, hts _ hinst, hts _ hsel⟩ hP rfl hn hl.1 rfl (lv_room hroom) hd ⟨by omega, by omega⟩
    · exact va_runVN hF (hC l D) ⟨va_cnB np hts (xGoodM hcode) rfl rfl rfl (hctx.2.2.1 _ hlk) (hts _ hini) hyd hRm, hts _ hinst, hts _ hsel⟩ hP rfl hn hl.1 rfl (lv_room hroom) hd ⟨by omega, by omega⟩
  exact xcall fin hS (fun v S' M' H1 locs1 hR1 hQ hS1 => hQ l D p e R s mi args below meth c H1 locs1 (cells + kc) (slots + nc) Z ls (E.sub hk hnn) hR1 hS1 hl)
theorem xs_callS {As : List Value} (he : xCS m pc m2 np nx) (hn : As.length = np) (hst : st0 = As.reverse ++ st) (hroom : (st.map fun v => v.category).sum ≤ 8) (hk : kc ≤ k) (hnn : nc ≤ n)
    (hC : xC G m2 d kc nc As S M (fun v S' M' => xW G m (d + 1) (k - kc) (n - nc) Q nx L (v.toList ++ st) S' M')) : xW G m (d + 1) k n Q pc L st0 S M := by
  subst hst
  obtain ⟨idx, hd, rfl, ⟨hcode, hini, hyd, hml, hlk⟩, hstat⟩ := he
  intro l D p e R s mi args below meth c H locs cells slots Z ls E hR hS hl
  have hts := E.2.2.2.2.1
  have hctx := E.2.2.2.2.2.2.1
  obtain ⟨rm1, rm2, rm3, rm4⟩ := E.2.2.2.2.2.2.2.1
  have hP : PreS s H (xPre G D S M As) As := ⟨xPre.blind, xPre.use hctx hR hS⟩
  have hRm : (xroom d kc nc).frames + 1 ≤ R.frames ∧ 8 + (m2.2.2.1 + 11) + (xroom d kc nc).locals ≤ R.locals := ⟨rm1, by show 8 + (m2.2.2.1 + 11) + 60 * d ≤ R.locals; omega⟩
  have hF : CallFix p mi c m.2.1 m.2.2.1 s args xT m.1.cls := ⟨E.1, E.2.1, E.2.2.1, E.2.2.2.1, hts⟩
  have fin : va_Run p l e R s mi args below meth c H locs cells slots kc nc (F0 mi pc ls (As.reverse ++ st)) st (xPost G D (fun v S' M' => xW G m (d + 1) (k - kc) (n - nc) Q (pc + 3) L (v.toList ++ st) S' M') As.toArray) (fun q => G.1 ≤ q) := by
    rcases hlk with hlk | ⟨host, hlk⟩
    · exact va_runS hF (hC l D) ⟨callB_of np hts (xGoodM hcode) rfl rfl rfl (hts _ hini) (hts _ hlk) hyd hRm, hts _ hstat⟩ hP rfl hn hl.1 rfl (lv_room hroom) hd ⟨by omega, by omega⟩
    · exact va_runSN hF (hC l D) ⟨va_cnB np hts (xGoodM hcode) rfl rfl rfl (hctx.2.2.1 _ hlk) (hts _ hini) hyd hRm, hts _ hstat, trivial⟩ hP rfl hn hl.1 rfl (lv_room hroom) hd ⟨by omega, by omega⟩
  exact xcall fin hS (fun v S' M' H1 locs1 hR1 hQ hS1 => hQ l D p e R s mi args below meth c H1 locs1 (cells + kc) (slots + nc) Z ls (E.sub hk hnn) hR1 hS1 hl)
theorem xs_callI {As : List Value} {cb : Nat} (hret : m2.2.2.2 = none) (he : xCI m pc m2 np nx) (hn : As.length = np) (hst : st0 = As.reverse ++ .ref (G.1 + cb) :: st) (hroom : (st.map fun v => v.category).sum ≤ 8) (hk : kc ≤ k) (hnn : nc ≤ n)
    (hC : xC G m2 d kc nc (.ref (G.1 + cb) :: As) S M (fun v S' M' => xW G m (d + 1) (k - kc) (n - nc) Q nx L (v.toList ++ st) S' M')) : xW G m (d + 1) k n Q pc L st0 S M := by
  subst hst
  obtain ⟨y2, cc2, ml2, ret2⟩ := m2
  obtain rfl : ret2 = none := hret
  obtain ⟨idx, hd, rfl, ⟨hcode, hini, hyd, hml, hlk⟩, hinst, hnm⟩ := he
  intro l D p e R s mi args below meth c H locs cells slots Z ls E hR hS hl
  have hts := E.2.2.2.2.1
  have hctx := E.2.2.2.2.2.2.1
  obtain ⟨rm1, rm2, rm3, rm4⟩ := E.2.2.2.2.2.2.2.1
  have hP : PreS s H (xPre G D S M (.ref (G.1 + cb) :: As)) (.ref (G.1 + cb) :: As) := ⟨xPre.blind, xPre.use hctx hR hS⟩
  have hRm : (xroom d kc nc).frames + 1 ≤ R.frames ∧ 8 + (ml2 + 11) + (xroom d kc nc).locals ≤ R.locals := ⟨rm1, by show 8 + (ml2 + 11) + 60 * d ≤ R.locals; have : ml2 ≤ 41 := hml; omega⟩
  have hF : CallFix p mi c m.2.1 m.2.2.1 s args xT m.1.cls := ⟨E.1, E.2.1, E.2.2.1, E.2.2.2.1, hts⟩
  have fin : va_Run p l e R s mi args below meth c H locs cells slots kc nc (F0 mi pc ls (As.reverse ++ .ref (G.1 + cb) :: st)) st (xPost G D (fun v S' M' => xW G m (d + 1) (k - kc) (n - nc) Q (pc + 3) L (v.toList ++ st) S' M') (Value.ref (G.1 + cb) :: As).toArray) (fun q => G.1 ≤ q) := by
    rcases hlk with hlk | ⟨host, hlk⟩
    · exact va_runI hF (hC l D) ⟨callB_of np hts (xGoodM (m := (y2, cc2, ml2, none)) hcode) rfl rfl rfl (hts _ hini) (hts _ hlk) hyd hRm, hnm, hts _ hinst⟩ hP rfl hn hl.1 rfl (lv_room hroom) hd ⟨by omega, by omega⟩
    · exact va_runIN hF (hC l D) ⟨va_cnB np hts (xGoodM (m := (y2, cc2, ml2, none)) hcode) rfl rfl rfl (hctx.2.2.1 _ hlk) (hts _ hini) hyd hRm, hnm, hts _ hinst⟩ hP rfl hn hl.1 rfl (lv_room hroom) hd ⟨by omega, by omega⟩
  exact xcall fin hS (fun v S' M' H1 locs1 hR1 hQ hS1 => hQ l D p e R s mi args below meth c H1 locs1 (cells + kc) (slots + nc) Z ls (E.sub hk hnn) hR1 hS1 hl)
theorem xC_mono {as : List Value} {Q1 Q2 : Option Value → List xSh → xMem → Prop} (h : xC G m d k n as S M Q1) (hq : ∀ v S' M', Q1 v S' M' → Q2 v S' M') : xC G m d k n as S M Q2 := by
  intro l D p e ha hc hkk s mi args below hf happ hpre htr
  obtain ⟨j, o, h1, h2, h3, ⟨v, S', M', a1, a2, a3, a4⟩, h5⟩ := h l D p e ha hc hkk s mi args below hf happ hpre htr
  exact ⟨j, o, h1, h2, h3, ⟨v, S', M', a1, a2, hq _ _ _ a3, a4⟩, h5⟩
end XC2
end
