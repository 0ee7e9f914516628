-- ===== PART A: goes FIRST, ahead of the names: the tables' words, and 'selects' of the private methods out of them =====
/-- a private method of a class that the tables say can be made, by its rows of tables_1 -/
def lw_okq (q : MethodName × Nat) : Prop := (q.1.cls ≠ "java/lang/invoke/MethodHandle" ∧ q.1.cls ≠ "java/lang/invoke/VarHandle") ∧ Cond.instantiable q.1.cls q.2 ∈ tables_1 ∧ Cond.privateMethod q.1 ∈ tables_1 ∧ Cond.instanceMethod q.1 ∈ tables_1
theorem lw_p0 : lw_okq (⟨"DeepShip$Tape", "rewind", "()V"⟩, 5) := ⟨⟨by decide +kernel, by decide +kernel⟩, List.mem_of_getElem? (i := 171) (by decide +kernel), List.mem_of_getElem? (i := 327) (by decide +kernel), List.mem_of_getElem? (i := 328) (by decide +kernel)⟩
theorem lw_p1 : lw_okq (⟨"DeepShip$Tape", "readMile", "(I)V"⟩, 5) := ⟨⟨by decide +kernel, by decide +kernel⟩, List.mem_of_getElem? (i := 171) (by decide +kernel), List.mem_of_getElem? (i := 331) (by decide +kernel), List.mem_of_getElem? (i := 332) (by decide +kernel)⟩
theorem lw_p2 : lw_okq (⟨"DeepShip$Tape", "mark", "(I)I"⟩, 5) := ⟨⟨by decide +kernel, by decide +kernel⟩, List.mem_of_getElem? (i := 171) (by decide +kernel), List.mem_of_getElem? (i := 335) (by decide +kernel), List.mem_of_getElem? (i := 336) (by decide +kernel)⟩
theorem lw_p3 : lw_okq (⟨"DeepShip$Tape", "number", "(II)I"⟩, 5) := ⟨⟨by decide +kernel, by decide +kernel⟩, List.mem_of_getElem? (i := 171) (by decide +kernel), List.mem_of_getElem? (i := 341) (by decide +kernel), List.mem_of_getElem? (i := 342) (by decide +kernel)⟩
theorem lw_p4 : lw_okq (⟨"DeepShip$Tape", "skipBlanks", "()V"⟩, 5) := ⟨⟨by decide +kernel, by decide +kernel⟩, List.mem_of_getElem? (i := 171) (by decide +kernel), List.mem_of_getElem? (i := 345) (by decide +kernel), List.mem_of_getElem? (i := 346) (by decide +kernel)⟩
theorem lw_p5 : lw_okq (⟨"DeepShip$Tape", "fail", "(I)V"⟩, 5) := ⟨⟨by decide +kernel, by decide +kernel⟩, List.mem_of_getElem? (i := 171) (by decide +kernel), List.mem_of_getElem? (i := 355) (by decide +kernel), List.mem_of_getElem? (i := 356) (by decide +kernel)⟩
theorem lw_p6 : lw_okq (⟨"DeepShip$Tape", "expect", "(C)V"⟩, 5) := ⟨⟨by decide +kernel, by decide +kernel⟩, List.mem_of_getElem? (i := 171) (by decide +kernel), List.mem_of_getElem? (i := 359) (by decide +kernel), List.mem_of_getElem? (i := 360) (by decide +kernel)⟩
theorem lw_p7 : lw_okq (⟨"DeepShip$Tape", "takes", "(C)Z"⟩, 5) := ⟨⟨by decide +kernel, by decide +kernel⟩, List.mem_of_getElem? (i := 171) (by decide +kernel), List.mem_of_getElem? (i := 363) (by decide +kernel), List.mem_of_getElem? (i := 364) (by decide +kernel)⟩
theorem lw_p8 : lw_okq (⟨"DeepShip$Tape", "digit", "()I"⟩, 5) := ⟨⟨by decide +kernel, by decide +kernel⟩, List.mem_of_getElem? (i := 171) (by decide +kernel), List.mem_of_getElem? (i := 367) (by decide +kernel), List.mem_of_getElem? (i := 368) (by decide +kernel)⟩
theorem lw_p9 : lw_okq (⟨"DeepShip$Tape", "finish", "(I)I"⟩, 5) := ⟨⟨by decide +kernel, by decide +kernel⟩, List.mem_of_getElem? (i := 171) (by decide +kernel), List.mem_of_getElem? (i := 371) (by decide +kernel), List.mem_of_getElem? (i := 372) (by decide +kernel)⟩
theorem lw_p10 : lw_okq (⟨"DeepShip", "isPlaced", "(IIII)Z"⟩, 10) := ⟨⟨by decide +kernel, by decide +kernel⟩, List.mem_of_getElem? (i := 15) (by decide +kernel), List.mem_of_getElem? (i := 431) (by decide +kernel), List.mem_of_getElem? (i := 432) (by decide +kernel)⟩
theorem lw_p11 : lw_okq (⟨"DeepShip$Trial", "reckonNeed", "()V"⟩, 8) := ⟨⟨by decide +kernel, by decide +kernel⟩, List.mem_of_getElem? (i := 58) (by decide +kernel), List.mem_of_getElem? (i := 451) (by decide +kernel), List.mem_of_getElem? (i := 452) (by decide +kernel)⟩
theorem lw_p12 : lw_okq (⟨"DeepShip", "isStart", "(II)Z"⟩, 10) := ⟨⟨by decide +kernel, by decide +kernel⟩, List.mem_of_getElem? (i := 15) (by decide +kernel), List.mem_of_getElem? (i := 492) (by decide +kernel), List.mem_of_getElem? (i := 493) (by decide +kernel)⟩
theorem lw_p13 : lw_okq (⟨"DeepShip", "refusalAt", "(IIII)I"⟩, 10) := ⟨⟨by decide +kernel, by decide +kernel⟩, List.mem_of_getElem? (i := 15) (by decide +kernel), List.mem_of_getElem? (i := 517) (by decide +kernel), List.mem_of_getElem? (i := 518) (by decide +kernel)⟩
theorem lw_p14 : lw_okq (⟨"DeepShip$Search", "isLaid", "()Z"⟩, 6) := ⟨⟨by decide +kernel, by decide +kernel⟩, List.mem_of_getElem? (i := 115) (by decide +kernel), List.mem_of_getElem? (i := 529) (by decide +kernel), List.mem_of_getElem? (i := 530) (by decide +kernel)⟩
theorem lw_p15 : lw_okq (⟨"DeepShip$Search", "goOn", "(I)V"⟩, 6) := ⟨⟨by decide +kernel, by decide +kernel⟩, List.mem_of_getElem? (i := 115) (by decide +kernel), List.mem_of_getElem? (i := 559) (by decide +kernel), List.mem_of_getElem? (i := 560) (by decide +kernel)⟩
def lw_privs_1 : List (MethodName × Nat) := [(⟨"DeepShip$Tape", "rewind", "()V"⟩, 5), (⟨"DeepShip$Tape", "readMile", "(I)V"⟩, 5), (⟨"DeepShip$Tape", "mark", "(I)I"⟩, 5), (⟨"DeepShip$Tape", "number", "(II)I"⟩, 5), (⟨"DeepShip$Tape", "skipBlanks", "()V"⟩, 5), (⟨"DeepShip$Tape", "fail", "(I)V"⟩, 5), (⟨"DeepShip$Tape", "expect", "(C)V"⟩, 5), (⟨"DeepShip$Tape", "takes", "(C)Z"⟩, 5), (⟨"DeepShip$Tape", "digit", "()I"⟩, 5), (⟨"DeepShip$Tape", "finish", "(I)I"⟩, 5), (⟨"DeepShip", "isPlaced", "(IIII)Z"⟩, 10), (⟨"DeepShip$Trial", "reckonNeed", "()V"⟩, 8), (⟨"DeepShip", "isStart", "(II)Z"⟩, 10), (⟨"DeepShip", "refusalAt", "(IIII)I"⟩, 10), (⟨"DeepShip$Search", "isLaid", "()Z"⟩, 6), (⟨"DeepShip$Search", "goOn", "(I)V"⟩, 6)]
theorem lw_r1 : ∀ q ∈ lw_privs_1, lw_okq q := List.forall_mem_cons.mpr ⟨lw_p0, List.forall_mem_cons.mpr ⟨lw_p1, List.forall_mem_cons.mpr ⟨lw_p2, List.forall_mem_cons.mpr ⟨lw_p3, List.forall_mem_cons.mpr ⟨lw_p4, List.forall_mem_cons.mpr ⟨lw_p5, List.forall_mem_cons.mpr ⟨lw_p6, List.forall_mem_cons.mpr ⟨lw_p7, List.forall_mem_cons.mpr ⟨lw_p8, List.forall_mem_cons.mpr ⟨lw_p9, List.forall_mem_cons.mpr ⟨lw_p10, List.forall_mem_cons.mpr ⟨lw_p11, List.forall_mem_cons.mpr ⟨lw_p12, List.forall_mem_cons.mpr ⟨lw_p13, List.forall_mem_cons.mpr ⟨lw_p14, List.forall_mem_cons.mpr ⟨lw_p15, fun _ h => absurd h List.not_mem_nil⟩⟩⟩⟩⟩⟩⟩⟩⟩⟩⟩⟩⟩⟩⟩⟩
theorem lw_p16 : lw_okq (⟨"DeepShip$Search", "moveLater", "(II)V"⟩, 6) := ⟨⟨by decide +kernel, by decide +kernel⟩, List.mem_of_getElem? (i := 115) (by decide +kernel), List.mem_of_getElem? (i := 563) (by decide +kernel), List.mem_of_getElem? (i := 564) (by decide +kernel)⟩
theorem lw_p17 : lw_okq (⟨"DeepShip$Search", "goBack", "()V"⟩, 6) := ⟨⟨by decide +kernel, by decide +kernel⟩, List.mem_of_getElem? (i := 115) (by decide +kernel), List.mem_of_getElem? (i := 583) (by decide +kernel), List.mem_of_getElem? (i := 584) (by decide +kernel)⟩
theorem lw_p18 : lw_okq (⟨"DeepShip$Search", "earlier", "(IIJJ)J"⟩, 6) := ⟨⟨by decide +kernel, by decide +kernel⟩, List.mem_of_getElem? (i := 115) (by decide +kernel), List.mem_of_getElem? (i := 587) (by decide +kernel), List.mem_of_getElem? (i := 588) (by decide +kernel)⟩
theorem lw_p19 : lw_okq (⟨"DeepShip$Search", "slowest", "(II)I"⟩, 6) := ⟨⟨by decide +kernel, by decide +kernel⟩, List.mem_of_getElem? (i := 115) (by decide +kernel), List.mem_of_getElem? (i := 591) (by decide +kernel), List.mem_of_getElem? (i := 592) (by decide +kernel)⟩
theorem lw_p20 : lw_okq (⟨"DeepShip", "isHeld", "(III)Z"⟩, 10) := ⟨⟨by decide +kernel, by decide +kernel⟩, List.mem_of_getElem? (i := 15) (by decide +kernel), List.mem_of_getElem? (i := 632) (by decide +kernel), List.mem_of_getElem? (i := 633) (by decide +kernel)⟩
theorem lw_p21 : lw_okq (⟨"DeepShip", "areTwo", "(II)Z"⟩, 10) := ⟨⟨by decide +kernel, by decide +kernel⟩, List.mem_of_getElem? (i := 15) (by decide +kernel), List.mem_of_getElem? (i := 655) (by decide +kernel), List.mem_of_getElem? (i := 656) (by decide +kernel)⟩
theorem lw_p22 : lw_okq (⟨"DeepShip$Day", "tryNext", "(IIII)V"⟩, 6) := ⟨⟨by decide +kernel, by decide +kernel⟩, List.mem_of_getElem? (i := 145) (by decide +kernel), List.mem_of_getElem? (i := 673) (by decide +kernel), List.mem_of_getElem? (i := 674) (by decide +kernel)⟩
theorem lw_p23 : lw_okq (⟨"DeepShip$Day", "keepBetter", "(II)V"⟩, 6) := ⟨⟨by decide +kernel, by decide +kernel⟩, List.mem_of_getElem? (i := 145) (by decide +kernel), List.mem_of_getElem? (i := 677) (by decide +kernel), List.mem_of_getElem? (i := 678) (by decide +kernel)⟩
theorem lw_p24 : lw_okq (⟨"DeepShip$Sheets", "isNothing", "(I)Z"⟩, 3) := ⟨⟨by decide +kernel, by decide +kernel⟩, List.mem_of_getElem? (i := 195) (by decide +kernel), List.mem_of_getElem? (i := 732) (by decide +kernel), List.mem_of_getElem? (i := 733) (by decide +kernel)⟩
theorem lw_p25 : lw_okq (⟨"DeepShip$Sheets", "hasItems", "(III)Z"⟩, 3) := ⟨⟨by decide +kernel, by decide +kernel⟩, List.mem_of_getElem? (i := 195) (by decide +kernel), List.mem_of_getElem? (i := 736) (by decide +kernel), List.mem_of_getElem? (i := 737) (by decide +kernel)⟩
theorem lw_p26 : lw_okq (⟨"DeepShip", "latesBy", "(IIII)I"⟩, 10) := ⟨⟨by decide +kernel, by decide +kernel⟩, List.mem_of_getElem? (i := 15) (by decide +kernel), List.mem_of_getElem? (i := 744) (by decide +kernel), List.mem_of_getElem? (i := 745) (by decide +kernel)⟩
theorem lw_p27 : lw_okq (⟨"DeepShip", "isLate", "(IIII)Z"⟩, 10) := ⟨⟨by decide +kernel, by decide +kernel⟩, List.mem_of_getElem? (i := 15) (by decide +kernel), List.mem_of_getElem? (i := 748) (by decide +kernel), List.mem_of_getElem? (i := 749) (by decide +kernel)⟩
theorem lw_p28 : lw_okq (⟨"DeepShipModel", "mileIs", "(IIIIII)V"⟩, 29) := ⟨⟨by decide +kernel, by decide +kernel⟩, List.mem_of_getElem? (i := 786) (by decide +kernel), List.mem_of_getElem? (i := 897) (by decide +kernel), List.mem_of_getElem? (i := 898) (by decide +kernel)⟩
theorem lw_p29 : lw_okq (⟨"DeepShipModel", "isMile", "(I)Z"⟩, 29) := ⟨⟨by decide +kernel, by decide +kernel⟩, List.mem_of_getElem? (i := 786) (by decide +kernel), List.mem_of_getElem? (i := 905) (by decide +kernel), List.mem_of_getElem? (i := 906) (by decide +kernel)⟩
theorem lw_p30 : lw_okq (⟨"DeepShipModel", "mileClause", "(I)V"⟩, 29) := ⟨⟨by decide +kernel, by decide +kernel⟩, List.mem_of_getElem? (i := 786) (by decide +kernel), List.mem_of_getElem? (i := 952) (by decide +kernel), List.mem_of_getElem? (i := 953) (by decide +kernel)⟩
theorem lw_p31 : lw_okq (⟨"DeepShipModel", "number", "(II)I"⟩, 29) := ⟨⟨by decide +kernel, by decide +kernel⟩, List.mem_of_getElem? (i := 786) (by decide +kernel), List.mem_of_getElem? (i := 956) (by decide +kernel), List.mem_of_getElem? (i := 957) (by decide +kernel)⟩
def lw_privs_2 : List (MethodName × Nat) := [(⟨"DeepShip$Search", "moveLater", "(II)V"⟩, 6), (⟨"DeepShip$Search", "goBack", "()V"⟩, 6), (⟨"DeepShip$Search", "earlier", "(IIJJ)J"⟩, 6), (⟨"DeepShip$Search", "slowest", "(II)I"⟩, 6), (⟨"DeepShip", "isHeld", "(III)Z"⟩, 10), (⟨"DeepShip", "areTwo", "(II)Z"⟩, 10), (⟨"DeepShip$Day", "tryNext", "(IIII)V"⟩, 6), (⟨"DeepShip$Day", "keepBetter", "(II)V"⟩, 6), (⟨"DeepShip$Sheets", "isNothing", "(I)Z"⟩, 3), (⟨"DeepShip$Sheets", "hasItems", "(III)Z"⟩, 3), (⟨"DeepShip", "latesBy", "(IIII)I"⟩, 10), (⟨"DeepShip", "isLate", "(IIII)Z"⟩, 10), (⟨"DeepShipModel", "mileIs", "(IIIIII)V"⟩, 29), (⟨"DeepShipModel", "isMile", "(I)Z"⟩, 29), (⟨"DeepShipModel", "mileClause", "(I)V"⟩, 29), (⟨"DeepShipModel", "number", "(II)I"⟩, 29)]
theorem lw_r2 : ∀ q ∈ lw_privs_2, lw_okq q := List.forall_mem_cons.mpr ⟨lw_p16, List.forall_mem_cons.mpr ⟨lw_p17, List.forall_mem_cons.mpr ⟨lw_p18, List.forall_mem_cons.mpr ⟨lw_p19, List.forall_mem_cons.mpr ⟨lw_p20, List.forall_mem_cons.mpr ⟨lw_p21, List.forall_mem_cons.mpr ⟨lw_p22, List.forall_mem_cons.mpr ⟨lw_p23, List.forall_mem_cons.mpr ⟨lw_p24, List.forall_mem_cons.mpr ⟨lw_p25, List.forall_mem_cons.mpr ⟨lw_p26, List.forall_mem_cons.mpr ⟨lw_p27, List.forall_mem_cons.mpr ⟨lw_p28, List.forall_mem_cons.mpr ⟨lw_p29, List.forall_mem_cons.mpr ⟨lw_p30, List.forall_mem_cons.mpr ⟨lw_p31, fun _ h => absurd h List.not_mem_nil⟩⟩⟩⟩⟩⟩⟩⟩⟩⟩⟩⟩⟩⟩⟩⟩
theorem lw_p32 : lw_okq (⟨"DeepShipModel", "here", "()I"⟩, 29) := ⟨⟨by decide +kernel, by decide +kernel⟩, List.mem_of_getElem? (i := 786) (by decide +kernel), List.mem_of_getElem? (i := 960) (by decide +kernel), List.mem_of_getElem? (i := 961) (by decide +kernel)⟩
theorem lw_p33 : lw_okq (⟨"DeepShipModel", "has", "(I)Z"⟩, 29) := ⟨⟨by decide +kernel, by decide +kernel⟩, List.mem_of_getElem? (i := 786) (by decide +kernel), List.mem_of_getElem? (i := 966) (by decide +kernel), List.mem_of_getElem? (i := 967) (by decide +kernel)⟩
theorem lw_p34 : lw_okq (⟨"DeepShipModel", "digit", "()I"⟩, 29) := ⟨⟨by decide +kernel, by decide +kernel⟩, List.mem_of_getElem? (i := 786) (by decide +kernel), List.mem_of_getElem? (i := 970) (by decide +kernel), List.mem_of_getElem? (i := 971) (by decide +kernel)⟩
theorem lw_p35 : lw_okq (⟨"DeepShipModel", "tideAt", "(I)I"⟩, 29) := ⟨⟨by decide +kernel, by decide +kernel⟩, List.mem_of_getElem? (i := 786) (by decide +kernel), List.mem_of_getElem? (i := 990) (by decide +kernel), List.mem_of_getElem? (i := 991) (by decide +kernel)⟩
theorem lw_p36 : lw_okq (⟨"DeepShipModel", "waterAt", "(II)I"⟩, 29) := ⟨⟨by decide +kernel, by decide +kernel⟩, List.mem_of_getElem? (i := 786) (by decide +kernel), List.mem_of_getElem? (i := 998) (by decide +kernel), List.mem_of_getElem? (i := 999) (by decide +kernel)⟩
theorem lw_p37 : lw_okq (⟨"DeepShipModel", "isShip", "(I)Z"⟩, 29) := ⟨⟨by decide +kernel, by decide +kernel⟩, List.mem_of_getElem? (i := 786) (by decide +kernel), List.mem_of_getElem? (i := 1007) (by decide +kernel), List.mem_of_getElem? (i := 1008) (by decide +kernel)⟩
theorem lw_p38 : lw_okq (⟨"DeepShipModel", "sinksBy", "(IIII)I"⟩, 29) := ⟨⟨by decide +kernel, by decide +kernel⟩, List.mem_of_getElem? (i := 786) (by decide +kernel), List.mem_of_getElem? (i := 1011) (by decide +kernel), List.mem_of_getElem? (i := 1012) (by decide +kernel)⟩
theorem lw_p39 : lw_okq (⟨"DeepShipModel", "underBy", "(IIII)I"⟩, 29) := ⟨⟨by decide +kernel, by decide +kernel⟩, List.mem_of_getElem? (i := 786) (by decide +kernel), List.mem_of_getElem? (i := 1019) (by decide +kernel), List.mem_of_getElem? (i := 1020) (by decide +kernel)⟩
theorem lw_p40 : lw_okq (⟨"DeepShipModel", "needOf", "(I)I"⟩, 29) := ⟨⟨by decide +kernel, by decide +kernel⟩, List.mem_of_getElem? (i := 786) (by decide +kernel), List.mem_of_getElem? (i := 1027) (by decide +kernel), List.mem_of_getElem? (i := 1028) (by decide +kernel)⟩
theorem lw_p41 : lw_okq (⟨"DeepShipModel", "goes", "(II)V"⟩, 29) := ⟨⟨by decide +kernel, by decide +kernel⟩, List.mem_of_getElem? (i := 786) (by decide +kernel), List.mem_of_getElem? (i := 1040) (by decide +kernel), List.mem_of_getElem? (i := 1041) (by decide +kernel)⟩
theorem lw_p42 : lw_okq (⟨"DeepShipModel", "quickest", "(II)I"⟩, 29) := ⟨⟨by decide +kernel, by decide +kernel⟩, List.mem_of_getElem? (i := 786) (by decide +kernel), List.mem_of_getElem? (i := 1050) (by decide +kernel), List.mem_of_getElem? (i := 1051) (by decide +kernel)⟩
theorem lw_p43 : lw_okq (⟨"DeepShipModel", "startsOf", "(I)V"⟩, 29) := ⟨⟨by decide +kernel, by decide +kernel⟩, List.mem_of_getElem? (i := 786) (by decide +kernel), List.mem_of_getElem? (i := 1059) (by decide +kernel), List.mem_of_getElem? (i := 1060) (by decide +kernel)⟩
theorem lw_p44 : lw_okq (⟨"DeepShipModel", "holds", "(III)Z"⟩, 29) := ⟨⟨by decide +kernel, by decide +kernel⟩, List.mem_of_getElem? (i := 786) (by decide +kernel), List.mem_of_getElem? (i := 1071) (by decide +kernel), List.mem_of_getElem? (i := 1072) (by decide +kernel)⟩
theorem lw_p45 : lw_okq (⟨"DeepShipModel", "sumOf", "(II)I"⟩, 29) := ⟨⟨by decide +kernel, by decide +kernel⟩, List.mem_of_getElem? (i := 786) (by decide +kernel), List.mem_of_getElem? (i := 1098) (by decide +kernel), List.mem_of_getElem? (i := 1099) (by decide +kernel)⟩
theorem lw_p46 : lw_okq (⟨"DeepShipModel", "turns", "(I)Z"⟩, 29) := ⟨⟨by decide +kernel, by decide +kernel⟩, List.mem_of_getElem? (i := 786) (by decide +kernel), List.mem_of_getElem? (i := 1102) (by decide +kernel), List.mem_of_getElem? (i := 1103) (by decide +kernel)⟩
theorem lw_p47 : lw_okq (⟨"DeepShipModel", "lay", "([II)I"⟩, 29) := ⟨⟨by decide +kernel, by decide +kernel⟩, List.mem_of_getElem? (i := 786) (by decide +kernel), List.mem_of_getElem? (i := 1127) (by decide +kernel), List.mem_of_getElem? (i := 1128) (by decide +kernel)⟩
def lw_privs_3 : List (MethodName × Nat) := [(⟨"DeepShipModel", "here", "()I"⟩, 29), (⟨"DeepShipModel", "has", "(I)Z"⟩, 29), (⟨"DeepShipModel", "digit", "()I"⟩, 29), (⟨"DeepShipModel", "tideAt", "(I)I"⟩, 29), (⟨"DeepShipModel", "waterAt", "(II)I"⟩, 29), (⟨"DeepShipModel", "isShip", "(I)Z"⟩, 29), (⟨"DeepShipModel", "sinksBy", "(IIII)I"⟩, 29), (⟨"DeepShipModel", "underBy", "(IIII)I"⟩, 29), (⟨"DeepShipModel", "needOf", "(I)I"⟩, 29), (⟨"DeepShipModel", "goes", "(II)V"⟩, 29), (⟨"DeepShipModel", "quickest", "(II)I"⟩, 29), (⟨"DeepShipModel", "startsOf", "(I)V"⟩, 29), (⟨"DeepShipModel", "holds", "(III)Z"⟩, 29), (⟨"DeepShipModel", "sumOf", "(II)I"⟩, 29), (⟨"DeepShipModel", "turns", "(I)Z"⟩, 29), (⟨"DeepShipModel", "lay", "([II)I"⟩, 29)]
theorem lw_r3 : ∀ q ∈ lw_privs_3, lw_okq q := List.forall_mem_cons.mpr ⟨lw_p32, List.forall_mem_cons.mpr ⟨lw_p33, List.forall_mem_cons.mpr ⟨lw_p34, List.forall_mem_cons.mpr ⟨lw_p35, List.forall_mem_cons.mpr ⟨lw_p36, List.forall_mem_cons.mpr ⟨lw_p37, List.forall_mem_cons.mpr ⟨lw_p38, List.forall_mem_cons.mpr ⟨lw_p39, List.forall_mem_cons.mpr ⟨lw_p40, List.forall_mem_cons.mpr ⟨lw_p41, List.forall_mem_cons.mpr ⟨lw_p42, List.forall_mem_cons.mpr ⟨lw_p43, List.forall_mem_cons.mpr ⟨lw_p44, List.forall_mem_cons.mpr ⟨lw_p45, List.forall_mem_cons.mpr ⟨lw_p46, List.forall_mem_cons.mpr ⟨lw_p47, fun _ h => absurd h List.not_mem_nil⟩⟩⟩⟩⟩⟩⟩⟩⟩⟩⟩⟩⟩⟩⟩⟩
theorem lw_p48 : lw_okq (⟨"DeepShipModel", "gives", "(I[I)I"⟩, 29) := ⟨⟨by decide +kernel, by decide +kernel⟩, List.mem_of_getElem? (i := 786) (by decide +kernel), List.mem_of_getElem? (i := 1135) (by decide +kernel), List.mem_of_getElem? (i := 1136) (by decide +kernel)⟩
theorem lw_p49 : lw_okq (⟨"DeepShipModel", "finds", "(IIII)I"⟩, 29) := ⟨⟨by decide +kernel, by decide +kernel⟩, List.mem_of_getElem? (i := 786) (by decide +kernel), List.mem_of_getElem? (i := 1149) (by decide +kernel), List.mem_of_getElem? (i := 1150) (by decide +kernel)⟩
def lw_privs_4 : List (MethodName × Nat) := [(⟨"DeepShipModel", "gives", "(I[I)I"⟩, 29), (⟨"DeepShipModel", "finds", "(IIII)I"⟩, 29)]
theorem lw_r4 : ∀ q ∈ lw_privs_4, lw_okq q := List.forall_mem_cons.mpr ⟨lw_p48, List.forall_mem_cons.mpr ⟨lw_p49, fun _ h => absurd h List.not_mem_nil⟩⟩
def lw_privs : List (MethodName × Nat) := lw_privs_1 ++ (lw_privs_2 ++ (lw_privs_3 ++ (lw_privs_4)))
def lw_tbl : List Cond := k2_sels lw_privs ++ tables_1
theorem lw_privs_ok : ∀ q ∈ lw_privs, lw_okq q := by
  show ∀ q ∈ lw_privs_1 ++ (lw_privs_2 ++ (lw_privs_3 ++ (lw_privs_4))), lw_okq q
  exact List.forall_mem_append.mpr ⟨lw_r1, List.forall_mem_append.mpr ⟨lw_r2, List.forall_mem_append.mpr ⟨lw_r3, lw_r4⟩⟩⟩

def va_AOA (ty : FieldType) (U : State) : Prop := (Cond.arrayOver (.array ty)).before #[] U = true
theorem va_AOA.use {ty : FieldType} {A : Array Value} {U : State} (h : va_AOA ty U) : (Cond.arrayOver (.array ty)).before A U = true := h
/-! ===== BEGIN words of one list among another's, by their places ===== -/
/-! ===== END ===== -/

/-! ===== BEGIN new T[n][m]: the outer array a place, the inner ones among the pooled ===== -/
/-- f, but v at every address of l -/
def vr_up {α : Type} (f : Nat → α) (l : List Nat) (v : α) : Nat → α := fun a => if a ∈ l then v else f a
theorem vr_up_in {α : Type} {f : Nat → α} {l : List Nat} {v : α} {a : Nat} (h : a ∈ l) : vr_up f l v a = v := if_pos h
theorem vr_up_ne {α : Type} {f : Nat → α} {l : List Nat} {v : α} {a : Nat} (h : a ∉ l) : vr_up f l v a = f a := if_neg h
theorem vr_rows {L l : List Nat} {f : Nat → va_E} {e : va_E} (h : ∀ a, a ∈ l → a ∉ L) : va_pl L f ++ l.map (fun a => (a, e)) = va_pl (L ++ l) (vr_up f l e) := by
  unfold va_pl
  rw [List.map_append]
  congr 1
  · apply List.map_congr_left
    intro a ha
    rw [vr_up_ne (fun q => h a q ha)]
  · apply List.map_congr_left
    intro a ha
    rw [vr_up_in ha]
theorem vr_lay {X rows : va_W} {x : Nat × va_E} {pl : va_W} {D : va_G} {cl : List vw_C} {H : Heap} (hP : va_P D cl (((X ++ pl) ++ [x]) ++ rows) H) : va_P D cl ((X ++ [x]) ++ (pl ++ rows)) H := by
  rw [List.append_assoc (X ++ pl)] at hP
  have h := va_P.swap hP
  rw [← List.append_assoc X] at h
  have h2 := va_P.swap h
  rw [List.append_assoc (X ++ [x])] at h2
  exact h2
theorem vr_layD {X rows : va_W} {x : Nat × va_E} {pl : va_W} {A : Nat → Prop} (hD : va_D A (((X ++ pl) ++ [x]) ++ rows)) : va_D A ((X ++ [x]) ++ (pl ++ rows)) := by
  rw [List.append_assoc (X ++ pl)] at hD
  have h := va_D.swap hD
  rw [← List.append_assoc X] at h
  have h2 := va_D.swap h
  rw [List.append_assoc (X ++ [x])] at h2
  exact h2
theorem vr_outer (c : ClassId) (N h0 : Nat) : ∀ i : Nat, Jvm.Free.Multi.outerC c N h0 i = arrV c N (fun j => va_rf (if j < i then some (h0 + 1 + j) else none))
  | 0 => by
    show ({ cls := c, slots := Array.replicate N .null, vm := .none } : Cell) = _
    rw [arrV_new]
    refine congrArg (arrV c N) (funext fun j => ?_)
    simp [va_rf]
  | i + 1 => by
    show (Jvm.Free.Multi.outerC c N h0 i).setSlot i (.ref (h0 + 1 + i)) = _
    rw [vr_outer c N h0 i, arrV_store]
    refine congrArg (arrV c N) (funext fun j => ?_)
    by_cases e : j = i
    · subst e
      simp [updV, va_rf]
    · by_cases h : j < i
      · simp [updV, e, h, Nat.lt_succ_of_lt h]
      · simp [updV, e, h, show ¬ j < i + 1 by omega]
section VGM
variable {p : Program} {l : Launch} {e : Env} {R : Room} {s : State} {m : MethodId} {args : Array Value} {below : List Frame} {meth : Method} {c : Code} {H : Heap} {locs : List Loc} {cells slots : Nat} {Q : State → Prop}
variable {cc : ByteArray} {pc : Nat} {ls : Array Slot} {rest : List Value} {D : va_G} {cl : List vw_C} {A : Nat → Prop} {a : Nat} {tys : List (ClassId × FieldType)} {ws : va_W} {H0 : Heap}
theorem va_mna {X : va_W} {L : List Nat} {f : Nat → va_E} {cc : ByteArray} (hexec : p.tables.exec = Jvm.exec) (hb : c.code = cc) {own : String} {index : Nat} {ty : FieldType} {cy : ClassId} (hown : s.vm.findClass own = some m.cls) (hclink : (Cond.classLink own index ("[" ++ (FieldType.array ty).toString)).before args s = true) (hover : va_AOA ty s) (harr : (Cond.arrayClass ty).before args s = true) (hcy : s.vm.findClass (FieldType.array ty).toString = some cy)
    (hK : va_K D cl tys s) (hP : va_P D cl (X ++ va_pl L f) H) (hD : va_D A (X ++ va_pl L f)) (hS : va_S A H0 H locs) (hA : ∀ q, H0.size ≤ q → A q) {n k : Int32} {N' K' : Nat} {z : vp_A} (hn : ¬ n < 0) (hk : ¬ k < 0) (hN : n.toNatClampNeg = N') (hM : k.toNatClampNeg = K')
    (hb1 : N' * 4 ≤ 536870912) (hb2 : K' * componentBytes ty ≤ 536870912) (hb3 : K' ≤ 536870912) (hdf : fits ty (defaultValue ty) = true) (hdd : (defaultValue ty).isDefault = true) (hcells : cells + (1 + N') ≤ R.cells) (hslots : slots + (N' + N' * K') ≤ R.slots) (hz : ∀ c : ClassId, Jvm.Free.Multi.innerC c K' (defaultValue ty) = vp_cell c z) (hdg : decode cc pc = .ok (.multianewarray index 2, 4))
    (kk : ∀ (q : Nat) (r : Nat → Nat) (cA : ClassId) (H1 : Heap), (∀ i j : Nat, i < N' → j < N' → r i = r j → i = j) → (∀ i : Nat, i < N' → r i ∉ L) → va_K D cl (tys ++ [(cA, .array ty)]) s →
      va_P D cl ((X ++ [(q, .inl (cA, N', .inr (.inr (.inr (.inr (fun i => if i < N' then some (r i) else none))))))]) ++ va_pl (L ++ (List.range N').map r) (vr_up f ((List.range N').map r) (.inl (cy, z)))) H1 → va_D A ((X ++ [(q, .inl (cA, N', .inr (.inr (.inr (.inr (fun i => if i < N' then some (r i) else none))))))]) ++ va_pl (L ++ (List.range N').map r) (vr_up f ((List.range N').map r) (.inl (cy, z)))) → va_S A H0 H1 locs →
      W p l e R s m args below meth c H1 locs (cells + 1 + N') (slots + N' + N' * K') Q (F0 m (pc + 4) ls (.ref q :: rest))) : W p l e R s m args below meth c H locs cells slots Q (F0 m pc ls (.int k :: .int n :: rest)) := by
  subst hN
  subst hM
  intro T hT Xs
  obtain ⟨vm₁, cA, comp, -, fA, fC, hO, -, X', step⟩ := Xs.multianewarray2F hexec hown hclink (va_AOA.use hover) harr (g := F0 m pc ls (.int k :: .int n :: rest)) rfl (by rw [hb]; exact hdg) rfl hn hk hb1 hb2 hb3 hdf hdd hcells hslots
  have ec : some cy = some comp := hcy.symm.trans fC
  cases ec
  generalize hF : Jvm.Free.Multi.fill (T.setVm vm₁) cA cy n.toNatClampNeg k.toNatClampNeg (defaultValue ty) n.toNatClampNeg = F at X' step
  have hTh : (T.setVm vm₁).heap = H := hT
  obtain ⟨f1, f2, -, -⟩ := Jvm.Free.Multi.fill_facts (T.setVm vm₁) cA cy n.toNatClampNeg k.toNatClampNeg (defaultValue ty) n.toNatClampNeg
  rw [hF, hTh] at f1 f2
  have hold : ∀ x : Nat, x < H.size → F.heap[x]? = H[x]? := fun x hx => by
    have := Jvm.Free.Multi.fill_old (T.setVm vm₁) cA cy n.toNatClampNeg k.toNatClampNeg (defaultValue ty) (a := x) (by rw [hTh]; exact hx) n.toNatClampNeg
    rw [hF, hTh] at this
    exact this
  have hrow : ∀ j : Nat, j < n.toNatClampNeg → F.heap[H.size + 1 + j]? = some (vp_cell cy z) := fun j hj => by
    have := Jvm.Free.Multi.fill_inner (T.setVm vm₁) cA cy n.toNatClampNeg k.toNatClampNeg (defaultValue ty) n.toNatClampNeg j hj
    rw [hF, hTh, hz] at this
    exact this
  have hout : Jvm.Free.Multi.outerC cA n.toNatClampNeg H.size n.toNatClampNeg = vp_cell cA (n.toNatClampNeg, .inr (.inr (.inr (.inr (fun i => if i < n.toNatClampNeg then some (H.size + 1 + i) else none))))) := by
    rw [vp_cell_q]
    exact vr_outer cA n.toNatClampNeg H.size n.toNatClampNeg
  rw [hout] at f2
  have hlt : ∀ a, a ∈ L → a < H.size := fun a ha => by
    obtain ⟨k9, hk9⟩ := va_pl_get (X := X) (f := f) ha
    exact (hP k9 _ hk9).lt
  have hnl : ∀ i : Nat, i < n.toNatClampNeg → H.size + 1 + i ∉ L := fun i _ h => by
    have := hlt _ h
    omega
  have hnm : ∀ a, a ∈ (List.range n.toNatClampNeg).map (fun i => H.size + 1 + i) → a ∉ L := fun a ha h => by
    obtain ⟨i, -, rfl⟩ := List.mem_map.mp ha
    have := hlt _ h
    omega
  have hP0 : va_P D cl (X ++ va_pl L f) F.heap := hP.kept (fun k9 x hx => hold x.1 ((hP k9 x hx).lt))
  have hP1 : va_P D cl ((X ++ va_pl L f) ++ [(H.size, .inl (cA, n.toNatClampNeg, .inr (.inr (.inr (.inr (fun i => if i < n.toNatClampNeg then some (H.size + 1 + i) else none))))))]) F.heap := hP0.app (fun k9 x hx => by
    have h0 : k9 < 1 := (List.getElem?_eq_some_iff.mp hx).1
    rw [show k9 = 0 by omega] at hx
    cases hx
    exact f2)
  have hP2 : va_P D cl (((X ++ va_pl L f) ++ [(H.size, .inl (cA, n.toNatClampNeg, .inr (.inr (.inr (.inr (fun i => if i < n.toNatClampNeg then some (H.size + 1 + i) else none))))))]) ++ ((List.range n.toNatClampNeg).map (fun i => H.size + 1 + i)).map (fun a => (a, .inl (cy, z)))) F.heap := hP1.app (fun k9 x hx => by
    obtain ⟨a, ha, rfl⟩ := List.mem_map.mp (List.mem_of_getElem? hx)
    obtain ⟨i, hi, rfl⟩ := List.mem_map.mp ha
    exact hrow i (List.mem_range.mp hi))
  have hD2 : va_D A (((X ++ va_pl L f) ++ [(H.size, .inl (cA, n.toNatClampNeg, .inr (.inr (.inr (.inr (fun i => if i < n.toNatClampNeg then some (H.size + 1 + i) else none))))))]) ++ ((List.range n.toNatClampNeg).map (fun i => H.size + 1 + i)).map (fun a => (a, .inl (cy, z)))) := by
    have hD1 := hD.push (e := .inl (cA, n.toNatClampNeg, .inr (.inr (.inr (.inr (fun i => if i < n.toNatClampNeg then some (H.size + 1 + i) else none)))))) hP rfl (hA _ hS.1)
    generalize hW1 : (X ++ va_pl L f) ++ [(H.size, .inl (cA, n.toNatClampNeg, .inr (.inr (.inr (.inr (fun i => if i < n.toNatClampNeg then some (H.size + 1 + i) else none))))))] = W1 at hD1 hP1 ⊢
    have hle : ∀ (k9 : Nat) (x : Nat × va_E), W1[k9]? = some x → x.1 ≤ H.size := fun k9 x hx => by
      rw [← hW1] at hx
      by_cases hl : k9 < (X ++ va_pl L f).length
      · rw [List.getElem?_append_left hl] at hx
        exact Nat.le_of_lt ((hP k9 x hx).lt)
      · rw [List.getElem?_append_right (by omega)] at hx
        have h0 : k9 - (X ++ va_pl L f).length < 1 := (List.getElem?_eq_some_iff.mp hx).1
        rw [show k9 - (X ++ va_pl L f).length = 0 by omega] at hx
        cases hx
        exact Nat.le_refl _
    have hr : ∀ (k9 : Nat) (x : Nat × va_E), (((List.range n.toNatClampNeg).map (fun i => H.size + 1 + i)).map (fun a => ((a, .inl (cy, z)) : Nat × va_E)))[k9]? = some x → x.1 = H.size + 1 + k9 := fun k9 x hx => by
      rw [List.getElem?_map, List.getElem?_map] at hx
      by_cases h9 : k9 < n.toNatClampNeg
      · rw [List.getElem?_range h9] at hx
        cases hx
        rfl
      · have hn0 : (List.range n.toNatClampNeg)[k9]? = none := List.getElem?_eq_none (by rw [List.length_range]; omega)
        rw [hn0] at hx
        cases hx
    refine ⟨fun i j x y hi hj hxy => ?_, fun k9 x hx => ?_⟩
    · by_cases h1 : i < W1.length <;> by_cases h2 : j < W1.length
      · rw [List.getElem?_append_left h1] at hi
        rw [List.getElem?_append_left h2] at hj
        exact hD1.1 i j x y hi hj hxy
      · rw [List.getElem?_append_left h1] at hi
        rw [List.getElem?_append_right (by omega)] at hj
        have := hle _ _ hi
        have := hr _ _ hj
        omega
      · rw [List.getElem?_append_right (by omega)] at hi
        rw [List.getElem?_append_left h2] at hj
        have := hle _ _ hj
        have := hr _ _ hi
        omega
      · rw [List.getElem?_append_right (by omega)] at hi hj
        have := hr _ _ hi
        have := hr _ _ hj
        omega
    · by_cases h1 : k9 < W1.length
      · rw [List.getElem?_append_left h1] at hx
        exact hD1.2 k9 x hx
      · rw [List.getElem?_append_right (by omega)] at hx
        have := hr _ _ hx
        exact hA _ (by have := hS.1; omega)
  have hAr : ArrOfT s cA (.array ty) := fun N9 z9 => by
    obtain ⟨-, k9, hk9, cm9, hkk9⟩ := (hO 0 0 0).1
    exact ⟨(fun q hq => by cases hq), k9, hk9, cm9, hkk9⟩
  have hK2 : va_K D cl (tys ++ [(cA, .array ty)]) s := ⟨hK.1, fun k9 x hx => by
    by_cases hl : k9 < tys.length
    · rw [List.getElem?_append_left hl] at hx
      exact hK.2 k9 x hx
    · rw [List.getElem?_append_right (by omega)] at hx
      have h0 : k9 - tys.length < 1 := (List.getElem?_eq_some_iff.mp hx).1
      rw [show k9 - tys.length = 0 by omega] at hx
      cases hx
      exact ⟨hAr, fA⟩⟩
  obtain ⟨t, a1, b1⟩ := kk H.size (fun i => H.size + 1 + i) cA F.heap (fun i j _ _ h => by have h9 : H.size + 1 + i = H.size + 1 + j := h; omega) hnl hK2 (by rw [← vr_rows hnm]; exact vr_lay hP2) (by rw [← vr_rows hnm]; exact vr_layD hD2) ⟨by rw [f1]; have := hS.1; omega, fun x h1 h2 => (hold x (Nat.lt_of_lt_of_le h1 hS.1)).trans (hS.2.1 x h1 h2), hS.2.2⟩ F rfl X'
  refine ⟨t, step t ?_, b1⟩
  have e : T.heap.size = H.size := by rw [hT]
  rw [e]
  exact a1
end VGM
/-! ===== END ===== -/

/-! ===== BEGIN printed: names, fields, word lists, decode rows ===== -/
def RX0 : String := "DeepShip$Day"
def TX0 : u_T := fun k => match k with
  | 0 => ("DeepShip$Day", "starts", "[[J", true)
  | 1 => ("DeepShip$Day", "trying", "[I", true)
  | 2 => ("DeepShip$Day", "best", "[I", true)
  | 3 => ("DeepShip$Day", "many", "I", false)
  | 4 => ("DeepShip$Day", "leastSum", "I", false)
  | _ => ("DeepShip$Day", "gap", "I", false)
def tyX0 : Nat → FieldType := fun k => match k with
  | 0 => .array (.array .long)
  | 1 => .array .int
  | 2 => .array .int
  | 3 => .int
  | 4 => .int
  | _ => .int
abbrev wsX00 : List Cond := u_ws RX0 TX0 6
theorem nmX0 : ∀ a, a < 6 → ∀ b, b < 6 → a ≠ b → (TX0 a).2.1 ≠ (TX0 b).2.1 := by decide +kernel
theorem tyX0_ok : ∀ k, k < 6 → parseFieldDescriptor (TX0 k).2.2.1 = some (tyX0 k) := by decide +kernel
abbrev cX0_init : ByteArray := prog_2_method_1_code
def yX0_init : MethodName := ⟨RX0, "<init>", "()V"⟩
abbrev cX0_startsOf : ByteArray := prog_2_method_2_code
def yX0_startsOf : MethodName := ⟨RX0, "startsOf", "(I)[J"⟩
abbrev cX0_arrange : ByteArray := prog_2_method_3_code
def yX0_arrange : MethodName := ⟨RX0, "arrange", "(II)I"⟩
abbrev cX0_goes : ByteArray := prog_2_method_4_code
def yX0_goes : MethodName := ⟨RX0, "goes", "(I)I"⟩
abbrev cX0_tryNext : ByteArray := prog_2_method_5_code
def yX0_tryNext : MethodName := ⟨RX0, "tryNext", "(IIII)V"⟩
abbrev cX0_keepBetter : ByteArray := prog_2_method_6_code
def yX0_keepBetter : MethodName := ⟨RX0, "keepBetter", "(II)V"⟩
def RX1 : String := "DeepShip$Port"
def TX1 : u_T := fun k => match k with
  | 0 => ("DeepShip$Port", "miles", "I", false)
  | 1 => ("DeepShip$Port", "ships", "I", false)
  | 2 => ("DeepShip$Port", "heights", "[I", true)
  | 3 => ("DeepShip$Port", "settings", "[I", true)
  | 4 => ("DeepShip$Port", "marks", "[I", true)
  | _ => ("DeepShip$Port", "hulls", "[I", true)
def tyX1 : Nat → FieldType := fun k => match k with
  | 0 => .int
  | 1 => .int
  | 2 => .array .int
  | 3 => .array .int
  | 4 => .array .int
  | _ => .array .int
abbrev wsX10 : List Cond := u_ws RX1 TX1 6
theorem nmX1 : ∀ a, a < 6 → ∀ b, b < 6 → a ≠ b → (TX1 a).2.1 ≠ (TX1 b).2.1 := by decide +kernel
theorem tyX1_ok : ∀ k, k < 6 → parseFieldDescriptor (TX1 k).2.2.1 = some (tyX1 k) := by decide +kernel
abbrev cX1_init : ByteArray := prog_3_method_1_code
def yX1_init : MethodName := ⟨RX1, "<init>", "()V"⟩
abbrev cX1_take : ByteArray := prog_3_method_2_code
def yX1_take : MethodName := ⟨RX1, "take", "(LDeepShip$Port;)V"⟩
abbrev cX1_hasMile : ByteArray := prog_3_method_3_code
def yX1_hasMile : MethodName := ⟨RX1, "hasMile", "(I)Z"⟩
abbrev cX1_hasShip : ByteArray := prog_3_method_4_code
def yX1_hasShip : MethodName := ⟨RX1, "hasShip", "(I)Z"⟩
abbrev cX1_markOf : ByteArray := prog_3_method_5_code
def yX1_markOf : MethodName := ⟨RX1, "markOf", "(II)I"⟩
abbrev cX1_mark : ByteArray := prog_3_method_6_code
def yX1_mark : MethodName := ⟨RX1, "mark", "(III)I"⟩
abbrev cX1_hullOf : ByteArray := prog_3_method_7_code
def yX1_hullOf : MethodName := ⟨RX1, "hullOf", "(II)I"⟩
abbrev cX1_addMile : ByteArray := prog_3_method_8_code
def yX1_addMile : MethodName := ⟨RX1, "addMile", "(II)I"⟩
abbrev cX1_takeMiles : ByteArray := prog_3_method_9_code
def yX1_takeMiles : MethodName := ⟨RX1, "takeMiles", "([II)V"⟩
abbrev cX1_addShip : ByteArray := prog_3_method_10_code
def yX1_addShip : MethodName := ⟨RX1, "addShip", "(III)I"⟩
abbrev cX1_widths : ByteArray := prog_3_method_11_code
def yX1_widths : MethodName := ⟨RX1, "widths", "()I"⟩
abbrev cX1_tideAt : ByteArray := prog_3_method_12_code
def yX1_tideAt : MethodName := ⟨RX1, "tideAt", "(I)I"⟩
abbrev cX1_tideBy : ByteArray := prog_3_method_13_code
def yX1_tideBy : MethodName := ⟨RX1, "tideBy", "(II)I"⟩
abbrev cX1_levelAt : ByteArray := prog_3_method_14_code
def yX1_levelAt : MethodName := ⟨RX1, "levelAt", "(III)I"⟩
def RX2 : String := "DeepShip$Search"
def TX2 : u_T := fun k => match k with
  | 0 => ("DeepShip$Search", "port", "LDeepShip$Port;", true)
  | 1 => ("DeepShip$Search", "laid", "[I", true)
  | 2 => ("DeepShip$Search", "laidLate", "I", false)
  | 3 => ("DeepShip$Search", "flood", "[[J", true)
  | 4 => ("DeepShip$Search", "enough", "[I", true)
  | _ => ("DeepShip$Search", "rows", "[[J", true)
def tyX2 : Nat → FieldType := fun k => match k with
  | 0 => .object "DeepShip$Port"
  | 1 => .array .int
  | 2 => .int
  | 3 => .array (.array .long)
  | 4 => .array .int
  | _ => .array (.array .long)
abbrev wsX20 : List Cond := u_ws RX2 TX2 6
theorem nmX2 : ∀ a, a < 6 → ∀ b, b < 6 → a ≠ b → (TX2 a).2.1 ≠ (TX2 b).2.1 := by decide +kernel
theorem tyX2_ok : ∀ k, k < 6 → parseFieldDescriptor (TX2 k).2.2.1 = some (tyX2 k) := by decide +kernel
abbrev cX2_init : ByteArray := prog_4_method_1_code
def yX2_init : MethodName := ⟨RX2, "<init>", "(LDeepShip$Port;)V"⟩
abbrev cX2_begin : ByteArray := prog_4_method_2_code
def yX2_begin : MethodName := ⟨RX2, "begin", "(LDeepShip$Trial;)V"⟩
abbrev cX2_layTide : ByteArray := prog_4_method_3_code
def yX2_layTide : MethodName := ⟨RX2, "layTide", "()V"⟩
abbrev cX2_isLaid : ByteArray := prog_4_method_4_code
def yX2_isLaid : MethodName := ⟨RX2, "isLaid", "()Z"⟩
abbrev cX2_rule : ByteArray := prog_4_method_5_code
def yX2_rule : MethodName := ⟨RX2, "rule", "(LDeepShip$Trial;)V"⟩
abbrev cX2_ruleMile : ByteArray := prog_4_method_6_code
def yX2_ruleMile : MethodName := ⟨RX2, "ruleMile", "(LDeepShip$Trial;I)V"⟩
abbrev cX2_quickest : ByteArray := prog_4_method_7_code
def yX2_quickest : MethodName := ⟨RX2, "quickest", "(I)I"⟩
abbrev cX2_firstPace : ByteArray := prog_4_method_8_code
def yX2_firstPace : MethodName := ⟨RX2, "firstPace", "(III)I"⟩
abbrev cX2_findStarts : ByteArray := prog_4_method_9_code
def yX2_findStarts : MethodName := ⟨RX2, "findStarts", "([J)V"⟩
abbrev cX2_slowest : ByteArray := prog_4_method_10_code
def yX2_slowest : MethodName := ⟨RX2, "slowest", "(II)I"⟩
abbrev cX2_goOn : ByteArray := prog_4_method_11_code
def yX2_goOn : MethodName := ⟨RX2, "goOn", "(I)V"⟩
abbrev cX2_moveLater : ByteArray := prog_4_method_12_code
def yX2_moveLater : MethodName := ⟨RX2, "moveLater", "(II)V"⟩
abbrev cX2_goBack : ByteArray := prog_4_method_13_code
def yX2_goBack : MethodName := ⟨RX2, "goBack", "()V"⟩
abbrev cX2_earlier : ByteArray := prog_4_method_14_code
def yX2_earlier : MethodName := ⟨RX2, "earlier", "(IIJJ)J"⟩
abbrev cX2_wipe : ByteArray := prog_4_method_15_code
def yX2_wipe : MethodName := ⟨RX2, "wipe", "([J)V"⟩
def RX3 : String := "DeepShip$Sheets"
def TX3 : u_T := fun k => match k with
  | 0 => ("DeepShip$Sheets", "items", "[[I", true)
  | 1 => ("DeepShip$Sheets", "lanes", "[I", true)
  | _ => ("DeepShip$Sheets", "sizes", "[I", true)
def tyX3 : Nat → FieldType := fun k => match k with
  | 0 => .array (.array .int)
  | 1 => .array .int
  | _ => .array .int
abbrev wsX30 : List Cond := u_ws RX3 TX3 3
theorem nmX3 : ∀ a, a < 3 → ∀ b, b < 3 → a ≠ b → (TX3 a).2.1 ≠ (TX3 b).2.1 := by decide +kernel
theorem tyX3_ok : ∀ k, k < 3 → parseFieldDescriptor (TX3 k).2.2.1 = some (tyX3 k) := by decide +kernel
abbrev cX3_init : ByteArray := prog_5_method_1_code
def yX3_init : MethodName := ⟨RX3, "<init>", "()V"⟩
abbrev cX3_begin : ByteArray := prog_5_method_2_code
def yX3_begin : MethodName := ⟨RX3, "begin", "(III)I"⟩
abbrev cX3_forget : ByteArray := prog_5_method_3_code
def yX3_forget : MethodName := ⟨RX3, "forget", "(I)I"⟩
abbrev cX3_refusal : ByteArray := prog_5_method_4_code
def yX3_refusal : MethodName := ⟨RX3, "refusal", "(IIII)I"⟩
abbrev cX3_get : ByteArray := prog_5_method_5_code
def yX3_get : MethodName := ⟨RX3, "get", "(II)I"⟩
abbrev cX3_put : ByteArray := prog_5_method_6_code
def yX3_put : MethodName := ⟨RX3, "put", "(III)V"⟩
abbrev cX3_move : ByteArray := prog_5_method_7_code
def yX3_move : MethodName := ⟨RX3, "move", "(IIIII)I"⟩
abbrev cX3_isSheet : ByteArray := prog_5_method_8_code
def yX3_isSheet : MethodName := ⟨RX3, "isSheet", "(I)Z"⟩
abbrev cX3_isLane : ByteArray := prog_5_method_9_code
def yX3_isLane : MethodName := ⟨RX3, "isLane", "(I)Z"⟩
abbrev cX3_isNothing : ByteArray := prog_5_method_10_code
def yX3_isNothing : MethodName := ⟨RX3, "isNothing", "(I)Z"⟩
abbrev cX3_hasItems : ByteArray := prog_5_method_11_code
def yX3_hasItems : MethodName := ⟨RX3, "hasItems", "(III)Z"⟩
def RX4 : String := "DeepShip$Tape"
def TX4 : u_T := fun k => match k with
  | 0 => ("DeepShip$Tape", "found", "[I", true)
  | 1 => ("DeepShip$Tape", "signs", "[B", true)
  | 2 => ("DeepShip$Tape", "size", "I", false)
  | 3 => ("DeepShip$Tape", "at", "I", false)
  | _ => ("DeepShip$Tape", "fault", "I", false)
def tyX4 : Nat → FieldType := fun k => match k with
  | 0 => .array .int
  | 1 => .array .byte
  | 2 => .int
  | 3 => .int
  | _ => .int
abbrev wsX40 : List Cond := u_ws RX4 TX4 5
theorem nmX4 : ∀ a, a < 5 → ∀ b, b < 5 → a ≠ b → (TX4 a).2.1 ≠ (TX4 b).2.1 := by decide +kernel
theorem tyX4_ok : ∀ k, k < 5 → parseFieldDescriptor (TX4 k).2.2.1 = some (tyX4 k) := by decide +kernel
abbrev cX4_init : ByteArray := prog_6_method_1_code
def yX4_init : MethodName := ⟨RX4, "<init>", "()V"⟩
abbrev cX4_append : ByteArray := prog_6_method_2_code
def yX4_append : MethodName := ⟨RX4, "append", "(JI)I"⟩
abbrev cX4_readChannel : ByteArray := prog_6_method_3_code
def yX4_readChannel : MethodName := ⟨RX4, "readChannel", "()I"⟩
abbrev cX4_readTide : ByteArray := prog_6_method_4_code
def yX4_readTide : MethodName := ⟨RX4, "readTide", "()I"⟩
abbrev cX4_readMile : ByteArray := prog_6_method_5_code
def yX4_readMile : MethodName := ⟨RX4, "readMile", "(I)V"⟩
abbrev cX4_rewind : ByteArray := prog_6_method_6_code
def yX4_rewind : MethodName := ⟨RX4, "rewind", "()V"⟩
abbrev cX4_finish : ByteArray := prog_6_method_7_code
def yX4_finish : MethodName := ⟨RX4, "finish", "(I)I"⟩
abbrev cX4_fail : ByteArray := prog_6_method_8_code
def yX4_fail : MethodName := ⟨RX4, "fail", "(I)V"⟩
abbrev cX4_skipBlanks : ByteArray := prog_6_method_9_code
def yX4_skipBlanks : MethodName := ⟨RX4, "skipBlanks", "()V"⟩
abbrev cX4_takes : ByteArray := prog_6_method_10_code
def yX4_takes : MethodName := ⟨RX4, "takes", "(C)Z"⟩
abbrev cX4_expect : ByteArray := prog_6_method_11_code
def yX4_expect : MethodName := ⟨RX4, "expect", "(C)V"⟩
abbrev cX4_isDigit : ByteArray := prog_6_method_12_code
def yX4_isDigit : MethodName := ⟨RX4, "isDigit", "(I)Z"⟩
abbrev cX4_digit : ByteArray := prog_6_method_13_code
def yX4_digit : MethodName := ⟨RX4, "digit", "()I"⟩
abbrev cX4_mark : ByteArray := prog_6_method_14_code
def yX4_mark : MethodName := ⟨RX4, "mark", "(I)I"⟩
abbrev cX4_number : ByteArray := prog_6_method_15_code
def yX4_number : MethodName := ⟨RX4, "number", "(II)I"⟩
def RX5 : String := "DeepShip$Trial"
def TX5 : u_T := fun k => match k with
  | 0 => ("DeepShip$Trial", "port", "LDeepShip$Port;", true)
  | 1 => ("DeepShip$Trial", "draught", "I", false)
  | 2 => ("DeepShip$Trial", "breadth", "I", false)
  | 3 => ("DeepShip$Trial", "rule", "I", false)
  | 4 => ("DeepShip$Trial", "leastUnder", "I", false)
  | 5 => ("DeepShip$Trial", "wind", "I", false)
  | 6 => ("DeepShip$Trial", "needed", "I", false)
  | _ => ("DeepShip$Trial", "dug", "I", false)
def tyX5 : Nat → FieldType := fun k => match k with
  | 0 => .object "DeepShip$Port"
  | 1 => .int
  | 2 => .int
  | 3 => .int
  | 4 => .int
  | 5 => .int
  | 6 => .int
  | _ => .int
abbrev wsX50 : List Cond := u_ws RX5 TX5 8
theorem nmX5 : ∀ a, a < 8 → ∀ b, b < 8 → a ≠ b → (TX5 a).2.1 ≠ (TX5 b).2.1 := by decide +kernel
theorem tyX5_ok : ∀ k, k < 8 → parseFieldDescriptor (TX5 k).2.2.1 = some (tyX5 k) := by decide +kernel
abbrev cX5_init : ByteArray := prog_7_method_1_code
def yX5_init : MethodName := ⟨RX5, "<init>", "(LDeepShip$Port;)V"⟩
abbrev cX5_begin : ByteArray := prog_7_method_2_code
def yX5_begin : MethodName := ⟨RX5, "begin", "(I)V"⟩
abbrev cX5_load : ByteArray := prog_7_method_3_code
def yX5_load : MethodName := ⟨RX5, "load", "(I)V"⟩
abbrev cX5_keepTo : ByteArray := prog_7_method_4_code
def yX5_keepTo : MethodName := ⟨RX5, "keepTo", "(II)V"⟩
abbrev cX5_reckonNeed : ByteArray := prog_7_method_5_code
def yX5_reckonNeed : MethodName := ⟨RX5, "reckonNeed", "()V"⟩
abbrev cX5_level : ByteArray := prog_7_method_6_code
def yX5_level : MethodName := ⟨RX5, "level", "(II)I"⟩
abbrev cX5_sinking : ByteArray := prog_7_method_7_code
def yX5_sinking : MethodName := ⟨RX5, "sinking", "(III)I"⟩
abbrev cX5_atRest : ByteArray := prog_7_method_8_code
def yX5_atRest : MethodName := ⟨RX5, "atRest", "(II)I"⟩
abbrev cX5_clearance : ByteArray := prog_7_method_9_code
def yX5_clearance : MethodName := ⟨RX5, "clearance", "(III)I"⟩
def RX6 : String := "DeepShip$Voyage"
def TX6 : u_T := fun k => match k with
  | 0 => ("DeepShip$Voyage", "port", "LDeepShip$Port;", true)
  | 1 => ("DeepShip$Voyage", "touches", "I", false)
  | 2 => ("DeepShip$Voyage", "minutes", "I", false)
  | _ => ("DeepShip$Voyage", "lowest", "I", false)
def tyX6 : Nat → FieldType := fun k => match k with
  | 0 => .object "DeepShip$Port"
  | 1 => .int
  | 2 => .int
  | _ => .int
abbrev wsX60 : List Cond := u_ws RX6 TX6 4
theorem nmX6 : ∀ a, a < 4 → ∀ b, b < 4 → a ≠ b → (TX6 a).2.1 ≠ (TX6 b).2.1 := by decide +kernel
theorem tyX6_ok : ∀ k, k < 4 → parseFieldDescriptor (TX6 k).2.2.1 = some (tyX6 k) := by decide +kernel
abbrev cX6_init : ByteArray := prog_8_method_1_code
def yX6_init : MethodName := ⟨RX6, "<init>", "(LDeepShip$Port;)V"⟩
abbrev cX6_sail : ByteArray := prog_8_method_2_code
def yX6_sail : MethodName := ⟨RX6, "sail", "(LDeepShip$Trial;I)V"⟩
def RX7 : String := "DeepShip"
def TX7 : u_T := fun k => match k with
  | 0 => ("DeepShip", "port", "LDeepShip$Port;", true)
  | 1 => ("DeepShip", "kept", "LDeepShip$Port;", true)
  | 2 => ("DeepShip", "trial", "LDeepShip$Trial;", true)
  | 3 => ("DeepShip", "voyage", "LDeepShip$Voyage;", true)
  | 4 => ("DeepShip", "search", "LDeepShip$Search;", true)
  | 5 => ("DeepShip", "order", "LDeepShip$Day;", true)
  | 6 => ("DeepShip", "tape", "LDeepShip$Tape;", true)
  | 7 => ("DeepShip", "sheets", "LDeepShip$Sheets;", true)
  | 8 => ("DeepShip", "off", "[I", true)
  | _ => ("DeepShip", "imaged", "Z", false)
def tyX7 : Nat → FieldType := fun k => match k with
  | 0 => .object "DeepShip$Port"
  | 1 => .object "DeepShip$Port"
  | 2 => .object "DeepShip$Trial"
  | 3 => .object "DeepShip$Voyage"
  | 4 => .object "DeepShip$Search"
  | 5 => .object "DeepShip$Day"
  | 6 => .object "DeepShip$Tape"
  | 7 => .object "DeepShip$Sheets"
  | 8 => .array .int
  | _ => .boolean
abbrev wsX70 : List Cond := u_ws RX7 TX7 10
theorem nmX7 : ∀ a, a < 10 → ∀ b, b < 10 → a ≠ b → (TX7 a).2.1 ≠ (TX7 b).2.1 := by decide +kernel
theorem tyX7_ok : ∀ k, k < 10 → parseFieldDescriptor (TX7 k).2.2.1 = some (tyX7 k) := by decide +kernel
abbrev cX7_init : ByteArray := prog_1_method_1_code
def yX7_init : MethodName := ⟨RX7, "<init>", "()V"⟩
abbrev cX7_mile : ByteArray := prog_1_method_2_code
def yX7_mile : MethodName := ⟨RX7, "mile", "(II)I"⟩
abbrev cX7_make : ByteArray := prog_1_method_3_code
def yX7_make : MethodName := ⟨RX7, "make", "(III)I"⟩
abbrev cX7_told : ByteArray := prog_1_method_4_code
def yX7_told : MethodName := ⟨RX7, "told", "(II)I"⟩
abbrev cX7_height : ByteArray := prog_1_method_5_code
def yX7_height : MethodName := ⟨RX7, "height", "(II)I"⟩
abbrev cX7_set : ByteArray := prog_1_method_6_code
def yX7_set : MethodName := ⟨RX7, "set", "(II)I"⟩
abbrev cX7_ship : ByteArray := prog_1_method_7_code
def yX7_ship : MethodName := ⟨RX7, "ship", "(III)I"⟩
abbrev cX7_pace : ByteArray := prog_1_method_8_code
def yX7_pace : MethodName := ⟨RX7, "pace", "(II)I"⟩
abbrev cX7_type : ByteArray := prog_1_method_9_code
def yX7_type : MethodName := ⟨RX7, "type", "(JI)I"⟩
abbrev cX7_channel : ByteArray := prog_1_method_10_code
def yX7_channel : MethodName := ⟨RX7, "channel", "()I"⟩
abbrev cX7_tides : ByteArray := prog_1_method_11_code
def yX7_tides : MethodName := ⟨RX7, "tides", "()I"⟩
abbrev cX7_count : ByteArray := prog_1_method_12_code
def yX7_count : MethodName := ⟨RX7, "count", "(I)I"⟩
abbrev cX7_tide : ByteArray := prog_1_method_13_code
def yX7_tide : MethodName := ⟨RX7, "tide", "(I)I"⟩
abbrev cX7_water : ByteArray := prog_1_method_14_code
def yX7_water : MethodName := ⟨RX7, "water", "(II)I"⟩
abbrev cX7_sinks : ByteArray := prog_1_method_15_code
def yX7_sinks : MethodName := ⟨RX7, "sinks", "(IIII)I"⟩
abbrev cX7_under : ByteArray := prog_1_method_16_code
def yX7_under : MethodName := ⟨RX7, "under", "(IIII)I"⟩
abbrev cX7_need : ByteArray := prog_1_method_17_code
def yX7_need : MethodName := ⟨RX7, "need", "(I)I"⟩
abbrev cX7_run : ByteArray := prog_1_method_18_code
def yX7_run : MethodName := ⟨RX7, "run", "(III)I"⟩
abbrev cX7_least : ByteArray := prog_1_method_19_code
def yX7_least : MethodName := ⟨RX7, "least", "(III)I"⟩
abbrev cX7_starts : ByteArray := prog_1_method_20_code
def yX7_starts : MethodName := ⟨RX7, "starts", "(II)I"⟩
abbrev cX7_deepest : ByteArray := prog_1_method_21_code
def yX7_deepest : MethodName := ⟨RX7, "deepest", "(II)I"⟩
abbrev cX7_bank : ByteArray := prog_1_method_22_code
def yX7_bank : MethodName := ⟨RX7, "bank", "(III)I"⟩
abbrev cX7_nearest : ByteArray := prog_1_method_23_code
def yX7_nearest : MethodName := ⟨RX7, "nearest", "(II)I"⟩
abbrev cX7_steered : ByteArray := prog_1_method_24_code
def yX7_steered : MethodName := ⟨RX7, "steered", "(II)I"⟩
abbrev cX7_may : ByteArray := prog_1_method_25_code
def yX7_may : MethodName := ⟨RX7, "may", "(IIIII)I"⟩
abbrev cX7_meet : ByteArray := prog_1_method_26_code
def yX7_meet : MethodName := ⟨RX7, "meet", "(IIIIII)I"⟩
abbrev cX7_day : ByteArray := prog_1_method_27_code
def yX7_day : MethodName := ⟨RX7, "day", "(III)I"⟩
abbrev cX7_dredged : ByteArray := prog_1_method_28_code
def yX7_dredged : MethodName := ⟨RX7, "dredged", "(III)I"⟩
abbrev cX7_lost : ByteArray := prog_1_method_29_code
def yX7_lost : MethodName := ⟨RX7, "lost", "(IIII)I"⟩
abbrev cX7_touched : ByteArray := prog_1_method_30_code
def yX7_touched : MethodName := ⟨RX7, "touched", "(III)I"⟩
abbrev cX7_past : ByteArray := prog_1_method_31_code
def yX7_past : MethodName := ⟨RX7, "past", "(III)I"⟩
abbrev cX7_image : ByteArray := prog_1_method_32_code
def yX7_image : MethodName := ⟨RX7, "image", "()I"⟩
abbrev cX7_restore : ByteArray := prog_1_method_33_code
def yX7_restore : MethodName := ⟨RX7, "restore", "()I"⟩
abbrev cX7_gauged : ByteArray := prog_1_method_34_code
def yX7_gauged : MethodName := ⟨RX7, "gauged", "(IIIII)I"⟩
abbrev cX7_sheet : ByteArray := prog_1_method_35_code
def yX7_sheet : MethodName := ⟨RX7, "sheet", "(III)I"⟩
abbrev cX7_drop : ByteArray := prog_1_method_36_code
def yX7_drop : MethodName := ⟨RX7, "drop", "(I)I"⟩
abbrev cX7_item : ByteArray := prog_1_method_37_code
def yX7_item : MethodName := ⟨RX7, "item", "(IIII)I"⟩
abbrev cX7_copy : ByteArray := prog_1_method_38_code
def yX7_copy : MethodName := ⟨RX7, "copy", "(IIIII)I"⟩
abbrev cX7_within : ByteArray := prog_1_method_39_code
def yX7_within : MethodName := ⟨RX7, "within", "(III)Z"⟩
abbrev cX7_isMark : ByteArray := prog_1_method_40_code
def yX7_isMark : MethodName := ⟨RX7, "isMark", "(II)Z"⟩
abbrev cX7_isPace : ByteArray := prog_1_method_41_code
def yX7_isPace : MethodName := ⟨RX7, "isPace", "(I)Z"⟩
abbrev cX7_isMinute : ByteArray := prog_1_method_42_code
def yX7_isMinute : MethodName := ⟨RX7, "isMinute", "(I)Z"⟩
abbrev cX7_isStart : ByteArray := prog_1_method_43_code
def yX7_isStart : MethodName := ⟨RX7, "isStart", "(II)Z"⟩
abbrev cX7_refusalAt : ByteArray := prog_1_method_44_code
def yX7_refusalAt : MethodName := ⟨RX7, "refusalAt", "(IIII)I"⟩
abbrev cX7_isPlaced : ByteArray := prog_1_method_45_code
def yX7_isPlaced : MethodName := ⟨RX7, "isPlaced", "(IIII)Z"⟩
abbrev cX7_areTwo : ByteArray := prog_1_method_46_code
def yX7_areTwo : MethodName := ⟨RX7, "areTwo", "(II)Z"⟩
abbrev cX7_isHeld : ByteArray := prog_1_method_47_code
def yX7_isHeld : MethodName := ⟨RX7, "isHeld", "(III)Z"⟩
abbrev cX7_latesBy : ByteArray := prog_1_method_48_code
def yX7_latesBy : MethodName := ⟨RX7, "latesBy", "(IIII)I"⟩
abbrev cX7_isLate : ByteArray := prog_1_method_49_code
def yX7_isLate : MethodName := ⟨RX7, "isLate", "(IIII)Z"⟩
abbrev cX7_minutesBy : ByteArray := prog_1_method_50_code
def yX7_minutesBy : MethodName := ⟨RX7, "minutesBy", "(I)I"⟩
abbrev cX7_hasBit : ByteArray := prog_1_method_51_code
def yX7_hasBit : MethodName := ⟨RX7, "hasBit", "([JI)Z"⟩
abbrev cX7_putBit : ByteArray := prog_1_method_52_code
def yX7_putBit : MethodName := ⟨RX7, "putBit", "([JI)V"⟩
abbrev cX7_bitsIn : ByteArray := prog_1_method_53_code
def yX7_bitsIn : MethodName := ⟨RX7, "bitsIn", "([J)I"⟩
abbrev cX7_firstFrom : ByteArray := prog_1_method_54_code
def yX7_firstFrom : MethodName := ⟨RX7, "firstFrom", "([JI)I"⟩
abbrev cX7_lastOf : ByteArray := prog_1_method_55_code
def yX7_lastOf : MethodName := ⟨RX7, "lastOf", "([J)I"⟩
def RX8 : String := "DeepShipModel"
def TX8 : u_T := fun k => match k with
  | 0 => ("DeepShipModel", "miles", "I", false)
  | 1 => ("DeepShipModel", "parts", "[I", true)
  | 2 => ("DeepShipModel", "heights", "[I", true)
  | 3 => ("DeepShipModel", "sets", "[I", true)
  | 4 => ("DeepShipModel", "ships", "I", false)
  | 5 => ("DeepShipModel", "hulls", "[I", true)
  | 6 => ("DeepShipModel", "tape", "[I", true)
  | 7 => ("DeepShipModel", "taped", "I", false)
  | 8 => ("DeepShipModel", "at", "I", false)
  | 9 => ("DeepShipModel", "wrong", "Z", false)
  | 10 => ("DeepShipModel", "read", "[I", true)
  | 11 => ("DeepShipModel", "touchedAt", "I", false)
  | 12 => ("DeepShipModel", "minutes", "I", false)
  | 13 => ("DeepShipModel", "leastUnder", "I", false)
  | 14 => ("DeepShipModel", "byRule", "Z", false)
  | 15 => ("DeepShipModel", "left", "[I", true)
  | 16 => ("DeepShipModel", "paceBy", "[I", true)
  | 17 => ("DeepShipModel", "may", "[Z", true)
  | 18 => ("DeepShipModel", "mayNext", "[Z", true)
  | 19 => ("DeepShipModel", "off", "[J", true)
  | 20 => ("DeepShipModel", "nextStart", "[I", true)
  | 21 => ("DeepShipModel", "order", "[I", true)
  | 22 => ("DeepShipModel", "bestOrder", "[I", true)
  | 23 => ("DeepShipModel", "image", "[I", true)
  | 24 => ("DeepShipModel", "isImage", "Z", false)
  | 25 => ("DeepShipModel", "lanes", "[I", true)
  | 26 => ("DeepShipModel", "sizes", "[I", true)
  | 27 => ("DeepShipModel", "items", "[I", true)
  | _ => ("DeepShipModel", "moved", "[I", true)
def tyX8 : Nat → FieldType := fun k => match k with
  | 0 => .int
  | 1 => .array .int
  | 2 => .array .int
  | 3 => .array .int
  | 4 => .int
  | 5 => .array .int
  | 6 => .array .int
  | 7 => .int
  | 8 => .int
  | 9 => .boolean
  | 10 => .array .int
  | 11 => .int
  | 12 => .int
  | 13 => .int
  | 14 => .boolean
  | 15 => .array .int
  | 16 => .array .int
  | 17 => .array .boolean
  | 18 => .array .boolean
  | 19 => .array .long
  | 20 => .array .int
  | 21 => .array .int
  | 22 => .array .int
  | 23 => .array .int
  | 24 => .boolean
  | 25 => .array .int
  | 26 => .array .int
  | 27 => .array .int
  | _ => .array .int
abbrev wsX80 : List Cond := u_ws RX8 TX8 29
theorem nmX8 : ∀ a, a < 29 → ∀ b, b < 29 → a ≠ b → (TX8 a).2.1 ≠ (TX8 b).2.1 := by decide +kernel
theorem tyX8_ok : ∀ k, k < 29 → parseFieldDescriptor (TX8 k).2.2.1 = some (tyX8 k) := by decide +kernel
abbrev cX8_in : ByteArray := prog_10_method_2_code
def yX8_in : MethodName := ⟨RX8, "in", "(JJJ)Z"⟩
abbrev cX8_init : ByteArray := prog_10_method_3_code
def yX8_init : MethodName := ⟨RX8, "<init>", "()V"⟩
abbrev cX8_isMile : ByteArray := prog_10_method_4_code
def yX8_isMile : MethodName := ⟨RX8, "isMile", "(I)Z"⟩
abbrev cX8_isShip : ByteArray := prog_10_method_5_code
def yX8_isShip : MethodName := ⟨RX8, "isShip", "(I)Z"⟩
abbrev cX8_isPace : ByteArray := prog_10_method_6_code
def yX8_isPace : MethodName := ⟨RX8, "isPace", "(I)Z"⟩
abbrev cX8_isStart : ByteArray := prog_10_method_7_code
def yX8_isStart : MethodName := ⟨RX8, "isStart", "(I)Z"⟩
abbrev cX8_isPart : ByteArray := prog_10_method_8_code
def yX8_isPart : MethodName := ⟨RX8, "isPart", "(II)Z"⟩
abbrev cX8_mileIs : ByteArray := prog_10_method_9_code
def yX8_mileIs : MethodName := ⟨RX8, "mileIs", "(IIIIII)V"⟩
abbrev cX8_mile : ByteArray := prog_10_method_10_code
def yX8_mile : MethodName := ⟨RX8, "mile", "(II)I"⟩
abbrev cX8_make : ByteArray := prog_10_method_11_code
def yX8_make : MethodName := ⟨RX8, "make", "(III)I"⟩
abbrev cX8_told : ByteArray := prog_10_method_12_code
def yX8_told : MethodName := ⟨RX8, "told", "(II)I"⟩
abbrev cX8_height : ByteArray := prog_10_method_13_code
def yX8_height : MethodName := ⟨RX8, "height", "(II)I"⟩
abbrev cX8_isSet : ByteArray := prog_10_method_14_code
def yX8_isSet : MethodName := ⟨RX8, "isSet", "(II)Z"⟩
abbrev cX8_set : ByteArray := prog_10_method_15_code
def yX8_set : MethodName := ⟨RX8, "set", "(II)I"⟩
abbrev cX8_ship : ByteArray := prog_10_method_16_code
def yX8_ship : MethodName := ⟨RX8, "ship", "(III)I"⟩
abbrev cX8_pace : ByteArray := prog_10_method_17_code
def yX8_pace : MethodName := ⟨RX8, "pace", "(II)I"⟩
abbrev cX8_type : ByteArray := prog_10_method_18_code
def yX8_type : MethodName := ⟨RX8, "type", "(JI)I"⟩
abbrev cX8_here : ByteArray := prog_10_method_19_code
def yX8_here : MethodName := ⟨RX8, "here", "()I"⟩
abbrev cX8_has : ByteArray := prog_10_method_20_code
def yX8_has : MethodName := ⟨RX8, "has", "(I)Z"⟩
abbrev cX8_number : ByteArray := prog_10_method_21_code
def yX8_number : MethodName := ⟨RX8, "number", "(II)I"⟩
abbrev cX8_digit : ByteArray := prog_10_method_22_code
def yX8_digit : MethodName := ⟨RX8, "digit", "()I"⟩
abbrev cX8_mileClause : ByteArray := prog_10_method_23_code
def yX8_mileClause : MethodName := ⟨RX8, "mileClause", "(I)V"⟩
abbrev cX8_channel : ByteArray := prog_10_method_24_code
def yX8_channel : MethodName := ⟨RX8, "channel", "()I"⟩
abbrev cX8_tides : ByteArray := prog_10_method_25_code
def yX8_tides : MethodName := ⟨RX8, "tides", "()I"⟩
abbrev cX8_count : ByteArray := prog_10_method_26_code
def yX8_count : MethodName := ⟨RX8, "count", "(I)I"⟩
abbrev cX8_tideAt : ByteArray := prog_10_method_27_code
def yX8_tideAt : MethodName := ⟨RX8, "tideAt", "(I)I"⟩
abbrev cX8_waterAt : ByteArray := prog_10_method_28_code
def yX8_waterAt : MethodName := ⟨RX8, "waterAt", "(II)I"⟩
abbrev cX8_sinksBy : ByteArray := prog_10_method_29_code
def yX8_sinksBy : MethodName := ⟨RX8, "sinksBy", "(IIII)I"⟩
abbrev cX8_underBy : ByteArray := prog_10_method_30_code
def yX8_underBy : MethodName := ⟨RX8, "underBy", "(IIII)I"⟩
abbrev cX8_needOf : ByteArray := prog_10_method_31_code
def yX8_needOf : MethodName := ⟨RX8, "needOf", "(I)I"⟩
abbrev cX8_isMinute : ByteArray := prog_10_method_32_code
def yX8_isMinute : MethodName := ⟨RX8, "isMinute", "(I)Z"⟩
abbrev cX8_tide : ByteArray := prog_10_method_33_code
def yX8_tide : MethodName := ⟨RX8, "tide", "(I)I"⟩
abbrev cX8_water : ByteArray := prog_10_method_34_code
def yX8_water : MethodName := ⟨RX8, "water", "(II)I"⟩
abbrev cX8_sinks : ByteArray := prog_10_method_35_code
def yX8_sinks : MethodName := ⟨RX8, "sinks", "(IIII)I"⟩
abbrev cX8_under : ByteArray := prog_10_method_36_code
def yX8_under : MethodName := ⟨RX8, "under", "(IIII)I"⟩
abbrev cX8_need : ByteArray := prog_10_method_37_code
def yX8_need : MethodName := ⟨RX8, "need", "(I)I"⟩
abbrev cX8_goes : ByteArray := prog_10_method_38_code
def yX8_goes : MethodName := ⟨RX8, "goes", "(II)V"⟩
abbrev cX8_run : ByteArray := prog_10_method_39_code
def yX8_run : MethodName := ⟨RX8, "run", "(III)I"⟩
abbrev cX8_quickest : ByteArray := prog_10_method_40_code
def yX8_quickest : MethodName := ⟨RX8, "quickest", "(II)I"⟩
abbrev cX8_least : ByteArray := prog_10_method_41_code
def yX8_least : MethodName := ⟨RX8, "least", "(III)I"⟩
abbrev cX8_startsOf : ByteArray := prog_10_method_42_code
def yX8_startsOf : MethodName := ⟨RX8, "startsOf", "(I)V"⟩
abbrev cX8_starts : ByteArray := prog_10_method_43_code
def yX8_starts : MethodName := ⟨RX8, "starts", "(II)I"⟩
abbrev cX8_deepest : ByteArray := prog_10_method_44_code
def yX8_deepest : MethodName := ⟨RX8, "deepest", "(II)I"⟩
abbrev cX8_holds : ByteArray := prog_10_method_45_code
def yX8_holds : MethodName := ⟨RX8, "holds", "(III)Z"⟩
abbrev cX8_bank : ByteArray := prog_10_method_46_code
def yX8_bank : MethodName := ⟨RX8, "bank", "(III)I"⟩
abbrev cX8_nearest : ByteArray := prog_10_method_47_code
def yX8_nearest : MethodName := ⟨RX8, "nearest", "(II)I"⟩
abbrev cX8_steered : ByteArray := prog_10_method_48_code
def yX8_steered : MethodName := ⟨RX8, "steered", "(II)I"⟩
abbrev cX8_may : ByteArray := prog_10_method_49_code
def yX8_may : MethodName := ⟨RX8, "may", "(IIIII)I"⟩
abbrev cX8_meet : ByteArray := prog_10_method_50_code
def yX8_meet : MethodName := ⟨RX8, "meet", "(IIIIII)I"⟩
abbrev cX8_turns : ByteArray := prog_10_method_51_code
def yX8_turns : MethodName := ⟨RX8, "turns", "(I)Z"⟩
abbrev cX8_sumOf : ByteArray := prog_10_method_52_code
def yX8_sumOf : MethodName := ⟨RX8, "sumOf", "(II)I"⟩
abbrev cX8_day : ByteArray := prog_10_method_53_code
def yX8_day : MethodName := ⟨RX8, "day", "(III)I"⟩
abbrev cX8_dredged : ByteArray := prog_10_method_54_code
def yX8_dredged : MethodName := ⟨RX8, "dredged", "(III)I"⟩
abbrev cX8_lost : ByteArray := prog_10_method_55_code
def yX8_lost : MethodName := ⟨RX8, "lost", "(IIII)I"⟩
abbrev cX8_touched : ByteArray := prog_10_method_56_code
def yX8_touched : MethodName := ⟨RX8, "touched", "(III)I"⟩
abbrev cX8_past : ByteArray := prog_10_method_57_code
def yX8_past : MethodName := ⟨RX8, "past", "(III)I"⟩
abbrev cX8_lay : ByteArray := prog_10_method_58_code
def yX8_lay : MethodName := ⟨RX8, "lay", "([II)I"⟩
abbrev cX8_gives : ByteArray := prog_10_method_59_code
def yX8_gives : MethodName := ⟨RX8, "gives", "(I[I)I"⟩
abbrev cX8_image : ByteArray := prog_10_method_60_code
def yX8_image : MethodName := ⟨RX8, "image", "()I"⟩
abbrev cX8_restore : ByteArray := prog_10_method_61_code
def yX8_restore : MethodName := ⟨RX8, "restore", "()I"⟩
abbrev cX8_isSheet : ByteArray := prog_10_method_62_code
def yX8_isSheet : MethodName := ⟨RX8, "isSheet", "(I)Z"⟩
abbrev cX8_isLane : ByteArray := prog_10_method_63_code
def yX8_isLane : MethodName := ⟨RX8, "isLane", "(I)Z"⟩
abbrev cX8_finds : ByteArray := prog_10_method_64_code
def yX8_finds : MethodName := ⟨RX8, "finds", "(IIII)I"⟩
abbrev cX8_gauged : ByteArray := prog_10_method_65_code
def yX8_gauged : MethodName := ⟨RX8, "gauged", "(IIIII)I"⟩
abbrev cX8_sheet : ByteArray := prog_10_method_66_code
def yX8_sheet : MethodName := ⟨RX8, "sheet", "(III)I"⟩
abbrev cX8_drop : ByteArray := prog_10_method_67_code
def yX8_drop : MethodName := ⟨RX8, "drop", "(I)I"⟩
abbrev cX8_item : ByteArray := prog_10_method_68_code
def yX8_item : MethodName := ⟨RX8, "item", "(IIII)I"⟩
abbrev cX8_copy : ByteArray := prog_10_method_69_code
def yX8_copy : MethodName := ⟨RX8, "copy", "(IIIII)I"⟩
def RJ6 : String := "java/lang/Integer"
def TJ6 : u_T := fun k => match k with
  | _ => ("", "", "", false)
def tyJ6 : Nat → FieldType := fun k => match k with
  | _ => .int
abbrev wsJ60 : List Cond := u_ws RJ6 TJ6 0
theorem nmJ6 : ∀ a, a < 0 → ∀ b, b < 0 → a ≠ b → (TJ6 a).2.1 ≠ (TJ6 b).2.1 := by decide +kernel
theorem tyJ6_ok : ∀ k, k < 0 → parseFieldDescriptor (TJ6 k).2.2.1 = some (tyJ6 k) := by decide +kernel
abbrev cJ6_compare_7cf53 : ByteArray := prog_11_method_40_code
def yJ6_compare_7cf53 : MethodName := ⟨RJ6, "compare", "(II)I"⟩
def RJ13 : String := "java/lang/Long"
def TJ13 : u_T := fun k => match k with
  | _ => ("", "", "", false)
def tyJ13 : Nat → FieldType := fun k => match k with
  | _ => .int
abbrev wsJ130 : List Cond := u_ws RJ13 TJ13 0
theorem nmJ13 : ∀ a, a < 0 → ∀ b, b < 0 → a ≠ b → (TJ13 a).2.1 ≠ (TJ13 b).2.1 := by decide +kernel
theorem tyJ13_ok : ∀ k, k < 0 → parseFieldDescriptor (TJ13 k).2.2.1 = some (tyJ13 k) := by decide +kernel
abbrev cJ13_bitCount_95d88 : ByteArray := prog_12_method_50_code
def yJ13_bitCount_95d88 : MethodName := ⟨RJ13, "bitCount", "(J)I"⟩
def RJ9 : String := "java/lang/Math"
def TJ9 : u_T := fun k => match k with
  | _ => ("", "", "", false)
def tyJ9 : Nat → FieldType := fun k => match k with
  | _ => .int
abbrev wsJ90 : List Cond := u_ws RJ9 TJ9 0
theorem nmJ9 : ∀ a, a < 0 → ∀ b, b < 0 → a ≠ b → (TJ9 a).2.1 ≠ (TJ9 b).2.1 := by decide +kernel
theorem tyJ9_ok : ∀ k, k < 0 → parseFieldDescriptor (TJ9 k).2.2.1 = some (tyJ9 k) := by decide +kernel
abbrev cJ9_floorMod_7cf53 : ByteArray := prog_13_method_50_code
def yJ9_floorMod_7cf53 : MethodName := ⟨RJ9, "floorMod", "(II)I"⟩
abbrev cJ9_abs_0f7a4 : ByteArray := prog_13_method_59_code
def yJ9_abs_0f7a4 : MethodName := ⟨RJ9, "abs", "(I)I"⟩
abbrev cJ9_max_7cf53 : ByteArray := prog_13_method_65_code
def yJ9_max_7cf53 : MethodName := ⟨RJ9, "max", "(II)I"⟩
abbrev cJ9_min_7cf53 : ByteArray := prog_13_method_69_code
def yJ9_min_7cf53 : MethodName := ⟨RJ9, "min", "(II)I"⟩
def RJ10 : String := "java/lang/System"
def TJ10 : u_T := fun k => match k with
  | _ => ("", "", "", false)
def tyJ10 : Nat → FieldType := fun k => match k with
  | _ => .int
abbrev wsJ100 : List Cond := u_ws RJ10 TJ10 0
theorem nmJ10 : ∀ a, a < 0 → ∀ b, b < 0 → a ≠ b → (TJ10 a).2.1 ≠ (TJ10 b).2.1 := by decide +kernel
theorem tyJ10_ok : ∀ k, k < 0 → parseFieldDescriptor (TJ10 k).2.2.1 = some (tyJ10 k) := by decide +kernel
def RL : String := "DeepShipLaw"
abbrev cL_law : ByteArray := code
def yL_law : MethodName := ⟨RL, "law", "([I)Z"⟩
abbrev vwCl : List vw_C := [(RX0, TX0, 6), (RX1, TX1, 6), (RX2, TX2, 6), (RX3, TX3, 3), (RX4, TX4, 5), (RX5, TX5, 8), (RX6, TX6, 4), (RX7, TX7, 10), (RX8, TX8, 29)]
/-! ===== END printed: names ===== -/

