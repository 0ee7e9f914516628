section
-- ===== PART A: goes FIRST, ahead of the names: the tables' words, and 'selects' of the private methods out of them =====
/-- a private method of a class that the tables say can be made, by its rows of tables_1 -/
def lw_okq (q : MethodName × Nat) : Prop := (q.1.cls ≠ "java/lang/invoke/MethodHandle" ∧ q.1.cls ≠ "java/lang/invoke/VarHandle") ∧ Cond.instantiable q.1.cls q.2 ∈ tables_1 ∧ Cond.privateMethod q.1 ∈ tables_1 ∧ Cond.instanceMethod q.1 ∈ tables_1
theorem lw_p0 : lw_okq (⟨"DeepShip$Tape", "rewind", "()V"⟩, 5) := ⟨⟨by decide +kernel, by decide +kernel⟩, List.mem_of_getElem? (i := 171) (by decide +kernel), List.mem_of_getElem? (i := 327) (by decide +kernel), List.mem_of_getElem? (i := 328) (by decide +kernel)⟩
theorem lw_p1 : lw_okq (⟨"DeepShip$Tape", "readMile", "(I)V"⟩, 5) := ⟨⟨by decide +kernel, by decide +kernel⟩, List.mem_of_getElem? (i := 171) (by decide +kernel), List.mem_of_getElem? (i := 331) (by decide +kernel), List.mem_of_getElem? (i := 332) (by decide +kernel)⟩
theorem lw_p2 : lw_okq (⟨"DeepShip$Tape", "mark", "(I)I"⟩, 5) := ⟨⟨by decide +kernel, by decide +kernel⟩, List.mem_of_getElem? (i := 171) (by decide +kernel), List.mem_of_getElem? (i := 335) (by decide +kernel), List.mem_of_getElem? (i := 336) (by decide +kernel)⟩
theorem lw_p3 : lw_okq (⟨"DeepShip$Tape", "number", "(II)I"⟩, 5) := ⟨⟨by decide +kernel, by decide +kernel⟩, List.mem_of_getElem? (i := 171) (by decide +kernel), List.mem_of_getElem? (i := 341) (by decide +kernel), List.mem_of_getElem? (i := 342) (by decide +kernel)⟩
theorem lw_p4 : lw_okq (⟨"DeepShip$Tape", "skipBlanks", "()V"⟩, 5) := ⟨⟨by decide +kernel, by decide +kernel⟩, List.mem_of_getElem? (i := 171) (by decide +kernel), List.mem_of_getElem? (i := 345) (by decide +kernel), List.mem_of_getElem? (i := 346) (by decide +kernel)⟩
theorem lw_p5 : lw_okq (⟨"DeepShip$Tape", "fail", "(I)V"⟩, 5) := ⟨⟨by decide +kernel, by decide +kernel⟩, List.mem_of_getElem? (i := 171) (by decide +kernel), List.mem_of_getElem? (i := 355) (by decide +kernel), List.mem_of_getElem? (i := 356) (by decide +kernel)⟩
theorem lw_p6 : lw_okq (⟨"DeepShip$Tape", "expect", "(C)V"⟩, 5) := ⟨⟨by decide +kernel, by decide +kernel⟩, List.mem_of_getElem? (i := 171) (by decide +kernel), List.mem_of_getElem? (i := 359) (by decide +kernel), List.mem_of_getElem? (i := 360) (by decide +kernel)⟩
theorem lw_p7 : lw_okq (⟨"DeepShip$Tape", "takes", "(C)Z"⟩, 5) := ⟨⟨by decide +kernel, by decide +kernel⟩, List.mem_of_getElem? (i := 171) (by decide +kernel), List.mem_of_getElem? (i := 363) (by decide +kernel), List.mem_of_getElem? (i := 364) (by decide +kernel)⟩
theorem lw_p8 : lw_okq (⟨"DeepShip$Tape", "digit", "()I"⟩, 5) := ⟨⟨by decide +kernel, by decide +kernel⟩, List.mem_of_getElem? (i := 171) (by decide +kernel), List.mem_of_getElem? (i := 367) (by decide +kernel), List.mem_of_getElem? (i := 368) (by decide +kernel)⟩
theorem lw_p9 : lw_okq (⟨"DeepShip$Tape", "finish", "(I)I"⟩, 5) := ⟨⟨by decide +kernel, by decide +kernel⟩, List.mem_of_getElem? (i := 171) (by decide +kernel), List.mem_of_getElem? (i := 371) (by decide +kernel), List.mem_of_getElem? (i := 372) (by decide +kernel)⟩
theorem lw_p10 : lw_okq (⟨"DeepShip", "isPlaced", "(IIII)Z"⟩, 10) := ⟨⟨by decide +kernel, by decide +kernel⟩, List.mem_of_getElem? (i := 15) (by decide +kernel), List.mem_of_getElem? (i := 431) (by decide +kernel), List.mem_of_getElem? (i := 432) (by decide +kernel)⟩
theorem lw_p11 : lw_okq (⟨"DeepShip$Trial", "reckonNeed", "()V"⟩, 8) := ⟨⟨by decide +kernel, by decide +kernel⟩, List.mem_of_getElem? (i := 58) (by decide +kernel), List.mem_of_getElem? (i := 451) (by decide +kernel), List.mem_of_getElem? (i := 452) (by decide +kernel)⟩
theorem lw_p12 : lw_okq (⟨"DeepShip", "isStart", "(II)Z"⟩, 10) := ⟨⟨by decide +kernel, by decide +kernel⟩, List.mem_of_getElem? (i := 15) (by decide +kernel), List.mem_of_getElem? (i := 492) (by decide +kernel), List.mem_of_getElem? (i := 493) (by decide +kernel)⟩
theorem lw_p13 : lw_okq (⟨"DeepShip", "refusalAt", "(IIII)I"⟩, 10) := ⟨⟨by decide +kernel, by decide +kernel⟩, List.mem_of_getElem? (i := 15) (by decide +kernel), List.mem_of_getElem? (i := 517) (by decide +kernel), List.mem_of_getElem? (i := 518) (by decide +kernel)⟩
theorem lw_p14 : lw_okq (⟨"DeepShip$Search", "isLaid", "()Z"⟩, 6) := ⟨⟨by decide +kernel, by decide +kernel⟩, List.mem_of_getElem? (i := 115) (by decide +kernel), List.mem_of_getElem? (i := 529) (by decide +kernel), List.mem_of_getElem? (i := 530) (by decide +kernel)⟩
theorem lw_p15 : lw_okq (⟨"DeepShip$Search", "goOn", "(I)V"⟩, 6) := ⟨⟨by decide +kernel, by decide +kernel⟩, List.mem_of_getElem? (i := 115) (by decide +kernel), List.mem_of_getElem? (i := 559) (by decide +kernel), List.mem_of_getElem? (i := 560) (by decide +kernel)⟩
def lw_privs_1 : List (MethodName × Nat) := [(⟨"DeepShip$Tape", "rewind", "()V"⟩, 5), (⟨"DeepShip$Tape", "readMile", "(I)V"⟩, 5), (⟨"DeepShip$Tape", "mark", "(I)I"⟩, 5), (⟨"DeepShip$Tape", "number", "(II)I"⟩, 5), (⟨"DeepShip$Tape", "skipBlanks", "()V"⟩, 5), (⟨"DeepShip$Tape", "fail", "(I)V"⟩, 5), (⟨"DeepShip$Tape", "expect", "(C)V"⟩, 5), (⟨"DeepShip$Tape", "takes", "(C)Z"⟩, 5), (⟨"DeepShip$Tape", "digit", "()I"⟩, 5), (⟨"DeepShip$Tape", "finish", "(I)I"⟩, 5), (⟨"DeepShip", "isPlaced", "(IIII)Z"⟩, 10), (⟨"DeepShip$Trial", "reckonNeed", "()V"⟩, 8), (⟨"DeepShip", "isStart", "(II)Z"⟩, 10), (⟨"DeepShip", "refusalAt", "(IIII)I"⟩, 10), (⟨"DeepShip$Search", "isLaid", "()Z"⟩, 6), (⟨"DeepShip$Search", "goOn", "(I)V"⟩, 6)]
theorem lw_r1 : ∀ q ∈ lw_privs_1, lw_okq q := List.forall_mem_cons.mpr ⟨lw_p0, List.forall_mem_cons.mpr ⟨lw_p1, List.forall_mem_cons.mpr ⟨lw_p2, List.forall_mem_cons.mpr ⟨lw_p3, List.forall_mem_cons.mpr ⟨lw_p4, List.forall_mem_cons.mpr ⟨lw_p5, List.forall_mem_cons.mpr ⟨lw_p6, List.forall_mem_cons.mpr ⟨lw_p7, List.forall_mem_cons.mpr ⟨lw_p8, List.forall_mem_cons.mpr ⟨lw_p9, List.forall_mem_cons.mpr ⟨lw_p10, List.forall_mem_cons.mpr ⟨lw_p11, List.forall_mem_cons.mpr ⟨lw_p12, List.forall_mem_cons.mpr ⟨lw_p13, List.forall_mem_cons.mpr ⟨lw_p14, List.forall_mem_cons.mpr ⟨lw_p15, fun _ h => absurd h List.not_mem_nil⟩⟩⟩⟩⟩⟩⟩⟩⟩⟩⟩⟩⟩⟩⟩⟩
theorem lw_p16 : lw_okq (⟨"DeepShip$Search", "moveLater", "(II)V"⟩, 6) := ⟨⟨by decide +kernel, by decide +kernel⟩, List.mem_of_getElem? (i := 115) (by decide +kernel), List.mem_of_getElem? (i := 563) (by decide +kernel), List.mem_of_getElem? (i := 564) (by decide +kernel)⟩
theorem lw_p17 : lw_okq (⟨"DeepShip$Search", "goBack", "()V"⟩, 6) := ⟨⟨by decide +kernel, by decide +kernel⟩, List.mem_of_getElem? (i := 115) (by decide +kernel), List.mem_of_getElem? (i := 583) (by decide +kernel), List.mem_of_getElem? (i := 584) (by decide +kernel)⟩
theorem lw_p18 : lw_okq (⟨"DeepShip$Search", "earlier", "(IIJJ)J"⟩, 6) := ⟨⟨by decide +kernel, by decide +kernel⟩, List.mem_of_getElem? (i := 115) (by decide +kernel), List.mem_of_getElem? (i := 587) (by decide +kernel), List.mem_of_getElem? (i := 588) (by decide +kernel)⟩
theorem lw_p19 : lw_okq (⟨"DeepShip$Search", "slowest", "(II)I"⟩, 6) := ⟨⟨by decide +kernel, by decide +kernel⟩, List.mem_of_getElem? (i := 115) (by decide +kernel), List.mem_of_getElem? (i := 591) (by decide +kernel), List.mem_of_getElem? (i := 592) (by decide +kernel)⟩
theorem lw_p20 : lw_okq (⟨"DeepShip", "isHeld", "(III)Z"⟩, 10) := ⟨⟨by decide +kernel, by decide +kernel⟩, List.mem_of_getElem? (i := 15) (by decide +kernel), List.mem_of_getElem? (i := 632) (by decide +kernel), List.mem_of_getElem? (i := 633) (by decide +kernel)⟩
theorem lw_p21 : lw_okq (⟨"DeepShip", "areTwo", "(II)Z"⟩, 10) := ⟨⟨by decide +kernel, by decide +kernel⟩, List.mem_of_getElem? (i := 15) (by decide +kernel), List.mem_of_getElem? (i := 655) (by decide +kernel), List.mem_of_getElem? (i := 656) (by decide +kernel)⟩
theorem lw_p22 : lw_okq (⟨"DeepShip$Day", "tryNext", "(IIII)V"⟩, 6) := ⟨⟨by decide +kernel, by decide +kernel⟩, List.mem_of_getElem? (i := 145) (by decide +kernel), List.mem_of_getElem? (i := 673) (by decide +kernel), List.mem_of_getElem? (i := 674) (by decide +kernel)⟩
theorem lw_p23 : lw_okq (⟨"DeepShip$Day", "keepBetter", "(II)V"⟩, 6) := ⟨⟨by decide +kernel, by decide +kernel⟩, List.mem_of_getElem? (i := 145) (by decide +kernel), List.mem_of_getElem? (i := 677) (by decide +kernel), List.mem_of_getElem? (i := 678) (by decide +kernel)⟩
theorem lw_p24 : lw_okq (⟨"DeepShip$Sheets", "isNothing", "(I)Z"⟩, 3) := ⟨⟨by decide +kernel, by decide +kernel⟩, List.mem_of_getElem? (i := 195) (by decide +kernel), List.mem_of_getElem? (i := 732) (by decide +kernel), List.mem_of_getElem? (i := 733) (by decide +kernel)⟩
theorem lw_p25 : lw_okq (⟨"DeepShip$Sheets", "hasItems", "(III)Z"⟩, 3) := ⟨⟨by decide +kernel, by decide +kernel⟩, List.mem_of_getElem? (i := 195) (by decide +kernel), List.mem_of_getElem? (i := 736) (by decide +kernel), List.mem_of_getElem? (i := 737) (by decide +kernel)⟩
theorem lw_p26 : lw_okq (⟨"DeepShip", "latesBy", "(IIII)I"⟩, 10) := ⟨⟨by decide +kernel, by decide +kernel⟩, List.mem_of_getElem? (i := 15) (by decide +kernel), List.mem_of_getElem? (i := 744) (by decide +kernel), List.mem_of_getElem? (i := 745) (by decide +kernel)⟩
theorem lw_p27 : lw_okq (⟨"DeepShip", "isLate", "(IIII)Z"⟩, 10) := ⟨⟨by decide +kernel, by decide +kernel⟩, List.mem_of_getElem? (i := 15) (by decide +kernel), List.mem_of_getElem? (i := 748) (by decide +kernel), List.mem_of_getElem? (i := 749) (by decide +kernel)⟩
theorem lw_p28 : lw_okq (⟨"DeepShipModel", "mileIs", "(IIIIII)V"⟩, 29) := ⟨⟨by decide +kernel, by decide +kernel⟩, List.mem_of_getElem? (i := 786) (by decide +kernel), List.mem_of_getElem? (i := 897) (by decide +kernel), List.mem_of_getElem? (i := 898) (by decide +kernel)⟩
theorem lw_p29 : lw_okq (⟨"DeepShipModel", "isMile", "(I)Z"⟩, 29) := ⟨⟨by decide +kernel, by decide +kernel⟩, List.mem_of_getElem? (i := 786) (by decide +kernel), List.mem_of_getElem? (i := 905) (by decide +kernel), List.mem_of_getElem? (i := 906) (by decide +kernel)⟩
theorem lw_p30 : lw_okq (⟨"DeepShipModel", "mileClause", "(I)V"⟩, 29) := ⟨⟨by decide +kernel, by decide +kernel⟩, List.mem_of_getElem? (i := 786) (by decide +kernel), List.mem_of_getElem? (i := 952) (by decide +kernel), List.mem_of_getElem? (i := 953) (by decide +kernel)⟩
theorem lw_p31 : lw_okq (⟨"DeepShipModel", "number", "(II)I"⟩, 29) := ⟨⟨by decide +kernel, by decide +kernel⟩, List.mem_of_getElem? (i := 786) (by decide +kernel), List.mem_of_getElem? (i := 956) (by decide +kernel), List.mem_of_getElem? (i := 957) (by decide +kernel)⟩
def lw_privs_2 : List (MethodName × Nat) := [(⟨"DeepShip$Search", "moveLater", "(II)V"⟩, 6), (⟨"DeepShip$Search", "goBack", "()V"⟩, 6), (⟨"DeepShip$Search", "earlier", "(IIJJ)J"⟩, 6), (⟨"DeepShip$Search", "slowest", "(II)I"⟩, 6), (⟨"DeepShip", "isHeld", "(III)Z"⟩, 10), (⟨"DeepShip", "areTwo", "(II)Z"⟩, 10), (⟨"DeepShip$Day", "tryNext", "(IIII)V"⟩, 6), (⟨"DeepShip$Day", "keepBetter", "(II)V"⟩, 6), (⟨"DeepShip$Sheets", "isNothing", "(I)Z"⟩, 3), (⟨"DeepShip$Sheets", "hasItems", "(III)Z"⟩, 3), (⟨"DeepShip", "latesBy", "(IIII)I"⟩, 10), (⟨"DeepShip", "isLate", "(IIII)Z"⟩, 10), (⟨"DeepShipModel", "mileIs", "(IIIIII)V"⟩, 29), (⟨"DeepShipModel", "isMile", "(I)Z"⟩, 29), (⟨"DeepShipModel", "mileClause", "(I)V"⟩, 29), (⟨"DeepShipModel", "number", "(II)I"⟩, 29)]
theorem lw_r2 : ∀ q ∈ lw_privs_2, lw_okq q := List.forall_mem_cons.mpr ⟨lw_p16, List.forall_mem_cons.mpr ⟨lw_p17, List.forall_mem_cons.mpr ⟨lw_p18, List.forall_mem_cons.mpr ⟨lw_p19, List.forall_mem_cons.mpr ⟨lw_p20, List.forall_mem_cons.mpr ⟨lw_p21, List.forall_mem_cons.mpr ⟨lw_p22, List.forall_mem_cons.mpr ⟨lw_p23, List.forall_mem_cons.mpr ⟨lw_p24, List.forall_mem_cons.mpr ⟨lw_p25, List.forall_mem_cons.mpr ⟨lw_p26, List.forall_mem_cons.mpr ⟨lw_p27, List.forall_mem_cons.mpr ⟨lw_p28, List.forall_mem_cons.mpr ⟨lw_p29, List.forall_mem_cons.mpr ⟨lw_p30, List.forall_mem_cons.mpr ⟨lw_p31, fun _ h => absurd h List.not_mem_nil⟩⟩⟩⟩⟩⟩⟩⟩⟩⟩⟩⟩⟩⟩⟩⟩
theorem lw_p32 : lw_okq (⟨"DeepShipModel", "here", "()I"⟩, 29) := ⟨⟨by decide +kernel, by decide +kernel⟩, List.mem_of_getElem? (i := 786) (by decide +kernel), List.mem_of_getElem? (i := 960) (by decide +kernel), List.mem_of_getElem? (i := 961) (by decide +kernel)⟩
theorem lw_p33 : lw_okq (⟨"DeepShipModel", "has", "(I)Z"⟩, 29) := ⟨⟨by decide +kernel, by decide +kernel⟩, List.mem_of_getElem? (i := 786) (by decide +kernel), List.mem_of_getElem? (i := 966) (by decide +kernel), List.mem_of_getElem? (i := 967) (by decide +kernel)⟩
theorem lw_p34 : lw_okq (⟨"DeepShipModel", "digit", "()I"⟩, 29) := ⟨⟨by decide +kernel, by decide +kernel⟩, List.mem_of_getElem? (i := 786) (by decide +kernel), List.mem_of_getElem? (i := 970) (by decide +kernel), List.mem_of_getElem? (i := 971) (by decide +kernel)⟩
theorem lw_p35 : lw_okq (⟨"DeepShipModel", "tideAt", "(I)I"⟩, 29) := ⟨⟨by decide +kernel, by decide +kernel⟩, List.mem_of_getElem? (i := 786) (by decide +kernel), List.mem_of_getElem? (i := 990) (by decide +kernel), List.mem_of_getElem? (i := 991) (by decide +kernel)⟩
theorem lw_p36 : lw_okq (⟨"DeepShipModel", "waterAt", "(II)I"⟩, 29) := ⟨⟨by decide +kernel, by decide +kernel⟩, List.mem_of_getElem? (i := 786) (by decide +kernel), List.mem_of_getElem? (i := 998) (by decide +kernel), List.mem_of_getElem? (i := 999) (by decide +kernel)⟩
theorem lw_p37 : lw_okq (⟨"DeepShipModel", "isShip", "(I)Z"⟩, 29) := ⟨⟨by decide +kernel, by decide +kernel⟩, List.mem_of_getElem? (i := 786) (by decide +kernel), List.mem_of_getElem? (i := 1007) (by decide +kernel), List.mem_of_getElem? (i := 1008) (by decide +kernel)⟩
theorem lw_p38 : lw_okq (⟨"DeepShipModel", "sinksBy", "(IIII)I"⟩, 29) := ⟨⟨by decide +kernel, by decide +kernel⟩, List.mem_of_getElem? (i := 786) (by decide +kernel), List.mem_of_getElem? (i := 1011) (by decide +kernel), List.mem_of_getElem? (i := 1012) (by decide +kernel)⟩
theorem lw_p39 : lw_okq (⟨"DeepShipModel", "underBy", "(IIII)I"⟩, 29) := ⟨⟨by decide +kernel, by decide +kernel⟩, List.mem_of_getElem? (i := 786) (by decide +kernel), List.mem_of_getElem? (i := 1019) (by decide +kernel), List.mem_of_getElem? (i := 1020) (by decide +kernel)⟩
theorem lw_p40 : lw_okq (⟨"DeepShipModel", "needOf", "(I)I"⟩, 29) := ⟨⟨by decide +kernel, by decide +kernel⟩, List.mem_of_getElem? (i := 786) (by decide +kernel), List.mem_of_getElem? (i := 1027) (by decide +kernel), List.mem_of_getElem? (i := 1028) (by decide +kernel)⟩
theorem lw_p41 : lw_okq (⟨"DeepShipModel", "goes", "(II)V"⟩, 29) := ⟨⟨by decide +kernel, by decide +kernel⟩, List.mem_of_getElem? (i := 786) (by decide +kernel), List.mem_of_getElem? (i := 1040) (by decide +kernel), List.mem_of_getElem? (i := 1041) (by decide +kernel)⟩
theorem lw_p42 : lw_okq (⟨"DeepShipModel", "quickest", "(II)I"⟩, 29) := ⟨⟨by decide +kernel, by decide +kernel⟩, List.mem_of_getElem? (i := 786) (by decide +kernel), List.mem_of_getElem? (i := 1050) (by decide +kernel), List.mem_of_getElem? (i := 1051) (by decide +kernel)⟩
theorem lw_p43 : lw_okq (⟨"DeepShipModel", "startsOf", "(I)V"⟩, 29) := ⟨⟨by decide +kernel, by decide +kernel⟩, List.mem_of_getElem? (i := 786) (by decide +kernel), List.mem_of_getElem? (i := 1059) (by decide +kernel), List.mem_of_getElem? (i := 1060) (by decide +kernel)⟩
theorem lw_p44 : lw_okq (⟨"DeepShipModel", "holds", "(III)Z"⟩, 29) := ⟨⟨by decide +kernel, by decide +kernel⟩, List.mem_of_getElem? (i := 786) (by decide +kernel), List.mem_of_getElem? (i := 1071) (by decide +kernel), List.mem_of_getElem? (i := 1072) (by decide +kernel)⟩
theorem lw_p45 : lw_okq (⟨"DeepShipModel", "sumOf", "(II)I"⟩, 29) := ⟨⟨by decide +kernel, by decide +kernel⟩, List.mem_of_getElem? (i := 786) (by decide +kernel), List.mem_of_getElem? (i := 1098) (by decide +kernel), List.mem_of_getElem? (i := 1099) (by decide +kernel)⟩
theorem lw_p46 : lw_okq (⟨"DeepShipModel", "turns", "(I)Z"⟩, 29) := ⟨⟨by decide +kernel, by decide +kernel⟩, List.mem_of_getElem? (i := 786) (by decide +kernel), List.mem_of_getElem? (i := 1102) (by decide +kernel), List.mem_of_getElem? (i := 1103) (by decide +kernel)⟩
theorem lw_p47 : lw_okq (⟨"DeepShipModel", "lay", "([II)I"⟩, 29) := ⟨⟨by decide +kernel, by decide +kernel⟩, List.mem_of_getElem? (i := 786) (by decide +kernel), List.mem_of_getElem? (i := 1127) (by decide +kernel), List.mem_of_getElem? (i := 1128) (by decide +kernel)⟩
def lw_privs_3 : List (MethodName × Nat) := [(⟨"DeepShipModel", "here", "()I"⟩, 29), (⟨"DeepShipModel", "has", "(I)Z"⟩, 29), (⟨"DeepShipModel", "digit", "()I"⟩, 29), (⟨"DeepShipModel", "tideAt", "(I)I"⟩, 29), (⟨"DeepShipModel", "waterAt", "(II)I"⟩, 29), (⟨"DeepShipModel", "isShip", "(I)Z"⟩, 29), (⟨"DeepShipModel", "sinksBy", "(IIII)I"⟩, 29), (⟨"DeepShipModel", "underBy", "(IIII)I"⟩, 29), (⟨"DeepShipModel", "needOf", "(I)I"⟩, 29), (⟨"DeepShipModel", "goes", "(II)V"⟩, 29), (⟨"DeepShipModel", "quickest", "(II)I"⟩, 29), (⟨"DeepShipModel", "startsOf", "(I)V"⟩, 29), (⟨"DeepShipModel", "holds", "(III)Z"⟩, 29), (⟨"DeepShipModel", "sumOf", "(II)I"⟩, 29), (⟨"DeepShipModel", "turns", "(I)Z"⟩, 29), (⟨"DeepShipModel", "lay", "([II)I"⟩, 29)]
theorem lw_r3 : ∀ q ∈ lw_privs_3, lw_okq q := List.forall_mem_cons.mpr ⟨lw_p32, List.forall_mem_cons.mpr ⟨lw_p33, List.forall_mem_cons.mpr ⟨lw_p34, List.forall_mem_cons.mpr ⟨lw_p35, List.forall_mem_cons.mpr ⟨lw_p36, List.forall_mem_cons.mpr ⟨lw_p37, List.forall_mem_cons.mpr ⟨lw_p38, List.forall_mem_cons.mpr ⟨lw_p39, List.forall_mem_cons.mpr ⟨lw_p40, List.forall_mem_cons.mpr ⟨lw_p41, List.forall_mem_cons.mpr ⟨lw_p42, List.forall_mem_cons.mpr ⟨lw_p43, List.forall_mem_cons.mpr ⟨lw_p44, List.forall_mem_cons.mpr ⟨lw_p45, List.forall_mem_cons.mpr ⟨lw_p46, List.forall_mem_cons.mpr ⟨lw_p47, fun _ h => absurd h List.not_mem_nil⟩⟩⟩⟩⟩⟩⟩⟩⟩⟩⟩⟩⟩⟩⟩⟩
theorem lw_p48 : lw_okq (⟨"DeepShipModel", "gives", "(I[I)I"⟩, 29) := ⟨⟨by decide +kernel, by decide +kernel⟩, List.mem_of_getElem? (i := 786) (by decide +kernel), List.mem_of_getElem? (i := 1135) (by decide +kernel), List.mem_of_getElem? (i := 1136) (by decide +kernel)⟩
theorem lw_p49 : lw_okq (⟨"DeepShipModel", "finds", "(IIII)I"⟩, 29) := ⟨⟨by decide +kernel, by decide +kernel⟩, List.mem_of_getElem? (i := 786) (by decide +kernel), List.mem_of_getElem? (i := 1149) (by decide +kernel), List.mem_of_getElem? (i := 1150) (by decide +kernel)⟩
def lw_privs_4 : List (MethodName × Nat) := [(⟨"DeepShipModel", "gives", "(I[I)I"⟩, 29), (⟨"DeepShipModel", "finds", "(IIII)I"⟩, 29)]
theorem lw_r4 : ∀ q ∈ lw_privs_4, lw_okq q := List.forall_mem_cons.mpr ⟨lw_p48, List.forall_mem_cons.mpr ⟨lw_p49, fun _ h => absurd h List.not_mem_nil⟩⟩
def lw_privs : List (MethodName × Nat) := lw_privs_1 ++ (lw_privs_2 ++ (lw_privs_3 ++ (lw_privs_4)))
def lw_tbl : List Cond := k2_sels lw_privs ++ tables_1
theorem lw_privs_ok : ∀ q ∈ lw_privs, lw_okq q := by
  show ∀ q ∈ lw_privs_1 ++ (lw_privs_2 ++ (lw_privs_3 ++ (lw_privs_4))), lw_okq q
  exact List.forall_mem_append.mpr ⟨lw_r1, List.forall_mem_append.mpr ⟨lw_r2, List.forall_mem_append.mpr ⟨lw_r3, lw_r4⟩⟩⟩

def va_AOA (ty : FieldType) (U : State) : Prop := (Cond.arrayOver (.array ty)).before #[] U = true
theorem va_AOA.use {ty : FieldType} {A : Array Value} {U : State} (h : va_AOA ty U) : (Cond.arrayOver (.array ty)).before A U = true := h
/-! ===== BEGIN words of one list among another's, by their places ===== -/
/-! ===== END ===== -/

/-! ===== BEGIN new T[n][m]: the outer array a place, the inner ones among the pooled ===== -/
/-- f, but v at every address of l -/
def vr_up {α : Type} (f : Nat → α) (l : List Nat) (v : α) : Nat → α := fun a => if a ∈ l then v else f a
theorem vr_up_in {α : Type} {f : Nat → α} {l : List Nat} {v : α} {a : Nat} (h : a ∈ l) : vr_up f l v a = v := if_pos h
theorem vr_up_ne {α : Type} {f : Nat → α} {l : List Nat} {v : α} {a : Nat} (h : a ∉ l) : vr_up f l v a = f a := if_neg h
theorem vr_rows {L l : List Nat} {f : Nat → va_E} {e : va_E} (h : ∀ a, a ∈ l → a ∉ L) : va_pl L f ++ l.map (fun a => (a, e)) = va_pl (L ++ l) (vr_up f l e) := by
  unfold va_pl
  rw [List.map_append]
  congr 1
  · apply List.map_congr_left
    intro a ha
    rw [vr_up_ne (fun q => h a q ha)]
  · apply List.map_congr_left
    intro a ha
    rw [vr_up_in ha]
theorem vr_lay {X rows : va_W} {x : Nat × va_E} {pl : va_W} {D : va_G} {cl : List vw_C} {H : Heap} (hP : va_P D cl (((X ++ pl) ++ [x]) ++ rows) H) : va_P D cl ((X ++ [x]) ++ (pl ++ rows)) H := by
  rw [List.append_assoc (X ++ pl)] at hP
  have h := va_P.swap hP
  rw [← List.append_assoc X] at h
  have h2 := va_P.swap h
  rw [List.append_assoc (X ++ [x])] at h2
  exact h2
theorem vr_layD {X rows : va_W} {x : Nat × va_E} {pl : va_W} {A : Nat → Prop} (hD : va_D A (((X ++ pl) ++ [x]) ++ rows)) : va_D A ((X ++ [x]) ++ (pl ++ rows)) := by
  rw [List.append_assoc (X ++ pl)] at hD
  have h := va_D.swap hD
  rw [← List.append_assoc X] at h
  have h2 := va_D.swap h
  rw [List.append_assoc (X ++ [x])] at h2
  exact h2
theorem vr_outer (c : ClassId) (N h0 : Nat) : ∀ i : Nat, Jvm.Free.Multi.outerC c N h0 i = arrV c N (fun j => va_rf (if j < i then some (h0 + 1 + j) else none))
  | 0 => by
    show ({ cls := c, slots := Array.replicate N .null, vm := .none } : Cell) = _
    rw [arrV_new]
    refine congrArg (arrV c N) (funext fun j => ?_)
    simp [va_rf]
  | i + 1 => by
    show (Jvm.Free.Multi.outerC c N h0 i).setSlot i (.ref (h0 + 1 + i)) = _
    rw [vr_outer c N h0 i, arrV_store]
    refine congrArg (arrV c N) (funext fun j => ?_)
    by_cases e : j = i
    · subst e
      simp [updV, va_rf]
    · by_cases h : j < i
      · simp [updV, e, h, Nat.lt_succ_of_lt h]
      · simp [updV, e, h, show ¬ j < i + 1 by omega]
section VGM
variable {p : Program} {l : Launch} {e : Env} {R : Room} {s : State} {m : MethodId} {args : Array Value} {below : List Frame} {meth : Method} {c : Code} {H : Heap} {locs : List Loc} {cells slots : Nat} {Q : State → Prop}
variable {cc : ByteArray} {pc : Nat} {ls : Array Slot} {rest : List Value} {D : va_G} {cl : List vw_C} {A : Nat → Prop} {a : Nat} {tys : List (ClassId × FieldType)} {ws : va_W} {H0 : Heap}
theorem va_mna {X : va_W} {L : List Nat} {f : Nat → va_E} {cc : ByteArray} (hexec : p.tables.exec = Jvm.exec) (hb : c.code = cc) {own : String} {index : Nat} {ty : FieldType} {cy : ClassId} (hown : s.vm.findClass own = some m.cls) (hclink : (Cond.classLink own index ("[" ++ (FieldType.array ty).toString)).before args s = true) (hover : va_AOA ty s) (harr : (Cond.arrayClass ty).before args s = true) (hcy : s.vm.findClass (FieldType.array ty).toString = some cy)
    (hK : va_K D cl tys s) (hP : va_P D cl (X ++ va_pl L f) H) (hD : va_D A (X ++ va_pl L f)) (hS : va_S A H0 H locs) (hA : ∀ q, H0.size ≤ q → A q) {n k : Int32} {N' K' : Nat} {z : vp_A} (hn : ¬ n < 0) (hk : ¬ k < 0) (hN : n.toNatClampNeg = N') (hM : k.toNatClampNeg = K')
    (hb1 : N' * 4 ≤ 536870912) (hb2 : K' * componentBytes ty ≤ 536870912) (hb3 : K' ≤ 536870912) (hdf : fits ty (defaultValue ty) = true) (hdd : (defaultValue ty).isDefault = true) (hcells : cells + (1 + N') ≤ R.cells) (hslots : slots + (N' + N' * K') ≤ R.slots) (hz : ∀ c : ClassId, Jvm.Free.Multi.innerC c K' (defaultValue ty) = vp_cell c z) (hdg : decode cc pc = .ok (.multianewarray index 2, 4))
    (kk : ∀ (q : Nat) (r : Nat → Nat) (cA : ClassId) (H1 : Heap), (∀ i j : Nat, i < N' → j < N' → r i = r j → i = j) → (∀ i : Nat, i < N' → r i ∉ L) → va_K D cl (tys ++ [(cA, .array ty)]) s →
      va_P D cl ((X ++ [(q, .inl (cA, N', .inr (.inr (.inr (.inr (fun i => if i < N' then some (r i) else none))))))]) ++ va_pl (L ++ (List.range N').map r) (vr_up f ((List.range N').map r) (.inl (cy, z)))) H1 → va_D A ((X ++ [(q, .inl (cA, N', .inr (.inr (.inr (.inr (fun i => if i < N' then some (r i) else none))))))]) ++ va_pl (L ++ (List.range N').map r) (vr_up f ((List.range N').map r) (.inl (cy, z)))) → va_S A H0 H1 locs →
      W p l e R s m args below meth c H1 locs (cells + 1 + N') (slots + N' + N' * K') Q (F0 m (pc + 4) ls (.ref q :: rest))) : W p l e R s m args below meth c H locs cells slots Q (F0 m pc ls (.int k :: .int n :: rest)) := by
  subst hN
  subst hM
  intro T hT Xs
  obtain ⟨vm₁, cA, comp, -, fA, fC, hO, -, X', step⟩ := Xs.multianewarray2F hexec hown hclink (va_AOA.use hover) harr (g := F0 m pc ls (.int k :: .int n :: rest)) rfl (by rw [hb]; exact hdg) rfl hn hk hb1 hb2 hb3 hdf hdd hcells hslots
  have ec : some cy = some comp := hcy.symm.trans fC
  cases ec
  generalize hF : Jvm.Free.Multi.fill (T.setVm vm₁) cA cy n.toNatClampNeg k.toNatClampNeg (defaultValue ty) n.toNatClampNeg = F at X' step
  have hTh : (T.setVm vm₁).heap = H := hT
  obtain ⟨f1, f2, -, -⟩ := Jvm.Free.Multi.fill_facts (T.setVm vm₁) cA cy n.toNatClampNeg k.toNatClampNeg (defaultValue ty) n.toNatClampNeg
  rw [hF, hTh] at f1 f2
  have hold : ∀ x : Nat, x < H.size → F.heap[x]? = H[x]? := fun x hx => by
    have := Jvm.Free.Multi.fill_old (T.setVm vm₁) cA cy n.toNatClampNeg k.toNatClampNeg (defaultValue ty) (a := x) (by rw [hTh]; exact hx) n.toNatClampNeg
    rw [hF, hTh] at this
    exact this
  have hrow : ∀ j : Nat, j < n.toNatClampNeg → F.heap[H.size + 1 + j]? = some (vp_cell cy z) := fun j hj => by
    have := Jvm.Free.Multi.fill_inner (T.setVm vm₁) cA cy n.toNatClampNeg k.toNatClampNeg (defaultValue ty) n.toNatClampNeg j hj
    rw [hF, hTh, hz] at this
    exact this
  have hout : Jvm.Free.Multi.outerC cA n.toNatClampNeg H.size n.toNatClampNeg = vp_cell cA (n.toNatClampNeg, .inr (.inr (.inr (.inr (fun i => if i < n.toNatClampNeg then some (H.size + 1 + i) else none))))) := by
    rw [vp_cell_q]
    exact vr_outer cA n.toNatClampNeg H.size n.toNatClampNeg
  rw [hout] at f2
  have hlt : ∀ a, a ∈ L → a < H.size := fun a ha => by
    obtain ⟨k9, hk9⟩ := va_pl_get (X := X) (f := f) ha
    exact (hP k9 _ hk9).lt
  have hnl : ∀ i : Nat, i < n.toNatClampNeg → H.size + 1 + i ∉ L := fun i _ h => by
    have := hlt _ h
    omega
  have hnm : ∀ a, a ∈ (List.range n.toNatClampNeg).map (fun i => H.size + 1 + i) → a ∉ L := fun a ha h => by
    obtain ⟨i, -, rfl⟩ := List.mem_map.mp ha
    have := hlt _ h
    omega
  have hP0 : va_P D cl (X ++ va_pl L f) F.heap := hP.kept (fun k9 x hx => hold x.1 ((hP k9 x hx).lt))
  have hP1 : va_P D cl ((X ++ va_pl L f) ++ [(H.size, .inl (cA, n.toNatClampNeg, .inr (.inr (.inr (.inr (fun i => if i < n.toNatClampNeg then some (H.size + 1 + i) else none))))))]) F.heap := hP0.app (fun k9 x hx => by
    have h0 : k9 < 1 := (List.getElem?_eq_some_iff.mp hx).1
    rw [show k9 = 0 by omega] at hx
    cases hx
    exact f2)
  have hP2 : va_P D cl (((X ++ va_pl L f) ++ [(H.size, .inl (cA, n.toNatClampNeg, .inr (.inr (.inr (.inr (fun i => if i < n.toNatClampNeg then some (H.size + 1 + i) else none))))))]) ++ ((List.range n.toNatClampNeg).map (fun i => H.size + 1 + i)).map (fun a => (a, .inl (cy, z)))) F.heap := hP1.app (fun k9 x hx => by
    obtain ⟨a, ha, rfl⟩ := List.mem_map.mp (List.mem_of_getElem? hx)
    obtain ⟨i, hi, rfl⟩ := List.mem_map.mp ha
    exact hrow i (List.mem_range.mp hi))
  have hD2 : va_D A (((X ++ va_pl L f) ++ [(H.size, .inl (cA, n.toNatClampNeg, .inr (.inr (.inr (.inr (fun i => if i < n.toNatClampNeg then some (H.size + 1 + i) else none))))))]) ++ ((List.range n.toNatClampNeg).map (fun i => H.size + 1 + i)).map (fun a => (a, .inl (cy, z)))) := by
    have hD1 := hD.push (e := .inl (cA, n.toNatClampNeg, .inr (.inr (.inr (.inr (fun i => if i < n.toNatClampNeg then some (H.size + 1 + i) else none)))))) hP rfl (hA _ hS.1)
    generalize hW1 : (X ++ va_pl L f) ++ [(H.size, .inl (cA, n.toNatClampNeg, .inr (.inr (.inr (.inr (fun i => if i < n.toNatClampNeg then some (H.size + 1 + i) else none))))))] = W1 at hD1 hP1 ⊢
    have hle : ∀ (k9 : Nat) (x : Nat × va_E), W1[k9]? = some x → x.1 ≤ H.size := fun k9 x hx => by
      rw [← hW1] at hx
      by_cases hl : k9 < (X ++ va_pl L f).length
      · rw [List.getElem?_append_left hl] at hx
        exact Nat.le_of_lt ((hP k9 x hx).lt)
      · rw [List.getElem?_append_right (by omega)] at hx
        have h0 : k9 - (X ++ va_pl L f).length < 1 := (List.getElem?_eq_some_iff.mp hx).1
        rw [show k9 - (X ++ va_pl L f).length = 0 by omega] at hx
        cases hx
        exact Nat.le_refl _
    have hr : ∀ (k9 : Nat) (x : Nat × va_E), (((List.range n.toNatClampNeg).map (fun i => H.size + 1 + i)).map (fun a => ((a, .inl (cy, z)) : Nat × va_E)))[k9]? = some x → x.1 = H.size + 1 + k9 := fun k9 x hx => by
      rw [List.getElem?_map, List.getElem?_map] at hx
      by_cases h9 : k9 < n.toNatClampNeg
      · rw [List.getElem?_range h9] at hx
        cases hx
        rfl
      · have hn0 : (List.range n.toNatClampNeg)[k9]? = none := List.getElem?_eq_none (by rw [List.length_range]; omega)
        rw [hn0] at hx
        cases hx
    refine ⟨fun i j x y hi hj hxy => ?_, fun k9 x hx => ?_⟩
    · by_cases h1 : i < W1.length <;> by_cases h2 : j < W1.length
      · rw [List.getElem?_append_left h1] at hi
        rw [List.getElem?_append_left h2] at hj
        exact hD1.1 i j x y hi hj hxy
      · rw [List.getElem?_append_left h1] at hi
        rw [List.getElem?_append_right (by omega)] at hj
        have := hle _ _ hi
        have := hr _ _ hj
        omega
      · rw [List.getElem?_append_right (by omega)] at hi
        rw [List.getElem?_append_left h2] at hj
        have := hle _ _ hj
        have := hr _ _ hi
        omega
      · rw [List.getElem?_append_right (by omega)] at hi hj
        have := hr _ _ hi
        have := hr _ _ hj
        omega
    · by_cases h1 : k9 < W1.length
      · rw [List.getElem?_append_left h1] at hx
        exact hD1.2 k9 x hx
      · rw [List.getElem?_append_right (by omega)] at hx
        have := hr _ _ hx
        exact hA _ (by have := hS.1; omega)
  have hAr : ArrOfT s cA (.array ty) := fun N9 z9 => by
    obtain ⟨-, k9, hk9, cm9, hkk9⟩ := (hO 0 0 0).1
    exact ⟨(fun q hq => by cases hq), k9, hk9, cm9, hkk9⟩
  have hK2 : va_K D cl (tys ++ [(cA, .array ty)]) s := ⟨hK.1, fun k9 x hx => by
    by_cases hl : k9 < tys.length
    · rw [List.getElem?_append_left hl] at hx
      exact hK.2 k9 x hx
    · rw [List.getElem?_append_right (by omega)] at hx
      have h0 : k9 - tys.length < 1 := (List.getElem?_eq_some_iff.mp hx).1
      rw [show k9 - tys.length = 0 by omega] at hx
      cases hx
      exact ⟨hAr, fA⟩⟩
  obtain ⟨t, a1, b1⟩ := kk H.size (fun i => H.size + 1 + i) cA F.heap (fun i j _ _ h => by have h9 : H.size + 1 + i = H.size + 1 + j := h; omega) hnl hK2 (by rw [← vr_rows hnm]; exact vr_lay hP2) (by rw [← vr_rows hnm]; exact vr_layD hD2) ⟨by rw [f1]; have := hS.1; omega, fun x h1 h2 => (hold x (Nat.lt_of_lt_of_le h1 hS.1)).trans (hS.2.1 x h1 h2), hS.2.2⟩ F rfl X'
  refine ⟨t, step t ?_, b1⟩
  have e : T.heap.size = H.size := by rw [hT]
  rw [e]
  exact a1
end VGM
/-! ===== END ===== -/

/-! ===== BEGIN printed: names, fields, word lists, decode rows ===== -/
def RX0 : String := "DeepShip$Day"
def TX0 : u_T := fun k => match k with
  | 0 => ("DeepShip$Day", "starts", "[[J", true)
  | 1 => ("DeepShip$Day", "trying", "[I", true)
  | 2 => ("DeepShip$Day", "best", "[I", true)
  | 3 => ("DeepShip$Day", "many", "I", false)
  | 4 => ("DeepShip$Day", "leastSum", "I", false)
  | _ => ("DeepShip$Day", "gap", "I", false)
def tyX0 : Nat → FieldType := fun k => match k with
  | 0 => .array (.array .long)
  | 1 => .array .int
  | 2 => .array .int
  | 3 => .int
  | 4 => .int
  | _ => .int
abbrev wsX00 : List Cond := u_ws RX0 TX0 6
theorem nmX0 : ∀ a, a < 6 → ∀ b, b < 6 → a ≠ b → (TX0 a).2.1 ≠ (TX0 b).2.1 := by decide +kernel
theorem tyX0_ok : ∀ k, k < 6 → parseFieldDescriptor (TX0 k).2.2.1 = some (tyX0 k) := by decide +kernel
abbrev cX0_init : ByteArray := prog_2_method_1_code
def yX0_init : MethodName := ⟨RX0, "<init>", "()V"⟩
abbrev cX0_startsOf : ByteArray := prog_2_method_2_code
def yX0_startsOf : MethodName := ⟨RX0, "startsOf", "(I)[J"⟩
abbrev cX0_arrange : ByteArray := prog_2_method_3_code
def yX0_arrange : MethodName := ⟨RX0, "arrange", "(II)I"⟩
abbrev cX0_goes : ByteArray := prog_2_method_4_code
def yX0_goes : MethodName := ⟨RX0, "goes", "(I)I"⟩
abbrev cX0_tryNext : ByteArray := prog_2_method_5_code
def yX0_tryNext : MethodName := ⟨RX0, "tryNext", "(IIII)V"⟩
abbrev cX0_keepBetter : ByteArray := prog_2_method_6_code
def yX0_keepBetter : MethodName := ⟨RX0, "keepBetter", "(II)V"⟩
def RX1 : String := "DeepShip$Port"
def TX1 : u_T := fun k => match k with
  | 0 => ("DeepShip$Port", "miles", "I", false)
  | 1 => ("DeepShip$Port", "ships", "I", false)
  | 2 => ("DeepShip$Port", "heights", "[I", true)
  | 3 => ("DeepShip$Port", "settings", "[I", true)
  | 4 => ("DeepShip$Port", "marks", "[I", true)
  | _ => ("DeepShip$Port", "hulls", "[I", true)
def tyX1 : Nat → FieldType := fun k => match k with
  | 0 => .int
  | 1 => .int
  | 2 => .array .int
  | 3 => .array .int
  | 4 => .array .int
  | _ => .array .int
abbrev wsX10 : List Cond := u_ws RX1 TX1 6
theorem nmX1 : ∀ a, a < 6 → ∀ b, b < 6 → a ≠ b → (TX1 a).2.1 ≠ (TX1 b).2.1 := by decide +kernel
theorem tyX1_ok : ∀ k, k < 6 → parseFieldDescriptor (TX1 k).2.2.1 = some (tyX1 k) := by decide +kernel
abbrev cX1_init : ByteArray := prog_3_method_1_code
def yX1_init : MethodName := ⟨RX1, "<init>", "()V"⟩
abbrev cX1_take : ByteArray := prog_3_method_2_code
def yX1_take : MethodName := ⟨RX1, "take", "(LDeepShip$Port;)V"⟩
abbrev cX1_hasMile : ByteArray := prog_3_method_3_code
def yX1_hasMile : MethodName := ⟨RX1, "hasMile", "(I)Z"⟩
abbrev cX1_hasShip : ByteArray := prog_3_method_4_code
def yX1_hasShip : MethodName := ⟨RX1, "hasShip", "(I)Z"⟩
abbrev cX1_markOf : ByteArray := prog_3_method_5_code
def yX1_markOf : MethodName := ⟨RX1, "markOf", "(II)I"⟩
abbrev cX1_mark : ByteArray := prog_3_method_6_code
def yX1_mark : MethodName := ⟨RX1, "mark", "(III)I"⟩
abbrev cX1_hullOf : ByteArray := prog_3_method_7_code
def yX1_hullOf : MethodName := ⟨RX1, "hullOf", "(II)I"⟩
abbrev cX1_addMile : ByteArray := prog_3_method_8_code
def yX1_addMile : MethodName := ⟨RX1, "addMile", "(II)I"⟩
abbrev cX1_takeMiles : ByteArray := prog_3_method_9_code
def yX1_takeMiles : MethodName := ⟨RX1, "takeMiles", "([II)V"⟩
abbrev cX1_addShip : ByteArray := prog_3_method_10_code
def yX1_addShip : MethodName := ⟨RX1, "addShip", "(III)I"⟩
abbrev cX1_widths : ByteArray := prog_3_method_11_code
def yX1_widths : MethodName := ⟨RX1, "widths", "()I"⟩
abbrev cX1_tideAt : ByteArray := prog_3_method_12_code
def yX1_tideAt : MethodName := ⟨RX1, "tideAt", "(I)I"⟩
abbrev cX1_tideBy : ByteArray := prog_3_method_13_code
def yX1_tideBy : MethodName := ⟨RX1, "tideBy", "(II)I"⟩
abbrev cX1_levelAt : ByteArray := prog_3_method_14_code
def yX1_levelAt : MethodName := ⟨RX1, "levelAt", "(III)I"⟩
def RX2 : String := "DeepShip$Search"
def TX2 : u_T := fun k => match k with
  | 0 => ("DeepShip$Search", "port", "LDeepShip$Port;", true)
  | 1 => ("DeepShip$Search", "laid", "[I", true)
  | 2 => ("DeepShip$Search", "laidLate", "I", false)
  | 3 => ("DeepShip$Search", "flood", "[[J", true)
  | 4 => ("DeepShip$Search", "enough", "[I", true)
  | _ => ("DeepShip$Search", "rows", "[[J", true)
def tyX2 : Nat → FieldType := fun k => match k with
  | 0 => .object "DeepShip$Port"
  | 1 => .array .int
  | 2 => .int
  | 3 => .array (.array .long)
  | 4 => .array .int
  | _ => .array (.array .long)
abbrev wsX20 : List Cond := u_ws RX2 TX2 6
theorem nmX2 : ∀ a, a < 6 → ∀ b, b < 6 → a ≠ b → (TX2 a).2.1 ≠ (TX2 b).2.1 := by decide +kernel
theorem tyX2_ok : ∀ k, k < 6 → parseFieldDescriptor (TX2 k).2.2.1 = some (tyX2 k) := by decide +kernel
abbrev cX2_init : ByteArray := prog_4_method_1_code
def yX2_init : MethodName := ⟨RX2, "<init>", "(LDeepShip$Port;)V"⟩
abbrev cX2_begin : ByteArray := prog_4_method_2_code
def yX2_begin : MethodName := ⟨RX2, "begin", "(LDeepShip$Trial;)V"⟩
abbrev cX2_layTide : ByteArray := prog_4_method_3_code
def yX2_layTide : MethodName := ⟨RX2, "layTide", "()V"⟩
abbrev cX2_isLaid : ByteArray := prog_4_method_4_code
def yX2_isLaid : MethodName := ⟨RX2, "isLaid", "()Z"⟩
abbrev cX2_rule : ByteArray := prog_4_method_5_code
def yX2_rule : MethodName := ⟨RX2, "rule", "(LDeepShip$Trial;)V"⟩
abbrev cX2_ruleMile : ByteArray := prog_4_method_6_code
def yX2_ruleMile : MethodName := ⟨RX2, "ruleMile", "(LDeepShip$Trial;I)V"⟩
abbrev cX2_quickest : ByteArray := prog_4_method_7_code
def yX2_quickest : MethodName := ⟨RX2, "quickest", "(I)I"⟩
abbrev cX2_firstPace : ByteArray := prog_4_method_8_code
def yX2_firstPace : MethodName := ⟨RX2, "firstPace", "(III)I"⟩
abbrev cX2_findStarts : ByteArray := prog_4_method_9_code
def yX2_findStarts : MethodName := ⟨RX2, "findStarts", "([J)V"⟩
abbrev cX2_slowest : ByteArray := prog_4_method_10_code
def yX2_slowest : MethodName := ⟨RX2, "slowest", "(II)I"⟩
abbrev cX2_goOn : ByteArray := prog_4_method_11_code
def yX2_goOn : MethodName := ⟨RX2, "goOn", "(I)V"⟩
abbrev cX2_moveLater : ByteArray := prog_4_method_12_code
def yX2_moveLater : MethodName := ⟨RX2, "moveLater", "(II)V"⟩
abbrev cX2_goBack : ByteArray := prog_4_method_13_code
def yX2_goBack : MethodName := ⟨RX2, "goBack", "()V"⟩
abbrev cX2_earlier : ByteArray := prog_4_method_14_code
def yX2_earlier : MethodName := ⟨RX2, "earlier", "(IIJJ)J"⟩
abbrev cX2_wipe : ByteArray := prog_4_method_15_code
def yX2_wipe : MethodName := ⟨RX2, "wipe", "([J)V"⟩
def RX3 : String := "DeepShip$Sheets"
def TX3 : u_T := fun k => match k with
  | 0 => ("DeepShip$Sheets", "items", "[[I", true)
  | 1 => ("DeepShip$Sheets", "lanes", "[I", true)
  | _ => ("DeepShip$Sheets", "sizes", "[I", true)
def tyX3 : Nat → FieldType := fun k => match k with
  | 0 => .array (.array .int)
  | 1 => .array .int
  | _ => .array .int
abbrev wsX30 : List Cond := u_ws RX3 TX3 3
theorem nmX3 : ∀ a, a < 3 → ∀ b, b < 3 → a ≠ b → (TX3 a).2.1 ≠ (TX3 b).2.1 := by decide +kernel
theorem tyX3_ok : ∀ k, k < 3 → parseFieldDescriptor (TX3 k).2.2.1 = some (tyX3 k) := by decide +kernel
abbrev cX3_init : ByteArray := prog_5_method_1_code
def yX3_init : MethodName := ⟨RX3, "<init>", "()V"⟩
abbrev cX3_begin : ByteArray := prog_5_method_2_code
def yX3_begin : MethodName := ⟨RX3, "begin", "(III)I"⟩
abbrev cX3_forget : ByteArray := prog_5_method_3_code
def yX3_forget : MethodName := ⟨RX3, "forget", "(I)I"⟩
abbrev cX3_refusal : ByteArray := prog_5_method_4_code
def yX3_refusal : MethodName := ⟨RX3, "refusal", "(IIII)I"⟩
abbrev cX3_get : ByteArray := prog_5_method_5_code
def yX3_get : MethodName := ⟨RX3, "get", "(II)I"⟩
abbrev cX3_put : ByteArray := prog_5_method_6_code
def yX3_put : MethodName := ⟨RX3, "put", "(III)V"⟩
abbrev cX3_move : ByteArray := prog_5_method_7_code
def yX3_move : MethodName := ⟨RX3, "move", "(IIIII)I"⟩
abbrev cX3_isSheet : ByteArray := prog_5_method_8_code
def yX3_isSheet : MethodName := ⟨RX3, "isSheet", "(I)Z"⟩
abbrev cX3_isLane : ByteArray := prog_5_method_9_code
def yX3_isLane : MethodName := ⟨RX3, "isLane", "(I)Z"⟩
abbrev cX3_isNothing : ByteArray := prog_5_method_10_code
def yX3_isNothing : MethodName := ⟨RX3, "isNothing", "(I)Z"⟩
abbrev cX3_hasItems : ByteArray := prog_5_method_11_code
def yX3_hasItems : MethodName := ⟨RX3, "hasItems", "(III)Z"⟩
def RX4 : String := "DeepShip$Tape"
def TX4 : u_T := fun k => match k with
  | 0 => ("DeepShip$Tape", "found", "[I", true)
  | 1 => ("DeepShip$Tape", "signs", "[B", true)
  | 2 => ("DeepShip$Tape", "size", "I", false)
  | 3 => ("DeepShip$Tape", "at", "I", false)
  | _ => ("DeepShip$Tape", "fault", "I", false)
def tyX4 : Nat → FieldType := fun k => match k with
  | 0 => .array .int
  | 1 => .array .byte
  | 2 => .int
  | 3 => .int
  | _ => .int
abbrev wsX40 : List Cond := u_ws RX4 TX4 5
theorem nmX4 : ∀ a, a < 5 → ∀ b, b < 5 → a ≠ b → (TX4 a).2.1 ≠ (TX4 b).2.1 := by decide +kernel
theorem tyX4_ok : ∀ k, k < 5 → parseFieldDescriptor (TX4 k).2.2.1 = some (tyX4 k) := by decide +kernel
abbrev cX4_init : ByteArray := prog_6_method_1_code
def yX4_init : MethodName := ⟨RX4, "<init>", "()V"⟩
abbrev cX4_append : ByteArray := prog_6_method_2_code
def yX4_append : MethodName := ⟨RX4, "append", "(JI)I"⟩
abbrev cX4_readChannel : ByteArray := prog_6_method_3_code
def yX4_readChannel : MethodName := ⟨RX4, "readChannel", "()I"⟩
abbrev cX4_readTide : ByteArray := prog_6_method_4_code
def yX4_readTide : MethodName := ⟨RX4, "readTide", "()I"⟩
abbrev cX4_readMile : ByteArray := prog_6_method_5_code
def yX4_readMile : MethodName := ⟨RX4, "readMile", "(I)V"⟩
abbrev cX4_rewind : ByteArray := prog_6_method_6_code
def yX4_rewind : MethodName := ⟨RX4, "rewind", "()V"⟩
abbrev cX4_finish : ByteArray := prog_6_method_7_code
def yX4_finish : MethodName := ⟨RX4, "finish", "(I)I"⟩
abbrev cX4_fail : ByteArray := prog_6_method_8_code
def yX4_fail : MethodName := ⟨RX4, "fail", "(I)V"⟩
abbrev cX4_skipBlanks : ByteArray := prog_6_method_9_code
def yX4_skipBlanks : MethodName := ⟨RX4, "skipBlanks", "()V"⟩
abbrev cX4_takes : ByteArray := prog_6_method_10_code
def yX4_takes : MethodName := ⟨RX4, "takes", "(C)Z"⟩
abbrev cX4_expect : ByteArray := prog_6_method_11_code
def yX4_expect : MethodName := ⟨RX4, "expect", "(C)V"⟩
abbrev cX4_isDigit : ByteArray := prog_6_method_12_code
def yX4_isDigit : MethodName := ⟨RX4, "isDigit", "(I)Z"⟩
abbrev cX4_digit : ByteArray := prog_6_method_13_code
def yX4_digit : MethodName := ⟨RX4, "digit", "()I"⟩
abbrev cX4_mark : ByteArray := prog_6_method_14_code
def yX4_mark : MethodName := ⟨RX4, "mark", "(I)I"⟩
abbrev cX4_number : ByteArray := prog_6_method_15_code
def yX4_number : MethodName := ⟨RX4, "number", "(II)I"⟩
def RX5 : String := "DeepShip$Trial"
def TX5 : u_T := fun k => match k with
  | 0 => ("DeepShip$Trial", "port", "LDeepShip$Port;", true)
  | 1 => ("DeepShip$Trial", "draught", "I", false)
  | 2 => ("DeepShip$Trial", "breadth", "I", false)
  | 3 => ("DeepShip$Trial", "rule", "I", false)
  | 4 => ("DeepShip$Trial", "leastUnder", "I", false)
  | 5 => ("DeepShip$Trial", "wind", "I", false)
  | 6 => ("DeepShip$Trial", "needed", "I", false)
  | _ => ("DeepShip$Trial", "dug", "I", false)
def tyX5 : Nat → FieldType := fun k => match k with
  | 0 => .object "DeepShip$Port"
  | 1 => .int
  | 2 => .int
  | 3 => .int
  | 4 => .int
  | 5 => .int
  | 6 => .int
  | _ => .int
abbrev wsX50 : List Cond := u_ws RX5 TX5 8
theorem nmX5 : ∀ a, a < 8 → ∀ b, b < 8 → a ≠ b → (TX5 a).2.1 ≠ (TX5 b).2.1 := by decide +kernel
theorem tyX5_ok : ∀ k, k < 8 → parseFieldDescriptor (TX5 k).2.2.1 = some (tyX5 k) := by decide +kernel
abbrev cX5_init : ByteArray := prog_7_method_1_code
def yX5_init : MethodName := ⟨RX5, "<init>", "(LDeepShip$Port;)V"⟩
abbrev cX5_begin : ByteArray := prog_7_method_2_code
def yX5_begin : MethodName := ⟨RX5, "begin", "(I)V"⟩
abbrev cX5_load : ByteArray := prog_7_method_3_code
def yX5_load : MethodName := ⟨RX5, "load", "(I)V"⟩
abbrev cX5_keepTo : ByteArray := prog_7_method_4_code
def yX5_keepTo : MethodName := ⟨RX5, "keepTo", "(II)V"⟩
abbrev cX5_reckonNeed : ByteArray := prog_7_method_5_code
def yX5_reckonNeed : MethodName := ⟨RX5, "reckonNeed", "()V"⟩
abbrev cX5_level : ByteArray := prog_7_method_6_code
def yX5_level : MethodName := ⟨RX5, "level", "(II)I"⟩
abbrev cX5_sinking : ByteArray := prog_7_method_7_code
def yX5_sinking : MethodName := ⟨RX5, "sinking", "(III)I"⟩
abbrev cX5_atRest : ByteArray := prog_7_method_8_code
def yX5_atRest : MethodName := ⟨RX5, "atRest", "(II)I"⟩
abbrev cX5_clearance : ByteArray := prog_7_method_9_code
def yX5_clearance : MethodName := ⟨RX5, "clearance", "(III)I"⟩
def RX6 : String := "DeepShip$Voyage"
def TX6 : u_T := fun k => match k with
  | 0 => ("DeepShip$Voyage", "port", "LDeepShip$Port;", true)
  | 1 => ("DeepShip$Voyage", "touches", "I", false)
  | 2 => ("DeepShip$Voyage", "minutes", "I", false)
  | _ => ("DeepShip$Voyage", "lowest", "I", false)
def tyX6 : Nat → FieldType := fun k => match k with
  | 0 => .object "DeepShip$Port"
  | 1 => .int
  | 2 => .int
  | _ => .int
abbrev wsX60 : List Cond := u_ws RX6 TX6 4
theorem nmX6 : ∀ a, a < 4 → ∀ b, b < 4 → a ≠ b → (TX6 a).2.1 ≠ (TX6 b).2.1 := by decide +kernel
theorem tyX6_ok : ∀ k, k < 4 → parseFieldDescriptor (TX6 k).2.2.1 = some (tyX6 k) := by decide +kernel
abbrev cX6_init : ByteArray := prog_8_method_1_code
def yX6_init : MethodName := ⟨RX6, "<init>", "(LDeepShip$Port;)V"⟩
abbrev cX6_sail : ByteArray := prog_8_method_2_code
def yX6_sail : MethodName := ⟨RX6, "sail", "(LDeepShip$Trial;I)V"⟩
def RX7 : String := "DeepShip"
def TX7 : u_T := fun k => match k with
  | 0 => ("DeepShip", "port", "LDeepShip$Port;", true)
  | 1 => ("DeepShip", "kept", "LDeepShip$Port;", true)
  | 2 => ("DeepShip", "trial", "LDeepShip$Trial;", true)
  | 3 => ("DeepShip", "voyage", "LDeepShip$Voyage;", true)
  | 4 => ("DeepShip", "search", "LDeepShip$Search;", true)
  | 5 => ("DeepShip", "order", "LDeepShip$Day;", true)
  | 6 => ("DeepShip", "tape", "LDeepShip$Tape;", true)
  | 7 => ("DeepShip", "sheets", "LDeepShip$Sheets;", true)
  | 8 => ("DeepShip", "off", "[I", true)
  | _ => ("DeepShip", "imaged", "Z", false)
def tyX7 : Nat → FieldType := fun k => match k with
  | 0 => .object "DeepShip$Port"
  | 1 => .object "DeepShip$Port"
  | 2 => .object "DeepShip$Trial"
  | 3 => .object "DeepShip$Voyage"
  | 4 => .object "DeepShip$Search"
  | 5 => .object "DeepShip$Day"
  | 6 => .object "DeepShip$Tape"
  | 7 => .object "DeepShip$Sheets"
  | 8 => .array .int
  | _ => .boolean
abbrev wsX70 : List Cond := u_ws RX7 TX7 10
theorem nmX7 : ∀ a, a < 10 → ∀ b, b < 10 → a ≠ b → (TX7 a).2.1 ≠ (TX7 b).2.1 := by decide +kernel
theorem tyX7_ok : ∀ k, k < 10 → parseFieldDescriptor (TX7 k).2.2.1 = some (tyX7 k) := by decide +kernel
abbrev cX7_init : ByteArray := prog_1_method_1_code
def yX7_init : MethodName := ⟨RX7, "<init>", "()V"⟩
abbrev cX7_mile : ByteArray := prog_1_method_2_code
def yX7_mile : MethodName := ⟨RX7, "mile", "(II)I"⟩
abbrev cX7_make : ByteArray := prog_1_method_3_code
def yX7_make : MethodName := ⟨RX7, "make", "(III)I"⟩
abbrev cX7_told : ByteArray := prog_1_method_4_code
def yX7_told : MethodName := ⟨RX7, "told", "(II)I"⟩
abbrev cX7_height : ByteArray := prog_1_method_5_code
def yX7_height : MethodName := ⟨RX7, "height", "(II)I"⟩
abbrev cX7_set : ByteArray := prog_1_method_6_code
def yX7_set : MethodName := ⟨RX7, "set", "(II)I"⟩
abbrev cX7_ship : ByteArray := prog_1_method_7_code
def yX7_ship : MethodName := ⟨RX7, "ship", "(III)I"⟩
abbrev cX7_pace : ByteArray := prog_1_method_8_code
def yX7_pace : MethodName := ⟨RX7, "pace", "(II)I"⟩
abbrev cX7_type : ByteArray := prog_1_method_9_code
def yX7_type : MethodName := ⟨RX7, "type", "(JI)I"⟩
abbrev cX7_channel : ByteArray := prog_1_method_10_code
def yX7_channel : MethodName := ⟨RX7, "channel", "()I"⟩
abbrev cX7_tides : ByteArray := prog_1_method_11_code
def yX7_tides : MethodName := ⟨RX7, "tides", "()I"⟩
abbrev cX7_count : ByteArray := prog_1_method_12_code
def yX7_count : MethodName := ⟨RX7, "count", "(I)I"⟩
abbrev cX7_tide : ByteArray := prog_1_method_13_code
def yX7_tide : MethodName := ⟨RX7, "tide", "(I)I"⟩
abbrev cX7_water : ByteArray := prog_1_method_14_code
def yX7_water : MethodName := ⟨RX7, "water", "(II)I"⟩
abbrev cX7_sinks : ByteArray := prog_1_method_15_code
def yX7_sinks : MethodName := ⟨RX7, "sinks", "(IIII)I"⟩
abbrev cX7_under : ByteArray := prog_1_method_16_code
def yX7_under : MethodName := ⟨RX7, "under", "(IIII)I"⟩
abbrev cX7_need : ByteArray := prog_1_method_17_code
def yX7_need : MethodName := ⟨RX7, "need", "(I)I"⟩
abbrev cX7_run : ByteArray := prog_1_method_18_code
def yX7_run : MethodName := ⟨RX7, "run", "(III)I"⟩
abbrev cX7_least : ByteArray := prog_1_method_19_code
def yX7_least : MethodName := ⟨RX7, "least", "(III)I"⟩
abbrev cX7_starts : ByteArray := prog_1_method_20_code
def yX7_starts : MethodName := ⟨RX7, "starts", "(II)I"⟩
abbrev cX7_deepest : ByteArray := prog_1_method_21_code
def yX7_deepest : MethodName := ⟨RX7, "deepest", "(II)I"⟩
abbrev cX7_bank : ByteArray := prog_1_method_22_code
def yX7_bank : MethodName := ⟨RX7, "bank", "(III)I"⟩
abbrev cX7_nearest : ByteArray := prog_1_method_23_code
def yX7_nearest : MethodName := ⟨RX7, "nearest", "(II)I"⟩
abbrev cX7_steered : ByteArray := prog_1_method_24_code
def yX7_steered : MethodName := ⟨RX7, "steered", "(II)I"⟩
abbrev cX7_may : ByteArray := prog_1_method_25_code
def yX7_may : MethodName := ⟨RX7, "may", "(IIIII)I"⟩
abbrev cX7_meet : ByteArray := prog_1_method_26_code
def yX7_meet : MethodName := ⟨RX7, "meet", "(IIIIII)I"⟩
abbrev cX7_day : ByteArray := prog_1_method_27_code
def yX7_day : MethodName := ⟨RX7, "day", "(III)I"⟩
abbrev cX7_dredged : ByteArray := prog_1_method_28_code
def yX7_dredged : MethodName := ⟨RX7, "dredged", "(III)I"⟩
abbrev cX7_lost : ByteArray := prog_1_method_29_code
def yX7_lost : MethodName := ⟨RX7, "lost", "(IIII)I"⟩
abbrev cX7_touched : ByteArray := prog_1_method_30_code
def yX7_touched : MethodName := ⟨RX7, "touched", "(III)I"⟩
abbrev cX7_past : ByteArray := prog_1_method_31_code
def yX7_past : MethodName := ⟨RX7, "past", "(III)I"⟩
abbrev cX7_image : ByteArray := prog_1_method_32_code
def yX7_image : MethodName := ⟨RX7, "image", "()I"⟩
abbrev cX7_restore : ByteArray := prog_1_method_33_code
def yX7_restore : MethodName := ⟨RX7, "restore", "()I"⟩
abbrev cX7_gauged : ByteArray := prog_1_method_34_code
def yX7_gauged : MethodName := ⟨RX7, "gauged", "(IIIII)I"⟩
abbrev cX7_sheet : ByteArray := prog_1_method_35_code
def yX7_sheet : MethodName := ⟨RX7, "sheet", "(III)I"⟩
abbrev cX7_drop : ByteArray := prog_1_method_36_code
def yX7_drop : MethodName := ⟨RX7, "drop", "(I)I"⟩
abbrev cX7_item : ByteArray := prog_1_method_37_code
def yX7_item : MethodName := ⟨RX7, "item", "(IIII)I"⟩
abbrev cX7_copy : ByteArray := prog_1_method_38_code
def yX7_copy : MethodName := ⟨RX7, "copy", "(IIIII)I"⟩
abbrev cX7_within : ByteArray := prog_1_method_39_code
def yX7_within : MethodName := ⟨RX7, "within", "(III)Z"⟩
abbrev cX7_isMark : ByteArray := prog_1_method_40_code
def yX7_isMark : MethodName := ⟨RX7, "isMark", "(II)Z"⟩
abbrev cX7_isPace : ByteArray := prog_1_method_41_code
def yX7_isPace : MethodName := ⟨RX7, "isPace", "(I)Z"⟩
abbrev cX7_isMinute : ByteArray := prog_1_method_42_code
def yX7_isMinute : MethodName := ⟨RX7, "isMinute", "(I)Z"⟩
abbrev cX7_isStart : ByteArray := prog_1_method_43_code
def yX7_isStart : MethodName := ⟨RX7, "isStart", "(II)Z"⟩
abbrev cX7_refusalAt : ByteArray := prog_1_method_44_code
def yX7_refusalAt : MethodName := ⟨RX7, "refusalAt", "(IIII)I"⟩
abbrev cX7_isPlaced : ByteArray := prog_1_method_45_code
def yX7_isPlaced : MethodName := ⟨RX7, "isPlaced", "(IIII)Z"⟩
abbrev cX7_areTwo : ByteArray := prog_1_method_46_code
def yX7_areTwo : MethodName := ⟨RX7, "areTwo", "(II)Z"⟩
abbrev cX7_isHeld : ByteArray := prog_1_method_47_code
def yX7_isHeld : MethodName := ⟨RX7, "isHeld", "(III)Z"⟩
abbrev cX7_latesBy : ByteArray := prog_1_method_48_code
def yX7_latesBy : MethodName := ⟨RX7, "latesBy", "(IIII)I"⟩
abbrev cX7_isLate : ByteArray := prog_1_method_49_code
def yX7_isLate : MethodName := ⟨RX7, "isLate", "(IIII)Z"⟩
abbrev cX7_minutesBy : ByteArray := prog_1_method_50_code
def yX7_minutesBy : MethodName := ⟨RX7, "minutesBy", "(I)I"⟩
abbrev cX7_hasBit : ByteArray := prog_1_method_51_code
def yX7_hasBit : MethodName := ⟨RX7, "hasBit", "([JI)Z"⟩
abbrev cX7_putBit : ByteArray := prog_1_method_52_code
def yX7_putBit : MethodName := ⟨RX7, "putBit", "([JI)V"⟩
abbrev cX7_bitsIn : ByteArray := prog_1_method_53_code
def yX7_bitsIn : MethodName := ⟨RX7, "bitsIn", "([J)I"⟩
abbrev cX7_firstFrom : ByteArray := prog_1_method_54_code
def yX7_firstFrom : MethodName := ⟨RX7, "firstFrom", "([JI)I"⟩
abbrev cX7_lastOf : ByteArray := prog_1_method_55_code
def yX7_lastOf : MethodName := ⟨RX7, "lastOf", "([J)I"⟩
def RX8 : String := "DeepShipModel"
def TX8 : u_T := fun k => match k with
  | 0 => ("DeepShipModel", "miles", "I", false)
  | 1 => ("DeepShipModel", "parts", "[I", true)
  | 2 => ("DeepShipModel", "heights", "[I", true)
  | 3 => ("DeepShipModel", "sets", "[I", true)
  | 4 => ("DeepShipModel", "ships", "I", false)
  | 5 => ("DeepShipModel", "hulls", "[I", true)
  | 6 => ("DeepShipModel", "tape", "[I", true)
  | 7 => ("DeepShipModel", "taped", "I", false)
  | 8 => ("DeepShipModel", "at", "I", false)
  | 9 => ("DeepShipModel", "wrong", "Z", false)
  | 10 => ("DeepShipModel", "read", "[I", true)
  | 11 => ("DeepShipModel", "touchedAt", "I", false)
  | 12 => ("DeepShipModel", "minutes", "I", false)
  | 13 => ("DeepShipModel", "leastUnder", "I", false)
  | 14 => ("DeepShipModel", "byRule", "Z", false)
  | 15 => ("DeepShipModel", "left", "[I", true)
  | 16 => ("DeepShipModel", "paceBy", "[I", true)
  | 17 => ("DeepShipModel", "may", "[Z", true)
  | 18 => ("DeepShipModel", "mayNext", "[Z", true)
  | 19 => ("DeepShipModel", "off", "[J", true)
  | 20 => ("DeepShipModel", "nextStart", "[I", true)
  | 21 => ("DeepShipModel", "order", "[I", true)
  | 22 => ("DeepShipModel", "bestOrder", "[I", true)
  | 23 => ("DeepShipModel", "image", "[I", true)
  | 24 => ("DeepShipModel", "isImage", "Z", false)
  | 25 => ("DeepShipModel", "lanes", "[I", true)
  | 26 => ("DeepShipModel", "sizes", "[I", true)
  | 27 => ("DeepShipModel", "items", "[I", true)
  | _ => ("DeepShipModel", "moved", "[I", true)
def tyX8 : Nat → FieldType := fun k => match k with
  | 0 => .int
  | 1 => .array .int
  | 2 => .array .int
  | 3 => .array .int
  | 4 => .int
  | 5 => .array .int
  | 6 => .array .int
  | 7 => .int
  | 8 => .int
  | 9 => .boolean
  | 10 => .array .int
  | 11 => .int
  | 12 => .int
  | 13 => .int
  | 14 => .boolean
  | 15 => .array .int
  | 16 => .array .int
  | 17 => .array .boolean
  | 18 => .array .boolean
  | 19 => .array .long
  | 20 => .array .int
  | 21 => .array .int
  | 22 => .array .int
  | 23 => .array .int
  | 24 => .boolean
  | 25 => .array .int
  | 26 => .array .int
  | 27 => .array .int
  | _ => .array .int
abbrev wsX80 : List Cond := u_ws RX8 TX8 29
theorem nmX8 : ∀ a, a < 29 → ∀ b, b < 29 → a ≠ b → (TX8 a).2.1 ≠ (TX8 b).2.1 := by decide +kernel
theorem tyX8_ok : ∀ k, k < 29 → parseFieldDescriptor (TX8 k).2.2.1 = some (tyX8 k) := by decide +kernel
abbrev cX8_in : ByteArray := prog_10_method_2_code
def yX8_in : MethodName := ⟨RX8, "in", "(JJJ)Z"⟩
abbrev cX8_init : ByteArray := prog_10_method_3_code
def yX8_init : MethodName := ⟨RX8, "<init>", "()V"⟩
abbrev cX8_isMile : ByteArray := prog_10_method_4_code
def yX8_isMile : MethodName := ⟨RX8, "isMile", "(I)Z"⟩
abbrev cX8_isShip : ByteArray := prog_10_method_5_code
def yX8_isShip : MethodName := ⟨RX8, "isShip", "(I)Z"⟩
abbrev cX8_isPace : ByteArray := prog_10_method_6_code
def yX8_isPace : MethodName := ⟨RX8, "isPace", "(I)Z"⟩
abbrev cX8_isStart : ByteArray := prog_10_method_7_code
def yX8_isStart : MethodName := ⟨RX8, "isStart", "(I)Z"⟩
abbrev cX8_isPart : ByteArray := prog_10_method_8_code
def yX8_isPart : MethodName := ⟨RX8, "isPart", "(II)Z"⟩
abbrev cX8_mileIs : ByteArray := prog_10_method_9_code
def yX8_mileIs : MethodName := ⟨RX8, "mileIs", "(IIIIII)V"⟩
abbrev cX8_mile : ByteArray := prog_10_method_10_code
def yX8_mile : MethodName := ⟨RX8, "mile", "(II)I"⟩
abbrev cX8_make : ByteArray := prog_10_method_11_code
def yX8_make : MethodName := ⟨RX8, "make", "(III)I"⟩
abbrev cX8_told : ByteArray := prog_10_method_12_code
def yX8_told : MethodName := ⟨RX8, "told", "(II)I"⟩
abbrev cX8_height : ByteArray := prog_10_method_13_code
def yX8_height : MethodName := ⟨RX8, "height", "(II)I"⟩
abbrev cX8_isSet : ByteArray := prog_10_method_14_code
def yX8_isSet : MethodName := ⟨RX8, "isSet", "(II)Z"⟩
abbrev cX8_set : ByteArray := prog_10_method_15_code
def yX8_set : MethodName := ⟨RX8, "set", "(II)I"⟩
abbrev cX8_ship : ByteArray := prog_10_method_16_code
def yX8_ship : MethodName := ⟨RX8, "ship", "(III)I"⟩
abbrev cX8_pace : ByteArray := prog_10_method_17_code
def yX8_pace : MethodName := ⟨RX8, "pace", "(II)I"⟩
abbrev cX8_type : ByteArray := prog_10_method_18_code
def yX8_type : MethodName := ⟨RX8, "type", "(JI)I"⟩
abbrev cX8_here : ByteArray := prog_10_method_19_code
def yX8_here : MethodName := ⟨RX8, "here", "()I"⟩
abbrev cX8_has : ByteArray := prog_10_method_20_code
def yX8_has : MethodName := ⟨RX8, "has", "(I)Z"⟩
abbrev cX8_number : ByteArray := prog_10_method_21_code
def yX8_number : MethodName := ⟨RX8, "number", "(II)I"⟩
abbrev cX8_digit : ByteArray := prog_10_method_22_code
def yX8_digit : MethodName := ⟨RX8, "digit", "()I"⟩
abbrev cX8_mileClause : ByteArray := prog_10_method_23_code
def yX8_mileClause : MethodName := ⟨RX8, "mileClause", "(I)V"⟩
abbrev cX8_channel : ByteArray := prog_10_method_24_code
def yX8_channel : MethodName := ⟨RX8, "channel", "()I"⟩
abbrev cX8_tides : ByteArray := prog_10_method_25_code
def yX8_tides : MethodName := ⟨RX8, "tides", "()I"⟩
abbrev cX8_count : ByteArray := prog_10_method_26_code
def yX8_count : MethodName := ⟨RX8, "count", "(I)I"⟩
abbrev cX8_tideAt : ByteArray := prog_10_method_27_code
def yX8_tideAt : MethodName := ⟨RX8, "tideAt", "(I)I"⟩
abbrev cX8_waterAt : ByteArray := prog_10_method_28_code
def yX8_waterAt : MethodName := ⟨RX8, "waterAt", "(II)I"⟩
abbrev cX8_sinksBy : ByteArray := prog_10_method_29_code
def yX8_sinksBy : MethodName := ⟨RX8, "sinksBy", "(IIII)I"⟩
abbrev cX8_underBy : ByteArray := prog_10_method_30_code
def yX8_underBy : MethodName := ⟨RX8, "underBy", "(IIII)I"⟩
abbrev cX8_needOf : ByteArray := prog_10_method_31_code
def yX8_needOf : MethodName := ⟨RX8, "needOf", "(I)I"⟩
abbrev cX8_isMinute : ByteArray := prog_10_method_32_code
def yX8_isMinute : MethodName := ⟨RX8, "isMinute", "(I)Z"⟩
abbrev cX8_tide : ByteArray := prog_10_method_33_code
def yX8_tide : MethodName := ⟨RX8, "tide", "(I)I"⟩
abbrev cX8_water : ByteArray := prog_10_method_34_code
def yX8_water : MethodName := ⟨RX8, "water", "(II)I"⟩
abbrev cX8_sinks : ByteArray := prog_10_method_35_code
def yX8_sinks : MethodName := ⟨RX8, "sinks", "(IIII)I"⟩
abbrev cX8_under : ByteArray := prog_10_method_36_code
def yX8_under : MethodName := ⟨RX8, "under", "(IIII)I"⟩
abbrev cX8_need : ByteArray := prog_10_method_37_code
def yX8_need : MethodName := ⟨RX8, "need", "(I)I"⟩
abbrev cX8_goes : ByteArray := prog_10_method_38_code
def yX8_goes : MethodName := ⟨RX8, "goes", "(II)V"⟩
abbrev cX8_run : ByteArray := prog_10_method_39_code
def yX8_run : MethodName := ⟨RX8, "run", "(III)I"⟩
abbrev cX8_quickest : ByteArray := prog_10_method_40_code
def yX8_quickest : MethodName := ⟨RX8, "quickest", "(II)I"⟩
abbrev cX8_least : ByteArray := prog_10_method_41_code
def yX8_least : MethodName := ⟨RX8, "least", "(III)I"⟩
abbrev cX8_startsOf : ByteArray := prog_10_method_42_code
def yX8_startsOf : MethodName := ⟨RX8, "startsOf", "(I)V"⟩
abbrev cX8_starts : ByteArray := prog_10_method_43_code
def yX8_starts : MethodName := ⟨RX8, "starts", "(II)I"⟩
abbrev cX8_deepest : ByteArray := prog_10_method_44_code
def yX8_deepest : MethodName := ⟨RX8, "deepest", "(II)I"⟩
abbrev cX8_holds : ByteArray := prog_10_method_45_code
def yX8_holds : MethodName := ⟨RX8, "holds", "(III)Z"⟩
abbrev cX8_bank : ByteArray := prog_10_method_46_code
def yX8_bank : MethodName := ⟨RX8, "bank", "(III)I"⟩
abbrev cX8_nearest : ByteArray := prog_10_method_47_code
def yX8_nearest : MethodName := ⟨RX8, "nearest", "(II)I"⟩
abbrev cX8_steered : ByteArray := prog_10_method_48_code
def yX8_steered : MethodName := ⟨RX8, "steered", "(II)I"⟩
abbrev cX8_may : ByteArray := prog_10_method_49_code
def yX8_may : MethodName := ⟨RX8, "may", "(IIIII)I"⟩
abbrev cX8_meet : ByteArray := prog_10_method_50_code
def yX8_meet : MethodName := ⟨RX8, "meet", "(IIIIII)I"⟩
abbrev cX8_turns : ByteArray := prog_10_method_51_code
def yX8_turns : MethodName := ⟨RX8, "turns", "(I)Z"⟩
abbrev cX8_sumOf : ByteArray := prog_10_method_52_code
def yX8_sumOf : MethodName := ⟨RX8, "sumOf", "(II)I"⟩
abbrev cX8_day : ByteArray := prog_10_method_53_code
def yX8_day : MethodName := ⟨RX8, "day", "(III)I"⟩
abbrev cX8_dredged : ByteArray := prog_10_method_54_code
def yX8_dredged : MethodName := ⟨RX8, "dredged", "(III)I"⟩
abbrev cX8_lost : ByteArray := prog_10_method_55_code
def yX8_lost : MethodName := ⟨RX8, "lost", "(IIII)I"⟩
abbrev cX8_touched : ByteArray := prog_10_method_56_code
def yX8_touched : MethodName := ⟨RX8, "touched", "(III)I"⟩
abbrev cX8_past : ByteArray := prog_10_method_57_code
def yX8_past : MethodName := ⟨RX8, "past", "(III)I"⟩
abbrev cX8_lay : ByteArray := prog_10_method_58_code
def yX8_lay : MethodName := ⟨RX8, "lay", "([II)I"⟩
abbrev cX8_gives : ByteArray := prog_10_method_59_code
def yX8_gives : MethodName := ⟨RX8, "gives", "(I[I)I"⟩
abbrev cX8_image : ByteArray := prog_10_method_60_code
def yX8_image : MethodName := ⟨RX8, "image", "()I"⟩
abbrev cX8_restore : ByteArray := prog_10_method_61_code
def yX8_restore : MethodName := ⟨RX8, "restore", "()I"⟩
abbrev cX8_isSheet : ByteArray := prog_10_method_62_code
def yX8_isSheet : MethodName := ⟨RX8, "isSheet", "(I)Z"⟩
abbrev cX8_isLane : ByteArray := prog_10_method_63_code
def yX8_isLane : MethodName := ⟨RX8, "isLane", "(I)Z"⟩
abbrev cX8_finds : ByteArray := prog_10_method_64_code
def yX8_finds : MethodName := ⟨RX8, "finds", "(IIII)I"⟩
abbrev cX8_gauged : ByteArray := prog_10_method_65_code
def yX8_gauged : MethodName := ⟨RX8, "gauged", "(IIIII)I"⟩
abbrev cX8_sheet : ByteArray := prog_10_method_66_code
def yX8_sheet : MethodName := ⟨RX8, "sheet", "(III)I"⟩
abbrev cX8_drop : ByteArray := prog_10_method_67_code
def yX8_drop : MethodName := ⟨RX8, "drop", "(I)I"⟩
abbrev cX8_item : ByteArray := prog_10_method_68_code
def yX8_item : MethodName := ⟨RX8, "item", "(IIII)I"⟩
abbrev cX8_copy : ByteArray := prog_10_method_69_code
def yX8_copy : MethodName := ⟨RX8, "copy", "(IIIII)I"⟩
def RJ6 : String := "java/lang/Integer"
def TJ6 : u_T := fun k => match k with
  | _ => ("", "", "", false)
def tyJ6 : Nat → FieldType := fun k => match k with
  | _ => .int
abbrev wsJ60 : List Cond := u_ws RJ6 TJ6 0
theorem nmJ6 : ∀ a, a < 0 → ∀ b, b < 0 → a ≠ b → (TJ6 a).2.1 ≠ (TJ6 b).2.1 := by decide +kernel
theorem tyJ6_ok : ∀ k, k < 0 → parseFieldDescriptor (TJ6 k).2.2.1 = some (tyJ6 k) := by decide +kernel
abbrev cJ6_compare_7cf53 : ByteArray := prog_11_method_40_code
def yJ6_compare_7cf53 : MethodName := ⟨RJ6, "compare", "(II)I"⟩
def RJ13 : String := "java/lang/Long"
def TJ13 : u_T := fun k => match k with
  | _ => ("", "", "", false)
def tyJ13 : Nat → FieldType := fun k => match k with
  | _ => .int
abbrev wsJ130 : List Cond := u_ws RJ13 TJ13 0
theorem nmJ13 : ∀ a, a < 0 → ∀ b, b < 0 → a ≠ b → (TJ13 a).2.1 ≠ (TJ13 b).2.1 := by decide +kernel
theorem tyJ13_ok : ∀ k, k < 0 → parseFieldDescriptor (TJ13 k).2.2.1 = some (tyJ13 k) := by decide +kernel
abbrev cJ13_bitCount_95d88 : ByteArray := prog_12_method_50_code
def yJ13_bitCount_95d88 : MethodName := ⟨RJ13, "bitCount", "(J)I"⟩
def RJ9 : String := "java/lang/Math"
def TJ9 : u_T := fun k => match k with
  | _ => ("", "", "", false)
def tyJ9 : Nat → FieldType := fun k => match k with
  | _ => .int
abbrev wsJ90 : List Cond := u_ws RJ9 TJ9 0
theorem nmJ9 : ∀ a, a < 0 → ∀ b, b < 0 → a ≠ b → (TJ9 a).2.1 ≠ (TJ9 b).2.1 := by decide +kernel
theorem tyJ9_ok : ∀ k, k < 0 → parseFieldDescriptor (TJ9 k).2.2.1 = some (tyJ9 k) := by decide +kernel
abbrev cJ9_floorMod_7cf53 : ByteArray := prog_13_method_50_code
def yJ9_floorMod_7cf53 : MethodName := ⟨RJ9, "floorMod", "(II)I"⟩
abbrev cJ9_abs_0f7a4 : ByteArray := prog_13_method_59_code
def yJ9_abs_0f7a4 : MethodName := ⟨RJ9, "abs", "(I)I"⟩
abbrev cJ9_max_7cf53 : ByteArray := prog_13_method_65_code
def yJ9_max_7cf53 : MethodName := ⟨RJ9, "max", "(II)I"⟩
abbrev cJ9_min_7cf53 : ByteArray := prog_13_method_69_code
def yJ9_min_7cf53 : MethodName := ⟨RJ9, "min", "(II)I"⟩
def RJ10 : String := "java/lang/System"
def TJ10 : u_T := fun k => match k with
  | _ => ("", "", "", false)
def tyJ10 : Nat → FieldType := fun k => match k with
  | _ => .int
abbrev wsJ100 : List Cond := u_ws RJ10 TJ10 0
theorem nmJ10 : ∀ a, a < 0 → ∀ b, b < 0 → a ≠ b → (TJ10 a).2.1 ≠ (TJ10 b).2.1 := by decide +kernel
theorem tyJ10_ok : ∀ k, k < 0 → parseFieldDescriptor (TJ10 k).2.2.1 = some (tyJ10 k) := by decide +kernel
def RL : String := "DeepShipLaw"
abbrev cL_law : ByteArray := code
def yL_law : MethodName := ⟨RL, "law", "([I)Z"⟩
abbrev vwCl : List vw_C := [(RX0, TX0, 6), (RX1, TX1, 6), (RX2, TX2, 6), (RX3, TX3, 3), (RX4, TX4, 5), (RX5, TX5, 8), (RX6, TX6, 4), (RX7, TX7, 10), (RX8, TX8, 29)]
/-! ===== END printed: names ===== -/
end
section
theorem dX0_init_0 : decode cX0_init 0 = .ok (.aload_n 0, 1) := by decide +kernel
theorem dX0_init_1 : decode cX0_init 1 = .ok (.invokespecial 3, 3) := by decide +kernel
theorem dX0_init_4 : decode cX0_init 4 = .ok (.aload_n 0, 1) := by decide +kernel
theorem dX0_init_5 : decode cX0_init 5 = .ok (.bipush 6, 2) := by decide +kernel
theorem dX0_init_7 : decode cX0_init 7 = .ok (.bipush 23, 2) := by decide +kernel
theorem dX0_init_9 : decode cX0_init 9 = .ok (.multianewarray 9 2, 4) := by decide +kernel
theorem dX0_init_13 : decode cX0_init 13 = .ok (.putfield 11, 3) := by decide +kernel
theorem dX0_init_16 : decode cX0_init 16 = .ok (.aload_n 0, 1) := by decide +kernel
theorem dX0_init_17 : decode cX0_init 17 = .ok (.bipush 6, 2) := by decide +kernel
theorem dX0_init_19 : decode cX0_init 19 = .ok (.newarray .int, 2) := by decide +kernel
theorem dX0_init_21 : decode cX0_init 21 = .ok (.putfield 16, 3) := by decide +kernel
theorem dX0_init_24 : decode cX0_init 24 = .ok (.aload_n 0, 1) := by decide +kernel
theorem dX0_init_25 : decode cX0_init 25 = .ok (.bipush 6, 2) := by decide +kernel
theorem dX0_init_27 : decode cX0_init 27 = .ok (.newarray .int, 2) := by decide +kernel
theorem dX0_init_29 : decode cX0_init 29 = .ok (.putfield 20, 3) := by decide +kernel
theorem dX0_init_32 : decode cX0_init 32 = .ok (.aload_n 0, 1) := by decide +kernel
theorem dX0_init_33 : decode cX0_init 33 = .ok (.iconst 0, 1) := by decide +kernel
theorem dX0_init_34 : decode cX0_init 34 = .ok (.putfield 23, 3) := by decide +kernel
theorem dX0_init_37 : decode cX0_init 37 = .ok (.aload_n 0, 1) := by decide +kernel
theorem dX0_init_38 : decode cX0_init 38 = .ok (.iconst 0, 1) := by decide +kernel
theorem dX0_init_39 : decode cX0_init 39 = .ok (.putfield 27, 3) := by decide +kernel
theorem dX0_init_42 : decode cX0_init 42 = .ok (.aload_n 0, 1) := by decide +kernel
theorem dX0_init_43 : decode cX0_init 43 = .ok (.iconst 0, 1) := by decide +kernel
theorem dX0_init_44 : decode cX0_init 44 = .ok (.putfield 30, 3) := by decide +kernel
theorem dX0_init_47 : decode cX0_init 47 = .ok (.return_, 1) := by decide +kernel
theorem dX0_startsOf_0 : decode cX0_startsOf 0 = .ok (.aload_n 0, 1) := by decide +kernel
theorem dX0_startsOf_1 : decode cX0_startsOf 1 = .ok (.getfield 11, 3) := by decide +kernel
theorem dX0_startsOf_4 : decode cX0_startsOf 4 = .ok (.iload_n 1, 1) := by decide +kernel
theorem dX0_startsOf_5 : decode cX0_startsOf 5 = .ok (.aaload, 1) := by decide +kernel
theorem dX0_startsOf_6 : decode cX0_startsOf 6 = .ok (.areturn, 1) := by decide +kernel
theorem dX0_arrange_0 : decode cX0_arrange 0 = .ok (.aload_n 0, 1) := by decide +kernel
theorem dX0_arrange_1 : decode cX0_arrange 1 = .ok (.iconst 0, 1) := by decide +kernel
theorem dX0_arrange_2 : decode cX0_arrange 2 = .ok (.putfield 23, 3) := by decide +kernel
theorem dX0_arrange_5 : decode cX0_arrange 5 = .ok (.aload_n 0, 1) := by decide +kernel
theorem dX0_arrange_6 : decode cX0_arrange 6 = .ok (.iload_n 2, 1) := by decide +kernel
theorem dX0_arrange_7 : decode cX0_arrange 7 = .ok (.putfield 30, 3) := by decide +kernel
theorem dX0_arrange_10 : decode cX0_arrange 10 = .ok (.aload_n 0, 1) := by decide +kernel
theorem dX0_arrange_11 : decode cX0_arrange 11 = .ok (.ldc 35, 2) := by decide +kernel
theorem dX0_arrange_13 : decode cX0_arrange 13 = .ok (.putfield 27, 3) := by decide +kernel
theorem dX0_arrange_16 : decode cX0_arrange 16 = .ok (.aload_n 0, 1) := by decide +kernel
theorem dX0_arrange_17 : decode cX0_arrange 17 = .ok (.iconst 0, 1) := by decide +kernel
theorem dX0_arrange_18 : decode cX0_arrange 18 = .ok (.iload_n 1, 1) := by decide +kernel
theorem dX0_arrange_19 : decode cX0_arrange 19 = .ok (.iconst 0, 1) := by decide +kernel
theorem dX0_arrange_20 : decode cX0_arrange 20 = .ok (.iconst 0, 1) := by decide +kernel
theorem dX0_arrange_21 : decode cX0_arrange 21 = .ok (.invokevirtual 36, 3) := by decide +kernel
theorem dX0_arrange_24 : decode cX0_arrange 24 = .ok (.aload_n 0, 1) := by decide +kernel
theorem dX0_arrange_25 : decode cX0_arrange 25 = .ok (.getfield 23, 3) := by decide +kernel
theorem dX0_arrange_28 : decode cX0_arrange 28 = .ok (.ifCond .ne 8, 3) := by decide +kernel
theorem dX0_arrange_31 : decode cX0_arrange 31 = .ok (.bipush (-4), 2) := by decide +kernel
theorem dX0_arrange_33 : decode cX0_arrange 33 = .ok (.goto 7, 3) := by decide +kernel
theorem dX0_arrange_36 : decode cX0_arrange 36 = .ok (.aload_n 0, 1) := by decide +kernel
theorem dX0_arrange_37 : decode cX0_arrange 37 = .ok (.getfield 27, 3) := by decide +kernel
theorem dX0_arrange_40 : decode cX0_arrange 40 = .ok (.ireturn, 1) := by decide +kernel
theorem dX0_goes_0 : decode cX0_goes 0 = .ok (.iload_n 1, 1) := by decide +kernel
theorem dX0_goes_1 : decode cX0_goes 1 = .ok (.ifCond .lt 20, 3) := by decide +kernel
theorem dX0_goes_4 : decode cX0_goes 4 = .ok (.iload_n 1, 1) := by decide +kernel
theorem dX0_goes_5 : decode cX0_goes 5 = .ok (.aload_n 0, 1) := by decide +kernel
theorem dX0_goes_6 : decode cX0_goes 6 = .ok (.getfield 23, 3) := by decide +kernel
theorem dX0_goes_9 : decode cX0_goes 9 = .ok (.if_icmp .ge 12, 3) := by decide +kernel
theorem dX0_goes_12 : decode cX0_goes 12 = .ok (.aload_n 0, 1) := by decide +kernel
theorem dX0_goes_13 : decode cX0_goes 13 = .ok (.getfield 20, 3) := by decide +kernel
theorem dX0_goes_16 : decode cX0_goes 16 = .ok (.iload_n 1, 1) := by decide +kernel
theorem dX0_goes_17 : decode cX0_goes 17 = .ok (.iaload, 1) := by decide +kernel
theorem dX0_goes_18 : decode cX0_goes 18 = .ok (.goto 5, 3) := by decide +kernel
theorem dX0_goes_21 : decode cX0_goes 21 = .ok (.bipush (-4), 2) := by decide +kernel
theorem dX0_goes_23 : decode cX0_goes 23 = .ok (.ireturn, 1) := by decide +kernel
theorem dX0_tryNext_0 : decode cX0_tryNext 0 = .ok (.iload_n 2, 1) := by decide +kernel
theorem dX0_tryNext_1 : decode cX0_tryNext 1 = .ok (.ifCond .ne 11, 3) := by decide +kernel
theorem dX0_tryNext_4 : decode cX0_tryNext 4 = .ok (.aload_n 0, 1) := by decide +kernel
theorem dX0_tryNext_5 : decode cX0_tryNext 5 = .ok (.iload_n 1, 1) := by decide +kernel
theorem dX0_tryNext_6 : decode cX0_tryNext 6 = .ok (.iload 4, 2) := by decide +kernel
theorem dX0_tryNext_8 : decode cX0_tryNext 8 = .ok (.invokevirtual 40, 3) := by decide +kernel
theorem dX0_tryNext_11 : decode cX0_tryNext 11 = .ok (.return_, 1) := by decide +kernel
theorem dX0_tryNext_12 : decode cX0_tryNext 12 = .ok (.iload_n 1, 1) := by decide +kernel
theorem dX0_tryNext_13 : decode cX0_tryNext 13 = .ok (.bipush 6, 2) := by decide +kernel
theorem dX0_tryNext_15 : decode cX0_tryNext 15 = .ok (.if_icmp .lt 4, 3) := by decide +kernel
theorem dX0_tryNext_18 : decode cX0_tryNext 18 = .ok (.return_, 1) := by decide +kernel
theorem dX0_tryNext_19 : decode cX0_tryNext 19 = .ok (.iconst 0, 1) := by decide +kernel
theorem dX0_tryNext_20 : decode cX0_tryNext 20 = .ok (.istore 5, 2) := by decide +kernel
theorem dX0_tryNext_22 : decode cX0_tryNext 22 = .ok (.iload 5, 2) := by decide +kernel
theorem dX0_tryNext_24 : decode cX0_tryNext 24 = .ok (.bipush 6, 2) := by decide +kernel
theorem dX0_tryNext_26 : decode cX0_tryNext 26 = .ok (.if_icmp .ge 78, 3) := by decide +kernel
theorem dX0_tryNext_29 : decode cX0_tryNext 29 = .ok (.iload_n 2, 1) := by decide +kernel
theorem dX0_tryNext_30 : decode cX0_tryNext 30 = .ok (.iload 5, 2) := by decide +kernel
theorem dX0_tryNext_32 : decode cX0_tryNext 32 = .ok (.ishr, 1) := by decide +kernel
theorem dX0_tryNext_33 : decode cX0_tryNext 33 = .ok (.iconst 1, 1) := by decide +kernel
theorem dX0_tryNext_34 : decode cX0_tryNext 34 = .ok (.iand, 1) := by decide +kernel
theorem dX0_tryNext_35 : decode cX0_tryNext 35 = .ok (.ifCond .eq 17, 3) := by decide +kernel
theorem dX0_tryNext_38 : decode cX0_tryNext 38 = .ok (.aload_n 0, 1) := by decide +kernel
theorem dX0_tryNext_39 : decode cX0_tryNext 39 = .ok (.getfield 11, 3) := by decide +kernel
theorem dX0_tryNext_42 : decode cX0_tryNext 42 = .ok (.iload 5, 2) := by decide +kernel
theorem dX0_tryNext_44 : decode cX0_tryNext 44 = .ok (.aaload, 1) := by decide +kernel
theorem dX0_tryNext_45 : decode cX0_tryNext 45 = .ok (.iload_n 3, 1) := by decide +kernel
theorem dX0_tryNext_46 : decode cX0_tryNext 46 = .ok (.invokestatic 44, 3) := by decide +kernel
theorem dX0_tryNext_49 : decode cX0_tryNext 49 = .ok (.goto 5, 3) := by decide +kernel
theorem dX0_tryNext_52 : decode cX0_tryNext 52 = .ok (.bipush (-4), 2) := by decide +kernel
theorem dX0_tryNext_54 : decode cX0_tryNext 54 = .ok (.istore 6, 2) := by decide +kernel
theorem dX0_tryNext_56 : decode cX0_tryNext 56 = .ok (.iload 6, 2) := by decide +kernel
theorem dX0_tryNext_58 : decode cX0_tryNext 58 = .ok (.bipush (-4), 2) := by decide +kernel
theorem dX0_tryNext_60 : decode cX0_tryNext 60 = .ok (.if_icmp .eq 38, 3) := by decide +kernel
theorem dX0_tryNext_63 : decode cX0_tryNext 63 = .ok (.aload_n 0, 1) := by decide +kernel
theorem dX0_tryNext_64 : decode cX0_tryNext 64 = .ok (.getfield 16, 3) := by decide +kernel
theorem dX0_tryNext_67 : decode cX0_tryNext 67 = .ok (.iload_n 1, 1) := by decide +kernel
theorem dX0_tryNext_68 : decode cX0_tryNext 68 = .ok (.iload 5, 2) := by decide +kernel
theorem dX0_tryNext_70 : decode cX0_tryNext 70 = .ok (.iastore, 1) := by decide +kernel
theorem dX0_tryNext_71 : decode cX0_tryNext 71 = .ok (.aload_n 0, 1) := by decide +kernel
theorem dX0_tryNext_72 : decode cX0_tryNext 72 = .ok (.iload_n 1, 1) := by decide +kernel
theorem dX0_tryNext_73 : decode cX0_tryNext 73 = .ok (.iconst 1, 1) := by decide +kernel
theorem dX0_tryNext_74 : decode cX0_tryNext 74 = .ok (.iadd, 1) := by decide +kernel
theorem dX0_tryNext_75 : decode cX0_tryNext 75 = .ok (.iload_n 2, 1) := by decide +kernel
theorem dX0_tryNext_76 : decode cX0_tryNext 76 = .ok (.iconst 1, 1) := by decide +kernel
theorem dX0_tryNext_77 : decode cX0_tryNext 77 = .ok (.iload 5, 2) := by decide +kernel
theorem dX0_tryNext_79 : decode cX0_tryNext 79 = .ok (.ishl, 1) := by decide +kernel
theorem dX0_tryNext_80 : decode cX0_tryNext 80 = .ok (.iconst (-1), 1) := by decide +kernel
theorem dX0_tryNext_81 : decode cX0_tryNext 81 = .ok (.ixor, 1) := by decide +kernel
theorem dX0_tryNext_82 : decode cX0_tryNext 82 = .ok (.iand, 1) := by decide +kernel
theorem dX0_tryNext_83 : decode cX0_tryNext 83 = .ok (.iload 6, 2) := by decide +kernel
theorem dX0_tryNext_85 : decode cX0_tryNext 85 = .ok (.aload_n 0, 1) := by decide +kernel
theorem dX0_tryNext_86 : decode cX0_tryNext 86 = .ok (.getfield 30, 3) := by decide +kernel
theorem dX0_tryNext_89 : decode cX0_tryNext 89 = .ok (.iadd, 1) := by decide +kernel
theorem dX0_tryNext_90 : decode cX0_tryNext 90 = .ok (.iload 4, 2) := by decide +kernel
theorem dX0_tryNext_92 : decode cX0_tryNext 92 = .ok (.iload 6, 2) := by decide +kernel
theorem dX0_tryNext_94 : decode cX0_tryNext 94 = .ok (.iadd, 1) := by decide +kernel
theorem dX0_tryNext_95 : decode cX0_tryNext 95 = .ok (.invokevirtual 36, 3) := by decide +kernel
theorem dX0_tryNext_98 : decode cX0_tryNext 98 = .ok (.iinc 5 1, 3) := by decide +kernel
theorem dX0_tryNext_101 : decode cX0_tryNext 101 = .ok (.goto (-79), 3) := by decide +kernel
theorem dX0_tryNext_104 : decode cX0_tryNext 104 = .ok (.return_, 1) := by decide +kernel
theorem dX0_keepBetter_0 : decode cX0_keepBetter 0 = .ok (.iload_n 2, 1) := by decide +kernel
theorem dX0_keepBetter_1 : decode cX0_keepBetter 1 = .ok (.aload_n 0, 1) := by decide +kernel
theorem dX0_keepBetter_2 : decode cX0_keepBetter 2 = .ok (.getfield 27, 3) := by decide +kernel
theorem dX0_keepBetter_5 : decode cX0_keepBetter 5 = .ok (.if_icmp .ge 28, 3) := by decide +kernel
theorem dX0_keepBetter_8 : decode cX0_keepBetter 8 = .ok (.aload_n 0, 1) := by decide +kernel
theorem dX0_keepBetter_9 : decode cX0_keepBetter 9 = .ok (.iload_n 2, 1) := by decide +kernel
theorem dX0_keepBetter_10 : decode cX0_keepBetter 10 = .ok (.putfield 27, 3) := by decide +kernel
theorem dX0_keepBetter_13 : decode cX0_keepBetter 13 = .ok (.aload_n 0, 1) := by decide +kernel
theorem dX0_keepBetter_14 : decode cX0_keepBetter 14 = .ok (.iload_n 1, 1) := by decide +kernel
theorem dX0_keepBetter_15 : decode cX0_keepBetter 15 = .ok (.putfield 23, 3) := by decide +kernel
theorem dX0_keepBetter_18 : decode cX0_keepBetter 18 = .ok (.aload_n 0, 1) := by decide +kernel
theorem dX0_keepBetter_19 : decode cX0_keepBetter 19 = .ok (.getfield 16, 3) := by decide +kernel
theorem dX0_keepBetter_22 : decode cX0_keepBetter 22 = .ok (.iconst 0, 1) := by decide +kernel
theorem dX0_keepBetter_23 : decode cX0_keepBetter 23 = .ok (.aload_n 0, 1) := by decide +kernel
theorem dX0_keepBetter_24 : decode cX0_keepBetter 24 = .ok (.getfield 20, 3) := by decide +kernel
theorem dX0_keepBetter_27 : decode cX0_keepBetter 27 = .ok (.iconst 0, 1) := by decide +kernel
theorem dX0_keepBetter_28 : decode cX0_keepBetter 28 = .ok (.bipush 6, 2) := by decide +kernel
theorem dX0_keepBetter_30 : decode cX0_keepBetter 30 = .ok (.invokestatic 48, 3) := by decide +kernel
theorem dX0_keepBetter_33 : decode cX0_keepBetter 33 = .ok (.return_, 1) := by decide +kernel
theorem dX1_init_0 : decode cX1_init 0 = .ok (.aload_n 0, 1) := by decide +kernel
theorem dX1_init_1 : decode cX1_init 1 = .ok (.invokespecial 3, 3) := by decide +kernel
theorem dX1_init_4 : decode cX1_init 4 = .ok (.aload_n 0, 1) := by decide +kernel
theorem dX1_init_5 : decode cX1_init 5 = .ok (.iconst 0, 1) := by decide +kernel
theorem dX1_init_6 : decode cX1_init 6 = .ok (.putfield 9, 3) := by decide +kernel
theorem dX1_init_9 : decode cX1_init 9 = .ok (.aload_n 0, 1) := by decide +kernel
theorem dX1_init_10 : decode cX1_init 10 = .ok (.iconst 0, 1) := by decide +kernel
theorem dX1_init_11 : decode cX1_init 11 = .ok (.putfield 15, 3) := by decide +kernel
theorem dX1_init_14 : decode cX1_init 14 = .ok (.aload_n 0, 1) := by decide +kernel
theorem dX1_init_15 : decode cX1_init 15 = .ok (.bipush 24, 2) := by decide +kernel
theorem dX1_init_17 : decode cX1_init 17 = .ok (.newarray .int, 2) := by decide +kernel
theorem dX1_init_19 : decode cX1_init 19 = .ok (.putfield 18, 3) := by decide +kernel
theorem dX1_init_22 : decode cX1_init 22 = .ok (.aload_n 0, 1) := by decide +kernel
theorem dX1_init_23 : decode cX1_init 23 = .ok (.iconst 5, 1) := by decide +kernel
theorem dX1_init_24 : decode cX1_init 24 = .ok (.newarray .int, 2) := by decide +kernel
theorem dX1_init_26 : decode cX1_init 26 = .ok (.dup, 1) := by decide +kernel
theorem dX1_init_27 : decode cX1_init 27 = .ok (.iconst 0, 1) := by decide +kernel
theorem dX1_init_28 : decode cX1_init 28 = .ok (.iconst 0, 1) := by decide +kernel
theorem dX1_init_29 : decode cX1_init 29 = .ok (.iastore, 1) := by decide +kernel
theorem dX1_init_30 : decode cX1_init 30 = .ok (.dup, 1) := by decide +kernel
theorem dX1_init_31 : decode cX1_init 31 = .ok (.iconst 1, 1) := by decide +kernel
theorem dX1_init_32 : decode cX1_init 32 = .ok (.iconst 0, 1) := by decide +kernel
theorem dX1_init_33 : decode cX1_init 33 = .ok (.iastore, 1) := by decide +kernel
theorem dX1_init_34 : decode cX1_init 34 = .ok (.dup, 1) := by decide +kernel
theorem dX1_init_35 : decode cX1_init 35 = .ok (.iconst 2, 1) := by decide +kernel
theorem dX1_init_36 : decode cX1_init 36 = .ok (.iconst 0, 1) := by decide +kernel
theorem dX1_init_37 : decode cX1_init 37 = .ok (.iastore, 1) := by decide +kernel
theorem dX1_init_38 : decode cX1_init 38 = .ok (.dup, 1) := by decide +kernel
theorem dX1_init_39 : decode cX1_init 39 = .ok (.iconst 3, 1) := by decide +kernel
theorem dX1_init_40 : decode cX1_init 40 = .ok (.iconst 0, 1) := by decide +kernel
theorem dX1_init_41 : decode cX1_init 41 = .ok (.iastore, 1) := by decide +kernel
theorem dX1_init_42 : decode cX1_init 42 = .ok (.dup, 1) := by decide +kernel
theorem dX1_init_43 : decode cX1_init 43 = .ok (.iconst 4, 1) := by decide +kernel
theorem dX1_init_44 : decode cX1_init 44 = .ok (.iconst 5, 1) := by decide +kernel
theorem dX1_init_45 : decode cX1_init 45 = .ok (.iastore, 1) := by decide +kernel
theorem dX1_init_46 : decode cX1_init 46 = .ok (.putfield 22, 3) := by decide +kernel
theorem dX1_init_49 : decode cX1_init 49 = .ok (.aload_n 0, 1) := by decide +kernel
theorem dX1_init_50 : decode cX1_init 50 = .ok (.bipush 96, 2) := by decide +kernel
theorem dX1_init_52 : decode cX1_init 52 = .ok (.newarray .int, 2) := by decide +kernel
theorem dX1_init_54 : decode cX1_init 54 = .ok (.putfield 25, 3) := by decide +kernel
theorem dX1_init_57 : decode cX1_init 57 = .ok (.aload_n 0, 1) := by decide +kernel
theorem dX1_init_58 : decode cX1_init 58 = .ok (.bipush 18, 2) := by decide +kernel
theorem dX1_init_60 : decode cX1_init 60 = .ok (.newarray .int, 2) := by decide +kernel
theorem dX1_init_62 : decode cX1_init 62 = .ok (.putfield 28, 3) := by decide +kernel
theorem dX1_init_65 : decode cX1_init 65 = .ok (.return_, 1) := by decide +kernel
theorem dX1_take_0 : decode cX1_take 0 = .ok (.aload_n 0, 1) := by decide +kernel
theorem dX1_take_1 : decode cX1_take 1 = .ok (.aload_n 1, 1) := by decide +kernel
theorem dX1_take_2 : decode cX1_take 2 = .ok (.getfield 9, 3) := by decide +kernel
theorem dX1_take_5 : decode cX1_take 5 = .ok (.putfield 9, 3) := by decide +kernel
theorem dX1_take_8 : decode cX1_take 8 = .ok (.aload_n 0, 1) := by decide +kernel
theorem dX1_take_9 : decode cX1_take 9 = .ok (.aload_n 1, 1) := by decide +kernel
theorem dX1_take_10 : decode cX1_take 10 = .ok (.getfield 15, 3) := by decide +kernel
theorem dX1_take_13 : decode cX1_take 13 = .ok (.putfield 15, 3) := by decide +kernel
theorem dX1_take_16 : decode cX1_take 16 = .ok (.aload_n 1, 1) := by decide +kernel
theorem dX1_take_17 : decode cX1_take 17 = .ok (.getfield 18, 3) := by decide +kernel
theorem dX1_take_20 : decode cX1_take 20 = .ok (.iconst 0, 1) := by decide +kernel
theorem dX1_take_21 : decode cX1_take 21 = .ok (.aload_n 0, 1) := by decide +kernel
theorem dX1_take_22 : decode cX1_take 22 = .ok (.getfield 18, 3) := by decide +kernel
theorem dX1_take_25 : decode cX1_take 25 = .ok (.iconst 0, 1) := by decide +kernel
theorem dX1_take_26 : decode cX1_take 26 = .ok (.aload_n 0, 1) := by decide +kernel
theorem dX1_take_27 : decode cX1_take 27 = .ok (.getfield 18, 3) := by decide +kernel
theorem dX1_take_30 : decode cX1_take 30 = .ok (.arraylength, 1) := by decide +kernel
theorem dX1_take_31 : decode cX1_take 31 = .ok (.invokestatic 31, 3) := by decide +kernel
theorem dX1_take_34 : decode cX1_take 34 = .ok (.aload_n 1, 1) := by decide +kernel
theorem dX1_take_35 : decode cX1_take 35 = .ok (.getfield 22, 3) := by decide +kernel
theorem dX1_take_38 : decode cX1_take 38 = .ok (.iconst 0, 1) := by decide +kernel
theorem dX1_take_39 : decode cX1_take 39 = .ok (.aload_n 0, 1) := by decide +kernel
theorem dX1_take_40 : decode cX1_take 40 = .ok (.getfield 22, 3) := by decide +kernel
theorem dX1_take_43 : decode cX1_take 43 = .ok (.iconst 0, 1) := by decide +kernel
theorem dX1_take_44 : decode cX1_take 44 = .ok (.aload_n 0, 1) := by decide +kernel
theorem dX1_take_45 : decode cX1_take 45 = .ok (.getfield 22, 3) := by decide +kernel
theorem dX1_take_48 : decode cX1_take 48 = .ok (.arraylength, 1) := by decide +kernel
theorem dX1_take_49 : decode cX1_take 49 = .ok (.invokestatic 31, 3) := by decide +kernel
theorem dX1_take_52 : decode cX1_take 52 = .ok (.aload_n 1, 1) := by decide +kernel
theorem dX1_take_53 : decode cX1_take 53 = .ok (.getfield 25, 3) := by decide +kernel
theorem dX1_take_56 : decode cX1_take 56 = .ok (.iconst 0, 1) := by decide +kernel
theorem dX1_take_57 : decode cX1_take 57 = .ok (.aload_n 0, 1) := by decide +kernel
theorem dX1_take_58 : decode cX1_take 58 = .ok (.getfield 25, 3) := by decide +kernel
theorem dX1_take_61 : decode cX1_take 61 = .ok (.iconst 0, 1) := by decide +kernel
theorem dX1_take_62 : decode cX1_take 62 = .ok (.aload_n 0, 1) := by decide +kernel
theorem dX1_take_63 : decode cX1_take 63 = .ok (.getfield 25, 3) := by decide +kernel
theorem dX1_take_66 : decode cX1_take 66 = .ok (.arraylength, 1) := by decide +kernel
theorem dX1_take_67 : decode cX1_take 67 = .ok (.invokestatic 31, 3) := by decide +kernel
theorem dX1_take_70 : decode cX1_take 70 = .ok (.aload_n 1, 1) := by decide +kernel
theorem dX1_take_71 : decode cX1_take 71 = .ok (.getfield 28, 3) := by decide +kernel
theorem dX1_take_74 : decode cX1_take 74 = .ok (.iconst 0, 1) := by decide +kernel
theorem dX1_take_75 : decode cX1_take 75 = .ok (.aload_n 0, 1) := by decide +kernel
theorem dX1_take_76 : decode cX1_take 76 = .ok (.getfield 28, 3) := by decide +kernel
theorem dX1_take_79 : decode cX1_take 79 = .ok (.iconst 0, 1) := by decide +kernel
theorem dX1_take_80 : decode cX1_take 80 = .ok (.aload_n 0, 1) := by decide +kernel
theorem dX1_take_81 : decode cX1_take 81 = .ok (.getfield 28, 3) := by decide +kernel
theorem dX1_take_84 : decode cX1_take 84 = .ok (.arraylength, 1) := by decide +kernel
theorem dX1_take_85 : decode cX1_take 85 = .ok (.invokestatic 31, 3) := by decide +kernel
theorem dX1_take_88 : decode cX1_take 88 = .ok (.return_, 1) := by decide +kernel
theorem dX1_hasMile_0 : decode cX1_hasMile 0 = .ok (.iload_n 1, 1) := by decide +kernel
theorem dX1_hasMile_1 : decode cX1_hasMile 1 = .ok (.ifCond .lt 15, 3) := by decide +kernel
theorem dX1_hasMile_4 : decode cX1_hasMile 4 = .ok (.iload_n 1, 1) := by decide +kernel
theorem dX1_hasMile_5 : decode cX1_hasMile 5 = .ok (.aload_n 0, 1) := by decide +kernel
theorem dX1_hasMile_6 : decode cX1_hasMile 6 = .ok (.getfield 9, 3) := by decide +kernel
theorem dX1_hasMile_9 : decode cX1_hasMile 9 = .ok (.if_icmp .ge 7, 3) := by decide +kernel
theorem dX1_hasMile_12 : decode cX1_hasMile 12 = .ok (.iconst 1, 1) := by decide +kernel
theorem dX1_hasMile_13 : decode cX1_hasMile 13 = .ok (.goto 4, 3) := by decide +kernel
theorem dX1_hasMile_16 : decode cX1_hasMile 16 = .ok (.iconst 0, 1) := by decide +kernel
theorem dX1_hasMile_17 : decode cX1_hasMile 17 = .ok (.ireturn, 1) := by decide +kernel
theorem dX1_hasShip_0 : decode cX1_hasShip 0 = .ok (.iload_n 1, 1) := by decide +kernel
theorem dX1_hasShip_1 : decode cX1_hasShip 1 = .ok (.ifCond .lt 15, 3) := by decide +kernel
theorem dX1_hasShip_4 : decode cX1_hasShip 4 = .ok (.iload_n 1, 1) := by decide +kernel
theorem dX1_hasShip_5 : decode cX1_hasShip 5 = .ok (.aload_n 0, 1) := by decide +kernel
theorem dX1_hasShip_6 : decode cX1_hasShip 6 = .ok (.getfield 15, 3) := by decide +kernel
theorem dX1_hasShip_9 : decode cX1_hasShip 9 = .ok (.if_icmp .ge 7, 3) := by decide +kernel
theorem dX1_hasShip_12 : decode cX1_hasShip 12 = .ok (.iconst 1, 1) := by decide +kernel
theorem dX1_hasShip_13 : decode cX1_hasShip 13 = .ok (.goto 4, 3) := by decide +kernel
theorem dX1_hasShip_16 : decode cX1_hasShip 16 = .ok (.iconst 0, 1) := by decide +kernel
theorem dX1_hasShip_17 : decode cX1_hasShip 17 = .ok (.ireturn, 1) := by decide +kernel
theorem dX1_markOf_0 : decode cX1_markOf 0 = .ok (.aload_n 0, 1) := by decide +kernel
theorem dX1_markOf_1 : decode cX1_markOf 1 = .ok (.getfield 25, 3) := by decide +kernel
theorem dX1_markOf_4 : decode cX1_markOf 4 = .ok (.iload_n 1, 1) := by decide +kernel
theorem dX1_markOf_5 : decode cX1_markOf 5 = .ok (.bipush 6, 2) := by decide +kernel
theorem dX1_markOf_7 : decode cX1_markOf 7 = .ok (.imul, 1) := by decide +kernel
theorem dX1_markOf_8 : decode cX1_markOf 8 = .ok (.iload_n 2, 1) := by decide +kernel
theorem dX1_markOf_9 : decode cX1_markOf 9 = .ok (.iadd, 1) := by decide +kernel
theorem dX1_markOf_10 : decode cX1_markOf 10 = .ok (.iaload, 1) := by decide +kernel
theorem dX1_markOf_11 : decode cX1_markOf 11 = .ok (.ireturn, 1) := by decide +kernel
theorem dX1_mark_0 : decode cX1_mark 0 = .ok (.aload_n 0, 1) := by decide +kernel
theorem dX1_mark_1 : decode cX1_mark 1 = .ok (.iload_n 1, 1) := by decide +kernel
theorem dX1_mark_2 : decode cX1_mark 2 = .ok (.iload_n 2, 1) := by decide +kernel
theorem dX1_mark_3 : decode cX1_mark 3 = .ok (.invokevirtual 37, 3) := by decide +kernel
theorem dX1_mark_6 : decode cX1_mark 6 = .ok (.istore 4, 2) := by decide +kernel
theorem dX1_mark_8 : decode cX1_mark 8 = .ok (.aload_n 0, 1) := by decide +kernel
theorem dX1_mark_9 : decode cX1_mark 9 = .ok (.getfield 25, 3) := by decide +kernel
theorem dX1_mark_12 : decode cX1_mark 12 = .ok (.iload_n 1, 1) := by decide +kernel
theorem dX1_mark_13 : decode cX1_mark 13 = .ok (.bipush 6, 2) := by decide +kernel
theorem dX1_mark_15 : decode cX1_mark 15 = .ok (.imul, 1) := by decide +kernel
theorem dX1_mark_16 : decode cX1_mark 16 = .ok (.iload_n 2, 1) := by decide +kernel
theorem dX1_mark_17 : decode cX1_mark 17 = .ok (.iadd, 1) := by decide +kernel
theorem dX1_mark_18 : decode cX1_mark 18 = .ok (.iload_n 3, 1) := by decide +kernel
theorem dX1_mark_19 : decode cX1_mark 19 = .ok (.iastore, 1) := by decide +kernel
theorem dX1_mark_20 : decode cX1_mark 20 = .ok (.iload 4, 2) := by decide +kernel
theorem dX1_mark_22 : decode cX1_mark 22 = .ok (.ireturn, 1) := by decide +kernel
theorem dX1_hullOf_0 : decode cX1_hullOf 0 = .ok (.aload_n 0, 1) := by decide +kernel
theorem dX1_hullOf_1 : decode cX1_hullOf 1 = .ok (.getfield 28, 3) := by decide +kernel
theorem dX1_hullOf_4 : decode cX1_hullOf 4 = .ok (.iload_n 1, 1) := by decide +kernel
theorem dX1_hullOf_5 : decode cX1_hullOf 5 = .ok (.iconst 3, 1) := by decide +kernel
theorem dX1_hullOf_6 : decode cX1_hullOf 6 = .ok (.imul, 1) := by decide +kernel
theorem dX1_hullOf_7 : decode cX1_hullOf 7 = .ok (.iload_n 2, 1) := by decide +kernel
theorem dX1_hullOf_8 : decode cX1_hullOf 8 = .ok (.iadd, 1) := by decide +kernel
theorem dX1_hullOf_9 : decode cX1_hullOf 9 = .ok (.iaload, 1) := by decide +kernel
theorem dX1_hullOf_10 : decode cX1_hullOf 10 = .ok (.ireturn, 1) := by decide +kernel
theorem dX1_addMile_0 : decode cX1_addMile 0 = .ok (.aload_n 0, 1) := by decide +kernel
theorem dX1_addMile_1 : decode cX1_addMile 1 = .ok (.getfield 9, 3) := by decide +kernel
theorem dX1_addMile_4 : decode cX1_addMile 4 = .ok (.bipush 16, 2) := by decide +kernel
theorem dX1_addMile_6 : decode cX1_addMile 6 = .ok (.if_icmp .lt 6, 3) := by decide +kernel
theorem dX1_addMile_9 : decode cX1_addMile 9 = .ok (.bipush (-3), 2) := by decide +kernel
theorem dX1_addMile_11 : decode cX1_addMile 11 = .ok (.ireturn, 1) := by decide +kernel
theorem dX1_addMile_12 : decode cX1_addMile 12 = .ok (.aload_n 0, 1) := by decide +kernel
theorem dX1_addMile_13 : decode cX1_addMile 13 = .ok (.aload_n 0, 1) := by decide +kernel
theorem dX1_addMile_14 : decode cX1_addMile 14 = .ok (.getfield 9, 3) := by decide +kernel
theorem dX1_addMile_17 : decode cX1_addMile 17 = .ok (.iconst 0, 1) := by decide +kernel
theorem dX1_addMile_18 : decode cX1_addMile 18 = .ok (.iload_n 1, 1) := by decide +kernel
theorem dX1_addMile_19 : decode cX1_addMile 19 = .ok (.invokevirtual 41, 3) := by decide +kernel
theorem dX1_addMile_22 : decode cX1_addMile 22 = .ok (.pop, 1) := by decide +kernel
theorem dX1_addMile_23 : decode cX1_addMile 23 = .ok (.aload_n 0, 1) := by decide +kernel
theorem dX1_addMile_24 : decode cX1_addMile 24 = .ok (.aload_n 0, 1) := by decide +kernel
theorem dX1_addMile_25 : decode cX1_addMile 25 = .ok (.getfield 9, 3) := by decide +kernel
theorem dX1_addMile_28 : decode cX1_addMile 28 = .ok (.iconst 1, 1) := by decide +kernel
theorem dX1_addMile_29 : decode cX1_addMile 29 = .ok (.iload_n 2, 1) := by decide +kernel
theorem dX1_addMile_30 : decode cX1_addMile 30 = .ok (.invokevirtual 41, 3) := by decide +kernel
theorem dX1_addMile_33 : decode cX1_addMile 33 = .ok (.pop, 1) := by decide +kernel
theorem dX1_addMile_34 : decode cX1_addMile 34 = .ok (.aload_n 0, 1) := by decide +kernel
theorem dX1_addMile_35 : decode cX1_addMile 35 = .ok (.aload_n 0, 1) := by decide +kernel
theorem dX1_addMile_36 : decode cX1_addMile 36 = .ok (.getfield 9, 3) := by decide +kernel
theorem dX1_addMile_39 : decode cX1_addMile 39 = .ok (.iconst 2, 1) := by decide +kernel
theorem dX1_addMile_40 : decode cX1_addMile 40 = .ok (.bipush 9, 2) := by decide +kernel
theorem dX1_addMile_42 : decode cX1_addMile 42 = .ok (.invokevirtual 41, 3) := by decide +kernel
theorem dX1_addMile_45 : decode cX1_addMile 45 = .ok (.pop, 1) := by decide +kernel
theorem dX1_addMile_46 : decode cX1_addMile 46 = .ok (.aload_n 0, 1) := by decide +kernel
theorem dX1_addMile_47 : decode cX1_addMile 47 = .ok (.aload_n 0, 1) := by decide +kernel
theorem dX1_addMile_48 : decode cX1_addMile 48 = .ok (.getfield 9, 3) := by decide +kernel
theorem dX1_addMile_51 : decode cX1_addMile 51 = .ok (.iconst 3, 1) := by decide +kernel
theorem dX1_addMile_52 : decode cX1_addMile 52 = .ok (.iconst 0, 1) := by decide +kernel
theorem dX1_addMile_53 : decode cX1_addMile 53 = .ok (.invokevirtual 41, 3) := by decide +kernel
theorem dX1_addMile_56 : decode cX1_addMile 56 = .ok (.pop, 1) := by decide +kernel
theorem dX1_addMile_57 : decode cX1_addMile 57 = .ok (.aload_n 0, 1) := by decide +kernel
theorem dX1_addMile_58 : decode cX1_addMile 58 = .ok (.aload_n 0, 1) := by decide +kernel
theorem dX1_addMile_59 : decode cX1_addMile 59 = .ok (.getfield 9, 3) := by decide +kernel
theorem dX1_addMile_62 : decode cX1_addMile 62 = .ok (.iconst 4, 1) := by decide +kernel
theorem dX1_addMile_63 : decode cX1_addMile 63 = .ok (.iconst 0, 1) := by decide +kernel
theorem dX1_addMile_64 : decode cX1_addMile 64 = .ok (.invokevirtual 41, 3) := by decide +kernel
theorem dX1_addMile_67 : decode cX1_addMile 67 = .ok (.pop, 1) := by decide +kernel
theorem dX1_addMile_68 : decode cX1_addMile 68 = .ok (.aload_n 0, 1) := by decide +kernel
theorem dX1_addMile_69 : decode cX1_addMile 69 = .ok (.aload_n 0, 1) := by decide +kernel
theorem dX1_addMile_70 : decode cX1_addMile 70 = .ok (.getfield 9, 3) := by decide +kernel
theorem dX1_addMile_73 : decode cX1_addMile 73 = .ok (.iconst 5, 1) := by decide +kernel
theorem dX1_addMile_74 : decode cX1_addMile 74 = .ok (.bipush 8, 2) := by decide +kernel
theorem dX1_addMile_76 : decode cX1_addMile 76 = .ok (.invokevirtual 41, 3) := by decide +kernel
theorem dX1_addMile_79 : decode cX1_addMile 79 = .ok (.pop, 1) := by decide +kernel
theorem dX1_addMile_80 : decode cX1_addMile 80 = .ok (.aload_n 0, 1) := by decide +kernel
theorem dX1_addMile_81 : decode cX1_addMile 81 = .ok (.dup, 1) := by decide +kernel
theorem dX1_addMile_82 : decode cX1_addMile 82 = .ok (.getfield 9, 3) := by decide +kernel
theorem dX1_addMile_85 : decode cX1_addMile 85 = .ok (.iconst 1, 1) := by decide +kernel
theorem dX1_addMile_86 : decode cX1_addMile 86 = .ok (.iadd, 1) := by decide +kernel
theorem dX1_addMile_87 : decode cX1_addMile 87 = .ok (.putfield 9, 3) := by decide +kernel
theorem dX1_addMile_90 : decode cX1_addMile 90 = .ok (.aload_n 0, 1) := by decide +kernel
theorem dX1_addMile_91 : decode cX1_addMile 91 = .ok (.getfield 9, 3) := by decide +kernel
theorem dX1_addMile_94 : decode cX1_addMile 94 = .ok (.iconst 1, 1) := by decide +kernel
theorem dX1_addMile_95 : decode cX1_addMile 95 = .ok (.isub, 1) := by decide +kernel
theorem dX1_addMile_96 : decode cX1_addMile 96 = .ok (.ireturn, 1) := by decide +kernel
theorem dX1_takeMiles_0 : decode cX1_takeMiles 0 = .ok (.aload_n 0, 1) := by decide +kernel
theorem dX1_takeMiles_1 : decode cX1_takeMiles 1 = .ok (.iload_n 2, 1) := by decide +kernel
theorem dX1_takeMiles_2 : decode cX1_takeMiles 2 = .ok (.bipush 8, 2) := by decide +kernel
theorem dX1_takeMiles_4 : decode cX1_takeMiles 4 = .ok (.invokestatic 45, 3) := by decide +kernel
theorem dX1_takeMiles_7 : decode cX1_takeMiles 7 = .ok (.putfield 9, 3) := by decide +kernel
theorem dX1_takeMiles_10 : decode cX1_takeMiles 10 = .ok (.aload_n 1, 1) := by decide +kernel
theorem dX1_takeMiles_11 : decode cX1_takeMiles 11 = .ok (.iconst 0, 1) := by decide +kernel
theorem dX1_takeMiles_12 : decode cX1_takeMiles 12 = .ok (.aload_n 0, 1) := by decide +kernel
theorem dX1_takeMiles_13 : decode cX1_takeMiles 13 = .ok (.getfield 25, 3) := by decide +kernel
theorem dX1_takeMiles_16 : decode cX1_takeMiles 16 = .ok (.iconst 0, 1) := by decide +kernel
theorem dX1_takeMiles_17 : decode cX1_takeMiles 17 = .ok (.aload_n 0, 1) := by decide +kernel
theorem dX1_takeMiles_18 : decode cX1_takeMiles 18 = .ok (.getfield 9, 3) := by decide +kernel
theorem dX1_takeMiles_21 : decode cX1_takeMiles 21 = .ok (.bipush 6, 2) := by decide +kernel
theorem dX1_takeMiles_23 : decode cX1_takeMiles 23 = .ok (.imul, 1) := by decide +kernel
theorem dX1_takeMiles_24 : decode cX1_takeMiles 24 = .ok (.invokestatic 31, 3) := by decide +kernel
theorem dX1_takeMiles_27 : decode cX1_takeMiles 27 = .ok (.return_, 1) := by decide +kernel
theorem dX1_addShip_0 : decode cX1_addShip 0 = .ok (.aload_n 0, 1) := by decide +kernel
theorem dX1_addShip_1 : decode cX1_addShip 1 = .ok (.getfield 15, 3) := by decide +kernel
theorem dX1_addShip_4 : decode cX1_addShip 4 = .ok (.bipush 6, 2) := by decide +kernel
theorem dX1_addShip_6 : decode cX1_addShip 6 = .ok (.if_icmp .lt 6, 3) := by decide +kernel
theorem dX1_addShip_9 : decode cX1_addShip 9 = .ok (.bipush (-3), 2) := by decide +kernel
theorem dX1_addShip_11 : decode cX1_addShip 11 = .ok (.ireturn, 1) := by decide +kernel
theorem dX1_addShip_12 : decode cX1_addShip 12 = .ok (.aload_n 0, 1) := by decide +kernel
theorem dX1_addShip_13 : decode cX1_addShip 13 = .ok (.getfield 28, 3) := by decide +kernel
theorem dX1_addShip_16 : decode cX1_addShip 16 = .ok (.aload_n 0, 1) := by decide +kernel
theorem dX1_addShip_17 : decode cX1_addShip 17 = .ok (.getfield 15, 3) := by decide +kernel
theorem dX1_addShip_20 : decode cX1_addShip 20 = .ok (.iconst 3, 1) := by decide +kernel
theorem dX1_addShip_21 : decode cX1_addShip 21 = .ok (.imul, 1) := by decide +kernel
theorem dX1_addShip_22 : decode cX1_addShip 22 = .ok (.iconst 0, 1) := by decide +kernel
theorem dX1_addShip_23 : decode cX1_addShip 23 = .ok (.iadd, 1) := by decide +kernel
theorem dX1_addShip_24 : decode cX1_addShip 24 = .ok (.iload_n 1, 1) := by decide +kernel
theorem dX1_addShip_25 : decode cX1_addShip 25 = .ok (.iastore, 1) := by decide +kernel
theorem dX1_addShip_26 : decode cX1_addShip 26 = .ok (.aload_n 0, 1) := by decide +kernel
theorem dX1_addShip_27 : decode cX1_addShip 27 = .ok (.getfield 28, 3) := by decide +kernel
theorem dX1_addShip_30 : decode cX1_addShip 30 = .ok (.aload_n 0, 1) := by decide +kernel
theorem dX1_addShip_31 : decode cX1_addShip 31 = .ok (.getfield 15, 3) := by decide +kernel
theorem dX1_addShip_34 : decode cX1_addShip 34 = .ok (.iconst 3, 1) := by decide +kernel
theorem dX1_addShip_35 : decode cX1_addShip 35 = .ok (.imul, 1) := by decide +kernel
theorem dX1_addShip_36 : decode cX1_addShip 36 = .ok (.iconst 1, 1) := by decide +kernel
theorem dX1_addShip_37 : decode cX1_addShip 37 = .ok (.iadd, 1) := by decide +kernel
theorem dX1_addShip_38 : decode cX1_addShip 38 = .ok (.iload_n 2, 1) := by decide +kernel
theorem dX1_addShip_39 : decode cX1_addShip 39 = .ok (.iastore, 1) := by decide +kernel
theorem dX1_addShip_40 : decode cX1_addShip 40 = .ok (.aload_n 0, 1) := by decide +kernel
theorem dX1_addShip_41 : decode cX1_addShip 41 = .ok (.getfield 28, 3) := by decide +kernel
theorem dX1_addShip_44 : decode cX1_addShip 44 = .ok (.aload_n 0, 1) := by decide +kernel
theorem dX1_addShip_45 : decode cX1_addShip 45 = .ok (.getfield 15, 3) := by decide +kernel
theorem dX1_addShip_48 : decode cX1_addShip 48 = .ok (.iconst 3, 1) := by decide +kernel
theorem dX1_addShip_49 : decode cX1_addShip 49 = .ok (.imul, 1) := by decide +kernel
theorem dX1_addShip_50 : decode cX1_addShip 50 = .ok (.iconst 2, 1) := by decide +kernel
theorem dX1_addShip_51 : decode cX1_addShip 51 = .ok (.iadd, 1) := by decide +kernel
theorem dX1_addShip_52 : decode cX1_addShip 52 = .ok (.iload_n 3, 1) := by decide +kernel
theorem dX1_addShip_53 : decode cX1_addShip 53 = .ok (.iastore, 1) := by decide +kernel
theorem dX1_addShip_54 : decode cX1_addShip 54 = .ok (.aload_n 0, 1) := by decide +kernel
theorem dX1_addShip_55 : decode cX1_addShip 55 = .ok (.dup, 1) := by decide +kernel
theorem dX1_addShip_56 : decode cX1_addShip 56 = .ok (.getfield 15, 3) := by decide +kernel
theorem dX1_addShip_59 : decode cX1_addShip 59 = .ok (.iconst 1, 1) := by decide +kernel
theorem dX1_addShip_60 : decode cX1_addShip 60 = .ok (.iadd, 1) := by decide +kernel
theorem dX1_addShip_61 : decode cX1_addShip 61 = .ok (.putfield 15, 3) := by decide +kernel
theorem dX1_addShip_64 : decode cX1_addShip 64 = .ok (.aload_n 0, 1) := by decide +kernel
theorem dX1_addShip_65 : decode cX1_addShip 65 = .ok (.getfield 15, 3) := by decide +kernel
theorem dX1_addShip_68 : decode cX1_addShip 68 = .ok (.iconst 1, 1) := by decide +kernel
theorem dX1_addShip_69 : decode cX1_addShip 69 = .ok (.isub, 1) := by decide +kernel
theorem dX1_addShip_70 : decode cX1_addShip 70 = .ok (.ireturn, 1) := by decide +kernel
theorem dX1_widths_0 : decode cX1_widths 0 = .ok (.iconst 0, 1) := by decide +kernel
theorem dX1_widths_1 : decode cX1_widths 1 = .ok (.istore_n 1, 1) := by decide +kernel
theorem dX1_widths_2 : decode cX1_widths 2 = .ok (.iconst 0, 1) := by decide +kernel
theorem dX1_widths_3 : decode cX1_widths 3 = .ok (.istore_n 2, 1) := by decide +kernel
theorem dX1_widths_4 : decode cX1_widths 4 = .ok (.iload_n 2, 1) := by decide +kernel
theorem dX1_widths_5 : decode cX1_widths 5 = .ok (.aload_n 0, 1) := by decide +kernel
theorem dX1_widths_6 : decode cX1_widths 6 = .ok (.getfield 9, 3) := by decide +kernel
theorem dX1_widths_9 : decode cX1_widths 9 = .ok (.if_icmp .ge 18, 3) := by decide +kernel
theorem dX1_widths_12 : decode cX1_widths 12 = .ok (.iload_n 1, 1) := by decide +kernel
theorem dX1_widths_13 : decode cX1_widths 13 = .ok (.aload_n 0, 1) := by decide +kernel
theorem dX1_widths_14 : decode cX1_widths 14 = .ok (.iload_n 2, 1) := by decide +kernel
theorem dX1_widths_15 : decode cX1_widths 15 = .ok (.iconst 1, 1) := by decide +kernel
theorem dX1_widths_16 : decode cX1_widths 16 = .ok (.invokevirtual 37, 3) := by decide +kernel
theorem dX1_widths_19 : decode cX1_widths 19 = .ok (.iadd, 1) := by decide +kernel
theorem dX1_widths_20 : decode cX1_widths 20 = .ok (.istore_n 1, 1) := by decide +kernel
theorem dX1_widths_21 : decode cX1_widths 21 = .ok (.iinc 2 1, 3) := by decide +kernel
theorem dX1_widths_24 : decode cX1_widths 24 = .ok (.goto (-20), 3) := by decide +kernel
theorem dX1_widths_27 : decode cX1_widths 27 = .ok (.iload_n 1, 1) := by decide +kernel
theorem dX1_widths_28 : decode cX1_widths 28 = .ok (.ireturn, 1) := by decide +kernel
theorem dX1_tideAt_0 : decode cX1_tideAt 0 = .ok (.aload_n 0, 1) := by decide +kernel
theorem dX1_tideAt_1 : decode cX1_tideAt 1 = .ok (.aload_n 0, 1) := by decide +kernel
theorem dX1_tideAt_2 : decode cX1_tideAt 2 = .ok (.getfield 22, 3) := by decide +kernel
theorem dX1_tideAt_5 : decode cX1_tideAt 5 = .ok (.iconst 0, 1) := by decide +kernel
theorem dX1_tideAt_6 : decode cX1_tideAt 6 = .ok (.iaload, 1) := by decide +kernel
theorem dX1_tideAt_7 : decode cX1_tideAt 7 = .ok (.iload_n 1, 1) := by decide +kernel
theorem dX1_tideAt_8 : decode cX1_tideAt 8 = .ok (.invokevirtual 50, 3) := by decide +kernel
theorem dX1_tideAt_11 : decode cX1_tideAt 11 = .ok (.ireturn, 1) := by decide +kernel
theorem dX1_tideBy_0 : decode cX1_tideBy 0 = .ok (.iload_n 2, 1) := by decide +kernel
theorem dX1_tideBy_1 : decode cX1_tideBy 1 = .ok (.iload_n 1, 1) := by decide +kernel
theorem dX1_tideBy_2 : decode cX1_tideBy 2 = .ok (.isub, 1) := by decide +kernel
theorem dX1_tideBy_3 : decode cX1_tideBy 3 = .ok (.sipush 1440, 3) := by decide +kernel
theorem dX1_tideBy_6 : decode cX1_tideBy 6 = .ok (.invokestatic 53, 3) := by decide +kernel
theorem dX1_tideBy_9 : decode cX1_tideBy 9 = .ok (.istore_n 3, 1) := by decide +kernel
theorem dX1_tideBy_10 : decode cX1_tideBy 10 = .ok (.aload_n 0, 1) := by decide +kernel
theorem dX1_tideBy_11 : decode cX1_tideBy 11 = .ok (.getfield 18, 3) := by decide +kernel
theorem dX1_tideBy_14 : decode cX1_tideBy 14 = .ok (.iload_n 3, 1) := by decide +kernel
theorem dX1_tideBy_15 : decode cX1_tideBy 15 = .ok (.bipush 60, 2) := by decide +kernel
theorem dX1_tideBy_17 : decode cX1_tideBy 17 = .ok (.idiv, 1) := by decide +kernel
theorem dX1_tideBy_18 : decode cX1_tideBy 18 = .ok (.iaload, 1) := by decide +kernel
theorem dX1_tideBy_19 : decode cX1_tideBy 19 = .ok (.istore 4, 2) := by decide +kernel
theorem dX1_tideBy_21 : decode cX1_tideBy 21 = .ok (.aload_n 0, 1) := by decide +kernel
theorem dX1_tideBy_22 : decode cX1_tideBy 22 = .ok (.getfield 18, 3) := by decide +kernel
theorem dX1_tideBy_25 : decode cX1_tideBy 25 = .ok (.iload_n 3, 1) := by decide +kernel
theorem dX1_tideBy_26 : decode cX1_tideBy 26 = .ok (.bipush 60, 2) := by decide +kernel
theorem dX1_tideBy_28 : decode cX1_tideBy 28 = .ok (.idiv, 1) := by decide +kernel
theorem dX1_tideBy_29 : decode cX1_tideBy 29 = .ok (.iconst 1, 1) := by decide +kernel
theorem dX1_tideBy_30 : decode cX1_tideBy 30 = .ok (.iadd, 1) := by decide +kernel
theorem dX1_tideBy_31 : decode cX1_tideBy 31 = .ok (.bipush 24, 2) := by decide +kernel
theorem dX1_tideBy_33 : decode cX1_tideBy 33 = .ok (.irem, 1) := by decide +kernel
theorem dX1_tideBy_34 : decode cX1_tideBy 34 = .ok (.iaload, 1) := by decide +kernel
theorem dX1_tideBy_35 : decode cX1_tideBy 35 = .ok (.istore 5, 2) := by decide +kernel
theorem dX1_tideBy_37 : decode cX1_tideBy 37 = .ok (.iload 4, 2) := by decide +kernel
theorem dX1_tideBy_39 : decode cX1_tideBy 39 = .ok (.iload 5, 2) := by decide +kernel
theorem dX1_tideBy_41 : decode cX1_tideBy 41 = .ok (.iload 4, 2) := by decide +kernel
theorem dX1_tideBy_43 : decode cX1_tideBy 43 = .ok (.isub, 1) := by decide +kernel
theorem dX1_tideBy_44 : decode cX1_tideBy 44 = .ok (.iload_n 3, 1) := by decide +kernel
theorem dX1_tideBy_45 : decode cX1_tideBy 45 = .ok (.bipush 60, 2) := by decide +kernel
theorem dX1_tideBy_47 : decode cX1_tideBy 47 = .ok (.irem, 1) := by decide +kernel
theorem dX1_tideBy_48 : decode cX1_tideBy 48 = .ok (.imul, 1) := by decide +kernel
theorem dX1_tideBy_49 : decode cX1_tideBy 49 = .ok (.bipush 60, 2) := by decide +kernel
theorem dX1_tideBy_51 : decode cX1_tideBy 51 = .ok (.idiv, 1) := by decide +kernel
theorem dX1_tideBy_52 : decode cX1_tideBy 52 = .ok (.iadd, 1) := by decide +kernel
theorem dX1_tideBy_53 : decode cX1_tideBy 53 = .ok (.ireturn, 1) := by decide +kernel
theorem dX1_levelAt_0 : decode cX1_levelAt 0 = .ok (.iload_n 1, 1) := by decide +kernel
theorem dX1_levelAt_1 : decode cX1_levelAt 1 = .ok (.bipush 6, 2) := by decide +kernel
theorem dX1_levelAt_3 : decode cX1_levelAt 3 = .ok (.imul, 1) := by decide +kernel
theorem dX1_levelAt_4 : decode cX1_levelAt 4 = .ok (.istore 4, 2) := by decide +kernel
theorem dX1_levelAt_6 : decode cX1_levelAt 6 = .ok (.aload_n 0, 1) := by decide +kernel
theorem dX1_levelAt_7 : decode cX1_levelAt 7 = .ok (.getfield 25, 3) := by decide +kernel
theorem dX1_levelAt_10 : decode cX1_levelAt 10 = .ok (.iload 4, 2) := by decide +kernel
theorem dX1_levelAt_12 : decode cX1_levelAt 12 = .ok (.iconst 0, 1) := by decide +kernel
theorem dX1_levelAt_13 : decode cX1_levelAt 13 = .ok (.iadd, 1) := by decide +kernel
theorem dX1_levelAt_14 : decode cX1_levelAt 14 = .ok (.iaload, 1) := by decide +kernel
theorem dX1_levelAt_15 : decode cX1_levelAt 15 = .ok (.aload_n 0, 1) := by decide +kernel
theorem dX1_levelAt_16 : decode cX1_levelAt 16 = .ok (.getfield 25, 3) := by decide +kernel
theorem dX1_levelAt_19 : decode cX1_levelAt 19 = .ok (.iload 4, 2) := by decide +kernel
theorem dX1_levelAt_21 : decode cX1_levelAt 21 = .ok (.iconst 3, 1) := by decide +kernel
theorem dX1_levelAt_22 : decode cX1_levelAt 22 = .ok (.iadd, 1) := by decide +kernel
theorem dX1_levelAt_23 : decode cX1_levelAt 23 = .ok (.iaload, 1) := by decide +kernel
theorem dX1_levelAt_24 : decode cX1_levelAt 24 = .ok (.aload_n 0, 1) := by decide +kernel
theorem dX1_levelAt_25 : decode cX1_levelAt 25 = .ok (.getfield 22, 3) := by decide +kernel
theorem dX1_levelAt_28 : decode cX1_levelAt 28 = .ok (.iconst 2, 1) := by decide +kernel
theorem dX1_levelAt_29 : decode cX1_levelAt 29 = .ok (.iaload, 1) := by decide +kernel
theorem dX1_levelAt_30 : decode cX1_levelAt 30 = .ok (.imul, 1) := by decide +kernel
theorem dX1_levelAt_31 : decode cX1_levelAt 31 = .ok (.bipush 10, 2) := by decide +kernel
theorem dX1_levelAt_33 : decode cX1_levelAt 33 = .ok (.idiv, 1) := by decide +kernel
theorem dX1_levelAt_34 : decode cX1_levelAt 34 = .ok (.iadd, 1) := by decide +kernel
theorem dX1_levelAt_35 : decode cX1_levelAt 35 = .ok (.iload_n 2, 1) := by decide +kernel
theorem dX1_levelAt_36 : decode cX1_levelAt 36 = .ok (.iadd, 1) := by decide +kernel
theorem dX1_levelAt_37 : decode cX1_levelAt 37 = .ok (.iconst 2, 1) := by decide +kernel
theorem dX1_levelAt_38 : decode cX1_levelAt 38 = .ok (.iload_n 3, 1) := by decide +kernel
theorem dX1_levelAt_39 : decode cX1_levelAt 39 = .ok (.imul, 1) := by decide +kernel
theorem dX1_levelAt_40 : decode cX1_levelAt 40 = .ok (.isub, 1) := by decide +kernel
theorem dX1_levelAt_41 : decode cX1_levelAt 41 = .ok (.ireturn, 1) := by decide +kernel
theorem dX2_init_0 : decode cX2_init 0 = .ok (.aload_n 0, 1) := by decide +kernel
theorem dX2_init_1 : decode cX2_init 1 = .ok (.invokespecial 3, 3) := by decide +kernel
theorem dX2_init_4 : decode cX2_init 4 = .ok (.aload_n 0, 1) := by decide +kernel
theorem dX2_init_5 : decode cX2_init 5 = .ok (.bipush 24, 2) := by decide +kernel
theorem dX2_init_7 : decode cX2_init 7 = .ok (.newarray .int, 2) := by decide +kernel
theorem dX2_init_9 : decode cX2_init 9 = .ok (.putfield 9, 3) := by decide +kernel
theorem dX2_init_12 : decode cX2_init 12 = .ok (.aload_n 0, 1) := by decide +kernel
theorem dX2_init_13 : decode cX2_init 13 = .ok (.iconst (-1), 1) := by decide +kernel
theorem dX2_init_14 : decode cX2_init 14 = .ok (.putfield 15, 3) := by decide +kernel
theorem dX2_init_17 : decode cX2_init 17 = .ok (.aload_n 0, 1) := by decide +kernel
theorem dX2_init_18 : decode cX2_init 18 = .ok (.bipush 100, 2) := by decide +kernel
theorem dX2_init_20 : decode cX2_init 20 = .ok (.bipush 38, 2) := by decide +kernel
theorem dX2_init_22 : decode cX2_init 22 = .ok (.multianewarray 19 2, 4) := by decide +kernel
theorem dX2_init_26 : decode cX2_init 26 = .ok (.putfield 21, 3) := by decide +kernel
theorem dX2_init_29 : decode cX2_init 29 = .ok (.aload_n 0, 1) := by decide +kernel
theorem dX2_init_30 : decode cX2_init 30 = .ok (.bipush 16, 2) := by decide +kernel
theorem dX2_init_32 : decode cX2_init 32 = .ok (.getstatic 24, 3) := by decide +kernel
theorem dX2_init_35 : decode cX2_init 35 = .ok (.arraylength, 1) := by decide +kernel
theorem dX2_init_36 : decode cX2_init 36 = .ok (.imul, 1) := by decide +kernel
theorem dX2_init_37 : decode cX2_init 37 = .ok (.newarray .int, 2) := by decide +kernel
theorem dX2_init_39 : decode cX2_init 39 = .ok (.putfield 27, 3) := by decide +kernel
theorem dX2_init_42 : decode cX2_init 42 = .ok (.aload_n 0, 1) := by decide +kernel
theorem dX2_init_43 : decode cX2_init 43 = .ok (.bipush 17, 2) := by decide +kernel
theorem dX2_init_45 : decode cX2_init 45 = .ok (.bipush 38, 2) := by decide +kernel
theorem dX2_init_47 : decode cX2_init 47 = .ok (.multianewarray 19 2, 4) := by decide +kernel
theorem dX2_init_51 : decode cX2_init 51 = .ok (.putfield 30, 3) := by decide +kernel
theorem dX2_init_54 : decode cX2_init 54 = .ok (.aload_n 0, 1) := by decide +kernel
theorem dX2_init_55 : decode cX2_init 55 = .ok (.aload_n 1, 1) := by decide +kernel
theorem dX2_init_56 : decode cX2_init 56 = .ok (.putfield 33, 3) := by decide +kernel
theorem dX2_init_59 : decode cX2_init 59 = .ok (.return_, 1) := by decide +kernel
theorem dX2_begin_0 : decode cX2_begin 0 = .ok (.aload_n 0, 1) := by decide +kernel
theorem dX2_begin_1 : decode cX2_begin 1 = .ok (.invokevirtual 37, 3) := by decide +kernel
theorem dX2_begin_4 : decode cX2_begin 4 = .ok (.aload_n 0, 1) := by decide +kernel
theorem dX2_begin_5 : decode cX2_begin 5 = .ok (.aload_n 1, 1) := by decide +kernel
theorem dX2_begin_6 : decode cX2_begin 6 = .ok (.invokevirtual 40, 3) := by decide +kernel
theorem dX2_begin_9 : decode cX2_begin 9 = .ok (.return_, 1) := by decide +kernel
theorem dX2_layTide_0 : decode cX2_layTide 0 = .ok (.aload_n 0, 1) := by decide +kernel
theorem dX2_layTide_1 : decode cX2_layTide 1 = .ok (.invokevirtual 44, 3) := by decide +kernel
theorem dX2_layTide_4 : decode cX2_layTide 4 = .ok (.ifCond .eq 4, 3) := by decide +kernel
theorem dX2_layTide_7 : decode cX2_layTide 7 = .ok (.return_, 1) := by decide +kernel
theorem dX2_layTide_8 : decode cX2_layTide 8 = .ok (.aload_n 0, 1) := by decide +kernel
theorem dX2_layTide_9 : decode cX2_layTide 9 = .ok (.getfield 33, 3) := by decide +kernel
theorem dX2_layTide_12 : decode cX2_layTide 12 = .ok (.getfield 48, 3) := by decide +kernel
theorem dX2_layTide_15 : decode cX2_layTide 15 = .ok (.iconst 0, 1) := by decide +kernel
theorem dX2_layTide_16 : decode cX2_layTide 16 = .ok (.aload_n 0, 1) := by decide +kernel
theorem dX2_layTide_17 : decode cX2_layTide 17 = .ok (.getfield 9, 3) := by decide +kernel
theorem dX2_layTide_20 : decode cX2_layTide 20 = .ok (.iconst 0, 1) := by decide +kernel
theorem dX2_layTide_21 : decode cX2_layTide 21 = .ok (.bipush 24, 2) := by decide +kernel
theorem dX2_layTide_23 : decode cX2_layTide 23 = .ok (.invokestatic 53, 3) := by decide +kernel
theorem dX2_layTide_26 : decode cX2_layTide 26 = .ok (.aload_n 0, 1) := by decide +kernel
theorem dX2_layTide_27 : decode cX2_layTide 27 = .ok (.aload_n 0, 1) := by decide +kernel
theorem dX2_layTide_28 : decode cX2_layTide 28 = .ok (.getfield 33, 3) := by decide +kernel
theorem dX2_layTide_31 : decode cX2_layTide 31 = .ok (.getfield 59, 3) := by decide +kernel
theorem dX2_layTide_34 : decode cX2_layTide 34 = .ok (.iconst 0, 1) := by decide +kernel
theorem dX2_layTide_35 : decode cX2_layTide 35 = .ok (.iaload, 1) := by decide +kernel
theorem dX2_layTide_36 : decode cX2_layTide 36 = .ok (.putfield 15, 3) := by decide +kernel
theorem dX2_layTide_39 : decode cX2_layTide 39 = .ok (.iconst 0, 1) := by decide +kernel
theorem dX2_layTide_40 : decode cX2_layTide 40 = .ok (.istore_n 1, 1) := by decide +kernel
theorem dX2_layTide_41 : decode cX2_layTide 41 = .ok (.iload_n 1, 1) := by decide +kernel
theorem dX2_layTide_42 : decode cX2_layTide 42 = .ok (.bipush 100, 2) := by decide +kernel
theorem dX2_layTide_44 : decode cX2_layTide 44 = .ok (.if_icmp .ge 18, 3) := by decide +kernel
theorem dX2_layTide_47 : decode cX2_layTide 47 = .ok (.aload_n 0, 1) := by decide +kernel
theorem dX2_layTide_48 : decode cX2_layTide 48 = .ok (.getfield 21, 3) := by decide +kernel
theorem dX2_layTide_51 : decode cX2_layTide 51 = .ok (.iload_n 1, 1) := by decide +kernel
theorem dX2_layTide_52 : decode cX2_layTide 52 = .ok (.aaload, 1) := by decide +kernel
theorem dX2_layTide_53 : decode cX2_layTide 53 = .ok (.invokestatic 62, 3) := by decide +kernel
theorem dX2_layTide_56 : decode cX2_layTide 56 = .ok (.iinc 1 1, 3) := by decide +kernel
theorem dX2_layTide_59 : decode cX2_layTide 59 = .ok (.goto (-18), 3) := by decide +kernel
theorem dX2_layTide_62 : decode cX2_layTide 62 = .ok (.iconst 0, 1) := by decide +kernel
theorem dX2_layTide_63 : decode cX2_layTide 63 = .ok (.istore_n 1, 1) := by decide +kernel
theorem dX2_layTide_64 : decode cX2_layTide 64 = .ok (.iload_n 1, 1) := by decide +kernel
theorem dX2_layTide_65 : decode cX2_layTide 65 = .ok (.sipush 2400, 3) := by decide +kernel
theorem dX2_layTide_68 : decode cX2_layTide 68 = .ok (.if_icmp .ge 38, 3) := by decide +kernel
theorem dX2_layTide_71 : decode cX2_layTide 71 = .ok (.aload_n 0, 1) := by decide +kernel
theorem dX2_layTide_72 : decode cX2_layTide 72 = .ok (.getfield 33, 3) := by decide +kernel
theorem dX2_layTide_75 : decode cX2_layTide 75 = .ok (.iload_n 1, 1) := by decide +kernel
theorem dX2_layTide_76 : decode cX2_layTide 76 = .ok (.invokevirtual 66, 3) := by decide +kernel
theorem dX2_layTide_79 : decode cX2_layTide 79 = .ok (.istore_n 2, 1) := by decide +kernel
theorem dX2_layTide_80 : decode cX2_layTide 80 = .ok (.iload_n 2, 1) := by decide +kernel
theorem dX2_layTide_81 : decode cX2_layTide 81 = .ok (.iconst 0, 1) := by decide +kernel
theorem dX2_layTide_82 : decode cX2_layTide 82 = .ok (.bipush 99, 2) := by decide +kernel
theorem dX2_layTide_84 : decode cX2_layTide 84 = .ok (.invokestatic 70, 3) := by decide +kernel
theorem dX2_layTide_87 : decode cX2_layTide 87 = .ok (.ifCond .eq 13, 3) := by decide +kernel
theorem dX2_layTide_90 : decode cX2_layTide 90 = .ok (.aload_n 0, 1) := by decide +kernel
theorem dX2_layTide_91 : decode cX2_layTide 91 = .ok (.getfield 21, 3) := by decide +kernel
theorem dX2_layTide_94 : decode cX2_layTide 94 = .ok (.iload_n 2, 1) := by decide +kernel
theorem dX2_layTide_95 : decode cX2_layTide 95 = .ok (.aaload, 1) := by decide +kernel
theorem dX2_layTide_96 : decode cX2_layTide 96 = .ok (.iload_n 1, 1) := by decide +kernel
theorem dX2_layTide_97 : decode cX2_layTide 97 = .ok (.invokestatic 74, 3) := by decide +kernel
theorem dX2_layTide_100 : decode cX2_layTide 100 = .ok (.iinc 1 1, 3) := by decide +kernel
theorem dX2_layTide_103 : decode cX2_layTide 103 = .ok (.goto (-39), 3) := by decide +kernel
theorem dX2_layTide_106 : decode cX2_layTide 106 = .ok (.bipush 98, 2) := by decide +kernel
theorem dX2_layTide_108 : decode cX2_layTide 108 = .ok (.istore_n 1, 1) := by decide +kernel
theorem dX2_layTide_109 : decode cX2_layTide 109 = .ok (.iload_n 1, 1) := by decide +kernel
theorem dX2_layTide_110 : decode cX2_layTide 110 = .ok (.ifCond .lt 44, 3) := by decide +kernel
theorem dX2_layTide_113 : decode cX2_layTide 113 = .ok (.iconst 0, 1) := by decide +kernel
theorem dX2_layTide_114 : decode cX2_layTide 114 = .ok (.istore_n 2, 1) := by decide +kernel
theorem dX2_layTide_115 : decode cX2_layTide 115 = .ok (.iload_n 2, 1) := by decide +kernel
theorem dX2_layTide_116 : decode cX2_layTide 116 = .ok (.bipush 38, 2) := by decide +kernel
theorem dX2_layTide_118 : decode cX2_layTide 118 = .ok (.if_icmp .ge 30, 3) := by decide +kernel
theorem dX2_layTide_121 : decode cX2_layTide 121 = .ok (.aload_n 0, 1) := by decide +kernel
theorem dX2_layTide_122 : decode cX2_layTide 122 = .ok (.getfield 21, 3) := by decide +kernel
theorem dX2_layTide_125 : decode cX2_layTide 125 = .ok (.iload_n 1, 1) := by decide +kernel
theorem dX2_layTide_126 : decode cX2_layTide 126 = .ok (.aaload, 1) := by decide +kernel
theorem dX2_layTide_127 : decode cX2_layTide 127 = .ok (.iload_n 2, 1) := by decide +kernel
theorem dX2_layTide_128 : decode cX2_layTide 128 = .ok (.dup2, 1) := by decide +kernel
theorem dX2_layTide_129 : decode cX2_layTide 129 = .ok (.laload, 1) := by decide +kernel
theorem dX2_layTide_130 : decode cX2_layTide 130 = .ok (.aload_n 0, 1) := by decide +kernel
theorem dX2_layTide_131 : decode cX2_layTide 131 = .ok (.getfield 21, 3) := by decide +kernel
theorem dX2_layTide_134 : decode cX2_layTide 134 = .ok (.iload_n 1, 1) := by decide +kernel
theorem dX2_layTide_135 : decode cX2_layTide 135 = .ok (.iconst 1, 1) := by decide +kernel
theorem dX2_layTide_136 : decode cX2_layTide 136 = .ok (.iadd, 1) := by decide +kernel
theorem dX2_layTide_137 : decode cX2_layTide 137 = .ok (.aaload, 1) := by decide +kernel
theorem dX2_layTide_138 : decode cX2_layTide 138 = .ok (.iload_n 2, 1) := by decide +kernel
theorem dX2_layTide_139 : decode cX2_layTide 139 = .ok (.laload, 1) := by decide +kernel
theorem dX2_layTide_140 : decode cX2_layTide 140 = .ok (.lor, 1) := by decide +kernel
theorem dX2_layTide_141 : decode cX2_layTide 141 = .ok (.lastore, 1) := by decide +kernel
theorem dX2_layTide_142 : decode cX2_layTide 142 = .ok (.iinc 2 1, 3) := by decide +kernel
theorem dX2_layTide_145 : decode cX2_layTide 145 = .ok (.goto (-30), 3) := by decide +kernel
theorem dX2_layTide_148 : decode cX2_layTide 148 = .ok (.iinc 1 (-1), 3) := by decide +kernel
theorem dX2_layTide_151 : decode cX2_layTide 151 = .ok (.goto (-42), 3) := by decide +kernel
theorem dX2_layTide_154 : decode cX2_layTide 154 = .ok (.return_, 1) := by decide +kernel
theorem dX2_isLaid_0 : decode cX2_isLaid 0 = .ok (.aload_n 0, 1) := by decide +kernel
theorem dX2_isLaid_1 : decode cX2_isLaid 1 = .ok (.getfield 15, 3) := by decide +kernel
theorem dX2_isLaid_4 : decode cX2_isLaid 4 = .ok (.aload_n 0, 1) := by decide +kernel
theorem dX2_isLaid_5 : decode cX2_isLaid 5 = .ok (.getfield 33, 3) := by decide +kernel
theorem dX2_isLaid_8 : decode cX2_isLaid 8 = .ok (.getfield 59, 3) := by decide +kernel
theorem dX2_isLaid_11 : decode cX2_isLaid 11 = .ok (.iconst 0, 1) := by decide +kernel
theorem dX2_isLaid_12 : decode cX2_isLaid 12 = .ok (.iaload, 1) := by decide +kernel
theorem dX2_isLaid_13 : decode cX2_isLaid 13 = .ok (.if_icmp .ne 7, 3) := by decide +kernel
theorem dX2_isLaid_16 : decode cX2_isLaid 16 = .ok (.iconst 1, 1) := by decide +kernel
theorem dX2_isLaid_17 : decode cX2_isLaid 17 = .ok (.goto 4, 3) := by decide +kernel
theorem dX2_isLaid_20 : decode cX2_isLaid 20 = .ok (.iconst 0, 1) := by decide +kernel
theorem dX2_isLaid_21 : decode cX2_isLaid 21 = .ok (.istore_n 1, 1) := by decide +kernel
theorem dX2_isLaid_22 : decode cX2_isLaid 22 = .ok (.iconst 0, 1) := by decide +kernel
theorem dX2_isLaid_23 : decode cX2_isLaid 23 = .ok (.istore_n 2, 1) := by decide +kernel
theorem dX2_isLaid_24 : decode cX2_isLaid 24 = .ok (.iload_n 2, 1) := by decide +kernel
theorem dX2_isLaid_25 : decode cX2_isLaid 25 = .ok (.bipush 24, 2) := by decide +kernel
theorem dX2_isLaid_27 : decode cX2_isLaid 27 = .ok (.if_icmp .ge 37, 3) := by decide +kernel
theorem dX2_isLaid_30 : decode cX2_isLaid 30 = .ok (.iload_n 1, 1) := by decide +kernel
theorem dX2_isLaid_31 : decode cX2_isLaid 31 = .ok (.ifCond .eq 33, 3) := by decide +kernel
theorem dX2_isLaid_34 : decode cX2_isLaid 34 = .ok (.aload_n 0, 1) := by decide +kernel
theorem dX2_isLaid_35 : decode cX2_isLaid 35 = .ok (.getfield 9, 3) := by decide +kernel
theorem dX2_isLaid_38 : decode cX2_isLaid 38 = .ok (.iload_n 2, 1) := by decide +kernel
theorem dX2_isLaid_39 : decode cX2_isLaid 39 = .ok (.iaload, 1) := by decide +kernel
theorem dX2_isLaid_40 : decode cX2_isLaid 40 = .ok (.aload_n 0, 1) := by decide +kernel
theorem dX2_isLaid_41 : decode cX2_isLaid 41 = .ok (.getfield 33, 3) := by decide +kernel
theorem dX2_isLaid_44 : decode cX2_isLaid 44 = .ok (.getfield 48, 3) := by decide +kernel
theorem dX2_isLaid_47 : decode cX2_isLaid 47 = .ok (.iload_n 2, 1) := by decide +kernel
theorem dX2_isLaid_48 : decode cX2_isLaid 48 = .ok (.iaload, 1) := by decide +kernel
theorem dX2_isLaid_49 : decode cX2_isLaid 49 = .ok (.if_icmp .ne 7, 3) := by decide +kernel
theorem dX2_isLaid_52 : decode cX2_isLaid 52 = .ok (.iconst 1, 1) := by decide +kernel
theorem dX2_isLaid_53 : decode cX2_isLaid 53 = .ok (.goto 4, 3) := by decide +kernel
theorem dX2_isLaid_56 : decode cX2_isLaid 56 = .ok (.iconst 0, 1) := by decide +kernel
theorem dX2_isLaid_57 : decode cX2_isLaid 57 = .ok (.istore_n 1, 1) := by decide +kernel
theorem dX2_isLaid_58 : decode cX2_isLaid 58 = .ok (.iinc 2 1, 3) := by decide +kernel
theorem dX2_isLaid_61 : decode cX2_isLaid 61 = .ok (.goto (-37), 3) := by decide +kernel
theorem dX2_isLaid_64 : decode cX2_isLaid 64 = .ok (.iload_n 1, 1) := by decide +kernel
theorem dX2_isLaid_65 : decode cX2_isLaid 65 = .ok (.ireturn, 1) := by decide +kernel
theorem dX2_rule_0 : decode cX2_rule 0 = .ok (.iconst 0, 1) := by decide +kernel
theorem dX2_rule_1 : decode cX2_rule 1 = .ok (.istore_n 2, 1) := by decide +kernel
theorem dX2_rule_2 : decode cX2_rule 2 = .ok (.iload_n 2, 1) := by decide +kernel
theorem dX2_rule_3 : decode cX2_rule 3 = .ok (.aload_n 0, 1) := by decide +kernel
theorem dX2_rule_4 : decode cX2_rule 4 = .ok (.getfield 33, 3) := by decide +kernel
theorem dX2_rule_7 : decode cX2_rule 7 = .ok (.getfield 78, 3) := by decide +kernel
theorem dX2_rule_10 : decode cX2_rule 10 = .ok (.if_icmp .ge 15, 3) := by decide +kernel
theorem dX2_rule_13 : decode cX2_rule 13 = .ok (.aload_n 0, 1) := by decide +kernel
theorem dX2_rule_14 : decode cX2_rule 14 = .ok (.aload_n 1, 1) := by decide +kernel
theorem dX2_rule_15 : decode cX2_rule 15 = .ok (.iload_n 2, 1) := by decide +kernel
theorem dX2_rule_16 : decode cX2_rule 16 = .ok (.invokevirtual 81, 3) := by decide +kernel
theorem dX2_rule_19 : decode cX2_rule 19 = .ok (.iinc 2 1, 3) := by decide +kernel
theorem dX2_rule_22 : decode cX2_rule 22 = .ok (.goto (-20), 3) := by decide +kernel
theorem dX2_rule_25 : decode cX2_rule 25 = .ok (.return_, 1) := by decide +kernel
theorem dX2_ruleMile_0 : decode cX2_ruleMile 0 = .ok (.aload_n 1, 1) := by decide +kernel
theorem dX2_ruleMile_1 : decode cX2_ruleMile 1 = .ok (.getfield 85, 3) := by decide +kernel
theorem dX2_ruleMile_4 : decode cX2_ruleMile 4 = .ok (.aload_n 1, 1) := by decide +kernel
theorem dX2_ruleMile_5 : decode cX2_ruleMile 5 = .ok (.iload_n 2, 1) := by decide +kernel
theorem dX2_ruleMile_6 : decode cX2_ruleMile 6 = .ok (.aload_n 1, 1) := by decide +kernel
theorem dX2_ruleMile_7 : decode cX2_ruleMile 7 = .ok (.iload_n 2, 1) := by decide +kernel
theorem dX2_ruleMile_8 : decode cX2_ruleMile 8 = .ok (.iconst 0, 1) := by decide +kernel
theorem dX2_ruleMile_9 : decode cX2_ruleMile 9 = .ok (.invokevirtual 90, 3) := by decide +kernel
theorem dX2_ruleMile_12 : decode cX2_ruleMile 12 = .ok (.invokevirtual 94, 3) := by decide +kernel
theorem dX2_ruleMile_15 : decode cX2_ruleMile 15 = .ok (.isub, 1) := by decide +kernel
theorem dX2_ruleMile_16 : decode cX2_ruleMile 16 = .ok (.istore_n 3, 1) := by decide +kernel
theorem dX2_ruleMile_17 : decode cX2_ruleMile 17 = .ok (.iconst 0, 1) := by decide +kernel
theorem dX2_ruleMile_18 : decode cX2_ruleMile 18 = .ok (.bipush 100, 2) := by decide +kernel
theorem dX2_ruleMile_20 : decode cX2_ruleMile 20 = .ok (.iload_n 3, 1) := by decide +kernel
theorem dX2_ruleMile_21 : decode cX2_ruleMile 21 = .ok (.invokestatic 97, 3) := by decide +kernel
theorem dX2_ruleMile_24 : decode cX2_ruleMile 24 = .ok (.invokestatic 102, 3) := by decide +kernel
theorem dX2_ruleMile_27 : decode cX2_ruleMile 27 = .ok (.istore 4, 2) := by decide +kernel
theorem dX2_ruleMile_29 : decode cX2_ruleMile 29 = .ok (.iconst 0, 1) := by decide +kernel
theorem dX2_ruleMile_30 : decode cX2_ruleMile 30 = .ok (.istore 5, 2) := by decide +kernel
theorem dX2_ruleMile_32 : decode cX2_ruleMile 32 = .ok (.iload 5, 2) := by decide +kernel
theorem dX2_ruleMile_34 : decode cX2_ruleMile 34 = .ok (.getstatic 24, 3) := by decide +kernel
theorem dX2_ruleMile_37 : decode cX2_ruleMile 37 = .ok (.arraylength, 1) := by decide +kernel
theorem dX2_ruleMile_38 : decode cX2_ruleMile 38 = .ok (.if_icmp .ge 58, 3) := by decide +kernel
theorem dX2_ruleMile_41 : decode cX2_ruleMile 41 = .ok (.iload 4, 2) := by decide +kernel
theorem dX2_ruleMile_43 : decode cX2_ruleMile 43 = .ok (.bipush 100, 2) := by decide +kernel
theorem dX2_ruleMile_45 : decode cX2_ruleMile 45 = .ok (.if_icmp .ge 29, 3) := by decide +kernel
theorem dX2_ruleMile_48 : decode cX2_ruleMile 48 = .ok (.aload_n 1, 1) := by decide +kernel
theorem dX2_ruleMile_49 : decode cX2_ruleMile 49 = .ok (.iload_n 2, 1) := by decide +kernel
theorem dX2_ruleMile_50 : decode cX2_ruleMile 50 = .ok (.iload 4, 2) := by decide +kernel
theorem dX2_ruleMile_52 : decode cX2_ruleMile 52 = .ok (.getstatic 24, 3) := by decide +kernel
theorem dX2_ruleMile_55 : decode cX2_ruleMile 55 = .ok (.iload 5, 2) := by decide +kernel
theorem dX2_ruleMile_57 : decode cX2_ruleMile 57 = .ok (.iaload, 1) := by decide +kernel
theorem dX2_ruleMile_58 : decode cX2_ruleMile 58 = .ok (.invokevirtual 105, 3) := by decide +kernel
theorem dX2_ruleMile_61 : decode cX2_ruleMile 61 = .ok (.aload_n 1, 1) := by decide +kernel
theorem dX2_ruleMile_62 : decode cX2_ruleMile 62 = .ok (.getfield 85, 3) := by decide +kernel
theorem dX2_ruleMile_65 : decode cX2_ruleMile 65 = .ok (.if_icmp .ge 9, 3) := by decide +kernel
theorem dX2_ruleMile_68 : decode cX2_ruleMile 68 = .ok (.iinc 4 1, 3) := by decide +kernel
theorem dX2_ruleMile_71 : decode cX2_ruleMile 71 = .ok (.goto (-30), 3) := by decide +kernel
theorem dX2_ruleMile_74 : decode cX2_ruleMile 74 = .ok (.aload_n 0, 1) := by decide +kernel
theorem dX2_ruleMile_75 : decode cX2_ruleMile 75 = .ok (.getfield 27, 3) := by decide +kernel
theorem dX2_ruleMile_78 : decode cX2_ruleMile 78 = .ok (.iload_n 2, 1) := by decide +kernel
theorem dX2_ruleMile_79 : decode cX2_ruleMile 79 = .ok (.getstatic 24, 3) := by decide +kernel
theorem dX2_ruleMile_82 : decode cX2_ruleMile 82 = .ok (.arraylength, 1) := by decide +kernel
theorem dX2_ruleMile_83 : decode cX2_ruleMile 83 = .ok (.imul, 1) := by decide +kernel
theorem dX2_ruleMile_84 : decode cX2_ruleMile 84 = .ok (.iload 5, 2) := by decide +kernel
theorem dX2_ruleMile_86 : decode cX2_ruleMile 86 = .ok (.iadd, 1) := by decide +kernel
theorem dX2_ruleMile_87 : decode cX2_ruleMile 87 = .ok (.iload 4, 2) := by decide +kernel
theorem dX2_ruleMile_89 : decode cX2_ruleMile 89 = .ok (.iastore, 1) := by decide +kernel
theorem dX2_ruleMile_90 : decode cX2_ruleMile 90 = .ok (.iinc 5 1, 3) := by decide +kernel
theorem dX2_ruleMile_93 : decode cX2_ruleMile 93 = .ok (.goto (-61), 3) := by decide +kernel
theorem dX2_ruleMile_96 : decode cX2_ruleMile 96 = .ok (.return_, 1) := by decide +kernel
theorem dX2_quickest_0 : decode cX2_quickest 0 = .ok (.aload_n 0, 1) := by decide +kernel
theorem dX2_quickest_1 : decode cX2_quickest 1 = .ok (.getfield 33, 3) := by decide +kernel
theorem dX2_quickest_4 : decode cX2_quickest 4 = .ok (.getfield 78, 3) := by decide +kernel
theorem dX2_quickest_7 : decode cX2_quickest 7 = .ok (.istore_n 2, 1) := by decide +kernel
theorem dX2_quickest_8 : decode cX2_quickest 8 = .ok (.aload_n 0, 1) := by decide +kernel
theorem dX2_quickest_9 : decode cX2_quickest 9 = .ok (.getfield 30, 3) := by decide +kernel
theorem dX2_quickest_12 : decode cX2_quickest 12 = .ok (.iconst 0, 1) := by decide +kernel
theorem dX2_quickest_13 : decode cX2_quickest 13 = .ok (.aaload, 1) := by decide +kernel
theorem dX2_quickest_14 : decode cX2_quickest 14 = .ok (.invokestatic 62, 3) := by decide +kernel
theorem dX2_quickest_17 : decode cX2_quickest 17 = .ok (.aload_n 0, 1) := by decide +kernel
theorem dX2_quickest_18 : decode cX2_quickest 18 = .ok (.getfield 30, 3) := by decide +kernel
theorem dX2_quickest_21 : decode cX2_quickest 21 = .ok (.iconst 0, 1) := by decide +kernel
theorem dX2_quickest_22 : decode cX2_quickest 22 = .ok (.aaload, 1) := by decide +kernel
theorem dX2_quickest_23 : decode cX2_quickest 23 = .ok (.iload_n 1, 1) := by decide +kernel
theorem dX2_quickest_24 : decode cX2_quickest 24 = .ok (.invokestatic 74, 3) := by decide +kernel
theorem dX2_quickest_27 : decode cX2_quickest 27 = .ok (.iconst 0, 1) := by decide +kernel
theorem dX2_quickest_28 : decode cX2_quickest 28 = .ok (.istore_n 3, 1) := by decide +kernel
theorem dX2_quickest_29 : decode cX2_quickest 29 = .ok (.iload_n 3, 1) := by decide +kernel
theorem dX2_quickest_30 : decode cX2_quickest 30 = .ok (.iload_n 2, 1) := by decide +kernel
theorem dX2_quickest_31 : decode cX2_quickest 31 = .ok (.if_icmp .ge 14, 3) := by decide +kernel
theorem dX2_quickest_34 : decode cX2_quickest 34 = .ok (.aload_n 0, 1) := by decide +kernel
theorem dX2_quickest_35 : decode cX2_quickest 35 = .ok (.iload_n 3, 1) := by decide +kernel
theorem dX2_quickest_36 : decode cX2_quickest 36 = .ok (.invokevirtual 109, 3) := by decide +kernel
theorem dX2_quickest_39 : decode cX2_quickest 39 = .ok (.iinc 3 1, 3) := by decide +kernel
theorem dX2_quickest_42 : decode cX2_quickest 42 = .ok (.goto (-13), 3) := by decide +kernel
theorem dX2_quickest_45 : decode cX2_quickest 45 = .ok (.aload_n 0, 1) := by decide +kernel
theorem dX2_quickest_46 : decode cX2_quickest 46 = .ok (.getfield 30, 3) := by decide +kernel
theorem dX2_quickest_49 : decode cX2_quickest 49 = .ok (.iload_n 2, 1) := by decide +kernel
theorem dX2_quickest_50 : decode cX2_quickest 50 = .ok (.aaload, 1) := by decide +kernel
theorem dX2_quickest_51 : decode cX2_quickest 51 = .ok (.iload_n 1, 1) := by decide +kernel
theorem dX2_quickest_52 : decode cX2_quickest 52 = .ok (.invokestatic 113, 3) := by decide +kernel
theorem dX2_quickest_55 : decode cX2_quickest 55 = .ok (.istore_n 3, 1) := by decide +kernel
theorem dX2_quickest_56 : decode cX2_quickest 56 = .ok (.iload_n 3, 1) := by decide +kernel
theorem dX2_quickest_57 : decode cX2_quickest 57 = .ok (.bipush (-4), 2) := by decide +kernel
theorem dX2_quickest_59 : decode cX2_quickest 59 = .ok (.if_icmp .ne 8, 3) := by decide +kernel
theorem dX2_quickest_62 : decode cX2_quickest 62 = .ok (.bipush (-4), 2) := by decide +kernel
theorem dX2_quickest_64 : decode cX2_quickest 64 = .ok (.goto 6, 3) := by decide +kernel
theorem dX2_quickest_67 : decode cX2_quickest 67 = .ok (.iload_n 3, 1) := by decide +kernel
theorem dX2_quickest_68 : decode cX2_quickest 68 = .ok (.iload_n 1, 1) := by decide +kernel
theorem dX2_quickest_69 : decode cX2_quickest 69 = .ok (.isub, 1) := by decide +kernel
theorem dX2_quickest_70 : decode cX2_quickest 70 = .ok (.ireturn, 1) := by decide +kernel
theorem dX2_firstPace_0 : decode cX2_firstPace 0 = .ok (.aload_n 0, 1) := by decide +kernel
theorem dX2_firstPace_1 : decode cX2_firstPace 1 = .ok (.getfield 30, 3) := by decide +kernel
theorem dX2_firstPace_4 : decode cX2_firstPace 4 = .ok (.aload_n 0, 1) := by decide +kernel
theorem dX2_firstPace_5 : decode cX2_firstPace 5 = .ok (.getfield 33, 3) := by decide +kernel
theorem dX2_firstPace_8 : decode cX2_firstPace 8 = .ok (.getfield 78, 3) := by decide +kernel
theorem dX2_firstPace_11 : decode cX2_firstPace 11 = .ok (.aaload, 1) := by decide +kernel
theorem dX2_firstPace_12 : decode cX2_firstPace 12 = .ok (.invokestatic 62, 3) := by decide +kernel
theorem dX2_firstPace_15 : decode cX2_firstPace 15 = .ok (.aload_n 0, 1) := by decide +kernel
theorem dX2_firstPace_16 : decode cX2_firstPace 16 = .ok (.getfield 30, 3) := by decide +kernel
theorem dX2_firstPace_19 : decode cX2_firstPace 19 = .ok (.aload_n 0, 1) := by decide +kernel
theorem dX2_firstPace_20 : decode cX2_firstPace 20 = .ok (.getfield 33, 3) := by decide +kernel
theorem dX2_firstPace_23 : decode cX2_firstPace 23 = .ok (.getfield 78, 3) := by decide +kernel
theorem dX2_firstPace_26 : decode cX2_firstPace 26 = .ok (.aaload, 1) := by decide +kernel
theorem dX2_firstPace_27 : decode cX2_firstPace 27 = .ok (.iload_n 1, 1) := by decide +kernel
theorem dX2_firstPace_28 : decode cX2_firstPace 28 = .ok (.iload_n 2, 1) := by decide +kernel
theorem dX2_firstPace_29 : decode cX2_firstPace 29 = .ok (.iadd, 1) := by decide +kernel
theorem dX2_firstPace_30 : decode cX2_firstPace 30 = .ok (.invokestatic 74, 3) := by decide +kernel
theorem dX2_firstPace_33 : decode cX2_firstPace 33 = .ok (.aload_n 0, 1) := by decide +kernel
theorem dX2_firstPace_34 : decode cX2_firstPace 34 = .ok (.invokevirtual 117, 3) := by decide +kernel
theorem dX2_firstPace_37 : decode cX2_firstPace 37 = .ok (.iload_n 1, 1) := by decide +kernel
theorem dX2_firstPace_38 : decode cX2_firstPace 38 = .ok (.istore 4, 2) := by decide +kernel
theorem dX2_firstPace_40 : decode cX2_firstPace 40 = .ok (.bipush (-4), 2) := by decide +kernel
theorem dX2_firstPace_42 : decode cX2_firstPace 42 = .ok (.istore 5, 2) := by decide +kernel
theorem dX2_firstPace_44 : decode cX2_firstPace 44 = .ok (.iconst 0, 1) := by decide +kernel
theorem dX2_firstPace_45 : decode cX2_firstPace 45 = .ok (.istore 6, 2) := by decide +kernel
theorem dX2_firstPace_47 : decode cX2_firstPace 47 = .ok (.iload 6, 2) := by decide +kernel
theorem dX2_firstPace_49 : decode cX2_firstPace 49 = .ok (.iload_n 3, 1) := by decide +kernel
theorem dX2_firstPace_50 : decode cX2_firstPace 50 = .ok (.if_icmp .gt 41, 3) := by decide +kernel
theorem dX2_firstPace_53 : decode cX2_firstPace 53 = .ok (.iload 6, 2) := by decide +kernel
theorem dX2_firstPace_55 : decode cX2_firstPace 55 = .ok (.aload_n 0, 1) := by decide +kernel
theorem dX2_firstPace_56 : decode cX2_firstPace 56 = .ok (.getfield 33, 3) := by decide +kernel
theorem dX2_firstPace_59 : decode cX2_firstPace 59 = .ok (.getfield 78, 3) := by decide +kernel
theorem dX2_firstPace_62 : decode cX2_firstPace 62 = .ok (.if_icmp .ge 29, 3) := by decide +kernel
theorem dX2_firstPace_65 : decode cX2_firstPace 65 = .ok (.aload_n 0, 1) := by decide +kernel
theorem dX2_firstPace_66 : decode cX2_firstPace 66 = .ok (.iload 6, 2) := by decide +kernel
theorem dX2_firstPace_68 : decode cX2_firstPace 68 = .ok (.iload 4, 2) := by decide +kernel
theorem dX2_firstPace_70 : decode cX2_firstPace 70 = .ok (.invokevirtual 120, 3) := by decide +kernel
theorem dX2_firstPace_73 : decode cX2_firstPace 73 = .ok (.istore 5, 2) := by decide +kernel
theorem dX2_firstPace_75 : decode cX2_firstPace 75 = .ok (.iload 4, 2) := by decide +kernel
theorem dX2_firstPace_77 : decode cX2_firstPace 77 = .ok (.iload 5, 2) := by decide +kernel
theorem dX2_firstPace_79 : decode cX2_firstPace 79 = .ok (.invokestatic 123, 3) := by decide +kernel
theorem dX2_firstPace_82 : decode cX2_firstPace 82 = .ok (.iadd, 1) := by decide +kernel
theorem dX2_firstPace_83 : decode cX2_firstPace 83 = .ok (.istore 4, 2) := by decide +kernel
theorem dX2_firstPace_85 : decode cX2_firstPace 85 = .ok (.iinc 6 1, 3) := by decide +kernel
theorem dX2_firstPace_88 : decode cX2_firstPace 88 = .ok (.goto (-41), 3) := by decide +kernel
theorem dX2_firstPace_91 : decode cX2_firstPace 91 = .ok (.iload 5, 2) := by decide +kernel
theorem dX2_firstPace_93 : decode cX2_firstPace 93 = .ok (.ireturn, 1) := by decide +kernel
theorem dX2_findStarts_0 : decode cX2_findStarts 0 = .ok (.iconst 0, 1) := by decide +kernel
theorem dX2_findStarts_1 : decode cX2_findStarts 1 = .ok (.istore_n 2, 1) := by decide +kernel
theorem dX2_findStarts_2 : decode cX2_findStarts 2 = .ok (.iload_n 2, 1) := by decide +kernel
theorem dX2_findStarts_3 : decode cX2_findStarts 3 = .ok (.bipush 38, 2) := by decide +kernel
theorem dX2_findStarts_5 : decode cX2_findStarts 5 = .ok (.if_icmp .ge 26, 3) := by decide +kernel
theorem dX2_findStarts_8 : decode cX2_findStarts 8 = .ok (.aload_n 0, 1) := by decide +kernel
theorem dX2_findStarts_9 : decode cX2_findStarts 9 = .ok (.getfield 30, 3) := by decide +kernel
theorem dX2_findStarts_12 : decode cX2_findStarts 12 = .ok (.aload_n 0, 1) := by decide +kernel
theorem dX2_findStarts_13 : decode cX2_findStarts 13 = .ok (.getfield 33, 3) := by decide +kernel
theorem dX2_findStarts_16 : decode cX2_findStarts 16 = .ok (.getfield 78, 3) := by decide +kernel
theorem dX2_findStarts_19 : decode cX2_findStarts 19 = .ok (.aaload, 1) := by decide +kernel
theorem dX2_findStarts_20 : decode cX2_findStarts 20 = .ok (.iload_n 2, 1) := by decide +kernel
theorem dX2_findStarts_21 : decode cX2_findStarts 21 = .ok (.ldc2_w 126, 3) := by decide +kernel
theorem dX2_findStarts_24 : decode cX2_findStarts 24 = .ok (.lastore, 1) := by decide +kernel
theorem dX2_findStarts_25 : decode cX2_findStarts 25 = .ok (.iinc 2 1, 3) := by decide +kernel
theorem dX2_findStarts_28 : decode cX2_findStarts 28 = .ok (.goto (-26), 3) := by decide +kernel
theorem dX2_findStarts_31 : decode cX2_findStarts 31 = .ok (.aload_n 0, 1) := by decide +kernel
theorem dX2_findStarts_32 : decode cX2_findStarts 32 = .ok (.invokevirtual 117, 3) := by decide +kernel
theorem dX2_findStarts_35 : decode cX2_findStarts 35 = .ok (.iconst 0, 1) := by decide +kernel
theorem dX2_findStarts_36 : decode cX2_findStarts 36 = .ok (.istore_n 2, 1) := by decide +kernel
theorem dX2_findStarts_37 : decode cX2_findStarts 37 = .ok (.iload_n 2, 1) := by decide +kernel
theorem dX2_findStarts_38 : decode cX2_findStarts 38 = .ok (.aload_n 1, 1) := by decide +kernel
theorem dX2_findStarts_39 : decode cX2_findStarts 39 = .ok (.arraylength, 1) := by decide +kernel
theorem dX2_findStarts_40 : decode cX2_findStarts 40 = .ok (.if_icmp .ge 44, 3) := by decide +kernel
theorem dX2_findStarts_43 : decode cX2_findStarts 43 = .ok (.iload_n 2, 1) := by decide +kernel
theorem dX2_findStarts_44 : decode cX2_findStarts 44 = .ok (.bipush 38, 2) := by decide +kernel
theorem dX2_findStarts_46 : decode cX2_findStarts 46 = .ok (.if_icmp .ge 38, 3) := by decide +kernel
theorem dX2_findStarts_49 : decode cX2_findStarts 49 = .ok (.iload_n 2, 1) := by decide +kernel
theorem dX2_findStarts_50 : decode cX2_findStarts 50 = .ok (.bipush 22, 2) := by decide +kernel
theorem dX2_findStarts_52 : decode cX2_findStarts 52 = .ok (.if_icmp .ge 9, 3) := by decide +kernel
theorem dX2_findStarts_55 : decode cX2_findStarts 55 = .ok (.ldc2_w 126, 3) := by decide +kernel
theorem dX2_findStarts_58 : decode cX2_findStarts 58 = .ok (.goto 6, 3) := by decide +kernel
theorem dX2_findStarts_61 : decode cX2_findStarts 61 = .ok (.ldc2_w 128, 3) := by decide +kernel
theorem dX2_findStarts_64 : decode cX2_findStarts 64 = .ok (.lstore_n 3, 1) := by decide +kernel
theorem dX2_findStarts_65 : decode cX2_findStarts 65 = .ok (.aload_n 1, 1) := by decide +kernel
theorem dX2_findStarts_66 : decode cX2_findStarts 66 = .ok (.iload_n 2, 1) := by decide +kernel
theorem dX2_findStarts_67 : decode cX2_findStarts 67 = .ok (.aload_n 0, 1) := by decide +kernel
theorem dX2_findStarts_68 : decode cX2_findStarts 68 = .ok (.getfield 30, 3) := by decide +kernel
theorem dX2_findStarts_71 : decode cX2_findStarts 71 = .ok (.iconst 0, 1) := by decide +kernel
theorem dX2_findStarts_72 : decode cX2_findStarts 72 = .ok (.aaload, 1) := by decide +kernel
theorem dX2_findStarts_73 : decode cX2_findStarts 73 = .ok (.iload_n 2, 1) := by decide +kernel
theorem dX2_findStarts_74 : decode cX2_findStarts 74 = .ok (.laload, 1) := by decide +kernel
theorem dX2_findStarts_75 : decode cX2_findStarts 75 = .ok (.lload_n 3, 1) := by decide +kernel
theorem dX2_findStarts_76 : decode cX2_findStarts 76 = .ok (.land, 1) := by decide +kernel
theorem dX2_findStarts_77 : decode cX2_findStarts 77 = .ok (.lastore, 1) := by decide +kernel
theorem dX2_findStarts_78 : decode cX2_findStarts 78 = .ok (.iinc 2 1, 3) := by decide +kernel
theorem dX2_findStarts_81 : decode cX2_findStarts 81 = .ok (.goto (-44), 3) := by decide +kernel
theorem dX2_findStarts_84 : decode cX2_findStarts 84 = .ok (.return_, 1) := by decide +kernel
theorem dX2_slowest_0 : decode cX2_slowest 0 = .ok (.iconst 0, 1) := by decide +kernel
theorem dX2_slowest_1 : decode cX2_slowest 1 = .ok (.istore_n 3, 1) := by decide +kernel
theorem dX2_slowest_2 : decode cX2_slowest 2 = .ok (.iload_n 3, 1) := by decide +kernel
theorem dX2_slowest_3 : decode cX2_slowest 3 = .ok (.getstatic 24, 3) := by decide +kernel
theorem dX2_slowest_6 : decode cX2_slowest 6 = .ok (.arraylength, 1) := by decide +kernel
theorem dX2_slowest_7 : decode cX2_slowest 7 = .ok (.if_icmp .ge 72, 3) := by decide +kernel
theorem dX2_slowest_10 : decode cX2_slowest 10 = .ok (.aload_n 0, 1) := by decide +kernel
theorem dX2_slowest_11 : decode cX2_slowest 11 = .ok (.getfield 27, 3) := by decide +kernel
theorem dX2_slowest_14 : decode cX2_slowest 14 = .ok (.iload_n 1, 1) := by decide +kernel
theorem dX2_slowest_15 : decode cX2_slowest 15 = .ok (.getstatic 24, 3) := by decide +kernel
theorem dX2_slowest_18 : decode cX2_slowest 18 = .ok (.arraylength, 1) := by decide +kernel
theorem dX2_slowest_19 : decode cX2_slowest 19 = .ok (.imul, 1) := by decide +kernel
theorem dX2_slowest_20 : decode cX2_slowest 20 = .ok (.iload_n 3, 1) := by decide +kernel
theorem dX2_slowest_21 : decode cX2_slowest 21 = .ok (.iadd, 1) := by decide +kernel
theorem dX2_slowest_22 : decode cX2_slowest 22 = .ok (.iaload, 1) := by decide +kernel
theorem dX2_slowest_23 : decode cX2_slowest 23 = .ok (.istore 4, 2) := by decide +kernel
theorem dX2_slowest_25 : decode cX2_slowest 25 = .ok (.iload 4, 2) := by decide +kernel
theorem dX2_slowest_27 : decode cX2_slowest 27 = .ok (.bipush 100, 2) := by decide +kernel
theorem dX2_slowest_29 : decode cX2_slowest 29 = .ok (.if_icmp .ge 44, 3) := by decide +kernel
theorem dX2_slowest_32 : decode cX2_slowest 32 = .ok (.aload_n 0, 1) := by decide +kernel
theorem dX2_slowest_33 : decode cX2_slowest 33 = .ok (.getfield 21, 3) := by decide +kernel
theorem dX2_slowest_36 : decode cX2_slowest 36 = .ok (.iload 4, 2) := by decide +kernel
theorem dX2_slowest_38 : decode cX2_slowest 38 = .ok (.aaload, 1) := by decide +kernel
theorem dX2_slowest_39 : decode cX2_slowest 39 = .ok (.iload_n 2, 1) := by decide +kernel
theorem dX2_slowest_40 : decode cX2_slowest 40 = .ok (.invokestatic 130, 3) := by decide +kernel
theorem dX2_slowest_43 : decode cX2_slowest 43 = .ok (.ifCond .eq 30, 3) := by decide +kernel
theorem dX2_slowest_46 : decode cX2_slowest 46 = .ok (.aload_n 0, 1) := by decide +kernel
theorem dX2_slowest_47 : decode cX2_slowest 47 = .ok (.getfield 30, 3) := by decide +kernel
theorem dX2_slowest_50 : decode cX2_slowest 50 = .ok (.iload_n 1, 1) := by decide +kernel
theorem dX2_slowest_51 : decode cX2_slowest 51 = .ok (.iconst 1, 1) := by decide +kernel
theorem dX2_slowest_52 : decode cX2_slowest 52 = .ok (.iadd, 1) := by decide +kernel
theorem dX2_slowest_53 : decode cX2_slowest 53 = .ok (.aaload, 1) := by decide +kernel
theorem dX2_slowest_54 : decode cX2_slowest 54 = .ok (.iload_n 2, 1) := by decide +kernel
theorem dX2_slowest_55 : decode cX2_slowest 55 = .ok (.getstatic 134, 3) := by decide +kernel
theorem dX2_slowest_58 : decode cX2_slowest 58 = .ok (.iload_n 3, 1) := by decide +kernel
theorem dX2_slowest_59 : decode cX2_slowest 59 = .ok (.iaload, 1) := by decide +kernel
theorem dX2_slowest_60 : decode cX2_slowest 60 = .ok (.iadd, 1) := by decide +kernel
theorem dX2_slowest_61 : decode cX2_slowest 61 = .ok (.invokestatic 130, 3) := by decide +kernel
theorem dX2_slowest_64 : decode cX2_slowest 64 = .ok (.ifCond .eq 9, 3) := by decide +kernel
theorem dX2_slowest_67 : decode cX2_slowest 67 = .ok (.getstatic 24, 3) := by decide +kernel
theorem dX2_slowest_70 : decode cX2_slowest 70 = .ok (.iload_n 3, 1) := by decide +kernel
theorem dX2_slowest_71 : decode cX2_slowest 71 = .ok (.iaload, 1) := by decide +kernel
theorem dX2_slowest_72 : decode cX2_slowest 72 = .ok (.ireturn, 1) := by decide +kernel
theorem dX2_slowest_73 : decode cX2_slowest 73 = .ok (.iinc 3 1, 3) := by decide +kernel
theorem dX2_slowest_76 : decode cX2_slowest 76 = .ok (.goto (-74), 3) := by decide +kernel
theorem dX2_slowest_79 : decode cX2_slowest 79 = .ok (.bipush (-4), 2) := by decide +kernel
theorem dX2_slowest_81 : decode cX2_slowest 81 = .ok (.ireturn, 1) := by decide +kernel
theorem dX2_goOn_0 : decode cX2_goOn 0 = .ok (.aload_n 0, 1) := by decide +kernel
theorem dX2_goOn_1 : decode cX2_goOn 1 = .ok (.getfield 30, 3) := by decide +kernel
theorem dX2_goOn_4 : decode cX2_goOn 4 = .ok (.iload_n 1, 1) := by decide +kernel
theorem dX2_goOn_5 : decode cX2_goOn 5 = .ok (.iconst 1, 1) := by decide +kernel
theorem dX2_goOn_6 : decode cX2_goOn 6 = .ok (.iadd, 1) := by decide +kernel
theorem dX2_goOn_7 : decode cX2_goOn 7 = .ok (.aaload, 1) := by decide +kernel
theorem dX2_goOn_8 : decode cX2_goOn 8 = .ok (.invokestatic 62, 3) := by decide +kernel
theorem dX2_goOn_11 : decode cX2_goOn 11 = .ok (.iconst 0, 1) := by decide +kernel
theorem dX2_goOn_12 : decode cX2_goOn 12 = .ok (.istore_n 2, 1) := by decide +kernel
theorem dX2_goOn_13 : decode cX2_goOn 13 = .ok (.iload_n 2, 1) := by decide +kernel
theorem dX2_goOn_14 : decode cX2_goOn 14 = .ok (.bipush 38, 2) := by decide +kernel
theorem dX2_goOn_16 : decode cX2_goOn 16 = .ok (.if_icmp .ge 28, 3) := by decide +kernel
theorem dX2_goOn_19 : decode cX2_goOn 19 = .ok (.aload_n 0, 1) := by decide +kernel
theorem dX2_goOn_20 : decode cX2_goOn 20 = .ok (.getfield 30, 3) := by decide +kernel
theorem dX2_goOn_23 : decode cX2_goOn 23 = .ok (.iload_n 1, 1) := by decide +kernel
theorem dX2_goOn_24 : decode cX2_goOn 24 = .ok (.aaload, 1) := by decide +kernel
theorem dX2_goOn_25 : decode cX2_goOn 25 = .ok (.iload_n 2, 1) := by decide +kernel
theorem dX2_goOn_26 : decode cX2_goOn 26 = .ok (.laload, 1) := by decide +kernel
theorem dX2_goOn_27 : decode cX2_goOn 27 = .ok (.lconst 0, 1) := by decide +kernel
theorem dX2_goOn_28 : decode cX2_goOn 28 = .ok (.lcmp, 1) := by decide +kernel
theorem dX2_goOn_29 : decode cX2_goOn 29 = .ok (.ifCond .eq 9, 3) := by decide +kernel
theorem dX2_goOn_32 : decode cX2_goOn 32 = .ok (.aload_n 0, 1) := by decide +kernel
theorem dX2_goOn_33 : decode cX2_goOn 33 = .ok (.iload_n 1, 1) := by decide +kernel
theorem dX2_goOn_34 : decode cX2_goOn 34 = .ok (.iload_n 2, 1) := by decide +kernel
theorem dX2_goOn_35 : decode cX2_goOn 35 = .ok (.invokevirtual 137, 3) := by decide +kernel
theorem dX2_goOn_38 : decode cX2_goOn 38 = .ok (.iinc 2 1, 3) := by decide +kernel
theorem dX2_goOn_41 : decode cX2_goOn 41 = .ok (.goto (-28), 3) := by decide +kernel
theorem dX2_goOn_44 : decode cX2_goOn 44 = .ok (.return_, 1) := by decide +kernel
theorem dX2_moveLater_0 : decode cX2_moveLater 0 = .ok (.iconst 0, 1) := by decide +kernel
theorem dX2_moveLater_1 : decode cX2_moveLater 1 = .ok (.istore_n 3, 1) := by decide +kernel
theorem dX2_moveLater_2 : decode cX2_moveLater 2 = .ok (.iload_n 3, 1) := by decide +kernel
theorem dX2_moveLater_3 : decode cX2_moveLater 3 = .ok (.getstatic 24, 3) := by decide +kernel
theorem dX2_moveLater_6 : decode cX2_moveLater 6 = .ok (.arraylength, 1) := by decide +kernel
theorem dX2_moveLater_7 : decode cX2_moveLater 7 = .ok (.if_icmp .ge 106, 3) := by decide +kernel
theorem dX2_moveLater_10 : decode cX2_moveLater 10 = .ok (.aload_n 0, 1) := by decide +kernel
theorem dX2_moveLater_11 : decode cX2_moveLater 11 = .ok (.getfield 27, 3) := by decide +kernel
theorem dX2_moveLater_14 : decode cX2_moveLater 14 = .ok (.iload_n 1, 1) := by decide +kernel
theorem dX2_moveLater_15 : decode cX2_moveLater 15 = .ok (.getstatic 24, 3) := by decide +kernel
theorem dX2_moveLater_18 : decode cX2_moveLater 18 = .ok (.arraylength, 1) := by decide +kernel
theorem dX2_moveLater_19 : decode cX2_moveLater 19 = .ok (.imul, 1) := by decide +kernel
theorem dX2_moveLater_20 : decode cX2_moveLater 20 = .ok (.iload_n 3, 1) := by decide +kernel
theorem dX2_moveLater_21 : decode cX2_moveLater 21 = .ok (.iadd, 1) := by decide +kernel
theorem dX2_moveLater_22 : decode cX2_moveLater 22 = .ok (.iaload, 1) := by decide +kernel
theorem dX2_moveLater_23 : decode cX2_moveLater 23 = .ok (.istore 4, 2) := by decide +kernel
theorem dX2_moveLater_25 : decode cX2_moveLater 25 = .ok (.iload 4, 2) := by decide +kernel
theorem dX2_moveLater_27 : decode cX2_moveLater 27 = .ok (.bipush 100, 2) := by decide +kernel
theorem dX2_moveLater_29 : decode cX2_moveLater 29 = .ok (.if_icmp .ge 78, 3) := by decide +kernel
theorem dX2_moveLater_32 : decode cX2_moveLater 32 = .ok (.aload_n 0, 1) := by decide +kernel
theorem dX2_moveLater_33 : decode cX2_moveLater 33 = .ok (.getfield 30, 3) := by decide +kernel
theorem dX2_moveLater_36 : decode cX2_moveLater 36 = .ok (.iload_n 1, 1) := by decide +kernel
theorem dX2_moveLater_37 : decode cX2_moveLater 37 = .ok (.aaload, 1) := by decide +kernel
theorem dX2_moveLater_38 : decode cX2_moveLater 38 = .ok (.iload_n 2, 1) := by decide +kernel
theorem dX2_moveLater_39 : decode cX2_moveLater 39 = .ok (.laload, 1) := by decide +kernel
theorem dX2_moveLater_40 : decode cX2_moveLater 40 = .ok (.aload_n 0, 1) := by decide +kernel
theorem dX2_moveLater_41 : decode cX2_moveLater 41 = .ok (.getfield 21, 3) := by decide +kernel
theorem dX2_moveLater_44 : decode cX2_moveLater 44 = .ok (.iload 4, 2) := by decide +kernel
theorem dX2_moveLater_46 : decode cX2_moveLater 46 = .ok (.aaload, 1) := by decide +kernel
theorem dX2_moveLater_47 : decode cX2_moveLater 47 = .ok (.iload_n 2, 1) := by decide +kernel
theorem dX2_moveLater_48 : decode cX2_moveLater 48 = .ok (.laload, 1) := by decide +kernel
theorem dX2_moveLater_49 : decode cX2_moveLater 49 = .ok (.land, 1) := by decide +kernel
theorem dX2_moveLater_50 : decode cX2_moveLater 50 = .ok (.lstore 5, 2) := by decide +kernel
theorem dX2_moveLater_52 : decode cX2_moveLater 52 = .ok (.aload_n 0, 1) := by decide +kernel
theorem dX2_moveLater_53 : decode cX2_moveLater 53 = .ok (.getfield 30, 3) := by decide +kernel
theorem dX2_moveLater_56 : decode cX2_moveLater 56 = .ok (.iload_n 1, 1) := by decide +kernel
theorem dX2_moveLater_57 : decode cX2_moveLater 57 = .ok (.iconst 1, 1) := by decide +kernel
theorem dX2_moveLater_58 : decode cX2_moveLater 58 = .ok (.iadd, 1) := by decide +kernel
theorem dX2_moveLater_59 : decode cX2_moveLater 59 = .ok (.aaload, 1) := by decide +kernel
theorem dX2_moveLater_60 : decode cX2_moveLater 60 = .ok (.iload_n 2, 1) := by decide +kernel
theorem dX2_moveLater_61 : decode cX2_moveLater 61 = .ok (.dup2, 1) := by decide +kernel
theorem dX2_moveLater_62 : decode cX2_moveLater 62 = .ok (.laload, 1) := by decide +kernel
theorem dX2_moveLater_63 : decode cX2_moveLater 63 = .ok (.lload 5, 2) := by decide +kernel
theorem dX2_moveLater_65 : decode cX2_moveLater 65 = .ok (.getstatic 134, 3) := by decide +kernel
theorem dX2_moveLater_68 : decode cX2_moveLater 68 = .ok (.iload_n 3, 1) := by decide +kernel
theorem dX2_moveLater_69 : decode cX2_moveLater 69 = .ok (.iaload, 1) := by decide +kernel
theorem dX2_moveLater_70 : decode cX2_moveLater 70 = .ok (.lshl, 1) := by decide +kernel
theorem dX2_moveLater_71 : decode cX2_moveLater 71 = .ok (.lor, 1) := by decide +kernel
theorem dX2_moveLater_72 : decode cX2_moveLater 72 = .ok (.lastore, 1) := by decide +kernel
theorem dX2_moveLater_73 : decode cX2_moveLater 73 = .ok (.iload_n 2, 1) := by decide +kernel
theorem dX2_moveLater_74 : decode cX2_moveLater 74 = .ok (.iconst 1, 1) := by decide +kernel
theorem dX2_moveLater_75 : decode cX2_moveLater 75 = .ok (.iadd, 1) := by decide +kernel
theorem dX2_moveLater_76 : decode cX2_moveLater 76 = .ok (.bipush 38, 2) := by decide +kernel
theorem dX2_moveLater_78 : decode cX2_moveLater 78 = .ok (.if_icmp .ge 29, 3) := by decide +kernel
theorem dX2_moveLater_81 : decode cX2_moveLater 81 = .ok (.aload_n 0, 1) := by decide +kernel
theorem dX2_moveLater_82 : decode cX2_moveLater 82 = .ok (.getfield 30, 3) := by decide +kernel
theorem dX2_moveLater_85 : decode cX2_moveLater 85 = .ok (.iload_n 1, 1) := by decide +kernel
theorem dX2_moveLater_86 : decode cX2_moveLater 86 = .ok (.iconst 1, 1) := by decide +kernel
theorem dX2_moveLater_87 : decode cX2_moveLater 87 = .ok (.iadd, 1) := by decide +kernel
theorem dX2_moveLater_88 : decode cX2_moveLater 88 = .ok (.aaload, 1) := by decide +kernel
theorem dX2_moveLater_89 : decode cX2_moveLater 89 = .ok (.iload_n 2, 1) := by decide +kernel
theorem dX2_moveLater_90 : decode cX2_moveLater 90 = .ok (.iconst 1, 1) := by decide +kernel
theorem dX2_moveLater_91 : decode cX2_moveLater 91 = .ok (.iadd, 1) := by decide +kernel
theorem dX2_moveLater_92 : decode cX2_moveLater 92 = .ok (.dup2, 1) := by decide +kernel
theorem dX2_moveLater_93 : decode cX2_moveLater 93 = .ok (.laload, 1) := by decide +kernel
theorem dX2_moveLater_94 : decode cX2_moveLater 94 = .ok (.lload 5, 2) := by decide +kernel
theorem dX2_moveLater_96 : decode cX2_moveLater 96 = .ok (.bipush 64, 2) := by decide +kernel
theorem dX2_moveLater_98 : decode cX2_moveLater 98 = .ok (.getstatic 134, 3) := by decide +kernel
theorem dX2_moveLater_101 : decode cX2_moveLater 101 = .ok (.iload_n 3, 1) := by decide +kernel
theorem dX2_moveLater_102 : decode cX2_moveLater 102 = .ok (.iaload, 1) := by decide +kernel
theorem dX2_moveLater_103 : decode cX2_moveLater 103 = .ok (.isub, 1) := by decide +kernel
theorem dX2_moveLater_104 : decode cX2_moveLater 104 = .ok (.lushr, 1) := by decide +kernel
theorem dX2_moveLater_105 : decode cX2_moveLater 105 = .ok (.lor, 1) := by decide +kernel
theorem dX2_moveLater_106 : decode cX2_moveLater 106 = .ok (.lastore, 1) := by decide +kernel
theorem dX2_moveLater_107 : decode cX2_moveLater 107 = .ok (.iinc 3 1, 3) := by decide +kernel
theorem dX2_moveLater_110 : decode cX2_moveLater 110 = .ok (.goto (-108), 3) := by decide +kernel
theorem dX2_moveLater_113 : decode cX2_moveLater 113 = .ok (.return_, 1) := by decide +kernel
theorem dX2_goBack_0 : decode cX2_goBack 0 = .ok (.aload_n 0, 1) := by decide +kernel
theorem dX2_goBack_1 : decode cX2_goBack 1 = .ok (.getfield 33, 3) := by decide +kernel
theorem dX2_goBack_4 : decode cX2_goBack 4 = .ok (.getfield 78, 3) := by decide +kernel
theorem dX2_goBack_7 : decode cX2_goBack 7 = .ok (.iconst 1, 1) := by decide +kernel
theorem dX2_goBack_8 : decode cX2_goBack 8 = .ok (.isub, 1) := by decide +kernel
theorem dX2_goBack_9 : decode cX2_goBack 9 = .ok (.istore_n 1, 1) := by decide +kernel
theorem dX2_goBack_10 : decode cX2_goBack 10 = .ok (.iload_n 1, 1) := by decide +kernel
theorem dX2_goBack_11 : decode cX2_goBack 11 = .ok (.ifCond .lt 73, 3) := by decide +kernel
theorem dX2_goBack_14 : decode cX2_goBack 14 = .ok (.iconst 0, 1) := by decide +kernel
theorem dX2_goBack_15 : decode cX2_goBack 15 = .ok (.istore_n 2, 1) := by decide +kernel
theorem dX2_goBack_16 : decode cX2_goBack 16 = .ok (.iload_n 2, 1) := by decide +kernel
theorem dX2_goBack_17 : decode cX2_goBack 17 = .ok (.bipush 38, 2) := by decide +kernel
theorem dX2_goBack_19 : decode cX2_goBack 19 = .ok (.if_icmp .ge 59, 3) := by decide +kernel
theorem dX2_goBack_22 : decode cX2_goBack 22 = .ok (.iload_n 2, 1) := by decide +kernel
theorem dX2_goBack_23 : decode cX2_goBack 23 = .ok (.iconst 1, 1) := by decide +kernel
theorem dX2_goBack_24 : decode cX2_goBack 24 = .ok (.iadd, 1) := by decide +kernel
theorem dX2_goBack_25 : decode cX2_goBack 25 = .ok (.bipush 38, 2) := by decide +kernel
theorem dX2_goBack_27 : decode cX2_goBack 27 = .ok (.if_icmp .ge 18, 3) := by decide +kernel
theorem dX2_goBack_30 : decode cX2_goBack 30 = .ok (.aload_n 0, 1) := by decide +kernel
theorem dX2_goBack_31 : decode cX2_goBack 31 = .ok (.getfield 30, 3) := by decide +kernel
theorem dX2_goBack_34 : decode cX2_goBack 34 = .ok (.iload_n 1, 1) := by decide +kernel
theorem dX2_goBack_35 : decode cX2_goBack 35 = .ok (.iconst 1, 1) := by decide +kernel
theorem dX2_goBack_36 : decode cX2_goBack 36 = .ok (.iadd, 1) := by decide +kernel
theorem dX2_goBack_37 : decode cX2_goBack 37 = .ok (.aaload, 1) := by decide +kernel
theorem dX2_goBack_38 : decode cX2_goBack 38 = .ok (.iload_n 2, 1) := by decide +kernel
theorem dX2_goBack_39 : decode cX2_goBack 39 = .ok (.iconst 1, 1) := by decide +kernel
theorem dX2_goBack_40 : decode cX2_goBack 40 = .ok (.iadd, 1) := by decide +kernel
theorem dX2_goBack_41 : decode cX2_goBack 41 = .ok (.laload, 1) := by decide +kernel
theorem dX2_goBack_42 : decode cX2_goBack 42 = .ok (.goto 4, 3) := by decide +kernel
theorem dX2_goBack_45 : decode cX2_goBack 45 = .ok (.lconst 0, 1) := by decide +kernel
theorem dX2_goBack_46 : decode cX2_goBack 46 = .ok (.lstore_n 3, 1) := by decide +kernel
theorem dX2_goBack_47 : decode cX2_goBack 47 = .ok (.aload_n 0, 1) := by decide +kernel
theorem dX2_goBack_48 : decode cX2_goBack 48 = .ok (.getfield 30, 3) := by decide +kernel
theorem dX2_goBack_51 : decode cX2_goBack 51 = .ok (.iload_n 1, 1) := by decide +kernel
theorem dX2_goBack_52 : decode cX2_goBack 52 = .ok (.aaload, 1) := by decide +kernel
theorem dX2_goBack_53 : decode cX2_goBack 53 = .ok (.iload_n 2, 1) := by decide +kernel
theorem dX2_goBack_54 : decode cX2_goBack 54 = .ok (.aload_n 0, 1) := by decide +kernel
theorem dX2_goBack_55 : decode cX2_goBack 55 = .ok (.iload_n 1, 1) := by decide +kernel
theorem dX2_goBack_56 : decode cX2_goBack 56 = .ok (.iload_n 2, 1) := by decide +kernel
theorem dX2_goBack_57 : decode cX2_goBack 57 = .ok (.aload_n 0, 1) := by decide +kernel
theorem dX2_goBack_58 : decode cX2_goBack 58 = .ok (.getfield 30, 3) := by decide +kernel
theorem dX2_goBack_61 : decode cX2_goBack 61 = .ok (.iload_n 1, 1) := by decide +kernel
theorem dX2_goBack_62 : decode cX2_goBack 62 = .ok (.iconst 1, 1) := by decide +kernel
theorem dX2_goBack_63 : decode cX2_goBack 63 = .ok (.iadd, 1) := by decide +kernel
theorem dX2_goBack_64 : decode cX2_goBack 64 = .ok (.aaload, 1) := by decide +kernel
theorem dX2_goBack_65 : decode cX2_goBack 65 = .ok (.iload_n 2, 1) := by decide +kernel
theorem dX2_goBack_66 : decode cX2_goBack 66 = .ok (.laload, 1) := by decide +kernel
theorem dX2_goBack_67 : decode cX2_goBack 67 = .ok (.lload_n 3, 1) := by decide +kernel
theorem dX2_goBack_68 : decode cX2_goBack 68 = .ok (.invokevirtual 141, 3) := by decide +kernel
theorem dX2_goBack_71 : decode cX2_goBack 71 = .ok (.lastore, 1) := by decide +kernel
theorem dX2_goBack_72 : decode cX2_goBack 72 = .ok (.iinc 2 1, 3) := by decide +kernel
theorem dX2_goBack_75 : decode cX2_goBack 75 = .ok (.goto (-59), 3) := by decide +kernel
theorem dX2_goBack_78 : decode cX2_goBack 78 = .ok (.iinc 1 (-1), 3) := by decide +kernel
theorem dX2_goBack_81 : decode cX2_goBack 81 = .ok (.goto (-71), 3) := by decide +kernel
theorem dX2_goBack_84 : decode cX2_goBack 84 = .ok (.return_, 1) := by decide +kernel
theorem dX2_earlier_0 : decode cX2_earlier 0 = .ok (.lconst 0, 1) := by decide +kernel
theorem dX2_earlier_1 : decode cX2_earlier 1 = .ok (.lstore 7, 2) := by decide +kernel
theorem dX2_earlier_3 : decode cX2_earlier 3 = .ok (.iconst 0, 1) := by decide +kernel
theorem dX2_earlier_4 : decode cX2_earlier 4 = .ok (.istore 9, 2) := by decide +kernel
theorem dX2_earlier_6 : decode cX2_earlier 6 = .ok (.iload 9, 2) := by decide +kernel
theorem dX2_earlier_8 : decode cX2_earlier 8 = .ok (.getstatic 24, 3) := by decide +kernel
theorem dX2_earlier_11 : decode cX2_earlier 11 = .ok (.arraylength, 1) := by decide +kernel
theorem dX2_earlier_12 : decode cX2_earlier 12 = .ok (.if_icmp .ge 77, 3) := by decide +kernel
theorem dX2_earlier_15 : decode cX2_earlier 15 = .ok (.lload_n 3, 1) := by decide +kernel
theorem dX2_earlier_16 : decode cX2_earlier 16 = .ok (.lload 5, 2) := by decide +kernel
theorem dX2_earlier_18 : decode cX2_earlier 18 = .ok (.lor, 1) := by decide +kernel
theorem dX2_earlier_19 : decode cX2_earlier 19 = .ok (.lconst 0, 1) := by decide +kernel
theorem dX2_earlier_20 : decode cX2_earlier 20 = .ok (.lcmp, 1) := by decide +kernel
theorem dX2_earlier_21 : decode cX2_earlier 21 = .ok (.ifCond .eq 68, 3) := by decide +kernel
theorem dX2_earlier_24 : decode cX2_earlier 24 = .ok (.aload_n 0, 1) := by decide +kernel
theorem dX2_earlier_25 : decode cX2_earlier 25 = .ok (.getfield 27, 3) := by decide +kernel
theorem dX2_earlier_28 : decode cX2_earlier 28 = .ok (.iload_n 1, 1) := by decide +kernel
theorem dX2_earlier_29 : decode cX2_earlier 29 = .ok (.getstatic 24, 3) := by decide +kernel
theorem dX2_earlier_32 : decode cX2_earlier 32 = .ok (.arraylength, 1) := by decide +kernel
theorem dX2_earlier_33 : decode cX2_earlier 33 = .ok (.imul, 1) := by decide +kernel
theorem dX2_earlier_34 : decode cX2_earlier 34 = .ok (.iload 9, 2) := by decide +kernel
theorem dX2_earlier_36 : decode cX2_earlier 36 = .ok (.iadd, 1) := by decide +kernel
theorem dX2_earlier_37 : decode cX2_earlier 37 = .ok (.iaload, 1) := by decide +kernel
theorem dX2_earlier_38 : decode cX2_earlier 38 = .ok (.istore 10, 2) := by decide +kernel
theorem dX2_earlier_40 : decode cX2_earlier 40 = .ok (.iload 10, 2) := by decide +kernel
theorem dX2_earlier_42 : decode cX2_earlier 42 = .ok (.bipush 100, 2) := by decide +kernel
theorem dX2_earlier_44 : decode cX2_earlier 44 = .ok (.if_icmp .ge 39, 3) := by decide +kernel
theorem dX2_earlier_47 : decode cX2_earlier 47 = .ok (.lload 7, 2) := by decide +kernel
theorem dX2_earlier_49 : decode cX2_earlier 49 = .ok (.aload_n 0, 1) := by decide +kernel
theorem dX2_earlier_50 : decode cX2_earlier 50 = .ok (.getfield 21, 3) := by decide +kernel
theorem dX2_earlier_53 : decode cX2_earlier 53 = .ok (.iload 10, 2) := by decide +kernel
theorem dX2_earlier_55 : decode cX2_earlier 55 = .ok (.aaload, 1) := by decide +kernel
theorem dX2_earlier_56 : decode cX2_earlier 56 = .ok (.iload_n 2, 1) := by decide +kernel
theorem dX2_earlier_57 : decode cX2_earlier 57 = .ok (.laload, 1) := by decide +kernel
theorem dX2_earlier_58 : decode cX2_earlier 58 = .ok (.lload_n 3, 1) := by decide +kernel
theorem dX2_earlier_59 : decode cX2_earlier 59 = .ok (.getstatic 134, 3) := by decide +kernel
theorem dX2_earlier_62 : decode cX2_earlier 62 = .ok (.iload 9, 2) := by decide +kernel
theorem dX2_earlier_64 : decode cX2_earlier 64 = .ok (.iaload, 1) := by decide +kernel
theorem dX2_earlier_65 : decode cX2_earlier 65 = .ok (.lushr, 1) := by decide +kernel
theorem dX2_earlier_66 : decode cX2_earlier 66 = .ok (.lload 5, 2) := by decide +kernel
theorem dX2_earlier_68 : decode cX2_earlier 68 = .ok (.bipush 64, 2) := by decide +kernel
theorem dX2_earlier_70 : decode cX2_earlier 70 = .ok (.getstatic 134, 3) := by decide +kernel
theorem dX2_earlier_73 : decode cX2_earlier 73 = .ok (.iload 9, 2) := by decide +kernel
theorem dX2_earlier_75 : decode cX2_earlier 75 = .ok (.iaload, 1) := by decide +kernel
theorem dX2_earlier_76 : decode cX2_earlier 76 = .ok (.isub, 1) := by decide +kernel
theorem dX2_earlier_77 : decode cX2_earlier 77 = .ok (.lshl, 1) := by decide +kernel
theorem dX2_earlier_78 : decode cX2_earlier 78 = .ok (.lor, 1) := by decide +kernel
theorem dX2_earlier_79 : decode cX2_earlier 79 = .ok (.land, 1) := by decide +kernel
theorem dX2_earlier_80 : decode cX2_earlier 80 = .ok (.lor, 1) := by decide +kernel
theorem dX2_earlier_81 : decode cX2_earlier 81 = .ok (.lstore 7, 2) := by decide +kernel
theorem dX2_earlier_83 : decode cX2_earlier 83 = .ok (.iinc 9 1, 3) := by decide +kernel
theorem dX2_earlier_86 : decode cX2_earlier 86 = .ok (.goto (-80), 3) := by decide +kernel
theorem dX2_earlier_89 : decode cX2_earlier 89 = .ok (.lload 7, 2) := by decide +kernel
theorem dX2_earlier_91 : decode cX2_earlier 91 = .ok (.lreturn, 1) := by decide +kernel
theorem dX2_wipe_0 : decode cX2_wipe 0 = .ok (.iconst 0, 1) := by decide +kernel
theorem dX2_wipe_1 : decode cX2_wipe 1 = .ok (.istore_n 1, 1) := by decide +kernel
theorem dX2_wipe_2 : decode cX2_wipe 2 = .ok (.iload_n 1, 1) := by decide +kernel
theorem dX2_wipe_3 : decode cX2_wipe 3 = .ok (.aload_n 0, 1) := by decide +kernel
theorem dX2_wipe_4 : decode cX2_wipe 4 = .ok (.arraylength, 1) := by decide +kernel
theorem dX2_wipe_5 : decode cX2_wipe 5 = .ok (.if_icmp .ge 13, 3) := by decide +kernel
theorem dX2_wipe_8 : decode cX2_wipe 8 = .ok (.aload_n 0, 1) := by decide +kernel
theorem dX2_wipe_9 : decode cX2_wipe 9 = .ok (.iload_n 1, 1) := by decide +kernel
theorem dX2_wipe_10 : decode cX2_wipe 10 = .ok (.lconst 0, 1) := by decide +kernel
theorem dX2_wipe_11 : decode cX2_wipe 11 = .ok (.lastore, 1) := by decide +kernel
theorem dX2_wipe_12 : decode cX2_wipe 12 = .ok (.iinc 1 1, 3) := by decide +kernel
theorem dX2_wipe_15 : decode cX2_wipe 15 = .ok (.goto (-13), 3) := by decide +kernel
theorem dX2_wipe_18 : decode cX2_wipe 18 = .ok (.return_, 1) := by decide +kernel
theorem dX3_init_0 : decode cX3_init 0 = .ok (.aload_n 0, 1) := by decide +kernel
theorem dX3_init_1 : decode cX3_init 1 = .ok (.invokespecial 3, 3) := by decide +kernel
theorem dX3_init_4 : decode cX3_init 4 = .ok (.aload_n 0, 1) := by decide +kernel
theorem dX3_init_5 : decode cX3_init 5 = .ok (.iconst 4, 1) := by decide +kernel
theorem dX3_init_6 : decode cX3_init 6 = .ok (.bipush 24, 2) := by decide +kernel
theorem dX3_init_8 : decode cX3_init 8 = .ok (.multianewarray 11 2, 4) := by decide +kernel
theorem dX3_init_12 : decode cX3_init 12 = .ok (.putfield 13, 3) := by decide +kernel
theorem dX3_init_15 : decode cX3_init 15 = .ok (.aload_n 0, 1) := by decide +kernel
theorem dX3_init_16 : decode cX3_init 16 = .ok (.iconst 4, 1) := by decide +kernel
theorem dX3_init_17 : decode cX3_init 17 = .ok (.newarray .int, 2) := by decide +kernel
theorem dX3_init_19 : decode cX3_init 19 = .ok (.dup, 1) := by decide +kernel
theorem dX3_init_20 : decode cX3_init 20 = .ok (.iconst 0, 1) := by decide +kernel
theorem dX3_init_21 : decode cX3_init 21 = .ok (.iconst (-1), 1) := by decide +kernel
theorem dX3_init_22 : decode cX3_init 22 = .ok (.iastore, 1) := by decide +kernel
theorem dX3_init_23 : decode cX3_init 23 = .ok (.dup, 1) := by decide +kernel
theorem dX3_init_24 : decode cX3_init 24 = .ok (.iconst 1, 1) := by decide +kernel
theorem dX3_init_25 : decode cX3_init 25 = .ok (.iconst (-1), 1) := by decide +kernel
theorem dX3_init_26 : decode cX3_init 26 = .ok (.iastore, 1) := by decide +kernel
theorem dX3_init_27 : decode cX3_init 27 = .ok (.dup, 1) := by decide +kernel
theorem dX3_init_28 : decode cX3_init 28 = .ok (.iconst 2, 1) := by decide +kernel
theorem dX3_init_29 : decode cX3_init 29 = .ok (.iconst (-1), 1) := by decide +kernel
theorem dX3_init_30 : decode cX3_init 30 = .ok (.iastore, 1) := by decide +kernel
theorem dX3_init_31 : decode cX3_init 31 = .ok (.dup, 1) := by decide +kernel
theorem dX3_init_32 : decode cX3_init 32 = .ok (.iconst 3, 1) := by decide +kernel
theorem dX3_init_33 : decode cX3_init 33 = .ok (.iconst (-1), 1) := by decide +kernel
theorem dX3_init_34 : decode cX3_init 34 = .ok (.iastore, 1) := by decide +kernel
theorem dX3_init_35 : decode cX3_init 35 = .ok (.putfield 16, 3) := by decide +kernel
theorem dX3_init_38 : decode cX3_init 38 = .ok (.aload_n 0, 1) := by decide +kernel
theorem dX3_init_39 : decode cX3_init 39 = .ok (.iconst 4, 1) := by decide +kernel
theorem dX3_init_40 : decode cX3_init 40 = .ok (.newarray .int, 2) := by decide +kernel
theorem dX3_init_42 : decode cX3_init 42 = .ok (.putfield 20, 3) := by decide +kernel
theorem dX3_init_45 : decode cX3_init 45 = .ok (.return_, 1) := by decide +kernel
theorem dX3_begin_0 : decode cX3_begin 0 = .ok (.iload_n 1, 1) := by decide +kernel
theorem dX3_begin_1 : decode cX3_begin 1 = .ok (.invokestatic 23, 3) := by decide +kernel
theorem dX3_begin_4 : decode cX3_begin 4 = .ok (.ifCond .eq 16, 3) := by decide +kernel
theorem dX3_begin_7 : decode cX3_begin 7 = .ok (.iload_n 2, 1) := by decide +kernel
theorem dX3_begin_8 : decode cX3_begin 8 = .ok (.invokestatic 27, 3) := by decide +kernel
theorem dX3_begin_11 : decode cX3_begin 11 = .ok (.ifCond .eq 9, 3) := by decide +kernel
theorem dX3_begin_14 : decode cX3_begin 14 = .ok (.iload_n 3, 1) := by decide +kernel
theorem dX3_begin_15 : decode cX3_begin 15 = .ok (.bipush 24, 2) := by decide +kernel
theorem dX3_begin_17 : decode cX3_begin 17 = .ok (.if_icmp .le 5, 3) := by decide +kernel
theorem dX3_begin_20 : decode cX3_begin 20 = .ok (.iconst (-1), 1) := by decide +kernel
theorem dX3_begin_21 : decode cX3_begin 21 = .ok (.ireturn, 1) := by decide +kernel
theorem dX3_begin_22 : decode cX3_begin 22 = .ok (.iload_n 3, 1) := by decide +kernel
theorem dX3_begin_23 : decode cX3_begin 23 = .ok (.ifCond .ge 6, 3) := by decide +kernel
theorem dX3_begin_26 : decode cX3_begin 26 = .ok (.bipush (-14), 2) := by decide +kernel
theorem dX3_begin_28 : decode cX3_begin 28 = .ok (.ireturn, 1) := by decide +kernel
theorem dX3_begin_29 : decode cX3_begin 29 = .ok (.iconst 0, 1) := by decide +kernel
theorem dX3_begin_30 : decode cX3_begin 30 = .ok (.istore 4, 2) := by decide +kernel
theorem dX3_begin_32 : decode cX3_begin 32 = .ok (.iload 4, 2) := by decide +kernel
theorem dX3_begin_34 : decode cX3_begin 34 = .ok (.bipush 24, 2) := by decide +kernel
theorem dX3_begin_36 : decode cX3_begin 36 = .ok (.if_icmp .ge 19, 3) := by decide +kernel
theorem dX3_begin_39 : decode cX3_begin 39 = .ok (.aload_n 0, 1) := by decide +kernel
theorem dX3_begin_40 : decode cX3_begin 40 = .ok (.getfield 13, 3) := by decide +kernel
theorem dX3_begin_43 : decode cX3_begin 43 = .ok (.iload_n 1, 1) := by decide +kernel
theorem dX3_begin_44 : decode cX3_begin 44 = .ok (.aaload, 1) := by decide +kernel
theorem dX3_begin_45 : decode cX3_begin 45 = .ok (.iload 4, 2) := by decide +kernel
theorem dX3_begin_47 : decode cX3_begin 47 = .ok (.iconst 0, 1) := by decide +kernel
theorem dX3_begin_48 : decode cX3_begin 48 = .ok (.iastore, 1) := by decide +kernel
theorem dX3_begin_49 : decode cX3_begin 49 = .ok (.iinc 4 1, 3) := by decide +kernel
theorem dX3_begin_52 : decode cX3_begin 52 = .ok (.goto (-20), 3) := by decide +kernel
theorem dX3_begin_55 : decode cX3_begin 55 = .ok (.aload_n 0, 1) := by decide +kernel
theorem dX3_begin_56 : decode cX3_begin 56 = .ok (.getfield 16, 3) := by decide +kernel
theorem dX3_begin_59 : decode cX3_begin 59 = .ok (.iload_n 1, 1) := by decide +kernel
theorem dX3_begin_60 : decode cX3_begin 60 = .ok (.iload_n 2, 1) := by decide +kernel
theorem dX3_begin_61 : decode cX3_begin 61 = .ok (.iastore, 1) := by decide +kernel
theorem dX3_begin_62 : decode cX3_begin 62 = .ok (.aload_n 0, 1) := by decide +kernel
theorem dX3_begin_63 : decode cX3_begin 63 = .ok (.getfield 20, 3) := by decide +kernel
theorem dX3_begin_66 : decode cX3_begin 66 = .ok (.iload_n 1, 1) := by decide +kernel
theorem dX3_begin_67 : decode cX3_begin 67 = .ok (.iload_n 3, 1) := by decide +kernel
theorem dX3_begin_68 : decode cX3_begin 68 = .ok (.iastore, 1) := by decide +kernel
theorem dX3_begin_69 : decode cX3_begin 69 = .ok (.iload_n 3, 1) := by decide +kernel
theorem dX3_begin_70 : decode cX3_begin 70 = .ok (.ireturn, 1) := by decide +kernel
theorem dX3_forget_0 : decode cX3_forget 0 = .ok (.iload_n 1, 1) := by decide +kernel
theorem dX3_forget_1 : decode cX3_forget 1 = .ok (.invokestatic 23, 3) := by decide +kernel
theorem dX3_forget_4 : decode cX3_forget 4 = .ok (.ifCond .ne 5, 3) := by decide +kernel
theorem dX3_forget_7 : decode cX3_forget 7 = .ok (.iconst (-1), 1) := by decide +kernel
theorem dX3_forget_8 : decode cX3_forget 8 = .ok (.ireturn, 1) := by decide +kernel
theorem dX3_forget_9 : decode cX3_forget 9 = .ok (.aload_n 0, 1) := by decide +kernel
theorem dX3_forget_10 : decode cX3_forget 10 = .ok (.iload_n 1, 1) := by decide +kernel
theorem dX3_forget_11 : decode cX3_forget 11 = .ok (.invokevirtual 30, 3) := by decide +kernel
theorem dX3_forget_14 : decode cX3_forget 14 = .ok (.ifCond .eq 6, 3) := by decide +kernel
theorem dX3_forget_17 : decode cX3_forget 17 = .ok (.bipush (-11), 2) := by decide +kernel
theorem dX3_forget_19 : decode cX3_forget 19 = .ok (.ireturn, 1) := by decide +kernel
theorem dX3_forget_20 : decode cX3_forget 20 = .ok (.aload_n 0, 1) := by decide +kernel
theorem dX3_forget_21 : decode cX3_forget 21 = .ok (.getfield 16, 3) := by decide +kernel
theorem dX3_forget_24 : decode cX3_forget 24 = .ok (.iload_n 1, 1) := by decide +kernel
theorem dX3_forget_25 : decode cX3_forget 25 = .ok (.iconst (-1), 1) := by decide +kernel
theorem dX3_forget_26 : decode cX3_forget 26 = .ok (.iastore, 1) := by decide +kernel
theorem dX3_forget_27 : decode cX3_forget 27 = .ok (.aload_n 0, 1) := by decide +kernel
theorem dX3_forget_28 : decode cX3_forget 28 = .ok (.getfield 20, 3) := by decide +kernel
theorem dX3_forget_31 : decode cX3_forget 31 = .ok (.iload_n 1, 1) := by decide +kernel
theorem dX3_forget_32 : decode cX3_forget 32 = .ok (.iaload, 1) := by decide +kernel
theorem dX3_forget_33 : decode cX3_forget 33 = .ok (.ireturn, 1) := by decide +kernel
theorem dX3_refusal_0 : decode cX3_refusal 0 = .ok (.iload_n 1, 1) := by decide +kernel
theorem dX3_refusal_1 : decode cX3_refusal 1 = .ok (.invokestatic 23, 3) := by decide +kernel
theorem dX3_refusal_4 : decode cX3_refusal 4 = .ok (.ifCond .eq 10, 3) := by decide +kernel
theorem dX3_refusal_7 : decode cX3_refusal 7 = .ok (.iload_n 2, 1) := by decide +kernel
theorem dX3_refusal_8 : decode cX3_refusal 8 = .ok (.invokestatic 27, 3) := by decide +kernel
theorem dX3_refusal_11 : decode cX3_refusal 11 = .ok (.ifCond .ne 5, 3) := by decide +kernel
theorem dX3_refusal_14 : decode cX3_refusal 14 = .ok (.iconst (-1), 1) := by decide +kernel
theorem dX3_refusal_15 : decode cX3_refusal 15 = .ok (.ireturn, 1) := by decide +kernel
theorem dX3_refusal_16 : decode cX3_refusal 16 = .ok (.aload_n 0, 1) := by decide +kernel
theorem dX3_refusal_17 : decode cX3_refusal 17 = .ok (.iload_n 1, 1) := by decide +kernel
theorem dX3_refusal_18 : decode cX3_refusal 18 = .ok (.invokevirtual 30, 3) := by decide +kernel
theorem dX3_refusal_21 : decode cX3_refusal 21 = .ok (.ifCond .eq 6, 3) := by decide +kernel
theorem dX3_refusal_24 : decode cX3_refusal 24 = .ok (.bipush (-11), 2) := by decide +kernel
theorem dX3_refusal_26 : decode cX3_refusal 26 = .ok (.ireturn, 1) := by decide +kernel
theorem dX3_refusal_27 : decode cX3_refusal 27 = .ok (.aload_n 0, 1) := by decide +kernel
theorem dX3_refusal_28 : decode cX3_refusal 28 = .ok (.getfield 16, 3) := by decide +kernel
theorem dX3_refusal_31 : decode cX3_refusal 31 = .ok (.iload_n 1, 1) := by decide +kernel
theorem dX3_refusal_32 : decode cX3_refusal 32 = .ok (.iaload, 1) := by decide +kernel
theorem dX3_refusal_33 : decode cX3_refusal 33 = .ok (.iload_n 2, 1) := by decide +kernel
theorem dX3_refusal_34 : decode cX3_refusal 34 = .ok (.if_icmp .eq 6, 3) := by decide +kernel
theorem dX3_refusal_37 : decode cX3_refusal 37 = .ok (.bipush (-12), 2) := by decide +kernel
theorem dX3_refusal_39 : decode cX3_refusal 39 = .ok (.ireturn, 1) := by decide +kernel
theorem dX3_refusal_40 : decode cX3_refusal 40 = .ok (.aload_n 0, 1) := by decide +kernel
theorem dX3_refusal_41 : decode cX3_refusal 41 = .ok (.iload_n 1, 1) := by decide +kernel
theorem dX3_refusal_42 : decode cX3_refusal 42 = .ok (.iload_n 3, 1) := by decide +kernel
theorem dX3_refusal_43 : decode cX3_refusal 43 = .ok (.iload 4, 2) := by decide +kernel
theorem dX3_refusal_45 : decode cX3_refusal 45 = .ok (.invokevirtual 33, 3) := by decide +kernel
theorem dX3_refusal_48 : decode cX3_refusal 48 = .ok (.ifCond .eq 7, 3) := by decide +kernel
theorem dX3_refusal_51 : decode cX3_refusal 51 = .ok (.iconst 0, 1) := by decide +kernel
theorem dX3_refusal_52 : decode cX3_refusal 52 = .ok (.goto 5, 3) := by decide +kernel
theorem dX3_refusal_55 : decode cX3_refusal 55 = .ok (.bipush (-13), 2) := by decide +kernel
theorem dX3_refusal_57 : decode cX3_refusal 57 = .ok (.ireturn, 1) := by decide +kernel
theorem dX3_get_0 : decode cX3_get 0 = .ok (.aload_n 0, 1) := by decide +kernel
theorem dX3_get_1 : decode cX3_get 1 = .ok (.getfield 13, 3) := by decide +kernel
theorem dX3_get_4 : decode cX3_get 4 = .ok (.iload_n 1, 1) := by decide +kernel
theorem dX3_get_5 : decode cX3_get 5 = .ok (.aaload, 1) := by decide +kernel
theorem dX3_get_6 : decode cX3_get 6 = .ok (.iload_n 2, 1) := by decide +kernel
theorem dX3_get_7 : decode cX3_get 7 = .ok (.iaload, 1) := by decide +kernel
theorem dX3_get_8 : decode cX3_get 8 = .ok (.ireturn, 1) := by decide +kernel
theorem dX3_put_0 : decode cX3_put 0 = .ok (.aload_n 0, 1) := by decide +kernel
theorem dX3_put_1 : decode cX3_put 1 = .ok (.getfield 16, 3) := by decide +kernel
theorem dX3_put_4 : decode cX3_put 4 = .ok (.iload_n 1, 1) := by decide +kernel
theorem dX3_put_5 : decode cX3_put 5 = .ok (.iaload, 1) := by decide +kernel
theorem dX3_put_6 : decode cX3_put 6 = .ok (.istore 4, 2) := by decide +kernel
theorem dX3_put_8 : decode cX3_put 8 = .ok (.aload_n 0, 1) := by decide +kernel
theorem dX3_put_9 : decode cX3_put 9 = .ok (.getfield 13, 3) := by decide +kernel
theorem dX3_put_12 : decode cX3_put 12 = .ok (.iload_n 1, 1) := by decide +kernel
theorem dX3_put_13 : decode cX3_put 13 = .ok (.aaload, 1) := by decide +kernel
theorem dX3_put_14 : decode cX3_put 14 = .ok (.iload_n 2, 1) := by decide +kernel
theorem dX3_put_15 : decode cX3_put 15 = .ok (.iload 4, 2) := by decide +kernel
theorem dX3_put_17 : decode cX3_put 17 = .ok (.ifCond .ne 8, 3) := by decide +kernel
theorem dX3_put_20 : decode cX3_put 20 = .ok (.iload_n 3, 1) := by decide +kernel
theorem dX3_put_21 : decode cX3_put 21 = .ok (.i2b, 1) := by decide +kernel
theorem dX3_put_22 : decode cX3_put 22 = .ok (.goto 15, 3) := by decide +kernel
theorem dX3_put_25 : decode cX3_put 25 = .ok (.iload 4, 2) := by decide +kernel
theorem dX3_put_27 : decode cX3_put 27 = .ok (.iconst 2, 1) := by decide +kernel
theorem dX3_put_28 : decode cX3_put 28 = .ok (.if_icmp .ne 7, 3) := by decide +kernel
theorem dX3_put_31 : decode cX3_put 31 = .ok (.iload_n 3, 1) := by decide +kernel
theorem dX3_put_32 : decode cX3_put 32 = .ok (.goto 5, 3) := by decide +kernel
theorem dX3_put_35 : decode cX3_put 35 = .ok (.iload_n 3, 1) := by decide +kernel
theorem dX3_put_36 : decode cX3_put 36 = .ok (.i2s, 1) := by decide +kernel
theorem dX3_put_37 : decode cX3_put 37 = .ok (.iastore, 1) := by decide +kernel
theorem dX3_put_38 : decode cX3_put 38 = .ok (.return_, 1) := by decide +kernel
theorem dX3_move_0 : decode cX3_move 0 = .ok (.iload_n 1, 1) := by decide +kernel
theorem dX3_move_1 : decode cX3_move 1 = .ok (.invokestatic 23, 3) := by decide +kernel
theorem dX3_move_4 : decode cX3_move 4 = .ok (.ifCond .eq 10, 3) := by decide +kernel
theorem dX3_move_7 : decode cX3_move 7 = .ok (.iload_n 3, 1) := by decide +kernel
theorem dX3_move_8 : decode cX3_move 8 = .ok (.invokestatic 23, 3) := by decide +kernel
theorem dX3_move_11 : decode cX3_move 11 = .ok (.ifCond .ne 5, 3) := by decide +kernel
theorem dX3_move_14 : decode cX3_move 14 = .ok (.iconst (-1), 1) := by decide +kernel
theorem dX3_move_15 : decode cX3_move 15 = .ok (.ireturn, 1) := by decide +kernel
theorem dX3_move_16 : decode cX3_move 16 = .ok (.aload_n 0, 1) := by decide +kernel
theorem dX3_move_17 : decode cX3_move 17 = .ok (.iload_n 1, 1) := by decide +kernel
theorem dX3_move_18 : decode cX3_move 18 = .ok (.invokevirtual 30, 3) := by decide +kernel
theorem dX3_move_21 : decode cX3_move 21 = .ok (.ifCond .ne 11, 3) := by decide +kernel
theorem dX3_move_24 : decode cX3_move 24 = .ok (.aload_n 0, 1) := by decide +kernel
theorem dX3_move_25 : decode cX3_move 25 = .ok (.iload_n 3, 1) := by decide +kernel
theorem dX3_move_26 : decode cX3_move 26 = .ok (.invokevirtual 30, 3) := by decide +kernel
theorem dX3_move_29 : decode cX3_move 29 = .ok (.ifCond .eq 6, 3) := by decide +kernel
theorem dX3_move_32 : decode cX3_move 32 = .ok (.bipush (-11), 2) := by decide +kernel
theorem dX3_move_34 : decode cX3_move 34 = .ok (.ireturn, 1) := by decide +kernel
theorem dX3_move_35 : decode cX3_move 35 = .ok (.aload_n 0, 1) := by decide +kernel
theorem dX3_move_36 : decode cX3_move 36 = .ok (.getfield 16, 3) := by decide +kernel
theorem dX3_move_39 : decode cX3_move 39 = .ok (.iload_n 1, 1) := by decide +kernel
theorem dX3_move_40 : decode cX3_move 40 = .ok (.iaload, 1) := by decide +kernel
theorem dX3_move_41 : decode cX3_move 41 = .ok (.aload_n 0, 1) := by decide +kernel
theorem dX3_move_42 : decode cX3_move 42 = .ok (.getfield 16, 3) := by decide +kernel
theorem dX3_move_45 : decode cX3_move 45 = .ok (.iload_n 3, 1) := by decide +kernel
theorem dX3_move_46 : decode cX3_move 46 = .ok (.iaload, 1) := by decide +kernel
theorem dX3_move_47 : decode cX3_move 47 = .ok (.if_icmp .eq 6, 3) := by decide +kernel
theorem dX3_move_50 : decode cX3_move 50 = .ok (.bipush (-12), 2) := by decide +kernel
theorem dX3_move_52 : decode cX3_move 52 = .ok (.ireturn, 1) := by decide +kernel
theorem dX3_move_53 : decode cX3_move 53 = .ok (.aload_n 0, 1) := by decide +kernel
theorem dX3_move_54 : decode cX3_move 54 = .ok (.iload_n 1, 1) := by decide +kernel
theorem dX3_move_55 : decode cX3_move 55 = .ok (.iload_n 2, 1) := by decide +kernel
theorem dX3_move_56 : decode cX3_move 56 = .ok (.iload 5, 2) := by decide +kernel
theorem dX3_move_58 : decode cX3_move 58 = .ok (.invokevirtual 33, 3) := by decide +kernel
theorem dX3_move_61 : decode cX3_move 61 = .ok (.ifCond .eq 15, 3) := by decide +kernel
theorem dX3_move_64 : decode cX3_move 64 = .ok (.aload_n 0, 1) := by decide +kernel
theorem dX3_move_65 : decode cX3_move 65 = .ok (.iload_n 3, 1) := by decide +kernel
theorem dX3_move_66 : decode cX3_move 66 = .ok (.iload 4, 2) := by decide +kernel
theorem dX3_move_68 : decode cX3_move 68 = .ok (.iload 5, 2) := by decide +kernel
theorem dX3_move_70 : decode cX3_move 70 = .ok (.invokevirtual 33, 3) := by decide +kernel
theorem dX3_move_73 : decode cX3_move 73 = .ok (.ifCond .ne 6, 3) := by decide +kernel
theorem dX3_move_76 : decode cX3_move 76 = .ok (.bipush (-13), 2) := by decide +kernel
theorem dX3_move_78 : decode cX3_move 78 = .ok (.ireturn, 1) := by decide +kernel
theorem dX3_move_79 : decode cX3_move 79 = .ok (.aload_n 0, 1) := by decide +kernel
theorem dX3_move_80 : decode cX3_move 80 = .ok (.getfield 13, 3) := by decide +kernel
theorem dX3_move_83 : decode cX3_move 83 = .ok (.iload_n 1, 1) := by decide +kernel
theorem dX3_move_84 : decode cX3_move 84 = .ok (.aaload, 1) := by decide +kernel
theorem dX3_move_85 : decode cX3_move 85 = .ok (.iload_n 2, 1) := by decide +kernel
theorem dX3_move_86 : decode cX3_move 86 = .ok (.aload_n 0, 1) := by decide +kernel
theorem dX3_move_87 : decode cX3_move 87 = .ok (.getfield 13, 3) := by decide +kernel
theorem dX3_move_90 : decode cX3_move 90 = .ok (.iload_n 3, 1) := by decide +kernel
theorem dX3_move_91 : decode cX3_move 91 = .ok (.aaload, 1) := by decide +kernel
theorem dX3_move_92 : decode cX3_move 92 = .ok (.iload 4, 2) := by decide +kernel
theorem dX3_move_94 : decode cX3_move 94 = .ok (.iload 5, 2) := by decide +kernel
theorem dX3_move_96 : decode cX3_move 96 = .ok (.invokestatic 37, 3) := by decide +kernel
theorem dX3_move_99 : decode cX3_move 99 = .ok (.iload 5, 2) := by decide +kernel
theorem dX3_move_101 : decode cX3_move 101 = .ok (.ireturn, 1) := by decide +kernel
theorem dX3_isSheet_0 : decode cX3_isSheet 0 = .ok (.iload_n 0, 1) := by decide +kernel
theorem dX3_isSheet_1 : decode cX3_isSheet 1 = .ok (.iconst 0, 1) := by decide +kernel
theorem dX3_isSheet_2 : decode cX3_isSheet 2 = .ok (.iconst 3, 1) := by decide +kernel
theorem dX3_isSheet_3 : decode cX3_isSheet 3 = .ok (.invokestatic 43, 3) := by decide +kernel
theorem dX3_isSheet_6 : decode cX3_isSheet 6 = .ok (.ireturn, 1) := by decide +kernel
theorem dX3_isLane_0 : decode cX3_isLane 0 = .ok (.iload_n 0, 1) := by decide +kernel
theorem dX3_isLane_1 : decode cX3_isLane 1 = .ok (.iconst 0, 1) := by decide +kernel
theorem dX3_isLane_2 : decode cX3_isLane 2 = .ok (.iconst 2, 1) := by decide +kernel
theorem dX3_isLane_3 : decode cX3_isLane 3 = .ok (.invokestatic 43, 3) := by decide +kernel
theorem dX3_isLane_6 : decode cX3_isLane 6 = .ok (.ireturn, 1) := by decide +kernel
theorem dX3_isNothing_0 : decode cX3_isNothing 0 = .ok (.aload_n 0, 1) := by decide +kernel
theorem dX3_isNothing_1 : decode cX3_isNothing 1 = .ok (.getfield 16, 3) := by decide +kernel
theorem dX3_isNothing_4 : decode cX3_isNothing 4 = .ok (.iload_n 1, 1) := by decide +kernel
theorem dX3_isNothing_5 : decode cX3_isNothing 5 = .ok (.iaload, 1) := by decide +kernel
theorem dX3_isNothing_6 : decode cX3_isNothing 6 = .ok (.iconst (-1), 1) := by decide +kernel
theorem dX3_isNothing_7 : decode cX3_isNothing 7 = .ok (.if_icmp .ne 7, 3) := by decide +kernel
theorem dX3_isNothing_10 : decode cX3_isNothing 10 = .ok (.iconst 1, 1) := by decide +kernel
theorem dX3_isNothing_11 : decode cX3_isNothing 11 = .ok (.goto 4, 3) := by decide +kernel
theorem dX3_isNothing_14 : decode cX3_isNothing 14 = .ok (.iconst 0, 1) := by decide +kernel
theorem dX3_isNothing_15 : decode cX3_isNothing 15 = .ok (.ireturn, 1) := by decide +kernel
theorem dX3_hasItems_0 : decode cX3_hasItems 0 = .ok (.iload_n 2, 1) := by decide +kernel
theorem dX3_hasItems_1 : decode cX3_hasItems 1 = .ok (.ifCond .lt 33, 3) := by decide +kernel
theorem dX3_hasItems_4 : decode cX3_hasItems 4 = .ok (.iload_n 3, 1) := by decide +kernel
theorem dX3_hasItems_5 : decode cX3_hasItems 5 = .ok (.ifCond .lt 29, 3) := by decide +kernel
theorem dX3_hasItems_8 : decode cX3_hasItems 8 = .ok (.iload_n 3, 1) := by decide +kernel
theorem dX3_hasItems_9 : decode cX3_hasItems 9 = .ok (.aload_n 0, 1) := by decide +kernel
theorem dX3_hasItems_10 : decode cX3_hasItems 10 = .ok (.getfield 20, 3) := by decide +kernel
theorem dX3_hasItems_13 : decode cX3_hasItems 13 = .ok (.iload_n 1, 1) := by decide +kernel
theorem dX3_hasItems_14 : decode cX3_hasItems 14 = .ok (.iaload, 1) := by decide +kernel
theorem dX3_hasItems_15 : decode cX3_hasItems 15 = .ok (.if_icmp .gt 19, 3) := by decide +kernel
theorem dX3_hasItems_18 : decode cX3_hasItems 18 = .ok (.iload_n 2, 1) := by decide +kernel
theorem dX3_hasItems_19 : decode cX3_hasItems 19 = .ok (.aload_n 0, 1) := by decide +kernel
theorem dX3_hasItems_20 : decode cX3_hasItems 20 = .ok (.getfield 20, 3) := by decide +kernel
theorem dX3_hasItems_23 : decode cX3_hasItems 23 = .ok (.iload_n 1, 1) := by decide +kernel
theorem dX3_hasItems_24 : decode cX3_hasItems 24 = .ok (.iaload, 1) := by decide +kernel
theorem dX3_hasItems_25 : decode cX3_hasItems 25 = .ok (.iload_n 3, 1) := by decide +kernel
theorem dX3_hasItems_26 : decode cX3_hasItems 26 = .ok (.isub, 1) := by decide +kernel
theorem dX3_hasItems_27 : decode cX3_hasItems 27 = .ok (.if_icmp .gt 7, 3) := by decide +kernel
theorem dX3_hasItems_30 : decode cX3_hasItems 30 = .ok (.iconst 1, 1) := by decide +kernel
theorem dX3_hasItems_31 : decode cX3_hasItems 31 = .ok (.goto 4, 3) := by decide +kernel
theorem dX3_hasItems_34 : decode cX3_hasItems 34 = .ok (.iconst 0, 1) := by decide +kernel
theorem dX3_hasItems_35 : decode cX3_hasItems 35 = .ok (.ireturn, 1) := by decide +kernel
theorem dX4_init_0 : decode cX4_init 0 = .ok (.aload_n 0, 1) := by decide +kernel
theorem dX4_init_1 : decode cX4_init 1 = .ok (.invokespecial 3, 3) := by decide +kernel
theorem dX4_init_4 : decode cX4_init 4 = .ok (.aload_n 0, 1) := by decide +kernel
theorem dX4_init_5 : decode cX4_init 5 = .ok (.bipush 48, 2) := by decide +kernel
theorem dX4_init_7 : decode cX4_init 7 = .ok (.newarray .int, 2) := by decide +kernel
theorem dX4_init_9 : decode cX4_init 9 = .ok (.putfield 9, 3) := by decide +kernel
theorem dX4_init_12 : decode cX4_init 12 = .ok (.aload_n 0, 1) := by decide +kernel
theorem dX4_init_13 : decode cX4_init 13 = .ok (.bipush 100, 2) := by decide +kernel
theorem dX4_init_15 : decode cX4_init 15 = .ok (.newarray .byte, 2) := by decide +kernel
theorem dX4_init_17 : decode cX4_init 17 = .ok (.putfield 15, 3) := by decide +kernel
theorem dX4_init_20 : decode cX4_init 20 = .ok (.aload_n 0, 1) := by decide +kernel
theorem dX4_init_21 : decode cX4_init 21 = .ok (.iconst 0, 1) := by decide +kernel
theorem dX4_init_22 : decode cX4_init 22 = .ok (.putfield 19, 3) := by decide +kernel
theorem dX4_init_25 : decode cX4_init 25 = .ok (.aload_n 0, 1) := by decide +kernel
theorem dX4_init_26 : decode cX4_init 26 = .ok (.iconst 0, 1) := by decide +kernel
theorem dX4_init_27 : decode cX4_init 27 = .ok (.putfield 23, 3) := by decide +kernel
theorem dX4_init_30 : decode cX4_init 30 = .ok (.aload_n 0, 1) := by decide +kernel
theorem dX4_init_31 : decode cX4_init 31 = .ok (.iconst 0, 1) := by decide +kernel
theorem dX4_init_32 : decode cX4_init 32 = .ok (.putfield 26, 3) := by decide +kernel
theorem dX4_init_35 : decode cX4_init 35 = .ok (.return_, 1) := by decide +kernel
theorem dX4_append_0 : decode cX4_append 0 = .ok (.iload_n 3, 1) := by decide +kernel
theorem dX4_append_1 : decode cX4_append 1 = .ok (.iconst 1, 1) := by decide +kernel
theorem dX4_append_2 : decode cX4_append 2 = .ok (.bipush 8, 2) := by decide +kernel
theorem dX4_append_4 : decode cX4_append 4 = .ok (.invokestatic 29, 3) := by decide +kernel
theorem dX4_append_7 : decode cX4_append 7 = .ok (.ifCond .ne 5, 3) := by decide +kernel
theorem dX4_append_10 : decode cX4_append 10 = .ok (.iconst (-1), 1) := by decide +kernel
theorem dX4_append_11 : decode cX4_append 11 = .ok (.ireturn, 1) := by decide +kernel
theorem dX4_append_12 : decode cX4_append 12 = .ok (.iconst 0, 1) := by decide +kernel
theorem dX4_append_13 : decode cX4_append 13 = .ok (.istore 4, 2) := by decide +kernel
theorem dX4_append_15 : decode cX4_append 15 = .ok (.iload 4, 2) := by decide +kernel
theorem dX4_append_17 : decode cX4_append 17 = .ok (.iload_n 3, 1) := by decide +kernel
theorem dX4_append_18 : decode cX4_append 18 = .ok (.if_icmp .ge 33, 3) := by decide +kernel
theorem dX4_append_21 : decode cX4_append 21 = .ok (.lload_n 1, 1) := by decide +kernel
theorem dX4_append_22 : decode cX4_append 22 = .ok (.bipush 8, 2) := by decide +kernel
theorem dX4_append_24 : decode cX4_append 24 = .ok (.iload 4, 2) := by decide +kernel
theorem dX4_append_26 : decode cX4_append 26 = .ok (.imul, 1) := by decide +kernel
theorem dX4_append_27 : decode cX4_append 27 = .ok (.lushr, 1) := by decide +kernel
theorem dX4_append_28 : decode cX4_append 28 = .ok (.ldc2_w 33, 3) := by decide +kernel
theorem dX4_append_31 : decode cX4_append 31 = .ok (.land, 1) := by decide +kernel
theorem dX4_append_32 : decode cX4_append 32 = .ok (.l2i, 1) := by decide +kernel
theorem dX4_append_33 : decode cX4_append 33 = .ok (.bipush 32, 2) := by decide +kernel
theorem dX4_append_35 : decode cX4_append 35 = .ok (.bipush 126, 2) := by decide +kernel
theorem dX4_append_37 : decode cX4_append 37 = .ok (.invokestatic 29, 3) := by decide +kernel
theorem dX4_append_40 : decode cX4_append 40 = .ok (.ifCond .ne 5, 3) := by decide +kernel
theorem dX4_append_43 : decode cX4_append 43 = .ok (.iconst (-1), 1) := by decide +kernel
theorem dX4_append_44 : decode cX4_append 44 = .ok (.ireturn, 1) := by decide +kernel
theorem dX4_append_45 : decode cX4_append 45 = .ok (.iinc 4 1, 3) := by decide +kernel
theorem dX4_append_48 : decode cX4_append 48 = .ok (.goto (-33), 3) := by decide +kernel
theorem dX4_append_51 : decode cX4_append 51 = .ok (.aload_n 0, 1) := by decide +kernel
theorem dX4_append_52 : decode cX4_append 52 = .ok (.getfield 19, 3) := by decide +kernel
theorem dX4_append_55 : decode cX4_append 55 = .ok (.iload_n 3, 1) := by decide +kernel
theorem dX4_append_56 : decode cX4_append 56 = .ok (.iadd, 1) := by decide +kernel
theorem dX4_append_57 : decode cX4_append 57 = .ok (.bipush 100, 2) := by decide +kernel
theorem dX4_append_59 : decode cX4_append 59 = .ok (.if_icmp .le 6, 3) := by decide +kernel
theorem dX4_append_62 : decode cX4_append 62 = .ok (.bipush (-3), 2) := by decide +kernel
theorem dX4_append_64 : decode cX4_append 64 = .ok (.ireturn, 1) := by decide +kernel
theorem dX4_append_65 : decode cX4_append 65 = .ok (.iload_n 3, 1) := by decide +kernel
theorem dX4_append_66 : decode cX4_append 66 = .ok (.iconst 1, 1) := by decide +kernel
theorem dX4_append_67 : decode cX4_append 67 = .ok (.isub, 1) := by decide +kernel
theorem dX4_append_68 : decode cX4_append 68 = .ok (.istore 4, 2) := by decide +kernel
theorem dX4_append_70 : decode cX4_append 70 = .ok (.iload 4, 2) := by decide +kernel
theorem dX4_append_72 : decode cX4_append 72 = .ok (.ifCond .lt 41, 3) := by decide +kernel
theorem dX4_append_75 : decode cX4_append 75 = .ok (.aload_n 0, 1) := by decide +kernel
theorem dX4_append_76 : decode cX4_append 76 = .ok (.getfield 15, 3) := by decide +kernel
theorem dX4_append_79 : decode cX4_append 79 = .ok (.aload_n 0, 1) := by decide +kernel
theorem dX4_append_80 : decode cX4_append 80 = .ok (.getfield 19, 3) := by decide +kernel
theorem dX4_append_83 : decode cX4_append 83 = .ok (.lload_n 1, 1) := by decide +kernel
theorem dX4_append_84 : decode cX4_append 84 = .ok (.bipush 8, 2) := by decide +kernel
theorem dX4_append_86 : decode cX4_append 86 = .ok (.iload 4, 2) := by decide +kernel
theorem dX4_append_88 : decode cX4_append 88 = .ok (.imul, 1) := by decide +kernel
theorem dX4_append_89 : decode cX4_append 89 = .ok (.lushr, 1) := by decide +kernel
theorem dX4_append_90 : decode cX4_append 90 = .ok (.ldc2_w 33, 3) := by decide +kernel
theorem dX4_append_93 : decode cX4_append 93 = .ok (.land, 1) := by decide +kernel
theorem dX4_append_94 : decode cX4_append 94 = .ok (.l2i, 1) := by decide +kernel
theorem dX4_append_95 : decode cX4_append 95 = .ok (.i2b, 1) := by decide +kernel
theorem dX4_append_96 : decode cX4_append 96 = .ok (.bastore, 1) := by decide +kernel
theorem dX4_append_97 : decode cX4_append 97 = .ok (.aload_n 0, 1) := by decide +kernel
theorem dX4_append_98 : decode cX4_append 98 = .ok (.dup, 1) := by decide +kernel
theorem dX4_append_99 : decode cX4_append 99 = .ok (.getfield 19, 3) := by decide +kernel
theorem dX4_append_102 : decode cX4_append 102 = .ok (.iconst 1, 1) := by decide +kernel
theorem dX4_append_103 : decode cX4_append 103 = .ok (.iadd, 1) := by decide +kernel
theorem dX4_append_104 : decode cX4_append 104 = .ok (.putfield 19, 3) := by decide +kernel
theorem dX4_append_107 : decode cX4_append 107 = .ok (.iinc 4 (-1), 3) := by decide +kernel
theorem dX4_append_110 : decode cX4_append 110 = .ok (.goto (-40), 3) := by decide +kernel
theorem dX4_append_113 : decode cX4_append 113 = .ok (.aload_n 0, 1) := by decide +kernel
theorem dX4_append_114 : decode cX4_append 114 = .ok (.getfield 19, 3) := by decide +kernel
theorem dX4_append_117 : decode cX4_append 117 = .ok (.ireturn, 1) := by decide +kernel
theorem dX4_readChannel_0 : decode cX4_readChannel 0 = .ok (.aload_n 0, 1) := by decide +kernel
theorem dX4_readChannel_1 : decode cX4_readChannel 1 = .ok (.invokevirtual 35, 3) := by decide +kernel
theorem dX4_readChannel_4 : decode cX4_readChannel 4 = .ok (.iconst 0, 1) := by decide +kernel
theorem dX4_readChannel_5 : decode cX4_readChannel 5 = .ok (.istore_n 1, 1) := by decide +kernel
theorem dX4_readChannel_6 : decode cX4_readChannel 6 = .ok (.aload_n 0, 1) := by decide +kernel
theorem dX4_readChannel_7 : decode cX4_readChannel 7 = .ok (.iload_n 1, 1) := by decide +kernel
theorem dX4_readChannel_8 : decode cX4_readChannel 8 = .ok (.bipush 6, 2) := by decide +kernel
theorem dX4_readChannel_10 : decode cX4_readChannel 10 = .ok (.imul, 1) := by decide +kernel
theorem dX4_readChannel_11 : decode cX4_readChannel 11 = .ok (.invokevirtual 38, 3) := by decide +kernel
theorem dX4_readChannel_14 : decode cX4_readChannel 14 = .ok (.iinc 1 1, 3) := by decide +kernel
theorem dX4_readChannel_17 : decode cX4_readChannel 17 = .ok (.iload_n 1, 1) := by decide +kernel
theorem dX4_readChannel_18 : decode cX4_readChannel 18 = .ok (.bipush 8, 2) := by decide +kernel
theorem dX4_readChannel_20 : decode cX4_readChannel 20 = .ok (.if_icmp .ge 12, 3) := by decide +kernel
theorem dX4_readChannel_23 : decode cX4_readChannel 23 = .ok (.aload_n 0, 1) := by decide +kernel
theorem dX4_readChannel_24 : decode cX4_readChannel 24 = .ok (.bipush 59, 2) := by decide +kernel
theorem dX4_readChannel_26 : decode cX4_readChannel 26 = .ok (.invokevirtual 42, 3) := by decide +kernel
theorem dX4_readChannel_29 : decode cX4_readChannel 29 = .ok (.ifCond .ne (-23), 3) := by decide +kernel
theorem dX4_readChannel_32 : decode cX4_readChannel 32 = .ok (.aload_n 0, 1) := by decide +kernel
theorem dX4_readChannel_33 : decode cX4_readChannel 33 = .ok (.iload_n 1, 1) := by decide +kernel
theorem dX4_readChannel_34 : decode cX4_readChannel 34 = .ok (.invokevirtual 46, 3) := by decide +kernel
theorem dX4_readChannel_37 : decode cX4_readChannel 37 = .ok (.ireturn, 1) := by decide +kernel
theorem dX4_readTide_0 : decode cX4_readTide 0 = .ok (.aload_n 0, 1) := by decide +kernel
theorem dX4_readTide_1 : decode cX4_readTide 1 = .ok (.invokevirtual 35, 3) := by decide +kernel
theorem dX4_readTide_4 : decode cX4_readTide 4 = .ok (.iconst 0, 1) := by decide +kernel
theorem dX4_readTide_5 : decode cX4_readTide 5 = .ok (.istore_n 1, 1) := by decide +kernel
theorem dX4_readTide_6 : decode cX4_readTide 6 = .ok (.iconst 0, 1) := by decide +kernel
theorem dX4_readTide_7 : decode cX4_readTide 7 = .ok (.istore_n 2, 1) := by decide +kernel
theorem dX4_readTide_8 : decode cX4_readTide 8 = .ok (.iload_n 2, 1) := by decide +kernel
theorem dX4_readTide_9 : decode cX4_readTide 9 = .ok (.bipush 24, 2) := by decide +kernel
theorem dX4_readTide_11 : decode cX4_readTide 11 = .ok (.if_icmp .ge 43, 3) := by decide +kernel
theorem dX4_readTide_14 : decode cX4_readTide 14 = .ok (.iload_n 2, 1) := by decide +kernel
theorem dX4_readTide_15 : decode cX4_readTide 15 = .ok (.ifCond .le 9, 3) := by decide +kernel
theorem dX4_readTide_18 : decode cX4_readTide 18 = .ok (.aload_n 0, 1) := by decide +kernel
theorem dX4_readTide_19 : decode cX4_readTide 19 = .ok (.bipush 44, 2) := by decide +kernel
theorem dX4_readTide_21 : decode cX4_readTide 21 = .ok (.invokevirtual 50, 3) := by decide +kernel
theorem dX4_readTide_24 : decode cX4_readTide 24 = .ok (.aload_n 0, 1) := by decide +kernel
theorem dX4_readTide_25 : decode cX4_readTide 25 = .ok (.getfield 9, 3) := by decide +kernel
theorem dX4_readTide_28 : decode cX4_readTide 28 = .ok (.iload_n 2, 1) := by decide +kernel
theorem dX4_readTide_29 : decode cX4_readTide 29 = .ok (.aload_n 0, 1) := by decide +kernel
theorem dX4_readTide_30 : decode cX4_readTide 30 = .ok (.iconst 0, 1) := by decide +kernel
theorem dX4_readTide_31 : decode cX4_readTide 31 = .ok (.bipush 99, 2) := by decide +kernel
theorem dX4_readTide_33 : decode cX4_readTide 33 = .ok (.invokevirtual 54, 3) := by decide +kernel
theorem dX4_readTide_36 : decode cX4_readTide 36 = .ok (.iastore, 1) := by decide +kernel
theorem dX4_readTide_37 : decode cX4_readTide 37 = .ok (.iload_n 1, 1) := by decide +kernel
theorem dX4_readTide_38 : decode cX4_readTide 38 = .ok (.aload_n 0, 1) := by decide +kernel
theorem dX4_readTide_39 : decode cX4_readTide 39 = .ok (.getfield 9, 3) := by decide +kernel
theorem dX4_readTide_42 : decode cX4_readTide 42 = .ok (.iload_n 2, 1) := by decide +kernel
theorem dX4_readTide_43 : decode cX4_readTide 43 = .ok (.iaload, 1) := by decide +kernel
theorem dX4_readTide_44 : decode cX4_readTide 44 = .ok (.invokestatic 58, 3) := by decide +kernel
theorem dX4_readTide_47 : decode cX4_readTide 47 = .ok (.istore_n 1, 1) := by decide +kernel
theorem dX4_readTide_48 : decode cX4_readTide 48 = .ok (.iinc 2 1, 3) := by decide +kernel
theorem dX4_readTide_51 : decode cX4_readTide 51 = .ok (.goto (-43), 3) := by decide +kernel
theorem dX4_readTide_54 : decode cX4_readTide 54 = .ok (.aload_n 0, 1) := by decide +kernel
theorem dX4_readTide_55 : decode cX4_readTide 55 = .ok (.iload_n 1, 1) := by decide +kernel
theorem dX4_readTide_56 : decode cX4_readTide 56 = .ok (.invokevirtual 46, 3) := by decide +kernel
theorem dX4_readTide_59 : decode cX4_readTide 59 = .ok (.ireturn, 1) := by decide +kernel
theorem dX4_readMile_0 : decode cX4_readMile 0 = .ok (.aload_n 0, 1) := by decide +kernel
theorem dX4_readMile_1 : decode cX4_readMile 1 = .ok (.getfield 9, 3) := by decide +kernel
theorem dX4_readMile_4 : decode cX4_readMile 4 = .ok (.iload_n 1, 1) := by decide +kernel
theorem dX4_readMile_5 : decode cX4_readMile 5 = .ok (.iconst 0, 1) := by decide +kernel
theorem dX4_readMile_6 : decode cX4_readMile 6 = .ok (.iadd, 1) := by decide +kernel
theorem dX4_readMile_7 : decode cX4_readMile 7 = .ok (.aload_n 0, 1) := by decide +kernel
theorem dX4_readMile_8 : decode cX4_readMile 8 = .ok (.iconst 0, 1) := by decide +kernel
theorem dX4_readMile_9 : decode cX4_readMile 9 = .ok (.invokevirtual 63, 3) := by decide +kernel
theorem dX4_readMile_12 : decode cX4_readMile 12 = .ok (.iastore, 1) := by decide +kernel
theorem dX4_readMile_13 : decode cX4_readMile 13 = .ok (.aload_n 0, 1) := by decide +kernel
theorem dX4_readMile_14 : decode cX4_readMile 14 = .ok (.bipush 119, 2) := by decide +kernel
theorem dX4_readMile_16 : decode cX4_readMile 16 = .ok (.invokevirtual 50, 3) := by decide +kernel
theorem dX4_readMile_19 : decode cX4_readMile 19 = .ok (.aload_n 0, 1) := by decide +kernel
theorem dX4_readMile_20 : decode cX4_readMile 20 = .ok (.getfield 9, 3) := by decide +kernel
theorem dX4_readMile_23 : decode cX4_readMile 23 = .ok (.iload_n 1, 1) := by decide +kernel
theorem dX4_readMile_24 : decode cX4_readMile 24 = .ok (.iconst 1, 1) := by decide +kernel
theorem dX4_readMile_25 : decode cX4_readMile 25 = .ok (.iadd, 1) := by decide +kernel
theorem dX4_readMile_26 : decode cX4_readMile 26 = .ok (.aload_n 0, 1) := by decide +kernel
theorem dX4_readMile_27 : decode cX4_readMile 27 = .ok (.iconst 1, 1) := by decide +kernel
theorem dX4_readMile_28 : decode cX4_readMile 28 = .ok (.invokevirtual 63, 3) := by decide +kernel
theorem dX4_readMile_31 : decode cX4_readMile 31 = .ok (.iastore, 1) := by decide +kernel
theorem dX4_readMile_32 : decode cX4_readMile 32 = .ok (.aload_n 0, 1) := by decide +kernel
theorem dX4_readMile_33 : decode cX4_readMile 33 = .ok (.getfield 9, 3) := by decide +kernel
theorem dX4_readMile_36 : decode cX4_readMile 36 = .ok (.iload_n 1, 1) := by decide +kernel
theorem dX4_readMile_37 : decode cX4_readMile 37 = .ok (.iconst 2, 1) := by decide +kernel
theorem dX4_readMile_38 : decode cX4_readMile 38 = .ok (.iadd, 1) := by decide +kernel
theorem dX4_readMile_39 : decode cX4_readMile 39 = .ok (.aload_n 0, 1) := by decide +kernel
theorem dX4_readMile_40 : decode cX4_readMile 40 = .ok (.bipush 115, 2) := by decide +kernel
theorem dX4_readMile_42 : decode cX4_readMile 42 = .ok (.invokevirtual 42, 3) := by decide +kernel
theorem dX4_readMile_45 : decode cX4_readMile 45 = .ok (.ifCond .eq 10, 3) := by decide +kernel
theorem dX4_readMile_48 : decode cX4_readMile 48 = .ok (.aload_n 0, 1) := by decide +kernel
theorem dX4_readMile_49 : decode cX4_readMile 49 = .ok (.invokevirtual 66, 3) := by decide +kernel
theorem dX4_readMile_52 : decode cX4_readMile 52 = .ok (.goto 5, 3) := by decide +kernel
theorem dX4_readMile_55 : decode cX4_readMile 55 = .ok (.bipush 9, 2) := by decide +kernel
theorem dX4_readMile_57 : decode cX4_readMile 57 = .ok (.iastore, 1) := by decide +kernel
theorem dX4_readMile_58 : decode cX4_readMile 58 = .ok (.aload_n 0, 1) := by decide +kernel
theorem dX4_readMile_59 : decode cX4_readMile 59 = .ok (.getfield 9, 3) := by decide +kernel
theorem dX4_readMile_62 : decode cX4_readMile 62 = .ok (.iload_n 1, 1) := by decide +kernel
theorem dX4_readMile_63 : decode cX4_readMile 63 = .ok (.iconst 3, 1) := by decide +kernel
theorem dX4_readMile_64 : decode cX4_readMile 64 = .ok (.iadd, 1) := by decide +kernel
theorem dX4_readMile_65 : decode cX4_readMile 65 = .ok (.aload_n 0, 1) := by decide +kernel
theorem dX4_readMile_66 : decode cX4_readMile 66 = .ok (.bipush 109, 2) := by decide +kernel
theorem dX4_readMile_68 : decode cX4_readMile 68 = .ok (.invokevirtual 42, 3) := by decide +kernel
theorem dX4_readMile_71 : decode cX4_readMile 71 = .ok (.ifCond .eq 11, 3) := by decide +kernel
theorem dX4_readMile_74 : decode cX4_readMile 74 = .ok (.aload_n 0, 1) := by decide +kernel
theorem dX4_readMile_75 : decode cX4_readMile 75 = .ok (.iconst 3, 1) := by decide +kernel
theorem dX4_readMile_76 : decode cX4_readMile 76 = .ok (.invokevirtual 63, 3) := by decide +kernel
theorem dX4_readMile_79 : decode cX4_readMile 79 = .ok (.goto 4, 3) := by decide +kernel
theorem dX4_readMile_82 : decode cX4_readMile 82 = .ok (.iconst 0, 1) := by decide +kernel
theorem dX4_readMile_83 : decode cX4_readMile 83 = .ok (.iastore, 1) := by decide +kernel
theorem dX4_readMile_84 : decode cX4_readMile 84 = .ok (.aload_n 0, 1) := by decide +kernel
theorem dX4_readMile_85 : decode cX4_readMile 85 = .ok (.getfield 9, 3) := by decide +kernel
theorem dX4_readMile_88 : decode cX4_readMile 88 = .ok (.iload_n 1, 1) := by decide +kernel
theorem dX4_readMile_89 : decode cX4_readMile 89 = .ok (.iconst 4, 1) := by decide +kernel
theorem dX4_readMile_90 : decode cX4_readMile 90 = .ok (.iadd, 1) := by decide +kernel
theorem dX4_readMile_91 : decode cX4_readMile 91 = .ok (.aload_n 0, 1) := by decide +kernel
theorem dX4_readMile_92 : decode cX4_readMile 92 = .ok (.bipush 113, 2) := by decide +kernel
theorem dX4_readMile_94 : decode cX4_readMile 94 = .ok (.invokevirtual 42, 3) := by decide +kernel
theorem dX4_readMile_97 : decode cX4_readMile 97 = .ok (.ifCond .eq 11, 3) := by decide +kernel
theorem dX4_readMile_100 : decode cX4_readMile 100 = .ok (.aload_n 0, 1) := by decide +kernel
theorem dX4_readMile_101 : decode cX4_readMile 101 = .ok (.iconst 4, 1) := by decide +kernel
theorem dX4_readMile_102 : decode cX4_readMile 102 = .ok (.invokevirtual 63, 3) := by decide +kernel
theorem dX4_readMile_105 : decode cX4_readMile 105 = .ok (.goto 4, 3) := by decide +kernel
theorem dX4_readMile_108 : decode cX4_readMile 108 = .ok (.iconst 0, 1) := by decide +kernel
theorem dX4_readMile_109 : decode cX4_readMile 109 = .ok (.iastore, 1) := by decide +kernel
theorem dX4_readMile_110 : decode cX4_readMile 110 = .ok (.aload_n 0, 1) := by decide +kernel
theorem dX4_readMile_111 : decode cX4_readMile 111 = .ok (.getfield 9, 3) := by decide +kernel
theorem dX4_readMile_114 : decode cX4_readMile 114 = .ok (.iload_n 1, 1) := by decide +kernel
theorem dX4_readMile_115 : decode cX4_readMile 115 = .ok (.iconst 5, 1) := by decide +kernel
theorem dX4_readMile_116 : decode cX4_readMile 116 = .ok (.iadd, 1) := by decide +kernel
theorem dX4_readMile_117 : decode cX4_readMile 117 = .ok (.bipush 8, 2) := by decide +kernel
theorem dX4_readMile_119 : decode cX4_readMile 119 = .ok (.iastore, 1) := by decide +kernel
theorem dX4_readMile_120 : decode cX4_readMile 120 = .ok (.return_, 1) := by decide +kernel
theorem dX4_rewind_0 : decode cX4_rewind 0 = .ok (.aload_n 0, 1) := by decide +kernel
theorem dX4_rewind_1 : decode cX4_rewind 1 = .ok (.iconst 0, 1) := by decide +kernel
theorem dX4_rewind_2 : decode cX4_rewind 2 = .ok (.putfield 23, 3) := by decide +kernel
theorem dX4_rewind_5 : decode cX4_rewind 5 = .ok (.aload_n 0, 1) := by decide +kernel
theorem dX4_rewind_6 : decode cX4_rewind 6 = .ok (.iconst 0, 1) := by decide +kernel
theorem dX4_rewind_7 : decode cX4_rewind 7 = .ok (.putfield 26, 3) := by decide +kernel
theorem dX4_rewind_10 : decode cX4_rewind 10 = .ok (.return_, 1) := by decide +kernel
theorem dX4_finish_0 : decode cX4_finish 0 = .ok (.aload_n 0, 1) := by decide +kernel
theorem dX4_finish_1 : decode cX4_finish 1 = .ok (.invokevirtual 70, 3) := by decide +kernel
theorem dX4_finish_4 : decode cX4_finish 4 = .ok (.aload_n 0, 1) := by decide +kernel
theorem dX4_finish_5 : decode cX4_finish 5 = .ok (.getfield 23, 3) := by decide +kernel
theorem dX4_finish_8 : decode cX4_finish 8 = .ok (.aload_n 0, 1) := by decide +kernel
theorem dX4_finish_9 : decode cX4_finish 9 = .ok (.getfield 19, 3) := by decide +kernel
theorem dX4_finish_12 : decode cX4_finish 12 = .ok (.if_icmp .ge 11, 3) := by decide +kernel
theorem dX4_finish_15 : decode cX4_finish 15 = .ok (.aload_n 0, 1) := by decide +kernel
theorem dX4_finish_16 : decode cX4_finish 16 = .ok (.aload_n 0, 1) := by decide +kernel
theorem dX4_finish_17 : decode cX4_finish 17 = .ok (.getfield 23, 3) := by decide +kernel
theorem dX4_finish_20 : decode cX4_finish 20 = .ok (.invokevirtual 73, 3) := by decide +kernel
theorem dX4_finish_23 : decode cX4_finish 23 = .ok (.aload_n 0, 1) := by decide +kernel
theorem dX4_finish_24 : decode cX4_finish 24 = .ok (.iconst 0, 1) := by decide +kernel
theorem dX4_finish_25 : decode cX4_finish 25 = .ok (.putfield 19, 3) := by decide +kernel
theorem dX4_finish_28 : decode cX4_finish 28 = .ok (.aload_n 0, 1) := by decide +kernel
theorem dX4_finish_29 : decode cX4_finish 29 = .ok (.getfield 26, 3) := by decide +kernel
theorem dX4_finish_32 : decode cX4_finish 32 = .ok (.ifCond .eq 10, 3) := by decide +kernel
theorem dX4_finish_35 : decode cX4_finish 35 = .ok (.aload_n 0, 1) := by decide +kernel
theorem dX4_finish_36 : decode cX4_finish 36 = .ok (.getfield 26, 3) := by decide +kernel
theorem dX4_finish_39 : decode cX4_finish 39 = .ok (.goto 4, 3) := by decide +kernel
theorem dX4_finish_42 : decode cX4_finish 42 = .ok (.iload_n 1, 1) := by decide +kernel
theorem dX4_finish_43 : decode cX4_finish 43 = .ok (.ireturn, 1) := by decide +kernel
theorem dX4_fail_0 : decode cX4_fail 0 = .ok (.aload_n 0, 1) := by decide +kernel
theorem dX4_fail_1 : decode cX4_fail 1 = .ok (.getfield 26, 3) := by decide +kernel
theorem dX4_fail_4 : decode cX4_fail 4 = .ok (.ifCond .ne 11, 3) := by decide +kernel
theorem dX4_fail_7 : decode cX4_fail 7 = .ok (.aload_n 0, 1) := by decide +kernel
theorem dX4_fail_8 : decode cX4_fail 8 = .ok (.bipush (-20), 2) := by decide +kernel
theorem dX4_fail_10 : decode cX4_fail 10 = .ok (.iload_n 1, 1) := by decide +kernel
theorem dX4_fail_11 : decode cX4_fail 11 = .ok (.isub, 1) := by decide +kernel
theorem dX4_fail_12 : decode cX4_fail 12 = .ok (.putfield 26, 3) := by decide +kernel
theorem dX4_fail_15 : decode cX4_fail 15 = .ok (.return_, 1) := by decide +kernel
theorem dX4_skipBlanks_0 : decode cX4_skipBlanks 0 = .ok (.aload_n 0, 1) := by decide +kernel
theorem dX4_skipBlanks_1 : decode cX4_skipBlanks 1 = .ok (.getfield 23, 3) := by decide +kernel
theorem dX4_skipBlanks_4 : decode cX4_skipBlanks 4 = .ok (.aload_n 0, 1) := by decide +kernel
theorem dX4_skipBlanks_5 : decode cX4_skipBlanks 5 = .ok (.getfield 19, 3) := by decide +kernel
theorem dX4_skipBlanks_8 : decode cX4_skipBlanks 8 = .ok (.if_icmp .ge 30, 3) := by decide +kernel
theorem dX4_skipBlanks_11 : decode cX4_skipBlanks 11 = .ok (.aload_n 0, 1) := by decide +kernel
theorem dX4_skipBlanks_12 : decode cX4_skipBlanks 12 = .ok (.getfield 15, 3) := by decide +kernel
theorem dX4_skipBlanks_15 : decode cX4_skipBlanks 15 = .ok (.aload_n 0, 1) := by decide +kernel
theorem dX4_skipBlanks_16 : decode cX4_skipBlanks 16 = .ok (.getfield 23, 3) := by decide +kernel
theorem dX4_skipBlanks_19 : decode cX4_skipBlanks 19 = .ok (.baload, 1) := by decide +kernel
theorem dX4_skipBlanks_20 : decode cX4_skipBlanks 20 = .ok (.bipush 32, 2) := by decide +kernel
theorem dX4_skipBlanks_22 : decode cX4_skipBlanks 22 = .ok (.if_icmp .ne 16, 3) := by decide +kernel
theorem dX4_skipBlanks_25 : decode cX4_skipBlanks 25 = .ok (.aload_n 0, 1) := by decide +kernel
theorem dX4_skipBlanks_26 : decode cX4_skipBlanks 26 = .ok (.dup, 1) := by decide +kernel
theorem dX4_skipBlanks_27 : decode cX4_skipBlanks 27 = .ok (.getfield 23, 3) := by decide +kernel
theorem dX4_skipBlanks_30 : decode cX4_skipBlanks 30 = .ok (.iconst 1, 1) := by decide +kernel
theorem dX4_skipBlanks_31 : decode cX4_skipBlanks 31 = .ok (.iadd, 1) := by decide +kernel
theorem dX4_skipBlanks_32 : decode cX4_skipBlanks 32 = .ok (.putfield 23, 3) := by decide +kernel
theorem dX4_skipBlanks_35 : decode cX4_skipBlanks 35 = .ok (.goto (-35), 3) := by decide +kernel
theorem dX4_skipBlanks_38 : decode cX4_skipBlanks 38 = .ok (.return_, 1) := by decide +kernel
theorem dX4_takes_0 : decode cX4_takes 0 = .ok (.aload_n 0, 1) := by decide +kernel
theorem dX4_takes_1 : decode cX4_takes 1 = .ok (.invokevirtual 70, 3) := by decide +kernel
theorem dX4_takes_4 : decode cX4_takes 4 = .ok (.aload_n 0, 1) := by decide +kernel
theorem dX4_takes_5 : decode cX4_takes 5 = .ok (.getfield 23, 3) := by decide +kernel
theorem dX4_takes_8 : decode cX4_takes 8 = .ok (.aload_n 0, 1) := by decide +kernel
theorem dX4_takes_9 : decode cX4_takes 9 = .ok (.getfield 19, 3) := by decide +kernel
theorem dX4_takes_12 : decode cX4_takes 12 = .ok (.if_icmp .ge 28, 3) := by decide +kernel
theorem dX4_takes_15 : decode cX4_takes 15 = .ok (.aload_n 0, 1) := by decide +kernel
theorem dX4_takes_16 : decode cX4_takes 16 = .ok (.getfield 15, 3) := by decide +kernel
theorem dX4_takes_19 : decode cX4_takes 19 = .ok (.aload_n 0, 1) := by decide +kernel
theorem dX4_takes_20 : decode cX4_takes 20 = .ok (.getfield 23, 3) := by decide +kernel
theorem dX4_takes_23 : decode cX4_takes 23 = .ok (.baload, 1) := by decide +kernel
theorem dX4_takes_24 : decode cX4_takes 24 = .ok (.iload_n 1, 1) := by decide +kernel
theorem dX4_takes_25 : decode cX4_takes 25 = .ok (.if_icmp .ne 15, 3) := by decide +kernel
theorem dX4_takes_28 : decode cX4_takes 28 = .ok (.aload_n 0, 1) := by decide +kernel
theorem dX4_takes_29 : decode cX4_takes 29 = .ok (.dup, 1) := by decide +kernel
theorem dX4_takes_30 : decode cX4_takes 30 = .ok (.getfield 23, 3) := by decide +kernel
theorem dX4_takes_33 : decode cX4_takes 33 = .ok (.iconst 1, 1) := by decide +kernel
theorem dX4_takes_34 : decode cX4_takes 34 = .ok (.iadd, 1) := by decide +kernel
theorem dX4_takes_35 : decode cX4_takes 35 = .ok (.putfield 23, 3) := by decide +kernel
theorem dX4_takes_38 : decode cX4_takes 38 = .ok (.iconst 1, 1) := by decide +kernel
theorem dX4_takes_39 : decode cX4_takes 39 = .ok (.ireturn, 1) := by decide +kernel
theorem dX4_takes_40 : decode cX4_takes 40 = .ok (.iconst 0, 1) := by decide +kernel
theorem dX4_takes_41 : decode cX4_takes 41 = .ok (.ireturn, 1) := by decide +kernel
theorem dX4_expect_0 : decode cX4_expect 0 = .ok (.aload_n 0, 1) := by decide +kernel
theorem dX4_expect_1 : decode cX4_expect 1 = .ok (.iload_n 1, 1) := by decide +kernel
theorem dX4_expect_2 : decode cX4_expect 2 = .ok (.invokevirtual 42, 3) := by decide +kernel
theorem dX4_expect_5 : decode cX4_expect 5 = .ok (.ifCond .ne 11, 3) := by decide +kernel
theorem dX4_expect_8 : decode cX4_expect 8 = .ok (.aload_n 0, 1) := by decide +kernel
theorem dX4_expect_9 : decode cX4_expect 9 = .ok (.aload_n 0, 1) := by decide +kernel
theorem dX4_expect_10 : decode cX4_expect 10 = .ok (.getfield 23, 3) := by decide +kernel
theorem dX4_expect_13 : decode cX4_expect 13 = .ok (.invokevirtual 73, 3) := by decide +kernel
theorem dX4_expect_16 : decode cX4_expect 16 = .ok (.return_, 1) := by decide +kernel
end
section
theorem dX4_isDigit_0 : decode cX4_isDigit 0 = .ok (.iload_n 0, 1) := by decide +kernel
theorem dX4_isDigit_1 : decode cX4_isDigit 1 = .ok (.bipush 48, 2) := by decide +kernel
theorem dX4_isDigit_3 : decode cX4_isDigit 3 = .ok (.bipush 57, 2) := by decide +kernel
theorem dX4_isDigit_5 : decode cX4_isDigit 5 = .ok (.invokestatic 29, 3) := by decide +kernel
theorem dX4_isDigit_8 : decode cX4_isDigit 8 = .ok (.ireturn, 1) := by decide +kernel
theorem dX4_digit_0 : decode cX4_digit 0 = .ok (.aload_n 0, 1) := by decide +kernel
theorem dX4_digit_1 : decode cX4_digit 1 = .ok (.invokevirtual 70, 3) := by decide +kernel
theorem dX4_digit_4 : decode cX4_digit 4 = .ok (.aload_n 0, 1) := by decide +kernel
theorem dX4_digit_5 : decode cX4_digit 5 = .ok (.getfield 23, 3) := by decide +kernel
theorem dX4_digit_8 : decode cX4_digit 8 = .ok (.aload_n 0, 1) := by decide +kernel
theorem dX4_digit_9 : decode cX4_digit 9 = .ok (.getfield 19, 3) := by decide +kernel
theorem dX4_digit_12 : decode cX4_digit 12 = .ok (.if_icmp .ge 43, 3) := by decide +kernel
theorem dX4_digit_15 : decode cX4_digit 15 = .ok (.aload_n 0, 1) := by decide +kernel
theorem dX4_digit_16 : decode cX4_digit 16 = .ok (.getfield 15, 3) := by decide +kernel
theorem dX4_digit_19 : decode cX4_digit 19 = .ok (.aload_n 0, 1) := by decide +kernel
theorem dX4_digit_20 : decode cX4_digit 20 = .ok (.getfield 23, 3) := by decide +kernel
theorem dX4_digit_23 : decode cX4_digit 23 = .ok (.baload, 1) := by decide +kernel
theorem dX4_digit_24 : decode cX4_digit 24 = .ok (.invokestatic 76, 3) := by decide +kernel
theorem dX4_digit_27 : decode cX4_digit 27 = .ok (.ifCond .eq 28, 3) := by decide +kernel
theorem dX4_digit_30 : decode cX4_digit 30 = .ok (.aload_n 0, 1) := by decide +kernel
theorem dX4_digit_31 : decode cX4_digit 31 = .ok (.dup, 1) := by decide +kernel
theorem dX4_digit_32 : decode cX4_digit 32 = .ok (.getfield 23, 3) := by decide +kernel
theorem dX4_digit_35 : decode cX4_digit 35 = .ok (.iconst 1, 1) := by decide +kernel
theorem dX4_digit_36 : decode cX4_digit 36 = .ok (.iadd, 1) := by decide +kernel
theorem dX4_digit_37 : decode cX4_digit 37 = .ok (.putfield 23, 3) := by decide +kernel
theorem dX4_digit_40 : decode cX4_digit 40 = .ok (.aload_n 0, 1) := by decide +kernel
theorem dX4_digit_41 : decode cX4_digit 41 = .ok (.getfield 15, 3) := by decide +kernel
theorem dX4_digit_44 : decode cX4_digit 44 = .ok (.aload_n 0, 1) := by decide +kernel
theorem dX4_digit_45 : decode cX4_digit 45 = .ok (.getfield 23, 3) := by decide +kernel
theorem dX4_digit_48 : decode cX4_digit 48 = .ok (.iconst 1, 1) := by decide +kernel
theorem dX4_digit_49 : decode cX4_digit 49 = .ok (.isub, 1) := by decide +kernel
theorem dX4_digit_50 : decode cX4_digit 50 = .ok (.baload, 1) := by decide +kernel
theorem dX4_digit_51 : decode cX4_digit 51 = .ok (.bipush 48, 2) := by decide +kernel
theorem dX4_digit_53 : decode cX4_digit 53 = .ok (.isub, 1) := by decide +kernel
theorem dX4_digit_54 : decode cX4_digit 54 = .ok (.ireturn, 1) := by decide +kernel
theorem dX4_digit_55 : decode cX4_digit 55 = .ok (.aload_n 0, 1) := by decide +kernel
theorem dX4_digit_56 : decode cX4_digit 56 = .ok (.aload_n 0, 1) := by decide +kernel
theorem dX4_digit_57 : decode cX4_digit 57 = .ok (.getfield 23, 3) := by decide +kernel
theorem dX4_digit_60 : decode cX4_digit 60 = .ok (.invokevirtual 73, 3) := by decide +kernel
theorem dX4_digit_63 : decode cX4_digit 63 = .ok (.iconst 0, 1) := by decide +kernel
theorem dX4_digit_64 : decode cX4_digit 64 = .ok (.ireturn, 1) := by decide +kernel
theorem dX4_mark_0 : decode cX4_mark 0 = .ok (.aload_n 0, 1) := by decide +kernel
theorem dX4_mark_1 : decode cX4_mark 1 = .ok (.getstatic 80, 3) := by decide +kernel
theorem dX4_mark_4 : decode cX4_mark 4 = .ok (.iload_n 1, 1) := by decide +kernel
theorem dX4_mark_5 : decode cX4_mark 5 = .ok (.iaload, 1) := by decide +kernel
theorem dX4_mark_6 : decode cX4_mark 6 = .ok (.getstatic 83, 3) := by decide +kernel
theorem dX4_mark_9 : decode cX4_mark 9 = .ok (.iload_n 1, 1) := by decide +kernel
theorem dX4_mark_10 : decode cX4_mark 10 = .ok (.iaload, 1) := by decide +kernel
theorem dX4_mark_11 : decode cX4_mark 11 = .ok (.invokevirtual 54, 3) := by decide +kernel
theorem dX4_mark_14 : decode cX4_mark 14 = .ok (.ireturn, 1) := by decide +kernel
theorem dX4_number_0 : decode cX4_number 0 = .ok (.aload_n 0, 1) := by decide +kernel
theorem dX4_number_1 : decode cX4_number 1 = .ok (.invokevirtual 70, 3) := by decide +kernel
theorem dX4_number_4 : decode cX4_number 4 = .ok (.aload_n 0, 1) := by decide +kernel
theorem dX4_number_5 : decode cX4_number 5 = .ok (.getfield 23, 3) := by decide +kernel
theorem dX4_number_8 : decode cX4_number 8 = .ok (.istore_n 3, 1) := by decide +kernel
theorem dX4_number_9 : decode cX4_number 9 = .ok (.iconst 0, 1) := by decide +kernel
theorem dX4_number_10 : decode cX4_number 10 = .ok (.istore 4, 2) := by decide +kernel
theorem dX4_number_12 : decode cX4_number 12 = .ok (.aload_n 0, 1) := by decide +kernel
theorem dX4_number_13 : decode cX4_number 13 = .ok (.getfield 23, 3) := by decide +kernel
theorem dX4_number_16 : decode cX4_number 16 = .ok (.aload_n 0, 1) := by decide +kernel
theorem dX4_number_17 : decode cX4_number 17 = .ok (.getfield 19, 3) := by decide +kernel
theorem dX4_number_20 : decode cX4_number 20 = .ok (.if_icmp .ge 57, 3) := by decide +kernel
theorem dX4_number_23 : decode cX4_number 23 = .ok (.aload_n 0, 1) := by decide +kernel
theorem dX4_number_24 : decode cX4_number 24 = .ok (.getfield 15, 3) := by decide +kernel
theorem dX4_number_27 : decode cX4_number 27 = .ok (.aload_n 0, 1) := by decide +kernel
theorem dX4_number_28 : decode cX4_number 28 = .ok (.getfield 23, 3) := by decide +kernel
theorem dX4_number_31 : decode cX4_number 31 = .ok (.baload, 1) := by decide +kernel
theorem dX4_number_32 : decode cX4_number 32 = .ok (.invokestatic 76, 3) := by decide +kernel
theorem dX4_number_35 : decode cX4_number 35 = .ok (.ifCond .eq 42, 3) := by decide +kernel
theorem dX4_number_38 : decode cX4_number 38 = .ok (.sipush 1000, 3) := by decide +kernel
theorem dX4_number_41 : decode cX4_number 41 = .ok (.bipush 10, 2) := by decide +kernel
theorem dX4_number_43 : decode cX4_number 43 = .ok (.iload 4, 2) := by decide +kernel
theorem dX4_number_45 : decode cX4_number 45 = .ok (.imul, 1) := by decide +kernel
theorem dX4_number_46 : decode cX4_number 46 = .ok (.aload_n 0, 1) := by decide +kernel
theorem dX4_number_47 : decode cX4_number 47 = .ok (.getfield 15, 3) := by decide +kernel
theorem dX4_number_50 : decode cX4_number 50 = .ok (.aload_n 0, 1) := by decide +kernel
theorem dX4_number_51 : decode cX4_number 51 = .ok (.getfield 23, 3) := by decide +kernel
theorem dX4_number_54 : decode cX4_number 54 = .ok (.baload, 1) := by decide +kernel
theorem dX4_number_55 : decode cX4_number 55 = .ok (.iadd, 1) := by decide +kernel
theorem dX4_number_56 : decode cX4_number 56 = .ok (.bipush 48, 2) := by decide +kernel
theorem dX4_number_58 : decode cX4_number 58 = .ok (.isub, 1) := by decide +kernel
theorem dX4_number_59 : decode cX4_number 59 = .ok (.invokestatic 86, 3) := by decide +kernel
theorem dX4_number_62 : decode cX4_number 62 = .ok (.istore 4, 2) := by decide +kernel
theorem dX4_number_64 : decode cX4_number 64 = .ok (.aload_n 0, 1) := by decide +kernel
theorem dX4_number_65 : decode cX4_number 65 = .ok (.dup, 1) := by decide +kernel
theorem dX4_number_66 : decode cX4_number 66 = .ok (.getfield 23, 3) := by decide +kernel
theorem dX4_number_69 : decode cX4_number 69 = .ok (.iconst 1, 1) := by decide +kernel
theorem dX4_number_70 : decode cX4_number 70 = .ok (.iadd, 1) := by decide +kernel
theorem dX4_number_71 : decode cX4_number 71 = .ok (.putfield 23, 3) := by decide +kernel
theorem dX4_number_74 : decode cX4_number 74 = .ok (.goto (-62), 3) := by decide +kernel
theorem dX4_number_77 : decode cX4_number 77 = .ok (.aload_n 0, 1) := by decide +kernel
theorem dX4_number_78 : decode cX4_number 78 = .ok (.getfield 23, 3) := by decide +kernel
theorem dX4_number_81 : decode cX4_number 81 = .ok (.iload_n 3, 1) := by decide +kernel
theorem dX4_number_82 : decode cX4_number 82 = .ok (.if_icmp .eq 13, 3) := by decide +kernel
theorem dX4_number_85 : decode cX4_number 85 = .ok (.iload 4, 2) := by decide +kernel
theorem dX4_number_87 : decode cX4_number 87 = .ok (.iload_n 1, 1) := by decide +kernel
theorem dX4_number_88 : decode cX4_number 88 = .ok (.iload_n 2, 1) := by decide +kernel
theorem dX4_number_89 : decode cX4_number 89 = .ok (.invokestatic 29, 3) := by decide +kernel
theorem dX4_number_92 : decode cX4_number 92 = .ok (.ifCond .ne 8, 3) := by decide +kernel
theorem dX4_number_95 : decode cX4_number 95 = .ok (.aload_n 0, 1) := by decide +kernel
theorem dX4_number_96 : decode cX4_number 96 = .ok (.iload_n 3, 1) := by decide +kernel
theorem dX4_number_97 : decode cX4_number 97 = .ok (.invokevirtual 73, 3) := by decide +kernel
theorem dX4_number_100 : decode cX4_number 100 = .ok (.iload 4, 2) := by decide +kernel
theorem dX4_number_102 : decode cX4_number 102 = .ok (.ireturn, 1) := by decide +kernel
theorem dX5_init_0 : decode cX5_init 0 = .ok (.aload_n 0, 1) := by decide +kernel
theorem dX5_init_1 : decode cX5_init 1 = .ok (.invokespecial 3, 3) := by decide +kernel
theorem dX5_init_4 : decode cX5_init 4 = .ok (.aload_n 0, 1) := by decide +kernel
theorem dX5_init_5 : decode cX5_init 5 = .ok (.iconst 0, 1) := by decide +kernel
theorem dX5_init_6 : decode cX5_init 6 = .ok (.putfield 9, 3) := by decide +kernel
theorem dX5_init_9 : decode cX5_init 9 = .ok (.aload_n 0, 1) := by decide +kernel
theorem dX5_init_10 : decode cX5_init 10 = .ok (.iconst 0, 1) := by decide +kernel
theorem dX5_init_11 : decode cX5_init 11 = .ok (.putfield 15, 3) := by decide +kernel
theorem dX5_init_14 : decode cX5_init 14 = .ok (.aload_n 0, 1) := by decide +kernel
theorem dX5_init_15 : decode cX5_init 15 = .ok (.iconst 0, 1) := by decide +kernel
theorem dX5_init_16 : decode cX5_init 16 = .ok (.putfield 18, 3) := by decide +kernel
theorem dX5_init_19 : decode cX5_init 19 = .ok (.aload_n 0, 1) := by decide +kernel
theorem dX5_init_20 : decode cX5_init 20 = .ok (.iconst 0, 1) := by decide +kernel
theorem dX5_init_21 : decode cX5_init 21 = .ok (.putfield 21, 3) := by decide +kernel
theorem dX5_init_24 : decode cX5_init 24 = .ok (.aload_n 0, 1) := by decide +kernel
theorem dX5_init_25 : decode cX5_init 25 = .ok (.iconst 0, 1) := by decide +kernel
theorem dX5_init_26 : decode cX5_init 26 = .ok (.putfield 24, 3) := by decide +kernel
theorem dX5_init_29 : decode cX5_init 29 = .ok (.aload_n 0, 1) := by decide +kernel
theorem dX5_init_30 : decode cX5_init 30 = .ok (.iconst 0, 1) := by decide +kernel
theorem dX5_init_31 : decode cX5_init 31 = .ok (.putfield 27, 3) := by decide +kernel
theorem dX5_init_34 : decode cX5_init 34 = .ok (.aload_n 0, 1) := by decide +kernel
theorem dX5_init_35 : decode cX5_init 35 = .ok (.iconst (-1), 1) := by decide +kernel
theorem dX5_init_36 : decode cX5_init 36 = .ok (.putfield 30, 3) := by decide +kernel
theorem dX5_init_39 : decode cX5_init 39 = .ok (.aload_n 0, 1) := by decide +kernel
theorem dX5_init_40 : decode cX5_init 40 = .ok (.aload_n 1, 1) := by decide +kernel
theorem dX5_init_41 : decode cX5_init 41 = .ok (.putfield 33, 3) := by decide +kernel
theorem dX5_init_44 : decode cX5_init 44 = .ok (.return_, 1) := by decide +kernel
theorem dX5_begin_0 : decode cX5_begin 0 = .ok (.aload_n 0, 1) := by decide +kernel
theorem dX5_begin_1 : decode cX5_begin 1 = .ok (.aload_n 0, 1) := by decide +kernel
theorem dX5_begin_2 : decode cX5_begin 2 = .ok (.getfield 33, 3) := by decide +kernel
theorem dX5_begin_5 : decode cX5_begin 5 = .ok (.iload_n 1, 1) := by decide +kernel
theorem dX5_begin_6 : decode cX5_begin 6 = .ok (.iconst 1, 1) := by decide +kernel
theorem dX5_begin_7 : decode cX5_begin 7 = .ok (.invokevirtual 37, 3) := by decide +kernel
theorem dX5_begin_10 : decode cX5_begin 10 = .ok (.putfield 15, 3) := by decide +kernel
theorem dX5_begin_13 : decode cX5_begin 13 = .ok (.aload_n 0, 1) := by decide +kernel
theorem dX5_begin_14 : decode cX5_begin 14 = .ok (.aload_n 0, 1) := by decide +kernel
theorem dX5_begin_15 : decode cX5_begin 15 = .ok (.getfield 33, 3) := by decide +kernel
theorem dX5_begin_18 : decode cX5_begin 18 = .ok (.getfield 43, 3) := by decide +kernel
theorem dX5_begin_21 : decode cX5_begin 21 = .ok (.iconst 1, 1) := by decide +kernel
theorem dX5_begin_22 : decode cX5_begin 22 = .ok (.iaload, 1) := by decide +kernel
theorem dX5_begin_23 : decode cX5_begin 23 = .ok (.putfield 24, 3) := by decide +kernel
theorem dX5_begin_26 : decode cX5_begin 26 = .ok (.aload_n 0, 1) := by decide +kernel
theorem dX5_begin_27 : decode cX5_begin 27 = .ok (.iconst (-1), 1) := by decide +kernel
theorem dX5_begin_28 : decode cX5_begin 28 = .ok (.putfield 30, 3) := by decide +kernel
theorem dX5_begin_31 : decode cX5_begin 31 = .ok (.aload_n 0, 1) := by decide +kernel
theorem dX5_begin_32 : decode cX5_begin 32 = .ok (.aload_n 0, 1) := by decide +kernel
theorem dX5_begin_33 : decode cX5_begin 33 = .ok (.getfield 33, 3) := by decide +kernel
theorem dX5_begin_36 : decode cX5_begin 36 = .ok (.getfield 43, 3) := by decide +kernel
theorem dX5_begin_39 : decode cX5_begin 39 = .ok (.iconst 3, 1) := by decide +kernel
theorem dX5_begin_40 : decode cX5_begin 40 = .ok (.iaload, 1) := by decide +kernel
theorem dX5_begin_41 : decode cX5_begin 41 = .ok (.aload_n 0, 1) := by decide +kernel
theorem dX5_begin_42 : decode cX5_begin 42 = .ok (.getfield 33, 3) := by decide +kernel
theorem dX5_begin_45 : decode cX5_begin 45 = .ok (.getfield 43, 3) := by decide +kernel
theorem dX5_begin_48 : decode cX5_begin 48 = .ok (.iconst 4, 1) := by decide +kernel
theorem dX5_begin_49 : decode cX5_begin 49 = .ok (.iaload, 1) := by decide +kernel
theorem dX5_begin_50 : decode cX5_begin 50 = .ok (.invokevirtual 47, 3) := by decide +kernel
theorem dX5_begin_53 : decode cX5_begin 53 = .ok (.aload_n 0, 1) := by decide +kernel
theorem dX5_begin_54 : decode cX5_begin 54 = .ok (.aload_n 0, 1) := by decide +kernel
theorem dX5_begin_55 : decode cX5_begin 55 = .ok (.getfield 33, 3) := by decide +kernel
theorem dX5_begin_58 : decode cX5_begin 58 = .ok (.iload_n 1, 1) := by decide +kernel
theorem dX5_begin_59 : decode cX5_begin 59 = .ok (.iconst 0, 1) := by decide +kernel
theorem dX5_begin_60 : decode cX5_begin 60 = .ok (.invokevirtual 37, 3) := by decide +kernel
theorem dX5_begin_63 : decode cX5_begin 63 = .ok (.invokevirtual 51, 3) := by decide +kernel
theorem dX5_begin_66 : decode cX5_begin 66 = .ok (.return_, 1) := by decide +kernel
theorem dX5_load_0 : decode cX5_load 0 = .ok (.aload_n 0, 1) := by decide +kernel
theorem dX5_load_1 : decode cX5_load 1 = .ok (.iload_n 1, 1) := by decide +kernel
theorem dX5_load_2 : decode cX5_load 2 = .ok (.putfield 9, 3) := by decide +kernel
theorem dX5_load_5 : decode cX5_load 5 = .ok (.aload_n 0, 1) := by decide +kernel
theorem dX5_load_6 : decode cX5_load 6 = .ok (.invokevirtual 55, 3) := by decide +kernel
theorem dX5_load_9 : decode cX5_load 9 = .ok (.return_, 1) := by decide +kernel
theorem dX5_keepTo_0 : decode cX5_keepTo 0 = .ok (.aload_n 0, 1) := by decide +kernel
theorem dX5_keepTo_1 : decode cX5_keepTo 1 = .ok (.iload_n 1, 1) := by decide +kernel
theorem dX5_keepTo_2 : decode cX5_keepTo 2 = .ok (.putfield 18, 3) := by decide +kernel
theorem dX5_keepTo_5 : decode cX5_keepTo 5 = .ok (.aload_n 0, 1) := by decide +kernel
theorem dX5_keepTo_6 : decode cX5_keepTo 6 = .ok (.iload_n 2, 1) := by decide +kernel
theorem dX5_keepTo_7 : decode cX5_keepTo 7 = .ok (.putfield 21, 3) := by decide +kernel
theorem dX5_keepTo_10 : decode cX5_keepTo 10 = .ok (.aload_n 0, 1) := by decide +kernel
theorem dX5_keepTo_11 : decode cX5_keepTo 11 = .ok (.invokevirtual 55, 3) := by decide +kernel
theorem dX5_keepTo_14 : decode cX5_keepTo 14 = .ok (.return_, 1) := by decide +kernel
theorem dX5_reckonNeed_0 : decode cX5_reckonNeed 0 = .ok (.aload_n 0, 1) := by decide +kernel
theorem dX5_reckonNeed_1 : decode cX5_reckonNeed 1 = .ok (.aload_n 0, 1) := by decide +kernel
theorem dX5_reckonNeed_2 : decode cX5_reckonNeed 2 = .ok (.getfield 18, 3) := by decide +kernel
theorem dX5_reckonNeed_5 : decode cX5_reckonNeed 5 = .ok (.ifCond .ne 10, 3) := by decide +kernel
theorem dX5_reckonNeed_8 : decode cX5_reckonNeed 8 = .ok (.aload_n 0, 1) := by decide +kernel
theorem dX5_reckonNeed_9 : decode cX5_reckonNeed 9 = .ok (.getfield 21, 3) := by decide +kernel
theorem dX5_reckonNeed_12 : decode cX5_reckonNeed 12 = .ok (.goto 15, 3) := by decide +kernel
theorem dX5_reckonNeed_15 : decode cX5_reckonNeed 15 = .ok (.aload_n 0, 1) := by decide +kernel
theorem dX5_reckonNeed_16 : decode cX5_reckonNeed 16 = .ok (.getfield 9, 3) := by decide +kernel
theorem dX5_reckonNeed_19 : decode cX5_reckonNeed 19 = .ok (.aload_n 0, 1) := by decide +kernel
theorem dX5_reckonNeed_20 : decode cX5_reckonNeed 20 = .ok (.getfield 21, 3) := by decide +kernel
theorem dX5_reckonNeed_23 : decode cX5_reckonNeed 23 = .ok (.imul, 1) := by decide +kernel
theorem dX5_reckonNeed_24 : decode cX5_reckonNeed 24 = .ok (.bipush 100, 2) := by decide +kernel
theorem dX5_reckonNeed_26 : decode cX5_reckonNeed 26 = .ok (.idiv, 1) := by decide +kernel
theorem dX5_reckonNeed_27 : decode cX5_reckonNeed 27 = .ok (.putfield 27, 3) := by decide +kernel
theorem dX5_reckonNeed_30 : decode cX5_reckonNeed 30 = .ok (.return_, 1) := by decide +kernel
theorem dX5_level_0 : decode cX5_level 0 = .ok (.aload_n 0, 1) := by decide +kernel
theorem dX5_level_1 : decode cX5_level 1 = .ok (.getfield 33, 3) := by decide +kernel
theorem dX5_level_4 : decode cX5_level 4 = .ok (.iload_n 1, 1) := by decide +kernel
theorem dX5_level_5 : decode cX5_level 5 = .ok (.iload_n 2, 1) := by decide +kernel
theorem dX5_level_6 : decode cX5_level 6 = .ok (.aload_n 0, 1) := by decide +kernel
theorem dX5_level_7 : decode cX5_level 7 = .ok (.getfield 24, 3) := by decide +kernel
theorem dX5_level_10 : decode cX5_level 10 = .ok (.invokevirtual 58, 3) := by decide +kernel
theorem dX5_level_13 : decode cX5_level 13 = .ok (.iload_n 1, 1) := by decide +kernel
theorem dX5_level_14 : decode cX5_level 14 = .ok (.aload_n 0, 1) := by decide +kernel
theorem dX5_level_15 : decode cX5_level 15 = .ok (.getfield 30, 3) := by decide +kernel
theorem dX5_level_18 : decode cX5_level 18 = .ok (.if_icmp .ne 7, 3) := by decide +kernel
theorem dX5_level_21 : decode cX5_level 21 = .ok (.iconst 1, 1) := by decide +kernel
theorem dX5_level_22 : decode cX5_level 22 = .ok (.goto 4, 3) := by decide +kernel
theorem dX5_level_25 : decode cX5_level 25 = .ok (.iconst 0, 1) := by decide +kernel
theorem dX5_level_26 : decode cX5_level 26 = .ok (.iadd, 1) := by decide +kernel
theorem dX5_level_27 : decode cX5_level 27 = .ok (.ireturn, 1) := by decide +kernel
theorem dX5_sinking_0 : decode cX5_sinking 0 = .ok (.iconst 3, 1) := by decide +kernel
theorem dX5_sinking_1 : decode cX5_sinking 1 = .ok (.aload_n 0, 1) := by decide +kernel
theorem dX5_sinking_2 : decode cX5_sinking 2 = .ok (.getfield 33, 3) := by decide +kernel
theorem dX5_sinking_5 : decode cX5_sinking 5 = .ok (.iload_n 1, 1) := by decide +kernel
theorem dX5_sinking_6 : decode cX5_sinking 6 = .ok (.iconst 1, 1) := by decide +kernel
theorem dX5_sinking_7 : decode cX5_sinking 7 = .ok (.invokevirtual 62, 3) := by decide +kernel
theorem dX5_sinking_10 : decode cX5_sinking 10 = .ok (.imul, 1) := by decide +kernel
theorem dX5_sinking_11 : decode cX5_sinking 11 = .ok (.iconst 1, 1) := by decide +kernel
theorem dX5_sinking_12 : decode cX5_sinking 12 = .ok (.iload_n 2, 1) := by decide +kernel
theorem dX5_sinking_13 : decode cX5_sinking 13 = .ok (.invokestatic 65, 3) := by decide +kernel
theorem dX5_sinking_16 : decode cX5_sinking 16 = .ok (.imul, 1) := by decide +kernel
theorem dX5_sinking_17 : decode cX5_sinking 17 = .ok (.istore 4, 2) := by decide +kernel
theorem dX5_sinking_19 : decode cX5_sinking 19 = .ok (.iload_n 3, 1) := by decide +kernel
theorem dX5_sinking_20 : decode cX5_sinking 20 = .ok (.iload_n 3, 1) := by decide +kernel
theorem dX5_sinking_21 : decode cX5_sinking 21 = .ok (.imul, 1) := by decide +kernel
theorem dX5_sinking_22 : decode cX5_sinking 22 = .ok (.aload_n 0, 1) := by decide +kernel
theorem dX5_sinking_23 : decode cX5_sinking 23 = .ok (.getfield 15, 3) := by decide +kernel
theorem dX5_sinking_26 : decode cX5_sinking 26 = .ok (.imul, 1) := by decide +kernel
theorem dX5_sinking_27 : decode cX5_sinking 27 = .ok (.aload_n 0, 1) := by decide +kernel
theorem dX5_sinking_28 : decode cX5_sinking 28 = .ok (.getfield 9, 3) := by decide +kernel
theorem dX5_sinking_31 : decode cX5_sinking 31 = .ok (.imul, 1) := by decide +kernel
theorem dX5_sinking_32 : decode cX5_sinking 32 = .ok (.iconst 1, 1) := by decide +kernel
theorem dX5_sinking_33 : decode cX5_sinking 33 = .ok (.iload 4, 2) := by decide +kernel
theorem dX5_sinking_35 : decode cX5_sinking 35 = .ok (.invokestatic 65, 3) := by decide +kernel
theorem dX5_sinking_38 : decode cX5_sinking 38 = .ok (.idiv, 1) := by decide +kernel
theorem dX5_sinking_39 : decode cX5_sinking 39 = .ok (.ireturn, 1) := by decide +kernel
theorem dX5_atRest_0 : decode cX5_atRest 0 = .ok (.aload_n 0, 1) := by decide +kernel
theorem dX5_atRest_1 : decode cX5_atRest 1 = .ok (.getfield 9, 3) := by decide +kernel
theorem dX5_atRest_4 : decode cX5_atRest 4 = .ok (.bipush 9, 2) := by decide +kernel
theorem dX5_atRest_6 : decode cX5_atRest 6 = .ok (.aload_n 0, 1) := by decide +kernel
theorem dX5_atRest_7 : decode cX5_atRest 7 = .ok (.getfield 33, 3) := by decide +kernel
theorem dX5_atRest_10 : decode cX5_atRest 10 = .ok (.iload_n 1, 1) := by decide +kernel
theorem dX5_atRest_11 : decode cX5_atRest 11 = .ok (.iconst 2, 1) := by decide +kernel
theorem dX5_atRest_12 : decode cX5_atRest 12 = .ok (.invokevirtual 62, 3) := by decide +kernel
theorem dX5_atRest_15 : decode cX5_atRest 15 = .ok (.isub, 1) := by decide +kernel
theorem dX5_atRest_16 : decode cX5_atRest 16 = .ok (.imul, 1) := by decide +kernel
theorem dX5_atRest_17 : decode cX5_atRest 17 = .ok (.sipush 400, 3) := by decide +kernel
theorem dX5_atRest_20 : decode cX5_atRest 20 = .ok (.idiv, 1) := by decide +kernel
theorem dX5_atRest_21 : decode cX5_atRest 21 = .ok (.istore_n 3, 1) := by decide +kernel
theorem dX5_atRest_22 : decode cX5_atRest 22 = .ok (.iload_n 2, 1) := by decide +kernel
theorem dX5_atRest_23 : decode cX5_atRest 23 = .ok (.aload_n 0, 1) := by decide +kernel
theorem dX5_atRest_24 : decode cX5_atRest 24 = .ok (.getfield 9, 3) := by decide +kernel
theorem dX5_atRest_27 : decode cX5_atRest 27 = .ok (.isub, 1) := by decide +kernel
theorem dX5_atRest_28 : decode cX5_atRest 28 = .ok (.iload_n 3, 1) := by decide +kernel
theorem dX5_atRest_29 : decode cX5_atRest 29 = .ok (.isub, 1) := by decide +kernel
theorem dX5_atRest_30 : decode cX5_atRest 30 = .ok (.aload_n 0, 1) := by decide +kernel
theorem dX5_atRest_31 : decode cX5_atRest 31 = .ok (.getfield 15, 3) := by decide +kernel
theorem dX5_atRest_34 : decode cX5_atRest 34 = .ok (.aload_n 0, 1) := by decide +kernel
theorem dX5_atRest_35 : decode cX5_atRest 35 = .ok (.getfield 24, 3) := by decide +kernel
theorem dX5_atRest_38 : decode cX5_atRest 38 = .ok (.imul, 1) := by decide +kernel
theorem dX5_atRest_39 : decode cX5_atRest 39 = .ok (.bipush 20, 2) := by decide +kernel
theorem dX5_atRest_41 : decode cX5_atRest 41 = .ok (.idiv, 1) := by decide +kernel
theorem dX5_atRest_42 : decode cX5_atRest 42 = .ok (.isub, 1) := by decide +kernel
theorem dX5_atRest_43 : decode cX5_atRest 43 = .ok (.ireturn, 1) := by decide +kernel
theorem dX5_clearance_0 : decode cX5_clearance 0 = .ok (.aload_n 0, 1) := by decide +kernel
theorem dX5_clearance_1 : decode cX5_clearance 1 = .ok (.iload_n 1, 1) := by decide +kernel
theorem dX5_clearance_2 : decode cX5_clearance 2 = .ok (.iload_n 2, 1) := by decide +kernel
theorem dX5_clearance_3 : decode cX5_clearance 3 = .ok (.invokevirtual 70, 3) := by decide +kernel
theorem dX5_clearance_6 : decode cX5_clearance 6 = .ok (.istore 4, 2) := by decide +kernel
theorem dX5_clearance_8 : decode cX5_clearance 8 = .ok (.aload_n 0, 1) := by decide +kernel
theorem dX5_clearance_9 : decode cX5_clearance 9 = .ok (.iload_n 1, 1) := by decide +kernel
theorem dX5_clearance_10 : decode cX5_clearance 10 = .ok (.iload 4, 2) := by decide +kernel
theorem dX5_clearance_12 : decode cX5_clearance 12 = .ok (.invokevirtual 73, 3) := by decide +kernel
theorem dX5_clearance_15 : decode cX5_clearance 15 = .ok (.aload_n 0, 1) := by decide +kernel
theorem dX5_clearance_16 : decode cX5_clearance 16 = .ok (.iload_n 1, 1) := by decide +kernel
theorem dX5_clearance_17 : decode cX5_clearance 17 = .ok (.iload 4, 2) := by decide +kernel
theorem dX5_clearance_19 : decode cX5_clearance 19 = .ok (.iload_n 3, 1) := by decide +kernel
theorem dX5_clearance_20 : decode cX5_clearance 20 = .ok (.invokevirtual 76, 3) := by decide +kernel
theorem dX5_clearance_23 : decode cX5_clearance 23 = .ok (.isub, 1) := by decide +kernel
theorem dX5_clearance_24 : decode cX5_clearance 24 = .ok (.ireturn, 1) := by decide +kernel
theorem dX6_init_0 : decode cX6_init 0 = .ok (.aload_n 0, 1) := by decide +kernel
theorem dX6_init_1 : decode cX6_init 1 = .ok (.invokespecial 3, 3) := by decide +kernel
theorem dX6_init_4 : decode cX6_init 4 = .ok (.aload_n 0, 1) := by decide +kernel
theorem dX6_init_5 : decode cX6_init 5 = .ok (.bipush (-4), 2) := by decide +kernel
theorem dX6_init_7 : decode cX6_init 7 = .ok (.putfield 9, 3) := by decide +kernel
theorem dX6_init_10 : decode cX6_init 10 = .ok (.aload_n 0, 1) := by decide +kernel
theorem dX6_init_11 : decode cX6_init 11 = .ok (.iconst 0, 1) := by decide +kernel
theorem dX6_init_12 : decode cX6_init 12 = .ok (.putfield 15, 3) := by decide +kernel
theorem dX6_init_15 : decode cX6_init 15 = .ok (.aload_n 0, 1) := by decide +kernel
theorem dX6_init_16 : decode cX6_init 16 = .ok (.iconst 0, 1) := by decide +kernel
theorem dX6_init_17 : decode cX6_init 17 = .ok (.putfield 18, 3) := by decide +kernel
theorem dX6_init_20 : decode cX6_init 20 = .ok (.aload_n 0, 1) := by decide +kernel
theorem dX6_init_21 : decode cX6_init 21 = .ok (.aload_n 1, 1) := by decide +kernel
theorem dX6_init_22 : decode cX6_init 22 = .ok (.putfield 21, 3) := by decide +kernel
theorem dX6_init_25 : decode cX6_init 25 = .ok (.return_, 1) := by decide +kernel
theorem dX6_sail_0 : decode cX6_sail 0 = .ok (.aload_n 0, 1) := by decide +kernel
theorem dX6_sail_1 : decode cX6_sail 1 = .ok (.bipush (-4), 2) := by decide +kernel
theorem dX6_sail_3 : decode cX6_sail 3 = .ok (.putfield 9, 3) := by decide +kernel
theorem dX6_sail_6 : decode cX6_sail 6 = .ok (.aload_n 0, 1) := by decide +kernel
theorem dX6_sail_7 : decode cX6_sail 7 = .ok (.iconst 0, 1) := by decide +kernel
theorem dX6_sail_8 : decode cX6_sail 8 = .ok (.putfield 15, 3) := by decide +kernel
theorem dX6_sail_11 : decode cX6_sail 11 = .ok (.aload_n 0, 1) := by decide +kernel
theorem dX6_sail_12 : decode cX6_sail 12 = .ok (.ldc 27, 2) := by decide +kernel
theorem dX6_sail_14 : decode cX6_sail 14 = .ok (.putfield 18, 3) := by decide +kernel
theorem dX6_sail_17 : decode cX6_sail 17 = .ok (.iconst 0, 1) := by decide +kernel
theorem dX6_sail_18 : decode cX6_sail 18 = .ok (.istore_n 3, 1) := by decide +kernel
theorem dX6_sail_19 : decode cX6_sail 19 = .ok (.iload_n 3, 1) := by decide +kernel
theorem dX6_sail_20 : decode cX6_sail 20 = .ok (.aload_n 0, 1) := by decide +kernel
theorem dX6_sail_21 : decode cX6_sail 21 = .ok (.getfield 21, 3) := by decide +kernel
theorem dX6_sail_24 : decode cX6_sail 24 = .ok (.getfield 28, 3) := by decide +kernel
theorem dX6_sail_27 : decode cX6_sail 27 = .ok (.if_icmp .ge 91, 3) := by decide +kernel
theorem dX6_sail_30 : decode cX6_sail 30 = .ok (.aload_n 0, 1) := by decide +kernel
theorem dX6_sail_31 : decode cX6_sail 31 = .ok (.getfield 9, 3) := by decide +kernel
theorem dX6_sail_34 : decode cX6_sail 34 = .ok (.bipush (-4), 2) := by decide +kernel
theorem dX6_sail_36 : decode cX6_sail 36 = .ok (.if_icmp .ne 82, 3) := by decide +kernel
theorem dX6_sail_39 : decode cX6_sail 39 = .ok (.aload_n 0, 1) := by decide +kernel
theorem dX6_sail_40 : decode cX6_sail 40 = .ok (.getfield 21, 3) := by decide +kernel
theorem dX6_sail_43 : decode cX6_sail 43 = .ok (.iload_n 3, 1) := by decide +kernel
theorem dX6_sail_44 : decode cX6_sail 44 = .ok (.iconst 5, 1) := by decide +kernel
theorem dX6_sail_45 : decode cX6_sail 45 = .ok (.invokevirtual 33, 3) := by decide +kernel
theorem dX6_sail_48 : decode cX6_sail 48 = .ok (.istore 4, 2) := by decide +kernel
theorem dX6_sail_50 : decode cX6_sail 50 = .ok (.aload_n 1, 1) := by decide +kernel
theorem dX6_sail_51 : decode cX6_sail 51 = .ok (.iload_n 3, 1) := by decide +kernel
theorem dX6_sail_52 : decode cX6_sail 52 = .ok (.aload_n 0, 1) := by decide +kernel
theorem dX6_sail_53 : decode cX6_sail 53 = .ok (.getfield 21, 3) := by decide +kernel
theorem dX6_sail_56 : decode cX6_sail 56 = .ok (.iload_n 2, 1) := by decide +kernel
theorem dX6_sail_57 : decode cX6_sail 57 = .ok (.aload_n 0, 1) := by decide +kernel
theorem dX6_sail_58 : decode cX6_sail 58 = .ok (.getfield 15, 3) := by decide +kernel
theorem dX6_sail_61 : decode cX6_sail 61 = .ok (.iadd, 1) := by decide +kernel
theorem dX6_sail_62 : decode cX6_sail 62 = .ok (.invokevirtual 37, 3) := by decide +kernel
theorem dX6_sail_65 : decode cX6_sail 65 = .ok (.iload 4, 2) := by decide +kernel
theorem dX6_sail_67 : decode cX6_sail 67 = .ok (.invokevirtual 41, 3) := by decide +kernel
theorem dX6_sail_70 : decode cX6_sail 70 = .ok (.istore 5, 2) := by decide +kernel
theorem dX6_sail_72 : decode cX6_sail 72 = .ok (.aload_n 0, 1) := by decide +kernel
theorem dX6_sail_73 : decode cX6_sail 73 = .ok (.aload_n 0, 1) := by decide +kernel
theorem dX6_sail_74 : decode cX6_sail 74 = .ok (.getfield 18, 3) := by decide +kernel
theorem dX6_sail_77 : decode cX6_sail 77 = .ok (.iload 5, 2) := by decide +kernel
theorem dX6_sail_79 : decode cX6_sail 79 = .ok (.invokestatic 47, 3) := by decide +kernel
theorem dX6_sail_82 : decode cX6_sail 82 = .ok (.putfield 18, 3) := by decide +kernel
theorem dX6_sail_85 : decode cX6_sail 85 = .ok (.iload 5, 2) := by decide +kernel
theorem dX6_sail_87 : decode cX6_sail 87 = .ok (.ifCond .ge 11, 3) := by decide +kernel
theorem dX6_sail_90 : decode cX6_sail 90 = .ok (.aload_n 0, 1) := by decide +kernel
theorem dX6_sail_91 : decode cX6_sail 91 = .ok (.iload_n 3, 1) := by decide +kernel
theorem dX6_sail_92 : decode cX6_sail 92 = .ok (.putfield 9, 3) := by decide +kernel
theorem dX6_sail_95 : decode cX6_sail 95 = .ok (.goto 17, 3) := by decide +kernel
theorem dX6_sail_98 : decode cX6_sail 98 = .ok (.aload_n 0, 1) := by decide +kernel
theorem dX6_sail_99 : decode cX6_sail 99 = .ok (.dup, 1) := by decide +kernel
theorem dX6_sail_100 : decode cX6_sail 100 = .ok (.getfield 15, 3) := by decide +kernel
theorem dX6_sail_103 : decode cX6_sail 103 = .ok (.iload 4, 2) := by decide +kernel
theorem dX6_sail_105 : decode cX6_sail 105 = .ok (.invokestatic 52, 3) := by decide +kernel
theorem dX6_sail_108 : decode cX6_sail 108 = .ok (.iadd, 1) := by decide +kernel
theorem dX6_sail_109 : decode cX6_sail 109 = .ok (.putfield 15, 3) := by decide +kernel
theorem dX6_sail_112 : decode cX6_sail 112 = .ok (.iinc 3 1, 3) := by decide +kernel
theorem dX6_sail_115 : decode cX6_sail 115 = .ok (.goto (-96), 3) := by decide +kernel
theorem dX6_sail_118 : decode cX6_sail 118 = .ok (.return_, 1) := by decide +kernel
theorem dX7_init_0 : decode cX7_init 0 = .ok (.aload_n 0, 1) := by decide +kernel
theorem dX7_init_1 : decode cX7_init 1 = .ok (.invokespecial 1, 3) := by decide +kernel
theorem dX7_init_4 : decode cX7_init 4 = .ok (.aload_n 0, 1) := by decide +kernel
theorem dX7_init_5 : decode cX7_init 5 = .ok (.new 7, 3) := by decide +kernel
theorem dX7_init_8 : decode cX7_init 8 = .ok (.dup, 1) := by decide +kernel
theorem dX7_init_9 : decode cX7_init 9 = .ok (.invokespecial 9, 3) := by decide +kernel
theorem dX7_init_12 : decode cX7_init 12 = .ok (.putfield 10, 3) := by decide +kernel
theorem dX7_init_15 : decode cX7_init 15 = .ok (.aload_n 0, 1) := by decide +kernel
theorem dX7_init_16 : decode cX7_init 16 = .ok (.new 7, 3) := by decide +kernel
theorem dX7_init_19 : decode cX7_init 19 = .ok (.dup, 1) := by decide +kernel
theorem dX7_init_20 : decode cX7_init 20 = .ok (.invokespecial 9, 3) := by decide +kernel
theorem dX7_init_23 : decode cX7_init 23 = .ok (.putfield 16, 3) := by decide +kernel
theorem dX7_init_26 : decode cX7_init 26 = .ok (.aload_n 0, 1) := by decide +kernel
theorem dX7_init_27 : decode cX7_init 27 = .ok (.new 19, 3) := by decide +kernel
theorem dX7_init_30 : decode cX7_init 30 = .ok (.dup, 1) := by decide +kernel
theorem dX7_init_31 : decode cX7_init 31 = .ok (.aload_n 0, 1) := by decide +kernel
theorem dX7_init_32 : decode cX7_init 32 = .ok (.getfield 10, 3) := by decide +kernel
theorem dX7_init_35 : decode cX7_init 35 = .ok (.invokespecial 21, 3) := by decide +kernel
theorem dX7_init_38 : decode cX7_init 38 = .ok (.putfield 24, 3) := by decide +kernel
theorem dX7_init_41 : decode cX7_init 41 = .ok (.aload_n 0, 1) := by decide +kernel
theorem dX7_init_42 : decode cX7_init 42 = .ok (.new 28, 3) := by decide +kernel
theorem dX7_init_45 : decode cX7_init 45 = .ok (.dup, 1) := by decide +kernel
theorem dX7_init_46 : decode cX7_init 46 = .ok (.aload_n 0, 1) := by decide +kernel
theorem dX7_init_47 : decode cX7_init 47 = .ok (.getfield 10, 3) := by decide +kernel
theorem dX7_init_50 : decode cX7_init 50 = .ok (.invokespecial 30, 3) := by decide +kernel
theorem dX7_init_53 : decode cX7_init 53 = .ok (.putfield 31, 3) := by decide +kernel
theorem dX7_init_56 : decode cX7_init 56 = .ok (.aload_n 0, 1) := by decide +kernel
theorem dX7_init_57 : decode cX7_init 57 = .ok (.new 35, 3) := by decide +kernel
theorem dX7_init_60 : decode cX7_init 60 = .ok (.dup, 1) := by decide +kernel
theorem dX7_init_61 : decode cX7_init 61 = .ok (.aload_n 0, 1) := by decide +kernel
theorem dX7_init_62 : decode cX7_init 62 = .ok (.getfield 10, 3) := by decide +kernel
theorem dX7_init_65 : decode cX7_init 65 = .ok (.invokespecial 37, 3) := by decide +kernel
theorem dX7_init_68 : decode cX7_init 68 = .ok (.putfield 38, 3) := by decide +kernel
theorem dX7_init_71 : decode cX7_init 71 = .ok (.aload_n 0, 1) := by decide +kernel
theorem dX7_init_72 : decode cX7_init 72 = .ok (.new 42, 3) := by decide +kernel
theorem dX7_init_75 : decode cX7_init 75 = .ok (.dup, 1) := by decide +kernel
theorem dX7_init_76 : decode cX7_init 76 = .ok (.invokespecial 44, 3) := by decide +kernel
theorem dX7_init_79 : decode cX7_init 79 = .ok (.putfield 45, 3) := by decide +kernel
theorem dX7_init_82 : decode cX7_init 82 = .ok (.aload_n 0, 1) := by decide +kernel
theorem dX7_init_83 : decode cX7_init 83 = .ok (.new 49, 3) := by decide +kernel
theorem dX7_init_86 : decode cX7_init 86 = .ok (.dup, 1) := by decide +kernel
theorem dX7_init_87 : decode cX7_init 87 = .ok (.invokespecial 51, 3) := by decide +kernel
theorem dX7_init_90 : decode cX7_init 90 = .ok (.putfield 52, 3) := by decide +kernel
theorem dX7_init_93 : decode cX7_init 93 = .ok (.aload_n 0, 1) := by decide +kernel
theorem dX7_init_94 : decode cX7_init 94 = .ok (.new 56, 3) := by decide +kernel
theorem dX7_init_97 : decode cX7_init 97 = .ok (.dup, 1) := by decide +kernel
theorem dX7_init_98 : decode cX7_init 98 = .ok (.invokespecial 58, 3) := by decide +kernel
theorem dX7_init_101 : decode cX7_init 101 = .ok (.putfield 59, 3) := by decide +kernel
theorem dX7_init_104 : decode cX7_init 104 = .ok (.aload_n 0, 1) := by decide +kernel
theorem dX7_init_105 : decode cX7_init 105 = .ok (.bipush 61, 2) := by decide +kernel
theorem dX7_init_107 : decode cX7_init 107 = .ok (.newarray .int, 2) := by decide +kernel
theorem dX7_init_109 : decode cX7_init 109 = .ok (.putfield 63, 3) := by decide +kernel
theorem dX7_init_112 : decode cX7_init 112 = .ok (.aload_n 0, 1) := by decide +kernel
theorem dX7_init_113 : decode cX7_init 113 = .ok (.iconst 0, 1) := by decide +kernel
theorem dX7_init_114 : decode cX7_init 114 = .ok (.putfield 67, 3) := by decide +kernel
theorem dX7_init_117 : decode cX7_init 117 = .ok (.return_, 1) := by decide +kernel
theorem dX7_mile_0 : decode cX7_mile 0 = .ok (.iconst 0, 1) := by decide +kernel
theorem dX7_mile_1 : decode cX7_mile 1 = .ok (.iload_n 1, 1) := by decide +kernel
theorem dX7_mile_2 : decode cX7_mile 2 = .ok (.invokestatic 71, 3) := by decide +kernel
theorem dX7_mile_5 : decode cX7_mile 5 = .ok (.ifCond .eq 11, 3) := by decide +kernel
theorem dX7_mile_8 : decode cX7_mile 8 = .ok (.iconst 1, 1) := by decide +kernel
theorem dX7_mile_9 : decode cX7_mile 9 = .ok (.iload_n 2, 1) := by decide +kernel
theorem dX7_mile_10 : decode cX7_mile 10 = .ok (.invokestatic 71, 3) := by decide +kernel
theorem dX7_mile_13 : decode cX7_mile 13 = .ok (.ifCond .ne 5, 3) := by decide +kernel
theorem dX7_mile_16 : decode cX7_mile 16 = .ok (.iconst (-1), 1) := by decide +kernel
theorem dX7_mile_17 : decode cX7_mile 17 = .ok (.ireturn, 1) := by decide +kernel
theorem dX7_mile_18 : decode cX7_mile 18 = .ok (.aload_n 0, 1) := by decide +kernel
theorem dX7_mile_19 : decode cX7_mile 19 = .ok (.getfield 10, 3) := by decide +kernel
theorem dX7_mile_22 : decode cX7_mile 22 = .ok (.iload_n 1, 1) := by decide +kernel
theorem dX7_mile_23 : decode cX7_mile 23 = .ok (.iload_n 2, 1) := by decide +kernel
theorem dX7_mile_24 : decode cX7_mile 24 = .ok (.invokevirtual 75, 3) := by decide +kernel
theorem dX7_mile_27 : decode cX7_mile 27 = .ok (.ireturn, 1) := by decide +kernel
theorem dX7_make_0 : decode cX7_make 0 = .ok (.aload_n 0, 1) := by decide +kernel
theorem dX7_make_1 : decode cX7_make 1 = .ok (.getfield 10, 3) := by decide +kernel
theorem dX7_make_4 : decode cX7_make 4 = .ok (.iload_n 1, 1) := by decide +kernel
theorem dX7_make_5 : decode cX7_make 5 = .ok (.invokevirtual 79, 3) := by decide +kernel
theorem dX7_make_8 : decode cX7_make 8 = .ok (.ifCond .eq 20, 3) := by decide +kernel
theorem dX7_make_11 : decode cX7_make 11 = .ok (.iload_n 2, 1) := by decide +kernel
theorem dX7_make_12 : decode cX7_make 12 = .ok (.iconst 0, 1) := by decide +kernel
theorem dX7_make_13 : decode cX7_make 13 = .ok (.iconst 4, 1) := by decide +kernel
theorem dX7_make_14 : decode cX7_make 14 = .ok (.invokestatic 83, 3) := by decide +kernel
theorem dX7_make_17 : decode cX7_make 17 = .ok (.ifCond .eq 11, 3) := by decide +kernel
theorem dX7_make_20 : decode cX7_make 20 = .ok (.iload_n 2, 1) := by decide +kernel
theorem dX7_make_21 : decode cX7_make 21 = .ok (.iload_n 3, 1) := by decide +kernel
theorem dX7_make_22 : decode cX7_make 22 = .ok (.invokestatic 71, 3) := by decide +kernel
theorem dX7_make_25 : decode cX7_make 25 = .ok (.ifCond .ne 5, 3) := by decide +kernel
theorem dX7_make_28 : decode cX7_make 28 = .ok (.iconst (-1), 1) := by decide +kernel
theorem dX7_make_29 : decode cX7_make 29 = .ok (.ireturn, 1) := by decide +kernel
theorem dX7_make_30 : decode cX7_make 30 = .ok (.aload_n 0, 1) := by decide +kernel
theorem dX7_make_31 : decode cX7_make 31 = .ok (.getfield 10, 3) := by decide +kernel
theorem dX7_make_34 : decode cX7_make 34 = .ok (.iload_n 1, 1) := by decide +kernel
theorem dX7_make_35 : decode cX7_make 35 = .ok (.iload_n 2, 1) := by decide +kernel
theorem dX7_make_36 : decode cX7_make 36 = .ok (.iload_n 3, 1) := by decide +kernel
theorem dX7_make_37 : decode cX7_make 37 = .ok (.invokevirtual 87, 3) := by decide +kernel
theorem dX7_make_40 : decode cX7_make 40 = .ok (.ireturn, 1) := by decide +kernel
theorem dX7_told_0 : decode cX7_told 0 = .ok (.aload_n 0, 1) := by decide +kernel
theorem dX7_told_1 : decode cX7_told 1 = .ok (.getfield 10, 3) := by decide +kernel
theorem dX7_told_4 : decode cX7_told 4 = .ok (.iload_n 1, 1) := by decide +kernel
theorem dX7_told_5 : decode cX7_told 5 = .ok (.invokevirtual 79, 3) := by decide +kernel
theorem dX7_told_8 : decode cX7_told 8 = .ok (.ifCond .eq 12, 3) := by decide +kernel
theorem dX7_told_11 : decode cX7_told 11 = .ok (.iload_n 2, 1) := by decide +kernel
theorem dX7_told_12 : decode cX7_told 12 = .ok (.iconst 0, 1) := by decide +kernel
theorem dX7_told_13 : decode cX7_told 13 = .ok (.iconst 5, 1) := by decide +kernel
theorem dX7_told_14 : decode cX7_told 14 = .ok (.invokestatic 83, 3) := by decide +kernel
theorem dX7_told_17 : decode cX7_told 17 = .ok (.ifCond .ne 5, 3) := by decide +kernel
theorem dX7_told_20 : decode cX7_told 20 = .ok (.iconst (-1), 1) := by decide +kernel
theorem dX7_told_21 : decode cX7_told 21 = .ok (.ireturn, 1) := by decide +kernel
theorem dX7_told_22 : decode cX7_told 22 = .ok (.aload_n 0, 1) := by decide +kernel
theorem dX7_told_23 : decode cX7_told 23 = .ok (.getfield 10, 3) := by decide +kernel
theorem dX7_told_26 : decode cX7_told 26 = .ok (.iload_n 1, 1) := by decide +kernel
theorem dX7_told_27 : decode cX7_told 27 = .ok (.iload_n 2, 1) := by decide +kernel
theorem dX7_told_28 : decode cX7_told 28 = .ok (.invokevirtual 91, 3) := by decide +kernel
theorem dX7_told_31 : decode cX7_told 31 = .ok (.ireturn, 1) := by decide +kernel
theorem dX7_height_0 : decode cX7_height 0 = .ok (.iload_n 1, 1) := by decide +kernel
theorem dX7_height_1 : decode cX7_height 1 = .ok (.iconst 0, 1) := by decide +kernel
theorem dX7_height_2 : decode cX7_height 2 = .ok (.bipush 23, 2) := by decide +kernel
theorem dX7_height_4 : decode cX7_height 4 = .ok (.invokestatic 83, 3) := by decide +kernel
theorem dX7_height_7 : decode cX7_height 7 = .ok (.ifCond .eq 13, 3) := by decide +kernel
theorem dX7_height_10 : decode cX7_height 10 = .ok (.iload_n 2, 1) := by decide +kernel
theorem dX7_height_11 : decode cX7_height 11 = .ok (.iconst 0, 1) := by decide +kernel
theorem dX7_height_12 : decode cX7_height 12 = .ok (.bipush 99, 2) := by decide +kernel
theorem dX7_height_14 : decode cX7_height 14 = .ok (.invokestatic 83, 3) := by decide +kernel
theorem dX7_height_17 : decode cX7_height 17 = .ok (.ifCond .ne 5, 3) := by decide +kernel
theorem dX7_height_20 : decode cX7_height 20 = .ok (.iconst (-1), 1) := by decide +kernel
theorem dX7_height_21 : decode cX7_height 21 = .ok (.ireturn, 1) := by decide +kernel
theorem dX7_height_22 : decode cX7_height 22 = .ok (.aload_n 0, 1) := by decide +kernel
theorem dX7_height_23 : decode cX7_height 23 = .ok (.getfield 10, 3) := by decide +kernel
theorem dX7_height_26 : decode cX7_height 26 = .ok (.getfield 94, 3) := by decide +kernel
theorem dX7_height_29 : decode cX7_height 29 = .ok (.iload_n 1, 1) := by decide +kernel
theorem dX7_height_30 : decode cX7_height 30 = .ok (.iaload, 1) := by decide +kernel
theorem dX7_height_31 : decode cX7_height 31 = .ok (.istore_n 3, 1) := by decide +kernel
theorem dX7_height_32 : decode cX7_height 32 = .ok (.aload_n 0, 1) := by decide +kernel
theorem dX7_height_33 : decode cX7_height 33 = .ok (.getfield 10, 3) := by decide +kernel
theorem dX7_height_36 : decode cX7_height 36 = .ok (.getfield 94, 3) := by decide +kernel
theorem dX7_height_39 : decode cX7_height 39 = .ok (.iload_n 1, 1) := by decide +kernel
theorem dX7_height_40 : decode cX7_height 40 = .ok (.iload_n 2, 1) := by decide +kernel
theorem dX7_height_41 : decode cX7_height 41 = .ok (.iastore, 1) := by decide +kernel
theorem dX7_height_42 : decode cX7_height 42 = .ok (.iload_n 3, 1) := by decide +kernel
theorem dX7_height_43 : decode cX7_height 43 = .ok (.ireturn, 1) := by decide +kernel
theorem dX7_set_0 : decode cX7_set 0 = .ok (.iload_n 1, 1) := by decide +kernel
theorem dX7_set_1 : decode cX7_set 1 = .ok (.iconst 0, 1) := by decide +kernel
theorem dX7_set_2 : decode cX7_set 2 = .ok (.iconst 4, 1) := by decide +kernel
theorem dX7_set_3 : decode cX7_set 3 = .ok (.invokestatic 83, 3) := by decide +kernel
theorem dX7_set_6 : decode cX7_set 6 = .ok (.ifCond .eq 16, 3) := by decide +kernel
theorem dX7_set_9 : decode cX7_set 9 = .ok (.iload_n 2, 1) := by decide +kernel
theorem dX7_set_10 : decode cX7_set 10 = .ok (.iconst 0, 1) := by decide +kernel
theorem dX7_set_11 : decode cX7_set 11 = .ok (.getstatic 97, 3) := by decide +kernel
theorem dX7_set_14 : decode cX7_set 14 = .ok (.iload_n 1, 1) := by decide +kernel
theorem dX7_set_15 : decode cX7_set 15 = .ok (.iaload, 1) := by decide +kernel
theorem dX7_set_16 : decode cX7_set 16 = .ok (.invokestatic 83, 3) := by decide +kernel
theorem dX7_set_19 : decode cX7_set 19 = .ok (.ifCond .ne 5, 3) := by decide +kernel
theorem dX7_set_22 : decode cX7_set 22 = .ok (.iconst (-1), 1) := by decide +kernel
theorem dX7_set_23 : decode cX7_set 23 = .ok (.ireturn, 1) := by decide +kernel
theorem dX7_set_24 : decode cX7_set 24 = .ok (.aload_n 0, 1) := by decide +kernel
theorem dX7_set_25 : decode cX7_set 25 = .ok (.getfield 10, 3) := by decide +kernel
theorem dX7_set_28 : decode cX7_set 28 = .ok (.getfield 100, 3) := by decide +kernel
theorem dX7_set_31 : decode cX7_set 31 = .ok (.iload_n 1, 1) := by decide +kernel
theorem dX7_set_32 : decode cX7_set 32 = .ok (.iaload, 1) := by decide +kernel
theorem dX7_set_33 : decode cX7_set 33 = .ok (.istore_n 3, 1) := by decide +kernel
theorem dX7_set_34 : decode cX7_set 34 = .ok (.aload_n 0, 1) := by decide +kernel
theorem dX7_set_35 : decode cX7_set 35 = .ok (.getfield 10, 3) := by decide +kernel
theorem dX7_set_38 : decode cX7_set 38 = .ok (.getfield 100, 3) := by decide +kernel
theorem dX7_set_41 : decode cX7_set 41 = .ok (.iload_n 1, 1) := by decide +kernel
theorem dX7_set_42 : decode cX7_set 42 = .ok (.iload_n 2, 1) := by decide +kernel
theorem dX7_set_43 : decode cX7_set 43 = .ok (.iastore, 1) := by decide +kernel
theorem dX7_set_44 : decode cX7_set 44 = .ok (.iload_n 3, 1) := by decide +kernel
theorem dX7_set_45 : decode cX7_set 45 = .ok (.ireturn, 1) := by decide +kernel
theorem dX7_ship_0 : decode cX7_ship 0 = .ok (.iload_n 1, 1) := by decide +kernel
theorem dX7_ship_1 : decode cX7_ship 1 = .ok (.bipush 20, 2) := by decide +kernel
theorem dX7_ship_3 : decode cX7_ship 3 = .ok (.sipush 200, 3) := by decide +kernel
theorem dX7_ship_6 : decode cX7_ship 6 = .ok (.invokestatic 83, 3) := by decide +kernel
theorem dX7_ship_9 : decode cX7_ship 9 = .ok (.ifCond .eq 23, 3) := by decide +kernel
theorem dX7_ship_12 : decode cX7_ship 12 = .ok (.iload_n 2, 1) := by decide +kernel
theorem dX7_ship_13 : decode cX7_ship 13 = .ok (.iconst 1, 1) := by decide +kernel
theorem dX7_ship_14 : decode cX7_ship 14 = .ok (.bipush 40, 2) := by decide +kernel
theorem dX7_ship_16 : decode cX7_ship 16 = .ok (.invokestatic 83, 3) := by decide +kernel
theorem dX7_ship_19 : decode cX7_ship 19 = .ok (.ifCond .eq 13, 3) := by decide +kernel
theorem dX7_ship_22 : decode cX7_ship 22 = .ok (.iload_n 3, 1) := by decide +kernel
theorem dX7_ship_23 : decode cX7_ship 23 = .ok (.iconst 1, 1) := by decide +kernel
theorem dX7_ship_24 : decode cX7_ship 24 = .ok (.bipush 99, 2) := by decide +kernel
theorem dX7_ship_26 : decode cX7_ship 26 = .ok (.invokestatic 83, 3) := by decide +kernel
theorem dX7_ship_29 : decode cX7_ship 29 = .ok (.ifCond .ne 5, 3) := by decide +kernel
theorem dX7_ship_32 : decode cX7_ship 32 = .ok (.iconst (-1), 1) := by decide +kernel
theorem dX7_ship_33 : decode cX7_ship 33 = .ok (.ireturn, 1) := by decide +kernel
theorem dX7_ship_34 : decode cX7_ship 34 = .ok (.aload_n 0, 1) := by decide +kernel
theorem dX7_ship_35 : decode cX7_ship 35 = .ok (.getfield 10, 3) := by decide +kernel
theorem dX7_ship_38 : decode cX7_ship 38 = .ok (.iload_n 1, 1) := by decide +kernel
theorem dX7_ship_39 : decode cX7_ship 39 = .ok (.iload_n 2, 1) := by decide +kernel
theorem dX7_ship_40 : decode cX7_ship 40 = .ok (.iload_n 3, 1) := by decide +kernel
theorem dX7_ship_41 : decode cX7_ship 41 = .ok (.invokevirtual 103, 3) := by decide +kernel
theorem dX7_ship_44 : decode cX7_ship 44 = .ok (.ireturn, 1) := by decide +kernel
theorem dX7_pace_0 : decode cX7_pace 0 = .ok (.aload_n 0, 1) := by decide +kernel
theorem dX7_pace_1 : decode cX7_pace 1 = .ok (.getfield 10, 3) := by decide +kernel
theorem dX7_pace_4 : decode cX7_pace 4 = .ok (.iload_n 1, 1) := by decide +kernel
theorem dX7_pace_5 : decode cX7_pace 5 = .ok (.invokevirtual 79, 3) := by decide +kernel
theorem dX7_pace_8 : decode cX7_pace 8 = .ok (.ifCond .eq 10, 3) := by decide +kernel
theorem dX7_pace_11 : decode cX7_pace 11 = .ok (.iload_n 2, 1) := by decide +kernel
theorem dX7_pace_12 : decode cX7_pace 12 = .ok (.invokestatic 106, 3) := by decide +kernel
theorem dX7_pace_15 : decode cX7_pace 15 = .ok (.ifCond .ne 5, 3) := by decide +kernel
theorem dX7_pace_18 : decode cX7_pace 18 = .ok (.iconst (-1), 1) := by decide +kernel
theorem dX7_pace_19 : decode cX7_pace 19 = .ok (.ireturn, 1) := by decide +kernel
theorem dX7_pace_20 : decode cX7_pace 20 = .ok (.aload_n 0, 1) := by decide +kernel
theorem dX7_pace_21 : decode cX7_pace 21 = .ok (.getfield 10, 3) := by decide +kernel
theorem dX7_pace_24 : decode cX7_pace 24 = .ok (.iload_n 1, 1) := by decide +kernel
theorem dX7_pace_25 : decode cX7_pace 25 = .ok (.iconst 5, 1) := by decide +kernel
theorem dX7_pace_26 : decode cX7_pace 26 = .ok (.iload_n 2, 1) := by decide +kernel
theorem dX7_pace_27 : decode cX7_pace 27 = .ok (.invokevirtual 87, 3) := by decide +kernel
theorem dX7_pace_30 : decode cX7_pace 30 = .ok (.ireturn, 1) := by decide +kernel
theorem dX7_type_0 : decode cX7_type 0 = .ok (.aload_n 0, 1) := by decide +kernel
theorem dX7_type_1 : decode cX7_type 1 = .ok (.getfield 52, 3) := by decide +kernel
theorem dX7_type_4 : decode cX7_type 4 = .ok (.lload_n 1, 1) := by decide +kernel
theorem dX7_type_5 : decode cX7_type 5 = .ok (.iload_n 3, 1) := by decide +kernel
theorem dX7_type_6 : decode cX7_type 6 = .ok (.invokevirtual 109, 3) := by decide +kernel
theorem dX7_type_9 : decode cX7_type 9 = .ok (.ireturn, 1) := by decide +kernel
theorem dX7_channel_0 : decode cX7_channel 0 = .ok (.aload_n 0, 1) := by decide +kernel
theorem dX7_channel_1 : decode cX7_channel 1 = .ok (.getfield 52, 3) := by decide +kernel
theorem dX7_channel_4 : decode cX7_channel 4 = .ok (.invokevirtual 113, 3) := by decide +kernel
theorem dX7_channel_7 : decode cX7_channel 7 = .ok (.istore_n 1, 1) := by decide +kernel
theorem dX7_channel_8 : decode cX7_channel 8 = .ok (.iload_n 1, 1) := by decide +kernel
theorem dX7_channel_9 : decode cX7_channel 9 = .ok (.ifCond .le 18, 3) := by decide +kernel
theorem dX7_channel_12 : decode cX7_channel 12 = .ok (.aload_n 0, 1) := by decide +kernel
theorem dX7_channel_13 : decode cX7_channel 13 = .ok (.getfield 10, 3) := by decide +kernel
theorem dX7_channel_16 : decode cX7_channel 16 = .ok (.aload_n 0, 1) := by decide +kernel
theorem dX7_channel_17 : decode cX7_channel 17 = .ok (.getfield 52, 3) := by decide +kernel
theorem dX7_channel_20 : decode cX7_channel 20 = .ok (.getfield 117, 3) := by decide +kernel
theorem dX7_channel_23 : decode cX7_channel 23 = .ok (.iload_n 1, 1) := by decide +kernel
theorem dX7_channel_24 : decode cX7_channel 24 = .ok (.invokevirtual 120, 3) := by decide +kernel
theorem dX7_channel_27 : decode cX7_channel 27 = .ok (.iload_n 1, 1) := by decide +kernel
theorem dX7_channel_28 : decode cX7_channel 28 = .ok (.ireturn, 1) := by decide +kernel
theorem dX7_tides_0 : decode cX7_tides 0 = .ok (.aload_n 0, 1) := by decide +kernel
theorem dX7_tides_1 : decode cX7_tides 1 = .ok (.getfield 52, 3) := by decide +kernel
theorem dX7_tides_4 : decode cX7_tides 4 = .ok (.invokevirtual 124, 3) := by decide +kernel
theorem dX7_tides_7 : decode cX7_tides 7 = .ok (.istore_n 1, 1) := by decide +kernel
theorem dX7_tides_8 : decode cX7_tides 8 = .ok (.iload_n 1, 1) := by decide +kernel
theorem dX7_tides_9 : decode cX7_tides 9 = .ok (.ifCond .lt 24, 3) := by decide +kernel
theorem dX7_tides_12 : decode cX7_tides 12 = .ok (.aload_n 0, 1) := by decide +kernel
theorem dX7_tides_13 : decode cX7_tides 13 = .ok (.getfield 52, 3) := by decide +kernel
theorem dX7_tides_16 : decode cX7_tides 16 = .ok (.getfield 117, 3) := by decide +kernel
theorem dX7_tides_19 : decode cX7_tides 19 = .ok (.iconst 0, 1) := by decide +kernel
theorem dX7_tides_20 : decode cX7_tides 20 = .ok (.aload_n 0, 1) := by decide +kernel
theorem dX7_tides_21 : decode cX7_tides 21 = .ok (.getfield 10, 3) := by decide +kernel
theorem dX7_tides_24 : decode cX7_tides 24 = .ok (.getfield 94, 3) := by decide +kernel
theorem dX7_tides_27 : decode cX7_tides 27 = .ok (.iconst 0, 1) := by decide +kernel
theorem dX7_tides_28 : decode cX7_tides 28 = .ok (.bipush 24, 2) := by decide +kernel
theorem dX7_tides_30 : decode cX7_tides 30 = .ok (.invokestatic 127, 3) := by decide +kernel
theorem dX7_tides_33 : decode cX7_tides 33 = .ok (.iload_n 1, 1) := by decide +kernel
theorem dX7_tides_34 : decode cX7_tides 34 = .ok (.ireturn, 1) := by decide +kernel
theorem dX7_count_0 : decode cX7_count 0 = .ok (.iload_n 1, 1) := by decide +kernel
theorem dX7_count_1 : decode cX7_count 1 = .ok (.tableswitch 51 0 2 #[27, 35, 43], 27) := by decide +kernel
theorem dX7_count_28 : decode cX7_count 28 = .ok (.aload_n 0, 1) := by decide +kernel
theorem dX7_count_29 : decode cX7_count 29 = .ok (.getfield 10, 3) := by decide +kernel
theorem dX7_count_32 : decode cX7_count 32 = .ok (.getfield 133, 3) := by decide +kernel
theorem dX7_count_35 : decode cX7_count 35 = .ok (.ireturn, 1) := by decide +kernel
theorem dX7_count_36 : decode cX7_count 36 = .ok (.aload_n 0, 1) := by decide +kernel
theorem dX7_count_37 : decode cX7_count 37 = .ok (.getfield 10, 3) := by decide +kernel
theorem dX7_count_40 : decode cX7_count 40 = .ok (.getfield 137, 3) := by decide +kernel
theorem dX7_count_43 : decode cX7_count 43 = .ok (.ireturn, 1) := by decide +kernel
theorem dX7_count_44 : decode cX7_count 44 = .ok (.aload_n 0, 1) := by decide +kernel
theorem dX7_count_45 : decode cX7_count 45 = .ok (.getfield 10, 3) := by decide +kernel
theorem dX7_count_48 : decode cX7_count 48 = .ok (.invokevirtual 140, 3) := by decide +kernel
theorem dX7_count_51 : decode cX7_count 51 = .ok (.ireturn, 1) := by decide +kernel
theorem dX7_count_52 : decode cX7_count 52 = .ok (.iconst (-1), 1) := by decide +kernel
theorem dX7_count_53 : decode cX7_count 53 = .ok (.ireturn, 1) := by decide +kernel
theorem dX7_tide_0 : decode cX7_tide 0 = .ok (.iload_n 1, 1) := by decide +kernel
theorem dX7_tide_1 : decode cX7_tide 1 = .ok (.iconst 0, 1) := by decide +kernel
theorem dX7_tide_2 : decode cX7_tide 2 = .ok (.sipush 4000, 3) := by decide +kernel
theorem dX7_tide_5 : decode cX7_tide 5 = .ok (.invokestatic 83, 3) := by decide +kernel
theorem dX7_tide_8 : decode cX7_tide 8 = .ok (.ifCond .eq 14, 3) := by decide +kernel
theorem dX7_tide_11 : decode cX7_tide 11 = .ok (.aload_n 0, 1) := by decide +kernel
theorem dX7_tide_12 : decode cX7_tide 12 = .ok (.getfield 10, 3) := by decide +kernel
theorem dX7_tide_15 : decode cX7_tide 15 = .ok (.iload_n 1, 1) := by decide +kernel
theorem dX7_tide_16 : decode cX7_tide 16 = .ok (.invokevirtual 143, 3) := by decide +kernel
theorem dX7_tide_19 : decode cX7_tide 19 = .ok (.goto 4, 3) := by decide +kernel
theorem dX7_tide_22 : decode cX7_tide 22 = .ok (.iconst (-1), 1) := by decide +kernel
theorem dX7_tide_23 : decode cX7_tide 23 = .ok (.ireturn, 1) := by decide +kernel
theorem dX7_water_0 : decode cX7_water 0 = .ok (.aload_n 0, 1) := by decide +kernel
theorem dX7_water_1 : decode cX7_water 1 = .ok (.getfield 10, 3) := by decide +kernel
theorem dX7_water_4 : decode cX7_water 4 = .ok (.iload_n 1, 1) := by decide +kernel
theorem dX7_water_5 : decode cX7_water 5 = .ok (.invokevirtual 79, 3) := by decide +kernel
theorem dX7_water_8 : decode cX7_water 8 = .ok (.ifCond .eq 14, 3) := by decide +kernel
theorem dX7_water_11 : decode cX7_water 11 = .ok (.iload_n 2, 1) := by decide +kernel
theorem dX7_water_12 : decode cX7_water 12 = .ok (.iconst 0, 1) := by decide +kernel
theorem dX7_water_13 : decode cX7_water 13 = .ok (.sipush 4000, 3) := by decide +kernel
theorem dX7_water_16 : decode cX7_water 16 = .ok (.invokestatic 83, 3) := by decide +kernel
theorem dX7_water_19 : decode cX7_water 19 = .ok (.ifCond .ne 6, 3) := by decide +kernel
theorem dX7_water_22 : decode cX7_water 22 = .ok (.ldc 147, 2) := by decide +kernel
theorem dX7_water_24 : decode cX7_water 24 = .ok (.ireturn, 1) := by decide +kernel
theorem dX7_water_25 : decode cX7_water 25 = .ok (.aload_n 0, 1) := by decide +kernel
theorem dX7_water_26 : decode cX7_water 26 = .ok (.getfield 10, 3) := by decide +kernel
theorem dX7_water_29 : decode cX7_water 29 = .ok (.iload_n 1, 1) := by decide +kernel
theorem dX7_water_30 : decode cX7_water 30 = .ok (.aload_n 0, 1) := by decide +kernel
theorem dX7_water_31 : decode cX7_water 31 = .ok (.getfield 10, 3) := by decide +kernel
theorem dX7_water_34 : decode cX7_water 34 = .ok (.iload_n 2, 1) := by decide +kernel
theorem dX7_water_35 : decode cX7_water 35 = .ok (.invokevirtual 143, 3) := by decide +kernel
theorem dX7_water_38 : decode cX7_water 38 = .ok (.aload_n 0, 1) := by decide +kernel
theorem dX7_water_39 : decode cX7_water 39 = .ok (.getfield 10, 3) := by decide +kernel
theorem dX7_water_42 : decode cX7_water 42 = .ok (.getfield 100, 3) := by decide +kernel
theorem dX7_water_45 : decode cX7_water 45 = .ok (.iconst 1, 1) := by decide +kernel
theorem dX7_water_46 : decode cX7_water 46 = .ok (.iaload, 1) := by decide +kernel
theorem dX7_water_47 : decode cX7_water 47 = .ok (.invokevirtual 148, 3) := by decide +kernel
theorem dX7_water_50 : decode cX7_water 50 = .ok (.ireturn, 1) := by decide +kernel
theorem dX7_sinks_0 : decode cX7_sinks 0 = .ok (.aload_n 0, 1) := by decide +kernel
theorem dX7_sinks_1 : decode cX7_sinks 1 = .ok (.iload_n 1, 1) := by decide +kernel
theorem dX7_sinks_2 : decode cX7_sinks 2 = .ok (.iload_n 2, 1) := by decide +kernel
theorem dX7_sinks_3 : decode cX7_sinks 3 = .ok (.iload_n 3, 1) := by decide +kernel
theorem dX7_sinks_4 : decode cX7_sinks 4 = .ok (.iload 4, 2) := by decide +kernel
theorem dX7_sinks_6 : decode cX7_sinks 6 = .ok (.invokevirtual 151, 3) := by decide +kernel
theorem dX7_sinks_9 : decode cX7_sinks 9 = .ok (.ifCond .ne 5, 3) := by decide +kernel
theorem dX7_sinks_12 : decode cX7_sinks 12 = .ok (.iconst (-1), 1) := by decide +kernel
theorem dX7_sinks_13 : decode cX7_sinks 13 = .ok (.ireturn, 1) := by decide +kernel
theorem dX7_sinks_14 : decode cX7_sinks 14 = .ok (.aload_n 0, 1) := by decide +kernel
theorem dX7_sinks_15 : decode cX7_sinks 15 = .ok (.getfield 24, 3) := by decide +kernel
theorem dX7_sinks_18 : decode cX7_sinks 18 = .ok (.iload_n 1, 1) := by decide +kernel
theorem dX7_sinks_19 : decode cX7_sinks 19 = .ok (.invokevirtual 155, 3) := by decide +kernel
theorem dX7_sinks_22 : decode cX7_sinks 22 = .ok (.aload_n 0, 1) := by decide +kernel
theorem dX7_sinks_23 : decode cX7_sinks 23 = .ok (.getfield 24, 3) := by decide +kernel
theorem dX7_sinks_26 : decode cX7_sinks 26 = .ok (.iload_n 2, 1) := by decide +kernel
theorem dX7_sinks_27 : decode cX7_sinks 27 = .ok (.aload_n 0, 1) := by decide +kernel
theorem dX7_sinks_28 : decode cX7_sinks 28 = .ok (.getfield 24, 3) := by decide +kernel
theorem dX7_sinks_31 : decode cX7_sinks 31 = .ok (.iload_n 2, 1) := by decide +kernel
theorem dX7_sinks_32 : decode cX7_sinks 32 = .ok (.aload_n 0, 1) := by decide +kernel
theorem dX7_sinks_33 : decode cX7_sinks 33 = .ok (.getfield 10, 3) := by decide +kernel
theorem dX7_sinks_36 : decode cX7_sinks 36 = .ok (.iload_n 3, 1) := by decide +kernel
theorem dX7_sinks_37 : decode cX7_sinks 37 = .ok (.invokevirtual 143, 3) := by decide +kernel
theorem dX7_sinks_40 : decode cX7_sinks 40 = .ok (.invokevirtual 159, 3) := by decide +kernel
theorem dX7_sinks_43 : decode cX7_sinks 43 = .ok (.iload 4, 2) := by decide +kernel
theorem dX7_sinks_45 : decode cX7_sinks 45 = .ok (.invokevirtual 162, 3) := by decide +kernel
theorem dX7_sinks_48 : decode cX7_sinks 48 = .ok (.ireturn, 1) := by decide +kernel
theorem dX7_under_0 : decode cX7_under 0 = .ok (.aload_n 0, 1) := by decide +kernel
theorem dX7_under_1 : decode cX7_under 1 = .ok (.iload_n 1, 1) := by decide +kernel
theorem dX7_under_2 : decode cX7_under 2 = .ok (.iload_n 2, 1) := by decide +kernel
theorem dX7_under_3 : decode cX7_under 3 = .ok (.iload_n 3, 1) := by decide +kernel
theorem dX7_under_4 : decode cX7_under 4 = .ok (.iload 4, 2) := by decide +kernel
theorem dX7_under_6 : decode cX7_under 6 = .ok (.invokevirtual 151, 3) := by decide +kernel
theorem dX7_under_9 : decode cX7_under 9 = .ok (.ifCond .ne 6, 3) := by decide +kernel
theorem dX7_under_12 : decode cX7_under 12 = .ok (.ldc 147, 2) := by decide +kernel
theorem dX7_under_14 : decode cX7_under 14 = .ok (.ireturn, 1) := by decide +kernel
theorem dX7_under_15 : decode cX7_under 15 = .ok (.aload_n 0, 1) := by decide +kernel
theorem dX7_under_16 : decode cX7_under 16 = .ok (.getfield 24, 3) := by decide +kernel
theorem dX7_under_19 : decode cX7_under 19 = .ok (.iload_n 1, 1) := by decide +kernel
theorem dX7_under_20 : decode cX7_under 20 = .ok (.invokevirtual 155, 3) := by decide +kernel
theorem dX7_under_23 : decode cX7_under 23 = .ok (.aload_n 0, 1) := by decide +kernel
theorem dX7_under_24 : decode cX7_under 24 = .ok (.getfield 24, 3) := by decide +kernel
theorem dX7_under_27 : decode cX7_under 27 = .ok (.iload_n 2, 1) := by decide +kernel
theorem dX7_under_28 : decode cX7_under 28 = .ok (.aload_n 0, 1) := by decide +kernel
theorem dX7_under_29 : decode cX7_under 29 = .ok (.getfield 10, 3) := by decide +kernel
theorem dX7_under_32 : decode cX7_under 32 = .ok (.iload_n 3, 1) := by decide +kernel
theorem dX7_under_33 : decode cX7_under 33 = .ok (.invokevirtual 143, 3) := by decide +kernel
theorem dX7_under_36 : decode cX7_under 36 = .ok (.iload 4, 2) := by decide +kernel
theorem dX7_under_38 : decode cX7_under 38 = .ok (.invokevirtual 165, 3) := by decide +kernel
theorem dX7_under_41 : decode cX7_under 41 = .ok (.ireturn, 1) := by decide +kernel
theorem dX7_need_0 : decode cX7_need 0 = .ok (.aload_n 0, 1) := by decide +kernel
theorem dX7_need_1 : decode cX7_need 1 = .ok (.getfield 10, 3) := by decide +kernel
theorem dX7_need_4 : decode cX7_need 4 = .ok (.iload_n 1, 1) := by decide +kernel
theorem dX7_need_5 : decode cX7_need 5 = .ok (.invokevirtual 168, 3) := by decide +kernel
theorem dX7_need_8 : decode cX7_need 8 = .ok (.ifCond .ne 5, 3) := by decide +kernel
theorem dX7_need_11 : decode cX7_need 11 = .ok (.iconst (-1), 1) := by decide +kernel
theorem dX7_need_12 : decode cX7_need 12 = .ok (.ireturn, 1) := by decide +kernel
theorem dX7_need_13 : decode cX7_need 13 = .ok (.aload_n 0, 1) := by decide +kernel
theorem dX7_need_14 : decode cX7_need 14 = .ok (.getfield 24, 3) := by decide +kernel
theorem dX7_need_17 : decode cX7_need 17 = .ok (.iload_n 1, 1) := by decide +kernel
theorem dX7_need_18 : decode cX7_need 18 = .ok (.invokevirtual 155, 3) := by decide +kernel
theorem dX7_need_21 : decode cX7_need 21 = .ok (.aload_n 0, 1) := by decide +kernel
theorem dX7_need_22 : decode cX7_need 22 = .ok (.getfield 24, 3) := by decide +kernel
theorem dX7_need_25 : decode cX7_need 25 = .ok (.getfield 171, 3) := by decide +kernel
theorem dX7_need_28 : decode cX7_need 28 = .ok (.ireturn, 1) := by decide +kernel
theorem dX7_run_0 : decode cX7_run 0 = .ok (.aload_n 0, 1) := by decide +kernel
theorem dX7_run_1 : decode cX7_run 1 = .ok (.iload_n 1, 1) := by decide +kernel
theorem dX7_run_2 : decode cX7_run 2 = .ok (.iload_n 2, 1) := by decide +kernel
theorem dX7_run_3 : decode cX7_run 3 = .ok (.invokevirtual 174, 3) := by decide +kernel
theorem dX7_run_6 : decode cX7_run 6 = .ok (.ifCond .eq 12, 3) := by decide +kernel
theorem dX7_run_9 : decode cX7_run 9 = .ok (.iload_n 3, 1) := by decide +kernel
theorem dX7_run_10 : decode cX7_run 10 = .ok (.iconst 0, 1) := by decide +kernel
theorem dX7_run_11 : decode cX7_run 11 = .ok (.iconst 3, 1) := by decide +kernel
theorem dX7_run_12 : decode cX7_run 12 = .ok (.invokestatic 83, 3) := by decide +kernel
theorem dX7_run_15 : decode cX7_run 15 = .ok (.ifCond .ne 5, 3) := by decide +kernel
theorem dX7_run_18 : decode cX7_run 18 = .ok (.iconst (-1), 1) := by decide +kernel
theorem dX7_run_19 : decode cX7_run 19 = .ok (.ireturn, 1) := by decide +kernel
theorem dX7_run_20 : decode cX7_run 20 = .ok (.aload_n 0, 1) := by decide +kernel
theorem dX7_run_21 : decode cX7_run 21 = .ok (.getfield 10, 3) := by decide +kernel
theorem dX7_run_24 : decode cX7_run 24 = .ok (.getfield 133, 3) := by decide +kernel
theorem dX7_run_27 : decode cX7_run 27 = .ok (.ifCond .ne 6, 3) := by decide +kernel
theorem dX7_run_30 : decode cX7_run 30 = .ok (.bipush (-2), 2) := by decide +kernel
theorem dX7_run_32 : decode cX7_run 32 = .ok (.ireturn, 1) := by decide +kernel
theorem dX7_run_33 : decode cX7_run 33 = .ok (.aload_n 0, 1) := by decide +kernel
theorem dX7_run_34 : decode cX7_run 34 = .ok (.getfield 24, 3) := by decide +kernel
theorem dX7_run_37 : decode cX7_run 37 = .ok (.iload_n 1, 1) := by decide +kernel
theorem dX7_run_38 : decode cX7_run 38 = .ok (.invokevirtual 155, 3) := by decide +kernel
theorem dX7_run_41 : decode cX7_run 41 = .ok (.aload_n 0, 1) := by decide +kernel
theorem dX7_run_42 : decode cX7_run 42 = .ok (.getfield 31, 3) := by decide +kernel
theorem dX7_run_45 : decode cX7_run 45 = .ok (.aload_n 0, 1) := by decide +kernel
theorem dX7_run_46 : decode cX7_run 46 = .ok (.getfield 24, 3) := by decide +kernel
theorem dX7_run_49 : decode cX7_run 49 = .ok (.iload_n 2, 1) := by decide +kernel
theorem dX7_run_50 : decode cX7_run 50 = .ok (.invokevirtual 177, 3) := by decide +kernel
theorem dX7_run_53 : decode cX7_run 53 = .ok (.iload_n 3, 1) := by decide +kernel
theorem dX7_run_54 : decode cX7_run 54 = .ok (.tableswitch 53 0 2 #[26, 34, 42], 26) := by decide +kernel
theorem dX7_run_80 : decode cX7_run 80 = .ok (.aload_n 0, 1) := by decide +kernel
theorem dX7_run_81 : decode cX7_run 81 = .ok (.getfield 31, 3) := by decide +kernel
theorem dX7_run_84 : decode cX7_run 84 = .ok (.getfield 181, 3) := by decide +kernel
theorem dX7_run_87 : decode cX7_run 87 = .ok (.ireturn, 1) := by decide +kernel
theorem dX7_run_88 : decode cX7_run 88 = .ok (.aload_n 0, 1) := by decide +kernel
theorem dX7_run_89 : decode cX7_run 89 = .ok (.getfield 31, 3) := by decide +kernel
theorem dX7_run_92 : decode cX7_run 92 = .ok (.getfield 184, 3) := by decide +kernel
theorem dX7_run_95 : decode cX7_run 95 = .ok (.ireturn, 1) := by decide +kernel
theorem dX7_run_96 : decode cX7_run 96 = .ok (.aload_n 0, 1) := by decide +kernel
theorem dX7_run_97 : decode cX7_run 97 = .ok (.getfield 31, 3) := by decide +kernel
theorem dX7_run_100 : decode cX7_run 100 = .ok (.getfield 187, 3) := by decide +kernel
theorem dX7_run_103 : decode cX7_run 103 = .ok (.ldc 190, 2) := by decide +kernel
theorem dX7_run_105 : decode cX7_run 105 = .ok (.iadd, 1) := by decide +kernel
theorem dX7_run_106 : decode cX7_run 106 = .ok (.ireturn, 1) := by decide +kernel
theorem dX7_run_107 : decode cX7_run 107 = .ok (.aload_n 0, 1) := by decide +kernel
theorem dX7_run_108 : decode cX7_run 108 = .ok (.getfield 31, 3) := by decide +kernel
theorem dX7_run_111 : decode cX7_run 111 = .ok (.getfield 187, 3) := by decide +kernel
theorem dX7_run_114 : decode cX7_run 114 = .ok (.aload_n 0, 1) := by decide +kernel
theorem dX7_run_115 : decode cX7_run 115 = .ok (.getfield 24, 3) := by decide +kernel
theorem dX7_run_118 : decode cX7_run 118 = .ok (.getfield 171, 3) := by decide +kernel
theorem dX7_run_121 : decode cX7_run 121 = .ok (.if_icmp .lt 7, 3) := by decide +kernel
theorem dX7_run_124 : decode cX7_run 124 = .ok (.iconst 1, 1) := by decide +kernel
theorem dX7_run_125 : decode cX7_run 125 = .ok (.goto 4, 3) := by decide +kernel
theorem dX7_run_128 : decode cX7_run 128 = .ok (.iconst 0, 1) := by decide +kernel
theorem dX7_run_129 : decode cX7_run 129 = .ok (.ireturn, 1) := by decide +kernel
theorem dX7_least_0 : decode cX7_least 0 = .ok (.aload_n 0, 1) := by decide +kernel
theorem dX7_least_1 : decode cX7_least 1 = .ok (.iload_n 1, 1) := by decide +kernel
theorem dX7_least_2 : decode cX7_least 2 = .ok (.iload_n 2, 1) := by decide +kernel
theorem dX7_least_3 : decode cX7_least 3 = .ok (.iload_n 3, 1) := by decide +kernel
theorem dX7_least_4 : decode cX7_least 4 = .ok (.iconst (-1), 1) := by decide +kernel
theorem dX7_least_5 : decode cX7_least 5 = .ok (.invokevirtual 191, 3) := by decide +kernel
theorem dX7_least_8 : decode cX7_least 8 = .ok (.istore 4, 2) := by decide +kernel
theorem dX7_least_10 : decode cX7_least 10 = .ok (.iload 4, 2) := by decide +kernel
theorem dX7_least_12 : decode cX7_least 12 = .ok (.ifCond .eq 6, 3) := by decide +kernel
theorem dX7_least_15 : decode cX7_least 15 = .ok (.iload 4, 2) := by decide +kernel
theorem dX7_least_17 : decode cX7_least 17 = .ok (.ireturn, 1) := by decide +kernel
theorem dX7_least_18 : decode cX7_least 18 = .ok (.aload_n 0, 1) := by decide +kernel
theorem dX7_least_19 : decode cX7_least 19 = .ok (.getfield 24, 3) := by decide +kernel
theorem dX7_least_22 : decode cX7_least 22 = .ok (.iload_n 1, 1) := by decide +kernel
theorem dX7_least_23 : decode cX7_least 23 = .ok (.invokevirtual 155, 3) := by decide +kernel
theorem dX7_least_26 : decode cX7_least 26 = .ok (.aload_n 0, 1) := by decide +kernel
theorem dX7_least_27 : decode cX7_least 27 = .ok (.getfield 38, 3) := by decide +kernel
theorem dX7_least_30 : decode cX7_least 30 = .ok (.aload_n 0, 1) := by decide +kernel
theorem dX7_least_31 : decode cX7_least 31 = .ok (.getfield 24, 3) := by decide +kernel
theorem dX7_least_34 : decode cX7_least 34 = .ok (.invokevirtual 195, 3) := by decide +kernel
theorem dX7_least_37 : decode cX7_least 37 = .ok (.aload_n 0, 1) := by decide +kernel
theorem dX7_least_38 : decode cX7_least 38 = .ok (.getfield 38, 3) := by decide +kernel
theorem dX7_least_41 : decode cX7_least 41 = .ok (.iload_n 2, 1) := by decide +kernel
theorem dX7_least_42 : decode cX7_least 42 = .ok (.invokevirtual 198, 3) := by decide +kernel
theorem dX7_least_45 : decode cX7_least 45 = .ok (.istore 5, 2) := by decide +kernel
theorem dX7_least_47 : decode cX7_least 47 = .ok (.iload 5, 2) := by decide +kernel
theorem dX7_least_49 : decode cX7_least 49 = .ok (.bipush (-4), 2) := by decide +kernel
theorem dX7_least_51 : decode cX7_least 51 = .ok (.if_icmp .eq 7, 3) := by decide +kernel
theorem dX7_least_54 : decode cX7_least 54 = .ok (.iload_n 3, 1) := by decide +kernel
theorem dX7_least_55 : decode cX7_least 55 = .ok (.ifCond .ge 6, 3) := by decide +kernel
theorem dX7_least_58 : decode cX7_least 58 = .ok (.iload 5, 2) := by decide +kernel
theorem dX7_least_60 : decode cX7_least 60 = .ok (.ireturn, 1) := by decide +kernel
theorem dX7_least_61 : decode cX7_least 61 = .ok (.aload_n 0, 1) := by decide +kernel
theorem dX7_least_62 : decode cX7_least 62 = .ok (.getfield 38, 3) := by decide +kernel
theorem dX7_least_65 : decode cX7_least 65 = .ok (.iload_n 2, 1) := by decide +kernel
theorem dX7_least_66 : decode cX7_least 66 = .ok (.iload 5, 2) := by decide +kernel
theorem dX7_least_68 : decode cX7_least 68 = .ok (.iload_n 3, 1) := by decide +kernel
theorem dX7_least_69 : decode cX7_least 69 = .ok (.invokevirtual 201, 3) := by decide +kernel
theorem dX7_least_72 : decode cX7_least 72 = .ok (.ireturn, 1) := by decide +kernel
theorem dX7_starts_0 : decode cX7_starts 0 = .ok (.aload_n 0, 1) := by decide +kernel
theorem dX7_starts_1 : decode cX7_starts 1 = .ok (.getfield 10, 3) := by decide +kernel
theorem dX7_starts_4 : decode cX7_starts 4 = .ok (.iload_n 1, 1) := by decide +kernel
theorem dX7_starts_5 : decode cX7_starts 5 = .ok (.invokevirtual 168, 3) := by decide +kernel
theorem dX7_starts_8 : decode cX7_starts 8 = .ok (.ifCond .eq 12, 3) := by decide +kernel
theorem dX7_starts_11 : decode cX7_starts 11 = .ok (.iload_n 2, 1) := by decide +kernel
theorem dX7_starts_12 : decode cX7_starts 12 = .ok (.iconst 0, 1) := by decide +kernel
theorem dX7_starts_13 : decode cX7_starts 13 = .ok (.iconst 2, 1) := by decide +kernel
theorem dX7_starts_14 : decode cX7_starts 14 = .ok (.invokestatic 83, 3) := by decide +kernel
theorem dX7_starts_17 : decode cX7_starts 17 = .ok (.ifCond .ne 5, 3) := by decide +kernel
theorem dX7_starts_20 : decode cX7_starts 20 = .ok (.iconst (-1), 1) := by decide +kernel
theorem dX7_starts_21 : decode cX7_starts 21 = .ok (.ireturn, 1) := by decide +kernel
theorem dX7_starts_22 : decode cX7_starts 22 = .ok (.aload_n 0, 1) := by decide +kernel
theorem dX7_starts_23 : decode cX7_starts 23 = .ok (.getfield 10, 3) := by decide +kernel
theorem dX7_starts_26 : decode cX7_starts 26 = .ok (.getfield 133, 3) := by decide +kernel
theorem dX7_starts_29 : decode cX7_starts 29 = .ok (.ifCond .ne 6, 3) := by decide +kernel
theorem dX7_starts_32 : decode cX7_starts 32 = .ok (.bipush (-2), 2) := by decide +kernel
theorem dX7_starts_34 : decode cX7_starts 34 = .ok (.ireturn, 1) := by decide +kernel
theorem dX7_starts_35 : decode cX7_starts 35 = .ok (.aload_n 0, 1) := by decide +kernel
theorem dX7_starts_36 : decode cX7_starts 36 = .ok (.getfield 45, 3) := by decide +kernel
theorem dX7_starts_39 : decode cX7_starts 39 = .ok (.iload_n 1, 1) := by decide +kernel
theorem dX7_starts_40 : decode cX7_starts 40 = .ok (.invokevirtual 204, 3) := by decide +kernel
theorem dX7_starts_43 : decode cX7_starts 43 = .ok (.astore_n 3, 1) := by decide +kernel
theorem dX7_starts_44 : decode cX7_starts 44 = .ok (.aload_n 0, 1) := by decide +kernel
theorem dX7_starts_45 : decode cX7_starts 45 = .ok (.getfield 24, 3) := by decide +kernel
theorem dX7_starts_48 : decode cX7_starts 48 = .ok (.iload_n 1, 1) := by decide +kernel
theorem dX7_starts_49 : decode cX7_starts 49 = .ok (.invokevirtual 155, 3) := by decide +kernel
theorem dX7_starts_52 : decode cX7_starts 52 = .ok (.aload_n 0, 1) := by decide +kernel
theorem dX7_starts_53 : decode cX7_starts 53 = .ok (.getfield 38, 3) := by decide +kernel
theorem dX7_starts_56 : decode cX7_starts 56 = .ok (.aload_n 0, 1) := by decide +kernel
theorem dX7_starts_57 : decode cX7_starts 57 = .ok (.getfield 24, 3) := by decide +kernel
theorem dX7_starts_60 : decode cX7_starts 60 = .ok (.invokevirtual 195, 3) := by decide +kernel
theorem dX7_starts_63 : decode cX7_starts 63 = .ok (.aload_n 0, 1) := by decide +kernel
theorem dX7_starts_64 : decode cX7_starts 64 = .ok (.getfield 38, 3) := by decide +kernel
theorem dX7_starts_67 : decode cX7_starts 67 = .ok (.aload_n 3, 1) := by decide +kernel
theorem dX7_starts_68 : decode cX7_starts 68 = .ok (.invokevirtual 208, 3) := by decide +kernel
theorem dX7_starts_71 : decode cX7_starts 71 = .ok (.iload_n 2, 1) := by decide +kernel
theorem dX7_starts_72 : decode cX7_starts 72 = .ok (.lookupswitch 39 #[(0, 28), (1, 33)], 28) := by decide +kernel
theorem dX7_starts_100 : decode cX7_starts 100 = .ok (.aload_n 3, 1) := by decide +kernel
theorem dX7_starts_101 : decode cX7_starts 101 = .ok (.invokestatic 212, 3) := by decide +kernel
theorem dX7_starts_104 : decode cX7_starts 104 = .ok (.ireturn, 1) := by decide +kernel
theorem dX7_starts_105 : decode cX7_starts 105 = .ok (.aload_n 3, 1) := by decide +kernel
theorem dX7_starts_106 : decode cX7_starts 106 = .ok (.iconst 0, 1) := by decide +kernel
theorem dX7_starts_107 : decode cX7_starts 107 = .ok (.invokestatic 216, 3) := by decide +kernel
theorem dX7_starts_110 : decode cX7_starts 110 = .ok (.ireturn, 1) := by decide +kernel
theorem dX7_starts_111 : decode cX7_starts 111 = .ok (.aload_n 3, 1) := by decide +kernel
theorem dX7_starts_112 : decode cX7_starts 112 = .ok (.invokestatic 220, 3) := by decide +kernel
theorem dX7_starts_115 : decode cX7_starts 115 = .ok (.ireturn, 1) := by decide +kernel
theorem dX7_deepest_0 : decode cX7_deepest 0 = .ok (.aload_n 0, 1) := by decide +kernel
theorem dX7_deepest_1 : decode cX7_deepest 1 = .ok (.iload_n 1, 1) := by decide +kernel
theorem dX7_deepest_2 : decode cX7_deepest 2 = .ok (.iload_n 2, 1) := by decide +kernel
theorem dX7_deepest_3 : decode cX7_deepest 3 = .ok (.invokevirtual 174, 3) := by decide +kernel
theorem dX7_deepest_6 : decode cX7_deepest 6 = .ok (.ifCond .ne 5, 3) := by decide +kernel
theorem dX7_deepest_9 : decode cX7_deepest 9 = .ok (.iconst (-1), 1) := by decide +kernel
theorem dX7_deepest_10 : decode cX7_deepest 10 = .ok (.ireturn, 1) := by decide +kernel
theorem dX7_deepest_11 : decode cX7_deepest 11 = .ok (.aload_n 0, 1) := by decide +kernel
theorem dX7_deepest_12 : decode cX7_deepest 12 = .ok (.getfield 10, 3) := by decide +kernel
theorem dX7_deepest_15 : decode cX7_deepest 15 = .ok (.getfield 133, 3) := by decide +kernel
theorem dX7_deepest_18 : decode cX7_deepest 18 = .ok (.ifCond .ne 6, 3) := by decide +kernel
theorem dX7_deepest_21 : decode cX7_deepest 21 = .ok (.bipush (-2), 2) := by decide +kernel
theorem dX7_deepest_23 : decode cX7_deepest 23 = .ok (.ireturn, 1) := by decide +kernel
theorem dX7_deepest_24 : decode cX7_deepest 24 = .ok (.aload_n 0, 1) := by decide +kernel
theorem dX7_deepest_25 : decode cX7_deepest 25 = .ok (.getfield 24, 3) := by decide +kernel
theorem dX7_deepest_28 : decode cX7_deepest 28 = .ok (.iload_n 1, 1) := by decide +kernel
theorem dX7_deepest_29 : decode cX7_deepest 29 = .ok (.invokevirtual 155, 3) := by decide +kernel
theorem dX7_deepest_32 : decode cX7_deepest 32 = .ok (.aload_n 0, 1) := by decide +kernel
theorem dX7_deepest_33 : decode cX7_deepest 33 = .ok (.getfield 38, 3) := by decide +kernel
theorem dX7_deepest_36 : decode cX7_deepest 36 = .ok (.invokevirtual 223, 3) := by decide +kernel
theorem dX7_deepest_39 : decode cX7_deepest 39 = .ok (.bipush 19, 2) := by decide +kernel
theorem dX7_deepest_41 : decode cX7_deepest 41 = .ok (.istore_n 3, 1) := by decide +kernel
theorem dX7_deepest_42 : decode cX7_deepest 42 = .ok (.sipush 128, 3) := by decide +kernel
theorem dX7_deepest_45 : decode cX7_deepest 45 = .ok (.istore 4, 2) := by decide +kernel
theorem dX7_deepest_47 : decode cX7_deepest 47 = .ok (.iload 4, 2) := by decide +kernel
theorem dX7_deepest_49 : decode cX7_deepest 49 = .ok (.iconst 1, 1) := by decide +kernel
theorem dX7_deepest_50 : decode cX7_deepest 50 = .ok (.if_icmp .lt 62, 3) := by decide +kernel
theorem dX7_deepest_53 : decode cX7_deepest 53 = .ok (.iload_n 3, 1) := by decide +kernel
theorem dX7_deepest_54 : decode cX7_deepest 54 = .ok (.iload 4, 2) := by decide +kernel
theorem dX7_deepest_56 : decode cX7_deepest 56 = .ok (.iadd, 1) := by decide +kernel
theorem dX7_deepest_57 : decode cX7_deepest 57 = .ok (.sipush 200, 3) := by decide +kernel
theorem dX7_deepest_60 : decode cX7_deepest 60 = .ok (.if_icmp .gt 43, 3) := by decide +kernel
theorem dX7_deepest_63 : decode cX7_deepest 63 = .ok (.aload_n 0, 1) := by decide +kernel
theorem dX7_deepest_64 : decode cX7_deepest 64 = .ok (.getfield 24, 3) := by decide +kernel
theorem dX7_deepest_67 : decode cX7_deepest 67 = .ok (.iload_n 3, 1) := by decide +kernel
theorem dX7_deepest_68 : decode cX7_deepest 68 = .ok (.iload 4, 2) := by decide +kernel
theorem dX7_deepest_70 : decode cX7_deepest 70 = .ok (.iadd, 1) := by decide +kernel
theorem dX7_deepest_71 : decode cX7_deepest 71 = .ok (.invokevirtual 226, 3) := by decide +kernel
theorem dX7_deepest_74 : decode cX7_deepest 74 = .ok (.aload_n 0, 1) := by decide +kernel
theorem dX7_deepest_75 : decode cX7_deepest 75 = .ok (.getfield 38, 3) := by decide +kernel
theorem dX7_deepest_78 : decode cX7_deepest 78 = .ok (.aload_n 0, 1) := by decide +kernel
theorem dX7_deepest_79 : decode cX7_deepest 79 = .ok (.getfield 24, 3) := by decide +kernel
theorem dX7_deepest_82 : decode cX7_deepest 82 = .ok (.invokevirtual 229, 3) := by decide +kernel
theorem dX7_deepest_85 : decode cX7_deepest 85 = .ok (.aload_n 0, 1) := by decide +kernel
theorem dX7_deepest_86 : decode cX7_deepest 86 = .ok (.getfield 38, 3) := by decide +kernel
theorem dX7_deepest_89 : decode cX7_deepest 89 = .ok (.iload_n 2, 1) := by decide +kernel
theorem dX7_deepest_90 : decode cX7_deepest 90 = .ok (.invokevirtual 198, 3) := by decide +kernel
theorem dX7_deepest_93 : decode cX7_deepest 93 = .ok (.bipush (-4), 2) := by decide +kernel
theorem dX7_deepest_95 : decode cX7_deepest 95 = .ok (.if_icmp .eq 8, 3) := by decide +kernel
theorem dX7_deepest_98 : decode cX7_deepest 98 = .ok (.iload_n 3, 1) := by decide +kernel
theorem dX7_deepest_99 : decode cX7_deepest 99 = .ok (.iload 4, 2) := by decide +kernel
theorem dX7_deepest_101 : decode cX7_deepest 101 = .ok (.iadd, 1) := by decide +kernel
theorem dX7_deepest_102 : decode cX7_deepest 102 = .ok (.istore_n 3, 1) := by decide +kernel
theorem dX7_deepest_103 : decode cX7_deepest 103 = .ok (.iload 4, 2) := by decide +kernel
theorem dX7_deepest_105 : decode cX7_deepest 105 = .ok (.iconst 2, 1) := by decide +kernel
theorem dX7_deepest_106 : decode cX7_deepest 106 = .ok (.idiv, 1) := by decide +kernel
theorem dX7_deepest_107 : decode cX7_deepest 107 = .ok (.istore 4, 2) := by decide +kernel
theorem dX7_deepest_109 : decode cX7_deepest 109 = .ok (.goto (-62), 3) := by decide +kernel
theorem dX7_deepest_112 : decode cX7_deepest 112 = .ok (.iload_n 3, 1) := by decide +kernel
theorem dX7_deepest_113 : decode cX7_deepest 113 = .ok (.bipush 20, 2) := by decide +kernel
theorem dX7_deepest_115 : decode cX7_deepest 115 = .ok (.if_icmp .ge 8, 3) := by decide +kernel
theorem dX7_deepest_118 : decode cX7_deepest 118 = .ok (.bipush (-4), 2) := by decide +kernel
theorem dX7_deepest_120 : decode cX7_deepest 120 = .ok (.goto 4, 3) := by decide +kernel
theorem dX7_deepest_123 : decode cX7_deepest 123 = .ok (.iload_n 3, 1) := by decide +kernel
theorem dX7_deepest_124 : decode cX7_deepest 124 = .ok (.ireturn, 1) := by decide +kernel
theorem dX7_bank_0 : decode cX7_bank 0 = .ok (.aload_n 0, 1) := by decide +kernel
theorem dX7_bank_1 : decode cX7_bank 1 = .ok (.getfield 10, 3) := by decide +kernel
theorem dX7_bank_4 : decode cX7_bank 4 = .ok (.iload_n 1, 1) := by decide +kernel
theorem dX7_bank_5 : decode cX7_bank 5 = .ok (.invokevirtual 168, 3) := by decide +kernel
theorem dX7_bank_8 : decode cX7_bank 8 = .ok (.ifCond .eq 20, 3) := by decide +kernel
theorem dX7_bank_11 : decode cX7_bank 11 = .ok (.iload_n 2, 1) := by decide +kernel
theorem dX7_bank_12 : decode cX7_bank 12 = .ok (.invokestatic 106, 3) := by decide +kernel
theorem dX7_bank_15 : decode cX7_bank 15 = .ok (.ifCond .eq 13, 3) := by decide +kernel
theorem dX7_bank_18 : decode cX7_bank 18 = .ok (.iload_n 3, 1) := by decide +kernel
theorem dX7_bank_19 : decode cX7_bank 19 = .ok (.iconst 1, 1) := by decide +kernel
theorem dX7_bank_20 : decode cX7_bank 20 = .ok (.bipush 99, 2) := by decide +kernel
theorem dX7_bank_22 : decode cX7_bank 22 = .ok (.invokestatic 83, 3) := by decide +kernel
theorem dX7_bank_25 : decode cX7_bank 25 = .ok (.ifCond .ne 5, 3) := by decide +kernel
theorem dX7_bank_28 : decode cX7_bank 28 = .ok (.iconst (-1), 1) := by decide +kernel
theorem dX7_bank_29 : decode cX7_bank 29 = .ok (.ireturn, 1) := by decide +kernel
theorem dX7_bank_30 : decode cX7_bank 30 = .ok (.aload_n 0, 1) := by decide +kernel
theorem dX7_bank_31 : decode cX7_bank 31 = .ok (.iload_n 1, 1) := by decide +kernel
theorem dX7_bank_32 : decode cX7_bank 32 = .ok (.iload_n 2, 1) := by decide +kernel
theorem dX7_bank_33 : decode cX7_bank 33 = .ok (.iload_n 3, 1) := by decide +kernel
theorem dX7_bank_34 : decode cX7_bank 34 = .ok (.invokevirtual 232, 3) := by decide +kernel
theorem dX7_bank_37 : decode cX7_bank 37 = .ok (.ifCond .eq 7, 3) := by decide +kernel
theorem dX7_bank_40 : decode cX7_bank 40 = .ok (.iconst 1, 1) := by decide +kernel
theorem dX7_bank_41 : decode cX7_bank 41 = .ok (.goto 4, 3) := by decide +kernel
theorem dX7_bank_44 : decode cX7_bank 44 = .ok (.iconst 0, 1) := by decide +kernel
theorem dX7_bank_45 : decode cX7_bank 45 = .ok (.ireturn, 1) := by decide +kernel
theorem dX7_nearest_0 : decode cX7_nearest 0 = .ok (.aload_n 0, 1) := by decide +kernel
theorem dX7_nearest_1 : decode cX7_nearest 1 = .ok (.getfield 10, 3) := by decide +kernel
theorem dX7_nearest_4 : decode cX7_nearest 4 = .ok (.iload_n 1, 1) := by decide +kernel
theorem dX7_nearest_5 : decode cX7_nearest 5 = .ok (.invokevirtual 168, 3) := by decide +kernel
theorem dX7_nearest_8 : decode cX7_nearest 8 = .ok (.ifCond .eq 10, 3) := by decide +kernel
theorem dX7_nearest_11 : decode cX7_nearest 11 = .ok (.iload_n 2, 1) := by decide +kernel
theorem dX7_nearest_12 : decode cX7_nearest 12 = .ok (.invokestatic 106, 3) := by decide +kernel
theorem dX7_nearest_15 : decode cX7_nearest 15 = .ok (.ifCond .ne 5, 3) := by decide +kernel
theorem dX7_nearest_18 : decode cX7_nearest 18 = .ok (.iconst (-1), 1) := by decide +kernel
theorem dX7_nearest_19 : decode cX7_nearest 19 = .ok (.ireturn, 1) := by decide +kernel
theorem dX7_nearest_20 : decode cX7_nearest 20 = .ok (.iconst 1, 1) := by decide +kernel
theorem dX7_nearest_21 : decode cX7_nearest 21 = .ok (.istore_n 3, 1) := by decide +kernel
theorem dX7_nearest_22 : decode cX7_nearest 22 = .ok (.iload_n 3, 1) := by decide +kernel
theorem dX7_nearest_23 : decode cX7_nearest 23 = .ok (.bipush 99, 2) := by decide +kernel
theorem dX7_nearest_25 : decode cX7_nearest 25 = .ok (.if_icmp .gt 21, 3) := by decide +kernel
theorem dX7_nearest_28 : decode cX7_nearest 28 = .ok (.aload_n 0, 1) := by decide +kernel
theorem dX7_nearest_29 : decode cX7_nearest 29 = .ok (.iload_n 1, 1) := by decide +kernel
theorem dX7_nearest_30 : decode cX7_nearest 30 = .ok (.iload_n 2, 1) := by decide +kernel
theorem dX7_nearest_31 : decode cX7_nearest 31 = .ok (.iload_n 3, 1) := by decide +kernel
theorem dX7_nearest_32 : decode cX7_nearest 32 = .ok (.invokevirtual 232, 3) := by decide +kernel
theorem dX7_nearest_35 : decode cX7_nearest 35 = .ok (.ifCond .eq 5, 3) := by decide +kernel
theorem dX7_nearest_38 : decode cX7_nearest 38 = .ok (.iload_n 3, 1) := by decide +kernel
theorem dX7_nearest_39 : decode cX7_nearest 39 = .ok (.ireturn, 1) := by decide +kernel
theorem dX7_nearest_40 : decode cX7_nearest 40 = .ok (.iinc 3 1, 3) := by decide +kernel
theorem dX7_nearest_43 : decode cX7_nearest 43 = .ok (.goto (-21), 3) := by decide +kernel
theorem dX7_nearest_46 : decode cX7_nearest 46 = .ok (.bipush (-4), 2) := by decide +kernel
theorem dX7_nearest_48 : decode cX7_nearest 48 = .ok (.ireturn, 1) := by decide +kernel
theorem dX7_steered_0 : decode cX7_steered 0 = .ok (.iload_n 1, 1) := by decide +kernel
theorem dX7_steered_1 : decode cX7_steered 1 = .ok (.iconst 0, 1) := by decide +kernel
theorem dX7_steered_2 : decode cX7_steered 2 = .ok (.bipush 9, 2) := by decide +kernel
theorem dX7_steered_4 : decode cX7_steered 4 = .ok (.invokestatic 83, 3) := by decide +kernel
theorem dX7_steered_7 : decode cX7_steered 7 = .ok (.ifCond .eq 12, 3) := by decide +kernel
theorem dX7_steered_10 : decode cX7_steered 10 = .ok (.iload_n 2, 1) := by decide +kernel
theorem dX7_steered_11 : decode cX7_steered 11 = .ok (.iconst 0, 1) := by decide +kernel
theorem dX7_steered_12 : decode cX7_steered 12 = .ok (.iconst 5, 1) := by decide +kernel
theorem dX7_steered_13 : decode cX7_steered 13 = .ok (.invokestatic 83, 3) := by decide +kernel
theorem dX7_steered_16 : decode cX7_steered 16 = .ok (.ifCond .ne 5, 3) := by decide +kernel
theorem dX7_steered_19 : decode cX7_steered 19 = .ok (.iconst (-1), 1) := by decide +kernel
theorem dX7_steered_20 : decode cX7_steered 20 = .ok (.ireturn, 1) := by decide +kernel
theorem dX7_steered_21 : decode cX7_steered 21 = .ok (.iconst 0, 1) := by decide +kernel
theorem dX7_steered_22 : decode cX7_steered 22 = .ok (.istore_n 3, 1) := by decide +kernel
theorem dX7_steered_23 : decode cX7_steered 23 = .ok (.aload_n 0, 1) := by decide +kernel
theorem dX7_steered_24 : decode cX7_steered 24 = .ok (.getfield 63, 3) := by decide +kernel
theorem dX7_steered_27 : decode cX7_steered 27 = .ok (.iconst 0, 1) := by decide +kernel
theorem dX7_steered_28 : decode cX7_steered 28 = .ok (.bipush 8, 2) := by decide +kernel
theorem dX7_steered_30 : decode cX7_steered 30 = .ok (.iastore, 1) := by decide +kernel
theorem dX7_steered_31 : decode cX7_steered 31 = .ok (.iconst 1, 1) := by decide +kernel
theorem dX7_steered_32 : decode cX7_steered 32 = .ok (.istore 4, 2) := by decide +kernel
theorem dX7_steered_34 : decode cX7_steered 34 = .ok (.iload 4, 2) := by decide +kernel
theorem dX7_steered_36 : decode cX7_steered 36 = .ok (.bipush 60, 2) := by decide +kernel
theorem dX7_steered_38 : decode cX7_steered 38 = .ok (.if_icmp .gt 85, 3) := by decide +kernel
theorem dX7_steered_41 : decode cX7_steered 41 = .ok (.aload_n 0, 1) := by decide +kernel
theorem dX7_steered_42 : decode cX7_steered 42 = .ok (.getfield 63, 3) := by decide +kernel
theorem dX7_steered_45 : decode cX7_steered 45 = .ok (.iconst 0, 1) := by decide +kernel
theorem dX7_steered_46 : decode cX7_steered 46 = .ok (.iload 4, 2) := by decide +kernel
theorem dX7_steered_48 : decode cX7_steered 48 = .ok (.iload_n 2, 1) := by decide +kernel
theorem dX7_steered_49 : decode cX7_steered 49 = .ok (.isub, 1) := by decide +kernel
theorem dX7_steered_50 : decode cX7_steered 50 = .ok (.iconst 1, 1) := by decide +kernel
theorem dX7_steered_51 : decode cX7_steered 51 = .ok (.isub, 1) := by decide +kernel
theorem dX7_steered_52 : decode cX7_steered 52 = .ok (.invokestatic 235, 3) := by decide +kernel
theorem dX7_steered_55 : decode cX7_steered 55 = .ok (.iaload, 1) := by decide +kernel
theorem dX7_steered_56 : decode cX7_steered 56 = .ok (.istore 5, 2) := by decide +kernel
theorem dX7_steered_58 : decode cX7_steered 58 = .ok (.iload_n 3, 1) := by decide +kernel
theorem dX7_steered_59 : decode cX7_steered 59 = .ok (.aload_n 0, 1) := by decide +kernel
theorem dX7_steered_60 : decode cX7_steered 60 = .ok (.getfield 63, 3) := by decide +kernel
theorem dX7_steered_63 : decode cX7_steered 63 = .ok (.iload 4, 2) := by decide +kernel
theorem dX7_steered_65 : decode cX7_steered 65 = .ok (.iconst 1, 1) := by decide +kernel
theorem dX7_steered_66 : decode cX7_steered 66 = .ok (.isub, 1) := by decide +kernel
theorem dX7_steered_67 : decode cX7_steered 67 = .ok (.iaload, 1) := by decide +kernel
theorem dX7_steered_68 : decode cX7_steered 68 = .ok (.iconst 0, 1) := by decide +kernel
theorem dX7_steered_69 : decode cX7_steered 69 = .ok (.invokestatic 240, 3) := by decide +kernel
theorem dX7_steered_72 : decode cX7_steered 72 = .ok (.iload_n 1, 1) := by decide +kernel
theorem dX7_steered_73 : decode cX7_steered 73 = .ok (.iload 5, 2) := by decide +kernel
theorem dX7_steered_75 : decode cX7_steered 75 = .ok (.imul, 1) := by decide +kernel
theorem dX7_steered_76 : decode cX7_steered 76 = .ok (.iconst 4, 1) := by decide +kernel
theorem dX7_steered_77 : decode cX7_steered 77 = .ok (.idiv, 1) := by decide +kernel
theorem dX7_steered_78 : decode cX7_steered 78 = .ok (.isub, 1) := by decide +kernel
theorem dX7_steered_79 : decode cX7_steered 79 = .ok (.iadd, 1) := by decide +kernel
theorem dX7_steered_80 : decode cX7_steered 80 = .ok (.istore_n 3, 1) := by decide +kernel
theorem dX7_steered_81 : decode cX7_steered 81 = .ok (.aload_n 0, 1) := by decide +kernel
theorem dX7_steered_82 : decode cX7_steered 82 = .ok (.getfield 63, 3) := by decide +kernel
theorem dX7_steered_85 : decode cX7_steered 85 = .ok (.iload 4, 2) := by decide +kernel
theorem dX7_steered_87 : decode cX7_steered 87 = .ok (.aload_n 0, 1) := by decide +kernel
theorem dX7_steered_88 : decode cX7_steered 88 = .ok (.getfield 63, 3) := by decide +kernel
theorem dX7_steered_91 : decode cX7_steered 91 = .ok (.iload 4, 2) := by decide +kernel
theorem dX7_steered_93 : decode cX7_steered 93 = .ok (.iconst 1, 1) := by decide +kernel
theorem dX7_steered_94 : decode cX7_steered 94 = .ok (.isub, 1) := by decide +kernel
theorem dX7_steered_95 : decode cX7_steered 95 = .ok (.iaload, 1) := by decide +kernel
theorem dX7_steered_96 : decode cX7_steered 96 = .ok (.iload_n 3, 1) := by decide +kernel
theorem dX7_steered_97 : decode cX7_steered 97 = .ok (.iadd, 1) := by decide +kernel
theorem dX7_steered_98 : decode cX7_steered 98 = .ok (.iastore, 1) := by decide +kernel
theorem dX7_steered_99 : decode cX7_steered 99 = .ok (.aload_n 0, 1) := by decide +kernel
theorem dX7_steered_100 : decode cX7_steered 100 = .ok (.getfield 63, 3) := by decide +kernel
theorem dX7_steered_103 : decode cX7_steered 103 = .ok (.iload 4, 2) := by decide +kernel
theorem dX7_steered_105 : decode cX7_steered 105 = .ok (.iaload, 1) := by decide +kernel
theorem dX7_steered_106 : decode cX7_steered 106 = .ok (.invokestatic 245, 3) := by decide +kernel
theorem dX7_steered_109 : decode cX7_steered 109 = .ok (.bipush 40, 2) := by decide +kernel
theorem dX7_steered_111 : decode cX7_steered 111 = .ok (.if_icmp .lt 6, 3) := by decide +kernel
theorem dX7_steered_114 : decode cX7_steered 114 = .ok (.iload 4, 2) := by decide +kernel
theorem dX7_steered_116 : decode cX7_steered 116 = .ok (.ireturn, 1) := by decide +kernel
theorem dX7_steered_117 : decode cX7_steered 117 = .ok (.iinc 4 1, 3) := by decide +kernel
theorem dX7_steered_120 : decode cX7_steered 120 = .ok (.goto (-86), 3) := by decide +kernel
theorem dX7_steered_123 : decode cX7_steered 123 = .ok (.iconst 0, 1) := by decide +kernel
theorem dX7_steered_124 : decode cX7_steered 124 = .ok (.ireturn, 1) := by decide +kernel
theorem dX7_may_0 : decode cX7_may 0 = .ok (.aload_n 0, 1) := by decide +kernel
theorem dX7_may_1 : decode cX7_may 1 = .ok (.iload_n 1, 1) := by decide +kernel
theorem dX7_may_2 : decode cX7_may 2 = .ok (.iload_n 2, 1) := by decide +kernel
theorem dX7_may_3 : decode cX7_may 3 = .ok (.invokevirtual 248, 3) := by decide +kernel
theorem dX7_may_6 : decode cX7_may 6 = .ok (.ifCond .eq 30, 3) := by decide +kernel
theorem dX7_may_9 : decode cX7_may 9 = .ok (.aload_n 0, 1) := by decide +kernel
theorem dX7_may_10 : decode cX7_may 10 = .ok (.getfield 10, 3) := by decide +kernel
theorem dX7_may_13 : decode cX7_may 13 = .ok (.iload_n 3, 1) := by decide +kernel
theorem dX7_may_14 : decode cX7_may 14 = .ok (.invokevirtual 79, 3) := by decide +kernel
theorem dX7_may_17 : decode cX7_may 17 = .ok (.ifCond .eq 19, 3) := by decide +kernel
theorem dX7_may_20 : decode cX7_may 20 = .ok (.iload 4, 2) := by decide +kernel
theorem dX7_may_22 : decode cX7_may 22 = .ok (.invokestatic 106, 3) := by decide +kernel
theorem dX7_may_25 : decode cX7_may 25 = .ok (.ifCond .eq 11, 3) := by decide +kernel
theorem dX7_may_28 : decode cX7_may 28 = .ok (.iload 5, 2) := by decide +kernel
theorem dX7_may_30 : decode cX7_may 30 = .ok (.invokestatic 106, 3) := by decide +kernel
theorem dX7_may_33 : decode cX7_may 33 = .ok (.ifCond .ne 5, 3) := by decide +kernel
theorem dX7_may_36 : decode cX7_may 36 = .ok (.iconst (-1), 1) := by decide +kernel
theorem dX7_may_37 : decode cX7_may 37 = .ok (.ireturn, 1) := by decide +kernel
theorem dX7_may_38 : decode cX7_may 38 = .ok (.aload_n 0, 1) := by decide +kernel
theorem dX7_may_39 : decode cX7_may 39 = .ok (.getfield 10, 3) := by decide +kernel
theorem dX7_may_42 : decode cX7_may 42 = .ok (.iload_n 1, 1) := by decide +kernel
theorem dX7_may_43 : decode cX7_may 43 = .ok (.iconst 1, 1) := by decide +kernel
theorem dX7_may_44 : decode cX7_may 44 = .ok (.invokevirtual 251, 3) := by decide +kernel
theorem dX7_may_47 : decode cX7_may 47 = .ok (.aload_n 0, 1) := by decide +kernel
theorem dX7_may_48 : decode cX7_may 48 = .ok (.getfield 10, 3) := by decide +kernel
theorem dX7_may_51 : decode cX7_may 51 = .ok (.iload_n 2, 1) := by decide +kernel
theorem dX7_may_52 : decode cX7_may 52 = .ok (.iconst 1, 1) := by decide +kernel
theorem dX7_may_53 : decode cX7_may 53 = .ok (.invokevirtual 251, 3) := by decide +kernel
theorem dX7_may_56 : decode cX7_may 56 = .ok (.iadd, 1) := by decide +kernel
theorem dX7_may_57 : decode cX7_may 57 = .ok (.iload 4, 2) := by decide +kernel
theorem dX7_may_59 : decode cX7_may 59 = .ok (.iload 5, 2) := by decide +kernel
theorem dX7_may_61 : decode cX7_may 61 = .ok (.iadd, 1) := by decide +kernel
theorem dX7_may_62 : decode cX7_may 62 = .ok (.iload 4, 2) := by decide +kernel
theorem dX7_may_64 : decode cX7_may 64 = .ok (.iload 5, 2) := by decide +kernel
theorem dX7_may_66 : decode cX7_may 66 = .ok (.iadd, 1) := by decide +kernel
theorem dX7_may_67 : decode cX7_may 67 = .ok (.imul, 1) := by decide +kernel
theorem dX7_may_68 : decode cX7_may 68 = .ok (.bipush 20, 2) := by decide +kernel
theorem dX7_may_70 : decode cX7_may 70 = .ok (.idiv, 1) := by decide +kernel
theorem dX7_may_71 : decode cX7_may 71 = .ok (.iadd, 1) := by decide +kernel
theorem dX7_may_72 : decode cX7_may 72 = .ok (.istore 6, 2) := by decide +kernel
theorem dX7_may_74 : decode cX7_may 74 = .ok (.aload_n 0, 1) := by decide +kernel
theorem dX7_may_75 : decode cX7_may 75 = .ok (.getfield 10, 3) := by decide +kernel
theorem dX7_may_78 : decode cX7_may 78 = .ok (.iload_n 3, 1) := by decide +kernel
theorem dX7_may_79 : decode cX7_may 79 = .ok (.iconst 1, 1) := by decide +kernel
theorem dX7_may_80 : decode cX7_may 80 = .ok (.invokevirtual 91, 3) := by decide +kernel
theorem dX7_may_83 : decode cX7_may 83 = .ok (.iload 6, 2) := by decide +kernel
theorem dX7_may_85 : decode cX7_may 85 = .ok (.if_icmp .lt 7, 3) := by decide +kernel
theorem dX7_may_88 : decode cX7_may 88 = .ok (.iconst 1, 1) := by decide +kernel
theorem dX7_may_89 : decode cX7_may 89 = .ok (.goto 4, 3) := by decide +kernel
theorem dX7_may_92 : decode cX7_may 92 = .ok (.iconst 0, 1) := by decide +kernel
theorem dX7_may_93 : decode cX7_may 93 = .ok (.ireturn, 1) := by decide +kernel
theorem dX7_meet_0 : decode cX7_meet 0 = .ok (.aload_n 0, 1) := by decide +kernel
theorem dX7_meet_1 : decode cX7_meet 1 = .ok (.iload_n 1, 1) := by decide +kernel
theorem dX7_meet_2 : decode cX7_meet 2 = .ok (.iload 4, 2) := by decide +kernel
theorem dX7_meet_4 : decode cX7_meet 4 = .ok (.invokevirtual 248, 3) := by decide +kernel
theorem dX7_meet_7 : decode cX7_meet 7 = .ok (.ifCond .eq 33, 3) := by decide +kernel
theorem dX7_meet_10 : decode cX7_meet 10 = .ok (.iload_n 2, 1) := by decide +kernel
theorem dX7_meet_11 : decode cX7_meet 11 = .ok (.invokestatic 254, 3) := by decide +kernel
theorem dX7_meet_14 : decode cX7_meet 14 = .ok (.ifCond .eq 26, 3) := by decide +kernel
theorem dX7_meet_17 : decode cX7_meet 17 = .ok (.iload_n 3, 1) := by decide +kernel
theorem dX7_meet_18 : decode cX7_meet 18 = .ok (.invokestatic 106, 3) := by decide +kernel
theorem dX7_meet_21 : decode cX7_meet 21 = .ok (.ifCond .eq 19, 3) := by decide +kernel
theorem dX7_meet_24 : decode cX7_meet 24 = .ok (.iload 5, 2) := by decide +kernel
theorem dX7_meet_26 : decode cX7_meet 26 = .ok (.invokestatic 254, 3) := by decide +kernel
theorem dX7_meet_29 : decode cX7_meet 29 = .ok (.ifCond .eq 11, 3) := by decide +kernel
theorem dX7_meet_32 : decode cX7_meet 32 = .ok (.iload 6, 2) := by decide +kernel
theorem dX7_meet_34 : decode cX7_meet 34 = .ok (.invokestatic 106, 3) := by decide +kernel
theorem dX7_meet_37 : decode cX7_meet 37 = .ok (.ifCond .ne 5, 3) := by decide +kernel
theorem dX7_meet_40 : decode cX7_meet 40 = .ok (.iconst (-1), 1) := by decide +kernel
theorem dX7_meet_41 : decode cX7_meet 41 = .ok (.ireturn, 1) := by decide +kernel
theorem dX7_meet_42 : decode cX7_meet 42 = .ok (.aload_n 0, 1) := by decide +kernel
theorem dX7_meet_43 : decode cX7_meet 43 = .ok (.getfield 10, 3) := by decide +kernel
theorem dX7_meet_46 : decode cX7_meet 46 = .ok (.getfield 133, 3) := by decide +kernel
theorem dX7_meet_49 : decode cX7_meet 49 = .ok (.ifCond .ne 6, 3) := by decide +kernel
theorem dX7_meet_52 : decode cX7_meet 52 = .ok (.bipush (-2), 2) := by decide +kernel
theorem dX7_meet_54 : decode cX7_meet 54 = .ok (.ireturn, 1) := by decide +kernel
theorem dX7_meet_55 : decode cX7_meet 55 = .ok (.iload_n 3, 1) := by decide +kernel
theorem dX7_meet_56 : decode cX7_meet 56 = .ok (.invokestatic 257, 3) := by decide +kernel
theorem dX7_meet_59 : decode cX7_meet 59 = .ok (.istore 7, 2) := by decide +kernel
theorem dX7_meet_61 : decode cX7_meet 61 = .ok (.iload 6, 2) := by decide +kernel
theorem dX7_meet_63 : decode cX7_meet 63 = .ok (.invokestatic 257, 3) := by decide +kernel
theorem dX7_meet_66 : decode cX7_meet 66 = .ok (.istore 8, 2) := by decide +kernel
theorem dX7_meet_68 : decode cX7_meet 68 = .ok (.iconst 0, 1) := by decide +kernel
theorem dX7_meet_69 : decode cX7_meet 69 = .ok (.istore 9, 2) := by decide +kernel
theorem dX7_meet_71 : decode cX7_meet 71 = .ok (.iload 9, 2) := by decide +kernel
theorem dX7_meet_73 : decode cX7_meet 73 = .ok (.aload_n 0, 1) := by decide +kernel
theorem dX7_meet_74 : decode cX7_meet 74 = .ok (.getfield 10, 3) := by decide +kernel
theorem dX7_meet_77 : decode cX7_meet 77 = .ok (.getfield 133, 3) := by decide +kernel
theorem dX7_meet_80 : decode cX7_meet 80 = .ok (.if_icmp .ge 61, 3) := by decide +kernel
theorem dX7_meet_83 : decode cX7_meet 83 = .ok (.iload_n 2, 1) := by decide +kernel
theorem dX7_meet_84 : decode cX7_meet 84 = .ok (.iload 9, 2) := by decide +kernel
theorem dX7_meet_86 : decode cX7_meet 86 = .ok (.iload 7, 2) := by decide +kernel
theorem dX7_meet_88 : decode cX7_meet 88 = .ok (.imul, 1) := by decide +kernel
theorem dX7_meet_89 : decode cX7_meet 89 = .ok (.iadd, 1) := by decide +kernel
theorem dX7_meet_90 : decode cX7_meet 90 = .ok (.istore 10, 2) := by decide +kernel
theorem dX7_meet_92 : decode cX7_meet 92 = .ok (.iload 5, 2) := by decide +kernel
theorem dX7_meet_94 : decode cX7_meet 94 = .ok (.aload_n 0, 1) := by decide +kernel
theorem dX7_meet_95 : decode cX7_meet 95 = .ok (.getfield 10, 3) := by decide +kernel
theorem dX7_meet_98 : decode cX7_meet 98 = .ok (.getfield 133, 3) := by decide +kernel
theorem dX7_meet_101 : decode cX7_meet 101 = .ok (.iconst 1, 1) := by decide +kernel
theorem dX7_meet_102 : decode cX7_meet 102 = .ok (.isub, 1) := by decide +kernel
theorem dX7_meet_103 : decode cX7_meet 103 = .ok (.iload 9, 2) := by decide +kernel
theorem dX7_meet_105 : decode cX7_meet 105 = .ok (.isub, 1) := by decide +kernel
theorem dX7_meet_106 : decode cX7_meet 106 = .ok (.iload 8, 2) := by decide +kernel
theorem dX7_meet_108 : decode cX7_meet 108 = .ok (.imul, 1) := by decide +kernel
theorem dX7_meet_109 : decode cX7_meet 109 = .ok (.iadd, 1) := by decide +kernel
theorem dX7_meet_110 : decode cX7_meet 110 = .ok (.istore 11, 2) := by decide +kernel
theorem dX7_meet_112 : decode cX7_meet 112 = .ok (.iload 10, 2) := by decide +kernel
theorem dX7_meet_114 : decode cX7_meet 114 = .ok (.iload 11, 2) := by decide +kernel
theorem dX7_meet_116 : decode cX7_meet 116 = .ok (.iload 8, 2) := by decide +kernel
theorem dX7_meet_118 : decode cX7_meet 118 = .ok (.iadd, 1) := by decide +kernel
theorem dX7_meet_119 : decode cX7_meet 119 = .ok (.if_icmp .ge 16, 3) := by decide +kernel
theorem dX7_meet_122 : decode cX7_meet 122 = .ok (.iload 11, 2) := by decide +kernel
theorem dX7_meet_124 : decode cX7_meet 124 = .ok (.iload 10, 2) := by decide +kernel
theorem dX7_meet_126 : decode cX7_meet 126 = .ok (.iload 7, 2) := by decide +kernel
theorem dX7_meet_128 : decode cX7_meet 128 = .ok (.iadd, 1) := by decide +kernel
theorem dX7_meet_129 : decode cX7_meet 129 = .ok (.if_icmp .ge 6, 3) := by decide +kernel
theorem dX7_meet_132 : decode cX7_meet 132 = .ok (.iload 9, 2) := by decide +kernel
theorem dX7_meet_134 : decode cX7_meet 134 = .ok (.ireturn, 1) := by decide +kernel
theorem dX7_meet_135 : decode cX7_meet 135 = .ok (.iinc 9 1, 3) := by decide +kernel
theorem dX7_meet_138 : decode cX7_meet 138 = .ok (.goto (-67), 3) := by decide +kernel
theorem dX7_meet_141 : decode cX7_meet 141 = .ok (.bipush (-4), 2) := by decide +kernel
theorem dX7_meet_143 : decode cX7_meet 143 = .ok (.ireturn, 1) := by decide +kernel
theorem dX7_day_0 : decode cX7_day 0 = .ok (.iload_n 1, 1) := by decide +kernel
theorem dX7_day_1 : decode cX7_day 1 = .ok (.ifCond .eq 35, 3) := by decide +kernel
theorem dX7_day_4 : decode cX7_day 4 = .ok (.iload_n 1, 1) := by decide +kernel
theorem dX7_day_5 : decode cX7_day 5 = .ok (.aload_n 0, 1) := by decide +kernel
theorem dX7_day_6 : decode cX7_day 6 = .ok (.getfield 10, 3) := by decide +kernel
theorem dX7_day_9 : decode cX7_day 9 = .ok (.getfield 137, 3) := by decide +kernel
theorem dX7_day_12 : decode cX7_day 12 = .ok (.iushr, 1) := by decide +kernel
theorem dX7_day_13 : decode cX7_day 13 = .ok (.ifCond .ne 23, 3) := by decide +kernel
theorem dX7_day_16 : decode cX7_day 16 = .ok (.iload_n 2, 1) := by decide +kernel
theorem dX7_day_17 : decode cX7_day 17 = .ok (.iconst 1, 1) := by decide +kernel
theorem dX7_day_18 : decode cX7_day 18 = .ok (.sipush 240, 3) := by decide +kernel
theorem dX7_day_21 : decode cX7_day 21 = .ok (.invokestatic 83, 3) := by decide +kernel
theorem dX7_day_24 : decode cX7_day 24 = .ok (.ifCond .eq 12, 3) := by decide +kernel
theorem dX7_day_27 : decode cX7_day 27 = .ok (.iload_n 3, 1) := by decide +kernel
theorem dX7_day_28 : decode cX7_day 28 = .ok (.iconst (-1), 1) := by decide +kernel
theorem dX7_day_29 : decode cX7_day 29 = .ok (.iconst 5, 1) := by decide +kernel
theorem dX7_day_30 : decode cX7_day 30 = .ok (.invokestatic 83, 3) := by decide +kernel
theorem dX7_day_33 : decode cX7_day 33 = .ok (.ifCond .ne 5, 3) := by decide +kernel
theorem dX7_day_36 : decode cX7_day 36 = .ok (.iconst (-1), 1) := by decide +kernel
theorem dX7_day_37 : decode cX7_day 37 = .ok (.ireturn, 1) := by decide +kernel
theorem dX7_day_38 : decode cX7_day 38 = .ok (.aload_n 0, 1) := by decide +kernel
theorem dX7_day_39 : decode cX7_day 39 = .ok (.getfield 10, 3) := by decide +kernel
theorem dX7_day_42 : decode cX7_day 42 = .ok (.getfield 133, 3) := by decide +kernel
theorem dX7_day_45 : decode cX7_day 45 = .ok (.ifCond .ne 6, 3) := by decide +kernel
theorem dX7_day_48 : decode cX7_day 48 = .ok (.bipush (-2), 2) := by decide +kernel
theorem dX7_day_50 : decode cX7_day 50 = .ok (.ireturn, 1) := by decide +kernel
theorem dX7_day_51 : decode cX7_day 51 = .ok (.aload_n 0, 1) := by decide +kernel
theorem dX7_day_52 : decode cX7_day 52 = .ok (.getfield 38, 3) := by decide +kernel
theorem dX7_day_55 : decode cX7_day 55 = .ok (.invokevirtual 223, 3) := by decide +kernel
theorem dX7_day_58 : decode cX7_day 58 = .ok (.iconst 0, 1) := by decide +kernel
theorem dX7_day_59 : decode cX7_day 59 = .ok (.istore 4, 2) := by decide +kernel
theorem dX7_day_61 : decode cX7_day 61 = .ok (.iload 4, 2) := by decide +kernel
theorem dX7_day_63 : decode cX7_day 63 = .ok (.aload_n 0, 1) := by decide +kernel
theorem dX7_day_64 : decode cX7_day 64 = .ok (.getfield 10, 3) := by decide +kernel
theorem dX7_day_67 : decode cX7_day 67 = .ok (.getfield 137, 3) := by decide +kernel
theorem dX7_day_70 : decode cX7_day 70 = .ok (.if_icmp .ge 54, 3) := by decide +kernel
theorem dX7_day_73 : decode cX7_day 73 = .ok (.iload_n 1, 1) := by decide +kernel
theorem dX7_day_74 : decode cX7_day 74 = .ok (.iload 4, 2) := by decide +kernel
theorem dX7_day_76 : decode cX7_day 76 = .ok (.ishr, 1) := by decide +kernel
theorem dX7_day_77 : decode cX7_day 77 = .ok (.iconst 1, 1) := by decide +kernel
theorem dX7_day_78 : decode cX7_day 78 = .ok (.iand, 1) := by decide +kernel
theorem dX7_day_79 : decode cX7_day 79 = .ok (.ifCond .eq 39, 3) := by decide +kernel
theorem dX7_day_82 : decode cX7_day 82 = .ok (.aload_n 0, 1) := by decide +kernel
theorem dX7_day_83 : decode cX7_day 83 = .ok (.getfield 24, 3) := by decide +kernel
theorem dX7_day_86 : decode cX7_day 86 = .ok (.iload 4, 2) := by decide +kernel
theorem dX7_day_88 : decode cX7_day 88 = .ok (.invokevirtual 155, 3) := by decide +kernel
theorem dX7_day_91 : decode cX7_day 91 = .ok (.aload_n 0, 1) := by decide +kernel
theorem dX7_day_92 : decode cX7_day 92 = .ok (.getfield 38, 3) := by decide +kernel
theorem dX7_day_95 : decode cX7_day 95 = .ok (.aload_n 0, 1) := by decide +kernel
theorem dX7_day_96 : decode cX7_day 96 = .ok (.getfield 24, 3) := by decide +kernel
theorem dX7_day_99 : decode cX7_day 99 = .ok (.invokevirtual 229, 3) := by decide +kernel
theorem dX7_day_102 : decode cX7_day 102 = .ok (.aload_n 0, 1) := by decide +kernel
theorem dX7_day_103 : decode cX7_day 103 = .ok (.getfield 38, 3) := by decide +kernel
theorem dX7_day_106 : decode cX7_day 106 = .ok (.aload_n 0, 1) := by decide +kernel
theorem dX7_day_107 : decode cX7_day 107 = .ok (.getfield 45, 3) := by decide +kernel
theorem dX7_day_110 : decode cX7_day 110 = .ok (.iload 4, 2) := by decide +kernel
theorem dX7_day_112 : decode cX7_day 112 = .ok (.invokevirtual 204, 3) := by decide +kernel
theorem dX7_day_115 : decode cX7_day 115 = .ok (.invokevirtual 208, 3) := by decide +kernel
theorem dX7_day_118 : decode cX7_day 118 = .ok (.iinc 4 1, 3) := by decide +kernel
theorem dX7_day_121 : decode cX7_day 121 = .ok (.goto (-60), 3) := by decide +kernel
theorem dX7_day_124 : decode cX7_day 124 = .ok (.aload_n 0, 1) := by decide +kernel
theorem dX7_day_125 : decode cX7_day 125 = .ok (.getfield 45, 3) := by decide +kernel
theorem dX7_day_128 : decode cX7_day 128 = .ok (.iload_n 1, 1) := by decide +kernel
theorem dX7_day_129 : decode cX7_day 129 = .ok (.iload_n 2, 1) := by decide +kernel
theorem dX7_day_130 : decode cX7_day 130 = .ok (.invokevirtual 260, 3) := by decide +kernel
theorem dX7_day_133 : decode cX7_day 133 = .ok (.istore 4, 2) := by decide +kernel
theorem dX7_day_135 : decode cX7_day 135 = .ok (.iload_n 3, 1) := by decide +kernel
theorem dX7_day_136 : decode cX7_day 136 = .ok (.ifCond .lt 10, 3) := by decide +kernel
theorem dX7_day_139 : decode cX7_day 139 = .ok (.iload 4, 2) := by decide +kernel
theorem dX7_day_141 : decode cX7_day 141 = .ok (.bipush (-4), 2) := by decide +kernel
theorem dX7_day_143 : decode cX7_day 143 = .ok (.if_icmp .ne 8, 3) := by decide +kernel
theorem dX7_day_146 : decode cX7_day 146 = .ok (.iload 4, 2) := by decide +kernel
theorem dX7_day_148 : decode cX7_day 148 = .ok (.goto 11, 3) := by decide +kernel
theorem dX7_day_151 : decode cX7_day 151 = .ok (.aload_n 0, 1) := by decide +kernel
theorem dX7_day_152 : decode cX7_day 152 = .ok (.getfield 45, 3) := by decide +kernel
theorem dX7_day_155 : decode cX7_day 155 = .ok (.iload_n 3, 1) := by decide +kernel
theorem dX7_day_156 : decode cX7_day 156 = .ok (.invokevirtual 263, 3) := by decide +kernel
theorem dX7_day_159 : decode cX7_day 159 = .ok (.ireturn, 1) := by decide +kernel
theorem dX7_dredged_0 : decode cX7_dredged 0 = .ok (.aload_n 0, 1) := by decide +kernel
theorem dX7_dredged_1 : decode cX7_dredged 1 = .ok (.iload_n 1, 1) := by decide +kernel
theorem dX7_dredged_2 : decode cX7_dredged 2 = .ok (.iload_n 2, 1) := by decide +kernel
theorem dX7_dredged_3 : decode cX7_dredged 3 = .ok (.invokevirtual 174, 3) := by decide +kernel
theorem dX7_dredged_6 : decode cX7_dredged 6 = .ok (.ifCond .eq 12, 3) := by decide +kernel
theorem dX7_dredged_9 : decode cX7_dredged 9 = .ok (.iload_n 3, 1) := by decide +kernel
theorem dX7_dredged_10 : decode cX7_dredged 10 = .ok (.iconst 0, 1) := by decide +kernel
theorem dX7_dredged_11 : decode cX7_dredged 11 = .ok (.iconst 1, 1) := by decide +kernel
theorem dX7_dredged_12 : decode cX7_dredged 12 = .ok (.invokestatic 83, 3) := by decide +kernel
theorem dX7_dredged_15 : decode cX7_dredged 15 = .ok (.ifCond .ne 5, 3) := by decide +kernel
theorem dX7_dredged_18 : decode cX7_dredged 18 = .ok (.iconst (-1), 1) := by decide +kernel
theorem dX7_dredged_19 : decode cX7_dredged 19 = .ok (.ireturn, 1) := by decide +kernel
theorem dX7_dredged_20 : decode cX7_dredged 20 = .ok (.aload_n 0, 1) := by decide +kernel
theorem dX7_dredged_21 : decode cX7_dredged 21 = .ok (.getfield 10, 3) := by decide +kernel
theorem dX7_dredged_24 : decode cX7_dredged 24 = .ok (.getfield 133, 3) := by decide +kernel
theorem dX7_dredged_27 : decode cX7_dredged 27 = .ok (.ifCond .ne 6, 3) := by decide +kernel
theorem dX7_dredged_30 : decode cX7_dredged 30 = .ok (.bipush (-2), 2) := by decide +kernel
theorem dX7_dredged_32 : decode cX7_dredged 32 = .ok (.ireturn, 1) := by decide +kernel
theorem dX7_dredged_33 : decode cX7_dredged 33 = .ok (.aload_n 0, 1) := by decide +kernel
theorem dX7_dredged_34 : decode cX7_dredged 34 = .ok (.getfield 24, 3) := by decide +kernel
theorem dX7_dredged_37 : decode cX7_dredged 37 = .ok (.iload_n 1, 1) := by decide +kernel
theorem dX7_dredged_38 : decode cX7_dredged 38 = .ok (.invokevirtual 155, 3) := by decide +kernel
theorem dX7_dredged_41 : decode cX7_dredged 41 = .ok (.aload_n 0, 1) := by decide +kernel
theorem dX7_dredged_42 : decode cX7_dredged 42 = .ok (.getfield 38, 3) := by decide +kernel
theorem dX7_dredged_45 : decode cX7_dredged 45 = .ok (.aload_n 0, 1) := by decide +kernel
theorem dX7_dredged_46 : decode cX7_dredged 46 = .ok (.getfield 24, 3) := by decide +kernel
theorem dX7_dredged_49 : decode cX7_dredged 49 = .ok (.invokevirtual 195, 3) := by decide +kernel
theorem dX7_dredged_52 : decode cX7_dredged 52 = .ok (.aload_n 0, 1) := by decide +kernel
theorem dX7_dredged_53 : decode cX7_dredged 53 = .ok (.getfield 38, 3) := by decide +kernel
theorem dX7_dredged_56 : decode cX7_dredged 56 = .ok (.iload_n 2, 1) := by decide +kernel
theorem dX7_dredged_57 : decode cX7_dredged 57 = .ok (.invokevirtual 198, 3) := by decide +kernel
theorem dX7_dredged_60 : decode cX7_dredged 60 = .ok (.istore 4, 2) := by decide +kernel
theorem dX7_dredged_62 : decode cX7_dredged 62 = .ok (.iload 4, 2) := by decide +kernel
theorem dX7_dredged_64 : decode cX7_dredged 64 = .ok (.bipush (-4), 2) := by decide +kernel
theorem dX7_dredged_66 : decode cX7_dredged 66 = .ok (.if_icmp .ne 6, 3) := by decide +kernel
theorem dX7_dredged_69 : decode cX7_dredged 69 = .ok (.bipush (-4), 2) := by decide +kernel
theorem dX7_dredged_71 : decode cX7_dredged 71 = .ok (.ireturn, 1) := by decide +kernel
theorem dX7_dredged_72 : decode cX7_dredged 72 = .ok (.bipush (-4), 2) := by decide +kernel
theorem dX7_dredged_74 : decode cX7_dredged 74 = .ok (.istore 5, 2) := by decide +kernel
theorem dX7_dredged_76 : decode cX7_dredged 76 = .ok (.bipush (-4), 2) := by decide +kernel
theorem dX7_dredged_78 : decode cX7_dredged 78 = .ok (.istore 6, 2) := by decide +kernel
theorem dX7_dredged_80 : decode cX7_dredged 80 = .ok (.iconst 0, 1) := by decide +kernel
theorem dX7_dredged_81 : decode cX7_dredged 81 = .ok (.istore 7, 2) := by decide +kernel
theorem dX7_dredged_83 : decode cX7_dredged 83 = .ok (.iload 7, 2) := by decide +kernel
theorem dX7_dredged_85 : decode cX7_dredged 85 = .ok (.aload_n 0, 1) := by decide +kernel
theorem dX7_dredged_86 : decode cX7_dredged 86 = .ok (.getfield 10, 3) := by decide +kernel
theorem dX7_dredged_89 : decode cX7_dredged 89 = .ok (.getfield 133, 3) := by decide +kernel
theorem dX7_dredged_92 : decode cX7_dredged 92 = .ok (.if_icmp .ge 98, 3) := by decide +kernel
theorem dX7_dredged_95 : decode cX7_dredged 95 = .ok (.aload_n 0, 1) := by decide +kernel
theorem dX7_dredged_96 : decode cX7_dredged 96 = .ok (.getfield 10, 3) := by decide +kernel
theorem dX7_dredged_99 : decode cX7_dredged 99 = .ok (.iload 7, 2) := by decide +kernel
theorem dX7_dredged_101 : decode cX7_dredged 101 = .ok (.iconst 0, 1) := by decide +kernel
theorem dX7_dredged_102 : decode cX7_dredged 102 = .ok (.invokevirtual 91, 3) := by decide +kernel
theorem dX7_dredged_105 : decode cX7_dredged 105 = .ok (.getstatic 266, 3) := by decide +kernel
theorem dX7_dredged_108 : decode cX7_dredged 108 = .ok (.iconst 0, 1) := by decide +kernel
theorem dX7_dredged_109 : decode cX7_dredged 109 = .ok (.iaload, 1) := by decide +kernel
theorem dX7_dredged_110 : decode cX7_dredged 110 = .ok (.if_icmp .ge 74, 3) := by decide +kernel
theorem dX7_dredged_113 : decode cX7_dredged 113 = .ok (.aload_n 0, 1) := by decide +kernel
theorem dX7_dredged_114 : decode cX7_dredged 114 = .ok (.getfield 24, 3) := by decide +kernel
theorem dX7_dredged_117 : decode cX7_dredged 117 = .ok (.iload 7, 2) := by decide +kernel
theorem dX7_dredged_119 : decode cX7_dredged 119 = .ok (.putfield 269, 3) := by decide +kernel
theorem dX7_dredged_122 : decode cX7_dredged 122 = .ok (.aload_n 0, 1) := by decide +kernel
theorem dX7_dredged_123 : decode cX7_dredged 123 = .ok (.getfield 38, 3) := by decide +kernel
theorem dX7_dredged_126 : decode cX7_dredged 126 = .ok (.aload_n 0, 1) := by decide +kernel
theorem dX7_dredged_127 : decode cX7_dredged 127 = .ok (.getfield 24, 3) := by decide +kernel
theorem dX7_dredged_130 : decode cX7_dredged 130 = .ok (.iload 7, 2) := by decide +kernel
theorem dX7_dredged_132 : decode cX7_dredged 132 = .ok (.invokevirtual 272, 3) := by decide +kernel
theorem dX7_dredged_135 : decode cX7_dredged 135 = .ok (.iload 4, 2) := by decide +kernel
theorem dX7_dredged_137 : decode cX7_dredged 137 = .ok (.aload_n 0, 1) := by decide +kernel
theorem dX7_dredged_138 : decode cX7_dredged 138 = .ok (.getfield 38, 3) := by decide +kernel
theorem dX7_dredged_141 : decode cX7_dredged 141 = .ok (.iload_n 2, 1) := by decide +kernel
theorem dX7_dredged_142 : decode cX7_dredged 142 = .ok (.invokevirtual 198, 3) := by decide +kernel
theorem dX7_dredged_145 : decode cX7_dredged 145 = .ok (.isub, 1) := by decide +kernel
theorem dX7_dredged_146 : decode cX7_dredged 146 = .ok (.istore 8, 2) := by decide +kernel
theorem dX7_dredged_148 : decode cX7_dredged 148 = .ok (.aload_n 0, 1) := by decide +kernel
theorem dX7_dredged_149 : decode cX7_dredged 149 = .ok (.getfield 24, 3) := by decide +kernel
theorem dX7_dredged_152 : decode cX7_dredged 152 = .ok (.iconst (-1), 1) := by decide +kernel
theorem dX7_dredged_153 : decode cX7_dredged 153 = .ok (.putfield 269, 3) := by decide +kernel
theorem dX7_dredged_156 : decode cX7_dredged 156 = .ok (.aload_n 0, 1) := by decide +kernel
theorem dX7_dredged_157 : decode cX7_dredged 157 = .ok (.getfield 38, 3) := by decide +kernel
theorem dX7_dredged_160 : decode cX7_dredged 160 = .ok (.aload_n 0, 1) := by decide +kernel
theorem dX7_dredged_161 : decode cX7_dredged 161 = .ok (.getfield 24, 3) := by decide +kernel
theorem dX7_dredged_164 : decode cX7_dredged 164 = .ok (.iload 7, 2) := by decide +kernel
theorem dX7_dredged_166 : decode cX7_dredged 166 = .ok (.invokevirtual 272, 3) := by decide +kernel
theorem dX7_dredged_169 : decode cX7_dredged 169 = .ok (.iload 8, 2) := by decide +kernel
theorem dX7_dredged_171 : decode cX7_dredged 171 = .ok (.iload 6, 2) := by decide +kernel
theorem dX7_dredged_173 : decode cX7_dredged 173 = .ok (.if_icmp .le 11, 3) := by decide +kernel
theorem dX7_dredged_176 : decode cX7_dredged 176 = .ok (.iload 8, 2) := by decide +kernel
theorem dX7_dredged_178 : decode cX7_dredged 178 = .ok (.istore 6, 2) := by decide +kernel
theorem dX7_dredged_180 : decode cX7_dredged 180 = .ok (.iload 7, 2) := by decide +kernel
theorem dX7_dredged_182 : decode cX7_dredged 182 = .ok (.istore 5, 2) := by decide +kernel
theorem dX7_dredged_184 : decode cX7_dredged 184 = .ok (.iinc 7 1, 3) := by decide +kernel
theorem dX7_dredged_187 : decode cX7_dredged 187 = .ok (.goto (-104), 3) := by decide +kernel
theorem dX7_dredged_190 : decode cX7_dredged 190 = .ok (.iload_n 3, 1) := by decide +kernel
theorem dX7_dredged_191 : decode cX7_dredged 191 = .ok (.ifCond .ne 8, 3) := by decide +kernel
theorem dX7_dredged_194 : decode cX7_dredged 194 = .ok (.iload 5, 2) := by decide +kernel
theorem dX7_dredged_196 : decode cX7_dredged 196 = .ok (.goto 5, 3) := by decide +kernel
theorem dX7_dredged_199 : decode cX7_dredged 199 = .ok (.iload 6, 2) := by decide +kernel
theorem dX7_dredged_201 : decode cX7_dredged 201 = .ok (.ireturn, 1) := by decide +kernel
theorem dX7_lost_0 : decode cX7_lost 0 = .ok (.aload_n 0, 1) := by decide +kernel
theorem dX7_lost_1 : decode cX7_lost 1 = .ok (.iload_n 1, 1) := by decide +kernel
theorem dX7_lost_2 : decode cX7_lost 2 = .ok (.iload_n 2, 1) := by decide +kernel
theorem dX7_lost_3 : decode cX7_lost 3 = .ok (.invokevirtual 174, 3) := by decide +kernel
theorem dX7_lost_6 : decode cX7_lost 6 = .ok (.ifCond .eq 30, 3) := by decide +kernel
theorem dX7_lost_9 : decode cX7_lost 9 = .ok (.iload_n 3, 1) := by decide +kernel
theorem dX7_lost_10 : decode cX7_lost 10 = .ok (.iconst 0, 1) := by decide +kernel
theorem dX7_lost_11 : decode cX7_lost 11 = .ok (.getstatic 97, 3) := by decide +kernel
theorem dX7_lost_14 : decode cX7_lost 14 = .ok (.iconst 3, 1) := by decide +kernel
theorem dX7_lost_15 : decode cX7_lost 15 = .ok (.iaload, 1) := by decide +kernel
theorem dX7_lost_16 : decode cX7_lost 16 = .ok (.invokestatic 83, 3) := by decide +kernel
theorem dX7_lost_19 : decode cX7_lost 19 = .ok (.ifCond .eq 17, 3) := by decide +kernel
theorem dX7_lost_22 : decode cX7_lost 22 = .ok (.iload 4, 2) := by decide +kernel
theorem dX7_lost_24 : decode cX7_lost 24 = .ok (.iconst 0, 1) := by decide +kernel
theorem dX7_lost_25 : decode cX7_lost 25 = .ok (.getstatic 97, 3) := by decide +kernel
theorem dX7_lost_28 : decode cX7_lost 28 = .ok (.iconst 4, 1) := by decide +kernel
theorem dX7_lost_29 : decode cX7_lost 29 = .ok (.iaload, 1) := by decide +kernel
theorem dX7_lost_30 : decode cX7_lost 30 = .ok (.invokestatic 83, 3) := by decide +kernel
theorem dX7_lost_33 : decode cX7_lost 33 = .ok (.ifCond .ne 5, 3) := by decide +kernel
theorem dX7_lost_36 : decode cX7_lost 36 = .ok (.iconst (-1), 1) := by decide +kernel
theorem dX7_lost_37 : decode cX7_lost 37 = .ok (.ireturn, 1) := by decide +kernel
theorem dX7_lost_38 : decode cX7_lost 38 = .ok (.aload_n 0, 1) := by decide +kernel
theorem dX7_lost_39 : decode cX7_lost 39 = .ok (.getfield 10, 3) := by decide +kernel
theorem dX7_lost_42 : decode cX7_lost 42 = .ok (.getfield 133, 3) := by decide +kernel
theorem dX7_lost_45 : decode cX7_lost 45 = .ok (.ifCond .ne 6, 3) := by decide +kernel
theorem dX7_lost_48 : decode cX7_lost 48 = .ok (.bipush (-2), 2) := by decide +kernel
theorem dX7_lost_50 : decode cX7_lost 50 = .ok (.ireturn, 1) := by decide +kernel
theorem dX7_lost_51 : decode cX7_lost 51 = .ok (.aload_n 0, 1) := by decide +kernel
theorem dX7_lost_52 : decode cX7_lost 52 = .ok (.getfield 24, 3) := by decide +kernel
theorem dX7_lost_55 : decode cX7_lost 55 = .ok (.iload_n 1, 1) := by decide +kernel
theorem dX7_lost_56 : decode cX7_lost 56 = .ok (.invokevirtual 155, 3) := by decide +kernel
theorem dX7_lost_59 : decode cX7_lost 59 = .ok (.aload_n 0, 1) := by decide +kernel
theorem dX7_lost_60 : decode cX7_lost 60 = .ok (.getfield 24, 3) := by decide +kernel
theorem dX7_lost_63 : decode cX7_lost 63 = .ok (.iload_n 3, 1) := by decide +kernel
theorem dX7_lost_64 : decode cX7_lost 64 = .ok (.iload 4, 2) := by decide +kernel
theorem dX7_lost_66 : decode cX7_lost 66 = .ok (.invokevirtual 275, 3) := by decide +kernel
theorem dX7_lost_69 : decode cX7_lost 69 = .ok (.aload_n 0, 1) := by decide +kernel
theorem dX7_lost_70 : decode cX7_lost 70 = .ok (.getfield 38, 3) := by decide +kernel
theorem dX7_lost_73 : decode cX7_lost 73 = .ok (.aload_n 0, 1) := by decide +kernel
theorem dX7_lost_74 : decode cX7_lost 74 = .ok (.getfield 24, 3) := by decide +kernel
theorem dX7_lost_77 : decode cX7_lost 77 = .ok (.invokevirtual 195, 3) := by decide +kernel
theorem dX7_lost_80 : decode cX7_lost 80 = .ok (.aload_n 0, 1) := by decide +kernel
theorem dX7_lost_81 : decode cX7_lost 81 = .ok (.getfield 38, 3) := by decide +kernel
theorem dX7_lost_84 : decode cX7_lost 84 = .ok (.iload_n 2, 1) := by decide +kernel
theorem dX7_lost_85 : decode cX7_lost 85 = .ok (.invokevirtual 198, 3) := by decide +kernel
theorem dX7_lost_88 : decode cX7_lost 88 = .ok (.istore 5, 2) := by decide +kernel
theorem dX7_lost_90 : decode cX7_lost 90 = .ok (.aload_n 0, 1) := by decide +kernel
theorem dX7_lost_91 : decode cX7_lost 91 = .ok (.getfield 24, 3) := by decide +kernel
theorem dX7_lost_94 : decode cX7_lost 94 = .ok (.iload_n 3, 1) := by decide +kernel
theorem dX7_lost_95 : decode cX7_lost 95 = .ok (.iconst 0, 1) := by decide +kernel
theorem dX7_lost_96 : decode cX7_lost 96 = .ok (.invokevirtual 275, 3) := by decide +kernel
theorem dX7_lost_99 : decode cX7_lost 99 = .ok (.aload_n 0, 1) := by decide +kernel
theorem dX7_lost_100 : decode cX7_lost 100 = .ok (.getfield 38, 3) := by decide +kernel
theorem dX7_lost_103 : decode cX7_lost 103 = .ok (.aload_n 0, 1) := by decide +kernel
theorem dX7_lost_104 : decode cX7_lost 104 = .ok (.getfield 24, 3) := by decide +kernel
theorem dX7_lost_107 : decode cX7_lost 107 = .ok (.invokevirtual 229, 3) := by decide +kernel
theorem dX7_lost_110 : decode cX7_lost 110 = .ok (.aload_n 0, 1) := by decide +kernel
theorem dX7_lost_111 : decode cX7_lost 111 = .ok (.getfield 38, 3) := by decide +kernel
theorem dX7_lost_114 : decode cX7_lost 114 = .ok (.iload_n 2, 1) := by decide +kernel
theorem dX7_lost_115 : decode cX7_lost 115 = .ok (.invokevirtual 198, 3) := by decide +kernel
theorem dX7_lost_118 : decode cX7_lost 118 = .ok (.istore 6, 2) := by decide +kernel
theorem dX7_lost_120 : decode cX7_lost 120 = .ok (.iload 5, 2) := by decide +kernel
theorem dX7_lost_122 : decode cX7_lost 122 = .ok (.bipush (-4), 2) := by decide +kernel
theorem dX7_lost_124 : decode cX7_lost 124 = .ok (.if_icmp .eq 10, 3) := by decide +kernel
theorem dX7_lost_127 : decode cX7_lost 127 = .ok (.iload 6, 2) := by decide +kernel
theorem dX7_lost_129 : decode cX7_lost 129 = .ok (.bipush (-4), 2) := by decide +kernel
theorem dX7_lost_131 : decode cX7_lost 131 = .ok (.if_icmp .ne 8, 3) := by decide +kernel
theorem dX7_lost_134 : decode cX7_lost 134 = .ok (.bipush (-4), 2) := by decide +kernel
theorem dX7_lost_136 : decode cX7_lost 136 = .ok (.goto 8, 3) := by decide +kernel
theorem dX7_lost_139 : decode cX7_lost 139 = .ok (.iload 5, 2) := by decide +kernel
theorem dX7_lost_141 : decode cX7_lost 141 = .ok (.iload 6, 2) := by decide +kernel
theorem dX7_lost_143 : decode cX7_lost 143 = .ok (.isub, 1) := by decide +kernel
theorem dX7_lost_144 : decode cX7_lost 144 = .ok (.ireturn, 1) := by decide +kernel
theorem dX7_touched_0 : decode cX7_touched 0 = .ok (.aload_n 0, 1) := by decide +kernel
theorem dX7_touched_1 : decode cX7_touched 1 = .ok (.iload_n 1, 1) := by decide +kernel
theorem dX7_touched_2 : decode cX7_touched 2 = .ok (.iload_n 2, 1) := by decide +kernel
theorem dX7_touched_3 : decode cX7_touched 3 = .ok (.iload_n 3, 1) := by decide +kernel
theorem dX7_touched_4 : decode cX7_touched 4 = .ok (.iconst 0, 1) := by decide +kernel
theorem dX7_touched_5 : decode cX7_touched 5 = .ok (.invokevirtual 191, 3) := by decide +kernel
theorem dX7_touched_8 : decode cX7_touched 8 = .ok (.istore 4, 2) := by decide +kernel
theorem dX7_touched_10 : decode cX7_touched 10 = .ok (.iload 4, 2) := by decide +kernel
theorem dX7_touched_12 : decode cX7_touched 12 = .ok (.ifCond .eq 6, 3) := by decide +kernel
theorem dX7_touched_15 : decode cX7_touched 15 = .ok (.iload 4, 2) := by decide +kernel
theorem dX7_touched_17 : decode cX7_touched 17 = .ok (.ireturn, 1) := by decide +kernel
theorem dX7_touched_18 : decode cX7_touched 18 = .ok (.aload_n 0, 1) := by decide +kernel
theorem dX7_touched_19 : decode cX7_touched 19 = .ok (.getfield 24, 3) := by decide +kernel
theorem dX7_touched_22 : decode cX7_touched 22 = .ok (.iload_n 1, 1) := by decide +kernel
theorem dX7_touched_23 : decode cX7_touched 23 = .ok (.invokevirtual 155, 3) := by decide +kernel
theorem dX7_touched_26 : decode cX7_touched 26 = .ok (.iconst 0, 1) := by decide +kernel
theorem dX7_touched_27 : decode cX7_touched 27 = .ok (.istore 5, 2) := by decide +kernel
theorem dX7_touched_29 : decode cX7_touched 29 = .ok (.iconst 0, 1) := by decide +kernel
theorem dX7_touched_30 : decode cX7_touched 30 = .ok (.istore 6, 2) := by decide +kernel
theorem dX7_touched_32 : decode cX7_touched 32 = .ok (.iload 6, 2) := by decide +kernel
theorem dX7_touched_34 : decode cX7_touched 34 = .ok (.getstatic 97, 3) := by decide +kernel
theorem dX7_touched_37 : decode cX7_touched 37 = .ok (.iconst 1, 1) := by decide +kernel
theorem dX7_touched_38 : decode cX7_touched 38 = .ok (.iaload, 1) := by decide +kernel
theorem dX7_touched_39 : decode cX7_touched 39 = .ok (.if_icmp .gt 50, 3) := by decide +kernel
theorem dX7_touched_42 : decode cX7_touched 42 = .ok (.aload_n 0, 1) := by decide +kernel
theorem dX7_touched_43 : decode cX7_touched 43 = .ok (.getfield 24, 3) := by decide +kernel
theorem dX7_touched_46 : decode cX7_touched 46 = .ok (.iload 6, 2) := by decide +kernel
theorem dX7_touched_48 : decode cX7_touched 48 = .ok (.putfield 279, 3) := by decide +kernel
theorem dX7_touched_51 : decode cX7_touched 51 = .ok (.aload_n 0, 1) := by decide +kernel
theorem dX7_touched_52 : decode cX7_touched 52 = .ok (.getfield 31, 3) := by decide +kernel
theorem dX7_touched_55 : decode cX7_touched 55 = .ok (.aload_n 0, 1) := by decide +kernel
theorem dX7_touched_56 : decode cX7_touched 56 = .ok (.getfield 24, 3) := by decide +kernel
theorem dX7_touched_59 : decode cX7_touched 59 = .ok (.iload_n 2, 1) := by decide +kernel
theorem dX7_touched_60 : decode cX7_touched 60 = .ok (.invokevirtual 177, 3) := by decide +kernel
theorem dX7_touched_63 : decode cX7_touched 63 = .ok (.aload_n 0, 1) := by decide +kernel
theorem dX7_touched_64 : decode cX7_touched 64 = .ok (.getfield 31, 3) := by decide +kernel
theorem dX7_touched_67 : decode cX7_touched 67 = .ok (.getfield 181, 3) := by decide +kernel
theorem dX7_touched_70 : decode cX7_touched 70 = .ok (.iload_n 3, 1) := by decide +kernel
theorem dX7_touched_71 : decode cX7_touched 71 = .ok (.if_icmp .ne 12, 3) := by decide +kernel
theorem dX7_touched_74 : decode cX7_touched 74 = .ok (.iload 5, 2) := by decide +kernel
theorem dX7_touched_76 : decode cX7_touched 76 = .ok (.iconst 1, 1) := by decide +kernel
theorem dX7_touched_77 : decode cX7_touched 77 = .ok (.iload 6, 2) := by decide +kernel
theorem dX7_touched_79 : decode cX7_touched 79 = .ok (.ishl, 1) := by decide +kernel
theorem dX7_touched_80 : decode cX7_touched 80 = .ok (.ior, 1) := by decide +kernel
theorem dX7_touched_81 : decode cX7_touched 81 = .ok (.istore 5, 2) := by decide +kernel
theorem dX7_touched_83 : decode cX7_touched 83 = .ok (.iinc 6 1, 3) := by decide +kernel
theorem dX7_touched_86 : decode cX7_touched 86 = .ok (.goto (-54), 3) := by decide +kernel
theorem dX7_touched_89 : decode cX7_touched 89 = .ok (.iload 5, 2) := by decide +kernel
theorem dX7_touched_91 : decode cX7_touched 91 = .ok (.ireturn, 1) := by decide +kernel
theorem dX7_past_0 : decode cX7_past 0 = .ok (.aload_n 0, 1) := by decide +kernel
theorem dX7_past_1 : decode cX7_past 1 = .ok (.getfield 10, 3) := by decide +kernel
theorem dX7_past_4 : decode cX7_past 4 = .ok (.iload_n 1, 1) := by decide +kernel
theorem dX7_past_5 : decode cX7_past 5 = .ok (.invokevirtual 168, 3) := by decide +kernel
theorem dX7_past_8 : decode cX7_past 8 = .ok (.ifCond .eq 25, 3) := by decide +kernel
theorem dX7_past_11 : decode cX7_past 11 = .ok (.aload_n 0, 1) := by decide +kernel
theorem dX7_past_12 : decode cX7_past 12 = .ok (.getfield 10, 3) := by decide +kernel
theorem dX7_past_15 : decode cX7_past 15 = .ok (.iload_n 2, 1) := by decide +kernel
theorem dX7_past_16 : decode cX7_past 16 = .ok (.invokevirtual 79, 3) := by decide +kernel
theorem dX7_past_19 : decode cX7_past 19 = .ok (.ifCond .eq 14, 3) := by decide +kernel
theorem dX7_past_22 : decode cX7_past 22 = .ok (.iload_n 3, 1) := by decide +kernel
theorem dX7_past_23 : decode cX7_past 23 = .ok (.iconst 0, 1) := by decide +kernel
theorem dX7_past_24 : decode cX7_past 24 = .ok (.sipush 999, 3) := by decide +kernel
theorem dX7_past_27 : decode cX7_past 27 = .ok (.invokestatic 83, 3) := by decide +kernel
theorem dX7_past_30 : decode cX7_past 30 = .ok (.ifCond .ne 5, 3) := by decide +kernel
theorem dX7_past_33 : decode cX7_past 33 = .ok (.iconst (-1), 1) := by decide +kernel
theorem dX7_past_34 : decode cX7_past 34 = .ok (.ireturn, 1) := by decide +kernel
theorem dX7_past_35 : decode cX7_past 35 = .ok (.aload_n 0, 1) := by decide +kernel
theorem dX7_past_36 : decode cX7_past 36 = .ok (.getfield 10, 3) := by decide +kernel
theorem dX7_past_39 : decode cX7_past 39 = .ok (.iload_n 2, 1) := by decide +kernel
theorem dX7_past_40 : decode cX7_past 40 = .ok (.iconst 4, 1) := by decide +kernel
theorem dX7_past_41 : decode cX7_past 41 = .ok (.invokevirtual 91, 3) := by decide +kernel
theorem dX7_past_44 : decode cX7_past 44 = .ok (.istore 4, 2) := by decide +kernel
theorem dX7_past_46 : decode cX7_past 46 = .ok (.iload 4, 2) := by decide +kernel
theorem dX7_past_48 : decode cX7_past 48 = .ok (.ifCond .gt 6, 3) := by decide +kernel
theorem dX7_past_51 : decode cX7_past 51 = .ok (.bipush (-2), 2) := by decide +kernel
theorem dX7_past_53 : decode cX7_past 53 = .ok (.ireturn, 1) := by decide +kernel
theorem dX7_past_54 : decode cX7_past 54 = .ok (.bipush 15, 2) := by decide +kernel
theorem dX7_past_56 : decode cX7_past 56 = .ok (.istore 5, 2) := by decide +kernel
theorem dX7_past_58 : decode cX7_past 58 = .ok (.iload 5, 2) := by decide +kernel
theorem dX7_past_60 : decode cX7_past 60 = .ok (.iconst 1, 1) := by decide +kernel
theorem dX7_past_61 : decode cX7_past 61 = .ok (.if_icmp .lt 34, 3) := by decide +kernel
theorem dX7_past_64 : decode cX7_past 64 = .ok (.iload 5, 2) := by decide +kernel
theorem dX7_past_66 : decode cX7_past 66 = .ok (.iload 5, 2) := by decide +kernel
theorem dX7_past_68 : decode cX7_past 68 = .ok (.imul, 1) := by decide +kernel
theorem dX7_past_69 : decode cX7_past 69 = .ok (.aload_n 0, 1) := by decide +kernel
theorem dX7_past_70 : decode cX7_past 70 = .ok (.getfield 10, 3) := by decide +kernel
theorem dX7_past_73 : decode cX7_past 73 = .ok (.iload_n 1, 1) := by decide +kernel
theorem dX7_past_74 : decode cX7_past 74 = .ok (.iconst 1, 1) := by decide +kernel
theorem dX7_past_75 : decode cX7_past 75 = .ok (.invokevirtual 251, 3) := by decide +kernel
theorem dX7_past_78 : decode cX7_past 78 = .ok (.imul, 1) := by decide +kernel
theorem dX7_past_79 : decode cX7_past 79 = .ok (.iload 4, 2) := by decide +kernel
theorem dX7_past_81 : decode cX7_past 81 = .ok (.idiv, 1) := by decide +kernel
theorem dX7_past_82 : decode cX7_past 82 = .ok (.iload_n 3, 1) := by decide +kernel
theorem dX7_past_83 : decode cX7_past 83 = .ok (.if_icmp .gt 6, 3) := by decide +kernel
theorem dX7_past_86 : decode cX7_past 86 = .ok (.iload 5, 2) := by decide +kernel
theorem dX7_past_88 : decode cX7_past 88 = .ok (.ireturn, 1) := by decide +kernel
theorem dX7_past_89 : decode cX7_past 89 = .ok (.iinc 5 (-1), 3) := by decide +kernel
theorem dX7_past_92 : decode cX7_past 92 = .ok (.goto (-34), 3) := by decide +kernel
theorem dX7_past_95 : decode cX7_past 95 = .ok (.bipush (-4), 2) := by decide +kernel
theorem dX7_past_97 : decode cX7_past 97 = .ok (.ireturn, 1) := by decide +kernel
theorem dX7_image_0 : decode cX7_image 0 = .ok (.aload_n 0, 1) := by decide +kernel
theorem dX7_image_1 : decode cX7_image 1 = .ok (.getfield 16, 3) := by decide +kernel
theorem dX7_image_4 : decode cX7_image 4 = .ok (.aload_n 0, 1) := by decide +kernel
theorem dX7_image_5 : decode cX7_image 5 = .ok (.getfield 10, 3) := by decide +kernel
theorem dX7_image_8 : decode cX7_image 8 = .ok (.invokevirtual 282, 3) := by decide +kernel
theorem dX7_image_11 : decode cX7_image 11 = .ok (.aload_n 0, 1) := by decide +kernel
theorem dX7_image_12 : decode cX7_image 12 = .ok (.iconst 1, 1) := by decide +kernel
theorem dX7_image_13 : decode cX7_image 13 = .ok (.putfield 67, 3) := by decide +kernel
theorem dX7_image_16 : decode cX7_image 16 = .ok (.iconst 1, 1) := by decide +kernel
theorem dX7_image_17 : decode cX7_image 17 = .ok (.ireturn, 1) := by decide +kernel
theorem dX7_restore_0 : decode cX7_restore 0 = .ok (.aload_n 0, 1) := by decide +kernel
theorem dX7_restore_1 : decode cX7_restore 1 = .ok (.getfield 67, 3) := by decide +kernel
theorem dX7_restore_4 : decode cX7_restore 4 = .ok (.ifCond .ne 6, 3) := by decide +kernel
theorem dX7_restore_7 : decode cX7_restore 7 = .ok (.bipush (-4), 2) := by decide +kernel
theorem dX7_restore_9 : decode cX7_restore 9 = .ok (.ireturn, 1) := by decide +kernel
theorem dX7_restore_10 : decode cX7_restore 10 = .ok (.aload_n 0, 1) := by decide +kernel
theorem dX7_restore_11 : decode cX7_restore 11 = .ok (.getfield 10, 3) := by decide +kernel
theorem dX7_restore_14 : decode cX7_restore 14 = .ok (.aload_n 0, 1) := by decide +kernel
theorem dX7_restore_15 : decode cX7_restore 15 = .ok (.getfield 16, 3) := by decide +kernel
theorem dX7_restore_18 : decode cX7_restore 18 = .ok (.invokevirtual 282, 3) := by decide +kernel
theorem dX7_restore_21 : decode cX7_restore 21 = .ok (.iconst 1, 1) := by decide +kernel
theorem dX7_restore_22 : decode cX7_restore 22 = .ok (.ireturn, 1) := by decide +kernel
theorem dX7_gauged_0 : decode cX7_gauged 0 = .ok (.iload 4, 2) := by decide +kernel
theorem dX7_gauged_2 : decode cX7_gauged 2 = .ok (.iconst 1, 1) := by decide +kernel
theorem dX7_gauged_3 : decode cX7_gauged 3 = .ok (.bipush 8, 2) := by decide +kernel
theorem dX7_gauged_5 : decode cX7_gauged 5 = .ok (.invokestatic 83, 3) := by decide +kernel
theorem dX7_gauged_8 : decode cX7_gauged 8 = .ok (.ifCond .eq 13, 3) := by decide +kernel
theorem dX7_gauged_11 : decode cX7_gauged 11 = .ok (.iload 5, 2) := by decide +kernel
theorem dX7_gauged_13 : decode cX7_gauged 13 = .ok (.iconst 0, 1) := by decide +kernel
theorem dX7_gauged_14 : decode cX7_gauged 14 = .ok (.iconst 2, 1) := by decide +kernel
theorem dX7_gauged_15 : decode cX7_gauged 15 = .ok (.invokestatic 83, 3) := by decide +kernel
theorem dX7_gauged_18 : decode cX7_gauged 18 = .ok (.ifCond .ne 5, 3) := by decide +kernel
theorem dX7_gauged_21 : decode cX7_gauged 21 = .ok (.iconst (-1), 1) := by decide +kernel
theorem dX7_gauged_22 : decode cX7_gauged 22 = .ok (.ireturn, 1) := by decide +kernel
theorem dX7_gauged_23 : decode cX7_gauged 23 = .ok (.aload_n 0, 1) := by decide +kernel
theorem dX7_gauged_24 : decode cX7_gauged 24 = .ok (.getfield 59, 3) := by decide +kernel
theorem dX7_gauged_27 : decode cX7_gauged 27 = .ok (.iload_n 1, 1) := by decide +kernel
theorem dX7_gauged_28 : decode cX7_gauged 28 = .ok (.iload_n 2, 1) := by decide +kernel
theorem dX7_gauged_29 : decode cX7_gauged 29 = .ok (.iload_n 3, 1) := by decide +kernel
theorem dX7_gauged_30 : decode cX7_gauged 30 = .ok (.iconst 2, 1) := by decide +kernel
theorem dX7_gauged_31 : decode cX7_gauged 31 = .ok (.iload 4, 2) := by decide +kernel
theorem dX7_gauged_33 : decode cX7_gauged 33 = .ok (.imul, 1) := by decide +kernel
theorem dX7_gauged_34 : decode cX7_gauged 34 = .ok (.invokevirtual 285, 3) := by decide +kernel
theorem dX7_gauged_37 : decode cX7_gauged 37 = .ok (.istore 6, 2) := by decide +kernel
theorem dX7_gauged_39 : decode cX7_gauged 39 = .ok (.iload 6, 2) := by decide +kernel
theorem dX7_gauged_41 : decode cX7_gauged 41 = .ok (.ifCond .eq 6, 3) := by decide +kernel
theorem dX7_gauged_44 : decode cX7_gauged 44 = .ok (.iload 6, 2) := by decide +kernel
theorem dX7_gauged_46 : decode cX7_gauged 46 = .ok (.ireturn, 1) := by decide +kernel
theorem dX7_gauged_47 : decode cX7_gauged 47 = .ok (.iconst 0, 1) := by decide +kernel
theorem dX7_gauged_48 : decode cX7_gauged 48 = .ok (.istore 7, 2) := by decide +kernel
theorem dX7_gauged_50 : decode cX7_gauged 50 = .ok (.iload 7, 2) := by decide +kernel
theorem dX7_gauged_52 : decode cX7_gauged 52 = .ok (.iload 4, 2) := by decide +kernel
theorem dX7_gauged_54 : decode cX7_gauged 54 = .ok (.if_icmp .ge 32, 3) := by decide +kernel
theorem dX7_gauged_57 : decode cX7_gauged 57 = .ok (.aload_n 0, 1) := by decide +kernel
theorem dX7_gauged_58 : decode cX7_gauged 58 = .ok (.getfield 59, 3) := by decide +kernel
theorem dX7_gauged_61 : decode cX7_gauged 61 = .ok (.iload_n 1, 1) := by decide +kernel
theorem dX7_gauged_62 : decode cX7_gauged 62 = .ok (.iload_n 3, 1) := by decide +kernel
theorem dX7_gauged_63 : decode cX7_gauged 63 = .ok (.iconst 2, 1) := by decide +kernel
theorem dX7_gauged_64 : decode cX7_gauged 64 = .ok (.iload 7, 2) := by decide +kernel
theorem dX7_gauged_66 : decode cX7_gauged 66 = .ok (.imul, 1) := by decide +kernel
theorem dX7_gauged_67 : decode cX7_gauged 67 = .ok (.iadd, 1) := by decide +kernel
theorem dX7_gauged_68 : decode cX7_gauged 68 = .ok (.invokevirtual 288, 3) := by decide +kernel
theorem dX7_gauged_71 : decode cX7_gauged 71 = .ok (.invokestatic 254, 3) := by decide +kernel
theorem dX7_gauged_74 : decode cX7_gauged 74 = .ok (.ifCond .ne 6, 3) := by decide +kernel
theorem dX7_gauged_77 : decode cX7_gauged 77 = .ok (.bipush (-2), 2) := by decide +kernel
theorem dX7_gauged_79 : decode cX7_gauged 79 = .ok (.ireturn, 1) := by decide +kernel
theorem dX7_gauged_80 : decode cX7_gauged 80 = .ok (.iinc 7 1, 3) := by decide +kernel
theorem dX7_gauged_83 : decode cX7_gauged 83 = .ok (.goto (-33), 3) := by decide +kernel
theorem dX7_gauged_86 : decode cX7_gauged 86 = .ok (.aload_n 0, 1) := by decide +kernel
theorem dX7_gauged_87 : decode cX7_gauged 87 = .ok (.iload_n 1, 1) := by decide +kernel
theorem dX7_gauged_88 : decode cX7_gauged 88 = .ok (.iload_n 3, 1) := by decide +kernel
theorem dX7_gauged_89 : decode cX7_gauged 89 = .ok (.iload 4, 2) := by decide +kernel
theorem dX7_gauged_91 : decode cX7_gauged 91 = .ok (.iload 5, 2) := by decide +kernel
theorem dX7_gauged_93 : decode cX7_gauged 93 = .ok (.invokevirtual 291, 3) := by decide +kernel
theorem dX7_gauged_96 : decode cX7_gauged 96 = .ok (.ireturn, 1) := by decide +kernel
theorem dX7_sheet_0 : decode cX7_sheet 0 = .ok (.aload_n 0, 1) := by decide +kernel
theorem dX7_sheet_1 : decode cX7_sheet 1 = .ok (.getfield 59, 3) := by decide +kernel
theorem dX7_sheet_4 : decode cX7_sheet 4 = .ok (.iload_n 1, 1) := by decide +kernel
theorem dX7_sheet_5 : decode cX7_sheet 5 = .ok (.iload_n 2, 1) := by decide +kernel
theorem dX7_sheet_6 : decode cX7_sheet 6 = .ok (.iload_n 3, 1) := by decide +kernel
theorem dX7_sheet_7 : decode cX7_sheet 7 = .ok (.invokevirtual 294, 3) := by decide +kernel
theorem dX7_sheet_10 : decode cX7_sheet 10 = .ok (.ireturn, 1) := by decide +kernel
theorem dX7_drop_0 : decode cX7_drop 0 = .ok (.aload_n 0, 1) := by decide +kernel
theorem dX7_drop_1 : decode cX7_drop 1 = .ok (.getfield 59, 3) := by decide +kernel
theorem dX7_drop_4 : decode cX7_drop 4 = .ok (.iload_n 1, 1) := by decide +kernel
theorem dX7_drop_5 : decode cX7_drop 5 = .ok (.invokevirtual 296, 3) := by decide +kernel
theorem dX7_drop_8 : decode cX7_drop 8 = .ok (.ireturn, 1) := by decide +kernel
theorem dX7_item_0 : decode cX7_item 0 = .ok (.aload_n 0, 1) := by decide +kernel
theorem dX7_item_1 : decode cX7_item 1 = .ok (.getfield 59, 3) := by decide +kernel
theorem dX7_item_4 : decode cX7_item 4 = .ok (.iload_n 1, 1) := by decide +kernel
theorem dX7_item_5 : decode cX7_item 5 = .ok (.iload_n 2, 1) := by decide +kernel
theorem dX7_item_6 : decode cX7_item 6 = .ok (.iload_n 3, 1) := by decide +kernel
theorem dX7_item_7 : decode cX7_item 7 = .ok (.iconst 1, 1) := by decide +kernel
theorem dX7_item_8 : decode cX7_item 8 = .ok (.invokevirtual 285, 3) := by decide +kernel
theorem dX7_item_11 : decode cX7_item 11 = .ok (.istore 5, 2) := by decide +kernel
theorem dX7_item_13 : decode cX7_item 13 = .ok (.iload 5, 2) := by decide +kernel
theorem dX7_item_15 : decode cX7_item 15 = .ok (.ifCond .eq 6, 3) := by decide +kernel
theorem dX7_item_18 : decode cX7_item 18 = .ok (.iload 5, 2) := by decide +kernel
theorem dX7_item_20 : decode cX7_item 20 = .ok (.ireturn, 1) := by decide +kernel
theorem dX7_item_21 : decode cX7_item 21 = .ok (.aload_n 0, 1) := by decide +kernel
theorem dX7_item_22 : decode cX7_item 22 = .ok (.getfield 59, 3) := by decide +kernel
theorem dX7_item_25 : decode cX7_item 25 = .ok (.iload_n 1, 1) := by decide +kernel
theorem dX7_item_26 : decode cX7_item 26 = .ok (.iload_n 3, 1) := by decide +kernel
theorem dX7_item_27 : decode cX7_item 27 = .ok (.iload 4, 2) := by decide +kernel
theorem dX7_item_29 : decode cX7_item 29 = .ok (.invokevirtual 299, 3) := by decide +kernel
theorem dX7_item_32 : decode cX7_item 32 = .ok (.iconst 1, 1) := by decide +kernel
theorem dX7_item_33 : decode cX7_item 33 = .ok (.ireturn, 1) := by decide +kernel
theorem dX7_copy_0 : decode cX7_copy 0 = .ok (.aload_n 0, 1) := by decide +kernel
theorem dX7_copy_1 : decode cX7_copy 1 = .ok (.getfield 59, 3) := by decide +kernel
theorem dX7_copy_4 : decode cX7_copy 4 = .ok (.iload_n 1, 1) := by decide +kernel
theorem dX7_copy_5 : decode cX7_copy 5 = .ok (.iload_n 2, 1) := by decide +kernel
theorem dX7_copy_6 : decode cX7_copy 6 = .ok (.iload_n 3, 1) := by decide +kernel
theorem dX7_copy_7 : decode cX7_copy 7 = .ok (.iload 4, 2) := by decide +kernel
theorem dX7_copy_9 : decode cX7_copy 9 = .ok (.iload 5, 2) := by decide +kernel
theorem dX7_copy_11 : decode cX7_copy 11 = .ok (.invokevirtual 303, 3) := by decide +kernel
theorem dX7_copy_14 : decode cX7_copy 14 = .ok (.ireturn, 1) := by decide +kernel
theorem dX7_within_0 : decode cX7_within 0 = .ok (.iload_n 0, 1) := by decide +kernel
theorem dX7_within_1 : decode cX7_within 1 = .ok (.iload_n 1, 1) := by decide +kernel
theorem dX7_within_2 : decode cX7_within 2 = .ok (.if_icmp .lt 12, 3) := by decide +kernel
theorem dX7_within_5 : decode cX7_within 5 = .ok (.iload_n 0, 1) := by decide +kernel
theorem dX7_within_6 : decode cX7_within 6 = .ok (.iload_n 2, 1) := by decide +kernel
theorem dX7_within_7 : decode cX7_within 7 = .ok (.if_icmp .gt 7, 3) := by decide +kernel
theorem dX7_within_10 : decode cX7_within 10 = .ok (.iconst 1, 1) := by decide +kernel
theorem dX7_within_11 : decode cX7_within 11 = .ok (.goto 4, 3) := by decide +kernel
theorem dX7_within_14 : decode cX7_within 14 = .ok (.iconst 0, 1) := by decide +kernel
theorem dX7_within_15 : decode cX7_within 15 = .ok (.ireturn, 1) := by decide +kernel
theorem dX7_isMark_0 : decode cX7_isMark 0 = .ok (.iload_n 1, 1) := by decide +kernel
theorem dX7_isMark_1 : decode cX7_isMark 1 = .ok (.getstatic 307, 3) := by decide +kernel
theorem dX7_isMark_4 : decode cX7_isMark 4 = .ok (.iload_n 0, 1) := by decide +kernel
theorem dX7_isMark_5 : decode cX7_isMark 5 = .ok (.iaload, 1) := by decide +kernel
theorem dX7_isMark_6 : decode cX7_isMark 6 = .ok (.getstatic 266, 3) := by decide +kernel
theorem dX7_isMark_9 : decode cX7_isMark 9 = .ok (.iload_n 0, 1) := by decide +kernel
theorem dX7_isMark_10 : decode cX7_isMark 10 = .ok (.iaload, 1) := by decide +kernel
theorem dX7_isMark_11 : decode cX7_isMark 11 = .ok (.invokestatic 83, 3) := by decide +kernel
theorem dX7_isMark_14 : decode cX7_isMark 14 = .ok (.ireturn, 1) := by decide +kernel
theorem dX7_isPace_0 : decode cX7_isPace 0 = .ok (.iload_n 0, 1) := by decide +kernel
theorem dX7_isPace_1 : decode cX7_isPace 1 = .ok (.iconst 1, 1) := by decide +kernel
theorem dX7_isPace_2 : decode cX7_isPace 2 = .ok (.bipush 15, 2) := by decide +kernel
theorem dX7_isPace_4 : decode cX7_isPace 4 = .ok (.invokestatic 83, 3) := by decide +kernel
theorem dX7_isPace_7 : decode cX7_isPace 7 = .ok (.ireturn, 1) := by decide +kernel
theorem dX7_isMinute_0 : decode cX7_isMinute 0 = .ok (.iload_n 0, 1) := by decide +kernel
theorem dX7_isMinute_1 : decode cX7_isMinute 1 = .ok (.iconst 0, 1) := by decide +kernel
theorem dX7_isMinute_2 : decode cX7_isMinute 2 = .ok (.sipush 1439, 3) := by decide +kernel
theorem dX7_isMinute_5 : decode cX7_isMinute 5 = .ok (.invokestatic 83, 3) := by decide +kernel
theorem dX7_isMinute_8 : decode cX7_isMinute 8 = .ok (.ireturn, 1) := by decide +kernel
theorem dX7_isStart_0 : decode cX7_isStart 0 = .ok (.aload_n 0, 1) := by decide +kernel
theorem dX7_isStart_1 : decode cX7_isStart 1 = .ok (.getfield 10, 3) := by decide +kernel
theorem dX7_isStart_4 : decode cX7_isStart 4 = .ok (.iload_n 1, 1) := by decide +kernel
theorem dX7_isStart_5 : decode cX7_isStart 5 = .ok (.invokevirtual 168, 3) := by decide +kernel
theorem dX7_isStart_8 : decode cX7_isStart 8 = .ok (.ifCond .eq 14, 3) := by decide +kernel
theorem dX7_isStart_11 : decode cX7_isStart 11 = .ok (.iload_n 2, 1) := by decide +kernel
theorem dX7_isStart_12 : decode cX7_isStart 12 = .ok (.invokestatic 254, 3) := by decide +kernel
theorem dX7_isStart_15 : decode cX7_isStart 15 = .ok (.ifCond .eq 7, 3) := by decide +kernel
theorem dX7_isStart_18 : decode cX7_isStart 18 = .ok (.iconst 1, 1) := by decide +kernel
theorem dX7_isStart_19 : decode cX7_isStart 19 = .ok (.goto 4, 3) := by decide +kernel
theorem dX7_isStart_22 : decode cX7_isStart 22 = .ok (.iconst 0, 1) := by decide +kernel
theorem dX7_isStart_23 : decode cX7_isStart 23 = .ok (.ireturn, 1) := by decide +kernel
theorem dX7_refusalAt_0 : decode cX7_refusalAt 0 = .ok (.aload_n 0, 1) := by decide +kernel
theorem dX7_refusalAt_1 : decode cX7_refusalAt 1 = .ok (.iload_n 1, 1) := by decide +kernel
theorem dX7_refusalAt_2 : decode cX7_refusalAt 2 = .ok (.iload_n 2, 1) := by decide +kernel
theorem dX7_refusalAt_3 : decode cX7_refusalAt 3 = .ok (.invokevirtual 174, 3) := by decide +kernel
theorem dX7_refusalAt_6 : decode cX7_refusalAt 6 = .ok (.ifCond .eq 14, 3) := by decide +kernel
theorem dX7_refusalAt_9 : decode cX7_refusalAt 9 = .ok (.iload_n 3, 1) := by decide +kernel
theorem dX7_refusalAt_10 : decode cX7_refusalAt 10 = .ok (.iload 4, 2) := by decide +kernel
theorem dX7_refusalAt_12 : decode cX7_refusalAt 12 = .ok (.bipush 15, 2) := by decide +kernel
theorem dX7_refusalAt_14 : decode cX7_refusalAt 14 = .ok (.invokestatic 83, 3) := by decide +kernel
theorem dX7_refusalAt_17 : decode cX7_refusalAt 17 = .ok (.ifCond .ne 5, 3) := by decide +kernel
theorem dX7_refusalAt_20 : decode cX7_refusalAt 20 = .ok (.iconst (-1), 1) := by decide +kernel
theorem dX7_refusalAt_21 : decode cX7_refusalAt 21 = .ok (.ireturn, 1) := by decide +kernel
theorem dX7_refusalAt_22 : decode cX7_refusalAt 22 = .ok (.aload_n 0, 1) := by decide +kernel
theorem dX7_refusalAt_23 : decode cX7_refusalAt 23 = .ok (.getfield 10, 3) := by decide +kernel
theorem dX7_refusalAt_26 : decode cX7_refusalAt 26 = .ok (.getfield 133, 3) := by decide +kernel
theorem dX7_refusalAt_29 : decode cX7_refusalAt 29 = .ok (.ifCond .ne 6, 3) := by decide +kernel
theorem dX7_refusalAt_32 : decode cX7_refusalAt 32 = .ok (.bipush (-2), 2) := by decide +kernel
theorem dX7_refusalAt_34 : decode cX7_refusalAt 34 = .ok (.ireturn, 1) := by decide +kernel
theorem dX7_refusalAt_35 : decode cX7_refusalAt 35 = .ok (.iload_n 3, 1) := by decide +kernel
theorem dX7_refusalAt_36 : decode cX7_refusalAt 36 = .ok (.aload_n 0, 1) := by decide +kernel
theorem dX7_refusalAt_37 : decode cX7_refusalAt 37 = .ok (.getfield 10, 3) := by decide +kernel
theorem dX7_refusalAt_40 : decode cX7_refusalAt 40 = .ok (.getfield 133, 3) := by decide +kernel
theorem dX7_refusalAt_43 : decode cX7_refusalAt 43 = .ok (.if_icmp .ge 7, 3) := by decide +kernel
theorem dX7_refusalAt_46 : decode cX7_refusalAt 46 = .ok (.iconst 0, 1) := by decide +kernel
theorem dX7_refusalAt_47 : decode cX7_refusalAt 47 = .ok (.goto 4, 3) := by decide +kernel
theorem dX7_refusalAt_50 : decode cX7_refusalAt 50 = .ok (.iconst (-1), 1) := by decide +kernel
theorem dX7_refusalAt_51 : decode cX7_refusalAt 51 = .ok (.ireturn, 1) := by decide +kernel
end
section
theorem dX7_isPlaced_0 : decode cX7_isPlaced 0 = .ok (.aload_n 0, 1) := by decide +kernel
theorem dX7_isPlaced_1 : decode cX7_isPlaced 1 = .ok (.getfield 10, 3) := by decide +kernel
theorem dX7_isPlaced_4 : decode cX7_isPlaced 4 = .ok (.iload_n 1, 1) := by decide +kernel
theorem dX7_isPlaced_5 : decode cX7_isPlaced 5 = .ok (.invokevirtual 168, 3) := by decide +kernel
theorem dX7_isPlaced_8 : decode cX7_isPlaced 8 = .ok (.ifCond .eq 37, 3) := by decide +kernel
theorem dX7_isPlaced_11 : decode cX7_isPlaced 11 = .ok (.aload_n 0, 1) := by decide +kernel
theorem dX7_isPlaced_12 : decode cX7_isPlaced 12 = .ok (.getfield 10, 3) := by decide +kernel
theorem dX7_isPlaced_15 : decode cX7_isPlaced 15 = .ok (.iload_n 2, 1) := by decide +kernel
theorem dX7_isPlaced_16 : decode cX7_isPlaced 16 = .ok (.invokevirtual 79, 3) := by decide +kernel
theorem dX7_isPlaced_19 : decode cX7_isPlaced 19 = .ok (.ifCond .eq 26, 3) := by decide +kernel
theorem dX7_isPlaced_22 : decode cX7_isPlaced 22 = .ok (.iload_n 3, 1) := by decide +kernel
theorem dX7_isPlaced_23 : decode cX7_isPlaced 23 = .ok (.iconst 0, 1) := by decide +kernel
theorem dX7_isPlaced_24 : decode cX7_isPlaced 24 = .ok (.sipush 4000, 3) := by decide +kernel
theorem dX7_isPlaced_27 : decode cX7_isPlaced 27 = .ok (.invokestatic 83, 3) := by decide +kernel
theorem dX7_isPlaced_30 : decode cX7_isPlaced 30 = .ok (.ifCond .eq 15, 3) := by decide +kernel
theorem dX7_isPlaced_33 : decode cX7_isPlaced 33 = .ok (.iload 4, 2) := by decide +kernel
theorem dX7_isPlaced_35 : decode cX7_isPlaced 35 = .ok (.invokestatic 106, 3) := by decide +kernel
theorem dX7_isPlaced_38 : decode cX7_isPlaced 38 = .ok (.ifCond .eq 7, 3) := by decide +kernel
theorem dX7_isPlaced_41 : decode cX7_isPlaced 41 = .ok (.iconst 1, 1) := by decide +kernel
theorem dX7_isPlaced_42 : decode cX7_isPlaced 42 = .ok (.goto 4, 3) := by decide +kernel
theorem dX7_isPlaced_45 : decode cX7_isPlaced 45 = .ok (.iconst 0, 1) := by decide +kernel
theorem dX7_isPlaced_46 : decode cX7_isPlaced 46 = .ok (.ireturn, 1) := by decide +kernel
theorem dX7_areTwo_0 : decode cX7_areTwo 0 = .ok (.aload_n 0, 1) := by decide +kernel
theorem dX7_areTwo_1 : decode cX7_areTwo 1 = .ok (.getfield 10, 3) := by decide +kernel
theorem dX7_areTwo_4 : decode cX7_areTwo 4 = .ok (.iload_n 1, 1) := by decide +kernel
theorem dX7_areTwo_5 : decode cX7_areTwo 5 = .ok (.invokevirtual 168, 3) := by decide +kernel
theorem dX7_areTwo_8 : decode cX7_areTwo 8 = .ok (.ifCond .eq 23, 3) := by decide +kernel
theorem dX7_areTwo_11 : decode cX7_areTwo 11 = .ok (.aload_n 0, 1) := by decide +kernel
theorem dX7_areTwo_12 : decode cX7_areTwo 12 = .ok (.getfield 10, 3) := by decide +kernel
theorem dX7_areTwo_15 : decode cX7_areTwo 15 = .ok (.iload_n 2, 1) := by decide +kernel
theorem dX7_areTwo_16 : decode cX7_areTwo 16 = .ok (.invokevirtual 168, 3) := by decide +kernel
theorem dX7_areTwo_19 : decode cX7_areTwo 19 = .ok (.ifCond .eq 12, 3) := by decide +kernel
theorem dX7_areTwo_22 : decode cX7_areTwo 22 = .ok (.iload_n 1, 1) := by decide +kernel
theorem dX7_areTwo_23 : decode cX7_areTwo 23 = .ok (.iload_n 2, 1) := by decide +kernel
theorem dX7_areTwo_24 : decode cX7_areTwo 24 = .ok (.if_icmp .eq 7, 3) := by decide +kernel
theorem dX7_areTwo_27 : decode cX7_areTwo 27 = .ok (.iconst 1, 1) := by decide +kernel
theorem dX7_areTwo_28 : decode cX7_areTwo 28 = .ok (.goto 4, 3) := by decide +kernel
theorem dX7_areTwo_31 : decode cX7_areTwo 31 = .ok (.iconst 0, 1) := by decide +kernel
theorem dX7_areTwo_32 : decode cX7_areTwo 32 = .ok (.ireturn, 1) := by decide +kernel
theorem dX7_isHeld_0 : decode cX7_isHeld 0 = .ok (.aload_n 0, 1) := by decide +kernel
theorem dX7_isHeld_1 : decode cX7_isHeld 1 = .ok (.getfield 10, 3) := by decide +kernel
theorem dX7_isHeld_4 : decode cX7_isHeld 4 = .ok (.iload_n 1, 1) := by decide +kernel
theorem dX7_isHeld_5 : decode cX7_isHeld 5 = .ok (.iconst 2, 1) := by decide +kernel
theorem dX7_isHeld_6 : decode cX7_isHeld 6 = .ok (.invokevirtual 251, 3) := by decide +kernel
theorem dX7_isHeld_9 : decode cX7_isHeld 9 = .ok (.istore 4, 2) := by decide +kernel
theorem dX7_isHeld_11 : decode cX7_isHeld 11 = .ok (.iload_n 2, 1) := by decide +kernel
theorem dX7_isHeld_12 : decode cX7_isHeld 12 = .ok (.iconst 3, 1) := by decide +kernel
theorem dX7_isHeld_13 : decode cX7_isHeld 13 = .ok (.if_icmp .gt 10, 3) := by decide +kernel
theorem dX7_isHeld_16 : decode cX7_isHeld 16 = .ok (.iload 4, 2) := by decide +kernel
theorem dX7_isHeld_18 : decode cX7_isHeld 18 = .ok (.iconst 2, 1) := by decide +kernel
theorem dX7_isHeld_19 : decode cX7_isHeld 19 = .ok (.idiv, 1) := by decide +kernel
theorem dX7_isHeld_20 : decode cX7_isHeld 20 = .ok (.goto 5, 3) := by decide +kernel
theorem dX7_isHeld_23 : decode cX7_isHeld 23 = .ok (.iload 4, 2) := by decide +kernel
theorem dX7_isHeld_25 : decode cX7_isHeld 25 = .ok (.istore 5, 2) := by decide +kernel
theorem dX7_isHeld_27 : decode cX7_isHeld 27 = .ok (.iload_n 3, 1) := by decide +kernel
theorem dX7_isHeld_28 : decode cX7_isHeld 28 = .ok (.iconst 1, 1) := by decide +kernel
theorem dX7_isHeld_29 : decode cX7_isHeld 29 = .ok (.if_icmp .lt 29, 3) := by decide +kernel
theorem dX7_isHeld_32 : decode cX7_isHeld 32 = .ok (.iload_n 2, 1) := by decide +kernel
theorem dX7_isHeld_33 : decode cX7_isHeld 33 = .ok (.iload_n 2, 1) := by decide +kernel
theorem dX7_isHeld_34 : decode cX7_isHeld 34 = .ok (.imul, 1) := by decide +kernel
theorem dX7_isHeld_35 : decode cX7_isHeld 35 = .ok (.aload_n 0, 1) := by decide +kernel
theorem dX7_isHeld_36 : decode cX7_isHeld 36 = .ok (.getfield 10, 3) := by decide +kernel
theorem dX7_isHeld_39 : decode cX7_isHeld 39 = .ok (.iload_n 1, 1) := by decide +kernel
theorem dX7_isHeld_40 : decode cX7_isHeld 40 = .ok (.iconst 1, 1) := by decide +kernel
theorem dX7_isHeld_41 : decode cX7_isHeld 41 = .ok (.invokevirtual 251, 3) := by decide +kernel
theorem dX7_isHeld_44 : decode cX7_isHeld 44 = .ok (.imul, 1) := by decide +kernel
theorem dX7_isHeld_45 : decode cX7_isHeld 45 = .ok (.iload_n 3, 1) := by decide +kernel
theorem dX7_isHeld_46 : decode cX7_isHeld 46 = .ok (.iload_n 3, 1) := by decide +kernel
theorem dX7_isHeld_47 : decode cX7_isHeld 47 = .ok (.imul, 1) := by decide +kernel
theorem dX7_isHeld_48 : decode cX7_isHeld 48 = .ok (.idiv, 1) := by decide +kernel
theorem dX7_isHeld_49 : decode cX7_isHeld 49 = .ok (.iload 5, 2) := by decide +kernel
theorem dX7_isHeld_51 : decode cX7_isHeld 51 = .ok (.if_icmp .gt 7, 3) := by decide +kernel
theorem dX7_isHeld_54 : decode cX7_isHeld 54 = .ok (.iconst 1, 1) := by decide +kernel
theorem dX7_isHeld_55 : decode cX7_isHeld 55 = .ok (.goto 4, 3) := by decide +kernel
theorem dX7_isHeld_58 : decode cX7_isHeld 58 = .ok (.iconst 0, 1) := by decide +kernel
theorem dX7_isHeld_59 : decode cX7_isHeld 59 = .ok (.ireturn, 1) := by decide +kernel
theorem dX7_latesBy_0 : decode cX7_latesBy 0 = .ok (.iconst 0, 1) := by decide +kernel
theorem dX7_latesBy_1 : decode cX7_latesBy 1 = .ok (.istore 5, 2) := by decide +kernel
theorem dX7_latesBy_3 : decode cX7_latesBy 3 = .ok (.bipush (-4), 2) := by decide +kernel
theorem dX7_latesBy_5 : decode cX7_latesBy 5 = .ok (.istore 6, 2) := by decide +kernel
theorem dX7_latesBy_7 : decode cX7_latesBy 7 = .ok (.bipush (-4), 2) := by decide +kernel
theorem dX7_latesBy_9 : decode cX7_latesBy 9 = .ok (.istore 7, 2) := by decide +kernel
theorem dX7_latesBy_11 : decode cX7_latesBy 11 = .ok (.iconst 0, 1) := by decide +kernel
theorem dX7_latesBy_12 : decode cX7_latesBy 12 = .ok (.istore 8, 2) := by decide +kernel
theorem dX7_latesBy_14 : decode cX7_latesBy 14 = .ok (.iload 8, 2) := by decide +kernel
theorem dX7_latesBy_16 : decode cX7_latesBy 16 = .ok (.getstatic 97, 3) := by decide +kernel
theorem dX7_latesBy_19 : decode cX7_latesBy 19 = .ok (.iconst 0, 1) := by decide +kernel
theorem dX7_latesBy_20 : decode cX7_latesBy 20 = .ok (.iaload, 1) := by decide +kernel
theorem dX7_latesBy_21 : decode cX7_latesBy 21 = .ok (.if_icmp .gt 44, 3) := by decide +kernel
theorem dX7_latesBy_24 : decode cX7_latesBy 24 = .ok (.aload_n 0, 1) := by decide +kernel
theorem dX7_latesBy_25 : decode cX7_latesBy 25 = .ok (.iload 8, 2) := by decide +kernel
theorem dX7_latesBy_27 : decode cX7_latesBy 27 = .ok (.iload_n 1, 1) := by decide +kernel
theorem dX7_latesBy_28 : decode cX7_latesBy 28 = .ok (.iload_n 2, 1) := by decide +kernel
theorem dX7_latesBy_29 : decode cX7_latesBy 29 = .ok (.iload_n 3, 1) := by decide +kernel
theorem dX7_latesBy_30 : decode cX7_latesBy 30 = .ok (.invokevirtual 310, 3) := by decide +kernel
theorem dX7_latesBy_33 : decode cX7_latesBy 33 = .ok (.ifCond .eq 26, 3) := by decide +kernel
theorem dX7_latesBy_36 : decode cX7_latesBy 36 = .ok (.iinc 5 1, 3) := by decide +kernel
theorem dX7_latesBy_39 : decode cX7_latesBy 39 = .ok (.iload 6, 2) := by decide +kernel
theorem dX7_latesBy_41 : decode cX7_latesBy 41 = .ok (.bipush (-4), 2) := by decide +kernel
theorem dX7_latesBy_43 : decode cX7_latesBy 43 = .ok (.if_icmp .ne 8, 3) := by decide +kernel
theorem dX7_latesBy_46 : decode cX7_latesBy 46 = .ok (.iload 8, 2) := by decide +kernel
theorem dX7_latesBy_48 : decode cX7_latesBy 48 = .ok (.goto 5, 3) := by decide +kernel
theorem dX7_latesBy_51 : decode cX7_latesBy 51 = .ok (.iload 6, 2) := by decide +kernel
theorem dX7_latesBy_53 : decode cX7_latesBy 53 = .ok (.istore 6, 2) := by decide +kernel
theorem dX7_latesBy_55 : decode cX7_latesBy 55 = .ok (.iload 8, 2) := by decide +kernel
theorem dX7_latesBy_57 : decode cX7_latesBy 57 = .ok (.istore 7, 2) := by decide +kernel
theorem dX7_latesBy_59 : decode cX7_latesBy 59 = .ok (.iinc 8 1, 3) := by decide +kernel
theorem dX7_latesBy_62 : decode cX7_latesBy 62 = .ok (.goto (-48), 3) := by decide +kernel
theorem dX7_latesBy_65 : decode cX7_latesBy 65 = .ok (.iload 4, 2) := by decide +kernel
theorem dX7_latesBy_67 : decode cX7_latesBy 67 = .ok (.ifCond .ne 8, 3) := by decide +kernel
theorem dX7_latesBy_70 : decode cX7_latesBy 70 = .ok (.iload 5, 2) := by decide +kernel
theorem dX7_latesBy_72 : decode cX7_latesBy 72 = .ok (.goto 16, 3) := by decide +kernel
theorem dX7_latesBy_75 : decode cX7_latesBy 75 = .ok (.iload 4, 2) := by decide +kernel
theorem dX7_latesBy_77 : decode cX7_latesBy 77 = .ok (.iconst 1, 1) := by decide +kernel
theorem dX7_latesBy_78 : decode cX7_latesBy 78 = .ok (.if_icmp .ne 8, 3) := by decide +kernel
theorem dX7_latesBy_81 : decode cX7_latesBy 81 = .ok (.iload 6, 2) := by decide +kernel
theorem dX7_latesBy_83 : decode cX7_latesBy 83 = .ok (.goto 5, 3) := by decide +kernel
theorem dX7_latesBy_86 : decode cX7_latesBy 86 = .ok (.iload 7, 2) := by decide +kernel
theorem dX7_latesBy_88 : decode cX7_latesBy 88 = .ok (.ireturn, 1) := by decide +kernel
theorem dX7_isLate_0 : decode cX7_isLate 0 = .ok (.iconst 0, 1) := by decide +kernel
theorem dX7_isLate_1 : decode cX7_isLate 1 = .ok (.istore 5, 2) := by decide +kernel
theorem dX7_isLate_3 : decode cX7_isLate 3 = .ok (.iload 5, 2) := by decide +kernel
theorem dX7_isLate_5 : decode cX7_isLate 5 = .ok (.iload 4, 2) := by decide +kernel
theorem dX7_isLate_7 : decode cX7_isLate 7 = .ok (.if_icmp .ge 52, 3) := by decide +kernel
theorem dX7_isLate_10 : decode cX7_isLate 10 = .ok (.iload_n 3, 1) := by decide +kernel
theorem dX7_isLate_11 : decode cX7_isLate 11 = .ok (.iconst 2, 1) := by decide +kernel
theorem dX7_isLate_12 : decode cX7_isLate 12 = .ok (.iload 5, 2) := by decide +kernel
theorem dX7_isLate_14 : decode cX7_isLate 14 = .ok (.imul, 1) := by decide +kernel
theorem dX7_isLate_15 : decode cX7_isLate 15 = .ok (.iadd, 1) := by decide +kernel
theorem dX7_isLate_16 : decode cX7_isLate 16 = .ok (.istore 6, 2) := by decide +kernel
theorem dX7_isLate_18 : decode cX7_isLate 18 = .ok (.aload_n 0, 1) := by decide +kernel
theorem dX7_isLate_19 : decode cX7_isLate 19 = .ok (.getfield 10, 3) := by decide +kernel
theorem dX7_isLate_22 : decode cX7_isLate 22 = .ok (.iload_n 1, 1) := by decide +kernel
theorem dX7_isLate_23 : decode cX7_isLate 23 = .ok (.aload_n 0, 1) := by decide +kernel
theorem dX7_isLate_24 : decode cX7_isLate 24 = .ok (.getfield 59, 3) := by decide +kernel
theorem dX7_isLate_27 : decode cX7_isLate 27 = .ok (.iload_n 2, 1) := by decide +kernel
theorem dX7_isLate_28 : decode cX7_isLate 28 = .ok (.iload 6, 2) := by decide +kernel
theorem dX7_isLate_30 : decode cX7_isLate 30 = .ok (.invokevirtual 288, 3) := by decide +kernel
theorem dX7_isLate_33 : decode cX7_isLate 33 = .ok (.invokevirtual 313, 3) := by decide +kernel
theorem dX7_isLate_36 : decode cX7_isLate 36 = .ok (.aload_n 0, 1) := by decide +kernel
theorem dX7_isLate_37 : decode cX7_isLate 37 = .ok (.getfield 59, 3) := by decide +kernel
theorem dX7_isLate_40 : decode cX7_isLate 40 = .ok (.iload_n 2, 1) := by decide +kernel
theorem dX7_isLate_41 : decode cX7_isLate 41 = .ok (.iload 6, 2) := by decide +kernel
theorem dX7_isLate_43 : decode cX7_isLate 43 = .ok (.iconst 1, 1) := by decide +kernel
theorem dX7_isLate_44 : decode cX7_isLate 44 = .ok (.iadd, 1) := by decide +kernel
theorem dX7_isLate_45 : decode cX7_isLate 45 = .ok (.invokevirtual 288, 3) := by decide +kernel
theorem dX7_isLate_48 : decode cX7_isLate 48 = .ok (.if_icmp .eq 5, 3) := by decide +kernel
theorem dX7_isLate_51 : decode cX7_isLate 51 = .ok (.iconst 0, 1) := by decide +kernel
theorem dX7_isLate_52 : decode cX7_isLate 52 = .ok (.ireturn, 1) := by decide +kernel
theorem dX7_isLate_53 : decode cX7_isLate 53 = .ok (.iinc 5 1, 3) := by decide +kernel
theorem dX7_isLate_56 : decode cX7_isLate 56 = .ok (.goto (-53), 3) := by decide +kernel
theorem dX7_isLate_59 : decode cX7_isLate 59 = .ok (.iconst 1, 1) := by decide +kernel
theorem dX7_isLate_60 : decode cX7_isLate 60 = .ok (.ireturn, 1) := by decide +kernel
theorem dX7_minutesBy_0 : decode cX7_minutesBy 0 = .ok (.bipush 60, 2) := by decide +kernel
theorem dX7_minutesBy_2 : decode cX7_minutesBy 2 = .ok (.iconst 1, 1) := by decide +kernel
theorem dX7_minutesBy_3 : decode cX7_minutesBy 3 = .ok (.iload_n 0, 1) := by decide +kernel
theorem dX7_minutesBy_4 : decode cX7_minutesBy 4 = .ok (.invokestatic 235, 3) := by decide +kernel
theorem dX7_minutesBy_7 : decode cX7_minutesBy 7 = .ok (.idiv, 1) := by decide +kernel
theorem dX7_minutesBy_8 : decode cX7_minutesBy 8 = .ok (.ireturn, 1) := by decide +kernel
theorem dX7_hasBit_0 : decode cX7_hasBit 0 = .ok (.iload_n 1, 1) := by decide +kernel
theorem dX7_hasBit_1 : decode cX7_hasBit 1 = .ok (.iconst 0, 1) := by decide +kernel
theorem dX7_hasBit_2 : decode cX7_hasBit 2 = .ok (.aload_n 0, 1) := by decide +kernel
theorem dX7_hasBit_3 : decode cX7_hasBit 3 = .ok (.arraylength, 1) := by decide +kernel
theorem dX7_hasBit_4 : decode cX7_hasBit 4 = .ok (.bipush 64, 2) := by decide +kernel
theorem dX7_hasBit_6 : decode cX7_hasBit 6 = .ok (.imul, 1) := by decide +kernel
theorem dX7_hasBit_7 : decode cX7_hasBit 7 = .ok (.iconst 1, 1) := by decide +kernel
theorem dX7_hasBit_8 : decode cX7_hasBit 8 = .ok (.isub, 1) := by decide +kernel
theorem dX7_hasBit_9 : decode cX7_hasBit 9 = .ok (.invokestatic 83, 3) := by decide +kernel
theorem dX7_hasBit_12 : decode cX7_hasBit 12 = .ok (.ifCond .eq 25, 3) := by decide +kernel
theorem dX7_hasBit_15 : decode cX7_hasBit 15 = .ok (.aload_n 0, 1) := by decide +kernel
theorem dX7_hasBit_16 : decode cX7_hasBit 16 = .ok (.iload_n 1, 1) := by decide +kernel
theorem dX7_hasBit_17 : decode cX7_hasBit 17 = .ok (.bipush 64, 2) := by decide +kernel
theorem dX7_hasBit_19 : decode cX7_hasBit 19 = .ok (.idiv, 1) := by decide +kernel
theorem dX7_hasBit_20 : decode cX7_hasBit 20 = .ok (.laload, 1) := by decide +kernel
theorem dX7_hasBit_21 : decode cX7_hasBit 21 = .ok (.iload_n 1, 1) := by decide +kernel
theorem dX7_hasBit_22 : decode cX7_hasBit 22 = .ok (.bipush 64, 2) := by decide +kernel
theorem dX7_hasBit_24 : decode cX7_hasBit 24 = .ok (.irem, 1) := by decide +kernel
theorem dX7_hasBit_25 : decode cX7_hasBit 25 = .ok (.lushr, 1) := by decide +kernel
theorem dX7_hasBit_26 : decode cX7_hasBit 26 = .ok (.lconst 1, 1) := by decide +kernel
theorem dX7_hasBit_27 : decode cX7_hasBit 27 = .ok (.land, 1) := by decide +kernel
theorem dX7_hasBit_28 : decode cX7_hasBit 28 = .ok (.lconst 0, 1) := by decide +kernel
theorem dX7_hasBit_29 : decode cX7_hasBit 29 = .ok (.lcmp, 1) := by decide +kernel
theorem dX7_hasBit_30 : decode cX7_hasBit 30 = .ok (.ifCond .eq 7, 3) := by decide +kernel
theorem dX7_hasBit_33 : decode cX7_hasBit 33 = .ok (.iconst 1, 1) := by decide +kernel
theorem dX7_hasBit_34 : decode cX7_hasBit 34 = .ok (.goto 4, 3) := by decide +kernel
theorem dX7_hasBit_37 : decode cX7_hasBit 37 = .ok (.iconst 0, 1) := by decide +kernel
theorem dX7_hasBit_38 : decode cX7_hasBit 38 = .ok (.ireturn, 1) := by decide +kernel
theorem dX7_putBit_0 : decode cX7_putBit 0 = .ok (.iload_n 1, 1) := by decide +kernel
theorem dX7_putBit_1 : decode cX7_putBit 1 = .ok (.iconst 0, 1) := by decide +kernel
theorem dX7_putBit_2 : decode cX7_putBit 2 = .ok (.aload_n 0, 1) := by decide +kernel
theorem dX7_putBit_3 : decode cX7_putBit 3 = .ok (.arraylength, 1) := by decide +kernel
theorem dX7_putBit_4 : decode cX7_putBit 4 = .ok (.bipush 64, 2) := by decide +kernel
theorem dX7_putBit_6 : decode cX7_putBit 6 = .ok (.imul, 1) := by decide +kernel
theorem dX7_putBit_7 : decode cX7_putBit 7 = .ok (.iconst 1, 1) := by decide +kernel
theorem dX7_putBit_8 : decode cX7_putBit 8 = .ok (.isub, 1) := by decide +kernel
theorem dX7_putBit_9 : decode cX7_putBit 9 = .ok (.invokestatic 83, 3) := by decide +kernel
theorem dX7_putBit_12 : decode cX7_putBit 12 = .ok (.ifCond .eq 18, 3) := by decide +kernel
theorem dX7_putBit_15 : decode cX7_putBit 15 = .ok (.aload_n 0, 1) := by decide +kernel
theorem dX7_putBit_16 : decode cX7_putBit 16 = .ok (.iload_n 1, 1) := by decide +kernel
theorem dX7_putBit_17 : decode cX7_putBit 17 = .ok (.bipush 64, 2) := by decide +kernel
theorem dX7_putBit_19 : decode cX7_putBit 19 = .ok (.idiv, 1) := by decide +kernel
theorem dX7_putBit_20 : decode cX7_putBit 20 = .ok (.dup2, 1) := by decide +kernel
theorem dX7_putBit_21 : decode cX7_putBit 21 = .ok (.laload, 1) := by decide +kernel
theorem dX7_putBit_22 : decode cX7_putBit 22 = .ok (.lconst 1, 1) := by decide +kernel
theorem dX7_putBit_23 : decode cX7_putBit 23 = .ok (.iload_n 1, 1) := by decide +kernel
theorem dX7_putBit_24 : decode cX7_putBit 24 = .ok (.bipush 64, 2) := by decide +kernel
theorem dX7_putBit_26 : decode cX7_putBit 26 = .ok (.irem, 1) := by decide +kernel
theorem dX7_putBit_27 : decode cX7_putBit 27 = .ok (.lshl, 1) := by decide +kernel
theorem dX7_putBit_28 : decode cX7_putBit 28 = .ok (.lor, 1) := by decide +kernel
theorem dX7_putBit_29 : decode cX7_putBit 29 = .ok (.lastore, 1) := by decide +kernel
theorem dX7_putBit_30 : decode cX7_putBit 30 = .ok (.return_, 1) := by decide +kernel
theorem dX7_bitsIn_0 : decode cX7_bitsIn 0 = .ok (.iconst 0, 1) := by decide +kernel
theorem dX7_bitsIn_1 : decode cX7_bitsIn 1 = .ok (.istore_n 1, 1) := by decide +kernel
theorem dX7_bitsIn_2 : decode cX7_bitsIn 2 = .ok (.iconst 0, 1) := by decide +kernel
theorem dX7_bitsIn_3 : decode cX7_bitsIn 3 = .ok (.istore_n 2, 1) := by decide +kernel
theorem dX7_bitsIn_4 : decode cX7_bitsIn 4 = .ok (.iload_n 2, 1) := by decide +kernel
theorem dX7_bitsIn_5 : decode cX7_bitsIn 5 = .ok (.aload_n 0, 1) := by decide +kernel
theorem dX7_bitsIn_6 : decode cX7_bitsIn 6 = .ok (.arraylength, 1) := by decide +kernel
theorem dX7_bitsIn_7 : decode cX7_bitsIn 7 = .ok (.if_icmp .ge 18, 3) := by decide +kernel
theorem dX7_bitsIn_10 : decode cX7_bitsIn 10 = .ok (.iload_n 1, 1) := by decide +kernel
theorem dX7_bitsIn_11 : decode cX7_bitsIn 11 = .ok (.aload_n 0, 1) := by decide +kernel
theorem dX7_bitsIn_12 : decode cX7_bitsIn 12 = .ok (.iload_n 2, 1) := by decide +kernel
theorem dX7_bitsIn_13 : decode cX7_bitsIn 13 = .ok (.laload, 1) := by decide +kernel
theorem dX7_bitsIn_14 : decode cX7_bitsIn 14 = .ok (.invokestatic 316, 3) := by decide +kernel
theorem dX7_bitsIn_17 : decode cX7_bitsIn 17 = .ok (.iadd, 1) := by decide +kernel
theorem dX7_bitsIn_18 : decode cX7_bitsIn 18 = .ok (.istore_n 1, 1) := by decide +kernel
theorem dX7_bitsIn_19 : decode cX7_bitsIn 19 = .ok (.iinc 2 1, 3) := by decide +kernel
theorem dX7_bitsIn_22 : decode cX7_bitsIn 22 = .ok (.goto (-18), 3) := by decide +kernel
theorem dX7_bitsIn_25 : decode cX7_bitsIn 25 = .ok (.iload_n 1, 1) := by decide +kernel
theorem dX7_bitsIn_26 : decode cX7_bitsIn 26 = .ok (.ireturn, 1) := by decide +kernel
theorem dX7_firstFrom_0 : decode cX7_firstFrom 0 = .ok (.iload_n 1, 1) := by decide +kernel
theorem dX7_firstFrom_1 : decode cX7_firstFrom 1 = .ok (.ifCond .ge 6, 3) := by decide +kernel
theorem dX7_firstFrom_4 : decode cX7_firstFrom 4 = .ok (.bipush (-4), 2) := by decide +kernel
theorem dX7_firstFrom_6 : decode cX7_firstFrom 6 = .ok (.ireturn, 1) := by decide +kernel
theorem dX7_firstFrom_7 : decode cX7_firstFrom 7 = .ok (.ldc2_w 322, 3) := by decide +kernel
theorem dX7_firstFrom_10 : decode cX7_firstFrom 10 = .ok (.iload_n 1, 1) := by decide +kernel
theorem dX7_firstFrom_11 : decode cX7_firstFrom 11 = .ok (.bipush 64, 2) := by decide +kernel
theorem dX7_firstFrom_13 : decode cX7_firstFrom 13 = .ok (.irem, 1) := by decide +kernel
theorem dX7_firstFrom_14 : decode cX7_firstFrom 14 = .ok (.lshl, 1) := by decide +kernel
theorem dX7_firstFrom_15 : decode cX7_firstFrom 15 = .ok (.lstore_n 2, 1) := by decide +kernel
theorem dX7_firstFrom_16 : decode cX7_firstFrom 16 = .ok (.iload_n 1, 1) := by decide +kernel
theorem dX7_firstFrom_17 : decode cX7_firstFrom 17 = .ok (.bipush 64, 2) := by decide +kernel
theorem dX7_firstFrom_19 : decode cX7_firstFrom 19 = .ok (.idiv, 1) := by decide +kernel
theorem dX7_firstFrom_20 : decode cX7_firstFrom 20 = .ok (.istore 4, 2) := by decide +kernel
theorem dX7_firstFrom_22 : decode cX7_firstFrom 22 = .ok (.iload 4, 2) := by decide +kernel
theorem dX7_firstFrom_24 : decode cX7_firstFrom 24 = .ok (.aload_n 0, 1) := by decide +kernel
theorem dX7_firstFrom_25 : decode cX7_firstFrom 25 = .ok (.arraylength, 1) := by decide +kernel
theorem dX7_firstFrom_26 : decode cX7_firstFrom 26 = .ok (.if_icmp .ge 46, 3) := by decide +kernel
theorem dX7_firstFrom_29 : decode cX7_firstFrom 29 = .ok (.aload_n 0, 1) := by decide +kernel
theorem dX7_firstFrom_30 : decode cX7_firstFrom 30 = .ok (.iload 4, 2) := by decide +kernel
theorem dX7_firstFrom_32 : decode cX7_firstFrom 32 = .ok (.laload, 1) := by decide +kernel
theorem dX7_firstFrom_33 : decode cX7_firstFrom 33 = .ok (.lload_n 2, 1) := by decide +kernel
theorem dX7_firstFrom_34 : decode cX7_firstFrom 34 = .ok (.land, 1) := by decide +kernel
theorem dX7_firstFrom_35 : decode cX7_firstFrom 35 = .ok (.lstore 5, 2) := by decide +kernel
theorem dX7_firstFrom_37 : decode cX7_firstFrom 37 = .ok (.lload 5, 2) := by decide +kernel
theorem dX7_firstFrom_39 : decode cX7_firstFrom 39 = .ok (.lconst 0, 1) := by decide +kernel
theorem dX7_firstFrom_40 : decode cX7_firstFrom 40 = .ok (.lcmp, 1) := by decide +kernel
theorem dX7_firstFrom_41 : decode cX7_firstFrom 41 = .ok (.ifCond .eq 21, 3) := by decide +kernel
theorem dX7_firstFrom_44 : decode cX7_firstFrom 44 = .ok (.iload 4, 2) := by decide +kernel
theorem dX7_firstFrom_46 : decode cX7_firstFrom 46 = .ok (.bipush 64, 2) := by decide +kernel
theorem dX7_firstFrom_48 : decode cX7_firstFrom 48 = .ok (.imul, 1) := by decide +kernel
theorem dX7_firstFrom_49 : decode cX7_firstFrom 49 = .ok (.lload 5, 2) := by decide +kernel
theorem dX7_firstFrom_51 : decode cX7_firstFrom 51 = .ok (.lload 5, 2) := by decide +kernel
theorem dX7_firstFrom_53 : decode cX7_firstFrom 53 = .ok (.lneg, 1) := by decide +kernel
theorem dX7_firstFrom_54 : decode cX7_firstFrom 54 = .ok (.land, 1) := by decide +kernel
theorem dX7_firstFrom_55 : decode cX7_firstFrom 55 = .ok (.lconst 1, 1) := by decide +kernel
theorem dX7_firstFrom_56 : decode cX7_firstFrom 56 = .ok (.lsub, 1) := by decide +kernel
theorem dX7_firstFrom_57 : decode cX7_firstFrom 57 = .ok (.invokestatic 316, 3) := by decide +kernel
theorem dX7_firstFrom_60 : decode cX7_firstFrom 60 = .ok (.iadd, 1) := by decide +kernel
theorem dX7_firstFrom_61 : decode cX7_firstFrom 61 = .ok (.ireturn, 1) := by decide +kernel
theorem dX7_firstFrom_62 : decode cX7_firstFrom 62 = .ok (.ldc2_w 322, 3) := by decide +kernel
theorem dX7_firstFrom_65 : decode cX7_firstFrom 65 = .ok (.lstore_n 2, 1) := by decide +kernel
theorem dX7_firstFrom_66 : decode cX7_firstFrom 66 = .ok (.iinc 4 1, 3) := by decide +kernel
theorem dX7_firstFrom_69 : decode cX7_firstFrom 69 = .ok (.goto (-47), 3) := by decide +kernel
theorem dX7_firstFrom_72 : decode cX7_firstFrom 72 = .ok (.bipush (-4), 2) := by decide +kernel
theorem dX7_firstFrom_74 : decode cX7_firstFrom 74 = .ok (.ireturn, 1) := by decide +kernel
theorem dX7_lastOf_0 : decode cX7_lastOf 0 = .ok (.aload_n 0, 1) := by decide +kernel
theorem dX7_lastOf_1 : decode cX7_lastOf 1 = .ok (.arraylength, 1) := by decide +kernel
theorem dX7_lastOf_2 : decode cX7_lastOf 2 = .ok (.bipush 64, 2) := by decide +kernel
theorem dX7_lastOf_4 : decode cX7_lastOf 4 = .ok (.imul, 1) := by decide +kernel
theorem dX7_lastOf_5 : decode cX7_lastOf 5 = .ok (.iconst 1, 1) := by decide +kernel
theorem dX7_lastOf_6 : decode cX7_lastOf 6 = .ok (.isub, 1) := by decide +kernel
theorem dX7_lastOf_7 : decode cX7_lastOf 7 = .ok (.istore_n 1, 1) := by decide +kernel
theorem dX7_lastOf_8 : decode cX7_lastOf 8 = .ok (.iload_n 1, 1) := by decide +kernel
theorem dX7_lastOf_9 : decode cX7_lastOf 9 = .ok (.ifCond .lt 19, 3) := by decide +kernel
theorem dX7_lastOf_12 : decode cX7_lastOf 12 = .ok (.aload_n 0, 1) := by decide +kernel
theorem dX7_lastOf_13 : decode cX7_lastOf 13 = .ok (.iload_n 1, 1) := by decide +kernel
theorem dX7_lastOf_14 : decode cX7_lastOf 14 = .ok (.invokestatic 324, 3) := by decide +kernel
theorem dX7_lastOf_17 : decode cX7_lastOf 17 = .ok (.ifCond .eq 5, 3) := by decide +kernel
theorem dX7_lastOf_20 : decode cX7_lastOf 20 = .ok (.iload_n 1, 1) := by decide +kernel
theorem dX7_lastOf_21 : decode cX7_lastOf 21 = .ok (.ireturn, 1) := by decide +kernel
theorem dX7_lastOf_22 : decode cX7_lastOf 22 = .ok (.iinc 1 (-1), 3) := by decide +kernel
theorem dX7_lastOf_25 : decode cX7_lastOf 25 = .ok (.goto (-17), 3) := by decide +kernel
theorem dX7_lastOf_28 : decode cX7_lastOf 28 = .ok (.bipush (-4), 2) := by decide +kernel
theorem dX7_lastOf_30 : decode cX7_lastOf 30 = .ok (.ireturn, 1) := by decide +kernel
theorem dX8_in_0 : decode cX8_in 0 = .ok (.lload_n 0, 1) := by decide +kernel
theorem dX8_in_1 : decode cX8_in 1 = .ok (.lload_n 2, 1) := by decide +kernel
theorem dX8_in_2 : decode cX8_in 2 = .ok (.lcmp, 1) := by decide +kernel
theorem dX8_in_3 : decode cX8_in 3 = .ok (.ifCond .lt 14, 3) := by decide +kernel
theorem dX8_in_6 : decode cX8_in 6 = .ok (.lload_n 0, 1) := by decide +kernel
theorem dX8_in_7 : decode cX8_in 7 = .ok (.lload 4, 2) := by decide +kernel
theorem dX8_in_9 : decode cX8_in 9 = .ok (.lcmp, 1) := by decide +kernel
theorem dX8_in_10 : decode cX8_in 10 = .ok (.ifCond .gt 7, 3) := by decide +kernel
theorem dX8_in_13 : decode cX8_in 13 = .ok (.iconst 1, 1) := by decide +kernel
theorem dX8_in_14 : decode cX8_in 14 = .ok (.goto 4, 3) := by decide +kernel
theorem dX8_in_17 : decode cX8_in 17 = .ok (.iconst 0, 1) := by decide +kernel
theorem dX8_in_18 : decode cX8_in 18 = .ok (.ireturn, 1) := by decide +kernel
theorem dX8_init_0 : decode cX8_init 0 = .ok (.aload_n 0, 1) := by decide +kernel
theorem dX8_init_1 : decode cX8_init 1 = .ok (.invokespecial 1, 3) := by decide +kernel
theorem dX8_init_4 : decode cX8_init 4 = .ok (.aload_n 0, 1) := by decide +kernel
theorem dX8_init_5 : decode cX8_init 5 = .ok (.bipush 96, 2) := by decide +kernel
theorem dX8_init_7 : decode cX8_init 7 = .ok (.newarray .int, 2) := by decide +kernel
theorem dX8_init_9 : decode cX8_init 9 = .ok (.putfield 7, 3) := by decide +kernel
theorem dX8_init_12 : decode cX8_init 12 = .ok (.aload_n 0, 1) := by decide +kernel
theorem dX8_init_13 : decode cX8_init 13 = .ok (.bipush 24, 2) := by decide +kernel
theorem dX8_init_15 : decode cX8_init 15 = .ok (.newarray .int, 2) := by decide +kernel
theorem dX8_init_17 : decode cX8_init 17 = .ok (.putfield 13, 3) := by decide +kernel
theorem dX8_init_20 : decode cX8_init 20 = .ok (.aload_n 0, 1) := by decide +kernel
theorem dX8_init_21 : decode cX8_init 21 = .ok (.iconst 5, 1) := by decide +kernel
theorem dX8_init_22 : decode cX8_init 22 = .ok (.newarray .int, 2) := by decide +kernel
theorem dX8_init_24 : decode cX8_init 24 = .ok (.putfield 16, 3) := by decide +kernel
theorem dX8_init_27 : decode cX8_init 27 = .ok (.aload_n 0, 1) := by decide +kernel
theorem dX8_init_28 : decode cX8_init 28 = .ok (.bipush 18, 2) := by decide +kernel
theorem dX8_init_30 : decode cX8_init 30 = .ok (.newarray .int, 2) := by decide +kernel
theorem dX8_init_32 : decode cX8_init 32 = .ok (.putfield 19, 3) := by decide +kernel
theorem dX8_init_35 : decode cX8_init 35 = .ok (.aload_n 0, 1) := by decide +kernel
theorem dX8_init_36 : decode cX8_init 36 = .ok (.bipush 100, 2) := by decide +kernel
theorem dX8_init_38 : decode cX8_init 38 = .ok (.newarray .int, 2) := by decide +kernel
theorem dX8_init_40 : decode cX8_init 40 = .ok (.putfield 22, 3) := by decide +kernel
theorem dX8_init_43 : decode cX8_init 43 = .ok (.aload_n 0, 1) := by decide +kernel
theorem dX8_init_44 : decode cX8_init 44 = .ok (.bipush 40, 2) := by decide +kernel
theorem dX8_init_46 : decode cX8_init 46 = .ok (.newarray .int, 2) := by decide +kernel
theorem dX8_init_48 : decode cX8_init 48 = .ok (.putfield 25, 3) := by decide +kernel
theorem dX8_init_51 : decode cX8_init 51 = .ok (.aload_n 0, 1) := by decide +kernel
theorem dX8_init_52 : decode cX8_init 52 = .ok (.sipush 16337, 3) := by decide +kernel
theorem dX8_init_55 : decode cX8_init 55 = .ok (.newarray .int, 2) := by decide +kernel
theorem dX8_init_57 : decode cX8_init 57 = .ok (.putfield 28, 3) := by decide +kernel
theorem dX8_init_60 : decode cX8_init 60 = .ok (.aload_n 0, 1) := by decide +kernel
theorem dX8_init_61 : decode cX8_init 61 = .ok (.sipush 16337, 3) := by decide +kernel
theorem dX8_init_64 : decode cX8_init 64 = .ok (.newarray .int, 2) := by decide +kernel
theorem dX8_init_66 : decode cX8_init 66 = .ok (.putfield 31, 3) := by decide +kernel
theorem dX8_init_69 : decode cX8_init 69 = .ok (.aload_n 0, 1) := by decide +kernel
theorem dX8_init_70 : decode cX8_init 70 = .ok (.sipush 1440, 3) := by decide +kernel
theorem dX8_init_73 : decode cX8_init 73 = .ok (.newarray .boolean, 2) := by decide +kernel
theorem dX8_init_75 : decode cX8_init 75 = .ok (.putfield 34, 3) := by decide +kernel
theorem dX8_init_78 : decode cX8_init 78 = .ok (.aload_n 0, 1) := by decide +kernel
theorem dX8_init_79 : decode cX8_init 79 = .ok (.sipush 1440, 3) := by decide +kernel
theorem dX8_init_82 : decode cX8_init 82 = .ok (.newarray .boolean, 2) := by decide +kernel
theorem dX8_init_84 : decode cX8_init 84 = .ok (.putfield 38, 3) := by decide +kernel
theorem dX8_init_87 : decode cX8_init 87 = .ok (.aload_n 0, 1) := by decide +kernel
theorem dX8_init_88 : decode cX8_init 88 = .ok (.bipush 61, 2) := by decide +kernel
theorem dX8_init_90 : decode cX8_init 90 = .ok (.newarray .long, 2) := by decide +kernel
theorem dX8_init_92 : decode cX8_init 92 = .ok (.putfield 41, 3) := by decide +kernel
theorem dX8_init_95 : decode cX8_init 95 = .ok (.aload_n 0, 1) := by decide +kernel
theorem dX8_init_96 : decode cX8_init 96 = .ok (.sipush 8640, 3) := by decide +kernel
theorem dX8_init_99 : decode cX8_init 99 = .ok (.newarray .int, 2) := by decide +kernel
theorem dX8_init_101 : decode cX8_init 101 = .ok (.putfield 45, 3) := by decide +kernel
theorem dX8_init_104 : decode cX8_init 104 = .ok (.aload_n 0, 1) := by decide +kernel
theorem dX8_init_105 : decode cX8_init 105 = .ok (.bipush 6, 2) := by decide +kernel
theorem dX8_init_107 : decode cX8_init 107 = .ok (.newarray .int, 2) := by decide +kernel
theorem dX8_init_109 : decode cX8_init 109 = .ok (.putfield 48, 3) := by decide +kernel
theorem dX8_init_112 : decode cX8_init 112 = .ok (.aload_n 0, 1) := by decide +kernel
theorem dX8_init_113 : decode cX8_init 113 = .ok (.bipush 6, 2) := by decide +kernel
theorem dX8_init_115 : decode cX8_init 115 = .ok (.newarray .int, 2) := by decide +kernel
theorem dX8_init_117 : decode cX8_init 117 = .ok (.putfield 51, 3) := by decide +kernel
theorem dX8_init_120 : decode cX8_init 120 = .ok (.aload_n 0, 1) := by decide +kernel
theorem dX8_init_121 : decode cX8_init 121 = .ok (.sipush 145, 3) := by decide +kernel
theorem dX8_init_124 : decode cX8_init 124 = .ok (.newarray .int, 2) := by decide +kernel
theorem dX8_init_126 : decode cX8_init 126 = .ok (.putfield 54, 3) := by decide +kernel
theorem dX8_init_129 : decode cX8_init 129 = .ok (.aload_n 0, 1) := by decide +kernel
theorem dX8_init_130 : decode cX8_init 130 = .ok (.iconst 4, 1) := by decide +kernel
theorem dX8_init_131 : decode cX8_init 131 = .ok (.newarray .int, 2) := by decide +kernel
theorem dX8_init_133 : decode cX8_init 133 = .ok (.putfield 57, 3) := by decide +kernel
theorem dX8_init_136 : decode cX8_init 136 = .ok (.aload_n 0, 1) := by decide +kernel
theorem dX8_init_137 : decode cX8_init 137 = .ok (.iconst 4, 1) := by decide +kernel
theorem dX8_init_138 : decode cX8_init 138 = .ok (.newarray .int, 2) := by decide +kernel
theorem dX8_init_140 : decode cX8_init 140 = .ok (.putfield 60, 3) := by decide +kernel
theorem dX8_init_143 : decode cX8_init 143 = .ok (.aload_n 0, 1) := by decide +kernel
theorem dX8_init_144 : decode cX8_init 144 = .ok (.bipush 96, 2) := by decide +kernel
theorem dX8_init_146 : decode cX8_init 146 = .ok (.newarray .int, 2) := by decide +kernel
theorem dX8_init_148 : decode cX8_init 148 = .ok (.putfield 63, 3) := by decide +kernel
theorem dX8_init_151 : decode cX8_init 151 = .ok (.aload_n 0, 1) := by decide +kernel
theorem dX8_init_152 : decode cX8_init 152 = .ok (.bipush 24, 2) := by decide +kernel
theorem dX8_init_154 : decode cX8_init 154 = .ok (.newarray .int, 2) := by decide +kernel
theorem dX8_init_156 : decode cX8_init 156 = .ok (.putfield 66, 3) := by decide +kernel
theorem dX8_init_159 : decode cX8_init 159 = .ok (.iconst 0, 1) := by decide +kernel
theorem dX8_init_160 : decode cX8_init 160 = .ok (.istore_n 1, 1) := by decide +kernel
theorem dX8_init_161 : decode cX8_init 161 = .ok (.iload_n 1, 1) := by decide +kernel
theorem dX8_init_162 : decode cX8_init 162 = .ok (.iconst 4, 1) := by decide +kernel
theorem dX8_init_163 : decode cX8_init 163 = .ok (.if_icmp .ge 16, 3) := by decide +kernel
theorem dX8_init_166 : decode cX8_init 166 = .ok (.aload_n 0, 1) := by decide +kernel
theorem dX8_init_167 : decode cX8_init 167 = .ok (.getfield 57, 3) := by decide +kernel
theorem dX8_init_170 : decode cX8_init 170 = .ok (.iload_n 1, 1) := by decide +kernel
theorem dX8_init_171 : decode cX8_init 171 = .ok (.iconst (-1), 1) := by decide +kernel
theorem dX8_init_172 : decode cX8_init 172 = .ok (.iastore, 1) := by decide +kernel
theorem dX8_init_173 : decode cX8_init 173 = .ok (.iinc 1 1, 3) := by decide +kernel
theorem dX8_init_176 : decode cX8_init 176 = .ok (.goto (-15), 3) := by decide +kernel
theorem dX8_init_179 : decode cX8_init 179 = .ok (.aload_n 0, 1) := by decide +kernel
theorem dX8_init_180 : decode cX8_init 180 = .ok (.getfield 16, 3) := by decide +kernel
theorem dX8_init_183 : decode cX8_init 183 = .ok (.iconst 4, 1) := by decide +kernel
theorem dX8_init_184 : decode cX8_init 184 = .ok (.iconst 5, 1) := by decide +kernel
theorem dX8_init_185 : decode cX8_init 185 = .ok (.iastore, 1) := by decide +kernel
theorem dX8_init_186 : decode cX8_init 186 = .ok (.return_, 1) := by decide +kernel
theorem dX8_isMile_0 : decode cX8_isMile 0 = .ok (.iload_n 1, 1) := by decide +kernel
theorem dX8_isMile_1 : decode cX8_isMile 1 = .ok (.i2l, 1) := by decide +kernel
theorem dX8_isMile_2 : decode cX8_isMile 2 = .ok (.lconst 0, 1) := by decide +kernel
theorem dX8_isMile_3 : decode cX8_isMile 3 = .ok (.aload_n 0, 1) := by decide +kernel
theorem dX8_isMile_4 : decode cX8_isMile 4 = .ok (.getfield 69, 3) := by decide +kernel
theorem dX8_isMile_7 : decode cX8_isMile 7 = .ok (.iconst 1, 1) := by decide +kernel
theorem dX8_isMile_8 : decode cX8_isMile 8 = .ok (.isub, 1) := by decide +kernel
theorem dX8_isMile_9 : decode cX8_isMile 9 = .ok (.i2l, 1) := by decide +kernel
theorem dX8_isMile_10 : decode cX8_isMile 10 = .ok (.invokestatic 73, 3) := by decide +kernel
theorem dX8_isMile_13 : decode cX8_isMile 13 = .ok (.ireturn, 1) := by decide +kernel
theorem dX8_isShip_0 : decode cX8_isShip 0 = .ok (.iload_n 1, 1) := by decide +kernel
theorem dX8_isShip_1 : decode cX8_isShip 1 = .ok (.i2l, 1) := by decide +kernel
theorem dX8_isShip_2 : decode cX8_isShip 2 = .ok (.lconst 0, 1) := by decide +kernel
theorem dX8_isShip_3 : decode cX8_isShip 3 = .ok (.aload_n 0, 1) := by decide +kernel
theorem dX8_isShip_4 : decode cX8_isShip 4 = .ok (.getfield 77, 3) := by decide +kernel
theorem dX8_isShip_7 : decode cX8_isShip 7 = .ok (.iconst 1, 1) := by decide +kernel
theorem dX8_isShip_8 : decode cX8_isShip 8 = .ok (.isub, 1) := by decide +kernel
theorem dX8_isShip_9 : decode cX8_isShip 9 = .ok (.i2l, 1) := by decide +kernel
theorem dX8_isShip_10 : decode cX8_isShip 10 = .ok (.invokestatic 73, 3) := by decide +kernel
theorem dX8_isShip_13 : decode cX8_isShip 13 = .ok (.ireturn, 1) := by decide +kernel
theorem dX8_isPace_0 : decode cX8_isPace 0 = .ok (.iload_n 0, 1) := by decide +kernel
theorem dX8_isPace_1 : decode cX8_isPace 1 = .ok (.i2l, 1) := by decide +kernel
theorem dX8_isPace_2 : decode cX8_isPace 2 = .ok (.lconst 1, 1) := by decide +kernel
theorem dX8_isPace_3 : decode cX8_isPace 3 = .ok (.ldc2_w 80, 3) := by decide +kernel
theorem dX8_isPace_6 : decode cX8_isPace 6 = .ok (.invokestatic 73, 3) := by decide +kernel
theorem dX8_isPace_9 : decode cX8_isPace 9 = .ok (.ireturn, 1) := by decide +kernel
theorem dX8_isStart_0 : decode cX8_isStart 0 = .ok (.iload_n 0, 1) := by decide +kernel
theorem dX8_isStart_1 : decode cX8_isStart 1 = .ok (.i2l, 1) := by decide +kernel
theorem dX8_isStart_2 : decode cX8_isStart 2 = .ok (.lconst 0, 1) := by decide +kernel
theorem dX8_isStart_3 : decode cX8_isStart 3 = .ok (.ldc2_w 82, 3) := by decide +kernel
theorem dX8_isStart_6 : decode cX8_isStart 6 = .ok (.invokestatic 73, 3) := by decide +kernel
theorem dX8_isStart_9 : decode cX8_isStart 9 = .ok (.ireturn, 1) := by decide +kernel
theorem dX8_isPart_0 : decode cX8_isPart 0 = .ok (.iload_n 0, 1) := by decide +kernel
theorem dX8_isPart_1 : decode cX8_isPart 1 = .ok (.tableswitch 75 0 3 #[31, 43, 55, 65], 31) := by decide +kernel
theorem dX8_isPart_32 : decode cX8_isPart 32 = .ok (.iload_n 1, 1) := by decide +kernel
theorem dX8_isPart_33 : decode cX8_isPart 33 = .ok (.i2l, 1) := by decide +kernel
theorem dX8_isPart_34 : decode cX8_isPart 34 = .ok (.ldc2_w 84, 3) := by decide +kernel
theorem dX8_isPart_37 : decode cX8_isPart 37 = .ok (.ldc2_w 86, 3) := by decide +kernel
theorem dX8_isPart_40 : decode cX8_isPart 40 = .ok (.invokestatic 73, 3) := by decide +kernel
theorem dX8_isPart_43 : decode cX8_isPart 43 = .ok (.ireturn, 1) := by decide +kernel
theorem dX8_isPart_44 : decode cX8_isPart 44 = .ok (.iload_n 1, 1) := by decide +kernel
theorem dX8_isPart_45 : decode cX8_isPart 45 = .ok (.i2l, 1) := by decide +kernel
theorem dX8_isPart_46 : decode cX8_isPart 46 = .ok (.ldc2_w 88, 3) := by decide +kernel
theorem dX8_isPart_49 : decode cX8_isPart 49 = .ok (.ldc2_w 90, 3) := by decide +kernel
theorem dX8_isPart_52 : decode cX8_isPart 52 = .ok (.invokestatic 73, 3) := by decide +kernel
theorem dX8_isPart_55 : decode cX8_isPart 55 = .ok (.ireturn, 1) := by decide +kernel
theorem dX8_isPart_56 : decode cX8_isPart 56 = .ok (.iload_n 1, 1) := by decide +kernel
theorem dX8_isPart_57 : decode cX8_isPart 57 = .ok (.i2l, 1) := by decide +kernel
theorem dX8_isPart_58 : decode cX8_isPart 58 = .ok (.lconst 0, 1) := by decide +kernel
theorem dX8_isPart_59 : decode cX8_isPart 59 = .ok (.ldc2_w 92, 3) := by decide +kernel
theorem dX8_isPart_62 : decode cX8_isPart 62 = .ok (.invokestatic 73, 3) := by decide +kernel
theorem dX8_isPart_65 : decode cX8_isPart 65 = .ok (.ireturn, 1) := by decide +kernel
theorem dX8_isPart_66 : decode cX8_isPart 66 = .ok (.iload_n 1, 1) := by decide +kernel
theorem dX8_isPart_67 : decode cX8_isPart 67 = .ok (.i2l, 1) := by decide +kernel
theorem dX8_isPart_68 : decode cX8_isPart 68 = .ok (.lconst 0, 1) := by decide +kernel
theorem dX8_isPart_69 : decode cX8_isPart 69 = .ok (.ldc2_w 84, 3) := by decide +kernel
theorem dX8_isPart_72 : decode cX8_isPart 72 = .ok (.invokestatic 73, 3) := by decide +kernel
theorem dX8_isPart_75 : decode cX8_isPart 75 = .ok (.ireturn, 1) := by decide +kernel
theorem dX8_isPart_76 : decode cX8_isPart 76 = .ok (.iload_n 0, 1) := by decide +kernel
theorem dX8_isPart_77 : decode cX8_isPart 77 = .ok (.iconst 4, 1) := by decide +kernel
theorem dX8_isPart_78 : decode cX8_isPart 78 = .ok (.if_icmp .ne 19, 3) := by decide +kernel
theorem dX8_isPart_81 : decode cX8_isPart 81 = .ok (.iload_n 1, 1) := by decide +kernel
theorem dX8_isPart_82 : decode cX8_isPart 82 = .ok (.i2l, 1) := by decide +kernel
theorem dX8_isPart_83 : decode cX8_isPart 83 = .ok (.lconst 0, 1) := by decide +kernel
theorem dX8_isPart_84 : decode cX8_isPart 84 = .ok (.ldc2_w 94, 3) := by decide +kernel
theorem dX8_isPart_87 : decode cX8_isPart 87 = .ok (.invokestatic 73, 3) := by decide +kernel
theorem dX8_isPart_90 : decode cX8_isPart 90 = .ok (.ifCond .eq 7, 3) := by decide +kernel
theorem dX8_isPart_93 : decode cX8_isPart 93 = .ok (.iconst 1, 1) := by decide +kernel
theorem dX8_isPart_94 : decode cX8_isPart 94 = .ok (.goto 4, 3) := by decide +kernel
theorem dX8_isPart_97 : decode cX8_isPart 97 = .ok (.iconst 0, 1) := by decide +kernel
theorem dX8_isPart_98 : decode cX8_isPart 98 = .ok (.ireturn, 1) := by decide +kernel
theorem dX8_mileIs_0 : decode cX8_mileIs 0 = .ok (.aload_n 0, 1) := by decide +kernel
theorem dX8_mileIs_1 : decode cX8_mileIs 1 = .ok (.getfield 7, 3) := by decide +kernel
theorem dX8_mileIs_4 : decode cX8_mileIs 4 = .ok (.bipush 6, 2) := by decide +kernel
theorem dX8_mileIs_6 : decode cX8_mileIs 6 = .ok (.iload_n 1, 1) := by decide +kernel
theorem dX8_mileIs_7 : decode cX8_mileIs 7 = .ok (.imul, 1) := by decide +kernel
theorem dX8_mileIs_8 : decode cX8_mileIs 8 = .ok (.iload_n 2, 1) := by decide +kernel
theorem dX8_mileIs_9 : decode cX8_mileIs 9 = .ok (.iastore, 1) := by decide +kernel
theorem dX8_mileIs_10 : decode cX8_mileIs 10 = .ok (.aload_n 0, 1) := by decide +kernel
theorem dX8_mileIs_11 : decode cX8_mileIs 11 = .ok (.getfield 7, 3) := by decide +kernel
theorem dX8_mileIs_14 : decode cX8_mileIs 14 = .ok (.bipush 6, 2) := by decide +kernel
theorem dX8_mileIs_16 : decode cX8_mileIs 16 = .ok (.iload_n 1, 1) := by decide +kernel
theorem dX8_mileIs_17 : decode cX8_mileIs 17 = .ok (.imul, 1) := by decide +kernel
theorem dX8_mileIs_18 : decode cX8_mileIs 18 = .ok (.iconst 1, 1) := by decide +kernel
theorem dX8_mileIs_19 : decode cX8_mileIs 19 = .ok (.iadd, 1) := by decide +kernel
theorem dX8_mileIs_20 : decode cX8_mileIs 20 = .ok (.iload_n 3, 1) := by decide +kernel
theorem dX8_mileIs_21 : decode cX8_mileIs 21 = .ok (.iastore, 1) := by decide +kernel
theorem dX8_mileIs_22 : decode cX8_mileIs 22 = .ok (.aload_n 0, 1) := by decide +kernel
theorem dX8_mileIs_23 : decode cX8_mileIs 23 = .ok (.getfield 7, 3) := by decide +kernel
theorem dX8_mileIs_26 : decode cX8_mileIs 26 = .ok (.bipush 6, 2) := by decide +kernel
theorem dX8_mileIs_28 : decode cX8_mileIs 28 = .ok (.iload_n 1, 1) := by decide +kernel
theorem dX8_mileIs_29 : decode cX8_mileIs 29 = .ok (.imul, 1) := by decide +kernel
theorem dX8_mileIs_30 : decode cX8_mileIs 30 = .ok (.iconst 2, 1) := by decide +kernel
theorem dX8_mileIs_31 : decode cX8_mileIs 31 = .ok (.iadd, 1) := by decide +kernel
theorem dX8_mileIs_32 : decode cX8_mileIs 32 = .ok (.iload 4, 2) := by decide +kernel
theorem dX8_mileIs_34 : decode cX8_mileIs 34 = .ok (.iastore, 1) := by decide +kernel
theorem dX8_mileIs_35 : decode cX8_mileIs 35 = .ok (.aload_n 0, 1) := by decide +kernel
theorem dX8_mileIs_36 : decode cX8_mileIs 36 = .ok (.getfield 7, 3) := by decide +kernel
theorem dX8_mileIs_39 : decode cX8_mileIs 39 = .ok (.bipush 6, 2) := by decide +kernel
theorem dX8_mileIs_41 : decode cX8_mileIs 41 = .ok (.iload_n 1, 1) := by decide +kernel
theorem dX8_mileIs_42 : decode cX8_mileIs 42 = .ok (.imul, 1) := by decide +kernel
theorem dX8_mileIs_43 : decode cX8_mileIs 43 = .ok (.iconst 3, 1) := by decide +kernel
theorem dX8_mileIs_44 : decode cX8_mileIs 44 = .ok (.iadd, 1) := by decide +kernel
theorem dX8_mileIs_45 : decode cX8_mileIs 45 = .ok (.iload 5, 2) := by decide +kernel
theorem dX8_mileIs_47 : decode cX8_mileIs 47 = .ok (.iastore, 1) := by decide +kernel
theorem dX8_mileIs_48 : decode cX8_mileIs 48 = .ok (.aload_n 0, 1) := by decide +kernel
theorem dX8_mileIs_49 : decode cX8_mileIs 49 = .ok (.getfield 7, 3) := by decide +kernel
theorem dX8_mileIs_52 : decode cX8_mileIs 52 = .ok (.bipush 6, 2) := by decide +kernel
theorem dX8_mileIs_54 : decode cX8_mileIs 54 = .ok (.iload_n 1, 1) := by decide +kernel
theorem dX8_mileIs_55 : decode cX8_mileIs 55 = .ok (.imul, 1) := by decide +kernel
theorem dX8_mileIs_56 : decode cX8_mileIs 56 = .ok (.iconst 4, 1) := by decide +kernel
theorem dX8_mileIs_57 : decode cX8_mileIs 57 = .ok (.iadd, 1) := by decide +kernel
theorem dX8_mileIs_58 : decode cX8_mileIs 58 = .ok (.iload 6, 2) := by decide +kernel
theorem dX8_mileIs_60 : decode cX8_mileIs 60 = .ok (.iastore, 1) := by decide +kernel
theorem dX8_mileIs_61 : decode cX8_mileIs 61 = .ok (.aload_n 0, 1) := by decide +kernel
theorem dX8_mileIs_62 : decode cX8_mileIs 62 = .ok (.getfield 7, 3) := by decide +kernel
theorem dX8_mileIs_65 : decode cX8_mileIs 65 = .ok (.bipush 6, 2) := by decide +kernel
theorem dX8_mileIs_67 : decode cX8_mileIs 67 = .ok (.iload_n 1, 1) := by decide +kernel
theorem dX8_mileIs_68 : decode cX8_mileIs 68 = .ok (.imul, 1) := by decide +kernel
theorem dX8_mileIs_69 : decode cX8_mileIs 69 = .ok (.iconst 5, 1) := by decide +kernel
theorem dX8_mileIs_70 : decode cX8_mileIs 70 = .ok (.iadd, 1) := by decide +kernel
theorem dX8_mileIs_71 : decode cX8_mileIs 71 = .ok (.bipush 8, 2) := by decide +kernel
theorem dX8_mileIs_73 : decode cX8_mileIs 73 = .ok (.iastore, 1) := by decide +kernel
theorem dX8_mileIs_74 : decode cX8_mileIs 74 = .ok (.return_, 1) := by decide +kernel
theorem dX8_mile_0 : decode cX8_mile 0 = .ok (.iconst 0, 1) := by decide +kernel
theorem dX8_mile_1 : decode cX8_mile 1 = .ok (.iload_n 1, 1) := by decide +kernel
theorem dX8_mile_2 : decode cX8_mile 2 = .ok (.invokestatic 96, 3) := by decide +kernel
theorem dX8_mile_5 : decode cX8_mile 5 = .ok (.ifCond .eq 11, 3) := by decide +kernel
theorem dX8_mile_8 : decode cX8_mile 8 = .ok (.iconst 1, 1) := by decide +kernel
theorem dX8_mile_9 : decode cX8_mile 9 = .ok (.iload_n 2, 1) := by decide +kernel
theorem dX8_mile_10 : decode cX8_mile 10 = .ok (.invokestatic 96, 3) := by decide +kernel
theorem dX8_mile_13 : decode cX8_mile 13 = .ok (.ifCond .ne 5, 3) := by decide +kernel
theorem dX8_mile_16 : decode cX8_mile 16 = .ok (.iconst (-1), 1) := by decide +kernel
theorem dX8_mile_17 : decode cX8_mile 17 = .ok (.ireturn, 1) := by decide +kernel
theorem dX8_mile_18 : decode cX8_mile 18 = .ok (.aload_n 0, 1) := by decide +kernel
theorem dX8_mile_19 : decode cX8_mile 19 = .ok (.getfield 69, 3) := by decide +kernel
theorem dX8_mile_22 : decode cX8_mile 22 = .ok (.bipush 16, 2) := by decide +kernel
theorem dX8_mile_24 : decode cX8_mile 24 = .ok (.if_icmp .ne 6, 3) := by decide +kernel
theorem dX8_mile_27 : decode cX8_mile 27 = .ok (.bipush (-3), 2) := by decide +kernel
theorem dX8_mile_29 : decode cX8_mile 29 = .ok (.ireturn, 1) := by decide +kernel
theorem dX8_mile_30 : decode cX8_mile 30 = .ok (.aload_n 0, 1) := by decide +kernel
theorem dX8_mile_31 : decode cX8_mile 31 = .ok (.aload_n 0, 1) := by decide +kernel
theorem dX8_mile_32 : decode cX8_mile 32 = .ok (.getfield 69, 3) := by decide +kernel
theorem dX8_mile_35 : decode cX8_mile 35 = .ok (.iload_n 1, 1) := by decide +kernel
theorem dX8_mile_36 : decode cX8_mile 36 = .ok (.iload_n 2, 1) := by decide +kernel
theorem dX8_mile_37 : decode cX8_mile 37 = .ok (.bipush 9, 2) := by decide +kernel
theorem dX8_mile_39 : decode cX8_mile 39 = .ok (.iconst 0, 1) := by decide +kernel
theorem dX8_mile_40 : decode cX8_mile 40 = .ok (.iconst 0, 1) := by decide +kernel
theorem dX8_mile_41 : decode cX8_mile 41 = .ok (.invokevirtual 100, 3) := by decide +kernel
theorem dX8_mile_44 : decode cX8_mile 44 = .ok (.aload_n 0, 1) := by decide +kernel
theorem dX8_mile_45 : decode cX8_mile 45 = .ok (.dup, 1) := by decide +kernel
theorem dX8_mile_46 : decode cX8_mile 46 = .ok (.getfield 69, 3) := by decide +kernel
theorem dX8_mile_49 : decode cX8_mile 49 = .ok (.iconst 1, 1) := by decide +kernel
theorem dX8_mile_50 : decode cX8_mile 50 = .ok (.iadd, 1) := by decide +kernel
theorem dX8_mile_51 : decode cX8_mile 51 = .ok (.putfield 69, 3) := by decide +kernel
theorem dX8_mile_54 : decode cX8_mile 54 = .ok (.aload_n 0, 1) := by decide +kernel
theorem dX8_mile_55 : decode cX8_mile 55 = .ok (.getfield 69, 3) := by decide +kernel
theorem dX8_mile_58 : decode cX8_mile 58 = .ok (.iconst 1, 1) := by decide +kernel
theorem dX8_mile_59 : decode cX8_mile 59 = .ok (.isub, 1) := by decide +kernel
theorem dX8_mile_60 : decode cX8_mile 60 = .ok (.ireturn, 1) := by decide +kernel
theorem dX8_make_0 : decode cX8_make 0 = .ok (.aload_n 0, 1) := by decide +kernel
theorem dX8_make_1 : decode cX8_make 1 = .ok (.iload_n 1, 1) := by decide +kernel
theorem dX8_make_2 : decode cX8_make 2 = .ok (.invokevirtual 104, 3) := by decide +kernel
theorem dX8_make_5 : decode cX8_make 5 = .ok (.ifCond .eq 11, 3) := by decide +kernel
theorem dX8_make_8 : decode cX8_make 8 = .ok (.iload_n 2, 1) := by decide +kernel
theorem dX8_make_9 : decode cX8_make 9 = .ok (.iload_n 3, 1) := by decide +kernel
theorem dX8_make_10 : decode cX8_make 10 = .ok (.invokestatic 96, 3) := by decide +kernel
theorem dX8_make_13 : decode cX8_make 13 = .ok (.ifCond .ne 5, 3) := by decide +kernel
theorem dX8_make_16 : decode cX8_make 16 = .ok (.iconst (-1), 1) := by decide +kernel
theorem dX8_make_17 : decode cX8_make 17 = .ok (.ireturn, 1) := by decide +kernel
theorem dX8_make_18 : decode cX8_make 18 = .ok (.aload_n 0, 1) := by decide +kernel
theorem dX8_make_19 : decode cX8_make 19 = .ok (.getfield 7, 3) := by decide +kernel
theorem dX8_make_22 : decode cX8_make 22 = .ok (.bipush 6, 2) := by decide +kernel
theorem dX8_make_24 : decode cX8_make 24 = .ok (.iload_n 1, 1) := by decide +kernel
theorem dX8_make_25 : decode cX8_make 25 = .ok (.imul, 1) := by decide +kernel
theorem dX8_make_26 : decode cX8_make 26 = .ok (.iload_n 2, 1) := by decide +kernel
theorem dX8_make_27 : decode cX8_make 27 = .ok (.iadd, 1) := by decide +kernel
theorem dX8_make_28 : decode cX8_make 28 = .ok (.iaload, 1) := by decide +kernel
theorem dX8_make_29 : decode cX8_make 29 = .ok (.istore 4, 2) := by decide +kernel
theorem dX8_make_31 : decode cX8_make 31 = .ok (.aload_n 0, 1) := by decide +kernel
theorem dX8_make_32 : decode cX8_make 32 = .ok (.getfield 7, 3) := by decide +kernel
theorem dX8_make_35 : decode cX8_make 35 = .ok (.bipush 6, 2) := by decide +kernel
theorem dX8_make_37 : decode cX8_make 37 = .ok (.iload_n 1, 1) := by decide +kernel
theorem dX8_make_38 : decode cX8_make 38 = .ok (.imul, 1) := by decide +kernel
theorem dX8_make_39 : decode cX8_make 39 = .ok (.iload_n 2, 1) := by decide +kernel
theorem dX8_make_40 : decode cX8_make 40 = .ok (.iadd, 1) := by decide +kernel
theorem dX8_make_41 : decode cX8_make 41 = .ok (.iload_n 3, 1) := by decide +kernel
theorem dX8_make_42 : decode cX8_make 42 = .ok (.iastore, 1) := by decide +kernel
theorem dX8_make_43 : decode cX8_make 43 = .ok (.iload 4, 2) := by decide +kernel
theorem dX8_make_45 : decode cX8_make 45 = .ok (.ireturn, 1) := by decide +kernel
theorem dX8_told_0 : decode cX8_told 0 = .ok (.aload_n 0, 1) := by decide +kernel
theorem dX8_told_1 : decode cX8_told 1 = .ok (.iload_n 1, 1) := by decide +kernel
theorem dX8_told_2 : decode cX8_told 2 = .ok (.invokevirtual 104, 3) := by decide +kernel
theorem dX8_told_5 : decode cX8_told 5 = .ok (.ifCond .eq 29, 3) := by decide +kernel
theorem dX8_told_8 : decode cX8_told 8 = .ok (.iload_n 2, 1) := by decide +kernel
theorem dX8_told_9 : decode cX8_told 9 = .ok (.i2l, 1) := by decide +kernel
theorem dX8_told_10 : decode cX8_told 10 = .ok (.lconst 0, 1) := by decide +kernel
theorem dX8_told_11 : decode cX8_told 11 = .ok (.ldc2_w 108, 3) := by decide +kernel
theorem dX8_told_14 : decode cX8_told 14 = .ok (.invokestatic 73, 3) := by decide +kernel
theorem dX8_told_17 : decode cX8_told 17 = .ok (.ifCond .eq 17, 3) := by decide +kernel
theorem dX8_told_20 : decode cX8_told 20 = .ok (.aload_n 0, 1) := by decide +kernel
theorem dX8_told_21 : decode cX8_told 21 = .ok (.getfield 7, 3) := by decide +kernel
theorem dX8_told_24 : decode cX8_told 24 = .ok (.bipush 6, 2) := by decide +kernel
theorem dX8_told_26 : decode cX8_told 26 = .ok (.iload_n 1, 1) := by decide +kernel
theorem dX8_told_27 : decode cX8_told 27 = .ok (.imul, 1) := by decide +kernel
theorem dX8_told_28 : decode cX8_told 28 = .ok (.iload_n 2, 1) := by decide +kernel
theorem dX8_told_29 : decode cX8_told 29 = .ok (.iadd, 1) := by decide +kernel
theorem dX8_told_30 : decode cX8_told 30 = .ok (.iaload, 1) := by decide +kernel
theorem dX8_told_31 : decode cX8_told 31 = .ok (.goto 4, 3) := by decide +kernel
theorem dX8_told_34 : decode cX8_told 34 = .ok (.iconst (-1), 1) := by decide +kernel
theorem dX8_told_35 : decode cX8_told 35 = .ok (.ireturn, 1) := by decide +kernel
theorem dX8_height_0 : decode cX8_height 0 = .ok (.iload_n 1, 1) := by decide +kernel
theorem dX8_height_1 : decode cX8_height 1 = .ok (.i2l, 1) := by decide +kernel
theorem dX8_height_2 : decode cX8_height 2 = .ok (.lconst 0, 1) := by decide +kernel
theorem dX8_height_3 : decode cX8_height 3 = .ok (.ldc2_w 110, 3) := by decide +kernel
theorem dX8_height_6 : decode cX8_height 6 = .ok (.invokestatic 73, 3) := by decide +kernel
theorem dX8_height_9 : decode cX8_height 9 = .ok (.ifCond .eq 15, 3) := by decide +kernel
theorem dX8_height_12 : decode cX8_height 12 = .ok (.iload_n 2, 1) := by decide +kernel
theorem dX8_height_13 : decode cX8_height 13 = .ok (.i2l, 1) := by decide +kernel
theorem dX8_height_14 : decode cX8_height 14 = .ok (.lconst 0, 1) := by decide +kernel
theorem dX8_height_15 : decode cX8_height 15 = .ok (.ldc2_w 90, 3) := by decide +kernel
theorem dX8_height_18 : decode cX8_height 18 = .ok (.invokestatic 73, 3) := by decide +kernel
theorem dX8_height_21 : decode cX8_height 21 = .ok (.ifCond .ne 5, 3) := by decide +kernel
theorem dX8_height_24 : decode cX8_height 24 = .ok (.iconst (-1), 1) := by decide +kernel
theorem dX8_height_25 : decode cX8_height 25 = .ok (.ireturn, 1) := by decide +kernel
theorem dX8_height_26 : decode cX8_height 26 = .ok (.aload_n 0, 1) := by decide +kernel
theorem dX8_height_27 : decode cX8_height 27 = .ok (.getfield 13, 3) := by decide +kernel
theorem dX8_height_30 : decode cX8_height 30 = .ok (.iload_n 1, 1) := by decide +kernel
theorem dX8_height_31 : decode cX8_height 31 = .ok (.iaload, 1) := by decide +kernel
theorem dX8_height_32 : decode cX8_height 32 = .ok (.istore_n 3, 1) := by decide +kernel
theorem dX8_height_33 : decode cX8_height 33 = .ok (.aload_n 0, 1) := by decide +kernel
theorem dX8_height_34 : decode cX8_height 34 = .ok (.getfield 13, 3) := by decide +kernel
theorem dX8_height_37 : decode cX8_height 37 = .ok (.iload_n 1, 1) := by decide +kernel
theorem dX8_height_38 : decode cX8_height 38 = .ok (.iload_n 2, 1) := by decide +kernel
theorem dX8_height_39 : decode cX8_height 39 = .ok (.iastore, 1) := by decide +kernel
theorem dX8_height_40 : decode cX8_height 40 = .ok (.iload_n 3, 1) := by decide +kernel
theorem dX8_height_41 : decode cX8_height 41 = .ok (.ireturn, 1) := by decide +kernel
theorem dX8_isSet_0 : decode cX8_isSet 0 = .ok (.iload_n 0, 1) := by decide +kernel
theorem dX8_isSet_1 : decode cX8_isSet 1 = .ok (.tableswitch 69 0 3 #[31, 41, 51, 61], 31) := by decide +kernel
theorem dX8_isSet_32 : decode cX8_isSet 32 = .ok (.iload_n 1, 1) := by decide +kernel
theorem dX8_isSet_33 : decode cX8_isSet 33 = .ok (.i2l, 1) := by decide +kernel
theorem dX8_isSet_34 : decode cX8_isSet 34 = .ok (.lconst 0, 1) := by decide +kernel
theorem dX8_isSet_35 : decode cX8_isSet 35 = .ok (.ldc2_w 112, 3) := by decide +kernel
theorem dX8_isSet_38 : decode cX8_isSet 38 = .ok (.invokestatic 73, 3) := by decide +kernel
theorem dX8_isSet_41 : decode cX8_isSet 41 = .ok (.ireturn, 1) := by decide +kernel
theorem dX8_isSet_42 : decode cX8_isSet 42 = .ok (.iload_n 1, 1) := by decide +kernel
theorem dX8_isSet_43 : decode cX8_isSet 43 = .ok (.i2l, 1) := by decide +kernel
theorem dX8_isSet_44 : decode cX8_isSet 44 = .ok (.lconst 0, 1) := by decide +kernel
theorem dX8_isSet_45 : decode cX8_isSet 45 = .ok (.ldc2_w 92, 3) := by decide +kernel
theorem dX8_isSet_48 : decode cX8_isSet 48 = .ok (.invokestatic 73, 3) := by decide +kernel
theorem dX8_isSet_51 : decode cX8_isSet 51 = .ok (.ireturn, 1) := by decide +kernel
theorem dX8_isSet_52 : decode cX8_isSet 52 = .ok (.iload_n 1, 1) := by decide +kernel
theorem dX8_isSet_53 : decode cX8_isSet 53 = .ok (.i2l, 1) := by decide +kernel
theorem dX8_isSet_54 : decode cX8_isSet 54 = .ok (.lconst 0, 1) := by decide +kernel
theorem dX8_isSet_55 : decode cX8_isSet 55 = .ok (.ldc2_w 88, 3) := by decide +kernel
theorem dX8_isSet_58 : decode cX8_isSet 58 = .ok (.invokestatic 73, 3) := by decide +kernel
theorem dX8_isSet_61 : decode cX8_isSet 61 = .ok (.ireturn, 1) := by decide +kernel
theorem dX8_isSet_62 : decode cX8_isSet 62 = .ok (.iload_n 1, 1) := by decide +kernel
theorem dX8_isSet_63 : decode cX8_isSet 63 = .ok (.i2l, 1) := by decide +kernel
theorem dX8_isSet_64 : decode cX8_isSet 64 = .ok (.lconst 0, 1) := by decide +kernel
theorem dX8_isSet_65 : decode cX8_isSet 65 = .ok (.lconst 1, 1) := by decide +kernel
theorem dX8_isSet_66 : decode cX8_isSet 66 = .ok (.invokestatic 73, 3) := by decide +kernel
theorem dX8_isSet_69 : decode cX8_isSet 69 = .ok (.ireturn, 1) := by decide +kernel
theorem dX8_isSet_70 : decode cX8_isSet 70 = .ok (.iload_n 0, 1) := by decide +kernel
theorem dX8_isSet_71 : decode cX8_isSet 71 = .ok (.iconst 4, 1) := by decide +kernel
theorem dX8_isSet_72 : decode cX8_isSet 72 = .ok (.if_icmp .ne 19, 3) := by decide +kernel
theorem dX8_isSet_75 : decode cX8_isSet 75 = .ok (.iload_n 1, 1) := by decide +kernel
theorem dX8_isSet_76 : decode cX8_isSet 76 = .ok (.i2l, 1) := by decide +kernel
theorem dX8_isSet_77 : decode cX8_isSet 77 = .ok (.lconst 0, 1) := by decide +kernel
theorem dX8_isSet_78 : decode cX8_isSet 78 = .ok (.ldc2_w 90, 3) := by decide +kernel
theorem dX8_isSet_81 : decode cX8_isSet 81 = .ok (.invokestatic 73, 3) := by decide +kernel
theorem dX8_isSet_84 : decode cX8_isSet 84 = .ok (.ifCond .eq 7, 3) := by decide +kernel
theorem dX8_isSet_87 : decode cX8_isSet 87 = .ok (.iconst 1, 1) := by decide +kernel
theorem dX8_isSet_88 : decode cX8_isSet 88 = .ok (.goto 4, 3) := by decide +kernel
theorem dX8_isSet_91 : decode cX8_isSet 91 = .ok (.iconst 0, 1) := by decide +kernel
theorem dX8_isSet_92 : decode cX8_isSet 92 = .ok (.ireturn, 1) := by decide +kernel
theorem dX8_set_0 : decode cX8_set 0 = .ok (.iload_n 1, 1) := by decide +kernel
theorem dX8_set_1 : decode cX8_set 1 = .ok (.iload_n 2, 1) := by decide +kernel
theorem dX8_set_2 : decode cX8_set 2 = .ok (.invokestatic 114, 3) := by decide +kernel
theorem dX8_set_5 : decode cX8_set 5 = .ok (.ifCond .ne 5, 3) := by decide +kernel
theorem dX8_set_8 : decode cX8_set 8 = .ok (.iconst (-1), 1) := by decide +kernel
theorem dX8_set_9 : decode cX8_set 9 = .ok (.ireturn, 1) := by decide +kernel
theorem dX8_set_10 : decode cX8_set 10 = .ok (.aload_n 0, 1) := by decide +kernel
theorem dX8_set_11 : decode cX8_set 11 = .ok (.getfield 16, 3) := by decide +kernel
theorem dX8_set_14 : decode cX8_set 14 = .ok (.iload_n 1, 1) := by decide +kernel
theorem dX8_set_15 : decode cX8_set 15 = .ok (.iaload, 1) := by decide +kernel
theorem dX8_set_16 : decode cX8_set 16 = .ok (.istore_n 3, 1) := by decide +kernel
theorem dX8_set_17 : decode cX8_set 17 = .ok (.aload_n 0, 1) := by decide +kernel
theorem dX8_set_18 : decode cX8_set 18 = .ok (.getfield 16, 3) := by decide +kernel
theorem dX8_set_21 : decode cX8_set 21 = .ok (.iload_n 1, 1) := by decide +kernel
theorem dX8_set_22 : decode cX8_set 22 = .ok (.iload_n 2, 1) := by decide +kernel
theorem dX8_set_23 : decode cX8_set 23 = .ok (.iastore, 1) := by decide +kernel
theorem dX8_set_24 : decode cX8_set 24 = .ok (.iload_n 3, 1) := by decide +kernel
theorem dX8_set_25 : decode cX8_set 25 = .ok (.ireturn, 1) := by decide +kernel
theorem dX8_ship_0 : decode cX8_ship 0 = .ok (.iload_n 1, 1) := by decide +kernel
theorem dX8_ship_1 : decode cX8_ship 1 = .ok (.i2l, 1) := by decide +kernel
theorem dX8_ship_2 : decode cX8_ship 2 = .ok (.ldc2_w 84, 3) := by decide +kernel
theorem dX8_ship_5 : decode cX8_ship 5 = .ok (.ldc2_w 117, 3) := by decide +kernel
theorem dX8_ship_8 : decode cX8_ship 8 = .ok (.invokestatic 73, 3) := by decide +kernel
theorem dX8_ship_11 : decode cX8_ship 11 = .ok (.ifCond .eq 27, 3) := by decide +kernel
theorem dX8_ship_14 : decode cX8_ship 14 = .ok (.iload_n 2, 1) := by decide +kernel
theorem dX8_ship_15 : decode cX8_ship 15 = .ok (.i2l, 1) := by decide +kernel
theorem dX8_ship_16 : decode cX8_ship 16 = .ok (.lconst 1, 1) := by decide +kernel
theorem dX8_ship_17 : decode cX8_ship 17 = .ok (.ldc2_w 94, 3) := by decide +kernel
theorem dX8_ship_20 : decode cX8_ship 20 = .ok (.invokestatic 73, 3) := by decide +kernel
theorem dX8_ship_23 : decode cX8_ship 23 = .ok (.ifCond .eq 15, 3) := by decide +kernel
theorem dX8_ship_26 : decode cX8_ship 26 = .ok (.iload_n 3, 1) := by decide +kernel
theorem dX8_ship_27 : decode cX8_ship 27 = .ok (.i2l, 1) := by decide +kernel
theorem dX8_ship_28 : decode cX8_ship 28 = .ok (.lconst 1, 1) := by decide +kernel
theorem dX8_ship_29 : decode cX8_ship 29 = .ok (.ldc2_w 90, 3) := by decide +kernel
theorem dX8_ship_32 : decode cX8_ship 32 = .ok (.invokestatic 73, 3) := by decide +kernel
theorem dX8_ship_35 : decode cX8_ship 35 = .ok (.ifCond .ne 5, 3) := by decide +kernel
theorem dX8_ship_38 : decode cX8_ship 38 = .ok (.iconst (-1), 1) := by decide +kernel
theorem dX8_ship_39 : decode cX8_ship 39 = .ok (.ireturn, 1) := by decide +kernel
theorem dX8_ship_40 : decode cX8_ship 40 = .ok (.aload_n 0, 1) := by decide +kernel
theorem dX8_ship_41 : decode cX8_ship 41 = .ok (.getfield 77, 3) := by decide +kernel
theorem dX8_ship_44 : decode cX8_ship 44 = .ok (.bipush 6, 2) := by decide +kernel
theorem dX8_ship_46 : decode cX8_ship 46 = .ok (.if_icmp .ne 6, 3) := by decide +kernel
theorem dX8_ship_49 : decode cX8_ship 49 = .ok (.bipush (-3), 2) := by decide +kernel
theorem dX8_ship_51 : decode cX8_ship 51 = .ok (.ireturn, 1) := by decide +kernel
theorem dX8_ship_52 : decode cX8_ship 52 = .ok (.aload_n 0, 1) := by decide +kernel
theorem dX8_ship_53 : decode cX8_ship 53 = .ok (.getfield 19, 3) := by decide +kernel
theorem dX8_ship_56 : decode cX8_ship 56 = .ok (.iconst 3, 1) := by decide +kernel
theorem dX8_ship_57 : decode cX8_ship 57 = .ok (.aload_n 0, 1) := by decide +kernel
theorem dX8_ship_58 : decode cX8_ship 58 = .ok (.getfield 77, 3) := by decide +kernel
theorem dX8_ship_61 : decode cX8_ship 61 = .ok (.imul, 1) := by decide +kernel
theorem dX8_ship_62 : decode cX8_ship 62 = .ok (.iload_n 1, 1) := by decide +kernel
theorem dX8_ship_63 : decode cX8_ship 63 = .ok (.iastore, 1) := by decide +kernel
theorem dX8_ship_64 : decode cX8_ship 64 = .ok (.aload_n 0, 1) := by decide +kernel
theorem dX8_ship_65 : decode cX8_ship 65 = .ok (.getfield 19, 3) := by decide +kernel
theorem dX8_ship_68 : decode cX8_ship 68 = .ok (.iconst 3, 1) := by decide +kernel
theorem dX8_ship_69 : decode cX8_ship 69 = .ok (.aload_n 0, 1) := by decide +kernel
theorem dX8_ship_70 : decode cX8_ship 70 = .ok (.getfield 77, 3) := by decide +kernel
theorem dX8_ship_73 : decode cX8_ship 73 = .ok (.imul, 1) := by decide +kernel
theorem dX8_ship_74 : decode cX8_ship 74 = .ok (.iconst 1, 1) := by decide +kernel
theorem dX8_ship_75 : decode cX8_ship 75 = .ok (.iadd, 1) := by decide +kernel
theorem dX8_ship_76 : decode cX8_ship 76 = .ok (.iload_n 2, 1) := by decide +kernel
theorem dX8_ship_77 : decode cX8_ship 77 = .ok (.iastore, 1) := by decide +kernel
theorem dX8_ship_78 : decode cX8_ship 78 = .ok (.aload_n 0, 1) := by decide +kernel
theorem dX8_ship_79 : decode cX8_ship 79 = .ok (.getfield 19, 3) := by decide +kernel
theorem dX8_ship_82 : decode cX8_ship 82 = .ok (.iconst 3, 1) := by decide +kernel
theorem dX8_ship_83 : decode cX8_ship 83 = .ok (.aload_n 0, 1) := by decide +kernel
theorem dX8_ship_84 : decode cX8_ship 84 = .ok (.getfield 77, 3) := by decide +kernel
theorem dX8_ship_87 : decode cX8_ship 87 = .ok (.imul, 1) := by decide +kernel
theorem dX8_ship_88 : decode cX8_ship 88 = .ok (.iconst 2, 1) := by decide +kernel
theorem dX8_ship_89 : decode cX8_ship 89 = .ok (.iadd, 1) := by decide +kernel
theorem dX8_ship_90 : decode cX8_ship 90 = .ok (.iload_n 3, 1) := by decide +kernel
theorem dX8_ship_91 : decode cX8_ship 91 = .ok (.iastore, 1) := by decide +kernel
theorem dX8_ship_92 : decode cX8_ship 92 = .ok (.aload_n 0, 1) := by decide +kernel
theorem dX8_ship_93 : decode cX8_ship 93 = .ok (.dup, 1) := by decide +kernel
theorem dX8_ship_94 : decode cX8_ship 94 = .ok (.getfield 77, 3) := by decide +kernel
theorem dX8_ship_97 : decode cX8_ship 97 = .ok (.iconst 1, 1) := by decide +kernel
theorem dX8_ship_98 : decode cX8_ship 98 = .ok (.iadd, 1) := by decide +kernel
theorem dX8_ship_99 : decode cX8_ship 99 = .ok (.putfield 77, 3) := by decide +kernel
theorem dX8_ship_102 : decode cX8_ship 102 = .ok (.aload_n 0, 1) := by decide +kernel
theorem dX8_ship_103 : decode cX8_ship 103 = .ok (.getfield 77, 3) := by decide +kernel
theorem dX8_ship_106 : decode cX8_ship 106 = .ok (.iconst 1, 1) := by decide +kernel
theorem dX8_ship_107 : decode cX8_ship 107 = .ok (.isub, 1) := by decide +kernel
theorem dX8_ship_108 : decode cX8_ship 108 = .ok (.ireturn, 1) := by decide +kernel
theorem dX8_pace_0 : decode cX8_pace 0 = .ok (.aload_n 0, 1) := by decide +kernel
theorem dX8_pace_1 : decode cX8_pace 1 = .ok (.iload_n 1, 1) := by decide +kernel
theorem dX8_pace_2 : decode cX8_pace 2 = .ok (.invokevirtual 104, 3) := by decide +kernel
theorem dX8_pace_5 : decode cX8_pace 5 = .ok (.ifCond .eq 10, 3) := by decide +kernel
theorem dX8_pace_8 : decode cX8_pace 8 = .ok (.iload_n 2, 1) := by decide +kernel
theorem dX8_pace_9 : decode cX8_pace 9 = .ok (.invokestatic 119, 3) := by decide +kernel
theorem dX8_pace_12 : decode cX8_pace 12 = .ok (.ifCond .ne 5, 3) := by decide +kernel
theorem dX8_pace_15 : decode cX8_pace 15 = .ok (.iconst (-1), 1) := by decide +kernel
theorem dX8_pace_16 : decode cX8_pace 16 = .ok (.ireturn, 1) := by decide +kernel
theorem dX8_pace_17 : decode cX8_pace 17 = .ok (.aload_n 0, 1) := by decide +kernel
theorem dX8_pace_18 : decode cX8_pace 18 = .ok (.getfield 7, 3) := by decide +kernel
theorem dX8_pace_21 : decode cX8_pace 21 = .ok (.bipush 6, 2) := by decide +kernel
theorem dX8_pace_23 : decode cX8_pace 23 = .ok (.iload_n 1, 1) := by decide +kernel
theorem dX8_pace_24 : decode cX8_pace 24 = .ok (.imul, 1) := by decide +kernel
theorem dX8_pace_25 : decode cX8_pace 25 = .ok (.iconst 5, 1) := by decide +kernel
theorem dX8_pace_26 : decode cX8_pace 26 = .ok (.iadd, 1) := by decide +kernel
theorem dX8_pace_27 : decode cX8_pace 27 = .ok (.iaload, 1) := by decide +kernel
theorem dX8_pace_28 : decode cX8_pace 28 = .ok (.istore_n 3, 1) := by decide +kernel
theorem dX8_pace_29 : decode cX8_pace 29 = .ok (.aload_n 0, 1) := by decide +kernel
theorem dX8_pace_30 : decode cX8_pace 30 = .ok (.getfield 7, 3) := by decide +kernel
theorem dX8_pace_33 : decode cX8_pace 33 = .ok (.bipush 6, 2) := by decide +kernel
theorem dX8_pace_35 : decode cX8_pace 35 = .ok (.iload_n 1, 1) := by decide +kernel
theorem dX8_pace_36 : decode cX8_pace 36 = .ok (.imul, 1) := by decide +kernel
theorem dX8_pace_37 : decode cX8_pace 37 = .ok (.iconst 5, 1) := by decide +kernel
theorem dX8_pace_38 : decode cX8_pace 38 = .ok (.iadd, 1) := by decide +kernel
theorem dX8_pace_39 : decode cX8_pace 39 = .ok (.iload_n 2, 1) := by decide +kernel
theorem dX8_pace_40 : decode cX8_pace 40 = .ok (.iastore, 1) := by decide +kernel
theorem dX8_pace_41 : decode cX8_pace 41 = .ok (.iload_n 3, 1) := by decide +kernel
theorem dX8_pace_42 : decode cX8_pace 42 = .ok (.ireturn, 1) := by decide +kernel
theorem dX8_type_0 : decode cX8_type 0 = .ok (.iload_n 3, 1) := by decide +kernel
theorem dX8_type_1 : decode cX8_type 1 = .ok (.i2l, 1) := by decide +kernel
theorem dX8_type_2 : decode cX8_type 2 = .ok (.lconst 1, 1) := by decide +kernel
theorem dX8_type_3 : decode cX8_type 3 = .ok (.ldc2_w 122, 3) := by decide +kernel
theorem dX8_type_6 : decode cX8_type 6 = .ok (.invokestatic 73, 3) := by decide +kernel
theorem dX8_type_9 : decode cX8_type 9 = .ok (.ifCond .ne 5, 3) := by decide +kernel
theorem dX8_type_12 : decode cX8_type 12 = .ok (.iconst (-1), 1) := by decide +kernel
theorem dX8_type_13 : decode cX8_type 13 = .ok (.ireturn, 1) := by decide +kernel
theorem dX8_type_14 : decode cX8_type 14 = .ok (.iconst 0, 1) := by decide +kernel
theorem dX8_type_15 : decode cX8_type 15 = .ok (.istore 4, 2) := by decide +kernel
theorem dX8_type_17 : decode cX8_type 17 = .ok (.iload 4, 2) := by decide +kernel
theorem dX8_type_19 : decode cX8_type 19 = .ok (.iload_n 3, 1) := by decide +kernel
theorem dX8_type_20 : decode cX8_type 20 = .ok (.if_icmp .ge 34, 3) := by decide +kernel
theorem dX8_type_23 : decode cX8_type 23 = .ok (.lload_n 1, 1) := by decide +kernel
theorem dX8_type_24 : decode cX8_type 24 = .ok (.bipush 8, 2) := by decide +kernel
theorem dX8_type_26 : decode cX8_type 26 = .ok (.iload 4, 2) := by decide +kernel
theorem dX8_type_28 : decode cX8_type 28 = .ok (.imul, 1) := by decide +kernel
theorem dX8_type_29 : decode cX8_type 29 = .ok (.lshr, 1) := by decide +kernel
theorem dX8_type_30 : decode cX8_type 30 = .ok (.ldc2_w 124, 3) := by decide +kernel
theorem dX8_type_33 : decode cX8_type 33 = .ok (.land, 1) := by decide +kernel
theorem dX8_type_34 : decode cX8_type 34 = .ok (.ldc2_w 126, 3) := by decide +kernel
theorem dX8_type_37 : decode cX8_type 37 = .ok (.ldc2_w 128, 3) := by decide +kernel
theorem dX8_type_40 : decode cX8_type 40 = .ok (.invokestatic 73, 3) := by decide +kernel
theorem dX8_type_43 : decode cX8_type 43 = .ok (.ifCond .ne 5, 3) := by decide +kernel
theorem dX8_type_46 : decode cX8_type 46 = .ok (.iconst (-1), 1) := by decide +kernel
theorem dX8_type_47 : decode cX8_type 47 = .ok (.ireturn, 1) := by decide +kernel
theorem dX8_type_48 : decode cX8_type 48 = .ok (.iinc 4 1, 3) := by decide +kernel
theorem dX8_type_51 : decode cX8_type 51 = .ok (.goto (-34), 3) := by decide +kernel
theorem dX8_type_54 : decode cX8_type 54 = .ok (.aload_n 0, 1) := by decide +kernel
theorem dX8_type_55 : decode cX8_type 55 = .ok (.getfield 130, 3) := by decide +kernel
theorem dX8_type_58 : decode cX8_type 58 = .ok (.iload_n 3, 1) := by decide +kernel
theorem dX8_type_59 : decode cX8_type 59 = .ok (.iadd, 1) := by decide +kernel
theorem dX8_type_60 : decode cX8_type 60 = .ok (.bipush 100, 2) := by decide +kernel
theorem dX8_type_62 : decode cX8_type 62 = .ok (.if_icmp .le 6, 3) := by decide +kernel
theorem dX8_type_65 : decode cX8_type 65 = .ok (.bipush (-3), 2) := by decide +kernel
theorem dX8_type_67 : decode cX8_type 67 = .ok (.ireturn, 1) := by decide +kernel
theorem dX8_type_68 : decode cX8_type 68 = .ok (.iload_n 3, 1) := by decide +kernel
theorem dX8_type_69 : decode cX8_type 69 = .ok (.iconst 1, 1) := by decide +kernel
theorem dX8_type_70 : decode cX8_type 70 = .ok (.isub, 1) := by decide +kernel
theorem dX8_type_71 : decode cX8_type 71 = .ok (.istore 4, 2) := by decide +kernel
theorem dX8_type_73 : decode cX8_type 73 = .ok (.iload 4, 2) := by decide +kernel
theorem dX8_type_75 : decode cX8_type 75 = .ok (.ifCond .lt 40, 3) := by decide +kernel
theorem dX8_type_78 : decode cX8_type 78 = .ok (.aload_n 0, 1) := by decide +kernel
theorem dX8_type_79 : decode cX8_type 79 = .ok (.getfield 22, 3) := by decide +kernel
theorem dX8_type_82 : decode cX8_type 82 = .ok (.aload_n 0, 1) := by decide +kernel
theorem dX8_type_83 : decode cX8_type 83 = .ok (.getfield 130, 3) := by decide +kernel
theorem dX8_type_86 : decode cX8_type 86 = .ok (.lload_n 1, 1) := by decide +kernel
theorem dX8_type_87 : decode cX8_type 87 = .ok (.bipush 8, 2) := by decide +kernel
theorem dX8_type_89 : decode cX8_type 89 = .ok (.iload 4, 2) := by decide +kernel
theorem dX8_type_91 : decode cX8_type 91 = .ok (.imul, 1) := by decide +kernel
theorem dX8_type_92 : decode cX8_type 92 = .ok (.lshr, 1) := by decide +kernel
theorem dX8_type_93 : decode cX8_type 93 = .ok (.ldc2_w 124, 3) := by decide +kernel
theorem dX8_type_96 : decode cX8_type 96 = .ok (.land, 1) := by decide +kernel
theorem dX8_type_97 : decode cX8_type 97 = .ok (.l2i, 1) := by decide +kernel
theorem dX8_type_98 : decode cX8_type 98 = .ok (.iastore, 1) := by decide +kernel
theorem dX8_type_99 : decode cX8_type 99 = .ok (.aload_n 0, 1) := by decide +kernel
theorem dX8_type_100 : decode cX8_type 100 = .ok (.dup, 1) := by decide +kernel
theorem dX8_type_101 : decode cX8_type 101 = .ok (.getfield 130, 3) := by decide +kernel
theorem dX8_type_104 : decode cX8_type 104 = .ok (.iconst 1, 1) := by decide +kernel
theorem dX8_type_105 : decode cX8_type 105 = .ok (.iadd, 1) := by decide +kernel
theorem dX8_type_106 : decode cX8_type 106 = .ok (.putfield 130, 3) := by decide +kernel
theorem dX8_type_109 : decode cX8_type 109 = .ok (.iinc 4 (-1), 3) := by decide +kernel
theorem dX8_type_112 : decode cX8_type 112 = .ok (.goto (-39), 3) := by decide +kernel
theorem dX8_type_115 : decode cX8_type 115 = .ok (.aload_n 0, 1) := by decide +kernel
theorem dX8_type_116 : decode cX8_type 116 = .ok (.getfield 130, 3) := by decide +kernel
theorem dX8_type_119 : decode cX8_type 119 = .ok (.ireturn, 1) := by decide +kernel
theorem dX8_here_0 : decode cX8_here 0 = .ok (.aload_n 0, 1) := by decide +kernel
theorem dX8_here_1 : decode cX8_here 1 = .ok (.getfield 133, 3) := by decide +kernel
theorem dX8_here_4 : decode cX8_here 4 = .ok (.aload_n 0, 1) := by decide +kernel
theorem dX8_here_5 : decode cX8_here 5 = .ok (.getfield 130, 3) := by decide +kernel
theorem dX8_here_8 : decode cX8_here 8 = .ok (.if_icmp .ge 30, 3) := by decide +kernel
theorem dX8_here_11 : decode cX8_here 11 = .ok (.aload_n 0, 1) := by decide +kernel
theorem dX8_here_12 : decode cX8_here 12 = .ok (.getfield 22, 3) := by decide +kernel
theorem dX8_here_15 : decode cX8_here 15 = .ok (.aload_n 0, 1) := by decide +kernel
theorem dX8_here_16 : decode cX8_here 16 = .ok (.getfield 133, 3) := by decide +kernel
theorem dX8_here_19 : decode cX8_here 19 = .ok (.iaload, 1) := by decide +kernel
theorem dX8_here_20 : decode cX8_here 20 = .ok (.bipush 32, 2) := by decide +kernel
theorem dX8_here_22 : decode cX8_here 22 = .ok (.if_icmp .ne 16, 3) := by decide +kernel
theorem dX8_here_25 : decode cX8_here 25 = .ok (.aload_n 0, 1) := by decide +kernel
theorem dX8_here_26 : decode cX8_here 26 = .ok (.dup, 1) := by decide +kernel
theorem dX8_here_27 : decode cX8_here 27 = .ok (.getfield 133, 3) := by decide +kernel
theorem dX8_here_30 : decode cX8_here 30 = .ok (.iconst 1, 1) := by decide +kernel
theorem dX8_here_31 : decode cX8_here 31 = .ok (.iadd, 1) := by decide +kernel
theorem dX8_here_32 : decode cX8_here 32 = .ok (.putfield 133, 3) := by decide +kernel
theorem dX8_here_35 : decode cX8_here 35 = .ok (.goto (-35), 3) := by decide +kernel
theorem dX8_here_38 : decode cX8_here 38 = .ok (.aload_n 0, 1) := by decide +kernel
theorem dX8_here_39 : decode cX8_here 39 = .ok (.getfield 133, 3) := by decide +kernel
theorem dX8_here_42 : decode cX8_here 42 = .ok (.aload_n 0, 1) := by decide +kernel
theorem dX8_here_43 : decode cX8_here 43 = .ok (.getfield 130, 3) := by decide +kernel
theorem dX8_here_46 : decode cX8_here 46 = .ok (.if_icmp .ge 15, 3) := by decide +kernel
theorem dX8_here_49 : decode cX8_here 49 = .ok (.aload_n 0, 1) := by decide +kernel
theorem dX8_here_50 : decode cX8_here 50 = .ok (.getfield 22, 3) := by decide +kernel
theorem dX8_here_53 : decode cX8_here 53 = .ok (.aload_n 0, 1) := by decide +kernel
theorem dX8_here_54 : decode cX8_here 54 = .ok (.getfield 133, 3) := by decide +kernel
theorem dX8_here_57 : decode cX8_here 57 = .ok (.iaload, 1) := by decide +kernel
theorem dX8_here_58 : decode cX8_here 58 = .ok (.goto 4, 3) := by decide +kernel
theorem dX8_here_61 : decode cX8_here 61 = .ok (.iconst 0, 1) := by decide +kernel
theorem dX8_here_62 : decode cX8_here 62 = .ok (.ireturn, 1) := by decide +kernel
theorem dX8_has_0 : decode cX8_has 0 = .ok (.aload_n 0, 1) := by decide +kernel
theorem dX8_has_1 : decode cX8_has 1 = .ok (.getfield 136, 3) := by decide +kernel
theorem dX8_has_4 : decode cX8_has 4 = .ok (.ifCond .ne 15, 3) := by decide +kernel
theorem dX8_has_7 : decode cX8_has 7 = .ok (.aload_n 0, 1) := by decide +kernel
theorem dX8_has_8 : decode cX8_has 8 = .ok (.invokevirtual 140, 3) := by decide +kernel
theorem dX8_has_11 : decode cX8_has 11 = .ok (.iload_n 1, 1) := by decide +kernel
theorem dX8_has_12 : decode cX8_has 12 = .ok (.if_icmp .ne 7, 3) := by decide +kernel
theorem dX8_has_15 : decode cX8_has 15 = .ok (.iconst 1, 1) := by decide +kernel
theorem dX8_has_16 : decode cX8_has 16 = .ok (.goto 4, 3) := by decide +kernel
theorem dX8_has_19 : decode cX8_has 19 = .ok (.iconst 0, 1) := by decide +kernel
theorem dX8_has_20 : decode cX8_has 20 = .ok (.istore_n 2, 1) := by decide +kernel
theorem dX8_has_21 : decode cX8_has 21 = .ok (.aload_n 0, 1) := by decide +kernel
theorem dX8_has_22 : decode cX8_has 22 = .ok (.dup, 1) := by decide +kernel
theorem dX8_has_23 : decode cX8_has 23 = .ok (.getfield 133, 3) := by decide +kernel
theorem dX8_has_26 : decode cX8_has 26 = .ok (.iload_n 2, 1) := by decide +kernel
theorem dX8_has_27 : decode cX8_has 27 = .ok (.ifCond .eq 7, 3) := by decide +kernel
theorem dX8_has_30 : decode cX8_has 30 = .ok (.iconst 1, 1) := by decide +kernel
theorem dX8_has_31 : decode cX8_has 31 = .ok (.goto 4, 3) := by decide +kernel
theorem dX8_has_34 : decode cX8_has 34 = .ok (.iconst 0, 1) := by decide +kernel
theorem dX8_has_35 : decode cX8_has 35 = .ok (.iadd, 1) := by decide +kernel
theorem dX8_has_36 : decode cX8_has 36 = .ok (.putfield 133, 3) := by decide +kernel
theorem dX8_has_39 : decode cX8_has 39 = .ok (.iload_n 2, 1) := by decide +kernel
theorem dX8_has_40 : decode cX8_has 40 = .ok (.ireturn, 1) := by decide +kernel
theorem dX8_number_0 : decode cX8_number 0 = .ok (.aload_n 0, 1) := by decide +kernel
theorem dX8_number_1 : decode cX8_number 1 = .ok (.getfield 136, 3) := by decide +kernel
theorem dX8_number_4 : decode cX8_number 4 = .ok (.ifCond .ne 20, 3) := by decide +kernel
theorem dX8_number_7 : decode cX8_number 7 = .ok (.aload_n 0, 1) := by decide +kernel
theorem dX8_number_8 : decode cX8_number 8 = .ok (.invokevirtual 140, 3) := by decide +kernel
theorem dX8_number_11 : decode cX8_number 11 = .ok (.i2l, 1) := by decide +kernel
theorem dX8_number_12 : decode cX8_number 12 = .ok (.ldc2_w 144, 3) := by decide +kernel
theorem dX8_number_15 : decode cX8_number 15 = .ok (.ldc2_w 146, 3) := by decide +kernel
theorem dX8_number_18 : decode cX8_number 18 = .ok (.invokestatic 73, 3) := by decide +kernel
theorem dX8_number_21 : decode cX8_number 21 = .ok (.ifCond .ne 10, 3) := by decide +kernel
theorem dX8_number_24 : decode cX8_number 24 = .ok (.aload_n 0, 1) := by decide +kernel
theorem dX8_number_25 : decode cX8_number 25 = .ok (.iconst 1, 1) := by decide +kernel
theorem dX8_number_26 : decode cX8_number 26 = .ok (.putfield 136, 3) := by decide +kernel
theorem dX8_number_29 : decode cX8_number 29 = .ok (.iconst 0, 1) := by decide +kernel
theorem dX8_number_30 : decode cX8_number 30 = .ok (.ireturn, 1) := by decide +kernel
theorem dX8_number_31 : decode cX8_number 31 = .ok (.aload_n 0, 1) := by decide +kernel
theorem dX8_number_32 : decode cX8_number 32 = .ok (.getfield 133, 3) := by decide +kernel
theorem dX8_number_35 : decode cX8_number 35 = .ok (.istore_n 3, 1) := by decide +kernel
theorem dX8_number_36 : decode cX8_number 36 = .ok (.iconst 0, 1) := by decide +kernel
theorem dX8_number_37 : decode cX8_number 37 = .ok (.istore 4, 2) := by decide +kernel
theorem dX8_number_39 : decode cX8_number 39 = .ok (.aload_n 0, 1) := by decide +kernel
theorem dX8_number_40 : decode cX8_number 40 = .ok (.getfield 133, 3) := by decide +kernel
theorem dX8_number_43 : decode cX8_number 43 = .ok (.aload_n 0, 1) := by decide +kernel
theorem dX8_number_44 : decode cX8_number 44 = .ok (.getfield 130, 3) := by decide +kernel
theorem dX8_number_47 : decode cX8_number 47 = .ok (.if_icmp .ge 71, 3) := by decide +kernel
theorem dX8_number_50 : decode cX8_number 50 = .ok (.aload_n 0, 1) := by decide +kernel
theorem dX8_number_51 : decode cX8_number 51 = .ok (.getfield 22, 3) := by decide +kernel
theorem dX8_number_54 : decode cX8_number 54 = .ok (.aload_n 0, 1) := by decide +kernel
theorem dX8_number_55 : decode cX8_number 55 = .ok (.getfield 133, 3) := by decide +kernel
theorem dX8_number_58 : decode cX8_number 58 = .ok (.iaload, 1) := by decide +kernel
theorem dX8_number_59 : decode cX8_number 59 = .ok (.i2l, 1) := by decide +kernel
theorem dX8_number_60 : decode cX8_number 60 = .ok (.ldc2_w 144, 3) := by decide +kernel
theorem dX8_number_63 : decode cX8_number 63 = .ok (.ldc2_w 146, 3) := by decide +kernel
theorem dX8_number_66 : decode cX8_number 66 = .ok (.invokestatic 73, 3) := by decide +kernel
theorem dX8_number_69 : decode cX8_number 69 = .ok (.ifCond .eq 49, 3) := by decide +kernel
theorem dX8_number_72 : decode cX8_number 72 = .ok (.iload 4, 2) := by decide +kernel
theorem dX8_number_74 : decode cX8_number 74 = .ok (.sipush 999, 3) := by decide +kernel
theorem dX8_number_77 : decode cX8_number 77 = .ok (.if_icmp .le 8, 3) := by decide +kernel
theorem dX8_number_80 : decode cX8_number 80 = .ok (.iload 4, 2) := by decide +kernel
theorem dX8_number_82 : decode cX8_number 82 = .ok (.goto 21, 3) := by decide +kernel
theorem dX8_number_85 : decode cX8_number 85 = .ok (.bipush 10, 2) := by decide +kernel
theorem dX8_number_87 : decode cX8_number 87 = .ok (.iload 4, 2) := by decide +kernel
theorem dX8_number_89 : decode cX8_number 89 = .ok (.imul, 1) := by decide +kernel
theorem dX8_number_90 : decode cX8_number 90 = .ok (.aload_n 0, 1) := by decide +kernel
theorem dX8_number_91 : decode cX8_number 91 = .ok (.getfield 22, 3) := by decide +kernel
theorem dX8_number_94 : decode cX8_number 94 = .ok (.aload_n 0, 1) := by decide +kernel
theorem dX8_number_95 : decode cX8_number 95 = .ok (.getfield 133, 3) := by decide +kernel
theorem dX8_number_98 : decode cX8_number 98 = .ok (.iaload, 1) := by decide +kernel
theorem dX8_number_99 : decode cX8_number 99 = .ok (.iadd, 1) := by decide +kernel
theorem dX8_number_100 : decode cX8_number 100 = .ok (.bipush 48, 2) := by decide +kernel
theorem dX8_number_102 : decode cX8_number 102 = .ok (.isub, 1) := by decide +kernel
theorem dX8_number_103 : decode cX8_number 103 = .ok (.istore 4, 2) := by decide +kernel
theorem dX8_number_105 : decode cX8_number 105 = .ok (.aload_n 0, 1) := by decide +kernel
theorem dX8_number_106 : decode cX8_number 106 = .ok (.dup, 1) := by decide +kernel
theorem dX8_number_107 : decode cX8_number 107 = .ok (.getfield 133, 3) := by decide +kernel
theorem dX8_number_110 : decode cX8_number 110 = .ok (.iconst 1, 1) := by decide +kernel
theorem dX8_number_111 : decode cX8_number 111 = .ok (.iadd, 1) := by decide +kernel
theorem dX8_number_112 : decode cX8_number 112 = .ok (.putfield 133, 3) := by decide +kernel
theorem dX8_number_115 : decode cX8_number 115 = .ok (.goto (-76), 3) := by decide +kernel
theorem dX8_number_118 : decode cX8_number 118 = .ok (.aload_n 0, 1) := by decide +kernel
theorem dX8_number_119 : decode cX8_number 119 = .ok (.iload 4, 2) := by decide +kernel
theorem dX8_number_121 : decode cX8_number 121 = .ok (.i2l, 1) := by decide +kernel
theorem dX8_number_122 : decode cX8_number 122 = .ok (.iload_n 1, 1) := by decide +kernel
theorem dX8_number_123 : decode cX8_number 123 = .ok (.i2l, 1) := by decide +kernel
theorem dX8_number_124 : decode cX8_number 124 = .ok (.iload_n 2, 1) := by decide +kernel
theorem dX8_number_125 : decode cX8_number 125 = .ok (.i2l, 1) := by decide +kernel
theorem dX8_number_126 : decode cX8_number 126 = .ok (.invokestatic 73, 3) := by decide +kernel
theorem dX8_number_129 : decode cX8_number 129 = .ok (.ifCond .ne 7, 3) := by decide +kernel
theorem dX8_number_132 : decode cX8_number 132 = .ok (.iconst 1, 1) := by decide +kernel
theorem dX8_number_133 : decode cX8_number 133 = .ok (.goto 4, 3) := by decide +kernel
theorem dX8_number_136 : decode cX8_number 136 = .ok (.iconst 0, 1) := by decide +kernel
theorem dX8_number_137 : decode cX8_number 137 = .ok (.putfield 136, 3) := by decide +kernel
theorem dX8_number_140 : decode cX8_number 140 = .ok (.aload_n 0, 1) := by decide +kernel
theorem dX8_number_141 : decode cX8_number 141 = .ok (.aload_n 0, 1) := by decide +kernel
theorem dX8_number_142 : decode cX8_number 142 = .ok (.getfield 136, 3) := by decide +kernel
theorem dX8_number_145 : decode cX8_number 145 = .ok (.ifCond .eq 7, 3) := by decide +kernel
theorem dX8_number_148 : decode cX8_number 148 = .ok (.iload_n 3, 1) := by decide +kernel
theorem dX8_number_149 : decode cX8_number 149 = .ok (.goto 7, 3) := by decide +kernel
theorem dX8_number_152 : decode cX8_number 152 = .ok (.aload_n 0, 1) := by decide +kernel
theorem dX8_number_153 : decode cX8_number 153 = .ok (.getfield 133, 3) := by decide +kernel
theorem dX8_number_156 : decode cX8_number 156 = .ok (.putfield 133, 3) := by decide +kernel
theorem dX8_number_159 : decode cX8_number 159 = .ok (.iload 4, 2) := by decide +kernel
theorem dX8_number_161 : decode cX8_number 161 = .ok (.ireturn, 1) := by decide +kernel
theorem dX8_digit_0 : decode cX8_digit 0 = .ok (.aload_n 0, 1) := by decide +kernel
theorem dX8_digit_1 : decode cX8_digit 1 = .ok (.aload_n 0, 1) := by decide +kernel
theorem dX8_digit_2 : decode cX8_digit 2 = .ok (.getfield 136, 3) := by decide +kernel
theorem dX8_digit_5 : decode cX8_digit 5 = .ok (.ifCond .ne 20, 3) := by decide +kernel
theorem dX8_digit_8 : decode cX8_digit 8 = .ok (.aload_n 0, 1) := by decide +kernel
theorem dX8_digit_9 : decode cX8_digit 9 = .ok (.invokevirtual 140, 3) := by decide +kernel
theorem dX8_digit_12 : decode cX8_digit 12 = .ok (.i2l, 1) := by decide +kernel
theorem dX8_digit_13 : decode cX8_digit 13 = .ok (.ldc2_w 144, 3) := by decide +kernel
theorem dX8_digit_16 : decode cX8_digit 16 = .ok (.ldc2_w 146, 3) := by decide +kernel
theorem dX8_digit_19 : decode cX8_digit 19 = .ok (.invokestatic 73, 3) := by decide +kernel
theorem dX8_digit_22 : decode cX8_digit 22 = .ok (.ifCond .ne 7, 3) := by decide +kernel
theorem dX8_digit_25 : decode cX8_digit 25 = .ok (.iconst 1, 1) := by decide +kernel
theorem dX8_digit_26 : decode cX8_digit 26 = .ok (.goto 4, 3) := by decide +kernel
theorem dX8_digit_29 : decode cX8_digit 29 = .ok (.iconst 0, 1) := by decide +kernel
theorem dX8_digit_30 : decode cX8_digit 30 = .ok (.putfield 136, 3) := by decide +kernel
theorem dX8_digit_33 : decode cX8_digit 33 = .ok (.aload_n 0, 1) := by decide +kernel
theorem dX8_digit_34 : decode cX8_digit 34 = .ok (.getfield 136, 3) := by decide +kernel
theorem dX8_digit_37 : decode cX8_digit 37 = .ok (.ifCond .eq 7, 3) := by decide +kernel
theorem dX8_digit_40 : decode cX8_digit 40 = .ok (.iconst 0, 1) := by decide +kernel
theorem dX8_digit_41 : decode cX8_digit 41 = .ok (.goto 10, 3) := by decide +kernel
theorem dX8_digit_44 : decode cX8_digit 44 = .ok (.aload_n 0, 1) := by decide +kernel
theorem dX8_digit_45 : decode cX8_digit 45 = .ok (.invokevirtual 140, 3) := by decide +kernel
theorem dX8_digit_48 : decode cX8_digit 48 = .ok (.bipush 48, 2) := by decide +kernel
theorem dX8_digit_50 : decode cX8_digit 50 = .ok (.isub, 1) := by decide +kernel
theorem dX8_digit_51 : decode cX8_digit 51 = .ok (.istore_n 1, 1) := by decide +kernel
theorem dX8_digit_52 : decode cX8_digit 52 = .ok (.aload_n 0, 1) := by decide +kernel
theorem dX8_digit_53 : decode cX8_digit 53 = .ok (.dup, 1) := by decide +kernel
theorem dX8_digit_54 : decode cX8_digit 54 = .ok (.getfield 133, 3) := by decide +kernel
theorem dX8_digit_57 : decode cX8_digit 57 = .ok (.aload_n 0, 1) := by decide +kernel
theorem dX8_digit_58 : decode cX8_digit 58 = .ok (.getfield 136, 3) := by decide +kernel
theorem dX8_digit_61 : decode cX8_digit 61 = .ok (.ifCond .eq 7, 3) := by decide +kernel
theorem dX8_digit_64 : decode cX8_digit 64 = .ok (.iconst 0, 1) := by decide +kernel
theorem dX8_digit_65 : decode cX8_digit 65 = .ok (.goto 4, 3) := by decide +kernel
theorem dX8_digit_68 : decode cX8_digit 68 = .ok (.iconst 1, 1) := by decide +kernel
theorem dX8_digit_69 : decode cX8_digit 69 = .ok (.iadd, 1) := by decide +kernel
theorem dX8_digit_70 : decode cX8_digit 70 = .ok (.putfield 133, 3) := by decide +kernel
theorem dX8_digit_73 : decode cX8_digit 73 = .ok (.iload_n 1, 1) := by decide +kernel
theorem dX8_digit_74 : decode cX8_digit 74 = .ok (.ireturn, 1) := by decide +kernel
theorem dX8_mileClause_0 : decode cX8_mileClause 0 = .ok (.aload_n 0, 1) := by decide +kernel
theorem dX8_mileClause_1 : decode cX8_mileClause 1 = .ok (.getfield 25, 3) := by decide +kernel
theorem dX8_mileClause_4 : decode cX8_mileClause 4 = .ok (.iload_n 1, 1) := by decide +kernel
theorem dX8_mileClause_5 : decode cX8_mileClause 5 = .ok (.aload_n 0, 1) := by decide +kernel
theorem dX8_mileClause_6 : decode cX8_mileClause 6 = .ok (.bipush 20, 2) := by decide +kernel
theorem dX8_mileClause_8 : decode cX8_mileClause 8 = .ok (.sipush 250, 3) := by decide +kernel
theorem dX8_mileClause_11 : decode cX8_mileClause 11 = .ok (.invokevirtual 148, 3) := by decide +kernel
theorem dX8_mileClause_14 : decode cX8_mileClause 14 = .ok (.iastore, 1) := by decide +kernel
theorem dX8_mileClause_15 : decode cX8_mileClause 15 = .ok (.aload_n 0, 1) := by decide +kernel
theorem dX8_mileClause_16 : decode cX8_mileClause 16 = .ok (.aload_n 0, 1) := by decide +kernel
theorem dX8_mileClause_17 : decode cX8_mileClause 17 = .ok (.bipush 119, 2) := by decide +kernel
theorem dX8_mileClause_19 : decode cX8_mileClause 19 = .ok (.invokevirtual 152, 3) := by decide +kernel
theorem dX8_mileClause_22 : decode cX8_mileClause 22 = .ok (.ifCond .ne 7, 3) := by decide +kernel
theorem dX8_mileClause_25 : decode cX8_mileClause 25 = .ok (.iconst 1, 1) := by decide +kernel
theorem dX8_mileClause_26 : decode cX8_mileClause 26 = .ok (.goto 4, 3) := by decide +kernel
theorem dX8_mileClause_29 : decode cX8_mileClause 29 = .ok (.iconst 0, 1) := by decide +kernel
theorem dX8_mileClause_30 : decode cX8_mileClause 30 = .ok (.putfield 136, 3) := by decide +kernel
theorem dX8_mileClause_33 : decode cX8_mileClause 33 = .ok (.aload_n 0, 1) := by decide +kernel
theorem dX8_mileClause_34 : decode cX8_mileClause 34 = .ok (.getfield 25, 3) := by decide +kernel
theorem dX8_mileClause_37 : decode cX8_mileClause 37 = .ok (.iload_n 1, 1) := by decide +kernel
theorem dX8_mileClause_38 : decode cX8_mileClause 38 = .ok (.iconst 1, 1) := by decide +kernel
theorem dX8_mileClause_39 : decode cX8_mileClause 39 = .ok (.iadd, 1) := by decide +kernel
theorem dX8_mileClause_40 : decode cX8_mileClause 40 = .ok (.aload_n 0, 1) := by decide +kernel
theorem dX8_mileClause_41 : decode cX8_mileClause 41 = .ok (.bipush 10, 2) := by decide +kernel
theorem dX8_mileClause_43 : decode cX8_mileClause 43 = .ok (.bipush 99, 2) := by decide +kernel
theorem dX8_mileClause_45 : decode cX8_mileClause 45 = .ok (.invokevirtual 148, 3) := by decide +kernel
theorem dX8_mileClause_48 : decode cX8_mileClause 48 = .ok (.iastore, 1) := by decide +kernel
theorem dX8_mileClause_49 : decode cX8_mileClause 49 = .ok (.aload_n 0, 1) := by decide +kernel
theorem dX8_mileClause_50 : decode cX8_mileClause 50 = .ok (.getfield 25, 3) := by decide +kernel
theorem dX8_mileClause_53 : decode cX8_mileClause 53 = .ok (.iload_n 1, 1) := by decide +kernel
theorem dX8_mileClause_54 : decode cX8_mileClause 54 = .ok (.iconst 2, 1) := by decide +kernel
theorem dX8_mileClause_55 : decode cX8_mileClause 55 = .ok (.iadd, 1) := by decide +kernel
theorem dX8_mileClause_56 : decode cX8_mileClause 56 = .ok (.aload_n 0, 1) := by decide +kernel
theorem dX8_mileClause_57 : decode cX8_mileClause 57 = .ok (.bipush 115, 2) := by decide +kernel
theorem dX8_mileClause_59 : decode cX8_mileClause 59 = .ok (.invokevirtual 152, 3) := by decide +kernel
theorem dX8_mileClause_62 : decode cX8_mileClause 62 = .ok (.ifCond .eq 10, 3) := by decide +kernel
theorem dX8_mileClause_65 : decode cX8_mileClause 65 = .ok (.aload_n 0, 1) := by decide +kernel
theorem dX8_mileClause_66 : decode cX8_mileClause 66 = .ok (.invokevirtual 155, 3) := by decide +kernel
theorem dX8_mileClause_69 : decode cX8_mileClause 69 = .ok (.goto 5, 3) := by decide +kernel
theorem dX8_mileClause_72 : decode cX8_mileClause 72 = .ok (.bipush 9, 2) := by decide +kernel
theorem dX8_mileClause_74 : decode cX8_mileClause 74 = .ok (.iastore, 1) := by decide +kernel
theorem dX8_mileClause_75 : decode cX8_mileClause 75 = .ok (.aload_n 0, 1) := by decide +kernel
theorem dX8_mileClause_76 : decode cX8_mileClause 76 = .ok (.getfield 25, 3) := by decide +kernel
theorem dX8_mileClause_79 : decode cX8_mileClause 79 = .ok (.iload_n 1, 1) := by decide +kernel
theorem dX8_mileClause_80 : decode cX8_mileClause 80 = .ok (.iconst 3, 1) := by decide +kernel
theorem dX8_mileClause_81 : decode cX8_mileClause 81 = .ok (.iadd, 1) := by decide +kernel
theorem dX8_mileClause_82 : decode cX8_mileClause 82 = .ok (.aload_n 0, 1) := by decide +kernel
theorem dX8_mileClause_83 : decode cX8_mileClause 83 = .ok (.bipush 109, 2) := by decide +kernel
theorem dX8_mileClause_85 : decode cX8_mileClause 85 = .ok (.invokevirtual 152, 3) := by decide +kernel
theorem dX8_mileClause_88 : decode cX8_mileClause 88 = .ok (.ifCond .eq 13, 3) := by decide +kernel
theorem dX8_mileClause_91 : decode cX8_mileClause 91 = .ok (.aload_n 0, 1) := by decide +kernel
theorem dX8_mileClause_92 : decode cX8_mileClause 92 = .ok (.iconst 0, 1) := by decide +kernel
theorem dX8_mileClause_93 : decode cX8_mileClause 93 = .ok (.bipush 20, 2) := by decide +kernel
theorem dX8_mileClause_95 : decode cX8_mileClause 95 = .ok (.invokevirtual 148, 3) := by decide +kernel
theorem dX8_mileClause_98 : decode cX8_mileClause 98 = .ok (.goto 4, 3) := by decide +kernel
theorem dX8_mileClause_101 : decode cX8_mileClause 101 = .ok (.iconst 0, 1) := by decide +kernel
theorem dX8_mileClause_102 : decode cX8_mileClause 102 = .ok (.iastore, 1) := by decide +kernel
theorem dX8_mileClause_103 : decode cX8_mileClause 103 = .ok (.aload_n 0, 1) := by decide +kernel
theorem dX8_mileClause_104 : decode cX8_mileClause 104 = .ok (.getfield 25, 3) := by decide +kernel
theorem dX8_mileClause_107 : decode cX8_mileClause 107 = .ok (.iload_n 1, 1) := by decide +kernel
theorem dX8_mileClause_108 : decode cX8_mileClause 108 = .ok (.iconst 4, 1) := by decide +kernel
theorem dX8_mileClause_109 : decode cX8_mileClause 109 = .ok (.iadd, 1) := by decide +kernel
theorem dX8_mileClause_110 : decode cX8_mileClause 110 = .ok (.aload_n 0, 1) := by decide +kernel
theorem dX8_mileClause_111 : decode cX8_mileClause 111 = .ok (.bipush 113, 2) := by decide +kernel
theorem dX8_mileClause_113 : decode cX8_mileClause 113 = .ok (.invokevirtual 152, 3) := by decide +kernel
theorem dX8_mileClause_116 : decode cX8_mileClause 116 = .ok (.ifCond .eq 13, 3) := by decide +kernel
theorem dX8_mileClause_119 : decode cX8_mileClause 119 = .ok (.aload_n 0, 1) := by decide +kernel
theorem dX8_mileClause_120 : decode cX8_mileClause 120 = .ok (.iconst 0, 1) := by decide +kernel
theorem dX8_mileClause_121 : decode cX8_mileClause 121 = .ok (.bipush 40, 2) := by decide +kernel
theorem dX8_mileClause_123 : decode cX8_mileClause 123 = .ok (.invokevirtual 148, 3) := by decide +kernel
theorem dX8_mileClause_126 : decode cX8_mileClause 126 = .ok (.goto 4, 3) := by decide +kernel
theorem dX8_mileClause_129 : decode cX8_mileClause 129 = .ok (.iconst 0, 1) := by decide +kernel
theorem dX8_mileClause_130 : decode cX8_mileClause 130 = .ok (.iastore, 1) := by decide +kernel
theorem dX8_mileClause_131 : decode cX8_mileClause 131 = .ok (.return_, 1) := by decide +kernel
theorem dX8_channel_0 : decode cX8_channel 0 = .ok (.aload_n 0, 1) := by decide +kernel
theorem dX8_channel_1 : decode cX8_channel 1 = .ok (.iconst 0, 1) := by decide +kernel
theorem dX8_channel_2 : decode cX8_channel 2 = .ok (.putfield 133, 3) := by decide +kernel
theorem dX8_channel_5 : decode cX8_channel 5 = .ok (.aload_n 0, 1) := by decide +kernel
theorem dX8_channel_6 : decode cX8_channel 6 = .ok (.iconst 0, 1) := by decide +kernel
theorem dX8_channel_7 : decode cX8_channel 7 = .ok (.putfield 136, 3) := by decide +kernel
theorem dX8_channel_10 : decode cX8_channel 10 = .ok (.iconst 0, 1) := by decide +kernel
theorem dX8_channel_11 : decode cX8_channel 11 = .ok (.istore_n 1, 1) := by decide +kernel
theorem dX8_channel_12 : decode cX8_channel 12 = .ok (.iconst 1, 1) := by decide +kernel
theorem dX8_channel_13 : decode cX8_channel 13 = .ok (.istore_n 2, 1) := by decide +kernel
theorem dX8_channel_14 : decode cX8_channel 14 = .ok (.iload_n 2, 1) := by decide +kernel
theorem dX8_channel_15 : decode cX8_channel 15 = .ok (.ifCond .eq 37, 3) := by decide +kernel
theorem dX8_channel_18 : decode cX8_channel 18 = .ok (.aload_n 0, 1) := by decide +kernel
theorem dX8_channel_19 : decode cX8_channel 19 = .ok (.iconst 5, 1) := by decide +kernel
theorem dX8_channel_20 : decode cX8_channel 20 = .ok (.iload_n 1, 1) := by decide +kernel
theorem dX8_channel_21 : decode cX8_channel 21 = .ok (.imul, 1) := by decide +kernel
theorem dX8_channel_22 : decode cX8_channel 22 = .ok (.invokevirtual 158, 3) := by decide +kernel
theorem dX8_channel_25 : decode cX8_channel 25 = .ok (.iinc 1 1, 3) := by decide +kernel
theorem dX8_channel_28 : decode cX8_channel 28 = .ok (.iload_n 1, 1) := by decide +kernel
theorem dX8_channel_29 : decode cX8_channel 29 = .ok (.bipush 8, 2) := by decide +kernel
theorem dX8_channel_31 : decode cX8_channel 31 = .ok (.if_icmp .ge 16, 3) := by decide +kernel
theorem dX8_channel_34 : decode cX8_channel 34 = .ok (.aload_n 0, 1) := by decide +kernel
theorem dX8_channel_35 : decode cX8_channel 35 = .ok (.bipush 59, 2) := by decide +kernel
theorem dX8_channel_37 : decode cX8_channel 37 = .ok (.invokevirtual 152, 3) := by decide +kernel
theorem dX8_channel_40 : decode cX8_channel 40 = .ok (.ifCond .eq 7, 3) := by decide +kernel
theorem dX8_channel_43 : decode cX8_channel 43 = .ok (.iconst 1, 1) := by decide +kernel
theorem dX8_channel_44 : decode cX8_channel 44 = .ok (.goto 4, 3) := by decide +kernel
theorem dX8_channel_47 : decode cX8_channel 47 = .ok (.iconst 0, 1) := by decide +kernel
theorem dX8_channel_48 : decode cX8_channel 48 = .ok (.istore_n 2, 1) := by decide +kernel
theorem dX8_channel_49 : decode cX8_channel 49 = .ok (.goto (-35), 3) := by decide +kernel
theorem dX8_channel_52 : decode cX8_channel 52 = .ok (.aload_n 0, 1) := by decide +kernel
theorem dX8_channel_53 : decode cX8_channel 53 = .ok (.aload_n 0, 1) := by decide +kernel
theorem dX8_channel_54 : decode cX8_channel 54 = .ok (.getfield 136, 3) := by decide +kernel
theorem dX8_channel_57 : decode cX8_channel 57 = .ok (.ifCond .ne 10, 3) := by decide +kernel
theorem dX8_channel_60 : decode cX8_channel 60 = .ok (.aload_n 0, 1) := by decide +kernel
theorem dX8_channel_61 : decode cX8_channel 61 = .ok (.invokevirtual 140, 3) := by decide +kernel
theorem dX8_channel_64 : decode cX8_channel 64 = .ok (.ifCond .eq 7, 3) := by decide +kernel
theorem dX8_channel_67 : decode cX8_channel 67 = .ok (.iconst 1, 1) := by decide +kernel
theorem dX8_channel_68 : decode cX8_channel 68 = .ok (.goto 4, 3) := by decide +kernel
theorem dX8_channel_71 : decode cX8_channel 71 = .ok (.iconst 0, 1) := by decide +kernel
theorem dX8_channel_72 : decode cX8_channel 72 = .ok (.putfield 136, 3) := by decide +kernel
theorem dX8_channel_75 : decode cX8_channel 75 = .ok (.aload_n 0, 1) := by decide +kernel
theorem dX8_channel_76 : decode cX8_channel 76 = .ok (.iconst 0, 1) := by decide +kernel
theorem dX8_channel_77 : decode cX8_channel 77 = .ok (.putfield 130, 3) := by decide +kernel
theorem dX8_channel_80 : decode cX8_channel 80 = .ok (.aload_n 0, 1) := by decide +kernel
theorem dX8_channel_81 : decode cX8_channel 81 = .ok (.getfield 136, 3) := by decide +kernel
theorem dX8_channel_84 : decode cX8_channel 84 = .ok (.ifCond .eq 11, 3) := by decide +kernel
theorem dX8_channel_87 : decode cX8_channel 87 = .ok (.bipush (-20), 2) := by decide +kernel
theorem dX8_channel_89 : decode cX8_channel 89 = .ok (.aload_n 0, 1) := by decide +kernel
theorem dX8_channel_90 : decode cX8_channel 90 = .ok (.getfield 133, 3) := by decide +kernel
theorem dX8_channel_93 : decode cX8_channel 93 = .ok (.isub, 1) := by decide +kernel
theorem dX8_channel_94 : decode cX8_channel 94 = .ok (.ireturn, 1) := by decide +kernel
theorem dX8_channel_95 : decode cX8_channel 95 = .ok (.aload_n 0, 1) := by decide +kernel
theorem dX8_channel_96 : decode cX8_channel 96 = .ok (.iload_n 1, 1) := by decide +kernel
theorem dX8_channel_97 : decode cX8_channel 97 = .ok (.putfield 69, 3) := by decide +kernel
theorem dX8_channel_100 : decode cX8_channel 100 = .ok (.iconst 0, 1) := by decide +kernel
theorem dX8_channel_101 : decode cX8_channel 101 = .ok (.istore_n 3, 1) := by decide +kernel
theorem dX8_channel_102 : decode cX8_channel 102 = .ok (.iload_n 3, 1) := by decide +kernel
theorem dX8_channel_103 : decode cX8_channel 103 = .ok (.iload_n 1, 1) := by decide +kernel
theorem dX8_channel_104 : decode cX8_channel 104 = .ok (.if_icmp .ge 62, 3) := by decide +kernel
theorem dX8_channel_107 : decode cX8_channel 107 = .ok (.aload_n 0, 1) := by decide +kernel
theorem dX8_channel_108 : decode cX8_channel 108 = .ok (.iload_n 3, 1) := by decide +kernel
theorem dX8_channel_109 : decode cX8_channel 109 = .ok (.aload_n 0, 1) := by decide +kernel
theorem dX8_channel_110 : decode cX8_channel 110 = .ok (.getfield 25, 3) := by decide +kernel
theorem dX8_channel_113 : decode cX8_channel 113 = .ok (.iconst 5, 1) := by decide +kernel
theorem dX8_channel_114 : decode cX8_channel 114 = .ok (.iload_n 3, 1) := by decide +kernel
theorem dX8_channel_115 : decode cX8_channel 115 = .ok (.imul, 1) := by decide +kernel
theorem dX8_channel_116 : decode cX8_channel 116 = .ok (.iaload, 1) := by decide +kernel
theorem dX8_channel_117 : decode cX8_channel 117 = .ok (.aload_n 0, 1) := by decide +kernel
theorem dX8_channel_118 : decode cX8_channel 118 = .ok (.getfield 25, 3) := by decide +kernel
theorem dX8_channel_121 : decode cX8_channel 121 = .ok (.iconst 5, 1) := by decide +kernel
theorem dX8_channel_122 : decode cX8_channel 122 = .ok (.iload_n 3, 1) := by decide +kernel
theorem dX8_channel_123 : decode cX8_channel 123 = .ok (.imul, 1) := by decide +kernel
theorem dX8_channel_124 : decode cX8_channel 124 = .ok (.iconst 1, 1) := by decide +kernel
theorem dX8_channel_125 : decode cX8_channel 125 = .ok (.iadd, 1) := by decide +kernel
theorem dX8_channel_126 : decode cX8_channel 126 = .ok (.iaload, 1) := by decide +kernel
theorem dX8_channel_127 : decode cX8_channel 127 = .ok (.aload_n 0, 1) := by decide +kernel
theorem dX8_channel_128 : decode cX8_channel 128 = .ok (.getfield 25, 3) := by decide +kernel
theorem dX8_channel_131 : decode cX8_channel 131 = .ok (.iconst 5, 1) := by decide +kernel
theorem dX8_channel_132 : decode cX8_channel 132 = .ok (.iload_n 3, 1) := by decide +kernel
theorem dX8_channel_133 : decode cX8_channel 133 = .ok (.imul, 1) := by decide +kernel
theorem dX8_channel_134 : decode cX8_channel 134 = .ok (.iconst 2, 1) := by decide +kernel
theorem dX8_channel_135 : decode cX8_channel 135 = .ok (.iadd, 1) := by decide +kernel
theorem dX8_channel_136 : decode cX8_channel 136 = .ok (.iaload, 1) := by decide +kernel
theorem dX8_channel_137 : decode cX8_channel 137 = .ok (.aload_n 0, 1) := by decide +kernel
theorem dX8_channel_138 : decode cX8_channel 138 = .ok (.getfield 25, 3) := by decide +kernel
theorem dX8_channel_141 : decode cX8_channel 141 = .ok (.iconst 5, 1) := by decide +kernel
theorem dX8_channel_142 : decode cX8_channel 142 = .ok (.iload_n 3, 1) := by decide +kernel
theorem dX8_channel_143 : decode cX8_channel 143 = .ok (.imul, 1) := by decide +kernel
theorem dX8_channel_144 : decode cX8_channel 144 = .ok (.iconst 3, 1) := by decide +kernel
theorem dX8_channel_145 : decode cX8_channel 145 = .ok (.iadd, 1) := by decide +kernel
theorem dX8_channel_146 : decode cX8_channel 146 = .ok (.iaload, 1) := by decide +kernel
theorem dX8_channel_147 : decode cX8_channel 147 = .ok (.aload_n 0, 1) := by decide +kernel
theorem dX8_channel_148 : decode cX8_channel 148 = .ok (.getfield 25, 3) := by decide +kernel
theorem dX8_channel_151 : decode cX8_channel 151 = .ok (.iconst 5, 1) := by decide +kernel
theorem dX8_channel_152 : decode cX8_channel 152 = .ok (.iload_n 3, 1) := by decide +kernel
theorem dX8_channel_153 : decode cX8_channel 153 = .ok (.imul, 1) := by decide +kernel
theorem dX8_channel_154 : decode cX8_channel 154 = .ok (.iconst 4, 1) := by decide +kernel
theorem dX8_channel_155 : decode cX8_channel 155 = .ok (.iadd, 1) := by decide +kernel
theorem dX8_channel_156 : decode cX8_channel 156 = .ok (.iaload, 1) := by decide +kernel
theorem dX8_channel_157 : decode cX8_channel 157 = .ok (.invokevirtual 100, 3) := by decide +kernel
theorem dX8_channel_160 : decode cX8_channel 160 = .ok (.iinc 3 1, 3) := by decide +kernel
theorem dX8_channel_163 : decode cX8_channel 163 = .ok (.goto (-61), 3) := by decide +kernel
theorem dX8_channel_166 : decode cX8_channel 166 = .ok (.iload_n 1, 1) := by decide +kernel
theorem dX8_channel_167 : decode cX8_channel 167 = .ok (.ireturn, 1) := by decide +kernel
theorem dX8_tides_0 : decode cX8_tides 0 = .ok (.aload_n 0, 1) := by decide +kernel
theorem dX8_tides_1 : decode cX8_tides 1 = .ok (.iconst 0, 1) := by decide +kernel
theorem dX8_tides_2 : decode cX8_tides 2 = .ok (.putfield 133, 3) := by decide +kernel
theorem dX8_tides_5 : decode cX8_tides 5 = .ok (.aload_n 0, 1) := by decide +kernel
theorem dX8_tides_6 : decode cX8_tides 6 = .ok (.iconst 0, 1) := by decide +kernel
theorem dX8_tides_7 : decode cX8_tides 7 = .ok (.putfield 136, 3) := by decide +kernel
theorem dX8_tides_10 : decode cX8_tides 10 = .ok (.iconst 0, 1) := by decide +kernel
theorem dX8_tides_11 : decode cX8_tides 11 = .ok (.istore_n 1, 1) := by decide +kernel
theorem dX8_tides_12 : decode cX8_tides 12 = .ok (.iload_n 1, 1) := by decide +kernel
theorem dX8_tides_13 : decode cX8_tides 13 = .ok (.bipush 24, 2) := by decide +kernel
theorem dX8_tides_15 : decode cX8_tides 15 = .ok (.if_icmp .ge 51, 3) := by decide +kernel
theorem dX8_tides_18 : decode cX8_tides 18 = .ok (.aload_n 0, 1) := by decide +kernel
theorem dX8_tides_19 : decode cX8_tides 19 = .ok (.aload_n 0, 1) := by decide +kernel
theorem dX8_tides_20 : decode cX8_tides 20 = .ok (.getfield 136, 3) := by decide +kernel
theorem dX8_tides_23 : decode cX8_tides 23 = .ok (.ifCond .ne 16, 3) := by decide +kernel
theorem dX8_tides_26 : decode cX8_tides 26 = .ok (.iload_n 1, 1) := by decide +kernel
theorem dX8_tides_27 : decode cX8_tides 27 = .ok (.ifCond .le 16, 3) := by decide +kernel
theorem dX8_tides_30 : decode cX8_tides 30 = .ok (.aload_n 0, 1) := by decide +kernel
theorem dX8_tides_31 : decode cX8_tides 31 = .ok (.bipush 44, 2) := by decide +kernel
theorem dX8_tides_33 : decode cX8_tides 33 = .ok (.invokevirtual 152, 3) := by decide +kernel
theorem dX8_tides_36 : decode cX8_tides 36 = .ok (.ifCond .ne 7, 3) := by decide +kernel
theorem dX8_tides_39 : decode cX8_tides 39 = .ok (.iconst 1, 1) := by decide +kernel
theorem dX8_tides_40 : decode cX8_tides 40 = .ok (.goto 4, 3) := by decide +kernel
theorem dX8_tides_43 : decode cX8_tides 43 = .ok (.iconst 0, 1) := by decide +kernel
theorem dX8_tides_44 : decode cX8_tides 44 = .ok (.putfield 136, 3) := by decide +kernel
theorem dX8_tides_47 : decode cX8_tides 47 = .ok (.aload_n 0, 1) := by decide +kernel
theorem dX8_tides_48 : decode cX8_tides 48 = .ok (.getfield 25, 3) := by decide +kernel
theorem dX8_tides_51 : decode cX8_tides 51 = .ok (.iload_n 1, 1) := by decide +kernel
theorem dX8_tides_52 : decode cX8_tides 52 = .ok (.aload_n 0, 1) := by decide +kernel
theorem dX8_tides_53 : decode cX8_tides 53 = .ok (.iconst 0, 1) := by decide +kernel
theorem dX8_tides_54 : decode cX8_tides 54 = .ok (.bipush 99, 2) := by decide +kernel
theorem dX8_tides_56 : decode cX8_tides 56 = .ok (.invokevirtual 148, 3) := by decide +kernel
theorem dX8_tides_59 : decode cX8_tides 59 = .ok (.iastore, 1) := by decide +kernel
theorem dX8_tides_60 : decode cX8_tides 60 = .ok (.iinc 1 1, 3) := by decide +kernel
theorem dX8_tides_63 : decode cX8_tides 63 = .ok (.goto (-51), 3) := by decide +kernel
theorem dX8_tides_66 : decode cX8_tides 66 = .ok (.aload_n 0, 1) := by decide +kernel
theorem dX8_tides_67 : decode cX8_tides 67 = .ok (.aload_n 0, 1) := by decide +kernel
theorem dX8_tides_68 : decode cX8_tides 68 = .ok (.getfield 136, 3) := by decide +kernel
theorem dX8_tides_71 : decode cX8_tides 71 = .ok (.ifCond .ne 10, 3) := by decide +kernel
theorem dX8_tides_74 : decode cX8_tides 74 = .ok (.aload_n 0, 1) := by decide +kernel
theorem dX8_tides_75 : decode cX8_tides 75 = .ok (.invokevirtual 140, 3) := by decide +kernel
theorem dX8_tides_78 : decode cX8_tides 78 = .ok (.ifCond .eq 7, 3) := by decide +kernel
theorem dX8_tides_81 : decode cX8_tides 81 = .ok (.iconst 1, 1) := by decide +kernel
theorem dX8_tides_82 : decode cX8_tides 82 = .ok (.goto 4, 3) := by decide +kernel
theorem dX8_tides_85 : decode cX8_tides 85 = .ok (.iconst 0, 1) := by decide +kernel
theorem dX8_tides_86 : decode cX8_tides 86 = .ok (.putfield 136, 3) := by decide +kernel
theorem dX8_tides_89 : decode cX8_tides 89 = .ok (.aload_n 0, 1) := by decide +kernel
theorem dX8_tides_90 : decode cX8_tides 90 = .ok (.iconst 0, 1) := by decide +kernel
theorem dX8_tides_91 : decode cX8_tides 91 = .ok (.putfield 130, 3) := by decide +kernel
theorem dX8_tides_94 : decode cX8_tides 94 = .ok (.aload_n 0, 1) := by decide +kernel
theorem dX8_tides_95 : decode cX8_tides 95 = .ok (.getfield 136, 3) := by decide +kernel
theorem dX8_tides_98 : decode cX8_tides 98 = .ok (.ifCond .eq 11, 3) := by decide +kernel
theorem dX8_tides_101 : decode cX8_tides 101 = .ok (.bipush (-20), 2) := by decide +kernel
theorem dX8_tides_103 : decode cX8_tides 103 = .ok (.aload_n 0, 1) := by decide +kernel
theorem dX8_tides_104 : decode cX8_tides 104 = .ok (.getfield 133, 3) := by decide +kernel
theorem dX8_tides_107 : decode cX8_tides 107 = .ok (.isub, 1) := by decide +kernel
theorem dX8_tides_108 : decode cX8_tides 108 = .ok (.ireturn, 1) := by decide +kernel
theorem dX8_tides_109 : decode cX8_tides 109 = .ok (.iconst 0, 1) := by decide +kernel
theorem dX8_tides_110 : decode cX8_tides 110 = .ok (.istore_n 1, 1) := by decide +kernel
theorem dX8_tides_111 : decode cX8_tides 111 = .ok (.iconst 0, 1) := by decide +kernel
theorem dX8_tides_112 : decode cX8_tides 112 = .ok (.istore_n 2, 1) := by decide +kernel
theorem dX8_tides_113 : decode cX8_tides 113 = .ok (.iload_n 2, 1) := by decide +kernel
theorem dX8_tides_114 : decode cX8_tides 114 = .ok (.bipush 24, 2) := by decide +kernel
theorem dX8_tides_116 : decode cX8_tides 116 = .ok (.if_icmp .ge 42, 3) := by decide +kernel
theorem dX8_tides_119 : decode cX8_tides 119 = .ok (.aload_n 0, 1) := by decide +kernel
theorem dX8_tides_120 : decode cX8_tides 120 = .ok (.getfield 13, 3) := by decide +kernel
theorem dX8_tides_123 : decode cX8_tides 123 = .ok (.iload_n 2, 1) := by decide +kernel
theorem dX8_tides_124 : decode cX8_tides 124 = .ok (.aload_n 0, 1) := by decide +kernel
theorem dX8_tides_125 : decode cX8_tides 125 = .ok (.getfield 25, 3) := by decide +kernel
theorem dX8_tides_128 : decode cX8_tides 128 = .ok (.iload_n 2, 1) := by decide +kernel
theorem dX8_tides_129 : decode cX8_tides 129 = .ok (.iaload, 1) := by decide +kernel
theorem dX8_tides_130 : decode cX8_tides 130 = .ok (.iastore, 1) := by decide +kernel
theorem dX8_tides_131 : decode cX8_tides 131 = .ok (.aload_n 0, 1) := by decide +kernel
theorem dX8_tides_132 : decode cX8_tides 132 = .ok (.getfield 25, 3) := by decide +kernel
theorem dX8_tides_135 : decode cX8_tides 135 = .ok (.iload_n 2, 1) := by decide +kernel
theorem dX8_tides_136 : decode cX8_tides 136 = .ok (.iaload, 1) := by decide +kernel
theorem dX8_tides_137 : decode cX8_tides 137 = .ok (.iload_n 1, 1) := by decide +kernel
theorem dX8_tides_138 : decode cX8_tides 138 = .ok (.if_icmp .le 12, 3) := by decide +kernel
theorem dX8_tides_141 : decode cX8_tides 141 = .ok (.aload_n 0, 1) := by decide +kernel
theorem dX8_tides_142 : decode cX8_tides 142 = .ok (.getfield 25, 3) := by decide +kernel
theorem dX8_tides_145 : decode cX8_tides 145 = .ok (.iload_n 2, 1) := by decide +kernel
theorem dX8_tides_146 : decode cX8_tides 146 = .ok (.iaload, 1) := by decide +kernel
theorem dX8_tides_147 : decode cX8_tides 147 = .ok (.goto 4, 3) := by decide +kernel
theorem dX8_tides_150 : decode cX8_tides 150 = .ok (.iload_n 1, 1) := by decide +kernel
theorem dX8_tides_151 : decode cX8_tides 151 = .ok (.istore_n 1, 1) := by decide +kernel
theorem dX8_tides_152 : decode cX8_tides 152 = .ok (.iinc 2 1, 3) := by decide +kernel
theorem dX8_tides_155 : decode cX8_tides 155 = .ok (.goto (-42), 3) := by decide +kernel
theorem dX8_tides_158 : decode cX8_tides 158 = .ok (.iload_n 1, 1) := by decide +kernel
theorem dX8_tides_159 : decode cX8_tides 159 = .ok (.ireturn, 1) := by decide +kernel
theorem dX8_count_0 : decode cX8_count 0 = .ok (.iconst 0, 1) := by decide +kernel
theorem dX8_count_1 : decode cX8_count 1 = .ok (.istore_n 2, 1) := by decide +kernel
theorem dX8_count_2 : decode cX8_count 2 = .ok (.iconst 0, 1) := by decide +kernel
theorem dX8_count_3 : decode cX8_count 3 = .ok (.istore_n 3, 1) := by decide +kernel
theorem dX8_count_4 : decode cX8_count 4 = .ok (.iload_n 3, 1) := by decide +kernel
theorem dX8_count_5 : decode cX8_count 5 = .ok (.aload_n 0, 1) := by decide +kernel
theorem dX8_count_6 : decode cX8_count 6 = .ok (.getfield 69, 3) := by decide +kernel
theorem dX8_count_9 : decode cX8_count 9 = .ok (.if_icmp .ge 23, 3) := by decide +kernel
theorem dX8_count_12 : decode cX8_count 12 = .ok (.iload_n 2, 1) := by decide +kernel
theorem dX8_count_13 : decode cX8_count 13 = .ok (.aload_n 0, 1) := by decide +kernel
theorem dX8_count_14 : decode cX8_count 14 = .ok (.getfield 7, 3) := by decide +kernel
theorem dX8_count_17 : decode cX8_count 17 = .ok (.bipush 6, 2) := by decide +kernel
theorem dX8_count_19 : decode cX8_count 19 = .ok (.iload_n 3, 1) := by decide +kernel
theorem dX8_count_20 : decode cX8_count 20 = .ok (.imul, 1) := by decide +kernel
theorem dX8_count_21 : decode cX8_count 21 = .ok (.iconst 1, 1) := by decide +kernel
theorem dX8_count_22 : decode cX8_count 22 = .ok (.iadd, 1) := by decide +kernel
theorem dX8_count_23 : decode cX8_count 23 = .ok (.iaload, 1) := by decide +kernel
theorem dX8_count_24 : decode cX8_count 24 = .ok (.iadd, 1) := by decide +kernel
theorem dX8_count_25 : decode cX8_count 25 = .ok (.istore_n 2, 1) := by decide +kernel
theorem dX8_count_26 : decode cX8_count 26 = .ok (.iinc 3 1, 3) := by decide +kernel
theorem dX8_count_29 : decode cX8_count 29 = .ok (.goto (-25), 3) := by decide +kernel
theorem dX8_count_32 : decode cX8_count 32 = .ok (.iload_n 1, 1) := by decide +kernel
theorem dX8_count_33 : decode cX8_count 33 = .ok (.ifCond .ne 10, 3) := by decide +kernel
theorem dX8_count_36 : decode cX8_count 36 = .ok (.aload_n 0, 1) := by decide +kernel
theorem dX8_count_37 : decode cX8_count 37 = .ok (.getfield 69, 3) := by decide +kernel
theorem dX8_count_40 : decode cX8_count 40 = .ok (.goto 25, 3) := by decide +kernel
theorem dX8_count_43 : decode cX8_count 43 = .ok (.iload_n 1, 1) := by decide +kernel
theorem dX8_count_44 : decode cX8_count 44 = .ok (.iconst 1, 1) := by decide +kernel
theorem dX8_count_45 : decode cX8_count 45 = .ok (.if_icmp .ne 10, 3) := by decide +kernel
theorem dX8_count_48 : decode cX8_count 48 = .ok (.aload_n 0, 1) := by decide +kernel
theorem dX8_count_49 : decode cX8_count 49 = .ok (.getfield 77, 3) := by decide +kernel
theorem dX8_count_52 : decode cX8_count 52 = .ok (.goto 13, 3) := by decide +kernel
theorem dX8_count_55 : decode cX8_count 55 = .ok (.iload_n 1, 1) := by decide +kernel
theorem dX8_count_56 : decode cX8_count 56 = .ok (.iconst 2, 1) := by decide +kernel
theorem dX8_count_57 : decode cX8_count 57 = .ok (.if_icmp .ne 7, 3) := by decide +kernel
theorem dX8_count_60 : decode cX8_count 60 = .ok (.iload_n 2, 1) := by decide +kernel
theorem dX8_count_61 : decode cX8_count 61 = .ok (.goto 4, 3) := by decide +kernel
theorem dX8_count_64 : decode cX8_count 64 = .ok (.iconst (-1), 1) := by decide +kernel
theorem dX8_count_65 : decode cX8_count 65 = .ok (.ireturn, 1) := by decide +kernel
theorem dX8_tideAt_0 : decode cX8_tideAt 0 = .ok (.iload_n 1, 1) := by decide +kernel
theorem dX8_tideAt_1 : decode cX8_tideAt 1 = .ok (.aload_n 0, 1) := by decide +kernel
theorem dX8_tideAt_2 : decode cX8_tideAt 2 = .ok (.getfield 16, 3) := by decide +kernel
theorem dX8_tideAt_5 : decode cX8_tideAt 5 = .ok (.iconst 0, 1) := by decide +kernel
theorem dX8_tideAt_6 : decode cX8_tideAt 6 = .ok (.iaload, 1) := by decide +kernel
theorem dX8_tideAt_7 : decode cX8_tideAt 7 = .ok (.isub, 1) := by decide +kernel
theorem dX8_tideAt_8 : decode cX8_tideAt 8 = .ok (.sipush 1440, 3) := by decide +kernel
theorem dX8_tideAt_11 : decode cX8_tideAt 11 = .ok (.irem, 1) := by decide +kernel
theorem dX8_tideAt_12 : decode cX8_tideAt 12 = .ok (.istore_n 2, 1) := by decide +kernel
theorem dX8_tideAt_13 : decode cX8_tideAt 13 = .ok (.iload_n 2, 1) := by decide +kernel
theorem dX8_tideAt_14 : decode cX8_tideAt 14 = .ok (.iload_n 2, 1) := by decide +kernel
theorem dX8_tideAt_15 : decode cX8_tideAt 15 = .ok (.ifCond .ge 9, 3) := by decide +kernel
theorem dX8_tideAt_18 : decode cX8_tideAt 18 = .ok (.sipush 1440, 3) := by decide +kernel
theorem dX8_tideAt_21 : decode cX8_tideAt 21 = .ok (.goto 4, 3) := by decide +kernel
theorem dX8_tideAt_24 : decode cX8_tideAt 24 = .ok (.iconst 0, 1) := by decide +kernel
theorem dX8_tideAt_25 : decode cX8_tideAt 25 = .ok (.iadd, 1) := by decide +kernel
theorem dX8_tideAt_26 : decode cX8_tideAt 26 = .ok (.istore_n 2, 1) := by decide +kernel
theorem dX8_tideAt_27 : decode cX8_tideAt 27 = .ok (.iload_n 2, 1) := by decide +kernel
theorem dX8_tideAt_28 : decode cX8_tideAt 28 = .ok (.bipush 60, 2) := by decide +kernel
theorem dX8_tideAt_30 : decode cX8_tideAt 30 = .ok (.idiv, 1) := by decide +kernel
theorem dX8_tideAt_31 : decode cX8_tideAt 31 = .ok (.istore_n 3, 1) := by decide +kernel
theorem dX8_tideAt_32 : decode cX8_tideAt 32 = .ok (.aload_n 0, 1) := by decide +kernel
theorem dX8_tideAt_33 : decode cX8_tideAt 33 = .ok (.getfield 13, 3) := by decide +kernel
theorem dX8_tideAt_36 : decode cX8_tideAt 36 = .ok (.iload_n 3, 1) := by decide +kernel
theorem dX8_tideAt_37 : decode cX8_tideAt 37 = .ok (.iaload, 1) := by decide +kernel
theorem dX8_tideAt_38 : decode cX8_tideAt 38 = .ok (.aload_n 0, 1) := by decide +kernel
theorem dX8_tideAt_39 : decode cX8_tideAt 39 = .ok (.getfield 13, 3) := by decide +kernel
theorem dX8_tideAt_42 : decode cX8_tideAt 42 = .ok (.iload_n 3, 1) := by decide +kernel
theorem dX8_tideAt_43 : decode cX8_tideAt 43 = .ok (.iconst 1, 1) := by decide +kernel
theorem dX8_tideAt_44 : decode cX8_tideAt 44 = .ok (.iadd, 1) := by decide +kernel
theorem dX8_tideAt_45 : decode cX8_tideAt 45 = .ok (.bipush 24, 2) := by decide +kernel
theorem dX8_tideAt_47 : decode cX8_tideAt 47 = .ok (.irem, 1) := by decide +kernel
theorem dX8_tideAt_48 : decode cX8_tideAt 48 = .ok (.iaload, 1) := by decide +kernel
theorem dX8_tideAt_49 : decode cX8_tideAt 49 = .ok (.aload_n 0, 1) := by decide +kernel
theorem dX8_tideAt_50 : decode cX8_tideAt 50 = .ok (.getfield 13, 3) := by decide +kernel
theorem dX8_tideAt_53 : decode cX8_tideAt 53 = .ok (.iload_n 3, 1) := by decide +kernel
theorem dX8_tideAt_54 : decode cX8_tideAt 54 = .ok (.iaload, 1) := by decide +kernel
theorem dX8_tideAt_55 : decode cX8_tideAt 55 = .ok (.isub, 1) := by decide +kernel
theorem dX8_tideAt_56 : decode cX8_tideAt 56 = .ok (.iload_n 2, 1) := by decide +kernel
theorem dX8_tideAt_57 : decode cX8_tideAt 57 = .ok (.bipush 60, 2) := by decide +kernel
theorem dX8_tideAt_59 : decode cX8_tideAt 59 = .ok (.irem, 1) := by decide +kernel
theorem dX8_tideAt_60 : decode cX8_tideAt 60 = .ok (.imul, 1) := by decide +kernel
theorem dX8_tideAt_61 : decode cX8_tideAt 61 = .ok (.bipush 60, 2) := by decide +kernel
theorem dX8_tideAt_63 : decode cX8_tideAt 63 = .ok (.idiv, 1) := by decide +kernel
theorem dX8_tideAt_64 : decode cX8_tideAt 64 = .ok (.iadd, 1) := by decide +kernel
theorem dX8_tideAt_65 : decode cX8_tideAt 65 = .ok (.ireturn, 1) := by decide +kernel
theorem dX8_waterAt_0 : decode cX8_waterAt 0 = .ok (.aload_n 0, 1) := by decide +kernel
theorem dX8_waterAt_1 : decode cX8_waterAt 1 = .ok (.getfield 7, 3) := by decide +kernel
theorem dX8_waterAt_4 : decode cX8_waterAt 4 = .ok (.bipush 6, 2) := by decide +kernel
theorem dX8_waterAt_6 : decode cX8_waterAt 6 = .ok (.iload_n 1, 1) := by decide +kernel
theorem dX8_waterAt_7 : decode cX8_waterAt 7 = .ok (.imul, 1) := by decide +kernel
theorem dX8_waterAt_8 : decode cX8_waterAt 8 = .ok (.iaload, 1) := by decide +kernel
theorem dX8_waterAt_9 : decode cX8_waterAt 9 = .ok (.aload_n 0, 1) := by decide +kernel
theorem dX8_waterAt_10 : decode cX8_waterAt 10 = .ok (.getfield 7, 3) := by decide +kernel
theorem dX8_waterAt_13 : decode cX8_waterAt 13 = .ok (.bipush 6, 2) := by decide +kernel
theorem dX8_waterAt_15 : decode cX8_waterAt 15 = .ok (.iload_n 1, 1) := by decide +kernel
theorem dX8_waterAt_16 : decode cX8_waterAt 16 = .ok (.imul, 1) := by decide +kernel
theorem dX8_waterAt_17 : decode cX8_waterAt 17 = .ok (.iconst 3, 1) := by decide +kernel
theorem dX8_waterAt_18 : decode cX8_waterAt 18 = .ok (.iadd, 1) := by decide +kernel
theorem dX8_waterAt_19 : decode cX8_waterAt 19 = .ok (.iaload, 1) := by decide +kernel
theorem dX8_waterAt_20 : decode cX8_waterAt 20 = .ok (.aload_n 0, 1) := by decide +kernel
theorem dX8_waterAt_21 : decode cX8_waterAt 21 = .ok (.getfield 16, 3) := by decide +kernel
theorem dX8_waterAt_24 : decode cX8_waterAt 24 = .ok (.iconst 2, 1) := by decide +kernel
theorem dX8_waterAt_25 : decode cX8_waterAt 25 = .ok (.iaload, 1) := by decide +kernel
theorem dX8_waterAt_26 : decode cX8_waterAt 26 = .ok (.imul, 1) := by decide +kernel
theorem dX8_waterAt_27 : decode cX8_waterAt 27 = .ok (.bipush 10, 2) := by decide +kernel
theorem dX8_waterAt_29 : decode cX8_waterAt 29 = .ok (.idiv, 1) := by decide +kernel
theorem dX8_waterAt_30 : decode cX8_waterAt 30 = .ok (.iadd, 1) := by decide +kernel
theorem dX8_waterAt_31 : decode cX8_waterAt 31 = .ok (.aload_n 0, 1) := by decide +kernel
theorem dX8_waterAt_32 : decode cX8_waterAt 32 = .ok (.iload_n 2, 1) := by decide +kernel
theorem dX8_waterAt_33 : decode cX8_waterAt 33 = .ok (.invokevirtual 162, 3) := by decide +kernel
theorem dX8_waterAt_36 : decode cX8_waterAt 36 = .ok (.iadd, 1) := by decide +kernel
theorem dX8_waterAt_37 : decode cX8_waterAt 37 = .ok (.iconst 2, 1) := by decide +kernel
theorem dX8_waterAt_38 : decode cX8_waterAt 38 = .ok (.aload_n 0, 1) := by decide +kernel
theorem dX8_waterAt_39 : decode cX8_waterAt 39 = .ok (.getfield 16, 3) := by decide +kernel
theorem dX8_waterAt_42 : decode cX8_waterAt 42 = .ok (.iconst 1, 1) := by decide +kernel
theorem dX8_waterAt_43 : decode cX8_waterAt 43 = .ok (.iaload, 1) := by decide +kernel
theorem dX8_waterAt_44 : decode cX8_waterAt 44 = .ok (.imul, 1) := by decide +kernel
theorem dX8_waterAt_45 : decode cX8_waterAt 45 = .ok (.isub, 1) := by decide +kernel
theorem dX8_waterAt_46 : decode cX8_waterAt 46 = .ok (.ireturn, 1) := by decide +kernel
theorem dX8_sinksBy_0 : decode cX8_sinksBy 0 = .ok (.iload_n 3, 1) := by decide +kernel
theorem dX8_sinksBy_1 : decode cX8_sinksBy 1 = .ok (.iconst 1, 1) := by decide +kernel
theorem dX8_sinksBy_2 : decode cX8_sinksBy 2 = .ok (.if_icmp .ge 7, 3) := by decide +kernel
theorem dX8_sinksBy_5 : decode cX8_sinksBy 5 = .ok (.iconst 1, 1) := by decide +kernel
theorem dX8_sinksBy_6 : decode cX8_sinksBy 6 = .ok (.goto 4, 3) := by decide +kernel
theorem dX8_sinksBy_9 : decode cX8_sinksBy 9 = .ok (.iload_n 3, 1) := by decide +kernel
theorem dX8_sinksBy_10 : decode cX8_sinksBy 10 = .ok (.istore 5, 2) := by decide +kernel
theorem dX8_sinksBy_12 : decode cX8_sinksBy 12 = .ok (.iload 4, 2) := by decide +kernel
theorem dX8_sinksBy_14 : decode cX8_sinksBy 14 = .ok (.iload 4, 2) := by decide +kernel
theorem dX8_sinksBy_16 : decode cX8_sinksBy 16 = .ok (.imul, 1) := by decide +kernel
theorem dX8_sinksBy_17 : decode cX8_sinksBy 17 = .ok (.aload_n 0, 1) := by decide +kernel
theorem dX8_sinksBy_18 : decode cX8_sinksBy 18 = .ok (.getfield 19, 3) := by decide +kernel
theorem dX8_sinksBy_21 : decode cX8_sinksBy 21 = .ok (.iconst 3, 1) := by decide +kernel
theorem dX8_sinksBy_22 : decode cX8_sinksBy 22 = .ok (.iload_n 1, 1) := by decide +kernel
theorem dX8_sinksBy_23 : decode cX8_sinksBy 23 = .ok (.imul, 1) := by decide +kernel
theorem dX8_sinksBy_24 : decode cX8_sinksBy 24 = .ok (.iconst 1, 1) := by decide +kernel
theorem dX8_sinksBy_25 : decode cX8_sinksBy 25 = .ok (.iadd, 1) := by decide +kernel
theorem dX8_sinksBy_26 : decode cX8_sinksBy 26 = .ok (.iaload, 1) := by decide +kernel
theorem dX8_sinksBy_27 : decode cX8_sinksBy 27 = .ok (.imul, 1) := by decide +kernel
theorem dX8_sinksBy_28 : decode cX8_sinksBy 28 = .ok (.aload_n 0, 1) := by decide +kernel
theorem dX8_sinksBy_29 : decode cX8_sinksBy 29 = .ok (.getfield 19, 3) := by decide +kernel
theorem dX8_sinksBy_32 : decode cX8_sinksBy 32 = .ok (.iconst 3, 1) := by decide +kernel
theorem dX8_sinksBy_33 : decode cX8_sinksBy 33 = .ok (.iload_n 1, 1) := by decide +kernel
theorem dX8_sinksBy_34 : decode cX8_sinksBy 34 = .ok (.imul, 1) := by decide +kernel
theorem dX8_sinksBy_35 : decode cX8_sinksBy 35 = .ok (.iaload, 1) := by decide +kernel
theorem dX8_sinksBy_36 : decode cX8_sinksBy 36 = .ok (.imul, 1) := by decide +kernel
theorem dX8_sinksBy_37 : decode cX8_sinksBy 37 = .ok (.iconst 3, 1) := by decide +kernel
theorem dX8_sinksBy_38 : decode cX8_sinksBy 38 = .ok (.aload_n 0, 1) := by decide +kernel
theorem dX8_sinksBy_39 : decode cX8_sinksBy 39 = .ok (.getfield 7, 3) := by decide +kernel
theorem dX8_sinksBy_42 : decode cX8_sinksBy 42 = .ok (.bipush 6, 2) := by decide +kernel
theorem dX8_sinksBy_44 : decode cX8_sinksBy 44 = .ok (.iload_n 2, 1) := by decide +kernel
theorem dX8_sinksBy_45 : decode cX8_sinksBy 45 = .ok (.imul, 1) := by decide +kernel
theorem dX8_sinksBy_46 : decode cX8_sinksBy 46 = .ok (.iconst 1, 1) := by decide +kernel
theorem dX8_sinksBy_47 : decode cX8_sinksBy 47 = .ok (.iadd, 1) := by decide +kernel
theorem dX8_sinksBy_48 : decode cX8_sinksBy 48 = .ok (.iaload, 1) := by decide +kernel
theorem dX8_sinksBy_49 : decode cX8_sinksBy 49 = .ok (.imul, 1) := by decide +kernel
theorem dX8_sinksBy_50 : decode cX8_sinksBy 50 = .ok (.iload 5, 2) := by decide +kernel
theorem dX8_sinksBy_52 : decode cX8_sinksBy 52 = .ok (.imul, 1) := by decide +kernel
theorem dX8_sinksBy_53 : decode cX8_sinksBy 53 = .ok (.idiv, 1) := by decide +kernel
theorem dX8_sinksBy_54 : decode cX8_sinksBy 54 = .ok (.ireturn, 1) := by decide +kernel
theorem dX8_underBy_0 : decode cX8_underBy 0 = .ok (.aload_n 0, 1) := by decide +kernel
theorem dX8_underBy_1 : decode cX8_underBy 1 = .ok (.getfield 19, 3) := by decide +kernel
theorem dX8_underBy_4 : decode cX8_underBy 4 = .ok (.iconst 3, 1) := by decide +kernel
theorem dX8_underBy_5 : decode cX8_underBy 5 = .ok (.iload_n 1, 1) := by decide +kernel
theorem dX8_underBy_6 : decode cX8_underBy 6 = .ok (.imul, 1) := by decide +kernel
theorem dX8_underBy_7 : decode cX8_underBy 7 = .ok (.iaload, 1) := by decide +kernel
theorem dX8_underBy_8 : decode cX8_underBy 8 = .ok (.istore 5, 2) := by decide +kernel
theorem dX8_underBy_10 : decode cX8_underBy 10 = .ok (.iload_n 3, 1) := by decide +kernel
theorem dX8_underBy_11 : decode cX8_underBy 11 = .ok (.iload 5, 2) := by decide +kernel
theorem dX8_underBy_13 : decode cX8_underBy 13 = .ok (.isub, 1) := by decide +kernel
theorem dX8_underBy_14 : decode cX8_underBy 14 = .ok (.iload 5, 2) := by decide +kernel
theorem dX8_underBy_16 : decode cX8_underBy 16 = .ok (.bipush 9, 2) := by decide +kernel
theorem dX8_underBy_18 : decode cX8_underBy 18 = .ok (.aload_n 0, 1) := by decide +kernel
theorem dX8_underBy_19 : decode cX8_underBy 19 = .ok (.getfield 7, 3) := by decide +kernel
theorem dX8_underBy_22 : decode cX8_underBy 22 = .ok (.bipush 6, 2) := by decide +kernel
theorem dX8_underBy_24 : decode cX8_underBy 24 = .ok (.iload_n 2, 1) := by decide +kernel
theorem dX8_underBy_25 : decode cX8_underBy 25 = .ok (.imul, 1) := by decide +kernel
theorem dX8_underBy_26 : decode cX8_underBy 26 = .ok (.iconst 2, 1) := by decide +kernel
theorem dX8_underBy_27 : decode cX8_underBy 27 = .ok (.iadd, 1) := by decide +kernel
theorem dX8_underBy_28 : decode cX8_underBy 28 = .ok (.iaload, 1) := by decide +kernel
theorem dX8_underBy_29 : decode cX8_underBy 29 = .ok (.isub, 1) := by decide +kernel
theorem dX8_underBy_30 : decode cX8_underBy 30 = .ok (.imul, 1) := by decide +kernel
theorem dX8_underBy_31 : decode cX8_underBy 31 = .ok (.sipush 400, 3) := by decide +kernel
theorem dX8_underBy_34 : decode cX8_underBy 34 = .ok (.idiv, 1) := by decide +kernel
theorem dX8_underBy_35 : decode cX8_underBy 35 = .ok (.isub, 1) := by decide +kernel
theorem dX8_underBy_36 : decode cX8_underBy 36 = .ok (.aload_n 0, 1) := by decide +kernel
theorem dX8_underBy_37 : decode cX8_underBy 37 = .ok (.iload_n 1, 1) := by decide +kernel
theorem dX8_underBy_38 : decode cX8_underBy 38 = .ok (.iload_n 2, 1) := by decide +kernel
theorem dX8_underBy_39 : decode cX8_underBy 39 = .ok (.iload_n 3, 1) := by decide +kernel
theorem dX8_underBy_40 : decode cX8_underBy 40 = .ok (.iload 4, 2) := by decide +kernel
theorem dX8_underBy_42 : decode cX8_underBy 42 = .ok (.invokevirtual 166, 3) := by decide +kernel
theorem dX8_underBy_45 : decode cX8_underBy 45 = .ok (.isub, 1) := by decide +kernel
theorem dX8_underBy_46 : decode cX8_underBy 46 = .ok (.aload_n 0, 1) := by decide +kernel
theorem dX8_underBy_47 : decode cX8_underBy 47 = .ok (.getfield 19, 3) := by decide +kernel
theorem dX8_underBy_50 : decode cX8_underBy 50 = .ok (.iconst 3, 1) := by decide +kernel
theorem dX8_underBy_51 : decode cX8_underBy 51 = .ok (.iload_n 1, 1) := by decide +kernel
theorem dX8_underBy_52 : decode cX8_underBy 52 = .ok (.imul, 1) := by decide +kernel
theorem dX8_underBy_53 : decode cX8_underBy 53 = .ok (.iconst 1, 1) := by decide +kernel
theorem dX8_underBy_54 : decode cX8_underBy 54 = .ok (.iadd, 1) := by decide +kernel
theorem dX8_underBy_55 : decode cX8_underBy 55 = .ok (.iaload, 1) := by decide +kernel
theorem dX8_underBy_56 : decode cX8_underBy 56 = .ok (.aload_n 0, 1) := by decide +kernel
theorem dX8_underBy_57 : decode cX8_underBy 57 = .ok (.getfield 16, 3) := by decide +kernel
theorem dX8_underBy_60 : decode cX8_underBy 60 = .ok (.iconst 1, 1) := by decide +kernel
theorem dX8_underBy_61 : decode cX8_underBy 61 = .ok (.iaload, 1) := by decide +kernel
theorem dX8_underBy_62 : decode cX8_underBy 62 = .ok (.imul, 1) := by decide +kernel
theorem dX8_underBy_63 : decode cX8_underBy 63 = .ok (.bipush 20, 2) := by decide +kernel
theorem dX8_underBy_65 : decode cX8_underBy 65 = .ok (.idiv, 1) := by decide +kernel
theorem dX8_underBy_66 : decode cX8_underBy 66 = .ok (.isub, 1) := by decide +kernel
theorem dX8_underBy_67 : decode cX8_underBy 67 = .ok (.ireturn, 1) := by decide +kernel
theorem dX8_needOf_0 : decode cX8_needOf 0 = .ok (.aload_n 0, 1) := by decide +kernel
theorem dX8_needOf_1 : decode cX8_needOf 1 = .ok (.getfield 16, 3) := by decide +kernel
theorem dX8_needOf_4 : decode cX8_needOf 4 = .ok (.iconst 3, 1) := by decide +kernel
theorem dX8_needOf_5 : decode cX8_needOf 5 = .ok (.iaload, 1) := by decide +kernel
theorem dX8_needOf_6 : decode cX8_needOf 6 = .ok (.ifCond .ne 12, 3) := by decide +kernel
theorem dX8_needOf_9 : decode cX8_needOf 9 = .ok (.aload_n 0, 1) := by decide +kernel
theorem dX8_needOf_10 : decode cX8_needOf 10 = .ok (.getfield 16, 3) := by decide +kernel
theorem dX8_needOf_13 : decode cX8_needOf 13 = .ok (.iconst 4, 1) := by decide +kernel
theorem dX8_needOf_14 : decode cX8_needOf 14 = .ok (.iaload, 1) := by decide +kernel
theorem dX8_needOf_15 : decode cX8_needOf 15 = .ok (.goto 21, 3) := by decide +kernel
theorem dX8_needOf_18 : decode cX8_needOf 18 = .ok (.aload_n 0, 1) := by decide +kernel
theorem dX8_needOf_19 : decode cX8_needOf 19 = .ok (.getfield 19, 3) := by decide +kernel
theorem dX8_needOf_22 : decode cX8_needOf 22 = .ok (.iconst 3, 1) := by decide +kernel
theorem dX8_needOf_23 : decode cX8_needOf 23 = .ok (.iload_n 1, 1) := by decide +kernel
theorem dX8_needOf_24 : decode cX8_needOf 24 = .ok (.imul, 1) := by decide +kernel
theorem dX8_needOf_25 : decode cX8_needOf 25 = .ok (.iaload, 1) := by decide +kernel
theorem dX8_needOf_26 : decode cX8_needOf 26 = .ok (.aload_n 0, 1) := by decide +kernel
theorem dX8_needOf_27 : decode cX8_needOf 27 = .ok (.getfield 16, 3) := by decide +kernel
theorem dX8_needOf_30 : decode cX8_needOf 30 = .ok (.iconst 4, 1) := by decide +kernel
theorem dX8_needOf_31 : decode cX8_needOf 31 = .ok (.iaload, 1) := by decide +kernel
theorem dX8_needOf_32 : decode cX8_needOf 32 = .ok (.imul, 1) := by decide +kernel
theorem dX8_needOf_33 : decode cX8_needOf 33 = .ok (.bipush 100, 2) := by decide +kernel
theorem dX8_needOf_35 : decode cX8_needOf 35 = .ok (.idiv, 1) := by decide +kernel
theorem dX8_needOf_36 : decode cX8_needOf 36 = .ok (.ireturn, 1) := by decide +kernel
theorem dX8_isMinute_0 : decode cX8_isMinute 0 = .ok (.iload_n 0, 1) := by decide +kernel
theorem dX8_isMinute_1 : decode cX8_isMinute 1 = .ok (.i2l, 1) := by decide +kernel
theorem dX8_isMinute_2 : decode cX8_isMinute 2 = .ok (.lconst 0, 1) := by decide +kernel
theorem dX8_isMinute_3 : decode cX8_isMinute 3 = .ok (.ldc2_w 170, 3) := by decide +kernel
theorem dX8_isMinute_6 : decode cX8_isMinute 6 = .ok (.invokestatic 73, 3) := by decide +kernel
theorem dX8_isMinute_9 : decode cX8_isMinute 9 = .ok (.ireturn, 1) := by decide +kernel
theorem dX8_tide_0 : decode cX8_tide 0 = .ok (.iload_n 1, 1) := by decide +kernel
theorem dX8_tide_1 : decode cX8_tide 1 = .ok (.invokestatic 172, 3) := by decide +kernel
theorem dX8_tide_4 : decode cX8_tide 4 = .ok (.ifCond .eq 11, 3) := by decide +kernel
theorem dX8_tide_7 : decode cX8_tide 7 = .ok (.aload_n 0, 1) := by decide +kernel
theorem dX8_tide_8 : decode cX8_tide 8 = .ok (.iload_n 1, 1) := by decide +kernel
theorem dX8_tide_9 : decode cX8_tide 9 = .ok (.invokevirtual 162, 3) := by decide +kernel
theorem dX8_tide_12 : decode cX8_tide 12 = .ok (.goto 4, 3) := by decide +kernel
theorem dX8_tide_15 : decode cX8_tide 15 = .ok (.iconst (-1), 1) := by decide +kernel
theorem dX8_tide_16 : decode cX8_tide 16 = .ok (.ireturn, 1) := by decide +kernel
theorem dX8_water_0 : decode cX8_water 0 = .ok (.aload_n 0, 1) := by decide +kernel
theorem dX8_water_1 : decode cX8_water 1 = .ok (.iload_n 1, 1) := by decide +kernel
theorem dX8_water_2 : decode cX8_water 2 = .ok (.invokevirtual 104, 3) := by decide +kernel
theorem dX8_water_5 : decode cX8_water 5 = .ok (.ifCond .eq 19, 3) := by decide +kernel
theorem dX8_water_8 : decode cX8_water 8 = .ok (.iload_n 2, 1) := by decide +kernel
theorem dX8_water_9 : decode cX8_water 9 = .ok (.invokestatic 172, 3) := by decide +kernel
theorem dX8_water_12 : decode cX8_water 12 = .ok (.ifCond .eq 12, 3) := by decide +kernel
theorem dX8_water_15 : decode cX8_water 15 = .ok (.aload_n 0, 1) := by decide +kernel
theorem dX8_water_16 : decode cX8_water 16 = .ok (.iload_n 1, 1) := by decide +kernel
theorem dX8_water_17 : decode cX8_water 17 = .ok (.iload_n 2, 1) := by decide +kernel
theorem dX8_water_18 : decode cX8_water 18 = .ok (.invokevirtual 175, 3) := by decide +kernel
theorem dX8_water_21 : decode cX8_water 21 = .ok (.goto 5, 3) := by decide +kernel
theorem dX8_water_24 : decode cX8_water 24 = .ok (.ldc 178, 2) := by decide +kernel
theorem dX8_water_26 : decode cX8_water 26 = .ok (.ireturn, 1) := by decide +kernel
theorem dX8_sinks_0 : decode cX8_sinks 0 = .ok (.aload_n 0, 1) := by decide +kernel
theorem dX8_sinks_1 : decode cX8_sinks 1 = .ok (.iload_n 1, 1) := by decide +kernel
theorem dX8_sinks_2 : decode cX8_sinks 2 = .ok (.invokevirtual 179, 3) := by decide +kernel
theorem dX8_sinks_5 : decode cX8_sinks 5 = .ok (.ifCond .eq 26, 3) := by decide +kernel
theorem dX8_sinks_8 : decode cX8_sinks 8 = .ok (.aload_n 0, 1) := by decide +kernel
theorem dX8_sinks_9 : decode cX8_sinks 9 = .ok (.iload_n 2, 1) := by decide +kernel
theorem dX8_sinks_10 : decode cX8_sinks 10 = .ok (.invokevirtual 104, 3) := by decide +kernel
theorem dX8_sinks_13 : decode cX8_sinks 13 = .ok (.ifCond .eq 18, 3) := by decide +kernel
theorem dX8_sinks_16 : decode cX8_sinks 16 = .ok (.iload_n 3, 1) := by decide +kernel
theorem dX8_sinks_17 : decode cX8_sinks 17 = .ok (.invokestatic 172, 3) := by decide +kernel
theorem dX8_sinks_20 : decode cX8_sinks 20 = .ok (.ifCond .eq 11, 3) := by decide +kernel
theorem dX8_sinks_23 : decode cX8_sinks 23 = .ok (.iload 4, 2) := by decide +kernel
theorem dX8_sinks_25 : decode cX8_sinks 25 = .ok (.invokestatic 119, 3) := by decide +kernel
theorem dX8_sinks_28 : decode cX8_sinks 28 = .ok (.ifCond .ne 5, 3) := by decide +kernel
theorem dX8_sinks_31 : decode cX8_sinks 31 = .ok (.iconst (-1), 1) := by decide +kernel
theorem dX8_sinks_32 : decode cX8_sinks 32 = .ok (.ireturn, 1) := by decide +kernel
theorem dX8_sinks_33 : decode cX8_sinks 33 = .ok (.aload_n 0, 1) := by decide +kernel
theorem dX8_sinks_34 : decode cX8_sinks 34 = .ok (.iload_n 1, 1) := by decide +kernel
theorem dX8_sinks_35 : decode cX8_sinks 35 = .ok (.iload_n 2, 1) := by decide +kernel
theorem dX8_sinks_36 : decode cX8_sinks 36 = .ok (.aload_n 0, 1) := by decide +kernel
theorem dX8_sinks_37 : decode cX8_sinks 37 = .ok (.iload_n 2, 1) := by decide +kernel
theorem dX8_sinks_38 : decode cX8_sinks 38 = .ok (.iload_n 3, 1) := by decide +kernel
theorem dX8_sinks_39 : decode cX8_sinks 39 = .ok (.invokevirtual 175, 3) := by decide +kernel
theorem dX8_sinks_42 : decode cX8_sinks 42 = .ok (.iload 4, 2) := by decide +kernel
theorem dX8_sinks_44 : decode cX8_sinks 44 = .ok (.invokevirtual 166, 3) := by decide +kernel
theorem dX8_sinks_47 : decode cX8_sinks 47 = .ok (.ireturn, 1) := by decide +kernel
theorem dX8_under_0 : decode cX8_under 0 = .ok (.aload_n 0, 1) := by decide +kernel
theorem dX8_under_1 : decode cX8_under 1 = .ok (.iload_n 1, 1) := by decide +kernel
theorem dX8_under_2 : decode cX8_under 2 = .ok (.invokevirtual 179, 3) := by decide +kernel
theorem dX8_under_5 : decode cX8_under 5 = .ok (.ifCond .eq 26, 3) := by decide +kernel
theorem dX8_under_8 : decode cX8_under 8 = .ok (.aload_n 0, 1) := by decide +kernel
theorem dX8_under_9 : decode cX8_under 9 = .ok (.iload_n 2, 1) := by decide +kernel
theorem dX8_under_10 : decode cX8_under 10 = .ok (.invokevirtual 104, 3) := by decide +kernel
theorem dX8_under_13 : decode cX8_under 13 = .ok (.ifCond .eq 18, 3) := by decide +kernel
theorem dX8_under_16 : decode cX8_under 16 = .ok (.iload_n 3, 1) := by decide +kernel
theorem dX8_under_17 : decode cX8_under 17 = .ok (.invokestatic 172, 3) := by decide +kernel
theorem dX8_under_20 : decode cX8_under 20 = .ok (.ifCond .eq 11, 3) := by decide +kernel
theorem dX8_under_23 : decode cX8_under 23 = .ok (.iload 4, 2) := by decide +kernel
theorem dX8_under_25 : decode cX8_under 25 = .ok (.invokestatic 119, 3) := by decide +kernel
theorem dX8_under_28 : decode cX8_under 28 = .ok (.ifCond .ne 6, 3) := by decide +kernel
theorem dX8_under_31 : decode cX8_under 31 = .ok (.ldc 178, 2) := by decide +kernel
theorem dX8_under_33 : decode cX8_under 33 = .ok (.ireturn, 1) := by decide +kernel
theorem dX8_under_34 : decode cX8_under 34 = .ok (.aload_n 0, 1) := by decide +kernel
theorem dX8_under_35 : decode cX8_under 35 = .ok (.iload_n 1, 1) := by decide +kernel
theorem dX8_under_36 : decode cX8_under 36 = .ok (.iload_n 2, 1) := by decide +kernel
theorem dX8_under_37 : decode cX8_under 37 = .ok (.aload_n 0, 1) := by decide +kernel
theorem dX8_under_38 : decode cX8_under 38 = .ok (.iload_n 2, 1) := by decide +kernel
theorem dX8_under_39 : decode cX8_under 39 = .ok (.iload_n 3, 1) := by decide +kernel
theorem dX8_under_40 : decode cX8_under 40 = .ok (.invokevirtual 175, 3) := by decide +kernel
theorem dX8_under_43 : decode cX8_under 43 = .ok (.iload 4, 2) := by decide +kernel
theorem dX8_under_45 : decode cX8_under 45 = .ok (.invokevirtual 182, 3) := by decide +kernel
theorem dX8_under_48 : decode cX8_under 48 = .ok (.ireturn, 1) := by decide +kernel
theorem dX8_need_0 : decode cX8_need 0 = .ok (.aload_n 0, 1) := by decide +kernel
theorem dX8_need_1 : decode cX8_need 1 = .ok (.iload_n 1, 1) := by decide +kernel
theorem dX8_need_2 : decode cX8_need 2 = .ok (.invokevirtual 179, 3) := by decide +kernel
theorem dX8_need_5 : decode cX8_need 5 = .ok (.ifCond .eq 11, 3) := by decide +kernel
theorem dX8_need_8 : decode cX8_need 8 = .ok (.aload_n 0, 1) := by decide +kernel
theorem dX8_need_9 : decode cX8_need 9 = .ok (.iload_n 1, 1) := by decide +kernel
theorem dX8_need_10 : decode cX8_need 10 = .ok (.invokevirtual 185, 3) := by decide +kernel
theorem dX8_need_13 : decode cX8_need 13 = .ok (.goto 4, 3) := by decide +kernel
theorem dX8_need_16 : decode cX8_need 16 = .ok (.iconst (-1), 1) := by decide +kernel
theorem dX8_need_17 : decode cX8_need 17 = .ok (.ireturn, 1) := by decide +kernel
theorem dX8_goes_0 : decode cX8_goes 0 = .ok (.aload_n 0, 1) := by decide +kernel
theorem dX8_goes_1 : decode cX8_goes 1 = .ok (.bipush (-4), 2) := by decide +kernel
theorem dX8_goes_3 : decode cX8_goes 3 = .ok (.putfield 188, 3) := by decide +kernel
theorem dX8_goes_6 : decode cX8_goes 6 = .ok (.aload_n 0, 1) := by decide +kernel
theorem dX8_goes_7 : decode cX8_goes 7 = .ok (.iconst 0, 1) := by decide +kernel
theorem dX8_goes_8 : decode cX8_goes 8 = .ok (.putfield 191, 3) := by decide +kernel
theorem dX8_goes_11 : decode cX8_goes 11 = .ok (.aload_n 0, 1) := by decide +kernel
theorem dX8_goes_12 : decode cX8_goes 12 = .ok (.ldc 194, 2) := by decide +kernel
theorem dX8_goes_14 : decode cX8_goes 14 = .ok (.putfield 195, 3) := by decide +kernel
theorem dX8_goes_17 : decode cX8_goes 17 = .ok (.aload_n 0, 1) := by decide +kernel
theorem dX8_goes_18 : decode cX8_goes 18 = .ok (.iconst 1, 1) := by decide +kernel
theorem dX8_goes_19 : decode cX8_goes 19 = .ok (.putfield 198, 3) := by decide +kernel
theorem dX8_goes_22 : decode cX8_goes 22 = .ok (.iload_n 2, 1) := by decide +kernel
theorem dX8_goes_23 : decode cX8_goes 23 = .ok (.istore_n 3, 1) := by decide +kernel
theorem dX8_goes_24 : decode cX8_goes 24 = .ok (.iconst 0, 1) := by decide +kernel
theorem dX8_goes_25 : decode cX8_goes 25 = .ok (.istore 4, 2) := by decide +kernel
theorem dX8_goes_27 : decode cX8_goes 27 = .ok (.iload 4, 2) := by decide +kernel
theorem dX8_goes_29 : decode cX8_goes 29 = .ok (.aload_n 0, 1) := by decide +kernel
theorem dX8_goes_30 : decode cX8_goes 30 = .ok (.getfield 69, 3) := by decide +kernel
theorem dX8_goes_33 : decode cX8_goes 33 = .ok (.if_icmp .ge 129, 3) := by decide +kernel
theorem dX8_goes_36 : decode cX8_goes 36 = .ok (.aload_n 0, 1) := by decide +kernel
theorem dX8_goes_37 : decode cX8_goes 37 = .ok (.getfield 188, 3) := by decide +kernel
theorem dX8_goes_40 : decode cX8_goes 40 = .ok (.ifCond .ge 122, 3) := by decide +kernel
theorem dX8_goes_43 : decode cX8_goes 43 = .ok (.aload_n 0, 1) := by decide +kernel
theorem dX8_goes_44 : decode cX8_goes 44 = .ok (.getfield 7, 3) := by decide +kernel
theorem dX8_goes_47 : decode cX8_goes 47 = .ok (.bipush 6, 2) := by decide +kernel
theorem dX8_goes_49 : decode cX8_goes 49 = .ok (.iload 4, 2) := by decide +kernel
theorem dX8_goes_51 : decode cX8_goes 51 = .ok (.imul, 1) := by decide +kernel
theorem dX8_goes_52 : decode cX8_goes 52 = .ok (.iconst 5, 1) := by decide +kernel
theorem dX8_goes_53 : decode cX8_goes 53 = .ok (.iadd, 1) := by decide +kernel
theorem dX8_goes_54 : decode cX8_goes 54 = .ok (.iaload, 1) := by decide +kernel
theorem dX8_goes_55 : decode cX8_goes 55 = .ok (.istore 5, 2) := by decide +kernel
theorem dX8_goes_57 : decode cX8_goes 57 = .ok (.aload_n 0, 1) := by decide +kernel
theorem dX8_goes_58 : decode cX8_goes 58 = .ok (.iload_n 1, 1) := by decide +kernel
theorem dX8_goes_59 : decode cX8_goes 59 = .ok (.iload 4, 2) := by decide +kernel
theorem dX8_goes_61 : decode cX8_goes 61 = .ok (.aload_n 0, 1) := by decide +kernel
theorem dX8_goes_62 : decode cX8_goes 62 = .ok (.iload 4, 2) := by decide +kernel
theorem dX8_goes_64 : decode cX8_goes 64 = .ok (.iload_n 3, 1) := by decide +kernel
theorem dX8_goes_65 : decode cX8_goes 65 = .ok (.invokevirtual 175, 3) := by decide +kernel
theorem dX8_goes_68 : decode cX8_goes 68 = .ok (.iload 5, 2) := by decide +kernel
theorem dX8_goes_70 : decode cX8_goes 70 = .ok (.invokevirtual 182, 3) := by decide +kernel
theorem dX8_goes_73 : decode cX8_goes 73 = .ok (.istore 6, 2) := by decide +kernel
theorem dX8_goes_75 : decode cX8_goes 75 = .ok (.aload_n 0, 1) := by decide +kernel
theorem dX8_goes_76 : decode cX8_goes 76 = .ok (.iload 6, 2) := by decide +kernel
theorem dX8_goes_78 : decode cX8_goes 78 = .ok (.aload_n 0, 1) := by decide +kernel
theorem dX8_goes_79 : decode cX8_goes 79 = .ok (.getfield 195, 3) := by decide +kernel
theorem dX8_goes_82 : decode cX8_goes 82 = .ok (.if_icmp .ge 8, 3) := by decide +kernel
theorem dX8_goes_85 : decode cX8_goes 85 = .ok (.iload 6, 2) := by decide +kernel
theorem dX8_goes_87 : decode cX8_goes 87 = .ok (.goto 7, 3) := by decide +kernel
theorem dX8_goes_90 : decode cX8_goes 90 = .ok (.aload_n 0, 1) := by decide +kernel
theorem dX8_goes_91 : decode cX8_goes 91 = .ok (.getfield 195, 3) := by decide +kernel
theorem dX8_goes_94 : decode cX8_goes 94 = .ok (.putfield 195, 3) := by decide +kernel
theorem dX8_goes_97 : decode cX8_goes 97 = .ok (.aload_n 0, 1) := by decide +kernel
theorem dX8_goes_98 : decode cX8_goes 98 = .ok (.aload_n 0, 1) := by decide +kernel
theorem dX8_goes_99 : decode cX8_goes 99 = .ok (.getfield 198, 3) := by decide +kernel
theorem dX8_goes_102 : decode cX8_goes 102 = .ok (.ifCond .eq 17, 3) := by decide +kernel
theorem dX8_goes_105 : decode cX8_goes 105 = .ok (.iload 6, 2) := by decide +kernel
theorem dX8_goes_107 : decode cX8_goes 107 = .ok (.aload_n 0, 1) := by decide +kernel
theorem dX8_goes_108 : decode cX8_goes 108 = .ok (.iload_n 1, 1) := by decide +kernel
theorem dX8_goes_109 : decode cX8_goes 109 = .ok (.invokevirtual 185, 3) := by decide +kernel
theorem dX8_goes_112 : decode cX8_goes 112 = .ok (.if_icmp .lt 7, 3) := by decide +kernel
theorem dX8_goes_115 : decode cX8_goes 115 = .ok (.iconst 1, 1) := by decide +kernel
theorem dX8_goes_116 : decode cX8_goes 116 = .ok (.goto 4, 3) := by decide +kernel
theorem dX8_goes_119 : decode cX8_goes 119 = .ok (.iconst 0, 1) := by decide +kernel
theorem dX8_goes_120 : decode cX8_goes 120 = .ok (.putfield 198, 3) := by decide +kernel
theorem dX8_goes_123 : decode cX8_goes 123 = .ok (.aload_n 0, 1) := by decide +kernel
theorem dX8_goes_124 : decode cX8_goes 124 = .ok (.iload 6, 2) := by decide +kernel
theorem dX8_goes_126 : decode cX8_goes 126 = .ok (.ifCond .ge 8, 3) := by decide +kernel
theorem dX8_goes_129 : decode cX8_goes 129 = .ok (.iload 4, 2) := by decide +kernel
theorem dX8_goes_131 : decode cX8_goes 131 = .ok (.goto 5, 3) := by decide +kernel
theorem dX8_goes_134 : decode cX8_goes 134 = .ok (.bipush (-4), 2) := by decide +kernel
theorem dX8_goes_136 : decode cX8_goes 136 = .ok (.putfield 188, 3) := by decide +kernel
theorem dX8_goes_139 : decode cX8_goes 139 = .ok (.iload_n 3, 1) := by decide +kernel
theorem dX8_goes_140 : decode cX8_goes 140 = .ok (.iload 6, 2) := by decide +kernel
theorem dX8_goes_142 : decode cX8_goes 142 = .ok (.ifCond .ge 7, 3) := by decide +kernel
theorem dX8_goes_145 : decode cX8_goes 145 = .ok (.iconst 0, 1) := by decide +kernel
theorem dX8_goes_146 : decode cX8_goes 146 = .ok (.goto 8, 3) := by decide +kernel
theorem dX8_goes_149 : decode cX8_goes 149 = .ok (.bipush 60, 2) := by decide +kernel
theorem dX8_goes_151 : decode cX8_goes 151 = .ok (.iload 5, 2) := by decide +kernel
theorem dX8_goes_153 : decode cX8_goes 153 = .ok (.idiv, 1) := by decide +kernel
theorem dX8_goes_154 : decode cX8_goes 154 = .ok (.iadd, 1) := by decide +kernel
theorem dX8_goes_155 : decode cX8_goes 155 = .ok (.istore_n 3, 1) := by decide +kernel
theorem dX8_goes_156 : decode cX8_goes 156 = .ok (.iinc 4 1, 3) := by decide +kernel
theorem dX8_goes_159 : decode cX8_goes 159 = .ok (.goto (-132), 3) := by decide +kernel
theorem dX8_goes_162 : decode cX8_goes 162 = .ok (.aload_n 0, 1) := by decide +kernel
theorem dX8_goes_163 : decode cX8_goes 163 = .ok (.iload_n 3, 1) := by decide +kernel
theorem dX8_goes_164 : decode cX8_goes 164 = .ok (.iload_n 2, 1) := by decide +kernel
theorem dX8_goes_165 : decode cX8_goes 165 = .ok (.isub, 1) := by decide +kernel
theorem dX8_goes_166 : decode cX8_goes 166 = .ok (.putfield 191, 3) := by decide +kernel
theorem dX8_goes_169 : decode cX8_goes 169 = .ok (.return_, 1) := by decide +kernel
end
section
theorem dX8_run_0 : decode cX8_run 0 = .ok (.aload_n 0, 1) := by decide +kernel
theorem dX8_run_1 : decode cX8_run 1 = .ok (.iload_n 1, 1) := by decide +kernel
theorem dX8_run_2 : decode cX8_run 2 = .ok (.invokevirtual 179, 3) := by decide +kernel
theorem dX8_run_5 : decode cX8_run 5 = .ok (.ifCond .eq 22, 3) := by decide +kernel
theorem dX8_run_8 : decode cX8_run 8 = .ok (.iload_n 2, 1) := by decide +kernel
theorem dX8_run_9 : decode cX8_run 9 = .ok (.invokestatic 201, 3) := by decide +kernel
theorem dX8_run_12 : decode cX8_run 12 = .ok (.ifCond .eq 15, 3) := by decide +kernel
theorem dX8_run_15 : decode cX8_run 15 = .ok (.iload_n 3, 1) := by decide +kernel
theorem dX8_run_16 : decode cX8_run 16 = .ok (.i2l, 1) := by decide +kernel
theorem dX8_run_17 : decode cX8_run 17 = .ok (.lconst 0, 1) := by decide +kernel
theorem dX8_run_18 : decode cX8_run 18 = .ok (.ldc2_w 204, 3) := by decide +kernel
theorem dX8_run_21 : decode cX8_run 21 = .ok (.invokestatic 73, 3) := by decide +kernel
theorem dX8_run_24 : decode cX8_run 24 = .ok (.ifCond .ne 5, 3) := by decide +kernel
theorem dX8_run_27 : decode cX8_run 27 = .ok (.iconst (-1), 1) := by decide +kernel
theorem dX8_run_28 : decode cX8_run 28 = .ok (.ireturn, 1) := by decide +kernel
theorem dX8_run_29 : decode cX8_run 29 = .ok (.aload_n 0, 1) := by decide +kernel
theorem dX8_run_30 : decode cX8_run 30 = .ok (.getfield 69, 3) := by decide +kernel
theorem dX8_run_33 : decode cX8_run 33 = .ok (.ifCond .ne 6, 3) := by decide +kernel
theorem dX8_run_36 : decode cX8_run 36 = .ok (.bipush (-2), 2) := by decide +kernel
theorem dX8_run_38 : decode cX8_run 38 = .ok (.ireturn, 1) := by decide +kernel
theorem dX8_run_39 : decode cX8_run 39 = .ok (.aload_n 0, 1) := by decide +kernel
theorem dX8_run_40 : decode cX8_run 40 = .ok (.iload_n 1, 1) := by decide +kernel
theorem dX8_run_41 : decode cX8_run 41 = .ok (.iload_n 2, 1) := by decide +kernel
theorem dX8_run_42 : decode cX8_run 42 = .ok (.invokevirtual 206, 3) := by decide +kernel
theorem dX8_run_45 : decode cX8_run 45 = .ok (.iload_n 3, 1) := by decide +kernel
theorem dX8_run_46 : decode cX8_run 46 = .ok (.ifCond .ne 10, 3) := by decide +kernel
theorem dX8_run_49 : decode cX8_run 49 = .ok (.aload_n 0, 1) := by decide +kernel
theorem dX8_run_50 : decode cX8_run 50 = .ok (.getfield 188, 3) := by decide +kernel
theorem dX8_run_53 : decode cX8_run 53 = .ok (.goto 42, 3) := by decide +kernel
theorem dX8_run_56 : decode cX8_run 56 = .ok (.iload_n 3, 1) := by decide +kernel
theorem dX8_run_57 : decode cX8_run 57 = .ok (.iconst 1, 1) := by decide +kernel
theorem dX8_run_58 : decode cX8_run 58 = .ok (.if_icmp .ne 10, 3) := by decide +kernel
theorem dX8_run_61 : decode cX8_run 61 = .ok (.aload_n 0, 1) := by decide +kernel
theorem dX8_run_62 : decode cX8_run 62 = .ok (.getfield 191, 3) := by decide +kernel
theorem dX8_run_65 : decode cX8_run 65 = .ok (.goto 30, 3) := by decide +kernel
theorem dX8_run_68 : decode cX8_run 68 = .ok (.iload_n 3, 1) := by decide +kernel
theorem dX8_run_69 : decode cX8_run 69 = .ok (.iconst 2, 1) := by decide +kernel
theorem dX8_run_70 : decode cX8_run 70 = .ok (.if_icmp .ne 13, 3) := by decide +kernel
theorem dX8_run_73 : decode cX8_run 73 = .ok (.ldc 194, 2) := by decide +kernel
theorem dX8_run_75 : decode cX8_run 75 = .ok (.aload_n 0, 1) := by decide +kernel
theorem dX8_run_76 : decode cX8_run 76 = .ok (.getfield 195, 3) := by decide +kernel
theorem dX8_run_79 : decode cX8_run 79 = .ok (.iadd, 1) := by decide +kernel
theorem dX8_run_80 : decode cX8_run 80 = .ok (.goto 15, 3) := by decide +kernel
theorem dX8_run_83 : decode cX8_run 83 = .ok (.aload_n 0, 1) := by decide +kernel
theorem dX8_run_84 : decode cX8_run 84 = .ok (.getfield 198, 3) := by decide +kernel
theorem dX8_run_87 : decode cX8_run 87 = .ok (.ifCond .eq 7, 3) := by decide +kernel
theorem dX8_run_90 : decode cX8_run 90 = .ok (.iconst 1, 1) := by decide +kernel
theorem dX8_run_91 : decode cX8_run 91 = .ok (.goto 4, 3) := by decide +kernel
theorem dX8_run_94 : decode cX8_run 94 = .ok (.iconst 0, 1) := by decide +kernel
theorem dX8_run_95 : decode cX8_run 95 = .ok (.ireturn, 1) := by decide +kernel
theorem dX8_quickest_0 : decode cX8_quickest 0 = .ok (.aload_n 0, 1) := by decide +kernel
theorem dX8_quickest_1 : decode cX8_quickest 1 = .ok (.iload_n 1, 1) := by decide +kernel
theorem dX8_quickest_2 : decode cX8_quickest 2 = .ok (.invokevirtual 185, 3) := by decide +kernel
theorem dX8_quickest_5 : decode cX8_quickest 5 = .ok (.istore_n 3, 1) := by decide +kernel
theorem dX8_quickest_6 : decode cX8_quickest 6 = .ok (.iconst 0, 1) := by decide +kernel
theorem dX8_quickest_7 : decode cX8_quickest 7 = .ok (.istore 4, 2) := by decide +kernel
theorem dX8_quickest_9 : decode cX8_quickest 9 = .ok (.iload 4, 2) := by decide +kernel
theorem dX8_quickest_11 : decode cX8_quickest 11 = .ok (.sipush 961, 3) := by decide +kernel
theorem dX8_quickest_14 : decode cX8_quickest 14 = .ok (.if_icmp .ge 26, 3) := by decide +kernel
theorem dX8_quickest_17 : decode cX8_quickest 17 = .ok (.aload_n 0, 1) := by decide +kernel
theorem dX8_quickest_18 : decode cX8_quickest 18 = .ok (.getfield 28, 3) := by decide +kernel
theorem dX8_quickest_21 : decode cX8_quickest 21 = .ok (.sipush 961, 3) := by decide +kernel
theorem dX8_quickest_24 : decode cX8_quickest 24 = .ok (.aload_n 0, 1) := by decide +kernel
theorem dX8_quickest_25 : decode cX8_quickest 25 = .ok (.getfield 69, 3) := by decide +kernel
theorem dX8_quickest_28 : decode cX8_quickest 28 = .ok (.imul, 1) := by decide +kernel
theorem dX8_quickest_29 : decode cX8_quickest 29 = .ok (.iload 4, 2) := by decide +kernel
theorem dX8_quickest_31 : decode cX8_quickest 31 = .ok (.iadd, 1) := by decide +kernel
theorem dX8_quickest_32 : decode cX8_quickest 32 = .ok (.iconst 0, 1) := by decide +kernel
theorem dX8_quickest_33 : decode cX8_quickest 33 = .ok (.iastore, 1) := by decide +kernel
theorem dX8_quickest_34 : decode cX8_quickest 34 = .ok (.iinc 4 1, 3) := by decide +kernel
theorem dX8_quickest_37 : decode cX8_quickest 37 = .ok (.goto (-28), 3) := by decide +kernel
theorem dX8_quickest_40 : decode cX8_quickest 40 = .ok (.aload_n 0, 1) := by decide +kernel
theorem dX8_quickest_41 : decode cX8_quickest 41 = .ok (.getfield 69, 3) := by decide +kernel
theorem dX8_quickest_44 : decode cX8_quickest 44 = .ok (.iconst 1, 1) := by decide +kernel
theorem dX8_quickest_45 : decode cX8_quickest 45 = .ok (.isub, 1) := by decide +kernel
theorem dX8_quickest_46 : decode cX8_quickest 46 = .ok (.istore 4, 2) := by decide +kernel
theorem dX8_quickest_48 : decode cX8_quickest 48 = .ok (.iload 4, 2) := by decide +kernel
theorem dX8_quickest_50 : decode cX8_quickest 50 = .ok (.ifCond .lt 179, 3) := by decide +kernel
theorem dX8_quickest_53 : decode cX8_quickest 53 = .ok (.iconst 0, 1) := by decide +kernel
theorem dX8_quickest_54 : decode cX8_quickest 54 = .ok (.istore 5, 2) := by decide +kernel
theorem dX8_quickest_56 : decode cX8_quickest 56 = .ok (.iload 5, 2) := by decide +kernel
theorem dX8_quickest_58 : decode cX8_quickest 58 = .ok (.bipush 60, 2) := by decide +kernel
theorem dX8_quickest_60 : decode cX8_quickest 60 = .ok (.iload 4, 2) := by decide +kernel
theorem dX8_quickest_62 : decode cX8_quickest 62 = .ok (.imul, 1) := by decide +kernel
theorem dX8_quickest_63 : decode cX8_quickest 63 = .ok (.if_icmp .gt 160, 3) := by decide +kernel
theorem dX8_quickest_66 : decode cX8_quickest 66 = .ok (.aload_n 0, 1) := by decide +kernel
theorem dX8_quickest_67 : decode cX8_quickest 67 = .ok (.iload 4, 2) := by decide +kernel
theorem dX8_quickest_69 : decode cX8_quickest 69 = .ok (.iload_n 2, 1) := by decide +kernel
theorem dX8_quickest_70 : decode cX8_quickest 70 = .ok (.iload 5, 2) := by decide +kernel
theorem dX8_quickest_72 : decode cX8_quickest 72 = .ok (.iadd, 1) := by decide +kernel
theorem dX8_quickest_73 : decode cX8_quickest 73 = .ok (.invokevirtual 175, 3) := by decide +kernel
theorem dX8_quickest_76 : decode cX8_quickest 76 = .ok (.istore 6, 2) := by decide +kernel
theorem dX8_quickest_78 : decode cX8_quickest 78 = .ok (.ldc 194, 2) := by decide +kernel
theorem dX8_quickest_80 : decode cX8_quickest 80 = .ok (.istore 7, 2) := by decide +kernel
theorem dX8_quickest_82 : decode cX8_quickest 82 = .ok (.iconst 0, 1) := by decide +kernel
theorem dX8_quickest_83 : decode cX8_quickest 83 = .ok (.istore 8, 2) := by decide +kernel
theorem dX8_quickest_85 : decode cX8_quickest 85 = .ok (.iconst 1, 1) := by decide +kernel
theorem dX8_quickest_86 : decode cX8_quickest 86 = .ok (.istore 9, 2) := by decide +kernel
theorem dX8_quickest_88 : decode cX8_quickest 88 = .ok (.iload 9, 2) := by decide +kernel
theorem dX8_quickest_90 : decode cX8_quickest 90 = .ok (.bipush 16, 2) := by decide +kernel
theorem dX8_quickest_92 : decode cX8_quickest 92 = .ok (.if_icmp .ge 93, 3) := by decide +kernel
theorem dX8_quickest_95 : decode cX8_quickest 95 = .ok (.aload_n 0, 1) := by decide +kernel
theorem dX8_quickest_96 : decode cX8_quickest 96 = .ok (.iload_n 1, 1) := by decide +kernel
theorem dX8_quickest_97 : decode cX8_quickest 97 = .ok (.iload 4, 2) := by decide +kernel
theorem dX8_quickest_99 : decode cX8_quickest 99 = .ok (.iload 6, 2) := by decide +kernel
theorem dX8_quickest_101 : decode cX8_quickest 101 = .ok (.iload 9, 2) := by decide +kernel
theorem dX8_quickest_103 : decode cX8_quickest 103 = .ok (.invokevirtual 182, 3) := by decide +kernel
theorem dX8_quickest_106 : decode cX8_quickest 106 = .ok (.iload_n 3, 1) := by decide +kernel
theorem dX8_quickest_107 : decode cX8_quickest 107 = .ok (.if_icmp .lt 36, 3) := by decide +kernel
theorem dX8_quickest_110 : decode cX8_quickest 110 = .ok (.bipush 60, 2) := by decide +kernel
theorem dX8_quickest_112 : decode cX8_quickest 112 = .ok (.iload 9, 2) := by decide +kernel
theorem dX8_quickest_114 : decode cX8_quickest 114 = .ok (.idiv, 1) := by decide +kernel
theorem dX8_quickest_115 : decode cX8_quickest 115 = .ok (.aload_n 0, 1) := by decide +kernel
theorem dX8_quickest_116 : decode cX8_quickest 116 = .ok (.getfield 28, 3) := by decide +kernel
theorem dX8_quickest_119 : decode cX8_quickest 119 = .ok (.sipush 961, 3) := by decide +kernel
theorem dX8_quickest_122 : decode cX8_quickest 122 = .ok (.iload 4, 2) := by decide +kernel
theorem dX8_quickest_124 : decode cX8_quickest 124 = .ok (.imul, 1) := by decide +kernel
theorem dX8_quickest_125 : decode cX8_quickest 125 = .ok (.sipush 961, 3) := by decide +kernel
theorem dX8_quickest_128 : decode cX8_quickest 128 = .ok (.iadd, 1) := by decide +kernel
theorem dX8_quickest_129 : decode cX8_quickest 129 = .ok (.iload 5, 2) := by decide +kernel
theorem dX8_quickest_131 : decode cX8_quickest 131 = .ok (.iadd, 1) := by decide +kernel
theorem dX8_quickest_132 : decode cX8_quickest 132 = .ok (.bipush 60, 2) := by decide +kernel
theorem dX8_quickest_134 : decode cX8_quickest 134 = .ok (.iload 9, 2) := by decide +kernel
theorem dX8_quickest_136 : decode cX8_quickest 136 = .ok (.idiv, 1) := by decide +kernel
theorem dX8_quickest_137 : decode cX8_quickest 137 = .ok (.iadd, 1) := by decide +kernel
theorem dX8_quickest_138 : decode cX8_quickest 138 = .ok (.iaload, 1) := by decide +kernel
theorem dX8_quickest_139 : decode cX8_quickest 139 = .ok (.iadd, 1) := by decide +kernel
theorem dX8_quickest_140 : decode cX8_quickest 140 = .ok (.goto 5, 3) := by decide +kernel
theorem dX8_quickest_143 : decode cX8_quickest 143 = .ok (.ldc 194, 2) := by decide +kernel
theorem dX8_quickest_145 : decode cX8_quickest 145 = .ok (.istore 10, 2) := by decide +kernel
theorem dX8_quickest_147 : decode cX8_quickest 147 = .ok (.iload 10, 2) := by decide +kernel
theorem dX8_quickest_149 : decode cX8_quickest 149 = .ok (.iload 7, 2) := by decide +kernel
theorem dX8_quickest_151 : decode cX8_quickest 151 = .ok (.if_icmp .ge 8, 3) := by decide +kernel
theorem dX8_quickest_154 : decode cX8_quickest 154 = .ok (.iload 9, 2) := by decide +kernel
theorem dX8_quickest_156 : decode cX8_quickest 156 = .ok (.goto 5, 3) := by decide +kernel
theorem dX8_quickest_159 : decode cX8_quickest 159 = .ok (.iload 8, 2) := by decide +kernel
theorem dX8_quickest_161 : decode cX8_quickest 161 = .ok (.istore 8, 2) := by decide +kernel
theorem dX8_quickest_163 : decode cX8_quickest 163 = .ok (.iload 10, 2) := by decide +kernel
theorem dX8_quickest_165 : decode cX8_quickest 165 = .ok (.iload 7, 2) := by decide +kernel
theorem dX8_quickest_167 : decode cX8_quickest 167 = .ok (.if_icmp .ge 8, 3) := by decide +kernel
theorem dX8_quickest_170 : decode cX8_quickest 170 = .ok (.iload 10, 2) := by decide +kernel
theorem dX8_quickest_172 : decode cX8_quickest 172 = .ok (.goto 5, 3) := by decide +kernel
theorem dX8_quickest_175 : decode cX8_quickest 175 = .ok (.iload 7, 2) := by decide +kernel
theorem dX8_quickest_177 : decode cX8_quickest 177 = .ok (.istore 7, 2) := by decide +kernel
theorem dX8_quickest_179 : decode cX8_quickest 179 = .ok (.iinc 9 1, 3) := by decide +kernel
theorem dX8_quickest_182 : decode cX8_quickest 182 = .ok (.goto (-94), 3) := by decide +kernel
theorem dX8_quickest_185 : decode cX8_quickest 185 = .ok (.aload_n 0, 1) := by decide +kernel
theorem dX8_quickest_186 : decode cX8_quickest 186 = .ok (.getfield 28, 3) := by decide +kernel
theorem dX8_quickest_189 : decode cX8_quickest 189 = .ok (.sipush 961, 3) := by decide +kernel
theorem dX8_quickest_192 : decode cX8_quickest 192 = .ok (.iload 4, 2) := by decide +kernel
theorem dX8_quickest_194 : decode cX8_quickest 194 = .ok (.imul, 1) := by decide +kernel
theorem dX8_quickest_195 : decode cX8_quickest 195 = .ok (.iload 5, 2) := by decide +kernel
theorem dX8_quickest_197 : decode cX8_quickest 197 = .ok (.iadd, 1) := by decide +kernel
theorem dX8_quickest_198 : decode cX8_quickest 198 = .ok (.iload 7, 2) := by decide +kernel
theorem dX8_quickest_200 : decode cX8_quickest 200 = .ok (.iastore, 1) := by decide +kernel
theorem dX8_quickest_201 : decode cX8_quickest 201 = .ok (.aload_n 0, 1) := by decide +kernel
theorem dX8_quickest_202 : decode cX8_quickest 202 = .ok (.getfield 31, 3) := by decide +kernel
theorem dX8_quickest_205 : decode cX8_quickest 205 = .ok (.sipush 961, 3) := by decide +kernel
theorem dX8_quickest_208 : decode cX8_quickest 208 = .ok (.iload 4, 2) := by decide +kernel
theorem dX8_quickest_210 : decode cX8_quickest 210 = .ok (.imul, 1) := by decide +kernel
theorem dX8_quickest_211 : decode cX8_quickest 211 = .ok (.iload 5, 2) := by decide +kernel
theorem dX8_quickest_213 : decode cX8_quickest 213 = .ok (.iadd, 1) := by decide +kernel
theorem dX8_quickest_214 : decode cX8_quickest 214 = .ok (.iload 8, 2) := by decide +kernel
theorem dX8_quickest_216 : decode cX8_quickest 216 = .ok (.iastore, 1) := by decide +kernel
theorem dX8_quickest_217 : decode cX8_quickest 217 = .ok (.iinc 5 1, 3) := by decide +kernel
theorem dX8_quickest_220 : decode cX8_quickest 220 = .ok (.goto (-164), 3) := by decide +kernel
theorem dX8_quickest_223 : decode cX8_quickest 223 = .ok (.iinc 4 (-1), 3) := by decide +kernel
theorem dX8_quickest_226 : decode cX8_quickest 226 = .ok (.goto (-178), 3) := by decide +kernel
theorem dX8_quickest_229 : decode cX8_quickest 229 = .ok (.aload_n 0, 1) := by decide +kernel
theorem dX8_quickest_230 : decode cX8_quickest 230 = .ok (.getfield 28, 3) := by decide +kernel
theorem dX8_quickest_233 : decode cX8_quickest 233 = .ok (.iconst 0, 1) := by decide +kernel
theorem dX8_quickest_234 : decode cX8_quickest 234 = .ok (.iaload, 1) := by decide +kernel
theorem dX8_quickest_235 : decode cX8_quickest 235 = .ok (.ireturn, 1) := by decide +kernel
theorem dX8_least_0 : decode cX8_least 0 = .ok (.aload_n 0, 1) := by decide +kernel
theorem dX8_least_1 : decode cX8_least 1 = .ok (.iload_n 1, 1) := by decide +kernel
theorem dX8_least_2 : decode cX8_least 2 = .ok (.invokevirtual 179, 3) := by decide +kernel
theorem dX8_least_5 : decode cX8_least 5 = .ok (.ifCond .eq 24, 3) := by decide +kernel
theorem dX8_least_8 : decode cX8_least 8 = .ok (.iload_n 2, 1) := by decide +kernel
theorem dX8_least_9 : decode cX8_least 9 = .ok (.invokestatic 201, 3) := by decide +kernel
theorem dX8_least_12 : decode cX8_least 12 = .ok (.ifCond .eq 17, 3) := by decide +kernel
theorem dX8_least_15 : decode cX8_least 15 = .ok (.iload_n 3, 1) := by decide +kernel
theorem dX8_least_16 : decode cX8_least 16 = .ok (.i2l, 1) := by decide +kernel
theorem dX8_least_17 : decode cX8_least 17 = .ok (.ldc2_w 210, 3) := by decide +kernel
theorem dX8_least_20 : decode cX8_least 20 = .ok (.ldc2_w 80, 3) := by decide +kernel
theorem dX8_least_23 : decode cX8_least 23 = .ok (.invokestatic 73, 3) := by decide +kernel
theorem dX8_least_26 : decode cX8_least 26 = .ok (.ifCond .ne 5, 3) := by decide +kernel
theorem dX8_least_29 : decode cX8_least 29 = .ok (.iconst (-1), 1) := by decide +kernel
theorem dX8_least_30 : decode cX8_least 30 = .ok (.ireturn, 1) := by decide +kernel
theorem dX8_least_31 : decode cX8_least 31 = .ok (.aload_n 0, 1) := by decide +kernel
theorem dX8_least_32 : decode cX8_least 32 = .ok (.getfield 69, 3) := by decide +kernel
theorem dX8_least_35 : decode cX8_least 35 = .ok (.ifCond .eq 11, 3) := by decide +kernel
theorem dX8_least_38 : decode cX8_least 38 = .ok (.iload_n 3, 1) := by decide +kernel
theorem dX8_least_39 : decode cX8_least 39 = .ok (.aload_n 0, 1) := by decide +kernel
theorem dX8_least_40 : decode cX8_least 40 = .ok (.getfield 69, 3) := by decide +kernel
theorem dX8_least_43 : decode cX8_least 43 = .ok (.if_icmp .lt 17, 3) := by decide +kernel
theorem dX8_least_46 : decode cX8_least 46 = .ok (.aload_n 0, 1) := by decide +kernel
theorem dX8_least_47 : decode cX8_least 47 = .ok (.getfield 69, 3) := by decide +kernel
theorem dX8_least_50 : decode cX8_least 50 = .ok (.ifCond .ne 8, 3) := by decide +kernel
theorem dX8_least_53 : decode cX8_least 53 = .ok (.bipush (-2), 2) := by decide +kernel
theorem dX8_least_55 : decode cX8_least 55 = .ok (.goto 4, 3) := by decide +kernel
theorem dX8_least_58 : decode cX8_least 58 = .ok (.iconst (-1), 1) := by decide +kernel
theorem dX8_least_59 : decode cX8_least 59 = .ok (.ireturn, 1) := by decide +kernel
theorem dX8_least_60 : decode cX8_least 60 = .ok (.aload_n 0, 1) := by decide +kernel
theorem dX8_least_61 : decode cX8_least 61 = .ok (.iload_n 1, 1) := by decide +kernel
theorem dX8_least_62 : decode cX8_least 62 = .ok (.iload_n 2, 1) := by decide +kernel
theorem dX8_least_63 : decode cX8_least 63 = .ok (.invokevirtual 212, 3) := by decide +kernel
theorem dX8_least_66 : decode cX8_least 66 = .ok (.istore 4, 2) := by decide +kernel
theorem dX8_least_68 : decode cX8_least 68 = .ok (.iload 4, 2) := by decide +kernel
theorem dX8_least_70 : decode cX8_least 70 = .ok (.ldc 194, 2) := by decide +kernel
theorem dX8_least_72 : decode cX8_least 72 = .ok (.if_icmp .lt 6, 3) := by decide +kernel
theorem dX8_least_75 : decode cX8_least 75 = .ok (.bipush (-4), 2) := by decide +kernel
theorem dX8_least_77 : decode cX8_least 77 = .ok (.ireturn, 1) := by decide +kernel
theorem dX8_least_78 : decode cX8_least 78 = .ok (.iconst 0, 1) := by decide +kernel
theorem dX8_least_79 : decode cX8_least 79 = .ok (.istore 5, 2) := by decide +kernel
theorem dX8_least_81 : decode cX8_least 81 = .ok (.iconst 0, 1) := by decide +kernel
theorem dX8_least_82 : decode cX8_least 82 = .ok (.istore 6, 2) := by decide +kernel
theorem dX8_least_84 : decode cX8_least 84 = .ok (.iload 6, 2) := by decide +kernel
theorem dX8_least_86 : decode cX8_least 86 = .ok (.iload_n 3, 1) := by decide +kernel
theorem dX8_least_87 : decode cX8_least 87 = .ok (.if_icmp .ge 31, 3) := by decide +kernel
theorem dX8_least_90 : decode cX8_least 90 = .ok (.iload 5, 2) := by decide +kernel
theorem dX8_least_92 : decode cX8_least 92 = .ok (.bipush 60, 2) := by decide +kernel
theorem dX8_least_94 : decode cX8_least 94 = .ok (.aload_n 0, 1) := by decide +kernel
theorem dX8_least_95 : decode cX8_least 95 = .ok (.getfield 31, 3) := by decide +kernel
theorem dX8_least_98 : decode cX8_least 98 = .ok (.sipush 961, 3) := by decide +kernel
theorem dX8_least_101 : decode cX8_least 101 = .ok (.iload 6, 2) := by decide +kernel
theorem dX8_least_103 : decode cX8_least 103 = .ok (.imul, 1) := by decide +kernel
theorem dX8_least_104 : decode cX8_least 104 = .ok (.iload 5, 2) := by decide +kernel
theorem dX8_least_106 : decode cX8_least 106 = .ok (.iadd, 1) := by decide +kernel
theorem dX8_least_107 : decode cX8_least 107 = .ok (.iaload, 1) := by decide +kernel
theorem dX8_least_108 : decode cX8_least 108 = .ok (.idiv, 1) := by decide +kernel
theorem dX8_least_109 : decode cX8_least 109 = .ok (.iadd, 1) := by decide +kernel
theorem dX8_least_110 : decode cX8_least 110 = .ok (.istore 5, 2) := by decide +kernel
theorem dX8_least_112 : decode cX8_least 112 = .ok (.iinc 6 1, 3) := by decide +kernel
theorem dX8_least_115 : decode cX8_least 115 = .ok (.goto (-31), 3) := by decide +kernel
theorem dX8_least_118 : decode cX8_least 118 = .ok (.iload_n 3, 1) := by decide +kernel
theorem dX8_least_119 : decode cX8_least 119 = .ok (.ifCond .ge 8, 3) := by decide +kernel
theorem dX8_least_122 : decode cX8_least 122 = .ok (.iload 4, 2) := by decide +kernel
theorem dX8_least_124 : decode cX8_least 124 = .ok (.goto 16, 3) := by decide +kernel
theorem dX8_least_127 : decode cX8_least 127 = .ok (.aload_n 0, 1) := by decide +kernel
theorem dX8_least_128 : decode cX8_least 128 = .ok (.getfield 31, 3) := by decide +kernel
theorem dX8_least_131 : decode cX8_least 131 = .ok (.sipush 961, 3) := by decide +kernel
theorem dX8_least_134 : decode cX8_least 134 = .ok (.iload_n 3, 1) := by decide +kernel
theorem dX8_least_135 : decode cX8_least 135 = .ok (.imul, 1) := by decide +kernel
theorem dX8_least_136 : decode cX8_least 136 = .ok (.iload 5, 2) := by decide +kernel
theorem dX8_least_138 : decode cX8_least 138 = .ok (.iadd, 1) := by decide +kernel
theorem dX8_least_139 : decode cX8_least 139 = .ok (.iaload, 1) := by decide +kernel
theorem dX8_least_140 : decode cX8_least 140 = .ok (.ireturn, 1) := by decide +kernel
theorem dX8_startsOf_0 : decode cX8_startsOf 0 = .ok (.aload_n 0, 1) := by decide +kernel
theorem dX8_startsOf_1 : decode cX8_startsOf 1 = .ok (.iload_n 1, 1) := by decide +kernel
theorem dX8_startsOf_2 : decode cX8_startsOf 2 = .ok (.invokevirtual 185, 3) := by decide +kernel
theorem dX8_startsOf_5 : decode cX8_startsOf 5 = .ok (.istore_n 2, 1) := by decide +kernel
theorem dX8_startsOf_6 : decode cX8_startsOf 6 = .ok (.iconst 0, 1) := by decide +kernel
theorem dX8_startsOf_7 : decode cX8_startsOf 7 = .ok (.istore_n 3, 1) := by decide +kernel
theorem dX8_startsOf_8 : decode cX8_startsOf 8 = .ok (.iload_n 3, 1) := by decide +kernel
theorem dX8_startsOf_9 : decode cX8_startsOf 9 = .ok (.sipush 1440, 3) := by decide +kernel
theorem dX8_startsOf_12 : decode cX8_startsOf 12 = .ok (.if_icmp .ge 16, 3) := by decide +kernel
theorem dX8_startsOf_15 : decode cX8_startsOf 15 = .ok (.aload_n 0, 1) := by decide +kernel
theorem dX8_startsOf_16 : decode cX8_startsOf 16 = .ok (.getfield 34, 3) := by decide +kernel
theorem dX8_startsOf_19 : decode cX8_startsOf 19 = .ok (.iload_n 3, 1) := by decide +kernel
theorem dX8_startsOf_20 : decode cX8_startsOf 20 = .ok (.iconst 1, 1) := by decide +kernel
theorem dX8_startsOf_21 : decode cX8_startsOf 21 = .ok (.bastore, 1) := by decide +kernel
theorem dX8_startsOf_22 : decode cX8_startsOf 22 = .ok (.iinc 3 1, 3) := by decide +kernel
theorem dX8_startsOf_25 : decode cX8_startsOf 25 = .ok (.goto (-17), 3) := by decide +kernel
theorem dX8_startsOf_28 : decode cX8_startsOf 28 = .ok (.aload_n 0, 1) := by decide +kernel
theorem dX8_startsOf_29 : decode cX8_startsOf 29 = .ok (.getfield 69, 3) := by decide +kernel
theorem dX8_startsOf_32 : decode cX8_startsOf 32 = .ok (.iconst 1, 1) := by decide +kernel
theorem dX8_startsOf_33 : decode cX8_startsOf 33 = .ok (.isub, 1) := by decide +kernel
theorem dX8_startsOf_34 : decode cX8_startsOf 34 = .ok (.istore_n 3, 1) := by decide +kernel
theorem dX8_startsOf_35 : decode cX8_startsOf 35 = .ok (.iload_n 3, 1) := by decide +kernel
theorem dX8_startsOf_36 : decode cX8_startsOf 36 = .ok (.ifCond .lt 140, 3) := by decide +kernel
theorem dX8_startsOf_39 : decode cX8_startsOf 39 = .ok (.iconst 0, 1) := by decide +kernel
theorem dX8_startsOf_40 : decode cX8_startsOf 40 = .ok (.istore 4, 2) := by decide +kernel
theorem dX8_startsOf_42 : decode cX8_startsOf 42 = .ok (.iload 4, 2) := by decide +kernel
theorem dX8_startsOf_44 : decode cX8_startsOf 44 = .ok (.sipush 1440, 3) := by decide +kernel
theorem dX8_startsOf_47 : decode cX8_startsOf 47 = .ok (.if_icmp .ge 23, 3) := by decide +kernel
theorem dX8_startsOf_50 : decode cX8_startsOf 50 = .ok (.aload_n 0, 1) := by decide +kernel
theorem dX8_startsOf_51 : decode cX8_startsOf 51 = .ok (.getfield 38, 3) := by decide +kernel
theorem dX8_startsOf_54 : decode cX8_startsOf 54 = .ok (.iload 4, 2) := by decide +kernel
theorem dX8_startsOf_56 : decode cX8_startsOf 56 = .ok (.aload_n 0, 1) := by decide +kernel
theorem dX8_startsOf_57 : decode cX8_startsOf 57 = .ok (.getfield 34, 3) := by decide +kernel
theorem dX8_startsOf_60 : decode cX8_startsOf 60 = .ok (.iload 4, 2) := by decide +kernel
theorem dX8_startsOf_62 : decode cX8_startsOf 62 = .ok (.baload, 1) := by decide +kernel
theorem dX8_startsOf_63 : decode cX8_startsOf 63 = .ok (.bastore, 1) := by decide +kernel
theorem dX8_startsOf_64 : decode cX8_startsOf 64 = .ok (.iinc 4 1, 3) := by decide +kernel
theorem dX8_startsOf_67 : decode cX8_startsOf 67 = .ok (.goto (-25), 3) := by decide +kernel
theorem dX8_startsOf_70 : decode cX8_startsOf 70 = .ok (.iconst 0, 1) := by decide +kernel
theorem dX8_startsOf_71 : decode cX8_startsOf 71 = .ok (.istore 4, 2) := by decide +kernel
theorem dX8_startsOf_73 : decode cX8_startsOf 73 = .ok (.iload 4, 2) := by decide +kernel
theorem dX8_startsOf_75 : decode cX8_startsOf 75 = .ok (.sipush 1440, 3) := by decide +kernel
theorem dX8_startsOf_78 : decode cX8_startsOf 78 = .ok (.if_icmp .ge 92, 3) := by decide +kernel
theorem dX8_startsOf_81 : decode cX8_startsOf 81 = .ok (.aload_n 0, 1) := by decide +kernel
theorem dX8_startsOf_82 : decode cX8_startsOf 82 = .ok (.iload_n 3, 1) := by decide +kernel
theorem dX8_startsOf_83 : decode cX8_startsOf 83 = .ok (.iload 4, 2) := by decide +kernel
theorem dX8_startsOf_85 : decode cX8_startsOf 85 = .ok (.invokevirtual 175, 3) := by decide +kernel
theorem dX8_startsOf_88 : decode cX8_startsOf 88 = .ok (.istore 5, 2) := by decide +kernel
theorem dX8_startsOf_90 : decode cX8_startsOf 90 = .ok (.iconst 0, 1) := by decide +kernel
theorem dX8_startsOf_91 : decode cX8_startsOf 91 = .ok (.istore 6, 2) := by decide +kernel
theorem dX8_startsOf_93 : decode cX8_startsOf 93 = .ok (.iconst 1, 1) := by decide +kernel
theorem dX8_startsOf_94 : decode cX8_startsOf 94 = .ok (.istore 7, 2) := by decide +kernel
theorem dX8_startsOf_96 : decode cX8_startsOf 96 = .ok (.iload 7, 2) := by decide +kernel
theorem dX8_startsOf_98 : decode cX8_startsOf 98 = .ok (.bipush 16, 2) := by decide +kernel
theorem dX8_startsOf_100 : decode cX8_startsOf 100 = .ok (.if_icmp .ge 55, 3) := by decide +kernel
theorem dX8_startsOf_103 : decode cX8_startsOf 103 = .ok (.iload 6, 2) := by decide +kernel
theorem dX8_startsOf_105 : decode cX8_startsOf 105 = .ok (.ifCond .ne 50, 3) := by decide +kernel
theorem dX8_startsOf_108 : decode cX8_startsOf 108 = .ok (.aload_n 0, 1) := by decide +kernel
theorem dX8_startsOf_109 : decode cX8_startsOf 109 = .ok (.iload_n 1, 1) := by decide +kernel
theorem dX8_startsOf_110 : decode cX8_startsOf 110 = .ok (.iload_n 3, 1) := by decide +kernel
theorem dX8_startsOf_111 : decode cX8_startsOf 111 = .ok (.iload 5, 2) := by decide +kernel
theorem dX8_startsOf_113 : decode cX8_startsOf 113 = .ok (.iload 7, 2) := by decide +kernel
theorem dX8_startsOf_115 : decode cX8_startsOf 115 = .ok (.invokevirtual 182, 3) := by decide +kernel
theorem dX8_startsOf_118 : decode cX8_startsOf 118 = .ok (.iload_n 2, 1) := by decide +kernel
theorem dX8_startsOf_119 : decode cX8_startsOf 119 = .ok (.if_icmp .lt 27, 3) := by decide +kernel
theorem dX8_startsOf_122 : decode cX8_startsOf 122 = .ok (.aload_n 0, 1) := by decide +kernel
theorem dX8_startsOf_123 : decode cX8_startsOf 123 = .ok (.getfield 38, 3) := by decide +kernel
theorem dX8_startsOf_126 : decode cX8_startsOf 126 = .ok (.iload 4, 2) := by decide +kernel
theorem dX8_startsOf_128 : decode cX8_startsOf 128 = .ok (.bipush 60, 2) := by decide +kernel
theorem dX8_startsOf_130 : decode cX8_startsOf 130 = .ok (.iload 7, 2) := by decide +kernel
theorem dX8_startsOf_132 : decode cX8_startsOf 132 = .ok (.idiv, 1) := by decide +kernel
theorem dX8_startsOf_133 : decode cX8_startsOf 133 = .ok (.iadd, 1) := by decide +kernel
theorem dX8_startsOf_134 : decode cX8_startsOf 134 = .ok (.sipush 1440, 3) := by decide +kernel
theorem dX8_startsOf_137 : decode cX8_startsOf 137 = .ok (.irem, 1) := by decide +kernel
theorem dX8_startsOf_138 : decode cX8_startsOf 138 = .ok (.baload, 1) := by decide +kernel
theorem dX8_startsOf_139 : decode cX8_startsOf 139 = .ok (.ifCond .eq 7, 3) := by decide +kernel
theorem dX8_startsOf_142 : decode cX8_startsOf 142 = .ok (.iconst 1, 1) := by decide +kernel
theorem dX8_startsOf_143 : decode cX8_startsOf 143 = .ok (.goto 4, 3) := by decide +kernel
theorem dX8_startsOf_146 : decode cX8_startsOf 146 = .ok (.iconst 0, 1) := by decide +kernel
theorem dX8_startsOf_147 : decode cX8_startsOf 147 = .ok (.istore 6, 2) := by decide +kernel
theorem dX8_startsOf_149 : decode cX8_startsOf 149 = .ok (.iinc 7 1, 3) := by decide +kernel
theorem dX8_startsOf_152 : decode cX8_startsOf 152 = .ok (.goto (-56), 3) := by decide +kernel
theorem dX8_startsOf_155 : decode cX8_startsOf 155 = .ok (.aload_n 0, 1) := by decide +kernel
theorem dX8_startsOf_156 : decode cX8_startsOf 156 = .ok (.getfield 34, 3) := by decide +kernel
theorem dX8_startsOf_159 : decode cX8_startsOf 159 = .ok (.iload 4, 2) := by decide +kernel
theorem dX8_startsOf_161 : decode cX8_startsOf 161 = .ok (.iload 6, 2) := by decide +kernel
theorem dX8_startsOf_163 : decode cX8_startsOf 163 = .ok (.bastore, 1) := by decide +kernel
theorem dX8_startsOf_164 : decode cX8_startsOf 164 = .ok (.iinc 4 1, 3) := by decide +kernel
theorem dX8_startsOf_167 : decode cX8_startsOf 167 = .ok (.goto (-94), 3) := by decide +kernel
theorem dX8_startsOf_170 : decode cX8_startsOf 170 = .ok (.iinc 3 (-1), 3) := by decide +kernel
theorem dX8_startsOf_173 : decode cX8_startsOf 173 = .ok (.goto (-138), 3) := by decide +kernel
theorem dX8_startsOf_176 : decode cX8_startsOf 176 = .ok (.return_, 1) := by decide +kernel
theorem dX8_starts_0 : decode cX8_starts 0 = .ok (.aload_n 0, 1) := by decide +kernel
theorem dX8_starts_1 : decode cX8_starts 1 = .ok (.iload_n 1, 1) := by decide +kernel
theorem dX8_starts_2 : decode cX8_starts 2 = .ok (.invokevirtual 179, 3) := by decide +kernel
theorem dX8_starts_5 : decode cX8_starts 5 = .ok (.ifCond .eq 15, 3) := by decide +kernel
theorem dX8_starts_8 : decode cX8_starts 8 = .ok (.iload_n 2, 1) := by decide +kernel
theorem dX8_starts_9 : decode cX8_starts 9 = .ok (.i2l, 1) := by decide +kernel
theorem dX8_starts_10 : decode cX8_starts 10 = .ok (.lconst 0, 1) := by decide +kernel
theorem dX8_starts_11 : decode cX8_starts 11 = .ok (.ldc2_w 215, 3) := by decide +kernel
theorem dX8_starts_14 : decode cX8_starts 14 = .ok (.invokestatic 73, 3) := by decide +kernel
theorem dX8_starts_17 : decode cX8_starts 17 = .ok (.ifCond .ne 5, 3) := by decide +kernel
theorem dX8_starts_20 : decode cX8_starts 20 = .ok (.iconst (-1), 1) := by decide +kernel
theorem dX8_starts_21 : decode cX8_starts 21 = .ok (.ireturn, 1) := by decide +kernel
theorem dX8_starts_22 : decode cX8_starts 22 = .ok (.aload_n 0, 1) := by decide +kernel
theorem dX8_starts_23 : decode cX8_starts 23 = .ok (.getfield 69, 3) := by decide +kernel
theorem dX8_starts_26 : decode cX8_starts 26 = .ok (.ifCond .ne 6, 3) := by decide +kernel
theorem dX8_starts_29 : decode cX8_starts 29 = .ok (.bipush (-2), 2) := by decide +kernel
theorem dX8_starts_31 : decode cX8_starts 31 = .ok (.ireturn, 1) := by decide +kernel
theorem dX8_starts_32 : decode cX8_starts 32 = .ok (.aload_n 0, 1) := by decide +kernel
theorem dX8_starts_33 : decode cX8_starts 33 = .ok (.iload_n 1, 1) := by decide +kernel
theorem dX8_starts_34 : decode cX8_starts 34 = .ok (.invokevirtual 217, 3) := by decide +kernel
theorem dX8_starts_37 : decode cX8_starts 37 = .ok (.iconst 0, 1) := by decide +kernel
theorem dX8_starts_38 : decode cX8_starts 38 = .ok (.istore_n 3, 1) := by decide +kernel
theorem dX8_starts_39 : decode cX8_starts 39 = .ok (.bipush (-4), 2) := by decide +kernel
theorem dX8_starts_41 : decode cX8_starts 41 = .ok (.istore 4, 2) := by decide +kernel
theorem dX8_starts_43 : decode cX8_starts 43 = .ok (.bipush (-4), 2) := by decide +kernel
theorem dX8_starts_45 : decode cX8_starts 45 = .ok (.istore 5, 2) := by decide +kernel
theorem dX8_starts_47 : decode cX8_starts 47 = .ok (.iconst 0, 1) := by decide +kernel
theorem dX8_starts_48 : decode cX8_starts 48 = .ok (.istore 6, 2) := by decide +kernel
theorem dX8_starts_50 : decode cX8_starts 50 = .ok (.iload 6, 2) := by decide +kernel
theorem dX8_starts_52 : decode cX8_starts 52 = .ok (.sipush 1440, 3) := by decide +kernel
theorem dX8_starts_55 : decode cX8_starts 55 = .ok (.if_icmp .ge 70, 3) := by decide +kernel
theorem dX8_starts_58 : decode cX8_starts 58 = .ok (.iload_n 3, 1) := by decide +kernel
theorem dX8_starts_59 : decode cX8_starts 59 = .ok (.aload_n 0, 1) := by decide +kernel
theorem dX8_starts_60 : decode cX8_starts 60 = .ok (.getfield 34, 3) := by decide +kernel
theorem dX8_starts_63 : decode cX8_starts 63 = .ok (.iload 6, 2) := by decide +kernel
theorem dX8_starts_65 : decode cX8_starts 65 = .ok (.baload, 1) := by decide +kernel
theorem dX8_starts_66 : decode cX8_starts 66 = .ok (.ifCond .eq 7, 3) := by decide +kernel
theorem dX8_starts_69 : decode cX8_starts 69 = .ok (.iconst 1, 1) := by decide +kernel
theorem dX8_starts_70 : decode cX8_starts 70 = .ok (.goto 4, 3) := by decide +kernel
theorem dX8_starts_73 : decode cX8_starts 73 = .ok (.iconst 0, 1) := by decide +kernel
theorem dX8_starts_74 : decode cX8_starts 74 = .ok (.iadd, 1) := by decide +kernel
theorem dX8_starts_75 : decode cX8_starts 75 = .ok (.istore_n 3, 1) := by decide +kernel
theorem dX8_starts_76 : decode cX8_starts 76 = .ok (.aload_n 0, 1) := by decide +kernel
theorem dX8_starts_77 : decode cX8_starts 77 = .ok (.getfield 34, 3) := by decide +kernel
theorem dX8_starts_80 : decode cX8_starts 80 = .ok (.iload 6, 2) := by decide +kernel
theorem dX8_starts_82 : decode cX8_starts 82 = .ok (.baload, 1) := by decide +kernel
theorem dX8_starts_83 : decode cX8_starts 83 = .ok (.ifCond .eq 13, 3) := by decide +kernel
theorem dX8_starts_86 : decode cX8_starts 86 = .ok (.iload 4, 2) := by decide +kernel
theorem dX8_starts_88 : decode cX8_starts 88 = .ok (.ifCond .ge 8, 3) := by decide +kernel
theorem dX8_starts_91 : decode cX8_starts 91 = .ok (.iload 6, 2) := by decide +kernel
theorem dX8_starts_93 : decode cX8_starts 93 = .ok (.goto 5, 3) := by decide +kernel
theorem dX8_starts_96 : decode cX8_starts 96 = .ok (.iload 4, 2) := by decide +kernel
theorem dX8_starts_98 : decode cX8_starts 98 = .ok (.istore 4, 2) := by decide +kernel
theorem dX8_starts_100 : decode cX8_starts 100 = .ok (.aload_n 0, 1) := by decide +kernel
theorem dX8_starts_101 : decode cX8_starts 101 = .ok (.getfield 34, 3) := by decide +kernel
theorem dX8_starts_104 : decode cX8_starts 104 = .ok (.iload 6, 2) := by decide +kernel
theorem dX8_starts_106 : decode cX8_starts 106 = .ok (.baload, 1) := by decide +kernel
theorem dX8_starts_107 : decode cX8_starts 107 = .ok (.ifCond .eq 8, 3) := by decide +kernel
theorem dX8_starts_110 : decode cX8_starts 110 = .ok (.iload 6, 2) := by decide +kernel
theorem dX8_starts_112 : decode cX8_starts 112 = .ok (.goto 5, 3) := by decide +kernel
theorem dX8_starts_115 : decode cX8_starts 115 = .ok (.iload 5, 2) := by decide +kernel
theorem dX8_starts_117 : decode cX8_starts 117 = .ok (.istore 5, 2) := by decide +kernel
theorem dX8_starts_119 : decode cX8_starts 119 = .ok (.iinc 6 1, 3) := by decide +kernel
theorem dX8_starts_122 : decode cX8_starts 122 = .ok (.goto (-72), 3) := by decide +kernel
theorem dX8_starts_125 : decode cX8_starts 125 = .ok (.iload_n 2, 1) := by decide +kernel
theorem dX8_starts_126 : decode cX8_starts 126 = .ok (.ifCond .ne 7, 3) := by decide +kernel
theorem dX8_starts_129 : decode cX8_starts 129 = .ok (.iload_n 3, 1) := by decide +kernel
theorem dX8_starts_130 : decode cX8_starts 130 = .ok (.goto 15, 3) := by decide +kernel
theorem dX8_starts_133 : decode cX8_starts 133 = .ok (.iload_n 2, 1) := by decide +kernel
theorem dX8_starts_134 : decode cX8_starts 134 = .ok (.iconst 1, 1) := by decide +kernel
theorem dX8_starts_135 : decode cX8_starts 135 = .ok (.if_icmp .ne 8, 3) := by decide +kernel
theorem dX8_starts_138 : decode cX8_starts 138 = .ok (.iload 4, 2) := by decide +kernel
theorem dX8_starts_140 : decode cX8_starts 140 = .ok (.goto 5, 3) := by decide +kernel
theorem dX8_starts_143 : decode cX8_starts 143 = .ok (.iload 5, 2) := by decide +kernel
theorem dX8_starts_145 : decode cX8_starts 145 = .ok (.ireturn, 1) := by decide +kernel
theorem dX8_deepest_0 : decode cX8_deepest 0 = .ok (.aload_n 0, 1) := by decide +kernel
theorem dX8_deepest_1 : decode cX8_deepest 1 = .ok (.iload_n 1, 1) := by decide +kernel
theorem dX8_deepest_2 : decode cX8_deepest 2 = .ok (.invokevirtual 179, 3) := by decide +kernel
theorem dX8_deepest_5 : decode cX8_deepest 5 = .ok (.ifCond .eq 10, 3) := by decide +kernel
theorem dX8_deepest_8 : decode cX8_deepest 8 = .ok (.iload_n 2, 1) := by decide +kernel
theorem dX8_deepest_9 : decode cX8_deepest 9 = .ok (.invokestatic 201, 3) := by decide +kernel
theorem dX8_deepest_12 : decode cX8_deepest 12 = .ok (.ifCond .ne 5, 3) := by decide +kernel
theorem dX8_deepest_15 : decode cX8_deepest 15 = .ok (.iconst (-1), 1) := by decide +kernel
theorem dX8_deepest_16 : decode cX8_deepest 16 = .ok (.ireturn, 1) := by decide +kernel
theorem dX8_deepest_17 : decode cX8_deepest 17 = .ok (.aload_n 0, 1) := by decide +kernel
theorem dX8_deepest_18 : decode cX8_deepest 18 = .ok (.getfield 69, 3) := by decide +kernel
theorem dX8_deepest_21 : decode cX8_deepest 21 = .ok (.ifCond .ne 6, 3) := by decide +kernel
theorem dX8_deepest_24 : decode cX8_deepest 24 = .ok (.bipush (-2), 2) := by decide +kernel
theorem dX8_deepest_26 : decode cX8_deepest 26 = .ok (.ireturn, 1) := by decide +kernel
theorem dX8_deepest_27 : decode cX8_deepest 27 = .ok (.aload_n 0, 1) := by decide +kernel
theorem dX8_deepest_28 : decode cX8_deepest 28 = .ok (.getfield 19, 3) := by decide +kernel
theorem dX8_deepest_31 : decode cX8_deepest 31 = .ok (.iconst 3, 1) := by decide +kernel
theorem dX8_deepest_32 : decode cX8_deepest 32 = .ok (.iload_n 1, 1) := by decide +kernel
theorem dX8_deepest_33 : decode cX8_deepest 33 = .ok (.imul, 1) := by decide +kernel
theorem dX8_deepest_34 : decode cX8_deepest 34 = .ok (.iaload, 1) := by decide +kernel
theorem dX8_deepest_35 : decode cX8_deepest 35 = .ok (.istore_n 3, 1) := by decide +kernel
theorem dX8_deepest_36 : decode cX8_deepest 36 = .ok (.bipush 19, 2) := by decide +kernel
theorem dX8_deepest_38 : decode cX8_deepest 38 = .ok (.istore 4, 2) := by decide +kernel
theorem dX8_deepest_40 : decode cX8_deepest 40 = .ok (.sipush 201, 3) := by decide +kernel
theorem dX8_deepest_43 : decode cX8_deepest 43 = .ok (.istore 5, 2) := by decide +kernel
theorem dX8_deepest_45 : decode cX8_deepest 45 = .ok (.iload 5, 2) := by decide +kernel
theorem dX8_deepest_47 : decode cX8_deepest 47 = .ok (.iload 4, 2) := by decide +kernel
theorem dX8_deepest_49 : decode cX8_deepest 49 = .ok (.isub, 1) := by decide +kernel
theorem dX8_deepest_50 : decode cX8_deepest 50 = .ok (.iconst 1, 1) := by decide +kernel
theorem dX8_deepest_51 : decode cX8_deepest 51 = .ok (.if_icmp .le 71, 3) := by decide +kernel
theorem dX8_deepest_54 : decode cX8_deepest 54 = .ok (.iload 4, 2) := by decide +kernel
theorem dX8_deepest_56 : decode cX8_deepest 56 = .ok (.iload 5, 2) := by decide +kernel
theorem dX8_deepest_58 : decode cX8_deepest 58 = .ok (.iadd, 1) := by decide +kernel
theorem dX8_deepest_59 : decode cX8_deepest 59 = .ok (.iconst 2, 1) := by decide +kernel
theorem dX8_deepest_60 : decode cX8_deepest 60 = .ok (.idiv, 1) := by decide +kernel
theorem dX8_deepest_61 : decode cX8_deepest 61 = .ok (.istore 6, 2) := by decide +kernel
theorem dX8_deepest_63 : decode cX8_deepest 63 = .ok (.aload_n 0, 1) := by decide +kernel
theorem dX8_deepest_64 : decode cX8_deepest 64 = .ok (.getfield 19, 3) := by decide +kernel
theorem dX8_deepest_67 : decode cX8_deepest 67 = .ok (.iconst 3, 1) := by decide +kernel
theorem dX8_deepest_68 : decode cX8_deepest 68 = .ok (.iload_n 1, 1) := by decide +kernel
theorem dX8_deepest_69 : decode cX8_deepest 69 = .ok (.imul, 1) := by decide +kernel
theorem dX8_deepest_70 : decode cX8_deepest 70 = .ok (.iload 6, 2) := by decide +kernel
theorem dX8_deepest_72 : decode cX8_deepest 72 = .ok (.iastore, 1) := by decide +kernel
theorem dX8_deepest_73 : decode cX8_deepest 73 = .ok (.aload_n 0, 1) := by decide +kernel
theorem dX8_deepest_74 : decode cX8_deepest 74 = .ok (.iload_n 1, 1) := by decide +kernel
theorem dX8_deepest_75 : decode cX8_deepest 75 = .ok (.iload_n 2, 1) := by decide +kernel
theorem dX8_deepest_76 : decode cX8_deepest 76 = .ok (.invokevirtual 212, 3) := by decide +kernel
theorem dX8_deepest_79 : decode cX8_deepest 79 = .ok (.ldc 194, 2) := by decide +kernel
theorem dX8_deepest_81 : decode cX8_deepest 81 = .ok (.if_icmp .ge 7, 3) := by decide +kernel
theorem dX8_deepest_84 : decode cX8_deepest 84 = .ok (.iconst 1, 1) := by decide +kernel
theorem dX8_deepest_85 : decode cX8_deepest 85 = .ok (.goto 4, 3) := by decide +kernel
theorem dX8_deepest_88 : decode cX8_deepest 88 = .ok (.iconst 0, 1) := by decide +kernel
theorem dX8_deepest_89 : decode cX8_deepest 89 = .ok (.istore 7, 2) := by decide +kernel
theorem dX8_deepest_91 : decode cX8_deepest 91 = .ok (.iload 7, 2) := by decide +kernel
theorem dX8_deepest_93 : decode cX8_deepest 93 = .ok (.ifCond .eq 8, 3) := by decide +kernel
theorem dX8_deepest_96 : decode cX8_deepest 96 = .ok (.iload 6, 2) := by decide +kernel
theorem dX8_deepest_98 : decode cX8_deepest 98 = .ok (.goto 5, 3) := by decide +kernel
theorem dX8_deepest_101 : decode cX8_deepest 101 = .ok (.iload 4, 2) := by decide +kernel
theorem dX8_deepest_103 : decode cX8_deepest 103 = .ok (.istore 4, 2) := by decide +kernel
theorem dX8_deepest_105 : decode cX8_deepest 105 = .ok (.iload 7, 2) := by decide +kernel
theorem dX8_deepest_107 : decode cX8_deepest 107 = .ok (.ifCond .eq 8, 3) := by decide +kernel
theorem dX8_deepest_110 : decode cX8_deepest 110 = .ok (.iload 5, 2) := by decide +kernel
theorem dX8_deepest_112 : decode cX8_deepest 112 = .ok (.goto 5, 3) := by decide +kernel
theorem dX8_deepest_115 : decode cX8_deepest 115 = .ok (.iload 6, 2) := by decide +kernel
theorem dX8_deepest_117 : decode cX8_deepest 117 = .ok (.istore 5, 2) := by decide +kernel
theorem dX8_deepest_119 : decode cX8_deepest 119 = .ok (.goto (-74), 3) := by decide +kernel
theorem dX8_deepest_122 : decode cX8_deepest 122 = .ok (.aload_n 0, 1) := by decide +kernel
theorem dX8_deepest_123 : decode cX8_deepest 123 = .ok (.getfield 19, 3) := by decide +kernel
theorem dX8_deepest_126 : decode cX8_deepest 126 = .ok (.iconst 3, 1) := by decide +kernel
theorem dX8_deepest_127 : decode cX8_deepest 127 = .ok (.iload_n 1, 1) := by decide +kernel
theorem dX8_deepest_128 : decode cX8_deepest 128 = .ok (.imul, 1) := by decide +kernel
theorem dX8_deepest_129 : decode cX8_deepest 129 = .ok (.iload_n 3, 1) := by decide +kernel
theorem dX8_deepest_130 : decode cX8_deepest 130 = .ok (.iastore, 1) := by decide +kernel
theorem dX8_deepest_131 : decode cX8_deepest 131 = .ok (.iload 4, 2) := by decide +kernel
theorem dX8_deepest_133 : decode cX8_deepest 133 = .ok (.bipush 19, 2) := by decide +kernel
theorem dX8_deepest_135 : decode cX8_deepest 135 = .ok (.if_icmp .ne 8, 3) := by decide +kernel
theorem dX8_deepest_138 : decode cX8_deepest 138 = .ok (.bipush (-4), 2) := by decide +kernel
theorem dX8_deepest_140 : decode cX8_deepest 140 = .ok (.goto 5, 3) := by decide +kernel
theorem dX8_deepest_143 : decode cX8_deepest 143 = .ok (.iload 4, 2) := by decide +kernel
theorem dX8_deepest_145 : decode cX8_deepest 145 = .ok (.ireturn, 1) := by decide +kernel
theorem dX8_holds_0 : decode cX8_holds 0 = .ok (.iload_n 2, 1) := by decide +kernel
theorem dX8_holds_1 : decode cX8_holds 1 = .ok (.iconst 4, 1) := by decide +kernel
theorem dX8_holds_2 : decode cX8_holds 2 = .ok (.if_icmp .ge 18, 3) := by decide +kernel
theorem dX8_holds_5 : decode cX8_holds 5 = .ok (.aload_n 0, 1) := by decide +kernel
theorem dX8_holds_6 : decode cX8_holds 6 = .ok (.getfield 19, 3) := by decide +kernel
theorem dX8_holds_9 : decode cX8_holds 9 = .ok (.iconst 3, 1) := by decide +kernel
theorem dX8_holds_10 : decode cX8_holds 10 = .ok (.iload_n 1, 1) := by decide +kernel
theorem dX8_holds_11 : decode cX8_holds 11 = .ok (.imul, 1) := by decide +kernel
theorem dX8_holds_12 : decode cX8_holds 12 = .ok (.iconst 2, 1) := by decide +kernel
theorem dX8_holds_13 : decode cX8_holds 13 = .ok (.iadd, 1) := by decide +kernel
theorem dX8_holds_14 : decode cX8_holds 14 = .ok (.iaload, 1) := by decide +kernel
theorem dX8_holds_15 : decode cX8_holds 15 = .ok (.iconst 2, 1) := by decide +kernel
theorem dX8_holds_16 : decode cX8_holds 16 = .ok (.idiv, 1) := by decide +kernel
theorem dX8_holds_17 : decode cX8_holds 17 = .ok (.goto 13, 3) := by decide +kernel
theorem dX8_holds_20 : decode cX8_holds 20 = .ok (.aload_n 0, 1) := by decide +kernel
theorem dX8_holds_21 : decode cX8_holds 21 = .ok (.getfield 19, 3) := by decide +kernel
theorem dX8_holds_24 : decode cX8_holds 24 = .ok (.iconst 3, 1) := by decide +kernel
theorem dX8_holds_25 : decode cX8_holds 25 = .ok (.iload_n 1, 1) := by decide +kernel
theorem dX8_holds_26 : decode cX8_holds 26 = .ok (.imul, 1) := by decide +kernel
theorem dX8_holds_27 : decode cX8_holds 27 = .ok (.iconst 2, 1) := by decide +kernel
theorem dX8_holds_28 : decode cX8_holds 28 = .ok (.iadd, 1) := by decide +kernel
theorem dX8_holds_29 : decode cX8_holds 29 = .ok (.iaload, 1) := by decide +kernel
theorem dX8_holds_30 : decode cX8_holds 30 = .ok (.istore 4, 2) := by decide +kernel
theorem dX8_holds_32 : decode cX8_holds 32 = .ok (.iload_n 2, 1) := by decide +kernel
theorem dX8_holds_33 : decode cX8_holds 33 = .ok (.iload_n 2, 1) := by decide +kernel
theorem dX8_holds_34 : decode cX8_holds 34 = .ok (.imul, 1) := by decide +kernel
theorem dX8_holds_35 : decode cX8_holds 35 = .ok (.aload_n 0, 1) := by decide +kernel
theorem dX8_holds_36 : decode cX8_holds 36 = .ok (.getfield 19, 3) := by decide +kernel
theorem dX8_holds_39 : decode cX8_holds 39 = .ok (.iconst 3, 1) := by decide +kernel
theorem dX8_holds_40 : decode cX8_holds 40 = .ok (.iload_n 1, 1) := by decide +kernel
theorem dX8_holds_41 : decode cX8_holds 41 = .ok (.imul, 1) := by decide +kernel
theorem dX8_holds_42 : decode cX8_holds 42 = .ok (.iconst 1, 1) := by decide +kernel
theorem dX8_holds_43 : decode cX8_holds 43 = .ok (.iadd, 1) := by decide +kernel
theorem dX8_holds_44 : decode cX8_holds 44 = .ok (.iaload, 1) := by decide +kernel
theorem dX8_holds_45 : decode cX8_holds 45 = .ok (.imul, 1) := by decide +kernel
theorem dX8_holds_46 : decode cX8_holds 46 = .ok (.iload_n 3, 1) := by decide +kernel
theorem dX8_holds_47 : decode cX8_holds 47 = .ok (.iload_n 3, 1) := by decide +kernel
theorem dX8_holds_48 : decode cX8_holds 48 = .ok (.imul, 1) := by decide +kernel
theorem dX8_holds_49 : decode cX8_holds 49 = .ok (.idiv, 1) := by decide +kernel
theorem dX8_holds_50 : decode cX8_holds 50 = .ok (.iload 4, 2) := by decide +kernel
theorem dX8_holds_52 : decode cX8_holds 52 = .ok (.if_icmp .gt 7, 3) := by decide +kernel
theorem dX8_holds_55 : decode cX8_holds 55 = .ok (.iconst 1, 1) := by decide +kernel
theorem dX8_holds_56 : decode cX8_holds 56 = .ok (.goto 4, 3) := by decide +kernel
theorem dX8_holds_59 : decode cX8_holds 59 = .ok (.iconst 0, 1) := by decide +kernel
theorem dX8_holds_60 : decode cX8_holds 60 = .ok (.ireturn, 1) := by decide +kernel
theorem dX8_bank_0 : decode cX8_bank 0 = .ok (.aload_n 0, 1) := by decide +kernel
theorem dX8_bank_1 : decode cX8_bank 1 = .ok (.iload_n 1, 1) := by decide +kernel
theorem dX8_bank_2 : decode cX8_bank 2 = .ok (.invokevirtual 179, 3) := by decide +kernel
theorem dX8_bank_5 : decode cX8_bank 5 = .ok (.ifCond .eq 22, 3) := by decide +kernel
theorem dX8_bank_8 : decode cX8_bank 8 = .ok (.iload_n 2, 1) := by decide +kernel
theorem dX8_bank_9 : decode cX8_bank 9 = .ok (.invokestatic 119, 3) := by decide +kernel
theorem dX8_bank_12 : decode cX8_bank 12 = .ok (.ifCond .eq 15, 3) := by decide +kernel
theorem dX8_bank_15 : decode cX8_bank 15 = .ok (.iload_n 3, 1) := by decide +kernel
theorem dX8_bank_16 : decode cX8_bank 16 = .ok (.i2l, 1) := by decide +kernel
theorem dX8_bank_17 : decode cX8_bank 17 = .ok (.lconst 1, 1) := by decide +kernel
theorem dX8_bank_18 : decode cX8_bank 18 = .ok (.ldc2_w 90, 3) := by decide +kernel
theorem dX8_bank_21 : decode cX8_bank 21 = .ok (.invokestatic 73, 3) := by decide +kernel
theorem dX8_bank_24 : decode cX8_bank 24 = .ok (.ifCond .ne 5, 3) := by decide +kernel
theorem dX8_bank_27 : decode cX8_bank 27 = .ok (.iconst (-1), 1) := by decide +kernel
theorem dX8_bank_28 : decode cX8_bank 28 = .ok (.ireturn, 1) := by decide +kernel
theorem dX8_bank_29 : decode cX8_bank 29 = .ok (.aload_n 0, 1) := by decide +kernel
theorem dX8_bank_30 : decode cX8_bank 30 = .ok (.iload_n 1, 1) := by decide +kernel
theorem dX8_bank_31 : decode cX8_bank 31 = .ok (.iload_n 2, 1) := by decide +kernel
theorem dX8_bank_32 : decode cX8_bank 32 = .ok (.iload_n 3, 1) := by decide +kernel
theorem dX8_bank_33 : decode cX8_bank 33 = .ok (.invokevirtual 220, 3) := by decide +kernel
theorem dX8_bank_36 : decode cX8_bank 36 = .ok (.ifCond .eq 7, 3) := by decide +kernel
theorem dX8_bank_39 : decode cX8_bank 39 = .ok (.iconst 1, 1) := by decide +kernel
theorem dX8_bank_40 : decode cX8_bank 40 = .ok (.goto 4, 3) := by decide +kernel
theorem dX8_bank_43 : decode cX8_bank 43 = .ok (.iconst 0, 1) := by decide +kernel
theorem dX8_bank_44 : decode cX8_bank 44 = .ok (.ireturn, 1) := by decide +kernel
theorem dX8_nearest_0 : decode cX8_nearest 0 = .ok (.aload_n 0, 1) := by decide +kernel
theorem dX8_nearest_1 : decode cX8_nearest 1 = .ok (.iload_n 1, 1) := by decide +kernel
theorem dX8_nearest_2 : decode cX8_nearest 2 = .ok (.invokevirtual 179, 3) := by decide +kernel
theorem dX8_nearest_5 : decode cX8_nearest 5 = .ok (.ifCond .eq 10, 3) := by decide +kernel
theorem dX8_nearest_8 : decode cX8_nearest 8 = .ok (.iload_n 2, 1) := by decide +kernel
theorem dX8_nearest_9 : decode cX8_nearest 9 = .ok (.invokestatic 119, 3) := by decide +kernel
theorem dX8_nearest_12 : decode cX8_nearest 12 = .ok (.ifCond .ne 5, 3) := by decide +kernel
theorem dX8_nearest_15 : decode cX8_nearest 15 = .ok (.iconst (-1), 1) := by decide +kernel
theorem dX8_nearest_16 : decode cX8_nearest 16 = .ok (.ireturn, 1) := by decide +kernel
theorem dX8_nearest_17 : decode cX8_nearest 17 = .ok (.bipush (-4), 2) := by decide +kernel
theorem dX8_nearest_19 : decode cX8_nearest 19 = .ok (.istore_n 3, 1) := by decide +kernel
theorem dX8_nearest_20 : decode cX8_nearest 20 = .ok (.bipush 99, 2) := by decide +kernel
theorem dX8_nearest_22 : decode cX8_nearest 22 = .ok (.istore 4, 2) := by decide +kernel
theorem dX8_nearest_24 : decode cX8_nearest 24 = .ok (.iload 4, 2) := by decide +kernel
theorem dX8_nearest_26 : decode cX8_nearest 26 = .ok (.ifCond .le 27, 3) := by decide +kernel
theorem dX8_nearest_29 : decode cX8_nearest 29 = .ok (.aload_n 0, 1) := by decide +kernel
theorem dX8_nearest_30 : decode cX8_nearest 30 = .ok (.iload_n 1, 1) := by decide +kernel
theorem dX8_nearest_31 : decode cX8_nearest 31 = .ok (.iload_n 2, 1) := by decide +kernel
theorem dX8_nearest_32 : decode cX8_nearest 32 = .ok (.iload 4, 2) := by decide +kernel
theorem dX8_nearest_34 : decode cX8_nearest 34 = .ok (.invokevirtual 220, 3) := by decide +kernel
theorem dX8_nearest_37 : decode cX8_nearest 37 = .ok (.ifCond .eq 8, 3) := by decide +kernel
theorem dX8_nearest_40 : decode cX8_nearest 40 = .ok (.iload 4, 2) := by decide +kernel
theorem dX8_nearest_42 : decode cX8_nearest 42 = .ok (.goto 4, 3) := by decide +kernel
theorem dX8_nearest_45 : decode cX8_nearest 45 = .ok (.iload_n 3, 1) := by decide +kernel
theorem dX8_nearest_46 : decode cX8_nearest 46 = .ok (.istore_n 3, 1) := by decide +kernel
theorem dX8_nearest_47 : decode cX8_nearest 47 = .ok (.iinc 4 (-1), 3) := by decide +kernel
theorem dX8_nearest_50 : decode cX8_nearest 50 = .ok (.goto (-26), 3) := by decide +kernel
theorem dX8_nearest_53 : decode cX8_nearest 53 = .ok (.iload_n 3, 1) := by decide +kernel
theorem dX8_nearest_54 : decode cX8_nearest 54 = .ok (.ireturn, 1) := by decide +kernel
theorem dX8_steered_0 : decode cX8_steered 0 = .ok (.iload_n 1, 1) := by decide +kernel
theorem dX8_steered_1 : decode cX8_steered 1 = .ok (.i2l, 1) := by decide +kernel
theorem dX8_steered_2 : decode cX8_steered 2 = .ok (.lconst 0, 1) := by decide +kernel
theorem dX8_steered_3 : decode cX8_steered 3 = .ok (.ldc2_w 92, 3) := by decide +kernel
theorem dX8_steered_6 : decode cX8_steered 6 = .ok (.invokestatic 73, 3) := by decide +kernel
theorem dX8_steered_9 : decode cX8_steered 9 = .ok (.ifCond .eq 15, 3) := by decide +kernel
theorem dX8_steered_12 : decode cX8_steered 12 = .ok (.iload_n 2, 1) := by decide +kernel
theorem dX8_steered_13 : decode cX8_steered 13 = .ok (.i2l, 1) := by decide +kernel
theorem dX8_steered_14 : decode cX8_steered 14 = .ok (.lconst 0, 1) := by decide +kernel
theorem dX8_steered_15 : decode cX8_steered 15 = .ok (.ldc2_w 108, 3) := by decide +kernel
theorem dX8_steered_18 : decode cX8_steered 18 = .ok (.invokestatic 73, 3) := by decide +kernel
theorem dX8_steered_21 : decode cX8_steered 21 = .ok (.ifCond .ne 5, 3) := by decide +kernel
theorem dX8_steered_24 : decode cX8_steered 24 = .ok (.iconst (-1), 1) := by decide +kernel
theorem dX8_steered_25 : decode cX8_steered 25 = .ok (.ireturn, 1) := by decide +kernel
theorem dX8_steered_26 : decode cX8_steered 26 = .ok (.aload_n 0, 1) := by decide +kernel
theorem dX8_steered_27 : decode cX8_steered 27 = .ok (.getfield 41, 3) := by decide +kernel
theorem dX8_steered_30 : decode cX8_steered 30 = .ok (.iconst 0, 1) := by decide +kernel
theorem dX8_steered_31 : decode cX8_steered 31 = .ok (.ldc2_w 122, 3) := by decide +kernel
theorem dX8_steered_34 : decode cX8_steered 34 = .ok (.lastore, 1) := by decide +kernel
theorem dX8_steered_35 : decode cX8_steered 35 = .ok (.lconst 0, 1) := by decide +kernel
theorem dX8_steered_36 : decode cX8_steered 36 = .ok (.lstore_n 3, 1) := by decide +kernel
theorem dX8_steered_37 : decode cX8_steered 37 = .ok (.iconst 1, 1) := by decide +kernel
theorem dX8_steered_38 : decode cX8_steered 38 = .ok (.istore 5, 2) := by decide +kernel
theorem dX8_steered_40 : decode cX8_steered 40 = .ok (.iload 5, 2) := by decide +kernel
theorem dX8_steered_42 : decode cX8_steered 42 = .ok (.bipush 61, 2) := by decide +kernel
theorem dX8_steered_44 : decode cX8_steered 44 = .ok (.if_icmp .ge 134, 3) := by decide +kernel
theorem dX8_steered_47 : decode cX8_steered 47 = .ok (.iload 5, 2) := by decide +kernel
theorem dX8_steered_49 : decode cX8_steered 49 = .ok (.iload_n 2, 1) := by decide +kernel
theorem dX8_steered_50 : decode cX8_steered 50 = .ok (.isub, 1) := by decide +kernel
theorem dX8_steered_51 : decode cX8_steered 51 = .ok (.iconst 1, 1) := by decide +kernel
theorem dX8_steered_52 : decode cX8_steered 52 = .ok (.isub, 1) := by decide +kernel
theorem dX8_steered_53 : decode cX8_steered 53 = .ok (.istore 6, 2) := by decide +kernel
theorem dX8_steered_55 : decode cX8_steered 55 = .ok (.lload_n 3, 1) := by decide +kernel
theorem dX8_steered_56 : decode cX8_steered 56 = .ok (.iload_n 1, 1) := by decide +kernel
theorem dX8_steered_57 : decode cX8_steered 57 = .ok (.i2l, 1) := by decide +kernel
theorem dX8_steered_58 : decode cX8_steered 58 = .ok (.aload_n 0, 1) := by decide +kernel
theorem dX8_steered_59 : decode cX8_steered 59 = .ok (.getfield 41, 3) := by decide +kernel
theorem dX8_steered_62 : decode cX8_steered 62 = .ok (.iload 6, 2) := by decide +kernel
theorem dX8_steered_64 : decode cX8_steered 64 = .ok (.ifCond .ge 7, 3) := by decide +kernel
theorem dX8_steered_67 : decode cX8_steered 67 = .ok (.iconst 0, 1) := by decide +kernel
theorem dX8_steered_68 : decode cX8_steered 68 = .ok (.goto 5, 3) := by decide +kernel
theorem dX8_steered_71 : decode cX8_steered 71 = .ok (.iload 6, 2) := by decide +kernel
theorem dX8_steered_73 : decode cX8_steered 73 = .ok (.laload, 1) := by decide +kernel
theorem dX8_steered_74 : decode cX8_steered 74 = .ok (.lmul, 1) := by decide +kernel
theorem dX8_steered_75 : decode cX8_steered 75 = .ok (.ldc2_w 224, 3) := by decide +kernel
theorem dX8_steered_78 : decode cX8_steered 78 = .ok (.ldiv, 1) := by decide +kernel
theorem dX8_steered_79 : decode cX8_steered 79 = .ok (.lsub, 1) := by decide +kernel
theorem dX8_steered_80 : decode cX8_steered 80 = .ok (.lstore_n 3, 1) := by decide +kernel
theorem dX8_steered_81 : decode cX8_steered 81 = .ok (.lload_n 3, 1) := by decide +kernel
theorem dX8_steered_82 : decode cX8_steered 82 = .ok (.aload_n 0, 1) := by decide +kernel
theorem dX8_steered_83 : decode cX8_steered 83 = .ok (.getfield 41, 3) := by decide +kernel
theorem dX8_steered_86 : decode cX8_steered 86 = .ok (.iload 5, 2) := by decide +kernel
theorem dX8_steered_88 : decode cX8_steered 88 = .ok (.iconst 1, 1) := by decide +kernel
theorem dX8_steered_89 : decode cX8_steered 89 = .ok (.isub, 1) := by decide +kernel
theorem dX8_steered_90 : decode cX8_steered 90 = .ok (.laload, 1) := by decide +kernel
theorem dX8_steered_91 : decode cX8_steered 91 = .ok (.lconst 0, 1) := by decide +kernel
theorem dX8_steered_92 : decode cX8_steered 92 = .ok (.lcmp, 1) := by decide +kernel
theorem dX8_steered_93 : decode cX8_steered 93 = .ok (.ifCond .le 7, 3) := by decide +kernel
theorem dX8_steered_96 : decode cX8_steered 96 = .ok (.lconst 1, 1) := by decide +kernel
theorem dX8_steered_97 : decode cX8_steered 97 = .ok (.goto 24, 3) := by decide +kernel
theorem dX8_steered_100 : decode cX8_steered 100 = .ok (.aload_n 0, 1) := by decide +kernel
theorem dX8_steered_101 : decode cX8_steered 101 = .ok (.getfield 41, 3) := by decide +kernel
theorem dX8_steered_104 : decode cX8_steered 104 = .ok (.iload 5, 2) := by decide +kernel
theorem dX8_steered_106 : decode cX8_steered 106 = .ok (.iconst 1, 1) := by decide +kernel
theorem dX8_steered_107 : decode cX8_steered 107 = .ok (.isub, 1) := by decide +kernel
theorem dX8_steered_108 : decode cX8_steered 108 = .ok (.laload, 1) := by decide +kernel
theorem dX8_steered_109 : decode cX8_steered 109 = .ok (.lconst 0, 1) := by decide +kernel
theorem dX8_steered_110 : decode cX8_steered 110 = .ok (.lcmp, 1) := by decide +kernel
theorem dX8_steered_111 : decode cX8_steered 111 = .ok (.ifCond .ge 9, 3) := by decide +kernel
theorem dX8_steered_114 : decode cX8_steered 114 = .ok (.ldc2_w 210, 3) := by decide +kernel
theorem dX8_steered_117 : decode cX8_steered 117 = .ok (.goto 4, 3) := by decide +kernel
theorem dX8_steered_120 : decode cX8_steered 120 = .ok (.lconst 0, 1) := by decide +kernel
theorem dX8_steered_121 : decode cX8_steered 121 = .ok (.ladd, 1) := by decide +kernel
theorem dX8_steered_122 : decode cX8_steered 122 = .ok (.lstore_n 3, 1) := by decide +kernel
theorem dX8_steered_123 : decode cX8_steered 123 = .ok (.aload_n 0, 1) := by decide +kernel
theorem dX8_steered_124 : decode cX8_steered 124 = .ok (.getfield 41, 3) := by decide +kernel
theorem dX8_steered_127 : decode cX8_steered 127 = .ok (.iload 5, 2) := by decide +kernel
theorem dX8_steered_129 : decode cX8_steered 129 = .ok (.aload_n 0, 1) := by decide +kernel
theorem dX8_steered_130 : decode cX8_steered 130 = .ok (.getfield 41, 3) := by decide +kernel
theorem dX8_steered_133 : decode cX8_steered 133 = .ok (.iload 5, 2) := by decide +kernel
theorem dX8_steered_135 : decode cX8_steered 135 = .ok (.iconst 1, 1) := by decide +kernel
theorem dX8_steered_136 : decode cX8_steered 136 = .ok (.isub, 1) := by decide +kernel
theorem dX8_steered_137 : decode cX8_steered 137 = .ok (.laload, 1) := by decide +kernel
theorem dX8_steered_138 : decode cX8_steered 138 = .ok (.lload_n 3, 1) := by decide +kernel
theorem dX8_steered_139 : decode cX8_steered 139 = .ok (.ladd, 1) := by decide +kernel
theorem dX8_steered_140 : decode cX8_steered 140 = .ok (.lastore, 1) := by decide +kernel
theorem dX8_steered_141 : decode cX8_steered 141 = .ok (.aload_n 0, 1) := by decide +kernel
theorem dX8_steered_142 : decode cX8_steered 142 = .ok (.getfield 41, 3) := by decide +kernel
theorem dX8_steered_145 : decode cX8_steered 145 = .ok (.iload 5, 2) := by decide +kernel
theorem dX8_steered_147 : decode cX8_steered 147 = .ok (.laload, 1) := by decide +kernel
theorem dX8_steered_148 : decode cX8_steered 148 = .ok (.ldc2_w 94, 3) := by decide +kernel
theorem dX8_steered_151 : decode cX8_steered 151 = .ok (.lcmp, 1) := by decide +kernel
theorem dX8_steered_152 : decode cX8_steered 152 = .ok (.ifCond .ge 17, 3) := by decide +kernel
theorem dX8_steered_155 : decode cX8_steered 155 = .ok (.aload_n 0, 1) := by decide +kernel
theorem dX8_steered_156 : decode cX8_steered 156 = .ok (.getfield 41, 3) := by decide +kernel
theorem dX8_steered_159 : decode cX8_steered 159 = .ok (.iload 5, 2) := by decide +kernel
theorem dX8_steered_161 : decode cX8_steered 161 = .ok (.laload, 1) := by decide +kernel
theorem dX8_steered_162 : decode cX8_steered 162 = .ok (.ldc2_w 226, 3) := by decide +kernel
theorem dX8_steered_165 : decode cX8_steered 165 = .ok (.lcmp, 1) := by decide +kernel
theorem dX8_steered_166 : decode cX8_steered 166 = .ok (.ifCond .gt 6, 3) := by decide +kernel
theorem dX8_steered_169 : decode cX8_steered 169 = .ok (.iload 5, 2) := by decide +kernel
theorem dX8_steered_171 : decode cX8_steered 171 = .ok (.ireturn, 1) := by decide +kernel
theorem dX8_steered_172 : decode cX8_steered 172 = .ok (.iinc 5 1, 3) := by decide +kernel
theorem dX8_steered_175 : decode cX8_steered 175 = .ok (.goto (-135), 3) := by decide +kernel
theorem dX8_steered_178 : decode cX8_steered 178 = .ok (.iconst 0, 1) := by decide +kernel
theorem dX8_steered_179 : decode cX8_steered 179 = .ok (.ireturn, 1) := by decide +kernel
theorem dX8_may_0 : decode cX8_may 0 = .ok (.aload_n 0, 1) := by decide +kernel
theorem dX8_may_1 : decode cX8_may 1 = .ok (.iload_n 1, 1) := by decide +kernel
theorem dX8_may_2 : decode cX8_may 2 = .ok (.invokevirtual 179, 3) := by decide +kernel
theorem dX8_may_5 : decode cX8_may 5 = .ok (.ifCond .eq 40, 3) := by decide +kernel
theorem dX8_may_8 : decode cX8_may 8 = .ok (.aload_n 0, 1) := by decide +kernel
theorem dX8_may_9 : decode cX8_may 9 = .ok (.iload_n 2, 1) := by decide +kernel
theorem dX8_may_10 : decode cX8_may 10 = .ok (.invokevirtual 179, 3) := by decide +kernel
theorem dX8_may_13 : decode cX8_may 13 = .ok (.ifCond .eq 32, 3) := by decide +kernel
theorem dX8_may_16 : decode cX8_may 16 = .ok (.iload_n 1, 1) := by decide +kernel
theorem dX8_may_17 : decode cX8_may 17 = .ok (.iload_n 2, 1) := by decide +kernel
theorem dX8_may_18 : decode cX8_may 18 = .ok (.if_icmp .eq 27, 3) := by decide +kernel
theorem dX8_may_21 : decode cX8_may 21 = .ok (.aload_n 0, 1) := by decide +kernel
theorem dX8_may_22 : decode cX8_may 22 = .ok (.iload_n 3, 1) := by decide +kernel
theorem dX8_may_23 : decode cX8_may 23 = .ok (.invokevirtual 104, 3) := by decide +kernel
theorem dX8_may_26 : decode cX8_may 26 = .ok (.ifCond .eq 19, 3) := by decide +kernel
theorem dX8_may_29 : decode cX8_may 29 = .ok (.iload 4, 2) := by decide +kernel
theorem dX8_may_31 : decode cX8_may 31 = .ok (.invokestatic 119, 3) := by decide +kernel
theorem dX8_may_34 : decode cX8_may 34 = .ok (.ifCond .eq 11, 3) := by decide +kernel
theorem dX8_may_37 : decode cX8_may 37 = .ok (.iload 5, 2) := by decide +kernel
theorem dX8_may_39 : decode cX8_may 39 = .ok (.invokestatic 119, 3) := by decide +kernel
theorem dX8_may_42 : decode cX8_may 42 = .ok (.ifCond .ne 5, 3) := by decide +kernel
theorem dX8_may_45 : decode cX8_may 45 = .ok (.iconst (-1), 1) := by decide +kernel
theorem dX8_may_46 : decode cX8_may 46 = .ok (.ireturn, 1) := by decide +kernel
theorem dX8_may_47 : decode cX8_may 47 = .ok (.aload_n 0, 1) := by decide +kernel
theorem dX8_may_48 : decode cX8_may 48 = .ok (.getfield 7, 3) := by decide +kernel
theorem dX8_may_51 : decode cX8_may 51 = .ok (.bipush 6, 2) := by decide +kernel
theorem dX8_may_53 : decode cX8_may 53 = .ok (.iload_n 3, 1) := by decide +kernel
theorem dX8_may_54 : decode cX8_may 54 = .ok (.imul, 1) := by decide +kernel
theorem dX8_may_55 : decode cX8_may 55 = .ok (.iconst 1, 1) := by decide +kernel
theorem dX8_may_56 : decode cX8_may 56 = .ok (.iadd, 1) := by decide +kernel
theorem dX8_may_57 : decode cX8_may 57 = .ok (.iaload, 1) := by decide +kernel
theorem dX8_may_58 : decode cX8_may 58 = .ok (.aload_n 0, 1) := by decide +kernel
theorem dX8_may_59 : decode cX8_may 59 = .ok (.getfield 19, 3) := by decide +kernel
theorem dX8_may_62 : decode cX8_may 62 = .ok (.iconst 3, 1) := by decide +kernel
theorem dX8_may_63 : decode cX8_may 63 = .ok (.iload_n 1, 1) := by decide +kernel
theorem dX8_may_64 : decode cX8_may 64 = .ok (.imul, 1) := by decide +kernel
theorem dX8_may_65 : decode cX8_may 65 = .ok (.iconst 1, 1) := by decide +kernel
theorem dX8_may_66 : decode cX8_may 66 = .ok (.iadd, 1) := by decide +kernel
theorem dX8_may_67 : decode cX8_may 67 = .ok (.iaload, 1) := by decide +kernel
theorem dX8_may_68 : decode cX8_may 68 = .ok (.aload_n 0, 1) := by decide +kernel
theorem dX8_may_69 : decode cX8_may 69 = .ok (.getfield 19, 3) := by decide +kernel
theorem dX8_may_72 : decode cX8_may 72 = .ok (.iconst 3, 1) := by decide +kernel
theorem dX8_may_73 : decode cX8_may 73 = .ok (.iload_n 2, 1) := by decide +kernel
theorem dX8_may_74 : decode cX8_may 74 = .ok (.imul, 1) := by decide +kernel
theorem dX8_may_75 : decode cX8_may 75 = .ok (.iconst 1, 1) := by decide +kernel
theorem dX8_may_76 : decode cX8_may 76 = .ok (.iadd, 1) := by decide +kernel
theorem dX8_may_77 : decode cX8_may 77 = .ok (.iaload, 1) := by decide +kernel
theorem dX8_may_78 : decode cX8_may 78 = .ok (.iadd, 1) := by decide +kernel
theorem dX8_may_79 : decode cX8_may 79 = .ok (.iload 4, 2) := by decide +kernel
theorem dX8_may_81 : decode cX8_may 81 = .ok (.iload 5, 2) := by decide +kernel
theorem dX8_may_83 : decode cX8_may 83 = .ok (.iadd, 1) := by decide +kernel
theorem dX8_may_84 : decode cX8_may 84 = .ok (.iload 4, 2) := by decide +kernel
theorem dX8_may_86 : decode cX8_may 86 = .ok (.iload 5, 2) := by decide +kernel
theorem dX8_may_88 : decode cX8_may 88 = .ok (.iadd, 1) := by decide +kernel
theorem dX8_may_89 : decode cX8_may 89 = .ok (.imul, 1) := by decide +kernel
theorem dX8_may_90 : decode cX8_may 90 = .ok (.bipush 20, 2) := by decide +kernel
theorem dX8_may_92 : decode cX8_may 92 = .ok (.idiv, 1) := by decide +kernel
theorem dX8_may_93 : decode cX8_may 93 = .ok (.iadd, 1) := by decide +kernel
theorem dX8_may_94 : decode cX8_may 94 = .ok (.if_icmp .lt 7, 3) := by decide +kernel
theorem dX8_may_97 : decode cX8_may 97 = .ok (.iconst 1, 1) := by decide +kernel
theorem dX8_may_98 : decode cX8_may 98 = .ok (.goto 4, 3) := by decide +kernel
theorem dX8_may_101 : decode cX8_may 101 = .ok (.iconst 0, 1) := by decide +kernel
theorem dX8_may_102 : decode cX8_may 102 = .ok (.ireturn, 1) := by decide +kernel
theorem dX8_meet_0 : decode cX8_meet 0 = .ok (.aload_n 0, 1) := by decide +kernel
theorem dX8_meet_1 : decode cX8_meet 1 = .ok (.iload_n 1, 1) := by decide +kernel
theorem dX8_meet_2 : decode cX8_meet 2 = .ok (.invokevirtual 179, 3) := by decide +kernel
theorem dX8_meet_5 : decode cX8_meet 5 = .ok (.ifCond .eq 48, 3) := by decide +kernel
theorem dX8_meet_8 : decode cX8_meet 8 = .ok (.aload_n 0, 1) := by decide +kernel
theorem dX8_meet_9 : decode cX8_meet 9 = .ok (.iload 4, 2) := by decide +kernel
theorem dX8_meet_11 : decode cX8_meet 11 = .ok (.invokevirtual 179, 3) := by decide +kernel
theorem dX8_meet_14 : decode cX8_meet 14 = .ok (.ifCond .eq 39, 3) := by decide +kernel
theorem dX8_meet_17 : decode cX8_meet 17 = .ok (.iload_n 1, 1) := by decide +kernel
theorem dX8_meet_18 : decode cX8_meet 18 = .ok (.iload 4, 2) := by decide +kernel
theorem dX8_meet_20 : decode cX8_meet 20 = .ok (.if_icmp .eq 33, 3) := by decide +kernel
theorem dX8_meet_23 : decode cX8_meet 23 = .ok (.iload_n 2, 1) := by decide +kernel
theorem dX8_meet_24 : decode cX8_meet 24 = .ok (.invokestatic 201, 3) := by decide +kernel
theorem dX8_meet_27 : decode cX8_meet 27 = .ok (.ifCond .eq 26, 3) := by decide +kernel
theorem dX8_meet_30 : decode cX8_meet 30 = .ok (.iload 5, 2) := by decide +kernel
theorem dX8_meet_32 : decode cX8_meet 32 = .ok (.invokestatic 201, 3) := by decide +kernel
theorem dX8_meet_35 : decode cX8_meet 35 = .ok (.ifCond .eq 18, 3) := by decide +kernel
theorem dX8_meet_38 : decode cX8_meet 38 = .ok (.iload_n 3, 1) := by decide +kernel
theorem dX8_meet_39 : decode cX8_meet 39 = .ok (.invokestatic 119, 3) := by decide +kernel
theorem dX8_meet_42 : decode cX8_meet 42 = .ok (.ifCond .eq 11, 3) := by decide +kernel
theorem dX8_meet_45 : decode cX8_meet 45 = .ok (.iload 6, 2) := by decide +kernel
theorem dX8_meet_47 : decode cX8_meet 47 = .ok (.invokestatic 119, 3) := by decide +kernel
theorem dX8_meet_50 : decode cX8_meet 50 = .ok (.ifCond .ne 5, 3) := by decide +kernel
theorem dX8_meet_53 : decode cX8_meet 53 = .ok (.iconst (-1), 1) := by decide +kernel
theorem dX8_meet_54 : decode cX8_meet 54 = .ok (.ireturn, 1) := by decide +kernel
theorem dX8_meet_55 : decode cX8_meet 55 = .ok (.aload_n 0, 1) := by decide +kernel
theorem dX8_meet_56 : decode cX8_meet 56 = .ok (.getfield 69, 3) := by decide +kernel
theorem dX8_meet_59 : decode cX8_meet 59 = .ok (.ifCond .ne 6, 3) := by decide +kernel
theorem dX8_meet_62 : decode cX8_meet 62 = .ok (.bipush (-2), 2) := by decide +kernel
theorem dX8_meet_64 : decode cX8_meet 64 = .ok (.ireturn, 1) := by decide +kernel
theorem dX8_meet_65 : decode cX8_meet 65 = .ok (.iconst 0, 1) := by decide +kernel
theorem dX8_meet_66 : decode cX8_meet 66 = .ok (.istore 7, 2) := by decide +kernel
theorem dX8_meet_68 : decode cX8_meet 68 = .ok (.iload 7, 2) := by decide +kernel
theorem dX8_meet_70 : decode cX8_meet 70 = .ok (.aload_n 0, 1) := by decide +kernel
theorem dX8_meet_71 : decode cX8_meet 71 = .ok (.getfield 69, 3) := by decide +kernel
theorem dX8_meet_74 : decode cX8_meet 74 = .ok (.if_icmp .ge 68, 3) := by decide +kernel
theorem dX8_meet_77 : decode cX8_meet 77 = .ok (.iload_n 2, 1) := by decide +kernel
theorem dX8_meet_78 : decode cX8_meet 78 = .ok (.iload 7, 2) := by decide +kernel
theorem dX8_meet_80 : decode cX8_meet 80 = .ok (.bipush 60, 2) := by decide +kernel
theorem dX8_meet_82 : decode cX8_meet 82 = .ok (.iload_n 3, 1) := by decide +kernel
theorem dX8_meet_83 : decode cX8_meet 83 = .ok (.idiv, 1) := by decide +kernel
theorem dX8_meet_84 : decode cX8_meet 84 = .ok (.imul, 1) := by decide +kernel
theorem dX8_meet_85 : decode cX8_meet 85 = .ok (.iadd, 1) := by decide +kernel
theorem dX8_meet_86 : decode cX8_meet 86 = .ok (.istore 8, 2) := by decide +kernel
theorem dX8_meet_88 : decode cX8_meet 88 = .ok (.iload 5, 2) := by decide +kernel
theorem dX8_meet_90 : decode cX8_meet 90 = .ok (.aload_n 0, 1) := by decide +kernel
theorem dX8_meet_91 : decode cX8_meet 91 = .ok (.getfield 69, 3) := by decide +kernel
theorem dX8_meet_94 : decode cX8_meet 94 = .ok (.iconst 1, 1) := by decide +kernel
theorem dX8_meet_95 : decode cX8_meet 95 = .ok (.isub, 1) := by decide +kernel
theorem dX8_meet_96 : decode cX8_meet 96 = .ok (.iload 7, 2) := by decide +kernel
theorem dX8_meet_98 : decode cX8_meet 98 = .ok (.isub, 1) := by decide +kernel
theorem dX8_meet_99 : decode cX8_meet 99 = .ok (.bipush 60, 2) := by decide +kernel
theorem dX8_meet_101 : decode cX8_meet 101 = .ok (.iload 6, 2) := by decide +kernel
theorem dX8_meet_103 : decode cX8_meet 103 = .ok (.idiv, 1) := by decide +kernel
theorem dX8_meet_104 : decode cX8_meet 104 = .ok (.imul, 1) := by decide +kernel
theorem dX8_meet_105 : decode cX8_meet 105 = .ok (.iadd, 1) := by decide +kernel
theorem dX8_meet_106 : decode cX8_meet 106 = .ok (.istore 9, 2) := by decide +kernel
theorem dX8_meet_108 : decode cX8_meet 108 = .ok (.iload 8, 2) := by decide +kernel
theorem dX8_meet_110 : decode cX8_meet 110 = .ok (.iload 9, 2) := by decide +kernel
theorem dX8_meet_112 : decode cX8_meet 112 = .ok (.bipush 60, 2) := by decide +kernel
theorem dX8_meet_114 : decode cX8_meet 114 = .ok (.iload 6, 2) := by decide +kernel
theorem dX8_meet_116 : decode cX8_meet 116 = .ok (.idiv, 1) := by decide +kernel
theorem dX8_meet_117 : decode cX8_meet 117 = .ok (.iadd, 1) := by decide +kernel
theorem dX8_meet_118 : decode cX8_meet 118 = .ok (.if_icmp .ge 18, 3) := by decide +kernel
theorem dX8_meet_121 : decode cX8_meet 121 = .ok (.iload 9, 2) := by decide +kernel
theorem dX8_meet_123 : decode cX8_meet 123 = .ok (.iload 8, 2) := by decide +kernel
theorem dX8_meet_125 : decode cX8_meet 125 = .ok (.bipush 60, 2) := by decide +kernel
theorem dX8_meet_127 : decode cX8_meet 127 = .ok (.iload_n 3, 1) := by decide +kernel
theorem dX8_meet_128 : decode cX8_meet 128 = .ok (.idiv, 1) := by decide +kernel
theorem dX8_meet_129 : decode cX8_meet 129 = .ok (.iadd, 1) := by decide +kernel
theorem dX8_meet_130 : decode cX8_meet 130 = .ok (.if_icmp .ge 6, 3) := by decide +kernel
theorem dX8_meet_133 : decode cX8_meet 133 = .ok (.iload 7, 2) := by decide +kernel
theorem dX8_meet_135 : decode cX8_meet 135 = .ok (.ireturn, 1) := by decide +kernel
theorem dX8_meet_136 : decode cX8_meet 136 = .ok (.iinc 7 1, 3) := by decide +kernel
theorem dX8_meet_139 : decode cX8_meet 139 = .ok (.goto (-71), 3) := by decide +kernel
theorem dX8_meet_142 : decode cX8_meet 142 = .ok (.bipush (-4), 2) := by decide +kernel
theorem dX8_meet_144 : decode cX8_meet 144 = .ok (.ireturn, 1) := by decide +kernel
theorem dX8_turns_0 : decode cX8_turns 0 = .ok (.iload_n 1, 1) := by decide +kernel
theorem dX8_turns_1 : decode cX8_turns 1 = .ok (.iconst 2, 1) := by decide +kernel
theorem dX8_turns_2 : decode cX8_turns 2 = .ok (.isub, 1) := by decide +kernel
theorem dX8_turns_3 : decode cX8_turns 3 = .ok (.istore_n 2, 1) := by decide +kernel
theorem dX8_turns_4 : decode cX8_turns 4 = .ok (.iload_n 2, 1) := by decide +kernel
theorem dX8_turns_5 : decode cX8_turns 5 = .ok (.ifCond .lt 26, 3) := by decide +kernel
theorem dX8_turns_8 : decode cX8_turns 8 = .ok (.aload_n 0, 1) := by decide +kernel
theorem dX8_turns_9 : decode cX8_turns 9 = .ok (.getfield 48, 3) := by decide +kernel
theorem dX8_turns_12 : decode cX8_turns 12 = .ok (.iload_n 2, 1) := by decide +kernel
theorem dX8_turns_13 : decode cX8_turns 13 = .ok (.iaload, 1) := by decide +kernel
theorem dX8_turns_14 : decode cX8_turns 14 = .ok (.aload_n 0, 1) := by decide +kernel
theorem dX8_turns_15 : decode cX8_turns 15 = .ok (.getfield 48, 3) := by decide +kernel
theorem dX8_turns_18 : decode cX8_turns 18 = .ok (.iload_n 2, 1) := by decide +kernel
theorem dX8_turns_19 : decode cX8_turns 19 = .ok (.iconst 1, 1) := by decide +kernel
theorem dX8_turns_20 : decode cX8_turns 20 = .ok (.iadd, 1) := by decide +kernel
theorem dX8_turns_21 : decode cX8_turns 21 = .ok (.iaload, 1) := by decide +kernel
theorem dX8_turns_22 : decode cX8_turns 22 = .ok (.if_icmp .le 9, 3) := by decide +kernel
theorem dX8_turns_25 : decode cX8_turns 25 = .ok (.iinc 2 (-1), 3) := by decide +kernel
theorem dX8_turns_28 : decode cX8_turns 28 = .ok (.goto (-24), 3) := by decide +kernel
theorem dX8_turns_31 : decode cX8_turns 31 = .ok (.iload_n 2, 1) := by decide +kernel
theorem dX8_turns_32 : decode cX8_turns 32 = .ok (.ifCond .ge 5, 3) := by decide +kernel
theorem dX8_turns_35 : decode cX8_turns 35 = .ok (.iconst 0, 1) := by decide +kernel
theorem dX8_turns_36 : decode cX8_turns 36 = .ok (.ireturn, 1) := by decide +kernel
theorem dX8_turns_37 : decode cX8_turns 37 = .ok (.iload_n 1, 1) := by decide +kernel
theorem dX8_turns_38 : decode cX8_turns 38 = .ok (.iconst 1, 1) := by decide +kernel
theorem dX8_turns_39 : decode cX8_turns 39 = .ok (.isub, 1) := by decide +kernel
theorem dX8_turns_40 : decode cX8_turns 40 = .ok (.istore_n 3, 1) := by decide +kernel
theorem dX8_turns_41 : decode cX8_turns 41 = .ok (.aload_n 0, 1) := by decide +kernel
theorem dX8_turns_42 : decode cX8_turns 42 = .ok (.getfield 48, 3) := by decide +kernel
theorem dX8_turns_45 : decode cX8_turns 45 = .ok (.iload_n 3, 1) := by decide +kernel
theorem dX8_turns_46 : decode cX8_turns 46 = .ok (.iaload, 1) := by decide +kernel
theorem dX8_turns_47 : decode cX8_turns 47 = .ok (.aload_n 0, 1) := by decide +kernel
theorem dX8_turns_48 : decode cX8_turns 48 = .ok (.getfield 48, 3) := by decide +kernel
theorem dX8_turns_51 : decode cX8_turns 51 = .ok (.iload_n 2, 1) := by decide +kernel
theorem dX8_turns_52 : decode cX8_turns 52 = .ok (.iaload, 1) := by decide +kernel
theorem dX8_turns_53 : decode cX8_turns 53 = .ok (.if_icmp .ge 9, 3) := by decide +kernel
theorem dX8_turns_56 : decode cX8_turns 56 = .ok (.iinc 3 (-1), 3) := by decide +kernel
theorem dX8_turns_59 : decode cX8_turns 59 = .ok (.goto (-18), 3) := by decide +kernel
theorem dX8_turns_62 : decode cX8_turns 62 = .ok (.aload_n 0, 1) := by decide +kernel
theorem dX8_turns_63 : decode cX8_turns 63 = .ok (.getfield 48, 3) := by decide +kernel
theorem dX8_turns_66 : decode cX8_turns 66 = .ok (.iload_n 2, 1) := by decide +kernel
theorem dX8_turns_67 : decode cX8_turns 67 = .ok (.iaload, 1) := by decide +kernel
theorem dX8_turns_68 : decode cX8_turns 68 = .ok (.istore 4, 2) := by decide +kernel
theorem dX8_turns_70 : decode cX8_turns 70 = .ok (.aload_n 0, 1) := by decide +kernel
theorem dX8_turns_71 : decode cX8_turns 71 = .ok (.getfield 48, 3) := by decide +kernel
theorem dX8_turns_74 : decode cX8_turns 74 = .ok (.iload_n 2, 1) := by decide +kernel
theorem dX8_turns_75 : decode cX8_turns 75 = .ok (.aload_n 0, 1) := by decide +kernel
theorem dX8_turns_76 : decode cX8_turns 76 = .ok (.getfield 48, 3) := by decide +kernel
theorem dX8_turns_79 : decode cX8_turns 79 = .ok (.iload_n 3, 1) := by decide +kernel
theorem dX8_turns_80 : decode cX8_turns 80 = .ok (.iaload, 1) := by decide +kernel
theorem dX8_turns_81 : decode cX8_turns 81 = .ok (.iastore, 1) := by decide +kernel
theorem dX8_turns_82 : decode cX8_turns 82 = .ok (.aload_n 0, 1) := by decide +kernel
theorem dX8_turns_83 : decode cX8_turns 83 = .ok (.getfield 48, 3) := by decide +kernel
theorem dX8_turns_86 : decode cX8_turns 86 = .ok (.iload_n 3, 1) := by decide +kernel
theorem dX8_turns_87 : decode cX8_turns 87 = .ok (.iload 4, 2) := by decide +kernel
theorem dX8_turns_89 : decode cX8_turns 89 = .ok (.iastore, 1) := by decide +kernel
theorem dX8_turns_90 : decode cX8_turns 90 = .ok (.iload_n 2, 1) := by decide +kernel
theorem dX8_turns_91 : decode cX8_turns 91 = .ok (.iconst 1, 1) := by decide +kernel
theorem dX8_turns_92 : decode cX8_turns 92 = .ok (.iadd, 1) := by decide +kernel
theorem dX8_turns_93 : decode cX8_turns 93 = .ok (.istore 5, 2) := by decide +kernel
theorem dX8_turns_95 : decode cX8_turns 95 = .ok (.iload_n 1, 1) := by decide +kernel
theorem dX8_turns_96 : decode cX8_turns 96 = .ok (.iconst 1, 1) := by decide +kernel
theorem dX8_turns_97 : decode cX8_turns 97 = .ok (.isub, 1) := by decide +kernel
theorem dX8_turns_98 : decode cX8_turns 98 = .ok (.istore 6, 2) := by decide +kernel
theorem dX8_turns_100 : decode cX8_turns 100 = .ok (.iload 5, 2) := by decide +kernel
theorem dX8_turns_102 : decode cX8_turns 102 = .ok (.iload 6, 2) := by decide +kernel
theorem dX8_turns_104 : decode cX8_turns 104 = .ok (.if_icmp .ge 44, 3) := by decide +kernel
theorem dX8_turns_107 : decode cX8_turns 107 = .ok (.aload_n 0, 1) := by decide +kernel
theorem dX8_turns_108 : decode cX8_turns 108 = .ok (.getfield 48, 3) := by decide +kernel
theorem dX8_turns_111 : decode cX8_turns 111 = .ok (.iload 5, 2) := by decide +kernel
theorem dX8_turns_113 : decode cX8_turns 113 = .ok (.iaload, 1) := by decide +kernel
theorem dX8_turns_114 : decode cX8_turns 114 = .ok (.istore 4, 2) := by decide +kernel
theorem dX8_turns_116 : decode cX8_turns 116 = .ok (.aload_n 0, 1) := by decide +kernel
theorem dX8_turns_117 : decode cX8_turns 117 = .ok (.getfield 48, 3) := by decide +kernel
theorem dX8_turns_120 : decode cX8_turns 120 = .ok (.iload 5, 2) := by decide +kernel
theorem dX8_turns_122 : decode cX8_turns 122 = .ok (.aload_n 0, 1) := by decide +kernel
theorem dX8_turns_123 : decode cX8_turns 123 = .ok (.getfield 48, 3) := by decide +kernel
theorem dX8_turns_126 : decode cX8_turns 126 = .ok (.iload 6, 2) := by decide +kernel
theorem dX8_turns_128 : decode cX8_turns 128 = .ok (.iaload, 1) := by decide +kernel
theorem dX8_turns_129 : decode cX8_turns 129 = .ok (.iastore, 1) := by decide +kernel
theorem dX8_turns_130 : decode cX8_turns 130 = .ok (.aload_n 0, 1) := by decide +kernel
theorem dX8_turns_131 : decode cX8_turns 131 = .ok (.getfield 48, 3) := by decide +kernel
theorem dX8_turns_134 : decode cX8_turns 134 = .ok (.iload 6, 2) := by decide +kernel
theorem dX8_turns_136 : decode cX8_turns 136 = .ok (.iload 4, 2) := by decide +kernel
theorem dX8_turns_138 : decode cX8_turns 138 = .ok (.iastore, 1) := by decide +kernel
theorem dX8_turns_139 : decode cX8_turns 139 = .ok (.iinc 5 1, 3) := by decide +kernel
theorem dX8_turns_142 : decode cX8_turns 142 = .ok (.iinc 6 (-1), 3) := by decide +kernel
theorem dX8_turns_145 : decode cX8_turns 145 = .ok (.goto (-45), 3) := by decide +kernel
theorem dX8_turns_148 : decode cX8_turns 148 = .ok (.iconst 1, 1) := by decide +kernel
theorem dX8_turns_149 : decode cX8_turns 149 = .ok (.ireturn, 1) := by decide +kernel
theorem dX8_sumOf_0 : decode cX8_sumOf 0 = .ok (.iconst 0, 1) := by decide +kernel
theorem dX8_sumOf_1 : decode cX8_sumOf 1 = .ok (.istore_n 3, 1) := by decide +kernel
theorem dX8_sumOf_2 : decode cX8_sumOf 2 = .ok (.iconst 0, 1) := by decide +kernel
theorem dX8_sumOf_3 : decode cX8_sumOf 3 = .ok (.istore 4, 2) := by decide +kernel
theorem dX8_sumOf_5 : decode cX8_sumOf 5 = .ok (.iconst 0, 1) := by decide +kernel
theorem dX8_sumOf_6 : decode cX8_sumOf 6 = .ok (.istore 5, 2) := by decide +kernel
theorem dX8_sumOf_8 : decode cX8_sumOf 8 = .ok (.iload 5, 2) := by decide +kernel
theorem dX8_sumOf_10 : decode cX8_sumOf 10 = .ok (.iload_n 1, 1) := by decide +kernel
theorem dX8_sumOf_11 : decode cX8_sumOf 11 = .ok (.if_icmp .ge 60, 3) := by decide +kernel
theorem dX8_sumOf_14 : decode cX8_sumOf 14 = .ok (.iload_n 3, 1) := by decide +kernel
theorem dX8_sumOf_15 : decode cX8_sumOf 15 = .ok (.ldc 194, 2) := by decide +kernel
theorem dX8_sumOf_17 : decode cX8_sumOf 17 = .ok (.if_icmp .ge 54, 3) := by decide +kernel
theorem dX8_sumOf_20 : decode cX8_sumOf 20 = .ok (.iload 4, 2) := by decide +kernel
theorem dX8_sumOf_22 : decode cX8_sumOf 22 = .ok (.sipush 1440, 3) := by decide +kernel
theorem dX8_sumOf_25 : decode cX8_sumOf 25 = .ok (.if_icmp .ge 25, 3) := by decide +kernel
theorem dX8_sumOf_28 : decode cX8_sumOf 28 = .ok (.aload_n 0, 1) := by decide +kernel
theorem dX8_sumOf_29 : decode cX8_sumOf 29 = .ok (.getfield 45, 3) := by decide +kernel
theorem dX8_sumOf_32 : decode cX8_sumOf 32 = .ok (.sipush 1440, 3) := by decide +kernel
theorem dX8_sumOf_35 : decode cX8_sumOf 35 = .ok (.aload_n 0, 1) := by decide +kernel
theorem dX8_sumOf_36 : decode cX8_sumOf 36 = .ok (.getfield 48, 3) := by decide +kernel
theorem dX8_sumOf_39 : decode cX8_sumOf 39 = .ok (.iload 5, 2) := by decide +kernel
theorem dX8_sumOf_41 : decode cX8_sumOf 41 = .ok (.iaload, 1) := by decide +kernel
theorem dX8_sumOf_42 : decode cX8_sumOf 42 = .ok (.imul, 1) := by decide +kernel
theorem dX8_sumOf_43 : decode cX8_sumOf 43 = .ok (.iload 4, 2) := by decide +kernel
theorem dX8_sumOf_45 : decode cX8_sumOf 45 = .ok (.iadd, 1) := by decide +kernel
theorem dX8_sumOf_46 : decode cX8_sumOf 46 = .ok (.iaload, 1) := by decide +kernel
theorem dX8_sumOf_47 : decode cX8_sumOf 47 = .ok (.goto 5, 3) := by decide +kernel
theorem dX8_sumOf_50 : decode cX8_sumOf 50 = .ok (.ldc 194, 2) := by decide +kernel
theorem dX8_sumOf_52 : decode cX8_sumOf 52 = .ok (.istore 6, 2) := by decide +kernel
theorem dX8_sumOf_54 : decode cX8_sumOf 54 = .ok (.iload_n 3, 1) := by decide +kernel
theorem dX8_sumOf_55 : decode cX8_sumOf 55 = .ok (.iload 6, 2) := by decide +kernel
theorem dX8_sumOf_57 : decode cX8_sumOf 57 = .ok (.iadd, 1) := by decide +kernel
theorem dX8_sumOf_58 : decode cX8_sumOf 58 = .ok (.istore_n 3, 1) := by decide +kernel
theorem dX8_sumOf_59 : decode cX8_sumOf 59 = .ok (.iload 6, 2) := by decide +kernel
theorem dX8_sumOf_61 : decode cX8_sumOf 61 = .ok (.iload_n 2, 1) := by decide +kernel
theorem dX8_sumOf_62 : decode cX8_sumOf 62 = .ok (.iadd, 1) := by decide +kernel
theorem dX8_sumOf_63 : decode cX8_sumOf 63 = .ok (.istore 4, 2) := by decide +kernel
theorem dX8_sumOf_65 : decode cX8_sumOf 65 = .ok (.iinc 5 1, 3) := by decide +kernel
theorem dX8_sumOf_68 : decode cX8_sumOf 68 = .ok (.goto (-60), 3) := by decide +kernel
theorem dX8_sumOf_71 : decode cX8_sumOf 71 = .ok (.iload_n 3, 1) := by decide +kernel
theorem dX8_sumOf_72 : decode cX8_sumOf 72 = .ok (.ireturn, 1) := by decide +kernel
theorem dX8_day_0 : decode cX8_day 0 = .ok (.iload_n 1, 1) := by decide +kernel
theorem dX8_day_1 : decode cX8_day 1 = .ok (.i2l, 1) := by decide +kernel
theorem dX8_day_2 : decode cX8_day 2 = .ok (.lconst 1, 1) := by decide +kernel
theorem dX8_day_3 : decode cX8_day 3 = .ok (.iconst 1, 1) := by decide +kernel
theorem dX8_day_4 : decode cX8_day 4 = .ok (.aload_n 0, 1) := by decide +kernel
theorem dX8_day_5 : decode cX8_day 5 = .ok (.getfield 77, 3) := by decide +kernel
theorem dX8_day_8 : decode cX8_day 8 = .ok (.ishl, 1) := by decide +kernel
theorem dX8_day_9 : decode cX8_day 9 = .ok (.iconst 1, 1) := by decide +kernel
theorem dX8_day_10 : decode cX8_day 10 = .ok (.isub, 1) := by decide +kernel
theorem dX8_day_11 : decode cX8_day 11 = .ok (.i2l, 1) := by decide +kernel
theorem dX8_day_12 : decode cX8_day 12 = .ok (.invokestatic 73, 3) := by decide +kernel
theorem dX8_day_15 : decode cX8_day 15 = .ok (.ifCond .eq 29, 3) := by decide +kernel
theorem dX8_day_18 : decode cX8_day 18 = .ok (.iload_n 2, 1) := by decide +kernel
theorem dX8_day_19 : decode cX8_day 19 = .ok (.i2l, 1) := by decide +kernel
theorem dX8_day_20 : decode cX8_day 20 = .ok (.lconst 1, 1) := by decide +kernel
theorem dX8_day_21 : decode cX8_day 21 = .ok (.ldc2_w 228, 3) := by decide +kernel
theorem dX8_day_24 : decode cX8_day 24 = .ok (.invokestatic 73, 3) := by decide +kernel
theorem dX8_day_27 : decode cX8_day 27 = .ok (.ifCond .eq 17, 3) := by decide +kernel
theorem dX8_day_30 : decode cX8_day 30 = .ok (.iload_n 3, 1) := by decide +kernel
theorem dX8_day_31 : decode cX8_day 31 = .ok (.i2l, 1) := by decide +kernel
theorem dX8_day_32 : decode cX8_day 32 = .ok (.ldc2_w 210, 3) := by decide +kernel
theorem dX8_day_35 : decode cX8_day 35 = .ok (.ldc2_w 108, 3) := by decide +kernel
theorem dX8_day_38 : decode cX8_day 38 = .ok (.invokestatic 73, 3) := by decide +kernel
theorem dX8_day_41 : decode cX8_day 41 = .ok (.ifCond .ne 5, 3) := by decide +kernel
theorem dX8_day_44 : decode cX8_day 44 = .ok (.iconst (-1), 1) := by decide +kernel
theorem dX8_day_45 : decode cX8_day 45 = .ok (.ireturn, 1) := by decide +kernel
theorem dX8_day_46 : decode cX8_day 46 = .ok (.aload_n 0, 1) := by decide +kernel
theorem dX8_day_47 : decode cX8_day 47 = .ok (.getfield 69, 3) := by decide +kernel
theorem dX8_day_50 : decode cX8_day 50 = .ok (.ifCond .ne 6, 3) := by decide +kernel
theorem dX8_day_53 : decode cX8_day 53 = .ok (.bipush (-2), 2) := by decide +kernel
theorem dX8_day_55 : decode cX8_day 55 = .ok (.ireturn, 1) := by decide +kernel
theorem dX8_day_56 : decode cX8_day 56 = .ok (.iconst 0, 1) := by decide +kernel
theorem dX8_day_57 : decode cX8_day 57 = .ok (.istore 4, 2) := by decide +kernel
theorem dX8_day_59 : decode cX8_day 59 = .ok (.iconst 0, 1) := by decide +kernel
theorem dX8_day_60 : decode cX8_day 60 = .ok (.istore 5, 2) := by decide +kernel
theorem dX8_day_62 : decode cX8_day 62 = .ok (.iload 5, 2) := by decide +kernel
theorem dX8_day_64 : decode cX8_day 64 = .ok (.aload_n 0, 1) := by decide +kernel
theorem dX8_day_65 : decode cX8_day 65 = .ok (.getfield 77, 3) := by decide +kernel
theorem dX8_day_68 : decode cX8_day 68 = .ok (.if_icmp .ge 92, 3) := by decide +kernel
theorem dX8_day_71 : decode cX8_day 71 = .ok (.iload_n 1, 1) := by decide +kernel
theorem dX8_day_72 : decode cX8_day 72 = .ok (.iload 5, 2) := by decide +kernel
theorem dX8_day_74 : decode cX8_day 74 = .ok (.ishr, 1) := by decide +kernel
theorem dX8_day_75 : decode cX8_day 75 = .ok (.iconst 1, 1) := by decide +kernel
theorem dX8_day_76 : decode cX8_day 76 = .ok (.iand, 1) := by decide +kernel
theorem dX8_day_77 : decode cX8_day 77 = .ok (.iconst 1, 1) := by decide +kernel
theorem dX8_day_78 : decode cX8_day 78 = .ok (.if_icmp .ne 76, 3) := by decide +kernel
theorem dX8_day_81 : decode cX8_day 81 = .ok (.aload_n 0, 1) := by decide +kernel
theorem dX8_day_82 : decode cX8_day 82 = .ok (.iload 5, 2) := by decide +kernel
theorem dX8_day_84 : decode cX8_day 84 = .ok (.invokevirtual 217, 3) := by decide +kernel
theorem dX8_day_87 : decode cX8_day 87 = .ok (.ldc 194, 2) := by decide +kernel
theorem dX8_day_89 : decode cX8_day 89 = .ok (.istore 6, 2) := by decide +kernel
theorem dX8_day_91 : decode cX8_day 91 = .ok (.sipush 1439, 3) := by decide +kernel
theorem dX8_day_94 : decode cX8_day 94 = .ok (.istore 7, 2) := by decide +kernel
theorem dX8_day_96 : decode cX8_day 96 = .ok (.iload 7, 2) := by decide +kernel
theorem dX8_day_98 : decode cX8_day 98 = .ok (.ifCond .lt 44, 3) := by decide +kernel
theorem dX8_day_101 : decode cX8_day 101 = .ok (.aload_n 0, 1) := by decide +kernel
theorem dX8_day_102 : decode cX8_day 102 = .ok (.getfield 34, 3) := by decide +kernel
theorem dX8_day_105 : decode cX8_day 105 = .ok (.iload 7, 2) := by decide +kernel
theorem dX8_day_107 : decode cX8_day 107 = .ok (.baload, 1) := by decide +kernel
theorem dX8_day_108 : decode cX8_day 108 = .ok (.ifCond .eq 8, 3) := by decide +kernel
theorem dX8_day_111 : decode cX8_day 111 = .ok (.iload 7, 2) := by decide +kernel
theorem dX8_day_113 : decode cX8_day 113 = .ok (.goto 5, 3) := by decide +kernel
theorem dX8_day_116 : decode cX8_day 116 = .ok (.iload 6, 2) := by decide +kernel
theorem dX8_day_118 : decode cX8_day 118 = .ok (.istore 6, 2) := by decide +kernel
theorem dX8_day_120 : decode cX8_day 120 = .ok (.aload_n 0, 1) := by decide +kernel
theorem dX8_day_121 : decode cX8_day 121 = .ok (.getfield 45, 3) := by decide +kernel
theorem dX8_day_124 : decode cX8_day 124 = .ok (.sipush 1440, 3) := by decide +kernel
theorem dX8_day_127 : decode cX8_day 127 = .ok (.iload 5, 2) := by decide +kernel
theorem dX8_day_129 : decode cX8_day 129 = .ok (.imul, 1) := by decide +kernel
theorem dX8_day_130 : decode cX8_day 130 = .ok (.iload 7, 2) := by decide +kernel
theorem dX8_day_132 : decode cX8_day 132 = .ok (.iadd, 1) := by decide +kernel
theorem dX8_day_133 : decode cX8_day 133 = .ok (.iload 6, 2) := by decide +kernel
theorem dX8_day_135 : decode cX8_day 135 = .ok (.iastore, 1) := by decide +kernel
theorem dX8_day_136 : decode cX8_day 136 = .ok (.iinc 7 (-1), 3) := by decide +kernel
theorem dX8_day_139 : decode cX8_day 139 = .ok (.goto (-43), 3) := by decide +kernel
theorem dX8_day_142 : decode cX8_day 142 = .ok (.aload_n 0, 1) := by decide +kernel
theorem dX8_day_143 : decode cX8_day 143 = .ok (.getfield 48, 3) := by decide +kernel
theorem dX8_day_146 : decode cX8_day 146 = .ok (.iload 4, 2) := by decide +kernel
theorem dX8_day_148 : decode cX8_day 148 = .ok (.iload 5, 2) := by decide +kernel
theorem dX8_day_150 : decode cX8_day 150 = .ok (.iastore, 1) := by decide +kernel
theorem dX8_day_151 : decode cX8_day 151 = .ok (.iinc 4 1, 3) := by decide +kernel
theorem dX8_day_154 : decode cX8_day 154 = .ok (.iinc 5 1, 3) := by decide +kernel
theorem dX8_day_157 : decode cX8_day 157 = .ok (.goto (-95), 3) := by decide +kernel
theorem dX8_day_160 : decode cX8_day 160 = .ok (.ldc 194, 2) := by decide +kernel
theorem dX8_day_162 : decode cX8_day 162 = .ok (.istore 5, 2) := by decide +kernel
theorem dX8_day_164 : decode cX8_day 164 = .ok (.iconst 1, 1) := by decide +kernel
theorem dX8_day_165 : decode cX8_day 165 = .ok (.istore 6, 2) := by decide +kernel
theorem dX8_day_167 : decode cX8_day 167 = .ok (.iload 6, 2) := by decide +kernel
theorem dX8_day_169 : decode cX8_day 169 = .ok (.ifCond .eq 76, 3) := by decide +kernel
theorem dX8_day_172 : decode cX8_day 172 = .ok (.aload_n 0, 1) := by decide +kernel
theorem dX8_day_173 : decode cX8_day 173 = .ok (.iload 4, 2) := by decide +kernel
theorem dX8_day_175 : decode cX8_day 175 = .ok (.iload_n 2, 1) := by decide +kernel
theorem dX8_day_176 : decode cX8_day 176 = .ok (.invokevirtual 230, 3) := by decide +kernel
theorem dX8_day_179 : decode cX8_day 179 = .ok (.istore 7, 2) := by decide +kernel
theorem dX8_day_181 : decode cX8_day 181 = .ok (.iconst 0, 1) := by decide +kernel
theorem dX8_day_182 : decode cX8_day 182 = .ok (.istore 8, 2) := by decide +kernel
theorem dX8_day_184 : decode cX8_day 184 = .ok (.iload 8, 2) := by decide +kernel
theorem dX8_day_186 : decode cX8_day 186 = .ok (.iload 4, 2) := by decide +kernel
theorem dX8_day_188 : decode cX8_day 188 = .ok (.if_icmp .ge 30, 3) := by decide +kernel
theorem dX8_day_191 : decode cX8_day 191 = .ok (.iload 7, 2) := by decide +kernel
theorem dX8_day_193 : decode cX8_day 193 = .ok (.iload 5, 2) := by decide +kernel
theorem dX8_day_195 : decode cX8_day 195 = .ok (.if_icmp .ge 23, 3) := by decide +kernel
theorem dX8_day_198 : decode cX8_day 198 = .ok (.aload_n 0, 1) := by decide +kernel
theorem dX8_day_199 : decode cX8_day 199 = .ok (.getfield 51, 3) := by decide +kernel
theorem dX8_day_202 : decode cX8_day 202 = .ok (.iload 8, 2) := by decide +kernel
theorem dX8_day_204 : decode cX8_day 204 = .ok (.aload_n 0, 1) := by decide +kernel
theorem dX8_day_205 : decode cX8_day 205 = .ok (.getfield 48, 3) := by decide +kernel
theorem dX8_day_208 : decode cX8_day 208 = .ok (.iload 8, 2) := by decide +kernel
theorem dX8_day_210 : decode cX8_day 210 = .ok (.iaload, 1) := by decide +kernel
theorem dX8_day_211 : decode cX8_day 211 = .ok (.iastore, 1) := by decide +kernel
theorem dX8_day_212 : decode cX8_day 212 = .ok (.iinc 8 1, 3) := by decide +kernel
theorem dX8_day_215 : decode cX8_day 215 = .ok (.goto (-31), 3) := by decide +kernel
theorem dX8_day_218 : decode cX8_day 218 = .ok (.iload 7, 2) := by decide +kernel
theorem dX8_day_220 : decode cX8_day 220 = .ok (.iload 5, 2) := by decide +kernel
theorem dX8_day_222 : decode cX8_day 222 = .ok (.if_icmp .ge 8, 3) := by decide +kernel
theorem dX8_day_225 : decode cX8_day 225 = .ok (.iload 7, 2) := by decide +kernel
theorem dX8_day_227 : decode cX8_day 227 = .ok (.goto 5, 3) := by decide +kernel
theorem dX8_day_230 : decode cX8_day 230 = .ok (.iload 5, 2) := by decide +kernel
theorem dX8_day_232 : decode cX8_day 232 = .ok (.istore 5, 2) := by decide +kernel
theorem dX8_day_234 : decode cX8_day 234 = .ok (.aload_n 0, 1) := by decide +kernel
theorem dX8_day_235 : decode cX8_day 235 = .ok (.iload 4, 2) := by decide +kernel
theorem dX8_day_237 : decode cX8_day 237 = .ok (.invokevirtual 233, 3) := by decide +kernel
theorem dX8_day_240 : decode cX8_day 240 = .ok (.istore 6, 2) := by decide +kernel
theorem dX8_day_242 : decode cX8_day 242 = .ok (.goto (-75), 3) := by decide +kernel
theorem dX8_day_245 : decode cX8_day 245 = .ok (.iload 5, 2) := by decide +kernel
theorem dX8_day_247 : decode cX8_day 247 = .ok (.ldc 194, 2) := by decide +kernel
theorem dX8_day_249 : decode cX8_day 249 = .ok (.if_icmp .ge 9, 3) := by decide +kernel
theorem dX8_day_252 : decode cX8_day 252 = .ok (.iload_n 3, 1) := by decide +kernel
theorem dX8_day_253 : decode cX8_day 253 = .ok (.iload 4, 2) := by decide +kernel
theorem dX8_day_255 : decode cX8_day 255 = .ok (.if_icmp .lt 8, 3) := by decide +kernel
theorem dX8_day_258 : decode cX8_day 258 = .ok (.bipush (-4), 2) := by decide +kernel
theorem dX8_day_260 : decode cX8_day 260 = .ok (.goto 18, 3) := by decide +kernel
theorem dX8_day_263 : decode cX8_day 263 = .ok (.iload_n 3, 1) := by decide +kernel
theorem dX8_day_264 : decode cX8_day 264 = .ok (.ifCond .ge 8, 3) := by decide +kernel
theorem dX8_day_267 : decode cX8_day 267 = .ok (.iload 5, 2) := by decide +kernel
theorem dX8_day_269 : decode cX8_day 269 = .ok (.goto 9, 3) := by decide +kernel
theorem dX8_day_272 : decode cX8_day 272 = .ok (.aload_n 0, 1) := by decide +kernel
theorem dX8_day_273 : decode cX8_day 273 = .ok (.getfield 51, 3) := by decide +kernel
theorem dX8_day_276 : decode cX8_day 276 = .ok (.iload_n 3, 1) := by decide +kernel
theorem dX8_day_277 : decode cX8_day 277 = .ok (.iaload, 1) := by decide +kernel
theorem dX8_day_278 : decode cX8_day 278 = .ok (.ireturn, 1) := by decide +kernel
theorem dX8_dredged_0 : decode cX8_dredged 0 = .ok (.aload_n 0, 1) := by decide +kernel
theorem dX8_dredged_1 : decode cX8_dredged 1 = .ok (.iload_n 1, 1) := by decide +kernel
theorem dX8_dredged_2 : decode cX8_dredged 2 = .ok (.invokevirtual 179, 3) := by decide +kernel
theorem dX8_dredged_5 : decode cX8_dredged 5 = .ok (.ifCond .eq 20, 3) := by decide +kernel
theorem dX8_dredged_8 : decode cX8_dredged 8 = .ok (.iload_n 2, 1) := by decide +kernel
theorem dX8_dredged_9 : decode cX8_dredged 9 = .ok (.invokestatic 201, 3) := by decide +kernel
theorem dX8_dredged_12 : decode cX8_dredged 12 = .ok (.ifCond .eq 13, 3) := by decide +kernel
theorem dX8_dredged_15 : decode cX8_dredged 15 = .ok (.iload_n 3, 1) := by decide +kernel
theorem dX8_dredged_16 : decode cX8_dredged 16 = .ok (.i2l, 1) := by decide +kernel
theorem dX8_dredged_17 : decode cX8_dredged 17 = .ok (.lconst 0, 1) := by decide +kernel
theorem dX8_dredged_18 : decode cX8_dredged 18 = .ok (.lconst 1, 1) := by decide +kernel
theorem dX8_dredged_19 : decode cX8_dredged 19 = .ok (.invokestatic 73, 3) := by decide +kernel
theorem dX8_dredged_22 : decode cX8_dredged 22 = .ok (.ifCond .ne 5, 3) := by decide +kernel
theorem dX8_dredged_25 : decode cX8_dredged 25 = .ok (.iconst (-1), 1) := by decide +kernel
theorem dX8_dredged_26 : decode cX8_dredged 26 = .ok (.ireturn, 1) := by decide +kernel
theorem dX8_dredged_27 : decode cX8_dredged 27 = .ok (.aload_n 0, 1) := by decide +kernel
theorem dX8_dredged_28 : decode cX8_dredged 28 = .ok (.getfield 69, 3) := by decide +kernel
theorem dX8_dredged_31 : decode cX8_dredged 31 = .ok (.ifCond .ne 6, 3) := by decide +kernel
theorem dX8_dredged_34 : decode cX8_dredged 34 = .ok (.bipush (-2), 2) := by decide +kernel
theorem dX8_dredged_36 : decode cX8_dredged 36 = .ok (.ireturn, 1) := by decide +kernel
theorem dX8_dredged_37 : decode cX8_dredged 37 = .ok (.aload_n 0, 1) := by decide +kernel
theorem dX8_dredged_38 : decode cX8_dredged 38 = .ok (.iload_n 1, 1) := by decide +kernel
theorem dX8_dredged_39 : decode cX8_dredged 39 = .ok (.iload_n 2, 1) := by decide +kernel
theorem dX8_dredged_40 : decode cX8_dredged 40 = .ok (.invokevirtual 212, 3) := by decide +kernel
theorem dX8_dredged_43 : decode cX8_dredged 43 = .ok (.istore 4, 2) := by decide +kernel
theorem dX8_dredged_45 : decode cX8_dredged 45 = .ok (.bipush (-4), 2) := by decide +kernel
theorem dX8_dredged_47 : decode cX8_dredged 47 = .ok (.istore 5, 2) := by decide +kernel
theorem dX8_dredged_49 : decode cX8_dredged 49 = .ok (.iconst (-1), 1) := by decide +kernel
theorem dX8_dredged_50 : decode cX8_dredged 50 = .ok (.istore 6, 2) := by decide +kernel
theorem dX8_dredged_52 : decode cX8_dredged 52 = .ok (.iconst 0, 1) := by decide +kernel
theorem dX8_dredged_53 : decode cX8_dredged 53 = .ok (.istore 7, 2) := by decide +kernel
theorem dX8_dredged_55 : decode cX8_dredged 55 = .ok (.iload 7, 2) := by decide +kernel
theorem dX8_dredged_57 : decode cX8_dredged 57 = .ok (.aload_n 0, 1) := by decide +kernel
theorem dX8_dredged_58 : decode cX8_dredged 58 = .ok (.getfield 69, 3) := by decide +kernel
theorem dX8_dredged_61 : decode cX8_dredged 61 = .ok (.if_icmp .ge 103, 3) := by decide +kernel
theorem dX8_dredged_64 : decode cX8_dredged 64 = .ok (.iload 4, 2) := by decide +kernel
theorem dX8_dredged_66 : decode cX8_dredged 66 = .ok (.ldc 194, 2) := by decide +kernel
theorem dX8_dredged_68 : decode cX8_dredged 68 = .ok (.if_icmp .ge 96, 3) := by decide +kernel
theorem dX8_dredged_71 : decode cX8_dredged 71 = .ok (.aload_n 0, 1) := by decide +kernel
theorem dX8_dredged_72 : decode cX8_dredged 72 = .ok (.getfield 7, 3) := by decide +kernel
theorem dX8_dredged_75 : decode cX8_dredged 75 = .ok (.bipush 6, 2) := by decide +kernel
theorem dX8_dredged_77 : decode cX8_dredged 77 = .ok (.iload 7, 2) := by decide +kernel
theorem dX8_dredged_79 : decode cX8_dredged 79 = .ok (.imul, 1) := by decide +kernel
theorem dX8_dredged_80 : decode cX8_dredged 80 = .ok (.iaload, 1) := by decide +kernel
theorem dX8_dredged_81 : decode cX8_dredged 81 = .ok (.sipush 250, 3) := by decide +kernel
theorem dX8_dredged_84 : decode cX8_dredged 84 = .ok (.if_icmp .ge 74, 3) := by decide +kernel
theorem dX8_dredged_87 : decode cX8_dredged 87 = .ok (.aload_n 0, 1) := by decide +kernel
theorem dX8_dredged_88 : decode cX8_dredged 88 = .ok (.getfield 7, 3) := by decide +kernel
theorem dX8_dredged_91 : decode cX8_dredged 91 = .ok (.bipush 6, 2) := by decide +kernel
theorem dX8_dredged_93 : decode cX8_dredged 93 = .ok (.iload 7, 2) := by decide +kernel
theorem dX8_dredged_95 : decode cX8_dredged 95 = .ok (.imul, 1) := by decide +kernel
theorem dX8_dredged_96 : decode cX8_dredged 96 = .ok (.dup2, 1) := by decide +kernel
theorem dX8_dredged_97 : decode cX8_dredged 97 = .ok (.iaload, 1) := by decide +kernel
theorem dX8_dredged_98 : decode cX8_dredged 98 = .ok (.iconst 1, 1) := by decide +kernel
theorem dX8_dredged_99 : decode cX8_dredged 99 = .ok (.iadd, 1) := by decide +kernel
theorem dX8_dredged_100 : decode cX8_dredged 100 = .ok (.iastore, 1) := by decide +kernel
theorem dX8_dredged_101 : decode cX8_dredged 101 = .ok (.iload 4, 2) := by decide +kernel
theorem dX8_dredged_103 : decode cX8_dredged 103 = .ok (.aload_n 0, 1) := by decide +kernel
theorem dX8_dredged_104 : decode cX8_dredged 104 = .ok (.iload_n 1, 1) := by decide +kernel
theorem dX8_dredged_105 : decode cX8_dredged 105 = .ok (.iload_n 2, 1) := by decide +kernel
theorem dX8_dredged_106 : decode cX8_dredged 106 = .ok (.invokevirtual 212, 3) := by decide +kernel
theorem dX8_dredged_109 : decode cX8_dredged 109 = .ok (.isub, 1) := by decide +kernel
theorem dX8_dredged_110 : decode cX8_dredged 110 = .ok (.istore 8, 2) := by decide +kernel
theorem dX8_dredged_112 : decode cX8_dredged 112 = .ok (.aload_n 0, 1) := by decide +kernel
theorem dX8_dredged_113 : decode cX8_dredged 113 = .ok (.getfield 7, 3) := by decide +kernel
theorem dX8_dredged_116 : decode cX8_dredged 116 = .ok (.bipush 6, 2) := by decide +kernel
theorem dX8_dredged_118 : decode cX8_dredged 118 = .ok (.iload 7, 2) := by decide +kernel
theorem dX8_dredged_120 : decode cX8_dredged 120 = .ok (.imul, 1) := by decide +kernel
theorem dX8_dredged_121 : decode cX8_dredged 121 = .ok (.dup2, 1) := by decide +kernel
theorem dX8_dredged_122 : decode cX8_dredged 122 = .ok (.iaload, 1) := by decide +kernel
theorem dX8_dredged_123 : decode cX8_dredged 123 = .ok (.iconst 1, 1) := by decide +kernel
theorem dX8_dredged_124 : decode cX8_dredged 124 = .ok (.isub, 1) := by decide +kernel
theorem dX8_dredged_125 : decode cX8_dredged 125 = .ok (.iastore, 1) := by decide +kernel
theorem dX8_dredged_126 : decode cX8_dredged 126 = .ok (.iload 8, 2) := by decide +kernel
theorem dX8_dredged_128 : decode cX8_dredged 128 = .ok (.iload 6, 2) := by decide +kernel
theorem dX8_dredged_130 : decode cX8_dredged 130 = .ok (.if_icmp .le 8, 3) := by decide +kernel
theorem dX8_dredged_133 : decode cX8_dredged 133 = .ok (.iload 7, 2) := by decide +kernel
theorem dX8_dredged_135 : decode cX8_dredged 135 = .ok (.goto 5, 3) := by decide +kernel
theorem dX8_dredged_138 : decode cX8_dredged 138 = .ok (.iload 5, 2) := by decide +kernel
theorem dX8_dredged_140 : decode cX8_dredged 140 = .ok (.istore 5, 2) := by decide +kernel
theorem dX8_dredged_142 : decode cX8_dredged 142 = .ok (.iload 8, 2) := by decide +kernel
theorem dX8_dredged_144 : decode cX8_dredged 144 = .ok (.iload 6, 2) := by decide +kernel
theorem dX8_dredged_146 : decode cX8_dredged 146 = .ok (.if_icmp .le 8, 3) := by decide +kernel
theorem dX8_dredged_149 : decode cX8_dredged 149 = .ok (.iload 8, 2) := by decide +kernel
theorem dX8_dredged_151 : decode cX8_dredged 151 = .ok (.goto 5, 3) := by decide +kernel
theorem dX8_dredged_154 : decode cX8_dredged 154 = .ok (.iload 6, 2) := by decide +kernel
theorem dX8_dredged_156 : decode cX8_dredged 156 = .ok (.istore 6, 2) := by decide +kernel
theorem dX8_dredged_158 : decode cX8_dredged 158 = .ok (.iinc 7 1, 3) := by decide +kernel
theorem dX8_dredged_161 : decode cX8_dredged 161 = .ok (.goto (-106), 3) := by decide +kernel
theorem dX8_dredged_164 : decode cX8_dredged 164 = .ok (.iload 5, 2) := by decide +kernel
theorem dX8_dredged_166 : decode cX8_dredged 166 = .ok (.ifCond .lt 7, 3) := by decide +kernel
theorem dX8_dredged_169 : decode cX8_dredged 169 = .ok (.iload_n 3, 1) := by decide +kernel
theorem dX8_dredged_170 : decode cX8_dredged 170 = .ok (.ifCond .ne 8, 3) := by decide +kernel
theorem dX8_dredged_173 : decode cX8_dredged 173 = .ok (.iload 5, 2) := by decide +kernel
theorem dX8_dredged_175 : decode cX8_dredged 175 = .ok (.goto 5, 3) := by decide +kernel
theorem dX8_dredged_178 : decode cX8_dredged 178 = .ok (.iload 6, 2) := by decide +kernel
theorem dX8_dredged_180 : decode cX8_dredged 180 = .ok (.ireturn, 1) := by decide +kernel
theorem dX8_lost_0 : decode cX8_lost 0 = .ok (.aload_n 0, 1) := by decide +kernel
theorem dX8_lost_1 : decode cX8_lost 1 = .ok (.iload_n 1, 1) := by decide +kernel
theorem dX8_lost_2 : decode cX8_lost 2 = .ok (.invokevirtual 179, 3) := by decide +kernel
theorem dX8_lost_5 : decode cX8_lost 5 = .ok (.ifCond .eq 27, 3) := by decide +kernel
theorem dX8_lost_8 : decode cX8_lost 8 = .ok (.iload_n 2, 1) := by decide +kernel
theorem dX8_lost_9 : decode cX8_lost 9 = .ok (.invokestatic 201, 3) := by decide +kernel
theorem dX8_lost_12 : decode cX8_lost 12 = .ok (.ifCond .eq 20, 3) := by decide +kernel
theorem dX8_lost_15 : decode cX8_lost 15 = .ok (.iconst 3, 1) := by decide +kernel
theorem dX8_lost_16 : decode cX8_lost 16 = .ok (.iload_n 3, 1) := by decide +kernel
theorem dX8_lost_17 : decode cX8_lost 17 = .ok (.invokestatic 114, 3) := by decide +kernel
theorem dX8_lost_20 : decode cX8_lost 20 = .ok (.ifCond .eq 12, 3) := by decide +kernel
theorem dX8_lost_23 : decode cX8_lost 23 = .ok (.iconst 4, 1) := by decide +kernel
theorem dX8_lost_24 : decode cX8_lost 24 = .ok (.iload 4, 2) := by decide +kernel
theorem dX8_lost_26 : decode cX8_lost 26 = .ok (.invokestatic 114, 3) := by decide +kernel
theorem dX8_lost_29 : decode cX8_lost 29 = .ok (.ifCond .ne 5, 3) := by decide +kernel
theorem dX8_lost_32 : decode cX8_lost 32 = .ok (.iconst (-1), 1) := by decide +kernel
theorem dX8_lost_33 : decode cX8_lost 33 = .ok (.ireturn, 1) := by decide +kernel
theorem dX8_lost_34 : decode cX8_lost 34 = .ok (.aload_n 0, 1) := by decide +kernel
theorem dX8_lost_35 : decode cX8_lost 35 = .ok (.getfield 69, 3) := by decide +kernel
theorem dX8_lost_38 : decode cX8_lost 38 = .ok (.ifCond .ne 6, 3) := by decide +kernel
theorem dX8_lost_41 : decode cX8_lost 41 = .ok (.bipush (-2), 2) := by decide +kernel
theorem dX8_lost_43 : decode cX8_lost 43 = .ok (.ireturn, 1) := by decide +kernel
theorem dX8_lost_44 : decode cX8_lost 44 = .ok (.aload_n 0, 1) := by decide +kernel
theorem dX8_lost_45 : decode cX8_lost 45 = .ok (.getfield 16, 3) := by decide +kernel
theorem dX8_lost_48 : decode cX8_lost 48 = .ok (.iconst 3, 1) := by decide +kernel
theorem dX8_lost_49 : decode cX8_lost 49 = .ok (.iaload, 1) := by decide +kernel
theorem dX8_lost_50 : decode cX8_lost 50 = .ok (.istore 5, 2) := by decide +kernel
theorem dX8_lost_52 : decode cX8_lost 52 = .ok (.aload_n 0, 1) := by decide +kernel
theorem dX8_lost_53 : decode cX8_lost 53 = .ok (.getfield 16, 3) := by decide +kernel
theorem dX8_lost_56 : decode cX8_lost 56 = .ok (.iconst 4, 1) := by decide +kernel
theorem dX8_lost_57 : decode cX8_lost 57 = .ok (.iaload, 1) := by decide +kernel
theorem dX8_lost_58 : decode cX8_lost 58 = .ok (.istore 6, 2) := by decide +kernel
theorem dX8_lost_60 : decode cX8_lost 60 = .ok (.aload_n 0, 1) := by decide +kernel
theorem dX8_lost_61 : decode cX8_lost 61 = .ok (.getfield 16, 3) := by decide +kernel
theorem dX8_lost_64 : decode cX8_lost 64 = .ok (.iconst 3, 1) := by decide +kernel
theorem dX8_lost_65 : decode cX8_lost 65 = .ok (.iload_n 3, 1) := by decide +kernel
theorem dX8_lost_66 : decode cX8_lost 66 = .ok (.iastore, 1) := by decide +kernel
theorem dX8_lost_67 : decode cX8_lost 67 = .ok (.aload_n 0, 1) := by decide +kernel
theorem dX8_lost_68 : decode cX8_lost 68 = .ok (.getfield 16, 3) := by decide +kernel
theorem dX8_lost_71 : decode cX8_lost 71 = .ok (.iconst 4, 1) := by decide +kernel
theorem dX8_lost_72 : decode cX8_lost 72 = .ok (.iload 4, 2) := by decide +kernel
theorem dX8_lost_74 : decode cX8_lost 74 = .ok (.iastore, 1) := by decide +kernel
theorem dX8_lost_75 : decode cX8_lost 75 = .ok (.aload_n 0, 1) := by decide +kernel
theorem dX8_lost_76 : decode cX8_lost 76 = .ok (.iload_n 1, 1) := by decide +kernel
theorem dX8_lost_77 : decode cX8_lost 77 = .ok (.iload_n 2, 1) := by decide +kernel
theorem dX8_lost_78 : decode cX8_lost 78 = .ok (.invokevirtual 212, 3) := by decide +kernel
theorem dX8_lost_81 : decode cX8_lost 81 = .ok (.istore 7, 2) := by decide +kernel
theorem dX8_lost_83 : decode cX8_lost 83 = .ok (.aload_n 0, 1) := by decide +kernel
theorem dX8_lost_84 : decode cX8_lost 84 = .ok (.getfield 16, 3) := by decide +kernel
theorem dX8_lost_87 : decode cX8_lost 87 = .ok (.iconst 4, 1) := by decide +kernel
theorem dX8_lost_88 : decode cX8_lost 88 = .ok (.iconst 0, 1) := by decide +kernel
theorem dX8_lost_89 : decode cX8_lost 89 = .ok (.iastore, 1) := by decide +kernel
theorem dX8_lost_90 : decode cX8_lost 90 = .ok (.aload_n 0, 1) := by decide +kernel
theorem dX8_lost_91 : decode cX8_lost 91 = .ok (.iload_n 1, 1) := by decide +kernel
theorem dX8_lost_92 : decode cX8_lost 92 = .ok (.iload_n 2, 1) := by decide +kernel
theorem dX8_lost_93 : decode cX8_lost 93 = .ok (.invokevirtual 212, 3) := by decide +kernel
theorem dX8_lost_96 : decode cX8_lost 96 = .ok (.istore 8, 2) := by decide +kernel
theorem dX8_lost_98 : decode cX8_lost 98 = .ok (.aload_n 0, 1) := by decide +kernel
theorem dX8_lost_99 : decode cX8_lost 99 = .ok (.getfield 16, 3) := by decide +kernel
theorem dX8_lost_102 : decode cX8_lost 102 = .ok (.iconst 3, 1) := by decide +kernel
theorem dX8_lost_103 : decode cX8_lost 103 = .ok (.iload 5, 2) := by decide +kernel
theorem dX8_lost_105 : decode cX8_lost 105 = .ok (.iastore, 1) := by decide +kernel
theorem dX8_lost_106 : decode cX8_lost 106 = .ok (.aload_n 0, 1) := by decide +kernel
theorem dX8_lost_107 : decode cX8_lost 107 = .ok (.getfield 16, 3) := by decide +kernel
theorem dX8_lost_110 : decode cX8_lost 110 = .ok (.iconst 4, 1) := by decide +kernel
theorem dX8_lost_111 : decode cX8_lost 111 = .ok (.iload 6, 2) := by decide +kernel
theorem dX8_lost_113 : decode cX8_lost 113 = .ok (.iastore, 1) := by decide +kernel
theorem dX8_lost_114 : decode cX8_lost 114 = .ok (.iload 7, 2) := by decide +kernel
theorem dX8_lost_116 : decode cX8_lost 116 = .ok (.ldc 194, 2) := by decide +kernel
theorem dX8_lost_118 : decode cX8_lost 118 = .ok (.if_icmp .ge 10, 3) := by decide +kernel
theorem dX8_lost_121 : decode cX8_lost 121 = .ok (.iload 8, 2) := by decide +kernel
theorem dX8_lost_123 : decode cX8_lost 123 = .ok (.ldc 194, 2) := by decide +kernel
theorem dX8_lost_125 : decode cX8_lost 125 = .ok (.if_icmp .lt 8, 3) := by decide +kernel
theorem dX8_lost_128 : decode cX8_lost 128 = .ok (.bipush (-4), 2) := by decide +kernel
theorem dX8_lost_130 : decode cX8_lost 130 = .ok (.goto 8, 3) := by decide +kernel
theorem dX8_lost_133 : decode cX8_lost 133 = .ok (.iload 7, 2) := by decide +kernel
theorem dX8_lost_135 : decode cX8_lost 135 = .ok (.iload 8, 2) := by decide +kernel
theorem dX8_lost_137 : decode cX8_lost 137 = .ok (.isub, 1) := by decide +kernel
theorem dX8_lost_138 : decode cX8_lost 138 = .ok (.ireturn, 1) := by decide +kernel
theorem dX8_touched_0 : decode cX8_touched 0 = .ok (.aload_n 0, 1) := by decide +kernel
theorem dX8_touched_1 : decode cX8_touched 1 = .ok (.iload_n 1, 1) := by decide +kernel
theorem dX8_touched_2 : decode cX8_touched 2 = .ok (.invokevirtual 179, 3) := by decide +kernel
theorem dX8_touched_5 : decode cX8_touched 5 = .ok (.ifCond .eq 25, 3) := by decide +kernel
theorem dX8_touched_8 : decode cX8_touched 8 = .ok (.iload_n 2, 1) := by decide +kernel
theorem dX8_touched_9 : decode cX8_touched 9 = .ok (.invokestatic 201, 3) := by decide +kernel
theorem dX8_touched_12 : decode cX8_touched 12 = .ok (.ifCond .eq 18, 3) := by decide +kernel
theorem dX8_touched_15 : decode cX8_touched 15 = .ok (.aload_n 0, 1) := by decide +kernel
theorem dX8_touched_16 : decode cX8_touched 16 = .ok (.getfield 69, 3) := by decide +kernel
theorem dX8_touched_19 : decode cX8_touched 19 = .ok (.ifCond .le 13, 3) := by decide +kernel
theorem dX8_touched_22 : decode cX8_touched 22 = .ok (.aload_n 0, 1) := by decide +kernel
theorem dX8_touched_23 : decode cX8_touched 23 = .ok (.iload_n 3, 1) := by decide +kernel
theorem dX8_touched_24 : decode cX8_touched 24 = .ok (.invokevirtual 104, 3) := by decide +kernel
theorem dX8_touched_27 : decode cX8_touched 27 = .ok (.ifCond .ne 5, 3) := by decide +kernel
theorem dX8_touched_30 : decode cX8_touched 30 = .ok (.iconst (-1), 1) := by decide +kernel
theorem dX8_touched_31 : decode cX8_touched 31 = .ok (.ireturn, 1) := by decide +kernel
theorem dX8_touched_32 : decode cX8_touched 32 = .ok (.aload_n 0, 1) := by decide +kernel
theorem dX8_touched_33 : decode cX8_touched 33 = .ok (.getfield 69, 3) := by decide +kernel
theorem dX8_touched_36 : decode cX8_touched 36 = .ok (.ifCond .ne 20, 3) := by decide +kernel
theorem dX8_touched_39 : decode cX8_touched 39 = .ok (.iload_n 3, 1) := by decide +kernel
theorem dX8_touched_40 : decode cX8_touched 40 = .ok (.ifCond .lt 9, 3) := by decide +kernel
theorem dX8_touched_43 : decode cX8_touched 43 = .ok (.iload_n 3, 1) := by decide +kernel
theorem dX8_touched_44 : decode cX8_touched 44 = .ok (.bipush 15, 2) := by decide +kernel
theorem dX8_touched_46 : decode cX8_touched 46 = .ok (.if_icmp .le 7, 3) := by decide +kernel
theorem dX8_touched_49 : decode cX8_touched 49 = .ok (.iconst (-1), 1) := by decide +kernel
theorem dX8_touched_50 : decode cX8_touched 50 = .ok (.goto 5, 3) := by decide +kernel
theorem dX8_touched_53 : decode cX8_touched 53 = .ok (.bipush (-2), 2) := by decide +kernel
theorem dX8_touched_55 : decode cX8_touched 55 = .ok (.ireturn, 1) := by decide +kernel
theorem dX8_touched_56 : decode cX8_touched 56 = .ok (.aload_n 0, 1) := by decide +kernel
theorem dX8_touched_57 : decode cX8_touched 57 = .ok (.getfield 16, 3) := by decide +kernel
theorem dX8_touched_60 : decode cX8_touched 60 = .ok (.iconst 1, 1) := by decide +kernel
theorem dX8_touched_61 : decode cX8_touched 61 = .ok (.iaload, 1) := by decide +kernel
theorem dX8_touched_62 : decode cX8_touched 62 = .ok (.istore 4, 2) := by decide +kernel
theorem dX8_touched_64 : decode cX8_touched 64 = .ok (.iconst 0, 1) := by decide +kernel
theorem dX8_touched_65 : decode cX8_touched 65 = .ok (.istore 5, 2) := by decide +kernel
theorem dX8_touched_67 : decode cX8_touched 67 = .ok (.iconst 0, 1) := by decide +kernel
theorem dX8_touched_68 : decode cX8_touched 68 = .ok (.istore 6, 2) := by decide +kernel
theorem dX8_touched_70 : decode cX8_touched 70 = .ok (.iload 6, 2) := by decide +kernel
theorem dX8_touched_72 : decode cX8_touched 72 = .ok (.bipush 10, 2) := by decide +kernel
theorem dX8_touched_74 : decode cX8_touched 74 = .ok (.if_icmp .ge 44, 3) := by decide +kernel
theorem dX8_touched_77 : decode cX8_touched 77 = .ok (.aload_n 0, 1) := by decide +kernel
theorem dX8_touched_78 : decode cX8_touched 78 = .ok (.getfield 16, 3) := by decide +kernel
theorem dX8_touched_81 : decode cX8_touched 81 = .ok (.iconst 1, 1) := by decide +kernel
theorem dX8_touched_82 : decode cX8_touched 82 = .ok (.iload 6, 2) := by decide +kernel
theorem dX8_touched_84 : decode cX8_touched 84 = .ok (.iastore, 1) := by decide +kernel
theorem dX8_touched_85 : decode cX8_touched 85 = .ok (.aload_n 0, 1) := by decide +kernel
theorem dX8_touched_86 : decode cX8_touched 86 = .ok (.iload_n 1, 1) := by decide +kernel
theorem dX8_touched_87 : decode cX8_touched 87 = .ok (.iload_n 2, 1) := by decide +kernel
theorem dX8_touched_88 : decode cX8_touched 88 = .ok (.invokevirtual 206, 3) := by decide +kernel
theorem dX8_touched_91 : decode cX8_touched 91 = .ok (.iload 5, 2) := by decide +kernel
theorem dX8_touched_93 : decode cX8_touched 93 = .ok (.aload_n 0, 1) := by decide +kernel
theorem dX8_touched_94 : decode cX8_touched 94 = .ok (.getfield 188, 3) := by decide +kernel
theorem dX8_touched_97 : decode cX8_touched 97 = .ok (.iload_n 3, 1) := by decide +kernel
theorem dX8_touched_98 : decode cX8_touched 98 = .ok (.if_icmp .ne 10, 3) := by decide +kernel
theorem dX8_touched_101 : decode cX8_touched 101 = .ok (.iconst 1, 1) := by decide +kernel
theorem dX8_touched_102 : decode cX8_touched 102 = .ok (.iload 6, 2) := by decide +kernel
theorem dX8_touched_104 : decode cX8_touched 104 = .ok (.ishl, 1) := by decide +kernel
theorem dX8_touched_105 : decode cX8_touched 105 = .ok (.goto 4, 3) := by decide +kernel
theorem dX8_touched_108 : decode cX8_touched 108 = .ok (.iconst 0, 1) := by decide +kernel
theorem dX8_touched_109 : decode cX8_touched 109 = .ok (.ior, 1) := by decide +kernel
theorem dX8_touched_110 : decode cX8_touched 110 = .ok (.istore 5, 2) := by decide +kernel
theorem dX8_touched_112 : decode cX8_touched 112 = .ok (.iinc 6 1, 3) := by decide +kernel
theorem dX8_touched_115 : decode cX8_touched 115 = .ok (.goto (-45), 3) := by decide +kernel
theorem dX8_touched_118 : decode cX8_touched 118 = .ok (.aload_n 0, 1) := by decide +kernel
theorem dX8_touched_119 : decode cX8_touched 119 = .ok (.getfield 16, 3) := by decide +kernel
theorem dX8_touched_122 : decode cX8_touched 122 = .ok (.iconst 1, 1) := by decide +kernel
theorem dX8_touched_123 : decode cX8_touched 123 = .ok (.iload 4, 2) := by decide +kernel
theorem dX8_touched_125 : decode cX8_touched 125 = .ok (.iastore, 1) := by decide +kernel
theorem dX8_touched_126 : decode cX8_touched 126 = .ok (.iload 5, 2) := by decide +kernel
theorem dX8_touched_128 : decode cX8_touched 128 = .ok (.ireturn, 1) := by decide +kernel
theorem dX8_past_0 : decode cX8_past 0 = .ok (.aload_n 0, 1) := by decide +kernel
theorem dX8_past_1 : decode cX8_past 1 = .ok (.iload_n 1, 1) := by decide +kernel
theorem dX8_past_2 : decode cX8_past 2 = .ok (.invokevirtual 179, 3) := by decide +kernel
theorem dX8_past_5 : decode cX8_past 5 = .ok (.ifCond .eq 23, 3) := by decide +kernel
theorem dX8_past_8 : decode cX8_past 8 = .ok (.aload_n 0, 1) := by decide +kernel
theorem dX8_past_9 : decode cX8_past 9 = .ok (.iload_n 2, 1) := by decide +kernel
theorem dX8_past_10 : decode cX8_past 10 = .ok (.invokevirtual 104, 3) := by decide +kernel
theorem dX8_past_13 : decode cX8_past 13 = .ok (.ifCond .eq 15, 3) := by decide +kernel
theorem dX8_past_16 : decode cX8_past 16 = .ok (.iload_n 3, 1) := by decide +kernel
theorem dX8_past_17 : decode cX8_past 17 = .ok (.i2l, 1) := by decide +kernel
theorem dX8_past_18 : decode cX8_past 18 = .ok (.lconst 0, 1) := by decide +kernel
theorem dX8_past_19 : decode cX8_past 19 = .ok (.ldc2_w 236, 3) := by decide +kernel
theorem dX8_past_22 : decode cX8_past 22 = .ok (.invokestatic 73, 3) := by decide +kernel
theorem dX8_past_25 : decode cX8_past 25 = .ok (.ifCond .ne 5, 3) := by decide +kernel
theorem dX8_past_28 : decode cX8_past 28 = .ok (.iconst (-1), 1) := by decide +kernel
theorem dX8_past_29 : decode cX8_past 29 = .ok (.ireturn, 1) := by decide +kernel
theorem dX8_past_30 : decode cX8_past 30 = .ok (.aload_n 0, 1) := by decide +kernel
theorem dX8_past_31 : decode cX8_past 31 = .ok (.getfield 7, 3) := by decide +kernel
theorem dX8_past_34 : decode cX8_past 34 = .ok (.bipush 6, 2) := by decide +kernel
theorem dX8_past_36 : decode cX8_past 36 = .ok (.iload_n 2, 1) := by decide +kernel
theorem dX8_past_37 : decode cX8_past 37 = .ok (.imul, 1) := by decide +kernel
theorem dX8_past_38 : decode cX8_past 38 = .ok (.iconst 4, 1) := by decide +kernel
theorem dX8_past_39 : decode cX8_past 39 = .ok (.iadd, 1) := by decide +kernel
theorem dX8_past_40 : decode cX8_past 40 = .ok (.iaload, 1) := by decide +kernel
theorem dX8_past_41 : decode cX8_past 41 = .ok (.istore 4, 2) := by decide +kernel
theorem dX8_past_43 : decode cX8_past 43 = .ok (.iload 4, 2) := by decide +kernel
theorem dX8_past_45 : decode cX8_past 45 = .ok (.ifCond .ne 6, 3) := by decide +kernel
theorem dX8_past_48 : decode cX8_past 48 = .ok (.bipush (-2), 2) := by decide +kernel
theorem dX8_past_50 : decode cX8_past 50 = .ok (.ireturn, 1) := by decide +kernel
theorem dX8_past_51 : decode cX8_past 51 = .ok (.bipush (-4), 2) := by decide +kernel
theorem dX8_past_53 : decode cX8_past 53 = .ok (.istore 5, 2) := by decide +kernel
theorem dX8_past_55 : decode cX8_past 55 = .ok (.iconst 1, 1) := by decide +kernel
theorem dX8_past_56 : decode cX8_past 56 = .ok (.istore 6, 2) := by decide +kernel
theorem dX8_past_58 : decode cX8_past 58 = .ok (.iload 6, 2) := by decide +kernel
theorem dX8_past_60 : decode cX8_past 60 = .ok (.bipush 16, 2) := by decide +kernel
theorem dX8_past_62 : decode cX8_past 62 = .ok (.if_icmp .ge 41, 3) := by decide +kernel
theorem dX8_past_65 : decode cX8_past 65 = .ok (.iload 6, 2) := by decide +kernel
theorem dX8_past_67 : decode cX8_past 67 = .ok (.iload 6, 2) := by decide +kernel
theorem dX8_past_69 : decode cX8_past 69 = .ok (.imul, 1) := by decide +kernel
theorem dX8_past_70 : decode cX8_past 70 = .ok (.aload_n 0, 1) := by decide +kernel
theorem dX8_past_71 : decode cX8_past 71 = .ok (.getfield 19, 3) := by decide +kernel
theorem dX8_past_74 : decode cX8_past 74 = .ok (.iconst 3, 1) := by decide +kernel
theorem dX8_past_75 : decode cX8_past 75 = .ok (.iload_n 1, 1) := by decide +kernel
theorem dX8_past_76 : decode cX8_past 76 = .ok (.imul, 1) := by decide +kernel
theorem dX8_past_77 : decode cX8_past 77 = .ok (.iconst 1, 1) := by decide +kernel
theorem dX8_past_78 : decode cX8_past 78 = .ok (.iadd, 1) := by decide +kernel
theorem dX8_past_79 : decode cX8_past 79 = .ok (.iaload, 1) := by decide +kernel
theorem dX8_past_80 : decode cX8_past 80 = .ok (.imul, 1) := by decide +kernel
theorem dX8_past_81 : decode cX8_past 81 = .ok (.iload 4, 2) := by decide +kernel
theorem dX8_past_83 : decode cX8_past 83 = .ok (.idiv, 1) := by decide +kernel
theorem dX8_past_84 : decode cX8_past 84 = .ok (.iload_n 3, 1) := by decide +kernel
theorem dX8_past_85 : decode cX8_past 85 = .ok (.if_icmp .gt 8, 3) := by decide +kernel
theorem dX8_past_88 : decode cX8_past 88 = .ok (.iload 6, 2) := by decide +kernel
theorem dX8_past_90 : decode cX8_past 90 = .ok (.goto 5, 3) := by decide +kernel
theorem dX8_past_93 : decode cX8_past 93 = .ok (.iload 5, 2) := by decide +kernel
theorem dX8_past_95 : decode cX8_past 95 = .ok (.istore 5, 2) := by decide +kernel
theorem dX8_past_97 : decode cX8_past 97 = .ok (.iinc 6 1, 3) := by decide +kernel
theorem dX8_past_100 : decode cX8_past 100 = .ok (.goto (-42), 3) := by decide +kernel
theorem dX8_past_103 : decode cX8_past 103 = .ok (.iload 5, 2) := by decide +kernel
theorem dX8_past_105 : decode cX8_past 105 = .ok (.ireturn, 1) := by decide +kernel
theorem dX8_lay_0 : decode cX8_lay 0 = .ok (.iconst 0, 1) := by decide +kernel
theorem dX8_lay_1 : decode cX8_lay 1 = .ok (.istore_n 3, 1) := by decide +kernel
theorem dX8_lay_2 : decode cX8_lay 2 = .ok (.iload_n 3, 1) := by decide +kernel
theorem dX8_lay_3 : decode cX8_lay 3 = .ok (.aload_n 1, 1) := by decide +kernel
theorem dX8_lay_4 : decode cX8_lay 4 = .ok (.arraylength, 1) := by decide +kernel
theorem dX8_lay_5 : decode cX8_lay 5 = .ok (.if_icmp .ge 20, 3) := by decide +kernel
theorem dX8_lay_8 : decode cX8_lay 8 = .ok (.aload_n 0, 1) := by decide +kernel
theorem dX8_lay_9 : decode cX8_lay 9 = .ok (.getfield 54, 3) := by decide +kernel
theorem dX8_lay_12 : decode cX8_lay 12 = .ok (.iload_n 2, 1) := by decide +kernel
theorem dX8_lay_13 : decode cX8_lay 13 = .ok (.iload_n 3, 1) := by decide +kernel
theorem dX8_lay_14 : decode cX8_lay 14 = .ok (.iadd, 1) := by decide +kernel
theorem dX8_lay_15 : decode cX8_lay 15 = .ok (.aload_n 1, 1) := by decide +kernel
theorem dX8_lay_16 : decode cX8_lay 16 = .ok (.iload_n 3, 1) := by decide +kernel
theorem dX8_lay_17 : decode cX8_lay 17 = .ok (.iaload, 1) := by decide +kernel
theorem dX8_lay_18 : decode cX8_lay 18 = .ok (.iastore, 1) := by decide +kernel
theorem dX8_lay_19 : decode cX8_lay 19 = .ok (.iinc 3 1, 3) := by decide +kernel
theorem dX8_lay_22 : decode cX8_lay 22 = .ok (.goto (-20), 3) := by decide +kernel
theorem dX8_lay_25 : decode cX8_lay 25 = .ok (.iload_n 2, 1) := by decide +kernel
theorem dX8_lay_26 : decode cX8_lay 26 = .ok (.aload_n 1, 1) := by decide +kernel
theorem dX8_lay_27 : decode cX8_lay 27 = .ok (.arraylength, 1) := by decide +kernel
theorem dX8_lay_28 : decode cX8_lay 28 = .ok (.iadd, 1) := by decide +kernel
theorem dX8_lay_29 : decode cX8_lay 29 = .ok (.ireturn, 1) := by decide +kernel
theorem dX8_gives_0 : decode cX8_gives 0 = .ok (.iconst 0, 1) := by decide +kernel
theorem dX8_gives_1 : decode cX8_gives 1 = .ok (.istore_n 3, 1) := by decide +kernel
theorem dX8_gives_2 : decode cX8_gives 2 = .ok (.iload_n 3, 1) := by decide +kernel
theorem dX8_gives_3 : decode cX8_gives 3 = .ok (.aload_n 2, 1) := by decide +kernel
theorem dX8_gives_4 : decode cX8_gives 4 = .ok (.arraylength, 1) := by decide +kernel
theorem dX8_gives_5 : decode cX8_gives 5 = .ok (.if_icmp .ge 20, 3) := by decide +kernel
theorem dX8_gives_8 : decode cX8_gives 8 = .ok (.aload_n 2, 1) := by decide +kernel
theorem dX8_gives_9 : decode cX8_gives 9 = .ok (.iload_n 3, 1) := by decide +kernel
theorem dX8_gives_10 : decode cX8_gives 10 = .ok (.aload_n 0, 1) := by decide +kernel
theorem dX8_gives_11 : decode cX8_gives 11 = .ok (.getfield 54, 3) := by decide +kernel
theorem dX8_gives_14 : decode cX8_gives 14 = .ok (.iload_n 1, 1) := by decide +kernel
theorem dX8_gives_15 : decode cX8_gives 15 = .ok (.iload_n 3, 1) := by decide +kernel
theorem dX8_gives_16 : decode cX8_gives 16 = .ok (.iadd, 1) := by decide +kernel
theorem dX8_gives_17 : decode cX8_gives 17 = .ok (.iaload, 1) := by decide +kernel
theorem dX8_gives_18 : decode cX8_gives 18 = .ok (.iastore, 1) := by decide +kernel
theorem dX8_gives_19 : decode cX8_gives 19 = .ok (.iinc 3 1, 3) := by decide +kernel
theorem dX8_gives_22 : decode cX8_gives 22 = .ok (.goto (-20), 3) := by decide +kernel
theorem dX8_gives_25 : decode cX8_gives 25 = .ok (.iload_n 1, 1) := by decide +kernel
theorem dX8_gives_26 : decode cX8_gives 26 = .ok (.aload_n 2, 1) := by decide +kernel
theorem dX8_gives_27 : decode cX8_gives 27 = .ok (.arraylength, 1) := by decide +kernel
theorem dX8_gives_28 : decode cX8_gives 28 = .ok (.iadd, 1) := by decide +kernel
theorem dX8_gives_29 : decode cX8_gives 29 = .ok (.ireturn, 1) := by decide +kernel
theorem dX8_image_0 : decode cX8_image 0 = .ok (.aload_n 0, 1) := by decide +kernel
theorem dX8_image_1 : decode cX8_image 1 = .ok (.aload_n 0, 1) := by decide +kernel
theorem dX8_image_2 : decode cX8_image 2 = .ok (.getfield 7, 3) := by decide +kernel
theorem dX8_image_5 : decode cX8_image 5 = .ok (.iconst 0, 1) := by decide +kernel
theorem dX8_image_6 : decode cX8_image 6 = .ok (.invokevirtual 238, 3) := by decide +kernel
theorem dX8_image_9 : decode cX8_image 9 = .ok (.istore_n 1, 1) := by decide +kernel
theorem dX8_image_10 : decode cX8_image 10 = .ok (.aload_n 0, 1) := by decide +kernel
theorem dX8_image_11 : decode cX8_image 11 = .ok (.aload_n 0, 1) := by decide +kernel
theorem dX8_image_12 : decode cX8_image 12 = .ok (.getfield 13, 3) := by decide +kernel
theorem dX8_image_15 : decode cX8_image 15 = .ok (.iload_n 1, 1) := by decide +kernel
theorem dX8_image_16 : decode cX8_image 16 = .ok (.invokevirtual 238, 3) := by decide +kernel
theorem dX8_image_19 : decode cX8_image 19 = .ok (.istore_n 1, 1) := by decide +kernel
theorem dX8_image_20 : decode cX8_image 20 = .ok (.aload_n 0, 1) := by decide +kernel
theorem dX8_image_21 : decode cX8_image 21 = .ok (.aload_n 0, 1) := by decide +kernel
theorem dX8_image_22 : decode cX8_image 22 = .ok (.getfield 16, 3) := by decide +kernel
theorem dX8_image_25 : decode cX8_image 25 = .ok (.iload_n 1, 1) := by decide +kernel
theorem dX8_image_26 : decode cX8_image 26 = .ok (.invokevirtual 238, 3) := by decide +kernel
theorem dX8_image_29 : decode cX8_image 29 = .ok (.istore_n 1, 1) := by decide +kernel
theorem dX8_image_30 : decode cX8_image 30 = .ok (.aload_n 0, 1) := by decide +kernel
theorem dX8_image_31 : decode cX8_image 31 = .ok (.aload_n 0, 1) := by decide +kernel
theorem dX8_image_32 : decode cX8_image 32 = .ok (.getfield 19, 3) := by decide +kernel
theorem dX8_image_35 : decode cX8_image 35 = .ok (.iload_n 1, 1) := by decide +kernel
theorem dX8_image_36 : decode cX8_image 36 = .ok (.invokevirtual 238, 3) := by decide +kernel
theorem dX8_image_39 : decode cX8_image 39 = .ok (.istore_n 1, 1) := by decide +kernel
theorem dX8_image_40 : decode cX8_image 40 = .ok (.aload_n 0, 1) := by decide +kernel
theorem dX8_image_41 : decode cX8_image 41 = .ok (.getfield 54, 3) := by decide +kernel
theorem dX8_image_44 : decode cX8_image 44 = .ok (.iload_n 1, 1) := by decide +kernel
theorem dX8_image_45 : decode cX8_image 45 = .ok (.aload_n 0, 1) := by decide +kernel
theorem dX8_image_46 : decode cX8_image 46 = .ok (.getfield 69, 3) := by decide +kernel
theorem dX8_image_49 : decode cX8_image 49 = .ok (.iastore, 1) := by decide +kernel
theorem dX8_image_50 : decode cX8_image 50 = .ok (.aload_n 0, 1) := by decide +kernel
theorem dX8_image_51 : decode cX8_image 51 = .ok (.getfield 54, 3) := by decide +kernel
theorem dX8_image_54 : decode cX8_image 54 = .ok (.iload_n 1, 1) := by decide +kernel
theorem dX8_image_55 : decode cX8_image 55 = .ok (.iconst 1, 1) := by decide +kernel
theorem dX8_image_56 : decode cX8_image 56 = .ok (.iadd, 1) := by decide +kernel
theorem dX8_image_57 : decode cX8_image 57 = .ok (.aload_n 0, 1) := by decide +kernel
theorem dX8_image_58 : decode cX8_image 58 = .ok (.getfield 77, 3) := by decide +kernel
theorem dX8_image_61 : decode cX8_image 61 = .ok (.iastore, 1) := by decide +kernel
theorem dX8_image_62 : decode cX8_image 62 = .ok (.aload_n 0, 1) := by decide +kernel
theorem dX8_image_63 : decode cX8_image 63 = .ok (.iconst 1, 1) := by decide +kernel
theorem dX8_image_64 : decode cX8_image 64 = .ok (.putfield 242, 3) := by decide +kernel
theorem dX8_image_67 : decode cX8_image 67 = .ok (.iconst 1, 1) := by decide +kernel
theorem dX8_image_68 : decode cX8_image 68 = .ok (.ireturn, 1) := by decide +kernel
theorem dX8_restore_0 : decode cX8_restore 0 = .ok (.aload_n 0, 1) := by decide +kernel
theorem dX8_restore_1 : decode cX8_restore 1 = .ok (.getfield 242, 3) := by decide +kernel
theorem dX8_restore_4 : decode cX8_restore 4 = .ok (.ifCond .ne 6, 3) := by decide +kernel
theorem dX8_restore_7 : decode cX8_restore 7 = .ok (.bipush (-4), 2) := by decide +kernel
theorem dX8_restore_9 : decode cX8_restore 9 = .ok (.ireturn, 1) := by decide +kernel
theorem dX8_restore_10 : decode cX8_restore 10 = .ok (.aload_n 0, 1) := by decide +kernel
theorem dX8_restore_11 : decode cX8_restore 11 = .ok (.iconst 0, 1) := by decide +kernel
theorem dX8_restore_12 : decode cX8_restore 12 = .ok (.aload_n 0, 1) := by decide +kernel
theorem dX8_restore_13 : decode cX8_restore 13 = .ok (.getfield 7, 3) := by decide +kernel
theorem dX8_restore_16 : decode cX8_restore 16 = .ok (.invokevirtual 245, 3) := by decide +kernel
theorem dX8_restore_19 : decode cX8_restore 19 = .ok (.istore_n 1, 1) := by decide +kernel
theorem dX8_restore_20 : decode cX8_restore 20 = .ok (.aload_n 0, 1) := by decide +kernel
theorem dX8_restore_21 : decode cX8_restore 21 = .ok (.iload_n 1, 1) := by decide +kernel
theorem dX8_restore_22 : decode cX8_restore 22 = .ok (.aload_n 0, 1) := by decide +kernel
theorem dX8_restore_23 : decode cX8_restore 23 = .ok (.getfield 13, 3) := by decide +kernel
theorem dX8_restore_26 : decode cX8_restore 26 = .ok (.invokevirtual 245, 3) := by decide +kernel
theorem dX8_restore_29 : decode cX8_restore 29 = .ok (.istore_n 1, 1) := by decide +kernel
theorem dX8_restore_30 : decode cX8_restore 30 = .ok (.aload_n 0, 1) := by decide +kernel
theorem dX8_restore_31 : decode cX8_restore 31 = .ok (.iload_n 1, 1) := by decide +kernel
theorem dX8_restore_32 : decode cX8_restore 32 = .ok (.aload_n 0, 1) := by decide +kernel
theorem dX8_restore_33 : decode cX8_restore 33 = .ok (.getfield 16, 3) := by decide +kernel
theorem dX8_restore_36 : decode cX8_restore 36 = .ok (.invokevirtual 245, 3) := by decide +kernel
theorem dX8_restore_39 : decode cX8_restore 39 = .ok (.istore_n 1, 1) := by decide +kernel
theorem dX8_restore_40 : decode cX8_restore 40 = .ok (.aload_n 0, 1) := by decide +kernel
theorem dX8_restore_41 : decode cX8_restore 41 = .ok (.iload_n 1, 1) := by decide +kernel
theorem dX8_restore_42 : decode cX8_restore 42 = .ok (.aload_n 0, 1) := by decide +kernel
theorem dX8_restore_43 : decode cX8_restore 43 = .ok (.getfield 19, 3) := by decide +kernel
theorem dX8_restore_46 : decode cX8_restore 46 = .ok (.invokevirtual 245, 3) := by decide +kernel
theorem dX8_restore_49 : decode cX8_restore 49 = .ok (.istore_n 1, 1) := by decide +kernel
theorem dX8_restore_50 : decode cX8_restore 50 = .ok (.aload_n 0, 1) := by decide +kernel
theorem dX8_restore_51 : decode cX8_restore 51 = .ok (.aload_n 0, 1) := by decide +kernel
theorem dX8_restore_52 : decode cX8_restore 52 = .ok (.getfield 54, 3) := by decide +kernel
theorem dX8_restore_55 : decode cX8_restore 55 = .ok (.iload_n 1, 1) := by decide +kernel
theorem dX8_restore_56 : decode cX8_restore 56 = .ok (.iaload, 1) := by decide +kernel
theorem dX8_restore_57 : decode cX8_restore 57 = .ok (.putfield 69, 3) := by decide +kernel
theorem dX8_restore_60 : decode cX8_restore 60 = .ok (.aload_n 0, 1) := by decide +kernel
theorem dX8_restore_61 : decode cX8_restore 61 = .ok (.aload_n 0, 1) := by decide +kernel
theorem dX8_restore_62 : decode cX8_restore 62 = .ok (.getfield 54, 3) := by decide +kernel
theorem dX8_restore_65 : decode cX8_restore 65 = .ok (.iload_n 1, 1) := by decide +kernel
theorem dX8_restore_66 : decode cX8_restore 66 = .ok (.iconst 1, 1) := by decide +kernel
theorem dX8_restore_67 : decode cX8_restore 67 = .ok (.iadd, 1) := by decide +kernel
theorem dX8_restore_68 : decode cX8_restore 68 = .ok (.iaload, 1) := by decide +kernel
theorem dX8_restore_69 : decode cX8_restore 69 = .ok (.putfield 77, 3) := by decide +kernel
theorem dX8_restore_72 : decode cX8_restore 72 = .ok (.iconst 1, 1) := by decide +kernel
theorem dX8_restore_73 : decode cX8_restore 73 = .ok (.ireturn, 1) := by decide +kernel
theorem dX8_isSheet_0 : decode cX8_isSheet 0 = .ok (.iload_n 0, 1) := by decide +kernel
theorem dX8_isSheet_1 : decode cX8_isSheet 1 = .ok (.i2l, 1) := by decide +kernel
theorem dX8_isSheet_2 : decode cX8_isSheet 2 = .ok (.lconst 0, 1) := by decide +kernel
theorem dX8_isSheet_3 : decode cX8_isSheet 3 = .ok (.ldc2_w 204, 3) := by decide +kernel
theorem dX8_isSheet_6 : decode cX8_isSheet 6 = .ok (.invokestatic 73, 3) := by decide +kernel
theorem dX8_isSheet_9 : decode cX8_isSheet 9 = .ok (.ireturn, 1) := by decide +kernel
theorem dX8_isLane_0 : decode cX8_isLane 0 = .ok (.iload_n 0, 1) := by decide +kernel
theorem dX8_isLane_1 : decode cX8_isLane 1 = .ok (.i2l, 1) := by decide +kernel
theorem dX8_isLane_2 : decode cX8_isLane 2 = .ok (.lconst 0, 1) := by decide +kernel
theorem dX8_isLane_3 : decode cX8_isLane 3 = .ok (.ldc2_w 215, 3) := by decide +kernel
theorem dX8_isLane_6 : decode cX8_isLane 6 = .ok (.invokestatic 73, 3) := by decide +kernel
theorem dX8_isLane_9 : decode cX8_isLane 9 = .ok (.ireturn, 1) := by decide +kernel
theorem dX8_finds_0 : decode cX8_finds 0 = .ok (.aload_n 0, 1) := by decide +kernel
theorem dX8_finds_1 : decode cX8_finds 1 = .ok (.getfield 57, 3) := by decide +kernel
theorem dX8_finds_4 : decode cX8_finds 4 = .ok (.iload_n 1, 1) := by decide +kernel
theorem dX8_finds_5 : decode cX8_finds 5 = .ok (.iaload, 1) := by decide +kernel
theorem dX8_finds_6 : decode cX8_finds 6 = .ok (.ifCond .ge 6, 3) := by decide +kernel
theorem dX8_finds_9 : decode cX8_finds 9 = .ok (.bipush (-11), 2) := by decide +kernel
theorem dX8_finds_11 : decode cX8_finds 11 = .ok (.ireturn, 1) := by decide +kernel
theorem dX8_finds_12 : decode cX8_finds 12 = .ok (.aload_n 0, 1) := by decide +kernel
theorem dX8_finds_13 : decode cX8_finds 13 = .ok (.getfield 57, 3) := by decide +kernel
theorem dX8_finds_16 : decode cX8_finds 16 = .ok (.iload_n 1, 1) := by decide +kernel
theorem dX8_finds_17 : decode cX8_finds 17 = .ok (.iaload, 1) := by decide +kernel
theorem dX8_finds_18 : decode cX8_finds 18 = .ok (.iload_n 2, 1) := by decide +kernel
theorem dX8_finds_19 : decode cX8_finds 19 = .ok (.if_icmp .eq 6, 3) := by decide +kernel
theorem dX8_finds_22 : decode cX8_finds 22 = .ok (.bipush (-12), 2) := by decide +kernel
theorem dX8_finds_24 : decode cX8_finds 24 = .ok (.ireturn, 1) := by decide +kernel
theorem dX8_finds_25 : decode cX8_finds 25 = .ok (.iload_n 3, 1) := by decide +kernel
theorem dX8_finds_26 : decode cX8_finds 26 = .ok (.ifCond .lt 20, 3) := by decide +kernel
theorem dX8_finds_29 : decode cX8_finds 29 = .ok (.iload_n 3, 1) := by decide +kernel
theorem dX8_finds_30 : decode cX8_finds 30 = .ok (.i2l, 1) := by decide +kernel
theorem dX8_finds_31 : decode cX8_finds 31 = .ok (.iload 4, 2) := by decide +kernel
theorem dX8_finds_33 : decode cX8_finds 33 = .ok (.i2l, 1) := by decide +kernel
theorem dX8_finds_34 : decode cX8_finds 34 = .ok (.ladd, 1) := by decide +kernel
theorem dX8_finds_35 : decode cX8_finds 35 = .ok (.aload_n 0, 1) := by decide +kernel
theorem dX8_finds_36 : decode cX8_finds 36 = .ok (.getfield 60, 3) := by decide +kernel
theorem dX8_finds_39 : decode cX8_finds 39 = .ok (.iload_n 1, 1) := by decide +kernel
theorem dX8_finds_40 : decode cX8_finds 40 = .ok (.iaload, 1) := by decide +kernel
theorem dX8_finds_41 : decode cX8_finds 41 = .ok (.i2l, 1) := by decide +kernel
theorem dX8_finds_42 : decode cX8_finds 42 = .ok (.lcmp, 1) := by decide +kernel
theorem dX8_finds_43 : decode cX8_finds 43 = .ok (.ifCond .le 8, 3) := by decide +kernel
theorem dX8_finds_46 : decode cX8_finds 46 = .ok (.bipush (-13), 2) := by decide +kernel
theorem dX8_finds_48 : decode cX8_finds 48 = .ok (.goto 4, 3) := by decide +kernel
theorem dX8_finds_51 : decode cX8_finds 51 = .ok (.iconst 0, 1) := by decide +kernel
theorem dX8_finds_52 : decode cX8_finds 52 = .ok (.ireturn, 1) := by decide +kernel
theorem dX8_gauged_0 : decode cX8_gauged 0 = .ok (.iload_n 1, 1) := by decide +kernel
theorem dX8_gauged_1 : decode cX8_gauged 1 = .ok (.invokestatic 249, 3) := by decide +kernel
theorem dX8_gauged_4 : decode cX8_gauged 4 = .ok (.ifCond .eq 36, 3) := by decide +kernel
theorem dX8_gauged_7 : decode cX8_gauged 7 = .ok (.iload_n 2, 1) := by decide +kernel
theorem dX8_gauged_8 : decode cX8_gauged 8 = .ok (.invokestatic 252, 3) := by decide +kernel
theorem dX8_gauged_11 : decode cX8_gauged 11 = .ok (.ifCond .eq 29, 3) := by decide +kernel
theorem dX8_gauged_14 : decode cX8_gauged 14 = .ok (.iload 4, 2) := by decide +kernel
theorem dX8_gauged_16 : decode cX8_gauged 16 = .ok (.i2l, 1) := by decide +kernel
theorem dX8_gauged_17 : decode cX8_gauged 17 = .ok (.lconst 1, 1) := by decide +kernel
theorem dX8_gauged_18 : decode cX8_gauged 18 = .ok (.ldc2_w 122, 3) := by decide +kernel
theorem dX8_gauged_21 : decode cX8_gauged 21 = .ok (.invokestatic 73, 3) := by decide +kernel
theorem dX8_gauged_24 : decode cX8_gauged 24 = .ok (.ifCond .eq 16, 3) := by decide +kernel
theorem dX8_gauged_27 : decode cX8_gauged 27 = .ok (.iload 5, 2) := by decide +kernel
theorem dX8_gauged_29 : decode cX8_gauged 29 = .ok (.i2l, 1) := by decide +kernel
theorem dX8_gauged_30 : decode cX8_gauged 30 = .ok (.lconst 0, 1) := by decide +kernel
theorem dX8_gauged_31 : decode cX8_gauged 31 = .ok (.ldc2_w 215, 3) := by decide +kernel
theorem dX8_gauged_34 : decode cX8_gauged 34 = .ok (.invokestatic 73, 3) := by decide +kernel
theorem dX8_gauged_37 : decode cX8_gauged 37 = .ok (.ifCond .ne 5, 3) := by decide +kernel
theorem dX8_gauged_40 : decode cX8_gauged 40 = .ok (.iconst (-1), 1) := by decide +kernel
theorem dX8_gauged_41 : decode cX8_gauged 41 = .ok (.ireturn, 1) := by decide +kernel
theorem dX8_gauged_42 : decode cX8_gauged 42 = .ok (.aload_n 0, 1) := by decide +kernel
theorem dX8_gauged_43 : decode cX8_gauged 43 = .ok (.iload_n 1, 1) := by decide +kernel
theorem dX8_gauged_44 : decode cX8_gauged 44 = .ok (.iload_n 2, 1) := by decide +kernel
theorem dX8_gauged_45 : decode cX8_gauged 45 = .ok (.iload_n 3, 1) := by decide +kernel
theorem dX8_gauged_46 : decode cX8_gauged 46 = .ok (.iconst 2, 1) := by decide +kernel
theorem dX8_gauged_47 : decode cX8_gauged 47 = .ok (.iload 4, 2) := by decide +kernel
theorem dX8_gauged_49 : decode cX8_gauged 49 = .ok (.imul, 1) := by decide +kernel
theorem dX8_gauged_50 : decode cX8_gauged 50 = .ok (.invokevirtual 255, 3) := by decide +kernel
theorem dX8_gauged_53 : decode cX8_gauged 53 = .ok (.istore 6, 2) := by decide +kernel
theorem dX8_gauged_55 : decode cX8_gauged 55 = .ok (.iload 6, 2) := by decide +kernel
theorem dX8_gauged_57 : decode cX8_gauged 57 = .ok (.ifCond .ge 6, 3) := by decide +kernel
theorem dX8_gauged_60 : decode cX8_gauged 60 = .ok (.iload 6, 2) := by decide +kernel
theorem dX8_gauged_62 : decode cX8_gauged 62 = .ok (.ireturn, 1) := by decide +kernel
theorem dX8_gauged_63 : decode cX8_gauged 63 = .ok (.bipush 24, 2) := by decide +kernel
theorem dX8_gauged_65 : decode cX8_gauged 65 = .ok (.iload_n 1, 1) := by decide +kernel
theorem dX8_gauged_66 : decode cX8_gauged 66 = .ok (.imul, 1) := by decide +kernel
theorem dX8_gauged_67 : decode cX8_gauged 67 = .ok (.iload_n 3, 1) := by decide +kernel
theorem dX8_gauged_68 : decode cX8_gauged 68 = .ok (.iadd, 1) := by decide +kernel
theorem dX8_gauged_69 : decode cX8_gauged 69 = .ok (.istore 7, 2) := by decide +kernel
theorem dX8_gauged_71 : decode cX8_gauged 71 = .ok (.iconst 0, 1) := by decide +kernel
theorem dX8_gauged_72 : decode cX8_gauged 72 = .ok (.istore 8, 2) := by decide +kernel
theorem dX8_gauged_74 : decode cX8_gauged 74 = .ok (.iload 8, 2) := by decide +kernel
theorem dX8_gauged_76 : decode cX8_gauged 76 = .ok (.iload 4, 2) := by decide +kernel
theorem dX8_gauged_78 : decode cX8_gauged 78 = .ok (.if_icmp .ge 30, 3) := by decide +kernel
theorem dX8_gauged_81 : decode cX8_gauged 81 = .ok (.aload_n 0, 1) := by decide +kernel
theorem dX8_gauged_82 : decode cX8_gauged 82 = .ok (.getfield 63, 3) := by decide +kernel
theorem dX8_gauged_85 : decode cX8_gauged 85 = .ok (.iload 7, 2) := by decide +kernel
theorem dX8_gauged_87 : decode cX8_gauged 87 = .ok (.iconst 2, 1) := by decide +kernel
theorem dX8_gauged_88 : decode cX8_gauged 88 = .ok (.iload 8, 2) := by decide +kernel
theorem dX8_gauged_90 : decode cX8_gauged 90 = .ok (.imul, 1) := by decide +kernel
theorem dX8_gauged_91 : decode cX8_gauged 91 = .ok (.iadd, 1) := by decide +kernel
theorem dX8_gauged_92 : decode cX8_gauged 92 = .ok (.iaload, 1) := by decide +kernel
theorem dX8_gauged_93 : decode cX8_gauged 93 = .ok (.invokestatic 201, 3) := by decide +kernel
theorem dX8_gauged_96 : decode cX8_gauged 96 = .ok (.ifCond .ne 6, 3) := by decide +kernel
theorem dX8_gauged_99 : decode cX8_gauged 99 = .ok (.bipush (-2), 2) := by decide +kernel
theorem dX8_gauged_101 : decode cX8_gauged 101 = .ok (.ireturn, 1) := by decide +kernel
theorem dX8_gauged_102 : decode cX8_gauged 102 = .ok (.iinc 8 1, 3) := by decide +kernel
theorem dX8_gauged_105 : decode cX8_gauged 105 = .ok (.goto (-31), 3) := by decide +kernel
theorem dX8_gauged_108 : decode cX8_gauged 108 = .ok (.aload_n 0, 1) := by decide +kernel
theorem dX8_gauged_109 : decode cX8_gauged 109 = .ok (.getfield 16, 3) := by decide +kernel
theorem dX8_gauged_112 : decode cX8_gauged 112 = .ok (.iconst 0, 1) := by decide +kernel
theorem dX8_gauged_113 : decode cX8_gauged 113 = .ok (.iaload, 1) := by decide +kernel
theorem dX8_gauged_114 : decode cX8_gauged 114 = .ok (.istore 8, 2) := by decide +kernel
theorem dX8_gauged_116 : decode cX8_gauged 116 = .ok (.iconst 0, 1) := by decide +kernel
theorem dX8_gauged_117 : decode cX8_gauged 117 = .ok (.istore 9, 2) := by decide +kernel
theorem dX8_gauged_119 : decode cX8_gauged 119 = .ok (.bipush (-4), 2) := by decide +kernel
theorem dX8_gauged_121 : decode cX8_gauged 121 = .ok (.istore 10, 2) := by decide +kernel
theorem dX8_gauged_123 : decode cX8_gauged 123 = .ok (.bipush (-4), 2) := by decide +kernel
theorem dX8_gauged_125 : decode cX8_gauged 125 = .ok (.istore 11, 2) := by decide +kernel
theorem dX8_gauged_127 : decode cX8_gauged 127 = .ok (.iconst 0, 1) := by decide +kernel
theorem dX8_gauged_128 : decode cX8_gauged 128 = .ok (.istore 12, 2) := by decide +kernel
theorem dX8_gauged_130 : decode cX8_gauged 130 = .ok (.iload 12, 2) := by decide +kernel
theorem dX8_gauged_132 : decode cX8_gauged 132 = .ok (.bipush 91, 2) := by decide +kernel
theorem dX8_gauged_134 : decode cX8_gauged 134 = .ok (.if_icmp .ge 129, 3) := by decide +kernel
theorem dX8_gauged_137 : decode cX8_gauged 137 = .ok (.aload_n 0, 1) := by decide +kernel
theorem dX8_gauged_138 : decode cX8_gauged 138 = .ok (.getfield 16, 3) := by decide +kernel
theorem dX8_gauged_141 : decode cX8_gauged 141 = .ok (.iconst 0, 1) := by decide +kernel
theorem dX8_gauged_142 : decode cX8_gauged 142 = .ok (.iload 12, 2) := by decide +kernel
theorem dX8_gauged_144 : decode cX8_gauged 144 = .ok (.iastore, 1) := by decide +kernel
theorem dX8_gauged_145 : decode cX8_gauged 145 = .ok (.iconst 1, 1) := by decide +kernel
theorem dX8_gauged_146 : decode cX8_gauged 146 = .ok (.istore 13, 2) := by decide +kernel
theorem dX8_gauged_148 : decode cX8_gauged 148 = .ok (.iconst 0, 1) := by decide +kernel
theorem dX8_gauged_149 : decode cX8_gauged 149 = .ok (.istore 14, 2) := by decide +kernel
theorem dX8_gauged_151 : decode cX8_gauged 151 = .ok (.iload 14, 2) := by decide +kernel
theorem dX8_gauged_153 : decode cX8_gauged 153 = .ok (.iload 4, 2) := by decide +kernel
theorem dX8_gauged_155 : decode cX8_gauged 155 = .ok (.if_icmp .ge 54, 3) := by decide +kernel
theorem dX8_gauged_158 : decode cX8_gauged 158 = .ok (.iload 13, 2) := by decide +kernel
theorem dX8_gauged_160 : decode cX8_gauged 160 = .ok (.ifCond .eq 40, 3) := by decide +kernel
theorem dX8_gauged_163 : decode cX8_gauged 163 = .ok (.aload_n 0, 1) := by decide +kernel
theorem dX8_gauged_164 : decode cX8_gauged 164 = .ok (.aload_n 0, 1) := by decide +kernel
theorem dX8_gauged_165 : decode cX8_gauged 165 = .ok (.getfield 63, 3) := by decide +kernel
theorem dX8_gauged_168 : decode cX8_gauged 168 = .ok (.iload 7, 2) := by decide +kernel
theorem dX8_gauged_170 : decode cX8_gauged 170 = .ok (.iconst 2, 1) := by decide +kernel
theorem dX8_gauged_171 : decode cX8_gauged 171 = .ok (.iload 14, 2) := by decide +kernel
theorem dX8_gauged_173 : decode cX8_gauged 173 = .ok (.imul, 1) := by decide +kernel
theorem dX8_gauged_174 : decode cX8_gauged 174 = .ok (.iadd, 1) := by decide +kernel
theorem dX8_gauged_175 : decode cX8_gauged 175 = .ok (.iaload, 1) := by decide +kernel
theorem dX8_gauged_176 : decode cX8_gauged 176 = .ok (.invokevirtual 162, 3) := by decide +kernel
theorem dX8_gauged_179 : decode cX8_gauged 179 = .ok (.aload_n 0, 1) := by decide +kernel
theorem dX8_gauged_180 : decode cX8_gauged 180 = .ok (.getfield 63, 3) := by decide +kernel
theorem dX8_gauged_183 : decode cX8_gauged 183 = .ok (.iload 7, 2) := by decide +kernel
theorem dX8_gauged_185 : decode cX8_gauged 185 = .ok (.iconst 2, 1) := by decide +kernel
theorem dX8_gauged_186 : decode cX8_gauged 186 = .ok (.iload 14, 2) := by decide +kernel
theorem dX8_gauged_188 : decode cX8_gauged 188 = .ok (.imul, 1) := by decide +kernel
theorem dX8_gauged_189 : decode cX8_gauged 189 = .ok (.iadd, 1) := by decide +kernel
theorem dX8_gauged_190 : decode cX8_gauged 190 = .ok (.iconst 1, 1) := by decide +kernel
theorem dX8_gauged_191 : decode cX8_gauged 191 = .ok (.iadd, 1) := by decide +kernel
theorem dX8_gauged_192 : decode cX8_gauged 192 = .ok (.iaload, 1) := by decide +kernel
theorem dX8_gauged_193 : decode cX8_gauged 193 = .ok (.if_icmp .ne 7, 3) := by decide +kernel
theorem dX8_gauged_196 : decode cX8_gauged 196 = .ok (.iconst 1, 1) := by decide +kernel
theorem dX8_gauged_197 : decode cX8_gauged 197 = .ok (.goto 4, 3) := by decide +kernel
theorem dX8_gauged_200 : decode cX8_gauged 200 = .ok (.iconst 0, 1) := by decide +kernel
theorem dX8_gauged_201 : decode cX8_gauged 201 = .ok (.istore 13, 2) := by decide +kernel
theorem dX8_gauged_203 : decode cX8_gauged 203 = .ok (.iinc 14 1, 3) := by decide +kernel
theorem dX8_gauged_206 : decode cX8_gauged 206 = .ok (.goto (-55), 3) := by decide +kernel
theorem dX8_gauged_209 : decode cX8_gauged 209 = .ok (.iload 9, 2) := by decide +kernel
theorem dX8_gauged_211 : decode cX8_gauged 211 = .ok (.iload 13, 2) := by decide +kernel
theorem dX8_gauged_213 : decode cX8_gauged 213 = .ok (.ifCond .eq 7, 3) := by decide +kernel
theorem dX8_gauged_216 : decode cX8_gauged 216 = .ok (.iconst 1, 1) := by decide +kernel
theorem dX8_gauged_217 : decode cX8_gauged 217 = .ok (.goto 4, 3) := by decide +kernel
theorem dX8_gauged_220 : decode cX8_gauged 220 = .ok (.iconst 0, 1) := by decide +kernel
theorem dX8_gauged_221 : decode cX8_gauged 221 = .ok (.iadd, 1) := by decide +kernel
theorem dX8_gauged_222 : decode cX8_gauged 222 = .ok (.istore 9, 2) := by decide +kernel
theorem dX8_gauged_224 : decode cX8_gauged 224 = .ok (.iload 13, 2) := by decide +kernel
theorem dX8_gauged_226 : decode cX8_gauged 226 = .ok (.ifCond .eq 13, 3) := by decide +kernel
theorem dX8_gauged_229 : decode cX8_gauged 229 = .ok (.iload 10, 2) := by decide +kernel
theorem dX8_gauged_231 : decode cX8_gauged 231 = .ok (.ifCond .ge 8, 3) := by decide +kernel
theorem dX8_gauged_234 : decode cX8_gauged 234 = .ok (.iload 12, 2) := by decide +kernel
theorem dX8_gauged_236 : decode cX8_gauged 236 = .ok (.goto 5, 3) := by decide +kernel
theorem dX8_gauged_239 : decode cX8_gauged 239 = .ok (.iload 10, 2) := by decide +kernel
theorem dX8_gauged_241 : decode cX8_gauged 241 = .ok (.istore 10, 2) := by decide +kernel
theorem dX8_gauged_243 : decode cX8_gauged 243 = .ok (.iload 13, 2) := by decide +kernel
theorem dX8_gauged_245 : decode cX8_gauged 245 = .ok (.ifCond .eq 8, 3) := by decide +kernel
theorem dX8_gauged_248 : decode cX8_gauged 248 = .ok (.iload 12, 2) := by decide +kernel
theorem dX8_gauged_250 : decode cX8_gauged 250 = .ok (.goto 5, 3) := by decide +kernel
theorem dX8_gauged_253 : decode cX8_gauged 253 = .ok (.iload 11, 2) := by decide +kernel
theorem dX8_gauged_255 : decode cX8_gauged 255 = .ok (.istore 11, 2) := by decide +kernel
theorem dX8_gauged_257 : decode cX8_gauged 257 = .ok (.iinc 12 1, 3) := by decide +kernel
theorem dX8_gauged_260 : decode cX8_gauged 260 = .ok (.goto (-130), 3) := by decide +kernel
theorem dX8_gauged_263 : decode cX8_gauged 263 = .ok (.aload_n 0, 1) := by decide +kernel
theorem dX8_gauged_264 : decode cX8_gauged 264 = .ok (.getfield 16, 3) := by decide +kernel
theorem dX8_gauged_267 : decode cX8_gauged 267 = .ok (.iconst 0, 1) := by decide +kernel
theorem dX8_gauged_268 : decode cX8_gauged 268 = .ok (.iload 8, 2) := by decide +kernel
theorem dX8_gauged_270 : decode cX8_gauged 270 = .ok (.iastore, 1) := by decide +kernel
theorem dX8_gauged_271 : decode cX8_gauged 271 = .ok (.iload 5, 2) := by decide +kernel
theorem dX8_gauged_273 : decode cX8_gauged 273 = .ok (.ifCond .ne 8, 3) := by decide +kernel
theorem dX8_gauged_276 : decode cX8_gauged 276 = .ok (.iload 9, 2) := by decide +kernel
theorem dX8_gauged_278 : decode cX8_gauged 278 = .ok (.goto 16, 3) := by decide +kernel
theorem dX8_gauged_281 : decode cX8_gauged 281 = .ok (.iload 5, 2) := by decide +kernel
theorem dX8_gauged_283 : decode cX8_gauged 283 = .ok (.iconst 1, 1) := by decide +kernel
theorem dX8_gauged_284 : decode cX8_gauged 284 = .ok (.if_icmp .ne 8, 3) := by decide +kernel
theorem dX8_gauged_287 : decode cX8_gauged 287 = .ok (.iload 10, 2) := by decide +kernel
theorem dX8_gauged_289 : decode cX8_gauged 289 = .ok (.goto 5, 3) := by decide +kernel
theorem dX8_gauged_292 : decode cX8_gauged 292 = .ok (.iload 11, 2) := by decide +kernel
theorem dX8_gauged_294 : decode cX8_gauged 294 = .ok (.ireturn, 1) := by decide +kernel
end
section
theorem dX8_sheet_0 : decode cX8_sheet 0 = .ok (.iload_n 1, 1) := by decide +kernel
theorem dX8_sheet_1 : decode cX8_sheet 1 = .ok (.invokestatic 249, 3) := by decide +kernel
theorem dX8_sheet_4 : decode cX8_sheet 4 = .ok (.ifCond .eq 16, 3) := by decide +kernel
theorem dX8_sheet_7 : decode cX8_sheet 7 = .ok (.iload_n 2, 1) := by decide +kernel
theorem dX8_sheet_8 : decode cX8_sheet 8 = .ok (.invokestatic 252, 3) := by decide +kernel
theorem dX8_sheet_11 : decode cX8_sheet 11 = .ok (.ifCond .eq 9, 3) := by decide +kernel
theorem dX8_sheet_14 : decode cX8_sheet 14 = .ok (.iload_n 3, 1) := by decide +kernel
theorem dX8_sheet_15 : decode cX8_sheet 15 = .ok (.bipush 24, 2) := by decide +kernel
theorem dX8_sheet_17 : decode cX8_sheet 17 = .ok (.if_icmp .le 5, 3) := by decide +kernel
theorem dX8_sheet_20 : decode cX8_sheet 20 = .ok (.iconst (-1), 1) := by decide +kernel
theorem dX8_sheet_21 : decode cX8_sheet 21 = .ok (.ireturn, 1) := by decide +kernel
theorem dX8_sheet_22 : decode cX8_sheet 22 = .ok (.iload_n 3, 1) := by decide +kernel
theorem dX8_sheet_23 : decode cX8_sheet 23 = .ok (.ifCond .ge 6, 3) := by decide +kernel
theorem dX8_sheet_26 : decode cX8_sheet 26 = .ok (.bipush (-14), 2) := by decide +kernel
theorem dX8_sheet_28 : decode cX8_sheet 28 = .ok (.ireturn, 1) := by decide +kernel
theorem dX8_sheet_29 : decode cX8_sheet 29 = .ok (.aload_n 0, 1) := by decide +kernel
theorem dX8_sheet_30 : decode cX8_sheet 30 = .ok (.getfield 57, 3) := by decide +kernel
theorem dX8_sheet_33 : decode cX8_sheet 33 = .ok (.iload_n 1, 1) := by decide +kernel
theorem dX8_sheet_34 : decode cX8_sheet 34 = .ok (.iload_n 2, 1) := by decide +kernel
theorem dX8_sheet_35 : decode cX8_sheet 35 = .ok (.iastore, 1) := by decide +kernel
theorem dX8_sheet_36 : decode cX8_sheet 36 = .ok (.aload_n 0, 1) := by decide +kernel
theorem dX8_sheet_37 : decode cX8_sheet 37 = .ok (.getfield 60, 3) := by decide +kernel
theorem dX8_sheet_40 : decode cX8_sheet 40 = .ok (.iload_n 1, 1) := by decide +kernel
theorem dX8_sheet_41 : decode cX8_sheet 41 = .ok (.iload_n 3, 1) := by decide +kernel
theorem dX8_sheet_42 : decode cX8_sheet 42 = .ok (.iastore, 1) := by decide +kernel
theorem dX8_sheet_43 : decode cX8_sheet 43 = .ok (.iconst 0, 1) := by decide +kernel
theorem dX8_sheet_44 : decode cX8_sheet 44 = .ok (.istore 4, 2) := by decide +kernel
theorem dX8_sheet_46 : decode cX8_sheet 46 = .ok (.iload 4, 2) := by decide +kernel
theorem dX8_sheet_48 : decode cX8_sheet 48 = .ok (.bipush 24, 2) := by decide +kernel
theorem dX8_sheet_50 : decode cX8_sheet 50 = .ok (.if_icmp .ge 22, 3) := by decide +kernel
theorem dX8_sheet_53 : decode cX8_sheet 53 = .ok (.aload_n 0, 1) := by decide +kernel
theorem dX8_sheet_54 : decode cX8_sheet 54 = .ok (.getfield 63, 3) := by decide +kernel
theorem dX8_sheet_57 : decode cX8_sheet 57 = .ok (.bipush 24, 2) := by decide +kernel
theorem dX8_sheet_59 : decode cX8_sheet 59 = .ok (.iload_n 1, 1) := by decide +kernel
theorem dX8_sheet_60 : decode cX8_sheet 60 = .ok (.imul, 1) := by decide +kernel
theorem dX8_sheet_61 : decode cX8_sheet 61 = .ok (.iload 4, 2) := by decide +kernel
theorem dX8_sheet_63 : decode cX8_sheet 63 = .ok (.iadd, 1) := by decide +kernel
theorem dX8_sheet_64 : decode cX8_sheet 64 = .ok (.iconst 0, 1) := by decide +kernel
theorem dX8_sheet_65 : decode cX8_sheet 65 = .ok (.iastore, 1) := by decide +kernel
theorem dX8_sheet_66 : decode cX8_sheet 66 = .ok (.iinc 4 1, 3) := by decide +kernel
theorem dX8_sheet_69 : decode cX8_sheet 69 = .ok (.goto (-23), 3) := by decide +kernel
theorem dX8_sheet_72 : decode cX8_sheet 72 = .ok (.iload_n 3, 1) := by decide +kernel
theorem dX8_sheet_73 : decode cX8_sheet 73 = .ok (.ireturn, 1) := by decide +kernel
theorem dX8_drop_0 : decode cX8_drop 0 = .ok (.iload_n 1, 1) := by decide +kernel
theorem dX8_drop_1 : decode cX8_drop 1 = .ok (.invokestatic 249, 3) := by decide +kernel
theorem dX8_drop_4 : decode cX8_drop 4 = .ok (.ifCond .ne 5, 3) := by decide +kernel
theorem dX8_drop_7 : decode cX8_drop 7 = .ok (.iconst (-1), 1) := by decide +kernel
theorem dX8_drop_8 : decode cX8_drop 8 = .ok (.ireturn, 1) := by decide +kernel
theorem dX8_drop_9 : decode cX8_drop 9 = .ok (.aload_n 0, 1) := by decide +kernel
theorem dX8_drop_10 : decode cX8_drop 10 = .ok (.getfield 57, 3) := by decide +kernel
theorem dX8_drop_13 : decode cX8_drop 13 = .ok (.iload_n 1, 1) := by decide +kernel
theorem dX8_drop_14 : decode cX8_drop 14 = .ok (.iaload, 1) := by decide +kernel
theorem dX8_drop_15 : decode cX8_drop 15 = .ok (.ifCond .ge 6, 3) := by decide +kernel
theorem dX8_drop_18 : decode cX8_drop 18 = .ok (.bipush (-11), 2) := by decide +kernel
theorem dX8_drop_20 : decode cX8_drop 20 = .ok (.ireturn, 1) := by decide +kernel
theorem dX8_drop_21 : decode cX8_drop 21 = .ok (.aload_n 0, 1) := by decide +kernel
theorem dX8_drop_22 : decode cX8_drop 22 = .ok (.getfield 57, 3) := by decide +kernel
theorem dX8_drop_25 : decode cX8_drop 25 = .ok (.iload_n 1, 1) := by decide +kernel
theorem dX8_drop_26 : decode cX8_drop 26 = .ok (.iconst (-1), 1) := by decide +kernel
theorem dX8_drop_27 : decode cX8_drop 27 = .ok (.iastore, 1) := by decide +kernel
theorem dX8_drop_28 : decode cX8_drop 28 = .ok (.aload_n 0, 1) := by decide +kernel
theorem dX8_drop_29 : decode cX8_drop 29 = .ok (.getfield 60, 3) := by decide +kernel
theorem dX8_drop_32 : decode cX8_drop 32 = .ok (.iload_n 1, 1) := by decide +kernel
theorem dX8_drop_33 : decode cX8_drop 33 = .ok (.iaload, 1) := by decide +kernel
theorem dX8_drop_34 : decode cX8_drop 34 = .ok (.ireturn, 1) := by decide +kernel
theorem dX8_item_0 : decode cX8_item 0 = .ok (.iload_n 1, 1) := by decide +kernel
theorem dX8_item_1 : decode cX8_item 1 = .ok (.invokestatic 249, 3) := by decide +kernel
theorem dX8_item_4 : decode cX8_item 4 = .ok (.ifCond .eq 10, 3) := by decide +kernel
theorem dX8_item_7 : decode cX8_item 7 = .ok (.iload_n 2, 1) := by decide +kernel
theorem dX8_item_8 : decode cX8_item 8 = .ok (.invokestatic 252, 3) := by decide +kernel
theorem dX8_item_11 : decode cX8_item 11 = .ok (.ifCond .ne 5, 3) := by decide +kernel
theorem dX8_item_14 : decode cX8_item 14 = .ok (.iconst (-1), 1) := by decide +kernel
theorem dX8_item_15 : decode cX8_item 15 = .ok (.ireturn, 1) := by decide +kernel
theorem dX8_item_16 : decode cX8_item 16 = .ok (.aload_n 0, 1) := by decide +kernel
theorem dX8_item_17 : decode cX8_item 17 = .ok (.iload_n 1, 1) := by decide +kernel
theorem dX8_item_18 : decode cX8_item 18 = .ok (.iload_n 2, 1) := by decide +kernel
theorem dX8_item_19 : decode cX8_item 19 = .ok (.iload_n 3, 1) := by decide +kernel
theorem dX8_item_20 : decode cX8_item 20 = .ok (.iconst 1, 1) := by decide +kernel
theorem dX8_item_21 : decode cX8_item 21 = .ok (.invokevirtual 255, 3) := by decide +kernel
theorem dX8_item_24 : decode cX8_item 24 = .ok (.istore 5, 2) := by decide +kernel
theorem dX8_item_26 : decode cX8_item 26 = .ok (.iload 5, 2) := by decide +kernel
theorem dX8_item_28 : decode cX8_item 28 = .ok (.ifCond .ge 6, 3) := by decide +kernel
theorem dX8_item_31 : decode cX8_item 31 = .ok (.iload 5, 2) := by decide +kernel
theorem dX8_item_33 : decode cX8_item 33 = .ok (.ireturn, 1) := by decide +kernel
theorem dX8_item_34 : decode cX8_item 34 = .ok (.aload_n 0, 1) := by decide +kernel
theorem dX8_item_35 : decode cX8_item 35 = .ok (.getfield 63, 3) := by decide +kernel
theorem dX8_item_38 : decode cX8_item 38 = .ok (.bipush 24, 2) := by decide +kernel
theorem dX8_item_40 : decode cX8_item 40 = .ok (.iload_n 1, 1) := by decide +kernel
theorem dX8_item_41 : decode cX8_item 41 = .ok (.imul, 1) := by decide +kernel
theorem dX8_item_42 : decode cX8_item 42 = .ok (.iload_n 3, 1) := by decide +kernel
theorem dX8_item_43 : decode cX8_item 43 = .ok (.iadd, 1) := by decide +kernel
theorem dX8_item_44 : decode cX8_item 44 = .ok (.iload_n 2, 1) := by decide +kernel
theorem dX8_item_45 : decode cX8_item 45 = .ok (.ifCond .ne 9, 3) := by decide +kernel
theorem dX8_item_48 : decode cX8_item 48 = .ok (.iload 4, 2) := by decide +kernel
theorem dX8_item_50 : decode cX8_item 50 = .ok (.i2b, 1) := by decide +kernel
theorem dX8_item_51 : decode cX8_item 51 = .ok (.goto 16, 3) := by decide +kernel
theorem dX8_item_54 : decode cX8_item 54 = .ok (.iload_n 2, 1) := by decide +kernel
theorem dX8_item_55 : decode cX8_item 55 = .ok (.iconst 1, 1) := by decide +kernel
theorem dX8_item_56 : decode cX8_item 56 = .ok (.if_icmp .ne 9, 3) := by decide +kernel
theorem dX8_item_59 : decode cX8_item 59 = .ok (.iload 4, 2) := by decide +kernel
theorem dX8_item_61 : decode cX8_item 61 = .ok (.i2s, 1) := by decide +kernel
theorem dX8_item_62 : decode cX8_item 62 = .ok (.goto 5, 3) := by decide +kernel
theorem dX8_item_65 : decode cX8_item 65 = .ok (.iload 4, 2) := by decide +kernel
theorem dX8_item_67 : decode cX8_item 67 = .ok (.iastore, 1) := by decide +kernel
theorem dX8_item_68 : decode cX8_item 68 = .ok (.iconst 1, 1) := by decide +kernel
theorem dX8_item_69 : decode cX8_item 69 = .ok (.ireturn, 1) := by decide +kernel
theorem dX8_copy_0 : decode cX8_copy 0 = .ok (.iload_n 1, 1) := by decide +kernel
theorem dX8_copy_1 : decode cX8_copy 1 = .ok (.invokestatic 249, 3) := by decide +kernel
theorem dX8_copy_4 : decode cX8_copy 4 = .ok (.ifCond .eq 10, 3) := by decide +kernel
theorem dX8_copy_7 : decode cX8_copy 7 = .ok (.iload_n 3, 1) := by decide +kernel
theorem dX8_copy_8 : decode cX8_copy 8 = .ok (.invokestatic 249, 3) := by decide +kernel
theorem dX8_copy_11 : decode cX8_copy 11 = .ok (.ifCond .ne 5, 3) := by decide +kernel
theorem dX8_copy_14 : decode cX8_copy 14 = .ok (.iconst (-1), 1) := by decide +kernel
theorem dX8_copy_15 : decode cX8_copy 15 = .ok (.ireturn, 1) := by decide +kernel
theorem dX8_copy_16 : decode cX8_copy 16 = .ok (.aload_n 0, 1) := by decide +kernel
theorem dX8_copy_17 : decode cX8_copy 17 = .ok (.getfield 57, 3) := by decide +kernel
theorem dX8_copy_20 : decode cX8_copy 20 = .ok (.iload_n 1, 1) := by decide +kernel
theorem dX8_copy_21 : decode cX8_copy 21 = .ok (.iaload, 1) := by decide +kernel
theorem dX8_copy_22 : decode cX8_copy 22 = .ok (.ifCond .lt 12, 3) := by decide +kernel
theorem dX8_copy_25 : decode cX8_copy 25 = .ok (.aload_n 0, 1) := by decide +kernel
theorem dX8_copy_26 : decode cX8_copy 26 = .ok (.getfield 57, 3) := by decide +kernel
theorem dX8_copy_29 : decode cX8_copy 29 = .ok (.iload_n 3, 1) := by decide +kernel
theorem dX8_copy_30 : decode cX8_copy 30 = .ok (.iaload, 1) := by decide +kernel
theorem dX8_copy_31 : decode cX8_copy 31 = .ok (.ifCond .ge 6, 3) := by decide +kernel
theorem dX8_copy_34 : decode cX8_copy 34 = .ok (.bipush (-11), 2) := by decide +kernel
theorem dX8_copy_36 : decode cX8_copy 36 = .ok (.ireturn, 1) := by decide +kernel
theorem dX8_copy_37 : decode cX8_copy 37 = .ok (.aload_n 0, 1) := by decide +kernel
theorem dX8_copy_38 : decode cX8_copy 38 = .ok (.getfield 57, 3) := by decide +kernel
theorem dX8_copy_41 : decode cX8_copy 41 = .ok (.iload_n 1, 1) := by decide +kernel
theorem dX8_copy_42 : decode cX8_copy 42 = .ok (.iaload, 1) := by decide +kernel
theorem dX8_copy_43 : decode cX8_copy 43 = .ok (.aload_n 0, 1) := by decide +kernel
theorem dX8_copy_44 : decode cX8_copy 44 = .ok (.getfield 57, 3) := by decide +kernel
theorem dX8_copy_47 : decode cX8_copy 47 = .ok (.iload_n 3, 1) := by decide +kernel
theorem dX8_copy_48 : decode cX8_copy 48 = .ok (.iaload, 1) := by decide +kernel
theorem dX8_copy_49 : decode cX8_copy 49 = .ok (.if_icmp .eq 6, 3) := by decide +kernel
theorem dX8_copy_52 : decode cX8_copy 52 = .ok (.bipush (-12), 2) := by decide +kernel
theorem dX8_copy_54 : decode cX8_copy 54 = .ok (.ireturn, 1) := by decide +kernel
theorem dX8_copy_55 : decode cX8_copy 55 = .ok (.iload 5, 2) := by decide +kernel
theorem dX8_copy_57 : decode cX8_copy 57 = .ok (.ifCond .lt 38, 3) := by decide +kernel
theorem dX8_copy_60 : decode cX8_copy 60 = .ok (.aload_n 0, 1) := by decide +kernel
theorem dX8_copy_61 : decode cX8_copy 61 = .ok (.iload_n 1, 1) := by decide +kernel
theorem dX8_copy_62 : decode cX8_copy 62 = .ok (.aload_n 0, 1) := by decide +kernel
theorem dX8_copy_63 : decode cX8_copy 63 = .ok (.getfield 57, 3) := by decide +kernel
theorem dX8_copy_66 : decode cX8_copy 66 = .ok (.iload_n 1, 1) := by decide +kernel
theorem dX8_copy_67 : decode cX8_copy 67 = .ok (.iaload, 1) := by decide +kernel
theorem dX8_copy_68 : decode cX8_copy 68 = .ok (.iload_n 2, 1) := by decide +kernel
theorem dX8_copy_69 : decode cX8_copy 69 = .ok (.iload 5, 2) := by decide +kernel
theorem dX8_copy_71 : decode cX8_copy 71 = .ok (.invokevirtual 255, 3) := by decide +kernel
theorem dX8_copy_74 : decode cX8_copy 74 = .ok (.ifCond .lt 21, 3) := by decide +kernel
theorem dX8_copy_77 : decode cX8_copy 77 = .ok (.aload_n 0, 1) := by decide +kernel
theorem dX8_copy_78 : decode cX8_copy 78 = .ok (.iload_n 3, 1) := by decide +kernel
theorem dX8_copy_79 : decode cX8_copy 79 = .ok (.aload_n 0, 1) := by decide +kernel
theorem dX8_copy_80 : decode cX8_copy 80 = .ok (.getfield 57, 3) := by decide +kernel
theorem dX8_copy_83 : decode cX8_copy 83 = .ok (.iload_n 3, 1) := by decide +kernel
theorem dX8_copy_84 : decode cX8_copy 84 = .ok (.iaload, 1) := by decide +kernel
theorem dX8_copy_85 : decode cX8_copy 85 = .ok (.iload 4, 2) := by decide +kernel
theorem dX8_copy_87 : decode cX8_copy 87 = .ok (.iload 5, 2) := by decide +kernel
theorem dX8_copy_89 : decode cX8_copy 89 = .ok (.invokevirtual 255, 3) := by decide +kernel
theorem dX8_copy_92 : decode cX8_copy 92 = .ok (.ifCond .ge 6, 3) := by decide +kernel
theorem dX8_copy_95 : decode cX8_copy 95 = .ok (.bipush (-13), 2) := by decide +kernel
theorem dX8_copy_97 : decode cX8_copy 97 = .ok (.ireturn, 1) := by decide +kernel
theorem dX8_copy_98 : decode cX8_copy 98 = .ok (.iconst 0, 1) := by decide +kernel
theorem dX8_copy_99 : decode cX8_copy 99 = .ok (.istore 6, 2) := by decide +kernel
theorem dX8_copy_101 : decode cX8_copy 101 = .ok (.iload 6, 2) := by decide +kernel
theorem dX8_copy_103 : decode cX8_copy 103 = .ok (.iload 5, 2) := by decide +kernel
theorem dX8_copy_105 : decode cX8_copy 105 = .ok (.if_icmp .ge 30, 3) := by decide +kernel
theorem dX8_copy_108 : decode cX8_copy 108 = .ok (.aload_n 0, 1) := by decide +kernel
theorem dX8_copy_109 : decode cX8_copy 109 = .ok (.getfield 66, 3) := by decide +kernel
theorem dX8_copy_112 : decode cX8_copy 112 = .ok (.iload 6, 2) := by decide +kernel
theorem dX8_copy_114 : decode cX8_copy 114 = .ok (.aload_n 0, 1) := by decide +kernel
theorem dX8_copy_115 : decode cX8_copy 115 = .ok (.getfield 63, 3) := by decide +kernel
theorem dX8_copy_118 : decode cX8_copy 118 = .ok (.bipush 24, 2) := by decide +kernel
theorem dX8_copy_120 : decode cX8_copy 120 = .ok (.iload_n 1, 1) := by decide +kernel
theorem dX8_copy_121 : decode cX8_copy 121 = .ok (.imul, 1) := by decide +kernel
theorem dX8_copy_122 : decode cX8_copy 122 = .ok (.iload_n 2, 1) := by decide +kernel
theorem dX8_copy_123 : decode cX8_copy 123 = .ok (.iadd, 1) := by decide +kernel
theorem dX8_copy_124 : decode cX8_copy 124 = .ok (.iload 6, 2) := by decide +kernel
theorem dX8_copy_126 : decode cX8_copy 126 = .ok (.iadd, 1) := by decide +kernel
theorem dX8_copy_127 : decode cX8_copy 127 = .ok (.iaload, 1) := by decide +kernel
theorem dX8_copy_128 : decode cX8_copy 128 = .ok (.iastore, 1) := by decide +kernel
theorem dX8_copy_129 : decode cX8_copy 129 = .ok (.iinc 6 1, 3) := by decide +kernel
theorem dX8_copy_132 : decode cX8_copy 132 = .ok (.goto (-31), 3) := by decide +kernel
theorem dX8_copy_135 : decode cX8_copy 135 = .ok (.iconst 0, 1) := by decide +kernel
theorem dX8_copy_136 : decode cX8_copy 136 = .ok (.istore 6, 2) := by decide +kernel
theorem dX8_copy_138 : decode cX8_copy 138 = .ok (.iload 6, 2) := by decide +kernel
theorem dX8_copy_140 : decode cX8_copy 140 = .ok (.iload 5, 2) := by decide +kernel
theorem dX8_copy_142 : decode cX8_copy 142 = .ok (.if_icmp .ge 31, 3) := by decide +kernel
theorem dX8_copy_145 : decode cX8_copy 145 = .ok (.aload_n 0, 1) := by decide +kernel
theorem dX8_copy_146 : decode cX8_copy 146 = .ok (.getfield 63, 3) := by decide +kernel
theorem dX8_copy_149 : decode cX8_copy 149 = .ok (.bipush 24, 2) := by decide +kernel
theorem dX8_copy_151 : decode cX8_copy 151 = .ok (.iload_n 3, 1) := by decide +kernel
theorem dX8_copy_152 : decode cX8_copy 152 = .ok (.imul, 1) := by decide +kernel
theorem dX8_copy_153 : decode cX8_copy 153 = .ok (.iload 4, 2) := by decide +kernel
theorem dX8_copy_155 : decode cX8_copy 155 = .ok (.iadd, 1) := by decide +kernel
theorem dX8_copy_156 : decode cX8_copy 156 = .ok (.iload 6, 2) := by decide +kernel
theorem dX8_copy_158 : decode cX8_copy 158 = .ok (.iadd, 1) := by decide +kernel
theorem dX8_copy_159 : decode cX8_copy 159 = .ok (.aload_n 0, 1) := by decide +kernel
theorem dX8_copy_160 : decode cX8_copy 160 = .ok (.getfield 66, 3) := by decide +kernel
theorem dX8_copy_163 : decode cX8_copy 163 = .ok (.iload 6, 2) := by decide +kernel
theorem dX8_copy_165 : decode cX8_copy 165 = .ok (.iaload, 1) := by decide +kernel
theorem dX8_copy_166 : decode cX8_copy 166 = .ok (.iastore, 1) := by decide +kernel
theorem dX8_copy_167 : decode cX8_copy 167 = .ok (.iinc 6 1, 3) := by decide +kernel
theorem dX8_copy_170 : decode cX8_copy 170 = .ok (.goto (-32), 3) := by decide +kernel
theorem dX8_copy_173 : decode cX8_copy 173 = .ok (.iload 5, 2) := by decide +kernel
theorem dX8_copy_175 : decode cX8_copy 175 = .ok (.ireturn, 1) := by decide +kernel
theorem dJ6_compare_7cf53_0 : decode cJ6_compare_7cf53 0 = .ok (.iload_n 0, 1) := by decide +kernel
theorem dJ6_compare_7cf53_1 : decode cJ6_compare_7cf53 1 = .ok (.iload_n 1, 1) := by decide +kernel
theorem dJ6_compare_7cf53_2 : decode cJ6_compare_7cf53 2 = .ok (.if_icmp .ge 7, 3) := by decide +kernel
theorem dJ6_compare_7cf53_5 : decode cJ6_compare_7cf53 5 = .ok (.iconst (-1), 1) := by decide +kernel
theorem dJ6_compare_7cf53_6 : decode cJ6_compare_7cf53 6 = .ok (.goto 13, 3) := by decide +kernel
theorem dJ6_compare_7cf53_9 : decode cJ6_compare_7cf53 9 = .ok (.iload_n 0, 1) := by decide +kernel
theorem dJ6_compare_7cf53_10 : decode cJ6_compare_7cf53 10 = .ok (.iload_n 1, 1) := by decide +kernel
theorem dJ6_compare_7cf53_11 : decode cJ6_compare_7cf53 11 = .ok (.if_icmp .ne 7, 3) := by decide +kernel
theorem dJ6_compare_7cf53_14 : decode cJ6_compare_7cf53 14 = .ok (.iconst 0, 1) := by decide +kernel
theorem dJ6_compare_7cf53_15 : decode cJ6_compare_7cf53 15 = .ok (.goto 4, 3) := by decide +kernel
theorem dJ6_compare_7cf53_18 : decode cJ6_compare_7cf53 18 = .ok (.iconst 1, 1) := by decide +kernel
theorem dJ6_compare_7cf53_19 : decode cJ6_compare_7cf53 19 = .ok (.ireturn, 1) := by decide +kernel
theorem dJ13_bitCount_95d88_0 : decode cJ13_bitCount_95d88 0 = .ok (.lload_n 0, 1) := by decide +kernel
theorem dJ13_bitCount_95d88_1 : decode cJ13_bitCount_95d88 1 = .ok (.lload_n 0, 1) := by decide +kernel
theorem dJ13_bitCount_95d88_2 : decode cJ13_bitCount_95d88 2 = .ok (.iconst 1, 1) := by decide +kernel
theorem dJ13_bitCount_95d88_3 : decode cJ13_bitCount_95d88 3 = .ok (.lushr, 1) := by decide +kernel
theorem dJ13_bitCount_95d88_4 : decode cJ13_bitCount_95d88 4 = .ok (.ldc2_w 314, 3) := by decide +kernel
theorem dJ13_bitCount_95d88_7 : decode cJ13_bitCount_95d88 7 = .ok (.land, 1) := by decide +kernel
theorem dJ13_bitCount_95d88_8 : decode cJ13_bitCount_95d88 8 = .ok (.lsub, 1) := by decide +kernel
theorem dJ13_bitCount_95d88_9 : decode cJ13_bitCount_95d88 9 = .ok (.lstore_n 0, 1) := by decide +kernel
theorem dJ13_bitCount_95d88_10 : decode cJ13_bitCount_95d88 10 = .ok (.lload_n 0, 1) := by decide +kernel
theorem dJ13_bitCount_95d88_11 : decode cJ13_bitCount_95d88 11 = .ok (.ldc2_w 316, 3) := by decide +kernel
theorem dJ13_bitCount_95d88_14 : decode cJ13_bitCount_95d88 14 = .ok (.land, 1) := by decide +kernel
theorem dJ13_bitCount_95d88_15 : decode cJ13_bitCount_95d88 15 = .ok (.lload_n 0, 1) := by decide +kernel
theorem dJ13_bitCount_95d88_16 : decode cJ13_bitCount_95d88 16 = .ok (.iconst 2, 1) := by decide +kernel
theorem dJ13_bitCount_95d88_17 : decode cJ13_bitCount_95d88 17 = .ok (.lushr, 1) := by decide +kernel
theorem dJ13_bitCount_95d88_18 : decode cJ13_bitCount_95d88 18 = .ok (.ldc2_w 316, 3) := by decide +kernel
theorem dJ13_bitCount_95d88_21 : decode cJ13_bitCount_95d88 21 = .ok (.land, 1) := by decide +kernel
theorem dJ13_bitCount_95d88_22 : decode cJ13_bitCount_95d88 22 = .ok (.ladd, 1) := by decide +kernel
theorem dJ13_bitCount_95d88_23 : decode cJ13_bitCount_95d88 23 = .ok (.lstore_n 0, 1) := by decide +kernel
theorem dJ13_bitCount_95d88_24 : decode cJ13_bitCount_95d88 24 = .ok (.lload_n 0, 1) := by decide +kernel
theorem dJ13_bitCount_95d88_25 : decode cJ13_bitCount_95d88 25 = .ok (.lload_n 0, 1) := by decide +kernel
theorem dJ13_bitCount_95d88_26 : decode cJ13_bitCount_95d88 26 = .ok (.iconst 4, 1) := by decide +kernel
theorem dJ13_bitCount_95d88_27 : decode cJ13_bitCount_95d88 27 = .ok (.lushr, 1) := by decide +kernel
theorem dJ13_bitCount_95d88_28 : decode cJ13_bitCount_95d88 28 = .ok (.ladd, 1) := by decide +kernel
theorem dJ13_bitCount_95d88_29 : decode cJ13_bitCount_95d88 29 = .ok (.ldc2_w 318, 3) := by decide +kernel
theorem dJ13_bitCount_95d88_32 : decode cJ13_bitCount_95d88 32 = .ok (.land, 1) := by decide +kernel
theorem dJ13_bitCount_95d88_33 : decode cJ13_bitCount_95d88 33 = .ok (.lstore_n 0, 1) := by decide +kernel
theorem dJ13_bitCount_95d88_34 : decode cJ13_bitCount_95d88 34 = .ok (.lload_n 0, 1) := by decide +kernel
theorem dJ13_bitCount_95d88_35 : decode cJ13_bitCount_95d88 35 = .ok (.lload_n 0, 1) := by decide +kernel
theorem dJ13_bitCount_95d88_36 : decode cJ13_bitCount_95d88 36 = .ok (.bipush 8, 2) := by decide +kernel
theorem dJ13_bitCount_95d88_38 : decode cJ13_bitCount_95d88 38 = .ok (.lushr, 1) := by decide +kernel
theorem dJ13_bitCount_95d88_39 : decode cJ13_bitCount_95d88 39 = .ok (.ladd, 1) := by decide +kernel
theorem dJ13_bitCount_95d88_40 : decode cJ13_bitCount_95d88 40 = .ok (.lstore_n 0, 1) := by decide +kernel
theorem dJ13_bitCount_95d88_41 : decode cJ13_bitCount_95d88 41 = .ok (.lload_n 0, 1) := by decide +kernel
theorem dJ13_bitCount_95d88_42 : decode cJ13_bitCount_95d88 42 = .ok (.lload_n 0, 1) := by decide +kernel
theorem dJ13_bitCount_95d88_43 : decode cJ13_bitCount_95d88 43 = .ok (.bipush 16, 2) := by decide +kernel
theorem dJ13_bitCount_95d88_45 : decode cJ13_bitCount_95d88 45 = .ok (.lushr, 1) := by decide +kernel
theorem dJ13_bitCount_95d88_46 : decode cJ13_bitCount_95d88 46 = .ok (.ladd, 1) := by decide +kernel
theorem dJ13_bitCount_95d88_47 : decode cJ13_bitCount_95d88 47 = .ok (.lstore_n 0, 1) := by decide +kernel
theorem dJ13_bitCount_95d88_48 : decode cJ13_bitCount_95d88 48 = .ok (.lload_n 0, 1) := by decide +kernel
theorem dJ13_bitCount_95d88_49 : decode cJ13_bitCount_95d88 49 = .ok (.lload_n 0, 1) := by decide +kernel
theorem dJ13_bitCount_95d88_50 : decode cJ13_bitCount_95d88 50 = .ok (.bipush 32, 2) := by decide +kernel
theorem dJ13_bitCount_95d88_52 : decode cJ13_bitCount_95d88 52 = .ok (.lushr, 1) := by decide +kernel
theorem dJ13_bitCount_95d88_53 : decode cJ13_bitCount_95d88 53 = .ok (.ladd, 1) := by decide +kernel
theorem dJ13_bitCount_95d88_54 : decode cJ13_bitCount_95d88 54 = .ok (.lstore_n 0, 1) := by decide +kernel
theorem dJ13_bitCount_95d88_55 : decode cJ13_bitCount_95d88 55 = .ok (.lload_n 0, 1) := by decide +kernel
theorem dJ13_bitCount_95d88_56 : decode cJ13_bitCount_95d88 56 = .ok (.l2i, 1) := by decide +kernel
theorem dJ13_bitCount_95d88_57 : decode cJ13_bitCount_95d88 57 = .ok (.bipush 127, 2) := by decide +kernel
theorem dJ13_bitCount_95d88_59 : decode cJ13_bitCount_95d88 59 = .ok (.iand, 1) := by decide +kernel
theorem dJ13_bitCount_95d88_60 : decode cJ13_bitCount_95d88 60 = .ok (.ireturn, 1) := by decide +kernel
theorem dJ9_floorMod_7cf53_0 : decode cJ9_floorMod_7cf53 0 = .ok (.iload_n 0, 1) := by decide +kernel
theorem dJ9_floorMod_7cf53_1 : decode cJ9_floorMod_7cf53 1 = .ok (.iload_n 1, 1) := by decide +kernel
theorem dJ9_floorMod_7cf53_2 : decode cJ9_floorMod_7cf53 2 = .ok (.irem, 1) := by decide +kernel
theorem dJ9_floorMod_7cf53_3 : decode cJ9_floorMod_7cf53 3 = .ok (.istore_n 2, 1) := by decide +kernel
theorem dJ9_floorMod_7cf53_4 : decode cJ9_floorMod_7cf53 4 = .ok (.iload_n 0, 1) := by decide +kernel
theorem dJ9_floorMod_7cf53_5 : decode cJ9_floorMod_7cf53 5 = .ok (.iload_n 1, 1) := by decide +kernel
theorem dJ9_floorMod_7cf53_6 : decode cJ9_floorMod_7cf53 6 = .ok (.ixor, 1) := by decide +kernel
theorem dJ9_floorMod_7cf53_7 : decode cJ9_floorMod_7cf53 7 = .ok (.ifCond .ge 11, 3) := by decide +kernel
theorem dJ9_floorMod_7cf53_10 : decode cJ9_floorMod_7cf53 10 = .ok (.iload_n 2, 1) := by decide +kernel
theorem dJ9_floorMod_7cf53_11 : decode cJ9_floorMod_7cf53 11 = .ok (.ifCond .eq 7, 3) := by decide +kernel
theorem dJ9_floorMod_7cf53_14 : decode cJ9_floorMod_7cf53 14 = .ok (.iload_n 2, 1) := by decide +kernel
theorem dJ9_floorMod_7cf53_15 : decode cJ9_floorMod_7cf53 15 = .ok (.iload_n 1, 1) := by decide +kernel
theorem dJ9_floorMod_7cf53_16 : decode cJ9_floorMod_7cf53 16 = .ok (.iadd, 1) := by decide +kernel
theorem dJ9_floorMod_7cf53_17 : decode cJ9_floorMod_7cf53 17 = .ok (.ireturn, 1) := by decide +kernel
theorem dJ9_floorMod_7cf53_18 : decode cJ9_floorMod_7cf53 18 = .ok (.iload_n 2, 1) := by decide +kernel
theorem dJ9_floorMod_7cf53_19 : decode cJ9_floorMod_7cf53 19 = .ok (.ireturn, 1) := by decide +kernel
theorem dJ9_abs_0f7a4_0 : decode cJ9_abs_0f7a4 0 = .ok (.iload_n 0, 1) := by decide +kernel
theorem dJ9_abs_0f7a4_1 : decode cJ9_abs_0f7a4 1 = .ok (.ifCond .ge 8, 3) := by decide +kernel
theorem dJ9_abs_0f7a4_4 : decode cJ9_abs_0f7a4 4 = .ok (.iload_n 0, 1) := by decide +kernel
theorem dJ9_abs_0f7a4_5 : decode cJ9_abs_0f7a4 5 = .ok (.ineg, 1) := by decide +kernel
theorem dJ9_abs_0f7a4_6 : decode cJ9_abs_0f7a4 6 = .ok (.goto 4, 3) := by decide +kernel
theorem dJ9_abs_0f7a4_9 : decode cJ9_abs_0f7a4 9 = .ok (.iload_n 0, 1) := by decide +kernel
theorem dJ9_abs_0f7a4_10 : decode cJ9_abs_0f7a4 10 = .ok (.ireturn, 1) := by decide +kernel
theorem dJ9_max_7cf53_0 : decode cJ9_max_7cf53 0 = .ok (.iload_n 0, 1) := by decide +kernel
theorem dJ9_max_7cf53_1 : decode cJ9_max_7cf53 1 = .ok (.iload_n 1, 1) := by decide +kernel
theorem dJ9_max_7cf53_2 : decode cJ9_max_7cf53 2 = .ok (.if_icmp .lt 7, 3) := by decide +kernel
theorem dJ9_max_7cf53_5 : decode cJ9_max_7cf53 5 = .ok (.iload_n 0, 1) := by decide +kernel
theorem dJ9_max_7cf53_6 : decode cJ9_max_7cf53 6 = .ok (.goto 4, 3) := by decide +kernel
theorem dJ9_max_7cf53_9 : decode cJ9_max_7cf53 9 = .ok (.iload_n 1, 1) := by decide +kernel
theorem dJ9_max_7cf53_10 : decode cJ9_max_7cf53 10 = .ok (.ireturn, 1) := by decide +kernel
theorem dJ9_min_7cf53_0 : decode cJ9_min_7cf53 0 = .ok (.iload_n 0, 1) := by decide +kernel
theorem dJ9_min_7cf53_1 : decode cJ9_min_7cf53 1 = .ok (.iload_n 1, 1) := by decide +kernel
theorem dJ9_min_7cf53_2 : decode cJ9_min_7cf53 2 = .ok (.if_icmp .gt 7, 3) := by decide +kernel
theorem dJ9_min_7cf53_5 : decode cJ9_min_7cf53 5 = .ok (.iload_n 0, 1) := by decide +kernel
theorem dJ9_min_7cf53_6 : decode cJ9_min_7cf53 6 = .ok (.goto 4, 3) := by decide +kernel
theorem dJ9_min_7cf53_9 : decode cJ9_min_7cf53 9 = .ok (.iload_n 1, 1) := by decide +kernel
theorem dJ9_min_7cf53_10 : decode cJ9_min_7cf53 10 = .ok (.ireturn, 1) := by decide +kernel
theorem dL_law_0 : decode cL_law 0 = .ok (.new 7, 3) := by decide +kernel
theorem dL_law_3 : decode cL_law 3 = .ok (.dup, 1) := by decide +kernel
theorem dL_law_4 : decode cL_law 4 = .ok (.invokespecial 9, 3) := by decide +kernel
theorem dL_law_7 : decode cL_law 7 = .ok (.astore_n 1, 1) := by decide +kernel
theorem dL_law_8 : decode cL_law 8 = .ok (.new 10, 3) := by decide +kernel
theorem dL_law_11 : decode cL_law 11 = .ok (.dup, 1) := by decide +kernel
theorem dL_law_12 : decode cL_law 12 = .ok (.invokespecial 12, 3) := by decide +kernel
theorem dL_law_15 : decode cL_law 15 = .ok (.astore_n 2, 1) := by decide +kernel
theorem dL_law_16 : decode cL_law 16 = .ok (.iconst 0, 1) := by decide +kernel
theorem dL_law_17 : decode cL_law 17 = .ok (.istore_n 3, 1) := by decide +kernel
theorem dL_law_18 : decode cL_law 18 = .ok (.iload_n 3, 1) := by decide +kernel
theorem dL_law_19 : decode cL_law 19 = .ok (.aload_n 0, 1) := by decide +kernel
theorem dL_law_20 : decode cL_law 20 = .ok (.arraylength, 1) := by decide +kernel
theorem dL_law_21 : decode cL_law 21 = .ok (.bipush 7, 2) := by decide +kernel
theorem dL_law_23 : decode cL_law 23 = .ok (.isub, 1) := by decide +kernel
theorem dL_law_24 : decode cL_law 24 = .ok (.if_icmp .gt 1621, 3) := by decide +kernel
theorem dL_law_27 : decode cL_law 27 = .ok (.aload_n 0, 1) := by decide +kernel
theorem dL_law_28 : decode cL_law 28 = .ok (.iload_n 3, 1) := by decide +kernel
theorem dL_law_29 : decode cL_law 29 = .ok (.iaload, 1) := by decide +kernel
theorem dL_law_30 : decode cL_law 30 = .ok (.bipush 63, 2) := by decide +kernel
theorem dL_law_32 : decode cL_law 32 = .ok (.iand, 1) := by decide +kernel
theorem dL_law_33 : decode cL_law 33 = .ok (.tableswitch 1606 0 36 #[163, 196, 239, 272, 305, 338, 381, 414, 477, 490, 503, 526, 549, 582, 635, 688, 711, 754, 797, 830, 863, 906, 939, 972, 1035, 1110, 1153, 1196, 1249, 1292, 1335, 1348, 1361, 1424, 1467, 1490, 1543], 163) := by decide +kernel
theorem dL_law_196 : decode cL_law 196 = .ok (.aload_n 1, 1) := by decide +kernel
theorem dL_law_197 : decode cL_law 197 = .ok (.aload_n 0, 1) := by decide +kernel
theorem dL_law_198 : decode cL_law 198 = .ok (.iload_n 3, 1) := by decide +kernel
theorem dL_law_199 : decode cL_law 199 = .ok (.iconst 1, 1) := by decide +kernel
theorem dL_law_200 : decode cL_law 200 = .ok (.iadd, 1) := by decide +kernel
theorem dL_law_201 : decode cL_law 201 = .ok (.iaload, 1) := by decide +kernel
theorem dL_law_202 : decode cL_law 202 = .ok (.aload_n 0, 1) := by decide +kernel
theorem dL_law_203 : decode cL_law 203 = .ok (.iload_n 3, 1) := by decide +kernel
theorem dL_law_204 : decode cL_law 204 = .ok (.iconst 2, 1) := by decide +kernel
theorem dL_law_205 : decode cL_law 205 = .ok (.iadd, 1) := by decide +kernel
theorem dL_law_206 : decode cL_law 206 = .ok (.iaload, 1) := by decide +kernel
theorem dL_law_207 : decode cL_law 207 = .ok (.invokevirtual 13, 3) := by decide +kernel
theorem dL_law_210 : decode cL_law 210 = .ok (.aload_n 2, 1) := by decide +kernel
theorem dL_law_211 : decode cL_law 211 = .ok (.aload_n 0, 1) := by decide +kernel
theorem dL_law_212 : decode cL_law 212 = .ok (.iload_n 3, 1) := by decide +kernel
theorem dL_law_213 : decode cL_law 213 = .ok (.iconst 1, 1) := by decide +kernel
theorem dL_law_214 : decode cL_law 214 = .ok (.iadd, 1) := by decide +kernel
theorem dL_law_215 : decode cL_law 215 = .ok (.iaload, 1) := by decide +kernel
theorem dL_law_216 : decode cL_law 216 = .ok (.aload_n 0, 1) := by decide +kernel
theorem dL_law_217 : decode cL_law 217 = .ok (.iload_n 3, 1) := by decide +kernel
theorem dL_law_218 : decode cL_law 218 = .ok (.iconst 2, 1) := by decide +kernel
theorem dL_law_219 : decode cL_law 219 = .ok (.iadd, 1) := by decide +kernel
theorem dL_law_220 : decode cL_law 220 = .ok (.iaload, 1) := by decide +kernel
theorem dL_law_221 : decode cL_law 221 = .ok (.invokevirtual 17, 3) := by decide +kernel
theorem dL_law_224 : decode cL_law 224 = .ok (.if_icmp .eq 1415, 3) := by decide +kernel
theorem dL_law_227 : decode cL_law 227 = .ok (.iconst 0, 1) := by decide +kernel
theorem dL_law_228 : decode cL_law 228 = .ok (.ireturn, 1) := by decide +kernel
theorem dL_law_229 : decode cL_law 229 = .ok (.aload_n 1, 1) := by decide +kernel
theorem dL_law_230 : decode cL_law 230 = .ok (.aload_n 0, 1) := by decide +kernel
theorem dL_law_231 : decode cL_law 231 = .ok (.iload_n 3, 1) := by decide +kernel
theorem dL_law_232 : decode cL_law 232 = .ok (.iconst 1, 1) := by decide +kernel
theorem dL_law_233 : decode cL_law 233 = .ok (.iadd, 1) := by decide +kernel
theorem dL_law_234 : decode cL_law 234 = .ok (.iaload, 1) := by decide +kernel
theorem dL_law_235 : decode cL_law 235 = .ok (.aload_n 0, 1) := by decide +kernel
theorem dL_law_236 : decode cL_law 236 = .ok (.iload_n 3, 1) := by decide +kernel
theorem dL_law_237 : decode cL_law 237 = .ok (.iconst 2, 1) := by decide +kernel
theorem dL_law_238 : decode cL_law 238 = .ok (.iadd, 1) := by decide +kernel
theorem dL_law_239 : decode cL_law 239 = .ok (.iaload, 1) := by decide +kernel
theorem dL_law_240 : decode cL_law 240 = .ok (.aload_n 0, 1) := by decide +kernel
theorem dL_law_241 : decode cL_law 241 = .ok (.iload_n 3, 1) := by decide +kernel
theorem dL_law_242 : decode cL_law 242 = .ok (.iconst 3, 1) := by decide +kernel
theorem dL_law_243 : decode cL_law 243 = .ok (.iadd, 1) := by decide +kernel
theorem dL_law_244 : decode cL_law 244 = .ok (.iaload, 1) := by decide +kernel
theorem dL_law_245 : decode cL_law 245 = .ok (.invokevirtual 18, 3) := by decide +kernel
theorem dL_law_248 : decode cL_law 248 = .ok (.aload_n 2, 1) := by decide +kernel
theorem dL_law_249 : decode cL_law 249 = .ok (.aload_n 0, 1) := by decide +kernel
theorem dL_law_250 : decode cL_law 250 = .ok (.iload_n 3, 1) := by decide +kernel
theorem dL_law_251 : decode cL_law 251 = .ok (.iconst 1, 1) := by decide +kernel
theorem dL_law_252 : decode cL_law 252 = .ok (.iadd, 1) := by decide +kernel
theorem dL_law_253 : decode cL_law 253 = .ok (.iaload, 1) := by decide +kernel
theorem dL_law_254 : decode cL_law 254 = .ok (.aload_n 0, 1) := by decide +kernel
theorem dL_law_255 : decode cL_law 255 = .ok (.iload_n 3, 1) := by decide +kernel
theorem dL_law_256 : decode cL_law 256 = .ok (.iconst 2, 1) := by decide +kernel
theorem dL_law_257 : decode cL_law 257 = .ok (.iadd, 1) := by decide +kernel
theorem dL_law_258 : decode cL_law 258 = .ok (.iaload, 1) := by decide +kernel
theorem dL_law_259 : decode cL_law 259 = .ok (.aload_n 0, 1) := by decide +kernel
theorem dL_law_260 : decode cL_law 260 = .ok (.iload_n 3, 1) := by decide +kernel
theorem dL_law_261 : decode cL_law 261 = .ok (.iconst 3, 1) := by decide +kernel
theorem dL_law_262 : decode cL_law 262 = .ok (.iadd, 1) := by decide +kernel
theorem dL_law_263 : decode cL_law 263 = .ok (.iaload, 1) := by decide +kernel
theorem dL_law_264 : decode cL_law 264 = .ok (.invokevirtual 22, 3) := by decide +kernel
theorem dL_law_267 : decode cL_law 267 = .ok (.if_icmp .eq 1372, 3) := by decide +kernel
theorem dL_law_270 : decode cL_law 270 = .ok (.iconst 0, 1) := by decide +kernel
theorem dL_law_271 : decode cL_law 271 = .ok (.ireturn, 1) := by decide +kernel
theorem dL_law_272 : decode cL_law 272 = .ok (.aload_n 1, 1) := by decide +kernel
theorem dL_law_273 : decode cL_law 273 = .ok (.aload_n 0, 1) := by decide +kernel
theorem dL_law_274 : decode cL_law 274 = .ok (.iload_n 3, 1) := by decide +kernel
theorem dL_law_275 : decode cL_law 275 = .ok (.iconst 1, 1) := by decide +kernel
theorem dL_law_276 : decode cL_law 276 = .ok (.iadd, 1) := by decide +kernel
theorem dL_law_277 : decode cL_law 277 = .ok (.iaload, 1) := by decide +kernel
theorem dL_law_278 : decode cL_law 278 = .ok (.aload_n 0, 1) := by decide +kernel
theorem dL_law_279 : decode cL_law 279 = .ok (.iload_n 3, 1) := by decide +kernel
theorem dL_law_280 : decode cL_law 280 = .ok (.iconst 2, 1) := by decide +kernel
theorem dL_law_281 : decode cL_law 281 = .ok (.iadd, 1) := by decide +kernel
theorem dL_law_282 : decode cL_law 282 = .ok (.iaload, 1) := by decide +kernel
theorem dL_law_283 : decode cL_law 283 = .ok (.invokevirtual 23, 3) := by decide +kernel
theorem dL_law_286 : decode cL_law 286 = .ok (.aload_n 2, 1) := by decide +kernel
theorem dL_law_287 : decode cL_law 287 = .ok (.aload_n 0, 1) := by decide +kernel
theorem dL_law_288 : decode cL_law 288 = .ok (.iload_n 3, 1) := by decide +kernel
theorem dL_law_289 : decode cL_law 289 = .ok (.iconst 1, 1) := by decide +kernel
theorem dL_law_290 : decode cL_law 290 = .ok (.iadd, 1) := by decide +kernel
theorem dL_law_291 : decode cL_law 291 = .ok (.iaload, 1) := by decide +kernel
theorem dL_law_292 : decode cL_law 292 = .ok (.aload_n 0, 1) := by decide +kernel
theorem dL_law_293 : decode cL_law 293 = .ok (.iload_n 3, 1) := by decide +kernel
theorem dL_law_294 : decode cL_law 294 = .ok (.iconst 2, 1) := by decide +kernel
theorem dL_law_295 : decode cL_law 295 = .ok (.iadd, 1) := by decide +kernel
theorem dL_law_296 : decode cL_law 296 = .ok (.iaload, 1) := by decide +kernel
theorem dL_law_297 : decode cL_law 297 = .ok (.invokevirtual 26, 3) := by decide +kernel
theorem dL_law_300 : decode cL_law 300 = .ok (.if_icmp .eq 1339, 3) := by decide +kernel
theorem dL_law_303 : decode cL_law 303 = .ok (.iconst 0, 1) := by decide +kernel
theorem dL_law_304 : decode cL_law 304 = .ok (.ireturn, 1) := by decide +kernel
theorem dL_law_305 : decode cL_law 305 = .ok (.aload_n 1, 1) := by decide +kernel
theorem dL_law_306 : decode cL_law 306 = .ok (.aload_n 0, 1) := by decide +kernel
theorem dL_law_307 : decode cL_law 307 = .ok (.iload_n 3, 1) := by decide +kernel
theorem dL_law_308 : decode cL_law 308 = .ok (.iconst 1, 1) := by decide +kernel
theorem dL_law_309 : decode cL_law 309 = .ok (.iadd, 1) := by decide +kernel
theorem dL_law_310 : decode cL_law 310 = .ok (.iaload, 1) := by decide +kernel
theorem dL_law_311 : decode cL_law 311 = .ok (.aload_n 0, 1) := by decide +kernel
theorem dL_law_312 : decode cL_law 312 = .ok (.iload_n 3, 1) := by decide +kernel
theorem dL_law_313 : decode cL_law 313 = .ok (.iconst 2, 1) := by decide +kernel
theorem dL_law_314 : decode cL_law 314 = .ok (.iadd, 1) := by decide +kernel
theorem dL_law_315 : decode cL_law 315 = .ok (.iaload, 1) := by decide +kernel
theorem dL_law_316 : decode cL_law 316 = .ok (.invokevirtual 27, 3) := by decide +kernel
theorem dL_law_319 : decode cL_law 319 = .ok (.aload_n 2, 1) := by decide +kernel
theorem dL_law_320 : decode cL_law 320 = .ok (.aload_n 0, 1) := by decide +kernel
theorem dL_law_321 : decode cL_law 321 = .ok (.iload_n 3, 1) := by decide +kernel
theorem dL_law_322 : decode cL_law 322 = .ok (.iconst 1, 1) := by decide +kernel
theorem dL_law_323 : decode cL_law 323 = .ok (.iadd, 1) := by decide +kernel
theorem dL_law_324 : decode cL_law 324 = .ok (.iaload, 1) := by decide +kernel
theorem dL_law_325 : decode cL_law 325 = .ok (.aload_n 0, 1) := by decide +kernel
theorem dL_law_326 : decode cL_law 326 = .ok (.iload_n 3, 1) := by decide +kernel
theorem dL_law_327 : decode cL_law 327 = .ok (.iconst 2, 1) := by decide +kernel
theorem dL_law_328 : decode cL_law 328 = .ok (.iadd, 1) := by decide +kernel
theorem dL_law_329 : decode cL_law 329 = .ok (.iaload, 1) := by decide +kernel
theorem dL_law_330 : decode cL_law 330 = .ok (.invokevirtual 30, 3) := by decide +kernel
theorem dL_law_333 : decode cL_law 333 = .ok (.if_icmp .eq 1306, 3) := by decide +kernel
theorem dL_law_336 : decode cL_law 336 = .ok (.iconst 0, 1) := by decide +kernel
theorem dL_law_337 : decode cL_law 337 = .ok (.ireturn, 1) := by decide +kernel
theorem dL_law_338 : decode cL_law 338 = .ok (.aload_n 1, 1) := by decide +kernel
theorem dL_law_339 : decode cL_law 339 = .ok (.aload_n 0, 1) := by decide +kernel
theorem dL_law_340 : decode cL_law 340 = .ok (.iload_n 3, 1) := by decide +kernel
theorem dL_law_341 : decode cL_law 341 = .ok (.iconst 1, 1) := by decide +kernel
theorem dL_law_342 : decode cL_law 342 = .ok (.iadd, 1) := by decide +kernel
theorem dL_law_343 : decode cL_law 343 = .ok (.iaload, 1) := by decide +kernel
theorem dL_law_344 : decode cL_law 344 = .ok (.aload_n 0, 1) := by decide +kernel
theorem dL_law_345 : decode cL_law 345 = .ok (.iload_n 3, 1) := by decide +kernel
theorem dL_law_346 : decode cL_law 346 = .ok (.iconst 2, 1) := by decide +kernel
theorem dL_law_347 : decode cL_law 347 = .ok (.iadd, 1) := by decide +kernel
theorem dL_law_348 : decode cL_law 348 = .ok (.iaload, 1) := by decide +kernel
theorem dL_law_349 : decode cL_law 349 = .ok (.invokevirtual 31, 3) := by decide +kernel
theorem dL_law_352 : decode cL_law 352 = .ok (.aload_n 2, 1) := by decide +kernel
theorem dL_law_353 : decode cL_law 353 = .ok (.aload_n 0, 1) := by decide +kernel
theorem dL_law_354 : decode cL_law 354 = .ok (.iload_n 3, 1) := by decide +kernel
theorem dL_law_355 : decode cL_law 355 = .ok (.iconst 1, 1) := by decide +kernel
theorem dL_law_356 : decode cL_law 356 = .ok (.iadd, 1) := by decide +kernel
theorem dL_law_357 : decode cL_law 357 = .ok (.iaload, 1) := by decide +kernel
theorem dL_law_358 : decode cL_law 358 = .ok (.aload_n 0, 1) := by decide +kernel
theorem dL_law_359 : decode cL_law 359 = .ok (.iload_n 3, 1) := by decide +kernel
theorem dL_law_360 : decode cL_law 360 = .ok (.iconst 2, 1) := by decide +kernel
theorem dL_law_361 : decode cL_law 361 = .ok (.iadd, 1) := by decide +kernel
theorem dL_law_362 : decode cL_law 362 = .ok (.iaload, 1) := by decide +kernel
theorem dL_law_363 : decode cL_law 363 = .ok (.invokevirtual 34, 3) := by decide +kernel
theorem dL_law_366 : decode cL_law 366 = .ok (.if_icmp .eq 1273, 3) := by decide +kernel
theorem dL_law_369 : decode cL_law 369 = .ok (.iconst 0, 1) := by decide +kernel
theorem dL_law_370 : decode cL_law 370 = .ok (.ireturn, 1) := by decide +kernel
theorem dL_law_371 : decode cL_law 371 = .ok (.aload_n 1, 1) := by decide +kernel
theorem dL_law_372 : decode cL_law 372 = .ok (.aload_n 0, 1) := by decide +kernel
theorem dL_law_373 : decode cL_law 373 = .ok (.iload_n 3, 1) := by decide +kernel
theorem dL_law_374 : decode cL_law 374 = .ok (.iconst 1, 1) := by decide +kernel
theorem dL_law_375 : decode cL_law 375 = .ok (.iadd, 1) := by decide +kernel
theorem dL_law_376 : decode cL_law 376 = .ok (.iaload, 1) := by decide +kernel
theorem dL_law_377 : decode cL_law 377 = .ok (.aload_n 0, 1) := by decide +kernel
theorem dL_law_378 : decode cL_law 378 = .ok (.iload_n 3, 1) := by decide +kernel
theorem dL_law_379 : decode cL_law 379 = .ok (.iconst 2, 1) := by decide +kernel
theorem dL_law_380 : decode cL_law 380 = .ok (.iadd, 1) := by decide +kernel
theorem dL_law_381 : decode cL_law 381 = .ok (.iaload, 1) := by decide +kernel
theorem dL_law_382 : decode cL_law 382 = .ok (.aload_n 0, 1) := by decide +kernel
theorem dL_law_383 : decode cL_law 383 = .ok (.iload_n 3, 1) := by decide +kernel
theorem dL_law_384 : decode cL_law 384 = .ok (.iconst 3, 1) := by decide +kernel
theorem dL_law_385 : decode cL_law 385 = .ok (.iadd, 1) := by decide +kernel
theorem dL_law_386 : decode cL_law 386 = .ok (.iaload, 1) := by decide +kernel
theorem dL_law_387 : decode cL_law 387 = .ok (.invokevirtual 35, 3) := by decide +kernel
theorem dL_law_390 : decode cL_law 390 = .ok (.aload_n 2, 1) := by decide +kernel
theorem dL_law_391 : decode cL_law 391 = .ok (.aload_n 0, 1) := by decide +kernel
theorem dL_law_392 : decode cL_law 392 = .ok (.iload_n 3, 1) := by decide +kernel
theorem dL_law_393 : decode cL_law 393 = .ok (.iconst 1, 1) := by decide +kernel
theorem dL_law_394 : decode cL_law 394 = .ok (.iadd, 1) := by decide +kernel
theorem dL_law_395 : decode cL_law 395 = .ok (.iaload, 1) := by decide +kernel
theorem dL_law_396 : decode cL_law 396 = .ok (.aload_n 0, 1) := by decide +kernel
theorem dL_law_397 : decode cL_law 397 = .ok (.iload_n 3, 1) := by decide +kernel
theorem dL_law_398 : decode cL_law 398 = .ok (.iconst 2, 1) := by decide +kernel
theorem dL_law_399 : decode cL_law 399 = .ok (.iadd, 1) := by decide +kernel
theorem dL_law_400 : decode cL_law 400 = .ok (.iaload, 1) := by decide +kernel
theorem dL_law_401 : decode cL_law 401 = .ok (.aload_n 0, 1) := by decide +kernel
theorem dL_law_402 : decode cL_law 402 = .ok (.iload_n 3, 1) := by decide +kernel
theorem dL_law_403 : decode cL_law 403 = .ok (.iconst 3, 1) := by decide +kernel
theorem dL_law_404 : decode cL_law 404 = .ok (.iadd, 1) := by decide +kernel
theorem dL_law_405 : decode cL_law 405 = .ok (.iaload, 1) := by decide +kernel
theorem dL_law_406 : decode cL_law 406 = .ok (.invokevirtual 38, 3) := by decide +kernel
theorem dL_law_409 : decode cL_law 409 = .ok (.if_icmp .eq 1230, 3) := by decide +kernel
theorem dL_law_412 : decode cL_law 412 = .ok (.iconst 0, 1) := by decide +kernel
theorem dL_law_413 : decode cL_law 413 = .ok (.ireturn, 1) := by decide +kernel
theorem dL_law_414 : decode cL_law 414 = .ok (.aload_n 1, 1) := by decide +kernel
theorem dL_law_415 : decode cL_law 415 = .ok (.aload_n 0, 1) := by decide +kernel
theorem dL_law_416 : decode cL_law 416 = .ok (.iload_n 3, 1) := by decide +kernel
theorem dL_law_417 : decode cL_law 417 = .ok (.iconst 1, 1) := by decide +kernel
theorem dL_law_418 : decode cL_law 418 = .ok (.iadd, 1) := by decide +kernel
theorem dL_law_419 : decode cL_law 419 = .ok (.iaload, 1) := by decide +kernel
theorem dL_law_420 : decode cL_law 420 = .ok (.aload_n 0, 1) := by decide +kernel
theorem dL_law_421 : decode cL_law 421 = .ok (.iload_n 3, 1) := by decide +kernel
theorem dL_law_422 : decode cL_law 422 = .ok (.iconst 2, 1) := by decide +kernel
theorem dL_law_423 : decode cL_law 423 = .ok (.iadd, 1) := by decide +kernel
theorem dL_law_424 : decode cL_law 424 = .ok (.iaload, 1) := by decide +kernel
theorem dL_law_425 : decode cL_law 425 = .ok (.invokevirtual 39, 3) := by decide +kernel
theorem dL_law_428 : decode cL_law 428 = .ok (.aload_n 2, 1) := by decide +kernel
theorem dL_law_429 : decode cL_law 429 = .ok (.aload_n 0, 1) := by decide +kernel
theorem dL_law_430 : decode cL_law 430 = .ok (.iload_n 3, 1) := by decide +kernel
theorem dL_law_431 : decode cL_law 431 = .ok (.iconst 1, 1) := by decide +kernel
theorem dL_law_432 : decode cL_law 432 = .ok (.iadd, 1) := by decide +kernel
theorem dL_law_433 : decode cL_law 433 = .ok (.iaload, 1) := by decide +kernel
theorem dL_law_434 : decode cL_law 434 = .ok (.aload_n 0, 1) := by decide +kernel
theorem dL_law_435 : decode cL_law 435 = .ok (.iload_n 3, 1) := by decide +kernel
theorem dL_law_436 : decode cL_law 436 = .ok (.iconst 2, 1) := by decide +kernel
theorem dL_law_437 : decode cL_law 437 = .ok (.iadd, 1) := by decide +kernel
theorem dL_law_438 : decode cL_law 438 = .ok (.iaload, 1) := by decide +kernel
theorem dL_law_439 : decode cL_law 439 = .ok (.invokevirtual 42, 3) := by decide +kernel
theorem dL_law_442 : decode cL_law 442 = .ok (.if_icmp .eq 1197, 3) := by decide +kernel
theorem dL_law_445 : decode cL_law 445 = .ok (.iconst 0, 1) := by decide +kernel
theorem dL_law_446 : decode cL_law 446 = .ok (.ireturn, 1) := by decide +kernel
theorem dL_law_447 : decode cL_law 447 = .ok (.aload_n 1, 1) := by decide +kernel
theorem dL_law_448 : decode cL_law 448 = .ok (.aload_n 0, 1) := by decide +kernel
theorem dL_law_449 : decode cL_law 449 = .ok (.iload_n 3, 1) := by decide +kernel
theorem dL_law_450 : decode cL_law 450 = .ok (.iconst 1, 1) := by decide +kernel
theorem dL_law_451 : decode cL_law 451 = .ok (.iadd, 1) := by decide +kernel
theorem dL_law_452 : decode cL_law 452 = .ok (.iaload, 1) := by decide +kernel
theorem dL_law_453 : decode cL_law 453 = .ok (.i2l, 1) := by decide +kernel
theorem dL_law_454 : decode cL_law 454 = .ok (.bipush 32, 2) := by decide +kernel
theorem dL_law_456 : decode cL_law 456 = .ok (.lshl, 1) := by decide +kernel
theorem dL_law_457 : decode cL_law 457 = .ok (.aload_n 0, 1) := by decide +kernel
theorem dL_law_458 : decode cL_law 458 = .ok (.iload_n 3, 1) := by decide +kernel
theorem dL_law_459 : decode cL_law 459 = .ok (.iconst 2, 1) := by decide +kernel
theorem dL_law_460 : decode cL_law 460 = .ok (.iadd, 1) := by decide +kernel
theorem dL_law_461 : decode cL_law 461 = .ok (.iaload, 1) := by decide +kernel
theorem dL_law_462 : decode cL_law 462 = .ok (.i2l, 1) := by decide +kernel
theorem dL_law_463 : decode cL_law 463 = .ok (.ldc2_w 43, 3) := by decide +kernel
theorem dL_law_466 : decode cL_law 466 = .ok (.land, 1) := by decide +kernel
theorem dL_law_467 : decode cL_law 467 = .ok (.lor, 1) := by decide +kernel
theorem dL_law_468 : decode cL_law 468 = .ok (.aload_n 0, 1) := by decide +kernel
theorem dL_law_469 : decode cL_law 469 = .ok (.iload_n 3, 1) := by decide +kernel
theorem dL_law_470 : decode cL_law 470 = .ok (.iconst 3, 1) := by decide +kernel
theorem dL_law_471 : decode cL_law 471 = .ok (.iadd, 1) := by decide +kernel
theorem dL_law_472 : decode cL_law 472 = .ok (.iaload, 1) := by decide +kernel
theorem dL_law_473 : decode cL_law 473 = .ok (.invokevirtual 45, 3) := by decide +kernel
theorem dL_law_476 : decode cL_law 476 = .ok (.aload_n 2, 1) := by decide +kernel
theorem dL_law_477 : decode cL_law 477 = .ok (.aload_n 0, 1) := by decide +kernel
theorem dL_law_478 : decode cL_law 478 = .ok (.iload_n 3, 1) := by decide +kernel
theorem dL_law_479 : decode cL_law 479 = .ok (.iconst 1, 1) := by decide +kernel
theorem dL_law_480 : decode cL_law 480 = .ok (.iadd, 1) := by decide +kernel
theorem dL_law_481 : decode cL_law 481 = .ok (.iaload, 1) := by decide +kernel
theorem dL_law_482 : decode cL_law 482 = .ok (.i2l, 1) := by decide +kernel
theorem dL_law_483 : decode cL_law 483 = .ok (.bipush 32, 2) := by decide +kernel
theorem dL_law_485 : decode cL_law 485 = .ok (.lshl, 1) := by decide +kernel
theorem dL_law_486 : decode cL_law 486 = .ok (.aload_n 0, 1) := by decide +kernel
theorem dL_law_487 : decode cL_law 487 = .ok (.iload_n 3, 1) := by decide +kernel
theorem dL_law_488 : decode cL_law 488 = .ok (.iconst 2, 1) := by decide +kernel
theorem dL_law_489 : decode cL_law 489 = .ok (.iadd, 1) := by decide +kernel
theorem dL_law_490 : decode cL_law 490 = .ok (.iaload, 1) := by decide +kernel
theorem dL_law_491 : decode cL_law 491 = .ok (.i2l, 1) := by decide +kernel
theorem dL_law_492 : decode cL_law 492 = .ok (.ldc2_w 43, 3) := by decide +kernel
theorem dL_law_495 : decode cL_law 495 = .ok (.land, 1) := by decide +kernel
theorem dL_law_496 : decode cL_law 496 = .ok (.lor, 1) := by decide +kernel
theorem dL_law_497 : decode cL_law 497 = .ok (.aload_n 0, 1) := by decide +kernel
theorem dL_law_498 : decode cL_law 498 = .ok (.iload_n 3, 1) := by decide +kernel
theorem dL_law_499 : decode cL_law 499 = .ok (.iconst 3, 1) := by decide +kernel
theorem dL_law_500 : decode cL_law 500 = .ok (.iadd, 1) := by decide +kernel
theorem dL_law_501 : decode cL_law 501 = .ok (.iaload, 1) := by decide +kernel
theorem dL_law_502 : decode cL_law 502 = .ok (.invokevirtual 49, 3) := by decide +kernel
theorem dL_law_505 : decode cL_law 505 = .ok (.if_icmp .eq 1134, 3) := by decide +kernel
theorem dL_law_508 : decode cL_law 508 = .ok (.iconst 0, 1) := by decide +kernel
theorem dL_law_509 : decode cL_law 509 = .ok (.ireturn, 1) := by decide +kernel
theorem dL_law_510 : decode cL_law 510 = .ok (.aload_n 1, 1) := by decide +kernel
theorem dL_law_511 : decode cL_law 511 = .ok (.invokevirtual 50, 3) := by decide +kernel
theorem dL_law_514 : decode cL_law 514 = .ok (.aload_n 2, 1) := by decide +kernel
theorem dL_law_515 : decode cL_law 515 = .ok (.invokevirtual 54, 3) := by decide +kernel
theorem dL_law_518 : decode cL_law 518 = .ok (.if_icmp .eq 1121, 3) := by decide +kernel
theorem dL_law_521 : decode cL_law 521 = .ok (.iconst 0, 1) := by decide +kernel
theorem dL_law_522 : decode cL_law 522 = .ok (.ireturn, 1) := by decide +kernel
theorem dL_law_523 : decode cL_law 523 = .ok (.aload_n 1, 1) := by decide +kernel
theorem dL_law_524 : decode cL_law 524 = .ok (.invokevirtual 55, 3) := by decide +kernel
theorem dL_law_527 : decode cL_law 527 = .ok (.aload_n 2, 1) := by decide +kernel
theorem dL_law_528 : decode cL_law 528 = .ok (.invokevirtual 58, 3) := by decide +kernel
theorem dL_law_531 : decode cL_law 531 = .ok (.if_icmp .eq 1108, 3) := by decide +kernel
theorem dL_law_534 : decode cL_law 534 = .ok (.iconst 0, 1) := by decide +kernel
theorem dL_law_535 : decode cL_law 535 = .ok (.ireturn, 1) := by decide +kernel
theorem dL_law_536 : decode cL_law 536 = .ok (.aload_n 1, 1) := by decide +kernel
theorem dL_law_537 : decode cL_law 537 = .ok (.aload_n 0, 1) := by decide +kernel
theorem dL_law_538 : decode cL_law 538 = .ok (.iload_n 3, 1) := by decide +kernel
theorem dL_law_539 : decode cL_law 539 = .ok (.iconst 1, 1) := by decide +kernel
theorem dL_law_540 : decode cL_law 540 = .ok (.iadd, 1) := by decide +kernel
theorem dL_law_541 : decode cL_law 541 = .ok (.iaload, 1) := by decide +kernel
theorem dL_law_542 : decode cL_law 542 = .ok (.invokevirtual 59, 3) := by decide +kernel
theorem dL_law_545 : decode cL_law 545 = .ok (.aload_n 2, 1) := by decide +kernel
theorem dL_law_546 : decode cL_law 546 = .ok (.aload_n 0, 1) := by decide +kernel
theorem dL_law_547 : decode cL_law 547 = .ok (.iload_n 3, 1) := by decide +kernel
theorem dL_law_548 : decode cL_law 548 = .ok (.iconst 1, 1) := by decide +kernel
theorem dL_law_549 : decode cL_law 549 = .ok (.iadd, 1) := by decide +kernel
theorem dL_law_550 : decode cL_law 550 = .ok (.iaload, 1) := by decide +kernel
theorem dL_law_551 : decode cL_law 551 = .ok (.invokevirtual 63, 3) := by decide +kernel
theorem dL_law_554 : decode cL_law 554 = .ok (.if_icmp .eq 1085, 3) := by decide +kernel
theorem dL_law_557 : decode cL_law 557 = .ok (.iconst 0, 1) := by decide +kernel
theorem dL_law_558 : decode cL_law 558 = .ok (.ireturn, 1) := by decide +kernel
theorem dL_law_559 : decode cL_law 559 = .ok (.aload_n 1, 1) := by decide +kernel
theorem dL_law_560 : decode cL_law 560 = .ok (.aload_n 0, 1) := by decide +kernel
theorem dL_law_561 : decode cL_law 561 = .ok (.iload_n 3, 1) := by decide +kernel
theorem dL_law_562 : decode cL_law 562 = .ok (.iconst 1, 1) := by decide +kernel
theorem dL_law_563 : decode cL_law 563 = .ok (.iadd, 1) := by decide +kernel
theorem dL_law_564 : decode cL_law 564 = .ok (.iaload, 1) := by decide +kernel
theorem dL_law_565 : decode cL_law 565 = .ok (.invokevirtual 64, 3) := by decide +kernel
theorem dL_law_568 : decode cL_law 568 = .ok (.aload_n 2, 1) := by decide +kernel
theorem dL_law_569 : decode cL_law 569 = .ok (.aload_n 0, 1) := by decide +kernel
theorem dL_law_570 : decode cL_law 570 = .ok (.iload_n 3, 1) := by decide +kernel
theorem dL_law_571 : decode cL_law 571 = .ok (.iconst 1, 1) := by decide +kernel
theorem dL_law_572 : decode cL_law 572 = .ok (.iadd, 1) := by decide +kernel
theorem dL_law_573 : decode cL_law 573 = .ok (.iaload, 1) := by decide +kernel
theorem dL_law_574 : decode cL_law 574 = .ok (.invokevirtual 67, 3) := by decide +kernel
theorem dL_law_577 : decode cL_law 577 = .ok (.if_icmp .eq 1062, 3) := by decide +kernel
theorem dL_law_580 : decode cL_law 580 = .ok (.iconst 0, 1) := by decide +kernel
theorem dL_law_581 : decode cL_law 581 = .ok (.ireturn, 1) := by decide +kernel
theorem dL_law_582 : decode cL_law 582 = .ok (.aload_n 1, 1) := by decide +kernel
theorem dL_law_583 : decode cL_law 583 = .ok (.aload_n 0, 1) := by decide +kernel
theorem dL_law_584 : decode cL_law 584 = .ok (.iload_n 3, 1) := by decide +kernel
theorem dL_law_585 : decode cL_law 585 = .ok (.iconst 1, 1) := by decide +kernel
theorem dL_law_586 : decode cL_law 586 = .ok (.iadd, 1) := by decide +kernel
theorem dL_law_587 : decode cL_law 587 = .ok (.iaload, 1) := by decide +kernel
theorem dL_law_588 : decode cL_law 588 = .ok (.aload_n 0, 1) := by decide +kernel
theorem dL_law_589 : decode cL_law 589 = .ok (.iload_n 3, 1) := by decide +kernel
theorem dL_law_590 : decode cL_law 590 = .ok (.iconst 2, 1) := by decide +kernel
theorem dL_law_591 : decode cL_law 591 = .ok (.iadd, 1) := by decide +kernel
theorem dL_law_592 : decode cL_law 592 = .ok (.iaload, 1) := by decide +kernel
theorem dL_law_593 : decode cL_law 593 = .ok (.invokevirtual 68, 3) := by decide +kernel
theorem dL_law_596 : decode cL_law 596 = .ok (.aload_n 2, 1) := by decide +kernel
theorem dL_law_597 : decode cL_law 597 = .ok (.aload_n 0, 1) := by decide +kernel
theorem dL_law_598 : decode cL_law 598 = .ok (.iload_n 3, 1) := by decide +kernel
theorem dL_law_599 : decode cL_law 599 = .ok (.iconst 1, 1) := by decide +kernel
theorem dL_law_600 : decode cL_law 600 = .ok (.iadd, 1) := by decide +kernel
theorem dL_law_601 : decode cL_law 601 = .ok (.iaload, 1) := by decide +kernel
theorem dL_law_602 : decode cL_law 602 = .ok (.aload_n 0, 1) := by decide +kernel
theorem dL_law_603 : decode cL_law 603 = .ok (.iload_n 3, 1) := by decide +kernel
theorem dL_law_604 : decode cL_law 604 = .ok (.iconst 2, 1) := by decide +kernel
theorem dL_law_605 : decode cL_law 605 = .ok (.iadd, 1) := by decide +kernel
theorem dL_law_606 : decode cL_law 606 = .ok (.iaload, 1) := by decide +kernel
theorem dL_law_607 : decode cL_law 607 = .ok (.invokevirtual 71, 3) := by decide +kernel
theorem dL_law_610 : decode cL_law 610 = .ok (.if_icmp .eq 1029, 3) := by decide +kernel
theorem dL_law_613 : decode cL_law 613 = .ok (.iconst 0, 1) := by decide +kernel
theorem dL_law_614 : decode cL_law 614 = .ok (.ireturn, 1) := by decide +kernel
theorem dL_law_615 : decode cL_law 615 = .ok (.aload_n 1, 1) := by decide +kernel
theorem dL_law_616 : decode cL_law 616 = .ok (.aload_n 0, 1) := by decide +kernel
theorem dL_law_617 : decode cL_law 617 = .ok (.iload_n 3, 1) := by decide +kernel
theorem dL_law_618 : decode cL_law 618 = .ok (.iconst 1, 1) := by decide +kernel
theorem dL_law_619 : decode cL_law 619 = .ok (.iadd, 1) := by decide +kernel
theorem dL_law_620 : decode cL_law 620 = .ok (.iaload, 1) := by decide +kernel
theorem dL_law_621 : decode cL_law 621 = .ok (.aload_n 0, 1) := by decide +kernel
theorem dL_law_622 : decode cL_law 622 = .ok (.iload_n 3, 1) := by decide +kernel
theorem dL_law_623 : decode cL_law 623 = .ok (.iconst 2, 1) := by decide +kernel
theorem dL_law_624 : decode cL_law 624 = .ok (.iadd, 1) := by decide +kernel
theorem dL_law_625 : decode cL_law 625 = .ok (.iaload, 1) := by decide +kernel
theorem dL_law_626 : decode cL_law 626 = .ok (.aload_n 0, 1) := by decide +kernel
theorem dL_law_627 : decode cL_law 627 = .ok (.iload_n 3, 1) := by decide +kernel
theorem dL_law_628 : decode cL_law 628 = .ok (.iconst 3, 1) := by decide +kernel
theorem dL_law_629 : decode cL_law 629 = .ok (.iadd, 1) := by decide +kernel
theorem dL_law_630 : decode cL_law 630 = .ok (.iaload, 1) := by decide +kernel
theorem dL_law_631 : decode cL_law 631 = .ok (.aload_n 0, 1) := by decide +kernel
theorem dL_law_632 : decode cL_law 632 = .ok (.iload_n 3, 1) := by decide +kernel
theorem dL_law_633 : decode cL_law 633 = .ok (.iconst 4, 1) := by decide +kernel
theorem dL_law_634 : decode cL_law 634 = .ok (.iadd, 1) := by decide +kernel
theorem dL_law_635 : decode cL_law 635 = .ok (.iaload, 1) := by decide +kernel
theorem dL_law_636 : decode cL_law 636 = .ok (.invokevirtual 72, 3) := by decide +kernel
theorem dL_law_639 : decode cL_law 639 = .ok (.aload_n 2, 1) := by decide +kernel
theorem dL_law_640 : decode cL_law 640 = .ok (.aload_n 0, 1) := by decide +kernel
theorem dL_law_641 : decode cL_law 641 = .ok (.iload_n 3, 1) := by decide +kernel
theorem dL_law_642 : decode cL_law 642 = .ok (.iconst 1, 1) := by decide +kernel
theorem dL_law_643 : decode cL_law 643 = .ok (.iadd, 1) := by decide +kernel
theorem dL_law_644 : decode cL_law 644 = .ok (.iaload, 1) := by decide +kernel
theorem dL_law_645 : decode cL_law 645 = .ok (.aload_n 0, 1) := by decide +kernel
theorem dL_law_646 : decode cL_law 646 = .ok (.iload_n 3, 1) := by decide +kernel
theorem dL_law_647 : decode cL_law 647 = .ok (.iconst 2, 1) := by decide +kernel
theorem dL_law_648 : decode cL_law 648 = .ok (.iadd, 1) := by decide +kernel
theorem dL_law_649 : decode cL_law 649 = .ok (.iaload, 1) := by decide +kernel
theorem dL_law_650 : decode cL_law 650 = .ok (.aload_n 0, 1) := by decide +kernel
theorem dL_law_651 : decode cL_law 651 = .ok (.iload_n 3, 1) := by decide +kernel
theorem dL_law_652 : decode cL_law 652 = .ok (.iconst 3, 1) := by decide +kernel
theorem dL_law_653 : decode cL_law 653 = .ok (.iadd, 1) := by decide +kernel
theorem dL_law_654 : decode cL_law 654 = .ok (.iaload, 1) := by decide +kernel
theorem dL_law_655 : decode cL_law 655 = .ok (.aload_n 0, 1) := by decide +kernel
theorem dL_law_656 : decode cL_law 656 = .ok (.iload_n 3, 1) := by decide +kernel
theorem dL_law_657 : decode cL_law 657 = .ok (.iconst 4, 1) := by decide +kernel
theorem dL_law_658 : decode cL_law 658 = .ok (.iadd, 1) := by decide +kernel
theorem dL_law_659 : decode cL_law 659 = .ok (.iaload, 1) := by decide +kernel
theorem dL_law_660 : decode cL_law 660 = .ok (.invokevirtual 76, 3) := by decide +kernel
theorem dL_law_663 : decode cL_law 663 = .ok (.if_icmp .eq 976, 3) := by decide +kernel
theorem dL_law_666 : decode cL_law 666 = .ok (.iconst 0, 1) := by decide +kernel
theorem dL_law_667 : decode cL_law 667 = .ok (.ireturn, 1) := by decide +kernel
theorem dL_law_668 : decode cL_law 668 = .ok (.aload_n 1, 1) := by decide +kernel
theorem dL_law_669 : decode cL_law 669 = .ok (.aload_n 0, 1) := by decide +kernel
theorem dL_law_670 : decode cL_law 670 = .ok (.iload_n 3, 1) := by decide +kernel
theorem dL_law_671 : decode cL_law 671 = .ok (.iconst 1, 1) := by decide +kernel
theorem dL_law_672 : decode cL_law 672 = .ok (.iadd, 1) := by decide +kernel
theorem dL_law_673 : decode cL_law 673 = .ok (.iaload, 1) := by decide +kernel
theorem dL_law_674 : decode cL_law 674 = .ok (.aload_n 0, 1) := by decide +kernel
theorem dL_law_675 : decode cL_law 675 = .ok (.iload_n 3, 1) := by decide +kernel
theorem dL_law_676 : decode cL_law 676 = .ok (.iconst 2, 1) := by decide +kernel
theorem dL_law_677 : decode cL_law 677 = .ok (.iadd, 1) := by decide +kernel
theorem dL_law_678 : decode cL_law 678 = .ok (.iaload, 1) := by decide +kernel
theorem dL_law_679 : decode cL_law 679 = .ok (.aload_n 0, 1) := by decide +kernel
theorem dL_law_680 : decode cL_law 680 = .ok (.iload_n 3, 1) := by decide +kernel
theorem dL_law_681 : decode cL_law 681 = .ok (.iconst 3, 1) := by decide +kernel
theorem dL_law_682 : decode cL_law 682 = .ok (.iadd, 1) := by decide +kernel
theorem dL_law_683 : decode cL_law 683 = .ok (.iaload, 1) := by decide +kernel
theorem dL_law_684 : decode cL_law 684 = .ok (.aload_n 0, 1) := by decide +kernel
theorem dL_law_685 : decode cL_law 685 = .ok (.iload_n 3, 1) := by decide +kernel
theorem dL_law_686 : decode cL_law 686 = .ok (.iconst 4, 1) := by decide +kernel
theorem dL_law_687 : decode cL_law 687 = .ok (.iadd, 1) := by decide +kernel
theorem dL_law_688 : decode cL_law 688 = .ok (.iaload, 1) := by decide +kernel
theorem dL_law_689 : decode cL_law 689 = .ok (.invokevirtual 77, 3) := by decide +kernel
theorem dL_law_692 : decode cL_law 692 = .ok (.aload_n 2, 1) := by decide +kernel
theorem dL_law_693 : decode cL_law 693 = .ok (.aload_n 0, 1) := by decide +kernel
theorem dL_law_694 : decode cL_law 694 = .ok (.iload_n 3, 1) := by decide +kernel
theorem dL_law_695 : decode cL_law 695 = .ok (.iconst 1, 1) := by decide +kernel
theorem dL_law_696 : decode cL_law 696 = .ok (.iadd, 1) := by decide +kernel
theorem dL_law_697 : decode cL_law 697 = .ok (.iaload, 1) := by decide +kernel
theorem dL_law_698 : decode cL_law 698 = .ok (.aload_n 0, 1) := by decide +kernel
theorem dL_law_699 : decode cL_law 699 = .ok (.iload_n 3, 1) := by decide +kernel
theorem dL_law_700 : decode cL_law 700 = .ok (.iconst 2, 1) := by decide +kernel
theorem dL_law_701 : decode cL_law 701 = .ok (.iadd, 1) := by decide +kernel
theorem dL_law_702 : decode cL_law 702 = .ok (.iaload, 1) := by decide +kernel
theorem dL_law_703 : decode cL_law 703 = .ok (.aload_n 0, 1) := by decide +kernel
theorem dL_law_704 : decode cL_law 704 = .ok (.iload_n 3, 1) := by decide +kernel
theorem dL_law_705 : decode cL_law 705 = .ok (.iconst 3, 1) := by decide +kernel
theorem dL_law_706 : decode cL_law 706 = .ok (.iadd, 1) := by decide +kernel
theorem dL_law_707 : decode cL_law 707 = .ok (.iaload, 1) := by decide +kernel
theorem dL_law_708 : decode cL_law 708 = .ok (.aload_n 0, 1) := by decide +kernel
theorem dL_law_709 : decode cL_law 709 = .ok (.iload_n 3, 1) := by decide +kernel
theorem dL_law_710 : decode cL_law 710 = .ok (.iconst 4, 1) := by decide +kernel
theorem dL_law_711 : decode cL_law 711 = .ok (.iadd, 1) := by decide +kernel
theorem dL_law_712 : decode cL_law 712 = .ok (.iaload, 1) := by decide +kernel
theorem dL_law_713 : decode cL_law 713 = .ok (.invokevirtual 80, 3) := by decide +kernel
theorem dL_law_716 : decode cL_law 716 = .ok (.if_icmp .eq 923, 3) := by decide +kernel
theorem dL_law_719 : decode cL_law 719 = .ok (.iconst 0, 1) := by decide +kernel
theorem dL_law_720 : decode cL_law 720 = .ok (.ireturn, 1) := by decide +kernel
theorem dL_law_721 : decode cL_law 721 = .ok (.aload_n 1, 1) := by decide +kernel
theorem dL_law_722 : decode cL_law 722 = .ok (.aload_n 0, 1) := by decide +kernel
theorem dL_law_723 : decode cL_law 723 = .ok (.iload_n 3, 1) := by decide +kernel
theorem dL_law_724 : decode cL_law 724 = .ok (.iconst 1, 1) := by decide +kernel
theorem dL_law_725 : decode cL_law 725 = .ok (.iadd, 1) := by decide +kernel
theorem dL_law_726 : decode cL_law 726 = .ok (.iaload, 1) := by decide +kernel
theorem dL_law_727 : decode cL_law 727 = .ok (.invokevirtual 81, 3) := by decide +kernel
theorem dL_law_730 : decode cL_law 730 = .ok (.aload_n 2, 1) := by decide +kernel
theorem dL_law_731 : decode cL_law 731 = .ok (.aload_n 0, 1) := by decide +kernel
theorem dL_law_732 : decode cL_law 732 = .ok (.iload_n 3, 1) := by decide +kernel
theorem dL_law_733 : decode cL_law 733 = .ok (.iconst 1, 1) := by decide +kernel
theorem dL_law_734 : decode cL_law 734 = .ok (.iadd, 1) := by decide +kernel
theorem dL_law_735 : decode cL_law 735 = .ok (.iaload, 1) := by decide +kernel
theorem dL_law_736 : decode cL_law 736 = .ok (.invokevirtual 84, 3) := by decide +kernel
theorem dL_law_739 : decode cL_law 739 = .ok (.if_icmp .eq 900, 3) := by decide +kernel
theorem dL_law_742 : decode cL_law 742 = .ok (.iconst 0, 1) := by decide +kernel
theorem dL_law_743 : decode cL_law 743 = .ok (.ireturn, 1) := by decide +kernel
theorem dL_law_744 : decode cL_law 744 = .ok (.aload_n 1, 1) := by decide +kernel
theorem dL_law_745 : decode cL_law 745 = .ok (.aload_n 0, 1) := by decide +kernel
theorem dL_law_746 : decode cL_law 746 = .ok (.iload_n 3, 1) := by decide +kernel
theorem dL_law_747 : decode cL_law 747 = .ok (.iconst 1, 1) := by decide +kernel
theorem dL_law_748 : decode cL_law 748 = .ok (.iadd, 1) := by decide +kernel
theorem dL_law_749 : decode cL_law 749 = .ok (.iaload, 1) := by decide +kernel
theorem dL_law_750 : decode cL_law 750 = .ok (.aload_n 0, 1) := by decide +kernel
theorem dL_law_751 : decode cL_law 751 = .ok (.iload_n 3, 1) := by decide +kernel
theorem dL_law_752 : decode cL_law 752 = .ok (.iconst 2, 1) := by decide +kernel
theorem dL_law_753 : decode cL_law 753 = .ok (.iadd, 1) := by decide +kernel
theorem dL_law_754 : decode cL_law 754 = .ok (.iaload, 1) := by decide +kernel
theorem dL_law_755 : decode cL_law 755 = .ok (.aload_n 0, 1) := by decide +kernel
theorem dL_law_756 : decode cL_law 756 = .ok (.iload_n 3, 1) := by decide +kernel
theorem dL_law_757 : decode cL_law 757 = .ok (.iconst 3, 1) := by decide +kernel
theorem dL_law_758 : decode cL_law 758 = .ok (.iadd, 1) := by decide +kernel
theorem dL_law_759 : decode cL_law 759 = .ok (.iaload, 1) := by decide +kernel
theorem dL_law_760 : decode cL_law 760 = .ok (.invokevirtual 85, 3) := by decide +kernel
theorem dL_law_763 : decode cL_law 763 = .ok (.aload_n 2, 1) := by decide +kernel
theorem dL_law_764 : decode cL_law 764 = .ok (.aload_n 0, 1) := by decide +kernel
theorem dL_law_765 : decode cL_law 765 = .ok (.iload_n 3, 1) := by decide +kernel
theorem dL_law_766 : decode cL_law 766 = .ok (.iconst 1, 1) := by decide +kernel
theorem dL_law_767 : decode cL_law 767 = .ok (.iadd, 1) := by decide +kernel
theorem dL_law_768 : decode cL_law 768 = .ok (.iaload, 1) := by decide +kernel
theorem dL_law_769 : decode cL_law 769 = .ok (.aload_n 0, 1) := by decide +kernel
theorem dL_law_770 : decode cL_law 770 = .ok (.iload_n 3, 1) := by decide +kernel
theorem dL_law_771 : decode cL_law 771 = .ok (.iconst 2, 1) := by decide +kernel
theorem dL_law_772 : decode cL_law 772 = .ok (.iadd, 1) := by decide +kernel
theorem dL_law_773 : decode cL_law 773 = .ok (.iaload, 1) := by decide +kernel
theorem dL_law_774 : decode cL_law 774 = .ok (.aload_n 0, 1) := by decide +kernel
theorem dL_law_775 : decode cL_law 775 = .ok (.iload_n 3, 1) := by decide +kernel
theorem dL_law_776 : decode cL_law 776 = .ok (.iconst 3, 1) := by decide +kernel
theorem dL_law_777 : decode cL_law 777 = .ok (.iadd, 1) := by decide +kernel
theorem dL_law_778 : decode cL_law 778 = .ok (.iaload, 1) := by decide +kernel
theorem dL_law_779 : decode cL_law 779 = .ok (.invokevirtual 88, 3) := by decide +kernel
theorem dL_law_782 : decode cL_law 782 = .ok (.if_icmp .eq 857, 3) := by decide +kernel
theorem dL_law_785 : decode cL_law 785 = .ok (.iconst 0, 1) := by decide +kernel
theorem dL_law_786 : decode cL_law 786 = .ok (.ireturn, 1) := by decide +kernel
theorem dL_law_787 : decode cL_law 787 = .ok (.aload_n 1, 1) := by decide +kernel
theorem dL_law_788 : decode cL_law 788 = .ok (.aload_n 0, 1) := by decide +kernel
theorem dL_law_789 : decode cL_law 789 = .ok (.iload_n 3, 1) := by decide +kernel
theorem dL_law_790 : decode cL_law 790 = .ok (.iconst 1, 1) := by decide +kernel
theorem dL_law_791 : decode cL_law 791 = .ok (.iadd, 1) := by decide +kernel
theorem dL_law_792 : decode cL_law 792 = .ok (.iaload, 1) := by decide +kernel
theorem dL_law_793 : decode cL_law 793 = .ok (.aload_n 0, 1) := by decide +kernel
theorem dL_law_794 : decode cL_law 794 = .ok (.iload_n 3, 1) := by decide +kernel
theorem dL_law_795 : decode cL_law 795 = .ok (.iconst 2, 1) := by decide +kernel
theorem dL_law_796 : decode cL_law 796 = .ok (.iadd, 1) := by decide +kernel
theorem dL_law_797 : decode cL_law 797 = .ok (.iaload, 1) := by decide +kernel
theorem dL_law_798 : decode cL_law 798 = .ok (.aload_n 0, 1) := by decide +kernel
theorem dL_law_799 : decode cL_law 799 = .ok (.iload_n 3, 1) := by decide +kernel
theorem dL_law_800 : decode cL_law 800 = .ok (.iconst 3, 1) := by decide +kernel
theorem dL_law_801 : decode cL_law 801 = .ok (.iadd, 1) := by decide +kernel
theorem dL_law_802 : decode cL_law 802 = .ok (.iaload, 1) := by decide +kernel
theorem dL_law_803 : decode cL_law 803 = .ok (.invokevirtual 89, 3) := by decide +kernel
theorem dL_law_806 : decode cL_law 806 = .ok (.aload_n 2, 1) := by decide +kernel
theorem dL_law_807 : decode cL_law 807 = .ok (.aload_n 0, 1) := by decide +kernel
theorem dL_law_808 : decode cL_law 808 = .ok (.iload_n 3, 1) := by decide +kernel
theorem dL_law_809 : decode cL_law 809 = .ok (.iconst 1, 1) := by decide +kernel
theorem dL_law_810 : decode cL_law 810 = .ok (.iadd, 1) := by decide +kernel
theorem dL_law_811 : decode cL_law 811 = .ok (.iaload, 1) := by decide +kernel
theorem dL_law_812 : decode cL_law 812 = .ok (.aload_n 0, 1) := by decide +kernel
theorem dL_law_813 : decode cL_law 813 = .ok (.iload_n 3, 1) := by decide +kernel
theorem dL_law_814 : decode cL_law 814 = .ok (.iconst 2, 1) := by decide +kernel
theorem dL_law_815 : decode cL_law 815 = .ok (.iadd, 1) := by decide +kernel
theorem dL_law_816 : decode cL_law 816 = .ok (.iaload, 1) := by decide +kernel
theorem dL_law_817 : decode cL_law 817 = .ok (.aload_n 0, 1) := by decide +kernel
theorem dL_law_818 : decode cL_law 818 = .ok (.iload_n 3, 1) := by decide +kernel
theorem dL_law_819 : decode cL_law 819 = .ok (.iconst 3, 1) := by decide +kernel
theorem dL_law_820 : decode cL_law 820 = .ok (.iadd, 1) := by decide +kernel
theorem dL_law_821 : decode cL_law 821 = .ok (.iaload, 1) := by decide +kernel
theorem dL_law_822 : decode cL_law 822 = .ok (.invokevirtual 92, 3) := by decide +kernel
theorem dL_law_825 : decode cL_law 825 = .ok (.if_icmp .eq 814, 3) := by decide +kernel
theorem dL_law_828 : decode cL_law 828 = .ok (.iconst 0, 1) := by decide +kernel
theorem dL_law_829 : decode cL_law 829 = .ok (.ireturn, 1) := by decide +kernel
theorem dL_law_830 : decode cL_law 830 = .ok (.aload_n 1, 1) := by decide +kernel
theorem dL_law_831 : decode cL_law 831 = .ok (.aload_n 0, 1) := by decide +kernel
theorem dL_law_832 : decode cL_law 832 = .ok (.iload_n 3, 1) := by decide +kernel
theorem dL_law_833 : decode cL_law 833 = .ok (.iconst 1, 1) := by decide +kernel
theorem dL_law_834 : decode cL_law 834 = .ok (.iadd, 1) := by decide +kernel
theorem dL_law_835 : decode cL_law 835 = .ok (.iaload, 1) := by decide +kernel
theorem dL_law_836 : decode cL_law 836 = .ok (.aload_n 0, 1) := by decide +kernel
theorem dL_law_837 : decode cL_law 837 = .ok (.iload_n 3, 1) := by decide +kernel
theorem dL_law_838 : decode cL_law 838 = .ok (.iconst 2, 1) := by decide +kernel
theorem dL_law_839 : decode cL_law 839 = .ok (.iadd, 1) := by decide +kernel
theorem dL_law_840 : decode cL_law 840 = .ok (.iaload, 1) := by decide +kernel
theorem dL_law_841 : decode cL_law 841 = .ok (.invokevirtual 93, 3) := by decide +kernel
theorem dL_law_844 : decode cL_law 844 = .ok (.aload_n 2, 1) := by decide +kernel
theorem dL_law_845 : decode cL_law 845 = .ok (.aload_n 0, 1) := by decide +kernel
theorem dL_law_846 : decode cL_law 846 = .ok (.iload_n 3, 1) := by decide +kernel
theorem dL_law_847 : decode cL_law 847 = .ok (.iconst 1, 1) := by decide +kernel
theorem dL_law_848 : decode cL_law 848 = .ok (.iadd, 1) := by decide +kernel
theorem dL_law_849 : decode cL_law 849 = .ok (.iaload, 1) := by decide +kernel
theorem dL_law_850 : decode cL_law 850 = .ok (.aload_n 0, 1) := by decide +kernel
theorem dL_law_851 : decode cL_law 851 = .ok (.iload_n 3, 1) := by decide +kernel
theorem dL_law_852 : decode cL_law 852 = .ok (.iconst 2, 1) := by decide +kernel
theorem dL_law_853 : decode cL_law 853 = .ok (.iadd, 1) := by decide +kernel
theorem dL_law_854 : decode cL_law 854 = .ok (.iaload, 1) := by decide +kernel
theorem dL_law_855 : decode cL_law 855 = .ok (.invokevirtual 96, 3) := by decide +kernel
theorem dL_law_858 : decode cL_law 858 = .ok (.if_icmp .eq 781, 3) := by decide +kernel
theorem dL_law_861 : decode cL_law 861 = .ok (.iconst 0, 1) := by decide +kernel
theorem dL_law_862 : decode cL_law 862 = .ok (.ireturn, 1) := by decide +kernel
theorem dL_law_863 : decode cL_law 863 = .ok (.aload_n 1, 1) := by decide +kernel
theorem dL_law_864 : decode cL_law 864 = .ok (.aload_n 0, 1) := by decide +kernel
theorem dL_law_865 : decode cL_law 865 = .ok (.iload_n 3, 1) := by decide +kernel
theorem dL_law_866 : decode cL_law 866 = .ok (.iconst 1, 1) := by decide +kernel
theorem dL_law_867 : decode cL_law 867 = .ok (.iadd, 1) := by decide +kernel
theorem dL_law_868 : decode cL_law 868 = .ok (.iaload, 1) := by decide +kernel
theorem dL_law_869 : decode cL_law 869 = .ok (.aload_n 0, 1) := by decide +kernel
theorem dL_law_870 : decode cL_law 870 = .ok (.iload_n 3, 1) := by decide +kernel
theorem dL_law_871 : decode cL_law 871 = .ok (.iconst 2, 1) := by decide +kernel
theorem dL_law_872 : decode cL_law 872 = .ok (.iadd, 1) := by decide +kernel
theorem dL_law_873 : decode cL_law 873 = .ok (.iaload, 1) := by decide +kernel
theorem dL_law_874 : decode cL_law 874 = .ok (.invokevirtual 97, 3) := by decide +kernel
theorem dL_law_877 : decode cL_law 877 = .ok (.aload_n 2, 1) := by decide +kernel
theorem dL_law_878 : decode cL_law 878 = .ok (.aload_n 0, 1) := by decide +kernel
theorem dL_law_879 : decode cL_law 879 = .ok (.iload_n 3, 1) := by decide +kernel
theorem dL_law_880 : decode cL_law 880 = .ok (.iconst 1, 1) := by decide +kernel
theorem dL_law_881 : decode cL_law 881 = .ok (.iadd, 1) := by decide +kernel
theorem dL_law_882 : decode cL_law 882 = .ok (.iaload, 1) := by decide +kernel
theorem dL_law_883 : decode cL_law 883 = .ok (.aload_n 0, 1) := by decide +kernel
theorem dL_law_884 : decode cL_law 884 = .ok (.iload_n 3, 1) := by decide +kernel
theorem dL_law_885 : decode cL_law 885 = .ok (.iconst 2, 1) := by decide +kernel
theorem dL_law_886 : decode cL_law 886 = .ok (.iadd, 1) := by decide +kernel
theorem dL_law_887 : decode cL_law 887 = .ok (.iaload, 1) := by decide +kernel
theorem dL_law_888 : decode cL_law 888 = .ok (.invokevirtual 100, 3) := by decide +kernel
theorem dL_law_891 : decode cL_law 891 = .ok (.if_icmp .eq 748, 3) := by decide +kernel
theorem dL_law_894 : decode cL_law 894 = .ok (.iconst 0, 1) := by decide +kernel
theorem dL_law_895 : decode cL_law 895 = .ok (.ireturn, 1) := by decide +kernel
theorem dL_law_896 : decode cL_law 896 = .ok (.aload_n 1, 1) := by decide +kernel
theorem dL_law_897 : decode cL_law 897 = .ok (.aload_n 0, 1) := by decide +kernel
theorem dL_law_898 : decode cL_law 898 = .ok (.iload_n 3, 1) := by decide +kernel
theorem dL_law_899 : decode cL_law 899 = .ok (.iconst 1, 1) := by decide +kernel
theorem dL_law_900 : decode cL_law 900 = .ok (.iadd, 1) := by decide +kernel
theorem dL_law_901 : decode cL_law 901 = .ok (.iaload, 1) := by decide +kernel
theorem dL_law_902 : decode cL_law 902 = .ok (.aload_n 0, 1) := by decide +kernel
theorem dL_law_903 : decode cL_law 903 = .ok (.iload_n 3, 1) := by decide +kernel
theorem dL_law_904 : decode cL_law 904 = .ok (.iconst 2, 1) := by decide +kernel
theorem dL_law_905 : decode cL_law 905 = .ok (.iadd, 1) := by decide +kernel
theorem dL_law_906 : decode cL_law 906 = .ok (.iaload, 1) := by decide +kernel
theorem dL_law_907 : decode cL_law 907 = .ok (.aload_n 0, 1) := by decide +kernel
theorem dL_law_908 : decode cL_law 908 = .ok (.iload_n 3, 1) := by decide +kernel
theorem dL_law_909 : decode cL_law 909 = .ok (.iconst 3, 1) := by decide +kernel
theorem dL_law_910 : decode cL_law 910 = .ok (.iadd, 1) := by decide +kernel
theorem dL_law_911 : decode cL_law 911 = .ok (.iaload, 1) := by decide +kernel
theorem dL_law_912 : decode cL_law 912 = .ok (.invokevirtual 101, 3) := by decide +kernel
theorem dL_law_915 : decode cL_law 915 = .ok (.aload_n 2, 1) := by decide +kernel
theorem dL_law_916 : decode cL_law 916 = .ok (.aload_n 0, 1) := by decide +kernel
theorem dL_law_917 : decode cL_law 917 = .ok (.iload_n 3, 1) := by decide +kernel
theorem dL_law_918 : decode cL_law 918 = .ok (.iconst 1, 1) := by decide +kernel
theorem dL_law_919 : decode cL_law 919 = .ok (.iadd, 1) := by decide +kernel
theorem dL_law_920 : decode cL_law 920 = .ok (.iaload, 1) := by decide +kernel
theorem dL_law_921 : decode cL_law 921 = .ok (.aload_n 0, 1) := by decide +kernel
theorem dL_law_922 : decode cL_law 922 = .ok (.iload_n 3, 1) := by decide +kernel
theorem dL_law_923 : decode cL_law 923 = .ok (.iconst 2, 1) := by decide +kernel
theorem dL_law_924 : decode cL_law 924 = .ok (.iadd, 1) := by decide +kernel
theorem dL_law_925 : decode cL_law 925 = .ok (.iaload, 1) := by decide +kernel
theorem dL_law_926 : decode cL_law 926 = .ok (.aload_n 0, 1) := by decide +kernel
theorem dL_law_927 : decode cL_law 927 = .ok (.iload_n 3, 1) := by decide +kernel
theorem dL_law_928 : decode cL_law 928 = .ok (.iconst 3, 1) := by decide +kernel
theorem dL_law_929 : decode cL_law 929 = .ok (.iadd, 1) := by decide +kernel
theorem dL_law_930 : decode cL_law 930 = .ok (.iaload, 1) := by decide +kernel
theorem dL_law_931 : decode cL_law 931 = .ok (.invokevirtual 104, 3) := by decide +kernel
theorem dL_law_934 : decode cL_law 934 = .ok (.if_icmp .eq 705, 3) := by decide +kernel
theorem dL_law_937 : decode cL_law 937 = .ok (.iconst 0, 1) := by decide +kernel
theorem dL_law_938 : decode cL_law 938 = .ok (.ireturn, 1) := by decide +kernel
theorem dL_law_939 : decode cL_law 939 = .ok (.aload_n 1, 1) := by decide +kernel
theorem dL_law_940 : decode cL_law 940 = .ok (.aload_n 0, 1) := by decide +kernel
theorem dL_law_941 : decode cL_law 941 = .ok (.iload_n 3, 1) := by decide +kernel
theorem dL_law_942 : decode cL_law 942 = .ok (.iconst 1, 1) := by decide +kernel
theorem dL_law_943 : decode cL_law 943 = .ok (.iadd, 1) := by decide +kernel
theorem dL_law_944 : decode cL_law 944 = .ok (.iaload, 1) := by decide +kernel
theorem dL_law_945 : decode cL_law 945 = .ok (.aload_n 0, 1) := by decide +kernel
theorem dL_law_946 : decode cL_law 946 = .ok (.iload_n 3, 1) := by decide +kernel
theorem dL_law_947 : decode cL_law 947 = .ok (.iconst 2, 1) := by decide +kernel
theorem dL_law_948 : decode cL_law 948 = .ok (.iadd, 1) := by decide +kernel
theorem dL_law_949 : decode cL_law 949 = .ok (.iaload, 1) := by decide +kernel
theorem dL_law_950 : decode cL_law 950 = .ok (.invokevirtual 105, 3) := by decide +kernel
theorem dL_law_953 : decode cL_law 953 = .ok (.aload_n 2, 1) := by decide +kernel
theorem dL_law_954 : decode cL_law 954 = .ok (.aload_n 0, 1) := by decide +kernel
theorem dL_law_955 : decode cL_law 955 = .ok (.iload_n 3, 1) := by decide +kernel
theorem dL_law_956 : decode cL_law 956 = .ok (.iconst 1, 1) := by decide +kernel
theorem dL_law_957 : decode cL_law 957 = .ok (.iadd, 1) := by decide +kernel
theorem dL_law_958 : decode cL_law 958 = .ok (.iaload, 1) := by decide +kernel
theorem dL_law_959 : decode cL_law 959 = .ok (.aload_n 0, 1) := by decide +kernel
theorem dL_law_960 : decode cL_law 960 = .ok (.iload_n 3, 1) := by decide +kernel
theorem dL_law_961 : decode cL_law 961 = .ok (.iconst 2, 1) := by decide +kernel
theorem dL_law_962 : decode cL_law 962 = .ok (.iadd, 1) := by decide +kernel
theorem dL_law_963 : decode cL_law 963 = .ok (.iaload, 1) := by decide +kernel
theorem dL_law_964 : decode cL_law 964 = .ok (.invokevirtual 108, 3) := by decide +kernel
theorem dL_law_967 : decode cL_law 967 = .ok (.if_icmp .eq 672, 3) := by decide +kernel
theorem dL_law_970 : decode cL_law 970 = .ok (.iconst 0, 1) := by decide +kernel
theorem dL_law_971 : decode cL_law 971 = .ok (.ireturn, 1) := by decide +kernel
theorem dL_law_972 : decode cL_law 972 = .ok (.aload_n 1, 1) := by decide +kernel
theorem dL_law_973 : decode cL_law 973 = .ok (.aload_n 0, 1) := by decide +kernel
theorem dL_law_974 : decode cL_law 974 = .ok (.iload_n 3, 1) := by decide +kernel
theorem dL_law_975 : decode cL_law 975 = .ok (.iconst 1, 1) := by decide +kernel
theorem dL_law_976 : decode cL_law 976 = .ok (.iadd, 1) := by decide +kernel
theorem dL_law_977 : decode cL_law 977 = .ok (.iaload, 1) := by decide +kernel
theorem dL_law_978 : decode cL_law 978 = .ok (.aload_n 0, 1) := by decide +kernel
theorem dL_law_979 : decode cL_law 979 = .ok (.iload_n 3, 1) := by decide +kernel
theorem dL_law_980 : decode cL_law 980 = .ok (.iconst 2, 1) := by decide +kernel
theorem dL_law_981 : decode cL_law 981 = .ok (.iadd, 1) := by decide +kernel
theorem dL_law_982 : decode cL_law 982 = .ok (.iaload, 1) := by decide +kernel
theorem dL_law_983 : decode cL_law 983 = .ok (.invokevirtual 109, 3) := by decide +kernel
theorem dL_law_986 : decode cL_law 986 = .ok (.aload_n 2, 1) := by decide +kernel
theorem dL_law_987 : decode cL_law 987 = .ok (.aload_n 0, 1) := by decide +kernel
theorem dL_law_988 : decode cL_law 988 = .ok (.iload_n 3, 1) := by decide +kernel
theorem dL_law_989 : decode cL_law 989 = .ok (.iconst 1, 1) := by decide +kernel
theorem dL_law_990 : decode cL_law 990 = .ok (.iadd, 1) := by decide +kernel
theorem dL_law_991 : decode cL_law 991 = .ok (.iaload, 1) := by decide +kernel
theorem dL_law_992 : decode cL_law 992 = .ok (.aload_n 0, 1) := by decide +kernel
theorem dL_law_993 : decode cL_law 993 = .ok (.iload_n 3, 1) := by decide +kernel
theorem dL_law_994 : decode cL_law 994 = .ok (.iconst 2, 1) := by decide +kernel
theorem dL_law_995 : decode cL_law 995 = .ok (.iadd, 1) := by decide +kernel
theorem dL_law_996 : decode cL_law 996 = .ok (.iaload, 1) := by decide +kernel
theorem dL_law_997 : decode cL_law 997 = .ok (.invokevirtual 112, 3) := by decide +kernel
theorem dL_law_1000 : decode cL_law 1000 = .ok (.if_icmp .eq 639, 3) := by decide +kernel
theorem dL_law_1003 : decode cL_law 1003 = .ok (.iconst 0, 1) := by decide +kernel
theorem dL_law_1004 : decode cL_law 1004 = .ok (.ireturn, 1) := by decide +kernel
theorem dL_law_1005 : decode cL_law 1005 = .ok (.aload_n 1, 1) := by decide +kernel
theorem dL_law_1006 : decode cL_law 1006 = .ok (.aload_n 0, 1) := by decide +kernel
theorem dL_law_1007 : decode cL_law 1007 = .ok (.iload_n 3, 1) := by decide +kernel
theorem dL_law_1008 : decode cL_law 1008 = .ok (.iconst 1, 1) := by decide +kernel
theorem dL_law_1009 : decode cL_law 1009 = .ok (.iadd, 1) := by decide +kernel
theorem dL_law_1010 : decode cL_law 1010 = .ok (.iaload, 1) := by decide +kernel
theorem dL_law_1011 : decode cL_law 1011 = .ok (.aload_n 0, 1) := by decide +kernel
theorem dL_law_1012 : decode cL_law 1012 = .ok (.iload_n 3, 1) := by decide +kernel
theorem dL_law_1013 : decode cL_law 1013 = .ok (.iconst 2, 1) := by decide +kernel
theorem dL_law_1014 : decode cL_law 1014 = .ok (.iadd, 1) := by decide +kernel
theorem dL_law_1015 : decode cL_law 1015 = .ok (.iaload, 1) := by decide +kernel
theorem dL_law_1016 : decode cL_law 1016 = .ok (.aload_n 0, 1) := by decide +kernel
theorem dL_law_1017 : decode cL_law 1017 = .ok (.iload_n 3, 1) := by decide +kernel
theorem dL_law_1018 : decode cL_law 1018 = .ok (.iconst 3, 1) := by decide +kernel
theorem dL_law_1019 : decode cL_law 1019 = .ok (.iadd, 1) := by decide +kernel
theorem dL_law_1020 : decode cL_law 1020 = .ok (.iaload, 1) := by decide +kernel
theorem dL_law_1021 : decode cL_law 1021 = .ok (.aload_n 0, 1) := by decide +kernel
theorem dL_law_1022 : decode cL_law 1022 = .ok (.iload_n 3, 1) := by decide +kernel
theorem dL_law_1023 : decode cL_law 1023 = .ok (.iconst 4, 1) := by decide +kernel
theorem dL_law_1024 : decode cL_law 1024 = .ok (.iadd, 1) := by decide +kernel
theorem dL_law_1025 : decode cL_law 1025 = .ok (.iaload, 1) := by decide +kernel
theorem dL_law_1026 : decode cL_law 1026 = .ok (.aload_n 0, 1) := by decide +kernel
theorem dL_law_1027 : decode cL_law 1027 = .ok (.iload_n 3, 1) := by decide +kernel
theorem dL_law_1028 : decode cL_law 1028 = .ok (.iconst 5, 1) := by decide +kernel
theorem dL_law_1029 : decode cL_law 1029 = .ok (.iadd, 1) := by decide +kernel
theorem dL_law_1030 : decode cL_law 1030 = .ok (.iaload, 1) := by decide +kernel
theorem dL_law_1031 : decode cL_law 1031 = .ok (.invokevirtual 113, 3) := by decide +kernel
theorem dL_law_1034 : decode cL_law 1034 = .ok (.aload_n 2, 1) := by decide +kernel
theorem dL_law_1035 : decode cL_law 1035 = .ok (.aload_n 0, 1) := by decide +kernel
theorem dL_law_1036 : decode cL_law 1036 = .ok (.iload_n 3, 1) := by decide +kernel
theorem dL_law_1037 : decode cL_law 1037 = .ok (.iconst 1, 1) := by decide +kernel
theorem dL_law_1038 : decode cL_law 1038 = .ok (.iadd, 1) := by decide +kernel
theorem dL_law_1039 : decode cL_law 1039 = .ok (.iaload, 1) := by decide +kernel
theorem dL_law_1040 : decode cL_law 1040 = .ok (.aload_n 0, 1) := by decide +kernel
theorem dL_law_1041 : decode cL_law 1041 = .ok (.iload_n 3, 1) := by decide +kernel
theorem dL_law_1042 : decode cL_law 1042 = .ok (.iconst 2, 1) := by decide +kernel
theorem dL_law_1043 : decode cL_law 1043 = .ok (.iadd, 1) := by decide +kernel
theorem dL_law_1044 : decode cL_law 1044 = .ok (.iaload, 1) := by decide +kernel
theorem dL_law_1045 : decode cL_law 1045 = .ok (.aload_n 0, 1) := by decide +kernel
theorem dL_law_1046 : decode cL_law 1046 = .ok (.iload_n 3, 1) := by decide +kernel
theorem dL_law_1047 : decode cL_law 1047 = .ok (.iconst 3, 1) := by decide +kernel
theorem dL_law_1048 : decode cL_law 1048 = .ok (.iadd, 1) := by decide +kernel
theorem dL_law_1049 : decode cL_law 1049 = .ok (.iaload, 1) := by decide +kernel
theorem dL_law_1050 : decode cL_law 1050 = .ok (.aload_n 0, 1) := by decide +kernel
theorem dL_law_1051 : decode cL_law 1051 = .ok (.iload_n 3, 1) := by decide +kernel
theorem dL_law_1052 : decode cL_law 1052 = .ok (.iconst 4, 1) := by decide +kernel
theorem dL_law_1053 : decode cL_law 1053 = .ok (.iadd, 1) := by decide +kernel
theorem dL_law_1054 : decode cL_law 1054 = .ok (.iaload, 1) := by decide +kernel
theorem dL_law_1055 : decode cL_law 1055 = .ok (.aload_n 0, 1) := by decide +kernel
theorem dL_law_1056 : decode cL_law 1056 = .ok (.iload_n 3, 1) := by decide +kernel
theorem dL_law_1057 : decode cL_law 1057 = .ok (.iconst 5, 1) := by decide +kernel
theorem dL_law_1058 : decode cL_law 1058 = .ok (.iadd, 1) := by decide +kernel
theorem dL_law_1059 : decode cL_law 1059 = .ok (.iaload, 1) := by decide +kernel
theorem dL_law_1060 : decode cL_law 1060 = .ok (.invokevirtual 117, 3) := by decide +kernel
theorem dL_law_1063 : decode cL_law 1063 = .ok (.if_icmp .eq 576, 3) := by decide +kernel
theorem dL_law_1066 : decode cL_law 1066 = .ok (.iconst 0, 1) := by decide +kernel
theorem dL_law_1067 : decode cL_law 1067 = .ok (.ireturn, 1) := by decide +kernel
theorem dL_law_1068 : decode cL_law 1068 = .ok (.aload_n 1, 1) := by decide +kernel
theorem dL_law_1069 : decode cL_law 1069 = .ok (.aload_n 0, 1) := by decide +kernel
theorem dL_law_1070 : decode cL_law 1070 = .ok (.iload_n 3, 1) := by decide +kernel
theorem dL_law_1071 : decode cL_law 1071 = .ok (.iconst 1, 1) := by decide +kernel
theorem dL_law_1072 : decode cL_law 1072 = .ok (.iadd, 1) := by decide +kernel
theorem dL_law_1073 : decode cL_law 1073 = .ok (.iaload, 1) := by decide +kernel
theorem dL_law_1074 : decode cL_law 1074 = .ok (.aload_n 0, 1) := by decide +kernel
theorem dL_law_1075 : decode cL_law 1075 = .ok (.iload_n 3, 1) := by decide +kernel
theorem dL_law_1076 : decode cL_law 1076 = .ok (.iconst 2, 1) := by decide +kernel
theorem dL_law_1077 : decode cL_law 1077 = .ok (.iadd, 1) := by decide +kernel
theorem dL_law_1078 : decode cL_law 1078 = .ok (.iaload, 1) := by decide +kernel
theorem dL_law_1079 : decode cL_law 1079 = .ok (.aload_n 0, 1) := by decide +kernel
theorem dL_law_1080 : decode cL_law 1080 = .ok (.iload_n 3, 1) := by decide +kernel
theorem dL_law_1081 : decode cL_law 1081 = .ok (.iconst 3, 1) := by decide +kernel
theorem dL_law_1082 : decode cL_law 1082 = .ok (.iadd, 1) := by decide +kernel
theorem dL_law_1083 : decode cL_law 1083 = .ok (.iaload, 1) := by decide +kernel
theorem dL_law_1084 : decode cL_law 1084 = .ok (.aload_n 0, 1) := by decide +kernel
theorem dL_law_1085 : decode cL_law 1085 = .ok (.iload_n 3, 1) := by decide +kernel
theorem dL_law_1086 : decode cL_law 1086 = .ok (.iconst 4, 1) := by decide +kernel
theorem dL_law_1087 : decode cL_law 1087 = .ok (.iadd, 1) := by decide +kernel
theorem dL_law_1088 : decode cL_law 1088 = .ok (.iaload, 1) := by decide +kernel
theorem dL_law_1089 : decode cL_law 1089 = .ok (.aload_n 0, 1) := by decide +kernel
theorem dL_law_1090 : decode cL_law 1090 = .ok (.iload_n 3, 1) := by decide +kernel
theorem dL_law_1091 : decode cL_law 1091 = .ok (.iconst 5, 1) := by decide +kernel
theorem dL_law_1092 : decode cL_law 1092 = .ok (.iadd, 1) := by decide +kernel
theorem dL_law_1093 : decode cL_law 1093 = .ok (.iaload, 1) := by decide +kernel
theorem dL_law_1094 : decode cL_law 1094 = .ok (.aload_n 0, 1) := by decide +kernel
theorem dL_law_1095 : decode cL_law 1095 = .ok (.iload_n 3, 1) := by decide +kernel
theorem dL_law_1096 : decode cL_law 1096 = .ok (.bipush 6, 2) := by decide +kernel
theorem dL_law_1098 : decode cL_law 1098 = .ok (.iadd, 1) := by decide +kernel
theorem dL_law_1099 : decode cL_law 1099 = .ok (.iaload, 1) := by decide +kernel
theorem dL_law_1100 : decode cL_law 1100 = .ok (.invokevirtual 118, 3) := by decide +kernel
theorem dL_law_1103 : decode cL_law 1103 = .ok (.aload_n 2, 1) := by decide +kernel
theorem dL_law_1104 : decode cL_law 1104 = .ok (.aload_n 0, 1) := by decide +kernel
theorem dL_law_1105 : decode cL_law 1105 = .ok (.iload_n 3, 1) := by decide +kernel
theorem dL_law_1106 : decode cL_law 1106 = .ok (.iconst 1, 1) := by decide +kernel
theorem dL_law_1107 : decode cL_law 1107 = .ok (.iadd, 1) := by decide +kernel
theorem dL_law_1108 : decode cL_law 1108 = .ok (.iaload, 1) := by decide +kernel
theorem dL_law_1109 : decode cL_law 1109 = .ok (.aload_n 0, 1) := by decide +kernel
theorem dL_law_1110 : decode cL_law 1110 = .ok (.iload_n 3, 1) := by decide +kernel
theorem dL_law_1111 : decode cL_law 1111 = .ok (.iconst 2, 1) := by decide +kernel
theorem dL_law_1112 : decode cL_law 1112 = .ok (.iadd, 1) := by decide +kernel
theorem dL_law_1113 : decode cL_law 1113 = .ok (.iaload, 1) := by decide +kernel
theorem dL_law_1114 : decode cL_law 1114 = .ok (.aload_n 0, 1) := by decide +kernel
theorem dL_law_1115 : decode cL_law 1115 = .ok (.iload_n 3, 1) := by decide +kernel
theorem dL_law_1116 : decode cL_law 1116 = .ok (.iconst 3, 1) := by decide +kernel
theorem dL_law_1117 : decode cL_law 1117 = .ok (.iadd, 1) := by decide +kernel
theorem dL_law_1118 : decode cL_law 1118 = .ok (.iaload, 1) := by decide +kernel
theorem dL_law_1119 : decode cL_law 1119 = .ok (.aload_n 0, 1) := by decide +kernel
theorem dL_law_1120 : decode cL_law 1120 = .ok (.iload_n 3, 1) := by decide +kernel
theorem dL_law_1121 : decode cL_law 1121 = .ok (.iconst 4, 1) := by decide +kernel
theorem dL_law_1122 : decode cL_law 1122 = .ok (.iadd, 1) := by decide +kernel
theorem dL_law_1123 : decode cL_law 1123 = .ok (.iaload, 1) := by decide +kernel
theorem dL_law_1124 : decode cL_law 1124 = .ok (.aload_n 0, 1) := by decide +kernel
theorem dL_law_1125 : decode cL_law 1125 = .ok (.iload_n 3, 1) := by decide +kernel
theorem dL_law_1126 : decode cL_law 1126 = .ok (.iconst 5, 1) := by decide +kernel
theorem dL_law_1127 : decode cL_law 1127 = .ok (.iadd, 1) := by decide +kernel
theorem dL_law_1128 : decode cL_law 1128 = .ok (.iaload, 1) := by decide +kernel
theorem dL_law_1129 : decode cL_law 1129 = .ok (.aload_n 0, 1) := by decide +kernel
theorem dL_law_1130 : decode cL_law 1130 = .ok (.iload_n 3, 1) := by decide +kernel
theorem dL_law_1131 : decode cL_law 1131 = .ok (.bipush 6, 2) := by decide +kernel
theorem dL_law_1133 : decode cL_law 1133 = .ok (.iadd, 1) := by decide +kernel
theorem dL_law_1134 : decode cL_law 1134 = .ok (.iaload, 1) := by decide +kernel
theorem dL_law_1135 : decode cL_law 1135 = .ok (.invokevirtual 122, 3) := by decide +kernel
theorem dL_law_1138 : decode cL_law 1138 = .ok (.if_icmp .eq 501, 3) := by decide +kernel
theorem dL_law_1141 : decode cL_law 1141 = .ok (.iconst 0, 1) := by decide +kernel
theorem dL_law_1142 : decode cL_law 1142 = .ok (.ireturn, 1) := by decide +kernel
theorem dL_law_1143 : decode cL_law 1143 = .ok (.aload_n 1, 1) := by decide +kernel
theorem dL_law_1144 : decode cL_law 1144 = .ok (.aload_n 0, 1) := by decide +kernel
theorem dL_law_1145 : decode cL_law 1145 = .ok (.iload_n 3, 1) := by decide +kernel
theorem dL_law_1146 : decode cL_law 1146 = .ok (.iconst 1, 1) := by decide +kernel
theorem dL_law_1147 : decode cL_law 1147 = .ok (.iadd, 1) := by decide +kernel
theorem dL_law_1148 : decode cL_law 1148 = .ok (.iaload, 1) := by decide +kernel
theorem dL_law_1149 : decode cL_law 1149 = .ok (.aload_n 0, 1) := by decide +kernel
theorem dL_law_1150 : decode cL_law 1150 = .ok (.iload_n 3, 1) := by decide +kernel
theorem dL_law_1151 : decode cL_law 1151 = .ok (.iconst 2, 1) := by decide +kernel
theorem dL_law_1152 : decode cL_law 1152 = .ok (.iadd, 1) := by decide +kernel
theorem dL_law_1153 : decode cL_law 1153 = .ok (.iaload, 1) := by decide +kernel
theorem dL_law_1154 : decode cL_law 1154 = .ok (.aload_n 0, 1) := by decide +kernel
theorem dL_law_1155 : decode cL_law 1155 = .ok (.iload_n 3, 1) := by decide +kernel
theorem dL_law_1156 : decode cL_law 1156 = .ok (.iconst 3, 1) := by decide +kernel
theorem dL_law_1157 : decode cL_law 1157 = .ok (.iadd, 1) := by decide +kernel
theorem dL_law_1158 : decode cL_law 1158 = .ok (.iaload, 1) := by decide +kernel
theorem dL_law_1159 : decode cL_law 1159 = .ok (.invokevirtual 123, 3) := by decide +kernel
theorem dL_law_1162 : decode cL_law 1162 = .ok (.aload_n 2, 1) := by decide +kernel
theorem dL_law_1163 : decode cL_law 1163 = .ok (.aload_n 0, 1) := by decide +kernel
theorem dL_law_1164 : decode cL_law 1164 = .ok (.iload_n 3, 1) := by decide +kernel
theorem dL_law_1165 : decode cL_law 1165 = .ok (.iconst 1, 1) := by decide +kernel
theorem dL_law_1166 : decode cL_law 1166 = .ok (.iadd, 1) := by decide +kernel
theorem dL_law_1167 : decode cL_law 1167 = .ok (.iaload, 1) := by decide +kernel
theorem dL_law_1168 : decode cL_law 1168 = .ok (.aload_n 0, 1) := by decide +kernel
theorem dL_law_1169 : decode cL_law 1169 = .ok (.iload_n 3, 1) := by decide +kernel
theorem dL_law_1170 : decode cL_law 1170 = .ok (.iconst 2, 1) := by decide +kernel
theorem dL_law_1171 : decode cL_law 1171 = .ok (.iadd, 1) := by decide +kernel
theorem dL_law_1172 : decode cL_law 1172 = .ok (.iaload, 1) := by decide +kernel
theorem dL_law_1173 : decode cL_law 1173 = .ok (.aload_n 0, 1) := by decide +kernel
theorem dL_law_1174 : decode cL_law 1174 = .ok (.iload_n 3, 1) := by decide +kernel
theorem dL_law_1175 : decode cL_law 1175 = .ok (.iconst 3, 1) := by decide +kernel
theorem dL_law_1176 : decode cL_law 1176 = .ok (.iadd, 1) := by decide +kernel
theorem dL_law_1177 : decode cL_law 1177 = .ok (.iaload, 1) := by decide +kernel
theorem dL_law_1178 : decode cL_law 1178 = .ok (.invokevirtual 126, 3) := by decide +kernel
theorem dL_law_1181 : decode cL_law 1181 = .ok (.if_icmp .eq 458, 3) := by decide +kernel
theorem dL_law_1184 : decode cL_law 1184 = .ok (.iconst 0, 1) := by decide +kernel
theorem dL_law_1185 : decode cL_law 1185 = .ok (.ireturn, 1) := by decide +kernel
theorem dL_law_1186 : decode cL_law 1186 = .ok (.aload_n 1, 1) := by decide +kernel
theorem dL_law_1187 : decode cL_law 1187 = .ok (.aload_n 0, 1) := by decide +kernel
theorem dL_law_1188 : decode cL_law 1188 = .ok (.iload_n 3, 1) := by decide +kernel
theorem dL_law_1189 : decode cL_law 1189 = .ok (.iconst 1, 1) := by decide +kernel
theorem dL_law_1190 : decode cL_law 1190 = .ok (.iadd, 1) := by decide +kernel
theorem dL_law_1191 : decode cL_law 1191 = .ok (.iaload, 1) := by decide +kernel
theorem dL_law_1192 : decode cL_law 1192 = .ok (.aload_n 0, 1) := by decide +kernel
theorem dL_law_1193 : decode cL_law 1193 = .ok (.iload_n 3, 1) := by decide +kernel
theorem dL_law_1194 : decode cL_law 1194 = .ok (.iconst 2, 1) := by decide +kernel
theorem dL_law_1195 : decode cL_law 1195 = .ok (.iadd, 1) := by decide +kernel
theorem dL_law_1196 : decode cL_law 1196 = .ok (.iaload, 1) := by decide +kernel
theorem dL_law_1197 : decode cL_law 1197 = .ok (.aload_n 0, 1) := by decide +kernel
theorem dL_law_1198 : decode cL_law 1198 = .ok (.iload_n 3, 1) := by decide +kernel
theorem dL_law_1199 : decode cL_law 1199 = .ok (.iconst 3, 1) := by decide +kernel
theorem dL_law_1200 : decode cL_law 1200 = .ok (.iadd, 1) := by decide +kernel
theorem dL_law_1201 : decode cL_law 1201 = .ok (.iaload, 1) := by decide +kernel
theorem dL_law_1202 : decode cL_law 1202 = .ok (.invokevirtual 127, 3) := by decide +kernel
theorem dL_law_1205 : decode cL_law 1205 = .ok (.aload_n 2, 1) := by decide +kernel
theorem dL_law_1206 : decode cL_law 1206 = .ok (.aload_n 0, 1) := by decide +kernel
theorem dL_law_1207 : decode cL_law 1207 = .ok (.iload_n 3, 1) := by decide +kernel
theorem dL_law_1208 : decode cL_law 1208 = .ok (.iconst 1, 1) := by decide +kernel
theorem dL_law_1209 : decode cL_law 1209 = .ok (.iadd, 1) := by decide +kernel
theorem dL_law_1210 : decode cL_law 1210 = .ok (.iaload, 1) := by decide +kernel
theorem dL_law_1211 : decode cL_law 1211 = .ok (.aload_n 0, 1) := by decide +kernel
theorem dL_law_1212 : decode cL_law 1212 = .ok (.iload_n 3, 1) := by decide +kernel
theorem dL_law_1213 : decode cL_law 1213 = .ok (.iconst 2, 1) := by decide +kernel
theorem dL_law_1214 : decode cL_law 1214 = .ok (.iadd, 1) := by decide +kernel
theorem dL_law_1215 : decode cL_law 1215 = .ok (.iaload, 1) := by decide +kernel
theorem dL_law_1216 : decode cL_law 1216 = .ok (.aload_n 0, 1) := by decide +kernel
theorem dL_law_1217 : decode cL_law 1217 = .ok (.iload_n 3, 1) := by decide +kernel
theorem dL_law_1218 : decode cL_law 1218 = .ok (.iconst 3, 1) := by decide +kernel
theorem dL_law_1219 : decode cL_law 1219 = .ok (.iadd, 1) := by decide +kernel
theorem dL_law_1220 : decode cL_law 1220 = .ok (.iaload, 1) := by decide +kernel
theorem dL_law_1221 : decode cL_law 1221 = .ok (.invokevirtual 130, 3) := by decide +kernel
theorem dL_law_1224 : decode cL_law 1224 = .ok (.if_icmp .eq 415, 3) := by decide +kernel
theorem dL_law_1227 : decode cL_law 1227 = .ok (.iconst 0, 1) := by decide +kernel
theorem dL_law_1228 : decode cL_law 1228 = .ok (.ireturn, 1) := by decide +kernel
theorem dL_law_1229 : decode cL_law 1229 = .ok (.aload_n 1, 1) := by decide +kernel
theorem dL_law_1230 : decode cL_law 1230 = .ok (.aload_n 0, 1) := by decide +kernel
theorem dL_law_1231 : decode cL_law 1231 = .ok (.iload_n 3, 1) := by decide +kernel
theorem dL_law_1232 : decode cL_law 1232 = .ok (.iconst 1, 1) := by decide +kernel
theorem dL_law_1233 : decode cL_law 1233 = .ok (.iadd, 1) := by decide +kernel
theorem dL_law_1234 : decode cL_law 1234 = .ok (.iaload, 1) := by decide +kernel
theorem dL_law_1235 : decode cL_law 1235 = .ok (.aload_n 0, 1) := by decide +kernel
theorem dL_law_1236 : decode cL_law 1236 = .ok (.iload_n 3, 1) := by decide +kernel
theorem dL_law_1237 : decode cL_law 1237 = .ok (.iconst 2, 1) := by decide +kernel
theorem dL_law_1238 : decode cL_law 1238 = .ok (.iadd, 1) := by decide +kernel
theorem dL_law_1239 : decode cL_law 1239 = .ok (.iaload, 1) := by decide +kernel
theorem dL_law_1240 : decode cL_law 1240 = .ok (.aload_n 0, 1) := by decide +kernel
theorem dL_law_1241 : decode cL_law 1241 = .ok (.iload_n 3, 1) := by decide +kernel
theorem dL_law_1242 : decode cL_law 1242 = .ok (.iconst 3, 1) := by decide +kernel
theorem dL_law_1243 : decode cL_law 1243 = .ok (.iadd, 1) := by decide +kernel
theorem dL_law_1244 : decode cL_law 1244 = .ok (.iaload, 1) := by decide +kernel
theorem dL_law_1245 : decode cL_law 1245 = .ok (.aload_n 0, 1) := by decide +kernel
theorem dL_law_1246 : decode cL_law 1246 = .ok (.iload_n 3, 1) := by decide +kernel
theorem dL_law_1247 : decode cL_law 1247 = .ok (.iconst 4, 1) := by decide +kernel
theorem dL_law_1248 : decode cL_law 1248 = .ok (.iadd, 1) := by decide +kernel
theorem dL_law_1249 : decode cL_law 1249 = .ok (.iaload, 1) := by decide +kernel
theorem dL_law_1250 : decode cL_law 1250 = .ok (.invokevirtual 131, 3) := by decide +kernel
theorem dL_law_1253 : decode cL_law 1253 = .ok (.aload_n 2, 1) := by decide +kernel
theorem dL_law_1254 : decode cL_law 1254 = .ok (.aload_n 0, 1) := by decide +kernel
theorem dL_law_1255 : decode cL_law 1255 = .ok (.iload_n 3, 1) := by decide +kernel
theorem dL_law_1256 : decode cL_law 1256 = .ok (.iconst 1, 1) := by decide +kernel
theorem dL_law_1257 : decode cL_law 1257 = .ok (.iadd, 1) := by decide +kernel
theorem dL_law_1258 : decode cL_law 1258 = .ok (.iaload, 1) := by decide +kernel
theorem dL_law_1259 : decode cL_law 1259 = .ok (.aload_n 0, 1) := by decide +kernel
theorem dL_law_1260 : decode cL_law 1260 = .ok (.iload_n 3, 1) := by decide +kernel
theorem dL_law_1261 : decode cL_law 1261 = .ok (.iconst 2, 1) := by decide +kernel
theorem dL_law_1262 : decode cL_law 1262 = .ok (.iadd, 1) := by decide +kernel
theorem dL_law_1263 : decode cL_law 1263 = .ok (.iaload, 1) := by decide +kernel
theorem dL_law_1264 : decode cL_law 1264 = .ok (.aload_n 0, 1) := by decide +kernel
theorem dL_law_1265 : decode cL_law 1265 = .ok (.iload_n 3, 1) := by decide +kernel
theorem dL_law_1266 : decode cL_law 1266 = .ok (.iconst 3, 1) := by decide +kernel
theorem dL_law_1267 : decode cL_law 1267 = .ok (.iadd, 1) := by decide +kernel
theorem dL_law_1268 : decode cL_law 1268 = .ok (.iaload, 1) := by decide +kernel
theorem dL_law_1269 : decode cL_law 1269 = .ok (.aload_n 0, 1) := by decide +kernel
theorem dL_law_1270 : decode cL_law 1270 = .ok (.iload_n 3, 1) := by decide +kernel
theorem dL_law_1271 : decode cL_law 1271 = .ok (.iconst 4, 1) := by decide +kernel
theorem dL_law_1272 : decode cL_law 1272 = .ok (.iadd, 1) := by decide +kernel
theorem dL_law_1273 : decode cL_law 1273 = .ok (.iaload, 1) := by decide +kernel
theorem dL_law_1274 : decode cL_law 1274 = .ok (.invokevirtual 134, 3) := by decide +kernel
theorem dL_law_1277 : decode cL_law 1277 = .ok (.if_icmp .eq 362, 3) := by decide +kernel
theorem dL_law_1280 : decode cL_law 1280 = .ok (.iconst 0, 1) := by decide +kernel
theorem dL_law_1281 : decode cL_law 1281 = .ok (.ireturn, 1) := by decide +kernel
theorem dL_law_1282 : decode cL_law 1282 = .ok (.aload_n 1, 1) := by decide +kernel
theorem dL_law_1283 : decode cL_law 1283 = .ok (.aload_n 0, 1) := by decide +kernel
theorem dL_law_1284 : decode cL_law 1284 = .ok (.iload_n 3, 1) := by decide +kernel
theorem dL_law_1285 : decode cL_law 1285 = .ok (.iconst 1, 1) := by decide +kernel
theorem dL_law_1286 : decode cL_law 1286 = .ok (.iadd, 1) := by decide +kernel
theorem dL_law_1287 : decode cL_law 1287 = .ok (.iaload, 1) := by decide +kernel
theorem dL_law_1288 : decode cL_law 1288 = .ok (.aload_n 0, 1) := by decide +kernel
theorem dL_law_1289 : decode cL_law 1289 = .ok (.iload_n 3, 1) := by decide +kernel
theorem dL_law_1290 : decode cL_law 1290 = .ok (.iconst 2, 1) := by decide +kernel
theorem dL_law_1291 : decode cL_law 1291 = .ok (.iadd, 1) := by decide +kernel
theorem dL_law_1292 : decode cL_law 1292 = .ok (.iaload, 1) := by decide +kernel
theorem dL_law_1293 : decode cL_law 1293 = .ok (.aload_n 0, 1) := by decide +kernel
theorem dL_law_1294 : decode cL_law 1294 = .ok (.iload_n 3, 1) := by decide +kernel
theorem dL_law_1295 : decode cL_law 1295 = .ok (.iconst 3, 1) := by decide +kernel
theorem dL_law_1296 : decode cL_law 1296 = .ok (.iadd, 1) := by decide +kernel
theorem dL_law_1297 : decode cL_law 1297 = .ok (.iaload, 1) := by decide +kernel
theorem dL_law_1298 : decode cL_law 1298 = .ok (.invokevirtual 135, 3) := by decide +kernel
theorem dL_law_1301 : decode cL_law 1301 = .ok (.aload_n 2, 1) := by decide +kernel
theorem dL_law_1302 : decode cL_law 1302 = .ok (.aload_n 0, 1) := by decide +kernel
theorem dL_law_1303 : decode cL_law 1303 = .ok (.iload_n 3, 1) := by decide +kernel
theorem dL_law_1304 : decode cL_law 1304 = .ok (.iconst 1, 1) := by decide +kernel
theorem dL_law_1305 : decode cL_law 1305 = .ok (.iadd, 1) := by decide +kernel
theorem dL_law_1306 : decode cL_law 1306 = .ok (.iaload, 1) := by decide +kernel
theorem dL_law_1307 : decode cL_law 1307 = .ok (.aload_n 0, 1) := by decide +kernel
theorem dL_law_1308 : decode cL_law 1308 = .ok (.iload_n 3, 1) := by decide +kernel
theorem dL_law_1309 : decode cL_law 1309 = .ok (.iconst 2, 1) := by decide +kernel
theorem dL_law_1310 : decode cL_law 1310 = .ok (.iadd, 1) := by decide +kernel
theorem dL_law_1311 : decode cL_law 1311 = .ok (.iaload, 1) := by decide +kernel
theorem dL_law_1312 : decode cL_law 1312 = .ok (.aload_n 0, 1) := by decide +kernel
theorem dL_law_1313 : decode cL_law 1313 = .ok (.iload_n 3, 1) := by decide +kernel
theorem dL_law_1314 : decode cL_law 1314 = .ok (.iconst 3, 1) := by decide +kernel
theorem dL_law_1315 : decode cL_law 1315 = .ok (.iadd, 1) := by decide +kernel
theorem dL_law_1316 : decode cL_law 1316 = .ok (.iaload, 1) := by decide +kernel
theorem dL_law_1317 : decode cL_law 1317 = .ok (.invokevirtual 138, 3) := by decide +kernel
theorem dL_law_1320 : decode cL_law 1320 = .ok (.if_icmp .eq 319, 3) := by decide +kernel
theorem dL_law_1323 : decode cL_law 1323 = .ok (.iconst 0, 1) := by decide +kernel
theorem dL_law_1324 : decode cL_law 1324 = .ok (.ireturn, 1) := by decide +kernel
theorem dL_law_1325 : decode cL_law 1325 = .ok (.aload_n 1, 1) := by decide +kernel
theorem dL_law_1326 : decode cL_law 1326 = .ok (.aload_n 0, 1) := by decide +kernel
theorem dL_law_1327 : decode cL_law 1327 = .ok (.iload_n 3, 1) := by decide +kernel
theorem dL_law_1328 : decode cL_law 1328 = .ok (.iconst 1, 1) := by decide +kernel
theorem dL_law_1329 : decode cL_law 1329 = .ok (.iadd, 1) := by decide +kernel
theorem dL_law_1330 : decode cL_law 1330 = .ok (.iaload, 1) := by decide +kernel
theorem dL_law_1331 : decode cL_law 1331 = .ok (.aload_n 0, 1) := by decide +kernel
theorem dL_law_1332 : decode cL_law 1332 = .ok (.iload_n 3, 1) := by decide +kernel
theorem dL_law_1333 : decode cL_law 1333 = .ok (.iconst 2, 1) := by decide +kernel
theorem dL_law_1334 : decode cL_law 1334 = .ok (.iadd, 1) := by decide +kernel
theorem dL_law_1335 : decode cL_law 1335 = .ok (.iaload, 1) := by decide +kernel
theorem dL_law_1336 : decode cL_law 1336 = .ok (.aload_n 0, 1) := by decide +kernel
theorem dL_law_1337 : decode cL_law 1337 = .ok (.iload_n 3, 1) := by decide +kernel
theorem dL_law_1338 : decode cL_law 1338 = .ok (.iconst 3, 1) := by decide +kernel
theorem dL_law_1339 : decode cL_law 1339 = .ok (.iadd, 1) := by decide +kernel
theorem dL_law_1340 : decode cL_law 1340 = .ok (.iaload, 1) := by decide +kernel
theorem dL_law_1341 : decode cL_law 1341 = .ok (.invokevirtual 139, 3) := by decide +kernel
theorem dL_law_1344 : decode cL_law 1344 = .ok (.aload_n 2, 1) := by decide +kernel
theorem dL_law_1345 : decode cL_law 1345 = .ok (.aload_n 0, 1) := by decide +kernel
theorem dL_law_1346 : decode cL_law 1346 = .ok (.iload_n 3, 1) := by decide +kernel
theorem dL_law_1347 : decode cL_law 1347 = .ok (.iconst 1, 1) := by decide +kernel
theorem dL_law_1348 : decode cL_law 1348 = .ok (.iadd, 1) := by decide +kernel
theorem dL_law_1349 : decode cL_law 1349 = .ok (.iaload, 1) := by decide +kernel
theorem dL_law_1350 : decode cL_law 1350 = .ok (.aload_n 0, 1) := by decide +kernel
theorem dL_law_1351 : decode cL_law 1351 = .ok (.iload_n 3, 1) := by decide +kernel
theorem dL_law_1352 : decode cL_law 1352 = .ok (.iconst 2, 1) := by decide +kernel
theorem dL_law_1353 : decode cL_law 1353 = .ok (.iadd, 1) := by decide +kernel
theorem dL_law_1354 : decode cL_law 1354 = .ok (.iaload, 1) := by decide +kernel
theorem dL_law_1355 : decode cL_law 1355 = .ok (.aload_n 0, 1) := by decide +kernel
theorem dL_law_1356 : decode cL_law 1356 = .ok (.iload_n 3, 1) := by decide +kernel
theorem dL_law_1357 : decode cL_law 1357 = .ok (.iconst 3, 1) := by decide +kernel
theorem dL_law_1358 : decode cL_law 1358 = .ok (.iadd, 1) := by decide +kernel
theorem dL_law_1359 : decode cL_law 1359 = .ok (.iaload, 1) := by decide +kernel
theorem dL_law_1360 : decode cL_law 1360 = .ok (.invokevirtual 142, 3) := by decide +kernel
theorem dL_law_1363 : decode cL_law 1363 = .ok (.if_icmp .eq 276, 3) := by decide +kernel
theorem dL_law_1366 : decode cL_law 1366 = .ok (.iconst 0, 1) := by decide +kernel
theorem dL_law_1367 : decode cL_law 1367 = .ok (.ireturn, 1) := by decide +kernel
theorem dL_law_1368 : decode cL_law 1368 = .ok (.aload_n 1, 1) := by decide +kernel
theorem dL_law_1369 : decode cL_law 1369 = .ok (.invokevirtual 143, 3) := by decide +kernel
theorem dL_law_1372 : decode cL_law 1372 = .ok (.aload_n 2, 1) := by decide +kernel
theorem dL_law_1373 : decode cL_law 1373 = .ok (.invokevirtual 146, 3) := by decide +kernel
theorem dL_law_1376 : decode cL_law 1376 = .ok (.if_icmp .eq 263, 3) := by decide +kernel
theorem dL_law_1379 : decode cL_law 1379 = .ok (.iconst 0, 1) := by decide +kernel
theorem dL_law_1380 : decode cL_law 1380 = .ok (.ireturn, 1) := by decide +kernel
theorem dL_law_1381 : decode cL_law 1381 = .ok (.aload_n 1, 1) := by decide +kernel
theorem dL_law_1382 : decode cL_law 1382 = .ok (.invokevirtual 147, 3) := by decide +kernel
theorem dL_law_1385 : decode cL_law 1385 = .ok (.aload_n 2, 1) := by decide +kernel
theorem dL_law_1386 : decode cL_law 1386 = .ok (.invokevirtual 150, 3) := by decide +kernel
theorem dL_law_1389 : decode cL_law 1389 = .ok (.if_icmp .eq 250, 3) := by decide +kernel
theorem dL_law_1392 : decode cL_law 1392 = .ok (.iconst 0, 1) := by decide +kernel
theorem dL_law_1393 : decode cL_law 1393 = .ok (.ireturn, 1) := by decide +kernel
theorem dL_law_1394 : decode cL_law 1394 = .ok (.aload_n 1, 1) := by decide +kernel
theorem dL_law_1395 : decode cL_law 1395 = .ok (.aload_n 0, 1) := by decide +kernel
theorem dL_law_1396 : decode cL_law 1396 = .ok (.iload_n 3, 1) := by decide +kernel
theorem dL_law_1397 : decode cL_law 1397 = .ok (.iconst 1, 1) := by decide +kernel
theorem dL_law_1398 : decode cL_law 1398 = .ok (.iadd, 1) := by decide +kernel
theorem dL_law_1399 : decode cL_law 1399 = .ok (.iaload, 1) := by decide +kernel
theorem dL_law_1400 : decode cL_law 1400 = .ok (.aload_n 0, 1) := by decide +kernel
theorem dL_law_1401 : decode cL_law 1401 = .ok (.iload_n 3, 1) := by decide +kernel
theorem dL_law_1402 : decode cL_law 1402 = .ok (.iconst 2, 1) := by decide +kernel
theorem dL_law_1403 : decode cL_law 1403 = .ok (.iadd, 1) := by decide +kernel
theorem dL_law_1404 : decode cL_law 1404 = .ok (.iaload, 1) := by decide +kernel
theorem dL_law_1405 : decode cL_law 1405 = .ok (.aload_n 0, 1) := by decide +kernel
theorem dL_law_1406 : decode cL_law 1406 = .ok (.iload_n 3, 1) := by decide +kernel
theorem dL_law_1407 : decode cL_law 1407 = .ok (.iconst 3, 1) := by decide +kernel
theorem dL_law_1408 : decode cL_law 1408 = .ok (.iadd, 1) := by decide +kernel
theorem dL_law_1409 : decode cL_law 1409 = .ok (.iaload, 1) := by decide +kernel
theorem dL_law_1410 : decode cL_law 1410 = .ok (.aload_n 0, 1) := by decide +kernel
theorem dL_law_1411 : decode cL_law 1411 = .ok (.iload_n 3, 1) := by decide +kernel
theorem dL_law_1412 : decode cL_law 1412 = .ok (.iconst 4, 1) := by decide +kernel
theorem dL_law_1413 : decode cL_law 1413 = .ok (.iadd, 1) := by decide +kernel
theorem dL_law_1414 : decode cL_law 1414 = .ok (.iaload, 1) := by decide +kernel
theorem dL_law_1415 : decode cL_law 1415 = .ok (.aload_n 0, 1) := by decide +kernel
theorem dL_law_1416 : decode cL_law 1416 = .ok (.iload_n 3, 1) := by decide +kernel
theorem dL_law_1417 : decode cL_law 1417 = .ok (.iconst 5, 1) := by decide +kernel
theorem dL_law_1418 : decode cL_law 1418 = .ok (.iadd, 1) := by decide +kernel
theorem dL_law_1419 : decode cL_law 1419 = .ok (.iaload, 1) := by decide +kernel
theorem dL_law_1420 : decode cL_law 1420 = .ok (.invokevirtual 151, 3) := by decide +kernel
theorem dL_law_1423 : decode cL_law 1423 = .ok (.aload_n 2, 1) := by decide +kernel
theorem dL_law_1424 : decode cL_law 1424 = .ok (.aload_n 0, 1) := by decide +kernel
theorem dL_law_1425 : decode cL_law 1425 = .ok (.iload_n 3, 1) := by decide +kernel
theorem dL_law_1426 : decode cL_law 1426 = .ok (.iconst 1, 1) := by decide +kernel
theorem dL_law_1427 : decode cL_law 1427 = .ok (.iadd, 1) := by decide +kernel
theorem dL_law_1428 : decode cL_law 1428 = .ok (.iaload, 1) := by decide +kernel
theorem dL_law_1429 : decode cL_law 1429 = .ok (.aload_n 0, 1) := by decide +kernel
theorem dL_law_1430 : decode cL_law 1430 = .ok (.iload_n 3, 1) := by decide +kernel
theorem dL_law_1431 : decode cL_law 1431 = .ok (.iconst 2, 1) := by decide +kernel
theorem dL_law_1432 : decode cL_law 1432 = .ok (.iadd, 1) := by decide +kernel
theorem dL_law_1433 : decode cL_law 1433 = .ok (.iaload, 1) := by decide +kernel
theorem dL_law_1434 : decode cL_law 1434 = .ok (.aload_n 0, 1) := by decide +kernel
theorem dL_law_1435 : decode cL_law 1435 = .ok (.iload_n 3, 1) := by decide +kernel
theorem dL_law_1436 : decode cL_law 1436 = .ok (.iconst 3, 1) := by decide +kernel
theorem dL_law_1437 : decode cL_law 1437 = .ok (.iadd, 1) := by decide +kernel
theorem dL_law_1438 : decode cL_law 1438 = .ok (.iaload, 1) := by decide +kernel
theorem dL_law_1439 : decode cL_law 1439 = .ok (.aload_n 0, 1) := by decide +kernel
theorem dL_law_1440 : decode cL_law 1440 = .ok (.iload_n 3, 1) := by decide +kernel
theorem dL_law_1441 : decode cL_law 1441 = .ok (.iconst 4, 1) := by decide +kernel
theorem dL_law_1442 : decode cL_law 1442 = .ok (.iadd, 1) := by decide +kernel
theorem dL_law_1443 : decode cL_law 1443 = .ok (.iaload, 1) := by decide +kernel
theorem dL_law_1444 : decode cL_law 1444 = .ok (.aload_n 0, 1) := by decide +kernel
theorem dL_law_1445 : decode cL_law 1445 = .ok (.iload_n 3, 1) := by decide +kernel
theorem dL_law_1446 : decode cL_law 1446 = .ok (.iconst 5, 1) := by decide +kernel
theorem dL_law_1447 : decode cL_law 1447 = .ok (.iadd, 1) := by decide +kernel
theorem dL_law_1448 : decode cL_law 1448 = .ok (.iaload, 1) := by decide +kernel
theorem dL_law_1449 : decode cL_law 1449 = .ok (.invokevirtual 154, 3) := by decide +kernel
theorem dL_law_1452 : decode cL_law 1452 = .ok (.if_icmp .eq 187, 3) := by decide +kernel
theorem dL_law_1455 : decode cL_law 1455 = .ok (.iconst 0, 1) := by decide +kernel
theorem dL_law_1456 : decode cL_law 1456 = .ok (.ireturn, 1) := by decide +kernel
theorem dL_law_1457 : decode cL_law 1457 = .ok (.aload_n 1, 1) := by decide +kernel
theorem dL_law_1458 : decode cL_law 1458 = .ok (.aload_n 0, 1) := by decide +kernel
theorem dL_law_1459 : decode cL_law 1459 = .ok (.iload_n 3, 1) := by decide +kernel
theorem dL_law_1460 : decode cL_law 1460 = .ok (.iconst 1, 1) := by decide +kernel
theorem dL_law_1461 : decode cL_law 1461 = .ok (.iadd, 1) := by decide +kernel
theorem dL_law_1462 : decode cL_law 1462 = .ok (.iaload, 1) := by decide +kernel
theorem dL_law_1463 : decode cL_law 1463 = .ok (.aload_n 0, 1) := by decide +kernel
theorem dL_law_1464 : decode cL_law 1464 = .ok (.iload_n 3, 1) := by decide +kernel
theorem dL_law_1465 : decode cL_law 1465 = .ok (.iconst 2, 1) := by decide +kernel
theorem dL_law_1466 : decode cL_law 1466 = .ok (.iadd, 1) := by decide +kernel
theorem dL_law_1467 : decode cL_law 1467 = .ok (.iaload, 1) := by decide +kernel
theorem dL_law_1468 : decode cL_law 1468 = .ok (.aload_n 0, 1) := by decide +kernel
theorem dL_law_1469 : decode cL_law 1469 = .ok (.iload_n 3, 1) := by decide +kernel
theorem dL_law_1470 : decode cL_law 1470 = .ok (.iconst 3, 1) := by decide +kernel
theorem dL_law_1471 : decode cL_law 1471 = .ok (.iadd, 1) := by decide +kernel
theorem dL_law_1472 : decode cL_law 1472 = .ok (.iaload, 1) := by decide +kernel
theorem dL_law_1473 : decode cL_law 1473 = .ok (.invokevirtual 155, 3) := by decide +kernel
theorem dL_law_1476 : decode cL_law 1476 = .ok (.aload_n 2, 1) := by decide +kernel
theorem dL_law_1477 : decode cL_law 1477 = .ok (.aload_n 0, 1) := by decide +kernel
theorem dL_law_1478 : decode cL_law 1478 = .ok (.iload_n 3, 1) := by decide +kernel
theorem dL_law_1479 : decode cL_law 1479 = .ok (.iconst 1, 1) := by decide +kernel
theorem dL_law_1480 : decode cL_law 1480 = .ok (.iadd, 1) := by decide +kernel
theorem dL_law_1481 : decode cL_law 1481 = .ok (.iaload, 1) := by decide +kernel
theorem dL_law_1482 : decode cL_law 1482 = .ok (.aload_n 0, 1) := by decide +kernel
theorem dL_law_1483 : decode cL_law 1483 = .ok (.iload_n 3, 1) := by decide +kernel
theorem dL_law_1484 : decode cL_law 1484 = .ok (.iconst 2, 1) := by decide +kernel
theorem dL_law_1485 : decode cL_law 1485 = .ok (.iadd, 1) := by decide +kernel
theorem dL_law_1486 : decode cL_law 1486 = .ok (.iaload, 1) := by decide +kernel
theorem dL_law_1487 : decode cL_law 1487 = .ok (.aload_n 0, 1) := by decide +kernel
theorem dL_law_1488 : decode cL_law 1488 = .ok (.iload_n 3, 1) := by decide +kernel
theorem dL_law_1489 : decode cL_law 1489 = .ok (.iconst 3, 1) := by decide +kernel
theorem dL_law_1490 : decode cL_law 1490 = .ok (.iadd, 1) := by decide +kernel
theorem dL_law_1491 : decode cL_law 1491 = .ok (.iaload, 1) := by decide +kernel
theorem dL_law_1492 : decode cL_law 1492 = .ok (.invokevirtual 158, 3) := by decide +kernel
theorem dL_law_1495 : decode cL_law 1495 = .ok (.if_icmp .eq 144, 3) := by decide +kernel
theorem dL_law_1498 : decode cL_law 1498 = .ok (.iconst 0, 1) := by decide +kernel
theorem dL_law_1499 : decode cL_law 1499 = .ok (.ireturn, 1) := by decide +kernel
theorem dL_law_1500 : decode cL_law 1500 = .ok (.aload_n 1, 1) := by decide +kernel
theorem dL_law_1501 : decode cL_law 1501 = .ok (.aload_n 0, 1) := by decide +kernel
theorem dL_law_1502 : decode cL_law 1502 = .ok (.iload_n 3, 1) := by decide +kernel
theorem dL_law_1503 : decode cL_law 1503 = .ok (.iconst 1, 1) := by decide +kernel
theorem dL_law_1504 : decode cL_law 1504 = .ok (.iadd, 1) := by decide +kernel
theorem dL_law_1505 : decode cL_law 1505 = .ok (.iaload, 1) := by decide +kernel
theorem dL_law_1506 : decode cL_law 1506 = .ok (.invokevirtual 159, 3) := by decide +kernel
theorem dL_law_1509 : decode cL_law 1509 = .ok (.aload_n 2, 1) := by decide +kernel
theorem dL_law_1510 : decode cL_law 1510 = .ok (.aload_n 0, 1) := by decide +kernel
theorem dL_law_1511 : decode cL_law 1511 = .ok (.iload_n 3, 1) := by decide +kernel
theorem dL_law_1512 : decode cL_law 1512 = .ok (.iconst 1, 1) := by decide +kernel
theorem dL_law_1513 : decode cL_law 1513 = .ok (.iadd, 1) := by decide +kernel
theorem dL_law_1514 : decode cL_law 1514 = .ok (.iaload, 1) := by decide +kernel
theorem dL_law_1515 : decode cL_law 1515 = .ok (.invokevirtual 162, 3) := by decide +kernel
theorem dL_law_1518 : decode cL_law 1518 = .ok (.if_icmp .eq 121, 3) := by decide +kernel
theorem dL_law_1521 : decode cL_law 1521 = .ok (.iconst 0, 1) := by decide +kernel
theorem dL_law_1522 : decode cL_law 1522 = .ok (.ireturn, 1) := by decide +kernel
theorem dL_law_1523 : decode cL_law 1523 = .ok (.aload_n 1, 1) := by decide +kernel
theorem dL_law_1524 : decode cL_law 1524 = .ok (.aload_n 0, 1) := by decide +kernel
theorem dL_law_1525 : decode cL_law 1525 = .ok (.iload_n 3, 1) := by decide +kernel
theorem dL_law_1526 : decode cL_law 1526 = .ok (.iconst 1, 1) := by decide +kernel
theorem dL_law_1527 : decode cL_law 1527 = .ok (.iadd, 1) := by decide +kernel
theorem dL_law_1528 : decode cL_law 1528 = .ok (.iaload, 1) := by decide +kernel
theorem dL_law_1529 : decode cL_law 1529 = .ok (.aload_n 0, 1) := by decide +kernel
theorem dL_law_1530 : decode cL_law 1530 = .ok (.iload_n 3, 1) := by decide +kernel
theorem dL_law_1531 : decode cL_law 1531 = .ok (.iconst 2, 1) := by decide +kernel
theorem dL_law_1532 : decode cL_law 1532 = .ok (.iadd, 1) := by decide +kernel
theorem dL_law_1533 : decode cL_law 1533 = .ok (.iaload, 1) := by decide +kernel
theorem dL_law_1534 : decode cL_law 1534 = .ok (.aload_n 0, 1) := by decide +kernel
theorem dL_law_1535 : decode cL_law 1535 = .ok (.iload_n 3, 1) := by decide +kernel
theorem dL_law_1536 : decode cL_law 1536 = .ok (.iconst 3, 1) := by decide +kernel
theorem dL_law_1537 : decode cL_law 1537 = .ok (.iadd, 1) := by decide +kernel
theorem dL_law_1538 : decode cL_law 1538 = .ok (.iaload, 1) := by decide +kernel
theorem dL_law_1539 : decode cL_law 1539 = .ok (.aload_n 0, 1) := by decide +kernel
theorem dL_law_1540 : decode cL_law 1540 = .ok (.iload_n 3, 1) := by decide +kernel
theorem dL_law_1541 : decode cL_law 1541 = .ok (.iconst 4, 1) := by decide +kernel
theorem dL_law_1542 : decode cL_law 1542 = .ok (.iadd, 1) := by decide +kernel
theorem dL_law_1543 : decode cL_law 1543 = .ok (.iaload, 1) := by decide +kernel
theorem dL_law_1544 : decode cL_law 1544 = .ok (.invokevirtual 163, 3) := by decide +kernel
theorem dL_law_1547 : decode cL_law 1547 = .ok (.aload_n 2, 1) := by decide +kernel
theorem dL_law_1548 : decode cL_law 1548 = .ok (.aload_n 0, 1) := by decide +kernel
theorem dL_law_1549 : decode cL_law 1549 = .ok (.iload_n 3, 1) := by decide +kernel
theorem dL_law_1550 : decode cL_law 1550 = .ok (.iconst 1, 1) := by decide +kernel
theorem dL_law_1551 : decode cL_law 1551 = .ok (.iadd, 1) := by decide +kernel
theorem dL_law_1552 : decode cL_law 1552 = .ok (.iaload, 1) := by decide +kernel
theorem dL_law_1553 : decode cL_law 1553 = .ok (.aload_n 0, 1) := by decide +kernel
theorem dL_law_1554 : decode cL_law 1554 = .ok (.iload_n 3, 1) := by decide +kernel
theorem dL_law_1555 : decode cL_law 1555 = .ok (.iconst 2, 1) := by decide +kernel
theorem dL_law_1556 : decode cL_law 1556 = .ok (.iadd, 1) := by decide +kernel
theorem dL_law_1557 : decode cL_law 1557 = .ok (.iaload, 1) := by decide +kernel
theorem dL_law_1558 : decode cL_law 1558 = .ok (.aload_n 0, 1) := by decide +kernel
theorem dL_law_1559 : decode cL_law 1559 = .ok (.iload_n 3, 1) := by decide +kernel
theorem dL_law_1560 : decode cL_law 1560 = .ok (.iconst 3, 1) := by decide +kernel
theorem dL_law_1561 : decode cL_law 1561 = .ok (.iadd, 1) := by decide +kernel
theorem dL_law_1562 : decode cL_law 1562 = .ok (.iaload, 1) := by decide +kernel
theorem dL_law_1563 : decode cL_law 1563 = .ok (.aload_n 0, 1) := by decide +kernel
theorem dL_law_1564 : decode cL_law 1564 = .ok (.iload_n 3, 1) := by decide +kernel
theorem dL_law_1565 : decode cL_law 1565 = .ok (.iconst 4, 1) := by decide +kernel
theorem dL_law_1566 : decode cL_law 1566 = .ok (.iadd, 1) := by decide +kernel
theorem dL_law_1567 : decode cL_law 1567 = .ok (.iaload, 1) := by decide +kernel
theorem dL_law_1568 : decode cL_law 1568 = .ok (.invokevirtual 166, 3) := by decide +kernel
theorem dL_law_1571 : decode cL_law 1571 = .ok (.if_icmp .eq 68, 3) := by decide +kernel
theorem dL_law_1574 : decode cL_law 1574 = .ok (.iconst 0, 1) := by decide +kernel
theorem dL_law_1575 : decode cL_law 1575 = .ok (.ireturn, 1) := by decide +kernel
theorem dL_law_1576 : decode cL_law 1576 = .ok (.aload_n 1, 1) := by decide +kernel
theorem dL_law_1577 : decode cL_law 1577 = .ok (.aload_n 0, 1) := by decide +kernel
theorem dL_law_1578 : decode cL_law 1578 = .ok (.iload_n 3, 1) := by decide +kernel
theorem dL_law_1579 : decode cL_law 1579 = .ok (.iconst 1, 1) := by decide +kernel
theorem dL_law_1580 : decode cL_law 1580 = .ok (.iadd, 1) := by decide +kernel
theorem dL_law_1581 : decode cL_law 1581 = .ok (.iaload, 1) := by decide +kernel
theorem dL_law_1582 : decode cL_law 1582 = .ok (.aload_n 0, 1) := by decide +kernel
theorem dL_law_1583 : decode cL_law 1583 = .ok (.iload_n 3, 1) := by decide +kernel
theorem dL_law_1584 : decode cL_law 1584 = .ok (.iconst 2, 1) := by decide +kernel
theorem dL_law_1585 : decode cL_law 1585 = .ok (.iadd, 1) := by decide +kernel
theorem dL_law_1586 : decode cL_law 1586 = .ok (.iaload, 1) := by decide +kernel
theorem dL_law_1587 : decode cL_law 1587 = .ok (.aload_n 0, 1) := by decide +kernel
theorem dL_law_1588 : decode cL_law 1588 = .ok (.iload_n 3, 1) := by decide +kernel
theorem dL_law_1589 : decode cL_law 1589 = .ok (.iconst 3, 1) := by decide +kernel
theorem dL_law_1590 : decode cL_law 1590 = .ok (.iadd, 1) := by decide +kernel
theorem dL_law_1591 : decode cL_law 1591 = .ok (.iaload, 1) := by decide +kernel
theorem dL_law_1592 : decode cL_law 1592 = .ok (.aload_n 0, 1) := by decide +kernel
theorem dL_law_1593 : decode cL_law 1593 = .ok (.iload_n 3, 1) := by decide +kernel
theorem dL_law_1594 : decode cL_law 1594 = .ok (.iconst 4, 1) := by decide +kernel
theorem dL_law_1595 : decode cL_law 1595 = .ok (.iadd, 1) := by decide +kernel
theorem dL_law_1596 : decode cL_law 1596 = .ok (.iaload, 1) := by decide +kernel
theorem dL_law_1597 : decode cL_law 1597 = .ok (.aload_n 0, 1) := by decide +kernel
theorem dL_law_1598 : decode cL_law 1598 = .ok (.iload_n 3, 1) := by decide +kernel
theorem dL_law_1599 : decode cL_law 1599 = .ok (.iconst 5, 1) := by decide +kernel
theorem dL_law_1600 : decode cL_law 1600 = .ok (.iadd, 1) := by decide +kernel
theorem dL_law_1601 : decode cL_law 1601 = .ok (.iaload, 1) := by decide +kernel
theorem dL_law_1602 : decode cL_law 1602 = .ok (.invokevirtual 167, 3) := by decide +kernel
theorem dL_law_1605 : decode cL_law 1605 = .ok (.aload_n 2, 1) := by decide +kernel
theorem dL_law_1606 : decode cL_law 1606 = .ok (.aload_n 0, 1) := by decide +kernel
theorem dL_law_1607 : decode cL_law 1607 = .ok (.iload_n 3, 1) := by decide +kernel
theorem dL_law_1608 : decode cL_law 1608 = .ok (.iconst 1, 1) := by decide +kernel
theorem dL_law_1609 : decode cL_law 1609 = .ok (.iadd, 1) := by decide +kernel
theorem dL_law_1610 : decode cL_law 1610 = .ok (.iaload, 1) := by decide +kernel
theorem dL_law_1611 : decode cL_law 1611 = .ok (.aload_n 0, 1) := by decide +kernel
theorem dL_law_1612 : decode cL_law 1612 = .ok (.iload_n 3, 1) := by decide +kernel
theorem dL_law_1613 : decode cL_law 1613 = .ok (.iconst 2, 1) := by decide +kernel
theorem dL_law_1614 : decode cL_law 1614 = .ok (.iadd, 1) := by decide +kernel
theorem dL_law_1615 : decode cL_law 1615 = .ok (.iaload, 1) := by decide +kernel
theorem dL_law_1616 : decode cL_law 1616 = .ok (.aload_n 0, 1) := by decide +kernel
theorem dL_law_1617 : decode cL_law 1617 = .ok (.iload_n 3, 1) := by decide +kernel
theorem dL_law_1618 : decode cL_law 1618 = .ok (.iconst 3, 1) := by decide +kernel
theorem dL_law_1619 : decode cL_law 1619 = .ok (.iadd, 1) := by decide +kernel
theorem dL_law_1620 : decode cL_law 1620 = .ok (.iaload, 1) := by decide +kernel
theorem dL_law_1621 : decode cL_law 1621 = .ok (.aload_n 0, 1) := by decide +kernel
theorem dL_law_1622 : decode cL_law 1622 = .ok (.iload_n 3, 1) := by decide +kernel
theorem dL_law_1623 : decode cL_law 1623 = .ok (.iconst 4, 1) := by decide +kernel
theorem dL_law_1624 : decode cL_law 1624 = .ok (.iadd, 1) := by decide +kernel
theorem dL_law_1625 : decode cL_law 1625 = .ok (.iaload, 1) := by decide +kernel
theorem dL_law_1626 : decode cL_law 1626 = .ok (.aload_n 0, 1) := by decide +kernel
theorem dL_law_1627 : decode cL_law 1627 = .ok (.iload_n 3, 1) := by decide +kernel
theorem dL_law_1628 : decode cL_law 1628 = .ok (.iconst 5, 1) := by decide +kernel
theorem dL_law_1629 : decode cL_law 1629 = .ok (.iadd, 1) := by decide +kernel
theorem dL_law_1630 : decode cL_law 1630 = .ok (.iaload, 1) := by decide +kernel
theorem dL_law_1631 : decode cL_law 1631 = .ok (.invokevirtual 170, 3) := by decide +kernel
theorem dL_law_1634 : decode cL_law 1634 = .ok (.if_icmp .eq 5, 3) := by decide +kernel
theorem dL_law_1637 : decode cL_law 1637 = .ok (.iconst 0, 1) := by decide +kernel
theorem dL_law_1638 : decode cL_law 1638 = .ok (.ireturn, 1) := by decide +kernel
theorem dL_law_1639 : decode cL_law 1639 = .ok (.iinc 3 7, 3) := by decide +kernel
theorem dL_law_1642 : decode cL_law 1642 = .ok (.goto (-1624), 3) := by decide +kernel
theorem dL_law_1645 : decode cL_law 1645 = .ok (.iconst 1, 1) := by decide +kernel
theorem dL_law_1646 : decode cL_law 1646 = .ok (.ireturn, 1) := by decide +kernel
end
section
/-! Ints of the machine as whole numbers: iI z is the int of z -/
def iI (z : Int) : Int32 := Int32.ofInt z
theorem iI_add (x y : Int) : iI x + iI y = iI (x + y) := (Int32.ofInt_add x y).symm
theorem iI_sub (x y : Int) : iI x - iI y = iI (x - y) := (Int32.ofInt_sub x y).symm
theorem iI_mul (x y : Int) : iI x * iI y = iI (x * y) := (Int32.ofInt_mul x y).symm
theorem iI_neg (x : Int) : - iI x = iI (-x) := (Int32.ofInt_neg x).symm
theorem iI_toInt {z : Int} (h : -2147483648 ≤ z ∧ z < 2147483648) : (iI z).toInt = z := Int32.toInt_ofInt_of_le (by show -2147483648 ≤ z; exact h.1) (by show z < 2147483648; exact h.2)
theorem iI_of (x : Int32) : iI x.toInt = x := Int32.ofInt_toInt x
theorem iI_rng (x : Int32) : -2147483648 ≤ x.toInt ∧ x.toInt < 2147483648 := ⟨x.le_toInt, by have := x.toInt_lt; exact this⟩
theorem iI_lt {x y : Int} (hx : -2147483648 ≤ x ∧ x < 2147483648) (hy : -2147483648 ≤ y ∧ y < 2147483648) : iI x < iI y ↔ x < y := by
  rw [Int32.lt_iff_toInt_lt, iI_toInt hx, iI_toInt hy]
theorem iI_le {x y : Int} (hx : -2147483648 ≤ x ∧ x < 2147483648) (hy : -2147483648 ≤ y ∧ y < 2147483648) : iI x ≤ iI y ↔ x ≤ y := by
  rw [Int32.le_iff_toInt_le, iI_toInt hx, iI_toInt hy]
theorem iI_eq {x y : Int} (hx : -2147483648 ≤ x ∧ x < 2147483648) (hy : -2147483648 ≤ y ∧ y < 2147483648) : iI x = iI y ↔ x = y := by
  constructor
  · intro h
    have := congrArg Int32.toInt h
    rwa [iI_toInt hx, iI_toInt hy] at this
  · intro h
    rw [h]
theorem iI_nat (n : Nat) : iI (n : Int) = nI n := rfl
theorem iI_clamp {i : Int} (h0 : 0 ≤ i) (h : i < 2147483648) : (iI i).toNatClampNeg = i.toNat := by
  obtain ⟨n, rfl⟩ := Int.eq_ofNat_of_zero_le h0
  rw [iI_nat, nI_clamp (by omega)]
  rfl
theorem iI_in {i : Int} {n : Nat} (h : 0 ≤ i ∧ i < n) (hn : n < 2147483648) : vp_in (iI i) n := by
  rw [vp_in_iff, iI_toInt (by omega)]
  exact h
theorem iI_div {x y : Int} (hx : -2147483648 ≤ x ∧ x < 2147483648) (hy : -2147483648 ≤ y ∧ y < 2147483648) : iI x / iI y = iI (x.tdiv y) :=
  (Int32.ofInt_tdiv (by show -2147483648 ≤ x; exact hx.1) (by show x ≤ 2147483647; omega) (by show -2147483648 ≤ y; exact hy.1) (by show y ≤ 2147483647; omega)).symm
theorem iI_rem {x y : Int} (hx : -2147483648 ≤ x ∧ x < 2147483648) (hy : -2147483648 ≤ y ∧ y < 2147483648) : iI x - iI x / iI y * iI y = iI (x.tmod y) := by
  rw [iI_div hx hy, iI_mul, iI_sub, Int.tmod_def, Int.mul_comm]
theorem iI_ne0 {y : Int} (hy : -2147483648 ≤ y ∧ y < 2147483648) (h : y ≠ 0) : ¬ iI y = 0 := fun q => h ((iI_eq hy (by omega)).mp q)
/-! worlds: where everything lies (D, the arrays' classes, the addresses, the statics' addresses, what may be written) -/
abbrev GT : Type := va_G × (Nat → ClassId) × (Nat → Nat) × (Nat → Nat) × (Nat → Prop)
def cy (G : GT) (k : Nat) : ClassId := G.2.1 k
def ad (G : GT) (k : Nat) : Nat := G.2.2.1 k
def sd (G : GT) (k : Nat) : Nat := G.2.2.2.1 k
def gA (G : GT) : Nat → Prop := G.2.2.2.2
end
section
/-! the words that every method has, by their places -/
def TBL : List Cond := lw_tbl.filter goodWord
theorem tbl_1 {w : Cond} (h : w ∈ tables_1_1) (hg : goodWord w = true) : w ∈ TBL := List.mem_filter.mpr ⟨List.mem_append_right _ (show w ∈ tables_1 from List.mem_append_left _ h), hg⟩
theorem tbl_2 {w : Cond} (h : w ∈ tables_1_2) (hg : goodWord w = true) : w ∈ TBL := List.mem_filter.mpr ⟨List.mem_append_right _ (show w ∈ tables_1 from List.mem_append_right _ (List.mem_append_left _ h)), hg⟩
theorem tbl_3 {w : Cond} (h : w ∈ tables_1_3) (hg : goodWord w = true) : w ∈ TBL := List.mem_filter.mpr ⟨List.mem_append_right _ (show w ∈ tables_1 from List.mem_append_right _ (List.mem_append_right _ (List.mem_append_left _ h))), hg⟩
theorem tbl_4 {w : Cond} (h : w ∈ tables_1_4) (hg : goodWord w = true) : w ∈ TBL := List.mem_filter.mpr ⟨List.mem_append_right _ (show w ∈ tables_1 from List.mem_append_right _ (List.mem_append_right _ (List.mem_append_right _ (List.mem_append_left _ h)))), hg⟩
theorem tbl_5 {w : Cond} (h : w ∈ tables_1_5) (hg : goodWord w = true) : w ∈ TBL := List.mem_filter.mpr ⟨List.mem_append_right _ (show w ∈ tables_1 from List.mem_append_right _ (List.mem_append_right _ (List.mem_append_right _ (List.mem_append_right _ h)))), hg⟩
def NW : List Cond := [Cond.methodLinkNest RX7 9 yX1_init "DeepShip", Cond.fieldLinkNest RX2 24 "DeepShip" "PACES" "[I" "DeepShip", Cond.methodLinkNest RX7 44 yX0_init "DeepShip", Cond.methodLinkNest RX7 51 yX4_init "DeepShip", Cond.methodLinkNest RX7 58 yX3_init "DeepShip", Cond.methodLinkNest RX4 29 yX7_within "DeepShip", Cond.fieldLinkNest RX4 80 "DeepShip" "LOWEST_MARK" "[I" "DeepShip", Cond.fieldLinkNest RX4 83 "DeepShip" "HIGHEST_MARK" "[I" "DeepShip", Cond.methodLinkNest RX6 52 yX7_minutesBy "DeepShip", Cond.methodLinkNest RX2 70 yX7_within "DeepShip", Cond.methodLinkNest RX2 74 yX7_putBit "DeepShip", Cond.fieldLinkNest RX2 134 "DeepShip" "TAKES" "[I" "DeepShip", Cond.methodLinkNest RX2 113 yX7_firstFrom "DeepShip", Cond.methodLinkNest RX2 130 yX7_hasBit "DeepShip", Cond.methodLinkNest RX2 123 yX7_minutesBy "DeepShip", Cond.methodLinkNest RX0 44 yX7_firstFrom "DeepShip", Cond.methodLinkNest RX3 43 yX7_within "DeepShip"]
theorem NW_warm {s U : State} (hW : s.WarmedH U.vm) : ∀ w ∈ NW, va_Nw w s → va_Nw w U := List.forall_mem_cons.mpr ⟨fun h => va_Nw.warmM hW h, List.forall_mem_cons.mpr ⟨fun h => va_Nw.warmF hW h, List.forall_mem_cons.mpr ⟨fun h => va_Nw.warmM hW h, List.forall_mem_cons.mpr ⟨fun h => va_Nw.warmM hW h, List.forall_mem_cons.mpr ⟨fun h => va_Nw.warmM hW h, List.forall_mem_cons.mpr ⟨fun h => va_Nw.warmM hW h, List.forall_mem_cons.mpr ⟨fun h => va_Nw.warmF hW h, List.forall_mem_cons.mpr ⟨fun h => va_Nw.warmF hW h, List.forall_mem_cons.mpr ⟨fun h => va_Nw.warmM hW h, List.forall_mem_cons.mpr ⟨fun h => va_Nw.warmM hW h, List.forall_mem_cons.mpr ⟨fun h => va_Nw.warmM hW h, List.forall_mem_cons.mpr ⟨fun h => va_Nw.warmF hW h, List.forall_mem_cons.mpr ⟨fun h => va_Nw.warmM hW h, List.forall_mem_cons.mpr ⟨fun h => va_Nw.warmM hW h, List.forall_mem_cons.mpr ⟨fun h => va_Nw.warmM hW h, List.forall_mem_cons.mpr ⟨fun h => va_Nw.warmM hW h, List.forall_mem_cons.mpr ⟨fun h => va_Nw.warmM hW h, fun _ h => absurd h List.not_mem_nil⟩⟩⟩⟩⟩⟩⟩⟩⟩⟩⟩⟩⟩⟩⟩⟩⟩
theorem nw_0 : Cond.methodLinkNest RX7 9 yX1_init "DeepShip" ∈ NW := List.mem_of_getElem? (i := 0) rfl
theorem nw_1 : Cond.fieldLinkNest RX2 24 "DeepShip" "PACES" "[I" "DeepShip" ∈ NW := List.mem_of_getElem? (i := 1) rfl
theorem nw_2 : Cond.methodLinkNest RX7 44 yX0_init "DeepShip" ∈ NW := List.mem_of_getElem? (i := 2) rfl
theorem nw_3 : Cond.methodLinkNest RX7 51 yX4_init "DeepShip" ∈ NW := List.mem_of_getElem? (i := 3) rfl
theorem nw_4 : Cond.methodLinkNest RX7 58 yX3_init "DeepShip" ∈ NW := List.mem_of_getElem? (i := 4) rfl
theorem nw_5 : Cond.methodLinkNest RX4 29 yX7_within "DeepShip" ∈ NW := List.mem_of_getElem? (i := 5) rfl
theorem nw_6 : Cond.fieldLinkNest RX4 80 "DeepShip" "LOWEST_MARK" "[I" "DeepShip" ∈ NW := List.mem_of_getElem? (i := 6) rfl
theorem nw_7 : Cond.fieldLinkNest RX4 83 "DeepShip" "HIGHEST_MARK" "[I" "DeepShip" ∈ NW := List.mem_of_getElem? (i := 7) rfl
theorem nw_8 : Cond.methodLinkNest RX6 52 yX7_minutesBy "DeepShip" ∈ NW := List.mem_of_getElem? (i := 8) rfl
theorem nw_9 : Cond.methodLinkNest RX2 70 yX7_within "DeepShip" ∈ NW := List.mem_of_getElem? (i := 9) rfl
theorem nw_10 : Cond.methodLinkNest RX2 74 yX7_putBit "DeepShip" ∈ NW := List.mem_of_getElem? (i := 10) rfl
theorem nw_11 : Cond.fieldLinkNest RX2 134 "DeepShip" "TAKES" "[I" "DeepShip" ∈ NW := List.mem_of_getElem? (i := 11) rfl
theorem nw_12 : Cond.methodLinkNest RX2 113 yX7_firstFrom "DeepShip" ∈ NW := List.mem_of_getElem? (i := 12) rfl
theorem nw_13 : Cond.methodLinkNest RX2 130 yX7_hasBit "DeepShip" ∈ NW := List.mem_of_getElem? (i := 13) rfl
theorem nw_14 : Cond.methodLinkNest RX2 123 yX7_minutesBy "DeepShip" ∈ NW := List.mem_of_getElem? (i := 14) rfl
theorem nw_15 : Cond.methodLinkNest RX0 44 yX7_firstFrom "DeepShip" ∈ NW := List.mem_of_getElem? (i := 15) rfl
theorem nw_16 : Cond.methodLinkNest RX3 43 yX7_within "DeepShip" ∈ NW := List.mem_of_getElem? (i := 16) rfl
theorem tb_1_0 : Cond.initialized RL ∈ TBL := tbl_1 (List.mem_of_getElem? (i := 0) (by decide +kernel)) rfl
theorem tb_1_1 : Cond.initialized RX7 ∈ TBL := tbl_1 (List.mem_of_getElem? (i := 1) (by decide +kernel)) rfl
theorem tb_1_2 : Cond.initialized RX1 ∈ TBL := tbl_1 (List.mem_of_getElem? (i := 2) (by decide +kernel)) rfl
theorem tb_1_3 : Cond.initialized RX5 ∈ TBL := tbl_1 (List.mem_of_getElem? (i := 3) (by decide +kernel)) rfl
theorem tb_1_4 : Cond.initialized RX6 ∈ TBL := tbl_1 (List.mem_of_getElem? (i := 4) (by decide +kernel)) rfl
theorem tb_1_5 : Cond.initialized RX2 ∈ TBL := tbl_1 (List.mem_of_getElem? (i := 5) (by decide +kernel)) rfl
theorem tb_1_6 : Cond.initialized RX0 ∈ TBL := tbl_1 (List.mem_of_getElem? (i := 6) (by decide +kernel)) rfl
theorem tb_1_7 : Cond.initialized RX4 ∈ TBL := tbl_1 (List.mem_of_getElem? (i := 7) (by decide +kernel)) rfl
theorem tb_1_8 : Cond.initialized RX3 ∈ TBL := tbl_1 (List.mem_of_getElem? (i := 8) (by decide +kernel)) rfl
theorem tb_1_9 : Cond.initialized RX8 ∈ TBL := tbl_1 (List.mem_of_getElem? (i := 9) (by decide +kernel)) rfl
theorem tb_1_10 : Cond.initialized RJ9 ∈ TBL := tbl_1 (List.mem_of_getElem? (i := 10) (by decide +kernel)) rfl
theorem tb_1_11 : Cond.initialized RJ10 ∈ TBL := tbl_1 (List.mem_of_getElem? (i := 11) (by decide +kernel)) rfl
theorem tb_1_12 : Cond.initialized RJ13 ∈ TBL := tbl_1 (List.mem_of_getElem? (i := 12) (by decide +kernel)) rfl
theorem tb_1_13 : Cond.initialized RJ6 ∈ TBL := tbl_1 (List.mem_of_getElem? (i := 13) (by decide +kernel)) rfl
theorem tb_1_14 : Cond.classLink RL 7 "DeepShip" ∈ TBL := tbl_1 (List.mem_of_getElem? (i := 14) (by decide +kernel)) rfl
theorem tb_1_15 : Cond.instantiable RX7 10 ∈ TBL := tbl_1 (List.mem_of_getElem? (i := 15) (by decide +kernel)) rfl
theorem tb_1_16 : Cond.methodLink RL 9 yX7_init ∈ TBL := tbl_1 (List.mem_of_getElem? (i := 16) (by decide +kernel)) rfl
theorem tb_1_17 : Cond.instanceMethod yX7_init ∈ TBL := tbl_1 (List.mem_of_getElem? (i := 17) (by decide +kernel)) rfl
theorem tb_1_18 : Cond.code yX7_init prog_1_method_1_code 1 none ∈ TBL := tbl_1 (List.mem_of_getElem? (i := 18) (by rfl)) rfl
theorem tb_1_19 : Cond.methodLink RX7 1 objectInit ∈ TBL := tbl_1 (List.mem_of_getElem? (i := 19) (by decide +kernel)) rfl
theorem tb_1_20 : Cond.instanceMethod objectInit ∈ TBL := tbl_1 (List.mem_of_getElem? (i := 20) (by decide +kernel)) rfl
theorem tb_1_21 : Cond.code objectInit object_method_1_code 1 none ∈ TBL := tbl_1 (List.mem_of_getElem? (i := 21) (by rfl)) rfl
theorem tb_1_22 : Cond.classLink RX7 7 "DeepShip$Port" ∈ TBL := tbl_1 (List.mem_of_getElem? (i := 22) (by decide +kernel)) rfl
theorem tb_1_23 : Cond.instantiable RX1 6 ∈ TBL := tbl_1 (List.mem_of_getElem? (i := 23) (by decide +kernel)) rfl
theorem tb_1_25 : Cond.instanceMethod yX1_init ∈ TBL := tbl_1 (List.mem_of_getElem? (i := 25) (by decide +kernel)) rfl
theorem tb_1_26 : Cond.code yX1_init prog_3_method_1_code 1 none ∈ TBL := tbl_1 (List.mem_of_getElem? (i := 26) (by rfl)) rfl
theorem tb_1_27 : Cond.methodLink RX1 3 objectInit ∈ TBL := tbl_1 (List.mem_of_getElem? (i := 27) (by decide +kernel)) rfl
theorem tb_1_28 : Cond.fieldLink RX1 9 "DeepShip$Port" "miles" "I" ∈ TBL := tbl_1 (List.mem_of_getElem? (i := 28) (by decide +kernel)) rfl
theorem tb_1_29 : Cond.fieldLink RX6 28 "DeepShip$Port" "miles" "I" ∈ TBL := tbl_1 (List.mem_of_getElem? (i := 29) (by decide +kernel)) rfl
theorem tb_1_30 : Cond.fieldLink RX2 78 "DeepShip$Port" "miles" "I" ∈ TBL := tbl_1 (List.mem_of_getElem? (i := 30) (by decide +kernel)) rfl
theorem tb_1_31 : Cond.fieldLink RX7 133 "DeepShip$Port" "miles" "I" ∈ TBL := tbl_1 (List.mem_of_getElem? (i := 31) (by decide +kernel)) rfl
theorem tb_1_32 : Cond.fieldLink RX1 15 "DeepShip$Port" "ships" "I" ∈ TBL := tbl_1 (List.mem_of_getElem? (i := 32) (by decide +kernel)) rfl
theorem tb_1_33 : Cond.fieldLink RX7 137 "DeepShip$Port" "ships" "I" ∈ TBL := tbl_1 (List.mem_of_getElem? (i := 33) (by decide +kernel)) rfl
theorem tb_1_34 : Cond.fieldLink RX1 18 "DeepShip$Port" "heights" "[I" ∈ TBL := tbl_1 (List.mem_of_getElem? (i := 34) (by decide +kernel)) rfl
theorem tb_1_35 : Cond.fieldLink RX2 48 "DeepShip$Port" "heights" "[I" ∈ TBL := tbl_1 (List.mem_of_getElem? (i := 35) (by decide +kernel)) rfl
theorem tb_1_36 : Cond.fieldLink RX7 94 "DeepShip$Port" "heights" "[I" ∈ TBL := tbl_1 (List.mem_of_getElem? (i := 36) (by decide +kernel)) rfl
theorem tb_1_37 : Cond.fieldLink RX1 22 "DeepShip$Port" "settings" "[I" ∈ TBL := tbl_1 (List.mem_of_getElem? (i := 37) (by decide +kernel)) rfl
theorem tb_1_38 : Cond.fieldLink RX5 43 "DeepShip$Port" "settings" "[I" ∈ TBL := tbl_1 (List.mem_of_getElem? (i := 38) (by decide +kernel)) rfl
theorem tb_1_39 : Cond.fieldLink RX2 59 "DeepShip$Port" "settings" "[I" ∈ TBL := tbl_1 (List.mem_of_getElem? (i := 39) (by decide +kernel)) rfl
theorem tb_1_40 : Cond.fieldLink RX7 100 "DeepShip$Port" "settings" "[I" ∈ TBL := tbl_1 (List.mem_of_getElem? (i := 40) (by decide +kernel)) rfl
theorem tb_1_41 : Cond.fieldLink RX1 25 "DeepShip$Port" "marks" "[I" ∈ TBL := tbl_1 (List.mem_of_getElem? (i := 41) (by decide +kernel)) rfl
theorem tb_1_42 : Cond.fieldLink RX1 28 "DeepShip$Port" "hulls" "[I" ∈ TBL := tbl_1 (List.mem_of_getElem? (i := 42) (by decide +kernel)) rfl
theorem tb_1_57 : Cond.classLink RX7 19 "DeepShip$Trial" ∈ TBL := tbl_1 (List.mem_of_getElem? (i := 57) (by decide +kernel)) rfl
theorem tb_1_58 : Cond.instantiable RX5 8 ∈ TBL := tbl_1 (List.mem_of_getElem? (i := 58) (by decide +kernel)) rfl
theorem tb_1_59 : Cond.methodLink RX7 21 yX5_init ∈ TBL := tbl_1 (List.mem_of_getElem? (i := 59) (by decide +kernel)) rfl
theorem tb_1_60 : Cond.instanceMethod yX5_init ∈ TBL := tbl_1 (List.mem_of_getElem? (i := 60) (by decide +kernel)) rfl
theorem tb_1_61 : Cond.code yX5_init prog_7_method_1_code 2 none ∈ TBL := tbl_1 (List.mem_of_getElem? (i := 61) (by rfl)) rfl
theorem tb_1_62 : Cond.methodLink RX5 3 objectInit ∈ TBL := tbl_1 (List.mem_of_getElem? (i := 62) (by decide +kernel)) rfl
theorem tb_1_63 : Cond.fieldLink RX5 33 "DeepShip$Trial" "port" "LDeepShip$Port;" ∈ TBL := tbl_1 (List.mem_of_getElem? (i := 63) (by decide +kernel)) rfl
theorem tb_1_64 : Cond.fieldLink RX5 9 "DeepShip$Trial" "draught" "I" ∈ TBL := tbl_1 (List.mem_of_getElem? (i := 64) (by decide +kernel)) rfl
theorem tb_1_65 : Cond.fieldLink RX5 15 "DeepShip$Trial" "breadth" "I" ∈ TBL := tbl_1 (List.mem_of_getElem? (i := 65) (by decide +kernel)) rfl
theorem tb_1_66 : Cond.fieldLink RX5 18 "DeepShip$Trial" "rule" "I" ∈ TBL := tbl_1 (List.mem_of_getElem? (i := 66) (by decide +kernel)) rfl
theorem tb_1_67 : Cond.fieldLink RX5 21 "DeepShip$Trial" "leastUnder" "I" ∈ TBL := tbl_1 (List.mem_of_getElem? (i := 67) (by decide +kernel)) rfl
theorem tb_1_68 : Cond.fieldLink RX5 24 "DeepShip$Trial" "wind" "I" ∈ TBL := tbl_1 (List.mem_of_getElem? (i := 68) (by decide +kernel)) rfl
theorem tb_1_69 : Cond.fieldLink RX7 279 "DeepShip$Trial" "wind" "I" ∈ TBL := tbl_1 (List.mem_of_getElem? (i := 69) (by decide +kernel)) rfl
theorem tb_1_70 : Cond.fieldLink RX5 27 "DeepShip$Trial" "needed" "I" ∈ TBL := tbl_1 (List.mem_of_getElem? (i := 70) (by decide +kernel)) rfl
theorem tb_1_71 : Cond.fieldLink RX2 85 "DeepShip$Trial" "needed" "I" ∈ TBL := tbl_1 (List.mem_of_getElem? (i := 71) (by decide +kernel)) rfl
theorem tb_1_72 : Cond.fieldLink RX7 171 "DeepShip$Trial" "needed" "I" ∈ TBL := tbl_1 (List.mem_of_getElem? (i := 72) (by decide +kernel)) rfl
theorem tb_1_73 : Cond.fieldLink RX5 30 "DeepShip$Trial" "dug" "I" ∈ TBL := tbl_1 (List.mem_of_getElem? (i := 73) (by decide +kernel)) rfl
theorem tb_1_74 : Cond.fieldLink RX7 269 "DeepShip$Trial" "dug" "I" ∈ TBL := tbl_1 (List.mem_of_getElem? (i := 74) (by decide +kernel)) rfl
theorem tb_1_92 : Cond.classLink RX7 28 "DeepShip$Voyage" ∈ TBL := tbl_1 (List.mem_of_getElem? (i := 92) (by decide +kernel)) rfl
theorem tb_1_93 : Cond.instantiable RX6 4 ∈ TBL := tbl_1 (List.mem_of_getElem? (i := 93) (by decide +kernel)) rfl
theorem tb_1_94 : Cond.methodLink RX7 30 yX6_init ∈ TBL := tbl_1 (List.mem_of_getElem? (i := 94) (by decide +kernel)) rfl
theorem tb_1_95 : Cond.instanceMethod yX6_init ∈ TBL := tbl_1 (List.mem_of_getElem? (i := 95) (by decide +kernel)) rfl
theorem tb_1_96 : Cond.code yX6_init prog_8_method_1_code 2 none ∈ TBL := tbl_1 (List.mem_of_getElem? (i := 96) (by rfl)) rfl
theorem tb_1_97 : Cond.methodLink RX6 3 objectInit ∈ TBL := tbl_1 (List.mem_of_getElem? (i := 97) (by decide +kernel)) rfl
theorem tb_1_98 : Cond.fieldLink RX6 21 "DeepShip$Voyage" "port" "LDeepShip$Port;" ∈ TBL := tbl_1 (List.mem_of_getElem? (i := 98) (by decide +kernel)) rfl
theorem tb_1_99 : Cond.fieldLink RX6 9 "DeepShip$Voyage" "touches" "I" ∈ TBL := tbl_1 (List.mem_of_getElem? (i := 99) (by decide +kernel)) rfl
theorem tb_1_100 : Cond.fieldLink RX7 181 "DeepShip$Voyage" "touches" "I" ∈ TBL := tbl_1 (List.mem_of_getElem? (i := 100) (by decide +kernel)) rfl
theorem tb_1_101 : Cond.fieldLink RX6 15 "DeepShip$Voyage" "minutes" "I" ∈ TBL := tbl_1 (List.mem_of_getElem? (i := 101) (by decide +kernel)) rfl
theorem tb_1_102 : Cond.fieldLink RX7 184 "DeepShip$Voyage" "minutes" "I" ∈ TBL := tbl_1 (List.mem_of_getElem? (i := 102) (by decide +kernel)) rfl
theorem tb_1_103 : Cond.fieldLink RX6 18 "DeepShip$Voyage" "lowest" "I" ∈ TBL := tbl_1 (List.mem_of_getElem? (i := 103) (by decide +kernel)) rfl
theorem tb_1_104 : Cond.fieldLink RX7 187 "DeepShip$Voyage" "lowest" "I" ∈ TBL := tbl_1 (List.mem_of_getElem? (i := 104) (by decide +kernel)) rfl
theorem tb_1_114 : Cond.classLink RX7 35 "DeepShip$Search" ∈ TBL := tbl_1 (List.mem_of_getElem? (i := 114) (by decide +kernel)) rfl
theorem tb_1_115 : Cond.instantiable RX2 6 ∈ TBL := tbl_1 (List.mem_of_getElem? (i := 115) (by decide +kernel)) rfl
theorem tb_1_116 : Cond.methodLink RX7 37 yX2_init ∈ TBL := tbl_1 (List.mem_of_getElem? (i := 116) (by decide +kernel)) rfl
theorem tb_1_117 : Cond.instanceMethod yX2_init ∈ TBL := tbl_1 (List.mem_of_getElem? (i := 117) (by decide +kernel)) rfl
theorem tb_1_118 : Cond.code yX2_init prog_4_method_1_code 2 none ∈ TBL := tbl_1 (List.mem_of_getElem? (i := 118) (by rfl)) rfl
theorem tb_1_119 : Cond.methodLink RX2 3 objectInit ∈ TBL := tbl_1 (List.mem_of_getElem? (i := 119) (by decide +kernel)) rfl
theorem tb_1_120 : Cond.classLink RX2 19 "[[J" ∈ TBL := tbl_1 (List.mem_of_getElem? (i := 120) (by decide +kernel)) rfl
theorem tb_1_124 : Cond.fieldLink RX2 33 "DeepShip$Search" "port" "LDeepShip$Port;" ∈ TBL := tbl_1 (List.mem_of_getElem? (i := 124) (by decide +kernel)) rfl
theorem tb_1_125 : Cond.fieldLink RX2 9 "DeepShip$Search" "laid" "[I" ∈ TBL := tbl_1 (List.mem_of_getElem? (i := 125) (by decide +kernel)) rfl
theorem tb_1_126 : Cond.fieldLink RX2 15 "DeepShip$Search" "laidLate" "I" ∈ TBL := tbl_1 (List.mem_of_getElem? (i := 126) (by decide +kernel)) rfl
theorem tb_1_127 : Cond.fieldLink RX2 21 "DeepShip$Search" "flood" "[[J" ∈ TBL := tbl_1 (List.mem_of_getElem? (i := 127) (by decide +kernel)) rfl
theorem tb_1_128 : Cond.fieldLink RX2 27 "DeepShip$Search" "enough" "[I" ∈ TBL := tbl_1 (List.mem_of_getElem? (i := 128) (by decide +kernel)) rfl
theorem tb_1_129 : Cond.fieldLink RX2 30 "DeepShip$Search" "rows" "[[J" ∈ TBL := tbl_1 (List.mem_of_getElem? (i := 129) (by decide +kernel)) rfl
theorem tb_1_144 : Cond.classLink RX7 42 "DeepShip$Day" ∈ TBL := tbl_1 (List.mem_of_getElem? (i := 144) (by decide +kernel)) rfl
theorem tb_1_145 : Cond.instantiable RX0 6 ∈ TBL := tbl_1 (List.mem_of_getElem? (i := 145) (by decide +kernel)) rfl
theorem tb_1_147 : Cond.instanceMethod yX0_init ∈ TBL := tbl_1 (List.mem_of_getElem? (i := 147) (by decide +kernel)) rfl
theorem tb_1_148 : Cond.code yX0_init prog_2_method_1_code 1 none ∈ TBL := tbl_1 (List.mem_of_getElem? (i := 148) (by rfl)) rfl
theorem tb_1_149 : Cond.methodLink RX0 3 objectInit ∈ TBL := tbl_1 (List.mem_of_getElem? (i := 149) (by decide +kernel)) rfl
theorem tb_1_150 : Cond.classLink RX0 9 "[[J" ∈ TBL := tbl_1 (List.mem_of_getElem? (i := 150) (by decide +kernel)) rfl
theorem tb_1_151 : Cond.fieldLink RX0 11 "DeepShip$Day" "starts" "[[J" ∈ TBL := tbl_1 (List.mem_of_getElem? (i := 151) (by decide +kernel)) rfl
theorem tb_1_152 : Cond.fieldLink RX0 16 "DeepShip$Day" "trying" "[I" ∈ TBL := tbl_1 (List.mem_of_getElem? (i := 152) (by decide +kernel)) rfl
theorem tb_1_153 : Cond.fieldLink RX0 20 "DeepShip$Day" "best" "[I" ∈ TBL := tbl_1 (List.mem_of_getElem? (i := 153) (by decide +kernel)) rfl
theorem tb_1_154 : Cond.fieldLink RX0 23 "DeepShip$Day" "many" "I" ∈ TBL := tbl_1 (List.mem_of_getElem? (i := 154) (by decide +kernel)) rfl
theorem tb_1_155 : Cond.fieldLink RX0 27 "DeepShip$Day" "leastSum" "I" ∈ TBL := tbl_1 (List.mem_of_getElem? (i := 155) (by decide +kernel)) rfl
theorem tb_1_156 : Cond.fieldLink RX0 30 "DeepShip$Day" "gap" "I" ∈ TBL := tbl_1 (List.mem_of_getElem? (i := 156) (by decide +kernel)) rfl
theorem tb_1_170 : Cond.classLink RX7 49 "DeepShip$Tape" ∈ TBL := tbl_1 (List.mem_of_getElem? (i := 170) (by decide +kernel)) rfl
theorem tb_1_171 : Cond.instantiable RX4 5 ∈ TBL := tbl_1 (List.mem_of_getElem? (i := 171) (by decide +kernel)) rfl
theorem tb_1_173 : Cond.instanceMethod yX4_init ∈ TBL := tbl_1 (List.mem_of_getElem? (i := 173) (by decide +kernel)) rfl
theorem tb_1_174 : Cond.code yX4_init prog_6_method_1_code 1 none ∈ TBL := tbl_1 (List.mem_of_getElem? (i := 174) (by rfl)) rfl
theorem tb_1_175 : Cond.methodLink RX4 3 objectInit ∈ TBL := tbl_1 (List.mem_of_getElem? (i := 175) (by decide +kernel)) rfl
theorem tb_1_176 : Cond.fieldLink RX4 9 "DeepShip$Tape" "found" "[I" ∈ TBL := tbl_1 (List.mem_of_getElem? (i := 176) (by decide +kernel)) rfl
theorem tb_1_177 : Cond.fieldLink RX7 117 "DeepShip$Tape" "found" "[I" ∈ TBL := tbl_1 (List.mem_of_getElem? (i := 177) (by decide +kernel)) rfl
theorem tb_1_178 : Cond.fieldLink RX4 15 "DeepShip$Tape" "signs" "[B" ∈ TBL := tbl_1 (List.mem_of_getElem? (i := 178) (by decide +kernel)) rfl
theorem tb_1_179 : Cond.fieldLink RX4 19 "DeepShip$Tape" "size" "I" ∈ TBL := tbl_1 (List.mem_of_getElem? (i := 179) (by decide +kernel)) rfl
theorem tb_1_180 : Cond.fieldLink RX4 23 "DeepShip$Tape" "at" "I" ∈ TBL := tbl_1 (List.mem_of_getElem? (i := 180) (by decide +kernel)) rfl
theorem tb_1_181 : Cond.fieldLink RX4 26 "DeepShip$Tape" "fault" "I" ∈ TBL := tbl_1 (List.mem_of_getElem? (i := 181) (by decide +kernel)) rfl
theorem tb_1_194 : Cond.classLink RX7 56 "DeepShip$Sheets" ∈ TBL := tbl_1 (List.mem_of_getElem? (i := 194) (by decide +kernel)) rfl
theorem tb_1_195 : Cond.instantiable RX3 3 ∈ TBL := tbl_1 (List.mem_of_getElem? (i := 195) (by decide +kernel)) rfl
theorem tb_1_197 : Cond.instanceMethod yX3_init ∈ TBL := tbl_1 (List.mem_of_getElem? (i := 197) (by decide +kernel)) rfl
theorem tb_1_198 : Cond.code yX3_init prog_5_method_1_code 1 none ∈ TBL := tbl_1 (List.mem_of_getElem? (i := 198) (by rfl)) rfl
theorem tb_1_199 : Cond.methodLink RX3 3 objectInit ∈ TBL := tbl_1 (List.mem_of_getElem? (i := 199) (by decide +kernel)) rfl
theorem tb_1_200 : Cond.classLink RX3 11 "[[I" ∈ TBL := tbl_1 (List.mem_of_getElem? (i := 200) (by decide +kernel)) rfl
theorem tb_1_202 : Cond.fieldLink RX3 13 "DeepShip$Sheets" "items" "[[I" ∈ TBL := tbl_1 (List.mem_of_getElem? (i := 202) (by decide +kernel)) rfl
theorem tb_1_203 : Cond.fieldLink RX3 16 "DeepShip$Sheets" "lanes" "[I" ∈ TBL := tbl_1 (List.mem_of_getElem? (i := 203) (by decide +kernel)) rfl
theorem tb_1_204 : Cond.fieldLink RX3 20 "DeepShip$Sheets" "sizes" "[I" ∈ TBL := tbl_1 (List.mem_of_getElem? (i := 204) (by decide +kernel)) rfl
theorem tb_1_212 : Cond.fieldLink RX7 10 "DeepShip" "port" "LDeepShip$Port;" ∈ TBL := tbl_1 (List.mem_of_getElem? (i := 212) (by decide +kernel)) rfl
theorem tb_1_213 : Cond.fieldLink RX7 16 "DeepShip" "kept" "LDeepShip$Port;" ∈ TBL := tbl_1 (List.mem_of_getElem? (i := 213) (by decide +kernel)) rfl
theorem tb_1_214 : Cond.fieldLink RX7 24 "DeepShip" "trial" "LDeepShip$Trial;" ∈ TBL := tbl_1 (List.mem_of_getElem? (i := 214) (by decide +kernel)) rfl
theorem tb_1_215 : Cond.fieldLink RX7 31 "DeepShip" "voyage" "LDeepShip$Voyage;" ∈ TBL := tbl_1 (List.mem_of_getElem? (i := 215) (by decide +kernel)) rfl
theorem tb_1_216 : Cond.fieldLink RX7 38 "DeepShip" "search" "LDeepShip$Search;" ∈ TBL := tbl_1 (List.mem_of_getElem? (i := 216) (by decide +kernel)) rfl
theorem tb_1_217 : Cond.fieldLink RX7 45 "DeepShip" "order" "LDeepShip$Day;" ∈ TBL := tbl_1 (List.mem_of_getElem? (i := 217) (by decide +kernel)) rfl
theorem tb_1_218 : Cond.fieldLink RX7 52 "DeepShip" "tape" "LDeepShip$Tape;" ∈ TBL := tbl_1 (List.mem_of_getElem? (i := 218) (by decide +kernel)) rfl
theorem tb_1_219 : Cond.fieldLink RX7 59 "DeepShip" "sheets" "LDeepShip$Sheets;" ∈ TBL := tbl_1 (List.mem_of_getElem? (i := 219) (by decide +kernel)) rfl
theorem tb_1_220 : Cond.fieldLink RX7 63 "DeepShip" "off" "[I" ∈ TBL := tbl_1 (List.mem_of_getElem? (i := 220) (by decide +kernel)) rfl
theorem tb_1_221 : Cond.fieldLink RX7 67 "DeepShip" "imaged" "Z" ∈ TBL := tbl_1 (List.mem_of_getElem? (i := 221) (by decide +kernel)) rfl
theorem tb_2_3 : Cond.methodLink RL 13 yX7_mile ∈ TBL := tbl_2 (List.mem_of_getElem? (i := 3) (by decide +kernel)) rfl
theorem tb_2_4 : Cond.instanceMethod yX7_mile ∈ TBL := tbl_2 (List.mem_of_getElem? (i := 4) (by decide +kernel)) rfl
theorem tb_2_5 : Cond.selects RX7 yX7_mile yX7_mile ∈ TBL := tbl_2 (List.mem_of_getElem? (i := 5) (by decide +kernel)) rfl
theorem tb_2_6 : Cond.code yX7_mile prog_1_method_2_code 3 (some FieldType.int) ∈ TBL := tbl_2 (List.mem_of_getElem? (i := 6) (by rfl)) rfl
theorem tb_2_7 : Cond.methodLink RX7 71 yX7_isMark ∈ TBL := tbl_2 (List.mem_of_getElem? (i := 7) (by decide +kernel)) rfl
theorem tb_2_8 : Cond.static yX7_isMark ∈ TBL := tbl_2 (List.mem_of_getElem? (i := 8) (by decide +kernel)) rfl
theorem tb_2_9 : Cond.code yX7_isMark prog_1_method_40_code 2 (some FieldType.boolean) ∈ TBL := tbl_2 (List.mem_of_getElem? (i := 9) (by rfl)) rfl
theorem tb_2_10 : Cond.fieldLink RX7 307 "DeepShip" "LOWEST_MARK" "[I" ∈ TBL := tbl_2 (List.mem_of_getElem? (i := 10) (by decide +kernel)) rfl
theorem tb_2_12 : Cond.fieldLink RX7 266 "DeepShip" "HIGHEST_MARK" "[I" ∈ TBL := tbl_2 (List.mem_of_getElem? (i := 12) (by decide +kernel)) rfl
theorem tb_2_14 : Cond.methodLink RX7 83 yX7_within ∈ TBL := tbl_2 (List.mem_of_getElem? (i := 14) (by decide +kernel)) rfl
theorem tb_2_15 : Cond.static yX7_within ∈ TBL := tbl_2 (List.mem_of_getElem? (i := 15) (by decide +kernel)) rfl
theorem tb_2_16 : Cond.code yX7_within prog_1_method_39_code 3 (some FieldType.boolean) ∈ TBL := tbl_2 (List.mem_of_getElem? (i := 16) (by rfl)) rfl
theorem tb_2_17 : Cond.methodLink RX7 75 yX1_addMile ∈ TBL := tbl_2 (List.mem_of_getElem? (i := 17) (by decide +kernel)) rfl
theorem tb_2_18 : Cond.instanceMethod yX1_addMile ∈ TBL := tbl_2 (List.mem_of_getElem? (i := 18) (by decide +kernel)) rfl
theorem tb_2_19 : Cond.selects RX1 yX1_addMile yX1_addMile ∈ TBL := tbl_2 (List.mem_of_getElem? (i := 19) (by decide +kernel)) rfl
theorem tb_2_20 : Cond.code yX1_addMile prog_3_method_8_code 3 (some FieldType.int) ∈ TBL := tbl_2 (List.mem_of_getElem? (i := 20) (by rfl)) rfl
theorem tb_2_21 : Cond.methodLink RX1 41 yX1_mark ∈ TBL := tbl_2 (List.mem_of_getElem? (i := 21) (by decide +kernel)) rfl
theorem tb_2_22 : Cond.instanceMethod yX1_mark ∈ TBL := tbl_2 (List.mem_of_getElem? (i := 22) (by decide +kernel)) rfl
theorem tb_2_23 : Cond.selects RX1 yX1_mark yX1_mark ∈ TBL := tbl_2 (List.mem_of_getElem? (i := 23) (by decide +kernel)) rfl
theorem tb_2_24 : Cond.code yX1_mark prog_3_method_6_code 5 (some FieldType.int) ∈ TBL := tbl_2 (List.mem_of_getElem? (i := 24) (by rfl)) rfl
theorem tb_2_25 : Cond.methodLink RX1 37 yX1_markOf ∈ TBL := tbl_2 (List.mem_of_getElem? (i := 25) (by decide +kernel)) rfl
theorem tb_2_26 : Cond.instanceMethod yX1_markOf ∈ TBL := tbl_2 (List.mem_of_getElem? (i := 26) (by decide +kernel)) rfl
theorem tb_2_27 : Cond.selects RX1 yX1_markOf yX1_markOf ∈ TBL := tbl_2 (List.mem_of_getElem? (i := 27) (by decide +kernel)) rfl
theorem tb_2_28 : Cond.code yX1_markOf prog_3_method_5_code 3 (some FieldType.int) ∈ TBL := tbl_2 (List.mem_of_getElem? (i := 28) (by rfl)) rfl
theorem tb_2_29 : Cond.methodLink RL 18 yX7_make ∈ TBL := tbl_2 (List.mem_of_getElem? (i := 29) (by decide +kernel)) rfl
theorem tb_2_30 : Cond.instanceMethod yX7_make ∈ TBL := tbl_2 (List.mem_of_getElem? (i := 30) (by decide +kernel)) rfl
theorem tb_2_31 : Cond.selects RX7 yX7_make yX7_make ∈ TBL := tbl_2 (List.mem_of_getElem? (i := 31) (by decide +kernel)) rfl
theorem tb_2_32 : Cond.code yX7_make prog_1_method_3_code 4 (some FieldType.int) ∈ TBL := tbl_2 (List.mem_of_getElem? (i := 32) (by rfl)) rfl
theorem tb_2_33 : Cond.methodLink RX7 79 yX1_hasMile ∈ TBL := tbl_2 (List.mem_of_getElem? (i := 33) (by decide +kernel)) rfl
theorem tb_2_34 : Cond.instanceMethod yX1_hasMile ∈ TBL := tbl_2 (List.mem_of_getElem? (i := 34) (by decide +kernel)) rfl
theorem tb_2_35 : Cond.selects RX1 yX1_hasMile yX1_hasMile ∈ TBL := tbl_2 (List.mem_of_getElem? (i := 35) (by decide +kernel)) rfl
theorem tb_2_36 : Cond.code yX1_hasMile prog_3_method_3_code 2 (some FieldType.boolean) ∈ TBL := tbl_2 (List.mem_of_getElem? (i := 36) (by rfl)) rfl
theorem tb_2_37 : Cond.methodLink RX7 87 yX1_mark ∈ TBL := tbl_2 (List.mem_of_getElem? (i := 37) (by decide +kernel)) rfl
theorem tb_2_38 : Cond.methodLink RL 23 yX7_told ∈ TBL := tbl_2 (List.mem_of_getElem? (i := 38) (by decide +kernel)) rfl
theorem tb_2_39 : Cond.instanceMethod yX7_told ∈ TBL := tbl_2 (List.mem_of_getElem? (i := 39) (by decide +kernel)) rfl
theorem tb_2_40 : Cond.selects RX7 yX7_told yX7_told ∈ TBL := tbl_2 (List.mem_of_getElem? (i := 40) (by decide +kernel)) rfl
theorem tb_2_41 : Cond.code yX7_told prog_1_method_4_code 3 (some FieldType.int) ∈ TBL := tbl_2 (List.mem_of_getElem? (i := 41) (by rfl)) rfl
theorem tb_2_42 : Cond.methodLink RX7 91 yX1_markOf ∈ TBL := tbl_2 (List.mem_of_getElem? (i := 42) (by decide +kernel)) rfl
theorem tb_2_43 : Cond.methodLink RL 27 yX7_height ∈ TBL := tbl_2 (List.mem_of_getElem? (i := 43) (by decide +kernel)) rfl
theorem tb_2_44 : Cond.instanceMethod yX7_height ∈ TBL := tbl_2 (List.mem_of_getElem? (i := 44) (by decide +kernel)) rfl
theorem tb_2_45 : Cond.selects RX7 yX7_height yX7_height ∈ TBL := tbl_2 (List.mem_of_getElem? (i := 45) (by decide +kernel)) rfl
theorem tb_2_46 : Cond.code yX7_height prog_1_method_5_code 4 (some FieldType.int) ∈ TBL := tbl_2 (List.mem_of_getElem? (i := 46) (by rfl)) rfl
theorem tb_2_47 : Cond.methodLink RL 31 yX7_set ∈ TBL := tbl_2 (List.mem_of_getElem? (i := 47) (by decide +kernel)) rfl
theorem tb_2_48 : Cond.instanceMethod yX7_set ∈ TBL := tbl_2 (List.mem_of_getElem? (i := 48) (by decide +kernel)) rfl
theorem tb_2_49 : Cond.selects RX7 yX7_set yX7_set ∈ TBL := tbl_2 (List.mem_of_getElem? (i := 49) (by decide +kernel)) rfl
theorem tb_2_50 : Cond.code yX7_set prog_1_method_6_code 4 (some FieldType.int) ∈ TBL := tbl_2 (List.mem_of_getElem? (i := 50) (by rfl)) rfl
theorem tb_2_51 : Cond.fieldLink RX7 97 "DeepShip" "HIGHEST_SETTING" "[I" ∈ TBL := tbl_2 (List.mem_of_getElem? (i := 51) (by decide +kernel)) rfl
theorem tb_2_53 : Cond.methodLink RL 35 yX7_ship ∈ TBL := tbl_2 (List.mem_of_getElem? (i := 53) (by decide +kernel)) rfl
theorem tb_2_54 : Cond.instanceMethod yX7_ship ∈ TBL := tbl_2 (List.mem_of_getElem? (i := 54) (by decide +kernel)) rfl
theorem tb_2_55 : Cond.selects RX7 yX7_ship yX7_ship ∈ TBL := tbl_2 (List.mem_of_getElem? (i := 55) (by decide +kernel)) rfl
theorem tb_2_56 : Cond.code yX7_ship prog_1_method_7_code 4 (some FieldType.int) ∈ TBL := tbl_2 (List.mem_of_getElem? (i := 56) (by rfl)) rfl
theorem tb_2_57 : Cond.methodLink RX7 103 yX1_addShip ∈ TBL := tbl_2 (List.mem_of_getElem? (i := 57) (by decide +kernel)) rfl
theorem tb_2_58 : Cond.instanceMethod yX1_addShip ∈ TBL := tbl_2 (List.mem_of_getElem? (i := 58) (by decide +kernel)) rfl
theorem tb_2_59 : Cond.selects RX1 yX1_addShip yX1_addShip ∈ TBL := tbl_2 (List.mem_of_getElem? (i := 59) (by decide +kernel)) rfl
theorem tb_2_60 : Cond.code yX1_addShip prog_3_method_10_code 4 (some FieldType.int) ∈ TBL := tbl_2 (List.mem_of_getElem? (i := 60) (by rfl)) rfl
theorem tb_2_61 : Cond.methodLink RL 39 yX7_pace ∈ TBL := tbl_2 (List.mem_of_getElem? (i := 61) (by decide +kernel)) rfl
theorem tb_2_62 : Cond.instanceMethod yX7_pace ∈ TBL := tbl_2 (List.mem_of_getElem? (i := 62) (by decide +kernel)) rfl
theorem tb_2_63 : Cond.selects RX7 yX7_pace yX7_pace ∈ TBL := tbl_2 (List.mem_of_getElem? (i := 63) (by decide +kernel)) rfl
theorem tb_2_64 : Cond.code yX7_pace prog_1_method_8_code 3 (some FieldType.int) ∈ TBL := tbl_2 (List.mem_of_getElem? (i := 64) (by rfl)) rfl
theorem tb_2_65 : Cond.methodLink RX7 106 yX7_isPace ∈ TBL := tbl_2 (List.mem_of_getElem? (i := 65) (by decide +kernel)) rfl
theorem tb_2_66 : Cond.static yX7_isPace ∈ TBL := tbl_2 (List.mem_of_getElem? (i := 66) (by decide +kernel)) rfl
theorem tb_2_67 : Cond.code yX7_isPace prog_1_method_41_code 1 (some FieldType.boolean) ∈ TBL := tbl_2 (List.mem_of_getElem? (i := 67) (by rfl)) rfl
theorem tb_2_68 : Cond.methodLink RL 45 yX7_type ∈ TBL := tbl_2 (List.mem_of_getElem? (i := 68) (by decide +kernel)) rfl
theorem tb_2_69 : Cond.instanceMethod yX7_type ∈ TBL := tbl_2 (List.mem_of_getElem? (i := 69) (by decide +kernel)) rfl
theorem tb_2_70 : Cond.selects RX7 yX7_type yX7_type ∈ TBL := tbl_2 (List.mem_of_getElem? (i := 70) (by decide +kernel)) rfl
theorem tb_2_71 : Cond.code yX7_type prog_1_method_9_code 4 (some FieldType.int) ∈ TBL := tbl_2 (List.mem_of_getElem? (i := 71) (by rfl)) rfl
theorem tb_2_72 : Cond.methodLink RX7 109 yX4_append ∈ TBL := tbl_2 (List.mem_of_getElem? (i := 72) (by decide +kernel)) rfl
theorem tb_2_73 : Cond.instanceMethod yX4_append ∈ TBL := tbl_2 (List.mem_of_getElem? (i := 73) (by decide +kernel)) rfl
theorem tb_2_74 : Cond.selects RX4 yX4_append yX4_append ∈ TBL := tbl_2 (List.mem_of_getElem? (i := 74) (by decide +kernel)) rfl
theorem tb_2_75 : Cond.code yX4_append prog_6_method_2_code 5 (some FieldType.int) ∈ TBL := tbl_2 (List.mem_of_getElem? (i := 75) (by rfl)) rfl
theorem tb_2_77 : Cond.constantLong RX4 33 (255 : Int64) ∈ TBL := tbl_2 (List.mem_of_getElem? (i := 77) (by decide +kernel)) rfl
theorem tb_2_78 : Cond.methodLink RL 50 yX7_channel ∈ TBL := tbl_2 (List.mem_of_getElem? (i := 78) (by decide +kernel)) rfl
theorem tb_2_79 : Cond.instanceMethod yX7_channel ∈ TBL := tbl_2 (List.mem_of_getElem? (i := 79) (by decide +kernel)) rfl
theorem tb_2_80 : Cond.selects RX7 yX7_channel yX7_channel ∈ TBL := tbl_2 (List.mem_of_getElem? (i := 80) (by decide +kernel)) rfl
theorem tb_2_81 : Cond.code yX7_channel prog_1_method_10_code 2 (some FieldType.int) ∈ TBL := tbl_2 (List.mem_of_getElem? (i := 81) (by rfl)) rfl
theorem tb_2_82 : Cond.methodLink RX7 113 yX4_readChannel ∈ TBL := tbl_2 (List.mem_of_getElem? (i := 82) (by decide +kernel)) rfl
theorem tb_2_83 : Cond.instanceMethod yX4_readChannel ∈ TBL := tbl_2 (List.mem_of_getElem? (i := 83) (by decide +kernel)) rfl
theorem tb_2_84 : Cond.selects RX4 yX4_readChannel yX4_readChannel ∈ TBL := tbl_2 (List.mem_of_getElem? (i := 84) (by decide +kernel)) rfl
theorem tb_2_85 : Cond.code yX4_readChannel prog_6_method_3_code 2 (some FieldType.int) ∈ TBL := tbl_2 (List.mem_of_getElem? (i := 85) (by rfl)) rfl
theorem tb_2_86 : Cond.methodLink RX4 35 yX4_rewind ∈ TBL := tbl_2 (List.mem_of_getElem? (i := 86) (by decide +kernel)) rfl
theorem tb_2_88 : Cond.instanceMethod yX4_rewind ∈ TBL := tbl_2 (List.mem_of_getElem? (i := 88) (by decide +kernel)) rfl
theorem tb_2_89 : Cond.code yX4_rewind prog_6_method_6_code 1 none ∈ TBL := tbl_2 (List.mem_of_getElem? (i := 89) (by rfl)) rfl
theorem tb_2_90 : Cond.methodLink RX4 38 yX4_readMile ∈ TBL := tbl_2 (List.mem_of_getElem? (i := 90) (by decide +kernel)) rfl
theorem tb_2_92 : Cond.instanceMethod yX4_readMile ∈ TBL := tbl_2 (List.mem_of_getElem? (i := 92) (by decide +kernel)) rfl
theorem tb_2_93 : Cond.code yX4_readMile prog_6_method_5_code 2 none ∈ TBL := tbl_2 (List.mem_of_getElem? (i := 93) (by rfl)) rfl
theorem tb_2_94 : Cond.methodLink RX4 63 yX4_mark ∈ TBL := tbl_2 (List.mem_of_getElem? (i := 94) (by decide +kernel)) rfl
theorem tb_2_96 : Cond.instanceMethod yX4_mark ∈ TBL := tbl_2 (List.mem_of_getElem? (i := 96) (by decide +kernel)) rfl
theorem tb_2_97 : Cond.code yX4_mark prog_6_method_14_code 2 (some FieldType.int) ∈ TBL := tbl_2 (List.mem_of_getElem? (i := 97) (by rfl)) rfl
theorem tb_2_100 : Cond.methodLink RX4 54 yX4_number ∈ TBL := tbl_2 (List.mem_of_getElem? (i := 100) (by decide +kernel)) rfl
theorem tb_2_102 : Cond.instanceMethod yX4_number ∈ TBL := tbl_2 (List.mem_of_getElem? (i := 102) (by decide +kernel)) rfl
theorem tb_2_103 : Cond.code yX4_number prog_6_method_15_code 5 (some FieldType.int) ∈ TBL := tbl_2 (List.mem_of_getElem? (i := 103) (by rfl)) rfl
theorem tb_2_104 : Cond.methodLink RX4 70 yX4_skipBlanks ∈ TBL := tbl_2 (List.mem_of_getElem? (i := 104) (by decide +kernel)) rfl
theorem tb_2_106 : Cond.instanceMethod yX4_skipBlanks ∈ TBL := tbl_2 (List.mem_of_getElem? (i := 106) (by decide +kernel)) rfl
theorem tb_2_107 : Cond.code yX4_skipBlanks prog_6_method_9_code 1 none ∈ TBL := tbl_2 (List.mem_of_getElem? (i := 107) (by rfl)) rfl
theorem tb_2_108 : Cond.methodLink RX4 76 yX4_isDigit ∈ TBL := tbl_2 (List.mem_of_getElem? (i := 108) (by decide +kernel)) rfl
theorem tb_2_109 : Cond.static yX4_isDigit ∈ TBL := tbl_2 (List.mem_of_getElem? (i := 109) (by decide +kernel)) rfl
theorem tb_2_110 : Cond.code yX4_isDigit prog_6_method_12_code 1 (some FieldType.boolean) ∈ TBL := tbl_2 (List.mem_of_getElem? (i := 110) (by rfl)) rfl
theorem tb_2_111 : Cond.methodLink RX4 86 yJ9_min_7cf53 ∈ TBL := tbl_2 (List.mem_of_getElem? (i := 111) (by decide +kernel)) rfl
theorem tb_2_112 : Cond.static yJ9_min_7cf53 ∈ TBL := tbl_2 (List.mem_of_getElem? (i := 112) (by decide +kernel)) rfl
theorem tb_2_113 : Cond.code yJ9_min_7cf53 prog_13_method_69_code 2 (some FieldType.int) ∈ TBL := tbl_2 (List.mem_of_getElem? (i := 113) (by rfl)) rfl
theorem tb_2_114 : Cond.methodLink RX4 73 yX4_fail ∈ TBL := tbl_2 (List.mem_of_getElem? (i := 114) (by decide +kernel)) rfl
theorem tb_2_116 : Cond.instanceMethod yX4_fail ∈ TBL := tbl_2 (List.mem_of_getElem? (i := 116) (by decide +kernel)) rfl
theorem tb_2_117 : Cond.code yX4_fail prog_6_method_8_code 2 none ∈ TBL := tbl_2 (List.mem_of_getElem? (i := 117) (by rfl)) rfl
theorem tb_2_118 : Cond.methodLink RX4 50 yX4_expect ∈ TBL := tbl_2 (List.mem_of_getElem? (i := 118) (by decide +kernel)) rfl
theorem tb_2_120 : Cond.instanceMethod yX4_expect ∈ TBL := tbl_2 (List.mem_of_getElem? (i := 120) (by decide +kernel)) rfl
theorem tb_2_121 : Cond.code yX4_expect prog_6_method_11_code 2 none ∈ TBL := tbl_2 (List.mem_of_getElem? (i := 121) (by rfl)) rfl
theorem tb_2_122 : Cond.methodLink RX4 42 yX4_takes ∈ TBL := tbl_2 (List.mem_of_getElem? (i := 122) (by decide +kernel)) rfl
theorem tb_2_124 : Cond.instanceMethod yX4_takes ∈ TBL := tbl_2 (List.mem_of_getElem? (i := 124) (by decide +kernel)) rfl
theorem tb_2_125 : Cond.code yX4_takes prog_6_method_10_code 2 (some FieldType.boolean) ∈ TBL := tbl_2 (List.mem_of_getElem? (i := 125) (by rfl)) rfl
theorem tb_2_126 : Cond.methodLink RX4 66 yX4_digit ∈ TBL := tbl_2 (List.mem_of_getElem? (i := 126) (by decide +kernel)) rfl
theorem tb_2_128 : Cond.instanceMethod yX4_digit ∈ TBL := tbl_2 (List.mem_of_getElem? (i := 128) (by decide +kernel)) rfl
theorem tb_2_129 : Cond.code yX4_digit prog_6_method_13_code 1 (some FieldType.int) ∈ TBL := tbl_2 (List.mem_of_getElem? (i := 129) (by rfl)) rfl
theorem tb_2_130 : Cond.methodLink RX4 46 yX4_finish ∈ TBL := tbl_2 (List.mem_of_getElem? (i := 130) (by decide +kernel)) rfl
theorem tb_2_132 : Cond.instanceMethod yX4_finish ∈ TBL := tbl_2 (List.mem_of_getElem? (i := 132) (by decide +kernel)) rfl
theorem tb_2_133 : Cond.code yX4_finish prog_6_method_7_code 2 (some FieldType.int) ∈ TBL := tbl_2 (List.mem_of_getElem? (i := 133) (by rfl)) rfl
theorem tb_2_134 : Cond.methodLink RX7 120 yX1_takeMiles ∈ TBL := tbl_2 (List.mem_of_getElem? (i := 134) (by decide +kernel)) rfl
theorem tb_2_135 : Cond.instanceMethod yX1_takeMiles ∈ TBL := tbl_2 (List.mem_of_getElem? (i := 135) (by decide +kernel)) rfl
theorem tb_2_136 : Cond.selects RX1 yX1_takeMiles yX1_takeMiles ∈ TBL := tbl_2 (List.mem_of_getElem? (i := 136) (by decide +kernel)) rfl
theorem tb_2_137 : Cond.code yX1_takeMiles prog_3_method_9_code 3 none ∈ TBL := tbl_2 (List.mem_of_getElem? (i := 137) (by rfl)) rfl
theorem tb_2_138 : Cond.methodLink RX1 45 yJ9_min_7cf53 ∈ TBL := tbl_2 (List.mem_of_getElem? (i := 138) (by decide +kernel)) rfl
theorem tb_2_139 : Cond.methodLink RX1 31 arraycopyName ∈ TBL := tbl_2 (List.mem_of_getElem? (i := 139) (by decide +kernel)) rfl
theorem tb_2_140 : Cond.static arraycopyName ∈ TBL := tbl_2 (List.mem_of_getElem? (i := 140) (by decide +kernel)) rfl
theorem tb_2_141 : Cond.native arraycopyName ∈ TBL := tbl_2 (List.mem_of_getElem? (i := 141) (by decide +kernel)) rfl
theorem tb_2_142 : Cond.methodLink RL 55 yX7_tides ∈ TBL := tbl_2 (List.mem_of_getElem? (i := 142) (by decide +kernel)) rfl
theorem tb_2_143 : Cond.instanceMethod yX7_tides ∈ TBL := tbl_2 (List.mem_of_getElem? (i := 143) (by decide +kernel)) rfl
theorem tb_2_144 : Cond.selects RX7 yX7_tides yX7_tides ∈ TBL := tbl_2 (List.mem_of_getElem? (i := 144) (by decide +kernel)) rfl
theorem tb_2_145 : Cond.code yX7_tides prog_1_method_11_code 2 (some FieldType.int) ∈ TBL := tbl_2 (List.mem_of_getElem? (i := 145) (by rfl)) rfl
theorem tb_2_146 : Cond.methodLink RX7 124 yX4_readTide ∈ TBL := tbl_2 (List.mem_of_getElem? (i := 146) (by decide +kernel)) rfl
theorem tb_2_147 : Cond.instanceMethod yX4_readTide ∈ TBL := tbl_2 (List.mem_of_getElem? (i := 147) (by decide +kernel)) rfl
theorem tb_2_148 : Cond.selects RX4 yX4_readTide yX4_readTide ∈ TBL := tbl_2 (List.mem_of_getElem? (i := 148) (by decide +kernel)) rfl
theorem tb_2_149 : Cond.code yX4_readTide prog_6_method_4_code 3 (some FieldType.int) ∈ TBL := tbl_2 (List.mem_of_getElem? (i := 149) (by rfl)) rfl
theorem tb_2_150 : Cond.methodLink RX4 58 yJ9_max_7cf53 ∈ TBL := tbl_2 (List.mem_of_getElem? (i := 150) (by decide +kernel)) rfl
theorem tb_2_151 : Cond.static yJ9_max_7cf53 ∈ TBL := tbl_2 (List.mem_of_getElem? (i := 151) (by decide +kernel)) rfl
theorem tb_2_152 : Cond.code yJ9_max_7cf53 prog_13_method_65_code 2 (some FieldType.int) ∈ TBL := tbl_2 (List.mem_of_getElem? (i := 152) (by rfl)) rfl
theorem tb_2_153 : Cond.methodLink RX7 127 arraycopyName ∈ TBL := tbl_2 (List.mem_of_getElem? (i := 153) (by decide +kernel)) rfl
theorem tb_2_154 : Cond.methodLink RL 59 yX7_count ∈ TBL := tbl_2 (List.mem_of_getElem? (i := 154) (by decide +kernel)) rfl
theorem tb_2_155 : Cond.instanceMethod yX7_count ∈ TBL := tbl_2 (List.mem_of_getElem? (i := 155) (by decide +kernel)) rfl
theorem tb_2_156 : Cond.selects RX7 yX7_count yX7_count ∈ TBL := tbl_2 (List.mem_of_getElem? (i := 156) (by decide +kernel)) rfl
theorem tb_2_157 : Cond.code yX7_count prog_1_method_12_code 2 (some FieldType.int) ∈ TBL := tbl_2 (List.mem_of_getElem? (i := 157) (by rfl)) rfl
theorem tb_2_158 : Cond.methodLink RX7 140 yX1_widths ∈ TBL := tbl_2 (List.mem_of_getElem? (i := 158) (by decide +kernel)) rfl
theorem tb_2_159 : Cond.instanceMethod yX1_widths ∈ TBL := tbl_2 (List.mem_of_getElem? (i := 159) (by decide +kernel)) rfl
theorem tb_2_160 : Cond.selects RX1 yX1_widths yX1_widths ∈ TBL := tbl_2 (List.mem_of_getElem? (i := 160) (by decide +kernel)) rfl
theorem tb_2_161 : Cond.code yX1_widths prog_3_method_11_code 3 (some FieldType.int) ∈ TBL := tbl_2 (List.mem_of_getElem? (i := 161) (by rfl)) rfl
theorem tb_2_162 : Cond.methodLink RL 64 yX7_tide ∈ TBL := tbl_2 (List.mem_of_getElem? (i := 162) (by decide +kernel)) rfl
theorem tb_2_163 : Cond.instanceMethod yX7_tide ∈ TBL := tbl_2 (List.mem_of_getElem? (i := 163) (by decide +kernel)) rfl
theorem tb_2_164 : Cond.selects RX7 yX7_tide yX7_tide ∈ TBL := tbl_2 (List.mem_of_getElem? (i := 164) (by decide +kernel)) rfl
theorem tb_2_165 : Cond.code yX7_tide prog_1_method_13_code 2 (some FieldType.int) ∈ TBL := tbl_2 (List.mem_of_getElem? (i := 165) (by rfl)) rfl
theorem tb_2_166 : Cond.methodLink RX7 143 yX1_tideAt ∈ TBL := tbl_2 (List.mem_of_getElem? (i := 166) (by decide +kernel)) rfl
theorem tb_2_167 : Cond.instanceMethod yX1_tideAt ∈ TBL := tbl_2 (List.mem_of_getElem? (i := 167) (by decide +kernel)) rfl
theorem tb_2_168 : Cond.selects RX1 yX1_tideAt yX1_tideAt ∈ TBL := tbl_2 (List.mem_of_getElem? (i := 168) (by decide +kernel)) rfl
theorem tb_2_169 : Cond.code yX1_tideAt prog_3_method_12_code 2 (some FieldType.int) ∈ TBL := tbl_2 (List.mem_of_getElem? (i := 169) (by rfl)) rfl
theorem tb_2_170 : Cond.methodLink RX1 50 yX1_tideBy ∈ TBL := tbl_2 (List.mem_of_getElem? (i := 170) (by decide +kernel)) rfl
theorem tb_2_171 : Cond.instanceMethod yX1_tideBy ∈ TBL := tbl_2 (List.mem_of_getElem? (i := 171) (by decide +kernel)) rfl
theorem tb_2_172 : Cond.selects RX1 yX1_tideBy yX1_tideBy ∈ TBL := tbl_2 (List.mem_of_getElem? (i := 172) (by decide +kernel)) rfl
theorem tb_2_173 : Cond.code yX1_tideBy prog_3_method_13_code 6 (some FieldType.int) ∈ TBL := tbl_2 (List.mem_of_getElem? (i := 173) (by rfl)) rfl
theorem tb_2_174 : Cond.methodLink RX1 53 yJ9_floorMod_7cf53 ∈ TBL := tbl_2 (List.mem_of_getElem? (i := 174) (by decide +kernel)) rfl
theorem tb_2_175 : Cond.static yJ9_floorMod_7cf53 ∈ TBL := tbl_2 (List.mem_of_getElem? (i := 175) (by decide +kernel)) rfl
theorem tb_2_176 : Cond.code yJ9_floorMod_7cf53 prog_13_method_50_code 3 (some FieldType.int) ∈ TBL := tbl_2 (List.mem_of_getElem? (i := 176) (by rfl)) rfl
theorem tb_2_177 : Cond.methodLink RL 68 yX7_water ∈ TBL := tbl_2 (List.mem_of_getElem? (i := 177) (by decide +kernel)) rfl
theorem tb_2_178 : Cond.instanceMethod yX7_water ∈ TBL := tbl_2 (List.mem_of_getElem? (i := 178) (by decide +kernel)) rfl
theorem tb_2_179 : Cond.selects RX7 yX7_water yX7_water ∈ TBL := tbl_2 (List.mem_of_getElem? (i := 179) (by decide +kernel)) rfl
theorem tb_2_180 : Cond.code yX7_water prog_1_method_14_code 3 (some FieldType.int) ∈ TBL := tbl_2 (List.mem_of_getElem? (i := 180) (by rfl)) rfl
theorem tb_2_181 : Cond.constant RX7 147 (-100001 : Int32) ∈ TBL := tbl_2 (List.mem_of_getElem? (i := 181) (by decide +kernel)) rfl
theorem tb_2_182 : Cond.methodLink RX7 148 yX1_levelAt ∈ TBL := tbl_2 (List.mem_of_getElem? (i := 182) (by decide +kernel)) rfl
theorem tb_2_183 : Cond.instanceMethod yX1_levelAt ∈ TBL := tbl_2 (List.mem_of_getElem? (i := 183) (by decide +kernel)) rfl
theorem tb_2_184 : Cond.selects RX1 yX1_levelAt yX1_levelAt ∈ TBL := tbl_2 (List.mem_of_getElem? (i := 184) (by decide +kernel)) rfl
theorem tb_2_185 : Cond.code yX1_levelAt prog_3_method_14_code 5 (some FieldType.int) ∈ TBL := tbl_2 (List.mem_of_getElem? (i := 185) (by rfl)) rfl
theorem tb_2_186 : Cond.methodLink RL 72 yX7_sinks ∈ TBL := tbl_2 (List.mem_of_getElem? (i := 186) (by decide +kernel)) rfl
theorem tb_2_187 : Cond.instanceMethod yX7_sinks ∈ TBL := tbl_2 (List.mem_of_getElem? (i := 187) (by decide +kernel)) rfl
theorem tb_2_188 : Cond.selects RX7 yX7_sinks yX7_sinks ∈ TBL := tbl_2 (List.mem_of_getElem? (i := 188) (by decide +kernel)) rfl
theorem tb_2_189 : Cond.code yX7_sinks prog_1_method_15_code 5 (some FieldType.int) ∈ TBL := tbl_2 (List.mem_of_getElem? (i := 189) (by rfl)) rfl
theorem tb_2_190 : Cond.methodLink RX7 151 yX7_isPlaced ∈ TBL := tbl_2 (List.mem_of_getElem? (i := 190) (by decide +kernel)) rfl
theorem tb_2_192 : Cond.instanceMethod yX7_isPlaced ∈ TBL := tbl_2 (List.mem_of_getElem? (i := 192) (by decide +kernel)) rfl
theorem tb_2_193 : Cond.code yX7_isPlaced prog_1_method_45_code 5 (some FieldType.boolean) ∈ TBL := tbl_2 (List.mem_of_getElem? (i := 193) (by rfl)) rfl
theorem tb_2_194 : Cond.methodLink RX7 168 yX1_hasShip ∈ TBL := tbl_2 (List.mem_of_getElem? (i := 194) (by decide +kernel)) rfl
theorem tb_2_195 : Cond.instanceMethod yX1_hasShip ∈ TBL := tbl_2 (List.mem_of_getElem? (i := 195) (by decide +kernel)) rfl
theorem tb_2_196 : Cond.selects RX1 yX1_hasShip yX1_hasShip ∈ TBL := tbl_2 (List.mem_of_getElem? (i := 196) (by decide +kernel)) rfl
theorem tb_2_197 : Cond.code yX1_hasShip prog_3_method_4_code 2 (some FieldType.boolean) ∈ TBL := tbl_2 (List.mem_of_getElem? (i := 197) (by rfl)) rfl
theorem tb_2_198 : Cond.methodLink RX7 155 yX5_begin ∈ TBL := tbl_2 (List.mem_of_getElem? (i := 198) (by decide +kernel)) rfl
theorem tb_2_199 : Cond.instanceMethod yX5_begin ∈ TBL := tbl_2 (List.mem_of_getElem? (i := 199) (by decide +kernel)) rfl
theorem tb_2_200 : Cond.selects RX5 yX5_begin yX5_begin ∈ TBL := tbl_2 (List.mem_of_getElem? (i := 200) (by decide +kernel)) rfl
theorem tb_2_201 : Cond.code yX5_begin prog_7_method_2_code 2 none ∈ TBL := tbl_2 (List.mem_of_getElem? (i := 201) (by rfl)) rfl
theorem tb_2_202 : Cond.methodLink RX5 37 yX1_hullOf ∈ TBL := tbl_2 (List.mem_of_getElem? (i := 202) (by decide +kernel)) rfl
theorem tb_2_203 : Cond.instanceMethod yX1_hullOf ∈ TBL := tbl_2 (List.mem_of_getElem? (i := 203) (by decide +kernel)) rfl
theorem tb_2_204 : Cond.selects RX1 yX1_hullOf yX1_hullOf ∈ TBL := tbl_2 (List.mem_of_getElem? (i := 204) (by decide +kernel)) rfl
theorem tb_2_205 : Cond.code yX1_hullOf prog_3_method_7_code 3 (some FieldType.int) ∈ TBL := tbl_2 (List.mem_of_getElem? (i := 205) (by rfl)) rfl
theorem tb_2_206 : Cond.methodLink RX5 47 yX5_keepTo ∈ TBL := tbl_2 (List.mem_of_getElem? (i := 206) (by decide +kernel)) rfl
theorem tb_2_207 : Cond.instanceMethod yX5_keepTo ∈ TBL := tbl_2 (List.mem_of_getElem? (i := 207) (by decide +kernel)) rfl
theorem tb_2_208 : Cond.selects RX5 yX5_keepTo yX5_keepTo ∈ TBL := tbl_2 (List.mem_of_getElem? (i := 208) (by decide +kernel)) rfl
theorem tb_2_209 : Cond.code yX5_keepTo prog_7_method_4_code 3 none ∈ TBL := tbl_2 (List.mem_of_getElem? (i := 209) (by rfl)) rfl
theorem tb_2_210 : Cond.methodLink RX5 55 yX5_reckonNeed ∈ TBL := tbl_2 (List.mem_of_getElem? (i := 210) (by decide +kernel)) rfl
theorem tb_2_212 : Cond.instanceMethod yX5_reckonNeed ∈ TBL := tbl_2 (List.mem_of_getElem? (i := 212) (by decide +kernel)) rfl
theorem tb_2_213 : Cond.code yX5_reckonNeed prog_7_method_5_code 1 none ∈ TBL := tbl_2 (List.mem_of_getElem? (i := 213) (by rfl)) rfl
theorem tb_2_214 : Cond.methodLink RX5 51 yX5_load ∈ TBL := tbl_2 (List.mem_of_getElem? (i := 214) (by decide +kernel)) rfl
theorem tb_2_215 : Cond.instanceMethod yX5_load ∈ TBL := tbl_2 (List.mem_of_getElem? (i := 215) (by decide +kernel)) rfl
theorem tb_2_216 : Cond.selects RX5 yX5_load yX5_load ∈ TBL := tbl_2 (List.mem_of_getElem? (i := 216) (by decide +kernel)) rfl
theorem tb_2_217 : Cond.code yX5_load prog_7_method_3_code 2 none ∈ TBL := tbl_2 (List.mem_of_getElem? (i := 217) (by rfl)) rfl
theorem tb_2_218 : Cond.methodLink RX7 159 yX5_level ∈ TBL := tbl_2 (List.mem_of_getElem? (i := 218) (by decide +kernel)) rfl
theorem tb_2_219 : Cond.instanceMethod yX5_level ∈ TBL := tbl_2 (List.mem_of_getElem? (i := 219) (by decide +kernel)) rfl
theorem tb_2_220 : Cond.selects RX5 yX5_level yX5_level ∈ TBL := tbl_2 (List.mem_of_getElem? (i := 220) (by decide +kernel)) rfl
theorem tb_2_221 : Cond.code yX5_level prog_7_method_6_code 3 (some FieldType.int) ∈ TBL := tbl_2 (List.mem_of_getElem? (i := 221) (by rfl)) rfl
theorem tb_2_222 : Cond.methodLink RX5 58 yX1_levelAt ∈ TBL := tbl_2 (List.mem_of_getElem? (i := 222) (by decide +kernel)) rfl
theorem tb_2_223 : Cond.methodLink RX7 162 yX5_sinking ∈ TBL := tbl_2 (List.mem_of_getElem? (i := 223) (by decide +kernel)) rfl
theorem tb_2_224 : Cond.instanceMethod yX5_sinking ∈ TBL := tbl_2 (List.mem_of_getElem? (i := 224) (by decide +kernel)) rfl
theorem tb_2_225 : Cond.selects RX5 yX5_sinking yX5_sinking ∈ TBL := tbl_2 (List.mem_of_getElem? (i := 225) (by decide +kernel)) rfl
theorem tb_2_226 : Cond.code yX5_sinking prog_7_method_7_code 5 (some FieldType.int) ∈ TBL := tbl_2 (List.mem_of_getElem? (i := 226) (by rfl)) rfl
theorem tb_2_227 : Cond.methodLink RX5 62 yX1_markOf ∈ TBL := tbl_2 (List.mem_of_getElem? (i := 227) (by decide +kernel)) rfl
theorem tb_2_228 : Cond.methodLink RX5 65 yJ9_max_7cf53 ∈ TBL := tbl_2 (List.mem_of_getElem? (i := 228) (by decide +kernel)) rfl
theorem tb_2_229 : Cond.methodLink RL 77 yX7_under ∈ TBL := tbl_2 (List.mem_of_getElem? (i := 229) (by decide +kernel)) rfl
theorem tb_2_230 : Cond.instanceMethod yX7_under ∈ TBL := tbl_2 (List.mem_of_getElem? (i := 230) (by decide +kernel)) rfl
theorem tb_2_231 : Cond.selects RX7 yX7_under yX7_under ∈ TBL := tbl_2 (List.mem_of_getElem? (i := 231) (by decide +kernel)) rfl
theorem tb_2_232 : Cond.code yX7_under prog_1_method_16_code 5 (some FieldType.int) ∈ TBL := tbl_2 (List.mem_of_getElem? (i := 232) (by rfl)) rfl
theorem tb_2_233 : Cond.methodLink RX7 165 yX5_clearance ∈ TBL := tbl_2 (List.mem_of_getElem? (i := 233) (by decide +kernel)) rfl
theorem tb_2_234 : Cond.instanceMethod yX5_clearance ∈ TBL := tbl_2 (List.mem_of_getElem? (i := 234) (by decide +kernel)) rfl
theorem tb_2_235 : Cond.selects RX5 yX5_clearance yX5_clearance ∈ TBL := tbl_2 (List.mem_of_getElem? (i := 235) (by decide +kernel)) rfl
theorem tb_2_236 : Cond.code yX5_clearance prog_7_method_9_code 5 (some FieldType.int) ∈ TBL := tbl_2 (List.mem_of_getElem? (i := 236) (by rfl)) rfl
theorem tb_2_237 : Cond.methodLink RX5 70 yX5_level ∈ TBL := tbl_2 (List.mem_of_getElem? (i := 237) (by decide +kernel)) rfl
theorem tb_2_238 : Cond.methodLink RX5 73 yX5_atRest ∈ TBL := tbl_2 (List.mem_of_getElem? (i := 238) (by decide +kernel)) rfl
theorem tb_2_239 : Cond.instanceMethod yX5_atRest ∈ TBL := tbl_2 (List.mem_of_getElem? (i := 239) (by decide +kernel)) rfl
theorem tb_3_0 : Cond.selects RX5 yX5_atRest yX5_atRest ∈ TBL := tbl_3 (List.mem_of_getElem? (i := 0) (by decide +kernel)) rfl
theorem tb_3_1 : Cond.code yX5_atRest prog_7_method_8_code 4 (some FieldType.int) ∈ TBL := tbl_3 (List.mem_of_getElem? (i := 1) (by rfl)) rfl
theorem tb_3_2 : Cond.methodLink RX5 76 yX5_sinking ∈ TBL := tbl_3 (List.mem_of_getElem? (i := 2) (by decide +kernel)) rfl
theorem tb_3_3 : Cond.methodLink RL 81 yX7_need ∈ TBL := tbl_3 (List.mem_of_getElem? (i := 3) (by decide +kernel)) rfl
theorem tb_3_4 : Cond.instanceMethod yX7_need ∈ TBL := tbl_3 (List.mem_of_getElem? (i := 4) (by decide +kernel)) rfl
theorem tb_3_5 : Cond.selects RX7 yX7_need yX7_need ∈ TBL := tbl_3 (List.mem_of_getElem? (i := 5) (by decide +kernel)) rfl
theorem tb_3_6 : Cond.code yX7_need prog_1_method_17_code 2 (some FieldType.int) ∈ TBL := tbl_3 (List.mem_of_getElem? (i := 6) (by rfl)) rfl
theorem tb_3_7 : Cond.methodLink RL 85 yX7_run ∈ TBL := tbl_3 (List.mem_of_getElem? (i := 7) (by decide +kernel)) rfl
theorem tb_3_8 : Cond.instanceMethod yX7_run ∈ TBL := tbl_3 (List.mem_of_getElem? (i := 8) (by decide +kernel)) rfl
theorem tb_3_9 : Cond.selects RX7 yX7_run yX7_run ∈ TBL := tbl_3 (List.mem_of_getElem? (i := 9) (by decide +kernel)) rfl
theorem tb_3_10 : Cond.code yX7_run prog_1_method_18_code 4 (some FieldType.int) ∈ TBL := tbl_3 (List.mem_of_getElem? (i := 10) (by rfl)) rfl
theorem tb_3_11 : Cond.methodLink RX7 174 yX7_isStart ∈ TBL := tbl_3 (List.mem_of_getElem? (i := 11) (by decide +kernel)) rfl
theorem tb_3_13 : Cond.instanceMethod yX7_isStart ∈ TBL := tbl_3 (List.mem_of_getElem? (i := 13) (by decide +kernel)) rfl
theorem tb_3_14 : Cond.code yX7_isStart prog_1_method_43_code 3 (some FieldType.boolean) ∈ TBL := tbl_3 (List.mem_of_getElem? (i := 14) (by rfl)) rfl
theorem tb_3_15 : Cond.methodLink RX7 254 yX7_isMinute ∈ TBL := tbl_3 (List.mem_of_getElem? (i := 15) (by decide +kernel)) rfl
theorem tb_3_16 : Cond.static yX7_isMinute ∈ TBL := tbl_3 (List.mem_of_getElem? (i := 16) (by decide +kernel)) rfl
theorem tb_3_17 : Cond.code yX7_isMinute prog_1_method_42_code 1 (some FieldType.boolean) ∈ TBL := tbl_3 (List.mem_of_getElem? (i := 17) (by rfl)) rfl
theorem tb_3_18 : Cond.methodLink RX7 177 yX6_sail ∈ TBL := tbl_3 (List.mem_of_getElem? (i := 18) (by decide +kernel)) rfl
theorem tb_3_19 : Cond.instanceMethod yX6_sail ∈ TBL := tbl_3 (List.mem_of_getElem? (i := 19) (by decide +kernel)) rfl
theorem tb_3_20 : Cond.selects RX6 yX6_sail yX6_sail ∈ TBL := tbl_3 (List.mem_of_getElem? (i := 20) (by decide +kernel)) rfl
theorem tb_3_21 : Cond.code yX6_sail prog_8_method_2_code 6 none ∈ TBL := tbl_3 (List.mem_of_getElem? (i := 21) (by rfl)) rfl
theorem tb_3_22 : Cond.constant RX6 27 (2147483647 : Int32) ∈ TBL := tbl_3 (List.mem_of_getElem? (i := 22) (by decide +kernel)) rfl
theorem tb_3_23 : Cond.methodLink RX6 33 yX1_markOf ∈ TBL := tbl_3 (List.mem_of_getElem? (i := 23) (by decide +kernel)) rfl
theorem tb_3_24 : Cond.methodLink RX6 37 yX1_tideAt ∈ TBL := tbl_3 (List.mem_of_getElem? (i := 24) (by decide +kernel)) rfl
theorem tb_3_25 : Cond.methodLink RX6 41 yX5_clearance ∈ TBL := tbl_3 (List.mem_of_getElem? (i := 25) (by decide +kernel)) rfl
theorem tb_3_26 : Cond.methodLink RX6 47 yJ9_min_7cf53 ∈ TBL := tbl_3 (List.mem_of_getElem? (i := 26) (by decide +kernel)) rfl
theorem tb_3_28 : Cond.static yX7_minutesBy ∈ TBL := tbl_3 (List.mem_of_getElem? (i := 28) (by decide +kernel)) rfl
theorem tb_3_29 : Cond.code yX7_minutesBy prog_1_method_50_code 1 (some FieldType.int) ∈ TBL := tbl_3 (List.mem_of_getElem? (i := 29) (by rfl)) rfl
theorem tb_3_30 : Cond.methodLink RX7 235 yJ9_max_7cf53 ∈ TBL := tbl_3 (List.mem_of_getElem? (i := 30) (by decide +kernel)) rfl
theorem tb_3_31 : Cond.constant RX7 190 (100000 : Int32) ∈ TBL := tbl_3 (List.mem_of_getElem? (i := 31) (by decide +kernel)) rfl
theorem tb_3_32 : Cond.methodLink RL 89 yX7_least ∈ TBL := tbl_3 (List.mem_of_getElem? (i := 32) (by decide +kernel)) rfl
theorem tb_3_33 : Cond.instanceMethod yX7_least ∈ TBL := tbl_3 (List.mem_of_getElem? (i := 33) (by decide +kernel)) rfl
theorem tb_3_34 : Cond.selects RX7 yX7_least yX7_least ∈ TBL := tbl_3 (List.mem_of_getElem? (i := 34) (by decide +kernel)) rfl
theorem tb_3_35 : Cond.code yX7_least prog_1_method_19_code 6 (some FieldType.int) ∈ TBL := tbl_3 (List.mem_of_getElem? (i := 35) (by rfl)) rfl
theorem tb_3_36 : Cond.methodLink RX7 191 yX7_refusalAt ∈ TBL := tbl_3 (List.mem_of_getElem? (i := 36) (by decide +kernel)) rfl
theorem tb_3_38 : Cond.instanceMethod yX7_refusalAt ∈ TBL := tbl_3 (List.mem_of_getElem? (i := 38) (by decide +kernel)) rfl
theorem tb_3_39 : Cond.code yX7_refusalAt prog_1_method_44_code 5 (some FieldType.int) ∈ TBL := tbl_3 (List.mem_of_getElem? (i := 39) (by rfl)) rfl
theorem tb_3_40 : Cond.methodLink RX7 195 yX2_begin ∈ TBL := tbl_3 (List.mem_of_getElem? (i := 40) (by decide +kernel)) rfl
theorem tb_3_41 : Cond.instanceMethod yX2_begin ∈ TBL := tbl_3 (List.mem_of_getElem? (i := 41) (by decide +kernel)) rfl
theorem tb_3_42 : Cond.selects RX2 yX2_begin yX2_begin ∈ TBL := tbl_3 (List.mem_of_getElem? (i := 42) (by decide +kernel)) rfl
theorem tb_3_43 : Cond.code yX2_begin prog_4_method_2_code 2 none ∈ TBL := tbl_3 (List.mem_of_getElem? (i := 43) (by rfl)) rfl
theorem tb_3_44 : Cond.methodLink RX2 37 yX2_layTide ∈ TBL := tbl_3 (List.mem_of_getElem? (i := 44) (by decide +kernel)) rfl
theorem tb_3_45 : Cond.instanceMethod yX2_layTide ∈ TBL := tbl_3 (List.mem_of_getElem? (i := 45) (by decide +kernel)) rfl
theorem tb_3_46 : Cond.selects RX2 yX2_layTide yX2_layTide ∈ TBL := tbl_3 (List.mem_of_getElem? (i := 46) (by decide +kernel)) rfl
theorem tb_3_47 : Cond.code yX2_layTide prog_4_method_3_code 3 none ∈ TBL := tbl_3 (List.mem_of_getElem? (i := 47) (by rfl)) rfl
theorem tb_3_48 : Cond.methodLink RX2 44 yX2_isLaid ∈ TBL := tbl_3 (List.mem_of_getElem? (i := 48) (by decide +kernel)) rfl
theorem tb_3_50 : Cond.instanceMethod yX2_isLaid ∈ TBL := tbl_3 (List.mem_of_getElem? (i := 50) (by decide +kernel)) rfl
theorem tb_3_51 : Cond.code yX2_isLaid prog_4_method_4_code 3 (some FieldType.boolean) ∈ TBL := tbl_3 (List.mem_of_getElem? (i := 51) (by rfl)) rfl
theorem tb_3_52 : Cond.methodLink RX2 53 arraycopyName ∈ TBL := tbl_3 (List.mem_of_getElem? (i := 52) (by decide +kernel)) rfl
theorem tb_3_53 : Cond.methodLink RX2 62 yX2_wipe ∈ TBL := tbl_3 (List.mem_of_getElem? (i := 53) (by decide +kernel)) rfl
theorem tb_3_54 : Cond.static yX2_wipe ∈ TBL := tbl_3 (List.mem_of_getElem? (i := 54) (by decide +kernel)) rfl
theorem tb_3_55 : Cond.code yX2_wipe prog_4_method_15_code 2 none ∈ TBL := tbl_3 (List.mem_of_getElem? (i := 55) (by rfl)) rfl
theorem tb_3_56 : Cond.methodLink RX2 66 yX1_tideAt ∈ TBL := tbl_3 (List.mem_of_getElem? (i := 56) (by decide +kernel)) rfl
theorem tb_3_59 : Cond.static yX7_putBit ∈ TBL := tbl_3 (List.mem_of_getElem? (i := 59) (by decide +kernel)) rfl
theorem tb_3_60 : Cond.code yX7_putBit prog_1_method_52_code 2 none ∈ TBL := tbl_3 (List.mem_of_getElem? (i := 60) (by rfl)) rfl
theorem tb_3_61 : Cond.methodLink RX2 40 yX2_rule ∈ TBL := tbl_3 (List.mem_of_getElem? (i := 61) (by decide +kernel)) rfl
theorem tb_3_62 : Cond.instanceMethod yX2_rule ∈ TBL := tbl_3 (List.mem_of_getElem? (i := 62) (by decide +kernel)) rfl
theorem tb_3_63 : Cond.selects RX2 yX2_rule yX2_rule ∈ TBL := tbl_3 (List.mem_of_getElem? (i := 63) (by decide +kernel)) rfl
theorem tb_3_64 : Cond.code yX2_rule prog_4_method_5_code 3 none ∈ TBL := tbl_3 (List.mem_of_getElem? (i := 64) (by rfl)) rfl
theorem tb_3_65 : Cond.methodLink RX2 81 yX2_ruleMile ∈ TBL := tbl_3 (List.mem_of_getElem? (i := 65) (by decide +kernel)) rfl
theorem tb_3_66 : Cond.instanceMethod yX2_ruleMile ∈ TBL := tbl_3 (List.mem_of_getElem? (i := 66) (by decide +kernel)) rfl
theorem tb_3_67 : Cond.selects RX2 yX2_ruleMile yX2_ruleMile ∈ TBL := tbl_3 (List.mem_of_getElem? (i := 67) (by decide +kernel)) rfl
theorem tb_3_68 : Cond.code yX2_ruleMile prog_4_method_6_code 6 none ∈ TBL := tbl_3 (List.mem_of_getElem? (i := 68) (by rfl)) rfl
theorem tb_3_69 : Cond.methodLink RX2 90 yX5_level ∈ TBL := tbl_3 (List.mem_of_getElem? (i := 69) (by decide +kernel)) rfl
theorem tb_3_70 : Cond.methodLink RX2 94 yX5_atRest ∈ TBL := tbl_3 (List.mem_of_getElem? (i := 70) (by decide +kernel)) rfl
theorem tb_3_71 : Cond.methodLink RX2 97 yJ9_min_7cf53 ∈ TBL := tbl_3 (List.mem_of_getElem? (i := 71) (by decide +kernel)) rfl
theorem tb_3_72 : Cond.methodLink RX2 102 yJ9_max_7cf53 ∈ TBL := tbl_3 (List.mem_of_getElem? (i := 72) (by decide +kernel)) rfl
theorem tb_3_73 : Cond.methodLink RX2 105 yX5_clearance ∈ TBL := tbl_3 (List.mem_of_getElem? (i := 73) (by decide +kernel)) rfl
theorem tb_3_74 : Cond.methodLink RX7 198 yX2_quickest ∈ TBL := tbl_3 (List.mem_of_getElem? (i := 74) (by decide +kernel)) rfl
theorem tb_3_75 : Cond.instanceMethod yX2_quickest ∈ TBL := tbl_3 (List.mem_of_getElem? (i := 75) (by decide +kernel)) rfl
theorem tb_3_76 : Cond.selects RX2 yX2_quickest yX2_quickest ∈ TBL := tbl_3 (List.mem_of_getElem? (i := 76) (by decide +kernel)) rfl
theorem tb_3_77 : Cond.code yX2_quickest prog_4_method_7_code 4 (some FieldType.int) ∈ TBL := tbl_3 (List.mem_of_getElem? (i := 77) (by rfl)) rfl
theorem tb_3_78 : Cond.methodLink RX2 109 yX2_goOn ∈ TBL := tbl_3 (List.mem_of_getElem? (i := 78) (by decide +kernel)) rfl
theorem tb_3_80 : Cond.instanceMethod yX2_goOn ∈ TBL := tbl_3 (List.mem_of_getElem? (i := 80) (by decide +kernel)) rfl
theorem tb_3_81 : Cond.code yX2_goOn prog_4_method_11_code 3 none ∈ TBL := tbl_3 (List.mem_of_getElem? (i := 81) (by rfl)) rfl
theorem tb_3_82 : Cond.methodLink RX2 137 yX2_moveLater ∈ TBL := tbl_3 (List.mem_of_getElem? (i := 82) (by decide +kernel)) rfl
theorem tb_3_84 : Cond.instanceMethod yX2_moveLater ∈ TBL := tbl_3 (List.mem_of_getElem? (i := 84) (by decide +kernel)) rfl
theorem tb_3_85 : Cond.code yX2_moveLater prog_4_method_12_code 7 none ∈ TBL := tbl_3 (List.mem_of_getElem? (i := 85) (by rfl)) rfl
theorem tb_3_89 : Cond.static yX7_firstFrom ∈ TBL := tbl_3 (List.mem_of_getElem? (i := 89) (by decide +kernel)) rfl
theorem tb_3_90 : Cond.code yX7_firstFrom prog_1_method_54_code 7 (some FieldType.int) ∈ TBL := tbl_3 (List.mem_of_getElem? (i := 90) (by rfl)) rfl
theorem tb_3_91 : Cond.constantLong RX7 322 (-1 : Int64) ∈ TBL := tbl_3 (List.mem_of_getElem? (i := 91) (by decide +kernel)) rfl
theorem tb_3_92 : Cond.methodLink RX7 316 yJ13_bitCount_95d88 ∈ TBL := tbl_3 (List.mem_of_getElem? (i := 92) (by decide +kernel)) rfl
theorem tb_3_93 : Cond.static yJ13_bitCount_95d88 ∈ TBL := tbl_3 (List.mem_of_getElem? (i := 93) (by decide +kernel)) rfl
theorem tb_3_94 : Cond.code yJ13_bitCount_95d88 prog_12_method_50_code 2 (some FieldType.int) ∈ TBL := tbl_3 (List.mem_of_getElem? (i := 94) (by rfl)) rfl
theorem tb_3_95 : Cond.constantLong RJ13 314 (6148914691236517205 : Int64) ∈ TBL := tbl_3 (List.mem_of_getElem? (i := 95) (by decide +kernel)) rfl
theorem tb_3_96 : Cond.constantLong RJ13 316 (3689348814741910323 : Int64) ∈ TBL := tbl_3 (List.mem_of_getElem? (i := 96) (by decide +kernel)) rfl
theorem tb_3_97 : Cond.constantLong RJ13 318 (1085102592571150095 : Int64) ∈ TBL := tbl_3 (List.mem_of_getElem? (i := 97) (by decide +kernel)) rfl
theorem tb_3_98 : Cond.methodLink RX7 201 yX2_firstPace ∈ TBL := tbl_3 (List.mem_of_getElem? (i := 98) (by decide +kernel)) rfl
theorem tb_3_99 : Cond.instanceMethod yX2_firstPace ∈ TBL := tbl_3 (List.mem_of_getElem? (i := 99) (by decide +kernel)) rfl
theorem tb_3_100 : Cond.selects RX2 yX2_firstPace yX2_firstPace ∈ TBL := tbl_3 (List.mem_of_getElem? (i := 100) (by decide +kernel)) rfl
theorem tb_3_101 : Cond.code yX2_firstPace prog_4_method_8_code 7 (some FieldType.int) ∈ TBL := tbl_3 (List.mem_of_getElem? (i := 101) (by rfl)) rfl
theorem tb_3_102 : Cond.methodLink RX2 117 yX2_goBack ∈ TBL := tbl_3 (List.mem_of_getElem? (i := 102) (by decide +kernel)) rfl
theorem tb_3_104 : Cond.instanceMethod yX2_goBack ∈ TBL := tbl_3 (List.mem_of_getElem? (i := 104) (by decide +kernel)) rfl
theorem tb_3_105 : Cond.code yX2_goBack prog_4_method_13_code 5 none ∈ TBL := tbl_3 (List.mem_of_getElem? (i := 105) (by rfl)) rfl
theorem tb_3_106 : Cond.methodLink RX2 141 yX2_earlier ∈ TBL := tbl_3 (List.mem_of_getElem? (i := 106) (by decide +kernel)) rfl
theorem tb_3_108 : Cond.instanceMethod yX2_earlier ∈ TBL := tbl_3 (List.mem_of_getElem? (i := 108) (by decide +kernel)) rfl
theorem tb_3_109 : Cond.code yX2_earlier prog_4_method_14_code 11 (some FieldType.long) ∈ TBL := tbl_3 (List.mem_of_getElem? (i := 109) (by rfl)) rfl
theorem tb_3_110 : Cond.methodLink RX2 120 yX2_slowest ∈ TBL := tbl_3 (List.mem_of_getElem? (i := 110) (by decide +kernel)) rfl
theorem tb_3_112 : Cond.instanceMethod yX2_slowest ∈ TBL := tbl_3 (List.mem_of_getElem? (i := 112) (by decide +kernel)) rfl
theorem tb_3_113 : Cond.code yX2_slowest prog_4_method_10_code 5 (some FieldType.int) ∈ TBL := tbl_3 (List.mem_of_getElem? (i := 113) (by rfl)) rfl
theorem tb_3_115 : Cond.static yX7_hasBit ∈ TBL := tbl_3 (List.mem_of_getElem? (i := 115) (by decide +kernel)) rfl
theorem tb_3_116 : Cond.code yX7_hasBit prog_1_method_51_code 2 (some FieldType.boolean) ∈ TBL := tbl_3 (List.mem_of_getElem? (i := 116) (by rfl)) rfl
theorem tb_3_118 : Cond.methodLink RL 93 yX7_starts ∈ TBL := tbl_3 (List.mem_of_getElem? (i := 118) (by decide +kernel)) rfl
theorem tb_3_119 : Cond.instanceMethod yX7_starts ∈ TBL := tbl_3 (List.mem_of_getElem? (i := 119) (by decide +kernel)) rfl
theorem tb_3_120 : Cond.selects RX7 yX7_starts yX7_starts ∈ TBL := tbl_3 (List.mem_of_getElem? (i := 120) (by decide +kernel)) rfl
theorem tb_3_121 : Cond.code yX7_starts prog_1_method_20_code 4 (some FieldType.int) ∈ TBL := tbl_3 (List.mem_of_getElem? (i := 121) (by rfl)) rfl
theorem tb_3_122 : Cond.methodLink RX7 204 yX0_startsOf ∈ TBL := tbl_3 (List.mem_of_getElem? (i := 122) (by decide +kernel)) rfl
theorem tb_3_123 : Cond.instanceMethod yX0_startsOf ∈ TBL := tbl_3 (List.mem_of_getElem? (i := 123) (by decide +kernel)) rfl
theorem tb_3_124 : Cond.selects RX0 yX0_startsOf yX0_startsOf ∈ TBL := tbl_3 (List.mem_of_getElem? (i := 124) (by decide +kernel)) rfl
theorem tb_3_125 : Cond.code yX0_startsOf prog_2_method_2_code 2 (some (FieldType.array FieldType.long)) ∈ TBL := tbl_3 (List.mem_of_getElem? (i := 125) (by rfl)) rfl
theorem tb_3_126 : Cond.methodLink RX7 208 yX2_findStarts ∈ TBL := tbl_3 (List.mem_of_getElem? (i := 126) (by decide +kernel)) rfl
theorem tb_3_127 : Cond.instanceMethod yX2_findStarts ∈ TBL := tbl_3 (List.mem_of_getElem? (i := 127) (by decide +kernel)) rfl
theorem tb_3_128 : Cond.selects RX2 yX2_findStarts yX2_findStarts ∈ TBL := tbl_3 (List.mem_of_getElem? (i := 128) (by decide +kernel)) rfl
theorem tb_3_129 : Cond.code yX2_findStarts prog_4_method_9_code 5 none ∈ TBL := tbl_3 (List.mem_of_getElem? (i := 129) (by rfl)) rfl
theorem tb_3_130 : Cond.constantLong RX2 126 (-1 : Int64) ∈ TBL := tbl_3 (List.mem_of_getElem? (i := 130) (by decide +kernel)) rfl
theorem tb_3_131 : Cond.constantLong RX2 128 (4294967295 : Int64) ∈ TBL := tbl_3 (List.mem_of_getElem? (i := 131) (by decide +kernel)) rfl
theorem tb_3_132 : Cond.methodLink RX7 212 yX7_bitsIn ∈ TBL := tbl_3 (List.mem_of_getElem? (i := 132) (by decide +kernel)) rfl
theorem tb_3_133 : Cond.static yX7_bitsIn ∈ TBL := tbl_3 (List.mem_of_getElem? (i := 133) (by decide +kernel)) rfl
theorem tb_3_134 : Cond.code yX7_bitsIn prog_1_method_53_code 3 (some FieldType.int) ∈ TBL := tbl_3 (List.mem_of_getElem? (i := 134) (by rfl)) rfl
theorem tb_3_135 : Cond.methodLink RX7 216 yX7_firstFrom ∈ TBL := tbl_3 (List.mem_of_getElem? (i := 135) (by decide +kernel)) rfl
theorem tb_3_136 : Cond.methodLink RX7 220 yX7_lastOf ∈ TBL := tbl_3 (List.mem_of_getElem? (i := 136) (by decide +kernel)) rfl
theorem tb_3_137 : Cond.static yX7_lastOf ∈ TBL := tbl_3 (List.mem_of_getElem? (i := 137) (by decide +kernel)) rfl
theorem tb_3_138 : Cond.code yX7_lastOf prog_1_method_55_code 2 (some FieldType.int) ∈ TBL := tbl_3 (List.mem_of_getElem? (i := 138) (by rfl)) rfl
theorem tb_3_139 : Cond.methodLink RX7 324 yX7_hasBit ∈ TBL := tbl_3 (List.mem_of_getElem? (i := 139) (by decide +kernel)) rfl
theorem tb_3_140 : Cond.methodLink RL 97 yX7_deepest ∈ TBL := tbl_3 (List.mem_of_getElem? (i := 140) (by decide +kernel)) rfl
theorem tb_3_141 : Cond.instanceMethod yX7_deepest ∈ TBL := tbl_3 (List.mem_of_getElem? (i := 141) (by decide +kernel)) rfl
theorem tb_3_142 : Cond.selects RX7 yX7_deepest yX7_deepest ∈ TBL := tbl_3 (List.mem_of_getElem? (i := 142) (by decide +kernel)) rfl
theorem tb_3_143 : Cond.code yX7_deepest prog_1_method_21_code 5 (some FieldType.int) ∈ TBL := tbl_3 (List.mem_of_getElem? (i := 143) (by rfl)) rfl
theorem tb_3_144 : Cond.methodLink RX7 223 yX2_layTide ∈ TBL := tbl_3 (List.mem_of_getElem? (i := 144) (by decide +kernel)) rfl
theorem tb_3_145 : Cond.methodLink RX7 226 yX5_load ∈ TBL := tbl_3 (List.mem_of_getElem? (i := 145) (by decide +kernel)) rfl
theorem tb_3_146 : Cond.methodLink RX7 229 yX2_rule ∈ TBL := tbl_3 (List.mem_of_getElem? (i := 146) (by decide +kernel)) rfl
theorem tb_3_147 : Cond.methodLink RL 101 yX7_bank ∈ TBL := tbl_3 (List.mem_of_getElem? (i := 147) (by decide +kernel)) rfl
theorem tb_3_148 : Cond.instanceMethod yX7_bank ∈ TBL := tbl_3 (List.mem_of_getElem? (i := 148) (by decide +kernel)) rfl
theorem tb_3_149 : Cond.selects RX7 yX7_bank yX7_bank ∈ TBL := tbl_3 (List.mem_of_getElem? (i := 149) (by decide +kernel)) rfl
theorem tb_3_150 : Cond.code yX7_bank prog_1_method_22_code 4 (some FieldType.int) ∈ TBL := tbl_3 (List.mem_of_getElem? (i := 150) (by rfl)) rfl
theorem tb_3_151 : Cond.methodLink RX7 232 yX7_isHeld ∈ TBL := tbl_3 (List.mem_of_getElem? (i := 151) (by decide +kernel)) rfl
theorem tb_3_153 : Cond.instanceMethod yX7_isHeld ∈ TBL := tbl_3 (List.mem_of_getElem? (i := 153) (by decide +kernel)) rfl
theorem tb_3_154 : Cond.code yX7_isHeld prog_1_method_47_code 6 (some FieldType.boolean) ∈ TBL := tbl_3 (List.mem_of_getElem? (i := 154) (by rfl)) rfl
theorem tb_3_155 : Cond.methodLink RX7 251 yX1_hullOf ∈ TBL := tbl_3 (List.mem_of_getElem? (i := 155) (by decide +kernel)) rfl
theorem tb_3_156 : Cond.methodLink RL 105 yX7_nearest ∈ TBL := tbl_3 (List.mem_of_getElem? (i := 156) (by decide +kernel)) rfl
theorem tb_3_157 : Cond.instanceMethod yX7_nearest ∈ TBL := tbl_3 (List.mem_of_getElem? (i := 157) (by decide +kernel)) rfl
theorem tb_3_158 : Cond.selects RX7 yX7_nearest yX7_nearest ∈ TBL := tbl_3 (List.mem_of_getElem? (i := 158) (by decide +kernel)) rfl
theorem tb_3_159 : Cond.code yX7_nearest prog_1_method_23_code 4 (some FieldType.int) ∈ TBL := tbl_3 (List.mem_of_getElem? (i := 159) (by rfl)) rfl
theorem tb_3_160 : Cond.methodLink RL 109 yX7_steered ∈ TBL := tbl_3 (List.mem_of_getElem? (i := 160) (by decide +kernel)) rfl
theorem tb_3_161 : Cond.instanceMethod yX7_steered ∈ TBL := tbl_3 (List.mem_of_getElem? (i := 161) (by decide +kernel)) rfl
theorem tb_3_162 : Cond.selects RX7 yX7_steered yX7_steered ∈ TBL := tbl_3 (List.mem_of_getElem? (i := 162) (by decide +kernel)) rfl
theorem tb_3_163 : Cond.code yX7_steered prog_1_method_24_code 6 (some FieldType.int) ∈ TBL := tbl_3 (List.mem_of_getElem? (i := 163) (by rfl)) rfl
theorem tb_3_164 : Cond.methodLink RX7 240 yJ6_compare_7cf53 ∈ TBL := tbl_3 (List.mem_of_getElem? (i := 164) (by decide +kernel)) rfl
theorem tb_3_165 : Cond.static yJ6_compare_7cf53 ∈ TBL := tbl_3 (List.mem_of_getElem? (i := 165) (by decide +kernel)) rfl
theorem tb_3_166 : Cond.code yJ6_compare_7cf53 prog_11_method_40_code 2 (some FieldType.int) ∈ TBL := tbl_3 (List.mem_of_getElem? (i := 166) (by rfl)) rfl
theorem tb_3_167 : Cond.methodLink RX7 245 yJ9_abs_0f7a4 ∈ TBL := tbl_3 (List.mem_of_getElem? (i := 167) (by decide +kernel)) rfl
theorem tb_3_168 : Cond.static yJ9_abs_0f7a4 ∈ TBL := tbl_3 (List.mem_of_getElem? (i := 168) (by decide +kernel)) rfl
theorem tb_3_169 : Cond.code yJ9_abs_0f7a4 prog_13_method_59_code 1 (some FieldType.int) ∈ TBL := tbl_3 (List.mem_of_getElem? (i := 169) (by rfl)) rfl
theorem tb_3_170 : Cond.methodLink RL 113 yX7_may ∈ TBL := tbl_3 (List.mem_of_getElem? (i := 170) (by decide +kernel)) rfl
theorem tb_3_171 : Cond.instanceMethod yX7_may ∈ TBL := tbl_3 (List.mem_of_getElem? (i := 171) (by decide +kernel)) rfl
theorem tb_3_172 : Cond.selects RX7 yX7_may yX7_may ∈ TBL := tbl_3 (List.mem_of_getElem? (i := 172) (by decide +kernel)) rfl
theorem tb_3_173 : Cond.code yX7_may prog_1_method_25_code 7 (some FieldType.int) ∈ TBL := tbl_3 (List.mem_of_getElem? (i := 173) (by rfl)) rfl
theorem tb_3_174 : Cond.methodLink RX7 248 yX7_areTwo ∈ TBL := tbl_3 (List.mem_of_getElem? (i := 174) (by decide +kernel)) rfl
theorem tb_3_176 : Cond.instanceMethod yX7_areTwo ∈ TBL := tbl_3 (List.mem_of_getElem? (i := 176) (by decide +kernel)) rfl
theorem tb_3_177 : Cond.code yX7_areTwo prog_1_method_46_code 3 (some FieldType.boolean) ∈ TBL := tbl_3 (List.mem_of_getElem? (i := 177) (by rfl)) rfl
theorem tb_3_178 : Cond.methodLink RL 118 yX7_meet ∈ TBL := tbl_3 (List.mem_of_getElem? (i := 178) (by decide +kernel)) rfl
theorem tb_3_179 : Cond.instanceMethod yX7_meet ∈ TBL := tbl_3 (List.mem_of_getElem? (i := 179) (by decide +kernel)) rfl
theorem tb_3_180 : Cond.selects RX7 yX7_meet yX7_meet ∈ TBL := tbl_3 (List.mem_of_getElem? (i := 180) (by decide +kernel)) rfl
theorem tb_3_181 : Cond.code yX7_meet prog_1_method_26_code 12 (some FieldType.int) ∈ TBL := tbl_3 (List.mem_of_getElem? (i := 181) (by rfl)) rfl
theorem tb_3_182 : Cond.methodLink RX7 257 yX7_minutesBy ∈ TBL := tbl_3 (List.mem_of_getElem? (i := 182) (by decide +kernel)) rfl
theorem tb_3_183 : Cond.methodLink RL 123 yX7_day ∈ TBL := tbl_3 (List.mem_of_getElem? (i := 183) (by decide +kernel)) rfl
theorem tb_3_184 : Cond.instanceMethod yX7_day ∈ TBL := tbl_3 (List.mem_of_getElem? (i := 184) (by decide +kernel)) rfl
theorem tb_3_185 : Cond.selects RX7 yX7_day yX7_day ∈ TBL := tbl_3 (List.mem_of_getElem? (i := 185) (by decide +kernel)) rfl
theorem tb_3_186 : Cond.code yX7_day prog_1_method_27_code 5 (some FieldType.int) ∈ TBL := tbl_3 (List.mem_of_getElem? (i := 186) (by rfl)) rfl
theorem tb_3_187 : Cond.methodLink RX7 260 yX0_arrange ∈ TBL := tbl_3 (List.mem_of_getElem? (i := 187) (by decide +kernel)) rfl
theorem tb_3_188 : Cond.instanceMethod yX0_arrange ∈ TBL := tbl_3 (List.mem_of_getElem? (i := 188) (by decide +kernel)) rfl
theorem tb_3_189 : Cond.selects RX0 yX0_arrange yX0_arrange ∈ TBL := tbl_3 (List.mem_of_getElem? (i := 189) (by decide +kernel)) rfl
theorem tb_3_190 : Cond.code yX0_arrange prog_2_method_3_code 3 (some FieldType.int) ∈ TBL := tbl_3 (List.mem_of_getElem? (i := 190) (by rfl)) rfl
theorem tb_3_191 : Cond.constant RX0 35 (2147483647 : Int32) ∈ TBL := tbl_3 (List.mem_of_getElem? (i := 191) (by decide +kernel)) rfl
theorem tb_3_192 : Cond.methodLink RX0 36 yX0_tryNext ∈ TBL := tbl_3 (List.mem_of_getElem? (i := 192) (by decide +kernel)) rfl
theorem tb_3_194 : Cond.instanceMethod yX0_tryNext ∈ TBL := tbl_3 (List.mem_of_getElem? (i := 194) (by decide +kernel)) rfl
theorem tb_3_195 : Cond.code yX0_tryNext prog_2_method_5_code 7 none ∈ TBL := tbl_3 (List.mem_of_getElem? (i := 195) (by rfl)) rfl
theorem tb_3_196 : Cond.methodLink RX0 40 yX0_keepBetter ∈ TBL := tbl_3 (List.mem_of_getElem? (i := 196) (by decide +kernel)) rfl
theorem tb_3_198 : Cond.instanceMethod yX0_keepBetter ∈ TBL := tbl_3 (List.mem_of_getElem? (i := 198) (by decide +kernel)) rfl
theorem tb_3_199 : Cond.code yX0_keepBetter prog_2_method_6_code 3 none ∈ TBL := tbl_3 (List.mem_of_getElem? (i := 199) (by rfl)) rfl
theorem tb_3_200 : Cond.methodLink RX0 48 arraycopyName ∈ TBL := tbl_3 (List.mem_of_getElem? (i := 200) (by decide +kernel)) rfl
theorem tb_3_202 : Cond.methodLink RX7 263 yX0_goes ∈ TBL := tbl_3 (List.mem_of_getElem? (i := 202) (by decide +kernel)) rfl
theorem tb_3_203 : Cond.instanceMethod yX0_goes ∈ TBL := tbl_3 (List.mem_of_getElem? (i := 203) (by decide +kernel)) rfl
theorem tb_3_204 : Cond.selects RX0 yX0_goes yX0_goes ∈ TBL := tbl_3 (List.mem_of_getElem? (i := 204) (by decide +kernel)) rfl
theorem tb_3_205 : Cond.code yX0_goes prog_2_method_4_code 2 (some FieldType.int) ∈ TBL := tbl_3 (List.mem_of_getElem? (i := 205) (by rfl)) rfl
theorem tb_3_206 : Cond.methodLink RL 127 yX7_dredged ∈ TBL := tbl_3 (List.mem_of_getElem? (i := 206) (by decide +kernel)) rfl
theorem tb_3_207 : Cond.instanceMethod yX7_dredged ∈ TBL := tbl_3 (List.mem_of_getElem? (i := 207) (by decide +kernel)) rfl
theorem tb_3_208 : Cond.selects RX7 yX7_dredged yX7_dredged ∈ TBL := tbl_3 (List.mem_of_getElem? (i := 208) (by decide +kernel)) rfl
theorem tb_3_209 : Cond.code yX7_dredged prog_1_method_28_code 9 (some FieldType.int) ∈ TBL := tbl_3 (List.mem_of_getElem? (i := 209) (by rfl)) rfl
theorem tb_3_210 : Cond.methodLink RX7 272 yX2_ruleMile ∈ TBL := tbl_3 (List.mem_of_getElem? (i := 210) (by decide +kernel)) rfl
theorem tb_3_211 : Cond.methodLink RL 131 yX7_lost ∈ TBL := tbl_3 (List.mem_of_getElem? (i := 211) (by decide +kernel)) rfl
theorem tb_3_212 : Cond.instanceMethod yX7_lost ∈ TBL := tbl_3 (List.mem_of_getElem? (i := 212) (by decide +kernel)) rfl
theorem tb_3_213 : Cond.selects RX7 yX7_lost yX7_lost ∈ TBL := tbl_3 (List.mem_of_getElem? (i := 213) (by decide +kernel)) rfl
theorem tb_3_214 : Cond.code yX7_lost prog_1_method_29_code 7 (some FieldType.int) ∈ TBL := tbl_3 (List.mem_of_getElem? (i := 214) (by rfl)) rfl
theorem tb_3_215 : Cond.methodLink RX7 275 yX5_keepTo ∈ TBL := tbl_3 (List.mem_of_getElem? (i := 215) (by decide +kernel)) rfl
theorem tb_3_216 : Cond.methodLink RL 135 yX7_touched ∈ TBL := tbl_3 (List.mem_of_getElem? (i := 216) (by decide +kernel)) rfl
theorem tb_3_217 : Cond.instanceMethod yX7_touched ∈ TBL := tbl_3 (List.mem_of_getElem? (i := 217) (by decide +kernel)) rfl
theorem tb_3_218 : Cond.selects RX7 yX7_touched yX7_touched ∈ TBL := tbl_3 (List.mem_of_getElem? (i := 218) (by decide +kernel)) rfl
theorem tb_3_219 : Cond.code yX7_touched prog_1_method_30_code 7 (some FieldType.int) ∈ TBL := tbl_3 (List.mem_of_getElem? (i := 219) (by rfl)) rfl
theorem tb_3_220 : Cond.methodLink RL 139 yX7_past ∈ TBL := tbl_3 (List.mem_of_getElem? (i := 220) (by decide +kernel)) rfl
theorem tb_3_221 : Cond.instanceMethod yX7_past ∈ TBL := tbl_3 (List.mem_of_getElem? (i := 221) (by decide +kernel)) rfl
theorem tb_3_222 : Cond.selects RX7 yX7_past yX7_past ∈ TBL := tbl_3 (List.mem_of_getElem? (i := 222) (by decide +kernel)) rfl
theorem tb_3_223 : Cond.code yX7_past prog_1_method_31_code 6 (some FieldType.int) ∈ TBL := tbl_3 (List.mem_of_getElem? (i := 223) (by rfl)) rfl
theorem tb_3_224 : Cond.methodLink RL 143 yX7_image ∈ TBL := tbl_3 (List.mem_of_getElem? (i := 224) (by decide +kernel)) rfl
theorem tb_3_225 : Cond.instanceMethod yX7_image ∈ TBL := tbl_3 (List.mem_of_getElem? (i := 225) (by decide +kernel)) rfl
theorem tb_3_226 : Cond.selects RX7 yX7_image yX7_image ∈ TBL := tbl_3 (List.mem_of_getElem? (i := 226) (by decide +kernel)) rfl
theorem tb_3_227 : Cond.code yX7_image prog_1_method_32_code 1 (some FieldType.int) ∈ TBL := tbl_3 (List.mem_of_getElem? (i := 227) (by rfl)) rfl
theorem tb_3_228 : Cond.methodLink RX7 282 yX1_take ∈ TBL := tbl_3 (List.mem_of_getElem? (i := 228) (by decide +kernel)) rfl
theorem tb_3_229 : Cond.instanceMethod yX1_take ∈ TBL := tbl_3 (List.mem_of_getElem? (i := 229) (by decide +kernel)) rfl
theorem tb_3_230 : Cond.selects RX1 yX1_take yX1_take ∈ TBL := tbl_3 (List.mem_of_getElem? (i := 230) (by decide +kernel)) rfl
theorem tb_3_231 : Cond.code yX1_take prog_3_method_2_code 2 none ∈ TBL := tbl_3 (List.mem_of_getElem? (i := 231) (by rfl)) rfl
theorem tb_3_232 : Cond.methodLink RL 147 yX7_restore ∈ TBL := tbl_3 (List.mem_of_getElem? (i := 232) (by decide +kernel)) rfl
theorem tb_3_233 : Cond.instanceMethod yX7_restore ∈ TBL := tbl_3 (List.mem_of_getElem? (i := 233) (by decide +kernel)) rfl
theorem tb_3_234 : Cond.selects RX7 yX7_restore yX7_restore ∈ TBL := tbl_3 (List.mem_of_getElem? (i := 234) (by decide +kernel)) rfl
theorem tb_3_235 : Cond.code yX7_restore prog_1_method_33_code 1 (some FieldType.int) ∈ TBL := tbl_3 (List.mem_of_getElem? (i := 235) (by rfl)) rfl
theorem tb_3_236 : Cond.methodLink RL 151 yX7_gauged ∈ TBL := tbl_3 (List.mem_of_getElem? (i := 236) (by decide +kernel)) rfl
theorem tb_3_237 : Cond.instanceMethod yX7_gauged ∈ TBL := tbl_3 (List.mem_of_getElem? (i := 237) (by decide +kernel)) rfl
theorem tb_3_238 : Cond.selects RX7 yX7_gauged yX7_gauged ∈ TBL := tbl_3 (List.mem_of_getElem? (i := 238) (by decide +kernel)) rfl
theorem tb_3_239 : Cond.code yX7_gauged prog_1_method_34_code 8 (some FieldType.int) ∈ TBL := tbl_3 (List.mem_of_getElem? (i := 239) (by rfl)) rfl
theorem tb_4_0 : Cond.methodLink RX7 285 yX3_refusal ∈ TBL := tbl_4 (List.mem_of_getElem? (i := 0) (by decide +kernel)) rfl
theorem tb_4_1 : Cond.instanceMethod yX3_refusal ∈ TBL := tbl_4 (List.mem_of_getElem? (i := 1) (by decide +kernel)) rfl
theorem tb_4_2 : Cond.selects RX3 yX3_refusal yX3_refusal ∈ TBL := tbl_4 (List.mem_of_getElem? (i := 2) (by decide +kernel)) rfl
theorem tb_4_3 : Cond.code yX3_refusal prog_5_method_4_code 5 (some FieldType.int) ∈ TBL := tbl_4 (List.mem_of_getElem? (i := 3) (by rfl)) rfl
theorem tb_4_4 : Cond.methodLink RX3 23 yX3_isSheet ∈ TBL := tbl_4 (List.mem_of_getElem? (i := 4) (by decide +kernel)) rfl
theorem tb_4_5 : Cond.static yX3_isSheet ∈ TBL := tbl_4 (List.mem_of_getElem? (i := 5) (by decide +kernel)) rfl
theorem tb_4_6 : Cond.code yX3_isSheet prog_5_method_8_code 1 (some FieldType.boolean) ∈ TBL := tbl_4 (List.mem_of_getElem? (i := 6) (by rfl)) rfl
theorem tb_4_8 : Cond.methodLink RX3 27 yX3_isLane ∈ TBL := tbl_4 (List.mem_of_getElem? (i := 8) (by decide +kernel)) rfl
theorem tb_4_9 : Cond.static yX3_isLane ∈ TBL := tbl_4 (List.mem_of_getElem? (i := 9) (by decide +kernel)) rfl
theorem tb_4_10 : Cond.code yX3_isLane prog_5_method_9_code 1 (some FieldType.boolean) ∈ TBL := tbl_4 (List.mem_of_getElem? (i := 10) (by rfl)) rfl
theorem tb_4_11 : Cond.methodLink RX3 30 yX3_isNothing ∈ TBL := tbl_4 (List.mem_of_getElem? (i := 11) (by decide +kernel)) rfl
theorem tb_4_13 : Cond.instanceMethod yX3_isNothing ∈ TBL := tbl_4 (List.mem_of_getElem? (i := 13) (by decide +kernel)) rfl
theorem tb_4_14 : Cond.code yX3_isNothing prog_5_method_10_code 2 (some FieldType.boolean) ∈ TBL := tbl_4 (List.mem_of_getElem? (i := 14) (by rfl)) rfl
theorem tb_4_15 : Cond.methodLink RX3 33 yX3_hasItems ∈ TBL := tbl_4 (List.mem_of_getElem? (i := 15) (by decide +kernel)) rfl
theorem tb_4_17 : Cond.instanceMethod yX3_hasItems ∈ TBL := tbl_4 (List.mem_of_getElem? (i := 17) (by decide +kernel)) rfl
theorem tb_4_18 : Cond.code yX3_hasItems prog_5_method_11_code 4 (some FieldType.boolean) ∈ TBL := tbl_4 (List.mem_of_getElem? (i := 18) (by rfl)) rfl
theorem tb_4_19 : Cond.methodLink RX7 288 yX3_get ∈ TBL := tbl_4 (List.mem_of_getElem? (i := 19) (by decide +kernel)) rfl
theorem tb_4_20 : Cond.instanceMethod yX3_get ∈ TBL := tbl_4 (List.mem_of_getElem? (i := 20) (by decide +kernel)) rfl
theorem tb_4_21 : Cond.selects RX3 yX3_get yX3_get ∈ TBL := tbl_4 (List.mem_of_getElem? (i := 21) (by decide +kernel)) rfl
theorem tb_4_22 : Cond.code yX3_get prog_5_method_5_code 3 (some FieldType.int) ∈ TBL := tbl_4 (List.mem_of_getElem? (i := 22) (by rfl)) rfl
theorem tb_4_23 : Cond.methodLink RX7 291 yX7_latesBy ∈ TBL := tbl_4 (List.mem_of_getElem? (i := 23) (by decide +kernel)) rfl
theorem tb_4_25 : Cond.instanceMethod yX7_latesBy ∈ TBL := tbl_4 (List.mem_of_getElem? (i := 25) (by decide +kernel)) rfl
theorem tb_4_26 : Cond.code yX7_latesBy prog_1_method_48_code 9 (some FieldType.int) ∈ TBL := tbl_4 (List.mem_of_getElem? (i := 26) (by rfl)) rfl
theorem tb_4_27 : Cond.methodLink RX7 310 yX7_isLate ∈ TBL := tbl_4 (List.mem_of_getElem? (i := 27) (by decide +kernel)) rfl
theorem tb_4_29 : Cond.instanceMethod yX7_isLate ∈ TBL := tbl_4 (List.mem_of_getElem? (i := 29) (by decide +kernel)) rfl
theorem tb_4_30 : Cond.code yX7_isLate prog_1_method_49_code 7 (some FieldType.boolean) ∈ TBL := tbl_4 (List.mem_of_getElem? (i := 30) (by rfl)) rfl
theorem tb_4_31 : Cond.methodLink RX7 313 yX1_tideBy ∈ TBL := tbl_4 (List.mem_of_getElem? (i := 31) (by decide +kernel)) rfl
theorem tb_4_32 : Cond.methodLink RL 155 yX7_sheet ∈ TBL := tbl_4 (List.mem_of_getElem? (i := 32) (by decide +kernel)) rfl
theorem tb_4_33 : Cond.instanceMethod yX7_sheet ∈ TBL := tbl_4 (List.mem_of_getElem? (i := 33) (by decide +kernel)) rfl
theorem tb_4_34 : Cond.selects RX7 yX7_sheet yX7_sheet ∈ TBL := tbl_4 (List.mem_of_getElem? (i := 34) (by decide +kernel)) rfl
theorem tb_4_35 : Cond.code yX7_sheet prog_1_method_35_code 4 (some FieldType.int) ∈ TBL := tbl_4 (List.mem_of_getElem? (i := 35) (by rfl)) rfl
theorem tb_4_36 : Cond.methodLink RX7 294 yX3_begin ∈ TBL := tbl_4 (List.mem_of_getElem? (i := 36) (by decide +kernel)) rfl
theorem tb_4_37 : Cond.instanceMethod yX3_begin ∈ TBL := tbl_4 (List.mem_of_getElem? (i := 37) (by decide +kernel)) rfl
theorem tb_4_38 : Cond.selects RX3 yX3_begin yX3_begin ∈ TBL := tbl_4 (List.mem_of_getElem? (i := 38) (by decide +kernel)) rfl
theorem tb_4_39 : Cond.code yX3_begin prog_5_method_2_code 5 (some FieldType.int) ∈ TBL := tbl_4 (List.mem_of_getElem? (i := 39) (by rfl)) rfl
theorem tb_4_40 : Cond.methodLink RL 159 yX7_drop ∈ TBL := tbl_4 (List.mem_of_getElem? (i := 40) (by decide +kernel)) rfl
theorem tb_4_41 : Cond.instanceMethod yX7_drop ∈ TBL := tbl_4 (List.mem_of_getElem? (i := 41) (by decide +kernel)) rfl
theorem tb_4_42 : Cond.selects RX7 yX7_drop yX7_drop ∈ TBL := tbl_4 (List.mem_of_getElem? (i := 42) (by decide +kernel)) rfl
theorem tb_4_43 : Cond.code yX7_drop prog_1_method_36_code 2 (some FieldType.int) ∈ TBL := tbl_4 (List.mem_of_getElem? (i := 43) (by rfl)) rfl
theorem tb_4_44 : Cond.methodLink RX7 296 yX3_forget ∈ TBL := tbl_4 (List.mem_of_getElem? (i := 44) (by decide +kernel)) rfl
theorem tb_4_45 : Cond.instanceMethod yX3_forget ∈ TBL := tbl_4 (List.mem_of_getElem? (i := 45) (by decide +kernel)) rfl
theorem tb_4_46 : Cond.selects RX3 yX3_forget yX3_forget ∈ TBL := tbl_4 (List.mem_of_getElem? (i := 46) (by decide +kernel)) rfl
theorem tb_4_47 : Cond.code yX3_forget prog_5_method_3_code 2 (some FieldType.int) ∈ TBL := tbl_4 (List.mem_of_getElem? (i := 47) (by rfl)) rfl
theorem tb_4_48 : Cond.methodLink RL 163 yX7_item ∈ TBL := tbl_4 (List.mem_of_getElem? (i := 48) (by decide +kernel)) rfl
theorem tb_4_49 : Cond.instanceMethod yX7_item ∈ TBL := tbl_4 (List.mem_of_getElem? (i := 49) (by decide +kernel)) rfl
theorem tb_4_50 : Cond.selects RX7 yX7_item yX7_item ∈ TBL := tbl_4 (List.mem_of_getElem? (i := 50) (by decide +kernel)) rfl
theorem tb_4_51 : Cond.code yX7_item prog_1_method_37_code 6 (some FieldType.int) ∈ TBL := tbl_4 (List.mem_of_getElem? (i := 51) (by rfl)) rfl
theorem tb_4_52 : Cond.methodLink RX7 299 yX3_put ∈ TBL := tbl_4 (List.mem_of_getElem? (i := 52) (by decide +kernel)) rfl
theorem tb_4_53 : Cond.instanceMethod yX3_put ∈ TBL := tbl_4 (List.mem_of_getElem? (i := 53) (by decide +kernel)) rfl
theorem tb_4_54 : Cond.selects RX3 yX3_put yX3_put ∈ TBL := tbl_4 (List.mem_of_getElem? (i := 54) (by decide +kernel)) rfl
theorem tb_4_55 : Cond.code yX3_put prog_5_method_6_code 5 none ∈ TBL := tbl_4 (List.mem_of_getElem? (i := 55) (by rfl)) rfl
theorem tb_4_56 : Cond.methodLink RL 167 yX7_copy ∈ TBL := tbl_4 (List.mem_of_getElem? (i := 56) (by decide +kernel)) rfl
theorem tb_4_57 : Cond.instanceMethod yX7_copy ∈ TBL := tbl_4 (List.mem_of_getElem? (i := 57) (by decide +kernel)) rfl
theorem tb_4_58 : Cond.selects RX7 yX7_copy yX7_copy ∈ TBL := tbl_4 (List.mem_of_getElem? (i := 58) (by decide +kernel)) rfl
theorem tb_4_59 : Cond.code yX7_copy prog_1_method_38_code 6 (some FieldType.int) ∈ TBL := tbl_4 (List.mem_of_getElem? (i := 59) (by rfl)) rfl
theorem tb_4_60 : Cond.methodLink RX7 303 yX3_move ∈ TBL := tbl_4 (List.mem_of_getElem? (i := 60) (by decide +kernel)) rfl
theorem tb_4_61 : Cond.instanceMethod yX3_move ∈ TBL := tbl_4 (List.mem_of_getElem? (i := 61) (by decide +kernel)) rfl
theorem tb_4_62 : Cond.selects RX3 yX3_move yX3_move ∈ TBL := tbl_4 (List.mem_of_getElem? (i := 62) (by decide +kernel)) rfl
theorem tb_4_63 : Cond.code yX3_move prog_5_method_7_code 6 (some FieldType.int) ∈ TBL := tbl_4 (List.mem_of_getElem? (i := 63) (by rfl)) rfl
theorem tb_4_64 : Cond.methodLink RX3 37 arraycopyName ∈ TBL := tbl_4 (List.mem_of_getElem? (i := 64) (by decide +kernel)) rfl
theorem tb_4_65 : Cond.classLink RL 10 "DeepShipModel" ∈ TBL := tbl_4 (List.mem_of_getElem? (i := 65) (by decide +kernel)) rfl
theorem tb_4_66 : Cond.instantiable RX8 29 ∈ TBL := tbl_4 (List.mem_of_getElem? (i := 66) (by decide +kernel)) rfl
theorem tb_4_67 : Cond.methodLink RL 12 yX8_init ∈ TBL := tbl_4 (List.mem_of_getElem? (i := 67) (by decide +kernel)) rfl
theorem tb_4_68 : Cond.instanceMethod yX8_init ∈ TBL := tbl_4 (List.mem_of_getElem? (i := 68) (by decide +kernel)) rfl
theorem tb_4_69 : Cond.code yX8_init prog_10_method_3_code 2 none ∈ TBL := tbl_4 (List.mem_of_getElem? (i := 69) (by rfl)) rfl
theorem tb_4_70 : Cond.methodLink RX8 1 objectInit ∈ TBL := tbl_4 (List.mem_of_getElem? (i := 70) (by decide +kernel)) rfl
theorem tb_4_71 : Cond.fieldLink RX8 69 "DeepShipModel" "miles" "I" ∈ TBL := tbl_4 (List.mem_of_getElem? (i := 71) (by decide +kernel)) rfl
theorem tb_4_72 : Cond.fieldLink RX8 7 "DeepShipModel" "parts" "[I" ∈ TBL := tbl_4 (List.mem_of_getElem? (i := 72) (by decide +kernel)) rfl
theorem tb_4_73 : Cond.fieldLink RX8 13 "DeepShipModel" "heights" "[I" ∈ TBL := tbl_4 (List.mem_of_getElem? (i := 73) (by decide +kernel)) rfl
theorem tb_4_74 : Cond.fieldLink RX8 16 "DeepShipModel" "sets" "[I" ∈ TBL := tbl_4 (List.mem_of_getElem? (i := 74) (by decide +kernel)) rfl
theorem tb_4_75 : Cond.fieldLink RX8 77 "DeepShipModel" "ships" "I" ∈ TBL := tbl_4 (List.mem_of_getElem? (i := 75) (by decide +kernel)) rfl
theorem tb_4_76 : Cond.fieldLink RX8 19 "DeepShipModel" "hulls" "[I" ∈ TBL := tbl_4 (List.mem_of_getElem? (i := 76) (by decide +kernel)) rfl
theorem tb_4_77 : Cond.fieldLink RX8 22 "DeepShipModel" "tape" "[I" ∈ TBL := tbl_4 (List.mem_of_getElem? (i := 77) (by decide +kernel)) rfl
theorem tb_4_78 : Cond.fieldLink RX8 130 "DeepShipModel" "taped" "I" ∈ TBL := tbl_4 (List.mem_of_getElem? (i := 78) (by decide +kernel)) rfl
theorem tb_4_79 : Cond.fieldLink RX8 133 "DeepShipModel" "at" "I" ∈ TBL := tbl_4 (List.mem_of_getElem? (i := 79) (by decide +kernel)) rfl
theorem tb_4_80 : Cond.fieldLink RX8 136 "DeepShipModel" "wrong" "Z" ∈ TBL := tbl_4 (List.mem_of_getElem? (i := 80) (by decide +kernel)) rfl
theorem tb_4_81 : Cond.fieldLink RX8 25 "DeepShipModel" "read" "[I" ∈ TBL := tbl_4 (List.mem_of_getElem? (i := 81) (by decide +kernel)) rfl
theorem tb_4_82 : Cond.fieldLink RX8 188 "DeepShipModel" "touchedAt" "I" ∈ TBL := tbl_4 (List.mem_of_getElem? (i := 82) (by decide +kernel)) rfl
theorem tb_4_83 : Cond.fieldLink RX8 191 "DeepShipModel" "minutes" "I" ∈ TBL := tbl_4 (List.mem_of_getElem? (i := 83) (by decide +kernel)) rfl
theorem tb_4_84 : Cond.fieldLink RX8 195 "DeepShipModel" "leastUnder" "I" ∈ TBL := tbl_4 (List.mem_of_getElem? (i := 84) (by decide +kernel)) rfl
theorem tb_4_85 : Cond.fieldLink RX8 198 "DeepShipModel" "byRule" "Z" ∈ TBL := tbl_4 (List.mem_of_getElem? (i := 85) (by decide +kernel)) rfl
theorem tb_4_86 : Cond.fieldLink RX8 28 "DeepShipModel" "left" "[I" ∈ TBL := tbl_4 (List.mem_of_getElem? (i := 86) (by decide +kernel)) rfl
theorem tb_4_87 : Cond.fieldLink RX8 31 "DeepShipModel" "paceBy" "[I" ∈ TBL := tbl_4 (List.mem_of_getElem? (i := 87) (by decide +kernel)) rfl
theorem tb_4_88 : Cond.fieldLink RX8 34 "DeepShipModel" "may" "[Z" ∈ TBL := tbl_4 (List.mem_of_getElem? (i := 88) (by decide +kernel)) rfl
theorem tb_4_89 : Cond.fieldLink RX8 38 "DeepShipModel" "mayNext" "[Z" ∈ TBL := tbl_4 (List.mem_of_getElem? (i := 89) (by decide +kernel)) rfl
theorem tb_4_90 : Cond.fieldLink RX8 41 "DeepShipModel" "off" "[J" ∈ TBL := tbl_4 (List.mem_of_getElem? (i := 90) (by decide +kernel)) rfl
theorem tb_4_91 : Cond.fieldLink RX8 45 "DeepShipModel" "nextStart" "[I" ∈ TBL := tbl_4 (List.mem_of_getElem? (i := 91) (by decide +kernel)) rfl
theorem tb_4_92 : Cond.fieldLink RX8 48 "DeepShipModel" "order" "[I" ∈ TBL := tbl_4 (List.mem_of_getElem? (i := 92) (by decide +kernel)) rfl
theorem tb_4_93 : Cond.fieldLink RX8 51 "DeepShipModel" "bestOrder" "[I" ∈ TBL := tbl_4 (List.mem_of_getElem? (i := 93) (by decide +kernel)) rfl
theorem tb_4_94 : Cond.fieldLink RX8 54 "DeepShipModel" "image" "[I" ∈ TBL := tbl_4 (List.mem_of_getElem? (i := 94) (by decide +kernel)) rfl
theorem tb_4_95 : Cond.fieldLink RX8 242 "DeepShipModel" "isImage" "Z" ∈ TBL := tbl_4 (List.mem_of_getElem? (i := 95) (by decide +kernel)) rfl
theorem tb_4_96 : Cond.fieldLink RX8 57 "DeepShipModel" "lanes" "[I" ∈ TBL := tbl_4 (List.mem_of_getElem? (i := 96) (by decide +kernel)) rfl
theorem tb_4_97 : Cond.fieldLink RX8 60 "DeepShipModel" "sizes" "[I" ∈ TBL := tbl_4 (List.mem_of_getElem? (i := 97) (by decide +kernel)) rfl
theorem tb_4_98 : Cond.fieldLink RX8 63 "DeepShipModel" "items" "[I" ∈ TBL := tbl_4 (List.mem_of_getElem? (i := 98) (by decide +kernel)) rfl
theorem tb_4_99 : Cond.fieldLink RX8 66 "DeepShipModel" "moved" "[I" ∈ TBL := tbl_4 (List.mem_of_getElem? (i := 99) (by decide +kernel)) rfl
theorem tb_4_160 : Cond.methodLink RL 17 yX8_mile ∈ TBL := tbl_4 (List.mem_of_getElem? (i := 160) (by decide +kernel)) rfl
theorem tb_4_161 : Cond.instanceMethod yX8_mile ∈ TBL := tbl_4 (List.mem_of_getElem? (i := 161) (by decide +kernel)) rfl
theorem tb_4_162 : Cond.selects RX8 yX8_mile yX8_mile ∈ TBL := tbl_4 (List.mem_of_getElem? (i := 162) (by decide +kernel)) rfl
theorem tb_4_163 : Cond.code yX8_mile prog_10_method_10_code 3 (some FieldType.int) ∈ TBL := tbl_4 (List.mem_of_getElem? (i := 163) (by rfl)) rfl
theorem tb_4_164 : Cond.methodLink RX8 96 yX8_isPart ∈ TBL := tbl_4 (List.mem_of_getElem? (i := 164) (by decide +kernel)) rfl
theorem tb_4_165 : Cond.static yX8_isPart ∈ TBL := tbl_4 (List.mem_of_getElem? (i := 165) (by decide +kernel)) rfl
theorem tb_4_166 : Cond.code yX8_isPart prog_10_method_8_code 2 (some FieldType.boolean) ∈ TBL := tbl_4 (List.mem_of_getElem? (i := 166) (by rfl)) rfl
theorem tb_4_167 : Cond.constantLong RX8 84 (20 : Int64) ∈ TBL := tbl_4 (List.mem_of_getElem? (i := 167) (by decide +kernel)) rfl
theorem tb_4_168 : Cond.constantLong RX8 86 (250 : Int64) ∈ TBL := tbl_4 (List.mem_of_getElem? (i := 168) (by decide +kernel)) rfl
theorem tb_4_169 : Cond.methodLink RX8 73 yX8_in ∈ TBL := tbl_4 (List.mem_of_getElem? (i := 169) (by decide +kernel)) rfl
theorem tb_4_170 : Cond.static yX8_in ∈ TBL := tbl_4 (List.mem_of_getElem? (i := 170) (by decide +kernel)) rfl
theorem tb_4_171 : Cond.code yX8_in prog_10_method_2_code 6 (some FieldType.boolean) ∈ TBL := tbl_4 (List.mem_of_getElem? (i := 171) (by rfl)) rfl
theorem tb_4_172 : Cond.constantLong RX8 88 (10 : Int64) ∈ TBL := tbl_4 (List.mem_of_getElem? (i := 172) (by decide +kernel)) rfl
theorem tb_4_173 : Cond.constantLong RX8 90 (99 : Int64) ∈ TBL := tbl_4 (List.mem_of_getElem? (i := 173) (by decide +kernel)) rfl
theorem tb_4_174 : Cond.constantLong RX8 92 (9 : Int64) ∈ TBL := tbl_4 (List.mem_of_getElem? (i := 174) (by decide +kernel)) rfl
theorem tb_4_175 : Cond.constantLong RX8 94 (40 : Int64) ∈ TBL := tbl_4 (List.mem_of_getElem? (i := 175) (by decide +kernel)) rfl
theorem tb_4_176 : Cond.methodLink RX8 100 yX8_mileIs ∈ TBL := tbl_4 (List.mem_of_getElem? (i := 176) (by decide +kernel)) rfl
theorem tb_4_178 : Cond.instanceMethod yX8_mileIs ∈ TBL := tbl_4 (List.mem_of_getElem? (i := 178) (by decide +kernel)) rfl
theorem tb_4_179 : Cond.code yX8_mileIs prog_10_method_9_code 7 none ∈ TBL := tbl_4 (List.mem_of_getElem? (i := 179) (by rfl)) rfl
theorem tb_4_180 : Cond.methodLink RL 22 yX8_make ∈ TBL := tbl_4 (List.mem_of_getElem? (i := 180) (by decide +kernel)) rfl
theorem tb_4_181 : Cond.instanceMethod yX8_make ∈ TBL := tbl_4 (List.mem_of_getElem? (i := 181) (by decide +kernel)) rfl
theorem tb_4_182 : Cond.selects RX8 yX8_make yX8_make ∈ TBL := tbl_4 (List.mem_of_getElem? (i := 182) (by decide +kernel)) rfl
theorem tb_4_183 : Cond.code yX8_make prog_10_method_11_code 5 (some FieldType.int) ∈ TBL := tbl_4 (List.mem_of_getElem? (i := 183) (by rfl)) rfl
theorem tb_4_184 : Cond.methodLink RX8 104 yX8_isMile ∈ TBL := tbl_4 (List.mem_of_getElem? (i := 184) (by decide +kernel)) rfl
theorem tb_4_186 : Cond.instanceMethod yX8_isMile ∈ TBL := tbl_4 (List.mem_of_getElem? (i := 186) (by decide +kernel)) rfl
theorem tb_4_187 : Cond.code yX8_isMile prog_10_method_4_code 2 (some FieldType.boolean) ∈ TBL := tbl_4 (List.mem_of_getElem? (i := 187) (by rfl)) rfl
theorem tb_4_188 : Cond.methodLink RL 26 yX8_told ∈ TBL := tbl_4 (List.mem_of_getElem? (i := 188) (by decide +kernel)) rfl
theorem tb_4_189 : Cond.instanceMethod yX8_told ∈ TBL := tbl_4 (List.mem_of_getElem? (i := 189) (by decide +kernel)) rfl
theorem tb_4_190 : Cond.selects RX8 yX8_told yX8_told ∈ TBL := tbl_4 (List.mem_of_getElem? (i := 190) (by decide +kernel)) rfl
theorem tb_4_191 : Cond.code yX8_told prog_10_method_12_code 3 (some FieldType.int) ∈ TBL := tbl_4 (List.mem_of_getElem? (i := 191) (by rfl)) rfl
theorem tb_4_192 : Cond.constantLong RX8 108 (5 : Int64) ∈ TBL := tbl_4 (List.mem_of_getElem? (i := 192) (by decide +kernel)) rfl
theorem tb_4_193 : Cond.methodLink RL 30 yX8_height ∈ TBL := tbl_4 (List.mem_of_getElem? (i := 193) (by decide +kernel)) rfl
theorem tb_4_194 : Cond.instanceMethod yX8_height ∈ TBL := tbl_4 (List.mem_of_getElem? (i := 194) (by decide +kernel)) rfl
theorem tb_4_195 : Cond.selects RX8 yX8_height yX8_height ∈ TBL := tbl_4 (List.mem_of_getElem? (i := 195) (by decide +kernel)) rfl
theorem tb_4_196 : Cond.code yX8_height prog_10_method_13_code 4 (some FieldType.int) ∈ TBL := tbl_4 (List.mem_of_getElem? (i := 196) (by rfl)) rfl
theorem tb_4_197 : Cond.constantLong RX8 110 (23 : Int64) ∈ TBL := tbl_4 (List.mem_of_getElem? (i := 197) (by decide +kernel)) rfl
theorem tb_4_198 : Cond.methodLink RL 34 yX8_set ∈ TBL := tbl_4 (List.mem_of_getElem? (i := 198) (by decide +kernel)) rfl
theorem tb_4_199 : Cond.instanceMethod yX8_set ∈ TBL := tbl_4 (List.mem_of_getElem? (i := 199) (by decide +kernel)) rfl
theorem tb_4_200 : Cond.selects RX8 yX8_set yX8_set ∈ TBL := tbl_4 (List.mem_of_getElem? (i := 200) (by decide +kernel)) rfl
theorem tb_4_201 : Cond.code yX8_set prog_10_method_15_code 4 (some FieldType.int) ∈ TBL := tbl_4 (List.mem_of_getElem? (i := 201) (by rfl)) rfl
theorem tb_4_202 : Cond.methodLink RX8 114 yX8_isSet ∈ TBL := tbl_4 (List.mem_of_getElem? (i := 202) (by decide +kernel)) rfl
theorem tb_4_203 : Cond.static yX8_isSet ∈ TBL := tbl_4 (List.mem_of_getElem? (i := 203) (by decide +kernel)) rfl
theorem tb_4_204 : Cond.code yX8_isSet prog_10_method_14_code 2 (some FieldType.boolean) ∈ TBL := tbl_4 (List.mem_of_getElem? (i := 204) (by rfl)) rfl
theorem tb_4_205 : Cond.constantLong RX8 112 (90 : Int64) ∈ TBL := tbl_4 (List.mem_of_getElem? (i := 205) (by decide +kernel)) rfl
theorem tb_4_206 : Cond.methodLink RL 38 yX8_ship ∈ TBL := tbl_4 (List.mem_of_getElem? (i := 206) (by decide +kernel)) rfl
theorem tb_4_207 : Cond.instanceMethod yX8_ship ∈ TBL := tbl_4 (List.mem_of_getElem? (i := 207) (by decide +kernel)) rfl
theorem tb_4_208 : Cond.selects RX8 yX8_ship yX8_ship ∈ TBL := tbl_4 (List.mem_of_getElem? (i := 208) (by decide +kernel)) rfl
theorem tb_4_209 : Cond.code yX8_ship prog_10_method_16_code 4 (some FieldType.int) ∈ TBL := tbl_4 (List.mem_of_getElem? (i := 209) (by rfl)) rfl
theorem tb_4_210 : Cond.constantLong RX8 117 (200 : Int64) ∈ TBL := tbl_4 (List.mem_of_getElem? (i := 210) (by decide +kernel)) rfl
theorem tb_4_211 : Cond.methodLink RL 42 yX8_pace ∈ TBL := tbl_4 (List.mem_of_getElem? (i := 211) (by decide +kernel)) rfl
theorem tb_4_212 : Cond.instanceMethod yX8_pace ∈ TBL := tbl_4 (List.mem_of_getElem? (i := 212) (by decide +kernel)) rfl
theorem tb_4_213 : Cond.selects RX8 yX8_pace yX8_pace ∈ TBL := tbl_4 (List.mem_of_getElem? (i := 213) (by decide +kernel)) rfl
theorem tb_4_214 : Cond.code yX8_pace prog_10_method_17_code 4 (some FieldType.int) ∈ TBL := tbl_4 (List.mem_of_getElem? (i := 214) (by rfl)) rfl
theorem tb_4_215 : Cond.methodLink RX8 119 yX8_isPace ∈ TBL := tbl_4 (List.mem_of_getElem? (i := 215) (by decide +kernel)) rfl
theorem tb_4_216 : Cond.static yX8_isPace ∈ TBL := tbl_4 (List.mem_of_getElem? (i := 216) (by decide +kernel)) rfl
theorem tb_4_217 : Cond.code yX8_isPace prog_10_method_6_code 1 (some FieldType.boolean) ∈ TBL := tbl_4 (List.mem_of_getElem? (i := 217) (by rfl)) rfl
theorem tb_4_218 : Cond.constantLong RX8 80 (15 : Int64) ∈ TBL := tbl_4 (List.mem_of_getElem? (i := 218) (by decide +kernel)) rfl
theorem tb_4_219 : Cond.methodLink RL 49 yX8_type ∈ TBL := tbl_4 (List.mem_of_getElem? (i := 219) (by decide +kernel)) rfl
theorem tb_4_220 : Cond.instanceMethod yX8_type ∈ TBL := tbl_4 (List.mem_of_getElem? (i := 220) (by decide +kernel)) rfl
theorem tb_4_221 : Cond.selects RX8 yX8_type yX8_type ∈ TBL := tbl_4 (List.mem_of_getElem? (i := 221) (by decide +kernel)) rfl
theorem tb_4_222 : Cond.code yX8_type prog_10_method_18_code 5 (some FieldType.int) ∈ TBL := tbl_4 (List.mem_of_getElem? (i := 222) (by rfl)) rfl
theorem tb_4_223 : Cond.constantLong RX8 122 (8 : Int64) ∈ TBL := tbl_4 (List.mem_of_getElem? (i := 223) (by decide +kernel)) rfl
theorem tb_4_224 : Cond.constantLong RX8 124 (255 : Int64) ∈ TBL := tbl_4 (List.mem_of_getElem? (i := 224) (by decide +kernel)) rfl
theorem tb_4_225 : Cond.constantLong RX8 126 (32 : Int64) ∈ TBL := tbl_4 (List.mem_of_getElem? (i := 225) (by decide +kernel)) rfl
theorem tb_4_226 : Cond.constantLong RX8 128 (126 : Int64) ∈ TBL := tbl_4 (List.mem_of_getElem? (i := 226) (by decide +kernel)) rfl
theorem tb_4_227 : Cond.methodLink RL 54 yX8_channel ∈ TBL := tbl_4 (List.mem_of_getElem? (i := 227) (by decide +kernel)) rfl
theorem tb_4_228 : Cond.instanceMethod yX8_channel ∈ TBL := tbl_4 (List.mem_of_getElem? (i := 228) (by decide +kernel)) rfl
theorem tb_4_229 : Cond.selects RX8 yX8_channel yX8_channel ∈ TBL := tbl_4 (List.mem_of_getElem? (i := 229) (by decide +kernel)) rfl
theorem tb_4_230 : Cond.code yX8_channel prog_10_method_24_code 4 (some FieldType.int) ∈ TBL := tbl_4 (List.mem_of_getElem? (i := 230) (by rfl)) rfl
theorem tb_4_231 : Cond.methodLink RX8 158 yX8_mileClause ∈ TBL := tbl_4 (List.mem_of_getElem? (i := 231) (by decide +kernel)) rfl
theorem tb_4_233 : Cond.instanceMethod yX8_mileClause ∈ TBL := tbl_4 (List.mem_of_getElem? (i := 233) (by decide +kernel)) rfl
theorem tb_4_234 : Cond.code yX8_mileClause prog_10_method_23_code 2 none ∈ TBL := tbl_4 (List.mem_of_getElem? (i := 234) (by rfl)) rfl
theorem tb_4_235 : Cond.methodLink RX8 148 yX8_number ∈ TBL := tbl_4 (List.mem_of_getElem? (i := 235) (by decide +kernel)) rfl
theorem tb_4_237 : Cond.instanceMethod yX8_number ∈ TBL := tbl_4 (List.mem_of_getElem? (i := 237) (by decide +kernel)) rfl
theorem tb_4_238 : Cond.code yX8_number prog_10_method_21_code 5 (some FieldType.int) ∈ TBL := tbl_4 (List.mem_of_getElem? (i := 238) (by rfl)) rfl
theorem tb_4_239 : Cond.methodLink RX8 140 yX8_here ∈ TBL := tbl_4 (List.mem_of_getElem? (i := 239) (by decide +kernel)) rfl
theorem tb_5_1 : Cond.instanceMethod yX8_here ∈ TBL := tbl_5 (List.mem_of_getElem? (i := 1) (by decide +kernel)) rfl
theorem tb_5_2 : Cond.code yX8_here prog_10_method_19_code 1 (some FieldType.int) ∈ TBL := tbl_5 (List.mem_of_getElem? (i := 2) (by rfl)) rfl
theorem tb_5_3 : Cond.constantLong RX8 144 (48 : Int64) ∈ TBL := tbl_5 (List.mem_of_getElem? (i := 3) (by decide +kernel)) rfl
theorem tb_5_4 : Cond.constantLong RX8 146 (57 : Int64) ∈ TBL := tbl_5 (List.mem_of_getElem? (i := 4) (by decide +kernel)) rfl
theorem tb_5_5 : Cond.methodLink RX8 152 yX8_has ∈ TBL := tbl_5 (List.mem_of_getElem? (i := 5) (by decide +kernel)) rfl
theorem tb_5_7 : Cond.instanceMethod yX8_has ∈ TBL := tbl_5 (List.mem_of_getElem? (i := 7) (by decide +kernel)) rfl
theorem tb_5_8 : Cond.code yX8_has prog_10_method_20_code 3 (some FieldType.boolean) ∈ TBL := tbl_5 (List.mem_of_getElem? (i := 8) (by rfl)) rfl
theorem tb_5_9 : Cond.methodLink RX8 155 yX8_digit ∈ TBL := tbl_5 (List.mem_of_getElem? (i := 9) (by decide +kernel)) rfl
theorem tb_5_11 : Cond.instanceMethod yX8_digit ∈ TBL := tbl_5 (List.mem_of_getElem? (i := 11) (by decide +kernel)) rfl
theorem tb_5_12 : Cond.code yX8_digit prog_10_method_22_code 2 (some FieldType.int) ∈ TBL := tbl_5 (List.mem_of_getElem? (i := 12) (by rfl)) rfl
theorem tb_5_13 : Cond.methodLink RL 58 yX8_tides ∈ TBL := tbl_5 (List.mem_of_getElem? (i := 13) (by decide +kernel)) rfl
theorem tb_5_14 : Cond.instanceMethod yX8_tides ∈ TBL := tbl_5 (List.mem_of_getElem? (i := 14) (by decide +kernel)) rfl
theorem tb_5_15 : Cond.selects RX8 yX8_tides yX8_tides ∈ TBL := tbl_5 (List.mem_of_getElem? (i := 15) (by decide +kernel)) rfl
theorem tb_5_16 : Cond.code yX8_tides prog_10_method_25_code 3 (some FieldType.int) ∈ TBL := tbl_5 (List.mem_of_getElem? (i := 16) (by rfl)) rfl
theorem tb_5_17 : Cond.methodLink RL 63 yX8_count ∈ TBL := tbl_5 (List.mem_of_getElem? (i := 17) (by decide +kernel)) rfl
theorem tb_5_18 : Cond.instanceMethod yX8_count ∈ TBL := tbl_5 (List.mem_of_getElem? (i := 18) (by decide +kernel)) rfl
theorem tb_5_19 : Cond.selects RX8 yX8_count yX8_count ∈ TBL := tbl_5 (List.mem_of_getElem? (i := 19) (by decide +kernel)) rfl
theorem tb_5_20 : Cond.code yX8_count prog_10_method_26_code 4 (some FieldType.int) ∈ TBL := tbl_5 (List.mem_of_getElem? (i := 20) (by rfl)) rfl
theorem tb_5_21 : Cond.methodLink RL 67 yX8_tide ∈ TBL := tbl_5 (List.mem_of_getElem? (i := 21) (by decide +kernel)) rfl
theorem tb_5_22 : Cond.instanceMethod yX8_tide ∈ TBL := tbl_5 (List.mem_of_getElem? (i := 22) (by decide +kernel)) rfl
theorem tb_5_23 : Cond.selects RX8 yX8_tide yX8_tide ∈ TBL := tbl_5 (List.mem_of_getElem? (i := 23) (by decide +kernel)) rfl
theorem tb_5_24 : Cond.code yX8_tide prog_10_method_33_code 2 (some FieldType.int) ∈ TBL := tbl_5 (List.mem_of_getElem? (i := 24) (by rfl)) rfl
theorem tb_5_25 : Cond.methodLink RX8 172 yX8_isMinute ∈ TBL := tbl_5 (List.mem_of_getElem? (i := 25) (by decide +kernel)) rfl
theorem tb_5_26 : Cond.static yX8_isMinute ∈ TBL := tbl_5 (List.mem_of_getElem? (i := 26) (by decide +kernel)) rfl
theorem tb_5_27 : Cond.code yX8_isMinute prog_10_method_32_code 1 (some FieldType.boolean) ∈ TBL := tbl_5 (List.mem_of_getElem? (i := 27) (by rfl)) rfl
theorem tb_5_28 : Cond.constantLong RX8 170 (4000 : Int64) ∈ TBL := tbl_5 (List.mem_of_getElem? (i := 28) (by decide +kernel)) rfl
theorem tb_5_29 : Cond.methodLink RX8 162 yX8_tideAt ∈ TBL := tbl_5 (List.mem_of_getElem? (i := 29) (by decide +kernel)) rfl
theorem tb_5_31 : Cond.instanceMethod yX8_tideAt ∈ TBL := tbl_5 (List.mem_of_getElem? (i := 31) (by decide +kernel)) rfl
theorem tb_5_32 : Cond.code yX8_tideAt prog_10_method_27_code 4 (some FieldType.int) ∈ TBL := tbl_5 (List.mem_of_getElem? (i := 32) (by rfl)) rfl
theorem tb_5_33 : Cond.methodLink RL 71 yX8_water ∈ TBL := tbl_5 (List.mem_of_getElem? (i := 33) (by decide +kernel)) rfl
theorem tb_5_34 : Cond.instanceMethod yX8_water ∈ TBL := tbl_5 (List.mem_of_getElem? (i := 34) (by decide +kernel)) rfl
theorem tb_5_35 : Cond.selects RX8 yX8_water yX8_water ∈ TBL := tbl_5 (List.mem_of_getElem? (i := 35) (by decide +kernel)) rfl
theorem tb_5_36 : Cond.code yX8_water prog_10_method_34_code 3 (some FieldType.int) ∈ TBL := tbl_5 (List.mem_of_getElem? (i := 36) (by rfl)) rfl
theorem tb_5_37 : Cond.methodLink RX8 175 yX8_waterAt ∈ TBL := tbl_5 (List.mem_of_getElem? (i := 37) (by decide +kernel)) rfl
theorem tb_5_39 : Cond.instanceMethod yX8_waterAt ∈ TBL := tbl_5 (List.mem_of_getElem? (i := 39) (by decide +kernel)) rfl
theorem tb_5_40 : Cond.code yX8_waterAt prog_10_method_28_code 3 (some FieldType.int) ∈ TBL := tbl_5 (List.mem_of_getElem? (i := 40) (by rfl)) rfl
theorem tb_5_41 : Cond.constant RX8 178 (-100001 : Int32) ∈ TBL := tbl_5 (List.mem_of_getElem? (i := 41) (by decide +kernel)) rfl
theorem tb_5_42 : Cond.methodLink RL 76 yX8_sinks ∈ TBL := tbl_5 (List.mem_of_getElem? (i := 42) (by decide +kernel)) rfl
theorem tb_5_43 : Cond.instanceMethod yX8_sinks ∈ TBL := tbl_5 (List.mem_of_getElem? (i := 43) (by decide +kernel)) rfl
theorem tb_5_44 : Cond.selects RX8 yX8_sinks yX8_sinks ∈ TBL := tbl_5 (List.mem_of_getElem? (i := 44) (by decide +kernel)) rfl
theorem tb_5_45 : Cond.code yX8_sinks prog_10_method_35_code 5 (some FieldType.int) ∈ TBL := tbl_5 (List.mem_of_getElem? (i := 45) (by rfl)) rfl
theorem tb_5_46 : Cond.methodLink RX8 179 yX8_isShip ∈ TBL := tbl_5 (List.mem_of_getElem? (i := 46) (by decide +kernel)) rfl
theorem tb_5_48 : Cond.instanceMethod yX8_isShip ∈ TBL := tbl_5 (List.mem_of_getElem? (i := 48) (by decide +kernel)) rfl
theorem tb_5_49 : Cond.code yX8_isShip prog_10_method_5_code 2 (some FieldType.boolean) ∈ TBL := tbl_5 (List.mem_of_getElem? (i := 49) (by rfl)) rfl
theorem tb_5_50 : Cond.methodLink RX8 166 yX8_sinksBy ∈ TBL := tbl_5 (List.mem_of_getElem? (i := 50) (by decide +kernel)) rfl
theorem tb_5_52 : Cond.instanceMethod yX8_sinksBy ∈ TBL := tbl_5 (List.mem_of_getElem? (i := 52) (by decide +kernel)) rfl
theorem tb_5_53 : Cond.code yX8_sinksBy prog_10_method_29_code 6 (some FieldType.int) ∈ TBL := tbl_5 (List.mem_of_getElem? (i := 53) (by rfl)) rfl
theorem tb_5_54 : Cond.methodLink RL 80 yX8_under ∈ TBL := tbl_5 (List.mem_of_getElem? (i := 54) (by decide +kernel)) rfl
theorem tb_5_55 : Cond.instanceMethod yX8_under ∈ TBL := tbl_5 (List.mem_of_getElem? (i := 55) (by decide +kernel)) rfl
theorem tb_5_56 : Cond.selects RX8 yX8_under yX8_under ∈ TBL := tbl_5 (List.mem_of_getElem? (i := 56) (by decide +kernel)) rfl
theorem tb_5_57 : Cond.code yX8_under prog_10_method_36_code 5 (some FieldType.int) ∈ TBL := tbl_5 (List.mem_of_getElem? (i := 57) (by rfl)) rfl
theorem tb_5_58 : Cond.methodLink RX8 182 yX8_underBy ∈ TBL := tbl_5 (List.mem_of_getElem? (i := 58) (by decide +kernel)) rfl
theorem tb_5_60 : Cond.instanceMethod yX8_underBy ∈ TBL := tbl_5 (List.mem_of_getElem? (i := 60) (by decide +kernel)) rfl
theorem tb_5_61 : Cond.code yX8_underBy prog_10_method_30_code 6 (some FieldType.int) ∈ TBL := tbl_5 (List.mem_of_getElem? (i := 61) (by rfl)) rfl
theorem tb_5_62 : Cond.methodLink RL 84 yX8_need ∈ TBL := tbl_5 (List.mem_of_getElem? (i := 62) (by decide +kernel)) rfl
theorem tb_5_63 : Cond.instanceMethod yX8_need ∈ TBL := tbl_5 (List.mem_of_getElem? (i := 63) (by decide +kernel)) rfl
theorem tb_5_64 : Cond.selects RX8 yX8_need yX8_need ∈ TBL := tbl_5 (List.mem_of_getElem? (i := 64) (by decide +kernel)) rfl
theorem tb_5_65 : Cond.code yX8_need prog_10_method_37_code 2 (some FieldType.int) ∈ TBL := tbl_5 (List.mem_of_getElem? (i := 65) (by rfl)) rfl
theorem tb_5_66 : Cond.methodLink RX8 185 yX8_needOf ∈ TBL := tbl_5 (List.mem_of_getElem? (i := 66) (by decide +kernel)) rfl
theorem tb_5_68 : Cond.instanceMethod yX8_needOf ∈ TBL := tbl_5 (List.mem_of_getElem? (i := 68) (by decide +kernel)) rfl
theorem tb_5_69 : Cond.code yX8_needOf prog_10_method_31_code 2 (some FieldType.int) ∈ TBL := tbl_5 (List.mem_of_getElem? (i := 69) (by rfl)) rfl
theorem tb_5_70 : Cond.methodLink RL 88 yX8_run ∈ TBL := tbl_5 (List.mem_of_getElem? (i := 70) (by decide +kernel)) rfl
theorem tb_5_71 : Cond.instanceMethod yX8_run ∈ TBL := tbl_5 (List.mem_of_getElem? (i := 71) (by decide +kernel)) rfl
theorem tb_5_72 : Cond.selects RX8 yX8_run yX8_run ∈ TBL := tbl_5 (List.mem_of_getElem? (i := 72) (by decide +kernel)) rfl
theorem tb_5_73 : Cond.code yX8_run prog_10_method_39_code 4 (some FieldType.int) ∈ TBL := tbl_5 (List.mem_of_getElem? (i := 73) (by rfl)) rfl
theorem tb_5_74 : Cond.methodLink RX8 201 yX8_isStart ∈ TBL := tbl_5 (List.mem_of_getElem? (i := 74) (by decide +kernel)) rfl
theorem tb_5_75 : Cond.static yX8_isStart ∈ TBL := tbl_5 (List.mem_of_getElem? (i := 75) (by decide +kernel)) rfl
theorem tb_5_76 : Cond.code yX8_isStart prog_10_method_7_code 1 (some FieldType.boolean) ∈ TBL := tbl_5 (List.mem_of_getElem? (i := 76) (by rfl)) rfl
theorem tb_5_77 : Cond.constantLong RX8 82 (1439 : Int64) ∈ TBL := tbl_5 (List.mem_of_getElem? (i := 77) (by decide +kernel)) rfl
theorem tb_5_78 : Cond.constantLong RX8 204 (3 : Int64) ∈ TBL := tbl_5 (List.mem_of_getElem? (i := 78) (by decide +kernel)) rfl
theorem tb_5_79 : Cond.methodLink RX8 206 yX8_goes ∈ TBL := tbl_5 (List.mem_of_getElem? (i := 79) (by decide +kernel)) rfl
theorem tb_5_81 : Cond.instanceMethod yX8_goes ∈ TBL := tbl_5 (List.mem_of_getElem? (i := 81) (by decide +kernel)) rfl
theorem tb_5_82 : Cond.code yX8_goes prog_10_method_38_code 7 none ∈ TBL := tbl_5 (List.mem_of_getElem? (i := 82) (by rfl)) rfl
theorem tb_5_83 : Cond.constant RX8 194 (100000 : Int32) ∈ TBL := tbl_5 (List.mem_of_getElem? (i := 83) (by decide +kernel)) rfl
theorem tb_5_84 : Cond.methodLink RL 92 yX8_least ∈ TBL := tbl_5 (List.mem_of_getElem? (i := 84) (by decide +kernel)) rfl
theorem tb_5_85 : Cond.instanceMethod yX8_least ∈ TBL := tbl_5 (List.mem_of_getElem? (i := 85) (by decide +kernel)) rfl
theorem tb_5_86 : Cond.selects RX8 yX8_least yX8_least ∈ TBL := tbl_5 (List.mem_of_getElem? (i := 86) (by decide +kernel)) rfl
theorem tb_5_87 : Cond.code yX8_least prog_10_method_41_code 7 (some FieldType.int) ∈ TBL := tbl_5 (List.mem_of_getElem? (i := 87) (by rfl)) rfl
theorem tb_5_88 : Cond.constantLong RX8 210 (-1 : Int64) ∈ TBL := tbl_5 (List.mem_of_getElem? (i := 88) (by decide +kernel)) rfl
theorem tb_5_89 : Cond.methodLink RX8 212 yX8_quickest ∈ TBL := tbl_5 (List.mem_of_getElem? (i := 89) (by decide +kernel)) rfl
theorem tb_5_91 : Cond.instanceMethod yX8_quickest ∈ TBL := tbl_5 (List.mem_of_getElem? (i := 91) (by decide +kernel)) rfl
theorem tb_5_92 : Cond.code yX8_quickest prog_10_method_40_code 11 (some FieldType.int) ∈ TBL := tbl_5 (List.mem_of_getElem? (i := 92) (by rfl)) rfl
theorem tb_5_93 : Cond.methodLink RL 96 yX8_starts ∈ TBL := tbl_5 (List.mem_of_getElem? (i := 93) (by decide +kernel)) rfl
theorem tb_5_94 : Cond.instanceMethod yX8_starts ∈ TBL := tbl_5 (List.mem_of_getElem? (i := 94) (by decide +kernel)) rfl
theorem tb_5_95 : Cond.selects RX8 yX8_starts yX8_starts ∈ TBL := tbl_5 (List.mem_of_getElem? (i := 95) (by decide +kernel)) rfl
theorem tb_5_96 : Cond.code yX8_starts prog_10_method_43_code 7 (some FieldType.int) ∈ TBL := tbl_5 (List.mem_of_getElem? (i := 96) (by rfl)) rfl
theorem tb_5_97 : Cond.constantLong RX8 215 (2 : Int64) ∈ TBL := tbl_5 (List.mem_of_getElem? (i := 97) (by decide +kernel)) rfl
theorem tb_5_98 : Cond.methodLink RX8 217 yX8_startsOf ∈ TBL := tbl_5 (List.mem_of_getElem? (i := 98) (by decide +kernel)) rfl
theorem tb_5_100 : Cond.instanceMethod yX8_startsOf ∈ TBL := tbl_5 (List.mem_of_getElem? (i := 100) (by decide +kernel)) rfl
theorem tb_5_101 : Cond.code yX8_startsOf prog_10_method_42_code 8 none ∈ TBL := tbl_5 (List.mem_of_getElem? (i := 101) (by rfl)) rfl
theorem tb_5_102 : Cond.methodLink RL 100 yX8_deepest ∈ TBL := tbl_5 (List.mem_of_getElem? (i := 102) (by decide +kernel)) rfl
theorem tb_5_103 : Cond.instanceMethod yX8_deepest ∈ TBL := tbl_5 (List.mem_of_getElem? (i := 103) (by decide +kernel)) rfl
theorem tb_5_104 : Cond.selects RX8 yX8_deepest yX8_deepest ∈ TBL := tbl_5 (List.mem_of_getElem? (i := 104) (by decide +kernel)) rfl
theorem tb_5_105 : Cond.code yX8_deepest prog_10_method_44_code 8 (some FieldType.int) ∈ TBL := tbl_5 (List.mem_of_getElem? (i := 105) (by rfl)) rfl
theorem tb_5_106 : Cond.methodLink RL 104 yX8_bank ∈ TBL := tbl_5 (List.mem_of_getElem? (i := 106) (by decide +kernel)) rfl
theorem tb_5_107 : Cond.instanceMethod yX8_bank ∈ TBL := tbl_5 (List.mem_of_getElem? (i := 107) (by decide +kernel)) rfl
theorem tb_5_108 : Cond.selects RX8 yX8_bank yX8_bank ∈ TBL := tbl_5 (List.mem_of_getElem? (i := 108) (by decide +kernel)) rfl
theorem tb_5_109 : Cond.code yX8_bank prog_10_method_46_code 4 (some FieldType.int) ∈ TBL := tbl_5 (List.mem_of_getElem? (i := 109) (by rfl)) rfl
theorem tb_5_110 : Cond.methodLink RX8 220 yX8_holds ∈ TBL := tbl_5 (List.mem_of_getElem? (i := 110) (by decide +kernel)) rfl
theorem tb_5_112 : Cond.instanceMethod yX8_holds ∈ TBL := tbl_5 (List.mem_of_getElem? (i := 112) (by decide +kernel)) rfl
theorem tb_5_113 : Cond.code yX8_holds prog_10_method_45_code 5 (some FieldType.boolean) ∈ TBL := tbl_5 (List.mem_of_getElem? (i := 113) (by rfl)) rfl
theorem tb_5_114 : Cond.methodLink RL 108 yX8_nearest ∈ TBL := tbl_5 (List.mem_of_getElem? (i := 114) (by decide +kernel)) rfl
theorem tb_5_115 : Cond.instanceMethod yX8_nearest ∈ TBL := tbl_5 (List.mem_of_getElem? (i := 115) (by decide +kernel)) rfl
theorem tb_5_116 : Cond.selects RX8 yX8_nearest yX8_nearest ∈ TBL := tbl_5 (List.mem_of_getElem? (i := 116) (by decide +kernel)) rfl
theorem tb_5_117 : Cond.code yX8_nearest prog_10_method_47_code 5 (some FieldType.int) ∈ TBL := tbl_5 (List.mem_of_getElem? (i := 117) (by rfl)) rfl
theorem tb_5_118 : Cond.methodLink RL 112 yX8_steered ∈ TBL := tbl_5 (List.mem_of_getElem? (i := 118) (by decide +kernel)) rfl
theorem tb_5_119 : Cond.instanceMethod yX8_steered ∈ TBL := tbl_5 (List.mem_of_getElem? (i := 119) (by decide +kernel)) rfl
theorem tb_5_120 : Cond.selects RX8 yX8_steered yX8_steered ∈ TBL := tbl_5 (List.mem_of_getElem? (i := 120) (by decide +kernel)) rfl
theorem tb_5_121 : Cond.code yX8_steered prog_10_method_48_code 7 (some FieldType.int) ∈ TBL := tbl_5 (List.mem_of_getElem? (i := 121) (by rfl)) rfl
theorem tb_5_122 : Cond.constantLong RX8 224 (4 : Int64) ∈ TBL := tbl_5 (List.mem_of_getElem? (i := 122) (by decide +kernel)) rfl
theorem tb_5_123 : Cond.constantLong RX8 226 (-40 : Int64) ∈ TBL := tbl_5 (List.mem_of_getElem? (i := 123) (by decide +kernel)) rfl
theorem tb_5_124 : Cond.methodLink RL 117 yX8_may ∈ TBL := tbl_5 (List.mem_of_getElem? (i := 124) (by decide +kernel)) rfl
theorem tb_5_125 : Cond.instanceMethod yX8_may ∈ TBL := tbl_5 (List.mem_of_getElem? (i := 125) (by decide +kernel)) rfl
theorem tb_5_126 : Cond.selects RX8 yX8_may yX8_may ∈ TBL := tbl_5 (List.mem_of_getElem? (i := 126) (by decide +kernel)) rfl
theorem tb_5_127 : Cond.code yX8_may prog_10_method_49_code 6 (some FieldType.int) ∈ TBL := tbl_5 (List.mem_of_getElem? (i := 127) (by rfl)) rfl
theorem tb_5_128 : Cond.methodLink RL 122 yX8_meet ∈ TBL := tbl_5 (List.mem_of_getElem? (i := 128) (by decide +kernel)) rfl
theorem tb_5_129 : Cond.instanceMethod yX8_meet ∈ TBL := tbl_5 (List.mem_of_getElem? (i := 129) (by decide +kernel)) rfl
theorem tb_5_130 : Cond.selects RX8 yX8_meet yX8_meet ∈ TBL := tbl_5 (List.mem_of_getElem? (i := 130) (by decide +kernel)) rfl
theorem tb_5_131 : Cond.code yX8_meet prog_10_method_50_code 10 (some FieldType.int) ∈ TBL := tbl_5 (List.mem_of_getElem? (i := 131) (by rfl)) rfl
theorem tb_5_132 : Cond.methodLink RL 126 yX8_day ∈ TBL := tbl_5 (List.mem_of_getElem? (i := 132) (by decide +kernel)) rfl
theorem tb_5_133 : Cond.instanceMethod yX8_day ∈ TBL := tbl_5 (List.mem_of_getElem? (i := 133) (by decide +kernel)) rfl
theorem tb_5_134 : Cond.selects RX8 yX8_day yX8_day ∈ TBL := tbl_5 (List.mem_of_getElem? (i := 134) (by decide +kernel)) rfl
theorem tb_5_135 : Cond.code yX8_day prog_10_method_53_code 9 (some FieldType.int) ∈ TBL := tbl_5 (List.mem_of_getElem? (i := 135) (by rfl)) rfl
theorem tb_5_136 : Cond.constantLong RX8 228 (240 : Int64) ∈ TBL := tbl_5 (List.mem_of_getElem? (i := 136) (by decide +kernel)) rfl
theorem tb_5_137 : Cond.methodLink RX8 230 yX8_sumOf ∈ TBL := tbl_5 (List.mem_of_getElem? (i := 137) (by decide +kernel)) rfl
theorem tb_5_139 : Cond.instanceMethod yX8_sumOf ∈ TBL := tbl_5 (List.mem_of_getElem? (i := 139) (by decide +kernel)) rfl
theorem tb_5_140 : Cond.code yX8_sumOf prog_10_method_52_code 7 (some FieldType.int) ∈ TBL := tbl_5 (List.mem_of_getElem? (i := 140) (by rfl)) rfl
theorem tb_5_141 : Cond.methodLink RX8 233 yX8_turns ∈ TBL := tbl_5 (List.mem_of_getElem? (i := 141) (by decide +kernel)) rfl
theorem tb_5_143 : Cond.instanceMethod yX8_turns ∈ TBL := tbl_5 (List.mem_of_getElem? (i := 143) (by decide +kernel)) rfl
theorem tb_5_144 : Cond.code yX8_turns prog_10_method_51_code 7 (some FieldType.boolean) ∈ TBL := tbl_5 (List.mem_of_getElem? (i := 144) (by rfl)) rfl
theorem tb_5_145 : Cond.methodLink RL 130 yX8_dredged ∈ TBL := tbl_5 (List.mem_of_getElem? (i := 145) (by decide +kernel)) rfl
theorem tb_5_146 : Cond.instanceMethod yX8_dredged ∈ TBL := tbl_5 (List.mem_of_getElem? (i := 146) (by decide +kernel)) rfl
theorem tb_5_147 : Cond.selects RX8 yX8_dredged yX8_dredged ∈ TBL := tbl_5 (List.mem_of_getElem? (i := 147) (by decide +kernel)) rfl
theorem tb_5_148 : Cond.code yX8_dredged prog_10_method_54_code 9 (some FieldType.int) ∈ TBL := tbl_5 (List.mem_of_getElem? (i := 148) (by rfl)) rfl
theorem tb_5_149 : Cond.methodLink RL 134 yX8_lost ∈ TBL := tbl_5 (List.mem_of_getElem? (i := 149) (by decide +kernel)) rfl
theorem tb_5_150 : Cond.instanceMethod yX8_lost ∈ TBL := tbl_5 (List.mem_of_getElem? (i := 150) (by decide +kernel)) rfl
theorem tb_5_151 : Cond.selects RX8 yX8_lost yX8_lost ∈ TBL := tbl_5 (List.mem_of_getElem? (i := 151) (by decide +kernel)) rfl
theorem tb_5_152 : Cond.code yX8_lost prog_10_method_55_code 9 (some FieldType.int) ∈ TBL := tbl_5 (List.mem_of_getElem? (i := 152) (by rfl)) rfl
theorem tb_5_153 : Cond.methodLink RL 138 yX8_touched ∈ TBL := tbl_5 (List.mem_of_getElem? (i := 153) (by decide +kernel)) rfl
theorem tb_5_154 : Cond.instanceMethod yX8_touched ∈ TBL := tbl_5 (List.mem_of_getElem? (i := 154) (by decide +kernel)) rfl
theorem tb_5_155 : Cond.selects RX8 yX8_touched yX8_touched ∈ TBL := tbl_5 (List.mem_of_getElem? (i := 155) (by decide +kernel)) rfl
theorem tb_5_156 : Cond.code yX8_touched prog_10_method_56_code 7 (some FieldType.int) ∈ TBL := tbl_5 (List.mem_of_getElem? (i := 156) (by rfl)) rfl
theorem tb_5_157 : Cond.methodLink RL 142 yX8_past ∈ TBL := tbl_5 (List.mem_of_getElem? (i := 157) (by decide +kernel)) rfl
theorem tb_5_158 : Cond.instanceMethod yX8_past ∈ TBL := tbl_5 (List.mem_of_getElem? (i := 158) (by decide +kernel)) rfl
theorem tb_5_159 : Cond.selects RX8 yX8_past yX8_past ∈ TBL := tbl_5 (List.mem_of_getElem? (i := 159) (by decide +kernel)) rfl
theorem tb_5_160 : Cond.code yX8_past prog_10_method_57_code 7 (some FieldType.int) ∈ TBL := tbl_5 (List.mem_of_getElem? (i := 160) (by rfl)) rfl
theorem tb_5_161 : Cond.constantLong RX8 236 (999 : Int64) ∈ TBL := tbl_5 (List.mem_of_getElem? (i := 161) (by decide +kernel)) rfl
theorem tb_5_162 : Cond.methodLink RL 146 yX8_image ∈ TBL := tbl_5 (List.mem_of_getElem? (i := 162) (by decide +kernel)) rfl
theorem tb_5_163 : Cond.instanceMethod yX8_image ∈ TBL := tbl_5 (List.mem_of_getElem? (i := 163) (by decide +kernel)) rfl
theorem tb_5_164 : Cond.selects RX8 yX8_image yX8_image ∈ TBL := tbl_5 (List.mem_of_getElem? (i := 164) (by decide +kernel)) rfl
theorem tb_5_165 : Cond.code yX8_image prog_10_method_60_code 2 (some FieldType.int) ∈ TBL := tbl_5 (List.mem_of_getElem? (i := 165) (by rfl)) rfl
theorem tb_5_166 : Cond.methodLink RX8 238 yX8_lay ∈ TBL := tbl_5 (List.mem_of_getElem? (i := 166) (by decide +kernel)) rfl
theorem tb_5_168 : Cond.instanceMethod yX8_lay ∈ TBL := tbl_5 (List.mem_of_getElem? (i := 168) (by decide +kernel)) rfl
theorem tb_5_169 : Cond.code yX8_lay prog_10_method_58_code 4 (some FieldType.int) ∈ TBL := tbl_5 (List.mem_of_getElem? (i := 169) (by rfl)) rfl
theorem tb_5_170 : Cond.methodLink RL 150 yX8_restore ∈ TBL := tbl_5 (List.mem_of_getElem? (i := 170) (by decide +kernel)) rfl
theorem tb_5_171 : Cond.instanceMethod yX8_restore ∈ TBL := tbl_5 (List.mem_of_getElem? (i := 171) (by decide +kernel)) rfl
theorem tb_5_172 : Cond.selects RX8 yX8_restore yX8_restore ∈ TBL := tbl_5 (List.mem_of_getElem? (i := 172) (by decide +kernel)) rfl
theorem tb_5_173 : Cond.code yX8_restore prog_10_method_61_code 2 (some FieldType.int) ∈ TBL := tbl_5 (List.mem_of_getElem? (i := 173) (by rfl)) rfl
theorem tb_5_174 : Cond.methodLink RX8 245 yX8_gives ∈ TBL := tbl_5 (List.mem_of_getElem? (i := 174) (by decide +kernel)) rfl
theorem tb_5_176 : Cond.instanceMethod yX8_gives ∈ TBL := tbl_5 (List.mem_of_getElem? (i := 176) (by decide +kernel)) rfl
theorem tb_5_177 : Cond.code yX8_gives prog_10_method_59_code 4 (some FieldType.int) ∈ TBL := tbl_5 (List.mem_of_getElem? (i := 177) (by rfl)) rfl
theorem tb_5_178 : Cond.methodLink RL 154 yX8_gauged ∈ TBL := tbl_5 (List.mem_of_getElem? (i := 178) (by decide +kernel)) rfl
theorem tb_5_179 : Cond.instanceMethod yX8_gauged ∈ TBL := tbl_5 (List.mem_of_getElem? (i := 179) (by decide +kernel)) rfl
theorem tb_5_180 : Cond.selects RX8 yX8_gauged yX8_gauged ∈ TBL := tbl_5 (List.mem_of_getElem? (i := 180) (by decide +kernel)) rfl
theorem tb_5_181 : Cond.code yX8_gauged prog_10_method_65_code 15 (some FieldType.int) ∈ TBL := tbl_5 (List.mem_of_getElem? (i := 181) (by rfl)) rfl
theorem tb_5_182 : Cond.methodLink RX8 249 yX8_isSheet ∈ TBL := tbl_5 (List.mem_of_getElem? (i := 182) (by decide +kernel)) rfl
theorem tb_5_183 : Cond.static yX8_isSheet ∈ TBL := tbl_5 (List.mem_of_getElem? (i := 183) (by decide +kernel)) rfl
theorem tb_5_184 : Cond.code yX8_isSheet prog_10_method_62_code 1 (some FieldType.boolean) ∈ TBL := tbl_5 (List.mem_of_getElem? (i := 184) (by rfl)) rfl
theorem tb_5_185 : Cond.methodLink RX8 252 yX8_isLane ∈ TBL := tbl_5 (List.mem_of_getElem? (i := 185) (by decide +kernel)) rfl
theorem tb_5_186 : Cond.static yX8_isLane ∈ TBL := tbl_5 (List.mem_of_getElem? (i := 186) (by decide +kernel)) rfl
theorem tb_5_187 : Cond.code yX8_isLane prog_10_method_63_code 1 (some FieldType.boolean) ∈ TBL := tbl_5 (List.mem_of_getElem? (i := 187) (by rfl)) rfl
theorem tb_5_188 : Cond.methodLink RX8 255 yX8_finds ∈ TBL := tbl_5 (List.mem_of_getElem? (i := 188) (by decide +kernel)) rfl
theorem tb_5_190 : Cond.instanceMethod yX8_finds ∈ TBL := tbl_5 (List.mem_of_getElem? (i := 190) (by decide +kernel)) rfl
theorem tb_5_191 : Cond.code yX8_finds prog_10_method_64_code 5 (some FieldType.int) ∈ TBL := tbl_5 (List.mem_of_getElem? (i := 191) (by rfl)) rfl
theorem tb_5_192 : Cond.methodLink RL 158 yX8_sheet ∈ TBL := tbl_5 (List.mem_of_getElem? (i := 192) (by decide +kernel)) rfl
theorem tb_5_193 : Cond.instanceMethod yX8_sheet ∈ TBL := tbl_5 (List.mem_of_getElem? (i := 193) (by decide +kernel)) rfl
theorem tb_5_194 : Cond.selects RX8 yX8_sheet yX8_sheet ∈ TBL := tbl_5 (List.mem_of_getElem? (i := 194) (by decide +kernel)) rfl
theorem tb_5_195 : Cond.code yX8_sheet prog_10_method_66_code 5 (some FieldType.int) ∈ TBL := tbl_5 (List.mem_of_getElem? (i := 195) (by rfl)) rfl
theorem tb_5_196 : Cond.methodLink RL 162 yX8_drop ∈ TBL := tbl_5 (List.mem_of_getElem? (i := 196) (by decide +kernel)) rfl
theorem tb_5_197 : Cond.instanceMethod yX8_drop ∈ TBL := tbl_5 (List.mem_of_getElem? (i := 197) (by decide +kernel)) rfl
theorem tb_5_198 : Cond.selects RX8 yX8_drop yX8_drop ∈ TBL := tbl_5 (List.mem_of_getElem? (i := 198) (by decide +kernel)) rfl
theorem tb_5_199 : Cond.code yX8_drop prog_10_method_67_code 2 (some FieldType.int) ∈ TBL := tbl_5 (List.mem_of_getElem? (i := 199) (by rfl)) rfl
theorem tb_5_200 : Cond.methodLink RL 166 yX8_item ∈ TBL := tbl_5 (List.mem_of_getElem? (i := 200) (by decide +kernel)) rfl
theorem tb_5_201 : Cond.instanceMethod yX8_item ∈ TBL := tbl_5 (List.mem_of_getElem? (i := 201) (by decide +kernel)) rfl
theorem tb_5_202 : Cond.selects RX8 yX8_item yX8_item ∈ TBL := tbl_5 (List.mem_of_getElem? (i := 202) (by decide +kernel)) rfl
theorem tb_5_203 : Cond.code yX8_item prog_10_method_68_code 6 (some FieldType.int) ∈ TBL := tbl_5 (List.mem_of_getElem? (i := 203) (by rfl)) rfl
theorem tb_5_204 : Cond.methodLink RL 170 yX8_copy ∈ TBL := tbl_5 (List.mem_of_getElem? (i := 204) (by decide +kernel)) rfl
theorem tb_5_205 : Cond.instanceMethod yX8_copy ∈ TBL := tbl_5 (List.mem_of_getElem? (i := 205) (by decide +kernel)) rfl
theorem tb_5_206 : Cond.selects RX8 yX8_copy yX8_copy ∈ TBL := tbl_5 (List.mem_of_getElem? (i := 206) (by decide +kernel)) rfl
theorem tb_5_207 : Cond.code yX8_copy prog_10_method_69_code 7 (some FieldType.int) ∈ TBL := tbl_5 (List.mem_of_getElem? (i := 207) (by rfl)) rfl
theorem tb_5_208 : Cond.constantLong RL 43 (4294967295 : Int64) ∈ TBL := tbl_5 (List.mem_of_getElem? (i := 208) (by decide +kernel)) rfl
theorem ts_0 : Cond.selects RX4 yX4_rewind yX4_rewind ∈ TBL := List.mem_filter.mpr ⟨List.mem_append_left _ (List.mem_of_getElem? (i := 0) (by decide +kernel)), rfl⟩
theorem ts_1 : Cond.selects RX4 yX4_readMile yX4_readMile ∈ TBL := List.mem_filter.mpr ⟨List.mem_append_left _ (List.mem_of_getElem? (i := 1) (by decide +kernel)), rfl⟩
theorem ts_2 : Cond.selects RX4 yX4_mark yX4_mark ∈ TBL := List.mem_filter.mpr ⟨List.mem_append_left _ (List.mem_of_getElem? (i := 2) (by decide +kernel)), rfl⟩
theorem ts_3 : Cond.selects RX4 yX4_number yX4_number ∈ TBL := List.mem_filter.mpr ⟨List.mem_append_left _ (List.mem_of_getElem? (i := 3) (by decide +kernel)), rfl⟩
theorem ts_4 : Cond.selects RX4 yX4_skipBlanks yX4_skipBlanks ∈ TBL := List.mem_filter.mpr ⟨List.mem_append_left _ (List.mem_of_getElem? (i := 4) (by decide +kernel)), rfl⟩
theorem ts_5 : Cond.selects RX4 yX4_fail yX4_fail ∈ TBL := List.mem_filter.mpr ⟨List.mem_append_left _ (List.mem_of_getElem? (i := 5) (by decide +kernel)), rfl⟩
theorem ts_6 : Cond.selects RX4 yX4_expect yX4_expect ∈ TBL := List.mem_filter.mpr ⟨List.mem_append_left _ (List.mem_of_getElem? (i := 6) (by decide +kernel)), rfl⟩
theorem ts_7 : Cond.selects RX4 yX4_takes yX4_takes ∈ TBL := List.mem_filter.mpr ⟨List.mem_append_left _ (List.mem_of_getElem? (i := 7) (by decide +kernel)), rfl⟩
theorem ts_8 : Cond.selects RX4 yX4_digit yX4_digit ∈ TBL := List.mem_filter.mpr ⟨List.mem_append_left _ (List.mem_of_getElem? (i := 8) (by decide +kernel)), rfl⟩
theorem ts_9 : Cond.selects RX4 yX4_finish yX4_finish ∈ TBL := List.mem_filter.mpr ⟨List.mem_append_left _ (List.mem_of_getElem? (i := 9) (by decide +kernel)), rfl⟩
theorem ts_10 : Cond.selects RX7 yX7_isPlaced yX7_isPlaced ∈ TBL := List.mem_filter.mpr ⟨List.mem_append_left _ (List.mem_of_getElem? (i := 10) (by decide +kernel)), rfl⟩
theorem ts_11 : Cond.selects RX5 yX5_reckonNeed yX5_reckonNeed ∈ TBL := List.mem_filter.mpr ⟨List.mem_append_left _ (List.mem_of_getElem? (i := 11) (by decide +kernel)), rfl⟩
theorem ts_12 : Cond.selects RX7 yX7_isStart yX7_isStart ∈ TBL := List.mem_filter.mpr ⟨List.mem_append_left _ (List.mem_of_getElem? (i := 12) (by decide +kernel)), rfl⟩
theorem ts_13 : Cond.selects RX7 yX7_refusalAt yX7_refusalAt ∈ TBL := List.mem_filter.mpr ⟨List.mem_append_left _ (List.mem_of_getElem? (i := 13) (by decide +kernel)), rfl⟩
theorem ts_14 : Cond.selects RX2 yX2_isLaid yX2_isLaid ∈ TBL := List.mem_filter.mpr ⟨List.mem_append_left _ (List.mem_of_getElem? (i := 14) (by decide +kernel)), rfl⟩
theorem ts_15 : Cond.selects RX2 yX2_goOn yX2_goOn ∈ TBL := List.mem_filter.mpr ⟨List.mem_append_left _ (List.mem_of_getElem? (i := 15) (by decide +kernel)), rfl⟩
theorem ts_16 : Cond.selects RX2 yX2_moveLater yX2_moveLater ∈ TBL := List.mem_filter.mpr ⟨List.mem_append_left _ (List.mem_of_getElem? (i := 16) (by decide +kernel)), rfl⟩
theorem ts_17 : Cond.selects RX2 yX2_goBack yX2_goBack ∈ TBL := List.mem_filter.mpr ⟨List.mem_append_left _ (List.mem_of_getElem? (i := 17) (by decide +kernel)), rfl⟩
theorem ts_18 : Cond.selects RX2 yX2_earlier yX2_earlier ∈ TBL := List.mem_filter.mpr ⟨List.mem_append_left _ (List.mem_of_getElem? (i := 18) (by decide +kernel)), rfl⟩
theorem ts_19 : Cond.selects RX2 yX2_slowest yX2_slowest ∈ TBL := List.mem_filter.mpr ⟨List.mem_append_left _ (List.mem_of_getElem? (i := 19) (by decide +kernel)), rfl⟩
theorem ts_20 : Cond.selects RX7 yX7_isHeld yX7_isHeld ∈ TBL := List.mem_filter.mpr ⟨List.mem_append_left _ (List.mem_of_getElem? (i := 20) (by decide +kernel)), rfl⟩
theorem ts_21 : Cond.selects RX7 yX7_areTwo yX7_areTwo ∈ TBL := List.mem_filter.mpr ⟨List.mem_append_left _ (List.mem_of_getElem? (i := 21) (by decide +kernel)), rfl⟩
theorem ts_22 : Cond.selects RX0 yX0_tryNext yX0_tryNext ∈ TBL := List.mem_filter.mpr ⟨List.mem_append_left _ (List.mem_of_getElem? (i := 22) (by decide +kernel)), rfl⟩
theorem ts_23 : Cond.selects RX0 yX0_keepBetter yX0_keepBetter ∈ TBL := List.mem_filter.mpr ⟨List.mem_append_left _ (List.mem_of_getElem? (i := 23) (by decide +kernel)), rfl⟩
theorem ts_24 : Cond.selects RX3 yX3_isNothing yX3_isNothing ∈ TBL := List.mem_filter.mpr ⟨List.mem_append_left _ (List.mem_of_getElem? (i := 24) (by decide +kernel)), rfl⟩
theorem ts_25 : Cond.selects RX3 yX3_hasItems yX3_hasItems ∈ TBL := List.mem_filter.mpr ⟨List.mem_append_left _ (List.mem_of_getElem? (i := 25) (by decide +kernel)), rfl⟩
theorem ts_26 : Cond.selects RX7 yX7_latesBy yX7_latesBy ∈ TBL := List.mem_filter.mpr ⟨List.mem_append_left _ (List.mem_of_getElem? (i := 26) (by decide +kernel)), rfl⟩
theorem ts_27 : Cond.selects RX7 yX7_isLate yX7_isLate ∈ TBL := List.mem_filter.mpr ⟨List.mem_append_left _ (List.mem_of_getElem? (i := 27) (by decide +kernel)), rfl⟩
theorem ts_28 : Cond.selects RX8 yX8_mileIs yX8_mileIs ∈ TBL := List.mem_filter.mpr ⟨List.mem_append_left _ (List.mem_of_getElem? (i := 28) (by decide +kernel)), rfl⟩
theorem ts_29 : Cond.selects RX8 yX8_isMile yX8_isMile ∈ TBL := List.mem_filter.mpr ⟨List.mem_append_left _ (List.mem_of_getElem? (i := 29) (by decide +kernel)), rfl⟩
theorem ts_30 : Cond.selects RX8 yX8_mileClause yX8_mileClause ∈ TBL := List.mem_filter.mpr ⟨List.mem_append_left _ (List.mem_of_getElem? (i := 30) (by decide +kernel)), rfl⟩
theorem ts_31 : Cond.selects RX8 yX8_number yX8_number ∈ TBL := List.mem_filter.mpr ⟨List.mem_append_left _ (List.mem_of_getElem? (i := 31) (by decide +kernel)), rfl⟩
theorem ts_32 : Cond.selects RX8 yX8_here yX8_here ∈ TBL := List.mem_filter.mpr ⟨List.mem_append_left _ (List.mem_of_getElem? (i := 32) (by decide +kernel)), rfl⟩
theorem ts_33 : Cond.selects RX8 yX8_has yX8_has ∈ TBL := List.mem_filter.mpr ⟨List.mem_append_left _ (List.mem_of_getElem? (i := 33) (by decide +kernel)), rfl⟩
theorem ts_34 : Cond.selects RX8 yX8_digit yX8_digit ∈ TBL := List.mem_filter.mpr ⟨List.mem_append_left _ (List.mem_of_getElem? (i := 34) (by decide +kernel)), rfl⟩
theorem ts_35 : Cond.selects RX8 yX8_tideAt yX8_tideAt ∈ TBL := List.mem_filter.mpr ⟨List.mem_append_left _ (List.mem_of_getElem? (i := 35) (by decide +kernel)), rfl⟩
theorem ts_36 : Cond.selects RX8 yX8_waterAt yX8_waterAt ∈ TBL := List.mem_filter.mpr ⟨List.mem_append_left _ (List.mem_of_getElem? (i := 36) (by decide +kernel)), rfl⟩
theorem ts_37 : Cond.selects RX8 yX8_isShip yX8_isShip ∈ TBL := List.mem_filter.mpr ⟨List.mem_append_left _ (List.mem_of_getElem? (i := 37) (by decide +kernel)), rfl⟩
theorem ts_38 : Cond.selects RX8 yX8_sinksBy yX8_sinksBy ∈ TBL := List.mem_filter.mpr ⟨List.mem_append_left _ (List.mem_of_getElem? (i := 38) (by decide +kernel)), rfl⟩
theorem ts_39 : Cond.selects RX8 yX8_underBy yX8_underBy ∈ TBL := List.mem_filter.mpr ⟨List.mem_append_left _ (List.mem_of_getElem? (i := 39) (by decide +kernel)), rfl⟩
theorem ts_40 : Cond.selects RX8 yX8_needOf yX8_needOf ∈ TBL := List.mem_filter.mpr ⟨List.mem_append_left _ (List.mem_of_getElem? (i := 40) (by decide +kernel)), rfl⟩
theorem ts_41 : Cond.selects RX8 yX8_goes yX8_goes ∈ TBL := List.mem_filter.mpr ⟨List.mem_append_left _ (List.mem_of_getElem? (i := 41) (by decide +kernel)), rfl⟩
theorem ts_42 : Cond.selects RX8 yX8_quickest yX8_quickest ∈ TBL := List.mem_filter.mpr ⟨List.mem_append_left _ (List.mem_of_getElem? (i := 42) (by decide +kernel)), rfl⟩
theorem ts_43 : Cond.selects RX8 yX8_startsOf yX8_startsOf ∈ TBL := List.mem_filter.mpr ⟨List.mem_append_left _ (List.mem_of_getElem? (i := 43) (by decide +kernel)), rfl⟩
theorem ts_44 : Cond.selects RX8 yX8_holds yX8_holds ∈ TBL := List.mem_filter.mpr ⟨List.mem_append_left _ (List.mem_of_getElem? (i := 44) (by decide +kernel)), rfl⟩
theorem ts_45 : Cond.selects RX8 yX8_sumOf yX8_sumOf ∈ TBL := List.mem_filter.mpr ⟨List.mem_append_left _ (List.mem_of_getElem? (i := 45) (by decide +kernel)), rfl⟩
theorem ts_46 : Cond.selects RX8 yX8_turns yX8_turns ∈ TBL := List.mem_filter.mpr ⟨List.mem_append_left _ (List.mem_of_getElem? (i := 46) (by decide +kernel)), rfl⟩
theorem ts_47 : Cond.selects RX8 yX8_lay yX8_lay ∈ TBL := List.mem_filter.mpr ⟨List.mem_append_left _ (List.mem_of_getElem? (i := 47) (by decide +kernel)), rfl⟩
theorem ts_48 : Cond.selects RX8 yX8_gives yX8_gives ∈ TBL := List.mem_filter.mpr ⟨List.mem_append_left _ (List.mem_of_getElem? (i := 48) (by decide +kernel)), rfl⟩
theorem ts_49 : Cond.selects RX8 yX8_finds yX8_finds ∈ TBL := List.mem_filter.mpr ⟨List.mem_append_left _ (List.mem_of_getElem? (i := 49) (by decide +kernel)), rfl⟩
theorem iT0 : ∀ w ∈ u_ws RX0 TX0 6, w ∈ TBL := by decide +kernel

theorem iT1 : ∀ w ∈ u_ws RX1 TX1 6, w ∈ TBL := by decide +kernel

theorem iT2 : ∀ w ∈ u_ws RX2 TX2 6, w ∈ TBL := by decide +kernel

theorem iT3 : ∀ w ∈ u_ws RX3 TX3 3, w ∈ TBL := by decide +kernel

theorem iT4 : ∀ w ∈ u_ws RX4 TX4 5, w ∈ TBL := by decide +kernel

theorem iT5 : ∀ w ∈ u_ws RX5 TX5 8, w ∈ TBL := by decide +kernel

theorem iT6 : ∀ w ∈ u_ws RX6 TX6 4, w ∈ TBL := by decide +kernel

theorem iT7 : ∀ w ∈ u_ws RX7 TX7 10, w ∈ TBL := by decide +kernel

theorem iT8 : ∀ w ∈ u_ws RX8 TX8 29, w ∈ TBL := by decide +kernel
end
section
/-! ===== the memory of both objects: segments of ints and longs ===== -/
abbrev ST : Type := (Nat → Nat → Int32) × (Nat → Nat → Int64)
/-- a segment: an array (its kind, its length, where its rows begin), or an object (its class, its fields: an int of the segment, or another segment) -/
abbrev SH : Type := (Nat × Nat × Nat) ⊕ (Nat × List (Nat ⊕ Nat))
def shl : List SH := [
  .inr (7, [.inr 1, .inr 6, .inr 11, .inr 12, .inr 13, .inr 18, .inr 22, .inr 25, .inr 29, .inl 9]),
  .inr (1, [.inl 0, .inl 1, .inr 2, .inr 3, .inr 4, .inr 5]), .inl (0, 24, 0), .inl (0, 5, 0), .inl (0, 96, 0), .inl (0, 18, 0),
  .inr (1, [.inl 0, .inl 1, .inr 7, .inr 8, .inr 9, .inr 10]), .inl (0, 24, 0), .inl (0, 5, 0), .inl (0, 96, 0), .inl (0, 18, 0),
  .inr (5, [.inr 1, .inl 1, .inl 2, .inl 3, .inl 4, .inl 5, .inl 6, .inl 7]),
  .inr (6, [.inr 1, .inl 1, .inl 2, .inl 3]),
  .inr (2, [.inr 1, .inr 14, .inl 2, .inr 15, .inr 16, .inr 17]), .inl (0, 24, 0), .inl (4, 100, 50), .inl (0, 176, 0), .inl (4, 17, 150),
  .inr (0, [.inr 19, .inr 20, .inr 21, .inl 3, .inl 4, .inl 5]), .inl (4, 6, 167), .inl (0, 6, 0), .inl (0, 6, 0),
  .inr (4, [.inr 23, .inr 24, .inl 2, .inl 3, .inl 4]), .inl (0, 48, 0), .inl (1, 100, 0),
  .inr (3, [.inr 26, .inr 27, .inr 28]), .inl (5, 4, 173), .inl (0, 4, 0), .inl (0, 4, 0),
  .inl (0, 61, 0),
  .inr (8, [.inl 0, .inr 31, .inr 32, .inr 33, .inl 4, .inr 34, .inr 35, .inl 7, .inl 8, .inl 9, .inr 36, .inl 11, .inl 12, .inl 13, .inl 14, .inr 37, .inr 38, .inr 39, .inr 40, .inr 41, .inr 42, .inr 43, .inr 44, .inr 45, .inl 24, .inr 46, .inr 47, .inr 48, .inr 49]),
  .inl (0, 96, 0), .inl (0, 24, 0), .inl (0, 5, 0), .inl (0, 18, 0), .inl (0, 100, 0), .inl (0, 40, 0), .inl (0, 16337, 0), .inl (0, 16337, 0), .inl (2, 1440, 0), .inl (2, 1440, 0), .inl (3, 61, 0), .inl (0, 8640, 0), .inl (0, 6, 0), .inl (0, 6, 0), .inl (0, 145, 0), .inl (0, 4, 0), .inl (0, 4, 0), .inl (0, 96, 0), .inl (0, 24, 0)]
  ++ (List.replicate 117 (.inl (3, 38, 0)) ++ (List.replicate 6 (.inl (3, 23, 0)) ++ List.replicate 4 (.inl (0, 24, 0))))
/-- how long a segment is as an array of kind t (0 int, 1 byte, 2 boolean, 3 long, 4 long[], 5 int[]); 0: it is none -/
def al (t k : Nat) : Nat := match shl[k]? with
  | some (.inl a) => if a.1 = t then a.2.1 else 0
  | _ => 0
def ob (k : Nat) : Nat := match shl[k]? with
  | some (.inl a) => a.2.2
  | _ => 0
theorem al_at {t k i : Nat} (h : i < al t k) : ∃ n b, shl[k]? = some (.inl (t, n, b)) ∧ al t k = n ∧ ob k = b := by
  unfold al at h ⊢
  unfold ob
  cases hk : shl[k]? with
  | none => rw [hk] at h; exact absurd h (Nat.not_lt_zero _)
  | some x =>
    rw [hk] at h
    cases x with
    | inr y => exact absurd h (Nat.not_lt_zero _)
    | inl a =>
      obtain ⟨t', n, b⟩ := a
      by_cases e : t' = t
      · subst e
        exact ⟨n, b, rfl, if_pos rfl, rfl⟩
      · rw [show (match (some (Sum.inl (t', n, b)) : Option SH) with | some (.inl a) => if a.1 = t then a.2.1 else 0 | _ => 0) = 0 from if_neg e] at h
        exact absurd h (Nat.not_lt_zero _)
def sI (S : ST) (k j : Nat) (x : Int32) : ST := (fun a => if a = k then upd (S.1 k) j x else S.1 a, S.2)
def sL (S : ST) (k j : Nat) (x : Int64) : ST := (S.1, fun a => if a = k then vp_updL (S.2 k) j x else S.2 a)
def rI (S : ST) (t k : Nat) (i : Int32) : Option Int32 := if 0 ≤ i ∧ i.toNatClampNeg < al t k then some (S.1 k i.toNatClampNeg) else none
def rL (S : ST) (k : Nat) (i : Int32) : Option Int64 := if 0 ≤ i ∧ i.toNatClampNeg < al 3 k then some (S.2 k i.toNatClampNeg) else none
def rA (t k : Nat) (i : Int32) : Option Nat := if 0 ≤ i ∧ i.toNatClampNeg < al t k then some (ob k + i.toNatClampNeg) else none
def wI (S : ST) (k : Nat) (i x : Int32) : Option ST := if 0 ≤ i ∧ i.toNatClampNeg < al 0 k then some (sI S k i.toNatClampNeg x) else none
def wB (S : ST) (k : Nat) (i x : Int32) : Option ST := if 0 ≤ i ∧ i.toNatClampNeg < al 1 k then some (sI S k i.toNatClampNeg (vp_nar .byte x)) else none
def wZ (S : ST) (k : Nat) (i x : Int32) : Option ST := if 0 ≤ i ∧ i.toNatClampNeg < al 2 k then some (sI S k i.toNatClampNeg (vp_nar .boolean x)) else none
def wL (S : ST) (k : Nat) (i : Int32) (x : Int64) : Option ST := if 0 ≤ i ∧ i.toNatClampNeg < al 3 k then some (sL S k i.toNatClampNeg x) else none
/-- how long an array is, by its kind -/
def lA (t k : Nat) : Option Int32 := if 0 < al t k then some (Int32.ofNat (al t k)) else none
def dv (x y : Int32) : Option Int32 := if y = 0 then none else some (x / y)
def rm (x y : Int32) : Option Int32 := if y = 0 then none else some (x - x / y * y)
def dvL (x y : Int64) : Option Int64 := if y = 0 then none else some (x / y)
def bz (x : Int32) : Option Int32 := if x = 0 ∨ x = 1 then some x else none
def cpyS (S : ST) (a b sp dp n : Nat) : ST := (fun q => if q = b then va_cpy (S.1 a) (S.1 b) sp dp n else S.1 q, S.2)
def cpy (S : ST) (a : Nat) (sp : Int32) (b : Nat) (dp n : Int32) : Option ST := if (0 ≤ sp ∧ 0 ≤ dp ∧ 0 ≤ n) ∧ sp.toNatClampNeg + n.toNatClampNeg ≤ al 0 a ∧ dp.toNatClampNeg + n.toNatClampNeg ≤ al 0 b ∧ 0 < al 0 a ∧ 0 < al 0 b then some (cpyS S a b sp.toNatClampNeg dp.toNatClampNeg n.toNatClampNeg) else none
theorem ob_some {α β : Type} {x : Option α} {f : α → Option β} {r : β} (h : x.bind f = some r) : ∃ a, x = some a ∧ f a = some r := Option.bind_eq_some_iff.mp h
/-! the static arrays -/
def sn : Nat → String := fun j => match j with
  | 0 => "PACES"
  | 1 => "TAKES"
  | 2 => "LOWEST_MARK"
  | 3 => "HIGHEST_MARK"
  | _ => "HIGHEST_SETTING"
def sN : Nat → Nat := fun j => match j with
  | 0 => 11
  | 1 => 11
  | _ => 5
def sv (j i : Nat) : Int32 := match j with
  | 0 => ([1, 2, 3, 4, 5, 6, 7, 8, 9, 11, 13] : List Int32).getD i 0
  | 1 => ([60, 30, 20, 15, 12, 10, 8, 7, 6, 5, 4] : List Int32).getD i 0
  | 2 => ([20, 10, 0, 0, 0] : List Int32).getD i 0
  | 3 => ([250, 99, 9, 20, 40] : List Int32).getD i 0
  | _ => ([90, 9, 10, 1, 99] : List Int32).getD i 0
def rS (j : Nat) (i : Int32) : Option Int32 := if 0 ≤ i ∧ i.toNatClampNeg < sN j then some (sv j i.toNatClampNeg) else none
theorem vp_in_of2 {i : Int32} {n : Nat} (h : 0 ≤ i ∧ i.toNatClampNeg < n) : vp_in i n := fun q => by
  rcases q with q | q
  · exact absurd q (Int32.not_lt.mpr h.1)
  · exact absurd h.2 (Nat.not_lt.mpr q)
/-! ===== the world ===== -/
def gD (G : GT) : va_G := G.1
def fv (G : GT) (S : ST) (k : Nat) (f : Nat ⊕ Nat) : Value := match f with
  | .inl j => .int (S.1 k j)
  | .inr r => .ref (ad G r)
def aS (G : GT) (S : ST) (k t n b : Nat) : vp_A := (n, if t ≤ 2 then .inl (S.1 k) else if t = 3 then .inr (.inl (S.2 k)) else .inr (.inr (.inr (.inr (fun j => if j < n then some (ad G (b + j)) else none)))))
def ceS (G : GT) (S : ST) (k : Nat) (x : SH) : va_E := match x with
  | .inl a => .inl (cy G a.1, aS G S k a.1 a.2.1 a.2.2)
  | .inr o => .inr (o.1, o.2.map (fv G S k))
def cells (G : GT) (S : ST) : va_W := shl.mapIdx (fun k x => (ad G k, ceS G S k x))
theorem cells_at (G : GT) (S : ST) {k : Nat} {x : SH} (h : shl[k]? = some x) : (cells G S)[k]? = some (ad G k, ceS G S k x) := by
  rw [cells, List.getElem?_mapIdx, h]
  rfl
theorem cells_of {G : GT} {S : ST} {k : Nat} {q : Nat × va_E} (h : (cells G S)[k]? = some q) : k < shl.length ∧ ∃ x, shl[k]? = some x ∧ q = (ad G k, ceS G S k x) := by
  rw [cells, List.getElem?_mapIdx] at h
  cases hx : shl[k]? with
  | none => rw [hx] at h; cases h
  | some x =>
    rw [hx] at h
    cases h
    exact ⟨(List.getElem?_eq_some_iff.mp hx).1, x, rfl, rfl⟩
theorem ceS_cong {G : GT} {S S' : ST} {k : Nat} (h1 : S'.1 k = S.1 k) (h2 : S'.2 k = S.2 k) (x : SH) : ceS G S' k x = ceS G S k x := by
  cases x with
  | inl a => simp only [ceS, aS, h1, h2]
  | inr o =>
    simp only [ceS]
    congr 2
    apply List.map_congr_left
    intro f _
    cases f with
    | inl j => simp only [fv, h1]
    | inr r => rfl
theorem cells_set {G : GT} {S S' : ST} {k : Nat} {x : SH} (h : shl[k]? = some x) (h1 : ∀ j, j ≠ k → S'.1 j = S.1 j) (h2 : ∀ j, j ≠ k → S'.2 j = S.2 j) : (cells G S).set k (ad G k, ceS G S' k x) = cells G S' := by
  apply List.ext_getElem?
  intro j
  by_cases e : j = k
  · subst e
    rw [List.getElem?_set_self (by rw [cells, List.length_mapIdx]; exact (List.getElem?_eq_some_iff.mp h).1), cells_at G S' h]
  · rw [List.getElem?_set_ne (Ne.symm e), cells, cells, List.getElem?_mapIdx, List.getElem?_mapIdx]
    cases shl[j]? with
    | none => rfl
    | some y => simp only [Option.map_some, ceS_cong (h1 j e) (h2 j e)]
theorem sh_wf : shl.all (fun x => match x with | .inr o => o.2.zipIdx.all (fun q => match q.1 with | .inl a => a == q.2 | .inr _ => true) | .inl _ => true) = true := by decide +kernel
theorem sh_fld {k ci : Nat} {fs : List (Nat ⊕ Nat)} (h : shl[k]? = some (.inr (ci, fs))) {i a : Nat} (hi : fs[i]? = some (.inl a)) : a = i := by
  have h1 := List.all_eq_true.mp sh_wf _ (List.mem_of_getElem? h)
  have h2 := List.all_eq_true.mp h1 (.inl a, i) (List.mem_iff_getElem?.mpr ⟨i, by rw [List.getElem?_zipIdx, hi]; simp⟩)
  exact (by simpa using h2)
def tysG (G : GT) : List (ClassId × FieldType) := [(cy G 0, .int), (cy G 1, .byte), (cy G 2, .boolean), (cy G 3, .long), (cy G 4, .array .long), (cy G 5, .array .int)]
/-- what holds at a state, and goes on holding -/
def En (G : GT) (U : State) : Prop := va_K (gD G) vwCl (tysG G) U ∧ ((∀ i j, i < shl.length → j < shl.length → ad G i = ad G j → i = j) ∧ ∀ k, k < shl.length → gA G (ad G k)) ∧ (∀ w ∈ NW, va_Nw w U) ∧ ∀ j, j < 5 → va_Z "DeepShip" (sn j) "[I" (.ref (sd G j)) (gA G) U U.heap ∧ va_T .int (sd G j) (sN j) (fun i => .int (sv j i)) (gA G) U U.heap
def Wo (G : GT) (S : ST) (U : State) : Prop := va_P (gD G) vwCl (cells G S) U.heap ∧ En G U
theorem cells_D {G : GT} {S : ST} (h : (∀ i j, i < shl.length → j < shl.length → ad G i = ad G j → i = j) ∧ ∀ k, k < shl.length → gA G (ad G k)) : va_D (gA G) (cells G S) := by
  refine ⟨fun i j p q hi hj e => ?_, fun k q hk => ?_⟩
  · obtain ⟨h1, x, -, rfl⟩ := cells_of hi
    obtain ⟨h2, y, -, rfl⟩ := cells_of hj
    exact h.1 i j h1 h2 e
  · obtain ⟨h1, x, -, rfl⟩ := cells_of hk
    exact h.2 k h1
theorem NW_on : ∀ w ∈ NW, w.onTables = true := by decide +kernel
theorem En.moved {G : GT} {s U : State} {locs : List Loc} (h : En G s) (hS : va_S (gA G) s.heap U.heap locs) (hW : s.WarmedH U.vm) : En G U := by
  obtain ⟨h1, h2, h3, h4⟩ := h
  refine ⟨va_K.moved hW.alike h1, h2, fun w hw => NW_warm hW w hw (h3 w hw), fun j hj => ⟨((h4 j hj).1.moved hW.alike).kept ?_, ((h4 j hj).2.moved hW.alike).kept ?_⟩⟩
  · exact fun a ha hA => hS.2.1 a ha hA
  · exact fun a ha hA => hS.2.1 a ha hA
theorem Wo.blind {G : GT} {S : ST} {U : State} {g : JFrame} {mk : MethodId} {a : Array Value} (h : Wo G S U) : Wo G S (U.calling g mk a) := by
  obtain ⟨h0, h1, h2, h3, h4⟩ := h
  refine ⟨h0, va_K.moved (u := U) (U := U.calling g mk a) (Vm.Alike.refl U.vm) h1, h2, fun w hw => va_Nw.same (u := U) (U := U.calling g mk a) (NW_on w hw) rfl (h3 w hw), fun j hj => ⟨(h4 j hj).1.moved (u := U) (U := U.calling g mk a) (Vm.Alike.refl U.vm), (h4 j hj).2.moved (u := U) (U := U.calling g mk a) (Vm.Alike.refl U.vm)⟩⟩
abbrev ws0 (y : MethodName) (cc : ByteArray) (n : Nat) (ret : Option FieldType) : List Cond := .code y cc n ret :: TBL
theorem gTB {y : MethodName} {cc : ByteArray} {n : Nat} {ret : Option FieldType} (h : Cond.code y cc n ret ∈ TBL) : GoodIn TBL (ws0 y cc n ret) := by
  intro w hw
  have h1 : w ∈ TBL := by
    rcases List.mem_cons.mp hw with e | e
    · rw [e]; exact h
    · exact e
  exact ⟨h1, good_of_word (List.mem_filter.mp h1).2⟩
def rmH (d : Nat) : Room := { frames := d, cells := 0, slots := 0, locals := 40 * d }
def MI (l : Launch) (y : MethodName) (cc : ByteArray) (n : Nat) (ret : Option FieldType) (d : Nat) (av : List Value) (G : GT) (S : ST) (r : Int32) (S' : ST) : Prop := Met l y (ws0 y cc n ret) (rmH d) (va_Pc av (Wo G S)) (va_Qi (fun r' u => r' = r ∧ u = S') (Wo G) (gA G)) 0 0 (gA G)
def ML (l : Launch) (y : MethodName) (cc : ByteArray) (n : Nat) (ret : Option FieldType) (d : Nat) (av : List Value) (G : GT) (S : ST) (r : Int64) (S' : ST) : Prop := Met l y (ws0 y cc n ret) (rmH d) (va_Pc av (Wo G S)) (va_Ql (fun r' u => r' = r ∧ u = S') (Wo G) (gA G)) 0 0 (gA G)
def MV (l : Launch) (y : MethodName) (cc : ByteArray) (n : Nat) (d : Nat) (av : List Value) (G : GT) (S S' : ST) : Prop := Met l y (ws0 y cc n none) (rmH d) (va_Pc av (Wo G S)) (va_Qv (fun u => u = S') (Wo G) (gA G)) 0 0 (gA G)
def MA (l : Launch) (y : MethodName) (cc : ByteArray) (n : Nat) (ret : Option FieldType) (d : Nat) (av : List Value) (G : GT) (S : ST) (r : Nat) (S' : ST) : Prop := Met l y (ws0 y cc n ret) (rmH d) (va_Pc av (Wo G S)) (va_Qr (fun u => u = S') (fun u a t => a = ad G r ∧ Wo G u t) (gA G)) 0 0 (gA G)
/-- where a walk is: the machine, the code, the tables, the world's constant part -/
def Cx (p : Program) (m : MethodId) (c : Code) (s : State) (args : Array Value) (cc : ByteArray) (nL : Nat) (own : String) (G : GT) : Prop := CallFix p m c cc nL s args TBL own ∧ En G s
section MACH
variable {p : Program} {l : Launch} {e : Env} {R : Room} {s : State} {m : MethodId} {args : Array Value} {below : List Frame} {meth : Method} {c : Code} {H : Heap} {locs : List Loc} {Q : State → Prop}
variable {cc : ByteArray} {pc nL : Nat} {ls : Array Slot} {rest st : List Value} {G : GT} {S S' : ST} {own : String}
def KI (p : Program) (l : Launch) (e : Env) (R : Room) (s : State) (m : MethodId) (args : Array Value) (below : List Frame) (meth : Method) (c : Code) (Q : State → Prop) (cc : ByteArray) (G : GT) (r : Int32) (S' : ST) : Prop := ∀ (H : Heap) (locs : List Loc) (pc : Nat) (ls : Array Slot), va_P (gD G) vwCl (cells G S') H → va_S (gA G) s.heap H locs → decode cc pc = .ok (.ireturn, 1) → W p l e R s m args below meth c H locs 0 0 Q (F0 m pc ls [.int r])
def KL (p : Program) (l : Launch) (e : Env) (R : Room) (s : State) (m : MethodId) (args : Array Value) (below : List Frame) (meth : Method) (c : Code) (Q : State → Prop) (cc : ByteArray) (G : GT) (r : Int64) (S' : ST) : Prop := ∀ (H : Heap) (locs : List Loc) (pc : Nat) (ls : Array Slot), va_P (gD G) vwCl (cells G S') H → va_S (gA G) s.heap H locs → decode cc pc = .ok (.lreturn, 1) → W p l e R s m args below meth c H locs 0 0 Q (F0 m pc ls [.long r])
def KV (p : Program) (l : Launch) (e : Env) (R : Room) (s : State) (m : MethodId) (args : Array Value) (below : List Frame) (meth : Method) (c : Code) (Q : State → Prop) (cc : ByteArray) (G : GT) (S' : ST) : Prop := ∀ (H : Heap) (locs : List Loc) (pc : Nat) (ls : Array Slot), va_P (gD G) vwCl (cells G S') H → va_S (gA G) s.heap H locs → decode cc pc = .ok (.return_, 1) → W p l e R s m args below meth c H locs 0 0 Q (F0 m pc ls [])
def KA (p : Program) (l : Launch) (e : Env) (R : Room) (s : State) (m : MethodId) (args : Array Value) (below : List Frame) (meth : Method) (c : Code) (Q : State → Prop) (cc : ByteArray) (G : GT) (r : Nat) (S' : ST) : Prop := ∀ (H : Heap) (locs : List Loc) (pc : Nat) (ls : Array Slot), va_P (gD G) vwCl (cells G S') H → va_S (gA G) s.heap H locs → decode cc pc = .ok (.areturn, 1) → W p l e R s m args below meth c H locs 0 0 Q (F0 m pc ls [.ref (ad G r)])
/-- a contract out of a walk of the body -/
theorem mkI {y : MethodName} {rt : FieldType} {d : Nat} {av : List Value} {r : Int32} (hy : plainName y.cls = true) (ho : y.cls = own) (hz : narrow rt (.int r) = .int r) (hn : (lg_sl av).length ≤ nL)
    (body : ∀ (p : Program) (e : Env) (s : State) (m : MethodId) (args : Array Value) (below : List Frame) (meth : Method) (c : Code) (Q : State → Prop) (ls : Array Slot), Cx p m c s args cc nL own G → va_P (gD G) vwCl (cells G S) s.heap → va_S (gA G) s.heap s.heap [] → lv_has ls nL (lv_args 0 av) → KI p l e (rmH d) s m args below meth c Q cc G r S' → W p l e (rmH d) s m args below meth c s.heap [] 0 0 Q (F0 m 0 ls [])) : MI l y cc nL (some rt) d av G S r S' := by
  refine Met.ofW (cc := cc) (maxL := nL) (ret := some rt) hy rfl ?_
  intro p e s m args below meth c s₁ B hml hv
  obtain ⟨rfl, hP, hE⟩ := hv
  have hts := atoms_spec (ws := ws0 y cc nL (some rt)) B.pre
  have hown : s.vm.findClass own = some m.cls := by rw [← ho]; exact findClass_of_methodNamed B.named
  have hlocks := B.notSynchronized
  rw [lg_entry_eq]
  refine body p e s m _ below meth c _ _ ⟨⟨B.exec, B.bytes, hml, hown, fun w hw => hts w (List.mem_cons_of_mem _ hw)⟩, hE⟩ hP va_S.rf (lv_entry av hn) ?_
  intro H locs pc ls hP1 hS1 hd
  exact W.zret B.exec B.bytes B.returns hz (fun t ht hW => ⟨⟨r, S', rfl, ⟨rfl, rfl⟩, by rw [ht]; exact hP1, hE.moved (locs := locs) (by rw [ht]; exact hS1) hW⟩, hS1.F ht⟩) hS1.2.2 hd
theorem mkL {y : MethodName} {d : Nat} {av : List Value} {r : Int64} (hy : plainName y.cls = true) (ho : y.cls = own) (hn : (lg_sl av).length ≤ nL)
    (body : ∀ (p : Program) (e : Env) (s : State) (m : MethodId) (args : Array Value) (below : List Frame) (meth : Method) (c : Code) (Q : State → Prop) (ls : Array Slot), Cx p m c s args cc nL own G → va_P (gD G) vwCl (cells G S) s.heap → va_S (gA G) s.heap s.heap [] → lv_has ls nL (lv_args 0 av) → KL p l e (rmH d) s m args below meth c Q cc G r S' → W p l e (rmH d) s m args below meth c s.heap [] 0 0 Q (F0 m 0 ls [])) : ML l y cc nL (some .long) d av G S r S' := by
  refine Met.ofW (cc := cc) (maxL := nL) (ret := some .long) hy rfl ?_
  intro p e s m args below meth c s₁ B hml hv
  obtain ⟨rfl, hP, hE⟩ := hv
  have hts := atoms_spec (ws := ws0 y cc nL (some .long)) B.pre
  have hown : s.vm.findClass own = some m.cls := by rw [← ho]; exact findClass_of_methodNamed B.named
  have hlocks := B.notSynchronized
  rw [lg_entry_eq]
  refine body p e s m _ below meth c _ _ ⟨⟨B.exec, B.bytes, hml, hown, fun w hw => hts w (List.mem_cons_of_mem _ hw)⟩, hE⟩ hP va_S.rf (lv_entry av hn) ?_
  intro H locs pc ls hP1 hS1 hd
  exact W.lret B.exec B.bytes B.returns (fun t ht hW => ⟨⟨r, S', rfl, ⟨rfl, rfl⟩, by rw [ht]; exact hP1, hE.moved (locs := locs) (by rw [ht]; exact hS1) hW⟩, hS1.F ht⟩) hS1.2.2 hd
theorem mkV {y : MethodName} {d : Nat} {av : List Value} (hy : plainName y.cls = true) (ho : y.cls = own) (hn : (lg_sl av).length ≤ nL)
    (body : ∀ (p : Program) (e : Env) (s : State) (m : MethodId) (args : Array Value) (below : List Frame) (meth : Method) (c : Code) (Q : State → Prop) (ls : Array Slot), Cx p m c s args cc nL own G → va_P (gD G) vwCl (cells G S) s.heap → va_S (gA G) s.heap s.heap [] → lv_has ls nL (lv_args 0 av) → KV p l e (rmH d) s m args below meth c Q cc G S' → W p l e (rmH d) s m args below meth c s.heap [] 0 0 Q (F0 m 0 ls [])) : MV l y cc nL d av G S S' := by
  refine Met.ofW (cc := cc) (maxL := nL) (ret := none) hy rfl ?_
  intro p e s m args below meth c s₁ B hml hv
  obtain ⟨rfl, hP, hE⟩ := hv
  have hts := atoms_spec (ws := ws0 y cc nL none) B.pre
  have hown : s.vm.findClass own = some m.cls := by rw [← ho]; exact findClass_of_methodNamed B.named
  have hlocks := B.notSynchronized
  rw [lg_entry_eq]
  refine body p e s m _ below meth c _ _ ⟨⟨B.exec, B.bytes, hml, hown, fun w hw => hts w (List.mem_cons_of_mem _ hw)⟩, hE⟩ hP va_S.rf (lv_entry av hn) ?_
  intro H locs pc ls hP1 hS1 hd
  exact W.vret B.exec B.bytes B.returns (fun t ht hW => ⟨⟨S', rfl, rfl, by rw [ht]; exact hP1, hE.moved (locs := locs) (by rw [ht]; exact hS1) hW⟩, hS1.F ht⟩) hS1.2.2 hd
theorem mkA {y : MethodName} {rt : FieldType} {d : Nat} {av : List Value} {r : Nat} (hy : plainName y.cls = true) (ho : y.cls = own) (hrt : (∃ n, rt = .object n) ∨ ∃ t, rt = .array t) (hn : (lg_sl av).length ≤ nL)
    (body : ∀ (p : Program) (e : Env) (s : State) (m : MethodId) (args : Array Value) (below : List Frame) (meth : Method) (c : Code) (Q : State → Prop) (ls : Array Slot), Cx p m c s args cc nL own G → va_P (gD G) vwCl (cells G S) s.heap → va_S (gA G) s.heap s.heap [] → lv_has ls nL (lv_args 0 av) → KA p l e (rmH d) s m args below meth c Q cc G r S' → W p l e (rmH d) s m args below meth c s.heap [] 0 0 Q (F0 m 0 ls [])) : MA l y cc nL (some rt) d av G S r S' := by
  refine Met.ofW (cc := cc) (maxL := nL) (ret := some rt) hy rfl ?_
  intro p e s m args below meth c s₁ B hml hv
  obtain ⟨rfl, hP, hE⟩ := hv
  have hts := atoms_spec (ws := ws0 y cc nL (some rt)) B.pre
  have hown : s.vm.findClass own = some m.cls := by rw [← ho]; exact findClass_of_methodNamed B.named
  have hlocks := B.notSynchronized
  rw [lg_entry_eq]
  refine body p e s m _ below meth c _ _ ⟨⟨B.exec, B.bytes, hml, hown, fun w hw => hts w (List.mem_cons_of_mem _ hw)⟩, hE⟩ hP va_S.rf (lv_entry av hn) ?_
  intro H locs pc ls hP1 hS1 hd
  exact W.aret B.exec B.bytes B.returns hrt (Or.inr ⟨_, rfl⟩) (fun t ht hW => ⟨⟨S', _, rfl, rfl, rfl, by rw [ht]; exact hP1, hE.moved (locs := locs) (by rw [ht]; exact hS1) hW⟩, hS1.F ht⟩) hS1.2.2 hd
/-! rows over the world -/
theorem gFi (hC : Cx p m c s args cc nL own G) (hP : va_P (gD G) vwCl (cells G S) H) {k ci j N idx : Nat} {fs : List (Nat ⊕ Nat)} {C : String} {T : u_T} (hk : shl[k]? = some (.inr (ci, fs))) (hc : vwCl[ci]? = some (C, T, N)) (hin : ∀ w ∈ u_ws C T N, w ∈ TBL) (hj : j < N) (hf : fs[j]? = some (.inl j)) (hl : Cond.fieldLink own idx (T j).1 (T j).2.1 (T j).2.2.1 ∈ TBL) (hdg : decode cc pc = .ok (.getfield idx, 3))
    (kk : W p l e R s m args below meth c H locs 0 0 Q (F0 m (pc + 3) ls (.int (S.1 k j) :: rest))) : W p l e R s m args below meth c H locs 0 0 Q (F0 m pc ls (.ref (ad G k) :: rest)) := by
  obtain ⟨⟨hx, hb, hml, hown, hts⟩, hE⟩ := hC
  exact va_get hx hb hts hin hown hE.1 hP k (cells_at G S hk) hc j hj (hts _ hl) (fun _ h => h) (v := .int (S.1 k j)) (by show (fs.map (fv G S k))[j]? = _; rw [List.getElem?_map, hf]; rfl) hdg kk
theorem gFr (hC : Cx p m c s args cc nL own G) (hP : va_P (gD G) vwCl (cells G S) H) {k ci j N idx r : Nat} {fs : List (Nat ⊕ Nat)} {C : String} {T : u_T} (hk : shl[k]? = some (.inr (ci, fs))) (hc : vwCl[ci]? = some (C, T, N)) (hin : ∀ w ∈ u_ws C T N, w ∈ TBL) (hj : j < N) (hf : fs[j]? = some (.inr r)) (hl : Cond.fieldLink own idx (T j).1 (T j).2.1 (T j).2.2.1 ∈ TBL) (hdg : decode cc pc = .ok (.getfield idx, 3))
    (kk : W p l e R s m args below meth c H locs 0 0 Q (F0 m (pc + 3) ls (.ref (ad G r) :: rest))) : W p l e R s m args below meth c H locs 0 0 Q (F0 m pc ls (.ref (ad G k) :: rest)) := by
  obtain ⟨⟨hx, hb, hml, hown, hts⟩, hE⟩ := hC
  exact va_get hx hb hts hin hown hE.1 hP k (cells_at G S hk) hc j hj (hts _ hl) (fun _ h => h) (v := .ref (ad G r)) (by show (fs.map (fv G S k))[j]? = _; rw [List.getElem?_map, hf]; rfl) hdg kk
theorem sI_o {k j a : Nat} {x : Int32} (h : a ≠ k) : (sI S k j x).1 a = S.1 a := if_neg h
theorem sI_k {k j : Nat} {x : Int32} : (sI S k j x).1 k = upd (S.1 k) j x := if_pos rfl
theorem sL_o {k j a : Nat} {x : Int64} (h : a ≠ k) : (sL S k j x).2 a = S.2 a := if_neg h
theorem sL_k {k j : Nat} {x : Int64} : (sL S k j x).2 k = vp_updL (S.2 k) j x := if_pos rfl
theorem pFi (hC : Cx p m c s args cc nL own G) (hP : va_P (gD G) vwCl (cells G S) H) (hS : va_S (gA G) s.heap H locs) {k ci j N idx : Nat} {fs : List (Nat ⊕ Nat)} {C : String} {T : u_T} {ty0 : Nat → FieldType} {x : Int32} (hk : shl[k]? = some (.inr (ci, fs))) (hc : vwCl[ci]? = some (C, T, N)) (hin : ∀ w ∈ u_ws C T N, w ∈ TBL) (hty : ∀ k, k < N → parseFieldDescriptor (T k).2.2.1 = some (ty0 k)) (hnm : ∀ a, a < N → ∀ b, b < N → a ≠ b → (T a).2.1 ≠ (T b).2.1) (hj : j < N) (hf : fs[j]? = some (.inl j)) (hl : Cond.fieldLink own idx (T j).1 (T j).2.1 (T j).2.2.1 ∈ TBL) (hfin : (T j).2.2.2 = false) (hn : narrow (ty0 j) (.int x) = .int x) (hfit : fits (ty0 j) (.int x) = true) (hdg : decode cc pc = .ok (.putfield idx, 3))
    (kk : ∀ (H : Heap) (locs : List Loc), va_P (gD G) vwCl (cells G (sI S k j x)) H → va_S (gA G) s.heap H locs → W p l e R s m args below meth c H locs 0 0 Q (F0 m (pc + 3) ls rest)) : W p l e R s m args below meth c H locs 0 0 Q (F0 m pc ls (.int x :: .ref (ad G k) :: rest)) := by
  obtain ⟨⟨hx, hb, hml, hown, hts⟩, hE⟩ := hC
  have hjl := (List.getElem?_eq_some_iff.mp hf).1
  refine va_put hx hb hts hin ty0 hty hnm hown hE.1 hP (cells_D hE.2.1) hS k (cells_at G S hk) hc j hj (hts _ hl) (fun _ h => h) hfin (hty j hj) hn hfit (by rw [List.length_map]; exact hjl) hdg (fun H1 locs1 hP1 _ hS1 => kk H1 locs1 ?_ hS1)
  have e : (fs.map (fv G S k)).set j (.int x) = fs.map (fv G (sI S k j x) k) := by
    apply List.ext_getElem?
    intro i
    by_cases hi : i = j
    · subst hi
      rw [List.getElem?_set_self (by rw [List.length_map]; exact hjl), List.getElem?_map, hf]
      simp [fv, sI_k, upd]
    · rw [List.getElem?_set_ne (Ne.symm hi), List.getElem?_map, List.getElem?_map]
      cases hfi : fs[i]? with
      | none => rfl
      | some f =>
        cases f with
        | inr r => rfl
        | inl a =>
          have ha := sh_fld hk hfi
          subst ha
          simp [fv, sI_k, upd, hi]
  have e3 := cells_set (G := G) (S := S) (S' := sI S k j x) hk (fun a ha => sI_o ha) (fun a ha => rfl)
  rw [← e3]
  show va_P (gD G) vwCl ((cells G S).set k (ad G k, .inr (ci, fs.map (fv G (sI S k j x) k)))) H1
  rw [← e]
  exact hP1
theorem aS_i {k t n b : Nat} (ht : t ≤ 2) : aS G S k t n b = (n, .inl (S.1 k)) := by simp only [aS, if_pos ht]
theorem aS_l {k n b : Nat} : aS G S k 3 n b = (n, .inr (.inl (S.2 k))) := rfl
theorem some_ite {α : Type} {c : Prop} [Decidable c] {x r : α} (h : (if c then some x else none) = some r) : c ∧ x = r := by
  by_cases hc : c
  · rw [if_pos hc] at h
    exact ⟨hc, Option.some.inj h⟩
  · rw [if_neg hc] at h
    cases h
theorem gIa (hC : Cx p m c s args cc nL own G) (hP : va_P (gD G) vwCl (cells G S) H) {k : Nat} {i x : Int32} (h : rI S 0 k i = some x) (hdg : decode cc pc = .ok (.iaload, 1))
    (kk : W p l e R s m args below meth c H locs 0 0 Q (F0 m (pc + 1) ls (.int x :: rest))) : W p l e R s m args below meth c H locs 0 0 Q (F0 m pc ls (.int i :: .ref (ad G k) :: rest)) := by
  obtain ⟨⟨hx, hb, hml, hown, hts⟩, hE⟩ := hC
  obtain ⟨hi, rfl⟩ := some_ite h
  obtain ⟨n, b, hk, hn, -⟩ := al_at hi.2
  rw [hn] at hi
  exact va_iald hx hb hE.1 hP k 0 (cells_at G S hk) rfl (vp_in_of2 hi) hdg kk
theorem gBa (hC : Cx p m c s args cc nL own G) (hP : va_P (gD G) vwCl (cells G S) H) {k : Nat} {i x : Int32} (h : rI S 1 k i = some x) (hdg : decode cc pc = .ok (.baload, 1))
    (kk : W p l e R s m args below meth c H locs 0 0 Q (F0 m (pc + 1) ls (.int x :: rest))) : W p l e R s m args below meth c H locs 0 0 Q (F0 m pc ls (.int i :: .ref (ad G k) :: rest)) := by
  obtain ⟨⟨hx, hb, hml, hown, hts⟩, hE⟩ := hC
  obtain ⟨hi, rfl⟩ := some_ite h
  obtain ⟨n, b, hk, hn, -⟩ := al_at hi.2
  rw [hn] at hi
  exact va_bald hx hb hE.1 hP k 1 (cells_at G S hk) rfl (vp_in_of2 hi) hdg kk
theorem gZa (hC : Cx p m c s args cc nL own G) (hP : va_P (gD G) vwCl (cells G S) H) {k : Nat} {i x : Int32} (h : rI S 2 k i = some x) (hdg : decode cc pc = .ok (.baload, 1))
    (kk : W p l e R s m args below meth c H locs 0 0 Q (F0 m (pc + 1) ls (.int x :: rest))) : W p l e R s m args below meth c H locs 0 0 Q (F0 m pc ls (.int i :: .ref (ad G k) :: rest)) := by
  obtain ⟨⟨hx, hb, hml, hown, hts⟩, hE⟩ := hC
  obtain ⟨hi, rfl⟩ := some_ite h
  obtain ⟨n, b, hk, hn, -⟩ := al_at hi.2
  rw [hn] at hi
  exact va_zald hx hb hE.1 hP k 2 (cells_at G S hk) rfl (vp_in_of2 hi) hdg kk
theorem gLa (hC : Cx p m c s args cc nL own G) (hP : va_P (gD G) vwCl (cells G S) H) {k : Nat} {i : Int32} {x : Int64} (h : rL S k i = some x) (hdg : decode cc pc = .ok (.laload, 1))
    (kk : W p l e R s m args below meth c H locs 0 0 Q (F0 m (pc + 1) ls (.long x :: rest))) : W p l e R s m args below meth c H locs 0 0 Q (F0 m pc ls (.int i :: .ref (ad G k) :: rest)) := by
  obtain ⟨⟨hx, hb, hml, hown, hts⟩, hE⟩ := hC
  obtain ⟨hi, rfl⟩ := some_ite h
  obtain ⟨n, b, hk, hn, -⟩ := al_at hi.2
  rw [hn] at hi
  exact va_lald hx hb hE.1 hP k 3 (cells_at G S hk) rfl (vp_in_of2 hi) hdg kk
theorem gAa4 (hC : Cx p m c s args cc nL own G) (hP : va_P (gD G) vwCl (cells G S) H) {k r : Nat} {i : Int32} (h : rA 4 k i = some r) (hdg : decode cc pc = .ok (.aaload, 1))
    (kk : W p l e R s m args below meth c H locs 0 0 Q (F0 m (pc + 1) ls (.ref (ad G r) :: rest))) : W p l e R s m args below meth c H locs 0 0 Q (F0 m pc ls (.int i :: .ref (ad G k) :: rest)) := by
  obtain ⟨⟨hx, hb, hml, hown, hts⟩, hE⟩ := hC
  obtain ⟨hi, rfl⟩ := some_ite h
  obtain ⟨n, b, hk, hn, hb2⟩ := al_at hi.2
  rw [hn] at hi
  have hin := vp_in_of2 hi
  refine W.aald (v := .ref (ad G (ob k + i.toNatClampNeg))) (ty := .array .long) hx hb (hP k _ (cells_at G S hk)) ((hE.1.2 4 _ rfl).1 n (fun j => va_rf (if j < n then some (ad G (b + j)) else none))) rfl (fun q => by cases q) (by show ¬ (i < 0 ∨ (arrV _ _ _).slots.size ≤ _); rw [arrV_size]; exact hin) (by show (arrV (cy G 4) n (fun j => va_rf (if j < n then some (ad G (b + j)) else none))).slots[_]? = _; rw [arrV_read _ _ hi.2, if_pos hi.2, hb2]; rfl) rfl rfl hdg kk
theorem gAa5 (hC : Cx p m c s args cc nL own G) (hP : va_P (gD G) vwCl (cells G S) H) {k r : Nat} {i : Int32} (h : rA 5 k i = some r) (hdg : decode cc pc = .ok (.aaload, 1))
    (kk : W p l e R s m args below meth c H locs 0 0 Q (F0 m (pc + 1) ls (.ref (ad G r) :: rest))) : W p l e R s m args below meth c H locs 0 0 Q (F0 m pc ls (.int i :: .ref (ad G k) :: rest)) := by
  obtain ⟨⟨hx, hb, hml, hown, hts⟩, hE⟩ := hC
  obtain ⟨hi, rfl⟩ := some_ite h
  obtain ⟨n, b, hk, hn, hb2⟩ := al_at hi.2
  rw [hn] at hi
  have hin := vp_in_of2 hi
  refine W.aald (v := .ref (ad G (ob k + i.toNatClampNeg))) (ty := .array .int) hx hb (hP k _ (cells_at G S hk)) ((hE.1.2 5 _ rfl).1 n (fun j => va_rf (if j < n then some (ad G (b + j)) else none))) rfl (fun q => by cases q) (by show ¬ (i < 0 ∨ (arrV _ _ _).slots.size ≤ _); rw [arrV_size]; exact hin) (by show (arrV (cy G 5) n (fun j => va_rf (if j < n then some (ad G (b + j)) else none))).slots[_]? = _; rw [arrV_read _ _ hi.2, if_pos hi.2, hb2]; rfl) rfl rfl hdg kk
theorem gLen {t : Nat} (ht : t < 4) (hC : Cx p m c s args cc nL own G) (hP : va_P (gD G) vwCl (cells G S) H) {k : Nat} {x : Int32} (h : lA t k = some x) (hdg : decode cc pc = .ok (.arraylength, 1))
    (kk : W p l e R s m args below meth c H locs 0 0 Q (F0 m (pc + 1) ls (.int x :: rest))) : W p l e R s m args below meth c H locs 0 0 Q (F0 m pc ls (.ref (ad G k) :: rest)) := by
  obtain ⟨⟨hx, hb, hml, hown, hts⟩, hE⟩ := hC
  obtain ⟨hi, rfl⟩ := some_ite h
  obtain ⟨n, b, hk, hn, -⟩ := al_at hi
  rw [hn] at kk
  rcases (show t = 0 ∨ t = 1 ∨ t = 2 ∨ t = 3 by omega) with rfl | rfl | rfl | rfl
  · exact va_alen hx hb hE.1 hP k 0 (cells_at G S hk) rfl rfl hdg kk
  · exact va_alen hx hb hE.1 hP k 1 (cells_at G S hk) rfl rfl hdg kk
  · exact va_alen hx hb hE.1 hP k 2 (cells_at G S hk) rfl rfl hdg kk
  · exact va_alen hx hb hE.1 hP k 3 (cells_at G S hk) rfl rfl hdg kk
theorem ceS_i {k n b t : Nat} (ht : t ≤ 2) {f : Nat → Int32} (h : S'.1 k = f) : ceS G S' k (.inl (t, n, b)) = .inl (cy G t, n, .inl f) := by
  simp only [ceS, aS, if_pos ht, h]
theorem ceS_l {k n b : Nat} {f : Nat → Int64} (h : S'.2 k = f) : ceS G S' k (.inl (3, n, b)) = .inl (cy G 3, n, .inr (.inl f)) := by
  rw [← h]; rfl
theorem sIa (hC : Cx p m c s args cc nL own G) (hP : va_P (gD G) vwCl (cells G S) H) (hS : va_S (gA G) s.heap H locs) {k : Nat} {i x : Int32} (h : wI S k i x = some S') (hdg : decode cc pc = .ok (.iastore, 1))
    (kk : ∀ (H : Heap) (locs : List Loc), va_P (gD G) vwCl (cells G S') H → va_S (gA G) s.heap H locs → W p l e R s m args below meth c H locs 0 0 Q (F0 m (pc + 1) ls rest)) : W p l e R s m args below meth c H locs 0 0 Q (F0 m pc ls (.int x :: .int i :: .ref (ad G k) :: rest)) := by
  obtain ⟨⟨hx, hb, hml, hown, hts⟩, hE⟩ := hC
  obtain ⟨hi, rfl⟩ := some_ite h
  obtain ⟨n, b, hk, hn, -⟩ := al_at hi.2
  rw [hn] at hi
  refine va_iast hx hb hE.1 hP (cells_D hE.2.1) hS k 0 (cells_at G S hk) rfl (vp_in_of2 hi) hdg (fun H1 locs1 hP1 _ hS1 => kk H1 locs1 ?_ hS1)
  rw [← cells_set (S := S) (S' := sI S k i.toNatClampNeg x) hk (fun a ha => sI_o ha) (fun a ha => rfl), ceS_i (by omega) sI_k]
  exact hP1
theorem sBa (hC : Cx p m c s args cc nL own G) (hP : va_P (gD G) vwCl (cells G S) H) (hS : va_S (gA G) s.heap H locs) {k : Nat} {i x : Int32} (h : wB S k i x = some S') (hdg : decode cc pc = .ok (.bastore, 1))
    (kk : ∀ (H : Heap) (locs : List Loc), va_P (gD G) vwCl (cells G S') H → va_S (gA G) s.heap H locs → W p l e R s m args below meth c H locs 0 0 Q (F0 m (pc + 1) ls rest)) : W p l e R s m args below meth c H locs 0 0 Q (F0 m pc ls (.int x :: .int i :: .ref (ad G k) :: rest)) := by
  obtain ⟨⟨hx, hb, hml, hown, hts⟩, hE⟩ := hC
  obtain ⟨hi, rfl⟩ := some_ite h
  obtain ⟨n, b, hk, hn, -⟩ := al_at hi.2
  rw [hn] at hi
  refine va_bast hx hb hE.1 hP (cells_D hE.2.1) hS k 1 (cells_at G S hk) rfl (vp_in_of2 hi) hdg (fun H1 locs1 hP1 _ hS1 => kk H1 locs1 ?_ hS1)
  rw [← cells_set (S := S) (S' := sI S k i.toNatClampNeg (vp_nar .byte x)) hk (fun a ha => sI_o ha) (fun a ha => rfl), ceS_i (by omega) sI_k]
  exact hP1
theorem sZa (hC : Cx p m c s args cc nL own G) (hP : va_P (gD G) vwCl (cells G S) H) (hS : va_S (gA G) s.heap H locs) {k : Nat} {i x : Int32} (h : wZ S k i x = some S') (hdg : decode cc pc = .ok (.bastore, 1))
    (kk : ∀ (H : Heap) (locs : List Loc), va_P (gD G) vwCl (cells G S') H → va_S (gA G) s.heap H locs → W p l e R s m args below meth c H locs 0 0 Q (F0 m (pc + 1) ls rest)) : W p l e R s m args below meth c H locs 0 0 Q (F0 m pc ls (.int x :: .int i :: .ref (ad G k) :: rest)) := by
  obtain ⟨⟨hx, hb, hml, hown, hts⟩, hE⟩ := hC
  obtain ⟨hi, rfl⟩ := some_ite h
  obtain ⟨n, b, hk, hn, -⟩ := al_at hi.2
  rw [hn] at hi
  refine va_zast hx hb hE.1 hP (cells_D hE.2.1) hS k 2 (cells_at G S hk) rfl (vp_in_of2 hi) hdg (fun H1 locs1 hP1 _ hS1 => kk H1 locs1 ?_ hS1)
  rw [← cells_set (S := S) (S' := sI S k i.toNatClampNeg (vp_nar .boolean x)) hk (fun a ha => sI_o ha) (fun a ha => rfl), ceS_i (by omega) sI_k]
  exact hP1
theorem sLa (hC : Cx p m c s args cc nL own G) (hP : va_P (gD G) vwCl (cells G S) H) (hS : va_S (gA G) s.heap H locs) {k : Nat} {i : Int32} {x : Int64} (h : wL S k i x = some S') (hdg : decode cc pc = .ok (.lastore, 1))
    (kk : ∀ (H : Heap) (locs : List Loc), va_P (gD G) vwCl (cells G S') H → va_S (gA G) s.heap H locs → W p l e R s m args below meth c H locs 0 0 Q (F0 m (pc + 1) ls rest)) : W p l e R s m args below meth c H locs 0 0 Q (F0 m pc ls (.long x :: .int i :: .ref (ad G k) :: rest)) := by
  obtain ⟨⟨hx, hb, hml, hown, hts⟩, hE⟩ := hC
  obtain ⟨hi, rfl⟩ := some_ite h
  obtain ⟨n, b, hk, hn, -⟩ := al_at hi.2
  rw [hn] at hi
  refine va_last hx hb hE.1 hP (cells_D hE.2.1) hS k 3 (cells_at G S hk) rfl (vp_in_of2 hi) hdg (fun H1 locs1 hP1 _ hS1 => kk H1 locs1 ?_ hS1)
  rw [← cells_set (S := S) (S' := sL S k i.toNatClampNeg x) hk (fun a ha => rfl) (fun a ha => sL_o ha), ceS_l sL_k]
  exact hP1
theorem sCp (hC : Cx p m c s args cc nL own G) (hP : va_P (gD G) vwCl (cells G S) H) (hS : va_S (gA G) s.heap H locs) {k k2 idx : Nat} {sp dp n : Int32} (h : cpy S k sp k2 dp n = some S') (hsz : ls.size = nL) (h1 : Cond.methodLink own idx arraycopyName ∈ TBL) (h2 : Cond.native arraycopyName ∈ TBL) (h3 : Cond.static arraycopyName ∈ TBL) (h4 : Cond.initialized "java/lang/System" ∈ TBL) (hR : 1 ≤ R.frames ∧ (rest.map fun v => v.category).sum + 18 ≤ R.locals) (hdg : decode cc pc = .ok (.invokestatic idx, 3))
    (kk : ∀ (H : Heap) (locs : List Loc), va_P (gD G) vwCl (cells G S') H → va_S (gA G) s.heap H locs → W p l e R s m args below meth c H locs 0 0 Q (F0 m (pc + 3) ls rest)) : W p l e R s m args below meth c H locs 0 0 Q (F0 m pc ls (.int n :: .int dp :: .ref (ad G k2) :: .int sp :: .ref (ad G k) :: rest)) := by
  obtain ⟨⟨hx, hb, hml, hown, hts⟩, hE⟩ := hC
  obtain ⟨⟨⟨g1, g2, g3⟩, g4, g5, g6, g7⟩, rfl⟩ := some_ite h
  obtain ⟨n0, b0, hk0, hn0, -⟩ := al_at g6
  obtain ⟨n1, b1, hk1, hn1, -⟩ := al_at g7
  rw [hn0] at g4
  rw [hn1] at g5
  refine va_copyi hx hb (hml.trans hsz.symm) hown (hts _ h1) (hts _ h2) (hts _ h3) (hts _ h4) hE.1 hP (cells_D hE.2.1) hS k k2 0 0 (cells_at G S hk0) (cells_at G S hk1) rfl rfl rfl (Int32.not_lt.mpr g1) (Int32.not_lt.mpr g2) (Int32.not_lt.mpr g3) g4 g5 (fun i _ => rfl) hR.1 hR.2 hdg (fun H1 locs1 hP1 _ hS1 => kk H1 locs1 ?_ hS1)
  rw [← cells_set (S := S) (S' := cpyS S k k2 sp.toNatClampNeg dp.toNatClampNeg n.toNatClampNeg) hk1 (fun a ha => if_neg ha) (fun a ha => rfl), ceS_i (by omega) (if_pos rfl)]
  exact hP1
theorem gSt (hC : Cx p m c s args cc nL own G) (hS : va_S (gA G) s.heap H locs) {idx j : Nat} (hj : j < 5) (hl : Cond.fieldLink own idx "DeepShip" (sn j) "[I" ∈ TBL) (hdg : decode cc pc = .ok (.getstatic idx, 3))
    (kk : W p l e R s m args below meth c H locs 0 0 Q (F0 m (pc + 3) ls (.ref (sd G j) :: rest))) : W p l e R s m args below meth c H locs 0 0 Q (F0 m pc ls rest) := by
  obtain ⟨⟨hx, hb, hml, hown, hts⟩, hE⟩ := hC
  exact va_gets hx hb (hE.2.2.2 j hj).1 hS hown (hts _ hl) (fun _ h => h) hdg kk
theorem gStN (hC : Cx p m c s args cc nL own G) (hS : va_S (gA G) s.heap H locs) {idx j : Nat} (hj : j < 5) (hl : Cond.fieldLinkNest own idx "DeepShip" (sn j) "[I" "DeepShip" ∈ NW) (hdg : decode cc pc = .ok (.getstatic idx, 3))
    (kk : W p l e R s m args below meth c H locs 0 0 Q (F0 m (pc + 3) ls (.ref (sd G j) :: rest))) : W p l e R s m args below meth c H locs 0 0 Q (F0 m pc ls rest) := by
  obtain ⟨⟨hx, hb, hml, hown, hts⟩, hE⟩ := hC
  exact va_getsN hx hb (hE.2.2.2 j hj).1 hS hown (va_Nw.use rfl (hE.2.2.1 _ hl)) (fun _ h => h) hdg kk
theorem gSi (hC : Cx p m c s args cc nL own G) (hS : va_S (gA G) s.heap H locs) {j : Nat} (hj : j < 5) {i x : Int32} (h : rS j i = some x) (hdg : decode cc pc = .ok (.iaload, 1))
    (kk : W p l e R s m args below meth c H locs 0 0 Q (F0 m (pc + 1) ls (.int x :: rest))) : W p l e R s m args below meth c H locs 0 0 Q (F0 m pc ls (.int i :: .ref (sd G j) :: rest)) := by
  obtain ⟨⟨hx, hb, hml, hown, hts⟩, hE⟩ := hC
  obtain ⟨hi, rfl⟩ := some_ite h
  exact va_ti hx hb (hE.2.2.2 j hj).2 hS (vp_in_of2 hi) rfl hdg kk
theorem gSn (hC : Cx p m c s args cc nL own G) (hS : va_S (gA G) s.heap H locs) {j : Nat} (hj : j < 5) {x : Int32} (h : Int32.ofNat (sN j) = x) (hdg : decode cc pc = .ok (.arraylength, 1))
    (kk : W p l e R s m args below meth c H locs 0 0 Q (F0 m (pc + 1) ls (.int x :: rest))) : W p l e R s m args below meth c H locs 0 0 Q (F0 m pc ls (.ref (sd G j) :: rest)) := by
  obtain ⟨⟨hx, hb, hml, hown, hts⟩, hE⟩ := hC
  exact va_tlen hx hb (hE.2.2.2 j hj).2 hS h hdg kk
theorem nmI {x y : Int32} (h : some x = some y) (k : W p l e R s m args below meth c H locs 0 0 Q (F0 m pc ls (.int y :: rest))) : W p l e R s m args below meth c H locs 0 0 Q (F0 m pc ls (.int x :: rest)) := by
  cases h; exact k
theorem nmL {x y : Int64} (h : some x = some y) (k : W p l e R s m args below meth c H locs 0 0 Q (F0 m pc ls (.long y :: rest))) : W p l e R s m args below meth c H locs 0 0 Q (F0 m pc ls (.long x :: rest)) := by
  cases h; exact k
theorem xDv {x y r : Int32} (hC : Cx p m c s args cc nL own G) (h : dv x y = some r) (hdg : decode cc pc = .ok (.idiv, 1)) (k : W p l e R s m args below meth c H locs 0 0 Q (F0 m (pc + 1) ls (.int r :: rest))) : W p l e R s m args below meth c H locs 0 0 Q (F0 m pc ls (.int y :: .int x :: rest)) := by
  by_cases hy : y = 0
  · rw [dv, if_pos hy] at h; cases h
  · rw [dv, if_neg hy] at h; cases h
    exact lv_idiv hC.1.1 hC.1.2.1 hdg hy k
theorem xRm {x y r : Int32} (hC : Cx p m c s args cc nL own G) (h : rm x y = some r) (hdg : decode cc pc = .ok (.irem, 1)) (k : W p l e R s m args below meth c H locs 0 0 Q (F0 m (pc + 1) ls (.int r :: rest))) : W p l e R s m args below meth c H locs 0 0 Q (F0 m pc ls (.int y :: .int x :: rest)) := by
  by_cases hy : y = 0
  · rw [rm, if_pos hy] at h; cases h
  · rw [rm, if_neg hy] at h; cases h
    exact lv_irem hC.1.1 hC.1.2.1 hdg hy k
theorem xDvL {x y r : Int64} (hC : Cx p m c s args cc nL own G) (h : dvL x y = some r) (hdg : decode cc pc = .ok (.ldiv, 1)) (k : W p l e R s m args below meth c H locs 0 0 Q (F0 m (pc + 1) ls (.long r :: rest))) : W p l e R s m args below meth c H locs 0 0 Q (F0 m pc ls (.long y :: .long x :: rest)) := by
  by_cases hy : y = 0
  · rw [dvL, if_pos hy] at h; cases h
  · rw [dvL, if_neg hy] at h; cases h
    exact lv_ldiv hC.1.1 hC.1.2.1 hdg hy k
/-! calls -/
/-- what the tables say of a method that is called -/
def Vy (y : MethodName) (bytes : ByteArray) (maxL : Nat) (ret : Option FieldType) (n : Nat) : Prop := Cond.code y bytes maxL ret ∈ TBL ∧ Cond.initialized y.cls ∈ TBL ∧ y.cls ≠ "java/lang/invoke/MethodHandle" ∧ y.cls ≠ "java/lang/invoke/VarHandle" ∧ (parseMethodDescriptor y.desc).map (fun d => d.parameters.length) = some n
theorem cB {idx maxL n d : Nat} {y : MethodName} {bytes : ByteArray} {ret : Option FieldType} (hts : ∀ w ∈ TBL, w.before args s = true) (hV : Vy y bytes maxL ret n) (hl : Cond.methodLink own idx y ∈ TBL) (hR : d + 1 ≤ R.frames ∧ 8 + (maxL + 11) + 40 * d ≤ R.locals) : CallB R s args own idx y bytes maxL ret (ws0 y bytes maxL ret) (rmH d) 0 0 n := by
  obtain ⟨h1, h2, h3, h4, h5⟩ := hV
  exact callB_of n hts (gTB h1) rfl rfl rfl (hts _ h2) (hts _ hl) ⟨h3, h4, h5⟩ hR
theorem cN {idx maxL n d : Nat} {y : MethodName} {bytes : ByteArray} {ret : Option FieldType} {host : String} (hts : ∀ w ∈ TBL, w.before args s = true) (hE : En G s) (hV : Vy y bytes maxL ret n) (hl : Cond.methodLinkNest own idx y host ∈ NW) (hR : d + 1 ≤ R.frames ∧ 8 + (maxL + 11) + 40 * d ≤ R.locals) : va_CN R s args own idx y host bytes maxL ret (ws0 y bytes maxL ret) (rmH d) 0 0 n := by
  obtain ⟨h1, h2, h3, h4, h5⟩ := hV
  exact va_cnB n hts (gTB h1) rfl rfl rfl (hE.2.2.1 _ hl) (hts _ h2) ⟨h3, h4, h5⟩ hR
theorem preS {av : List Value} (hE : En G s) (hP : va_P (gD G) vwCl (cells G S) H) (hS : va_S (gA G) s.heap H locs) : PreS s H (va_Pc av (Wo G S)) av := ⟨fun a U g mk q => ⟨q.1, q.2.blind⟩, fun U hU hW => ⟨rfl, by rw [hU]; exact hP, hE.moved (locs := locs) (by rw [hU]; exact hS) hW⟩⟩
theorem preV {k ci : Nat} {fs : List (Nat ⊕ Nat)} {q : vw_C} {As : List Value} (hE : En G s) (hP : va_P (gD G) vwCl (cells G S) H) (hS : va_S (gA G) s.heap H locs) (hk : shl[k]? = some (.inr (ci, fs))) (hc : vwCl[ci]? = some q) : PreV s H q.1 (ad G k) (va_Pc (.ref (ad G k) :: As) (Wo G S)) As := ⟨fun a U g mk q => ⟨q.1, q.2.blind⟩, va_recv hE.1 hP hc (cells_at G S hk), fun U hU hW => ⟨rfl, by rw [hU]; exact hP, hE.moved (locs := locs) (by rw [hU]; exact hS) hW⟩⟩
abbrev Run (p : Program) (l : Launch) (e : Env) (R : Room) (s : State) (m : MethodId) (args : Array Value) (below : List Frame) (meth : Method) (c : Code) (H : Heap) (locs : List Loc) (g : JFrame) (rest : List Value) (Qc : Array Value → State → Outcome → State → Prop) (av : List Value) (G : GT) : Prop := va_Run p l e R s m args below meth c H locs 0 0 0 0 g rest (Qc av.toArray) (gA G)
theorem runV {k ci idx maxL n d : Nat} {fs : List (Nat ⊕ Nat)} {q : vw_C} {y : MethodName} {bytes : ByteArray} {ret : Option FieldType} {As : List Value} {Qc : Array Value → State → Outcome → State → Prop} (hC : Cx p m c s args cc nL own G) (hP : va_P (gD G) vwCl (cells G S) H) (hS : va_S (gA G) s.heap H locs) (hM : Met l y (ws0 y bytes maxL ret) (rmH d) (va_Pc (.ref (ad G k) :: As) (Wo G S)) Qc 0 0 (gA G)) (hV : Vy y bytes maxL ret n) (hk : shl[k]? = some (.inr (ci, fs))) (hc : vwCl[ci]? = some q) (hl : Cond.methodLink own idx y ∈ TBL) (hi : Cond.instanceMethod y ∈ TBL) (hse : Cond.selects q.1 y y ∈ TBL) (hR : d + 1 ≤ R.frames ∧ 8 + (maxL + 11) + 40 * d ≤ R.locals) (hn : As.length = n) (hsz : ls.size = nL) (hst : st = As.reverse ++ .ref (ad G k) :: rest) (hW : (rest.map fun v => v.category).sum ≤ 8) (hdg : decode cc pc = .ok (.invokevirtual idx, 3)) : Run p l e R s m args below meth c H locs (F0 m pc ls st) rest Qc (.ref (ad G k) :: As) G :=
  va_runV hC.1 hM ⟨cB hC.1.2.2.2.2 hV hl hR, hC.1.2.2.2.2 _ hi, hC.1.2.2.2.2 _ hse⟩ (preV hC.2 hP hS hk hc) rfl hn hsz hst (lv_room hW) hdg ⟨Nat.zero_le _, Nat.zero_le _⟩
theorem runS {idx maxL n d : Nat} {y : MethodName} {bytes : ByteArray} {ret : Option FieldType} {As : List Value} {Qc : Array Value → State → Outcome → State → Prop} (hC : Cx p m c s args cc nL own G) (hP : va_P (gD G) vwCl (cells G S) H) (hS : va_S (gA G) s.heap H locs) (hM : Met l y (ws0 y bytes maxL ret) (rmH d) (va_Pc As (Wo G S)) Qc 0 0 (gA G)) (hV : Vy y bytes maxL ret n) (hl : Cond.methodLink own idx y ∈ TBL) (hi : Cond.static y ∈ TBL) (hR : d + 1 ≤ R.frames ∧ 8 + (maxL + 11) + 40 * d ≤ R.locals) (hn : As.length = n) (hsz : ls.size = nL) (hst : st = As.reverse ++ rest) (hW : (rest.map fun v => v.category).sum ≤ 8) (hdg : decode cc pc = .ok (.invokestatic idx, 3)) : Run p l e R s m args below meth c H locs (F0 m pc ls st) rest Qc As G :=
  va_runS hC.1 hM ⟨cB hC.1.2.2.2.2 hV hl hR, hC.1.2.2.2.2 _ hi⟩ (preS hC.2 hP hS) rfl hn hsz hst (lv_room hW) hdg ⟨Nat.zero_le _, Nat.zero_le _⟩
theorem runSN {idx maxL n d : Nat} {y : MethodName} {bytes : ByteArray} {ret : Option FieldType} {As : List Value} {Qc : Array Value → State → Outcome → State → Prop} {host : String} (hC : Cx p m c s args cc nL own G) (hP : va_P (gD G) vwCl (cells G S) H) (hS : va_S (gA G) s.heap H locs) (hM : Met l y (ws0 y bytes maxL ret) (rmH d) (va_Pc As (Wo G S)) Qc 0 0 (gA G)) (hV : Vy y bytes maxL ret n) (hl : Cond.methodLinkNest own idx y host ∈ NW) (hi : Cond.static y ∈ TBL) (hR : d + 1 ≤ R.frames ∧ 8 + (maxL + 11) + 40 * d ≤ R.locals) (hn : As.length = n) (hsz : ls.size = nL) (hst : st = As.reverse ++ rest) (hW : (rest.map fun v => v.category).sum ≤ 8) (hdg : decode cc pc = .ok (.invokestatic idx, 3)) : Run p l e R s m args below meth c H locs (F0 m pc ls st) rest Qc As G :=
  va_runSN hC.1 hM ⟨cN hC.1.2.2.2.2 hC.2 hV hl hR, hC.1.2.2.2.2 _ hi, trivial⟩ (preS hC.2 hP hS) rfl hn hsz hst (lv_room hW) hdg ⟨Nat.zero_le _, Nat.zero_le _⟩
theorem cI {r : Int32} {av : List Value} (hS : va_S (gA G) s.heap H locs) (hr : Run p l e R s m args below meth c H locs (F0 m pc ls st) rest (va_Qi (fun r' u => r' = r ∧ u = S') (Wo G) (gA G)) av G)
    (kk : ∀ (H : Heap) (locs : List Loc), va_P (gD G) vwCl (cells G S') H → va_S (gA G) s.heap H locs → W p l e R s m args below meth c H locs 0 0 Q (F0 m (pc + 3) ls (.int r :: rest))) : W p l e R s m args below meth c H locs 0 0 Q (F0 m pc ls st) :=
  va_calli hr hS (fun _ _ h => h) (fun _ h => h) (fun r' u t H1 locs1 ht _ hp hB _ _ hS1 => by
    obtain ⟨rfl, rfl⟩ := hp
    exact kk H1 locs1 (by rw [← ht]; exact hB.1) hS1)
theorem cL {r : Int64} {av : List Value} (hS : va_S (gA G) s.heap H locs) (hr : Run p l e R s m args below meth c H locs (F0 m pc ls st) rest (va_Ql (fun r' u => r' = r ∧ u = S') (Wo G) (gA G)) av G)
    (kk : ∀ (H : Heap) (locs : List Loc), va_P (gD G) vwCl (cells G S') H → va_S (gA G) s.heap H locs → W p l e R s m args below meth c H locs 0 0 Q (F0 m (pc + 3) ls (.long r :: rest))) : W p l e R s m args below meth c H locs 0 0 Q (F0 m pc ls st) :=
  va_calll hr hS (fun _ _ h => h) (fun _ h => h) (fun r' u t H1 locs1 ht _ hp hB _ _ hS1 => by
    obtain ⟨rfl, rfl⟩ := hp
    exact kk H1 locs1 (by rw [← ht]; exact hB.1) hS1)
theorem cV {av : List Value} (hS : va_S (gA G) s.heap H locs) (hr : Run p l e R s m args below meth c H locs (F0 m pc ls st) rest (va_Qv (fun u => u = S') (Wo G) (gA G)) av G)
    (kk : ∀ (H : Heap) (locs : List Loc), va_P (gD G) vwCl (cells G S') H → va_S (gA G) s.heap H locs → W p l e R s m args below meth c H locs 0 0 Q (F0 m (pc + 3) ls rest)) : W p l e R s m args below meth c H locs 0 0 Q (F0 m pc ls st) :=
  va_callv hr hS (fun _ _ h => h) (fun _ h => h) (fun u t H1 locs1 ht _ hp hB _ _ hS1 => by
    subst hp
    exact kk H1 locs1 (by rw [← ht]; exact hB.1) hS1)
theorem cA {r : Nat} {av : List Value} (hS : va_S (gA G) s.heap H locs) (hr : Run p l e R s m args below meth c H locs (F0 m pc ls st) rest (va_Qr (fun u => u = S') (fun u a t => a = ad G r ∧ Wo G u t) (gA G)) av G)
    (kk : ∀ (H : Heap) (locs : List Loc), va_P (gD G) vwCl (cells G S') H → va_S (gA G) s.heap H locs → W p l e R s m args below meth c H locs 0 0 Q (F0 m (pc + 3) ls (.ref (ad G r) :: rest))) : W p l e R s m args below meth c H locs 0 0 Q (F0 m pc ls st) :=
  va_callr hr hS (fun _ _ h => h) (fun _ h => h) (fun u a t H1 locs1 ht _ hp hB _ _ hS1 => by
    subst hp
    obtain ⟨rfl, hB⟩ := hB
    exact kk H1 locs1 (by rw [← ht]; exact hB.1) hS1)
end MACH
end
