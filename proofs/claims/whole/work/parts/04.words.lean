/-! the words that every method has, by their places -/
def TBL : List Cond := lw_tbl.filter goodWord
theorem tbl_1 {w : Cond} (h : w ∈ tables_1_1) (hg : goodWord w = true) : w ∈ TBL := List.mem_filter.mpr ⟨List.mem_append_right _ (show w ∈ tables_1 from List.mem_append_left _ h), hg⟩
theorem tbl_2 {w : Cond} (h : w ∈ tables_1_2) (hg : goodWord w = true) : w ∈ TBL := List.mem_filter.mpr ⟨List.mem_append_right _ (show w ∈ tables_1 from List.mem_append_right _ (List.mem_append_left _ h)), hg⟩
theorem tbl_3 {w : Cond} (h : w ∈ tables_1_3) (hg : goodWord w = true) : w ∈ TBL := List.mem_filter.mpr ⟨List.mem_append_right _ (show w ∈ tables_1 from List.mem_append_right _ (List.mem_append_right _ (List.mem_append_left _ h))), hg⟩
theorem tbl_4 {w : Cond} (h : w ∈ tables_1_4) (hg : goodWord w = true) : w ∈ TBL := List.mem_filter.mpr ⟨List.mem_append_right _ (show w ∈ tables_1 from List.mem_append_right _ (List.mem_append_right _ (List.mem_append_right _ (List.mem_append_left _ h)))), hg⟩
theorem tbl_5 {w : Cond} (h : w ∈ tables_1_5) (hg : goodWord w = true) : w ∈ TBL := List.mem_filter.mpr ⟨List.mem_append_right _ (show w ∈ tables_1 from List.mem_append_right _ (List.mem_append_right _ (List.mem_append_right _ (List.mem_append_right _ h)))), hg⟩
def NW : List Cond := [Cond.methodLinkNest RX7 9 yX1_init "DeepShip", Cond.fieldLinkNest RX2 24 "DeepShip" "PACES" "[I" "DeepShip", Cond.methodLinkNest RX7 44 yX0_init "DeepShip", Cond.methodLinkNest RX7 51 yX4_init "DeepShip", Cond.methodLinkNest RX7 58 yX3_init "DeepShip", Cond.methodLinkNest RX4 29 yX7_within "DeepShip", Cond.fieldLinkNest RX4 80 "DeepShip" "LOWEST_MARK" "[I" "DeepShip", Cond.fieldLinkNest RX4 83 "DeepShip" "HIGHEST_MARK" "[I" "DeepShip", Cond.methodLinkNest RX6 52 yX7_minutesBy "DeepShip", Cond.methodLinkNest RX2 70 yX7_within "DeepShip", Cond.methodLinkNest RX2 74 yX7_putBit "DeepShip", Cond.fieldLinkNest RX2 134 "DeepShip" "TAKES" "[I" "DeepShip", Cond.methodLinkNest RX2 113 yX7_firstFrom "DeepShip", Cond.methodLinkNest RX2 130 yX7_hasBit "DeepShip", Cond.methodLinkNest RX2 123 yX7_minutesBy "DeepShip", Cond.methodLinkNest RX0 44 yX7_firstFrom "DeepShip", Cond.methodLinkNest RX3 43 yX7_within "DeepShip"]
theorem NW_warm {s U : State} (hW : s.WarmedH U.vm) : ∀ w ∈ NW, va_Nw w s → va_Nw w U := List.forall_mem_cons.mpr ⟨fun h => va_Nw.warmM hW h, List.forall_mem_cons.mpr ⟨fun h => va_Nw.warmF hW h, List.forall_mem_cons.mpr ⟨fun h => va_Nw.warmM hW h, List.forall_mem_cons.mpr ⟨fun h => va_Nw.warmM hW h, List.forall_mem_cons.mpr ⟨fun h => va_Nw.warmM hW h, List.forall_mem_cons.mpr ⟨fun h => va_Nw.warmM hW h, List.forall_mem_cons.mpr ⟨fun h => va_Nw.warmF hW h, List.forall_mem_cons.mpr ⟨fun h => va_Nw.warmF hW h, List.forall_mem_cons.mpr ⟨fun h => va_Nw.warmM hW h, List.forall_mem_cons.mpr ⟨fun h => va_Nw.warmM hW h, List.forall_mem_cons.mpr ⟨fun h => va_Nw.warmM hW h, List.forall_mem_cons.mpr ⟨fun h => va_Nw.warmF hW h, List.forall_mem_cons.mpr ⟨fun h => va_Nw.warmM hW h, List.forall_mem_cons.mpr ⟨fun h => va_Nw.warmM hW h, List.forall_mem_cons.mpr ⟨fun h => va_Nw.warmM hW h, List.forall_mem_cons.mpr ⟨fun h => va_Nw.warmM hW h, List.forall_mem_cons.mpr ⟨fun h => va_Nw.warmM hW h, fun _ h => absurd h List.not_mem_nil⟩⟩⟩⟩⟩⟩⟩⟩⟩⟩⟩⟩⟩⟩⟩⟩⟩
theorem nw_0 : Cond.methodLinkNest RX7 9 yX1_init "DeepShip" ∈ NW := List.mem_of_getElem? (i := 0) rfl
theorem nw_1 : Cond.fieldLinkNest RX2 24 "DeepShip" "PACES" "[I" "DeepShip" ∈ NW := List.mem_of_getElem? (i := 1) rfl
theorem nw_2 : Cond.methodLinkNest RX7 44 yX0_init "DeepShip" ∈ NW := List.mem_of_getElem? (i := 2) rfl
theorem nw_3 : Cond.methodLinkNest RX7 51 yX4_init "DeepShip" ∈ NW := List.mem_of_getElem? (i := 3) rfl
theorem nw_4 : Cond.methodLinkNest RX7 58 yX3_init "DeepShip" ∈ NW := List.mem_of_getElem? (i := 4) rfl
theorem nw_5 : Cond.methodLinkNest RX4 29 yX7_within "DeepShip" ∈ NW := List.mem_of_getElem? (i := 5) rfl
theorem nw_6 : Cond.fieldLinkNest RX4 80 "DeepShip" "LOWEST_MARK" "[I" "DeepShip" ∈ NW := List.mem_of_getElem? (i := 6) rfl
theorem nw_7 : Cond.fieldLinkNest RX4 83 "DeepShip" "HIGHEST_MARK" "[I" "DeepShip" ∈ NW := List.mem_of_getElem? (i := 7) rfl
theorem nw_8 : Cond.methodLinkNest RX6 52 yX7_minutesBy "DeepShip" ∈ NW := List.mem_of_getElem? (i := 8) rfl
theorem nw_9 : Cond.methodLinkNest RX2 70 yX7_within "DeepShip" ∈ NW := List.mem_of_getElem? (i := 9) rfl
theorem nw_10 : Cond.methodLinkNest RX2 74 yX7_putBit "DeepShip" ∈ NW := List.mem_of_getElem? (i := 10) rfl
theorem nw_11 : Cond.fieldLinkNest RX2 134 "DeepShip" "TAKES" "[I" "DeepShip" ∈ NW := List.mem_of_getElem? (i := 11) rfl
theorem nw_12 : Cond.methodLinkNest RX2 113 yX7_firstFrom "DeepShip" ∈ NW := List.mem_of_getElem? (i := 12) rfl
theorem nw_13 : Cond.methodLinkNest RX2 130 yX7_hasBit "DeepShip" ∈ NW := List.mem_of_getElem? (i := 13) rfl
theorem nw_14 : Cond.methodLinkNest RX2 123 yX7_minutesBy "DeepShip" ∈ NW := List.mem_of_getElem? (i := 14) rfl
theorem nw_15 : Cond.methodLinkNest RX0 44 yX7_firstFrom "DeepShip" ∈ NW := List.mem_of_getElem? (i := 15) rfl
theorem nw_16 : Cond.methodLinkNest RX3 43 yX7_within "DeepShip" ∈ NW := List.mem_of_getElem? (i := 16) rfl
theorem tb_1_0 : Cond.initialized RL ∈ TBL := tbl_1 (List.mem_of_getElem? (i := 0) (by decide +kernel)) rfl
theorem tb_1_1 : Cond.initialized RX7 ∈ TBL := tbl_1 (List.mem_of_getElem? (i := 1) (by decide +kernel)) rfl
theorem tb_1_2 : Cond.initialized RX1 ∈ TBL := tbl_1 (List.mem_of_getElem? (i := 2) (by decide +kernel)) rfl
theorem tb_1_3 : Cond.initialized RX5 ∈ TBL := tbl_1 (List.mem_of_getElem? (i := 3) (by decide +kernel)) rfl
theorem tb_1_4 : Cond.initialized RX6 ∈ TBL := tbl_1 (List.mem_of_getElem? (i := 4) (by decide +kernel)) rfl
theorem tb_1_5 : Cond.initialized RX2 ∈ TBL := tbl_1 (List.mem_of_getElem? (i := 5) (by decide +kernel)) rfl
theorem tb_1_6 : Cond.initialized RX0 ∈ TBL := tbl_1 (List.mem_of_getElem? (i := 6) (by decide +kernel)) rfl
theorem tb_1_7 : Cond.initialized RX4 ∈ TBL := tbl_1 (List.mem_of_getElem? (i := 7) (by decide +kernel)) rfl
theorem tb_1_8 : Cond.initialized RX3 ∈ TBL := tbl_1 (List.mem_of_getElem? (i := 8) (by decide +kernel)) rfl
theorem tb_1_9 : Cond.initialized RX8 ∈ TBL := tbl_1 (List.mem_of_getElem? (i := 9) (by decide +kernel)) rfl
theorem tb_1_10 : Cond.initialized RJ9 ∈ TBL := tbl_1 (List.mem_of_getElem? (i := 10) (by decide +kernel)) rfl
theorem tb_1_11 : Cond.initialized RJ10 ∈ TBL := tbl_1 (List.mem_of_getElem? (i := 11) (by decide +kernel)) rfl
theorem tb_1_12 : Cond.initialized RJ13 ∈ TBL := tbl_1 (List.mem_of_getElem? (i := 12) (by decide +kernel)) rfl
theorem tb_1_13 : Cond.initialized RJ6 ∈ TBL := tbl_1 (List.mem_of_getElem? (i := 13) (by decide +kernel)) rfl
theorem tb_1_14 : Cond.classLink RL 7 "DeepShip" ∈ TBL := tbl_1 (List.mem_of_getElem? (i := 14) (by decide +kernel)) rfl
theorem tb_1_15 : Cond.instantiable RX7 10 ∈ TBL := tbl_1 (List.mem_of_getElem? (i := 15) (by decide +kernel)) rfl
theorem tb_1_16 : Cond.methodLink RL 9 yX7_init ∈ TBL := tbl_1 (List.mem_of_getElem? (i := 16) (by decide +kernel)) rfl
theorem tb_1_17 : Cond.instanceMethod yX7_init ∈ TBL := tbl_1 (List.mem_of_getElem? (i := 17) (by decide +kernel)) rfl
theorem tb_1_18 : Cond.code yX7_init prog_1_method_1_code 1 none ∈ TBL := tbl_1 (List.mem_of_getElem? (i := 18) (by rfl)) rfl
theorem tb_1_19 : Cond.methodLink RX7 1 objectInit ∈ TBL := tbl_1 (List.mem_of_getElem? (i := 19) (by decide +kernel)) rfl
theorem tb_1_20 : Cond.instanceMethod objectInit ∈ TBL := tbl_1 (List.mem_of_getElem? (i := 20) (by decide +kernel)) rfl
theorem tb_1_21 : Cond.code objectInit object_method_1_code 1 none ∈ TBL := tbl_1 (List.mem_of_getElem? (i := 21) (by rfl)) rfl
theorem tb_1_22 : Cond.classLink RX7 7 "DeepShip$Port" ∈ TBL := tbl_1 (List.mem_of_getElem? (i := 22) (by decide +kernel)) rfl
theorem tb_1_23 : Cond.instantiable RX1 6 ∈ TBL := tbl_1 (List.mem_of_getElem? (i := 23) (by decide +kernel)) rfl
theorem tb_1_25 : Cond.instanceMethod yX1_init ∈ TBL := tbl_1 (List.mem_of_getElem? (i := 25) (by decide +kernel)) rfl
theorem tb_1_26 : Cond.code yX1_init prog_3_method_1_code 1 none ∈ TBL := tbl_1 (List.mem_of_getElem? (i := 26) (by rfl)) rfl
theorem tb_1_27 : Cond.methodLink RX1 3 objectInit ∈ TBL := tbl_1 (List.mem_of_getElem? (i := 27) (by decide +kernel)) rfl
theorem tb_1_28 : Cond.fieldLink RX1 9 "DeepShip$Port" "miles" "I" ∈ TBL := tbl_1 (List.mem_of_getElem? (i := 28) (by decide +kernel)) rfl
theorem tb_1_29 : Cond.fieldLink RX6 28 "DeepShip$Port" "miles" "I" ∈ TBL := tbl_1 (List.mem_of_getElem? (i := 29) (by decide +kernel)) rfl
theorem tb_1_30 : Cond.fieldLink RX2 78 "DeepShip$Port" "miles" "I" ∈ TBL := tbl_1 (List.mem_of_getElem? (i := 30) (by decide +kernel)) rfl
theorem tb_1_31 : Cond.fieldLink RX7 133 "DeepShip$Port" "miles" "I" ∈ TBL := tbl_1 (List.mem_of_getElem? (i := 31) (by decide +kernel)) rfl
theorem tb_1_32 : Cond.fieldLink RX1 15 "DeepShip$Port" "ships" "I" ∈ TBL := tbl_1 (List.mem_of_getElem? (i := 32) (by decide +kernel)) rfl
theorem tb_1_33 : Cond.fieldLink RX7 137 "DeepShip$Port" "ships" "I" ∈ TBL := tbl_1 (List.mem_of_getElem? (i := 33) (by decide +kernel)) rfl
theorem tb_1_34 : Cond.fieldLink RX1 18 "DeepShip$Port" "heights" "[I" ∈ TBL := tbl_1 (List.mem_of_getElem? (i := 34) (by decide +kernel)) rfl
theorem tb_1_35 : Cond.fieldLink RX2 48 "DeepShip$Port" "heights" "[I" ∈ TBL := tbl_1 (List.mem_of_getElem? (i := 35) (by decide +kernel)) rfl
theorem tb_1_36 : Cond.fieldLink RX7 94 "DeepShip$Port" "heights" "[I" ∈ TBL := tbl_1 (List.mem_of_getElem? (i := 36) (by decide +kernel)) rfl
theorem tb_1_37 : Cond.fieldLink RX1 22 "DeepShip$Port" "settings" "[I" ∈ TBL := tbl_1 (List.mem_of_getElem? (i := 37) (by decide +kernel)) rfl
theorem tb_1_38 : Cond.fieldLink RX5 43 "DeepShip$Port" "settings" "[I" ∈ TBL := tbl_1 (List.mem_of_getElem? (i := 38) (by decide +kernel)) rfl
theorem tb_1_39 : Cond.fieldLink RX2 59 "DeepShip$Port" "settings" "[I" ∈ TBL := tbl_1 (List.mem_of_getElem? (i := 39) (by decide +kernel)) rfl
theorem tb_1_40 : Cond.fieldLink RX7 100 "DeepShip$Port" "settings" "[I" ∈ TBL := tbl_1 (List.mem_of_getElem? (i := 40) (by decide +kernel)) rfl
theorem tb_1_41 : Cond.fieldLink RX1 25 "DeepShip$Port" "marks" "[I" ∈ TBL := tbl_1 (List.mem_of_getElem? (i := 41) (by decide +kernel)) rfl
theorem tb_1_42 : Cond.fieldLink RX1 28 "DeepShip$Port" "hulls" "[I" ∈ TBL := tbl_1 (List.mem_of_getElem? (i := 42) (by decide +kernel)) rfl
theorem tb_1_57 : Cond.classLink RX7 19 "DeepShip$Trial" ∈ TBL := tbl_1 (List.mem_of_getElem? (i := 57) (by decide +kernel)) rfl
theorem tb_1_58 : Cond.instantiable RX5 8 ∈ TBL := tbl_1 (List.mem_of_getElem? (i := 58) (by decide +kernel)) rfl
theorem tb_1_59 : Cond.methodLink RX7 21 yX5_init ∈ TBL := tbl_1 (List.mem_of_getElem? (i := 59) (by decide +kernel)) rfl
theorem tb_1_60 : Cond.instanceMethod yX5_init ∈ TBL := tbl_1 (List.mem_of_getElem? (i := 60) (by decide +kernel)) rfl
theorem tb_1_61 : Cond.code yX5_init prog_7_method_1_code 2 none ∈ TBL := tbl_1 (List.mem_of_getElem? (i := 61) (by rfl)) rfl
theorem tb_1_62 : Cond.methodLink RX5 3 objectInit ∈ TBL := tbl_1 (List.mem_of_getElem? (i := 62) (by decide +kernel)) rfl
theorem tb_1_63 : Cond.fieldLink RX5 33 "DeepShip$Trial" "port" "LDeepShip$Port;" ∈ TBL := tbl_1 (List.mem_of_getElem? (i := 63) (by decide +kernel)) rfl
theorem tb_1_64 : Cond.fieldLink RX5 9 "DeepShip$Trial" "draught" "I" ∈ TBL := tbl_1 (List.mem_of_getElem? (i := 64) (by decide +kernel)) rfl
theorem tb_1_65 : Cond.fieldLink RX5 15 "DeepShip$Trial" "breadth" "I" ∈ TBL := tbl_1 (List.mem_of_getElem? (i := 65) (by decide +kernel)) rfl
theorem tb_1_66 : Cond.fieldLink RX5 18 "DeepShip$Trial" "rule" "I" ∈ TBL := tbl_1 (List.mem_of_getElem? (i := 66) (by decide +kernel)) rfl
theorem tb_1_67 : Cond.fieldLink RX5 21 "DeepShip$Trial" "leastUnder" "I" ∈ TBL := tbl_1 (List.mem_of_getElem? (i := 67) (by decide +kernel)) rfl
theorem tb_1_68 : Cond.fieldLink RX5 24 "DeepShip$Trial" "wind" "I" ∈ TBL := tbl_1 (List.mem_of_getElem? (i := 68) (by decide +kernel)) rfl
theorem tb_1_69 : Cond.fieldLink RX7 279 "DeepShip$Trial" "wind" "I" ∈ TBL := tbl_1 (List.mem_of_getElem? (i := 69) (by decide +kernel)) rfl
theorem tb_1_70 : Cond.fieldLink RX5 27 "DeepShip$Trial" "needed" "I" ∈ TBL := tbl_1 (List.mem_of_getElem? (i := 70) (by decide +kernel)) rfl
theorem tb_1_71 : Cond.fieldLink RX2 85 "DeepShip$Trial" "needed" "I" ∈ TBL := tbl_1 (List.mem_of_getElem? (i := 71) (by decide +kernel)) rfl
theorem tb_1_72 : Cond.fieldLink RX7 171 "DeepShip$Trial" "needed" "I" ∈ TBL := tbl_1 (List.mem_of_getElem? (i := 72) (by decide +kernel)) rfl
theorem tb_1_73 : Cond.fieldLink RX5 30 "DeepShip$Trial" "dug" "I" ∈ TBL := tbl_1 (List.mem_of_getElem? (i := 73) (by decide +kernel)) rfl
theorem tb_1_74 : Cond.fieldLink RX7 269 "DeepShip$Trial" "dug" "I" ∈ TBL := tbl_1 (List.mem_of_getElem? (i := 74) (by decide +kernel)) rfl
theorem tb_1_92 : Cond.classLink RX7 28 "DeepShip$Voyage" ∈ TBL := tbl_1 (List.mem_of_getElem? (i := 92) (by decide +kernel)) rfl
theorem tb_1_93 : Cond.instantiable RX6 4 ∈ TBL := tbl_1 (List.mem_of_getElem? (i := 93) (by decide +kernel)) rfl
theorem tb_1_94 : Cond.methodLink RX7 30 yX6_init ∈ TBL := tbl_1 (List.mem_of_getElem? (i := 94) (by decide +kernel)) rfl
theorem tb_1_95 : Cond.instanceMethod yX6_init ∈ TBL := tbl_1 (List.mem_of_getElem? (i := 95) (by decide +kernel)) rfl
theorem tb_1_96 : Cond.code yX6_init prog_8_method_1_code 2 none ∈ TBL := tbl_1 (List.mem_of_getElem? (i := 96) (by rfl)) rfl
theorem tb_1_97 : Cond.methodLink RX6 3 objectInit ∈ TBL := tbl_1 (List.mem_of_getElem? (i := 97) (by decide +kernel)) rfl
theorem tb_1_98 : Cond.fieldLink RX6 21 "DeepShip$Voyage" "port" "LDeepShip$Port;" ∈ TBL := tbl_1 (List.mem_of_getElem? (i := 98) (by decide +kernel)) rfl
theorem tb_1_99 : Cond.fieldLink RX6 9 "DeepShip$Voyage" "touches" "I" ∈ TBL := tbl_1 (List.mem_of_getElem? (i := 99) (by decide +kernel)) rfl
theorem tb_1_100 : Cond.fieldLink RX7 181 "DeepShip$Voyage" "touches" "I" ∈ TBL := tbl_1 (List.mem_of_getElem? (i := 100) (by decide +kernel)) rfl
theorem tb_1_101 : Cond.fieldLink RX6 15 "DeepShip$Voyage" "minutes" "I" ∈ TBL := tbl_1 (List.mem_of_getElem? (i := 101) (by decide +kernel)) rfl
theorem tb_1_102 : Cond.fieldLink RX7 184 "DeepShip$Voyage" "minutes" "I" ∈ TBL := tbl_1 (List.mem_of_getElem? (i := 102) (by decide +kernel)) rfl
theorem tb_1_103 : Cond.fieldLink RX6 18 "DeepShip$Voyage" "lowest" "I" ∈ TBL := tbl_1 (List.mem_of_getElem? (i := 103) (by decide +kernel)) rfl
theorem tb_1_104 : Cond.fieldLink RX7 187 "DeepShip$Voyage" "lowest" "I" ∈ TBL := tbl_1 (List.mem_of_getElem? (i := 104) (by decide +kernel)) rfl
theorem tb_1_114 : Cond.classLink RX7 35 "DeepShip$Search" ∈ TBL := tbl_1 (List.mem_of_getElem? (i := 114) (by decide +kernel)) rfl
theorem tb_1_115 : Cond.instantiable RX2 6 ∈ TBL := tbl_1 (List.mem_of_getElem? (i := 115) (by decide +kernel)) rfl
theorem tb_1_116 : Cond.methodLink RX7 37 yX2_init ∈ TBL := tbl_1 (List.mem_of_getElem? (i := 116) (by decide +kernel)) rfl
theorem tb_1_117 : Cond.instanceMethod yX2_init ∈ TBL := tbl_1 (List.mem_of_getElem? (i := 117) (by decide +kernel)) rfl
theorem tb_1_118 : Cond.code yX2_init prog_4_method_1_code 2 none ∈ TBL := tbl_1 (List.mem_of_getElem? (i := 118) (by rfl)) rfl
theorem tb_1_119 : Cond.methodLink RX2 3 objectInit ∈ TBL := tbl_1 (List.mem_of_getElem? (i := 119) (by decide +kernel)) rfl
theorem tb_1_120 : Cond.classLink RX2 19 "[[J" ∈ TBL := tbl_1 (List.mem_of_getElem? (i := 120) (by decide +kernel)) rfl
theorem tb_1_124 : Cond.fieldLink RX2 33 "DeepShip$Search" "port" "LDeepShip$Port;" ∈ TBL := tbl_1 (List.mem_of_getElem? (i := 124) (by decide +kernel)) rfl
theorem tb_1_125 : Cond.fieldLink RX2 9 "DeepShip$Search" "laid" "[I" ∈ TBL := tbl_1 (List.mem_of_getElem? (i := 125) (by decide +kernel)) rfl
theorem tb_1_126 : Cond.fieldLink RX2 15 "DeepShip$Search" "laidLate" "I" ∈ TBL := tbl_1 (List.mem_of_getElem? (i := 126) (by decide +kernel)) rfl
theorem tb_1_127 : Cond.fieldLink RX2 21 "DeepShip$Search" "flood" "[[J" ∈ TBL := tbl_1 (List.mem_of_getElem? (i := 127) (by decide +kernel)) rfl
theorem tb_1_128 : Cond.fieldLink RX2 27 "DeepShip$Search" "enough" "[I" ∈ TBL := tbl_1 (List.mem_of_getElem? (i := 128) (by decide +kernel)) rfl
theorem tb_1_129 : Cond.fieldLink RX2 30 "DeepShip$Search" "rows" "[[J" ∈ TBL := tbl_1 (List.mem_of_getElem? (i := 129) (by decide +kernel)) rfl
theorem tb_1_144 : Cond.classLink RX7 42 "DeepShip$Day" ∈ TBL := tbl_1 (List.mem_of_getElem? (i := 144) (by decide +kernel)) rfl
theorem tb_1_145 : Cond.instantiable RX0 6 ∈ TBL := tbl_1 (List.mem_of_getElem? (i := 145) (by decide +kernel)) rfl
theorem tb_1_147 : Cond.instanceMethod yX0_init ∈ TBL := tbl_1 (List.mem_of_getElem? (i := 147) (by decide +kernel)) rfl
theorem tb_1_148 : Cond.code yX0_init prog_2_method_1_code 1 none ∈ TBL := tbl_1 (List.mem_of_getElem? (i := 148) (by rfl)) rfl
theorem tb_1_149 : Cond.methodLink RX0 3 objectInit ∈ TBL := tbl_1 (List.mem_of_getElem? (i := 149) (by decide +kernel)) rfl
theorem tb_1_150 : Cond.classLink RX0 9 "[[J" ∈ TBL := tbl_1 (List.mem_of_getElem? (i := 150) (by decide +kernel)) rfl
theorem tb_1_151 : Cond.fieldLink RX0 11 "DeepShip$Day" "starts" "[[J" ∈ TBL := tbl_1 (List.mem_of_getElem? (i := 151) (by decide +kernel)) rfl
theorem tb_1_152 : Cond.fieldLink RX0 16 "DeepShip$Day" "trying" "[I" ∈ TBL := tbl_1 (List.mem_of_getElem? (i := 152) (by decide +kernel)) rfl
theorem tb_1_153 : Cond.fieldLink RX0 20 "DeepShip$Day" "best" "[I" ∈ TBL := tbl_1 (List.mem_of_getElem? (i := 153) (by decide +kernel)) rfl
theorem tb_1_154 : Cond.fieldLink RX0 23 "DeepShip$Day" "many" "I" ∈ TBL := tbl_1 (List.mem_of_getElem? (i := 154) (by decide +kernel)) rfl
theorem tb_1_155 : Cond.fieldLink RX0 27 "DeepShip$Day" "leastSum" "I" ∈ TBL := tbl_1 (List.mem_of_getElem? (i := 155) (by decide +kernel)) rfl
theorem tb_1_156 : Cond.fieldLink RX0 30 "DeepShip$Day" "gap" "I" ∈ TBL := tbl_1 (List.mem_of_getElem? (i := 156) (by decide +kernel)) rfl
theorem tb_1_170 : Cond.classLink RX7 49 "DeepShip$Tape" ∈ TBL := tbl_1 (List.mem_of_getElem? (i := 170) (by decide +kernel)) rfl
theorem tb_1_171 : Cond.instantiable RX4 5 ∈ TBL := tbl_1 (List.mem_of_getElem? (i := 171) (by decide +kernel)) rfl
theorem tb_1_173 : Cond.instanceMethod yX4_init ∈ TBL := tbl_1 (List.mem_of_getElem? (i := 173) (by decide +kernel)) rfl
theorem tb_1_174 : Cond.code yX4_init prog_6_method_1_code 1 none ∈ TBL := tbl_1 (List.mem_of_getElem? (i := 174) (by rfl)) rfl
theorem tb_1_175 : Cond.methodLink RX4 3 objectInit ∈ TBL := tbl_1 (List.mem_of_getElem? (i := 175) (by decide +kernel)) rfl
theorem tb_1_176 : Cond.fieldLink RX4 9 "DeepShip$Tape" "found" "[I" ∈ TBL := tbl_1 (List.mem_of_getElem? (i := 176) (by decide +kernel)) rfl
theorem tb_1_177 : Cond.fieldLink RX7 117 "DeepShip$Tape" "found" "[I" ∈ TBL := tbl_1 (List.mem_of_getElem? (i := 177) (by decide +kernel)) rfl
theorem tb_1_178 : Cond.fieldLink RX4 15 "DeepShip$Tape" "signs" "[B" ∈ TBL := tbl_1 (List.mem_of_getElem? (i := 178) (by decide +kernel)) rfl
theorem tb_1_179 : Cond.fieldLink RX4 19 "DeepShip$Tape" "size" "I" ∈ TBL := tbl_1 (List.mem_of_getElem? (i := 179) (by decide +kernel)) rfl
theorem tb_1_180 : Cond.fieldLink RX4 23 "DeepShip$Tape" "at" "I" ∈ TBL := tbl_1 (List.mem_of_getElem? (i := 180) (by decide +kernel)) rfl
theorem tb_1_181 : Cond.fieldLink RX4 26 "DeepShip$Tape" "fault" "I" ∈ TBL := tbl_1 (List.mem_of_getElem? (i := 181) (by decide +kernel)) rfl
theorem tb_1_194 : Cond.classLink RX7 56 "DeepShip$Sheets" ∈ TBL := tbl_1 (List.mem_of_getElem? (i := 194) (by decide +kernel)) rfl
theorem tb_1_195 : Cond.instantiable RX3 3 ∈ TBL := tbl_1 (List.mem_of_getElem? (i := 195) (by decide +kernel)) rfl
theorem tb_1_197 : Cond.instanceMethod yX3_init ∈ TBL := tbl_1 (List.mem_of_getElem? (i := 197) (by decide +kernel)) rfl
theorem tb_1_198 : Cond.code yX3_init prog_5_method_1_code 1 none ∈ TBL := tbl_1 (List.mem_of_getElem? (i := 198) (by rfl)) rfl
theorem tb_1_199 : Cond.methodLink RX3 3 objectInit ∈ TBL := tbl_1 (List.mem_of_getElem? (i := 199) (by decide +kernel)) rfl
theorem tb_1_200 : Cond.classLink RX3 11 "[[I" ∈ TBL := tbl_1 (List.mem_of_getElem? (i := 200) (by decide +kernel)) rfl
theorem tb_1_202 : Cond.fieldLink RX3 13 "DeepShip$Sheets" "items" "[[I" ∈ TBL := tbl_1 (List.mem_of_getElem? (i := 202) (by decide +kernel)) rfl
theorem tb_1_203 : Cond.fieldLink RX3 16 "DeepShip$Sheets" "lanes" "[I" ∈ TBL := tbl_1 (List.mem_of_getElem? (i := 203) (by decide +kernel)) rfl
theorem tb_1_204 : Cond.fieldLink RX3 20 "DeepShip$Sheets" "sizes" "[I" ∈ TBL := tbl_1 (List.mem_of_getElem? (i := 204) (by decide +kernel)) rfl
theorem tb_1_212 : Cond.fieldLink RX7 10 "DeepShip" "port" "LDeepShip$Port;" ∈ TBL := tbl_1 (List.mem_of_getElem? (i := 212) (by decide +kernel)) rfl
theorem tb_1_213 : Cond.fieldLink RX7 16 "DeepShip" "kept" "LDeepShip$Port;" ∈ TBL := tbl_1 (List.mem_of_getElem? (i := 213) (by decide +kernel)) rfl
theorem tb_1_214 : Cond.fieldLink RX7 24 "DeepShip" "trial" "LDeepShip$Trial;" ∈ TBL := tbl_1 (List.mem_of_getElem? (i := 214) (by decide +kernel)) rfl
theorem tb_1_215 : Cond.fieldLink RX7 31 "DeepShip" "voyage" "LDeepShip$Voyage;" ∈ TBL := tbl_1 (List.mem_of_getElem? (i := 215) (by decide +kernel)) rfl
theorem tb_1_216 : Cond.fieldLink RX7 38 "DeepShip" "search" "LDeepShip$Search;" ∈ TBL := tbl_1 (List.mem_of_getElem? (i := 216) (by decide +kernel)) rfl
theorem tb_1_217 : Cond.fieldLink RX7 45 "DeepShip" "order" "LDeepShip$Day;" ∈ TBL := tbl_1 (List.mem_of_getElem? (i := 217) (by decide +kernel)) rfl
theorem tb_1_218 : Cond.fieldLink RX7 52 "DeepShip" "tape" "LDeepShip$Tape;" ∈ TBL := tbl_1 (List.mem_of_getElem? (i := 218) (by decide +kernel)) rfl
theorem tb_1_219 : Cond.fieldLink RX7 59 "DeepShip" "sheets" "LDeepShip$Sheets;" ∈ TBL := tbl_1 (List.mem_of_getElem? (i := 219) (by decide +kernel)) rfl
theorem tb_1_220 : Cond.fieldLink RX7 63 "DeepShip" "off" "[I" ∈ TBL := tbl_1 (List.mem_of_getElem? (i := 220) (by decide +kernel)) rfl
theorem tb_1_221 : Cond.fieldLink RX7 67 "DeepShip" "imaged" "Z" ∈ TBL := tbl_1 (List.mem_of_getElem? (i := 221) (by decide +kernel)) rfl
theorem tb_2_3 : Cond.methodLink RL 13 yX7_mile ∈ TBL := tbl_2 (List.mem_of_getElem? (i := 3) (by decide +kernel)) rfl
theorem tb_2_4 : Cond.instanceMethod yX7_mile ∈ TBL := tbl_2 (List.mem_of_getElem? (i := 4) (by decide +kernel)) rfl
theorem tb_2_5 : Cond.selects RX7 yX7_mile yX7_mile ∈ TBL := tbl_2 (List.mem_of_getElem? (i := 5) (by decide +kernel)) rfl
theorem tb_2_6 : Cond.code yX7_mile prog_1_method_2_code 3 (some FieldType.int) ∈ TBL := tbl_2 (List.mem_of_getElem? (i := 6) (by rfl)) rfl
theorem tb_2_7 : Cond.methodLink RX7 71 yX7_isMark ∈ TBL := tbl_2 (List.mem_of_getElem? (i := 7) (by decide +kernel)) rfl
theorem tb_2_8 : Cond.static yX7_isMark ∈ TBL := tbl_2 (List.mem_of_getElem? (i := 8) (by decide +kernel)) rfl
theorem tb_2_9 : Cond.code yX7_isMark prog_1_method_40_code 2 (some FieldType.boolean) ∈ TBL := tbl_2 (List.mem_of_getElem? (i := 9) (by rfl)) rfl
theorem tb_2_10 : Cond.fieldLink RX7 307 "DeepShip" "LOWEST_MARK" "[I" ∈ TBL := tbl_2 (List.mem_of_getElem? (i := 10) (by decide +kernel)) rfl
theorem tb_2_12 : Cond.fieldLink RX7 266 "DeepShip" "HIGHEST_MARK" "[I" ∈ TBL := tbl_2 (List.mem_of_getElem? (i := 12) (by decide +kernel)) rfl
theorem tb_2_14 : Cond.methodLink RX7 83 yX7_within ∈ TBL := tbl_2 (List.mem_of_getElem? (i := 14) (by decide +kernel)) rfl
theorem tb_2_15 : Cond.static yX7_within ∈ TBL := tbl_2 (List.mem_of_getElem? (i := 15) (by decide +kernel)) rfl
theorem tb_2_16 : Cond.code yX7_within prog_1_method_39_code 3 (some FieldType.boolean) ∈ TBL := tbl_2 (List.mem_of_getElem? (i := 16) (by rfl)) rfl
theorem tb_2_17 : Cond.methodLink RX7 75 yX1_addMile ∈ TBL := tbl_2 (List.mem_of_getElem? (i := 17) (by decide +kernel)) rfl
theorem tb_2_18 : Cond.instanceMethod yX1_addMile ∈ TBL := tbl_2 (List.mem_of_getElem? (i := 18) (by decide +kernel)) rfl
theorem tb_2_19 : Cond.selects RX1 yX1_addMile yX1_addMile ∈ TBL := tbl_2 (List.mem_of_getElem? (i := 19) (by decide +kernel)) rfl
theorem tb_2_20 : Cond.code yX1_addMile prog_3_method_8_code 3 (some FieldType.int) ∈ TBL := tbl_2 (List.mem_of_getElem? (i := 20) (by rfl)) rfl
theorem tb_2_21 : Cond.methodLink RX1 41 yX1_mark ∈ TBL := tbl_2 (List.mem_of_getElem? (i := 21) (by decide +kernel)) rfl
theorem tb_2_22 : Cond.instanceMethod yX1_mark ∈ TBL := tbl_2 (List.mem_of_getElem? (i := 22) (by decide +kernel)) rfl
theorem tb_2_23 : Cond.selects RX1 yX1_mark yX1_mark ∈ TBL := tbl_2 (List.mem_of_getElem? (i := 23) (by decide +kernel)) rfl
theorem tb_2_24 : Cond.code yX1_mark prog_3_method_6_code 5 (some FieldType.int) ∈ TBL := tbl_2 (List.mem_of_getElem? (i := 24) (by rfl)) rfl
theorem tb_2_25 : Cond.methodLink RX1 37 yX1_markOf ∈ TBL := tbl_2 (List.mem_of_getElem? (i := 25) (by decide +kernel)) rfl
theorem tb_2_26 : Cond.instanceMethod yX1_markOf ∈ TBL := tbl_2 (List.mem_of_getElem? (i := 26) (by decide +kernel)) rfl
theorem tb_2_27 : Cond.selects RX1 yX1_markOf yX1_markOf ∈ TBL := tbl_2 (List.mem_of_getElem? (i := 27) (by decide +kernel)) rfl
theorem tb_2_28 : Cond.code yX1_markOf prog_3_method_5_code 3 (some FieldType.int) ∈ TBL := tbl_2 (List.mem_of_getElem? (i := 28) (by rfl)) rfl
theorem tb_2_29 : Cond.methodLink RL 18 yX7_make ∈ TBL := tbl_2 (List.mem_of_getElem? (i := 29) (by decide +kernel)) rfl
theorem tb_2_30 : Cond.instanceMethod yX7_make ∈ TBL := tbl_2 (List.mem_of_getElem? (i := 30) (by decide +kernel)) rfl
theorem tb_2_31 : Cond.selects RX7 yX7_make yX7_make ∈ TBL := tbl_2 (List.mem_of_getElem? (i := 31) (by decide +kernel)) rfl
theorem tb_2_32 : Cond.code yX7_make prog_1_method_3_code 4 (some FieldType.int) ∈ TBL := tbl_2 (List.mem_of_getElem? (i := 32) (by rfl)) rfl
theorem tb_2_33 : Cond.methodLink RX7 79 yX1_hasMile ∈ TBL := tbl_2 (List.mem_of_getElem? (i := 33) (by decide +kernel)) rfl
theorem tb_2_34 : Cond.instanceMethod yX1_hasMile ∈ TBL := tbl_2 (List.mem_of_getElem? (i := 34) (by decide +kernel)) rfl
theorem tb_2_35 : Cond.selects RX1 yX1_hasMile yX1_hasMile ∈ TBL := tbl_2 (List.mem_of_getElem? (i := 35) (by decide +kernel)) rfl
theorem tb_2_36 : Cond.code yX1_hasMile prog_3_method_3_code 2 (some FieldType.boolean) ∈ TBL := tbl_2 (List.mem_of_getElem? (i := 36) (by rfl)) rfl
theorem tb_2_37 : Cond.methodLink RX7 87 yX1_mark ∈ TBL := tbl_2 (List.mem_of_getElem? (i := 37) (by decide +kernel)) rfl
theorem tb_2_38 : Cond.methodLink RL 23 yX7_told ∈ TBL := tbl_2 (List.mem_of_getElem? (i := 38) (by decide +kernel)) rfl
theorem tb_2_39 : Cond.instanceMethod yX7_told ∈ TBL := tbl_2 (List.mem_of_getElem? (i := 39) (by decide +kernel)) rfl
theorem tb_2_40 : Cond.selects RX7 yX7_told yX7_told ∈ TBL := tbl_2 (List.mem_of_getElem? (i := 40) (by decide +kernel)) rfl
theorem tb_2_41 : Cond.code yX7_told prog_1_method_4_code 3 (some FieldType.int) ∈ TBL := tbl_2 (List.mem_of_getElem? (i := 41) (by rfl)) rfl
theorem tb_2_42 : Cond.methodLink RX7 91 yX1_markOf ∈ TBL := tbl_2 (List.mem_of_getElem? (i := 42) (by decide +kernel)) rfl
theorem tb_2_43 : Cond.methodLink RL 27 yX7_height ∈ TBL := tbl_2 (List.mem_of_getElem? (i := 43) (by decide +kernel)) rfl
theorem tb_2_44 : Cond.instanceMethod yX7_height ∈ TBL := tbl_2 (List.mem_of_getElem? (i := 44) (by decide +kernel)) rfl
theorem tb_2_45 : Cond.selects RX7 yX7_height yX7_height ∈ TBL := tbl_2 (List.mem_of_getElem? (i := 45) (by decide +kernel)) rfl
theorem tb_2_46 : Cond.code yX7_height prog_1_method_5_code 4 (some FieldType.int) ∈ TBL := tbl_2 (List.mem_of_getElem? (i := 46) (by rfl)) rfl
theorem tb_2_47 : Cond.methodLink RL 31 yX7_set ∈ TBL := tbl_2 (List.mem_of_getElem? (i := 47) (by decide +kernel)) rfl
theorem tb_2_48 : Cond.instanceMethod yX7_set ∈ TBL := tbl_2 (List.mem_of_getElem? (i := 48) (by decide +kernel)) rfl
theorem tb_2_49 : Cond.selects RX7 yX7_set yX7_set ∈ TBL := tbl_2 (List.mem_of_getElem? (i := 49) (by decide +kernel)) rfl
theorem tb_2_50 : Cond.code yX7_set prog_1_method_6_code 4 (some FieldType.int) ∈ TBL := tbl_2 (List.mem_of_getElem? (i := 50) (by rfl)) rfl
theorem tb_2_51 : Cond.fieldLink RX7 97 "DeepShip" "HIGHEST_SETTING" "[I" ∈ TBL := tbl_2 (List.mem_of_getElem? (i := 51) (by decide +kernel)) rfl
theorem tb_2_53 : Cond.methodLink RL 35 yX7_ship ∈ TBL := tbl_2 (List.mem_of_getElem? (i := 53) (by decide +kernel)) rfl
theorem tb_2_54 : Cond.instanceMethod yX7_ship ∈ TBL := tbl_2 (List.mem_of_getElem? (i := 54) (by decide +kernel)) rfl
theorem tb_2_55 : Cond.selects RX7 yX7_ship yX7_ship ∈ TBL := tbl_2 (List.mem_of_getElem? (i := 55) (by decide +kernel)) rfl
theorem tb_2_56 : Cond.code yX7_ship prog_1_method_7_code 4 (some FieldType.int) ∈ TBL := tbl_2 (List.mem_of_getElem? (i := 56) (by rfl)) rfl
theorem tb_2_57 : Cond.methodLink RX7 103 yX1_addShip ∈ TBL := tbl_2 (List.mem_of_getElem? (i := 57) (by decide +kernel)) rfl
theorem tb_2_58 : Cond.instanceMethod yX1_addShip ∈ TBL := tbl_2 (List.mem_of_getElem? (i := 58) (by decide +kernel)) rfl
theorem tb_2_59 : Cond.selects RX1 yX1_addShip yX1_addShip ∈ TBL := tbl_2 (List.mem_of_getElem? (i := 59) (by decide +kernel)) rfl
theorem tb_2_60 : Cond.code yX1_addShip prog_3_method_10_code 4 (some FieldType.int) ∈ TBL := tbl_2 (List.mem_of_getElem? (i := 60) (by rfl)) rfl
theorem tb_2_61 : Cond.methodLink RL 39 yX7_pace ∈ TBL := tbl_2 (List.mem_of_getElem? (i := 61) (by decide +kernel)) rfl
theorem tb_2_62 : Cond.instanceMethod yX7_pace ∈ TBL := tbl_2 (List.mem_of_getElem? (i := 62) (by decide +kernel)) rfl
theorem tb_2_63 : Cond.selects RX7 yX7_pace yX7_pace ∈ TBL := tbl_2 (List.mem_of_getElem? (i := 63) (by decide +kernel)) rfl
theorem tb_2_64 : Cond.code yX7_pace prog_1_method_8_code 3 (some FieldType.int) ∈ TBL := tbl_2 (List.mem_of_getElem? (i := 64) (by rfl)) rfl
theorem tb_2_65 : Cond.methodLink RX7 106 yX7_isPace ∈ TBL := tbl_2 (List.mem_of_getElem? (i := 65) (by decide +kernel)) rfl
theorem tb_2_66 : Cond.static yX7_isPace ∈ TBL := tbl_2 (List.mem_of_getElem? (i := 66) (by decide +kernel)) rfl
theorem tb_2_67 : Cond.code yX7_isPace prog_1_method_41_code 1 (some FieldType.boolean) ∈ TBL := tbl_2 (List.mem_of_getElem? (i := 67) (by rfl)) rfl
theorem tb_2_68 : Cond.methodLink RL 45 yX7_type ∈ TBL := tbl_2 (List.mem_of_getElem? (i := 68) (by decide +kernel)) rfl
theorem tb_2_69 : Cond.instanceMethod yX7_type ∈ TBL := tbl_2 (List.mem_of_getElem? (i := 69) (by decide +kernel)) rfl
theorem tb_2_70 : Cond.selects RX7 yX7_type yX7_type ∈ TBL := tbl_2 (List.mem_of_getElem? (i := 70) (by decide +kernel)) rfl
theorem tb_2_71 : Cond.code yX7_type prog_1_method_9_code 4 (some FieldType.int) ∈ TBL := tbl_2 (List.mem_of_getElem? (i := 71) (by rfl)) rfl
theorem tb_2_72 : Cond.methodLink RX7 109 yX4_append ∈ TBL := tbl_2 (List.mem_of_getElem? (i := 72) (by decide +kernel)) rfl
theorem tb_2_73 : Cond.instanceMethod yX4_append ∈ TBL := tbl_2 (List.mem_of_getElem? (i := 73) (by decide +kernel)) rfl
theorem tb_2_74 : Cond.selects RX4 yX4_append yX4_append ∈ TBL := tbl_2 (List.mem_of_getElem? (i := 74) (by decide +kernel)) rfl
theorem tb_2_75 : Cond.code yX4_append prog_6_method_2_code 5 (some FieldType.int) ∈ TBL := tbl_2 (List.mem_of_getElem? (i := 75) (by rfl)) rfl
theorem tb_2_77 : Cond.constantLong RX4 33 (255 : Int64) ∈ TBL := tbl_2 (List.mem_of_getElem? (i := 77) (by decide +kernel)) rfl
theorem tb_2_78 : Cond.methodLink RL 50 yX7_channel ∈ TBL := tbl_2 (List.mem_of_getElem? (i := 78) (by decide +kernel)) rfl
theorem tb_2_79 : Cond.instanceMethod yX7_channel ∈ TBL := tbl_2 (List.mem_of_getElem? (i := 79) (by decide +kernel)) rfl
theorem tb_2_80 : Cond.selects RX7 yX7_channel yX7_channel ∈ TBL := tbl_2 (List.mem_of_getElem? (i := 80) (by decide +kernel)) rfl
theorem tb_2_81 : Cond.code yX7_channel prog_1_method_10_code 2 (some FieldType.int) ∈ TBL := tbl_2 (List.mem_of_getElem? (i := 81) (by rfl)) rfl
theorem tb_2_82 : Cond.methodLink RX7 113 yX4_readChannel ∈ TBL := tbl_2 (List.mem_of_getElem? (i := 82) (by decide +kernel)) rfl
theorem tb_2_83 : Cond.instanceMethod yX4_readChannel ∈ TBL := tbl_2 (List.mem_of_getElem? (i := 83) (by decide +kernel)) rfl
theorem tb_2_84 : Cond.selects RX4 yX4_readChannel yX4_readChannel ∈ TBL := tbl_2 (List.mem_of_getElem? (i := 84) (by decide +kernel)) rfl
theorem tb_2_85 : Cond.code yX4_readChannel prog_6_method_3_code 2 (some FieldType.int) ∈ TBL := tbl_2 (List.mem_of_getElem? (i := 85) (by rfl)) rfl
theorem tb_2_86 : Cond.methodLink RX4 35 yX4_rewind ∈ TBL := tbl_2 (List.mem_of_getElem? (i := 86) (by decide +kernel)) rfl
theorem tb_2_88 : Cond.instanceMethod yX4_rewind ∈ TBL := tbl_2 (List.mem_of_getElem? (i := 88) (by decide +kernel)) rfl
theorem tb_2_89 : Cond.code yX4_rewind prog_6_method_6_code 1 none ∈ TBL := tbl_2 (List.mem_of_getElem? (i := 89) (by rfl)) rfl
theorem tb_2_90 : Cond.methodLink RX4 38 yX4_readMile ∈ TBL := tbl_2 (List.mem_of_getElem? (i := 90) (by decide +kernel)) rfl
theorem tb_2_92 : Cond.instanceMethod yX4_readMile ∈ TBL := tbl_2 (List.mem_of_getElem? (i := 92) (by decide +kernel)) rfl
theorem tb_2_93 : Cond.code yX4_readMile prog_6_method_5_code 2 none ∈ TBL := tbl_2 (List.mem_of_getElem? (i := 93) (by rfl)) rfl
theorem tb_2_94 : Cond.methodLink RX4 63 yX4_mark ∈ TBL := tbl_2 (List.mem_of_getElem? (i := 94) (by decide +kernel)) rfl
theorem tb_2_96 : Cond.instanceMethod yX4_mark ∈ TBL := tbl_2 (List.mem_of_getElem? (i := 96) (by decide +kernel)) rfl
theorem tb_2_97 : Cond.code yX4_mark prog_6_method_14_code 2 (some FieldType.int) ∈ TBL := tbl_2 (List.mem_of_getElem? (i := 97) (by rfl)) rfl
theorem tb_2_100 : Cond.methodLink RX4 54 yX4_number ∈ TBL := tbl_2 (List.mem_of_getElem? (i := 100) (by decide +kernel)) rfl
theorem tb_2_102 : Cond.instanceMethod yX4_number ∈ TBL := tbl_2 (List.mem_of_getElem? (i := 102) (by decide +kernel)) rfl
theorem tb_2_103 : Cond.code yX4_number prog_6_method_15_code 5 (some FieldType.int) ∈ TBL := tbl_2 (List.mem_of_getElem? (i := 103) (by rfl)) rfl
theorem tb_2_104 : Cond.methodLink RX4 70 yX4_skipBlanks ∈ TBL := tbl_2 (List.mem_of_getElem? (i := 104) (by decide +kernel)) rfl
theorem tb_2_106 : Cond.instanceMethod yX4_skipBlanks ∈ TBL := tbl_2 (List.mem_of_getElem? (i := 106) (by decide +kernel)) rfl
theorem tb_2_107 : Cond.code yX4_skipBlanks prog_6_method_9_code 1 none ∈ TBL := tbl_2 (List.mem_of_getElem? (i := 107) (by rfl)) rfl
theorem tb_2_108 : Cond.methodLink RX4 76 yX4_isDigit ∈ TBL := tbl_2 (List.mem_of_getElem? (i := 108) (by decide +kernel)) rfl
theorem tb_2_109 : Cond.static yX4_isDigit ∈ TBL := tbl_2 (List.mem_of_getElem? (i := 109) (by decide +kernel)) rfl
theorem tb_2_110 : Cond.code yX4_isDigit prog_6_method_12_code 1 (some FieldType.boolean) ∈ TBL := tbl_2 (List.mem_of_getElem? (i := 110) (by rfl)) rfl
theorem tb_2_111 : Cond.methodLink RX4 86 yJ9_min_7cf53 ∈ TBL := tbl_2 (List.mem_of_getElem? (i := 111) (by decide +kernel)) rfl
theorem tb_2_112 : Cond.static yJ9_min_7cf53 ∈ TBL := tbl_2 (List.mem_of_getElem? (i := 112) (by decide +kernel)) rfl
theorem tb_2_113 : Cond.code yJ9_min_7cf53 prog_13_method_69_code 2 (some FieldType.int) ∈ TBL := tbl_2 (List.mem_of_getElem? (i := 113) (by rfl)) rfl
theorem tb_2_114 : Cond.methodLink RX4 73 yX4_fail ∈ TBL := tbl_2 (List.mem_of_getElem? (i := 114) (by decide +kernel)) rfl
theorem tb_2_116 : Cond.instanceMethod yX4_fail ∈ TBL := tbl_2 (List.mem_of_getElem? (i := 116) (by decide +kernel)) rfl
theorem tb_2_117 : Cond.code yX4_fail prog_6_method_8_code 2 none ∈ TBL := tbl_2 (List.mem_of_getElem? (i := 117) (by rfl)) rfl
theorem tb_2_118 : Cond.methodLink RX4 50 yX4_expect ∈ TBL := tbl_2 (List.mem_of_getElem? (i := 118) (by decide +kernel)) rfl
theorem tb_2_120 : Cond.instanceMethod yX4_expect ∈ TBL := tbl_2 (List.mem_of_getElem? (i := 120) (by decide +kernel)) rfl
theorem tb_2_121 : Cond.code yX4_expect prog_6_method_11_code 2 none ∈ TBL := tbl_2 (List.mem_of_getElem? (i := 121) (by rfl)) rfl
theorem tb_2_122 : Cond.methodLink RX4 42 yX4_takes ∈ TBL := tbl_2 (List.mem_of_getElem? (i := 122) (by decide +kernel)) rfl
theorem tb_2_124 : Cond.instanceMethod yX4_takes ∈ TBL := tbl_2 (List.mem_of_getElem? (i := 124) (by decide +kernel)) rfl
theorem tb_2_125 : Cond.code yX4_takes prog_6_method_10_code 2 (some FieldType.boolean) ∈ TBL := tbl_2 (List.mem_of_getElem? (i := 125) (by rfl)) rfl
theorem tb_2_126 : Cond.methodLink RX4 66 yX4_digit ∈ TBL := tbl_2 (List.mem_of_getElem? (i := 126) (by decide +kernel)) rfl
theorem tb_2_128 : Cond.instanceMethod yX4_digit ∈ TBL := tbl_2 (List.mem_of_getElem? (i := 128) (by decide +kernel)) rfl
theorem tb_2_129 : Cond.code yX4_digit prog_6_method_13_code 1 (some FieldType.int) ∈ TBL := tbl_2 (List.mem_of_getElem? (i := 129) (by rfl)) rfl
theorem tb_2_130 : Cond.methodLink RX4 46 yX4_finish ∈ TBL := tbl_2 (List.mem_of_getElem? (i := 130) (by decide +kernel)) rfl
theorem tb_2_132 : Cond.instanceMethod yX4_finish ∈ TBL := tbl_2 (List.mem_of_getElem? (i := 132) (by decide +kernel)) rfl
theorem tb_2_133 : Cond.code yX4_finish prog_6_method_7_code 2 (some FieldType.int) ∈ TBL := tbl_2 (List.mem_of_getElem? (i := 133) (by rfl)) rfl
theorem tb_2_134 : Cond.methodLink RX7 120 yX1_takeMiles ∈ TBL := tbl_2 (List.mem_of_getElem? (i := 134) (by decide +kernel)) rfl
theorem tb_2_135 : Cond.instanceMethod yX1_takeMiles ∈ TBL := tbl_2 (List.mem_of_getElem? (i := 135) (by decide +kernel)) rfl
theorem tb_2_136 : Cond.selects RX1 yX1_takeMiles yX1_takeMiles ∈ TBL := tbl_2 (List.mem_of_getElem? (i := 136) (by decide +kernel)) rfl
theorem tb_2_137 : Cond.code yX1_takeMiles prog_3_method_9_code 3 none ∈ TBL := tbl_2 (List.mem_of_getElem? (i := 137) (by rfl)) rfl
theorem tb_2_138 : Cond.methodLink RX1 45 yJ9_min_7cf53 ∈ TBL := tbl_2 (List.mem_of_getElem? (i := 138) (by decide +kernel)) rfl
theorem tb_2_139 : Cond.methodLink RX1 31 arraycopyName ∈ TBL := tbl_2 (List.mem_of_getElem? (i := 139) (by decide +kernel)) rfl
theorem tb_2_140 : Cond.static arraycopyName ∈ TBL := tbl_2 (List.mem_of_getElem? (i := 140) (by decide +kernel)) rfl
theorem tb_2_141 : Cond.native arraycopyName ∈ TBL := tbl_2 (List.mem_of_getElem? (i := 141) (by decide +kernel)) rfl
theorem tb_2_142 : Cond.methodLink RL 55 yX7_tides ∈ TBL := tbl_2 (List.mem_of_getElem? (i := 142) (by decide +kernel)) rfl
theorem tb_2_143 : Cond.instanceMethod yX7_tides ∈ TBL := tbl_2 (List.mem_of_getElem? (i := 143) (by decide +kernel)) rfl
theorem tb_2_144 : Cond.selects RX7 yX7_tides yX7_tides ∈ TBL := tbl_2 (List.mem_of_getElem? (i := 144) (by decide +kernel)) rfl
theorem tb_2_145 : Cond.code yX7_tides prog_1_method_11_code 2 (some FieldType.int) ∈ TBL := tbl_2 (List.mem_of_getElem? (i := 145) (by rfl)) rfl
theorem tb_2_146 : Cond.methodLink RX7 124 yX4_readTide ∈ TBL := tbl_2 (List.mem_of_getElem? (i := 146) (by decide +kernel)) rfl
theorem tb_2_147 : Cond.instanceMethod yX4_readTide ∈ TBL := tbl_2 (List.mem_of_getElem? (i := 147) (by decide +kernel)) rfl
theorem tb_2_148 : Cond.selects RX4 yX4_readTide yX4_readTide ∈ TBL := tbl_2 (List.mem_of_getElem? (i := 148) (by decide +kernel)) rfl
theorem tb_2_149 : Cond.code yX4_readTide prog_6_method_4_code 3 (some FieldType.int) ∈ TBL := tbl_2 (List.mem_of_getElem? (i := 149) (by rfl)) rfl
theorem tb_2_150 : Cond.methodLink RX4 58 yJ9_max_7cf53 ∈ TBL := tbl_2 (List.mem_of_getElem? (i := 150) (by decide +kernel)) rfl
theorem tb_2_151 : Cond.static yJ9_max_7cf53 ∈ TBL := tbl_2 (List.mem_of_getElem? (i := 151) (by decide +kernel)) rfl
theorem tb_2_152 : Cond.code yJ9_max_7cf53 prog_13_method_65_code 2 (some FieldType.int) ∈ TBL := tbl_2 (List.mem_of_getElem? (i := 152) (by rfl)) rfl
theorem tb_2_153 : Cond.methodLink RX7 127 arraycopyName ∈ TBL := tbl_2 (List.mem_of_getElem? (i := 153) (by decide +kernel)) rfl
theorem tb_2_154 : Cond.methodLink RL 59 yX7_count ∈ TBL := tbl_2 (List.mem_of_getElem? (i := 154) (by decide +kernel)) rfl
theorem tb_2_155 : Cond.instanceMethod yX7_count ∈ TBL := tbl_2 (List.mem_of_getElem? (i := 155) (by decide +kernel)) rfl
theorem tb_2_156 : Cond.selects RX7 yX7_count yX7_count ∈ TBL := tbl_2 (List.mem_of_getElem? (i := 156) (by decide +kernel)) rfl
theorem tb_2_157 : Cond.code yX7_count prog_1_method_12_code 2 (some FieldType.int) ∈ TBL := tbl_2 (List.mem_of_getElem? (i := 157) (by rfl)) rfl
theorem tb_2_158 : Cond.methodLink RX7 140 yX1_widths ∈ TBL := tbl_2 (List.mem_of_getElem? (i := 158) (by decide +kernel)) rfl
theorem tb_2_159 : Cond.instanceMethod yX1_widths ∈ TBL := tbl_2 (List.mem_of_getElem? (i := 159) (by decide +kernel)) rfl
theorem tb_2_160 : Cond.selects RX1 yX1_widths yX1_widths ∈ TBL := tbl_2 (List.mem_of_getElem? (i := 160) (by decide +kernel)) rfl
theorem tb_2_161 : Cond.code yX1_widths prog_3_method_11_code 3 (some FieldType.int) ∈ TBL := tbl_2 (List.mem_of_getElem? (i := 161) (by rfl)) rfl
theorem tb_2_162 : Cond.methodLink RL 64 yX7_tide ∈ TBL := tbl_2 (List.mem_of_getElem? (i := 162) (by decide +kernel)) rfl
theorem tb_2_163 : Cond.instanceMethod yX7_tide ∈ TBL := tbl_2 (List.mem_of_getElem? (i := 163) (by decide +kernel)) rfl
theorem tb_2_164 : Cond.selects RX7 yX7_tide yX7_tide ∈ TBL := tbl_2 (List.mem_of_getElem? (i := 164) (by decide +kernel)) rfl
theorem tb_2_165 : Cond.code yX7_tide prog_1_method_13_code 2 (some FieldType.int) ∈ TBL := tbl_2 (List.mem_of_getElem? (i := 165) (by rfl)) rfl
theorem tb_2_166 : Cond.methodLink RX7 143 yX1_tideAt ∈ TBL := tbl_2 (List.mem_of_getElem? (i := 166) (by decide +kernel)) rfl
theorem tb_2_167 : Cond.instanceMethod yX1_tideAt ∈ TBL := tbl_2 (List.mem_of_getElem? (i := 167) (by decide +kernel)) rfl
theorem tb_2_168 : Cond.selects RX1 yX1_tideAt yX1_tideAt ∈ TBL := tbl_2 (List.mem_of_getElem? (i := 168) (by decide +kernel)) rfl
theorem tb_2_169 : Cond.code yX1_tideAt prog_3_method_12_code 2 (some FieldType.int) ∈ TBL := tbl_2 (List.mem_of_getElem? (i := 169) (by rfl)) rfl
theorem tb_2_170 : Cond.methodLink RX1 50 yX1_tideBy ∈ TBL := tbl_2 (List.mem_of_getElem? (i := 170) (by decide +kernel)) rfl
theorem tb_2_171 : Cond.instanceMethod yX1_tideBy ∈ TBL := tbl_2 (List.mem_of_getElem? (i := 171) (by decide +kernel)) rfl
theorem tb_2_172 : Cond.selects RX1 yX1_tideBy yX1_tideBy ∈ TBL := tbl_2 (List.mem_of_getElem? (i := 172) (by decide +kernel)) rfl
theorem tb_2_173 : Cond.code yX1_tideBy prog_3_method_13_code 6 (some FieldType.int) ∈ TBL := tbl_2 (List.mem_of_getElem? (i := 173) (by rfl)) rfl
theorem tb_2_174 : Cond.methodLink RX1 53 yJ9_floorMod_7cf53 ∈ TBL := tbl_2 (List.mem_of_getElem? (i := 174) (by decide +kernel)) rfl
theorem tb_2_175 : Cond.static yJ9_floorMod_7cf53 ∈ TBL := tbl_2 (List.mem_of_getElem? (i := 175) (by decide +kernel)) rfl
theorem tb_2_176 : Cond.code yJ9_floorMod_7cf53 prog_13_method_50_code 3 (some FieldType.int) ∈ TBL := tbl_2 (List.mem_of_getElem? (i := 176) (by rfl)) rfl
theorem tb_2_177 : Cond.methodLink RL 68 yX7_water ∈ TBL := tbl_2 (List.mem_of_getElem? (i := 177) (by decide +kernel)) rfl
theorem tb_2_178 : Cond.instanceMethod yX7_water ∈ TBL := tbl_2 (List.mem_of_getElem? (i := 178) (by decide +kernel)) rfl
theorem tb_2_179 : Cond.selects RX7 yX7_water yX7_water ∈ TBL := tbl_2 (List.mem_of_getElem? (i := 179) (by decide +kernel)) rfl
theorem tb_2_180 : Cond.code yX7_water prog_1_method_14_code 3 (some FieldType.int) ∈ TBL := tbl_2 (List.mem_of_getElem? (i := 180) (by rfl)) rfl
theorem tb_2_181 : Cond.constant RX7 147 (-100001 : Int32) ∈ TBL := tbl_2 (List.mem_of_getElem? (i := 181) (by decide +kernel)) rfl
theorem tb_2_182 : Cond.methodLink RX7 148 yX1_levelAt ∈ TBL := tbl_2 (List.mem_of_getElem? (i := 182) (by decide +kernel)) rfl
theorem tb_2_183 : Cond.instanceMethod yX1_levelAt ∈ TBL := tbl_2 (List.mem_of_getElem? (i := 183) (by decide +kernel)) rfl
theorem tb_2_184 : Cond.selects RX1 yX1_levelAt yX1_levelAt ∈ TBL := tbl_2 (List.mem_of_getElem? (i := 184) (by decide +kernel)) rfl
theorem tb_2_185 : Cond.code yX1_levelAt prog_3_method_14_code 5 (some FieldType.int) ∈ TBL := tbl_2 (List.mem_of_getElem? (i := 185) (by rfl)) rfl
theorem tb_2_186 : Cond.methodLink RL 72 yX7_sinks ∈ TBL := tbl_2 (List.mem_of_getElem? (i := 186) (by decide +kernel)) rfl
theorem tb_2_187 : Cond.instanceMethod yX7_sinks ∈ TBL := tbl_2 (List.mem_of_getElem? (i := 187) (by decide +kernel)) rfl
theorem tb_2_188 : Cond.selects RX7 yX7_sinks yX7_sinks ∈ TBL := tbl_2 (List.mem_of_getElem? (i := 188) (by decide +kernel)) rfl
theorem tb_2_189 : Cond.code yX7_sinks prog_1_method_15_code 5 (some FieldType.int) ∈ TBL := tbl_2 (List.mem_of_getElem? (i := 189) (by rfl)) rfl
theorem tb_2_190 : Cond.methodLink RX7 151 yX7_isPlaced ∈ TBL := tbl_2 (List.mem_of_getElem? (i := 190) (by decide +kernel)) rfl
theorem tb_2_192 : Cond.instanceMethod yX7_isPlaced ∈ TBL := tbl_2 (List.mem_of_getElem? (i := 192) (by decide +kernel)) rfl
theorem tb_2_193 : Cond.code yX7_isPlaced prog_1_method_45_code 5 (some FieldType.boolean) ∈ TBL := tbl_2 (List.mem_of_getElem? (i := 193) (by rfl)) rfl
theorem tb_2_194 : Cond.methodLink RX7 168 yX1_hasShip ∈ TBL := tbl_2 (List.mem_of_getElem? (i := 194) (by decide +kernel)) rfl
theorem tb_2_195 : Cond.instanceMethod yX1_hasShip ∈ TBL := tbl_2 (List.mem_of_getElem? (i := 195) (by decide +kernel)) rfl
theorem tb_2_196 : Cond.selects RX1 yX1_hasShip yX1_hasShip ∈ TBL := tbl_2 (List.mem_of_getElem? (i := 196) (by decide +kernel)) rfl
theorem tb_2_197 : Cond.code yX1_hasShip prog_3_method_4_code 2 (some FieldType.boolean) ∈ TBL := tbl_2 (List.mem_of_getElem? (i := 197) (by rfl)) rfl
theorem tb_2_198 : Cond.methodLink RX7 155 yX5_begin ∈ TBL := tbl_2 (List.mem_of_getElem? (i := 198) (by decide +kernel)) rfl
theorem tb_2_199 : Cond.instanceMethod yX5_begin ∈ TBL := tbl_2 (List.mem_of_getElem? (i := 199) (by decide +kernel)) rfl
theorem tb_2_200 : Cond.selects RX5 yX5_begin yX5_begin ∈ TBL := tbl_2 (List.mem_of_getElem? (i := 200) (by decide +kernel)) rfl
theorem tb_2_201 : Cond.code yX5_begin prog_7_method_2_code 2 none ∈ TBL := tbl_2 (List.mem_of_getElem? (i := 201) (by rfl)) rfl
theorem tb_2_202 : Cond.methodLink RX5 37 yX1_hullOf ∈ TBL := tbl_2 (List.mem_of_getElem? (i := 202) (by decide +kernel)) rfl
theorem tb_2_203 : Cond.instanceMethod yX1_hullOf ∈ TBL := tbl_2 (List.mem_of_getElem? (i := 203) (by decide +kernel)) rfl
theorem tb_2_204 : Cond.selects RX1 yX1_hullOf yX1_hullOf ∈ TBL := tbl_2 (List.mem_of_getElem? (i := 204) (by decide +kernel)) rfl
theorem tb_2_205 : Cond.code yX1_hullOf prog_3_method_7_code 3 (some FieldType.int) ∈ TBL := tbl_2 (List.mem_of_getElem? (i := 205) (by rfl)) rfl
theorem tb_2_206 : Cond.methodLink RX5 47 yX5_keepTo ∈ TBL := tbl_2 (List.mem_of_getElem? (i := 206) (by decide +kernel)) rfl
theorem tb_2_207 : Cond.instanceMethod yX5_keepTo ∈ TBL := tbl_2 (List.mem_of_getElem? (i := 207) (by decide +kernel)) rfl
theorem tb_2_208 : Cond.selects RX5 yX5_keepTo yX5_keepTo ∈ TBL := tbl_2 (List.mem_of_getElem? (i := 208) (by decide +kernel)) rfl
theorem tb_2_209 : Cond.code yX5_keepTo prog_7_method_4_code 3 none ∈ TBL := tbl_2 (List.mem_of_getElem? (i := 209) (by rfl)) rfl
theorem tb_2_210 : Cond.methodLink RX5 55 yX5_reckonNeed ∈ TBL := tbl_2 (List.mem_of_getElem? (i := 210) (by decide +kernel)) rfl
theorem tb_2_212 : Cond.instanceMethod yX5_reckonNeed ∈ TBL := tbl_2 (List.mem_of_getElem? (i := 212) (by decide +kernel)) rfl
theorem tb_2_213 : Cond.code yX5_reckonNeed prog_7_method_5_code 1 none ∈ TBL := tbl_2 (List.mem_of_getElem? (i := 213) (by rfl)) rfl
theorem tb_2_214 : Cond.methodLink RX5 51 yX5_load ∈ TBL := tbl_2 (List.mem_of_getElem? (i := 214) (by decide +kernel)) rfl
theorem tb_2_215 : Cond.instanceMethod yX5_load ∈ TBL := tbl_2 (List.mem_of_getElem? (i := 215) (by decide +kernel)) rfl
theorem tb_2_216 : Cond.selects RX5 yX5_load yX5_load ∈ TBL := tbl_2 (List.mem_of_getElem? (i := 216) (by decide +kernel)) rfl
theorem tb_2_217 : Cond.code yX5_load prog_7_method_3_code 2 none ∈ TBL := tbl_2 (List.mem_of_getElem? (i := 217) (by rfl)) rfl
theorem tb_2_218 : Cond.methodLink RX7 159 yX5_level ∈ TBL := tbl_2 (List.mem_of_getElem? (i := 218) (by decide +kernel)) rfl
theorem tb_2_219 : Cond.instanceMethod yX5_level ∈ TBL := tbl_2 (List.mem_of_getElem? (i := 219) (by decide +kernel)) rfl
theorem tb_2_220 : Cond.selects RX5 yX5_level yX5_level ∈ TBL := tbl_2 (List.mem_of_getElem? (i := 220) (by decide +kernel)) rfl
theorem tb_2_221 : Cond.code yX5_level prog_7_method_6_code 3 (some FieldType.int) ∈ TBL := tbl_2 (List.mem_of_getElem? (i := 221) (by rfl)) rfl
theorem tb_2_222 : Cond.methodLink RX5 58 yX1_levelAt ∈ TBL := tbl_2 (List.mem_of_getElem? (i := 222) (by decide +kernel)) rfl
theorem tb_2_223 : Cond.methodLink RX7 162 yX5_sinking ∈ TBL := tbl_2 (List.mem_of_getElem? (i := 223) (by decide +kernel)) rfl
theorem tb_2_224 : Cond.instanceMethod yX5_sinking ∈ TBL := tbl_2 (List.mem_of_getElem? (i := 224) (by decide +kernel)) rfl
theorem tb_2_225 : Cond.selects RX5 yX5_sinking yX5_sinking ∈ TBL := tbl_2 (List.mem_of_getElem? (i := 225) (by decide +kernel)) rfl
theorem tb_2_226 : Cond.code yX5_sinking prog_7_method_7_code 5 (some FieldType.int) ∈ TBL := tbl_2 (List.mem_of_getElem? (i := 226) (by rfl)) rfl
theorem tb_2_227 : Cond.methodLink RX5 62 yX1_markOf ∈ TBL := tbl_2 (List.mem_of_getElem? (i := 227) (by decide +kernel)) rfl
theorem tb_2_228 : Cond.methodLink RX5 65 yJ9_max_7cf53 ∈ TBL := tbl_2 (List.mem_of_getElem? (i := 228) (by decide +kernel)) rfl
theorem tb_2_229 : Cond.methodLink RL 77 yX7_under ∈ TBL := tbl_2 (List.mem_of_getElem? (i := 229) (by decide +kernel)) rfl
theorem tb_2_230 : Cond.instanceMethod yX7_under ∈ TBL := tbl_2 (List.mem_of_getElem? (i := 230) (by decide +kernel)) rfl
theorem tb_2_231 : Cond.selects RX7 yX7_under yX7_under ∈ TBL := tbl_2 (List.mem_of_getElem? (i := 231) (by decide +kernel)) rfl
theorem tb_2_232 : Cond.code yX7_under prog_1_method_16_code 5 (some FieldType.int) ∈ TBL := tbl_2 (List.mem_of_getElem? (i := 232) (by rfl)) rfl
theorem tb_2_233 : Cond.methodLink RX7 165 yX5_clearance ∈ TBL := tbl_2 (List.mem_of_getElem? (i := 233) (by decide +kernel)) rfl
theorem tb_2_234 : Cond.instanceMethod yX5_clearance ∈ TBL := tbl_2 (List.mem_of_getElem? (i := 234) (by decide +kernel)) rfl
theorem tb_2_235 : Cond.selects RX5 yX5_clearance yX5_clearance ∈ TBL := tbl_2 (List.mem_of_getElem? (i := 235) (by decide +kernel)) rfl
theorem tb_2_236 : Cond.code yX5_clearance prog_7_method_9_code 5 (some FieldType.int) ∈ TBL := tbl_2 (List.mem_of_getElem? (i := 236) (by rfl)) rfl
theorem tb_2_237 : Cond.methodLink RX5 70 yX5_level ∈ TBL := tbl_2 (List.mem_of_getElem? (i := 237) (by decide +kernel)) rfl
theorem tb_2_238 : Cond.methodLink RX5 73 yX5_atRest ∈ TBL := tbl_2 (List.mem_of_getElem? (i := 238) (by decide +kernel)) rfl
theorem tb_2_239 : Cond.instanceMethod yX5_atRest ∈ TBL := tbl_2 (List.mem_of_getElem? (i := 239) (by decide +kernel)) rfl
theorem tb_3_0 : Cond.selects RX5 yX5_atRest yX5_atRest ∈ TBL := tbl_3 (List.mem_of_getElem? (i := 0) (by decide +kernel)) rfl
theorem tb_3_1 : Cond.code yX5_atRest prog_7_method_8_code 4 (some FieldType.int) ∈ TBL := tbl_3 (List.mem_of_getElem? (i := 1) (by rfl)) rfl
theorem tb_3_2 : Cond.methodLink RX5 76 yX5_sinking ∈ TBL := tbl_3 (List.mem_of_getElem? (i := 2) (by decide +kernel)) rfl
theorem tb_3_3 : Cond.methodLink RL 81 yX7_need ∈ TBL := tbl_3 (List.mem_of_getElem? (i := 3) (by decide +kernel)) rfl
theorem tb_3_4 : Cond.instanceMethod yX7_need ∈ TBL := tbl_3 (List.mem_of_getElem? (i := 4) (by decide +kernel)) rfl
theorem tb_3_5 : Cond.selects RX7 yX7_need yX7_need ∈ TBL := tbl_3 (List.mem_of_getElem? (i := 5) (by decide +kernel)) rfl
theorem tb_3_6 : Cond.code yX7_need prog_1_method_17_code 2 (some FieldType.int) ∈ TBL := tbl_3 (List.mem_of_getElem? (i := 6) (by rfl)) rfl
theorem tb_3_7 : Cond.methodLink RL 85 yX7_run ∈ TBL := tbl_3 (List.mem_of_getElem? (i := 7) (by decide +kernel)) rfl
theorem tb_3_8 : Cond.instanceMethod yX7_run ∈ TBL := tbl_3 (List.mem_of_getElem? (i := 8) (by decide +kernel)) rfl
theorem tb_3_9 : Cond.selects RX7 yX7_run yX7_run ∈ TBL := tbl_3 (List.mem_of_getElem? (i := 9) (by decide +kernel)) rfl
theorem tb_3_10 : Cond.code yX7_run prog_1_method_18_code 4 (some FieldType.int) ∈ TBL := tbl_3 (List.mem_of_getElem? (i := 10) (by rfl)) rfl
theorem tb_3_11 : Cond.methodLink RX7 174 yX7_isStart ∈ TBL := tbl_3 (List.mem_of_getElem? (i := 11) (by decide +kernel)) rfl
theorem tb_3_13 : Cond.instanceMethod yX7_isStart ∈ TBL := tbl_3 (List.mem_of_getElem? (i := 13) (by decide +kernel)) rfl
theorem tb_3_14 : Cond.code yX7_isStart prog_1_method_43_code 3 (some FieldType.boolean) ∈ TBL := tbl_3 (List.mem_of_getElem? (i := 14) (by rfl)) rfl
theorem tb_3_15 : Cond.methodLink RX7 254 yX7_isMinute ∈ TBL := tbl_3 (List.mem_of_getElem? (i := 15) (by decide +kernel)) rfl
theorem tb_3_16 : Cond.static yX7_isMinute ∈ TBL := tbl_3 (List.mem_of_getElem? (i := 16) (by decide +kernel)) rfl
theorem tb_3_17 : Cond.code yX7_isMinute prog_1_method_42_code 1 (some FieldType.boolean) ∈ TBL := tbl_3 (List.mem_of_getElem? (i := 17) (by rfl)) rfl
theorem tb_3_18 : Cond.methodLink RX7 177 yX6_sail ∈ TBL := tbl_3 (List.mem_of_getElem? (i := 18) (by decide +kernel)) rfl
theorem tb_3_19 : Cond.instanceMethod yX6_sail ∈ TBL := tbl_3 (List.mem_of_getElem? (i := 19) (by decide +kernel)) rfl
theorem tb_3_20 : Cond.selects RX6 yX6_sail yX6_sail ∈ TBL := tbl_3 (List.mem_of_getElem? (i := 20) (by decide +kernel)) rfl
theorem tb_3_21 : Cond.code yX6_sail prog_8_method_2_code 6 none ∈ TBL := tbl_3 (List.mem_of_getElem? (i := 21) (by rfl)) rfl
theorem tb_3_22 : Cond.constant RX6 27 (2147483647 : Int32) ∈ TBL := tbl_3 (List.mem_of_getElem? (i := 22) (by decide +kernel)) rfl
theorem tb_3_23 : Cond.methodLink RX6 33 yX1_markOf ∈ TBL := tbl_3 (List.mem_of_getElem? (i := 23) (by decide +kernel)) rfl
theorem tb_3_24 : Cond.methodLink RX6 37 yX1_tideAt ∈ TBL := tbl_3 (List.mem_of_getElem? (i := 24) (by decide +kernel)) rfl
theorem tb_3_25 : Cond.methodLink RX6 41 yX5_clearance ∈ TBL := tbl_3 (List.mem_of_getElem? (i := 25) (by decide +kernel)) rfl
theorem tb_3_26 : Cond.methodLink RX6 47 yJ9_min_7cf53 ∈ TBL := tbl_3 (List.mem_of_getElem? (i := 26) (by decide +kernel)) rfl
theorem tb_3_28 : Cond.static yX7_minutesBy ∈ TBL := tbl_3 (List.mem_of_getElem? (i := 28) (by decide +kernel)) rfl
theorem tb_3_29 : Cond.code yX7_minutesBy prog_1_method_50_code 1 (some FieldType.int) ∈ TBL := tbl_3 (List.mem_of_getElem? (i := 29) (by rfl)) rfl
theorem tb_3_30 : Cond.methodLink RX7 235 yJ9_max_7cf53 ∈ TBL := tbl_3 (List.mem_of_getElem? (i := 30) (by decide +kernel)) rfl
theorem tb_3_31 : Cond.constant RX7 190 (100000 : Int32) ∈ TBL := tbl_3 (List.mem_of_getElem? (i := 31) (by decide +kernel)) rfl
theorem tb_3_32 : Cond.methodLink RL 89 yX7_least ∈ TBL := tbl_3 (List.mem_of_getElem? (i := 32) (by decide +kernel)) rfl
theorem tb_3_33 : Cond.instanceMethod yX7_least ∈ TBL := tbl_3 (List.mem_of_getElem? (i := 33) (by decide +kernel)) rfl
theorem tb_3_34 : Cond.selects RX7 yX7_least yX7_least ∈ TBL := tbl_3 (List.mem_of_getElem? (i := 34) (by decide +kernel)) rfl
theorem tb_3_35 : Cond.code yX7_least prog_1_method_19_code 6 (some FieldType.int) ∈ TBL := tbl_3 (List.mem_of_getElem? (i := 35) (by rfl)) rfl
theorem tb_3_36 : Cond.methodLink RX7 191 yX7_refusalAt ∈ TBL := tbl_3 (List.mem_of_getElem? (i := 36) (by decide +kernel)) rfl
theorem tb_3_38 : Cond.instanceMethod yX7_refusalAt ∈ TBL := tbl_3 (List.mem_of_getElem? (i := 38) (by decide +kernel)) rfl
theorem tb_3_39 : Cond.code yX7_refusalAt prog_1_method_44_code 5 (some FieldType.int) ∈ TBL := tbl_3 (List.mem_of_getElem? (i := 39) (by rfl)) rfl
theorem tb_3_40 : Cond.methodLink RX7 195 yX2_begin ∈ TBL := tbl_3 (List.mem_of_getElem? (i := 40) (by decide +kernel)) rfl
theorem tb_3_41 : Cond.instanceMethod yX2_begin ∈ TBL := tbl_3 (List.mem_of_getElem? (i := 41) (by decide +kernel)) rfl
theorem tb_3_42 : Cond.selects RX2 yX2_begin yX2_begin ∈ TBL := tbl_3 (List.mem_of_getElem? (i := 42) (by decide +kernel)) rfl
theorem tb_3_43 : Cond.code yX2_begin prog_4_method_2_code 2 none ∈ TBL := tbl_3 (List.mem_of_getElem? (i := 43) (by rfl)) rfl
theorem tb_3_44 : Cond.methodLink RX2 37 yX2_layTide ∈ TBL := tbl_3 (List.mem_of_getElem? (i := 44) (by decide +kernel)) rfl
theorem tb_3_45 : Cond.instanceMethod yX2_layTide ∈ TBL := tbl_3 (List.mem_of_getElem? (i := 45) (by decide +kernel)) rfl
theorem tb_3_46 : Cond.selects RX2 yX2_layTide yX2_layTide ∈ TBL := tbl_3 (List.mem_of_getElem? (i := 46) (by decide +kernel)) rfl
theorem tb_3_47 : Cond.code yX2_layTide prog_4_method_3_code 3 none ∈ TBL := tbl_3 (List.mem_of_getElem? (i := 47) (by rfl)) rfl
theorem tb_3_48 : Cond.methodLink RX2 44 yX2_isLaid ∈ TBL := tbl_3 (List.mem_of_getElem? (i := 48) (by decide +kernel)) rfl
theorem tb_3_50 : Cond.instanceMethod yX2_isLaid ∈ TBL := tbl_3 (List.mem_of_getElem? (i := 50) (by decide +kernel)) rfl
theorem tb_3_51 : Cond.code yX2_isLaid prog_4_method_4_code 3 (some FieldType.boolean) ∈ TBL := tbl_3 (List.mem_of_getElem? (i := 51) (by rfl)) rfl
theorem tb_3_52 : Cond.methodLink RX2 53 arraycopyName ∈ TBL := tbl_3 (List.mem_of_getElem? (i := 52) (by decide +kernel)) rfl
theorem tb_3_53 : Cond.methodLink RX2 62 yX2_wipe ∈ TBL := tbl_3 (List.mem_of_getElem? (i := 53) (by decide +kernel)) rfl
theorem tb_3_54 : Cond.static yX2_wipe ∈ TBL := tbl_3 (List.mem_of_getElem? (i := 54) (by decide +kernel)) rfl
theorem tb_3_55 : Cond.code yX2_wipe prog_4_method_15_code 2 none ∈ TBL := tbl_3 (List.mem_of_getElem? (i := 55) (by rfl)) rfl
theorem tb_3_56 : Cond.methodLink RX2 66 yX1_tideAt ∈ TBL := tbl_3 (List.mem_of_getElem? (i := 56) (by decide +kernel)) rfl
theorem tb_3_59 : Cond.static yX7_putBit ∈ TBL := tbl_3 (List.mem_of_getElem? (i := 59) (by decide +kernel)) rfl
theorem tb_3_60 : Cond.code yX7_putBit prog_1_method_52_code 2 none ∈ TBL := tbl_3 (List.mem_of_getElem? (i := 60) (by rfl)) rfl
theorem tb_3_61 : Cond.methodLink RX2 40 yX2_rule ∈ TBL := tbl_3 (List.mem_of_getElem? (i := 61) (by decide +kernel)) rfl
theorem tb_3_62 : Cond.instanceMethod yX2_rule ∈ TBL := tbl_3 (List.mem_of_getElem? (i := 62) (by decide +kernel)) rfl
theorem tb_3_63 : Cond.selects RX2 yX2_rule yX2_rule ∈ TBL := tbl_3 (List.mem_of_getElem? (i := 63) (by decide +kernel)) rfl
theorem tb_3_64 : Cond.code yX2_rule prog_4_method_5_code 3 none ∈ TBL := tbl_3 (List.mem_of_getElem? (i := 64) (by rfl)) rfl
theorem tb_3_65 : Cond.methodLink RX2 81 yX2_ruleMile ∈ TBL := tbl_3 (List.mem_of_getElem? (i := 65) (by decide +kernel)) rfl
theorem tb_3_66 : Cond.instanceMethod yX2_ruleMile ∈ TBL := tbl_3 (List.mem_of_getElem? (i := 66) (by decide +kernel)) rfl
theorem tb_3_67 : Cond.selects RX2 yX2_ruleMile yX2_ruleMile ∈ TBL := tbl_3 (List.mem_of_getElem? (i := 67) (by decide +kernel)) rfl
theorem tb_3_68 : Cond.code yX2_ruleMile prog_4_method_6_code 6 none ∈ TBL := tbl_3 (List.mem_of_getElem? (i := 68) (by rfl)) rfl
theorem tb_3_69 : Cond.methodLink RX2 90 yX5_level ∈ TBL := tbl_3 (List.mem_of_getElem? (i := 69) (by decide +kernel)) rfl
theorem tb_3_70 : Cond.methodLink RX2 94 yX5_atRest ∈ TBL := tbl_3 (List.mem_of_getElem? (i := 70) (by decide +kernel)) rfl
theorem tb_3_71 : Cond.methodLink RX2 97 yJ9_min_7cf53 ∈ TBL := tbl_3 (List.mem_of_getElem? (i := 71) (by decide +kernel)) rfl
theorem tb_3_72 : Cond.methodLink RX2 102 yJ9_max_7cf53 ∈ TBL := tbl_3 (List.mem_of_getElem? (i := 72) (by decide +kernel)) rfl
theorem tb_3_73 : Cond.methodLink RX2 105 yX5_clearance ∈ TBL := tbl_3 (List.mem_of_getElem? (i := 73) (by decide +kernel)) rfl
theorem tb_3_74 : Cond.methodLink RX7 198 yX2_quickest ∈ TBL := tbl_3 (List.mem_of_getElem? (i := 74) (by decide +kernel)) rfl
theorem tb_3_75 : Cond.instanceMethod yX2_quickest ∈ TBL := tbl_3 (List.mem_of_getElem? (i := 75) (by decide +kernel)) rfl
theorem tb_3_76 : Cond.selects RX2 yX2_quickest yX2_quickest ∈ TBL := tbl_3 (List.mem_of_getElem? (i := 76) (by decide +kernel)) rfl
theorem tb_3_77 : Cond.code yX2_quickest prog_4_method_7_code 4 (some FieldType.int) ∈ TBL := tbl_3 (List.mem_of_getElem? (i := 77) (by rfl)) rfl
theorem tb_3_78 : Cond.methodLink RX2 109 yX2_goOn ∈ TBL := tbl_3 (List.mem_of_getElem? (i := 78) (by decide +kernel)) rfl
theorem tb_3_80 : Cond.instanceMethod yX2_goOn ∈ TBL := tbl_3 (List.mem_of_getElem? (i := 80) (by decide +kernel)) rfl
theorem tb_3_81 : Cond.code yX2_goOn prog_4_method_11_code 3 none ∈ TBL := tbl_3 (List.mem_of_getElem? (i := 81) (by rfl)) rfl
theorem tb_3_82 : Cond.methodLink RX2 137 yX2_moveLater ∈ TBL := tbl_3 (List.mem_of_getElem? (i := 82) (by decide +kernel)) rfl
theorem tb_3_84 : Cond.instanceMethod yX2_moveLater ∈ TBL := tbl_3 (List.mem_of_getElem? (i := 84) (by decide +kernel)) rfl
theorem tb_3_85 : Cond.code yX2_moveLater prog_4_method_12_code 7 none ∈ TBL := tbl_3 (List.mem_of_getElem? (i := 85) (by rfl)) rfl
theorem tb_3_89 : Cond.static yX7_firstFrom ∈ TBL := tbl_3 (List.mem_of_getElem? (i := 89) (by decide +kernel)) rfl
theorem tb_3_90 : Cond.code yX7_firstFrom prog_1_method_54_code 7 (some FieldType.int) ∈ TBL := tbl_3 (List.mem_of_getElem? (i := 90) (by rfl)) rfl
theorem tb_3_91 : Cond.constantLong RX7 322 (-1 : Int64) ∈ TBL := tbl_3 (List.mem_of_getElem? (i := 91) (by decide +kernel)) rfl
theorem tb_3_92 : Cond.methodLink RX7 316 yJ13_bitCount_95d88 ∈ TBL := tbl_3 (List.mem_of_getElem? (i := 92) (by decide +kernel)) rfl
theorem tb_3_93 : Cond.static yJ13_bitCount_95d88 ∈ TBL := tbl_3 (List.mem_of_getElem? (i := 93) (by decide +kernel)) rfl
theorem tb_3_94 : Cond.code yJ13_bitCount_95d88 prog_12_method_50_code 2 (some FieldType.int) ∈ TBL := tbl_3 (List.mem_of_getElem? (i := 94) (by rfl)) rfl
theorem tb_3_95 : Cond.constantLong RJ13 314 (6148914691236517205 : Int64) ∈ TBL := tbl_3 (List.mem_of_getElem? (i := 95) (by decide +kernel)) rfl
theorem tb_3_96 : Cond.constantLong RJ13 316 (3689348814741910323 : Int64) ∈ TBL := tbl_3 (List.mem_of_getElem? (i := 96) (by decide +kernel)) rfl
theorem tb_3_97 : Cond.constantLong RJ13 318 (1085102592571150095 : Int64) ∈ TBL := tbl_3 (List.mem_of_getElem? (i := 97) (by decide +kernel)) rfl
theorem tb_3_98 : Cond.methodLink RX7 201 yX2_firstPace ∈ TBL := tbl_3 (List.mem_of_getElem? (i := 98) (by decide +kernel)) rfl
theorem tb_3_99 : Cond.instanceMethod yX2_firstPace ∈ TBL := tbl_3 (List.mem_of_getElem? (i := 99) (by decide +kernel)) rfl
theorem tb_3_100 : Cond.selects RX2 yX2_firstPace yX2_firstPace ∈ TBL := tbl_3 (List.mem_of_getElem? (i := 100) (by decide +kernel)) rfl
theorem tb_3_101 : Cond.code yX2_firstPace prog_4_method_8_code 7 (some FieldType.int) ∈ TBL := tbl_3 (List.mem_of_getElem? (i := 101) (by rfl)) rfl
theorem tb_3_102 : Cond.methodLink RX2 117 yX2_goBack ∈ TBL := tbl_3 (List.mem_of_getElem? (i := 102) (by decide +kernel)) rfl
theorem tb_3_104 : Cond.instanceMethod yX2_goBack ∈ TBL := tbl_3 (List.mem_of_getElem? (i := 104) (by decide +kernel)) rfl
theorem tb_3_105 : Cond.code yX2_goBack prog_4_method_13_code 5 none ∈ TBL := tbl_3 (List.mem_of_getElem? (i := 105) (by rfl)) rfl
theorem tb_3_106 : Cond.methodLink RX2 141 yX2_earlier ∈ TBL := tbl_3 (List.mem_of_getElem? (i := 106) (by decide +kernel)) rfl
theorem tb_3_108 : Cond.instanceMethod yX2_earlier ∈ TBL := tbl_3 (List.mem_of_getElem? (i := 108) (by decide +kernel)) rfl
theorem tb_3_109 : Cond.code yX2_earlier prog_4_method_14_code 11 (some FieldType.long) ∈ TBL := tbl_3 (List.mem_of_getElem? (i := 109) (by rfl)) rfl
theorem tb_3_110 : Cond.methodLink RX2 120 yX2_slowest ∈ TBL := tbl_3 (List.mem_of_getElem? (i := 110) (by decide +kernel)) rfl
theorem tb_3_112 : Cond.instanceMethod yX2_slowest ∈ TBL := tbl_3 (List.mem_of_getElem? (i := 112) (by decide +kernel)) rfl
theorem tb_3_113 : Cond.code yX2_slowest prog_4_method_10_code 5 (some FieldType.int) ∈ TBL := tbl_3 (List.mem_of_getElem? (i := 113) (by rfl)) rfl
theorem tb_3_115 : Cond.static yX7_hasBit ∈ TBL := tbl_3 (List.mem_of_getElem? (i := 115) (by decide +kernel)) rfl
theorem tb_3_116 : Cond.code yX7_hasBit prog_1_method_51_code 2 (some FieldType.boolean) ∈ TBL := tbl_3 (List.mem_of_getElem? (i := 116) (by rfl)) rfl
theorem tb_3_118 : Cond.methodLink RL 93 yX7_starts ∈ TBL := tbl_3 (List.mem_of_getElem? (i := 118) (by decide +kernel)) rfl
theorem tb_3_119 : Cond.instanceMethod yX7_starts ∈ TBL := tbl_3 (List.mem_of_getElem? (i := 119) (by decide +kernel)) rfl
theorem tb_3_120 : Cond.selects RX7 yX7_starts yX7_starts ∈ TBL := tbl_3 (List.mem_of_getElem? (i := 120) (by decide +kernel)) rfl
theorem tb_3_121 : Cond.code yX7_starts prog_1_method_20_code 4 (some FieldType.int) ∈ TBL := tbl_3 (List.mem_of_getElem? (i := 121) (by rfl)) rfl
theorem tb_3_122 : Cond.methodLink RX7 204 yX0_startsOf ∈ TBL := tbl_3 (List.mem_of_getElem? (i := 122) (by decide +kernel)) rfl
theorem tb_3_123 : Cond.instanceMethod yX0_startsOf ∈ TBL := tbl_3 (List.mem_of_getElem? (i := 123) (by decide +kernel)) rfl
theorem tb_3_124 : Cond.selects RX0 yX0_startsOf yX0_startsOf ∈ TBL := tbl_3 (List.mem_of_getElem? (i := 124) (by decide +kernel)) rfl
theorem tb_3_125 : Cond.code yX0_startsOf prog_2_method_2_code 2 (some (FieldType.array FieldType.long)) ∈ TBL := tbl_3 (List.mem_of_getElem? (i := 125) (by rfl)) rfl
theorem tb_3_126 : Cond.methodLink RX7 208 yX2_findStarts ∈ TBL := tbl_3 (List.mem_of_getElem? (i := 126) (by decide +kernel)) rfl
theorem tb_3_127 : Cond.instanceMethod yX2_findStarts ∈ TBL := tbl_3 (List.mem_of_getElem? (i := 127) (by decide +kernel)) rfl
theorem tb_3_128 : Cond.selects RX2 yX2_findStarts yX2_findStarts ∈ TBL := tbl_3 (List.mem_of_getElem? (i := 128) (by decide +kernel)) rfl
theorem tb_3_129 : Cond.code yX2_findStarts prog_4_method_9_code 5 none ∈ TBL := tbl_3 (List.mem_of_getElem? (i := 129) (by rfl)) rfl
theorem tb_3_130 : Cond.constantLong RX2 126 (-1 : Int64) ∈ TBL := tbl_3 (List.mem_of_getElem? (i := 130) (by decide +kernel)) rfl
theorem tb_3_131 : Cond.constantLong RX2 128 (4294967295 : Int64) ∈ TBL := tbl_3 (List.mem_of_getElem? (i := 131) (by decide +kernel)) rfl
theorem tb_3_132 : Cond.methodLink RX7 212 yX7_bitsIn ∈ TBL := tbl_3 (List.mem_of_getElem? (i := 132) (by decide +kernel)) rfl
theorem tb_3_133 : Cond.static yX7_bitsIn ∈ TBL := tbl_3 (List.mem_of_getElem? (i := 133) (by decide +kernel)) rfl
theorem tb_3_134 : Cond.code yX7_bitsIn prog_1_method_53_code 3 (some FieldType.int) ∈ TBL := tbl_3 (List.mem_of_getElem? (i := 134) (by rfl)) rfl
theorem tb_3_135 : Cond.methodLink RX7 216 yX7_firstFrom ∈ TBL := tbl_3 (List.mem_of_getElem? (i := 135) (by decide +kernel)) rfl
theorem tb_3_136 : Cond.methodLink RX7 220 yX7_lastOf ∈ TBL := tbl_3 (List.mem_of_getElem? (i := 136) (by decide +kernel)) rfl
theorem tb_3_137 : Cond.static yX7_lastOf ∈ TBL := tbl_3 (List.mem_of_getElem? (i := 137) (by decide +kernel)) rfl
theorem tb_3_138 : Cond.code yX7_lastOf prog_1_method_55_code 2 (some FieldType.int) ∈ TBL := tbl_3 (List.mem_of_getElem? (i := 138) (by rfl)) rfl
theorem tb_3_139 : Cond.methodLink RX7 324 yX7_hasBit ∈ TBL := tbl_3 (List.mem_of_getElem? (i := 139) (by decide +kernel)) rfl
theorem tb_3_140 : Cond.methodLink RL 97 yX7_deepest ∈ TBL := tbl_3 (List.mem_of_getElem? (i := 140) (by decide +kernel)) rfl
theorem tb_3_141 : Cond.instanceMethod yX7_deepest ∈ TBL := tbl_3 (List.mem_of_getElem? (i := 141) (by decide +kernel)) rfl
theorem tb_3_142 : Cond.selects RX7 yX7_deepest yX7_deepest ∈ TBL := tbl_3 (List.mem_of_getElem? (i := 142) (by decide +kernel)) rfl
theorem tb_3_143 : Cond.code yX7_deepest prog_1_method_21_code 5 (some FieldType.int) ∈ TBL := tbl_3 (List.mem_of_getElem? (i := 143) (by rfl)) rfl
theorem tb_3_144 : Cond.methodLink RX7 223 yX2_layTide ∈ TBL := tbl_3 (List.mem_of_getElem? (i := 144) (by decide +kernel)) rfl
theorem tb_3_145 : Cond.methodLink RX7 226 yX5_load ∈ TBL := tbl_3 (List.mem_of_getElem? (i := 145) (by decide +kernel)) rfl
theorem tb_3_146 : Cond.methodLink RX7 229 yX2_rule ∈ TBL := tbl_3 (List.mem_of_getElem? (i := 146) (by decide +kernel)) rfl
theorem tb_3_147 : Cond.methodLink RL 101 yX7_bank ∈ TBL := tbl_3 (List.mem_of_getElem? (i := 147) (by decide +kernel)) rfl
theorem tb_3_148 : Cond.instanceMethod yX7_bank ∈ TBL := tbl_3 (List.mem_of_getElem? (i := 148) (by decide +kernel)) rfl
theorem tb_3_149 : Cond.selects RX7 yX7_bank yX7_bank ∈ TBL := tbl_3 (List.mem_of_getElem? (i := 149) (by decide +kernel)) rfl
theorem tb_3_150 : Cond.code yX7_bank prog_1_method_22_code 4 (some FieldType.int) ∈ TBL := tbl_3 (List.mem_of_getElem? (i := 150) (by rfl)) rfl
theorem tb_3_151 : Cond.methodLink RX7 232 yX7_isHeld ∈ TBL := tbl_3 (List.mem_of_getElem? (i := 151) (by decide +kernel)) rfl
theorem tb_3_153 : Cond.instanceMethod yX7_isHeld ∈ TBL := tbl_3 (List.mem_of_getElem? (i := 153) (by decide +kernel)) rfl
theorem tb_3_154 : Cond.code yX7_isHeld prog_1_method_47_code 6 (some FieldType.boolean) ∈ TBL := tbl_3 (List.mem_of_getElem? (i := 154) (by rfl)) rfl
theorem tb_3_155 : Cond.methodLink RX7 251 yX1_hullOf ∈ TBL := tbl_3 (List.mem_of_getElem? (i := 155) (by decide +kernel)) rfl
theorem tb_3_156 : Cond.methodLink RL 105 yX7_nearest ∈ TBL := tbl_3 (List.mem_of_getElem? (i := 156) (by decide +kernel)) rfl
theorem tb_3_157 : Cond.instanceMethod yX7_nearest ∈ TBL := tbl_3 (List.mem_of_getElem? (i := 157) (by decide +kernel)) rfl
theorem tb_3_158 : Cond.selects RX7 yX7_nearest yX7_nearest ∈ TBL := tbl_3 (List.mem_of_getElem? (i := 158) (by decide +kernel)) rfl
theorem tb_3_159 : Cond.code yX7_nearest prog_1_method_23_code 4 (some FieldType.int) ∈ TBL := tbl_3 (List.mem_of_getElem? (i := 159) (by rfl)) rfl
theorem tb_3_160 : Cond.methodLink RL 109 yX7_steered ∈ TBL := tbl_3 (List.mem_of_getElem? (i := 160) (by decide +kernel)) rfl
theorem tb_3_161 : Cond.instanceMethod yX7_steered ∈ TBL := tbl_3 (List.mem_of_getElem? (i := 161) (by decide +kernel)) rfl
theorem tb_3_162 : Cond.selects RX7 yX7_steered yX7_steered ∈ TBL := tbl_3 (List.mem_of_getElem? (i := 162) (by decide +kernel)) rfl
theorem tb_3_163 : Cond.code yX7_steered prog_1_method_24_code 6 (some FieldType.int) ∈ TBL := tbl_3 (List.mem_of_getElem? (i := 163) (by rfl)) rfl
theorem tb_3_164 : Cond.methodLink RX7 240 yJ6_compare_7cf53 ∈ TBL := tbl_3 (List.mem_of_getElem? (i := 164) (by decide +kernel)) rfl
theorem tb_3_165 : Cond.static yJ6_compare_7cf53 ∈ TBL := tbl_3 (List.mem_of_getElem? (i := 165) (by decide +kernel)) rfl
theorem tb_3_166 : Cond.code yJ6_compare_7cf53 prog_11_method_40_code 2 (some FieldType.int) ∈ TBL := tbl_3 (List.mem_of_getElem? (i := 166) (by rfl)) rfl
theorem tb_3_167 : Cond.methodLink RX7 245 yJ9_abs_0f7a4 ∈ TBL := tbl_3 (List.mem_of_getElem? (i := 167) (by decide +kernel)) rfl
theorem tb_3_168 : Cond.static yJ9_abs_0f7a4 ∈ TBL := tbl_3 (List.mem_of_getElem? (i := 168) (by decide +kernel)) rfl
theorem tb_3_169 : Cond.code yJ9_abs_0f7a4 prog_13_method_59_code 1 (some FieldType.int) ∈ TBL := tbl_3 (List.mem_of_getElem? (i := 169) (by rfl)) rfl
theorem tb_3_170 : Cond.methodLink RL 113 yX7_may ∈ TBL := tbl_3 (List.mem_of_getElem? (i := 170) (by decide +kernel)) rfl
theorem tb_3_171 : Cond.instanceMethod yX7_may ∈ TBL := tbl_3 (List.mem_of_getElem? (i := 171) (by decide +kernel)) rfl
theorem tb_3_172 : Cond.selects RX7 yX7_may yX7_may ∈ TBL := tbl_3 (List.mem_of_getElem? (i := 172) (by decide +kernel)) rfl
theorem tb_3_173 : Cond.code yX7_may prog_1_method_25_code 7 (some FieldType.int) ∈ TBL := tbl_3 (List.mem_of_getElem? (i := 173) (by rfl)) rfl
theorem tb_3_174 : Cond.methodLink RX7 248 yX7_areTwo ∈ TBL := tbl_3 (List.mem_of_getElem? (i := 174) (by decide +kernel)) rfl
theorem tb_3_176 : Cond.instanceMethod yX7_areTwo ∈ TBL := tbl_3 (List.mem_of_getElem? (i := 176) (by decide +kernel)) rfl
theorem tb_3_177 : Cond.code yX7_areTwo prog_1_method_46_code 3 (some FieldType.boolean) ∈ TBL := tbl_3 (List.mem_of_getElem? (i := 177) (by rfl)) rfl
theorem tb_3_178 : Cond.methodLink RL 118 yX7_meet ∈ TBL := tbl_3 (List.mem_of_getElem? (i := 178) (by decide +kernel)) rfl
theorem tb_3_179 : Cond.instanceMethod yX7_meet ∈ TBL := tbl_3 (List.mem_of_getElem? (i := 179) (by decide +kernel)) rfl
theorem tb_3_180 : Cond.selects RX7 yX7_meet yX7_meet ∈ TBL := tbl_3 (List.mem_of_getElem? (i := 180) (by decide +kernel)) rfl
theorem tb_3_181 : Cond.code yX7_meet prog_1_method_26_code 12 (some FieldType.int) ∈ TBL := tbl_3 (List.mem_of_getElem? (i := 181) (by rfl)) rfl
theorem tb_3_182 : Cond.methodLink RX7 257 yX7_minutesBy ∈ TBL := tbl_3 (List.mem_of_getElem? (i := 182) (by decide +kernel)) rfl
theorem tb_3_183 : Cond.methodLink RL 123 yX7_day ∈ TBL := tbl_3 (List.mem_of_getElem? (i := 183) (by decide +kernel)) rfl
theorem tb_3_184 : Cond.instanceMethod yX7_day ∈ TBL := tbl_3 (List.mem_of_getElem? (i := 184) (by decide +kernel)) rfl
theorem tb_3_185 : Cond.selects RX7 yX7_day yX7_day ∈ TBL := tbl_3 (List.mem_of_getElem? (i := 185) (by decide +kernel)) rfl
theorem tb_3_186 : Cond.code yX7_day prog_1_method_27_code 5 (some FieldType.int) ∈ TBL := tbl_3 (List.mem_of_getElem? (i := 186) (by rfl)) rfl
theorem tb_3_187 : Cond.methodLink RX7 260 yX0_arrange ∈ TBL := tbl_3 (List.mem_of_getElem? (i := 187) (by decide +kernel)) rfl
theorem tb_3_188 : Cond.instanceMethod yX0_arrange ∈ TBL := tbl_3 (List.mem_of_getElem? (i := 188) (by decide +kernel)) rfl
theorem tb_3_189 : Cond.selects RX0 yX0_arrange yX0_arrange ∈ TBL := tbl_3 (List.mem_of_getElem? (i := 189) (by decide +kernel)) rfl
theorem tb_3_190 : Cond.code yX0_arrange prog_2_method_3_code 3 (some FieldType.int) ∈ TBL := tbl_3 (List.mem_of_getElem? (i := 190) (by rfl)) rfl
theorem tb_3_191 : Cond.constant RX0 35 (2147483647 : Int32) ∈ TBL := tbl_3 (List.mem_of_getElem? (i := 191) (by decide +kernel)) rfl
theorem tb_3_192 : Cond.methodLink RX0 36 yX0_tryNext ∈ TBL := tbl_3 (List.mem_of_getElem? (i := 192) (by decide +kernel)) rfl
theorem tb_3_194 : Cond.instanceMethod yX0_tryNext ∈ TBL := tbl_3 (List.mem_of_getElem? (i := 194) (by decide +kernel)) rfl
theorem tb_3_195 : Cond.code yX0_tryNext prog_2_method_5_code 7 none ∈ TBL := tbl_3 (List.mem_of_getElem? (i := 195) (by rfl)) rfl
theorem tb_3_196 : Cond.methodLink RX0 40 yX0_keepBetter ∈ TBL := tbl_3 (List.mem_of_getElem? (i := 196) (by decide +kernel)) rfl
theorem tb_3_198 : Cond.instanceMethod yX0_keepBetter ∈ TBL := tbl_3 (List.mem_of_getElem? (i := 198) (by decide +kernel)) rfl
theorem tb_3_199 : Cond.code yX0_keepBetter prog_2_method_6_code 3 none ∈ TBL := tbl_3 (List.mem_of_getElem? (i := 199) (by rfl)) rfl
theorem tb_3_200 : Cond.methodLink RX0 48 arraycopyName ∈ TBL := tbl_3 (List.mem_of_getElem? (i := 200) (by decide +kernel)) rfl
theorem tb_3_202 : Cond.methodLink RX7 263 yX0_goes ∈ TBL := tbl_3 (List.mem_of_getElem? (i := 202) (by decide +kernel)) rfl
theorem tb_3_203 : Cond.instanceMethod yX0_goes ∈ TBL := tbl_3 (List.mem_of_getElem? (i := 203) (by decide +kernel)) rfl
theorem tb_3_204 : Cond.selects RX0 yX0_goes yX0_goes ∈ TBL := tbl_3 (List.mem_of_getElem? (i := 204) (by decide +kernel)) rfl
theorem tb_3_205 : Cond.code yX0_goes prog_2_method_4_code 2 (some FieldType.int) ∈ TBL := tbl_3 (List.mem_of_getElem? (i := 205) (by rfl)) rfl
theorem tb_3_206 : Cond.methodLink RL 127 yX7_dredged ∈ TBL := tbl_3 (List.mem_of_getElem? (i := 206) (by decide +kernel)) rfl
theorem tb_3_207 : Cond.instanceMethod yX7_dredged ∈ TBL := tbl_3 (List.mem_of_getElem? (i := 207) (by decide +kernel)) rfl
theorem tb_3_208 : Cond.selects RX7 yX7_dredged yX7_dredged ∈ TBL := tbl_3 (List.mem_of_getElem? (i := 208) (by decide +kernel)) rfl
theorem tb_3_209 : Cond.code yX7_dredged prog_1_method_28_code 9 (some FieldType.int) ∈ TBL := tbl_3 (List.mem_of_getElem? (i := 209) (by rfl)) rfl
theorem tb_3_210 : Cond.methodLink RX7 272 yX2_ruleMile ∈ TBL := tbl_3 (List.mem_of_getElem? (i := 210) (by decide +kernel)) rfl
theorem tb_3_211 : Cond.methodLink RL 131 yX7_lost ∈ TBL := tbl_3 (List.mem_of_getElem? (i := 211) (by decide +kernel)) rfl
theorem tb_3_212 : Cond.instanceMethod yX7_lost ∈ TBL := tbl_3 (List.mem_of_getElem? (i := 212) (by decide +kernel)) rfl
theorem tb_3_213 : Cond.selects RX7 yX7_lost yX7_lost ∈ TBL := tbl_3 (List.mem_of_getElem? (i := 213) (by decide +kernel)) rfl
theorem tb_3_214 : Cond.code yX7_lost prog_1_method_29_code 7 (some FieldType.int) ∈ TBL := tbl_3 (List.mem_of_getElem? (i := 214) (by rfl)) rfl
theorem tb_3_215 : Cond.methodLink RX7 275 yX5_keepTo ∈ TBL := tbl_3 (List.mem_of_getElem? (i := 215) (by decide +kernel)) rfl
theorem tb_3_216 : Cond.methodLink RL 135 yX7_touched ∈ TBL := tbl_3 (List.mem_of_getElem? (i := 216) (by decide +kernel)) rfl
theorem tb_3_217 : Cond.instanceMethod yX7_touched ∈ TBL := tbl_3 (List.mem_of_getElem? (i := 217) (by decide +kernel)) rfl
theorem tb_3_218 : Cond.selects RX7 yX7_touched yX7_touched ∈ TBL := tbl_3 (List.mem_of_getElem? (i := 218) (by decide +kernel)) rfl
theorem tb_3_219 : Cond.code yX7_touched prog_1_method_30_code 7 (some FieldType.int) ∈ TBL := tbl_3 (List.mem_of_getElem? (i := 219) (by rfl)) rfl
theorem tb_3_220 : Cond.methodLink RL 139 yX7_past ∈ TBL := tbl_3 (List.mem_of_getElem? (i := 220) (by decide +kernel)) rfl
theorem tb_3_221 : Cond.instanceMethod yX7_past ∈ TBL := tbl_3 (List.mem_of_getElem? (i := 221) (by decide +kernel)) rfl
theorem tb_3_222 : Cond.selects RX7 yX7_past yX7_past ∈ TBL := tbl_3 (List.mem_of_getElem? (i := 222) (by decide +kernel)) rfl
theorem tb_3_223 : Cond.code yX7_past prog_1_method_31_code 6 (some FieldType.int) ∈ TBL := tbl_3 (List.mem_of_getElem? (i := 223) (by rfl)) rfl
theorem tb_3_224 : Cond.methodLink RL 143 yX7_image ∈ TBL := tbl_3 (List.mem_of_getElem? (i := 224) (by decide +kernel)) rfl
theorem tb_3_225 : Cond.instanceMethod yX7_image ∈ TBL := tbl_3 (List.mem_of_getElem? (i := 225) (by decide +kernel)) rfl
theorem tb_3_226 : Cond.selects RX7 yX7_image yX7_image ∈ TBL := tbl_3 (List.mem_of_getElem? (i := 226) (by decide +kernel)) rfl
theorem tb_3_227 : Cond.code yX7_image prog_1_method_32_code 1 (some FieldType.int) ∈ TBL := tbl_3 (List.mem_of_getElem? (i := 227) (by rfl)) rfl
theorem tb_3_228 : Cond.methodLink RX7 282 yX1_take ∈ TBL := tbl_3 (List.mem_of_getElem? (i := 228) (by decide +kernel)) rfl
theorem tb_3_229 : Cond.instanceMethod yX1_take ∈ TBL := tbl_3 (List.mem_of_getElem? (i := 229) (by decide +kernel)) rfl
theorem tb_3_230 : Cond.selects RX1 yX1_take yX1_take ∈ TBL := tbl_3 (List.mem_of_getElem? (i := 230) (by decide +kernel)) rfl
theorem tb_3_231 : Cond.code yX1_take prog_3_method_2_code 2 none ∈ TBL := tbl_3 (List.mem_of_getElem? (i := 231) (by rfl)) rfl
theorem tb_3_232 : Cond.methodLink RL 147 yX7_restore ∈ TBL := tbl_3 (List.mem_of_getElem? (i := 232) (by decide +kernel)) rfl
theorem tb_3_233 : Cond.instanceMethod yX7_restore ∈ TBL := tbl_3 (List.mem_of_getElem? (i := 233) (by decide +kernel)) rfl
theorem tb_3_234 : Cond.selects RX7 yX7_restore yX7_restore ∈ TBL := tbl_3 (List.mem_of_getElem? (i := 234) (by decide +kernel)) rfl
theorem tb_3_235 : Cond.code yX7_restore prog_1_method_33_code 1 (some FieldType.int) ∈ TBL := tbl_3 (List.mem_of_getElem? (i := 235) (by rfl)) rfl
theorem tb_3_236 : Cond.methodLink RL 151 yX7_gauged ∈ TBL := tbl_3 (List.mem_of_getElem? (i := 236) (by decide +kernel)) rfl
theorem tb_3_237 : Cond.instanceMethod yX7_gauged ∈ TBL := tbl_3 (List.mem_of_getElem? (i := 237) (by decide +kernel)) rfl
theorem tb_3_238 : Cond.selects RX7 yX7_gauged yX7_gauged ∈ TBL := tbl_3 (List.mem_of_getElem? (i := 238) (by decide +kernel)) rfl
theorem tb_3_239 : Cond.code yX7_gauged prog_1_method_34_code 8 (some FieldType.int) ∈ TBL := tbl_3 (List.mem_of_getElem? (i := 239) (by rfl)) rfl
theorem tb_4_0 : Cond.methodLink RX7 285 yX3_refusal ∈ TBL := tbl_4 (List.mem_of_getElem? (i := 0) (by decide +kernel)) rfl
theorem tb_4_1 : Cond.instanceMethod yX3_refusal ∈ TBL := tbl_4 (List.mem_of_getElem? (i := 1) (by decide +kernel)) rfl
theorem tb_4_2 : Cond.selects RX3 yX3_refusal yX3_refusal ∈ TBL := tbl_4 (List.mem_of_getElem? (i := 2) (by decide +kernel)) rfl
theorem tb_4_3 : Cond.code yX3_refusal prog_5_method_4_code 5 (some FieldType.int) ∈ TBL := tbl_4 (List.mem_of_getElem? (i := 3) (by rfl)) rfl
theorem tb_4_4 : Cond.methodLink RX3 23 yX3_isSheet ∈ TBL := tbl_4 (List.mem_of_getElem? (i := 4) (by decide +kernel)) rfl
theorem tb_4_5 : Cond.static yX3_isSheet ∈ TBL := tbl_4 (List.mem_of_getElem? (i := 5) (by decide +kernel)) rfl
theorem tb_4_6 : Cond.code yX3_isSheet prog_5_method_8_code 1 (some FieldType.boolean) ∈ TBL := tbl_4 (List.mem_of_getElem? (i := 6) (by rfl)) rfl
theorem tb_4_8 : Cond.methodLink RX3 27 yX3_isLane ∈ TBL := tbl_4 (List.mem_of_getElem? (i := 8) (by decide +kernel)) rfl
theorem tb_4_9 : Cond.static yX3_isLane ∈ TBL := tbl_4 (List.mem_of_getElem? (i := 9) (by decide +kernel)) rfl
theorem tb_4_10 : Cond.code yX3_isLane prog_5_method_9_code 1 (some FieldType.boolean) ∈ TBL := tbl_4 (List.mem_of_getElem? (i := 10) (by rfl)) rfl
theorem tb_4_11 : Cond.methodLink RX3 30 yX3_isNothing ∈ TBL := tbl_4 (List.mem_of_getElem? (i := 11) (by decide +kernel)) rfl
theorem tb_4_13 : Cond.instanceMethod yX3_isNothing ∈ TBL := tbl_4 (List.mem_of_getElem? (i := 13) (by decide +kernel)) rfl
theorem tb_4_14 : Cond.code yX3_isNothing prog_5_method_10_code 2 (some FieldType.boolean) ∈ TBL := tbl_4 (List.mem_of_getElem? (i := 14) (by rfl)) rfl
theorem tb_4_15 : Cond.methodLink RX3 33 yX3_hasItems ∈ TBL := tbl_4 (List.mem_of_getElem? (i := 15) (by decide +kernel)) rfl
theorem tb_4_17 : Cond.instanceMethod yX3_hasItems ∈ TBL := tbl_4 (List.mem_of_getElem? (i := 17) (by decide +kernel)) rfl
theorem tb_4_18 : Cond.code yX3_hasItems prog_5_method_11_code 4 (some FieldType.boolean) ∈ TBL := tbl_4 (List.mem_of_getElem? (i := 18) (by rfl)) rfl
theorem tb_4_19 : Cond.methodLink RX7 288 yX3_get ∈ TBL := tbl_4 (List.mem_of_getElem? (i := 19) (by decide +kernel)) rfl
theorem tb_4_20 : Cond.instanceMethod yX3_get ∈ TBL := tbl_4 (List.mem_of_getElem? (i := 20) (by decide +kernel)) rfl
theorem tb_4_21 : Cond.selects RX3 yX3_get yX3_get ∈ TBL := tbl_4 (List.mem_of_getElem? (i := 21) (by decide +kernel)) rfl
theorem tb_4_22 : Cond.code yX3_get prog_5_method_5_code 3 (some FieldType.int) ∈ TBL := tbl_4 (List.mem_of_getElem? (i := 22) (by rfl)) rfl
theorem tb_4_23 : Cond.methodLink RX7 291 yX7_latesBy ∈ TBL := tbl_4 (List.mem_of_getElem? (i := 23) (by decide +kernel)) rfl
theorem tb_4_25 : Cond.instanceMethod yX7_latesBy ∈ TBL := tbl_4 (List.mem_of_getElem? (i := 25) (by decide +kernel)) rfl
theorem tb_4_26 : Cond.code yX7_latesBy prog_1_method_48_code 9 (some FieldType.int) ∈ TBL := tbl_4 (List.mem_of_getElem? (i := 26) (by rfl)) rfl
theorem tb_4_27 : Cond.methodLink RX7 310 yX7_isLate ∈ TBL := tbl_4 (List.mem_of_getElem? (i := 27) (by decide +kernel)) rfl
theorem tb_4_29 : Cond.instanceMethod yX7_isLate ∈ TBL := tbl_4 (List.mem_of_getElem? (i := 29) (by decide +kernel)) rfl
theorem tb_4_30 : Cond.code yX7_isLate prog_1_method_49_code 7 (some FieldType.boolean) ∈ TBL := tbl_4 (List.mem_of_getElem? (i := 30) (by rfl)) rfl
theorem tb_4_31 : Cond.methodLink RX7 313 yX1_tideBy ∈ TBL := tbl_4 (List.mem_of_getElem? (i := 31) (by decide +kernel)) rfl
theorem tb_4_32 : Cond.methodLink RL 155 yX7_sheet ∈ TBL := tbl_4 (List.mem_of_getElem? (i := 32) (by decide +kernel)) rfl
theorem tb_4_33 : Cond.instanceMethod yX7_sheet ∈ TBL := tbl_4 (List.mem_of_getElem? (i := 33) (by decide +kernel)) rfl
theorem tb_4_34 : Cond.selects RX7 yX7_sheet yX7_sheet ∈ TBL := tbl_4 (List.mem_of_getElem? (i := 34) (by decide +kernel)) rfl
theorem tb_4_35 : Cond.code yX7_sheet prog_1_method_35_code 4 (some FieldType.int) ∈ TBL := tbl_4 (List.mem_of_getElem? (i := 35) (by rfl)) rfl
theorem tb_4_36 : Cond.methodLink RX7 294 yX3_begin ∈ TBL := tbl_4 (List.mem_of_getElem? (i := 36) (by decide +kernel)) rfl
theorem tb_4_37 : Cond.instanceMethod yX3_begin ∈ TBL := tbl_4 (List.mem_of_getElem? (i := 37) (by decide +kernel)) rfl
theorem tb_4_38 : Cond.selects RX3 yX3_begin yX3_begin ∈ TBL := tbl_4 (List.mem_of_getElem? (i := 38) (by decide +kernel)) rfl
theorem tb_4_39 : Cond.code yX3_begin prog_5_method_2_code 5 (some FieldType.int) ∈ TBL := tbl_4 (List.mem_of_getElem? (i := 39) (by rfl)) rfl
theorem tb_4_40 : Cond.methodLink RL 159 yX7_drop ∈ TBL := tbl_4 (List.mem_of_getElem? (i := 40) (by decide +kernel)) rfl
theorem tb_4_41 : Cond.instanceMethod yX7_drop ∈ TBL := tbl_4 (List.mem_of_getElem? (i := 41) (by decide +kernel)) rfl
theorem tb_4_42 : Cond.selects RX7 yX7_drop yX7_drop ∈ TBL := tbl_4 (List.mem_of_getElem? (i := 42) (by decide +kernel)) rfl
theorem tb_4_43 : Cond.code yX7_drop prog_1_method_36_code 2 (some FieldType.int) ∈ TBL := tbl_4 (List.mem_of_getElem? (i := 43) (by rfl)) rfl
theorem tb_4_44 : Cond.methodLink RX7 296 yX3_forget ∈ TBL := tbl_4 (List.mem_of_getElem? (i := 44) (by decide +kernel)) rfl
theorem tb_4_45 : Cond.instanceMethod yX3_forget ∈ TBL := tbl_4 (List.mem_of_getElem? (i := 45) (by decide +kernel)) rfl
theorem tb_4_46 : Cond.selects RX3 yX3_forget yX3_forget ∈ TBL := tbl_4 (List.mem_of_getElem? (i := 46) (by decide +kernel)) rfl
theorem tb_4_47 : Cond.code yX3_forget prog_5_method_3_code 2 (some FieldType.int) ∈ TBL := tbl_4 (List.mem_of_getElem? (i := 47) (by rfl)) rfl
theorem tb_4_48 : Cond.methodLink RL 163 yX7_item ∈ TBL := tbl_4 (List.mem_of_getElem? (i := 48) (by decide +kernel)) rfl
theorem tb_4_49 : Cond.instanceMethod yX7_item ∈ TBL := tbl_4 (List.mem_of_getElem? (i := 49) (by decide +kernel)) rfl
theorem tb_4_50 : Cond.selects RX7 yX7_item yX7_item ∈ TBL := tbl_4 (List.mem_of_getElem? (i := 50) (by decide +kernel)) rfl
theorem tb_4_51 : Cond.code yX7_item prog_1_method_37_code 6 (some FieldType.int) ∈ TBL := tbl_4 (List.mem_of_getElem? (i := 51) (by rfl)) rfl
theorem tb_4_52 : Cond.methodLink RX7 299 yX3_put ∈ TBL := tbl_4 (List.mem_of_getElem? (i := 52) (by decide +kernel)) rfl
theorem tb_4_53 : Cond.instanceMethod yX3_put ∈ TBL := tbl_4 (List.mem_of_getElem? (i := 53) (by decide +kernel)) rfl
theorem tb_4_54 : Cond.selects RX3 yX3_put yX3_put ∈ TBL := tbl_4 (List.mem_of_getElem? (i := 54) (by decide +kernel)) rfl
theorem tb_4_55 : Cond.code yX3_put prog_5_method_6_code 5 none ∈ TBL := tbl_4 (List.mem_of_getElem? (i := 55) (by rfl)) rfl
theorem tb_4_56 : Cond.methodLink RL 167 yX7_copy ∈ TBL := tbl_4 (List.mem_of_getElem? (i := 56) (by decide +kernel)) rfl
theorem tb_4_57 : Cond.instanceMethod yX7_copy ∈ TBL := tbl_4 (List.mem_of_getElem? (i := 57) (by decide +kernel)) rfl
theorem tb_4_58 : Cond.selects RX7 yX7_copy yX7_copy ∈ TBL := tbl_4 (List.mem_of_getElem? (i := 58) (by decide +kernel)) rfl
theorem tb_4_59 : Cond.code yX7_copy prog_1_method_38_code 6 (some FieldType.int) ∈ TBL := tbl_4 (List.mem_of_getElem? (i := 59) (by rfl)) rfl
theorem tb_4_60 : Cond.methodLink RX7 303 yX3_move ∈ TBL := tbl_4 (List.mem_of_getElem? (i := 60) (by decide +kernel)) rfl
theorem tb_4_61 : Cond.instanceMethod yX3_move ∈ TBL := tbl_4 (List.mem_of_getElem? (i := 61) (by decide +kernel)) rfl
theorem tb_4_62 : Cond.selects RX3 yX3_move yX3_move ∈ TBL := tbl_4 (List.mem_of_getElem? (i := 62) (by decide +kernel)) rfl
theorem tb_4_63 : Cond.code yX3_move prog_5_method_7_code 6 (some FieldType.int) ∈ TBL := tbl_4 (List.mem_of_getElem? (i := 63) (by rfl)) rfl
theorem tb_4_64 : Cond.methodLink RX3 37 arraycopyName ∈ TBL := tbl_4 (List.mem_of_getElem? (i := 64) (by decide +kernel)) rfl
theorem tb_4_65 : Cond.classLink RL 10 "DeepShipModel" ∈ TBL := tbl_4 (List.mem_of_getElem? (i := 65) (by decide +kernel)) rfl
theorem tb_4_66 : Cond.instantiable RX8 29 ∈ TBL := tbl_4 (List.mem_of_getElem? (i := 66) (by decide +kernel)) rfl
theorem tb_4_67 : Cond.methodLink RL 12 yX8_init ∈ TBL := tbl_4 (List.mem_of_getElem? (i := 67) (by decide +kernel)) rfl
theorem tb_4_68 : Cond.instanceMethod yX8_init ∈ TBL := tbl_4 (List.mem_of_getElem? (i := 68) (by decide +kernel)) rfl
theorem tb_4_69 : Cond.code yX8_init prog_10_method_3_code 2 none ∈ TBL := tbl_4 (List.mem_of_getElem? (i := 69) (by rfl)) rfl
theorem tb_4_70 : Cond.methodLink RX8 1 objectInit ∈ TBL := tbl_4 (List.mem_of_getElem? (i := 70) (by decide +kernel)) rfl
theorem tb_4_71 : Cond.fieldLink RX8 69 "DeepShipModel" "miles" "I" ∈ TBL := tbl_4 (List.mem_of_getElem? (i := 71) (by decide +kernel)) rfl
theorem tb_4_72 : Cond.fieldLink RX8 7 "DeepShipModel" "parts" "[I" ∈ TBL := tbl_4 (List.mem_of_getElem? (i := 72) (by decide +kernel)) rfl
theorem tb_4_73 : Cond.fieldLink RX8 13 "DeepShipModel" "heights" "[I" ∈ TBL := tbl_4 (List.mem_of_getElem? (i := 73) (by decide +kernel)) rfl
theorem tb_4_74 : Cond.fieldLink RX8 16 "DeepShipModel" "sets" "[I" ∈ TBL := tbl_4 (List.mem_of_getElem? (i := 74) (by decide +kernel)) rfl
theorem tb_4_75 : Cond.fieldLink RX8 77 "DeepShipModel" "ships" "I" ∈ TBL := tbl_4 (List.mem_of_getElem? (i := 75) (by decide +kernel)) rfl
theorem tb_4_76 : Cond.fieldLink RX8 19 "DeepShipModel" "hulls" "[I" ∈ TBL := tbl_4 (List.mem_of_getElem? (i := 76) (by decide +kernel)) rfl
theorem tb_4_77 : Cond.fieldLink RX8 22 "DeepShipModel" "tape" "[I" ∈ TBL := tbl_4 (List.mem_of_getElem? (i := 77) (by decide +kernel)) rfl
theorem tb_4_78 : Cond.fieldLink RX8 130 "DeepShipModel" "taped" "I" ∈ TBL := tbl_4 (List.mem_of_getElem? (i := 78) (by decide +kernel)) rfl
theorem tb_4_79 : Cond.fieldLink RX8 133 "DeepShipModel" "at" "I" ∈ TBL := tbl_4 (List.mem_of_getElem? (i := 79) (by decide +kernel)) rfl
theorem tb_4_80 : Cond.fieldLink RX8 136 "DeepShipModel" "wrong" "Z" ∈ TBL := tbl_4 (List.mem_of_getElem? (i := 80) (by decide +kernel)) rfl
theorem tb_4_81 : Cond.fieldLink RX8 25 "DeepShipModel" "read" "[I" ∈ TBL := tbl_4 (List.mem_of_getElem? (i := 81) (by decide +kernel)) rfl
theorem tb_4_82 : Cond.fieldLink RX8 188 "DeepShipModel" "touchedAt" "I" ∈ TBL := tbl_4 (List.mem_of_getElem? (i := 82) (by decide +kernel)) rfl
theorem tb_4_83 : Cond.fieldLink RX8 191 "DeepShipModel" "minutes" "I" ∈ TBL := tbl_4 (List.mem_of_getElem? (i := 83) (by decide +kernel)) rfl
theorem tb_4_84 : Cond.fieldLink RX8 195 "DeepShipModel" "leastUnder" "I" ∈ TBL := tbl_4 (List.mem_of_getElem? (i := 84) (by decide +kernel)) rfl
theorem tb_4_85 : Cond.fieldLink RX8 198 "DeepShipModel" "byRule" "Z" ∈ TBL := tbl_4 (List.mem_of_getElem? (i := 85) (by decide +kernel)) rfl
theorem tb_4_86 : Cond.fieldLink RX8 28 "DeepShipModel" "left" "[I" ∈ TBL := tbl_4 (List.mem_of_getElem? (i := 86) (by decide +kernel)) rfl
theorem tb_4_87 : Cond.fieldLink RX8 31 "DeepShipModel" "paceBy" "[I" ∈ TBL := tbl_4 (List.mem_of_getElem? (i := 87) (by decide +kernel)) rfl
theorem tb_4_88 : Cond.fieldLink RX8 34 "DeepShipModel" "may" "[Z" ∈ TBL := tbl_4 (List.mem_of_getElem? (i := 88) (by decide +kernel)) rfl
theorem tb_4_89 : Cond.fieldLink RX8 38 "DeepShipModel" "mayNext" "[Z" ∈ TBL := tbl_4 (List.mem_of_getElem? (i := 89) (by decide +kernel)) rfl
theorem tb_4_90 : Cond.fieldLink RX8 41 "DeepShipModel" "off" "[J" ∈ TBL := tbl_4 (List.mem_of_getElem? (i := 90) (by decide +kernel)) rfl
theorem tb_4_91 : Cond.fieldLink RX8 45 "DeepShipModel" "nextStart" "[I" ∈ TBL := tbl_4 (List.mem_of_getElem? (i := 91) (by decide +kernel)) rfl
theorem tb_4_92 : Cond.fieldLink RX8 48 "DeepShipModel" "order" "[I" ∈ TBL := tbl_4 (List.mem_of_getElem? (i := 92) (by decide +kernel)) rfl
theorem tb_4_93 : Cond.fieldLink RX8 51 "DeepShipModel" "bestOrder" "[I" ∈ TBL := tbl_4 (List.mem_of_getElem? (i := 93) (by decide +kernel)) rfl
theorem tb_4_94 : Cond.fieldLink RX8 54 "DeepShipModel" "image" "[I" ∈ TBL := tbl_4 (List.mem_of_getElem? (i := 94) (by decide +kernel)) rfl
theorem tb_4_95 : Cond.fieldLink RX8 242 "DeepShipModel" "isImage" "Z" ∈ TBL := tbl_4 (List.mem_of_getElem? (i := 95) (by decide +kernel)) rfl
theorem tb_4_96 : Cond.fieldLink RX8 57 "DeepShipModel" "lanes" "[I" ∈ TBL := tbl_4 (List.mem_of_getElem? (i := 96) (by decide +kernel)) rfl
theorem tb_4_97 : Cond.fieldLink RX8 60 "DeepShipModel" "sizes" "[I" ∈ TBL := tbl_4 (List.mem_of_getElem? (i := 97) (by decide +kernel)) rfl
theorem tb_4_98 : Cond.fieldLink RX8 63 "DeepShipModel" "items" "[I" ∈ TBL := tbl_4 (List.mem_of_getElem? (i := 98) (by decide +kernel)) rfl
theorem tb_4_99 : Cond.fieldLink RX8 66 "DeepShipModel" "moved" "[I" ∈ TBL := tbl_4 (List.mem_of_getElem? (i := 99) (by decide +kernel)) rfl
theorem tb_4_160 : Cond.methodLink RL 17 yX8_mile ∈ TBL := tbl_4 (List.mem_of_getElem? (i := 160) (by decide +kernel)) rfl
theorem tb_4_161 : Cond.instanceMethod yX8_mile ∈ TBL := tbl_4 (List.mem_of_getElem? (i := 161) (by decide +kernel)) rfl
theorem tb_4_162 : Cond.selects RX8 yX8_mile yX8_mile ∈ TBL := tbl_4 (List.mem_of_getElem? (i := 162) (by decide +kernel)) rfl
theorem tb_4_163 : Cond.code yX8_mile prog_10_method_10_code 3 (some FieldType.int) ∈ TBL := tbl_4 (List.mem_of_getElem? (i := 163) (by rfl)) rfl
theorem tb_4_164 : Cond.methodLink RX8 96 yX8_isPart ∈ TBL := tbl_4 (List.mem_of_getElem? (i := 164) (by decide +kernel)) rfl
theorem tb_4_165 : Cond.static yX8_isPart ∈ TBL := tbl_4 (List.mem_of_getElem? (i := 165) (by decide +kernel)) rfl
theorem tb_4_166 : Cond.code yX8_isPart prog_10_method_8_code 2 (some FieldType.boolean) ∈ TBL := tbl_4 (List.mem_of_getElem? (i := 166) (by rfl)) rfl
theorem tb_4_167 : Cond.constantLong RX8 84 (20 : Int64) ∈ TBL := tbl_4 (List.mem_of_getElem? (i := 167) (by decide +kernel)) rfl
theorem tb_4_168 : Cond.constantLong RX8 86 (250 : Int64) ∈ TBL := tbl_4 (List.mem_of_getElem? (i := 168) (by decide +kernel)) rfl
theorem tb_4_169 : Cond.methodLink RX8 73 yX8_in ∈ TBL := tbl_4 (List.mem_of_getElem? (i := 169) (by decide +kernel)) rfl
theorem tb_4_170 : Cond.static yX8_in ∈ TBL := tbl_4 (List.mem_of_getElem? (i := 170) (by decide +kernel)) rfl
theorem tb_4_171 : Cond.code yX8_in prog_10_method_2_code 6 (some FieldType.boolean) ∈ TBL := tbl_4 (List.mem_of_getElem? (i := 171) (by rfl)) rfl
theorem tb_4_172 : Cond.constantLong RX8 88 (10 : Int64) ∈ TBL := tbl_4 (List.mem_of_getElem? (i := 172) (by decide +kernel)) rfl
theorem tb_4_173 : Cond.constantLong RX8 90 (99 : Int64) ∈ TBL := tbl_4 (List.mem_of_getElem? (i := 173) (by decide +kernel)) rfl
theorem tb_4_174 : Cond.constantLong RX8 92 (9 : Int64) ∈ TBL := tbl_4 (List.mem_of_getElem? (i := 174) (by decide +kernel)) rfl
theorem tb_4_175 : Cond.constantLong RX8 94 (40 : Int64) ∈ TBL := tbl_4 (List.mem_of_getElem? (i := 175) (by decide +kernel)) rfl
theorem tb_4_176 : Cond.methodLink RX8 100 yX8_mileIs ∈ TBL := tbl_4 (List.mem_of_getElem? (i := 176) (by decide +kernel)) rfl
theorem tb_4_178 : Cond.instanceMethod yX8_mileIs ∈ TBL := tbl_4 (List.mem_of_getElem? (i := 178) (by decide +kernel)) rfl
theorem tb_4_179 : Cond.code yX8_mileIs prog_10_method_9_code 7 none ∈ TBL := tbl_4 (List.mem_of_getElem? (i := 179) (by rfl)) rfl
theorem tb_4_180 : Cond.methodLink RL 22 yX8_make ∈ TBL := tbl_4 (List.mem_of_getElem? (i := 180) (by decide +kernel)) rfl
theorem tb_4_181 : Cond.instanceMethod yX8_make ∈ TBL := tbl_4 (List.mem_of_getElem? (i := 181) (by decide +kernel)) rfl
theorem tb_4_182 : Cond.selects RX8 yX8_make yX8_make ∈ TBL := tbl_4 (List.mem_of_getElem? (i := 182) (by decide +kernel)) rfl
theorem tb_4_183 : Cond.code yX8_make prog_10_method_11_code 5 (some FieldType.int) ∈ TBL := tbl_4 (List.mem_of_getElem? (i := 183) (by rfl)) rfl
theorem tb_4_184 : Cond.methodLink RX8 104 yX8_isMile ∈ TBL := tbl_4 (List.mem_of_getElem? (i := 184) (by decide +kernel)) rfl
theorem tb_4_186 : Cond.instanceMethod yX8_isMile ∈ TBL := tbl_4 (List.mem_of_getElem? (i := 186) (by decide +kernel)) rfl
theorem tb_4_187 : Cond.code yX8_isMile prog_10_method_4_code 2 (some FieldType.boolean) ∈ TBL := tbl_4 (List.mem_of_getElem? (i := 187) (by rfl)) rfl
theorem tb_4_188 : Cond.methodLink RL 26 yX8_told ∈ TBL := tbl_4 (List.mem_of_getElem? (i := 188) (by decide +kernel)) rfl
theorem tb_4_189 : Cond.instanceMethod yX8_told ∈ TBL := tbl_4 (List.mem_of_getElem? (i := 189) (by decide +kernel)) rfl
theorem tb_4_190 : Cond.selects RX8 yX8_told yX8_told ∈ TBL := tbl_4 (List.mem_of_getElem? (i := 190) (by decide +kernel)) rfl
theorem tb_4_191 : Cond.code yX8_told prog_10_method_12_code 3 (some FieldType.int) ∈ TBL := tbl_4 (List.mem_of_getElem? (i := 191) (by rfl)) rfl
theorem tb_4_192 : Cond.constantLong RX8 108 (5 : Int64) ∈ TBL := tbl_4 (List.mem_of_getElem? (i := 192) (by decide +kernel)) rfl
theorem tb_4_193 : Cond.methodLink RL 30 yX8_height ∈ TBL := tbl_4 (List.mem_of_getElem? (i := 193) (by decide +kernel)) rfl
theorem tb_4_194 : Cond.instanceMethod yX8_height ∈ TBL := tbl_4 (List.mem_of_getElem? (i := 194) (by decide +kernel)) rfl
theorem tb_4_195 : Cond.selects RX8 yX8_height yX8_height ∈ TBL := tbl_4 (List.mem_of_getElem? (i := 195) (by decide +kernel)) rfl
theorem tb_4_196 : Cond.code yX8_height prog_10_method_13_code 4 (some FieldType.int) ∈ TBL := tbl_4 (List.mem_of_getElem? (i := 196) (by rfl)) rfl
theorem tb_4_197 : Cond.constantLong RX8 110 (23 : Int64) ∈ TBL := tbl_4 (List.mem_of_getElem? (i := 197) (by decide +kernel)) rfl
theorem tb_4_198 : Cond.methodLink RL 34 yX8_set ∈ TBL := tbl_4 (List.mem_of_getElem? (i := 198) (by decide +kernel)) rfl
theorem tb_4_199 : Cond.instanceMethod yX8_set ∈ TBL := tbl_4 (List.mem_of_getElem? (i := 199) (by decide +kernel)) rfl
theorem tb_4_200 : Cond.selects RX8 yX8_set yX8_set ∈ TBL := tbl_4 (List.mem_of_getElem? (i := 200) (by decide +kernel)) rfl
theorem tb_4_201 : Cond.code yX8_set prog_10_method_15_code 4 (some FieldType.int) ∈ TBL := tbl_4 (List.mem_of_getElem? (i := 201) (by rfl)) rfl
theorem tb_4_202 : Cond.methodLink RX8 114 yX8_isSet ∈ TBL := tbl_4 (List.mem_of_getElem? (i := 202) (by decide +kernel)) rfl
theorem tb_4_203 : Cond.static yX8_isSet ∈ TBL := tbl_4 (List.mem_of_getElem? (i := 203) (by decide +kernel)) rfl
theorem tb_4_204 : Cond.code yX8_isSet prog_10_method_14_code 2 (some FieldType.boolean) ∈ TBL := tbl_4 (List.mem_of_getElem? (i := 204) (by rfl)) rfl
theorem tb_4_205 : Cond.constantLong RX8 112 (90 : Int64) ∈ TBL := tbl_4 (List.mem_of_getElem? (i := 205) (by decide +kernel)) rfl
theorem tb_4_206 : Cond.methodLink RL 38 yX8_ship ∈ TBL := tbl_4 (List.mem_of_getElem? (i := 206) (by decide +kernel)) rfl
theorem tb_4_207 : Cond.instanceMethod yX8_ship ∈ TBL := tbl_4 (List.mem_of_getElem? (i := 207) (by decide +kernel)) rfl
theorem tb_4_208 : Cond.selects RX8 yX8_ship yX8_ship ∈ TBL := tbl_4 (List.mem_of_getElem? (i := 208) (by decide +kernel)) rfl
theorem tb_4_209 : Cond.code yX8_ship prog_10_method_16_code 4 (some FieldType.int) ∈ TBL := tbl_4 (List.mem_of_getElem? (i := 209) (by rfl)) rfl
theorem tb_4_210 : Cond.constantLong RX8 117 (200 : Int64) ∈ TBL := tbl_4 (List.mem_of_getElem? (i := 210) (by decide +kernel)) rfl
theorem tb_4_211 : Cond.methodLink RL 42 yX8_pace ∈ TBL := tbl_4 (List.mem_of_getElem? (i := 211) (by decide +kernel)) rfl
theorem tb_4_212 : Cond.instanceMethod yX8_pace ∈ TBL := tbl_4 (List.mem_of_getElem? (i := 212) (by decide +kernel)) rfl
theorem tb_4_213 : Cond.selects RX8 yX8_pace yX8_pace ∈ TBL := tbl_4 (List.mem_of_getElem? (i := 213) (by decide +kernel)) rfl
theorem tb_4_214 : Cond.code yX8_pace prog_10_method_17_code 4 (some FieldType.int) ∈ TBL := tbl_4 (List.mem_of_getElem? (i := 214) (by rfl)) rfl
theorem tb_4_215 : Cond.methodLink RX8 119 yX8_isPace ∈ TBL := tbl_4 (List.mem_of_getElem? (i := 215) (by decide +kernel)) rfl
theorem tb_4_216 : Cond.static yX8_isPace ∈ TBL := tbl_4 (List.mem_of_getElem? (i := 216) (by decide +kernel)) rfl
theorem tb_4_217 : Cond.code yX8_isPace prog_10_method_6_code 1 (some FieldType.boolean) ∈ TBL := tbl_4 (List.mem_of_getElem? (i := 217) (by rfl)) rfl
theorem tb_4_218 : Cond.constantLong RX8 80 (15 : Int64) ∈ TBL := tbl_4 (List.mem_of_getElem? (i := 218) (by decide +kernel)) rfl
theorem tb_4_219 : Cond.methodLink RL 49 yX8_type ∈ TBL := tbl_4 (List.mem_of_getElem? (i := 219) (by decide +kernel)) rfl
theorem tb_4_220 : Cond.instanceMethod yX8_type ∈ TBL := tbl_4 (List.mem_of_getElem? (i := 220) (by decide +kernel)) rfl
theorem tb_4_221 : Cond.selects RX8 yX8_type yX8_type ∈ TBL := tbl_4 (List.mem_of_getElem? (i := 221) (by decide +kernel)) rfl
theorem tb_4_222 : Cond.code yX8_type prog_10_method_18_code 5 (some FieldType.int) ∈ TBL := tbl_4 (List.mem_of_getElem? (i := 222) (by rfl)) rfl
theorem tb_4_223 : Cond.constantLong RX8 122 (8 : Int64) ∈ TBL := tbl_4 (List.mem_of_getElem? (i := 223) (by decide +kernel)) rfl
theorem tb_4_224 : Cond.constantLong RX8 124 (255 : Int64) ∈ TBL := tbl_4 (List.mem_of_getElem? (i := 224) (by decide +kernel)) rfl
theorem tb_4_225 : Cond.constantLong RX8 126 (32 : Int64) ∈ TBL := tbl_4 (List.mem_of_getElem? (i := 225) (by decide +kernel)) rfl
theorem tb_4_226 : Cond.constantLong RX8 128 (126 : Int64) ∈ TBL := tbl_4 (List.mem_of_getElem? (i := 226) (by decide +kernel)) rfl
theorem tb_4_227 : Cond.methodLink RL 54 yX8_channel ∈ TBL := tbl_4 (List.mem_of_getElem? (i := 227) (by decide +kernel)) rfl
theorem tb_4_228 : Cond.instanceMethod yX8_channel ∈ TBL := tbl_4 (List.mem_of_getElem? (i := 228) (by decide +kernel)) rfl
theorem tb_4_229 : Cond.selects RX8 yX8_channel yX8_channel ∈ TBL := tbl_4 (List.mem_of_getElem? (i := 229) (by decide +kernel)) rfl
theorem tb_4_230 : Cond.code yX8_channel prog_10_method_24_code 4 (some FieldType.int) ∈ TBL := tbl_4 (List.mem_of_getElem? (i := 230) (by rfl)) rfl
theorem tb_4_231 : Cond.methodLink RX8 158 yX8_mileClause ∈ TBL := tbl_4 (List.mem_of_getElem? (i := 231) (by decide +kernel)) rfl
theorem tb_4_233 : Cond.instanceMethod yX8_mileClause ∈ TBL := tbl_4 (List.mem_of_getElem? (i := 233) (by decide +kernel)) rfl
theorem tb_4_234 : Cond.code yX8_mileClause prog_10_method_23_code 2 none ∈ TBL := tbl_4 (List.mem_of_getElem? (i := 234) (by rfl)) rfl
theorem tb_4_235 : Cond.methodLink RX8 148 yX8_number ∈ TBL := tbl_4 (List.mem_of_getElem? (i := 235) (by decide +kernel)) rfl
theorem tb_4_237 : Cond.instanceMethod yX8_number ∈ TBL := tbl_4 (List.mem_of_getElem? (i := 237) (by decide +kernel)) rfl
theorem tb_4_238 : Cond.code yX8_number prog_10_method_21_code 5 (some FieldType.int) ∈ TBL := tbl_4 (List.mem_of_getElem? (i := 238) (by rfl)) rfl
theorem tb_4_239 : Cond.methodLink RX8 140 yX8_here ∈ TBL := tbl_4 (List.mem_of_getElem? (i := 239) (by decide +kernel)) rfl
theorem tb_5_1 : Cond.instanceMethod yX8_here ∈ TBL := tbl_5 (List.mem_of_getElem? (i := 1) (by decide +kernel)) rfl
theorem tb_5_2 : Cond.code yX8_here prog_10_method_19_code 1 (some FieldType.int) ∈ TBL := tbl_5 (List.mem_of_getElem? (i := 2) (by rfl)) rfl
theorem tb_5_3 : Cond.constantLong RX8 144 (48 : Int64) ∈ TBL := tbl_5 (List.mem_of_getElem? (i := 3) (by decide +kernel)) rfl
theorem tb_5_4 : Cond.constantLong RX8 146 (57 : Int64) ∈ TBL := tbl_5 (List.mem_of_getElem? (i := 4) (by decide +kernel)) rfl
theorem tb_5_5 : Cond.methodLink RX8 152 yX8_has ∈ TBL := tbl_5 (List.mem_of_getElem? (i := 5) (by decide +kernel)) rfl
theorem tb_5_7 : Cond.instanceMethod yX8_has ∈ TBL := tbl_5 (List.mem_of_getElem? (i := 7) (by decide +kernel)) rfl
theorem tb_5_8 : Cond.code yX8_has prog_10_method_20_code 3 (some FieldType.boolean) ∈ TBL := tbl_5 (List.mem_of_getElem? (i := 8) (by rfl)) rfl
theorem tb_5_9 : Cond.methodLink RX8 155 yX8_digit ∈ TBL := tbl_5 (List.mem_of_getElem? (i := 9) (by decide +kernel)) rfl
theorem tb_5_11 : Cond.instanceMethod yX8_digit ∈ TBL := tbl_5 (List.mem_of_getElem? (i := 11) (by decide +kernel)) rfl
theorem tb_5_12 : Cond.code yX8_digit prog_10_method_22_code 2 (some FieldType.int) ∈ TBL := tbl_5 (List.mem_of_getElem? (i := 12) (by rfl)) rfl
theorem tb_5_13 : Cond.methodLink RL 58 yX8_tides ∈ TBL := tbl_5 (List.mem_of_getElem? (i := 13) (by decide +kernel)) rfl
theorem tb_5_14 : Cond.instanceMethod yX8_tides ∈ TBL := tbl_5 (List.mem_of_getElem? (i := 14) (by decide +kernel)) rfl
theorem tb_5_15 : Cond.selects RX8 yX8_tides yX8_tides ∈ TBL := tbl_5 (List.mem_of_getElem? (i := 15) (by decide +kernel)) rfl
theorem tb_5_16 : Cond.code yX8_tides prog_10_method_25_code 3 (some FieldType.int) ∈ TBL := tbl_5 (List.mem_of_getElem? (i := 16) (by rfl)) rfl
theorem tb_5_17 : Cond.methodLink RL 63 yX8_count ∈ TBL := tbl_5 (List.mem_of_getElem? (i := 17) (by decide +kernel)) rfl
theorem tb_5_18 : Cond.instanceMethod yX8_count ∈ TBL := tbl_5 (List.mem_of_getElem? (i := 18) (by decide +kernel)) rfl
theorem tb_5_19 : Cond.selects RX8 yX8_count yX8_count ∈ TBL := tbl_5 (List.mem_of_getElem? (i := 19) (by decide +kernel)) rfl
theorem tb_5_20 : Cond.code yX8_count prog_10_method_26_code 4 (some FieldType.int) ∈ TBL := tbl_5 (List.mem_of_getElem? (i := 20) (by rfl)) rfl
theorem tb_5_21 : Cond.methodLink RL 67 yX8_tide ∈ TBL := tbl_5 (List.mem_of_getElem? (i := 21) (by decide +kernel)) rfl
theorem tb_5_22 : Cond.instanceMethod yX8_tide ∈ TBL := tbl_5 (List.mem_of_getElem? (i := 22) (by decide +kernel)) rfl
theorem tb_5_23 : Cond.selects RX8 yX8_tide yX8_tide ∈ TBL := tbl_5 (List.mem_of_getElem? (i := 23) (by decide +kernel)) rfl
theorem tb_5_24 : Cond.code yX8_tide prog_10_method_33_code 2 (some FieldType.int) ∈ TBL := tbl_5 (List.mem_of_getElem? (i := 24) (by rfl)) rfl
theorem tb_5_25 : Cond.methodLink RX8 172 yX8_isMinute ∈ TBL := tbl_5 (List.mem_of_getElem? (i := 25) (by decide +kernel)) rfl
theorem tb_5_26 : Cond.static yX8_isMinute ∈ TBL := tbl_5 (List.mem_of_getElem? (i := 26) (by decide +kernel)) rfl
theorem tb_5_27 : Cond.code yX8_isMinute prog_10_method_32_code 1 (some FieldType.boolean) ∈ TBL := tbl_5 (List.mem_of_getElem? (i := 27) (by rfl)) rfl
theorem tb_5_28 : Cond.constantLong RX8 170 (4000 : Int64) ∈ TBL := tbl_5 (List.mem_of_getElem? (i := 28) (by decide +kernel)) rfl
theorem tb_5_29 : Cond.methodLink RX8 162 yX8_tideAt ∈ TBL := tbl_5 (List.mem_of_getElem? (i := 29) (by decide +kernel)) rfl
theorem tb_5_31 : Cond.instanceMethod yX8_tideAt ∈ TBL := tbl_5 (List.mem_of_getElem? (i := 31) (by decide +kernel)) rfl
theorem tb_5_32 : Cond.code yX8_tideAt prog_10_method_27_code 4 (some FieldType.int) ∈ TBL := tbl_5 (List.mem_of_getElem? (i := 32) (by rfl)) rfl
theorem tb_5_33 : Cond.methodLink RL 71 yX8_water ∈ TBL := tbl_5 (List.mem_of_getElem? (i := 33) (by decide +kernel)) rfl
theorem tb_5_34 : Cond.instanceMethod yX8_water ∈ TBL := tbl_5 (List.mem_of_getElem? (i := 34) (by decide +kernel)) rfl
theorem tb_5_35 : Cond.selects RX8 yX8_water yX8_water ∈ TBL := tbl_5 (List.mem_of_getElem? (i := 35) (by decide +kernel)) rfl
theorem tb_5_36 : Cond.code yX8_water prog_10_method_34_code 3 (some FieldType.int) ∈ TBL := tbl_5 (List.mem_of_getElem? (i := 36) (by rfl)) rfl
theorem tb_5_37 : Cond.methodLink RX8 175 yX8_waterAt ∈ TBL := tbl_5 (List.mem_of_getElem? (i := 37) (by decide +kernel)) rfl
theorem tb_5_39 : Cond.instanceMethod yX8_waterAt ∈ TBL := tbl_5 (List.mem_of_getElem? (i := 39) (by decide +kernel)) rfl
theorem tb_5_40 : Cond.code yX8_waterAt prog_10_method_28_code 3 (some FieldType.int) ∈ TBL := tbl_5 (List.mem_of_getElem? (i := 40) (by rfl)) rfl
theorem tb_5_41 : Cond.constant RX8 178 (-100001 : Int32) ∈ TBL := tbl_5 (List.mem_of_getElem? (i := 41) (by decide +kernel)) rfl
theorem tb_5_42 : Cond.methodLink RL 76 yX8_sinks ∈ TBL := tbl_5 (List.mem_of_getElem? (i := 42) (by decide +kernel)) rfl
theorem tb_5_43 : Cond.instanceMethod yX8_sinks ∈ TBL := tbl_5 (List.mem_of_getElem? (i := 43) (by decide +kernel)) rfl
theorem tb_5_44 : Cond.selects RX8 yX8_sinks yX8_sinks ∈ TBL := tbl_5 (List.mem_of_getElem? (i := 44) (by decide +kernel)) rfl
theorem tb_5_45 : Cond.code yX8_sinks prog_10_method_35_code 5 (some FieldType.int) ∈ TBL := tbl_5 (List.mem_of_getElem? (i := 45) (by rfl)) rfl
theorem tb_5_46 : Cond.methodLink RX8 179 yX8_isShip ∈ TBL := tbl_5 (List.mem_of_getElem? (i := 46) (by decide +kernel)) rfl
theorem tb_5_48 : Cond.instanceMethod yX8_isShip ∈ TBL := tbl_5 (List.mem_of_getElem? (i := 48) (by decide +kernel)) rfl
theorem tb_5_49 : Cond.code yX8_isShip prog_10_method_5_code 2 (some FieldType.boolean) ∈ TBL := tbl_5 (List.mem_of_getElem? (i := 49) (by rfl)) rfl
theorem tb_5_50 : Cond.methodLink RX8 166 yX8_sinksBy ∈ TBL := tbl_5 (List.mem_of_getElem? (i := 50) (by decide +kernel)) rfl
theorem tb_5_52 : Cond.instanceMethod yX8_sinksBy ∈ TBL := tbl_5 (List.mem_of_getElem? (i := 52) (by decide +kernel)) rfl
theorem tb_5_53 : Cond.code yX8_sinksBy prog_10_method_29_code 6 (some FieldType.int) ∈ TBL := tbl_5 (List.mem_of_getElem? (i := 53) (by rfl)) rfl
theorem tb_5_54 : Cond.methodLink RL 80 yX8_under ∈ TBL := tbl_5 (List.mem_of_getElem? (i := 54) (by decide +kernel)) rfl
theorem tb_5_55 : Cond.instanceMethod yX8_under ∈ TBL := tbl_5 (List.mem_of_getElem? (i := 55) (by decide +kernel)) rfl
theorem tb_5_56 : Cond.selects RX8 yX8_under yX8_under ∈ TBL := tbl_5 (List.mem_of_getElem? (i := 56) (by decide +kernel)) rfl
theorem tb_5_57 : Cond.code yX8_under prog_10_method_36_code 5 (some FieldType.int) ∈ TBL := tbl_5 (List.mem_of_getElem? (i := 57) (by rfl)) rfl
theorem tb_5_58 : Cond.methodLink RX8 182 yX8_underBy ∈ TBL := tbl_5 (List.mem_of_getElem? (i := 58) (by decide +kernel)) rfl
theorem tb_5_60 : Cond.instanceMethod yX8_underBy ∈ TBL := tbl_5 (List.mem_of_getElem? (i := 60) (by decide +kernel)) rfl
theorem tb_5_61 : Cond.code yX8_underBy prog_10_method_30_code 6 (some FieldType.int) ∈ TBL := tbl_5 (List.mem_of_getElem? (i := 61) (by rfl)) rfl
theorem tb_5_62 : Cond.methodLink RL 84 yX8_need ∈ TBL := tbl_5 (List.mem_of_getElem? (i := 62) (by decide +kernel)) rfl
theorem tb_5_63 : Cond.instanceMethod yX8_need ∈ TBL := tbl_5 (List.mem_of_getElem? (i := 63) (by decide +kernel)) rfl
theorem tb_5_64 : Cond.selects RX8 yX8_need yX8_need ∈ TBL := tbl_5 (List.mem_of_getElem? (i := 64) (by decide +kernel)) rfl
theorem tb_5_65 : Cond.code yX8_need prog_10_method_37_code 2 (some FieldType.int) ∈ TBL := tbl_5 (List.mem_of_getElem? (i := 65) (by rfl)) rfl
theorem tb_5_66 : Cond.methodLink RX8 185 yX8_needOf ∈ TBL := tbl_5 (List.mem_of_getElem? (i := 66) (by decide +kernel)) rfl
theorem tb_5_68 : Cond.instanceMethod yX8_needOf ∈ TBL := tbl_5 (List.mem_of_getElem? (i := 68) (by decide +kernel)) rfl
theorem tb_5_69 : Cond.code yX8_needOf prog_10_method_31_code 2 (some FieldType.int) ∈ TBL := tbl_5 (List.mem_of_getElem? (i := 69) (by rfl)) rfl
theorem tb_5_70 : Cond.methodLink RL 88 yX8_run ∈ TBL := tbl_5 (List.mem_of_getElem? (i := 70) (by decide +kernel)) rfl
theorem tb_5_71 : Cond.instanceMethod yX8_run ∈ TBL := tbl_5 (List.mem_of_getElem? (i := 71) (by decide +kernel)) rfl
theorem tb_5_72 : Cond.selects RX8 yX8_run yX8_run ∈ TBL := tbl_5 (List.mem_of_getElem? (i := 72) (by decide +kernel)) rfl
theorem tb_5_73 : Cond.code yX8_run prog_10_method_39_code 4 (some FieldType.int) ∈ TBL := tbl_5 (List.mem_of_getElem? (i := 73) (by rfl)) rfl
theorem tb_5_74 : Cond.methodLink RX8 201 yX8_isStart ∈ TBL := tbl_5 (List.mem_of_getElem? (i := 74) (by decide +kernel)) rfl
theorem tb_5_75 : Cond.static yX8_isStart ∈ TBL := tbl_5 (List.mem_of_getElem? (i := 75) (by decide +kernel)) rfl
theorem tb_5_76 : Cond.code yX8_isStart prog_10_method_7_code 1 (some FieldType.boolean) ∈ TBL := tbl_5 (List.mem_of_getElem? (i := 76) (by rfl)) rfl
theorem tb_5_77 : Cond.constantLong RX8 82 (1439 : Int64) ∈ TBL := tbl_5 (List.mem_of_getElem? (i := 77) (by decide +kernel)) rfl
theorem tb_5_78 : Cond.constantLong RX8 204 (3 : Int64) ∈ TBL := tbl_5 (List.mem_of_getElem? (i := 78) (by decide +kernel)) rfl
theorem tb_5_79 : Cond.methodLink RX8 206 yX8_goes ∈ TBL := tbl_5 (List.mem_of_getElem? (i := 79) (by decide +kernel)) rfl
theorem tb_5_81 : Cond.instanceMethod yX8_goes ∈ TBL := tbl_5 (List.mem_of_getElem? (i := 81) (by decide +kernel)) rfl
theorem tb_5_82 : Cond.code yX8_goes prog_10_method_38_code 7 none ∈ TBL := tbl_5 (List.mem_of_getElem? (i := 82) (by rfl)) rfl
theorem tb_5_83 : Cond.constant RX8 194 (100000 : Int32) ∈ TBL := tbl_5 (List.mem_of_getElem? (i := 83) (by decide +kernel)) rfl
theorem tb_5_84 : Cond.methodLink RL 92 yX8_least ∈ TBL := tbl_5 (List.mem_of_getElem? (i := 84) (by decide +kernel)) rfl
theorem tb_5_85 : Cond.instanceMethod yX8_least ∈ TBL := tbl_5 (List.mem_of_getElem? (i := 85) (by decide +kernel)) rfl
theorem tb_5_86 : Cond.selects RX8 yX8_least yX8_least ∈ TBL := tbl_5 (List.mem_of_getElem? (i := 86) (by decide +kernel)) rfl
theorem tb_5_87 : Cond.code yX8_least prog_10_method_41_code 7 (some FieldType.int) ∈ TBL := tbl_5 (List.mem_of_getElem? (i := 87) (by rfl)) rfl
theorem tb_5_88 : Cond.constantLong RX8 210 (-1 : Int64) ∈ TBL := tbl_5 (List.mem_of_getElem? (i := 88) (by decide +kernel)) rfl
theorem tb_5_89 : Cond.methodLink RX8 212 yX8_quickest ∈ TBL := tbl_5 (List.mem_of_getElem? (i := 89) (by decide +kernel)) rfl
theorem tb_5_91 : Cond.instanceMethod yX8_quickest ∈ TBL := tbl_5 (List.mem_of_getElem? (i := 91) (by decide +kernel)) rfl
theorem tb_5_92 : Cond.code yX8_quickest prog_10_method_40_code 11 (some FieldType.int) ∈ TBL := tbl_5 (List.mem_of_getElem? (i := 92) (by rfl)) rfl
theorem tb_5_93 : Cond.methodLink RL 96 yX8_starts ∈ TBL := tbl_5 (List.mem_of_getElem? (i := 93) (by decide +kernel)) rfl
theorem tb_5_94 : Cond.instanceMethod yX8_starts ∈ TBL := tbl_5 (List.mem_of_getElem? (i := 94) (by decide +kernel)) rfl
theorem tb_5_95 : Cond.selects RX8 yX8_starts yX8_starts ∈ TBL := tbl_5 (List.mem_of_getElem? (i := 95) (by decide +kernel)) rfl
theorem tb_5_96 : Cond.code yX8_starts prog_10_method_43_code 7 (some FieldType.int) ∈ TBL := tbl_5 (List.mem_of_getElem? (i := 96) (by rfl)) rfl
theorem tb_5_97 : Cond.constantLong RX8 215 (2 : Int64) ∈ TBL := tbl_5 (List.mem_of_getElem? (i := 97) (by decide +kernel)) rfl
theorem tb_5_98 : Cond.methodLink RX8 217 yX8_startsOf ∈ TBL := tbl_5 (List.mem_of_getElem? (i := 98) (by decide +kernel)) rfl
theorem tb_5_100 : Cond.instanceMethod yX8_startsOf ∈ TBL := tbl_5 (List.mem_of_getElem? (i := 100) (by decide +kernel)) rfl
theorem tb_5_101 : Cond.code yX8_startsOf prog_10_method_42_code 8 none ∈ TBL := tbl_5 (List.mem_of_getElem? (i := 101) (by rfl)) rfl
theorem tb_5_102 : Cond.methodLink RL 100 yX8_deepest ∈ TBL := tbl_5 (List.mem_of_getElem? (i := 102) (by decide +kernel)) rfl
theorem tb_5_103 : Cond.instanceMethod yX8_deepest ∈ TBL := tbl_5 (List.mem_of_getElem? (i := 103) (by decide +kernel)) rfl
theorem tb_5_104 : Cond.selects RX8 yX8_deepest yX8_deepest ∈ TBL := tbl_5 (List.mem_of_getElem? (i := 104) (by decide +kernel)) rfl
theorem tb_5_105 : Cond.code yX8_deepest prog_10_method_44_code 8 (some FieldType.int) ∈ TBL := tbl_5 (List.mem_of_getElem? (i := 105) (by rfl)) rfl
theorem tb_5_106 : Cond.methodLink RL 104 yX8_bank ∈ TBL := tbl_5 (List.mem_of_getElem? (i := 106) (by decide +kernel)) rfl
theorem tb_5_107 : Cond.instanceMethod yX8_bank ∈ TBL := tbl_5 (List.mem_of_getElem? (i := 107) (by decide +kernel)) rfl
theorem tb_5_108 : Cond.selects RX8 yX8_bank yX8_bank ∈ TBL := tbl_5 (List.mem_of_getElem? (i := 108) (by decide +kernel)) rfl
theorem tb_5_109 : Cond.code yX8_bank prog_10_method_46_code 4 (some FieldType.int) ∈ TBL := tbl_5 (List.mem_of_getElem? (i := 109) (by rfl)) rfl
theorem tb_5_110 : Cond.methodLink RX8 220 yX8_holds ∈ TBL := tbl_5 (List.mem_of_getElem? (i := 110) (by decide +kernel)) rfl
theorem tb_5_112 : Cond.instanceMethod yX8_holds ∈ TBL := tbl_5 (List.mem_of_getElem? (i := 112) (by decide +kernel)) rfl
theorem tb_5_113 : Cond.code yX8_holds prog_10_method_45_code 5 (some FieldType.boolean) ∈ TBL := tbl_5 (List.mem_of_getElem? (i := 113) (by rfl)) rfl
theorem tb_5_114 : Cond.methodLink RL 108 yX8_nearest ∈ TBL := tbl_5 (List.mem_of_getElem? (i := 114) (by decide +kernel)) rfl
theorem tb_5_115 : Cond.instanceMethod yX8_nearest ∈ TBL := tbl_5 (List.mem_of_getElem? (i := 115) (by decide +kernel)) rfl
theorem tb_5_116 : Cond.selects RX8 yX8_nearest yX8_nearest ∈ TBL := tbl_5 (List.mem_of_getElem? (i := 116) (by decide +kernel)) rfl
theorem tb_5_117 : Cond.code yX8_nearest prog_10_method_47_code 5 (some FieldType.int) ∈ TBL := tbl_5 (List.mem_of_getElem? (i := 117) (by rfl)) rfl
theorem tb_5_118 : Cond.methodLink RL 112 yX8_steered ∈ TBL := tbl_5 (List.mem_of_getElem? (i := 118) (by decide +kernel)) rfl
theorem tb_5_119 : Cond.instanceMethod yX8_steered ∈ TBL := tbl_5 (List.mem_of_getElem? (i := 119) (by decide +kernel)) rfl
theorem tb_5_120 : Cond.selects RX8 yX8_steered yX8_steered ∈ TBL := tbl_5 (List.mem_of_getElem? (i := 120) (by decide +kernel)) rfl
theorem tb_5_121 : Cond.code yX8_steered prog_10_method_48_code 7 (some FieldType.int) ∈ TBL := tbl_5 (List.mem_of_getElem? (i := 121) (by rfl)) rfl
theorem tb_5_122 : Cond.constantLong RX8 224 (4 : Int64) ∈ TBL := tbl_5 (List.mem_of_getElem? (i := 122) (by decide +kernel)) rfl
theorem tb_5_123 : Cond.constantLong RX8 226 (-40 : Int64) ∈ TBL := tbl_5 (List.mem_of_getElem? (i := 123) (by decide +kernel)) rfl
theorem tb_5_124 : Cond.methodLink RL 117 yX8_may ∈ TBL := tbl_5 (List.mem_of_getElem? (i := 124) (by decide +kernel)) rfl
theorem tb_5_125 : Cond.instanceMethod yX8_may ∈ TBL := tbl_5 (List.mem_of_getElem? (i := 125) (by decide +kernel)) rfl
theorem tb_5_126 : Cond.selects RX8 yX8_may yX8_may ∈ TBL := tbl_5 (List.mem_of_getElem? (i := 126) (by decide +kernel)) rfl
theorem tb_5_127 : Cond.code yX8_may prog_10_method_49_code 6 (some FieldType.int) ∈ TBL := tbl_5 (List.mem_of_getElem? (i := 127) (by rfl)) rfl
theorem tb_5_128 : Cond.methodLink RL 122 yX8_meet ∈ TBL := tbl_5 (List.mem_of_getElem? (i := 128) (by decide +kernel)) rfl
theorem tb_5_129 : Cond.instanceMethod yX8_meet ∈ TBL := tbl_5 (List.mem_of_getElem? (i := 129) (by decide +kernel)) rfl
theorem tb_5_130 : Cond.selects RX8 yX8_meet yX8_meet ∈ TBL := tbl_5 (List.mem_of_getElem? (i := 130) (by decide +kernel)) rfl
theorem tb_5_131 : Cond.code yX8_meet prog_10_method_50_code 10 (some FieldType.int) ∈ TBL := tbl_5 (List.mem_of_getElem? (i := 131) (by rfl)) rfl
theorem tb_5_132 : Cond.methodLink RL 126 yX8_day ∈ TBL := tbl_5 (List.mem_of_getElem? (i := 132) (by decide +kernel)) rfl
theorem tb_5_133 : Cond.instanceMethod yX8_day ∈ TBL := tbl_5 (List.mem_of_getElem? (i := 133) (by decide +kernel)) rfl
theorem tb_5_134 : Cond.selects RX8 yX8_day yX8_day ∈ TBL := tbl_5 (List.mem_of_getElem? (i := 134) (by decide +kernel)) rfl
theorem tb_5_135 : Cond.code yX8_day prog_10_method_53_code 9 (some FieldType.int) ∈ TBL := tbl_5 (List.mem_of_getElem? (i := 135) (by rfl)) rfl
theorem tb_5_136 : Cond.constantLong RX8 228 (240 : Int64) ∈ TBL := tbl_5 (List.mem_of_getElem? (i := 136) (by decide +kernel)) rfl
theorem tb_5_137 : Cond.methodLink RX8 230 yX8_sumOf ∈ TBL := tbl_5 (List.mem_of_getElem? (i := 137) (by decide +kernel)) rfl
theorem tb_5_139 : Cond.instanceMethod yX8_sumOf ∈ TBL := tbl_5 (List.mem_of_getElem? (i := 139) (by decide +kernel)) rfl
theorem tb_5_140 : Cond.code yX8_sumOf prog_10_method_52_code 7 (some FieldType.int) ∈ TBL := tbl_5 (List.mem_of_getElem? (i := 140) (by rfl)) rfl
theorem tb_5_141 : Cond.methodLink RX8 233 yX8_turns ∈ TBL := tbl_5 (List.mem_of_getElem? (i := 141) (by decide +kernel)) rfl
theorem tb_5_143 : Cond.instanceMethod yX8_turns ∈ TBL := tbl_5 (List.mem_of_getElem? (i := 143) (by decide +kernel)) rfl
theorem tb_5_144 : Cond.code yX8_turns prog_10_method_51_code 7 (some FieldType.boolean) ∈ TBL := tbl_5 (List.mem_of_getElem? (i := 144) (by rfl)) rfl
theorem tb_5_145 : Cond.methodLink RL 130 yX8_dredged ∈ TBL := tbl_5 (List.mem_of_getElem? (i := 145) (by decide +kernel)) rfl
theorem tb_5_146 : Cond.instanceMethod yX8_dredged ∈ TBL := tbl_5 (List.mem_of_getElem? (i := 146) (by decide +kernel)) rfl
theorem tb_5_147 : Cond.selects RX8 yX8_dredged yX8_dredged ∈ TBL := tbl_5 (List.mem_of_getElem? (i := 147) (by decide +kernel)) rfl
theorem tb_5_148 : Cond.code yX8_dredged prog_10_method_54_code 9 (some FieldType.int) ∈ TBL := tbl_5 (List.mem_of_getElem? (i := 148) (by rfl)) rfl
theorem tb_5_149 : Cond.methodLink RL 134 yX8_lost ∈ TBL := tbl_5 (List.mem_of_getElem? (i := 149) (by decide +kernel)) rfl
theorem tb_5_150 : Cond.instanceMethod yX8_lost ∈ TBL := tbl_5 (List.mem_of_getElem? (i := 150) (by decide +kernel)) rfl
theorem tb_5_151 : Cond.selects RX8 yX8_lost yX8_lost ∈ TBL := tbl_5 (List.mem_of_getElem? (i := 151) (by decide +kernel)) rfl
theorem tb_5_152 : Cond.code yX8_lost prog_10_method_55_code 9 (some FieldType.int) ∈ TBL := tbl_5 (List.mem_of_getElem? (i := 152) (by rfl)) rfl
theorem tb_5_153 : Cond.methodLink RL 138 yX8_touched ∈ TBL := tbl_5 (List.mem_of_getElem? (i := 153) (by decide +kernel)) rfl
theorem tb_5_154 : Cond.instanceMethod yX8_touched ∈ TBL := tbl_5 (List.mem_of_getElem? (i := 154) (by decide +kernel)) rfl
theorem tb_5_155 : Cond.selects RX8 yX8_touched yX8_touched ∈ TBL := tbl_5 (List.mem_of_getElem? (i := 155) (by decide +kernel)) rfl
theorem tb_5_156 : Cond.code yX8_touched prog_10_method_56_code 7 (some FieldType.int) ∈ TBL := tbl_5 (List.mem_of_getElem? (i := 156) (by rfl)) rfl
theorem tb_5_157 : Cond.methodLink RL 142 yX8_past ∈ TBL := tbl_5 (List.mem_of_getElem? (i := 157) (by decide +kernel)) rfl
theorem tb_5_158 : Cond.instanceMethod yX8_past ∈ TBL := tbl_5 (List.mem_of_getElem? (i := 158) (by decide +kernel)) rfl
theorem tb_5_159 : Cond.selects RX8 yX8_past yX8_past ∈ TBL := tbl_5 (List.mem_of_getElem? (i := 159) (by decide +kernel)) rfl
theorem tb_5_160 : Cond.code yX8_past prog_10_method_57_code 7 (some FieldType.int) ∈ TBL := tbl_5 (List.mem_of_getElem? (i := 160) (by rfl)) rfl
theorem tb_5_161 : Cond.constantLong RX8 236 (999 : Int64) ∈ TBL := tbl_5 (List.mem_of_getElem? (i := 161) (by decide +kernel)) rfl
theorem tb_5_162 : Cond.methodLink RL 146 yX8_image ∈ TBL := tbl_5 (List.mem_of_getElem? (i := 162) (by decide +kernel)) rfl
theorem tb_5_163 : Cond.instanceMethod yX8_image ∈ TBL := tbl_5 (List.mem_of_getElem? (i := 163) (by decide +kernel)) rfl
theorem tb_5_164 : Cond.selects RX8 yX8_image yX8_image ∈ TBL := tbl_5 (List.mem_of_getElem? (i := 164) (by decide +kernel)) rfl
theorem tb_5_165 : Cond.code yX8_image prog_10_method_60_code 2 (some FieldType.int) ∈ TBL := tbl_5 (List.mem_of_getElem? (i := 165) (by rfl)) rfl
theorem tb_5_166 : Cond.methodLink RX8 238 yX8_lay ∈ TBL := tbl_5 (List.mem_of_getElem? (i := 166) (by decide +kernel)) rfl
theorem tb_5_168 : Cond.instanceMethod yX8_lay ∈ TBL := tbl_5 (List.mem_of_getElem? (i := 168) (by decide +kernel)) rfl
theorem tb_5_169 : Cond.code yX8_lay prog_10_method_58_code 4 (some FieldType.int) ∈ TBL := tbl_5 (List.mem_of_getElem? (i := 169) (by rfl)) rfl
theorem tb_5_170 : Cond.methodLink RL 150 yX8_restore ∈ TBL := tbl_5 (List.mem_of_getElem? (i := 170) (by decide +kernel)) rfl
theorem tb_5_171 : Cond.instanceMethod yX8_restore ∈ TBL := tbl_5 (List.mem_of_getElem? (i := 171) (by decide +kernel)) rfl
theorem tb_5_172 : Cond.selects RX8 yX8_restore yX8_restore ∈ TBL := tbl_5 (List.mem_of_getElem? (i := 172) (by decide +kernel)) rfl
theorem tb_5_173 : Cond.code yX8_restore prog_10_method_61_code 2 (some FieldType.int) ∈ TBL := tbl_5 (List.mem_of_getElem? (i := 173) (by rfl)) rfl
theorem tb_5_174 : Cond.methodLink RX8 245 yX8_gives ∈ TBL := tbl_5 (List.mem_of_getElem? (i := 174) (by decide +kernel)) rfl
theorem tb_5_176 : Cond.instanceMethod yX8_gives ∈ TBL := tbl_5 (List.mem_of_getElem? (i := 176) (by decide +kernel)) rfl
theorem tb_5_177 : Cond.code yX8_gives prog_10_method_59_code 4 (some FieldType.int) ∈ TBL := tbl_5 (List.mem_of_getElem? (i := 177) (by rfl)) rfl
theorem tb_5_178 : Cond.methodLink RL 154 yX8_gauged ∈ TBL := tbl_5 (List.mem_of_getElem? (i := 178) (by decide +kernel)) rfl
theorem tb_5_179 : Cond.instanceMethod yX8_gauged ∈ TBL := tbl_5 (List.mem_of_getElem? (i := 179) (by decide +kernel)) rfl
theorem tb_5_180 : Cond.selects RX8 yX8_gauged yX8_gauged ∈ TBL := tbl_5 (List.mem_of_getElem? (i := 180) (by decide +kernel)) rfl
theorem tb_5_181 : Cond.code yX8_gauged prog_10_method_65_code 15 (some FieldType.int) ∈ TBL := tbl_5 (List.mem_of_getElem? (i := 181) (by rfl)) rfl
theorem tb_5_182 : Cond.methodLink RX8 249 yX8_isSheet ∈ TBL := tbl_5 (List.mem_of_getElem? (i := 182) (by decide +kernel)) rfl
theorem tb_5_183 : Cond.static yX8_isSheet ∈ TBL := tbl_5 (List.mem_of_getElem? (i := 183) (by decide +kernel)) rfl
theorem tb_5_184 : Cond.code yX8_isSheet prog_10_method_62_code 1 (some FieldType.boolean) ∈ TBL := tbl_5 (List.mem_of_getElem? (i := 184) (by rfl)) rfl
theorem tb_5_185 : Cond.methodLink RX8 252 yX8_isLane ∈ TBL := tbl_5 (List.mem_of_getElem? (i := 185) (by decide +kernel)) rfl
theorem tb_5_186 : Cond.static yX8_isLane ∈ TBL := tbl_5 (List.mem_of_getElem? (i := 186) (by decide +kernel)) rfl
theorem tb_5_187 : Cond.code yX8_isLane prog_10_method_63_code 1 (some FieldType.boolean) ∈ TBL := tbl_5 (List.mem_of_getElem? (i := 187) (by rfl)) rfl
theorem tb_5_188 : Cond.methodLink RX8 255 yX8_finds ∈ TBL := tbl_5 (List.mem_of_getElem? (i := 188) (by decide +kernel)) rfl
theorem tb_5_190 : Cond.instanceMethod yX8_finds ∈ TBL := tbl_5 (List.mem_of_getElem? (i := 190) (by decide +kernel)) rfl
theorem tb_5_191 : Cond.code yX8_finds prog_10_method_64_code 5 (some FieldType.int) ∈ TBL := tbl_5 (List.mem_of_getElem? (i := 191) (by rfl)) rfl
theorem tb_5_192 : Cond.methodLink RL 158 yX8_sheet ∈ TBL := tbl_5 (List.mem_of_getElem? (i := 192) (by decide +kernel)) rfl
theorem tb_5_193 : Cond.instanceMethod yX8_sheet ∈ TBL := tbl_5 (List.mem_of_getElem? (i := 193) (by decide +kernel)) rfl
theorem tb_5_194 : Cond.selects RX8 yX8_sheet yX8_sheet ∈ TBL := tbl_5 (List.mem_of_getElem? (i := 194) (by decide +kernel)) rfl
theorem tb_5_195 : Cond.code yX8_sheet prog_10_method_66_code 5 (some FieldType.int) ∈ TBL := tbl_5 (List.mem_of_getElem? (i := 195) (by rfl)) rfl
theorem tb_5_196 : Cond.methodLink RL 162 yX8_drop ∈ TBL := tbl_5 (List.mem_of_getElem? (i := 196) (by decide +kernel)) rfl
theorem tb_5_197 : Cond.instanceMethod yX8_drop ∈ TBL := tbl_5 (List.mem_of_getElem? (i := 197) (by decide +kernel)) rfl
theorem tb_5_198 : Cond.selects RX8 yX8_drop yX8_drop ∈ TBL := tbl_5 (List.mem_of_getElem? (i := 198) (by decide +kernel)) rfl
theorem tb_5_199 : Cond.code yX8_drop prog_10_method_67_code 2 (some FieldType.int) ∈ TBL := tbl_5 (List.mem_of_getElem? (i := 199) (by rfl)) rfl
theorem tb_5_200 : Cond.methodLink RL 166 yX8_item ∈ TBL := tbl_5 (List.mem_of_getElem? (i := 200) (by decide +kernel)) rfl
theorem tb_5_201 : Cond.instanceMethod yX8_item ∈ TBL := tbl_5 (List.mem_of_getElem? (i := 201) (by decide +kernel)) rfl
theorem tb_5_202 : Cond.selects RX8 yX8_item yX8_item ∈ TBL := tbl_5 (List.mem_of_getElem? (i := 202) (by decide +kernel)) rfl
theorem tb_5_203 : Cond.code yX8_item prog_10_method_68_code 6 (some FieldType.int) ∈ TBL := tbl_5 (List.mem_of_getElem? (i := 203) (by rfl)) rfl
theorem tb_5_204 : Cond.methodLink RL 170 yX8_copy ∈ TBL := tbl_5 (List.mem_of_getElem? (i := 204) (by decide +kernel)) rfl
theorem tb_5_205 : Cond.instanceMethod yX8_copy ∈ TBL := tbl_5 (List.mem_of_getElem? (i := 205) (by decide +kernel)) rfl
theorem tb_5_206 : Cond.selects RX8 yX8_copy yX8_copy ∈ TBL := tbl_5 (List.mem_of_getElem? (i := 206) (by decide +kernel)) rfl
theorem tb_5_207 : Cond.code yX8_copy prog_10_method_69_code 7 (some FieldType.int) ∈ TBL := tbl_5 (List.mem_of_getElem? (i := 207) (by rfl)) rfl
theorem tb_5_208 : Cond.constantLong RL 43 (4294967295 : Int64) ∈ TBL := tbl_5 (List.mem_of_getElem? (i := 208) (by decide +kernel)) rfl
theorem ts_0 : Cond.selects RX4 yX4_rewind yX4_rewind ∈ TBL := List.mem_filter.mpr ⟨List.mem_append_left _ (List.mem_of_getElem? (i := 0) (by decide +kernel)), rfl⟩
theorem ts_1 : Cond.selects RX4 yX4_readMile yX4_readMile ∈ TBL := List.mem_filter.mpr ⟨List.mem_append_left _ (List.mem_of_getElem? (i := 1) (by decide +kernel)), rfl⟩
theorem ts_2 : Cond.selects RX4 yX4_mark yX4_mark ∈ TBL := List.mem_filter.mpr ⟨List.mem_append_left _ (List.mem_of_getElem? (i := 2) (by decide +kernel)), rfl⟩
theorem ts_3 : Cond.selects RX4 yX4_number yX4_number ∈ TBL := List.mem_filter.mpr ⟨List.mem_append_left _ (List.mem_of_getElem? (i := 3) (by decide +kernel)), rfl⟩
theorem ts_4 : Cond.selects RX4 yX4_skipBlanks yX4_skipBlanks ∈ TBL := List.mem_filter.mpr ⟨List.mem_append_left _ (List.mem_of_getElem? (i := 4) (by decide +kernel)), rfl⟩
theorem ts_5 : Cond.selects RX4 yX4_fail yX4_fail ∈ TBL := List.mem_filter.mpr ⟨List.mem_append_left _ (List.mem_of_getElem? (i := 5) (by decide +kernel)), rfl⟩
theorem ts_6 : Cond.selects RX4 yX4_expect yX4_expect ∈ TBL := List.mem_filter.mpr ⟨List.mem_append_left _ (List.mem_of_getElem? (i := 6) (by decide +kernel)), rfl⟩
theorem ts_7 : Cond.selects RX4 yX4_takes yX4_takes ∈ TBL := List.mem_filter.mpr ⟨List.mem_append_left _ (List.mem_of_getElem? (i := 7) (by decide +kernel)), rfl⟩
theorem ts_8 : Cond.selects RX4 yX4_digit yX4_digit ∈ TBL := List.mem_filter.mpr ⟨List.mem_append_left _ (List.mem_of_getElem? (i := 8) (by decide +kernel)), rfl⟩
theorem ts_9 : Cond.selects RX4 yX4_finish yX4_finish ∈ TBL := List.mem_filter.mpr ⟨List.mem_append_left _ (List.mem_of_getElem? (i := 9) (by decide +kernel)), rfl⟩
theorem ts_10 : Cond.selects RX7 yX7_isPlaced yX7_isPlaced ∈ TBL := List.mem_filter.mpr ⟨List.mem_append_left _ (List.mem_of_getElem? (i := 10) (by decide +kernel)), rfl⟩
theorem ts_11 : Cond.selects RX5 yX5_reckonNeed yX5_reckonNeed ∈ TBL := List.mem_filter.mpr ⟨List.mem_append_left _ (List.mem_of_getElem? (i := 11) (by decide +kernel)), rfl⟩
theorem ts_12 : Cond.selects RX7 yX7_isStart yX7_isStart ∈ TBL := List.mem_filter.mpr ⟨List.mem_append_left _ (List.mem_of_getElem? (i := 12) (by decide +kernel)), rfl⟩
theorem ts_13 : Cond.selects RX7 yX7_refusalAt yX7_refusalAt ∈ TBL := List.mem_filter.mpr ⟨List.mem_append_left _ (List.mem_of_getElem? (i := 13) (by decide +kernel)), rfl⟩
theorem ts_14 : Cond.selects RX2 yX2_isLaid yX2_isLaid ∈ TBL := List.mem_filter.mpr ⟨List.mem_append_left _ (List.mem_of_getElem? (i := 14) (by decide +kernel)), rfl⟩
theorem ts_15 : Cond.selects RX2 yX2_goOn yX2_goOn ∈ TBL := List.mem_filter.mpr ⟨List.mem_append_left _ (List.mem_of_getElem? (i := 15) (by decide +kernel)), rfl⟩
theorem ts_16 : Cond.selects RX2 yX2_moveLater yX2_moveLater ∈ TBL := List.mem_filter.mpr ⟨List.mem_append_left _ (List.mem_of_getElem? (i := 16) (by decide +kernel)), rfl⟩
theorem ts_17 : Cond.selects RX2 yX2_goBack yX2_goBack ∈ TBL := List.mem_filter.mpr ⟨List.mem_append_left _ (List.mem_of_getElem? (i := 17) (by decide +kernel)), rfl⟩
theorem ts_18 : Cond.selects RX2 yX2_earlier yX2_earlier ∈ TBL := List.mem_filter.mpr ⟨List.mem_append_left _ (List.mem_of_getElem? (i := 18) (by decide +kernel)), rfl⟩
theorem ts_19 : Cond.selects RX2 yX2_slowest yX2_slowest ∈ TBL := List.mem_filter.mpr ⟨List.mem_append_left _ (List.mem_of_getElem? (i := 19) (by decide +kernel)), rfl⟩
theorem ts_20 : Cond.selects RX7 yX7_isHeld yX7_isHeld ∈ TBL := List.mem_filter.mpr ⟨List.mem_append_left _ (List.mem_of_getElem? (i := 20) (by decide +kernel)), rfl⟩
theorem ts_21 : Cond.selects RX7 yX7_areTwo yX7_areTwo ∈ TBL := List.mem_filter.mpr ⟨List.mem_append_left _ (List.mem_of_getElem? (i := 21) (by decide +kernel)), rfl⟩
theorem ts_22 : Cond.selects RX0 yX0_tryNext yX0_tryNext ∈ TBL := List.mem_filter.mpr ⟨List.mem_append_left _ (List.mem_of_getElem? (i := 22) (by decide +kernel)), rfl⟩
theorem ts_23 : Cond.selects RX0 yX0_keepBetter yX0_keepBetter ∈ TBL := List.mem_filter.mpr ⟨List.mem_append_left _ (List.mem_of_getElem? (i := 23) (by decide +kernel)), rfl⟩
theorem ts_24 : Cond.selects RX3 yX3_isNothing yX3_isNothing ∈ TBL := List.mem_filter.mpr ⟨List.mem_append_left _ (List.mem_of_getElem? (i := 24) (by decide +kernel)), rfl⟩
theorem ts_25 : Cond.selects RX3 yX3_hasItems yX3_hasItems ∈ TBL := List.mem_filter.mpr ⟨List.mem_append_left _ (List.mem_of_getElem? (i := 25) (by decide +kernel)), rfl⟩
theorem ts_26 : Cond.selects RX7 yX7_latesBy yX7_latesBy ∈ TBL := List.mem_filter.mpr ⟨List.mem_append_left _ (List.mem_of_getElem? (i := 26) (by decide +kernel)), rfl⟩
theorem ts_27 : Cond.selects RX7 yX7_isLate yX7_isLate ∈ TBL := List.mem_filter.mpr ⟨List.mem_append_left _ (List.mem_of_getElem? (i := 27) (by decide +kernel)), rfl⟩
theorem ts_28 : Cond.selects RX8 yX8_mileIs yX8_mileIs ∈ TBL := List.mem_filter.mpr ⟨List.mem_append_left _ (List.mem_of_getElem? (i := 28) (by decide +kernel)), rfl⟩
theorem ts_29 : Cond.selects RX8 yX8_isMile yX8_isMile ∈ TBL := List.mem_filter.mpr ⟨List.mem_append_left _ (List.mem_of_getElem? (i := 29) (by decide +kernel)), rfl⟩
theorem ts_30 : Cond.selects RX8 yX8_mileClause yX8_mileClause ∈ TBL := List.mem_filter.mpr ⟨List.mem_append_left _ (List.mem_of_getElem? (i := 30) (by decide +kernel)), rfl⟩
theorem ts_31 : Cond.selects RX8 yX8_number yX8_number ∈ TBL := List.mem_filter.mpr ⟨List.mem_append_left _ (List.mem_of_getElem? (i := 31) (by decide +kernel)), rfl⟩
theorem ts_32 : Cond.selects RX8 yX8_here yX8_here ∈ TBL := List.mem_filter.mpr ⟨List.mem_append_left _ (List.mem_of_getElem? (i := 32) (by decide +kernel)), rfl⟩
theorem ts_33 : Cond.selects RX8 yX8_has yX8_has ∈ TBL := List.mem_filter.mpr ⟨List.mem_append_left _ (List.mem_of_getElem? (i := 33) (by decide +kernel)), rfl⟩
theorem ts_34 : Cond.selects RX8 yX8_digit yX8_digit ∈ TBL := List.mem_filter.mpr ⟨List.mem_append_left _ (List.mem_of_getElem? (i := 34) (by decide +kernel)), rfl⟩
theorem ts_35 : Cond.selects RX8 yX8_tideAt yX8_tideAt ∈ TBL := List.mem_filter.mpr ⟨List.mem_append_left _ (List.mem_of_getElem? (i := 35) (by decide +kernel)), rfl⟩
theorem ts_36 : Cond.selects RX8 yX8_waterAt yX8_waterAt ∈ TBL := List.mem_filter.mpr ⟨List.mem_append_left _ (List.mem_of_getElem? (i := 36) (by decide +kernel)), rfl⟩
theorem ts_37 : Cond.selects RX8 yX8_isShip yX8_isShip ∈ TBL := List.mem_filter.mpr ⟨List.mem_append_left _ (List.mem_of_getElem? (i := 37) (by decide +kernel)), rfl⟩
theorem ts_38 : Cond.selects RX8 yX8_sinksBy yX8_sinksBy ∈ TBL := List.mem_filter.mpr ⟨List.mem_append_left _ (List.mem_of_getElem? (i := 38) (by decide +kernel)), rfl⟩
theorem ts_39 : Cond.selects RX8 yX8_underBy yX8_underBy ∈ TBL := List.mem_filter.mpr ⟨List.mem_append_left _ (List.mem_of_getElem? (i := 39) (by decide +kernel)), rfl⟩
theorem ts_40 : Cond.selects RX8 yX8_needOf yX8_needOf ∈ TBL := List.mem_filter.mpr ⟨List.mem_append_left _ (List.mem_of_getElem? (i := 40) (by decide +kernel)), rfl⟩
theorem ts_41 : Cond.selects RX8 yX8_goes yX8_goes ∈ TBL := List.mem_filter.mpr ⟨List.mem_append_left _ (List.mem_of_getElem? (i := 41) (by decide +kernel)), rfl⟩
theorem ts_42 : Cond.selects RX8 yX8_quickest yX8_quickest ∈ TBL := List.mem_filter.mpr ⟨List.mem_append_left _ (List.mem_of_getElem? (i := 42) (by decide +kernel)), rfl⟩
theorem ts_43 : Cond.selects RX8 yX8_startsOf yX8_startsOf ∈ TBL := List.mem_filter.mpr ⟨List.mem_append_left _ (List.mem_of_getElem? (i := 43) (by decide +kernel)), rfl⟩
theorem ts_44 : Cond.selects RX8 yX8_holds yX8_holds ∈ TBL := List.mem_filter.mpr ⟨List.mem_append_left _ (List.mem_of_getElem? (i := 44) (by decide +kernel)), rfl⟩
theorem ts_45 : Cond.selects RX8 yX8_sumOf yX8_sumOf ∈ TBL := List.mem_filter.mpr ⟨List.mem_append_left _ (List.mem_of_getElem? (i := 45) (by decide +kernel)), rfl⟩
theorem ts_46 : Cond.selects RX8 yX8_turns yX8_turns ∈ TBL := List.mem_filter.mpr ⟨List.mem_append_left _ (List.mem_of_getElem? (i := 46) (by decide +kernel)), rfl⟩
theorem ts_47 : Cond.selects RX8 yX8_lay yX8_lay ∈ TBL := List.mem_filter.mpr ⟨List.mem_append_left _ (List.mem_of_getElem? (i := 47) (by decide +kernel)), rfl⟩
theorem ts_48 : Cond.selects RX8 yX8_gives yX8_gives ∈ TBL := List.mem_filter.mpr ⟨List.mem_append_left _ (List.mem_of_getElem? (i := 48) (by decide +kernel)), rfl⟩
theorem ts_49 : Cond.selects RX8 yX8_finds yX8_finds ∈ TBL := List.mem_filter.mpr ⟨List.mem_append_left _ (List.mem_of_getElem? (i := 49) (by decide +kernel)), rfl⟩
theorem iT0 : ∀ w ∈ u_ws RX0 TX0 6, w ∈ TBL := by decide +kernel

theorem iT1 : ∀ w ∈ u_ws RX1 TX1 6, w ∈ TBL := by decide +kernel

theorem iT2 : ∀ w ∈ u_ws RX2 TX2 6, w ∈ TBL := by decide +kernel

theorem iT3 : ∀ w ∈ u_ws RX3 TX3 3, w ∈ TBL := by decide +kernel

theorem iT4 : ∀ w ∈ u_ws RX4 TX4 5, w ∈ TBL := by decide +kernel

theorem iT5 : ∀ w ∈ u_ws RX5 TX5 8, w ∈ TBL := by decide +kernel

theorem iT6 : ∀ w ∈ u_ws RX6 TX6 4, w ∈ TBL := by decide +kernel

theorem iT7 : ∀ w ∈ u_ws RX7 TX7 10, w ∈ TBL := by decide +kernel

theorem iT8 : ∀ w ∈ u_ws RX8 TX8 29, w ∈ TBL := by decide +kernel

