section
variable {p : Program} {l : Launch} {e : Env} {s : State} {m : MethodId} {args : Array Value} {below : List Frame} {meth : Method} {c : Code} {Q : State → Prop} {G : GT}

def f_X7_within (x0 : Int32) (x1 : Int32) (x2 : Int32) : Option Int32 := if x0 < x1 then (some 0) else (if x2 < x0 then (some 0) else (some 1))
set_option maxRecDepth 100000 in
set_option maxHeartbeats 4000000 in
theorem k_X7_within (l : Launch) (G : GT) (S : ST) (x0 : Int32) (x1 : Int32) (x2 : Int32) (r : Int32) (hf : f_X7_within x0 x1 x2 = some r) : MI l yX7_within cX7_within 3 (some .boolean) 1 [.int x0, .int x1, .int x2] G S r S := by
  rw [f_X7_within] at hf
  refine mkZ (own := RX7) (by decide +kernel) rfl (Nat.le_of_ble_eq_true rfl) (fun p e s m args below meth c Q ls hC hP hS hl hQ => ?_)
  have hl : lv_has ls 3 [(0, .int x0), (1, .int x1), (2, .int x2)] := hl
  obtain ⟨hx, hb, hml, hown, hts⟩ := id hC.1
  refine lv_iload_n hx hb dX7_within_0 rfl (lv_at hl 0 rfl) ?_
  refine lv_iload_n hx hb dX7_within_1 rfl (lv_at hl 1 rfl) ?_
  refine lv_icmp_lt (tgt := 14) hx hb dX7_within_2 (by decide) (fun hc => ?_) (fun hc => ?_)
  · rw [if_pos hc] at hf
    refine lv_iconst (v := 0) hx hb dX7_within_14 (by decide) ?_
    exact retZ hQ rfl hf hP hS dX7_within_15
  · rw [if_neg hc] at hf
    refine lv_iload_n hx hb dX7_within_5 rfl (lv_at hl 0 rfl) ?_
    refine lv_iload_n hx hb dX7_within_6 rfl (lv_at hl 2 rfl) ?_
    refine lv_icmp_gt (tgt := 14) hx hb dX7_within_7 (by decide) (fun hc => ?_) (fun hc => ?_)
    · rw [if_pos hc] at hf
      refine lv_iconst (v := 0) hx hb dX7_within_14 (by decide) ?_
      exact retZ hQ rfl hf hP hS dX7_within_15
    · rw [if_neg hc] at hf
      refine lv_iconst (v := 1) hx hb dX7_within_10 (by decide) ?_
      refine lv_goto (tgt := 15) hx hb dX7_within_11 (by decide) ?_
      exact retZ hQ rfl hf hP hS dX7_within_15
def f_X7_isMark (S : ST) (x0 : Int32) (x1 : Int32) : Option Int32 := (rS 2 x0).bind fun v1 => (rS 3 x0).bind fun v2 => (f_X7_within x1 v1 v2).bind fun v3 => (bz v3).bind fun v4 => some v4
set_option maxRecDepth 100000 in
set_option maxHeartbeats 4000000 in
theorem k_X7_isMark (l : Launch) (G : GT) (S : ST) (x0 : Int32) (x1 : Int32) (r : Int32) (hf : f_X7_isMark S x0 x1 = some r) : MI l yX7_isMark cX7_isMark 2 (some .boolean) 2 [.int x0, .int x1] G S r S := by
  rw [f_X7_isMark] at hf
  refine mkZ (own := RX7) (by decide +kernel) rfl (Nat.le_of_ble_eq_true rfl) (fun p e s m args below meth c Q ls hC hP hS hl hQ => ?_)
  have hl : lv_has ls 2 [(0, .int x0), (1, .int x1)] := hl
  obtain ⟨hx, hb, hml, hown, hts⟩ := id hC.1
  refine lv_iload_n hx hb dX7_isMark_0 rfl (lv_at hl 1 rfl) ?_
  refine gSt hC hS (j := 2) (by decide) tb_2_10 dX7_isMark_1 ?_
  refine lv_iload_n hx hb dX7_isMark_4 rfl (lv_at hl 0 rfl) ?_
  obtain ⟨v1, hv, hf⟩ := ob_some hf
  refine gSi hC hS (by decide) hv dX7_isMark_5 ?_
  refine gSt hC hS (j := 3) (by decide) tb_2_12 dX7_isMark_6 ?_
  refine lv_iload_n hx hb dX7_isMark_9 rfl (lv_at hl 0 rfl) ?_
  obtain ⟨v2, hv, hf⟩ := ob_some hf
  refine gSi hC hS (by decide) hv dX7_isMark_10 ?_
  obtain ⟨v3, hv, hf⟩ := ob_some hf
  refine cI hS (runS hC hP hS (As := [.int x1, .int v1, .int v2]) (rest := []) (k_X7_within l G S x1 v1 v2 _ hv) vy_X7_within tb_2_14 tb_2_15 ⟨Nat.le_of_ble_eq_true rfl, Nat.le_of_ble_eq_true rfl⟩ rfl hl.1 rfl (Nat.le_of_ble_eq_true rfl) dX7_isMark_11) (fun H locs hP hS => ?_)
  obtain ⟨v4, hv, hf⟩ := ob_some hf
  refine bzW hv ?_
  exact retZ hQ (bz_n hv) hf hP hS dX7_isMark_14
def f_X1_markOf (S : ST) (x1 : Int32) (x2 : Int32) : Option Int32 := (rI S 0 4 ((x1 * 6) + x2)).bind fun v1 => some v1
set_option maxRecDepth 100000 in
set_option maxHeartbeats 4000000 in
theorem k_X1_markOf (l : Launch) (G : GT) (S : ST) (x1 : Int32) (x2 : Int32) (r : Int32) (hf : f_X1_markOf S x1 x2 = some r) : MI l yX1_markOf cX1_markOf 3 (some .int) 1 [.ref (ad G 1), .int x1, .int x2] G S r S := by
  rw [f_X1_markOf] at hf
  refine mkI (own := RX1) (by decide +kernel) rfl rfl (Nat.le_of_ble_eq_true rfl) (fun p e s m args below meth c Q ls hC hP hS hl hQ => ?_)
  have hl : lv_has ls 3 [(0, .ref (ad G 1)), (1, .int x1), (2, .int x2)] := hl
  obtain ⟨hx, hb, hml, hown, hts⟩ := id hC.1
  refine lv_aload_n hx hb dX1_markOf_0 rfl (lv_at hl 0 rfl) ?_
  refine gFr hC hP (j := 4) sg_1 vc_1 iT1 (by decide) rfl tb_1_41 dX1_markOf_1 ?_
  refine lv_iload_n hx hb dX1_markOf_4 rfl (lv_at hl 1 rfl) ?_
  refine lv_bipush (v := 6) hx hb dX1_markOf_5 (by decide) ?_
  refine lv_imul hx hb dX1_markOf_7 ?_
  refine lv_iload_n hx hb dX1_markOf_8 rfl (lv_at hl 2 rfl) ?_
  refine lv_iadd hx hb dX1_markOf_9 ?_
  obtain ⟨v1, hv, hf⟩ := ob_some hf
  refine gIa hC hP hv dX1_markOf_10 ?_
  exact retI hQ hf hP hS dX1_markOf_11
def f_X1_mark (S : ST) (x1 : Int32) (x2 : Int32) (x3 : Int32) : Option (Int32 × ST) := (f_X1_markOf S x1 x2).bind fun v1 => (wI S 4 ((x1 * 6) + x2) x3).bind fun S2 => some (v1, S2)
set_option maxRecDepth 100000 in
set_option maxHeartbeats 4000000 in
theorem k_X1_mark (l : Launch) (G : GT) (S : ST) (x1 : Int32) (x2 : Int32) (x3 : Int32) (r : Int32) (S' : ST) (hf : f_X1_mark S x1 x2 x3 = some (r, S')) : MI l yX1_mark cX1_mark 5 (some .int) 2 [.ref (ad G 1), .int x1, .int x2, .int x3] G S r S' := by
  rw [f_X1_mark] at hf
  refine mkI (own := RX1) (by decide +kernel) rfl rfl (Nat.le_of_ble_eq_true rfl) (fun p e s m args below meth c Q ls hC hP hS hl hQ => ?_)
  have hl : lv_has ls 5 [(0, .ref (ad G 1)), (1, .int x1), (2, .int x2), (3, .int x3)] := hl
  obtain ⟨hx, hb, hml, hown, hts⟩ := id hC.1
  refine lv_aload_n hx hb dX1_mark_0 rfl (lv_at hl 0 rfl) ?_
  refine lv_iload_n hx hb dX1_mark_1 rfl (lv_at hl 1 rfl) ?_
  refine lv_iload_n hx hb dX1_mark_2 rfl (lv_at hl 2 rfl) ?_
  obtain ⟨v1, hv, hf⟩ := ob_some hf
  refine cI hS (runV hC hP hS (As := [.int x1, .int x2]) (rest := []) (k_X1_markOf l G S x1 x2 _ hv) vy_X1_markOf sg_1 vc_1 tb_2_25 tb_2_26 tb_2_27 ⟨Nat.le_of_ble_eq_true rfl, Nat.le_of_ble_eq_true rfl⟩ rfl hl.1 rfl (Nat.le_of_ble_eq_true rfl) dX1_mark_3) (fun H locs hP hS => ?_)
  refine lv_istore (lv' := [(4, .int v1), (0, .ref (ad G 1)), (1, .int x1), (2, .int x2), (3, .int x3)]) hx hb dX1_mark_6 hl (by decide) rfl (fun ls hl => ?_)
  refine lv_aload_n hx hb dX1_mark_8 rfl (lv_at hl 1 rfl) ?_
  refine gFr hC hP (j := 4) sg_1 vc_1 iT1 (by decide) rfl tb_1_41 dX1_mark_9 ?_
  refine lv_iload_n hx hb dX1_mark_12 rfl (lv_at hl 2 rfl) ?_
  refine lv_bipush (v := 6) hx hb dX1_mark_13 (by decide) ?_
  refine lv_imul hx hb dX1_mark_15 ?_
  refine lv_iload_n hx hb dX1_mark_16 rfl (lv_at hl 3 rfl) ?_
  refine lv_iadd hx hb dX1_mark_17 ?_
  refine lv_iload_n hx hb dX1_mark_18 rfl (lv_at hl 4 rfl) ?_
  obtain ⟨S2, hv, hf⟩ := ob_some hf
  refine sIa hC hP hS hv dX1_mark_19 (fun H locs hP hS => ?_)
  refine lv_iload hx hb dX1_mark_20 (lv_at hl 0 rfl) ?_
  exact retIw hQ hf hP hS dX1_mark_22
def f_X1_addMile (S : ST) (x1 : Int32) (x2 : Int32) : Option (Int32 × ST) := if (S.1 1 0) < 16 then (b2 (f_X1_mark S (S.1 1 0) 0 x1) fun v1 S2 => b2 (f_X1_mark S2 (S2.1 1 0) 1 x2) fun v3 S4 => b2 (f_X1_mark S4 (S4.1 1 0) 2 9) fun v5 S6 => b2 (f_X1_mark S6 (S6.1 1 0) 3 0) fun v7 S8 => b2 (f_X1_mark S8 (S8.1 1 0) 4 0) fun v9 S10 => b2 (f_X1_mark S10 (S10.1 1 0) 5 8) fun v11 S12 => some ((((sI S12 1 0 ((S12.1 1 0) + 1)).1 1 0) - 1), (sI S12 1 0 ((S12.1 1 0) + 1)))) else (some ((-3), S))
set_option maxRecDepth 100000 in
set_option maxHeartbeats 4000000 in
theorem k_X1_addMile (l : Launch) (G : GT) (S : ST) (x1 : Int32) (x2 : Int32) (r : Int32) (S' : ST) (hf : f_X1_addMile S x1 x2 = some (r, S')) : MI l yX1_addMile cX1_addMile 3 (some .int) 3 [.ref (ad G 1), .int x1, .int x2] G S r S' := by
  rw [f_X1_addMile] at hf
  refine mkI (own := RX1) (by decide +kernel) rfl rfl (Nat.le_of_ble_eq_true rfl) (fun p e s m args below meth c Q ls hC hP hS hl hQ => ?_)
  have hl : lv_has ls 3 [(0, .ref (ad G 1)), (1, .int x1), (2, .int x2)] := hl
  obtain ⟨hx, hb, hml, hown, hts⟩ := id hC.1
  refine lv_aload_n hx hb dX1_addMile_0 rfl (lv_at hl 0 rfl) ?_
  refine gFi hC hP (j := 0) sg_1 vc_1 iT1 (by decide) rfl tb_1_28 dX1_addMile_1 ?_
  refine lv_bipush (v := 16) hx hb dX1_addMile_4 (by decide) ?_
  refine lv_icmp_lt (tgt := 12) hx hb dX1_addMile_6 (by decide) (fun hc => ?_) (fun hc => ?_)
  · rw [if_pos hc] at hf
    refine lv_aload_n hx hb dX1_addMile_12 rfl (lv_at hl 0 rfl) ?_
    refine lv_aload_n hx hb dX1_addMile_13 rfl (lv_at hl 0 rfl) ?_
    refine gFi hC hP (j := 0) sg_1 vc_1 iT1 (by decide) rfl tb_1_28 dX1_addMile_14 ?_
    refine lv_iconst (v := 0) hx hb dX1_addMile_17 (by decide) ?_
    refine lv_iload_n hx hb dX1_addMile_18 rfl (lv_at hl 1 rfl) ?_
    obtain ⟨v1, S2, hv, hf⟩ := ob_two hf
    refine cI hS (runV hC hP hS (As := [.int (S.1 1 0), .int 0, .int x1]) (rest := []) (k_X1_mark l G S (S.1 1 0) 0 x1 _ _ hv) vy_X1_mark sg_1 vc_1 tb_2_21 tb_2_22 tb_2_23 ⟨Nat.le_of_ble_eq_true rfl, Nat.le_of_ble_eq_true rfl⟩ rfl hl.1 rfl (Nat.le_of_ble_eq_true rfl) dX1_addMile_19) (fun H locs hP hS => ?_)
    refine lv_pop hx hb dX1_addMile_22 rfl ?_
    refine lv_aload_n hx hb dX1_addMile_23 rfl (lv_at hl 0 rfl) ?_
    refine lv_aload_n hx hb dX1_addMile_24 rfl (lv_at hl 0 rfl) ?_
    refine gFi hC hP (j := 0) sg_1 vc_1 iT1 (by decide) rfl tb_1_28 dX1_addMile_25 ?_
    refine lv_iconst (v := 1) hx hb dX1_addMile_28 (by decide) ?_
    refine lv_iload_n hx hb dX1_addMile_29 rfl (lv_at hl 2 rfl) ?_
    obtain ⟨v3, S4, hv, hf⟩ := ob_two hf
    refine cI hS (runV hC hP hS (As := [.int (S2.1 1 0), .int 1, .int x2]) (rest := []) (k_X1_mark l G S2 (S2.1 1 0) 1 x2 _ _ hv) vy_X1_mark sg_1 vc_1 tb_2_21 tb_2_22 tb_2_23 ⟨Nat.le_of_ble_eq_true rfl, Nat.le_of_ble_eq_true rfl⟩ rfl hl.1 rfl (Nat.le_of_ble_eq_true rfl) dX1_addMile_30) (fun H locs hP hS => ?_)
    refine lv_pop hx hb dX1_addMile_33 rfl ?_
    refine lv_aload_n hx hb dX1_addMile_34 rfl (lv_at hl 0 rfl) ?_
    refine lv_aload_n hx hb dX1_addMile_35 rfl (lv_at hl 0 rfl) ?_
    refine gFi hC hP (j := 0) sg_1 vc_1 iT1 (by decide) rfl tb_1_28 dX1_addMile_36 ?_
    refine lv_iconst (v := 2) hx hb dX1_addMile_39 (by decide) ?_
    refine lv_bipush (v := 9) hx hb dX1_addMile_40 (by decide) ?_
    obtain ⟨v5, S6, hv, hf⟩ := ob_two hf
    refine cI hS (runV hC hP hS (As := [.int (S4.1 1 0), .int 2, .int 9]) (rest := []) (k_X1_mark l G S4 (S4.1 1 0) 2 9 _ _ hv) vy_X1_mark sg_1 vc_1 tb_2_21 tb_2_22 tb_2_23 ⟨Nat.le_of_ble_eq_true rfl, Nat.le_of_ble_eq_true rfl⟩ rfl hl.1 rfl (Nat.le_of_ble_eq_true rfl) dX1_addMile_42) (fun H locs hP hS => ?_)
    refine lv_pop hx hb dX1_addMile_45 rfl ?_
    refine lv_aload_n hx hb dX1_addMile_46 rfl (lv_at hl 0 rfl) ?_
    refine lv_aload_n hx hb dX1_addMile_47 rfl (lv_at hl 0 rfl) ?_
    refine gFi hC hP (j := 0) sg_1 vc_1 iT1 (by decide) rfl tb_1_28 dX1_addMile_48 ?_
    refine lv_iconst (v := 3) hx hb dX1_addMile_51 (by decide) ?_
    refine lv_iconst (v := 0) hx hb dX1_addMile_52 (by decide) ?_
    obtain ⟨v7, S8, hv, hf⟩ := ob_two hf
    refine cI hS (runV hC hP hS (As := [.int (S6.1 1 0), .int 3, .int 0]) (rest := []) (k_X1_mark l G S6 (S6.1 1 0) 3 0 _ _ hv) vy_X1_mark sg_1 vc_1 tb_2_21 tb_2_22 tb_2_23 ⟨Nat.le_of_ble_eq_true rfl, Nat.le_of_ble_eq_true rfl⟩ rfl hl.1 rfl (Nat.le_of_ble_eq_true rfl) dX1_addMile_53) (fun H locs hP hS => ?_)
    refine lv_pop hx hb dX1_addMile_56 rfl ?_
    refine lv_aload_n hx hb dX1_addMile_57 rfl (lv_at hl 0 rfl) ?_
    refine lv_aload_n hx hb dX1_addMile_58 rfl (lv_at hl 0 rfl) ?_
    refine gFi hC hP (j := 0) sg_1 vc_1 iT1 (by decide) rfl tb_1_28 dX1_addMile_59 ?_
    refine lv_iconst (v := 4) hx hb dX1_addMile_62 (by decide) ?_
    refine lv_iconst (v := 0) hx hb dX1_addMile_63 (by decide) ?_
    obtain ⟨v9, S10, hv, hf⟩ := ob_two hf
    refine cI hS (runV hC hP hS (As := [.int (S8.1 1 0), .int 4, .int 0]) (rest := []) (k_X1_mark l G S8 (S8.1 1 0) 4 0 _ _ hv) vy_X1_mark sg_1 vc_1 tb_2_21 tb_2_22 tb_2_23 ⟨Nat.le_of_ble_eq_true rfl, Nat.le_of_ble_eq_true rfl⟩ rfl hl.1 rfl (Nat.le_of_ble_eq_true rfl) dX1_addMile_64) (fun H locs hP hS => ?_)
    refine lv_pop hx hb dX1_addMile_67 rfl ?_
    refine lv_aload_n hx hb dX1_addMile_68 rfl (lv_at hl 0 rfl) ?_
    refine lv_aload_n hx hb dX1_addMile_69 rfl (lv_at hl 0 rfl) ?_
    refine gFi hC hP (j := 0) sg_1 vc_1 iT1 (by decide) rfl tb_1_28 dX1_addMile_70 ?_
    refine lv_iconst (v := 5) hx hb dX1_addMile_73 (by decide) ?_
    refine lv_bipush (v := 8) hx hb dX1_addMile_74 (by decide) ?_
    obtain ⟨v11, S12, hv, hf⟩ := ob_two hf
    refine cI hS (runV hC hP hS (As := [.int (S10.1 1 0), .int 5, .int 8]) (rest := []) (k_X1_mark l G S10 (S10.1 1 0) 5 8 _ _ hv) vy_X1_mark sg_1 vc_1 tb_2_21 tb_2_22 tb_2_23 ⟨Nat.le_of_ble_eq_true rfl, Nat.le_of_ble_eq_true rfl⟩ rfl hl.1 rfl (Nat.le_of_ble_eq_true rfl) dX1_addMile_76) (fun H locs hP hS => ?_)
    refine lv_pop hx hb dX1_addMile_79 rfl ?_
    refine lv_aload_n hx hb dX1_addMile_80 rfl (lv_at hl 0 rfl) ?_
    refine lv_dup hx hb dX1_addMile_81 rfl ?_
    refine gFi hC hP (j := 0) sg_1 vc_1 iT1 (by decide) rfl tb_1_28 dX1_addMile_82 ?_
    refine lv_iconst (v := 1) hx hb dX1_addMile_85 (by decide) ?_
    refine lv_iadd hx hb dX1_addMile_86 ?_
    refine pFi hC hP hS (j := 0) sg_1 vc_1 iT1 tyX1_ok nmX1 (by decide) rfl tb_1_28 rfl rfl rfl dX1_addMile_87 (fun H locs hP hS => ?_)
    refine lv_aload_n hx hb dX1_addMile_90 rfl (lv_at hl 0 rfl) ?_
    refine gFi hC hP (j := 0) sg_1 vc_1 iT1 (by decide) rfl tb_1_28 dX1_addMile_91 ?_
    refine lv_iconst (v := 1) hx hb dX1_addMile_94 (by decide) ?_
    refine lv_isub hx hb dX1_addMile_95 ?_
    exact retIw hQ hf hP hS dX1_addMile_96
  · rw [if_neg hc] at hf
    refine lv_bipush (v := (-3)) hx hb dX1_addMile_9 (by decide) ?_
    exact retIw hQ hf hP hS dX1_addMile_11
def f_X7_mile (S : ST) (x1 : Int32) (x2 : Int32) : Option (Int32 × ST) := (f_X7_isMark S 0 x1).bind fun v1 => if v1 = 0 then (some ((-1), S)) else ((f_X7_isMark S 1 x2).bind fun v2 => if v2 = 0 then (some ((-1), S)) else (b2 (f_X1_addMile S x1 x2) fun v3 S4 => some (v3, S4)))
set_option maxRecDepth 100000 in
set_option maxHeartbeats 4000000 in
theorem k_X7_mile (l : Launch) (G : GT) (S : ST) (x1 : Int32) (x2 : Int32) (r : Int32) (S' : ST) (hf : f_X7_mile S x1 x2 = some (r, S')) : MI l yX7_mile cX7_mile 3 (some .int) 4 [.ref (ad G 0), .int x1, .int x2] G S r S' := by
  rw [f_X7_mile] at hf
  refine mkI (own := RX7) (by decide +kernel) rfl rfl (Nat.le_of_ble_eq_true rfl) (fun p e s m args below meth c Q ls hC hP hS hl hQ => ?_)
  have hl : lv_has ls 3 [(0, .ref (ad G 0)), (1, .int x1), (2, .int x2)] := hl
  obtain ⟨hx, hb, hml, hown, hts⟩ := id hC.1
  refine lv_iconst (v := 0) hx hb dX7_mile_0 (by decide) ?_
  refine lv_iload_n hx hb dX7_mile_1 rfl (lv_at hl 1 rfl) ?_
  obtain ⟨v1, hv, hf⟩ := ob_some hf
  refine cI hS (runS hC hP hS (As := [.int 0, .int x1]) (rest := []) (k_X7_isMark l G S 0 x1 _ hv) vy_X7_isMark tb_2_7 tb_2_8 ⟨Nat.le_of_ble_eq_true rfl, Nat.le_of_ble_eq_true rfl⟩ rfl hl.1 rfl (Nat.le_of_ble_eq_true rfl) dX7_mile_2) (fun H locs hP hS => ?_)
  refine lv_if_eq (tgt := 16) hx hb dX7_mile_5 (by decide) (fun hc => ?_) (fun hc => ?_)
  · rw [if_pos hc] at hf
    refine lv_iconst (v := (-1)) hx hb dX7_mile_16 (by decide) ?_
    exact retIw hQ hf hP hS dX7_mile_17
  · rw [if_neg hc] at hf
    refine lv_iconst (v := 1) hx hb dX7_mile_8 (by decide) ?_
    refine lv_iload_n hx hb dX7_mile_9 rfl (lv_at hl 2 rfl) ?_
    obtain ⟨v2, hv, hf⟩ := ob_some hf
    refine cI hS (runS hC hP hS (As := [.int 1, .int x2]) (rest := []) (k_X7_isMark l G S 1 x2 _ hv) vy_X7_isMark tb_2_7 tb_2_8 ⟨Nat.le_of_ble_eq_true rfl, Nat.le_of_ble_eq_true rfl⟩ rfl hl.1 rfl (Nat.le_of_ble_eq_true rfl) dX7_mile_10) (fun H locs hP hS => ?_)
    refine lv_if_ne (tgt := 18) hx hb dX7_mile_13 (by decide) (fun hc => ?_) (fun hc => ?_)
    · rw [if_neg hc] at hf
      refine lv_aload_n hx hb dX7_mile_18 rfl (lv_at hl 0 rfl) ?_
      refine gFr hC hP (j := 0) sg_0 vc_7 iT7 (by decide) rfl tb_1_212 dX7_mile_19 ?_
      refine lv_iload_n hx hb dX7_mile_22 rfl (lv_at hl 1 rfl) ?_
      refine lv_iload_n hx hb dX7_mile_23 rfl (lv_at hl 2 rfl) ?_
      obtain ⟨v3, S4, hv, hf⟩ := ob_two hf
      refine cI hS (runV hC hP hS (As := [.int x1, .int x2]) (rest := []) (k_X1_addMile l G S x1 x2 _ _ hv) vy_X1_addMile sg_1 vc_1 tb_2_17 tb_2_18 tb_2_19 ⟨Nat.le_of_ble_eq_true rfl, Nat.le_of_ble_eq_true rfl⟩ rfl hl.1 rfl (Nat.le_of_ble_eq_true rfl) dX7_mile_24) (fun H locs hP hS => ?_)
      exact retIw hQ hf hP hS dX7_mile_27
    · rw [if_pos hc] at hf
      refine lv_iconst (v := (-1)) hx hb dX7_mile_16 (by decide) ?_
      exact retIw hQ hf hP hS dX7_mile_17
def f_X1_hasMile (S : ST) (x1 : Int32) : Option Int32 := if x1 < 0 then (some 0) else (if (S.1 1 0) ≤ x1 then (some 0) else (some 1))
set_option maxRecDepth 100000 in
set_option maxHeartbeats 4000000 in
theorem k_X1_hasMile (l : Launch) (G : GT) (S : ST) (x1 : Int32) (r : Int32) (hf : f_X1_hasMile S x1 = some r) : MI l yX1_hasMile cX1_hasMile 2 (some .boolean) 1 [.ref (ad G 1), .int x1] G S r S := by
  rw [f_X1_hasMile] at hf
  refine mkZ (own := RX1) (by decide +kernel) rfl (Nat.le_of_ble_eq_true rfl) (fun p e s m args below meth c Q ls hC hP hS hl hQ => ?_)
  have hl : lv_has ls 2 [(0, .ref (ad G 1)), (1, .int x1)] := hl
  obtain ⟨hx, hb, hml, hown, hts⟩ := id hC.1
  refine lv_iload_n hx hb dX1_hasMile_0 rfl (lv_at hl 1 rfl) ?_
  refine lv_if_lt (tgt := 16) hx hb dX1_hasMile_1 (by decide) (fun hc => ?_) (fun hc => ?_)
  · rw [if_pos hc] at hf
    refine lv_iconst (v := 0) hx hb dX1_hasMile_16 (by decide) ?_
    exact retZ hQ rfl hf hP hS dX1_hasMile_17
  · rw [if_neg hc] at hf
    refine lv_iload_n hx hb dX1_hasMile_4 rfl (lv_at hl 1 rfl) ?_
    refine lv_aload_n hx hb dX1_hasMile_5 rfl (lv_at hl 0 rfl) ?_
    refine gFi hC hP (j := 0) sg_1 vc_1 iT1 (by decide) rfl tb_1_28 dX1_hasMile_6 ?_
    refine lv_icmp_ge (tgt := 16) hx hb dX1_hasMile_9 (by decide) (fun hc => ?_) (fun hc => ?_)
    · rw [if_pos hc] at hf
      refine lv_iconst (v := 0) hx hb dX1_hasMile_16 (by decide) ?_
      exact retZ hQ rfl hf hP hS dX1_hasMile_17
    · rw [if_neg hc] at hf
      refine lv_iconst (v := 1) hx hb dX1_hasMile_12 (by decide) ?_
      refine lv_goto (tgt := 17) hx hb dX1_hasMile_13 (by decide) ?_
      exact retZ hQ rfl hf hP hS dX1_hasMile_17
def f_X7_make (S : ST) (x1 : Int32) (x2 : Int32) (x3 : Int32) : Option (Int32 × ST) := (f_X1_hasMile S x1).bind fun v1 => if v1 = 0 then (some ((-1), S)) else ((f_X7_within x2 0 4).bind fun v2 => if v2 = 0 then (some ((-1), S)) else ((f_X7_isMark S x2 x3).bind fun v3 => if v3 = 0 then (some ((-1), S)) else (b2 (f_X1_mark S x1 x2 x3) fun v4 S5 => some (v4, S5))))
set_option maxRecDepth 100000 in
set_option maxHeartbeats 4000000 in
theorem k_X7_make (l : Launch) (G : GT) (S : ST) (x1 : Int32) (x2 : Int32) (x3 : Int32) (r : Int32) (S' : ST) (hf : f_X7_make S x1 x2 x3 = some (r, S')) : MI l yX7_make cX7_make 4 (some .int) 3 [.ref (ad G 0), .int x1, .int x2, .int x3] G S r S' := by
  rw [f_X7_make] at hf
  refine mkI (own := RX7) (by decide +kernel) rfl rfl (Nat.le_of_ble_eq_true rfl) (fun p e s m args below meth c Q ls hC hP hS hl hQ => ?_)
  have hl : lv_has ls 4 [(0, .ref (ad G 0)), (1, .int x1), (2, .int x2), (3, .int x3)] := hl
  obtain ⟨hx, hb, hml, hown, hts⟩ := id hC.1
  refine lv_aload_n hx hb dX7_make_0 rfl (lv_at hl 0 rfl) ?_
  refine gFr hC hP (j := 0) sg_0 vc_7 iT7 (by decide) rfl tb_1_212 dX7_make_1 ?_
  refine lv_iload_n hx hb dX7_make_4 rfl (lv_at hl 1 rfl) ?_
  obtain ⟨v1, hv, hf⟩ := ob_some hf
  refine cI hS (runV hC hP hS (As := [.int x1]) (rest := []) (k_X1_hasMile l G S x1 _ hv) vy_X1_hasMile sg_1 vc_1 tb_2_33 tb_2_34 tb_2_35 ⟨Nat.le_of_ble_eq_true rfl, Nat.le_of_ble_eq_true rfl⟩ rfl hl.1 rfl (Nat.le_of_ble_eq_true rfl) dX7_make_5) (fun H locs hP hS => ?_)
  refine lv_if_eq (tgt := 28) hx hb dX7_make_8 (by decide) (fun hc => ?_) (fun hc => ?_)
  · rw [if_pos hc] at hf
    refine lv_iconst (v := (-1)) hx hb dX7_make_28 (by decide) ?_
    exact retIw hQ hf hP hS dX7_make_29
  · rw [if_neg hc] at hf
    refine lv_iload_n hx hb dX7_make_11 rfl (lv_at hl 2 rfl) ?_
    refine lv_iconst (v := 0) hx hb dX7_make_12 (by decide) ?_
    refine lv_iconst (v := 4) hx hb dX7_make_13 (by decide) ?_
    obtain ⟨v2, hv, hf⟩ := ob_some hf
    refine cI hS (runS hC hP hS (As := [.int x2, .int 0, .int 4]) (rest := []) (k_X7_within l G S x2 0 4 _ hv) vy_X7_within tb_2_14 tb_2_15 ⟨Nat.le_of_ble_eq_true rfl, Nat.le_of_ble_eq_true rfl⟩ rfl hl.1 rfl (Nat.le_of_ble_eq_true rfl) dX7_make_14) (fun H locs hP hS => ?_)
    refine lv_if_eq (tgt := 28) hx hb dX7_make_17 (by decide) (fun hc => ?_) (fun hc => ?_)
    · rw [if_pos hc] at hf
      refine lv_iconst (v := (-1)) hx hb dX7_make_28 (by decide) ?_
      exact retIw hQ hf hP hS dX7_make_29
    · rw [if_neg hc] at hf
      refine lv_iload_n hx hb dX7_make_20 rfl (lv_at hl 2 rfl) ?_
      refine lv_iload_n hx hb dX7_make_21 rfl (lv_at hl 3 rfl) ?_
      obtain ⟨v3, hv, hf⟩ := ob_some hf
      refine cI hS (runS hC hP hS (As := [.int x2, .int x3]) (rest := []) (k_X7_isMark l G S x2 x3 _ hv) vy_X7_isMark tb_2_7 tb_2_8 ⟨Nat.le_of_ble_eq_true rfl, Nat.le_of_ble_eq_true rfl⟩ rfl hl.1 rfl (Nat.le_of_ble_eq_true rfl) dX7_make_22) (fun H locs hP hS => ?_)
      refine lv_if_ne (tgt := 30) hx hb dX7_make_25 (by decide) (fun hc => ?_) (fun hc => ?_)
      · rw [if_neg hc] at hf
        refine lv_aload_n hx hb dX7_make_30 rfl (lv_at hl 0 rfl) ?_
        refine gFr hC hP (j := 0) sg_0 vc_7 iT7 (by decide) rfl tb_1_212 dX7_make_31 ?_
        refine lv_iload_n hx hb dX7_make_34 rfl (lv_at hl 1 rfl) ?_
        refine lv_iload_n hx hb dX7_make_35 rfl (lv_at hl 2 rfl) ?_
        refine lv_iload_n hx hb dX7_make_36 rfl (lv_at hl 3 rfl) ?_
        obtain ⟨v4, S5, hv, hf⟩ := ob_two hf
        refine cI hS (runV hC hP hS (As := [.int x1, .int x2, .int x3]) (rest := []) (k_X1_mark l G S x1 x2 x3 _ _ hv) vy_X1_mark sg_1 vc_1 tb_2_37 tb_2_22 tb_2_23 ⟨Nat.le_of_ble_eq_true rfl, Nat.le_of_ble_eq_true rfl⟩ rfl hl.1 rfl (Nat.le_of_ble_eq_true rfl) dX7_make_37) (fun H locs hP hS => ?_)
        exact retIw hQ hf hP hS dX7_make_40
      · rw [if_pos hc] at hf
        refine lv_iconst (v := (-1)) hx hb dX7_make_28 (by decide) ?_
        exact retIw hQ hf hP hS dX7_make_29
def f_X7_told (S : ST) (x1 : Int32) (x2 : Int32) : Option Int32 := (f_X1_hasMile S x1).bind fun v1 => if v1 = 0 then (some (-1)) else ((f_X7_within x2 0 5).bind fun v2 => if v2 = 0 then (some (-1)) else ((f_X1_markOf S x1 x2).bind fun v3 => some v3))
set_option maxRecDepth 100000 in
set_option maxHeartbeats 4000000 in
theorem k_X7_told (l : Launch) (G : GT) (S : ST) (x1 : Int32) (x2 : Int32) (r : Int32) (hf : f_X7_told S x1 x2 = some r) : MI l yX7_told cX7_told 3 (some .int) 2 [.ref (ad G 0), .int x1, .int x2] G S r S := by
  rw [f_X7_told] at hf
  refine mkI (own := RX7) (by decide +kernel) rfl rfl (Nat.le_of_ble_eq_true rfl) (fun p e s m args below meth c Q ls hC hP hS hl hQ => ?_)
  have hl : lv_has ls 3 [(0, .ref (ad G 0)), (1, .int x1), (2, .int x2)] := hl
  obtain ⟨hx, hb, hml, hown, hts⟩ := id hC.1
  refine lv_aload_n hx hb dX7_told_0 rfl (lv_at hl 0 rfl) ?_
  refine gFr hC hP (j := 0) sg_0 vc_7 iT7 (by decide) rfl tb_1_212 dX7_told_1 ?_
  refine lv_iload_n hx hb dX7_told_4 rfl (lv_at hl 1 rfl) ?_
  obtain ⟨v1, hv, hf⟩ := ob_some hf
  refine cI hS (runV hC hP hS (As := [.int x1]) (rest := []) (k_X1_hasMile l G S x1 _ hv) vy_X1_hasMile sg_1 vc_1 tb_2_33 tb_2_34 tb_2_35 ⟨Nat.le_of_ble_eq_true rfl, Nat.le_of_ble_eq_true rfl⟩ rfl hl.1 rfl (Nat.le_of_ble_eq_true rfl) dX7_told_5) (fun H locs hP hS => ?_)
  refine lv_if_eq (tgt := 20) hx hb dX7_told_8 (by decide) (fun hc => ?_) (fun hc => ?_)
  · rw [if_pos hc] at hf
    refine lv_iconst (v := (-1)) hx hb dX7_told_20 (by decide) ?_
    exact retI hQ hf hP hS dX7_told_21
  · rw [if_neg hc] at hf
    refine lv_iload_n hx hb dX7_told_11 rfl (lv_at hl 2 rfl) ?_
    refine lv_iconst (v := 0) hx hb dX7_told_12 (by decide) ?_
    refine lv_iconst (v := 5) hx hb dX7_told_13 (by decide) ?_
    obtain ⟨v2, hv, hf⟩ := ob_some hf
    refine cI hS (runS hC hP hS (As := [.int x2, .int 0, .int 5]) (rest := []) (k_X7_within l G S x2 0 5 _ hv) vy_X7_within tb_2_14 tb_2_15 ⟨Nat.le_of_ble_eq_true rfl, Nat.le_of_ble_eq_true rfl⟩ rfl hl.1 rfl (Nat.le_of_ble_eq_true rfl) dX7_told_14) (fun H locs hP hS => ?_)
    refine lv_if_ne (tgt := 22) hx hb dX7_told_17 (by decide) (fun hc => ?_) (fun hc => ?_)
    · rw [if_neg hc] at hf
      refine lv_aload_n hx hb dX7_told_22 rfl (lv_at hl 0 rfl) ?_
      refine gFr hC hP (j := 0) sg_0 vc_7 iT7 (by decide) rfl tb_1_212 dX7_told_23 ?_
      refine lv_iload_n hx hb dX7_told_26 rfl (lv_at hl 1 rfl) ?_
      refine lv_iload_n hx hb dX7_told_27 rfl (lv_at hl 2 rfl) ?_
      obtain ⟨v3, hv, hf⟩ := ob_some hf
      refine cI hS (runV hC hP hS (As := [.int x1, .int x2]) (rest := []) (k_X1_markOf l G S x1 x2 _ hv) vy_X1_markOf sg_1 vc_1 tb_2_42 tb_2_26 tb_2_27 ⟨Nat.le_of_ble_eq_true rfl, Nat.le_of_ble_eq_true rfl⟩ rfl hl.1 rfl (Nat.le_of_ble_eq_true rfl) dX7_told_28) (fun H locs hP hS => ?_)
      exact retI hQ hf hP hS dX7_told_31
    · rw [if_pos hc] at hf
      refine lv_iconst (v := (-1)) hx hb dX7_told_20 (by decide) ?_
      exact retI hQ hf hP hS dX7_told_21
def f_X7_height (S : ST) (x1 : Int32) (x2 : Int32) : Option (Int32 × ST) := (f_X7_within x1 0 23).bind fun v1 => if v1 = 0 then (some ((-1), S)) else ((f_X7_within x2 0 99).bind fun v2 => if v2 = 0 then (some ((-1), S)) else ((rI S 0 2 x1).bind fun v3 => (wI S 2 x1 x2).bind fun S4 => some (v3, S4)))
set_option maxRecDepth 100000 in
set_option maxHeartbeats 4000000 in
theorem k_X7_height (l : Launch) (G : GT) (S : ST) (x1 : Int32) (x2 : Int32) (r : Int32) (S' : ST) (hf : f_X7_height S x1 x2 = some (r, S')) : MI l yX7_height cX7_height 4 (some .int) 2 [.ref (ad G 0), .int x1, .int x2] G S r S' := by
  rw [f_X7_height] at hf
  refine mkI (own := RX7) (by decide +kernel) rfl rfl (Nat.le_of_ble_eq_true rfl) (fun p e s m args below meth c Q ls hC hP hS hl hQ => ?_)
  have hl : lv_has ls 4 [(0, .ref (ad G 0)), (1, .int x1), (2, .int x2)] := hl
  obtain ⟨hx, hb, hml, hown, hts⟩ := id hC.1
  refine lv_iload_n hx hb dX7_height_0 rfl (lv_at hl 1 rfl) ?_
  refine lv_iconst (v := 0) hx hb dX7_height_1 (by decide) ?_
  refine lv_bipush (v := 23) hx hb dX7_height_2 (by decide) ?_
  obtain ⟨v1, hv, hf⟩ := ob_some hf
  refine cI hS (runS hC hP hS (As := [.int x1, .int 0, .int 23]) (rest := []) (k_X7_within l G S x1 0 23 _ hv) vy_X7_within tb_2_14 tb_2_15 ⟨Nat.le_of_ble_eq_true rfl, Nat.le_of_ble_eq_true rfl⟩ rfl hl.1 rfl (Nat.le_of_ble_eq_true rfl) dX7_height_4) (fun H locs hP hS => ?_)
  refine lv_if_eq (tgt := 20) hx hb dX7_height_7 (by decide) (fun hc => ?_) (fun hc => ?_)
  · rw [if_pos hc] at hf
    refine lv_iconst (v := (-1)) hx hb dX7_height_20 (by decide) ?_
    exact retIw hQ hf hP hS dX7_height_21
  · rw [if_neg hc] at hf
    refine lv_iload_n hx hb dX7_height_10 rfl (lv_at hl 2 rfl) ?_
    refine lv_iconst (v := 0) hx hb dX7_height_11 (by decide) ?_
    refine lv_bipush (v := 99) hx hb dX7_height_12 (by decide) ?_
    obtain ⟨v2, hv, hf⟩ := ob_some hf
    refine cI hS (runS hC hP hS (As := [.int x2, .int 0, .int 99]) (rest := []) (k_X7_within l G S x2 0 99 _ hv) vy_X7_within tb_2_14 tb_2_15 ⟨Nat.le_of_ble_eq_true rfl, Nat.le_of_ble_eq_true rfl⟩ rfl hl.1 rfl (Nat.le_of_ble_eq_true rfl) dX7_height_14) (fun H locs hP hS => ?_)
    refine lv_if_ne (tgt := 22) hx hb dX7_height_17 (by decide) (fun hc => ?_) (fun hc => ?_)
    · rw [if_neg hc] at hf
      refine lv_aload_n hx hb dX7_height_22 rfl (lv_at hl 0 rfl) ?_
      refine gFr hC hP (j := 0) sg_0 vc_7 iT7 (by decide) rfl tb_1_212 dX7_height_23 ?_
      refine gFr hC hP (j := 2) sg_1 vc_1 iT1 (by decide) rfl tb_1_36 dX7_height_26 ?_
      refine lv_iload_n hx hb dX7_height_29 rfl (lv_at hl 1 rfl) ?_
      obtain ⟨v3, hv, hf⟩ := ob_some hf
      refine gIa hC hP hv dX7_height_30 ?_
      refine lv_istore_n (lv' := [(3, .int v3), (0, .ref (ad G 0)), (1, .int x1), (2, .int x2)]) hx hb dX7_height_31 rfl hl (by decide) rfl (fun ls hl => ?_)
      refine lv_aload_n hx hb dX7_height_32 rfl (lv_at hl 1 rfl) ?_
      refine gFr hC hP (j := 0) sg_0 vc_7 iT7 (by decide) rfl tb_1_212 dX7_height_33 ?_
      refine gFr hC hP (j := 2) sg_1 vc_1 iT1 (by decide) rfl tb_1_36 dX7_height_36 ?_
      refine lv_iload_n hx hb dX7_height_39 rfl (lv_at hl 2 rfl) ?_
      refine lv_iload_n hx hb dX7_height_40 rfl (lv_at hl 3 rfl) ?_
      obtain ⟨S4, hv, hf⟩ := ob_some hf
      refine sIa hC hP hS hv dX7_height_41 (fun H locs hP hS => ?_)
      refine lv_iload_n hx hb dX7_height_42 rfl (lv_at hl 0 rfl) ?_
      exact retIw hQ hf hP hS dX7_height_43
    · rw [if_pos hc] at hf
      refine lv_iconst (v := (-1)) hx hb dX7_height_20 (by decide) ?_
      exact retIw hQ hf hP hS dX7_height_21
def f_X7_set (S : ST) (x1 : Int32) (x2 : Int32) : Option (Int32 × ST) := (f_X7_within x1 0 4).bind fun v1 => if v1 = 0 then (some ((-1), S)) else ((rS 4 x1).bind fun v2 => (f_X7_within x2 0 v2).bind fun v3 => if v3 = 0 then (some ((-1), S)) else ((rI S 0 3 x1).bind fun v4 => (wI S 3 x1 x2).bind fun S5 => some (v4, S5)))
set_option maxRecDepth 100000 in
set_option maxHeartbeats 4000000 in
theorem k_X7_set (l : Launch) (G : GT) (S : ST) (x1 : Int32) (x2 : Int32) (r : Int32) (S' : ST) (hf : f_X7_set S x1 x2 = some (r, S')) : MI l yX7_set cX7_set 4 (some .int) 2 [.ref (ad G 0), .int x1, .int x2] G S r S' := by
  rw [f_X7_set] at hf
  refine mkI (own := RX7) (by decide +kernel) rfl rfl (Nat.le_of_ble_eq_true rfl) (fun p e s m args below meth c Q ls hC hP hS hl hQ => ?_)
  have hl : lv_has ls 4 [(0, .ref (ad G 0)), (1, .int x1), (2, .int x2)] := hl
  obtain ⟨hx, hb, hml, hown, hts⟩ := id hC.1
  refine lv_iload_n hx hb dX7_set_0 rfl (lv_at hl 1 rfl) ?_
  refine lv_iconst (v := 0) hx hb dX7_set_1 (by decide) ?_
  refine lv_iconst (v := 4) hx hb dX7_set_2 (by decide) ?_
  obtain ⟨v1, hv, hf⟩ := ob_some hf
  refine cI hS (runS hC hP hS (As := [.int x1, .int 0, .int 4]) (rest := []) (k_X7_within l G S x1 0 4 _ hv) vy_X7_within tb_2_14 tb_2_15 ⟨Nat.le_of_ble_eq_true rfl, Nat.le_of_ble_eq_true rfl⟩ rfl hl.1 rfl (Nat.le_of_ble_eq_true rfl) dX7_set_3) (fun H locs hP hS => ?_)
  refine lv_if_eq (tgt := 22) hx hb dX7_set_6 (by decide) (fun hc => ?_) (fun hc => ?_)
  · rw [if_pos hc] at hf
    refine lv_iconst (v := (-1)) hx hb dX7_set_22 (by decide) ?_
    exact retIw hQ hf hP hS dX7_set_23
  · rw [if_neg hc] at hf
    refine lv_iload_n hx hb dX7_set_9 rfl (lv_at hl 2 rfl) ?_
    refine lv_iconst (v := 0) hx hb dX7_set_10 (by decide) ?_
    refine gSt hC hS (j := 4) (by decide) tb_2_51 dX7_set_11 ?_
    refine lv_iload_n hx hb dX7_set_14 rfl (lv_at hl 1 rfl) ?_
    obtain ⟨v2, hv, hf⟩ := ob_some hf
    refine gSi hC hS (by decide) hv dX7_set_15 ?_
    obtain ⟨v3, hv, hf⟩ := ob_some hf
    refine cI hS (runS hC hP hS (As := [.int x2, .int 0, .int v2]) (rest := []) (k_X7_within l G S x2 0 v2 _ hv) vy_X7_within tb_2_14 tb_2_15 ⟨Nat.le_of_ble_eq_true rfl, Nat.le_of_ble_eq_true rfl⟩ rfl hl.1 rfl (Nat.le_of_ble_eq_true rfl) dX7_set_16) (fun H locs hP hS => ?_)
    refine lv_if_ne (tgt := 24) hx hb dX7_set_19 (by decide) (fun hc => ?_) (fun hc => ?_)
    · rw [if_neg hc] at hf
      refine lv_aload_n hx hb dX7_set_24 rfl (lv_at hl 0 rfl) ?_
      refine gFr hC hP (j := 0) sg_0 vc_7 iT7 (by decide) rfl tb_1_212 dX7_set_25 ?_
      refine gFr hC hP (j := 3) sg_1 vc_1 iT1 (by decide) rfl tb_1_40 dX7_set_28 ?_
      refine lv_iload_n hx hb dX7_set_31 rfl (lv_at hl 1 rfl) ?_
      obtain ⟨v4, hv, hf⟩ := ob_some hf
      refine gIa hC hP hv dX7_set_32 ?_
      refine lv_istore_n (lv' := [(3, .int v4), (0, .ref (ad G 0)), (1, .int x1), (2, .int x2)]) hx hb dX7_set_33 rfl hl (by decide) rfl (fun ls hl => ?_)
      refine lv_aload_n hx hb dX7_set_34 rfl (lv_at hl 1 rfl) ?_
      refine gFr hC hP (j := 0) sg_0 vc_7 iT7 (by decide) rfl tb_1_212 dX7_set_35 ?_
      refine gFr hC hP (j := 3) sg_1 vc_1 iT1 (by decide) rfl tb_1_40 dX7_set_38 ?_
      refine lv_iload_n hx hb dX7_set_41 rfl (lv_at hl 2 rfl) ?_
      refine lv_iload_n hx hb dX7_set_42 rfl (lv_at hl 3 rfl) ?_
      obtain ⟨S5, hv, hf⟩ := ob_some hf
      refine sIa hC hP hS hv dX7_set_43 (fun H locs hP hS => ?_)
      refine lv_iload_n hx hb dX7_set_44 rfl (lv_at hl 0 rfl) ?_
      exact retIw hQ hf hP hS dX7_set_45
    · rw [if_pos hc] at hf
      refine lv_iconst (v := (-1)) hx hb dX7_set_22 (by decide) ?_
      exact retIw hQ hf hP hS dX7_set_23
def f_X1_addShip (S : ST) (x1 : Int32) (x2 : Int32) (x3 : Int32) : Option (Int32 × ST) := if (S.1 1 1) < 6 then ((wI S 5 (((S.1 1 1) * 3) + 0) x1).bind fun S1 => (wI S1 5 (((S1.1 1 1) * 3) + 1) x2).bind fun S2 => (wI S2 5 (((S2.1 1 1) * 3) + 2) x3).bind fun S3 => some ((((sI S3 1 1 ((S3.1 1 1) + 1)).1 1 1) - 1), (sI S3 1 1 ((S3.1 1 1) + 1)))) else (some ((-3), S))
set_option maxRecDepth 100000 in
set_option maxHeartbeats 4000000 in
theorem k_X1_addShip (l : Launch) (G : GT) (S : ST) (x1 : Int32) (x2 : Int32) (x3 : Int32) (r : Int32) (S' : ST) (hf : f_X1_addShip S x1 x2 x3 = some (r, S')) : MI l yX1_addShip cX1_addShip 4 (some .int) 1 [.ref (ad G 1), .int x1, .int x2, .int x3] G S r S' := by
  rw [f_X1_addShip] at hf
  refine mkI (own := RX1) (by decide +kernel) rfl rfl (Nat.le_of_ble_eq_true rfl) (fun p e s m args below meth c Q ls hC hP hS hl hQ => ?_)
  have hl : lv_has ls 4 [(0, .ref (ad G 1)), (1, .int x1), (2, .int x2), (3, .int x3)] := hl
  obtain ⟨hx, hb, hml, hown, hts⟩ := id hC.1
  refine lv_aload_n hx hb dX1_addShip_0 rfl (lv_at hl 0 rfl) ?_
  refine gFi hC hP (j := 1) sg_1 vc_1 iT1 (by decide) rfl tb_1_32 dX1_addShip_1 ?_
  refine lv_bipush (v := 6) hx hb dX1_addShip_4 (by decide) ?_
  refine lv_icmp_lt (tgt := 12) hx hb dX1_addShip_6 (by decide) (fun hc => ?_) (fun hc => ?_)
  · rw [if_pos hc] at hf
    refine lv_aload_n hx hb dX1_addShip_12 rfl (lv_at hl 0 rfl) ?_
    refine gFr hC hP (j := 5) sg_1 vc_1 iT1 (by decide) rfl tb_1_42 dX1_addShip_13 ?_
    refine lv_aload_n hx hb dX1_addShip_16 rfl (lv_at hl 0 rfl) ?_
    refine gFi hC hP (j := 1) sg_1 vc_1 iT1 (by decide) rfl tb_1_32 dX1_addShip_17 ?_
    refine lv_iconst (v := 3) hx hb dX1_addShip_20 (by decide) ?_
    refine lv_imul hx hb dX1_addShip_21 ?_
    refine lv_iconst (v := 0) hx hb dX1_addShip_22 (by decide) ?_
    refine lv_iadd hx hb dX1_addShip_23 ?_
    refine lv_iload_n hx hb dX1_addShip_24 rfl (lv_at hl 1 rfl) ?_
    obtain ⟨S1, hv, hf⟩ := ob_some hf
    refine sIa hC hP hS hv dX1_addShip_25 (fun H locs hP hS => ?_)
    refine lv_aload_n hx hb dX1_addShip_26 rfl (lv_at hl 0 rfl) ?_
    refine gFr hC hP (j := 5) sg_1 vc_1 iT1 (by decide) rfl tb_1_42 dX1_addShip_27 ?_
    refine lv_aload_n hx hb dX1_addShip_30 rfl (lv_at hl 0 rfl) ?_
    refine gFi hC hP (j := 1) sg_1 vc_1 iT1 (by decide) rfl tb_1_32 dX1_addShip_31 ?_
    refine lv_iconst (v := 3) hx hb dX1_addShip_34 (by decide) ?_
    refine lv_imul hx hb dX1_addShip_35 ?_
    refine lv_iconst (v := 1) hx hb dX1_addShip_36 (by decide) ?_
    refine lv_iadd hx hb dX1_addShip_37 ?_
    refine lv_iload_n hx hb dX1_addShip_38 rfl (lv_at hl 2 rfl) ?_
    obtain ⟨S2, hv, hf⟩ := ob_some hf
    refine sIa hC hP hS hv dX1_addShip_39 (fun H locs hP hS => ?_)
    refine lv_aload_n hx hb dX1_addShip_40 rfl (lv_at hl 0 rfl) ?_
    refine gFr hC hP (j := 5) sg_1 vc_1 iT1 (by decide) rfl tb_1_42 dX1_addShip_41 ?_
    refine lv_aload_n hx hb dX1_addShip_44 rfl (lv_at hl 0 rfl) ?_
    refine gFi hC hP (j := 1) sg_1 vc_1 iT1 (by decide) rfl tb_1_32 dX1_addShip_45 ?_
    refine lv_iconst (v := 3) hx hb dX1_addShip_48 (by decide) ?_
    refine lv_imul hx hb dX1_addShip_49 ?_
    refine lv_iconst (v := 2) hx hb dX1_addShip_50 (by decide) ?_
    refine lv_iadd hx hb dX1_addShip_51 ?_
    refine lv_iload_n hx hb dX1_addShip_52 rfl (lv_at hl 3 rfl) ?_
    obtain ⟨S3, hv, hf⟩ := ob_some hf
    refine sIa hC hP hS hv dX1_addShip_53 (fun H locs hP hS => ?_)
    refine lv_aload_n hx hb dX1_addShip_54 rfl (lv_at hl 0 rfl) ?_
    refine lv_dup hx hb dX1_addShip_55 rfl ?_
    refine gFi hC hP (j := 1) sg_1 vc_1 iT1 (by decide) rfl tb_1_32 dX1_addShip_56 ?_
    refine lv_iconst (v := 1) hx hb dX1_addShip_59 (by decide) ?_
    refine lv_iadd hx hb dX1_addShip_60 ?_
    refine pFi hC hP hS (j := 1) sg_1 vc_1 iT1 tyX1_ok nmX1 (by decide) rfl tb_1_32 rfl rfl rfl dX1_addShip_61 (fun H locs hP hS => ?_)
    refine lv_aload_n hx hb dX1_addShip_64 rfl (lv_at hl 0 rfl) ?_
    refine gFi hC hP (j := 1) sg_1 vc_1 iT1 (by decide) rfl tb_1_32 dX1_addShip_65 ?_
    refine lv_iconst (v := 1) hx hb dX1_addShip_68 (by decide) ?_
    refine lv_isub hx hb dX1_addShip_69 ?_
    exact retIw hQ hf hP hS dX1_addShip_70
  · rw [if_neg hc] at hf
    refine lv_bipush (v := (-3)) hx hb dX1_addShip_9 (by decide) ?_
    exact retIw hQ hf hP hS dX1_addShip_11
def f_X7_ship (S : ST) (x1 : Int32) (x2 : Int32) (x3 : Int32) : Option (Int32 × ST) := (f_X7_within x1 20 200).bind fun v1 => if v1 = 0 then (some ((-1), S)) else ((f_X7_within x2 1 40).bind fun v2 => if v2 = 0 then (some ((-1), S)) else ((f_X7_within x3 1 99).bind fun v3 => if v3 = 0 then (some ((-1), S)) else (b2 (f_X1_addShip S x1 x2 x3) fun v4 S5 => some (v4, S5))))
set_option maxRecDepth 100000 in
set_option maxHeartbeats 4000000 in
theorem k_X7_ship (l : Launch) (G : GT) (S : ST) (x1 : Int32) (x2 : Int32) (x3 : Int32) (r : Int32) (S' : ST) (hf : f_X7_ship S x1 x2 x3 = some (r, S')) : MI l yX7_ship cX7_ship 4 (some .int) 2 [.ref (ad G 0), .int x1, .int x2, .int x3] G S r S' := by
  rw [f_X7_ship] at hf
  refine mkI (own := RX7) (by decide +kernel) rfl rfl (Nat.le_of_ble_eq_true rfl) (fun p e s m args below meth c Q ls hC hP hS hl hQ => ?_)
  have hl : lv_has ls 4 [(0, .ref (ad G 0)), (1, .int x1), (2, .int x2), (3, .int x3)] := hl
  obtain ⟨hx, hb, hml, hown, hts⟩ := id hC.1
  refine lv_iload_n hx hb dX7_ship_0 rfl (lv_at hl 1 rfl) ?_
  refine lv_bipush (v := 20) hx hb dX7_ship_1 (by decide) ?_
  refine lv_sipush (v := 200) hx hb dX7_ship_3 (by decide) ?_
  obtain ⟨v1, hv, hf⟩ := ob_some hf
  refine cI hS (runS hC hP hS (As := [.int x1, .int 20, .int 200]) (rest := []) (k_X7_within l G S x1 20 200 _ hv) vy_X7_within tb_2_14 tb_2_15 ⟨Nat.le_of_ble_eq_true rfl, Nat.le_of_ble_eq_true rfl⟩ rfl hl.1 rfl (Nat.le_of_ble_eq_true rfl) dX7_ship_6) (fun H locs hP hS => ?_)
  refine lv_if_eq (tgt := 32) hx hb dX7_ship_9 (by decide) (fun hc => ?_) (fun hc => ?_)
  · rw [if_pos hc] at hf
    refine lv_iconst (v := (-1)) hx hb dX7_ship_32 (by decide) ?_
    exact retIw hQ hf hP hS dX7_ship_33
  · rw [if_neg hc] at hf
    refine lv_iload_n hx hb dX7_ship_12 rfl (lv_at hl 2 rfl) ?_
    refine lv_iconst (v := 1) hx hb dX7_ship_13 (by decide) ?_
    refine lv_bipush (v := 40) hx hb dX7_ship_14 (by decide) ?_
    obtain ⟨v2, hv, hf⟩ := ob_some hf
    refine cI hS (runS hC hP hS (As := [.int x2, .int 1, .int 40]) (rest := []) (k_X7_within l G S x2 1 40 _ hv) vy_X7_within tb_2_14 tb_2_15 ⟨Nat.le_of_ble_eq_true rfl, Nat.le_of_ble_eq_true rfl⟩ rfl hl.1 rfl (Nat.le_of_ble_eq_true rfl) dX7_ship_16) (fun H locs hP hS => ?_)
    refine lv_if_eq (tgt := 32) hx hb dX7_ship_19 (by decide) (fun hc => ?_) (fun hc => ?_)
    · rw [if_pos hc] at hf
      refine lv_iconst (v := (-1)) hx hb dX7_ship_32 (by decide) ?_
      exact retIw hQ hf hP hS dX7_ship_33
    · rw [if_neg hc] at hf
      refine lv_iload_n hx hb dX7_ship_22 rfl (lv_at hl 3 rfl) ?_
      refine lv_iconst (v := 1) hx hb dX7_ship_23 (by decide) ?_
      refine lv_bipush (v := 99) hx hb dX7_ship_24 (by decide) ?_
      obtain ⟨v3, hv, hf⟩ := ob_some hf
      refine cI hS (runS hC hP hS (As := [.int x3, .int 1, .int 99]) (rest := []) (k_X7_within l G S x3 1 99 _ hv) vy_X7_within tb_2_14 tb_2_15 ⟨Nat.le_of_ble_eq_true rfl, Nat.le_of_ble_eq_true rfl⟩ rfl hl.1 rfl (Nat.le_of_ble_eq_true rfl) dX7_ship_26) (fun H locs hP hS => ?_)
      refine lv_if_ne (tgt := 34) hx hb dX7_ship_29 (by decide) (fun hc => ?_) (fun hc => ?_)
      · rw [if_neg hc] at hf
        refine lv_aload_n hx hb dX7_ship_34 rfl (lv_at hl 0 rfl) ?_
        refine gFr hC hP (j := 0) sg_0 vc_7 iT7 (by decide) rfl tb_1_212 dX7_ship_35 ?_
        refine lv_iload_n hx hb dX7_ship_38 rfl (lv_at hl 1 rfl) ?_
        refine lv_iload_n hx hb dX7_ship_39 rfl (lv_at hl 2 rfl) ?_
        refine lv_iload_n hx hb dX7_ship_40 rfl (lv_at hl 3 rfl) ?_
        obtain ⟨v4, S5, hv, hf⟩ := ob_two hf
        refine cI hS (runV hC hP hS (As := [.int x1, .int x2, .int x3]) (rest := []) (k_X1_addShip l G S x1 x2 x3 _ _ hv) vy_X1_addShip sg_1 vc_1 tb_2_57 tb_2_58 tb_2_59 ⟨Nat.le_of_ble_eq_true rfl, Nat.le_of_ble_eq_true rfl⟩ rfl hl.1 rfl (Nat.le_of_ble_eq_true rfl) dX7_ship_41) (fun H locs hP hS => ?_)
        exact retIw hQ hf hP hS dX7_ship_44
      · rw [if_pos hc] at hf
        refine lv_iconst (v := (-1)) hx hb dX7_ship_32 (by decide) ?_
        exact retIw hQ hf hP hS dX7_ship_33
def f_X7_isPace (x0 : Int32) : Option Int32 := (f_X7_within x0 1 15).bind fun v1 => (bz v1).bind fun v2 => some v2
set_option maxRecDepth 100000 in
set_option maxHeartbeats 4000000 in
theorem k_X7_isPace (l : Launch) (G : GT) (S : ST) (x0 : Int32) (r : Int32) (hf : f_X7_isPace x0 = some r) : MI l yX7_isPace cX7_isPace 1 (some .boolean) 2 [.int x0] G S r S := by
  rw [f_X7_isPace] at hf
  refine mkZ (own := RX7) (by decide +kernel) rfl (Nat.le_of_ble_eq_true rfl) (fun p e s m args below meth c Q ls hC hP hS hl hQ => ?_)
  have hl : lv_has ls 1 [(0, .int x0)] := hl
  obtain ⟨hx, hb, hml, hown, hts⟩ := id hC.1
  refine lv_iload_n hx hb dX7_isPace_0 rfl (lv_at hl 0 rfl) ?_
  refine lv_iconst (v := 1) hx hb dX7_isPace_1 (by decide) ?_
  refine lv_bipush (v := 15) hx hb dX7_isPace_2 (by decide) ?_
  obtain ⟨v1, hv, hf⟩ := ob_some hf
  refine cI hS (runS hC hP hS (As := [.int x0, .int 1, .int 15]) (rest := []) (k_X7_within l G S x0 1 15 _ hv) vy_X7_within tb_2_14 tb_2_15 ⟨Nat.le_of_ble_eq_true rfl, Nat.le_of_ble_eq_true rfl⟩ rfl hl.1 rfl (Nat.le_of_ble_eq_true rfl) dX7_isPace_4) (fun H locs hP hS => ?_)
  obtain ⟨v2, hv, hf⟩ := ob_some hf
  refine bzW hv ?_
  exact retZ hQ (bz_n hv) hf hP hS dX7_isPace_7
def f_X7_pace (S : ST) (x1 : Int32) (x2 : Int32) : Option (Int32 × ST) := (f_X1_hasMile S x1).bind fun v1 => if v1 = 0 then (some ((-1), S)) else ((f_X7_isPace x2).bind fun v2 => if v2 = 0 then (some ((-1), S)) else (b2 (f_X1_mark S x1 5 x2) fun v3 S4 => some (v3, S4)))
set_option maxRecDepth 100000 in
set_option maxHeartbeats 4000000 in
theorem k_X7_pace (l : Launch) (G : GT) (S : ST) (x1 : Int32) (x2 : Int32) (r : Int32) (S' : ST) (hf : f_X7_pace S x1 x2 = some (r, S')) : MI l yX7_pace cX7_pace 3 (some .int) 3 [.ref (ad G 0), .int x1, .int x2] G S r S' := by
  rw [f_X7_pace] at hf
  refine mkI (own := RX7) (by decide +kernel) rfl rfl (Nat.le_of_ble_eq_true rfl) (fun p e s m args below meth c Q ls hC hP hS hl hQ => ?_)
  have hl : lv_has ls 3 [(0, .ref (ad G 0)), (1, .int x1), (2, .int x2)] := hl
  obtain ⟨hx, hb, hml, hown, hts⟩ := id hC.1
  refine lv_aload_n hx hb dX7_pace_0 rfl (lv_at hl 0 rfl) ?_
  refine gFr hC hP (j := 0) sg_0 vc_7 iT7 (by decide) rfl tb_1_212 dX7_pace_1 ?_
  refine lv_iload_n hx hb dX7_pace_4 rfl (lv_at hl 1 rfl) ?_
  obtain ⟨v1, hv, hf⟩ := ob_some hf
  refine cI hS (runV hC hP hS (As := [.int x1]) (rest := []) (k_X1_hasMile l G S x1 _ hv) vy_X1_hasMile sg_1 vc_1 tb_2_33 tb_2_34 tb_2_35 ⟨Nat.le_of_ble_eq_true rfl, Nat.le_of_ble_eq_true rfl⟩ rfl hl.1 rfl (Nat.le_of_ble_eq_true rfl) dX7_pace_5) (fun H locs hP hS => ?_)
  refine lv_if_eq (tgt := 18) hx hb dX7_pace_8 (by decide) (fun hc => ?_) (fun hc => ?_)
  · rw [if_pos hc] at hf
    refine lv_iconst (v := (-1)) hx hb dX7_pace_18 (by decide) ?_
    exact retIw hQ hf hP hS dX7_pace_19
  · rw [if_neg hc] at hf
    refine lv_iload_n hx hb dX7_pace_11 rfl (lv_at hl 2 rfl) ?_
    obtain ⟨v2, hv, hf⟩ := ob_some hf
    refine cI hS (runS hC hP hS (As := [.int x2]) (rest := []) (k_X7_isPace l G S x2 _ hv) vy_X7_isPace tb_2_65 tb_2_66 ⟨Nat.le_of_ble_eq_true rfl, Nat.le_of_ble_eq_true rfl⟩ rfl hl.1 rfl (Nat.le_of_ble_eq_true rfl) dX7_pace_12) (fun H locs hP hS => ?_)
    refine lv_if_ne (tgt := 20) hx hb dX7_pace_15 (by decide) (fun hc => ?_) (fun hc => ?_)
    · rw [if_neg hc] at hf
      refine lv_aload_n hx hb dX7_pace_20 rfl (lv_at hl 0 rfl) ?_
      refine gFr hC hP (j := 0) sg_0 vc_7 iT7 (by decide) rfl tb_1_212 dX7_pace_21 ?_
      refine lv_iload_n hx hb dX7_pace_24 rfl (lv_at hl 1 rfl) ?_
      refine lv_iconst (v := 5) hx hb dX7_pace_25 (by decide) ?_
      refine lv_iload_n hx hb dX7_pace_26 rfl (lv_at hl 2 rfl) ?_
      obtain ⟨v3, S4, hv, hf⟩ := ob_two hf
      refine cI hS (runV hC hP hS (As := [.int x1, .int 5, .int x2]) (rest := []) (k_X1_mark l G S x1 5 x2 _ _ hv) vy_X1_mark sg_1 vc_1 tb_2_37 tb_2_22 tb_2_23 ⟨Nat.le_of_ble_eq_true rfl, Nat.le_of_ble_eq_true rfl⟩ rfl hl.1 rfl (Nat.le_of_ble_eq_true rfl) dX7_pace_27) (fun H locs hP hS => ?_)
      exact retIw hQ hf hP hS dX7_pace_30
    · rw [if_pos hc] at hf
      refine lv_iconst (v := (-1)) hx hb dX7_pace_18 (by decide) ?_
      exact retIw hQ hf hP hS dX7_pace_19
end
