section
variable {p : Program} {l : Launch} {e : Env} {s : State} {m : MethodId} {args : Array Value} {below : List Frame} {meth : Method} {c : Code} {Q : State → Prop} {G : GT}

def f_X8_underBy (S : ST) (x1 : Int32) (x2 : Int32) (x3 : Int32) (x4 : Int32) : Option Int32 := (rI S 0 34 (3 * x1)).bind fun v1 => (rI S 0 31 ((6 * x2) + 2)).bind fun v2 => (dv (v1 * (9 - v2)) 400).bind fun v3 => (f_X8_sinksBy S x1 x2 x3 x4).bind fun v4 => (rI S 0 34 ((3 * x1) + 1)).bind fun v5 => (rI S 0 33 1).bind fun v6 => (dv (v5 * v6) 20).bind fun v7 => some ((((x3 - v1) - v3) - v4) - v7)
set_option maxRecDepth 100000 in
set_option maxHeartbeats 4000000 in
theorem k_X8_underBy (l : Launch) (G : GT) (S : ST) (x1 : Int32) (x2 : Int32) (x3 : Int32) (x4 : Int32) (r : Int32) (hf : f_X8_underBy S x1 x2 x3 x4 = some r) : MI l yX8_underBy cX8_underBy 6 (some .int) 2 [.ref (ad G 30), .int x1, .int x2, .int x3, .int x4] G S r S := by
  rw [f_X8_underBy] at hf
  refine mkI (own := RX8) (by decide +kernel) rfl rfl (Nat.le_of_ble_eq_true rfl) (fun p e s m args below meth c Q ls hC hP hS hl hQ => ?_)
  have hl : lv_has ls 6 [(0, .ref (ad G 30)), (1, .int x1), (2, .int x2), (3, .int x3), (4, .int x4)] := hl
  obtain ⟨hx, hb, hml, hown, hts⟩ := id hC.1
  refine lv_aload_n hx hb dX8_underBy_0 rfl (lv_at hl 0 rfl) ?_
  refine gFr hC hP (j := 5) sg_30 vc_8 iT8 (by decide) rfl tb_4_76 dX8_underBy_1 ?_
  refine lv_iconst (v := 3) hx hb dX8_underBy_4 (by decide) ?_
  refine lv_iload_n hx hb dX8_underBy_5 rfl (lv_at hl 1 rfl) ?_
  refine lv_imul hx hb dX8_underBy_6 ?_
  obtain ⟨v1, hv, hf⟩ := ob_some hf
  refine gIa hC hP hv dX8_underBy_7 ?_
  refine lv_istore (lv' := [(5, .int v1), (0, .ref (ad G 30)), (1, .int x1), (2, .int x2), (3, .int x3), (4, .int x4)]) hx hb dX8_underBy_8 hl (by decide) rfl (fun ls hl => ?_)
  refine lv_iload_n hx hb dX8_underBy_10 rfl (lv_at hl 4 rfl) ?_
  refine lv_iload hx hb dX8_underBy_11 (lv_at hl 0 rfl) ?_
  refine lv_isub hx hb dX8_underBy_13 ?_
  refine lv_iload hx hb dX8_underBy_14 (lv_at hl 0 rfl) ?_
  refine lv_bipush (v := 9) hx hb dX8_underBy_16 (by decide) ?_
  refine lv_aload_n hx hb dX8_underBy_18 rfl (lv_at hl 1 rfl) ?_
  refine gFr hC hP (j := 1) sg_30 vc_8 iT8 (by decide) rfl tb_4_72 dX8_underBy_19 ?_
  refine lv_bipush (v := 6) hx hb dX8_underBy_22 (by decide) ?_
  refine lv_iload_n hx hb dX8_underBy_24 rfl (lv_at hl 3 rfl) ?_
  refine lv_imul hx hb dX8_underBy_25 ?_
  refine lv_iconst (v := 2) hx hb dX8_underBy_26 (by decide) ?_
  refine lv_iadd hx hb dX8_underBy_27 ?_
  obtain ⟨v2, hv, hf⟩ := ob_some hf
  refine gIa hC hP hv dX8_underBy_28 ?_
  refine lv_isub hx hb dX8_underBy_29 ?_
  refine lv_imul hx hb dX8_underBy_30 ?_
  refine lv_sipush (v := 400) hx hb dX8_underBy_31 (by decide) ?_
  obtain ⟨v3, hv, hf⟩ := ob_some hf
  refine xDv hC hv dX8_underBy_34 ?_
  refine lv_isub hx hb dX8_underBy_35 ?_
  refine lv_aload_n hx hb dX8_underBy_36 rfl (lv_at hl 1 rfl) ?_
  refine lv_iload_n hx hb dX8_underBy_37 rfl (lv_at hl 2 rfl) ?_
  refine lv_iload_n hx hb dX8_underBy_38 rfl (lv_at hl 3 rfl) ?_
  refine lv_iload_n hx hb dX8_underBy_39 rfl (lv_at hl 4 rfl) ?_
  refine lv_iload hx hb dX8_underBy_40 (lv_at hl 5 rfl) ?_
  obtain ⟨v4, hv, hf⟩ := ob_some hf
  refine cI hS (runV hC hP hS (As := [.int x1, .int x2, .int x3, .int x4]) (rest := [.int ((x3 - v1) - v3)]) (k_X8_sinksBy l G S x1 x2 x3 x4 _ hv) vy_X8_sinksBy sg_30 vc_8 tb_5_50 tb_5_52 ts_38 ⟨Nat.le_of_ble_eq_true rfl, Nat.le_of_ble_eq_true rfl⟩ rfl hl.1 rfl (Nat.le_of_ble_eq_true rfl) dX8_underBy_42) (fun H locs hP hS => ?_)
  refine lv_isub hx hb dX8_underBy_45 ?_
  refine lv_aload_n hx hb dX8_underBy_46 rfl (lv_at hl 1 rfl) ?_
  refine gFr hC hP (j := 5) sg_30 vc_8 iT8 (by decide) rfl tb_4_76 dX8_underBy_47 ?_
  refine lv_iconst (v := 3) hx hb dX8_underBy_50 (by decide) ?_
  refine lv_iload_n hx hb dX8_underBy_51 rfl (lv_at hl 2 rfl) ?_
  refine lv_imul hx hb dX8_underBy_52 ?_
  refine lv_iconst (v := 1) hx hb dX8_underBy_53 (by decide) ?_
  refine lv_iadd hx hb dX8_underBy_54 ?_
  obtain ⟨v5, hv, hf⟩ := ob_some hf
  refine gIa hC hP hv dX8_underBy_55 ?_
  refine lv_aload_n hx hb dX8_underBy_56 rfl (lv_at hl 1 rfl) ?_
  refine gFr hC hP (j := 3) sg_30 vc_8 iT8 (by decide) rfl tb_4_74 dX8_underBy_57 ?_
  refine lv_iconst (v := 1) hx hb dX8_underBy_60 (by decide) ?_
  obtain ⟨v6, hv, hf⟩ := ob_some hf
  refine gIa hC hP hv dX8_underBy_61 ?_
  refine lv_imul hx hb dX8_underBy_62 ?_
  refine lv_bipush (v := 20) hx hb dX8_underBy_63 (by decide) ?_
  obtain ⟨v7, hv, hf⟩ := ob_some hf
  refine xDv hC hv dX8_underBy_65 ?_
  refine lv_isub hx hb dX8_underBy_66 ?_
  exact retI hQ hf hP hS dX8_underBy_67
def f_X8_under (S : ST) (x1 : Int32) (x2 : Int32) (x3 : Int32) (x4 : Int32) : Option Int32 := (f_X8_isShip S x1).bind fun v1 => if v1 = 0 then (some (-100001)) else ((f_X8_isMile S x2).bind fun v2 => if v2 = 0 then (some (-100001)) else ((f_X8_isMinute x3).bind fun v3 => if v3 = 0 then (some (-100001)) else ((f_X8_isPace x4).bind fun v4 => if v4 = 0 then (some (-100001)) else ((f_X8_waterAt S x2 x3).bind fun v5 => (f_X8_underBy S x1 x2 v5 x4).bind fun v6 => some v6))))
set_option maxRecDepth 100000 in
set_option maxHeartbeats 4000000 in
theorem k_X8_under (l : Launch) (G : GT) (S : ST) (x1 : Int32) (x2 : Int32) (x3 : Int32) (x4 : Int32) (r : Int32) (hf : f_X8_under S x1 x2 x3 x4 = some r) : MI l yX8_under cX8_under 5 (some .int) 3 [.ref (ad G 30), .int x1, .int x2, .int x3, .int x4] G S r S := by
  rw [f_X8_under] at hf
  refine mkI (own := RX8) (by decide +kernel) rfl rfl (Nat.le_of_ble_eq_true rfl) (fun p e s m args below meth c Q ls hC hP hS hl hQ => ?_)
  have hl : lv_has ls 5 [(0, .ref (ad G 30)), (1, .int x1), (2, .int x2), (3, .int x3), (4, .int x4)] := hl
  obtain ⟨hx, hb, hml, hown, hts⟩ := id hC.1
  refine lv_aload_n hx hb dX8_under_0 rfl (lv_at hl 0 rfl) ?_
  refine lv_iload_n hx hb dX8_under_1 rfl (lv_at hl 1 rfl) ?_
  obtain ⟨v1, hv, hf⟩ := ob_some hf
  refine cI hS (runV hC hP hS (As := [.int x1]) (rest := []) (k_X8_isShip l G S x1 _ hv) vy_X8_isShip sg_30 vc_8 tb_5_46 tb_5_48 ts_37 ⟨Nat.le_of_ble_eq_true rfl, Nat.le_of_ble_eq_true rfl⟩ rfl hl.1 rfl (Nat.le_of_ble_eq_true rfl) dX8_under_2) (fun H locs hP hS => ?_)
  refine lv_if_eq (tgt := 31) hx hb dX8_under_5 (by decide) (fun hc => ?_) (fun hc => ?_)
  · rw [if_pos hc] at hf
    refine lv_ldc hx hb hown (hts _ tb_5_41) dX8_under_31 ?_
    exact retI hQ hf hP hS dX8_under_33
  · rw [if_neg hc] at hf
    refine lv_aload_n hx hb dX8_under_8 rfl (lv_at hl 0 rfl) ?_
    refine lv_iload_n hx hb dX8_under_9 rfl (lv_at hl 2 rfl) ?_
    obtain ⟨v2, hv, hf⟩ := ob_some hf
    refine cI hS (runV hC hP hS (As := [.int x2]) (rest := []) (k_X8_isMile l G S x2 _ hv) vy_X8_isMile sg_30 vc_8 tb_4_184 tb_4_186 ts_29 ⟨Nat.le_of_ble_eq_true rfl, Nat.le_of_ble_eq_true rfl⟩ rfl hl.1 rfl (Nat.le_of_ble_eq_true rfl) dX8_under_10) (fun H locs hP hS => ?_)
    refine lv_if_eq (tgt := 31) hx hb dX8_under_13 (by decide) (fun hc => ?_) (fun hc => ?_)
    · rw [if_pos hc] at hf
      refine lv_ldc hx hb hown (hts _ tb_5_41) dX8_under_31 ?_
      exact retI hQ hf hP hS dX8_under_33
    · rw [if_neg hc] at hf
      refine lv_iload_n hx hb dX8_under_16 rfl (lv_at hl 3 rfl) ?_
      obtain ⟨v3, hv, hf⟩ := ob_some hf
      refine cI hS (runS hC hP hS (As := [.int x3]) (rest := []) (k_X8_isMinute l G S x3 _ hv) vy_X8_isMinute tb_5_25 tb_5_26 ⟨Nat.le_of_ble_eq_true rfl, Nat.le_of_ble_eq_true rfl⟩ rfl hl.1 rfl (Nat.le_of_ble_eq_true rfl) dX8_under_17) (fun H locs hP hS => ?_)
      refine lv_if_eq (tgt := 31) hx hb dX8_under_20 (by decide) (fun hc => ?_) (fun hc => ?_)
      · rw [if_pos hc] at hf
        refine lv_ldc hx hb hown (hts _ tb_5_41) dX8_under_31 ?_
        exact retI hQ hf hP hS dX8_under_33
      · rw [if_neg hc] at hf
        refine lv_iload hx hb dX8_under_23 (lv_at hl 4 rfl) ?_
        obtain ⟨v4, hv, hf⟩ := ob_some hf
        refine cI hS (runS hC hP hS (As := [.int x4]) (rest := []) (k_X8_isPace l G S x4 _ hv) vy_X8_isPace tb_4_215 tb_4_216 ⟨Nat.le_of_ble_eq_true rfl, Nat.le_of_ble_eq_true rfl⟩ rfl hl.1 rfl (Nat.le_of_ble_eq_true rfl) dX8_under_25) (fun H locs hP hS => ?_)
        refine lv_if_ne (tgt := 34) hx hb dX8_under_28 (by decide) (fun hc => ?_) (fun hc => ?_)
        · rw [if_neg hc] at hf
          refine lv_aload_n hx hb dX8_under_34 rfl (lv_at hl 0 rfl) ?_
          refine lv_iload_n hx hb dX8_under_35 rfl (lv_at hl 1 rfl) ?_
          refine lv_iload_n hx hb dX8_under_36 rfl (lv_at hl 2 rfl) ?_
          refine lv_aload_n hx hb dX8_under_37 rfl (lv_at hl 0 rfl) ?_
          refine lv_iload_n hx hb dX8_under_38 rfl (lv_at hl 2 rfl) ?_
          refine lv_iload_n hx hb dX8_under_39 rfl (lv_at hl 3 rfl) ?_
          obtain ⟨v5, hv, hf⟩ := ob_some hf
          refine cI hS (runV hC hP hS (As := [.int x2, .int x3]) (rest := [.int x2, .int x1, .ref (ad G 30)]) (k_X8_waterAt l G S x2 x3 _ hv) vy_X8_waterAt sg_30 vc_8 tb_5_37 tb_5_39 ts_36 ⟨Nat.le_of_ble_eq_true rfl, Nat.le_of_ble_eq_true rfl⟩ rfl hl.1 rfl (Nat.le_of_ble_eq_true rfl) dX8_under_40) (fun H locs hP hS => ?_)
          refine lv_iload hx hb dX8_under_43 (lv_at hl 4 rfl) ?_
          obtain ⟨v6, hv, hf⟩ := ob_some hf
          refine cI hS (runV hC hP hS (As := [.int x1, .int x2, .int v5, .int x4]) (rest := []) (k_X8_underBy l G S x1 x2 v5 x4 _ hv) vy_X8_underBy sg_30 vc_8 tb_5_58 tb_5_60 ts_39 ⟨Nat.le_of_ble_eq_true rfl, Nat.le_of_ble_eq_true rfl⟩ rfl hl.1 rfl (Nat.le_of_ble_eq_true rfl) dX8_under_45) (fun H locs hP hS => ?_)
          exact retI hQ hf hP hS dX8_under_48
        · rw [if_pos hc] at hf
          refine lv_ldc hx hb hown (hts _ tb_5_41) dX8_under_31 ?_
          exact retI hQ hf hP hS dX8_under_33
def f_X8_needOf (S : ST) (x1 : Int32) : Option Int32 := (rI S 0 33 3).bind fun v1 => if v1 = 0 then ((rI S 0 33 4).bind fun v5 => some v5) else ((rI S 0 34 (3 * x1)).bind fun v2 => (rI S 0 33 4).bind fun v3 => (dv (v2 * v3) 100).bind fun v4 => some v4)
set_option maxRecDepth 100000 in
set_option maxHeartbeats 4000000 in
theorem k_X8_needOf (l : Launch) (G : GT) (S : ST) (x1 : Int32) (r : Int32) (hf : f_X8_needOf S x1 = some r) : MI l yX8_needOf cX8_needOf 2 (some .int) 1 [.ref (ad G 30), .int x1] G S r S := by
  rw [f_X8_needOf] at hf
  refine mkI (own := RX8) (by decide +kernel) rfl rfl (Nat.le_of_ble_eq_true rfl) (fun p e s m args below meth c Q ls hC hP hS hl hQ => ?_)
  have hl : lv_has ls 2 [(0, .ref (ad G 30)), (1, .int x1)] := hl
  obtain ⟨hx, hb, hml, hown, hts⟩ := id hC.1
  refine lv_aload_n hx hb dX8_needOf_0 rfl (lv_at hl 0 rfl) ?_
  refine gFr hC hP (j := 3) sg_30 vc_8 iT8 (by decide) rfl tb_4_74 dX8_needOf_1 ?_
  refine lv_iconst (v := 3) hx hb dX8_needOf_4 (by decide) ?_
  obtain ⟨v1, hv, hf⟩ := ob_some hf
  refine gIa hC hP hv dX8_needOf_5 ?_
  refine lv_if_ne (tgt := 18) hx hb dX8_needOf_6 (by decide) (fun hc => ?_) (fun hc => ?_)
  · rw [if_neg hc] at hf
    refine lv_aload_n hx hb dX8_needOf_18 rfl (lv_at hl 0 rfl) ?_
    refine gFr hC hP (j := 5) sg_30 vc_8 iT8 (by decide) rfl tb_4_76 dX8_needOf_19 ?_
    refine lv_iconst (v := 3) hx hb dX8_needOf_22 (by decide) ?_
    refine lv_iload_n hx hb dX8_needOf_23 rfl (lv_at hl 1 rfl) ?_
    refine lv_imul hx hb dX8_needOf_24 ?_
    obtain ⟨v2, hv, hf⟩ := ob_some hf
    refine gIa hC hP hv dX8_needOf_25 ?_
    refine lv_aload_n hx hb dX8_needOf_26 rfl (lv_at hl 0 rfl) ?_
    refine gFr hC hP (j := 3) sg_30 vc_8 iT8 (by decide) rfl tb_4_74 dX8_needOf_27 ?_
    refine lv_iconst (v := 4) hx hb dX8_needOf_30 (by decide) ?_
    obtain ⟨v3, hv, hf⟩ := ob_some hf
    refine gIa hC hP hv dX8_needOf_31 ?_
    refine lv_imul hx hb dX8_needOf_32 ?_
    refine lv_bipush (v := 100) hx hb dX8_needOf_33 (by decide) ?_
    obtain ⟨v4, hv, hf⟩ := ob_some hf
    refine xDv hC hv dX8_needOf_35 ?_
    exact retI hQ hf hP hS dX8_needOf_36
  · rw [if_pos hc] at hf
    refine lv_aload_n hx hb dX8_needOf_9 rfl (lv_at hl 0 rfl) ?_
    refine gFr hC hP (j := 3) sg_30 vc_8 iT8 (by decide) rfl tb_4_74 dX8_needOf_10 ?_
    refine lv_iconst (v := 4) hx hb dX8_needOf_13 (by decide) ?_
    obtain ⟨v5, hv, hf⟩ := ob_some hf
    refine gIa hC hP hv dX8_needOf_14 ?_
    refine lv_goto (tgt := 36) hx hb dX8_needOf_15 (by decide) ?_
    exact retI hQ hf hP hS dX8_needOf_36
def f_X8_need (S : ST) (x1 : Int32) : Option Int32 := (f_X8_isShip S x1).bind fun v1 => if v1 = 0 then (some (-1)) else ((f_X8_needOf S x1).bind fun v2 => some v2)
set_option maxRecDepth 100000 in
set_option maxHeartbeats 4000000 in
theorem k_X8_need (l : Launch) (G : GT) (S : ST) (x1 : Int32) (r : Int32) (hf : f_X8_need S x1 = some r) : MI l yX8_need cX8_need 2 (some .int) 3 [.ref (ad G 30), .int x1] G S r S := by
  rw [f_X8_need] at hf
  refine mkI (own := RX8) (by decide +kernel) rfl rfl (Nat.le_of_ble_eq_true rfl) (fun p e s m args below meth c Q ls hC hP hS hl hQ => ?_)
  have hl : lv_has ls 2 [(0, .ref (ad G 30)), (1, .int x1)] := hl
  obtain ⟨hx, hb, hml, hown, hts⟩ := id hC.1
  refine lv_aload_n hx hb dX8_need_0 rfl (lv_at hl 0 rfl) ?_
  refine lv_iload_n hx hb dX8_need_1 rfl (lv_at hl 1 rfl) ?_
  obtain ⟨v1, hv, hf⟩ := ob_some hf
  refine cI hS (runV hC hP hS (As := [.int x1]) (rest := []) (k_X8_isShip l G S x1 _ hv) vy_X8_isShip sg_30 vc_8 tb_5_46 tb_5_48 ts_37 ⟨Nat.le_of_ble_eq_true rfl, Nat.le_of_ble_eq_true rfl⟩ rfl hl.1 rfl (Nat.le_of_ble_eq_true rfl) dX8_need_2) (fun H locs hP hS => ?_)
  refine lv_if_eq (tgt := 16) hx hb dX8_need_5 (by decide) (fun hc => ?_) (fun hc => ?_)
  · rw [if_pos hc] at hf
    refine lv_iconst (v := (-1)) hx hb dX8_need_16 (by decide) ?_
    exact retI hQ hf hP hS dX8_need_17
  · rw [if_neg hc] at hf
    refine lv_aload_n hx hb dX8_need_8 rfl (lv_at hl 0 rfl) ?_
    refine lv_iload_n hx hb dX8_need_9 rfl (lv_at hl 1 rfl) ?_
    obtain ⟨v2, hv, hf⟩ := ob_some hf
    refine cI hS (runV hC hP hS (As := [.int x1]) (rest := []) (k_X8_needOf l G S x1 _ hv) vy_X8_needOf sg_30 vc_8 tb_5_66 tb_5_68 ts_40 ⟨Nat.le_of_ble_eq_true rfl, Nat.le_of_ble_eq_true rfl⟩ rfl hl.1 rfl (Nat.le_of_ble_eq_true rfl) dX8_need_10) (fun H locs hP hS => ?_)
    refine lv_goto (tgt := 17) hx hb dX8_need_13 (by decide) ?_
    exact retI hQ hf hP hS dX8_need_17
def f_X8_isStart (x0 : Int32) : Option Int32 := (f_X8_in (x0.toInt64) 0 1439).bind fun v1 => (bz v1).bind fun v2 => some v2
set_option maxRecDepth 100000 in
set_option maxHeartbeats 4000000 in
theorem k_X8_isStart (l : Launch) (G : GT) (S : ST) (x0 : Int32) (r : Int32) (hf : f_X8_isStart x0 = some r) : MI l yX8_isStart cX8_isStart 1 (some .boolean) 2 [.int x0] G S r S := by
  rw [f_X8_isStart] at hf
  refine mkZ (own := RX8) (by decide +kernel) rfl (Nat.le_of_ble_eq_true rfl) (fun p e s m args below meth c Q ls hC hP hS hl hQ => ?_)
  have hl : lv_has ls 1 [(0, .int x0)] := hl
  obtain ⟨hx, hb, hml, hown, hts⟩ := id hC.1
  refine lv_iload_n hx hb dX8_isStart_0 rfl (lv_at hl 0 rfl) ?_
  refine lv_i2l (v := x0.toInt64) hx hb dX8_isStart_1 rfl ?_
  refine lv_lconst (v := 0) hx hb dX8_isStart_2 (by decide) ?_
  refine lv_ldc2 hx hb hown (hts _ tb_5_77) dX8_isStart_3 ?_
  obtain ⟨v1, hv, hf⟩ := ob_some hf
  refine cI hS (runS hC hP hS (As := [.long (x0.toInt64), .long 0, .long 1439]) (rest := []) (k_X8_in l G S (x0.toInt64) 0 1439 _ hv) vy_X8_in tb_4_169 tb_4_170 ⟨Nat.le_of_ble_eq_true rfl, Nat.le_of_ble_eq_true rfl⟩ rfl hl.1 rfl (Nat.le_of_ble_eq_true rfl) dX8_isStart_6) (fun H locs hP hS => ?_)
  obtain ⟨v2, hv, hf⟩ := ob_some hf
  refine bzW hv ?_
  exact retZ hQ (bz_n hv) hf hP hS dX8_isStart_9
def f_X8_goes_162  (S : ST) (x2 : Int32) (x3 : Int32) : Option ST := some (sI S 30 12 (x3 - x2))
set_option maxRecDepth 100000 in
set_option maxHeartbeats 4000000 in
theorem w_X8_goes_162 {S' : ST} (hC : Cx p m c s args cX8_goes 7 RX8 G) (hQ : KV p l e (rmH 3) s m args below meth c Q cX8_goes G S') (S : ST) (x2 : Int32) (x3 : Int32) (H : Heap) (locs : List Loc) (ls : Array Slot) (hP : va_P (gD G) vwCl (cells G S) H) (hS : va_S (gA G) s.heap H locs) (hl : lv_has ls 7 [(0, .ref (ad G 30)), (2, .int x2), (3, .int x3)]) (hf : f_X8_goes_162 S x2 x3 = some S') : W p l e (rmH 3) s m args below meth c H locs 0 0 Q (F0 m 162 ls []) := by
  obtain ⟨hx, hb, hml, hown, hts⟩ := id hC.1
  rw [f_X8_goes_162] at hf
  refine lv_aload_n hx hb dX8_goes_162 rfl (lv_at hl 0 rfl) ?_
  refine lv_iload_n hx hb dX8_goes_163 rfl (lv_at hl 2 rfl) ?_
  refine lv_iload_n hx hb dX8_goes_164 rfl (lv_at hl 1 rfl) ?_
  refine lv_isub hx hb dX8_goes_165 ?_
  refine pFi hC hP hS (j := 12) sg_30 vc_8 iT8 tyX8_ok nmX8 (by decide) rfl tb_4_83 rfl rfl rfl dX8_goes_166 (fun H locs hP hS => ?_)
  exact retV hQ hf hP hS dX8_goes_169
def f_X8_goes_154  (k27 : ST → Int32 → Int32 → Int32 → Int32 → Option ST) (S : ST) (x1 : Int32) (x2 : Int32) (x4 : Int32) (y0 : Int32) (y1 : Int32) : Option ST := k27 S x1 x2 (y1 + y0) (x4 + 1)
set_option maxRecDepth 100000 in
set_option maxHeartbeats 4000000 in
theorem w_X8_goes_154 {S' : ST} (hC : Cx p m c s args cX8_goes 7 RX8 G) (hQ : KV p l e (rmH 3) s m args below meth c Q cX8_goes G S') {k27 : ST → Int32 → Int32 → Int32 → Int32 → Option ST} (hk27 : ∀ (S : ST) (x1 : Int32) (x2 : Int32) (x3 : Int32) (x4 : Int32) (H : Heap) (locs : List Loc) (ls : Array Slot), va_P (gD G) vwCl (cells G S) H → va_S (gA G) s.heap H locs → lv_has ls 7 [(0, .ref (ad G 30)), (1, .int x1), (2, .int x2), (3, .int x3), (4, .int x4)] → k27 S x1 x2 x3 x4 = some S' → W p l e (rmH 3) s m args below meth c H locs 0 0 Q (F0 m 27 ls [])) (S : ST) (x1 : Int32) (x2 : Int32) (x4 : Int32) (y0 : Int32) (y1 : Int32) (H : Heap) (locs : List Loc) (ls : Array Slot) (hP : va_P (gD G) vwCl (cells G S) H) (hS : va_S (gA G) s.heap H locs) (hl : lv_has ls 7 [(0, .ref (ad G 30)), (1, .int x1), (2, .int x2), (4, .int x4)]) (hf : f_X8_goes_154 k27 S x1 x2 x4 y0 y1 = some S') : W p l e (rmH 3) s m args below meth c H locs 0 0 Q (F0 m 154 ls [.int y0, .int y1]) := by
  obtain ⟨hx, hb, hml, hown, hts⟩ := id hC.1
  rw [f_X8_goes_154] at hf
  refine lv_iadd hx hb dX8_goes_154 ?_
  refine lv_istore_n (lv' := [(3, .int (y1 + y0)), (0, .ref (ad G 30)), (1, .int x1), (2, .int x2), (4, .int x4)]) hx hb dX8_goes_155 rfl hl (by decide) rfl (fun ls hl => ?_)
  refine lv_iinc (v := x4 + 1) (lv' := [(4, .int (x4 + 1)), (3, .int (y1 + y0)), (0, .ref (ad G 30)), (1, .int x1), (2, .int x2)]) hx hb dX8_goes_156 hl (k := 4) rfl rfl (by decide) rfl (fun ls hl => ?_)
  refine lv_goto (tgt := 27) hx hb dX8_goes_159 (by decide) ?_
  exact hk27 _ _ _ _ _ _ _ _ hP hS (lv_sub hl [2, 3, 4, 1, 0] rfl) hf
def f_X8_goes_136  (k27 : ST → Int32 → Int32 → Int32 → Int32 → Option ST) (S : ST) (x1 : Int32) (x2 : Int32) (x3 : Int32) (x4 : Int32) (x5 : Int32) (x6 : Int32) (y0 : Int32) : Option ST := if 0 ≤ x6 then ((dv 60 x5).bind fun v1 => f_X8_goes_154 k27 (sI S 30 11 y0) x1 x2 x4 v1 x3) else (f_X8_goes_154 k27 (sI S 30 11 y0) x1 x2 x4 0 x3)
set_option maxRecDepth 100000 in
set_option maxHeartbeats 4000000 in
theorem w_X8_goes_136 {S' : ST} (hC : Cx p m c s args cX8_goes 7 RX8 G) (hQ : KV p l e (rmH 3) s m args below meth c Q cX8_goes G S') {k27 : ST → Int32 → Int32 → Int32 → Int32 → Option ST} (hk27 : ∀ (S : ST) (x1 : Int32) (x2 : Int32) (x3 : Int32) (x4 : Int32) (H : Heap) (locs : List Loc) (ls : Array Slot), va_P (gD G) vwCl (cells G S) H → va_S (gA G) s.heap H locs → lv_has ls 7 [(0, .ref (ad G 30)), (1, .int x1), (2, .int x2), (3, .int x3), (4, .int x4)] → k27 S x1 x2 x3 x4 = some S' → W p l e (rmH 3) s m args below meth c H locs 0 0 Q (F0 m 27 ls [])) (S : ST) (x1 : Int32) (x2 : Int32) (x3 : Int32) (x4 : Int32) (x5 : Int32) (x6 : Int32) (y0 : Int32) (H : Heap) (locs : List Loc) (ls : Array Slot) (hP : va_P (gD G) vwCl (cells G S) H) (hS : va_S (gA G) s.heap H locs) (hl : lv_has ls 7 [(0, .ref (ad G 30)), (1, .int x1), (2, .int x2), (3, .int x3), (4, .int x4), (5, .int x5), (6, .int x6)]) (hf : f_X8_goes_136 k27 S x1 x2 x3 x4 x5 x6 y0 = some S') : W p l e (rmH 3) s m args below meth c H locs 0 0 Q (F0 m 136 ls [.int y0, .ref (ad G 30)]) := by
  obtain ⟨hx, hb, hml, hown, hts⟩ := id hC.1
  rw [f_X8_goes_136] at hf
  refine pFi hC hP hS (j := 11) sg_30 vc_8 iT8 tyX8_ok nmX8 (by decide) rfl tb_4_82 rfl rfl rfl dX8_goes_136 (fun H locs hP hS => ?_)
  refine lv_iload_n hx hb dX8_goes_139 rfl (lv_at hl 3 rfl) ?_
  refine lv_iload hx hb dX8_goes_140 (lv_at hl 6 rfl) ?_
  refine lv_if_ge (tgt := 149) hx hb dX8_goes_142 (by decide) (fun hc => ?_) (fun hc => ?_)
  · rw [if_pos hc] at hf
    refine lv_bipush (v := 60) hx hb dX8_goes_149 (by decide) ?_
    refine lv_iload hx hb dX8_goes_151 (lv_at hl 5 rfl) ?_
    obtain ⟨v1, hv, hf⟩ := ob_some hf
    refine xDv hC hv dX8_goes_153 ?_
    exact w_X8_goes_154 hC hQ hk27  _ _ _ _ _ _ _ _ _ hP hS (lv_sub hl [0, 1, 2, 4] rfl) hf
  · rw [if_neg hc] at hf
    refine lv_iconst (v := 0) hx hb dX8_goes_145 (by decide) ?_
    refine lv_goto (tgt := 154) hx hb dX8_goes_146 (by decide) ?_
    exact w_X8_goes_154 hC hQ hk27  _ _ _ _ _ _ _ _ _ hP hS (lv_sub hl [0, 1, 2, 4] rfl) hf
def f_X8_goes_120  (k27 : ST → Int32 → Int32 → Int32 → Int32 → Option ST) (S : ST) (x1 : Int32) (x2 : Int32) (x3 : Int32) (x4 : Int32) (x5 : Int32) (x6 : Int32) (y0 : Int32) : Option ST := (bz y0).bind fun v1 => if 0 ≤ x6 then (f_X8_goes_136 k27 (sI S 30 14 v1) x1 x2 x3 x4 x5 x6 (-4)) else (f_X8_goes_136 k27 (sI S 30 14 v1) x1 x2 x3 x4 x5 x6 x4)
set_option maxRecDepth 100000 in
set_option maxHeartbeats 4000000 in
theorem w_X8_goes_120 {S' : ST} (hC : Cx p m c s args cX8_goes 7 RX8 G) (hQ : KV p l e (rmH 3) s m args below meth c Q cX8_goes G S') {k27 : ST → Int32 → Int32 → Int32 → Int32 → Option ST} (hk27 : ∀ (S : ST) (x1 : Int32) (x2 : Int32) (x3 : Int32) (x4 : Int32) (H : Heap) (locs : List Loc) (ls : Array Slot), va_P (gD G) vwCl (cells G S) H → va_S (gA G) s.heap H locs → lv_has ls 7 [(0, .ref (ad G 30)), (1, .int x1), (2, .int x2), (3, .int x3), (4, .int x4)] → k27 S x1 x2 x3 x4 = some S' → W p l e (rmH 3) s m args below meth c H locs 0 0 Q (F0 m 27 ls [])) (S : ST) (x1 : Int32) (x2 : Int32) (x3 : Int32) (x4 : Int32) (x5 : Int32) (x6 : Int32) (y0 : Int32) (H : Heap) (locs : List Loc) (ls : Array Slot) (hP : va_P (gD G) vwCl (cells G S) H) (hS : va_S (gA G) s.heap H locs) (hl : lv_has ls 7 [(0, .ref (ad G 30)), (1, .int x1), (2, .int x2), (3, .int x3), (4, .int x4), (5, .int x5), (6, .int x6)]) (hf : f_X8_goes_120 k27 S x1 x2 x3 x4 x5 x6 y0 = some S') : W p l e (rmH 3) s m args below meth c H locs 0 0 Q (F0 m 120 ls [.int y0, .ref (ad G 30)]) := by
  obtain ⟨hx, hb, hml, hown, hts⟩ := id hC.1
  rw [f_X8_goes_120] at hf
  obtain ⟨v1, hv, hf⟩ := ob_some hf
  refine bzW hv ?_
  refine pFi hC hP hS (j := 14) sg_30 vc_8 iT8 tyX8_ok nmX8 (by decide) rfl tb_4_85 rfl (bz_n hv) (bz_f hv) dX8_goes_120 (fun H locs hP hS => ?_)
  refine lv_aload_n hx hb dX8_goes_123 rfl (lv_at hl 0 rfl) ?_
  refine lv_iload hx hb dX8_goes_124 (lv_at hl 6 rfl) ?_
  refine lv_if_ge (tgt := 134) hx hb dX8_goes_126 (by decide) (fun hc => ?_) (fun hc => ?_)
  · rw [if_pos hc] at hf
    refine lv_bipush (v := (-4)) hx hb dX8_goes_134 (by decide) ?_
    exact w_X8_goes_136 hC hQ hk27  _ _ _ _ _ _ _ _ _ _ _ hP hS (lv_sub hl [0, 1, 2, 3, 4, 5, 6] rfl) hf
  · rw [if_neg hc] at hf
    refine lv_iload hx hb dX8_goes_129 (lv_at hl 4 rfl) ?_
    refine lv_goto (tgt := 136) hx hb dX8_goes_131 (by decide) ?_
    exact w_X8_goes_136 hC hQ hk27  _ _ _ _ _ _ _ _ _ _ _ hP hS (lv_sub hl [0, 1, 2, 3, 4, 5, 6] rfl) hf
def f_X8_goes_119  (k27 : ST → Int32 → Int32 → Int32 → Int32 → Option ST) (S : ST) (x1 : Int32) (x2 : Int32) (x3 : Int32) (x4 : Int32) (x5 : Int32) (x6 : Int32) : Option ST := f_X8_goes_120 k27 S x1 x2 x3 x4 x5 x6 0
set_option maxRecDepth 100000 in
set_option maxHeartbeats 4000000 in
theorem w_X8_goes_119 {S' : ST} (hC : Cx p m c s args cX8_goes 7 RX8 G) (hQ : KV p l e (rmH 3) s m args below meth c Q cX8_goes G S') {k27 : ST → Int32 → Int32 → Int32 → Int32 → Option ST} (hk27 : ∀ (S : ST) (x1 : Int32) (x2 : Int32) (x3 : Int32) (x4 : Int32) (H : Heap) (locs : List Loc) (ls : Array Slot), va_P (gD G) vwCl (cells G S) H → va_S (gA G) s.heap H locs → lv_has ls 7 [(0, .ref (ad G 30)), (1, .int x1), (2, .int x2), (3, .int x3), (4, .int x4)] → k27 S x1 x2 x3 x4 = some S' → W p l e (rmH 3) s m args below meth c H locs 0 0 Q (F0 m 27 ls [])) (S : ST) (x1 : Int32) (x2 : Int32) (x3 : Int32) (x4 : Int32) (x5 : Int32) (x6 : Int32) (H : Heap) (locs : List Loc) (ls : Array Slot) (hP : va_P (gD G) vwCl (cells G S) H) (hS : va_S (gA G) s.heap H locs) (hl : lv_has ls 7 [(0, .ref (ad G 30)), (1, .int x1), (2, .int x2), (3, .int x3), (4, .int x4), (5, .int x5), (6, .int x6)]) (hf : f_X8_goes_119 k27 S x1 x2 x3 x4 x5 x6 = some S') : W p l e (rmH 3) s m args below meth c H locs 0 0 Q (F0 m 119 ls [.ref (ad G 30)]) := by
  obtain ⟨hx, hb, hml, hown, hts⟩ := id hC.1
  rw [f_X8_goes_119] at hf
  refine lv_iconst (v := 0) hx hb dX8_goes_119 (by decide) ?_
  exact w_X8_goes_120 hC hQ hk27  _ _ _ _ _ _ _ _ _ _ _ hP hS (lv_sub hl [0, 1, 2, 3, 4, 5, 6] rfl) hf
def f_X8_goes_94  (k27 : ST → Int32 → Int32 → Int32 → Int32 → Option ST) (S : ST) (x1 : Int32) (x2 : Int32) (x3 : Int32) (x4 : Int32) (x5 : Int32) (x6 : Int32) (y0 : Int32) : Option ST := if ((sI S 30 13 y0).1 30 14) = 0 then (f_X8_goes_119 k27 (sI S 30 13 y0) x1 x2 x3 x4 x5 x6) else ((f_X8_needOf (sI S 30 13 y0) x1).bind fun v1 => if x6 < v1 then (f_X8_goes_119 k27 (sI S 30 13 y0) x1 x2 x3 x4 x5 x6) else (f_X8_goes_120 k27 (sI S 30 13 y0) x1 x2 x3 x4 x5 x6 1))
set_option maxRecDepth 100000 in
set_option maxHeartbeats 4000000 in
theorem w_X8_goes_94 {S' : ST} (hC : Cx p m c s args cX8_goes 7 RX8 G) (hQ : KV p l e (rmH 3) s m args below meth c Q cX8_goes G S') {k27 : ST → Int32 → Int32 → Int32 → Int32 → Option ST} (hk27 : ∀ (S : ST) (x1 : Int32) (x2 : Int32) (x3 : Int32) (x4 : Int32) (H : Heap) (locs : List Loc) (ls : Array Slot), va_P (gD G) vwCl (cells G S) H → va_S (gA G) s.heap H locs → lv_has ls 7 [(0, .ref (ad G 30)), (1, .int x1), (2, .int x2), (3, .int x3), (4, .int x4)] → k27 S x1 x2 x3 x4 = some S' → W p l e (rmH 3) s m args below meth c H locs 0 0 Q (F0 m 27 ls [])) (S : ST) (x1 : Int32) (x2 : Int32) (x3 : Int32) (x4 : Int32) (x5 : Int32) (x6 : Int32) (y0 : Int32) (H : Heap) (locs : List Loc) (ls : Array Slot) (hP : va_P (gD G) vwCl (cells G S) H) (hS : va_S (gA G) s.heap H locs) (hl : lv_has ls 7 [(0, .ref (ad G 30)), (1, .int x1), (2, .int x2), (3, .int x3), (4, .int x4), (5, .int x5), (6, .int x6)]) (hf : f_X8_goes_94 k27 S x1 x2 x3 x4 x5 x6 y0 = some S') : W p l e (rmH 3) s m args below meth c H locs 0 0 Q (F0 m 94 ls [.int y0, .ref (ad G 30)]) := by
  obtain ⟨hx, hb, hml, hown, hts⟩ := id hC.1
  rw [f_X8_goes_94] at hf
  refine pFi hC hP hS (j := 13) sg_30 vc_8 iT8 tyX8_ok nmX8 (by decide) rfl tb_4_84 rfl rfl rfl dX8_goes_94 (fun H locs hP hS => ?_)
  refine lv_aload_n hx hb dX8_goes_97 rfl (lv_at hl 0 rfl) ?_
  refine lv_aload_n hx hb dX8_goes_98 rfl (lv_at hl 0 rfl) ?_
  refine gFi hC hP (j := 14) sg_30 vc_8 iT8 (by decide) rfl tb_4_85 dX8_goes_99 ?_
  refine lv_if_eq (tgt := 119) hx hb dX8_goes_102 (by decide) (fun hc => ?_) (fun hc => ?_)
  · rw [if_pos hc] at hf
    exact w_X8_goes_119 hC hQ hk27  _ _ _ _ _ _ _ _ _ _ hP hS (lv_sub hl [0, 1, 2, 3, 4, 5, 6] rfl) hf
  · rw [if_neg hc] at hf
    refine lv_iload hx hb dX8_goes_105 (lv_at hl 6 rfl) ?_
    refine lv_aload_n hx hb dX8_goes_107 rfl (lv_at hl 0 rfl) ?_
    refine lv_iload_n hx hb dX8_goes_108 rfl (lv_at hl 1 rfl) ?_
    obtain ⟨v1, hv, hf⟩ := ob_some hf
    refine cI hS (runV hC hP hS (As := [.int x1]) (rest := [.int x6, .ref (ad G 30)]) (k_X8_needOf l G (sI S 30 13 y0) x1 _ hv) vy_X8_needOf sg_30 vc_8 tb_5_66 tb_5_68 ts_40 ⟨Nat.le_of_ble_eq_true rfl, Nat.le_of_ble_eq_true rfl⟩ rfl hl.1 rfl (Nat.le_of_ble_eq_true rfl) dX8_goes_109) (fun H locs hP hS => ?_)
    refine lv_icmp_lt (tgt := 119) hx hb dX8_goes_112 (by decide) (fun hc => ?_) (fun hc => ?_)
    · rw [if_pos hc] at hf
      exact w_X8_goes_119 hC hQ hk27  _ _ _ _ _ _ _ _ _ _ hP hS (lv_sub hl [0, 1, 2, 3, 4, 5, 6] rfl) hf
    · rw [if_neg hc] at hf
      refine lv_iconst (v := 1) hx hb dX8_goes_115 (by decide) ?_
      refine lv_goto (tgt := 120) hx hb dX8_goes_116 (by decide) ?_
      exact w_X8_goes_120 hC hQ hk27  _ _ _ _ _ _ _ _ _ _ _ hP hS (lv_sub hl [0, 1, 2, 3, 4, 5, 6] rfl) hf
def f_X8_goes_27  : Nat → ST → Int32 → Int32 → Int32 → Int32 → Option ST
  | 0, _, _, _, _, _ => none
  | n + 1, S, x1, x2, x3, x4 => if (S.1 30 0) ≤ x4 then (f_X8_goes_162 S x2 x3) else (if 0 ≤ (S.1 30 11) then (f_X8_goes_162 S x2 x3) else ((rI S 0 31 ((6 * x4) + 5)).bind fun v1 => (f_X8_waterAt S x4 x3).bind fun v2 => (f_X8_underBy S x1 x4 v2 v1).bind fun v3 => if (S.1 30 13) ≤ v3 then (f_X8_goes_94 (f_X8_goes_27 n) S x1 x2 x3 x4 v1 v3 (S.1 30 13)) else (f_X8_goes_94 (f_X8_goes_27 n) S x1 x2 x3 x4 v1 v3 v3)))
set_option maxRecDepth 100000 in
set_option maxHeartbeats 4000000 in
theorem w_X8_goes_27 {S' : ST} (hC : Cx p m c s args cX8_goes 7 RX8 G) (hQ : KV p l e (rmH 3) s m args below meth c Q cX8_goes G S') : ∀ (n : Nat) (S : ST) (x1 : Int32) (x2 : Int32) (x3 : Int32) (x4 : Int32) (H : Heap) (locs : List Loc) (ls : Array Slot), va_P (gD G) vwCl (cells G S) H → va_S (gA G) s.heap H locs → lv_has ls 7 [(0, .ref (ad G 30)), (1, .int x1), (2, .int x2), (3, .int x3), (4, .int x4)] → f_X8_goes_27 n S x1 x2 x3 x4 = some S' → W p l e (rmH 3) s m args below meth c H locs 0 0 Q (F0 m 27 ls []) := by
  obtain ⟨hx, hb, hml, hown, hts⟩ := id hC.1
  intro n
  induction n with
  | zero => intro S x1 x2 x3 x4 H locs ls hP hS hl hf; rw [f_X8_goes_27] at hf; cases hf
  | succ n ih =>
    intro S x1 x2 x3 x4 H locs ls hP hS hl hf
    rw [f_X8_goes_27] at hf
    refine lv_iload hx hb dX8_goes_27 (lv_at hl 4 rfl) ?_
    refine lv_aload_n hx hb dX8_goes_29 rfl (lv_at hl 0 rfl) ?_
    refine gFi hC hP (j := 0) sg_30 vc_8 iT8 (by decide) rfl tb_4_71 dX8_goes_30 ?_
    refine lv_icmp_ge (tgt := 162) hx hb dX8_goes_33 (by decide) (fun hc => ?_) (fun hc => ?_)
    · rw [if_pos hc] at hf
      exact w_X8_goes_162 hC hQ  _ _ _ _ _ _ hP hS (lv_sub hl [0, 2, 3] rfl) hf
    · rw [if_neg hc] at hf
      refine lv_aload_n hx hb dX8_goes_36 rfl (lv_at hl 0 rfl) ?_
      refine gFi hC hP (j := 11) sg_30 vc_8 iT8 (by decide) rfl tb_4_82 dX8_goes_37 ?_
      refine lv_if_ge (tgt := 162) hx hb dX8_goes_40 (by decide) (fun hc => ?_) (fun hc => ?_)
      · rw [if_pos hc] at hf
        exact w_X8_goes_162 hC hQ  _ _ _ _ _ _ hP hS (lv_sub hl [0, 2, 3] rfl) hf
      · rw [if_neg hc] at hf
        refine lv_aload_n hx hb dX8_goes_43 rfl (lv_at hl 0 rfl) ?_
        refine gFr hC hP (j := 1) sg_30 vc_8 iT8 (by decide) rfl tb_4_72 dX8_goes_44 ?_
        refine lv_bipush (v := 6) hx hb dX8_goes_47 (by decide) ?_
        refine lv_iload hx hb dX8_goes_49 (lv_at hl 4 rfl) ?_
        refine lv_imul hx hb dX8_goes_51 ?_
        refine lv_iconst (v := 5) hx hb dX8_goes_52 (by decide) ?_
        refine lv_iadd hx hb dX8_goes_53 ?_
        obtain ⟨v1, hv, hf⟩ := ob_some hf
        refine gIa hC hP hv dX8_goes_54 ?_
        refine lv_istore (lv' := [(5, .int v1), (0, .ref (ad G 30)), (1, .int x1), (2, .int x2), (3, .int x3), (4, .int x4)]) hx hb dX8_goes_55 hl (by decide) rfl (fun ls hl => ?_)
        refine lv_aload_n hx hb dX8_goes_57 rfl (lv_at hl 1 rfl) ?_
        refine lv_iload_n hx hb dX8_goes_58 rfl (lv_at hl 2 rfl) ?_
        refine lv_iload hx hb dX8_goes_59 (lv_at hl 5 rfl) ?_
        refine lv_aload_n hx hb dX8_goes_61 rfl (lv_at hl 1 rfl) ?_
        refine lv_iload hx hb dX8_goes_62 (lv_at hl 5 rfl) ?_
        refine lv_iload_n hx hb dX8_goes_64 rfl (lv_at hl 4 rfl) ?_
        obtain ⟨v2, hv, hf⟩ := ob_some hf
        refine cI hS (runV hC hP hS (As := [.int x4, .int x3]) (rest := [.int x4, .int x1, .ref (ad G 30)]) (k_X8_waterAt l G S x4 x3 _ hv) vy_X8_waterAt sg_30 vc_8 tb_5_37 tb_5_39 ts_36 ⟨Nat.le_of_ble_eq_true rfl, Nat.le_of_ble_eq_true rfl⟩ rfl hl.1 rfl (Nat.le_of_ble_eq_true rfl) dX8_goes_65) (fun H locs hP hS => ?_)
        refine lv_iload hx hb dX8_goes_68 (lv_at hl 0 rfl) ?_
        obtain ⟨v3, hv, hf⟩ := ob_some hf
        refine cI hS (runV hC hP hS (As := [.int x1, .int x4, .int v2, .int v1]) (rest := []) (k_X8_underBy l G S x1 x4 v2 v1 _ hv) vy_X8_underBy sg_30 vc_8 tb_5_58 tb_5_60 ts_39 ⟨Nat.le_of_ble_eq_true rfl, Nat.le_of_ble_eq_true rfl⟩ rfl hl.1 rfl (Nat.le_of_ble_eq_true rfl) dX8_goes_70) (fun H locs hP hS => ?_)
        refine lv_istore (lv' := [(6, .int v3), (5, .int v1), (0, .ref (ad G 30)), (1, .int x1), (2, .int x2), (3, .int x3), (4, .int x4)]) hx hb dX8_goes_73 hl (by decide) rfl (fun ls hl => ?_)
        refine lv_aload_n hx hb dX8_goes_75 rfl (lv_at hl 2 rfl) ?_
        refine lv_iload hx hb dX8_goes_76 (lv_at hl 0 rfl) ?_
        refine lv_aload_n hx hb dX8_goes_78 rfl (lv_at hl 2 rfl) ?_
        refine gFi hC hP (j := 13) sg_30 vc_8 iT8 (by decide) rfl tb_4_84 dX8_goes_79 ?_
        refine lv_icmp_ge (tgt := 90) hx hb dX8_goes_82 (by decide) (fun hc => ?_) (fun hc => ?_)
        · rw [if_pos hc] at hf
          refine lv_aload_n hx hb dX8_goes_90 rfl (lv_at hl 2 rfl) ?_
          refine gFi hC hP (j := 13) sg_30 vc_8 iT8 (by decide) rfl tb_4_84 dX8_goes_91 ?_
          exact w_X8_goes_94 hC hQ ih  _ _ _ _ _ _ _ _ _ _ _ hP hS (lv_sub hl [2, 3, 4, 5, 6, 1, 0] rfl) hf
        · rw [if_neg hc] at hf
          refine lv_iload hx hb dX8_goes_85 (lv_at hl 0 rfl) ?_
          refine lv_goto (tgt := 94) hx hb dX8_goes_87 (by decide) ?_
          exact w_X8_goes_94 hC hQ ih  _ _ _ _ _ _ _ _ _ _ _ hP hS (lv_sub hl [2, 3, 4, 5, 6, 1, 0] rfl) hf
def f_X8_goes (S : ST) (x1 : Int32) (x2 : Int32) : Option ST := f_X8_goes_27 FU (sI (sI (sI (sI S 30 11 (-4)) 30 12 0) 30 13 100000) 30 14 1) x1 x2 x2 0
set_option maxRecDepth 100000 in
set_option maxHeartbeats 4000000 in
theorem k_X8_goes (l : Launch) (G : GT) (S : ST) (x1 : Int32) (x2 : Int32) (S' : ST) (hf : f_X8_goes S x1 x2 = some S') : MV l yX8_goes cX8_goes 7 3 [.ref (ad G 30), .int x1, .int x2] G S S' := by
  rw [f_X8_goes] at hf
  refine mkV (own := RX8) (by decide +kernel) rfl (Nat.le_of_ble_eq_true rfl) (fun p e s m args below meth c Q ls hC hP hS hl hQ => ?_)
  have hl : lv_has ls 7 [(0, .ref (ad G 30)), (1, .int x1), (2, .int x2)] := hl
  obtain ⟨hx, hb, hml, hown, hts⟩ := id hC.1
  refine lv_aload_n hx hb dX8_goes_0 rfl (lv_at hl 0 rfl) ?_
  refine lv_bipush (v := (-4)) hx hb dX8_goes_1 (by decide) ?_
  refine pFi hC hP hS (j := 11) sg_30 vc_8 iT8 tyX8_ok nmX8 (by decide) rfl tb_4_82 rfl rfl rfl dX8_goes_3 (fun H locs hP hS => ?_)
  refine lv_aload_n hx hb dX8_goes_6 rfl (lv_at hl 0 rfl) ?_
  refine lv_iconst (v := 0) hx hb dX8_goes_7 (by decide) ?_
  refine pFi hC hP hS (j := 12) sg_30 vc_8 iT8 tyX8_ok nmX8 (by decide) rfl tb_4_83 rfl rfl rfl dX8_goes_8 (fun H locs hP hS => ?_)
  refine lv_aload_n hx hb dX8_goes_11 rfl (lv_at hl 0 rfl) ?_
  refine lv_ldc hx hb hown (hts _ tb_5_83) dX8_goes_12 ?_
  refine pFi hC hP hS (j := 13) sg_30 vc_8 iT8 tyX8_ok nmX8 (by decide) rfl tb_4_84 rfl rfl rfl dX8_goes_14 (fun H locs hP hS => ?_)
  refine lv_aload_n hx hb dX8_goes_17 rfl (lv_at hl 0 rfl) ?_
  refine lv_iconst (v := 1) hx hb dX8_goes_18 (by decide) ?_
  refine pFi hC hP hS (j := 14) sg_30 vc_8 iT8 tyX8_ok nmX8 (by decide) rfl tb_4_85 rfl rfl rfl dX8_goes_19 (fun H locs hP hS => ?_)
  refine lv_iload_n hx hb dX8_goes_22 rfl (lv_at hl 2 rfl) ?_
  refine lv_istore_n (lv' := [(3, .int x2), (0, .ref (ad G 30)), (1, .int x1), (2, .int x2)]) hx hb dX8_goes_23 rfl hl (by decide) rfl (fun ls hl => ?_)
  refine lv_iconst (v := 0) hx hb dX8_goes_24 (by decide) ?_
  refine lv_istore (lv' := [(4, .int 0), (3, .int x2), (0, .ref (ad G 30)), (1, .int x1), (2, .int x2)]) hx hb dX8_goes_25 hl (by decide) rfl (fun ls hl => ?_)
  exact w_X8_goes_27 hC hQ _ _ _ _ _ _ _ _ _ hP hS (lv_sub hl [2, 3, 4, 1, 0] rfl) hf
def f_X8_run (S : ST) (x1 : Int32) (x2 : Int32) (x3 : Int32) : Option (Int32 × ST) := (f_X8_isShip S x1).bind fun v1 => if v1 = 0 then (some ((-1), S)) else ((f_X8_isStart x2).bind fun v2 => if v2 = 0 then (some ((-1), S)) else ((f_X8_in (x3.toInt64) 0 3).bind fun v3 => if v3 = 0 then (some ((-1), S)) else (if (S.1 30 0) = 0 then (some ((-2), S)) else ((f_X8_goes S x1 x2).bind fun S4 => if x3 = 0 then (some ((S4.1 30 11), S4)) else (if x3 = 1 then (some ((S4.1 30 12), S4)) else (if x3 = 2 then (some ((100000 + (S4.1 30 13)), S4)) else (if (S4.1 30 14) = 0 then (some (0, S4)) else (some (1, S4)))))))))
set_option maxRecDepth 100000 in
set_option maxHeartbeats 4000000 in
theorem k_X8_run (l : Launch) (G : GT) (S : ST) (x1 : Int32) (x2 : Int32) (x3 : Int32) (r : Int32) (S' : ST) (hf : f_X8_run S x1 x2 x3 = some (r, S')) : MI l yX8_run cX8_run 4 (some .int) 4 [.ref (ad G 30), .int x1, .int x2, .int x3] G S r S' := by
  rw [f_X8_run] at hf
  refine mkI (own := RX8) (by decide +kernel) rfl rfl (Nat.le_of_ble_eq_true rfl) (fun p e s m args below meth c Q ls hC hP hS hl hQ => ?_)
  have hl : lv_has ls 4 [(0, .ref (ad G 30)), (1, .int x1), (2, .int x2), (3, .int x3)] := hl
  obtain ⟨hx, hb, hml, hown, hts⟩ := id hC.1
  refine lv_aload_n hx hb dX8_run_0 rfl (lv_at hl 0 rfl) ?_
  refine lv_iload_n hx hb dX8_run_1 rfl (lv_at hl 1 rfl) ?_
  obtain ⟨v1, hv, hf⟩ := ob_some hf
  refine cI hS (runV hC hP hS (As := [.int x1]) (rest := []) (k_X8_isShip l G S x1 _ hv) vy_X8_isShip sg_30 vc_8 tb_5_46 tb_5_48 ts_37 ⟨Nat.le_of_ble_eq_true rfl, Nat.le_of_ble_eq_true rfl⟩ rfl hl.1 rfl (Nat.le_of_ble_eq_true rfl) dX8_run_2) (fun H locs hP hS => ?_)
  refine lv_if_eq (tgt := 27) hx hb dX8_run_5 (by decide) (fun hc => ?_) (fun hc => ?_)
  · rw [if_pos hc] at hf
    refine lv_iconst (v := (-1)) hx hb dX8_run_27 (by decide) ?_
    exact retIw hQ hf hP hS dX8_run_28
  · rw [if_neg hc] at hf
    refine lv_iload_n hx hb dX8_run_8 rfl (lv_at hl 2 rfl) ?_
    obtain ⟨v2, hv, hf⟩ := ob_some hf
    refine cI hS (runS hC hP hS (As := [.int x2]) (rest := []) (k_X8_isStart l G S x2 _ hv) vy_X8_isStart tb_5_74 tb_5_75 ⟨Nat.le_of_ble_eq_true rfl, Nat.le_of_ble_eq_true rfl⟩ rfl hl.1 rfl (Nat.le_of_ble_eq_true rfl) dX8_run_9) (fun H locs hP hS => ?_)
    refine lv_if_eq (tgt := 27) hx hb dX8_run_12 (by decide) (fun hc => ?_) (fun hc => ?_)
    · rw [if_pos hc] at hf
      refine lv_iconst (v := (-1)) hx hb dX8_run_27 (by decide) ?_
      exact retIw hQ hf hP hS dX8_run_28
    · rw [if_neg hc] at hf
      refine lv_iload_n hx hb dX8_run_15 rfl (lv_at hl 3 rfl) ?_
      refine lv_i2l (v := x3.toInt64) hx hb dX8_run_16 rfl ?_
      refine lv_lconst (v := 0) hx hb dX8_run_17 (by decide) ?_
      refine lv_ldc2 hx hb hown (hts _ tb_5_78) dX8_run_18 ?_
      obtain ⟨v3, hv, hf⟩ := ob_some hf
      refine cI hS (runS hC hP hS (As := [.long (x3.toInt64), .long 0, .long 3]) (rest := []) (k_X8_in l G S (x3.toInt64) 0 3 _ hv) vy_X8_in tb_4_169 tb_4_170 ⟨Nat.le_of_ble_eq_true rfl, Nat.le_of_ble_eq_true rfl⟩ rfl hl.1 rfl (Nat.le_of_ble_eq_true rfl) dX8_run_21) (fun H locs hP hS => ?_)
      refine lv_if_ne (tgt := 29) hx hb dX8_run_24 (by decide) (fun hc => ?_) (fun hc => ?_)
      · rw [if_neg hc] at hf
        refine lv_aload_n hx hb dX8_run_29 rfl (lv_at hl 0 rfl) ?_
        refine gFi hC hP (j := 0) sg_30 vc_8 iT8 (by decide) rfl tb_4_71 dX8_run_30 ?_
        refine lv_if_ne (tgt := 39) hx hb dX8_run_33 (by decide) (fun hc => ?_) (fun hc => ?_)
        · rw [if_neg hc] at hf
          refine lv_aload_n hx hb dX8_run_39 rfl (lv_at hl 0 rfl) ?_
          refine lv_iload_n hx hb dX8_run_40 rfl (lv_at hl 1 rfl) ?_
          refine lv_iload_n hx hb dX8_run_41 rfl (lv_at hl 2 rfl) ?_
          obtain ⟨S4, hv, hf⟩ := ob_some hf
          refine cV hS (runV hC hP hS (As := [.int x1, .int x2]) (rest := []) (k_X8_goes l G S x1 x2 _ hv) vy_X8_goes sg_30 vc_8 tb_5_79 tb_5_81 ts_41 ⟨Nat.le_of_ble_eq_true rfl, Nat.le_of_ble_eq_true rfl⟩ rfl hl.1 rfl (Nat.le_of_ble_eq_true rfl) dX8_run_42) (fun H locs hP hS => ?_)
          refine lv_iload_n hx hb dX8_run_45 rfl (lv_at hl 3 rfl) ?_
          refine lv_if_ne (tgt := 56) hx hb dX8_run_46 (by decide) (fun hc => ?_) (fun hc => ?_)
          · rw [if_neg hc] at hf
            refine lv_iload_n hx hb dX8_run_56 rfl (lv_at hl 3 rfl) ?_
            refine lv_iconst (v := 1) hx hb dX8_run_57 (by decide) ?_
            refine lv_icmp_ne (tgt := 68) hx hb dX8_run_58 (by decide) (fun hc => ?_) (fun hc => ?_)
            · rw [if_neg hc] at hf
              refine lv_iload_n hx hb dX8_run_68 rfl (lv_at hl 3 rfl) ?_
              refine lv_iconst (v := 2) hx hb dX8_run_69 (by decide) ?_
              refine lv_icmp_ne (tgt := 83) hx hb dX8_run_70 (by decide) (fun hc => ?_) (fun hc => ?_)
              · rw [if_neg hc] at hf
                refine lv_aload_n hx hb dX8_run_83 rfl (lv_at hl 0 rfl) ?_
                refine gFi hC hP (j := 14) sg_30 vc_8 iT8 (by decide) rfl tb_4_85 dX8_run_84 ?_
                refine lv_if_eq (tgt := 94) hx hb dX8_run_87 (by decide) (fun hc => ?_) (fun hc => ?_)
                · rw [if_pos hc] at hf
                  refine lv_iconst (v := 0) hx hb dX8_run_94 (by decide) ?_
                  exact retIw hQ hf hP hS dX8_run_95
                · rw [if_neg hc] at hf
                  refine lv_iconst (v := 1) hx hb dX8_run_90 (by decide) ?_
                  refine lv_goto (tgt := 95) hx hb dX8_run_91 (by decide) ?_
                  exact retIw hQ hf hP hS dX8_run_95
              · rw [if_pos hc] at hf
                refine lv_ldc hx hb hown (hts _ tb_5_83) dX8_run_73 ?_
                refine lv_aload_n hx hb dX8_run_75 rfl (lv_at hl 0 rfl) ?_
                refine gFi hC hP (j := 13) sg_30 vc_8 iT8 (by decide) rfl tb_4_84 dX8_run_76 ?_
                refine lv_iadd hx hb dX8_run_79 ?_
                refine lv_goto (tgt := 95) hx hb dX8_run_80 (by decide) ?_
                exact retIw hQ hf hP hS dX8_run_95
            · rw [if_pos hc] at hf
              refine lv_aload_n hx hb dX8_run_61 rfl (lv_at hl 0 rfl) ?_
              refine gFi hC hP (j := 12) sg_30 vc_8 iT8 (by decide) rfl tb_4_83 dX8_run_62 ?_
              refine lv_goto (tgt := 95) hx hb dX8_run_65 (by decide) ?_
              exact retIw hQ hf hP hS dX8_run_95
          · rw [if_pos hc] at hf
            refine lv_aload_n hx hb dX8_run_49 rfl (lv_at hl 0 rfl) ?_
            refine gFi hC hP (j := 11) sg_30 vc_8 iT8 (by decide) rfl tb_4_82 dX8_run_50 ?_
            refine lv_goto (tgt := 95) hx hb dX8_run_53 (by decide) ?_
            exact retIw hQ hf hP hS dX8_run_95
        · rw [if_pos hc] at hf
          refine lv_bipush (v := (-2)) hx hb dX8_run_36 (by decide) ?_
          exact retIw hQ hf hP hS dX8_run_38
      · rw [if_pos hc] at hf
        refine lv_iconst (v := (-1)) hx hb dX8_run_27 (by decide) ?_
        exact retIw hQ hf hP hS dX8_run_28
end
