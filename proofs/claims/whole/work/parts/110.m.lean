section
variable {p : Program} {l : Launch} {e : Env} {s : State} {m : MethodId} {args : Array Value} {below : List Frame} {meth : Method} {c : Code} {Q : State → Prop} {G : GT}

def f_X7_image (S : ST)  : Option (Int32 × ST) := (f_X1_take_6_1 S).bind fun S1 => some (1, (sI S1 0 9 1))
set_option maxRecDepth 100000 in
set_option maxHeartbeats 4000000 in
theorem k_X7_image (l : Launch) (G : GT) (S : ST)  (r : Int32) (S' : ST) (hf : f_X7_image S  = some (r, S')) : MI l yX7_image cX7_image 1 (some .int) 2 [.ref (ad G 0)] G S r S' := by
  rw [f_X7_image] at hf
  refine mkI (own := RX7) (by decide +kernel) rfl rfl (Nat.le_of_ble_eq_true rfl) (fun p e s m args below meth c Q ls hC hP hS hl hQ => ?_)
  have hl : lv_has ls 1 [(0, .ref (ad G 0))] := hl
  obtain ⟨hx, hb, hml, hown, hts⟩ := id hC.1
  refine lv_aload_n hx hb dX7_image_0 rfl (lv_at hl 0 rfl) ?_
  refine gFr hC hP (j := 1) sg_0 vc_7 iT7 (by decide) rfl tb_1_213 dX7_image_1 ?_
  refine lv_aload_n hx hb dX7_image_4 rfl (lv_at hl 0 rfl) ?_
  refine gFr hC hP (j := 0) sg_0 vc_7 iT7 (by decide) rfl tb_1_212 dX7_image_5 ?_
  obtain ⟨S1, hv, hf⟩ := ob_some hf
  refine cV hS (runV hC hP hS (As := [.ref (ad G 1)]) (rest := []) (k_X1_take_6_1 l G S _ hv) vy_X1_take sg_6 vc_1 tb_3_228 tb_3_229 tb_3_230 ⟨Nat.le_of_ble_eq_true rfl, Nat.le_of_ble_eq_true rfl⟩ rfl hl.1 rfl (Nat.le_of_ble_eq_true rfl) dX7_image_8) (fun H locs hP hS => ?_)
  refine lv_aload_n hx hb dX7_image_11 rfl (lv_at hl 0 rfl) ?_
  refine lv_iconst (v := 1) hx hb dX7_image_12 (by decide) ?_
  refine pFi hC hP hS (j := 9) sg_0 vc_7 iT7 tyX7_ok nmX7 (by decide) rfl tb_1_221 rfl rfl rfl dX7_image_13 (fun H locs hP hS => ?_)
  refine lv_iconst (v := 1) hx hb dX7_image_16 (by decide) ?_
  exact retIw hQ hf hP hS dX7_image_17
def f_X7_restore (S : ST)  : Option (Int32 × ST) := if (S.1 0 9) = 0 then (some ((-4), S)) else ((f_X1_take_1_6 S).bind fun S1 => some (1, S1))
set_option maxRecDepth 100000 in
set_option maxHeartbeats 4000000 in
theorem k_X7_restore (l : Launch) (G : GT) (S : ST)  (r : Int32) (S' : ST) (hf : f_X7_restore S  = some (r, S')) : MI l yX7_restore cX7_restore 1 (some .int) 2 [.ref (ad G 0)] G S r S' := by
  rw [f_X7_restore] at hf
  refine mkI (own := RX7) (by decide +kernel) rfl rfl (Nat.le_of_ble_eq_true rfl) (fun p e s m args below meth c Q ls hC hP hS hl hQ => ?_)
  have hl : lv_has ls 1 [(0, .ref (ad G 0))] := hl
  obtain ⟨hx, hb, hml, hown, hts⟩ := id hC.1
  refine lv_aload_n hx hb dX7_restore_0 rfl (lv_at hl 0 rfl) ?_
  refine gFi hC hP (j := 9) sg_0 vc_7 iT7 (by decide) rfl tb_1_221 dX7_restore_1 ?_
  refine lv_if_ne (tgt := 10) hx hb dX7_restore_4 (by decide) (fun hc => ?_) (fun hc => ?_)
  · rw [if_neg hc] at hf
    refine lv_aload_n hx hb dX7_restore_10 rfl (lv_at hl 0 rfl) ?_
    refine gFr hC hP (j := 0) sg_0 vc_7 iT7 (by decide) rfl tb_1_212 dX7_restore_11 ?_
    refine lv_aload_n hx hb dX7_restore_14 rfl (lv_at hl 0 rfl) ?_
    refine gFr hC hP (j := 1) sg_0 vc_7 iT7 (by decide) rfl tb_1_213 dX7_restore_15 ?_
    obtain ⟨S1, hv, hf⟩ := ob_some hf
    refine cV hS (runV hC hP hS (As := [.ref (ad G 6)]) (rest := []) (k_X1_take_1_6 l G S _ hv) vy_X1_take sg_1 vc_1 tb_3_228 tb_3_229 tb_3_230 ⟨Nat.le_of_ble_eq_true rfl, Nat.le_of_ble_eq_true rfl⟩ rfl hl.1 rfl (Nat.le_of_ble_eq_true rfl) dX7_restore_18) (fun H locs hP hS => ?_)
    refine lv_iconst (v := 1) hx hb dX7_restore_21 (by decide) ?_
    exact retIw hQ hf hP hS dX7_restore_22
  · rw [if_pos hc] at hf
    refine lv_bipush (v := (-4)) hx hb dX7_restore_7 (by decide) ?_
    exact retIw hQ hf hP hS dX7_restore_9
def f_X3_isSheet (x0 : Int32) : Option Int32 := (f_X7_within x0 0 3).bind fun v1 => (bz v1).bind fun v2 => some v2
set_option maxRecDepth 100000 in
set_option maxHeartbeats 4000000 in
theorem k_X3_isSheet (l : Launch) (G : GT) (S : ST) (x0 : Int32) (r : Int32) (hf : f_X3_isSheet x0 = some r) : MI l yX3_isSheet cX3_isSheet 1 (some .boolean) 2 [.int x0] G S r S := by
  rw [f_X3_isSheet] at hf
  refine mkZ (own := RX3) (by decide +kernel) rfl (Nat.le_of_ble_eq_true rfl) (fun p e s m args below meth c Q ls hC hP hS hl hQ => ?_)
  have hl : lv_has ls 1 [(0, .int x0)] := hl
  obtain ⟨hx, hb, hml, hown, hts⟩ := id hC.1
  refine lv_iload_n hx hb dX3_isSheet_0 rfl (lv_at hl 0 rfl) ?_
  refine lv_iconst (v := 0) hx hb dX3_isSheet_1 (by decide) ?_
  refine lv_iconst (v := 3) hx hb dX3_isSheet_2 (by decide) ?_
  obtain ⟨v1, hv, hf⟩ := ob_some hf
  refine cI hS (runSN hC hP hS (As := [.int x0, .int 0, .int 3]) (rest := []) (k_X7_within l G S x0 0 3 _ hv) vy_X7_within nw_16 tb_2_15 ⟨Nat.le_of_ble_eq_true rfl, Nat.le_of_ble_eq_true rfl⟩ rfl hl.1 rfl (Nat.le_of_ble_eq_true rfl) dX3_isSheet_3) (fun H locs hP hS => ?_)
  obtain ⟨v2, hv, hf⟩ := ob_some hf
  refine bzW hv ?_
  exact retZ hQ (bz_n hv) hf hP hS dX3_isSheet_6
def f_X3_isLane (x0 : Int32) : Option Int32 := (f_X7_within x0 0 2).bind fun v1 => (bz v1).bind fun v2 => some v2
set_option maxRecDepth 100000 in
set_option maxHeartbeats 4000000 in
theorem k_X3_isLane (l : Launch) (G : GT) (S : ST) (x0 : Int32) (r : Int32) (hf : f_X3_isLane x0 = some r) : MI l yX3_isLane cX3_isLane 1 (some .boolean) 2 [.int x0] G S r S := by
  rw [f_X3_isLane] at hf
  refine mkZ (own := RX3) (by decide +kernel) rfl (Nat.le_of_ble_eq_true rfl) (fun p e s m args below meth c Q ls hC hP hS hl hQ => ?_)
  have hl : lv_has ls 1 [(0, .int x0)] := hl
  obtain ⟨hx, hb, hml, hown, hts⟩ := id hC.1
  refine lv_iload_n hx hb dX3_isLane_0 rfl (lv_at hl 0 rfl) ?_
  refine lv_iconst (v := 0) hx hb dX3_isLane_1 (by decide) ?_
  refine lv_iconst (v := 2) hx hb dX3_isLane_2 (by decide) ?_
  obtain ⟨v1, hv, hf⟩ := ob_some hf
  refine cI hS (runSN hC hP hS (As := [.int x0, .int 0, .int 2]) (rest := []) (k_X7_within l G S x0 0 2 _ hv) vy_X7_within nw_16 tb_2_15 ⟨Nat.le_of_ble_eq_true rfl, Nat.le_of_ble_eq_true rfl⟩ rfl hl.1 rfl (Nat.le_of_ble_eq_true rfl) dX3_isLane_3) (fun H locs hP hS => ?_)
  obtain ⟨v2, hv, hf⟩ := ob_some hf
  refine bzW hv ?_
  exact retZ hQ (bz_n hv) hf hP hS dX3_isLane_6
def f_X3_isNothing (S : ST) (x1 : Int32) : Option Int32 := (rI S 0 27 x1).bind fun v1 => if v1 = (-1) then (some 1) else (some 0)
set_option maxRecDepth 100000 in
set_option maxHeartbeats 4000000 in
theorem k_X3_isNothing (l : Launch) (G : GT) (S : ST) (x1 : Int32) (r : Int32) (hf : f_X3_isNothing S x1 = some r) : MI l yX3_isNothing cX3_isNothing 2 (some .boolean) 1 [.ref (ad G 25), .int x1] G S r S := by
  rw [f_X3_isNothing] at hf
  refine mkZ (own := RX3) (by decide +kernel) rfl (Nat.le_of_ble_eq_true rfl) (fun p e s m args below meth c Q ls hC hP hS hl hQ => ?_)
  have hl : lv_has ls 2 [(0, .ref (ad G 25)), (1, .int x1)] := hl
  obtain ⟨hx, hb, hml, hown, hts⟩ := id hC.1
  refine lv_aload_n hx hb dX3_isNothing_0 rfl (lv_at hl 0 rfl) ?_
  refine gFr hC hP (j := 1) sg_25 vc_3 iT3 (by decide) rfl tb_1_203 dX3_isNothing_1 ?_
  refine lv_iload_n hx hb dX3_isNothing_4 rfl (lv_at hl 1 rfl) ?_
  obtain ⟨v1, hv, hf⟩ := ob_some hf
  refine gIa hC hP hv dX3_isNothing_5 ?_
  refine lv_iconst (v := (-1)) hx hb dX3_isNothing_6 (by decide) ?_
  refine lv_icmp_ne (tgt := 14) hx hb dX3_isNothing_7 (by decide) (fun hc => ?_) (fun hc => ?_)
  · rw [if_neg hc] at hf
    refine lv_iconst (v := 0) hx hb dX3_isNothing_14 (by decide) ?_
    exact retZ hQ rfl hf hP hS dX3_isNothing_15
  · rw [if_pos hc] at hf
    refine lv_iconst (v := 1) hx hb dX3_isNothing_10 (by decide) ?_
    refine lv_goto (tgt := 15) hx hb dX3_isNothing_11 (by decide) ?_
    exact retZ hQ rfl hf hP hS dX3_isNothing_15
def f_X3_hasItems (S : ST) (x1 : Int32) (x2 : Int32) (x3 : Int32) : Option Int32 := if x2 < 0 then (some 0) else (if x3 < 0 then (some 0) else ((rI S 0 28 x1).bind fun v1 => if v1 < x3 then (some 0) else ((rI S 0 28 x1).bind fun v2 => if (v2 - x3) < x2 then (some 0) else (some 1))))
set_option maxRecDepth 100000 in
set_option maxHeartbeats 4000000 in
theorem k_X3_hasItems (l : Launch) (G : GT) (S : ST) (x1 : Int32) (x2 : Int32) (x3 : Int32) (r : Int32) (hf : f_X3_hasItems S x1 x2 x3 = some r) : MI l yX3_hasItems cX3_hasItems 4 (some .boolean) 1 [.ref (ad G 25), .int x1, .int x2, .int x3] G S r S := by
  rw [f_X3_hasItems] at hf
  refine mkZ (own := RX3) (by decide +kernel) rfl (Nat.le_of_ble_eq_true rfl) (fun p e s m args below meth c Q ls hC hP hS hl hQ => ?_)
  have hl : lv_has ls 4 [(0, .ref (ad G 25)), (1, .int x1), (2, .int x2), (3, .int x3)] := hl
  obtain ⟨hx, hb, hml, hown, hts⟩ := id hC.1
  refine lv_iload_n hx hb dX3_hasItems_0 rfl (lv_at hl 2 rfl) ?_
  refine lv_if_lt (tgt := 34) hx hb dX3_hasItems_1 (by decide) (fun hc => ?_) (fun hc => ?_)
  · rw [if_pos hc] at hf
    refine lv_iconst (v := 0) hx hb dX3_hasItems_34 (by decide) ?_
    exact retZ hQ rfl hf hP hS dX3_hasItems_35
  · rw [if_neg hc] at hf
    refine lv_iload_n hx hb dX3_hasItems_4 rfl (lv_at hl 3 rfl) ?_
    refine lv_if_lt (tgt := 34) hx hb dX3_hasItems_5 (by decide) (fun hc => ?_) (fun hc => ?_)
    · rw [if_pos hc] at hf
      refine lv_iconst (v := 0) hx hb dX3_hasItems_34 (by decide) ?_
      exact retZ hQ rfl hf hP hS dX3_hasItems_35
    · rw [if_neg hc] at hf
      refine lv_iload_n hx hb dX3_hasItems_8 rfl (lv_at hl 3 rfl) ?_
      refine lv_aload_n hx hb dX3_hasItems_9 rfl (lv_at hl 0 rfl) ?_
      refine gFr hC hP (j := 2) sg_25 vc_3 iT3 (by decide) rfl tb_1_204 dX3_hasItems_10 ?_
      refine lv_iload_n hx hb dX3_hasItems_13 rfl (lv_at hl 1 rfl) ?_
      obtain ⟨v1, hv, hf⟩ := ob_some hf
      refine gIa hC hP hv dX3_hasItems_14 ?_
      refine lv_icmp_gt (tgt := 34) hx hb dX3_hasItems_15 (by decide) (fun hc => ?_) (fun hc => ?_)
      · rw [if_pos hc] at hf
        refine lv_iconst (v := 0) hx hb dX3_hasItems_34 (by decide) ?_
        exact retZ hQ rfl hf hP hS dX3_hasItems_35
      · rw [if_neg hc] at hf
        refine lv_iload_n hx hb dX3_hasItems_18 rfl (lv_at hl 2 rfl) ?_
        refine lv_aload_n hx hb dX3_hasItems_19 rfl (lv_at hl 0 rfl) ?_
        refine gFr hC hP (j := 2) sg_25 vc_3 iT3 (by decide) rfl tb_1_204 dX3_hasItems_20 ?_
        refine lv_iload_n hx hb dX3_hasItems_23 rfl (lv_at hl 1 rfl) ?_
        obtain ⟨v2, hv, hf⟩ := ob_some hf
        refine gIa hC hP hv dX3_hasItems_24 ?_
        refine lv_iload_n hx hb dX3_hasItems_25 rfl (lv_at hl 3 rfl) ?_
        refine lv_isub hx hb dX3_hasItems_26 ?_
        refine lv_icmp_gt (tgt := 34) hx hb dX3_hasItems_27 (by decide) (fun hc => ?_) (fun hc => ?_)
        · rw [if_pos hc] at hf
          refine lv_iconst (v := 0) hx hb dX3_hasItems_34 (by decide) ?_
          exact retZ hQ rfl hf hP hS dX3_hasItems_35
        · rw [if_neg hc] at hf
          refine lv_iconst (v := 1) hx hb dX3_hasItems_30 (by decide) ?_
          refine lv_goto (tgt := 35) hx hb dX3_hasItems_31 (by decide) ?_
          exact retZ hQ rfl hf hP hS dX3_hasItems_35
def f_X3_refusal (S : ST) (x1 : Int32) (x2 : Int32) (x3 : Int32) (x4 : Int32) : Option Int32 := (f_X3_isSheet x1).bind fun v1 => if v1 = 0 then (some (-1)) else ((f_X3_isLane x2).bind fun v2 => if v2 = 0 then (some (-1)) else ((f_X3_isNothing S x1).bind fun v3 => if v3 = 0 then ((rI S 0 27 x1).bind fun v4 => if v4 = x2 then ((f_X3_hasItems S x1 x3 x4).bind fun v5 => if v5 = 0 then (some (-13)) else (some 0)) else (some (-12))) else (some (-11))))
set_option maxRecDepth 100000 in
set_option maxHeartbeats 4000000 in
theorem k_X3_refusal (l : Launch) (G : GT) (S : ST) (x1 : Int32) (x2 : Int32) (x3 : Int32) (x4 : Int32) (r : Int32) (hf : f_X3_refusal S x1 x2 x3 x4 = some r) : MI l yX3_refusal cX3_refusal 5 (some .int) 3 [.ref (ad G 25), .int x1, .int x2, .int x3, .int x4] G S r S := by
  rw [f_X3_refusal] at hf
  refine mkI (own := RX3) (by decide +kernel) rfl rfl (Nat.le_of_ble_eq_true rfl) (fun p e s m args below meth c Q ls hC hP hS hl hQ => ?_)
  have hl : lv_has ls 5 [(0, .ref (ad G 25)), (1, .int x1), (2, .int x2), (3, .int x3), (4, .int x4)] := hl
  obtain ⟨hx, hb, hml, hown, hts⟩ := id hC.1
  refine lv_iload_n hx hb dX3_refusal_0 rfl (lv_at hl 1 rfl) ?_
  obtain ⟨v1, hv, hf⟩ := ob_some hf
  refine cI hS (runS hC hP hS (As := [.int x1]) (rest := []) (k_X3_isSheet l G S x1 _ hv) vy_X3_isSheet tb_4_4 tb_4_5 ⟨Nat.le_of_ble_eq_true rfl, Nat.le_of_ble_eq_true rfl⟩ rfl hl.1 rfl (Nat.le_of_ble_eq_true rfl) dX3_refusal_1) (fun H locs hP hS => ?_)
  refine lv_if_eq (tgt := 14) hx hb dX3_refusal_4 (by decide) (fun hc => ?_) (fun hc => ?_)
  · rw [if_pos hc] at hf
    refine lv_iconst (v := (-1)) hx hb dX3_refusal_14 (by decide) ?_
    exact retI hQ hf hP hS dX3_refusal_15
  · rw [if_neg hc] at hf
    refine lv_iload_n hx hb dX3_refusal_7 rfl (lv_at hl 2 rfl) ?_
    obtain ⟨v2, hv, hf⟩ := ob_some hf
    refine cI hS (runS hC hP hS (As := [.int x2]) (rest := []) (k_X3_isLane l G S x2 _ hv) vy_X3_isLane tb_4_8 tb_4_9 ⟨Nat.le_of_ble_eq_true rfl, Nat.le_of_ble_eq_true rfl⟩ rfl hl.1 rfl (Nat.le_of_ble_eq_true rfl) dX3_refusal_8) (fun H locs hP hS => ?_)
    refine lv_if_ne (tgt := 16) hx hb dX3_refusal_11 (by decide) (fun hc => ?_) (fun hc => ?_)
    · rw [if_neg hc] at hf
      refine lv_aload_n hx hb dX3_refusal_16 rfl (lv_at hl 0 rfl) ?_
      refine lv_iload_n hx hb dX3_refusal_17 rfl (lv_at hl 1 rfl) ?_
      obtain ⟨v3, hv, hf⟩ := ob_some hf
      refine cI hS (runV hC hP hS (As := [.int x1]) (rest := []) (k_X3_isNothing l G S x1 _ hv) vy_X3_isNothing sg_25 vc_3 tb_4_11 tb_4_13 ts_24 ⟨Nat.le_of_ble_eq_true rfl, Nat.le_of_ble_eq_true rfl⟩ rfl hl.1 rfl (Nat.le_of_ble_eq_true rfl) dX3_refusal_18) (fun H locs hP hS => ?_)
      refine lv_if_eq (tgt := 27) hx hb dX3_refusal_21 (by decide) (fun hc => ?_) (fun hc => ?_)
      · rw [if_pos hc] at hf
        refine lv_aload_n hx hb dX3_refusal_27 rfl (lv_at hl 0 rfl) ?_
        refine gFr hC hP (j := 1) sg_25 vc_3 iT3 (by decide) rfl tb_1_203 dX3_refusal_28 ?_
        refine lv_iload_n hx hb dX3_refusal_31 rfl (lv_at hl 1 rfl) ?_
        obtain ⟨v4, hv, hf⟩ := ob_some hf
        refine gIa hC hP hv dX3_refusal_32 ?_
        refine lv_iload_n hx hb dX3_refusal_33 rfl (lv_at hl 2 rfl) ?_
        refine lv_icmp_eq (tgt := 40) hx hb dX3_refusal_34 (by decide) (fun hc => ?_) (fun hc => ?_)
        · rw [if_pos hc] at hf
          refine lv_aload_n hx hb dX3_refusal_40 rfl (lv_at hl 0 rfl) ?_
          refine lv_iload_n hx hb dX3_refusal_41 rfl (lv_at hl 1 rfl) ?_
          refine lv_iload_n hx hb dX3_refusal_42 rfl (lv_at hl 3 rfl) ?_
          refine lv_iload hx hb dX3_refusal_43 (lv_at hl 4 rfl) ?_
          obtain ⟨v5, hv, hf⟩ := ob_some hf
          refine cI hS (runV hC hP hS (As := [.int x1, .int x3, .int x4]) (rest := []) (k_X3_hasItems l G S x1 x3 x4 _ hv) vy_X3_hasItems sg_25 vc_3 tb_4_15 tb_4_17 ts_25 ⟨Nat.le_of_ble_eq_true rfl, Nat.le_of_ble_eq_true rfl⟩ rfl hl.1 rfl (Nat.le_of_ble_eq_true rfl) dX3_refusal_45) (fun H locs hP hS => ?_)
          refine lv_if_eq (tgt := 55) hx hb dX3_refusal_48 (by decide) (fun hc => ?_) (fun hc => ?_)
          · rw [if_pos hc] at hf
            refine lv_bipush (v := (-13)) hx hb dX3_refusal_55 (by decide) ?_
            exact retI hQ hf hP hS dX3_refusal_57
          · rw [if_neg hc] at hf
            refine lv_iconst (v := 0) hx hb dX3_refusal_51 (by decide) ?_
            refine lv_goto (tgt := 57) hx hb dX3_refusal_52 (by decide) ?_
            exact retI hQ hf hP hS dX3_refusal_57
        · rw [if_neg hc] at hf
          refine lv_bipush (v := (-12)) hx hb dX3_refusal_37 (by decide) ?_
          exact retI hQ hf hP hS dX3_refusal_39
      · rw [if_neg hc] at hf
        refine lv_bipush (v := (-11)) hx hb dX3_refusal_24 (by decide) ?_
        exact retI hQ hf hP hS dX3_refusal_26
    · rw [if_pos hc] at hf
      refine lv_iconst (v := (-1)) hx hb dX3_refusal_14 (by decide) ?_
      exact retI hQ hf hP hS dX3_refusal_15
def f_X3_get (S : ST) (x1 : Int32) (x2 : Int32) : Option Int32 := (rA 5 26 x1).bind fun v1 => (rI S 0 v1 x2).bind fun v2 => some v2
set_option maxRecDepth 100000 in
set_option maxHeartbeats 4000000 in
theorem k_X3_get (l : Launch) (G : GT) (S : ST) (x1 : Int32) (x2 : Int32) (r : Int32) (hf : f_X3_get S x1 x2 = some r) : MI l yX3_get cX3_get 3 (some .int) 1 [.ref (ad G 25), .int x1, .int x2] G S r S := by
  rw [f_X3_get] at hf
  refine mkI (own := RX3) (by decide +kernel) rfl rfl (Nat.le_of_ble_eq_true rfl) (fun p e s m args below meth c Q ls hC hP hS hl hQ => ?_)
  have hl : lv_has ls 3 [(0, .ref (ad G 25)), (1, .int x1), (2, .int x2)] := hl
  obtain ⟨hx, hb, hml, hown, hts⟩ := id hC.1
  refine lv_aload_n hx hb dX3_get_0 rfl (lv_at hl 0 rfl) ?_
  refine gFr hC hP (j := 0) sg_25 vc_3 iT3 (by decide) rfl tb_1_202 dX3_get_1 ?_
  refine lv_iload_n hx hb dX3_get_4 rfl (lv_at hl 1 rfl) ?_
  obtain ⟨v1, hv, hf⟩ := ob_some hf
  refine gAa5 hC hP hv dX3_get_5 ?_
  refine lv_iload_n hx hb dX3_get_6 rfl (lv_at hl 2 rfl) ?_
  obtain ⟨v2, hv, hf⟩ := ob_some hf
  refine gIa hC hP hv dX3_get_7 ?_
  exact retI hQ hf hP hS dX3_get_8
def f_X7_isLate_3 (S : ST)  : Nat → Int32 → Int32 → Int32 → Int32 → Int32 → Option Int32
  | 0, _, _, _, _, _ => none
  | n + 1, x1, x2, x3, x4, x5 => if x4 ≤ x5 then (some 1) else ((f_X3_get S x2 (x3 + (2 * x5))).bind fun v1 => (f_X1_tideBy S x1 v1).bind fun v2 => (f_X3_get S x2 ((x3 + (2 * x5)) + 1)).bind fun v3 => if v2 = v3 then (f_X7_isLate_3 S n x1 x2 x3 x4 (x5 + 1)) else (some 0))
set_option maxRecDepth 100000 in
set_option maxHeartbeats 4000000 in
theorem w_X7_isLate_3 {r : Int32} {S : ST} (hC : Cx p m c s args cX7_isLate 7 RX7 G) (hQ : KZ p l e (rmH 3) s m args below meth c Q cX7_isLate G r S) : ∀ (n : Nat) (x1 : Int32) (x2 : Int32) (x3 : Int32) (x4 : Int32) (x5 : Int32) (H : Heap) (locs : List Loc) (ls : Array Slot), va_P (gD G) vwCl (cells G S) H → va_S (gA G) s.heap H locs → lv_has ls 7 [(0, .ref (ad G 0)), (1, .int x1), (2, .int x2), (3, .int x3), (4, .int x4), (5, .int x5)] → f_X7_isLate_3 S n x1 x2 x3 x4 x5 = some r → W p l e (rmH 3) s m args below meth c H locs 0 0 Q (F0 m 3 ls []) := by
  obtain ⟨hx, hb, hml, hown, hts⟩ := id hC.1
  intro n
  induction n with
  | zero => intro x1 x2 x3 x4 x5 H locs ls hP hS hl hf; rw [f_X7_isLate_3] at hf; cases hf
  | succ n ih =>
    intro x1 x2 x3 x4 x5 H locs ls hP hS hl hf
    rw [f_X7_isLate_3] at hf
    refine lv_iload hx hb dX7_isLate_3 (lv_at hl 5 rfl) ?_
    refine lv_iload hx hb dX7_isLate_5 (lv_at hl 4 rfl) ?_
    refine lv_icmp_ge (tgt := 59) hx hb dX7_isLate_7 (by decide) (fun hc => ?_) (fun hc => ?_)
    · rw [if_pos hc] at hf
      refine lv_iconst (v := 1) hx hb dX7_isLate_59 (by decide) ?_
      exact retZ hQ rfl hf hP hS dX7_isLate_60
    · rw [if_neg hc] at hf
      refine lv_iload_n hx hb dX7_isLate_10 rfl (lv_at hl 3 rfl) ?_
      refine lv_iconst (v := 2) hx hb dX7_isLate_11 (by decide) ?_
      refine lv_iload hx hb dX7_isLate_12 (lv_at hl 5 rfl) ?_
      refine lv_imul hx hb dX7_isLate_14 ?_
      refine lv_iadd hx hb dX7_isLate_15 ?_
      refine lv_istore (lv' := [(6, .int (x3 + (2 * x5))), (0, .ref (ad G 0)), (1, .int x1), (2, .int x2), (3, .int x3), (4, .int x4), (5, .int x5)]) hx hb dX7_isLate_16 hl (by decide) rfl (fun ls hl => ?_)
      refine lv_aload_n hx hb dX7_isLate_18 rfl (lv_at hl 1 rfl) ?_
      refine gFr hC hP (j := 0) sg_0 vc_7 iT7 (by decide) rfl tb_1_212 dX7_isLate_19 ?_
      refine lv_iload_n hx hb dX7_isLate_22 rfl (lv_at hl 2 rfl) ?_
      refine lv_aload_n hx hb dX7_isLate_23 rfl (lv_at hl 1 rfl) ?_
      refine gFr hC hP (j := 7) sg_0 vc_7 iT7 (by decide) rfl tb_1_219 dX7_isLate_24 ?_
      refine lv_iload_n hx hb dX7_isLate_27 rfl (lv_at hl 3 rfl) ?_
      refine lv_iload hx hb dX7_isLate_28 (lv_at hl 0 rfl) ?_
      obtain ⟨v1, hv, hf⟩ := ob_some hf
      refine cI hS (runV hC hP hS (As := [.int x2, .int (x3 + (2 * x5))]) (rest := [.int x1, .ref (ad G 1)]) (k_X3_get l G S x2 (x3 + (2 * x5)) _ hv) vy_X3_get sg_25 vc_3 tb_4_19 tb_4_20 tb_4_21 ⟨Nat.le_of_ble_eq_true rfl, Nat.le_of_ble_eq_true rfl⟩ rfl hl.1 rfl (Nat.le_of_ble_eq_true rfl) dX7_isLate_30) (fun H locs hP hS => ?_)
      obtain ⟨v2, hv, hf⟩ := ob_some hf
      refine cI hS (runV hC hP hS (As := [.int x1, .int v1]) (rest := []) (k_X1_tideBy l G S x1 v1 _ hv) vy_X1_tideBy sg_1 vc_1 tb_4_31 tb_2_171 tb_2_172 ⟨Nat.le_of_ble_eq_true rfl, Nat.le_of_ble_eq_true rfl⟩ rfl hl.1 rfl (Nat.le_of_ble_eq_true rfl) dX7_isLate_33) (fun H locs hP hS => ?_)
      refine lv_aload_n hx hb dX7_isLate_36 rfl (lv_at hl 1 rfl) ?_
      refine gFr hC hP (j := 7) sg_0 vc_7 iT7 (by decide) rfl tb_1_219 dX7_isLate_37 ?_
      refine lv_iload_n hx hb dX7_isLate_40 rfl (lv_at hl 3 rfl) ?_
      refine lv_iload hx hb dX7_isLate_41 (lv_at hl 0 rfl) ?_
      refine lv_iconst (v := 1) hx hb dX7_isLate_43 (by decide) ?_
      refine lv_iadd hx hb dX7_isLate_44 ?_
      obtain ⟨v3, hv, hf⟩ := ob_some hf
      refine cI hS (runV hC hP hS (As := [.int x2, .int ((x3 + (2 * x5)) + 1)]) (rest := [.int v2]) (k_X3_get l G S x2 ((x3 + (2 * x5)) + 1) _ hv) vy_X3_get sg_25 vc_3 tb_4_19 tb_4_20 tb_4_21 ⟨Nat.le_of_ble_eq_true rfl, Nat.le_of_ble_eq_true rfl⟩ rfl hl.1 rfl (Nat.le_of_ble_eq_true rfl) dX7_isLate_45) (fun H locs hP hS => ?_)
      refine lv_icmp_eq (tgt := 53) hx hb dX7_isLate_48 (by decide) (fun hc => ?_) (fun hc => ?_)
      · rw [if_pos hc] at hf
        refine lv_iinc (v := x5 + 1) (lv' := [(5, .int (x5 + 1)), (6, .int (x3 + (2 * x5))), (0, .ref (ad G 0)), (1, .int x1), (2, .int x2), (3, .int x3), (4, .int x4)]) hx hb dX7_isLate_53 hl (k := 6) rfl rfl (by decide) rfl (fun ls hl => ?_)
        refine lv_goto (tgt := 3) hx hb dX7_isLate_56 (by decide) ?_
        exact ih _ _ _ _ _ _ _ _ hP hS (lv_sub hl [2, 3, 4, 5, 6, 0] rfl) hf
      · rw [if_neg hc] at hf
        refine lv_iconst (v := 0) hx hb dX7_isLate_51 (by decide) ?_
        exact retZ hQ rfl hf hP hS dX7_isLate_52
def f_X7_isLate (S : ST) (x1 : Int32) (x2 : Int32) (x3 : Int32) (x4 : Int32) : Option Int32 := f_X7_isLate_3 S FU x1 x2 x3 x4 0
set_option maxRecDepth 100000 in
set_option maxHeartbeats 4000000 in
theorem k_X7_isLate (l : Launch) (G : GT) (S : ST) (x1 : Int32) (x2 : Int32) (x3 : Int32) (x4 : Int32) (r : Int32) (hf : f_X7_isLate S x1 x2 x3 x4 = some r) : MI l yX7_isLate cX7_isLate 7 (some .boolean) 3 [.ref (ad G 0), .int x1, .int x2, .int x3, .int x4] G S r S := by
  rw [f_X7_isLate] at hf
  refine mkZ (own := RX7) (by decide +kernel) rfl (Nat.le_of_ble_eq_true rfl) (fun p e s m args below meth c Q ls hC hP hS hl hQ => ?_)
  have hl : lv_has ls 7 [(0, .ref (ad G 0)), (1, .int x1), (2, .int x2), (3, .int x3), (4, .int x4)] := hl
  obtain ⟨hx, hb, hml, hown, hts⟩ := id hC.1
  refine lv_iconst (v := 0) hx hb dX7_isLate_0 (by decide) ?_
  refine lv_istore (lv' := [(5, .int 0), (0, .ref (ad G 0)), (1, .int x1), (2, .int x2), (3, .int x3), (4, .int x4)]) hx hb dX7_isLate_1 hl (by decide) rfl (fun ls hl => ?_)
  exact w_X7_isLate_3 hC hQ _ _ _ _ _ _ _ _ _ hP hS (lv_sub hl [1, 2, 3, 4, 5, 0] rfl) hf
def f_X7_latesBy_59 (S : ST)  (k14 : Int32 → Int32 → Int32 → Int32 → Int32 → Int32 → Int32 → Int32 → Option Int32) (x1 : Int32) (x2 : Int32) (x3 : Int32) (x4 : Int32) (x5 : Int32) (x6 : Int32) (x7 : Int32) (x8 : Int32) : Option Int32 := k14 x1 x2 x3 x4 x5 x6 x7 (x8 + 1)
set_option maxRecDepth 100000 in
set_option maxHeartbeats 4000000 in
theorem w_X7_latesBy_59 {r : Int32} {S : ST} (hC : Cx p m c s args cX7_latesBy 9 RX7 G) (hQ : KI p l e (rmH 4) s m args below meth c Q cX7_latesBy G r S) {k14 : Int32 → Int32 → Int32 → Int32 → Int32 → Int32 → Int32 → Int32 → Option Int32} (hk14 : ∀ (x1 : Int32) (x2 : Int32) (x3 : Int32) (x4 : Int32) (x5 : Int32) (x6 : Int32) (x7 : Int32) (x8 : Int32) (H : Heap) (locs : List Loc) (ls : Array Slot), va_P (gD G) vwCl (cells G S) H → va_S (gA G) s.heap H locs → lv_has ls 9 [(0, .ref (ad G 0)), (1, .int x1), (2, .int x2), (3, .int x3), (4, .int x4), (5, .int x5), (6, .int x6), (7, .int x7), (8, .int x8)] → k14 x1 x2 x3 x4 x5 x6 x7 x8 = some r → W p l e (rmH 4) s m args below meth c H locs 0 0 Q (F0 m 14 ls [])) (x1 : Int32) (x2 : Int32) (x3 : Int32) (x4 : Int32) (x5 : Int32) (x6 : Int32) (x7 : Int32) (x8 : Int32) (H : Heap) (locs : List Loc) (ls : Array Slot) (hP : va_P (gD G) vwCl (cells G S) H) (hS : va_S (gA G) s.heap H locs) (hl : lv_has ls 9 [(0, .ref (ad G 0)), (1, .int x1), (2, .int x2), (3, .int x3), (4, .int x4), (5, .int x5), (6, .int x6), (7, .int x7), (8, .int x8)]) (hf : f_X7_latesBy_59 S k14 x1 x2 x3 x4 x5 x6 x7 x8 = some r) : W p l e (rmH 4) s m args below meth c H locs 0 0 Q (F0 m 59 ls []) := by
  obtain ⟨hx, hb, hml, hown, hts⟩ := id hC.1
  rw [f_X7_latesBy_59] at hf
  refine lv_iinc (v := x8 + 1) (lv' := [(8, .int (x8 + 1)), (0, .ref (ad G 0)), (1, .int x1), (2, .int x2), (3, .int x3), (4, .int x4), (5, .int x5), (6, .int x6), (7, .int x7)]) hx hb dX7_latesBy_59 hl (k := 8) rfl rfl (by decide) rfl (fun ls hl => ?_)
  refine lv_goto (tgt := 14) hx hb dX7_latesBy_62 (by decide) ?_
  exact hk14 _ _ _ _ _ _ _ _ _ _ _ hP hS (lv_sub hl [1, 2, 3, 4, 5, 6, 7, 8, 0] rfl) hf
def f_X7_latesBy_53 (S : ST)  (k14 : Int32 → Int32 → Int32 → Int32 → Int32 → Int32 → Int32 → Int32 → Option Int32) (x1 : Int32) (x2 : Int32) (x3 : Int32) (x4 : Int32) (x5 : Int32) (x8 : Int32) (y0 : Int32) : Option Int32 := f_X7_latesBy_59 S k14 x1 x2 x3 x4 x5 y0 x8 x8
set_option maxRecDepth 100000 in
set_option maxHeartbeats 4000000 in
theorem w_X7_latesBy_53 {r : Int32} {S : ST} (hC : Cx p m c s args cX7_latesBy 9 RX7 G) (hQ : KI p l e (rmH 4) s m args below meth c Q cX7_latesBy G r S) {k14 : Int32 → Int32 → Int32 → Int32 → Int32 → Int32 → Int32 → Int32 → Option Int32} (hk14 : ∀ (x1 : Int32) (x2 : Int32) (x3 : Int32) (x4 : Int32) (x5 : Int32) (x6 : Int32) (x7 : Int32) (x8 : Int32) (H : Heap) (locs : List Loc) (ls : Array Slot), va_P (gD G) vwCl (cells G S) H → va_S (gA G) s.heap H locs → lv_has ls 9 [(0, .ref (ad G 0)), (1, .int x1), (2, .int x2), (3, .int x3), (4, .int x4), (5, .int x5), (6, .int x6), (7, .int x7), (8, .int x8)] → k14 x1 x2 x3 x4 x5 x6 x7 x8 = some r → W p l e (rmH 4) s m args below meth c H locs 0 0 Q (F0 m 14 ls [])) (x1 : Int32) (x2 : Int32) (x3 : Int32) (x4 : Int32) (x5 : Int32) (x8 : Int32) (y0 : Int32) (H : Heap) (locs : List Loc) (ls : Array Slot) (hP : va_P (gD G) vwCl (cells G S) H) (hS : va_S (gA G) s.heap H locs) (hl : lv_has ls 9 [(0, .ref (ad G 0)), (1, .int x1), (2, .int x2), (3, .int x3), (4, .int x4), (5, .int x5), (8, .int x8)]) (hf : f_X7_latesBy_53 S k14 x1 x2 x3 x4 x5 x8 y0 = some r) : W p l e (rmH 4) s m args below meth c H locs 0 0 Q (F0 m 53 ls [.int y0]) := by
  obtain ⟨hx, hb, hml, hown, hts⟩ := id hC.1
  rw [f_X7_latesBy_53] at hf
  refine lv_istore (lv' := [(6, .int y0), (0, .ref (ad G 0)), (1, .int x1), (2, .int x2), (3, .int x3), (4, .int x4), (5, .int x5), (8, .int x8)]) hx hb dX7_latesBy_53 hl (by decide) rfl (fun ls hl => ?_)
  refine lv_iload hx hb dX7_latesBy_55 (lv_at hl 7 rfl) ?_
  refine lv_istore (lv' := [(7, .int x8), (6, .int y0), (0, .ref (ad G 0)), (1, .int x1), (2, .int x2), (3, .int x3), (4, .int x4), (5, .int x5), (8, .int x8)]) hx hb dX7_latesBy_57 hl (by decide) rfl (fun ls hl => ?_)
  exact w_X7_latesBy_59 hC hQ hk14  _ _ _ _ _ _ _ _ _ _ _ hP hS (lv_sub hl [2, 3, 4, 5, 6, 7, 1, 0, 8] rfl) hf
def f_X7_latesBy_14 (S : ST)  : Nat → Int32 → Int32 → Int32 → Int32 → Int32 → Int32 → Int32 → Int32 → Option Int32
  | 0, _, _, _, _, _, _, _, _ => none
  | n + 1, x1, x2, x3, x4, x5, x6, x7, x8 => (rS 4 0).bind fun v1 => if v1 < x8 then (if x4 = 0 then (some x5) else (if x4 = 1 then (some x6) else (some x7))) else ((f_X7_isLate S x8 x1 x2 x3).bind fun v2 => if v2 = 0 then (f_X7_latesBy_59 S (f_X7_latesBy_14 S n) x1 x2 x3 x4 x5 x6 x7 x8) else (if x6 = (-4) then (f_X7_latesBy_53 S (f_X7_latesBy_14 S n) x1 x2 x3 x4 (x5 + 1) x8 x8) else (f_X7_latesBy_53 S (f_X7_latesBy_14 S n) x1 x2 x3 x4 (x5 + 1) x8 x6)))
set_option maxRecDepth 100000 in
set_option maxHeartbeats 4000000 in
theorem w_X7_latesBy_14 {r : Int32} {S : ST} (hC : Cx p m c s args cX7_latesBy 9 RX7 G) (hQ : KI p l e (rmH 4) s m args below meth c Q cX7_latesBy G r S) : ∀ (n : Nat) (x1 : Int32) (x2 : Int32) (x3 : Int32) (x4 : Int32) (x5 : Int32) (x6 : Int32) (x7 : Int32) (x8 : Int32) (H : Heap) (locs : List Loc) (ls : Array Slot), va_P (gD G) vwCl (cells G S) H → va_S (gA G) s.heap H locs → lv_has ls 9 [(0, .ref (ad G 0)), (1, .int x1), (2, .int x2), (3, .int x3), (4, .int x4), (5, .int x5), (6, .int x6), (7, .int x7), (8, .int x8)] → f_X7_latesBy_14 S n x1 x2 x3 x4 x5 x6 x7 x8 = some r → W p l e (rmH 4) s m args below meth c H locs 0 0 Q (F0 m 14 ls []) := by
  obtain ⟨hx, hb, hml, hown, hts⟩ := id hC.1
  intro n
  induction n with
  | zero => intro x1 x2 x3 x4 x5 x6 x7 x8 H locs ls hP hS hl hf; rw [f_X7_latesBy_14] at hf; cases hf
  | succ n ih =>
    intro x1 x2 x3 x4 x5 x6 x7 x8 H locs ls hP hS hl hf
    rw [f_X7_latesBy_14] at hf
    refine lv_iload hx hb dX7_latesBy_14 (lv_at hl 8 rfl) ?_
    refine gSt hC hS (j := 4) (by decide) tb_2_51 dX7_latesBy_16 ?_
    refine lv_iconst (v := 0) hx hb dX7_latesBy_19 (by decide) ?_
    obtain ⟨v1, hv, hf⟩ := ob_some hf
    refine gSi hC hS (by decide) hv dX7_latesBy_20 ?_
    refine lv_icmp_gt (tgt := 65) hx hb dX7_latesBy_21 (by decide) (fun hc => ?_) (fun hc => ?_)
    · rw [if_pos hc] at hf
      refine lv_iload hx hb dX7_latesBy_65 (lv_at hl 4 rfl) ?_
      refine lv_if_ne (tgt := 75) hx hb dX7_latesBy_67 (by decide) (fun hc => ?_) (fun hc => ?_)
      · rw [if_neg hc] at hf
        refine lv_iload hx hb dX7_latesBy_75 (lv_at hl 4 rfl) ?_
        refine lv_iconst (v := 1) hx hb dX7_latesBy_77 (by decide) ?_
        refine lv_icmp_ne (tgt := 86) hx hb dX7_latesBy_78 (by decide) (fun hc => ?_) (fun hc => ?_)
        · rw [if_neg hc] at hf
          refine lv_iload hx hb dX7_latesBy_86 (lv_at hl 7 rfl) ?_
          exact retI hQ hf hP hS dX7_latesBy_88
        · rw [if_pos hc] at hf
          refine lv_iload hx hb dX7_latesBy_81 (lv_at hl 6 rfl) ?_
          refine lv_goto (tgt := 88) hx hb dX7_latesBy_83 (by decide) ?_
          exact retI hQ hf hP hS dX7_latesBy_88
      · rw [if_pos hc] at hf
        refine lv_iload hx hb dX7_latesBy_70 (lv_at hl 5 rfl) ?_
        refine lv_goto (tgt := 88) hx hb dX7_latesBy_72 (by decide) ?_
        exact retI hQ hf hP hS dX7_latesBy_88
    · rw [if_neg hc] at hf
      refine lv_aload_n hx hb dX7_latesBy_24 rfl (lv_at hl 0 rfl) ?_
      refine lv_iload hx hb dX7_latesBy_25 (lv_at hl 8 rfl) ?_
      refine lv_iload_n hx hb dX7_latesBy_27 rfl (lv_at hl 1 rfl) ?_
      refine lv_iload_n hx hb dX7_latesBy_28 rfl (lv_at hl 2 rfl) ?_
      refine lv_iload_n hx hb dX7_latesBy_29 rfl (lv_at hl 3 rfl) ?_
      obtain ⟨v2, hv, hf⟩ := ob_some hf
      refine cI hS (runV hC hP hS (As := [.int x8, .int x1, .int x2, .int x3]) (rest := []) (k_X7_isLate l G S x8 x1 x2 x3 _ hv) vy_X7_isLate sg_0 vc_7 tb_4_27 tb_4_29 ts_27 ⟨Nat.le_of_ble_eq_true rfl, Nat.le_of_ble_eq_true rfl⟩ rfl hl.1 rfl (Nat.le_of_ble_eq_true rfl) dX7_latesBy_30) (fun H locs hP hS => ?_)
      refine lv_if_eq (tgt := 59) hx hb dX7_latesBy_33 (by decide) (fun hc => ?_) (fun hc => ?_)
      · rw [if_pos hc] at hf
        exact w_X7_latesBy_59 hC hQ ih  _ _ _ _ _ _ _ _ _ _ _ hP hS (lv_sub hl [0, 1, 2, 3, 4, 5, 6, 7, 8] rfl) hf
      · rw [if_neg hc] at hf
        refine lv_iinc (v := x5 + 1) (lv' := [(5, .int (x5 + 1)), (0, .ref (ad G 0)), (1, .int x1), (2, .int x2), (3, .int x3), (4, .int x4), (6, .int x6), (7, .int x7), (8, .int x8)]) hx hb dX7_latesBy_36 hl (k := 5) rfl rfl (by decide) rfl (fun ls hl => ?_)
        refine lv_iload hx hb dX7_latesBy_39 (lv_at hl 6 rfl) ?_
        refine lv_bipush (v := (-4)) hx hb dX7_latesBy_41 (by decide) ?_
        refine lv_icmp_ne (tgt := 51) hx hb dX7_latesBy_43 (by decide) (fun hc => ?_) (fun hc => ?_)
        · rw [if_neg hc] at hf
          refine lv_iload hx hb dX7_latesBy_51 (lv_at hl 6 rfl) ?_
          exact w_X7_latesBy_53 hC hQ ih  _ _ _ _ _ _ _ _ _ _ hP hS (lv_sub hl [1, 2, 3, 4, 5, 0, 8] rfl) hf
        · rw [if_pos hc] at hf
          refine lv_iload hx hb dX7_latesBy_46 (lv_at hl 8 rfl) ?_
          refine lv_goto (tgt := 53) hx hb dX7_latesBy_48 (by decide) ?_
          exact w_X7_latesBy_53 hC hQ ih  _ _ _ _ _ _ _ _ _ _ hP hS (lv_sub hl [1, 2, 3, 4, 5, 0, 8] rfl) hf
def f_X7_latesBy (S : ST) (x1 : Int32) (x2 : Int32) (x3 : Int32) (x4 : Int32) : Option Int32 := f_X7_latesBy_14 S FU x1 x2 x3 x4 0 (-4) (-4) 0
set_option maxRecDepth 100000 in
set_option maxHeartbeats 4000000 in
theorem k_X7_latesBy (l : Launch) (G : GT) (S : ST) (x1 : Int32) (x2 : Int32) (x3 : Int32) (x4 : Int32) (r : Int32) (hf : f_X7_latesBy S x1 x2 x3 x4 = some r) : MI l yX7_latesBy cX7_latesBy 9 (some .int) 4 [.ref (ad G 0), .int x1, .int x2, .int x3, .int x4] G S r S := by
  rw [f_X7_latesBy] at hf
  refine mkI (own := RX7) (by decide +kernel) rfl rfl (Nat.le_of_ble_eq_true rfl) (fun p e s m args below meth c Q ls hC hP hS hl hQ => ?_)
  have hl : lv_has ls 9 [(0, .ref (ad G 0)), (1, .int x1), (2, .int x2), (3, .int x3), (4, .int x4)] := hl
  obtain ⟨hx, hb, hml, hown, hts⟩ := id hC.1
  refine lv_iconst (v := 0) hx hb dX7_latesBy_0 (by decide) ?_
  refine lv_istore (lv' := [(5, .int 0), (0, .ref (ad G 0)), (1, .int x1), (2, .int x2), (3, .int x3), (4, .int x4)]) hx hb dX7_latesBy_1 hl (by decide) rfl (fun ls hl => ?_)
  refine lv_bipush (v := (-4)) hx hb dX7_latesBy_3 (by decide) ?_
  refine lv_istore (lv' := [(6, .int (-4)), (5, .int 0), (0, .ref (ad G 0)), (1, .int x1), (2, .int x2), (3, .int x3), (4, .int x4)]) hx hb dX7_latesBy_5 hl (by decide) rfl (fun ls hl => ?_)
  refine lv_bipush (v := (-4)) hx hb dX7_latesBy_7 (by decide) ?_
  refine lv_istore (lv' := [(7, .int (-4)), (6, .int (-4)), (5, .int 0), (0, .ref (ad G 0)), (1, .int x1), (2, .int x2), (3, .int x3), (4, .int x4)]) hx hb dX7_latesBy_9 hl (by decide) rfl (fun ls hl => ?_)
  refine lv_iconst (v := 0) hx hb dX7_latesBy_11 (by decide) ?_
  refine lv_istore (lv' := [(8, .int 0), (7, .int (-4)), (6, .int (-4)), (5, .int 0), (0, .ref (ad G 0)), (1, .int x1), (2, .int x2), (3, .int x3), (4, .int x4)]) hx hb dX7_latesBy_12 hl (by decide) rfl (fun ls hl => ?_)
  exact w_X7_latesBy_14 hC hQ _ _ _ _ _ _ _ _ _ _ _ _ hP hS (lv_sub hl [4, 5, 6, 7, 8, 3, 2, 1, 0] rfl) hf
def f_X7_gauged_50 (S : ST)  : Nat → Int32 → Int32 → Int32 → Int32 → Int32 → Option Int32
  | 0, _, _, _, _, _ => none
  | n + 1, x1, x3, x4, x5, x7 => if x4 ≤ x7 then ((f_X7_latesBy S x1 x3 x4 x5).bind fun v1 => some v1) else ((f_X3_get S x1 (x3 + (2 * x7))).bind fun v2 => (f_X7_isMinute v2).bind fun v3 => if v3 = 0 then (some (-2)) else (f_X7_gauged_50 S n x1 x3 x4 x5 (x7 + 1)))
set_option maxRecDepth 100000 in
set_option maxHeartbeats 4000000 in
theorem w_X7_gauged_50 {r : Int32} {S : ST} (hC : Cx p m c s args cX7_gauged 8 RX7 G) (hQ : KI p l e (rmH 5) s m args below meth c Q cX7_gauged G r S) : ∀ (n : Nat) (x1 : Int32) (x3 : Int32) (x4 : Int32) (x5 : Int32) (x7 : Int32) (H : Heap) (locs : List Loc) (ls : Array Slot), va_P (gD G) vwCl (cells G S) H → va_S (gA G) s.heap H locs → lv_has ls 8 [(0, .ref (ad G 0)), (1, .int x1), (3, .int x3), (4, .int x4), (5, .int x5), (7, .int x7)] → f_X7_gauged_50 S n x1 x3 x4 x5 x7 = some r → W p l e (rmH 5) s m args below meth c H locs 0 0 Q (F0 m 50 ls []) := by
  obtain ⟨hx, hb, hml, hown, hts⟩ := id hC.1
  intro n
  induction n with
  | zero => intro x1 x3 x4 x5 x7 H locs ls hP hS hl hf; rw [f_X7_gauged_50] at hf; cases hf
  | succ n ih =>
    intro x1 x3 x4 x5 x7 H locs ls hP hS hl hf
    rw [f_X7_gauged_50] at hf
    refine lv_iload hx hb dX7_gauged_50 (lv_at hl 5 rfl) ?_
    refine lv_iload hx hb dX7_gauged_52 (lv_at hl 3 rfl) ?_
    refine lv_icmp_ge (tgt := 86) hx hb dX7_gauged_54 (by decide) (fun hc => ?_) (fun hc => ?_)
    · rw [if_pos hc] at hf
      refine lv_aload_n hx hb dX7_gauged_86 rfl (lv_at hl 0 rfl) ?_
      refine lv_iload_n hx hb dX7_gauged_87 rfl (lv_at hl 1 rfl) ?_
      refine lv_iload_n hx hb dX7_gauged_88 rfl (lv_at hl 2 rfl) ?_
      refine lv_iload hx hb dX7_gauged_89 (lv_at hl 3 rfl) ?_
      refine lv_iload hx hb dX7_gauged_91 (lv_at hl 4 rfl) ?_
      obtain ⟨v1, hv, hf⟩ := ob_some hf
      refine cI hS (runV hC hP hS (As := [.int x1, .int x3, .int x4, .int x5]) (rest := []) (k_X7_latesBy l G S x1 x3 x4 x5 _ hv) vy_X7_latesBy sg_0 vc_7 tb_4_23 tb_4_25 ts_26 ⟨Nat.le_of_ble_eq_true rfl, Nat.le_of_ble_eq_true rfl⟩ rfl hl.1 rfl (Nat.le_of_ble_eq_true rfl) dX7_gauged_93) (fun H locs hP hS => ?_)
      exact retI hQ hf hP hS dX7_gauged_96
    · rw [if_neg hc] at hf
      refine lv_aload_n hx hb dX7_gauged_57 rfl (lv_at hl 0 rfl) ?_
      refine gFr hC hP (j := 7) sg_0 vc_7 iT7 (by decide) rfl tb_1_219 dX7_gauged_58 ?_
      refine lv_iload_n hx hb dX7_gauged_61 rfl (lv_at hl 1 rfl) ?_
      refine lv_iload_n hx hb dX7_gauged_62 rfl (lv_at hl 2 rfl) ?_
      refine lv_iconst (v := 2) hx hb dX7_gauged_63 (by decide) ?_
      refine lv_iload hx hb dX7_gauged_64 (lv_at hl 5 rfl) ?_
      refine lv_imul hx hb dX7_gauged_66 ?_
      refine lv_iadd hx hb dX7_gauged_67 ?_
      obtain ⟨v2, hv, hf⟩ := ob_some hf
      refine cI hS (runV hC hP hS (As := [.int x1, .int (x3 + (2 * x7))]) (rest := []) (k_X3_get l G S x1 (x3 + (2 * x7)) _ hv) vy_X3_get sg_25 vc_3 tb_4_19 tb_4_20 tb_4_21 ⟨Nat.le_of_ble_eq_true rfl, Nat.le_of_ble_eq_true rfl⟩ rfl hl.1 rfl (Nat.le_of_ble_eq_true rfl) dX7_gauged_68) (fun H locs hP hS => ?_)
      obtain ⟨v3, hv, hf⟩ := ob_some hf
      refine cI hS (runS hC hP hS (As := [.int v2]) (rest := []) (k_X7_isMinute l G S v2 _ hv) vy_X7_isMinute tb_3_15 tb_3_16 ⟨Nat.le_of_ble_eq_true rfl, Nat.le_of_ble_eq_true rfl⟩ rfl hl.1 rfl (Nat.le_of_ble_eq_true rfl) dX7_gauged_71) (fun H locs hP hS => ?_)
      refine lv_if_ne (tgt := 80) hx hb dX7_gauged_74 (by decide) (fun hc => ?_) (fun hc => ?_)
      · rw [if_neg hc] at hf
        refine lv_iinc (v := x7 + 1) (lv' := [(7, .int (x7 + 1)), (0, .ref (ad G 0)), (1, .int x1), (3, .int x3), (4, .int x4), (5, .int x5)]) hx hb dX7_gauged_80 hl (k := 5) rfl rfl (by decide) rfl (fun ls hl => ?_)
        refine lv_goto (tgt := 50) hx hb dX7_gauged_83 (by decide) ?_
        exact ih _ _ _ _ _ _ _ _ hP hS (lv_sub hl [1, 2, 3, 4, 5, 0] rfl) hf
      · rw [if_pos hc] at hf
        refine lv_bipush (v := (-2)) hx hb dX7_gauged_77 (by decide) ?_
        exact retI hQ hf hP hS dX7_gauged_79
def f_X7_gauged (S : ST) (x1 : Int32) (x2 : Int32) (x3 : Int32) (x4 : Int32) (x5 : Int32) : Option Int32 := (f_X7_within x4 1 8).bind fun v1 => if v1 = 0 then (some (-1)) else ((f_X7_within x5 0 2).bind fun v2 => if v2 = 0 then (some (-1)) else ((f_X3_refusal S x1 x2 x3 (2 * x4)).bind fun v3 => if v3 = 0 then (f_X7_gauged_50 S FU x1 x3 x4 x5 0) else (some v3)))
set_option maxRecDepth 100000 in
set_option maxHeartbeats 4000000 in
theorem k_X7_gauged (l : Launch) (G : GT) (S : ST) (x1 : Int32) (x2 : Int32) (x3 : Int32) (x4 : Int32) (x5 : Int32) (r : Int32) (hf : f_X7_gauged S x1 x2 x3 x4 x5 = some r) : MI l yX7_gauged cX7_gauged 8 (some .int) 5 [.ref (ad G 0), .int x1, .int x2, .int x3, .int x4, .int x5] G S r S := by
  rw [f_X7_gauged] at hf
  refine mkI (own := RX7) (by decide +kernel) rfl rfl (Nat.le_of_ble_eq_true rfl) (fun p e s m args below meth c Q ls hC hP hS hl hQ => ?_)
  have hl : lv_has ls 8 [(0, .ref (ad G 0)), (1, .int x1), (2, .int x2), (3, .int x3), (4, .int x4), (5, .int x5)] := hl
  obtain ⟨hx, hb, hml, hown, hts⟩ := id hC.1
  refine lv_iload hx hb dX7_gauged_0 (lv_at hl 4 rfl) ?_
  refine lv_iconst (v := 1) hx hb dX7_gauged_2 (by decide) ?_
  refine lv_bipush (v := 8) hx hb dX7_gauged_3 (by decide) ?_
  obtain ⟨v1, hv, hf⟩ := ob_some hf
  refine cI hS (runS hC hP hS (As := [.int x4, .int 1, .int 8]) (rest := []) (k_X7_within l G S x4 1 8 _ hv) vy_X7_within tb_2_14 tb_2_15 ⟨Nat.le_of_ble_eq_true rfl, Nat.le_of_ble_eq_true rfl⟩ rfl hl.1 rfl (Nat.le_of_ble_eq_true rfl) dX7_gauged_5) (fun H locs hP hS => ?_)
  refine lv_if_eq (tgt := 21) hx hb dX7_gauged_8 (by decide) (fun hc => ?_) (fun hc => ?_)
  · rw [if_pos hc] at hf
    refine lv_iconst (v := (-1)) hx hb dX7_gauged_21 (by decide) ?_
    exact retI hQ hf hP hS dX7_gauged_22
  · rw [if_neg hc] at hf
    refine lv_iload hx hb dX7_gauged_11 (lv_at hl 5 rfl) ?_
    refine lv_iconst (v := 0) hx hb dX7_gauged_13 (by decide) ?_
    refine lv_iconst (v := 2) hx hb dX7_gauged_14 (by decide) ?_
    obtain ⟨v2, hv, hf⟩ := ob_some hf
    refine cI hS (runS hC hP hS (As := [.int x5, .int 0, .int 2]) (rest := []) (k_X7_within l G S x5 0 2 _ hv) vy_X7_within tb_2_14 tb_2_15 ⟨Nat.le_of_ble_eq_true rfl, Nat.le_of_ble_eq_true rfl⟩ rfl hl.1 rfl (Nat.le_of_ble_eq_true rfl) dX7_gauged_15) (fun H locs hP hS => ?_)
    refine lv_if_ne (tgt := 23) hx hb dX7_gauged_18 (by decide) (fun hc => ?_) (fun hc => ?_)
    · rw [if_neg hc] at hf
      refine lv_aload_n hx hb dX7_gauged_23 rfl (lv_at hl 0 rfl) ?_
      refine gFr hC hP (j := 7) sg_0 vc_7 iT7 (by decide) rfl tb_1_219 dX7_gauged_24 ?_
      refine lv_iload_n hx hb dX7_gauged_27 rfl (lv_at hl 1 rfl) ?_
      refine lv_iload_n hx hb dX7_gauged_28 rfl (lv_at hl 2 rfl) ?_
      refine lv_iload_n hx hb dX7_gauged_29 rfl (lv_at hl 3 rfl) ?_
      refine lv_iconst (v := 2) hx hb dX7_gauged_30 (by decide) ?_
      refine lv_iload hx hb dX7_gauged_31 (lv_at hl 4 rfl) ?_
      refine lv_imul hx hb dX7_gauged_33 ?_
      obtain ⟨v3, hv, hf⟩ := ob_some hf
      refine cI hS (runV hC hP hS (As := [.int x1, .int x2, .int x3, .int (2 * x4)]) (rest := []) (k_X3_refusal l G S x1 x2 x3 (2 * x4) _ hv) vy_X3_refusal sg_25 vc_3 tb_4_0 tb_4_1 tb_4_2 ⟨Nat.le_of_ble_eq_true rfl, Nat.le_of_ble_eq_true rfl⟩ rfl hl.1 rfl (Nat.le_of_ble_eq_true rfl) dX7_gauged_34) (fun H locs hP hS => ?_)
      refine lv_istore (lv' := [(6, .int v3), (0, .ref (ad G 0)), (1, .int x1), (2, .int x2), (3, .int x3), (4, .int x4), (5, .int x5)]) hx hb dX7_gauged_37 hl (by decide) rfl (fun ls hl => ?_)
      refine lv_iload hx hb dX7_gauged_39 (lv_at hl 0 rfl) ?_
      refine lv_if_eq (tgt := 47) hx hb dX7_gauged_41 (by decide) (fun hc => ?_) (fun hc => ?_)
      · rw [if_pos hc] at hf
        refine lv_iconst (v := 0) hx hb dX7_gauged_47 (by decide) ?_
        refine lv_istore (lv' := [(7, .int 0), (6, .int v3), (0, .ref (ad G 0)), (1, .int x1), (2, .int x2), (3, .int x3), (4, .int x4), (5, .int x5)]) hx hb dX7_gauged_48 hl (by decide) rfl (fun ls hl => ?_)
        exact w_X7_gauged_50 hC hQ _ _ _ _ _ _ _ _ _ hP hS (lv_sub hl [2, 3, 5, 6, 7, 0] rfl) hf
      · rw [if_neg hc] at hf
        refine lv_iload hx hb dX7_gauged_44 (lv_at hl 0 rfl) ?_
        exact retI hQ hf hP hS dX7_gauged_46
    · rw [if_pos hc] at hf
      refine lv_iconst (v := (-1)) hx hb dX7_gauged_21 (by decide) ?_
      exact retI hQ hf hP hS dX7_gauged_22
def f_X3_begin_32  : Nat → ST → Int32 → Int32 → Int32 → Int32 → Option (Int32 × ST)
  | 0, _, _, _, _, _ => none
  | n + 1, S, x1, x2, x3, x4 => if 24 ≤ x4 then ((wI S 27 x1 x2).bind fun S1 => (wI S1 28 x1 x3).bind fun S2 => some (x3, S2)) else ((rA 5 26 x1).bind fun v3 => (wI S v3 x4 0).bind fun S4 => f_X3_begin_32 n S4 x1 x2 x3 (x4 + 1))
set_option maxRecDepth 100000 in
set_option maxHeartbeats 4000000 in
theorem w_X3_begin_32 {r : Int32} {S' : ST} (hC : Cx p m c s args cX3_begin 5 RX3 G) (hQ : KI p l e (rmH 3) s m args below meth c Q cX3_begin G r S') : ∀ (n : Nat) (S : ST) (x1 : Int32) (x2 : Int32) (x3 : Int32) (x4 : Int32) (H : Heap) (locs : List Loc) (ls : Array Slot), va_P (gD G) vwCl (cells G S) H → va_S (gA G) s.heap H locs → lv_has ls 5 [(0, .ref (ad G 25)), (1, .int x1), (2, .int x2), (3, .int x3), (4, .int x4)] → f_X3_begin_32 n S x1 x2 x3 x4 = some (r, S') → W p l e (rmH 3) s m args below meth c H locs 0 0 Q (F0 m 32 ls []) := by
  obtain ⟨hx, hb, hml, hown, hts⟩ := id hC.1
  intro n
  induction n with
  | zero => intro S x1 x2 x3 x4 H locs ls hP hS hl hf; rw [f_X3_begin_32] at hf; cases hf
  | succ n ih =>
    intro S x1 x2 x3 x4 H locs ls hP hS hl hf
    rw [f_X3_begin_32] at hf
    refine lv_iload hx hb dX3_begin_32 (lv_at hl 4 rfl) ?_
    refine lv_bipush (v := 24) hx hb dX3_begin_34 (by decide) ?_
    refine lv_icmp_ge (tgt := 55) hx hb dX3_begin_36 (by decide) (fun hc => ?_) (fun hc => ?_)
    · rw [if_pos hc] at hf
      refine lv_aload_n hx hb dX3_begin_55 rfl (lv_at hl 0 rfl) ?_
      refine gFr hC hP (j := 1) sg_25 vc_3 iT3 (by decide) rfl tb_1_203 dX3_begin_56 ?_
      refine lv_iload_n hx hb dX3_begin_59 rfl (lv_at hl 1 rfl) ?_
      refine lv_iload_n hx hb dX3_begin_60 rfl (lv_at hl 2 rfl) ?_
      obtain ⟨S1, hv, hf⟩ := ob_some hf
      refine sIa hC hP hS hv dX3_begin_61 (fun H locs hP hS => ?_)
      refine lv_aload_n hx hb dX3_begin_62 rfl (lv_at hl 0 rfl) ?_
      refine gFr hC hP (j := 2) sg_25 vc_3 iT3 (by decide) rfl tb_1_204 dX3_begin_63 ?_
      refine lv_iload_n hx hb dX3_begin_66 rfl (lv_at hl 1 rfl) ?_
      refine lv_iload_n hx hb dX3_begin_67 rfl (lv_at hl 3 rfl) ?_
      obtain ⟨S2, hv, hf⟩ := ob_some hf
      refine sIa hC hP hS hv dX3_begin_68 (fun H locs hP hS => ?_)
      refine lv_iload_n hx hb dX3_begin_69 rfl (lv_at hl 3 rfl) ?_
      exact retIw hQ hf hP hS dX3_begin_70
    · rw [if_neg hc] at hf
      refine lv_aload_n hx hb dX3_begin_39 rfl (lv_at hl 0 rfl) ?_
      refine gFr hC hP (j := 0) sg_25 vc_3 iT3 (by decide) rfl tb_1_202 dX3_begin_40 ?_
      refine lv_iload_n hx hb dX3_begin_43 rfl (lv_at hl 1 rfl) ?_
      obtain ⟨v3, hv, hf⟩ := ob_some hf
      refine gAa5 hC hP hv dX3_begin_44 ?_
      refine lv_iload hx hb dX3_begin_45 (lv_at hl 4 rfl) ?_
      refine lv_iconst (v := 0) hx hb dX3_begin_47 (by decide) ?_
      obtain ⟨S4, hv, hf⟩ := ob_some hf
      refine sIa hC hP hS hv dX3_begin_48 (fun H locs hP hS => ?_)
      refine lv_iinc (v := x4 + 1) (lv' := [(4, .int (x4 + 1)), (0, .ref (ad G 25)), (1, .int x1), (2, .int x2), (3, .int x3)]) hx hb dX3_begin_49 hl (k := 4) rfl rfl (by decide) rfl (fun ls hl => ?_)
      refine lv_goto (tgt := 32) hx hb dX3_begin_52 (by decide) ?_
      exact ih _ _ _ _ _ _ _ _ hP hS (lv_sub hl [1, 2, 3, 4, 0] rfl) hf
def f_X3_begin (S : ST) (x1 : Int32) (x2 : Int32) (x3 : Int32) : Option (Int32 × ST) := (f_X3_isSheet x1).bind fun v1 => if v1 = 0 then (some ((-1), S)) else ((f_X3_isLane x2).bind fun v2 => if v2 = 0 then (some ((-1), S)) else (if x3 ≤ 24 then (if 0 ≤ x3 then (f_X3_begin_32 FU S x1 x2 x3 0) else (some ((-14), S))) else (some ((-1), S))))
set_option maxRecDepth 100000 in
set_option maxHeartbeats 4000000 in
theorem k_X3_begin (l : Launch) (G : GT) (S : ST) (x1 : Int32) (x2 : Int32) (x3 : Int32) (r : Int32) (S' : ST) (hf : f_X3_begin S x1 x2 x3 = some (r, S')) : MI l yX3_begin cX3_begin 5 (some .int) 3 [.ref (ad G 25), .int x1, .int x2, .int x3] G S r S' := by
  rw [f_X3_begin] at hf
  refine mkI (own := RX3) (by decide +kernel) rfl rfl (Nat.le_of_ble_eq_true rfl) (fun p e s m args below meth c Q ls hC hP hS hl hQ => ?_)
  have hl : lv_has ls 5 [(0, .ref (ad G 25)), (1, .int x1), (2, .int x2), (3, .int x3)] := hl
  obtain ⟨hx, hb, hml, hown, hts⟩ := id hC.1
  refine lv_iload_n hx hb dX3_begin_0 rfl (lv_at hl 1 rfl) ?_
  obtain ⟨v1, hv, hf⟩ := ob_some hf
  refine cI hS (runS hC hP hS (As := [.int x1]) (rest := []) (k_X3_isSheet l G S x1 _ hv) vy_X3_isSheet tb_4_4 tb_4_5 ⟨Nat.le_of_ble_eq_true rfl, Nat.le_of_ble_eq_true rfl⟩ rfl hl.1 rfl (Nat.le_of_ble_eq_true rfl) dX3_begin_1) (fun H locs hP hS => ?_)
  refine lv_if_eq (tgt := 20) hx hb dX3_begin_4 (by decide) (fun hc => ?_) (fun hc => ?_)
  · rw [if_pos hc] at hf
    refine lv_iconst (v := (-1)) hx hb dX3_begin_20 (by decide) ?_
    exact retIw hQ hf hP hS dX3_begin_21
  · rw [if_neg hc] at hf
    refine lv_iload_n hx hb dX3_begin_7 rfl (lv_at hl 2 rfl) ?_
    obtain ⟨v2, hv, hf⟩ := ob_some hf
    refine cI hS (runS hC hP hS (As := [.int x2]) (rest := []) (k_X3_isLane l G S x2 _ hv) vy_X3_isLane tb_4_8 tb_4_9 ⟨Nat.le_of_ble_eq_true rfl, Nat.le_of_ble_eq_true rfl⟩ rfl hl.1 rfl (Nat.le_of_ble_eq_true rfl) dX3_begin_8) (fun H locs hP hS => ?_)
    refine lv_if_eq (tgt := 20) hx hb dX3_begin_11 (by decide) (fun hc => ?_) (fun hc => ?_)
    · rw [if_pos hc] at hf
      refine lv_iconst (v := (-1)) hx hb dX3_begin_20 (by decide) ?_
      exact retIw hQ hf hP hS dX3_begin_21
    · rw [if_neg hc] at hf
      refine lv_iload_n hx hb dX3_begin_14 rfl (lv_at hl 3 rfl) ?_
      refine lv_bipush (v := 24) hx hb dX3_begin_15 (by decide) ?_
      refine lv_icmp_le (tgt := 22) hx hb dX3_begin_17 (by decide) (fun hc => ?_) (fun hc => ?_)
      · rw [if_pos hc] at hf
        refine lv_iload_n hx hb dX3_begin_22 rfl (lv_at hl 3 rfl) ?_
        refine lv_if_ge (tgt := 29) hx hb dX3_begin_23 (by decide) (fun hc => ?_) (fun hc => ?_)
        · rw [if_pos hc] at hf
          refine lv_iconst (v := 0) hx hb dX3_begin_29 (by decide) ?_
          refine lv_istore (lv' := [(4, .int 0), (0, .ref (ad G 25)), (1, .int x1), (2, .int x2), (3, .int x3)]) hx hb dX3_begin_30 hl (by decide) rfl (fun ls hl => ?_)
          exact w_X3_begin_32 hC hQ _ _ _ _ _ _ _ _ _ hP hS (lv_sub hl [1, 2, 3, 4, 0] rfl) hf
        · rw [if_neg hc] at hf
          refine lv_bipush (v := (-14)) hx hb dX3_begin_26 (by decide) ?_
          exact retIw hQ hf hP hS dX3_begin_28
      · rw [if_neg hc] at hf
        refine lv_iconst (v := (-1)) hx hb dX3_begin_20 (by decide) ?_
        exact retIw hQ hf hP hS dX3_begin_21
def f_X7_sheet (S : ST) (x1 : Int32) (x2 : Int32) (x3 : Int32) : Option (Int32 × ST) := b2 (f_X3_begin S x1 x2 x3) fun v1 S2 => some (v1, S2)
set_option maxRecDepth 100000 in
set_option maxHeartbeats 4000000 in
theorem k_X7_sheet (l : Launch) (G : GT) (S : ST) (x1 : Int32) (x2 : Int32) (x3 : Int32) (r : Int32) (S' : ST) (hf : f_X7_sheet S x1 x2 x3 = some (r, S')) : MI l yX7_sheet cX7_sheet 4 (some .int) 4 [.ref (ad G 0), .int x1, .int x2, .int x3] G S r S' := by
  rw [f_X7_sheet] at hf
  refine mkI (own := RX7) (by decide +kernel) rfl rfl (Nat.le_of_ble_eq_true rfl) (fun p e s m args below meth c Q ls hC hP hS hl hQ => ?_)
  have hl : lv_has ls 4 [(0, .ref (ad G 0)), (1, .int x1), (2, .int x2), (3, .int x3)] := hl
  obtain ⟨hx, hb, hml, hown, hts⟩ := id hC.1
  refine lv_aload_n hx hb dX7_sheet_0 rfl (lv_at hl 0 rfl) ?_
  refine gFr hC hP (j := 7) sg_0 vc_7 iT7 (by decide) rfl tb_1_219 dX7_sheet_1 ?_
  refine lv_iload_n hx hb dX7_sheet_4 rfl (lv_at hl 1 rfl) ?_
  refine lv_iload_n hx hb dX7_sheet_5 rfl (lv_at hl 2 rfl) ?_
  refine lv_iload_n hx hb dX7_sheet_6 rfl (lv_at hl 3 rfl) ?_
  obtain ⟨v1, S2, hv, hf⟩ := ob_two hf
  refine cI hS (runV hC hP hS (As := [.int x1, .int x2, .int x3]) (rest := []) (k_X3_begin l G S x1 x2 x3 _ _ hv) vy_X3_begin sg_25 vc_3 tb_4_36 tb_4_37 tb_4_38 ⟨Nat.le_of_ble_eq_true rfl, Nat.le_of_ble_eq_true rfl⟩ rfl hl.1 rfl (Nat.le_of_ble_eq_true rfl) dX7_sheet_7) (fun H locs hP hS => ?_)
  exact retIw hQ hf hP hS dX7_sheet_10
def f_X3_forget (S : ST) (x1 : Int32) : Option (Int32 × ST) := (f_X3_isSheet x1).bind fun v1 => if v1 = 0 then (some ((-1), S)) else ((f_X3_isNothing S x1).bind fun v2 => if v2 = 0 then ((wI S 27 x1 (-1)).bind fun S3 => (rI S3 0 28 x1).bind fun v4 => some (v4, S3)) else (some ((-11), S)))
set_option maxRecDepth 100000 in
set_option maxHeartbeats 4000000 in
theorem k_X3_forget (l : Launch) (G : GT) (S : ST) (x1 : Int32) (r : Int32) (S' : ST) (hf : f_X3_forget S x1 = some (r, S')) : MI l yX3_forget cX3_forget 2 (some .int) 3 [.ref (ad G 25), .int x1] G S r S' := by
  rw [f_X3_forget] at hf
  refine mkI (own := RX3) (by decide +kernel) rfl rfl (Nat.le_of_ble_eq_true rfl) (fun p e s m args below meth c Q ls hC hP hS hl hQ => ?_)
  have hl : lv_has ls 2 [(0, .ref (ad G 25)), (1, .int x1)] := hl
  obtain ⟨hx, hb, hml, hown, hts⟩ := id hC.1
  refine lv_iload_n hx hb dX3_forget_0 rfl (lv_at hl 1 rfl) ?_
  obtain ⟨v1, hv, hf⟩ := ob_some hf
  refine cI hS (runS hC hP hS (As := [.int x1]) (rest := []) (k_X3_isSheet l G S x1 _ hv) vy_X3_isSheet tb_4_4 tb_4_5 ⟨Nat.le_of_ble_eq_true rfl, Nat.le_of_ble_eq_true rfl⟩ rfl hl.1 rfl (Nat.le_of_ble_eq_true rfl) dX3_forget_1) (fun H locs hP hS => ?_)
  refine lv_if_ne (tgt := 9) hx hb dX3_forget_4 (by decide) (fun hc => ?_) (fun hc => ?_)
  · rw [if_neg hc] at hf
    refine lv_aload_n hx hb dX3_forget_9 rfl (lv_at hl 0 rfl) ?_
    refine lv_iload_n hx hb dX3_forget_10 rfl (lv_at hl 1 rfl) ?_
    obtain ⟨v2, hv, hf⟩ := ob_some hf
    refine cI hS (runV hC hP hS (As := [.int x1]) (rest := []) (k_X3_isNothing l G S x1 _ hv) vy_X3_isNothing sg_25 vc_3 tb_4_11 tb_4_13 ts_24 ⟨Nat.le_of_ble_eq_true rfl, Nat.le_of_ble_eq_true rfl⟩ rfl hl.1 rfl (Nat.le_of_ble_eq_true rfl) dX3_forget_11) (fun H locs hP hS => ?_)
    refine lv_if_eq (tgt := 20) hx hb dX3_forget_14 (by decide) (fun hc => ?_) (fun hc => ?_)
    · rw [if_pos hc] at hf
      refine lv_aload_n hx hb dX3_forget_20 rfl (lv_at hl 0 rfl) ?_
      refine gFr hC hP (j := 1) sg_25 vc_3 iT3 (by decide) rfl tb_1_203 dX3_forget_21 ?_
      refine lv_iload_n hx hb dX3_forget_24 rfl (lv_at hl 1 rfl) ?_
      refine lv_iconst (v := (-1)) hx hb dX3_forget_25 (by decide) ?_
      obtain ⟨S3, hv, hf⟩ := ob_some hf
      refine sIa hC hP hS hv dX3_forget_26 (fun H locs hP hS => ?_)
      refine lv_aload_n hx hb dX3_forget_27 rfl (lv_at hl 0 rfl) ?_
      refine gFr hC hP (j := 2) sg_25 vc_3 iT3 (by decide) rfl tb_1_204 dX3_forget_28 ?_
      refine lv_iload_n hx hb dX3_forget_31 rfl (lv_at hl 1 rfl) ?_
      obtain ⟨v4, hv, hf⟩ := ob_some hf
      refine gIa hC hP hv dX3_forget_32 ?_
      exact retIw hQ hf hP hS dX3_forget_33
    · rw [if_neg hc] at hf
      refine lv_bipush (v := (-11)) hx hb dX3_forget_17 (by decide) ?_
      exact retIw hQ hf hP hS dX3_forget_19
  · rw [if_pos hc] at hf
    refine lv_iconst (v := (-1)) hx hb dX3_forget_7 (by decide) ?_
    exact retIw hQ hf hP hS dX3_forget_8
def f_X7_drop (S : ST) (x1 : Int32) : Option (Int32 × ST) := b2 (f_X3_forget S x1) fun v1 S2 => some (v1, S2)
set_option maxRecDepth 100000 in
set_option maxHeartbeats 4000000 in
theorem k_X7_drop (l : Launch) (G : GT) (S : ST) (x1 : Int32) (r : Int32) (S' : ST) (hf : f_X7_drop S x1 = some (r, S')) : MI l yX7_drop cX7_drop 2 (some .int) 4 [.ref (ad G 0), .int x1] G S r S' := by
  rw [f_X7_drop] at hf
  refine mkI (own := RX7) (by decide +kernel) rfl rfl (Nat.le_of_ble_eq_true rfl) (fun p e s m args below meth c Q ls hC hP hS hl hQ => ?_)
  have hl : lv_has ls 2 [(0, .ref (ad G 0)), (1, .int x1)] := hl
  obtain ⟨hx, hb, hml, hown, hts⟩ := id hC.1
  refine lv_aload_n hx hb dX7_drop_0 rfl (lv_at hl 0 rfl) ?_
  refine gFr hC hP (j := 7) sg_0 vc_7 iT7 (by decide) rfl tb_1_219 dX7_drop_1 ?_
  refine lv_iload_n hx hb dX7_drop_4 rfl (lv_at hl 1 rfl) ?_
  obtain ⟨v1, S2, hv, hf⟩ := ob_two hf
  refine cI hS (runV hC hP hS (As := [.int x1]) (rest := []) (k_X3_forget l G S x1 _ _ hv) vy_X3_forget sg_25 vc_3 tb_4_44 tb_4_45 tb_4_46 ⟨Nat.le_of_ble_eq_true rfl, Nat.le_of_ble_eq_true rfl⟩ rfl hl.1 rfl (Nat.le_of_ble_eq_true rfl) dX7_drop_5) (fun H locs hP hS => ?_)
  exact retIw hQ hf hP hS dX7_drop_8
end
