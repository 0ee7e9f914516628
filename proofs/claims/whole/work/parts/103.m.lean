section
variable {p : Program} {l : Launch} {e : Env} {s : State} {m : MethodId} {args : Array Value} {below : List Frame} {meth : Method} {c : Code} {Q : State → Prop} {G : GT}

def f_X1_hullOf (S : ST) (x1 : Int32) (x2 : Int32) : Option Int32 := (rI S 0 5 ((x1 * 3) + x2)).bind fun v1 => some v1
set_option maxRecDepth 100000 in
set_option maxHeartbeats 4000000 in
theorem k_X1_hullOf (l : Launch) (G : GT) (S : ST) (x1 : Int32) (x2 : Int32) (r : Int32) (hf : f_X1_hullOf S x1 x2 = some r) : MI l yX1_hullOf cX1_hullOf 3 (some .int) 1 [.ref (ad G 1), .int x1, .int x2] G S r S := by
  rw [f_X1_hullOf] at hf
  refine mkI (own := RX1) (by decide +kernel) rfl rfl (Nat.le_of_ble_eq_true rfl) (fun p e s m args below meth c Q ls hC hP hS hl hQ => ?_)
  have hl : lv_has ls 3 [(0, .ref (ad G 1)), (1, .int x1), (2, .int x2)] := hl
  obtain ⟨hx, hb, hml, hown, hts⟩ := id hC.1
  refine lv_aload_n hx hb dX1_hullOf_0 rfl (lv_at hl 0 rfl) ?_
  refine gFr hC hP (j := 5) sg_1 vc_1 iT1 (by decide) rfl tb_1_42 dX1_hullOf_1 ?_
  refine lv_iload_n hx hb dX1_hullOf_4 rfl (lv_at hl 1 rfl) ?_
  refine lv_iconst (v := 3) hx hb dX1_hullOf_5 (by decide) ?_
  refine lv_imul hx hb dX1_hullOf_6 ?_
  refine lv_iload_n hx hb dX1_hullOf_7 rfl (lv_at hl 2 rfl) ?_
  refine lv_iadd hx hb dX1_hullOf_8 ?_
  obtain ⟨v1, hv, hf⟩ := ob_some hf
  refine gIa hC hP hv dX1_hullOf_9 ?_
  exact retI hQ hf hP hS dX1_hullOf_10
def f_X5_reckonNeed_27  (S : ST) (y0 : Int32) : Option ST := some (sI S 11 6 y0)
set_option maxRecDepth 100000 in
set_option maxHeartbeats 4000000 in
theorem w_X5_reckonNeed_27 {S' : ST} (hC : Cx p m c s args cX5_reckonNeed 1 RX5 G) (hQ : KV p l e (rmH 1) s m args below meth c Q cX5_reckonNeed G S') (S : ST) (y0 : Int32) (H : Heap) (locs : List Loc) (ls : Array Slot) (hP : va_P (gD G) vwCl (cells G S) H) (hS : va_S (gA G) s.heap H locs) (hl : lv_has ls 1 []) (hf : f_X5_reckonNeed_27 S y0 = some S') : W p l e (rmH 1) s m args below meth c H locs 0 0 Q (F0 m 27 ls [.int y0, .ref (ad G 11)]) := by
  obtain ⟨hx, hb, hml, hown, hts⟩ := id hC.1
  rw [f_X5_reckonNeed_27] at hf
  refine pFi hC hP hS (j := 6) sg_11 vc_5 iT5 tyX5_ok nmX5 (by decide) rfl tb_1_70 rfl rfl rfl dX5_reckonNeed_27 (fun H locs hP hS => ?_)
  exact retV hQ hf hP hS dX5_reckonNeed_30
def f_X5_reckonNeed (S : ST)  : Option ST := if (S.1 11 3) = 0 then (f_X5_reckonNeed_27 S (S.1 11 4)) else ((dv ((S.1 11 1) * (S.1 11 4)) 100).bind fun v1 => f_X5_reckonNeed_27 S v1)
set_option maxRecDepth 100000 in
set_option maxHeartbeats 4000000 in
theorem k_X5_reckonNeed (l : Launch) (G : GT) (S : ST)  (S' : ST) (hf : f_X5_reckonNeed S  = some S') : MV l yX5_reckonNeed cX5_reckonNeed 1 1 [.ref (ad G 11)] G S S' := by
  rw [f_X5_reckonNeed] at hf
  refine mkV (own := RX5) (by decide +kernel) rfl (Nat.le_of_ble_eq_true rfl) (fun p e s m args below meth c Q ls hC hP hS hl hQ => ?_)
  have hl : lv_has ls 1 [(0, .ref (ad G 11))] := hl
  obtain ⟨hx, hb, hml, hown, hts⟩ := id hC.1
  refine lv_aload_n hx hb dX5_reckonNeed_0 rfl (lv_at hl 0 rfl) ?_
  refine lv_aload_n hx hb dX5_reckonNeed_1 rfl (lv_at hl 0 rfl) ?_
  refine gFi hC hP (j := 3) sg_11 vc_5 iT5 (by decide) rfl tb_1_66 dX5_reckonNeed_2 ?_
  refine lv_if_ne (tgt := 15) hx hb dX5_reckonNeed_5 (by decide) (fun hc => ?_) (fun hc => ?_)
  · rw [if_neg hc] at hf
    refine lv_aload_n hx hb dX5_reckonNeed_15 rfl (lv_at hl 0 rfl) ?_
    refine gFi hC hP (j := 1) sg_11 vc_5 iT5 (by decide) rfl tb_1_64 dX5_reckonNeed_16 ?_
    refine lv_aload_n hx hb dX5_reckonNeed_19 rfl (lv_at hl 0 rfl) ?_
    refine gFi hC hP (j := 4) sg_11 vc_5 iT5 (by decide) rfl tb_1_67 dX5_reckonNeed_20 ?_
    refine lv_imul hx hb dX5_reckonNeed_23 ?_
    refine lv_bipush (v := 100) hx hb dX5_reckonNeed_24 (by decide) ?_
    obtain ⟨v1, hv, hf⟩ := ob_some hf
    refine xDv hC hv dX5_reckonNeed_26 ?_
    exact w_X5_reckonNeed_27 hC hQ  _ _ _ _ _ hP hS (lv_sub hl [] rfl) hf
  · rw [if_pos hc] at hf
    refine lv_aload_n hx hb dX5_reckonNeed_8 rfl (lv_at hl 0 rfl) ?_
    refine gFi hC hP (j := 4) sg_11 vc_5 iT5 (by decide) rfl tb_1_67 dX5_reckonNeed_9 ?_
    refine lv_goto (tgt := 27) hx hb dX5_reckonNeed_12 (by decide) ?_
    exact w_X5_reckonNeed_27 hC hQ  _ _ _ _ _ hP hS (lv_sub hl [] rfl) hf
def f_X5_keepTo (S : ST) (x1 : Int32) (x2 : Int32) : Option ST := (f_X5_reckonNeed (sI (sI S 11 3 x1) 11 4 x2)).bind fun S1 => some S1
set_option maxRecDepth 100000 in
set_option maxHeartbeats 4000000 in
theorem k_X5_keepTo (l : Launch) (G : GT) (S : ST) (x1 : Int32) (x2 : Int32) (S' : ST) (hf : f_X5_keepTo S x1 x2 = some S') : MV l yX5_keepTo cX5_keepTo 3 2 [.ref (ad G 11), .int x1, .int x2] G S S' := by
  rw [f_X5_keepTo] at hf
  refine mkV (own := RX5) (by decide +kernel) rfl (Nat.le_of_ble_eq_true rfl) (fun p e s m args below meth c Q ls hC hP hS hl hQ => ?_)
  have hl : lv_has ls 3 [(0, .ref (ad G 11)), (1, .int x1), (2, .int x2)] := hl
  obtain ⟨hx, hb, hml, hown, hts⟩ := id hC.1
  refine lv_aload_n hx hb dX5_keepTo_0 rfl (lv_at hl 0 rfl) ?_
  refine lv_iload_n hx hb dX5_keepTo_1 rfl (lv_at hl 1 rfl) ?_
  refine pFi hC hP hS (j := 3) sg_11 vc_5 iT5 tyX5_ok nmX5 (by decide) rfl tb_1_66 rfl rfl rfl dX5_keepTo_2 (fun H locs hP hS => ?_)
  refine lv_aload_n hx hb dX5_keepTo_5 rfl (lv_at hl 0 rfl) ?_
  refine lv_iload_n hx hb dX5_keepTo_6 rfl (lv_at hl 2 rfl) ?_
  refine pFi hC hP hS (j := 4) sg_11 vc_5 iT5 tyX5_ok nmX5 (by decide) rfl tb_1_67 rfl rfl rfl dX5_keepTo_7 (fun H locs hP hS => ?_)
  refine lv_aload_n hx hb dX5_keepTo_10 rfl (lv_at hl 0 rfl) ?_
  obtain ⟨S1, hv, hf⟩ := ob_some hf
  refine cV hS (runV hC hP hS (As := []) (rest := []) (k_X5_reckonNeed l G (sI (sI S 11 3 x1) 11 4 x2) _ hv) vy_X5_reckonNeed sg_11 vc_5 tb_2_210 tb_2_212 ts_11 ⟨Nat.le_of_ble_eq_true rfl, Nat.le_of_ble_eq_true rfl⟩ rfl hl.1 rfl (Nat.le_of_ble_eq_true rfl) dX5_keepTo_11) (fun H locs hP hS => ?_)
  exact retV hQ hf hP hS dX5_keepTo_14
def f_X5_load (S : ST) (x1 : Int32) : Option ST := (f_X5_reckonNeed (sI S 11 1 x1)).bind fun S1 => some S1
set_option maxRecDepth 100000 in
set_option maxHeartbeats 4000000 in
theorem k_X5_load (l : Launch) (G : GT) (S : ST) (x1 : Int32) (S' : ST) (hf : f_X5_load S x1 = some S') : MV l yX5_load cX5_load 2 2 [.ref (ad G 11), .int x1] G S S' := by
  rw [f_X5_load] at hf
  refine mkV (own := RX5) (by decide +kernel) rfl (Nat.le_of_ble_eq_true rfl) (fun p e s m args below meth c Q ls hC hP hS hl hQ => ?_)
  have hl : lv_has ls 2 [(0, .ref (ad G 11)), (1, .int x1)] := hl
  obtain ⟨hx, hb, hml, hown, hts⟩ := id hC.1
  refine lv_aload_n hx hb dX5_load_0 rfl (lv_at hl 0 rfl) ?_
  refine lv_iload_n hx hb dX5_load_1 rfl (lv_at hl 1 rfl) ?_
  refine pFi hC hP hS (j := 1) sg_11 vc_5 iT5 tyX5_ok nmX5 (by decide) rfl tb_1_64 rfl rfl rfl dX5_load_2 (fun H locs hP hS => ?_)
  refine lv_aload_n hx hb dX5_load_5 rfl (lv_at hl 0 rfl) ?_
  obtain ⟨S1, hv, hf⟩ := ob_some hf
  refine cV hS (runV hC hP hS (As := []) (rest := []) (k_X5_reckonNeed l G (sI S 11 1 x1) _ hv) vy_X5_reckonNeed sg_11 vc_5 tb_2_210 tb_2_212 ts_11 ⟨Nat.le_of_ble_eq_true rfl, Nat.le_of_ble_eq_true rfl⟩ rfl hl.1 rfl (Nat.le_of_ble_eq_true rfl) dX5_load_6) (fun H locs hP hS => ?_)
  exact retV hQ hf hP hS dX5_load_9
def f_X5_begin (S : ST) (x1 : Int32) : Option ST := (f_X1_hullOf S x1 1).bind fun v1 => (rI (sI S 11 2 v1) 0 3 1).bind fun v2 => (rI (sI (sI (sI S 11 2 v1) 11 5 v2) 11 7 (-1)) 0 3 3).bind fun v3 => (rI (sI (sI (sI S 11 2 v1) 11 5 v2) 11 7 (-1)) 0 3 4).bind fun v4 => (f_X5_keepTo (sI (sI (sI S 11 2 v1) 11 5 v2) 11 7 (-1)) v3 v4).bind fun S5 => (f_X1_hullOf S5 x1 0).bind fun v6 => (f_X5_load S5 v6).bind fun S7 => some S7
set_option maxRecDepth 100000 in
set_option maxHeartbeats 4000000 in
theorem k_X5_begin (l : Launch) (G : GT) (S : ST) (x1 : Int32) (S' : ST) (hf : f_X5_begin S x1 = some S') : MV l yX5_begin cX5_begin 2 3 [.ref (ad G 11), .int x1] G S S' := by
  rw [f_X5_begin] at hf
  refine mkV (own := RX5) (by decide +kernel) rfl (Nat.le_of_ble_eq_true rfl) (fun p e s m args below meth c Q ls hC hP hS hl hQ => ?_)
  have hl : lv_has ls 2 [(0, .ref (ad G 11)), (1, .int x1)] := hl
  obtain ⟨hx, hb, hml, hown, hts⟩ := id hC.1
  refine lv_aload_n hx hb dX5_begin_0 rfl (lv_at hl 0 rfl) ?_
  refine lv_aload_n hx hb dX5_begin_1 rfl (lv_at hl 0 rfl) ?_
  refine gFr hC hP (j := 0) sg_11 vc_5 iT5 (by decide) rfl tb_1_63 dX5_begin_2 ?_
  refine lv_iload_n hx hb dX5_begin_5 rfl (lv_at hl 1 rfl) ?_
  refine lv_iconst (v := 1) hx hb dX5_begin_6 (by decide) ?_
  obtain ⟨v1, hv, hf⟩ := ob_some hf
  refine cI hS (runV hC hP hS (As := [.int x1, .int 1]) (rest := [.ref (ad G 11)]) (k_X1_hullOf l G S x1 1 _ hv) vy_X1_hullOf sg_1 vc_1 tb_2_202 tb_2_203 tb_2_204 ⟨Nat.le_of_ble_eq_true rfl, Nat.le_of_ble_eq_true rfl⟩ rfl hl.1 rfl (Nat.le_of_ble_eq_true rfl) dX5_begin_7) (fun H locs hP hS => ?_)
  refine pFi hC hP hS (j := 2) sg_11 vc_5 iT5 tyX5_ok nmX5 (by decide) rfl tb_1_65 rfl rfl rfl dX5_begin_10 (fun H locs hP hS => ?_)
  refine lv_aload_n hx hb dX5_begin_13 rfl (lv_at hl 0 rfl) ?_
  refine lv_aload_n hx hb dX5_begin_14 rfl (lv_at hl 0 rfl) ?_
  refine gFr hC hP (j := 0) sg_11 vc_5 iT5 (by decide) rfl tb_1_63 dX5_begin_15 ?_
  refine gFr hC hP (j := 3) sg_1 vc_1 iT1 (by decide) rfl tb_1_38 dX5_begin_18 ?_
  refine lv_iconst (v := 1) hx hb dX5_begin_21 (by decide) ?_
  obtain ⟨v2, hv, hf⟩ := ob_some hf
  refine gIa hC hP hv dX5_begin_22 ?_
  refine pFi hC hP hS (j := 5) sg_11 vc_5 iT5 tyX5_ok nmX5 (by decide) rfl tb_1_68 rfl rfl rfl dX5_begin_23 (fun H locs hP hS => ?_)
  refine lv_aload_n hx hb dX5_begin_26 rfl (lv_at hl 0 rfl) ?_
  refine lv_iconst (v := (-1)) hx hb dX5_begin_27 (by decide) ?_
  refine pFi hC hP hS (j := 7) sg_11 vc_5 iT5 tyX5_ok nmX5 (by decide) rfl tb_1_73 rfl rfl rfl dX5_begin_28 (fun H locs hP hS => ?_)
  refine lv_aload_n hx hb dX5_begin_31 rfl (lv_at hl 0 rfl) ?_
  refine lv_aload_n hx hb dX5_begin_32 rfl (lv_at hl 0 rfl) ?_
  refine gFr hC hP (j := 0) sg_11 vc_5 iT5 (by decide) rfl tb_1_63 dX5_begin_33 ?_
  refine gFr hC hP (j := 3) sg_1 vc_1 iT1 (by decide) rfl tb_1_38 dX5_begin_36 ?_
  refine lv_iconst (v := 3) hx hb dX5_begin_39 (by decide) ?_
  obtain ⟨v3, hv, hf⟩ := ob_some hf
  refine gIa hC hP hv dX5_begin_40 ?_
  refine lv_aload_n hx hb dX5_begin_41 rfl (lv_at hl 0 rfl) ?_
  refine gFr hC hP (j := 0) sg_11 vc_5 iT5 (by decide) rfl tb_1_63 dX5_begin_42 ?_
  refine gFr hC hP (j := 3) sg_1 vc_1 iT1 (by decide) rfl tb_1_38 dX5_begin_45 ?_
  refine lv_iconst (v := 4) hx hb dX5_begin_48 (by decide) ?_
  obtain ⟨v4, hv, hf⟩ := ob_some hf
  refine gIa hC hP hv dX5_begin_49 ?_
  obtain ⟨S5, hv, hf⟩ := ob_some hf
  refine cV hS (runV hC hP hS (As := [.int v3, .int v4]) (rest := []) (k_X5_keepTo l G (sI (sI (sI S 11 2 v1) 11 5 v2) 11 7 (-1)) v3 v4 _ hv) vy_X5_keepTo sg_11 vc_5 tb_2_206 tb_2_207 tb_2_208 ⟨Nat.le_of_ble_eq_true rfl, Nat.le_of_ble_eq_true rfl⟩ rfl hl.1 rfl (Nat.le_of_ble_eq_true rfl) dX5_begin_50) (fun H locs hP hS => ?_)
  refine lv_aload_n hx hb dX5_begin_53 rfl (lv_at hl 0 rfl) ?_
  refine lv_aload_n hx hb dX5_begin_54 rfl (lv_at hl 0 rfl) ?_
  refine gFr hC hP (j := 0) sg_11 vc_5 iT5 (by decide) rfl tb_1_63 dX5_begin_55 ?_
  refine lv_iload_n hx hb dX5_begin_58 rfl (lv_at hl 1 rfl) ?_
  refine lv_iconst (v := 0) hx hb dX5_begin_59 (by decide) ?_
  obtain ⟨v6, hv, hf⟩ := ob_some hf
  refine cI hS (runV hC hP hS (As := [.int x1, .int 0]) (rest := [.ref (ad G 11)]) (k_X1_hullOf l G S5 x1 0 _ hv) vy_X1_hullOf sg_1 vc_1 tb_2_202 tb_2_203 tb_2_204 ⟨Nat.le_of_ble_eq_true rfl, Nat.le_of_ble_eq_true rfl⟩ rfl hl.1 rfl (Nat.le_of_ble_eq_true rfl) dX5_begin_60) (fun H locs hP hS => ?_)
  obtain ⟨S7, hv, hf⟩ := ob_some hf
  refine cV hS (runV hC hP hS (As := [.int v6]) (rest := []) (k_X5_load l G S5 v6 _ hv) vy_X5_load sg_11 vc_5 tb_2_214 tb_2_215 tb_2_216 ⟨Nat.le_of_ble_eq_true rfl, Nat.le_of_ble_eq_true rfl⟩ rfl hl.1 rfl (Nat.le_of_ble_eq_true rfl) dX5_begin_63) (fun H locs hP hS => ?_)
  exact retV hQ hf hP hS dX5_begin_66
def f_X5_level_26 (S : ST)  (y0 : Int32) (y1 : Int32) : Option Int32 := some (y1 + y0)
set_option maxRecDepth 100000 in
set_option maxHeartbeats 4000000 in
theorem w_X5_level_26 {r : Int32} {S : ST} (hC : Cx p m c s args cX5_level 3 RX5 G) (hQ : KI p l e (rmH 2) s m args below meth c Q cX5_level G r S) (y0 : Int32) (y1 : Int32) (H : Heap) (locs : List Loc) (ls : Array Slot) (hP : va_P (gD G) vwCl (cells G S) H) (hS : va_S (gA G) s.heap H locs) (hl : lv_has ls 3 []) (hf : f_X5_level_26 S y0 y1 = some r) : W p l e (rmH 2) s m args below meth c H locs 0 0 Q (F0 m 26 ls [.int y0, .int y1]) := by
  obtain ⟨hx, hb, hml, hown, hts⟩ := id hC.1
  rw [f_X5_level_26] at hf
  refine lv_iadd hx hb dX5_level_26 ?_
  exact retI hQ hf hP hS dX5_level_27
def f_X5_level (S : ST) (x1 : Int32) (x2 : Int32) : Option Int32 := (f_X1_levelAt S x1 x2 (S.1 11 5)).bind fun v1 => if x1 = (S.1 11 7) then (f_X5_level_26 S 1 v1) else (f_X5_level_26 S 0 v1)
set_option maxRecDepth 100000 in
set_option maxHeartbeats 4000000 in
theorem k_X5_level (l : Launch) (G : GT) (S : ST) (x1 : Int32) (x2 : Int32) (r : Int32) (hf : f_X5_level S x1 x2 = some r) : MI l yX5_level cX5_level 3 (some .int) 2 [.ref (ad G 11), .int x1, .int x2] G S r S := by
  rw [f_X5_level] at hf
  refine mkI (own := RX5) (by decide +kernel) rfl rfl (Nat.le_of_ble_eq_true rfl) (fun p e s m args below meth c Q ls hC hP hS hl hQ => ?_)
  have hl : lv_has ls 3 [(0, .ref (ad G 11)), (1, .int x1), (2, .int x2)] := hl
  obtain ⟨hx, hb, hml, hown, hts⟩ := id hC.1
  refine lv_aload_n hx hb dX5_level_0 rfl (lv_at hl 0 rfl) ?_
  refine gFr hC hP (j := 0) sg_11 vc_5 iT5 (by decide) rfl tb_1_63 dX5_level_1 ?_
  refine lv_iload_n hx hb dX5_level_4 rfl (lv_at hl 1 rfl) ?_
  refine lv_iload_n hx hb dX5_level_5 rfl (lv_at hl 2 rfl) ?_
  refine lv_aload_n hx hb dX5_level_6 rfl (lv_at hl 0 rfl) ?_
  refine gFi hC hP (j := 5) sg_11 vc_5 iT5 (by decide) rfl tb_1_68 dX5_level_7 ?_
  obtain ⟨v1, hv, hf⟩ := ob_some hf
  refine cI hS (runV hC hP hS (As := [.int x1, .int x2, .int (S.1 11 5)]) (rest := []) (k_X1_levelAt l G S x1 x2 (S.1 11 5) _ hv) vy_X1_levelAt sg_1 vc_1 tb_2_222 tb_2_183 tb_2_184 ⟨Nat.le_of_ble_eq_true rfl, Nat.le_of_ble_eq_true rfl⟩ rfl hl.1 rfl (Nat.le_of_ble_eq_true rfl) dX5_level_10) (fun H locs hP hS => ?_)
  refine lv_iload_n hx hb dX5_level_13 rfl (lv_at hl 1 rfl) ?_
  refine lv_aload_n hx hb dX5_level_14 rfl (lv_at hl 0 rfl) ?_
  refine gFi hC hP (j := 7) sg_11 vc_5 iT5 (by decide) rfl tb_1_73 dX5_level_15 ?_
  refine lv_icmp_ne (tgt := 25) hx hb dX5_level_18 (by decide) (fun hc => ?_) (fun hc => ?_)
  · rw [if_neg hc] at hf
    refine lv_iconst (v := 0) hx hb dX5_level_25 (by decide) ?_
    exact w_X5_level_26 hC hQ  _ _ _ _ _ hP hS (lv_sub hl [] rfl) hf
  · rw [if_pos hc] at hf
    refine lv_iconst (v := 1) hx hb dX5_level_21 (by decide) ?_
    refine lv_goto (tgt := 26) hx hb dX5_level_22 (by decide) ?_
    exact w_X5_level_26 hC hQ  _ _ _ _ _ hP hS (lv_sub hl [] rfl) hf
def f_X5_sinking (S : ST) (x1 : Int32) (x2 : Int32) (x3 : Int32) : Option Int32 := (f_X1_markOf S x1 1).bind fun v1 => (f_J9_max_7cf53 1 x2).bind fun v2 => (f_J9_max_7cf53 1 ((3 * v1) * v2)).bind fun v3 => (dv (((x3 * x3) * (S.1 11 2)) * (S.1 11 1)) v3).bind fun v4 => some v4
set_option maxRecDepth 100000 in
set_option maxHeartbeats 4000000 in
theorem k_X5_sinking (l : Launch) (G : GT) (S : ST) (x1 : Int32) (x2 : Int32) (x3 : Int32) (r : Int32) (hf : f_X5_sinking S x1 x2 x3 = some r) : MI l yX5_sinking cX5_sinking 5 (some .int) 2 [.ref (ad G 11), .int x1, .int x2, .int x3] G S r S := by
  rw [f_X5_sinking] at hf
  refine mkI (own := RX5) (by decide +kernel) rfl rfl (Nat.le_of_ble_eq_true rfl) (fun p e s m args below meth c Q ls hC hP hS hl hQ => ?_)
  have hl : lv_has ls 5 [(0, .ref (ad G 11)), (1, .int x1), (2, .int x2), (3, .int x3)] := hl
  obtain ⟨hx, hb, hml, hown, hts⟩ := id hC.1
  refine lv_iconst (v := 3) hx hb dX5_sinking_0 (by decide) ?_
  refine lv_aload_n hx hb dX5_sinking_1 rfl (lv_at hl 0 rfl) ?_
  refine gFr hC hP (j := 0) sg_11 vc_5 iT5 (by decide) rfl tb_1_63 dX5_sinking_2 ?_
  refine lv_iload_n hx hb dX5_sinking_5 rfl (lv_at hl 1 rfl) ?_
  refine lv_iconst (v := 1) hx hb dX5_sinking_6 (by decide) ?_
  obtain ⟨v1, hv, hf⟩ := ob_some hf
  refine cI hS (runV hC hP hS (As := [.int x1, .int 1]) (rest := [.int 3]) (k_X1_markOf l G S x1 1 _ hv) vy_X1_markOf sg_1 vc_1 tb_2_227 tb_2_26 tb_2_27 ⟨Nat.le_of_ble_eq_true rfl, Nat.le_of_ble_eq_true rfl⟩ rfl hl.1 rfl (Nat.le_of_ble_eq_true rfl) dX5_sinking_7) (fun H locs hP hS => ?_)
  refine lv_imul hx hb dX5_sinking_10 ?_
  refine lv_iconst (v := 1) hx hb dX5_sinking_11 (by decide) ?_
  refine lv_iload_n hx hb dX5_sinking_12 rfl (lv_at hl 2 rfl) ?_
  obtain ⟨v2, hv, hf⟩ := ob_some hf
  refine cI hS (runS hC hP hS (As := [.int 1, .int x2]) (rest := [.int (3 * v1)]) (k_J9_max_7cf53 l G S 1 x2 _ hv) vy_J9_max_7cf53 tb_2_228 tb_2_151 ⟨Nat.le_of_ble_eq_true rfl, Nat.le_of_ble_eq_true rfl⟩ rfl hl.1 rfl (Nat.le_of_ble_eq_true rfl) dX5_sinking_13) (fun H locs hP hS => ?_)
  refine lv_imul hx hb dX5_sinking_16 ?_
  refine lv_istore (lv' := [(4, .int ((3 * v1) * v2)), (0, .ref (ad G 11)), (1, .int x1), (2, .int x2), (3, .int x3)]) hx hb dX5_sinking_17 hl (by decide) rfl (fun ls hl => ?_)
  refine lv_iload_n hx hb dX5_sinking_19 rfl (lv_at hl 4 rfl) ?_
  refine lv_iload_n hx hb dX5_sinking_20 rfl (lv_at hl 4 rfl) ?_
  refine lv_imul hx hb dX5_sinking_21 ?_
  refine lv_aload_n hx hb dX5_sinking_22 rfl (lv_at hl 1 rfl) ?_
  refine gFi hC hP (j := 2) sg_11 vc_5 iT5 (by decide) rfl tb_1_65 dX5_sinking_23 ?_
  refine lv_imul hx hb dX5_sinking_26 ?_
  refine lv_aload_n hx hb dX5_sinking_27 rfl (lv_at hl 1 rfl) ?_
  refine gFi hC hP (j := 1) sg_11 vc_5 iT5 (by decide) rfl tb_1_64 dX5_sinking_28 ?_
  refine lv_imul hx hb dX5_sinking_31 ?_
  refine lv_iconst (v := 1) hx hb dX5_sinking_32 (by decide) ?_
  refine lv_iload hx hb dX5_sinking_33 (lv_at hl 0 rfl) ?_
  obtain ⟨v3, hv, hf⟩ := ob_some hf
  refine cI hS (runS hC hP hS (As := [.int 1, .int ((3 * v1) * v2)]) (rest := [.int (((x3 * x3) * (S.1 11 2)) * (S.1 11 1))]) (k_J9_max_7cf53 l G S 1 ((3 * v1) * v2) _ hv) vy_J9_max_7cf53 tb_2_228 tb_2_151 ⟨Nat.le_of_ble_eq_true rfl, Nat.le_of_ble_eq_true rfl⟩ rfl hl.1 rfl (Nat.le_of_ble_eq_true rfl) dX5_sinking_35) (fun H locs hP hS => ?_)
  obtain ⟨v4, hv, hf⟩ := ob_some hf
  refine xDv hC hv dX5_sinking_38 ?_
  exact retI hQ hf hP hS dX5_sinking_39
def f_X7_sinks (S : ST) (x1 : Int32) (x2 : Int32) (x3 : Int32) (x4 : Int32) : Option (Int32 × ST) := (f_X7_isPlaced S x1 x2 x3 x4).bind fun v1 => if v1 = 0 then (some ((-1), S)) else ((f_X5_begin S x1).bind fun S2 => (f_X1_tideAt S2 x3).bind fun v3 => (f_X5_level S2 x2 v3).bind fun v4 => (f_X5_sinking S2 x2 v4 x4).bind fun v5 => some (v5, S2))
set_option maxRecDepth 100000 in
set_option maxHeartbeats 4000000 in
theorem k_X7_sinks (l : Launch) (G : GT) (S : ST) (x1 : Int32) (x2 : Int32) (x3 : Int32) (x4 : Int32) (r : Int32) (S' : ST) (hf : f_X7_sinks S x1 x2 x3 x4 = some (r, S')) : MI l yX7_sinks cX7_sinks 5 (some .int) 4 [.ref (ad G 0), .int x1, .int x2, .int x3, .int x4] G S r S' := by
  rw [f_X7_sinks] at hf
  refine mkI (own := RX7) (by decide +kernel) rfl rfl (Nat.le_of_ble_eq_true rfl) (fun p e s m args below meth c Q ls hC hP hS hl hQ => ?_)
  have hl : lv_has ls 5 [(0, .ref (ad G 0)), (1, .int x1), (2, .int x2), (3, .int x3), (4, .int x4)] := hl
  obtain ⟨hx, hb, hml, hown, hts⟩ := id hC.1
  refine lv_aload_n hx hb dX7_sinks_0 rfl (lv_at hl 0 rfl) ?_
  refine lv_iload_n hx hb dX7_sinks_1 rfl (lv_at hl 1 rfl) ?_
  refine lv_iload_n hx hb dX7_sinks_2 rfl (lv_at hl 2 rfl) ?_
  refine lv_iload_n hx hb dX7_sinks_3 rfl (lv_at hl 3 rfl) ?_
  refine lv_iload hx hb dX7_sinks_4 (lv_at hl 4 rfl) ?_
  obtain ⟨v1, hv, hf⟩ := ob_some hf
  refine cI hS (runV hC hP hS (As := [.int x1, .int x2, .int x3, .int x4]) (rest := []) (k_X7_isPlaced l G S x1 x2 x3 x4 _ hv) vy_X7_isPlaced sg_0 vc_7 tb_2_190 tb_2_192 ts_10 ⟨Nat.le_of_ble_eq_true rfl, Nat.le_of_ble_eq_true rfl⟩ rfl hl.1 rfl (Nat.le_of_ble_eq_true rfl) dX7_sinks_6) (fun H locs hP hS => ?_)
  refine lv_if_ne (tgt := 14) hx hb dX7_sinks_9 (by decide) (fun hc => ?_) (fun hc => ?_)
  · rw [if_neg hc] at hf
    refine lv_aload_n hx hb dX7_sinks_14 rfl (lv_at hl 0 rfl) ?_
    refine gFr hC hP (j := 2) sg_0 vc_7 iT7 (by decide) rfl tb_1_214 dX7_sinks_15 ?_
    refine lv_iload_n hx hb dX7_sinks_18 rfl (lv_at hl 1 rfl) ?_
    obtain ⟨S2, hv, hf⟩ := ob_some hf
    refine cV hS (runV hC hP hS (As := [.int x1]) (rest := []) (k_X5_begin l G S x1 _ hv) vy_X5_begin sg_11 vc_5 tb_2_198 tb_2_199 tb_2_200 ⟨Nat.le_of_ble_eq_true rfl, Nat.le_of_ble_eq_true rfl⟩ rfl hl.1 rfl (Nat.le_of_ble_eq_true rfl) dX7_sinks_19) (fun H locs hP hS => ?_)
    refine lv_aload_n hx hb dX7_sinks_22 rfl (lv_at hl 0 rfl) ?_
    refine gFr hC hP (j := 2) sg_0 vc_7 iT7 (by decide) rfl tb_1_214 dX7_sinks_23 ?_
    refine lv_iload_n hx hb dX7_sinks_26 rfl (lv_at hl 2 rfl) ?_
    refine lv_aload_n hx hb dX7_sinks_27 rfl (lv_at hl 0 rfl) ?_
    refine gFr hC hP (j := 2) sg_0 vc_7 iT7 (by decide) rfl tb_1_214 dX7_sinks_28 ?_
    refine lv_iload_n hx hb dX7_sinks_31 rfl (lv_at hl 2 rfl) ?_
    refine lv_aload_n hx hb dX7_sinks_32 rfl (lv_at hl 0 rfl) ?_
    refine gFr hC hP (j := 0) sg_0 vc_7 iT7 (by decide) rfl tb_1_212 dX7_sinks_33 ?_
    refine lv_iload_n hx hb dX7_sinks_36 rfl (lv_at hl 3 rfl) ?_
    obtain ⟨v3, hv, hf⟩ := ob_some hf
    refine cI hS (runV hC hP hS (As := [.int x3]) (rest := [.int x2, .ref (ad G 11), .int x2, .ref (ad G 11)]) (k_X1_tideAt l G S2 x3 _ hv) vy_X1_tideAt sg_1 vc_1 tb_2_166 tb_2_167 tb_2_168 ⟨Nat.le_of_ble_eq_true rfl, Nat.le_of_ble_eq_true rfl⟩ rfl hl.1 rfl (Nat.le_of_ble_eq_true rfl) dX7_sinks_37) (fun H locs hP hS => ?_)
    obtain ⟨v4, hv, hf⟩ := ob_some hf
    refine cI hS (runV hC hP hS (As := [.int x2, .int v3]) (rest := [.int x2, .ref (ad G 11)]) (k_X5_level l G S2 x2 v3 _ hv) vy_X5_level sg_11 vc_5 tb_2_218 tb_2_219 tb_2_220 ⟨Nat.le_of_ble_eq_true rfl, Nat.le_of_ble_eq_true rfl⟩ rfl hl.1 rfl (Nat.le_of_ble_eq_true rfl) dX7_sinks_40) (fun H locs hP hS => ?_)
    refine lv_iload hx hb dX7_sinks_43 (lv_at hl 4 rfl) ?_
    obtain ⟨v5, hv, hf⟩ := ob_some hf
    refine cI hS (runV hC hP hS (As := [.int x2, .int v4, .int x4]) (rest := []) (k_X5_sinking l G S2 x2 v4 x4 _ hv) vy_X5_sinking sg_11 vc_5 tb_2_223 tb_2_224 tb_2_225 ⟨Nat.le_of_ble_eq_true rfl, Nat.le_of_ble_eq_true rfl⟩ rfl hl.1 rfl (Nat.le_of_ble_eq_true rfl) dX7_sinks_45) (fun H locs hP hS => ?_)
    exact retIw hQ hf hP hS dX7_sinks_48
  · rw [if_pos hc] at hf
    refine lv_iconst (v := (-1)) hx hb dX7_sinks_12 (by decide) ?_
    exact retIw hQ hf hP hS dX7_sinks_13
def f_X5_atRest (S : ST) (x1 : Int32) (x2 : Int32) : Option Int32 := (f_X1_markOf S x1 2).bind fun v1 => (dv ((S.1 11 1) * (9 - v1)) 400).bind fun v2 => (dv ((S.1 11 2) * (S.1 11 5)) 20).bind fun v3 => some (((x2 - (S.1 11 1)) - v2) - v3)
set_option maxRecDepth 100000 in
set_option maxHeartbeats 4000000 in
theorem k_X5_atRest (l : Launch) (G : GT) (S : ST) (x1 : Int32) (x2 : Int32) (r : Int32) (hf : f_X5_atRest S x1 x2 = some r) : MI l yX5_atRest cX5_atRest 4 (some .int) 2 [.ref (ad G 11), .int x1, .int x2] G S r S := by
  rw [f_X5_atRest] at hf
  refine mkI (own := RX5) (by decide +kernel) rfl rfl (Nat.le_of_ble_eq_true rfl) (fun p e s m args below meth c Q ls hC hP hS hl hQ => ?_)
  have hl : lv_has ls 4 [(0, .ref (ad G 11)), (1, .int x1), (2, .int x2)] := hl
  obtain ⟨hx, hb, hml, hown, hts⟩ := id hC.1
  refine lv_aload_n hx hb dX5_atRest_0 rfl (lv_at hl 0 rfl) ?_
  refine gFi hC hP (j := 1) sg_11 vc_5 iT5 (by decide) rfl tb_1_64 dX5_atRest_1 ?_
  refine lv_bipush (v := 9) hx hb dX5_atRest_4 (by decide) ?_
  refine lv_aload_n hx hb dX5_atRest_6 rfl (lv_at hl 0 rfl) ?_
  refine gFr hC hP (j := 0) sg_11 vc_5 iT5 (by decide) rfl tb_1_63 dX5_atRest_7 ?_
  refine lv_iload_n hx hb dX5_atRest_10 rfl (lv_at hl 1 rfl) ?_
  refine lv_iconst (v := 2) hx hb dX5_atRest_11 (by decide) ?_
  obtain ⟨v1, hv, hf⟩ := ob_some hf
  refine cI hS (runV hC hP hS (As := [.int x1, .int 2]) (rest := [.int 9, .int (S.1 11 1)]) (k_X1_markOf l G S x1 2 _ hv) vy_X1_markOf sg_1 vc_1 tb_2_227 tb_2_26 tb_2_27 ⟨Nat.le_of_ble_eq_true rfl, Nat.le_of_ble_eq_true rfl⟩ rfl hl.1 rfl (Nat.le_of_ble_eq_true rfl) dX5_atRest_12) (fun H locs hP hS => ?_)
  refine lv_isub hx hb dX5_atRest_15 ?_
  refine lv_imul hx hb dX5_atRest_16 ?_
  refine lv_sipush (v := 400) hx hb dX5_atRest_17 (by decide) ?_
  obtain ⟨v2, hv, hf⟩ := ob_some hf
  refine xDv hC hv dX5_atRest_20 ?_
  refine lv_istore_n (lv' := [(3, .int v2), (0, .ref (ad G 11)), (1, .int x1), (2, .int x2)]) hx hb dX5_atRest_21 rfl hl (by decide) rfl (fun ls hl => ?_)
  refine lv_iload_n hx hb dX5_atRest_22 rfl (lv_at hl 3 rfl) ?_
  refine lv_aload_n hx hb dX5_atRest_23 rfl (lv_at hl 1 rfl) ?_
  refine gFi hC hP (j := 1) sg_11 vc_5 iT5 (by decide) rfl tb_1_64 dX5_atRest_24 ?_
  refine lv_isub hx hb dX5_atRest_27 ?_
  refine lv_iload_n hx hb dX5_atRest_28 rfl (lv_at hl 0 rfl) ?_
  refine lv_isub hx hb dX5_atRest_29 ?_
  refine lv_aload_n hx hb dX5_atRest_30 rfl (lv_at hl 1 rfl) ?_
  refine gFi hC hP (j := 2) sg_11 vc_5 iT5 (by decide) rfl tb_1_65 dX5_atRest_31 ?_
  refine lv_aload_n hx hb dX5_atRest_34 rfl (lv_at hl 1 rfl) ?_
  refine gFi hC hP (j := 5) sg_11 vc_5 iT5 (by decide) rfl tb_1_68 dX5_atRest_35 ?_
  refine lv_imul hx hb dX5_atRest_38 ?_
  refine lv_bipush (v := 20) hx hb dX5_atRest_39 (by decide) ?_
  obtain ⟨v3, hv, hf⟩ := ob_some hf
  refine xDv hC hv dX5_atRest_41 ?_
  refine lv_isub hx hb dX5_atRest_42 ?_
  exact retI hQ hf hP hS dX5_atRest_43
def f_X5_clearance (S : ST) (x1 : Int32) (x2 : Int32) (x3 : Int32) : Option Int32 := (f_X5_level S x1 x2).bind fun v1 => (f_X5_atRest S x1 v1).bind fun v2 => (f_X5_sinking S x1 v1 x3).bind fun v3 => some (v2 - v3)
set_option maxRecDepth 100000 in
set_option maxHeartbeats 4000000 in
theorem k_X5_clearance (l : Launch) (G : GT) (S : ST) (x1 : Int32) (x2 : Int32) (x3 : Int32) (r : Int32) (hf : f_X5_clearance S x1 x2 x3 = some r) : MI l yX5_clearance cX5_clearance 5 (some .int) 3 [.ref (ad G 11), .int x1, .int x2, .int x3] G S r S := by
  rw [f_X5_clearance] at hf
  refine mkI (own := RX5) (by decide +kernel) rfl rfl (Nat.le_of_ble_eq_true rfl) (fun p e s m args below meth c Q ls hC hP hS hl hQ => ?_)
  have hl : lv_has ls 5 [(0, .ref (ad G 11)), (1, .int x1), (2, .int x2), (3, .int x3)] := hl
  obtain ⟨hx, hb, hml, hown, hts⟩ := id hC.1
  refine lv_aload_n hx hb dX5_clearance_0 rfl (lv_at hl 0 rfl) ?_
  refine lv_iload_n hx hb dX5_clearance_1 rfl (lv_at hl 1 rfl) ?_
  refine lv_iload_n hx hb dX5_clearance_2 rfl (lv_at hl 2 rfl) ?_
  obtain ⟨v1, hv, hf⟩ := ob_some hf
  refine cI hS (runV hC hP hS (As := [.int x1, .int x2]) (rest := []) (k_X5_level l G S x1 x2 _ hv) vy_X5_level sg_11 vc_5 tb_2_237 tb_2_219 tb_2_220 ⟨Nat.le_of_ble_eq_true rfl, Nat.le_of_ble_eq_true rfl⟩ rfl hl.1 rfl (Nat.le_of_ble_eq_true rfl) dX5_clearance_3) (fun H locs hP hS => ?_)
  refine lv_istore (lv' := [(4, .int v1), (0, .ref (ad G 11)), (1, .int x1), (2, .int x2), (3, .int x3)]) hx hb dX5_clearance_6 hl (by decide) rfl (fun ls hl => ?_)
  refine lv_aload_n hx hb dX5_clearance_8 rfl (lv_at hl 1 rfl) ?_
  refine lv_iload_n hx hb dX5_clearance_9 rfl (lv_at hl 2 rfl) ?_
  refine lv_iload hx hb dX5_clearance_10 (lv_at hl 0 rfl) ?_
  obtain ⟨v2, hv, hf⟩ := ob_some hf
  refine cI hS (runV hC hP hS (As := [.int x1, .int v1]) (rest := []) (k_X5_atRest l G S x1 v1 _ hv) vy_X5_atRest sg_11 vc_5 tb_2_238 tb_2_239 tb_3_0 ⟨Nat.le_of_ble_eq_true rfl, Nat.le_of_ble_eq_true rfl⟩ rfl hl.1 rfl (Nat.le_of_ble_eq_true rfl) dX5_clearance_12) (fun H locs hP hS => ?_)
  refine lv_aload_n hx hb dX5_clearance_15 rfl (lv_at hl 1 rfl) ?_
  refine lv_iload_n hx hb dX5_clearance_16 rfl (lv_at hl 2 rfl) ?_
  refine lv_iload hx hb dX5_clearance_17 (lv_at hl 0 rfl) ?_
  refine lv_iload_n hx hb dX5_clearance_19 rfl (lv_at hl 4 rfl) ?_
  obtain ⟨v3, hv, hf⟩ := ob_some hf
  refine cI hS (runV hC hP hS (As := [.int x1, .int v1, .int x3]) (rest := [.int v2]) (k_X5_sinking l G S x1 v1 x3 _ hv) vy_X5_sinking sg_11 vc_5 tb_3_2 tb_2_224 tb_2_225 ⟨Nat.le_of_ble_eq_true rfl, Nat.le_of_ble_eq_true rfl⟩ rfl hl.1 rfl (Nat.le_of_ble_eq_true rfl) dX5_clearance_20) (fun H locs hP hS => ?_)
  refine lv_isub hx hb dX5_clearance_23 ?_
  exact retI hQ hf hP hS dX5_clearance_24
def f_X7_under (S : ST) (x1 : Int32) (x2 : Int32) (x3 : Int32) (x4 : Int32) : Option (Int32 × ST) := (f_X7_isPlaced S x1 x2 x3 x4).bind fun v1 => if v1 = 0 then (some ((-100001), S)) else ((f_X5_begin S x1).bind fun S2 => (f_X1_tideAt S2 x3).bind fun v3 => (f_X5_clearance S2 x2 v3 x4).bind fun v4 => some (v4, S2))
set_option maxRecDepth 100000 in
set_option maxHeartbeats 4000000 in
theorem k_X7_under (l : Launch) (G : GT) (S : ST) (x1 : Int32) (x2 : Int32) (x3 : Int32) (x4 : Int32) (r : Int32) (S' : ST) (hf : f_X7_under S x1 x2 x3 x4 = some (r, S')) : MI l yX7_under cX7_under 5 (some .int) 4 [.ref (ad G 0), .int x1, .int x2, .int x3, .int x4] G S r S' := by
  rw [f_X7_under] at hf
  refine mkI (own := RX7) (by decide +kernel) rfl rfl (Nat.le_of_ble_eq_true rfl) (fun p e s m args below meth c Q ls hC hP hS hl hQ => ?_)
  have hl : lv_has ls 5 [(0, .ref (ad G 0)), (1, .int x1), (2, .int x2), (3, .int x3), (4, .int x4)] := hl
  obtain ⟨hx, hb, hml, hown, hts⟩ := id hC.1
  refine lv_aload_n hx hb dX7_under_0 rfl (lv_at hl 0 rfl) ?_
  refine lv_iload_n hx hb dX7_under_1 rfl (lv_at hl 1 rfl) ?_
  refine lv_iload_n hx hb dX7_under_2 rfl (lv_at hl 2 rfl) ?_
  refine lv_iload_n hx hb dX7_under_3 rfl (lv_at hl 3 rfl) ?_
  refine lv_iload hx hb dX7_under_4 (lv_at hl 4 rfl) ?_
  obtain ⟨v1, hv, hf⟩ := ob_some hf
  refine cI hS (runV hC hP hS (As := [.int x1, .int x2, .int x3, .int x4]) (rest := []) (k_X7_isPlaced l G S x1 x2 x3 x4 _ hv) vy_X7_isPlaced sg_0 vc_7 tb_2_190 tb_2_192 ts_10 ⟨Nat.le_of_ble_eq_true rfl, Nat.le_of_ble_eq_true rfl⟩ rfl hl.1 rfl (Nat.le_of_ble_eq_true rfl) dX7_under_6) (fun H locs hP hS => ?_)
  refine lv_if_ne (tgt := 15) hx hb dX7_under_9 (by decide) (fun hc => ?_) (fun hc => ?_)
  · rw [if_neg hc] at hf
    refine lv_aload_n hx hb dX7_under_15 rfl (lv_at hl 0 rfl) ?_
    refine gFr hC hP (j := 2) sg_0 vc_7 iT7 (by decide) rfl tb_1_214 dX7_under_16 ?_
    refine lv_iload_n hx hb dX7_under_19 rfl (lv_at hl 1 rfl) ?_
    obtain ⟨S2, hv, hf⟩ := ob_some hf
    refine cV hS (runV hC hP hS (As := [.int x1]) (rest := []) (k_X5_begin l G S x1 _ hv) vy_X5_begin sg_11 vc_5 tb_2_198 tb_2_199 tb_2_200 ⟨Nat.le_of_ble_eq_true rfl, Nat.le_of_ble_eq_true rfl⟩ rfl hl.1 rfl (Nat.le_of_ble_eq_true rfl) dX7_under_20) (fun H locs hP hS => ?_)
    refine lv_aload_n hx hb dX7_under_23 rfl (lv_at hl 0 rfl) ?_
    refine gFr hC hP (j := 2) sg_0 vc_7 iT7 (by decide) rfl tb_1_214 dX7_under_24 ?_
    refine lv_iload_n hx hb dX7_under_27 rfl (lv_at hl 2 rfl) ?_
    refine lv_aload_n hx hb dX7_under_28 rfl (lv_at hl 0 rfl) ?_
    refine gFr hC hP (j := 0) sg_0 vc_7 iT7 (by decide) rfl tb_1_212 dX7_under_29 ?_
    refine lv_iload_n hx hb dX7_under_32 rfl (lv_at hl 3 rfl) ?_
    obtain ⟨v3, hv, hf⟩ := ob_some hf
    refine cI hS (runV hC hP hS (As := [.int x3]) (rest := [.int x2, .ref (ad G 11)]) (k_X1_tideAt l G S2 x3 _ hv) vy_X1_tideAt sg_1 vc_1 tb_2_166 tb_2_167 tb_2_168 ⟨Nat.le_of_ble_eq_true rfl, Nat.le_of_ble_eq_true rfl⟩ rfl hl.1 rfl (Nat.le_of_ble_eq_true rfl) dX7_under_33) (fun H locs hP hS => ?_)
    refine lv_iload hx hb dX7_under_36 (lv_at hl 4 rfl) ?_
    obtain ⟨v4, hv, hf⟩ := ob_some hf
    refine cI hS (runV hC hP hS (As := [.int x2, .int v3, .int x4]) (rest := []) (k_X5_clearance l G S2 x2 v3 x4 _ hv) vy_X5_clearance sg_11 vc_5 tb_2_233 tb_2_234 tb_2_235 ⟨Nat.le_of_ble_eq_true rfl, Nat.le_of_ble_eq_true rfl⟩ rfl hl.1 rfl (Nat.le_of_ble_eq_true rfl) dX7_under_38) (fun H locs hP hS => ?_)
    exact retIw hQ hf hP hS dX7_under_41
  · rw [if_pos hc] at hf
    refine lv_ldc hx hb hown (hts _ tb_2_181) dX7_under_12 ?_
    exact retIw hQ hf hP hS dX7_under_14
def f_X7_need (S : ST) (x1 : Int32) : Option (Int32 × ST) := (f_X1_hasShip S x1).bind fun v1 => if v1 = 0 then (some ((-1), S)) else ((f_X5_begin S x1).bind fun S2 => some ((S2.1 11 6), S2))
set_option maxRecDepth 100000 in
set_option maxHeartbeats 4000000 in
theorem k_X7_need (l : Launch) (G : GT) (S : ST) (x1 : Int32) (r : Int32) (S' : ST) (hf : f_X7_need S x1 = some (r, S')) : MI l yX7_need cX7_need 2 (some .int) 4 [.ref (ad G 0), .int x1] G S r S' := by
  rw [f_X7_need] at hf
  refine mkI (own := RX7) (by decide +kernel) rfl rfl (Nat.le_of_ble_eq_true rfl) (fun p e s m args below meth c Q ls hC hP hS hl hQ => ?_)
  have hl : lv_has ls 2 [(0, .ref (ad G 0)), (1, .int x1)] := hl
  obtain ⟨hx, hb, hml, hown, hts⟩ := id hC.1
  refine lv_aload_n hx hb dX7_need_0 rfl (lv_at hl 0 rfl) ?_
  refine gFr hC hP (j := 0) sg_0 vc_7 iT7 (by decide) rfl tb_1_212 dX7_need_1 ?_
  refine lv_iload_n hx hb dX7_need_4 rfl (lv_at hl 1 rfl) ?_
  obtain ⟨v1, hv, hf⟩ := ob_some hf
  refine cI hS (runV hC hP hS (As := [.int x1]) (rest := []) (k_X1_hasShip l G S x1 _ hv) vy_X1_hasShip sg_1 vc_1 tb_2_194 tb_2_195 tb_2_196 ⟨Nat.le_of_ble_eq_true rfl, Nat.le_of_ble_eq_true rfl⟩ rfl hl.1 rfl (Nat.le_of_ble_eq_true rfl) dX7_need_5) (fun H locs hP hS => ?_)
  refine lv_if_ne (tgt := 13) hx hb dX7_need_8 (by decide) (fun hc => ?_) (fun hc => ?_)
  · rw [if_neg hc] at hf
    refine lv_aload_n hx hb dX7_need_13 rfl (lv_at hl 0 rfl) ?_
    refine gFr hC hP (j := 2) sg_0 vc_7 iT7 (by decide) rfl tb_1_214 dX7_need_14 ?_
    refine lv_iload_n hx hb dX7_need_17 rfl (lv_at hl 1 rfl) ?_
    obtain ⟨S2, hv, hf⟩ := ob_some hf
    refine cV hS (runV hC hP hS (As := [.int x1]) (rest := []) (k_X5_begin l G S x1 _ hv) vy_X5_begin sg_11 vc_5 tb_2_198 tb_2_199 tb_2_200 ⟨Nat.le_of_ble_eq_true rfl, Nat.le_of_ble_eq_true rfl⟩ rfl hl.1 rfl (Nat.le_of_ble_eq_true rfl) dX7_need_18) (fun H locs hP hS => ?_)
    refine lv_aload_n hx hb dX7_need_21 rfl (lv_at hl 0 rfl) ?_
    refine gFr hC hP (j := 2) sg_0 vc_7 iT7 (by decide) rfl tb_1_214 dX7_need_22 ?_
    refine gFi hC hP (j := 6) sg_11 vc_5 iT5 (by decide) rfl tb_1_72 dX7_need_25 ?_
    exact retIw hQ hf hP hS dX7_need_28
  · rw [if_pos hc] at hf
    refine lv_iconst (v := (-1)) hx hb dX7_need_11 (by decide) ?_
    exact retIw hQ hf hP hS dX7_need_12
def f_X7_isMinute (x0 : Int32) : Option Int32 := (f_X7_within x0 0 1439).bind fun v1 => (bz v1).bind fun v2 => some v2
set_option maxRecDepth 100000 in
set_option maxHeartbeats 4000000 in
theorem k_X7_isMinute (l : Launch) (G : GT) (S : ST) (x0 : Int32) (r : Int32) (hf : f_X7_isMinute x0 = some r) : MI l yX7_isMinute cX7_isMinute 1 (some .boolean) 2 [.int x0] G S r S := by
  rw [f_X7_isMinute] at hf
  refine mkZ (own := RX7) (by decide +kernel) rfl (Nat.le_of_ble_eq_true rfl) (fun p e s m args below meth c Q ls hC hP hS hl hQ => ?_)
  have hl : lv_has ls 1 [(0, .int x0)] := hl
  obtain ⟨hx, hb, hml, hown, hts⟩ := id hC.1
  refine lv_iload_n hx hb dX7_isMinute_0 rfl (lv_at hl 0 rfl) ?_
  refine lv_iconst (v := 0) hx hb dX7_isMinute_1 (by decide) ?_
  refine lv_sipush (v := 1439) hx hb dX7_isMinute_2 (by decide) ?_
  obtain ⟨v1, hv, hf⟩ := ob_some hf
  refine cI hS (runS hC hP hS (As := [.int x0, .int 0, .int 1439]) (rest := []) (k_X7_within l G S x0 0 1439 _ hv) vy_X7_within tb_2_14 tb_2_15 ⟨Nat.le_of_ble_eq_true rfl, Nat.le_of_ble_eq_true rfl⟩ rfl hl.1 rfl (Nat.le_of_ble_eq_true rfl) dX7_isMinute_5) (fun H locs hP hS => ?_)
  obtain ⟨v2, hv, hf⟩ := ob_some hf
  refine bzW hv ?_
  exact retZ hQ (bz_n hv) hf hP hS dX7_isMinute_8
def f_X7_isStart (S : ST) (x1 : Int32) (x2 : Int32) : Option Int32 := (f_X1_hasShip S x1).bind fun v1 => if v1 = 0 then (some 0) else ((f_X7_isMinute x2).bind fun v2 => if v2 = 0 then (some 0) else (some 1))
set_option maxRecDepth 100000 in
set_option maxHeartbeats 4000000 in
theorem k_X7_isStart (l : Launch) (G : GT) (S : ST) (x1 : Int32) (x2 : Int32) (r : Int32) (hf : f_X7_isStart S x1 x2 = some r) : MI l yX7_isStart cX7_isStart 3 (some .boolean) 3 [.ref (ad G 0), .int x1, .int x2] G S r S := by
  rw [f_X7_isStart] at hf
  refine mkZ (own := RX7) (by decide +kernel) rfl (Nat.le_of_ble_eq_true rfl) (fun p e s m args below meth c Q ls hC hP hS hl hQ => ?_)
  have hl : lv_has ls 3 [(0, .ref (ad G 0)), (1, .int x1), (2, .int x2)] := hl
  obtain ⟨hx, hb, hml, hown, hts⟩ := id hC.1
  refine lv_aload_n hx hb dX7_isStart_0 rfl (lv_at hl 0 rfl) ?_
  refine gFr hC hP (j := 0) sg_0 vc_7 iT7 (by decide) rfl tb_1_212 dX7_isStart_1 ?_
  refine lv_iload_n hx hb dX7_isStart_4 rfl (lv_at hl 1 rfl) ?_
  obtain ⟨v1, hv, hf⟩ := ob_some hf
  refine cI hS (runV hC hP hS (As := [.int x1]) (rest := []) (k_X1_hasShip l G S x1 _ hv) vy_X1_hasShip sg_1 vc_1 tb_2_194 tb_2_195 tb_2_196 ⟨Nat.le_of_ble_eq_true rfl, Nat.le_of_ble_eq_true rfl⟩ rfl hl.1 rfl (Nat.le_of_ble_eq_true rfl) dX7_isStart_5) (fun H locs hP hS => ?_)
  refine lv_if_eq (tgt := 22) hx hb dX7_isStart_8 (by decide) (fun hc => ?_) (fun hc => ?_)
  · rw [if_pos hc] at hf
    refine lv_iconst (v := 0) hx hb dX7_isStart_22 (by decide) ?_
    exact retZ hQ rfl hf hP hS dX7_isStart_23
  · rw [if_neg hc] at hf
    refine lv_iload_n hx hb dX7_isStart_11 rfl (lv_at hl 2 rfl) ?_
    obtain ⟨v2, hv, hf⟩ := ob_some hf
    refine cI hS (runS hC hP hS (As := [.int x2]) (rest := []) (k_X7_isMinute l G S x2 _ hv) vy_X7_isMinute tb_3_15 tb_3_16 ⟨Nat.le_of_ble_eq_true rfl, Nat.le_of_ble_eq_true rfl⟩ rfl hl.1 rfl (Nat.le_of_ble_eq_true rfl) dX7_isStart_12) (fun H locs hP hS => ?_)
    refine lv_if_eq (tgt := 22) hx hb dX7_isStart_15 (by decide) (fun hc => ?_) (fun hc => ?_)
    · rw [if_pos hc] at hf
      refine lv_iconst (v := 0) hx hb dX7_isStart_22 (by decide) ?_
      exact retZ hQ rfl hf hP hS dX7_isStart_23
    · rw [if_neg hc] at hf
      refine lv_iconst (v := 1) hx hb dX7_isStart_18 (by decide) ?_
      refine lv_goto (tgt := 23) hx hb dX7_isStart_19 (by decide) ?_
      exact retZ hQ rfl hf hP hS dX7_isStart_23
def f_X7_minutesBy (x0 : Int32) : Option Int32 := (f_J9_max_7cf53 1 x0).bind fun v1 => (dv 60 v1).bind fun v2 => some v2
set_option maxRecDepth 100000 in
set_option maxHeartbeats 4000000 in
theorem k_X7_minutesBy (l : Launch) (G : GT) (S : ST) (x0 : Int32) (r : Int32) (hf : f_X7_minutesBy x0 = some r) : MI l yX7_minutesBy cX7_minutesBy 1 (some .int) 2 [.int x0] G S r S := by
  rw [f_X7_minutesBy] at hf
  refine mkI (own := RX7) (by decide +kernel) rfl rfl (Nat.le_of_ble_eq_true rfl) (fun p e s m args below meth c Q ls hC hP hS hl hQ => ?_)
  have hl : lv_has ls 1 [(0, .int x0)] := hl
  obtain ⟨hx, hb, hml, hown, hts⟩ := id hC.1
  refine lv_bipush (v := 60) hx hb dX7_minutesBy_0 (by decide) ?_
  refine lv_iconst (v := 1) hx hb dX7_minutesBy_2 (by decide) ?_
  refine lv_iload_n hx hb dX7_minutesBy_3 rfl (lv_at hl 0 rfl) ?_
  obtain ⟨v1, hv, hf⟩ := ob_some hf
  refine cI hS (runS hC hP hS (As := [.int 1, .int x0]) (rest := [.int 60]) (k_J9_max_7cf53 l G S 1 x0 _ hv) vy_J9_max_7cf53 tb_3_30 tb_2_151 ⟨Nat.le_of_ble_eq_true rfl, Nat.le_of_ble_eq_true rfl⟩ rfl hl.1 rfl (Nat.le_of_ble_eq_true rfl) dX7_minutesBy_4) (fun H locs hP hS => ?_)
  obtain ⟨v2, hv, hf⟩ := ob_some hf
  refine xDv hC hv dX7_minutesBy_7 ?_
  exact retI hQ hf hP hS dX7_minutesBy_8
def f_X6_sail_112  (k19 : ST → Int32 → Int32 → Option ST) (S : ST) (x2 : Int32) (x3 : Int32) : Option ST := k19 S x2 (x3 + 1)
set_option maxRecDepth 100000 in
set_option maxHeartbeats 4000000 in
theorem w_X6_sail_112 {S' : ST} (hC : Cx p m c s args cX6_sail 6 RX6 G) (hQ : KV p l e (rmH 4) s m args below meth c Q cX6_sail G S') {k19 : ST → Int32 → Int32 → Option ST} (hk19 : ∀ (S : ST) (x2 : Int32) (x3 : Int32) (H : Heap) (locs : List Loc) (ls : Array Slot), va_P (gD G) vwCl (cells G S) H → va_S (gA G) s.heap H locs → lv_has ls 6 [(0, .ref (ad G 12)), (1, .ref (ad G 11)), (2, .int x2), (3, .int x3)] → k19 S x2 x3 = some S' → W p l e (rmH 4) s m args below meth c H locs 0 0 Q (F0 m 19 ls [])) (S : ST) (x2 : Int32) (x3 : Int32) (H : Heap) (locs : List Loc) (ls : Array Slot) (hP : va_P (gD G) vwCl (cells G S) H) (hS : va_S (gA G) s.heap H locs) (hl : lv_has ls 6 [(0, .ref (ad G 12)), (1, .ref (ad G 11)), (2, .int x2), (3, .int x3)]) (hf : f_X6_sail_112 k19 S x2 x3 = some S') : W p l e (rmH 4) s m args below meth c H locs 0 0 Q (F0 m 112 ls []) := by
  obtain ⟨hx, hb, hml, hown, hts⟩ := id hC.1
  rw [f_X6_sail_112] at hf
  refine lv_iinc (v := x3 + 1) (lv' := [(3, .int (x3 + 1)), (0, .ref (ad G 12)), (1, .ref (ad G 11)), (2, .int x2)]) hx hb dX6_sail_112 hl (k := 3) rfl rfl (by decide) rfl (fun ls hl => ?_)
  refine lv_goto (tgt := 19) hx hb dX6_sail_115 (by decide) ?_
  exact hk19 _ _ _ _ _ _ hP hS (lv_sub hl [1, 2, 3, 0] rfl) hf
def f_X6_sail_19  : Nat → ST → Int32 → Int32 → Option ST
  | 0, _, _, _ => none
  | n + 1, S, x2, x3 => if (S.1 1 0) ≤ x3 then (some S) else (if (S.1 12 1) = (-4) then ((f_X1_markOf S x3 5).bind fun v1 => (f_X1_tideAt S (x2 + (S.1 12 2))).bind fun v2 => (f_X5_clearance S x3 v2 v1).bind fun v3 => (f_J9_min_7cf53 (S.1 12 3) v3).bind fun v4 => if 0 ≤ v3 then ((f_X7_minutesBy v1).bind fun v5 => f_X6_sail_112 (f_X6_sail_19 n) (sI (sI S 12 3 v4) 12 2 (((sI S 12 3 v4).1 12 2) + v5)) x2 x3) else (f_X6_sail_112 (f_X6_sail_19 n) (sI (sI S 12 3 v4) 12 1 x3) x2 x3)) else (some S))
set_option maxRecDepth 100000 in
set_option maxHeartbeats 4000000 in
theorem w_X6_sail_19 {S' : ST} (hC : Cx p m c s args cX6_sail 6 RX6 G) (hQ : KV p l e (rmH 4) s m args below meth c Q cX6_sail G S') : ∀ (n : Nat) (S : ST) (x2 : Int32) (x3 : Int32) (H : Heap) (locs : List Loc) (ls : Array Slot), va_P (gD G) vwCl (cells G S) H → va_S (gA G) s.heap H locs → lv_has ls 6 [(0, .ref (ad G 12)), (1, .ref (ad G 11)), (2, .int x2), (3, .int x3)] → f_X6_sail_19 n S x2 x3 = some S' → W p l e (rmH 4) s m args below meth c H locs 0 0 Q (F0 m 19 ls []) := by
  obtain ⟨hx, hb, hml, hown, hts⟩ := id hC.1
  intro n
  induction n with
  | zero => intro S x2 x3 H locs ls hP hS hl hf; rw [f_X6_sail_19] at hf; cases hf
  | succ n ih =>
    intro S x2 x3 H locs ls hP hS hl hf
    rw [f_X6_sail_19] at hf
    refine lv_iload_n hx hb dX6_sail_19 rfl (lv_at hl 3 rfl) ?_
    refine lv_aload_n hx hb dX6_sail_20 rfl (lv_at hl 0 rfl) ?_
    refine gFr hC hP (j := 0) sg_12 vc_6 iT6 (by decide) rfl tb_1_98 dX6_sail_21 ?_
    refine gFi hC hP (j := 0) sg_1 vc_1 iT1 (by decide) rfl tb_1_29 dX6_sail_24 ?_
    refine lv_icmp_ge (tgt := 118) hx hb dX6_sail_27 (by decide) (fun hc => ?_) (fun hc => ?_)
    · rw [if_pos hc] at hf
      exact retV hQ hf hP hS dX6_sail_118
    · rw [if_neg hc] at hf
      refine lv_aload_n hx hb dX6_sail_30 rfl (lv_at hl 0 rfl) ?_
      refine gFi hC hP (j := 1) sg_12 vc_6 iT6 (by decide) rfl tb_1_99 dX6_sail_31 ?_
      refine lv_bipush (v := (-4)) hx hb dX6_sail_34 (by decide) ?_
      refine lv_icmp_ne (tgt := 118) hx hb dX6_sail_36 (by decide) (fun hc => ?_) (fun hc => ?_)
      · rw [if_neg hc] at hf
        exact retV hQ hf hP hS dX6_sail_118
      · rw [if_pos hc] at hf
        refine lv_aload_n hx hb dX6_sail_39 rfl (lv_at hl 0 rfl) ?_
        refine gFr hC hP (j := 0) sg_12 vc_6 iT6 (by decide) rfl tb_1_98 dX6_sail_40 ?_
        refine lv_iload_n hx hb dX6_sail_43 rfl (lv_at hl 3 rfl) ?_
        refine lv_iconst (v := 5) hx hb dX6_sail_44 (by decide) ?_
        obtain ⟨v1, hv, hf⟩ := ob_some hf
        refine cI hS (runV hC hP hS (As := [.int x3, .int 5]) (rest := []) (k_X1_markOf l G S x3 5 _ hv) vy_X1_markOf sg_1 vc_1 tb_3_23 tb_2_26 tb_2_27 ⟨Nat.le_of_ble_eq_true rfl, Nat.le_of_ble_eq_true rfl⟩ rfl hl.1 rfl (Nat.le_of_ble_eq_true rfl) dX6_sail_45) (fun H locs hP hS => ?_)
        refine lv_istore (lv' := [(4, .int v1), (0, .ref (ad G 12)), (1, .ref (ad G 11)), (2, .int x2), (3, .int x3)]) hx hb dX6_sail_48 hl (by decide) rfl (fun ls hl => ?_)
        refine lv_aload_n hx hb dX6_sail_50 rfl (lv_at hl 2 rfl) ?_
        refine lv_iload_n hx hb dX6_sail_51 rfl (lv_at hl 4 rfl) ?_
        refine lv_aload_n hx hb dX6_sail_52 rfl (lv_at hl 1 rfl) ?_
        refine gFr hC hP (j := 0) sg_12 vc_6 iT6 (by decide) rfl tb_1_98 dX6_sail_53 ?_
        refine lv_iload_n hx hb dX6_sail_56 rfl (lv_at hl 3 rfl) ?_
        refine lv_aload_n hx hb dX6_sail_57 rfl (lv_at hl 1 rfl) ?_
        refine gFi hC hP (j := 2) sg_12 vc_6 iT6 (by decide) rfl tb_1_101 dX6_sail_58 ?_
        refine lv_iadd hx hb dX6_sail_61 ?_
        obtain ⟨v2, hv, hf⟩ := ob_some hf
        refine cI hS (runV hC hP hS (As := [.int (x2 + (S.1 12 2))]) (rest := [.int x3, .ref (ad G 11)]) (k_X1_tideAt l G S (x2 + (S.1 12 2)) _ hv) vy_X1_tideAt sg_1 vc_1 tb_3_24 tb_2_167 tb_2_168 ⟨Nat.le_of_ble_eq_true rfl, Nat.le_of_ble_eq_true rfl⟩ rfl hl.1 rfl (Nat.le_of_ble_eq_true rfl) dX6_sail_62) (fun H locs hP hS => ?_)
        refine lv_iload hx hb dX6_sail_65 (lv_at hl 0 rfl) ?_
        obtain ⟨v3, hv, hf⟩ := ob_some hf
        refine cI hS (runV hC hP hS (As := [.int x3, .int v2, .int v1]) (rest := []) (k_X5_clearance l G S x3 v2 v1 _ hv) vy_X5_clearance sg_11 vc_5 tb_3_25 tb_2_234 tb_2_235 ⟨Nat.le_of_ble_eq_true rfl, Nat.le_of_ble_eq_true rfl⟩ rfl hl.1 rfl (Nat.le_of_ble_eq_true rfl) dX6_sail_67) (fun H locs hP hS => ?_)
        refine lv_istore (lv' := [(5, .int v3), (4, .int v1), (0, .ref (ad G 12)), (1, .ref (ad G 11)), (2, .int x2), (3, .int x3)]) hx hb dX6_sail_70 hl (by decide) rfl (fun ls hl => ?_)
        refine lv_aload_n hx hb dX6_sail_72 rfl (lv_at hl 2 rfl) ?_
        refine lv_aload_n hx hb dX6_sail_73 rfl (lv_at hl 2 rfl) ?_
        refine gFi hC hP (j := 3) sg_12 vc_6 iT6 (by decide) rfl tb_1_103 dX6_sail_74 ?_
        refine lv_iload hx hb dX6_sail_77 (lv_at hl 0 rfl) ?_
        obtain ⟨v4, hv, hf⟩ := ob_some hf
        refine cI hS (runS hC hP hS (As := [.int (S.1 12 3), .int v3]) (rest := [.ref (ad G 12)]) (k_J9_min_7cf53 l G S (S.1 12 3) v3 _ hv) vy_J9_min_7cf53 tb_3_26 tb_2_112 ⟨Nat.le_of_ble_eq_true rfl, Nat.le_of_ble_eq_true rfl⟩ rfl hl.1 rfl (Nat.le_of_ble_eq_true rfl) dX6_sail_79) (fun H locs hP hS => ?_)
        refine pFi hC hP hS (j := 3) sg_12 vc_6 iT6 tyX6_ok nmX6 (by decide) rfl tb_1_103 rfl rfl rfl dX6_sail_82 (fun H locs hP hS => ?_)
        refine lv_iload hx hb dX6_sail_85 (lv_at hl 0 rfl) ?_
        refine lv_if_ge (tgt := 98) hx hb dX6_sail_87 (by decide) (fun hc => ?_) (fun hc => ?_)
        · rw [if_pos hc] at hf
          refine lv_aload_n hx hb dX6_sail_98 rfl (lv_at hl 2 rfl) ?_
          refine lv_dup hx hb dX6_sail_99 rfl ?_
          refine gFi hC hP (j := 2) sg_12 vc_6 iT6 (by decide) rfl tb_1_101 dX6_sail_100 ?_
          refine lv_iload hx hb dX6_sail_103 (lv_at hl 1 rfl) ?_
          obtain ⟨v5, hv, hf⟩ := ob_some hf
          refine cI hS (runSN hC hP hS (As := [.int v1]) (rest := [.int ((sI S 12 3 v4).1 12 2), .ref (ad G 12)]) (k_X7_minutesBy l G (sI S 12 3 v4) v1 _ hv) vy_X7_minutesBy nw_8 tb_3_28 ⟨Nat.le_of_ble_eq_true rfl, Nat.le_of_ble_eq_true rfl⟩ rfl hl.1 rfl (Nat.le_of_ble_eq_true rfl) dX6_sail_105) (fun H locs hP hS => ?_)
          refine lv_iadd hx hb dX6_sail_108 ?_
          refine pFi hC hP hS (j := 2) sg_12 vc_6 iT6 tyX6_ok nmX6 (by decide) rfl tb_1_101 rfl rfl rfl dX6_sail_109 (fun H locs hP hS => ?_)
          exact w_X6_sail_112 hC hQ ih  _ _ _ _ _ _ hP hS (lv_sub hl [2, 3, 4, 5] rfl) hf
        · rw [if_neg hc] at hf
          refine lv_aload_n hx hb dX6_sail_90 rfl (lv_at hl 2 rfl) ?_
          refine lv_iload_n hx hb dX6_sail_91 rfl (lv_at hl 5 rfl) ?_
          refine pFi hC hP hS (j := 1) sg_12 vc_6 iT6 tyX6_ok nmX6 (by decide) rfl tb_1_99 rfl rfl rfl dX6_sail_92 (fun H locs hP hS => ?_)
          refine lv_goto (tgt := 112) hx hb dX6_sail_95 (by decide) ?_
          exact w_X6_sail_112 hC hQ ih  _ _ _ _ _ _ hP hS (lv_sub hl [2, 3, 4, 5] rfl) hf
def f_X6_sail (S : ST) (x2 : Int32) : Option ST := f_X6_sail_19 FU (sI (sI (sI S 12 1 (-4)) 12 2 0) 12 3 2147483647) x2 0
set_option maxRecDepth 100000 in
set_option maxHeartbeats 4000000 in
theorem k_X6_sail (l : Launch) (G : GT) (S : ST) (x2 : Int32) (S' : ST) (hf : f_X6_sail S x2 = some S') : MV l yX6_sail cX6_sail 6 4 [.ref (ad G 12), .ref (ad G 11), .int x2] G S S' := by
  rw [f_X6_sail] at hf
  refine mkV (own := RX6) (by decide +kernel) rfl (Nat.le_of_ble_eq_true rfl) (fun p e s m args below meth c Q ls hC hP hS hl hQ => ?_)
  have hl : lv_has ls 6 [(0, .ref (ad G 12)), (1, .ref (ad G 11)), (2, .int x2)] := hl
  obtain ⟨hx, hb, hml, hown, hts⟩ := id hC.1
  refine lv_aload_n hx hb dX6_sail_0 rfl (lv_at hl 0 rfl) ?_
  refine lv_bipush (v := (-4)) hx hb dX6_sail_1 (by decide) ?_
  refine pFi hC hP hS (j := 1) sg_12 vc_6 iT6 tyX6_ok nmX6 (by decide) rfl tb_1_99 rfl rfl rfl dX6_sail_3 (fun H locs hP hS => ?_)
  refine lv_aload_n hx hb dX6_sail_6 rfl (lv_at hl 0 rfl) ?_
  refine lv_iconst (v := 0) hx hb dX6_sail_7 (by decide) ?_
  refine pFi hC hP hS (j := 2) sg_12 vc_6 iT6 tyX6_ok nmX6 (by decide) rfl tb_1_101 rfl rfl rfl dX6_sail_8 (fun H locs hP hS => ?_)
  refine lv_aload_n hx hb dX6_sail_11 rfl (lv_at hl 0 rfl) ?_
  refine lv_ldc hx hb hown (hts _ tb_3_22) dX6_sail_12 ?_
  refine pFi hC hP hS (j := 3) sg_12 vc_6 iT6 tyX6_ok nmX6 (by decide) rfl tb_1_103 rfl rfl rfl dX6_sail_14 (fun H locs hP hS => ?_)
  refine lv_iconst (v := 0) hx hb dX6_sail_17 (by decide) ?_
  refine lv_istore_n (lv' := [(3, .int 0), (0, .ref (ad G 12)), (1, .ref (ad G 11)), (2, .int x2)]) hx hb dX6_sail_18 rfl hl (by decide) rfl (fun ls hl => ?_)
  exact w_X6_sail_19 hC hQ _ _ _ _ _ _ _ hP hS (lv_sub hl [1, 2, 3, 0] rfl) hf
end
