section
variable {p : Program} {l : Launch} {e : Env} {s : State} {m : MethodId} {args : Array Value} {below : List Frame} {meth : Method} {c : Code} {Q : State → Prop} {G : GT}

def f_X8_restore (S : ST)  : Option (Int32 × ST) := if (S.1 30 24) = 0 then (some ((-4), S)) else (b2 (f_X8_gives S 0 31) fun v1 S2 => b2 (f_X8_gives S2 v1 32) fun v3 S4 => b2 (f_X8_gives S4 v3 33) fun v5 S6 => b2 (f_X8_gives S6 v5 34) fun v7 S8 => (rI S8 0 45 v7).bind fun v9 => (rI (sI S8 30 0 v9) 0 45 (v7 + 1)).bind fun v10 => some (1, (sI (sI S8 30 0 v9) 30 4 v10)))
set_option maxRecDepth 100000 in
set_option maxHeartbeats 4000000 in
theorem k_X8_restore (l : Launch) (G : GT) (S : ST)  (r : Int32) (S' : ST) (hf : f_X8_restore S  = some (r, S')) : MI l yX8_restore cX8_restore 2 (some .int) 2 [.ref (ad G 30)] G S r S' := by
  rw [f_X8_restore] at hf
  refine mkI (own := RX8) (by decide +kernel) rfl rfl (Nat.le_of_ble_eq_true rfl) (fun p e s m args below meth c Q ls hC hP hS hl hQ => ?_)
  have hl : lv_has ls 2 [(0, .ref (ad G 30))] := hl
  obtain ⟨hx, hb, hml, hown, hts⟩ := id hC.1
  refine lv_aload_n hx hb dX8_restore_0 rfl (lv_at hl 0 rfl) ?_
  refine gFi hC hP (j := 24) sg_30 vc_8 iT8 (by decide) rfl tb_4_95 dX8_restore_1 ?_
  refine lv_if_ne (tgt := 10) hx hb dX8_restore_4 (by decide) (fun hc => ?_) (fun hc => ?_)
  · rw [if_neg hc] at hf
    refine lv_aload_n hx hb dX8_restore_10 rfl (lv_at hl 0 rfl) ?_
    refine lv_iconst (v := 0) hx hb dX8_restore_11 (by decide) ?_
    refine lv_aload_n hx hb dX8_restore_12 rfl (lv_at hl 0 rfl) ?_
    refine gFr hC hP (j := 1) sg_30 vc_8 iT8 (by decide) rfl tb_4_72 dX8_restore_13 ?_
    obtain ⟨v1, S2, hv, hf⟩ := ob_two hf
    refine cI hS (runV hC hP hS (As := [.int 0, .ref (ad G 31)]) (rest := []) (k_X8_gives l G S 0 31 _ _ hv) vy_X8_gives sg_30 vc_8 tb_5_174 tb_5_176 ts_48 ⟨Nat.le_of_ble_eq_true rfl, Nat.le_of_ble_eq_true rfl⟩ rfl hl.1 rfl (Nat.le_of_ble_eq_true rfl) dX8_restore_16) (fun H locs hP hS => ?_)
    refine lv_istore_n (lv' := [(1, .int v1), (0, .ref (ad G 30))]) hx hb dX8_restore_19 rfl hl (by decide) rfl (fun ls hl => ?_)
    refine lv_aload_n hx hb dX8_restore_20 rfl (lv_at hl 1 rfl) ?_
    refine lv_iload_n hx hb dX8_restore_21 rfl (lv_at hl 0 rfl) ?_
    refine lv_aload_n hx hb dX8_restore_22 rfl (lv_at hl 1 rfl) ?_
    refine gFr hC hP (j := 2) sg_30 vc_8 iT8 (by decide) rfl tb_4_73 dX8_restore_23 ?_
    obtain ⟨v3, S4, hv, hf⟩ := ob_two hf
    refine cI hS (runV hC hP hS (As := [.int v1, .ref (ad G 32)]) (rest := []) (k_X8_gives l G S2 v1 32 _ _ hv) vy_X8_gives sg_30 vc_8 tb_5_174 tb_5_176 ts_48 ⟨Nat.le_of_ble_eq_true rfl, Nat.le_of_ble_eq_true rfl⟩ rfl hl.1 rfl (Nat.le_of_ble_eq_true rfl) dX8_restore_26) (fun H locs hP hS => ?_)
    refine lv_istore_n (lv' := [(1, .int v3), (0, .ref (ad G 30))]) hx hb dX8_restore_29 rfl hl (by decide) rfl (fun ls hl => ?_)
    refine lv_aload_n hx hb dX8_restore_30 rfl (lv_at hl 1 rfl) ?_
    refine lv_iload_n hx hb dX8_restore_31 rfl (lv_at hl 0 rfl) ?_
    refine lv_aload_n hx hb dX8_restore_32 rfl (lv_at hl 1 rfl) ?_
    refine gFr hC hP (j := 3) sg_30 vc_8 iT8 (by decide) rfl tb_4_74 dX8_restore_33 ?_
    obtain ⟨v5, S6, hv, hf⟩ := ob_two hf
    refine cI hS (runV hC hP hS (As := [.int v3, .ref (ad G 33)]) (rest := []) (k_X8_gives l G S4 v3 33 _ _ hv) vy_X8_gives sg_30 vc_8 tb_5_174 tb_5_176 ts_48 ⟨Nat.le_of_ble_eq_true rfl, Nat.le_of_ble_eq_true rfl⟩ rfl hl.1 rfl (Nat.le_of_ble_eq_true rfl) dX8_restore_36) (fun H locs hP hS => ?_)
    refine lv_istore_n (lv' := [(1, .int v5), (0, .ref (ad G 30))]) hx hb dX8_restore_39 rfl hl (by decide) rfl (fun ls hl => ?_)
    refine lv_aload_n hx hb dX8_restore_40 rfl (lv_at hl 1 rfl) ?_
    refine lv_iload_n hx hb dX8_restore_41 rfl (lv_at hl 0 rfl) ?_
    refine lv_aload_n hx hb dX8_restore_42 rfl (lv_at hl 1 rfl) ?_
    refine gFr hC hP (j := 5) sg_30 vc_8 iT8 (by decide) rfl tb_4_76 dX8_restore_43 ?_
    obtain ⟨v7, S8, hv, hf⟩ := ob_two hf
    refine cI hS (runV hC hP hS (As := [.int v5, .ref (ad G 34)]) (rest := []) (k_X8_gives l G S6 v5 34 _ _ hv) vy_X8_gives sg_30 vc_8 tb_5_174 tb_5_176 ts_48 ⟨Nat.le_of_ble_eq_true rfl, Nat.le_of_ble_eq_true rfl⟩ rfl hl.1 rfl (Nat.le_of_ble_eq_true rfl) dX8_restore_46) (fun H locs hP hS => ?_)
    refine lv_istore_n (lv' := [(1, .int v7), (0, .ref (ad G 30))]) hx hb dX8_restore_49 rfl hl (by decide) rfl (fun ls hl => ?_)
    refine lv_aload_n hx hb dX8_restore_50 rfl (lv_at hl 1 rfl) ?_
    refine lv_aload_n hx hb dX8_restore_51 rfl (lv_at hl 1 rfl) ?_
    refine gFr hC hP (j := 23) sg_30 vc_8 iT8 (by decide) rfl tb_4_94 dX8_restore_52 ?_
    refine lv_iload_n hx hb dX8_restore_55 rfl (lv_at hl 0 rfl) ?_
    obtain ⟨v9, hv, hf⟩ := ob_some hf
    refine gIa hC hP hv dX8_restore_56 ?_
    refine pFi hC hP hS (j := 0) sg_30 vc_8 iT8 tyX8_ok nmX8 (by decide) rfl tb_4_71 rfl rfl rfl dX8_restore_57 (fun H locs hP hS => ?_)
    refine lv_aload_n hx hb dX8_restore_60 rfl (lv_at hl 1 rfl) ?_
    refine lv_aload_n hx hb dX8_restore_61 rfl (lv_at hl 1 rfl) ?_
    refine gFr hC hP (j := 23) sg_30 vc_8 iT8 (by decide) rfl tb_4_94 dX8_restore_62 ?_
    refine lv_iload_n hx hb dX8_restore_65 rfl (lv_at hl 0 rfl) ?_
    refine lv_iconst (v := 1) hx hb dX8_restore_66 (by decide) ?_
    refine lv_iadd hx hb dX8_restore_67 ?_
    obtain ⟨v10, hv, hf⟩ := ob_some hf
    refine gIa hC hP hv dX8_restore_68 ?_
    refine pFi hC hP hS (j := 4) sg_30 vc_8 iT8 tyX8_ok nmX8 (by decide) rfl tb_4_75 rfl rfl rfl dX8_restore_69 (fun H locs hP hS => ?_)
    refine lv_iconst (v := 1) hx hb dX8_restore_72 (by decide) ?_
    exact retIw hQ hf hP hS dX8_restore_73
  · rw [if_pos hc] at hf
    refine lv_bipush (v := (-4)) hx hb dX8_restore_7 (by decide) ?_
    exact retIw hQ hf hP hS dX8_restore_9
def f_X8_isSheet (x0 : Int32) : Option Int32 := (f_X8_in (x0.toInt64) 0 3).bind fun v1 => (bz v1).bind fun v2 => some v2
set_option maxRecDepth 100000 in
set_option maxHeartbeats 4000000 in
theorem k_X8_isSheet (l : Launch) (G : GT) (S : ST) (x0 : Int32) (r : Int32) (hf : f_X8_isSheet x0 = some r) : MI l yX8_isSheet cX8_isSheet 1 (some .boolean) 2 [.int x0] G S r S := by
  rw [f_X8_isSheet] at hf
  refine mkZ (own := RX8) (by decide +kernel) rfl (Nat.le_of_ble_eq_true rfl) (fun p e s m args below meth c Q ls hC hP hS hl hQ => ?_)
  have hl : lv_has ls 1 [(0, .int x0)] := hl
  obtain ⟨hx, hb, hml, hown, hts⟩ := id hC.1
  refine lv_iload_n hx hb dX8_isSheet_0 rfl (lv_at hl 0 rfl) ?_
  refine lv_i2l (v := x0.toInt64) hx hb dX8_isSheet_1 rfl ?_
  refine lv_lconst (v := 0) hx hb dX8_isSheet_2 (by decide) ?_
  refine lv_ldc2 hx hb hown (hts _ tb_5_78) dX8_isSheet_3 ?_
  obtain ⟨v1, hv, hf⟩ := ob_some hf
  refine cI hS (runS hC hP hS (As := [.long (x0.toInt64), .long 0, .long 3]) (rest := []) (k_X8_in l G S (x0.toInt64) 0 3 _ hv) vy_X8_in tb_4_169 tb_4_170 ⟨Nat.le_of_ble_eq_true rfl, Nat.le_of_ble_eq_true rfl⟩ rfl hl.1 rfl (Nat.le_of_ble_eq_true rfl) dX8_isSheet_6) (fun H locs hP hS => ?_)
  obtain ⟨v2, hv, hf⟩ := ob_some hf
  refine bzW hv ?_
  exact retZ hQ (bz_n hv) hf hP hS dX8_isSheet_9
def f_X8_isLane (x0 : Int32) : Option Int32 := (f_X8_in (x0.toInt64) 0 2).bind fun v1 => (bz v1).bind fun v2 => some v2
set_option maxRecDepth 100000 in
set_option maxHeartbeats 4000000 in
theorem k_X8_isLane (l : Launch) (G : GT) (S : ST) (x0 : Int32) (r : Int32) (hf : f_X8_isLane x0 = some r) : MI l yX8_isLane cX8_isLane 1 (some .boolean) 2 [.int x0] G S r S := by
  rw [f_X8_isLane] at hf
  refine mkZ (own := RX8) (by decide +kernel) rfl (Nat.le_of_ble_eq_true rfl) (fun p e s m args below meth c Q ls hC hP hS hl hQ => ?_)
  have hl : lv_has ls 1 [(0, .int x0)] := hl
  obtain ⟨hx, hb, hml, hown, hts⟩ := id hC.1
  refine lv_iload_n hx hb dX8_isLane_0 rfl (lv_at hl 0 rfl) ?_
  refine lv_i2l (v := x0.toInt64) hx hb dX8_isLane_1 rfl ?_
  refine lv_lconst (v := 0) hx hb dX8_isLane_2 (by decide) ?_
  refine lv_ldc2 hx hb hown (hts _ tb_5_97) dX8_isLane_3 ?_
  obtain ⟨v1, hv, hf⟩ := ob_some hf
  refine cI hS (runS hC hP hS (As := [.long (x0.toInt64), .long 0, .long 2]) (rest := []) (k_X8_in l G S (x0.toInt64) 0 2 _ hv) vy_X8_in tb_4_169 tb_4_170 ⟨Nat.le_of_ble_eq_true rfl, Nat.le_of_ble_eq_true rfl⟩ rfl hl.1 rfl (Nat.le_of_ble_eq_true rfl) dX8_isLane_6) (fun H locs hP hS => ?_)
  obtain ⟨v2, hv, hf⟩ := ob_some hf
  refine bzW hv ?_
  exact retZ hQ (bz_n hv) hf hP hS dX8_isLane_9
def f_X8_finds (S : ST) (x1 : Int32) (x2 : Int32) (x3 : Int32) (x4 : Int32) : Option Int32 := (rI S 0 46 x1).bind fun v1 => if 0 ≤ v1 then ((rI S 0 46 x1).bind fun v2 => if v2 = x2 then (if x3 < 0 then (some (-13)) else ((rI S 0 47 x1).bind fun v3 => if (lg_cmp ((x3.toInt64) + (x4.toInt64)) (v3.toInt64)) ≤ 0 then (some 0) else (some (-13)))) else (some (-12))) else (some (-11))
set_option maxRecDepth 100000 in
set_option maxHeartbeats 4000000 in
theorem k_X8_finds (l : Launch) (G : GT) (S : ST) (x1 : Int32) (x2 : Int32) (x3 : Int32) (x4 : Int32) (r : Int32) (hf : f_X8_finds S x1 x2 x3 x4 = some r) : MI l yX8_finds cX8_finds 5 (some .int) 1 [.ref (ad G 30), .int x1, .int x2, .int x3, .int x4] G S r S := by
  rw [f_X8_finds] at hf
  refine mkI (own := RX8) (by decide +kernel) rfl rfl (Nat.le_of_ble_eq_true rfl) (fun p e s m args below meth c Q ls hC hP hS hl hQ => ?_)
  have hl : lv_has ls 5 [(0, .ref (ad G 30)), (1, .int x1), (2, .int x2), (3, .int x3), (4, .int x4)] := hl
  obtain ⟨hx, hb, hml, hown, hts⟩ := id hC.1
  refine lv_aload_n hx hb dX8_finds_0 rfl (lv_at hl 0 rfl) ?_
  refine gFr hC hP (j := 25) sg_30 vc_8 iT8 (by decide) rfl tb_4_96 dX8_finds_1 ?_
  refine lv_iload_n hx hb dX8_finds_4 rfl (lv_at hl 1 rfl) ?_
  obtain ⟨v1, hv, hf⟩ := ob_some hf
  refine gIa hC hP hv dX8_finds_5 ?_
  refine lv_if_ge (tgt := 12) hx hb dX8_finds_6 (by decide) (fun hc => ?_) (fun hc => ?_)
  · rw [if_pos hc] at hf
    refine lv_aload_n hx hb dX8_finds_12 rfl (lv_at hl 0 rfl) ?_
    refine gFr hC hP (j := 25) sg_30 vc_8 iT8 (by decide) rfl tb_4_96 dX8_finds_13 ?_
    refine lv_iload_n hx hb dX8_finds_16 rfl (lv_at hl 1 rfl) ?_
    obtain ⟨v2, hv, hf⟩ := ob_some hf
    refine gIa hC hP hv dX8_finds_17 ?_
    refine lv_iload_n hx hb dX8_finds_18 rfl (lv_at hl 2 rfl) ?_
    refine lv_icmp_eq (tgt := 25) hx hb dX8_finds_19 (by decide) (fun hc => ?_) (fun hc => ?_)
    · rw [if_pos hc] at hf
      refine lv_iload_n hx hb dX8_finds_25 rfl (lv_at hl 3 rfl) ?_
      refine lv_if_lt (tgt := 46) hx hb dX8_finds_26 (by decide) (fun hc => ?_) (fun hc => ?_)
      · rw [if_pos hc] at hf
        refine lv_bipush (v := (-13)) hx hb dX8_finds_46 (by decide) ?_
        refine lv_goto (tgt := 52) hx hb dX8_finds_48 (by decide) ?_
        exact retI hQ hf hP hS dX8_finds_52
      · rw [if_neg hc] at hf
        refine lv_iload_n hx hb dX8_finds_29 rfl (lv_at hl 3 rfl) ?_
        refine lv_i2l (v := x3.toInt64) hx hb dX8_finds_30 rfl ?_
        refine lv_iload hx hb dX8_finds_31 (lv_at hl 4 rfl) ?_
        refine lv_i2l (v := x4.toInt64) hx hb dX8_finds_33 rfl ?_
        refine lv_ladd hx hb dX8_finds_34 ?_
        refine lv_aload_n hx hb dX8_finds_35 rfl (lv_at hl 0 rfl) ?_
        refine gFr hC hP (j := 26) sg_30 vc_8 iT8 (by decide) rfl tb_4_97 dX8_finds_36 ?_
        refine lv_iload_n hx hb dX8_finds_39 rfl (lv_at hl 1 rfl) ?_
        obtain ⟨v3, hv, hf⟩ := ob_some hf
        refine gIa hC hP hv dX8_finds_40 ?_
        refine lv_i2l (v := v3.toInt64) hx hb dX8_finds_41 rfl ?_
        refine W.lcmp hx hb dX8_finds_42 ?_
        refine lv_if_le (tgt := 51) hx hb dX8_finds_43 (by decide) (fun hc => ?_) (fun hc => ?_)
        · rw [if_pos hc] at hf
          refine lv_iconst (v := 0) hx hb dX8_finds_51 (by decide) ?_
          exact retI hQ hf hP hS dX8_finds_52
        · rw [if_neg hc] at hf
          refine lv_bipush (v := (-13)) hx hb dX8_finds_46 (by decide) ?_
          refine lv_goto (tgt := 52) hx hb dX8_finds_48 (by decide) ?_
          exact retI hQ hf hP hS dX8_finds_52
    · rw [if_neg hc] at hf
      refine lv_bipush (v := (-12)) hx hb dX8_finds_22 (by decide) ?_
      exact retI hQ hf hP hS dX8_finds_24
  · rw [if_neg hc] at hf
    refine lv_bipush (v := (-11)) hx hb dX8_finds_9 (by decide) ?_
    exact retI hQ hf hP hS dX8_finds_11
def f_X8_gauged_255  (k130 : ST → Int32 → Int32 → Int32 → Int32 → Int32 → Int32 → Int32 → Int32 → Option (Int32 × ST)) (S : ST) (x4 : Int32) (x5 : Int32) (x7 : Int32) (x8 : Int32) (x9 : Int32) (x10 : Int32) (x12 : Int32) (y0 : Int32) : Option (Int32 × ST) := k130 S x4 x5 x7 x8 x9 x10 y0 (x12 + 1)
set_option maxRecDepth 100000 in
set_option maxHeartbeats 4000000 in
theorem w_X8_gauged_255 {r : Int32} {S' : ST} (hC : Cx p m c s args cX8_gauged 15 RX8 G) (hQ : KI p l e (rmH 3) s m args below meth c Q cX8_gauged G r S') {k130 : ST → Int32 → Int32 → Int32 → Int32 → Int32 → Int32 → Int32 → Int32 → Option (Int32 × ST)} (hk130 : ∀ (S : ST) (x4 : Int32) (x5 : Int32) (x7 : Int32) (x8 : Int32) (x9 : Int32) (x10 : Int32) (x11 : Int32) (x12 : Int32) (H : Heap) (locs : List Loc) (ls : Array Slot), va_P (gD G) vwCl (cells G S) H → va_S (gA G) s.heap H locs → lv_has ls 15 [(0, .ref (ad G 30)), (4, .int x4), (5, .int x5), (7, .int x7), (8, .int x8), (9, .int x9), (10, .int x10), (11, .int x11), (12, .int x12)] → k130 S x4 x5 x7 x8 x9 x10 x11 x12 = some (r, S') → W p l e (rmH 3) s m args below meth c H locs 0 0 Q (F0 m 130 ls [])) (S : ST) (x4 : Int32) (x5 : Int32) (x7 : Int32) (x8 : Int32) (x9 : Int32) (x10 : Int32) (x12 : Int32) (y0 : Int32) (H : Heap) (locs : List Loc) (ls : Array Slot) (hP : va_P (gD G) vwCl (cells G S) H) (hS : va_S (gA G) s.heap H locs) (hl : lv_has ls 15 [(0, .ref (ad G 30)), (4, .int x4), (5, .int x5), (7, .int x7), (8, .int x8), (9, .int x9), (10, .int x10), (12, .int x12)]) (hf : f_X8_gauged_255 k130 S x4 x5 x7 x8 x9 x10 x12 y0 = some (r, S')) : W p l e (rmH 3) s m args below meth c H locs 0 0 Q (F0 m 255 ls [.int y0]) := by
  obtain ⟨hx, hb, hml, hown, hts⟩ := id hC.1
  rw [f_X8_gauged_255] at hf
  refine lv_istore (lv' := [(11, .int y0), (0, .ref (ad G 30)), (4, .int x4), (5, .int x5), (7, .int x7), (8, .int x8), (9, .int x9), (10, .int x10), (12, .int x12)]) hx hb dX8_gauged_255 hl (by decide) rfl (fun ls hl => ?_)
  refine lv_iinc (v := x12 + 1) (lv' := [(12, .int (x12 + 1)), (11, .int y0), (0, .ref (ad G 30)), (4, .int x4), (5, .int x5), (7, .int x7), (8, .int x8), (9, .int x9), (10, .int x10)]) hx hb dX8_gauged_257 hl (k := 8) rfl rfl (by decide) rfl (fun ls hl => ?_)
  refine lv_goto (tgt := 130) hx hb dX8_gauged_260 (by decide) ?_
  exact hk130 _ _ _ _ _ _ _ _ _ _ _ _ hP hS (lv_sub hl [2, 3, 4, 5, 6, 7, 8, 1, 0] rfl) hf
def f_X8_gauged_241  (k130 : ST → Int32 → Int32 → Int32 → Int32 → Int32 → Int32 → Int32 → Int32 → Option (Int32 × ST)) (S : ST) (x4 : Int32) (x5 : Int32) (x7 : Int32) (x8 : Int32) (x9 : Int32) (x11 : Int32) (x12 : Int32) (x13 : Int32) (y0 : Int32) : Option (Int32 × ST) := if x13 = 0 then (f_X8_gauged_255 k130 S x4 x5 x7 x8 x9 y0 x12 x11) else (f_X8_gauged_255 k130 S x4 x5 x7 x8 x9 y0 x12 x12)
set_option maxRecDepth 100000 in
set_option maxHeartbeats 4000000 in
theorem w_X8_gauged_241 {r : Int32} {S' : ST} (hC : Cx p m c s args cX8_gauged 15 RX8 G) (hQ : KI p l e (rmH 3) s m args below meth c Q cX8_gauged G r S') {k130 : ST → Int32 → Int32 → Int32 → Int32 → Int32 → Int32 → Int32 → Int32 → Option (Int32 × ST)} (hk130 : ∀ (S : ST) (x4 : Int32) (x5 : Int32) (x7 : Int32) (x8 : Int32) (x9 : Int32) (x10 : Int32) (x11 : Int32) (x12 : Int32) (H : Heap) (locs : List Loc) (ls : Array Slot), va_P (gD G) vwCl (cells G S) H → va_S (gA G) s.heap H locs → lv_has ls 15 [(0, .ref (ad G 30)), (4, .int x4), (5, .int x5), (7, .int x7), (8, .int x8), (9, .int x9), (10, .int x10), (11, .int x11), (12, .int x12)] → k130 S x4 x5 x7 x8 x9 x10 x11 x12 = some (r, S') → W p l e (rmH 3) s m args below meth c H locs 0 0 Q (F0 m 130 ls [])) (S : ST) (x4 : Int32) (x5 : Int32) (x7 : Int32) (x8 : Int32) (x9 : Int32) (x11 : Int32) (x12 : Int32) (x13 : Int32) (y0 : Int32) (H : Heap) (locs : List Loc) (ls : Array Slot) (hP : va_P (gD G) vwCl (cells G S) H) (hS : va_S (gA G) s.heap H locs) (hl : lv_has ls 15 [(0, .ref (ad G 30)), (4, .int x4), (5, .int x5), (7, .int x7), (8, .int x8), (9, .int x9), (11, .int x11), (12, .int x12), (13, .int x13)]) (hf : f_X8_gauged_241 k130 S x4 x5 x7 x8 x9 x11 x12 x13 y0 = some (r, S')) : W p l e (rmH 3) s m args below meth c H locs 0 0 Q (F0 m 241 ls [.int y0]) := by
  obtain ⟨hx, hb, hml, hown, hts⟩ := id hC.1
  rw [f_X8_gauged_241] at hf
  refine lv_istore (lv' := [(10, .int y0), (0, .ref (ad G 30)), (4, .int x4), (5, .int x5), (7, .int x7), (8, .int x8), (9, .int x9), (11, .int x11), (12, .int x12), (13, .int x13)]) hx hb dX8_gauged_241 hl (by decide) rfl (fun ls hl => ?_)
  refine lv_iload hx hb dX8_gauged_243 (lv_at hl 9 rfl) ?_
  refine lv_if_eq (tgt := 253) hx hb dX8_gauged_245 (by decide) (fun hc => ?_) (fun hc => ?_)
  · rw [if_pos hc] at hf
    refine lv_iload hx hb dX8_gauged_253 (lv_at hl 7 rfl) ?_
    exact w_X8_gauged_255 hC hQ hk130  _ _ _ _ _ _ _ _ _ _ _ _ hP hS (lv_sub hl [1, 2, 3, 4, 5, 6, 0, 8] rfl) hf
  · rw [if_neg hc] at hf
    refine lv_iload hx hb dX8_gauged_248 (lv_at hl 8 rfl) ?_
    refine lv_goto (tgt := 255) hx hb dX8_gauged_250 (by decide) ?_
    exact w_X8_gauged_255 hC hQ hk130  _ _ _ _ _ _ _ _ _ _ _ _ hP hS (lv_sub hl [1, 2, 3, 4, 5, 6, 0, 8] rfl) hf
def f_X8_gauged_239  (k130 : ST → Int32 → Int32 → Int32 → Int32 → Int32 → Int32 → Int32 → Int32 → Option (Int32 × ST)) (S : ST) (x4 : Int32) (x5 : Int32) (x7 : Int32) (x8 : Int32) (x9 : Int32) (x10 : Int32) (x11 : Int32) (x12 : Int32) (x13 : Int32) : Option (Int32 × ST) := f_X8_gauged_241 k130 S x4 x5 x7 x8 x9 x11 x12 x13 x10
set_option maxRecDepth 100000 in
set_option maxHeartbeats 4000000 in
theorem w_X8_gauged_239 {r : Int32} {S' : ST} (hC : Cx p m c s args cX8_gauged 15 RX8 G) (hQ : KI p l e (rmH 3) s m args below meth c Q cX8_gauged G r S') {k130 : ST → Int32 → Int32 → Int32 → Int32 → Int32 → Int32 → Int32 → Int32 → Option (Int32 × ST)} (hk130 : ∀ (S : ST) (x4 : Int32) (x5 : Int32) (x7 : Int32) (x8 : Int32) (x9 : Int32) (x10 : Int32) (x11 : Int32) (x12 : Int32) (H : Heap) (locs : List Loc) (ls : Array Slot), va_P (gD G) vwCl (cells G S) H → va_S (gA G) s.heap H locs → lv_has ls 15 [(0, .ref (ad G 30)), (4, .int x4), (5, .int x5), (7, .int x7), (8, .int x8), (9, .int x9), (10, .int x10), (11, .int x11), (12, .int x12)] → k130 S x4 x5 x7 x8 x9 x10 x11 x12 = some (r, S') → W p l e (rmH 3) s m args below meth c H locs 0 0 Q (F0 m 130 ls [])) (S : ST) (x4 : Int32) (x5 : Int32) (x7 : Int32) (x8 : Int32) (x9 : Int32) (x10 : Int32) (x11 : Int32) (x12 : Int32) (x13 : Int32) (H : Heap) (locs : List Loc) (ls : Array Slot) (hP : va_P (gD G) vwCl (cells G S) H) (hS : va_S (gA G) s.heap H locs) (hl : lv_has ls 15 [(0, .ref (ad G 30)), (4, .int x4), (5, .int x5), (7, .int x7), (8, .int x8), (9, .int x9), (10, .int x10), (11, .int x11), (12, .int x12), (13, .int x13)]) (hf : f_X8_gauged_239 k130 S x4 x5 x7 x8 x9 x10 x11 x12 x13 = some (r, S')) : W p l e (rmH 3) s m args below meth c H locs 0 0 Q (F0 m 239 ls []) := by
  obtain ⟨hx, hb, hml, hown, hts⟩ := id hC.1
  rw [f_X8_gauged_239] at hf
  refine lv_iload hx hb dX8_gauged_239 (lv_at hl 6 rfl) ?_
  exact w_X8_gauged_241 hC hQ hk130  _ _ _ _ _ _ _ _ _ _ _ _ _ hP hS (lv_sub hl [0, 1, 2, 3, 4, 5, 7, 8, 9] rfl) hf
def f_X8_gauged_221  (k130 : ST → Int32 → Int32 → Int32 → Int32 → Int32 → Int32 → Int32 → Int32 → Option (Int32 × ST)) (S : ST) (x4 : Int32) (x5 : Int32) (x7 : Int32) (x8 : Int32) (x10 : Int32) (x11 : Int32) (x12 : Int32) (x13 : Int32) (y0 : Int32) (y1 : Int32) : Option (Int32 × ST) := if x13 = 0 then (f_X8_gauged_239 k130 S x4 x5 x7 x8 (y1 + y0) x10 x11 x12 x13) else (if 0 ≤ x10 then (f_X8_gauged_239 k130 S x4 x5 x7 x8 (y1 + y0) x10 x11 x12 x13) else (f_X8_gauged_241 k130 S x4 x5 x7 x8 (y1 + y0) x11 x12 x13 x12))
set_option maxRecDepth 100000 in
set_option maxHeartbeats 4000000 in
theorem w_X8_gauged_221 {r : Int32} {S' : ST} (hC : Cx p m c s args cX8_gauged 15 RX8 G) (hQ : KI p l e (rmH 3) s m args below meth c Q cX8_gauged G r S') {k130 : ST → Int32 → Int32 → Int32 → Int32 → Int32 → Int32 → Int32 → Int32 → Option (Int32 × ST)} (hk130 : ∀ (S : ST) (x4 : Int32) (x5 : Int32) (x7 : Int32) (x8 : Int32) (x9 : Int32) (x10 : Int32) (x11 : Int32) (x12 : Int32) (H : Heap) (locs : List Loc) (ls : Array Slot), va_P (gD G) vwCl (cells G S) H → va_S (gA G) s.heap H locs → lv_has ls 15 [(0, .ref (ad G 30)), (4, .int x4), (5, .int x5), (7, .int x7), (8, .int x8), (9, .int x9), (10, .int x10), (11, .int x11), (12, .int x12)] → k130 S x4 x5 x7 x8 x9 x10 x11 x12 = some (r, S') → W p l e (rmH 3) s m args below meth c H locs 0 0 Q (F0 m 130 ls [])) (S : ST) (x4 : Int32) (x5 : Int32) (x7 : Int32) (x8 : Int32) (x10 : Int32) (x11 : Int32) (x12 : Int32) (x13 : Int32) (y0 : Int32) (y1 : Int32) (H : Heap) (locs : List Loc) (ls : Array Slot) (hP : va_P (gD G) vwCl (cells G S) H) (hS : va_S (gA G) s.heap H locs) (hl : lv_has ls 15 [(0, .ref (ad G 30)), (4, .int x4), (5, .int x5), (7, .int x7), (8, .int x8), (10, .int x10), (11, .int x11), (12, .int x12), (13, .int x13)]) (hf : f_X8_gauged_221 k130 S x4 x5 x7 x8 x10 x11 x12 x13 y0 y1 = some (r, S')) : W p l e (rmH 3) s m args below meth c H locs 0 0 Q (F0 m 221 ls [.int y0, .int y1]) := by
  obtain ⟨hx, hb, hml, hown, hts⟩ := id hC.1
  rw [f_X8_gauged_221] at hf
  refine lv_iadd hx hb dX8_gauged_221 ?_
  refine lv_istore (lv' := [(9, .int (y1 + y0)), (0, .ref (ad G 30)), (4, .int x4), (5, .int x5), (7, .int x7), (8, .int x8), (10, .int x10), (11, .int x11), (12, .int x12), (13, .int x13)]) hx hb dX8_gauged_222 hl (by decide) rfl (fun ls hl => ?_)
  refine lv_iload hx hb dX8_gauged_224 (lv_at hl 9 rfl) ?_
  refine lv_if_eq (tgt := 239) hx hb dX8_gauged_226 (by decide) (fun hc => ?_) (fun hc => ?_)
  · rw [if_pos hc] at hf
    exact w_X8_gauged_239 hC hQ hk130  _ _ _ _ _ _ _ _ _ _ _ _ _ hP hS (lv_sub hl [1, 2, 3, 4, 5, 0, 6, 7, 8, 9] rfl) hf
  · rw [if_neg hc] at hf
    refine lv_iload hx hb dX8_gauged_229 (lv_at hl 6 rfl) ?_
    refine lv_if_ge (tgt := 239) hx hb dX8_gauged_231 (by decide) (fun hc => ?_) (fun hc => ?_)
    · rw [if_pos hc] at hf
      exact w_X8_gauged_239 hC hQ hk130  _ _ _ _ _ _ _ _ _ _ _ _ _ hP hS (lv_sub hl [1, 2, 3, 4, 5, 0, 6, 7, 8, 9] rfl) hf
    · rw [if_neg hc] at hf
      refine lv_iload hx hb dX8_gauged_234 (lv_at hl 8 rfl) ?_
      refine lv_goto (tgt := 241) hx hb dX8_gauged_236 (by decide) ?_
      exact w_X8_gauged_241 hC hQ hk130  _ _ _ _ _ _ _ _ _ _ _ _ _ hP hS (lv_sub hl [1, 2, 3, 4, 5, 0, 7, 8, 9] rfl) hf
def f_X8_gauged_201  (k130 : ST → Int32 → Int32 → Int32 → Int32 → Int32 → Int32 → Int32 → Int32 → Option (Int32 × ST)) (k151 : ST → Int32 → Int32 → Int32 → Int32 → Int32 → Int32 → Int32 → Int32 → Int32 → Int32 → Option (Int32 × ST)) (S : ST) (x4 : Int32) (x5 : Int32) (x7 : Int32) (x8 : Int32) (x9 : Int32) (x10 : Int32) (x11 : Int32) (x12 : Int32) (x14 : Int32) (y0 : Int32) : Option (Int32 × ST) := k151 S x4 x5 x7 x8 x9 x10 x11 x12 y0 (x14 + 1)
set_option maxRecDepth 100000 in
set_option maxHeartbeats 4000000 in
theorem w_X8_gauged_201 {r : Int32} {S' : ST} (hC : Cx p m c s args cX8_gauged 15 RX8 G) (hQ : KI p l e (rmH 3) s m args below meth c Q cX8_gauged G r S') {k130 : ST → Int32 → Int32 → Int32 → Int32 → Int32 → Int32 → Int32 → Int32 → Option (Int32 × ST)} (hk130 : ∀ (S : ST) (x4 : Int32) (x5 : Int32) (x7 : Int32) (x8 : Int32) (x9 : Int32) (x10 : Int32) (x11 : Int32) (x12 : Int32) (H : Heap) (locs : List Loc) (ls : Array Slot), va_P (gD G) vwCl (cells G S) H → va_S (gA G) s.heap H locs → lv_has ls 15 [(0, .ref (ad G 30)), (4, .int x4), (5, .int x5), (7, .int x7), (8, .int x8), (9, .int x9), (10, .int x10), (11, .int x11), (12, .int x12)] → k130 S x4 x5 x7 x8 x9 x10 x11 x12 = some (r, S') → W p l e (rmH 3) s m args below meth c H locs 0 0 Q (F0 m 130 ls [])) {k151 : ST → Int32 → Int32 → Int32 → Int32 → Int32 → Int32 → Int32 → Int32 → Int32 → Int32 → Option (Int32 × ST)} (hk151 : ∀ (S : ST) (x4 : Int32) (x5 : Int32) (x7 : Int32) (x8 : Int32) (x9 : Int32) (x10 : Int32) (x11 : Int32) (x12 : Int32) (x13 : Int32) (x14 : Int32) (H : Heap) (locs : List Loc) (ls : Array Slot), va_P (gD G) vwCl (cells G S) H → va_S (gA G) s.heap H locs → lv_has ls 15 [(0, .ref (ad G 30)), (4, .int x4), (5, .int x5), (7, .int x7), (8, .int x8), (9, .int x9), (10, .int x10), (11, .int x11), (12, .int x12), (13, .int x13), (14, .int x14)] → k151 S x4 x5 x7 x8 x9 x10 x11 x12 x13 x14 = some (r, S') → W p l e (rmH 3) s m args below meth c H locs 0 0 Q (F0 m 151 ls [])) (S : ST) (x4 : Int32) (x5 : Int32) (x7 : Int32) (x8 : Int32) (x9 : Int32) (x10 : Int32) (x11 : Int32) (x12 : Int32) (x14 : Int32) (y0 : Int32) (H : Heap) (locs : List Loc) (ls : Array Slot) (hP : va_P (gD G) vwCl (cells G S) H) (hS : va_S (gA G) s.heap H locs) (hl : lv_has ls 15 [(0, .ref (ad G 30)), (4, .int x4), (5, .int x5), (7, .int x7), (8, .int x8), (9, .int x9), (10, .int x10), (11, .int x11), (12, .int x12), (14, .int x14)]) (hf : f_X8_gauged_201 k130 k151 S x4 x5 x7 x8 x9 x10 x11 x12 x14 y0 = some (r, S')) : W p l e (rmH 3) s m args below meth c H locs 0 0 Q (F0 m 201 ls [.int y0]) := by
  obtain ⟨hx, hb, hml, hown, hts⟩ := id hC.1
  rw [f_X8_gauged_201] at hf
  refine lv_istore (lv' := [(13, .int y0), (0, .ref (ad G 30)), (4, .int x4), (5, .int x5), (7, .int x7), (8, .int x8), (9, .int x9), (10, .int x10), (11, .int x11), (12, .int x12), (14, .int x14)]) hx hb dX8_gauged_201 hl (by decide) rfl (fun ls hl => ?_)
  refine lv_iinc (v := x14 + 1) (lv' := [(14, .int (x14 + 1)), (13, .int y0), (0, .ref (ad G 30)), (4, .int x4), (5, .int x5), (7, .int x7), (8, .int x8), (9, .int x9), (10, .int x10), (11, .int x11), (12, .int x12)]) hx hb dX8_gauged_203 hl (k := 10) rfl rfl (by decide) rfl (fun ls hl => ?_)
  refine lv_goto (tgt := 151) hx hb dX8_gauged_206 (by decide) ?_
  exact hk151 _ _ _ _ _ _ _ _ _ _ _ _ _ _ hP hS (lv_sub hl [2, 3, 4, 5, 6, 7, 8, 9, 10, 1, 0] rfl) hf
def f_X8_gauged_200  (k130 : ST → Int32 → Int32 → Int32 → Int32 → Int32 → Int32 → Int32 → Int32 → Option (Int32 × ST)) (k151 : ST → Int32 → Int32 → Int32 → Int32 → Int32 → Int32 → Int32 → Int32 → Int32 → Int32 → Option (Int32 × ST)) (S : ST) (x4 : Int32) (x5 : Int32) (x7 : Int32) (x8 : Int32) (x9 : Int32) (x10 : Int32) (x11 : Int32) (x12 : Int32) (x14 : Int32) : Option (Int32 × ST) := f_X8_gauged_201 k130 k151 S x4 x5 x7 x8 x9 x10 x11 x12 x14 0
set_option maxRecDepth 100000 in
set_option maxHeartbeats 4000000 in
theorem w_X8_gauged_200 {r : Int32} {S' : ST} (hC : Cx p m c s args cX8_gauged 15 RX8 G) (hQ : KI p l e (rmH 3) s m args below meth c Q cX8_gauged G r S') {k130 : ST → Int32 → Int32 → Int32 → Int32 → Int32 → Int32 → Int32 → Int32 → Option (Int32 × ST)} (hk130 : ∀ (S : ST) (x4 : Int32) (x5 : Int32) (x7 : Int32) (x8 : Int32) (x9 : Int32) (x10 : Int32) (x11 : Int32) (x12 : Int32) (H : Heap) (locs : List Loc) (ls : Array Slot), va_P (gD G) vwCl (cells G S) H → va_S (gA G) s.heap H locs → lv_has ls 15 [(0, .ref (ad G 30)), (4, .int x4), (5, .int x5), (7, .int x7), (8, .int x8), (9, .int x9), (10, .int x10), (11, .int x11), (12, .int x12)] → k130 S x4 x5 x7 x8 x9 x10 x11 x12 = some (r, S') → W p l e (rmH 3) s m args below meth c H locs 0 0 Q (F0 m 130 ls [])) {k151 : ST → Int32 → Int32 → Int32 → Int32 → Int32 → Int32 → Int32 → Int32 → Int32 → Int32 → Option (Int32 × ST)} (hk151 : ∀ (S : ST) (x4 : Int32) (x5 : Int32) (x7 : Int32) (x8 : Int32) (x9 : Int32) (x10 : Int32) (x11 : Int32) (x12 : Int32) (x13 : Int32) (x14 : Int32) (H : Heap) (locs : List Loc) (ls : Array Slot), va_P (gD G) vwCl (cells G S) H → va_S (gA G) s.heap H locs → lv_has ls 15 [(0, .ref (ad G 30)), (4, .int x4), (5, .int x5), (7, .int x7), (8, .int x8), (9, .int x9), (10, .int x10), (11, .int x11), (12, .int x12), (13, .int x13), (14, .int x14)] → k151 S x4 x5 x7 x8 x9 x10 x11 x12 x13 x14 = some (r, S') → W p l e (rmH 3) s m args below meth c H locs 0 0 Q (F0 m 151 ls [])) (S : ST) (x4 : Int32) (x5 : Int32) (x7 : Int32) (x8 : Int32) (x9 : Int32) (x10 : Int32) (x11 : Int32) (x12 : Int32) (x14 : Int32) (H : Heap) (locs : List Loc) (ls : Array Slot) (hP : va_P (gD G) vwCl (cells G S) H) (hS : va_S (gA G) s.heap H locs) (hl : lv_has ls 15 [(0, .ref (ad G 30)), (4, .int x4), (5, .int x5), (7, .int x7), (8, .int x8), (9, .int x9), (10, .int x10), (11, .int x11), (12, .int x12), (14, .int x14)]) (hf : f_X8_gauged_200 k130 k151 S x4 x5 x7 x8 x9 x10 x11 x12 x14 = some (r, S')) : W p l e (rmH 3) s m args below meth c H locs 0 0 Q (F0 m 200 ls []) := by
  obtain ⟨hx, hb, hml, hown, hts⟩ := id hC.1
  rw [f_X8_gauged_200] at hf
  refine lv_iconst (v := 0) hx hb dX8_gauged_200 (by decide) ?_
  exact w_X8_gauged_201 hC hQ hk130 hk151  _ _ _ _ _ _ _ _ _ _ _ _ _ _ hP hS (lv_sub hl [0, 1, 2, 3, 4, 5, 6, 7, 8, 9] rfl) hf
def f_X8_gauged_151  (k130 : ST → Int32 → Int32 → Int32 → Int32 → Int32 → Int32 → Int32 → Int32 → Option (Int32 × ST)) : Nat → ST → Int32 → Int32 → Int32 → Int32 → Int32 → Int32 → Int32 → Int32 → Int32 → Int32 → Option (Int32 × ST)
  | 0, _, _, _, _, _, _, _, _, _, _, _ => none
  | n + 1, S, x4, x5, x7, x8, x9, x10, x11, x12, x13, x14 => if x4 ≤ x14 then (if x13 = 0 then (f_X8_gauged_221 k130 S x4 x5 x7 x8 x10 x11 x12 x13 0 x9) else (f_X8_gauged_221 k130 S x4 x5 x7 x8 x10 x11 x12 x13 1 x9)) else (if x13 = 0 then (f_X8_gauged_200 k130 (f_X8_gauged_151 k130 n) S x4 x5 x7 x8 x9 x10 x11 x12 x14) else ((rI S 0 48 (x7 + (2 * x14))).bind fun v1 => (f_X8_tideAt S v1).bind fun v2 => (rI S 0 48 ((x7 + (2 * x14)) + 1)).bind fun v3 => if v2 = v3 then (f_X8_gauged_201 k130 (f_X8_gauged_151 k130 n) S x4 x5 x7 x8 x9 x10 x11 x12 x14 1) else (f_X8_gauged_200 k130 (f_X8_gauged_151 k130 n) S x4 x5 x7 x8 x9 x10 x11 x12 x14)))
set_option maxRecDepth 100000 in
set_option maxHeartbeats 4000000 in
theorem w_X8_gauged_151 {r : Int32} {S' : ST} (hC : Cx p m c s args cX8_gauged 15 RX8 G) (hQ : KI p l e (rmH 3) s m args below meth c Q cX8_gauged G r S') {k130 : ST → Int32 → Int32 → Int32 → Int32 → Int32 → Int32 → Int32 → Int32 → Option (Int32 × ST)} (hk130 : ∀ (S : ST) (x4 : Int32) (x5 : Int32) (x7 : Int32) (x8 : Int32) (x9 : Int32) (x10 : Int32) (x11 : Int32) (x12 : Int32) (H : Heap) (locs : List Loc) (ls : Array Slot), va_P (gD G) vwCl (cells G S) H → va_S (gA G) s.heap H locs → lv_has ls 15 [(0, .ref (ad G 30)), (4, .int x4), (5, .int x5), (7, .int x7), (8, .int x8), (9, .int x9), (10, .int x10), (11, .int x11), (12, .int x12)] → k130 S x4 x5 x7 x8 x9 x10 x11 x12 = some (r, S') → W p l e (rmH 3) s m args below meth c H locs 0 0 Q (F0 m 130 ls [])) : ∀ (n : Nat) (S : ST) (x4 : Int32) (x5 : Int32) (x7 : Int32) (x8 : Int32) (x9 : Int32) (x10 : Int32) (x11 : Int32) (x12 : Int32) (x13 : Int32) (x14 : Int32) (H : Heap) (locs : List Loc) (ls : Array Slot), va_P (gD G) vwCl (cells G S) H → va_S (gA G) s.heap H locs → lv_has ls 15 [(0, .ref (ad G 30)), (4, .int x4), (5, .int x5), (7, .int x7), (8, .int x8), (9, .int x9), (10, .int x10), (11, .int x11), (12, .int x12), (13, .int x13), (14, .int x14)] → f_X8_gauged_151 k130 n S x4 x5 x7 x8 x9 x10 x11 x12 x13 x14 = some (r, S') → W p l e (rmH 3) s m args below meth c H locs 0 0 Q (F0 m 151 ls []) := by
  obtain ⟨hx, hb, hml, hown, hts⟩ := id hC.1
  intro n
  induction n with
  | zero => intro S x4 x5 x7 x8 x9 x10 x11 x12 x13 x14 H locs ls hP hS hl hf; rw [f_X8_gauged_151] at hf; cases hf
  | succ n ih =>
    intro S x4 x5 x7 x8 x9 x10 x11 x12 x13 x14 H locs ls hP hS hl hf
    rw [f_X8_gauged_151] at hf
    refine lv_iload hx hb dX8_gauged_151 (lv_at hl 10 rfl) ?_
    refine lv_iload hx hb dX8_gauged_153 (lv_at hl 1 rfl) ?_
    refine lv_icmp_ge (tgt := 209) hx hb dX8_gauged_155 (by decide) (fun hc => ?_) (fun hc => ?_)
    · rw [if_pos hc] at hf
      refine lv_iload hx hb dX8_gauged_209 (lv_at hl 5 rfl) ?_
      refine lv_iload hx hb dX8_gauged_211 (lv_at hl 9 rfl) ?_
      refine lv_if_eq (tgt := 220) hx hb dX8_gauged_213 (by decide) (fun hc => ?_) (fun hc => ?_)
      · rw [if_pos hc] at hf
        refine lv_iconst (v := 0) hx hb dX8_gauged_220 (by decide) ?_
        exact w_X8_gauged_221 hC hQ hk130  _ _ _ _ _ _ _ _ _ _ _ _ _ _ hP hS (lv_sub hl [0, 1, 2, 3, 4, 6, 7, 8, 9] rfl) hf
      · rw [if_neg hc] at hf
        refine lv_iconst (v := 1) hx hb dX8_gauged_216 (by decide) ?_
        refine lv_goto (tgt := 221) hx hb dX8_gauged_217 (by decide) ?_
        exact w_X8_gauged_221 hC hQ hk130  _ _ _ _ _ _ _ _ _ _ _ _ _ _ hP hS (lv_sub hl [0, 1, 2, 3, 4, 6, 7, 8, 9] rfl) hf
    · rw [if_neg hc] at hf
      refine lv_iload hx hb dX8_gauged_158 (lv_at hl 9 rfl) ?_
      refine lv_if_eq (tgt := 200) hx hb dX8_gauged_160 (by decide) (fun hc => ?_) (fun hc => ?_)
      · rw [if_pos hc] at hf
        exact w_X8_gauged_200 hC hQ hk130 ih  _ _ _ _ _ _ _ _ _ _ _ _ _ hP hS (lv_sub hl [0, 1, 2, 3, 4, 5, 6, 7, 8, 10] rfl) hf
      · rw [if_neg hc] at hf
        refine lv_aload_n hx hb dX8_gauged_163 rfl (lv_at hl 0 rfl) ?_
        refine lv_aload_n hx hb dX8_gauged_164 rfl (lv_at hl 0 rfl) ?_
        refine gFr hC hP (j := 27) sg_30 vc_8 iT8 (by decide) rfl tb_4_98 dX8_gauged_165 ?_
        refine lv_iload hx hb dX8_gauged_168 (lv_at hl 3 rfl) ?_
        refine lv_iconst (v := 2) hx hb dX8_gauged_170 (by decide) ?_
        refine lv_iload hx hb dX8_gauged_171 (lv_at hl 10 rfl) ?_
        refine lv_imul hx hb dX8_gauged_173 ?_
        refine lv_iadd hx hb dX8_gauged_174 ?_
        obtain ⟨v1, hv, hf⟩ := ob_some hf
        refine gIa hC hP hv dX8_gauged_175 ?_
        obtain ⟨v2, hv, hf⟩ := ob_some hf
        refine cI hS (runV hC hP hS (As := [.int v1]) (rest := []) (k_X8_tideAt l G S v1 _ hv) vy_X8_tideAt sg_30 vc_8 tb_5_29 tb_5_31 ts_35 ⟨Nat.le_of_ble_eq_true rfl, Nat.le_of_ble_eq_true rfl⟩ rfl hl.1 rfl (Nat.le_of_ble_eq_true rfl) dX8_gauged_176) (fun H locs hP hS => ?_)
        refine lv_aload_n hx hb dX8_gauged_179 rfl (lv_at hl 0 rfl) ?_
        refine gFr hC hP (j := 27) sg_30 vc_8 iT8 (by decide) rfl tb_4_98 dX8_gauged_180 ?_
        refine lv_iload hx hb dX8_gauged_183 (lv_at hl 3 rfl) ?_
        refine lv_iconst (v := 2) hx hb dX8_gauged_185 (by decide) ?_
        refine lv_iload hx hb dX8_gauged_186 (lv_at hl 10 rfl) ?_
        refine lv_imul hx hb dX8_gauged_188 ?_
        refine lv_iadd hx hb dX8_gauged_189 ?_
        refine lv_iconst (v := 1) hx hb dX8_gauged_190 (by decide) ?_
        refine lv_iadd hx hb dX8_gauged_191 ?_
        obtain ⟨v3, hv, hf⟩ := ob_some hf
        refine gIa hC hP hv dX8_gauged_192 ?_
        refine lv_icmp_ne (tgt := 200) hx hb dX8_gauged_193 (by decide) (fun hc => ?_) (fun hc => ?_)
        · rw [if_neg hc] at hf
          exact w_X8_gauged_200 hC hQ hk130 ih  _ _ _ _ _ _ _ _ _ _ _ _ _ hP hS (lv_sub hl [0, 1, 2, 3, 4, 5, 6, 7, 8, 10] rfl) hf
        · rw [if_pos hc] at hf
          refine lv_iconst (v := 1) hx hb dX8_gauged_196 (by decide) ?_
          refine lv_goto (tgt := 201) hx hb dX8_gauged_197 (by decide) ?_
          exact w_X8_gauged_201 hC hQ hk130 ih  _ _ _ _ _ _ _ _ _ _ _ _ _ _ hP hS (lv_sub hl [0, 1, 2, 3, 4, 5, 6, 7, 8, 10] rfl) hf
def f_X8_gauged_130  : Nat → ST → Int32 → Int32 → Int32 → Int32 → Int32 → Int32 → Int32 → Int32 → Option (Int32 × ST)
  | 0, _, _, _, _, _, _, _, _, _ => none
  | n + 1, S, x4, x5, x7, x8, x9, x10, x11, x12 => if 91 ≤ x12 then ((wI S 33 0 x8).bind fun S1 => if x5 = 0 then (some (x9, S1)) else (if x5 = 1 then (some (x10, S1)) else (some (x11, S1)))) else ((wI S 33 0 x12).bind fun S2 => f_X8_gauged_151 (f_X8_gauged_130 n) FU S2 x4 x5 x7 x8 x9 x10 x11 x12 1 0)
set_option maxRecDepth 100000 in
set_option maxHeartbeats 4000000 in
theorem w_X8_gauged_130 {r : Int32} {S' : ST} (hC : Cx p m c s args cX8_gauged 15 RX8 G) (hQ : KI p l e (rmH 3) s m args below meth c Q cX8_gauged G r S') : ∀ (n : Nat) (S : ST) (x4 : Int32) (x5 : Int32) (x7 : Int32) (x8 : Int32) (x9 : Int32) (x10 : Int32) (x11 : Int32) (x12 : Int32) (H : Heap) (locs : List Loc) (ls : Array Slot), va_P (gD G) vwCl (cells G S) H → va_S (gA G) s.heap H locs → lv_has ls 15 [(0, .ref (ad G 30)), (4, .int x4), (5, .int x5), (7, .int x7), (8, .int x8), (9, .int x9), (10, .int x10), (11, .int x11), (12, .int x12)] → f_X8_gauged_130 n S x4 x5 x7 x8 x9 x10 x11 x12 = some (r, S') → W p l e (rmH 3) s m args below meth c H locs 0 0 Q (F0 m 130 ls []) := by
  obtain ⟨hx, hb, hml, hown, hts⟩ := id hC.1
  intro n
  induction n with
  | zero => intro S x4 x5 x7 x8 x9 x10 x11 x12 H locs ls hP hS hl hf; rw [f_X8_gauged_130] at hf; cases hf
  | succ n ih =>
    intro S x4 x5 x7 x8 x9 x10 x11 x12 H locs ls hP hS hl hf
    rw [f_X8_gauged_130] at hf
    refine lv_iload hx hb dX8_gauged_130 (lv_at hl 8 rfl) ?_
    refine lv_bipush (v := 91) hx hb dX8_gauged_132 (by decide) ?_
    refine lv_icmp_ge (tgt := 263) hx hb dX8_gauged_134 (by decide) (fun hc => ?_) (fun hc => ?_)
    · rw [if_pos hc] at hf
      refine lv_aload_n hx hb dX8_gauged_263 rfl (lv_at hl 0 rfl) ?_
      refine gFr hC hP (j := 3) sg_30 vc_8 iT8 (by decide) rfl tb_4_74 dX8_gauged_264 ?_
      refine lv_iconst (v := 0) hx hb dX8_gauged_267 (by decide) ?_
      refine lv_iload hx hb dX8_gauged_268 (lv_at hl 4 rfl) ?_
      obtain ⟨S1, hv, hf⟩ := ob_some hf
      refine sIa hC hP hS hv dX8_gauged_270 (fun H locs hP hS => ?_)
      refine lv_iload hx hb dX8_gauged_271 (lv_at hl 2 rfl) ?_
      refine lv_if_ne (tgt := 281) hx hb dX8_gauged_273 (by decide) (fun hc => ?_) (fun hc => ?_)
      · rw [if_neg hc] at hf
        refine lv_iload hx hb dX8_gauged_281 (lv_at hl 2 rfl) ?_
        refine lv_iconst (v := 1) hx hb dX8_gauged_283 (by decide) ?_
        refine lv_icmp_ne (tgt := 292) hx hb dX8_gauged_284 (by decide) (fun hc => ?_) (fun hc => ?_)
        · rw [if_neg hc] at hf
          refine lv_iload hx hb dX8_gauged_292 (lv_at hl 7 rfl) ?_
          exact retIw hQ hf hP hS dX8_gauged_294
        · rw [if_pos hc] at hf
          refine lv_iload hx hb dX8_gauged_287 (lv_at hl 6 rfl) ?_
          refine lv_goto (tgt := 294) hx hb dX8_gauged_289 (by decide) ?_
          exact retIw hQ hf hP hS dX8_gauged_294
      · rw [if_pos hc] at hf
        refine lv_iload hx hb dX8_gauged_276 (lv_at hl 5 rfl) ?_
        refine lv_goto (tgt := 294) hx hb dX8_gauged_278 (by decide) ?_
        exact retIw hQ hf hP hS dX8_gauged_294
    · rw [if_neg hc] at hf
      refine lv_aload_n hx hb dX8_gauged_137 rfl (lv_at hl 0 rfl) ?_
      refine gFr hC hP (j := 3) sg_30 vc_8 iT8 (by decide) rfl tb_4_74 dX8_gauged_138 ?_
      refine lv_iconst (v := 0) hx hb dX8_gauged_141 (by decide) ?_
      refine lv_iload hx hb dX8_gauged_142 (lv_at hl 8 rfl) ?_
      obtain ⟨S2, hv, hf⟩ := ob_some hf
      refine sIa hC hP hS hv dX8_gauged_144 (fun H locs hP hS => ?_)
      refine lv_iconst (v := 1) hx hb dX8_gauged_145 (by decide) ?_
      refine lv_istore (lv' := [(13, .int 1), (0, .ref (ad G 30)), (4, .int x4), (5, .int x5), (7, .int x7), (8, .int x8), (9, .int x9), (10, .int x10), (11, .int x11), (12, .int x12)]) hx hb dX8_gauged_146 hl (by decide) rfl (fun ls hl => ?_)
      refine lv_iconst (v := 0) hx hb dX8_gauged_148 (by decide) ?_
      refine lv_istore (lv' := [(14, .int 0), (13, .int 1), (0, .ref (ad G 30)), (4, .int x4), (5, .int x5), (7, .int x7), (8, .int x8), (9, .int x9), (10, .int x10), (11, .int x11), (12, .int x12)]) hx hb dX8_gauged_149 hl (by decide) rfl (fun ls hl => ?_)
      exact w_X8_gauged_151 hC hQ ih _ _ _ _ _ _ _ _ _ _ _ _ _ _ _ hP hS (lv_sub hl [2, 3, 4, 5, 6, 7, 8, 9, 10, 1, 0] rfl) hf
def f_X8_gauged_74  : Nat → ST → Int32 → Int32 → Int32 → Int32 → Option (Int32 × ST)
  | 0, _, _, _, _, _ => none
  | n + 1, S, x4, x5, x7, x8 => if x4 ≤ x8 then ((rI S 0 33 0).bind fun v1 => f_X8_gauged_130 FU S x4 x5 x7 v1 0 (-4) (-4) 0) else ((rI S 0 48 (x7 + (2 * x8))).bind fun v2 => (f_X8_isStart v2).bind fun v3 => if v3 = 0 then (some ((-2), S)) else (f_X8_gauged_74 n S x4 x5 x7 (x8 + 1)))
set_option maxRecDepth 100000 in
set_option maxHeartbeats 4000000 in
theorem w_X8_gauged_74 {r : Int32} {S' : ST} (hC : Cx p m c s args cX8_gauged 15 RX8 G) (hQ : KI p l e (rmH 3) s m args below meth c Q cX8_gauged G r S') : ∀ (n : Nat) (S : ST) (x4 : Int32) (x5 : Int32) (x7 : Int32) (x8 : Int32) (H : Heap) (locs : List Loc) (ls : Array Slot), va_P (gD G) vwCl (cells G S) H → va_S (gA G) s.heap H locs → lv_has ls 15 [(0, .ref (ad G 30)), (4, .int x4), (5, .int x5), (7, .int x7), (8, .int x8)] → f_X8_gauged_74 n S x4 x5 x7 x8 = some (r, S') → W p l e (rmH 3) s m args below meth c H locs 0 0 Q (F0 m 74 ls []) := by
  obtain ⟨hx, hb, hml, hown, hts⟩ := id hC.1
  intro n
  induction n with
  | zero => intro S x4 x5 x7 x8 H locs ls hP hS hl hf; rw [f_X8_gauged_74] at hf; cases hf
  | succ n ih =>
    intro S x4 x5 x7 x8 H locs ls hP hS hl hf
    rw [f_X8_gauged_74] at hf
    refine lv_iload hx hb dX8_gauged_74 (lv_at hl 4 rfl) ?_
    refine lv_iload hx hb dX8_gauged_76 (lv_at hl 1 rfl) ?_
    refine lv_icmp_ge (tgt := 108) hx hb dX8_gauged_78 (by decide) (fun hc => ?_) (fun hc => ?_)
    · rw [if_pos hc] at hf
      refine lv_aload_n hx hb dX8_gauged_108 rfl (lv_at hl 0 rfl) ?_
      refine gFr hC hP (j := 3) sg_30 vc_8 iT8 (by decide) rfl tb_4_74 dX8_gauged_109 ?_
      refine lv_iconst (v := 0) hx hb dX8_gauged_112 (by decide) ?_
      obtain ⟨v1, hv, hf⟩ := ob_some hf
      refine gIa hC hP hv dX8_gauged_113 ?_
      refine lv_istore (lv' := [(8, .int v1), (0, .ref (ad G 30)), (4, .int x4), (5, .int x5), (7, .int x7)]) hx hb dX8_gauged_114 hl (by decide) rfl (fun ls hl => ?_)
      refine lv_iconst (v := 0) hx hb dX8_gauged_116 (by decide) ?_
      refine lv_istore (lv' := [(9, .int 0), (8, .int v1), (0, .ref (ad G 30)), (4, .int x4), (5, .int x5), (7, .int x7)]) hx hb dX8_gauged_117 hl (by decide) rfl (fun ls hl => ?_)
      refine lv_bipush (v := (-4)) hx hb dX8_gauged_119 (by decide) ?_
      refine lv_istore (lv' := [(10, .int (-4)), (9, .int 0), (8, .int v1), (0, .ref (ad G 30)), (4, .int x4), (5, .int x5), (7, .int x7)]) hx hb dX8_gauged_121 hl (by decide) rfl (fun ls hl => ?_)
      refine lv_bipush (v := (-4)) hx hb dX8_gauged_123 (by decide) ?_
      refine lv_istore (lv' := [(11, .int (-4)), (10, .int (-4)), (9, .int 0), (8, .int v1), (0, .ref (ad G 30)), (4, .int x4), (5, .int x5), (7, .int x7)]) hx hb dX8_gauged_125 hl (by decide) rfl (fun ls hl => ?_)
      refine lv_iconst (v := 0) hx hb dX8_gauged_127 (by decide) ?_
      refine lv_istore (lv' := [(12, .int 0), (11, .int (-4)), (10, .int (-4)), (9, .int 0), (8, .int v1), (0, .ref (ad G 30)), (4, .int x4), (5, .int x5), (7, .int x7)]) hx hb dX8_gauged_128 hl (by decide) rfl (fun ls hl => ?_)
      exact w_X8_gauged_130 hC hQ _ _ _ _ _ _ _ _ _ _ _ _ _ hP hS (lv_sub hl [5, 6, 7, 8, 4, 3, 2, 1, 0] rfl) hf
    · rw [if_neg hc] at hf
      refine lv_aload_n hx hb dX8_gauged_81 rfl (lv_at hl 0 rfl) ?_
      refine gFr hC hP (j := 27) sg_30 vc_8 iT8 (by decide) rfl tb_4_98 dX8_gauged_82 ?_
      refine lv_iload hx hb dX8_gauged_85 (lv_at hl 3 rfl) ?_
      refine lv_iconst (v := 2) hx hb dX8_gauged_87 (by decide) ?_
      refine lv_iload hx hb dX8_gauged_88 (lv_at hl 4 rfl) ?_
      refine lv_imul hx hb dX8_gauged_90 ?_
      refine lv_iadd hx hb dX8_gauged_91 ?_
      obtain ⟨v2, hv, hf⟩ := ob_some hf
      refine gIa hC hP hv dX8_gauged_92 ?_
      obtain ⟨v3, hv, hf⟩ := ob_some hf
      refine cI hS (runS hC hP hS (As := [.int v2]) (rest := []) (k_X8_isStart l G S v2 _ hv) vy_X8_isStart tb_5_74 tb_5_75 ⟨Nat.le_of_ble_eq_true rfl, Nat.le_of_ble_eq_true rfl⟩ rfl hl.1 rfl (Nat.le_of_ble_eq_true rfl) dX8_gauged_93) (fun H locs hP hS => ?_)
      refine lv_if_ne (tgt := 102) hx hb dX8_gauged_96 (by decide) (fun hc => ?_) (fun hc => ?_)
      · rw [if_neg hc] at hf
        refine lv_iinc (v := x8 + 1) (lv' := [(8, .int (x8 + 1)), (0, .ref (ad G 30)), (4, .int x4), (5, .int x5), (7, .int x7)]) hx hb dX8_gauged_102 hl (k := 4) rfl rfl (by decide) rfl (fun ls hl => ?_)
        refine lv_goto (tgt := 74) hx hb dX8_gauged_105 (by decide) ?_
        exact ih _ _ _ _ _ _ _ _ hP hS (lv_sub hl [1, 2, 3, 4, 0] rfl) hf
      · rw [if_pos hc] at hf
        refine lv_bipush (v := (-2)) hx hb dX8_gauged_99 (by decide) ?_
        exact retIw hQ hf hP hS dX8_gauged_101
def f_X8_gauged (S : ST) (x1 : Int32) (x2 : Int32) (x3 : Int32) (x4 : Int32) (x5 : Int32) : Option (Int32 × ST) := (f_X8_isSheet x1).bind fun v1 => if v1 = 0 then (some ((-1), S)) else ((f_X8_isLane x2).bind fun v2 => if v2 = 0 then (some ((-1), S)) else ((f_X8_in (x4.toInt64) 1 8).bind fun v3 => if v3 = 0 then (some ((-1), S)) else ((f_X8_in (x5.toInt64) 0 2).bind fun v4 => if v4 = 0 then (some ((-1), S)) else ((f_X8_finds S x1 x2 x3 (2 * x4)).bind fun v5 => if 0 ≤ v5 then (f_X8_gauged_74 FU S x4 x5 ((24 * x1) + x3) 0) else (some (v5, S))))))
set_option maxRecDepth 100000 in
set_option maxHeartbeats 4000000 in
theorem k_X8_gauged (l : Launch) (G : GT) (S : ST) (x1 : Int32) (x2 : Int32) (x3 : Int32) (x4 : Int32) (x5 : Int32) (r : Int32) (S' : ST) (hf : f_X8_gauged S x1 x2 x3 x4 x5 = some (r, S')) : MI l yX8_gauged cX8_gauged 15 (some .int) 3 [.ref (ad G 30), .int x1, .int x2, .int x3, .int x4, .int x5] G S r S' := by
  rw [f_X8_gauged] at hf
  refine mkI (own := RX8) (by decide +kernel) rfl rfl (Nat.le_of_ble_eq_true rfl) (fun p e s m args below meth c Q ls hC hP hS hl hQ => ?_)
  have hl : lv_has ls 15 [(0, .ref (ad G 30)), (1, .int x1), (2, .int x2), (3, .int x3), (4, .int x4), (5, .int x5)] := hl
  obtain ⟨hx, hb, hml, hown, hts⟩ := id hC.1
  refine lv_iload_n hx hb dX8_gauged_0 rfl (lv_at hl 1 rfl) ?_
  obtain ⟨v1, hv, hf⟩ := ob_some hf
  refine cI hS (runS hC hP hS (As := [.int x1]) (rest := []) (k_X8_isSheet l G S x1 _ hv) vy_X8_isSheet tb_5_182 tb_5_183 ⟨Nat.le_of_ble_eq_true rfl, Nat.le_of_ble_eq_true rfl⟩ rfl hl.1 rfl (Nat.le_of_ble_eq_true rfl) dX8_gauged_1) (fun H locs hP hS => ?_)
  refine lv_if_eq (tgt := 40) hx hb dX8_gauged_4 (by decide) (fun hc => ?_) (fun hc => ?_)
  · rw [if_pos hc] at hf
    refine lv_iconst (v := (-1)) hx hb dX8_gauged_40 (by decide) ?_
    exact retIw hQ hf hP hS dX8_gauged_41
  · rw [if_neg hc] at hf
    refine lv_iload_n hx hb dX8_gauged_7 rfl (lv_at hl 2 rfl) ?_
    obtain ⟨v2, hv, hf⟩ := ob_some hf
    refine cI hS (runS hC hP hS (As := [.int x2]) (rest := []) (k_X8_isLane l G S x2 _ hv) vy_X8_isLane tb_5_185 tb_5_186 ⟨Nat.le_of_ble_eq_true rfl, Nat.le_of_ble_eq_true rfl⟩ rfl hl.1 rfl (Nat.le_of_ble_eq_true rfl) dX8_gauged_8) (fun H locs hP hS => ?_)
    refine lv_if_eq (tgt := 40) hx hb dX8_gauged_11 (by decide) (fun hc => ?_) (fun hc => ?_)
    · rw [if_pos hc] at hf
      refine lv_iconst (v := (-1)) hx hb dX8_gauged_40 (by decide) ?_
      exact retIw hQ hf hP hS dX8_gauged_41
    · rw [if_neg hc] at hf
      refine lv_iload hx hb dX8_gauged_14 (lv_at hl 4 rfl) ?_
      refine lv_i2l (v := x4.toInt64) hx hb dX8_gauged_16 rfl ?_
      refine lv_lconst (v := 1) hx hb dX8_gauged_17 (by decide) ?_
      refine lv_ldc2 hx hb hown (hts _ tb_4_223) dX8_gauged_18 ?_
      obtain ⟨v3, hv, hf⟩ := ob_some hf
      refine cI hS (runS hC hP hS (As := [.long (x4.toInt64), .long 1, .long 8]) (rest := []) (k_X8_in l G S (x4.toInt64) 1 8 _ hv) vy_X8_in tb_4_169 tb_4_170 ⟨Nat.le_of_ble_eq_true rfl, Nat.le_of_ble_eq_true rfl⟩ rfl hl.1 rfl (Nat.le_of_ble_eq_true rfl) dX8_gauged_21) (fun H locs hP hS => ?_)
      refine lv_if_eq (tgt := 40) hx hb dX8_gauged_24 (by decide) (fun hc => ?_) (fun hc => ?_)
      · rw [if_pos hc] at hf
        refine lv_iconst (v := (-1)) hx hb dX8_gauged_40 (by decide) ?_
        exact retIw hQ hf hP hS dX8_gauged_41
      · rw [if_neg hc] at hf
        refine lv_iload hx hb dX8_gauged_27 (lv_at hl 5 rfl) ?_
        refine lv_i2l (v := x5.toInt64) hx hb dX8_gauged_29 rfl ?_
        refine lv_lconst (v := 0) hx hb dX8_gauged_30 (by decide) ?_
        refine lv_ldc2 hx hb hown (hts _ tb_5_97) dX8_gauged_31 ?_
        obtain ⟨v4, hv, hf⟩ := ob_some hf
        refine cI hS (runS hC hP hS (As := [.long (x5.toInt64), .long 0, .long 2]) (rest := []) (k_X8_in l G S (x5.toInt64) 0 2 _ hv) vy_X8_in tb_4_169 tb_4_170 ⟨Nat.le_of_ble_eq_true rfl, Nat.le_of_ble_eq_true rfl⟩ rfl hl.1 rfl (Nat.le_of_ble_eq_true rfl) dX8_gauged_34) (fun H locs hP hS => ?_)
        refine lv_if_ne (tgt := 42) hx hb dX8_gauged_37 (by decide) (fun hc => ?_) (fun hc => ?_)
        · rw [if_neg hc] at hf
          refine lv_aload_n hx hb dX8_gauged_42 rfl (lv_at hl 0 rfl) ?_
          refine lv_iload_n hx hb dX8_gauged_43 rfl (lv_at hl 1 rfl) ?_
          refine lv_iload_n hx hb dX8_gauged_44 rfl (lv_at hl 2 rfl) ?_
          refine lv_iload_n hx hb dX8_gauged_45 rfl (lv_at hl 3 rfl) ?_
          refine lv_iconst (v := 2) hx hb dX8_gauged_46 (by decide) ?_
          refine lv_iload hx hb dX8_gauged_47 (lv_at hl 4 rfl) ?_
          refine lv_imul hx hb dX8_gauged_49 ?_
          obtain ⟨v5, hv, hf⟩ := ob_some hf
          refine cI hS (runV hC hP hS (As := [.int x1, .int x2, .int x3, .int (2 * x4)]) (rest := []) (k_X8_finds l G S x1 x2 x3 (2 * x4) _ hv) vy_X8_finds sg_30 vc_8 tb_5_188 tb_5_190 ts_49 ⟨Nat.le_of_ble_eq_true rfl, Nat.le_of_ble_eq_true rfl⟩ rfl hl.1 rfl (Nat.le_of_ble_eq_true rfl) dX8_gauged_50) (fun H locs hP hS => ?_)
          refine lv_istore (lv' := [(6, .int v5), (0, .ref (ad G 30)), (1, .int x1), (2, .int x2), (3, .int x3), (4, .int x4), (5, .int x5)]) hx hb dX8_gauged_53 hl (by decide) rfl (fun ls hl => ?_)
          refine lv_iload hx hb dX8_gauged_55 (lv_at hl 0 rfl) ?_
          refine lv_if_ge (tgt := 63) hx hb dX8_gauged_57 (by decide) (fun hc => ?_) (fun hc => ?_)
          · rw [if_pos hc] at hf
            refine lv_bipush (v := 24) hx hb dX8_gauged_63 (by decide) ?_
            refine lv_iload_n hx hb dX8_gauged_65 rfl (lv_at hl 2 rfl) ?_
            refine lv_imul hx hb dX8_gauged_66 ?_
            refine lv_iload_n hx hb dX8_gauged_67 rfl (lv_at hl 4 rfl) ?_
            refine lv_iadd hx hb dX8_gauged_68 ?_
            refine lv_istore (lv' := [(7, .int ((24 * x1) + x3)), (6, .int v5), (0, .ref (ad G 30)), (1, .int x1), (2, .int x2), (3, .int x3), (4, .int x4), (5, .int x5)]) hx hb dX8_gauged_69 hl (by decide) rfl (fun ls hl => ?_)
            refine lv_iconst (v := 0) hx hb dX8_gauged_71 (by decide) ?_
            refine lv_istore (lv' := [(8, .int 0), (7, .int ((24 * x1) + x3)), (6, .int v5), (0, .ref (ad G 30)), (1, .int x1), (2, .int x2), (3, .int x3), (4, .int x4), (5, .int x5)]) hx hb dX8_gauged_72 hl (by decide) rfl (fun ls hl => ?_)
            exact w_X8_gauged_74 hC hQ _ _ _ _ _ _ _ _ _ hP hS (lv_sub hl [3, 7, 8, 1, 0] rfl) hf
          · rw [if_neg hc] at hf
            refine lv_iload hx hb dX8_gauged_60 (lv_at hl 0 rfl) ?_
            exact retIw hQ hf hP hS dX8_gauged_62
        · rw [if_pos hc] at hf
          refine lv_iconst (v := (-1)) hx hb dX8_gauged_40 (by decide) ?_
          exact retIw hQ hf hP hS dX8_gauged_41
def f_X8_sheet_46  : Nat → ST → Int32 → Int32 → Int32 → Option (Int32 × ST)
  | 0, _, _, _, _ => none
  | n + 1, S, x1, x3, x4 => if 24 ≤ x4 then (some (x3, S)) else ((wI S 48 ((24 * x1) + x4) 0).bind fun S1 => f_X8_sheet_46 n S1 x1 x3 (x4 + 1))
set_option maxRecDepth 100000 in
set_option maxHeartbeats 4000000 in
theorem w_X8_sheet_46 {r : Int32} {S' : ST} (hC : Cx p m c s args cX8_sheet 5 RX8 G) (hQ : KI p l e (rmH 3) s m args below meth c Q cX8_sheet G r S') : ∀ (n : Nat) (S : ST) (x1 : Int32) (x3 : Int32) (x4 : Int32) (H : Heap) (locs : List Loc) (ls : Array Slot), va_P (gD G) vwCl (cells G S) H → va_S (gA G) s.heap H locs → lv_has ls 5 [(0, .ref (ad G 30)), (1, .int x1), (3, .int x3), (4, .int x4)] → f_X8_sheet_46 n S x1 x3 x4 = some (r, S') → W p l e (rmH 3) s m args below meth c H locs 0 0 Q (F0 m 46 ls []) := by
  obtain ⟨hx, hb, hml, hown, hts⟩ := id hC.1
  intro n
  induction n with
  | zero => intro S x1 x3 x4 H locs ls hP hS hl hf; rw [f_X8_sheet_46] at hf; cases hf
  | succ n ih =>
    intro S x1 x3 x4 H locs ls hP hS hl hf
    rw [f_X8_sheet_46] at hf
    refine lv_iload hx hb dX8_sheet_46 (lv_at hl 3 rfl) ?_
    refine lv_bipush (v := 24) hx hb dX8_sheet_48 (by decide) ?_
    refine lv_icmp_ge (tgt := 72) hx hb dX8_sheet_50 (by decide) (fun hc => ?_) (fun hc => ?_)
    · rw [if_pos hc] at hf
      refine lv_iload_n hx hb dX8_sheet_72 rfl (lv_at hl 2 rfl) ?_
      exact retIw hQ hf hP hS dX8_sheet_73
    · rw [if_neg hc] at hf
      refine lv_aload_n hx hb dX8_sheet_53 rfl (lv_at hl 0 rfl) ?_
      refine gFr hC hP (j := 27) sg_30 vc_8 iT8 (by decide) rfl tb_4_98 dX8_sheet_54 ?_
      refine lv_bipush (v := 24) hx hb dX8_sheet_57 (by decide) ?_
      refine lv_iload_n hx hb dX8_sheet_59 rfl (lv_at hl 1 rfl) ?_
      refine lv_imul hx hb dX8_sheet_60 ?_
      refine lv_iload hx hb dX8_sheet_61 (lv_at hl 3 rfl) ?_
      refine lv_iadd hx hb dX8_sheet_63 ?_
      refine lv_iconst (v := 0) hx hb dX8_sheet_64 (by decide) ?_
      obtain ⟨S1, hv, hf⟩ := ob_some hf
      refine sIa hC hP hS hv dX8_sheet_65 (fun H locs hP hS => ?_)
      refine lv_iinc (v := x4 + 1) (lv' := [(4, .int (x4 + 1)), (0, .ref (ad G 30)), (1, .int x1), (3, .int x3)]) hx hb dX8_sheet_66 hl (k := 3) rfl rfl (by decide) rfl (fun ls hl => ?_)
      refine lv_goto (tgt := 46) hx hb dX8_sheet_69 (by decide) ?_
      exact ih _ _ _ _ _ _ _ hP hS (lv_sub hl [1, 2, 3, 0] rfl) hf
def f_X8_sheet (S : ST) (x1 : Int32) (x2 : Int32) (x3 : Int32) : Option (Int32 × ST) := (f_X8_isSheet x1).bind fun v1 => if v1 = 0 then (some ((-1), S)) else ((f_X8_isLane x2).bind fun v2 => if v2 = 0 then (some ((-1), S)) else (if x3 ≤ 24 then (if 0 ≤ x3 then ((wI S 46 x1 x2).bind fun S3 => (wI S3 47 x1 x3).bind fun S4 => f_X8_sheet_46 FU S4 x1 x3 0) else (some ((-14), S))) else (some ((-1), S))))
set_option maxRecDepth 100000 in
set_option maxHeartbeats 4000000 in
theorem k_X8_sheet (l : Launch) (G : GT) (S : ST) (x1 : Int32) (x2 : Int32) (x3 : Int32) (r : Int32) (S' : ST) (hf : f_X8_sheet S x1 x2 x3 = some (r, S')) : MI l yX8_sheet cX8_sheet 5 (some .int) 3 [.ref (ad G 30), .int x1, .int x2, .int x3] G S r S' := by
  rw [f_X8_sheet] at hf
  refine mkI (own := RX8) (by decide +kernel) rfl rfl (Nat.le_of_ble_eq_true rfl) (fun p e s m args below meth c Q ls hC hP hS hl hQ => ?_)
  have hl : lv_has ls 5 [(0, .ref (ad G 30)), (1, .int x1), (2, .int x2), (3, .int x3)] := hl
  obtain ⟨hx, hb, hml, hown, hts⟩ := id hC.1
  refine lv_iload_n hx hb dX8_sheet_0 rfl (lv_at hl 1 rfl) ?_
  obtain ⟨v1, hv, hf⟩ := ob_some hf
  refine cI hS (runS hC hP hS (As := [.int x1]) (rest := []) (k_X8_isSheet l G S x1 _ hv) vy_X8_isSheet tb_5_182 tb_5_183 ⟨Nat.le_of_ble_eq_true rfl, Nat.le_of_ble_eq_true rfl⟩ rfl hl.1 rfl (Nat.le_of_ble_eq_true rfl) dX8_sheet_1) (fun H locs hP hS => ?_)
  refine lv_if_eq (tgt := 20) hx hb dX8_sheet_4 (by decide) (fun hc => ?_) (fun hc => ?_)
  · rw [if_pos hc] at hf
    refine lv_iconst (v := (-1)) hx hb dX8_sheet_20 (by decide) ?_
    exact retIw hQ hf hP hS dX8_sheet_21
  · rw [if_neg hc] at hf
    refine lv_iload_n hx hb dX8_sheet_7 rfl (lv_at hl 2 rfl) ?_
    obtain ⟨v2, hv, hf⟩ := ob_some hf
    refine cI hS (runS hC hP hS (As := [.int x2]) (rest := []) (k_X8_isLane l G S x2 _ hv) vy_X8_isLane tb_5_185 tb_5_186 ⟨Nat.le_of_ble_eq_true rfl, Nat.le_of_ble_eq_true rfl⟩ rfl hl.1 rfl (Nat.le_of_ble_eq_true rfl) dX8_sheet_8) (fun H locs hP hS => ?_)
    refine lv_if_eq (tgt := 20) hx hb dX8_sheet_11 (by decide) (fun hc => ?_) (fun hc => ?_)
    · rw [if_pos hc] at hf
      refine lv_iconst (v := (-1)) hx hb dX8_sheet_20 (by decide) ?_
      exact retIw hQ hf hP hS dX8_sheet_21
    · rw [if_neg hc] at hf
      refine lv_iload_n hx hb dX8_sheet_14 rfl (lv_at hl 3 rfl) ?_
      refine lv_bipush (v := 24) hx hb dX8_sheet_15 (by decide) ?_
      refine lv_icmp_le (tgt := 22) hx hb dX8_sheet_17 (by decide) (fun hc => ?_) (fun hc => ?_)
      · rw [if_pos hc] at hf
        refine lv_iload_n hx hb dX8_sheet_22 rfl (lv_at hl 3 rfl) ?_
        refine lv_if_ge (tgt := 29) hx hb dX8_sheet_23 (by decide) (fun hc => ?_) (fun hc => ?_)
        · rw [if_pos hc] at hf
          refine lv_aload_n hx hb dX8_sheet_29 rfl (lv_at hl 0 rfl) ?_
          refine gFr hC hP (j := 25) sg_30 vc_8 iT8 (by decide) rfl tb_4_96 dX8_sheet_30 ?_
          refine lv_iload_n hx hb dX8_sheet_33 rfl (lv_at hl 1 rfl) ?_
          refine lv_iload_n hx hb dX8_sheet_34 rfl (lv_at hl 2 rfl) ?_
          obtain ⟨S3, hv, hf⟩ := ob_some hf
          refine sIa hC hP hS hv dX8_sheet_35 (fun H locs hP hS => ?_)
          refine lv_aload_n hx hb dX8_sheet_36 rfl (lv_at hl 0 rfl) ?_
          refine gFr hC hP (j := 26) sg_30 vc_8 iT8 (by decide) rfl tb_4_97 dX8_sheet_37 ?_
          refine lv_iload_n hx hb dX8_sheet_40 rfl (lv_at hl 1 rfl) ?_
          refine lv_iload_n hx hb dX8_sheet_41 rfl (lv_at hl 3 rfl) ?_
          obtain ⟨S4, hv, hf⟩ := ob_some hf
          refine sIa hC hP hS hv dX8_sheet_42 (fun H locs hP hS => ?_)
          refine lv_iconst (v := 0) hx hb dX8_sheet_43 (by decide) ?_
          refine lv_istore (lv' := [(4, .int 0), (0, .ref (ad G 30)), (1, .int x1), (2, .int x2), (3, .int x3)]) hx hb dX8_sheet_44 hl (by decide) rfl (fun ls hl => ?_)
          exact w_X8_sheet_46 hC hQ _ _ _ _ _ _ _ _ hP hS (lv_sub hl [1, 2, 4, 0] rfl) hf
        · rw [if_neg hc] at hf
          refine lv_bipush (v := (-14)) hx hb dX8_sheet_26 (by decide) ?_
          exact retIw hQ hf hP hS dX8_sheet_28
      · rw [if_neg hc] at hf
        refine lv_iconst (v := (-1)) hx hb dX8_sheet_20 (by decide) ?_
        exact retIw hQ hf hP hS dX8_sheet_21
def f_X8_drop (S : ST) (x1 : Int32) : Option (Int32 × ST) := (f_X8_isSheet x1).bind fun v1 => if v1 = 0 then (some ((-1), S)) else ((rI S 0 46 x1).bind fun v2 => if 0 ≤ v2 then ((wI S 46 x1 (-1)).bind fun S3 => (rI S3 0 47 x1).bind fun v4 => some (v4, S3)) else (some ((-11), S)))
set_option maxRecDepth 100000 in
set_option maxHeartbeats 4000000 in
theorem k_X8_drop (l : Launch) (G : GT) (S : ST) (x1 : Int32) (r : Int32) (S' : ST) (hf : f_X8_drop S x1 = some (r, S')) : MI l yX8_drop cX8_drop 2 (some .int) 3 [.ref (ad G 30), .int x1] G S r S' := by
  rw [f_X8_drop] at hf
  refine mkI (own := RX8) (by decide +kernel) rfl rfl (Nat.le_of_ble_eq_true rfl) (fun p e s m args below meth c Q ls hC hP hS hl hQ => ?_)
  have hl : lv_has ls 2 [(0, .ref (ad G 30)), (1, .int x1)] := hl
  obtain ⟨hx, hb, hml, hown, hts⟩ := id hC.1
  refine lv_iload_n hx hb dX8_drop_0 rfl (lv_at hl 1 rfl) ?_
  obtain ⟨v1, hv, hf⟩ := ob_some hf
  refine cI hS (runS hC hP hS (As := [.int x1]) (rest := []) (k_X8_isSheet l G S x1 _ hv) vy_X8_isSheet tb_5_182 tb_5_183 ⟨Nat.le_of_ble_eq_true rfl, Nat.le_of_ble_eq_true rfl⟩ rfl hl.1 rfl (Nat.le_of_ble_eq_true rfl) dX8_drop_1) (fun H locs hP hS => ?_)
  refine lv_if_ne (tgt := 9) hx hb dX8_drop_4 (by decide) (fun hc => ?_) (fun hc => ?_)
  · rw [if_neg hc] at hf
    refine lv_aload_n hx hb dX8_drop_9 rfl (lv_at hl 0 rfl) ?_
    refine gFr hC hP (j := 25) sg_30 vc_8 iT8 (by decide) rfl tb_4_96 dX8_drop_10 ?_
    refine lv_iload_n hx hb dX8_drop_13 rfl (lv_at hl 1 rfl) ?_
    obtain ⟨v2, hv, hf⟩ := ob_some hf
    refine gIa hC hP hv dX8_drop_14 ?_
    refine lv_if_ge (tgt := 21) hx hb dX8_drop_15 (by decide) (fun hc => ?_) (fun hc => ?_)
    · rw [if_pos hc] at hf
      refine lv_aload_n hx hb dX8_drop_21 rfl (lv_at hl 0 rfl) ?_
      refine gFr hC hP (j := 25) sg_30 vc_8 iT8 (by decide) rfl tb_4_96 dX8_drop_22 ?_
      refine lv_iload_n hx hb dX8_drop_25 rfl (lv_at hl 1 rfl) ?_
      refine lv_iconst (v := (-1)) hx hb dX8_drop_26 (by decide) ?_
      obtain ⟨S3, hv, hf⟩ := ob_some hf
      refine sIa hC hP hS hv dX8_drop_27 (fun H locs hP hS => ?_)
      refine lv_aload_n hx hb dX8_drop_28 rfl (lv_at hl 0 rfl) ?_
      refine gFr hC hP (j := 26) sg_30 vc_8 iT8 (by decide) rfl tb_4_97 dX8_drop_29 ?_
      refine lv_iload_n hx hb dX8_drop_32 rfl (lv_at hl 1 rfl) ?_
      obtain ⟨v4, hv, hf⟩ := ob_some hf
      refine gIa hC hP hv dX8_drop_33 ?_
      exact retIw hQ hf hP hS dX8_drop_34
    · rw [if_neg hc] at hf
      refine lv_bipush (v := (-11)) hx hb dX8_drop_18 (by decide) ?_
      exact retIw hQ hf hP hS dX8_drop_20
  · rw [if_pos hc] at hf
    refine lv_iconst (v := (-1)) hx hb dX8_drop_7 (by decide) ?_
    exact retIw hQ hf hP hS dX8_drop_8
end
