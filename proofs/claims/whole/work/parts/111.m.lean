section
variable {p : Program} {l : Launch} {e : Env} {s : State} {m : MethodId} {args : Array Value} {below : List Frame} {meth : Method} {c : Code} {Q : State → Prop} {G : GT}

def f_X3_put_37  (S : ST) (y0 : Int32) (y1 : Int32) (y2 : Nat) : Option ST := (wI S y2 y1 y0).bind fun S1 => some S1
set_option maxRecDepth 100000 in
set_option maxHeartbeats 4000000 in
theorem w_X3_put_37 {S' : ST} (hC : Cx p m c s args cX3_put 5 RX3 G) (hQ : KV p l e (rmH 1) s m args below meth c Q cX3_put G S') (S : ST) (y0 : Int32) (y1 : Int32) (y2 : Nat) (H : Heap) (locs : List Loc) (ls : Array Slot) (hP : va_P (gD G) vwCl (cells G S) H) (hS : va_S (gA G) s.heap H locs) (hl : lv_has ls 5 []) (hf : f_X3_put_37 S y0 y1 y2 = some S') : W p l e (rmH 1) s m args below meth c H locs 0 0 Q (F0 m 37 ls [.int y0, .int y1, .ref (ad G y2)]) := by
  obtain ⟨hx, hb, hml, hown, hts⟩ := id hC.1
  rw [f_X3_put_37] at hf
  obtain ⟨S1, hv, hf⟩ := ob_some hf
  refine sIa hC hP hS hv dX3_put_37 (fun H locs hP hS => ?_)
  exact retV hQ hf hP hS dX3_put_38
def f_X3_put (S : ST) (x1 : Int32) (x2 : Int32) (x3 : Int32) : Option ST := (rI S 0 27 x1).bind fun v1 => (rA 5 26 x1).bind fun v2 => if v1 = 0 then (f_X3_put_37 S (x3.toInt8.toInt32) x2 v2) else (if v1 = 2 then (f_X3_put_37 S x3 x2 v2) else (f_X3_put_37 S (x3.toInt16.toInt32) x2 v2))
set_option maxRecDepth 100000 in
set_option maxHeartbeats 4000000 in
theorem k_X3_put (l : Launch) (G : GT) (S : ST) (x1 : Int32) (x2 : Int32) (x3 : Int32) (S' : ST) (hf : f_X3_put S x1 x2 x3 = some S') : MV l yX3_put cX3_put 5 1 [.ref (ad G 25), .int x1, .int x2, .int x3] G S S' := by
  rw [f_X3_put] at hf
  refine mkV (own := RX3) (by decide +kernel) rfl (Nat.le_of_ble_eq_true rfl) (fun p e s m args below meth c Q ls hC hP hS hl hQ => ?_)
  have hl : lv_has ls 5 [(0, .ref (ad G 25)), (1, .int x1), (2, .int x2), (3, .int x3)] := hl
  obtain ⟨hx, hb, hml, hown, hts⟩ := id hC.1
  refine lv_aload_n hx hb dX3_put_0 rfl (lv_at hl 0 rfl) ?_
  refine gFr hC hP (j := 1) sg_25 vc_3 iT3 (by decide) rfl tb_1_203 dX3_put_1 ?_
  refine lv_iload_n hx hb dX3_put_4 rfl (lv_at hl 1 rfl) ?_
  obtain ⟨v1, hv, hf⟩ := ob_some hf
  refine gIa hC hP hv dX3_put_5 ?_
  refine lv_istore (lv' := [(4, .int v1), (0, .ref (ad G 25)), (1, .int x1), (2, .int x2), (3, .int x3)]) hx hb dX3_put_6 hl (by decide) rfl (fun ls hl => ?_)
  refine lv_aload_n hx hb dX3_put_8 rfl (lv_at hl 1 rfl) ?_
  refine gFr hC hP (j := 0) sg_25 vc_3 iT3 (by decide) rfl tb_1_202 dX3_put_9 ?_
  refine lv_iload_n hx hb dX3_put_12 rfl (lv_at hl 2 rfl) ?_
  obtain ⟨v2, hv, hf⟩ := ob_some hf
  refine gAa5 hC hP hv dX3_put_13 ?_
  refine lv_iload_n hx hb dX3_put_14 rfl (lv_at hl 3 rfl) ?_
  refine lv_iload hx hb dX3_put_15 (lv_at hl 0 rfl) ?_
  refine lv_if_ne (tgt := 25) hx hb dX3_put_17 (by decide) (fun hc => ?_) (fun hc => ?_)
  · rw [if_neg hc] at hf
    refine lv_iload hx hb dX3_put_25 (lv_at hl 0 rfl) ?_
    refine lv_iconst (v := 2) hx hb dX3_put_27 (by decide) ?_
    refine lv_icmp_ne (tgt := 35) hx hb dX3_put_28 (by decide) (fun hc => ?_) (fun hc => ?_)
    · rw [if_neg hc] at hf
      refine lv_iload_n hx hb dX3_put_35 rfl (lv_at hl 4 rfl) ?_
      refine lv_i2s (v := x3.toInt16.toInt32) hx hb dX3_put_36 rfl ?_
      exact w_X3_put_37 hC hQ  _ _ _ _ _ _ _ hP hS (lv_sub hl [] rfl) hf
    · rw [if_pos hc] at hf
      refine lv_iload_n hx hb dX3_put_31 rfl (lv_at hl 4 rfl) ?_
      refine lv_goto (tgt := 37) hx hb dX3_put_32 (by decide) ?_
      exact w_X3_put_37 hC hQ  _ _ _ _ _ _ _ hP hS (lv_sub hl [] rfl) hf
  · rw [if_pos hc] at hf
    refine lv_iload_n hx hb dX3_put_20 rfl (lv_at hl 4 rfl) ?_
    refine lv_i2b (v := x3.toInt8.toInt32) hx hb dX3_put_21 rfl ?_
    refine lv_goto (tgt := 37) hx hb dX3_put_22 (by decide) ?_
    exact w_X3_put_37 hC hQ  _ _ _ _ _ _ _ hP hS (lv_sub hl [] rfl) hf
def f_X7_item (S : ST) (x1 : Int32) (x2 : Int32) (x3 : Int32) (x4 : Int32) : Option (Int32 × ST) := (f_X3_refusal S x1 x2 x3 1).bind fun v1 => if v1 = 0 then ((f_X3_put S x1 x3 x4).bind fun S2 => some (1, S2)) else (some (v1, S))
set_option maxRecDepth 100000 in
set_option maxHeartbeats 4000000 in
theorem k_X7_item (l : Launch) (G : GT) (S : ST) (x1 : Int32) (x2 : Int32) (x3 : Int32) (x4 : Int32) (r : Int32) (S' : ST) (hf : f_X7_item S x1 x2 x3 x4 = some (r, S')) : MI l yX7_item cX7_item 6 (some .int) 4 [.ref (ad G 0), .int x1, .int x2, .int x3, .int x4] G S r S' := by
  rw [f_X7_item] at hf
  refine mkI (own := RX7) (by decide +kernel) rfl rfl (Nat.le_of_ble_eq_true rfl) (fun p e s m args below meth c Q ls hC hP hS hl hQ => ?_)
  have hl : lv_has ls 6 [(0, .ref (ad G 0)), (1, .int x1), (2, .int x2), (3, .int x3), (4, .int x4)] := hl
  obtain ⟨hx, hb, hml, hown, hts⟩ := id hC.1
  refine lv_aload_n hx hb dX7_item_0 rfl (lv_at hl 0 rfl) ?_
  refine gFr hC hP (j := 7) sg_0 vc_7 iT7 (by decide) rfl tb_1_219 dX7_item_1 ?_
  refine lv_iload_n hx hb dX7_item_4 rfl (lv_at hl 1 rfl) ?_
  refine lv_iload_n hx hb dX7_item_5 rfl (lv_at hl 2 rfl) ?_
  refine lv_iload_n hx hb dX7_item_6 rfl (lv_at hl 3 rfl) ?_
  refine lv_iconst (v := 1) hx hb dX7_item_7 (by decide) ?_
  obtain ⟨v1, hv, hf⟩ := ob_some hf
  refine cI hS (runV hC hP hS (As := [.int x1, .int x2, .int x3, .int 1]) (rest := []) (k_X3_refusal l G S x1 x2 x3 1 _ hv) vy_X3_refusal sg_25 vc_3 tb_4_0 tb_4_1 tb_4_2 ⟨Nat.le_of_ble_eq_true rfl, Nat.le_of_ble_eq_true rfl⟩ rfl hl.1 rfl (Nat.le_of_ble_eq_true rfl) dX7_item_8) (fun H locs hP hS => ?_)
  refine lv_istore (lv' := [(5, .int v1), (0, .ref (ad G 0)), (1, .int x1), (2, .int x2), (3, .int x3), (4, .int x4)]) hx hb dX7_item_11 hl (by decide) rfl (fun ls hl => ?_)
  refine lv_iload hx hb dX7_item_13 (lv_at hl 0 rfl) ?_
  refine lv_if_eq (tgt := 21) hx hb dX7_item_15 (by decide) (fun hc => ?_) (fun hc => ?_)
  · rw [if_pos hc] at hf
    refine lv_aload_n hx hb dX7_item_21 rfl (lv_at hl 1 rfl) ?_
    refine gFr hC hP (j := 7) sg_0 vc_7 iT7 (by decide) rfl tb_1_219 dX7_item_22 ?_
    refine lv_iload_n hx hb dX7_item_25 rfl (lv_at hl 2 rfl) ?_
    refine lv_iload_n hx hb dX7_item_26 rfl (lv_at hl 4 rfl) ?_
    refine lv_iload hx hb dX7_item_27 (lv_at hl 5 rfl) ?_
    obtain ⟨S2, hv, hf⟩ := ob_some hf
    refine cV hS (runV hC hP hS (As := [.int x1, .int x3, .int x4]) (rest := []) (k_X3_put l G S x1 x3 x4 _ hv) vy_X3_put sg_25 vc_3 tb_4_52 tb_4_53 tb_4_54 ⟨Nat.le_of_ble_eq_true rfl, Nat.le_of_ble_eq_true rfl⟩ rfl hl.1 rfl (Nat.le_of_ble_eq_true rfl) dX7_item_29) (fun H locs hP hS => ?_)
    refine lv_iconst (v := 1) hx hb dX7_item_32 (by decide) ?_
    exact retIw hQ hf hP hS dX7_item_33
  · rw [if_neg hc] at hf
    refine lv_iload hx hb dX7_item_18 (lv_at hl 0 rfl) ?_
    exact retIw hQ hf hP hS dX7_item_20
def f_X3_move (S : ST) (x1 : Int32) (x2 : Int32) (x3 : Int32) (x4 : Int32) (x5 : Int32) : Option (Int32 × ST) := (f_X3_isSheet x1).bind fun v1 => if v1 = 0 then (some ((-1), S)) else ((f_X3_isSheet x3).bind fun v2 => if v2 = 0 then (some ((-1), S)) else ((f_X3_isNothing S x1).bind fun v3 => if v3 = 0 then ((f_X3_isNothing S x3).bind fun v4 => if v4 = 0 then ((rI S 0 27 x1).bind fun v5 => (rI S 0 27 x3).bind fun v6 => if v5 = v6 then ((f_X3_hasItems S x1 x2 x5).bind fun v7 => if v7 = 0 then (some ((-13), S)) else ((f_X3_hasItems S x3 x4 x5).bind fun v8 => if v8 = 0 then (some ((-13), S)) else ((rA 5 26 x1).bind fun v9 => (rA 5 26 x3).bind fun v10 => (cpy S v9 x2 v10 x4 x5).bind fun S11 => some (x5, S11)))) else (some ((-12), S))) else (some ((-11), S))) else (some ((-11), S))))
set_option maxRecDepth 100000 in
set_option maxHeartbeats 4000000 in
theorem k_X3_move (l : Launch) (G : GT) (S : ST) (x1 : Int32) (x2 : Int32) (x3 : Int32) (x4 : Int32) (x5 : Int32) (r : Int32) (S' : ST) (hf : f_X3_move S x1 x2 x3 x4 x5 = some (r, S')) : MI l yX3_move cX3_move 6 (some .int) 3 [.ref (ad G 25), .int x1, .int x2, .int x3, .int x4, .int x5] G S r S' := by
  rw [f_X3_move] at hf
  refine mkI (own := RX3) (by decide +kernel) rfl rfl (Nat.le_of_ble_eq_true rfl) (fun p e s m args below meth c Q ls hC hP hS hl hQ => ?_)
  have hl : lv_has ls 6 [(0, .ref (ad G 25)), (1, .int x1), (2, .int x2), (3, .int x3), (4, .int x4), (5, .int x5)] := hl
  obtain ⟨hx, hb, hml, hown, hts⟩ := id hC.1
  refine lv_iload_n hx hb dX3_move_0 rfl (lv_at hl 1 rfl) ?_
  obtain ⟨v1, hv, hf⟩ := ob_some hf
  refine cI hS (runS hC hP hS (As := [.int x1]) (rest := []) (k_X3_isSheet l G S x1 _ hv) vy_X3_isSheet tb_4_4 tb_4_5 ⟨Nat.le_of_ble_eq_true rfl, Nat.le_of_ble_eq_true rfl⟩ rfl hl.1 rfl (Nat.le_of_ble_eq_true rfl) dX3_move_1) (fun H locs hP hS => ?_)
  refine lv_if_eq (tgt := 14) hx hb dX3_move_4 (by decide) (fun hc => ?_) (fun hc => ?_)
  · rw [if_pos hc] at hf
    refine lv_iconst (v := (-1)) hx hb dX3_move_14 (by decide) ?_
    exact retIw hQ hf hP hS dX3_move_15
  · rw [if_neg hc] at hf
    refine lv_iload_n hx hb dX3_move_7 rfl (lv_at hl 3 rfl) ?_
    obtain ⟨v2, hv, hf⟩ := ob_some hf
    refine cI hS (runS hC hP hS (As := [.int x3]) (rest := []) (k_X3_isSheet l G S x3 _ hv) vy_X3_isSheet tb_4_4 tb_4_5 ⟨Nat.le_of_ble_eq_true rfl, Nat.le_of_ble_eq_true rfl⟩ rfl hl.1 rfl (Nat.le_of_ble_eq_true rfl) dX3_move_8) (fun H locs hP hS => ?_)
    refine lv_if_ne (tgt := 16) hx hb dX3_move_11 (by decide) (fun hc => ?_) (fun hc => ?_)
    · rw [if_neg hc] at hf
      refine lv_aload_n hx hb dX3_move_16 rfl (lv_at hl 0 rfl) ?_
      refine lv_iload_n hx hb dX3_move_17 rfl (lv_at hl 1 rfl) ?_
      obtain ⟨v3, hv, hf⟩ := ob_some hf
      refine cI hS (runV hC hP hS (As := [.int x1]) (rest := []) (k_X3_isNothing l G S x1 _ hv) vy_X3_isNothing sg_25 vc_3 tb_4_11 tb_4_13 ts_24 ⟨Nat.le_of_ble_eq_true rfl, Nat.le_of_ble_eq_true rfl⟩ rfl hl.1 rfl (Nat.le_of_ble_eq_true rfl) dX3_move_18) (fun H locs hP hS => ?_)
      refine lv_if_ne (tgt := 32) hx hb dX3_move_21 (by decide) (fun hc => ?_) (fun hc => ?_)
      · rw [if_neg hc] at hf
        refine lv_bipush (v := (-11)) hx hb dX3_move_32 (by decide) ?_
        exact retIw hQ hf hP hS dX3_move_34
      · rw [if_pos hc] at hf
        refine lv_aload_n hx hb dX3_move_24 rfl (lv_at hl 0 rfl) ?_
        refine lv_iload_n hx hb dX3_move_25 rfl (lv_at hl 3 rfl) ?_
        obtain ⟨v4, hv, hf⟩ := ob_some hf
        refine cI hS (runV hC hP hS (As := [.int x3]) (rest := []) (k_X3_isNothing l G S x3 _ hv) vy_X3_isNothing sg_25 vc_3 tb_4_11 tb_4_13 ts_24 ⟨Nat.le_of_ble_eq_true rfl, Nat.le_of_ble_eq_true rfl⟩ rfl hl.1 rfl (Nat.le_of_ble_eq_true rfl) dX3_move_26) (fun H locs hP hS => ?_)
        refine lv_if_eq (tgt := 35) hx hb dX3_move_29 (by decide) (fun hc => ?_) (fun hc => ?_)
        · rw [if_pos hc] at hf
          refine lv_aload_n hx hb dX3_move_35 rfl (lv_at hl 0 rfl) ?_
          refine gFr hC hP (j := 1) sg_25 vc_3 iT3 (by decide) rfl tb_1_203 dX3_move_36 ?_
          refine lv_iload_n hx hb dX3_move_39 rfl (lv_at hl 1 rfl) ?_
          obtain ⟨v5, hv, hf⟩ := ob_some hf
          refine gIa hC hP hv dX3_move_40 ?_
          refine lv_aload_n hx hb dX3_move_41 rfl (lv_at hl 0 rfl) ?_
          refine gFr hC hP (j := 1) sg_25 vc_3 iT3 (by decide) rfl tb_1_203 dX3_move_42 ?_
          refine lv_iload_n hx hb dX3_move_45 rfl (lv_at hl 3 rfl) ?_
          obtain ⟨v6, hv, hf⟩ := ob_some hf
          refine gIa hC hP hv dX3_move_46 ?_
          refine lv_icmp_eq (tgt := 53) hx hb dX3_move_47 (by decide) (fun hc => ?_) (fun hc => ?_)
          · rw [if_pos hc] at hf
            refine lv_aload_n hx hb dX3_move_53 rfl (lv_at hl 0 rfl) ?_
            refine lv_iload_n hx hb dX3_move_54 rfl (lv_at hl 1 rfl) ?_
            refine lv_iload_n hx hb dX3_move_55 rfl (lv_at hl 2 rfl) ?_
            refine lv_iload hx hb dX3_move_56 (lv_at hl 5 rfl) ?_
            obtain ⟨v7, hv, hf⟩ := ob_some hf
            refine cI hS (runV hC hP hS (As := [.int x1, .int x2, .int x5]) (rest := []) (k_X3_hasItems l G S x1 x2 x5 _ hv) vy_X3_hasItems sg_25 vc_3 tb_4_15 tb_4_17 ts_25 ⟨Nat.le_of_ble_eq_true rfl, Nat.le_of_ble_eq_true rfl⟩ rfl hl.1 rfl (Nat.le_of_ble_eq_true rfl) dX3_move_58) (fun H locs hP hS => ?_)
            refine lv_if_eq (tgt := 76) hx hb dX3_move_61 (by decide) (fun hc => ?_) (fun hc => ?_)
            · rw [if_pos hc] at hf
              refine lv_bipush (v := (-13)) hx hb dX3_move_76 (by decide) ?_
              exact retIw hQ hf hP hS dX3_move_78
            · rw [if_neg hc] at hf
              refine lv_aload_n hx hb dX3_move_64 rfl (lv_at hl 0 rfl) ?_
              refine lv_iload_n hx hb dX3_move_65 rfl (lv_at hl 3 rfl) ?_
              refine lv_iload hx hb dX3_move_66 (lv_at hl 4 rfl) ?_
              refine lv_iload hx hb dX3_move_68 (lv_at hl 5 rfl) ?_
              obtain ⟨v8, hv, hf⟩ := ob_some hf
              refine cI hS (runV hC hP hS (As := [.int x3, .int x4, .int x5]) (rest := []) (k_X3_hasItems l G S x3 x4 x5 _ hv) vy_X3_hasItems sg_25 vc_3 tb_4_15 tb_4_17 ts_25 ⟨Nat.le_of_ble_eq_true rfl, Nat.le_of_ble_eq_true rfl⟩ rfl hl.1 rfl (Nat.le_of_ble_eq_true rfl) dX3_move_70) (fun H locs hP hS => ?_)
              refine lv_if_ne (tgt := 79) hx hb dX3_move_73 (by decide) (fun hc => ?_) (fun hc => ?_)
              · rw [if_neg hc] at hf
                refine lv_aload_n hx hb dX3_move_79 rfl (lv_at hl 0 rfl) ?_
                refine gFr hC hP (j := 0) sg_25 vc_3 iT3 (by decide) rfl tb_1_202 dX3_move_80 ?_
                refine lv_iload_n hx hb dX3_move_83 rfl (lv_at hl 1 rfl) ?_
                obtain ⟨v9, hv, hf⟩ := ob_some hf
                refine gAa5 hC hP hv dX3_move_84 ?_
                refine lv_iload_n hx hb dX3_move_85 rfl (lv_at hl 2 rfl) ?_
                refine lv_aload_n hx hb dX3_move_86 rfl (lv_at hl 0 rfl) ?_
                refine gFr hC hP (j := 0) sg_25 vc_3 iT3 (by decide) rfl tb_1_202 dX3_move_87 ?_
                refine lv_iload_n hx hb dX3_move_90 rfl (lv_at hl 3 rfl) ?_
                obtain ⟨v10, hv, hf⟩ := ob_some hf
                refine gAa5 hC hP hv dX3_move_91 ?_
                refine lv_iload hx hb dX3_move_92 (lv_at hl 4 rfl) ?_
                refine lv_iload hx hb dX3_move_94 (lv_at hl 5 rfl) ?_
                obtain ⟨S11, hv, hf⟩ := ob_some hf
                refine sCp hC hP hS (rest := []) hv hl.1 tb_4_64 tb_2_141 tb_2_140 tb_1_11 ⟨Nat.le_of_ble_eq_true rfl, Nat.le_of_ble_eq_true rfl⟩ dX3_move_96 (fun H locs hP hS => ?_)
                refine lv_iload hx hb dX3_move_99 (lv_at hl 5 rfl) ?_
                exact retIw hQ hf hP hS dX3_move_101
              · rw [if_pos hc] at hf
                refine lv_bipush (v := (-13)) hx hb dX3_move_76 (by decide) ?_
                exact retIw hQ hf hP hS dX3_move_78
          · rw [if_neg hc] at hf
            refine lv_bipush (v := (-12)) hx hb dX3_move_50 (by decide) ?_
            exact retIw hQ hf hP hS dX3_move_52
        · rw [if_neg hc] at hf
          refine lv_bipush (v := (-11)) hx hb dX3_move_32 (by decide) ?_
          exact retIw hQ hf hP hS dX3_move_34
    · rw [if_pos hc] at hf
      refine lv_iconst (v := (-1)) hx hb dX3_move_14 (by decide) ?_
      exact retIw hQ hf hP hS dX3_move_15
def f_X7_copy (S : ST) (x1 : Int32) (x2 : Int32) (x3 : Int32) (x4 : Int32) (x5 : Int32) : Option (Int32 × ST) := b2 (f_X3_move S x1 x2 x3 x4 x5) fun v1 S2 => some (v1, S2)
set_option maxRecDepth 100000 in
set_option maxHeartbeats 4000000 in
theorem k_X7_copy (l : Launch) (G : GT) (S : ST) (x1 : Int32) (x2 : Int32) (x3 : Int32) (x4 : Int32) (x5 : Int32) (r : Int32) (S' : ST) (hf : f_X7_copy S x1 x2 x3 x4 x5 = some (r, S')) : MI l yX7_copy cX7_copy 6 (some .int) 4 [.ref (ad G 0), .int x1, .int x2, .int x3, .int x4, .int x5] G S r S' := by
  rw [f_X7_copy] at hf
  refine mkI (own := RX7) (by decide +kernel) rfl rfl (Nat.le_of_ble_eq_true rfl) (fun p e s m args below meth c Q ls hC hP hS hl hQ => ?_)
  have hl : lv_has ls 6 [(0, .ref (ad G 0)), (1, .int x1), (2, .int x2), (3, .int x3), (4, .int x4), (5, .int x5)] := hl
  obtain ⟨hx, hb, hml, hown, hts⟩ := id hC.1
  refine lv_aload_n hx hb dX7_copy_0 rfl (lv_at hl 0 rfl) ?_
  refine gFr hC hP (j := 7) sg_0 vc_7 iT7 (by decide) rfl tb_1_219 dX7_copy_1 ?_
  refine lv_iload_n hx hb dX7_copy_4 rfl (lv_at hl 1 rfl) ?_
  refine lv_iload_n hx hb dX7_copy_5 rfl (lv_at hl 2 rfl) ?_
  refine lv_iload_n hx hb dX7_copy_6 rfl (lv_at hl 3 rfl) ?_
  refine lv_iload hx hb dX7_copy_7 (lv_at hl 4 rfl) ?_
  refine lv_iload hx hb dX7_copy_9 (lv_at hl 5 rfl) ?_
  obtain ⟨v1, S2, hv, hf⟩ := ob_two hf
  refine cI hS (runV hC hP hS (As := [.int x1, .int x2, .int x3, .int x4, .int x5]) (rest := []) (k_X3_move l G S x1 x2 x3 x4 x5 _ _ hv) vy_X3_move sg_25 vc_3 tb_4_60 tb_4_61 tb_4_62 ⟨Nat.le_of_ble_eq_true rfl, Nat.le_of_ble_eq_true rfl⟩ rfl hl.1 rfl (Nat.le_of_ble_eq_true rfl) dX7_copy_11) (fun H locs hP hS => ?_)
  exact retIw hQ hf hP hS dX7_copy_14
def f_X8_in (x0 : Int64) (x2 : Int64) (x4 : Int64) : Option Int32 := if (lg_cmp x0 x2) < 0 then (some 0) else (if 0 < (lg_cmp x0 x4) then (some 0) else (some 1))
set_option maxRecDepth 100000 in
set_option maxHeartbeats 4000000 in
theorem k_X8_in (l : Launch) (G : GT) (S : ST) (x0 : Int64) (x2 : Int64) (x4 : Int64) (r : Int32) (hf : f_X8_in x0 x2 x4 = some r) : MI l yX8_in cX8_in 6 (some .boolean) 1 [.long x0, .long x2, .long x4] G S r S := by
  rw [f_X8_in] at hf
  refine mkZ (own := RX8) (by decide +kernel) rfl (Nat.le_of_ble_eq_true rfl) (fun p e s m args below meth c Q ls hC hP hS hl hQ => ?_)
  have hl : lv_has ls 6 [(0, .long x0), (2, .long x2), (4, .long x4)] := hl
  obtain ⟨hx, hb, hml, hown, hts⟩ := id hC.1
  refine lv_lload_n hx hb dX8_in_0 rfl (lv_at hl 0 rfl) ?_
  refine lv_lload_n hx hb dX8_in_1 rfl (lv_at hl 1 rfl) ?_
  refine W.lcmp hx hb dX8_in_2 ?_
  refine lv_if_lt (tgt := 17) hx hb dX8_in_3 (by decide) (fun hc => ?_) (fun hc => ?_)
  · rw [if_pos hc] at hf
    refine lv_iconst (v := 0) hx hb dX8_in_17 (by decide) ?_
    exact retZ hQ rfl hf hP hS dX8_in_18
  · rw [if_neg hc] at hf
    refine lv_lload_n hx hb dX8_in_6 rfl (lv_at hl 0 rfl) ?_
    refine lv_lload hx hb dX8_in_7 (lv_at hl 2 rfl) ?_
    refine W.lcmp hx hb dX8_in_9 ?_
    refine lv_if_gt (tgt := 17) hx hb dX8_in_10 (by decide) (fun hc => ?_) (fun hc => ?_)
    · rw [if_pos hc] at hf
      refine lv_iconst (v := 0) hx hb dX8_in_17 (by decide) ?_
      exact retZ hQ rfl hf hP hS dX8_in_18
    · rw [if_neg hc] at hf
      refine lv_iconst (v := 1) hx hb dX8_in_13 (by decide) ?_
      refine lv_goto (tgt := 18) hx hb dX8_in_14 (by decide) ?_
      exact retZ hQ rfl hf hP hS dX8_in_18
def f_X8_isPart (x0 : Int32) (x1 : Int32) : Option Int32 := if x0 = 0 then ((f_X8_in (x1.toInt64) 20 250).bind fun v1 => (bz v1).bind fun v2 => some v2) else (if x0 = 1 then ((f_X8_in (x1.toInt64) 10 99).bind fun v3 => (bz v3).bind fun v4 => some v4) else (if x0 = 2 then ((f_X8_in (x1.toInt64) 0 9).bind fun v5 => (bz v5).bind fun v6 => some v6) else (if x0 = 3 then ((f_X8_in (x1.toInt64) 0 20).bind fun v7 => (bz v7).bind fun v8 => some v8) else (if x0 = 4 then ((f_X8_in (x1.toInt64) 0 40).bind fun v9 => if v9 = 0 then (some 0) else (some 1)) else (some 0)))))
set_option maxRecDepth 100000 in
set_option maxHeartbeats 4000000 in
theorem k_X8_isPart (l : Launch) (G : GT) (S : ST) (x0 : Int32) (x1 : Int32) (r : Int32) (hf : f_X8_isPart x0 x1 = some r) : MI l yX8_isPart cX8_isPart 2 (some .boolean) 2 [.int x0, .int x1] G S r S := by
  rw [f_X8_isPart] at hf
  refine mkZ (own := RX8) (by decide +kernel) rfl (Nat.le_of_ble_eq_true rfl) (fun p e s m args below meth c Q ls hC hP hS hl hQ => ?_)
  have hl : lv_has ls 2 [(0, .int x0), (1, .int x1)] := hl
  obtain ⟨hx, hb, hml, hown, hts⟩ := id hC.1
  refine lv_iload_n hx hb dX8_isPart_0 rfl (lv_at hl 0 rfl) ?_
  by_cases hc0 : x0 = 0
  · rw [if_pos hc0] at hf
    refine lv_tableIn (off := 31) (tgt := 32) hx hb dX8_isPart_1 (by rw [hc0]; decide) (by rw [hc0]; decide) (by rw [hc0]; rfl) (by decide) ?_
    refine lv_iload_n hx hb dX8_isPart_32 rfl (lv_at hl 1 rfl) ?_
    refine lv_i2l (v := x1.toInt64) hx hb dX8_isPart_33 rfl ?_
    refine lv_ldc2 hx hb hown (hts _ tb_4_167) dX8_isPart_34 ?_
    refine lv_ldc2 hx hb hown (hts _ tb_4_168) dX8_isPart_37 ?_
    obtain ⟨v1, hv, hf⟩ := ob_some hf
    refine cI hS (runS hC hP hS (As := [.long (x1.toInt64), .long 20, .long 250]) (rest := []) (k_X8_in l G S (x1.toInt64) 20 250 _ hv) vy_X8_in tb_4_169 tb_4_170 ⟨Nat.le_of_ble_eq_true rfl, Nat.le_of_ble_eq_true rfl⟩ rfl hl.1 rfl (Nat.le_of_ble_eq_true rfl) dX8_isPart_40) (fun H locs hP hS => ?_)
    obtain ⟨v2, hv, hf⟩ := ob_some hf
    refine bzW hv ?_
    exact retZ hQ (bz_n hv) hf hP hS dX8_isPart_43
  · rw [if_neg hc0] at hf
    by_cases hc1 : x0 = 1
    · rw [if_pos hc1] at hf
      refine lv_tableIn (off := 43) (tgt := 44) hx hb dX8_isPart_1 (by rw [hc1]; decide) (by rw [hc1]; decide) (by rw [hc1]; rfl) (by decide) ?_
      refine lv_iload_n hx hb dX8_isPart_44 rfl (lv_at hl 1 rfl) ?_
      refine lv_i2l (v := x1.toInt64) hx hb dX8_isPart_45 rfl ?_
      refine lv_ldc2 hx hb hown (hts _ tb_4_172) dX8_isPart_46 ?_
      refine lv_ldc2 hx hb hown (hts _ tb_4_173) dX8_isPart_49 ?_
      obtain ⟨v3, hv, hf⟩ := ob_some hf
      refine cI hS (runS hC hP hS (As := [.long (x1.toInt64), .long 10, .long 99]) (rest := []) (k_X8_in l G S (x1.toInt64) 10 99 _ hv) vy_X8_in tb_4_169 tb_4_170 ⟨Nat.le_of_ble_eq_true rfl, Nat.le_of_ble_eq_true rfl⟩ rfl hl.1 rfl (Nat.le_of_ble_eq_true rfl) dX8_isPart_52) (fun H locs hP hS => ?_)
      obtain ⟨v4, hv, hf⟩ := ob_some hf
      refine bzW hv ?_
      exact retZ hQ (bz_n hv) hf hP hS dX8_isPart_55
    · rw [if_neg hc1] at hf
      by_cases hc2 : x0 = 2
      · rw [if_pos hc2] at hf
        refine lv_tableIn (off := 55) (tgt := 56) hx hb dX8_isPart_1 (by rw [hc2]; decide) (by rw [hc2]; decide) (by rw [hc2]; rfl) (by decide) ?_
        refine lv_iload_n hx hb dX8_isPart_56 rfl (lv_at hl 1 rfl) ?_
        refine lv_i2l (v := x1.toInt64) hx hb dX8_isPart_57 rfl ?_
        refine lv_lconst (v := 0) hx hb dX8_isPart_58 (by decide) ?_
        refine lv_ldc2 hx hb hown (hts _ tb_4_174) dX8_isPart_59 ?_
        obtain ⟨v5, hv, hf⟩ := ob_some hf
        refine cI hS (runS hC hP hS (As := [.long (x1.toInt64), .long 0, .long 9]) (rest := []) (k_X8_in l G S (x1.toInt64) 0 9 _ hv) vy_X8_in tb_4_169 tb_4_170 ⟨Nat.le_of_ble_eq_true rfl, Nat.le_of_ble_eq_true rfl⟩ rfl hl.1 rfl (Nat.le_of_ble_eq_true rfl) dX8_isPart_62) (fun H locs hP hS => ?_)
        obtain ⟨v6, hv, hf⟩ := ob_some hf
        refine bzW hv ?_
        exact retZ hQ (bz_n hv) hf hP hS dX8_isPart_65
      · rw [if_neg hc2] at hf
        by_cases hc3 : x0 = 3
        · rw [if_pos hc3] at hf
          refine lv_tableIn (off := 65) (tgt := 66) hx hb dX8_isPart_1 (by rw [hc3]; decide) (by rw [hc3]; decide) (by rw [hc3]; rfl) (by decide) ?_
          refine lv_iload_n hx hb dX8_isPart_66 rfl (lv_at hl 1 rfl) ?_
          refine lv_i2l (v := x1.toInt64) hx hb dX8_isPart_67 rfl ?_
          refine lv_lconst (v := 0) hx hb dX8_isPart_68 (by decide) ?_
          refine lv_ldc2 hx hb hown (hts _ tb_4_167) dX8_isPart_69 ?_
          obtain ⟨v7, hv, hf⟩ := ob_some hf
          refine cI hS (runS hC hP hS (As := [.long (x1.toInt64), .long 0, .long 20]) (rest := []) (k_X8_in l G S (x1.toInt64) 0 20 _ hv) vy_X8_in tb_4_169 tb_4_170 ⟨Nat.le_of_ble_eq_true rfl, Nat.le_of_ble_eq_true rfl⟩ rfl hl.1 rfl (Nat.le_of_ble_eq_true rfl) dX8_isPart_72) (fun H locs hP hS => ?_)
          obtain ⟨v8, hv, hf⟩ := ob_some hf
          refine bzW hv ?_
          exact retZ hQ (bz_n hv) hf hP hS dX8_isPart_75
        · rw [if_neg hc3] at hf
          refine lv_tableOut (tgt := 76) hx hb dX8_isPart_1 (tsOut (fun k h1 h2 => ?_)) (by decide) ?_
          · rcases (show k = 0 ∨ k = 1 ∨ k = 2 ∨ k = 3 by omega) with rfl | rfl | rfl | rfl
            · exact hc0
            · exact hc1
            · exact hc2
            · exact hc3
          refine lv_iload_n hx hb dX8_isPart_76 rfl (lv_at hl 0 rfl) ?_
          refine lv_iconst (v := 4) hx hb dX8_isPart_77 (by decide) ?_
          refine lv_icmp_ne (tgt := 97) hx hb dX8_isPart_78 (by decide) (fun hc => ?_) (fun hc => ?_)
          · rw [if_neg hc] at hf
            refine lv_iconst (v := 0) hx hb dX8_isPart_97 (by decide) ?_
            exact retZ hQ rfl hf hP hS dX8_isPart_98
          · rw [if_pos hc] at hf
            refine lv_iload_n hx hb dX8_isPart_81 rfl (lv_at hl 1 rfl) ?_
            refine lv_i2l (v := x1.toInt64) hx hb dX8_isPart_82 rfl ?_
            refine lv_lconst (v := 0) hx hb dX8_isPart_83 (by decide) ?_
            refine lv_ldc2 hx hb hown (hts _ tb_4_175) dX8_isPart_84 ?_
            obtain ⟨v9, hv, hf⟩ := ob_some hf
            refine cI hS (runS hC hP hS (As := [.long (x1.toInt64), .long 0, .long 40]) (rest := []) (k_X8_in l G S (x1.toInt64) 0 40 _ hv) vy_X8_in tb_4_169 tb_4_170 ⟨Nat.le_of_ble_eq_true rfl, Nat.le_of_ble_eq_true rfl⟩ rfl hl.1 rfl (Nat.le_of_ble_eq_true rfl) dX8_isPart_87) (fun H locs hP hS => ?_)
            refine lv_if_eq (tgt := 97) hx hb dX8_isPart_90 (by decide) (fun hc => ?_) (fun hc => ?_)
            · rw [if_pos hc] at hf
              refine lv_iconst (v := 0) hx hb dX8_isPart_97 (by decide) ?_
              exact retZ hQ rfl hf hP hS dX8_isPart_98
            · rw [if_neg hc] at hf
              refine lv_iconst (v := 1) hx hb dX8_isPart_93 (by decide) ?_
              refine lv_goto (tgt := 98) hx hb dX8_isPart_94 (by decide) ?_
              exact retZ hQ rfl hf hP hS dX8_isPart_98
def f_X8_mileIs (S : ST) (x1 : Int32) (x2 : Int32) (x3 : Int32) (x4 : Int32) (x5 : Int32) (x6 : Int32) : Option ST := (wI S 31 (6 * x1) x2).bind fun S1 => (wI S1 31 ((6 * x1) + 1) x3).bind fun S2 => (wI S2 31 ((6 * x1) + 2) x4).bind fun S3 => (wI S3 31 ((6 * x1) + 3) x5).bind fun S4 => (wI S4 31 ((6 * x1) + 4) x6).bind fun S5 => (wI S5 31 ((6 * x1) + 5) 8).bind fun S6 => some S6
set_option maxRecDepth 100000 in
set_option maxHeartbeats 4000000 in
theorem k_X8_mileIs (l : Launch) (G : GT) (S : ST) (x1 : Int32) (x2 : Int32) (x3 : Int32) (x4 : Int32) (x5 : Int32) (x6 : Int32) (S' : ST) (hf : f_X8_mileIs S x1 x2 x3 x4 x5 x6 = some S') : MV l yX8_mileIs cX8_mileIs 7 1 [.ref (ad G 30), .int x1, .int x2, .int x3, .int x4, .int x5, .int x6] G S S' := by
  rw [f_X8_mileIs] at hf
  refine mkV (own := RX8) (by decide +kernel) rfl (Nat.le_of_ble_eq_true rfl) (fun p e s m args below meth c Q ls hC hP hS hl hQ => ?_)
  have hl : lv_has ls 7 [(0, .ref (ad G 30)), (1, .int x1), (2, .int x2), (3, .int x3), (4, .int x4), (5, .int x5), (6, .int x6)] := hl
  obtain ⟨hx, hb, hml, hown, hts⟩ := id hC.1
  refine lv_aload_n hx hb dX8_mileIs_0 rfl (lv_at hl 0 rfl) ?_
  refine gFr hC hP (j := 1) sg_30 vc_8 iT8 (by decide) rfl tb_4_72 dX8_mileIs_1 ?_
  refine lv_bipush (v := 6) hx hb dX8_mileIs_4 (by decide) ?_
  refine lv_iload_n hx hb dX8_mileIs_6 rfl (lv_at hl 1 rfl) ?_
  refine lv_imul hx hb dX8_mileIs_7 ?_
  refine lv_iload_n hx hb dX8_mileIs_8 rfl (lv_at hl 2 rfl) ?_
  obtain ⟨S1, hv, hf⟩ := ob_some hf
  refine sIa hC hP hS hv dX8_mileIs_9 (fun H locs hP hS => ?_)
  refine lv_aload_n hx hb dX8_mileIs_10 rfl (lv_at hl 0 rfl) ?_
  refine gFr hC hP (j := 1) sg_30 vc_8 iT8 (by decide) rfl tb_4_72 dX8_mileIs_11 ?_
  refine lv_bipush (v := 6) hx hb dX8_mileIs_14 (by decide) ?_
  refine lv_iload_n hx hb dX8_mileIs_16 rfl (lv_at hl 1 rfl) ?_
  refine lv_imul hx hb dX8_mileIs_17 ?_
  refine lv_iconst (v := 1) hx hb dX8_mileIs_18 (by decide) ?_
  refine lv_iadd hx hb dX8_mileIs_19 ?_
  refine lv_iload_n hx hb dX8_mileIs_20 rfl (lv_at hl 3 rfl) ?_
  obtain ⟨S2, hv, hf⟩ := ob_some hf
  refine sIa hC hP hS hv dX8_mileIs_21 (fun H locs hP hS => ?_)
  refine lv_aload_n hx hb dX8_mileIs_22 rfl (lv_at hl 0 rfl) ?_
  refine gFr hC hP (j := 1) sg_30 vc_8 iT8 (by decide) rfl tb_4_72 dX8_mileIs_23 ?_
  refine lv_bipush (v := 6) hx hb dX8_mileIs_26 (by decide) ?_
  refine lv_iload_n hx hb dX8_mileIs_28 rfl (lv_at hl 1 rfl) ?_
  refine lv_imul hx hb dX8_mileIs_29 ?_
  refine lv_iconst (v := 2) hx hb dX8_mileIs_30 (by decide) ?_
  refine lv_iadd hx hb dX8_mileIs_31 ?_
  refine lv_iload hx hb dX8_mileIs_32 (lv_at hl 4 rfl) ?_
  obtain ⟨S3, hv, hf⟩ := ob_some hf
  refine sIa hC hP hS hv dX8_mileIs_34 (fun H locs hP hS => ?_)
  refine lv_aload_n hx hb dX8_mileIs_35 rfl (lv_at hl 0 rfl) ?_
  refine gFr hC hP (j := 1) sg_30 vc_8 iT8 (by decide) rfl tb_4_72 dX8_mileIs_36 ?_
  refine lv_bipush (v := 6) hx hb dX8_mileIs_39 (by decide) ?_
  refine lv_iload_n hx hb dX8_mileIs_41 rfl (lv_at hl 1 rfl) ?_
  refine lv_imul hx hb dX8_mileIs_42 ?_
  refine lv_iconst (v := 3) hx hb dX8_mileIs_43 (by decide) ?_
  refine lv_iadd hx hb dX8_mileIs_44 ?_
  refine lv_iload hx hb dX8_mileIs_45 (lv_at hl 5 rfl) ?_
  obtain ⟨S4, hv, hf⟩ := ob_some hf
  refine sIa hC hP hS hv dX8_mileIs_47 (fun H locs hP hS => ?_)
  refine lv_aload_n hx hb dX8_mileIs_48 rfl (lv_at hl 0 rfl) ?_
  refine gFr hC hP (j := 1) sg_30 vc_8 iT8 (by decide) rfl tb_4_72 dX8_mileIs_49 ?_
  refine lv_bipush (v := 6) hx hb dX8_mileIs_52 (by decide) ?_
  refine lv_iload_n hx hb dX8_mileIs_54 rfl (lv_at hl 1 rfl) ?_
  refine lv_imul hx hb dX8_mileIs_55 ?_
  refine lv_iconst (v := 4) hx hb dX8_mileIs_56 (by decide) ?_
  refine lv_iadd hx hb dX8_mileIs_57 ?_
  refine lv_iload hx hb dX8_mileIs_58 (lv_at hl 6 rfl) ?_
  obtain ⟨S5, hv, hf⟩ := ob_some hf
  refine sIa hC hP hS hv dX8_mileIs_60 (fun H locs hP hS => ?_)
  refine lv_aload_n hx hb dX8_mileIs_61 rfl (lv_at hl 0 rfl) ?_
  refine gFr hC hP (j := 1) sg_30 vc_8 iT8 (by decide) rfl tb_4_72 dX8_mileIs_62 ?_
  refine lv_bipush (v := 6) hx hb dX8_mileIs_65 (by decide) ?_
  refine lv_iload_n hx hb dX8_mileIs_67 rfl (lv_at hl 1 rfl) ?_
  refine lv_imul hx hb dX8_mileIs_68 ?_
  refine lv_iconst (v := 5) hx hb dX8_mileIs_69 (by decide) ?_
  refine lv_iadd hx hb dX8_mileIs_70 ?_
  refine lv_bipush (v := 8) hx hb dX8_mileIs_71 (by decide) ?_
  obtain ⟨S6, hv, hf⟩ := ob_some hf
  refine sIa hC hP hS hv dX8_mileIs_73 (fun H locs hP hS => ?_)
  exact retV hQ hf hP hS dX8_mileIs_74
def f_X8_mile (S : ST) (x1 : Int32) (x2 : Int32) : Option (Int32 × ST) := (f_X8_isPart 0 x1).bind fun v1 => if v1 = 0 then (some ((-1), S)) else ((f_X8_isPart 1 x2).bind fun v2 => if v2 = 0 then (some ((-1), S)) else (if (S.1 30 0) = 16 then (some ((-3), S)) else ((f_X8_mileIs S (S.1 30 0) x1 x2 9 0 0).bind fun S3 => some ((((sI S3 30 0 ((S3.1 30 0) + 1)).1 30 0) - 1), (sI S3 30 0 ((S3.1 30 0) + 1))))))
set_option maxRecDepth 100000 in
set_option maxHeartbeats 4000000 in
theorem k_X8_mile (l : Launch) (G : GT) (S : ST) (x1 : Int32) (x2 : Int32) (r : Int32) (S' : ST) (hf : f_X8_mile S x1 x2 = some (r, S')) : MI l yX8_mile cX8_mile 3 (some .int) 3 [.ref (ad G 30), .int x1, .int x2] G S r S' := by
  rw [f_X8_mile] at hf
  refine mkI (own := RX8) (by decide +kernel) rfl rfl (Nat.le_of_ble_eq_true rfl) (fun p e s m args below meth c Q ls hC hP hS hl hQ => ?_)
  have hl : lv_has ls 3 [(0, .ref (ad G 30)), (1, .int x1), (2, .int x2)] := hl
  obtain ⟨hx, hb, hml, hown, hts⟩ := id hC.1
  refine lv_iconst (v := 0) hx hb dX8_mile_0 (by decide) ?_
  refine lv_iload_n hx hb dX8_mile_1 rfl (lv_at hl 1 rfl) ?_
  obtain ⟨v1, hv, hf⟩ := ob_some hf
  refine cI hS (runS hC hP hS (As := [.int 0, .int x1]) (rest := []) (k_X8_isPart l G S 0 x1 _ hv) vy_X8_isPart tb_4_164 tb_4_165 ⟨Nat.le_of_ble_eq_true rfl, Nat.le_of_ble_eq_true rfl⟩ rfl hl.1 rfl (Nat.le_of_ble_eq_true rfl) dX8_mile_2) (fun H locs hP hS => ?_)
  refine lv_if_eq (tgt := 16) hx hb dX8_mile_5 (by decide) (fun hc => ?_) (fun hc => ?_)
  · rw [if_pos hc] at hf
    refine lv_iconst (v := (-1)) hx hb dX8_mile_16 (by decide) ?_
    exact retIw hQ hf hP hS dX8_mile_17
  · rw [if_neg hc] at hf
    refine lv_iconst (v := 1) hx hb dX8_mile_8 (by decide) ?_
    refine lv_iload_n hx hb dX8_mile_9 rfl (lv_at hl 2 rfl) ?_
    obtain ⟨v2, hv, hf⟩ := ob_some hf
    refine cI hS (runS hC hP hS (As := [.int 1, .int x2]) (rest := []) (k_X8_isPart l G S 1 x2 _ hv) vy_X8_isPart tb_4_164 tb_4_165 ⟨Nat.le_of_ble_eq_true rfl, Nat.le_of_ble_eq_true rfl⟩ rfl hl.1 rfl (Nat.le_of_ble_eq_true rfl) dX8_mile_10) (fun H locs hP hS => ?_)
    refine lv_if_ne (tgt := 18) hx hb dX8_mile_13 (by decide) (fun hc => ?_) (fun hc => ?_)
    · rw [if_neg hc] at hf
      refine lv_aload_n hx hb dX8_mile_18 rfl (lv_at hl 0 rfl) ?_
      refine gFi hC hP (j := 0) sg_30 vc_8 iT8 (by decide) rfl tb_4_71 dX8_mile_19 ?_
      refine lv_bipush (v := 16) hx hb dX8_mile_22 (by decide) ?_
      refine lv_icmp_ne (tgt := 30) hx hb dX8_mile_24 (by decide) (fun hc => ?_) (fun hc => ?_)
      · rw [if_neg hc] at hf
        refine lv_aload_n hx hb dX8_mile_30 rfl (lv_at hl 0 rfl) ?_
        refine lv_aload_n hx hb dX8_mile_31 rfl (lv_at hl 0 rfl) ?_
        refine gFi hC hP (j := 0) sg_30 vc_8 iT8 (by decide) rfl tb_4_71 dX8_mile_32 ?_
        refine lv_iload_n hx hb dX8_mile_35 rfl (lv_at hl 1 rfl) ?_
        refine lv_iload_n hx hb dX8_mile_36 rfl (lv_at hl 2 rfl) ?_
        refine lv_bipush (v := 9) hx hb dX8_mile_37 (by decide) ?_
        refine lv_iconst (v := 0) hx hb dX8_mile_39 (by decide) ?_
        refine lv_iconst (v := 0) hx hb dX8_mile_40 (by decide) ?_
        obtain ⟨S3, hv, hf⟩ := ob_some hf
        refine cV hS (runV hC hP hS (As := [.int (S.1 30 0), .int x1, .int x2, .int 9, .int 0, .int 0]) (rest := []) (k_X8_mileIs l G S (S.1 30 0) x1 x2 9 0 0 _ hv) vy_X8_mileIs sg_30 vc_8 tb_4_176 tb_4_178 ts_28 ⟨Nat.le_of_ble_eq_true rfl, Nat.le_of_ble_eq_true rfl⟩ rfl hl.1 rfl (Nat.le_of_ble_eq_true rfl) dX8_mile_41) (fun H locs hP hS => ?_)
        refine lv_aload_n hx hb dX8_mile_44 rfl (lv_at hl 0 rfl) ?_
        refine lv_dup hx hb dX8_mile_45 rfl ?_
        refine gFi hC hP (j := 0) sg_30 vc_8 iT8 (by decide) rfl tb_4_71 dX8_mile_46 ?_
        refine lv_iconst (v := 1) hx hb dX8_mile_49 (by decide) ?_
        refine lv_iadd hx hb dX8_mile_50 ?_
        refine pFi hC hP hS (j := 0) sg_30 vc_8 iT8 tyX8_ok nmX8 (by decide) rfl tb_4_71 rfl rfl rfl dX8_mile_51 (fun H locs hP hS => ?_)
        refine lv_aload_n hx hb dX8_mile_54 rfl (lv_at hl 0 rfl) ?_
        refine gFi hC hP (j := 0) sg_30 vc_8 iT8 (by decide) rfl tb_4_71 dX8_mile_55 ?_
        refine lv_iconst (v := 1) hx hb dX8_mile_58 (by decide) ?_
        refine lv_isub hx hb dX8_mile_59 ?_
        exact retIw hQ hf hP hS dX8_mile_60
      · rw [if_pos hc] at hf
        refine lv_bipush (v := (-3)) hx hb dX8_mile_27 (by decide) ?_
        exact retIw hQ hf hP hS dX8_mile_29
    · rw [if_pos hc] at hf
      refine lv_iconst (v := (-1)) hx hb dX8_mile_16 (by decide) ?_
      exact retIw hQ hf hP hS dX8_mile_17
def f_X8_isMile (S : ST) (x1 : Int32) : Option Int32 := (f_X8_in (x1.toInt64) 0 (((S.1 30 0) - 1).toInt64)).bind fun v1 => (bz v1).bind fun v2 => some v2
set_option maxRecDepth 100000 in
set_option maxHeartbeats 4000000 in
theorem k_X8_isMile (l : Launch) (G : GT) (S : ST) (x1 : Int32) (r : Int32) (hf : f_X8_isMile S x1 = some r) : MI l yX8_isMile cX8_isMile 2 (some .boolean) 2 [.ref (ad G 30), .int x1] G S r S := by
  rw [f_X8_isMile] at hf
  refine mkZ (own := RX8) (by decide +kernel) rfl (Nat.le_of_ble_eq_true rfl) (fun p e s m args below meth c Q ls hC hP hS hl hQ => ?_)
  have hl : lv_has ls 2 [(0, .ref (ad G 30)), (1, .int x1)] := hl
  obtain ⟨hx, hb, hml, hown, hts⟩ := id hC.1
  refine lv_iload_n hx hb dX8_isMile_0 rfl (lv_at hl 1 rfl) ?_
  refine lv_i2l (v := x1.toInt64) hx hb dX8_isMile_1 rfl ?_
  refine lv_lconst (v := 0) hx hb dX8_isMile_2 (by decide) ?_
  refine lv_aload_n hx hb dX8_isMile_3 rfl (lv_at hl 0 rfl) ?_
  refine gFi hC hP (j := 0) sg_30 vc_8 iT8 (by decide) rfl tb_4_71 dX8_isMile_4 ?_
  refine lv_iconst (v := 1) hx hb dX8_isMile_7 (by decide) ?_
  refine lv_isub hx hb dX8_isMile_8 ?_
  refine lv_i2l (v := ((S.1 30 0) - 1).toInt64) hx hb dX8_isMile_9 rfl ?_
  obtain ⟨v1, hv, hf⟩ := ob_some hf
  refine cI hS (runS hC hP hS (As := [.long (x1.toInt64), .long 0, .long (((S.1 30 0) - 1).toInt64)]) (rest := []) (k_X8_in l G S (x1.toInt64) 0 (((S.1 30 0) - 1).toInt64) _ hv) vy_X8_in tb_4_169 tb_4_170 ⟨Nat.le_of_ble_eq_true rfl, Nat.le_of_ble_eq_true rfl⟩ rfl hl.1 rfl (Nat.le_of_ble_eq_true rfl) dX8_isMile_10) (fun H locs hP hS => ?_)
  obtain ⟨v2, hv, hf⟩ := ob_some hf
  refine bzW hv ?_
  exact retZ hQ (bz_n hv) hf hP hS dX8_isMile_13
def f_X8_make (S : ST) (x1 : Int32) (x2 : Int32) (x3 : Int32) : Option (Int32 × ST) := (f_X8_isMile S x1).bind fun v1 => if v1 = 0 then (some ((-1), S)) else ((f_X8_isPart x2 x3).bind fun v2 => if v2 = 0 then (some ((-1), S)) else ((rI S 0 31 ((6 * x1) + x2)).bind fun v3 => (wI S 31 ((6 * x1) + x2) x3).bind fun S4 => some (v3, S4)))
set_option maxRecDepth 100000 in
set_option maxHeartbeats 4000000 in
theorem k_X8_make (l : Launch) (G : GT) (S : ST) (x1 : Int32) (x2 : Int32) (x3 : Int32) (r : Int32) (S' : ST) (hf : f_X8_make S x1 x2 x3 = some (r, S')) : MI l yX8_make cX8_make 5 (some .int) 3 [.ref (ad G 30), .int x1, .int x2, .int x3] G S r S' := by
  rw [f_X8_make] at hf
  refine mkI (own := RX8) (by decide +kernel) rfl rfl (Nat.le_of_ble_eq_true rfl) (fun p e s m args below meth c Q ls hC hP hS hl hQ => ?_)
  have hl : lv_has ls 5 [(0, .ref (ad G 30)), (1, .int x1), (2, .int x2), (3, .int x3)] := hl
  obtain ⟨hx, hb, hml, hown, hts⟩ := id hC.1
  refine lv_aload_n hx hb dX8_make_0 rfl (lv_at hl 0 rfl) ?_
  refine lv_iload_n hx hb dX8_make_1 rfl (lv_at hl 1 rfl) ?_
  obtain ⟨v1, hv, hf⟩ := ob_some hf
  refine cI hS (runV hC hP hS (As := [.int x1]) (rest := []) (k_X8_isMile l G S x1 _ hv) vy_X8_isMile sg_30 vc_8 tb_4_184 tb_4_186 ts_29 ⟨Nat.le_of_ble_eq_true rfl, Nat.le_of_ble_eq_true rfl⟩ rfl hl.1 rfl (Nat.le_of_ble_eq_true rfl) dX8_make_2) (fun H locs hP hS => ?_)
  refine lv_if_eq (tgt := 16) hx hb dX8_make_5 (by decide) (fun hc => ?_) (fun hc => ?_)
  · rw [if_pos hc] at hf
    refine lv_iconst (v := (-1)) hx hb dX8_make_16 (by decide) ?_
    exact retIw hQ hf hP hS dX8_make_17
  · rw [if_neg hc] at hf
    refine lv_iload_n hx hb dX8_make_8 rfl (lv_at hl 2 rfl) ?_
    refine lv_iload_n hx hb dX8_make_9 rfl (lv_at hl 3 rfl) ?_
    obtain ⟨v2, hv, hf⟩ := ob_some hf
    refine cI hS (runS hC hP hS (As := [.int x2, .int x3]) (rest := []) (k_X8_isPart l G S x2 x3 _ hv) vy_X8_isPart tb_4_164 tb_4_165 ⟨Nat.le_of_ble_eq_true rfl, Nat.le_of_ble_eq_true rfl⟩ rfl hl.1 rfl (Nat.le_of_ble_eq_true rfl) dX8_make_10) (fun H locs hP hS => ?_)
    refine lv_if_ne (tgt := 18) hx hb dX8_make_13 (by decide) (fun hc => ?_) (fun hc => ?_)
    · rw [if_neg hc] at hf
      refine lv_aload_n hx hb dX8_make_18 rfl (lv_at hl 0 rfl) ?_
      refine gFr hC hP (j := 1) sg_30 vc_8 iT8 (by decide) rfl tb_4_72 dX8_make_19 ?_
      refine lv_bipush (v := 6) hx hb dX8_make_22 (by decide) ?_
      refine lv_iload_n hx hb dX8_make_24 rfl (lv_at hl 1 rfl) ?_
      refine lv_imul hx hb dX8_make_25 ?_
      refine lv_iload_n hx hb dX8_make_26 rfl (lv_at hl 2 rfl) ?_
      refine lv_iadd hx hb dX8_make_27 ?_
      obtain ⟨v3, hv, hf⟩ := ob_some hf
      refine gIa hC hP hv dX8_make_28 ?_
      refine lv_istore (lv' := [(4, .int v3), (0, .ref (ad G 30)), (1, .int x1), (2, .int x2), (3, .int x3)]) hx hb dX8_make_29 hl (by decide) rfl (fun ls hl => ?_)
      refine lv_aload_n hx hb dX8_make_31 rfl (lv_at hl 1 rfl) ?_
      refine gFr hC hP (j := 1) sg_30 vc_8 iT8 (by decide) rfl tb_4_72 dX8_make_32 ?_
      refine lv_bipush (v := 6) hx hb dX8_make_35 (by decide) ?_
      refine lv_iload_n hx hb dX8_make_37 rfl (lv_at hl 2 rfl) ?_
      refine lv_imul hx hb dX8_make_38 ?_
      refine lv_iload_n hx hb dX8_make_39 rfl (lv_at hl 3 rfl) ?_
      refine lv_iadd hx hb dX8_make_40 ?_
      refine lv_iload_n hx hb dX8_make_41 rfl (lv_at hl 4 rfl) ?_
      obtain ⟨S4, hv, hf⟩ := ob_some hf
      refine sIa hC hP hS hv dX8_make_42 (fun H locs hP hS => ?_)
      refine lv_iload hx hb dX8_make_43 (lv_at hl 0 rfl) ?_
      exact retIw hQ hf hP hS dX8_make_45
    · rw [if_pos hc] at hf
      refine lv_iconst (v := (-1)) hx hb dX8_make_16 (by decide) ?_
      exact retIw hQ hf hP hS dX8_make_17
def f_X8_told (S : ST) (x1 : Int32) (x2 : Int32) : Option Int32 := (f_X8_isMile S x1).bind fun v1 => if v1 = 0 then (some (-1)) else ((f_X8_in (x2.toInt64) 0 5).bind fun v2 => if v2 = 0 then (some (-1)) else ((rI S 0 31 ((6 * x1) + x2)).bind fun v3 => some v3))
set_option maxRecDepth 100000 in
set_option maxHeartbeats 4000000 in
theorem k_X8_told (l : Launch) (G : GT) (S : ST) (x1 : Int32) (x2 : Int32) (r : Int32) (hf : f_X8_told S x1 x2 = some r) : MI l yX8_told cX8_told 3 (some .int) 3 [.ref (ad G 30), .int x1, .int x2] G S r S := by
  rw [f_X8_told] at hf
  refine mkI (own := RX8) (by decide +kernel) rfl rfl (Nat.le_of_ble_eq_true rfl) (fun p e s m args below meth c Q ls hC hP hS hl hQ => ?_)
  have hl : lv_has ls 3 [(0, .ref (ad G 30)), (1, .int x1), (2, .int x2)] := hl
  obtain ⟨hx, hb, hml, hown, hts⟩ := id hC.1
  refine lv_aload_n hx hb dX8_told_0 rfl (lv_at hl 0 rfl) ?_
  refine lv_iload_n hx hb dX8_told_1 rfl (lv_at hl 1 rfl) ?_
  obtain ⟨v1, hv, hf⟩ := ob_some hf
  refine cI hS (runV hC hP hS (As := [.int x1]) (rest := []) (k_X8_isMile l G S x1 _ hv) vy_X8_isMile sg_30 vc_8 tb_4_184 tb_4_186 ts_29 ⟨Nat.le_of_ble_eq_true rfl, Nat.le_of_ble_eq_true rfl⟩ rfl hl.1 rfl (Nat.le_of_ble_eq_true rfl) dX8_told_2) (fun H locs hP hS => ?_)
  refine lv_if_eq (tgt := 34) hx hb dX8_told_5 (by decide) (fun hc => ?_) (fun hc => ?_)
  · rw [if_pos hc] at hf
    refine lv_iconst (v := (-1)) hx hb dX8_told_34 (by decide) ?_
    exact retI hQ hf hP hS dX8_told_35
  · rw [if_neg hc] at hf
    refine lv_iload_n hx hb dX8_told_8 rfl (lv_at hl 2 rfl) ?_
    refine lv_i2l (v := x2.toInt64) hx hb dX8_told_9 rfl ?_
    refine lv_lconst (v := 0) hx hb dX8_told_10 (by decide) ?_
    refine lv_ldc2 hx hb hown (hts _ tb_4_192) dX8_told_11 ?_
    obtain ⟨v2, hv, hf⟩ := ob_some hf
    refine cI hS (runS hC hP hS (As := [.long (x2.toInt64), .long 0, .long 5]) (rest := []) (k_X8_in l G S (x2.toInt64) 0 5 _ hv) vy_X8_in tb_4_169 tb_4_170 ⟨Nat.le_of_ble_eq_true rfl, Nat.le_of_ble_eq_true rfl⟩ rfl hl.1 rfl (Nat.le_of_ble_eq_true rfl) dX8_told_14) (fun H locs hP hS => ?_)
    refine lv_if_eq (tgt := 34) hx hb dX8_told_17 (by decide) (fun hc => ?_) (fun hc => ?_)
    · rw [if_pos hc] at hf
      refine lv_iconst (v := (-1)) hx hb dX8_told_34 (by decide) ?_
      exact retI hQ hf hP hS dX8_told_35
    · rw [if_neg hc] at hf
      refine lv_aload_n hx hb dX8_told_20 rfl (lv_at hl 0 rfl) ?_
      refine gFr hC hP (j := 1) sg_30 vc_8 iT8 (by decide) rfl tb_4_72 dX8_told_21 ?_
      refine lv_bipush (v := 6) hx hb dX8_told_24 (by decide) ?_
      refine lv_iload_n hx hb dX8_told_26 rfl (lv_at hl 1 rfl) ?_
      refine lv_imul hx hb dX8_told_27 ?_
      refine lv_iload_n hx hb dX8_told_28 rfl (lv_at hl 2 rfl) ?_
      refine lv_iadd hx hb dX8_told_29 ?_
      obtain ⟨v3, hv, hf⟩ := ob_some hf
      refine gIa hC hP hv dX8_told_30 ?_
      refine lv_goto (tgt := 35) hx hb dX8_told_31 (by decide) ?_
      exact retI hQ hf hP hS dX8_told_35
end
