section
variable {p : Program} {l : Launch} {e : Env} {s : State} {m : MethodId} {args : Array Value} {below : List Frame} {meth : Method} {c : Code} {Q : State → Prop} {G : GT}

def f_X8_height (S : ST) (x1 : Int32) (x2 : Int32) : Option (Int32 × ST) := (f_X8_in (x1.toInt64) 0 23).bind fun v1 => if v1 = 0 then (some ((-1), S)) else ((f_X8_in (x2.toInt64) 0 99).bind fun v2 => if v2 = 0 then (some ((-1), S)) else ((rI S 0 32 x1).bind fun v3 => (wI S 32 x1 x2).bind fun S4 => some (v3, S4)))
set_option maxRecDepth 100000 in
set_option maxHeartbeats 4000000 in
theorem k_X8_height (l : Launch) (G : GT) (S : ST) (x1 : Int32) (x2 : Int32) (r : Int32) (S' : ST) (hf : f_X8_height S x1 x2 = some (r, S')) : MI l yX8_height cX8_height 4 (some .int) 2 [.ref (ad G 30), .int x1, .int x2] G S r S' := by
  rw [f_X8_height] at hf
  refine mkI (own := RX8) (by decide +kernel) rfl rfl (Nat.le_of_ble_eq_true rfl) (fun p e s m args below meth c Q ls hC hP hS hl hQ => ?_)
  have hl : lv_has ls 4 [(0, .ref (ad G 30)), (1, .int x1), (2, .int x2)] := hl
  obtain ⟨hx, hb, hml, hown, hts⟩ := id hC.1
  refine lv_iload_n hx hb dX8_height_0 rfl (lv_at hl 1 rfl) ?_
  refine lv_i2l (v := x1.toInt64) hx hb dX8_height_1 rfl ?_
  refine lv_lconst (v := 0) hx hb dX8_height_2 (by decide) ?_
  refine lv_ldc2 hx hb hown (hts _ tb_4_197) dX8_height_3 ?_
  obtain ⟨v1, hv, hf⟩ := ob_some hf
  refine cI hS (runS hC hP hS (As := [.long (x1.toInt64), .long 0, .long 23]) (rest := []) (k_X8_in l G S (x1.toInt64) 0 23 _ hv) vy_X8_in tb_4_169 tb_4_170 ⟨Nat.le_of_ble_eq_true rfl, Nat.le_of_ble_eq_true rfl⟩ rfl hl.1 rfl (Nat.le_of_ble_eq_true rfl) dX8_height_6) (fun H locs hP hS => ?_)
  refine lv_if_eq (tgt := 24) hx hb dX8_height_9 (by decide) (fun hc => ?_) (fun hc => ?_)
  · rw [if_pos hc] at hf
    refine lv_iconst (v := (-1)) hx hb dX8_height_24 (by decide) ?_
    exact retIw hQ hf hP hS dX8_height_25
  · rw [if_neg hc] at hf
    refine lv_iload_n hx hb dX8_height_12 rfl (lv_at hl 2 rfl) ?_
    refine lv_i2l (v := x2.toInt64) hx hb dX8_height_13 rfl ?_
    refine lv_lconst (v := 0) hx hb dX8_height_14 (by decide) ?_
    refine lv_ldc2 hx hb hown (hts _ tb_4_173) dX8_height_15 ?_
    obtain ⟨v2, hv, hf⟩ := ob_some hf
    refine cI hS (runS hC hP hS (As := [.long (x2.toInt64), .long 0, .long 99]) (rest := []) (k_X8_in l G S (x2.toInt64) 0 99 _ hv) vy_X8_in tb_4_169 tb_4_170 ⟨Nat.le_of_ble_eq_true rfl, Nat.le_of_ble_eq_true rfl⟩ rfl hl.1 rfl (Nat.le_of_ble_eq_true rfl) dX8_height_18) (fun H locs hP hS => ?_)
    refine lv_if_ne (tgt := 26) hx hb dX8_height_21 (by decide) (fun hc => ?_) (fun hc => ?_)
    · rw [if_neg hc] at hf
      refine lv_aload_n hx hb dX8_height_26 rfl (lv_at hl 0 rfl) ?_
      refine gFr hC hP (j := 2) sg_30 vc_8 iT8 (by decide) rfl tb_4_73 dX8_height_27 ?_
      refine lv_iload_n hx hb dX8_height_30 rfl (lv_at hl 1 rfl) ?_
      obtain ⟨v3, hv, hf⟩ := ob_some hf
      refine gIa hC hP hv dX8_height_31 ?_
      refine lv_istore_n (lv' := [(3, .int v3), (0, .ref (ad G 30)), (1, .int x1), (2, .int x2)]) hx hb dX8_height_32 rfl hl (by decide) rfl (fun ls hl => ?_)
      refine lv_aload_n hx hb dX8_height_33 rfl (lv_at hl 1 rfl) ?_
      refine gFr hC hP (j := 2) sg_30 vc_8 iT8 (by decide) rfl tb_4_73 dX8_height_34 ?_
      refine lv_iload_n hx hb dX8_height_37 rfl (lv_at hl 2 rfl) ?_
      refine lv_iload_n hx hb dX8_height_38 rfl (lv_at hl 3 rfl) ?_
      obtain ⟨S4, hv, hf⟩ := ob_some hf
      refine sIa hC hP hS hv dX8_height_39 (fun H locs hP hS => ?_)
      refine lv_iload_n hx hb dX8_height_40 rfl (lv_at hl 0 rfl) ?_
      exact retIw hQ hf hP hS dX8_height_41
    · rw [if_pos hc] at hf
      refine lv_iconst (v := (-1)) hx hb dX8_height_24 (by decide) ?_
      exact retIw hQ hf hP hS dX8_height_25
def f_X8_isSet (x0 : Int32) (x1 : Int32) : Option Int32 := if x0 = 0 then ((f_X8_in (x1.toInt64) 0 90).bind fun v1 => (bz v1).bind fun v2 => some v2) else (if x0 = 1 then ((f_X8_in (x1.toInt64) 0 9).bind fun v3 => (bz v3).bind fun v4 => some v4) else (if x0 = 2 then ((f_X8_in (x1.toInt64) 0 10).bind fun v5 => (bz v5).bind fun v6 => some v6) else (if x0 = 3 then ((f_X8_in (x1.toInt64) 0 1).bind fun v7 => (bz v7).bind fun v8 => some v8) else (if x0 = 4 then ((f_X8_in (x1.toInt64) 0 99).bind fun v9 => if v9 = 0 then (some 0) else (some 1)) else (some 0)))))
set_option maxRecDepth 100000 in
set_option maxHeartbeats 4000000 in
theorem k_X8_isSet (l : Launch) (G : GT) (S : ST) (x0 : Int32) (x1 : Int32) (r : Int32) (hf : f_X8_isSet x0 x1 = some r) : MI l yX8_isSet cX8_isSet 2 (some .boolean) 2 [.int x0, .int x1] G S r S := by
  rw [f_X8_isSet] at hf
  refine mkZ (own := RX8) (by decide +kernel) rfl (Nat.le_of_ble_eq_true rfl) (fun p e s m args below meth c Q ls hC hP hS hl hQ => ?_)
  have hl : lv_has ls 2 [(0, .int x0), (1, .int x1)] := hl
  obtain ⟨hx, hb, hml, hown, hts⟩ := id hC.1
  refine lv_iload_n hx hb dX8_isSet_0 rfl (lv_at hl 0 rfl) ?_
  by_cases hc0 : x0 = 0
  · rw [if_pos hc0] at hf
    refine lv_tableIn (off := 31) (tgt := 32) hx hb dX8_isSet_1 (by rw [hc0]; decide) (by rw [hc0]; decide) (by rw [hc0]; rfl) (by decide) ?_
    refine lv_iload_n hx hb dX8_isSet_32 rfl (lv_at hl 1 rfl) ?_
    refine lv_i2l (v := x1.toInt64) hx hb dX8_isSet_33 rfl ?_
    refine lv_lconst (v := 0) hx hb dX8_isSet_34 (by decide) ?_
    refine lv_ldc2 hx hb hown (hts _ tb_4_205) dX8_isSet_35 ?_
    obtain ⟨v1, hv, hf⟩ := ob_some hf
    refine cI hS (runS hC hP hS (As := [.long (x1.toInt64), .long 0, .long 90]) (rest := []) (k_X8_in l G S (x1.toInt64) 0 90 _ hv) vy_X8_in tb_4_169 tb_4_170 ⟨Nat.le_of_ble_eq_true rfl, Nat.le_of_ble_eq_true rfl⟩ rfl hl.1 rfl (Nat.le_of_ble_eq_true rfl) dX8_isSet_38) (fun H locs hP hS => ?_)
    obtain ⟨v2, hv, hf⟩ := ob_some hf
    refine bzW hv ?_
    exact retZ hQ (bz_n hv) hf hP hS dX8_isSet_41
  · rw [if_neg hc0] at hf
    by_cases hc1 : x0 = 1
    · rw [if_pos hc1] at hf
      refine lv_tableIn (off := 41) (tgt := 42) hx hb dX8_isSet_1 (by rw [hc1]; decide) (by rw [hc1]; decide) (by rw [hc1]; rfl) (by decide) ?_
      refine lv_iload_n hx hb dX8_isSet_42 rfl (lv_at hl 1 rfl) ?_
      refine lv_i2l (v := x1.toInt64) hx hb dX8_isSet_43 rfl ?_
      refine lv_lconst (v := 0) hx hb dX8_isSet_44 (by decide) ?_
      refine lv_ldc2 hx hb hown (hts _ tb_4_174) dX8_isSet_45 ?_
      obtain ⟨v3, hv, hf⟩ := ob_some hf
      refine cI hS (runS hC hP hS (As := [.long (x1.toInt64), .long 0, .long 9]) (rest := []) (k_X8_in l G S (x1.toInt64) 0 9 _ hv) vy_X8_in tb_4_169 tb_4_170 ⟨Nat.le_of_ble_eq_true rfl, Nat.le_of_ble_eq_true rfl⟩ rfl hl.1 rfl (Nat.le_of_ble_eq_true rfl) dX8_isSet_48) (fun H locs hP hS => ?_)
      obtain ⟨v4, hv, hf⟩ := ob_some hf
      refine bzW hv ?_
      exact retZ hQ (bz_n hv) hf hP hS dX8_isSet_51
    · rw [if_neg hc1] at hf
      by_cases hc2 : x0 = 2
      · rw [if_pos hc2] at hf
        refine lv_tableIn (off := 51) (tgt := 52) hx hb dX8_isSet_1 (by rw [hc2]; decide) (by rw [hc2]; decide) (by rw [hc2]; rfl) (by decide) ?_
        refine lv_iload_n hx hb dX8_isSet_52 rfl (lv_at hl 1 rfl) ?_
        refine lv_i2l (v := x1.toInt64) hx hb dX8_isSet_53 rfl ?_
        refine lv_lconst (v := 0) hx hb dX8_isSet_54 (by decide) ?_
        refine lv_ldc2 hx hb hown (hts _ tb_4_172) dX8_isSet_55 ?_
        obtain ⟨v5, hv, hf⟩ := ob_some hf
        refine cI hS (runS hC hP hS (As := [.long (x1.toInt64), .long 0, .long 10]) (rest := []) (k_X8_in l G S (x1.toInt64) 0 10 _ hv) vy_X8_in tb_4_169 tb_4_170 ⟨Nat.le_of_ble_eq_true rfl, Nat.le_of_ble_eq_true rfl⟩ rfl hl.1 rfl (Nat.le_of_ble_eq_true rfl) dX8_isSet_58) (fun H locs hP hS => ?_)
        obtain ⟨v6, hv, hf⟩ := ob_some hf
        refine bzW hv ?_
        exact retZ hQ (bz_n hv) hf hP hS dX8_isSet_61
      · rw [if_neg hc2] at hf
        by_cases hc3 : x0 = 3
        · rw [if_pos hc3] at hf
          refine lv_tableIn (off := 61) (tgt := 62) hx hb dX8_isSet_1 (by rw [hc3]; decide) (by rw [hc3]; decide) (by rw [hc3]; rfl) (by decide) ?_
          refine lv_iload_n hx hb dX8_isSet_62 rfl (lv_at hl 1 rfl) ?_
          refine lv_i2l (v := x1.toInt64) hx hb dX8_isSet_63 rfl ?_
          refine lv_lconst (v := 0) hx hb dX8_isSet_64 (by decide) ?_
          refine lv_lconst (v := 1) hx hb dX8_isSet_65 (by decide) ?_
          obtain ⟨v7, hv, hf⟩ := ob_some hf
          refine cI hS (runS hC hP hS (As := [.long (x1.toInt64), .long 0, .long 1]) (rest := []) (k_X8_in l G S (x1.toInt64) 0 1 _ hv) vy_X8_in tb_4_169 tb_4_170 ⟨Nat.le_of_ble_eq_true rfl, Nat.le_of_ble_eq_true rfl⟩ rfl hl.1 rfl (Nat.le_of_ble_eq_true rfl) dX8_isSet_66) (fun H locs hP hS => ?_)
          obtain ⟨v8, hv, hf⟩ := ob_some hf
          refine bzW hv ?_
          exact retZ hQ (bz_n hv) hf hP hS dX8_isSet_69
        · rw [if_neg hc3] at hf
          refine lv_tableOut (tgt := 70) hx hb dX8_isSet_1 (tsOut (fun k h1 h2 => ?_)) (by decide) ?_
          · rcases (show k = 0 ∨ k = 1 ∨ k = 2 ∨ k = 3 by omega) with rfl | rfl | rfl | rfl
            · exact hc0
            · exact hc1
            · exact hc2
            · exact hc3
          refine lv_iload_n hx hb dX8_isSet_70 rfl (lv_at hl 0 rfl) ?_
          refine lv_iconst (v := 4) hx hb dX8_isSet_71 (by decide) ?_
          refine lv_icmp_ne (tgt := 91) hx hb dX8_isSet_72 (by decide) (fun hc => ?_) (fun hc => ?_)
          · rw [if_neg hc] at hf
            refine lv_iconst (v := 0) hx hb dX8_isSet_91 (by decide) ?_
            exact retZ hQ rfl hf hP hS dX8_isSet_92
          · rw [if_pos hc] at hf
            refine lv_iload_n hx hb dX8_isSet_75 rfl (lv_at hl 1 rfl) ?_
            refine lv_i2l (v := x1.toInt64) hx hb dX8_isSet_76 rfl ?_
            refine lv_lconst (v := 0) hx hb dX8_isSet_77 (by decide) ?_
            refine lv_ldc2 hx hb hown (hts _ tb_4_173) dX8_isSet_78 ?_
            obtain ⟨v9, hv, hf⟩ := ob_some hf
            refine cI hS (runS hC hP hS (As := [.long (x1.toInt64), .long 0, .long 99]) (rest := []) (k_X8_in l G S (x1.toInt64) 0 99 _ hv) vy_X8_in tb_4_169 tb_4_170 ⟨Nat.le_of_ble_eq_true rfl, Nat.le_of_ble_eq_true rfl⟩ rfl hl.1 rfl (Nat.le_of_ble_eq_true rfl) dX8_isSet_81) (fun H locs hP hS => ?_)
            refine lv_if_eq (tgt := 91) hx hb dX8_isSet_84 (by decide) (fun hc => ?_) (fun hc => ?_)
            · rw [if_pos hc] at hf
              refine lv_iconst (v := 0) hx hb dX8_isSet_91 (by decide) ?_
              exact retZ hQ rfl hf hP hS dX8_isSet_92
            · rw [if_neg hc] at hf
              refine lv_iconst (v := 1) hx hb dX8_isSet_87 (by decide) ?_
              refine lv_goto (tgt := 92) hx hb dX8_isSet_88 (by decide) ?_
              exact retZ hQ rfl hf hP hS dX8_isSet_92
def f_X8_set (S : ST) (x1 : Int32) (x2 : Int32) : Option (Int32 × ST) := (f_X8_isSet x1 x2).bind fun v1 => if v1 = 0 then (some ((-1), S)) else ((rI S 0 33 x1).bind fun v2 => (wI S 33 x1 x2).bind fun S3 => some (v2, S3))
set_option maxRecDepth 100000 in
set_option maxHeartbeats 4000000 in
theorem k_X8_set (l : Launch) (G : GT) (S : ST) (x1 : Int32) (x2 : Int32) (r : Int32) (S' : ST) (hf : f_X8_set S x1 x2 = some (r, S')) : MI l yX8_set cX8_set 4 (some .int) 3 [.ref (ad G 30), .int x1, .int x2] G S r S' := by
  rw [f_X8_set] at hf
  refine mkI (own := RX8) (by decide +kernel) rfl rfl (Nat.le_of_ble_eq_true rfl) (fun p e s m args below meth c Q ls hC hP hS hl hQ => ?_)
  have hl : lv_has ls 4 [(0, .ref (ad G 30)), (1, .int x1), (2, .int x2)] := hl
  obtain ⟨hx, hb, hml, hown, hts⟩ := id hC.1
  refine lv_iload_n hx hb dX8_set_0 rfl (lv_at hl 1 rfl) ?_
  refine lv_iload_n hx hb dX8_set_1 rfl (lv_at hl 2 rfl) ?_
  obtain ⟨v1, hv, hf⟩ := ob_some hf
  refine cI hS (runS hC hP hS (As := [.int x1, .int x2]) (rest := []) (k_X8_isSet l G S x1 x2 _ hv) vy_X8_isSet tb_4_202 tb_4_203 ⟨Nat.le_of_ble_eq_true rfl, Nat.le_of_ble_eq_true rfl⟩ rfl hl.1 rfl (Nat.le_of_ble_eq_true rfl) dX8_set_2) (fun H locs hP hS => ?_)
  refine lv_if_ne (tgt := 10) hx hb dX8_set_5 (by decide) (fun hc => ?_) (fun hc => ?_)
  · rw [if_neg hc] at hf
    refine lv_aload_n hx hb dX8_set_10 rfl (lv_at hl 0 rfl) ?_
    refine gFr hC hP (j := 3) sg_30 vc_8 iT8 (by decide) rfl tb_4_74 dX8_set_11 ?_
    refine lv_iload_n hx hb dX8_set_14 rfl (lv_at hl 1 rfl) ?_
    obtain ⟨v2, hv, hf⟩ := ob_some hf
    refine gIa hC hP hv dX8_set_15 ?_
    refine lv_istore_n (lv' := [(3, .int v2), (0, .ref (ad G 30)), (1, .int x1), (2, .int x2)]) hx hb dX8_set_16 rfl hl (by decide) rfl (fun ls hl => ?_)
    refine lv_aload_n hx hb dX8_set_17 rfl (lv_at hl 1 rfl) ?_
    refine gFr hC hP (j := 3) sg_30 vc_8 iT8 (by decide) rfl tb_4_74 dX8_set_18 ?_
    refine lv_iload_n hx hb dX8_set_21 rfl (lv_at hl 2 rfl) ?_
    refine lv_iload_n hx hb dX8_set_22 rfl (lv_at hl 3 rfl) ?_
    obtain ⟨S3, hv, hf⟩ := ob_some hf
    refine sIa hC hP hS hv dX8_set_23 (fun H locs hP hS => ?_)
    refine lv_iload_n hx hb dX8_set_24 rfl (lv_at hl 0 rfl) ?_
    exact retIw hQ hf hP hS dX8_set_25
  · rw [if_pos hc] at hf
    refine lv_iconst (v := (-1)) hx hb dX8_set_8 (by decide) ?_
    exact retIw hQ hf hP hS dX8_set_9
def f_X8_ship (S : ST) (x1 : Int32) (x2 : Int32) (x3 : Int32) : Option (Int32 × ST) := (f_X8_in (x1.toInt64) 20 200).bind fun v1 => if v1 = 0 then (some ((-1), S)) else ((f_X8_in (x2.toInt64) 1 40).bind fun v2 => if v2 = 0 then (some ((-1), S)) else ((f_X8_in (x3.toInt64) 1 99).bind fun v3 => if v3 = 0 then (some ((-1), S)) else (if (S.1 30 4) = 6 then (some ((-3), S)) else ((wI S 34 (3 * (S.1 30 4)) x1).bind fun S4 => (wI S4 34 ((3 * (S4.1 30 4)) + 1) x2).bind fun S5 => (wI S5 34 ((3 * (S5.1 30 4)) + 2) x3).bind fun S6 => some ((((sI S6 30 4 ((S6.1 30 4) + 1)).1 30 4) - 1), (sI S6 30 4 ((S6.1 30 4) + 1)))))))
set_option maxRecDepth 100000 in
set_option maxHeartbeats 4000000 in
theorem k_X8_ship (l : Launch) (G : GT) (S : ST) (x1 : Int32) (x2 : Int32) (x3 : Int32) (r : Int32) (S' : ST) (hf : f_X8_ship S x1 x2 x3 = some (r, S')) : MI l yX8_ship cX8_ship 4 (some .int) 2 [.ref (ad G 30), .int x1, .int x2, .int x3] G S r S' := by
  rw [f_X8_ship] at hf
  refine mkI (own := RX8) (by decide +kernel) rfl rfl (Nat.le_of_ble_eq_true rfl) (fun p e s m args below meth c Q ls hC hP hS hl hQ => ?_)
  have hl : lv_has ls 4 [(0, .ref (ad G 30)), (1, .int x1), (2, .int x2), (3, .int x3)] := hl
  obtain ⟨hx, hb, hml, hown, hts⟩ := id hC.1
  refine lv_iload_n hx hb dX8_ship_0 rfl (lv_at hl 1 rfl) ?_
  refine lv_i2l (v := x1.toInt64) hx hb dX8_ship_1 rfl ?_
  refine lv_ldc2 hx hb hown (hts _ tb_4_167) dX8_ship_2 ?_
  refine lv_ldc2 hx hb hown (hts _ tb_4_210) dX8_ship_5 ?_
  obtain ⟨v1, hv, hf⟩ := ob_some hf
  refine cI hS (runS hC hP hS (As := [.long (x1.toInt64), .long 20, .long 200]) (rest := []) (k_X8_in l G S (x1.toInt64) 20 200 _ hv) vy_X8_in tb_4_169 tb_4_170 ⟨Nat.le_of_ble_eq_true rfl, Nat.le_of_ble_eq_true rfl⟩ rfl hl.1 rfl (Nat.le_of_ble_eq_true rfl) dX8_ship_8) (fun H locs hP hS => ?_)
  refine lv_if_eq (tgt := 38) hx hb dX8_ship_11 (by decide) (fun hc => ?_) (fun hc => ?_)
  · rw [if_pos hc] at hf
    refine lv_iconst (v := (-1)) hx hb dX8_ship_38 (by decide) ?_
    exact retIw hQ hf hP hS dX8_ship_39
  · rw [if_neg hc] at hf
    refine lv_iload_n hx hb dX8_ship_14 rfl (lv_at hl 2 rfl) ?_
    refine lv_i2l (v := x2.toInt64) hx hb dX8_ship_15 rfl ?_
    refine lv_lconst (v := 1) hx hb dX8_ship_16 (by decide) ?_
    refine lv_ldc2 hx hb hown (hts _ tb_4_175) dX8_ship_17 ?_
    obtain ⟨v2, hv, hf⟩ := ob_some hf
    refine cI hS (runS hC hP hS (As := [.long (x2.toInt64), .long 1, .long 40]) (rest := []) (k_X8_in l G S (x2.toInt64) 1 40 _ hv) vy_X8_in tb_4_169 tb_4_170 ⟨Nat.le_of_ble_eq_true rfl, Nat.le_of_ble_eq_true rfl⟩ rfl hl.1 rfl (Nat.le_of_ble_eq_true rfl) dX8_ship_20) (fun H locs hP hS => ?_)
    refine lv_if_eq (tgt := 38) hx hb dX8_ship_23 (by decide) (fun hc => ?_) (fun hc => ?_)
    · rw [if_pos hc] at hf
      refine lv_iconst (v := (-1)) hx hb dX8_ship_38 (by decide) ?_
      exact retIw hQ hf hP hS dX8_ship_39
    · rw [if_neg hc] at hf
      refine lv_iload_n hx hb dX8_ship_26 rfl (lv_at hl 3 rfl) ?_
      refine lv_i2l (v := x3.toInt64) hx hb dX8_ship_27 rfl ?_
      refine lv_lconst (v := 1) hx hb dX8_ship_28 (by decide) ?_
      refine lv_ldc2 hx hb hown (hts _ tb_4_173) dX8_ship_29 ?_
      obtain ⟨v3, hv, hf⟩ := ob_some hf
      refine cI hS (runS hC hP hS (As := [.long (x3.toInt64), .long 1, .long 99]) (rest := []) (k_X8_in l G S (x3.toInt64) 1 99 _ hv) vy_X8_in tb_4_169 tb_4_170 ⟨Nat.le_of_ble_eq_true rfl, Nat.le_of_ble_eq_true rfl⟩ rfl hl.1 rfl (Nat.le_of_ble_eq_true rfl) dX8_ship_32) (fun H locs hP hS => ?_)
      refine lv_if_ne (tgt := 40) hx hb dX8_ship_35 (by decide) (fun hc => ?_) (fun hc => ?_)
      · rw [if_neg hc] at hf
        refine lv_aload_n hx hb dX8_ship_40 rfl (lv_at hl 0 rfl) ?_
        refine gFi hC hP (j := 4) sg_30 vc_8 iT8 (by decide) rfl tb_4_75 dX8_ship_41 ?_
        refine lv_bipush (v := 6) hx hb dX8_ship_44 (by decide) ?_
        refine lv_icmp_ne (tgt := 52) hx hb dX8_ship_46 (by decide) (fun hc => ?_) (fun hc => ?_)
        · rw [if_neg hc] at hf
          refine lv_aload_n hx hb dX8_ship_52 rfl (lv_at hl 0 rfl) ?_
          refine gFr hC hP (j := 5) sg_30 vc_8 iT8 (by decide) rfl tb_4_76 dX8_ship_53 ?_
          refine lv_iconst (v := 3) hx hb dX8_ship_56 (by decide) ?_
          refine lv_aload_n hx hb dX8_ship_57 rfl (lv_at hl 0 rfl) ?_
          refine gFi hC hP (j := 4) sg_30 vc_8 iT8 (by decide) rfl tb_4_75 dX8_ship_58 ?_
          refine lv_imul hx hb dX8_ship_61 ?_
          refine lv_iload_n hx hb dX8_ship_62 rfl (lv_at hl 1 rfl) ?_
          obtain ⟨S4, hv, hf⟩ := ob_some hf
          refine sIa hC hP hS hv dX8_ship_63 (fun H locs hP hS => ?_)
          refine lv_aload_n hx hb dX8_ship_64 rfl (lv_at hl 0 rfl) ?_
          refine gFr hC hP (j := 5) sg_30 vc_8 iT8 (by decide) rfl tb_4_76 dX8_ship_65 ?_
          refine lv_iconst (v := 3) hx hb dX8_ship_68 (by decide) ?_
          refine lv_aload_n hx hb dX8_ship_69 rfl (lv_at hl 0 rfl) ?_
          refine gFi hC hP (j := 4) sg_30 vc_8 iT8 (by decide) rfl tb_4_75 dX8_ship_70 ?_
          refine lv_imul hx hb dX8_ship_73 ?_
          refine lv_iconst (v := 1) hx hb dX8_ship_74 (by decide) ?_
          refine lv_iadd hx hb dX8_ship_75 ?_
          refine lv_iload_n hx hb dX8_ship_76 rfl (lv_at hl 2 rfl) ?_
          obtain ⟨S5, hv, hf⟩ := ob_some hf
          refine sIa hC hP hS hv dX8_ship_77 (fun H locs hP hS => ?_)
          refine lv_aload_n hx hb dX8_ship_78 rfl (lv_at hl 0 rfl) ?_
          refine gFr hC hP (j := 5) sg_30 vc_8 iT8 (by decide) rfl tb_4_76 dX8_ship_79 ?_
          refine lv_iconst (v := 3) hx hb dX8_ship_82 (by decide) ?_
          refine lv_aload_n hx hb dX8_ship_83 rfl (lv_at hl 0 rfl) ?_
          refine gFi hC hP (j := 4) sg_30 vc_8 iT8 (by decide) rfl tb_4_75 dX8_ship_84 ?_
          refine lv_imul hx hb dX8_ship_87 ?_
          refine lv_iconst (v := 2) hx hb dX8_ship_88 (by decide) ?_
          refine lv_iadd hx hb dX8_ship_89 ?_
          refine lv_iload_n hx hb dX8_ship_90 rfl (lv_at hl 3 rfl) ?_
          obtain ⟨S6, hv, hf⟩ := ob_some hf
          refine sIa hC hP hS hv dX8_ship_91 (fun H locs hP hS => ?_)
          refine lv_aload_n hx hb dX8_ship_92 rfl (lv_at hl 0 rfl) ?_
          refine lv_dup hx hb dX8_ship_93 rfl ?_
          refine gFi hC hP (j := 4) sg_30 vc_8 iT8 (by decide) rfl tb_4_75 dX8_ship_94 ?_
          refine lv_iconst (v := 1) hx hb dX8_ship_97 (by decide) ?_
          refine lv_iadd hx hb dX8_ship_98 ?_
          refine pFi hC hP hS (j := 4) sg_30 vc_8 iT8 tyX8_ok nmX8 (by decide) rfl tb_4_75 rfl rfl rfl dX8_ship_99 (fun H locs hP hS => ?_)
          refine lv_aload_n hx hb dX8_ship_102 rfl (lv_at hl 0 rfl) ?_
          refine gFi hC hP (j := 4) sg_30 vc_8 iT8 (by decide) rfl tb_4_75 dX8_ship_103 ?_
          refine lv_iconst (v := 1) hx hb dX8_ship_106 (by decide) ?_
          refine lv_isub hx hb dX8_ship_107 ?_
          exact retIw hQ hf hP hS dX8_ship_108
        · rw [if_pos hc] at hf
          refine lv_bipush (v := (-3)) hx hb dX8_ship_49 (by decide) ?_
          exact retIw hQ hf hP hS dX8_ship_51
      · rw [if_pos hc] at hf
        refine lv_iconst (v := (-1)) hx hb dX8_ship_38 (by decide) ?_
        exact retIw hQ hf hP hS dX8_ship_39
def f_X8_isPace (x0 : Int32) : Option Int32 := (f_X8_in (x0.toInt64) 1 15).bind fun v1 => (bz v1).bind fun v2 => some v2
set_option maxRecDepth 100000 in
set_option maxHeartbeats 4000000 in
theorem k_X8_isPace (l : Launch) (G : GT) (S : ST) (x0 : Int32) (r : Int32) (hf : f_X8_isPace x0 = some r) : MI l yX8_isPace cX8_isPace 1 (some .boolean) 2 [.int x0] G S r S := by
  rw [f_X8_isPace] at hf
  refine mkZ (own := RX8) (by decide +kernel) rfl (Nat.le_of_ble_eq_true rfl) (fun p e s m args below meth c Q ls hC hP hS hl hQ => ?_)
  have hl : lv_has ls 1 [(0, .int x0)] := hl
  obtain ⟨hx, hb, hml, hown, hts⟩ := id hC.1
  refine lv_iload_n hx hb dX8_isPace_0 rfl (lv_at hl 0 rfl) ?_
  refine lv_i2l (v := x0.toInt64) hx hb dX8_isPace_1 rfl ?_
  refine lv_lconst (v := 1) hx hb dX8_isPace_2 (by decide) ?_
  refine lv_ldc2 hx hb hown (hts _ tb_4_218) dX8_isPace_3 ?_
  obtain ⟨v1, hv, hf⟩ := ob_some hf
  refine cI hS (runS hC hP hS (As := [.long (x0.toInt64), .long 1, .long 15]) (rest := []) (k_X8_in l G S (x0.toInt64) 1 15 _ hv) vy_X8_in tb_4_169 tb_4_170 ⟨Nat.le_of_ble_eq_true rfl, Nat.le_of_ble_eq_true rfl⟩ rfl hl.1 rfl (Nat.le_of_ble_eq_true rfl) dX8_isPace_6) (fun H locs hP hS => ?_)
  obtain ⟨v2, hv, hf⟩ := ob_some hf
  refine bzW hv ?_
  exact retZ hQ (bz_n hv) hf hP hS dX8_isPace_9
def f_X8_pace (S : ST) (x1 : Int32) (x2 : Int32) : Option (Int32 × ST) := (f_X8_isMile S x1).bind fun v1 => if v1 = 0 then (some ((-1), S)) else ((f_X8_isPace x2).bind fun v2 => if v2 = 0 then (some ((-1), S)) else ((rI S 0 31 ((6 * x1) + 5)).bind fun v3 => (wI S 31 ((6 * x1) + 5) x2).bind fun S4 => some (v3, S4)))
set_option maxRecDepth 100000 in
set_option maxHeartbeats 4000000 in
theorem k_X8_pace (l : Launch) (G : GT) (S : ST) (x1 : Int32) (x2 : Int32) (r : Int32) (S' : ST) (hf : f_X8_pace S x1 x2 = some (r, S')) : MI l yX8_pace cX8_pace 4 (some .int) 3 [.ref (ad G 30), .int x1, .int x2] G S r S' := by
  rw [f_X8_pace] at hf
  refine mkI (own := RX8) (by decide +kernel) rfl rfl (Nat.le_of_ble_eq_true rfl) (fun p e s m args below meth c Q ls hC hP hS hl hQ => ?_)
  have hl : lv_has ls 4 [(0, .ref (ad G 30)), (1, .int x1), (2, .int x2)] := hl
  obtain ⟨hx, hb, hml, hown, hts⟩ := id hC.1
  refine lv_aload_n hx hb dX8_pace_0 rfl (lv_at hl 0 rfl) ?_
  refine lv_iload_n hx hb dX8_pace_1 rfl (lv_at hl 1 rfl) ?_
  obtain ⟨v1, hv, hf⟩ := ob_some hf
  refine cI hS (runV hC hP hS (As := [.int x1]) (rest := []) (k_X8_isMile l G S x1 _ hv) vy_X8_isMile sg_30 vc_8 tb_4_184 tb_4_186 ts_29 ⟨Nat.le_of_ble_eq_true rfl, Nat.le_of_ble_eq_true rfl⟩ rfl hl.1 rfl (Nat.le_of_ble_eq_true rfl) dX8_pace_2) (fun H locs hP hS => ?_)
  refine lv_if_eq (tgt := 15) hx hb dX8_pace_5 (by decide) (fun hc => ?_) (fun hc => ?_)
  · rw [if_pos hc] at hf
    refine lv_iconst (v := (-1)) hx hb dX8_pace_15 (by decide) ?_
    exact retIw hQ hf hP hS dX8_pace_16
  · rw [if_neg hc] at hf
    refine lv_iload_n hx hb dX8_pace_8 rfl (lv_at hl 2 rfl) ?_
    obtain ⟨v2, hv, hf⟩ := ob_some hf
    refine cI hS (runS hC hP hS (As := [.int x2]) (rest := []) (k_X8_isPace l G S x2 _ hv) vy_X8_isPace tb_4_215 tb_4_216 ⟨Nat.le_of_ble_eq_true rfl, Nat.le_of_ble_eq_true rfl⟩ rfl hl.1 rfl (Nat.le_of_ble_eq_true rfl) dX8_pace_9) (fun H locs hP hS => ?_)
    refine lv_if_ne (tgt := 17) hx hb dX8_pace_12 (by decide) (fun hc => ?_) (fun hc => ?_)
    · rw [if_neg hc] at hf
      refine lv_aload_n hx hb dX8_pace_17 rfl (lv_at hl 0 rfl) ?_
      refine gFr hC hP (j := 1) sg_30 vc_8 iT8 (by decide) rfl tb_4_72 dX8_pace_18 ?_
      refine lv_bipush (v := 6) hx hb dX8_pace_21 (by decide) ?_
      refine lv_iload_n hx hb dX8_pace_23 rfl (lv_at hl 1 rfl) ?_
      refine lv_imul hx hb dX8_pace_24 ?_
      refine lv_iconst (v := 5) hx hb dX8_pace_25 (by decide) ?_
      refine lv_iadd hx hb dX8_pace_26 ?_
      obtain ⟨v3, hv, hf⟩ := ob_some hf
      refine gIa hC hP hv dX8_pace_27 ?_
      refine lv_istore_n (lv' := [(3, .int v3), (0, .ref (ad G 30)), (1, .int x1), (2, .int x2)]) hx hb dX8_pace_28 rfl hl (by decide) rfl (fun ls hl => ?_)
      refine lv_aload_n hx hb dX8_pace_29 rfl (lv_at hl 1 rfl) ?_
      refine gFr hC hP (j := 1) sg_30 vc_8 iT8 (by decide) rfl tb_4_72 dX8_pace_30 ?_
      refine lv_bipush (v := 6) hx hb dX8_pace_33 (by decide) ?_
      refine lv_iload_n hx hb dX8_pace_35 rfl (lv_at hl 2 rfl) ?_
      refine lv_imul hx hb dX8_pace_36 ?_
      refine lv_iconst (v := 5) hx hb dX8_pace_37 (by decide) ?_
      refine lv_iadd hx hb dX8_pace_38 ?_
      refine lv_iload_n hx hb dX8_pace_39 rfl (lv_at hl 3 rfl) ?_
      obtain ⟨S4, hv, hf⟩ := ob_some hf
      refine sIa hC hP hS hv dX8_pace_40 (fun H locs hP hS => ?_)
      refine lv_iload_n hx hb dX8_pace_41 rfl (lv_at hl 0 rfl) ?_
      exact retIw hQ hf hP hS dX8_pace_42
    · rw [if_pos hc] at hf
      refine lv_iconst (v := (-1)) hx hb dX8_pace_15 (by decide) ?_
      exact retIw hQ hf hP hS dX8_pace_16
def f_X8_type_73  : Nat → ST → Int64 → Int32 → Option (Int32 × ST)
  | 0, _, _, _ => none
  | n + 1, S, x1, x4 => if x4 < 0 then (some ((S.1 30 7), S)) else ((wI S 35 (S.1 30 7) (((ss64 x1 (8 * x4)) &&& 255).toInt32)).bind fun S1 => f_X8_type_73 n (sI S1 30 7 ((S1.1 30 7) + 1)) x1 (x4 + (-1)))
set_option maxRecDepth 100000 in
set_option maxHeartbeats 4000000 in
theorem w_X8_type_73 {r : Int32} {S' : ST} (hC : Cx p m c s args cX8_type 5 RX8 G) (hQ : KI p l e (rmH 2) s m args below meth c Q cX8_type G r S') : ∀ (n : Nat) (S : ST) (x1 : Int64) (x4 : Int32) (H : Heap) (locs : List Loc) (ls : Array Slot), va_P (gD G) vwCl (cells G S) H → va_S (gA G) s.heap H locs → lv_has ls 5 [(0, .ref (ad G 30)), (1, .long x1), (4, .int x4)] → f_X8_type_73 n S x1 x4 = some (r, S') → W p l e (rmH 2) s m args below meth c H locs 0 0 Q (F0 m 73 ls []) := by
  obtain ⟨hx, hb, hml, hown, hts⟩ := id hC.1
  intro n
  induction n with
  | zero => intro S x1 x4 H locs ls hP hS hl hf; rw [f_X8_type_73] at hf; cases hf
  | succ n ih =>
    intro S x1 x4 H locs ls hP hS hl hf
    rw [f_X8_type_73] at hf
    refine lv_iload hx hb dX8_type_73 (lv_at hl 2 rfl) ?_
    refine lv_if_lt (tgt := 115) hx hb dX8_type_75 (by decide) (fun hc => ?_) (fun hc => ?_)
    · rw [if_pos hc] at hf
      refine lv_aload_n hx hb dX8_type_115 rfl (lv_at hl 0 rfl) ?_
      refine gFi hC hP (j := 7) sg_30 vc_8 iT8 (by decide) rfl tb_4_78 dX8_type_116 ?_
      exact retIw hQ hf hP hS dX8_type_119
    · rw [if_neg hc] at hf
      refine lv_aload_n hx hb dX8_type_78 rfl (lv_at hl 0 rfl) ?_
      refine gFr hC hP (j := 6) sg_30 vc_8 iT8 (by decide) rfl tb_4_77 dX8_type_79 ?_
      refine lv_aload_n hx hb dX8_type_82 rfl (lv_at hl 0 rfl) ?_
      refine gFi hC hP (j := 7) sg_30 vc_8 iT8 (by decide) rfl tb_4_78 dX8_type_83 ?_
      refine lv_lload_n hx hb dX8_type_86 rfl (lv_at hl 1 rfl) ?_
      refine lv_bipush (v := 8) hx hb dX8_type_87 (by decide) ?_
      refine lv_iload hx hb dX8_type_89 (lv_at hl 2 rfl) ?_
      refine lv_imul hx hb dX8_type_91 ?_
      refine lv_lshr (v := (ss64 x1 (8 * x4))) hx hb dX8_type_92 rfl ?_
      refine lv_ldc2 hx hb hown (hts _ tb_4_224) dX8_type_93 ?_
      refine lv_land hx hb dX8_type_96 ?_
      refine lv_l2i (v := ((ss64 x1 (8 * x4)) &&& 255).toInt32) hx hb dX8_type_97 rfl ?_
      obtain ⟨S1, hv, hf⟩ := ob_some hf
      refine sIa hC hP hS hv dX8_type_98 (fun H locs hP hS => ?_)
      refine lv_aload_n hx hb dX8_type_99 rfl (lv_at hl 0 rfl) ?_
      refine lv_dup hx hb dX8_type_100 rfl ?_
      refine gFi hC hP (j := 7) sg_30 vc_8 iT8 (by decide) rfl tb_4_78 dX8_type_101 ?_
      refine lv_iconst (v := 1) hx hb dX8_type_104 (by decide) ?_
      refine lv_iadd hx hb dX8_type_105 ?_
      refine pFi hC hP hS (j := 7) sg_30 vc_8 iT8 tyX8_ok nmX8 (by decide) rfl tb_4_78 rfl rfl rfl dX8_type_106 (fun H locs hP hS => ?_)
      refine lv_iinc (v := x4 + (-1)) (lv' := [(4, .int (x4 + (-1))), (0, .ref (ad G 30)), (1, .long x1)]) hx hb dX8_type_109 hl (k := 2) rfl rfl (by decide) rfl (fun ls hl => ?_)
      refine lv_goto (tgt := 73) hx hb dX8_type_112 (by decide) ?_
      exact ih _ _ _ _ _ _ hP hS (lv_sub hl [1, 2, 0] rfl) hf
def f_X8_type_17  : Nat → ST → Int64 → Int32 → Int32 → Option (Int32 × ST)
  | 0, _, _, _, _ => none
  | n + 1, S, x1, x3, x4 => if x3 ≤ x4 then (if ((S.1 30 7) + x3) ≤ 100 then (f_X8_type_73 FU S x1 (x3 - 1)) else (some ((-3), S))) else ((f_X8_in ((ss64 x1 (8 * x4)) &&& 255) 32 126).bind fun v1 => if v1 = 0 then (some ((-1), S)) else (f_X8_type_17 n S x1 x3 (x4 + 1)))
set_option maxRecDepth 100000 in
set_option maxHeartbeats 4000000 in
theorem w_X8_type_17 {r : Int32} {S' : ST} (hC : Cx p m c s args cX8_type 5 RX8 G) (hQ : KI p l e (rmH 2) s m args below meth c Q cX8_type G r S') : ∀ (n : Nat) (S : ST) (x1 : Int64) (x3 : Int32) (x4 : Int32) (H : Heap) (locs : List Loc) (ls : Array Slot), va_P (gD G) vwCl (cells G S) H → va_S (gA G) s.heap H locs → lv_has ls 5 [(0, .ref (ad G 30)), (1, .long x1), (3, .int x3), (4, .int x4)] → f_X8_type_17 n S x1 x3 x4 = some (r, S') → W p l e (rmH 2) s m args below meth c H locs 0 0 Q (F0 m 17 ls []) := by
  obtain ⟨hx, hb, hml, hown, hts⟩ := id hC.1
  intro n
  induction n with
  | zero => intro S x1 x3 x4 H locs ls hP hS hl hf; rw [f_X8_type_17] at hf; cases hf
  | succ n ih =>
    intro S x1 x3 x4 H locs ls hP hS hl hf
    rw [f_X8_type_17] at hf
    refine lv_iload hx hb dX8_type_17 (lv_at hl 3 rfl) ?_
    refine lv_iload_n hx hb dX8_type_19 rfl (lv_at hl 2 rfl) ?_
    refine lv_icmp_ge (tgt := 54) hx hb dX8_type_20 (by decide) (fun hc => ?_) (fun hc => ?_)
    · rw [if_pos hc] at hf
      refine lv_aload_n hx hb dX8_type_54 rfl (lv_at hl 0 rfl) ?_
      refine gFi hC hP (j := 7) sg_30 vc_8 iT8 (by decide) rfl tb_4_78 dX8_type_55 ?_
      refine lv_iload_n hx hb dX8_type_58 rfl (lv_at hl 2 rfl) ?_
      refine lv_iadd hx hb dX8_type_59 ?_
      refine lv_bipush (v := 100) hx hb dX8_type_60 (by decide) ?_
      refine lv_icmp_le (tgt := 68) hx hb dX8_type_62 (by decide) (fun hc => ?_) (fun hc => ?_)
      · rw [if_pos hc] at hf
        refine lv_iload_n hx hb dX8_type_68 rfl (lv_at hl 2 rfl) ?_
        refine lv_iconst (v := 1) hx hb dX8_type_69 (by decide) ?_
        refine lv_isub hx hb dX8_type_70 ?_
        refine lv_istore (lv' := [(4, .int (x3 - 1)), (0, .ref (ad G 30)), (1, .long x1), (3, .int x3)]) hx hb dX8_type_71 hl (by decide) rfl (fun ls hl => ?_)
        exact w_X8_type_73 hC hQ _ _ _ _ _ _ _ hP hS (lv_sub hl [1, 2, 0] rfl) hf
      · rw [if_neg hc] at hf
        refine lv_bipush (v := (-3)) hx hb dX8_type_65 (by decide) ?_
        exact retIw hQ hf hP hS dX8_type_67
    · rw [if_neg hc] at hf
      refine lv_lload_n hx hb dX8_type_23 rfl (lv_at hl 1 rfl) ?_
      refine lv_bipush (v := 8) hx hb dX8_type_24 (by decide) ?_
      refine lv_iload hx hb dX8_type_26 (lv_at hl 3 rfl) ?_
      refine lv_imul hx hb dX8_type_28 ?_
      refine lv_lshr (v := (ss64 x1 (8 * x4))) hx hb dX8_type_29 rfl ?_
      refine lv_ldc2 hx hb hown (hts _ tb_4_224) dX8_type_30 ?_
      refine lv_land hx hb dX8_type_33 ?_
      refine lv_ldc2 hx hb hown (hts _ tb_4_225) dX8_type_34 ?_
      refine lv_ldc2 hx hb hown (hts _ tb_4_226) dX8_type_37 ?_
      obtain ⟨v1, hv, hf⟩ := ob_some hf
      refine cI hS (runS hC hP hS (As := [.long ((ss64 x1 (8 * x4)) &&& 255), .long 32, .long 126]) (rest := []) (k_X8_in l G S ((ss64 x1 (8 * x4)) &&& 255) 32 126 _ hv) vy_X8_in tb_4_169 tb_4_170 ⟨Nat.le_of_ble_eq_true rfl, Nat.le_of_ble_eq_true rfl⟩ rfl hl.1 rfl (Nat.le_of_ble_eq_true rfl) dX8_type_40) (fun H locs hP hS => ?_)
      refine lv_if_ne (tgt := 48) hx hb dX8_type_43 (by decide) (fun hc => ?_) (fun hc => ?_)
      · rw [if_neg hc] at hf
        refine lv_iinc (v := x4 + 1) (lv' := [(4, .int (x4 + 1)), (0, .ref (ad G 30)), (1, .long x1), (3, .int x3)]) hx hb dX8_type_48 hl (k := 3) rfl rfl (by decide) rfl (fun ls hl => ?_)
        refine lv_goto (tgt := 17) hx hb dX8_type_51 (by decide) ?_
        exact ih _ _ _ _ _ _ _ hP hS (lv_sub hl [1, 2, 3, 0] rfl) hf
      · rw [if_pos hc] at hf
        refine lv_iconst (v := (-1)) hx hb dX8_type_46 (by decide) ?_
        exact retIw hQ hf hP hS dX8_type_47
def f_X8_type (S : ST) (x1 : Int64) (x3 : Int32) : Option (Int32 × ST) := (f_X8_in (x3.toInt64) 1 8).bind fun v1 => if v1 = 0 then (some ((-1), S)) else (f_X8_type_17 FU S x1 x3 0)
set_option maxRecDepth 100000 in
set_option maxHeartbeats 4000000 in
theorem k_X8_type (l : Launch) (G : GT) (S : ST) (x1 : Int64) (x3 : Int32) (r : Int32) (S' : ST) (hf : f_X8_type S x1 x3 = some (r, S')) : MI l yX8_type cX8_type 5 (some .int) 2 [.ref (ad G 30), .long x1, .int x3] G S r S' := by
  rw [f_X8_type] at hf
  refine mkI (own := RX8) (by decide +kernel) rfl rfl (Nat.le_of_ble_eq_true rfl) (fun p e s m args below meth c Q ls hC hP hS hl hQ => ?_)
  have hl : lv_has ls 5 [(0, .ref (ad G 30)), (1, .long x1), (3, .int x3)] := hl
  obtain ⟨hx, hb, hml, hown, hts⟩ := id hC.1
  refine lv_iload_n hx hb dX8_type_0 rfl (lv_at hl 2 rfl) ?_
  refine lv_i2l (v := x3.toInt64) hx hb dX8_type_1 rfl ?_
  refine lv_lconst (v := 1) hx hb dX8_type_2 (by decide) ?_
  refine lv_ldc2 hx hb hown (hts _ tb_4_223) dX8_type_3 ?_
  obtain ⟨v1, hv, hf⟩ := ob_some hf
  refine cI hS (runS hC hP hS (As := [.long (x3.toInt64), .long 1, .long 8]) (rest := []) (k_X8_in l G S (x3.toInt64) 1 8 _ hv) vy_X8_in tb_4_169 tb_4_170 ⟨Nat.le_of_ble_eq_true rfl, Nat.le_of_ble_eq_true rfl⟩ rfl hl.1 rfl (Nat.le_of_ble_eq_true rfl) dX8_type_6) (fun H locs hP hS => ?_)
  refine lv_if_ne (tgt := 14) hx hb dX8_type_9 (by decide) (fun hc => ?_) (fun hc => ?_)
  · rw [if_neg hc] at hf
    refine lv_iconst (v := 0) hx hb dX8_type_14 (by decide) ?_
    refine lv_istore (lv' := [(4, .int 0), (0, .ref (ad G 30)), (1, .long x1), (3, .int x3)]) hx hb dX8_type_15 hl (by decide) rfl (fun ls hl => ?_)
    exact w_X8_type_17 hC hQ _ _ _ _ _ _ _ _ hP hS (lv_sub hl [1, 2, 3, 0] rfl) hf
  · rw [if_pos hc] at hf
    refine lv_iconst (v := (-1)) hx hb dX8_type_12 (by decide) ?_
    exact retIw hQ hf hP hS dX8_type_13
def f_X8_here_38  (S : ST)  : Option (Int32 × ST) := if (S.1 30 7) ≤ (S.1 30 8) then (some (0, S)) else ((rI S 0 35 (S.1 30 8)).bind fun v1 => some (v1, S))
set_option maxRecDepth 100000 in
set_option maxHeartbeats 4000000 in
theorem w_X8_here_38 {r : Int32} {S' : ST} (hC : Cx p m c s args cX8_here 1 RX8 G) (hQ : KI p l e (rmH 1) s m args below meth c Q cX8_here G r S') (S : ST)  (H : Heap) (locs : List Loc) (ls : Array Slot) (hP : va_P (gD G) vwCl (cells G S) H) (hS : va_S (gA G) s.heap H locs) (hl : lv_has ls 1 [(0, .ref (ad G 30))]) (hf : f_X8_here_38 S = some (r, S')) : W p l e (rmH 1) s m args below meth c H locs 0 0 Q (F0 m 38 ls []) := by
  obtain ⟨hx, hb, hml, hown, hts⟩ := id hC.1
  rw [f_X8_here_38] at hf
  refine lv_aload_n hx hb dX8_here_38 rfl (lv_at hl 0 rfl) ?_
  refine gFi hC hP (j := 8) sg_30 vc_8 iT8 (by decide) rfl tb_4_79 dX8_here_39 ?_
  refine lv_aload_n hx hb dX8_here_42 rfl (lv_at hl 0 rfl) ?_
  refine gFi hC hP (j := 7) sg_30 vc_8 iT8 (by decide) rfl tb_4_78 dX8_here_43 ?_
  refine lv_icmp_ge (tgt := 61) hx hb dX8_here_46 (by decide) (fun hc => ?_) (fun hc => ?_)
  · rw [if_pos hc] at hf
    refine lv_iconst (v := 0) hx hb dX8_here_61 (by decide) ?_
    exact retIw hQ hf hP hS dX8_here_62
  · rw [if_neg hc] at hf
    refine lv_aload_n hx hb dX8_here_49 rfl (lv_at hl 0 rfl) ?_
    refine gFr hC hP (j := 6) sg_30 vc_8 iT8 (by decide) rfl tb_4_77 dX8_here_50 ?_
    refine lv_aload_n hx hb dX8_here_53 rfl (lv_at hl 0 rfl) ?_
    refine gFi hC hP (j := 8) sg_30 vc_8 iT8 (by decide) rfl tb_4_79 dX8_here_54 ?_
    obtain ⟨v1, hv, hf⟩ := ob_some hf
    refine gIa hC hP hv dX8_here_57 ?_
    refine lv_goto (tgt := 62) hx hb dX8_here_58 (by decide) ?_
    exact retIw hQ hf hP hS dX8_here_62
def f_X8_here_0  : Nat → ST → Option (Int32 × ST)
  | 0, _ => none
  | n + 1, S => if (S.1 30 7) ≤ (S.1 30 8) then (f_X8_here_38 S) else ((rI S 0 35 (S.1 30 8)).bind fun v1 => if v1 = 32 then (f_X8_here_0 n (sI S 30 8 ((S.1 30 8) + 1))) else (f_X8_here_38 S))
set_option maxRecDepth 100000 in
set_option maxHeartbeats 4000000 in
theorem w_X8_here_0 {r : Int32} {S' : ST} (hC : Cx p m c s args cX8_here 1 RX8 G) (hQ : KI p l e (rmH 1) s m args below meth c Q cX8_here G r S') : ∀ (n : Nat) (S : ST)  (H : Heap) (locs : List Loc) (ls : Array Slot), va_P (gD G) vwCl (cells G S) H → va_S (gA G) s.heap H locs → lv_has ls 1 [(0, .ref (ad G 30))] → f_X8_here_0 n S = some (r, S') → W p l e (rmH 1) s m args below meth c H locs 0 0 Q (F0 m 0 ls []) := by
  obtain ⟨hx, hb, hml, hown, hts⟩ := id hC.1
  intro n
  induction n with
  | zero => intro S H locs ls hP hS hl hf; rw [f_X8_here_0] at hf; cases hf
  | succ n ih =>
    intro S H locs ls hP hS hl hf
    rw [f_X8_here_0] at hf
    refine lv_aload_n hx hb dX8_here_0 rfl (lv_at hl 0 rfl) ?_
    refine gFi hC hP (j := 8) sg_30 vc_8 iT8 (by decide) rfl tb_4_79 dX8_here_1 ?_
    refine lv_aload_n hx hb dX8_here_4 rfl (lv_at hl 0 rfl) ?_
    refine gFi hC hP (j := 7) sg_30 vc_8 iT8 (by decide) rfl tb_4_78 dX8_here_5 ?_
    refine lv_icmp_ge (tgt := 38) hx hb dX8_here_8 (by decide) (fun hc => ?_) (fun hc => ?_)
    · rw [if_pos hc] at hf
      exact w_X8_here_38 hC hQ  _ _ _ _ hP hS (lv_sub hl [0] rfl) hf
    · rw [if_neg hc] at hf
      refine lv_aload_n hx hb dX8_here_11 rfl (lv_at hl 0 rfl) ?_
      refine gFr hC hP (j := 6) sg_30 vc_8 iT8 (by decide) rfl tb_4_77 dX8_here_12 ?_
      refine lv_aload_n hx hb dX8_here_15 rfl (lv_at hl 0 rfl) ?_
      refine gFi hC hP (j := 8) sg_30 vc_8 iT8 (by decide) rfl tb_4_79 dX8_here_16 ?_
      obtain ⟨v1, hv, hf⟩ := ob_some hf
      refine gIa hC hP hv dX8_here_19 ?_
      refine lv_bipush (v := 32) hx hb dX8_here_20 (by decide) ?_
      refine lv_icmp_ne (tgt := 38) hx hb dX8_here_22 (by decide) (fun hc => ?_) (fun hc => ?_)
      · rw [if_neg hc] at hf
        exact w_X8_here_38 hC hQ  _ _ _ _ hP hS (lv_sub hl [0] rfl) hf
      · rw [if_pos hc] at hf
        refine lv_aload_n hx hb dX8_here_25 rfl (lv_at hl 0 rfl) ?_
        refine lv_dup hx hb dX8_here_26 rfl ?_
        refine gFi hC hP (j := 8) sg_30 vc_8 iT8 (by decide) rfl tb_4_79 dX8_here_27 ?_
        refine lv_iconst (v := 1) hx hb dX8_here_30 (by decide) ?_
        refine lv_iadd hx hb dX8_here_31 ?_
        refine pFi hC hP hS (j := 8) sg_30 vc_8 iT8 tyX8_ok nmX8 (by decide) rfl tb_4_79 rfl rfl rfl dX8_here_32 (fun H locs hP hS => ?_)
        refine lv_goto (tgt := 0) hx hb dX8_here_35 (by decide) ?_
        exact ih _ _ _ _ hP hS (lv_sub hl [0] rfl) hf
def f_X8_here (S : ST)  : Option (Int32 × ST) := f_X8_here_0 FU S
set_option maxRecDepth 100000 in
set_option maxHeartbeats 4000000 in
theorem k_X8_here (l : Launch) (G : GT) (S : ST)  (r : Int32) (S' : ST) (hf : f_X8_here S  = some (r, S')) : MI l yX8_here cX8_here 1 (some .int) 1 [.ref (ad G 30)] G S r S' := by
  rw [f_X8_here] at hf
  refine mkI (own := RX8) (by decide +kernel) rfl rfl (Nat.le_of_ble_eq_true rfl) (fun p e s m args below meth c Q ls hC hP hS hl hQ => ?_)
  have hl : lv_has ls 1 [(0, .ref (ad G 30))] := hl
  obtain ⟨hx, hb, hml, hown, hts⟩ := id hC.1
  exact w_X8_here_0 hC hQ _ _ _ _ _ hP hS (lv_sub hl [0] rfl) hf
end
