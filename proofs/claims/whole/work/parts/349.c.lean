def b_k_X8_init : Nat → Bool := (fun j => j == 30 || j == 31 || j == 32 || j == 33 || j == 34 || j == 35 || j == 36 || j == 37 || j == 38 || j == 39 || j == 40 || j == 41 || j == 42 || j == 43 || j == 44 || j == 45 || j == 46 || j == 47 || j == 48 || j == 49)
set_option maxRecDepth 100000 in
set_option maxHeartbeats 8000000 in
theorem k_X8_init (l : Launch) (G : GT) (sz : Nat) (E : Nat → Option va_E) (hG : Gz G sz) (h0 : E 30 = some (.inr (8, [.int 0, .null, .null, .null, .int 0, .null, .null, .int 0, .int 0, .int 0, .null, .int 0, .int 0, .int 0, .int 0, .null, .null, .null, .null, .null, .null, .null, .null, .null, .int 0, .null, .null, .null, .null]))) : MC l yX8_init cX8_init 2 1 19 44823 [.ref (ad G 30)] G sz E 158 (addE G E b_k_X8_init) 177 := by
  refine mkC (own := RX8) (by decide +kernel) rfl (Nat.le_of_ble_eq_true rfl) (fun p e s m args below meth c Q ls hC hname hAO hP hz hS hl hQ => ?_)
  have hl : lv_has ls 2 [(0, .ref (ad G 30))] := hl
  obtain ⟨hx, hb, hml, hown, hts⟩ := id hC.1
  refine lv_aload_n hx hb dX8_init_0 rfl (lv_at hl 0 rfl) ?_
  refine W.objInit hx hb hown (hts _ tb_4_70) (hts _ tb_1_20) (hts _ tb_1_21) rfl (by rw [hml]; exact hl.1) rfl dX8_init_1 (Nat.le_of_ble_eq_true rfl) (Nat.le_of_ble_eq_true rfl) ?_
  refine W.eq (g2 := F0 m 4 ls []) rfl ?_
  refine lv_aload_n hx hb dX8_init_4 rfl (lv_at hl 0 rfl) ?_
  refine lv_bipush (v := 96) hx hb dX8_init_5 (by decide) ?_
  refine cNewA (atype := .int) (k := 31) (t := 0) (N' := 96) (a0 := (96, .inl (fun _ => 0))) hC hG hP hz hS (by decide) rfl ac_int rfl (fun _ => rfl) (by decide) rfl (by decide +kernel) (by decide +kernel) (by decide +kernel) dX8_init_7 (fun H hP hz hS => ?_)
  refine W.widen (k := 1) (n := 96) (by omega) (by omega) ?_
  refine cPutF (j := 1) (fs := [.int 0, .null, .null, .null, .int 0, .null, .null, .int 0, .int 0, .int 0, .null, .int 0, .int 0, .int 0, .int 0, .null, .null, .null, .null, .null, .null, .null, .null, .null, .int 0, .null, .null, .null, .null]) hC hname hG hP hz hS (show _ from h0) vc_8 iT8 tyX8_ok nmX8 (by decide) tb_4_72 rfl rfl rfl rfl (Nat.le_of_ble_eq_true rfl) dX8_init_9 (fun H locs hP hz hS => ?_)
  refine lv_aload_n hx hb dX8_init_12 rfl (lv_at hl 0 rfl) ?_
  refine lv_bipush (v := 24) hx hb dX8_init_13 (by decide) ?_
  refine cNewA (atype := .int) (k := 32) (t := 0) (N' := 24) (a0 := (24, .inl (fun _ => 0))) hC hG hP hz hS (by decide) rfl ac_int rfl (fun _ => rfl) (by decide) rfl (by decide +kernel) (by decide +kernel) (by decide +kernel) dX8_init_15 (fun H hP hz hS => ?_)
  refine W.widen (k := 2) (n := 120) (by omega) (by omega) ?_
  refine cPutF (j := 2) (fs := [.int 0, .ref (ad G 31), .null, .null, .int 0, .null, .null, .int 0, .int 0, .int 0, .null, .int 0, .int 0, .int 0, .int 0, .null, .null, .null, .null, .null, .null, .null, .null, .null, .int 0, .null, .null, .null, .null]) hC hname hG hP hz hS rfl vc_8 iT8 tyX8_ok nmX8 (by decide) tb_4_73 rfl rfl rfl rfl (Nat.le_of_ble_eq_true rfl) dX8_init_17 (fun H locs hP hz hS => ?_)
  refine lv_aload_n hx hb dX8_init_20 rfl (lv_at hl 0 rfl) ?_
  refine lv_iconst (v := 5) hx hb dX8_init_21 (by decide) ?_
  refine cNewA (atype := .int) (k := 33) (t := 0) (N' := 5) (a0 := (5, .inl (fun _ => 0))) hC hG hP hz hS (by decide) rfl ac_int rfl (fun _ => rfl) (by decide) rfl (by decide +kernel) (by decide +kernel) (by decide +kernel) dX8_init_22 (fun H hP hz hS => ?_)
  refine W.widen (k := 3) (n := 125) (by omega) (by omega) ?_
  refine cPutF (j := 3) (fs := [.int 0, .ref (ad G 31), .ref (ad G 32), .null, .int 0, .null, .null, .int 0, .int 0, .int 0, .null, .int 0, .int 0, .int 0, .int 0, .null, .null, .null, .null, .null, .null, .null, .null, .null, .int 0, .null, .null, .null, .null]) hC hname hG hP hz hS rfl vc_8 iT8 tyX8_ok nmX8 (by decide) tb_4_74 rfl rfl rfl rfl (Nat.le_of_ble_eq_true rfl) dX8_init_24 (fun H locs hP hz hS => ?_)
  refine lv_aload_n hx hb dX8_init_27 rfl (lv_at hl 0 rfl) ?_
  refine lv_bipush (v := 18) hx hb dX8_init_28 (by decide) ?_
  refine cNewA (atype := .int) (k := 34) (t := 0) (N' := 18) (a0 := (18, .inl (fun _ => 0))) hC hG hP hz hS (by decide) rfl ac_int rfl (fun _ => rfl) (by decide) rfl (by decide +kernel) (by decide +kernel) (by decide +kernel) dX8_init_30 (fun H hP hz hS => ?_)
  refine W.widen (k := 4) (n := 143) (by omega) (by omega) ?_
  refine cPutF (j := 5) (fs := [.int 0, .ref (ad G 31), .ref (ad G 32), .ref (ad G 33), .int 0, .null, .null, .int 0, .int 0, .int 0, .null, .int 0, .int 0, .int 0, .int 0, .null, .null, .null, .null, .null, .null, .null, .null, .null, .int 0, .null, .null, .null, .null]) hC hname hG hP hz hS rfl vc_8 iT8 tyX8_ok nmX8 (by decide) tb_4_76 rfl rfl rfl rfl (Nat.le_of_ble_eq_true rfl) dX8_init_32 (fun H locs hP hz hS => ?_)
  refine lv_aload_n hx hb dX8_init_35 rfl (lv_at hl 0 rfl) ?_
  refine lv_bipush (v := 100) hx hb dX8_init_36 (by decide) ?_
  refine cNewA (atype := .int) (k := 35) (t := 0) (N' := 100) (a0 := (100, .inl (fun _ => 0))) hC hG hP hz hS (by decide) rfl ac_int rfl (fun _ => rfl) (by decide) rfl (by decide +kernel) (by decide +kernel) (by decide +kernel) dX8_init_38 (fun H hP hz hS => ?_)
  refine W.widen (k := 5) (n := 243) (by omega) (by omega) ?_
  refine cPutF (j := 6) (fs := [.int 0, .ref (ad G 31), .ref (ad G 32), .ref (ad G 33), .int 0, .ref (ad G 34), .null, .int 0, .int 0, .int 0, .null, .int 0, .int 0, .int 0, .int 0, .null, .null, .null, .null, .null, .null, .null, .null, .null, .int 0, .null, .null, .null, .null]) hC hname hG hP hz hS rfl vc_8 iT8 tyX8_ok nmX8 (by decide) tb_4_77 rfl rfl rfl rfl (Nat.le_of_ble_eq_true rfl) dX8_init_40 (fun H locs hP hz hS => ?_)
  refine lv_aload_n hx hb dX8_init_43 rfl (lv_at hl 0 rfl) ?_
  refine lv_bipush (v := 40) hx hb dX8_init_44 (by decide) ?_
  refine cNewA (atype := .int) (k := 36) (t := 0) (N' := 40) (a0 := (40, .inl (fun _ => 0))) hC hG hP hz hS (by decide) rfl ac_int rfl (fun _ => rfl) (by decide) rfl (by decide +kernel) (by decide +kernel) (by decide +kernel) dX8_init_46 (fun H hP hz hS => ?_)
  refine W.widen (k := 6) (n := 283) (by omega) (by omega) ?_
  refine cPutF (j := 10) (fs := [.int 0, .ref (ad G 31), .ref (ad G 32), .ref (ad G 33), .int 0, .ref (ad G 34), .ref (ad G 35), .int 0, .int 0, .int 0, .null, .int 0, .int 0, .int 0, .int 0, .null, .null, .null, .null, .null, .null, .null, .null, .null, .int 0, .null, .null, .null, .null]) hC hname hG hP hz hS rfl vc_8 iT8 tyX8_ok nmX8 (by decide) tb_4_81 rfl rfl rfl rfl (Nat.le_of_ble_eq_true rfl) dX8_init_48 (fun H locs hP hz hS => ?_)
  refine lv_aload_n hx hb dX8_init_51 rfl (lv_at hl 0 rfl) ?_
  refine lv_sipush (v := 16337) hx hb dX8_init_52 (by decide) ?_
  refine cNewA (atype := .int) (k := 37) (t := 0) (N' := 16337) (a0 := (16337, .inl (fun _ => 0))) hC hG hP hz hS (by decide) rfl ac_int rfl (fun _ => rfl) (by decide) rfl (by decide +kernel) (by decide +kernel) (by decide +kernel) dX8_init_55 (fun H hP hz hS => ?_)
  refine W.widen (k := 7) (n := 16620) (by omega) (by omega) ?_
  refine cPutF (j := 15) (fs := [.int 0, .ref (ad G 31), .ref (ad G 32), .ref (ad G 33), .int 0, .ref (ad G 34), .ref (ad G 35), .int 0, .int 0, .int 0, .ref (ad G 36), .int 0, .int 0, .int 0, .int 0, .null, .null, .null, .null, .null, .null, .null, .null, .null, .int 0, .null, .null, .null, .null]) hC hname hG hP hz hS rfl vc_8 iT8 tyX8_ok nmX8 (by decide) tb_4_86 rfl rfl rfl rfl (Nat.le_of_ble_eq_true rfl) dX8_init_57 (fun H locs hP hz hS => ?_)
  refine lv_aload_n hx hb dX8_init_60 rfl (lv_at hl 0 rfl) ?_
  refine lv_sipush (v := 16337) hx hb dX8_init_61 (by decide) ?_
  refine cNewA (atype := .int) (k := 38) (t := 0) (N' := 16337) (a0 := (16337, .inl (fun _ => 0))) hC hG hP hz hS (by decide) rfl ac_int rfl (fun _ => rfl) (by decide) rfl (by decide +kernel) (by decide +kernel) (by decide +kernel) dX8_init_64 (fun H hP hz hS => ?_)
  refine W.widen (k := 8) (n := 32957) (by omega) (by omega) ?_
  refine cPutF (j := 16) (fs := [.int 0, .ref (ad G 31), .ref (ad G 32), .ref (ad G 33), .int 0, .ref (ad G 34), .ref (ad G 35), .int 0, .int 0, .int 0, .ref (ad G 36), .int 0, .int 0, .int 0, .int 0, .ref (ad G 37), .null, .null, .null, .null, .null, .null, .null, .null, .int 0, .null, .null, .null, .null]) hC hname hG hP hz hS rfl vc_8 iT8 tyX8_ok nmX8 (by decide) tb_4_87 rfl rfl rfl rfl (Nat.le_of_ble_eq_true rfl) dX8_init_66 (fun H locs hP hz hS => ?_)
  refine lv_aload_n hx hb dX8_init_69 rfl (lv_at hl 0 rfl) ?_
  refine lv_sipush (v := 1440) hx hb dX8_init_70 (by decide) ?_
  refine cNewA (atype := .boolean) (k := 39) (t := 2) (N' := 1440) (a0 := (1440, .inl (fun _ => 0))) hC hG hP hz hS (by decide) rfl ac_boolean rfl (fun _ => rfl) (by decide) rfl (by decide +kernel) (by decide +kernel) (by decide +kernel) dX8_init_73 (fun H hP hz hS => ?_)
  refine W.widen (k := 9) (n := 34397) (by omega) (by omega) ?_
  refine cPutF (j := 17) (fs := [.int 0, .ref (ad G 31), .ref (ad G 32), .ref (ad G 33), .int 0, .ref (ad G 34), .ref (ad G 35), .int 0, .int 0, .int 0, .ref (ad G 36), .int 0, .int 0, .int 0, .int 0, .ref (ad G 37), .ref (ad G 38), .null, .null, .null, .null, .null, .null, .null, .int 0, .null, .null, .null, .null]) hC hname hG hP hz hS rfl vc_8 iT8 tyX8_ok nmX8 (by decide) tb_4_88 rfl rfl rfl rfl (Nat.le_of_ble_eq_true rfl) dX8_init_75 (fun H locs hP hz hS => ?_)
  refine lv_aload_n hx hb dX8_init_78 rfl (lv_at hl 0 rfl) ?_
  refine lv_sipush (v := 1440) hx hb dX8_init_79 (by decide) ?_
  refine cNewA (atype := .boolean) (k := 40) (t := 2) (N' := 1440) (a0 := (1440, .inl (fun _ => 0))) hC hG hP hz hS (by decide) rfl ac_boolean rfl (fun _ => rfl) (by decide) rfl (by decide +kernel) (by decide +kernel) (by decide +kernel) dX8_init_82 (fun H hP hz hS => ?_)
  refine W.widen (k := 10) (n := 35837) (by omega) (by omega) ?_
  refine cPutF (j := 18) (fs := [.int 0, .ref (ad G 31), .ref (ad G 32), .ref (ad G 33), .int 0, .ref (ad G 34), .ref (ad G 35), .int 0, .int 0, .int 0, .ref (ad G 36), .int 0, .int 0, .int 0, .int 0, .ref (ad G 37), .ref (ad G 38), .ref (ad G 39), .null, .null, .null, .null, .null, .null, .int 0, .null, .null, .null, .null]) hC hname hG hP hz hS rfl vc_8 iT8 tyX8_ok nmX8 (by decide) tb_4_89 rfl rfl rfl rfl (Nat.le_of_ble_eq_true rfl) dX8_init_84 (fun H locs hP hz hS => ?_)
  refine lv_aload_n hx hb dX8_init_87 rfl (lv_at hl 0 rfl) ?_
  refine lv_bipush (v := 61) hx hb dX8_init_88 (by decide) ?_
  refine cNewA (atype := .long) (k := 41) (t := 3) (N' := 61) (a0 := (61, .inr (.inl (fun _ => 0)))) hC hG hP hz hS (by decide) rfl ac_long rfl (fun _ => rfl) (by decide) rfl (by decide +kernel) (by decide +kernel) (by decide +kernel) dX8_init_90 (fun H hP hz hS => ?_)
  refine W.widen (k := 11) (n := 35898) (by omega) (by omega) ?_
  refine cPutF (j := 19) (fs := [.int 0, .ref (ad G 31), .ref (ad G 32), .ref (ad G 33), .int 0, .ref (ad G 34), .ref (ad G 35), .int 0, .int 0, .int 0, .ref (ad G 36), .int 0, .int 0, .int 0, .int 0, .ref (ad G 37), .ref (ad G 38), .ref (ad G 39), .ref (ad G 40), .null, .null, .null, .null, .null, .int 0, .null, .null, .null, .null]) hC hname hG hP hz hS rfl vc_8 iT8 tyX8_ok nmX8 (by decide) tb_4_90 rfl rfl rfl rfl (Nat.le_of_ble_eq_true rfl) dX8_init_92 (fun H locs hP hz hS => ?_)
  refine lv_aload_n hx hb dX8_init_95 rfl (lv_at hl 0 rfl) ?_
  refine lv_sipush (v := 8640) hx hb dX8_init_96 (by decide) ?_
  refine cNewA (atype := .int) (k := 42) (t := 0) (N' := 8640) (a0 := (8640, .inl (fun _ => 0))) hC hG hP hz hS (by decide) rfl ac_int rfl (fun _ => rfl) (by decide) rfl (by decide +kernel) (by decide +kernel) (by decide +kernel) dX8_init_99 (fun H hP hz hS => ?_)
  refine W.widen (k := 12) (n := 44538) (by omega) (by omega) ?_
  refine cPutF (j := 20) (fs := [.int 0, .ref (ad G 31), .ref (ad G 32), .ref (ad G 33), .int 0, .ref (ad G 34), .ref (ad G 35), .int 0, .int 0, .int 0, .ref (ad G 36), .int 0, .int 0, .int 0, .int 0, .ref (ad G 37), .ref (ad G 38), .ref (ad G 39), .ref (ad G 40), .ref (ad G 41), .null, .null, .null, .null, .int 0, .null, .null, .null, .null]) hC hname hG hP hz hS rfl vc_8 iT8 tyX8_ok nmX8 (by decide) tb_4_91 rfl rfl rfl rfl (Nat.le_of_ble_eq_true rfl) dX8_init_101 (fun H locs hP hz hS => ?_)
  refine lv_aload_n hx hb dX8_init_104 rfl (lv_at hl 0 rfl) ?_
  refine lv_bipush (v := 6) hx hb dX8_init_105 (by decide) ?_
  refine cNewA (atype := .int) (k := 43) (t := 0) (N' := 6) (a0 := (6, .inl (fun _ => 0))) hC hG hP hz hS (by decide) rfl ac_int rfl (fun _ => rfl) (by decide) rfl (by decide +kernel) (by decide +kernel) (by decide +kernel) dX8_init_107 (fun H hP hz hS => ?_)
  refine W.widen (k := 13) (n := 44544) (by omega) (by omega) ?_
  refine cPutF (j := 21) (fs := [.int 0, .ref (ad G 31), .ref (ad G 32), .ref (ad G 33), .int 0, .ref (ad G 34), .ref (ad G 35), .int 0, .int 0, .int 0, .ref (ad G 36), .int 0, .int 0, .int 0, .int 0, .ref (ad G 37), .ref (ad G 38), .ref (ad G 39), .ref (ad G 40), .ref (ad G 41), .ref (ad G 42), .null, .null, .null, .int 0, .null, .null, .null, .null]) hC hname hG hP hz hS rfl vc_8 iT8 tyX8_ok nmX8 (by decide) tb_4_92 rfl rfl rfl rfl (Nat.le_of_ble_eq_true rfl) dX8_init_109 (fun H locs hP hz hS => ?_)
  refine lv_aload_n hx hb dX8_init_112 rfl (lv_at hl 0 rfl) ?_
  refine lv_bipush (v := 6) hx hb dX8_init_113 (by decide) ?_
  refine cNewA (atype := .int) (k := 44) (t := 0) (N' := 6) (a0 := (6, .inl (fun _ => 0))) hC hG hP hz hS (by decide) rfl ac_int rfl (fun _ => rfl) (by decide) rfl (by decide +kernel) (by decide +kernel) (by decide +kernel) dX8_init_115 (fun H hP hz hS => ?_)
  refine W.widen (k := 14) (n := 44550) (by omega) (by omega) ?_
  refine cPutF (j := 22) (fs := [.int 0, .ref (ad G 31), .ref (ad G 32), .ref (ad G 33), .int 0, .ref (ad G 34), .ref (ad G 35), .int 0, .int 0, .int 0, .ref (ad G 36), .int 0, .int 0, .int 0, .int 0, .ref (ad G 37), .ref (ad G 38), .ref (ad G 39), .ref (ad G 40), .ref (ad G 41), .ref (ad G 42), .ref (ad G 43), .null, .null, .int 0, .null, .null, .null, .null]) hC hname hG hP hz hS rfl vc_8 iT8 tyX8_ok nmX8 (by decide) tb_4_93 rfl rfl rfl rfl (Nat.le_of_ble_eq_true rfl) dX8_init_117 (fun H locs hP hz hS => ?_)
  refine lv_aload_n hx hb dX8_init_120 rfl (lv_at hl 0 rfl) ?_
  refine lv_sipush (v := 145) hx hb dX8_init_121 (by decide) ?_
  refine cNewA (atype := .int) (k := 45) (t := 0) (N' := 145) (a0 := (145, .inl (fun _ => 0))) hC hG hP hz hS (by decide) rfl ac_int rfl (fun _ => rfl) (by decide) rfl (by decide +kernel) (by decide +kernel) (by decide +kernel) dX8_init_124 (fun H hP hz hS => ?_)
  refine W.widen (k := 15) (n := 44695) (by omega) (by omega) ?_
  refine cPutF (j := 23) (fs := [.int 0, .ref (ad G 31), .ref (ad G 32), .ref (ad G 33), .int 0, .ref (ad G 34), .ref (ad G 35), .int 0, .int 0, .int 0, .ref (ad G 36), .int 0, .int 0, .int 0, .int 0, .ref (ad G 37), .ref (ad G 38), .ref (ad G 39), .ref (ad G 40), .ref (ad G 41), .ref (ad G 42), .ref (ad G 43), .ref (ad G 44), .null, .int 0, .null, .null, .null, .null]) hC hname hG hP hz hS rfl vc_8 iT8 tyX8_ok nmX8 (by decide) tb_4_94 rfl rfl rfl rfl (Nat.le_of_ble_eq_true rfl) dX8_init_126 (fun H locs hP hz hS => ?_)
  refine lv_aload_n hx hb dX8_init_129 rfl (lv_at hl 0 rfl) ?_
  refine lv_iconst (v := 4) hx hb dX8_init_130 (by decide) ?_
  refine cNewA (atype := .int) (k := 46) (t := 0) (N' := 4) (a0 := (4, .inl (fun _ => 0))) hC hG hP hz hS (by decide) rfl ac_int rfl (fun _ => rfl) (by decide) rfl (by decide +kernel) (by decide +kernel) (by decide +kernel) dX8_init_131 (fun H hP hz hS => ?_)
  refine W.widen (k := 16) (n := 44699) (by omega) (by omega) ?_
  refine cPutF (j := 25) (fs := [.int 0, .ref (ad G 31), .ref (ad G 32), .ref (ad G 33), .int 0, .ref (ad G 34), .ref (ad G 35), .int 0, .int 0, .int 0, .ref (ad G 36), .int 0, .int 0, .int 0, .int 0, .ref (ad G 37), .ref (ad G 38), .ref (ad G 39), .ref (ad G 40), .ref (ad G 41), .ref (ad G 42), .ref (ad G 43), .ref (ad G 44), .ref (ad G 45), .int 0, .null, .null, .null, .null]) hC hname hG hP hz hS rfl vc_8 iT8 tyX8_ok nmX8 (by decide) tb_4_96 rfl rfl rfl rfl (Nat.le_of_ble_eq_true rfl) dX8_init_133 (fun H locs hP hz hS => ?_)
  refine lv_aload_n hx hb dX8_init_136 rfl (lv_at hl 0 rfl) ?_
  refine lv_iconst (v := 4) hx hb dX8_init_137 (by decide) ?_
  refine cNewA (atype := .int) (k := 47) (t := 0) (N' := 4) (a0 := (4, .inl (fun _ => 0))) hC hG hP hz hS (by decide) rfl ac_int rfl (fun _ => rfl) (by decide) rfl (by decide +kernel) (by decide +kernel) (by decide +kernel) dX8_init_138 (fun H hP hz hS => ?_)
  refine W.widen (k := 17) (n := 44703) (by omega) (by omega) ?_
  refine cPutF (j := 26) (fs := [.int 0, .ref (ad G 31), .ref (ad G 32), .ref (ad G 33), .int 0, .ref (ad G 34), .ref (ad G 35), .int 0, .int 0, .int 0, .ref (ad G 36), .int 0, .int 0, .int 0, .int 0, .ref (ad G 37), .ref (ad G 38), .ref (ad G 39), .ref (ad G 40), .ref (ad G 41), .ref (ad G 42), .ref (ad G 43), .ref (ad G 44), .ref (ad G 45), .int 0, .ref (ad G 46), .null, .null, .null]) hC hname hG hP hz hS rfl vc_8 iT8 tyX8_ok nmX8 (by decide) tb_4_97 rfl rfl rfl rfl (Nat.le_of_ble_eq_true rfl) dX8_init_140 (fun H locs hP hz hS => ?_)
  refine lv_aload_n hx hb dX8_init_143 rfl (lv_at hl 0 rfl) ?_
  refine lv_bipush (v := 96) hx hb dX8_init_144 (by decide) ?_
  refine cNewA (atype := .int) (k := 48) (t := 0) (N' := 96) (a0 := (96, .inl (fun _ => 0))) hC hG hP hz hS (by decide) rfl ac_int rfl (fun _ => rfl) (by decide) rfl (by decide +kernel) (by decide +kernel) (by decide +kernel) dX8_init_146 (fun H hP hz hS => ?_)
  refine W.widen (k := 18) (n := 44799) (by omega) (by omega) ?_
  refine cPutF (j := 27) (fs := [.int 0, .ref (ad G 31), .ref (ad G 32), .ref (ad G 33), .int 0, .ref (ad G 34), .ref (ad G 35), .int 0, .int 0, .int 0, .ref (ad G 36), .int 0, .int 0, .int 0, .int 0, .ref (ad G 37), .ref (ad G 38), .ref (ad G 39), .ref (ad G 40), .ref (ad G 41), .ref (ad G 42), .ref (ad G 43), .ref (ad G 44), .ref (ad G 45), .int 0, .ref (ad G 46), .ref (ad G 47), .null, .null]) hC hname hG hP hz hS rfl vc_8 iT8 tyX8_ok nmX8 (by decide) tb_4_98 rfl rfl rfl rfl (Nat.le_of_ble_eq_true rfl) dX8_init_148 (fun H locs hP hz hS => ?_)
  refine lv_aload_n hx hb dX8_init_151 rfl (lv_at hl 0 rfl) ?_
  refine lv_bipush (v := 24) hx hb dX8_init_152 (by decide) ?_
  refine cNewA (atype := .int) (k := 49) (t := 0) (N' := 24) (a0 := (24, .inl (fun _ => 0))) hC hG hP hz hS (by decide) rfl ac_int rfl (fun _ => rfl) (by decide) rfl (by decide +kernel) (by decide +kernel) (by decide +kernel) dX8_init_154 (fun H hP hz hS => ?_)
  refine W.widen (k := 19) (n := 44823) (by omega) (by omega) ?_
  refine cPutF (j := 28) (fs := [.int 0, .ref (ad G 31), .ref (ad G 32), .ref (ad G 33), .int 0, .ref (ad G 34), .ref (ad G 35), .int 0, .int 0, .int 0, .ref (ad G 36), .int 0, .int 0, .int 0, .int 0, .ref (ad G 37), .ref (ad G 38), .ref (ad G 39), .ref (ad G 40), .ref (ad G 41), .ref (ad G 42), .ref (ad G 43), .ref (ad G 44), .ref (ad G 45), .int 0, .ref (ad G 46), .ref (ad G 47), .ref (ad G 48), .null]) hC hname hG hP hz hS rfl vc_8 iT8 tyX8_ok nmX8 (by decide) tb_4_99 rfl rfl rfl rfl (Nat.le_of_ble_eq_true rfl) dX8_init_156 (fun H locs hP hz hS => ?_)
  refine lv_iconst (v := 0) hx hb dX8_init_159 (by decide) ?_
  refine lv_istore_n (lv' := [(1, .int 0), (0, .ref (ad G 30))]) hx hb dX8_init_160 rfl hl (by decide) rfl (fun ls hl => ?_)
  refine lv_iload_n hx hb dX8_init_161 rfl (lv_at hl 0 rfl) ?_
  refine lv_iconst (v := 4) hx hb dX8_init_162 (by decide) ?_
  refine lv_icmp_ge (tgt := 179) hx hb dX8_init_163 (by decide) (fun hc => absurd hc (by decide)) (fun _ => ?_)
  refine lv_aload_n hx hb dX8_init_166 rfl (lv_at hl 1 rfl) ?_
  refine cGet (j := 25) (r := 46) (fs := [.int 0, .ref (ad G 31), .ref (ad G 32), .ref (ad G 33), .int 0, .ref (ad G 34), .ref (ad G 35), .int 0, .int 0, .int 0, .ref (ad G 36), .int 0, .int 0, .int 0, .int 0, .ref (ad G 37), .ref (ad G 38), .ref (ad G 39), .ref (ad G 40), .ref (ad G 41), .ref (ad G 42), .ref (ad G 43), .ref (ad G 44), .ref (ad G 45), .int 0, .ref (ad G 46), .ref (ad G 47), .ref (ad G 48), .ref (ad G 49)]) hC hP rfl vc_8 iT8 (by decide) rfl tb_4_96 dX8_init_167 ?_
  refine lv_iload_n hx hb dX8_init_170 rfl (lv_at hl 0 rfl) ?_
  refine lv_iconst (v := (-1)) hx hb dX8_init_171 (by decide) ?_
  refine cIast (k := 46) (N' := 4) (f := (fun _ => 0)) hC hG hP hz hS rfl (vp_in_nI (n := 0) (by decide) (by decide)) dX8_init_172 (fun H locs hP hz hS => ?_)
  refine lv_iinc (v := 1) (lv' := [(1, .int 1), (0, .ref (ad G 30))]) hx hb dX8_init_173 hl (k := 0) rfl rfl (by decide) rfl (fun ls hl => ?_)
  refine lv_goto (tgt := 161) hx hb dX8_init_176 (by decide) ?_
  refine lv_iload_n hx hb dX8_init_161 rfl (lv_at hl 0 rfl) ?_
  refine lv_iconst (v := 4) hx hb dX8_init_162 (by decide) ?_
  refine lv_icmp_ge (tgt := 179) hx hb dX8_init_163 (by decide) (fun hc => absurd hc (by decide)) (fun _ => ?_)
  refine lv_aload_n hx hb dX8_init_166 rfl (lv_at hl 1 rfl) ?_
  refine cGet (j := 25) (r := 46) (fs := [.int 0, .ref (ad G 31), .ref (ad G 32), .ref (ad G 33), .int 0, .ref (ad G 34), .ref (ad G 35), .int 0, .int 0, .int 0, .ref (ad G 36), .int 0, .int 0, .int 0, .int 0, .ref (ad G 37), .ref (ad G 38), .ref (ad G 39), .ref (ad G 40), .ref (ad G 41), .ref (ad G 42), .ref (ad G 43), .ref (ad G 44), .ref (ad G 45), .int 0, .ref (ad G 46), .ref (ad G 47), .ref (ad G 48), .ref (ad G 49)]) hC hP rfl vc_8 iT8 (by decide) rfl tb_4_96 dX8_init_167 ?_
  refine lv_iload_n hx hb dX8_init_170 rfl (lv_at hl 0 rfl) ?_
  refine lv_iconst (v := (-1)) hx hb dX8_init_171 (by decide) ?_
  refine cIast (k := 46) (N' := 4) (f := (upd (fun _ => 0) (0 : Int32).toNatClampNeg (-1))) hC hG hP hz hS rfl (vp_in_nI (n := 1) (by decide) (by decide)) dX8_init_172 (fun H locs hP hz hS => ?_)
  refine lv_iinc (v := 2) (lv' := [(1, .int 2), (0, .ref (ad G 30))]) hx hb dX8_init_173 hl (k := 0) rfl rfl (by decide) rfl (fun ls hl => ?_)
  refine lv_goto (tgt := 161) hx hb dX8_init_176 (by decide) ?_
  refine lv_iload_n hx hb dX8_init_161 rfl (lv_at hl 0 rfl) ?_
  refine lv_iconst (v := 4) hx hb dX8_init_162 (by decide) ?_
  refine lv_icmp_ge (tgt := 179) hx hb dX8_init_163 (by decide) (fun hc => absurd hc (by decide)) (fun _ => ?_)
  refine lv_aload_n hx hb dX8_init_166 rfl (lv_at hl 1 rfl) ?_
  refine cGet (j := 25) (r := 46) (fs := [.int 0, .ref (ad G 31), .ref (ad G 32), .ref (ad G 33), .int 0, .ref (ad G 34), .ref (ad G 35), .int 0, .int 0, .int 0, .ref (ad G 36), .int 0, .int 0, .int 0, .int 0, .ref (ad G 37), .ref (ad G 38), .ref (ad G 39), .ref (ad G 40), .ref (ad G 41), .ref (ad G 42), .ref (ad G 43), .ref (ad G 44), .ref (ad G 45), .int 0, .ref (ad G 46), .ref (ad G 47), .ref (ad G 48), .ref (ad G 49)]) hC hP rfl vc_8 iT8 (by decide) rfl tb_4_96 dX8_init_167 ?_
  refine lv_iload_n hx hb dX8_init_170 rfl (lv_at hl 0 rfl) ?_
  refine lv_iconst (v := (-1)) hx hb dX8_init_171 (by decide) ?_
  refine cIast (k := 46) (N' := 4) (f := (upd (upd (fun _ => 0) (0 : Int32).toNatClampNeg (-1)) (1 : Int32).toNatClampNeg (-1))) hC hG hP hz hS rfl (vp_in_nI (n := 2) (by decide) (by decide)) dX8_init_172 (fun H locs hP hz hS => ?_)
  refine lv_iinc (v := 3) (lv' := [(1, .int 3), (0, .ref (ad G 30))]) hx hb dX8_init_173 hl (k := 0) rfl rfl (by decide) rfl (fun ls hl => ?_)
  refine lv_goto (tgt := 161) hx hb dX8_init_176 (by decide) ?_
  refine lv_iload_n hx hb dX8_init_161 rfl (lv_at hl 0 rfl) ?_
  refine lv_iconst (v := 4) hx hb dX8_init_162 (by decide) ?_
  refine lv_icmp_ge (tgt := 179) hx hb dX8_init_163 (by decide) (fun hc => absurd hc (by decide)) (fun _ => ?_)
  refine lv_aload_n hx hb dX8_init_166 rfl (lv_at hl 1 rfl) ?_
  refine cGet (j := 25) (r := 46) (fs := [.int 0, .ref (ad G 31), .ref (ad G 32), .ref (ad G 33), .int 0, .ref (ad G 34), .ref (ad G 35), .int 0, .int 0, .int 0, .ref (ad G 36), .int 0, .int 0, .int 0, .int 0, .ref (ad G 37), .ref (ad G 38), .ref (ad G 39), .ref (ad G 40), .ref (ad G 41), .ref (ad G 42), .ref (ad G 43), .ref (ad G 44), .ref (ad G 45), .int 0, .ref (ad G 46), .ref (ad G 47), .ref (ad G 48), .ref (ad G 49)]) hC hP rfl vc_8 iT8 (by decide) rfl tb_4_96 dX8_init_167 ?_
  refine lv_iload_n hx hb dX8_init_170 rfl (lv_at hl 0 rfl) ?_
  refine lv_iconst (v := (-1)) hx hb dX8_init_171 (by decide) ?_
  refine cIast (k := 46) (N' := 4) (f := (upd (upd (upd (fun _ => 0) (0 : Int32).toNatClampNeg (-1)) (1 : Int32).toNatClampNeg (-1)) (2 : Int32).toNatClampNeg (-1))) hC hG hP hz hS rfl (vp_in_nI (n := 3) (by decide) (by decide)) dX8_init_172 (fun H locs hP hz hS => ?_)
  refine lv_iinc (v := 4) (lv' := [(1, .int 4), (0, .ref (ad G 30))]) hx hb dX8_init_173 hl (k := 0) rfl rfl (by decide) rfl (fun ls hl => ?_)
  refine lv_goto (tgt := 161) hx hb dX8_init_176 (by decide) ?_
  refine lv_iload_n hx hb dX8_init_161 rfl (lv_at hl 0 rfl) ?_
  refine lv_iconst (v := 4) hx hb dX8_init_162 (by decide) ?_
  refine lv_icmp_ge (tgt := 179) hx hb dX8_init_163 (by decide) (fun _ => ?_) (fun hc => absurd (by decide) hc)
  refine lv_aload_n hx hb dX8_init_179 rfl (lv_at hl 1 rfl) ?_
  refine cGet (j := 3) (r := 33) (fs := [.int 0, .ref (ad G 31), .ref (ad G 32), .ref (ad G 33), .int 0, .ref (ad G 34), .ref (ad G 35), .int 0, .int 0, .int 0, .ref (ad G 36), .int 0, .int 0, .int 0, .int 0, .ref (ad G 37), .ref (ad G 38), .ref (ad G 39), .ref (ad G 40), .ref (ad G 41), .ref (ad G 42), .ref (ad G 43), .ref (ad G 44), .ref (ad G 45), .int 0, .ref (ad G 46), .ref (ad G 47), .ref (ad G 48), .ref (ad G 49)]) hC hP rfl vc_8 iT8 (by decide) rfl tb_4_74 dX8_init_180 ?_
  refine lv_iconst (v := 4) hx hb dX8_init_183 (by decide) ?_
  refine lv_iconst (v := 5) hx hb dX8_init_184 (by decide) ?_
  refine cIast (k := 33) (N' := 5) (f := (fun _ => 0)) hC hG hP hz hS rfl (vp_in_nI (n := 4) (by decide) (by decide)) dX8_init_185 (fun H locs hP hz hS => ?_)
  refine hQ _ _ _ _ (hP.weak (fun j e hj => ?_)) hz hS dX8_init_186
  unfold addE at hj
  by_cases hB : b_k_X8_init j = true
  · rw [if_pos hB] at hj
    have hB2 : j = 30 ∨ j = 31 ∨ j = 32 ∨ j = 33 ∨ j = 34 ∨ j = 35 ∨ j = 36 ∨ j = 37 ∨ j = 38 ∨ j = 39 ∨ j = 40 ∨ j = 41 ∨ j = 42 ∨ j = 43 ∨ j = 44 ∨ j = 45 ∨ j = 46 ∨ j = 47 ∨ j = 48 ∨ j = 49 := by
      simpa [b_k_X8_init, or_assoc] using hB
    rcases hB2 with rfl | rfl | rfl | rfl | rfl | rfl | rfl | rfl | rfl | rfl | rfl | rfl | rfl | rfl | rfl | rfl | rfl | rfl | rfl | rfl
    · rw [← hj]; rfl
    · rw [← hj]; rfl
    · rw [← hj]; rfl
    · rw [← hj]
      show some (Sum.inl (cy G 0, 5, Sum.inl (upd (fun _ => 0) (4 : Int32).toNatClampNeg 5))) = some (Sum.inl (cy G 0, 5, Sum.inl (S0.1 33)))
      rw [st5_v]
      rfl
    · rw [← hj]; rfl
    · rw [← hj]; rfl
    · rw [← hj]; rfl
    · rw [← hj]; rfl
    · rw [← hj]; rfl
    · rw [← hj]; rfl
    · rw [← hj]; rfl
    · rw [← hj]; rfl
    · rw [← hj]; rfl
    · rw [← hj]; rfl
    · rw [← hj]; rfl
    · rw [← hj]; rfl
    · rw [← hj]
      show some (Sum.inl (cy G 0, 4, Sum.inl (upd (upd (upd (upd (fun _ => 0) (0 : Int32).toNatClampNeg (-1)) (1 : Int32).toNatClampNeg (-1)) (2 : Int32).toNatClampNeg (-1)) (3 : Int32).toNatClampNeg (-1)))) = some (Sum.inl (cy G 0, 4, Sum.inl (S0.1 46)))
      rw [ln4_u]
      rfl
    · rw [← hj]; rfl
    · rw [← hj]; rfl
    · rw [← hj]; rfl
  · rw [if_neg hB] at hj
    have hB2 : ¬ (j = 30 ∨ j = 31 ∨ j = 32 ∨ j = 33 ∨ j = 34 ∨ j = 35 ∨ j = 36 ∨ j = 37 ∨ j = 38 ∨ j = 39 ∨ j = 40 ∨ j = 41 ∨ j = 42 ∨ j = 43 ∨ j = 44 ∨ j = 45 ∨ j = 46 ∨ j = 47 ∨ j = 48 ∨ j = 49) := by
      intro h9; apply hB; simpa [b_k_X8_init, or_assoc] using h9
    exact ((upE_n (by omega)).trans ((upE_n (by omega)).trans ((upE_n (by omega)).trans ((upE_n (by omega)).trans ((upE_n (by omega)).trans ((upE_n (by omega)).trans ((upE_n (by omega)).trans ((upE_n (by omega)).trans ((upE_n (by omega)).trans ((upE_n (by omega)).trans ((upE_n (by omega)).trans ((upE_n (by omega)).trans ((upE_n (by omega)).trans ((upE_n (by omega)).trans ((upE_n (by omega)).trans ((upE_n (by omega)).trans ((upE_n (by omega)).trans ((upE_n (by omega)).trans ((upE_n (by omega)).trans ((upE_n (by omega)).trans ((upE_n (by omega)).trans ((upE_n (by omega)).trans ((upE_n (by omega)).trans ((upE_n (by omega)).trans ((upE_n (by omega)).trans ((upE_n (by omega)).trans ((upE_n (by omega)).trans ((upE_n (by omega)).trans ((upE_n (by omega)).trans ((upE_n (by omega)).trans ((upE_n (by omega)).trans ((upE_n (by omega)).trans ((upE_n (by omega)).trans ((upE_n (by omega)).trans ((upE_n (by omega)).trans ((upE_n (by omega)).trans ((upE_n (by omega)).trans ((upE_n (by omega)).trans ((upE_n (by omega)).trans ((upE_n (by omega)).trans ((upE_n (by omega)).trans ((upE_n (by omega)).trans ((upE_n (by omega)).trans hj)))))))))))))))))))))))))))))))))))))))))))
