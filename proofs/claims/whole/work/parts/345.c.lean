def b_k_X2_init : Nat → Bool := (fun j => j == 13 || j == 14 || j == 15 || j == 16 || j == 17 || (decide (50 ≤ j) && decide (j < 150)) || (decide (150 ≤ j) && decide (j < 167)))
set_option maxRecDepth 100000 in
set_option maxHeartbeats 8000000 in
theorem k_X2_init (l : Launch) (G : GT) (sz : Nat) (E : Nat → Option va_E) (hG : Gz G sz) (h0 : E 13 = some (.inr (2, [.null, .null, .int 0, .null, .null, .null]))) : MC l yX2_init cX2_init 2 1 121 4763 [.ref (ad G 13), .ref (ad G 1)] G sz E 14 (addE G E b_k_X2_init) 135 := by
  refine mkC (own := RX2) (by decide +kernel) rfl (Nat.le_of_ble_eq_true rfl) (fun p e s m args below meth c Q ls hC hname hAO hP hz hS hl hQ => ?_)
  have hl : lv_has ls 2 [(0, .ref (ad G 13)), (1, .ref (ad G 1))] := hl
  obtain ⟨hx, hb, hml, hown, hts⟩ := id hC.1
  refine lv_aload_n hx hb dX2_init_0 rfl (lv_at hl 0 rfl) ?_
  refine W.objInit hx hb hown (hts _ tb_1_119) (hts _ tb_1_20) (hts _ tb_1_21) rfl (by rw [hml]; exact hl.1) rfl dX2_init_1 (Nat.le_of_ble_eq_true rfl) (Nat.le_of_ble_eq_true rfl) ?_
  refine W.eq (g2 := F0 m 4 ls []) rfl ?_
  refine lv_aload_n hx hb dX2_init_4 rfl (lv_at hl 0 rfl) ?_
  refine lv_bipush (v := 24) hx hb dX2_init_5 (by decide) ?_
  refine cNewA (atype := .int) (k := 14) (t := 0) (N' := 24) (a0 := (24, .inl (fun _ => 0))) hC hG hP hz hS (by decide) rfl ac_int rfl (fun _ => rfl) (by decide) rfl (by decide +kernel) (by decide +kernel) (by decide +kernel) dX2_init_7 (fun H hP hz hS => ?_)
  refine W.widen (k := 1) (n := 24) (by omega) (by omega) ?_
  refine cPutF (j := 1) (fs := [.null, .null, .int 0, .null, .null, .null]) hC hname hG hP hz hS (show _ from h0) vc_2 iT2 tyX2_ok nmX2 (by decide) tb_1_125 rfl rfl rfl rfl (Nat.le_of_ble_eq_true rfl) dX2_init_9 (fun H locs hP hz hS => ?_)
  refine lv_aload_n hx hb dX2_init_12 rfl (lv_at hl 0 rfl) ?_
  refine lv_iconst (v := (-1)) hx hb dX2_init_13 (by decide) ?_
  refine cPut (j := 2) (fs := [.null, .ref (ad G 14), .int 0, .null, .null, .null]) hC hG hP hz hS rfl vc_2 iT2 tyX2_ok nmX2 (by decide) tb_1_126 rfl rfl rfl (Nat.le_of_ble_eq_true rfl) dX2_init_14 (fun H locs hP hz hS => ?_)
  refine lv_aload_n hx hb dX2_init_17 rfl (lv_at hl 0 rfl) ?_
  refine lv_bipush (v := 100) hx hb dX2_init_18 (by decide) ?_
  refine lv_bipush (v := 38) hx hb dX2_init_20 (by decide) ?_
  refine cMul (k := 15) (b := 50) (t := 4) (t1 := 3) (N' := 100) (K' := 38) (ty := .long) (z := (38, .inr (.inl (fun _ => 0)))) hC hG hP hz hS (by decide) rfl (by decide) (by decide +kernel) cl_RX2_19 hAO.1 ac_long rfl (fun _ _ h => h) rfl rfl (by decide) (by decide) rfl rfl (by decide +kernel) (by decide +kernel) (by decide +kernel) rfl rfl (by decide +kernel) (by decide +kernel) (fun c => inn_J c 38) dX2_init_22 (fun H hP hz hS => ?_)
  refine W.widen (k := 102) (n := 3924) (by omega) (by omega) ?_
  refine cPutF (j := 3) (fs := [.null, .ref (ad G 14), .int (-1), .null, .null, .null]) hC hname hG hP hz hS rfl vc_2 iT2 tyX2_ok nmX2 (by decide) tb_1_127 rfl rfl rfl rfl (Nat.le_of_ble_eq_true rfl) dX2_init_26 (fun H locs hP hz hS => ?_)
  refine lv_aload_n hx hb dX2_init_29 rfl (lv_at hl 0 rfl) ?_
  refine lv_bipush (v := 16) hx hb dX2_init_30 (by decide) ?_
  refine gStNc hC hS (j := 0) (by decide) nw_1 dX2_init_32 ?_
  refine gSnc (x := 11) hC hS (j := 0) (by decide) rfl dX2_init_35 ?_
  refine lv_imul hx hb dX2_init_36 ?_
  refine litW (x := 16 * 11) (y := 176) rfl ?_
  refine cNewA (atype := .int) (k := 16) (t := 0) (N' := 176) (a0 := (176, .inl (fun _ => 0))) hC hG hP hz hS (by decide) rfl ac_int rfl (fun _ => rfl) (by decide) rfl (by decide +kernel) (by decide +kernel) (by decide +kernel) dX2_init_37 (fun H hP hz hS => ?_)
  refine W.widen (k := 103) (n := 4100) (by omega) (by omega) ?_
  refine cPutF (j := 4) (fs := [.null, .ref (ad G 14), .int (-1), .ref (ad G 15), .null, .null]) hC hname hG hP hz hS rfl vc_2 iT2 tyX2_ok nmX2 (by decide) tb_1_128 rfl rfl rfl rfl (Nat.le_of_ble_eq_true rfl) dX2_init_39 (fun H locs hP hz hS => ?_)
  refine lv_aload_n hx hb dX2_init_42 rfl (lv_at hl 0 rfl) ?_
  refine lv_bipush (v := 17) hx hb dX2_init_43 (by decide) ?_
  refine lv_bipush (v := 38) hx hb dX2_init_45 (by decide) ?_
  refine cMul (k := 17) (b := 150) (t := 4) (t1 := 3) (N' := 17) (K' := 38) (ty := .long) (z := (38, .inr (.inl (fun _ => 0)))) hC hG hP hz hS (by decide) rfl (by decide) (by decide +kernel) cl_RX2_19 hAO.1 ac_long rfl (fun _ _ h => h) rfl rfl (by decide) (by decide) rfl rfl (by decide +kernel) (by decide +kernel) (by decide +kernel) rfl rfl (by decide +kernel) (by decide +kernel) (fun c => inn_J c 38) dX2_init_47 (fun H hP hz hS => ?_)
  refine W.widen (k := 121) (n := 4763) (by omega) (by omega) ?_
  refine cPutF (j := 5) (fs := [.null, .ref (ad G 14), .int (-1), .ref (ad G 15), .ref (ad G 16), .null]) hC hname hG hP hz hS rfl vc_2 iT2 tyX2_ok nmX2 (by decide) tb_1_129 rfl rfl rfl rfl (Nat.le_of_ble_eq_true rfl) dX2_init_51 (fun H locs hP hz hS => ?_)
  refine lv_aload_n hx hb dX2_init_54 rfl (lv_at hl 0 rfl) ?_
  refine lv_aload_n hx hb dX2_init_55 rfl (lv_at hl 1 rfl) ?_
  refine cPutF (j := 0) (fs := [.null, .ref (ad G 14), .int (-1), .ref (ad G 15), .ref (ad G 16), .ref (ad G 17)]) hC hname hG hP hz hS rfl vc_2 iT2 tyX2_ok nmX2 (by decide) tb_1_124 rfl rfl rfl rfl (Nat.le_of_ble_eq_true rfl) dX2_init_56 (fun H locs hP hz hS => ?_)
  refine hQ _ _ _ _ (hP.weak (fun j e hj => ?_)) hz hS dX2_init_59
  unfold addE at hj
  by_cases hB : b_k_X2_init j = true
  · rw [if_pos hB] at hj
    have hB2 : j = 13 ∨ j = 14 ∨ j = 15 ∨ j = 16 ∨ j = 17 ∨ (50 ≤ j ∧ j < 150) ∨ (150 ≤ j ∧ j < 167) := by
      simpa [b_k_X2_init, or_assoc] using hB
    rcases hB2 with rfl | rfl | rfl | rfl | rfl | hr | hr
    · rw [← hj]; rfl
    · rw [← hj]; rfl
    · rw [← hj]; rfl
    · rw [← hj]; rfl
    · rw [← hj]; rfl
    · rw [shl_r38 j (by omega) (by omega) (by omega)] at hj
      rw [← hj]
      exact ((upE_n (by omega)).trans ((upE_n (by omega)).trans ((upE_n (by omega)).trans ((upR_n (by omega)).trans ((upE_n (by omega)).trans ((upE_n (by omega)).trans ((upE_n (by omega)).trans ((upE_n (by omega)).trans (upR_in (by omega))))))))))
    · rw [shl_r38 j (by omega) (by omega) (by omega)] at hj
      rw [← hj]
      exact ((upE_n (by omega)).trans ((upE_n (by omega)).trans ((upE_n (by omega)).trans (upR_in (by omega)))))
  · rw [if_neg hB] at hj
    have hB2 : ¬ (j = 13 ∨ j = 14 ∨ j = 15 ∨ j = 16 ∨ j = 17 ∨ (50 ≤ j ∧ j < 150) ∨ (150 ≤ j ∧ j < 167)) := by
      intro h9; apply hB; simpa [b_k_X2_init, or_assoc] using h9
    exact ((upE_n (by omega)).trans ((upE_n (by omega)).trans ((upE_n (by omega)).trans ((upR_n (by omega)).trans ((upE_n (by omega)).trans ((upE_n (by omega)).trans ((upE_n (by omega)).trans ((upE_n (by omega)).trans ((upR_n (by omega)).trans ((upE_n (by omega)).trans ((upE_n (by omega)).trans ((upE_n (by omega)).trans hj))))))))))))
