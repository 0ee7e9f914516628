def b_k_X5_init : Nat → Bool := (fun j => j == 11)
set_option maxRecDepth 100000 in
set_option maxHeartbeats 8000000 in
theorem k_X5_init (l : Launch) (G : GT) (sz : Nat) (E : Nat → Option va_E) (hG : Gz G sz) (h0 : E 11 = some (.inr (5, [.null, .int 0, .int 0, .int 0, .int 0, .int 0, .int 0, .int 0]))) : MC l yX5_init cX5_init 2 1 0 0 [.ref (ad G 11), .ref (ad G 1)] G sz E 12 (addE G E b_k_X5_init) 12 := by
  refine mkC (own := RX5) (by decide +kernel) rfl (Nat.le_of_ble_eq_true rfl) (fun p e s m args below meth c Q ls hC hname hAO hP hz hS hl hQ => ?_)
  have hl : lv_has ls 2 [(0, .ref (ad G 11)), (1, .ref (ad G 1))] := hl
  obtain ⟨hx, hb, hml, hown, hts⟩ := id hC.1
  refine lv_aload_n hx hb dX5_init_0 rfl (lv_at hl 0 rfl) ?_
  refine W.objInit hx hb hown (hts _ tb_1_62) (hts _ tb_1_20) (hts _ tb_1_21) rfl (by rw [hml]; exact hl.1) rfl dX5_init_1 (Nat.le_of_ble_eq_true rfl) (Nat.le_of_ble_eq_true rfl) ?_
  refine W.eq (g2 := F0 m 4 ls []) rfl ?_
  refine lv_aload_n hx hb dX5_init_4 rfl (lv_at hl 0 rfl) ?_
  refine lv_iconst (v := 0) hx hb dX5_init_5 (by decide) ?_
  refine cPut (j := 1) (fs := [.null, .int 0, .int 0, .int 0, .int 0, .int 0, .int 0, .int 0]) hC hG hP hz hS (show _ from h0) vc_5 iT5 tyX5_ok nmX5 (by decide) tb_1_64 rfl rfl rfl (Nat.le_of_ble_eq_true rfl) dX5_init_6 (fun H locs hP hz hS => ?_)
  refine lv_aload_n hx hb dX5_init_9 rfl (lv_at hl 0 rfl) ?_
  refine lv_iconst (v := 0) hx hb dX5_init_10 (by decide) ?_
  refine cPut (j := 2) (fs := [.null, .int 0, .int 0, .int 0, .int 0, .int 0, .int 0, .int 0]) hC hG hP hz hS rfl vc_5 iT5 tyX5_ok nmX5 (by decide) tb_1_65 rfl rfl rfl (Nat.le_of_ble_eq_true rfl) dX5_init_11 (fun H locs hP hz hS => ?_)
  refine lv_aload_n hx hb dX5_init_14 rfl (lv_at hl 0 rfl) ?_
  refine lv_iconst (v := 0) hx hb dX5_init_15 (by decide) ?_
  refine cPut (j := 3) (fs := [.null, .int 0, .int 0, .int 0, .int 0, .int 0, .int 0, .int 0]) hC hG hP hz hS rfl vc_5 iT5 tyX5_ok nmX5 (by decide) tb_1_66 rfl rfl rfl (Nat.le_of_ble_eq_true rfl) dX5_init_16 (fun H locs hP hz hS => ?_)
  refine lv_aload_n hx hb dX5_init_19 rfl (lv_at hl 0 rfl) ?_
  refine lv_iconst (v := 0) hx hb dX5_init_20 (by decide) ?_
  refine cPut (j := 4) (fs := [.null, .int 0, .int 0, .int 0, .int 0, .int 0, .int 0, .int 0]) hC hG hP hz hS rfl vc_5 iT5 tyX5_ok nmX5 (by decide) tb_1_67 rfl rfl rfl (Nat.le_of_ble_eq_true rfl) dX5_init_21 (fun H locs hP hz hS => ?_)
  refine lv_aload_n hx hb dX5_init_24 rfl (lv_at hl 0 rfl) ?_
  refine lv_iconst (v := 0) hx hb dX5_init_25 (by decide) ?_
  refine cPut (j := 5) (fs := [.null, .int 0, .int 0, .int 0, .int 0, .int 0, .int 0, .int 0]) hC hG hP hz hS rfl vc_5 iT5 tyX5_ok nmX5 (by decide) tb_1_68 rfl rfl rfl (Nat.le_of_ble_eq_true rfl) dX5_init_26 (fun H locs hP hz hS => ?_)
  refine lv_aload_n hx hb dX5_init_29 rfl (lv_at hl 0 rfl) ?_
  refine lv_iconst (v := 0) hx hb dX5_init_30 (by decide) ?_
  refine cPut (j := 6) (fs := [.null, .int 0, .int 0, .int 0, .int 0, .int 0, .int 0, .int 0]) hC hG hP hz hS rfl vc_5 iT5 tyX5_ok nmX5 (by decide) tb_1_70 rfl rfl rfl (Nat.le_of_ble_eq_true rfl) dX5_init_31 (fun H locs hP hz hS => ?_)
  refine lv_aload_n hx hb dX5_init_34 rfl (lv_at hl 0 rfl) ?_
  refine lv_iconst (v := (-1)) hx hb dX5_init_35 (by decide) ?_
  refine cPut (j := 7) (fs := [.null, .int 0, .int 0, .int 0, .int 0, .int 0, .int 0, .int 0]) hC hG hP hz hS rfl vc_5 iT5 tyX5_ok nmX5 (by decide) tb_1_73 rfl rfl rfl (Nat.le_of_ble_eq_true rfl) dX5_init_36 (fun H locs hP hz hS => ?_)
  refine lv_aload_n hx hb dX5_init_39 rfl (lv_at hl 0 rfl) ?_
  refine lv_aload_n hx hb dX5_init_40 rfl (lv_at hl 1 rfl) ?_
  refine cPutF (j := 0) (fs := [.null, .int 0, .int 0, .int 0, .int 0, .int 0, .int 0, .int (-1)]) hC hname hG hP hz hS rfl vc_5 iT5 tyX5_ok nmX5 (by decide) tb_1_63 rfl rfl rfl rfl (Nat.le_of_ble_eq_true rfl) dX5_init_41 (fun H locs hP hz hS => ?_)
  refine hQ _ _ _ _ (hP.weak (fun j e hj => ?_)) hz hS dX5_init_44
  unfold addE at hj
  by_cases hB : b_k_X5_init j = true
  · rw [if_pos hB] at hj
    have hB2 : j = 11 := by
      simpa [b_k_X5_init, or_assoc] using hB
    rcases hB2 with rfl
    · rw [← hj]; rfl
  · rw [if_neg hB] at hj
    have hB2 : ¬ (j = 11) := by
      intro h9; apply hB; simpa [b_k_X5_init, or_assoc] using h9
    exact ((upE_n (by omega)).trans ((upE_n (by omega)).trans ((upE_n (by omega)).trans ((upE_n (by omega)).trans ((upE_n (by omega)).trans ((upE_n (by omega)).trans ((upE_n (by omega)).trans ((upE_n (by omega)).trans hj))))))))
