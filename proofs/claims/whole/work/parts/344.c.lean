def b_k_X6_init : Nat → Bool := (fun j => j == 12)
set_option maxRecDepth 100000 in
set_option maxHeartbeats 8000000 in
theorem k_X6_init (l : Launch) (G : GT) (sz : Nat) (E : Nat → Option va_E) (hG : Gz G sz) (h0 : E 12 = some (.inr (6, [.null, .int 0, .int 0, .int 0]))) : MC l yX6_init cX6_init 2 1 0 0 [.ref (ad G 12), .ref (ad G 1)] G sz E 13 (addE G E b_k_X6_init) 13 := by
  refine mkC (own := RX6) (by decide +kernel) rfl (Nat.le_of_ble_eq_true rfl) (fun p e s m args below meth c Q ls hC hname hAO hP hz hS hl hQ => ?_)
  have hl : lv_has ls 2 [(0, .ref (ad G 12)), (1, .ref (ad G 1))] := hl
  obtain ⟨hx, hb, hml, hown, hts⟩ := id hC.1
  refine lv_aload_n hx hb dX6_init_0 rfl (lv_at hl 0 rfl) ?_
  refine W.objInit hx hb hown (hts _ tb_1_97) (hts _ tb_1_20) (hts _ tb_1_21) rfl (by rw [hml]; exact hl.1) rfl dX6_init_1 (Nat.le_of_ble_eq_true rfl) (Nat.le_of_ble_eq_true rfl) ?_
  refine W.eq (g2 := F0 m 4 ls []) rfl ?_
  refine lv_aload_n hx hb dX6_init_4 rfl (lv_at hl 0 rfl) ?_
  refine lv_bipush (v := (-4)) hx hb dX6_init_5 (by decide) ?_
  refine cPut (j := 1) (fs := [.null, .int 0, .int 0, .int 0]) hC hG hP hz hS (show _ from h0) vc_6 iT6 tyX6_ok nmX6 (by decide) tb_1_99 rfl rfl rfl (Nat.le_of_ble_eq_true rfl) dX6_init_7 (fun H locs hP hz hS => ?_)
  refine lv_aload_n hx hb dX6_init_10 rfl (lv_at hl 0 rfl) ?_
  refine lv_iconst (v := 0) hx hb dX6_init_11 (by decide) ?_
  refine cPut (j := 2) (fs := [.null, .int (-4), .int 0, .int 0]) hC hG hP hz hS rfl vc_6 iT6 tyX6_ok nmX6 (by decide) tb_1_101 rfl rfl rfl (Nat.le_of_ble_eq_true rfl) dX6_init_12 (fun H locs hP hz hS => ?_)
  refine lv_aload_n hx hb dX6_init_15 rfl (lv_at hl 0 rfl) ?_
  refine lv_iconst (v := 0) hx hb dX6_init_16 (by decide) ?_
  refine cPut (j := 3) (fs := [.null, .int (-4), .int 0, .int 0]) hC hG hP hz hS rfl vc_6 iT6 tyX6_ok nmX6 (by decide) tb_1_103 rfl rfl rfl (Nat.le_of_ble_eq_true rfl) dX6_init_17 (fun H locs hP hz hS => ?_)
  refine lv_aload_n hx hb dX6_init_20 rfl (lv_at hl 0 rfl) ?_
  refine lv_aload_n hx hb dX6_init_21 rfl (lv_at hl 1 rfl) ?_
  refine cPutF (j := 0) (fs := [.null, .int (-4), .int 0, .int 0]) hC hname hG hP hz hS rfl vc_6 iT6 tyX6_ok nmX6 (by decide) tb_1_98 rfl rfl rfl rfl (Nat.le_of_ble_eq_true rfl) dX6_init_22 (fun H locs hP hz hS => ?_)
  refine hQ _ _ _ _ (hP.weak (fun j e hj => ?_)) hz hS dX6_init_25
  unfold addE at hj
  by_cases hB : b_k_X6_init j = true
  · rw [if_pos hB] at hj
    have hB2 : j = 12 := by
      simpa [b_k_X6_init, or_assoc] using hB
    rcases hB2 with rfl
    · rw [← hj]; rfl
  · rw [if_neg hB] at hj
    have hB2 : ¬ (j = 12) := by
      intro h9; apply hB; simpa [b_k_X6_init, or_assoc] using h9
    exact ((upE_n (by omega)).trans ((upE_n (by omega)).trans ((upE_n (by omega)).trans ((upE_n (by omega)).trans hj))))
