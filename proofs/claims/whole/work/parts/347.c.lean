def b_k_X4_init : Nat → Bool := (fun j => j == 22 || j == 23 || j == 24)
set_option maxRecDepth 100000 in
set_option maxHeartbeats 8000000 in
theorem k_X4_init (l : Launch) (G : GT) (sz : Nat) (E : Nat → Option va_E) (hG : Gz G sz) (h0 : E 22 = some (.inr (4, [.null, .null, .int 0, .int 0, .int 0]))) : MC l yX4_init cX4_init 1 1 2 148 [.ref (ad G 22)] G sz E 146 (addE G E b_k_X4_init) 148 := by
  refine mkC (own := RX4) (by decide +kernel) rfl (Nat.le_of_ble_eq_true rfl) (fun p e s m args below meth c Q ls hC hname hAO hP hz hS hl hQ => ?_)
  have hl : lv_has ls 1 [(0, .ref (ad G 22))] := hl
  obtain ⟨hx, hb, hml, hown, hts⟩ := id hC.1
  refine lv_aload_n hx hb dX4_init_0 rfl (lv_at hl 0 rfl) ?_
  refine W.objInit hx hb hown (hts _ tb_1_175) (hts _ tb_1_20) (hts _ tb_1_21) rfl (by rw [hml]; exact hl.1) rfl dX4_init_1 (Nat.le_of_ble_eq_true rfl) (Nat.le_of_ble_eq_true rfl) ?_
  refine W.eq (g2 := F0 m 4 ls []) rfl ?_
  refine lv_aload_n hx hb dX4_init_4 rfl (lv_at hl 0 rfl) ?_
  refine lv_bipush (v := 48) hx hb dX4_init_5 (by decide) ?_
  refine cNewA (atype := .int) (k := 23) (t := 0) (N' := 48) (a0 := (48, .inl (fun _ => 0))) hC hG hP hz hS (by decide) rfl ac_int rfl (fun _ => rfl) (by decide) rfl (by decide +kernel) (by decide +kernel) (by decide +kernel) dX4_init_7 (fun H hP hz hS => ?_)
  refine W.widen (k := 1) (n := 48) (by omega) (by omega) ?_
  refine cPutF (j := 0) (fs := [.null, .null, .int 0, .int 0, .int 0]) hC hname hG hP hz hS (show _ from h0) vc_4 iT4 tyX4_ok nmX4 (by decide) tb_1_176 rfl rfl rfl rfl (Nat.le_of_ble_eq_true rfl) dX4_init_9 (fun H locs hP hz hS => ?_)
  refine lv_aload_n hx hb dX4_init_12 rfl (lv_at hl 0 rfl) ?_
  refine lv_bipush (v := 100) hx hb dX4_init_13 (by decide) ?_
  refine cNewA (atype := .byte) (k := 24) (t := 1) (N' := 100) (a0 := (100, .inl (fun _ => 0))) hC hG hP hz hS (by decide) rfl ac_byte rfl (fun _ => rfl) (by decide) rfl (by decide +kernel) (by decide +kernel) (by decide +kernel) dX4_init_15 (fun H hP hz hS => ?_)
  refine W.widen (k := 2) (n := 148) (by omega) (by omega) ?_
  refine cPutF (j := 1) (fs := [.ref (ad G 23), .null, .int 0, .int 0, .int 0]) hC hname hG hP hz hS rfl vc_4 iT4 tyX4_ok nmX4 (by decide) tb_1_178 rfl rfl rfl rfl (Nat.le_of_ble_eq_true rfl) dX4_init_17 (fun H locs hP hz hS => ?_)
  refine lv_aload_n hx hb dX4_init_20 rfl (lv_at hl 0 rfl) ?_
  refine lv_iconst (v := 0) hx hb dX4_init_21 (by decide) ?_
  refine cPut (j := 2) (fs := [.ref (ad G 23), .ref (ad G 24), .int 0, .int 0, .int 0]) hC hG hP hz hS rfl vc_4 iT4 tyX4_ok nmX4 (by decide) tb_1_179 rfl rfl rfl (Nat.le_of_ble_eq_true rfl) dX4_init_22 (fun H locs hP hz hS => ?_)
  refine lv_aload_n hx hb dX4_init_25 rfl (lv_at hl 0 rfl) ?_
  refine lv_iconst (v := 0) hx hb dX4_init_26 (by decide) ?_
  refine cPut (j := 3) (fs := [.ref (ad G 23), .ref (ad G 24), .int 0, .int 0, .int 0]) hC hG hP hz hS rfl vc_4 iT4 tyX4_ok nmX4 (by decide) tb_1_180 rfl rfl rfl (Nat.le_of_ble_eq_true rfl) dX4_init_27 (fun H locs hP hz hS => ?_)
  refine lv_aload_n hx hb dX4_init_30 rfl (lv_at hl 0 rfl) ?_
  refine lv_iconst (v := 0) hx hb dX4_init_31 (by decide) ?_
  refine cPut (j := 4) (fs := [.ref (ad G 23), .ref (ad G 24), .int 0, .int 0, .int 0]) hC hG hP hz hS rfl vc_4 iT4 tyX4_ok nmX4 (by decide) tb_1_181 rfl rfl rfl (Nat.le_of_ble_eq_true rfl) dX4_init_32 (fun H locs hP hz hS => ?_)
  refine hQ _ _ _ _ (hP.weak (fun j e hj => ?_)) hz hS dX4_init_35
  unfold addE at hj
  by_cases hB : b_k_X4_init j = true
  · rw [if_pos hB] at hj
    have hB2 : j = 22 ∨ j = 23 ∨ j = 24 := by
      simpa [b_k_X4_init, or_assoc] using hB
    rcases hB2 with rfl | rfl | rfl
    · rw [← hj]; rfl
    · rw [← hj]; rfl
    · rw [← hj]; rfl
  · rw [if_neg hB] at hj
    have hB2 : ¬ (j = 22 ∨ j = 23 ∨ j = 24) := by
      intro h9; apply hB; simpa [b_k_X4_init, or_assoc] using h9
    exact ((upE_n (by omega)).trans ((upE_n (by omega)).trans ((upE_n (by omega)).trans ((upE_n (by omega)).trans ((upE_n (by omega)).trans ((upE_n (by omega)).trans ((upE_n (by omega)).trans hj)))))))
