def b_k_X0_init : Nat → Bool := (fun j => j == 18 || j == 19 || j == 20 || j == 21 || (decide (167 ≤ j) && decide (j < 173)))
set_option maxRecDepth 100000 in
set_option maxHeartbeats 8000000 in
theorem k_X0_init (l : Launch) (G : GT) (sz : Nat) (E : Nat → Option va_E) (hG : Gz G sz) (h0 : E 18 = some (.inr (0, [.null, .null, .null, .int 0, .int 0, .int 0]))) : MC l yX0_init cX0_init 1 1 9 156 [.ref (ad G 18)] G sz E 136 (addE G E b_k_X0_init) 145 := by
  refine mkC (own := RX0) (by decide +kernel) rfl (Nat.le_of_ble_eq_true rfl) (fun p e s m args below meth c Q ls hC hname hAO hP hz hS hl hQ => ?_)
  have hl : lv_has ls 1 [(0, .ref (ad G 18))] := hl
  obtain ⟨hx, hb, hml, hown, hts⟩ := id hC.1
  refine lv_aload_n hx hb dX0_init_0 rfl (lv_at hl 0 rfl) ?_
  refine W.objInit hx hb hown (hts _ tb_1_149) (hts _ tb_1_20) (hts _ tb_1_21) rfl (by rw [hml]; exact hl.1) rfl dX0_init_1 (Nat.le_of_ble_eq_true rfl) (Nat.le_of_ble_eq_true rfl) ?_
  refine W.eq (g2 := F0 m 4 ls []) rfl ?_
  refine lv_aload_n hx hb dX0_init_4 rfl (lv_at hl 0 rfl) ?_
  refine lv_bipush (v := 6) hx hb dX0_init_5 (by decide) ?_
  refine lv_bipush (v := 23) hx hb dX0_init_7 (by decide) ?_
  refine cMul (k := 19) (b := 167) (t := 4) (t1 := 3) (N' := 6) (K' := 23) (ty := .long) (z := (23, .inr (.inl (fun _ => 0)))) hC hG hP hz hS (by decide) rfl (by decide) (by decide +kernel) cl_RX0_9 hAO.1 ac_long rfl (fun _ _ h => h) rfl rfl (by decide) (by decide) rfl rfl (by decide +kernel) (by decide +kernel) (by decide +kernel) rfl rfl (by decide +kernel) (by decide +kernel) (fun c => inn_J c 23) dX0_init_9 (fun H hP hz hS => ?_)
  refine W.widen (k := 7) (n := 144) (by omega) (by omega) ?_
  refine cPutF (j := 0) (fs := [.null, .null, .null, .int 0, .int 0, .int 0]) hC hname hG hP hz hS (show _ from h0) vc_0 iT0 tyX0_ok nmX0 (by decide) tb_1_151 rfl rfl rfl rfl (Nat.le_of_ble_eq_true rfl) dX0_init_13 (fun H locs hP hz hS => ?_)
  refine lv_aload_n hx hb dX0_init_16 rfl (lv_at hl 0 rfl) ?_
  refine lv_bipush (v := 6) hx hb dX0_init_17 (by decide) ?_
  refine cNewA (atype := .int) (k := 20) (t := 0) (N' := 6) (a0 := (6, .inl (fun _ => 0))) hC hG hP hz hS (by decide) rfl ac_int rfl (fun _ => rfl) (by decide) rfl (by decide +kernel) (by decide +kernel) (by decide +kernel) dX0_init_19 (fun H hP hz hS => ?_)
  refine W.widen (k := 8) (n := 150) (by omega) (by omega) ?_
  refine cPutF (j := 1) (fs := [.ref (ad G 19), .null, .null, .int 0, .int 0, .int 0]) hC hname hG hP hz hS rfl vc_0 iT0 tyX0_ok nmX0 (by decide) tb_1_152 rfl rfl rfl rfl (Nat.le_of_ble_eq_true rfl) dX0_init_21 (fun H locs hP hz hS => ?_)
  refine lv_aload_n hx hb dX0_init_24 rfl (lv_at hl 0 rfl) ?_
  refine lv_bipush (v := 6) hx hb dX0_init_25 (by decide) ?_
  refine cNewA (atype := .int) (k := 21) (t := 0) (N' := 6) (a0 := (6, .inl (fun _ => 0))) hC hG hP hz hS (by decide) rfl ac_int rfl (fun _ => rfl) (by decide) rfl (by decide +kernel) (by decide +kernel) (by decide +kernel) dX0_init_27 (fun H hP hz hS => ?_)
  refine W.widen (k := 9) (n := 156) (by omega) (by omega) ?_
  refine cPutF (j := 2) (fs := [.ref (ad G 19), .ref (ad G 20), .null, .int 0, .int 0, .int 0]) hC hname hG hP hz hS rfl vc_0 iT0 tyX0_ok nmX0 (by decide) tb_1_153 rfl rfl rfl rfl (Nat.le_of_ble_eq_true rfl) dX0_init_29 (fun H locs hP hz hS => ?_)
  refine lv_aload_n hx hb dX0_init_32 rfl (lv_at hl 0 rfl) ?_
  refine lv_iconst (v := 0) hx hb dX0_init_33 (by decide) ?_
  refine cPut (j := 3) (fs := [.ref (ad G 19), .ref (ad G 20), .ref (ad G 21), .int 0, .int 0, .int 0]) hC hG hP hz hS rfl vc_0 iT0 tyX0_ok nmX0 (by decide) tb_1_154 rfl rfl rfl (Nat.le_of_ble_eq_true rfl) dX0_init_34 (fun H locs hP hz hS => ?_)
  refine lv_aload_n hx hb dX0_init_37 rfl (lv_at hl 0 rfl) ?_
  refine lv_iconst (v := 0) hx hb dX0_init_38 (by decide) ?_
  refine cPut (j := 4) (fs := [.ref (ad G 19), .ref (ad G 20), .ref (ad G 21), .int 0, .int 0, .int 0]) hC hG hP hz hS rfl vc_0 iT0 tyX0_ok nmX0 (by decide) tb_1_155 rfl rfl rfl (Nat.le_of_ble_eq_true rfl) dX0_init_39 (fun H locs hP hz hS => ?_)
  refine lv_aload_n hx hb dX0_init_42 rfl (lv_at hl 0 rfl) ?_
  refine lv_iconst (v := 0) hx hb dX0_init_43 (by decide) ?_
  refine cPut (j := 5) (fs := [.ref (ad G 19), .ref (ad G 20), .ref (ad G 21), .int 0, .int 0, .int 0]) hC hG hP hz hS rfl vc_0 iT0 tyX0_ok nmX0 (by decide) tb_1_156 rfl rfl rfl (Nat.le_of_ble_eq_true rfl) dX0_init_44 (fun H locs hP hz hS => ?_)
  refine hQ _ _ _ _ (hP.weak (fun j e hj => ?_)) hz hS dX0_init_47
  unfold addE at hj
  by_cases hB : b_k_X0_init j = true
  · rw [if_pos hB] at hj
    have hB2 : j = 18 ∨ j = 19 ∨ j = 20 ∨ j = 21 ∨ (167 ≤ j ∧ j < 173) := by
      simpa [b_k_X0_init, or_assoc] using hB
    rcases hB2 with rfl | rfl | rfl | rfl | hr
    · rw [← hj]; rfl
    · rw [← hj]; rfl
    · rw [← hj]; rfl
    · rw [← hj]; rfl
    · rw [shl_r23 j (by omega) (by omega) (by omega)] at hj
      rw [← hj]
      exact ((upE_n (by omega)).trans ((upE_n (by omega)).trans ((upE_n (by omega)).trans ((upE_n (by omega)).trans ((upE_n (by omega)).trans ((upE_n (by omega)).trans ((upE_n (by omega)).trans ((upE_n (by omega)).trans ((upE_n (by omega)).trans (upR_in (by omega)))))))))))
  · rw [if_neg hB] at hj
    have hB2 : ¬ (j = 18 ∨ j = 19 ∨ j = 20 ∨ j = 21 ∨ (167 ≤ j ∧ j < 173)) := by
      intro h9; apply hB; simpa [b_k_X0_init, or_assoc] using h9
    exact ((upE_n (by omega)).trans ((upE_n (by omega)).trans ((upE_n (by omega)).trans ((upE_n (by omega)).trans ((upE_n (by omega)).trans ((upE_n (by omega)).trans ((upE_n (by omega)).trans ((upE_n (by omega)).trans ((upE_n (by omega)).trans ((upR_n (by omega)).trans hj))))))))))
