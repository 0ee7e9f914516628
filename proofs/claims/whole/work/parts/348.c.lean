def b_k_X3_init : Nat → Bool := (fun j => j == 25 || j == 26 || j == 27 || j == 28 || (decide (173 ≤ j) && decide (j < 177)))
set_option maxRecDepth 100000 in
set_option maxHeartbeats 8000000 in
theorem k_X3_init (l : Launch) (G : GT) (sz : Nat) (E : Nat → Option va_E) (hG : Gz G sz) (h0 : E 25 = some (.inr (3, [.null, .null, .null]))) : MC l yX3_init cX3_init 1 1 7 108 [.ref (ad G 25)] G sz E 149 (addE G E b_k_X3_init) 156 := by
  refine mkC (own := RX3) (by decide +kernel) rfl (Nat.le_of_ble_eq_true rfl) (fun p e s m args below meth c Q ls hC hname hAO hP hz hS hl hQ => ?_)
  have hl : lv_has ls 1 [(0, .ref (ad G 25))] := hl
  obtain ⟨hx, hb, hml, hown, hts⟩ := id hC.1
  refine lv_aload_n hx hb dX3_init_0 rfl (lv_at hl 0 rfl) ?_
  refine W.objInit hx hb hown (hts _ tb_1_199) (hts _ tb_1_20) (hts _ tb_1_21) rfl (by rw [hml]; exact hl.1) rfl dX3_init_1 (Nat.le_of_ble_eq_true rfl) (Nat.le_of_ble_eq_true rfl) ?_
  refine W.eq (g2 := F0 m 4 ls []) rfl ?_
  refine lv_aload_n hx hb dX3_init_4 rfl (lv_at hl 0 rfl) ?_
  refine lv_iconst (v := 4) hx hb dX3_init_5 (by decide) ?_
  refine lv_bipush (v := 24) hx hb dX3_init_6 (by decide) ?_
  refine cMul (k := 26) (b := 173) (t := 5) (t1 := 0) (N' := 4) (K' := 24) (ty := .int) (z := (24, .inl (fun _ => 0))) hC hG hP hz hS (by decide) rfl (by decide) (by decide +kernel) cl_RX3_11 hAO.2 ac_int rfl (fun _ _ h => h) rfl rfl (by decide) (by decide) rfl rfl (by decide +kernel) (by decide +kernel) (by decide +kernel) rfl rfl (by decide +kernel) (by decide +kernel) (fun c => inn_I c 24) dX3_init_8 (fun H hP hz hS => ?_)
  refine W.widen (k := 5) (n := 100) (by omega) (by omega) ?_
  refine cPutF (j := 0) (fs := [.null, .null, .null]) hC hname hG hP hz hS (show _ from h0) vc_3 iT3 tyX3_ok nmX3 (by decide) tb_1_202 rfl rfl rfl rfl (Nat.le_of_ble_eq_true rfl) dX3_init_12 (fun H locs hP hz hS => ?_)
  refine lv_aload_n hx hb dX3_init_15 rfl (lv_at hl 0 rfl) ?_
  refine lv_iconst (v := 4) hx hb dX3_init_16 (by decide) ?_
  refine cNewA (atype := .int) (k := 27) (t := 0) (N' := 4) (a0 := (4, .inl (fun _ => 0))) hC hG hP hz hS (by decide) rfl ac_int rfl (fun _ => rfl) (by decide) rfl (by decide +kernel) (by decide +kernel) (by decide +kernel) dX3_init_17 (fun H hP hz hS => ?_)
  refine W.widen (k := 6) (n := 104) (by omega) (by omega) ?_
  refine lv_dup hx hb dX3_init_19 rfl ?_
  refine lv_iconst (v := 0) hx hb dX3_init_20 (by decide) ?_
  refine lv_iconst (v := (-1)) hx hb dX3_init_21 (by decide) ?_
  refine cIast (k := 27) (N' := 4) (f := (fun _ => 0)) hC hG hP hz hS rfl (vp_in_nI (n := 0) (by decide) (by decide)) dX3_init_22 (fun H locs hP hz hS => ?_)
  refine lv_dup hx hb dX3_init_23 rfl ?_
  refine lv_iconst (v := 1) hx hb dX3_init_24 (by decide) ?_
  refine lv_iconst (v := (-1)) hx hb dX3_init_25 (by decide) ?_
  refine cIast (k := 27) (N' := 4) (f := (upd (fun _ => 0) (0 : Int32).toNatClampNeg (-1))) hC hG hP hz hS rfl (vp_in_nI (n := 1) (by decide) (by decide)) dX3_init_26 (fun H locs hP hz hS => ?_)
  refine lv_dup hx hb dX3_init_27 rfl ?_
  refine lv_iconst (v := 2) hx hb dX3_init_28 (by decide) ?_
  refine lv_iconst (v := (-1)) hx hb dX3_init_29 (by decide) ?_
  refine cIast (k := 27) (N' := 4) (f := (upd (upd (fun _ => 0) (0 : Int32).toNatClampNeg (-1)) (1 : Int32).toNatClampNeg (-1))) hC hG hP hz hS rfl (vp_in_nI (n := 2) (by decide) (by decide)) dX3_init_30 (fun H locs hP hz hS => ?_)
  refine lv_dup hx hb dX3_init_31 rfl ?_
  refine lv_iconst (v := 3) hx hb dX3_init_32 (by decide) ?_
  refine lv_iconst (v := (-1)) hx hb dX3_init_33 (by decide) ?_
  refine cIast (k := 27) (N' := 4) (f := (upd (upd (upd (fun _ => 0) (0 : Int32).toNatClampNeg (-1)) (1 : Int32).toNatClampNeg (-1)) (2 : Int32).toNatClampNeg (-1))) hC hG hP hz hS rfl (vp_in_nI (n := 3) (by decide) (by decide)) dX3_init_34 (fun H locs hP hz hS => ?_)
  refine cPutF (j := 1) (fs := [.ref (ad G 26), .null, .null]) hC hname hG hP hz hS rfl vc_3 iT3 tyX3_ok nmX3 (by decide) tb_1_203 rfl rfl rfl rfl (Nat.le_of_ble_eq_true rfl) dX3_init_35 (fun H locs hP hz hS => ?_)
  refine lv_aload_n hx hb dX3_init_38 rfl (lv_at hl 0 rfl) ?_
  refine lv_iconst (v := 4) hx hb dX3_init_39 (by decide) ?_
  refine cNewA (atype := .int) (k := 28) (t := 0) (N' := 4) (a0 := (4, .inl (fun _ => 0))) hC hG hP hz hS (by decide) rfl ac_int rfl (fun _ => rfl) (by decide) rfl (by decide +kernel) (by decide +kernel) (by decide +kernel) dX3_init_40 (fun H hP hz hS => ?_)
  refine W.widen (k := 7) (n := 108) (by omega) (by omega) ?_
  refine cPutF (j := 2) (fs := [.ref (ad G 26), .ref (ad G 27), .null]) hC hname hG hP hz hS rfl vc_3 iT3 tyX3_ok nmX3 (by decide) tb_1_204 rfl rfl rfl rfl (Nat.le_of_ble_eq_true rfl) dX3_init_42 (fun H locs hP hz hS => ?_)
  refine hQ _ _ _ _ (hP.weak (fun j e hj => ?_)) hz hS dX3_init_45
  unfold addE at hj
  by_cases hB : b_k_X3_init j = true
  · rw [if_pos hB] at hj
    have hB2 : j = 25 ∨ j = 26 ∨ j = 27 ∨ j = 28 ∨ (173 ≤ j ∧ j < 177) := by
      simpa [b_k_X3_init, or_assoc] using hB
    rcases hB2 with rfl | rfl | rfl | rfl | hr
    · rw [← hj]; rfl
    · rw [← hj]; rfl
    · rw [← hj]
      show some (Sum.inl (cy G 0, 4, Sum.inl (upd (upd (upd (upd (fun _ => 0) (0 : Int32).toNatClampNeg (-1)) (1 : Int32).toNatClampNeg (-1)) (2 : Int32).toNatClampNeg (-1)) (3 : Int32).toNatClampNeg (-1)))) = some (Sum.inl (cy G 0, 4, Sum.inl (S0.1 27)))
      rw [ln4_u]
      rfl
    · rw [← hj]; rfl
    · have h4 : (shl[j]?).map (ceS G S0 j) = some (.inl (cy G 0, 24, .inl (fun _ => 0))) := by
        rcases (show j = 173 ∨ j = 174 ∨ j = 175 ∨ j = 176 by omega) with rfl | rfl | rfl | rfl <;> rfl
      rw [h4] at hj
      rw [← hj]
      exact ((upE_n (by omega)).trans ((upE_n (by omega)).trans ((upE_n (by omega)).trans ((upE_n (by omega)).trans ((upE_n (by omega)).trans ((upE_n (by omega)).trans ((upE_n (by omega)).trans ((upE_n (by omega)).trans ((upE_n (by omega)).trans ((upE_n (by omega)).trans (upR_in (by omega))))))))))))
  · rw [if_neg hB] at hj
    have hB2 : ¬ (j = 25 ∨ j = 26 ∨ j = 27 ∨ j = 28 ∨ (173 ≤ j ∧ j < 177)) := by
      intro h9; apply hB; simpa [b_k_X3_init, or_assoc] using h9
    exact ((upE_n (by omega)).trans ((upE_n (by omega)).trans ((upE_n (by omega)).trans ((upE_n (by omega)).trans ((upE_n (by omega)).trans ((upE_n (by omega)).trans ((upE_n (by omega)).trans ((upE_n (by omega)).trans ((upE_n (by omega)).trans ((upE_n (by omega)).trans ((upR_n (by omega)).trans hj)))))))))))
