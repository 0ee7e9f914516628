def b_k_X1_init_1 : Nat → Bool := (fun j => j == 1 || j == 2 || j == 3 || j == 4 || j == 5)
set_option maxRecDepth 100000 in
set_option maxHeartbeats 8000000 in
theorem k_X1_init_1 (l : Launch) (G : GT) (sz : Nat) (E : Nat → Option va_E) (hG : Gz G sz) (h0 : E 1 = some (.inr (1, [.int 0, .int 0, .null, .null, .null, .null]))) : MC l yX1_init cX1_init 1 1 4 143 [.ref (ad G 1)] G sz E 2 (addE G E b_k_X1_init_1) 6 := by
  refine mkC (own := RX1) (by decide +kernel) rfl (Nat.le_of_ble_eq_true rfl) (fun p e s m args below meth c Q ls hC hname hAO hP hz hS hl hQ => ?_)
  have hl : lv_has ls 1 [(0, .ref (ad G 1))] := hl
  obtain ⟨hx, hb, hml, hown, hts⟩ := id hC.1
  refine lv_aload_n hx hb dX1_init_0 rfl (lv_at hl 0 rfl) ?_
  refine W.objInit hx hb hown (hts _ tb_1_27) (hts _ tb_1_20) (hts _ tb_1_21) rfl (by rw [hml]; exact hl.1) rfl dX1_init_1 (Nat.le_of_ble_eq_true rfl) (Nat.le_of_ble_eq_true rfl) ?_
  refine W.eq (g2 := F0 m 4 ls []) rfl ?_
  refine lv_aload_n hx hb dX1_init_4 rfl (lv_at hl 0 rfl) ?_
  refine lv_iconst (v := 0) hx hb dX1_init_5 (by decide) ?_
  refine cPut (j := 0) (fs := [.int 0, .int 0, .null, .null, .null, .null]) hC hG hP hz hS (show _ from h0) vc_1 iT1 tyX1_ok nmX1 (by decide) tb_1_28 rfl rfl rfl (Nat.le_of_ble_eq_true rfl) dX1_init_6 (fun H locs hP hz hS => ?_)
  refine lv_aload_n hx hb dX1_init_9 rfl (lv_at hl 0 rfl) ?_
  refine lv_iconst (v := 0) hx hb dX1_init_10 (by decide) ?_
  refine cPut (j := 1) (fs := [.int 0, .int 0, .null, .null, .null, .null]) hC hG hP hz hS rfl vc_1 iT1 tyX1_ok nmX1 (by decide) tb_1_32 rfl rfl rfl (Nat.le_of_ble_eq_true rfl) dX1_init_11 (fun H locs hP hz hS => ?_)
  refine lv_aload_n hx hb dX1_init_14 rfl (lv_at hl 0 rfl) ?_
  refine lv_bipush (v := 24) hx hb dX1_init_15 (by decide) ?_
  refine cNewA (atype := .int) (k := 2) (t := 0) (N' := 24) (a0 := (24, .inl (fun _ => 0))) hC hG hP hz hS (by decide) rfl ac_int rfl (fun _ => rfl) (by decide) rfl (by decide +kernel) (by decide +kernel) (by decide +kernel) dX1_init_17 (fun H hP hz hS => ?_)
  refine W.widen (k := 1) (n := 24) (by omega) (by omega) ?_
  refine cPutF (j := 2) (fs := [.int 0, .int 0, .null, .null, .null, .null]) hC hname hG hP hz hS rfl vc_1 iT1 tyX1_ok nmX1 (by decide) tb_1_34 rfl rfl rfl rfl (Nat.le_of_ble_eq_true rfl) dX1_init_19 (fun H locs hP hz hS => ?_)
  refine lv_aload_n hx hb dX1_init_22 rfl (lv_at hl 0 rfl) ?_
  refine lv_iconst (v := 5) hx hb dX1_init_23 (by decide) ?_
  refine cNewA (atype := .int) (k := 3) (t := 0) (N' := 5) (a0 := (5, .inl (fun _ => 0))) hC hG hP hz hS (by decide) rfl ac_int rfl (fun _ => rfl) (by decide) rfl (by decide +kernel) (by decide +kernel) (by decide +kernel) dX1_init_24 (fun H hP hz hS => ?_)
  refine W.widen (k := 2) (n := 29) (by omega) (by omega) ?_
  refine lv_dup hx hb dX1_init_26 rfl ?_
  refine lv_iconst (v := 0) hx hb dX1_init_27 (by decide) ?_
  refine lv_iconst (v := 0) hx hb dX1_init_28 (by decide) ?_
  refine cIast (k := 3) (N' := 5) (f := (fun _ => 0)) hC hG hP hz hS rfl (vp_in_nI (n := 0) (by decide) (by decide)) dX1_init_29 (fun H locs hP hz hS => ?_)
  refine lv_dup hx hb dX1_init_30 rfl ?_
  refine lv_iconst (v := 1) hx hb dX1_init_31 (by decide) ?_
  refine lv_iconst (v := 0) hx hb dX1_init_32 (by decide) ?_
  refine cIast (k := 3) (N' := 5) (f := (upd (fun _ => 0) (0 : Int32).toNatClampNeg 0)) hC hG hP hz hS rfl (vp_in_nI (n := 1) (by decide) (by decide)) dX1_init_33 (fun H locs hP hz hS => ?_)
  refine lv_dup hx hb dX1_init_34 rfl ?_
  refine lv_iconst (v := 2) hx hb dX1_init_35 (by decide) ?_
  refine lv_iconst (v := 0) hx hb dX1_init_36 (by decide) ?_
  refine cIast (k := 3) (N' := 5) (f := (upd (upd (fun _ => 0) (0 : Int32).toNatClampNeg 0) (1 : Int32).toNatClampNeg 0)) hC hG hP hz hS rfl (vp_in_nI (n := 2) (by decide) (by decide)) dX1_init_37 (fun H locs hP hz hS => ?_)
  refine lv_dup hx hb dX1_init_38 rfl ?_
  refine lv_iconst (v := 3) hx hb dX1_init_39 (by decide) ?_
  refine lv_iconst (v := 0) hx hb dX1_init_40 (by decide) ?_
  refine cIast (k := 3) (N' := 5) (f := (upd (upd (upd (fun _ => 0) (0 : Int32).toNatClampNeg 0) (1 : Int32).toNatClampNeg 0) (2 : Int32).toNatClampNeg 0)) hC hG hP hz hS rfl (vp_in_nI (n := 3) (by decide) (by decide)) dX1_init_41 (fun H locs hP hz hS => ?_)
  refine lv_dup hx hb dX1_init_42 rfl ?_
  refine lv_iconst (v := 4) hx hb dX1_init_43 (by decide) ?_
  refine lv_iconst (v := 5) hx hb dX1_init_44 (by decide) ?_
  refine cIast (k := 3) (N' := 5) (f := (upd (upd (upd (upd (fun _ => 0) (0 : Int32).toNatClampNeg 0) (1 : Int32).toNatClampNeg 0) (2 : Int32).toNatClampNeg 0) (3 : Int32).toNatClampNeg 0)) hC hG hP hz hS rfl (vp_in_nI (n := 4) (by decide) (by decide)) dX1_init_45 (fun H locs hP hz hS => ?_)
  refine cPutF (j := 3) (fs := [.int 0, .int 0, .ref (ad G 2), .null, .null, .null]) hC hname hG hP hz hS rfl vc_1 iT1 tyX1_ok nmX1 (by decide) tb_1_37 rfl rfl rfl rfl (Nat.le_of_ble_eq_true rfl) dX1_init_46 (fun H locs hP hz hS => ?_)
  refine lv_aload_n hx hb dX1_init_49 rfl (lv_at hl 0 rfl) ?_
  refine lv_bipush (v := 96) hx hb dX1_init_50 (by decide) ?_
  refine cNewA (atype := .int) (k := 4) (t := 0) (N' := 96) (a0 := (96, .inl (fun _ => 0))) hC hG hP hz hS (by decide) rfl ac_int rfl (fun _ => rfl) (by decide) rfl (by decide +kernel) (by decide +kernel) (by decide +kernel) dX1_init_52 (fun H hP hz hS => ?_)
  refine W.widen (k := 3) (n := 125) (by omega) (by omega) ?_
  refine cPutF (j := 4) (fs := [.int 0, .int 0, .ref (ad G 2), .ref (ad G 3), .null, .null]) hC hname hG hP hz hS rfl vc_1 iT1 tyX1_ok nmX1 (by decide) tb_1_41 rfl rfl rfl rfl (Nat.le_of_ble_eq_true rfl) dX1_init_54 (fun H locs hP hz hS => ?_)
  refine lv_aload_n hx hb dX1_init_57 rfl (lv_at hl 0 rfl) ?_
  refine lv_bipush (v := 18) hx hb dX1_init_58 (by decide) ?_
  refine cNewA (atype := .int) (k := 5) (t := 0) (N' := 18) (a0 := (18, .inl (fun _ => 0))) hC hG hP hz hS (by decide) rfl ac_int rfl (fun _ => rfl) (by decide) rfl (by decide +kernel) (by decide +kernel) (by decide +kernel) dX1_init_60 (fun H hP hz hS => ?_)
  refine W.widen (k := 4) (n := 143) (by omega) (by omega) ?_
  refine cPutF (j := 5) (fs := [.int 0, .int 0, .ref (ad G 2), .ref (ad G 3), .ref (ad G 4), .null]) hC hname hG hP hz hS rfl vc_1 iT1 tyX1_ok nmX1 (by decide) tb_1_42 rfl rfl rfl rfl (Nat.le_of_ble_eq_true rfl) dX1_init_62 (fun H locs hP hz hS => ?_)
  refine hQ _ _ _ _ (hP.weak (fun j e hj => ?_)) hz hS dX1_init_65
  unfold addE at hj
  by_cases hB : b_k_X1_init_1 j = true
  · rw [if_pos hB] at hj
    have hB2 : j = 1 ∨ j = 2 ∨ j = 3 ∨ j = 4 ∨ j = 5 := by
      simpa [b_k_X1_init_1, or_assoc] using hB
    rcases hB2 with rfl | rfl | rfl | rfl | rfl
    · rw [← hj]; rfl
    · rw [← hj]; rfl
    · rw [← hj]
      show some (Sum.inl (cy G 0, 5, Sum.inl (upd (upd (upd (upd (upd (fun _ => 0) (0 : Int32).toNatClampNeg 0) (1 : Int32).toNatClampNeg 0) (2 : Int32).toNatClampNeg 0) (3 : Int32).toNatClampNeg 0) (4 : Int32).toNatClampNeg 5))) = some (Sum.inl (cy G 0, 5, Sum.inl (S0.1 3)))
      rw [st5_u]
      rfl
    · rw [← hj]; rfl
    · rw [← hj]; rfl
  · rw [if_neg hB] at hj
    have hB2 : ¬ (j = 1 ∨ j = 2 ∨ j = 3 ∨ j = 4 ∨ j = 5) := by
      intro h9; apply hB; simpa [b_k_X1_init_1, or_assoc] using h9
    exact ((upE_n (by omega)).trans ((upE_n (by omega)).trans ((upE_n (by omega)).trans ((upE_n (by omega)).trans ((upE_n (by omega)).trans ((upE_n (by omega)).trans ((upE_n (by omega)).trans ((upE_n (by omega)).trans ((upE_n (by omega)).trans ((upE_n (by omega)).trans ((upE_n (by omega)).trans ((upE_n (by omega)).trans ((upE_n (by omega)).trans ((upE_n (by omega)).trans ((upE_n (by omega)).trans hj)))))))))))))))
