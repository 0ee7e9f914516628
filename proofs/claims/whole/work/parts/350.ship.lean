def bs_0 : Nat → Bool := fun _ => false
def bs_1 : Nat → Bool := fun j => bs_0 j || b_k_X1_init_1 j
def bs_2 : Nat → Bool := fun j => bs_1 j || b_k_X1_init_6 j
def bs_3 : Nat → Bool := fun j => bs_2 j || b_k_X5_init j
def bs_4 : Nat → Bool := fun j => bs_3 j || b_k_X6_init j
def bs_5 : Nat → Bool := fun j => bs_4 j || b_k_X2_init j
def bs_6 : Nat → Bool := fun j => bs_5 j || b_k_X0_init j
def bs_7 : Nat → Bool := fun j => bs_6 j || b_k_X4_init j
def bs_8 : Nat → Bool := fun j => bs_7 j || b_k_X3_init j
def bs_9 : Nat → Bool := fun j => bs_8 j || (j == 29)
def b_ship : Nat → Bool := fun j => (j == 0) || bs_9 j
set_option maxRecDepth 100000 in
set_option maxHeartbeats 8000000 in
theorem k_X7_init (l : Launch) (G : GT) (sz : Nat) (E : Nat → Option va_E) (hG : Gz G sz) (h0 : E 0 = some (.inr (7, [.null, .null, .null, .null, .null, .null, .null, .null, .null, .int 0]))) : MC l yX7_init cX7_init 1 2 156 5566 [.ref (ad G 0)] G sz E 1 (addE G E b_ship) 157 := by
  refine mkC (own := RX7) (by decide +kernel) rfl (Nat.le_of_ble_eq_true rfl) (fun p e s m args below meth c Q ls hC hname hAO hP hz hS hl hQ => ?_)
  have hl : lv_has ls 1 [(0, .ref (ad G 0))] := hl
  obtain ⟨hx, hb, hml, hown, hts⟩ := id hC.1
  have hP : Pw G (addE G (upE E 0 (.inr (7, [.null, .null, .null, .null, .null, .null, .null, .null, .null, .int 0]))) bs_0) s.heap := hP.weak (fun j e hj => by
    unfold addE at hj
    rw [if_neg (show ¬ bs_0 j = true from Bool.false_ne_true)] at hj
    by_cases h9 : j = 0
    · subst h9; rw [upE_s] at hj; rw [← hj]; exact h0
    · rw [upE_n h9] at hj; exact hj)
  refine lv_aload_n hx hb dX7_init_0 rfl (lv_at hl 0 rfl) ?_
  refine W.objInit hx hb hown (hts _ tb_1_19) (hts _ tb_1_20) (hts _ tb_1_21) rfl (by rw [hml]; exact hl.1) rfl dX7_init_1 (Nat.le_of_ble_eq_true rfl) (Nat.le_of_ble_eq_true rfl) ?_
  refine W.eq (g2 := F0 m 4 ls []) rfl ?_
  refine lv_aload_n hx hb dX7_init_4 rfl (lv_at hl 0 rfl) ?_
  refine cNew (k := 1) (ci := 1) (fs := [.int 0, .int 0, .null, .null, .null, .null]) hC hG hP hz hS (by decide) rfl vc_1 iT1 tyX1_ok tb_1_22 tb_1_23 tb_1_2 (fun j hj => by rcases (show j = 0 ∨ j = 1 ∨ j = 2 ∨ j = 3 ∨ j = 4 ∨ j = 5 by omega) with rfl | rfl | rfl | rfl | rfl | rfl <;> rfl) (Nat.le_of_ble_eq_true rfl) (Nat.le_of_ble_eq_true rfl) dX7_init_5 (fun H hP hz hS => ?_)
  refine W.widen (k := 1) (n := 6) (by omega) (by omega) ?_
  refine lv_dup hx hb dX7_init_8 rfl ?_
  refine cCN hAO (k := 1) (As := []) (rest := [.ref (ad G 1), .ref (ad G 0)]) hC hP hz hS (k_X1_init_1 l G sz _ hG rfl) vy_X1_init rfl nw_0 tb_1_25 ⟨Nat.le_of_ble_eq_true rfl, Nat.le_of_ble_eq_true rfl⟩ hl.1 rfl (Nat.le_of_ble_eq_true rfl) dX7_init_9 ⟨Nat.le_of_ble_eq_true rfl, Nat.le_of_ble_eq_true rfl⟩ (fun H locs hP hz hS => ?_)
  refine W.widen (k := 5) (n := 149) (by omega) (by omega) ?_
  have hP := addE_or hP rfl
  have hP : Pw G (addE G (upE E 0 (.inr (7, [.null, .null, .null, .null, .null, .null, .null, .null, .null, .int 0]))) bs_1) H := hP
  refine cPutF (k := 0) (j := 0) (fs := [.null, .null, .null, .null, .null, .null, .null, .null, .null, .int 0]) hC hname hG hP hz hS rfl vc_7 iT7 tyX7_ok nmX7 (by decide) tb_1_212 rfl rfl rfl rfl (Nat.le_of_ble_eq_true rfl) dX7_init_12 (fun H locs hP hz hS => ?_)
  have hP := addE_up hP rfl
  have hP : Pw G (addE G (upE E 0 (.inr (7, [.ref (ad G 1), .null, .null, .null, .null, .null, .null, .null, .null, .int 0]))) bs_1) H := hP
  refine lv_aload_n hx hb dX7_init_15 rfl (lv_at hl 0 rfl) ?_
  refine cNew (k := 6) (ci := 1) (fs := [.int 0, .int 0, .null, .null, .null, .null]) hC hG hP hz hS (by decide) rfl vc_1 iT1 tyX1_ok tb_1_22 tb_1_23 tb_1_2 (fun j hj => by rcases (show j = 0 ∨ j = 1 ∨ j = 2 ∨ j = 3 ∨ j = 4 ∨ j = 5 by omega) with rfl | rfl | rfl | rfl | rfl | rfl <;> rfl) (Nat.le_of_ble_eq_true rfl) (Nat.le_of_ble_eq_true rfl) dX7_init_16 (fun H hP hz hS => ?_)
  refine W.widen (k := 6) (n := 155) (by omega) (by omega) ?_
  refine lv_dup hx hb dX7_init_19 rfl ?_
  refine cCN hAO (k := 6) (As := []) (rest := [.ref (ad G 6), .ref (ad G 0)]) hC hP hz hS (k_X1_init_6 l G sz _ hG rfl) vy_X1_init rfl nw_0 tb_1_25 ⟨Nat.le_of_ble_eq_true rfl, Nat.le_of_ble_eq_true rfl⟩ hl.1 rfl (Nat.le_of_ble_eq_true rfl) dX7_init_20 ⟨Nat.le_of_ble_eq_true rfl, Nat.le_of_ble_eq_true rfl⟩ (fun H locs hP hz hS => ?_)
  refine W.widen (k := 10) (n := 298) (by omega) (by omega) ?_
  have hP := addE_or hP rfl
  have hP : Pw G (addE G (upE E 0 (.inr (7, [.ref (ad G 1), .null, .null, .null, .null, .null, .null, .null, .null, .int 0]))) bs_2) H := hP
  refine cPutF (k := 0) (j := 1) (fs := [.ref (ad G 1), .null, .null, .null, .null, .null, .null, .null, .null, .int 0]) hC hname hG hP hz hS rfl vc_7 iT7 tyX7_ok nmX7 (by decide) tb_1_213 rfl rfl rfl rfl (Nat.le_of_ble_eq_true rfl) dX7_init_23 (fun H locs hP hz hS => ?_)
  have hP := addE_up hP rfl
  have hP : Pw G (addE G (upE E 0 (.inr (7, [.ref (ad G 1), .ref (ad G 6), .null, .null, .null, .null, .null, .null, .null, .int 0]))) bs_2) H := hP
  refine lv_aload_n hx hb dX7_init_26 rfl (lv_at hl 0 rfl) ?_
  refine cNew (k := 11) (ci := 5) (fs := [.null, .int 0, .int 0, .int 0, .int 0, .int 0, .int 0, .int 0]) hC hG hP hz hS (by decide) rfl vc_5 iT5 tyX5_ok tb_1_57 tb_1_58 tb_1_3 (fun j hj => by rcases (show j = 0 ∨ j = 1 ∨ j = 2 ∨ j = 3 ∨ j = 4 ∨ j = 5 ∨ j = 6 ∨ j = 7 by omega) with rfl | rfl | rfl | rfl | rfl | rfl | rfl | rfl <;> rfl) (Nat.le_of_ble_eq_true rfl) (Nat.le_of_ble_eq_true rfl) dX7_init_27 (fun H hP hz hS => ?_)
  refine W.widen (k := 11) (n := 306) (by omega) (by omega) ?_
  refine lv_dup hx hb dX7_init_30 rfl ?_
  refine lv_aload_n hx hb dX7_init_31 rfl (lv_at hl 0 rfl) ?_
  refine cGet (k := 0) (j := 0) (r := 1) (fs := [.ref (ad G 1), .ref (ad G 6), .null, .null, .null, .null, .null, .null, .null, .int 0]) hC hP rfl vc_7 iT7 (by decide) rfl tb_1_212 dX7_init_32 ?_
  refine cC hAO (k := 11) (As := [.ref (ad G 1)]) (rest := [.ref (ad G 11), .ref (ad G 0)]) hC hP hz hS (k_X5_init l G sz _ hG rfl) vy_X5_init rfl tb_1_59 tb_1_60 ⟨Nat.le_of_ble_eq_true rfl, Nat.le_of_ble_eq_true rfl⟩ hl.1 rfl (Nat.le_of_ble_eq_true rfl) dX7_init_35 ⟨Nat.le_of_ble_eq_true rfl, Nat.le_of_ble_eq_true rfl⟩ (fun H locs hP hz hS => ?_)
  refine W.widen (k := 11) (n := 306) (by omega) (by omega) ?_
  have hP := addE_or hP rfl
  have hP : Pw G (addE G (upE E 0 (.inr (7, [.ref (ad G 1), .ref (ad G 6), .null, .null, .null, .null, .null, .null, .null, .int 0]))) bs_3) H := hP
  refine cPutF (k := 0) (j := 2) (fs := [.ref (ad G 1), .ref (ad G 6), .null, .null, .null, .null, .null, .null, .null, .int 0]) hC hname hG hP hz hS rfl vc_7 iT7 tyX7_ok nmX7 (by decide) tb_1_214 rfl rfl rfl rfl (Nat.le_of_ble_eq_true rfl) dX7_init_38 (fun H locs hP hz hS => ?_)
  have hP := addE_up hP rfl
  have hP : Pw G (addE G (upE E 0 (.inr (7, [.ref (ad G 1), .ref (ad G 6), .ref (ad G 11), .null, .null, .null, .null, .null, .null, .int 0]))) bs_3) H := hP
  refine lv_aload_n hx hb dX7_init_41 rfl (lv_at hl 0 rfl) ?_
  refine cNew (k := 12) (ci := 6) (fs := [.null, .int 0, .int 0, .int 0]) hC hG hP hz hS (by decide) rfl vc_6 iT6 tyX6_ok tb_1_92 tb_1_93 tb_1_4 (fun j hj => by rcases (show j = 0 ∨ j = 1 ∨ j = 2 ∨ j = 3 by omega) with rfl | rfl | rfl | rfl <;> rfl) (Nat.le_of_ble_eq_true rfl) (Nat.le_of_ble_eq_true rfl) dX7_init_42 (fun H hP hz hS => ?_)
  refine W.widen (k := 12) (n := 310) (by omega) (by omega) ?_
  refine lv_dup hx hb dX7_init_45 rfl ?_
  refine lv_aload_n hx hb dX7_init_46 rfl (lv_at hl 0 rfl) ?_
  refine cGet (k := 0) (j := 0) (r := 1) (fs := [.ref (ad G 1), .ref (ad G 6), .ref (ad G 11), .null, .null, .null, .null, .null, .null, .int 0]) hC hP rfl vc_7 iT7 (by decide) rfl tb_1_212 dX7_init_47 ?_
  refine cC hAO (k := 12) (As := [.ref (ad G 1)]) (rest := [.ref (ad G 12), .ref (ad G 0)]) hC hP hz hS (k_X6_init l G sz _ hG rfl) vy_X6_init rfl tb_1_94 tb_1_95 ⟨Nat.le_of_ble_eq_true rfl, Nat.le_of_ble_eq_true rfl⟩ hl.1 rfl (Nat.le_of_ble_eq_true rfl) dX7_init_50 ⟨Nat.le_of_ble_eq_true rfl, Nat.le_of_ble_eq_true rfl⟩ (fun H locs hP hz hS => ?_)
  refine W.widen (k := 12) (n := 310) (by omega) (by omega) ?_
  have hP := addE_or hP rfl
  have hP : Pw G (addE G (upE E 0 (.inr (7, [.ref (ad G 1), .ref (ad G 6), .ref (ad G 11), .null, .null, .null, .null, .null, .null, .int 0]))) bs_4) H := hP
  refine cPutF (k := 0) (j := 3) (fs := [.ref (ad G 1), .ref (ad G 6), .ref (ad G 11), .null, .null, .null, .null, .null, .null, .int 0]) hC hname hG hP hz hS rfl vc_7 iT7 tyX7_ok nmX7 (by decide) tb_1_215 rfl rfl rfl rfl (Nat.le_of_ble_eq_true rfl) dX7_init_53 (fun H locs hP hz hS => ?_)
  have hP := addE_up hP rfl
  have hP : Pw G (addE G (upE E 0 (.inr (7, [.ref (ad G 1), .ref (ad G 6), .ref (ad G 11), .ref (ad G 12), .null, .null, .null, .null, .null, .int 0]))) bs_4) H := hP
  refine lv_aload_n hx hb dX7_init_56 rfl (lv_at hl 0 rfl) ?_
  refine cNew (k := 13) (ci := 2) (fs := [.null, .null, .int 0, .null, .null, .null]) hC hG hP hz hS (by decide) rfl vc_2 iT2 tyX2_ok tb_1_114 tb_1_115 tb_1_5 (fun j hj => by rcases (show j = 0 ∨ j = 1 ∨ j = 2 ∨ j = 3 ∨ j = 4 ∨ j = 5 by omega) with rfl | rfl | rfl | rfl | rfl | rfl <;> rfl) (Nat.le_of_ble_eq_true rfl) (Nat.le_of_ble_eq_true rfl) dX7_init_57 (fun H hP hz hS => ?_)
  refine W.widen (k := 13) (n := 316) (by omega) (by omega) ?_
  refine lv_dup hx hb dX7_init_60 rfl ?_
  refine lv_aload_n hx hb dX7_init_61 rfl (lv_at hl 0 rfl) ?_
  refine cGet (k := 0) (j := 0) (r := 1) (fs := [.ref (ad G 1), .ref (ad G 6), .ref (ad G 11), .ref (ad G 12), .null, .null, .null, .null, .null, .int 0]) hC hP rfl vc_7 iT7 (by decide) rfl tb_1_212 dX7_init_62 ?_
  refine cC hAO (k := 13) (As := [.ref (ad G 1)]) (rest := [.ref (ad G 13), .ref (ad G 0)]) hC hP hz hS (k_X2_init l G sz _ hG rfl) vy_X2_init rfl tb_1_116 tb_1_117 ⟨Nat.le_of_ble_eq_true rfl, Nat.le_of_ble_eq_true rfl⟩ hl.1 rfl (Nat.le_of_ble_eq_true rfl) dX7_init_65 ⟨Nat.le_of_ble_eq_true rfl, Nat.le_of_ble_eq_true rfl⟩ (fun H locs hP hz hS => ?_)
  refine W.widen (k := 134) (n := 5079) (by omega) (by omega) ?_
  have hP := addE_or hP rfl
  have hP : Pw G (addE G (upE E 0 (.inr (7, [.ref (ad G 1), .ref (ad G 6), .ref (ad G 11), .ref (ad G 12), .null, .null, .null, .null, .null, .int 0]))) bs_5) H := hP
  refine cPutF (k := 0) (j := 4) (fs := [.ref (ad G 1), .ref (ad G 6), .ref (ad G 11), .ref (ad G 12), .null, .null, .null, .null, .null, .int 0]) hC hname hG hP hz hS rfl vc_7 iT7 tyX7_ok nmX7 (by decide) tb_1_216 rfl rfl rfl rfl (Nat.le_of_ble_eq_true rfl) dX7_init_68 (fun H locs hP hz hS => ?_)
  have hP := addE_up hP rfl
  have hP : Pw G (addE G (upE E 0 (.inr (7, [.ref (ad G 1), .ref (ad G 6), .ref (ad G 11), .ref (ad G 12), .ref (ad G 13), .null, .null, .null, .null, .int 0]))) bs_5) H := hP
  refine lv_aload_n hx hb dX7_init_71 rfl (lv_at hl 0 rfl) ?_
  refine cNew (k := 18) (ci := 0) (fs := [.null, .null, .null, .int 0, .int 0, .int 0]) hC hG hP hz hS (by decide) rfl vc_0 iT0 tyX0_ok tb_1_144 tb_1_145 tb_1_6 (fun j hj => by rcases (show j = 0 ∨ j = 1 ∨ j = 2 ∨ j = 3 ∨ j = 4 ∨ j = 5 by omega) with rfl | rfl | rfl | rfl | rfl | rfl <;> rfl) (Nat.le_of_ble_eq_true rfl) (Nat.le_of_ble_eq_true rfl) dX7_init_72 (fun H hP hz hS => ?_)
  refine W.widen (k := 135) (n := 5085) (by omega) (by omega) ?_
  refine lv_dup hx hb dX7_init_75 rfl ?_
  refine cCN hAO (k := 18) (As := []) (rest := [.ref (ad G 18), .ref (ad G 0)]) hC hP hz hS (k_X0_init l G sz _ hG rfl) vy_X0_init rfl nw_2 tb_1_147 ⟨Nat.le_of_ble_eq_true rfl, Nat.le_of_ble_eq_true rfl⟩ hl.1 rfl (Nat.le_of_ble_eq_true rfl) dX7_init_76 ⟨Nat.le_of_ble_eq_true rfl, Nat.le_of_ble_eq_true rfl⟩ (fun H locs hP hz hS => ?_)
  refine W.widen (k := 144) (n := 5241) (by omega) (by omega) ?_
  have hP := addE_or hP rfl
  have hP : Pw G (addE G (upE E 0 (.inr (7, [.ref (ad G 1), .ref (ad G 6), .ref (ad G 11), .ref (ad G 12), .ref (ad G 13), .null, .null, .null, .null, .int 0]))) bs_6) H := hP
  refine cPutF (k := 0) (j := 5) (fs := [.ref (ad G 1), .ref (ad G 6), .ref (ad G 11), .ref (ad G 12), .ref (ad G 13), .null, .null, .null, .null, .int 0]) hC hname hG hP hz hS rfl vc_7 iT7 tyX7_ok nmX7 (by decide) tb_1_217 rfl rfl rfl rfl (Nat.le_of_ble_eq_true rfl) dX7_init_79 (fun H locs hP hz hS => ?_)
  have hP := addE_up hP rfl
  have hP : Pw G (addE G (upE E 0 (.inr (7, [.ref (ad G 1), .ref (ad G 6), .ref (ad G 11), .ref (ad G 12), .ref (ad G 13), .ref (ad G 18), .null, .null, .null, .int 0]))) bs_6) H := hP
  refine lv_aload_n hx hb dX7_init_82 rfl (lv_at hl 0 rfl) ?_
  refine cNew (k := 22) (ci := 4) (fs := [.null, .null, .int 0, .int 0, .int 0]) hC hG hP hz hS (by decide) rfl vc_4 iT4 tyX4_ok tb_1_170 tb_1_171 tb_1_7 (fun j hj => by rcases (show j = 0 ∨ j = 1 ∨ j = 2 ∨ j = 3 ∨ j = 4 by omega) with rfl | rfl | rfl | rfl | rfl <;> rfl) (Nat.le_of_ble_eq_true rfl) (Nat.le_of_ble_eq_true rfl) dX7_init_83 (fun H hP hz hS => ?_)
  refine W.widen (k := 145) (n := 5246) (by omega) (by omega) ?_
  refine lv_dup hx hb dX7_init_86 rfl ?_
  refine cCN hAO (k := 22) (As := []) (rest := [.ref (ad G 22), .ref (ad G 0)]) hC hP hz hS (k_X4_init l G sz _ hG rfl) vy_X4_init rfl nw_3 tb_1_173 ⟨Nat.le_of_ble_eq_true rfl, Nat.le_of_ble_eq_true rfl⟩ hl.1 rfl (Nat.le_of_ble_eq_true rfl) dX7_init_87 ⟨Nat.le_of_ble_eq_true rfl, Nat.le_of_ble_eq_true rfl⟩ (fun H locs hP hz hS => ?_)
  refine W.widen (k := 147) (n := 5394) (by omega) (by omega) ?_
  have hP := addE_or hP rfl
  have hP : Pw G (addE G (upE E 0 (.inr (7, [.ref (ad G 1), .ref (ad G 6), .ref (ad G 11), .ref (ad G 12), .ref (ad G 13), .ref (ad G 18), .null, .null, .null, .int 0]))) bs_7) H := hP
  refine cPutF (k := 0) (j := 6) (fs := [.ref (ad G 1), .ref (ad G 6), .ref (ad G 11), .ref (ad G 12), .ref (ad G 13), .ref (ad G 18), .null, .null, .null, .int 0]) hC hname hG hP hz hS rfl vc_7 iT7 tyX7_ok nmX7 (by decide) tb_1_218 rfl rfl rfl rfl (Nat.le_of_ble_eq_true rfl) dX7_init_90 (fun H locs hP hz hS => ?_)
  have hP := addE_up hP rfl
  have hP : Pw G (addE G (upE E 0 (.inr (7, [.ref (ad G 1), .ref (ad G 6), .ref (ad G 11), .ref (ad G 12), .ref (ad G 13), .ref (ad G 18), .ref (ad G 22), .null, .null, .int 0]))) bs_7) H := hP
  refine lv_aload_n hx hb dX7_init_93 rfl (lv_at hl 0 rfl) ?_
  refine cNew (k := 25) (ci := 3) (fs := [.null, .null, .null]) hC hG hP hz hS (by decide) rfl vc_3 iT3 tyX3_ok tb_1_194 tb_1_195 tb_1_8 (fun j hj => by rcases (show j = 0 ∨ j = 1 ∨ j = 2 by omega) with rfl | rfl | rfl <;> rfl) (Nat.le_of_ble_eq_true rfl) (Nat.le_of_ble_eq_true rfl) dX7_init_94 (fun H hP hz hS => ?_)
  refine W.widen (k := 148) (n := 5397) (by omega) (by omega) ?_
  refine lv_dup hx hb dX7_init_97 rfl ?_
  refine cCN hAO (k := 25) (As := []) (rest := [.ref (ad G 25), .ref (ad G 0)]) hC hP hz hS (k_X3_init l G sz _ hG rfl) vy_X3_init rfl nw_4 tb_1_197 ⟨Nat.le_of_ble_eq_true rfl, Nat.le_of_ble_eq_true rfl⟩ hl.1 rfl (Nat.le_of_ble_eq_true rfl) dX7_init_98 ⟨Nat.le_of_ble_eq_true rfl, Nat.le_of_ble_eq_true rfl⟩ (fun H locs hP hz hS => ?_)
  refine W.widen (k := 155) (n := 5505) (by omega) (by omega) ?_
  have hP := addE_or hP rfl
  have hP : Pw G (addE G (upE E 0 (.inr (7, [.ref (ad G 1), .ref (ad G 6), .ref (ad G 11), .ref (ad G 12), .ref (ad G 13), .ref (ad G 18), .ref (ad G 22), .null, .null, .int 0]))) bs_8) H := hP
  refine cPutF (k := 0) (j := 7) (fs := [.ref (ad G 1), .ref (ad G 6), .ref (ad G 11), .ref (ad G 12), .ref (ad G 13), .ref (ad G 18), .ref (ad G 22), .null, .null, .int 0]) hC hname hG hP hz hS rfl vc_7 iT7 tyX7_ok nmX7 (by decide) tb_1_219 rfl rfl rfl rfl (Nat.le_of_ble_eq_true rfl) dX7_init_101 (fun H locs hP hz hS => ?_)
  have hP := addE_up hP rfl
  have hP : Pw G (addE G (upE E 0 (.inr (7, [.ref (ad G 1), .ref (ad G 6), .ref (ad G 11), .ref (ad G 12), .ref (ad G 13), .ref (ad G 18), .ref (ad G 22), .ref (ad G 25), .null, .int 0]))) bs_8) H := hP
  refine lv_aload_n hx hb dX7_init_104 rfl (lv_at hl 0 rfl) ?_
  refine lv_bipush (v := 61) hx hb dX7_init_105 (by decide) ?_
  refine cNewA (atype := .int) (k := 29) (t := 0) (N' := 61) (a0 := (61, .inl (fun _ => 0))) hC hG hP hz hS (by decide) rfl ac_int rfl (fun _ => rfl) (by decide) rfl (by decide +kernel) (by decide +kernel) (by decide +kernel) dX7_init_107 (fun H hP hz hS => ?_)
  refine W.widen (k := 156) (n := 5566) (by omega) (by omega) ?_
  have hP : Pw G (addE G (addE G (upE E 0 (.inr (7, [.ref (ad G 1), .ref (ad G 6), .ref (ad G 11), .ref (ad G 12), .ref (ad G 13), .ref (ad G 18), .ref (ad G 22), .ref (ad G 25), .null, .int 0]))) bs_8) (fun j => j == 29)) H := hP.weak (fun j e hj => by
    by_cases h9 : j = 29
    · subst h9; rw [← hj]; rfl
    · rw [upE_n h9]; unfold addE at hj; rw [if_neg (by simpa using h9)] at hj; exact hj)
  have hP : Pw G (addE G (upE E 0 (.inr (7, [.ref (ad G 1), .ref (ad G 6), .ref (ad G 11), .ref (ad G 12), .ref (ad G 13), .ref (ad G 18), .ref (ad G 22), .ref (ad G 25), .null, .int 0]))) bs_9) H := hP.weak (fun j e hj => by
    unfold addE bs_9 at hj; unfold addE
    try dsimp only at hj
    by_cases h2 : (j == 29) = true
    · rw [if_pos h2]; rw [if_pos (by rw [h2, Bool.or_true])] at hj; exact hj
    · rw [if_neg h2]; have h3 : (j == 29) = false := Bool.eq_false_iff.mpr h2; simp only [h3, Bool.or_false] at hj; exact hj)
  refine cPutF (k := 0) (j := 8) (fs := [.ref (ad G 1), .ref (ad G 6), .ref (ad G 11), .ref (ad G 12), .ref (ad G 13), .ref (ad G 18), .ref (ad G 22), .ref (ad G 25), .null, .int 0]) hC hname hG hP hz hS rfl vc_7 iT7 tyX7_ok nmX7 (by decide) tb_1_220 rfl rfl rfl rfl (Nat.le_of_ble_eq_true rfl) dX7_init_109 (fun H locs hP hz hS => ?_)
  have hP := addE_up hP rfl
  have hP : Pw G (addE G (upE E 0 (.inr (7, [.ref (ad G 1), .ref (ad G 6), .ref (ad G 11), .ref (ad G 12), .ref (ad G 13), .ref (ad G 18), .ref (ad G 22), .ref (ad G 25), .ref (ad G 29), .int 0]))) bs_9) H := hP
  refine lv_aload_n hx hb dX7_init_112 rfl (lv_at hl 0 rfl) ?_
  refine lv_iconst (v := 0) hx hb dX7_init_113 (by decide) ?_
  refine cPut (k := 0) (j := 9) (fs := [.ref (ad G 1), .ref (ad G 6), .ref (ad G 11), .ref (ad G 12), .ref (ad G 13), .ref (ad G 18), .ref (ad G 22), .ref (ad G 25), .ref (ad G 29), .int 0]) hC hG hP hz hS rfl vc_7 iT7 tyX7_ok nmX7 (by decide) tb_1_221 rfl rfl rfl (Nat.le_of_ble_eq_true rfl) dX7_init_114 (fun H locs hP hz hS => ?_)
  have hP := addE_up hP rfl
  have hP : Pw G (addE G (upE E 0 (.inr (7, [.ref (ad G 1), .ref (ad G 6), .ref (ad G 11), .ref (ad G 12), .ref (ad G 13), .ref (ad G 18), .ref (ad G 22), .ref (ad G 25), .ref (ad G 29), .int 0]))) bs_9) H := hP
  refine hQ _ _ _ _ (hP.weak (fun j e hj => ?_)) hz hS dX7_init_117
  unfold addE at hj ⊢
  by_cases h2 : bs_9 j = true
  · rw [if_pos h2]
    rw [if_pos (by unfold b_ship; rw [h2, Bool.or_true])] at hj
    exact hj
  · have h3 : bs_9 j = false := Bool.eq_false_iff.mpr h2
    rw [if_neg h2]
    by_cases h9 : j = 0
    · subst h9; rw [upE_s, ← hj]; rfl
    · rw [upE_n h9]
      rw [if_neg (by unfold b_ship; rw [h3, Bool.or_false]; simpa using h9)] at hj
      exact hj
