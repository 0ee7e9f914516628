section
variable {p : Program} {l : Launch} {e : Env} {s : State} {m : MethodId} {args : Array Value} {below : List Frame} {meth : Method} {c : Code} {Q : State → Prop} {G : GT}

def f_X7_may (S : ST) (x1 : Int32) (x2 : Int32) (x3 : Int32) (x4 : Int32) (x5 : Int32) : Option Int32 := (f_X7_areTwo S x1 x2).bind fun v1 => if v1 = 0 then (some (-1)) else ((f_X1_hasMile S x3).bind fun v2 => if v2 = 0 then (some (-1)) else ((f_X7_isPace x4).bind fun v3 => if v3 = 0 then (some (-1)) else ((f_X7_isPace x5).bind fun v4 => if v4 = 0 then (some (-1)) else ((f_X1_hullOf S x1 1).bind fun v5 => (f_X1_hullOf S x2 1).bind fun v6 => (dv ((x4 + x5) * (x4 + x5)) 20).bind fun v7 => (f_X1_markOf S x3 1).bind fun v8 => if v8 < ((v5 + v6) + v7) then (some 0) else (some 1)))))
set_option maxRecDepth 100000 in
set_option maxHeartbeats 4000000 in
theorem k_X7_may (l : Launch) (G : GT) (S : ST) (x1 : Int32) (x2 : Int32) (x3 : Int32) (x4 : Int32) (x5 : Int32) (r : Int32) (hf : f_X7_may S x1 x2 x3 x4 x5 = some r) : MI l yX7_may cX7_may 7 (some .int) 3 [.ref (ad G 0), .int x1, .int x2, .int x3, .int x4, .int x5] G S r S := by
  rw [f_X7_may] at hf
  refine mkI (own := RX7) (by decide +kernel) rfl rfl (Nat.le_of_ble_eq_true rfl) (fun p e s m args below meth c Q ls hC hP hS hl hQ => ?_)
  have hl : lv_has ls 7 [(0, .ref (ad G 0)), (1, .int x1), (2, .int x2), (3, .int x3), (4, .int x4), (5, .int x5)] := hl
  obtain ⟨hx, hb, hml, hown, hts⟩ := id hC.1
  refine lv_aload_n hx hb dX7_may_0 rfl (lv_at hl 0 rfl) ?_
  refine lv_iload_n hx hb dX7_may_1 rfl (lv_at hl 1 rfl) ?_
  refine lv_iload_n hx hb dX7_may_2 rfl (lv_at hl 2 rfl) ?_
  obtain ⟨v1, hv, hf⟩ := ob_some hf
  refine cI hS (runV hC hP hS (As := [.int x1, .int x2]) (rest := []) (k_X7_areTwo l G S x1 x2 _ hv) vy_X7_areTwo sg_0 vc_7 tb_3_174 tb_3_176 ts_21 ⟨Nat.le_of_ble_eq_true rfl, Nat.le_of_ble_eq_true rfl⟩ rfl hl.1 rfl (Nat.le_of_ble_eq_true rfl) dX7_may_3) (fun H locs hP hS => ?_)
  refine lv_if_eq (tgt := 36) hx hb dX7_may_6 (by decide) (fun hc => ?_) (fun hc => ?_)
  · rw [if_pos hc] at hf
    refine lv_iconst (v := (-1)) hx hb dX7_may_36 (by decide) ?_
    exact retI hQ hf hP hS dX7_may_37
  · rw [if_neg hc] at hf
    refine lv_aload_n hx hb dX7_may_9 rfl (lv_at hl 0 rfl) ?_
    refine gFr hC hP (j := 0) sg_0 vc_7 iT7 (by decide) rfl tb_1_212 dX7_may_10 ?_
    refine lv_iload_n hx hb dX7_may_13 rfl (lv_at hl 3 rfl) ?_
    obtain ⟨v2, hv, hf⟩ := ob_some hf
    refine cI hS (runV hC hP hS (As := [.int x3]) (rest := []) (k_X1_hasMile l G S x3 _ hv) vy_X1_hasMile sg_1 vc_1 tb_2_33 tb_2_34 tb_2_35 ⟨Nat.le_of_ble_eq_true rfl, Nat.le_of_ble_eq_true rfl⟩ rfl hl.1 rfl (Nat.le_of_ble_eq_true rfl) dX7_may_14) (fun H locs hP hS => ?_)
    refine lv_if_eq (tgt := 36) hx hb dX7_may_17 (by decide) (fun hc => ?_) (fun hc => ?_)
    · rw [if_pos hc] at hf
      refine lv_iconst (v := (-1)) hx hb dX7_may_36 (by decide) ?_
      exact retI hQ hf hP hS dX7_may_37
    · rw [if_neg hc] at hf
      refine lv_iload hx hb dX7_may_20 (lv_at hl 4 rfl) ?_
      obtain ⟨v3, hv, hf⟩ := ob_some hf
      refine cI hS (runS hC hP hS (As := [.int x4]) (rest := []) (k_X7_isPace l G S x4 _ hv) vy_X7_isPace tb_2_65 tb_2_66 ⟨Nat.le_of_ble_eq_true rfl, Nat.le_of_ble_eq_true rfl⟩ rfl hl.1 rfl (Nat.le_of_ble_eq_true rfl) dX7_may_22) (fun H locs hP hS => ?_)
      refine lv_if_eq (tgt := 36) hx hb dX7_may_25 (by decide) (fun hc => ?_) (fun hc => ?_)
      · rw [if_pos hc] at hf
        refine lv_iconst (v := (-1)) hx hb dX7_may_36 (by decide) ?_
        exact retI hQ hf hP hS dX7_may_37
      · rw [if_neg hc] at hf
        refine lv_iload hx hb dX7_may_28 (lv_at hl 5 rfl) ?_
        obtain ⟨v4, hv, hf⟩ := ob_some hf
        refine cI hS (runS hC hP hS (As := [.int x5]) (rest := []) (k_X7_isPace l G S x5 _ hv) vy_X7_isPace tb_2_65 tb_2_66 ⟨Nat.le_of_ble_eq_true rfl, Nat.le_of_ble_eq_true rfl⟩ rfl hl.1 rfl (Nat.le_of_ble_eq_true rfl) dX7_may_30) (fun H locs hP hS => ?_)
        refine lv_if_ne (tgt := 38) hx hb dX7_may_33 (by decide) (fun hc => ?_) (fun hc => ?_)
        · rw [if_neg hc] at hf
          refine lv_aload_n hx hb dX7_may_38 rfl (lv_at hl 0 rfl) ?_
          refine gFr hC hP (j := 0) sg_0 vc_7 iT7 (by decide) rfl tb_1_212 dX7_may_39 ?_
          refine lv_iload_n hx hb dX7_may_42 rfl (lv_at hl 1 rfl) ?_
          refine lv_iconst (v := 1) hx hb dX7_may_43 (by decide) ?_
          obtain ⟨v5, hv, hf⟩ := ob_some hf
          refine cI hS (runV hC hP hS (As := [.int x1, .int 1]) (rest := []) (k_X1_hullOf l G S x1 1 _ hv) vy_X1_hullOf sg_1 vc_1 tb_3_155 tb_2_203 tb_2_204 ⟨Nat.le_of_ble_eq_true rfl, Nat.le_of_ble_eq_true rfl⟩ rfl hl.1 rfl (Nat.le_of_ble_eq_true rfl) dX7_may_44) (fun H locs hP hS => ?_)
          refine lv_aload_n hx hb dX7_may_47 rfl (lv_at hl 0 rfl) ?_
          refine gFr hC hP (j := 0) sg_0 vc_7 iT7 (by decide) rfl tb_1_212 dX7_may_48 ?_
          refine lv_iload_n hx hb dX7_may_51 rfl (lv_at hl 2 rfl) ?_
          refine lv_iconst (v := 1) hx hb dX7_may_52 (by decide) ?_
          obtain ⟨v6, hv, hf⟩ := ob_some hf
          refine cI hS (runV hC hP hS (As := [.int x2, .int 1]) (rest := [.int v5]) (k_X1_hullOf l G S x2 1 _ hv) vy_X1_hullOf sg_1 vc_1 tb_3_155 tb_2_203 tb_2_204 ⟨Nat.le_of_ble_eq_true rfl, Nat.le_of_ble_eq_true rfl⟩ rfl hl.1 rfl (Nat.le_of_ble_eq_true rfl) dX7_may_53) (fun H locs hP hS => ?_)
          refine lv_iadd hx hb dX7_may_56 ?_
          refine lv_iload hx hb dX7_may_57 (lv_at hl 4 rfl) ?_
          refine lv_iload hx hb dX7_may_59 (lv_at hl 5 rfl) ?_
          refine lv_iadd hx hb dX7_may_61 ?_
          refine lv_iload hx hb dX7_may_62 (lv_at hl 4 rfl) ?_
          refine lv_iload hx hb dX7_may_64 (lv_at hl 5 rfl) ?_
          refine lv_iadd hx hb dX7_may_66 ?_
          refine lv_imul hx hb dX7_may_67 ?_
          refine lv_bipush (v := 20) hx hb dX7_may_68 (by decide) ?_
          obtain ⟨v7, hv, hf⟩ := ob_some hf
          refine xDv hC hv dX7_may_70 ?_
          refine lv_iadd hx hb dX7_may_71 ?_
          refine lv_istore (lv' := [(6, .int ((v5 + v6) + v7)), (0, .ref (ad G 0)), (1, .int x1), (2, .int x2), (3, .int x3), (4, .int x4), (5, .int x5)]) hx hb dX7_may_72 hl (by decide) rfl (fun ls hl => ?_)
          refine lv_aload_n hx hb dX7_may_74 rfl (lv_at hl 1 rfl) ?_
          refine gFr hC hP (j := 0) sg_0 vc_7 iT7 (by decide) rfl tb_1_212 dX7_may_75 ?_
          refine lv_iload_n hx hb dX7_may_78 rfl (lv_at hl 4 rfl) ?_
          refine lv_iconst (v := 1) hx hb dX7_may_79 (by decide) ?_
          obtain ⟨v8, hv, hf⟩ := ob_some hf
          refine cI hS (runV hC hP hS (As := [.int x3, .int 1]) (rest := []) (k_X1_markOf l G S x3 1 _ hv) vy_X1_markOf sg_1 vc_1 tb_2_42 tb_2_26 tb_2_27 ⟨Nat.le_of_ble_eq_true rfl, Nat.le_of_ble_eq_true rfl⟩ rfl hl.1 rfl (Nat.le_of_ble_eq_true rfl) dX7_may_80) (fun H locs hP hS => ?_)
          refine lv_iload hx hb dX7_may_83 (lv_at hl 0 rfl) ?_
          refine lv_icmp_lt (tgt := 92) hx hb dX7_may_85 (by decide) (fun hc => ?_) (fun hc => ?_)
          · rw [if_pos hc] at hf
            refine lv_iconst (v := 0) hx hb dX7_may_92 (by decide) ?_
            exact retI hQ hf hP hS dX7_may_93
          · rw [if_neg hc] at hf
            refine lv_iconst (v := 1) hx hb dX7_may_88 (by decide) ?_
            refine lv_goto (tgt := 93) hx hb dX7_may_89 (by decide) ?_
            exact retI hQ hf hP hS dX7_may_93
        · rw [if_pos hc] at hf
          refine lv_iconst (v := (-1)) hx hb dX7_may_36 (by decide) ?_
          exact retI hQ hf hP hS dX7_may_37
def f_X7_meet_135 (S : ST)  (k71 : Int32 → Int32 → Int32 → Int32 → Int32 → Option Int32) (x2 : Int32) (x5 : Int32) (x7 : Int32) (x8 : Int32) (x9 : Int32) : Option Int32 := k71 x2 x5 x7 x8 (x9 + 1)
set_option maxRecDepth 100000 in
set_option maxHeartbeats 4000000 in
theorem w_X7_meet_135 {r : Int32} {S : ST} (hC : Cx p m c s args cX7_meet 12 RX7 G) (hQ : KI p l e (rmH 3) s m args below meth c Q cX7_meet G r S) {k71 : Int32 → Int32 → Int32 → Int32 → Int32 → Option Int32} (hk71 : ∀ (x2 : Int32) (x5 : Int32) (x7 : Int32) (x8 : Int32) (x9 : Int32) (H : Heap) (locs : List Loc) (ls : Array Slot), va_P (gD G) vwCl (cells G S) H → va_S (gA G) s.heap H locs → lv_has ls 12 [(0, .ref (ad G 0)), (2, .int x2), (5, .int x5), (7, .int x7), (8, .int x8), (9, .int x9)] → k71 x2 x5 x7 x8 x9 = some r → W p l e (rmH 3) s m args below meth c H locs 0 0 Q (F0 m 71 ls [])) (x2 : Int32) (x5 : Int32) (x7 : Int32) (x8 : Int32) (x9 : Int32) (H : Heap) (locs : List Loc) (ls : Array Slot) (hP : va_P (gD G) vwCl (cells G S) H) (hS : va_S (gA G) s.heap H locs) (hl : lv_has ls 12 [(0, .ref (ad G 0)), (2, .int x2), (5, .int x5), (7, .int x7), (8, .int x8), (9, .int x9)]) (hf : f_X7_meet_135 S k71 x2 x5 x7 x8 x9 = some r) : W p l e (rmH 3) s m args below meth c H locs 0 0 Q (F0 m 135 ls []) := by
  obtain ⟨hx, hb, hml, hown, hts⟩ := id hC.1
  rw [f_X7_meet_135] at hf
  refine lv_iinc (v := x9 + 1) (lv' := [(9, .int (x9 + 1)), (0, .ref (ad G 0)), (2, .int x2), (5, .int x5), (7, .int x7), (8, .int x8)]) hx hb dX7_meet_135 hl (k := 5) rfl rfl (by decide) rfl (fun ls hl => ?_)
  refine lv_goto (tgt := 71) hx hb dX7_meet_138 (by decide) ?_
  exact hk71 _ _ _ _ _ _ _ _ hP hS (lv_sub hl [1, 2, 3, 4, 5, 0] rfl) hf
def f_X7_meet_71 (S : ST)  : Nat → Int32 → Int32 → Int32 → Int32 → Int32 → Option Int32
  | 0, _, _, _, _, _ => none
  | n + 1, x2, x5, x7, x8, x9 => if (S.1 1 0) ≤ x9 then (some (-4)) else (if ((x5 + ((((S.1 1 0) - 1) - x9) * x8)) + x8) ≤ (x2 + (x9 * x7)) then (f_X7_meet_135 S (f_X7_meet_71 S n) x2 x5 x7 x8 x9) else (if ((x2 + (x9 * x7)) + x7) ≤ (x5 + ((((S.1 1 0) - 1) - x9) * x8)) then (f_X7_meet_135 S (f_X7_meet_71 S n) x2 x5 x7 x8 x9) else (some x9)))
set_option maxRecDepth 100000 in
set_option maxHeartbeats 4000000 in
theorem w_X7_meet_71 {r : Int32} {S : ST} (hC : Cx p m c s args cX7_meet 12 RX7 G) (hQ : KI p l e (rmH 3) s m args below meth c Q cX7_meet G r S) : ∀ (n : Nat) (x2 : Int32) (x5 : Int32) (x7 : Int32) (x8 : Int32) (x9 : Int32) (H : Heap) (locs : List Loc) (ls : Array Slot), va_P (gD G) vwCl (cells G S) H → va_S (gA G) s.heap H locs → lv_has ls 12 [(0, .ref (ad G 0)), (2, .int x2), (5, .int x5), (7, .int x7), (8, .int x8), (9, .int x9)] → f_X7_meet_71 S n x2 x5 x7 x8 x9 = some r → W p l e (rmH 3) s m args below meth c H locs 0 0 Q (F0 m 71 ls []) := by
  obtain ⟨hx, hb, hml, hown, hts⟩ := id hC.1
  intro n
  induction n with
  | zero => intro x2 x5 x7 x8 x9 H locs ls hP hS hl hf; rw [f_X7_meet_71] at hf; cases hf
  | succ n ih =>
    intro x2 x5 x7 x8 x9 H locs ls hP hS hl hf
    rw [f_X7_meet_71] at hf
    refine lv_iload hx hb dX7_meet_71 (lv_at hl 5 rfl) ?_
    refine lv_aload_n hx hb dX7_meet_73 rfl (lv_at hl 0 rfl) ?_
    refine gFr hC hP (j := 0) sg_0 vc_7 iT7 (by decide) rfl tb_1_212 dX7_meet_74 ?_
    refine gFi hC hP (j := 0) sg_1 vc_1 iT1 (by decide) rfl tb_1_31 dX7_meet_77 ?_
    refine lv_icmp_ge (tgt := 141) hx hb dX7_meet_80 (by decide) (fun hc => ?_) (fun hc => ?_)
    · rw [if_pos hc] at hf
      refine lv_bipush (v := (-4)) hx hb dX7_meet_141 (by decide) ?_
      exact retI hQ hf hP hS dX7_meet_143
    · rw [if_neg hc] at hf
      refine lv_iload_n hx hb dX7_meet_83 rfl (lv_at hl 1 rfl) ?_
      refine lv_iload hx hb dX7_meet_84 (lv_at hl 5 rfl) ?_
      refine lv_iload hx hb dX7_meet_86 (lv_at hl 3 rfl) ?_
      refine lv_imul hx hb dX7_meet_88 ?_
      refine lv_iadd hx hb dX7_meet_89 ?_
      refine lv_istore (lv' := [(10, .int (x2 + (x9 * x7))), (0, .ref (ad G 0)), (2, .int x2), (5, .int x5), (7, .int x7), (8, .int x8), (9, .int x9)]) hx hb dX7_meet_90 hl (by decide) rfl (fun ls hl => ?_)
      refine lv_iload hx hb dX7_meet_92 (lv_at hl 3 rfl) ?_
      refine lv_aload_n hx hb dX7_meet_94 rfl (lv_at hl 1 rfl) ?_
      refine gFr hC hP (j := 0) sg_0 vc_7 iT7 (by decide) rfl tb_1_212 dX7_meet_95 ?_
      refine gFi hC hP (j := 0) sg_1 vc_1 iT1 (by decide) rfl tb_1_31 dX7_meet_98 ?_
      refine lv_iconst (v := 1) hx hb dX7_meet_101 (by decide) ?_
      refine lv_isub hx hb dX7_meet_102 ?_
      refine lv_iload hx hb dX7_meet_103 (lv_at hl 6 rfl) ?_
      refine lv_isub hx hb dX7_meet_105 ?_
      refine lv_iload hx hb dX7_meet_106 (lv_at hl 5 rfl) ?_
      refine lv_imul hx hb dX7_meet_108 ?_
      refine lv_iadd hx hb dX7_meet_109 ?_
      refine lv_istore (lv' := [(11, .int (x5 + ((((S.1 1 0) - 1) - x9) * x8))), (10, .int (x2 + (x9 * x7))), (0, .ref (ad G 0)), (2, .int x2), (5, .int x5), (7, .int x7), (8, .int x8), (9, .int x9)]) hx hb dX7_meet_110 hl (by decide) rfl (fun ls hl => ?_)
      refine lv_iload hx hb dX7_meet_112 (lv_at hl 1 rfl) ?_
      refine lv_iload hx hb dX7_meet_114 (lv_at hl 0 rfl) ?_
      refine lv_iload hx hb dX7_meet_116 (lv_at hl 6 rfl) ?_
      refine lv_iadd hx hb dX7_meet_118 ?_
      refine lv_icmp_ge (tgt := 135) hx hb dX7_meet_119 (by decide) (fun hc => ?_) (fun hc => ?_)
      · rw [if_pos hc] at hf
        exact w_X7_meet_135 hC hQ ih  _ _ _ _ _ _ _ _ hP hS (lv_sub hl [2, 3, 4, 5, 6, 7] rfl) hf
      · rw [if_neg hc] at hf
        refine lv_iload hx hb dX7_meet_122 (lv_at hl 0 rfl) ?_
        refine lv_iload hx hb dX7_meet_124 (lv_at hl 1 rfl) ?_
        refine lv_iload hx hb dX7_meet_126 (lv_at hl 5 rfl) ?_
        refine lv_iadd hx hb dX7_meet_128 ?_
        refine lv_icmp_ge (tgt := 135) hx hb dX7_meet_129 (by decide) (fun hc => ?_) (fun hc => ?_)
        · rw [if_pos hc] at hf
          exact w_X7_meet_135 hC hQ ih  _ _ _ _ _ _ _ _ hP hS (lv_sub hl [2, 3, 4, 5, 6, 7] rfl) hf
        · rw [if_neg hc] at hf
          refine lv_iload hx hb dX7_meet_132 (lv_at hl 7 rfl) ?_
          exact retI hQ hf hP hS dX7_meet_134
def f_X7_meet (S : ST) (x1 : Int32) (x2 : Int32) (x3 : Int32) (x4 : Int32) (x5 : Int32) (x6 : Int32) : Option Int32 := (f_X7_areTwo S x1 x4).bind fun v1 => if v1 = 0 then (some (-1)) else ((f_X7_isMinute x2).bind fun v2 => if v2 = 0 then (some (-1)) else ((f_X7_isPace x3).bind fun v3 => if v3 = 0 then (some (-1)) else ((f_X7_isMinute x5).bind fun v4 => if v4 = 0 then (some (-1)) else ((f_X7_isPace x6).bind fun v5 => if v5 = 0 then (some (-1)) else (if (S.1 1 0) = 0 then (some (-2)) else ((f_X7_minutesBy x3).bind fun v6 => (f_X7_minutesBy x6).bind fun v7 => f_X7_meet_71 S FU x2 x5 v6 v7 0))))))
set_option maxRecDepth 100000 in
set_option maxHeartbeats 4000000 in
theorem k_X7_meet (l : Launch) (G : GT) (S : ST) (x1 : Int32) (x2 : Int32) (x3 : Int32) (x4 : Int32) (x5 : Int32) (x6 : Int32) (r : Int32) (hf : f_X7_meet S x1 x2 x3 x4 x5 x6 = some r) : MI l yX7_meet cX7_meet 12 (some .int) 3 [.ref (ad G 0), .int x1, .int x2, .int x3, .int x4, .int x5, .int x6] G S r S := by
  rw [f_X7_meet] at hf
  refine mkI (own := RX7) (by decide +kernel) rfl rfl (Nat.le_of_ble_eq_true rfl) (fun p e s m args below meth c Q ls hC hP hS hl hQ => ?_)
  have hl : lv_has ls 12 [(0, .ref (ad G 0)), (1, .int x1), (2, .int x2), (3, .int x3), (4, .int x4), (5, .int x5), (6, .int x6)] := hl
  obtain ⟨hx, hb, hml, hown, hts⟩ := id hC.1
  refine lv_aload_n hx hb dX7_meet_0 rfl (lv_at hl 0 rfl) ?_
  refine lv_iload_n hx hb dX7_meet_1 rfl (lv_at hl 1 rfl) ?_
  refine lv_iload hx hb dX7_meet_2 (lv_at hl 4 rfl) ?_
  obtain ⟨v1, hv, hf⟩ := ob_some hf
  refine cI hS (runV hC hP hS (As := [.int x1, .int x4]) (rest := []) (k_X7_areTwo l G S x1 x4 _ hv) vy_X7_areTwo sg_0 vc_7 tb_3_174 tb_3_176 ts_21 ⟨Nat.le_of_ble_eq_true rfl, Nat.le_of_ble_eq_true rfl⟩ rfl hl.1 rfl (Nat.le_of_ble_eq_true rfl) dX7_meet_4) (fun H locs hP hS => ?_)
  refine lv_if_eq (tgt := 40) hx hb dX7_meet_7 (by decide) (fun hc => ?_) (fun hc => ?_)
  · rw [if_pos hc] at hf
    refine lv_iconst (v := (-1)) hx hb dX7_meet_40 (by decide) ?_
    exact retI hQ hf hP hS dX7_meet_41
  · rw [if_neg hc] at hf
    refine lv_iload_n hx hb dX7_meet_10 rfl (lv_at hl 2 rfl) ?_
    obtain ⟨v2, hv, hf⟩ := ob_some hf
    refine cI hS (runS hC hP hS (As := [.int x2]) (rest := []) (k_X7_isMinute l G S x2 _ hv) vy_X7_isMinute tb_3_15 tb_3_16 ⟨Nat.le_of_ble_eq_true rfl, Nat.le_of_ble_eq_true rfl⟩ rfl hl.1 rfl (Nat.le_of_ble_eq_true rfl) dX7_meet_11) (fun H locs hP hS => ?_)
    refine lv_if_eq (tgt := 40) hx hb dX7_meet_14 (by decide) (fun hc => ?_) (fun hc => ?_)
    · rw [if_pos hc] at hf
      refine lv_iconst (v := (-1)) hx hb dX7_meet_40 (by decide) ?_
      exact retI hQ hf hP hS dX7_meet_41
    · rw [if_neg hc] at hf
      refine lv_iload_n hx hb dX7_meet_17 rfl (lv_at hl 3 rfl) ?_
      obtain ⟨v3, hv, hf⟩ := ob_some hf
      refine cI hS (runS hC hP hS (As := [.int x3]) (rest := []) (k_X7_isPace l G S x3 _ hv) vy_X7_isPace tb_2_65 tb_2_66 ⟨Nat.le_of_ble_eq_true rfl, Nat.le_of_ble_eq_true rfl⟩ rfl hl.1 rfl (Nat.le_of_ble_eq_true rfl) dX7_meet_18) (fun H locs hP hS => ?_)
      refine lv_if_eq (tgt := 40) hx hb dX7_meet_21 (by decide) (fun hc => ?_) (fun hc => ?_)
      · rw [if_pos hc] at hf
        refine lv_iconst (v := (-1)) hx hb dX7_meet_40 (by decide) ?_
        exact retI hQ hf hP hS dX7_meet_41
      · rw [if_neg hc] at hf
        refine lv_iload hx hb dX7_meet_24 (lv_at hl 5 rfl) ?_
        obtain ⟨v4, hv, hf⟩ := ob_some hf
        refine cI hS (runS hC hP hS (As := [.int x5]) (rest := []) (k_X7_isMinute l G S x5 _ hv) vy_X7_isMinute tb_3_15 tb_3_16 ⟨Nat.le_of_ble_eq_true rfl, Nat.le_of_ble_eq_true rfl⟩ rfl hl.1 rfl (Nat.le_of_ble_eq_true rfl) dX7_meet_26) (fun H locs hP hS => ?_)
        refine lv_if_eq (tgt := 40) hx hb dX7_meet_29 (by decide) (fun hc => ?_) (fun hc => ?_)
        · rw [if_pos hc] at hf
          refine lv_iconst (v := (-1)) hx hb dX7_meet_40 (by decide) ?_
          exact retI hQ hf hP hS dX7_meet_41
        · rw [if_neg hc] at hf
          refine lv_iload hx hb dX7_meet_32 (lv_at hl 6 rfl) ?_
          obtain ⟨v5, hv, hf⟩ := ob_some hf
          refine cI hS (runS hC hP hS (As := [.int x6]) (rest := []) (k_X7_isPace l G S x6 _ hv) vy_X7_isPace tb_2_65 tb_2_66 ⟨Nat.le_of_ble_eq_true rfl, Nat.le_of_ble_eq_true rfl⟩ rfl hl.1 rfl (Nat.le_of_ble_eq_true rfl) dX7_meet_34) (fun H locs hP hS => ?_)
          refine lv_if_ne (tgt := 42) hx hb dX7_meet_37 (by decide) (fun hc => ?_) (fun hc => ?_)
          · rw [if_neg hc] at hf
            refine lv_aload_n hx hb dX7_meet_42 rfl (lv_at hl 0 rfl) ?_
            refine gFr hC hP (j := 0) sg_0 vc_7 iT7 (by decide) rfl tb_1_212 dX7_meet_43 ?_
            refine gFi hC hP (j := 0) sg_1 vc_1 iT1 (by decide) rfl tb_1_31 dX7_meet_46 ?_
            refine lv_if_ne (tgt := 55) hx hb dX7_meet_49 (by decide) (fun hc => ?_) (fun hc => ?_)
            · rw [if_neg hc] at hf
              refine lv_iload_n hx hb dX7_meet_55 rfl (lv_at hl 3 rfl) ?_
              obtain ⟨v6, hv, hf⟩ := ob_some hf
              refine cI hS (runS hC hP hS (As := [.int x3]) (rest := []) (k_X7_minutesBy l G S x3 _ hv) vy_X7_minutesBy tb_3_182 tb_3_28 ⟨Nat.le_of_ble_eq_true rfl, Nat.le_of_ble_eq_true rfl⟩ rfl hl.1 rfl (Nat.le_of_ble_eq_true rfl) dX7_meet_56) (fun H locs hP hS => ?_)
              refine lv_istore (lv' := [(7, .int v6), (0, .ref (ad G 0)), (1, .int x1), (2, .int x2), (3, .int x3), (4, .int x4), (5, .int x5), (6, .int x6)]) hx hb dX7_meet_59 hl (by decide) rfl (fun ls hl => ?_)
              refine lv_iload hx hb dX7_meet_61 (lv_at hl 7 rfl) ?_
              obtain ⟨v7, hv, hf⟩ := ob_some hf
              refine cI hS (runS hC hP hS (As := [.int x6]) (rest := []) (k_X7_minutesBy l G S x6 _ hv) vy_X7_minutesBy tb_3_182 tb_3_28 ⟨Nat.le_of_ble_eq_true rfl, Nat.le_of_ble_eq_true rfl⟩ rfl hl.1 rfl (Nat.le_of_ble_eq_true rfl) dX7_meet_63) (fun H locs hP hS => ?_)
              refine lv_istore (lv' := [(8, .int v7), (7, .int v6), (0, .ref (ad G 0)), (1, .int x1), (2, .int x2), (3, .int x3), (4, .int x4), (5, .int x5), (6, .int x6)]) hx hb dX7_meet_66 hl (by decide) rfl (fun ls hl => ?_)
              refine lv_iconst (v := 0) hx hb dX7_meet_68 (by decide) ?_
              refine lv_istore (lv' := [(9, .int 0), (8, .int v7), (7, .int v6), (0, .ref (ad G 0)), (1, .int x1), (2, .int x2), (3, .int x3), (4, .int x4), (5, .int x5), (6, .int x6)]) hx hb dX7_meet_69 hl (by decide) rfl (fun ls hl => ?_)
              exact w_X7_meet_71 hC hQ _ _ _ _ _ _ _ _ _ hP hS (lv_sub hl [3, 5, 8, 2, 1, 0] rfl) hf
            · rw [if_pos hc] at hf
              refine lv_bipush (v := (-2)) hx hb dX7_meet_52 (by decide) ?_
              exact retI hQ hf hP hS dX7_meet_54
          · rw [if_pos hc] at hf
            refine lv_iconst (v := (-1)) hx hb dX7_meet_40 (by decide) ?_
            exact retI hQ hf hP hS dX7_meet_41
def f_X0_keepBetter (S : ST) (x1 : Int32) (x2 : Int32) : Option ST := if (S.1 18 4) ≤ x2 then (some S) else ((cpy (sI (sI S 18 4 x2) 18 3 x1) 20 0 21 0 6).bind fun S1 => some S1)
set_option maxRecDepth 100000 in
set_option maxHeartbeats 4000000 in
theorem k_X0_keepBetter (l : Launch) (G : GT) (S : ST) (x1 : Int32) (x2 : Int32) (S' : ST) (hf : f_X0_keepBetter S x1 x2 = some S') : MV l yX0_keepBetter cX0_keepBetter 3 1 [.ref (ad G 18), .int x1, .int x2] G S S' := by
  rw [f_X0_keepBetter] at hf
  refine mkV (own := RX0) (by decide +kernel) rfl (Nat.le_of_ble_eq_true rfl) (fun p e s m args below meth c Q ls hC hP hS hl hQ => ?_)
  have hl : lv_has ls 3 [(0, .ref (ad G 18)), (1, .int x1), (2, .int x2)] := hl
  obtain ⟨hx, hb, hml, hown, hts⟩ := id hC.1
  refine lv_iload_n hx hb dX0_keepBetter_0 rfl (lv_at hl 2 rfl) ?_
  refine lv_aload_n hx hb dX0_keepBetter_1 rfl (lv_at hl 0 rfl) ?_
  refine gFi hC hP (j := 4) sg_18 vc_0 iT0 (by decide) rfl tb_1_155 dX0_keepBetter_2 ?_
  refine lv_icmp_ge (tgt := 33) hx hb dX0_keepBetter_5 (by decide) (fun hc => ?_) (fun hc => ?_)
  · rw [if_pos hc] at hf
    exact retV hQ hf hP hS dX0_keepBetter_33
  · rw [if_neg hc] at hf
    refine lv_aload_n hx hb dX0_keepBetter_8 rfl (lv_at hl 0 rfl) ?_
    refine lv_iload_n hx hb dX0_keepBetter_9 rfl (lv_at hl 2 rfl) ?_
    refine pFi hC hP hS (j := 4) sg_18 vc_0 iT0 tyX0_ok nmX0 (by decide) rfl tb_1_155 rfl rfl rfl dX0_keepBetter_10 (fun H locs hP hS => ?_)
    refine lv_aload_n hx hb dX0_keepBetter_13 rfl (lv_at hl 0 rfl) ?_
    refine lv_iload_n hx hb dX0_keepBetter_14 rfl (lv_at hl 1 rfl) ?_
    refine pFi hC hP hS (j := 3) sg_18 vc_0 iT0 tyX0_ok nmX0 (by decide) rfl tb_1_154 rfl rfl rfl dX0_keepBetter_15 (fun H locs hP hS => ?_)
    refine lv_aload_n hx hb dX0_keepBetter_18 rfl (lv_at hl 0 rfl) ?_
    refine gFr hC hP (j := 1) sg_18 vc_0 iT0 (by decide) rfl tb_1_152 dX0_keepBetter_19 ?_
    refine lv_iconst (v := 0) hx hb dX0_keepBetter_22 (by decide) ?_
    refine lv_aload_n hx hb dX0_keepBetter_23 rfl (lv_at hl 0 rfl) ?_
    refine gFr hC hP (j := 2) sg_18 vc_0 iT0 (by decide) rfl tb_1_153 dX0_keepBetter_24 ?_
    refine lv_iconst (v := 0) hx hb dX0_keepBetter_27 (by decide) ?_
    refine lv_bipush (v := 6) hx hb dX0_keepBetter_28 (by decide) ?_
    obtain ⟨S1, hv, hf⟩ := ob_some hf
    refine sCp hC hP hS (rest := []) hv hl.1 tb_3_200 tb_2_141 tb_2_140 tb_1_11 ⟨Nat.le_of_ble_eq_true rfl, Nat.le_of_ble_eq_true rfl⟩ dX0_keepBetter_30 (fun H locs hP hS => ?_)
    exact retV hQ hf hP hS dX0_keepBetter_33
def f_X0_tryNext_98  (kr : ST → Int32 → Int32 → Int32 → Int32 → Option ST) (k22 : ST → Int32 → Int32 → Int32 → Int32 → Int32 → Option ST) (S : ST) (x1 : Int32) (x2 : Int32) (x3 : Int32) (x4 : Int32) (x5 : Int32) : Option ST := k22 S x1 x2 x3 x4 (x5 + 1)
set_option maxRecDepth 100000 in
set_option maxHeartbeats 4000000 in
theorem w_X0_tryNext_98 {kr : ST → Int32 → Int32 → Int32 → Int32 → Option ST} {dd : Nat} (hdd : 4 ≤ dd) {S' : ST} (hC : Cx p m c s args cX0_tryNext 7 RX0 G) (hQ : KV p l e (rmH (dd + 1)) s m args below meth c Q cX0_tryNext G S') (hkr : ∀ (S : ST) (x1 : Int32) (x2 : Int32) (x3 : Int32) (x4 : Int32) (S' : ST), kr S x1 x2 x3 x4 = some S' → MV l yX0_tryNext cX0_tryNext 7 dd [.ref (ad G 18), .int x1, .int x2, .int x3, .int x4] G S S') {k22 : ST → Int32 → Int32 → Int32 → Int32 → Int32 → Option ST} (hk22 : ∀ (S : ST) (x1 : Int32) (x2 : Int32) (x3 : Int32) (x4 : Int32) (x5 : Int32) (H : Heap) (locs : List Loc) (ls : Array Slot), va_P (gD G) vwCl (cells G S) H → va_S (gA G) s.heap H locs → lv_has ls 7 [(0, .ref (ad G 18)), (1, .int x1), (2, .int x2), (3, .int x3), (4, .int x4), (5, .int x5)] → k22 S x1 x2 x3 x4 x5 = some S' → W p l e (rmH (dd + 1)) s m args below meth c H locs 0 0 Q (F0 m 22 ls [])) (S : ST) (x1 : Int32) (x2 : Int32) (x3 : Int32) (x4 : Int32) (x5 : Int32) (H : Heap) (locs : List Loc) (ls : Array Slot) (hP : va_P (gD G) vwCl (cells G S) H) (hS : va_S (gA G) s.heap H locs) (hl : lv_has ls 7 [(0, .ref (ad G 18)), (1, .int x1), (2, .int x2), (3, .int x3), (4, .int x4), (5, .int x5)]) (hf : f_X0_tryNext_98 kr k22 S x1 x2 x3 x4 x5 = some S') : W p l e (rmH (dd + 1)) s m args below meth c H locs 0 0 Q (F0 m 98 ls []) := by
  obtain ⟨hx, hb, hml, hown, hts⟩ := id hC.1
  rw [f_X0_tryNext_98] at hf
  refine lv_iinc (v := x5 + 1) (lv' := [(5, .int (x5 + 1)), (0, .ref (ad G 18)), (1, .int x1), (2, .int x2), (3, .int x3), (4, .int x4)]) hx hb dX0_tryNext_98 hl (k := 5) rfl rfl (by decide) rfl (fun ls hl => ?_)
  refine lv_goto (tgt := 22) hx hb dX0_tryNext_101 (by decide) ?_
  exact hk22 _ _ _ _ _ _ _ _ _ hP hS (lv_sub hl [1, 2, 3, 4, 5, 0] rfl) hf
def f_X0_tryNext_54  (kr : ST → Int32 → Int32 → Int32 → Int32 → Option ST) (k22 : ST → Int32 → Int32 → Int32 → Int32 → Int32 → Option ST) (S : ST) (x1 : Int32) (x2 : Int32) (x3 : Int32) (x4 : Int32) (x5 : Int32) (y0 : Int32) : Option ST := if y0 = (-4) then (f_X0_tryNext_98 kr k22 S x1 x2 x3 x4 x5) else ((wI S 20 x1 x5).bind fun S1 => (kr S1 (x1 + 1) (x2 &&& ((1 <<< (x5 &&& 31)) ^^^ (-1))) (y0 + (S1.1 18 5)) (x4 + y0)).bind fun S2 => f_X0_tryNext_98 kr k22 S2 x1 x2 x3 x4 x5)
set_option maxRecDepth 100000 in
set_option maxHeartbeats 4000000 in
theorem w_X0_tryNext_54 {kr : ST → Int32 → Int32 → Int32 → Int32 → Option ST} {dd : Nat} (hdd : 4 ≤ dd) {S' : ST} (hC : Cx p m c s args cX0_tryNext 7 RX0 G) (hQ : KV p l e (rmH (dd + 1)) s m args below meth c Q cX0_tryNext G S') (hkr : ∀ (S : ST) (x1 : Int32) (x2 : Int32) (x3 : Int32) (x4 : Int32) (S' : ST), kr S x1 x2 x3 x4 = some S' → MV l yX0_tryNext cX0_tryNext 7 dd [.ref (ad G 18), .int x1, .int x2, .int x3, .int x4] G S S') {k22 : ST → Int32 → Int32 → Int32 → Int32 → Int32 → Option ST} (hk22 : ∀ (S : ST) (x1 : Int32) (x2 : Int32) (x3 : Int32) (x4 : Int32) (x5 : Int32) (H : Heap) (locs : List Loc) (ls : Array Slot), va_P (gD G) vwCl (cells G S) H → va_S (gA G) s.heap H locs → lv_has ls 7 [(0, .ref (ad G 18)), (1, .int x1), (2, .int x2), (3, .int x3), (4, .int x4), (5, .int x5)] → k22 S x1 x2 x3 x4 x5 = some S' → W p l e (rmH (dd + 1)) s m args below meth c H locs 0 0 Q (F0 m 22 ls [])) (S : ST) (x1 : Int32) (x2 : Int32) (x3 : Int32) (x4 : Int32) (x5 : Int32) (y0 : Int32) (H : Heap) (locs : List Loc) (ls : Array Slot) (hP : va_P (gD G) vwCl (cells G S) H) (hS : va_S (gA G) s.heap H locs) (hl : lv_has ls 7 [(0, .ref (ad G 18)), (1, .int x1), (2, .int x2), (3, .int x3), (4, .int x4), (5, .int x5)]) (hf : f_X0_tryNext_54 kr k22 S x1 x2 x3 x4 x5 y0 = some S') : W p l e (rmH (dd + 1)) s m args below meth c H locs 0 0 Q (F0 m 54 ls [.int y0]) := by
  obtain ⟨hx, hb, hml, hown, hts⟩ := id hC.1
  rw [f_X0_tryNext_54] at hf
  refine lv_istore (lv' := [(6, .int y0), (0, .ref (ad G 18)), (1, .int x1), (2, .int x2), (3, .int x3), (4, .int x4), (5, .int x5)]) hx hb dX0_tryNext_54 hl (by decide) rfl (fun ls hl => ?_)
  refine lv_iload hx hb dX0_tryNext_56 (lv_at hl 0 rfl) ?_
  refine lv_bipush (v := (-4)) hx hb dX0_tryNext_58 (by decide) ?_
  refine lv_icmp_eq (tgt := 98) hx hb dX0_tryNext_60 (by decide) (fun hc => ?_) (fun hc => ?_)
  · rw [if_pos hc] at hf
    exact w_X0_tryNext_98 hdd hC hQ hkr hk22  _ _ _ _ _ _ _ _ _ hP hS (lv_sub hl [1, 2, 3, 4, 5, 6] rfl) hf
  · rw [if_neg hc] at hf
    refine lv_aload_n hx hb dX0_tryNext_63 rfl (lv_at hl 1 rfl) ?_
    refine gFr hC hP (j := 1) sg_18 vc_0 iT0 (by decide) rfl tb_1_152 dX0_tryNext_64 ?_
    refine lv_iload_n hx hb dX0_tryNext_67 rfl (lv_at hl 2 rfl) ?_
    refine lv_iload hx hb dX0_tryNext_68 (lv_at hl 6 rfl) ?_
    obtain ⟨S1, hv, hf⟩ := ob_some hf
    refine sIa hC hP hS hv dX0_tryNext_70 (fun H locs hP hS => ?_)
    refine lv_aload_n hx hb dX0_tryNext_71 rfl (lv_at hl 1 rfl) ?_
    refine lv_iload_n hx hb dX0_tryNext_72 rfl (lv_at hl 2 rfl) ?_
    refine lv_iconst (v := 1) hx hb dX0_tryNext_73 (by decide) ?_
    refine lv_iadd hx hb dX0_tryNext_74 ?_
    refine lv_iload_n hx hb dX0_tryNext_75 rfl (lv_at hl 3 rfl) ?_
    refine lv_iconst (v := 1) hx hb dX0_tryNext_76 (by decide) ?_
    refine lv_iload hx hb dX0_tryNext_77 (lv_at hl 6 rfl) ?_
    refine lv_ishl hx hb dX0_tryNext_79 ?_
    refine lv_iconst (v := (-1)) hx hb dX0_tryNext_80 (by decide) ?_
    refine lv_ixor hx hb dX0_tryNext_81 ?_
    refine lv_iand hx hb dX0_tryNext_82 ?_
    refine lv_iload hx hb dX0_tryNext_83 (lv_at hl 0 rfl) ?_
    refine lv_aload_n hx hb dX0_tryNext_85 rfl (lv_at hl 1 rfl) ?_
    refine gFi hC hP (j := 5) sg_18 vc_0 iT0 (by decide) rfl tb_1_156 dX0_tryNext_86 ?_
    refine lv_iadd hx hb dX0_tryNext_89 ?_
    refine lv_iload hx hb dX0_tryNext_90 (lv_at hl 5 rfl) ?_
    refine lv_iload hx hb dX0_tryNext_92 (lv_at hl 0 rfl) ?_
    refine lv_iadd hx hb dX0_tryNext_94 ?_
    obtain ⟨S2, hv, hf⟩ := ob_some hf
    refine cV hS (runV hC hP hS (As := [.int (x1 + 1), .int (x2 &&& ((1 <<< (x5 &&& 31)) ^^^ (-1))), .int (y0 + (S1.1 18 5)), .int (x4 + y0)]) (rest := []) (hkr _ _ _ _ _ _ hv) vy_X0_tryNext sg_18 vc_0 tb_3_192 tb_3_194 ts_22 (by show _ ∧ _; simp only [rmH]; omega) rfl hl.1 rfl (Nat.le_of_ble_eq_true rfl) dX0_tryNext_95) (fun H locs hP hS => ?_)
    exact w_X0_tryNext_98 hdd hC hQ hkr hk22  _ _ _ _ _ _ _ _ _ hP hS (lv_sub hl [1, 2, 3, 4, 5, 6] rfl) hf
def f_X0_tryNext_22  (kr : ST → Int32 → Int32 → Int32 → Int32 → Option ST) : Nat → ST → Int32 → Int32 → Int32 → Int32 → Int32 → Option ST
  | 0, _, _, _, _, _, _ => none
  | n + 1, S, x1, x2, x3, x4, x5 => if 6 ≤ x5 then (some S) else (if ((x2 >>> (x5 &&& 31)) &&& 1) = 0 then (f_X0_tryNext_54 kr (f_X0_tryNext_22 kr n) S x1 x2 x3 x4 x5 (-4)) else ((rA 4 19 x5).bind fun v1 => (f_X7_firstFrom S v1 x3).bind fun v2 => f_X0_tryNext_54 kr (f_X0_tryNext_22 kr n) S x1 x2 x3 x4 x5 v2))
set_option maxRecDepth 100000 in
set_option maxHeartbeats 4000000 in
theorem w_X0_tryNext_22 {kr : ST → Int32 → Int32 → Int32 → Int32 → Option ST} {dd : Nat} (hdd : 4 ≤ dd) {S' : ST} (hC : Cx p m c s args cX0_tryNext 7 RX0 G) (hQ : KV p l e (rmH (dd + 1)) s m args below meth c Q cX0_tryNext G S') (hkr : ∀ (S : ST) (x1 : Int32) (x2 : Int32) (x3 : Int32) (x4 : Int32) (S' : ST), kr S x1 x2 x3 x4 = some S' → MV l yX0_tryNext cX0_tryNext 7 dd [.ref (ad G 18), .int x1, .int x2, .int x3, .int x4] G S S') : ∀ (n : Nat) (S : ST) (x1 : Int32) (x2 : Int32) (x3 : Int32) (x4 : Int32) (x5 : Int32) (H : Heap) (locs : List Loc) (ls : Array Slot), va_P (gD G) vwCl (cells G S) H → va_S (gA G) s.heap H locs → lv_has ls 7 [(0, .ref (ad G 18)), (1, .int x1), (2, .int x2), (3, .int x3), (4, .int x4), (5, .int x5)] → f_X0_tryNext_22 kr n S x1 x2 x3 x4 x5 = some S' → W p l e (rmH (dd + 1)) s m args below meth c H locs 0 0 Q (F0 m 22 ls []) := by
  obtain ⟨hx, hb, hml, hown, hts⟩ := id hC.1
  intro n
  induction n with
  | zero => intro S x1 x2 x3 x4 x5 H locs ls hP hS hl hf; rw [f_X0_tryNext_22] at hf; cases hf
  | succ n ih =>
    intro S x1 x2 x3 x4 x5 H locs ls hP hS hl hf
    rw [f_X0_tryNext_22] at hf
    refine lv_iload hx hb dX0_tryNext_22 (lv_at hl 5 rfl) ?_
    refine lv_bipush (v := 6) hx hb dX0_tryNext_24 (by decide) ?_
    refine lv_icmp_ge (tgt := 104) hx hb dX0_tryNext_26 (by decide) (fun hc => ?_) (fun hc => ?_)
    · rw [if_pos hc] at hf
      exact retV hQ hf hP hS dX0_tryNext_104
    · rw [if_neg hc] at hf
      refine lv_iload_n hx hb dX0_tryNext_29 rfl (lv_at hl 2 rfl) ?_
      refine lv_iload hx hb dX0_tryNext_30 (lv_at hl 5 rfl) ?_
      refine lv_ishr hx hb dX0_tryNext_32 ?_
      refine lv_iconst (v := 1) hx hb dX0_tryNext_33 (by decide) ?_
      refine lv_iand hx hb dX0_tryNext_34 ?_
      refine lv_if_eq (tgt := 52) hx hb dX0_tryNext_35 (by decide) (fun hc => ?_) (fun hc => ?_)
      · rw [if_pos hc] at hf
        refine lv_bipush (v := (-4)) hx hb dX0_tryNext_52 (by decide) ?_
        exact w_X0_tryNext_54 hdd hC hQ hkr ih  _ _ _ _ _ _ _ _ _ _ hP hS (lv_sub hl [0, 1, 2, 3, 4, 5] rfl) hf
      · rw [if_neg hc] at hf
        refine lv_aload_n hx hb dX0_tryNext_38 rfl (lv_at hl 0 rfl) ?_
        refine gFr hC hP (j := 0) sg_18 vc_0 iT0 (by decide) rfl tb_1_151 dX0_tryNext_39 ?_
        refine lv_iload hx hb dX0_tryNext_42 (lv_at hl 5 rfl) ?_
        obtain ⟨v1, hv, hf⟩ := ob_some hf
        refine gAa4 hC hP hv dX0_tryNext_44 ?_
        refine lv_iload_n hx hb dX0_tryNext_45 rfl (lv_at hl 3 rfl) ?_
        obtain ⟨v2, hv, hf⟩ := ob_some hf
        refine cI hS (runSN hC hP hS (As := [.ref (ad G v1), .int x3]) (rest := []) (k_X7_firstFrom l G S v1 x3 _ hv) vy_X7_firstFrom nw_15 tb_3_89 (by show _ ∧ _; simp only [rmH]; omega) rfl hl.1 rfl (Nat.le_of_ble_eq_true rfl) dX0_tryNext_46) (fun H locs hP hS => ?_)
        refine lv_goto (tgt := 54) hx hb dX0_tryNext_49 (by decide) ?_
        exact w_X0_tryNext_54 hdd hC hQ hkr ih  _ _ _ _ _ _ _ _ _ _ hP hS (lv_sub hl [0, 1, 2, 3, 4, 5] rfl) hf
def f_X0_tryNext : Nat → ST → Int32 → Int32 → Int32 → Int32 → Option ST
  | 0, _, _, _, _, _ => none
  | d + 1, S, x1, x2, x3, x4 => if x2 = 0 then ((f_X0_keepBetter S x1 x4).bind fun S1 => some S1) else (if x1 < 6 then (f_X0_tryNext_22 (f_X0_tryNext d) FU S x1 x2 x3 x4 0) else (some S))
set_option maxRecDepth 100000 in
set_option maxHeartbeats 4000000 in
theorem k_X0_tryNext : ∀ (d : Nat) (l : Launch) (G : GT) (S : ST) (x1 : Int32) (x2 : Int32) (x3 : Int32) (x4 : Int32) (S' : ST) (h : f_X0_tryNext d S x1 x2 x3 x4 = some S'), MV l yX0_tryNext cX0_tryNext 7 (4 + d) [.ref (ad G 18), .int x1, .int x2, .int x3, .int x4] G S S' := by
  intro d
  induction d with
  | zero => intro l G S x1 x2 x3 x4 S' h; rw [f_X0_tryNext] at h; cases h
  | succ d0 ihd =>
    intro l G S x1 x2 x3 x4 S' hf
    rw [f_X0_tryNext] at hf
    have hkr := ihd l G
    have hdd : 4 ≤ 4 + d0 := Nat.le_add_right 4 d0
    refine mkV (own := RX0) (by decide +kernel) rfl (Nat.le_of_ble_eq_true rfl) (fun p e s m args below meth c Q ls hC hP hS hl hQ => ?_)
    have hl : lv_has ls 7 [(0, .ref (ad G 18)), (1, .int x1), (2, .int x2), (3, .int x3), (4, .int x4)] := hl
    obtain ⟨hx, hb, hml, hown, hts⟩ := id hC.1
    refine lv_iload_n hx hb dX0_tryNext_0 rfl (lv_at hl 2 rfl) ?_
    refine lv_if_ne (tgt := 12) hx hb dX0_tryNext_1 (by decide) (fun hc => ?_) (fun hc => ?_)
    · rw [if_neg hc] at hf
      refine lv_iload_n hx hb dX0_tryNext_12 rfl (lv_at hl 1 rfl) ?_
      refine lv_bipush (v := 6) hx hb dX0_tryNext_13 (by decide) ?_
      refine lv_icmp_lt (tgt := 19) hx hb dX0_tryNext_15 (by decide) (fun hc => ?_) (fun hc => ?_)
      · rw [if_pos hc] at hf
        refine lv_iconst (v := 0) hx hb dX0_tryNext_19 (by decide) ?_
        refine lv_istore (lv' := [(5, .int 0), (0, .ref (ad G 18)), (1, .int x1), (2, .int x2), (3, .int x3), (4, .int x4)]) hx hb dX0_tryNext_20 hl (by decide) rfl (fun ls hl => ?_)
        exact w_X0_tryNext_22 hdd hC hQ hkr _ _ _ _ _ _ _ _ _ _ hP hS (lv_sub hl [1, 2, 3, 4, 5, 0] rfl) hf
      · rw [if_neg hc] at hf
        exact retV hQ hf hP hS dX0_tryNext_18
    · rw [if_pos hc] at hf
      refine lv_aload_n hx hb dX0_tryNext_4 rfl (lv_at hl 0 rfl) ?_
      refine lv_iload_n hx hb dX0_tryNext_5 rfl (lv_at hl 1 rfl) ?_
      refine lv_iload hx hb dX0_tryNext_6 (lv_at hl 4 rfl) ?_
      obtain ⟨S1, hv, hf⟩ := ob_some hf
      refine cV hS (runV hC hP hS (As := [.int x1, .int x4]) (rest := []) (k_X0_keepBetter l G S x1 x4 _ hv) vy_X0_keepBetter sg_18 vc_0 tb_3_196 tb_3_198 ts_23 (by show _ ∧ _; simp only [rmH]; omega) rfl hl.1 rfl (Nat.le_of_ble_eq_true rfl) dX0_tryNext_8) (fun H locs hP hS => ?_)
      exact retV hQ hf hP hS dX0_tryNext_11
def f_X0_arrange (S : ST) (x1 : Int32) (x2 : Int32) : Option (Int32 × ST) := (f_X0_tryNext 7 (sI (sI (sI S 18 3 0) 18 5 x2) 18 4 2147483647) 0 x1 0 0).bind fun S1 => if (S1.1 18 3) = 0 then (some ((-4), S1)) else (some ((S1.1 18 4), S1))
set_option maxRecDepth 100000 in
set_option maxHeartbeats 4000000 in
theorem k_X0_arrange (l : Launch) (G : GT) (S : ST) (x1 : Int32) (x2 : Int32) (r : Int32) (S' : ST) (hf : f_X0_arrange S x1 x2 = some (r, S')) : MI l yX0_arrange cX0_arrange 3 (some .int) 12 [.ref (ad G 18), .int x1, .int x2] G S r S' := by
  rw [f_X0_arrange] at hf
  refine mkI (own := RX0) (by decide +kernel) rfl rfl (Nat.le_of_ble_eq_true rfl) (fun p e s m args below meth c Q ls hC hP hS hl hQ => ?_)
  have hl : lv_has ls 3 [(0, .ref (ad G 18)), (1, .int x1), (2, .int x2)] := hl
  obtain ⟨hx, hb, hml, hown, hts⟩ := id hC.1
  refine lv_aload_n hx hb dX0_arrange_0 rfl (lv_at hl 0 rfl) ?_
  refine lv_iconst (v := 0) hx hb dX0_arrange_1 (by decide) ?_
  refine pFi hC hP hS (j := 3) sg_18 vc_0 iT0 tyX0_ok nmX0 (by decide) rfl tb_1_154 rfl rfl rfl dX0_arrange_2 (fun H locs hP hS => ?_)
  refine lv_aload_n hx hb dX0_arrange_5 rfl (lv_at hl 0 rfl) ?_
  refine lv_iload_n hx hb dX0_arrange_6 rfl (lv_at hl 2 rfl) ?_
  refine pFi hC hP hS (j := 5) sg_18 vc_0 iT0 tyX0_ok nmX0 (by decide) rfl tb_1_156 rfl rfl rfl dX0_arrange_7 (fun H locs hP hS => ?_)
  refine lv_aload_n hx hb dX0_arrange_10 rfl (lv_at hl 0 rfl) ?_
  refine lv_ldc hx hb hown (hts _ tb_3_191) dX0_arrange_11 ?_
  refine pFi hC hP hS (j := 4) sg_18 vc_0 iT0 tyX0_ok nmX0 (by decide) rfl tb_1_155 rfl rfl rfl dX0_arrange_13 (fun H locs hP hS => ?_)
  refine lv_aload_n hx hb dX0_arrange_16 rfl (lv_at hl 0 rfl) ?_
  refine lv_iconst (v := 0) hx hb dX0_arrange_17 (by decide) ?_
  refine lv_iload_n hx hb dX0_arrange_18 rfl (lv_at hl 1 rfl) ?_
  refine lv_iconst (v := 0) hx hb dX0_arrange_19 (by decide) ?_
  refine lv_iconst (v := 0) hx hb dX0_arrange_20 (by decide) ?_
  obtain ⟨S1, hv, hf⟩ := ob_some hf
  refine cV hS (runV hC hP hS (As := [.int 0, .int x1, .int 0, .int 0]) (rest := []) (k_X0_tryNext 7 l G (sI (sI (sI S 18 3 0) 18 5 x2) 18 4 2147483647) 0 x1 0 0 _ hv) vy_X0_tryNext sg_18 vc_0 tb_3_192 tb_3_194 ts_22 ⟨Nat.le_of_ble_eq_true rfl, Nat.le_of_ble_eq_true rfl⟩ rfl hl.1 rfl (Nat.le_of_ble_eq_true rfl) dX0_arrange_21) (fun H locs hP hS => ?_)
  refine lv_aload_n hx hb dX0_arrange_24 rfl (lv_at hl 0 rfl) ?_
  refine gFi hC hP (j := 3) sg_18 vc_0 iT0 (by decide) rfl tb_1_154 dX0_arrange_25 ?_
  refine lv_if_ne (tgt := 36) hx hb dX0_arrange_28 (by decide) (fun hc => ?_) (fun hc => ?_)
  · rw [if_neg hc] at hf
    refine lv_aload_n hx hb dX0_arrange_36 rfl (lv_at hl 0 rfl) ?_
    refine gFi hC hP (j := 4) sg_18 vc_0 iT0 (by decide) rfl tb_1_155 dX0_arrange_37 ?_
    exact retIw hQ hf hP hS dX0_arrange_40
  · rw [if_pos hc] at hf
    refine lv_bipush (v := (-4)) hx hb dX0_arrange_31 (by decide) ?_
    refine lv_goto (tgt := 40) hx hb dX0_arrange_33 (by decide) ?_
    exact retIw hQ hf hP hS dX0_arrange_40
def f_X0_goes (S : ST) (x1 : Int32) : Option Int32 := if x1 < 0 then (some (-4)) else (if (S.1 18 3) ≤ x1 then (some (-4)) else ((rI S 0 21 x1).bind fun v1 => some v1))
set_option maxRecDepth 100000 in
set_option maxHeartbeats 4000000 in
theorem k_X0_goes (l : Launch) (G : GT) (S : ST) (x1 : Int32) (r : Int32) (hf : f_X0_goes S x1 = some r) : MI l yX0_goes cX0_goes 2 (some .int) 1 [.ref (ad G 18), .int x1] G S r S := by
  rw [f_X0_goes] at hf
  refine mkI (own := RX0) (by decide +kernel) rfl rfl (Nat.le_of_ble_eq_true rfl) (fun p e s m args below meth c Q ls hC hP hS hl hQ => ?_)
  have hl : lv_has ls 2 [(0, .ref (ad G 18)), (1, .int x1)] := hl
  obtain ⟨hx, hb, hml, hown, hts⟩ := id hC.1
  refine lv_iload_n hx hb dX0_goes_0 rfl (lv_at hl 1 rfl) ?_
  refine lv_if_lt (tgt := 21) hx hb dX0_goes_1 (by decide) (fun hc => ?_) (fun hc => ?_)
  · rw [if_pos hc] at hf
    refine lv_bipush (v := (-4)) hx hb dX0_goes_21 (by decide) ?_
    exact retI hQ hf hP hS dX0_goes_23
  · rw [if_neg hc] at hf
    refine lv_iload_n hx hb dX0_goes_4 rfl (lv_at hl 1 rfl) ?_
    refine lv_aload_n hx hb dX0_goes_5 rfl (lv_at hl 0 rfl) ?_
    refine gFi hC hP (j := 3) sg_18 vc_0 iT0 (by decide) rfl tb_1_154 dX0_goes_6 ?_
    refine lv_icmp_ge (tgt := 21) hx hb dX0_goes_9 (by decide) (fun hc => ?_) (fun hc => ?_)
    · rw [if_pos hc] at hf
      refine lv_bipush (v := (-4)) hx hb dX0_goes_21 (by decide) ?_
      exact retI hQ hf hP hS dX0_goes_23
    · rw [if_neg hc] at hf
      refine lv_aload_n hx hb dX0_goes_12 rfl (lv_at hl 0 rfl) ?_
      refine gFr hC hP (j := 2) sg_18 vc_0 iT0 (by decide) rfl tb_1_153 dX0_goes_13 ?_
      refine lv_iload_n hx hb dX0_goes_16 rfl (lv_at hl 1 rfl) ?_
      obtain ⟨v1, hv, hf⟩ := ob_some hf
      refine gIa hC hP hv dX0_goes_17 ?_
      refine lv_goto (tgt := 23) hx hb dX0_goes_18 (by decide) ?_
      exact retI hQ hf hP hS dX0_goes_23
def f_X7_day_118  (k61 : ST → Int32 → Int32 → Int32 → Int32 → Option (Int32 × ST)) (S : ST) (x1 : Int32) (x2 : Int32) (x3 : Int32) (x4 : Int32) : Option (Int32 × ST) := k61 S x1 x2 x3 (x4 + 1)
set_option maxRecDepth 100000 in
set_option maxHeartbeats 4000000 in
theorem w_X7_day_118 {r : Int32} {S' : ST} (hC : Cx p m c s args cX7_day 5 RX7 G) (hQ : KI p l e (rmH 13) s m args below meth c Q cX7_day G r S') {k61 : ST → Int32 → Int32 → Int32 → Int32 → Option (Int32 × ST)} (hk61 : ∀ (S : ST) (x1 : Int32) (x2 : Int32) (x3 : Int32) (x4 : Int32) (H : Heap) (locs : List Loc) (ls : Array Slot), va_P (gD G) vwCl (cells G S) H → va_S (gA G) s.heap H locs → lv_has ls 5 [(0, .ref (ad G 0)), (1, .int x1), (2, .int x2), (3, .int x3), (4, .int x4)] → k61 S x1 x2 x3 x4 = some (r, S') → W p l e (rmH 13) s m args below meth c H locs 0 0 Q (F0 m 61 ls [])) (S : ST) (x1 : Int32) (x2 : Int32) (x3 : Int32) (x4 : Int32) (H : Heap) (locs : List Loc) (ls : Array Slot) (hP : va_P (gD G) vwCl (cells G S) H) (hS : va_S (gA G) s.heap H locs) (hl : lv_has ls 5 [(0, .ref (ad G 0)), (1, .int x1), (2, .int x2), (3, .int x3), (4, .int x4)]) (hf : f_X7_day_118 k61 S x1 x2 x3 x4 = some (r, S')) : W p l e (rmH 13) s m args below meth c H locs 0 0 Q (F0 m 118 ls []) := by
  obtain ⟨hx, hb, hml, hown, hts⟩ := id hC.1
  rw [f_X7_day_118] at hf
  refine lv_iinc (v := x4 + 1) (lv' := [(4, .int (x4 + 1)), (0, .ref (ad G 0)), (1, .int x1), (2, .int x2), (3, .int x3)]) hx hb dX7_day_118 hl (k := 4) rfl rfl (by decide) rfl (fun ls hl => ?_)
  refine lv_goto (tgt := 61) hx hb dX7_day_121 (by decide) ?_
  exact hk61 _ _ _ _ _ _ _ _ hP hS (lv_sub hl [1, 2, 3, 4, 0] rfl) hf
def f_X7_day_61  : Nat → ST → Int32 → Int32 → Int32 → Int32 → Option (Int32 × ST)
  | 0, _, _, _, _, _ => none
  | n + 1, S, x1, x2, x3, x4 => if (S.1 1 1) ≤ x4 then (b2 (f_X0_arrange S x1 x2) fun v1 S2 => if x3 < 0 then (some (v1, S2)) else (if v1 = (-4) then (some (v1, S2)) else ((f_X0_goes S2 x3).bind fun v3 => some (v3, S2)))) else (if ((x1 >>> (x4 &&& 31)) &&& 1) = 0 then (f_X7_day_118 (f_X7_day_61 n) S x1 x2 x3 x4) else ((f_X5_begin S x4).bind fun S4 => (f_X2_rule S4).bind fun S5 => (f_X0_startsOf S5 x4).bind fun v6 => (f_X2_findStarts S5 v6).bind fun S7 => f_X7_day_118 (f_X7_day_61 n) S7 x1 x2 x3 x4))
set_option maxRecDepth 100000 in
set_option maxHeartbeats 4000000 in
theorem w_X7_day_61 {r : Int32} {S' : ST} (hC : Cx p m c s args cX7_day 5 RX7 G) (hQ : KI p l e (rmH 13) s m args below meth c Q cX7_day G r S') : ∀ (n : Nat) (S : ST) (x1 : Int32) (x2 : Int32) (x3 : Int32) (x4 : Int32) (H : Heap) (locs : List Loc) (ls : Array Slot), va_P (gD G) vwCl (cells G S) H → va_S (gA G) s.heap H locs → lv_has ls 5 [(0, .ref (ad G 0)), (1, .int x1), (2, .int x2), (3, .int x3), (4, .int x4)] → f_X7_day_61 n S x1 x2 x3 x4 = some (r, S') → W p l e (rmH 13) s m args below meth c H locs 0 0 Q (F0 m 61 ls []) := by
  obtain ⟨hx, hb, hml, hown, hts⟩ := id hC.1
  intro n
  induction n with
  | zero => intro S x1 x2 x3 x4 H locs ls hP hS hl hf; rw [f_X7_day_61] at hf; cases hf
  | succ n ih =>
    intro S x1 x2 x3 x4 H locs ls hP hS hl hf
    rw [f_X7_day_61] at hf
    refine lv_iload hx hb dX7_day_61 (lv_at hl 4 rfl) ?_
    refine lv_aload_n hx hb dX7_day_63 rfl (lv_at hl 0 rfl) ?_
    refine gFr hC hP (j := 0) sg_0 vc_7 iT7 (by decide) rfl tb_1_212 dX7_day_64 ?_
    refine gFi hC hP (j := 1) sg_1 vc_1 iT1 (by decide) rfl tb_1_33 dX7_day_67 ?_
    refine lv_icmp_ge (tgt := 124) hx hb dX7_day_70 (by decide) (fun hc => ?_) (fun hc => ?_)
    · rw [if_pos hc] at hf
      refine lv_aload_n hx hb dX7_day_124 rfl (lv_at hl 0 rfl) ?_
      refine gFr hC hP (j := 5) sg_0 vc_7 iT7 (by decide) rfl tb_1_217 dX7_day_125 ?_
      refine lv_iload_n hx hb dX7_day_128 rfl (lv_at hl 1 rfl) ?_
      refine lv_iload_n hx hb dX7_day_129 rfl (lv_at hl 2 rfl) ?_
      obtain ⟨v1, S2, hv, hf⟩ := ob_two hf
      refine cI hS (runV hC hP hS (As := [.int x1, .int x2]) (rest := []) (k_X0_arrange l G S x1 x2 _ _ hv) vy_X0_arrange sg_18 vc_0 tb_3_187 tb_3_188 tb_3_189 ⟨Nat.le_of_ble_eq_true rfl, Nat.le_of_ble_eq_true rfl⟩ rfl hl.1 rfl (Nat.le_of_ble_eq_true rfl) dX7_day_130) (fun H locs hP hS => ?_)
      refine lv_istore (lv' := [(4, .int v1), (0, .ref (ad G 0)), (1, .int x1), (2, .int x2), (3, .int x3)]) hx hb dX7_day_133 hl (by decide) rfl (fun ls hl => ?_)
      refine lv_iload_n hx hb dX7_day_135 rfl (lv_at hl 4 rfl) ?_
      refine lv_if_lt (tgt := 146) hx hb dX7_day_136 (by decide) (fun hc => ?_) (fun hc => ?_)
      · rw [if_pos hc] at hf
        refine lv_iload hx hb dX7_day_146 (lv_at hl 0 rfl) ?_
        refine lv_goto (tgt := 159) hx hb dX7_day_148 (by decide) ?_
        exact retIw hQ hf hP hS dX7_day_159
      · rw [if_neg hc] at hf
        refine lv_iload hx hb dX7_day_139 (lv_at hl 0 rfl) ?_
        refine lv_bipush (v := (-4)) hx hb dX7_day_141 (by decide) ?_
        refine lv_icmp_ne (tgt := 151) hx hb dX7_day_143 (by decide) (fun hc => ?_) (fun hc => ?_)
        · rw [if_neg hc] at hf
          refine lv_aload_n hx hb dX7_day_151 rfl (lv_at hl 1 rfl) ?_
          refine gFr hC hP (j := 5) sg_0 vc_7 iT7 (by decide) rfl tb_1_217 dX7_day_152 ?_
          refine lv_iload_n hx hb dX7_day_155 rfl (lv_at hl 4 rfl) ?_
          obtain ⟨v3, hv, hf⟩ := ob_some hf
          refine cI hS (runV hC hP hS (As := [.int x3]) (rest := []) (k_X0_goes l G S2 x3 _ hv) vy_X0_goes sg_18 vc_0 tb_3_202 tb_3_203 tb_3_204 ⟨Nat.le_of_ble_eq_true rfl, Nat.le_of_ble_eq_true rfl⟩ rfl hl.1 rfl (Nat.le_of_ble_eq_true rfl) dX7_day_156) (fun H locs hP hS => ?_)
          exact retIw hQ hf hP hS dX7_day_159
        · rw [if_pos hc] at hf
          refine lv_iload hx hb dX7_day_146 (lv_at hl 0 rfl) ?_
          refine lv_goto (tgt := 159) hx hb dX7_day_148 (by decide) ?_
          exact retIw hQ hf hP hS dX7_day_159
    · rw [if_neg hc] at hf
      refine lv_iload_n hx hb dX7_day_73 rfl (lv_at hl 1 rfl) ?_
      refine lv_iload hx hb dX7_day_74 (lv_at hl 4 rfl) ?_
      refine lv_ishr hx hb dX7_day_76 ?_
      refine lv_iconst (v := 1) hx hb dX7_day_77 (by decide) ?_
      refine lv_iand hx hb dX7_day_78 ?_
      refine lv_if_eq (tgt := 118) hx hb dX7_day_79 (by decide) (fun hc => ?_) (fun hc => ?_)
      · rw [if_pos hc] at hf
        exact w_X7_day_118 hC hQ ih  _ _ _ _ _ _ _ _ hP hS (lv_sub hl [0, 1, 2, 3, 4] rfl) hf
      · rw [if_neg hc] at hf
        refine lv_aload_n hx hb dX7_day_82 rfl (lv_at hl 0 rfl) ?_
        refine gFr hC hP (j := 2) sg_0 vc_7 iT7 (by decide) rfl tb_1_214 dX7_day_83 ?_
        refine lv_iload hx hb dX7_day_86 (lv_at hl 4 rfl) ?_
        obtain ⟨S4, hv, hf⟩ := ob_some hf
        refine cV hS (runV hC hP hS (As := [.int x4]) (rest := []) (k_X5_begin l G S x4 _ hv) vy_X5_begin sg_11 vc_5 tb_2_198 tb_2_199 tb_2_200 ⟨Nat.le_of_ble_eq_true rfl, Nat.le_of_ble_eq_true rfl⟩ rfl hl.1 rfl (Nat.le_of_ble_eq_true rfl) dX7_day_88) (fun H locs hP hS => ?_)
        refine lv_aload_n hx hb dX7_day_91 rfl (lv_at hl 0 rfl) ?_
        refine gFr hC hP (j := 4) sg_0 vc_7 iT7 (by decide) rfl tb_1_216 dX7_day_92 ?_
        refine lv_aload_n hx hb dX7_day_95 rfl (lv_at hl 0 rfl) ?_
        refine gFr hC hP (j := 2) sg_0 vc_7 iT7 (by decide) rfl tb_1_214 dX7_day_96 ?_
        obtain ⟨S5, hv, hf⟩ := ob_some hf
        refine cV hS (runV hC hP hS (As := [.ref (ad G 11)]) (rest := []) (k_X2_rule l G S4 _ hv) vy_X2_rule sg_13 vc_2 tb_3_146 tb_3_62 tb_3_63 ⟨Nat.le_of_ble_eq_true rfl, Nat.le_of_ble_eq_true rfl⟩ rfl hl.1 rfl (Nat.le_of_ble_eq_true rfl) dX7_day_99) (fun H locs hP hS => ?_)
        refine lv_aload_n hx hb dX7_day_102 rfl (lv_at hl 0 rfl) ?_
        refine gFr hC hP (j := 4) sg_0 vc_7 iT7 (by decide) rfl tb_1_216 dX7_day_103 ?_
        refine lv_aload_n hx hb dX7_day_106 rfl (lv_at hl 0 rfl) ?_
        refine gFr hC hP (j := 5) sg_0 vc_7 iT7 (by decide) rfl tb_1_217 dX7_day_107 ?_
        refine lv_iload hx hb dX7_day_110 (lv_at hl 4 rfl) ?_
        obtain ⟨v6, hv, hf⟩ := ob_some hf
        refine cA hS (runV hC hP hS (As := [.int x4]) (rest := [.ref (ad G 13)]) (k_X0_startsOf l G S5 x4 _ hv) vy_X0_startsOf sg_18 vc_0 tb_3_122 tb_3_123 tb_3_124 ⟨Nat.le_of_ble_eq_true rfl, Nat.le_of_ble_eq_true rfl⟩ rfl hl.1 rfl (Nat.le_of_ble_eq_true rfl) dX7_day_112) (fun H locs hP hS => ?_)
        obtain ⟨S7, hv, hf⟩ := ob_some hf
        refine cV hS (runV hC hP hS (As := [.ref (ad G v6)]) (rest := []) (k_X2_findStarts l G S5 v6 _ hv) vy_X2_findStarts sg_13 vc_2 tb_3_126 tb_3_127 tb_3_128 ⟨Nat.le_of_ble_eq_true rfl, Nat.le_of_ble_eq_true rfl⟩ rfl hl.1 rfl (Nat.le_of_ble_eq_true rfl) dX7_day_115) (fun H locs hP hS => ?_)
        exact w_X7_day_118 hC hQ ih  _ _ _ _ _ _ _ _ hP hS (lv_sub hl [0, 1, 2, 3, 4] rfl) hf
def f_X7_day (S : ST) (x1 : Int32) (x2 : Int32) (x3 : Int32) : Option (Int32 × ST) := if x1 = 0 then (some ((-1), S)) else (if (us32 x1 (S.1 1 1)) = 0 then ((f_X7_within x2 1 240).bind fun v1 => if v1 = 0 then (some ((-1), S)) else ((f_X7_within x3 (-1) 5).bind fun v2 => if v2 = 0 then (some ((-1), S)) else (if (S.1 1 0) = 0 then (some ((-2), S)) else ((f_X2_layTide S).bind fun S3 => f_X7_day_61 FU S3 x1 x2 x3 0)))) else (some ((-1), S)))
set_option maxRecDepth 100000 in
set_option maxHeartbeats 4000000 in
theorem k_X7_day (l : Launch) (G : GT) (S : ST) (x1 : Int32) (x2 : Int32) (x3 : Int32) (r : Int32) (S' : ST) (hf : f_X7_day S x1 x2 x3 = some (r, S')) : MI l yX7_day cX7_day 5 (some .int) 13 [.ref (ad G 0), .int x1, .int x2, .int x3] G S r S' := by
  rw [f_X7_day] at hf
  refine mkI (own := RX7) (by decide +kernel) rfl rfl (Nat.le_of_ble_eq_true rfl) (fun p e s m args below meth c Q ls hC hP hS hl hQ => ?_)
  have hl : lv_has ls 5 [(0, .ref (ad G 0)), (1, .int x1), (2, .int x2), (3, .int x3)] := hl
  obtain ⟨hx, hb, hml, hown, hts⟩ := id hC.1
  refine lv_iload_n hx hb dX7_day_0 rfl (lv_at hl 1 rfl) ?_
  refine lv_if_eq (tgt := 36) hx hb dX7_day_1 (by decide) (fun hc => ?_) (fun hc => ?_)
  · rw [if_pos hc] at hf
    refine lv_iconst (v := (-1)) hx hb dX7_day_36 (by decide) ?_
    exact retIw hQ hf hP hS dX7_day_37
  · rw [if_neg hc] at hf
    refine lv_iload_n hx hb dX7_day_4 rfl (lv_at hl 1 rfl) ?_
    refine lv_aload_n hx hb dX7_day_5 rfl (lv_at hl 0 rfl) ?_
    refine gFr hC hP (j := 0) sg_0 vc_7 iT7 (by decide) rfl tb_1_212 dX7_day_6 ?_
    refine gFi hC hP (j := 1) sg_1 vc_1 iT1 (by decide) rfl tb_1_33 dX7_day_9 ?_
    refine lv_iushr (v := (us32 x1 (S.1 1 1))) hx hb dX7_day_12 rfl ?_
    refine lv_if_ne (tgt := 36) hx hb dX7_day_13 (by decide) (fun hc => ?_) (fun hc => ?_)
    · rw [if_neg hc] at hf
      refine lv_iconst (v := (-1)) hx hb dX7_day_36 (by decide) ?_
      exact retIw hQ hf hP hS dX7_day_37
    · rw [if_pos hc] at hf
      refine lv_iload_n hx hb dX7_day_16 rfl (lv_at hl 2 rfl) ?_
      refine lv_iconst (v := 1) hx hb dX7_day_17 (by decide) ?_
      refine lv_sipush (v := 240) hx hb dX7_day_18 (by decide) ?_
      obtain ⟨v1, hv, hf⟩ := ob_some hf
      refine cI hS (runS hC hP hS (As := [.int x2, .int 1, .int 240]) (rest := []) (k_X7_within l G S x2 1 240 _ hv) vy_X7_within tb_2_14 tb_2_15 ⟨Nat.le_of_ble_eq_true rfl, Nat.le_of_ble_eq_true rfl⟩ rfl hl.1 rfl (Nat.le_of_ble_eq_true rfl) dX7_day_21) (fun H locs hP hS => ?_)
      refine lv_if_eq (tgt := 36) hx hb dX7_day_24 (by decide) (fun hc => ?_) (fun hc => ?_)
      · rw [if_pos hc] at hf
        refine lv_iconst (v := (-1)) hx hb dX7_day_36 (by decide) ?_
        exact retIw hQ hf hP hS dX7_day_37
      · rw [if_neg hc] at hf
        refine lv_iload_n hx hb dX7_day_27 rfl (lv_at hl 3 rfl) ?_
        refine lv_iconst (v := (-1)) hx hb dX7_day_28 (by decide) ?_
        refine lv_iconst (v := 5) hx hb dX7_day_29 (by decide) ?_
        obtain ⟨v2, hv, hf⟩ := ob_some hf
        refine cI hS (runS hC hP hS (As := [.int x3, .int (-1), .int 5]) (rest := []) (k_X7_within l G S x3 (-1) 5 _ hv) vy_X7_within tb_2_14 tb_2_15 ⟨Nat.le_of_ble_eq_true rfl, Nat.le_of_ble_eq_true rfl⟩ rfl hl.1 rfl (Nat.le_of_ble_eq_true rfl) dX7_day_30) (fun H locs hP hS => ?_)
        refine lv_if_ne (tgt := 38) hx hb dX7_day_33 (by decide) (fun hc => ?_) (fun hc => ?_)
        · rw [if_neg hc] at hf
          refine lv_aload_n hx hb dX7_day_38 rfl (lv_at hl 0 rfl) ?_
          refine gFr hC hP (j := 0) sg_0 vc_7 iT7 (by decide) rfl tb_1_212 dX7_day_39 ?_
          refine gFi hC hP (j := 0) sg_1 vc_1 iT1 (by decide) rfl tb_1_31 dX7_day_42 ?_
          refine lv_if_ne (tgt := 51) hx hb dX7_day_45 (by decide) (fun hc => ?_) (fun hc => ?_)
          · rw [if_neg hc] at hf
            refine lv_aload_n hx hb dX7_day_51 rfl (lv_at hl 0 rfl) ?_
            refine gFr hC hP (j := 4) sg_0 vc_7 iT7 (by decide) rfl tb_1_216 dX7_day_52 ?_
            obtain ⟨S3, hv, hf⟩ := ob_some hf
            refine cV hS (runV hC hP hS (As := []) (rest := []) (k_X2_layTide l G S _ hv) vy_X2_layTide sg_13 vc_2 tb_3_144 tb_3_45 tb_3_46 ⟨Nat.le_of_ble_eq_true rfl, Nat.le_of_ble_eq_true rfl⟩ rfl hl.1 rfl (Nat.le_of_ble_eq_true rfl) dX7_day_55) (fun H locs hP hS => ?_)
            refine lv_iconst (v := 0) hx hb dX7_day_58 (by decide) ?_
            refine lv_istore (lv' := [(4, .int 0), (0, .ref (ad G 0)), (1, .int x1), (2, .int x2), (3, .int x3)]) hx hb dX7_day_59 hl (by decide) rfl (fun ls hl => ?_)
            exact w_X7_day_61 hC hQ _ _ _ _ _ _ _ _ _ hP hS (lv_sub hl [1, 2, 3, 4, 0] rfl) hf
          · rw [if_pos hc] at hf
            refine lv_bipush (v := (-2)) hx hb dX7_day_48 (by decide) ?_
            exact retIw hQ hf hP hS dX7_day_50
        · rw [if_pos hc] at hf
          refine lv_iconst (v := (-1)) hx hb dX7_day_36 (by decide) ?_
          exact retIw hQ hf hP hS dX7_day_37
end
