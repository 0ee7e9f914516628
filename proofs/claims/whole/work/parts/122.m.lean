section
variable {p : Program} {l : Launch} {e : Env} {s : State} {m : MethodId} {args : Array Value} {below : List Frame} {meth : Method} {c : Code} {Q : State → Prop} {G : GT}

def f_X8_item_67  (S : ST) (y0 : Int32) (y1 : Int32) : Option (Int32 × ST) := (wI S 48 y1 y0).bind fun S1 => some (1, S1)
set_option maxRecDepth 100000 in
set_option maxHeartbeats 4000000 in
theorem w_X8_item_67 {r : Int32} {S' : ST} (hC : Cx p m c s args cX8_item 6 RX8 G) (hQ : KI p l e (rmH 3) s m args below meth c Q cX8_item G r S') (S : ST) (y0 : Int32) (y1 : Int32) (H : Heap) (locs : List Loc) (ls : Array Slot) (hP : va_P (gD G) vwCl (cells G S) H) (hS : va_S (gA G) s.heap H locs) (hl : lv_has ls 6 []) (hf : f_X8_item_67 S y0 y1 = some (r, S')) : W p l e (rmH 3) s m args below meth c H locs 0 0 Q (F0 m 67 ls [.int y0, .int y1, .ref (ad G 48)]) := by
  obtain ⟨hx, hb, hml, hown, hts⟩ := id hC.1
  rw [f_X8_item_67] at hf
  obtain ⟨S1, hv, hf⟩ := ob_some hf
  refine sIa hC hP hS hv dX8_item_67 (fun H locs hP hS => ?_)
  refine lv_iconst (v := 1) hx hb dX8_item_68 (by decide) ?_
  exact retIw hQ hf hP hS dX8_item_69
def f_X8_item (S : ST) (x1 : Int32) (x2 : Int32) (x3 : Int32) (x4 : Int32) : Option (Int32 × ST) := (f_X8_isSheet x1).bind fun v1 => if v1 = 0 then (some ((-1), S)) else ((f_X8_isLane x2).bind fun v2 => if v2 = 0 then (some ((-1), S)) else ((f_X8_finds S x1 x2 x3 1).bind fun v3 => if 0 ≤ v3 then (if x2 = 0 then (f_X8_item_67 S (x4.toInt8.toInt32) ((24 * x1) + x3)) else (if x2 = 1 then (f_X8_item_67 S (x4.toInt16.toInt32) ((24 * x1) + x3)) else (f_X8_item_67 S x4 ((24 * x1) + x3)))) else (some (v3, S))))
set_option maxRecDepth 100000 in
set_option maxHeartbeats 4000000 in
theorem k_X8_item (l : Launch) (G : GT) (S : ST) (x1 : Int32) (x2 : Int32) (x3 : Int32) (x4 : Int32) (r : Int32) (S' : ST) (hf : f_X8_item S x1 x2 x3 x4 = some (r, S')) : MI l yX8_item cX8_item 6 (some .int) 3 [.ref (ad G 30), .int x1, .int x2, .int x3, .int x4] G S r S' := by
  rw [f_X8_item] at hf
  refine mkI (own := RX8) (by decide +kernel) rfl rfl (Nat.le_of_ble_eq_true rfl) (fun p e s m args below meth c Q ls hC hP hS hl hQ => ?_)
  have hl : lv_has ls 6 [(0, .ref (ad G 30)), (1, .int x1), (2, .int x2), (3, .int x3), (4, .int x4)] := hl
  obtain ⟨hx, hb, hml, hown, hts⟩ := id hC.1
  refine lv_iload_n hx hb dX8_item_0 rfl (lv_at hl 1 rfl) ?_
  obtain ⟨v1, hv, hf⟩ := ob_some hf
  refine cI hS (runS hC hP hS (As := [.int x1]) (rest := []) (k_X8_isSheet l G S x1 _ hv) vy_X8_isSheet tb_5_182 tb_5_183 ⟨Nat.le_of_ble_eq_true rfl, Nat.le_of_ble_eq_true rfl⟩ rfl hl.1 rfl (Nat.le_of_ble_eq_true rfl) dX8_item_1) (fun H locs hP hS => ?_)
  refine lv_if_eq (tgt := 14) hx hb dX8_item_4 (by decide) (fun hc => ?_) (fun hc => ?_)
  · rw [if_pos hc] at hf
    refine lv_iconst (v := (-1)) hx hb dX8_item_14 (by decide) ?_
    exact retIw hQ hf hP hS dX8_item_15
  · rw [if_neg hc] at hf
    refine lv_iload_n hx hb dX8_item_7 rfl (lv_at hl 2 rfl) ?_
    obtain ⟨v2, hv, hf⟩ := ob_some hf
    refine cI hS (runS hC hP hS (As := [.int x2]) (rest := []) (k_X8_isLane l G S x2 _ hv) vy_X8_isLane tb_5_185 tb_5_186 ⟨Nat.le_of_ble_eq_true rfl, Nat.le_of_ble_eq_true rfl⟩ rfl hl.1 rfl (Nat.le_of_ble_eq_true rfl) dX8_item_8) (fun H locs hP hS => ?_)
    refine lv_if_ne (tgt := 16) hx hb dX8_item_11 (by decide) (fun hc => ?_) (fun hc => ?_)
    · rw [if_neg hc] at hf
      refine lv_aload_n hx hb dX8_item_16 rfl (lv_at hl 0 rfl) ?_
      refine lv_iload_n hx hb dX8_item_17 rfl (lv_at hl 1 rfl) ?_
      refine lv_iload_n hx hb dX8_item_18 rfl (lv_at hl 2 rfl) ?_
      refine lv_iload_n hx hb dX8_item_19 rfl (lv_at hl 3 rfl) ?_
      refine lv_iconst (v := 1) hx hb dX8_item_20 (by decide) ?_
      obtain ⟨v3, hv, hf⟩ := ob_some hf
      refine cI hS (runV hC hP hS (As := [.int x1, .int x2, .int x3, .int 1]) (rest := []) (k_X8_finds l G S x1 x2 x3 1 _ hv) vy_X8_finds sg_30 vc_8 tb_5_188 tb_5_190 ts_49 ⟨Nat.le_of_ble_eq_true rfl, Nat.le_of_ble_eq_true rfl⟩ rfl hl.1 rfl (Nat.le_of_ble_eq_true rfl) dX8_item_21) (fun H locs hP hS => ?_)
      refine lv_istore (lv' := [(5, .int v3), (0, .ref (ad G 30)), (1, .int x1), (2, .int x2), (3, .int x3), (4, .int x4)]) hx hb dX8_item_24 hl (by decide) rfl (fun ls hl => ?_)
      refine lv_iload hx hb dX8_item_26 (lv_at hl 0 rfl) ?_
      refine lv_if_ge (tgt := 34) hx hb dX8_item_28 (by decide) (fun hc => ?_) (fun hc => ?_)
      · rw [if_pos hc] at hf
        refine lv_aload_n hx hb dX8_item_34 rfl (lv_at hl 1 rfl) ?_
        refine gFr hC hP (j := 27) sg_30 vc_8 iT8 (by decide) rfl tb_4_98 dX8_item_35 ?_
        refine lv_bipush (v := 24) hx hb dX8_item_38 (by decide) ?_
        refine lv_iload_n hx hb dX8_item_40 rfl (lv_at hl 2 rfl) ?_
        refine lv_imul hx hb dX8_item_41 ?_
        refine lv_iload_n hx hb dX8_item_42 rfl (lv_at hl 4 rfl) ?_
        refine lv_iadd hx hb dX8_item_43 ?_
        refine lv_iload_n hx hb dX8_item_44 rfl (lv_at hl 3 rfl) ?_
        refine lv_if_ne (tgt := 54) hx hb dX8_item_45 (by decide) (fun hc => ?_) (fun hc => ?_)
        · rw [if_neg hc] at hf
          refine lv_iload_n hx hb dX8_item_54 rfl (lv_at hl 3 rfl) ?_
          refine lv_iconst (v := 1) hx hb dX8_item_55 (by decide) ?_
          refine lv_icmp_ne (tgt := 65) hx hb dX8_item_56 (by decide) (fun hc => ?_) (fun hc => ?_)
          · rw [if_neg hc] at hf
            refine lv_iload hx hb dX8_item_65 (lv_at hl 5 rfl) ?_
            exact w_X8_item_67 hC hQ  _ _ _ _ _ _ hP hS (lv_sub hl [] rfl) hf
          · rw [if_pos hc] at hf
            refine lv_iload hx hb dX8_item_59 (lv_at hl 5 rfl) ?_
            refine lv_i2s (v := x4.toInt16.toInt32) hx hb dX8_item_61 rfl ?_
            refine lv_goto (tgt := 67) hx hb dX8_item_62 (by decide) ?_
            exact w_X8_item_67 hC hQ  _ _ _ _ _ _ hP hS (lv_sub hl [] rfl) hf
        · rw [if_pos hc] at hf
          refine lv_iload hx hb dX8_item_48 (lv_at hl 5 rfl) ?_
          refine lv_i2b (v := x4.toInt8.toInt32) hx hb dX8_item_50 rfl ?_
          refine lv_goto (tgt := 67) hx hb dX8_item_51 (by decide) ?_
          exact w_X8_item_67 hC hQ  _ _ _ _ _ _ hP hS (lv_sub hl [] rfl) hf
      · rw [if_neg hc] at hf
        refine lv_iload hx hb dX8_item_31 (lv_at hl 0 rfl) ?_
        exact retIw hQ hf hP hS dX8_item_33
    · rw [if_pos hc] at hf
      refine lv_iconst (v := (-1)) hx hb dX8_item_14 (by decide) ?_
      exact retIw hQ hf hP hS dX8_item_15
def f_X8_copy_138  : Nat → ST → Int32 → Int32 → Int32 → Int32 → Option (Int32 × ST)
  | 0, _, _, _, _, _ => none
  | n + 1, S, x3, x4, x5, x6 => if x5 ≤ x6 then (some (x5, S)) else ((rI S 0 49 x6).bind fun v1 => (wI S 48 (((24 * x3) + x4) + x6) v1).bind fun S2 => f_X8_copy_138 n S2 x3 x4 x5 (x6 + 1))
set_option maxRecDepth 100000 in
set_option maxHeartbeats 4000000 in
theorem w_X8_copy_138 {r : Int32} {S' : ST} (hC : Cx p m c s args cX8_copy 7 RX8 G) (hQ : KI p l e (rmH 3) s m args below meth c Q cX8_copy G r S') : ∀ (n : Nat) (S : ST) (x3 : Int32) (x4 : Int32) (x5 : Int32) (x6 : Int32) (H : Heap) (locs : List Loc) (ls : Array Slot), va_P (gD G) vwCl (cells G S) H → va_S (gA G) s.heap H locs → lv_has ls 7 [(0, .ref (ad G 30)), (3, .int x3), (4, .int x4), (5, .int x5), (6, .int x6)] → f_X8_copy_138 n S x3 x4 x5 x6 = some (r, S') → W p l e (rmH 3) s m args below meth c H locs 0 0 Q (F0 m 138 ls []) := by
  obtain ⟨hx, hb, hml, hown, hts⟩ := id hC.1
  intro n
  induction n with
  | zero => intro S x3 x4 x5 x6 H locs ls hP hS hl hf; rw [f_X8_copy_138] at hf; cases hf
  | succ n ih =>
    intro S x3 x4 x5 x6 H locs ls hP hS hl hf
    rw [f_X8_copy_138] at hf
    refine lv_iload hx hb dX8_copy_138 (lv_at hl 4 rfl) ?_
    refine lv_iload hx hb dX8_copy_140 (lv_at hl 3 rfl) ?_
    refine lv_icmp_ge (tgt := 173) hx hb dX8_copy_142 (by decide) (fun hc => ?_) (fun hc => ?_)
    · rw [if_pos hc] at hf
      refine lv_iload hx hb dX8_copy_173 (lv_at hl 3 rfl) ?_
      exact retIw hQ hf hP hS dX8_copy_175
    · rw [if_neg hc] at hf
      refine lv_aload_n hx hb dX8_copy_145 rfl (lv_at hl 0 rfl) ?_
      refine gFr hC hP (j := 27) sg_30 vc_8 iT8 (by decide) rfl tb_4_98 dX8_copy_146 ?_
      refine lv_bipush (v := 24) hx hb dX8_copy_149 (by decide) ?_
      refine lv_iload_n hx hb dX8_copy_151 rfl (lv_at hl 1 rfl) ?_
      refine lv_imul hx hb dX8_copy_152 ?_
      refine lv_iload hx hb dX8_copy_153 (lv_at hl 2 rfl) ?_
      refine lv_iadd hx hb dX8_copy_155 ?_
      refine lv_iload hx hb dX8_copy_156 (lv_at hl 4 rfl) ?_
      refine lv_iadd hx hb dX8_copy_158 ?_
      refine lv_aload_n hx hb dX8_copy_159 rfl (lv_at hl 0 rfl) ?_
      refine gFr hC hP (j := 28) sg_30 vc_8 iT8 (by decide) rfl tb_4_99 dX8_copy_160 ?_
      refine lv_iload hx hb dX8_copy_163 (lv_at hl 4 rfl) ?_
      obtain ⟨v1, hv, hf⟩ := ob_some hf
      refine gIa hC hP hv dX8_copy_165 ?_
      obtain ⟨S2, hv, hf⟩ := ob_some hf
      refine sIa hC hP hS hv dX8_copy_166 (fun H locs hP hS => ?_)
      refine lv_iinc (v := x6 + 1) (lv' := [(6, .int (x6 + 1)), (0, .ref (ad G 30)), (3, .int x3), (4, .int x4), (5, .int x5)]) hx hb dX8_copy_167 hl (k := 4) rfl rfl (by decide) rfl (fun ls hl => ?_)
      refine lv_goto (tgt := 138) hx hb dX8_copy_170 (by decide) ?_
      exact ih _ _ _ _ _ _ _ _ hP hS (lv_sub hl [1, 2, 3, 4, 0] rfl) hf
def f_X8_copy_101  : Nat → ST → Int32 → Int32 → Int32 → Int32 → Int32 → Int32 → Option (Int32 × ST)
  | 0, _, _, _, _, _, _, _ => none
  | n + 1, S, x1, x2, x3, x4, x5, x6 => if x5 ≤ x6 then (f_X8_copy_138 FU S x3 x4 x5 0) else ((rI S 0 48 (((24 * x1) + x2) + x6)).bind fun v1 => (wI S 49 x6 v1).bind fun S2 => f_X8_copy_101 n S2 x1 x2 x3 x4 x5 (x6 + 1))
set_option maxRecDepth 100000 in
set_option maxHeartbeats 4000000 in
theorem w_X8_copy_101 {r : Int32} {S' : ST} (hC : Cx p m c s args cX8_copy 7 RX8 G) (hQ : KI p l e (rmH 3) s m args below meth c Q cX8_copy G r S') : ∀ (n : Nat) (S : ST) (x1 : Int32) (x2 : Int32) (x3 : Int32) (x4 : Int32) (x5 : Int32) (x6 : Int32) (H : Heap) (locs : List Loc) (ls : Array Slot), va_P (gD G) vwCl (cells G S) H → va_S (gA G) s.heap H locs → lv_has ls 7 [(0, .ref (ad G 30)), (1, .int x1), (2, .int x2), (3, .int x3), (4, .int x4), (5, .int x5), (6, .int x6)] → f_X8_copy_101 n S x1 x2 x3 x4 x5 x6 = some (r, S') → W p l e (rmH 3) s m args below meth c H locs 0 0 Q (F0 m 101 ls []) := by
  obtain ⟨hx, hb, hml, hown, hts⟩ := id hC.1
  intro n
  induction n with
  | zero => intro S x1 x2 x3 x4 x5 x6 H locs ls hP hS hl hf; rw [f_X8_copy_101] at hf; cases hf
  | succ n ih =>
    intro S x1 x2 x3 x4 x5 x6 H locs ls hP hS hl hf
    rw [f_X8_copy_101] at hf
    refine lv_iload hx hb dX8_copy_101 (lv_at hl 6 rfl) ?_
    refine lv_iload hx hb dX8_copy_103 (lv_at hl 5 rfl) ?_
    refine lv_icmp_ge (tgt := 135) hx hb dX8_copy_105 (by decide) (fun hc => ?_) (fun hc => ?_)
    · rw [if_pos hc] at hf
      refine lv_iconst (v := 0) hx hb dX8_copy_135 (by decide) ?_
      refine lv_istore (lv' := [(6, .int 0), (0, .ref (ad G 30)), (1, .int x1), (2, .int x2), (3, .int x3), (4, .int x4), (5, .int x5)]) hx hb dX8_copy_136 hl (by decide) rfl (fun ls hl => ?_)
      exact w_X8_copy_138 hC hQ _ _ _ _ _ _ _ _ _ hP hS (lv_sub hl [1, 4, 5, 6, 0] rfl) hf
    · rw [if_neg hc] at hf
      refine lv_aload_n hx hb dX8_copy_108 rfl (lv_at hl 0 rfl) ?_
      refine gFr hC hP (j := 28) sg_30 vc_8 iT8 (by decide) rfl tb_4_99 dX8_copy_109 ?_
      refine lv_iload hx hb dX8_copy_112 (lv_at hl 6 rfl) ?_
      refine lv_aload_n hx hb dX8_copy_114 rfl (lv_at hl 0 rfl) ?_
      refine gFr hC hP (j := 27) sg_30 vc_8 iT8 (by decide) rfl tb_4_98 dX8_copy_115 ?_
      refine lv_bipush (v := 24) hx hb dX8_copy_118 (by decide) ?_
      refine lv_iload_n hx hb dX8_copy_120 rfl (lv_at hl 1 rfl) ?_
      refine lv_imul hx hb dX8_copy_121 ?_
      refine lv_iload_n hx hb dX8_copy_122 rfl (lv_at hl 2 rfl) ?_
      refine lv_iadd hx hb dX8_copy_123 ?_
      refine lv_iload hx hb dX8_copy_124 (lv_at hl 6 rfl) ?_
      refine lv_iadd hx hb dX8_copy_126 ?_
      obtain ⟨v1, hv, hf⟩ := ob_some hf
      refine gIa hC hP hv dX8_copy_127 ?_
      obtain ⟨S2, hv, hf⟩ := ob_some hf
      refine sIa hC hP hS hv dX8_copy_128 (fun H locs hP hS => ?_)
      refine lv_iinc (v := x6 + 1) (lv' := [(6, .int (x6 + 1)), (0, .ref (ad G 30)), (1, .int x1), (2, .int x2), (3, .int x3), (4, .int x4), (5, .int x5)]) hx hb dX8_copy_129 hl (k := 6) rfl rfl (by decide) rfl (fun ls hl => ?_)
      refine lv_goto (tgt := 101) hx hb dX8_copy_132 (by decide) ?_
      exact ih _ _ _ _ _ _ _ _ _ _ hP hS (lv_sub hl [1, 2, 3, 4, 5, 6, 0] rfl) hf
def f_X8_copy (S : ST) (x1 : Int32) (x2 : Int32) (x3 : Int32) (x4 : Int32) (x5 : Int32) : Option (Int32 × ST) := (f_X8_isSheet x1).bind fun v1 => if v1 = 0 then (some ((-1), S)) else ((f_X8_isSheet x3).bind fun v2 => if v2 = 0 then (some ((-1), S)) else ((rI S 0 46 x1).bind fun v3 => if v3 < 0 then (some ((-11), S)) else ((rI S 0 46 x3).bind fun v4 => if 0 ≤ v4 then ((rI S 0 46 x1).bind fun v5 => (rI S 0 46 x3).bind fun v6 => if v5 = v6 then (if x5 < 0 then (some ((-13), S)) else ((rI S 0 46 x1).bind fun v7 => (f_X8_finds S x1 v7 x2 x5).bind fun v8 => if v8 < 0 then (some ((-13), S)) else ((rI S 0 46 x3).bind fun v9 => (f_X8_finds S x3 v9 x4 x5).bind fun v10 => if 0 ≤ v10 then (f_X8_copy_101 FU S x1 x2 x3 x4 x5 0) else (some ((-13), S))))) else (some ((-12), S))) else (some ((-11), S)))))
set_option maxRecDepth 100000 in
set_option maxHeartbeats 4000000 in
theorem k_X8_copy (l : Launch) (G : GT) (S : ST) (x1 : Int32) (x2 : Int32) (x3 : Int32) (x4 : Int32) (x5 : Int32) (r : Int32) (S' : ST) (hf : f_X8_copy S x1 x2 x3 x4 x5 = some (r, S')) : MI l yX8_copy cX8_copy 7 (some .int) 3 [.ref (ad G 30), .int x1, .int x2, .int x3, .int x4, .int x5] G S r S' := by
  rw [f_X8_copy] at hf
  refine mkI (own := RX8) (by decide +kernel) rfl rfl (Nat.le_of_ble_eq_true rfl) (fun p e s m args below meth c Q ls hC hP hS hl hQ => ?_)
  have hl : lv_has ls 7 [(0, .ref (ad G 30)), (1, .int x1), (2, .int x2), (3, .int x3), (4, .int x4), (5, .int x5)] := hl
  obtain ⟨hx, hb, hml, hown, hts⟩ := id hC.1
  refine lv_iload_n hx hb dX8_copy_0 rfl (lv_at hl 1 rfl) ?_
  obtain ⟨v1, hv, hf⟩ := ob_some hf
  refine cI hS (runS hC hP hS (As := [.int x1]) (rest := []) (k_X8_isSheet l G S x1 _ hv) vy_X8_isSheet tb_5_182 tb_5_183 ⟨Nat.le_of_ble_eq_true rfl, Nat.le_of_ble_eq_true rfl⟩ rfl hl.1 rfl (Nat.le_of_ble_eq_true rfl) dX8_copy_1) (fun H locs hP hS => ?_)
  refine lv_if_eq (tgt := 14) hx hb dX8_copy_4 (by decide) (fun hc => ?_) (fun hc => ?_)
  · rw [if_pos hc] at hf
    refine lv_iconst (v := (-1)) hx hb dX8_copy_14 (by decide) ?_
    exact retIw hQ hf hP hS dX8_copy_15
  · rw [if_neg hc] at hf
    refine lv_iload_n hx hb dX8_copy_7 rfl (lv_at hl 3 rfl) ?_
    obtain ⟨v2, hv, hf⟩ := ob_some hf
    refine cI hS (runS hC hP hS (As := [.int x3]) (rest := []) (k_X8_isSheet l G S x3 _ hv) vy_X8_isSheet tb_5_182 tb_5_183 ⟨Nat.le_of_ble_eq_true rfl, Nat.le_of_ble_eq_true rfl⟩ rfl hl.1 rfl (Nat.le_of_ble_eq_true rfl) dX8_copy_8) (fun H locs hP hS => ?_)
    refine lv_if_ne (tgt := 16) hx hb dX8_copy_11 (by decide) (fun hc => ?_) (fun hc => ?_)
    · rw [if_neg hc] at hf
      refine lv_aload_n hx hb dX8_copy_16 rfl (lv_at hl 0 rfl) ?_
      refine gFr hC hP (j := 25) sg_30 vc_8 iT8 (by decide) rfl tb_4_96 dX8_copy_17 ?_
      refine lv_iload_n hx hb dX8_copy_20 rfl (lv_at hl 1 rfl) ?_
      obtain ⟨v3, hv, hf⟩ := ob_some hf
      refine gIa hC hP hv dX8_copy_21 ?_
      refine lv_if_lt (tgt := 34) hx hb dX8_copy_22 (by decide) (fun hc => ?_) (fun hc => ?_)
      · rw [if_pos hc] at hf
        refine lv_bipush (v := (-11)) hx hb dX8_copy_34 (by decide) ?_
        exact retIw hQ hf hP hS dX8_copy_36
      · rw [if_neg hc] at hf
        refine lv_aload_n hx hb dX8_copy_25 rfl (lv_at hl 0 rfl) ?_
        refine gFr hC hP (j := 25) sg_30 vc_8 iT8 (by decide) rfl tb_4_96 dX8_copy_26 ?_
        refine lv_iload_n hx hb dX8_copy_29 rfl (lv_at hl 3 rfl) ?_
        obtain ⟨v4, hv, hf⟩ := ob_some hf
        refine gIa hC hP hv dX8_copy_30 ?_
        refine lv_if_ge (tgt := 37) hx hb dX8_copy_31 (by decide) (fun hc => ?_) (fun hc => ?_)
        · rw [if_pos hc] at hf
          refine lv_aload_n hx hb dX8_copy_37 rfl (lv_at hl 0 rfl) ?_
          refine gFr hC hP (j := 25) sg_30 vc_8 iT8 (by decide) rfl tb_4_96 dX8_copy_38 ?_
          refine lv_iload_n hx hb dX8_copy_41 rfl (lv_at hl 1 rfl) ?_
          obtain ⟨v5, hv, hf⟩ := ob_some hf
          refine gIa hC hP hv dX8_copy_42 ?_
          refine lv_aload_n hx hb dX8_copy_43 rfl (lv_at hl 0 rfl) ?_
          refine gFr hC hP (j := 25) sg_30 vc_8 iT8 (by decide) rfl tb_4_96 dX8_copy_44 ?_
          refine lv_iload_n hx hb dX8_copy_47 rfl (lv_at hl 3 rfl) ?_
          obtain ⟨v6, hv, hf⟩ := ob_some hf
          refine gIa hC hP hv dX8_copy_48 ?_
          refine lv_icmp_eq (tgt := 55) hx hb dX8_copy_49 (by decide) (fun hc => ?_) (fun hc => ?_)
          · rw [if_pos hc] at hf
            refine lv_iload hx hb dX8_copy_55 (lv_at hl 5 rfl) ?_
            refine lv_if_lt (tgt := 95) hx hb dX8_copy_57 (by decide) (fun hc => ?_) (fun hc => ?_)
            · rw [if_pos hc] at hf
              refine lv_bipush (v := (-13)) hx hb dX8_copy_95 (by decide) ?_
              exact retIw hQ hf hP hS dX8_copy_97
            · rw [if_neg hc] at hf
              refine lv_aload_n hx hb dX8_copy_60 rfl (lv_at hl 0 rfl) ?_
              refine lv_iload_n hx hb dX8_copy_61 rfl (lv_at hl 1 rfl) ?_
              refine lv_aload_n hx hb dX8_copy_62 rfl (lv_at hl 0 rfl) ?_
              refine gFr hC hP (j := 25) sg_30 vc_8 iT8 (by decide) rfl tb_4_96 dX8_copy_63 ?_
              refine lv_iload_n hx hb dX8_copy_66 rfl (lv_at hl 1 rfl) ?_
              obtain ⟨v7, hv, hf⟩ := ob_some hf
              refine gIa hC hP hv dX8_copy_67 ?_
              refine lv_iload_n hx hb dX8_copy_68 rfl (lv_at hl 2 rfl) ?_
              refine lv_iload hx hb dX8_copy_69 (lv_at hl 5 rfl) ?_
              obtain ⟨v8, hv, hf⟩ := ob_some hf
              refine cI hS (runV hC hP hS (As := [.int x1, .int v7, .int x2, .int x5]) (rest := []) (k_X8_finds l G S x1 v7 x2 x5 _ hv) vy_X8_finds sg_30 vc_8 tb_5_188 tb_5_190 ts_49 ⟨Nat.le_of_ble_eq_true rfl, Nat.le_of_ble_eq_true rfl⟩ rfl hl.1 rfl (Nat.le_of_ble_eq_true rfl) dX8_copy_71) (fun H locs hP hS => ?_)
              refine lv_if_lt (tgt := 95) hx hb dX8_copy_74 (by decide) (fun hc => ?_) (fun hc => ?_)
              · rw [if_pos hc] at hf
                refine lv_bipush (v := (-13)) hx hb dX8_copy_95 (by decide) ?_
                exact retIw hQ hf hP hS dX8_copy_97
              · rw [if_neg hc] at hf
                refine lv_aload_n hx hb dX8_copy_77 rfl (lv_at hl 0 rfl) ?_
                refine lv_iload_n hx hb dX8_copy_78 rfl (lv_at hl 3 rfl) ?_
                refine lv_aload_n hx hb dX8_copy_79 rfl (lv_at hl 0 rfl) ?_
                refine gFr hC hP (j := 25) sg_30 vc_8 iT8 (by decide) rfl tb_4_96 dX8_copy_80 ?_
                refine lv_iload_n hx hb dX8_copy_83 rfl (lv_at hl 3 rfl) ?_
                obtain ⟨v9, hv, hf⟩ := ob_some hf
                refine gIa hC hP hv dX8_copy_84 ?_
                refine lv_iload hx hb dX8_copy_85 (lv_at hl 4 rfl) ?_
                refine lv_iload hx hb dX8_copy_87 (lv_at hl 5 rfl) ?_
                obtain ⟨v10, hv, hf⟩ := ob_some hf
                refine cI hS (runV hC hP hS (As := [.int x3, .int v9, .int x4, .int x5]) (rest := []) (k_X8_finds l G S x3 v9 x4 x5 _ hv) vy_X8_finds sg_30 vc_8 tb_5_188 tb_5_190 ts_49 ⟨Nat.le_of_ble_eq_true rfl, Nat.le_of_ble_eq_true rfl⟩ rfl hl.1 rfl (Nat.le_of_ble_eq_true rfl) dX8_copy_89) (fun H locs hP hS => ?_)
                refine lv_if_ge (tgt := 98) hx hb dX8_copy_92 (by decide) (fun hc => ?_) (fun hc => ?_)
                · rw [if_pos hc] at hf
                  refine lv_iconst (v := 0) hx hb dX8_copy_98 (by decide) ?_
                  refine lv_istore (lv' := [(6, .int 0), (0, .ref (ad G 30)), (1, .int x1), (2, .int x2), (3, .int x3), (4, .int x4), (5, .int x5)]) hx hb dX8_copy_99 hl (by decide) rfl (fun ls hl => ?_)
                  exact w_X8_copy_101 hC hQ _ _ _ _ _ _ _ _ _ _ _ hP hS (lv_sub hl [1, 2, 3, 4, 5, 6, 0] rfl) hf
                · rw [if_neg hc] at hf
                  refine lv_bipush (v := (-13)) hx hb dX8_copy_95 (by decide) ?_
                  exact retIw hQ hf hP hS dX8_copy_97
          · rw [if_neg hc] at hf
            refine lv_bipush (v := (-12)) hx hb dX8_copy_52 (by decide) ?_
            exact retIw hQ hf hP hS dX8_copy_54
        · rw [if_neg hc] at hf
          refine lv_bipush (v := (-11)) hx hb dX8_copy_34 (by decide) ?_
          exact retIw hQ hf hP hS dX8_copy_36
    · rw [if_pos hc] at hf
      refine lv_iconst (v := (-1)) hx hb dX8_copy_14 (by decide) ?_
      exact retIw hQ hf hP hS dX8_copy_15
end
