section
variable {p : Program} {l : Launch} {e : Env} {s : State} {m : MethodId} {args : Array Value} {below : List Frame} {meth : Method} {c : Code} {Q : State → Prop} {G : GT}

def f_X8_steered_121  (k40 : ST → Int32 → Int32 → Int64 → Int32 → Option (Int32 × ST)) (S : ST) (x1 : Int32) (x2 : Int32) (x5 : Int32) (y0 : Int64) (y1 : Int64) : Option (Int32 × ST) := (rL S 41 (x5 - 1)).bind fun v1 => (wL S 41 x5 (v1 + (y1 + y0))).bind fun S2 => (rL S2 41 x5).bind fun v3 => if 0 ≤ (lg_cmp v3 40) then (some (x5, S2)) else ((rL S2 41 x5).bind fun v4 => if 0 < (lg_cmp v4 (-40)) then (k40 S2 x1 x2 (y1 + y0) (x5 + 1)) else (some (x5, S2)))
set_option maxRecDepth 100000 in
set_option maxHeartbeats 4000000 in
theorem w_X8_steered_121 {r : Int32} {S' : ST} (hC : Cx p m c s args cX8_steered 7 RX8 G) (hQ : KI p l e (rmH 2) s m args below meth c Q cX8_steered G r S') {k40 : ST → Int32 → Int32 → Int64 → Int32 → Option (Int32 × ST)} (hk40 : ∀ (S : ST) (x1 : Int32) (x2 : Int32) (x3 : Int64) (x5 : Int32) (H : Heap) (locs : List Loc) (ls : Array Slot), va_P (gD G) vwCl (cells G S) H → va_S (gA G) s.heap H locs → lv_has ls 7 [(0, .ref (ad G 30)), (1, .int x1), (2, .int x2), (3, .long x3), (5, .int x5)] → k40 S x1 x2 x3 x5 = some (r, S') → W p l e (rmH 2) s m args below meth c H locs 0 0 Q (F0 m 40 ls [])) (S : ST) (x1 : Int32) (x2 : Int32) (x5 : Int32) (y0 : Int64) (y1 : Int64) (H : Heap) (locs : List Loc) (ls : Array Slot) (hP : va_P (gD G) vwCl (cells G S) H) (hS : va_S (gA G) s.heap H locs) (hl : lv_has ls 7 [(0, .ref (ad G 30)), (1, .int x1), (2, .int x2), (5, .int x5)]) (hf : f_X8_steered_121 k40 S x1 x2 x5 y0 y1 = some (r, S')) : W p l e (rmH 2) s m args below meth c H locs 0 0 Q (F0 m 121 ls [.long y0, .long y1]) := by
  obtain ⟨hx, hb, hml, hown, hts⟩ := id hC.1
  rw [f_X8_steered_121] at hf
  refine lv_ladd hx hb dX8_steered_121 ?_
  refine lv_lstore_n (lv' := [(3, .long (y1 + y0)), (0, .ref (ad G 30)), (1, .int x1), (2, .int x2), (5, .int x5)]) hx hb dX8_steered_122 rfl hl (by decide) rfl (fun ls hl => ?_)
  refine lv_aload_n hx hb dX8_steered_123 rfl (lv_at hl 1 rfl) ?_
  refine gFr hC hP (j := 19) sg_30 vc_8 iT8 (by decide) rfl tb_4_90 dX8_steered_124 ?_
  refine lv_iload hx hb dX8_steered_127 (lv_at hl 4 rfl) ?_
  refine lv_aload_n hx hb dX8_steered_129 rfl (lv_at hl 1 rfl) ?_
  refine gFr hC hP (j := 19) sg_30 vc_8 iT8 (by decide) rfl tb_4_90 dX8_steered_130 ?_
  refine lv_iload hx hb dX8_steered_133 (lv_at hl 4 rfl) ?_
  refine lv_iconst (v := 1) hx hb dX8_steered_135 (by decide) ?_
  refine lv_isub hx hb dX8_steered_136 ?_
  obtain ⟨v1, hv, hf⟩ := ob_some hf
  refine gLa hC hP hv dX8_steered_137 ?_
  refine lv_lload_n hx hb dX8_steered_138 rfl (lv_at hl 0 rfl) ?_
  refine lv_ladd hx hb dX8_steered_139 ?_
  obtain ⟨S2, hv, hf⟩ := ob_some hf
  refine sLa hC hP hS hv dX8_steered_140 (fun H locs hP hS => ?_)
  refine lv_aload_n hx hb dX8_steered_141 rfl (lv_at hl 1 rfl) ?_
  refine gFr hC hP (j := 19) sg_30 vc_8 iT8 (by decide) rfl tb_4_90 dX8_steered_142 ?_
  refine lv_iload hx hb dX8_steered_145 (lv_at hl 4 rfl) ?_
  obtain ⟨v3, hv, hf⟩ := ob_some hf
  refine gLa hC hP hv dX8_steered_147 ?_
  refine lv_ldc2 hx hb hown (hts _ tb_4_175) dX8_steered_148 ?_
  refine W.lcmp hx hb dX8_steered_151 ?_
  refine lv_if_ge (tgt := 169) hx hb dX8_steered_152 (by decide) (fun hc => ?_) (fun hc => ?_)
  · rw [if_pos hc] at hf
    refine lv_iload hx hb dX8_steered_169 (lv_at hl 4 rfl) ?_
    exact retIw hQ hf hP hS dX8_steered_171
  · rw [if_neg hc] at hf
    refine lv_aload_n hx hb dX8_steered_155 rfl (lv_at hl 1 rfl) ?_
    refine gFr hC hP (j := 19) sg_30 vc_8 iT8 (by decide) rfl tb_4_90 dX8_steered_156 ?_
    refine lv_iload hx hb dX8_steered_159 (lv_at hl 4 rfl) ?_
    obtain ⟨v4, hv, hf⟩ := ob_some hf
    refine gLa hC hP hv dX8_steered_161 ?_
    refine lv_ldc2 hx hb hown (hts _ tb_5_123) dX8_steered_162 ?_
    refine W.lcmp hx hb dX8_steered_165 ?_
    refine lv_if_gt (tgt := 172) hx hb dX8_steered_166 (by decide) (fun hc => ?_) (fun hc => ?_)
    · rw [if_pos hc] at hf
      refine lv_iinc (v := x5 + 1) (lv' := [(5, .int (x5 + 1)), (3, .long (y1 + y0)), (0, .ref (ad G 30)), (1, .int x1), (2, .int x2)]) hx hb dX8_steered_172 hl (k := 4) rfl rfl (by decide) rfl (fun ls hl => ?_)
      refine lv_goto (tgt := 40) hx hb dX8_steered_175 (by decide) ?_
      exact hk40 _ _ _ _ _ _ _ _ hP hS (lv_sub hl [2, 3, 4, 1, 0] rfl) hf
    · rw [if_neg hc] at hf
      refine lv_iload hx hb dX8_steered_169 (lv_at hl 4 rfl) ?_
      exact retIw hQ hf hP hS dX8_steered_171
def f_X8_steered_73  (k40 : ST → Int32 → Int32 → Int64 → Int32 → Option (Int32 × ST)) (S : ST) (x1 : Int32) (x2 : Int32) (x5 : Int32) (y0 : Int32) (y2 : Int64) (y3 : Int64) : Option (Int32 × ST) := (rL S 41 y0).bind fun v1 => (dvL (y2 * v1) 4).bind fun v2 => (rL S 41 (x5 - 1)).bind fun v3 => if (lg_cmp v3 0) ≤ 0 then ((rL S 41 (x5 - 1)).bind fun v4 => if 0 ≤ (lg_cmp v4 0) then (f_X8_steered_121 k40 S x1 x2 x5 0 (y3 - v2)) else (f_X8_steered_121 k40 S x1 x2 x5 (-1) (y3 - v2))) else (f_X8_steered_121 k40 S x1 x2 x5 1 (y3 - v2))
set_option maxRecDepth 100000 in
set_option maxHeartbeats 4000000 in
theorem w_X8_steered_73 {r : Int32} {S' : ST} (hC : Cx p m c s args cX8_steered 7 RX8 G) (hQ : KI p l e (rmH 2) s m args below meth c Q cX8_steered G r S') {k40 : ST → Int32 → Int32 → Int64 → Int32 → Option (Int32 × ST)} (hk40 : ∀ (S : ST) (x1 : Int32) (x2 : Int32) (x3 : Int64) (x5 : Int32) (H : Heap) (locs : List Loc) (ls : Array Slot), va_P (gD G) vwCl (cells G S) H → va_S (gA G) s.heap H locs → lv_has ls 7 [(0, .ref (ad G 30)), (1, .int x1), (2, .int x2), (3, .long x3), (5, .int x5)] → k40 S x1 x2 x3 x5 = some (r, S') → W p l e (rmH 2) s m args below meth c H locs 0 0 Q (F0 m 40 ls [])) (S : ST) (x1 : Int32) (x2 : Int32) (x5 : Int32) (y0 : Int32) (y2 : Int64) (y3 : Int64) (H : Heap) (locs : List Loc) (ls : Array Slot) (hP : va_P (gD G) vwCl (cells G S) H) (hS : va_S (gA G) s.heap H locs) (hl : lv_has ls 7 [(0, .ref (ad G 30)), (1, .int x1), (2, .int x2), (5, .int x5)]) (hf : f_X8_steered_73 k40 S x1 x2 x5 y0 y2 y3 = some (r, S')) : W p l e (rmH 2) s m args below meth c H locs 0 0 Q (F0 m 73 ls [.int y0, .ref (ad G 41), .long y2, .long y3]) := by
  obtain ⟨hx, hb, hml, hown, hts⟩ := id hC.1
  rw [f_X8_steered_73] at hf
  obtain ⟨v1, hv, hf⟩ := ob_some hf
  refine gLa hC hP hv dX8_steered_73 ?_
  refine lv_lmul hx hb dX8_steered_74 ?_
  refine lv_ldc2 hx hb hown (hts _ tb_5_122) dX8_steered_75 ?_
  obtain ⟨v2, hv, hf⟩ := ob_some hf
  refine xDvL hC hv dX8_steered_78 ?_
  refine lv_lsub hx hb dX8_steered_79 ?_
  refine lv_lstore_n (lv' := [(3, .long (y3 - v2)), (0, .ref (ad G 30)), (1, .int x1), (2, .int x2), (5, .int x5)]) hx hb dX8_steered_80 rfl hl (by decide) rfl (fun ls hl => ?_)
  refine lv_lload_n hx hb dX8_steered_81 rfl (lv_at hl 0 rfl) ?_
  refine lv_aload_n hx hb dX8_steered_82 rfl (lv_at hl 1 rfl) ?_
  refine gFr hC hP (j := 19) sg_30 vc_8 iT8 (by decide) rfl tb_4_90 dX8_steered_83 ?_
  refine lv_iload hx hb dX8_steered_86 (lv_at hl 4 rfl) ?_
  refine lv_iconst (v := 1) hx hb dX8_steered_88 (by decide) ?_
  refine lv_isub hx hb dX8_steered_89 ?_
  obtain ⟨v3, hv, hf⟩ := ob_some hf
  refine gLa hC hP hv dX8_steered_90 ?_
  refine lv_lconst (v := 0) hx hb dX8_steered_91 (by decide) ?_
  refine W.lcmp hx hb dX8_steered_92 ?_
  refine lv_if_le (tgt := 100) hx hb dX8_steered_93 (by decide) (fun hc => ?_) (fun hc => ?_)
  · rw [if_pos hc] at hf
    refine lv_aload_n hx hb dX8_steered_100 rfl (lv_at hl 1 rfl) ?_
    refine gFr hC hP (j := 19) sg_30 vc_8 iT8 (by decide) rfl tb_4_90 dX8_steered_101 ?_
    refine lv_iload hx hb dX8_steered_104 (lv_at hl 4 rfl) ?_
    refine lv_iconst (v := 1) hx hb dX8_steered_106 (by decide) ?_
    refine lv_isub hx hb dX8_steered_107 ?_
    obtain ⟨v4, hv, hf⟩ := ob_some hf
    refine gLa hC hP hv dX8_steered_108 ?_
    refine lv_lconst (v := 0) hx hb dX8_steered_109 (by decide) ?_
    refine W.lcmp hx hb dX8_steered_110 ?_
    refine lv_if_ge (tgt := 120) hx hb dX8_steered_111 (by decide) (fun hc => ?_) (fun hc => ?_)
    · rw [if_pos hc] at hf
      refine lv_lconst (v := 0) hx hb dX8_steered_120 (by decide) ?_
      exact w_X8_steered_121 hC hQ hk40  _ _ _ _ _ _ _ _ _ hP hS (lv_sub hl [1, 2, 3, 4] rfl) hf
    · rw [if_neg hc] at hf
      refine lv_ldc2 hx hb hown (hts _ tb_5_88) dX8_steered_114 ?_
      refine lv_goto (tgt := 121) hx hb dX8_steered_117 (by decide) ?_
      exact w_X8_steered_121 hC hQ hk40  _ _ _ _ _ _ _ _ _ hP hS (lv_sub hl [1, 2, 3, 4] rfl) hf
  · rw [if_neg hc] at hf
    refine lv_lconst (v := 1) hx hb dX8_steered_96 (by decide) ?_
    refine lv_goto (tgt := 121) hx hb dX8_steered_97 (by decide) ?_
    exact w_X8_steered_121 hC hQ hk40  _ _ _ _ _ _ _ _ _ hP hS (lv_sub hl [1, 2, 3, 4] rfl) hf
def f_X8_steered_40  : Nat → ST → Int32 → Int32 → Int64 → Int32 → Option (Int32 × ST)
  | 0, _, _, _, _, _ => none
  | n + 1, S, x1, x2, x3, x5 => if 61 ≤ x5 then (some (0, S)) else (if 0 ≤ ((x5 - x2) - 1) then (f_X8_steered_73 (f_X8_steered_40 n) S x1 x2 x5 ((x5 - x2) - 1) (x1.toInt64) x3) else (f_X8_steered_73 (f_X8_steered_40 n) S x1 x2 x5 0 (x1.toInt64) x3))
set_option maxRecDepth 100000 in
set_option maxHeartbeats 4000000 in
theorem w_X8_steered_40 {r : Int32} {S' : ST} (hC : Cx p m c s args cX8_steered 7 RX8 G) (hQ : KI p l e (rmH 2) s m args below meth c Q cX8_steered G r S') : ∀ (n : Nat) (S : ST) (x1 : Int32) (x2 : Int32) (x3 : Int64) (x5 : Int32) (H : Heap) (locs : List Loc) (ls : Array Slot), va_P (gD G) vwCl (cells G S) H → va_S (gA G) s.heap H locs → lv_has ls 7 [(0, .ref (ad G 30)), (1, .int x1), (2, .int x2), (3, .long x3), (5, .int x5)] → f_X8_steered_40 n S x1 x2 x3 x5 = some (r, S') → W p l e (rmH 2) s m args below meth c H locs 0 0 Q (F0 m 40 ls []) := by
  obtain ⟨hx, hb, hml, hown, hts⟩ := id hC.1
  intro n
  induction n with
  | zero => intro S x1 x2 x3 x5 H locs ls hP hS hl hf; rw [f_X8_steered_40] at hf; cases hf
  | succ n ih =>
    intro S x1 x2 x3 x5 H locs ls hP hS hl hf
    rw [f_X8_steered_40] at hf
    refine lv_iload hx hb dX8_steered_40 (lv_at hl 4 rfl) ?_
    refine lv_bipush (v := 61) hx hb dX8_steered_42 (by decide) ?_
    refine lv_icmp_ge (tgt := 178) hx hb dX8_steered_44 (by decide) (fun hc => ?_) (fun hc => ?_)
    · rw [if_pos hc] at hf
      refine lv_iconst (v := 0) hx hb dX8_steered_178 (by decide) ?_
      exact retIw hQ hf hP hS dX8_steered_179
    · rw [if_neg hc] at hf
      refine lv_iload hx hb dX8_steered_47 (lv_at hl 4 rfl) ?_
      refine lv_iload_n hx hb dX8_steered_49 rfl (lv_at hl 2 rfl) ?_
      refine lv_isub hx hb dX8_steered_50 ?_
      refine lv_iconst (v := 1) hx hb dX8_steered_51 (by decide) ?_
      refine lv_isub hx hb dX8_steered_52 ?_
      refine lv_istore (lv' := [(6, .int ((x5 - x2) - 1)), (0, .ref (ad G 30)), (1, .int x1), (2, .int x2), (3, .long x3), (5, .int x5)]) hx hb dX8_steered_53 hl (by decide) rfl (fun ls hl => ?_)
      refine lv_lload_n hx hb dX8_steered_55 rfl (lv_at hl 4 rfl) ?_
      refine lv_iload_n hx hb dX8_steered_56 rfl (lv_at hl 2 rfl) ?_
      refine lv_i2l (v := x1.toInt64) hx hb dX8_steered_57 rfl ?_
      refine lv_aload_n hx hb dX8_steered_58 rfl (lv_at hl 1 rfl) ?_
      refine gFr hC hP (j := 19) sg_30 vc_8 iT8 (by decide) rfl tb_4_90 dX8_steered_59 ?_
      refine lv_iload hx hb dX8_steered_62 (lv_at hl 0 rfl) ?_
      refine lv_if_ge (tgt := 71) hx hb dX8_steered_64 (by decide) (fun hc => ?_) (fun hc => ?_)
      · rw [if_pos hc] at hf
        refine lv_iload hx hb dX8_steered_71 (lv_at hl 0 rfl) ?_
        exact w_X8_steered_73 hC hQ ih  _ _ _ _ _ _ _ _ _ _ hP hS (lv_sub hl [1, 2, 3, 5] rfl) hf
      · rw [if_neg hc] at hf
        refine lv_iconst (v := 0) hx hb dX8_steered_67 (by decide) ?_
        refine lv_goto (tgt := 73) hx hb dX8_steered_68 (by decide) ?_
        exact w_X8_steered_73 hC hQ ih  _ _ _ _ _ _ _ _ _ _ hP hS (lv_sub hl [1, 2, 3, 5] rfl) hf
def f_X8_steered (S : ST) (x1 : Int32) (x2 : Int32) : Option (Int32 × ST) := (f_X8_in (x1.toInt64) 0 9).bind fun v1 => if v1 = 0 then (some ((-1), S)) else ((f_X8_in (x2.toInt64) 0 5).bind fun v2 => if v2 = 0 then (some ((-1), S)) else ((wL S 41 0 8).bind fun S3 => f_X8_steered_40 FU S3 x1 x2 0 1))
set_option maxRecDepth 100000 in
set_option maxHeartbeats 4000000 in
theorem k_X8_steered (l : Launch) (G : GT) (S : ST) (x1 : Int32) (x2 : Int32) (r : Int32) (S' : ST) (hf : f_X8_steered S x1 x2 = some (r, S')) : MI l yX8_steered cX8_steered 7 (some .int) 2 [.ref (ad G 30), .int x1, .int x2] G S r S' := by
  rw [f_X8_steered] at hf
  refine mkI (own := RX8) (by decide +kernel) rfl rfl (Nat.le_of_ble_eq_true rfl) (fun p e s m args below meth c Q ls hC hP hS hl hQ => ?_)
  have hl : lv_has ls 7 [(0, .ref (ad G 30)), (1, .int x1), (2, .int x2)] := hl
  obtain ⟨hx, hb, hml, hown, hts⟩ := id hC.1
  refine lv_iload_n hx hb dX8_steered_0 rfl (lv_at hl 1 rfl) ?_
  refine lv_i2l (v := x1.toInt64) hx hb dX8_steered_1 rfl ?_
  refine lv_lconst (v := 0) hx hb dX8_steered_2 (by decide) ?_
  refine lv_ldc2 hx hb hown (hts _ tb_4_174) dX8_steered_3 ?_
  obtain ⟨v1, hv, hf⟩ := ob_some hf
  refine cI hS (runS hC hP hS (As := [.long (x1.toInt64), .long 0, .long 9]) (rest := []) (k_X8_in l G S (x1.toInt64) 0 9 _ hv) vy_X8_in tb_4_169 tb_4_170 ⟨Nat.le_of_ble_eq_true rfl, Nat.le_of_ble_eq_true rfl⟩ rfl hl.1 rfl (Nat.le_of_ble_eq_true rfl) dX8_steered_6) (fun H locs hP hS => ?_)
  refine lv_if_eq (tgt := 24) hx hb dX8_steered_9 (by decide) (fun hc => ?_) (fun hc => ?_)
  · rw [if_pos hc] at hf
    refine lv_iconst (v := (-1)) hx hb dX8_steered_24 (by decide) ?_
    exact retIw hQ hf hP hS dX8_steered_25
  · rw [if_neg hc] at hf
    refine lv_iload_n hx hb dX8_steered_12 rfl (lv_at hl 2 rfl) ?_
    refine lv_i2l (v := x2.toInt64) hx hb dX8_steered_13 rfl ?_
    refine lv_lconst (v := 0) hx hb dX8_steered_14 (by decide) ?_
    refine lv_ldc2 hx hb hown (hts _ tb_4_192) dX8_steered_15 ?_
    obtain ⟨v2, hv, hf⟩ := ob_some hf
    refine cI hS (runS hC hP hS (As := [.long (x2.toInt64), .long 0, .long 5]) (rest := []) (k_X8_in l G S (x2.toInt64) 0 5 _ hv) vy_X8_in tb_4_169 tb_4_170 ⟨Nat.le_of_ble_eq_true rfl, Nat.le_of_ble_eq_true rfl⟩ rfl hl.1 rfl (Nat.le_of_ble_eq_true rfl) dX8_steered_18) (fun H locs hP hS => ?_)
    refine lv_if_ne (tgt := 26) hx hb dX8_steered_21 (by decide) (fun hc => ?_) (fun hc => ?_)
    · rw [if_neg hc] at hf
      refine lv_aload_n hx hb dX8_steered_26 rfl (lv_at hl 0 rfl) ?_
      refine gFr hC hP (j := 19) sg_30 vc_8 iT8 (by decide) rfl tb_4_90 dX8_steered_27 ?_
      refine lv_iconst (v := 0) hx hb dX8_steered_30 (by decide) ?_
      refine lv_ldc2 hx hb hown (hts _ tb_4_223) dX8_steered_31 ?_
      obtain ⟨S3, hv, hf⟩ := ob_some hf
      refine sLa hC hP hS hv dX8_steered_34 (fun H locs hP hS => ?_)
      refine lv_lconst (v := 0) hx hb dX8_steered_35 (by decide) ?_
      refine lv_lstore_n (lv' := [(3, .long 0), (0, .ref (ad G 30)), (1, .int x1), (2, .int x2)]) hx hb dX8_steered_36 rfl hl (by decide) rfl (fun ls hl => ?_)
      refine lv_iconst (v := 1) hx hb dX8_steered_37 (by decide) ?_
      refine lv_istore (lv' := [(5, .int 1), (3, .long 0), (0, .ref (ad G 30)), (1, .int x1), (2, .int x2)]) hx hb dX8_steered_38 hl (by decide) rfl (fun ls hl => ?_)
      exact w_X8_steered_40 hC hQ _ _ _ _ _ _ _ _ _ hP hS (lv_sub hl [2, 3, 4, 1, 0] rfl) hf
    · rw [if_pos hc] at hf
      refine lv_iconst (v := (-1)) hx hb dX8_steered_24 (by decide) ?_
      exact retIw hQ hf hP hS dX8_steered_25
def f_X8_may (S : ST) (x1 : Int32) (x2 : Int32) (x3 : Int32) (x4 : Int32) (x5 : Int32) : Option Int32 := (f_X8_isShip S x1).bind fun v1 => if v1 = 0 then (some (-1)) else ((f_X8_isShip S x2).bind fun v2 => if v2 = 0 then (some (-1)) else (if x1 = x2 then (some (-1)) else ((f_X8_isMile S x3).bind fun v3 => if v3 = 0 then (some (-1)) else ((f_X8_isPace x4).bind fun v4 => if v4 = 0 then (some (-1)) else ((f_X8_isPace x5).bind fun v5 => if v5 = 0 then (some (-1)) else ((rI S 0 31 ((6 * x3) + 1)).bind fun v6 => (rI S 0 34 ((3 * x1) + 1)).bind fun v7 => (rI S 0 34 ((3 * x2) + 1)).bind fun v8 => (dv ((x4 + x5) * (x4 + x5)) 20).bind fun v9 => if v6 < ((v7 + v8) + v9) then (some 0) else (some 1)))))))
set_option maxRecDepth 100000 in
set_option maxHeartbeats 4000000 in
theorem k_X8_may (l : Launch) (G : GT) (S : ST) (x1 : Int32) (x2 : Int32) (x3 : Int32) (x4 : Int32) (x5 : Int32) (r : Int32) (hf : f_X8_may S x1 x2 x3 x4 x5 = some r) : MI l yX8_may cX8_may 6 (some .int) 3 [.ref (ad G 30), .int x1, .int x2, .int x3, .int x4, .int x5] G S r S := by
  rw [f_X8_may] at hf
  refine mkI (own := RX8) (by decide +kernel) rfl rfl (Nat.le_of_ble_eq_true rfl) (fun p e s m args below meth c Q ls hC hP hS hl hQ => ?_)
  have hl : lv_has ls 6 [(0, .ref (ad G 30)), (1, .int x1), (2, .int x2), (3, .int x3), (4, .int x4), (5, .int x5)] := hl
  obtain ⟨hx, hb, hml, hown, hts⟩ := id hC.1
  refine lv_aload_n hx hb dX8_may_0 rfl (lv_at hl 0 rfl) ?_
  refine lv_iload_n hx hb dX8_may_1 rfl (lv_at hl 1 rfl) ?_
  obtain ⟨v1, hv, hf⟩ := ob_some hf
  refine cI hS (runV hC hP hS (As := [.int x1]) (rest := []) (k_X8_isShip l G S x1 _ hv) vy_X8_isShip sg_30 vc_8 tb_5_46 tb_5_48 ts_37 ⟨Nat.le_of_ble_eq_true rfl, Nat.le_of_ble_eq_true rfl⟩ rfl hl.1 rfl (Nat.le_of_ble_eq_true rfl) dX8_may_2) (fun H locs hP hS => ?_)
  refine lv_if_eq (tgt := 45) hx hb dX8_may_5 (by decide) (fun hc => ?_) (fun hc => ?_)
  · rw [if_pos hc] at hf
    refine lv_iconst (v := (-1)) hx hb dX8_may_45 (by decide) ?_
    exact retI hQ hf hP hS dX8_may_46
  · rw [if_neg hc] at hf
    refine lv_aload_n hx hb dX8_may_8 rfl (lv_at hl 0 rfl) ?_
    refine lv_iload_n hx hb dX8_may_9 rfl (lv_at hl 2 rfl) ?_
    obtain ⟨v2, hv, hf⟩ := ob_some hf
    refine cI hS (runV hC hP hS (As := [.int x2]) (rest := []) (k_X8_isShip l G S x2 _ hv) vy_X8_isShip sg_30 vc_8 tb_5_46 tb_5_48 ts_37 ⟨Nat.le_of_ble_eq_true rfl, Nat.le_of_ble_eq_true rfl⟩ rfl hl.1 rfl (Nat.le_of_ble_eq_true rfl) dX8_may_10) (fun H locs hP hS => ?_)
    refine lv_if_eq (tgt := 45) hx hb dX8_may_13 (by decide) (fun hc => ?_) (fun hc => ?_)
    · rw [if_pos hc] at hf
      refine lv_iconst (v := (-1)) hx hb dX8_may_45 (by decide) ?_
      exact retI hQ hf hP hS dX8_may_46
    · rw [if_neg hc] at hf
      refine lv_iload_n hx hb dX8_may_16 rfl (lv_at hl 1 rfl) ?_
      refine lv_iload_n hx hb dX8_may_17 rfl (lv_at hl 2 rfl) ?_
      refine lv_icmp_eq (tgt := 45) hx hb dX8_may_18 (by decide) (fun hc => ?_) (fun hc => ?_)
      · rw [if_pos hc] at hf
        refine lv_iconst (v := (-1)) hx hb dX8_may_45 (by decide) ?_
        exact retI hQ hf hP hS dX8_may_46
      · rw [if_neg hc] at hf
        refine lv_aload_n hx hb dX8_may_21 rfl (lv_at hl 0 rfl) ?_
        refine lv_iload_n hx hb dX8_may_22 rfl (lv_at hl 3 rfl) ?_
        obtain ⟨v3, hv, hf⟩ := ob_some hf
        refine cI hS (runV hC hP hS (As := [.int x3]) (rest := []) (k_X8_isMile l G S x3 _ hv) vy_X8_isMile sg_30 vc_8 tb_4_184 tb_4_186 ts_29 ⟨Nat.le_of_ble_eq_true rfl, Nat.le_of_ble_eq_true rfl⟩ rfl hl.1 rfl (Nat.le_of_ble_eq_true rfl) dX8_may_23) (fun H locs hP hS => ?_)
        refine lv_if_eq (tgt := 45) hx hb dX8_may_26 (by decide) (fun hc => ?_) (fun hc => ?_)
        · rw [if_pos hc] at hf
          refine lv_iconst (v := (-1)) hx hb dX8_may_45 (by decide) ?_
          exact retI hQ hf hP hS dX8_may_46
        · rw [if_neg hc] at hf
          refine lv_iload hx hb dX8_may_29 (lv_at hl 4 rfl) ?_
          obtain ⟨v4, hv, hf⟩ := ob_some hf
          refine cI hS (runS hC hP hS (As := [.int x4]) (rest := []) (k_X8_isPace l G S x4 _ hv) vy_X8_isPace tb_4_215 tb_4_216 ⟨Nat.le_of_ble_eq_true rfl, Nat.le_of_ble_eq_true rfl⟩ rfl hl.1 rfl (Nat.le_of_ble_eq_true rfl) dX8_may_31) (fun H locs hP hS => ?_)
          refine lv_if_eq (tgt := 45) hx hb dX8_may_34 (by decide) (fun hc => ?_) (fun hc => ?_)
          · rw [if_pos hc] at hf
            refine lv_iconst (v := (-1)) hx hb dX8_may_45 (by decide) ?_
            exact retI hQ hf hP hS dX8_may_46
          · rw [if_neg hc] at hf
            refine lv_iload hx hb dX8_may_37 (lv_at hl 5 rfl) ?_
            obtain ⟨v5, hv, hf⟩ := ob_some hf
            refine cI hS (runS hC hP hS (As := [.int x5]) (rest := []) (k_X8_isPace l G S x5 _ hv) vy_X8_isPace tb_4_215 tb_4_216 ⟨Nat.le_of_ble_eq_true rfl, Nat.le_of_ble_eq_true rfl⟩ rfl hl.1 rfl (Nat.le_of_ble_eq_true rfl) dX8_may_39) (fun H locs hP hS => ?_)
            refine lv_if_ne (tgt := 47) hx hb dX8_may_42 (by decide) (fun hc => ?_) (fun hc => ?_)
            · rw [if_neg hc] at hf
              refine lv_aload_n hx hb dX8_may_47 rfl (lv_at hl 0 rfl) ?_
              refine gFr hC hP (j := 1) sg_30 vc_8 iT8 (by decide) rfl tb_4_72 dX8_may_48 ?_
              refine lv_bipush (v := 6) hx hb dX8_may_51 (by decide) ?_
              refine lv_iload_n hx hb dX8_may_53 rfl (lv_at hl 3 rfl) ?_
              refine lv_imul hx hb dX8_may_54 ?_
              refine lv_iconst (v := 1) hx hb dX8_may_55 (by decide) ?_
              refine lv_iadd hx hb dX8_may_56 ?_
              obtain ⟨v6, hv, hf⟩ := ob_some hf
              refine gIa hC hP hv dX8_may_57 ?_
              refine lv_aload_n hx hb dX8_may_58 rfl (lv_at hl 0 rfl) ?_
              refine gFr hC hP (j := 5) sg_30 vc_8 iT8 (by decide) rfl tb_4_76 dX8_may_59 ?_
              refine lv_iconst (v := 3) hx hb dX8_may_62 (by decide) ?_
              refine lv_iload_n hx hb dX8_may_63 rfl (lv_at hl 1 rfl) ?_
              refine lv_imul hx hb dX8_may_64 ?_
              refine lv_iconst (v := 1) hx hb dX8_may_65 (by decide) ?_
              refine lv_iadd hx hb dX8_may_66 ?_
              obtain ⟨v7, hv, hf⟩ := ob_some hf
              refine gIa hC hP hv dX8_may_67 ?_
              refine lv_aload_n hx hb dX8_may_68 rfl (lv_at hl 0 rfl) ?_
              refine gFr hC hP (j := 5) sg_30 vc_8 iT8 (by decide) rfl tb_4_76 dX8_may_69 ?_
              refine lv_iconst (v := 3) hx hb dX8_may_72 (by decide) ?_
              refine lv_iload_n hx hb dX8_may_73 rfl (lv_at hl 2 rfl) ?_
              refine lv_imul hx hb dX8_may_74 ?_
              refine lv_iconst (v := 1) hx hb dX8_may_75 (by decide) ?_
              refine lv_iadd hx hb dX8_may_76 ?_
              obtain ⟨v8, hv, hf⟩ := ob_some hf
              refine gIa hC hP hv dX8_may_77 ?_
              refine lv_iadd hx hb dX8_may_78 ?_
              refine lv_iload hx hb dX8_may_79 (lv_at hl 4 rfl) ?_
              refine lv_iload hx hb dX8_may_81 (lv_at hl 5 rfl) ?_
              refine lv_iadd hx hb dX8_may_83 ?_
              refine lv_iload hx hb dX8_may_84 (lv_at hl 4 rfl) ?_
              refine lv_iload hx hb dX8_may_86 (lv_at hl 5 rfl) ?_
              refine lv_iadd hx hb dX8_may_88 ?_
              refine lv_imul hx hb dX8_may_89 ?_
              refine lv_bipush (v := 20) hx hb dX8_may_90 (by decide) ?_
              obtain ⟨v9, hv, hf⟩ := ob_some hf
              refine xDv hC hv dX8_may_92 ?_
              refine lv_iadd hx hb dX8_may_93 ?_
              refine lv_icmp_lt (tgt := 101) hx hb dX8_may_94 (by decide) (fun hc => ?_) (fun hc => ?_)
              · rw [if_pos hc] at hf
                refine lv_iconst (v := 0) hx hb dX8_may_101 (by decide) ?_
                exact retI hQ hf hP hS dX8_may_102
              · rw [if_neg hc] at hf
                refine lv_iconst (v := 1) hx hb dX8_may_97 (by decide) ?_
                refine lv_goto (tgt := 102) hx hb dX8_may_98 (by decide) ?_
                exact retI hQ hf hP hS dX8_may_102
            · rw [if_pos hc] at hf
              refine lv_iconst (v := (-1)) hx hb dX8_may_45 (by decide) ?_
              exact retI hQ hf hP hS dX8_may_46
def f_X8_meet_136 (S : ST)  (k68 : Int32 → Int32 → Int32 → Int32 → Int32 → Option Int32) (x2 : Int32) (x3 : Int32) (x5 : Int32) (x6 : Int32) (x7 : Int32) : Option Int32 := k68 x2 x3 x5 x6 (x7 + 1)
set_option maxRecDepth 100000 in
set_option maxHeartbeats 4000000 in
theorem w_X8_meet_136 {r : Int32} {S : ST} (hC : Cx p m c s args cX8_meet 10 RX8 G) (hQ : KI p l e (rmH 3) s m args below meth c Q cX8_meet G r S) {k68 : Int32 → Int32 → Int32 → Int32 → Int32 → Option Int32} (hk68 : ∀ (x2 : Int32) (x3 : Int32) (x5 : Int32) (x6 : Int32) (x7 : Int32) (H : Heap) (locs : List Loc) (ls : Array Slot), va_P (gD G) vwCl (cells G S) H → va_S (gA G) s.heap H locs → lv_has ls 10 [(0, .ref (ad G 30)), (2, .int x2), (3, .int x3), (5, .int x5), (6, .int x6), (7, .int x7)] → k68 x2 x3 x5 x6 x7 = some r → W p l e (rmH 3) s m args below meth c H locs 0 0 Q (F0 m 68 ls [])) (x2 : Int32) (x3 : Int32) (x5 : Int32) (x6 : Int32) (x7 : Int32) (H : Heap) (locs : List Loc) (ls : Array Slot) (hP : va_P (gD G) vwCl (cells G S) H) (hS : va_S (gA G) s.heap H locs) (hl : lv_has ls 10 [(0, .ref (ad G 30)), (2, .int x2), (3, .int x3), (5, .int x5), (6, .int x6), (7, .int x7)]) (hf : f_X8_meet_136 S k68 x2 x3 x5 x6 x7 = some r) : W p l e (rmH 3) s m args below meth c H locs 0 0 Q (F0 m 136 ls []) := by
  obtain ⟨hx, hb, hml, hown, hts⟩ := id hC.1
  rw [f_X8_meet_136] at hf
  refine lv_iinc (v := x7 + 1) (lv' := [(7, .int (x7 + 1)), (0, .ref (ad G 30)), (2, .int x2), (3, .int x3), (5, .int x5), (6, .int x6)]) hx hb dX8_meet_136 hl (k := 5) rfl rfl (by decide) rfl (fun ls hl => ?_)
  refine lv_goto (tgt := 68) hx hb dX8_meet_139 (by decide) ?_
  exact hk68 _ _ _ _ _ _ _ _ hP hS (lv_sub hl [1, 2, 3, 4, 5, 0] rfl) hf
def f_X8_meet_68 (S : ST)  : Nat → Int32 → Int32 → Int32 → Int32 → Int32 → Option Int32
  | 0, _, _, _, _, _ => none
  | n + 1, x2, x3, x5, x6, x7 => if (S.1 30 0) ≤ x7 then (some (-4)) else ((dv 60 x3).bind fun v1 => (dv 60 x6).bind fun v2 => (dv 60 x6).bind fun v3 => if ((x5 + ((((S.1 30 0) - 1) - x7) * v2)) + v3) ≤ (x2 + (x7 * v1)) then (f_X8_meet_136 S (f_X8_meet_68 S n) x2 x3 x5 x6 x7) else ((dv 60 x3).bind fun v4 => if ((x2 + (x7 * v1)) + v4) ≤ (x5 + ((((S.1 30 0) - 1) - x7) * v2)) then (f_X8_meet_136 S (f_X8_meet_68 S n) x2 x3 x5 x6 x7) else (some x7)))
set_option maxRecDepth 100000 in
set_option maxHeartbeats 4000000 in
theorem w_X8_meet_68 {r : Int32} {S : ST} (hC : Cx p m c s args cX8_meet 10 RX8 G) (hQ : KI p l e (rmH 3) s m args below meth c Q cX8_meet G r S) : ∀ (n : Nat) (x2 : Int32) (x3 : Int32) (x5 : Int32) (x6 : Int32) (x7 : Int32) (H : Heap) (locs : List Loc) (ls : Array Slot), va_P (gD G) vwCl (cells G S) H → va_S (gA G) s.heap H locs → lv_has ls 10 [(0, .ref (ad G 30)), (2, .int x2), (3, .int x3), (5, .int x5), (6, .int x6), (7, .int x7)] → f_X8_meet_68 S n x2 x3 x5 x6 x7 = some r → W p l e (rmH 3) s m args below meth c H locs 0 0 Q (F0 m 68 ls []) := by
  obtain ⟨hx, hb, hml, hown, hts⟩ := id hC.1
  intro n
  induction n with
  | zero => intro x2 x3 x5 x6 x7 H locs ls hP hS hl hf; rw [f_X8_meet_68] at hf; cases hf
  | succ n ih =>
    intro x2 x3 x5 x6 x7 H locs ls hP hS hl hf
    rw [f_X8_meet_68] at hf
    refine lv_iload hx hb dX8_meet_68 (lv_at hl 5 rfl) ?_
    refine lv_aload_n hx hb dX8_meet_70 rfl (lv_at hl 0 rfl) ?_
    refine gFi hC hP (j := 0) sg_30 vc_8 iT8 (by decide) rfl tb_4_71 dX8_meet_71 ?_
    refine lv_icmp_ge (tgt := 142) hx hb dX8_meet_74 (by decide) (fun hc => ?_) (fun hc => ?_)
    · rw [if_pos hc] at hf
      refine lv_bipush (v := (-4)) hx hb dX8_meet_142 (by decide) ?_
      exact retI hQ hf hP hS dX8_meet_144
    · rw [if_neg hc] at hf
      refine lv_iload_n hx hb dX8_meet_77 rfl (lv_at hl 1 rfl) ?_
      refine lv_iload hx hb dX8_meet_78 (lv_at hl 5 rfl) ?_
      refine lv_bipush (v := 60) hx hb dX8_meet_80 (by decide) ?_
      refine lv_iload_n hx hb dX8_meet_82 rfl (lv_at hl 2 rfl) ?_
      obtain ⟨v1, hv, hf⟩ := ob_some hf
      refine xDv hC hv dX8_meet_83 ?_
      refine lv_imul hx hb dX8_meet_84 ?_
      refine lv_iadd hx hb dX8_meet_85 ?_
      refine lv_istore (lv' := [(8, .int (x2 + (x7 * v1))), (0, .ref (ad G 30)), (2, .int x2), (3, .int x3), (5, .int x5), (6, .int x6), (7, .int x7)]) hx hb dX8_meet_86 hl (by decide) rfl (fun ls hl => ?_)
      refine lv_iload hx hb dX8_meet_88 (lv_at hl 4 rfl) ?_
      refine lv_aload_n hx hb dX8_meet_90 rfl (lv_at hl 1 rfl) ?_
      refine gFi hC hP (j := 0) sg_30 vc_8 iT8 (by decide) rfl tb_4_71 dX8_meet_91 ?_
      refine lv_iconst (v := 1) hx hb dX8_meet_94 (by decide) ?_
      refine lv_isub hx hb dX8_meet_95 ?_
      refine lv_iload hx hb dX8_meet_96 (lv_at hl 6 rfl) ?_
      refine lv_isub hx hb dX8_meet_98 ?_
      refine lv_bipush (v := 60) hx hb dX8_meet_99 (by decide) ?_
      refine lv_iload hx hb dX8_meet_101 (lv_at hl 5 rfl) ?_
      obtain ⟨v2, hv, hf⟩ := ob_some hf
      refine xDv hC hv dX8_meet_103 ?_
      refine lv_imul hx hb dX8_meet_104 ?_
      refine lv_iadd hx hb dX8_meet_105 ?_
      refine lv_istore (lv' := [(9, .int (x5 + ((((S.1 30 0) - 1) - x7) * v2))), (8, .int (x2 + (x7 * v1))), (0, .ref (ad G 30)), (2, .int x2), (3, .int x3), (5, .int x5), (6, .int x6), (7, .int x7)]) hx hb dX8_meet_106 hl (by decide) rfl (fun ls hl => ?_)
      refine lv_iload hx hb dX8_meet_108 (lv_at hl 1 rfl) ?_
      refine lv_iload hx hb dX8_meet_110 (lv_at hl 0 rfl) ?_
      refine lv_bipush (v := 60) hx hb dX8_meet_112 (by decide) ?_
      refine lv_iload hx hb dX8_meet_114 (lv_at hl 6 rfl) ?_
      obtain ⟨v3, hv, hf⟩ := ob_some hf
      refine xDv hC hv dX8_meet_116 ?_
      refine lv_iadd hx hb dX8_meet_117 ?_
      refine lv_icmp_ge (tgt := 136) hx hb dX8_meet_118 (by decide) (fun hc => ?_) (fun hc => ?_)
      · rw [if_pos hc] at hf
        exact w_X8_meet_136 hC hQ ih  _ _ _ _ _ _ _ _ hP hS (lv_sub hl [2, 3, 4, 5, 6, 7] rfl) hf
      · rw [if_neg hc] at hf
        refine lv_iload hx hb dX8_meet_121 (lv_at hl 0 rfl) ?_
        refine lv_iload hx hb dX8_meet_123 (lv_at hl 1 rfl) ?_
        refine lv_bipush (v := 60) hx hb dX8_meet_125 (by decide) ?_
        refine lv_iload_n hx hb dX8_meet_127 rfl (lv_at hl 4 rfl) ?_
        obtain ⟨v4, hv, hf⟩ := ob_some hf
        refine xDv hC hv dX8_meet_128 ?_
        refine lv_iadd hx hb dX8_meet_129 ?_
        refine lv_icmp_ge (tgt := 136) hx hb dX8_meet_130 (by decide) (fun hc => ?_) (fun hc => ?_)
        · rw [if_pos hc] at hf
          exact w_X8_meet_136 hC hQ ih  _ _ _ _ _ _ _ _ hP hS (lv_sub hl [2, 3, 4, 5, 6, 7] rfl) hf
        · rw [if_neg hc] at hf
          refine lv_iload hx hb dX8_meet_133 (lv_at hl 7 rfl) ?_
          exact retI hQ hf hP hS dX8_meet_135
def f_X8_meet (S : ST) (x1 : Int32) (x2 : Int32) (x3 : Int32) (x4 : Int32) (x5 : Int32) (x6 : Int32) : Option Int32 := (f_X8_isShip S x1).bind fun v1 => if v1 = 0 then (some (-1)) else ((f_X8_isShip S x4).bind fun v2 => if v2 = 0 then (some (-1)) else (if x1 = x4 then (some (-1)) else ((f_X8_isStart x2).bind fun v3 => if v3 = 0 then (some (-1)) else ((f_X8_isStart x5).bind fun v4 => if v4 = 0 then (some (-1)) else ((f_X8_isPace x3).bind fun v5 => if v5 = 0 then (some (-1)) else ((f_X8_isPace x6).bind fun v6 => if v6 = 0 then (some (-1)) else (if (S.1 30 0) = 0 then (some (-2)) else (f_X8_meet_68 S FU x2 x3 x5 x6 0))))))))
set_option maxRecDepth 100000 in
set_option maxHeartbeats 4000000 in
theorem k_X8_meet (l : Launch) (G : GT) (S : ST) (x1 : Int32) (x2 : Int32) (x3 : Int32) (x4 : Int32) (x5 : Int32) (x6 : Int32) (r : Int32) (hf : f_X8_meet S x1 x2 x3 x4 x5 x6 = some r) : MI l yX8_meet cX8_meet 10 (some .int) 3 [.ref (ad G 30), .int x1, .int x2, .int x3, .int x4, .int x5, .int x6] G S r S := by
  rw [f_X8_meet] at hf
  refine mkI (own := RX8) (by decide +kernel) rfl rfl (Nat.le_of_ble_eq_true rfl) (fun p e s m args below meth c Q ls hC hP hS hl hQ => ?_)
  have hl : lv_has ls 10 [(0, .ref (ad G 30)), (1, .int x1), (2, .int x2), (3, .int x3), (4, .int x4), (5, .int x5), (6, .int x6)] := hl
  obtain ⟨hx, hb, hml, hown, hts⟩ := id hC.1
  refine lv_aload_n hx hb dX8_meet_0 rfl (lv_at hl 0 rfl) ?_
  refine lv_iload_n hx hb dX8_meet_1 rfl (lv_at hl 1 rfl) ?_
  obtain ⟨v1, hv, hf⟩ := ob_some hf
  refine cI hS (runV hC hP hS (As := [.int x1]) (rest := []) (k_X8_isShip l G S x1 _ hv) vy_X8_isShip sg_30 vc_8 tb_5_46 tb_5_48 ts_37 ⟨Nat.le_of_ble_eq_true rfl, Nat.le_of_ble_eq_true rfl⟩ rfl hl.1 rfl (Nat.le_of_ble_eq_true rfl) dX8_meet_2) (fun H locs hP hS => ?_)
  refine lv_if_eq (tgt := 53) hx hb dX8_meet_5 (by decide) (fun hc => ?_) (fun hc => ?_)
  · rw [if_pos hc] at hf
    refine lv_iconst (v := (-1)) hx hb dX8_meet_53 (by decide) ?_
    exact retI hQ hf hP hS dX8_meet_54
  · rw [if_neg hc] at hf
    refine lv_aload_n hx hb dX8_meet_8 rfl (lv_at hl 0 rfl) ?_
    refine lv_iload hx hb dX8_meet_9 (lv_at hl 4 rfl) ?_
    obtain ⟨v2, hv, hf⟩ := ob_some hf
    refine cI hS (runV hC hP hS (As := [.int x4]) (rest := []) (k_X8_isShip l G S x4 _ hv) vy_X8_isShip sg_30 vc_8 tb_5_46 tb_5_48 ts_37 ⟨Nat.le_of_ble_eq_true rfl, Nat.le_of_ble_eq_true rfl⟩ rfl hl.1 rfl (Nat.le_of_ble_eq_true rfl) dX8_meet_11) (fun H locs hP hS => ?_)
    refine lv_if_eq (tgt := 53) hx hb dX8_meet_14 (by decide) (fun hc => ?_) (fun hc => ?_)
    · rw [if_pos hc] at hf
      refine lv_iconst (v := (-1)) hx hb dX8_meet_53 (by decide) ?_
      exact retI hQ hf hP hS dX8_meet_54
    · rw [if_neg hc] at hf
      refine lv_iload_n hx hb dX8_meet_17 rfl (lv_at hl 1 rfl) ?_
      refine lv_iload hx hb dX8_meet_18 (lv_at hl 4 rfl) ?_
      refine lv_icmp_eq (tgt := 53) hx hb dX8_meet_20 (by decide) (fun hc => ?_) (fun hc => ?_)
      · rw [if_pos hc] at hf
        refine lv_iconst (v := (-1)) hx hb dX8_meet_53 (by decide) ?_
        exact retI hQ hf hP hS dX8_meet_54
      · rw [if_neg hc] at hf
        refine lv_iload_n hx hb dX8_meet_23 rfl (lv_at hl 2 rfl) ?_
        obtain ⟨v3, hv, hf⟩ := ob_some hf
        refine cI hS (runS hC hP hS (As := [.int x2]) (rest := []) (k_X8_isStart l G S x2 _ hv) vy_X8_isStart tb_5_74 tb_5_75 ⟨Nat.le_of_ble_eq_true rfl, Nat.le_of_ble_eq_true rfl⟩ rfl hl.1 rfl (Nat.le_of_ble_eq_true rfl) dX8_meet_24) (fun H locs hP hS => ?_)
        refine lv_if_eq (tgt := 53) hx hb dX8_meet_27 (by decide) (fun hc => ?_) (fun hc => ?_)
        · rw [if_pos hc] at hf
          refine lv_iconst (v := (-1)) hx hb dX8_meet_53 (by decide) ?_
          exact retI hQ hf hP hS dX8_meet_54
        · rw [if_neg hc] at hf
          refine lv_iload hx hb dX8_meet_30 (lv_at hl 5 rfl) ?_
          obtain ⟨v4, hv, hf⟩ := ob_some hf
          refine cI hS (runS hC hP hS (As := [.int x5]) (rest := []) (k_X8_isStart l G S x5 _ hv) vy_X8_isStart tb_5_74 tb_5_75 ⟨Nat.le_of_ble_eq_true rfl, Nat.le_of_ble_eq_true rfl⟩ rfl hl.1 rfl (Nat.le_of_ble_eq_true rfl) dX8_meet_32) (fun H locs hP hS => ?_)
          refine lv_if_eq (tgt := 53) hx hb dX8_meet_35 (by decide) (fun hc => ?_) (fun hc => ?_)
          · rw [if_pos hc] at hf
            refine lv_iconst (v := (-1)) hx hb dX8_meet_53 (by decide) ?_
            exact retI hQ hf hP hS dX8_meet_54
          · rw [if_neg hc] at hf
            refine lv_iload_n hx hb dX8_meet_38 rfl (lv_at hl 3 rfl) ?_
            obtain ⟨v5, hv, hf⟩ := ob_some hf
            refine cI hS (runS hC hP hS (As := [.int x3]) (rest := []) (k_X8_isPace l G S x3 _ hv) vy_X8_isPace tb_4_215 tb_4_216 ⟨Nat.le_of_ble_eq_true rfl, Nat.le_of_ble_eq_true rfl⟩ rfl hl.1 rfl (Nat.le_of_ble_eq_true rfl) dX8_meet_39) (fun H locs hP hS => ?_)
            refine lv_if_eq (tgt := 53) hx hb dX8_meet_42 (by decide) (fun hc => ?_) (fun hc => ?_)
            · rw [if_pos hc] at hf
              refine lv_iconst (v := (-1)) hx hb dX8_meet_53 (by decide) ?_
              exact retI hQ hf hP hS dX8_meet_54
            · rw [if_neg hc] at hf
              refine lv_iload hx hb dX8_meet_45 (lv_at hl 6 rfl) ?_
              obtain ⟨v6, hv, hf⟩ := ob_some hf
              refine cI hS (runS hC hP hS (As := [.int x6]) (rest := []) (k_X8_isPace l G S x6 _ hv) vy_X8_isPace tb_4_215 tb_4_216 ⟨Nat.le_of_ble_eq_true rfl, Nat.le_of_ble_eq_true rfl⟩ rfl hl.1 rfl (Nat.le_of_ble_eq_true rfl) dX8_meet_47) (fun H locs hP hS => ?_)
              refine lv_if_ne (tgt := 55) hx hb dX8_meet_50 (by decide) (fun hc => ?_) (fun hc => ?_)
              · rw [if_neg hc] at hf
                refine lv_aload_n hx hb dX8_meet_55 rfl (lv_at hl 0 rfl) ?_
                refine gFi hC hP (j := 0) sg_30 vc_8 iT8 (by decide) rfl tb_4_71 dX8_meet_56 ?_
                refine lv_if_ne (tgt := 65) hx hb dX8_meet_59 (by decide) (fun hc => ?_) (fun hc => ?_)
                · rw [if_neg hc] at hf
                  refine lv_iconst (v := 0) hx hb dX8_meet_65 (by decide) ?_
                  refine lv_istore (lv' := [(7, .int 0), (0, .ref (ad G 30)), (1, .int x1), (2, .int x2), (3, .int x3), (4, .int x4), (5, .int x5), (6, .int x6)]) hx hb dX8_meet_66 hl (by decide) rfl (fun ls hl => ?_)
                  exact w_X8_meet_68 hC hQ _ _ _ _ _ _ _ _ _ hP hS (lv_sub hl [1, 3, 4, 6, 7, 0] rfl) hf
                · rw [if_pos hc] at hf
                  refine lv_bipush (v := (-2)) hx hb dX8_meet_62 (by decide) ?_
                  exact retI hQ hf hP hS dX8_meet_64
              · rw [if_pos hc] at hf
                refine lv_iconst (v := (-1)) hx hb dX8_meet_53 (by decide) ?_
                exact retI hQ hf hP hS dX8_meet_54
def f_X8_sumOf_52 (S : ST)  (k8 : Int32 → Int32 → Int32 → Int32 → Int32 → Option Int32) (x1 : Int32) (x2 : Int32) (x3 : Int32) (x5 : Int32) (y0 : Int32) : Option Int32 := k8 x1 x2 (x3 + y0) (y0 + x2) (x5 + 1)
set_option maxRecDepth 100000 in
set_option maxHeartbeats 4000000 in
theorem w_X8_sumOf_52 {r : Int32} {S : ST} (hC : Cx p m c s args cX8_sumOf 7 RX8 G) (hQ : KI p l e (rmH 1) s m args below meth c Q cX8_sumOf G r S) {k8 : Int32 → Int32 → Int32 → Int32 → Int32 → Option Int32} (hk8 : ∀ (x1 : Int32) (x2 : Int32) (x3 : Int32) (x4 : Int32) (x5 : Int32) (H : Heap) (locs : List Loc) (ls : Array Slot), va_P (gD G) vwCl (cells G S) H → va_S (gA G) s.heap H locs → lv_has ls 7 [(0, .ref (ad G 30)), (1, .int x1), (2, .int x2), (3, .int x3), (4, .int x4), (5, .int x5)] → k8 x1 x2 x3 x4 x5 = some r → W p l e (rmH 1) s m args below meth c H locs 0 0 Q (F0 m 8 ls [])) (x1 : Int32) (x2 : Int32) (x3 : Int32) (x5 : Int32) (y0 : Int32) (H : Heap) (locs : List Loc) (ls : Array Slot) (hP : va_P (gD G) vwCl (cells G S) H) (hS : va_S (gA G) s.heap H locs) (hl : lv_has ls 7 [(0, .ref (ad G 30)), (1, .int x1), (2, .int x2), (3, .int x3), (5, .int x5)]) (hf : f_X8_sumOf_52 S k8 x1 x2 x3 x5 y0 = some r) : W p l e (rmH 1) s m args below meth c H locs 0 0 Q (F0 m 52 ls [.int y0]) := by
  obtain ⟨hx, hb, hml, hown, hts⟩ := id hC.1
  rw [f_X8_sumOf_52] at hf
  refine lv_istore (lv' := [(6, .int y0), (0, .ref (ad G 30)), (1, .int x1), (2, .int x2), (3, .int x3), (5, .int x5)]) hx hb dX8_sumOf_52 hl (by decide) rfl (fun ls hl => ?_)
  refine lv_iload_n hx hb dX8_sumOf_54 rfl (lv_at hl 4 rfl) ?_
  refine lv_iload hx hb dX8_sumOf_55 (lv_at hl 0 rfl) ?_
  refine lv_iadd hx hb dX8_sumOf_57 ?_
  refine lv_istore_n (lv' := [(3, .int (x3 + y0)), (6, .int y0), (0, .ref (ad G 30)), (1, .int x1), (2, .int x2), (5, .int x5)]) hx hb dX8_sumOf_58 rfl hl (by decide) rfl (fun ls hl => ?_)
  refine lv_iload hx hb dX8_sumOf_59 (lv_at hl 1 rfl) ?_
  refine lv_iload_n hx hb dX8_sumOf_61 rfl (lv_at hl 4 rfl) ?_
  refine lv_iadd hx hb dX8_sumOf_62 ?_
  refine lv_istore (lv' := [(4, .int (y0 + x2)), (3, .int (x3 + y0)), (6, .int y0), (0, .ref (ad G 30)), (1, .int x1), (2, .int x2), (5, .int x5)]) hx hb dX8_sumOf_63 hl (by decide) rfl (fun ls hl => ?_)
  refine lv_iinc (v := x5 + 1) (lv' := [(5, .int (x5 + 1)), (4, .int (y0 + x2)), (3, .int (x3 + y0)), (6, .int y0), (0, .ref (ad G 30)), (1, .int x1), (2, .int x2)]) hx hb dX8_sumOf_65 hl (k := 6) rfl rfl (by decide) rfl (fun ls hl => ?_)
  refine lv_goto (tgt := 8) hx hb dX8_sumOf_68 (by decide) ?_
  exact hk8 _ _ _ _ _ _ _ _ hP hS (lv_sub hl [4, 5, 6, 2, 1, 0] rfl) hf
def f_X8_sumOf_8 (S : ST)  : Nat → Int32 → Int32 → Int32 → Int32 → Int32 → Option Int32
  | 0, _, _, _, _, _ => none
  | n + 1, x1, x2, x3, x4, x5 => if x1 ≤ x5 then (some x3) else (if 100000 ≤ x3 then (some x3) else (if 1440 ≤ x4 then (f_X8_sumOf_52 S (f_X8_sumOf_8 S n) x1 x2 x3 x5 100000) else ((rI S 0 43 x5).bind fun v1 => (rI S 0 42 ((1440 * v1) + x4)).bind fun v2 => f_X8_sumOf_52 S (f_X8_sumOf_8 S n) x1 x2 x3 x5 v2)))
set_option maxRecDepth 100000 in
set_option maxHeartbeats 4000000 in
theorem w_X8_sumOf_8 {r : Int32} {S : ST} (hC : Cx p m c s args cX8_sumOf 7 RX8 G) (hQ : KI p l e (rmH 1) s m args below meth c Q cX8_sumOf G r S) : ∀ (n : Nat) (x1 : Int32) (x2 : Int32) (x3 : Int32) (x4 : Int32) (x5 : Int32) (H : Heap) (locs : List Loc) (ls : Array Slot), va_P (gD G) vwCl (cells G S) H → va_S (gA G) s.heap H locs → lv_has ls 7 [(0, .ref (ad G 30)), (1, .int x1), (2, .int x2), (3, .int x3), (4, .int x4), (5, .int x5)] → f_X8_sumOf_8 S n x1 x2 x3 x4 x5 = some r → W p l e (rmH 1) s m args below meth c H locs 0 0 Q (F0 m 8 ls []) := by
  obtain ⟨hx, hb, hml, hown, hts⟩ := id hC.1
  intro n
  induction n with
  | zero => intro x1 x2 x3 x4 x5 H locs ls hP hS hl hf; rw [f_X8_sumOf_8] at hf; cases hf
  | succ n ih =>
    intro x1 x2 x3 x4 x5 H locs ls hP hS hl hf
    rw [f_X8_sumOf_8] at hf
    refine lv_iload hx hb dX8_sumOf_8 (lv_at hl 5 rfl) ?_
    refine lv_iload_n hx hb dX8_sumOf_10 rfl (lv_at hl 1 rfl) ?_
    refine lv_icmp_ge (tgt := 71) hx hb dX8_sumOf_11 (by decide) (fun hc => ?_) (fun hc => ?_)
    · rw [if_pos hc] at hf
      refine lv_iload_n hx hb dX8_sumOf_71 rfl (lv_at hl 3 rfl) ?_
      exact retI hQ hf hP hS dX8_sumOf_72
    · rw [if_neg hc] at hf
      refine lv_iload_n hx hb dX8_sumOf_14 rfl (lv_at hl 3 rfl) ?_
      refine lv_ldc hx hb hown (hts _ tb_5_83) dX8_sumOf_15 ?_
      refine lv_icmp_ge (tgt := 71) hx hb dX8_sumOf_17 (by decide) (fun hc => ?_) (fun hc => ?_)
      · rw [if_pos hc] at hf
        refine lv_iload_n hx hb dX8_sumOf_71 rfl (lv_at hl 3 rfl) ?_
        exact retI hQ hf hP hS dX8_sumOf_72
      · rw [if_neg hc] at hf
        refine lv_iload hx hb dX8_sumOf_20 (lv_at hl 4 rfl) ?_
        refine lv_sipush (v := 1440) hx hb dX8_sumOf_22 (by decide) ?_
        refine lv_icmp_ge (tgt := 50) hx hb dX8_sumOf_25 (by decide) (fun hc => ?_) (fun hc => ?_)
        · rw [if_pos hc] at hf
          refine lv_ldc hx hb hown (hts _ tb_5_83) dX8_sumOf_50 ?_
          exact w_X8_sumOf_52 hC hQ ih  _ _ _ _ _ _ _ _ hP hS (lv_sub hl [0, 1, 2, 3, 5] rfl) hf
        · rw [if_neg hc] at hf
          refine lv_aload_n hx hb dX8_sumOf_28 rfl (lv_at hl 0 rfl) ?_
          refine gFr hC hP (j := 20) sg_30 vc_8 iT8 (by decide) rfl tb_4_91 dX8_sumOf_29 ?_
          refine lv_sipush (v := 1440) hx hb dX8_sumOf_32 (by decide) ?_
          refine lv_aload_n hx hb dX8_sumOf_35 rfl (lv_at hl 0 rfl) ?_
          refine gFr hC hP (j := 21) sg_30 vc_8 iT8 (by decide) rfl tb_4_92 dX8_sumOf_36 ?_
          refine lv_iload hx hb dX8_sumOf_39 (lv_at hl 5 rfl) ?_
          obtain ⟨v1, hv, hf⟩ := ob_some hf
          refine gIa hC hP hv dX8_sumOf_41 ?_
          refine lv_imul hx hb dX8_sumOf_42 ?_
          refine lv_iload hx hb dX8_sumOf_43 (lv_at hl 4 rfl) ?_
          refine lv_iadd hx hb dX8_sumOf_45 ?_
          obtain ⟨v2, hv, hf⟩ := ob_some hf
          refine gIa hC hP hv dX8_sumOf_46 ?_
          refine lv_goto (tgt := 52) hx hb dX8_sumOf_47 (by decide) ?_
          exact w_X8_sumOf_52 hC hQ ih  _ _ _ _ _ _ _ _ hP hS (lv_sub hl [0, 1, 2, 3, 5] rfl) hf
def f_X8_sumOf (S : ST) (x1 : Int32) (x2 : Int32) : Option Int32 := f_X8_sumOf_8 S FU x1 x2 0 0 0
set_option maxRecDepth 100000 in
set_option maxHeartbeats 4000000 in
theorem k_X8_sumOf (l : Launch) (G : GT) (S : ST) (x1 : Int32) (x2 : Int32) (r : Int32) (hf : f_X8_sumOf S x1 x2 = some r) : MI l yX8_sumOf cX8_sumOf 7 (some .int) 1 [.ref (ad G 30), .int x1, .int x2] G S r S := by
  rw [f_X8_sumOf] at hf
  refine mkI (own := RX8) (by decide +kernel) rfl rfl (Nat.le_of_ble_eq_true rfl) (fun p e s m args below meth c Q ls hC hP hS hl hQ => ?_)
  have hl : lv_has ls 7 [(0, .ref (ad G 30)), (1, .int x1), (2, .int x2)] := hl
  obtain ⟨hx, hb, hml, hown, hts⟩ := id hC.1
  refine lv_iconst (v := 0) hx hb dX8_sumOf_0 (by decide) ?_
  refine lv_istore_n (lv' := [(3, .int 0), (0, .ref (ad G 30)), (1, .int x1), (2, .int x2)]) hx hb dX8_sumOf_1 rfl hl (by decide) rfl (fun ls hl => ?_)
  refine lv_iconst (v := 0) hx hb dX8_sumOf_2 (by decide) ?_
  refine lv_istore (lv' := [(4, .int 0), (3, .int 0), (0, .ref (ad G 30)), (1, .int x1), (2, .int x2)]) hx hb dX8_sumOf_3 hl (by decide) rfl (fun ls hl => ?_)
  refine lv_iconst (v := 0) hx hb dX8_sumOf_5 (by decide) ?_
  refine lv_istore (lv' := [(5, .int 0), (4, .int 0), (3, .int 0), (0, .ref (ad G 30)), (1, .int x1), (2, .int x2)]) hx hb dX8_sumOf_6 hl (by decide) rfl (fun ls hl => ?_)
  exact w_X8_sumOf_8 hC hQ _ _ _ _ _ _ _ _ _ hP hS (lv_sub hl [3, 4, 5, 2, 1, 0] rfl) hf
end
