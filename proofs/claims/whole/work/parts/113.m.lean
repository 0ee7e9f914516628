section
variable {p : Program} {l : Launch} {e : Env} {s : State} {m : MethodId} {args : Array Value} {below : List Frame} {meth : Method} {c : Code} {Q : State → Prop} {G : GT}

def f_X8_number_24  (S : ST)  : Option (Int32 × ST) := some (0, (sI S 30 9 1))
set_option maxRecDepth 100000 in
set_option maxHeartbeats 4000000 in
theorem w_X8_number_24 {r : Int32} {S' : ST} (hC : Cx p m c s args cX8_number 5 RX8 G) (hQ : KI p l e (rmH 2) s m args below meth c Q cX8_number G r S') (S : ST)  (H : Heap) (locs : List Loc) (ls : Array Slot) (hP : va_P (gD G) vwCl (cells G S) H) (hS : va_S (gA G) s.heap H locs) (hl : lv_has ls 5 [(0, .ref (ad G 30))]) (hf : f_X8_number_24 S = some (r, S')) : W p l e (rmH 2) s m args below meth c H locs 0 0 Q (F0 m 24 ls []) := by
  obtain ⟨hx, hb, hml, hown, hts⟩ := id hC.1
  rw [f_X8_number_24] at hf
  refine lv_aload_n hx hb dX8_number_24 rfl (lv_at hl 0 rfl) ?_
  refine lv_iconst (v := 1) hx hb dX8_number_25 (by decide) ?_
  refine pFi hC hP hS (j := 9) sg_30 vc_8 iT8 tyX8_ok nmX8 (by decide) rfl tb_4_80 rfl rfl rfl dX8_number_26 (fun H locs hP hS => ?_)
  refine lv_iconst (v := 0) hx hb dX8_number_29 (by decide) ?_
  exact retIw hQ hf hP hS dX8_number_30
def f_X8_number_156  (S : ST) (x4 : Int32) (y0 : Int32) : Option (Int32 × ST) := some (x4, (sI S 30 8 y0))
set_option maxRecDepth 100000 in
set_option maxHeartbeats 4000000 in
theorem w_X8_number_156 {r : Int32} {S' : ST} (hC : Cx p m c s args cX8_number 5 RX8 G) (hQ : KI p l e (rmH 2) s m args below meth c Q cX8_number G r S') (S : ST) (x4 : Int32) (y0 : Int32) (H : Heap) (locs : List Loc) (ls : Array Slot) (hP : va_P (gD G) vwCl (cells G S) H) (hS : va_S (gA G) s.heap H locs) (hl : lv_has ls 5 [(4, .int x4)]) (hf : f_X8_number_156 S x4 y0 = some (r, S')) : W p l e (rmH 2) s m args below meth c H locs 0 0 Q (F0 m 156 ls [.int y0, .ref (ad G 30)]) := by
  obtain ⟨hx, hb, hml, hown, hts⟩ := id hC.1
  rw [f_X8_number_156] at hf
  refine pFi hC hP hS (j := 8) sg_30 vc_8 iT8 tyX8_ok nmX8 (by decide) rfl tb_4_79 rfl rfl rfl dX8_number_156 (fun H locs hP hS => ?_)
  refine lv_iload hx hb dX8_number_159 (lv_at hl 0 rfl) ?_
  exact retIw hQ hf hP hS dX8_number_161
def f_X8_number_137  (S : ST) (x3 : Int32) (x4 : Int32) (y0 : Int32) : Option (Int32 × ST) := (bz y0).bind fun v1 => if ((sI S 30 9 v1).1 30 9) = 0 then (f_X8_number_156 (sI S 30 9 v1) x4 ((sI S 30 9 v1).1 30 8)) else (f_X8_number_156 (sI S 30 9 v1) x4 x3)
set_option maxRecDepth 100000 in
set_option maxHeartbeats 4000000 in
theorem w_X8_number_137 {r : Int32} {S' : ST} (hC : Cx p m c s args cX8_number 5 RX8 G) (hQ : KI p l e (rmH 2) s m args below meth c Q cX8_number G r S') (S : ST) (x3 : Int32) (x4 : Int32) (y0 : Int32) (H : Heap) (locs : List Loc) (ls : Array Slot) (hP : va_P (gD G) vwCl (cells G S) H) (hS : va_S (gA G) s.heap H locs) (hl : lv_has ls 5 [(0, .ref (ad G 30)), (3, .int x3), (4, .int x4)]) (hf : f_X8_number_137 S x3 x4 y0 = some (r, S')) : W p l e (rmH 2) s m args below meth c H locs 0 0 Q (F0 m 137 ls [.int y0, .ref (ad G 30)]) := by
  obtain ⟨hx, hb, hml, hown, hts⟩ := id hC.1
  rw [f_X8_number_137] at hf
  obtain ⟨v1, hv, hf⟩ := ob_some hf
  refine bzW hv ?_
  refine pFi hC hP hS (j := 9) sg_30 vc_8 iT8 tyX8_ok nmX8 (by decide) rfl tb_4_80 rfl (bz_n hv) (bz_f hv) dX8_number_137 (fun H locs hP hS => ?_)
  refine lv_aload_n hx hb dX8_number_140 rfl (lv_at hl 0 rfl) ?_
  refine lv_aload_n hx hb dX8_number_141 rfl (lv_at hl 0 rfl) ?_
  refine gFi hC hP (j := 9) sg_30 vc_8 iT8 (by decide) rfl tb_4_80 dX8_number_142 ?_
  refine lv_if_eq (tgt := 152) hx hb dX8_number_145 (by decide) (fun hc => ?_) (fun hc => ?_)
  · rw [if_pos hc] at hf
    refine lv_aload_n hx hb dX8_number_152 rfl (lv_at hl 0 rfl) ?_
    refine gFi hC hP (j := 8) sg_30 vc_8 iT8 (by decide) rfl tb_4_79 dX8_number_153 ?_
    exact w_X8_number_156 hC hQ  _ _ _ _ _ _ hP hS (lv_sub hl [2] rfl) hf
  · rw [if_neg hc] at hf
    refine lv_iload_n hx hb dX8_number_148 rfl (lv_at hl 1 rfl) ?_
    refine lv_goto (tgt := 156) hx hb dX8_number_149 (by decide) ?_
    exact w_X8_number_156 hC hQ  _ _ _ _ _ _ hP hS (lv_sub hl [2] rfl) hf
def f_X8_number_118  (S : ST) (x1 : Int32) (x2 : Int32) (x3 : Int32) (x4 : Int32) : Option (Int32 × ST) := (f_X8_in (x4.toInt64) (x1.toInt64) (x2.toInt64)).bind fun v1 => if v1 = 0 then (f_X8_number_137 S x3 x4 1) else (f_X8_number_137 S x3 x4 0)
set_option maxRecDepth 100000 in
set_option maxHeartbeats 4000000 in
theorem w_X8_number_118 {r : Int32} {S' : ST} (hC : Cx p m c s args cX8_number 5 RX8 G) (hQ : KI p l e (rmH 2) s m args below meth c Q cX8_number G r S') (S : ST) (x1 : Int32) (x2 : Int32) (x3 : Int32) (x4 : Int32) (H : Heap) (locs : List Loc) (ls : Array Slot) (hP : va_P (gD G) vwCl (cells G S) H) (hS : va_S (gA G) s.heap H locs) (hl : lv_has ls 5 [(0, .ref (ad G 30)), (1, .int x1), (2, .int x2), (3, .int x3), (4, .int x4)]) (hf : f_X8_number_118 S x1 x2 x3 x4 = some (r, S')) : W p l e (rmH 2) s m args below meth c H locs 0 0 Q (F0 m 118 ls []) := by
  obtain ⟨hx, hb, hml, hown, hts⟩ := id hC.1
  rw [f_X8_number_118] at hf
  refine lv_aload_n hx hb dX8_number_118 rfl (lv_at hl 0 rfl) ?_
  refine lv_iload hx hb dX8_number_119 (lv_at hl 4 rfl) ?_
  refine lv_i2l (v := x4.toInt64) hx hb dX8_number_121 rfl ?_
  refine lv_iload_n hx hb dX8_number_122 rfl (lv_at hl 1 rfl) ?_
  refine lv_i2l (v := x1.toInt64) hx hb dX8_number_123 rfl ?_
  refine lv_iload_n hx hb dX8_number_124 rfl (lv_at hl 2 rfl) ?_
  refine lv_i2l (v := x2.toInt64) hx hb dX8_number_125 rfl ?_
  obtain ⟨v1, hv, hf⟩ := ob_some hf
  refine cI hS (runS hC hP hS (As := [.long (x4.toInt64), .long (x1.toInt64), .long (x2.toInt64)]) (rest := [.ref (ad G 30)]) (k_X8_in l G S (x4.toInt64) (x1.toInt64) (x2.toInt64) _ hv) vy_X8_in tb_4_169 tb_4_170 ⟨Nat.le_of_ble_eq_true rfl, Nat.le_of_ble_eq_true rfl⟩ rfl hl.1 rfl (Nat.le_of_ble_eq_true rfl) dX8_number_126) (fun H locs hP hS => ?_)
  refine lv_if_ne (tgt := 136) hx hb dX8_number_129 (by decide) (fun hc => ?_) (fun hc => ?_)
  · rw [if_neg hc] at hf
    refine lv_iconst (v := 0) hx hb dX8_number_136 (by decide) ?_
    exact w_X8_number_137 hC hQ  _ _ _ _ _ _ _ hP hS (lv_sub hl [0, 3, 4] rfl) hf
  · rw [if_pos hc] at hf
    refine lv_iconst (v := 1) hx hb dX8_number_132 (by decide) ?_
    refine lv_goto (tgt := 137) hx hb dX8_number_133 (by decide) ?_
    exact w_X8_number_137 hC hQ  _ _ _ _ _ _ _ hP hS (lv_sub hl [0, 3, 4] rfl) hf
def f_X8_number_103  (k39 : ST → Int32 → Int32 → Int32 → Int32 → Option (Int32 × ST)) (S : ST) (x1 : Int32) (x2 : Int32) (x3 : Int32) (y0 : Int32) : Option (Int32 × ST) := k39 (sI S 30 8 ((S.1 30 8) + 1)) x1 x2 x3 y0
set_option maxRecDepth 100000 in
set_option maxHeartbeats 4000000 in
theorem w_X8_number_103 {r : Int32} {S' : ST} (hC : Cx p m c s args cX8_number 5 RX8 G) (hQ : KI p l e (rmH 2) s m args below meth c Q cX8_number G r S') {k39 : ST → Int32 → Int32 → Int32 → Int32 → Option (Int32 × ST)} (hk39 : ∀ (S : ST) (x1 : Int32) (x2 : Int32) (x3 : Int32) (x4 : Int32) (H : Heap) (locs : List Loc) (ls : Array Slot), va_P (gD G) vwCl (cells G S) H → va_S (gA G) s.heap H locs → lv_has ls 5 [(0, .ref (ad G 30)), (1, .int x1), (2, .int x2), (3, .int x3), (4, .int x4)] → k39 S x1 x2 x3 x4 = some (r, S') → W p l e (rmH 2) s m args below meth c H locs 0 0 Q (F0 m 39 ls [])) (S : ST) (x1 : Int32) (x2 : Int32) (x3 : Int32) (y0 : Int32) (H : Heap) (locs : List Loc) (ls : Array Slot) (hP : va_P (gD G) vwCl (cells G S) H) (hS : va_S (gA G) s.heap H locs) (hl : lv_has ls 5 [(0, .ref (ad G 30)), (1, .int x1), (2, .int x2), (3, .int x3)]) (hf : f_X8_number_103 k39 S x1 x2 x3 y0 = some (r, S')) : W p l e (rmH 2) s m args below meth c H locs 0 0 Q (F0 m 103 ls [.int y0]) := by
  obtain ⟨hx, hb, hml, hown, hts⟩ := id hC.1
  rw [f_X8_number_103] at hf
  refine lv_istore (lv' := [(4, .int y0), (0, .ref (ad G 30)), (1, .int x1), (2, .int x2), (3, .int x3)]) hx hb dX8_number_103 hl (by decide) rfl (fun ls hl => ?_)
  refine lv_aload_n hx hb dX8_number_105 rfl (lv_at hl 1 rfl) ?_
  refine lv_dup hx hb dX8_number_106 rfl ?_
  refine gFi hC hP (j := 8) sg_30 vc_8 iT8 (by decide) rfl tb_4_79 dX8_number_107 ?_
  refine lv_iconst (v := 1) hx hb dX8_number_110 (by decide) ?_
  refine lv_iadd hx hb dX8_number_111 ?_
  refine pFi hC hP hS (j := 8) sg_30 vc_8 iT8 tyX8_ok nmX8 (by decide) rfl tb_4_79 rfl rfl rfl dX8_number_112 (fun H locs hP hS => ?_)
  refine lv_goto (tgt := 39) hx hb dX8_number_115 (by decide) ?_
  exact hk39 _ _ _ _ _ _ _ _ hP hS (lv_sub hl [1, 2, 3, 4, 0] rfl) hf
def f_X8_number_39  : Nat → ST → Int32 → Int32 → Int32 → Int32 → Option (Int32 × ST)
  | 0, _, _, _, _, _ => none
  | n + 1, S, x1, x2, x3, x4 => if (S.1 30 7) ≤ (S.1 30 8) then (f_X8_number_118 S x1 x2 x3 x4) else ((rI S 0 35 (S.1 30 8)).bind fun v1 => (f_X8_in (v1.toInt64) 48 57).bind fun v2 => if v2 = 0 then (f_X8_number_118 S x1 x2 x3 x4) else (if x4 ≤ 999 then ((rI S 0 35 (S.1 30 8)).bind fun v3 => f_X8_number_103 (f_X8_number_39 n) S x1 x2 x3 (((10 * x4) + v3) - 48)) else (f_X8_number_103 (f_X8_number_39 n) S x1 x2 x3 x4)))
set_option maxRecDepth 100000 in
set_option maxHeartbeats 4000000 in
theorem w_X8_number_39 {r : Int32} {S' : ST} (hC : Cx p m c s args cX8_number 5 RX8 G) (hQ : KI p l e (rmH 2) s m args below meth c Q cX8_number G r S') : ∀ (n : Nat) (S : ST) (x1 : Int32) (x2 : Int32) (x3 : Int32) (x4 : Int32) (H : Heap) (locs : List Loc) (ls : Array Slot), va_P (gD G) vwCl (cells G S) H → va_S (gA G) s.heap H locs → lv_has ls 5 [(0, .ref (ad G 30)), (1, .int x1), (2, .int x2), (3, .int x3), (4, .int x4)] → f_X8_number_39 n S x1 x2 x3 x4 = some (r, S') → W p l e (rmH 2) s m args below meth c H locs 0 0 Q (F0 m 39 ls []) := by
  obtain ⟨hx, hb, hml, hown, hts⟩ := id hC.1
  intro n
  induction n with
  | zero => intro S x1 x2 x3 x4 H locs ls hP hS hl hf; rw [f_X8_number_39] at hf; cases hf
  | succ n ih =>
    intro S x1 x2 x3 x4 H locs ls hP hS hl hf
    rw [f_X8_number_39] at hf
    refine lv_aload_n hx hb dX8_number_39 rfl (lv_at hl 0 rfl) ?_
    refine gFi hC hP (j := 8) sg_30 vc_8 iT8 (by decide) rfl tb_4_79 dX8_number_40 ?_
    refine lv_aload_n hx hb dX8_number_43 rfl (lv_at hl 0 rfl) ?_
    refine gFi hC hP (j := 7) sg_30 vc_8 iT8 (by decide) rfl tb_4_78 dX8_number_44 ?_
    refine lv_icmp_ge (tgt := 118) hx hb dX8_number_47 (by decide) (fun hc => ?_) (fun hc => ?_)
    · rw [if_pos hc] at hf
      exact w_X8_number_118 hC hQ  _ _ _ _ _ _ _ _ hP hS (lv_sub hl [0, 1, 2, 3, 4] rfl) hf
    · rw [if_neg hc] at hf
      refine lv_aload_n hx hb dX8_number_50 rfl (lv_at hl 0 rfl) ?_
      refine gFr hC hP (j := 6) sg_30 vc_8 iT8 (by decide) rfl tb_4_77 dX8_number_51 ?_
      refine lv_aload_n hx hb dX8_number_54 rfl (lv_at hl 0 rfl) ?_
      refine gFi hC hP (j := 8) sg_30 vc_8 iT8 (by decide) rfl tb_4_79 dX8_number_55 ?_
      obtain ⟨v1, hv, hf⟩ := ob_some hf
      refine gIa hC hP hv dX8_number_58 ?_
      refine lv_i2l (v := v1.toInt64) hx hb dX8_number_59 rfl ?_
      refine lv_ldc2 hx hb hown (hts _ tb_5_3) dX8_number_60 ?_
      refine lv_ldc2 hx hb hown (hts _ tb_5_4) dX8_number_63 ?_
      obtain ⟨v2, hv, hf⟩ := ob_some hf
      refine cI hS (runS hC hP hS (As := [.long (v1.toInt64), .long 48, .long 57]) (rest := []) (k_X8_in l G S (v1.toInt64) 48 57 _ hv) vy_X8_in tb_4_169 tb_4_170 ⟨Nat.le_of_ble_eq_true rfl, Nat.le_of_ble_eq_true rfl⟩ rfl hl.1 rfl (Nat.le_of_ble_eq_true rfl) dX8_number_66) (fun H locs hP hS => ?_)
      refine lv_if_eq (tgt := 118) hx hb dX8_number_69 (by decide) (fun hc => ?_) (fun hc => ?_)
      · rw [if_pos hc] at hf
        exact w_X8_number_118 hC hQ  _ _ _ _ _ _ _ _ hP hS (lv_sub hl [0, 1, 2, 3, 4] rfl) hf
      · rw [if_neg hc] at hf
        refine lv_iload hx hb dX8_number_72 (lv_at hl 4 rfl) ?_
        refine lv_sipush (v := 999) hx hb dX8_number_74 (by decide) ?_
        refine lv_icmp_le (tgt := 85) hx hb dX8_number_77 (by decide) (fun hc => ?_) (fun hc => ?_)
        · rw [if_pos hc] at hf
          refine lv_bipush (v := 10) hx hb dX8_number_85 (by decide) ?_
          refine lv_iload hx hb dX8_number_87 (lv_at hl 4 rfl) ?_
          refine lv_imul hx hb dX8_number_89 ?_
          refine lv_aload_n hx hb dX8_number_90 rfl (lv_at hl 0 rfl) ?_
          refine gFr hC hP (j := 6) sg_30 vc_8 iT8 (by decide) rfl tb_4_77 dX8_number_91 ?_
          refine lv_aload_n hx hb dX8_number_94 rfl (lv_at hl 0 rfl) ?_
          refine gFi hC hP (j := 8) sg_30 vc_8 iT8 (by decide) rfl tb_4_79 dX8_number_95 ?_
          obtain ⟨v3, hv, hf⟩ := ob_some hf
          refine gIa hC hP hv dX8_number_98 ?_
          refine lv_iadd hx hb dX8_number_99 ?_
          refine lv_bipush (v := 48) hx hb dX8_number_100 (by decide) ?_
          refine lv_isub hx hb dX8_number_102 ?_
          exact w_X8_number_103 hC hQ ih  _ _ _ _ _ _ _ _ hP hS (lv_sub hl [0, 1, 2, 3] rfl) hf
        · rw [if_neg hc] at hf
          refine lv_iload hx hb dX8_number_80 (lv_at hl 4 rfl) ?_
          refine lv_goto (tgt := 103) hx hb dX8_number_82 (by decide) ?_
          exact w_X8_number_103 hC hQ ih  _ _ _ _ _ _ _ _ hP hS (lv_sub hl [0, 1, 2, 3] rfl) hf
def f_X8_number (S : ST) (x1 : Int32) (x2 : Int32) : Option (Int32 × ST) := if (S.1 30 9) = 0 then (b2 (f_X8_here S) fun v1 S2 => (f_X8_in (v1.toInt64) 48 57).bind fun v3 => if v3 = 0 then (f_X8_number_24 S2) else (f_X8_number_39 FU S2 x1 x2 (S2.1 30 8) 0)) else (f_X8_number_24 S)
set_option maxRecDepth 100000 in
set_option maxHeartbeats 4000000 in
theorem k_X8_number (l : Launch) (G : GT) (S : ST) (x1 : Int32) (x2 : Int32) (r : Int32) (S' : ST) (hf : f_X8_number S x1 x2 = some (r, S')) : MI l yX8_number cX8_number 5 (some .int) 2 [.ref (ad G 30), .int x1, .int x2] G S r S' := by
  rw [f_X8_number] at hf
  refine mkI (own := RX8) (by decide +kernel) rfl rfl (Nat.le_of_ble_eq_true rfl) (fun p e s m args below meth c Q ls hC hP hS hl hQ => ?_)
  have hl : lv_has ls 5 [(0, .ref (ad G 30)), (1, .int x1), (2, .int x2)] := hl
  obtain ⟨hx, hb, hml, hown, hts⟩ := id hC.1
  refine lv_aload_n hx hb dX8_number_0 rfl (lv_at hl 0 rfl) ?_
  refine gFi hC hP (j := 9) sg_30 vc_8 iT8 (by decide) rfl tb_4_80 dX8_number_1 ?_
  refine lv_if_ne (tgt := 24) hx hb dX8_number_4 (by decide) (fun hc => ?_) (fun hc => ?_)
  · rw [if_neg hc] at hf
    exact w_X8_number_24 hC hQ  _ _ _ _ hP hS (lv_sub hl [0] rfl) hf
  · rw [if_pos hc] at hf
    refine lv_aload_n hx hb dX8_number_7 rfl (lv_at hl 0 rfl) ?_
    obtain ⟨v1, S2, hv, hf⟩ := ob_two hf
    refine cI hS (runV hC hP hS (As := []) (rest := []) (k_X8_here l G S _ _ hv) vy_X8_here sg_30 vc_8 tb_4_239 tb_5_1 ts_32 ⟨Nat.le_of_ble_eq_true rfl, Nat.le_of_ble_eq_true rfl⟩ rfl hl.1 rfl (Nat.le_of_ble_eq_true rfl) dX8_number_8) (fun H locs hP hS => ?_)
    refine lv_i2l (v := v1.toInt64) hx hb dX8_number_11 rfl ?_
    refine lv_ldc2 hx hb hown (hts _ tb_5_3) dX8_number_12 ?_
    refine lv_ldc2 hx hb hown (hts _ tb_5_4) dX8_number_15 ?_
    obtain ⟨v3, hv, hf⟩ := ob_some hf
    refine cI hS (runS hC hP hS (As := [.long (v1.toInt64), .long 48, .long 57]) (rest := []) (k_X8_in l G S2 (v1.toInt64) 48 57 _ hv) vy_X8_in tb_4_169 tb_4_170 ⟨Nat.le_of_ble_eq_true rfl, Nat.le_of_ble_eq_true rfl⟩ rfl hl.1 rfl (Nat.le_of_ble_eq_true rfl) dX8_number_18) (fun H locs hP hS => ?_)
    refine lv_if_ne (tgt := 31) hx hb dX8_number_21 (by decide) (fun hc => ?_) (fun hc => ?_)
    · rw [if_neg hc] at hf
      refine lv_aload_n hx hb dX8_number_31 rfl (lv_at hl 0 rfl) ?_
      refine gFi hC hP (j := 8) sg_30 vc_8 iT8 (by decide) rfl tb_4_79 dX8_number_32 ?_
      refine lv_istore_n (lv' := [(3, .int (S2.1 30 8)), (0, .ref (ad G 30)), (1, .int x1), (2, .int x2)]) hx hb dX8_number_35 rfl hl (by decide) rfl (fun ls hl => ?_)
      refine lv_iconst (v := 0) hx hb dX8_number_36 (by decide) ?_
      refine lv_istore (lv' := [(4, .int 0), (3, .int (S2.1 30 8)), (0, .ref (ad G 30)), (1, .int x1), (2, .int x2)]) hx hb dX8_number_37 hl (by decide) rfl (fun ls hl => ?_)
      exact w_X8_number_39 hC hQ _ _ _ _ _ _ _ _ _ hP hS (lv_sub hl [2, 3, 4, 1, 0] rfl) hf
    · rw [if_pos hc] at hf
      exact w_X8_number_24 hC hQ  _ _ _ _ hP hS (lv_sub hl [0] rfl) hf
def f_X8_has_35  (S : ST) (x2 : Int32) (y0 : Int32) (y1 : Int32) : Option (Int32 × ST) := (bz x2).bind fun v1 => some (v1, (sI S 30 8 (y1 + y0)))
set_option maxRecDepth 100000 in
set_option maxHeartbeats 4000000 in
theorem w_X8_has_35 {r : Int32} {S' : ST} (hC : Cx p m c s args cX8_has 3 RX8 G) (hQ : KZ p l e (rmH 2) s m args below meth c Q cX8_has G r S') (S : ST) (x2 : Int32) (y0 : Int32) (y1 : Int32) (H : Heap) (locs : List Loc) (ls : Array Slot) (hP : va_P (gD G) vwCl (cells G S) H) (hS : va_S (gA G) s.heap H locs) (hl : lv_has ls 3 [(2, .int x2)]) (hf : f_X8_has_35 S x2 y0 y1 = some (r, S')) : W p l e (rmH 2) s m args below meth c H locs 0 0 Q (F0 m 35 ls [.int y0, .int y1, .ref (ad G 30)]) := by
  obtain ⟨hx, hb, hml, hown, hts⟩ := id hC.1
  rw [f_X8_has_35] at hf
  refine lv_iadd hx hb dX8_has_35 ?_
  refine pFi hC hP hS (j := 8) sg_30 vc_8 iT8 tyX8_ok nmX8 (by decide) rfl tb_4_79 rfl rfl rfl dX8_has_36 (fun H locs hP hS => ?_)
  refine lv_iload_n hx hb dX8_has_39 rfl (lv_at hl 0 rfl) ?_
  obtain ⟨v1, hv, hf⟩ := ob_some hf
  refine bzW hv ?_
  exact retZw hQ (bz_n hv) hf hP hS dX8_has_40
def f_X8_has_20  (S : ST) (y0 : Int32) : Option (Int32 × ST) := if y0 = 0 then (f_X8_has_35 S y0 0 (S.1 30 8)) else (f_X8_has_35 S y0 1 (S.1 30 8))
set_option maxRecDepth 100000 in
set_option maxHeartbeats 4000000 in
theorem w_X8_has_20 {r : Int32} {S' : ST} (hC : Cx p m c s args cX8_has 3 RX8 G) (hQ : KZ p l e (rmH 2) s m args below meth c Q cX8_has G r S') (S : ST) (y0 : Int32) (H : Heap) (locs : List Loc) (ls : Array Slot) (hP : va_P (gD G) vwCl (cells G S) H) (hS : va_S (gA G) s.heap H locs) (hl : lv_has ls 3 [(0, .ref (ad G 30))]) (hf : f_X8_has_20 S y0 = some (r, S')) : W p l e (rmH 2) s m args below meth c H locs 0 0 Q (F0 m 20 ls [.int y0]) := by
  obtain ⟨hx, hb, hml, hown, hts⟩ := id hC.1
  rw [f_X8_has_20] at hf
  refine lv_istore_n (lv' := [(2, .int y0), (0, .ref (ad G 30))]) hx hb dX8_has_20 rfl hl (by decide) rfl (fun ls hl => ?_)
  refine lv_aload_n hx hb dX8_has_21 rfl (lv_at hl 1 rfl) ?_
  refine lv_dup hx hb dX8_has_22 rfl ?_
  refine gFi hC hP (j := 8) sg_30 vc_8 iT8 (by decide) rfl tb_4_79 dX8_has_23 ?_
  refine lv_iload_n hx hb dX8_has_26 rfl (lv_at hl 0 rfl) ?_
  refine lv_if_eq (tgt := 34) hx hb dX8_has_27 (by decide) (fun hc => ?_) (fun hc => ?_)
  · rw [if_pos hc] at hf
    refine lv_iconst (v := 0) hx hb dX8_has_34 (by decide) ?_
    exact w_X8_has_35 hC hQ  _ _ _ _ _ _ _ hP hS (lv_sub hl [0] rfl) hf
  · rw [if_neg hc] at hf
    refine lv_iconst (v := 1) hx hb dX8_has_30 (by decide) ?_
    refine lv_goto (tgt := 35) hx hb dX8_has_31 (by decide) ?_
    exact w_X8_has_35 hC hQ  _ _ _ _ _ _ _ hP hS (lv_sub hl [0] rfl) hf
def f_X8_has_19  (S : ST)  : Option (Int32 × ST) := f_X8_has_20 S 0
set_option maxRecDepth 100000 in
set_option maxHeartbeats 4000000 in
theorem w_X8_has_19 {r : Int32} {S' : ST} (hC : Cx p m c s args cX8_has 3 RX8 G) (hQ : KZ p l e (rmH 2) s m args below meth c Q cX8_has G r S') (S : ST)  (H : Heap) (locs : List Loc) (ls : Array Slot) (hP : va_P (gD G) vwCl (cells G S) H) (hS : va_S (gA G) s.heap H locs) (hl : lv_has ls 3 [(0, .ref (ad G 30))]) (hf : f_X8_has_19 S = some (r, S')) : W p l e (rmH 2) s m args below meth c H locs 0 0 Q (F0 m 19 ls []) := by
  obtain ⟨hx, hb, hml, hown, hts⟩ := id hC.1
  rw [f_X8_has_19] at hf
  refine lv_iconst (v := 0) hx hb dX8_has_19 (by decide) ?_
  exact w_X8_has_20 hC hQ  _ _ _ _ _ hP hS (lv_sub hl [0] rfl) hf
def f_X8_has (S : ST) (x1 : Int32) : Option (Int32 × ST) := if (S.1 30 9) = 0 then (b2 (f_X8_here S) fun v1 S2 => if v1 = x1 then (f_X8_has_20 S2 1) else (f_X8_has_19 S2)) else (f_X8_has_19 S)
set_option maxRecDepth 100000 in
set_option maxHeartbeats 4000000 in
theorem k_X8_has (l : Launch) (G : GT) (S : ST) (x1 : Int32) (r : Int32) (S' : ST) (hf : f_X8_has S x1 = some (r, S')) : MI l yX8_has cX8_has 3 (some .boolean) 2 [.ref (ad G 30), .int x1] G S r S' := by
  rw [f_X8_has] at hf
  refine mkZ (own := RX8) (by decide +kernel) rfl (Nat.le_of_ble_eq_true rfl) (fun p e s m args below meth c Q ls hC hP hS hl hQ => ?_)
  have hl : lv_has ls 3 [(0, .ref (ad G 30)), (1, .int x1)] := hl
  obtain ⟨hx, hb, hml, hown, hts⟩ := id hC.1
  refine lv_aload_n hx hb dX8_has_0 rfl (lv_at hl 0 rfl) ?_
  refine gFi hC hP (j := 9) sg_30 vc_8 iT8 (by decide) rfl tb_4_80 dX8_has_1 ?_
  refine lv_if_ne (tgt := 19) hx hb dX8_has_4 (by decide) (fun hc => ?_) (fun hc => ?_)
  · rw [if_neg hc] at hf
    exact w_X8_has_19 hC hQ  _ _ _ _ hP hS (lv_sub hl [0] rfl) hf
  · rw [if_pos hc] at hf
    refine lv_aload_n hx hb dX8_has_7 rfl (lv_at hl 0 rfl) ?_
    obtain ⟨v1, S2, hv, hf⟩ := ob_two hf
    refine cI hS (runV hC hP hS (As := []) (rest := []) (k_X8_here l G S _ _ hv) vy_X8_here sg_30 vc_8 tb_4_239 tb_5_1 ts_32 ⟨Nat.le_of_ble_eq_true rfl, Nat.le_of_ble_eq_true rfl⟩ rfl hl.1 rfl (Nat.le_of_ble_eq_true rfl) dX8_has_8) (fun H locs hP hS => ?_)
    refine lv_iload_n hx hb dX8_has_11 rfl (lv_at hl 1 rfl) ?_
    refine lv_icmp_ne (tgt := 19) hx hb dX8_has_12 (by decide) (fun hc => ?_) (fun hc => ?_)
    · rw [if_neg hc] at hf
      exact w_X8_has_19 hC hQ  _ _ _ _ hP hS (lv_sub hl [0] rfl) hf
    · rw [if_pos hc] at hf
      refine lv_iconst (v := 1) hx hb dX8_has_15 (by decide) ?_
      refine lv_goto (tgt := 20) hx hb dX8_has_16 (by decide) ?_
      exact w_X8_has_20 hC hQ  _ _ _ _ _ hP hS (lv_sub hl [0] rfl) hf
def f_X8_digit_69  (S : ST) (x1 : Int32) (y0 : Int32) (y1 : Int32) : Option (Int32 × ST) := some (x1, (sI S 30 8 (y1 + y0)))
set_option maxRecDepth 100000 in
set_option maxHeartbeats 4000000 in
theorem w_X8_digit_69 {r : Int32} {S' : ST} (hC : Cx p m c s args cX8_digit 2 RX8 G) (hQ : KI p l e (rmH 2) s m args below meth c Q cX8_digit G r S') (S : ST) (x1 : Int32) (y0 : Int32) (y1 : Int32) (H : Heap) (locs : List Loc) (ls : Array Slot) (hP : va_P (gD G) vwCl (cells G S) H) (hS : va_S (gA G) s.heap H locs) (hl : lv_has ls 2 [(1, .int x1)]) (hf : f_X8_digit_69 S x1 y0 y1 = some (r, S')) : W p l e (rmH 2) s m args below meth c H locs 0 0 Q (F0 m 69 ls [.int y0, .int y1, .ref (ad G 30)]) := by
  obtain ⟨hx, hb, hml, hown, hts⟩ := id hC.1
  rw [f_X8_digit_69] at hf
  refine lv_iadd hx hb dX8_digit_69 ?_
  refine pFi hC hP hS (j := 8) sg_30 vc_8 iT8 tyX8_ok nmX8 (by decide) rfl tb_4_79 rfl rfl rfl dX8_digit_70 (fun H locs hP hS => ?_)
  refine lv_iload_n hx hb dX8_digit_73 rfl (lv_at hl 0 rfl) ?_
  exact retIw hQ hf hP hS dX8_digit_74
def f_X8_digit_51  (S : ST) (y0 : Int32) : Option (Int32 × ST) := if (S.1 30 9) = 0 then (f_X8_digit_69 S y0 1 (S.1 30 8)) else (f_X8_digit_69 S y0 0 (S.1 30 8))
set_option maxRecDepth 100000 in
set_option maxHeartbeats 4000000 in
theorem w_X8_digit_51 {r : Int32} {S' : ST} (hC : Cx p m c s args cX8_digit 2 RX8 G) (hQ : KI p l e (rmH 2) s m args below meth c Q cX8_digit G r S') (S : ST) (y0 : Int32) (H : Heap) (locs : List Loc) (ls : Array Slot) (hP : va_P (gD G) vwCl (cells G S) H) (hS : va_S (gA G) s.heap H locs) (hl : lv_has ls 2 [(0, .ref (ad G 30))]) (hf : f_X8_digit_51 S y0 = some (r, S')) : W p l e (rmH 2) s m args below meth c H locs 0 0 Q (F0 m 51 ls [.int y0]) := by
  obtain ⟨hx, hb, hml, hown, hts⟩ := id hC.1
  rw [f_X8_digit_51] at hf
  refine lv_istore_n (lv' := [(1, .int y0), (0, .ref (ad G 30))]) hx hb dX8_digit_51 rfl hl (by decide) rfl (fun ls hl => ?_)
  refine lv_aload_n hx hb dX8_digit_52 rfl (lv_at hl 1 rfl) ?_
  refine lv_dup hx hb dX8_digit_53 rfl ?_
  refine gFi hC hP (j := 8) sg_30 vc_8 iT8 (by decide) rfl tb_4_79 dX8_digit_54 ?_
  refine lv_aload_n hx hb dX8_digit_57 rfl (lv_at hl 1 rfl) ?_
  refine gFi hC hP (j := 9) sg_30 vc_8 iT8 (by decide) rfl tb_4_80 dX8_digit_58 ?_
  refine lv_if_eq (tgt := 68) hx hb dX8_digit_61 (by decide) (fun hc => ?_) (fun hc => ?_)
  · rw [if_pos hc] at hf
    refine lv_iconst (v := 1) hx hb dX8_digit_68 (by decide) ?_
    exact w_X8_digit_69 hC hQ  _ _ _ _ _ _ _ hP hS (lv_sub hl [0] rfl) hf
  · rw [if_neg hc] at hf
    refine lv_iconst (v := 0) hx hb dX8_digit_64 (by decide) ?_
    refine lv_goto (tgt := 69) hx hb dX8_digit_65 (by decide) ?_
    exact w_X8_digit_69 hC hQ  _ _ _ _ _ _ _ hP hS (lv_sub hl [0] rfl) hf
def f_X8_digit_30  (S : ST) (y0 : Int32) : Option (Int32 × ST) := (bz y0).bind fun v1 => if ((sI S 30 9 v1).1 30 9) = 0 then (b2 (f_X8_here (sI S 30 9 v1)) fun v2 S3 => f_X8_digit_51 S3 (v2 - 48)) else (f_X8_digit_51 (sI S 30 9 v1) 0)
set_option maxRecDepth 100000 in
set_option maxHeartbeats 4000000 in
theorem w_X8_digit_30 {r : Int32} {S' : ST} (hC : Cx p m c s args cX8_digit 2 RX8 G) (hQ : KI p l e (rmH 2) s m args below meth c Q cX8_digit G r S') (S : ST) (y0 : Int32) (H : Heap) (locs : List Loc) (ls : Array Slot) (hP : va_P (gD G) vwCl (cells G S) H) (hS : va_S (gA G) s.heap H locs) (hl : lv_has ls 2 [(0, .ref (ad G 30))]) (hf : f_X8_digit_30 S y0 = some (r, S')) : W p l e (rmH 2) s m args below meth c H locs 0 0 Q (F0 m 30 ls [.int y0, .ref (ad G 30)]) := by
  obtain ⟨hx, hb, hml, hown, hts⟩ := id hC.1
  rw [f_X8_digit_30] at hf
  obtain ⟨v1, hv, hf⟩ := ob_some hf
  refine bzW hv ?_
  refine pFi hC hP hS (j := 9) sg_30 vc_8 iT8 tyX8_ok nmX8 (by decide) rfl tb_4_80 rfl (bz_n hv) (bz_f hv) dX8_digit_30 (fun H locs hP hS => ?_)
  refine lv_aload_n hx hb dX8_digit_33 rfl (lv_at hl 0 rfl) ?_
  refine gFi hC hP (j := 9) sg_30 vc_8 iT8 (by decide) rfl tb_4_80 dX8_digit_34 ?_
  refine lv_if_eq (tgt := 44) hx hb dX8_digit_37 (by decide) (fun hc => ?_) (fun hc => ?_)
  · rw [if_pos hc] at hf
    refine lv_aload_n hx hb dX8_digit_44 rfl (lv_at hl 0 rfl) ?_
    obtain ⟨v2, S3, hv, hf⟩ := ob_two hf
    refine cI hS (runV hC hP hS (As := []) (rest := []) (k_X8_here l G (sI S 30 9 v1) _ _ hv) vy_X8_here sg_30 vc_8 tb_4_239 tb_5_1 ts_32 ⟨Nat.le_of_ble_eq_true rfl, Nat.le_of_ble_eq_true rfl⟩ rfl hl.1 rfl (Nat.le_of_ble_eq_true rfl) dX8_digit_45) (fun H locs hP hS => ?_)
    refine lv_bipush (v := 48) hx hb dX8_digit_48 (by decide) ?_
    refine lv_isub hx hb dX8_digit_50 ?_
    exact w_X8_digit_51 hC hQ  _ _ _ _ _ hP hS (lv_sub hl [0] rfl) hf
  · rw [if_neg hc] at hf
    refine lv_iconst (v := 0) hx hb dX8_digit_40 (by decide) ?_
    refine lv_goto (tgt := 51) hx hb dX8_digit_41 (by decide) ?_
    exact w_X8_digit_51 hC hQ  _ _ _ _ _ hP hS (lv_sub hl [0] rfl) hf
def f_X8_digit_25  (S : ST)  : Option (Int32 × ST) := f_X8_digit_30 S 1
set_option maxRecDepth 100000 in
set_option maxHeartbeats 4000000 in
theorem w_X8_digit_25 {r : Int32} {S' : ST} (hC : Cx p m c s args cX8_digit 2 RX8 G) (hQ : KI p l e (rmH 2) s m args below meth c Q cX8_digit G r S') (S : ST)  (H : Heap) (locs : List Loc) (ls : Array Slot) (hP : va_P (gD G) vwCl (cells G S) H) (hS : va_S (gA G) s.heap H locs) (hl : lv_has ls 2 [(0, .ref (ad G 30))]) (hf : f_X8_digit_25 S = some (r, S')) : W p l e (rmH 2) s m args below meth c H locs 0 0 Q (F0 m 25 ls [.ref (ad G 30)]) := by
  obtain ⟨hx, hb, hml, hown, hts⟩ := id hC.1
  rw [f_X8_digit_25] at hf
  refine lv_iconst (v := 1) hx hb dX8_digit_25 (by decide) ?_
  refine lv_goto (tgt := 30) hx hb dX8_digit_26 (by decide) ?_
  exact w_X8_digit_30 hC hQ  _ _ _ _ _ hP hS (lv_sub hl [0] rfl) hf
def f_X8_digit (S : ST)  : Option (Int32 × ST) := if (S.1 30 9) = 0 then (b2 (f_X8_here S) fun v1 S2 => (f_X8_in (v1.toInt64) 48 57).bind fun v3 => if v3 = 0 then (f_X8_digit_25 S2) else (f_X8_digit_30 S2 0)) else (f_X8_digit_25 S)
set_option maxRecDepth 100000 in
set_option maxHeartbeats 4000000 in
theorem k_X8_digit (l : Launch) (G : GT) (S : ST)  (r : Int32) (S' : ST) (hf : f_X8_digit S  = some (r, S')) : MI l yX8_digit cX8_digit 2 (some .int) 2 [.ref (ad G 30)] G S r S' := by
  rw [f_X8_digit] at hf
  refine mkI (own := RX8) (by decide +kernel) rfl rfl (Nat.le_of_ble_eq_true rfl) (fun p e s m args below meth c Q ls hC hP hS hl hQ => ?_)
  have hl : lv_has ls 2 [(0, .ref (ad G 30))] := hl
  obtain ⟨hx, hb, hml, hown, hts⟩ := id hC.1
  refine lv_aload_n hx hb dX8_digit_0 rfl (lv_at hl 0 rfl) ?_
  refine lv_aload_n hx hb dX8_digit_1 rfl (lv_at hl 0 rfl) ?_
  refine gFi hC hP (j := 9) sg_30 vc_8 iT8 (by decide) rfl tb_4_80 dX8_digit_2 ?_
  refine lv_if_ne (tgt := 25) hx hb dX8_digit_5 (by decide) (fun hc => ?_) (fun hc => ?_)
  · rw [if_neg hc] at hf
    exact w_X8_digit_25 hC hQ  _ _ _ _ hP hS (lv_sub hl [0] rfl) hf
  · rw [if_pos hc] at hf
    refine lv_aload_n hx hb dX8_digit_8 rfl (lv_at hl 0 rfl) ?_
    obtain ⟨v1, S2, hv, hf⟩ := ob_two hf
    refine cI hS (runV hC hP hS (As := []) (rest := [.ref (ad G 30)]) (k_X8_here l G S _ _ hv) vy_X8_here sg_30 vc_8 tb_4_239 tb_5_1 ts_32 ⟨Nat.le_of_ble_eq_true rfl, Nat.le_of_ble_eq_true rfl⟩ rfl hl.1 rfl (Nat.le_of_ble_eq_true rfl) dX8_digit_9) (fun H locs hP hS => ?_)
    refine lv_i2l (v := v1.toInt64) hx hb dX8_digit_12 rfl ?_
    refine lv_ldc2 hx hb hown (hts _ tb_5_3) dX8_digit_13 ?_
    refine lv_ldc2 hx hb hown (hts _ tb_5_4) dX8_digit_16 ?_
    obtain ⟨v3, hv, hf⟩ := ob_some hf
    refine cI hS (runS hC hP hS (As := [.long (v1.toInt64), .long 48, .long 57]) (rest := [.ref (ad G 30)]) (k_X8_in l G S2 (v1.toInt64) 48 57 _ hv) vy_X8_in tb_4_169 tb_4_170 ⟨Nat.le_of_ble_eq_true rfl, Nat.le_of_ble_eq_true rfl⟩ rfl hl.1 rfl (Nat.le_of_ble_eq_true rfl) dX8_digit_19) (fun H locs hP hS => ?_)
    refine lv_if_ne (tgt := 29) hx hb dX8_digit_22 (by decide) (fun hc => ?_) (fun hc => ?_)
    · rw [if_neg hc] at hf
      refine lv_iconst (v := 0) hx hb dX8_digit_29 (by decide) ?_
      exact w_X8_digit_30 hC hQ  _ _ _ _ _ hP hS (lv_sub hl [0] rfl) hf
    · rw [if_pos hc] at hf
      exact w_X8_digit_25 hC hQ  _ _ _ _ hP hS (lv_sub hl [0] rfl) hf
def f_X8_mileClause_130  (S : ST) (y0 : Int32) (y1 : Int32) : Option ST := (wI S 36 y1 y0).bind fun S1 => some S1
set_option maxRecDepth 100000 in
set_option maxHeartbeats 4000000 in
theorem w_X8_mileClause_130 {S' : ST} (hC : Cx p m c s args cX8_mileClause 2 RX8 G) (hQ : KV p l e (rmH 3) s m args below meth c Q cX8_mileClause G S') (S : ST) (y0 : Int32) (y1 : Int32) (H : Heap) (locs : List Loc) (ls : Array Slot) (hP : va_P (gD G) vwCl (cells G S) H) (hS : va_S (gA G) s.heap H locs) (hl : lv_has ls 2 []) (hf : f_X8_mileClause_130 S y0 y1 = some S') : W p l e (rmH 3) s m args below meth c H locs 0 0 Q (F0 m 130 ls [.int y0, .int y1, .ref (ad G 36)]) := by
  obtain ⟨hx, hb, hml, hown, hts⟩ := id hC.1
  rw [f_X8_mileClause_130] at hf
  obtain ⟨S1, hv, hf⟩ := ob_some hf
  refine sIa hC hP hS hv dX8_mileClause_130 (fun H locs hP hS => ?_)
  exact retV hQ hf hP hS dX8_mileClause_131
def f_X8_mileClause_102  (S : ST) (x1 : Int32) (y0 : Int32) (y1 : Int32) : Option ST := (wI S 36 y1 y0).bind fun S1 => b2 (f_X8_has S1 113) fun v2 S3 => if v2 = 0 then (f_X8_mileClause_130 S3 0 (x1 + 4)) else (b2 (f_X8_number S3 0 40) fun v4 S5 => f_X8_mileClause_130 S5 v4 (x1 + 4))
set_option maxRecDepth 100000 in
set_option maxHeartbeats 4000000 in
theorem w_X8_mileClause_102 {S' : ST} (hC : Cx p m c s args cX8_mileClause 2 RX8 G) (hQ : KV p l e (rmH 3) s m args below meth c Q cX8_mileClause G S') (S : ST) (x1 : Int32) (y0 : Int32) (y1 : Int32) (H : Heap) (locs : List Loc) (ls : Array Slot) (hP : va_P (gD G) vwCl (cells G S) H) (hS : va_S (gA G) s.heap H locs) (hl : lv_has ls 2 [(0, .ref (ad G 30)), (1, .int x1)]) (hf : f_X8_mileClause_102 S x1 y0 y1 = some S') : W p l e (rmH 3) s m args below meth c H locs 0 0 Q (F0 m 102 ls [.int y0, .int y1, .ref (ad G 36)]) := by
  obtain ⟨hx, hb, hml, hown, hts⟩ := id hC.1
  rw [f_X8_mileClause_102] at hf
  obtain ⟨S1, hv, hf⟩ := ob_some hf
  refine sIa hC hP hS hv dX8_mileClause_102 (fun H locs hP hS => ?_)
  refine lv_aload_n hx hb dX8_mileClause_103 rfl (lv_at hl 0 rfl) ?_
  refine gFr hC hP (j := 10) sg_30 vc_8 iT8 (by decide) rfl tb_4_81 dX8_mileClause_104 ?_
  refine lv_iload_n hx hb dX8_mileClause_107 rfl (lv_at hl 1 rfl) ?_
  refine lv_iconst (v := 4) hx hb dX8_mileClause_108 (by decide) ?_
  refine lv_iadd hx hb dX8_mileClause_109 ?_
  refine lv_aload_n hx hb dX8_mileClause_110 rfl (lv_at hl 0 rfl) ?_
  refine lv_bipush (v := 113) hx hb dX8_mileClause_111 (by decide) ?_
  obtain ⟨v2, S3, hv, hf⟩ := ob_two hf
  refine cI hS (runV hC hP hS (As := [.int 113]) (rest := [.int (x1 + 4), .ref (ad G 36)]) (k_X8_has l G S1 113 _ _ hv) vy_X8_has sg_30 vc_8 tb_5_5 tb_5_7 ts_33 ⟨Nat.le_of_ble_eq_true rfl, Nat.le_of_ble_eq_true rfl⟩ rfl hl.1 rfl (Nat.le_of_ble_eq_true rfl) dX8_mileClause_113) (fun H locs hP hS => ?_)
  refine lv_if_eq (tgt := 129) hx hb dX8_mileClause_116 (by decide) (fun hc => ?_) (fun hc => ?_)
  · rw [if_pos hc] at hf
    refine lv_iconst (v := 0) hx hb dX8_mileClause_129 (by decide) ?_
    exact w_X8_mileClause_130 hC hQ  _ _ _ _ _ _ hP hS (lv_sub hl [] rfl) hf
  · rw [if_neg hc] at hf
    refine lv_aload_n hx hb dX8_mileClause_119 rfl (lv_at hl 0 rfl) ?_
    refine lv_iconst (v := 0) hx hb dX8_mileClause_120 (by decide) ?_
    refine lv_bipush (v := 40) hx hb dX8_mileClause_121 (by decide) ?_
    obtain ⟨v4, S5, hv, hf⟩ := ob_two hf
    refine cI hS (runV hC hP hS (As := [.int 0, .int 40]) (rest := [.int (x1 + 4), .ref (ad G 36)]) (k_X8_number l G S3 0 40 _ _ hv) vy_X8_number sg_30 vc_8 tb_4_235 tb_4_237 ts_31 ⟨Nat.le_of_ble_eq_true rfl, Nat.le_of_ble_eq_true rfl⟩ rfl hl.1 rfl (Nat.le_of_ble_eq_true rfl) dX8_mileClause_123) (fun H locs hP hS => ?_)
    refine lv_goto (tgt := 130) hx hb dX8_mileClause_126 (by decide) ?_
    exact w_X8_mileClause_130 hC hQ  _ _ _ _ _ _ hP hS (lv_sub hl [] rfl) hf
def f_X8_mileClause_74  (S : ST) (x1 : Int32) (y0 : Int32) (y1 : Int32) : Option ST := (wI S 36 y1 y0).bind fun S1 => b2 (f_X8_has S1 109) fun v2 S3 => if v2 = 0 then (f_X8_mileClause_102 S3 x1 0 (x1 + 3)) else (b2 (f_X8_number S3 0 20) fun v4 S5 => f_X8_mileClause_102 S5 x1 v4 (x1 + 3))
set_option maxRecDepth 100000 in
set_option maxHeartbeats 4000000 in
theorem w_X8_mileClause_74 {S' : ST} (hC : Cx p m c s args cX8_mileClause 2 RX8 G) (hQ : KV p l e (rmH 3) s m args below meth c Q cX8_mileClause G S') (S : ST) (x1 : Int32) (y0 : Int32) (y1 : Int32) (H : Heap) (locs : List Loc) (ls : Array Slot) (hP : va_P (gD G) vwCl (cells G S) H) (hS : va_S (gA G) s.heap H locs) (hl : lv_has ls 2 [(0, .ref (ad G 30)), (1, .int x1)]) (hf : f_X8_mileClause_74 S x1 y0 y1 = some S') : W p l e (rmH 3) s m args below meth c H locs 0 0 Q (F0 m 74 ls [.int y0, .int y1, .ref (ad G 36)]) := by
  obtain ⟨hx, hb, hml, hown, hts⟩ := id hC.1
  rw [f_X8_mileClause_74] at hf
  obtain ⟨S1, hv, hf⟩ := ob_some hf
  refine sIa hC hP hS hv dX8_mileClause_74 (fun H locs hP hS => ?_)
  refine lv_aload_n hx hb dX8_mileClause_75 rfl (lv_at hl 0 rfl) ?_
  refine gFr hC hP (j := 10) sg_30 vc_8 iT8 (by decide) rfl tb_4_81 dX8_mileClause_76 ?_
  refine lv_iload_n hx hb dX8_mileClause_79 rfl (lv_at hl 1 rfl) ?_
  refine lv_iconst (v := 3) hx hb dX8_mileClause_80 (by decide) ?_
  refine lv_iadd hx hb dX8_mileClause_81 ?_
  refine lv_aload_n hx hb dX8_mileClause_82 rfl (lv_at hl 0 rfl) ?_
  refine lv_bipush (v := 109) hx hb dX8_mileClause_83 (by decide) ?_
  obtain ⟨v2, S3, hv, hf⟩ := ob_two hf
  refine cI hS (runV hC hP hS (As := [.int 109]) (rest := [.int (x1 + 3), .ref (ad G 36)]) (k_X8_has l G S1 109 _ _ hv) vy_X8_has sg_30 vc_8 tb_5_5 tb_5_7 ts_33 ⟨Nat.le_of_ble_eq_true rfl, Nat.le_of_ble_eq_true rfl⟩ rfl hl.1 rfl (Nat.le_of_ble_eq_true rfl) dX8_mileClause_85) (fun H locs hP hS => ?_)
  refine lv_if_eq (tgt := 101) hx hb dX8_mileClause_88 (by decide) (fun hc => ?_) (fun hc => ?_)
  · rw [if_pos hc] at hf
    refine lv_iconst (v := 0) hx hb dX8_mileClause_101 (by decide) ?_
    exact w_X8_mileClause_102 hC hQ  _ _ _ _ _ _ _ hP hS (lv_sub hl [0, 1] rfl) hf
  · rw [if_neg hc] at hf
    refine lv_aload_n hx hb dX8_mileClause_91 rfl (lv_at hl 0 rfl) ?_
    refine lv_iconst (v := 0) hx hb dX8_mileClause_92 (by decide) ?_
    refine lv_bipush (v := 20) hx hb dX8_mileClause_93 (by decide) ?_
    obtain ⟨v4, S5, hv, hf⟩ := ob_two hf
    refine cI hS (runV hC hP hS (As := [.int 0, .int 20]) (rest := [.int (x1 + 3), .ref (ad G 36)]) (k_X8_number l G S3 0 20 _ _ hv) vy_X8_number sg_30 vc_8 tb_4_235 tb_4_237 ts_31 ⟨Nat.le_of_ble_eq_true rfl, Nat.le_of_ble_eq_true rfl⟩ rfl hl.1 rfl (Nat.le_of_ble_eq_true rfl) dX8_mileClause_95) (fun H locs hP hS => ?_)
    refine lv_goto (tgt := 102) hx hb dX8_mileClause_98 (by decide) ?_
    exact w_X8_mileClause_102 hC hQ  _ _ _ _ _ _ _ hP hS (lv_sub hl [0, 1] rfl) hf
def f_X8_mileClause_30  (S : ST) (x1 : Int32) (y0 : Int32) : Option ST := (bz y0).bind fun v1 => b2 (f_X8_number (sI S 30 9 v1) 10 99) fun v2 S3 => (wI S3 36 (x1 + 1) v2).bind fun S4 => b2 (f_X8_has S4 115) fun v5 S6 => if v5 = 0 then (f_X8_mileClause_74 S6 x1 9 (x1 + 2)) else (b2 (f_X8_digit S6) fun v7 S8 => f_X8_mileClause_74 S8 x1 v7 (x1 + 2))
set_option maxRecDepth 100000 in
set_option maxHeartbeats 4000000 in
theorem w_X8_mileClause_30 {S' : ST} (hC : Cx p m c s args cX8_mileClause 2 RX8 G) (hQ : KV p l e (rmH 3) s m args below meth c Q cX8_mileClause G S') (S : ST) (x1 : Int32) (y0 : Int32) (H : Heap) (locs : List Loc) (ls : Array Slot) (hP : va_P (gD G) vwCl (cells G S) H) (hS : va_S (gA G) s.heap H locs) (hl : lv_has ls 2 [(0, .ref (ad G 30)), (1, .int x1)]) (hf : f_X8_mileClause_30 S x1 y0 = some S') : W p l e (rmH 3) s m args below meth c H locs 0 0 Q (F0 m 30 ls [.int y0, .ref (ad G 30)]) := by
  obtain ⟨hx, hb, hml, hown, hts⟩ := id hC.1
  rw [f_X8_mileClause_30] at hf
  obtain ⟨v1, hv, hf⟩ := ob_some hf
  refine bzW hv ?_
  refine pFi hC hP hS (j := 9) sg_30 vc_8 iT8 tyX8_ok nmX8 (by decide) rfl tb_4_80 rfl (bz_n hv) (bz_f hv) dX8_mileClause_30 (fun H locs hP hS => ?_)
  refine lv_aload_n hx hb dX8_mileClause_33 rfl (lv_at hl 0 rfl) ?_
  refine gFr hC hP (j := 10) sg_30 vc_8 iT8 (by decide) rfl tb_4_81 dX8_mileClause_34 ?_
  refine lv_iload_n hx hb dX8_mileClause_37 rfl (lv_at hl 1 rfl) ?_
  refine lv_iconst (v := 1) hx hb dX8_mileClause_38 (by decide) ?_
  refine lv_iadd hx hb dX8_mileClause_39 ?_
  refine lv_aload_n hx hb dX8_mileClause_40 rfl (lv_at hl 0 rfl) ?_
  refine lv_bipush (v := 10) hx hb dX8_mileClause_41 (by decide) ?_
  refine lv_bipush (v := 99) hx hb dX8_mileClause_43 (by decide) ?_
  obtain ⟨v2, S3, hv, hf⟩ := ob_two hf
  refine cI hS (runV hC hP hS (As := [.int 10, .int 99]) (rest := [.int (x1 + 1), .ref (ad G 36)]) (k_X8_number l G (sI S 30 9 v1) 10 99 _ _ hv) vy_X8_number sg_30 vc_8 tb_4_235 tb_4_237 ts_31 ⟨Nat.le_of_ble_eq_true rfl, Nat.le_of_ble_eq_true rfl⟩ rfl hl.1 rfl (Nat.le_of_ble_eq_true rfl) dX8_mileClause_45) (fun H locs hP hS => ?_)
  obtain ⟨S4, hv, hf⟩ := ob_some hf
  refine sIa hC hP hS hv dX8_mileClause_48 (fun H locs hP hS => ?_)
  refine lv_aload_n hx hb dX8_mileClause_49 rfl (lv_at hl 0 rfl) ?_
  refine gFr hC hP (j := 10) sg_30 vc_8 iT8 (by decide) rfl tb_4_81 dX8_mileClause_50 ?_
  refine lv_iload_n hx hb dX8_mileClause_53 rfl (lv_at hl 1 rfl) ?_
  refine lv_iconst (v := 2) hx hb dX8_mileClause_54 (by decide) ?_
  refine lv_iadd hx hb dX8_mileClause_55 ?_
  refine lv_aload_n hx hb dX8_mileClause_56 rfl (lv_at hl 0 rfl) ?_
  refine lv_bipush (v := 115) hx hb dX8_mileClause_57 (by decide) ?_
  obtain ⟨v5, S6, hv, hf⟩ := ob_two hf
  refine cI hS (runV hC hP hS (As := [.int 115]) (rest := [.int (x1 + 2), .ref (ad G 36)]) (k_X8_has l G S4 115 _ _ hv) vy_X8_has sg_30 vc_8 tb_5_5 tb_5_7 ts_33 ⟨Nat.le_of_ble_eq_true rfl, Nat.le_of_ble_eq_true rfl⟩ rfl hl.1 rfl (Nat.le_of_ble_eq_true rfl) dX8_mileClause_59) (fun H locs hP hS => ?_)
  refine lv_if_eq (tgt := 72) hx hb dX8_mileClause_62 (by decide) (fun hc => ?_) (fun hc => ?_)
  · rw [if_pos hc] at hf
    refine lv_bipush (v := 9) hx hb dX8_mileClause_72 (by decide) ?_
    exact w_X8_mileClause_74 hC hQ  _ _ _ _ _ _ _ hP hS (lv_sub hl [0, 1] rfl) hf
  · rw [if_neg hc] at hf
    refine lv_aload_n hx hb dX8_mileClause_65 rfl (lv_at hl 0 rfl) ?_
    obtain ⟨v7, S8, hv, hf⟩ := ob_two hf
    refine cI hS (runV hC hP hS (As := []) (rest := [.int (x1 + 2), .ref (ad G 36)]) (k_X8_digit l G S6 _ _ hv) vy_X8_digit sg_30 vc_8 tb_5_9 tb_5_11 ts_34 ⟨Nat.le_of_ble_eq_true rfl, Nat.le_of_ble_eq_true rfl⟩ rfl hl.1 rfl (Nat.le_of_ble_eq_true rfl) dX8_mileClause_66) (fun H locs hP hS => ?_)
    refine lv_goto (tgt := 74) hx hb dX8_mileClause_69 (by decide) ?_
    exact w_X8_mileClause_74 hC hQ  _ _ _ _ _ _ _ hP hS (lv_sub hl [0, 1] rfl) hf
def f_X8_mileClause (S : ST) (x1 : Int32) : Option ST := b2 (f_X8_number S 20 250) fun v1 S2 => (wI S2 36 x1 v1).bind fun S3 => b2 (f_X8_has S3 119) fun v4 S5 => if v4 = 0 then (f_X8_mileClause_30 S5 x1 1) else (f_X8_mileClause_30 S5 x1 0)
set_option maxRecDepth 100000 in
set_option maxHeartbeats 4000000 in
theorem k_X8_mileClause (l : Launch) (G : GT) (S : ST) (x1 : Int32) (S' : ST) (hf : f_X8_mileClause S x1 = some S') : MV l yX8_mileClause cX8_mileClause 2 3 [.ref (ad G 30), .int x1] G S S' := by
  rw [f_X8_mileClause] at hf
  refine mkV (own := RX8) (by decide +kernel) rfl (Nat.le_of_ble_eq_true rfl) (fun p e s m args below meth c Q ls hC hP hS hl hQ => ?_)
  have hl : lv_has ls 2 [(0, .ref (ad G 30)), (1, .int x1)] := hl
  obtain ⟨hx, hb, hml, hown, hts⟩ := id hC.1
  refine lv_aload_n hx hb dX8_mileClause_0 rfl (lv_at hl 0 rfl) ?_
  refine gFr hC hP (j := 10) sg_30 vc_8 iT8 (by decide) rfl tb_4_81 dX8_mileClause_1 ?_
  refine lv_iload_n hx hb dX8_mileClause_4 rfl (lv_at hl 1 rfl) ?_
  refine lv_aload_n hx hb dX8_mileClause_5 rfl (lv_at hl 0 rfl) ?_
  refine lv_bipush (v := 20) hx hb dX8_mileClause_6 (by decide) ?_
  refine lv_sipush (v := 250) hx hb dX8_mileClause_8 (by decide) ?_
  obtain ⟨v1, S2, hv, hf⟩ := ob_two hf
  refine cI hS (runV hC hP hS (As := [.int 20, .int 250]) (rest := [.int x1, .ref (ad G 36)]) (k_X8_number l G S 20 250 _ _ hv) vy_X8_number sg_30 vc_8 tb_4_235 tb_4_237 ts_31 ⟨Nat.le_of_ble_eq_true rfl, Nat.le_of_ble_eq_true rfl⟩ rfl hl.1 rfl (Nat.le_of_ble_eq_true rfl) dX8_mileClause_11) (fun H locs hP hS => ?_)
  obtain ⟨S3, hv, hf⟩ := ob_some hf
  refine sIa hC hP hS hv dX8_mileClause_14 (fun H locs hP hS => ?_)
  refine lv_aload_n hx hb dX8_mileClause_15 rfl (lv_at hl 0 rfl) ?_
  refine lv_aload_n hx hb dX8_mileClause_16 rfl (lv_at hl 0 rfl) ?_
  refine lv_bipush (v := 119) hx hb dX8_mileClause_17 (by decide) ?_
  obtain ⟨v4, S5, hv, hf⟩ := ob_two hf
  refine cI hS (runV hC hP hS (As := [.int 119]) (rest := [.ref (ad G 30)]) (k_X8_has l G S3 119 _ _ hv) vy_X8_has sg_30 vc_8 tb_5_5 tb_5_7 ts_33 ⟨Nat.le_of_ble_eq_true rfl, Nat.le_of_ble_eq_true rfl⟩ rfl hl.1 rfl (Nat.le_of_ble_eq_true rfl) dX8_mileClause_19) (fun H locs hP hS => ?_)
  refine lv_if_ne (tgt := 29) hx hb dX8_mileClause_22 (by decide) (fun hc => ?_) (fun hc => ?_)
  · rw [if_neg hc] at hf
    refine lv_iconst (v := 0) hx hb dX8_mileClause_29 (by decide) ?_
    exact w_X8_mileClause_30 hC hQ  _ _ _ _ _ _ hP hS (lv_sub hl [0, 1] rfl) hf
  · rw [if_pos hc] at hf
    refine lv_iconst (v := 1) hx hb dX8_mileClause_25 (by decide) ?_
    refine lv_goto (tgt := 30) hx hb dX8_mileClause_26 (by decide) ?_
    exact w_X8_mileClause_30 hC hQ  _ _ _ _ _ _ hP hS (lv_sub hl [0, 1] rfl) hf
def f_X8_channel_102  : Nat → ST → Int32 → Int32 → Option (Int32 × ST)
  | 0, _, _, _ => none
  | n + 1, S, x1, x3 => if x1 ≤ x3 then (some (x1, S)) else ((rI S 0 36 (5 * x3)).bind fun v1 => (rI S 0 36 ((5 * x3) + 1)).bind fun v2 => (rI S 0 36 ((5 * x3) + 2)).bind fun v3 => (rI S 0 36 ((5 * x3) + 3)).bind fun v4 => (rI S 0 36 ((5 * x3) + 4)).bind fun v5 => (f_X8_mileIs S x3 v1 v2 v3 v4 v5).bind fun S6 => f_X8_channel_102 n S6 x1 (x3 + 1))
set_option maxRecDepth 100000 in
set_option maxHeartbeats 4000000 in
theorem w_X8_channel_102 {r : Int32} {S' : ST} (hC : Cx p m c s args cX8_channel 4 RX8 G) (hQ : KI p l e (rmH 4) s m args below meth c Q cX8_channel G r S') : ∀ (n : Nat) (S : ST) (x1 : Int32) (x3 : Int32) (H : Heap) (locs : List Loc) (ls : Array Slot), va_P (gD G) vwCl (cells G S) H → va_S (gA G) s.heap H locs → lv_has ls 4 [(0, .ref (ad G 30)), (1, .int x1), (3, .int x3)] → f_X8_channel_102 n S x1 x3 = some (r, S') → W p l e (rmH 4) s m args below meth c H locs 0 0 Q (F0 m 102 ls []) := by
  obtain ⟨hx, hb, hml, hown, hts⟩ := id hC.1
  intro n
  induction n with
  | zero => intro S x1 x3 H locs ls hP hS hl hf; rw [f_X8_channel_102] at hf; cases hf
  | succ n ih =>
    intro S x1 x3 H locs ls hP hS hl hf
    rw [f_X8_channel_102] at hf
    refine lv_iload_n hx hb dX8_channel_102 rfl (lv_at hl 2 rfl) ?_
    refine lv_iload_n hx hb dX8_channel_103 rfl (lv_at hl 1 rfl) ?_
    refine lv_icmp_ge (tgt := 166) hx hb dX8_channel_104 (by decide) (fun hc => ?_) (fun hc => ?_)
    · rw [if_pos hc] at hf
      refine lv_iload_n hx hb dX8_channel_166 rfl (lv_at hl 1 rfl) ?_
      exact retIw hQ hf hP hS dX8_channel_167
    · rw [if_neg hc] at hf
      refine lv_aload_n hx hb dX8_channel_107 rfl (lv_at hl 0 rfl) ?_
      refine lv_iload_n hx hb dX8_channel_108 rfl (lv_at hl 2 rfl) ?_
      refine lv_aload_n hx hb dX8_channel_109 rfl (lv_at hl 0 rfl) ?_
      refine gFr hC hP (j := 10) sg_30 vc_8 iT8 (by decide) rfl tb_4_81 dX8_channel_110 ?_
      refine lv_iconst (v := 5) hx hb dX8_channel_113 (by decide) ?_
      refine lv_iload_n hx hb dX8_channel_114 rfl (lv_at hl 2 rfl) ?_
      refine lv_imul hx hb dX8_channel_115 ?_
      obtain ⟨v1, hv, hf⟩ := ob_some hf
      refine gIa hC hP hv dX8_channel_116 ?_
      refine lv_aload_n hx hb dX8_channel_117 rfl (lv_at hl 0 rfl) ?_
      refine gFr hC hP (j := 10) sg_30 vc_8 iT8 (by decide) rfl tb_4_81 dX8_channel_118 ?_
      refine lv_iconst (v := 5) hx hb dX8_channel_121 (by decide) ?_
      refine lv_iload_n hx hb dX8_channel_122 rfl (lv_at hl 2 rfl) ?_
      refine lv_imul hx hb dX8_channel_123 ?_
      refine lv_iconst (v := 1) hx hb dX8_channel_124 (by decide) ?_
      refine lv_iadd hx hb dX8_channel_125 ?_
      obtain ⟨v2, hv, hf⟩ := ob_some hf
      refine gIa hC hP hv dX8_channel_126 ?_
      refine lv_aload_n hx hb dX8_channel_127 rfl (lv_at hl 0 rfl) ?_
      refine gFr hC hP (j := 10) sg_30 vc_8 iT8 (by decide) rfl tb_4_81 dX8_channel_128 ?_
      refine lv_iconst (v := 5) hx hb dX8_channel_131 (by decide) ?_
      refine lv_iload_n hx hb dX8_channel_132 rfl (lv_at hl 2 rfl) ?_
      refine lv_imul hx hb dX8_channel_133 ?_
      refine lv_iconst (v := 2) hx hb dX8_channel_134 (by decide) ?_
      refine lv_iadd hx hb dX8_channel_135 ?_
      obtain ⟨v3, hv, hf⟩ := ob_some hf
      refine gIa hC hP hv dX8_channel_136 ?_
      refine lv_aload_n hx hb dX8_channel_137 rfl (lv_at hl 0 rfl) ?_
      refine gFr hC hP (j := 10) sg_30 vc_8 iT8 (by decide) rfl tb_4_81 dX8_channel_138 ?_
      refine lv_iconst (v := 5) hx hb dX8_channel_141 (by decide) ?_
      refine lv_iload_n hx hb dX8_channel_142 rfl (lv_at hl 2 rfl) ?_
      refine lv_imul hx hb dX8_channel_143 ?_
      refine lv_iconst (v := 3) hx hb dX8_channel_144 (by decide) ?_
      refine lv_iadd hx hb dX8_channel_145 ?_
      obtain ⟨v4, hv, hf⟩ := ob_some hf
      refine gIa hC hP hv dX8_channel_146 ?_
      refine lv_aload_n hx hb dX8_channel_147 rfl (lv_at hl 0 rfl) ?_
      refine gFr hC hP (j := 10) sg_30 vc_8 iT8 (by decide) rfl tb_4_81 dX8_channel_148 ?_
      refine lv_iconst (v := 5) hx hb dX8_channel_151 (by decide) ?_
      refine lv_iload_n hx hb dX8_channel_152 rfl (lv_at hl 2 rfl) ?_
      refine lv_imul hx hb dX8_channel_153 ?_
      refine lv_iconst (v := 4) hx hb dX8_channel_154 (by decide) ?_
      refine lv_iadd hx hb dX8_channel_155 ?_
      obtain ⟨v5, hv, hf⟩ := ob_some hf
      refine gIa hC hP hv dX8_channel_156 ?_
      obtain ⟨S6, hv, hf⟩ := ob_some hf
      refine cV hS (runV hC hP hS (As := [.int x3, .int v1, .int v2, .int v3, .int v4, .int v5]) (rest := []) (k_X8_mileIs l G S x3 v1 v2 v3 v4 v5 _ hv) vy_X8_mileIs sg_30 vc_8 tb_4_176 tb_4_178 ts_28 ⟨Nat.le_of_ble_eq_true rfl, Nat.le_of_ble_eq_true rfl⟩ rfl hl.1 rfl (Nat.le_of_ble_eq_true rfl) dX8_channel_157) (fun H locs hP hS => ?_)
      refine lv_iinc (v := x3 + 1) (lv' := [(3, .int (x3 + 1)), (0, .ref (ad G 30)), (1, .int x1)]) hx hb dX8_channel_160 hl (k := 2) rfl rfl (by decide) rfl (fun ls hl => ?_)
      refine lv_goto (tgt := 102) hx hb dX8_channel_163 (by decide) ?_
      exact ih _ _ _ _ _ _ hP hS (lv_sub hl [1, 2, 0] rfl) hf
def f_X8_channel_72  (S : ST) (x1 : Int32) (y0 : Int32) : Option (Int32 × ST) := (bz y0).bind fun v1 => if ((sI (sI S 30 9 v1) 30 7 0).1 30 9) = 0 then (f_X8_channel_102 FU (sI (sI (sI S 30 9 v1) 30 7 0) 30 0 x1) x1 0) else (some (((-20) - ((sI (sI S 30 9 v1) 30 7 0).1 30 8)), (sI (sI S 30 9 v1) 30 7 0)))
set_option maxRecDepth 100000 in
set_option maxHeartbeats 4000000 in
theorem w_X8_channel_72 {r : Int32} {S' : ST} (hC : Cx p m c s args cX8_channel 4 RX8 G) (hQ : KI p l e (rmH 4) s m args below meth c Q cX8_channel G r S') (S : ST) (x1 : Int32) (y0 : Int32) (H : Heap) (locs : List Loc) (ls : Array Slot) (hP : va_P (gD G) vwCl (cells G S) H) (hS : va_S (gA G) s.heap H locs) (hl : lv_has ls 4 [(0, .ref (ad G 30)), (1, .int x1)]) (hf : f_X8_channel_72 S x1 y0 = some (r, S')) : W p l e (rmH 4) s m args below meth c H locs 0 0 Q (F0 m 72 ls [.int y0, .ref (ad G 30)]) := by
  obtain ⟨hx, hb, hml, hown, hts⟩ := id hC.1
  rw [f_X8_channel_72] at hf
  obtain ⟨v1, hv, hf⟩ := ob_some hf
  refine bzW hv ?_
  refine pFi hC hP hS (j := 9) sg_30 vc_8 iT8 tyX8_ok nmX8 (by decide) rfl tb_4_80 rfl (bz_n hv) (bz_f hv) dX8_channel_72 (fun H locs hP hS => ?_)
  refine lv_aload_n hx hb dX8_channel_75 rfl (lv_at hl 0 rfl) ?_
  refine lv_iconst (v := 0) hx hb dX8_channel_76 (by decide) ?_
  refine pFi hC hP hS (j := 7) sg_30 vc_8 iT8 tyX8_ok nmX8 (by decide) rfl tb_4_78 rfl rfl rfl dX8_channel_77 (fun H locs hP hS => ?_)
  refine lv_aload_n hx hb dX8_channel_80 rfl (lv_at hl 0 rfl) ?_
  refine gFi hC hP (j := 9) sg_30 vc_8 iT8 (by decide) rfl tb_4_80 dX8_channel_81 ?_
  refine lv_if_eq (tgt := 95) hx hb dX8_channel_84 (by decide) (fun hc => ?_) (fun hc => ?_)
  · rw [if_pos hc] at hf
    refine lv_aload_n hx hb dX8_channel_95 rfl (lv_at hl 0 rfl) ?_
    refine lv_iload_n hx hb dX8_channel_96 rfl (lv_at hl 1 rfl) ?_
    refine pFi hC hP hS (j := 0) sg_30 vc_8 iT8 tyX8_ok nmX8 (by decide) rfl tb_4_71 rfl rfl rfl dX8_channel_97 (fun H locs hP hS => ?_)
    refine lv_iconst (v := 0) hx hb dX8_channel_100 (by decide) ?_
    refine lv_istore_n (lv' := [(3, .int 0), (0, .ref (ad G 30)), (1, .int x1)]) hx hb dX8_channel_101 rfl hl (by decide) rfl (fun ls hl => ?_)
    exact w_X8_channel_102 hC hQ _ _ _ _ _ _ _ hP hS (lv_sub hl [1, 2, 0] rfl) hf
  · rw [if_neg hc] at hf
    refine lv_bipush (v := (-20)) hx hb dX8_channel_87 (by decide) ?_
    refine lv_aload_n hx hb dX8_channel_89 rfl (lv_at hl 0 rfl) ?_
    refine gFi hC hP (j := 8) sg_30 vc_8 iT8 (by decide) rfl tb_4_79 dX8_channel_90 ?_
    refine lv_isub hx hb dX8_channel_93 ?_
    exact retIw hQ hf hP hS dX8_channel_94
def f_X8_channel_67  (S : ST) (x1 : Int32) : Option (Int32 × ST) := f_X8_channel_72 S x1 1
set_option maxRecDepth 100000 in
set_option maxHeartbeats 4000000 in
theorem w_X8_channel_67 {r : Int32} {S' : ST} (hC : Cx p m c s args cX8_channel 4 RX8 G) (hQ : KI p l e (rmH 4) s m args below meth c Q cX8_channel G r S') (S : ST) (x1 : Int32) (H : Heap) (locs : List Loc) (ls : Array Slot) (hP : va_P (gD G) vwCl (cells G S) H) (hS : va_S (gA G) s.heap H locs) (hl : lv_has ls 4 [(0, .ref (ad G 30)), (1, .int x1)]) (hf : f_X8_channel_67 S x1 = some (r, S')) : W p l e (rmH 4) s m args below meth c H locs 0 0 Q (F0 m 67 ls [.ref (ad G 30)]) := by
  obtain ⟨hx, hb, hml, hown, hts⟩ := id hC.1
  rw [f_X8_channel_67] at hf
  refine lv_iconst (v := 1) hx hb dX8_channel_67 (by decide) ?_
  refine lv_goto (tgt := 72) hx hb dX8_channel_68 (by decide) ?_
  exact w_X8_channel_72 hC hQ  _ _ _ _ _ _ hP hS (lv_sub hl [0, 1] rfl) hf
def f_X8_channel_48  (k14 : ST → Int32 → Int32 → Option (Int32 × ST)) (S : ST) (x1 : Int32) (y0 : Int32) : Option (Int32 × ST) := k14 S x1 y0
set_option maxRecDepth 100000 in
set_option maxHeartbeats 4000000 in
theorem w_X8_channel_48 {r : Int32} {S' : ST} (hC : Cx p m c s args cX8_channel 4 RX8 G) (hQ : KI p l e (rmH 4) s m args below meth c Q cX8_channel G r S') {k14 : ST → Int32 → Int32 → Option (Int32 × ST)} (hk14 : ∀ (S : ST) (x1 : Int32) (x2 : Int32) (H : Heap) (locs : List Loc) (ls : Array Slot), va_P (gD G) vwCl (cells G S) H → va_S (gA G) s.heap H locs → lv_has ls 4 [(0, .ref (ad G 30)), (1, .int x1), (2, .int x2)] → k14 S x1 x2 = some (r, S') → W p l e (rmH 4) s m args below meth c H locs 0 0 Q (F0 m 14 ls [])) (S : ST) (x1 : Int32) (y0 : Int32) (H : Heap) (locs : List Loc) (ls : Array Slot) (hP : va_P (gD G) vwCl (cells G S) H) (hS : va_S (gA G) s.heap H locs) (hl : lv_has ls 4 [(0, .ref (ad G 30)), (1, .int x1)]) (hf : f_X8_channel_48 k14 S x1 y0 = some (r, S')) : W p l e (rmH 4) s m args below meth c H locs 0 0 Q (F0 m 48 ls [.int y0]) := by
  obtain ⟨hx, hb, hml, hown, hts⟩ := id hC.1
  rw [f_X8_channel_48] at hf
  refine lv_istore_n (lv' := [(2, .int y0), (0, .ref (ad G 30)), (1, .int x1)]) hx hb dX8_channel_48 rfl hl (by decide) rfl (fun ls hl => ?_)
  refine lv_goto (tgt := 14) hx hb dX8_channel_49 (by decide) ?_
  exact hk14 _ _ _ _ _ _ hP hS (lv_sub hl [1, 2, 0] rfl) hf
def f_X8_channel_47  (k14 : ST → Int32 → Int32 → Option (Int32 × ST)) (S : ST) (x1 : Int32) : Option (Int32 × ST) := f_X8_channel_48 k14 S x1 0
set_option maxRecDepth 100000 in
set_option maxHeartbeats 4000000 in
theorem w_X8_channel_47 {r : Int32} {S' : ST} (hC : Cx p m c s args cX8_channel 4 RX8 G) (hQ : KI p l e (rmH 4) s m args below meth c Q cX8_channel G r S') {k14 : ST → Int32 → Int32 → Option (Int32 × ST)} (hk14 : ∀ (S : ST) (x1 : Int32) (x2 : Int32) (H : Heap) (locs : List Loc) (ls : Array Slot), va_P (gD G) vwCl (cells G S) H → va_S (gA G) s.heap H locs → lv_has ls 4 [(0, .ref (ad G 30)), (1, .int x1), (2, .int x2)] → k14 S x1 x2 = some (r, S') → W p l e (rmH 4) s m args below meth c H locs 0 0 Q (F0 m 14 ls [])) (S : ST) (x1 : Int32) (H : Heap) (locs : List Loc) (ls : Array Slot) (hP : va_P (gD G) vwCl (cells G S) H) (hS : va_S (gA G) s.heap H locs) (hl : lv_has ls 4 [(0, .ref (ad G 30)), (1, .int x1)]) (hf : f_X8_channel_47 k14 S x1 = some (r, S')) : W p l e (rmH 4) s m args below meth c H locs 0 0 Q (F0 m 47 ls []) := by
  obtain ⟨hx, hb, hml, hown, hts⟩ := id hC.1
  rw [f_X8_channel_47] at hf
  refine lv_iconst (v := 0) hx hb dX8_channel_47 (by decide) ?_
  exact w_X8_channel_48 hC hQ hk14  _ _ _ _ _ _ hP hS (lv_sub hl [0, 1] rfl) hf
def f_X8_channel_14  : Nat → ST → Int32 → Int32 → Option (Int32 × ST)
  | 0, _, _, _ => none
  | n + 1, S, x1, x2 => if x2 = 0 then (if (S.1 30 9) = 0 then (b2 (f_X8_here S) fun v1 S2 => if v1 = 0 then (f_X8_channel_72 S2 x1 0) else (f_X8_channel_67 S2 x1)) else (f_X8_channel_67 S x1)) else ((f_X8_mileClause S (5 * x1)).bind fun S3 => if 8 ≤ (x1 + 1) then (f_X8_channel_47 (f_X8_channel_14 n) S3 (x1 + 1)) else (b2 (f_X8_has S3 59) fun v4 S5 => if v4 = 0 then (f_X8_channel_47 (f_X8_channel_14 n) S5 (x1 + 1)) else (f_X8_channel_48 (f_X8_channel_14 n) S5 (x1 + 1) 1)))
set_option maxRecDepth 100000 in
set_option maxHeartbeats 4000000 in
theorem w_X8_channel_14 {r : Int32} {S' : ST} (hC : Cx p m c s args cX8_channel 4 RX8 G) (hQ : KI p l e (rmH 4) s m args below meth c Q cX8_channel G r S') : ∀ (n : Nat) (S : ST) (x1 : Int32) (x2 : Int32) (H : Heap) (locs : List Loc) (ls : Array Slot), va_P (gD G) vwCl (cells G S) H → va_S (gA G) s.heap H locs → lv_has ls 4 [(0, .ref (ad G 30)), (1, .int x1), (2, .int x2)] → f_X8_channel_14 n S x1 x2 = some (r, S') → W p l e (rmH 4) s m args below meth c H locs 0 0 Q (F0 m 14 ls []) := by
  obtain ⟨hx, hb, hml, hown, hts⟩ := id hC.1
  intro n
  induction n with
  | zero => intro S x1 x2 H locs ls hP hS hl hf; rw [f_X8_channel_14] at hf; cases hf
  | succ n ih =>
    intro S x1 x2 H locs ls hP hS hl hf
    rw [f_X8_channel_14] at hf
    refine lv_iload_n hx hb dX8_channel_14 rfl (lv_at hl 2 rfl) ?_
    refine lv_if_eq (tgt := 52) hx hb dX8_channel_15 (by decide) (fun hc => ?_) (fun hc => ?_)
    · rw [if_pos hc] at hf
      refine lv_aload_n hx hb dX8_channel_52 rfl (lv_at hl 0 rfl) ?_
      refine lv_aload_n hx hb dX8_channel_53 rfl (lv_at hl 0 rfl) ?_
      refine gFi hC hP (j := 9) sg_30 vc_8 iT8 (by decide) rfl tb_4_80 dX8_channel_54 ?_
      refine lv_if_ne (tgt := 67) hx hb dX8_channel_57 (by decide) (fun hc => ?_) (fun hc => ?_)
      · rw [if_neg hc] at hf
        exact w_X8_channel_67 hC hQ  _ _ _ _ _ hP hS (lv_sub hl [0, 1] rfl) hf
      · rw [if_pos hc] at hf
        refine lv_aload_n hx hb dX8_channel_60 rfl (lv_at hl 0 rfl) ?_
        obtain ⟨v1, S2, hv, hf⟩ := ob_two hf
        refine cI hS (runV hC hP hS (As := []) (rest := [.ref (ad G 30)]) (k_X8_here l G S _ _ hv) vy_X8_here sg_30 vc_8 tb_4_239 tb_5_1 ts_32 ⟨Nat.le_of_ble_eq_true rfl, Nat.le_of_ble_eq_true rfl⟩ rfl hl.1 rfl (Nat.le_of_ble_eq_true rfl) dX8_channel_61) (fun H locs hP hS => ?_)
        refine lv_if_eq (tgt := 71) hx hb dX8_channel_64 (by decide) (fun hc => ?_) (fun hc => ?_)
        · rw [if_pos hc] at hf
          refine lv_iconst (v := 0) hx hb dX8_channel_71 (by decide) ?_
          exact w_X8_channel_72 hC hQ  _ _ _ _ _ _ hP hS (lv_sub hl [0, 1] rfl) hf
        · rw [if_neg hc] at hf
          exact w_X8_channel_67 hC hQ  _ _ _ _ _ hP hS (lv_sub hl [0, 1] rfl) hf
    · rw [if_neg hc] at hf
      refine lv_aload_n hx hb dX8_channel_18 rfl (lv_at hl 0 rfl) ?_
      refine lv_iconst (v := 5) hx hb dX8_channel_19 (by decide) ?_
      refine lv_iload_n hx hb dX8_channel_20 rfl (lv_at hl 1 rfl) ?_
      refine lv_imul hx hb dX8_channel_21 ?_
      obtain ⟨S3, hv, hf⟩ := ob_some hf
      refine cV hS (runV hC hP hS (As := [.int (5 * x1)]) (rest := []) (k_X8_mileClause l G S (5 * x1) _ hv) vy_X8_mileClause sg_30 vc_8 tb_4_231 tb_4_233 ts_30 ⟨Nat.le_of_ble_eq_true rfl, Nat.le_of_ble_eq_true rfl⟩ rfl hl.1 rfl (Nat.le_of_ble_eq_true rfl) dX8_channel_22) (fun H locs hP hS => ?_)
      refine lv_iinc (v := x1 + 1) (lv' := [(1, .int (x1 + 1)), (0, .ref (ad G 30)), (2, .int x2)]) hx hb dX8_channel_25 hl (k := 1) rfl rfl (by decide) rfl (fun ls hl => ?_)
      refine lv_iload_n hx hb dX8_channel_28 rfl (lv_at hl 0 rfl) ?_
      refine lv_bipush (v := 8) hx hb dX8_channel_29 (by decide) ?_
      refine lv_icmp_ge (tgt := 47) hx hb dX8_channel_31 (by decide) (fun hc => ?_) (fun hc => ?_)
      · rw [if_pos hc] at hf
        exact w_X8_channel_47 hC hQ ih  _ _ _ _ _ hP hS (lv_sub hl [1, 0] rfl) hf
      · rw [if_neg hc] at hf
        refine lv_aload_n hx hb dX8_channel_34 rfl (lv_at hl 1 rfl) ?_
        refine lv_bipush (v := 59) hx hb dX8_channel_35 (by decide) ?_
        obtain ⟨v4, S5, hv, hf⟩ := ob_two hf
        refine cI hS (runV hC hP hS (As := [.int 59]) (rest := []) (k_X8_has l G S3 59 _ _ hv) vy_X8_has sg_30 vc_8 tb_5_5 tb_5_7 ts_33 ⟨Nat.le_of_ble_eq_true rfl, Nat.le_of_ble_eq_true rfl⟩ rfl hl.1 rfl (Nat.le_of_ble_eq_true rfl) dX8_channel_37) (fun H locs hP hS => ?_)
        refine lv_if_eq (tgt := 47) hx hb dX8_channel_40 (by decide) (fun hc => ?_) (fun hc => ?_)
        · rw [if_pos hc] at hf
          exact w_X8_channel_47 hC hQ ih  _ _ _ _ _ hP hS (lv_sub hl [1, 0] rfl) hf
        · rw [if_neg hc] at hf
          refine lv_iconst (v := 1) hx hb dX8_channel_43 (by decide) ?_
          refine lv_goto (tgt := 48) hx hb dX8_channel_44 (by decide) ?_
          exact w_X8_channel_48 hC hQ ih  _ _ _ _ _ _ hP hS (lv_sub hl [1, 0] rfl) hf
def f_X8_channel (S : ST)  : Option (Int32 × ST) := f_X8_channel_14 FU (sI (sI S 30 8 0) 30 9 0) 0 1
set_option maxRecDepth 100000 in
set_option maxHeartbeats 4000000 in
theorem k_X8_channel (l : Launch) (G : GT) (S : ST)  (r : Int32) (S' : ST) (hf : f_X8_channel S  = some (r, S')) : MI l yX8_channel cX8_channel 4 (some .int) 4 [.ref (ad G 30)] G S r S' := by
  rw [f_X8_channel] at hf
  refine mkI (own := RX8) (by decide +kernel) rfl rfl (Nat.le_of_ble_eq_true rfl) (fun p e s m args below meth c Q ls hC hP hS hl hQ => ?_)
  have hl : lv_has ls 4 [(0, .ref (ad G 30))] := hl
  obtain ⟨hx, hb, hml, hown, hts⟩ := id hC.1
  refine lv_aload_n hx hb dX8_channel_0 rfl (lv_at hl 0 rfl) ?_
  refine lv_iconst (v := 0) hx hb dX8_channel_1 (by decide) ?_
  refine pFi hC hP hS (j := 8) sg_30 vc_8 iT8 tyX8_ok nmX8 (by decide) rfl tb_4_79 rfl rfl rfl dX8_channel_2 (fun H locs hP hS => ?_)
  refine lv_aload_n hx hb dX8_channel_5 rfl (lv_at hl 0 rfl) ?_
  refine lv_iconst (v := 0) hx hb dX8_channel_6 (by decide) ?_
  refine pFi hC hP hS (j := 9) sg_30 vc_8 iT8 tyX8_ok nmX8 (by decide) rfl tb_4_80 rfl rfl rfl dX8_channel_7 (fun H locs hP hS => ?_)
  refine lv_iconst (v := 0) hx hb dX8_channel_10 (by decide) ?_
  refine lv_istore_n (lv' := [(1, .int 0), (0, .ref (ad G 30))]) hx hb dX8_channel_11 rfl hl (by decide) rfl (fun ls hl => ?_)
  refine lv_iconst (v := 1) hx hb dX8_channel_12 (by decide) ?_
  refine lv_istore_n (lv' := [(2, .int 1), (1, .int 0), (0, .ref (ad G 30))]) hx hb dX8_channel_13 rfl hl (by decide) rfl (fun ls hl => ?_)
  exact w_X8_channel_14 hC hQ _ _ _ _ _ _ _ hP hS (lv_sub hl [2, 1, 0] rfl) hf
end
