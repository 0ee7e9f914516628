section
variable {p : Program} {l : Launch} {e : Env} {s : State} {m : MethodId} {args : Array Value} {below : List Frame} {meth : Method} {c : Code} {Q : State → Prop} {G : GT}

def f_X8_quickest_177  (k48 : ST → Int32 → Int32 → Int32 → Int32 → Option (Int32 × ST)) (k56 : ST → Int32 → Int32 → Int32 → Int32 → Int32 → Option (Int32 × ST)) (k88 : ST → Int32 → Int32 → Int32 → Int32 → Int32 → Int32 → Int32 → Int32 → Int32 → Option (Int32 × ST)) (S : ST) (x1 : Int32) (x2 : Int32) (x3 : Int32) (x4 : Int32) (x5 : Int32) (x6 : Int32) (x8 : Int32) (x9 : Int32) (y0 : Int32) : Option (Int32 × ST) := k88 S x1 x2 x3 x4 x5 x6 y0 x8 (x9 + 1)
set_option maxRecDepth 100000 in
set_option maxHeartbeats 4000000 in
theorem w_X8_quickest_177 {r : Int32} {S' : ST} (hC : Cx p m c s args cX8_quickest 11 RX8 G) (hQ : KI p l e (rmH 3) s m args below meth c Q cX8_quickest G r S') {k48 : ST → Int32 → Int32 → Int32 → Int32 → Option (Int32 × ST)} (hk48 : ∀ (S : ST) (x1 : Int32) (x2 : Int32) (x3 : Int32) (x4 : Int32) (H : Heap) (locs : List Loc) (ls : Array Slot), va_P (gD G) vwCl (cells G S) H → va_S (gA G) s.heap H locs → lv_has ls 11 [(0, .ref (ad G 30)), (1, .int x1), (2, .int x2), (3, .int x3), (4, .int x4)] → k48 S x1 x2 x3 x4 = some (r, S') → W p l e (rmH 3) s m args below meth c H locs 0 0 Q (F0 m 48 ls [])) {k56 : ST → Int32 → Int32 → Int32 → Int32 → Int32 → Option (Int32 × ST)} (hk56 : ∀ (S : ST) (x1 : Int32) (x2 : Int32) (x3 : Int32) (x4 : Int32) (x5 : Int32) (H : Heap) (locs : List Loc) (ls : Array Slot), va_P (gD G) vwCl (cells G S) H → va_S (gA G) s.heap H locs → lv_has ls 11 [(0, .ref (ad G 30)), (1, .int x1), (2, .int x2), (3, .int x3), (4, .int x4), (5, .int x5)] → k56 S x1 x2 x3 x4 x5 = some (r, S') → W p l e (rmH 3) s m args below meth c H locs 0 0 Q (F0 m 56 ls [])) {k88 : ST → Int32 → Int32 → Int32 → Int32 → Int32 → Int32 → Int32 → Int32 → Int32 → Option (Int32 × ST)} (hk88 : ∀ (S : ST) (x1 : Int32) (x2 : Int32) (x3 : Int32) (x4 : Int32) (x5 : Int32) (x6 : Int32) (x7 : Int32) (x8 : Int32) (x9 : Int32) (H : Heap) (locs : List Loc) (ls : Array Slot), va_P (gD G) vwCl (cells G S) H → va_S (gA G) s.heap H locs → lv_has ls 11 [(0, .ref (ad G 30)), (1, .int x1), (2, .int x2), (3, .int x3), (4, .int x4), (5, .int x5), (6, .int x6), (7, .int x7), (8, .int x8), (9, .int x9)] → k88 S x1 x2 x3 x4 x5 x6 x7 x8 x9 = some (r, S') → W p l e (rmH 3) s m args below meth c H locs 0 0 Q (F0 m 88 ls [])) (S : ST) (x1 : Int32) (x2 : Int32) (x3 : Int32) (x4 : Int32) (x5 : Int32) (x6 : Int32) (x8 : Int32) (x9 : Int32) (y0 : Int32) (H : Heap) (locs : List Loc) (ls : Array Slot) (hP : va_P (gD G) vwCl (cells G S) H) (hS : va_S (gA G) s.heap H locs) (hl : lv_has ls 11 [(0, .ref (ad G 30)), (1, .int x1), (2, .int x2), (3, .int x3), (4, .int x4), (5, .int x5), (6, .int x6), (8, .int x8), (9, .int x9)]) (hf : f_X8_quickest_177 k48 k56 k88 S x1 x2 x3 x4 x5 x6 x8 x9 y0 = some (r, S')) : W p l e (rmH 3) s m args below meth c H locs 0 0 Q (F0 m 177 ls [.int y0]) := by
  obtain ⟨hx, hb, hml, hown, hts⟩ := id hC.1
  rw [f_X8_quickest_177] at hf
  refine lv_istore (lv' := [(7, .int y0), (0, .ref (ad G 30)), (1, .int x1), (2, .int x2), (3, .int x3), (4, .int x4), (5, .int x5), (6, .int x6), (8, .int x8), (9, .int x9)]) hx hb dX8_quickest_177 hl (by decide) rfl (fun ls hl => ?_)
  refine lv_iinc (v := x9 + 1) (lv' := [(9, .int (x9 + 1)), (7, .int y0), (0, .ref (ad G 30)), (1, .int x1), (2, .int x2), (3, .int x3), (4, .int x4), (5, .int x5), (6, .int x6), (8, .int x8)]) hx hb dX8_quickest_179 hl (k := 9) rfl rfl (by decide) rfl (fun ls hl => ?_)
  refine lv_goto (tgt := 88) hx hb dX8_quickest_182 (by decide) ?_
  exact hk88 _ _ _ _ _ _ _ _ _ _ _ _ _ hP hS (lv_sub hl [2, 3, 4, 5, 6, 7, 8, 1, 9, 0] rfl) hf
def f_X8_quickest_161  (k48 : ST → Int32 → Int32 → Int32 → Int32 → Option (Int32 × ST)) (k56 : ST → Int32 → Int32 → Int32 → Int32 → Int32 → Option (Int32 × ST)) (k88 : ST → Int32 → Int32 → Int32 → Int32 → Int32 → Int32 → Int32 → Int32 → Int32 → Option (Int32 × ST)) (S : ST) (x1 : Int32) (x2 : Int32) (x3 : Int32) (x4 : Int32) (x5 : Int32) (x6 : Int32) (x7 : Int32) (x9 : Int32) (x10 : Int32) (y0 : Int32) : Option (Int32 × ST) := if x7 ≤ x10 then (f_X8_quickest_177 k48 k56 k88 S x1 x2 x3 x4 x5 x6 y0 x9 x7) else (f_X8_quickest_177 k48 k56 k88 S x1 x2 x3 x4 x5 x6 y0 x9 x10)
set_option maxRecDepth 100000 in
set_option maxHeartbeats 4000000 in
theorem w_X8_quickest_161 {r : Int32} {S' : ST} (hC : Cx p m c s args cX8_quickest 11 RX8 G) (hQ : KI p l e (rmH 3) s m args below meth c Q cX8_quickest G r S') {k48 : ST → Int32 → Int32 → Int32 → Int32 → Option (Int32 × ST)} (hk48 : ∀ (S : ST) (x1 : Int32) (x2 : Int32) (x3 : Int32) (x4 : Int32) (H : Heap) (locs : List Loc) (ls : Array Slot), va_P (gD G) vwCl (cells G S) H → va_S (gA G) s.heap H locs → lv_has ls 11 [(0, .ref (ad G 30)), (1, .int x1), (2, .int x2), (3, .int x3), (4, .int x4)] → k48 S x1 x2 x3 x4 = some (r, S') → W p l e (rmH 3) s m args below meth c H locs 0 0 Q (F0 m 48 ls [])) {k56 : ST → Int32 → Int32 → Int32 → Int32 → Int32 → Option (Int32 × ST)} (hk56 : ∀ (S : ST) (x1 : Int32) (x2 : Int32) (x3 : Int32) (x4 : Int32) (x5 : Int32) (H : Heap) (locs : List Loc) (ls : Array Slot), va_P (gD G) vwCl (cells G S) H → va_S (gA G) s.heap H locs → lv_has ls 11 [(0, .ref (ad G 30)), (1, .int x1), (2, .int x2), (3, .int x3), (4, .int x4), (5, .int x5)] → k56 S x1 x2 x3 x4 x5 = some (r, S') → W p l e (rmH 3) s m args below meth c H locs 0 0 Q (F0 m 56 ls [])) {k88 : ST → Int32 → Int32 → Int32 → Int32 → Int32 → Int32 → Int32 → Int32 → Int32 → Option (Int32 × ST)} (hk88 : ∀ (S : ST) (x1 : Int32) (x2 : Int32) (x3 : Int32) (x4 : Int32) (x5 : Int32) (x6 : Int32) (x7 : Int32) (x8 : Int32) (x9 : Int32) (H : Heap) (locs : List Loc) (ls : Array Slot), va_P (gD G) vwCl (cells G S) H → va_S (gA G) s.heap H locs → lv_has ls 11 [(0, .ref (ad G 30)), (1, .int x1), (2, .int x2), (3, .int x3), (4, .int x4), (5, .int x5), (6, .int x6), (7, .int x7), (8, .int x8), (9, .int x9)] → k88 S x1 x2 x3 x4 x5 x6 x7 x8 x9 = some (r, S') → W p l e (rmH 3) s m args below meth c H locs 0 0 Q (F0 m 88 ls [])) (S : ST) (x1 : Int32) (x2 : Int32) (x3 : Int32) (x4 : Int32) (x5 : Int32) (x6 : Int32) (x7 : Int32) (x9 : Int32) (x10 : Int32) (y0 : Int32) (H : Heap) (locs : List Loc) (ls : Array Slot) (hP : va_P (gD G) vwCl (cells G S) H) (hS : va_S (gA G) s.heap H locs) (hl : lv_has ls 11 [(0, .ref (ad G 30)), (1, .int x1), (2, .int x2), (3, .int x3), (4, .int x4), (5, .int x5), (6, .int x6), (7, .int x7), (9, .int x9), (10, .int x10)]) (hf : f_X8_quickest_161 k48 k56 k88 S x1 x2 x3 x4 x5 x6 x7 x9 x10 y0 = some (r, S')) : W p l e (rmH 3) s m args below meth c H locs 0 0 Q (F0 m 161 ls [.int y0]) := by
  obtain ⟨hx, hb, hml, hown, hts⟩ := id hC.1
  rw [f_X8_quickest_161] at hf
  refine lv_istore (lv' := [(8, .int y0), (0, .ref (ad G 30)), (1, .int x1), (2, .int x2), (3, .int x3), (4, .int x4), (5, .int x5), (6, .int x6), (7, .int x7), (9, .int x9), (10, .int x10)]) hx hb dX8_quickest_161 hl (by decide) rfl (fun ls hl => ?_)
  refine lv_iload hx hb dX8_quickest_163 (lv_at hl 10 rfl) ?_
  refine lv_iload hx hb dX8_quickest_165 (lv_at hl 8 rfl) ?_
  refine lv_icmp_ge (tgt := 175) hx hb dX8_quickest_167 (by decide) (fun hc => ?_) (fun hc => ?_)
  · rw [if_pos hc] at hf
    refine lv_iload hx hb dX8_quickest_175 (lv_at hl 8 rfl) ?_
    exact w_X8_quickest_177 hC hQ hk48 hk56 hk88  _ _ _ _ _ _ _ _ _ _ _ _ _ hP hS (lv_sub hl [1, 2, 3, 4, 5, 6, 7, 0, 9] rfl) hf
  · rw [if_neg hc] at hf
    refine lv_iload hx hb dX8_quickest_170 (lv_at hl 10 rfl) ?_
    refine lv_goto (tgt := 177) hx hb dX8_quickest_172 (by decide) ?_
    exact w_X8_quickest_177 hC hQ hk48 hk56 hk88  _ _ _ _ _ _ _ _ _ _ _ _ _ hP hS (lv_sub hl [1, 2, 3, 4, 5, 6, 7, 0, 9] rfl) hf
def f_X8_quickest_145  (k48 : ST → Int32 → Int32 → Int32 → Int32 → Option (Int32 × ST)) (k56 : ST → Int32 → Int32 → Int32 → Int32 → Int32 → Option (Int32 × ST)) (k88 : ST → Int32 → Int32 → Int32 → Int32 → Int32 → Int32 → Int32 → Int32 → Int32 → Option (Int32 × ST)) (S : ST) (x1 : Int32) (x2 : Int32) (x3 : Int32) (x4 : Int32) (x5 : Int32) (x6 : Int32) (x7 : Int32) (x8 : Int32) (x9 : Int32) (y0 : Int32) : Option (Int32 × ST) := if x7 ≤ y0 then (f_X8_quickest_161 k48 k56 k88 S x1 x2 x3 x4 x5 x6 x7 x9 y0 x8) else (f_X8_quickest_161 k48 k56 k88 S x1 x2 x3 x4 x5 x6 x7 x9 y0 x9)
set_option maxRecDepth 100000 in
set_option maxHeartbeats 4000000 in
theorem w_X8_quickest_145 {r : Int32} {S' : ST} (hC : Cx p m c s args cX8_quickest 11 RX8 G) (hQ : KI p l e (rmH 3) s m args below meth c Q cX8_quickest G r S') {k48 : ST → Int32 → Int32 → Int32 → Int32 → Option (Int32 × ST)} (hk48 : ∀ (S : ST) (x1 : Int32) (x2 : Int32) (x3 : Int32) (x4 : Int32) (H : Heap) (locs : List Loc) (ls : Array Slot), va_P (gD G) vwCl (cells G S) H → va_S (gA G) s.heap H locs → lv_has ls 11 [(0, .ref (ad G 30)), (1, .int x1), (2, .int x2), (3, .int x3), (4, .int x4)] → k48 S x1 x2 x3 x4 = some (r, S') → W p l e (rmH 3) s m args below meth c H locs 0 0 Q (F0 m 48 ls [])) {k56 : ST → Int32 → Int32 → Int32 → Int32 → Int32 → Option (Int32 × ST)} (hk56 : ∀ (S : ST) (x1 : Int32) (x2 : Int32) (x3 : Int32) (x4 : Int32) (x5 : Int32) (H : Heap) (locs : List Loc) (ls : Array Slot), va_P (gD G) vwCl (cells G S) H → va_S (gA G) s.heap H locs → lv_has ls 11 [(0, .ref (ad G 30)), (1, .int x1), (2, .int x2), (3, .int x3), (4, .int x4), (5, .int x5)] → k56 S x1 x2 x3 x4 x5 = some (r, S') → W p l e (rmH 3) s m args below meth c H locs 0 0 Q (F0 m 56 ls [])) {k88 : ST → Int32 → Int32 → Int32 → Int32 → Int32 → Int32 → Int32 → Int32 → Int32 → Option (Int32 × ST)} (hk88 : ∀ (S : ST) (x1 : Int32) (x2 : Int32) (x3 : Int32) (x4 : Int32) (x5 : Int32) (x6 : Int32) (x7 : Int32) (x8 : Int32) (x9 : Int32) (H : Heap) (locs : List Loc) (ls : Array Slot), va_P (gD G) vwCl (cells G S) H → va_S (gA G) s.heap H locs → lv_has ls 11 [(0, .ref (ad G 30)), (1, .int x1), (2, .int x2), (3, .int x3), (4, .int x4), (5, .int x5), (6, .int x6), (7, .int x7), (8, .int x8), (9, .int x9)] → k88 S x1 x2 x3 x4 x5 x6 x7 x8 x9 = some (r, S') → W p l e (rmH 3) s m args below meth c H locs 0 0 Q (F0 m 88 ls [])) (S : ST) (x1 : Int32) (x2 : Int32) (x3 : Int32) (x4 : Int32) (x5 : Int32) (x6 : Int32) (x7 : Int32) (x8 : Int32) (x9 : Int32) (y0 : Int32) (H : Heap) (locs : List Loc) (ls : Array Slot) (hP : va_P (gD G) vwCl (cells G S) H) (hS : va_S (gA G) s.heap H locs) (hl : lv_has ls 11 [(0, .ref (ad G 30)), (1, .int x1), (2, .int x2), (3, .int x3), (4, .int x4), (5, .int x5), (6, .int x6), (7, .int x7), (8, .int x8), (9, .int x9)]) (hf : f_X8_quickest_145 k48 k56 k88 S x1 x2 x3 x4 x5 x6 x7 x8 x9 y0 = some (r, S')) : W p l e (rmH 3) s m args below meth c H locs 0 0 Q (F0 m 145 ls [.int y0]) := by
  obtain ⟨hx, hb, hml, hown, hts⟩ := id hC.1
  rw [f_X8_quickest_145] at hf
  refine lv_istore (lv' := [(10, .int y0), (0, .ref (ad G 30)), (1, .int x1), (2, .int x2), (3, .int x3), (4, .int x4), (5, .int x5), (6, .int x6), (7, .int x7), (8, .int x8), (9, .int x9)]) hx hb dX8_quickest_145 hl (by decide) rfl (fun ls hl => ?_)
  refine lv_iload hx hb dX8_quickest_147 (lv_at hl 0 rfl) ?_
  refine lv_iload hx hb dX8_quickest_149 (lv_at hl 8 rfl) ?_
  refine lv_icmp_ge (tgt := 159) hx hb dX8_quickest_151 (by decide) (fun hc => ?_) (fun hc => ?_)
  · rw [if_pos hc] at hf
    refine lv_iload hx hb dX8_quickest_159 (lv_at hl 9 rfl) ?_
    exact w_X8_quickest_161 hC hQ hk48 hk56 hk88  _ _ _ _ _ _ _ _ _ _ _ _ _ _ hP hS (lv_sub hl [1, 2, 3, 4, 5, 6, 7, 8, 10, 0] rfl) hf
  · rw [if_neg hc] at hf
    refine lv_iload hx hb dX8_quickest_154 (lv_at hl 10 rfl) ?_
    refine lv_goto (tgt := 161) hx hb dX8_quickest_156 (by decide) ?_
    exact w_X8_quickest_161 hC hQ hk48 hk56 hk88  _ _ _ _ _ _ _ _ _ _ _ _ _ _ hP hS (lv_sub hl [1, 2, 3, 4, 5, 6, 7, 8, 10, 0] rfl) hf
def f_X8_quickest_88  (k48 : ST → Int32 → Int32 → Int32 → Int32 → Option (Int32 × ST)) (k56 : ST → Int32 → Int32 → Int32 → Int32 → Int32 → Option (Int32 × ST)) : Nat → ST → Int32 → Int32 → Int32 → Int32 → Int32 → Int32 → Int32 → Int32 → Int32 → Option (Int32 × ST)
  | 0, _, _, _, _, _, _, _, _, _, _ => none
  | n + 1, S, x1, x2, x3, x4, x5, x6, x7, x8, x9 => if 16 ≤ x9 then ((wI S 37 ((961 * x4) + x5) x7).bind fun S1 => (wI S1 38 ((961 * x4) + x5) x8).bind fun S2 => k56 S2 x1 x2 x3 x4 (x5 + 1)) else ((f_X8_underBy S x1 x4 x6 x9).bind fun v3 => if v3 < x3 then (f_X8_quickest_145 k48 k56 (f_X8_quickest_88 k48 k56 n) S x1 x2 x3 x4 x5 x6 x7 x8 x9 100000) else ((dv 60 x9).bind fun v4 => (dv 60 x9).bind fun v5 => (rI S 0 37 ((((961 * x4) + 961) + x5) + v5)).bind fun v6 => f_X8_quickest_145 k48 k56 (f_X8_quickest_88 k48 k56 n) S x1 x2 x3 x4 x5 x6 x7 x8 x9 (v4 + v6)))
set_option maxRecDepth 100000 in
set_option maxHeartbeats 4000000 in
theorem w_X8_quickest_88 {r : Int32} {S' : ST} (hC : Cx p m c s args cX8_quickest 11 RX8 G) (hQ : KI p l e (rmH 3) s m args below meth c Q cX8_quickest G r S') {k48 : ST → Int32 → Int32 → Int32 → Int32 → Option (Int32 × ST)} (hk48 : ∀ (S : ST) (x1 : Int32) (x2 : Int32) (x3 : Int32) (x4 : Int32) (H : Heap) (locs : List Loc) (ls : Array Slot), va_P (gD G) vwCl (cells G S) H → va_S (gA G) s.heap H locs → lv_has ls 11 [(0, .ref (ad G 30)), (1, .int x1), (2, .int x2), (3, .int x3), (4, .int x4)] → k48 S x1 x2 x3 x4 = some (r, S') → W p l e (rmH 3) s m args below meth c H locs 0 0 Q (F0 m 48 ls [])) {k56 : ST → Int32 → Int32 → Int32 → Int32 → Int32 → Option (Int32 × ST)} (hk56 : ∀ (S : ST) (x1 : Int32) (x2 : Int32) (x3 : Int32) (x4 : Int32) (x5 : Int32) (H : Heap) (locs : List Loc) (ls : Array Slot), va_P (gD G) vwCl (cells G S) H → va_S (gA G) s.heap H locs → lv_has ls 11 [(0, .ref (ad G 30)), (1, .int x1), (2, .int x2), (3, .int x3), (4, .int x4), (5, .int x5)] → k56 S x1 x2 x3 x4 x5 = some (r, S') → W p l e (rmH 3) s m args below meth c H locs 0 0 Q (F0 m 56 ls [])) : ∀ (n : Nat) (S : ST) (x1 : Int32) (x2 : Int32) (x3 : Int32) (x4 : Int32) (x5 : Int32) (x6 : Int32) (x7 : Int32) (x8 : Int32) (x9 : Int32) (H : Heap) (locs : List Loc) (ls : Array Slot), va_P (gD G) vwCl (cells G S) H → va_S (gA G) s.heap H locs → lv_has ls 11 [(0, .ref (ad G 30)), (1, .int x1), (2, .int x2), (3, .int x3), (4, .int x4), (5, .int x5), (6, .int x6), (7, .int x7), (8, .int x8), (9, .int x9)] → f_X8_quickest_88 k48 k56 n S x1 x2 x3 x4 x5 x6 x7 x8 x9 = some (r, S') → W p l e (rmH 3) s m args below meth c H locs 0 0 Q (F0 m 88 ls []) := by
  obtain ⟨hx, hb, hml, hown, hts⟩ := id hC.1
  intro n
  induction n with
  | zero => intro S x1 x2 x3 x4 x5 x6 x7 x8 x9 H locs ls hP hS hl hf; rw [f_X8_quickest_88] at hf; cases hf
  | succ n ih =>
    intro S x1 x2 x3 x4 x5 x6 x7 x8 x9 H locs ls hP hS hl hf
    rw [f_X8_quickest_88] at hf
    refine lv_iload hx hb dX8_quickest_88 (lv_at hl 9 rfl) ?_
    refine lv_bipush (v := 16) hx hb dX8_quickest_90 (by decide) ?_
    refine lv_icmp_ge (tgt := 185) hx hb dX8_quickest_92 (by decide) (fun hc => ?_) (fun hc => ?_)
    · rw [if_pos hc] at hf
      refine lv_aload_n hx hb dX8_quickest_185 rfl (lv_at hl 0 rfl) ?_
      refine gFr hC hP (j := 15) sg_30 vc_8 iT8 (by decide) rfl tb_4_86 dX8_quickest_186 ?_
      refine lv_sipush (v := 961) hx hb dX8_quickest_189 (by decide) ?_
      refine lv_iload hx hb dX8_quickest_192 (lv_at hl 4 rfl) ?_
      refine lv_imul hx hb dX8_quickest_194 ?_
      refine lv_iload hx hb dX8_quickest_195 (lv_at hl 5 rfl) ?_
      refine lv_iadd hx hb dX8_quickest_197 ?_
      refine lv_iload hx hb dX8_quickest_198 (lv_at hl 7 rfl) ?_
      obtain ⟨S1, hv, hf⟩ := ob_some hf
      refine sIa hC hP hS hv dX8_quickest_200 (fun H locs hP hS => ?_)
      refine lv_aload_n hx hb dX8_quickest_201 rfl (lv_at hl 0 rfl) ?_
      refine gFr hC hP (j := 16) sg_30 vc_8 iT8 (by decide) rfl tb_4_87 dX8_quickest_202 ?_
      refine lv_sipush (v := 961) hx hb dX8_quickest_205 (by decide) ?_
      refine lv_iload hx hb dX8_quickest_208 (lv_at hl 4 rfl) ?_
      refine lv_imul hx hb dX8_quickest_210 ?_
      refine lv_iload hx hb dX8_quickest_211 (lv_at hl 5 rfl) ?_
      refine lv_iadd hx hb dX8_quickest_213 ?_
      refine lv_iload hx hb dX8_quickest_214 (lv_at hl 8 rfl) ?_
      obtain ⟨S2, hv, hf⟩ := ob_some hf
      refine sIa hC hP hS hv dX8_quickest_216 (fun H locs hP hS => ?_)
      refine lv_iinc (v := x5 + 1) (lv' := [(5, .int (x5 + 1)), (0, .ref (ad G 30)), (1, .int x1), (2, .int x2), (3, .int x3), (4, .int x4), (6, .int x6), (7, .int x7), (8, .int x8), (9, .int x9)]) hx hb dX8_quickest_217 hl (k := 5) rfl rfl (by decide) rfl (fun ls hl => ?_)
      refine lv_goto (tgt := 56) hx hb dX8_quickest_220 (by decide) ?_
      exact hk56 _ _ _ _ _ _ _ _ _ hP hS (lv_sub hl [1, 2, 3, 4, 5, 0] rfl) hf
    · rw [if_neg hc] at hf
      refine lv_aload_n hx hb dX8_quickest_95 rfl (lv_at hl 0 rfl) ?_
      refine lv_iload_n hx hb dX8_quickest_96 rfl (lv_at hl 1 rfl) ?_
      refine lv_iload hx hb dX8_quickest_97 (lv_at hl 4 rfl) ?_
      refine lv_iload hx hb dX8_quickest_99 (lv_at hl 6 rfl) ?_
      refine lv_iload hx hb dX8_quickest_101 (lv_at hl 9 rfl) ?_
      obtain ⟨v3, hv, hf⟩ := ob_some hf
      refine cI hS (runV hC hP hS (As := [.int x1, .int x4, .int x6, .int x9]) (rest := []) (k_X8_underBy l G S x1 x4 x6 x9 _ hv) vy_X8_underBy sg_30 vc_8 tb_5_58 tb_5_60 ts_39 ⟨Nat.le_of_ble_eq_true rfl, Nat.le_of_ble_eq_true rfl⟩ rfl hl.1 rfl (Nat.le_of_ble_eq_true rfl) dX8_quickest_103) (fun H locs hP hS => ?_)
      refine lv_iload_n hx hb dX8_quickest_106 rfl (lv_at hl 3 rfl) ?_
      refine lv_icmp_lt (tgt := 143) hx hb dX8_quickest_107 (by decide) (fun hc => ?_) (fun hc => ?_)
      · rw [if_pos hc] at hf
        refine lv_ldc hx hb hown (hts _ tb_5_83) dX8_quickest_143 ?_
        exact w_X8_quickest_145 hC hQ hk48 hk56 ih  _ _ _ _ _ _ _ _ _ _ _ _ _ _ hP hS (lv_sub hl [0, 1, 2, 3, 4, 5, 6, 7, 8, 9] rfl) hf
      · rw [if_neg hc] at hf
        refine lv_bipush (v := 60) hx hb dX8_quickest_110 (by decide) ?_
        refine lv_iload hx hb dX8_quickest_112 (lv_at hl 9 rfl) ?_
        obtain ⟨v4, hv, hf⟩ := ob_some hf
        refine xDv hC hv dX8_quickest_114 ?_
        refine lv_aload_n hx hb dX8_quickest_115 rfl (lv_at hl 0 rfl) ?_
        refine gFr hC hP (j := 15) sg_30 vc_8 iT8 (by decide) rfl tb_4_86 dX8_quickest_116 ?_
        refine lv_sipush (v := 961) hx hb dX8_quickest_119 (by decide) ?_
        refine lv_iload hx hb dX8_quickest_122 (lv_at hl 4 rfl) ?_
        refine lv_imul hx hb dX8_quickest_124 ?_
        refine lv_sipush (v := 961) hx hb dX8_quickest_125 (by decide) ?_
        refine lv_iadd hx hb dX8_quickest_128 ?_
        refine lv_iload hx hb dX8_quickest_129 (lv_at hl 5 rfl) ?_
        refine lv_iadd hx hb dX8_quickest_131 ?_
        refine lv_bipush (v := 60) hx hb dX8_quickest_132 (by decide) ?_
        refine lv_iload hx hb dX8_quickest_134 (lv_at hl 9 rfl) ?_
        obtain ⟨v5, hv, hf⟩ := ob_some hf
        refine xDv hC hv dX8_quickest_136 ?_
        refine lv_iadd hx hb dX8_quickest_137 ?_
        obtain ⟨v6, hv, hf⟩ := ob_some hf
        refine gIa hC hP hv dX8_quickest_138 ?_
        refine lv_iadd hx hb dX8_quickest_139 ?_
        refine lv_goto (tgt := 145) hx hb dX8_quickest_140 (by decide) ?_
        exact w_X8_quickest_145 hC hQ hk48 hk56 ih  _ _ _ _ _ _ _ _ _ _ _ _ _ _ hP hS (lv_sub hl [0, 1, 2, 3, 4, 5, 6, 7, 8, 9] rfl) hf
def f_X8_quickest_56  (k48 : ST → Int32 → Int32 → Int32 → Int32 → Option (Int32 × ST)) : Nat → ST → Int32 → Int32 → Int32 → Int32 → Int32 → Option (Int32 × ST)
  | 0, _, _, _, _, _, _ => none
  | n + 1, S, x1, x2, x3, x4, x5 => if (60 * x4) < x5 then (k48 S x1 x2 x3 (x4 + (-1))) else ((f_X8_waterAt S x4 (x2 + x5)).bind fun v1 => f_X8_quickest_88 k48 (f_X8_quickest_56 k48 n) FU S x1 x2 x3 x4 x5 v1 100000 0 1)
set_option maxRecDepth 100000 in
set_option maxHeartbeats 4000000 in
theorem w_X8_quickest_56 {r : Int32} {S' : ST} (hC : Cx p m c s args cX8_quickest 11 RX8 G) (hQ : KI p l e (rmH 3) s m args below meth c Q cX8_quickest G r S') {k48 : ST → Int32 → Int32 → Int32 → Int32 → Option (Int32 × ST)} (hk48 : ∀ (S : ST) (x1 : Int32) (x2 : Int32) (x3 : Int32) (x4 : Int32) (H : Heap) (locs : List Loc) (ls : Array Slot), va_P (gD G) vwCl (cells G S) H → va_S (gA G) s.heap H locs → lv_has ls 11 [(0, .ref (ad G 30)), (1, .int x1), (2, .int x2), (3, .int x3), (4, .int x4)] → k48 S x1 x2 x3 x4 = some (r, S') → W p l e (rmH 3) s m args below meth c H locs 0 0 Q (F0 m 48 ls [])) : ∀ (n : Nat) (S : ST) (x1 : Int32) (x2 : Int32) (x3 : Int32) (x4 : Int32) (x5 : Int32) (H : Heap) (locs : List Loc) (ls : Array Slot), va_P (gD G) vwCl (cells G S) H → va_S (gA G) s.heap H locs → lv_has ls 11 [(0, .ref (ad G 30)), (1, .int x1), (2, .int x2), (3, .int x3), (4, .int x4), (5, .int x5)] → f_X8_quickest_56 k48 n S x1 x2 x3 x4 x5 = some (r, S') → W p l e (rmH 3) s m args below meth c H locs 0 0 Q (F0 m 56 ls []) := by
  obtain ⟨hx, hb, hml, hown, hts⟩ := id hC.1
  intro n
  induction n with
  | zero => intro S x1 x2 x3 x4 x5 H locs ls hP hS hl hf; rw [f_X8_quickest_56] at hf; cases hf
  | succ n ih =>
    intro S x1 x2 x3 x4 x5 H locs ls hP hS hl hf
    rw [f_X8_quickest_56] at hf
    refine lv_iload hx hb dX8_quickest_56 (lv_at hl 5 rfl) ?_
    refine lv_bipush (v := 60) hx hb dX8_quickest_58 (by decide) ?_
    refine lv_iload hx hb dX8_quickest_60 (lv_at hl 4 rfl) ?_
    refine lv_imul hx hb dX8_quickest_62 ?_
    refine lv_icmp_gt (tgt := 223) hx hb dX8_quickest_63 (by decide) (fun hc => ?_) (fun hc => ?_)
    · rw [if_pos hc] at hf
      refine lv_iinc (v := x4 + (-1)) (lv' := [(4, .int (x4 + (-1))), (0, .ref (ad G 30)), (1, .int x1), (2, .int x2), (3, .int x3), (5, .int x5)]) hx hb dX8_quickest_223 hl (k := 4) rfl rfl (by decide) rfl (fun ls hl => ?_)
      refine lv_goto (tgt := 48) hx hb dX8_quickest_226 (by decide) ?_
      exact hk48 _ _ _ _ _ _ _ _ hP hS (lv_sub hl [1, 2, 3, 4, 0] rfl) hf
    · rw [if_neg hc] at hf
      refine lv_aload_n hx hb dX8_quickest_66 rfl (lv_at hl 0 rfl) ?_
      refine lv_iload hx hb dX8_quickest_67 (lv_at hl 4 rfl) ?_
      refine lv_iload_n hx hb dX8_quickest_69 rfl (lv_at hl 2 rfl) ?_
      refine lv_iload hx hb dX8_quickest_70 (lv_at hl 5 rfl) ?_
      refine lv_iadd hx hb dX8_quickest_72 ?_
      obtain ⟨v1, hv, hf⟩ := ob_some hf
      refine cI hS (runV hC hP hS (As := [.int x4, .int (x2 + x5)]) (rest := []) (k_X8_waterAt l G S x4 (x2 + x5) _ hv) vy_X8_waterAt sg_30 vc_8 tb_5_37 tb_5_39 ts_36 ⟨Nat.le_of_ble_eq_true rfl, Nat.le_of_ble_eq_true rfl⟩ rfl hl.1 rfl (Nat.le_of_ble_eq_true rfl) dX8_quickest_73) (fun H locs hP hS => ?_)
      refine lv_istore (lv' := [(6, .int v1), (0, .ref (ad G 30)), (1, .int x1), (2, .int x2), (3, .int x3), (4, .int x4), (5, .int x5)]) hx hb dX8_quickest_76 hl (by decide) rfl (fun ls hl => ?_)
      refine lv_ldc hx hb hown (hts _ tb_5_83) dX8_quickest_78 ?_
      refine lv_istore (lv' := [(7, .int 100000), (6, .int v1), (0, .ref (ad G 30)), (1, .int x1), (2, .int x2), (3, .int x3), (4, .int x4), (5, .int x5)]) hx hb dX8_quickest_80 hl (by decide) rfl (fun ls hl => ?_)
      refine lv_iconst (v := 0) hx hb dX8_quickest_82 (by decide) ?_
      refine lv_istore (lv' := [(8, .int 0), (7, .int 100000), (6, .int v1), (0, .ref (ad G 30)), (1, .int x1), (2, .int x2), (3, .int x3), (4, .int x4), (5, .int x5)]) hx hb dX8_quickest_83 hl (by decide) rfl (fun ls hl => ?_)
      refine lv_iconst (v := 1) hx hb dX8_quickest_85 (by decide) ?_
      refine lv_istore (lv' := [(9, .int 1), (8, .int 0), (7, .int 100000), (6, .int v1), (0, .ref (ad G 30)), (1, .int x1), (2, .int x2), (3, .int x3), (4, .int x4), (5, .int x5)]) hx hb dX8_quickest_86 hl (by decide) rfl (fun ls hl => ?_)
      exact w_X8_quickest_88 hC hQ hk48 ih _ _ _ _ _ _ _ _ _ _ _ _ _ _ hP hS (lv_sub hl [4, 5, 6, 7, 8, 9, 3, 2, 1, 0] rfl) hf
def f_X8_quickest_48  : Nat → ST → Int32 → Int32 → Int32 → Int32 → Option (Int32 × ST)
  | 0, _, _, _, _, _ => none
  | n + 1, S, x1, x2, x3, x4 => if x4 < 0 then ((rI S 0 37 0).bind fun v1 => some (v1, S)) else (f_X8_quickest_56 (f_X8_quickest_48 n) FU S x1 x2 x3 x4 0)
set_option maxRecDepth 100000 in
set_option maxHeartbeats 4000000 in
theorem w_X8_quickest_48 {r : Int32} {S' : ST} (hC : Cx p m c s args cX8_quickest 11 RX8 G) (hQ : KI p l e (rmH 3) s m args below meth c Q cX8_quickest G r S') : ∀ (n : Nat) (S : ST) (x1 : Int32) (x2 : Int32) (x3 : Int32) (x4 : Int32) (H : Heap) (locs : List Loc) (ls : Array Slot), va_P (gD G) vwCl (cells G S) H → va_S (gA G) s.heap H locs → lv_has ls 11 [(0, .ref (ad G 30)), (1, .int x1), (2, .int x2), (3, .int x3), (4, .int x4)] → f_X8_quickest_48 n S x1 x2 x3 x4 = some (r, S') → W p l e (rmH 3) s m args below meth c H locs 0 0 Q (F0 m 48 ls []) := by
  obtain ⟨hx, hb, hml, hown, hts⟩ := id hC.1
  intro n
  induction n with
  | zero => intro S x1 x2 x3 x4 H locs ls hP hS hl hf; rw [f_X8_quickest_48] at hf; cases hf
  | succ n ih =>
    intro S x1 x2 x3 x4 H locs ls hP hS hl hf
    rw [f_X8_quickest_48] at hf
    refine lv_iload hx hb dX8_quickest_48 (lv_at hl 4 rfl) ?_
    refine lv_if_lt (tgt := 229) hx hb dX8_quickest_50 (by decide) (fun hc => ?_) (fun hc => ?_)
    · rw [if_pos hc] at hf
      refine lv_aload_n hx hb dX8_quickest_229 rfl (lv_at hl 0 rfl) ?_
      refine gFr hC hP (j := 15) sg_30 vc_8 iT8 (by decide) rfl tb_4_86 dX8_quickest_230 ?_
      refine lv_iconst (v := 0) hx hb dX8_quickest_233 (by decide) ?_
      obtain ⟨v1, hv, hf⟩ := ob_some hf
      refine gIa hC hP hv dX8_quickest_234 ?_
      exact retIw hQ hf hP hS dX8_quickest_235
    · rw [if_neg hc] at hf
      refine lv_iconst (v := 0) hx hb dX8_quickest_53 (by decide) ?_
      refine lv_istore (lv' := [(5, .int 0), (0, .ref (ad G 30)), (1, .int x1), (2, .int x2), (3, .int x3), (4, .int x4)]) hx hb dX8_quickest_54 hl (by decide) rfl (fun ls hl => ?_)
      exact w_X8_quickest_56 hC hQ ih _ _ _ _ _ _ _ _ _ _ hP hS (lv_sub hl [1, 2, 3, 4, 5, 0] rfl) hf
def f_X8_quickest_9  : Nat → ST → Int32 → Int32 → Int32 → Int32 → Option (Int32 × ST)
  | 0, _, _, _, _, _ => none
  | n + 1, S, x1, x2, x3, x4 => if 961 ≤ x4 then (f_X8_quickest_48 FU S x1 x2 x3 ((S.1 30 0) - 1)) else ((wI S 37 ((961 * (S.1 30 0)) + x4) 0).bind fun S1 => f_X8_quickest_9 n S1 x1 x2 x3 (x4 + 1))
set_option maxRecDepth 100000 in
set_option maxHeartbeats 4000000 in
theorem w_X8_quickest_9 {r : Int32} {S' : ST} (hC : Cx p m c s args cX8_quickest 11 RX8 G) (hQ : KI p l e (rmH 3) s m args below meth c Q cX8_quickest G r S') : ∀ (n : Nat) (S : ST) (x1 : Int32) (x2 : Int32) (x3 : Int32) (x4 : Int32) (H : Heap) (locs : List Loc) (ls : Array Slot), va_P (gD G) vwCl (cells G S) H → va_S (gA G) s.heap H locs → lv_has ls 11 [(0, .ref (ad G 30)), (1, .int x1), (2, .int x2), (3, .int x3), (4, .int x4)] → f_X8_quickest_9 n S x1 x2 x3 x4 = some (r, S') → W p l e (rmH 3) s m args below meth c H locs 0 0 Q (F0 m 9 ls []) := by
  obtain ⟨hx, hb, hml, hown, hts⟩ := id hC.1
  intro n
  induction n with
  | zero => intro S x1 x2 x3 x4 H locs ls hP hS hl hf; rw [f_X8_quickest_9] at hf; cases hf
  | succ n ih =>
    intro S x1 x2 x3 x4 H locs ls hP hS hl hf
    rw [f_X8_quickest_9] at hf
    refine lv_iload hx hb dX8_quickest_9 (lv_at hl 4 rfl) ?_
    refine lv_sipush (v := 961) hx hb dX8_quickest_11 (by decide) ?_
    refine lv_icmp_ge (tgt := 40) hx hb dX8_quickest_14 (by decide) (fun hc => ?_) (fun hc => ?_)
    · rw [if_pos hc] at hf
      refine lv_aload_n hx hb dX8_quickest_40 rfl (lv_at hl 0 rfl) ?_
      refine gFi hC hP (j := 0) sg_30 vc_8 iT8 (by decide) rfl tb_4_71 dX8_quickest_41 ?_
      refine lv_iconst (v := 1) hx hb dX8_quickest_44 (by decide) ?_
      refine lv_isub hx hb dX8_quickest_45 ?_
      refine lv_istore (lv' := [(4, .int ((S.1 30 0) - 1)), (0, .ref (ad G 30)), (1, .int x1), (2, .int x2), (3, .int x3)]) hx hb dX8_quickest_46 hl (by decide) rfl (fun ls hl => ?_)
      exact w_X8_quickest_48 hC hQ _ _ _ _ _ _ _ _ _ hP hS (lv_sub hl [1, 2, 3, 4, 0] rfl) hf
    · rw [if_neg hc] at hf
      refine lv_aload_n hx hb dX8_quickest_17 rfl (lv_at hl 0 rfl) ?_
      refine gFr hC hP (j := 15) sg_30 vc_8 iT8 (by decide) rfl tb_4_86 dX8_quickest_18 ?_
      refine lv_sipush (v := 961) hx hb dX8_quickest_21 (by decide) ?_
      refine lv_aload_n hx hb dX8_quickest_24 rfl (lv_at hl 0 rfl) ?_
      refine gFi hC hP (j := 0) sg_30 vc_8 iT8 (by decide) rfl tb_4_71 dX8_quickest_25 ?_
      refine lv_imul hx hb dX8_quickest_28 ?_
      refine lv_iload hx hb dX8_quickest_29 (lv_at hl 4 rfl) ?_
      refine lv_iadd hx hb dX8_quickest_31 ?_
      refine lv_iconst (v := 0) hx hb dX8_quickest_32 (by decide) ?_
      obtain ⟨S1, hv, hf⟩ := ob_some hf
      refine sIa hC hP hS hv dX8_quickest_33 (fun H locs hP hS => ?_)
      refine lv_iinc (v := x4 + 1) (lv' := [(4, .int (x4 + 1)), (0, .ref (ad G 30)), (1, .int x1), (2, .int x2), (3, .int x3)]) hx hb dX8_quickest_34 hl (k := 4) rfl rfl (by decide) rfl (fun ls hl => ?_)
      refine lv_goto (tgt := 9) hx hb dX8_quickest_37 (by decide) ?_
      exact ih _ _ _ _ _ _ _ _ hP hS (lv_sub hl [1, 2, 3, 4, 0] rfl) hf
def f_X8_quickest (S : ST) (x1 : Int32) (x2 : Int32) : Option (Int32 × ST) := (f_X8_needOf S x1).bind fun v1 => f_X8_quickest_9 FU S x1 x2 v1 0
set_option maxRecDepth 100000 in
set_option maxHeartbeats 4000000 in
theorem k_X8_quickest (l : Launch) (G : GT) (S : ST) (x1 : Int32) (x2 : Int32) (r : Int32) (S' : ST) (hf : f_X8_quickest S x1 x2 = some (r, S')) : MI l yX8_quickest cX8_quickest 11 (some .int) 3 [.ref (ad G 30), .int x1, .int x2] G S r S' := by
  rw [f_X8_quickest] at hf
  refine mkI (own := RX8) (by decide +kernel) rfl rfl (Nat.le_of_ble_eq_true rfl) (fun p e s m args below meth c Q ls hC hP hS hl hQ => ?_)
  have hl : lv_has ls 11 [(0, .ref (ad G 30)), (1, .int x1), (2, .int x2)] := hl
  obtain ⟨hx, hb, hml, hown, hts⟩ := id hC.1
  refine lv_aload_n hx hb dX8_quickest_0 rfl (lv_at hl 0 rfl) ?_
  refine lv_iload_n hx hb dX8_quickest_1 rfl (lv_at hl 1 rfl) ?_
  obtain ⟨v1, hv, hf⟩ := ob_some hf
  refine cI hS (runV hC hP hS (As := [.int x1]) (rest := []) (k_X8_needOf l G S x1 _ hv) vy_X8_needOf sg_30 vc_8 tb_5_66 tb_5_68 ts_40 ⟨Nat.le_of_ble_eq_true rfl, Nat.le_of_ble_eq_true rfl⟩ rfl hl.1 rfl (Nat.le_of_ble_eq_true rfl) dX8_quickest_2) (fun H locs hP hS => ?_)
  refine lv_istore_n (lv' := [(3, .int v1), (0, .ref (ad G 30)), (1, .int x1), (2, .int x2)]) hx hb dX8_quickest_5 rfl hl (by decide) rfl (fun ls hl => ?_)
  refine lv_iconst (v := 0) hx hb dX8_quickest_6 (by decide) ?_
  refine lv_istore (lv' := [(4, .int 0), (3, .int v1), (0, .ref (ad G 30)), (1, .int x1), (2, .int x2)]) hx hb dX8_quickest_7 hl (by decide) rfl (fun ls hl => ?_)
  exact w_X8_quickest_9 hC hQ _ _ _ _ _ _ _ _ _ hP hS (lv_sub hl [2, 3, 4, 1, 0] rfl) hf
def f_X8_least_46  (S : ST)  : Option (Int32 × ST) := if (S.1 30 0) = 0 then (some ((-2), S)) else (some ((-1), S))
set_option maxRecDepth 100000 in
set_option maxHeartbeats 4000000 in
theorem w_X8_least_46 {r : Int32} {S' : ST} (hC : Cx p m c s args cX8_least 7 RX8 G) (hQ : KI p l e (rmH 4) s m args below meth c Q cX8_least G r S') (S : ST)  (H : Heap) (locs : List Loc) (ls : Array Slot) (hP : va_P (gD G) vwCl (cells G S) H) (hS : va_S (gA G) s.heap H locs) (hl : lv_has ls 7 [(0, .ref (ad G 30))]) (hf : f_X8_least_46 S = some (r, S')) : W p l e (rmH 4) s m args below meth c H locs 0 0 Q (F0 m 46 ls []) := by
  obtain ⟨hx, hb, hml, hown, hts⟩ := id hC.1
  rw [f_X8_least_46] at hf
  refine lv_aload_n hx hb dX8_least_46 rfl (lv_at hl 0 rfl) ?_
  refine gFi hC hP (j := 0) sg_30 vc_8 iT8 (by decide) rfl tb_4_71 dX8_least_47 ?_
  refine lv_if_ne (tgt := 58) hx hb dX8_least_50 (by decide) (fun hc => ?_) (fun hc => ?_)
  · rw [if_neg hc] at hf
    refine lv_iconst (v := (-1)) hx hb dX8_least_58 (by decide) ?_
    exact retIw hQ hf hP hS dX8_least_59
  · rw [if_pos hc] at hf
    refine lv_bipush (v := (-2)) hx hb dX8_least_53 (by decide) ?_
    refine lv_goto (tgt := 59) hx hb dX8_least_55 (by decide) ?_
    exact retIw hQ hf hP hS dX8_least_59
def f_X8_least_84  : Nat → ST → Int32 → Int32 → Int32 → Int32 → Option (Int32 × ST)
  | 0, _, _, _, _, _ => none
  | n + 1, S, x3, x4, x5, x6 => if x3 ≤ x6 then (if 0 ≤ x3 then ((rI S 0 38 ((961 * x3) + x5)).bind fun v1 => some (v1, S)) else (some (x4, S))) else ((rI S 0 38 ((961 * x6) + x5)).bind fun v2 => (dv 60 v2).bind fun v3 => f_X8_least_84 n S x3 x4 (x5 + v3) (x6 + 1))
set_option maxRecDepth 100000 in
set_option maxHeartbeats 4000000 in
theorem w_X8_least_84 {r : Int32} {S' : ST} (hC : Cx p m c s args cX8_least 7 RX8 G) (hQ : KI p l e (rmH 4) s m args below meth c Q cX8_least G r S') : ∀ (n : Nat) (S : ST) (x3 : Int32) (x4 : Int32) (x5 : Int32) (x6 : Int32) (H : Heap) (locs : List Loc) (ls : Array Slot), va_P (gD G) vwCl (cells G S) H → va_S (gA G) s.heap H locs → lv_has ls 7 [(0, .ref (ad G 30)), (3, .int x3), (4, .int x4), (5, .int x5), (6, .int x6)] → f_X8_least_84 n S x3 x4 x5 x6 = some (r, S') → W p l e (rmH 4) s m args below meth c H locs 0 0 Q (F0 m 84 ls []) := by
  obtain ⟨hx, hb, hml, hown, hts⟩ := id hC.1
  intro n
  induction n with
  | zero => intro S x3 x4 x5 x6 H locs ls hP hS hl hf; rw [f_X8_least_84] at hf; cases hf
  | succ n ih =>
    intro S x3 x4 x5 x6 H locs ls hP hS hl hf
    rw [f_X8_least_84] at hf
    refine lv_iload hx hb dX8_least_84 (lv_at hl 4 rfl) ?_
    refine lv_iload_n hx hb dX8_least_86 rfl (lv_at hl 1 rfl) ?_
    refine lv_icmp_ge (tgt := 118) hx hb dX8_least_87 (by decide) (fun hc => ?_) (fun hc => ?_)
    · rw [if_pos hc] at hf
      refine lv_iload_n hx hb dX8_least_118 rfl (lv_at hl 1 rfl) ?_
      refine lv_if_ge (tgt := 127) hx hb dX8_least_119 (by decide) (fun hc => ?_) (fun hc => ?_)
      · rw [if_pos hc] at hf
        refine lv_aload_n hx hb dX8_least_127 rfl (lv_at hl 0 rfl) ?_
        refine gFr hC hP (j := 16) sg_30 vc_8 iT8 (by decide) rfl tb_4_87 dX8_least_128 ?_
        refine lv_sipush (v := 961) hx hb dX8_least_131 (by decide) ?_
        refine lv_iload_n hx hb dX8_least_134 rfl (lv_at hl 1 rfl) ?_
        refine lv_imul hx hb dX8_least_135 ?_
        refine lv_iload hx hb dX8_least_136 (lv_at hl 3 rfl) ?_
        refine lv_iadd hx hb dX8_least_138 ?_
        obtain ⟨v1, hv, hf⟩ := ob_some hf
        refine gIa hC hP hv dX8_least_139 ?_
        exact retIw hQ hf hP hS dX8_least_140
      · rw [if_neg hc] at hf
        refine lv_iload hx hb dX8_least_122 (lv_at hl 2 rfl) ?_
        refine lv_goto (tgt := 140) hx hb dX8_least_124 (by decide) ?_
        exact retIw hQ hf hP hS dX8_least_140
    · rw [if_neg hc] at hf
      refine lv_iload hx hb dX8_least_90 (lv_at hl 3 rfl) ?_
      refine lv_bipush (v := 60) hx hb dX8_least_92 (by decide) ?_
      refine lv_aload_n hx hb dX8_least_94 rfl (lv_at hl 0 rfl) ?_
      refine gFr hC hP (j := 16) sg_30 vc_8 iT8 (by decide) rfl tb_4_87 dX8_least_95 ?_
      refine lv_sipush (v := 961) hx hb dX8_least_98 (by decide) ?_
      refine lv_iload hx hb dX8_least_101 (lv_at hl 4 rfl) ?_
      refine lv_imul hx hb dX8_least_103 ?_
      refine lv_iload hx hb dX8_least_104 (lv_at hl 3 rfl) ?_
      refine lv_iadd hx hb dX8_least_106 ?_
      obtain ⟨v2, hv, hf⟩ := ob_some hf
      refine gIa hC hP hv dX8_least_107 ?_
      obtain ⟨v3, hv, hf⟩ := ob_some hf
      refine xDv hC hv dX8_least_108 ?_
      refine lv_iadd hx hb dX8_least_109 ?_
      refine lv_istore (lv' := [(5, .int (x5 + v3)), (0, .ref (ad G 30)), (3, .int x3), (4, .int x4), (6, .int x6)]) hx hb dX8_least_110 hl (by decide) rfl (fun ls hl => ?_)
      refine lv_iinc (v := x6 + 1) (lv' := [(6, .int (x6 + 1)), (5, .int (x5 + v3)), (0, .ref (ad G 30)), (3, .int x3), (4, .int x4)]) hx hb dX8_least_112 hl (k := 4) rfl rfl (by decide) rfl (fun ls hl => ?_)
      refine lv_goto (tgt := 84) hx hb dX8_least_115 (by decide) ?_
      exact ih _ _ _ _ _ _ _ _ hP hS (lv_sub hl [2, 3, 4, 1, 0] rfl) hf
def f_X8_least (S : ST) (x1 : Int32) (x2 : Int32) (x3 : Int32) : Option (Int32 × ST) := (f_X8_isShip S x1).bind fun v1 => if v1 = 0 then (some ((-1), S)) else ((f_X8_isStart x2).bind fun v2 => if v2 = 0 then (some ((-1), S)) else ((f_X8_in (x3.toInt64) (-1) 15).bind fun v3 => if v3 = 0 then (some ((-1), S)) else (if (S.1 30 0) = 0 then (f_X8_least_46 S) else (if x3 < (S.1 30 0) then (b2 (f_X8_quickest S x1 x2) fun v4 S5 => if v4 < 100000 then (f_X8_least_84 FU S5 x3 v4 0 0) else (some ((-4), S5))) else (f_X8_least_46 S)))))
set_option maxRecDepth 100000 in
set_option maxHeartbeats 4000000 in
theorem k_X8_least (l : Launch) (G : GT) (S : ST) (x1 : Int32) (x2 : Int32) (x3 : Int32) (r : Int32) (S' : ST) (hf : f_X8_least S x1 x2 x3 = some (r, S')) : MI l yX8_least cX8_least 7 (some .int) 4 [.ref (ad G 30), .int x1, .int x2, .int x3] G S r S' := by
  rw [f_X8_least] at hf
  refine mkI (own := RX8) (by decide +kernel) rfl rfl (Nat.le_of_ble_eq_true rfl) (fun p e s m args below meth c Q ls hC hP hS hl hQ => ?_)
  have hl : lv_has ls 7 [(0, .ref (ad G 30)), (1, .int x1), (2, .int x2), (3, .int x3)] := hl
  obtain ⟨hx, hb, hml, hown, hts⟩ := id hC.1
  refine lv_aload_n hx hb dX8_least_0 rfl (lv_at hl 0 rfl) ?_
  refine lv_iload_n hx hb dX8_least_1 rfl (lv_at hl 1 rfl) ?_
  obtain ⟨v1, hv, hf⟩ := ob_some hf
  refine cI hS (runV hC hP hS (As := [.int x1]) (rest := []) (k_X8_isShip l G S x1 _ hv) vy_X8_isShip sg_30 vc_8 tb_5_46 tb_5_48 ts_37 ⟨Nat.le_of_ble_eq_true rfl, Nat.le_of_ble_eq_true rfl⟩ rfl hl.1 rfl (Nat.le_of_ble_eq_true rfl) dX8_least_2) (fun H locs hP hS => ?_)
  refine lv_if_eq (tgt := 29) hx hb dX8_least_5 (by decide) (fun hc => ?_) (fun hc => ?_)
  · rw [if_pos hc] at hf
    refine lv_iconst (v := (-1)) hx hb dX8_least_29 (by decide) ?_
    exact retIw hQ hf hP hS dX8_least_30
  · rw [if_neg hc] at hf
    refine lv_iload_n hx hb dX8_least_8 rfl (lv_at hl 2 rfl) ?_
    obtain ⟨v2, hv, hf⟩ := ob_some hf
    refine cI hS (runS hC hP hS (As := [.int x2]) (rest := []) (k_X8_isStart l G S x2 _ hv) vy_X8_isStart tb_5_74 tb_5_75 ⟨Nat.le_of_ble_eq_true rfl, Nat.le_of_ble_eq_true rfl⟩ rfl hl.1 rfl (Nat.le_of_ble_eq_true rfl) dX8_least_9) (fun H locs hP hS => ?_)
    refine lv_if_eq (tgt := 29) hx hb dX8_least_12 (by decide) (fun hc => ?_) (fun hc => ?_)
    · rw [if_pos hc] at hf
      refine lv_iconst (v := (-1)) hx hb dX8_least_29 (by decide) ?_
      exact retIw hQ hf hP hS dX8_least_30
    · rw [if_neg hc] at hf
      refine lv_iload_n hx hb dX8_least_15 rfl (lv_at hl 3 rfl) ?_
      refine lv_i2l (v := x3.toInt64) hx hb dX8_least_16 rfl ?_
      refine lv_ldc2 hx hb hown (hts _ tb_5_88) dX8_least_17 ?_
      refine lv_ldc2 hx hb hown (hts _ tb_4_218) dX8_least_20 ?_
      obtain ⟨v3, hv, hf⟩ := ob_some hf
      refine cI hS (runS hC hP hS (As := [.long (x3.toInt64), .long (-1), .long 15]) (rest := []) (k_X8_in l G S (x3.toInt64) (-1) 15 _ hv) vy_X8_in tb_4_169 tb_4_170 ⟨Nat.le_of_ble_eq_true rfl, Nat.le_of_ble_eq_true rfl⟩ rfl hl.1 rfl (Nat.le_of_ble_eq_true rfl) dX8_least_23) (fun H locs hP hS => ?_)
      refine lv_if_ne (tgt := 31) hx hb dX8_least_26 (by decide) (fun hc => ?_) (fun hc => ?_)
      · rw [if_neg hc] at hf
        refine lv_aload_n hx hb dX8_least_31 rfl (lv_at hl 0 rfl) ?_
        refine gFi hC hP (j := 0) sg_30 vc_8 iT8 (by decide) rfl tb_4_71 dX8_least_32 ?_
        refine lv_if_eq (tgt := 46) hx hb dX8_least_35 (by decide) (fun hc => ?_) (fun hc => ?_)
        · rw [if_pos hc] at hf
          exact w_X8_least_46 hC hQ  _ _ _ _ hP hS (lv_sub hl [0] rfl) hf
        · rw [if_neg hc] at hf
          refine lv_iload_n hx hb dX8_least_38 rfl (lv_at hl 3 rfl) ?_
          refine lv_aload_n hx hb dX8_least_39 rfl (lv_at hl 0 rfl) ?_
          refine gFi hC hP (j := 0) sg_30 vc_8 iT8 (by decide) rfl tb_4_71 dX8_least_40 ?_
          refine lv_icmp_lt (tgt := 60) hx hb dX8_least_43 (by decide) (fun hc => ?_) (fun hc => ?_)
          · rw [if_pos hc] at hf
            refine lv_aload_n hx hb dX8_least_60 rfl (lv_at hl 0 rfl) ?_
            refine lv_iload_n hx hb dX8_least_61 rfl (lv_at hl 1 rfl) ?_
            refine lv_iload_n hx hb dX8_least_62 rfl (lv_at hl 2 rfl) ?_
            obtain ⟨v4, S5, hv, hf⟩ := ob_two hf
            refine cI hS (runV hC hP hS (As := [.int x1, .int x2]) (rest := []) (k_X8_quickest l G S x1 x2 _ _ hv) vy_X8_quickest sg_30 vc_8 tb_5_89 tb_5_91 ts_42 ⟨Nat.le_of_ble_eq_true rfl, Nat.le_of_ble_eq_true rfl⟩ rfl hl.1 rfl (Nat.le_of_ble_eq_true rfl) dX8_least_63) (fun H locs hP hS => ?_)
            refine lv_istore (lv' := [(4, .int v4), (0, .ref (ad G 30)), (1, .int x1), (2, .int x2), (3, .int x3)]) hx hb dX8_least_66 hl (by decide) rfl (fun ls hl => ?_)
            refine lv_iload hx hb dX8_least_68 (lv_at hl 0 rfl) ?_
            refine lv_ldc hx hb hown (hts _ tb_5_83) dX8_least_70 ?_
            refine lv_icmp_lt (tgt := 78) hx hb dX8_least_72 (by decide) (fun hc => ?_) (fun hc => ?_)
            · rw [if_pos hc] at hf
              refine lv_iconst (v := 0) hx hb dX8_least_78 (by decide) ?_
              refine lv_istore (lv' := [(5, .int 0), (4, .int v4), (0, .ref (ad G 30)), (1, .int x1), (2, .int x2), (3, .int x3)]) hx hb dX8_least_79 hl (by decide) rfl (fun ls hl => ?_)
              refine lv_iconst (v := 0) hx hb dX8_least_81 (by decide) ?_
              refine lv_istore (lv' := [(6, .int 0), (5, .int 0), (4, .int v4), (0, .ref (ad G 30)), (1, .int x1), (2, .int x2), (3, .int x3)]) hx hb dX8_least_82 hl (by decide) rfl (fun ls hl => ?_)
              exact w_X8_least_84 hC hQ _ _ _ _ _ _ _ _ _ hP hS (lv_sub hl [3, 6, 2, 1, 0] rfl) hf
            · rw [if_neg hc] at hf
              refine lv_bipush (v := (-4)) hx hb dX8_least_75 (by decide) ?_
              exact retIw hQ hf hP hS dX8_least_77
          · rw [if_neg hc] at hf
            exact w_X8_least_46 hC hQ  _ _ _ _ hP hS (lv_sub hl [0] rfl) hf
      · rw [if_pos hc] at hf
        refine lv_iconst (v := (-1)) hx hb dX8_least_29 (by decide) ?_
        exact retIw hQ hf hP hS dX8_least_30
def f_X8_startsOf_155  (k35 : ST → Int32 → Int32 → Int32 → Option ST) (k73 : ST → Int32 → Int32 → Int32 → Int32 → Option ST) (S : ST) (x1 : Int32) (x2 : Int32) (x3 : Int32) (x4 : Int32) (x6 : Int32) : Option ST := (wZ S 39 x4 x6).bind fun S1 => k73 S1 x1 x2 x3 (x4 + 1)
set_option maxRecDepth 100000 in
set_option maxHeartbeats 4000000 in
theorem w_X8_startsOf_155 {S' : ST} (hC : Cx p m c s args cX8_startsOf 8 RX8 G) (hQ : KV p l e (rmH 3) s m args below meth c Q cX8_startsOf G S') {k35 : ST → Int32 → Int32 → Int32 → Option ST} (hk35 : ∀ (S : ST) (x1 : Int32) (x2 : Int32) (x3 : Int32) (H : Heap) (locs : List Loc) (ls : Array Slot), va_P (gD G) vwCl (cells G S) H → va_S (gA G) s.heap H locs → lv_has ls 8 [(0, .ref (ad G 30)), (1, .int x1), (2, .int x2), (3, .int x3)] → k35 S x1 x2 x3 = some S' → W p l e (rmH 3) s m args below meth c H locs 0 0 Q (F0 m 35 ls [])) {k73 : ST → Int32 → Int32 → Int32 → Int32 → Option ST} (hk73 : ∀ (S : ST) (x1 : Int32) (x2 : Int32) (x3 : Int32) (x4 : Int32) (H : Heap) (locs : List Loc) (ls : Array Slot), va_P (gD G) vwCl (cells G S) H → va_S (gA G) s.heap H locs → lv_has ls 8 [(0, .ref (ad G 30)), (1, .int x1), (2, .int x2), (3, .int x3), (4, .int x4)] → k73 S x1 x2 x3 x4 = some S' → W p l e (rmH 3) s m args below meth c H locs 0 0 Q (F0 m 73 ls [])) (S : ST) (x1 : Int32) (x2 : Int32) (x3 : Int32) (x4 : Int32) (x6 : Int32) (H : Heap) (locs : List Loc) (ls : Array Slot) (hP : va_P (gD G) vwCl (cells G S) H) (hS : va_S (gA G) s.heap H locs) (hl : lv_has ls 8 [(0, .ref (ad G 30)), (1, .int x1), (2, .int x2), (3, .int x3), (4, .int x4), (6, .int x6)]) (hf : f_X8_startsOf_155 k35 k73 S x1 x2 x3 x4 x6 = some S') : W p l e (rmH 3) s m args below meth c H locs 0 0 Q (F0 m 155 ls []) := by
  obtain ⟨hx, hb, hml, hown, hts⟩ := id hC.1
  rw [f_X8_startsOf_155] at hf
  refine lv_aload_n hx hb dX8_startsOf_155 rfl (lv_at hl 0 rfl) ?_
  refine gFr hC hP (j := 17) sg_30 vc_8 iT8 (by decide) rfl tb_4_88 dX8_startsOf_156 ?_
  refine lv_iload hx hb dX8_startsOf_159 (lv_at hl 4 rfl) ?_
  refine lv_iload hx hb dX8_startsOf_161 (lv_at hl 5 rfl) ?_
  obtain ⟨S1, hv, hf⟩ := ob_some hf
  refine sZa hC hP hS hv dX8_startsOf_163 (fun H locs hP hS => ?_)
  refine lv_iinc (v := x4 + 1) (lv' := [(4, .int (x4 + 1)), (0, .ref (ad G 30)), (1, .int x1), (2, .int x2), (3, .int x3), (6, .int x6)]) hx hb dX8_startsOf_164 hl (k := 4) rfl rfl (by decide) rfl (fun ls hl => ?_)
  refine lv_goto (tgt := 73) hx hb dX8_startsOf_167 (by decide) ?_
  exact hk73 _ _ _ _ _ _ _ _ hP hS (lv_sub hl [1, 2, 3, 4, 0] rfl) hf
def f_X8_startsOf_147  (k35 : ST → Int32 → Int32 → Int32 → Option ST) (k73 : ST → Int32 → Int32 → Int32 → Int32 → Option ST) (k96 : ST → Int32 → Int32 → Int32 → Int32 → Int32 → Int32 → Int32 → Option ST) (S : ST) (x1 : Int32) (x2 : Int32) (x3 : Int32) (x4 : Int32) (x5 : Int32) (x7 : Int32) (y0 : Int32) : Option ST := k96 S x1 x2 x3 x4 x5 y0 (x7 + 1)
set_option maxRecDepth 100000 in
set_option maxHeartbeats 4000000 in
theorem w_X8_startsOf_147 {S' : ST} (hC : Cx p m c s args cX8_startsOf 8 RX8 G) (hQ : KV p l e (rmH 3) s m args below meth c Q cX8_startsOf G S') {k35 : ST → Int32 → Int32 → Int32 → Option ST} (hk35 : ∀ (S : ST) (x1 : Int32) (x2 : Int32) (x3 : Int32) (H : Heap) (locs : List Loc) (ls : Array Slot), va_P (gD G) vwCl (cells G S) H → va_S (gA G) s.heap H locs → lv_has ls 8 [(0, .ref (ad G 30)), (1, .int x1), (2, .int x2), (3, .int x3)] → k35 S x1 x2 x3 = some S' → W p l e (rmH 3) s m args below meth c H locs 0 0 Q (F0 m 35 ls [])) {k73 : ST → Int32 → Int32 → Int32 → Int32 → Option ST} (hk73 : ∀ (S : ST) (x1 : Int32) (x2 : Int32) (x3 : Int32) (x4 : Int32) (H : Heap) (locs : List Loc) (ls : Array Slot), va_P (gD G) vwCl (cells G S) H → va_S (gA G) s.heap H locs → lv_has ls 8 [(0, .ref (ad G 30)), (1, .int x1), (2, .int x2), (3, .int x3), (4, .int x4)] → k73 S x1 x2 x3 x4 = some S' → W p l e (rmH 3) s m args below meth c H locs 0 0 Q (F0 m 73 ls [])) {k96 : ST → Int32 → Int32 → Int32 → Int32 → Int32 → Int32 → Int32 → Option ST} (hk96 : ∀ (S : ST) (x1 : Int32) (x2 : Int32) (x3 : Int32) (x4 : Int32) (x5 : Int32) (x6 : Int32) (x7 : Int32) (H : Heap) (locs : List Loc) (ls : Array Slot), va_P (gD G) vwCl (cells G S) H → va_S (gA G) s.heap H locs → lv_has ls 8 [(0, .ref (ad G 30)), (1, .int x1), (2, .int x2), (3, .int x3), (4, .int x4), (5, .int x5), (6, .int x6), (7, .int x7)] → k96 S x1 x2 x3 x4 x5 x6 x7 = some S' → W p l e (rmH 3) s m args below meth c H locs 0 0 Q (F0 m 96 ls [])) (S : ST) (x1 : Int32) (x2 : Int32) (x3 : Int32) (x4 : Int32) (x5 : Int32) (x7 : Int32) (y0 : Int32) (H : Heap) (locs : List Loc) (ls : Array Slot) (hP : va_P (gD G) vwCl (cells G S) H) (hS : va_S (gA G) s.heap H locs) (hl : lv_has ls 8 [(0, .ref (ad G 30)), (1, .int x1), (2, .int x2), (3, .int x3), (4, .int x4), (5, .int x5), (7, .int x7)]) (hf : f_X8_startsOf_147 k35 k73 k96 S x1 x2 x3 x4 x5 x7 y0 = some S') : W p l e (rmH 3) s m args below meth c H locs 0 0 Q (F0 m 147 ls [.int y0]) := by
  obtain ⟨hx, hb, hml, hown, hts⟩ := id hC.1
  rw [f_X8_startsOf_147] at hf
  refine lv_istore (lv' := [(6, .int y0), (0, .ref (ad G 30)), (1, .int x1), (2, .int x2), (3, .int x3), (4, .int x4), (5, .int x5), (7, .int x7)]) hx hb dX8_startsOf_147 hl (by decide) rfl (fun ls hl => ?_)
  refine lv_iinc (v := x7 + 1) (lv' := [(7, .int (x7 + 1)), (6, .int y0), (0, .ref (ad G 30)), (1, .int x1), (2, .int x2), (3, .int x3), (4, .int x4), (5, .int x5)]) hx hb dX8_startsOf_149 hl (k := 7) rfl rfl (by decide) rfl (fun ls hl => ?_)
  refine lv_goto (tgt := 96) hx hb dX8_startsOf_152 (by decide) ?_
  exact hk96 _ _ _ _ _ _ _ _ _ _ _ hP hS (lv_sub hl [2, 3, 4, 5, 6, 7, 1, 0] rfl) hf
def f_X8_startsOf_146  (k35 : ST → Int32 → Int32 → Int32 → Option ST) (k73 : ST → Int32 → Int32 → Int32 → Int32 → Option ST) (k96 : ST → Int32 → Int32 → Int32 → Int32 → Int32 → Int32 → Int32 → Option ST) (S : ST) (x1 : Int32) (x2 : Int32) (x3 : Int32) (x4 : Int32) (x5 : Int32) (x7 : Int32) : Option ST := f_X8_startsOf_147 k35 k73 k96 S x1 x2 x3 x4 x5 x7 0
set_option maxRecDepth 100000 in
set_option maxHeartbeats 4000000 in
theorem w_X8_startsOf_146 {S' : ST} (hC : Cx p m c s args cX8_startsOf 8 RX8 G) (hQ : KV p l e (rmH 3) s m args below meth c Q cX8_startsOf G S') {k35 : ST → Int32 → Int32 → Int32 → Option ST} (hk35 : ∀ (S : ST) (x1 : Int32) (x2 : Int32) (x3 : Int32) (H : Heap) (locs : List Loc) (ls : Array Slot), va_P (gD G) vwCl (cells G S) H → va_S (gA G) s.heap H locs → lv_has ls 8 [(0, .ref (ad G 30)), (1, .int x1), (2, .int x2), (3, .int x3)] → k35 S x1 x2 x3 = some S' → W p l e (rmH 3) s m args below meth c H locs 0 0 Q (F0 m 35 ls [])) {k73 : ST → Int32 → Int32 → Int32 → Int32 → Option ST} (hk73 : ∀ (S : ST) (x1 : Int32) (x2 : Int32) (x3 : Int32) (x4 : Int32) (H : Heap) (locs : List Loc) (ls : Array Slot), va_P (gD G) vwCl (cells G S) H → va_S (gA G) s.heap H locs → lv_has ls 8 [(0, .ref (ad G 30)), (1, .int x1), (2, .int x2), (3, .int x3), (4, .int x4)] → k73 S x1 x2 x3 x4 = some S' → W p l e (rmH 3) s m args below meth c H locs 0 0 Q (F0 m 73 ls [])) {k96 : ST → Int32 → Int32 → Int32 → Int32 → Int32 → Int32 → Int32 → Option ST} (hk96 : ∀ (S : ST) (x1 : Int32) (x2 : Int32) (x3 : Int32) (x4 : Int32) (x5 : Int32) (x6 : Int32) (x7 : Int32) (H : Heap) (locs : List Loc) (ls : Array Slot), va_P (gD G) vwCl (cells G S) H → va_S (gA G) s.heap H locs → lv_has ls 8 [(0, .ref (ad G 30)), (1, .int x1), (2, .int x2), (3, .int x3), (4, .int x4), (5, .int x5), (6, .int x6), (7, .int x7)] → k96 S x1 x2 x3 x4 x5 x6 x7 = some S' → W p l e (rmH 3) s m args below meth c H locs 0 0 Q (F0 m 96 ls [])) (S : ST) (x1 : Int32) (x2 : Int32) (x3 : Int32) (x4 : Int32) (x5 : Int32) (x7 : Int32) (H : Heap) (locs : List Loc) (ls : Array Slot) (hP : va_P (gD G) vwCl (cells G S) H) (hS : va_S (gA G) s.heap H locs) (hl : lv_has ls 8 [(0, .ref (ad G 30)), (1, .int x1), (2, .int x2), (3, .int x3), (4, .int x4), (5, .int x5), (7, .int x7)]) (hf : f_X8_startsOf_146 k35 k73 k96 S x1 x2 x3 x4 x5 x7 = some S') : W p l e (rmH 3) s m args below meth c H locs 0 0 Q (F0 m 146 ls []) := by
  obtain ⟨hx, hb, hml, hown, hts⟩ := id hC.1
  rw [f_X8_startsOf_146] at hf
  refine lv_iconst (v := 0) hx hb dX8_startsOf_146 (by decide) ?_
  exact w_X8_startsOf_147 hC hQ hk35 hk73 hk96  _ _ _ _ _ _ _ _ _ _ _ hP hS (lv_sub hl [0, 1, 2, 3, 4, 5, 6] rfl) hf
def f_X8_startsOf_96  (k35 : ST → Int32 → Int32 → Int32 → Option ST) (k73 : ST → Int32 → Int32 → Int32 → Int32 → Option ST) : Nat → ST → Int32 → Int32 → Int32 → Int32 → Int32 → Int32 → Int32 → Option ST
  | 0, _, _, _, _, _, _, _, _ => none
  | n + 1, S, x1, x2, x3, x4, x5, x6, x7 => if 16 ≤ x7 then (f_X8_startsOf_155 k35 k73 S x1 x2 x3 x4 x6) else (if x6 = 0 then ((f_X8_underBy S x1 x3 x5 x7).bind fun v1 => if v1 < x2 then (f_X8_startsOf_146 k35 k73 (f_X8_startsOf_96 k35 k73 n) S x1 x2 x3 x4 x5 x7) else ((dv 60 x7).bind fun v2 => (rm (x4 + v2) 1440).bind fun v3 => (rI S 2 40 v3).bind fun v4 => if v4 = 0 then (f_X8_startsOf_146 k35 k73 (f_X8_startsOf_96 k35 k73 n) S x1 x2 x3 x4 x5 x7) else (f_X8_startsOf_147 k35 k73 (f_X8_startsOf_96 k35 k73 n) S x1 x2 x3 x4 x5 x7 1))) else (f_X8_startsOf_155 k35 k73 S x1 x2 x3 x4 x6))
set_option maxRecDepth 100000 in
set_option maxHeartbeats 4000000 in
theorem w_X8_startsOf_96 {S' : ST} (hC : Cx p m c s args cX8_startsOf 8 RX8 G) (hQ : KV p l e (rmH 3) s m args below meth c Q cX8_startsOf G S') {k35 : ST → Int32 → Int32 → Int32 → Option ST} (hk35 : ∀ (S : ST) (x1 : Int32) (x2 : Int32) (x3 : Int32) (H : Heap) (locs : List Loc) (ls : Array Slot), va_P (gD G) vwCl (cells G S) H → va_S (gA G) s.heap H locs → lv_has ls 8 [(0, .ref (ad G 30)), (1, .int x1), (2, .int x2), (3, .int x3)] → k35 S x1 x2 x3 = some S' → W p l e (rmH 3) s m args below meth c H locs 0 0 Q (F0 m 35 ls [])) {k73 : ST → Int32 → Int32 → Int32 → Int32 → Option ST} (hk73 : ∀ (S : ST) (x1 : Int32) (x2 : Int32) (x3 : Int32) (x4 : Int32) (H : Heap) (locs : List Loc) (ls : Array Slot), va_P (gD G) vwCl (cells G S) H → va_S (gA G) s.heap H locs → lv_has ls 8 [(0, .ref (ad G 30)), (1, .int x1), (2, .int x2), (3, .int x3), (4, .int x4)] → k73 S x1 x2 x3 x4 = some S' → W p l e (rmH 3) s m args below meth c H locs 0 0 Q (F0 m 73 ls [])) : ∀ (n : Nat) (S : ST) (x1 : Int32) (x2 : Int32) (x3 : Int32) (x4 : Int32) (x5 : Int32) (x6 : Int32) (x7 : Int32) (H : Heap) (locs : List Loc) (ls : Array Slot), va_P (gD G) vwCl (cells G S) H → va_S (gA G) s.heap H locs → lv_has ls 8 [(0, .ref (ad G 30)), (1, .int x1), (2, .int x2), (3, .int x3), (4, .int x4), (5, .int x5), (6, .int x6), (7, .int x7)] → f_X8_startsOf_96 k35 k73 n S x1 x2 x3 x4 x5 x6 x7 = some S' → W p l e (rmH 3) s m args below meth c H locs 0 0 Q (F0 m 96 ls []) := by
  obtain ⟨hx, hb, hml, hown, hts⟩ := id hC.1
  intro n
  induction n with
  | zero => intro S x1 x2 x3 x4 x5 x6 x7 H locs ls hP hS hl hf; rw [f_X8_startsOf_96] at hf; cases hf
  | succ n ih =>
    intro S x1 x2 x3 x4 x5 x6 x7 H locs ls hP hS hl hf
    rw [f_X8_startsOf_96] at hf
    refine lv_iload hx hb dX8_startsOf_96 (lv_at hl 7 rfl) ?_
    refine lv_bipush (v := 16) hx hb dX8_startsOf_98 (by decide) ?_
    refine lv_icmp_ge (tgt := 155) hx hb dX8_startsOf_100 (by decide) (fun hc => ?_) (fun hc => ?_)
    · rw [if_pos hc] at hf
      exact w_X8_startsOf_155 hC hQ hk35 hk73  _ _ _ _ _ _ _ _ _ hP hS (lv_sub hl [0, 1, 2, 3, 4, 6] rfl) hf
    · rw [if_neg hc] at hf
      refine lv_iload hx hb dX8_startsOf_103 (lv_at hl 6 rfl) ?_
      refine lv_if_ne (tgt := 155) hx hb dX8_startsOf_105 (by decide) (fun hc => ?_) (fun hc => ?_)
      · rw [if_neg hc] at hf
        exact w_X8_startsOf_155 hC hQ hk35 hk73  _ _ _ _ _ _ _ _ _ hP hS (lv_sub hl [0, 1, 2, 3, 4, 6] rfl) hf
      · rw [if_pos hc] at hf
        refine lv_aload_n hx hb dX8_startsOf_108 rfl (lv_at hl 0 rfl) ?_
        refine lv_iload_n hx hb dX8_startsOf_109 rfl (lv_at hl 1 rfl) ?_
        refine lv_iload_n hx hb dX8_startsOf_110 rfl (lv_at hl 3 rfl) ?_
        refine lv_iload hx hb dX8_startsOf_111 (lv_at hl 5 rfl) ?_
        refine lv_iload hx hb dX8_startsOf_113 (lv_at hl 7 rfl) ?_
        obtain ⟨v1, hv, hf⟩ := ob_some hf
        refine cI hS (runV hC hP hS (As := [.int x1, .int x3, .int x5, .int x7]) (rest := []) (k_X8_underBy l G S x1 x3 x5 x7 _ hv) vy_X8_underBy sg_30 vc_8 tb_5_58 tb_5_60 ts_39 ⟨Nat.le_of_ble_eq_true rfl, Nat.le_of_ble_eq_true rfl⟩ rfl hl.1 rfl (Nat.le_of_ble_eq_true rfl) dX8_startsOf_115) (fun H locs hP hS => ?_)
        refine lv_iload_n hx hb dX8_startsOf_118 rfl (lv_at hl 2 rfl) ?_
        refine lv_icmp_lt (tgt := 146) hx hb dX8_startsOf_119 (by decide) (fun hc => ?_) (fun hc => ?_)
        · rw [if_pos hc] at hf
          exact w_X8_startsOf_146 hC hQ hk35 hk73 ih  _ _ _ _ _ _ _ _ _ _ hP hS (lv_sub hl [0, 1, 2, 3, 4, 5, 7] rfl) hf
        · rw [if_neg hc] at hf
          refine lv_aload_n hx hb dX8_startsOf_122 rfl (lv_at hl 0 rfl) ?_
          refine gFr hC hP (j := 18) sg_30 vc_8 iT8 (by decide) rfl tb_4_89 dX8_startsOf_123 ?_
          refine lv_iload hx hb dX8_startsOf_126 (lv_at hl 4 rfl) ?_
          refine lv_bipush (v := 60) hx hb dX8_startsOf_128 (by decide) ?_
          refine lv_iload hx hb dX8_startsOf_130 (lv_at hl 7 rfl) ?_
          obtain ⟨v2, hv, hf⟩ := ob_some hf
          refine xDv hC hv dX8_startsOf_132 ?_
          refine lv_iadd hx hb dX8_startsOf_133 ?_
          refine lv_sipush (v := 1440) hx hb dX8_startsOf_134 (by decide) ?_
          obtain ⟨v3, hv, hf⟩ := ob_some hf
          refine xRm hC hv dX8_startsOf_137 ?_
          obtain ⟨v4, hv, hf⟩ := ob_some hf
          refine gZa hC hP hv dX8_startsOf_138 ?_
          refine lv_if_eq (tgt := 146) hx hb dX8_startsOf_139 (by decide) (fun hc => ?_) (fun hc => ?_)
          · rw [if_pos hc] at hf
            exact w_X8_startsOf_146 hC hQ hk35 hk73 ih  _ _ _ _ _ _ _ _ _ _ hP hS (lv_sub hl [0, 1, 2, 3, 4, 5, 7] rfl) hf
          · rw [if_neg hc] at hf
            refine lv_iconst (v := 1) hx hb dX8_startsOf_142 (by decide) ?_
            refine lv_goto (tgt := 147) hx hb dX8_startsOf_143 (by decide) ?_
            exact w_X8_startsOf_147 hC hQ hk35 hk73 ih  _ _ _ _ _ _ _ _ _ _ _ hP hS (lv_sub hl [0, 1, 2, 3, 4, 5, 7] rfl) hf
def f_X8_startsOf_73  (k35 : ST → Int32 → Int32 → Int32 → Option ST) : Nat → ST → Int32 → Int32 → Int32 → Int32 → Option ST
  | 0, _, _, _, _, _ => none
  | n + 1, S, x1, x2, x3, x4 => if 1440 ≤ x4 then (k35 S x1 x2 (x3 + (-1))) else ((f_X8_waterAt S x3 x4).bind fun v1 => f_X8_startsOf_96 k35 (f_X8_startsOf_73 k35 n) FU S x1 x2 x3 x4 v1 0 1)
set_option maxRecDepth 100000 in
set_option maxHeartbeats 4000000 in
theorem w_X8_startsOf_73 {S' : ST} (hC : Cx p m c s args cX8_startsOf 8 RX8 G) (hQ : KV p l e (rmH 3) s m args below meth c Q cX8_startsOf G S') {k35 : ST → Int32 → Int32 → Int32 → Option ST} (hk35 : ∀ (S : ST) (x1 : Int32) (x2 : Int32) (x3 : Int32) (H : Heap) (locs : List Loc) (ls : Array Slot), va_P (gD G) vwCl (cells G S) H → va_S (gA G) s.heap H locs → lv_has ls 8 [(0, .ref (ad G 30)), (1, .int x1), (2, .int x2), (3, .int x3)] → k35 S x1 x2 x3 = some S' → W p l e (rmH 3) s m args below meth c H locs 0 0 Q (F0 m 35 ls [])) : ∀ (n : Nat) (S : ST) (x1 : Int32) (x2 : Int32) (x3 : Int32) (x4 : Int32) (H : Heap) (locs : List Loc) (ls : Array Slot), va_P (gD G) vwCl (cells G S) H → va_S (gA G) s.heap H locs → lv_has ls 8 [(0, .ref (ad G 30)), (1, .int x1), (2, .int x2), (3, .int x3), (4, .int x4)] → f_X8_startsOf_73 k35 n S x1 x2 x3 x4 = some S' → W p l e (rmH 3) s m args below meth c H locs 0 0 Q (F0 m 73 ls []) := by
  obtain ⟨hx, hb, hml, hown, hts⟩ := id hC.1
  intro n
  induction n with
  | zero => intro S x1 x2 x3 x4 H locs ls hP hS hl hf; rw [f_X8_startsOf_73] at hf; cases hf
  | succ n ih =>
    intro S x1 x2 x3 x4 H locs ls hP hS hl hf
    rw [f_X8_startsOf_73] at hf
    refine lv_iload hx hb dX8_startsOf_73 (lv_at hl 4 rfl) ?_
    refine lv_sipush (v := 1440) hx hb dX8_startsOf_75 (by decide) ?_
    refine lv_icmp_ge (tgt := 170) hx hb dX8_startsOf_78 (by decide) (fun hc => ?_) (fun hc => ?_)
    · rw [if_pos hc] at hf
      refine lv_iinc (v := x3 + (-1)) (lv' := [(3, .int (x3 + (-1))), (0, .ref (ad G 30)), (1, .int x1), (2, .int x2), (4, .int x4)]) hx hb dX8_startsOf_170 hl (k := 3) rfl rfl (by decide) rfl (fun ls hl => ?_)
      refine lv_goto (tgt := 35) hx hb dX8_startsOf_173 (by decide) ?_
      exact hk35 _ _ _ _ _ _ _ hP hS (lv_sub hl [1, 2, 3, 0] rfl) hf
    · rw [if_neg hc] at hf
      refine lv_aload_n hx hb dX8_startsOf_81 rfl (lv_at hl 0 rfl) ?_
      refine lv_iload_n hx hb dX8_startsOf_82 rfl (lv_at hl 3 rfl) ?_
      refine lv_iload hx hb dX8_startsOf_83 (lv_at hl 4 rfl) ?_
      obtain ⟨v1, hv, hf⟩ := ob_some hf
      refine cI hS (runV hC hP hS (As := [.int x3, .int x4]) (rest := []) (k_X8_waterAt l G S x3 x4 _ hv) vy_X8_waterAt sg_30 vc_8 tb_5_37 tb_5_39 ts_36 ⟨Nat.le_of_ble_eq_true rfl, Nat.le_of_ble_eq_true rfl⟩ rfl hl.1 rfl (Nat.le_of_ble_eq_true rfl) dX8_startsOf_85) (fun H locs hP hS => ?_)
      refine lv_istore (lv' := [(5, .int v1), (0, .ref (ad G 30)), (1, .int x1), (2, .int x2), (3, .int x3), (4, .int x4)]) hx hb dX8_startsOf_88 hl (by decide) rfl (fun ls hl => ?_)
      refine lv_iconst (v := 0) hx hb dX8_startsOf_90 (by decide) ?_
      refine lv_istore (lv' := [(6, .int 0), (5, .int v1), (0, .ref (ad G 30)), (1, .int x1), (2, .int x2), (3, .int x3), (4, .int x4)]) hx hb dX8_startsOf_91 hl (by decide) rfl (fun ls hl => ?_)
      refine lv_iconst (v := 1) hx hb dX8_startsOf_93 (by decide) ?_
      refine lv_istore (lv' := [(7, .int 1), (6, .int 0), (5, .int v1), (0, .ref (ad G 30)), (1, .int x1), (2, .int x2), (3, .int x3), (4, .int x4)]) hx hb dX8_startsOf_94 hl (by decide) rfl (fun ls hl => ?_)
      exact w_X8_startsOf_96 hC hQ hk35 ih _ _ _ _ _ _ _ _ _ _ _ _ hP hS (lv_sub hl [3, 4, 5, 6, 7, 2, 1, 0] rfl) hf
def f_X8_startsOf_42  (k35 : ST → Int32 → Int32 → Int32 → Option ST) : Nat → ST → Int32 → Int32 → Int32 → Int32 → Option ST
  | 0, _, _, _, _, _ => none
  | n + 1, S, x1, x2, x3, x4 => if 1440 ≤ x4 then (f_X8_startsOf_73 k35 FU S x1 x2 x3 0) else ((rI S 2 39 x4).bind fun v1 => (wZ S 40 x4 v1).bind fun S2 => f_X8_startsOf_42 k35 n S2 x1 x2 x3 (x4 + 1))
set_option maxRecDepth 100000 in
set_option maxHeartbeats 4000000 in
theorem w_X8_startsOf_42 {S' : ST} (hC : Cx p m c s args cX8_startsOf 8 RX8 G) (hQ : KV p l e (rmH 3) s m args below meth c Q cX8_startsOf G S') {k35 : ST → Int32 → Int32 → Int32 → Option ST} (hk35 : ∀ (S : ST) (x1 : Int32) (x2 : Int32) (x3 : Int32) (H : Heap) (locs : List Loc) (ls : Array Slot), va_P (gD G) vwCl (cells G S) H → va_S (gA G) s.heap H locs → lv_has ls 8 [(0, .ref (ad G 30)), (1, .int x1), (2, .int x2), (3, .int x3)] → k35 S x1 x2 x3 = some S' → W p l e (rmH 3) s m args below meth c H locs 0 0 Q (F0 m 35 ls [])) : ∀ (n : Nat) (S : ST) (x1 : Int32) (x2 : Int32) (x3 : Int32) (x4 : Int32) (H : Heap) (locs : List Loc) (ls : Array Slot), va_P (gD G) vwCl (cells G S) H → va_S (gA G) s.heap H locs → lv_has ls 8 [(0, .ref (ad G 30)), (1, .int x1), (2, .int x2), (3, .int x3), (4, .int x4)] → f_X8_startsOf_42 k35 n S x1 x2 x3 x4 = some S' → W p l e (rmH 3) s m args below meth c H locs 0 0 Q (F0 m 42 ls []) := by
  obtain ⟨hx, hb, hml, hown, hts⟩ := id hC.1
  intro n
  induction n with
  | zero => intro S x1 x2 x3 x4 H locs ls hP hS hl hf; rw [f_X8_startsOf_42] at hf; cases hf
  | succ n ih =>
    intro S x1 x2 x3 x4 H locs ls hP hS hl hf
    rw [f_X8_startsOf_42] at hf
    refine lv_iload hx hb dX8_startsOf_42 (lv_at hl 4 rfl) ?_
    refine lv_sipush (v := 1440) hx hb dX8_startsOf_44 (by decide) ?_
    refine lv_icmp_ge (tgt := 70) hx hb dX8_startsOf_47 (by decide) (fun hc => ?_) (fun hc => ?_)
    · rw [if_pos hc] at hf
      refine lv_iconst (v := 0) hx hb dX8_startsOf_70 (by decide) ?_
      refine lv_istore (lv' := [(4, .int 0), (0, .ref (ad G 30)), (1, .int x1), (2, .int x2), (3, .int x3)]) hx hb dX8_startsOf_71 hl (by decide) rfl (fun ls hl => ?_)
      exact w_X8_startsOf_73 hC hQ hk35 _ _ _ _ _ _ _ _ _ hP hS (lv_sub hl [1, 2, 3, 4, 0] rfl) hf
    · rw [if_neg hc] at hf
      refine lv_aload_n hx hb dX8_startsOf_50 rfl (lv_at hl 0 rfl) ?_
      refine gFr hC hP (j := 18) sg_30 vc_8 iT8 (by decide) rfl tb_4_89 dX8_startsOf_51 ?_
      refine lv_iload hx hb dX8_startsOf_54 (lv_at hl 4 rfl) ?_
      refine lv_aload_n hx hb dX8_startsOf_56 rfl (lv_at hl 0 rfl) ?_
      refine gFr hC hP (j := 17) sg_30 vc_8 iT8 (by decide) rfl tb_4_88 dX8_startsOf_57 ?_
      refine lv_iload hx hb dX8_startsOf_60 (lv_at hl 4 rfl) ?_
      obtain ⟨v1, hv, hf⟩ := ob_some hf
      refine gZa hC hP hv dX8_startsOf_62 ?_
      obtain ⟨S2, hv, hf⟩ := ob_some hf
      refine sZa hC hP hS hv dX8_startsOf_63 (fun H locs hP hS => ?_)
      refine lv_iinc (v := x4 + 1) (lv' := [(4, .int (x4 + 1)), (0, .ref (ad G 30)), (1, .int x1), (2, .int x2), (3, .int x3)]) hx hb dX8_startsOf_64 hl (k := 4) rfl rfl (by decide) rfl (fun ls hl => ?_)
      refine lv_goto (tgt := 42) hx hb dX8_startsOf_67 (by decide) ?_
      exact ih _ _ _ _ _ _ _ _ hP hS (lv_sub hl [1, 2, 3, 4, 0] rfl) hf
def f_X8_startsOf_35  : Nat → ST → Int32 → Int32 → Int32 → Option ST
  | 0, _, _, _, _ => none
  | n + 1, S, x1, x2, x3 => if x3 < 0 then (some S) else (f_X8_startsOf_42 (f_X8_startsOf_35 n) FU S x1 x2 x3 0)
set_option maxRecDepth 100000 in
set_option maxHeartbeats 4000000 in
theorem w_X8_startsOf_35 {S' : ST} (hC : Cx p m c s args cX8_startsOf 8 RX8 G) (hQ : KV p l e (rmH 3) s m args below meth c Q cX8_startsOf G S') : ∀ (n : Nat) (S : ST) (x1 : Int32) (x2 : Int32) (x3 : Int32) (H : Heap) (locs : List Loc) (ls : Array Slot), va_P (gD G) vwCl (cells G S) H → va_S (gA G) s.heap H locs → lv_has ls 8 [(0, .ref (ad G 30)), (1, .int x1), (2, .int x2), (3, .int x3)] → f_X8_startsOf_35 n S x1 x2 x3 = some S' → W p l e (rmH 3) s m args below meth c H locs 0 0 Q (F0 m 35 ls []) := by
  obtain ⟨hx, hb, hml, hown, hts⟩ := id hC.1
  intro n
  induction n with
  | zero => intro S x1 x2 x3 H locs ls hP hS hl hf; rw [f_X8_startsOf_35] at hf; cases hf
  | succ n ih =>
    intro S x1 x2 x3 H locs ls hP hS hl hf
    rw [f_X8_startsOf_35] at hf
    refine lv_iload_n hx hb dX8_startsOf_35 rfl (lv_at hl 3 rfl) ?_
    refine lv_if_lt (tgt := 176) hx hb dX8_startsOf_36 (by decide) (fun hc => ?_) (fun hc => ?_)
    · rw [if_pos hc] at hf
      exact retV hQ hf hP hS dX8_startsOf_176
    · rw [if_neg hc] at hf
      refine lv_iconst (v := 0) hx hb dX8_startsOf_39 (by decide) ?_
      refine lv_istore (lv' := [(4, .int 0), (0, .ref (ad G 30)), (1, .int x1), (2, .int x2), (3, .int x3)]) hx hb dX8_startsOf_40 hl (by decide) rfl (fun ls hl => ?_)
      exact w_X8_startsOf_42 hC hQ ih _ _ _ _ _ _ _ _ _ hP hS (lv_sub hl [1, 2, 3, 4, 0] rfl) hf
def f_X8_startsOf_8  : Nat → ST → Int32 → Int32 → Int32 → Option ST
  | 0, _, _, _, _ => none
  | n + 1, S, x1, x2, x3 => if 1440 ≤ x3 then (f_X8_startsOf_35 FU S x1 x2 ((S.1 30 0) - 1)) else ((wZ S 39 x3 1).bind fun S1 => f_X8_startsOf_8 n S1 x1 x2 (x3 + 1))
set_option maxRecDepth 100000 in
set_option maxHeartbeats 4000000 in
theorem w_X8_startsOf_8 {S' : ST} (hC : Cx p m c s args cX8_startsOf 8 RX8 G) (hQ : KV p l e (rmH 3) s m args below meth c Q cX8_startsOf G S') : ∀ (n : Nat) (S : ST) (x1 : Int32) (x2 : Int32) (x3 : Int32) (H : Heap) (locs : List Loc) (ls : Array Slot), va_P (gD G) vwCl (cells G S) H → va_S (gA G) s.heap H locs → lv_has ls 8 [(0, .ref (ad G 30)), (1, .int x1), (2, .int x2), (3, .int x3)] → f_X8_startsOf_8 n S x1 x2 x3 = some S' → W p l e (rmH 3) s m args below meth c H locs 0 0 Q (F0 m 8 ls []) := by
  obtain ⟨hx, hb, hml, hown, hts⟩ := id hC.1
  intro n
  induction n with
  | zero => intro S x1 x2 x3 H locs ls hP hS hl hf; rw [f_X8_startsOf_8] at hf; cases hf
  | succ n ih =>
    intro S x1 x2 x3 H locs ls hP hS hl hf
    rw [f_X8_startsOf_8] at hf
    refine lv_iload_n hx hb dX8_startsOf_8 rfl (lv_at hl 3 rfl) ?_
    refine lv_sipush (v := 1440) hx hb dX8_startsOf_9 (by decide) ?_
    refine lv_icmp_ge (tgt := 28) hx hb dX8_startsOf_12 (by decide) (fun hc => ?_) (fun hc => ?_)
    · rw [if_pos hc] at hf
      refine lv_aload_n hx hb dX8_startsOf_28 rfl (lv_at hl 0 rfl) ?_
      refine gFi hC hP (j := 0) sg_30 vc_8 iT8 (by decide) rfl tb_4_71 dX8_startsOf_29 ?_
      refine lv_iconst (v := 1) hx hb dX8_startsOf_32 (by decide) ?_
      refine lv_isub hx hb dX8_startsOf_33 ?_
      refine lv_istore_n (lv' := [(3, .int ((S.1 30 0) - 1)), (0, .ref (ad G 30)), (1, .int x1), (2, .int x2)]) hx hb dX8_startsOf_34 rfl hl (by decide) rfl (fun ls hl => ?_)
      exact w_X8_startsOf_35 hC hQ _ _ _ _ _ _ _ _ hP hS (lv_sub hl [1, 2, 3, 0] rfl) hf
    · rw [if_neg hc] at hf
      refine lv_aload_n hx hb dX8_startsOf_15 rfl (lv_at hl 0 rfl) ?_
      refine gFr hC hP (j := 17) sg_30 vc_8 iT8 (by decide) rfl tb_4_88 dX8_startsOf_16 ?_
      refine lv_iload_n hx hb dX8_startsOf_19 rfl (lv_at hl 3 rfl) ?_
      refine lv_iconst (v := 1) hx hb dX8_startsOf_20 (by decide) ?_
      obtain ⟨S1, hv, hf⟩ := ob_some hf
      refine sZa hC hP hS hv dX8_startsOf_21 (fun H locs hP hS => ?_)
      refine lv_iinc (v := x3 + 1) (lv' := [(3, .int (x3 + 1)), (0, .ref (ad G 30)), (1, .int x1), (2, .int x2)]) hx hb dX8_startsOf_22 hl (k := 3) rfl rfl (by decide) rfl (fun ls hl => ?_)
      refine lv_goto (tgt := 8) hx hb dX8_startsOf_25 (by decide) ?_
      exact ih _ _ _ _ _ _ _ hP hS (lv_sub hl [1, 2, 3, 0] rfl) hf
def f_X8_startsOf (S : ST) (x1 : Int32) : Option ST := (f_X8_needOf S x1).bind fun v1 => f_X8_startsOf_8 FU S x1 v1 0
set_option maxRecDepth 100000 in
set_option maxHeartbeats 4000000 in
theorem k_X8_startsOf (l : Launch) (G : GT) (S : ST) (x1 : Int32) (S' : ST) (hf : f_X8_startsOf S x1 = some S') : MV l yX8_startsOf cX8_startsOf 8 3 [.ref (ad G 30), .int x1] G S S' := by
  rw [f_X8_startsOf] at hf
  refine mkV (own := RX8) (by decide +kernel) rfl (Nat.le_of_ble_eq_true rfl) (fun p e s m args below meth c Q ls hC hP hS hl hQ => ?_)
  have hl : lv_has ls 8 [(0, .ref (ad G 30)), (1, .int x1)] := hl
  obtain ⟨hx, hb, hml, hown, hts⟩ := id hC.1
  refine lv_aload_n hx hb dX8_startsOf_0 rfl (lv_at hl 0 rfl) ?_
  refine lv_iload_n hx hb dX8_startsOf_1 rfl (lv_at hl 1 rfl) ?_
  obtain ⟨v1, hv, hf⟩ := ob_some hf
  refine cI hS (runV hC hP hS (As := [.int x1]) (rest := []) (k_X8_needOf l G S x1 _ hv) vy_X8_needOf sg_30 vc_8 tb_5_66 tb_5_68 ts_40 ⟨Nat.le_of_ble_eq_true rfl, Nat.le_of_ble_eq_true rfl⟩ rfl hl.1 rfl (Nat.le_of_ble_eq_true rfl) dX8_startsOf_2) (fun H locs hP hS => ?_)
  refine lv_istore_n (lv' := [(2, .int v1), (0, .ref (ad G 30)), (1, .int x1)]) hx hb dX8_startsOf_5 rfl hl (by decide) rfl (fun ls hl => ?_)
  refine lv_iconst (v := 0) hx hb dX8_startsOf_6 (by decide) ?_
  refine lv_istore_n (lv' := [(3, .int 0), (2, .int v1), (0, .ref (ad G 30)), (1, .int x1)]) hx hb dX8_startsOf_7 rfl hl (by decide) rfl (fun ls hl => ?_)
  exact w_X8_startsOf_8 hC hQ _ _ _ _ _ _ _ _ hP hS (lv_sub hl [2, 3, 1, 0] rfl) hf
end
