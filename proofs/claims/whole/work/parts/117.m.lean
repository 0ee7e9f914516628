section
variable {p : Program} {l : Launch} {e : Env} {s : State} {m : MethodId} {args : Array Value} {below : List Frame} {meth : Method} {c : Code} {Q : State → Prop} {G : GT}

def f_X8_starts_117  (k50 : ST → Int32 → Int32 → Int32 → Int32 → Int32 → Option (Int32 × ST)) (S : ST) (x2 : Int32) (x3 : Int32) (x4 : Int32) (x6 : Int32) (y0 : Int32) : Option (Int32 × ST) := k50 S x2 x3 x4 y0 (x6 + 1)
set_option maxRecDepth 100000 in
set_option maxHeartbeats 4000000 in
theorem w_X8_starts_117 {r : Int32} {S' : ST} (hC : Cx p m c s args cX8_starts 7 RX8 G) (hQ : KI p l e (rmH 4) s m args below meth c Q cX8_starts G r S') {k50 : ST → Int32 → Int32 → Int32 → Int32 → Int32 → Option (Int32 × ST)} (hk50 : ∀ (S : ST) (x2 : Int32) (x3 : Int32) (x4 : Int32) (x5 : Int32) (x6 : Int32) (H : Heap) (locs : List Loc) (ls : Array Slot), va_P (gD G) vwCl (cells G S) H → va_S (gA G) s.heap H locs → lv_has ls 7 [(0, .ref (ad G 30)), (2, .int x2), (3, .int x3), (4, .int x4), (5, .int x5), (6, .int x6)] → k50 S x2 x3 x4 x5 x6 = some (r, S') → W p l e (rmH 4) s m args below meth c H locs 0 0 Q (F0 m 50 ls [])) (S : ST) (x2 : Int32) (x3 : Int32) (x4 : Int32) (x6 : Int32) (y0 : Int32) (H : Heap) (locs : List Loc) (ls : Array Slot) (hP : va_P (gD G) vwCl (cells G S) H) (hS : va_S (gA G) s.heap H locs) (hl : lv_has ls 7 [(0, .ref (ad G 30)), (2, .int x2), (3, .int x3), (4, .int x4), (6, .int x6)]) (hf : f_X8_starts_117 k50 S x2 x3 x4 x6 y0 = some (r, S')) : W p l e (rmH 4) s m args below meth c H locs 0 0 Q (F0 m 117 ls [.int y0]) := by
  obtain ⟨hx, hb, hml, hown, hts⟩ := id hC.1
  rw [f_X8_starts_117] at hf
  refine lv_istore (lv' := [(5, .int y0), (0, .ref (ad G 30)), (2, .int x2), (3, .int x3), (4, .int x4), (6, .int x6)]) hx hb dX8_starts_117 hl (by decide) rfl (fun ls hl => ?_)
  refine lv_iinc (v := x6 + 1) (lv' := [(6, .int (x6 + 1)), (5, .int y0), (0, .ref (ad G 30)), (2, .int x2), (3, .int x3), (4, .int x4)]) hx hb dX8_starts_119 hl (k := 5) rfl rfl (by decide) rfl (fun ls hl => ?_)
  refine lv_goto (tgt := 50) hx hb dX8_starts_122 (by decide) ?_
  exact hk50 _ _ _ _ _ _ _ _ _ hP hS (lv_sub hl [2, 3, 4, 5, 1, 0] rfl) hf
def f_X8_starts_98  (k50 : ST → Int32 → Int32 → Int32 → Int32 → Int32 → Option (Int32 × ST)) (S : ST) (x2 : Int32) (x3 : Int32) (x5 : Int32) (x6 : Int32) (y0 : Int32) : Option (Int32 × ST) := (rI S 2 39 x6).bind fun v1 => if v1 = 0 then (f_X8_starts_117 k50 S x2 x3 y0 x6 x5) else (f_X8_starts_117 k50 S x2 x3 y0 x6 x6)
set_option maxRecDepth 100000 in
set_option maxHeartbeats 4000000 in
theorem w_X8_starts_98 {r : Int32} {S' : ST} (hC : Cx p m c s args cX8_starts 7 RX8 G) (hQ : KI p l e (rmH 4) s m args below meth c Q cX8_starts G r S') {k50 : ST → Int32 → Int32 → Int32 → Int32 → Int32 → Option (Int32 × ST)} (hk50 : ∀ (S : ST) (x2 : Int32) (x3 : Int32) (x4 : Int32) (x5 : Int32) (x6 : Int32) (H : Heap) (locs : List Loc) (ls : Array Slot), va_P (gD G) vwCl (cells G S) H → va_S (gA G) s.heap H locs → lv_has ls 7 [(0, .ref (ad G 30)), (2, .int x2), (3, .int x3), (4, .int x4), (5, .int x5), (6, .int x6)] → k50 S x2 x3 x4 x5 x6 = some (r, S') → W p l e (rmH 4) s m args below meth c H locs 0 0 Q (F0 m 50 ls [])) (S : ST) (x2 : Int32) (x3 : Int32) (x5 : Int32) (x6 : Int32) (y0 : Int32) (H : Heap) (locs : List Loc) (ls : Array Slot) (hP : va_P (gD G) vwCl (cells G S) H) (hS : va_S (gA G) s.heap H locs) (hl : lv_has ls 7 [(0, .ref (ad G 30)), (2, .int x2), (3, .int x3), (5, .int x5), (6, .int x6)]) (hf : f_X8_starts_98 k50 S x2 x3 x5 x6 y0 = some (r, S')) : W p l e (rmH 4) s m args below meth c H locs 0 0 Q (F0 m 98 ls [.int y0]) := by
  obtain ⟨hx, hb, hml, hown, hts⟩ := id hC.1
  rw [f_X8_starts_98] at hf
  refine lv_istore (lv' := [(4, .int y0), (0, .ref (ad G 30)), (2, .int x2), (3, .int x3), (5, .int x5), (6, .int x6)]) hx hb dX8_starts_98 hl (by decide) rfl (fun ls hl => ?_)
  refine lv_aload_n hx hb dX8_starts_100 rfl (lv_at hl 1 rfl) ?_
  refine gFr hC hP (j := 17) sg_30 vc_8 iT8 (by decide) rfl tb_4_88 dX8_starts_101 ?_
  refine lv_iload hx hb dX8_starts_104 (lv_at hl 5 rfl) ?_
  obtain ⟨v1, hv, hf⟩ := ob_some hf
  refine gZa hC hP hv dX8_starts_106 ?_
  refine lv_if_eq (tgt := 115) hx hb dX8_starts_107 (by decide) (fun hc => ?_) (fun hc => ?_)
  · rw [if_pos hc] at hf
    refine lv_iload hx hb dX8_starts_115 (lv_at hl 4 rfl) ?_
    exact w_X8_starts_117 hC hQ hk50  _ _ _ _ _ _ _ _ _ hP hS (lv_sub hl [1, 2, 3, 0, 5] rfl) hf
  · rw [if_neg hc] at hf
    refine lv_iload hx hb dX8_starts_110 (lv_at hl 5 rfl) ?_
    refine lv_goto (tgt := 117) hx hb dX8_starts_112 (by decide) ?_
    exact w_X8_starts_117 hC hQ hk50  _ _ _ _ _ _ _ _ _ hP hS (lv_sub hl [1, 2, 3, 0, 5] rfl) hf
def f_X8_starts_96  (k50 : ST → Int32 → Int32 → Int32 → Int32 → Int32 → Option (Int32 × ST)) (S : ST) (x2 : Int32) (x3 : Int32) (x4 : Int32) (x5 : Int32) (x6 : Int32) : Option (Int32 × ST) := f_X8_starts_98 k50 S x2 x3 x5 x6 x4
set_option maxRecDepth 100000 in
set_option maxHeartbeats 4000000 in
theorem w_X8_starts_96 {r : Int32} {S' : ST} (hC : Cx p m c s args cX8_starts 7 RX8 G) (hQ : KI p l e (rmH 4) s m args below meth c Q cX8_starts G r S') {k50 : ST → Int32 → Int32 → Int32 → Int32 → Int32 → Option (Int32 × ST)} (hk50 : ∀ (S : ST) (x2 : Int32) (x3 : Int32) (x4 : Int32) (x5 : Int32) (x6 : Int32) (H : Heap) (locs : List Loc) (ls : Array Slot), va_P (gD G) vwCl (cells G S) H → va_S (gA G) s.heap H locs → lv_has ls 7 [(0, .ref (ad G 30)), (2, .int x2), (3, .int x3), (4, .int x4), (5, .int x5), (6, .int x6)] → k50 S x2 x3 x4 x5 x6 = some (r, S') → W p l e (rmH 4) s m args below meth c H locs 0 0 Q (F0 m 50 ls [])) (S : ST) (x2 : Int32) (x3 : Int32) (x4 : Int32) (x5 : Int32) (x6 : Int32) (H : Heap) (locs : List Loc) (ls : Array Slot) (hP : va_P (gD G) vwCl (cells G S) H) (hS : va_S (gA G) s.heap H locs) (hl : lv_has ls 7 [(0, .ref (ad G 30)), (2, .int x2), (3, .int x3), (4, .int x4), (5, .int x5), (6, .int x6)]) (hf : f_X8_starts_96 k50 S x2 x3 x4 x5 x6 = some (r, S')) : W p l e (rmH 4) s m args below meth c H locs 0 0 Q (F0 m 96 ls []) := by
  obtain ⟨hx, hb, hml, hown, hts⟩ := id hC.1
  rw [f_X8_starts_96] at hf
  refine lv_iload hx hb dX8_starts_96 (lv_at hl 3 rfl) ?_
  exact w_X8_starts_98 hC hQ hk50  _ _ _ _ _ _ _ _ _ hP hS (lv_sub hl [0, 1, 2, 4, 5] rfl) hf
def f_X8_starts_74  (k50 : ST → Int32 → Int32 → Int32 → Int32 → Int32 → Option (Int32 × ST)) (S : ST) (x2 : Int32) (x4 : Int32) (x5 : Int32) (x6 : Int32) (y0 : Int32) (y1 : Int32) : Option (Int32 × ST) := (rI S 2 39 x6).bind fun v1 => if v1 = 0 then (f_X8_starts_96 k50 S x2 (y1 + y0) x4 x5 x6) else (if 0 ≤ x4 then (f_X8_starts_96 k50 S x2 (y1 + y0) x4 x5 x6) else (f_X8_starts_98 k50 S x2 (y1 + y0) x5 x6 x6))
set_option maxRecDepth 100000 in
set_option maxHeartbeats 4000000 in
theorem w_X8_starts_74 {r : Int32} {S' : ST} (hC : Cx p m c s args cX8_starts 7 RX8 G) (hQ : KI p l e (rmH 4) s m args below meth c Q cX8_starts G r S') {k50 : ST → Int32 → Int32 → Int32 → Int32 → Int32 → Option (Int32 × ST)} (hk50 : ∀ (S : ST) (x2 : Int32) (x3 : Int32) (x4 : Int32) (x5 : Int32) (x6 : Int32) (H : Heap) (locs : List Loc) (ls : Array Slot), va_P (gD G) vwCl (cells G S) H → va_S (gA G) s.heap H locs → lv_has ls 7 [(0, .ref (ad G 30)), (2, .int x2), (3, .int x3), (4, .int x4), (5, .int x5), (6, .int x6)] → k50 S x2 x3 x4 x5 x6 = some (r, S') → W p l e (rmH 4) s m args below meth c H locs 0 0 Q (F0 m 50 ls [])) (S : ST) (x2 : Int32) (x4 : Int32) (x5 : Int32) (x6 : Int32) (y0 : Int32) (y1 : Int32) (H : Heap) (locs : List Loc) (ls : Array Slot) (hP : va_P (gD G) vwCl (cells G S) H) (hS : va_S (gA G) s.heap H locs) (hl : lv_has ls 7 [(0, .ref (ad G 30)), (2, .int x2), (4, .int x4), (5, .int x5), (6, .int x6)]) (hf : f_X8_starts_74 k50 S x2 x4 x5 x6 y0 y1 = some (r, S')) : W p l e (rmH 4) s m args below meth c H locs 0 0 Q (F0 m 74 ls [.int y0, .int y1]) := by
  obtain ⟨hx, hb, hml, hown, hts⟩ := id hC.1
  rw [f_X8_starts_74] at hf
  refine lv_iadd hx hb dX8_starts_74 ?_
  refine lv_istore_n (lv' := [(3, .int (y1 + y0)), (0, .ref (ad G 30)), (2, .int x2), (4, .int x4), (5, .int x5), (6, .int x6)]) hx hb dX8_starts_75 rfl hl (by decide) rfl (fun ls hl => ?_)
  refine lv_aload_n hx hb dX8_starts_76 rfl (lv_at hl 1 rfl) ?_
  refine gFr hC hP (j := 17) sg_30 vc_8 iT8 (by decide) rfl tb_4_88 dX8_starts_77 ?_
  refine lv_iload hx hb dX8_starts_80 (lv_at hl 5 rfl) ?_
  obtain ⟨v1, hv, hf⟩ := ob_some hf
  refine gZa hC hP hv dX8_starts_82 ?_
  refine lv_if_eq (tgt := 96) hx hb dX8_starts_83 (by decide) (fun hc => ?_) (fun hc => ?_)
  · rw [if_pos hc] at hf
    exact w_X8_starts_96 hC hQ hk50  _ _ _ _ _ _ _ _ _ hP hS (lv_sub hl [1, 2, 0, 3, 4, 5] rfl) hf
  · rw [if_neg hc] at hf
    refine lv_iload hx hb dX8_starts_86 (lv_at hl 3 rfl) ?_
    refine lv_if_ge (tgt := 96) hx hb dX8_starts_88 (by decide) (fun hc => ?_) (fun hc => ?_)
    · rw [if_pos hc] at hf
      exact w_X8_starts_96 hC hQ hk50  _ _ _ _ _ _ _ _ _ hP hS (lv_sub hl [1, 2, 0, 3, 4, 5] rfl) hf
    · rw [if_neg hc] at hf
      refine lv_iload hx hb dX8_starts_91 (lv_at hl 5 rfl) ?_
      refine lv_goto (tgt := 98) hx hb dX8_starts_93 (by decide) ?_
      exact w_X8_starts_98 hC hQ hk50  _ _ _ _ _ _ _ _ _ hP hS (lv_sub hl [1, 2, 0, 4, 5] rfl) hf
def f_X8_starts_50  : Nat → ST → Int32 → Int32 → Int32 → Int32 → Int32 → Option (Int32 × ST)
  | 0, _, _, _, _, _, _ => none
  | n + 1, S, x2, x3, x4, x5, x6 => if 1440 ≤ x6 then (if x2 = 0 then (some (x3, S)) else (if x2 = 1 then (some (x4, S)) else (some (x5, S)))) else ((rI S 2 39 x6).bind fun v1 => if v1 = 0 then (f_X8_starts_74 (f_X8_starts_50 n) S x2 x4 x5 x6 0 x3) else (f_X8_starts_74 (f_X8_starts_50 n) S x2 x4 x5 x6 1 x3))
set_option maxRecDepth 100000 in
set_option maxHeartbeats 4000000 in
theorem w_X8_starts_50 {r : Int32} {S' : ST} (hC : Cx p m c s args cX8_starts 7 RX8 G) (hQ : KI p l e (rmH 4) s m args below meth c Q cX8_starts G r S') : ∀ (n : Nat) (S : ST) (x2 : Int32) (x3 : Int32) (x4 : Int32) (x5 : Int32) (x6 : Int32) (H : Heap) (locs : List Loc) (ls : Array Slot), va_P (gD G) vwCl (cells G S) H → va_S (gA G) s.heap H locs → lv_has ls 7 [(0, .ref (ad G 30)), (2, .int x2), (3, .int x3), (4, .int x4), (5, .int x5), (6, .int x6)] → f_X8_starts_50 n S x2 x3 x4 x5 x6 = some (r, S') → W p l e (rmH 4) s m args below meth c H locs 0 0 Q (F0 m 50 ls []) := by
  obtain ⟨hx, hb, hml, hown, hts⟩ := id hC.1
  intro n
  induction n with
  | zero => intro S x2 x3 x4 x5 x6 H locs ls hP hS hl hf; rw [f_X8_starts_50] at hf; cases hf
  | succ n ih =>
    intro S x2 x3 x4 x5 x6 H locs ls hP hS hl hf
    rw [f_X8_starts_50] at hf
    refine lv_iload hx hb dX8_starts_50 (lv_at hl 5 rfl) ?_
    refine lv_sipush (v := 1440) hx hb dX8_starts_52 (by decide) ?_
    refine lv_icmp_ge (tgt := 125) hx hb dX8_starts_55 (by decide) (fun hc => ?_) (fun hc => ?_)
    · rw [if_pos hc] at hf
      refine lv_iload_n hx hb dX8_starts_125 rfl (lv_at hl 1 rfl) ?_
      refine lv_if_ne (tgt := 133) hx hb dX8_starts_126 (by decide) (fun hc => ?_) (fun hc => ?_)
      · rw [if_neg hc] at hf
        refine lv_iload_n hx hb dX8_starts_133 rfl (lv_at hl 1 rfl) ?_
        refine lv_iconst (v := 1) hx hb dX8_starts_134 (by decide) ?_
        refine lv_icmp_ne (tgt := 143) hx hb dX8_starts_135 (by decide) (fun hc => ?_) (fun hc => ?_)
        · rw [if_neg hc] at hf
          refine lv_iload hx hb dX8_starts_143 (lv_at hl 4 rfl) ?_
          exact retIw hQ hf hP hS dX8_starts_145
        · rw [if_pos hc] at hf
          refine lv_iload hx hb dX8_starts_138 (lv_at hl 3 rfl) ?_
          refine lv_goto (tgt := 145) hx hb dX8_starts_140 (by decide) ?_
          exact retIw hQ hf hP hS dX8_starts_145
      · rw [if_pos hc] at hf
        refine lv_iload_n hx hb dX8_starts_129 rfl (lv_at hl 2 rfl) ?_
        refine lv_goto (tgt := 145) hx hb dX8_starts_130 (by decide) ?_
        exact retIw hQ hf hP hS dX8_starts_145
    · rw [if_neg hc] at hf
      refine lv_iload_n hx hb dX8_starts_58 rfl (lv_at hl 2 rfl) ?_
      refine lv_aload_n hx hb dX8_starts_59 rfl (lv_at hl 0 rfl) ?_
      refine gFr hC hP (j := 17) sg_30 vc_8 iT8 (by decide) rfl tb_4_88 dX8_starts_60 ?_
      refine lv_iload hx hb dX8_starts_63 (lv_at hl 5 rfl) ?_
      obtain ⟨v1, hv, hf⟩ := ob_some hf
      refine gZa hC hP hv dX8_starts_65 ?_
      refine lv_if_eq (tgt := 73) hx hb dX8_starts_66 (by decide) (fun hc => ?_) (fun hc => ?_)
      · rw [if_pos hc] at hf
        refine lv_iconst (v := 0) hx hb dX8_starts_73 (by decide) ?_
        exact w_X8_starts_74 hC hQ ih  _ _ _ _ _ _ _ _ _ _ hP hS (lv_sub hl [0, 1, 3, 4, 5] rfl) hf
      · rw [if_neg hc] at hf
        refine lv_iconst (v := 1) hx hb dX8_starts_69 (by decide) ?_
        refine lv_goto (tgt := 74) hx hb dX8_starts_70 (by decide) ?_
        exact w_X8_starts_74 hC hQ ih  _ _ _ _ _ _ _ _ _ _ hP hS (lv_sub hl [0, 1, 3, 4, 5] rfl) hf
def f_X8_starts (S : ST) (x1 : Int32) (x2 : Int32) : Option (Int32 × ST) := (f_X8_isShip S x1).bind fun v1 => if v1 = 0 then (some ((-1), S)) else ((f_X8_in (x2.toInt64) 0 2).bind fun v2 => if v2 = 0 then (some ((-1), S)) else (if (S.1 30 0) = 0 then (some ((-2), S)) else ((f_X8_startsOf S x1).bind fun S3 => f_X8_starts_50 FU S3 x2 0 (-4) (-4) 0)))
set_option maxRecDepth 100000 in
set_option maxHeartbeats 4000000 in
theorem k_X8_starts (l : Launch) (G : GT) (S : ST) (x1 : Int32) (x2 : Int32) (r : Int32) (S' : ST) (hf : f_X8_starts S x1 x2 = some (r, S')) : MI l yX8_starts cX8_starts 7 (some .int) 4 [.ref (ad G 30), .int x1, .int x2] G S r S' := by
  rw [f_X8_starts] at hf
  refine mkI (own := RX8) (by decide +kernel) rfl rfl (Nat.le_of_ble_eq_true rfl) (fun p e s m args below meth c Q ls hC hP hS hl hQ => ?_)
  have hl : lv_has ls 7 [(0, .ref (ad G 30)), (1, .int x1), (2, .int x2)] := hl
  obtain ⟨hx, hb, hml, hown, hts⟩ := id hC.1
  refine lv_aload_n hx hb dX8_starts_0 rfl (lv_at hl 0 rfl) ?_
  refine lv_iload_n hx hb dX8_starts_1 rfl (lv_at hl 1 rfl) ?_
  obtain ⟨v1, hv, hf⟩ := ob_some hf
  refine cI hS (runV hC hP hS (As := [.int x1]) (rest := []) (k_X8_isShip l G S x1 _ hv) vy_X8_isShip sg_30 vc_8 tb_5_46 tb_5_48 ts_37 ⟨Nat.le_of_ble_eq_true rfl, Nat.le_of_ble_eq_true rfl⟩ rfl hl.1 rfl (Nat.le_of_ble_eq_true rfl) dX8_starts_2) (fun H locs hP hS => ?_)
  refine lv_if_eq (tgt := 20) hx hb dX8_starts_5 (by decide) (fun hc => ?_) (fun hc => ?_)
  · rw [if_pos hc] at hf
    refine lv_iconst (v := (-1)) hx hb dX8_starts_20 (by decide) ?_
    exact retIw hQ hf hP hS dX8_starts_21
  · rw [if_neg hc] at hf
    refine lv_iload_n hx hb dX8_starts_8 rfl (lv_at hl 2 rfl) ?_
    refine lv_i2l (v := x2.toInt64) hx hb dX8_starts_9 rfl ?_
    refine lv_lconst (v := 0) hx hb dX8_starts_10 (by decide) ?_
    refine lv_ldc2 hx hb hown (hts _ tb_5_97) dX8_starts_11 ?_
    obtain ⟨v2, hv, hf⟩ := ob_some hf
    refine cI hS (runS hC hP hS (As := [.long (x2.toInt64), .long 0, .long 2]) (rest := []) (k_X8_in l G S (x2.toInt64) 0 2 _ hv) vy_X8_in tb_4_169 tb_4_170 ⟨Nat.le_of_ble_eq_true rfl, Nat.le_of_ble_eq_true rfl⟩ rfl hl.1 rfl (Nat.le_of_ble_eq_true rfl) dX8_starts_14) (fun H locs hP hS => ?_)
    refine lv_if_ne (tgt := 22) hx hb dX8_starts_17 (by decide) (fun hc => ?_) (fun hc => ?_)
    · rw [if_neg hc] at hf
      refine lv_aload_n hx hb dX8_starts_22 rfl (lv_at hl 0 rfl) ?_
      refine gFi hC hP (j := 0) sg_30 vc_8 iT8 (by decide) rfl tb_4_71 dX8_starts_23 ?_
      refine lv_if_ne (tgt := 32) hx hb dX8_starts_26 (by decide) (fun hc => ?_) (fun hc => ?_)
      · rw [if_neg hc] at hf
        refine lv_aload_n hx hb dX8_starts_32 rfl (lv_at hl 0 rfl) ?_
        refine lv_iload_n hx hb dX8_starts_33 rfl (lv_at hl 1 rfl) ?_
        obtain ⟨S3, hv, hf⟩ := ob_some hf
        refine cV hS (runV hC hP hS (As := [.int x1]) (rest := []) (k_X8_startsOf l G S x1 _ hv) vy_X8_startsOf sg_30 vc_8 tb_5_98 tb_5_100 ts_43 ⟨Nat.le_of_ble_eq_true rfl, Nat.le_of_ble_eq_true rfl⟩ rfl hl.1 rfl (Nat.le_of_ble_eq_true rfl) dX8_starts_34) (fun H locs hP hS => ?_)
        refine lv_iconst (v := 0) hx hb dX8_starts_37 (by decide) ?_
        refine lv_istore_n (lv' := [(3, .int 0), (0, .ref (ad G 30)), (1, .int x1), (2, .int x2)]) hx hb dX8_starts_38 rfl hl (by decide) rfl (fun ls hl => ?_)
        refine lv_bipush (v := (-4)) hx hb dX8_starts_39 (by decide) ?_
        refine lv_istore (lv' := [(4, .int (-4)), (3, .int 0), (0, .ref (ad G 30)), (1, .int x1), (2, .int x2)]) hx hb dX8_starts_41 hl (by decide) rfl (fun ls hl => ?_)
        refine lv_bipush (v := (-4)) hx hb dX8_starts_43 (by decide) ?_
        refine lv_istore (lv' := [(5, .int (-4)), (4, .int (-4)), (3, .int 0), (0, .ref (ad G 30)), (1, .int x1), (2, .int x2)]) hx hb dX8_starts_45 hl (by decide) rfl (fun ls hl => ?_)
        refine lv_iconst (v := 0) hx hb dX8_starts_47 (by decide) ?_
        refine lv_istore (lv' := [(6, .int 0), (5, .int (-4)), (4, .int (-4)), (3, .int 0), (0, .ref (ad G 30)), (1, .int x1), (2, .int x2)]) hx hb dX8_starts_48 hl (by decide) rfl (fun ls hl => ?_)
        exact w_X8_starts_50 hC hQ _ _ _ _ _ _ _ _ _ _ hP hS (lv_sub hl [4, 6, 3, 2, 1, 0] rfl) hf
      · rw [if_pos hc] at hf
        refine lv_bipush (v := (-2)) hx hb dX8_starts_29 (by decide) ?_
        exact retIw hQ hf hP hS dX8_starts_31
    · rw [if_pos hc] at hf
      refine lv_iconst (v := (-1)) hx hb dX8_starts_20 (by decide) ?_
      exact retIw hQ hf hP hS dX8_starts_21
def f_X8_deepest_117  (k45 : ST → Int32 → Int32 → Int32 → Int32 → Int32 → Option (Int32 × ST)) (S : ST) (x1 : Int32) (x2 : Int32) (x3 : Int32) (x4 : Int32) (y0 : Int32) : Option (Int32 × ST) := k45 S x1 x2 x3 x4 y0
set_option maxRecDepth 100000 in
set_option maxHeartbeats 4000000 in
theorem w_X8_deepest_117 {r : Int32} {S' : ST} (hC : Cx p m c s args cX8_deepest 8 RX8 G) (hQ : KI p l e (rmH 4) s m args below meth c Q cX8_deepest G r S') {k45 : ST → Int32 → Int32 → Int32 → Int32 → Int32 → Option (Int32 × ST)} (hk45 : ∀ (S : ST) (x1 : Int32) (x2 : Int32) (x3 : Int32) (x4 : Int32) (x5 : Int32) (H : Heap) (locs : List Loc) (ls : Array Slot), va_P (gD G) vwCl (cells G S) H → va_S (gA G) s.heap H locs → lv_has ls 8 [(0, .ref (ad G 30)), (1, .int x1), (2, .int x2), (3, .int x3), (4, .int x4), (5, .int x5)] → k45 S x1 x2 x3 x4 x5 = some (r, S') → W p l e (rmH 4) s m args below meth c H locs 0 0 Q (F0 m 45 ls [])) (S : ST) (x1 : Int32) (x2 : Int32) (x3 : Int32) (x4 : Int32) (y0 : Int32) (H : Heap) (locs : List Loc) (ls : Array Slot) (hP : va_P (gD G) vwCl (cells G S) H) (hS : va_S (gA G) s.heap H locs) (hl : lv_has ls 8 [(0, .ref (ad G 30)), (1, .int x1), (2, .int x2), (3, .int x3), (4, .int x4)]) (hf : f_X8_deepest_117 k45 S x1 x2 x3 x4 y0 = some (r, S')) : W p l e (rmH 4) s m args below meth c H locs 0 0 Q (F0 m 117 ls [.int y0]) := by
  obtain ⟨hx, hb, hml, hown, hts⟩ := id hC.1
  rw [f_X8_deepest_117] at hf
  refine lv_istore (lv' := [(5, .int y0), (0, .ref (ad G 30)), (1, .int x1), (2, .int x2), (3, .int x3), (4, .int x4)]) hx hb dX8_deepest_117 hl (by decide) rfl (fun ls hl => ?_)
  refine lv_goto (tgt := 45) hx hb dX8_deepest_119 (by decide) ?_
  exact hk45 _ _ _ _ _ _ _ _ _ hP hS (lv_sub hl [1, 2, 3, 4, 5, 0] rfl) hf
def f_X8_deepest_103  (k45 : ST → Int32 → Int32 → Int32 → Int32 → Int32 → Option (Int32 × ST)) (S : ST) (x1 : Int32) (x2 : Int32) (x3 : Int32) (x5 : Int32) (x6 : Int32) (x7 : Int32) (y0 : Int32) : Option (Int32 × ST) := if x7 = 0 then (f_X8_deepest_117 k45 S x1 x2 x3 y0 x6) else (f_X8_deepest_117 k45 S x1 x2 x3 y0 x5)
set_option maxRecDepth 100000 in
set_option maxHeartbeats 4000000 in
theorem w_X8_deepest_103 {r : Int32} {S' : ST} (hC : Cx p m c s args cX8_deepest 8 RX8 G) (hQ : KI p l e (rmH 4) s m args below meth c Q cX8_deepest G r S') {k45 : ST → Int32 → Int32 → Int32 → Int32 → Int32 → Option (Int32 × ST)} (hk45 : ∀ (S : ST) (x1 : Int32) (x2 : Int32) (x3 : Int32) (x4 : Int32) (x5 : Int32) (H : Heap) (locs : List Loc) (ls : Array Slot), va_P (gD G) vwCl (cells G S) H → va_S (gA G) s.heap H locs → lv_has ls 8 [(0, .ref (ad G 30)), (1, .int x1), (2, .int x2), (3, .int x3), (4, .int x4), (5, .int x5)] → k45 S x1 x2 x3 x4 x5 = some (r, S') → W p l e (rmH 4) s m args below meth c H locs 0 0 Q (F0 m 45 ls [])) (S : ST) (x1 : Int32) (x2 : Int32) (x3 : Int32) (x5 : Int32) (x6 : Int32) (x7 : Int32) (y0 : Int32) (H : Heap) (locs : List Loc) (ls : Array Slot) (hP : va_P (gD G) vwCl (cells G S) H) (hS : va_S (gA G) s.heap H locs) (hl : lv_has ls 8 [(0, .ref (ad G 30)), (1, .int x1), (2, .int x2), (3, .int x3), (5, .int x5), (6, .int x6), (7, .int x7)]) (hf : f_X8_deepest_103 k45 S x1 x2 x3 x5 x6 x7 y0 = some (r, S')) : W p l e (rmH 4) s m args below meth c H locs 0 0 Q (F0 m 103 ls [.int y0]) := by
  obtain ⟨hx, hb, hml, hown, hts⟩ := id hC.1
  rw [f_X8_deepest_103] at hf
  refine lv_istore (lv' := [(4, .int y0), (0, .ref (ad G 30)), (1, .int x1), (2, .int x2), (3, .int x3), (5, .int x5), (6, .int x6), (7, .int x7)]) hx hb dX8_deepest_103 hl (by decide) rfl (fun ls hl => ?_)
  refine lv_iload hx hb dX8_deepest_105 (lv_at hl 7 rfl) ?_
  refine lv_if_eq (tgt := 115) hx hb dX8_deepest_107 (by decide) (fun hc => ?_) (fun hc => ?_)
  · rw [if_pos hc] at hf
    refine lv_iload hx hb dX8_deepest_115 (lv_at hl 6 rfl) ?_
    exact w_X8_deepest_117 hC hQ hk45  _ _ _ _ _ _ _ _ _ hP hS (lv_sub hl [1, 2, 3, 4, 0] rfl) hf
  · rw [if_neg hc] at hf
    refine lv_iload hx hb dX8_deepest_110 (lv_at hl 5 rfl) ?_
    refine lv_goto (tgt := 117) hx hb dX8_deepest_112 (by decide) ?_
    exact w_X8_deepest_117 hC hQ hk45  _ _ _ _ _ _ _ _ _ hP hS (lv_sub hl [1, 2, 3, 4, 0] rfl) hf
def f_X8_deepest_89  (k45 : ST → Int32 → Int32 → Int32 → Int32 → Int32 → Option (Int32 × ST)) (S : ST) (x1 : Int32) (x2 : Int32) (x3 : Int32) (x4 : Int32) (x5 : Int32) (x6 : Int32) (y0 : Int32) : Option (Int32 × ST) := if y0 = 0 then (f_X8_deepest_103 k45 S x1 x2 x3 x5 x6 y0 x4) else (f_X8_deepest_103 k45 S x1 x2 x3 x5 x6 y0 x6)
set_option maxRecDepth 100000 in
set_option maxHeartbeats 4000000 in
theorem w_X8_deepest_89 {r : Int32} {S' : ST} (hC : Cx p m c s args cX8_deepest 8 RX8 G) (hQ : KI p l e (rmH 4) s m args below meth c Q cX8_deepest G r S') {k45 : ST → Int32 → Int32 → Int32 → Int32 → Int32 → Option (Int32 × ST)} (hk45 : ∀ (S : ST) (x1 : Int32) (x2 : Int32) (x3 : Int32) (x4 : Int32) (x5 : Int32) (H : Heap) (locs : List Loc) (ls : Array Slot), va_P (gD G) vwCl (cells G S) H → va_S (gA G) s.heap H locs → lv_has ls 8 [(0, .ref (ad G 30)), (1, .int x1), (2, .int x2), (3, .int x3), (4, .int x4), (5, .int x5)] → k45 S x1 x2 x3 x4 x5 = some (r, S') → W p l e (rmH 4) s m args below meth c H locs 0 0 Q (F0 m 45 ls [])) (S : ST) (x1 : Int32) (x2 : Int32) (x3 : Int32) (x4 : Int32) (x5 : Int32) (x6 : Int32) (y0 : Int32) (H : Heap) (locs : List Loc) (ls : Array Slot) (hP : va_P (gD G) vwCl (cells G S) H) (hS : va_S (gA G) s.heap H locs) (hl : lv_has ls 8 [(0, .ref (ad G 30)), (1, .int x1), (2, .int x2), (3, .int x3), (4, .int x4), (5, .int x5), (6, .int x6)]) (hf : f_X8_deepest_89 k45 S x1 x2 x3 x4 x5 x6 y0 = some (r, S')) : W p l e (rmH 4) s m args below meth c H locs 0 0 Q (F0 m 89 ls [.int y0]) := by
  obtain ⟨hx, hb, hml, hown, hts⟩ := id hC.1
  rw [f_X8_deepest_89] at hf
  refine lv_istore (lv' := [(7, .int y0), (0, .ref (ad G 30)), (1, .int x1), (2, .int x2), (3, .int x3), (4, .int x4), (5, .int x5), (6, .int x6)]) hx hb dX8_deepest_89 hl (by decide) rfl (fun ls hl => ?_)
  refine lv_iload hx hb dX8_deepest_91 (lv_at hl 0 rfl) ?_
  refine lv_if_eq (tgt := 101) hx hb dX8_deepest_93 (by decide) (fun hc => ?_) (fun hc => ?_)
  · rw [if_pos hc] at hf
    refine lv_iload hx hb dX8_deepest_101 (lv_at hl 5 rfl) ?_
    exact w_X8_deepest_103 hC hQ hk45  _ _ _ _ _ _ _ _ _ _ _ hP hS (lv_sub hl [1, 2, 3, 4, 6, 7, 0] rfl) hf
  · rw [if_neg hc] at hf
    refine lv_iload hx hb dX8_deepest_96 (lv_at hl 7 rfl) ?_
    refine lv_goto (tgt := 103) hx hb dX8_deepest_98 (by decide) ?_
    exact w_X8_deepest_103 hC hQ hk45  _ _ _ _ _ _ _ _ _ _ _ hP hS (lv_sub hl [1, 2, 3, 4, 6, 7, 0] rfl) hf
def f_X8_deepest_45  : Nat → ST → Int32 → Int32 → Int32 → Int32 → Int32 → Option (Int32 × ST)
  | 0, _, _, _, _, _, _ => none
  | n + 1, S, x1, x2, x3, x4, x5 => if (x5 - x4) ≤ 1 then ((wI S 34 (3 * x1) x3).bind fun S1 => if x4 = 19 then (some ((-4), S1)) else (some (x4, S1))) else ((dv (x4 + x5) 2).bind fun v2 => (wI S 34 (3 * x1) v2).bind fun S3 => b2 (f_X8_quickest S3 x1 x2) fun v4 S5 => if 100000 ≤ v4 then (f_X8_deepest_89 (f_X8_deepest_45 n) S5 x1 x2 x3 x4 x5 v2 0) else (f_X8_deepest_89 (f_X8_deepest_45 n) S5 x1 x2 x3 x4 x5 v2 1))
set_option maxRecDepth 100000 in
set_option maxHeartbeats 4000000 in
theorem w_X8_deepest_45 {r : Int32} {S' : ST} (hC : Cx p m c s args cX8_deepest 8 RX8 G) (hQ : KI p l e (rmH 4) s m args below meth c Q cX8_deepest G r S') : ∀ (n : Nat) (S : ST) (x1 : Int32) (x2 : Int32) (x3 : Int32) (x4 : Int32) (x5 : Int32) (H : Heap) (locs : List Loc) (ls : Array Slot), va_P (gD G) vwCl (cells G S) H → va_S (gA G) s.heap H locs → lv_has ls 8 [(0, .ref (ad G 30)), (1, .int x1), (2, .int x2), (3, .int x3), (4, .int x4), (5, .int x5)] → f_X8_deepest_45 n S x1 x2 x3 x4 x5 = some (r, S') → W p l e (rmH 4) s m args below meth c H locs 0 0 Q (F0 m 45 ls []) := by
  obtain ⟨hx, hb, hml, hown, hts⟩ := id hC.1
  intro n
  induction n with
  | zero => intro S x1 x2 x3 x4 x5 H locs ls hP hS hl hf; rw [f_X8_deepest_45] at hf; cases hf
  | succ n ih =>
    intro S x1 x2 x3 x4 x5 H locs ls hP hS hl hf
    rw [f_X8_deepest_45] at hf
    refine lv_iload hx hb dX8_deepest_45 (lv_at hl 5 rfl) ?_
    refine lv_iload hx hb dX8_deepest_47 (lv_at hl 4 rfl) ?_
    refine lv_isub hx hb dX8_deepest_49 ?_
    refine lv_iconst (v := 1) hx hb dX8_deepest_50 (by decide) ?_
    refine lv_icmp_le (tgt := 122) hx hb dX8_deepest_51 (by decide) (fun hc => ?_) (fun hc => ?_)
    · rw [if_pos hc] at hf
      refine lv_aload_n hx hb dX8_deepest_122 rfl (lv_at hl 0 rfl) ?_
      refine gFr hC hP (j := 5) sg_30 vc_8 iT8 (by decide) rfl tb_4_76 dX8_deepest_123 ?_
      refine lv_iconst (v := 3) hx hb dX8_deepest_126 (by decide) ?_
      refine lv_iload_n hx hb dX8_deepest_127 rfl (lv_at hl 1 rfl) ?_
      refine lv_imul hx hb dX8_deepest_128 ?_
      refine lv_iload_n hx hb dX8_deepest_129 rfl (lv_at hl 3 rfl) ?_
      obtain ⟨S1, hv, hf⟩ := ob_some hf
      refine sIa hC hP hS hv dX8_deepest_130 (fun H locs hP hS => ?_)
      refine lv_iload hx hb dX8_deepest_131 (lv_at hl 4 rfl) ?_
      refine lv_bipush (v := 19) hx hb dX8_deepest_133 (by decide) ?_
      refine lv_icmp_ne (tgt := 143) hx hb dX8_deepest_135 (by decide) (fun hc => ?_) (fun hc => ?_)
      · rw [if_neg hc] at hf
        refine lv_iload hx hb dX8_deepest_143 (lv_at hl 4 rfl) ?_
        exact retIw hQ hf hP hS dX8_deepest_145
      · rw [if_pos hc] at hf
        refine lv_bipush (v := (-4)) hx hb dX8_deepest_138 (by decide) ?_
        refine lv_goto (tgt := 145) hx hb dX8_deepest_140 (by decide) ?_
        exact retIw hQ hf hP hS dX8_deepest_145
    · rw [if_neg hc] at hf
      refine lv_iload hx hb dX8_deepest_54 (lv_at hl 4 rfl) ?_
      refine lv_iload hx hb dX8_deepest_56 (lv_at hl 5 rfl) ?_
      refine lv_iadd hx hb dX8_deepest_58 ?_
      refine lv_iconst (v := 2) hx hb dX8_deepest_59 (by decide) ?_
      obtain ⟨v2, hv, hf⟩ := ob_some hf
      refine xDv hC hv dX8_deepest_60 ?_
      refine lv_istore (lv' := [(6, .int v2), (0, .ref (ad G 30)), (1, .int x1), (2, .int x2), (3, .int x3), (4, .int x4), (5, .int x5)]) hx hb dX8_deepest_61 hl (by decide) rfl (fun ls hl => ?_)
      refine lv_aload_n hx hb dX8_deepest_63 rfl (lv_at hl 1 rfl) ?_
      refine gFr hC hP (j := 5) sg_30 vc_8 iT8 (by decide) rfl tb_4_76 dX8_deepest_64 ?_
      refine lv_iconst (v := 3) hx hb dX8_deepest_67 (by decide) ?_
      refine lv_iload_n hx hb dX8_deepest_68 rfl (lv_at hl 2 rfl) ?_
      refine lv_imul hx hb dX8_deepest_69 ?_
      refine lv_iload hx hb dX8_deepest_70 (lv_at hl 0 rfl) ?_
      obtain ⟨S3, hv, hf⟩ := ob_some hf
      refine sIa hC hP hS hv dX8_deepest_72 (fun H locs hP hS => ?_)
      refine lv_aload_n hx hb dX8_deepest_73 rfl (lv_at hl 1 rfl) ?_
      refine lv_iload_n hx hb dX8_deepest_74 rfl (lv_at hl 2 rfl) ?_
      refine lv_iload_n hx hb dX8_deepest_75 rfl (lv_at hl 3 rfl) ?_
      obtain ⟨v4, S5, hv, hf⟩ := ob_two hf
      refine cI hS (runV hC hP hS (As := [.int x1, .int x2]) (rest := []) (k_X8_quickest l G S3 x1 x2 _ _ hv) vy_X8_quickest sg_30 vc_8 tb_5_89 tb_5_91 ts_42 ⟨Nat.le_of_ble_eq_true rfl, Nat.le_of_ble_eq_true rfl⟩ rfl hl.1 rfl (Nat.le_of_ble_eq_true rfl) dX8_deepest_76) (fun H locs hP hS => ?_)
      refine lv_ldc hx hb hown (hts _ tb_5_83) dX8_deepest_79 ?_
      refine lv_icmp_ge (tgt := 88) hx hb dX8_deepest_81 (by decide) (fun hc => ?_) (fun hc => ?_)
      · rw [if_pos hc] at hf
        refine lv_iconst (v := 0) hx hb dX8_deepest_88 (by decide) ?_
        exact w_X8_deepest_89 hC hQ ih  _ _ _ _ _ _ _ _ _ _ _ hP hS (lv_sub hl [1, 2, 3, 4, 5, 6, 0] rfl) hf
      · rw [if_neg hc] at hf
        refine lv_iconst (v := 1) hx hb dX8_deepest_84 (by decide) ?_
        refine lv_goto (tgt := 89) hx hb dX8_deepest_85 (by decide) ?_
        exact w_X8_deepest_89 hC hQ ih  _ _ _ _ _ _ _ _ _ _ _ hP hS (lv_sub hl [1, 2, 3, 4, 5, 6, 0] rfl) hf
def f_X8_deepest (S : ST) (x1 : Int32) (x2 : Int32) : Option (Int32 × ST) := (f_X8_isShip S x1).bind fun v1 => if v1 = 0 then (some ((-1), S)) else ((f_X8_isStart x2).bind fun v2 => if v2 = 0 then (some ((-1), S)) else (if (S.1 30 0) = 0 then (some ((-2), S)) else ((rI S 0 34 (3 * x1)).bind fun v3 => f_X8_deepest_45 FU S x1 x2 v3 19 201)))
set_option maxRecDepth 100000 in
set_option maxHeartbeats 4000000 in
theorem k_X8_deepest (l : Launch) (G : GT) (S : ST) (x1 : Int32) (x2 : Int32) (r : Int32) (S' : ST) (hf : f_X8_deepest S x1 x2 = some (r, S')) : MI l yX8_deepest cX8_deepest 8 (some .int) 4 [.ref (ad G 30), .int x1, .int x2] G S r S' := by
  rw [f_X8_deepest] at hf
  refine mkI (own := RX8) (by decide +kernel) rfl rfl (Nat.le_of_ble_eq_true rfl) (fun p e s m args below meth c Q ls hC hP hS hl hQ => ?_)
  have hl : lv_has ls 8 [(0, .ref (ad G 30)), (1, .int x1), (2, .int x2)] := hl
  obtain ⟨hx, hb, hml, hown, hts⟩ := id hC.1
  refine lv_aload_n hx hb dX8_deepest_0 rfl (lv_at hl 0 rfl) ?_
  refine lv_iload_n hx hb dX8_deepest_1 rfl (lv_at hl 1 rfl) ?_
  obtain ⟨v1, hv, hf⟩ := ob_some hf
  refine cI hS (runV hC hP hS (As := [.int x1]) (rest := []) (k_X8_isShip l G S x1 _ hv) vy_X8_isShip sg_30 vc_8 tb_5_46 tb_5_48 ts_37 ⟨Nat.le_of_ble_eq_true rfl, Nat.le_of_ble_eq_true rfl⟩ rfl hl.1 rfl (Nat.le_of_ble_eq_true rfl) dX8_deepest_2) (fun H locs hP hS => ?_)
  refine lv_if_eq (tgt := 15) hx hb dX8_deepest_5 (by decide) (fun hc => ?_) (fun hc => ?_)
  · rw [if_pos hc] at hf
    refine lv_iconst (v := (-1)) hx hb dX8_deepest_15 (by decide) ?_
    exact retIw hQ hf hP hS dX8_deepest_16
  · rw [if_neg hc] at hf
    refine lv_iload_n hx hb dX8_deepest_8 rfl (lv_at hl 2 rfl) ?_
    obtain ⟨v2, hv, hf⟩ := ob_some hf
    refine cI hS (runS hC hP hS (As := [.int x2]) (rest := []) (k_X8_isStart l G S x2 _ hv) vy_X8_isStart tb_5_74 tb_5_75 ⟨Nat.le_of_ble_eq_true rfl, Nat.le_of_ble_eq_true rfl⟩ rfl hl.1 rfl (Nat.le_of_ble_eq_true rfl) dX8_deepest_9) (fun H locs hP hS => ?_)
    refine lv_if_ne (tgt := 17) hx hb dX8_deepest_12 (by decide) (fun hc => ?_) (fun hc => ?_)
    · rw [if_neg hc] at hf
      refine lv_aload_n hx hb dX8_deepest_17 rfl (lv_at hl 0 rfl) ?_
      refine gFi hC hP (j := 0) sg_30 vc_8 iT8 (by decide) rfl tb_4_71 dX8_deepest_18 ?_
      refine lv_if_ne (tgt := 27) hx hb dX8_deepest_21 (by decide) (fun hc => ?_) (fun hc => ?_)
      · rw [if_neg hc] at hf
        refine lv_aload_n hx hb dX8_deepest_27 rfl (lv_at hl 0 rfl) ?_
        refine gFr hC hP (j := 5) sg_30 vc_8 iT8 (by decide) rfl tb_4_76 dX8_deepest_28 ?_
        refine lv_iconst (v := 3) hx hb dX8_deepest_31 (by decide) ?_
        refine lv_iload_n hx hb dX8_deepest_32 rfl (lv_at hl 1 rfl) ?_
        refine lv_imul hx hb dX8_deepest_33 ?_
        obtain ⟨v3, hv, hf⟩ := ob_some hf
        refine gIa hC hP hv dX8_deepest_34 ?_
        refine lv_istore_n (lv' := [(3, .int v3), (0, .ref (ad G 30)), (1, .int x1), (2, .int x2)]) hx hb dX8_deepest_35 rfl hl (by decide) rfl (fun ls hl => ?_)
        refine lv_bipush (v := 19) hx hb dX8_deepest_36 (by decide) ?_
        refine lv_istore (lv' := [(4, .int 19), (3, .int v3), (0, .ref (ad G 30)), (1, .int x1), (2, .int x2)]) hx hb dX8_deepest_38 hl (by decide) rfl (fun ls hl => ?_)
        refine lv_sipush (v := 201) hx hb dX8_deepest_40 (by decide) ?_
        refine lv_istore (lv' := [(5, .int 201), (4, .int 19), (3, .int v3), (0, .ref (ad G 30)), (1, .int x1), (2, .int x2)]) hx hb dX8_deepest_43 hl (by decide) rfl (fun ls hl => ?_)
        exact w_X8_deepest_45 hC hQ _ _ _ _ _ _ _ _ _ _ hP hS (lv_sub hl [3, 4, 5, 2, 1, 0] rfl) hf
      · rw [if_pos hc] at hf
        refine lv_bipush (v := (-2)) hx hb dX8_deepest_24 (by decide) ?_
        exact retIw hQ hf hP hS dX8_deepest_26
    · rw [if_pos hc] at hf
      refine lv_iconst (v := (-1)) hx hb dX8_deepest_15 (by decide) ?_
      exact retIw hQ hf hP hS dX8_deepest_16
def f_X8_holds_30 (S : ST)  (x1 : Int32) (x2 : Int32) (x3 : Int32) (y0 : Int32) : Option Int32 := (rI S 0 34 ((3 * x1) + 1)).bind fun v1 => (dv ((x2 * x2) * v1) (x3 * x3)).bind fun v2 => if y0 < v2 then (some 0) else (some 1)
set_option maxRecDepth 100000 in
set_option maxHeartbeats 4000000 in
theorem w_X8_holds_30 {r : Int32} {S : ST} (hC : Cx p m c s args cX8_holds 5 RX8 G) (hQ : KZ p l e (rmH 1) s m args below meth c Q cX8_holds G r S) (x1 : Int32) (x2 : Int32) (x3 : Int32) (y0 : Int32) (H : Heap) (locs : List Loc) (ls : Array Slot) (hP : va_P (gD G) vwCl (cells G S) H) (hS : va_S (gA G) s.heap H locs) (hl : lv_has ls 5 [(0, .ref (ad G 30)), (1, .int x1), (2, .int x2), (3, .int x3)]) (hf : f_X8_holds_30 S x1 x2 x3 y0 = some r) : W p l e (rmH 1) s m args below meth c H locs 0 0 Q (F0 m 30 ls [.int y0]) := by
  obtain ⟨hx, hb, hml, hown, hts⟩ := id hC.1
  rw [f_X8_holds_30] at hf
  refine lv_istore (lv' := [(4, .int y0), (0, .ref (ad G 30)), (1, .int x1), (2, .int x2), (3, .int x3)]) hx hb dX8_holds_30 hl (by decide) rfl (fun ls hl => ?_)
  refine lv_iload_n hx hb dX8_holds_32 rfl (lv_at hl 3 rfl) ?_
  refine lv_iload_n hx hb dX8_holds_33 rfl (lv_at hl 3 rfl) ?_
  refine lv_imul hx hb dX8_holds_34 ?_
  refine lv_aload_n hx hb dX8_holds_35 rfl (lv_at hl 1 rfl) ?_
  refine gFr hC hP (j := 5) sg_30 vc_8 iT8 (by decide) rfl tb_4_76 dX8_holds_36 ?_
  refine lv_iconst (v := 3) hx hb dX8_holds_39 (by decide) ?_
  refine lv_iload_n hx hb dX8_holds_40 rfl (lv_at hl 2 rfl) ?_
  refine lv_imul hx hb dX8_holds_41 ?_
  refine lv_iconst (v := 1) hx hb dX8_holds_42 (by decide) ?_
  refine lv_iadd hx hb dX8_holds_43 ?_
  obtain ⟨v1, hv, hf⟩ := ob_some hf
  refine gIa hC hP hv dX8_holds_44 ?_
  refine lv_imul hx hb dX8_holds_45 ?_
  refine lv_iload_n hx hb dX8_holds_46 rfl (lv_at hl 4 rfl) ?_
  refine lv_iload_n hx hb dX8_holds_47 rfl (lv_at hl 4 rfl) ?_
  refine lv_imul hx hb dX8_holds_48 ?_
  obtain ⟨v2, hv, hf⟩ := ob_some hf
  refine xDv hC hv dX8_holds_49 ?_
  refine lv_iload hx hb dX8_holds_50 (lv_at hl 0 rfl) ?_
  refine lv_icmp_gt (tgt := 59) hx hb dX8_holds_52 (by decide) (fun hc => ?_) (fun hc => ?_)
  · rw [if_pos hc] at hf
    refine lv_iconst (v := 0) hx hb dX8_holds_59 (by decide) ?_
    exact retZ hQ rfl hf hP hS dX8_holds_60
  · rw [if_neg hc] at hf
    refine lv_iconst (v := 1) hx hb dX8_holds_55 (by decide) ?_
    refine lv_goto (tgt := 60) hx hb dX8_holds_56 (by decide) ?_
    exact retZ hQ rfl hf hP hS dX8_holds_60
def f_X8_holds (S : ST) (x1 : Int32) (x2 : Int32) (x3 : Int32) : Option Int32 := if 4 ≤ x2 then ((rI S 0 34 ((3 * x1) + 2)).bind fun v1 => f_X8_holds_30 S x1 x2 x3 v1) else ((rI S 0 34 ((3 * x1) + 2)).bind fun v2 => (dv v2 2).bind fun v3 => f_X8_holds_30 S x1 x2 x3 v3)
set_option maxRecDepth 100000 in
set_option maxHeartbeats 4000000 in
theorem k_X8_holds (l : Launch) (G : GT) (S : ST) (x1 : Int32) (x2 : Int32) (x3 : Int32) (r : Int32) (hf : f_X8_holds S x1 x2 x3 = some r) : MI l yX8_holds cX8_holds 5 (some .boolean) 1 [.ref (ad G 30), .int x1, .int x2, .int x3] G S r S := by
  rw [f_X8_holds] at hf
  refine mkZ (own := RX8) (by decide +kernel) rfl (Nat.le_of_ble_eq_true rfl) (fun p e s m args below meth c Q ls hC hP hS hl hQ => ?_)
  have hl : lv_has ls 5 [(0, .ref (ad G 30)), (1, .int x1), (2, .int x2), (3, .int x3)] := hl
  obtain ⟨hx, hb, hml, hown, hts⟩ := id hC.1
  refine lv_iload_n hx hb dX8_holds_0 rfl (lv_at hl 2 rfl) ?_
  refine lv_iconst (v := 4) hx hb dX8_holds_1 (by decide) ?_
  refine lv_icmp_ge (tgt := 20) hx hb dX8_holds_2 (by decide) (fun hc => ?_) (fun hc => ?_)
  · rw [if_pos hc] at hf
    refine lv_aload_n hx hb dX8_holds_20 rfl (lv_at hl 0 rfl) ?_
    refine gFr hC hP (j := 5) sg_30 vc_8 iT8 (by decide) rfl tb_4_76 dX8_holds_21 ?_
    refine lv_iconst (v := 3) hx hb dX8_holds_24 (by decide) ?_
    refine lv_iload_n hx hb dX8_holds_25 rfl (lv_at hl 1 rfl) ?_
    refine lv_imul hx hb dX8_holds_26 ?_
    refine lv_iconst (v := 2) hx hb dX8_holds_27 (by decide) ?_
    refine lv_iadd hx hb dX8_holds_28 ?_
    obtain ⟨v1, hv, hf⟩ := ob_some hf
    refine gIa hC hP hv dX8_holds_29 ?_
    exact w_X8_holds_30 hC hQ  _ _ _ _ _ _ _ hP hS (lv_sub hl [0, 1, 2, 3] rfl) hf
  · rw [if_neg hc] at hf
    refine lv_aload_n hx hb dX8_holds_5 rfl (lv_at hl 0 rfl) ?_
    refine gFr hC hP (j := 5) sg_30 vc_8 iT8 (by decide) rfl tb_4_76 dX8_holds_6 ?_
    refine lv_iconst (v := 3) hx hb dX8_holds_9 (by decide) ?_
    refine lv_iload_n hx hb dX8_holds_10 rfl (lv_at hl 1 rfl) ?_
    refine lv_imul hx hb dX8_holds_11 ?_
    refine lv_iconst (v := 2) hx hb dX8_holds_12 (by decide) ?_
    refine lv_iadd hx hb dX8_holds_13 ?_
    obtain ⟨v2, hv, hf⟩ := ob_some hf
    refine gIa hC hP hv dX8_holds_14 ?_
    refine lv_iconst (v := 2) hx hb dX8_holds_15 (by decide) ?_
    obtain ⟨v3, hv, hf⟩ := ob_some hf
    refine xDv hC hv dX8_holds_16 ?_
    refine lv_goto (tgt := 30) hx hb dX8_holds_17 (by decide) ?_
    exact w_X8_holds_30 hC hQ  _ _ _ _ _ _ _ hP hS (lv_sub hl [0, 1, 2, 3] rfl) hf
def f_X8_bank (S : ST) (x1 : Int32) (x2 : Int32) (x3 : Int32) : Option Int32 := (f_X8_isShip S x1).bind fun v1 => if v1 = 0 then (some (-1)) else ((f_X8_isPace x2).bind fun v2 => if v2 = 0 then (some (-1)) else ((f_X8_in (x3.toInt64) 1 99).bind fun v3 => if v3 = 0 then (some (-1)) else ((f_X8_holds S x1 x2 x3).bind fun v4 => if v4 = 0 then (some 0) else (some 1))))
set_option maxRecDepth 100000 in
set_option maxHeartbeats 4000000 in
theorem k_X8_bank (l : Launch) (G : GT) (S : ST) (x1 : Int32) (x2 : Int32) (x3 : Int32) (r : Int32) (hf : f_X8_bank S x1 x2 x3 = some r) : MI l yX8_bank cX8_bank 4 (some .int) 3 [.ref (ad G 30), .int x1, .int x2, .int x3] G S r S := by
  rw [f_X8_bank] at hf
  refine mkI (own := RX8) (by decide +kernel) rfl rfl (Nat.le_of_ble_eq_true rfl) (fun p e s m args below meth c Q ls hC hP hS hl hQ => ?_)
  have hl : lv_has ls 4 [(0, .ref (ad G 30)), (1, .int x1), (2, .int x2), (3, .int x3)] := hl
  obtain ⟨hx, hb, hml, hown, hts⟩ := id hC.1
  refine lv_aload_n hx hb dX8_bank_0 rfl (lv_at hl 0 rfl) ?_
  refine lv_iload_n hx hb dX8_bank_1 rfl (lv_at hl 1 rfl) ?_
  obtain ⟨v1, hv, hf⟩ := ob_some hf
  refine cI hS (runV hC hP hS (As := [.int x1]) (rest := []) (k_X8_isShip l G S x1 _ hv) vy_X8_isShip sg_30 vc_8 tb_5_46 tb_5_48 ts_37 ⟨Nat.le_of_ble_eq_true rfl, Nat.le_of_ble_eq_true rfl⟩ rfl hl.1 rfl (Nat.le_of_ble_eq_true rfl) dX8_bank_2) (fun H locs hP hS => ?_)
  refine lv_if_eq (tgt := 27) hx hb dX8_bank_5 (by decide) (fun hc => ?_) (fun hc => ?_)
  · rw [if_pos hc] at hf
    refine lv_iconst (v := (-1)) hx hb dX8_bank_27 (by decide) ?_
    exact retI hQ hf hP hS dX8_bank_28
  · rw [if_neg hc] at hf
    refine lv_iload_n hx hb dX8_bank_8 rfl (lv_at hl 2 rfl) ?_
    obtain ⟨v2, hv, hf⟩ := ob_some hf
    refine cI hS (runS hC hP hS (As := [.int x2]) (rest := []) (k_X8_isPace l G S x2 _ hv) vy_X8_isPace tb_4_215 tb_4_216 ⟨Nat.le_of_ble_eq_true rfl, Nat.le_of_ble_eq_true rfl⟩ rfl hl.1 rfl (Nat.le_of_ble_eq_true rfl) dX8_bank_9) (fun H locs hP hS => ?_)
    refine lv_if_eq (tgt := 27) hx hb dX8_bank_12 (by decide) (fun hc => ?_) (fun hc => ?_)
    · rw [if_pos hc] at hf
      refine lv_iconst (v := (-1)) hx hb dX8_bank_27 (by decide) ?_
      exact retI hQ hf hP hS dX8_bank_28
    · rw [if_neg hc] at hf
      refine lv_iload_n hx hb dX8_bank_15 rfl (lv_at hl 3 rfl) ?_
      refine lv_i2l (v := x3.toInt64) hx hb dX8_bank_16 rfl ?_
      refine lv_lconst (v := 1) hx hb dX8_bank_17 (by decide) ?_
      refine lv_ldc2 hx hb hown (hts _ tb_4_173) dX8_bank_18 ?_
      obtain ⟨v3, hv, hf⟩ := ob_some hf
      refine cI hS (runS hC hP hS (As := [.long (x3.toInt64), .long 1, .long 99]) (rest := []) (k_X8_in l G S (x3.toInt64) 1 99 _ hv) vy_X8_in tb_4_169 tb_4_170 ⟨Nat.le_of_ble_eq_true rfl, Nat.le_of_ble_eq_true rfl⟩ rfl hl.1 rfl (Nat.le_of_ble_eq_true rfl) dX8_bank_21) (fun H locs hP hS => ?_)
      refine lv_if_ne (tgt := 29) hx hb dX8_bank_24 (by decide) (fun hc => ?_) (fun hc => ?_)
      · rw [if_neg hc] at hf
        refine lv_aload_n hx hb dX8_bank_29 rfl (lv_at hl 0 rfl) ?_
        refine lv_iload_n hx hb dX8_bank_30 rfl (lv_at hl 1 rfl) ?_
        refine lv_iload_n hx hb dX8_bank_31 rfl (lv_at hl 2 rfl) ?_
        refine lv_iload_n hx hb dX8_bank_32 rfl (lv_at hl 3 rfl) ?_
        obtain ⟨v4, hv, hf⟩ := ob_some hf
        refine cI hS (runV hC hP hS (As := [.int x1, .int x2, .int x3]) (rest := []) (k_X8_holds l G S x1 x2 x3 _ hv) vy_X8_holds sg_30 vc_8 tb_5_110 tb_5_112 ts_44 ⟨Nat.le_of_ble_eq_true rfl, Nat.le_of_ble_eq_true rfl⟩ rfl hl.1 rfl (Nat.le_of_ble_eq_true rfl) dX8_bank_33) (fun H locs hP hS => ?_)
        refine lv_if_eq (tgt := 43) hx hb dX8_bank_36 (by decide) (fun hc => ?_) (fun hc => ?_)
        · rw [if_pos hc] at hf
          refine lv_iconst (v := 0) hx hb dX8_bank_43 (by decide) ?_
          exact retI hQ hf hP hS dX8_bank_44
        · rw [if_neg hc] at hf
          refine lv_iconst (v := 1) hx hb dX8_bank_39 (by decide) ?_
          refine lv_goto (tgt := 44) hx hb dX8_bank_40 (by decide) ?_
          exact retI hQ hf hP hS dX8_bank_44
      · rw [if_pos hc] at hf
        refine lv_iconst (v := (-1)) hx hb dX8_bank_27 (by decide) ?_
        exact retI hQ hf hP hS dX8_bank_28
def f_X8_nearest_46 (S : ST)  (k24 : Int32 → Int32 → Int32 → Int32 → Option Int32) (x1 : Int32) (x2 : Int32) (x4 : Int32) (y0 : Int32) : Option Int32 := k24 x1 x2 y0 (x4 + (-1))
set_option maxRecDepth 100000 in
set_option maxHeartbeats 4000000 in
theorem w_X8_nearest_46 {r : Int32} {S : ST} (hC : Cx p m c s args cX8_nearest 5 RX8 G) (hQ : KI p l e (rmH 3) s m args below meth c Q cX8_nearest G r S) {k24 : Int32 → Int32 → Int32 → Int32 → Option Int32} (hk24 : ∀ (x1 : Int32) (x2 : Int32) (x3 : Int32) (x4 : Int32) (H : Heap) (locs : List Loc) (ls : Array Slot), va_P (gD G) vwCl (cells G S) H → va_S (gA G) s.heap H locs → lv_has ls 5 [(0, .ref (ad G 30)), (1, .int x1), (2, .int x2), (3, .int x3), (4, .int x4)] → k24 x1 x2 x3 x4 = some r → W p l e (rmH 3) s m args below meth c H locs 0 0 Q (F0 m 24 ls [])) (x1 : Int32) (x2 : Int32) (x4 : Int32) (y0 : Int32) (H : Heap) (locs : List Loc) (ls : Array Slot) (hP : va_P (gD G) vwCl (cells G S) H) (hS : va_S (gA G) s.heap H locs) (hl : lv_has ls 5 [(0, .ref (ad G 30)), (1, .int x1), (2, .int x2), (4, .int x4)]) (hf : f_X8_nearest_46 S k24 x1 x2 x4 y0 = some r) : W p l e (rmH 3) s m args below meth c H locs 0 0 Q (F0 m 46 ls [.int y0]) := by
  obtain ⟨hx, hb, hml, hown, hts⟩ := id hC.1
  rw [f_X8_nearest_46] at hf
  refine lv_istore_n (lv' := [(3, .int y0), (0, .ref (ad G 30)), (1, .int x1), (2, .int x2), (4, .int x4)]) hx hb dX8_nearest_46 rfl hl (by decide) rfl (fun ls hl => ?_)
  refine lv_iinc (v := x4 + (-1)) (lv' := [(4, .int (x4 + (-1))), (3, .int y0), (0, .ref (ad G 30)), (1, .int x1), (2, .int x2)]) hx hb dX8_nearest_47 hl (k := 4) rfl rfl (by decide) rfl (fun ls hl => ?_)
  refine lv_goto (tgt := 24) hx hb dX8_nearest_50 (by decide) ?_
  exact hk24 _ _ _ _ _ _ _ hP hS (lv_sub hl [2, 3, 4, 1, 0] rfl) hf
def f_X8_nearest_24 (S : ST)  : Nat → Int32 → Int32 → Int32 → Int32 → Option Int32
  | 0, _, _, _, _ => none
  | n + 1, x1, x2, x3, x4 => if x4 ≤ 0 then (some x3) else ((f_X8_holds S x1 x2 x4).bind fun v1 => if v1 = 0 then (f_X8_nearest_46 S (f_X8_nearest_24 S n) x1 x2 x4 x3) else (f_X8_nearest_46 S (f_X8_nearest_24 S n) x1 x2 x4 x4))
set_option maxRecDepth 100000 in
set_option maxHeartbeats 4000000 in
theorem w_X8_nearest_24 {r : Int32} {S : ST} (hC : Cx p m c s args cX8_nearest 5 RX8 G) (hQ : KI p l e (rmH 3) s m args below meth c Q cX8_nearest G r S) : ∀ (n : Nat) (x1 : Int32) (x2 : Int32) (x3 : Int32) (x4 : Int32) (H : Heap) (locs : List Loc) (ls : Array Slot), va_P (gD G) vwCl (cells G S) H → va_S (gA G) s.heap H locs → lv_has ls 5 [(0, .ref (ad G 30)), (1, .int x1), (2, .int x2), (3, .int x3), (4, .int x4)] → f_X8_nearest_24 S n x1 x2 x3 x4 = some r → W p l e (rmH 3) s m args below meth c H locs 0 0 Q (F0 m 24 ls []) := by
  obtain ⟨hx, hb, hml, hown, hts⟩ := id hC.1
  intro n
  induction n with
  | zero => intro x1 x2 x3 x4 H locs ls hP hS hl hf; rw [f_X8_nearest_24] at hf; cases hf
  | succ n ih =>
    intro x1 x2 x3 x4 H locs ls hP hS hl hf
    rw [f_X8_nearest_24] at hf
    refine lv_iload hx hb dX8_nearest_24 (lv_at hl 4 rfl) ?_
    refine lv_if_le (tgt := 53) hx hb dX8_nearest_26 (by decide) (fun hc => ?_) (fun hc => ?_)
    · rw [if_pos hc] at hf
      refine lv_iload_n hx hb dX8_nearest_53 rfl (lv_at hl 3 rfl) ?_
      exact retI hQ hf hP hS dX8_nearest_54
    · rw [if_neg hc] at hf
      refine lv_aload_n hx hb dX8_nearest_29 rfl (lv_at hl 0 rfl) ?_
      refine lv_iload_n hx hb dX8_nearest_30 rfl (lv_at hl 1 rfl) ?_
      refine lv_iload_n hx hb dX8_nearest_31 rfl (lv_at hl 2 rfl) ?_
      refine lv_iload hx hb dX8_nearest_32 (lv_at hl 4 rfl) ?_
      obtain ⟨v1, hv, hf⟩ := ob_some hf
      refine cI hS (runV hC hP hS (As := [.int x1, .int x2, .int x4]) (rest := []) (k_X8_holds l G S x1 x2 x4 _ hv) vy_X8_holds sg_30 vc_8 tb_5_110 tb_5_112 ts_44 ⟨Nat.le_of_ble_eq_true rfl, Nat.le_of_ble_eq_true rfl⟩ rfl hl.1 rfl (Nat.le_of_ble_eq_true rfl) dX8_nearest_34) (fun H locs hP hS => ?_)
      refine lv_if_eq (tgt := 45) hx hb dX8_nearest_37 (by decide) (fun hc => ?_) (fun hc => ?_)
      · rw [if_pos hc] at hf
        refine lv_iload_n hx hb dX8_nearest_45 rfl (lv_at hl 3 rfl) ?_
        exact w_X8_nearest_46 hC hQ ih  _ _ _ _ _ _ _ hP hS (lv_sub hl [0, 1, 2, 4] rfl) hf
      · rw [if_neg hc] at hf
        refine lv_iload hx hb dX8_nearest_40 (lv_at hl 4 rfl) ?_
        refine lv_goto (tgt := 46) hx hb dX8_nearest_42 (by decide) ?_
        exact w_X8_nearest_46 hC hQ ih  _ _ _ _ _ _ _ hP hS (lv_sub hl [0, 1, 2, 4] rfl) hf
def f_X8_nearest (S : ST) (x1 : Int32) (x2 : Int32) : Option Int32 := (f_X8_isShip S x1).bind fun v1 => if v1 = 0 then (some (-1)) else ((f_X8_isPace x2).bind fun v2 => if v2 = 0 then (some (-1)) else (f_X8_nearest_24 S FU x1 x2 (-4) 99))
set_option maxRecDepth 100000 in
set_option maxHeartbeats 4000000 in
theorem k_X8_nearest (l : Launch) (G : GT) (S : ST) (x1 : Int32) (x2 : Int32) (r : Int32) (hf : f_X8_nearest S x1 x2 = some r) : MI l yX8_nearest cX8_nearest 5 (some .int) 3 [.ref (ad G 30), .int x1, .int x2] G S r S := by
  rw [f_X8_nearest] at hf
  refine mkI (own := RX8) (by decide +kernel) rfl rfl (Nat.le_of_ble_eq_true rfl) (fun p e s m args below meth c Q ls hC hP hS hl hQ => ?_)
  have hl : lv_has ls 5 [(0, .ref (ad G 30)), (1, .int x1), (2, .int x2)] := hl
  obtain ⟨hx, hb, hml, hown, hts⟩ := id hC.1
  refine lv_aload_n hx hb dX8_nearest_0 rfl (lv_at hl 0 rfl) ?_
  refine lv_iload_n hx hb dX8_nearest_1 rfl (lv_at hl 1 rfl) ?_
  obtain ⟨v1, hv, hf⟩ := ob_some hf
  refine cI hS (runV hC hP hS (As := [.int x1]) (rest := []) (k_X8_isShip l G S x1 _ hv) vy_X8_isShip sg_30 vc_8 tb_5_46 tb_5_48 ts_37 ⟨Nat.le_of_ble_eq_true rfl, Nat.le_of_ble_eq_true rfl⟩ rfl hl.1 rfl (Nat.le_of_ble_eq_true rfl) dX8_nearest_2) (fun H locs hP hS => ?_)
  refine lv_if_eq (tgt := 15) hx hb dX8_nearest_5 (by decide) (fun hc => ?_) (fun hc => ?_)
  · rw [if_pos hc] at hf
    refine lv_iconst (v := (-1)) hx hb dX8_nearest_15 (by decide) ?_
    exact retI hQ hf hP hS dX8_nearest_16
  · rw [if_neg hc] at hf
    refine lv_iload_n hx hb dX8_nearest_8 rfl (lv_at hl 2 rfl) ?_
    obtain ⟨v2, hv, hf⟩ := ob_some hf
    refine cI hS (runS hC hP hS (As := [.int x2]) (rest := []) (k_X8_isPace l G S x2 _ hv) vy_X8_isPace tb_4_215 tb_4_216 ⟨Nat.le_of_ble_eq_true rfl, Nat.le_of_ble_eq_true rfl⟩ rfl hl.1 rfl (Nat.le_of_ble_eq_true rfl) dX8_nearest_9) (fun H locs hP hS => ?_)
    refine lv_if_ne (tgt := 17) hx hb dX8_nearest_12 (by decide) (fun hc => ?_) (fun hc => ?_)
    · rw [if_neg hc] at hf
      refine lv_bipush (v := (-4)) hx hb dX8_nearest_17 (by decide) ?_
      refine lv_istore_n (lv' := [(3, .int (-4)), (0, .ref (ad G 30)), (1, .int x1), (2, .int x2)]) hx hb dX8_nearest_19 rfl hl (by decide) rfl (fun ls hl => ?_)
      refine lv_bipush (v := 99) hx hb dX8_nearest_20 (by decide) ?_
      refine lv_istore (lv' := [(4, .int 99), (3, .int (-4)), (0, .ref (ad G 30)), (1, .int x1), (2, .int x2)]) hx hb dX8_nearest_22 hl (by decide) rfl (fun ls hl => ?_)
      exact w_X8_nearest_24 hC hQ _ _ _ _ _ _ _ _ hP hS (lv_sub hl [2, 3, 4, 1, 0] rfl) hf
    · rw [if_pos hc] at hf
      refine lv_iconst (v := (-1)) hx hb dX8_nearest_15 (by decide) ?_
      exact retI hQ hf hP hS dX8_nearest_16
end
