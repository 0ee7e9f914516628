section
variable {p : Program} {l : Launch} {e : Env} {s : State} {m : MethodId} {args : Array Value} {below : List Frame} {meth : Method} {c : Code} {Q : State → Prop} {G : GT}

def f_X8_tides_151  (k113 : ST → Int32 → Int32 → Option (Int32 × ST)) (S : ST) (x2 : Int32) (y0 : Int32) : Option (Int32 × ST) := k113 S y0 (x2 + 1)
set_option maxRecDepth 100000 in
set_option maxHeartbeats 4000000 in
theorem w_X8_tides_151 {r : Int32} {S' : ST} (hC : Cx p m c s args cX8_tides 3 RX8 G) (hQ : KI p l e (rmH 3) s m args below meth c Q cX8_tides G r S') {k113 : ST → Int32 → Int32 → Option (Int32 × ST)} (hk113 : ∀ (S : ST) (x1 : Int32) (x2 : Int32) (H : Heap) (locs : List Loc) (ls : Array Slot), va_P (gD G) vwCl (cells G S) H → va_S (gA G) s.heap H locs → lv_has ls 3 [(0, .ref (ad G 30)), (1, .int x1), (2, .int x2)] → k113 S x1 x2 = some (r, S') → W p l e (rmH 3) s m args below meth c H locs 0 0 Q (F0 m 113 ls [])) (S : ST) (x2 : Int32) (y0 : Int32) (H : Heap) (locs : List Loc) (ls : Array Slot) (hP : va_P (gD G) vwCl (cells G S) H) (hS : va_S (gA G) s.heap H locs) (hl : lv_has ls 3 [(0, .ref (ad G 30)), (2, .int x2)]) (hf : f_X8_tides_151 k113 S x2 y0 = some (r, S')) : W p l e (rmH 3) s m args below meth c H locs 0 0 Q (F0 m 151 ls [.int y0]) := by
  obtain ⟨hx, hb, hml, hown, hts⟩ := id hC.1
  rw [f_X8_tides_151] at hf
  refine lv_istore_n (lv' := [(1, .int y0), (0, .ref (ad G 30)), (2, .int x2)]) hx hb dX8_tides_151 rfl hl (by decide) rfl (fun ls hl => ?_)
  refine lv_iinc (v := x2 + 1) (lv' := [(2, .int (x2 + 1)), (1, .int y0), (0, .ref (ad G 30))]) hx hb dX8_tides_152 hl (k := 2) rfl rfl (by decide) rfl (fun ls hl => ?_)
  refine lv_goto (tgt := 113) hx hb dX8_tides_155 (by decide) ?_
  exact hk113 _ _ _ _ _ _ hP hS (lv_sub hl [2, 1, 0] rfl) hf
def f_X8_tides_113  : Nat → ST → Int32 → Int32 → Option (Int32 × ST)
  | 0, _, _, _ => none
  | n + 1, S, x1, x2 => if 24 ≤ x2 then (some (x1, S)) else ((rI S 0 36 x2).bind fun v1 => (wI S 32 x2 v1).bind fun S2 => (rI S2 0 36 x2).bind fun v3 => if v3 ≤ x1 then (f_X8_tides_151 (f_X8_tides_113 n) S2 x2 x1) else ((rI S2 0 36 x2).bind fun v4 => f_X8_tides_151 (f_X8_tides_113 n) S2 x2 v4))
set_option maxRecDepth 100000 in
set_option maxHeartbeats 4000000 in
theorem w_X8_tides_113 {r : Int32} {S' : ST} (hC : Cx p m c s args cX8_tides 3 RX8 G) (hQ : KI p l e (rmH 3) s m args below meth c Q cX8_tides G r S') : ∀ (n : Nat) (S : ST) (x1 : Int32) (x2 : Int32) (H : Heap) (locs : List Loc) (ls : Array Slot), va_P (gD G) vwCl (cells G S) H → va_S (gA G) s.heap H locs → lv_has ls 3 [(0, .ref (ad G 30)), (1, .int x1), (2, .int x2)] → f_X8_tides_113 n S x1 x2 = some (r, S') → W p l e (rmH 3) s m args below meth c H locs 0 0 Q (F0 m 113 ls []) := by
  obtain ⟨hx, hb, hml, hown, hts⟩ := id hC.1
  intro n
  induction n with
  | zero => intro S x1 x2 H locs ls hP hS hl hf; rw [f_X8_tides_113] at hf; cases hf
  | succ n ih =>
    intro S x1 x2 H locs ls hP hS hl hf
    rw [f_X8_tides_113] at hf
    refine lv_iload_n hx hb dX8_tides_113 rfl (lv_at hl 2 rfl) ?_
    refine lv_bipush (v := 24) hx hb dX8_tides_114 (by decide) ?_
    refine lv_icmp_ge (tgt := 158) hx hb dX8_tides_116 (by decide) (fun hc => ?_) (fun hc => ?_)
    · rw [if_pos hc] at hf
      refine lv_iload_n hx hb dX8_tides_158 rfl (lv_at hl 1 rfl) ?_
      exact retIw hQ hf hP hS dX8_tides_159
    · rw [if_neg hc] at hf
      refine lv_aload_n hx hb dX8_tides_119 rfl (lv_at hl 0 rfl) ?_
      refine gFr hC hP (j := 2) sg_30 vc_8 iT8 (by decide) rfl tb_4_73 dX8_tides_120 ?_
      refine lv_iload_n hx hb dX8_tides_123 rfl (lv_at hl 2 rfl) ?_
      refine lv_aload_n hx hb dX8_tides_124 rfl (lv_at hl 0 rfl) ?_
      refine gFr hC hP (j := 10) sg_30 vc_8 iT8 (by decide) rfl tb_4_81 dX8_tides_125 ?_
      refine lv_iload_n hx hb dX8_tides_128 rfl (lv_at hl 2 rfl) ?_
      obtain ⟨v1, hv, hf⟩ := ob_some hf
      refine gIa hC hP hv dX8_tides_129 ?_
      obtain ⟨S2, hv, hf⟩ := ob_some hf
      refine sIa hC hP hS hv dX8_tides_130 (fun H locs hP hS => ?_)
      refine lv_aload_n hx hb dX8_tides_131 rfl (lv_at hl 0 rfl) ?_
      refine gFr hC hP (j := 10) sg_30 vc_8 iT8 (by decide) rfl tb_4_81 dX8_tides_132 ?_
      refine lv_iload_n hx hb dX8_tides_135 rfl (lv_at hl 2 rfl) ?_
      obtain ⟨v3, hv, hf⟩ := ob_some hf
      refine gIa hC hP hv dX8_tides_136 ?_
      refine lv_iload_n hx hb dX8_tides_137 rfl (lv_at hl 1 rfl) ?_
      refine lv_icmp_le (tgt := 150) hx hb dX8_tides_138 (by decide) (fun hc => ?_) (fun hc => ?_)
      · rw [if_pos hc] at hf
        refine lv_iload_n hx hb dX8_tides_150 rfl (lv_at hl 1 rfl) ?_
        exact w_X8_tides_151 hC hQ ih  _ _ _ _ _ _ hP hS (lv_sub hl [0, 2] rfl) hf
      · rw [if_neg hc] at hf
        refine lv_aload_n hx hb dX8_tides_141 rfl (lv_at hl 0 rfl) ?_
        refine gFr hC hP (j := 10) sg_30 vc_8 iT8 (by decide) rfl tb_4_81 dX8_tides_142 ?_
        refine lv_iload_n hx hb dX8_tides_145 rfl (lv_at hl 2 rfl) ?_
        obtain ⟨v4, hv, hf⟩ := ob_some hf
        refine gIa hC hP hv dX8_tides_146 ?_
        refine lv_goto (tgt := 151) hx hb dX8_tides_147 (by decide) ?_
        exact w_X8_tides_151 hC hQ ih  _ _ _ _ _ _ hP hS (lv_sub hl [0, 2] rfl) hf
def f_X8_tides_86  (S : ST) (y0 : Int32) : Option (Int32 × ST) := (bz y0).bind fun v1 => if ((sI (sI S 30 9 v1) 30 7 0).1 30 9) = 0 then (f_X8_tides_113 FU (sI (sI S 30 9 v1) 30 7 0) 0 0) else (some (((-20) - ((sI (sI S 30 9 v1) 30 7 0).1 30 8)), (sI (sI S 30 9 v1) 30 7 0)))
set_option maxRecDepth 100000 in
set_option maxHeartbeats 4000000 in
theorem w_X8_tides_86 {r : Int32} {S' : ST} (hC : Cx p m c s args cX8_tides 3 RX8 G) (hQ : KI p l e (rmH 3) s m args below meth c Q cX8_tides G r S') (S : ST) (y0 : Int32) (H : Heap) (locs : List Loc) (ls : Array Slot) (hP : va_P (gD G) vwCl (cells G S) H) (hS : va_S (gA G) s.heap H locs) (hl : lv_has ls 3 [(0, .ref (ad G 30))]) (hf : f_X8_tides_86 S y0 = some (r, S')) : W p l e (rmH 3) s m args below meth c H locs 0 0 Q (F0 m 86 ls [.int y0, .ref (ad G 30)]) := by
  obtain ⟨hx, hb, hml, hown, hts⟩ := id hC.1
  rw [f_X8_tides_86] at hf
  obtain ⟨v1, hv, hf⟩ := ob_some hf
  refine bzW hv ?_
  refine pFi hC hP hS (j := 9) sg_30 vc_8 iT8 tyX8_ok nmX8 (by decide) rfl tb_4_80 rfl (bz_n hv) (bz_f hv) dX8_tides_86 (fun H locs hP hS => ?_)
  refine lv_aload_n hx hb dX8_tides_89 rfl (lv_at hl 0 rfl) ?_
  refine lv_iconst (v := 0) hx hb dX8_tides_90 (by decide) ?_
  refine pFi hC hP hS (j := 7) sg_30 vc_8 iT8 tyX8_ok nmX8 (by decide) rfl tb_4_78 rfl rfl rfl dX8_tides_91 (fun H locs hP hS => ?_)
  refine lv_aload_n hx hb dX8_tides_94 rfl (lv_at hl 0 rfl) ?_
  refine gFi hC hP (j := 9) sg_30 vc_8 iT8 (by decide) rfl tb_4_80 dX8_tides_95 ?_
  refine lv_if_eq (tgt := 109) hx hb dX8_tides_98 (by decide) (fun hc => ?_) (fun hc => ?_)
  · rw [if_pos hc] at hf
    refine lv_iconst (v := 0) hx hb dX8_tides_109 (by decide) ?_
    refine lv_istore_n (lv' := [(1, .int 0), (0, .ref (ad G 30))]) hx hb dX8_tides_110 rfl hl (by decide) rfl (fun ls hl => ?_)
    refine lv_iconst (v := 0) hx hb dX8_tides_111 (by decide) ?_
    refine lv_istore_n (lv' := [(2, .int 0), (1, .int 0), (0, .ref (ad G 30))]) hx hb dX8_tides_112 rfl hl (by decide) rfl (fun ls hl => ?_)
    exact w_X8_tides_113 hC hQ _ _ _ _ _ _ _ hP hS (lv_sub hl [2, 1, 0] rfl) hf
  · rw [if_neg hc] at hf
    refine lv_bipush (v := (-20)) hx hb dX8_tides_101 (by decide) ?_
    refine lv_aload_n hx hb dX8_tides_103 rfl (lv_at hl 0 rfl) ?_
    refine gFi hC hP (j := 8) sg_30 vc_8 iT8 (by decide) rfl tb_4_79 dX8_tides_104 ?_
    refine lv_isub hx hb dX8_tides_107 ?_
    exact retIw hQ hf hP hS dX8_tides_108
def f_X8_tides_81  (S : ST)  : Option (Int32 × ST) := f_X8_tides_86 S 1
set_option maxRecDepth 100000 in
set_option maxHeartbeats 4000000 in
theorem w_X8_tides_81 {r : Int32} {S' : ST} (hC : Cx p m c s args cX8_tides 3 RX8 G) (hQ : KI p l e (rmH 3) s m args below meth c Q cX8_tides G r S') (S : ST)  (H : Heap) (locs : List Loc) (ls : Array Slot) (hP : va_P (gD G) vwCl (cells G S) H) (hS : va_S (gA G) s.heap H locs) (hl : lv_has ls 3 [(0, .ref (ad G 30))]) (hf : f_X8_tides_81 S = some (r, S')) : W p l e (rmH 3) s m args below meth c H locs 0 0 Q (F0 m 81 ls [.ref (ad G 30)]) := by
  obtain ⟨hx, hb, hml, hown, hts⟩ := id hC.1
  rw [f_X8_tides_81] at hf
  refine lv_iconst (v := 1) hx hb dX8_tides_81 (by decide) ?_
  refine lv_goto (tgt := 86) hx hb dX8_tides_82 (by decide) ?_
  exact w_X8_tides_86 hC hQ  _ _ _ _ _ hP hS (lv_sub hl [0] rfl) hf
def f_X8_tides_44  (k12 : ST → Int32 → Option (Int32 × ST)) (S : ST) (x1 : Int32) (y0 : Int32) : Option (Int32 × ST) := (bz y0).bind fun v1 => b2 (f_X8_number (sI S 30 9 v1) 0 99) fun v2 S3 => (wI S3 36 x1 v2).bind fun S4 => k12 S4 (x1 + 1)
set_option maxRecDepth 100000 in
set_option maxHeartbeats 4000000 in
theorem w_X8_tides_44 {r : Int32} {S' : ST} (hC : Cx p m c s args cX8_tides 3 RX8 G) (hQ : KI p l e (rmH 3) s m args below meth c Q cX8_tides G r S') {k12 : ST → Int32 → Option (Int32 × ST)} (hk12 : ∀ (S : ST) (x1 : Int32) (H : Heap) (locs : List Loc) (ls : Array Slot), va_P (gD G) vwCl (cells G S) H → va_S (gA G) s.heap H locs → lv_has ls 3 [(0, .ref (ad G 30)), (1, .int x1)] → k12 S x1 = some (r, S') → W p l e (rmH 3) s m args below meth c H locs 0 0 Q (F0 m 12 ls [])) (S : ST) (x1 : Int32) (y0 : Int32) (H : Heap) (locs : List Loc) (ls : Array Slot) (hP : va_P (gD G) vwCl (cells G S) H) (hS : va_S (gA G) s.heap H locs) (hl : lv_has ls 3 [(0, .ref (ad G 30)), (1, .int x1)]) (hf : f_X8_tides_44 k12 S x1 y0 = some (r, S')) : W p l e (rmH 3) s m args below meth c H locs 0 0 Q (F0 m 44 ls [.int y0, .ref (ad G 30)]) := by
  obtain ⟨hx, hb, hml, hown, hts⟩ := id hC.1
  rw [f_X8_tides_44] at hf
  obtain ⟨v1, hv, hf⟩ := ob_some hf
  refine bzW hv ?_
  refine pFi hC hP hS (j := 9) sg_30 vc_8 iT8 tyX8_ok nmX8 (by decide) rfl tb_4_80 rfl (bz_n hv) (bz_f hv) dX8_tides_44 (fun H locs hP hS => ?_)
  refine lv_aload_n hx hb dX8_tides_47 rfl (lv_at hl 0 rfl) ?_
  refine gFr hC hP (j := 10) sg_30 vc_8 iT8 (by decide) rfl tb_4_81 dX8_tides_48 ?_
  refine lv_iload_n hx hb dX8_tides_51 rfl (lv_at hl 1 rfl) ?_
  refine lv_aload_n hx hb dX8_tides_52 rfl (lv_at hl 0 rfl) ?_
  refine lv_iconst (v := 0) hx hb dX8_tides_53 (by decide) ?_
  refine lv_bipush (v := 99) hx hb dX8_tides_54 (by decide) ?_
  obtain ⟨v2, S3, hv, hf⟩ := ob_two hf
  refine cI hS (runV hC hP hS (As := [.int 0, .int 99]) (rest := [.int x1, .ref (ad G 36)]) (k_X8_number l G (sI S 30 9 v1) 0 99 _ _ hv) vy_X8_number sg_30 vc_8 tb_4_235 tb_4_237 ts_31 ⟨Nat.le_of_ble_eq_true rfl, Nat.le_of_ble_eq_true rfl⟩ rfl hl.1 rfl (Nat.le_of_ble_eq_true rfl) dX8_tides_56) (fun H locs hP hS => ?_)
  obtain ⟨S4, hv, hf⟩ := ob_some hf
  refine sIa hC hP hS hv dX8_tides_59 (fun H locs hP hS => ?_)
  refine lv_iinc (v := x1 + 1) (lv' := [(1, .int (x1 + 1)), (0, .ref (ad G 30))]) hx hb dX8_tides_60 hl (k := 1) rfl rfl (by decide) rfl (fun ls hl => ?_)
  refine lv_goto (tgt := 12) hx hb dX8_tides_63 (by decide) ?_
  exact hk12 _ _ _ _ _ hP hS (lv_sub hl [1, 0] rfl) hf
def f_X8_tides_39  (k12 : ST → Int32 → Option (Int32 × ST)) (S : ST) (x1 : Int32) : Option (Int32 × ST) := f_X8_tides_44 k12 S x1 1
set_option maxRecDepth 100000 in
set_option maxHeartbeats 4000000 in
theorem w_X8_tides_39 {r : Int32} {S' : ST} (hC : Cx p m c s args cX8_tides 3 RX8 G) (hQ : KI p l e (rmH 3) s m args below meth c Q cX8_tides G r S') {k12 : ST → Int32 → Option (Int32 × ST)} (hk12 : ∀ (S : ST) (x1 : Int32) (H : Heap) (locs : List Loc) (ls : Array Slot), va_P (gD G) vwCl (cells G S) H → va_S (gA G) s.heap H locs → lv_has ls 3 [(0, .ref (ad G 30)), (1, .int x1)] → k12 S x1 = some (r, S') → W p l e (rmH 3) s m args below meth c H locs 0 0 Q (F0 m 12 ls [])) (S : ST) (x1 : Int32) (H : Heap) (locs : List Loc) (ls : Array Slot) (hP : va_P (gD G) vwCl (cells G S) H) (hS : va_S (gA G) s.heap H locs) (hl : lv_has ls 3 [(0, .ref (ad G 30)), (1, .int x1)]) (hf : f_X8_tides_39 k12 S x1 = some (r, S')) : W p l e (rmH 3) s m args below meth c H locs 0 0 Q (F0 m 39 ls [.ref (ad G 30)]) := by
  obtain ⟨hx, hb, hml, hown, hts⟩ := id hC.1
  rw [f_X8_tides_39] at hf
  refine lv_iconst (v := 1) hx hb dX8_tides_39 (by decide) ?_
  refine lv_goto (tgt := 44) hx hb dX8_tides_40 (by decide) ?_
  exact w_X8_tides_44 hC hQ hk12  _ _ _ _ _ _ hP hS (lv_sub hl [0, 1] rfl) hf
def f_X8_tides_43  (k12 : ST → Int32 → Option (Int32 × ST)) (S : ST) (x1 : Int32) : Option (Int32 × ST) := f_X8_tides_44 k12 S x1 0
set_option maxRecDepth 100000 in
set_option maxHeartbeats 4000000 in
theorem w_X8_tides_43 {r : Int32} {S' : ST} (hC : Cx p m c s args cX8_tides 3 RX8 G) (hQ : KI p l e (rmH 3) s m args below meth c Q cX8_tides G r S') {k12 : ST → Int32 → Option (Int32 × ST)} (hk12 : ∀ (S : ST) (x1 : Int32) (H : Heap) (locs : List Loc) (ls : Array Slot), va_P (gD G) vwCl (cells G S) H → va_S (gA G) s.heap H locs → lv_has ls 3 [(0, .ref (ad G 30)), (1, .int x1)] → k12 S x1 = some (r, S') → W p l e (rmH 3) s m args below meth c H locs 0 0 Q (F0 m 12 ls [])) (S : ST) (x1 : Int32) (H : Heap) (locs : List Loc) (ls : Array Slot) (hP : va_P (gD G) vwCl (cells G S) H) (hS : va_S (gA G) s.heap H locs) (hl : lv_has ls 3 [(0, .ref (ad G 30)), (1, .int x1)]) (hf : f_X8_tides_43 k12 S x1 = some (r, S')) : W p l e (rmH 3) s m args below meth c H locs 0 0 Q (F0 m 43 ls [.ref (ad G 30)]) := by
  obtain ⟨hx, hb, hml, hown, hts⟩ := id hC.1
  rw [f_X8_tides_43] at hf
  refine lv_iconst (v := 0) hx hb dX8_tides_43 (by decide) ?_
  exact w_X8_tides_44 hC hQ hk12  _ _ _ _ _ _ hP hS (lv_sub hl [0, 1] rfl) hf
def f_X8_tides_12  : Nat → ST → Int32 → Option (Int32 × ST)
  | 0, _, _ => none
  | n + 1, S, x1 => if 24 ≤ x1 then (if (S.1 30 9) = 0 then (b2 (f_X8_here S) fun v1 S2 => if v1 = 0 then (f_X8_tides_86 S2 0) else (f_X8_tides_81 S2)) else (f_X8_tides_81 S)) else (if (S.1 30 9) = 0 then (if x1 ≤ 0 then (f_X8_tides_43 (f_X8_tides_12 n) S x1) else (b2 (f_X8_has S 44) fun v3 S4 => if v3 = 0 then (f_X8_tides_39 (f_X8_tides_12 n) S4 x1) else (f_X8_tides_43 (f_X8_tides_12 n) S4 x1))) else (f_X8_tides_39 (f_X8_tides_12 n) S x1))
set_option maxRecDepth 100000 in
set_option maxHeartbeats 4000000 in
theorem w_X8_tides_12 {r : Int32} {S' : ST} (hC : Cx p m c s args cX8_tides 3 RX8 G) (hQ : KI p l e (rmH 3) s m args below meth c Q cX8_tides G r S') : ∀ (n : Nat) (S : ST) (x1 : Int32) (H : Heap) (locs : List Loc) (ls : Array Slot), va_P (gD G) vwCl (cells G S) H → va_S (gA G) s.heap H locs → lv_has ls 3 [(0, .ref (ad G 30)), (1, .int x1)] → f_X8_tides_12 n S x1 = some (r, S') → W p l e (rmH 3) s m args below meth c H locs 0 0 Q (F0 m 12 ls []) := by
  obtain ⟨hx, hb, hml, hown, hts⟩ := id hC.1
  intro n
  induction n with
  | zero => intro S x1 H locs ls hP hS hl hf; rw [f_X8_tides_12] at hf; cases hf
  | succ n ih =>
    intro S x1 H locs ls hP hS hl hf
    rw [f_X8_tides_12] at hf
    refine lv_iload_n hx hb dX8_tides_12 rfl (lv_at hl 1 rfl) ?_
    refine lv_bipush (v := 24) hx hb dX8_tides_13 (by decide) ?_
    refine lv_icmp_ge (tgt := 66) hx hb dX8_tides_15 (by decide) (fun hc => ?_) (fun hc => ?_)
    · rw [if_pos hc] at hf
      refine lv_aload_n hx hb dX8_tides_66 rfl (lv_at hl 0 rfl) ?_
      refine lv_aload_n hx hb dX8_tides_67 rfl (lv_at hl 0 rfl) ?_
      refine gFi hC hP (j := 9) sg_30 vc_8 iT8 (by decide) rfl tb_4_80 dX8_tides_68 ?_
      refine lv_if_ne (tgt := 81) hx hb dX8_tides_71 (by decide) (fun hc => ?_) (fun hc => ?_)
      · rw [if_neg hc] at hf
        exact w_X8_tides_81 hC hQ  _ _ _ _ hP hS (lv_sub hl [0] rfl) hf
      · rw [if_pos hc] at hf
        refine lv_aload_n hx hb dX8_tides_74 rfl (lv_at hl 0 rfl) ?_
        obtain ⟨v1, S2, hv, hf⟩ := ob_two hf
        refine cI hS (runV hC hP hS (As := []) (rest := [.ref (ad G 30)]) (k_X8_here l G S _ _ hv) vy_X8_here sg_30 vc_8 tb_4_239 tb_5_1 ts_32 ⟨Nat.le_of_ble_eq_true rfl, Nat.le_of_ble_eq_true rfl⟩ rfl hl.1 rfl (Nat.le_of_ble_eq_true rfl) dX8_tides_75) (fun H locs hP hS => ?_)
        refine lv_if_eq (tgt := 85) hx hb dX8_tides_78 (by decide) (fun hc => ?_) (fun hc => ?_)
        · rw [if_pos hc] at hf
          refine lv_iconst (v := 0) hx hb dX8_tides_85 (by decide) ?_
          exact w_X8_tides_86 hC hQ  _ _ _ _ _ hP hS (lv_sub hl [0] rfl) hf
        · rw [if_neg hc] at hf
          exact w_X8_tides_81 hC hQ  _ _ _ _ hP hS (lv_sub hl [0] rfl) hf
    · rw [if_neg hc] at hf
      refine lv_aload_n hx hb dX8_tides_18 rfl (lv_at hl 0 rfl) ?_
      refine lv_aload_n hx hb dX8_tides_19 rfl (lv_at hl 0 rfl) ?_
      refine gFi hC hP (j := 9) sg_30 vc_8 iT8 (by decide) rfl tb_4_80 dX8_tides_20 ?_
      refine lv_if_ne (tgt := 39) hx hb dX8_tides_23 (by decide) (fun hc => ?_) (fun hc => ?_)
      · rw [if_neg hc] at hf
        exact w_X8_tides_39 hC hQ ih  _ _ _ _ _ hP hS (lv_sub hl [0, 1] rfl) hf
      · rw [if_pos hc] at hf
        refine lv_iload_n hx hb dX8_tides_26 rfl (lv_at hl 1 rfl) ?_
        refine lv_if_le (tgt := 43) hx hb dX8_tides_27 (by decide) (fun hc => ?_) (fun hc => ?_)
        · rw [if_pos hc] at hf
          exact w_X8_tides_43 hC hQ ih  _ _ _ _ _ hP hS (lv_sub hl [0, 1] rfl) hf
        · rw [if_neg hc] at hf
          refine lv_aload_n hx hb dX8_tides_30 rfl (lv_at hl 0 rfl) ?_
          refine lv_bipush (v := 44) hx hb dX8_tides_31 (by decide) ?_
          obtain ⟨v3, S4, hv, hf⟩ := ob_two hf
          refine cI hS (runV hC hP hS (As := [.int 44]) (rest := [.ref (ad G 30)]) (k_X8_has l G S 44 _ _ hv) vy_X8_has sg_30 vc_8 tb_5_5 tb_5_7 ts_33 ⟨Nat.le_of_ble_eq_true rfl, Nat.le_of_ble_eq_true rfl⟩ rfl hl.1 rfl (Nat.le_of_ble_eq_true rfl) dX8_tides_33) (fun H locs hP hS => ?_)
          refine lv_if_ne (tgt := 43) hx hb dX8_tides_36 (by decide) (fun hc => ?_) (fun hc => ?_)
          · rw [if_neg hc] at hf
            exact w_X8_tides_43 hC hQ ih  _ _ _ _ _ hP hS (lv_sub hl [0, 1] rfl) hf
          · rw [if_pos hc] at hf
            exact w_X8_tides_39 hC hQ ih  _ _ _ _ _ hP hS (lv_sub hl [0, 1] rfl) hf
def f_X8_tides (S : ST)  : Option (Int32 × ST) := f_X8_tides_12 FU (sI (sI S 30 8 0) 30 9 0) 0
set_option maxRecDepth 100000 in
set_option maxHeartbeats 4000000 in
theorem k_X8_tides (l : Launch) (G : GT) (S : ST)  (r : Int32) (S' : ST) (hf : f_X8_tides S  = some (r, S')) : MI l yX8_tides cX8_tides 3 (some .int) 3 [.ref (ad G 30)] G S r S' := by
  rw [f_X8_tides] at hf
  refine mkI (own := RX8) (by decide +kernel) rfl rfl (Nat.le_of_ble_eq_true rfl) (fun p e s m args below meth c Q ls hC hP hS hl hQ => ?_)
  have hl : lv_has ls 3 [(0, .ref (ad G 30))] := hl
  obtain ⟨hx, hb, hml, hown, hts⟩ := id hC.1
  refine lv_aload_n hx hb dX8_tides_0 rfl (lv_at hl 0 rfl) ?_
  refine lv_iconst (v := 0) hx hb dX8_tides_1 (by decide) ?_
  refine pFi hC hP hS (j := 8) sg_30 vc_8 iT8 tyX8_ok nmX8 (by decide) rfl tb_4_79 rfl rfl rfl dX8_tides_2 (fun H locs hP hS => ?_)
  refine lv_aload_n hx hb dX8_tides_5 rfl (lv_at hl 0 rfl) ?_
  refine lv_iconst (v := 0) hx hb dX8_tides_6 (by decide) ?_
  refine pFi hC hP hS (j := 9) sg_30 vc_8 iT8 tyX8_ok nmX8 (by decide) rfl tb_4_80 rfl rfl rfl dX8_tides_7 (fun H locs hP hS => ?_)
  refine lv_iconst (v := 0) hx hb dX8_tides_10 (by decide) ?_
  refine lv_istore_n (lv' := [(1, .int 0), (0, .ref (ad G 30))]) hx hb dX8_tides_11 rfl hl (by decide) rfl (fun ls hl => ?_)
  exact w_X8_tides_12 hC hQ _ _ _ _ _ _ hP hS (lv_sub hl [1, 0] rfl) hf
def f_X8_count_4 (S : ST)  : Nat → Int32 → Int32 → Int32 → Option Int32
  | 0, _, _, _ => none
  | n + 1, x1, x2, x3 => if (S.1 30 0) ≤ x3 then (if x1 = 0 then (some (S.1 30 0)) else (if x1 = 1 then (some (S.1 30 4)) else (if x1 = 2 then (some x2) else (some (-1))))) else ((rI S 0 31 ((6 * x3) + 1)).bind fun v1 => f_X8_count_4 S n x1 (x2 + v1) (x3 + 1))
set_option maxRecDepth 100000 in
set_option maxHeartbeats 4000000 in
theorem w_X8_count_4 {r : Int32} {S : ST} (hC : Cx p m c s args cX8_count 4 RX8 G) (hQ : KI p l e (rmH 1) s m args below meth c Q cX8_count G r S) : ∀ (n : Nat) (x1 : Int32) (x2 : Int32) (x3 : Int32) (H : Heap) (locs : List Loc) (ls : Array Slot), va_P (gD G) vwCl (cells G S) H → va_S (gA G) s.heap H locs → lv_has ls 4 [(0, .ref (ad G 30)), (1, .int x1), (2, .int x2), (3, .int x3)] → f_X8_count_4 S n x1 x2 x3 = some r → W p l e (rmH 1) s m args below meth c H locs 0 0 Q (F0 m 4 ls []) := by
  obtain ⟨hx, hb, hml, hown, hts⟩ := id hC.1
  intro n
  induction n with
  | zero => intro x1 x2 x3 H locs ls hP hS hl hf; rw [f_X8_count_4] at hf; cases hf
  | succ n ih =>
    intro x1 x2 x3 H locs ls hP hS hl hf
    rw [f_X8_count_4] at hf
    refine lv_iload_n hx hb dX8_count_4 rfl (lv_at hl 3 rfl) ?_
    refine lv_aload_n hx hb dX8_count_5 rfl (lv_at hl 0 rfl) ?_
    refine gFi hC hP (j := 0) sg_30 vc_8 iT8 (by decide) rfl tb_4_71 dX8_count_6 ?_
    refine lv_icmp_ge (tgt := 32) hx hb dX8_count_9 (by decide) (fun hc => ?_) (fun hc => ?_)
    · rw [if_pos hc] at hf
      refine lv_iload_n hx hb dX8_count_32 rfl (lv_at hl 1 rfl) ?_
      refine lv_if_ne (tgt := 43) hx hb dX8_count_33 (by decide) (fun hc => ?_) (fun hc => ?_)
      · rw [if_neg hc] at hf
        refine lv_iload_n hx hb dX8_count_43 rfl (lv_at hl 1 rfl) ?_
        refine lv_iconst (v := 1) hx hb dX8_count_44 (by decide) ?_
        refine lv_icmp_ne (tgt := 55) hx hb dX8_count_45 (by decide) (fun hc => ?_) (fun hc => ?_)
        · rw [if_neg hc] at hf
          refine lv_iload_n hx hb dX8_count_55 rfl (lv_at hl 1 rfl) ?_
          refine lv_iconst (v := 2) hx hb dX8_count_56 (by decide) ?_
          refine lv_icmp_ne (tgt := 64) hx hb dX8_count_57 (by decide) (fun hc => ?_) (fun hc => ?_)
          · rw [if_neg hc] at hf
            refine lv_iconst (v := (-1)) hx hb dX8_count_64 (by decide) ?_
            exact retI hQ hf hP hS dX8_count_65
          · rw [if_pos hc] at hf
            refine lv_iload_n hx hb dX8_count_60 rfl (lv_at hl 2 rfl) ?_
            refine lv_goto (tgt := 65) hx hb dX8_count_61 (by decide) ?_
            exact retI hQ hf hP hS dX8_count_65
        · rw [if_pos hc] at hf
          refine lv_aload_n hx hb dX8_count_48 rfl (lv_at hl 0 rfl) ?_
          refine gFi hC hP (j := 4) sg_30 vc_8 iT8 (by decide) rfl tb_4_75 dX8_count_49 ?_
          refine lv_goto (tgt := 65) hx hb dX8_count_52 (by decide) ?_
          exact retI hQ hf hP hS dX8_count_65
      · rw [if_pos hc] at hf
        refine lv_aload_n hx hb dX8_count_36 rfl (lv_at hl 0 rfl) ?_
        refine gFi hC hP (j := 0) sg_30 vc_8 iT8 (by decide) rfl tb_4_71 dX8_count_37 ?_
        refine lv_goto (tgt := 65) hx hb dX8_count_40 (by decide) ?_
        exact retI hQ hf hP hS dX8_count_65
    · rw [if_neg hc] at hf
      refine lv_iload_n hx hb dX8_count_12 rfl (lv_at hl 2 rfl) ?_
      refine lv_aload_n hx hb dX8_count_13 rfl (lv_at hl 0 rfl) ?_
      refine gFr hC hP (j := 1) sg_30 vc_8 iT8 (by decide) rfl tb_4_72 dX8_count_14 ?_
      refine lv_bipush (v := 6) hx hb dX8_count_17 (by decide) ?_
      refine lv_iload_n hx hb dX8_count_19 rfl (lv_at hl 3 rfl) ?_
      refine lv_imul hx hb dX8_count_20 ?_
      refine lv_iconst (v := 1) hx hb dX8_count_21 (by decide) ?_
      refine lv_iadd hx hb dX8_count_22 ?_
      obtain ⟨v1, hv, hf⟩ := ob_some hf
      refine gIa hC hP hv dX8_count_23 ?_
      refine lv_iadd hx hb dX8_count_24 ?_
      refine lv_istore_n (lv' := [(2, .int (x2 + v1)), (0, .ref (ad G 30)), (1, .int x1), (3, .int x3)]) hx hb dX8_count_25 rfl hl (by decide) rfl (fun ls hl => ?_)
      refine lv_iinc (v := x3 + 1) (lv' := [(3, .int (x3 + 1)), (2, .int (x2 + v1)), (0, .ref (ad G 30)), (1, .int x1)]) hx hb dX8_count_26 hl (k := 3) rfl rfl (by decide) rfl (fun ls hl => ?_)
      refine lv_goto (tgt := 4) hx hb dX8_count_29 (by decide) ?_
      exact ih _ _ _ _ _ _ hP hS (lv_sub hl [2, 3, 1, 0] rfl) hf
def f_X8_count (S : ST) (x1 : Int32) : Option Int32 := f_X8_count_4 S FU x1 0 0
set_option maxRecDepth 100000 in
set_option maxHeartbeats 4000000 in
theorem k_X8_count (l : Launch) (G : GT) (S : ST) (x1 : Int32) (r : Int32) (hf : f_X8_count S x1 = some r) : MI l yX8_count cX8_count 4 (some .int) 1 [.ref (ad G 30), .int x1] G S r S := by
  rw [f_X8_count] at hf
  refine mkI (own := RX8) (by decide +kernel) rfl rfl (Nat.le_of_ble_eq_true rfl) (fun p e s m args below meth c Q ls hC hP hS hl hQ => ?_)
  have hl : lv_has ls 4 [(0, .ref (ad G 30)), (1, .int x1)] := hl
  obtain ⟨hx, hb, hml, hown, hts⟩ := id hC.1
  refine lv_iconst (v := 0) hx hb dX8_count_0 (by decide) ?_
  refine lv_istore_n (lv' := [(2, .int 0), (0, .ref (ad G 30)), (1, .int x1)]) hx hb dX8_count_1 rfl hl (by decide) rfl (fun ls hl => ?_)
  refine lv_iconst (v := 0) hx hb dX8_count_2 (by decide) ?_
  refine lv_istore_n (lv' := [(3, .int 0), (2, .int 0), (0, .ref (ad G 30)), (1, .int x1)]) hx hb dX8_count_3 rfl hl (by decide) rfl (fun ls hl => ?_)
  exact w_X8_count_4 hC hQ _ _ _ _ _ _ _ hP hS (lv_sub hl [2, 3, 1, 0] rfl) hf
def f_X8_isMinute (x0 : Int32) : Option Int32 := (f_X8_in (x0.toInt64) 0 4000).bind fun v1 => (bz v1).bind fun v2 => some v2
set_option maxRecDepth 100000 in
set_option maxHeartbeats 4000000 in
theorem k_X8_isMinute (l : Launch) (G : GT) (S : ST) (x0 : Int32) (r : Int32) (hf : f_X8_isMinute x0 = some r) : MI l yX8_isMinute cX8_isMinute 1 (some .boolean) 2 [.int x0] G S r S := by
  rw [f_X8_isMinute] at hf
  refine mkZ (own := RX8) (by decide +kernel) rfl (Nat.le_of_ble_eq_true rfl) (fun p e s m args below meth c Q ls hC hP hS hl hQ => ?_)
  have hl : lv_has ls 1 [(0, .int x0)] := hl
  obtain ⟨hx, hb, hml, hown, hts⟩ := id hC.1
  refine lv_iload_n hx hb dX8_isMinute_0 rfl (lv_at hl 0 rfl) ?_
  refine lv_i2l (v := x0.toInt64) hx hb dX8_isMinute_1 rfl ?_
  refine lv_lconst (v := 0) hx hb dX8_isMinute_2 (by decide) ?_
  refine lv_ldc2 hx hb hown (hts _ tb_5_28) dX8_isMinute_3 ?_
  obtain ⟨v1, hv, hf⟩ := ob_some hf
  refine cI hS (runS hC hP hS (As := [.long (x0.toInt64), .long 0, .long 4000]) (rest := []) (k_X8_in l G S (x0.toInt64) 0 4000 _ hv) vy_X8_in tb_4_169 tb_4_170 ⟨Nat.le_of_ble_eq_true rfl, Nat.le_of_ble_eq_true rfl⟩ rfl hl.1 rfl (Nat.le_of_ble_eq_true rfl) dX8_isMinute_6) (fun H locs hP hS => ?_)
  obtain ⟨v2, hv, hf⟩ := ob_some hf
  refine bzW hv ?_
  exact retZ hQ (bz_n hv) hf hP hS dX8_isMinute_9
def f_X8_tideAt_25 (S : ST)  (y0 : Int32) (y1 : Int32) : Option Int32 := (dv (y1 + y0) 60).bind fun v1 => (rI S 0 32 v1).bind fun v2 => (rm (v1 + 1) 24).bind fun v3 => (rI S 0 32 v3).bind fun v4 => (rI S 0 32 v1).bind fun v5 => (rm (y1 + y0) 60).bind fun v6 => (dv ((v4 - v5) * v6) 60).bind fun v7 => some (v2 + v7)
set_option maxRecDepth 100000 in
set_option maxHeartbeats 4000000 in
theorem w_X8_tideAt_25 {r : Int32} {S : ST} (hC : Cx p m c s args cX8_tideAt 4 RX8 G) (hQ : KI p l e (rmH 1) s m args below meth c Q cX8_tideAt G r S) (y0 : Int32) (y1 : Int32) (H : Heap) (locs : List Loc) (ls : Array Slot) (hP : va_P (gD G) vwCl (cells G S) H) (hS : va_S (gA G) s.heap H locs) (hl : lv_has ls 4 [(0, .ref (ad G 30))]) (hf : f_X8_tideAt_25 S y0 y1 = some r) : W p l e (rmH 1) s m args below meth c H locs 0 0 Q (F0 m 25 ls [.int y0, .int y1]) := by
  obtain ⟨hx, hb, hml, hown, hts⟩ := id hC.1
  rw [f_X8_tideAt_25] at hf
  refine lv_iadd hx hb dX8_tideAt_25 ?_
  refine lv_istore_n (lv' := [(2, .int (y1 + y0)), (0, .ref (ad G 30))]) hx hb dX8_tideAt_26 rfl hl (by decide) rfl (fun ls hl => ?_)
  refine lv_iload_n hx hb dX8_tideAt_27 rfl (lv_at hl 0 rfl) ?_
  refine lv_bipush (v := 60) hx hb dX8_tideAt_28 (by decide) ?_
  obtain ⟨v1, hv, hf⟩ := ob_some hf
  refine xDv hC hv dX8_tideAt_30 ?_
  refine lv_istore_n (lv' := [(3, .int v1), (2, .int (y1 + y0)), (0, .ref (ad G 30))]) hx hb dX8_tideAt_31 rfl hl (by decide) rfl (fun ls hl => ?_)
  refine lv_aload_n hx hb dX8_tideAt_32 rfl (lv_at hl 2 rfl) ?_
  refine gFr hC hP (j := 2) sg_30 vc_8 iT8 (by decide) rfl tb_4_73 dX8_tideAt_33 ?_
  refine lv_iload_n hx hb dX8_tideAt_36 rfl (lv_at hl 0 rfl) ?_
  obtain ⟨v2, hv, hf⟩ := ob_some hf
  refine gIa hC hP hv dX8_tideAt_37 ?_
  refine lv_aload_n hx hb dX8_tideAt_38 rfl (lv_at hl 2 rfl) ?_
  refine gFr hC hP (j := 2) sg_30 vc_8 iT8 (by decide) rfl tb_4_73 dX8_tideAt_39 ?_
  refine lv_iload_n hx hb dX8_tideAt_42 rfl (lv_at hl 0 rfl) ?_
  refine lv_iconst (v := 1) hx hb dX8_tideAt_43 (by decide) ?_
  refine lv_iadd hx hb dX8_tideAt_44 ?_
  refine lv_bipush (v := 24) hx hb dX8_tideAt_45 (by decide) ?_
  obtain ⟨v3, hv, hf⟩ := ob_some hf
  refine xRm hC hv dX8_tideAt_47 ?_
  obtain ⟨v4, hv, hf⟩ := ob_some hf
  refine gIa hC hP hv dX8_tideAt_48 ?_
  refine lv_aload_n hx hb dX8_tideAt_49 rfl (lv_at hl 2 rfl) ?_
  refine gFr hC hP (j := 2) sg_30 vc_8 iT8 (by decide) rfl tb_4_73 dX8_tideAt_50 ?_
  refine lv_iload_n hx hb dX8_tideAt_53 rfl (lv_at hl 0 rfl) ?_
  obtain ⟨v5, hv, hf⟩ := ob_some hf
  refine gIa hC hP hv dX8_tideAt_54 ?_
  refine lv_isub hx hb dX8_tideAt_55 ?_
  refine lv_iload_n hx hb dX8_tideAt_56 rfl (lv_at hl 1 rfl) ?_
  refine lv_bipush (v := 60) hx hb dX8_tideAt_57 (by decide) ?_
  obtain ⟨v6, hv, hf⟩ := ob_some hf
  refine xRm hC hv dX8_tideAt_59 ?_
  refine lv_imul hx hb dX8_tideAt_60 ?_
  refine lv_bipush (v := 60) hx hb dX8_tideAt_61 (by decide) ?_
  obtain ⟨v7, hv, hf⟩ := ob_some hf
  refine xDv hC hv dX8_tideAt_63 ?_
  refine lv_iadd hx hb dX8_tideAt_64 ?_
  exact retI hQ hf hP hS dX8_tideAt_65
def f_X8_tideAt (S : ST) (x1 : Int32) : Option Int32 := (rI S 0 33 0).bind fun v1 => (rm (x1 - v1) 1440).bind fun v2 => if 0 ≤ v2 then (f_X8_tideAt_25 S 0 v2) else (f_X8_tideAt_25 S 1440 v2)
set_option maxRecDepth 100000 in
set_option maxHeartbeats 4000000 in
theorem k_X8_tideAt (l : Launch) (G : GT) (S : ST) (x1 : Int32) (r : Int32) (hf : f_X8_tideAt S x1 = some r) : MI l yX8_tideAt cX8_tideAt 4 (some .int) 1 [.ref (ad G 30), .int x1] G S r S := by
  rw [f_X8_tideAt] at hf
  refine mkI (own := RX8) (by decide +kernel) rfl rfl (Nat.le_of_ble_eq_true rfl) (fun p e s m args below meth c Q ls hC hP hS hl hQ => ?_)
  have hl : lv_has ls 4 [(0, .ref (ad G 30)), (1, .int x1)] := hl
  obtain ⟨hx, hb, hml, hown, hts⟩ := id hC.1
  refine lv_iload_n hx hb dX8_tideAt_0 rfl (lv_at hl 1 rfl) ?_
  refine lv_aload_n hx hb dX8_tideAt_1 rfl (lv_at hl 0 rfl) ?_
  refine gFr hC hP (j := 3) sg_30 vc_8 iT8 (by decide) rfl tb_4_74 dX8_tideAt_2 ?_
  refine lv_iconst (v := 0) hx hb dX8_tideAt_5 (by decide) ?_
  obtain ⟨v1, hv, hf⟩ := ob_some hf
  refine gIa hC hP hv dX8_tideAt_6 ?_
  refine lv_isub hx hb dX8_tideAt_7 ?_
  refine lv_sipush (v := 1440) hx hb dX8_tideAt_8 (by decide) ?_
  obtain ⟨v2, hv, hf⟩ := ob_some hf
  refine xRm hC hv dX8_tideAt_11 ?_
  refine lv_istore_n (lv' := [(2, .int v2), (0, .ref (ad G 30)), (1, .int x1)]) hx hb dX8_tideAt_12 rfl hl (by decide) rfl (fun ls hl => ?_)
  refine lv_iload_n hx hb dX8_tideAt_13 rfl (lv_at hl 0 rfl) ?_
  refine lv_iload_n hx hb dX8_tideAt_14 rfl (lv_at hl 0 rfl) ?_
  refine lv_if_ge (tgt := 24) hx hb dX8_tideAt_15 (by decide) (fun hc => ?_) (fun hc => ?_)
  · rw [if_pos hc] at hf
    refine lv_iconst (v := 0) hx hb dX8_tideAt_24 (by decide) ?_
    exact w_X8_tideAt_25 hC hQ  _ _ _ _ _ hP hS (lv_sub hl [1] rfl) hf
  · rw [if_neg hc] at hf
    refine lv_sipush (v := 1440) hx hb dX8_tideAt_18 (by decide) ?_
    refine lv_goto (tgt := 25) hx hb dX8_tideAt_21 (by decide) ?_
    exact w_X8_tideAt_25 hC hQ  _ _ _ _ _ hP hS (lv_sub hl [1] rfl) hf
def f_X8_tide (S : ST) (x1 : Int32) : Option Int32 := (f_X8_isMinute x1).bind fun v1 => if v1 = 0 then (some (-1)) else ((f_X8_tideAt S x1).bind fun v2 => some v2)
set_option maxRecDepth 100000 in
set_option maxHeartbeats 4000000 in
theorem k_X8_tide (l : Launch) (G : GT) (S : ST) (x1 : Int32) (r : Int32) (hf : f_X8_tide S x1 = some r) : MI l yX8_tide cX8_tide 2 (some .int) 3 [.ref (ad G 30), .int x1] G S r S := by
  rw [f_X8_tide] at hf
  refine mkI (own := RX8) (by decide +kernel) rfl rfl (Nat.le_of_ble_eq_true rfl) (fun p e s m args below meth c Q ls hC hP hS hl hQ => ?_)
  have hl : lv_has ls 2 [(0, .ref (ad G 30)), (1, .int x1)] := hl
  obtain ⟨hx, hb, hml, hown, hts⟩ := id hC.1
  refine lv_iload_n hx hb dX8_tide_0 rfl (lv_at hl 1 rfl) ?_
  obtain ⟨v1, hv, hf⟩ := ob_some hf
  refine cI hS (runS hC hP hS (As := [.int x1]) (rest := []) (k_X8_isMinute l G S x1 _ hv) vy_X8_isMinute tb_5_25 tb_5_26 ⟨Nat.le_of_ble_eq_true rfl, Nat.le_of_ble_eq_true rfl⟩ rfl hl.1 rfl (Nat.le_of_ble_eq_true rfl) dX8_tide_1) (fun H locs hP hS => ?_)
  refine lv_if_eq (tgt := 15) hx hb dX8_tide_4 (by decide) (fun hc => ?_) (fun hc => ?_)
  · rw [if_pos hc] at hf
    refine lv_iconst (v := (-1)) hx hb dX8_tide_15 (by decide) ?_
    exact retI hQ hf hP hS dX8_tide_16
  · rw [if_neg hc] at hf
    refine lv_aload_n hx hb dX8_tide_7 rfl (lv_at hl 0 rfl) ?_
    refine lv_iload_n hx hb dX8_tide_8 rfl (lv_at hl 1 rfl) ?_
    obtain ⟨v2, hv, hf⟩ := ob_some hf
    refine cI hS (runV hC hP hS (As := [.int x1]) (rest := []) (k_X8_tideAt l G S x1 _ hv) vy_X8_tideAt sg_30 vc_8 tb_5_29 tb_5_31 ts_35 ⟨Nat.le_of_ble_eq_true rfl, Nat.le_of_ble_eq_true rfl⟩ rfl hl.1 rfl (Nat.le_of_ble_eq_true rfl) dX8_tide_9) (fun H locs hP hS => ?_)
    refine lv_goto (tgt := 16) hx hb dX8_tide_12 (by decide) ?_
    exact retI hQ hf hP hS dX8_tide_16
def f_X8_waterAt (S : ST) (x1 : Int32) (x2 : Int32) : Option Int32 := (rI S 0 31 (6 * x1)).bind fun v1 => (rI S 0 31 ((6 * x1) + 3)).bind fun v2 => (rI S 0 33 2).bind fun v3 => (dv (v2 * v3) 10).bind fun v4 => (f_X8_tideAt S x2).bind fun v5 => (rI S 0 33 1).bind fun v6 => some (((v1 + v4) + v5) - (2 * v6))
set_option maxRecDepth 100000 in
set_option maxHeartbeats 4000000 in
theorem k_X8_waterAt (l : Launch) (G : GT) (S : ST) (x1 : Int32) (x2 : Int32) (r : Int32) (hf : f_X8_waterAt S x1 x2 = some r) : MI l yX8_waterAt cX8_waterAt 3 (some .int) 2 [.ref (ad G 30), .int x1, .int x2] G S r S := by
  rw [f_X8_waterAt] at hf
  refine mkI (own := RX8) (by decide +kernel) rfl rfl (Nat.le_of_ble_eq_true rfl) (fun p e s m args below meth c Q ls hC hP hS hl hQ => ?_)
  have hl : lv_has ls 3 [(0, .ref (ad G 30)), (1, .int x1), (2, .int x2)] := hl
  obtain ⟨hx, hb, hml, hown, hts⟩ := id hC.1
  refine lv_aload_n hx hb dX8_waterAt_0 rfl (lv_at hl 0 rfl) ?_
  refine gFr hC hP (j := 1) sg_30 vc_8 iT8 (by decide) rfl tb_4_72 dX8_waterAt_1 ?_
  refine lv_bipush (v := 6) hx hb dX8_waterAt_4 (by decide) ?_
  refine lv_iload_n hx hb dX8_waterAt_6 rfl (lv_at hl 1 rfl) ?_
  refine lv_imul hx hb dX8_waterAt_7 ?_
  obtain ⟨v1, hv, hf⟩ := ob_some hf
  refine gIa hC hP hv dX8_waterAt_8 ?_
  refine lv_aload_n hx hb dX8_waterAt_9 rfl (lv_at hl 0 rfl) ?_
  refine gFr hC hP (j := 1) sg_30 vc_8 iT8 (by decide) rfl tb_4_72 dX8_waterAt_10 ?_
  refine lv_bipush (v := 6) hx hb dX8_waterAt_13 (by decide) ?_
  refine lv_iload_n hx hb dX8_waterAt_15 rfl (lv_at hl 1 rfl) ?_
  refine lv_imul hx hb dX8_waterAt_16 ?_
  refine lv_iconst (v := 3) hx hb dX8_waterAt_17 (by decide) ?_
  refine lv_iadd hx hb dX8_waterAt_18 ?_
  obtain ⟨v2, hv, hf⟩ := ob_some hf
  refine gIa hC hP hv dX8_waterAt_19 ?_
  refine lv_aload_n hx hb dX8_waterAt_20 rfl (lv_at hl 0 rfl) ?_
  refine gFr hC hP (j := 3) sg_30 vc_8 iT8 (by decide) rfl tb_4_74 dX8_waterAt_21 ?_
  refine lv_iconst (v := 2) hx hb dX8_waterAt_24 (by decide) ?_
  obtain ⟨v3, hv, hf⟩ := ob_some hf
  refine gIa hC hP hv dX8_waterAt_25 ?_
  refine lv_imul hx hb dX8_waterAt_26 ?_
  refine lv_bipush (v := 10) hx hb dX8_waterAt_27 (by decide) ?_
  obtain ⟨v4, hv, hf⟩ := ob_some hf
  refine xDv hC hv dX8_waterAt_29 ?_
  refine lv_iadd hx hb dX8_waterAt_30 ?_
  refine lv_aload_n hx hb dX8_waterAt_31 rfl (lv_at hl 0 rfl) ?_
  refine lv_iload_n hx hb dX8_waterAt_32 rfl (lv_at hl 2 rfl) ?_
  obtain ⟨v5, hv, hf⟩ := ob_some hf
  refine cI hS (runV hC hP hS (As := [.int x2]) (rest := [.int (v1 + v4)]) (k_X8_tideAt l G S x2 _ hv) vy_X8_tideAt sg_30 vc_8 tb_5_29 tb_5_31 ts_35 ⟨Nat.le_of_ble_eq_true rfl, Nat.le_of_ble_eq_true rfl⟩ rfl hl.1 rfl (Nat.le_of_ble_eq_true rfl) dX8_waterAt_33) (fun H locs hP hS => ?_)
  refine lv_iadd hx hb dX8_waterAt_36 ?_
  refine lv_iconst (v := 2) hx hb dX8_waterAt_37 (by decide) ?_
  refine lv_aload_n hx hb dX8_waterAt_38 rfl (lv_at hl 0 rfl) ?_
  refine gFr hC hP (j := 3) sg_30 vc_8 iT8 (by decide) rfl tb_4_74 dX8_waterAt_39 ?_
  refine lv_iconst (v := 1) hx hb dX8_waterAt_42 (by decide) ?_
  obtain ⟨v6, hv, hf⟩ := ob_some hf
  refine gIa hC hP hv dX8_waterAt_43 ?_
  refine lv_imul hx hb dX8_waterAt_44 ?_
  refine lv_isub hx hb dX8_waterAt_45 ?_
  exact retI hQ hf hP hS dX8_waterAt_46
def f_X8_water (S : ST) (x1 : Int32) (x2 : Int32) : Option Int32 := (f_X8_isMile S x1).bind fun v1 => if v1 = 0 then (some (-100001)) else ((f_X8_isMinute x2).bind fun v2 => if v2 = 0 then (some (-100001)) else ((f_X8_waterAt S x1 x2).bind fun v3 => some v3))
set_option maxRecDepth 100000 in
set_option maxHeartbeats 4000000 in
theorem k_X8_water (l : Launch) (G : GT) (S : ST) (x1 : Int32) (x2 : Int32) (r : Int32) (hf : f_X8_water S x1 x2 = some r) : MI l yX8_water cX8_water 3 (some .int) 3 [.ref (ad G 30), .int x1, .int x2] G S r S := by
  rw [f_X8_water] at hf
  refine mkI (own := RX8) (by decide +kernel) rfl rfl (Nat.le_of_ble_eq_true rfl) (fun p e s m args below meth c Q ls hC hP hS hl hQ => ?_)
  have hl : lv_has ls 3 [(0, .ref (ad G 30)), (1, .int x1), (2, .int x2)] := hl
  obtain ⟨hx, hb, hml, hown, hts⟩ := id hC.1
  refine lv_aload_n hx hb dX8_water_0 rfl (lv_at hl 0 rfl) ?_
  refine lv_iload_n hx hb dX8_water_1 rfl (lv_at hl 1 rfl) ?_
  obtain ⟨v1, hv, hf⟩ := ob_some hf
  refine cI hS (runV hC hP hS (As := [.int x1]) (rest := []) (k_X8_isMile l G S x1 _ hv) vy_X8_isMile sg_30 vc_8 tb_4_184 tb_4_186 ts_29 ⟨Nat.le_of_ble_eq_true rfl, Nat.le_of_ble_eq_true rfl⟩ rfl hl.1 rfl (Nat.le_of_ble_eq_true rfl) dX8_water_2) (fun H locs hP hS => ?_)
  refine lv_if_eq (tgt := 24) hx hb dX8_water_5 (by decide) (fun hc => ?_) (fun hc => ?_)
  · rw [if_pos hc] at hf
    refine lv_ldc hx hb hown (hts _ tb_5_41) dX8_water_24 ?_
    exact retI hQ hf hP hS dX8_water_26
  · rw [if_neg hc] at hf
    refine lv_iload_n hx hb dX8_water_8 rfl (lv_at hl 2 rfl) ?_
    obtain ⟨v2, hv, hf⟩ := ob_some hf
    refine cI hS (runS hC hP hS (As := [.int x2]) (rest := []) (k_X8_isMinute l G S x2 _ hv) vy_X8_isMinute tb_5_25 tb_5_26 ⟨Nat.le_of_ble_eq_true rfl, Nat.le_of_ble_eq_true rfl⟩ rfl hl.1 rfl (Nat.le_of_ble_eq_true rfl) dX8_water_9) (fun H locs hP hS => ?_)
    refine lv_if_eq (tgt := 24) hx hb dX8_water_12 (by decide) (fun hc => ?_) (fun hc => ?_)
    · rw [if_pos hc] at hf
      refine lv_ldc hx hb hown (hts _ tb_5_41) dX8_water_24 ?_
      exact retI hQ hf hP hS dX8_water_26
    · rw [if_neg hc] at hf
      refine lv_aload_n hx hb dX8_water_15 rfl (lv_at hl 0 rfl) ?_
      refine lv_iload_n hx hb dX8_water_16 rfl (lv_at hl 1 rfl) ?_
      refine lv_iload_n hx hb dX8_water_17 rfl (lv_at hl 2 rfl) ?_
      obtain ⟨v3, hv, hf⟩ := ob_some hf
      refine cI hS (runV hC hP hS (As := [.int x1, .int x2]) (rest := []) (k_X8_waterAt l G S x1 x2 _ hv) vy_X8_waterAt sg_30 vc_8 tb_5_37 tb_5_39 ts_36 ⟨Nat.le_of_ble_eq_true rfl, Nat.le_of_ble_eq_true rfl⟩ rfl hl.1 rfl (Nat.le_of_ble_eq_true rfl) dX8_water_18) (fun H locs hP hS => ?_)
      refine lv_goto (tgt := 26) hx hb dX8_water_21 (by decide) ?_
      exact retI hQ hf hP hS dX8_water_26
def f_X8_isShip (S : ST) (x1 : Int32) : Option Int32 := (f_X8_in (x1.toInt64) 0 (((S.1 30 4) - 1).toInt64)).bind fun v1 => (bz v1).bind fun v2 => some v2
set_option maxRecDepth 100000 in
set_option maxHeartbeats 4000000 in
theorem k_X8_isShip (l : Launch) (G : GT) (S : ST) (x1 : Int32) (r : Int32) (hf : f_X8_isShip S x1 = some r) : MI l yX8_isShip cX8_isShip 2 (some .boolean) 2 [.ref (ad G 30), .int x1] G S r S := by
  rw [f_X8_isShip] at hf
  refine mkZ (own := RX8) (by decide +kernel) rfl (Nat.le_of_ble_eq_true rfl) (fun p e s m args below meth c Q ls hC hP hS hl hQ => ?_)
  have hl : lv_has ls 2 [(0, .ref (ad G 30)), (1, .int x1)] := hl
  obtain ⟨hx, hb, hml, hown, hts⟩ := id hC.1
  refine lv_iload_n hx hb dX8_isShip_0 rfl (lv_at hl 1 rfl) ?_
  refine lv_i2l (v := x1.toInt64) hx hb dX8_isShip_1 rfl ?_
  refine lv_lconst (v := 0) hx hb dX8_isShip_2 (by decide) ?_
  refine lv_aload_n hx hb dX8_isShip_3 rfl (lv_at hl 0 rfl) ?_
  refine gFi hC hP (j := 4) sg_30 vc_8 iT8 (by decide) rfl tb_4_75 dX8_isShip_4 ?_
  refine lv_iconst (v := 1) hx hb dX8_isShip_7 (by decide) ?_
  refine lv_isub hx hb dX8_isShip_8 ?_
  refine lv_i2l (v := ((S.1 30 4) - 1).toInt64) hx hb dX8_isShip_9 rfl ?_
  obtain ⟨v1, hv, hf⟩ := ob_some hf
  refine cI hS (runS hC hP hS (As := [.long (x1.toInt64), .long 0, .long (((S.1 30 4) - 1).toInt64)]) (rest := []) (k_X8_in l G S (x1.toInt64) 0 (((S.1 30 4) - 1).toInt64) _ hv) vy_X8_in tb_4_169 tb_4_170 ⟨Nat.le_of_ble_eq_true rfl, Nat.le_of_ble_eq_true rfl⟩ rfl hl.1 rfl (Nat.le_of_ble_eq_true rfl) dX8_isShip_10) (fun H locs hP hS => ?_)
  obtain ⟨v2, hv, hf⟩ := ob_some hf
  refine bzW hv ?_
  exact retZ hQ (bz_n hv) hf hP hS dX8_isShip_13
def f_X8_sinksBy_10 (S : ST)  (x1 : Int32) (x2 : Int32) (x4 : Int32) (y0 : Int32) : Option Int32 := (rI S 0 34 ((3 * x1) + 1)).bind fun v1 => (rI S 0 34 (3 * x1)).bind fun v2 => (rI S 0 31 ((6 * x2) + 1)).bind fun v3 => (dv (((x4 * x4) * v1) * v2) ((3 * v3) * y0)).bind fun v4 => some v4
set_option maxRecDepth 100000 in
set_option maxHeartbeats 4000000 in
theorem w_X8_sinksBy_10 {r : Int32} {S : ST} (hC : Cx p m c s args cX8_sinksBy 6 RX8 G) (hQ : KI p l e (rmH 1) s m args below meth c Q cX8_sinksBy G r S) (x1 : Int32) (x2 : Int32) (x4 : Int32) (y0 : Int32) (H : Heap) (locs : List Loc) (ls : Array Slot) (hP : va_P (gD G) vwCl (cells G S) H) (hS : va_S (gA G) s.heap H locs) (hl : lv_has ls 6 [(0, .ref (ad G 30)), (1, .int x1), (2, .int x2), (4, .int x4)]) (hf : f_X8_sinksBy_10 S x1 x2 x4 y0 = some r) : W p l e (rmH 1) s m args below meth c H locs 0 0 Q (F0 m 10 ls [.int y0]) := by
  obtain ⟨hx, hb, hml, hown, hts⟩ := id hC.1
  rw [f_X8_sinksBy_10] at hf
  refine lv_istore (lv' := [(5, .int y0), (0, .ref (ad G 30)), (1, .int x1), (2, .int x2), (4, .int x4)]) hx hb dX8_sinksBy_10 hl (by decide) rfl (fun ls hl => ?_)
  refine lv_iload hx hb dX8_sinksBy_12 (lv_at hl 4 rfl) ?_
  refine lv_iload hx hb dX8_sinksBy_14 (lv_at hl 4 rfl) ?_
  refine lv_imul hx hb dX8_sinksBy_16 ?_
  refine lv_aload_n hx hb dX8_sinksBy_17 rfl (lv_at hl 1 rfl) ?_
  refine gFr hC hP (j := 5) sg_30 vc_8 iT8 (by decide) rfl tb_4_76 dX8_sinksBy_18 ?_
  refine lv_iconst (v := 3) hx hb dX8_sinksBy_21 (by decide) ?_
  refine lv_iload_n hx hb dX8_sinksBy_22 rfl (lv_at hl 2 rfl) ?_
  refine lv_imul hx hb dX8_sinksBy_23 ?_
  refine lv_iconst (v := 1) hx hb dX8_sinksBy_24 (by decide) ?_
  refine lv_iadd hx hb dX8_sinksBy_25 ?_
  obtain ⟨v1, hv, hf⟩ := ob_some hf
  refine gIa hC hP hv dX8_sinksBy_26 ?_
  refine lv_imul hx hb dX8_sinksBy_27 ?_
  refine lv_aload_n hx hb dX8_sinksBy_28 rfl (lv_at hl 1 rfl) ?_
  refine gFr hC hP (j := 5) sg_30 vc_8 iT8 (by decide) rfl tb_4_76 dX8_sinksBy_29 ?_
  refine lv_iconst (v := 3) hx hb dX8_sinksBy_32 (by decide) ?_
  refine lv_iload_n hx hb dX8_sinksBy_33 rfl (lv_at hl 2 rfl) ?_
  refine lv_imul hx hb dX8_sinksBy_34 ?_
  obtain ⟨v2, hv, hf⟩ := ob_some hf
  refine gIa hC hP hv dX8_sinksBy_35 ?_
  refine lv_imul hx hb dX8_sinksBy_36 ?_
  refine lv_iconst (v := 3) hx hb dX8_sinksBy_37 (by decide) ?_
  refine lv_aload_n hx hb dX8_sinksBy_38 rfl (lv_at hl 1 rfl) ?_
  refine gFr hC hP (j := 1) sg_30 vc_8 iT8 (by decide) rfl tb_4_72 dX8_sinksBy_39 ?_
  refine lv_bipush (v := 6) hx hb dX8_sinksBy_42 (by decide) ?_
  refine lv_iload_n hx hb dX8_sinksBy_44 rfl (lv_at hl 3 rfl) ?_
  refine lv_imul hx hb dX8_sinksBy_45 ?_
  refine lv_iconst (v := 1) hx hb dX8_sinksBy_46 (by decide) ?_
  refine lv_iadd hx hb dX8_sinksBy_47 ?_
  obtain ⟨v3, hv, hf⟩ := ob_some hf
  refine gIa hC hP hv dX8_sinksBy_48 ?_
  refine lv_imul hx hb dX8_sinksBy_49 ?_
  refine lv_iload hx hb dX8_sinksBy_50 (lv_at hl 0 rfl) ?_
  refine lv_imul hx hb dX8_sinksBy_52 ?_
  obtain ⟨v4, hv, hf⟩ := ob_some hf
  refine xDv hC hv dX8_sinksBy_53 ?_
  exact retI hQ hf hP hS dX8_sinksBy_54
def f_X8_sinksBy (S : ST) (x1 : Int32) (x2 : Int32) (x3 : Int32) (x4 : Int32) : Option Int32 := if 1 ≤ x3 then (f_X8_sinksBy_10 S x1 x2 x4 x3) else (f_X8_sinksBy_10 S x1 x2 x4 1)
set_option maxRecDepth 100000 in
set_option maxHeartbeats 4000000 in
theorem k_X8_sinksBy (l : Launch) (G : GT) (S : ST) (x1 : Int32) (x2 : Int32) (x3 : Int32) (x4 : Int32) (r : Int32) (hf : f_X8_sinksBy S x1 x2 x3 x4 = some r) : MI l yX8_sinksBy cX8_sinksBy 6 (some .int) 1 [.ref (ad G 30), .int x1, .int x2, .int x3, .int x4] G S r S := by
  rw [f_X8_sinksBy] at hf
  refine mkI (own := RX8) (by decide +kernel) rfl rfl (Nat.le_of_ble_eq_true rfl) (fun p e s m args below meth c Q ls hC hP hS hl hQ => ?_)
  have hl : lv_has ls 6 [(0, .ref (ad G 30)), (1, .int x1), (2, .int x2), (3, .int x3), (4, .int x4)] := hl
  obtain ⟨hx, hb, hml, hown, hts⟩ := id hC.1
  refine lv_iload_n hx hb dX8_sinksBy_0 rfl (lv_at hl 3 rfl) ?_
  refine lv_iconst (v := 1) hx hb dX8_sinksBy_1 (by decide) ?_
  refine lv_icmp_ge (tgt := 9) hx hb dX8_sinksBy_2 (by decide) (fun hc => ?_) (fun hc => ?_)
  · rw [if_pos hc] at hf
    refine lv_iload_n hx hb dX8_sinksBy_9 rfl (lv_at hl 3 rfl) ?_
    exact w_X8_sinksBy_10 hC hQ  _ _ _ _ _ _ _ hP hS (lv_sub hl [0, 1, 2, 4] rfl) hf
  · rw [if_neg hc] at hf
    refine lv_iconst (v := 1) hx hb dX8_sinksBy_5 (by decide) ?_
    refine lv_goto (tgt := 10) hx hb dX8_sinksBy_6 (by decide) ?_
    exact w_X8_sinksBy_10 hC hQ  _ _ _ _ _ _ _ hP hS (lv_sub hl [0, 1, 2, 4] rfl) hf
def f_X8_sinks (S : ST) (x1 : Int32) (x2 : Int32) (x3 : Int32) (x4 : Int32) : Option Int32 := (f_X8_isShip S x1).bind fun v1 => if v1 = 0 then (some (-1)) else ((f_X8_isMile S x2).bind fun v2 => if v2 = 0 then (some (-1)) else ((f_X8_isMinute x3).bind fun v3 => if v3 = 0 then (some (-1)) else ((f_X8_isPace x4).bind fun v4 => if v4 = 0 then (some (-1)) else ((f_X8_waterAt S x2 x3).bind fun v5 => (f_X8_sinksBy S x1 x2 v5 x4).bind fun v6 => some v6))))
set_option maxRecDepth 100000 in
set_option maxHeartbeats 4000000 in
theorem k_X8_sinks (l : Launch) (G : GT) (S : ST) (x1 : Int32) (x2 : Int32) (x3 : Int32) (x4 : Int32) (r : Int32) (hf : f_X8_sinks S x1 x2 x3 x4 = some r) : MI l yX8_sinks cX8_sinks 5 (some .int) 3 [.ref (ad G 30), .int x1, .int x2, .int x3, .int x4] G S r S := by
  rw [f_X8_sinks] at hf
  refine mkI (own := RX8) (by decide +kernel) rfl rfl (Nat.le_of_ble_eq_true rfl) (fun p e s m args below meth c Q ls hC hP hS hl hQ => ?_)
  have hl : lv_has ls 5 [(0, .ref (ad G 30)), (1, .int x1), (2, .int x2), (3, .int x3), (4, .int x4)] := hl
  obtain ⟨hx, hb, hml, hown, hts⟩ := id hC.1
  refine lv_aload_n hx hb dX8_sinks_0 rfl (lv_at hl 0 rfl) ?_
  refine lv_iload_n hx hb dX8_sinks_1 rfl (lv_at hl 1 rfl) ?_
  obtain ⟨v1, hv, hf⟩ := ob_some hf
  refine cI hS (runV hC hP hS (As := [.int x1]) (rest := []) (k_X8_isShip l G S x1 _ hv) vy_X8_isShip sg_30 vc_8 tb_5_46 tb_5_48 ts_37 ⟨Nat.le_of_ble_eq_true rfl, Nat.le_of_ble_eq_true rfl⟩ rfl hl.1 rfl (Nat.le_of_ble_eq_true rfl) dX8_sinks_2) (fun H locs hP hS => ?_)
  refine lv_if_eq (tgt := 31) hx hb dX8_sinks_5 (by decide) (fun hc => ?_) (fun hc => ?_)
  · rw [if_pos hc] at hf
    refine lv_iconst (v := (-1)) hx hb dX8_sinks_31 (by decide) ?_
    exact retI hQ hf hP hS dX8_sinks_32
  · rw [if_neg hc] at hf
    refine lv_aload_n hx hb dX8_sinks_8 rfl (lv_at hl 0 rfl) ?_
    refine lv_iload_n hx hb dX8_sinks_9 rfl (lv_at hl 2 rfl) ?_
    obtain ⟨v2, hv, hf⟩ := ob_some hf
    refine cI hS (runV hC hP hS (As := [.int x2]) (rest := []) (k_X8_isMile l G S x2 _ hv) vy_X8_isMile sg_30 vc_8 tb_4_184 tb_4_186 ts_29 ⟨Nat.le_of_ble_eq_true rfl, Nat.le_of_ble_eq_true rfl⟩ rfl hl.1 rfl (Nat.le_of_ble_eq_true rfl) dX8_sinks_10) (fun H locs hP hS => ?_)
    refine lv_if_eq (tgt := 31) hx hb dX8_sinks_13 (by decide) (fun hc => ?_) (fun hc => ?_)
    · rw [if_pos hc] at hf
      refine lv_iconst (v := (-1)) hx hb dX8_sinks_31 (by decide) ?_
      exact retI hQ hf hP hS dX8_sinks_32
    · rw [if_neg hc] at hf
      refine lv_iload_n hx hb dX8_sinks_16 rfl (lv_at hl 3 rfl) ?_
      obtain ⟨v3, hv, hf⟩ := ob_some hf
      refine cI hS (runS hC hP hS (As := [.int x3]) (rest := []) (k_X8_isMinute l G S x3 _ hv) vy_X8_isMinute tb_5_25 tb_5_26 ⟨Nat.le_of_ble_eq_true rfl, Nat.le_of_ble_eq_true rfl⟩ rfl hl.1 rfl (Nat.le_of_ble_eq_true rfl) dX8_sinks_17) (fun H locs hP hS => ?_)
      refine lv_if_eq (tgt := 31) hx hb dX8_sinks_20 (by decide) (fun hc => ?_) (fun hc => ?_)
      · rw [if_pos hc] at hf
        refine lv_iconst (v := (-1)) hx hb dX8_sinks_31 (by decide) ?_
        exact retI hQ hf hP hS dX8_sinks_32
      · rw [if_neg hc] at hf
        refine lv_iload hx hb dX8_sinks_23 (lv_at hl 4 rfl) ?_
        obtain ⟨v4, hv, hf⟩ := ob_some hf
        refine cI hS (runS hC hP hS (As := [.int x4]) (rest := []) (k_X8_isPace l G S x4 _ hv) vy_X8_isPace tb_4_215 tb_4_216 ⟨Nat.le_of_ble_eq_true rfl, Nat.le_of_ble_eq_true rfl⟩ rfl hl.1 rfl (Nat.le_of_ble_eq_true rfl) dX8_sinks_25) (fun H locs hP hS => ?_)
        refine lv_if_ne (tgt := 33) hx hb dX8_sinks_28 (by decide) (fun hc => ?_) (fun hc => ?_)
        · rw [if_neg hc] at hf
          refine lv_aload_n hx hb dX8_sinks_33 rfl (lv_at hl 0 rfl) ?_
          refine lv_iload_n hx hb dX8_sinks_34 rfl (lv_at hl 1 rfl) ?_
          refine lv_iload_n hx hb dX8_sinks_35 rfl (lv_at hl 2 rfl) ?_
          refine lv_aload_n hx hb dX8_sinks_36 rfl (lv_at hl 0 rfl) ?_
          refine lv_iload_n hx hb dX8_sinks_37 rfl (lv_at hl 2 rfl) ?_
          refine lv_iload_n hx hb dX8_sinks_38 rfl (lv_at hl 3 rfl) ?_
          obtain ⟨v5, hv, hf⟩ := ob_some hf
          refine cI hS (runV hC hP hS (As := [.int x2, .int x3]) (rest := [.int x2, .int x1, .ref (ad G 30)]) (k_X8_waterAt l G S x2 x3 _ hv) vy_X8_waterAt sg_30 vc_8 tb_5_37 tb_5_39 ts_36 ⟨Nat.le_of_ble_eq_true rfl, Nat.le_of_ble_eq_true rfl⟩ rfl hl.1 rfl (Nat.le_of_ble_eq_true rfl) dX8_sinks_39) (fun H locs hP hS => ?_)
          refine lv_iload hx hb dX8_sinks_42 (lv_at hl 4 rfl) ?_
          obtain ⟨v6, hv, hf⟩ := ob_some hf
          refine cI hS (runV hC hP hS (As := [.int x1, .int x2, .int v5, .int x4]) (rest := []) (k_X8_sinksBy l G S x1 x2 v5 x4 _ hv) vy_X8_sinksBy sg_30 vc_8 tb_5_50 tb_5_52 ts_38 ⟨Nat.le_of_ble_eq_true rfl, Nat.le_of_ble_eq_true rfl⟩ rfl hl.1 rfl (Nat.le_of_ble_eq_true rfl) dX8_sinks_44) (fun H locs hP hS => ?_)
          exact retI hQ hf hP hS dX8_sinks_47
        · rw [if_pos hc] at hf
          refine lv_iconst (v := (-1)) hx hb dX8_sinks_31 (by decide) ?_
          exact retI hQ hf hP hS dX8_sinks_32
end
