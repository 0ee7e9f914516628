section
variable {p : Program} {l : Launch} {e : Env} {s : State} {m : MethodId} {args : Array Value} {below : List Frame} {meth : Method} {c : Code} {Q : State → Prop} {G : GT}

def f_X8_turns_100  : Nat → ST → Int32 → Int32 → Option (Int32 × ST)
  | 0, _, _, _ => none
  | n + 1, S, x5, x6 => if x6 ≤ x5 then (some (1, S)) else ((rI S 0 43 x5).bind fun v1 => (rI S 0 43 x6).bind fun v2 => (wI S 43 x5 v2).bind fun S3 => (wI S3 43 x6 v1).bind fun S4 => f_X8_turns_100 n S4 (x5 + 1) (x6 + (-1)))
set_option maxRecDepth 100000 in
set_option maxHeartbeats 4000000 in
theorem w_X8_turns_100 {r : Int32} {S' : ST} (hC : Cx p m c s args cX8_turns 7 RX8 G) (hQ : KZ p l e (rmH 1) s m args below meth c Q cX8_turns G r S') : ∀ (n : Nat) (S : ST) (x5 : Int32) (x6 : Int32) (H : Heap) (locs : List Loc) (ls : Array Slot), va_P (gD G) vwCl (cells G S) H → va_S (gA G) s.heap H locs → lv_has ls 7 [(0, .ref (ad G 30)), (5, .int x5), (6, .int x6)] → f_X8_turns_100 n S x5 x6 = some (r, S') → W p l e (rmH 1) s m args below meth c H locs 0 0 Q (F0 m 100 ls []) := by
  obtain ⟨hx, hb, hml, hown, hts⟩ := id hC.1
  intro n
  induction n with
  | zero => intro S x5 x6 H locs ls hP hS hl hf; rw [f_X8_turns_100] at hf; cases hf
  | succ n ih =>
    intro S x5 x6 H locs ls hP hS hl hf
    rw [f_X8_turns_100] at hf
    refine lv_iload hx hb dX8_turns_100 (lv_at hl 1 rfl) ?_
    refine lv_iload hx hb dX8_turns_102 (lv_at hl 2 rfl) ?_
    refine lv_icmp_ge (tgt := 148) hx hb dX8_turns_104 (by decide) (fun hc => ?_) (fun hc => ?_)
    · rw [if_pos hc] at hf
      refine lv_iconst (v := 1) hx hb dX8_turns_148 (by decide) ?_
      exact retZw hQ rfl hf hP hS dX8_turns_149
    · rw [if_neg hc] at hf
      refine lv_aload_n hx hb dX8_turns_107 rfl (lv_at hl 0 rfl) ?_
      refine gFr hC hP (j := 21) sg_30 vc_8 iT8 (by decide) rfl tb_4_92 dX8_turns_108 ?_
      refine lv_iload hx hb dX8_turns_111 (lv_at hl 1 rfl) ?_
      obtain ⟨v1, hv, hf⟩ := ob_some hf
      refine gIa hC hP hv dX8_turns_113 ?_
      refine lv_istore (lv' := [(4, .int v1), (0, .ref (ad G 30)), (5, .int x5), (6, .int x6)]) hx hb dX8_turns_114 hl (by decide) rfl (fun ls hl => ?_)
      refine lv_aload_n hx hb dX8_turns_116 rfl (lv_at hl 1 rfl) ?_
      refine gFr hC hP (j := 21) sg_30 vc_8 iT8 (by decide) rfl tb_4_92 dX8_turns_117 ?_
      refine lv_iload hx hb dX8_turns_120 (lv_at hl 2 rfl) ?_
      refine lv_aload_n hx hb dX8_turns_122 rfl (lv_at hl 1 rfl) ?_
      refine gFr hC hP (j := 21) sg_30 vc_8 iT8 (by decide) rfl tb_4_92 dX8_turns_123 ?_
      refine lv_iload hx hb dX8_turns_126 (lv_at hl 3 rfl) ?_
      obtain ⟨v2, hv, hf⟩ := ob_some hf
      refine gIa hC hP hv dX8_turns_128 ?_
      obtain ⟨S3, hv, hf⟩ := ob_some hf
      refine sIa hC hP hS hv dX8_turns_129 (fun H locs hP hS => ?_)
      refine lv_aload_n hx hb dX8_turns_130 rfl (lv_at hl 1 rfl) ?_
      refine gFr hC hP (j := 21) sg_30 vc_8 iT8 (by decide) rfl tb_4_92 dX8_turns_131 ?_
      refine lv_iload hx hb dX8_turns_134 (lv_at hl 3 rfl) ?_
      refine lv_iload hx hb dX8_turns_136 (lv_at hl 0 rfl) ?_
      obtain ⟨S4, hv, hf⟩ := ob_some hf
      refine sIa hC hP hS hv dX8_turns_138 (fun H locs hP hS => ?_)
      refine lv_iinc (v := x5 + 1) (lv' := [(5, .int (x5 + 1)), (4, .int v1), (0, .ref (ad G 30)), (6, .int x6)]) hx hb dX8_turns_139 hl (k := 2) rfl rfl (by decide) rfl (fun ls hl => ?_)
      refine lv_iinc (v := x6 + (-1)) (lv' := [(6, .int (x6 + (-1))), (5, .int (x5 + 1)), (4, .int v1), (0, .ref (ad G 30))]) hx hb dX8_turns_142 hl (k := 3) rfl rfl (by decide) rfl (fun ls hl => ?_)
      refine lv_goto (tgt := 100) hx hb dX8_turns_145 (by decide) ?_
      exact ih _ _ _ _ _ _ hP hS (lv_sub hl [3, 1, 0] rfl) hf
def f_X8_turns_41  : Nat → ST → Int32 → Int32 → Int32 → Option (Int32 × ST)
  | 0, _, _, _, _ => none
  | n + 1, S, x1, x2, x3 => (rI S 0 43 x3).bind fun v1 => (rI S 0 43 x2).bind fun v2 => if v2 ≤ v1 then ((rI S 0 43 x2).bind fun v3 => (rI S 0 43 x3).bind fun v4 => (wI S 43 x2 v4).bind fun S5 => (wI S5 43 x3 v3).bind fun S6 => f_X8_turns_100 FU S6 (x2 + 1) (x1 - 1)) else (f_X8_turns_41 n S x1 x2 (x3 + (-1)))
set_option maxRecDepth 100000 in
set_option maxHeartbeats 4000000 in
theorem w_X8_turns_41 {r : Int32} {S' : ST} (hC : Cx p m c s args cX8_turns 7 RX8 G) (hQ : KZ p l e (rmH 1) s m args below meth c Q cX8_turns G r S') : ∀ (n : Nat) (S : ST) (x1 : Int32) (x2 : Int32) (x3 : Int32) (H : Heap) (locs : List Loc) (ls : Array Slot), va_P (gD G) vwCl (cells G S) H → va_S (gA G) s.heap H locs → lv_has ls 7 [(0, .ref (ad G 30)), (1, .int x1), (2, .int x2), (3, .int x3)] → f_X8_turns_41 n S x1 x2 x3 = some (r, S') → W p l e (rmH 1) s m args below meth c H locs 0 0 Q (F0 m 41 ls []) := by
  obtain ⟨hx, hb, hml, hown, hts⟩ := id hC.1
  intro n
  induction n with
  | zero => intro S x1 x2 x3 H locs ls hP hS hl hf; rw [f_X8_turns_41] at hf; cases hf
  | succ n ih =>
    intro S x1 x2 x3 H locs ls hP hS hl hf
    rw [f_X8_turns_41] at hf
    refine lv_aload_n hx hb dX8_turns_41 rfl (lv_at hl 0 rfl) ?_
    refine gFr hC hP (j := 21) sg_30 vc_8 iT8 (by decide) rfl tb_4_92 dX8_turns_42 ?_
    refine lv_iload_n hx hb dX8_turns_45 rfl (lv_at hl 3 rfl) ?_
    obtain ⟨v1, hv, hf⟩ := ob_some hf
    refine gIa hC hP hv dX8_turns_46 ?_
    refine lv_aload_n hx hb dX8_turns_47 rfl (lv_at hl 0 rfl) ?_
    refine gFr hC hP (j := 21) sg_30 vc_8 iT8 (by decide) rfl tb_4_92 dX8_turns_48 ?_
    refine lv_iload_n hx hb dX8_turns_51 rfl (lv_at hl 2 rfl) ?_
    obtain ⟨v2, hv, hf⟩ := ob_some hf
    refine gIa hC hP hv dX8_turns_52 ?_
    refine lv_icmp_ge (tgt := 62) hx hb dX8_turns_53 (by decide) (fun hc => ?_) (fun hc => ?_)
    · rw [if_pos hc] at hf
      refine lv_aload_n hx hb dX8_turns_62 rfl (lv_at hl 0 rfl) ?_
      refine gFr hC hP (j := 21) sg_30 vc_8 iT8 (by decide) rfl tb_4_92 dX8_turns_63 ?_
      refine lv_iload_n hx hb dX8_turns_66 rfl (lv_at hl 2 rfl) ?_
      obtain ⟨v3, hv, hf⟩ := ob_some hf
      refine gIa hC hP hv dX8_turns_67 ?_
      refine lv_istore (lv' := [(4, .int v3), (0, .ref (ad G 30)), (1, .int x1), (2, .int x2), (3, .int x3)]) hx hb dX8_turns_68 hl (by decide) rfl (fun ls hl => ?_)
      refine lv_aload_n hx hb dX8_turns_70 rfl (lv_at hl 1 rfl) ?_
      refine gFr hC hP (j := 21) sg_30 vc_8 iT8 (by decide) rfl tb_4_92 dX8_turns_71 ?_
      refine lv_iload_n hx hb dX8_turns_74 rfl (lv_at hl 3 rfl) ?_
      refine lv_aload_n hx hb dX8_turns_75 rfl (lv_at hl 1 rfl) ?_
      refine gFr hC hP (j := 21) sg_30 vc_8 iT8 (by decide) rfl tb_4_92 dX8_turns_76 ?_
      refine lv_iload_n hx hb dX8_turns_79 rfl (lv_at hl 4 rfl) ?_
      obtain ⟨v4, hv, hf⟩ := ob_some hf
      refine gIa hC hP hv dX8_turns_80 ?_
      obtain ⟨S5, hv, hf⟩ := ob_some hf
      refine sIa hC hP hS hv dX8_turns_81 (fun H locs hP hS => ?_)
      refine lv_aload_n hx hb dX8_turns_82 rfl (lv_at hl 1 rfl) ?_
      refine gFr hC hP (j := 21) sg_30 vc_8 iT8 (by decide) rfl tb_4_92 dX8_turns_83 ?_
      refine lv_iload_n hx hb dX8_turns_86 rfl (lv_at hl 4 rfl) ?_
      refine lv_iload hx hb dX8_turns_87 (lv_at hl 0 rfl) ?_
      obtain ⟨S6, hv, hf⟩ := ob_some hf
      refine sIa hC hP hS hv dX8_turns_89 (fun H locs hP hS => ?_)
      refine lv_iload_n hx hb dX8_turns_90 rfl (lv_at hl 3 rfl) ?_
      refine lv_iconst (v := 1) hx hb dX8_turns_91 (by decide) ?_
      refine lv_iadd hx hb dX8_turns_92 ?_
      refine lv_istore (lv' := [(5, .int (x2 + 1)), (4, .int v3), (0, .ref (ad G 30)), (1, .int x1), (2, .int x2), (3, .int x3)]) hx hb dX8_turns_93 hl (by decide) rfl (fun ls hl => ?_)
      refine lv_iload_n hx hb dX8_turns_95 rfl (lv_at hl 3 rfl) ?_
      refine lv_iconst (v := 1) hx hb dX8_turns_96 (by decide) ?_
      refine lv_isub hx hb dX8_turns_97 ?_
      refine lv_istore (lv' := [(6, .int (x1 - 1)), (5, .int (x2 + 1)), (4, .int v3), (0, .ref (ad G 30)), (1, .int x1), (2, .int x2), (3, .int x3)]) hx hb dX8_turns_98 hl (by decide) rfl (fun ls hl => ?_)
      exact w_X8_turns_100 hC hQ _ _ _ _ _ _ _ hP hS (lv_sub hl [3, 1, 0] rfl) hf
    · rw [if_neg hc] at hf
      refine lv_iinc (v := x3 + (-1)) (lv' := [(3, .int (x3 + (-1))), (0, .ref (ad G 30)), (1, .int x1), (2, .int x2)]) hx hb dX8_turns_56 hl (k := 3) rfl rfl (by decide) rfl (fun ls hl => ?_)
      refine lv_goto (tgt := 41) hx hb dX8_turns_59 (by decide) ?_
      exact ih _ _ _ _ _ _ _ hP hS (lv_sub hl [1, 2, 3, 0] rfl) hf
def f_X8_turns_31  (S : ST) (x1 : Int32) (x2 : Int32) : Option (Int32 × ST) := if 0 ≤ x2 then (f_X8_turns_41 FU S x1 x2 (x1 - 1)) else (some (0, S))
set_option maxRecDepth 100000 in
set_option maxHeartbeats 4000000 in
theorem w_X8_turns_31 {r : Int32} {S' : ST} (hC : Cx p m c s args cX8_turns 7 RX8 G) (hQ : KZ p l e (rmH 1) s m args below meth c Q cX8_turns G r S') (S : ST) (x1 : Int32) (x2 : Int32) (H : Heap) (locs : List Loc) (ls : Array Slot) (hP : va_P (gD G) vwCl (cells G S) H) (hS : va_S (gA G) s.heap H locs) (hl : lv_has ls 7 [(0, .ref (ad G 30)), (1, .int x1), (2, .int x2)]) (hf : f_X8_turns_31 S x1 x2 = some (r, S')) : W p l e (rmH 1) s m args below meth c H locs 0 0 Q (F0 m 31 ls []) := by
  obtain ⟨hx, hb, hml, hown, hts⟩ := id hC.1
  rw [f_X8_turns_31] at hf
  refine lv_iload_n hx hb dX8_turns_31 rfl (lv_at hl 2 rfl) ?_
  refine lv_if_ge (tgt := 37) hx hb dX8_turns_32 (by decide) (fun hc => ?_) (fun hc => ?_)
  · rw [if_pos hc] at hf
    refine lv_iload_n hx hb dX8_turns_37 rfl (lv_at hl 1 rfl) ?_
    refine lv_iconst (v := 1) hx hb dX8_turns_38 (by decide) ?_
    refine lv_isub hx hb dX8_turns_39 ?_
    refine lv_istore_n (lv' := [(3, .int (x1 - 1)), (0, .ref (ad G 30)), (1, .int x1), (2, .int x2)]) hx hb dX8_turns_40 rfl hl (by decide) rfl (fun ls hl => ?_)
    exact w_X8_turns_41 hC hQ _ _ _ _ _ _ _ _ hP hS (lv_sub hl [1, 2, 3, 0] rfl) hf
  · rw [if_neg hc] at hf
    refine lv_iconst (v := 0) hx hb dX8_turns_35 (by decide) ?_
    exact retZw hQ rfl hf hP hS dX8_turns_36
def f_X8_turns_4  : Nat → ST → Int32 → Int32 → Option (Int32 × ST)
  | 0, _, _, _ => none
  | n + 1, S, x1, x2 => if x2 < 0 then (f_X8_turns_31 S x1 x2) else ((rI S 0 43 x2).bind fun v1 => (rI S 0 43 (x2 + 1)).bind fun v2 => if v1 ≤ v2 then (f_X8_turns_31 S x1 x2) else (f_X8_turns_4 n S x1 (x2 + (-1))))
set_option maxRecDepth 100000 in
set_option maxHeartbeats 4000000 in
theorem w_X8_turns_4 {r : Int32} {S' : ST} (hC : Cx p m c s args cX8_turns 7 RX8 G) (hQ : KZ p l e (rmH 1) s m args below meth c Q cX8_turns G r S') : ∀ (n : Nat) (S : ST) (x1 : Int32) (x2 : Int32) (H : Heap) (locs : List Loc) (ls : Array Slot), va_P (gD G) vwCl (cells G S) H → va_S (gA G) s.heap H locs → lv_has ls 7 [(0, .ref (ad G 30)), (1, .int x1), (2, .int x2)] → f_X8_turns_4 n S x1 x2 = some (r, S') → W p l e (rmH 1) s m args below meth c H locs 0 0 Q (F0 m 4 ls []) := by
  obtain ⟨hx, hb, hml, hown, hts⟩ := id hC.1
  intro n
  induction n with
  | zero => intro S x1 x2 H locs ls hP hS hl hf; rw [f_X8_turns_4] at hf; cases hf
  | succ n ih =>
    intro S x1 x2 H locs ls hP hS hl hf
    rw [f_X8_turns_4] at hf
    refine lv_iload_n hx hb dX8_turns_4 rfl (lv_at hl 2 rfl) ?_
    refine lv_if_lt (tgt := 31) hx hb dX8_turns_5 (by decide) (fun hc => ?_) (fun hc => ?_)
    · rw [if_pos hc] at hf
      exact w_X8_turns_31 hC hQ  _ _ _ _ _ _ hP hS (lv_sub hl [0, 1, 2] rfl) hf
    · rw [if_neg hc] at hf
      refine lv_aload_n hx hb dX8_turns_8 rfl (lv_at hl 0 rfl) ?_
      refine gFr hC hP (j := 21) sg_30 vc_8 iT8 (by decide) rfl tb_4_92 dX8_turns_9 ?_
      refine lv_iload_n hx hb dX8_turns_12 rfl (lv_at hl 2 rfl) ?_
      obtain ⟨v1, hv, hf⟩ := ob_some hf
      refine gIa hC hP hv dX8_turns_13 ?_
      refine lv_aload_n hx hb dX8_turns_14 rfl (lv_at hl 0 rfl) ?_
      refine gFr hC hP (j := 21) sg_30 vc_8 iT8 (by decide) rfl tb_4_92 dX8_turns_15 ?_
      refine lv_iload_n hx hb dX8_turns_18 rfl (lv_at hl 2 rfl) ?_
      refine lv_iconst (v := 1) hx hb dX8_turns_19 (by decide) ?_
      refine lv_iadd hx hb dX8_turns_20 ?_
      obtain ⟨v2, hv, hf⟩ := ob_some hf
      refine gIa hC hP hv dX8_turns_21 ?_
      refine lv_icmp_le (tgt := 31) hx hb dX8_turns_22 (by decide) (fun hc => ?_) (fun hc => ?_)
      · rw [if_pos hc] at hf
        exact w_X8_turns_31 hC hQ  _ _ _ _ _ _ hP hS (lv_sub hl [0, 1, 2] rfl) hf
      · rw [if_neg hc] at hf
        refine lv_iinc (v := x2 + (-1)) (lv' := [(2, .int (x2 + (-1))), (0, .ref (ad G 30)), (1, .int x1)]) hx hb dX8_turns_25 hl (k := 2) rfl rfl (by decide) rfl (fun ls hl => ?_)
        refine lv_goto (tgt := 4) hx hb dX8_turns_28 (by decide) ?_
        exact ih _ _ _ _ _ _ hP hS (lv_sub hl [1, 2, 0] rfl) hf
def f_X8_turns (S : ST) (x1 : Int32) : Option (Int32 × ST) := f_X8_turns_4 FU S x1 (x1 - 2)
set_option maxRecDepth 100000 in
set_option maxHeartbeats 4000000 in
theorem k_X8_turns (l : Launch) (G : GT) (S : ST) (x1 : Int32) (r : Int32) (S' : ST) (hf : f_X8_turns S x1 = some (r, S')) : MI l yX8_turns cX8_turns 7 (some .boolean) 1 [.ref (ad G 30), .int x1] G S r S' := by
  rw [f_X8_turns] at hf
  refine mkZ (own := RX8) (by decide +kernel) rfl (Nat.le_of_ble_eq_true rfl) (fun p e s m args below meth c Q ls hC hP hS hl hQ => ?_)
  have hl : lv_has ls 7 [(0, .ref (ad G 30)), (1, .int x1)] := hl
  obtain ⟨hx, hb, hml, hown, hts⟩ := id hC.1
  refine lv_iload_n hx hb dX8_turns_0 rfl (lv_at hl 1 rfl) ?_
  refine lv_iconst (v := 2) hx hb dX8_turns_1 (by decide) ?_
  refine lv_isub hx hb dX8_turns_2 ?_
  refine lv_istore_n (lv' := [(2, .int (x1 - 2)), (0, .ref (ad G 30)), (1, .int x1)]) hx hb dX8_turns_3 rfl hl (by decide) rfl (fun ls hl => ?_)
  exact w_X8_turns_4 hC hQ _ _ _ _ _ _ _ hP hS (lv_sub hl [1, 2, 0] rfl) hf
def f_X8_day_232  (k167 : ST → Int32 → Int32 → Int32 → Int32 → Int32 → Option (Int32 × ST)) (S : ST) (x2 : Int32) (x3 : Int32) (x4 : Int32) (y0 : Int32) : Option (Int32 × ST) := b2 (f_X8_turns S x4) fun v1 S2 => k167 S2 x2 x3 x4 y0 v1
set_option maxRecDepth 100000 in
set_option maxHeartbeats 4000000 in
theorem w_X8_day_232 {r : Int32} {S' : ST} (hC : Cx p m c s args cX8_day 9 RX8 G) (hQ : KI p l e (rmH 4) s m args below meth c Q cX8_day G r S') {k167 : ST → Int32 → Int32 → Int32 → Int32 → Int32 → Option (Int32 × ST)} (hk167 : ∀ (S : ST) (x2 : Int32) (x3 : Int32) (x4 : Int32) (x5 : Int32) (x6 : Int32) (H : Heap) (locs : List Loc) (ls : Array Slot), va_P (gD G) vwCl (cells G S) H → va_S (gA G) s.heap H locs → lv_has ls 9 [(0, .ref (ad G 30)), (2, .int x2), (3, .int x3), (4, .int x4), (5, .int x5), (6, .int x6)] → k167 S x2 x3 x4 x5 x6 = some (r, S') → W p l e (rmH 4) s m args below meth c H locs 0 0 Q (F0 m 167 ls [])) (S : ST) (x2 : Int32) (x3 : Int32) (x4 : Int32) (y0 : Int32) (H : Heap) (locs : List Loc) (ls : Array Slot) (hP : va_P (gD G) vwCl (cells G S) H) (hS : va_S (gA G) s.heap H locs) (hl : lv_has ls 9 [(0, .ref (ad G 30)), (2, .int x2), (3, .int x3), (4, .int x4)]) (hf : f_X8_day_232 k167 S x2 x3 x4 y0 = some (r, S')) : W p l e (rmH 4) s m args below meth c H locs 0 0 Q (F0 m 232 ls [.int y0]) := by
  obtain ⟨hx, hb, hml, hown, hts⟩ := id hC.1
  rw [f_X8_day_232] at hf
  refine lv_istore (lv' := [(5, .int y0), (0, .ref (ad G 30)), (2, .int x2), (3, .int x3), (4, .int x4)]) hx hb dX8_day_232 hl (by decide) rfl (fun ls hl => ?_)
  refine lv_aload_n hx hb dX8_day_234 rfl (lv_at hl 1 rfl) ?_
  refine lv_iload hx hb dX8_day_235 (lv_at hl 4 rfl) ?_
  obtain ⟨v1, S2, hv, hf⟩ := ob_two hf
  refine cI hS (runV hC hP hS (As := [.int x4]) (rest := []) (k_X8_turns l G S x4 _ _ hv) vy_X8_turns sg_30 vc_8 tb_5_141 tb_5_143 ts_46 ⟨Nat.le_of_ble_eq_true rfl, Nat.le_of_ble_eq_true rfl⟩ rfl hl.1 rfl (Nat.le_of_ble_eq_true rfl) dX8_day_237) (fun H locs hP hS => ?_)
  refine lv_istore (lv' := [(6, .int v1), (5, .int y0), (0, .ref (ad G 30)), (2, .int x2), (3, .int x3), (4, .int x4)]) hx hb dX8_day_240 hl (by decide) rfl (fun ls hl => ?_)
  refine lv_goto (tgt := 167) hx hb dX8_day_242 (by decide) ?_
  exact hk167 _ _ _ _ _ _ _ _ _ hP hS (lv_sub hl [2, 3, 4, 5, 1, 0] rfl) hf
def f_X8_day_218  (k167 : ST → Int32 → Int32 → Int32 → Int32 → Int32 → Option (Int32 × ST)) (S : ST) (x2 : Int32) (x3 : Int32) (x4 : Int32) (x5 : Int32) (x7 : Int32) : Option (Int32 × ST) := if x5 ≤ x7 then (f_X8_day_232 k167 S x2 x3 x4 x5) else (f_X8_day_232 k167 S x2 x3 x4 x7)
set_option maxRecDepth 100000 in
set_option maxHeartbeats 4000000 in
theorem w_X8_day_218 {r : Int32} {S' : ST} (hC : Cx p m c s args cX8_day 9 RX8 G) (hQ : KI p l e (rmH 4) s m args below meth c Q cX8_day G r S') {k167 : ST → Int32 → Int32 → Int32 → Int32 → Int32 → Option (Int32 × ST)} (hk167 : ∀ (S : ST) (x2 : Int32) (x3 : Int32) (x4 : Int32) (x5 : Int32) (x6 : Int32) (H : Heap) (locs : List Loc) (ls : Array Slot), va_P (gD G) vwCl (cells G S) H → va_S (gA G) s.heap H locs → lv_has ls 9 [(0, .ref (ad G 30)), (2, .int x2), (3, .int x3), (4, .int x4), (5, .int x5), (6, .int x6)] → k167 S x2 x3 x4 x5 x6 = some (r, S') → W p l e (rmH 4) s m args below meth c H locs 0 0 Q (F0 m 167 ls [])) (S : ST) (x2 : Int32) (x3 : Int32) (x4 : Int32) (x5 : Int32) (x7 : Int32) (H : Heap) (locs : List Loc) (ls : Array Slot) (hP : va_P (gD G) vwCl (cells G S) H) (hS : va_S (gA G) s.heap H locs) (hl : lv_has ls 9 [(0, .ref (ad G 30)), (2, .int x2), (3, .int x3), (4, .int x4), (5, .int x5), (7, .int x7)]) (hf : f_X8_day_218 k167 S x2 x3 x4 x5 x7 = some (r, S')) : W p l e (rmH 4) s m args below meth c H locs 0 0 Q (F0 m 218 ls []) := by
  obtain ⟨hx, hb, hml, hown, hts⟩ := id hC.1
  rw [f_X8_day_218] at hf
  refine lv_iload hx hb dX8_day_218 (lv_at hl 5 rfl) ?_
  refine lv_iload hx hb dX8_day_220 (lv_at hl 4 rfl) ?_
  refine lv_icmp_ge (tgt := 230) hx hb dX8_day_222 (by decide) (fun hc => ?_) (fun hc => ?_)
  · rw [if_pos hc] at hf
    refine lv_iload hx hb dX8_day_230 (lv_at hl 4 rfl) ?_
    exact w_X8_day_232 hC hQ hk167  _ _ _ _ _ _ _ _ hP hS (lv_sub hl [0, 1, 2, 3] rfl) hf
  · rw [if_neg hc] at hf
    refine lv_iload hx hb dX8_day_225 (lv_at hl 5 rfl) ?_
    refine lv_goto (tgt := 232) hx hb dX8_day_227 (by decide) ?_
    exact w_X8_day_232 hC hQ hk167  _ _ _ _ _ _ _ _ hP hS (lv_sub hl [0, 1, 2, 3] rfl) hf
def f_X8_day_184  (k167 : ST → Int32 → Int32 → Int32 → Int32 → Int32 → Option (Int32 × ST)) : Nat → ST → Int32 → Int32 → Int32 → Int32 → Int32 → Int32 → Option (Int32 × ST)
  | 0, _, _, _, _, _, _, _ => none
  | n + 1, S, x2, x3, x4, x5, x7, x8 => if x4 ≤ x8 then (f_X8_day_218 k167 S x2 x3 x4 x5 x7) else (if x5 ≤ x7 then (f_X8_day_218 k167 S x2 x3 x4 x5 x7) else ((rI S 0 43 x8).bind fun v1 => (wI S 44 x8 v1).bind fun S2 => f_X8_day_184 k167 n S2 x2 x3 x4 x5 x7 (x8 + 1)))
set_option maxRecDepth 100000 in
set_option maxHeartbeats 4000000 in
theorem w_X8_day_184 {r : Int32} {S' : ST} (hC : Cx p m c s args cX8_day 9 RX8 G) (hQ : KI p l e (rmH 4) s m args below meth c Q cX8_day G r S') {k167 : ST → Int32 → Int32 → Int32 → Int32 → Int32 → Option (Int32 × ST)} (hk167 : ∀ (S : ST) (x2 : Int32) (x3 : Int32) (x4 : Int32) (x5 : Int32) (x6 : Int32) (H : Heap) (locs : List Loc) (ls : Array Slot), va_P (gD G) vwCl (cells G S) H → va_S (gA G) s.heap H locs → lv_has ls 9 [(0, .ref (ad G 30)), (2, .int x2), (3, .int x3), (4, .int x4), (5, .int x5), (6, .int x6)] → k167 S x2 x3 x4 x5 x6 = some (r, S') → W p l e (rmH 4) s m args below meth c H locs 0 0 Q (F0 m 167 ls [])) : ∀ (n : Nat) (S : ST) (x2 : Int32) (x3 : Int32) (x4 : Int32) (x5 : Int32) (x7 : Int32) (x8 : Int32) (H : Heap) (locs : List Loc) (ls : Array Slot), va_P (gD G) vwCl (cells G S) H → va_S (gA G) s.heap H locs → lv_has ls 9 [(0, .ref (ad G 30)), (2, .int x2), (3, .int x3), (4, .int x4), (5, .int x5), (7, .int x7), (8, .int x8)] → f_X8_day_184 k167 n S x2 x3 x4 x5 x7 x8 = some (r, S') → W p l e (rmH 4) s m args below meth c H locs 0 0 Q (F0 m 184 ls []) := by
  obtain ⟨hx, hb, hml, hown, hts⟩ := id hC.1
  intro n
  induction n with
  | zero => intro S x2 x3 x4 x5 x7 x8 H locs ls hP hS hl hf; rw [f_X8_day_184] at hf; cases hf
  | succ n ih =>
    intro S x2 x3 x4 x5 x7 x8 H locs ls hP hS hl hf
    rw [f_X8_day_184] at hf
    refine lv_iload hx hb dX8_day_184 (lv_at hl 6 rfl) ?_
    refine lv_iload hx hb dX8_day_186 (lv_at hl 3 rfl) ?_
    refine lv_icmp_ge (tgt := 218) hx hb dX8_day_188 (by decide) (fun hc => ?_) (fun hc => ?_)
    · rw [if_pos hc] at hf
      exact w_X8_day_218 hC hQ hk167  _ _ _ _ _ _ _ _ _ hP hS (lv_sub hl [0, 1, 2, 3, 4, 5] rfl) hf
    · rw [if_neg hc] at hf
      refine lv_iload hx hb dX8_day_191 (lv_at hl 5 rfl) ?_
      refine lv_iload hx hb dX8_day_193 (lv_at hl 4 rfl) ?_
      refine lv_icmp_ge (tgt := 218) hx hb dX8_day_195 (by decide) (fun hc => ?_) (fun hc => ?_)
      · rw [if_pos hc] at hf
        exact w_X8_day_218 hC hQ hk167  _ _ _ _ _ _ _ _ _ hP hS (lv_sub hl [0, 1, 2, 3, 4, 5] rfl) hf
      · rw [if_neg hc] at hf
        refine lv_aload_n hx hb dX8_day_198 rfl (lv_at hl 0 rfl) ?_
        refine gFr hC hP (j := 22) sg_30 vc_8 iT8 (by decide) rfl tb_4_93 dX8_day_199 ?_
        refine lv_iload hx hb dX8_day_202 (lv_at hl 6 rfl) ?_
        refine lv_aload_n hx hb dX8_day_204 rfl (lv_at hl 0 rfl) ?_
        refine gFr hC hP (j := 21) sg_30 vc_8 iT8 (by decide) rfl tb_4_92 dX8_day_205 ?_
        refine lv_iload hx hb dX8_day_208 (lv_at hl 6 rfl) ?_
        obtain ⟨v1, hv, hf⟩ := ob_some hf
        refine gIa hC hP hv dX8_day_210 ?_
        obtain ⟨S2, hv, hf⟩ := ob_some hf
        refine sIa hC hP hS hv dX8_day_211 (fun H locs hP hS => ?_)
        refine lv_iinc (v := x8 + 1) (lv' := [(8, .int (x8 + 1)), (0, .ref (ad G 30)), (2, .int x2), (3, .int x3), (4, .int x4), (5, .int x5), (7, .int x7)]) hx hb dX8_day_212 hl (k := 6) rfl rfl (by decide) rfl (fun ls hl => ?_)
        refine lv_goto (tgt := 184) hx hb dX8_day_215 (by decide) ?_
        exact ih _ _ _ _ _ _ _ _ _ _ hP hS (lv_sub hl [1, 2, 3, 4, 5, 6, 0] rfl) hf
def f_X8_day_167  : Nat → ST → Int32 → Int32 → Int32 → Int32 → Int32 → Option (Int32 × ST)
  | 0, _, _, _, _, _, _ => none
  | n + 1, S, x2, x3, x4, x5, x6 => if x6 = 0 then (if 100000 ≤ x5 then (some ((-4), S)) else (if x3 < x4 then (if 0 ≤ x3 then ((rI S 0 44 x3).bind fun v1 => some (v1, S)) else (some (x5, S))) else (some ((-4), S)))) else ((f_X8_sumOf S x4 x2).bind fun v2 => f_X8_day_184 (f_X8_day_167 n) FU S x2 x3 x4 x5 v2 0)
set_option maxRecDepth 100000 in
set_option maxHeartbeats 4000000 in
theorem w_X8_day_167 {r : Int32} {S' : ST} (hC : Cx p m c s args cX8_day 9 RX8 G) (hQ : KI p l e (rmH 4) s m args below meth c Q cX8_day G r S') : ∀ (n : Nat) (S : ST) (x2 : Int32) (x3 : Int32) (x4 : Int32) (x5 : Int32) (x6 : Int32) (H : Heap) (locs : List Loc) (ls : Array Slot), va_P (gD G) vwCl (cells G S) H → va_S (gA G) s.heap H locs → lv_has ls 9 [(0, .ref (ad G 30)), (2, .int x2), (3, .int x3), (4, .int x4), (5, .int x5), (6, .int x6)] → f_X8_day_167 n S x2 x3 x4 x5 x6 = some (r, S') → W p l e (rmH 4) s m args below meth c H locs 0 0 Q (F0 m 167 ls []) := by
  obtain ⟨hx, hb, hml, hown, hts⟩ := id hC.1
  intro n
  induction n with
  | zero => intro S x2 x3 x4 x5 x6 H locs ls hP hS hl hf; rw [f_X8_day_167] at hf; cases hf
  | succ n ih =>
    intro S x2 x3 x4 x5 x6 H locs ls hP hS hl hf
    rw [f_X8_day_167] at hf
    refine lv_iload hx hb dX8_day_167 (lv_at hl 5 rfl) ?_
    refine lv_if_eq (tgt := 245) hx hb dX8_day_169 (by decide) (fun hc => ?_) (fun hc => ?_)
    · rw [if_pos hc] at hf
      refine lv_iload hx hb dX8_day_245 (lv_at hl 4 rfl) ?_
      refine lv_ldc hx hb hown (hts _ tb_5_83) dX8_day_247 ?_
      refine lv_icmp_ge (tgt := 258) hx hb dX8_day_249 (by decide) (fun hc => ?_) (fun hc => ?_)
      · rw [if_pos hc] at hf
        refine lv_bipush (v := (-4)) hx hb dX8_day_258 (by decide) ?_
        refine lv_goto (tgt := 278) hx hb dX8_day_260 (by decide) ?_
        exact retIw hQ hf hP hS dX8_day_278
      · rw [if_neg hc] at hf
        refine lv_iload_n hx hb dX8_day_252 rfl (lv_at hl 2 rfl) ?_
        refine lv_iload hx hb dX8_day_253 (lv_at hl 3 rfl) ?_
        refine lv_icmp_lt (tgt := 263) hx hb dX8_day_255 (by decide) (fun hc => ?_) (fun hc => ?_)
        · rw [if_pos hc] at hf
          refine lv_iload_n hx hb dX8_day_263 rfl (lv_at hl 2 rfl) ?_
          refine lv_if_ge (tgt := 272) hx hb dX8_day_264 (by decide) (fun hc => ?_) (fun hc => ?_)
          · rw [if_pos hc] at hf
            refine lv_aload_n hx hb dX8_day_272 rfl (lv_at hl 0 rfl) ?_
            refine gFr hC hP (j := 22) sg_30 vc_8 iT8 (by decide) rfl tb_4_93 dX8_day_273 ?_
            refine lv_iload_n hx hb dX8_day_276 rfl (lv_at hl 2 rfl) ?_
            obtain ⟨v1, hv, hf⟩ := ob_some hf
            refine gIa hC hP hv dX8_day_277 ?_
            exact retIw hQ hf hP hS dX8_day_278
          · rw [if_neg hc] at hf
            refine lv_iload hx hb dX8_day_267 (lv_at hl 4 rfl) ?_
            refine lv_goto (tgt := 278) hx hb dX8_day_269 (by decide) ?_
            exact retIw hQ hf hP hS dX8_day_278
        · rw [if_neg hc] at hf
          refine lv_bipush (v := (-4)) hx hb dX8_day_258 (by decide) ?_
          refine lv_goto (tgt := 278) hx hb dX8_day_260 (by decide) ?_
          exact retIw hQ hf hP hS dX8_day_278
    · rw [if_neg hc] at hf
      refine lv_aload_n hx hb dX8_day_172 rfl (lv_at hl 0 rfl) ?_
      refine lv_iload hx hb dX8_day_173 (lv_at hl 3 rfl) ?_
      refine lv_iload_n hx hb dX8_day_175 rfl (lv_at hl 1 rfl) ?_
      obtain ⟨v2, hv, hf⟩ := ob_some hf
      refine cI hS (runV hC hP hS (As := [.int x4, .int x2]) (rest := []) (k_X8_sumOf l G S x4 x2 _ hv) vy_X8_sumOf sg_30 vc_8 tb_5_137 tb_5_139 ts_45 ⟨Nat.le_of_ble_eq_true rfl, Nat.le_of_ble_eq_true rfl⟩ rfl hl.1 rfl (Nat.le_of_ble_eq_true rfl) dX8_day_176) (fun H locs hP hS => ?_)
      refine lv_istore (lv' := [(7, .int v2), (0, .ref (ad G 30)), (2, .int x2), (3, .int x3), (4, .int x4), (5, .int x5), (6, .int x6)]) hx hb dX8_day_179 hl (by decide) rfl (fun ls hl => ?_)
      refine lv_iconst (v := 0) hx hb dX8_day_181 (by decide) ?_
      refine lv_istore (lv' := [(8, .int 0), (7, .int v2), (0, .ref (ad G 30)), (2, .int x2), (3, .int x3), (4, .int x4), (5, .int x5), (6, .int x6)]) hx hb dX8_day_182 hl (by decide) rfl (fun ls hl => ?_)
      exact w_X8_day_184 hC hQ ih _ _ _ _ _ _ _ _ _ _ _ hP hS (lv_sub hl [2, 3, 4, 5, 6, 1, 0] rfl) hf
def f_X8_day_154  (k62 : ST → Int32 → Int32 → Int32 → Int32 → Int32 → Option (Int32 × ST)) (S : ST) (x1 : Int32) (x2 : Int32) (x3 : Int32) (x4 : Int32) (x5 : Int32) : Option (Int32 × ST) := k62 S x1 x2 x3 x4 (x5 + 1)
set_option maxRecDepth 100000 in
set_option maxHeartbeats 4000000 in
theorem w_X8_day_154 {r : Int32} {S' : ST} (hC : Cx p m c s args cX8_day 9 RX8 G) (hQ : KI p l e (rmH 4) s m args below meth c Q cX8_day G r S') {k62 : ST → Int32 → Int32 → Int32 → Int32 → Int32 → Option (Int32 × ST)} (hk62 : ∀ (S : ST) (x1 : Int32) (x2 : Int32) (x3 : Int32) (x4 : Int32) (x5 : Int32) (H : Heap) (locs : List Loc) (ls : Array Slot), va_P (gD G) vwCl (cells G S) H → va_S (gA G) s.heap H locs → lv_has ls 9 [(0, .ref (ad G 30)), (1, .int x1), (2, .int x2), (3, .int x3), (4, .int x4), (5, .int x5)] → k62 S x1 x2 x3 x4 x5 = some (r, S') → W p l e (rmH 4) s m args below meth c H locs 0 0 Q (F0 m 62 ls [])) (S : ST) (x1 : Int32) (x2 : Int32) (x3 : Int32) (x4 : Int32) (x5 : Int32) (H : Heap) (locs : List Loc) (ls : Array Slot) (hP : va_P (gD G) vwCl (cells G S) H) (hS : va_S (gA G) s.heap H locs) (hl : lv_has ls 9 [(0, .ref (ad G 30)), (1, .int x1), (2, .int x2), (3, .int x3), (4, .int x4), (5, .int x5)]) (hf : f_X8_day_154 k62 S x1 x2 x3 x4 x5 = some (r, S')) : W p l e (rmH 4) s m args below meth c H locs 0 0 Q (F0 m 154 ls []) := by
  obtain ⟨hx, hb, hml, hown, hts⟩ := id hC.1
  rw [f_X8_day_154] at hf
  refine lv_iinc (v := x5 + 1) (lv' := [(5, .int (x5 + 1)), (0, .ref (ad G 30)), (1, .int x1), (2, .int x2), (3, .int x3), (4, .int x4)]) hx hb dX8_day_154 hl (k := 5) rfl rfl (by decide) rfl (fun ls hl => ?_)
  refine lv_goto (tgt := 62) hx hb dX8_day_157 (by decide) ?_
  exact hk62 _ _ _ _ _ _ _ _ _ hP hS (lv_sub hl [1, 2, 3, 4, 5, 0] rfl) hf
def f_X8_day_118  (k62 : ST → Int32 → Int32 → Int32 → Int32 → Int32 → Option (Int32 × ST)) (k96 : ST → Int32 → Int32 → Int32 → Int32 → Int32 → Int32 → Int32 → Option (Int32 × ST)) (S : ST) (x1 : Int32) (x2 : Int32) (x3 : Int32) (x4 : Int32) (x5 : Int32) (x7 : Int32) (y0 : Int32) : Option (Int32 × ST) := (wI S 42 ((1440 * x5) + x7) y0).bind fun S1 => k96 S1 x1 x2 x3 x4 x5 y0 (x7 + (-1))
set_option maxRecDepth 100000 in
set_option maxHeartbeats 4000000 in
theorem w_X8_day_118 {r : Int32} {S' : ST} (hC : Cx p m c s args cX8_day 9 RX8 G) (hQ : KI p l e (rmH 4) s m args below meth c Q cX8_day G r S') {k62 : ST → Int32 → Int32 → Int32 → Int32 → Int32 → Option (Int32 × ST)} (hk62 : ∀ (S : ST) (x1 : Int32) (x2 : Int32) (x3 : Int32) (x4 : Int32) (x5 : Int32) (H : Heap) (locs : List Loc) (ls : Array Slot), va_P (gD G) vwCl (cells G S) H → va_S (gA G) s.heap H locs → lv_has ls 9 [(0, .ref (ad G 30)), (1, .int x1), (2, .int x2), (3, .int x3), (4, .int x4), (5, .int x5)] → k62 S x1 x2 x3 x4 x5 = some (r, S') → W p l e (rmH 4) s m args below meth c H locs 0 0 Q (F0 m 62 ls [])) {k96 : ST → Int32 → Int32 → Int32 → Int32 → Int32 → Int32 → Int32 → Option (Int32 × ST)} (hk96 : ∀ (S : ST) (x1 : Int32) (x2 : Int32) (x3 : Int32) (x4 : Int32) (x5 : Int32) (x6 : Int32) (x7 : Int32) (H : Heap) (locs : List Loc) (ls : Array Slot), va_P (gD G) vwCl (cells G S) H → va_S (gA G) s.heap H locs → lv_has ls 9 [(0, .ref (ad G 30)), (1, .int x1), (2, .int x2), (3, .int x3), (4, .int x4), (5, .int x5), (6, .int x6), (7, .int x7)] → k96 S x1 x2 x3 x4 x5 x6 x7 = some (r, S') → W p l e (rmH 4) s m args below meth c H locs 0 0 Q (F0 m 96 ls [])) (S : ST) (x1 : Int32) (x2 : Int32) (x3 : Int32) (x4 : Int32) (x5 : Int32) (x7 : Int32) (y0 : Int32) (H : Heap) (locs : List Loc) (ls : Array Slot) (hP : va_P (gD G) vwCl (cells G S) H) (hS : va_S (gA G) s.heap H locs) (hl : lv_has ls 9 [(0, .ref (ad G 30)), (1, .int x1), (2, .int x2), (3, .int x3), (4, .int x4), (5, .int x5), (7, .int x7)]) (hf : f_X8_day_118 k62 k96 S x1 x2 x3 x4 x5 x7 y0 = some (r, S')) : W p l e (rmH 4) s m args below meth c H locs 0 0 Q (F0 m 118 ls [.int y0]) := by
  obtain ⟨hx, hb, hml, hown, hts⟩ := id hC.1
  rw [f_X8_day_118] at hf
  refine lv_istore (lv' := [(6, .int y0), (0, .ref (ad G 30)), (1, .int x1), (2, .int x2), (3, .int x3), (4, .int x4), (5, .int x5), (7, .int x7)]) hx hb dX8_day_118 hl (by decide) rfl (fun ls hl => ?_)
  refine lv_aload_n hx hb dX8_day_120 rfl (lv_at hl 1 rfl) ?_
  refine gFr hC hP (j := 20) sg_30 vc_8 iT8 (by decide) rfl tb_4_91 dX8_day_121 ?_
  refine lv_sipush (v := 1440) hx hb dX8_day_124 (by decide) ?_
  refine lv_iload hx hb dX8_day_127 (lv_at hl 6 rfl) ?_
  refine lv_imul hx hb dX8_day_129 ?_
  refine lv_iload hx hb dX8_day_130 (lv_at hl 7 rfl) ?_
  refine lv_iadd hx hb dX8_day_132 ?_
  refine lv_iload hx hb dX8_day_133 (lv_at hl 0 rfl) ?_
  obtain ⟨S1, hv, hf⟩ := ob_some hf
  refine sIa hC hP hS hv dX8_day_135 (fun H locs hP hS => ?_)
  refine lv_iinc (v := x7 + (-1)) (lv' := [(7, .int (x7 + (-1))), (6, .int y0), (0, .ref (ad G 30)), (1, .int x1), (2, .int x2), (3, .int x3), (4, .int x4), (5, .int x5)]) hx hb dX8_day_136 hl (k := 7) rfl rfl (by decide) rfl (fun ls hl => ?_)
  refine lv_goto (tgt := 96) hx hb dX8_day_139 (by decide) ?_
  exact hk96 _ _ _ _ _ _ _ _ _ _ _ hP hS (lv_sub hl [2, 3, 4, 5, 6, 7, 1, 0] rfl) hf
def f_X8_day_96  (k62 : ST → Int32 → Int32 → Int32 → Int32 → Int32 → Option (Int32 × ST)) : Nat → ST → Int32 → Int32 → Int32 → Int32 → Int32 → Int32 → Int32 → Option (Int32 × ST)
  | 0, _, _, _, _, _, _, _, _ => none
  | n + 1, S, x1, x2, x3, x4, x5, x6, x7 => if x7 < 0 then ((wI S 43 x4 x5).bind fun S1 => f_X8_day_154 k62 S1 x1 x2 x3 (x4 + 1) x5) else ((rI S 2 39 x7).bind fun v2 => if v2 = 0 then (f_X8_day_118 k62 (f_X8_day_96 k62 n) S x1 x2 x3 x4 x5 x7 x6) else (f_X8_day_118 k62 (f_X8_day_96 k62 n) S x1 x2 x3 x4 x5 x7 x7))
set_option maxRecDepth 100000 in
set_option maxHeartbeats 4000000 in
theorem w_X8_day_96 {r : Int32} {S' : ST} (hC : Cx p m c s args cX8_day 9 RX8 G) (hQ : KI p l e (rmH 4) s m args below meth c Q cX8_day G r S') {k62 : ST → Int32 → Int32 → Int32 → Int32 → Int32 → Option (Int32 × ST)} (hk62 : ∀ (S : ST) (x1 : Int32) (x2 : Int32) (x3 : Int32) (x4 : Int32) (x5 : Int32) (H : Heap) (locs : List Loc) (ls : Array Slot), va_P (gD G) vwCl (cells G S) H → va_S (gA G) s.heap H locs → lv_has ls 9 [(0, .ref (ad G 30)), (1, .int x1), (2, .int x2), (3, .int x3), (4, .int x4), (5, .int x5)] → k62 S x1 x2 x3 x4 x5 = some (r, S') → W p l e (rmH 4) s m args below meth c H locs 0 0 Q (F0 m 62 ls [])) : ∀ (n : Nat) (S : ST) (x1 : Int32) (x2 : Int32) (x3 : Int32) (x4 : Int32) (x5 : Int32) (x6 : Int32) (x7 : Int32) (H : Heap) (locs : List Loc) (ls : Array Slot), va_P (gD G) vwCl (cells G S) H → va_S (gA G) s.heap H locs → lv_has ls 9 [(0, .ref (ad G 30)), (1, .int x1), (2, .int x2), (3, .int x3), (4, .int x4), (5, .int x5), (6, .int x6), (7, .int x7)] → f_X8_day_96 k62 n S x1 x2 x3 x4 x5 x6 x7 = some (r, S') → W p l e (rmH 4) s m args below meth c H locs 0 0 Q (F0 m 96 ls []) := by
  obtain ⟨hx, hb, hml, hown, hts⟩ := id hC.1
  intro n
  induction n with
  | zero => intro S x1 x2 x3 x4 x5 x6 x7 H locs ls hP hS hl hf; rw [f_X8_day_96] at hf; cases hf
  | succ n ih =>
    intro S x1 x2 x3 x4 x5 x6 x7 H locs ls hP hS hl hf
    rw [f_X8_day_96] at hf
    refine lv_iload hx hb dX8_day_96 (lv_at hl 7 rfl) ?_
    refine lv_if_lt (tgt := 142) hx hb dX8_day_98 (by decide) (fun hc => ?_) (fun hc => ?_)
    · rw [if_pos hc] at hf
      refine lv_aload_n hx hb dX8_day_142 rfl (lv_at hl 0 rfl) ?_
      refine gFr hC hP (j := 21) sg_30 vc_8 iT8 (by decide) rfl tb_4_92 dX8_day_143 ?_
      refine lv_iload hx hb dX8_day_146 (lv_at hl 4 rfl) ?_
      refine lv_iload hx hb dX8_day_148 (lv_at hl 5 rfl) ?_
      obtain ⟨S1, hv, hf⟩ := ob_some hf
      refine sIa hC hP hS hv dX8_day_150 (fun H locs hP hS => ?_)
      refine lv_iinc (v := x4 + 1) (lv' := [(4, .int (x4 + 1)), (0, .ref (ad G 30)), (1, .int x1), (2, .int x2), (3, .int x3), (5, .int x5), (6, .int x6), (7, .int x7)]) hx hb dX8_day_151 hl (k := 4) rfl rfl (by decide) rfl (fun ls hl => ?_)
      exact w_X8_day_154 hC hQ hk62  _ _ _ _ _ _ _ _ _ hP hS (lv_sub hl [1, 2, 3, 4, 0, 5] rfl) hf
    · rw [if_neg hc] at hf
      refine lv_aload_n hx hb dX8_day_101 rfl (lv_at hl 0 rfl) ?_
      refine gFr hC hP (j := 17) sg_30 vc_8 iT8 (by decide) rfl tb_4_88 dX8_day_102 ?_
      refine lv_iload hx hb dX8_day_105 (lv_at hl 7 rfl) ?_
      obtain ⟨v2, hv, hf⟩ := ob_some hf
      refine gZa hC hP hv dX8_day_107 ?_
      refine lv_if_eq (tgt := 116) hx hb dX8_day_108 (by decide) (fun hc => ?_) (fun hc => ?_)
      · rw [if_pos hc] at hf
        refine lv_iload hx hb dX8_day_116 (lv_at hl 6 rfl) ?_
        exact w_X8_day_118 hC hQ hk62 ih  _ _ _ _ _ _ _ _ _ _ _ hP hS (lv_sub hl [0, 1, 2, 3, 4, 5, 7] rfl) hf
      · rw [if_neg hc] at hf
        refine lv_iload hx hb dX8_day_111 (lv_at hl 7 rfl) ?_
        refine lv_goto (tgt := 118) hx hb dX8_day_113 (by decide) ?_
        exact w_X8_day_118 hC hQ hk62 ih  _ _ _ _ _ _ _ _ _ _ _ hP hS (lv_sub hl [0, 1, 2, 3, 4, 5, 7] rfl) hf
def f_X8_day_62  : Nat → ST → Int32 → Int32 → Int32 → Int32 → Int32 → Option (Int32 × ST)
  | 0, _, _, _, _, _, _ => none
  | n + 1, S, x1, x2, x3, x4, x5 => if (S.1 30 4) ≤ x5 then (f_X8_day_167 FU S x2 x3 x4 100000 1) else (if ((x1 >>> (x5 &&& 31)) &&& 1) = 1 then ((f_X8_startsOf S x5).bind fun S1 => f_X8_day_96 (f_X8_day_62 n) FU S1 x1 x2 x3 x4 x5 100000 1439) else (f_X8_day_154 (f_X8_day_62 n) S x1 x2 x3 x4 x5))
set_option maxRecDepth 100000 in
set_option maxHeartbeats 4000000 in
theorem w_X8_day_62 {r : Int32} {S' : ST} (hC : Cx p m c s args cX8_day 9 RX8 G) (hQ : KI p l e (rmH 4) s m args below meth c Q cX8_day G r S') : ∀ (n : Nat) (S : ST) (x1 : Int32) (x2 : Int32) (x3 : Int32) (x4 : Int32) (x5 : Int32) (H : Heap) (locs : List Loc) (ls : Array Slot), va_P (gD G) vwCl (cells G S) H → va_S (gA G) s.heap H locs → lv_has ls 9 [(0, .ref (ad G 30)), (1, .int x1), (2, .int x2), (3, .int x3), (4, .int x4), (5, .int x5)] → f_X8_day_62 n S x1 x2 x3 x4 x5 = some (r, S') → W p l e (rmH 4) s m args below meth c H locs 0 0 Q (F0 m 62 ls []) := by
  obtain ⟨hx, hb, hml, hown, hts⟩ := id hC.1
  intro n
  induction n with
  | zero => intro S x1 x2 x3 x4 x5 H locs ls hP hS hl hf; rw [f_X8_day_62] at hf; cases hf
  | succ n ih =>
    intro S x1 x2 x3 x4 x5 H locs ls hP hS hl hf
    rw [f_X8_day_62] at hf
    refine lv_iload hx hb dX8_day_62 (lv_at hl 5 rfl) ?_
    refine lv_aload_n hx hb dX8_day_64 rfl (lv_at hl 0 rfl) ?_
    refine gFi hC hP (j := 4) sg_30 vc_8 iT8 (by decide) rfl tb_4_75 dX8_day_65 ?_
    refine lv_icmp_ge (tgt := 160) hx hb dX8_day_68 (by decide) (fun hc => ?_) (fun hc => ?_)
    · rw [if_pos hc] at hf
      refine lv_ldc hx hb hown (hts _ tb_5_83) dX8_day_160 ?_
      refine lv_istore (lv' := [(5, .int 100000), (0, .ref (ad G 30)), (1, .int x1), (2, .int x2), (3, .int x3), (4, .int x4)]) hx hb dX8_day_162 hl (by decide) rfl (fun ls hl => ?_)
      refine lv_iconst (v := 1) hx hb dX8_day_164 (by decide) ?_
      refine lv_istore (lv' := [(6, .int 1), (5, .int 100000), (0, .ref (ad G 30)), (1, .int x1), (2, .int x2), (3, .int x3), (4, .int x4)]) hx hb dX8_day_165 hl (by decide) rfl (fun ls hl => ?_)
      exact w_X8_day_167 hC hQ _ _ _ _ _ _ _ _ _ _ hP hS (lv_sub hl [2, 4, 5, 6, 1, 0] rfl) hf
    · rw [if_neg hc] at hf
      refine lv_iload_n hx hb dX8_day_71 rfl (lv_at hl 1 rfl) ?_
      refine lv_iload hx hb dX8_day_72 (lv_at hl 5 rfl) ?_
      refine lv_ishr hx hb dX8_day_74 ?_
      refine lv_iconst (v := 1) hx hb dX8_day_75 (by decide) ?_
      refine lv_iand hx hb dX8_day_76 ?_
      refine lv_iconst (v := 1) hx hb dX8_day_77 (by decide) ?_
      refine lv_icmp_ne (tgt := 154) hx hb dX8_day_78 (by decide) (fun hc => ?_) (fun hc => ?_)
      · rw [if_neg hc] at hf
        exact w_X8_day_154 hC hQ ih  _ _ _ _ _ _ _ _ _ hP hS (lv_sub hl [0, 1, 2, 3, 4, 5] rfl) hf
      · rw [if_pos hc] at hf
        refine lv_aload_n hx hb dX8_day_81 rfl (lv_at hl 0 rfl) ?_
        refine lv_iload hx hb dX8_day_82 (lv_at hl 5 rfl) ?_
        obtain ⟨S1, hv, hf⟩ := ob_some hf
        refine cV hS (runV hC hP hS (As := [.int x5]) (rest := []) (k_X8_startsOf l G S x5 _ hv) vy_X8_startsOf sg_30 vc_8 tb_5_98 tb_5_100 ts_43 ⟨Nat.le_of_ble_eq_true rfl, Nat.le_of_ble_eq_true rfl⟩ rfl hl.1 rfl (Nat.le_of_ble_eq_true rfl) dX8_day_84) (fun H locs hP hS => ?_)
        refine lv_ldc hx hb hown (hts _ tb_5_83) dX8_day_87 ?_
        refine lv_istore (lv' := [(6, .int 100000), (0, .ref (ad G 30)), (1, .int x1), (2, .int x2), (3, .int x3), (4, .int x4), (5, .int x5)]) hx hb dX8_day_89 hl (by decide) rfl (fun ls hl => ?_)
        refine lv_sipush (v := 1439) hx hb dX8_day_91 (by decide) ?_
        refine lv_istore (lv' := [(7, .int 1439), (6, .int 100000), (0, .ref (ad G 30)), (1, .int x1), (2, .int x2), (3, .int x3), (4, .int x4), (5, .int x5)]) hx hb dX8_day_94 hl (by decide) rfl (fun ls hl => ?_)
        exact w_X8_day_96 hC hQ ih _ _ _ _ _ _ _ _ _ _ _ _ hP hS (lv_sub hl [2, 3, 4, 5, 6, 7, 1, 0] rfl) hf
def f_X8_day (S : ST) (x1 : Int32) (x2 : Int32) (x3 : Int32) : Option (Int32 × ST) := (f_X8_in (x1.toInt64) 1 (((1 <<< ((S.1 30 4) &&& 31)) - 1).toInt64)).bind fun v1 => if v1 = 0 then (some ((-1), S)) else ((f_X8_in (x2.toInt64) 1 240).bind fun v2 => if v2 = 0 then (some ((-1), S)) else ((f_X8_in (x3.toInt64) (-1) 5).bind fun v3 => if v3 = 0 then (some ((-1), S)) else (if (S.1 30 0) = 0 then (some ((-2), S)) else (f_X8_day_62 FU S x1 x2 x3 0 0))))
set_option maxRecDepth 100000 in
set_option maxHeartbeats 4000000 in
theorem k_X8_day (l : Launch) (G : GT) (S : ST) (x1 : Int32) (x2 : Int32) (x3 : Int32) (r : Int32) (S' : ST) (hf : f_X8_day S x1 x2 x3 = some (r, S')) : MI l yX8_day cX8_day 9 (some .int) 4 [.ref (ad G 30), .int x1, .int x2, .int x3] G S r S' := by
  rw [f_X8_day] at hf
  refine mkI (own := RX8) (by decide +kernel) rfl rfl (Nat.le_of_ble_eq_true rfl) (fun p e s m args below meth c Q ls hC hP hS hl hQ => ?_)
  have hl : lv_has ls 9 [(0, .ref (ad G 30)), (1, .int x1), (2, .int x2), (3, .int x3)] := hl
  obtain ⟨hx, hb, hml, hown, hts⟩ := id hC.1
  refine lv_iload_n hx hb dX8_day_0 rfl (lv_at hl 1 rfl) ?_
  refine lv_i2l (v := x1.toInt64) hx hb dX8_day_1 rfl ?_
  refine lv_lconst (v := 1) hx hb dX8_day_2 (by decide) ?_
  refine lv_iconst (v := 1) hx hb dX8_day_3 (by decide) ?_
  refine lv_aload_n hx hb dX8_day_4 rfl (lv_at hl 0 rfl) ?_
  refine gFi hC hP (j := 4) sg_30 vc_8 iT8 (by decide) rfl tb_4_75 dX8_day_5 ?_
  refine lv_ishl hx hb dX8_day_8 ?_
  refine lv_iconst (v := 1) hx hb dX8_day_9 (by decide) ?_
  refine lv_isub hx hb dX8_day_10 ?_
  refine lv_i2l (v := ((1 <<< ((S.1 30 4) &&& 31)) - 1).toInt64) hx hb dX8_day_11 rfl ?_
  obtain ⟨v1, hv, hf⟩ := ob_some hf
  refine cI hS (runS hC hP hS (As := [.long (x1.toInt64), .long 1, .long (((1 <<< ((S.1 30 4) &&& 31)) - 1).toInt64)]) (rest := []) (k_X8_in l G S (x1.toInt64) 1 (((1 <<< ((S.1 30 4) &&& 31)) - 1).toInt64) _ hv) vy_X8_in tb_4_169 tb_4_170 ⟨Nat.le_of_ble_eq_true rfl, Nat.le_of_ble_eq_true rfl⟩ rfl hl.1 rfl (Nat.le_of_ble_eq_true rfl) dX8_day_12) (fun H locs hP hS => ?_)
  refine lv_if_eq (tgt := 44) hx hb dX8_day_15 (by decide) (fun hc => ?_) (fun hc => ?_)
  · rw [if_pos hc] at hf
    refine lv_iconst (v := (-1)) hx hb dX8_day_44 (by decide) ?_
    exact retIw hQ hf hP hS dX8_day_45
  · rw [if_neg hc] at hf
    refine lv_iload_n hx hb dX8_day_18 rfl (lv_at hl 2 rfl) ?_
    refine lv_i2l (v := x2.toInt64) hx hb dX8_day_19 rfl ?_
    refine lv_lconst (v := 1) hx hb dX8_day_20 (by decide) ?_
    refine lv_ldc2 hx hb hown (hts _ tb_5_136) dX8_day_21 ?_
    obtain ⟨v2, hv, hf⟩ := ob_some hf
    refine cI hS (runS hC hP hS (As := [.long (x2.toInt64), .long 1, .long 240]) (rest := []) (k_X8_in l G S (x2.toInt64) 1 240 _ hv) vy_X8_in tb_4_169 tb_4_170 ⟨Nat.le_of_ble_eq_true rfl, Nat.le_of_ble_eq_true rfl⟩ rfl hl.1 rfl (Nat.le_of_ble_eq_true rfl) dX8_day_24) (fun H locs hP hS => ?_)
    refine lv_if_eq (tgt := 44) hx hb dX8_day_27 (by decide) (fun hc => ?_) (fun hc => ?_)
    · rw [if_pos hc] at hf
      refine lv_iconst (v := (-1)) hx hb dX8_day_44 (by decide) ?_
      exact retIw hQ hf hP hS dX8_day_45
    · rw [if_neg hc] at hf
      refine lv_iload_n hx hb dX8_day_30 rfl (lv_at hl 3 rfl) ?_
      refine lv_i2l (v := x3.toInt64) hx hb dX8_day_31 rfl ?_
      refine lv_ldc2 hx hb hown (hts _ tb_5_88) dX8_day_32 ?_
      refine lv_ldc2 hx hb hown (hts _ tb_4_192) dX8_day_35 ?_
      obtain ⟨v3, hv, hf⟩ := ob_some hf
      refine cI hS (runS hC hP hS (As := [.long (x3.toInt64), .long (-1), .long 5]) (rest := []) (k_X8_in l G S (x3.toInt64) (-1) 5 _ hv) vy_X8_in tb_4_169 tb_4_170 ⟨Nat.le_of_ble_eq_true rfl, Nat.le_of_ble_eq_true rfl⟩ rfl hl.1 rfl (Nat.le_of_ble_eq_true rfl) dX8_day_38) (fun H locs hP hS => ?_)
      refine lv_if_ne (tgt := 46) hx hb dX8_day_41 (by decide) (fun hc => ?_) (fun hc => ?_)
      · rw [if_neg hc] at hf
        refine lv_aload_n hx hb dX8_day_46 rfl (lv_at hl 0 rfl) ?_
        refine gFi hC hP (j := 0) sg_30 vc_8 iT8 (by decide) rfl tb_4_71 dX8_day_47 ?_
        refine lv_if_ne (tgt := 56) hx hb dX8_day_50 (by decide) (fun hc => ?_) (fun hc => ?_)
        · rw [if_neg hc] at hf
          refine lv_iconst (v := 0) hx hb dX8_day_56 (by decide) ?_
          refine lv_istore (lv' := [(4, .int 0), (0, .ref (ad G 30)), (1, .int x1), (2, .int x2), (3, .int x3)]) hx hb dX8_day_57 hl (by decide) rfl (fun ls hl => ?_)
          refine lv_iconst (v := 0) hx hb dX8_day_59 (by decide) ?_
          refine lv_istore (lv' := [(5, .int 0), (4, .int 0), (0, .ref (ad G 30)), (1, .int x1), (2, .int x2), (3, .int x3)]) hx hb dX8_day_60 hl (by decide) rfl (fun ls hl => ?_)
          exact w_X8_day_62 hC hQ _ _ _ _ _ _ _ _ _ _ hP hS (lv_sub hl [2, 3, 4, 5, 1, 0] rfl) hf
        · rw [if_pos hc] at hf
          refine lv_bipush (v := (-2)) hx hb dX8_day_53 (by decide) ?_
          exact retIw hQ hf hP hS dX8_day_55
      · rw [if_pos hc] at hf
        refine lv_iconst (v := (-1)) hx hb dX8_day_44 (by decide) ?_
        exact retIw hQ hf hP hS dX8_day_45
def f_X8_dredged_164  (S : ST) (x3 : Int32) (x5 : Int32) (x6 : Int32) : Option (Int32 × ST) := if x5 < 0 then (some (x5, S)) else (if x3 = 0 then (some (x5, S)) else (some (x6, S)))
set_option maxRecDepth 100000 in
set_option maxHeartbeats 4000000 in
theorem w_X8_dredged_164 {r : Int32} {S' : ST} (hC : Cx p m c s args cX8_dredged 9 RX8 G) (hQ : KI p l e (rmH 4) s m args below meth c Q cX8_dredged G r S') (S : ST) (x3 : Int32) (x5 : Int32) (x6 : Int32) (H : Heap) (locs : List Loc) (ls : Array Slot) (hP : va_P (gD G) vwCl (cells G S) H) (hS : va_S (gA G) s.heap H locs) (hl : lv_has ls 9 [(3, .int x3), (5, .int x5), (6, .int x6)]) (hf : f_X8_dredged_164 S x3 x5 x6 = some (r, S')) : W p l e (rmH 4) s m args below meth c H locs 0 0 Q (F0 m 164 ls []) := by
  obtain ⟨hx, hb, hml, hown, hts⟩ := id hC.1
  rw [f_X8_dredged_164] at hf
  refine lv_iload hx hb dX8_dredged_164 (lv_at hl 1 rfl) ?_
  refine lv_if_lt (tgt := 173) hx hb dX8_dredged_166 (by decide) (fun hc => ?_) (fun hc => ?_)
  · rw [if_pos hc] at hf
    refine lv_iload hx hb dX8_dredged_173 (lv_at hl 1 rfl) ?_
    refine lv_goto (tgt := 180) hx hb dX8_dredged_175 (by decide) ?_
    exact retIw hQ hf hP hS dX8_dredged_180
  · rw [if_neg hc] at hf
    refine lv_iload_n hx hb dX8_dredged_169 rfl (lv_at hl 0 rfl) ?_
    refine lv_if_ne (tgt := 178) hx hb dX8_dredged_170 (by decide) (fun hc => ?_) (fun hc => ?_)
    · rw [if_neg hc] at hf
      refine lv_iload hx hb dX8_dredged_178 (lv_at hl 2 rfl) ?_
      exact retIw hQ hf hP hS dX8_dredged_180
    · rw [if_pos hc] at hf
      refine lv_iload hx hb dX8_dredged_173 (lv_at hl 1 rfl) ?_
      refine lv_goto (tgt := 180) hx hb dX8_dredged_175 (by decide) ?_
      exact retIw hQ hf hP hS dX8_dredged_180
def f_X8_dredged_158  (k55 : ST → Int32 → Int32 → Int32 → Int32 → Int32 → Int32 → Int32 → Option (Int32 × ST)) (S : ST) (x1 : Int32) (x2 : Int32) (x3 : Int32) (x4 : Int32) (x5 : Int32) (x6 : Int32) (x7 : Int32) : Option (Int32 × ST) := k55 S x1 x2 x3 x4 x5 x6 (x7 + 1)
set_option maxRecDepth 100000 in
set_option maxHeartbeats 4000000 in
theorem w_X8_dredged_158 {r : Int32} {S' : ST} (hC : Cx p m c s args cX8_dredged 9 RX8 G) (hQ : KI p l e (rmH 4) s m args below meth c Q cX8_dredged G r S') {k55 : ST → Int32 → Int32 → Int32 → Int32 → Int32 → Int32 → Int32 → Option (Int32 × ST)} (hk55 : ∀ (S : ST) (x1 : Int32) (x2 : Int32) (x3 : Int32) (x4 : Int32) (x5 : Int32) (x6 : Int32) (x7 : Int32) (H : Heap) (locs : List Loc) (ls : Array Slot), va_P (gD G) vwCl (cells G S) H → va_S (gA G) s.heap H locs → lv_has ls 9 [(0, .ref (ad G 30)), (1, .int x1), (2, .int x2), (3, .int x3), (4, .int x4), (5, .int x5), (6, .int x6), (7, .int x7)] → k55 S x1 x2 x3 x4 x5 x6 x7 = some (r, S') → W p l e (rmH 4) s m args below meth c H locs 0 0 Q (F0 m 55 ls [])) (S : ST) (x1 : Int32) (x2 : Int32) (x3 : Int32) (x4 : Int32) (x5 : Int32) (x6 : Int32) (x7 : Int32) (H : Heap) (locs : List Loc) (ls : Array Slot) (hP : va_P (gD G) vwCl (cells G S) H) (hS : va_S (gA G) s.heap H locs) (hl : lv_has ls 9 [(0, .ref (ad G 30)), (1, .int x1), (2, .int x2), (3, .int x3), (4, .int x4), (5, .int x5), (6, .int x6), (7, .int x7)]) (hf : f_X8_dredged_158 k55 S x1 x2 x3 x4 x5 x6 x7 = some (r, S')) : W p l e (rmH 4) s m args below meth c H locs 0 0 Q (F0 m 158 ls []) := by
  obtain ⟨hx, hb, hml, hown, hts⟩ := id hC.1
  rw [f_X8_dredged_158] at hf
  refine lv_iinc (v := x7 + 1) (lv' := [(7, .int (x7 + 1)), (0, .ref (ad G 30)), (1, .int x1), (2, .int x2), (3, .int x3), (4, .int x4), (5, .int x5), (6, .int x6)]) hx hb dX8_dredged_158 hl (k := 7) rfl rfl (by decide) rfl (fun ls hl => ?_)
  refine lv_goto (tgt := 55) hx hb dX8_dredged_161 (by decide) ?_
  exact hk55 _ _ _ _ _ _ _ _ _ _ _ hP hS (lv_sub hl [1, 2, 3, 4, 5, 6, 7, 0] rfl) hf
def f_X8_dredged_156  (k55 : ST → Int32 → Int32 → Int32 → Int32 → Int32 → Int32 → Int32 → Option (Int32 × ST)) (S : ST) (x1 : Int32) (x2 : Int32) (x3 : Int32) (x4 : Int32) (x5 : Int32) (x7 : Int32) (y0 : Int32) : Option (Int32 × ST) := f_X8_dredged_158 k55 S x1 x2 x3 x4 x5 y0 x7
set_option maxRecDepth 100000 in
set_option maxHeartbeats 4000000 in
theorem w_X8_dredged_156 {r : Int32} {S' : ST} (hC : Cx p m c s args cX8_dredged 9 RX8 G) (hQ : KI p l e (rmH 4) s m args below meth c Q cX8_dredged G r S') {k55 : ST → Int32 → Int32 → Int32 → Int32 → Int32 → Int32 → Int32 → Option (Int32 × ST)} (hk55 : ∀ (S : ST) (x1 : Int32) (x2 : Int32) (x3 : Int32) (x4 : Int32) (x5 : Int32) (x6 : Int32) (x7 : Int32) (H : Heap) (locs : List Loc) (ls : Array Slot), va_P (gD G) vwCl (cells G S) H → va_S (gA G) s.heap H locs → lv_has ls 9 [(0, .ref (ad G 30)), (1, .int x1), (2, .int x2), (3, .int x3), (4, .int x4), (5, .int x5), (6, .int x6), (7, .int x7)] → k55 S x1 x2 x3 x4 x5 x6 x7 = some (r, S') → W p l e (rmH 4) s m args below meth c H locs 0 0 Q (F0 m 55 ls [])) (S : ST) (x1 : Int32) (x2 : Int32) (x3 : Int32) (x4 : Int32) (x5 : Int32) (x7 : Int32) (y0 : Int32) (H : Heap) (locs : List Loc) (ls : Array Slot) (hP : va_P (gD G) vwCl (cells G S) H) (hS : va_S (gA G) s.heap H locs) (hl : lv_has ls 9 [(0, .ref (ad G 30)), (1, .int x1), (2, .int x2), (3, .int x3), (4, .int x4), (5, .int x5), (7, .int x7)]) (hf : f_X8_dredged_156 k55 S x1 x2 x3 x4 x5 x7 y0 = some (r, S')) : W p l e (rmH 4) s m args below meth c H locs 0 0 Q (F0 m 156 ls [.int y0]) := by
  obtain ⟨hx, hb, hml, hown, hts⟩ := id hC.1
  rw [f_X8_dredged_156] at hf
  refine lv_istore (lv' := [(6, .int y0), (0, .ref (ad G 30)), (1, .int x1), (2, .int x2), (3, .int x3), (4, .int x4), (5, .int x5), (7, .int x7)]) hx hb dX8_dredged_156 hl (by decide) rfl (fun ls hl => ?_)
  exact w_X8_dredged_158 hC hQ hk55  _ _ _ _ _ _ _ _ _ _ _ hP hS (lv_sub hl [1, 2, 3, 4, 5, 6, 0, 7] rfl) hf
def f_X8_dredged_140  (k55 : ST → Int32 → Int32 → Int32 → Int32 → Int32 → Int32 → Int32 → Option (Int32 × ST)) (S : ST) (x1 : Int32) (x2 : Int32) (x3 : Int32) (x4 : Int32) (x6 : Int32) (x7 : Int32) (x8 : Int32) (y0 : Int32) : Option (Int32 × ST) := if x8 ≤ x6 then (f_X8_dredged_156 k55 S x1 x2 x3 x4 y0 x7 x6) else (f_X8_dredged_156 k55 S x1 x2 x3 x4 y0 x7 x8)
set_option maxRecDepth 100000 in
set_option maxHeartbeats 4000000 in
theorem w_X8_dredged_140 {r : Int32} {S' : ST} (hC : Cx p m c s args cX8_dredged 9 RX8 G) (hQ : KI p l e (rmH 4) s m args below meth c Q cX8_dredged G r S') {k55 : ST → Int32 → Int32 → Int32 → Int32 → Int32 → Int32 → Int32 → Option (Int32 × ST)} (hk55 : ∀ (S : ST) (x1 : Int32) (x2 : Int32) (x3 : Int32) (x4 : Int32) (x5 : Int32) (x6 : Int32) (x7 : Int32) (H : Heap) (locs : List Loc) (ls : Array Slot), va_P (gD G) vwCl (cells G S) H → va_S (gA G) s.heap H locs → lv_has ls 9 [(0, .ref (ad G 30)), (1, .int x1), (2, .int x2), (3, .int x3), (4, .int x4), (5, .int x5), (6, .int x6), (7, .int x7)] → k55 S x1 x2 x3 x4 x5 x6 x7 = some (r, S') → W p l e (rmH 4) s m args below meth c H locs 0 0 Q (F0 m 55 ls [])) (S : ST) (x1 : Int32) (x2 : Int32) (x3 : Int32) (x4 : Int32) (x6 : Int32) (x7 : Int32) (x8 : Int32) (y0 : Int32) (H : Heap) (locs : List Loc) (ls : Array Slot) (hP : va_P (gD G) vwCl (cells G S) H) (hS : va_S (gA G) s.heap H locs) (hl : lv_has ls 9 [(0, .ref (ad G 30)), (1, .int x1), (2, .int x2), (3, .int x3), (4, .int x4), (6, .int x6), (7, .int x7), (8, .int x8)]) (hf : f_X8_dredged_140 k55 S x1 x2 x3 x4 x6 x7 x8 y0 = some (r, S')) : W p l e (rmH 4) s m args below meth c H locs 0 0 Q (F0 m 140 ls [.int y0]) := by
  obtain ⟨hx, hb, hml, hown, hts⟩ := id hC.1
  rw [f_X8_dredged_140] at hf
  refine lv_istore (lv' := [(5, .int y0), (0, .ref (ad G 30)), (1, .int x1), (2, .int x2), (3, .int x3), (4, .int x4), (6, .int x6), (7, .int x7), (8, .int x8)]) hx hb dX8_dredged_140 hl (by decide) rfl (fun ls hl => ?_)
  refine lv_iload hx hb dX8_dredged_142 (lv_at hl 8 rfl) ?_
  refine lv_iload hx hb dX8_dredged_144 (lv_at hl 6 rfl) ?_
  refine lv_icmp_le (tgt := 154) hx hb dX8_dredged_146 (by decide) (fun hc => ?_) (fun hc => ?_)
  · rw [if_pos hc] at hf
    refine lv_iload hx hb dX8_dredged_154 (lv_at hl 6 rfl) ?_
    exact w_X8_dredged_156 hC hQ hk55  _ _ _ _ _ _ _ _ _ _ _ hP hS (lv_sub hl [1, 2, 3, 4, 5, 0, 7] rfl) hf
  · rw [if_neg hc] at hf
    refine lv_iload hx hb dX8_dredged_149 (lv_at hl 8 rfl) ?_
    refine lv_goto (tgt := 156) hx hb dX8_dredged_151 (by decide) ?_
    exact w_X8_dredged_156 hC hQ hk55  _ _ _ _ _ _ _ _ _ _ _ hP hS (lv_sub hl [1, 2, 3, 4, 5, 0, 7] rfl) hf
def f_X8_dredged_55  : Nat → ST → Int32 → Int32 → Int32 → Int32 → Int32 → Int32 → Int32 → Option (Int32 × ST)
  | 0, _, _, _, _, _, _, _, _ => none
  | n + 1, S, x1, x2, x3, x4, x5, x6, x7 => if (S.1 30 0) ≤ x7 then (f_X8_dredged_164 S x3 x5 x6) else (if 100000 ≤ x4 then (f_X8_dredged_164 S x3 x5 x6) else ((rI S 0 31 (6 * x7)).bind fun v1 => if 250 ≤ v1 then (f_X8_dredged_158 (f_X8_dredged_55 n) S x1 x2 x3 x4 x5 x6 x7) else ((rI S 0 31 (6 * x7)).bind fun v2 => (wI S 31 (6 * x7) (v2 + 1)).bind fun S3 => b2 (f_X8_quickest S3 x1 x2) fun v4 S5 => (rI S5 0 31 (6 * x7)).bind fun v6 => (wI S5 31 (6 * x7) (v6 - 1)).bind fun S7 => if (x4 - v4) ≤ x6 then (f_X8_dredged_140 (f_X8_dredged_55 n) S7 x1 x2 x3 x4 x6 x7 (x4 - v4) x5) else (f_X8_dredged_140 (f_X8_dredged_55 n) S7 x1 x2 x3 x4 x6 x7 (x4 - v4) x7))))
set_option maxRecDepth 100000 in
set_option maxHeartbeats 4000000 in
theorem w_X8_dredged_55 {r : Int32} {S' : ST} (hC : Cx p m c s args cX8_dredged 9 RX8 G) (hQ : KI p l e (rmH 4) s m args below meth c Q cX8_dredged G r S') : ∀ (n : Nat) (S : ST) (x1 : Int32) (x2 : Int32) (x3 : Int32) (x4 : Int32) (x5 : Int32) (x6 : Int32) (x7 : Int32) (H : Heap) (locs : List Loc) (ls : Array Slot), va_P (gD G) vwCl (cells G S) H → va_S (gA G) s.heap H locs → lv_has ls 9 [(0, .ref (ad G 30)), (1, .int x1), (2, .int x2), (3, .int x3), (4, .int x4), (5, .int x5), (6, .int x6), (7, .int x7)] → f_X8_dredged_55 n S x1 x2 x3 x4 x5 x6 x7 = some (r, S') → W p l e (rmH 4) s m args below meth c H locs 0 0 Q (F0 m 55 ls []) := by
  obtain ⟨hx, hb, hml, hown, hts⟩ := id hC.1
  intro n
  induction n with
  | zero => intro S x1 x2 x3 x4 x5 x6 x7 H locs ls hP hS hl hf; rw [f_X8_dredged_55] at hf; cases hf
  | succ n ih =>
    intro S x1 x2 x3 x4 x5 x6 x7 H locs ls hP hS hl hf
    rw [f_X8_dredged_55] at hf
    refine lv_iload hx hb dX8_dredged_55 (lv_at hl 7 rfl) ?_
    refine lv_aload_n hx hb dX8_dredged_57 rfl (lv_at hl 0 rfl) ?_
    refine gFi hC hP (j := 0) sg_30 vc_8 iT8 (by decide) rfl tb_4_71 dX8_dredged_58 ?_
    refine lv_icmp_ge (tgt := 164) hx hb dX8_dredged_61 (by decide) (fun hc => ?_) (fun hc => ?_)
    · rw [if_pos hc] at hf
      exact w_X8_dredged_164 hC hQ  _ _ _ _ _ _ _ hP hS (lv_sub hl [3, 5, 6] rfl) hf
    · rw [if_neg hc] at hf
      refine lv_iload hx hb dX8_dredged_64 (lv_at hl 4 rfl) ?_
      refine lv_ldc hx hb hown (hts _ tb_5_83) dX8_dredged_66 ?_
      refine lv_icmp_ge (tgt := 164) hx hb dX8_dredged_68 (by decide) (fun hc => ?_) (fun hc => ?_)
      · rw [if_pos hc] at hf
        exact w_X8_dredged_164 hC hQ  _ _ _ _ _ _ _ hP hS (lv_sub hl [3, 5, 6] rfl) hf
      · rw [if_neg hc] at hf
        refine lv_aload_n hx hb dX8_dredged_71 rfl (lv_at hl 0 rfl) ?_
        refine gFr hC hP (j := 1) sg_30 vc_8 iT8 (by decide) rfl tb_4_72 dX8_dredged_72 ?_
        refine lv_bipush (v := 6) hx hb dX8_dredged_75 (by decide) ?_
        refine lv_iload hx hb dX8_dredged_77 (lv_at hl 7 rfl) ?_
        refine lv_imul hx hb dX8_dredged_79 ?_
        obtain ⟨v1, hv, hf⟩ := ob_some hf
        refine gIa hC hP hv dX8_dredged_80 ?_
        refine lv_sipush (v := 250) hx hb dX8_dredged_81 (by decide) ?_
        refine lv_icmp_ge (tgt := 158) hx hb dX8_dredged_84 (by decide) (fun hc => ?_) (fun hc => ?_)
        · rw [if_pos hc] at hf
          exact w_X8_dredged_158 hC hQ ih  _ _ _ _ _ _ _ _ _ _ _ hP hS (lv_sub hl [0, 1, 2, 3, 4, 5, 6, 7] rfl) hf
        · rw [if_neg hc] at hf
          refine lv_aload_n hx hb dX8_dredged_87 rfl (lv_at hl 0 rfl) ?_
          refine gFr hC hP (j := 1) sg_30 vc_8 iT8 (by decide) rfl tb_4_72 dX8_dredged_88 ?_
          refine lv_bipush (v := 6) hx hb dX8_dredged_91 (by decide) ?_
          refine lv_iload hx hb dX8_dredged_93 (lv_at hl 7 rfl) ?_
          refine lv_imul hx hb dX8_dredged_95 ?_
          refine lv_dup2_11 hx hb dX8_dredged_96 rfl rfl ?_
          obtain ⟨v2, hv, hf⟩ := ob_some hf
          refine gIa hC hP hv dX8_dredged_97 ?_
          refine lv_iconst (v := 1) hx hb dX8_dredged_98 (by decide) ?_
          refine lv_iadd hx hb dX8_dredged_99 ?_
          obtain ⟨S3, hv, hf⟩ := ob_some hf
          refine sIa hC hP hS hv dX8_dredged_100 (fun H locs hP hS => ?_)
          refine lv_iload hx hb dX8_dredged_101 (lv_at hl 4 rfl) ?_
          refine lv_aload_n hx hb dX8_dredged_103 rfl (lv_at hl 0 rfl) ?_
          refine lv_iload_n hx hb dX8_dredged_104 rfl (lv_at hl 1 rfl) ?_
          refine lv_iload_n hx hb dX8_dredged_105 rfl (lv_at hl 2 rfl) ?_
          obtain ⟨v4, S5, hv, hf⟩ := ob_two hf
          refine cI hS (runV hC hP hS (As := [.int x1, .int x2]) (rest := [.int x4]) (k_X8_quickest l G S3 x1 x2 _ _ hv) vy_X8_quickest sg_30 vc_8 tb_5_89 tb_5_91 ts_42 ⟨Nat.le_of_ble_eq_true rfl, Nat.le_of_ble_eq_true rfl⟩ rfl hl.1 rfl (Nat.le_of_ble_eq_true rfl) dX8_dredged_106) (fun H locs hP hS => ?_)
          refine lv_isub hx hb dX8_dredged_109 ?_
          refine lv_istore (lv' := [(8, .int (x4 - v4)), (0, .ref (ad G 30)), (1, .int x1), (2, .int x2), (3, .int x3), (4, .int x4), (5, .int x5), (6, .int x6), (7, .int x7)]) hx hb dX8_dredged_110 hl (by decide) rfl (fun ls hl => ?_)
          refine lv_aload_n hx hb dX8_dredged_112 rfl (lv_at hl 1 rfl) ?_
          refine gFr hC hP (j := 1) sg_30 vc_8 iT8 (by decide) rfl tb_4_72 dX8_dredged_113 ?_
          refine lv_bipush (v := 6) hx hb dX8_dredged_116 (by decide) ?_
          refine lv_iload hx hb dX8_dredged_118 (lv_at hl 8 rfl) ?_
          refine lv_imul hx hb dX8_dredged_120 ?_
          refine lv_dup2_11 hx hb dX8_dredged_121 rfl rfl ?_
          obtain ⟨v6, hv, hf⟩ := ob_some hf
          refine gIa hC hP hv dX8_dredged_122 ?_
          refine lv_iconst (v := 1) hx hb dX8_dredged_123 (by decide) ?_
          refine lv_isub hx hb dX8_dredged_124 ?_
          obtain ⟨S7, hv, hf⟩ := ob_some hf
          refine sIa hC hP hS hv dX8_dredged_125 (fun H locs hP hS => ?_)
          refine lv_iload hx hb dX8_dredged_126 (lv_at hl 0 rfl) ?_
          refine lv_iload hx hb dX8_dredged_128 (lv_at hl 7 rfl) ?_
          refine lv_icmp_le (tgt := 138) hx hb dX8_dredged_130 (by decide) (fun hc => ?_) (fun hc => ?_)
          · rw [if_pos hc] at hf
            refine lv_iload hx hb dX8_dredged_138 (lv_at hl 6 rfl) ?_
            exact w_X8_dredged_140 hC hQ ih  _ _ _ _ _ _ _ _ _ _ _ _ hP hS (lv_sub hl [1, 2, 3, 4, 5, 7, 8, 0] rfl) hf
          · rw [if_neg hc] at hf
            refine lv_iload hx hb dX8_dredged_133 (lv_at hl 8 rfl) ?_
            refine lv_goto (tgt := 140) hx hb dX8_dredged_135 (by decide) ?_
            exact w_X8_dredged_140 hC hQ ih  _ _ _ _ _ _ _ _ _ _ _ _ hP hS (lv_sub hl [1, 2, 3, 4, 5, 7, 8, 0] rfl) hf
def f_X8_dredged (S : ST) (x1 : Int32) (x2 : Int32) (x3 : Int32) : Option (Int32 × ST) := (f_X8_isShip S x1).bind fun v1 => if v1 = 0 then (some ((-1), S)) else ((f_X8_isStart x2).bind fun v2 => if v2 = 0 then (some ((-1), S)) else ((f_X8_in (x3.toInt64) 0 1).bind fun v3 => if v3 = 0 then (some ((-1), S)) else (if (S.1 30 0) = 0 then (some ((-2), S)) else (b2 (f_X8_quickest S x1 x2) fun v4 S5 => f_X8_dredged_55 FU S5 x1 x2 x3 v4 (-4) (-1) 0))))
set_option maxRecDepth 100000 in
set_option maxHeartbeats 4000000 in
theorem k_X8_dredged (l : Launch) (G : GT) (S : ST) (x1 : Int32) (x2 : Int32) (x3 : Int32) (r : Int32) (S' : ST) (hf : f_X8_dredged S x1 x2 x3 = some (r, S')) : MI l yX8_dredged cX8_dredged 9 (some .int) 4 [.ref (ad G 30), .int x1, .int x2, .int x3] G S r S' := by
  rw [f_X8_dredged] at hf
  refine mkI (own := RX8) (by decide +kernel) rfl rfl (Nat.le_of_ble_eq_true rfl) (fun p e s m args below meth c Q ls hC hP hS hl hQ => ?_)
  have hl : lv_has ls 9 [(0, .ref (ad G 30)), (1, .int x1), (2, .int x2), (3, .int x3)] := hl
  obtain ⟨hx, hb, hml, hown, hts⟩ := id hC.1
  refine lv_aload_n hx hb dX8_dredged_0 rfl (lv_at hl 0 rfl) ?_
  refine lv_iload_n hx hb dX8_dredged_1 rfl (lv_at hl 1 rfl) ?_
  obtain ⟨v1, hv, hf⟩ := ob_some hf
  refine cI hS (runV hC hP hS (As := [.int x1]) (rest := []) (k_X8_isShip l G S x1 _ hv) vy_X8_isShip sg_30 vc_8 tb_5_46 tb_5_48 ts_37 ⟨Nat.le_of_ble_eq_true rfl, Nat.le_of_ble_eq_true rfl⟩ rfl hl.1 rfl (Nat.le_of_ble_eq_true rfl) dX8_dredged_2) (fun H locs hP hS => ?_)
  refine lv_if_eq (tgt := 25) hx hb dX8_dredged_5 (by decide) (fun hc => ?_) (fun hc => ?_)
  · rw [if_pos hc] at hf
    refine lv_iconst (v := (-1)) hx hb dX8_dredged_25 (by decide) ?_
    exact retIw hQ hf hP hS dX8_dredged_26
  · rw [if_neg hc] at hf
    refine lv_iload_n hx hb dX8_dredged_8 rfl (lv_at hl 2 rfl) ?_
    obtain ⟨v2, hv, hf⟩ := ob_some hf
    refine cI hS (runS hC hP hS (As := [.int x2]) (rest := []) (k_X8_isStart l G S x2 _ hv) vy_X8_isStart tb_5_74 tb_5_75 ⟨Nat.le_of_ble_eq_true rfl, Nat.le_of_ble_eq_true rfl⟩ rfl hl.1 rfl (Nat.le_of_ble_eq_true rfl) dX8_dredged_9) (fun H locs hP hS => ?_)
    refine lv_if_eq (tgt := 25) hx hb dX8_dredged_12 (by decide) (fun hc => ?_) (fun hc => ?_)
    · rw [if_pos hc] at hf
      refine lv_iconst (v := (-1)) hx hb dX8_dredged_25 (by decide) ?_
      exact retIw hQ hf hP hS dX8_dredged_26
    · rw [if_neg hc] at hf
      refine lv_iload_n hx hb dX8_dredged_15 rfl (lv_at hl 3 rfl) ?_
      refine lv_i2l (v := x3.toInt64) hx hb dX8_dredged_16 rfl ?_
      refine lv_lconst (v := 0) hx hb dX8_dredged_17 (by decide) ?_
      refine lv_lconst (v := 1) hx hb dX8_dredged_18 (by decide) ?_
      obtain ⟨v3, hv, hf⟩ := ob_some hf
      refine cI hS (runS hC hP hS (As := [.long (x3.toInt64), .long 0, .long 1]) (rest := []) (k_X8_in l G S (x3.toInt64) 0 1 _ hv) vy_X8_in tb_4_169 tb_4_170 ⟨Nat.le_of_ble_eq_true rfl, Nat.le_of_ble_eq_true rfl⟩ rfl hl.1 rfl (Nat.le_of_ble_eq_true rfl) dX8_dredged_19) (fun H locs hP hS => ?_)
      refine lv_if_ne (tgt := 27) hx hb dX8_dredged_22 (by decide) (fun hc => ?_) (fun hc => ?_)
      · rw [if_neg hc] at hf
        refine lv_aload_n hx hb dX8_dredged_27 rfl (lv_at hl 0 rfl) ?_
        refine gFi hC hP (j := 0) sg_30 vc_8 iT8 (by decide) rfl tb_4_71 dX8_dredged_28 ?_
        refine lv_if_ne (tgt := 37) hx hb dX8_dredged_31 (by decide) (fun hc => ?_) (fun hc => ?_)
        · rw [if_neg hc] at hf
          refine lv_aload_n hx hb dX8_dredged_37 rfl (lv_at hl 0 rfl) ?_
          refine lv_iload_n hx hb dX8_dredged_38 rfl (lv_at hl 1 rfl) ?_
          refine lv_iload_n hx hb dX8_dredged_39 rfl (lv_at hl 2 rfl) ?_
          obtain ⟨v4, S5, hv, hf⟩ := ob_two hf
          refine cI hS (runV hC hP hS (As := [.int x1, .int x2]) (rest := []) (k_X8_quickest l G S x1 x2 _ _ hv) vy_X8_quickest sg_30 vc_8 tb_5_89 tb_5_91 ts_42 ⟨Nat.le_of_ble_eq_true rfl, Nat.le_of_ble_eq_true rfl⟩ rfl hl.1 rfl (Nat.le_of_ble_eq_true rfl) dX8_dredged_40) (fun H locs hP hS => ?_)
          refine lv_istore (lv' := [(4, .int v4), (0, .ref (ad G 30)), (1, .int x1), (2, .int x2), (3, .int x3)]) hx hb dX8_dredged_43 hl (by decide) rfl (fun ls hl => ?_)
          refine lv_bipush (v := (-4)) hx hb dX8_dredged_45 (by decide) ?_
          refine lv_istore (lv' := [(5, .int (-4)), (4, .int v4), (0, .ref (ad G 30)), (1, .int x1), (2, .int x2), (3, .int x3)]) hx hb dX8_dredged_47 hl (by decide) rfl (fun ls hl => ?_)
          refine lv_iconst (v := (-1)) hx hb dX8_dredged_49 (by decide) ?_
          refine lv_istore (lv' := [(6, .int (-1)), (5, .int (-4)), (4, .int v4), (0, .ref (ad G 30)), (1, .int x1), (2, .int x2), (3, .int x3)]) hx hb dX8_dredged_50 hl (by decide) rfl (fun ls hl => ?_)
          refine lv_iconst (v := 0) hx hb dX8_dredged_52 (by decide) ?_
          refine lv_istore (lv' := [(7, .int 0), (6, .int (-1)), (5, .int (-4)), (4, .int v4), (0, .ref (ad G 30)), (1, .int x1), (2, .int x2), (3, .int x3)]) hx hb dX8_dredged_53 hl (by decide) rfl (fun ls hl => ?_)
          exact w_X8_dredged_55 hC hQ _ _ _ _ _ _ _ _ _ _ _ _ hP hS (lv_sub hl [4, 5, 6, 7, 3, 2, 1, 0] rfl) hf
        · rw [if_pos hc] at hf
          refine lv_bipush (v := (-2)) hx hb dX8_dredged_34 (by decide) ?_
          exact retIw hQ hf hP hS dX8_dredged_36
      · rw [if_pos hc] at hf
        refine lv_iconst (v := (-1)) hx hb dX8_dredged_25 (by decide) ?_
        exact retIw hQ hf hP hS dX8_dredged_26
end
