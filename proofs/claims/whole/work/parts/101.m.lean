section
variable {p : Program} {l : Launch} {e : Env} {s : State} {m : MethodId} {args : Array Value} {below : List Frame} {meth : Method} {c : Code} {Q : State → Prop} {G : GT}

def f_X4_append_70  : Nat → ST → Int64 → Int32 → Option (Int32 × ST)
  | 0, _, _, _ => none
  | n + 1, S, x1, x4 => if x4 < 0 then (some ((S.1 22 2), S)) else ((wB S 24 (S.1 22 2) ((((us64 x1 (8 * x4)) &&& 255).toInt32).toInt8.toInt32)).bind fun S1 => f_X4_append_70 n (sI S1 22 2 ((S1.1 22 2) + 1)) x1 (x4 + (-1)))
set_option maxRecDepth 100000 in
set_option maxHeartbeats 4000000 in
theorem w_X4_append_70 {r : Int32} {S' : ST} (hC : Cx p m c s args cX4_append 5 RX4 G) (hQ : KI p l e (rmH 2) s m args below meth c Q cX4_append G r S') : ∀ (n : Nat) (S : ST) (x1 : Int64) (x4 : Int32) (H : Heap) (locs : List Loc) (ls : Array Slot), va_P (gD G) vwCl (cells G S) H → va_S (gA G) s.heap H locs → lv_has ls 5 [(0, .ref (ad G 22)), (1, .long x1), (4, .int x4)] → f_X4_append_70 n S x1 x4 = some (r, S') → W p l e (rmH 2) s m args below meth c H locs 0 0 Q (F0 m 70 ls []) := by
  obtain ⟨hx, hb, hml, hown, hts⟩ := id hC.1
  intro n
  induction n with
  | zero => intro S x1 x4 H locs ls hP hS hl hf; rw [f_X4_append_70] at hf; cases hf
  | succ n ih =>
    intro S x1 x4 H locs ls hP hS hl hf
    rw [f_X4_append_70] at hf
    refine lv_iload hx hb dX4_append_70 (lv_at hl 2 rfl) ?_
    refine lv_if_lt (tgt := 113) hx hb dX4_append_72 (by decide) (fun hc => ?_) (fun hc => ?_)
    · rw [if_pos hc] at hf
      refine lv_aload_n hx hb dX4_append_113 rfl (lv_at hl 0 rfl) ?_
      refine gFi hC hP (j := 2) sg_22 vc_4 iT4 (by decide) rfl tb_1_179 dX4_append_114 ?_
      exact retIw hQ hf hP hS dX4_append_117
    · rw [if_neg hc] at hf
      refine lv_aload_n hx hb dX4_append_75 rfl (lv_at hl 0 rfl) ?_
      refine gFr hC hP (j := 1) sg_22 vc_4 iT4 (by decide) rfl tb_1_178 dX4_append_76 ?_
      refine lv_aload_n hx hb dX4_append_79 rfl (lv_at hl 0 rfl) ?_
      refine gFi hC hP (j := 2) sg_22 vc_4 iT4 (by decide) rfl tb_1_179 dX4_append_80 ?_
      refine lv_lload_n hx hb dX4_append_83 rfl (lv_at hl 1 rfl) ?_
      refine lv_bipush (v := 8) hx hb dX4_append_84 (by decide) ?_
      refine lv_iload hx hb dX4_append_86 (lv_at hl 2 rfl) ?_
      refine lv_imul hx hb dX4_append_88 ?_
      refine lv_lushr (v := (us64 x1 (8 * x4))) hx hb dX4_append_89 rfl ?_
      refine lv_ldc2 hx hb hown (hts _ tb_2_77) dX4_append_90 ?_
      refine lv_land hx hb dX4_append_93 ?_
      refine lv_l2i (v := ((us64 x1 (8 * x4)) &&& 255).toInt32) hx hb dX4_append_94 rfl ?_
      refine lv_i2b (v := (((us64 x1 (8 * x4)) &&& 255).toInt32).toInt8.toInt32) hx hb dX4_append_95 rfl ?_
      obtain ⟨S1, hv, hf⟩ := ob_some hf
      refine sBa hC hP hS hv dX4_append_96 (fun H locs hP hS => ?_)
      refine lv_aload_n hx hb dX4_append_97 rfl (lv_at hl 0 rfl) ?_
      refine lv_dup hx hb dX4_append_98 rfl ?_
      refine gFi hC hP (j := 2) sg_22 vc_4 iT4 (by decide) rfl tb_1_179 dX4_append_99 ?_
      refine lv_iconst (v := 1) hx hb dX4_append_102 (by decide) ?_
      refine lv_iadd hx hb dX4_append_103 ?_
      refine pFi hC hP hS (j := 2) sg_22 vc_4 iT4 tyX4_ok nmX4 (by decide) rfl tb_1_179 rfl rfl rfl dX4_append_104 (fun H locs hP hS => ?_)
      refine lv_iinc (v := x4 + (-1)) (lv' := [(4, .int (x4 + (-1))), (0, .ref (ad G 22)), (1, .long x1)]) hx hb dX4_append_107 hl (k := 2) rfl rfl (by decide) rfl (fun ls hl => ?_)
      refine lv_goto (tgt := 70) hx hb dX4_append_110 (by decide) ?_
      exact ih _ _ _ _ _ _ hP hS (lv_sub hl [1, 2, 0] rfl) hf
def f_X4_append_15  : Nat → ST → Int64 → Int32 → Int32 → Option (Int32 × ST)
  | 0, _, _, _, _ => none
  | n + 1, S, x1, x3, x4 => if x3 ≤ x4 then (if ((S.1 22 2) + x3) ≤ 100 then (f_X4_append_70 FU S x1 (x3 - 1)) else (some ((-3), S))) else ((f_X7_within (((us64 x1 (8 * x4)) &&& 255).toInt32) 32 126).bind fun v1 => if v1 = 0 then (some ((-1), S)) else (f_X4_append_15 n S x1 x3 (x4 + 1)))
set_option maxRecDepth 100000 in
set_option maxHeartbeats 4000000 in
theorem w_X4_append_15 {r : Int32} {S' : ST} (hC : Cx p m c s args cX4_append 5 RX4 G) (hQ : KI p l e (rmH 2) s m args below meth c Q cX4_append G r S') : ∀ (n : Nat) (S : ST) (x1 : Int64) (x3 : Int32) (x4 : Int32) (H : Heap) (locs : List Loc) (ls : Array Slot), va_P (gD G) vwCl (cells G S) H → va_S (gA G) s.heap H locs → lv_has ls 5 [(0, .ref (ad G 22)), (1, .long x1), (3, .int x3), (4, .int x4)] → f_X4_append_15 n S x1 x3 x4 = some (r, S') → W p l e (rmH 2) s m args below meth c H locs 0 0 Q (F0 m 15 ls []) := by
  obtain ⟨hx, hb, hml, hown, hts⟩ := id hC.1
  intro n
  induction n with
  | zero => intro S x1 x3 x4 H locs ls hP hS hl hf; rw [f_X4_append_15] at hf; cases hf
  | succ n ih =>
    intro S x1 x3 x4 H locs ls hP hS hl hf
    rw [f_X4_append_15] at hf
    refine lv_iload hx hb dX4_append_15 (lv_at hl 3 rfl) ?_
    refine lv_iload_n hx hb dX4_append_17 rfl (lv_at hl 2 rfl) ?_
    refine lv_icmp_ge (tgt := 51) hx hb dX4_append_18 (by decide) (fun hc => ?_) (fun hc => ?_)
    · rw [if_pos hc] at hf
      refine lv_aload_n hx hb dX4_append_51 rfl (lv_at hl 0 rfl) ?_
      refine gFi hC hP (j := 2) sg_22 vc_4 iT4 (by decide) rfl tb_1_179 dX4_append_52 ?_
      refine lv_iload_n hx hb dX4_append_55 rfl (lv_at hl 2 rfl) ?_
      refine lv_iadd hx hb dX4_append_56 ?_
      refine lv_bipush (v := 100) hx hb dX4_append_57 (by decide) ?_
      refine lv_icmp_le (tgt := 65) hx hb dX4_append_59 (by decide) (fun hc => ?_) (fun hc => ?_)
      · rw [if_pos hc] at hf
        refine lv_iload_n hx hb dX4_append_65 rfl (lv_at hl 2 rfl) ?_
        refine lv_iconst (v := 1) hx hb dX4_append_66 (by decide) ?_
        refine lv_isub hx hb dX4_append_67 ?_
        refine lv_istore (lv' := [(4, .int (x3 - 1)), (0, .ref (ad G 22)), (1, .long x1), (3, .int x3)]) hx hb dX4_append_68 hl (by decide) rfl (fun ls hl => ?_)
        exact w_X4_append_70 hC hQ _ _ _ _ _ _ _ hP hS (lv_sub hl [1, 2, 0] rfl) hf
      · rw [if_neg hc] at hf
        refine lv_bipush (v := (-3)) hx hb dX4_append_62 (by decide) ?_
        exact retIw hQ hf hP hS dX4_append_64
    · rw [if_neg hc] at hf
      refine lv_lload_n hx hb dX4_append_21 rfl (lv_at hl 1 rfl) ?_
      refine lv_bipush (v := 8) hx hb dX4_append_22 (by decide) ?_
      refine lv_iload hx hb dX4_append_24 (lv_at hl 3 rfl) ?_
      refine lv_imul hx hb dX4_append_26 ?_
      refine lv_lushr (v := (us64 x1 (8 * x4))) hx hb dX4_append_27 rfl ?_
      refine lv_ldc2 hx hb hown (hts _ tb_2_77) dX4_append_28 ?_
      refine lv_land hx hb dX4_append_31 ?_
      refine lv_l2i (v := ((us64 x1 (8 * x4)) &&& 255).toInt32) hx hb dX4_append_32 rfl ?_
      refine lv_bipush (v := 32) hx hb dX4_append_33 (by decide) ?_
      refine lv_bipush (v := 126) hx hb dX4_append_35 (by decide) ?_
      obtain ⟨v1, hv, hf⟩ := ob_some hf
      refine cI hS (runSN hC hP hS (As := [.int (((us64 x1 (8 * x4)) &&& 255).toInt32), .int 32, .int 126]) (rest := []) (k_X7_within l G S (((us64 x1 (8 * x4)) &&& 255).toInt32) 32 126 _ hv) vy_X7_within nw_5 tb_2_15 ⟨Nat.le_of_ble_eq_true rfl, Nat.le_of_ble_eq_true rfl⟩ rfl hl.1 rfl (Nat.le_of_ble_eq_true rfl) dX4_append_37) (fun H locs hP hS => ?_)
      refine lv_if_ne (tgt := 45) hx hb dX4_append_40 (by decide) (fun hc => ?_) (fun hc => ?_)
      · rw [if_neg hc] at hf
        refine lv_iinc (v := x4 + 1) (lv' := [(4, .int (x4 + 1)), (0, .ref (ad G 22)), (1, .long x1), (3, .int x3)]) hx hb dX4_append_45 hl (k := 3) rfl rfl (by decide) rfl (fun ls hl => ?_)
        refine lv_goto (tgt := 15) hx hb dX4_append_48 (by decide) ?_
        exact ih _ _ _ _ _ _ _ hP hS (lv_sub hl [1, 2, 3, 0] rfl) hf
      · rw [if_pos hc] at hf
        refine lv_iconst (v := (-1)) hx hb dX4_append_43 (by decide) ?_
        exact retIw hQ hf hP hS dX4_append_44
def f_X4_append (S : ST) (x1 : Int64) (x3 : Int32) : Option (Int32 × ST) := (f_X7_within x3 1 8).bind fun v1 => if v1 = 0 then (some ((-1), S)) else (f_X4_append_15 FU S x1 x3 0)
set_option maxRecDepth 100000 in
set_option maxHeartbeats 4000000 in
theorem k_X4_append (l : Launch) (G : GT) (S : ST) (x1 : Int64) (x3 : Int32) (r : Int32) (S' : ST) (hf : f_X4_append S x1 x3 = some (r, S')) : MI l yX4_append cX4_append 5 (some .int) 2 [.ref (ad G 22), .long x1, .int x3] G S r S' := by
  rw [f_X4_append] at hf
  refine mkI (own := RX4) (by decide +kernel) rfl rfl (Nat.le_of_ble_eq_true rfl) (fun p e s m args below meth c Q ls hC hP hS hl hQ => ?_)
  have hl : lv_has ls 5 [(0, .ref (ad G 22)), (1, .long x1), (3, .int x3)] := hl
  obtain ⟨hx, hb, hml, hown, hts⟩ := id hC.1
  refine lv_iload_n hx hb dX4_append_0 rfl (lv_at hl 2 rfl) ?_
  refine lv_iconst (v := 1) hx hb dX4_append_1 (by decide) ?_
  refine lv_bipush (v := 8) hx hb dX4_append_2 (by decide) ?_
  obtain ⟨v1, hv, hf⟩ := ob_some hf
  refine cI hS (runSN hC hP hS (As := [.int x3, .int 1, .int 8]) (rest := []) (k_X7_within l G S x3 1 8 _ hv) vy_X7_within nw_5 tb_2_15 ⟨Nat.le_of_ble_eq_true rfl, Nat.le_of_ble_eq_true rfl⟩ rfl hl.1 rfl (Nat.le_of_ble_eq_true rfl) dX4_append_4) (fun H locs hP hS => ?_)
  refine lv_if_ne (tgt := 12) hx hb dX4_append_7 (by decide) (fun hc => ?_) (fun hc => ?_)
  · rw [if_neg hc] at hf
    refine lv_iconst (v := 0) hx hb dX4_append_12 (by decide) ?_
    refine lv_istore (lv' := [(4, .int 0), (0, .ref (ad G 22)), (1, .long x1), (3, .int x3)]) hx hb dX4_append_13 hl (by decide) rfl (fun ls hl => ?_)
    exact w_X4_append_15 hC hQ _ _ _ _ _ _ _ _ hP hS (lv_sub hl [1, 2, 3, 0] rfl) hf
  · rw [if_pos hc] at hf
    refine lv_iconst (v := (-1)) hx hb dX4_append_10 (by decide) ?_
    exact retIw hQ hf hP hS dX4_append_11
def f_X7_type (S : ST) (x1 : Int64) (x3 : Int32) : Option (Int32 × ST) := b2 (f_X4_append S x1 x3) fun v1 S2 => some (v1, S2)
set_option maxRecDepth 100000 in
set_option maxHeartbeats 4000000 in
theorem k_X7_type (l : Launch) (G : GT) (S : ST) (x1 : Int64) (x3 : Int32) (r : Int32) (S' : ST) (hf : f_X7_type S x1 x3 = some (r, S')) : MI l yX7_type cX7_type 4 (some .int) 3 [.ref (ad G 0), .long x1, .int x3] G S r S' := by
  rw [f_X7_type] at hf
  refine mkI (own := RX7) (by decide +kernel) rfl rfl (Nat.le_of_ble_eq_true rfl) (fun p e s m args below meth c Q ls hC hP hS hl hQ => ?_)
  have hl : lv_has ls 4 [(0, .ref (ad G 0)), (1, .long x1), (3, .int x3)] := hl
  obtain ⟨hx, hb, hml, hown, hts⟩ := id hC.1
  refine lv_aload_n hx hb dX7_type_0 rfl (lv_at hl 0 rfl) ?_
  refine gFr hC hP (j := 6) sg_0 vc_7 iT7 (by decide) rfl tb_1_218 dX7_type_1 ?_
  refine lv_lload_n hx hb dX7_type_4 rfl (lv_at hl 1 rfl) ?_
  refine lv_iload_n hx hb dX7_type_5 rfl (lv_at hl 2 rfl) ?_
  obtain ⟨v1, S2, hv, hf⟩ := ob_two hf
  refine cI hS (runV hC hP hS (As := [.long x1, .int x3]) (rest := []) (k_X4_append l G S x1 x3 _ _ hv) vy_X4_append sg_22 vc_4 tb_2_72 tb_2_73 tb_2_74 ⟨Nat.le_of_ble_eq_true rfl, Nat.le_of_ble_eq_true rfl⟩ rfl hl.1 rfl (Nat.le_of_ble_eq_true rfl) dX7_type_6) (fun H locs hP hS => ?_)
  exact retIw hQ hf hP hS dX7_type_9
def f_X4_rewind (S : ST)  : Option ST := some (sI (sI S 22 3 0) 22 4 0)
set_option maxRecDepth 100000 in
set_option maxHeartbeats 4000000 in
theorem k_X4_rewind (l : Launch) (G : GT) (S : ST)  (S' : ST) (hf : f_X4_rewind S  = some S') : MV l yX4_rewind cX4_rewind 1 1 [.ref (ad G 22)] G S S' := by
  rw [f_X4_rewind] at hf
  refine mkV (own := RX4) (by decide +kernel) rfl (Nat.le_of_ble_eq_true rfl) (fun p e s m args below meth c Q ls hC hP hS hl hQ => ?_)
  have hl : lv_has ls 1 [(0, .ref (ad G 22))] := hl
  obtain ⟨hx, hb, hml, hown, hts⟩ := id hC.1
  refine lv_aload_n hx hb dX4_rewind_0 rfl (lv_at hl 0 rfl) ?_
  refine lv_iconst (v := 0) hx hb dX4_rewind_1 (by decide) ?_
  refine pFi hC hP hS (j := 3) sg_22 vc_4 iT4 tyX4_ok nmX4 (by decide) rfl tb_1_180 rfl rfl rfl dX4_rewind_2 (fun H locs hP hS => ?_)
  refine lv_aload_n hx hb dX4_rewind_5 rfl (lv_at hl 0 rfl) ?_
  refine lv_iconst (v := 0) hx hb dX4_rewind_6 (by decide) ?_
  refine pFi hC hP hS (j := 4) sg_22 vc_4 iT4 tyX4_ok nmX4 (by decide) rfl tb_1_181 rfl rfl rfl dX4_rewind_7 (fun H locs hP hS => ?_)
  exact retV hQ hf hP hS dX4_rewind_10
def f_X4_skipBlanks_0  : Nat → ST → Option ST
  | 0, _ => none
  | n + 1, S => if (S.1 22 2) ≤ (S.1 22 3) then (some S) else ((rI S 1 24 (S.1 22 3)).bind fun v1 => if v1 = 32 then (f_X4_skipBlanks_0 n (sI S 22 3 ((S.1 22 3) + 1))) else (some S))
set_option maxRecDepth 100000 in
set_option maxHeartbeats 4000000 in
theorem w_X4_skipBlanks_0 {S' : ST} (hC : Cx p m c s args cX4_skipBlanks 1 RX4 G) (hQ : KV p l e (rmH 1) s m args below meth c Q cX4_skipBlanks G S') : ∀ (n : Nat) (S : ST)  (H : Heap) (locs : List Loc) (ls : Array Slot), va_P (gD G) vwCl (cells G S) H → va_S (gA G) s.heap H locs → lv_has ls 1 [(0, .ref (ad G 22))] → f_X4_skipBlanks_0 n S = some S' → W p l e (rmH 1) s m args below meth c H locs 0 0 Q (F0 m 0 ls []) := by
  obtain ⟨hx, hb, hml, hown, hts⟩ := id hC.1
  intro n
  induction n with
  | zero => intro S H locs ls hP hS hl hf; rw [f_X4_skipBlanks_0] at hf; cases hf
  | succ n ih =>
    intro S H locs ls hP hS hl hf
    rw [f_X4_skipBlanks_0] at hf
    refine lv_aload_n hx hb dX4_skipBlanks_0 rfl (lv_at hl 0 rfl) ?_
    refine gFi hC hP (j := 3) sg_22 vc_4 iT4 (by decide) rfl tb_1_180 dX4_skipBlanks_1 ?_
    refine lv_aload_n hx hb dX4_skipBlanks_4 rfl (lv_at hl 0 rfl) ?_
    refine gFi hC hP (j := 2) sg_22 vc_4 iT4 (by decide) rfl tb_1_179 dX4_skipBlanks_5 ?_
    refine lv_icmp_ge (tgt := 38) hx hb dX4_skipBlanks_8 (by decide) (fun hc => ?_) (fun hc => ?_)
    · rw [if_pos hc] at hf
      exact retV hQ hf hP hS dX4_skipBlanks_38
    · rw [if_neg hc] at hf
      refine lv_aload_n hx hb dX4_skipBlanks_11 rfl (lv_at hl 0 rfl) ?_
      refine gFr hC hP (j := 1) sg_22 vc_4 iT4 (by decide) rfl tb_1_178 dX4_skipBlanks_12 ?_
      refine lv_aload_n hx hb dX4_skipBlanks_15 rfl (lv_at hl 0 rfl) ?_
      refine gFi hC hP (j := 3) sg_22 vc_4 iT4 (by decide) rfl tb_1_180 dX4_skipBlanks_16 ?_
      obtain ⟨v1, hv, hf⟩ := ob_some hf
      refine gBa hC hP hv dX4_skipBlanks_19 ?_
      refine lv_bipush (v := 32) hx hb dX4_skipBlanks_20 (by decide) ?_
      refine lv_icmp_ne (tgt := 38) hx hb dX4_skipBlanks_22 (by decide) (fun hc => ?_) (fun hc => ?_)
      · rw [if_neg hc] at hf
        exact retV hQ hf hP hS dX4_skipBlanks_38
      · rw [if_pos hc] at hf
        refine lv_aload_n hx hb dX4_skipBlanks_25 rfl (lv_at hl 0 rfl) ?_
        refine lv_dup hx hb dX4_skipBlanks_26 rfl ?_
        refine gFi hC hP (j := 3) sg_22 vc_4 iT4 (by decide) rfl tb_1_180 dX4_skipBlanks_27 ?_
        refine lv_iconst (v := 1) hx hb dX4_skipBlanks_30 (by decide) ?_
        refine lv_iadd hx hb dX4_skipBlanks_31 ?_
        refine pFi hC hP hS (j := 3) sg_22 vc_4 iT4 tyX4_ok nmX4 (by decide) rfl tb_1_180 rfl rfl rfl dX4_skipBlanks_32 (fun H locs hP hS => ?_)
        refine lv_goto (tgt := 0) hx hb dX4_skipBlanks_35 (by decide) ?_
        exact ih _ _ _ _ hP hS (lv_sub hl [0] rfl) hf
def f_X4_skipBlanks (S : ST)  : Option ST := f_X4_skipBlanks_0 FU S
set_option maxRecDepth 100000 in
set_option maxHeartbeats 4000000 in
theorem k_X4_skipBlanks (l : Launch) (G : GT) (S : ST)  (S' : ST) (hf : f_X4_skipBlanks S  = some S') : MV l yX4_skipBlanks cX4_skipBlanks 1 1 [.ref (ad G 22)] G S S' := by
  rw [f_X4_skipBlanks] at hf
  refine mkV (own := RX4) (by decide +kernel) rfl (Nat.le_of_ble_eq_true rfl) (fun p e s m args below meth c Q ls hC hP hS hl hQ => ?_)
  have hl : lv_has ls 1 [(0, .ref (ad G 22))] := hl
  obtain ⟨hx, hb, hml, hown, hts⟩ := id hC.1
  exact w_X4_skipBlanks_0 hC hQ _ _ _ _ _ hP hS (lv_sub hl [0] rfl) hf
def f_X4_isDigit (x0 : Int32) : Option Int32 := (f_X7_within x0 48 57).bind fun v1 => (bz v1).bind fun v2 => some v2
set_option maxRecDepth 100000 in
set_option maxHeartbeats 4000000 in
theorem k_X4_isDigit (l : Launch) (G : GT) (S : ST) (x0 : Int32) (r : Int32) (hf : f_X4_isDigit x0 = some r) : MI l yX4_isDigit cX4_isDigit 1 (some .boolean) 2 [.int x0] G S r S := by
  rw [f_X4_isDigit] at hf
  refine mkZ (own := RX4) (by decide +kernel) rfl (Nat.le_of_ble_eq_true rfl) (fun p e s m args below meth c Q ls hC hP hS hl hQ => ?_)
  have hl : lv_has ls 1 [(0, .int x0)] := hl
  obtain ⟨hx, hb, hml, hown, hts⟩ := id hC.1
  refine lv_iload_n hx hb dX4_isDigit_0 rfl (lv_at hl 0 rfl) ?_
  refine lv_bipush (v := 48) hx hb dX4_isDigit_1 (by decide) ?_
  refine lv_bipush (v := 57) hx hb dX4_isDigit_3 (by decide) ?_
  obtain ⟨v1, hv, hf⟩ := ob_some hf
  refine cI hS (runSN hC hP hS (As := [.int x0, .int 48, .int 57]) (rest := []) (k_X7_within l G S x0 48 57 _ hv) vy_X7_within nw_5 tb_2_15 ⟨Nat.le_of_ble_eq_true rfl, Nat.le_of_ble_eq_true rfl⟩ rfl hl.1 rfl (Nat.le_of_ble_eq_true rfl) dX4_isDigit_5) (fun H locs hP hS => ?_)
  obtain ⟨v2, hv, hf⟩ := ob_some hf
  refine bzW hv ?_
  exact retZ hQ (bz_n hv) hf hP hS dX4_isDigit_8
def f_J9_min_7cf53 (x0 : Int32) (x1 : Int32) : Option Int32 := if x1 < x0 then (some x1) else (some x0)
set_option maxRecDepth 100000 in
set_option maxHeartbeats 4000000 in
theorem k_J9_min_7cf53 (l : Launch) (G : GT) (S : ST) (x0 : Int32) (x1 : Int32) (r : Int32) (hf : f_J9_min_7cf53 x0 x1 = some r) : MI l yJ9_min_7cf53 cJ9_min_7cf53 2 (some .int) 1 [.int x0, .int x1] G S r S := by
  rw [f_J9_min_7cf53] at hf
  refine mkI (own := RJ9) (by decide +kernel) rfl rfl (Nat.le_of_ble_eq_true rfl) (fun p e s m args below meth c Q ls hC hP hS hl hQ => ?_)
  have hl : lv_has ls 2 [(0, .int x0), (1, .int x1)] := hl
  obtain ⟨hx, hb, hml, hown, hts⟩ := id hC.1
  refine lv_iload_n hx hb dJ9_min_7cf53_0 rfl (lv_at hl 0 rfl) ?_
  refine lv_iload_n hx hb dJ9_min_7cf53_1 rfl (lv_at hl 1 rfl) ?_
  refine lv_icmp_gt (tgt := 9) hx hb dJ9_min_7cf53_2 (by decide) (fun hc => ?_) (fun hc => ?_)
  · rw [if_pos hc] at hf
    refine lv_iload_n hx hb dJ9_min_7cf53_9 rfl (lv_at hl 1 rfl) ?_
    exact retI hQ hf hP hS dJ9_min_7cf53_10
  · rw [if_neg hc] at hf
    refine lv_iload_n hx hb dJ9_min_7cf53_5 rfl (lv_at hl 0 rfl) ?_
    refine lv_goto (tgt := 10) hx hb dJ9_min_7cf53_6 (by decide) ?_
    exact retI hQ hf hP hS dJ9_min_7cf53_10
def f_X4_fail (S : ST) (x1 : Int32) : Option ST := if (S.1 22 4) = 0 then (some (sI S 22 4 ((-20) - x1))) else (some S)
set_option maxRecDepth 100000 in
set_option maxHeartbeats 4000000 in
theorem k_X4_fail (l : Launch) (G : GT) (S : ST) (x1 : Int32) (S' : ST) (hf : f_X4_fail S x1 = some S') : MV l yX4_fail cX4_fail 2 1 [.ref (ad G 22), .int x1] G S S' := by
  rw [f_X4_fail] at hf
  refine mkV (own := RX4) (by decide +kernel) rfl (Nat.le_of_ble_eq_true rfl) (fun p e s m args below meth c Q ls hC hP hS hl hQ => ?_)
  have hl : lv_has ls 2 [(0, .ref (ad G 22)), (1, .int x1)] := hl
  obtain ⟨hx, hb, hml, hown, hts⟩ := id hC.1
  refine lv_aload_n hx hb dX4_fail_0 rfl (lv_at hl 0 rfl) ?_
  refine gFi hC hP (j := 4) sg_22 vc_4 iT4 (by decide) rfl tb_1_181 dX4_fail_1 ?_
  refine lv_if_ne (tgt := 15) hx hb dX4_fail_4 (by decide) (fun hc => ?_) (fun hc => ?_)
  · rw [if_neg hc] at hf
    exact retV hQ hf hP hS dX4_fail_15
  · rw [if_pos hc] at hf
    refine lv_aload_n hx hb dX4_fail_7 rfl (lv_at hl 0 rfl) ?_
    refine lv_bipush (v := (-20)) hx hb dX4_fail_8 (by decide) ?_
    refine lv_iload_n hx hb dX4_fail_10 rfl (lv_at hl 1 rfl) ?_
    refine lv_isub hx hb dX4_fail_11 ?_
    refine pFi hC hP hS (j := 4) sg_22 vc_4 iT4 tyX4_ok nmX4 (by decide) rfl tb_1_181 rfl rfl rfl dX4_fail_12 (fun H locs hP hS => ?_)
    exact retV hQ hf hP hS dX4_fail_15
def f_X4_number_95  (S : ST) (x3 : Int32) (x4 : Int32) : Option (Int32 × ST) := (f_X4_fail S x3).bind fun S1 => some (x4, S1)
set_option maxRecDepth 100000 in
set_option maxHeartbeats 4000000 in
theorem w_X4_number_95 {r : Int32} {S' : ST} (hC : Cx p m c s args cX4_number 5 RX4 G) (hQ : KI p l e (rmH 3) s m args below meth c Q cX4_number G r S') (S : ST) (x3 : Int32) (x4 : Int32) (H : Heap) (locs : List Loc) (ls : Array Slot) (hP : va_P (gD G) vwCl (cells G S) H) (hS : va_S (gA G) s.heap H locs) (hl : lv_has ls 5 [(0, .ref (ad G 22)), (3, .int x3), (4, .int x4)]) (hf : f_X4_number_95 S x3 x4 = some (r, S')) : W p l e (rmH 3) s m args below meth c H locs 0 0 Q (F0 m 95 ls []) := by
  obtain ⟨hx, hb, hml, hown, hts⟩ := id hC.1
  rw [f_X4_number_95] at hf
  refine lv_aload_n hx hb dX4_number_95 rfl (lv_at hl 0 rfl) ?_
  refine lv_iload_n hx hb dX4_number_96 rfl (lv_at hl 1 rfl) ?_
  obtain ⟨S1, hv, hf⟩ := ob_some hf
  refine cV hS (runV hC hP hS (As := [.int x3]) (rest := []) (k_X4_fail l G S x3 _ hv) vy_X4_fail sg_22 vc_4 tb_2_114 tb_2_116 ts_5 ⟨Nat.le_of_ble_eq_true rfl, Nat.le_of_ble_eq_true rfl⟩ rfl hl.1 rfl (Nat.le_of_ble_eq_true rfl) dX4_number_97) (fun H locs hP hS => ?_)
  refine lv_iload hx hb dX4_number_100 (lv_at hl 2 rfl) ?_
  exact retIw hQ hf hP hS dX4_number_102
def f_X4_number_77  (S : ST) (x1 : Int32) (x2 : Int32) (x3 : Int32) (x4 : Int32) : Option (Int32 × ST) := if (S.1 22 3) = x3 then (f_X4_number_95 S x3 x4) else ((f_X7_within x4 x1 x2).bind fun v1 => if v1 = 0 then (f_X4_number_95 S x3 x4) else (some (x4, S)))
set_option maxRecDepth 100000 in
set_option maxHeartbeats 4000000 in
theorem w_X4_number_77 {r : Int32} {S' : ST} (hC : Cx p m c s args cX4_number 5 RX4 G) (hQ : KI p l e (rmH 3) s m args below meth c Q cX4_number G r S') (S : ST) (x1 : Int32) (x2 : Int32) (x3 : Int32) (x4 : Int32) (H : Heap) (locs : List Loc) (ls : Array Slot) (hP : va_P (gD G) vwCl (cells G S) H) (hS : va_S (gA G) s.heap H locs) (hl : lv_has ls 5 [(0, .ref (ad G 22)), (1, .int x1), (2, .int x2), (3, .int x3), (4, .int x4)]) (hf : f_X4_number_77 S x1 x2 x3 x4 = some (r, S')) : W p l e (rmH 3) s m args below meth c H locs 0 0 Q (F0 m 77 ls []) := by
  obtain ⟨hx, hb, hml, hown, hts⟩ := id hC.1
  rw [f_X4_number_77] at hf
  refine lv_aload_n hx hb dX4_number_77 rfl (lv_at hl 0 rfl) ?_
  refine gFi hC hP (j := 3) sg_22 vc_4 iT4 (by decide) rfl tb_1_180 dX4_number_78 ?_
  refine lv_iload_n hx hb dX4_number_81 rfl (lv_at hl 3 rfl) ?_
  refine lv_icmp_eq (tgt := 95) hx hb dX4_number_82 (by decide) (fun hc => ?_) (fun hc => ?_)
  · rw [if_pos hc] at hf
    exact w_X4_number_95 hC hQ  _ _ _ _ _ _ hP hS (lv_sub hl [0, 3, 4] rfl) hf
  · rw [if_neg hc] at hf
    refine lv_iload hx hb dX4_number_85 (lv_at hl 4 rfl) ?_
    refine lv_iload_n hx hb dX4_number_87 rfl (lv_at hl 1 rfl) ?_
    refine lv_iload_n hx hb dX4_number_88 rfl (lv_at hl 2 rfl) ?_
    obtain ⟨v1, hv, hf⟩ := ob_some hf
    refine cI hS (runSN hC hP hS (As := [.int x4, .int x1, .int x2]) (rest := []) (k_X7_within l G S x4 x1 x2 _ hv) vy_X7_within nw_5 tb_2_15 ⟨Nat.le_of_ble_eq_true rfl, Nat.le_of_ble_eq_true rfl⟩ rfl hl.1 rfl (Nat.le_of_ble_eq_true rfl) dX4_number_89) (fun H locs hP hS => ?_)
    refine lv_if_ne (tgt := 100) hx hb dX4_number_92 (by decide) (fun hc => ?_) (fun hc => ?_)
    · rw [if_neg hc] at hf
      refine lv_iload hx hb dX4_number_100 (lv_at hl 4 rfl) ?_
      exact retIw hQ hf hP hS dX4_number_102
    · rw [if_pos hc] at hf
      exact w_X4_number_95 hC hQ  _ _ _ _ _ _ hP hS (lv_sub hl [0, 3, 4] rfl) hf
def f_X4_number_12  : Nat → ST → Int32 → Int32 → Int32 → Int32 → Option (Int32 × ST)
  | 0, _, _, _, _, _ => none
  | n + 1, S, x1, x2, x3, x4 => if (S.1 22 2) ≤ (S.1 22 3) then (f_X4_number_77 S x1 x2 x3 x4) else ((rI S 1 24 (S.1 22 3)).bind fun v1 => (f_X4_isDigit v1).bind fun v2 => if v2 = 0 then (f_X4_number_77 S x1 x2 x3 x4) else ((rI S 1 24 (S.1 22 3)).bind fun v3 => (f_J9_min_7cf53 1000 (((10 * x4) + v3) - 48)).bind fun v4 => f_X4_number_12 n (sI S 22 3 ((S.1 22 3) + 1)) x1 x2 x3 v4))
set_option maxRecDepth 100000 in
set_option maxHeartbeats 4000000 in
theorem w_X4_number_12 {r : Int32} {S' : ST} (hC : Cx p m c s args cX4_number 5 RX4 G) (hQ : KI p l e (rmH 3) s m args below meth c Q cX4_number G r S') : ∀ (n : Nat) (S : ST) (x1 : Int32) (x2 : Int32) (x3 : Int32) (x4 : Int32) (H : Heap) (locs : List Loc) (ls : Array Slot), va_P (gD G) vwCl (cells G S) H → va_S (gA G) s.heap H locs → lv_has ls 5 [(0, .ref (ad G 22)), (1, .int x1), (2, .int x2), (3, .int x3), (4, .int x4)] → f_X4_number_12 n S x1 x2 x3 x4 = some (r, S') → W p l e (rmH 3) s m args below meth c H locs 0 0 Q (F0 m 12 ls []) := by
  obtain ⟨hx, hb, hml, hown, hts⟩ := id hC.1
  intro n
  induction n with
  | zero => intro S x1 x2 x3 x4 H locs ls hP hS hl hf; rw [f_X4_number_12] at hf; cases hf
  | succ n ih =>
    intro S x1 x2 x3 x4 H locs ls hP hS hl hf
    rw [f_X4_number_12] at hf
    refine lv_aload_n hx hb dX4_number_12 rfl (lv_at hl 0 rfl) ?_
    refine gFi hC hP (j := 3) sg_22 vc_4 iT4 (by decide) rfl tb_1_180 dX4_number_13 ?_
    refine lv_aload_n hx hb dX4_number_16 rfl (lv_at hl 0 rfl) ?_
    refine gFi hC hP (j := 2) sg_22 vc_4 iT4 (by decide) rfl tb_1_179 dX4_number_17 ?_
    refine lv_icmp_ge (tgt := 77) hx hb dX4_number_20 (by decide) (fun hc => ?_) (fun hc => ?_)
    · rw [if_pos hc] at hf
      exact w_X4_number_77 hC hQ  _ _ _ _ _ _ _ _ hP hS (lv_sub hl [0, 1, 2, 3, 4] rfl) hf
    · rw [if_neg hc] at hf
      refine lv_aload_n hx hb dX4_number_23 rfl (lv_at hl 0 rfl) ?_
      refine gFr hC hP (j := 1) sg_22 vc_4 iT4 (by decide) rfl tb_1_178 dX4_number_24 ?_
      refine lv_aload_n hx hb dX4_number_27 rfl (lv_at hl 0 rfl) ?_
      refine gFi hC hP (j := 3) sg_22 vc_4 iT4 (by decide) rfl tb_1_180 dX4_number_28 ?_
      obtain ⟨v1, hv, hf⟩ := ob_some hf
      refine gBa hC hP hv dX4_number_31 ?_
      obtain ⟨v2, hv, hf⟩ := ob_some hf
      refine cI hS (runS hC hP hS (As := [.int v1]) (rest := []) (k_X4_isDigit l G S v1 _ hv) vy_X4_isDigit tb_2_108 tb_2_109 ⟨Nat.le_of_ble_eq_true rfl, Nat.le_of_ble_eq_true rfl⟩ rfl hl.1 rfl (Nat.le_of_ble_eq_true rfl) dX4_number_32) (fun H locs hP hS => ?_)
      refine lv_if_eq (tgt := 77) hx hb dX4_number_35 (by decide) (fun hc => ?_) (fun hc => ?_)
      · rw [if_pos hc] at hf
        exact w_X4_number_77 hC hQ  _ _ _ _ _ _ _ _ hP hS (lv_sub hl [0, 1, 2, 3, 4] rfl) hf
      · rw [if_neg hc] at hf
        refine lv_sipush (v := 1000) hx hb dX4_number_38 (by decide) ?_
        refine lv_bipush (v := 10) hx hb dX4_number_41 (by decide) ?_
        refine lv_iload hx hb dX4_number_43 (lv_at hl 4 rfl) ?_
        refine lv_imul hx hb dX4_number_45 ?_
        refine lv_aload_n hx hb dX4_number_46 rfl (lv_at hl 0 rfl) ?_
        refine gFr hC hP (j := 1) sg_22 vc_4 iT4 (by decide) rfl tb_1_178 dX4_number_47 ?_
        refine lv_aload_n hx hb dX4_number_50 rfl (lv_at hl 0 rfl) ?_
        refine gFi hC hP (j := 3) sg_22 vc_4 iT4 (by decide) rfl tb_1_180 dX4_number_51 ?_
        obtain ⟨v3, hv, hf⟩ := ob_some hf
        refine gBa hC hP hv dX4_number_54 ?_
        refine lv_iadd hx hb dX4_number_55 ?_
        refine lv_bipush (v := 48) hx hb dX4_number_56 (by decide) ?_
        refine lv_isub hx hb dX4_number_58 ?_
        obtain ⟨v4, hv, hf⟩ := ob_some hf
        refine cI hS (runS hC hP hS (As := [.int 1000, .int (((10 * x4) + v3) - 48)]) (rest := []) (k_J9_min_7cf53 l G S 1000 (((10 * x4) + v3) - 48) _ hv) vy_J9_min_7cf53 tb_2_111 tb_2_112 ⟨Nat.le_of_ble_eq_true rfl, Nat.le_of_ble_eq_true rfl⟩ rfl hl.1 rfl (Nat.le_of_ble_eq_true rfl) dX4_number_59) (fun H locs hP hS => ?_)
        refine lv_istore (lv' := [(4, .int v4), (0, .ref (ad G 22)), (1, .int x1), (2, .int x2), (3, .int x3)]) hx hb dX4_number_62 hl (by decide) rfl (fun ls hl => ?_)
        refine lv_aload_n hx hb dX4_number_64 rfl (lv_at hl 1 rfl) ?_
        refine lv_dup hx hb dX4_number_65 rfl ?_
        refine gFi hC hP (j := 3) sg_22 vc_4 iT4 (by decide) rfl tb_1_180 dX4_number_66 ?_
        refine lv_iconst (v := 1) hx hb dX4_number_69 (by decide) ?_
        refine lv_iadd hx hb dX4_number_70 ?_
        refine pFi hC hP hS (j := 3) sg_22 vc_4 iT4 tyX4_ok nmX4 (by decide) rfl tb_1_180 rfl rfl rfl dX4_number_71 (fun H locs hP hS => ?_)
        refine lv_goto (tgt := 12) hx hb dX4_number_74 (by decide) ?_
        exact ih _ _ _ _ _ _ _ _ hP hS (lv_sub hl [1, 2, 3, 4, 0] rfl) hf
def f_X4_number (S : ST) (x1 : Int32) (x2 : Int32) : Option (Int32 × ST) := (f_X4_skipBlanks S).bind fun S1 => f_X4_number_12 FU S1 x1 x2 (S1.1 22 3) 0
set_option maxRecDepth 100000 in
set_option maxHeartbeats 4000000 in
theorem k_X4_number (l : Launch) (G : GT) (S : ST) (x1 : Int32) (x2 : Int32) (r : Int32) (S' : ST) (hf : f_X4_number S x1 x2 = some (r, S')) : MI l yX4_number cX4_number 5 (some .int) 3 [.ref (ad G 22), .int x1, .int x2] G S r S' := by
  rw [f_X4_number] at hf
  refine mkI (own := RX4) (by decide +kernel) rfl rfl (Nat.le_of_ble_eq_true rfl) (fun p e s m args below meth c Q ls hC hP hS hl hQ => ?_)
  have hl : lv_has ls 5 [(0, .ref (ad G 22)), (1, .int x1), (2, .int x2)] := hl
  obtain ⟨hx, hb, hml, hown, hts⟩ := id hC.1
  refine lv_aload_n hx hb dX4_number_0 rfl (lv_at hl 0 rfl) ?_
  obtain ⟨S1, hv, hf⟩ := ob_some hf
  refine cV hS (runV hC hP hS (As := []) (rest := []) (k_X4_skipBlanks l G S _ hv) vy_X4_skipBlanks sg_22 vc_4 tb_2_104 tb_2_106 ts_4 ⟨Nat.le_of_ble_eq_true rfl, Nat.le_of_ble_eq_true rfl⟩ rfl hl.1 rfl (Nat.le_of_ble_eq_true rfl) dX4_number_1) (fun H locs hP hS => ?_)
  refine lv_aload_n hx hb dX4_number_4 rfl (lv_at hl 0 rfl) ?_
  refine gFi hC hP (j := 3) sg_22 vc_4 iT4 (by decide) rfl tb_1_180 dX4_number_5 ?_
  refine lv_istore_n (lv' := [(3, .int (S1.1 22 3)), (0, .ref (ad G 22)), (1, .int x1), (2, .int x2)]) hx hb dX4_number_8 rfl hl (by decide) rfl (fun ls hl => ?_)
  refine lv_iconst (v := 0) hx hb dX4_number_9 (by decide) ?_
  refine lv_istore (lv' := [(4, .int 0), (3, .int (S1.1 22 3)), (0, .ref (ad G 22)), (1, .int x1), (2, .int x2)]) hx hb dX4_number_10 hl (by decide) rfl (fun ls hl => ?_)
  exact w_X4_number_12 hC hQ _ _ _ _ _ _ _ _ _ hP hS (lv_sub hl [2, 3, 4, 1, 0] rfl) hf
def f_X4_mark (S : ST) (x1 : Int32) : Option (Int32 × ST) := (rS 2 x1).bind fun v1 => (rS 3 x1).bind fun v2 => b2 (f_X4_number S v1 v2) fun v3 S4 => some (v3, S4)
set_option maxRecDepth 100000 in
set_option maxHeartbeats 4000000 in
theorem k_X4_mark (l : Launch) (G : GT) (S : ST) (x1 : Int32) (r : Int32) (S' : ST) (hf : f_X4_mark S x1 = some (r, S')) : MI l yX4_mark cX4_mark 2 (some .int) 4 [.ref (ad G 22), .int x1] G S r S' := by
  rw [f_X4_mark] at hf
  refine mkI (own := RX4) (by decide +kernel) rfl rfl (Nat.le_of_ble_eq_true rfl) (fun p e s m args below meth c Q ls hC hP hS hl hQ => ?_)
  have hl : lv_has ls 2 [(0, .ref (ad G 22)), (1, .int x1)] := hl
  obtain ⟨hx, hb, hml, hown, hts⟩ := id hC.1
  refine lv_aload_n hx hb dX4_mark_0 rfl (lv_at hl 0 rfl) ?_
  refine gStN hC hS (j := 2) (by decide) nw_6 dX4_mark_1 ?_
  refine lv_iload_n hx hb dX4_mark_4 rfl (lv_at hl 1 rfl) ?_
  obtain ⟨v1, hv, hf⟩ := ob_some hf
  refine gSi hC hS (by decide) hv dX4_mark_5 ?_
  refine gStN hC hS (j := 3) (by decide) nw_7 dX4_mark_6 ?_
  refine lv_iload_n hx hb dX4_mark_9 rfl (lv_at hl 1 rfl) ?_
  obtain ⟨v2, hv, hf⟩ := ob_some hf
  refine gSi hC hS (by decide) hv dX4_mark_10 ?_
  obtain ⟨v3, S4, hv, hf⟩ := ob_two hf
  refine cI hS (runV hC hP hS (As := [.int v1, .int v2]) (rest := []) (k_X4_number l G S v1 v2 _ _ hv) vy_X4_number sg_22 vc_4 tb_2_100 tb_2_102 ts_3 ⟨Nat.le_of_ble_eq_true rfl, Nat.le_of_ble_eq_true rfl⟩ rfl hl.1 rfl (Nat.le_of_ble_eq_true rfl) dX4_mark_11) (fun H locs hP hS => ?_)
  exact retIw hQ hf hP hS dX4_mark_14
def f_X4_takes (S : ST) (x1 : Int32) : Option (Int32 × ST) := (f_X4_skipBlanks S).bind fun S1 => if (S1.1 22 2) ≤ (S1.1 22 3) then (some (0, S1)) else ((rI S1 1 24 (S1.1 22 3)).bind fun v2 => if v2 = x1 then (some (1, (sI S1 22 3 ((S1.1 22 3) + 1)))) else (some (0, S1)))
set_option maxRecDepth 100000 in
set_option maxHeartbeats 4000000 in
theorem k_X4_takes (l : Launch) (G : GT) (S : ST) (x1 : Int32) (r : Int32) (S' : ST) (hf : f_X4_takes S x1 = some (r, S')) : MI l yX4_takes cX4_takes 2 (some .boolean) 2 [.ref (ad G 22), .int x1] G S r S' := by
  rw [f_X4_takes] at hf
  refine mkZ (own := RX4) (by decide +kernel) rfl (Nat.le_of_ble_eq_true rfl) (fun p e s m args below meth c Q ls hC hP hS hl hQ => ?_)
  have hl : lv_has ls 2 [(0, .ref (ad G 22)), (1, .int x1)] := hl
  obtain ⟨hx, hb, hml, hown, hts⟩ := id hC.1
  refine lv_aload_n hx hb dX4_takes_0 rfl (lv_at hl 0 rfl) ?_
  obtain ⟨S1, hv, hf⟩ := ob_some hf
  refine cV hS (runV hC hP hS (As := []) (rest := []) (k_X4_skipBlanks l G S _ hv) vy_X4_skipBlanks sg_22 vc_4 tb_2_104 tb_2_106 ts_4 ⟨Nat.le_of_ble_eq_true rfl, Nat.le_of_ble_eq_true rfl⟩ rfl hl.1 rfl (Nat.le_of_ble_eq_true rfl) dX4_takes_1) (fun H locs hP hS => ?_)
  refine lv_aload_n hx hb dX4_takes_4 rfl (lv_at hl 0 rfl) ?_
  refine gFi hC hP (j := 3) sg_22 vc_4 iT4 (by decide) rfl tb_1_180 dX4_takes_5 ?_
  refine lv_aload_n hx hb dX4_takes_8 rfl (lv_at hl 0 rfl) ?_
  refine gFi hC hP (j := 2) sg_22 vc_4 iT4 (by decide) rfl tb_1_179 dX4_takes_9 ?_
  refine lv_icmp_ge (tgt := 40) hx hb dX4_takes_12 (by decide) (fun hc => ?_) (fun hc => ?_)
  · rw [if_pos hc] at hf
    refine lv_iconst (v := 0) hx hb dX4_takes_40 (by decide) ?_
    exact retZw hQ rfl hf hP hS dX4_takes_41
  · rw [if_neg hc] at hf
    refine lv_aload_n hx hb dX4_takes_15 rfl (lv_at hl 0 rfl) ?_
    refine gFr hC hP (j := 1) sg_22 vc_4 iT4 (by decide) rfl tb_1_178 dX4_takes_16 ?_
    refine lv_aload_n hx hb dX4_takes_19 rfl (lv_at hl 0 rfl) ?_
    refine gFi hC hP (j := 3) sg_22 vc_4 iT4 (by decide) rfl tb_1_180 dX4_takes_20 ?_
    obtain ⟨v2, hv, hf⟩ := ob_some hf
    refine gBa hC hP hv dX4_takes_23 ?_
    refine lv_iload_n hx hb dX4_takes_24 rfl (lv_at hl 1 rfl) ?_
    refine lv_icmp_ne (tgt := 40) hx hb dX4_takes_25 (by decide) (fun hc => ?_) (fun hc => ?_)
    · rw [if_neg hc] at hf
      refine lv_iconst (v := 0) hx hb dX4_takes_40 (by decide) ?_
      exact retZw hQ rfl hf hP hS dX4_takes_41
    · rw [if_pos hc] at hf
      refine lv_aload_n hx hb dX4_takes_28 rfl (lv_at hl 0 rfl) ?_
      refine lv_dup hx hb dX4_takes_29 rfl ?_
      refine gFi hC hP (j := 3) sg_22 vc_4 iT4 (by decide) rfl tb_1_180 dX4_takes_30 ?_
      refine lv_iconst (v := 1) hx hb dX4_takes_33 (by decide) ?_
      refine lv_iadd hx hb dX4_takes_34 ?_
      refine pFi hC hP hS (j := 3) sg_22 vc_4 iT4 tyX4_ok nmX4 (by decide) rfl tb_1_180 rfl rfl rfl dX4_takes_35 (fun H locs hP hS => ?_)
      refine lv_iconst (v := 1) hx hb dX4_takes_38 (by decide) ?_
      exact retZw hQ rfl hf hP hS dX4_takes_39
def f_X4_expect (S : ST) (x1 : Int32) : Option ST := b2 (f_X4_takes S x1) fun v1 S2 => if v1 = 0 then ((f_X4_fail S2 (S2.1 22 3)).bind fun S3 => some S3) else (some S2)
set_option maxRecDepth 100000 in
set_option maxHeartbeats 4000000 in
theorem k_X4_expect (l : Launch) (G : GT) (S : ST) (x1 : Int32) (S' : ST) (hf : f_X4_expect S x1 = some S') : MV l yX4_expect cX4_expect 2 3 [.ref (ad G 22), .int x1] G S S' := by
  rw [f_X4_expect] at hf
  refine mkV (own := RX4) (by decide +kernel) rfl (Nat.le_of_ble_eq_true rfl) (fun p e s m args below meth c Q ls hC hP hS hl hQ => ?_)
  have hl : lv_has ls 2 [(0, .ref (ad G 22)), (1, .int x1)] := hl
  obtain ⟨hx, hb, hml, hown, hts⟩ := id hC.1
  refine lv_aload_n hx hb dX4_expect_0 rfl (lv_at hl 0 rfl) ?_
  refine lv_iload_n hx hb dX4_expect_1 rfl (lv_at hl 1 rfl) ?_
  obtain ⟨v1, S2, hv, hf⟩ := ob_two hf
  refine cI hS (runV hC hP hS (As := [.int x1]) (rest := []) (k_X4_takes l G S x1 _ _ hv) vy_X4_takes sg_22 vc_4 tb_2_122 tb_2_124 ts_7 ⟨Nat.le_of_ble_eq_true rfl, Nat.le_of_ble_eq_true rfl⟩ rfl hl.1 rfl (Nat.le_of_ble_eq_true rfl) dX4_expect_2) (fun H locs hP hS => ?_)
  refine lv_if_ne (tgt := 16) hx hb dX4_expect_5 (by decide) (fun hc => ?_) (fun hc => ?_)
  · rw [if_neg hc] at hf
    exact retV hQ hf hP hS dX4_expect_16
  · rw [if_pos hc] at hf
    refine lv_aload_n hx hb dX4_expect_8 rfl (lv_at hl 0 rfl) ?_
    refine lv_aload_n hx hb dX4_expect_9 rfl (lv_at hl 0 rfl) ?_
    refine gFi hC hP (j := 3) sg_22 vc_4 iT4 (by decide) rfl tb_1_180 dX4_expect_10 ?_
    obtain ⟨S3, hv, hf⟩ := ob_some hf
    refine cV hS (runV hC hP hS (As := [.int (S2.1 22 3)]) (rest := []) (k_X4_fail l G S2 (S2.1 22 3) _ hv) vy_X4_fail sg_22 vc_4 tb_2_114 tb_2_116 ts_5 ⟨Nat.le_of_ble_eq_true rfl, Nat.le_of_ble_eq_true rfl⟩ rfl hl.1 rfl (Nat.le_of_ble_eq_true rfl) dX4_expect_13) (fun H locs hP hS => ?_)
    exact retV hQ hf hP hS dX4_expect_16
def f_X4_digit_55  (S : ST)  : Option (Int32 × ST) := (f_X4_fail S (S.1 22 3)).bind fun S1 => some (0, S1)
set_option maxRecDepth 100000 in
set_option maxHeartbeats 4000000 in
theorem w_X4_digit_55 {r : Int32} {S' : ST} (hC : Cx p m c s args cX4_digit 1 RX4 G) (hQ : KI p l e (rmH 3) s m args below meth c Q cX4_digit G r S') (S : ST)  (H : Heap) (locs : List Loc) (ls : Array Slot) (hP : va_P (gD G) vwCl (cells G S) H) (hS : va_S (gA G) s.heap H locs) (hl : lv_has ls 1 [(0, .ref (ad G 22))]) (hf : f_X4_digit_55 S = some (r, S')) : W p l e (rmH 3) s m args below meth c H locs 0 0 Q (F0 m 55 ls []) := by
  obtain ⟨hx, hb, hml, hown, hts⟩ := id hC.1
  rw [f_X4_digit_55] at hf
  refine lv_aload_n hx hb dX4_digit_55 rfl (lv_at hl 0 rfl) ?_
  refine lv_aload_n hx hb dX4_digit_56 rfl (lv_at hl 0 rfl) ?_
  refine gFi hC hP (j := 3) sg_22 vc_4 iT4 (by decide) rfl tb_1_180 dX4_digit_57 ?_
  obtain ⟨S1, hv, hf⟩ := ob_some hf
  refine cV hS (runV hC hP hS (As := [.int (S.1 22 3)]) (rest := []) (k_X4_fail l G S (S.1 22 3) _ hv) vy_X4_fail sg_22 vc_4 tb_2_114 tb_2_116 ts_5 ⟨Nat.le_of_ble_eq_true rfl, Nat.le_of_ble_eq_true rfl⟩ rfl hl.1 rfl (Nat.le_of_ble_eq_true rfl) dX4_digit_60) (fun H locs hP hS => ?_)
  refine lv_iconst (v := 0) hx hb dX4_digit_63 (by decide) ?_
  exact retIw hQ hf hP hS dX4_digit_64
def f_X4_digit (S : ST)  : Option (Int32 × ST) := (f_X4_skipBlanks S).bind fun S1 => if (S1.1 22 2) ≤ (S1.1 22 3) then (f_X4_digit_55 S1) else ((rI S1 1 24 (S1.1 22 3)).bind fun v2 => (f_X4_isDigit v2).bind fun v3 => if v3 = 0 then (f_X4_digit_55 S1) else ((rI (sI S1 22 3 ((S1.1 22 3) + 1)) 1 24 (((sI S1 22 3 ((S1.1 22 3) + 1)).1 22 3) - 1)).bind fun v4 => some ((v4 - 48), (sI S1 22 3 ((S1.1 22 3) + 1)))))
set_option maxRecDepth 100000 in
set_option maxHeartbeats 4000000 in
theorem k_X4_digit (l : Launch) (G : GT) (S : ST)  (r : Int32) (S' : ST) (hf : f_X4_digit S  = some (r, S')) : MI l yX4_digit cX4_digit 1 (some .int) 3 [.ref (ad G 22)] G S r S' := by
  rw [f_X4_digit] at hf
  refine mkI (own := RX4) (by decide +kernel) rfl rfl (Nat.le_of_ble_eq_true rfl) (fun p e s m args below meth c Q ls hC hP hS hl hQ => ?_)
  have hl : lv_has ls 1 [(0, .ref (ad G 22))] := hl
  obtain ⟨hx, hb, hml, hown, hts⟩ := id hC.1
  refine lv_aload_n hx hb dX4_digit_0 rfl (lv_at hl 0 rfl) ?_
  obtain ⟨S1, hv, hf⟩ := ob_some hf
  refine cV hS (runV hC hP hS (As := []) (rest := []) (k_X4_skipBlanks l G S _ hv) vy_X4_skipBlanks sg_22 vc_4 tb_2_104 tb_2_106 ts_4 ⟨Nat.le_of_ble_eq_true rfl, Nat.le_of_ble_eq_true rfl⟩ rfl hl.1 rfl (Nat.le_of_ble_eq_true rfl) dX4_digit_1) (fun H locs hP hS => ?_)
  refine lv_aload_n hx hb dX4_digit_4 rfl (lv_at hl 0 rfl) ?_
  refine gFi hC hP (j := 3) sg_22 vc_4 iT4 (by decide) rfl tb_1_180 dX4_digit_5 ?_
  refine lv_aload_n hx hb dX4_digit_8 rfl (lv_at hl 0 rfl) ?_
  refine gFi hC hP (j := 2) sg_22 vc_4 iT4 (by decide) rfl tb_1_179 dX4_digit_9 ?_
  refine lv_icmp_ge (tgt := 55) hx hb dX4_digit_12 (by decide) (fun hc => ?_) (fun hc => ?_)
  · rw [if_pos hc] at hf
    exact w_X4_digit_55 hC hQ  _ _ _ _ hP hS (lv_sub hl [0] rfl) hf
  · rw [if_neg hc] at hf
    refine lv_aload_n hx hb dX4_digit_15 rfl (lv_at hl 0 rfl) ?_
    refine gFr hC hP (j := 1) sg_22 vc_4 iT4 (by decide) rfl tb_1_178 dX4_digit_16 ?_
    refine lv_aload_n hx hb dX4_digit_19 rfl (lv_at hl 0 rfl) ?_
    refine gFi hC hP (j := 3) sg_22 vc_4 iT4 (by decide) rfl tb_1_180 dX4_digit_20 ?_
    obtain ⟨v2, hv, hf⟩ := ob_some hf
    refine gBa hC hP hv dX4_digit_23 ?_
    obtain ⟨v3, hv, hf⟩ := ob_some hf
    refine cI hS (runS hC hP hS (As := [.int v2]) (rest := []) (k_X4_isDigit l G S1 v2 _ hv) vy_X4_isDigit tb_2_108 tb_2_109 ⟨Nat.le_of_ble_eq_true rfl, Nat.le_of_ble_eq_true rfl⟩ rfl hl.1 rfl (Nat.le_of_ble_eq_true rfl) dX4_digit_24) (fun H locs hP hS => ?_)
    refine lv_if_eq (tgt := 55) hx hb dX4_digit_27 (by decide) (fun hc => ?_) (fun hc => ?_)
    · rw [if_pos hc] at hf
      exact w_X4_digit_55 hC hQ  _ _ _ _ hP hS (lv_sub hl [0] rfl) hf
    · rw [if_neg hc] at hf
      refine lv_aload_n hx hb dX4_digit_30 rfl (lv_at hl 0 rfl) ?_
      refine lv_dup hx hb dX4_digit_31 rfl ?_
      refine gFi hC hP (j := 3) sg_22 vc_4 iT4 (by decide) rfl tb_1_180 dX4_digit_32 ?_
      refine lv_iconst (v := 1) hx hb dX4_digit_35 (by decide) ?_
      refine lv_iadd hx hb dX4_digit_36 ?_
      refine pFi hC hP hS (j := 3) sg_22 vc_4 iT4 tyX4_ok nmX4 (by decide) rfl tb_1_180 rfl rfl rfl dX4_digit_37 (fun H locs hP hS => ?_)
      refine lv_aload_n hx hb dX4_digit_40 rfl (lv_at hl 0 rfl) ?_
      refine gFr hC hP (j := 1) sg_22 vc_4 iT4 (by decide) rfl tb_1_178 dX4_digit_41 ?_
      refine lv_aload_n hx hb dX4_digit_44 rfl (lv_at hl 0 rfl) ?_
      refine gFi hC hP (j := 3) sg_22 vc_4 iT4 (by decide) rfl tb_1_180 dX4_digit_45 ?_
      refine lv_iconst (v := 1) hx hb dX4_digit_48 (by decide) ?_
      refine lv_isub hx hb dX4_digit_49 ?_
      obtain ⟨v4, hv, hf⟩ := ob_some hf
      refine gBa hC hP hv dX4_digit_50 ?_
      refine lv_bipush (v := 48) hx hb dX4_digit_51 (by decide) ?_
      refine lv_isub hx hb dX4_digit_53 ?_
      exact retIw hQ hf hP hS dX4_digit_54
def f_X4_readMile_109  (S : ST) (x1 : Int32) (y0 : Int32) (y1 : Int32) : Option ST := (wI S 23 y1 y0).bind fun S1 => (wI S1 23 (x1 + 5) 8).bind fun S2 => some S2
set_option maxRecDepth 100000 in
set_option maxHeartbeats 4000000 in
theorem w_X4_readMile_109 {S' : ST} (hC : Cx p m c s args cX4_readMile 2 RX4 G) (hQ : KV p l e (rmH 5) s m args below meth c Q cX4_readMile G S') (S : ST) (x1 : Int32) (y0 : Int32) (y1 : Int32) (H : Heap) (locs : List Loc) (ls : Array Slot) (hP : va_P (gD G) vwCl (cells G S) H) (hS : va_S (gA G) s.heap H locs) (hl : lv_has ls 2 [(0, .ref (ad G 22)), (1, .int x1)]) (hf : f_X4_readMile_109 S x1 y0 y1 = some S') : W p l e (rmH 5) s m args below meth c H locs 0 0 Q (F0 m 109 ls [.int y0, .int y1, .ref (ad G 23)]) := by
  obtain ⟨hx, hb, hml, hown, hts⟩ := id hC.1
  rw [f_X4_readMile_109] at hf
  obtain ⟨S1, hv, hf⟩ := ob_some hf
  refine sIa hC hP hS hv dX4_readMile_109 (fun H locs hP hS => ?_)
  refine lv_aload_n hx hb dX4_readMile_110 rfl (lv_at hl 0 rfl) ?_
  refine gFr hC hP (j := 0) sg_22 vc_4 iT4 (by decide) rfl tb_1_176 dX4_readMile_111 ?_
  refine lv_iload_n hx hb dX4_readMile_114 rfl (lv_at hl 1 rfl) ?_
  refine lv_iconst (v := 5) hx hb dX4_readMile_115 (by decide) ?_
  refine lv_iadd hx hb dX4_readMile_116 ?_
  refine lv_bipush (v := 8) hx hb dX4_readMile_117 (by decide) ?_
  obtain ⟨S2, hv, hf⟩ := ob_some hf
  refine sIa hC hP hS hv dX4_readMile_119 (fun H locs hP hS => ?_)
  exact retV hQ hf hP hS dX4_readMile_120
def f_X4_readMile_83  (S : ST) (x1 : Int32) (y0 : Int32) (y1 : Int32) : Option ST := (wI S 23 y1 y0).bind fun S1 => b2 (f_X4_takes S1 113) fun v2 S3 => if v2 = 0 then (f_X4_readMile_109 S3 x1 0 (x1 + 4)) else (b2 (f_X4_mark S3 4) fun v4 S5 => f_X4_readMile_109 S5 x1 v4 (x1 + 4))
set_option maxRecDepth 100000 in
set_option maxHeartbeats 4000000 in
theorem w_X4_readMile_83 {S' : ST} (hC : Cx p m c s args cX4_readMile 2 RX4 G) (hQ : KV p l e (rmH 5) s m args below meth c Q cX4_readMile G S') (S : ST) (x1 : Int32) (y0 : Int32) (y1 : Int32) (H : Heap) (locs : List Loc) (ls : Array Slot) (hP : va_P (gD G) vwCl (cells G S) H) (hS : va_S (gA G) s.heap H locs) (hl : lv_has ls 2 [(0, .ref (ad G 22)), (1, .int x1)]) (hf : f_X4_readMile_83 S x1 y0 y1 = some S') : W p l e (rmH 5) s m args below meth c H locs 0 0 Q (F0 m 83 ls [.int y0, .int y1, .ref (ad G 23)]) := by
  obtain ⟨hx, hb, hml, hown, hts⟩ := id hC.1
  rw [f_X4_readMile_83] at hf
  obtain ⟨S1, hv, hf⟩ := ob_some hf
  refine sIa hC hP hS hv dX4_readMile_83 (fun H locs hP hS => ?_)
  refine lv_aload_n hx hb dX4_readMile_84 rfl (lv_at hl 0 rfl) ?_
  refine gFr hC hP (j := 0) sg_22 vc_4 iT4 (by decide) rfl tb_1_176 dX4_readMile_85 ?_
  refine lv_iload_n hx hb dX4_readMile_88 rfl (lv_at hl 1 rfl) ?_
  refine lv_iconst (v := 4) hx hb dX4_readMile_89 (by decide) ?_
  refine lv_iadd hx hb dX4_readMile_90 ?_
  refine lv_aload_n hx hb dX4_readMile_91 rfl (lv_at hl 0 rfl) ?_
  refine lv_bipush (v := 113) hx hb dX4_readMile_92 (by decide) ?_
  obtain ⟨v2, S3, hv, hf⟩ := ob_two hf
  refine cI hS (runV hC hP hS (As := [.int 113]) (rest := [.int (x1 + 4), .ref (ad G 23)]) (k_X4_takes l G S1 113 _ _ hv) vy_X4_takes sg_22 vc_4 tb_2_122 tb_2_124 ts_7 ⟨Nat.le_of_ble_eq_true rfl, Nat.le_of_ble_eq_true rfl⟩ rfl hl.1 rfl (Nat.le_of_ble_eq_true rfl) dX4_readMile_94) (fun H locs hP hS => ?_)
  refine lv_if_eq (tgt := 108) hx hb dX4_readMile_97 (by decide) (fun hc => ?_) (fun hc => ?_)
  · rw [if_pos hc] at hf
    refine lv_iconst (v := 0) hx hb dX4_readMile_108 (by decide) ?_
    exact w_X4_readMile_109 hC hQ  _ _ _ _ _ _ _ hP hS (lv_sub hl [0, 1] rfl) hf
  · rw [if_neg hc] at hf
    refine lv_aload_n hx hb dX4_readMile_100 rfl (lv_at hl 0 rfl) ?_
    refine lv_iconst (v := 4) hx hb dX4_readMile_101 (by decide) ?_
    obtain ⟨v4, S5, hv, hf⟩ := ob_two hf
    refine cI hS (runV hC hP hS (As := [.int 4]) (rest := [.int (x1 + 4), .ref (ad G 23)]) (k_X4_mark l G S3 4 _ _ hv) vy_X4_mark sg_22 vc_4 tb_2_94 tb_2_96 ts_2 ⟨Nat.le_of_ble_eq_true rfl, Nat.le_of_ble_eq_true rfl⟩ rfl hl.1 rfl (Nat.le_of_ble_eq_true rfl) dX4_readMile_102) (fun H locs hP hS => ?_)
    refine lv_goto (tgt := 109) hx hb dX4_readMile_105 (by decide) ?_
    exact w_X4_readMile_109 hC hQ  _ _ _ _ _ _ _ hP hS (lv_sub hl [0, 1] rfl) hf
def f_X4_readMile_57  (S : ST) (x1 : Int32) (y0 : Int32) (y1 : Int32) : Option ST := (wI S 23 y1 y0).bind fun S1 => b2 (f_X4_takes S1 109) fun v2 S3 => if v2 = 0 then (f_X4_readMile_83 S3 x1 0 (x1 + 3)) else (b2 (f_X4_mark S3 3) fun v4 S5 => f_X4_readMile_83 S5 x1 v4 (x1 + 3))
set_option maxRecDepth 100000 in
set_option maxHeartbeats 4000000 in
theorem w_X4_readMile_57 {S' : ST} (hC : Cx p m c s args cX4_readMile 2 RX4 G) (hQ : KV p l e (rmH 5) s m args below meth c Q cX4_readMile G S') (S : ST) (x1 : Int32) (y0 : Int32) (y1 : Int32) (H : Heap) (locs : List Loc) (ls : Array Slot) (hP : va_P (gD G) vwCl (cells G S) H) (hS : va_S (gA G) s.heap H locs) (hl : lv_has ls 2 [(0, .ref (ad G 22)), (1, .int x1)]) (hf : f_X4_readMile_57 S x1 y0 y1 = some S') : W p l e (rmH 5) s m args below meth c H locs 0 0 Q (F0 m 57 ls [.int y0, .int y1, .ref (ad G 23)]) := by
  obtain ⟨hx, hb, hml, hown, hts⟩ := id hC.1
  rw [f_X4_readMile_57] at hf
  obtain ⟨S1, hv, hf⟩ := ob_some hf
  refine sIa hC hP hS hv dX4_readMile_57 (fun H locs hP hS => ?_)
  refine lv_aload_n hx hb dX4_readMile_58 rfl (lv_at hl 0 rfl) ?_
  refine gFr hC hP (j := 0) sg_22 vc_4 iT4 (by decide) rfl tb_1_176 dX4_readMile_59 ?_
  refine lv_iload_n hx hb dX4_readMile_62 rfl (lv_at hl 1 rfl) ?_
  refine lv_iconst (v := 3) hx hb dX4_readMile_63 (by decide) ?_
  refine lv_iadd hx hb dX4_readMile_64 ?_
  refine lv_aload_n hx hb dX4_readMile_65 rfl (lv_at hl 0 rfl) ?_
  refine lv_bipush (v := 109) hx hb dX4_readMile_66 (by decide) ?_
  obtain ⟨v2, S3, hv, hf⟩ := ob_two hf
  refine cI hS (runV hC hP hS (As := [.int 109]) (rest := [.int (x1 + 3), .ref (ad G 23)]) (k_X4_takes l G S1 109 _ _ hv) vy_X4_takes sg_22 vc_4 tb_2_122 tb_2_124 ts_7 ⟨Nat.le_of_ble_eq_true rfl, Nat.le_of_ble_eq_true rfl⟩ rfl hl.1 rfl (Nat.le_of_ble_eq_true rfl) dX4_readMile_68) (fun H locs hP hS => ?_)
  refine lv_if_eq (tgt := 82) hx hb dX4_readMile_71 (by decide) (fun hc => ?_) (fun hc => ?_)
  · rw [if_pos hc] at hf
    refine lv_iconst (v := 0) hx hb dX4_readMile_82 (by decide) ?_
    exact w_X4_readMile_83 hC hQ  _ _ _ _ _ _ _ hP hS (lv_sub hl [0, 1] rfl) hf
  · rw [if_neg hc] at hf
    refine lv_aload_n hx hb dX4_readMile_74 rfl (lv_at hl 0 rfl) ?_
    refine lv_iconst (v := 3) hx hb dX4_readMile_75 (by decide) ?_
    obtain ⟨v4, S5, hv, hf⟩ := ob_two hf
    refine cI hS (runV hC hP hS (As := [.int 3]) (rest := [.int (x1 + 3), .ref (ad G 23)]) (k_X4_mark l G S3 3 _ _ hv) vy_X4_mark sg_22 vc_4 tb_2_94 tb_2_96 ts_2 ⟨Nat.le_of_ble_eq_true rfl, Nat.le_of_ble_eq_true rfl⟩ rfl hl.1 rfl (Nat.le_of_ble_eq_true rfl) dX4_readMile_76) (fun H locs hP hS => ?_)
    refine lv_goto (tgt := 83) hx hb dX4_readMile_79 (by decide) ?_
    exact w_X4_readMile_83 hC hQ  _ _ _ _ _ _ _ hP hS (lv_sub hl [0, 1] rfl) hf
def f_X4_readMile (S : ST) (x1 : Int32) : Option ST := b2 (f_X4_mark S 0) fun v1 S2 => (wI S2 23 (x1 + 0) v1).bind fun S3 => (f_X4_expect S3 119).bind fun S4 => b2 (f_X4_mark S4 1) fun v5 S6 => (wI S6 23 (x1 + 1) v5).bind fun S7 => b2 (f_X4_takes S7 115) fun v8 S9 => if v8 = 0 then (f_X4_readMile_57 S9 x1 9 (x1 + 2)) else (b2 (f_X4_digit S9) fun v10 S11 => f_X4_readMile_57 S11 x1 v10 (x1 + 2))
set_option maxRecDepth 100000 in
set_option maxHeartbeats 4000000 in
theorem k_X4_readMile (l : Launch) (G : GT) (S : ST) (x1 : Int32) (S' : ST) (hf : f_X4_readMile S x1 = some S') : MV l yX4_readMile cX4_readMile 2 5 [.ref (ad G 22), .int x1] G S S' := by
  rw [f_X4_readMile] at hf
  refine mkV (own := RX4) (by decide +kernel) rfl (Nat.le_of_ble_eq_true rfl) (fun p e s m args below meth c Q ls hC hP hS hl hQ => ?_)
  have hl : lv_has ls 2 [(0, .ref (ad G 22)), (1, .int x1)] := hl
  obtain ⟨hx, hb, hml, hown, hts⟩ := id hC.1
  refine lv_aload_n hx hb dX4_readMile_0 rfl (lv_at hl 0 rfl) ?_
  refine gFr hC hP (j := 0) sg_22 vc_4 iT4 (by decide) rfl tb_1_176 dX4_readMile_1 ?_
  refine lv_iload_n hx hb dX4_readMile_4 rfl (lv_at hl 1 rfl) ?_
  refine lv_iconst (v := 0) hx hb dX4_readMile_5 (by decide) ?_
  refine lv_iadd hx hb dX4_readMile_6 ?_
  refine lv_aload_n hx hb dX4_readMile_7 rfl (lv_at hl 0 rfl) ?_
  refine lv_iconst (v := 0) hx hb dX4_readMile_8 (by decide) ?_
  obtain ⟨v1, S2, hv, hf⟩ := ob_two hf
  refine cI hS (runV hC hP hS (As := [.int 0]) (rest := [.int (x1 + 0), .ref (ad G 23)]) (k_X4_mark l G S 0 _ _ hv) vy_X4_mark sg_22 vc_4 tb_2_94 tb_2_96 ts_2 ⟨Nat.le_of_ble_eq_true rfl, Nat.le_of_ble_eq_true rfl⟩ rfl hl.1 rfl (Nat.le_of_ble_eq_true rfl) dX4_readMile_9) (fun H locs hP hS => ?_)
  obtain ⟨S3, hv, hf⟩ := ob_some hf
  refine sIa hC hP hS hv dX4_readMile_12 (fun H locs hP hS => ?_)
  refine lv_aload_n hx hb dX4_readMile_13 rfl (lv_at hl 0 rfl) ?_
  refine lv_bipush (v := 119) hx hb dX4_readMile_14 (by decide) ?_
  obtain ⟨S4, hv, hf⟩ := ob_some hf
  refine cV hS (runV hC hP hS (As := [.int 119]) (rest := []) (k_X4_expect l G S3 119 _ hv) vy_X4_expect sg_22 vc_4 tb_2_118 tb_2_120 ts_6 ⟨Nat.le_of_ble_eq_true rfl, Nat.le_of_ble_eq_true rfl⟩ rfl hl.1 rfl (Nat.le_of_ble_eq_true rfl) dX4_readMile_16) (fun H locs hP hS => ?_)
  refine lv_aload_n hx hb dX4_readMile_19 rfl (lv_at hl 0 rfl) ?_
  refine gFr hC hP (j := 0) sg_22 vc_4 iT4 (by decide) rfl tb_1_176 dX4_readMile_20 ?_
  refine lv_iload_n hx hb dX4_readMile_23 rfl (lv_at hl 1 rfl) ?_
  refine lv_iconst (v := 1) hx hb dX4_readMile_24 (by decide) ?_
  refine lv_iadd hx hb dX4_readMile_25 ?_
  refine lv_aload_n hx hb dX4_readMile_26 rfl (lv_at hl 0 rfl) ?_
  refine lv_iconst (v := 1) hx hb dX4_readMile_27 (by decide) ?_
  obtain ⟨v5, S6, hv, hf⟩ := ob_two hf
  refine cI hS (runV hC hP hS (As := [.int 1]) (rest := [.int (x1 + 1), .ref (ad G 23)]) (k_X4_mark l G S4 1 _ _ hv) vy_X4_mark sg_22 vc_4 tb_2_94 tb_2_96 ts_2 ⟨Nat.le_of_ble_eq_true rfl, Nat.le_of_ble_eq_true rfl⟩ rfl hl.1 rfl (Nat.le_of_ble_eq_true rfl) dX4_readMile_28) (fun H locs hP hS => ?_)
  obtain ⟨S7, hv, hf⟩ := ob_some hf
  refine sIa hC hP hS hv dX4_readMile_31 (fun H locs hP hS => ?_)
  refine lv_aload_n hx hb dX4_readMile_32 rfl (lv_at hl 0 rfl) ?_
  refine gFr hC hP (j := 0) sg_22 vc_4 iT4 (by decide) rfl tb_1_176 dX4_readMile_33 ?_
  refine lv_iload_n hx hb dX4_readMile_36 rfl (lv_at hl 1 rfl) ?_
  refine lv_iconst (v := 2) hx hb dX4_readMile_37 (by decide) ?_
  refine lv_iadd hx hb dX4_readMile_38 ?_
  refine lv_aload_n hx hb dX4_readMile_39 rfl (lv_at hl 0 rfl) ?_
  refine lv_bipush (v := 115) hx hb dX4_readMile_40 (by decide) ?_
  obtain ⟨v8, S9, hv, hf⟩ := ob_two hf
  refine cI hS (runV hC hP hS (As := [.int 115]) (rest := [.int (x1 + 2), .ref (ad G 23)]) (k_X4_takes l G S7 115 _ _ hv) vy_X4_takes sg_22 vc_4 tb_2_122 tb_2_124 ts_7 ⟨Nat.le_of_ble_eq_true rfl, Nat.le_of_ble_eq_true rfl⟩ rfl hl.1 rfl (Nat.le_of_ble_eq_true rfl) dX4_readMile_42) (fun H locs hP hS => ?_)
  refine lv_if_eq (tgt := 55) hx hb dX4_readMile_45 (by decide) (fun hc => ?_) (fun hc => ?_)
  · rw [if_pos hc] at hf
    refine lv_bipush (v := 9) hx hb dX4_readMile_55 (by decide) ?_
    exact w_X4_readMile_57 hC hQ  _ _ _ _ _ _ _ hP hS (lv_sub hl [0, 1] rfl) hf
  · rw [if_neg hc] at hf
    refine lv_aload_n hx hb dX4_readMile_48 rfl (lv_at hl 0 rfl) ?_
    obtain ⟨v10, S11, hv, hf⟩ := ob_two hf
    refine cI hS (runV hC hP hS (As := []) (rest := [.int (x1 + 2), .ref (ad G 23)]) (k_X4_digit l G S9 _ _ hv) vy_X4_digit sg_22 vc_4 tb_2_126 tb_2_128 ts_8 ⟨Nat.le_of_ble_eq_true rfl, Nat.le_of_ble_eq_true rfl⟩ rfl hl.1 rfl (Nat.le_of_ble_eq_true rfl) dX4_readMile_49) (fun H locs hP hS => ?_)
    refine lv_goto (tgt := 57) hx hb dX4_readMile_52 (by decide) ?_
    exact w_X4_readMile_57 hC hQ  _ _ _ _ _ _ _ hP hS (lv_sub hl [0, 1] rfl) hf
end
