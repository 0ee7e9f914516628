section
variable {p : Program} {l : Launch} {e : Env} {s : State} {m : MethodId} {args : Array Value} {below : List Frame} {meth : Method} {c : Code} {Q : State → Prop} {G : GT}

def f_X2_goBack_46  (k10 : ST → Int32 → Option ST) (k16 : ST → Int32 → Int32 → Option ST) (S : ST) (x1 : Int32) (x2 : Int32) (y0 : Int64) : Option ST := (rA 4 17 x1).bind fun v1 => (rA 4 17 (x1 + 1)).bind fun v2 => (rL S v2 x2).bind fun v3 => (f_X2_earlier S x1 x2 v3 y0).bind fun v4 => (wL S v1 x2 v4).bind fun S5 => k16 S5 x1 (x2 + 1)
set_option maxRecDepth 100000 in
set_option maxHeartbeats 4000000 in
theorem w_X2_goBack_46 {S' : ST} (hC : Cx p m c s args cX2_goBack 5 RX2 G) (hQ : KV p l e (rmH 2) s m args below meth c Q cX2_goBack G S') {k10 : ST → Int32 → Option ST} (hk10 : ∀ (S : ST) (x1 : Int32) (H : Heap) (locs : List Loc) (ls : Array Slot), va_P (gD G) vwCl (cells G S) H → va_S (gA G) s.heap H locs → lv_has ls 5 [(0, .ref (ad G 13)), (1, .int x1)] → k10 S x1 = some S' → W p l e (rmH 2) s m args below meth c H locs 0 0 Q (F0 m 10 ls [])) {k16 : ST → Int32 → Int32 → Option ST} (hk16 : ∀ (S : ST) (x1 : Int32) (x2 : Int32) (H : Heap) (locs : List Loc) (ls : Array Slot), va_P (gD G) vwCl (cells G S) H → va_S (gA G) s.heap H locs → lv_has ls 5 [(0, .ref (ad G 13)), (1, .int x1), (2, .int x2)] → k16 S x1 x2 = some S' → W p l e (rmH 2) s m args below meth c H locs 0 0 Q (F0 m 16 ls [])) (S : ST) (x1 : Int32) (x2 : Int32) (y0 : Int64) (H : Heap) (locs : List Loc) (ls : Array Slot) (hP : va_P (gD G) vwCl (cells G S) H) (hS : va_S (gA G) s.heap H locs) (hl : lv_has ls 5 [(0, .ref (ad G 13)), (1, .int x1), (2, .int x2)]) (hf : f_X2_goBack_46 k10 k16 S x1 x2 y0 = some S') : W p l e (rmH 2) s m args below meth c H locs 0 0 Q (F0 m 46 ls [.long y0]) := by
  obtain ⟨hx, hb, hml, hown, hts⟩ := id hC.1
  rw [f_X2_goBack_46] at hf
  refine lv_lstore_n (lv' := [(3, .long y0), (0, .ref (ad G 13)), (1, .int x1), (2, .int x2)]) hx hb dX2_goBack_46 rfl hl (by decide) rfl (fun ls hl => ?_)
  refine lv_aload_n hx hb dX2_goBack_47 rfl (lv_at hl 1 rfl) ?_
  refine gFr hC hP (j := 5) sg_13 vc_2 iT2 (by decide) rfl tb_1_129 dX2_goBack_48 ?_
  refine lv_iload_n hx hb dX2_goBack_51 rfl (lv_at hl 2 rfl) ?_
  obtain ⟨v1, hv, hf⟩ := ob_some hf
  refine gAa4 hC hP hv dX2_goBack_52 ?_
  refine lv_iload_n hx hb dX2_goBack_53 rfl (lv_at hl 3 rfl) ?_
  refine lv_aload_n hx hb dX2_goBack_54 rfl (lv_at hl 1 rfl) ?_
  refine lv_iload_n hx hb dX2_goBack_55 rfl (lv_at hl 2 rfl) ?_
  refine lv_iload_n hx hb dX2_goBack_56 rfl (lv_at hl 3 rfl) ?_
  refine lv_aload_n hx hb dX2_goBack_57 rfl (lv_at hl 1 rfl) ?_
  refine gFr hC hP (j := 5) sg_13 vc_2 iT2 (by decide) rfl tb_1_129 dX2_goBack_58 ?_
  refine lv_iload_n hx hb dX2_goBack_61 rfl (lv_at hl 2 rfl) ?_
  refine lv_iconst (v := 1) hx hb dX2_goBack_62 (by decide) ?_
  refine lv_iadd hx hb dX2_goBack_63 ?_
  obtain ⟨v2, hv, hf⟩ := ob_some hf
  refine gAa4 hC hP hv dX2_goBack_64 ?_
  refine lv_iload_n hx hb dX2_goBack_65 rfl (lv_at hl 3 rfl) ?_
  obtain ⟨v3, hv, hf⟩ := ob_some hf
  refine gLa hC hP hv dX2_goBack_66 ?_
  refine lv_lload_n hx hb dX2_goBack_67 rfl (lv_at hl 0 rfl) ?_
  obtain ⟨v4, hv, hf⟩ := ob_some hf
  refine cL hS (runV hC hP hS (As := [.int x1, .int x2, .long v3, .long y0]) (rest := [.int x2, .ref (ad G v1)]) (k_X2_earlier l G S x1 x2 v3 y0 _ hv) vy_X2_earlier sg_13 vc_2 tb_3_106 tb_3_108 ts_18 ⟨Nat.le_of_ble_eq_true rfl, Nat.le_of_ble_eq_true rfl⟩ rfl hl.1 rfl (Nat.le_of_ble_eq_true rfl) dX2_goBack_68) (fun H locs hP hS => ?_)
  obtain ⟨S5, hv, hf⟩ := ob_some hf
  refine sLa hC hP hS hv dX2_goBack_71 (fun H locs hP hS => ?_)
  refine lv_iinc (v := x2 + 1) (lv' := [(2, .int (x2 + 1)), (3, .long y0), (0, .ref (ad G 13)), (1, .int x1)]) hx hb dX2_goBack_72 hl (k := 3) rfl rfl (by decide) rfl (fun ls hl => ?_)
  refine lv_goto (tgt := 16) hx hb dX2_goBack_75 (by decide) ?_
  exact hk16 _ _ _ _ _ _ hP hS (lv_sub hl [2, 3, 0] rfl) hf
def f_X2_goBack_16  (k10 : ST → Int32 → Option ST) : Nat → ST → Int32 → Int32 → Option ST
  | 0, _, _, _ => none
  | n + 1, S, x1, x2 => if 38 ≤ x2 then (k10 S (x1 + (-1))) else (if 38 ≤ (x2 + 1) then (f_X2_goBack_46 k10 (f_X2_goBack_16 k10 n) S x1 x2 0) else ((rA 4 17 (x1 + 1)).bind fun v1 => (rL S v1 (x2 + 1)).bind fun v2 => f_X2_goBack_46 k10 (f_X2_goBack_16 k10 n) S x1 x2 v2))
set_option maxRecDepth 100000 in
set_option maxHeartbeats 4000000 in
theorem w_X2_goBack_16 {S' : ST} (hC : Cx p m c s args cX2_goBack 5 RX2 G) (hQ : KV p l e (rmH 2) s m args below meth c Q cX2_goBack G S') {k10 : ST → Int32 → Option ST} (hk10 : ∀ (S : ST) (x1 : Int32) (H : Heap) (locs : List Loc) (ls : Array Slot), va_P (gD G) vwCl (cells G S) H → va_S (gA G) s.heap H locs → lv_has ls 5 [(0, .ref (ad G 13)), (1, .int x1)] → k10 S x1 = some S' → W p l e (rmH 2) s m args below meth c H locs 0 0 Q (F0 m 10 ls [])) : ∀ (n : Nat) (S : ST) (x1 : Int32) (x2 : Int32) (H : Heap) (locs : List Loc) (ls : Array Slot), va_P (gD G) vwCl (cells G S) H → va_S (gA G) s.heap H locs → lv_has ls 5 [(0, .ref (ad G 13)), (1, .int x1), (2, .int x2)] → f_X2_goBack_16 k10 n S x1 x2 = some S' → W p l e (rmH 2) s m args below meth c H locs 0 0 Q (F0 m 16 ls []) := by
  obtain ⟨hx, hb, hml, hown, hts⟩ := id hC.1
  intro n
  induction n with
  | zero => intro S x1 x2 H locs ls hP hS hl hf; rw [f_X2_goBack_16] at hf; cases hf
  | succ n ih =>
    intro S x1 x2 H locs ls hP hS hl hf
    rw [f_X2_goBack_16] at hf
    refine lv_iload_n hx hb dX2_goBack_16 rfl (lv_at hl 2 rfl) ?_
    refine lv_bipush (v := 38) hx hb dX2_goBack_17 (by decide) ?_
    refine lv_icmp_ge (tgt := 78) hx hb dX2_goBack_19 (by decide) (fun hc => ?_) (fun hc => ?_)
    · rw [if_pos hc] at hf
      refine lv_iinc (v := x1 + (-1)) (lv' := [(1, .int (x1 + (-1))), (0, .ref (ad G 13)), (2, .int x2)]) hx hb dX2_goBack_78 hl (k := 1) rfl rfl (by decide) rfl (fun ls hl => ?_)
      refine lv_goto (tgt := 10) hx hb dX2_goBack_81 (by decide) ?_
      exact hk10 _ _ _ _ _ hP hS (lv_sub hl [1, 0] rfl) hf
    · rw [if_neg hc] at hf
      refine lv_iload_n hx hb dX2_goBack_22 rfl (lv_at hl 2 rfl) ?_
      refine lv_iconst (v := 1) hx hb dX2_goBack_23 (by decide) ?_
      refine lv_iadd hx hb dX2_goBack_24 ?_
      refine lv_bipush (v := 38) hx hb dX2_goBack_25 (by decide) ?_
      refine lv_icmp_ge (tgt := 45) hx hb dX2_goBack_27 (by decide) (fun hc => ?_) (fun hc => ?_)
      · rw [if_pos hc] at hf
        refine lv_lconst (v := 0) hx hb dX2_goBack_45 (by decide) ?_
        exact w_X2_goBack_46 hC hQ hk10 ih  _ _ _ _ _ _ _ hP hS (lv_sub hl [0, 1, 2] rfl) hf
      · rw [if_neg hc] at hf
        refine lv_aload_n hx hb dX2_goBack_30 rfl (lv_at hl 0 rfl) ?_
        refine gFr hC hP (j := 5) sg_13 vc_2 iT2 (by decide) rfl tb_1_129 dX2_goBack_31 ?_
        refine lv_iload_n hx hb dX2_goBack_34 rfl (lv_at hl 1 rfl) ?_
        refine lv_iconst (v := 1) hx hb dX2_goBack_35 (by decide) ?_
        refine lv_iadd hx hb dX2_goBack_36 ?_
        obtain ⟨v1, hv, hf⟩ := ob_some hf
        refine gAa4 hC hP hv dX2_goBack_37 ?_
        refine lv_iload_n hx hb dX2_goBack_38 rfl (lv_at hl 2 rfl) ?_
        refine lv_iconst (v := 1) hx hb dX2_goBack_39 (by decide) ?_
        refine lv_iadd hx hb dX2_goBack_40 ?_
        obtain ⟨v2, hv, hf⟩ := ob_some hf
        refine gLa hC hP hv dX2_goBack_41 ?_
        refine lv_goto (tgt := 46) hx hb dX2_goBack_42 (by decide) ?_
        exact w_X2_goBack_46 hC hQ hk10 ih  _ _ _ _ _ _ _ hP hS (lv_sub hl [0, 1, 2] rfl) hf
def f_X2_goBack_10  : Nat → ST → Int32 → Option ST
  | 0, _, _ => none
  | n + 1, S, x1 => if x1 < 0 then (some S) else (f_X2_goBack_16 (f_X2_goBack_10 n) FU S x1 0)
set_option maxRecDepth 100000 in
set_option maxHeartbeats 4000000 in
theorem w_X2_goBack_10 {S' : ST} (hC : Cx p m c s args cX2_goBack 5 RX2 G) (hQ : KV p l e (rmH 2) s m args below meth c Q cX2_goBack G S') : ∀ (n : Nat) (S : ST) (x1 : Int32) (H : Heap) (locs : List Loc) (ls : Array Slot), va_P (gD G) vwCl (cells G S) H → va_S (gA G) s.heap H locs → lv_has ls 5 [(0, .ref (ad G 13)), (1, .int x1)] → f_X2_goBack_10 n S x1 = some S' → W p l e (rmH 2) s m args below meth c H locs 0 0 Q (F0 m 10 ls []) := by
  obtain ⟨hx, hb, hml, hown, hts⟩ := id hC.1
  intro n
  induction n with
  | zero => intro S x1 H locs ls hP hS hl hf; rw [f_X2_goBack_10] at hf; cases hf
  | succ n ih =>
    intro S x1 H locs ls hP hS hl hf
    rw [f_X2_goBack_10] at hf
    refine lv_iload_n hx hb dX2_goBack_10 rfl (lv_at hl 1 rfl) ?_
    refine lv_if_lt (tgt := 84) hx hb dX2_goBack_11 (by decide) (fun hc => ?_) (fun hc => ?_)
    · rw [if_pos hc] at hf
      exact retV hQ hf hP hS dX2_goBack_84
    · rw [if_neg hc] at hf
      refine lv_iconst (v := 0) hx hb dX2_goBack_14 (by decide) ?_
      refine lv_istore_n (lv' := [(2, .int 0), (0, .ref (ad G 13)), (1, .int x1)]) hx hb dX2_goBack_15 rfl hl (by decide) rfl (fun ls hl => ?_)
      exact w_X2_goBack_16 hC hQ ih _ _ _ _ _ _ _ hP hS (lv_sub hl [1, 2, 0] rfl) hf
def f_X2_goBack (S : ST)  : Option ST := f_X2_goBack_10 FU S ((S.1 1 0) - 1)
set_option maxRecDepth 100000 in
set_option maxHeartbeats 4000000 in
theorem k_X2_goBack (l : Launch) (G : GT) (S : ST)  (S' : ST) (hf : f_X2_goBack S  = some S') : MV l yX2_goBack cX2_goBack 5 2 [.ref (ad G 13)] G S S' := by
  rw [f_X2_goBack] at hf
  refine mkV (own := RX2) (by decide +kernel) rfl (Nat.le_of_ble_eq_true rfl) (fun p e s m args below meth c Q ls hC hP hS hl hQ => ?_)
  have hl : lv_has ls 5 [(0, .ref (ad G 13))] := hl
  obtain ⟨hx, hb, hml, hown, hts⟩ := id hC.1
  refine lv_aload_n hx hb dX2_goBack_0 rfl (lv_at hl 0 rfl) ?_
  refine gFr hC hP (j := 0) sg_13 vc_2 iT2 (by decide) rfl tb_1_124 dX2_goBack_1 ?_
  refine gFi hC hP (j := 0) sg_1 vc_1 iT1 (by decide) rfl tb_1_30 dX2_goBack_4 ?_
  refine lv_iconst (v := 1) hx hb dX2_goBack_7 (by decide) ?_
  refine lv_isub hx hb dX2_goBack_8 ?_
  refine lv_istore_n (lv' := [(1, .int ((S.1 1 0) - 1)), (0, .ref (ad G 13))]) hx hb dX2_goBack_9 rfl hl (by decide) rfl (fun ls hl => ?_)
  exact w_X2_goBack_10 hC hQ _ _ _ _ _ _ hP hS (lv_sub hl [1, 0] rfl) hf
def f_X7_hasBit (S : ST) (x0 : Nat) (x1 : Int32) : Option Int32 := (lA 3 x0).bind fun v1 => (f_X7_within x1 0 ((v1 * 64) - 1)).bind fun v2 => if v2 = 0 then (some 0) else ((dv x1 64).bind fun v3 => (rL S x0 v3).bind fun v4 => (rm x1 64).bind fun v5 => if (lg_cmp ((us64 v4 v5) &&& 1) 0) = 0 then (some 0) else (some 1))
set_option maxRecDepth 100000 in
set_option maxHeartbeats 4000000 in
theorem k_X7_hasBit (l : Launch) (G : GT) (S : ST) (x0 : Nat) (x1 : Int32) (r : Int32) (hf : f_X7_hasBit S x0 x1 = some r) : MI l yX7_hasBit cX7_hasBit 2 (some .boolean) 2 [.ref (ad G x0), .int x1] G S r S := by
  rw [f_X7_hasBit] at hf
  refine mkZ (own := RX7) (by decide +kernel) rfl (Nat.le_of_ble_eq_true rfl) (fun p e s m args below meth c Q ls hC hP hS hl hQ => ?_)
  have hl : lv_has ls 2 [(0, .ref (ad G x0)), (1, .int x1)] := hl
  obtain ⟨hx, hb, hml, hown, hts⟩ := id hC.1
  refine lv_iload_n hx hb dX7_hasBit_0 rfl (lv_at hl 1 rfl) ?_
  refine lv_iconst (v := 0) hx hb dX7_hasBit_1 (by decide) ?_
  refine lv_aload_n hx hb dX7_hasBit_2 rfl (lv_at hl 0 rfl) ?_
  obtain ⟨v1, hv, hf⟩ := ob_some hf
  refine gLen (t := 3) (by decide) hC hP hv dX7_hasBit_3 ?_
  refine lv_bipush (v := 64) hx hb dX7_hasBit_4 (by decide) ?_
  refine lv_imul hx hb dX7_hasBit_6 ?_
  refine lv_iconst (v := 1) hx hb dX7_hasBit_7 (by decide) ?_
  refine lv_isub hx hb dX7_hasBit_8 ?_
  obtain ⟨v2, hv, hf⟩ := ob_some hf
  refine cI hS (runS hC hP hS (As := [.int x1, .int 0, .int ((v1 * 64) - 1)]) (rest := []) (k_X7_within l G S x1 0 ((v1 * 64) - 1) _ hv) vy_X7_within tb_2_14 tb_2_15 ⟨Nat.le_of_ble_eq_true rfl, Nat.le_of_ble_eq_true rfl⟩ rfl hl.1 rfl (Nat.le_of_ble_eq_true rfl) dX7_hasBit_9) (fun H locs hP hS => ?_)
  refine lv_if_eq (tgt := 37) hx hb dX7_hasBit_12 (by decide) (fun hc => ?_) (fun hc => ?_)
  · rw [if_pos hc] at hf
    refine lv_iconst (v := 0) hx hb dX7_hasBit_37 (by decide) ?_
    exact retZ hQ rfl hf hP hS dX7_hasBit_38
  · rw [if_neg hc] at hf
    refine lv_aload_n hx hb dX7_hasBit_15 rfl (lv_at hl 0 rfl) ?_
    refine lv_iload_n hx hb dX7_hasBit_16 rfl (lv_at hl 1 rfl) ?_
    refine lv_bipush (v := 64) hx hb dX7_hasBit_17 (by decide) ?_
    obtain ⟨v3, hv, hf⟩ := ob_some hf
    refine xDv hC hv dX7_hasBit_19 ?_
    obtain ⟨v4, hv, hf⟩ := ob_some hf
    refine gLa hC hP hv dX7_hasBit_20 ?_
    refine lv_iload_n hx hb dX7_hasBit_21 rfl (lv_at hl 1 rfl) ?_
    refine lv_bipush (v := 64) hx hb dX7_hasBit_22 (by decide) ?_
    obtain ⟨v5, hv, hf⟩ := ob_some hf
    refine xRm hC hv dX7_hasBit_24 ?_
    refine lv_lushr (v := (us64 v4 v5)) hx hb dX7_hasBit_25 rfl ?_
    refine lv_lconst (v := 1) hx hb dX7_hasBit_26 (by decide) ?_
    refine lv_land hx hb dX7_hasBit_27 ?_
    refine lv_lconst (v := 0) hx hb dX7_hasBit_28 (by decide) ?_
    refine W.lcmp hx hb dX7_hasBit_29 ?_
    refine lv_if_eq (tgt := 37) hx hb dX7_hasBit_30 (by decide) (fun hc => ?_) (fun hc => ?_)
    · rw [if_pos hc] at hf
      refine lv_iconst (v := 0) hx hb dX7_hasBit_37 (by decide) ?_
      exact retZ hQ rfl hf hP hS dX7_hasBit_38
    · rw [if_neg hc] at hf
      refine lv_iconst (v := 1) hx hb dX7_hasBit_33 (by decide) ?_
      refine lv_goto (tgt := 38) hx hb dX7_hasBit_34 (by decide) ?_
      exact retZ hQ rfl hf hP hS dX7_hasBit_38
def f_X2_slowest_73 (S : ST)  (k2 : Int32 → Int32 → Int32 → Option Int32) (x1 : Int32) (x2 : Int32) (x3 : Int32) : Option Int32 := k2 x1 x2 (x3 + 1)
set_option maxRecDepth 100000 in
set_option maxHeartbeats 4000000 in
theorem w_X2_slowest_73 {r : Int32} {S : ST} (hC : Cx p m c s args cX2_slowest 5 RX2 G) (hQ : KI p l e (rmH 3) s m args below meth c Q cX2_slowest G r S) {k2 : Int32 → Int32 → Int32 → Option Int32} (hk2 : ∀ (x1 : Int32) (x2 : Int32) (x3 : Int32) (H : Heap) (locs : List Loc) (ls : Array Slot), va_P (gD G) vwCl (cells G S) H → va_S (gA G) s.heap H locs → lv_has ls 5 [(0, .ref (ad G 13)), (1, .int x1), (2, .int x2), (3, .int x3)] → k2 x1 x2 x3 = some r → W p l e (rmH 3) s m args below meth c H locs 0 0 Q (F0 m 2 ls [])) (x1 : Int32) (x2 : Int32) (x3 : Int32) (H : Heap) (locs : List Loc) (ls : Array Slot) (hP : va_P (gD G) vwCl (cells G S) H) (hS : va_S (gA G) s.heap H locs) (hl : lv_has ls 5 [(0, .ref (ad G 13)), (1, .int x1), (2, .int x2), (3, .int x3)]) (hf : f_X2_slowest_73 S k2 x1 x2 x3 = some r) : W p l e (rmH 3) s m args below meth c H locs 0 0 Q (F0 m 73 ls []) := by
  obtain ⟨hx, hb, hml, hown, hts⟩ := id hC.1
  rw [f_X2_slowest_73] at hf
  refine lv_iinc (v := x3 + 1) (lv' := [(3, .int (x3 + 1)), (0, .ref (ad G 13)), (1, .int x1), (2, .int x2)]) hx hb dX2_slowest_73 hl (k := 3) rfl rfl (by decide) rfl (fun ls hl => ?_)
  refine lv_goto (tgt := 2) hx hb dX2_slowest_76 (by decide) ?_
  exact hk2 _ _ _ _ _ _ hP hS (lv_sub hl [1, 2, 3, 0] rfl) hf
def f_X2_slowest_2 (S : ST)  : Nat → Int32 → Int32 → Int32 → Option Int32
  | 0, _, _, _ => none
  | n + 1, x1, x2, x3 => if 11 ≤ x3 then (some (-4)) else ((rI S 0 16 ((x1 * 11) + x3)).bind fun v1 => if 100 ≤ v1 then (f_X2_slowest_73 S (f_X2_slowest_2 S n) x1 x2 x3) else ((rA 4 15 v1).bind fun v2 => (f_X7_hasBit S v2 x2).bind fun v3 => if v3 = 0 then (f_X2_slowest_73 S (f_X2_slowest_2 S n) x1 x2 x3) else ((rA 4 17 (x1 + 1)).bind fun v4 => (rS 1 x3).bind fun v5 => (f_X7_hasBit S v4 (x2 + v5)).bind fun v6 => if v6 = 0 then (f_X2_slowest_73 S (f_X2_slowest_2 S n) x1 x2 x3) else ((rS 0 x3).bind fun v7 => some v7))))
set_option maxRecDepth 100000 in
set_option maxHeartbeats 4000000 in
theorem w_X2_slowest_2 {r : Int32} {S : ST} (hC : Cx p m c s args cX2_slowest 5 RX2 G) (hQ : KI p l e (rmH 3) s m args below meth c Q cX2_slowest G r S) : ∀ (n : Nat) (x1 : Int32) (x2 : Int32) (x3 : Int32) (H : Heap) (locs : List Loc) (ls : Array Slot), va_P (gD G) vwCl (cells G S) H → va_S (gA G) s.heap H locs → lv_has ls 5 [(0, .ref (ad G 13)), (1, .int x1), (2, .int x2), (3, .int x3)] → f_X2_slowest_2 S n x1 x2 x3 = some r → W p l e (rmH 3) s m args below meth c H locs 0 0 Q (F0 m 2 ls []) := by
  obtain ⟨hx, hb, hml, hown, hts⟩ := id hC.1
  intro n
  induction n with
  | zero => intro x1 x2 x3 H locs ls hP hS hl hf; rw [f_X2_slowest_2] at hf; cases hf
  | succ n ih =>
    intro x1 x2 x3 H locs ls hP hS hl hf
    rw [f_X2_slowest_2] at hf
    refine lv_iload_n hx hb dX2_slowest_2 rfl (lv_at hl 3 rfl) ?_
    refine gStN hC hS (j := 0) (by decide) nw_1 dX2_slowest_3 ?_
    refine gSn (x := 11) hC hS (by decide) rfl dX2_slowest_6 ?_
    refine lv_icmp_ge (tgt := 79) hx hb dX2_slowest_7 (by decide) (fun hc => ?_) (fun hc => ?_)
    · rw [if_pos hc] at hf
      refine lv_bipush (v := (-4)) hx hb dX2_slowest_79 (by decide) ?_
      exact retI hQ hf hP hS dX2_slowest_81
    · rw [if_neg hc] at hf
      refine lv_aload_n hx hb dX2_slowest_10 rfl (lv_at hl 0 rfl) ?_
      refine gFr hC hP (j := 4) sg_13 vc_2 iT2 (by decide) rfl tb_1_128 dX2_slowest_11 ?_
      refine lv_iload_n hx hb dX2_slowest_14 rfl (lv_at hl 1 rfl) ?_
      refine gStN hC hS (j := 0) (by decide) nw_1 dX2_slowest_15 ?_
      refine gSn (x := 11) hC hS (by decide) rfl dX2_slowest_18 ?_
      refine lv_imul hx hb dX2_slowest_19 ?_
      refine lv_iload_n hx hb dX2_slowest_20 rfl (lv_at hl 3 rfl) ?_
      refine lv_iadd hx hb dX2_slowest_21 ?_
      obtain ⟨v1, hv, hf⟩ := ob_some hf
      refine gIa hC hP hv dX2_slowest_22 ?_
      refine lv_istore (lv' := [(4, .int v1), (0, .ref (ad G 13)), (1, .int x1), (2, .int x2), (3, .int x3)]) hx hb dX2_slowest_23 hl (by decide) rfl (fun ls hl => ?_)
      refine lv_iload hx hb dX2_slowest_25 (lv_at hl 0 rfl) ?_
      refine lv_bipush (v := 100) hx hb dX2_slowest_27 (by decide) ?_
      refine lv_icmp_ge (tgt := 73) hx hb dX2_slowest_29 (by decide) (fun hc => ?_) (fun hc => ?_)
      · rw [if_pos hc] at hf
        exact w_X2_slowest_73 hC hQ ih  _ _ _ _ _ _ hP hS (lv_sub hl [1, 2, 3, 4] rfl) hf
      · rw [if_neg hc] at hf
        refine lv_aload_n hx hb dX2_slowest_32 rfl (lv_at hl 1 rfl) ?_
        refine gFr hC hP (j := 3) sg_13 vc_2 iT2 (by decide) rfl tb_1_127 dX2_slowest_33 ?_
        refine lv_iload hx hb dX2_slowest_36 (lv_at hl 0 rfl) ?_
        obtain ⟨v2, hv, hf⟩ := ob_some hf
        refine gAa4 hC hP hv dX2_slowest_38 ?_
        refine lv_iload_n hx hb dX2_slowest_39 rfl (lv_at hl 3 rfl) ?_
        obtain ⟨v3, hv, hf⟩ := ob_some hf
        refine cI hS (runSN hC hP hS (As := [.ref (ad G v2), .int x2]) (rest := []) (k_X7_hasBit l G S v2 x2 _ hv) vy_X7_hasBit nw_13 tb_3_115 ⟨Nat.le_of_ble_eq_true rfl, Nat.le_of_ble_eq_true rfl⟩ rfl hl.1 rfl (Nat.le_of_ble_eq_true rfl) dX2_slowest_40) (fun H locs hP hS => ?_)
        refine lv_if_eq (tgt := 73) hx hb dX2_slowest_43 (by decide) (fun hc => ?_) (fun hc => ?_)
        · rw [if_pos hc] at hf
          exact w_X2_slowest_73 hC hQ ih  _ _ _ _ _ _ hP hS (lv_sub hl [1, 2, 3, 4] rfl) hf
        · rw [if_neg hc] at hf
          refine lv_aload_n hx hb dX2_slowest_46 rfl (lv_at hl 1 rfl) ?_
          refine gFr hC hP (j := 5) sg_13 vc_2 iT2 (by decide) rfl tb_1_129 dX2_slowest_47 ?_
          refine lv_iload_n hx hb dX2_slowest_50 rfl (lv_at hl 2 rfl) ?_
          refine lv_iconst (v := 1) hx hb dX2_slowest_51 (by decide) ?_
          refine lv_iadd hx hb dX2_slowest_52 ?_
          obtain ⟨v4, hv, hf⟩ := ob_some hf
          refine gAa4 hC hP hv dX2_slowest_53 ?_
          refine lv_iload_n hx hb dX2_slowest_54 rfl (lv_at hl 3 rfl) ?_
          refine gStN hC hS (j := 1) (by decide) nw_11 dX2_slowest_55 ?_
          refine lv_iload_n hx hb dX2_slowest_58 rfl (lv_at hl 4 rfl) ?_
          obtain ⟨v5, hv, hf⟩ := ob_some hf
          refine gSi hC hS (by decide) hv dX2_slowest_59 ?_
          refine lv_iadd hx hb dX2_slowest_60 ?_
          obtain ⟨v6, hv, hf⟩ := ob_some hf
          refine cI hS (runSN hC hP hS (As := [.ref (ad G v4), .int (x2 + v5)]) (rest := []) (k_X7_hasBit l G S v4 (x2 + v5) _ hv) vy_X7_hasBit nw_13 tb_3_115 ⟨Nat.le_of_ble_eq_true rfl, Nat.le_of_ble_eq_true rfl⟩ rfl hl.1 rfl (Nat.le_of_ble_eq_true rfl) dX2_slowest_61) (fun H locs hP hS => ?_)
          refine lv_if_eq (tgt := 73) hx hb dX2_slowest_64 (by decide) (fun hc => ?_) (fun hc => ?_)
          · rw [if_pos hc] at hf
            exact w_X2_slowest_73 hC hQ ih  _ _ _ _ _ _ hP hS (lv_sub hl [1, 2, 3, 4] rfl) hf
          · rw [if_neg hc] at hf
            refine gStN hC hS (j := 0) (by decide) nw_1 dX2_slowest_67 ?_
            refine lv_iload_n hx hb dX2_slowest_70 rfl (lv_at hl 4 rfl) ?_
            obtain ⟨v7, hv, hf⟩ := ob_some hf
            refine gSi hC hS (by decide) hv dX2_slowest_71 ?_
            exact retI hQ hf hP hS dX2_slowest_72
def f_X2_slowest (S : ST) (x1 : Int32) (x2 : Int32) : Option Int32 := f_X2_slowest_2 S FU x1 x2 0
set_option maxRecDepth 100000 in
set_option maxHeartbeats 4000000 in
theorem k_X2_slowest (l : Launch) (G : GT) (S : ST) (x1 : Int32) (x2 : Int32) (r : Int32) (hf : f_X2_slowest S x1 x2 = some r) : MI l yX2_slowest cX2_slowest 5 (some .int) 3 [.ref (ad G 13), .int x1, .int x2] G S r S := by
  rw [f_X2_slowest] at hf
  refine mkI (own := RX2) (by decide +kernel) rfl rfl (Nat.le_of_ble_eq_true rfl) (fun p e s m args below meth c Q ls hC hP hS hl hQ => ?_)
  have hl : lv_has ls 5 [(0, .ref (ad G 13)), (1, .int x1), (2, .int x2)] := hl
  obtain ⟨hx, hb, hml, hown, hts⟩ := id hC.1
  refine lv_iconst (v := 0) hx hb dX2_slowest_0 (by decide) ?_
  refine lv_istore_n (lv' := [(3, .int 0), (0, .ref (ad G 13)), (1, .int x1), (2, .int x2)]) hx hb dX2_slowest_1 rfl hl (by decide) rfl (fun ls hl => ?_)
  exact w_X2_slowest_2 hC hQ _ _ _ _ _ _ _ hP hS (lv_sub hl [1, 2, 3, 0] rfl) hf
def f_X2_firstPace_47  : Nat → ST → Int32 → Int32 → Int32 → Int32 → Option (Int32 × ST)
  | 0, _, _, _, _, _ => none
  | n + 1, S, x3, x4, x5, x6 => if x3 < x6 then (some (x5, S)) else (if (S.1 1 0) ≤ x6 then (some (x5, S)) else ((f_X2_slowest S x6 x4).bind fun v1 => (f_X7_minutesBy v1).bind fun v2 => f_X2_firstPace_47 n S x3 (x4 + v2) v1 (x6 + 1)))
set_option maxRecDepth 100000 in
set_option maxHeartbeats 4000000 in
theorem w_X2_firstPace_47 {r : Int32} {S' : ST} (hC : Cx p m c s args cX2_firstPace 7 RX2 G) (hQ : KI p l e (rmH 4) s m args below meth c Q cX2_firstPace G r S') : ∀ (n : Nat) (S : ST) (x3 : Int32) (x4 : Int32) (x5 : Int32) (x6 : Int32) (H : Heap) (locs : List Loc) (ls : Array Slot), va_P (gD G) vwCl (cells G S) H → va_S (gA G) s.heap H locs → lv_has ls 7 [(0, .ref (ad G 13)), (3, .int x3), (4, .int x4), (5, .int x5), (6, .int x6)] → f_X2_firstPace_47 n S x3 x4 x5 x6 = some (r, S') → W p l e (rmH 4) s m args below meth c H locs 0 0 Q (F0 m 47 ls []) := by
  obtain ⟨hx, hb, hml, hown, hts⟩ := id hC.1
  intro n
  induction n with
  | zero => intro S x3 x4 x5 x6 H locs ls hP hS hl hf; rw [f_X2_firstPace_47] at hf; cases hf
  | succ n ih =>
    intro S x3 x4 x5 x6 H locs ls hP hS hl hf
    rw [f_X2_firstPace_47] at hf
    refine lv_iload hx hb dX2_firstPace_47 (lv_at hl 4 rfl) ?_
    refine lv_iload_n hx hb dX2_firstPace_49 rfl (lv_at hl 1 rfl) ?_
    refine lv_icmp_gt (tgt := 91) hx hb dX2_firstPace_50 (by decide) (fun hc => ?_) (fun hc => ?_)
    · rw [if_pos hc] at hf
      refine lv_iload hx hb dX2_firstPace_91 (lv_at hl 3 rfl) ?_
      exact retIw hQ hf hP hS dX2_firstPace_93
    · rw [if_neg hc] at hf
      refine lv_iload hx hb dX2_firstPace_53 (lv_at hl 4 rfl) ?_
      refine lv_aload_n hx hb dX2_firstPace_55 rfl (lv_at hl 0 rfl) ?_
      refine gFr hC hP (j := 0) sg_13 vc_2 iT2 (by decide) rfl tb_1_124 dX2_firstPace_56 ?_
      refine gFi hC hP (j := 0) sg_1 vc_1 iT1 (by decide) rfl tb_1_30 dX2_firstPace_59 ?_
      refine lv_icmp_ge (tgt := 91) hx hb dX2_firstPace_62 (by decide) (fun hc => ?_) (fun hc => ?_)
      · rw [if_pos hc] at hf
        refine lv_iload hx hb dX2_firstPace_91 (lv_at hl 3 rfl) ?_
        exact retIw hQ hf hP hS dX2_firstPace_93
      · rw [if_neg hc] at hf
        refine lv_aload_n hx hb dX2_firstPace_65 rfl (lv_at hl 0 rfl) ?_
        refine lv_iload hx hb dX2_firstPace_66 (lv_at hl 4 rfl) ?_
        refine lv_iload hx hb dX2_firstPace_68 (lv_at hl 2 rfl) ?_
        obtain ⟨v1, hv, hf⟩ := ob_some hf
        refine cI hS (runV hC hP hS (As := [.int x6, .int x4]) (rest := []) (k_X2_slowest l G S x6 x4 _ hv) vy_X2_slowest sg_13 vc_2 tb_3_110 tb_3_112 ts_19 ⟨Nat.le_of_ble_eq_true rfl, Nat.le_of_ble_eq_true rfl⟩ rfl hl.1 rfl (Nat.le_of_ble_eq_true rfl) dX2_firstPace_70) (fun H locs hP hS => ?_)
        refine lv_istore (lv' := [(5, .int v1), (0, .ref (ad G 13)), (3, .int x3), (4, .int x4), (6, .int x6)]) hx hb dX2_firstPace_73 hl (by decide) rfl (fun ls hl => ?_)
        refine lv_iload hx hb dX2_firstPace_75 (lv_at hl 3 rfl) ?_
        refine lv_iload hx hb dX2_firstPace_77 (lv_at hl 0 rfl) ?_
        obtain ⟨v2, hv, hf⟩ := ob_some hf
        refine cI hS (runSN hC hP hS (As := [.int v1]) (rest := [.int x4]) (k_X7_minutesBy l G S v1 _ hv) vy_X7_minutesBy nw_14 tb_3_28 ⟨Nat.le_of_ble_eq_true rfl, Nat.le_of_ble_eq_true rfl⟩ rfl hl.1 rfl (Nat.le_of_ble_eq_true rfl) dX2_firstPace_79) (fun H locs hP hS => ?_)
        refine lv_iadd hx hb dX2_firstPace_82 ?_
        refine lv_istore (lv' := [(4, .int (x4 + v2)), (5, .int v1), (0, .ref (ad G 13)), (3, .int x3), (6, .int x6)]) hx hb dX2_firstPace_83 hl (by decide) rfl (fun ls hl => ?_)
        refine lv_iinc (v := x6 + 1) (lv' := [(6, .int (x6 + 1)), (4, .int (x4 + v2)), (5, .int v1), (0, .ref (ad G 13)), (3, .int x3)]) hx hb dX2_firstPace_85 hl (k := 4) rfl rfl (by decide) rfl (fun ls hl => ?_)
        refine lv_goto (tgt := 47) hx hb dX2_firstPace_88 (by decide) ?_
        exact ih _ _ _ _ _ _ _ _ hP hS (lv_sub hl [3, 4, 1, 2, 0] rfl) hf
def f_X2_firstPace (S : ST) (x1 : Int32) (x2 : Int32) (x3 : Int32) : Option (Int32 × ST) := (rA 4 17 (S.1 1 0)).bind fun v1 => (f_X2_wipe S v1).bind fun S2 => (rA 4 17 (S2.1 1 0)).bind fun v3 => (f_X7_putBit S2 v3 (x1 + x2)).bind fun S4 => (f_X2_goBack S4).bind fun S5 => f_X2_firstPace_47 FU S5 x3 x1 (-4) 0
set_option maxRecDepth 100000 in
set_option maxHeartbeats 4000000 in
theorem k_X2_firstPace (l : Launch) (G : GT) (S : ST) (x1 : Int32) (x2 : Int32) (x3 : Int32) (r : Int32) (S' : ST) (hf : f_X2_firstPace S x1 x2 x3 = some (r, S')) : MI l yX2_firstPace cX2_firstPace 7 (some .int) 4 [.ref (ad G 13), .int x1, .int x2, .int x3] G S r S' := by
  rw [f_X2_firstPace] at hf
  refine mkI (own := RX2) (by decide +kernel) rfl rfl (Nat.le_of_ble_eq_true rfl) (fun p e s m args below meth c Q ls hC hP hS hl hQ => ?_)
  have hl : lv_has ls 7 [(0, .ref (ad G 13)), (1, .int x1), (2, .int x2), (3, .int x3)] := hl
  obtain ⟨hx, hb, hml, hown, hts⟩ := id hC.1
  refine lv_aload_n hx hb dX2_firstPace_0 rfl (lv_at hl 0 rfl) ?_
  refine gFr hC hP (j := 5) sg_13 vc_2 iT2 (by decide) rfl tb_1_129 dX2_firstPace_1 ?_
  refine lv_aload_n hx hb dX2_firstPace_4 rfl (lv_at hl 0 rfl) ?_
  refine gFr hC hP (j := 0) sg_13 vc_2 iT2 (by decide) rfl tb_1_124 dX2_firstPace_5 ?_
  refine gFi hC hP (j := 0) sg_1 vc_1 iT1 (by decide) rfl tb_1_30 dX2_firstPace_8 ?_
  obtain ⟨v1, hv, hf⟩ := ob_some hf
  refine gAa4 hC hP hv dX2_firstPace_11 ?_
  obtain ⟨S2, hv, hf⟩ := ob_some hf
  refine cV hS (runS hC hP hS (As := [.ref (ad G v1)]) (rest := []) (k_X2_wipe l G S v1 _ hv) vy_X2_wipe tb_3_53 tb_3_54 ⟨Nat.le_of_ble_eq_true rfl, Nat.le_of_ble_eq_true rfl⟩ rfl hl.1 rfl (Nat.le_of_ble_eq_true rfl) dX2_firstPace_12) (fun H locs hP hS => ?_)
  refine lv_aload_n hx hb dX2_firstPace_15 rfl (lv_at hl 0 rfl) ?_
  refine gFr hC hP (j := 5) sg_13 vc_2 iT2 (by decide) rfl tb_1_129 dX2_firstPace_16 ?_
  refine lv_aload_n hx hb dX2_firstPace_19 rfl (lv_at hl 0 rfl) ?_
  refine gFr hC hP (j := 0) sg_13 vc_2 iT2 (by decide) rfl tb_1_124 dX2_firstPace_20 ?_
  refine gFi hC hP (j := 0) sg_1 vc_1 iT1 (by decide) rfl tb_1_30 dX2_firstPace_23 ?_
  obtain ⟨v3, hv, hf⟩ := ob_some hf
  refine gAa4 hC hP hv dX2_firstPace_26 ?_
  refine lv_iload_n hx hb dX2_firstPace_27 rfl (lv_at hl 1 rfl) ?_
  refine lv_iload_n hx hb dX2_firstPace_28 rfl (lv_at hl 2 rfl) ?_
  refine lv_iadd hx hb dX2_firstPace_29 ?_
  obtain ⟨S4, hv, hf⟩ := ob_some hf
  refine cV hS (runSN hC hP hS (As := [.ref (ad G v3), .int (x1 + x2)]) (rest := []) (k_X7_putBit l G S2 v3 (x1 + x2) _ hv) vy_X7_putBit nw_10 tb_3_59 ⟨Nat.le_of_ble_eq_true rfl, Nat.le_of_ble_eq_true rfl⟩ rfl hl.1 rfl (Nat.le_of_ble_eq_true rfl) dX2_firstPace_30) (fun H locs hP hS => ?_)
  refine lv_aload_n hx hb dX2_firstPace_33 rfl (lv_at hl 0 rfl) ?_
  obtain ⟨S5, hv, hf⟩ := ob_some hf
  refine cV hS (runV hC hP hS (As := []) (rest := []) (k_X2_goBack l G S4 _ hv) vy_X2_goBack sg_13 vc_2 tb_3_102 tb_3_104 ts_17 ⟨Nat.le_of_ble_eq_true rfl, Nat.le_of_ble_eq_true rfl⟩ rfl hl.1 rfl (Nat.le_of_ble_eq_true rfl) dX2_firstPace_34) (fun H locs hP hS => ?_)
  refine lv_iload_n hx hb dX2_firstPace_37 rfl (lv_at hl 1 rfl) ?_
  refine lv_istore (lv' := [(4, .int x1), (0, .ref (ad G 13)), (1, .int x1), (2, .int x2), (3, .int x3)]) hx hb dX2_firstPace_38 hl (by decide) rfl (fun ls hl => ?_)
  refine lv_bipush (v := (-4)) hx hb dX2_firstPace_40 (by decide) ?_
  refine lv_istore (lv' := [(5, .int (-4)), (4, .int x1), (0, .ref (ad G 13)), (1, .int x1), (2, .int x2), (3, .int x3)]) hx hb dX2_firstPace_42 hl (by decide) rfl (fun ls hl => ?_)
  refine lv_iconst (v := 0) hx hb dX2_firstPace_44 (by decide) ?_
  refine lv_istore (lv' := [(6, .int 0), (5, .int (-4)), (4, .int x1), (0, .ref (ad G 13)), (1, .int x1), (2, .int x2), (3, .int x3)]) hx hb dX2_firstPace_45 hl (by decide) rfl (fun ls hl => ?_)
  exact w_X2_firstPace_47 hC hQ _ _ _ _ _ _ _ _ _ hP hS (lv_sub hl [3, 6, 2, 1, 0] rfl) hf
def f_X7_least (S : ST) (x1 : Int32) (x2 : Int32) (x3 : Int32) : Option (Int32 × ST) := (f_X7_refusalAt S x1 x2 x3 (-1)).bind fun v1 => if v1 = 0 then ((f_X5_begin S x1).bind fun S2 => (f_X2_begin S2).bind fun S3 => b2 (f_X2_quickest S3 x2) fun v4 S5 => if v4 = (-4) then (some (v4, S5)) else (if 0 ≤ x3 then (b2 (f_X2_firstPace S5 x2 v4 x3) fun v6 S7 => some (v6, S7)) else (some (v4, S5)))) else (some (v1, S))
set_option maxRecDepth 100000 in
set_option maxHeartbeats 4000000 in
theorem k_X7_least (l : Launch) (G : GT) (S : ST) (x1 : Int32) (x2 : Int32) (x3 : Int32) (r : Int32) (S' : ST) (hf : f_X7_least S x1 x2 x3 = some (r, S')) : MI l yX7_least cX7_least 6 (some .int) 7 [.ref (ad G 0), .int x1, .int x2, .int x3] G S r S' := by
  rw [f_X7_least] at hf
  refine mkI (own := RX7) (by decide +kernel) rfl rfl (Nat.le_of_ble_eq_true rfl) (fun p e s m args below meth c Q ls hC hP hS hl hQ => ?_)
  have hl : lv_has ls 6 [(0, .ref (ad G 0)), (1, .int x1), (2, .int x2), (3, .int x3)] := hl
  obtain ⟨hx, hb, hml, hown, hts⟩ := id hC.1
  refine lv_aload_n hx hb dX7_least_0 rfl (lv_at hl 0 rfl) ?_
  refine lv_iload_n hx hb dX7_least_1 rfl (lv_at hl 1 rfl) ?_
  refine lv_iload_n hx hb dX7_least_2 rfl (lv_at hl 2 rfl) ?_
  refine lv_iload_n hx hb dX7_least_3 rfl (lv_at hl 3 rfl) ?_
  refine lv_iconst (v := (-1)) hx hb dX7_least_4 (by decide) ?_
  obtain ⟨v1, hv, hf⟩ := ob_some hf
  refine cI hS (runV hC hP hS (As := [.int x1, .int x2, .int x3, .int (-1)]) (rest := []) (k_X7_refusalAt l G S x1 x2 x3 (-1) _ hv) vy_X7_refusalAt sg_0 vc_7 tb_3_36 tb_3_38 ts_13 ⟨Nat.le_of_ble_eq_true rfl, Nat.le_of_ble_eq_true rfl⟩ rfl hl.1 rfl (Nat.le_of_ble_eq_true rfl) dX7_least_5) (fun H locs hP hS => ?_)
  refine lv_istore (lv' := [(4, .int v1), (0, .ref (ad G 0)), (1, .int x1), (2, .int x2), (3, .int x3)]) hx hb dX7_least_8 hl (by decide) rfl (fun ls hl => ?_)
  refine lv_iload hx hb dX7_least_10 (lv_at hl 0 rfl) ?_
  refine lv_if_eq (tgt := 18) hx hb dX7_least_12 (by decide) (fun hc => ?_) (fun hc => ?_)
  · rw [if_pos hc] at hf
    refine lv_aload_n hx hb dX7_least_18 rfl (lv_at hl 1 rfl) ?_
    refine gFr hC hP (j := 2) sg_0 vc_7 iT7 (by decide) rfl tb_1_214 dX7_least_19 ?_
    refine lv_iload_n hx hb dX7_least_22 rfl (lv_at hl 2 rfl) ?_
    obtain ⟨S2, hv, hf⟩ := ob_some hf
    refine cV hS (runV hC hP hS (As := [.int x1]) (rest := []) (k_X5_begin l G S x1 _ hv) vy_X5_begin sg_11 vc_5 tb_2_198 tb_2_199 tb_2_200 ⟨Nat.le_of_ble_eq_true rfl, Nat.le_of_ble_eq_true rfl⟩ rfl hl.1 rfl (Nat.le_of_ble_eq_true rfl) dX7_least_23) (fun H locs hP hS => ?_)
    refine lv_aload_n hx hb dX7_least_26 rfl (lv_at hl 1 rfl) ?_
    refine gFr hC hP (j := 4) sg_0 vc_7 iT7 (by decide) rfl tb_1_216 dX7_least_27 ?_
    refine lv_aload_n hx hb dX7_least_30 rfl (lv_at hl 1 rfl) ?_
    refine gFr hC hP (j := 2) sg_0 vc_7 iT7 (by decide) rfl tb_1_214 dX7_least_31 ?_
    obtain ⟨S3, hv, hf⟩ := ob_some hf
    refine cV hS (runV hC hP hS (As := [.ref (ad G 11)]) (rest := []) (k_X2_begin l G S2 _ hv) vy_X2_begin sg_13 vc_2 tb_3_40 tb_3_41 tb_3_42 ⟨Nat.le_of_ble_eq_true rfl, Nat.le_of_ble_eq_true rfl⟩ rfl hl.1 rfl (Nat.le_of_ble_eq_true rfl) dX7_least_34) (fun H locs hP hS => ?_)
    refine lv_aload_n hx hb dX7_least_37 rfl (lv_at hl 1 rfl) ?_
    refine gFr hC hP (j := 4) sg_0 vc_7 iT7 (by decide) rfl tb_1_216 dX7_least_38 ?_
    refine lv_iload_n hx hb dX7_least_41 rfl (lv_at hl 3 rfl) ?_
    obtain ⟨v4, S5, hv, hf⟩ := ob_two hf
    refine cI hS (runV hC hP hS (As := [.int x2]) (rest := []) (k_X2_quickest l G S3 x2 _ _ hv) vy_X2_quickest sg_13 vc_2 tb_3_74 tb_3_75 tb_3_76 ⟨Nat.le_of_ble_eq_true rfl, Nat.le_of_ble_eq_true rfl⟩ rfl hl.1 rfl (Nat.le_of_ble_eq_true rfl) dX7_least_42) (fun H locs hP hS => ?_)
    refine lv_istore (lv' := [(5, .int v4), (4, .int v1), (0, .ref (ad G 0)), (1, .int x1), (2, .int x2), (3, .int x3)]) hx hb dX7_least_45 hl (by decide) rfl (fun ls hl => ?_)
    refine lv_iload hx hb dX7_least_47 (lv_at hl 0 rfl) ?_
    refine lv_bipush (v := (-4)) hx hb dX7_least_49 (by decide) ?_
    refine lv_icmp_eq (tgt := 58) hx hb dX7_least_51 (by decide) (fun hc => ?_) (fun hc => ?_)
    · rw [if_pos hc] at hf
      refine lv_iload hx hb dX7_least_58 (lv_at hl 0 rfl) ?_
      exact retIw hQ hf hP hS dX7_least_60
    · rw [if_neg hc] at hf
      refine lv_iload_n hx hb dX7_least_54 rfl (lv_at hl 5 rfl) ?_
      refine lv_if_ge (tgt := 61) hx hb dX7_least_55 (by decide) (fun hc => ?_) (fun hc => ?_)
      · rw [if_pos hc] at hf
        refine lv_aload_n hx hb dX7_least_61 rfl (lv_at hl 2 rfl) ?_
        refine gFr hC hP (j := 4) sg_0 vc_7 iT7 (by decide) rfl tb_1_216 dX7_least_62 ?_
        refine lv_iload_n hx hb dX7_least_65 rfl (lv_at hl 4 rfl) ?_
        refine lv_iload hx hb dX7_least_66 (lv_at hl 0 rfl) ?_
        refine lv_iload_n hx hb dX7_least_68 rfl (lv_at hl 5 rfl) ?_
        obtain ⟨v6, S7, hv, hf⟩ := ob_two hf
        refine cI hS (runV hC hP hS (As := [.int x2, .int v4, .int x3]) (rest := []) (k_X2_firstPace l G S5 x2 v4 x3 _ _ hv) vy_X2_firstPace sg_13 vc_2 tb_3_98 tb_3_99 tb_3_100 ⟨Nat.le_of_ble_eq_true rfl, Nat.le_of_ble_eq_true rfl⟩ rfl hl.1 rfl (Nat.le_of_ble_eq_true rfl) dX7_least_69) (fun H locs hP hS => ?_)
        exact retIw hQ hf hP hS dX7_least_72
      · rw [if_neg hc] at hf
        refine lv_iload hx hb dX7_least_58 (lv_at hl 0 rfl) ?_
        exact retIw hQ hf hP hS dX7_least_60
  · rw [if_neg hc] at hf
    refine lv_iload hx hb dX7_least_15 (lv_at hl 0 rfl) ?_
    exact retIw hQ hf hP hS dX7_least_17
def f_X0_startsOf (S : ST) (x1 : Int32) : Option Nat := (rA 4 19 x1).bind fun v1 => some v1
set_option maxRecDepth 100000 in
set_option maxHeartbeats 4000000 in
theorem k_X0_startsOf (l : Launch) (G : GT) (S : ST) (x1 : Int32) (r : Nat) (hf : f_X0_startsOf S x1 = some r) : MA l yX0_startsOf cX0_startsOf 2 (some (.array .long)) 1 [.ref (ad G 18), .int x1] G S r S := by
  rw [f_X0_startsOf] at hf
  refine mkA (own := RX0) (by decide +kernel) rfl (Or.inr ⟨_, rfl⟩) (Nat.le_of_ble_eq_true rfl) (fun p e s m args below meth c Q ls hC hP hS hl hQ => ?_)
  have hl : lv_has ls 2 [(0, .ref (ad G 18)), (1, .int x1)] := hl
  obtain ⟨hx, hb, hml, hown, hts⟩ := id hC.1
  refine lv_aload_n hx hb dX0_startsOf_0 rfl (lv_at hl 0 rfl) ?_
  refine gFr hC hP (j := 0) sg_18 vc_0 iT0 (by decide) rfl tb_1_151 dX0_startsOf_1 ?_
  refine lv_iload_n hx hb dX0_startsOf_4 rfl (lv_at hl 1 rfl) ?_
  obtain ⟨v1, hv, hf⟩ := ob_some hf
  refine gAa4 hC hP hv dX0_startsOf_5 ?_
  exact retA hQ hf hP hS dX0_startsOf_6
def f_X2_findStarts_64  (k37 : ST → Nat → Int32 → Option ST) (S : ST) (x1 : Nat) (x2 : Int32) (y0 : Int64) : Option ST := (rA 4 17 0).bind fun v1 => (rL S v1 x2).bind fun v2 => (wL S x1 x2 (v2 &&& y0)).bind fun S3 => k37 S3 x1 (x2 + 1)
set_option maxRecDepth 100000 in
set_option maxHeartbeats 4000000 in
theorem w_X2_findStarts_64 {S' : ST} (hC : Cx p m c s args cX2_findStarts 5 RX2 G) (hQ : KV p l e (rmH 3) s m args below meth c Q cX2_findStarts G S') {k37 : ST → Nat → Int32 → Option ST} (hk37 : ∀ (S : ST) (x1 : Nat) (x2 : Int32) (H : Heap) (locs : List Loc) (ls : Array Slot), va_P (gD G) vwCl (cells G S) H → va_S (gA G) s.heap H locs → lv_has ls 5 [(0, .ref (ad G 13)), (1, .ref (ad G x1)), (2, .int x2)] → k37 S x1 x2 = some S' → W p l e (rmH 3) s m args below meth c H locs 0 0 Q (F0 m 37 ls [])) (S : ST) (x1 : Nat) (x2 : Int32) (y0 : Int64) (H : Heap) (locs : List Loc) (ls : Array Slot) (hP : va_P (gD G) vwCl (cells G S) H) (hS : va_S (gA G) s.heap H locs) (hl : lv_has ls 5 [(0, .ref (ad G 13)), (1, .ref (ad G x1)), (2, .int x2)]) (hf : f_X2_findStarts_64 k37 S x1 x2 y0 = some S') : W p l e (rmH 3) s m args below meth c H locs 0 0 Q (F0 m 64 ls [.long y0]) := by
  obtain ⟨hx, hb, hml, hown, hts⟩ := id hC.1
  rw [f_X2_findStarts_64] at hf
  refine lv_lstore_n (lv' := [(3, .long y0), (0, .ref (ad G 13)), (1, .ref (ad G x1)), (2, .int x2)]) hx hb dX2_findStarts_64 rfl hl (by decide) rfl (fun ls hl => ?_)
  refine lv_aload_n hx hb dX2_findStarts_65 rfl (lv_at hl 2 rfl) ?_
  refine lv_iload_n hx hb dX2_findStarts_66 rfl (lv_at hl 3 rfl) ?_
  refine lv_aload_n hx hb dX2_findStarts_67 rfl (lv_at hl 1 rfl) ?_
  refine gFr hC hP (j := 5) sg_13 vc_2 iT2 (by decide) rfl tb_1_129 dX2_findStarts_68 ?_
  refine lv_iconst (v := 0) hx hb dX2_findStarts_71 (by decide) ?_
  obtain ⟨v1, hv, hf⟩ := ob_some hf
  refine gAa4 hC hP hv dX2_findStarts_72 ?_
  refine lv_iload_n hx hb dX2_findStarts_73 rfl (lv_at hl 3 rfl) ?_
  obtain ⟨v2, hv, hf⟩ := ob_some hf
  refine gLa hC hP hv dX2_findStarts_74 ?_
  refine lv_lload_n hx hb dX2_findStarts_75 rfl (lv_at hl 0 rfl) ?_
  refine lv_land hx hb dX2_findStarts_76 ?_
  obtain ⟨S3, hv, hf⟩ := ob_some hf
  refine sLa hC hP hS hv dX2_findStarts_77 (fun H locs hP hS => ?_)
  refine lv_iinc (v := x2 + 1) (lv' := [(2, .int (x2 + 1)), (3, .long y0), (0, .ref (ad G 13)), (1, .ref (ad G x1))]) hx hb dX2_findStarts_78 hl (k := 3) rfl rfl (by decide) rfl (fun ls hl => ?_)
  refine lv_goto (tgt := 37) hx hb dX2_findStarts_81 (by decide) ?_
  exact hk37 _ _ _ _ _ _ hP hS (lv_sub hl [2, 3, 0] rfl) hf
def f_X2_findStarts_37  : Nat → ST → Nat → Int32 → Option ST
  | 0, _, _, _ => none
  | n + 1, S, x1, x2 => (lA 3 x1).bind fun v1 => if v1 ≤ x2 then (some S) else (if 38 ≤ x2 then (some S) else (if 22 ≤ x2 then (f_X2_findStarts_64 (f_X2_findStarts_37 n) S x1 x2 4294967295) else (f_X2_findStarts_64 (f_X2_findStarts_37 n) S x1 x2 (-1))))
set_option maxRecDepth 100000 in
set_option maxHeartbeats 4000000 in
theorem w_X2_findStarts_37 {S' : ST} (hC : Cx p m c s args cX2_findStarts 5 RX2 G) (hQ : KV p l e (rmH 3) s m args below meth c Q cX2_findStarts G S') : ∀ (n : Nat) (S : ST) (x1 : Nat) (x2 : Int32) (H : Heap) (locs : List Loc) (ls : Array Slot), va_P (gD G) vwCl (cells G S) H → va_S (gA G) s.heap H locs → lv_has ls 5 [(0, .ref (ad G 13)), (1, .ref (ad G x1)), (2, .int x2)] → f_X2_findStarts_37 n S x1 x2 = some S' → W p l e (rmH 3) s m args below meth c H locs 0 0 Q (F0 m 37 ls []) := by
  obtain ⟨hx, hb, hml, hown, hts⟩ := id hC.1
  intro n
  induction n with
  | zero => intro S x1 x2 H locs ls hP hS hl hf; rw [f_X2_findStarts_37] at hf; cases hf
  | succ n ih =>
    intro S x1 x2 H locs ls hP hS hl hf
    rw [f_X2_findStarts_37] at hf
    refine lv_iload_n hx hb dX2_findStarts_37 rfl (lv_at hl 2 rfl) ?_
    refine lv_aload_n hx hb dX2_findStarts_38 rfl (lv_at hl 1 rfl) ?_
    obtain ⟨v1, hv, hf⟩ := ob_some hf
    refine gLen (t := 3) (by decide) hC hP hv dX2_findStarts_39 ?_
    refine lv_icmp_ge (tgt := 84) hx hb dX2_findStarts_40 (by decide) (fun hc => ?_) (fun hc => ?_)
    · rw [if_pos hc] at hf
      exact retV hQ hf hP hS dX2_findStarts_84
    · rw [if_neg hc] at hf
      refine lv_iload_n hx hb dX2_findStarts_43 rfl (lv_at hl 2 rfl) ?_
      refine lv_bipush (v := 38) hx hb dX2_findStarts_44 (by decide) ?_
      refine lv_icmp_ge (tgt := 84) hx hb dX2_findStarts_46 (by decide) (fun hc => ?_) (fun hc => ?_)
      · rw [if_pos hc] at hf
        exact retV hQ hf hP hS dX2_findStarts_84
      · rw [if_neg hc] at hf
        refine lv_iload_n hx hb dX2_findStarts_49 rfl (lv_at hl 2 rfl) ?_
        refine lv_bipush (v := 22) hx hb dX2_findStarts_50 (by decide) ?_
        refine lv_icmp_ge (tgt := 61) hx hb dX2_findStarts_52 (by decide) (fun hc => ?_) (fun hc => ?_)
        · rw [if_pos hc] at hf
          refine lv_ldc2 hx hb hown (hts _ tb_3_131) dX2_findStarts_61 ?_
          exact w_X2_findStarts_64 hC hQ ih  _ _ _ _ _ _ _ hP hS (lv_sub hl [0, 1, 2] rfl) hf
        · rw [if_neg hc] at hf
          refine lv_ldc2 hx hb hown (hts _ tb_3_130) dX2_findStarts_55 ?_
          refine lv_goto (tgt := 64) hx hb dX2_findStarts_58 (by decide) ?_
          exact w_X2_findStarts_64 hC hQ ih  _ _ _ _ _ _ _ hP hS (lv_sub hl [0, 1, 2] rfl) hf
def f_X2_findStarts_2  : Nat → ST → Nat → Int32 → Option ST
  | 0, _, _, _ => none
  | n + 1, S, x1, x2 => if 38 ≤ x2 then ((f_X2_goBack S).bind fun S1 => f_X2_findStarts_37 FU S1 x1 0) else ((rA 4 17 (S.1 1 0)).bind fun v2 => (wL S v2 x2 (-1)).bind fun S3 => f_X2_findStarts_2 n S3 x1 (x2 + 1))
set_option maxRecDepth 100000 in
set_option maxHeartbeats 4000000 in
theorem w_X2_findStarts_2 {S' : ST} (hC : Cx p m c s args cX2_findStarts 5 RX2 G) (hQ : KV p l e (rmH 3) s m args below meth c Q cX2_findStarts G S') : ∀ (n : Nat) (S : ST) (x1 : Nat) (x2 : Int32) (H : Heap) (locs : List Loc) (ls : Array Slot), va_P (gD G) vwCl (cells G S) H → va_S (gA G) s.heap H locs → lv_has ls 5 [(0, .ref (ad G 13)), (1, .ref (ad G x1)), (2, .int x2)] → f_X2_findStarts_2 n S x1 x2 = some S' → W p l e (rmH 3) s m args below meth c H locs 0 0 Q (F0 m 2 ls []) := by
  obtain ⟨hx, hb, hml, hown, hts⟩ := id hC.1
  intro n
  induction n with
  | zero => intro S x1 x2 H locs ls hP hS hl hf; rw [f_X2_findStarts_2] at hf; cases hf
  | succ n ih =>
    intro S x1 x2 H locs ls hP hS hl hf
    rw [f_X2_findStarts_2] at hf
    refine lv_iload_n hx hb dX2_findStarts_2 rfl (lv_at hl 2 rfl) ?_
    refine lv_bipush (v := 38) hx hb dX2_findStarts_3 (by decide) ?_
    refine lv_icmp_ge (tgt := 31) hx hb dX2_findStarts_5 (by decide) (fun hc => ?_) (fun hc => ?_)
    · rw [if_pos hc] at hf
      refine lv_aload_n hx hb dX2_findStarts_31 rfl (lv_at hl 0 rfl) ?_
      obtain ⟨S1, hv, hf⟩ := ob_some hf
      refine cV hS (runV hC hP hS (As := []) (rest := []) (k_X2_goBack l G S _ hv) vy_X2_goBack sg_13 vc_2 tb_3_102 tb_3_104 ts_17 ⟨Nat.le_of_ble_eq_true rfl, Nat.le_of_ble_eq_true rfl⟩ rfl hl.1 rfl (Nat.le_of_ble_eq_true rfl) dX2_findStarts_32) (fun H locs hP hS => ?_)
      refine lv_iconst (v := 0) hx hb dX2_findStarts_35 (by decide) ?_
      refine lv_istore_n (lv' := [(2, .int 0), (0, .ref (ad G 13)), (1, .ref (ad G x1))]) hx hb dX2_findStarts_36 rfl hl (by decide) rfl (fun ls hl => ?_)
      exact w_X2_findStarts_37 hC hQ _ _ _ _ _ _ _ hP hS (lv_sub hl [1, 2, 0] rfl) hf
    · rw [if_neg hc] at hf
      refine lv_aload_n hx hb dX2_findStarts_8 rfl (lv_at hl 0 rfl) ?_
      refine gFr hC hP (j := 5) sg_13 vc_2 iT2 (by decide) rfl tb_1_129 dX2_findStarts_9 ?_
      refine lv_aload_n hx hb dX2_findStarts_12 rfl (lv_at hl 0 rfl) ?_
      refine gFr hC hP (j := 0) sg_13 vc_2 iT2 (by decide) rfl tb_1_124 dX2_findStarts_13 ?_
      refine gFi hC hP (j := 0) sg_1 vc_1 iT1 (by decide) rfl tb_1_30 dX2_findStarts_16 ?_
      obtain ⟨v2, hv, hf⟩ := ob_some hf
      refine gAa4 hC hP hv dX2_findStarts_19 ?_
      refine lv_iload_n hx hb dX2_findStarts_20 rfl (lv_at hl 2 rfl) ?_
      refine lv_ldc2 hx hb hown (hts _ tb_3_130) dX2_findStarts_21 ?_
      obtain ⟨S3, hv, hf⟩ := ob_some hf
      refine sLa hC hP hS hv dX2_findStarts_24 (fun H locs hP hS => ?_)
      refine lv_iinc (v := x2 + 1) (lv' := [(2, .int (x2 + 1)), (0, .ref (ad G 13)), (1, .ref (ad G x1))]) hx hb dX2_findStarts_25 hl (k := 2) rfl rfl (by decide) rfl (fun ls hl => ?_)
      refine lv_goto (tgt := 2) hx hb dX2_findStarts_28 (by decide) ?_
      exact ih _ _ _ _ _ _ hP hS (lv_sub hl [1, 2, 0] rfl) hf
def f_X2_findStarts (S : ST) (x1 : Nat) : Option ST := f_X2_findStarts_2 FU S x1 0
set_option maxRecDepth 100000 in
set_option maxHeartbeats 4000000 in
theorem k_X2_findStarts (l : Launch) (G : GT) (S : ST) (x1 : Nat) (S' : ST) (hf : f_X2_findStarts S x1 = some S') : MV l yX2_findStarts cX2_findStarts 5 3 [.ref (ad G 13), .ref (ad G x1)] G S S' := by
  rw [f_X2_findStarts] at hf
  refine mkV (own := RX2) (by decide +kernel) rfl (Nat.le_of_ble_eq_true rfl) (fun p e s m args below meth c Q ls hC hP hS hl hQ => ?_)
  have hl : lv_has ls 5 [(0, .ref (ad G 13)), (1, .ref (ad G x1))] := hl
  obtain ⟨hx, hb, hml, hown, hts⟩ := id hC.1
  refine lv_iconst (v := 0) hx hb dX2_findStarts_0 (by decide) ?_
  refine lv_istore_n (lv' := [(2, .int 0), (0, .ref (ad G 13)), (1, .ref (ad G x1))]) hx hb dX2_findStarts_1 rfl hl (by decide) rfl (fun ls hl => ?_)
  exact w_X2_findStarts_2 hC hQ _ _ _ _ _ _ _ hP hS (lv_sub hl [1, 2, 0] rfl) hf
def f_X7_bitsIn_4 (S : ST)  : Nat → Nat → Int32 → Int32 → Option Int32
  | 0, _, _, _ => none
  | n + 1, x0, x1, x2 => (lA 3 x0).bind fun v1 => if v1 ≤ x2 then (some x1) else ((rL S x0 x2).bind fun v2 => (f_J13_bitCount_95d88 v2).bind fun v3 => f_X7_bitsIn_4 S n x0 (x1 + v3) (x2 + 1))
set_option maxRecDepth 100000 in
set_option maxHeartbeats 4000000 in
theorem w_X7_bitsIn_4 {r : Int32} {S : ST} (hC : Cx p m c s args cX7_bitsIn 3 RX7 G) (hQ : KI p l e (rmH 2) s m args below meth c Q cX7_bitsIn G r S) : ∀ (n : Nat) (x0 : Nat) (x1 : Int32) (x2 : Int32) (H : Heap) (locs : List Loc) (ls : Array Slot), va_P (gD G) vwCl (cells G S) H → va_S (gA G) s.heap H locs → lv_has ls 3 [(0, .ref (ad G x0)), (1, .int x1), (2, .int x2)] → f_X7_bitsIn_4 S n x0 x1 x2 = some r → W p l e (rmH 2) s m args below meth c H locs 0 0 Q (F0 m 4 ls []) := by
  obtain ⟨hx, hb, hml, hown, hts⟩ := id hC.1
  intro n
  induction n with
  | zero => intro x0 x1 x2 H locs ls hP hS hl hf; rw [f_X7_bitsIn_4] at hf; cases hf
  | succ n ih =>
    intro x0 x1 x2 H locs ls hP hS hl hf
    rw [f_X7_bitsIn_4] at hf
    refine lv_iload_n hx hb dX7_bitsIn_4 rfl (lv_at hl 2 rfl) ?_
    refine lv_aload_n hx hb dX7_bitsIn_5 rfl (lv_at hl 0 rfl) ?_
    obtain ⟨v1, hv, hf⟩ := ob_some hf
    refine gLen (t := 3) (by decide) hC hP hv dX7_bitsIn_6 ?_
    refine lv_icmp_ge (tgt := 25) hx hb dX7_bitsIn_7 (by decide) (fun hc => ?_) (fun hc => ?_)
    · rw [if_pos hc] at hf
      refine lv_iload_n hx hb dX7_bitsIn_25 rfl (lv_at hl 1 rfl) ?_
      exact retI hQ hf hP hS dX7_bitsIn_26
    · rw [if_neg hc] at hf
      refine lv_iload_n hx hb dX7_bitsIn_10 rfl (lv_at hl 1 rfl) ?_
      refine lv_aload_n hx hb dX7_bitsIn_11 rfl (lv_at hl 0 rfl) ?_
      refine lv_iload_n hx hb dX7_bitsIn_12 rfl (lv_at hl 2 rfl) ?_
      obtain ⟨v2, hv, hf⟩ := ob_some hf
      refine gLa hC hP hv dX7_bitsIn_13 ?_
      obtain ⟨v3, hv, hf⟩ := ob_some hf
      refine cI hS (runS hC hP hS (As := [.long v2]) (rest := [.int x1]) (k_J13_bitCount_95d88 l G S v2 _ hv) vy_J13_bitCount_95d88 tb_3_92 tb_3_93 ⟨Nat.le_of_ble_eq_true rfl, Nat.le_of_ble_eq_true rfl⟩ rfl hl.1 rfl (Nat.le_of_ble_eq_true rfl) dX7_bitsIn_14) (fun H locs hP hS => ?_)
      refine lv_iadd hx hb dX7_bitsIn_17 ?_
      refine lv_istore_n (lv' := [(1, .int (x1 + v3)), (0, .ref (ad G x0)), (2, .int x2)]) hx hb dX7_bitsIn_18 rfl hl (by decide) rfl (fun ls hl => ?_)
      refine lv_iinc (v := x2 + 1) (lv' := [(2, .int (x2 + 1)), (1, .int (x1 + v3)), (0, .ref (ad G x0))]) hx hb dX7_bitsIn_19 hl (k := 2) rfl rfl (by decide) rfl (fun ls hl => ?_)
      refine lv_goto (tgt := 4) hx hb dX7_bitsIn_22 (by decide) ?_
      exact ih _ _ _ _ _ _ hP hS (lv_sub hl [2, 1, 0] rfl) hf
def f_X7_bitsIn (S : ST) (x0 : Nat) : Option Int32 := f_X7_bitsIn_4 S FU x0 0 0
set_option maxRecDepth 100000 in
set_option maxHeartbeats 4000000 in
theorem k_X7_bitsIn (l : Launch) (G : GT) (S : ST) (x0 : Nat) (r : Int32) (hf : f_X7_bitsIn S x0 = some r) : MI l yX7_bitsIn cX7_bitsIn 3 (some .int) 2 [.ref (ad G x0)] G S r S := by
  rw [f_X7_bitsIn] at hf
  refine mkI (own := RX7) (by decide +kernel) rfl rfl (Nat.le_of_ble_eq_true rfl) (fun p e s m args below meth c Q ls hC hP hS hl hQ => ?_)
  have hl : lv_has ls 3 [(0, .ref (ad G x0))] := hl
  obtain ⟨hx, hb, hml, hown, hts⟩ := id hC.1
  refine lv_iconst (v := 0) hx hb dX7_bitsIn_0 (by decide) ?_
  refine lv_istore_n (lv' := [(1, .int 0), (0, .ref (ad G x0))]) hx hb dX7_bitsIn_1 rfl hl (by decide) rfl (fun ls hl => ?_)
  refine lv_iconst (v := 0) hx hb dX7_bitsIn_2 (by decide) ?_
  refine lv_istore_n (lv' := [(2, .int 0), (1, .int 0), (0, .ref (ad G x0))]) hx hb dX7_bitsIn_3 rfl hl (by decide) rfl (fun ls hl => ?_)
  exact w_X7_bitsIn_4 hC hQ _ _ _ _ _ _ _ hP hS (lv_sub hl [2, 1, 0] rfl) hf
def f_X7_lastOf_8 (S : ST)  : Nat → Nat → Int32 → Option Int32
  | 0, _, _ => none
  | n + 1, x0, x1 => if x1 < 0 then (some (-4)) else ((f_X7_hasBit S x0 x1).bind fun v1 => if v1 = 0 then (f_X7_lastOf_8 S n x0 (x1 + (-1))) else (some x1))
set_option maxRecDepth 100000 in
set_option maxHeartbeats 4000000 in
theorem w_X7_lastOf_8 {r : Int32} {S : ST} (hC : Cx p m c s args cX7_lastOf 2 RX7 G) (hQ : KI p l e (rmH 3) s m args below meth c Q cX7_lastOf G r S) : ∀ (n : Nat) (x0 : Nat) (x1 : Int32) (H : Heap) (locs : List Loc) (ls : Array Slot), va_P (gD G) vwCl (cells G S) H → va_S (gA G) s.heap H locs → lv_has ls 2 [(0, .ref (ad G x0)), (1, .int x1)] → f_X7_lastOf_8 S n x0 x1 = some r → W p l e (rmH 3) s m args below meth c H locs 0 0 Q (F0 m 8 ls []) := by
  obtain ⟨hx, hb, hml, hown, hts⟩ := id hC.1
  intro n
  induction n with
  | zero => intro x0 x1 H locs ls hP hS hl hf; rw [f_X7_lastOf_8] at hf; cases hf
  | succ n ih =>
    intro x0 x1 H locs ls hP hS hl hf
    rw [f_X7_lastOf_8] at hf
    refine lv_iload_n hx hb dX7_lastOf_8 rfl (lv_at hl 1 rfl) ?_
    refine lv_if_lt (tgt := 28) hx hb dX7_lastOf_9 (by decide) (fun hc => ?_) (fun hc => ?_)
    · rw [if_pos hc] at hf
      refine lv_bipush (v := (-4)) hx hb dX7_lastOf_28 (by decide) ?_
      exact retI hQ hf hP hS dX7_lastOf_30
    · rw [if_neg hc] at hf
      refine lv_aload_n hx hb dX7_lastOf_12 rfl (lv_at hl 0 rfl) ?_
      refine lv_iload_n hx hb dX7_lastOf_13 rfl (lv_at hl 1 rfl) ?_
      obtain ⟨v1, hv, hf⟩ := ob_some hf
      refine cI hS (runS hC hP hS (As := [.ref (ad G x0), .int x1]) (rest := []) (k_X7_hasBit l G S x0 x1 _ hv) vy_X7_hasBit tb_3_139 tb_3_115 ⟨Nat.le_of_ble_eq_true rfl, Nat.le_of_ble_eq_true rfl⟩ rfl hl.1 rfl (Nat.le_of_ble_eq_true rfl) dX7_lastOf_14) (fun H locs hP hS => ?_)
      refine lv_if_eq (tgt := 22) hx hb dX7_lastOf_17 (by decide) (fun hc => ?_) (fun hc => ?_)
      · rw [if_pos hc] at hf
        refine lv_iinc (v := x1 + (-1)) (lv' := [(1, .int (x1 + (-1))), (0, .ref (ad G x0))]) hx hb dX7_lastOf_22 hl (k := 1) rfl rfl (by decide) rfl (fun ls hl => ?_)
        refine lv_goto (tgt := 8) hx hb dX7_lastOf_25 (by decide) ?_
        exact ih _ _ _ _ _ hP hS (lv_sub hl [1, 0] rfl) hf
      · rw [if_neg hc] at hf
        refine lv_iload_n hx hb dX7_lastOf_20 rfl (lv_at hl 1 rfl) ?_
        exact retI hQ hf hP hS dX7_lastOf_21
def f_X7_lastOf (S : ST) (x0 : Nat) : Option Int32 := (lA 3 x0).bind fun v1 => f_X7_lastOf_8 S FU x0 ((v1 * 64) - 1)
set_option maxRecDepth 100000 in
set_option maxHeartbeats 4000000 in
theorem k_X7_lastOf (l : Launch) (G : GT) (S : ST) (x0 : Nat) (r : Int32) (hf : f_X7_lastOf S x0 = some r) : MI l yX7_lastOf cX7_lastOf 2 (some .int) 3 [.ref (ad G x0)] G S r S := by
  rw [f_X7_lastOf] at hf
  refine mkI (own := RX7) (by decide +kernel) rfl rfl (Nat.le_of_ble_eq_true rfl) (fun p e s m args below meth c Q ls hC hP hS hl hQ => ?_)
  have hl : lv_has ls 2 [(0, .ref (ad G x0))] := hl
  obtain ⟨hx, hb, hml, hown, hts⟩ := id hC.1
  refine lv_aload_n hx hb dX7_lastOf_0 rfl (lv_at hl 0 rfl) ?_
  obtain ⟨v1, hv, hf⟩ := ob_some hf
  refine gLen (t := 3) (by decide) hC hP hv dX7_lastOf_1 ?_
  refine lv_bipush (v := 64) hx hb dX7_lastOf_2 (by decide) ?_
  refine lv_imul hx hb dX7_lastOf_4 ?_
  refine lv_iconst (v := 1) hx hb dX7_lastOf_5 (by decide) ?_
  refine lv_isub hx hb dX7_lastOf_6 ?_
  refine lv_istore_n (lv' := [(1, .int ((v1 * 64) - 1)), (0, .ref (ad G x0))]) hx hb dX7_lastOf_7 rfl hl (by decide) rfl (fun ls hl => ?_)
  exact w_X7_lastOf_8 hC hQ _ _ _ _ _ _ hP hS (lv_sub hl [1, 0] rfl) hf
end
