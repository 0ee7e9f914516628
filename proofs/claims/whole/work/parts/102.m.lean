section
variable {p : Program} {l : Launch} {e : Env} {s : State} {m : MethodId} {args : Array Value} {below : List Frame} {meth : Method} {c : Code} {Q : State → Prop} {G : GT}

def f_X4_finish_23  (S : ST) (x1 : Int32) : Option (Int32 × ST) := if ((sI S 22 2 0).1 22 4) = 0 then (some (x1, (sI S 22 2 0))) else (some (((sI S 22 2 0).1 22 4), (sI S 22 2 0)))
set_option maxRecDepth 100000 in
set_option maxHeartbeats 4000000 in
theorem w_X4_finish_23 {r : Int32} {S' : ST} (hC : Cx p m c s args cX4_finish 2 RX4 G) (hQ : KI p l e (rmH 2) s m args below meth c Q cX4_finish G r S') (S : ST) (x1 : Int32) (H : Heap) (locs : List Loc) (ls : Array Slot) (hP : va_P (gD G) vwCl (cells G S) H) (hS : va_S (gA G) s.heap H locs) (hl : lv_has ls 2 [(0, .ref (ad G 22)), (1, .int x1)]) (hf : f_X4_finish_23 S x1 = some (r, S')) : W p l e (rmH 2) s m args below meth c H locs 0 0 Q (F0 m 23 ls []) := by
  obtain ⟨hx, hb, hml, hown, hts⟩ := id hC.1
  rw [f_X4_finish_23] at hf
  refine lv_aload_n hx hb dX4_finish_23 rfl (lv_at hl 0 rfl) ?_
  refine lv_iconst (v := 0) hx hb dX4_finish_24 (by decide) ?_
  refine pFi hC hP hS (j := 2) sg_22 vc_4 iT4 tyX4_ok nmX4 (by decide) rfl tb_1_179 rfl rfl rfl dX4_finish_25 (fun H locs hP hS => ?_)
  refine lv_aload_n hx hb dX4_finish_28 rfl (lv_at hl 0 rfl) ?_
  refine gFi hC hP (j := 4) sg_22 vc_4 iT4 (by decide) rfl tb_1_181 dX4_finish_29 ?_
  refine lv_if_eq (tgt := 42) hx hb dX4_finish_32 (by decide) (fun hc => ?_) (fun hc => ?_)
  · rw [if_pos hc] at hf
    refine lv_iload_n hx hb dX4_finish_42 rfl (lv_at hl 1 rfl) ?_
    exact retIw hQ hf hP hS dX4_finish_43
  · rw [if_neg hc] at hf
    refine lv_aload_n hx hb dX4_finish_35 rfl (lv_at hl 0 rfl) ?_
    refine gFi hC hP (j := 4) sg_22 vc_4 iT4 (by decide) rfl tb_1_181 dX4_finish_36 ?_
    refine lv_goto (tgt := 43) hx hb dX4_finish_39 (by decide) ?_
    exact retIw hQ hf hP hS dX4_finish_43
def f_X4_finish (S : ST) (x1 : Int32) : Option (Int32 × ST) := (f_X4_skipBlanks S).bind fun S1 => if (S1.1 22 2) ≤ (S1.1 22 3) then (f_X4_finish_23 S1 x1) else ((f_X4_fail S1 (S1.1 22 3)).bind fun S2 => f_X4_finish_23 S2 x1)
set_option maxRecDepth 100000 in
set_option maxHeartbeats 4000000 in
theorem k_X4_finish (l : Launch) (G : GT) (S : ST) (x1 : Int32) (r : Int32) (S' : ST) (hf : f_X4_finish S x1 = some (r, S')) : MI l yX4_finish cX4_finish 2 (some .int) 2 [.ref (ad G 22), .int x1] G S r S' := by
  rw [f_X4_finish] at hf
  refine mkI (own := RX4) (by decide +kernel) rfl rfl (Nat.le_of_ble_eq_true rfl) (fun p e s m args below meth c Q ls hC hP hS hl hQ => ?_)
  have hl : lv_has ls 2 [(0, .ref (ad G 22)), (1, .int x1)] := hl
  obtain ⟨hx, hb, hml, hown, hts⟩ := id hC.1
  refine lv_aload_n hx hb dX4_finish_0 rfl (lv_at hl 0 rfl) ?_
  obtain ⟨S1, hv, hf⟩ := ob_some hf
  refine cV hS (runV hC hP hS (As := []) (rest := []) (k_X4_skipBlanks l G S _ hv) vy_X4_skipBlanks sg_22 vc_4 tb_2_104 tb_2_106 ts_4 ⟨Nat.le_of_ble_eq_true rfl, Nat.le_of_ble_eq_true rfl⟩ rfl hl.1 rfl (Nat.le_of_ble_eq_true rfl) dX4_finish_1) (fun H locs hP hS => ?_)
  refine lv_aload_n hx hb dX4_finish_4 rfl (lv_at hl 0 rfl) ?_
  refine gFi hC hP (j := 3) sg_22 vc_4 iT4 (by decide) rfl tb_1_180 dX4_finish_5 ?_
  refine lv_aload_n hx hb dX4_finish_8 rfl (lv_at hl 0 rfl) ?_
  refine gFi hC hP (j := 2) sg_22 vc_4 iT4 (by decide) rfl tb_1_179 dX4_finish_9 ?_
  refine lv_icmp_ge (tgt := 23) hx hb dX4_finish_12 (by decide) (fun hc => ?_) (fun hc => ?_)
  · rw [if_pos hc] at hf
    exact w_X4_finish_23 hC hQ  _ _ _ _ _ hP hS (lv_sub hl [0, 1] rfl) hf
  · rw [if_neg hc] at hf
    refine lv_aload_n hx hb dX4_finish_15 rfl (lv_at hl 0 rfl) ?_
    refine lv_aload_n hx hb dX4_finish_16 rfl (lv_at hl 0 rfl) ?_
    refine gFi hC hP (j := 3) sg_22 vc_4 iT4 (by decide) rfl tb_1_180 dX4_finish_17 ?_
    obtain ⟨S2, hv, hf⟩ := ob_some hf
    refine cV hS (runV hC hP hS (As := [.int (S1.1 22 3)]) (rest := []) (k_X4_fail l G S1 (S1.1 22 3) _ hv) vy_X4_fail sg_22 vc_4 tb_2_114 tb_2_116 ts_5 ⟨Nat.le_of_ble_eq_true rfl, Nat.le_of_ble_eq_true rfl⟩ rfl hl.1 rfl (Nat.le_of_ble_eq_true rfl) dX4_finish_20) (fun H locs hP hS => ?_)
    exact w_X4_finish_23 hC hQ  _ _ _ _ _ hP hS (lv_sub hl [0, 1] rfl) hf
def f_X4_readChannel_32  (S : ST) (x1 : Int32) : Option (Int32 × ST) := b2 (f_X4_finish S x1) fun v1 S2 => some (v1, S2)
set_option maxRecDepth 100000 in
set_option maxHeartbeats 4000000 in
theorem w_X4_readChannel_32 {r : Int32} {S' : ST} (hC : Cx p m c s args cX4_readChannel 2 RX4 G) (hQ : KI p l e (rmH 6) s m args below meth c Q cX4_readChannel G r S') (S : ST) (x1 : Int32) (H : Heap) (locs : List Loc) (ls : Array Slot) (hP : va_P (gD G) vwCl (cells G S) H) (hS : va_S (gA G) s.heap H locs) (hl : lv_has ls 2 [(0, .ref (ad G 22)), (1, .int x1)]) (hf : f_X4_readChannel_32 S x1 = some (r, S')) : W p l e (rmH 6) s m args below meth c H locs 0 0 Q (F0 m 32 ls []) := by
  obtain ⟨hx, hb, hml, hown, hts⟩ := id hC.1
  rw [f_X4_readChannel_32] at hf
  refine lv_aload_n hx hb dX4_readChannel_32 rfl (lv_at hl 0 rfl) ?_
  refine lv_iload_n hx hb dX4_readChannel_33 rfl (lv_at hl 1 rfl) ?_
  obtain ⟨v1, S2, hv, hf⟩ := ob_two hf
  refine cI hS (runV hC hP hS (As := [.int x1]) (rest := []) (k_X4_finish l G S x1 _ _ hv) vy_X4_finish sg_22 vc_4 tb_2_130 tb_2_132 ts_9 ⟨Nat.le_of_ble_eq_true rfl, Nat.le_of_ble_eq_true rfl⟩ rfl hl.1 rfl (Nat.le_of_ble_eq_true rfl) dX4_readChannel_34) (fun H locs hP hS => ?_)
  exact retIw hQ hf hP hS dX4_readChannel_37
def f_X4_readChannel_6  : Nat → ST → Int32 → Option (Int32 × ST)
  | 0, _, _ => none
  | n + 1, S, x1 => (f_X4_readMile S (x1 * 6)).bind fun S1 => if 8 ≤ (x1 + 1) then (f_X4_readChannel_32 S1 (x1 + 1)) else (b2 (f_X4_takes S1 59) fun v2 S3 => if v2 = 0 then (f_X4_readChannel_32 S3 (x1 + 1)) else (f_X4_readChannel_6 n S3 (x1 + 1)))
set_option maxRecDepth 100000 in
set_option maxHeartbeats 4000000 in
theorem w_X4_readChannel_6 {r : Int32} {S' : ST} (hC : Cx p m c s args cX4_readChannel 2 RX4 G) (hQ : KI p l e (rmH 6) s m args below meth c Q cX4_readChannel G r S') : ∀ (n : Nat) (S : ST) (x1 : Int32) (H : Heap) (locs : List Loc) (ls : Array Slot), va_P (gD G) vwCl (cells G S) H → va_S (gA G) s.heap H locs → lv_has ls 2 [(0, .ref (ad G 22)), (1, .int x1)] → f_X4_readChannel_6 n S x1 = some (r, S') → W p l e (rmH 6) s m args below meth c H locs 0 0 Q (F0 m 6 ls []) := by
  obtain ⟨hx, hb, hml, hown, hts⟩ := id hC.1
  intro n
  induction n with
  | zero => intro S x1 H locs ls hP hS hl hf; rw [f_X4_readChannel_6] at hf; cases hf
  | succ n ih =>
    intro S x1 H locs ls hP hS hl hf
    rw [f_X4_readChannel_6] at hf
    refine lv_aload_n hx hb dX4_readChannel_6 rfl (lv_at hl 0 rfl) ?_
    refine lv_iload_n hx hb dX4_readChannel_7 rfl (lv_at hl 1 rfl) ?_
    refine lv_bipush (v := 6) hx hb dX4_readChannel_8 (by decide) ?_
    refine lv_imul hx hb dX4_readChannel_10 ?_
    obtain ⟨S1, hv, hf⟩ := ob_some hf
    refine cV hS (runV hC hP hS (As := [.int (x1 * 6)]) (rest := []) (k_X4_readMile l G S (x1 * 6) _ hv) vy_X4_readMile sg_22 vc_4 tb_2_90 tb_2_92 ts_1 ⟨Nat.le_of_ble_eq_true rfl, Nat.le_of_ble_eq_true rfl⟩ rfl hl.1 rfl (Nat.le_of_ble_eq_true rfl) dX4_readChannel_11) (fun H locs hP hS => ?_)
    refine lv_iinc (v := x1 + 1) (lv' := [(1, .int (x1 + 1)), (0, .ref (ad G 22))]) hx hb dX4_readChannel_14 hl (k := 1) rfl rfl (by decide) rfl (fun ls hl => ?_)
    refine lv_iload_n hx hb dX4_readChannel_17 rfl (lv_at hl 0 rfl) ?_
    refine lv_bipush (v := 8) hx hb dX4_readChannel_18 (by decide) ?_
    refine lv_icmp_ge (tgt := 32) hx hb dX4_readChannel_20 (by decide) (fun hc => ?_) (fun hc => ?_)
    · rw [if_pos hc] at hf
      exact w_X4_readChannel_32 hC hQ  _ _ _ _ _ hP hS (lv_sub hl [1, 0] rfl) hf
    · rw [if_neg hc] at hf
      refine lv_aload_n hx hb dX4_readChannel_23 rfl (lv_at hl 1 rfl) ?_
      refine lv_bipush (v := 59) hx hb dX4_readChannel_24 (by decide) ?_
      obtain ⟨v2, S3, hv, hf⟩ := ob_two hf
      refine cI hS (runV hC hP hS (As := [.int 59]) (rest := []) (k_X4_takes l G S1 59 _ _ hv) vy_X4_takes sg_22 vc_4 tb_2_122 tb_2_124 ts_7 ⟨Nat.le_of_ble_eq_true rfl, Nat.le_of_ble_eq_true rfl⟩ rfl hl.1 rfl (Nat.le_of_ble_eq_true rfl) dX4_readChannel_26) (fun H locs hP hS => ?_)
      refine lv_if_ne (tgt := 6) hx hb dX4_readChannel_29 (by decide) (fun hc => ?_) (fun hc => ?_)
      · rw [if_neg hc] at hf
        exact ih _ _ _ _ _ hP hS (lv_sub hl [1, 0] rfl) hf
      · rw [if_pos hc] at hf
        exact w_X4_readChannel_32 hC hQ  _ _ _ _ _ hP hS (lv_sub hl [1, 0] rfl) hf
def f_X4_readChannel (S : ST)  : Option (Int32 × ST) := (f_X4_rewind S).bind fun S1 => f_X4_readChannel_6 FU S1 0
set_option maxRecDepth 100000 in
set_option maxHeartbeats 4000000 in
theorem k_X4_readChannel (l : Launch) (G : GT) (S : ST)  (r : Int32) (S' : ST) (hf : f_X4_readChannel S  = some (r, S')) : MI l yX4_readChannel cX4_readChannel 2 (some .int) 6 [.ref (ad G 22)] G S r S' := by
  rw [f_X4_readChannel] at hf
  refine mkI (own := RX4) (by decide +kernel) rfl rfl (Nat.le_of_ble_eq_true rfl) (fun p e s m args below meth c Q ls hC hP hS hl hQ => ?_)
  have hl : lv_has ls 2 [(0, .ref (ad G 22))] := hl
  obtain ⟨hx, hb, hml, hown, hts⟩ := id hC.1
  refine lv_aload_n hx hb dX4_readChannel_0 rfl (lv_at hl 0 rfl) ?_
  obtain ⟨S1, hv, hf⟩ := ob_some hf
  refine cV hS (runV hC hP hS (As := []) (rest := []) (k_X4_rewind l G S _ hv) vy_X4_rewind sg_22 vc_4 tb_2_86 tb_2_88 ts_0 ⟨Nat.le_of_ble_eq_true rfl, Nat.le_of_ble_eq_true rfl⟩ rfl hl.1 rfl (Nat.le_of_ble_eq_true rfl) dX4_readChannel_1) (fun H locs hP hS => ?_)
  refine lv_iconst (v := 0) hx hb dX4_readChannel_4 (by decide) ?_
  refine lv_istore_n (lv' := [(1, .int 0), (0, .ref (ad G 22))]) hx hb dX4_readChannel_5 rfl hl (by decide) rfl (fun ls hl => ?_)
  exact w_X4_readChannel_6 hC hQ _ _ _ _ _ _ hP hS (lv_sub hl [1, 0] rfl) hf
def f_X1_takeMiles (S : ST) (x1 : Nat) (x2 : Int32) : Option ST := (f_J9_min_7cf53 x2 8).bind fun v1 => (cpy (sI S 1 0 v1) x1 0 4 0 (((sI S 1 0 v1).1 1 0) * 6)).bind fun S2 => some S2
set_option maxRecDepth 100000 in
set_option maxHeartbeats 4000000 in
theorem k_X1_takeMiles (l : Launch) (G : GT) (S : ST) (x1 : Nat) (x2 : Int32) (S' : ST) (hf : f_X1_takeMiles S x1 x2 = some S') : MV l yX1_takeMiles cX1_takeMiles 3 2 [.ref (ad G 1), .ref (ad G x1), .int x2] G S S' := by
  rw [f_X1_takeMiles] at hf
  refine mkV (own := RX1) (by decide +kernel) rfl (Nat.le_of_ble_eq_true rfl) (fun p e s m args below meth c Q ls hC hP hS hl hQ => ?_)
  have hl : lv_has ls 3 [(0, .ref (ad G 1)), (1, .ref (ad G x1)), (2, .int x2)] := hl
  obtain ⟨hx, hb, hml, hown, hts⟩ := id hC.1
  refine lv_aload_n hx hb dX1_takeMiles_0 rfl (lv_at hl 0 rfl) ?_
  refine lv_iload_n hx hb dX1_takeMiles_1 rfl (lv_at hl 2 rfl) ?_
  refine lv_bipush (v := 8) hx hb dX1_takeMiles_2 (by decide) ?_
  obtain ⟨v1, hv, hf⟩ := ob_some hf
  refine cI hS (runS hC hP hS (As := [.int x2, .int 8]) (rest := [.ref (ad G 1)]) (k_J9_min_7cf53 l G S x2 8 _ hv) vy_J9_min_7cf53 tb_2_138 tb_2_112 ⟨Nat.le_of_ble_eq_true rfl, Nat.le_of_ble_eq_true rfl⟩ rfl hl.1 rfl (Nat.le_of_ble_eq_true rfl) dX1_takeMiles_4) (fun H locs hP hS => ?_)
  refine pFi hC hP hS (j := 0) sg_1 vc_1 iT1 tyX1_ok nmX1 (by decide) rfl tb_1_28 rfl rfl rfl dX1_takeMiles_7 (fun H locs hP hS => ?_)
  refine lv_aload_n hx hb dX1_takeMiles_10 rfl (lv_at hl 1 rfl) ?_
  refine lv_iconst (v := 0) hx hb dX1_takeMiles_11 (by decide) ?_
  refine lv_aload_n hx hb dX1_takeMiles_12 rfl (lv_at hl 0 rfl) ?_
  refine gFr hC hP (j := 4) sg_1 vc_1 iT1 (by decide) rfl tb_1_41 dX1_takeMiles_13 ?_
  refine lv_iconst (v := 0) hx hb dX1_takeMiles_16 (by decide) ?_
  refine lv_aload_n hx hb dX1_takeMiles_17 rfl (lv_at hl 0 rfl) ?_
  refine gFi hC hP (j := 0) sg_1 vc_1 iT1 (by decide) rfl tb_1_28 dX1_takeMiles_18 ?_
  refine lv_bipush (v := 6) hx hb dX1_takeMiles_21 (by decide) ?_
  refine lv_imul hx hb dX1_takeMiles_23 ?_
  obtain ⟨S2, hv, hf⟩ := ob_some hf
  refine sCp hC hP hS (rest := []) hv hl.1 tb_2_139 tb_2_141 tb_2_140 tb_1_11 ⟨Nat.le_of_ble_eq_true rfl, Nat.le_of_ble_eq_true rfl⟩ dX1_takeMiles_24 (fun H locs hP hS => ?_)
  exact retV hQ hf hP hS dX1_takeMiles_27
def f_X7_channel (S : ST)  : Option (Int32 × ST) := b2 (f_X4_readChannel S) fun v1 S2 => if v1 ≤ 0 then (some (v1, S2)) else ((f_X1_takeMiles S2 23 v1).bind fun S3 => some (v1, S3))
set_option maxRecDepth 100000 in
set_option maxHeartbeats 4000000 in
theorem k_X7_channel (l : Launch) (G : GT) (S : ST)  (r : Int32) (S' : ST) (hf : f_X7_channel S  = some (r, S')) : MI l yX7_channel cX7_channel 2 (some .int) 7 [.ref (ad G 0)] G S r S' := by
  rw [f_X7_channel] at hf
  refine mkI (own := RX7) (by decide +kernel) rfl rfl (Nat.le_of_ble_eq_true rfl) (fun p e s m args below meth c Q ls hC hP hS hl hQ => ?_)
  have hl : lv_has ls 2 [(0, .ref (ad G 0))] := hl
  obtain ⟨hx, hb, hml, hown, hts⟩ := id hC.1
  refine lv_aload_n hx hb dX7_channel_0 rfl (lv_at hl 0 rfl) ?_
  refine gFr hC hP (j := 6) sg_0 vc_7 iT7 (by decide) rfl tb_1_218 dX7_channel_1 ?_
  obtain ⟨v1, S2, hv, hf⟩ := ob_two hf
  refine cI hS (runV hC hP hS (As := []) (rest := []) (k_X4_readChannel l G S _ _ hv) vy_X4_readChannel sg_22 vc_4 tb_2_82 tb_2_83 tb_2_84 ⟨Nat.le_of_ble_eq_true rfl, Nat.le_of_ble_eq_true rfl⟩ rfl hl.1 rfl (Nat.le_of_ble_eq_true rfl) dX7_channel_4) (fun H locs hP hS => ?_)
  refine lv_istore_n (lv' := [(1, .int v1), (0, .ref (ad G 0))]) hx hb dX7_channel_7 rfl hl (by decide) rfl (fun ls hl => ?_)
  refine lv_iload_n hx hb dX7_channel_8 rfl (lv_at hl 0 rfl) ?_
  refine lv_if_le (tgt := 27) hx hb dX7_channel_9 (by decide) (fun hc => ?_) (fun hc => ?_)
  · rw [if_pos hc] at hf
    refine lv_iload_n hx hb dX7_channel_27 rfl (lv_at hl 0 rfl) ?_
    exact retIw hQ hf hP hS dX7_channel_28
  · rw [if_neg hc] at hf
    refine lv_aload_n hx hb dX7_channel_12 rfl (lv_at hl 1 rfl) ?_
    refine gFr hC hP (j := 0) sg_0 vc_7 iT7 (by decide) rfl tb_1_212 dX7_channel_13 ?_
    refine lv_aload_n hx hb dX7_channel_16 rfl (lv_at hl 1 rfl) ?_
    refine gFr hC hP (j := 6) sg_0 vc_7 iT7 (by decide) rfl tb_1_218 dX7_channel_17 ?_
    refine gFr hC hP (j := 0) sg_22 vc_4 iT4 (by decide) rfl tb_1_177 dX7_channel_20 ?_
    refine lv_iload_n hx hb dX7_channel_23 rfl (lv_at hl 0 rfl) ?_
    obtain ⟨S3, hv, hf⟩ := ob_some hf
    refine cV hS (runV hC hP hS (As := [.ref (ad G 23), .int v1]) (rest := []) (k_X1_takeMiles l G S2 23 v1 _ hv) vy_X1_takeMiles sg_1 vc_1 tb_2_134 tb_2_135 tb_2_136 ⟨Nat.le_of_ble_eq_true rfl, Nat.le_of_ble_eq_true rfl⟩ rfl hl.1 rfl (Nat.le_of_ble_eq_true rfl) dX7_channel_24) (fun H locs hP hS => ?_)
    refine lv_iload_n hx hb dX7_channel_27 rfl (lv_at hl 0 rfl) ?_
    exact retIw hQ hf hP hS dX7_channel_28
def f_J9_max_7cf53 (x0 : Int32) (x1 : Int32) : Option Int32 := if x0 < x1 then (some x1) else (some x0)
set_option maxRecDepth 100000 in
set_option maxHeartbeats 4000000 in
theorem k_J9_max_7cf53 (l : Launch) (G : GT) (S : ST) (x0 : Int32) (x1 : Int32) (r : Int32) (hf : f_J9_max_7cf53 x0 x1 = some r) : MI l yJ9_max_7cf53 cJ9_max_7cf53 2 (some .int) 1 [.int x0, .int x1] G S r S := by
  rw [f_J9_max_7cf53] at hf
  refine mkI (own := RJ9) (by decide +kernel) rfl rfl (Nat.le_of_ble_eq_true rfl) (fun p e s m args below meth c Q ls hC hP hS hl hQ => ?_)
  have hl : lv_has ls 2 [(0, .int x0), (1, .int x1)] := hl
  obtain ⟨hx, hb, hml, hown, hts⟩ := id hC.1
  refine lv_iload_n hx hb dJ9_max_7cf53_0 rfl (lv_at hl 0 rfl) ?_
  refine lv_iload_n hx hb dJ9_max_7cf53_1 rfl (lv_at hl 1 rfl) ?_
  refine lv_icmp_lt (tgt := 9) hx hb dJ9_max_7cf53_2 (by decide) (fun hc => ?_) (fun hc => ?_)
  · rw [if_pos hc] at hf
    refine lv_iload_n hx hb dJ9_max_7cf53_9 rfl (lv_at hl 1 rfl) ?_
    exact retI hQ hf hP hS dJ9_max_7cf53_10
  · rw [if_neg hc] at hf
    refine lv_iload_n hx hb dJ9_max_7cf53_5 rfl (lv_at hl 0 rfl) ?_
    refine lv_goto (tgt := 10) hx hb dJ9_max_7cf53_6 (by decide) ?_
    exact retI hQ hf hP hS dJ9_max_7cf53_10
def f_X4_readTide_24  (k8 : ST → Int32 → Int32 → Option (Int32 × ST)) (S : ST) (x1 : Int32) (x2 : Int32) : Option (Int32 × ST) := b2 (f_X4_number S 0 99) fun v1 S2 => (wI S2 23 x2 v1).bind fun S3 => (rI S3 0 23 x2).bind fun v4 => (f_J9_max_7cf53 x1 v4).bind fun v5 => k8 S3 v5 (x2 + 1)
set_option maxRecDepth 100000 in
set_option maxHeartbeats 4000000 in
theorem w_X4_readTide_24 {r : Int32} {S' : ST} (hC : Cx p m c s args cX4_readTide 3 RX4 G) (hQ : KI p l e (rmH 4) s m args below meth c Q cX4_readTide G r S') {k8 : ST → Int32 → Int32 → Option (Int32 × ST)} (hk8 : ∀ (S : ST) (x1 : Int32) (x2 : Int32) (H : Heap) (locs : List Loc) (ls : Array Slot), va_P (gD G) vwCl (cells G S) H → va_S (gA G) s.heap H locs → lv_has ls 3 [(0, .ref (ad G 22)), (1, .int x1), (2, .int x2)] → k8 S x1 x2 = some (r, S') → W p l e (rmH 4) s m args below meth c H locs 0 0 Q (F0 m 8 ls [])) (S : ST) (x1 : Int32) (x2 : Int32) (H : Heap) (locs : List Loc) (ls : Array Slot) (hP : va_P (gD G) vwCl (cells G S) H) (hS : va_S (gA G) s.heap H locs) (hl : lv_has ls 3 [(0, .ref (ad G 22)), (1, .int x1), (2, .int x2)]) (hf : f_X4_readTide_24 k8 S x1 x2 = some (r, S')) : W p l e (rmH 4) s m args below meth c H locs 0 0 Q (F0 m 24 ls []) := by
  obtain ⟨hx, hb, hml, hown, hts⟩ := id hC.1
  rw [f_X4_readTide_24] at hf
  refine lv_aload_n hx hb dX4_readTide_24 rfl (lv_at hl 0 rfl) ?_
  refine gFr hC hP (j := 0) sg_22 vc_4 iT4 (by decide) rfl tb_1_176 dX4_readTide_25 ?_
  refine lv_iload_n hx hb dX4_readTide_28 rfl (lv_at hl 2 rfl) ?_
  refine lv_aload_n hx hb dX4_readTide_29 rfl (lv_at hl 0 rfl) ?_
  refine lv_iconst (v := 0) hx hb dX4_readTide_30 (by decide) ?_
  refine lv_bipush (v := 99) hx hb dX4_readTide_31 (by decide) ?_
  obtain ⟨v1, S2, hv, hf⟩ := ob_two hf
  refine cI hS (runV hC hP hS (As := [.int 0, .int 99]) (rest := [.int x2, .ref (ad G 23)]) (k_X4_number l G S 0 99 _ _ hv) vy_X4_number sg_22 vc_4 tb_2_100 tb_2_102 ts_3 ⟨Nat.le_of_ble_eq_true rfl, Nat.le_of_ble_eq_true rfl⟩ rfl hl.1 rfl (Nat.le_of_ble_eq_true rfl) dX4_readTide_33) (fun H locs hP hS => ?_)
  obtain ⟨S3, hv, hf⟩ := ob_some hf
  refine sIa hC hP hS hv dX4_readTide_36 (fun H locs hP hS => ?_)
  refine lv_iload_n hx hb dX4_readTide_37 rfl (lv_at hl 1 rfl) ?_
  refine lv_aload_n hx hb dX4_readTide_38 rfl (lv_at hl 0 rfl) ?_
  refine gFr hC hP (j := 0) sg_22 vc_4 iT4 (by decide) rfl tb_1_176 dX4_readTide_39 ?_
  refine lv_iload_n hx hb dX4_readTide_42 rfl (lv_at hl 2 rfl) ?_
  obtain ⟨v4, hv, hf⟩ := ob_some hf
  refine gIa hC hP hv dX4_readTide_43 ?_
  obtain ⟨v5, hv, hf⟩ := ob_some hf
  refine cI hS (runS hC hP hS (As := [.int x1, .int v4]) (rest := []) (k_J9_max_7cf53 l G S3 x1 v4 _ hv) vy_J9_max_7cf53 tb_2_150 tb_2_151 ⟨Nat.le_of_ble_eq_true rfl, Nat.le_of_ble_eq_true rfl⟩ rfl hl.1 rfl (Nat.le_of_ble_eq_true rfl) dX4_readTide_44) (fun H locs hP hS => ?_)
  refine lv_istore_n (lv' := [(1, .int v5), (0, .ref (ad G 22)), (2, .int x2)]) hx hb dX4_readTide_47 rfl hl (by decide) rfl (fun ls hl => ?_)
  refine lv_iinc (v := x2 + 1) (lv' := [(2, .int (x2 + 1)), (1, .int v5), (0, .ref (ad G 22))]) hx hb dX4_readTide_48 hl (k := 2) rfl rfl (by decide) rfl (fun ls hl => ?_)
  refine lv_goto (tgt := 8) hx hb dX4_readTide_51 (by decide) ?_
  exact hk8 _ _ _ _ _ _ hP hS (lv_sub hl [2, 1, 0] rfl) hf
def f_X4_readTide_8  : Nat → ST → Int32 → Int32 → Option (Int32 × ST)
  | 0, _, _, _ => none
  | n + 1, S, x1, x2 => if 24 ≤ x2 then (b2 (f_X4_finish S x1) fun v1 S2 => some (v1, S2)) else (if x2 ≤ 0 then (f_X4_readTide_24 (f_X4_readTide_8 n) S x1 x2) else ((f_X4_expect S 44).bind fun S3 => f_X4_readTide_24 (f_X4_readTide_8 n) S3 x1 x2))
set_option maxRecDepth 100000 in
set_option maxHeartbeats 4000000 in
theorem w_X4_readTide_8 {r : Int32} {S' : ST} (hC : Cx p m c s args cX4_readTide 3 RX4 G) (hQ : KI p l e (rmH 4) s m args below meth c Q cX4_readTide G r S') : ∀ (n : Nat) (S : ST) (x1 : Int32) (x2 : Int32) (H : Heap) (locs : List Loc) (ls : Array Slot), va_P (gD G) vwCl (cells G S) H → va_S (gA G) s.heap H locs → lv_has ls 3 [(0, .ref (ad G 22)), (1, .int x1), (2, .int x2)] → f_X4_readTide_8 n S x1 x2 = some (r, S') → W p l e (rmH 4) s m args below meth c H locs 0 0 Q (F0 m 8 ls []) := by
  obtain ⟨hx, hb, hml, hown, hts⟩ := id hC.1
  intro n
  induction n with
  | zero => intro S x1 x2 H locs ls hP hS hl hf; rw [f_X4_readTide_8] at hf; cases hf
  | succ n ih =>
    intro S x1 x2 H locs ls hP hS hl hf
    rw [f_X4_readTide_8] at hf
    refine lv_iload_n hx hb dX4_readTide_8 rfl (lv_at hl 2 rfl) ?_
    refine lv_bipush (v := 24) hx hb dX4_readTide_9 (by decide) ?_
    refine lv_icmp_ge (tgt := 54) hx hb dX4_readTide_11 (by decide) (fun hc => ?_) (fun hc => ?_)
    · rw [if_pos hc] at hf
      refine lv_aload_n hx hb dX4_readTide_54 rfl (lv_at hl 0 rfl) ?_
      refine lv_iload_n hx hb dX4_readTide_55 rfl (lv_at hl 1 rfl) ?_
      obtain ⟨v1, S2, hv, hf⟩ := ob_two hf
      refine cI hS (runV hC hP hS (As := [.int x1]) (rest := []) (k_X4_finish l G S x1 _ _ hv) vy_X4_finish sg_22 vc_4 tb_2_130 tb_2_132 ts_9 ⟨Nat.le_of_ble_eq_true rfl, Nat.le_of_ble_eq_true rfl⟩ rfl hl.1 rfl (Nat.le_of_ble_eq_true rfl) dX4_readTide_56) (fun H locs hP hS => ?_)
      exact retIw hQ hf hP hS dX4_readTide_59
    · rw [if_neg hc] at hf
      refine lv_iload_n hx hb dX4_readTide_14 rfl (lv_at hl 2 rfl) ?_
      refine lv_if_le (tgt := 24) hx hb dX4_readTide_15 (by decide) (fun hc => ?_) (fun hc => ?_)
      · rw [if_pos hc] at hf
        exact w_X4_readTide_24 hC hQ ih  _ _ _ _ _ _ hP hS (lv_sub hl [0, 1, 2] rfl) hf
      · rw [if_neg hc] at hf
        refine lv_aload_n hx hb dX4_readTide_18 rfl (lv_at hl 0 rfl) ?_
        refine lv_bipush (v := 44) hx hb dX4_readTide_19 (by decide) ?_
        obtain ⟨S3, hv, hf⟩ := ob_some hf
        refine cV hS (runV hC hP hS (As := [.int 44]) (rest := []) (k_X4_expect l G S 44 _ hv) vy_X4_expect sg_22 vc_4 tb_2_118 tb_2_120 ts_6 ⟨Nat.le_of_ble_eq_true rfl, Nat.le_of_ble_eq_true rfl⟩ rfl hl.1 rfl (Nat.le_of_ble_eq_true rfl) dX4_readTide_21) (fun H locs hP hS => ?_)
        exact w_X4_readTide_24 hC hQ ih  _ _ _ _ _ _ hP hS (lv_sub hl [0, 1, 2] rfl) hf
def f_X4_readTide (S : ST)  : Option (Int32 × ST) := (f_X4_rewind S).bind fun S1 => f_X4_readTide_8 FU S1 0 0
set_option maxRecDepth 100000 in
set_option maxHeartbeats 4000000 in
theorem k_X4_readTide (l : Launch) (G : GT) (S : ST)  (r : Int32) (S' : ST) (hf : f_X4_readTide S  = some (r, S')) : MI l yX4_readTide cX4_readTide 3 (some .int) 4 [.ref (ad G 22)] G S r S' := by
  rw [f_X4_readTide] at hf
  refine mkI (own := RX4) (by decide +kernel) rfl rfl (Nat.le_of_ble_eq_true rfl) (fun p e s m args below meth c Q ls hC hP hS hl hQ => ?_)
  have hl : lv_has ls 3 [(0, .ref (ad G 22))] := hl
  obtain ⟨hx, hb, hml, hown, hts⟩ := id hC.1
  refine lv_aload_n hx hb dX4_readTide_0 rfl (lv_at hl 0 rfl) ?_
  obtain ⟨S1, hv, hf⟩ := ob_some hf
  refine cV hS (runV hC hP hS (As := []) (rest := []) (k_X4_rewind l G S _ hv) vy_X4_rewind sg_22 vc_4 tb_2_86 tb_2_88 ts_0 ⟨Nat.le_of_ble_eq_true rfl, Nat.le_of_ble_eq_true rfl⟩ rfl hl.1 rfl (Nat.le_of_ble_eq_true rfl) dX4_readTide_1) (fun H locs hP hS => ?_)
  refine lv_iconst (v := 0) hx hb dX4_readTide_4 (by decide) ?_
  refine lv_istore_n (lv' := [(1, .int 0), (0, .ref (ad G 22))]) hx hb dX4_readTide_5 rfl hl (by decide) rfl (fun ls hl => ?_)
  refine lv_iconst (v := 0) hx hb dX4_readTide_6 (by decide) ?_
  refine lv_istore_n (lv' := [(2, .int 0), (1, .int 0), (0, .ref (ad G 22))]) hx hb dX4_readTide_7 rfl hl (by decide) rfl (fun ls hl => ?_)
  exact w_X4_readTide_8 hC hQ _ _ _ _ _ _ _ hP hS (lv_sub hl [2, 1, 0] rfl) hf
def f_X7_tides (S : ST)  : Option (Int32 × ST) := b2 (f_X4_readTide S) fun v1 S2 => if v1 < 0 then (some (v1, S2)) else ((cpy S2 23 0 2 0 24).bind fun S3 => some (v1, S3))
set_option maxRecDepth 100000 in
set_option maxHeartbeats 4000000 in
theorem k_X7_tides (l : Launch) (G : GT) (S : ST)  (r : Int32) (S' : ST) (hf : f_X7_tides S  = some (r, S')) : MI l yX7_tides cX7_tides 2 (some .int) 5 [.ref (ad G 0)] G S r S' := by
  rw [f_X7_tides] at hf
  refine mkI (own := RX7) (by decide +kernel) rfl rfl (Nat.le_of_ble_eq_true rfl) (fun p e s m args below meth c Q ls hC hP hS hl hQ => ?_)
  have hl : lv_has ls 2 [(0, .ref (ad G 0))] := hl
  obtain ⟨hx, hb, hml, hown, hts⟩ := id hC.1
  refine lv_aload_n hx hb dX7_tides_0 rfl (lv_at hl 0 rfl) ?_
  refine gFr hC hP (j := 6) sg_0 vc_7 iT7 (by decide) rfl tb_1_218 dX7_tides_1 ?_
  obtain ⟨v1, S2, hv, hf⟩ := ob_two hf
  refine cI hS (runV hC hP hS (As := []) (rest := []) (k_X4_readTide l G S _ _ hv) vy_X4_readTide sg_22 vc_4 tb_2_146 tb_2_147 tb_2_148 ⟨Nat.le_of_ble_eq_true rfl, Nat.le_of_ble_eq_true rfl⟩ rfl hl.1 rfl (Nat.le_of_ble_eq_true rfl) dX7_tides_4) (fun H locs hP hS => ?_)
  refine lv_istore_n (lv' := [(1, .int v1), (0, .ref (ad G 0))]) hx hb dX7_tides_7 rfl hl (by decide) rfl (fun ls hl => ?_)
  refine lv_iload_n hx hb dX7_tides_8 rfl (lv_at hl 0 rfl) ?_
  refine lv_if_lt (tgt := 33) hx hb dX7_tides_9 (by decide) (fun hc => ?_) (fun hc => ?_)
  · rw [if_pos hc] at hf
    refine lv_iload_n hx hb dX7_tides_33 rfl (lv_at hl 0 rfl) ?_
    exact retIw hQ hf hP hS dX7_tides_34
  · rw [if_neg hc] at hf
    refine lv_aload_n hx hb dX7_tides_12 rfl (lv_at hl 1 rfl) ?_
    refine gFr hC hP (j := 6) sg_0 vc_7 iT7 (by decide) rfl tb_1_218 dX7_tides_13 ?_
    refine gFr hC hP (j := 0) sg_22 vc_4 iT4 (by decide) rfl tb_1_177 dX7_tides_16 ?_
    refine lv_iconst (v := 0) hx hb dX7_tides_19 (by decide) ?_
    refine lv_aload_n hx hb dX7_tides_20 rfl (lv_at hl 1 rfl) ?_
    refine gFr hC hP (j := 0) sg_0 vc_7 iT7 (by decide) rfl tb_1_212 dX7_tides_21 ?_
    refine gFr hC hP (j := 2) sg_1 vc_1 iT1 (by decide) rfl tb_1_36 dX7_tides_24 ?_
    refine lv_iconst (v := 0) hx hb dX7_tides_27 (by decide) ?_
    refine lv_bipush (v := 24) hx hb dX7_tides_28 (by decide) ?_
    obtain ⟨S3, hv, hf⟩ := ob_some hf
    refine sCp hC hP hS (rest := []) hv hl.1 tb_2_153 tb_2_141 tb_2_140 tb_1_11 ⟨Nat.le_of_ble_eq_true rfl, Nat.le_of_ble_eq_true rfl⟩ dX7_tides_30 (fun H locs hP hS => ?_)
    refine lv_iload_n hx hb dX7_tides_33 rfl (lv_at hl 0 rfl) ?_
    exact retIw hQ hf hP hS dX7_tides_34
def f_X1_widths_4 (S : ST)  : Nat → Int32 → Int32 → Option Int32
  | 0, _, _ => none
  | n + 1, x1, x2 => if (S.1 1 0) ≤ x2 then (some x1) else ((f_X1_markOf S x2 1).bind fun v1 => f_X1_widths_4 S n (x1 + v1) (x2 + 1))
set_option maxRecDepth 100000 in
set_option maxHeartbeats 4000000 in
theorem w_X1_widths_4 {r : Int32} {S : ST} (hC : Cx p m c s args cX1_widths 3 RX1 G) (hQ : KI p l e (rmH 2) s m args below meth c Q cX1_widths G r S) : ∀ (n : Nat) (x1 : Int32) (x2 : Int32) (H : Heap) (locs : List Loc) (ls : Array Slot), va_P (gD G) vwCl (cells G S) H → va_S (gA G) s.heap H locs → lv_has ls 3 [(0, .ref (ad G 1)), (1, .int x1), (2, .int x2)] → f_X1_widths_4 S n x1 x2 = some r → W p l e (rmH 2) s m args below meth c H locs 0 0 Q (F0 m 4 ls []) := by
  obtain ⟨hx, hb, hml, hown, hts⟩ := id hC.1
  intro n
  induction n with
  | zero => intro x1 x2 H locs ls hP hS hl hf; rw [f_X1_widths_4] at hf; cases hf
  | succ n ih =>
    intro x1 x2 H locs ls hP hS hl hf
    rw [f_X1_widths_4] at hf
    refine lv_iload_n hx hb dX1_widths_4 rfl (lv_at hl 2 rfl) ?_
    refine lv_aload_n hx hb dX1_widths_5 rfl (lv_at hl 0 rfl) ?_
    refine gFi hC hP (j := 0) sg_1 vc_1 iT1 (by decide) rfl tb_1_28 dX1_widths_6 ?_
    refine lv_icmp_ge (tgt := 27) hx hb dX1_widths_9 (by decide) (fun hc => ?_) (fun hc => ?_)
    · rw [if_pos hc] at hf
      refine lv_iload_n hx hb dX1_widths_27 rfl (lv_at hl 1 rfl) ?_
      exact retI hQ hf hP hS dX1_widths_28
    · rw [if_neg hc] at hf
      refine lv_iload_n hx hb dX1_widths_12 rfl (lv_at hl 1 rfl) ?_
      refine lv_aload_n hx hb dX1_widths_13 rfl (lv_at hl 0 rfl) ?_
      refine lv_iload_n hx hb dX1_widths_14 rfl (lv_at hl 2 rfl) ?_
      refine lv_iconst (v := 1) hx hb dX1_widths_15 (by decide) ?_
      obtain ⟨v1, hv, hf⟩ := ob_some hf
      refine cI hS (runV hC hP hS (As := [.int x2, .int 1]) (rest := [.int x1]) (k_X1_markOf l G S x2 1 _ hv) vy_X1_markOf sg_1 vc_1 tb_2_25 tb_2_26 tb_2_27 ⟨Nat.le_of_ble_eq_true rfl, Nat.le_of_ble_eq_true rfl⟩ rfl hl.1 rfl (Nat.le_of_ble_eq_true rfl) dX1_widths_16) (fun H locs hP hS => ?_)
      refine lv_iadd hx hb dX1_widths_19 ?_
      refine lv_istore_n (lv' := [(1, .int (x1 + v1)), (0, .ref (ad G 1)), (2, .int x2)]) hx hb dX1_widths_20 rfl hl (by decide) rfl (fun ls hl => ?_)
      refine lv_iinc (v := x2 + 1) (lv' := [(2, .int (x2 + 1)), (1, .int (x1 + v1)), (0, .ref (ad G 1))]) hx hb dX1_widths_21 hl (k := 2) rfl rfl (by decide) rfl (fun ls hl => ?_)
      refine lv_goto (tgt := 4) hx hb dX1_widths_24 (by decide) ?_
      exact ih _ _ _ _ _ hP hS (lv_sub hl [2, 1, 0] rfl) hf
def f_X1_widths (S : ST)  : Option Int32 := f_X1_widths_4 S FU 0 0
set_option maxRecDepth 100000 in
set_option maxHeartbeats 4000000 in
theorem k_X1_widths (l : Launch) (G : GT) (S : ST)  (r : Int32) (hf : f_X1_widths S  = some r) : MI l yX1_widths cX1_widths 3 (some .int) 2 [.ref (ad G 1)] G S r S := by
  rw [f_X1_widths] at hf
  refine mkI (own := RX1) (by decide +kernel) rfl rfl (Nat.le_of_ble_eq_true rfl) (fun p e s m args below meth c Q ls hC hP hS hl hQ => ?_)
  have hl : lv_has ls 3 [(0, .ref (ad G 1))] := hl
  obtain ⟨hx, hb, hml, hown, hts⟩ := id hC.1
  refine lv_iconst (v := 0) hx hb dX1_widths_0 (by decide) ?_
  refine lv_istore_n (lv' := [(1, .int 0), (0, .ref (ad G 1))]) hx hb dX1_widths_1 rfl hl (by decide) rfl (fun ls hl => ?_)
  refine lv_iconst (v := 0) hx hb dX1_widths_2 (by decide) ?_
  refine lv_istore_n (lv' := [(2, .int 0), (1, .int 0), (0, .ref (ad G 1))]) hx hb dX1_widths_3 rfl hl (by decide) rfl (fun ls hl => ?_)
  exact w_X1_widths_4 hC hQ _ _ _ _ _ _ hP hS (lv_sub hl [2, 1, 0] rfl) hf
def f_X7_count (S : ST) (x1 : Int32) : Option Int32 := if x1 = 0 then (some (S.1 1 0)) else (if x1 = 1 then (some (S.1 1 1)) else (if x1 = 2 then ((f_X1_widths S).bind fun v1 => some v1) else (some (-1))))
set_option maxRecDepth 100000 in
set_option maxHeartbeats 4000000 in
theorem k_X7_count (l : Launch) (G : GT) (S : ST) (x1 : Int32) (r : Int32) (hf : f_X7_count S x1 = some r) : MI l yX7_count cX7_count 2 (some .int) 3 [.ref (ad G 0), .int x1] G S r S := by
  rw [f_X7_count] at hf
  refine mkI (own := RX7) (by decide +kernel) rfl rfl (Nat.le_of_ble_eq_true rfl) (fun p e s m args below meth c Q ls hC hP hS hl hQ => ?_)
  have hl : lv_has ls 2 [(0, .ref (ad G 0)), (1, .int x1)] := hl
  obtain ⟨hx, hb, hml, hown, hts⟩ := id hC.1
  refine lv_iload_n hx hb dX7_count_0 rfl (lv_at hl 1 rfl) ?_
  by_cases hc0 : x1 = 0
  · rw [if_pos hc0] at hf
    refine lv_tableIn (off := 27) (tgt := 28) hx hb dX7_count_1 (by rw [hc0]; decide) (by rw [hc0]; decide) (by rw [hc0]; rfl) (by decide) ?_
    refine lv_aload_n hx hb dX7_count_28 rfl (lv_at hl 0 rfl) ?_
    refine gFr hC hP (j := 0) sg_0 vc_7 iT7 (by decide) rfl tb_1_212 dX7_count_29 ?_
    refine gFi hC hP (j := 0) sg_1 vc_1 iT1 (by decide) rfl tb_1_31 dX7_count_32 ?_
    exact retI hQ hf hP hS dX7_count_35
  · rw [if_neg hc0] at hf
    by_cases hc1 : x1 = 1
    · rw [if_pos hc1] at hf
      refine lv_tableIn (off := 35) (tgt := 36) hx hb dX7_count_1 (by rw [hc1]; decide) (by rw [hc1]; decide) (by rw [hc1]; rfl) (by decide) ?_
      refine lv_aload_n hx hb dX7_count_36 rfl (lv_at hl 0 rfl) ?_
      refine gFr hC hP (j := 0) sg_0 vc_7 iT7 (by decide) rfl tb_1_212 dX7_count_37 ?_
      refine gFi hC hP (j := 1) sg_1 vc_1 iT1 (by decide) rfl tb_1_33 dX7_count_40 ?_
      exact retI hQ hf hP hS dX7_count_43
    · rw [if_neg hc1] at hf
      by_cases hc2 : x1 = 2
      · rw [if_pos hc2] at hf
        refine lv_tableIn (off := 43) (tgt := 44) hx hb dX7_count_1 (by rw [hc2]; decide) (by rw [hc2]; decide) (by rw [hc2]; rfl) (by decide) ?_
        refine lv_aload_n hx hb dX7_count_44 rfl (lv_at hl 0 rfl) ?_
        refine gFr hC hP (j := 0) sg_0 vc_7 iT7 (by decide) rfl tb_1_212 dX7_count_45 ?_
        obtain ⟨v1, hv, hf⟩ := ob_some hf
        refine cI hS (runV hC hP hS (As := []) (rest := []) (k_X1_widths l G S _ hv) vy_X1_widths sg_1 vc_1 tb_2_158 tb_2_159 tb_2_160 ⟨Nat.le_of_ble_eq_true rfl, Nat.le_of_ble_eq_true rfl⟩ rfl hl.1 rfl (Nat.le_of_ble_eq_true rfl) dX7_count_48) (fun H locs hP hS => ?_)
        exact retI hQ hf hP hS dX7_count_51
      · rw [if_neg hc2] at hf
        refine lv_tableOut (tgt := 52) hx hb dX7_count_1 (tsOut (fun k h1 h2 => ?_)) (by decide) ?_
        · rcases (show k = 0 ∨ k = 1 ∨ k = 2 by omega) with rfl | rfl | rfl
          · exact hc0
          · exact hc1
          · exact hc2
        refine lv_iconst (v := (-1)) hx hb dX7_count_52 (by decide) ?_
        exact retI hQ hf hP hS dX7_count_53
def f_J9_floorMod_7cf53 (x0 : Int32) (x1 : Int32) : Option Int32 := (rm x0 x1).bind fun v1 => if 0 ≤ (x0 ^^^ x1) then (some v1) else (if v1 = 0 then (some v1) else (some (v1 + x1)))
set_option maxRecDepth 100000 in
set_option maxHeartbeats 4000000 in
theorem k_J9_floorMod_7cf53 (l : Launch) (G : GT) (S : ST) (x0 : Int32) (x1 : Int32) (r : Int32) (hf : f_J9_floorMod_7cf53 x0 x1 = some r) : MI l yJ9_floorMod_7cf53 cJ9_floorMod_7cf53 3 (some .int) 1 [.int x0, .int x1] G S r S := by
  rw [f_J9_floorMod_7cf53] at hf
  refine mkI (own := RJ9) (by decide +kernel) rfl rfl (Nat.le_of_ble_eq_true rfl) (fun p e s m args below meth c Q ls hC hP hS hl hQ => ?_)
  have hl : lv_has ls 3 [(0, .int x0), (1, .int x1)] := hl
  obtain ⟨hx, hb, hml, hown, hts⟩ := id hC.1
  refine lv_iload_n hx hb dJ9_floorMod_7cf53_0 rfl (lv_at hl 0 rfl) ?_
  refine lv_iload_n hx hb dJ9_floorMod_7cf53_1 rfl (lv_at hl 1 rfl) ?_
  obtain ⟨v1, hv, hf⟩ := ob_some hf
  refine xRm hC hv dJ9_floorMod_7cf53_2 ?_
  refine lv_istore_n (lv' := [(2, .int v1), (0, .int x0), (1, .int x1)]) hx hb dJ9_floorMod_7cf53_3 rfl hl (by decide) rfl (fun ls hl => ?_)
  refine lv_iload_n hx hb dJ9_floorMod_7cf53_4 rfl (lv_at hl 1 rfl) ?_
  refine lv_iload_n hx hb dJ9_floorMod_7cf53_5 rfl (lv_at hl 2 rfl) ?_
  refine lv_ixor hx hb dJ9_floorMod_7cf53_6 ?_
  refine lv_if_ge (tgt := 18) hx hb dJ9_floorMod_7cf53_7 (by decide) (fun hc => ?_) (fun hc => ?_)
  · rw [if_pos hc] at hf
    refine lv_iload_n hx hb dJ9_floorMod_7cf53_18 rfl (lv_at hl 0 rfl) ?_
    exact retI hQ hf hP hS dJ9_floorMod_7cf53_19
  · rw [if_neg hc] at hf
    refine lv_iload_n hx hb dJ9_floorMod_7cf53_10 rfl (lv_at hl 0 rfl) ?_
    refine lv_if_eq (tgt := 18) hx hb dJ9_floorMod_7cf53_11 (by decide) (fun hc => ?_) (fun hc => ?_)
    · rw [if_pos hc] at hf
      refine lv_iload_n hx hb dJ9_floorMod_7cf53_18 rfl (lv_at hl 0 rfl) ?_
      exact retI hQ hf hP hS dJ9_floorMod_7cf53_19
    · rw [if_neg hc] at hf
      refine lv_iload_n hx hb dJ9_floorMod_7cf53_14 rfl (lv_at hl 0 rfl) ?_
      refine lv_iload_n hx hb dJ9_floorMod_7cf53_15 rfl (lv_at hl 2 rfl) ?_
      refine lv_iadd hx hb dJ9_floorMod_7cf53_16 ?_
      exact retI hQ hf hP hS dJ9_floorMod_7cf53_17
def f_X1_tideBy (S : ST) (x1 : Int32) (x2 : Int32) : Option Int32 := (f_J9_floorMod_7cf53 (x2 - x1) 1440).bind fun v1 => (dv v1 60).bind fun v2 => (rI S 0 2 v2).bind fun v3 => (dv v1 60).bind fun v4 => (rm (v4 + 1) 24).bind fun v5 => (rI S 0 2 v5).bind fun v6 => (rm v1 60).bind fun v7 => (dv ((v6 - v3) * v7) 60).bind fun v8 => some (v3 + v8)
set_option maxRecDepth 100000 in
set_option maxHeartbeats 4000000 in
theorem k_X1_tideBy (l : Launch) (G : GT) (S : ST) (x1 : Int32) (x2 : Int32) (r : Int32) (hf : f_X1_tideBy S x1 x2 = some r) : MI l yX1_tideBy cX1_tideBy 6 (some .int) 2 [.ref (ad G 1), .int x1, .int x2] G S r S := by
  rw [f_X1_tideBy] at hf
  refine mkI (own := RX1) (by decide +kernel) rfl rfl (Nat.le_of_ble_eq_true rfl) (fun p e s m args below meth c Q ls hC hP hS hl hQ => ?_)
  have hl : lv_has ls 6 [(0, .ref (ad G 1)), (1, .int x1), (2, .int x2)] := hl
  obtain ⟨hx, hb, hml, hown, hts⟩ := id hC.1
  refine lv_iload_n hx hb dX1_tideBy_0 rfl (lv_at hl 2 rfl) ?_
  refine lv_iload_n hx hb dX1_tideBy_1 rfl (lv_at hl 1 rfl) ?_
  refine lv_isub hx hb dX1_tideBy_2 ?_
  refine lv_sipush (v := 1440) hx hb dX1_tideBy_3 (by decide) ?_
  obtain ⟨v1, hv, hf⟩ := ob_some hf
  refine cI hS (runS hC hP hS (As := [.int (x2 - x1), .int 1440]) (rest := []) (k_J9_floorMod_7cf53 l G S (x2 - x1) 1440 _ hv) vy_J9_floorMod_7cf53 tb_2_174 tb_2_175 ⟨Nat.le_of_ble_eq_true rfl, Nat.le_of_ble_eq_true rfl⟩ rfl hl.1 rfl (Nat.le_of_ble_eq_true rfl) dX1_tideBy_6) (fun H locs hP hS => ?_)
  refine lv_istore_n (lv' := [(3, .int v1), (0, .ref (ad G 1)), (1, .int x1), (2, .int x2)]) hx hb dX1_tideBy_9 rfl hl (by decide) rfl (fun ls hl => ?_)
  refine lv_aload_n hx hb dX1_tideBy_10 rfl (lv_at hl 1 rfl) ?_
  refine gFr hC hP (j := 2) sg_1 vc_1 iT1 (by decide) rfl tb_1_34 dX1_tideBy_11 ?_
  refine lv_iload_n hx hb dX1_tideBy_14 rfl (lv_at hl 0 rfl) ?_
  refine lv_bipush (v := 60) hx hb dX1_tideBy_15 (by decide) ?_
  obtain ⟨v2, hv, hf⟩ := ob_some hf
  refine xDv hC hv dX1_tideBy_17 ?_
  obtain ⟨v3, hv, hf⟩ := ob_some hf
  refine gIa hC hP hv dX1_tideBy_18 ?_
  refine lv_istore (lv' := [(4, .int v3), (3, .int v1), (0, .ref (ad G 1)), (1, .int x1), (2, .int x2)]) hx hb dX1_tideBy_19 hl (by decide) rfl (fun ls hl => ?_)
  refine lv_aload_n hx hb dX1_tideBy_21 rfl (lv_at hl 2 rfl) ?_
  refine gFr hC hP (j := 2) sg_1 vc_1 iT1 (by decide) rfl tb_1_34 dX1_tideBy_22 ?_
  refine lv_iload_n hx hb dX1_tideBy_25 rfl (lv_at hl 1 rfl) ?_
  refine lv_bipush (v := 60) hx hb dX1_tideBy_26 (by decide) ?_
  obtain ⟨v4, hv, hf⟩ := ob_some hf
  refine xDv hC hv dX1_tideBy_28 ?_
  refine lv_iconst (v := 1) hx hb dX1_tideBy_29 (by decide) ?_
  refine lv_iadd hx hb dX1_tideBy_30 ?_
  refine lv_bipush (v := 24) hx hb dX1_tideBy_31 (by decide) ?_
  obtain ⟨v5, hv, hf⟩ := ob_some hf
  refine xRm hC hv dX1_tideBy_33 ?_
  obtain ⟨v6, hv, hf⟩ := ob_some hf
  refine gIa hC hP hv dX1_tideBy_34 ?_
  refine lv_istore (lv' := [(5, .int v6), (4, .int v3), (3, .int v1), (0, .ref (ad G 1)), (1, .int x1), (2, .int x2)]) hx hb dX1_tideBy_35 hl (by decide) rfl (fun ls hl => ?_)
  refine lv_iload hx hb dX1_tideBy_37 (lv_at hl 1 rfl) ?_
  refine lv_iload hx hb dX1_tideBy_39 (lv_at hl 0 rfl) ?_
  refine lv_iload hx hb dX1_tideBy_41 (lv_at hl 1 rfl) ?_
  refine lv_isub hx hb dX1_tideBy_43 ?_
  refine lv_iload_n hx hb dX1_tideBy_44 rfl (lv_at hl 2 rfl) ?_
  refine lv_bipush (v := 60) hx hb dX1_tideBy_45 (by decide) ?_
  obtain ⟨v7, hv, hf⟩ := ob_some hf
  refine xRm hC hv dX1_tideBy_47 ?_
  refine lv_imul hx hb dX1_tideBy_48 ?_
  refine lv_bipush (v := 60) hx hb dX1_tideBy_49 (by decide) ?_
  obtain ⟨v8, hv, hf⟩ := ob_some hf
  refine xDv hC hv dX1_tideBy_51 ?_
  refine lv_iadd hx hb dX1_tideBy_52 ?_
  exact retI hQ hf hP hS dX1_tideBy_53
def f_X1_tideAt (S : ST) (x1 : Int32) : Option Int32 := (rI S 0 3 0).bind fun v1 => (f_X1_tideBy S v1 x1).bind fun v2 => some v2
set_option maxRecDepth 100000 in
set_option maxHeartbeats 4000000 in
theorem k_X1_tideAt (l : Launch) (G : GT) (S : ST) (x1 : Int32) (r : Int32) (hf : f_X1_tideAt S x1 = some r) : MI l yX1_tideAt cX1_tideAt 2 (some .int) 3 [.ref (ad G 1), .int x1] G S r S := by
  rw [f_X1_tideAt] at hf
  refine mkI (own := RX1) (by decide +kernel) rfl rfl (Nat.le_of_ble_eq_true rfl) (fun p e s m args below meth c Q ls hC hP hS hl hQ => ?_)
  have hl : lv_has ls 2 [(0, .ref (ad G 1)), (1, .int x1)] := hl
  obtain ⟨hx, hb, hml, hown, hts⟩ := id hC.1
  refine lv_aload_n hx hb dX1_tideAt_0 rfl (lv_at hl 0 rfl) ?_
  refine lv_aload_n hx hb dX1_tideAt_1 rfl (lv_at hl 0 rfl) ?_
  refine gFr hC hP (j := 3) sg_1 vc_1 iT1 (by decide) rfl tb_1_37 dX1_tideAt_2 ?_
  refine lv_iconst (v := 0) hx hb dX1_tideAt_5 (by decide) ?_
  obtain ⟨v1, hv, hf⟩ := ob_some hf
  refine gIa hC hP hv dX1_tideAt_6 ?_
  refine lv_iload_n hx hb dX1_tideAt_7 rfl (lv_at hl 1 rfl) ?_
  obtain ⟨v2, hv, hf⟩ := ob_some hf
  refine cI hS (runV hC hP hS (As := [.int v1, .int x1]) (rest := []) (k_X1_tideBy l G S v1 x1 _ hv) vy_X1_tideBy sg_1 vc_1 tb_2_170 tb_2_171 tb_2_172 ⟨Nat.le_of_ble_eq_true rfl, Nat.le_of_ble_eq_true rfl⟩ rfl hl.1 rfl (Nat.le_of_ble_eq_true rfl) dX1_tideAt_8) (fun H locs hP hS => ?_)
  exact retI hQ hf hP hS dX1_tideAt_11
def f_X7_tide (S : ST) (x1 : Int32) : Option Int32 := (f_X7_within x1 0 4000).bind fun v1 => if v1 = 0 then (some (-1)) else ((f_X1_tideAt S x1).bind fun v2 => some v2)
set_option maxRecDepth 100000 in
set_option maxHeartbeats 4000000 in
theorem k_X7_tide (l : Launch) (G : GT) (S : ST) (x1 : Int32) (r : Int32) (hf : f_X7_tide S x1 = some r) : MI l yX7_tide cX7_tide 2 (some .int) 4 [.ref (ad G 0), .int x1] G S r S := by
  rw [f_X7_tide] at hf
  refine mkI (own := RX7) (by decide +kernel) rfl rfl (Nat.le_of_ble_eq_true rfl) (fun p e s m args below meth c Q ls hC hP hS hl hQ => ?_)
  have hl : lv_has ls 2 [(0, .ref (ad G 0)), (1, .int x1)] := hl
  obtain ⟨hx, hb, hml, hown, hts⟩ := id hC.1
  refine lv_iload_n hx hb dX7_tide_0 rfl (lv_at hl 1 rfl) ?_
  refine lv_iconst (v := 0) hx hb dX7_tide_1 (by decide) ?_
  refine lv_sipush (v := 4000) hx hb dX7_tide_2 (by decide) ?_
  obtain ⟨v1, hv, hf⟩ := ob_some hf
  refine cI hS (runS hC hP hS (As := [.int x1, .int 0, .int 4000]) (rest := []) (k_X7_within l G S x1 0 4000 _ hv) vy_X7_within tb_2_14 tb_2_15 ⟨Nat.le_of_ble_eq_true rfl, Nat.le_of_ble_eq_true rfl⟩ rfl hl.1 rfl (Nat.le_of_ble_eq_true rfl) dX7_tide_5) (fun H locs hP hS => ?_)
  refine lv_if_eq (tgt := 22) hx hb dX7_tide_8 (by decide) (fun hc => ?_) (fun hc => ?_)
  · rw [if_pos hc] at hf
    refine lv_iconst (v := (-1)) hx hb dX7_tide_22 (by decide) ?_
    exact retI hQ hf hP hS dX7_tide_23
  · rw [if_neg hc] at hf
    refine lv_aload_n hx hb dX7_tide_11 rfl (lv_at hl 0 rfl) ?_
    refine gFr hC hP (j := 0) sg_0 vc_7 iT7 (by decide) rfl tb_1_212 dX7_tide_12 ?_
    refine lv_iload_n hx hb dX7_tide_15 rfl (lv_at hl 1 rfl) ?_
    obtain ⟨v2, hv, hf⟩ := ob_some hf
    refine cI hS (runV hC hP hS (As := [.int x1]) (rest := []) (k_X1_tideAt l G S x1 _ hv) vy_X1_tideAt sg_1 vc_1 tb_2_166 tb_2_167 tb_2_168 ⟨Nat.le_of_ble_eq_true rfl, Nat.le_of_ble_eq_true rfl⟩ rfl hl.1 rfl (Nat.le_of_ble_eq_true rfl) dX7_tide_16) (fun H locs hP hS => ?_)
    refine lv_goto (tgt := 23) hx hb dX7_tide_19 (by decide) ?_
    exact retI hQ hf hP hS dX7_tide_23
def f_X1_levelAt (S : ST) (x1 : Int32) (x2 : Int32) (x3 : Int32) : Option Int32 := (rI S 0 4 ((x1 * 6) + 0)).bind fun v1 => (rI S 0 4 ((x1 * 6) + 3)).bind fun v2 => (rI S 0 3 2).bind fun v3 => (dv (v2 * v3) 10).bind fun v4 => some (((v1 + v4) + x2) - (2 * x3))
set_option maxRecDepth 100000 in
set_option maxHeartbeats 4000000 in
theorem k_X1_levelAt (l : Launch) (G : GT) (S : ST) (x1 : Int32) (x2 : Int32) (x3 : Int32) (r : Int32) (hf : f_X1_levelAt S x1 x2 x3 = some r) : MI l yX1_levelAt cX1_levelAt 5 (some .int) 1 [.ref (ad G 1), .int x1, .int x2, .int x3] G S r S := by
  rw [f_X1_levelAt] at hf
  refine mkI (own := RX1) (by decide +kernel) rfl rfl (Nat.le_of_ble_eq_true rfl) (fun p e s m args below meth c Q ls hC hP hS hl hQ => ?_)
  have hl : lv_has ls 5 [(0, .ref (ad G 1)), (1, .int x1), (2, .int x2), (3, .int x3)] := hl
  obtain ⟨hx, hb, hml, hown, hts⟩ := id hC.1
  refine lv_iload_n hx hb dX1_levelAt_0 rfl (lv_at hl 1 rfl) ?_
  refine lv_bipush (v := 6) hx hb dX1_levelAt_1 (by decide) ?_
  refine lv_imul hx hb dX1_levelAt_3 ?_
  refine lv_istore (lv' := [(4, .int (x1 * 6)), (0, .ref (ad G 1)), (1, .int x1), (2, .int x2), (3, .int x3)]) hx hb dX1_levelAt_4 hl (by decide) rfl (fun ls hl => ?_)
  refine lv_aload_n hx hb dX1_levelAt_6 rfl (lv_at hl 1 rfl) ?_
  refine gFr hC hP (j := 4) sg_1 vc_1 iT1 (by decide) rfl tb_1_41 dX1_levelAt_7 ?_
  refine lv_iload hx hb dX1_levelAt_10 (lv_at hl 0 rfl) ?_
  refine lv_iconst (v := 0) hx hb dX1_levelAt_12 (by decide) ?_
  refine lv_iadd hx hb dX1_levelAt_13 ?_
  obtain ⟨v1, hv, hf⟩ := ob_some hf
  refine gIa hC hP hv dX1_levelAt_14 ?_
  refine lv_aload_n hx hb dX1_levelAt_15 rfl (lv_at hl 1 rfl) ?_
  refine gFr hC hP (j := 4) sg_1 vc_1 iT1 (by decide) rfl tb_1_41 dX1_levelAt_16 ?_
  refine lv_iload hx hb dX1_levelAt_19 (lv_at hl 0 rfl) ?_
  refine lv_iconst (v := 3) hx hb dX1_levelAt_21 (by decide) ?_
  refine lv_iadd hx hb dX1_levelAt_22 ?_
  obtain ⟨v2, hv, hf⟩ := ob_some hf
  refine gIa hC hP hv dX1_levelAt_23 ?_
  refine lv_aload_n hx hb dX1_levelAt_24 rfl (lv_at hl 1 rfl) ?_
  refine gFr hC hP (j := 3) sg_1 vc_1 iT1 (by decide) rfl tb_1_37 dX1_levelAt_25 ?_
  refine lv_iconst (v := 2) hx hb dX1_levelAt_28 (by decide) ?_
  obtain ⟨v3, hv, hf⟩ := ob_some hf
  refine gIa hC hP hv dX1_levelAt_29 ?_
  refine lv_imul hx hb dX1_levelAt_30 ?_
  refine lv_bipush (v := 10) hx hb dX1_levelAt_31 (by decide) ?_
  obtain ⟨v4, hv, hf⟩ := ob_some hf
  refine xDv hC hv dX1_levelAt_33 ?_
  refine lv_iadd hx hb dX1_levelAt_34 ?_
  refine lv_iload_n hx hb dX1_levelAt_35 rfl (lv_at hl 3 rfl) ?_
  refine lv_iadd hx hb dX1_levelAt_36 ?_
  refine lv_iconst (v := 2) hx hb dX1_levelAt_37 (by decide) ?_
  refine lv_iload_n hx hb dX1_levelAt_38 rfl (lv_at hl 4 rfl) ?_
  refine lv_imul hx hb dX1_levelAt_39 ?_
  refine lv_isub hx hb dX1_levelAt_40 ?_
  exact retI hQ hf hP hS dX1_levelAt_41
def f_X7_water (S : ST) (x1 : Int32) (x2 : Int32) : Option Int32 := (f_X1_hasMile S x1).bind fun v1 => if v1 = 0 then (some (-100001)) else ((f_X7_within x2 0 4000).bind fun v2 => if v2 = 0 then (some (-100001)) else ((f_X1_tideAt S x2).bind fun v3 => (rI S 0 3 1).bind fun v4 => (f_X1_levelAt S x1 v3 v4).bind fun v5 => some v5))
set_option maxRecDepth 100000 in
set_option maxHeartbeats 4000000 in
theorem k_X7_water (l : Launch) (G : GT) (S : ST) (x1 : Int32) (x2 : Int32) (r : Int32) (hf : f_X7_water S x1 x2 = some r) : MI l yX7_water cX7_water 3 (some .int) 4 [.ref (ad G 0), .int x1, .int x2] G S r S := by
  rw [f_X7_water] at hf
  refine mkI (own := RX7) (by decide +kernel) rfl rfl (Nat.le_of_ble_eq_true rfl) (fun p e s m args below meth c Q ls hC hP hS hl hQ => ?_)
  have hl : lv_has ls 3 [(0, .ref (ad G 0)), (1, .int x1), (2, .int x2)] := hl
  obtain ⟨hx, hb, hml, hown, hts⟩ := id hC.1
  refine lv_aload_n hx hb dX7_water_0 rfl (lv_at hl 0 rfl) ?_
  refine gFr hC hP (j := 0) sg_0 vc_7 iT7 (by decide) rfl tb_1_212 dX7_water_1 ?_
  refine lv_iload_n hx hb dX7_water_4 rfl (lv_at hl 1 rfl) ?_
  obtain ⟨v1, hv, hf⟩ := ob_some hf
  refine cI hS (runV hC hP hS (As := [.int x1]) (rest := []) (k_X1_hasMile l G S x1 _ hv) vy_X1_hasMile sg_1 vc_1 tb_2_33 tb_2_34 tb_2_35 ⟨Nat.le_of_ble_eq_true rfl, Nat.le_of_ble_eq_true rfl⟩ rfl hl.1 rfl (Nat.le_of_ble_eq_true rfl) dX7_water_5) (fun H locs hP hS => ?_)
  refine lv_if_eq (tgt := 22) hx hb dX7_water_8 (by decide) (fun hc => ?_) (fun hc => ?_)
  · rw [if_pos hc] at hf
    refine lv_ldc hx hb hown (hts _ tb_2_181) dX7_water_22 ?_
    exact retI hQ hf hP hS dX7_water_24
  · rw [if_neg hc] at hf
    refine lv_iload_n hx hb dX7_water_11 rfl (lv_at hl 2 rfl) ?_
    refine lv_iconst (v := 0) hx hb dX7_water_12 (by decide) ?_
    refine lv_sipush (v := 4000) hx hb dX7_water_13 (by decide) ?_
    obtain ⟨v2, hv, hf⟩ := ob_some hf
    refine cI hS (runS hC hP hS (As := [.int x2, .int 0, .int 4000]) (rest := []) (k_X7_within l G S x2 0 4000 _ hv) vy_X7_within tb_2_14 tb_2_15 ⟨Nat.le_of_ble_eq_true rfl, Nat.le_of_ble_eq_true rfl⟩ rfl hl.1 rfl (Nat.le_of_ble_eq_true rfl) dX7_water_16) (fun H locs hP hS => ?_)
    refine lv_if_ne (tgt := 25) hx hb dX7_water_19 (by decide) (fun hc => ?_) (fun hc => ?_)
    · rw [if_neg hc] at hf
      refine lv_aload_n hx hb dX7_water_25 rfl (lv_at hl 0 rfl) ?_
      refine gFr hC hP (j := 0) sg_0 vc_7 iT7 (by decide) rfl tb_1_212 dX7_water_26 ?_
      refine lv_iload_n hx hb dX7_water_29 rfl (lv_at hl 1 rfl) ?_
      refine lv_aload_n hx hb dX7_water_30 rfl (lv_at hl 0 rfl) ?_
      refine gFr hC hP (j := 0) sg_0 vc_7 iT7 (by decide) rfl tb_1_212 dX7_water_31 ?_
      refine lv_iload_n hx hb dX7_water_34 rfl (lv_at hl 2 rfl) ?_
      obtain ⟨v3, hv, hf⟩ := ob_some hf
      refine cI hS (runV hC hP hS (As := [.int x2]) (rest := [.int x1, .ref (ad G 1)]) (k_X1_tideAt l G S x2 _ hv) vy_X1_tideAt sg_1 vc_1 tb_2_166 tb_2_167 tb_2_168 ⟨Nat.le_of_ble_eq_true rfl, Nat.le_of_ble_eq_true rfl⟩ rfl hl.1 rfl (Nat.le_of_ble_eq_true rfl) dX7_water_35) (fun H locs hP hS => ?_)
      refine lv_aload_n hx hb dX7_water_38 rfl (lv_at hl 0 rfl) ?_
      refine gFr hC hP (j := 0) sg_0 vc_7 iT7 (by decide) rfl tb_1_212 dX7_water_39 ?_
      refine gFr hC hP (j := 3) sg_1 vc_1 iT1 (by decide) rfl tb_1_40 dX7_water_42 ?_
      refine lv_iconst (v := 1) hx hb dX7_water_45 (by decide) ?_
      obtain ⟨v4, hv, hf⟩ := ob_some hf
      refine gIa hC hP hv dX7_water_46 ?_
      obtain ⟨v5, hv, hf⟩ := ob_some hf
      refine cI hS (runV hC hP hS (As := [.int x1, .int v3, .int v4]) (rest := []) (k_X1_levelAt l G S x1 v3 v4 _ hv) vy_X1_levelAt sg_1 vc_1 tb_2_182 tb_2_183 tb_2_184 ⟨Nat.le_of_ble_eq_true rfl, Nat.le_of_ble_eq_true rfl⟩ rfl hl.1 rfl (Nat.le_of_ble_eq_true rfl) dX7_water_47) (fun H locs hP hS => ?_)
      exact retI hQ hf hP hS dX7_water_50
    · rw [if_pos hc] at hf
      refine lv_ldc hx hb hown (hts _ tb_2_181) dX7_water_22 ?_
      exact retI hQ hf hP hS dX7_water_24
def f_X1_hasShip (S : ST) (x1 : Int32) : Option Int32 := if x1 < 0 then (some 0) else (if (S.1 1 1) ≤ x1 then (some 0) else (some 1))
set_option maxRecDepth 100000 in
set_option maxHeartbeats 4000000 in
theorem k_X1_hasShip (l : Launch) (G : GT) (S : ST) (x1 : Int32) (r : Int32) (hf : f_X1_hasShip S x1 = some r) : MI l yX1_hasShip cX1_hasShip 2 (some .boolean) 1 [.ref (ad G 1), .int x1] G S r S := by
  rw [f_X1_hasShip] at hf
  refine mkZ (own := RX1) (by decide +kernel) rfl (Nat.le_of_ble_eq_true rfl) (fun p e s m args below meth c Q ls hC hP hS hl hQ => ?_)
  have hl : lv_has ls 2 [(0, .ref (ad G 1)), (1, .int x1)] := hl
  obtain ⟨hx, hb, hml, hown, hts⟩ := id hC.1
  refine lv_iload_n hx hb dX1_hasShip_0 rfl (lv_at hl 1 rfl) ?_
  refine lv_if_lt (tgt := 16) hx hb dX1_hasShip_1 (by decide) (fun hc => ?_) (fun hc => ?_)
  · rw [if_pos hc] at hf
    refine lv_iconst (v := 0) hx hb dX1_hasShip_16 (by decide) ?_
    exact retZ hQ rfl hf hP hS dX1_hasShip_17
  · rw [if_neg hc] at hf
    refine lv_iload_n hx hb dX1_hasShip_4 rfl (lv_at hl 1 rfl) ?_
    refine lv_aload_n hx hb dX1_hasShip_5 rfl (lv_at hl 0 rfl) ?_
    refine gFi hC hP (j := 1) sg_1 vc_1 iT1 (by decide) rfl tb_1_32 dX1_hasShip_6 ?_
    refine lv_icmp_ge (tgt := 16) hx hb dX1_hasShip_9 (by decide) (fun hc => ?_) (fun hc => ?_)
    · rw [if_pos hc] at hf
      refine lv_iconst (v := 0) hx hb dX1_hasShip_16 (by decide) ?_
      exact retZ hQ rfl hf hP hS dX1_hasShip_17
    · rw [if_neg hc] at hf
      refine lv_iconst (v := 1) hx hb dX1_hasShip_12 (by decide) ?_
      refine lv_goto (tgt := 17) hx hb dX1_hasShip_13 (by decide) ?_
      exact retZ hQ rfl hf hP hS dX1_hasShip_17
def f_X7_isPlaced (S : ST) (x1 : Int32) (x2 : Int32) (x3 : Int32) (x4 : Int32) : Option Int32 := (f_X1_hasShip S x1).bind fun v1 => if v1 = 0 then (some 0) else ((f_X1_hasMile S x2).bind fun v2 => if v2 = 0 then (some 0) else ((f_X7_within x3 0 4000).bind fun v3 => if v3 = 0 then (some 0) else ((f_X7_isPace x4).bind fun v4 => if v4 = 0 then (some 0) else (some 1))))
set_option maxRecDepth 100000 in
set_option maxHeartbeats 4000000 in
theorem k_X7_isPlaced (l : Launch) (G : GT) (S : ST) (x1 : Int32) (x2 : Int32) (x3 : Int32) (x4 : Int32) (r : Int32) (hf : f_X7_isPlaced S x1 x2 x3 x4 = some r) : MI l yX7_isPlaced cX7_isPlaced 5 (some .boolean) 3 [.ref (ad G 0), .int x1, .int x2, .int x3, .int x4] G S r S := by
  rw [f_X7_isPlaced] at hf
  refine mkZ (own := RX7) (by decide +kernel) rfl (Nat.le_of_ble_eq_true rfl) (fun p e s m args below meth c Q ls hC hP hS hl hQ => ?_)
  have hl : lv_has ls 5 [(0, .ref (ad G 0)), (1, .int x1), (2, .int x2), (3, .int x3), (4, .int x4)] := hl
  obtain ⟨hx, hb, hml, hown, hts⟩ := id hC.1
  refine lv_aload_n hx hb dX7_isPlaced_0 rfl (lv_at hl 0 rfl) ?_
  refine gFr hC hP (j := 0) sg_0 vc_7 iT7 (by decide) rfl tb_1_212 dX7_isPlaced_1 ?_
  refine lv_iload_n hx hb dX7_isPlaced_4 rfl (lv_at hl 1 rfl) ?_
  obtain ⟨v1, hv, hf⟩ := ob_some hf
  refine cI hS (runV hC hP hS (As := [.int x1]) (rest := []) (k_X1_hasShip l G S x1 _ hv) vy_X1_hasShip sg_1 vc_1 tb_2_194 tb_2_195 tb_2_196 ⟨Nat.le_of_ble_eq_true rfl, Nat.le_of_ble_eq_true rfl⟩ rfl hl.1 rfl (Nat.le_of_ble_eq_true rfl) dX7_isPlaced_5) (fun H locs hP hS => ?_)
  refine lv_if_eq (tgt := 45) hx hb dX7_isPlaced_8 (by decide) (fun hc => ?_) (fun hc => ?_)
  · rw [if_pos hc] at hf
    refine lv_iconst (v := 0) hx hb dX7_isPlaced_45 (by decide) ?_
    exact retZ hQ rfl hf hP hS dX7_isPlaced_46
  · rw [if_neg hc] at hf
    refine lv_aload_n hx hb dX7_isPlaced_11 rfl (lv_at hl 0 rfl) ?_
    refine gFr hC hP (j := 0) sg_0 vc_7 iT7 (by decide) rfl tb_1_212 dX7_isPlaced_12 ?_
    refine lv_iload_n hx hb dX7_isPlaced_15 rfl (lv_at hl 2 rfl) ?_
    obtain ⟨v2, hv, hf⟩ := ob_some hf
    refine cI hS (runV hC hP hS (As := [.int x2]) (rest := []) (k_X1_hasMile l G S x2 _ hv) vy_X1_hasMile sg_1 vc_1 tb_2_33 tb_2_34 tb_2_35 ⟨Nat.le_of_ble_eq_true rfl, Nat.le_of_ble_eq_true rfl⟩ rfl hl.1 rfl (Nat.le_of_ble_eq_true rfl) dX7_isPlaced_16) (fun H locs hP hS => ?_)
    refine lv_if_eq (tgt := 45) hx hb dX7_isPlaced_19 (by decide) (fun hc => ?_) (fun hc => ?_)
    · rw [if_pos hc] at hf
      refine lv_iconst (v := 0) hx hb dX7_isPlaced_45 (by decide) ?_
      exact retZ hQ rfl hf hP hS dX7_isPlaced_46
    · rw [if_neg hc] at hf
      refine lv_iload_n hx hb dX7_isPlaced_22 rfl (lv_at hl 3 rfl) ?_
      refine lv_iconst (v := 0) hx hb dX7_isPlaced_23 (by decide) ?_
      refine lv_sipush (v := 4000) hx hb dX7_isPlaced_24 (by decide) ?_
      obtain ⟨v3, hv, hf⟩ := ob_some hf
      refine cI hS (runS hC hP hS (As := [.int x3, .int 0, .int 4000]) (rest := []) (k_X7_within l G S x3 0 4000 _ hv) vy_X7_within tb_2_14 tb_2_15 ⟨Nat.le_of_ble_eq_true rfl, Nat.le_of_ble_eq_true rfl⟩ rfl hl.1 rfl (Nat.le_of_ble_eq_true rfl) dX7_isPlaced_27) (fun H locs hP hS => ?_)
      refine lv_if_eq (tgt := 45) hx hb dX7_isPlaced_30 (by decide) (fun hc => ?_) (fun hc => ?_)
      · rw [if_pos hc] at hf
        refine lv_iconst (v := 0) hx hb dX7_isPlaced_45 (by decide) ?_
        exact retZ hQ rfl hf hP hS dX7_isPlaced_46
      · rw [if_neg hc] at hf
        refine lv_iload hx hb dX7_isPlaced_33 (lv_at hl 4 rfl) ?_
        obtain ⟨v4, hv, hf⟩ := ob_some hf
        refine cI hS (runS hC hP hS (As := [.int x4]) (rest := []) (k_X7_isPace l G S x4 _ hv) vy_X7_isPace tb_2_65 tb_2_66 ⟨Nat.le_of_ble_eq_true rfl, Nat.le_of_ble_eq_true rfl⟩ rfl hl.1 rfl (Nat.le_of_ble_eq_true rfl) dX7_isPlaced_35) (fun H locs hP hS => ?_)
        refine lv_if_eq (tgt := 45) hx hb dX7_isPlaced_38 (by decide) (fun hc => ?_) (fun hc => ?_)
        · rw [if_pos hc] at hf
          refine lv_iconst (v := 0) hx hb dX7_isPlaced_45 (by decide) ?_
          exact retZ hQ rfl hf hP hS dX7_isPlaced_46
        · rw [if_neg hc] at hf
          refine lv_iconst (v := 1) hx hb dX7_isPlaced_41 (by decide) ?_
          refine lv_goto (tgt := 46) hx hb dX7_isPlaced_42 (by decide) ?_
          exact retZ hQ rfl hf hP hS dX7_isPlaced_46
end
