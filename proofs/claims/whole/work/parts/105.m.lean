section
variable {p : Program} {l : Launch} {e : Env} {s : State} {m : MethodId} {args : Array Value} {below : List Frame} {meth : Method} {c : Code} {Q : State → Prop} {G : GT}

def f_X2_moveLater_107  (k2 : ST → Int32 → Int32 → Int32 → Option ST) (S : ST) (x1 : Int32) (x2 : Int32) (x3 : Int32) : Option ST := k2 S x1 x2 (x3 + 1)
set_option maxRecDepth 100000 in
set_option maxHeartbeats 4000000 in
theorem w_X2_moveLater_107 {S' : ST} (hC : Cx p m c s args cX2_moveLater 7 RX2 G) (hQ : KV p l e (rmH 1) s m args below meth c Q cX2_moveLater G S') {k2 : ST → Int32 → Int32 → Int32 → Option ST} (hk2 : ∀ (S : ST) (x1 : Int32) (x2 : Int32) (x3 : Int32) (H : Heap) (locs : List Loc) (ls : Array Slot), va_P (gD G) vwCl (cells G S) H → va_S (gA G) s.heap H locs → lv_has ls 7 [(0, .ref (ad G 13)), (1, .int x1), (2, .int x2), (3, .int x3)] → k2 S x1 x2 x3 = some S' → W p l e (rmH 1) s m args below meth c H locs 0 0 Q (F0 m 2 ls [])) (S : ST) (x1 : Int32) (x2 : Int32) (x3 : Int32) (H : Heap) (locs : List Loc) (ls : Array Slot) (hP : va_P (gD G) vwCl (cells G S) H) (hS : va_S (gA G) s.heap H locs) (hl : lv_has ls 7 [(0, .ref (ad G 13)), (1, .int x1), (2, .int x2), (3, .int x3)]) (hf : f_X2_moveLater_107 k2 S x1 x2 x3 = some S') : W p l e (rmH 1) s m args below meth c H locs 0 0 Q (F0 m 107 ls []) := by
  obtain ⟨hx, hb, hml, hown, hts⟩ := id hC.1
  rw [f_X2_moveLater_107] at hf
  refine lv_iinc (v := x3 + 1) (lv' := [(3, .int (x3 + 1)), (0, .ref (ad G 13)), (1, .int x1), (2, .int x2)]) hx hb dX2_moveLater_107 hl (k := 3) rfl rfl (by decide) rfl (fun ls hl => ?_)
  refine lv_goto (tgt := 2) hx hb dX2_moveLater_110 (by decide) ?_
  exact hk2 _ _ _ _ _ _ _ hP hS (lv_sub hl [1, 2, 3, 0] rfl) hf
def f_X2_moveLater_2  : Nat → ST → Int32 → Int32 → Int32 → Option ST
  | 0, _, _, _, _ => none
  | n + 1, S, x1, x2, x3 => if 11 ≤ x3 then (some S) else ((rI S 0 16 ((x1 * 11) + x3)).bind fun v1 => if 100 ≤ v1 then (f_X2_moveLater_107 (f_X2_moveLater_2 n) S x1 x2 x3) else ((rA 4 17 x1).bind fun v2 => (rL S v2 x2).bind fun v3 => (rA 4 15 v1).bind fun v4 => (rL S v4 x2).bind fun v5 => (rA 4 17 (x1 + 1)).bind fun v6 => (rL S v6 x2).bind fun v7 => (rS 1 x3).bind fun v8 => (wL S v6 x2 (v7 ||| (sl64 (v3 &&& v5) v8))).bind fun S9 => if 38 ≤ (x2 + 1) then (f_X2_moveLater_107 (f_X2_moveLater_2 n) S9 x1 x2 x3) else ((rA 4 17 (x1 + 1)).bind fun v10 => (rL S9 v10 (x2 + 1)).bind fun v11 => (rS 1 x3).bind fun v12 => (wL S9 v10 (x2 + 1) (v11 ||| (us64 (v3 &&& v5) (64 - v12)))).bind fun S13 => f_X2_moveLater_107 (f_X2_moveLater_2 n) S13 x1 x2 x3)))
set_option maxRecDepth 100000 in
set_option maxHeartbeats 4000000 in
theorem w_X2_moveLater_2 {S' : ST} (hC : Cx p m c s args cX2_moveLater 7 RX2 G) (hQ : KV p l e (rmH 1) s m args below meth c Q cX2_moveLater G S') : ∀ (n : Nat) (S : ST) (x1 : Int32) (x2 : Int32) (x3 : Int32) (H : Heap) (locs : List Loc) (ls : Array Slot), va_P (gD G) vwCl (cells G S) H → va_S (gA G) s.heap H locs → lv_has ls 7 [(0, .ref (ad G 13)), (1, .int x1), (2, .int x2), (3, .int x3)] → f_X2_moveLater_2 n S x1 x2 x3 = some S' → W p l e (rmH 1) s m args below meth c H locs 0 0 Q (F0 m 2 ls []) := by
  obtain ⟨hx, hb, hml, hown, hts⟩ := id hC.1
  intro n
  induction n with
  | zero => intro S x1 x2 x3 H locs ls hP hS hl hf; rw [f_X2_moveLater_2] at hf; cases hf
  | succ n ih =>
    intro S x1 x2 x3 H locs ls hP hS hl hf
    rw [f_X2_moveLater_2] at hf
    refine lv_iload_n hx hb dX2_moveLater_2 rfl (lv_at hl 3 rfl) ?_
    refine gStN hC hS (j := 0) (by decide) nw_1 dX2_moveLater_3 ?_
    refine gSn (x := 11) hC hS (by decide) rfl dX2_moveLater_6 ?_
    refine lv_icmp_ge (tgt := 113) hx hb dX2_moveLater_7 (by decide) (fun hc => ?_) (fun hc => ?_)
    · rw [if_pos hc] at hf
      exact retV hQ hf hP hS dX2_moveLater_113
    · rw [if_neg hc] at hf
      refine lv_aload_n hx hb dX2_moveLater_10 rfl (lv_at hl 0 rfl) ?_
      refine gFr hC hP (j := 4) sg_13 vc_2 iT2 (by decide) rfl tb_1_128 dX2_moveLater_11 ?_
      refine lv_iload_n hx hb dX2_moveLater_14 rfl (lv_at hl 1 rfl) ?_
      refine gStN hC hS (j := 0) (by decide) nw_1 dX2_moveLater_15 ?_
      refine gSn (x := 11) hC hS (by decide) rfl dX2_moveLater_18 ?_
      refine lv_imul hx hb dX2_moveLater_19 ?_
      refine lv_iload_n hx hb dX2_moveLater_20 rfl (lv_at hl 3 rfl) ?_
      refine lv_iadd hx hb dX2_moveLater_21 ?_
      obtain ⟨v1, hv, hf⟩ := ob_some hf
      refine gIa hC hP hv dX2_moveLater_22 ?_
      refine lv_istore (lv' := [(4, .int v1), (0, .ref (ad G 13)), (1, .int x1), (2, .int x2), (3, .int x3)]) hx hb dX2_moveLater_23 hl (by decide) rfl (fun ls hl => ?_)
      refine lv_iload hx hb dX2_moveLater_25 (lv_at hl 0 rfl) ?_
      refine lv_bipush (v := 100) hx hb dX2_moveLater_27 (by decide) ?_
      refine lv_icmp_ge (tgt := 107) hx hb dX2_moveLater_29 (by decide) (fun hc => ?_) (fun hc => ?_)
      · rw [if_pos hc] at hf
        exact w_X2_moveLater_107 hC hQ ih  _ _ _ _ _ _ _ hP hS (lv_sub hl [1, 2, 3, 4] rfl) hf
      · rw [if_neg hc] at hf
        refine lv_aload_n hx hb dX2_moveLater_32 rfl (lv_at hl 1 rfl) ?_
        refine gFr hC hP (j := 5) sg_13 vc_2 iT2 (by decide) rfl tb_1_129 dX2_moveLater_33 ?_
        refine lv_iload_n hx hb dX2_moveLater_36 rfl (lv_at hl 2 rfl) ?_
        obtain ⟨v2, hv, hf⟩ := ob_some hf
        refine gAa4 hC hP hv dX2_moveLater_37 ?_
        refine lv_iload_n hx hb dX2_moveLater_38 rfl (lv_at hl 3 rfl) ?_
        obtain ⟨v3, hv, hf⟩ := ob_some hf
        refine gLa hC hP hv dX2_moveLater_39 ?_
        refine lv_aload_n hx hb dX2_moveLater_40 rfl (lv_at hl 1 rfl) ?_
        refine gFr hC hP (j := 3) sg_13 vc_2 iT2 (by decide) rfl tb_1_127 dX2_moveLater_41 ?_
        refine lv_iload hx hb dX2_moveLater_44 (lv_at hl 0 rfl) ?_
        obtain ⟨v4, hv, hf⟩ := ob_some hf
        refine gAa4 hC hP hv dX2_moveLater_46 ?_
        refine lv_iload_n hx hb dX2_moveLater_47 rfl (lv_at hl 3 rfl) ?_
        obtain ⟨v5, hv, hf⟩ := ob_some hf
        refine gLa hC hP hv dX2_moveLater_48 ?_
        refine lv_land hx hb dX2_moveLater_49 ?_
        refine lv_lstore (lv' := [(5, .long (v3 &&& v5)), (4, .int v1), (0, .ref (ad G 13)), (1, .int x1), (2, .int x2), (3, .int x3)]) hx hb dX2_moveLater_50 hl (by decide) rfl (fun ls hl => ?_)
        refine lv_aload_n hx hb dX2_moveLater_52 rfl (lv_at hl 2 rfl) ?_
        refine gFr hC hP (j := 5) sg_13 vc_2 iT2 (by decide) rfl tb_1_129 dX2_moveLater_53 ?_
        refine lv_iload_n hx hb dX2_moveLater_56 rfl (lv_at hl 3 rfl) ?_
        refine lv_iconst (v := 1) hx hb dX2_moveLater_57 (by decide) ?_
        refine lv_iadd hx hb dX2_moveLater_58 ?_
        obtain ⟨v6, hv, hf⟩ := ob_some hf
        refine gAa4 hC hP hv dX2_moveLater_59 ?_
        refine lv_iload_n hx hb dX2_moveLater_60 rfl (lv_at hl 4 rfl) ?_
        refine lv_dup2_11 hx hb dX2_moveLater_61 rfl rfl ?_
        obtain ⟨v7, hv, hf⟩ := ob_some hf
        refine gLa hC hP hv dX2_moveLater_62 ?_
        refine lv_lload hx hb dX2_moveLater_63 (lv_at hl 0 rfl) ?_
        refine gStN hC hS (j := 1) (by decide) nw_11 dX2_moveLater_65 ?_
        refine lv_iload_n hx hb dX2_moveLater_68 rfl (lv_at hl 5 rfl) ?_
        obtain ⟨v8, hv, hf⟩ := ob_some hf
        refine gSi hC hS (by decide) hv dX2_moveLater_69 ?_
        refine lv_lshl (v := (sl64 (v3 &&& v5) v8)) hx hb dX2_moveLater_70 rfl ?_
        refine lv_lor hx hb dX2_moveLater_71 ?_
        obtain ⟨S9, hv, hf⟩ := ob_some hf
        refine sLa hC hP hS hv dX2_moveLater_72 (fun H locs hP hS => ?_)
        refine lv_iload_n hx hb dX2_moveLater_73 rfl (lv_at hl 4 rfl) ?_
        refine lv_iconst (v := 1) hx hb dX2_moveLater_74 (by decide) ?_
        refine lv_iadd hx hb dX2_moveLater_75 ?_
        refine lv_bipush (v := 38) hx hb dX2_moveLater_76 (by decide) ?_
        refine lv_icmp_ge (tgt := 107) hx hb dX2_moveLater_78 (by decide) (fun hc => ?_) (fun hc => ?_)
        · rw [if_pos hc] at hf
          exact w_X2_moveLater_107 hC hQ ih  _ _ _ _ _ _ _ hP hS (lv_sub hl [2, 3, 4, 5] rfl) hf
        · rw [if_neg hc] at hf
          refine lv_aload_n hx hb dX2_moveLater_81 rfl (lv_at hl 2 rfl) ?_
          refine gFr hC hP (j := 5) sg_13 vc_2 iT2 (by decide) rfl tb_1_129 dX2_moveLater_82 ?_
          refine lv_iload_n hx hb dX2_moveLater_85 rfl (lv_at hl 3 rfl) ?_
          refine lv_iconst (v := 1) hx hb dX2_moveLater_86 (by decide) ?_
          refine lv_iadd hx hb dX2_moveLater_87 ?_
          obtain ⟨v10, hv, hf⟩ := ob_some hf
          refine gAa4 hC hP hv dX2_moveLater_88 ?_
          refine lv_iload_n hx hb dX2_moveLater_89 rfl (lv_at hl 4 rfl) ?_
          refine lv_iconst (v := 1) hx hb dX2_moveLater_90 (by decide) ?_
          refine lv_iadd hx hb dX2_moveLater_91 ?_
          refine lv_dup2_11 hx hb dX2_moveLater_92 rfl rfl ?_
          obtain ⟨v11, hv, hf⟩ := ob_some hf
          refine gLa hC hP hv dX2_moveLater_93 ?_
          refine lv_lload hx hb dX2_moveLater_94 (lv_at hl 0 rfl) ?_
          refine lv_bipush (v := 64) hx hb dX2_moveLater_96 (by decide) ?_
          refine gStN hC hS (j := 1) (by decide) nw_11 dX2_moveLater_98 ?_
          refine lv_iload_n hx hb dX2_moveLater_101 rfl (lv_at hl 5 rfl) ?_
          obtain ⟨v12, hv, hf⟩ := ob_some hf
          refine gSi hC hS (by decide) hv dX2_moveLater_102 ?_
          refine lv_isub hx hb dX2_moveLater_103 ?_
          refine lv_lushr (v := (us64 (v3 &&& v5) (64 - v12))) hx hb dX2_moveLater_104 rfl ?_
          refine lv_lor hx hb dX2_moveLater_105 ?_
          obtain ⟨S13, hv, hf⟩ := ob_some hf
          refine sLa hC hP hS hv dX2_moveLater_106 (fun H locs hP hS => ?_)
          exact w_X2_moveLater_107 hC hQ ih  _ _ _ _ _ _ _ hP hS (lv_sub hl [2, 3, 4, 5] rfl) hf
def f_X2_moveLater (S : ST) (x1 : Int32) (x2 : Int32) : Option ST := f_X2_moveLater_2 FU S x1 x2 0
set_option maxRecDepth 100000 in
set_option maxHeartbeats 4000000 in
theorem k_X2_moveLater (l : Launch) (G : GT) (S : ST) (x1 : Int32) (x2 : Int32) (S' : ST) (hf : f_X2_moveLater S x1 x2 = some S') : MV l yX2_moveLater cX2_moveLater 7 1 [.ref (ad G 13), .int x1, .int x2] G S S' := by
  rw [f_X2_moveLater] at hf
  refine mkV (own := RX2) (by decide +kernel) rfl (Nat.le_of_ble_eq_true rfl) (fun p e s m args below meth c Q ls hC hP hS hl hQ => ?_)
  have hl : lv_has ls 7 [(0, .ref (ad G 13)), (1, .int x1), (2, .int x2)] := hl
  obtain ⟨hx, hb, hml, hown, hts⟩ := id hC.1
  refine lv_iconst (v := 0) hx hb dX2_moveLater_0 (by decide) ?_
  refine lv_istore_n (lv' := [(3, .int 0), (0, .ref (ad G 13)), (1, .int x1), (2, .int x2)]) hx hb dX2_moveLater_1 rfl hl (by decide) rfl (fun ls hl => ?_)
  exact w_X2_moveLater_2 hC hQ _ _ _ _ _ _ _ _ hP hS (lv_sub hl [1, 2, 3, 0] rfl) hf
def f_X2_goOn_38  (k13 : ST → Int32 → Int32 → Option ST) (S : ST) (x1 : Int32) (x2 : Int32) : Option ST := k13 S x1 (x2 + 1)
set_option maxRecDepth 100000 in
set_option maxHeartbeats 4000000 in
theorem w_X2_goOn_38 {S' : ST} (hC : Cx p m c s args cX2_goOn 3 RX2 G) (hQ : KV p l e (rmH 2) s m args below meth c Q cX2_goOn G S') {k13 : ST → Int32 → Int32 → Option ST} (hk13 : ∀ (S : ST) (x1 : Int32) (x2 : Int32) (H : Heap) (locs : List Loc) (ls : Array Slot), va_P (gD G) vwCl (cells G S) H → va_S (gA G) s.heap H locs → lv_has ls 3 [(0, .ref (ad G 13)), (1, .int x1), (2, .int x2)] → k13 S x1 x2 = some S' → W p l e (rmH 2) s m args below meth c H locs 0 0 Q (F0 m 13 ls [])) (S : ST) (x1 : Int32) (x2 : Int32) (H : Heap) (locs : List Loc) (ls : Array Slot) (hP : va_P (gD G) vwCl (cells G S) H) (hS : va_S (gA G) s.heap H locs) (hl : lv_has ls 3 [(0, .ref (ad G 13)), (1, .int x1), (2, .int x2)]) (hf : f_X2_goOn_38 k13 S x1 x2 = some S') : W p l e (rmH 2) s m args below meth c H locs 0 0 Q (F0 m 38 ls []) := by
  obtain ⟨hx, hb, hml, hown, hts⟩ := id hC.1
  rw [f_X2_goOn_38] at hf
  refine lv_iinc (v := x2 + 1) (lv' := [(2, .int (x2 + 1)), (0, .ref (ad G 13)), (1, .int x1)]) hx hb dX2_goOn_38 hl (k := 2) rfl rfl (by decide) rfl (fun ls hl => ?_)
  refine lv_goto (tgt := 13) hx hb dX2_goOn_41 (by decide) ?_
  exact hk13 _ _ _ _ _ _ hP hS (lv_sub hl [1, 2, 0] rfl) hf
def f_X2_goOn_13  : Nat → ST → Int32 → Int32 → Option ST
  | 0, _, _, _ => none
  | n + 1, S, x1, x2 => if 38 ≤ x2 then (some S) else ((rA 4 17 x1).bind fun v1 => (rL S v1 x2).bind fun v2 => if (lg_cmp v2 0) = 0 then (f_X2_goOn_38 (f_X2_goOn_13 n) S x1 x2) else ((f_X2_moveLater S x1 x2).bind fun S3 => f_X2_goOn_38 (f_X2_goOn_13 n) S3 x1 x2))
set_option maxRecDepth 100000 in
set_option maxHeartbeats 4000000 in
theorem w_X2_goOn_13 {S' : ST} (hC : Cx p m c s args cX2_goOn 3 RX2 G) (hQ : KV p l e (rmH 2) s m args below meth c Q cX2_goOn G S') : ∀ (n : Nat) (S : ST) (x1 : Int32) (x2 : Int32) (H : Heap) (locs : List Loc) (ls : Array Slot), va_P (gD G) vwCl (cells G S) H → va_S (gA G) s.heap H locs → lv_has ls 3 [(0, .ref (ad G 13)), (1, .int x1), (2, .int x2)] → f_X2_goOn_13 n S x1 x2 = some S' → W p l e (rmH 2) s m args below meth c H locs 0 0 Q (F0 m 13 ls []) := by
  obtain ⟨hx, hb, hml, hown, hts⟩ := id hC.1
  intro n
  induction n with
  | zero => intro S x1 x2 H locs ls hP hS hl hf; rw [f_X2_goOn_13] at hf; cases hf
  | succ n ih =>
    intro S x1 x2 H locs ls hP hS hl hf
    rw [f_X2_goOn_13] at hf
    refine lv_iload_n hx hb dX2_goOn_13 rfl (lv_at hl 2 rfl) ?_
    refine lv_bipush (v := 38) hx hb dX2_goOn_14 (by decide) ?_
    refine lv_icmp_ge (tgt := 44) hx hb dX2_goOn_16 (by decide) (fun hc => ?_) (fun hc => ?_)
    · rw [if_pos hc] at hf
      exact retV hQ hf hP hS dX2_goOn_44
    · rw [if_neg hc] at hf
      refine lv_aload_n hx hb dX2_goOn_19 rfl (lv_at hl 0 rfl) ?_
      refine gFr hC hP (j := 5) sg_13 vc_2 iT2 (by decide) rfl tb_1_129 dX2_goOn_20 ?_
      refine lv_iload_n hx hb dX2_goOn_23 rfl (lv_at hl 1 rfl) ?_
      obtain ⟨v1, hv, hf⟩ := ob_some hf
      refine gAa4 hC hP hv dX2_goOn_24 ?_
      refine lv_iload_n hx hb dX2_goOn_25 rfl (lv_at hl 2 rfl) ?_
      obtain ⟨v2, hv, hf⟩ := ob_some hf
      refine gLa hC hP hv dX2_goOn_26 ?_
      refine lv_lconst (v := 0) hx hb dX2_goOn_27 (by decide) ?_
      refine W.lcmp hx hb dX2_goOn_28 ?_
      refine lv_if_eq (tgt := 38) hx hb dX2_goOn_29 (by decide) (fun hc => ?_) (fun hc => ?_)
      · rw [if_pos hc] at hf
        exact w_X2_goOn_38 hC hQ ih  _ _ _ _ _ _ hP hS (lv_sub hl [0, 1, 2] rfl) hf
      · rw [if_neg hc] at hf
        refine lv_aload_n hx hb dX2_goOn_32 rfl (lv_at hl 0 rfl) ?_
        refine lv_iload_n hx hb dX2_goOn_33 rfl (lv_at hl 1 rfl) ?_
        refine lv_iload_n hx hb dX2_goOn_34 rfl (lv_at hl 2 rfl) ?_
        obtain ⟨S3, hv, hf⟩ := ob_some hf
        refine cV hS (runV hC hP hS (As := [.int x1, .int x2]) (rest := []) (k_X2_moveLater l G S x1 x2 _ hv) vy_X2_moveLater sg_13 vc_2 tb_3_82 tb_3_84 ts_16 ⟨Nat.le_of_ble_eq_true rfl, Nat.le_of_ble_eq_true rfl⟩ rfl hl.1 rfl (Nat.le_of_ble_eq_true rfl) dX2_goOn_35) (fun H locs hP hS => ?_)
        exact w_X2_goOn_38 hC hQ ih  _ _ _ _ _ _ hP hS (lv_sub hl [0, 1, 2] rfl) hf
def f_X2_goOn (S : ST) (x1 : Int32) : Option ST := (rA 4 17 (x1 + 1)).bind fun v1 => (f_X2_wipe S v1).bind fun S2 => f_X2_goOn_13 FU S2 x1 0
set_option maxRecDepth 100000 in
set_option maxHeartbeats 4000000 in
theorem k_X2_goOn (l : Launch) (G : GT) (S : ST) (x1 : Int32) (S' : ST) (hf : f_X2_goOn S x1 = some S') : MV l yX2_goOn cX2_goOn 3 2 [.ref (ad G 13), .int x1] G S S' := by
  rw [f_X2_goOn] at hf
  refine mkV (own := RX2) (by decide +kernel) rfl (Nat.le_of_ble_eq_true rfl) (fun p e s m args below meth c Q ls hC hP hS hl hQ => ?_)
  have hl : lv_has ls 3 [(0, .ref (ad G 13)), (1, .int x1)] := hl
  obtain ⟨hx, hb, hml, hown, hts⟩ := id hC.1
  refine lv_aload_n hx hb dX2_goOn_0 rfl (lv_at hl 0 rfl) ?_
  refine gFr hC hP (j := 5) sg_13 vc_2 iT2 (by decide) rfl tb_1_129 dX2_goOn_1 ?_
  refine lv_iload_n hx hb dX2_goOn_4 rfl (lv_at hl 1 rfl) ?_
  refine lv_iconst (v := 1) hx hb dX2_goOn_5 (by decide) ?_
  refine lv_iadd hx hb dX2_goOn_6 ?_
  obtain ⟨v1, hv, hf⟩ := ob_some hf
  refine gAa4 hC hP hv dX2_goOn_7 ?_
  obtain ⟨S2, hv, hf⟩ := ob_some hf
  refine cV hS (runS hC hP hS (As := [.ref (ad G v1)]) (rest := []) (k_X2_wipe l G S v1 _ hv) vy_X2_wipe tb_3_53 tb_3_54 ⟨Nat.le_of_ble_eq_true rfl, Nat.le_of_ble_eq_true rfl⟩ rfl hl.1 rfl (Nat.le_of_ble_eq_true rfl) dX2_goOn_8) (fun H locs hP hS => ?_)
  refine lv_iconst (v := 0) hx hb dX2_goOn_11 (by decide) ?_
  refine lv_istore_n (lv' := [(2, .int 0), (0, .ref (ad G 13)), (1, .int x1)]) hx hb dX2_goOn_12 rfl hl (by decide) rfl (fun ls hl => ?_)
  exact w_X2_goOn_13 hC hQ _ _ _ _ _ _ _ hP hS (lv_sub hl [1, 2, 0] rfl) hf
def f_J13_bitCount_95d88 (x0 : Int64) : Option Int32 := (some (x0 - ((us64 x0 1) &&& 6148914691236517205))).bind fun v1 => (some ((v1 &&& 3689348814741910323) + ((us64 v1 2) &&& 3689348814741910323))).bind fun v2 => (some ((v2 + (us64 v2 4)) &&& 1085102592571150095)).bind fun v3 => (some (v3 + (us64 v3 8))).bind fun v4 => (some (v4 + (us64 v4 16))).bind fun v5 => (some (v5 + (us64 v5 32))).bind fun v6 => some ((v6.toInt32) &&& 127)
set_option maxRecDepth 100000 in
set_option maxHeartbeats 4000000 in
theorem k_J13_bitCount_95d88 (l : Launch) (G : GT) (S : ST) (x0 : Int64) (r : Int32) (hf : f_J13_bitCount_95d88 x0 = some r) : MI l yJ13_bitCount_95d88 cJ13_bitCount_95d88 2 (some .int) 1 [.long x0] G S r S := by
  rw [f_J13_bitCount_95d88] at hf
  refine mkI (own := RJ13) (by decide +kernel) rfl rfl (Nat.le_of_ble_eq_true rfl) (fun p e s m args below meth c Q ls hC hP hS hl hQ => ?_)
  have hl : lv_has ls 2 [(0, .long x0)] := hl
  obtain ⟨hx, hb, hml, hown, hts⟩ := id hC.1
  refine lv_lload_n hx hb dJ13_bitCount_95d88_0 rfl (lv_at hl 0 rfl) ?_
  refine lv_lload_n hx hb dJ13_bitCount_95d88_1 rfl (lv_at hl 0 rfl) ?_
  refine lv_iconst (v := 1) hx hb dJ13_bitCount_95d88_2 (by decide) ?_
  refine lv_lushr (v := (us64 x0 1)) hx hb dJ13_bitCount_95d88_3 rfl ?_
  refine lv_ldc2 hx hb hown (hts _ tb_3_95) dJ13_bitCount_95d88_4 ?_
  refine lv_land hx hb dJ13_bitCount_95d88_7 ?_
  refine lv_lsub hx hb dJ13_bitCount_95d88_8 ?_
  obtain ⟨v1, hv, hf⟩ := ob_some hf
  refine nmL hv ?_
  refine lv_lstore_n (lv' := [(0, .long v1)]) hx hb dJ13_bitCount_95d88_9 rfl hl (by decide) rfl (fun ls hl => ?_)
  refine lv_lload_n hx hb dJ13_bitCount_95d88_10 rfl (lv_at hl 0 rfl) ?_
  refine lv_ldc2 hx hb hown (hts _ tb_3_96) dJ13_bitCount_95d88_11 ?_
  refine lv_land hx hb dJ13_bitCount_95d88_14 ?_
  refine lv_lload_n hx hb dJ13_bitCount_95d88_15 rfl (lv_at hl 0 rfl) ?_
  refine lv_iconst (v := 2) hx hb dJ13_bitCount_95d88_16 (by decide) ?_
  refine lv_lushr (v := (us64 v1 2)) hx hb dJ13_bitCount_95d88_17 rfl ?_
  refine lv_ldc2 hx hb hown (hts _ tb_3_96) dJ13_bitCount_95d88_18 ?_
  refine lv_land hx hb dJ13_bitCount_95d88_21 ?_
  refine lv_ladd hx hb dJ13_bitCount_95d88_22 ?_
  obtain ⟨v2, hv, hf⟩ := ob_some hf
  refine nmL hv ?_
  refine lv_lstore_n (lv' := [(0, .long v2)]) hx hb dJ13_bitCount_95d88_23 rfl hl (by decide) rfl (fun ls hl => ?_)
  refine lv_lload_n hx hb dJ13_bitCount_95d88_24 rfl (lv_at hl 0 rfl) ?_
  refine lv_lload_n hx hb dJ13_bitCount_95d88_25 rfl (lv_at hl 0 rfl) ?_
  refine lv_iconst (v := 4) hx hb dJ13_bitCount_95d88_26 (by decide) ?_
  refine lv_lushr (v := (us64 v2 4)) hx hb dJ13_bitCount_95d88_27 rfl ?_
  refine lv_ladd hx hb dJ13_bitCount_95d88_28 ?_
  refine lv_ldc2 hx hb hown (hts _ tb_3_97) dJ13_bitCount_95d88_29 ?_
  refine lv_land hx hb dJ13_bitCount_95d88_32 ?_
  obtain ⟨v3, hv, hf⟩ := ob_some hf
  refine nmL hv ?_
  refine lv_lstore_n (lv' := [(0, .long v3)]) hx hb dJ13_bitCount_95d88_33 rfl hl (by decide) rfl (fun ls hl => ?_)
  refine lv_lload_n hx hb dJ13_bitCount_95d88_34 rfl (lv_at hl 0 rfl) ?_
  refine lv_lload_n hx hb dJ13_bitCount_95d88_35 rfl (lv_at hl 0 rfl) ?_
  refine lv_bipush (v := 8) hx hb dJ13_bitCount_95d88_36 (by decide) ?_
  refine lv_lushr (v := (us64 v3 8)) hx hb dJ13_bitCount_95d88_38 rfl ?_
  refine lv_ladd hx hb dJ13_bitCount_95d88_39 ?_
  obtain ⟨v4, hv, hf⟩ := ob_some hf
  refine nmL hv ?_
  refine lv_lstore_n (lv' := [(0, .long v4)]) hx hb dJ13_bitCount_95d88_40 rfl hl (by decide) rfl (fun ls hl => ?_)
  refine lv_lload_n hx hb dJ13_bitCount_95d88_41 rfl (lv_at hl 0 rfl) ?_
  refine lv_lload_n hx hb dJ13_bitCount_95d88_42 rfl (lv_at hl 0 rfl) ?_
  refine lv_bipush (v := 16) hx hb dJ13_bitCount_95d88_43 (by decide) ?_
  refine lv_lushr (v := (us64 v4 16)) hx hb dJ13_bitCount_95d88_45 rfl ?_
  refine lv_ladd hx hb dJ13_bitCount_95d88_46 ?_
  obtain ⟨v5, hv, hf⟩ := ob_some hf
  refine nmL hv ?_
  refine lv_lstore_n (lv' := [(0, .long v5)]) hx hb dJ13_bitCount_95d88_47 rfl hl (by decide) rfl (fun ls hl => ?_)
  refine lv_lload_n hx hb dJ13_bitCount_95d88_48 rfl (lv_at hl 0 rfl) ?_
  refine lv_lload_n hx hb dJ13_bitCount_95d88_49 rfl (lv_at hl 0 rfl) ?_
  refine lv_bipush (v := 32) hx hb dJ13_bitCount_95d88_50 (by decide) ?_
  refine lv_lushr (v := (us64 v5 32)) hx hb dJ13_bitCount_95d88_52 rfl ?_
  refine lv_ladd hx hb dJ13_bitCount_95d88_53 ?_
  obtain ⟨v6, hv, hf⟩ := ob_some hf
  refine nmL hv ?_
  refine lv_lstore_n (lv' := [(0, .long v6)]) hx hb dJ13_bitCount_95d88_54 rfl hl (by decide) rfl (fun ls hl => ?_)
  refine lv_lload_n hx hb dJ13_bitCount_95d88_55 rfl (lv_at hl 0 rfl) ?_
  refine lv_l2i (v := v6.toInt32) hx hb dJ13_bitCount_95d88_56 rfl ?_
  refine lv_bipush (v := 127) hx hb dJ13_bitCount_95d88_57 (by decide) ?_
  refine lv_iand hx hb dJ13_bitCount_95d88_59 ?_
  exact retI hQ hf hP hS dJ13_bitCount_95d88_60
def f_X7_firstFrom_22 (S : ST)  : Nat → Nat → Int64 → Int32 → Option Int32
  | 0, _, _, _ => none
  | n + 1, x0, x2, x4 => (lA 3 x0).bind fun v1 => if v1 ≤ x4 then (some (-4)) else ((rL S x0 x4).bind fun v2 => if (lg_cmp (v2 &&& x2) 0) = 0 then (f_X7_firstFrom_22 S n x0 (-1) (x4 + 1)) else ((f_J13_bitCount_95d88 (((v2 &&& x2) &&& (-(v2 &&& x2))) - 1)).bind fun v3 => some ((x4 * 64) + v3)))
set_option maxRecDepth 100000 in
set_option maxHeartbeats 4000000 in
theorem w_X7_firstFrom_22 {r : Int32} {S : ST} (hC : Cx p m c s args cX7_firstFrom 7 RX7 G) (hQ : KI p l e (rmH 2) s m args below meth c Q cX7_firstFrom G r S) : ∀ (n : Nat) (x0 : Nat) (x2 : Int64) (x4 : Int32) (H : Heap) (locs : List Loc) (ls : Array Slot), va_P (gD G) vwCl (cells G S) H → va_S (gA G) s.heap H locs → lv_has ls 7 [(0, .ref (ad G x0)), (2, .long x2), (4, .int x4)] → f_X7_firstFrom_22 S n x0 x2 x4 = some r → W p l e (rmH 2) s m args below meth c H locs 0 0 Q (F0 m 22 ls []) := by
  obtain ⟨hx, hb, hml, hown, hts⟩ := id hC.1
  intro n
  induction n with
  | zero => intro x0 x2 x4 H locs ls hP hS hl hf; rw [f_X7_firstFrom_22] at hf; cases hf
  | succ n ih =>
    intro x0 x2 x4 H locs ls hP hS hl hf
    rw [f_X7_firstFrom_22] at hf
    refine lv_iload hx hb dX7_firstFrom_22 (lv_at hl 2 rfl) ?_
    refine lv_aload_n hx hb dX7_firstFrom_24 rfl (lv_at hl 0 rfl) ?_
    obtain ⟨v1, hv, hf⟩ := ob_some hf
    refine gLen (t := 3) (by decide) hC hP hv dX7_firstFrom_25 ?_
    refine lv_icmp_ge (tgt := 72) hx hb dX7_firstFrom_26 (by decide) (fun hc => ?_) (fun hc => ?_)
    · rw [if_pos hc] at hf
      refine lv_bipush (v := (-4)) hx hb dX7_firstFrom_72 (by decide) ?_
      exact retI hQ hf hP hS dX7_firstFrom_74
    · rw [if_neg hc] at hf
      refine lv_aload_n hx hb dX7_firstFrom_29 rfl (lv_at hl 0 rfl) ?_
      refine lv_iload hx hb dX7_firstFrom_30 (lv_at hl 2 rfl) ?_
      obtain ⟨v2, hv, hf⟩ := ob_some hf
      refine gLa hC hP hv dX7_firstFrom_32 ?_
      refine lv_lload_n hx hb dX7_firstFrom_33 rfl (lv_at hl 1 rfl) ?_
      refine lv_land hx hb dX7_firstFrom_34 ?_
      refine lv_lstore (lv' := [(5, .long (v2 &&& x2)), (0, .ref (ad G x0)), (2, .long x2), (4, .int x4)]) hx hb dX7_firstFrom_35 hl (by decide) rfl (fun ls hl => ?_)
      refine lv_lload hx hb dX7_firstFrom_37 (lv_at hl 0 rfl) ?_
      refine lv_lconst (v := 0) hx hb dX7_firstFrom_39 (by decide) ?_
      refine W.lcmp hx hb dX7_firstFrom_40 ?_
      refine lv_if_eq (tgt := 62) hx hb dX7_firstFrom_41 (by decide) (fun hc => ?_) (fun hc => ?_)
      · rw [if_pos hc] at hf
        refine lv_ldc2 hx hb hown (hts _ tb_3_91) dX7_firstFrom_62 ?_
        refine lv_lstore_n (lv' := [(2, .long (-1)), (5, .long (v2 &&& x2)), (0, .ref (ad G x0)), (4, .int x4)]) hx hb dX7_firstFrom_65 rfl hl (by decide) rfl (fun ls hl => ?_)
        refine lv_iinc (v := x4 + 1) (lv' := [(4, .int (x4 + 1)), (2, .long (-1)), (5, .long (v2 &&& x2)), (0, .ref (ad G x0))]) hx hb dX7_firstFrom_66 hl (k := 3) rfl rfl (by decide) rfl (fun ls hl => ?_)
        refine lv_goto (tgt := 22) hx hb dX7_firstFrom_69 (by decide) ?_
        exact ih _ _ _ _ _ _ hP hS (lv_sub hl [3, 1, 0] rfl) hf
      · rw [if_neg hc] at hf
        refine lv_iload hx hb dX7_firstFrom_44 (lv_at hl 3 rfl) ?_
        refine lv_bipush (v := 64) hx hb dX7_firstFrom_46 (by decide) ?_
        refine lv_imul hx hb dX7_firstFrom_48 ?_
        refine lv_lload hx hb dX7_firstFrom_49 (lv_at hl 0 rfl) ?_
        refine lv_lload hx hb dX7_firstFrom_51 (lv_at hl 0 rfl) ?_
        refine lv_lneg hx hb dX7_firstFrom_53 ?_
        refine lv_land hx hb dX7_firstFrom_54 ?_
        refine lv_lconst (v := 1) hx hb dX7_firstFrom_55 (by decide) ?_
        refine lv_lsub hx hb dX7_firstFrom_56 ?_
        obtain ⟨v3, hv, hf⟩ := ob_some hf
        refine cI hS (runS hC hP hS (As := [.long (((v2 &&& x2) &&& (-(v2 &&& x2))) - 1)]) (rest := [.int (x4 * 64)]) (k_J13_bitCount_95d88 l G S (((v2 &&& x2) &&& (-(v2 &&& x2))) - 1) _ hv) vy_J13_bitCount_95d88 tb_3_92 tb_3_93 ⟨Nat.le_of_ble_eq_true rfl, Nat.le_of_ble_eq_true rfl⟩ rfl hl.1 rfl (Nat.le_of_ble_eq_true rfl) dX7_firstFrom_57) (fun H locs hP hS => ?_)
        refine lv_iadd hx hb dX7_firstFrom_60 ?_
        exact retI hQ hf hP hS dX7_firstFrom_61
def f_X7_firstFrom (S : ST) (x0 : Nat) (x1 : Int32) : Option Int32 := if 0 ≤ x1 then ((rm x1 64).bind fun v1 => (dv x1 64).bind fun v2 => f_X7_firstFrom_22 S FU x0 (sl64 (-1) v1) v2) else (some (-4))
set_option maxRecDepth 100000 in
set_option maxHeartbeats 4000000 in
theorem k_X7_firstFrom (l : Launch) (G : GT) (S : ST) (x0 : Nat) (x1 : Int32) (r : Int32) (hf : f_X7_firstFrom S x0 x1 = some r) : MI l yX7_firstFrom cX7_firstFrom 7 (some .int) 2 [.ref (ad G x0), .int x1] G S r S := by
  rw [f_X7_firstFrom] at hf
  refine mkI (own := RX7) (by decide +kernel) rfl rfl (Nat.le_of_ble_eq_true rfl) (fun p e s m args below meth c Q ls hC hP hS hl hQ => ?_)
  have hl : lv_has ls 7 [(0, .ref (ad G x0)), (1, .int x1)] := hl
  obtain ⟨hx, hb, hml, hown, hts⟩ := id hC.1
  refine lv_iload_n hx hb dX7_firstFrom_0 rfl (lv_at hl 1 rfl) ?_
  refine lv_if_ge (tgt := 7) hx hb dX7_firstFrom_1 (by decide) (fun hc => ?_) (fun hc => ?_)
  · rw [if_pos hc] at hf
    refine lv_ldc2 hx hb hown (hts _ tb_3_91) dX7_firstFrom_7 ?_
    refine lv_iload_n hx hb dX7_firstFrom_10 rfl (lv_at hl 1 rfl) ?_
    refine lv_bipush (v := 64) hx hb dX7_firstFrom_11 (by decide) ?_
    obtain ⟨v1, hv, hf⟩ := ob_some hf
    refine xRm hC hv dX7_firstFrom_13 ?_
    refine lv_lshl (v := (sl64 (-1) v1)) hx hb dX7_firstFrom_14 rfl ?_
    refine lv_lstore_n (lv' := [(2, .long (sl64 (-1) v1)), (0, .ref (ad G x0)), (1, .int x1)]) hx hb dX7_firstFrom_15 rfl hl (by decide) rfl (fun ls hl => ?_)
    refine lv_iload_n hx hb dX7_firstFrom_16 rfl (lv_at hl 2 rfl) ?_
    refine lv_bipush (v := 64) hx hb dX7_firstFrom_17 (by decide) ?_
    obtain ⟨v2, hv, hf⟩ := ob_some hf
    refine xDv hC hv dX7_firstFrom_19 ?_
    refine lv_istore (lv' := [(4, .int v2), (2, .long (sl64 (-1) v1)), (0, .ref (ad G x0)), (1, .int x1)]) hx hb dX7_firstFrom_20 hl (by decide) rfl (fun ls hl => ?_)
    exact w_X7_firstFrom_22 hC hQ _ _ _ _ _ _ _ hP hS (lv_sub hl [2, 1, 0] rfl) hf
  · rw [if_neg hc] at hf
    refine lv_bipush (v := (-4)) hx hb dX7_firstFrom_4 (by decide) ?_
    exact retI hQ hf hP hS dX7_firstFrom_6
def f_X2_quickest_29  : Nat → ST → Int32 → Int32 → Int32 → Option (Int32 × ST)
  | 0, _, _, _, _ => none
  | n + 1, S, x1, x2, x3 => if x2 ≤ x3 then ((rA 4 17 x2).bind fun v1 => (f_X7_firstFrom S v1 x1).bind fun v2 => if v2 = (-4) then (some ((-4), S)) else (some ((v2 - x1), S))) else ((f_X2_goOn S x3).bind fun S3 => f_X2_quickest_29 n S3 x1 x2 (x3 + 1))
set_option maxRecDepth 100000 in
set_option maxHeartbeats 4000000 in
theorem w_X2_quickest_29 {r : Int32} {S' : ST} (hC : Cx p m c s args cX2_quickest 4 RX2 G) (hQ : KI p l e (rmH 3) s m args below meth c Q cX2_quickest G r S') : ∀ (n : Nat) (S : ST) (x1 : Int32) (x2 : Int32) (x3 : Int32) (H : Heap) (locs : List Loc) (ls : Array Slot), va_P (gD G) vwCl (cells G S) H → va_S (gA G) s.heap H locs → lv_has ls 4 [(0, .ref (ad G 13)), (1, .int x1), (2, .int x2), (3, .int x3)] → f_X2_quickest_29 n S x1 x2 x3 = some (r, S') → W p l e (rmH 3) s m args below meth c H locs 0 0 Q (F0 m 29 ls []) := by
  obtain ⟨hx, hb, hml, hown, hts⟩ := id hC.1
  intro n
  induction n with
  | zero => intro S x1 x2 x3 H locs ls hP hS hl hf; rw [f_X2_quickest_29] at hf; cases hf
  | succ n ih =>
    intro S x1 x2 x3 H locs ls hP hS hl hf
    rw [f_X2_quickest_29] at hf
    refine lv_iload_n hx hb dX2_quickest_29 rfl (lv_at hl 3 rfl) ?_
    refine lv_iload_n hx hb dX2_quickest_30 rfl (lv_at hl 2 rfl) ?_
    refine lv_icmp_ge (tgt := 45) hx hb dX2_quickest_31 (by decide) (fun hc => ?_) (fun hc => ?_)
    · rw [if_pos hc] at hf
      refine lv_aload_n hx hb dX2_quickest_45 rfl (lv_at hl 0 rfl) ?_
      refine gFr hC hP (j := 5) sg_13 vc_2 iT2 (by decide) rfl tb_1_129 dX2_quickest_46 ?_
      refine lv_iload_n hx hb dX2_quickest_49 rfl (lv_at hl 2 rfl) ?_
      obtain ⟨v1, hv, hf⟩ := ob_some hf
      refine gAa4 hC hP hv dX2_quickest_50 ?_
      refine lv_iload_n hx hb dX2_quickest_51 rfl (lv_at hl 1 rfl) ?_
      obtain ⟨v2, hv, hf⟩ := ob_some hf
      refine cI hS (runSN hC hP hS (As := [.ref (ad G v1), .int x1]) (rest := []) (k_X7_firstFrom l G S v1 x1 _ hv) vy_X7_firstFrom nw_12 tb_3_89 ⟨Nat.le_of_ble_eq_true rfl, Nat.le_of_ble_eq_true rfl⟩ rfl hl.1 rfl (Nat.le_of_ble_eq_true rfl) dX2_quickest_52) (fun H locs hP hS => ?_)
      refine lv_istore_n (lv' := [(3, .int v2), (0, .ref (ad G 13)), (1, .int x1), (2, .int x2)]) hx hb dX2_quickest_55 rfl hl (by decide) rfl (fun ls hl => ?_)
      refine lv_iload_n hx hb dX2_quickest_56 rfl (lv_at hl 0 rfl) ?_
      refine lv_bipush (v := (-4)) hx hb dX2_quickest_57 (by decide) ?_
      refine lv_icmp_ne (tgt := 67) hx hb dX2_quickest_59 (by decide) (fun hc => ?_) (fun hc => ?_)
      · rw [if_neg hc] at hf
        refine lv_iload_n hx hb dX2_quickest_67 rfl (lv_at hl 0 rfl) ?_
        refine lv_iload_n hx hb dX2_quickest_68 rfl (lv_at hl 2 rfl) ?_
        refine lv_isub hx hb dX2_quickest_69 ?_
        exact retIw hQ hf hP hS dX2_quickest_70
      · rw [if_pos hc] at hf
        refine lv_bipush (v := (-4)) hx hb dX2_quickest_62 (by decide) ?_
        refine lv_goto (tgt := 70) hx hb dX2_quickest_64 (by decide) ?_
        exact retIw hQ hf hP hS dX2_quickest_70
    · rw [if_neg hc] at hf
      refine lv_aload_n hx hb dX2_quickest_34 rfl (lv_at hl 0 rfl) ?_
      refine lv_iload_n hx hb dX2_quickest_35 rfl (lv_at hl 3 rfl) ?_
      obtain ⟨S3, hv, hf⟩ := ob_some hf
      refine cV hS (runV hC hP hS (As := [.int x3]) (rest := []) (k_X2_goOn l G S x3 _ hv) vy_X2_goOn sg_13 vc_2 tb_3_78 tb_3_80 ts_15 ⟨Nat.le_of_ble_eq_true rfl, Nat.le_of_ble_eq_true rfl⟩ rfl hl.1 rfl (Nat.le_of_ble_eq_true rfl) dX2_quickest_36) (fun H locs hP hS => ?_)
      refine lv_iinc (v := x3 + 1) (lv' := [(3, .int (x3 + 1)), (0, .ref (ad G 13)), (1, .int x1), (2, .int x2)]) hx hb dX2_quickest_39 hl (k := 3) rfl rfl (by decide) rfl (fun ls hl => ?_)
      refine lv_goto (tgt := 29) hx hb dX2_quickest_42 (by decide) ?_
      exact ih _ _ _ _ _ _ _ hP hS (lv_sub hl [1, 2, 3, 0] rfl) hf
def f_X2_quickest (S : ST) (x1 : Int32) : Option (Int32 × ST) := (rA 4 17 0).bind fun v1 => (f_X2_wipe S v1).bind fun S2 => (rA 4 17 0).bind fun v3 => (f_X7_putBit S2 v3 x1).bind fun S4 => f_X2_quickest_29 FU S4 x1 (S.1 1 0) 0
set_option maxRecDepth 100000 in
set_option maxHeartbeats 4000000 in
theorem k_X2_quickest (l : Launch) (G : GT) (S : ST) (x1 : Int32) (r : Int32) (S' : ST) (hf : f_X2_quickest S x1 = some (r, S')) : MI l yX2_quickest cX2_quickest 4 (some .int) 3 [.ref (ad G 13), .int x1] G S r S' := by
  rw [f_X2_quickest] at hf
  refine mkI (own := RX2) (by decide +kernel) rfl rfl (Nat.le_of_ble_eq_true rfl) (fun p e s m args below meth c Q ls hC hP hS hl hQ => ?_)
  have hl : lv_has ls 4 [(0, .ref (ad G 13)), (1, .int x1)] := hl
  obtain ⟨hx, hb, hml, hown, hts⟩ := id hC.1
  refine lv_aload_n hx hb dX2_quickest_0 rfl (lv_at hl 0 rfl) ?_
  refine gFr hC hP (j := 0) sg_13 vc_2 iT2 (by decide) rfl tb_1_124 dX2_quickest_1 ?_
  refine gFi hC hP (j := 0) sg_1 vc_1 iT1 (by decide) rfl tb_1_30 dX2_quickest_4 ?_
  refine lv_istore_n (lv' := [(2, .int (S.1 1 0)), (0, .ref (ad G 13)), (1, .int x1)]) hx hb dX2_quickest_7 rfl hl (by decide) rfl (fun ls hl => ?_)
  refine lv_aload_n hx hb dX2_quickest_8 rfl (lv_at hl 1 rfl) ?_
  refine gFr hC hP (j := 5) sg_13 vc_2 iT2 (by decide) rfl tb_1_129 dX2_quickest_9 ?_
  refine lv_iconst (v := 0) hx hb dX2_quickest_12 (by decide) ?_
  obtain ⟨v1, hv, hf⟩ := ob_some hf
  refine gAa4 hC hP hv dX2_quickest_13 ?_
  obtain ⟨S2, hv, hf⟩ := ob_some hf
  refine cV hS (runS hC hP hS (As := [.ref (ad G v1)]) (rest := []) (k_X2_wipe l G S v1 _ hv) vy_X2_wipe tb_3_53 tb_3_54 ⟨Nat.le_of_ble_eq_true rfl, Nat.le_of_ble_eq_true rfl⟩ rfl hl.1 rfl (Nat.le_of_ble_eq_true rfl) dX2_quickest_14) (fun H locs hP hS => ?_)
  refine lv_aload_n hx hb dX2_quickest_17 rfl (lv_at hl 1 rfl) ?_
  refine gFr hC hP (j := 5) sg_13 vc_2 iT2 (by decide) rfl tb_1_129 dX2_quickest_18 ?_
  refine lv_iconst (v := 0) hx hb dX2_quickest_21 (by decide) ?_
  obtain ⟨v3, hv, hf⟩ := ob_some hf
  refine gAa4 hC hP hv dX2_quickest_22 ?_
  refine lv_iload_n hx hb dX2_quickest_23 rfl (lv_at hl 2 rfl) ?_
  obtain ⟨S4, hv, hf⟩ := ob_some hf
  refine cV hS (runSN hC hP hS (As := [.ref (ad G v3), .int x1]) (rest := []) (k_X7_putBit l G S2 v3 x1 _ hv) vy_X7_putBit nw_10 tb_3_59 ⟨Nat.le_of_ble_eq_true rfl, Nat.le_of_ble_eq_true rfl⟩ rfl hl.1 rfl (Nat.le_of_ble_eq_true rfl) dX2_quickest_24) (fun H locs hP hS => ?_)
  refine lv_iconst (v := 0) hx hb dX2_quickest_27 (by decide) ?_
  refine lv_istore_n (lv' := [(3, .int 0), (2, .int (S.1 1 0)), (0, .ref (ad G 13)), (1, .int x1)]) hx hb dX2_quickest_28 rfl hl (by decide) rfl (fun ls hl => ?_)
  exact w_X2_quickest_29 hC hQ _ _ _ _ _ _ _ _ hP hS (lv_sub hl [2, 3, 1, 0] rfl) hf
def f_X2_earlier_83 (S : ST)  (k6 : Int32 → Int32 → Int64 → Int64 → Int64 → Int32 → Option Int64) (x1 : Int32) (x2 : Int32) (x3 : Int64) (x5 : Int64) (x7 : Int64) (x9 : Int32) : Option Int64 := k6 x1 x2 x3 x5 x7 (x9 + 1)
set_option maxRecDepth 100000 in
set_option maxHeartbeats 4000000 in
theorem w_X2_earlier_83 {r : Int64} {S : ST} (hC : Cx p m c s args cX2_earlier 11 RX2 G) (hQ : KL p l e (rmH 1) s m args below meth c Q cX2_earlier G r S) {k6 : Int32 → Int32 → Int64 → Int64 → Int64 → Int32 → Option Int64} (hk6 : ∀ (x1 : Int32) (x2 : Int32) (x3 : Int64) (x5 : Int64) (x7 : Int64) (x9 : Int32) (H : Heap) (locs : List Loc) (ls : Array Slot), va_P (gD G) vwCl (cells G S) H → va_S (gA G) s.heap H locs → lv_has ls 11 [(0, .ref (ad G 13)), (1, .int x1), (2, .int x2), (3, .long x3), (5, .long x5), (7, .long x7), (9, .int x9)] → k6 x1 x2 x3 x5 x7 x9 = some r → W p l e (rmH 1) s m args below meth c H locs 0 0 Q (F0 m 6 ls [])) (x1 : Int32) (x2 : Int32) (x3 : Int64) (x5 : Int64) (x7 : Int64) (x9 : Int32) (H : Heap) (locs : List Loc) (ls : Array Slot) (hP : va_P (gD G) vwCl (cells G S) H) (hS : va_S (gA G) s.heap H locs) (hl : lv_has ls 11 [(0, .ref (ad G 13)), (1, .int x1), (2, .int x2), (3, .long x3), (5, .long x5), (7, .long x7), (9, .int x9)]) (hf : f_X2_earlier_83 S k6 x1 x2 x3 x5 x7 x9 = some r) : W p l e (rmH 1) s m args below meth c H locs 0 0 Q (F0 m 83 ls []) := by
  obtain ⟨hx, hb, hml, hown, hts⟩ := id hC.1
  rw [f_X2_earlier_83] at hf
  refine lv_iinc (v := x9 + 1) (lv' := [(9, .int (x9 + 1)), (0, .ref (ad G 13)), (1, .int x1), (2, .int x2), (3, .long x3), (5, .long x5), (7, .long x7)]) hx hb dX2_earlier_83 hl (k := 6) rfl rfl (by decide) rfl (fun ls hl => ?_)
  refine lv_goto (tgt := 6) hx hb dX2_earlier_86 (by decide) ?_
  exact hk6 _ _ _ _ _ _ _ _ _ hP hS (lv_sub hl [1, 2, 3, 4, 5, 6, 0] rfl) hf
def f_X2_earlier_6 (S : ST)  : Nat → Int32 → Int32 → Int64 → Int64 → Int64 → Int32 → Option Int64
  | 0, _, _, _, _, _, _ => none
  | n + 1, x1, x2, x3, x5, x7, x9 => if 11 ≤ x9 then (some x7) else (if (lg_cmp (x3 ||| x5) 0) = 0 then (some x7) else ((rI S 0 16 ((x1 * 11) + x9)).bind fun v1 => if 100 ≤ v1 then (f_X2_earlier_83 S (f_X2_earlier_6 S n) x1 x2 x3 x5 x7 x9) else ((rA 4 15 v1).bind fun v2 => (rL S v2 x2).bind fun v3 => (rS 1 x9).bind fun v4 => (rS 1 x9).bind fun v5 => f_X2_earlier_83 S (f_X2_earlier_6 S n) x1 x2 x3 x5 (x7 ||| (v3 &&& ((us64 x3 v4) ||| (sl64 x5 (64 - v5))))) x9)))
set_option maxRecDepth 100000 in
set_option maxHeartbeats 4000000 in
theorem w_X2_earlier_6 {r : Int64} {S : ST} (hC : Cx p m c s args cX2_earlier 11 RX2 G) (hQ : KL p l e (rmH 1) s m args below meth c Q cX2_earlier G r S) : ∀ (n : Nat) (x1 : Int32) (x2 : Int32) (x3 : Int64) (x5 : Int64) (x7 : Int64) (x9 : Int32) (H : Heap) (locs : List Loc) (ls : Array Slot), va_P (gD G) vwCl (cells G S) H → va_S (gA G) s.heap H locs → lv_has ls 11 [(0, .ref (ad G 13)), (1, .int x1), (2, .int x2), (3, .long x3), (5, .long x5), (7, .long x7), (9, .int x9)] → f_X2_earlier_6 S n x1 x2 x3 x5 x7 x9 = some r → W p l e (rmH 1) s m args below meth c H locs 0 0 Q (F0 m 6 ls []) := by
  obtain ⟨hx, hb, hml, hown, hts⟩ := id hC.1
  intro n
  induction n with
  | zero => intro x1 x2 x3 x5 x7 x9 H locs ls hP hS hl hf; rw [f_X2_earlier_6] at hf; cases hf
  | succ n ih =>
    intro x1 x2 x3 x5 x7 x9 H locs ls hP hS hl hf
    rw [f_X2_earlier_6] at hf
    refine lv_iload hx hb dX2_earlier_6 (lv_at hl 6 rfl) ?_
    refine gStN hC hS (j := 0) (by decide) nw_1 dX2_earlier_8 ?_
    refine gSn (x := 11) hC hS (by decide) rfl dX2_earlier_11 ?_
    refine lv_icmp_ge (tgt := 89) hx hb dX2_earlier_12 (by decide) (fun hc => ?_) (fun hc => ?_)
    · rw [if_pos hc] at hf
      refine lv_lload hx hb dX2_earlier_89 (lv_at hl 5 rfl) ?_
      exact retL hQ hf hP hS dX2_earlier_91
    · rw [if_neg hc] at hf
      refine lv_lload_n hx hb dX2_earlier_15 rfl (lv_at hl 3 rfl) ?_
      refine lv_lload hx hb dX2_earlier_16 (lv_at hl 4 rfl) ?_
      refine lv_lor hx hb dX2_earlier_18 ?_
      refine lv_lconst (v := 0) hx hb dX2_earlier_19 (by decide) ?_
      refine W.lcmp hx hb dX2_earlier_20 ?_
      refine lv_if_eq (tgt := 89) hx hb dX2_earlier_21 (by decide) (fun hc => ?_) (fun hc => ?_)
      · rw [if_pos hc] at hf
        refine lv_lload hx hb dX2_earlier_89 (lv_at hl 5 rfl) ?_
        exact retL hQ hf hP hS dX2_earlier_91
      · rw [if_neg hc] at hf
        refine lv_aload_n hx hb dX2_earlier_24 rfl (lv_at hl 0 rfl) ?_
        refine gFr hC hP (j := 4) sg_13 vc_2 iT2 (by decide) rfl tb_1_128 dX2_earlier_25 ?_
        refine lv_iload_n hx hb dX2_earlier_28 rfl (lv_at hl 1 rfl) ?_
        refine gStN hC hS (j := 0) (by decide) nw_1 dX2_earlier_29 ?_
        refine gSn (x := 11) hC hS (by decide) rfl dX2_earlier_32 ?_
        refine lv_imul hx hb dX2_earlier_33 ?_
        refine lv_iload hx hb dX2_earlier_34 (lv_at hl 6 rfl) ?_
        refine lv_iadd hx hb dX2_earlier_36 ?_
        obtain ⟨v1, hv, hf⟩ := ob_some hf
        refine gIa hC hP hv dX2_earlier_37 ?_
        refine lv_istore (lv' := [(10, .int v1), (0, .ref (ad G 13)), (1, .int x1), (2, .int x2), (3, .long x3), (5, .long x5), (7, .long x7), (9, .int x9)]) hx hb dX2_earlier_38 hl (by decide) rfl (fun ls hl => ?_)
        refine lv_iload hx hb dX2_earlier_40 (lv_at hl 0 rfl) ?_
        refine lv_bipush (v := 100) hx hb dX2_earlier_42 (by decide) ?_
        refine lv_icmp_ge (tgt := 83) hx hb dX2_earlier_44 (by decide) (fun hc => ?_) (fun hc => ?_)
        · rw [if_pos hc] at hf
          exact w_X2_earlier_83 hC hQ ih  _ _ _ _ _ _ _ _ _ hP hS (lv_sub hl [1, 2, 3, 4, 5, 6, 7] rfl) hf
        · rw [if_neg hc] at hf
          refine lv_lload hx hb dX2_earlier_47 (lv_at hl 6 rfl) ?_
          refine lv_aload_n hx hb dX2_earlier_49 rfl (lv_at hl 1 rfl) ?_
          refine gFr hC hP (j := 3) sg_13 vc_2 iT2 (by decide) rfl tb_1_127 dX2_earlier_50 ?_
          refine lv_iload hx hb dX2_earlier_53 (lv_at hl 0 rfl) ?_
          obtain ⟨v2, hv, hf⟩ := ob_some hf
          refine gAa4 hC hP hv dX2_earlier_55 ?_
          refine lv_iload_n hx hb dX2_earlier_56 rfl (lv_at hl 3 rfl) ?_
          obtain ⟨v3, hv, hf⟩ := ob_some hf
          refine gLa hC hP hv dX2_earlier_57 ?_
          refine lv_lload_n hx hb dX2_earlier_58 rfl (lv_at hl 4 rfl) ?_
          refine gStN hC hS (j := 1) (by decide) nw_11 dX2_earlier_59 ?_
          refine lv_iload hx hb dX2_earlier_62 (lv_at hl 7 rfl) ?_
          obtain ⟨v4, hv, hf⟩ := ob_some hf
          refine gSi hC hS (by decide) hv dX2_earlier_64 ?_
          refine lv_lushr (v := (us64 x3 v4)) hx hb dX2_earlier_65 rfl ?_
          refine lv_lload hx hb dX2_earlier_66 (lv_at hl 5 rfl) ?_
          refine lv_bipush (v := 64) hx hb dX2_earlier_68 (by decide) ?_
          refine gStN hC hS (j := 1) (by decide) nw_11 dX2_earlier_70 ?_
          refine lv_iload hx hb dX2_earlier_73 (lv_at hl 7 rfl) ?_
          obtain ⟨v5, hv, hf⟩ := ob_some hf
          refine gSi hC hS (by decide) hv dX2_earlier_75 ?_
          refine lv_isub hx hb dX2_earlier_76 ?_
          refine lv_lshl (v := (sl64 x5 (64 - v5))) hx hb dX2_earlier_77 rfl ?_
          refine lv_lor hx hb dX2_earlier_78 ?_
          refine lv_land hx hb dX2_earlier_79 ?_
          refine lv_lor hx hb dX2_earlier_80 ?_
          refine lv_lstore (lv' := [(7, .long (x7 ||| (v3 &&& ((us64 x3 v4) ||| (sl64 x5 (64 - v5)))))), (10, .int v1), (0, .ref (ad G 13)), (1, .int x1), (2, .int x2), (3, .long x3), (5, .long x5), (9, .int x9)]) hx hb dX2_earlier_81 hl (by decide) rfl (fun ls hl => ?_)
          exact w_X2_earlier_83 hC hQ ih  _ _ _ _ _ _ _ _ _ hP hS (lv_sub hl [2, 3, 4, 5, 6, 0, 7] rfl) hf
def f_X2_earlier (S : ST) (x1 : Int32) (x2 : Int32) (x3 : Int64) (x5 : Int64) : Option Int64 := f_X2_earlier_6 S FU x1 x2 x3 x5 0 0
set_option maxRecDepth 100000 in
set_option maxHeartbeats 4000000 in
theorem k_X2_earlier (l : Launch) (G : GT) (S : ST) (x1 : Int32) (x2 : Int32) (x3 : Int64) (x5 : Int64) (r : Int64) (hf : f_X2_earlier S x1 x2 x3 x5 = some r) : ML l yX2_earlier cX2_earlier 11 (some .long) 1 [.ref (ad G 13), .int x1, .int x2, .long x3, .long x5] G S r S := by
  rw [f_X2_earlier] at hf
  refine mkL (own := RX2) (by decide +kernel) rfl (Nat.le_of_ble_eq_true rfl) (fun p e s m args below meth c Q ls hC hP hS hl hQ => ?_)
  have hl : lv_has ls 11 [(0, .ref (ad G 13)), (1, .int x1), (2, .int x2), (3, .long x3), (5, .long x5)] := hl
  obtain ⟨hx, hb, hml, hown, hts⟩ := id hC.1
  refine lv_lconst (v := 0) hx hb dX2_earlier_0 (by decide) ?_
  refine lv_lstore (lv' := [(7, .long 0), (0, .ref (ad G 13)), (1, .int x1), (2, .int x2), (3, .long x3), (5, .long x5)]) hx hb dX2_earlier_1 hl (by decide) rfl (fun ls hl => ?_)
  refine lv_iconst (v := 0) hx hb dX2_earlier_3 (by decide) ?_
  refine lv_istore (lv' := [(9, .int 0), (7, .long 0), (0, .ref (ad G 13)), (1, .int x1), (2, .int x2), (3, .long x3), (5, .long x5)]) hx hb dX2_earlier_4 hl (by decide) rfl (fun ls hl => ?_)
  exact w_X2_earlier_6 hC hQ _ _ _ _ _ _ _ _ _ _ hP hS (lv_sub hl [2, 3, 4, 5, 6, 1, 0] rfl) hf
end
