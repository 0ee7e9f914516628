section
variable {p : Program} {l : Launch} {e : Env} {s : State} {m : MethodId} {args : Array Value} {below : List Frame} {meth : Method} {c : Code} {Q : State → Prop} {G : GT}

def f_X7_dredged_184  (k83 : ST → Int32 → Int32 → Int32 → Int32 → Int32 → Int32 → Option (Int32 × ST)) (S : ST) (x2 : Int32) (x3 : Int32) (x4 : Int32) (x5 : Int32) (x6 : Int32) (x7 : Int32) : Option (Int32 × ST) := k83 S x2 x3 x4 x5 x6 (x7 + 1)
set_option maxRecDepth 100000 in
set_option maxHeartbeats 4000000 in
theorem w_X7_dredged_184 {r : Int32} {S' : ST} (hC : Cx p m c s args cX7_dredged 9 RX7 G) (hQ : KI p l e (rmH 7) s m args below meth c Q cX7_dredged G r S') {k83 : ST → Int32 → Int32 → Int32 → Int32 → Int32 → Int32 → Option (Int32 × ST)} (hk83 : ∀ (S : ST) (x2 : Int32) (x3 : Int32) (x4 : Int32) (x5 : Int32) (x6 : Int32) (x7 : Int32) (H : Heap) (locs : List Loc) (ls : Array Slot), va_P (gD G) vwCl (cells G S) H → va_S (gA G) s.heap H locs → lv_has ls 9 [(0, .ref (ad G 0)), (2, .int x2), (3, .int x3), (4, .int x4), (5, .int x5), (6, .int x6), (7, .int x7)] → k83 S x2 x3 x4 x5 x6 x7 = some (r, S') → W p l e (rmH 7) s m args below meth c H locs 0 0 Q (F0 m 83 ls [])) (S : ST) (x2 : Int32) (x3 : Int32) (x4 : Int32) (x5 : Int32) (x6 : Int32) (x7 : Int32) (H : Heap) (locs : List Loc) (ls : Array Slot) (hP : va_P (gD G) vwCl (cells G S) H) (hS : va_S (gA G) s.heap H locs) (hl : lv_has ls 9 [(0, .ref (ad G 0)), (2, .int x2), (3, .int x3), (4, .int x4), (5, .int x5), (6, .int x6), (7, .int x7)]) (hf : f_X7_dredged_184 k83 S x2 x3 x4 x5 x6 x7 = some (r, S')) : W p l e (rmH 7) s m args below meth c H locs 0 0 Q (F0 m 184 ls []) := by
  obtain ⟨hx, hb, hml, hown, hts⟩ := id hC.1
  rw [f_X7_dredged_184] at hf
  refine lv_iinc (v := x7 + 1) (lv' := [(7, .int (x7 + 1)), (0, .ref (ad G 0)), (2, .int x2), (3, .int x3), (4, .int x4), (5, .int x5), (6, .int x6)]) hx hb dX7_dredged_184 hl (k := 6) rfl rfl (by decide) rfl (fun ls hl => ?_)
  refine lv_goto (tgt := 83) hx hb dX7_dredged_187 (by decide) ?_
  exact hk83 _ _ _ _ _ _ _ _ _ _ hP hS (lv_sub hl [1, 2, 3, 4, 5, 6, 0] rfl) hf
def f_X7_dredged_83  : Nat → ST → Int32 → Int32 → Int32 → Int32 → Int32 → Int32 → Option (Int32 × ST)
  | 0, _, _, _, _, _, _, _ => none
  | n + 1, S, x2, x3, x4, x5, x6, x7 => if (S.1 1 0) ≤ x7 then (if x3 = 0 then (some (x5, S)) else (some (x6, S))) else ((f_X1_markOf S x7 0).bind fun v1 => (rS 3 0).bind fun v2 => if v2 ≤ v1 then (f_X7_dredged_184 (f_X7_dredged_83 n) S x2 x3 x4 x5 x6 x7) else ((f_X2_ruleMile (sI S 11 7 x7) x7).bind fun S3 => b2 (f_X2_quickest S3 x2) fun v4 S5 => (f_X2_ruleMile (sI S5 11 7 (-1)) x7).bind fun S6 => if (x4 - v4) ≤ x6 then (f_X7_dredged_184 (f_X7_dredged_83 n) S6 x2 x3 x4 x5 x6 x7) else (f_X7_dredged_184 (f_X7_dredged_83 n) S6 x2 x3 x4 x7 (x4 - v4) x7)))
set_option maxRecDepth 100000 in
set_option maxHeartbeats 4000000 in
theorem w_X7_dredged_83 {r : Int32} {S' : ST} (hC : Cx p m c s args cX7_dredged 9 RX7 G) (hQ : KI p l e (rmH 7) s m args below meth c Q cX7_dredged G r S') : ∀ (n : Nat) (S : ST) (x2 : Int32) (x3 : Int32) (x4 : Int32) (x5 : Int32) (x6 : Int32) (x7 : Int32) (H : Heap) (locs : List Loc) (ls : Array Slot), va_P (gD G) vwCl (cells G S) H → va_S (gA G) s.heap H locs → lv_has ls 9 [(0, .ref (ad G 0)), (2, .int x2), (3, .int x3), (4, .int x4), (5, .int x5), (6, .int x6), (7, .int x7)] → f_X7_dredged_83 n S x2 x3 x4 x5 x6 x7 = some (r, S') → W p l e (rmH 7) s m args below meth c H locs 0 0 Q (F0 m 83 ls []) := by
  obtain ⟨hx, hb, hml, hown, hts⟩ := id hC.1
  intro n
  induction n with
  | zero => intro S x2 x3 x4 x5 x6 x7 H locs ls hP hS hl hf; rw [f_X7_dredged_83] at hf; cases hf
  | succ n ih =>
    intro S x2 x3 x4 x5 x6 x7 H locs ls hP hS hl hf
    rw [f_X7_dredged_83] at hf
    refine lv_iload hx hb dX7_dredged_83 (lv_at hl 6 rfl) ?_
    refine lv_aload_n hx hb dX7_dredged_85 rfl (lv_at hl 0 rfl) ?_
    refine gFr hC hP (j := 0) sg_0 vc_7 iT7 (by decide) rfl tb_1_212 dX7_dredged_86 ?_
    refine gFi hC hP (j := 0) sg_1 vc_1 iT1 (by decide) rfl tb_1_31 dX7_dredged_89 ?_
    refine lv_icmp_ge (tgt := 190) hx hb dX7_dredged_92 (by decide) (fun hc => ?_) (fun hc => ?_)
    · rw [if_pos hc] at hf
      refine lv_iload_n hx hb dX7_dredged_190 rfl (lv_at hl 2 rfl) ?_
      refine lv_if_ne (tgt := 199) hx hb dX7_dredged_191 (by decide) (fun hc => ?_) (fun hc => ?_)
      · rw [if_neg hc] at hf
        refine lv_iload hx hb dX7_dredged_199 (lv_at hl 5 rfl) ?_
        exact retIw hQ hf hP hS dX7_dredged_201
      · rw [if_pos hc] at hf
        refine lv_iload hx hb dX7_dredged_194 (lv_at hl 4 rfl) ?_
        refine lv_goto (tgt := 201) hx hb dX7_dredged_196 (by decide) ?_
        exact retIw hQ hf hP hS dX7_dredged_201
    · rw [if_neg hc] at hf
      refine lv_aload_n hx hb dX7_dredged_95 rfl (lv_at hl 0 rfl) ?_
      refine gFr hC hP (j := 0) sg_0 vc_7 iT7 (by decide) rfl tb_1_212 dX7_dredged_96 ?_
      refine lv_iload hx hb dX7_dredged_99 (lv_at hl 6 rfl) ?_
      refine lv_iconst (v := 0) hx hb dX7_dredged_101 (by decide) ?_
      obtain ⟨v1, hv, hf⟩ := ob_some hf
      refine cI hS (runV hC hP hS (As := [.int x7, .int 0]) (rest := []) (k_X1_markOf l G S x7 0 _ hv) vy_X1_markOf sg_1 vc_1 tb_2_42 tb_2_26 tb_2_27 ⟨Nat.le_of_ble_eq_true rfl, Nat.le_of_ble_eq_true rfl⟩ rfl hl.1 rfl (Nat.le_of_ble_eq_true rfl) dX7_dredged_102) (fun H locs hP hS => ?_)
      refine gSt hC hS (j := 3) (by decide) tb_2_12 dX7_dredged_105 ?_
      refine lv_iconst (v := 0) hx hb dX7_dredged_108 (by decide) ?_
      obtain ⟨v2, hv, hf⟩ := ob_some hf
      refine gSi hC hS (by decide) hv dX7_dredged_109 ?_
      refine lv_icmp_ge (tgt := 184) hx hb dX7_dredged_110 (by decide) (fun hc => ?_) (fun hc => ?_)
      · rw [if_pos hc] at hf
        exact w_X7_dredged_184 hC hQ ih  _ _ _ _ _ _ _ _ _ _ hP hS (lv_sub hl [0, 1, 2, 3, 4, 5, 6] rfl) hf
      · rw [if_neg hc] at hf
        refine lv_aload_n hx hb dX7_dredged_113 rfl (lv_at hl 0 rfl) ?_
        refine gFr hC hP (j := 2) sg_0 vc_7 iT7 (by decide) rfl tb_1_214 dX7_dredged_114 ?_
        refine lv_iload hx hb dX7_dredged_117 (lv_at hl 6 rfl) ?_
        refine pFi hC hP hS (j := 7) sg_11 vc_5 iT5 tyX5_ok nmX5 (by decide) rfl tb_1_74 rfl rfl rfl dX7_dredged_119 (fun H locs hP hS => ?_)
        refine lv_aload_n hx hb dX7_dredged_122 rfl (lv_at hl 0 rfl) ?_
        refine gFr hC hP (j := 4) sg_0 vc_7 iT7 (by decide) rfl tb_1_216 dX7_dredged_123 ?_
        refine lv_aload_n hx hb dX7_dredged_126 rfl (lv_at hl 0 rfl) ?_
        refine gFr hC hP (j := 2) sg_0 vc_7 iT7 (by decide) rfl tb_1_214 dX7_dredged_127 ?_
        refine lv_iload hx hb dX7_dredged_130 (lv_at hl 6 rfl) ?_
        obtain ⟨S3, hv, hf⟩ := ob_some hf
        refine cV hS (runV hC hP hS (As := [.ref (ad G 11), .int x7]) (rest := []) (k_X2_ruleMile l G (sI S 11 7 x7) x7 _ hv) vy_X2_ruleMile sg_13 vc_2 tb_3_210 tb_3_66 tb_3_67 ⟨Nat.le_of_ble_eq_true rfl, Nat.le_of_ble_eq_true rfl⟩ rfl hl.1 rfl (Nat.le_of_ble_eq_true rfl) dX7_dredged_132) (fun H locs hP hS => ?_)
        refine lv_iload hx hb dX7_dredged_135 (lv_at hl 3 rfl) ?_
        refine lv_aload_n hx hb dX7_dredged_137 rfl (lv_at hl 0 rfl) ?_
        refine gFr hC hP (j := 4) sg_0 vc_7 iT7 (by decide) rfl tb_1_216 dX7_dredged_138 ?_
        refine lv_iload_n hx hb dX7_dredged_141 rfl (lv_at hl 1 rfl) ?_
        obtain ⟨v4, S5, hv, hf⟩ := ob_two hf
        refine cI hS (runV hC hP hS (As := [.int x2]) (rest := [.int x4]) (k_X2_quickest l G S3 x2 _ _ hv) vy_X2_quickest sg_13 vc_2 tb_3_74 tb_3_75 tb_3_76 ⟨Nat.le_of_ble_eq_true rfl, Nat.le_of_ble_eq_true rfl⟩ rfl hl.1 rfl (Nat.le_of_ble_eq_true rfl) dX7_dredged_142) (fun H locs hP hS => ?_)
        refine lv_isub hx hb dX7_dredged_145 ?_
        refine lv_istore (lv' := [(8, .int (x4 - v4)), (0, .ref (ad G 0)), (2, .int x2), (3, .int x3), (4, .int x4), (5, .int x5), (6, .int x6), (7, .int x7)]) hx hb dX7_dredged_146 hl (by decide) rfl (fun ls hl => ?_)
        refine lv_aload_n hx hb dX7_dredged_148 rfl (lv_at hl 1 rfl) ?_
        refine gFr hC hP (j := 2) sg_0 vc_7 iT7 (by decide) rfl tb_1_214 dX7_dredged_149 ?_
        refine lv_iconst (v := (-1)) hx hb dX7_dredged_152 (by decide) ?_
        refine pFi hC hP hS (j := 7) sg_11 vc_5 iT5 tyX5_ok nmX5 (by decide) rfl tb_1_74 rfl rfl rfl dX7_dredged_153 (fun H locs hP hS => ?_)
        refine lv_aload_n hx hb dX7_dredged_156 rfl (lv_at hl 1 rfl) ?_
        refine gFr hC hP (j := 4) sg_0 vc_7 iT7 (by decide) rfl tb_1_216 dX7_dredged_157 ?_
        refine lv_aload_n hx hb dX7_dredged_160 rfl (lv_at hl 1 rfl) ?_
        refine gFr hC hP (j := 2) sg_0 vc_7 iT7 (by decide) rfl tb_1_214 dX7_dredged_161 ?_
        refine lv_iload hx hb dX7_dredged_164 (lv_at hl 7 rfl) ?_
        obtain ⟨S6, hv, hf⟩ := ob_some hf
        refine cV hS (runV hC hP hS (As := [.ref (ad G 11), .int x7]) (rest := []) (k_X2_ruleMile l G (sI S5 11 7 (-1)) x7 _ hv) vy_X2_ruleMile sg_13 vc_2 tb_3_210 tb_3_66 tb_3_67 ⟨Nat.le_of_ble_eq_true rfl, Nat.le_of_ble_eq_true rfl⟩ rfl hl.1 rfl (Nat.le_of_ble_eq_true rfl) dX7_dredged_166) (fun H locs hP hS => ?_)
        refine lv_iload hx hb dX7_dredged_169 (lv_at hl 0 rfl) ?_
        refine lv_iload hx hb dX7_dredged_171 (lv_at hl 6 rfl) ?_
        refine lv_icmp_le (tgt := 184) hx hb dX7_dredged_173 (by decide) (fun hc => ?_) (fun hc => ?_)
        · rw [if_pos hc] at hf
          exact w_X7_dredged_184 hC hQ ih  _ _ _ _ _ _ _ _ _ _ hP hS (lv_sub hl [1, 2, 3, 4, 5, 6, 7] rfl) hf
        · rw [if_neg hc] at hf
          refine lv_iload hx hb dX7_dredged_176 (lv_at hl 0 rfl) ?_
          refine lv_istore (lv' := [(6, .int (x4 - v4)), (8, .int (x4 - v4)), (0, .ref (ad G 0)), (2, .int x2), (3, .int x3), (4, .int x4), (5, .int x5), (7, .int x7)]) hx hb dX7_dredged_178 hl (by decide) rfl (fun ls hl => ?_)
          refine lv_iload hx hb dX7_dredged_180 (lv_at hl 7 rfl) ?_
          refine lv_istore (lv' := [(5, .int x7), (6, .int (x4 - v4)), (8, .int (x4 - v4)), (0, .ref (ad G 0)), (2, .int x2), (3, .int x3), (4, .int x4), (7, .int x7)]) hx hb dX7_dredged_182 hl (by decide) rfl (fun ls hl => ?_)
          exact w_X7_dredged_184 hC hQ ih  _ _ _ _ _ _ _ _ _ _ hP hS (lv_sub hl [3, 4, 5, 6, 0, 1, 7] rfl) hf
def f_X7_dredged (S : ST) (x1 : Int32) (x2 : Int32) (x3 : Int32) : Option (Int32 × ST) := (f_X7_isStart S x1 x2).bind fun v1 => if v1 = 0 then (some ((-1), S)) else ((f_X7_within x3 0 1).bind fun v2 => if v2 = 0 then (some ((-1), S)) else (if (S.1 1 0) = 0 then (some ((-2), S)) else ((f_X5_begin S x1).bind fun S3 => (f_X2_begin S3).bind fun S4 => b2 (f_X2_quickest S4 x2) fun v5 S6 => if v5 = (-4) then (some ((-4), S6)) else (f_X7_dredged_83 FU S6 x2 x3 v5 (-4) (-4) 0))))
set_option maxRecDepth 100000 in
set_option maxHeartbeats 4000000 in
theorem k_X7_dredged (l : Launch) (G : GT) (S : ST) (x1 : Int32) (x2 : Int32) (x3 : Int32) (r : Int32) (S' : ST) (hf : f_X7_dredged S x1 x2 x3 = some (r, S')) : MI l yX7_dredged cX7_dredged 9 (some .int) 7 [.ref (ad G 0), .int x1, .int x2, .int x3] G S r S' := by
  rw [f_X7_dredged] at hf
  refine mkI (own := RX7) (by decide +kernel) rfl rfl (Nat.le_of_ble_eq_true rfl) (fun p e s m args below meth c Q ls hC hP hS hl hQ => ?_)
  have hl : lv_has ls 9 [(0, .ref (ad G 0)), (1, .int x1), (2, .int x2), (3, .int x3)] := hl
  obtain ⟨hx, hb, hml, hown, hts⟩ := id hC.1
  refine lv_aload_n hx hb dX7_dredged_0 rfl (lv_at hl 0 rfl) ?_
  refine lv_iload_n hx hb dX7_dredged_1 rfl (lv_at hl 1 rfl) ?_
  refine lv_iload_n hx hb dX7_dredged_2 rfl (lv_at hl 2 rfl) ?_
  obtain ⟨v1, hv, hf⟩ := ob_some hf
  refine cI hS (runV hC hP hS (As := [.int x1, .int x2]) (rest := []) (k_X7_isStart l G S x1 x2 _ hv) vy_X7_isStart sg_0 vc_7 tb_3_11 tb_3_13 ts_12 ⟨Nat.le_of_ble_eq_true rfl, Nat.le_of_ble_eq_true rfl⟩ rfl hl.1 rfl (Nat.le_of_ble_eq_true rfl) dX7_dredged_3) (fun H locs hP hS => ?_)
  refine lv_if_eq (tgt := 18) hx hb dX7_dredged_6 (by decide) (fun hc => ?_) (fun hc => ?_)
  · rw [if_pos hc] at hf
    refine lv_iconst (v := (-1)) hx hb dX7_dredged_18 (by decide) ?_
    exact retIw hQ hf hP hS dX7_dredged_19
  · rw [if_neg hc] at hf
    refine lv_iload_n hx hb dX7_dredged_9 rfl (lv_at hl 3 rfl) ?_
    refine lv_iconst (v := 0) hx hb dX7_dredged_10 (by decide) ?_
    refine lv_iconst (v := 1) hx hb dX7_dredged_11 (by decide) ?_
    obtain ⟨v2, hv, hf⟩ := ob_some hf
    refine cI hS (runS hC hP hS (As := [.int x3, .int 0, .int 1]) (rest := []) (k_X7_within l G S x3 0 1 _ hv) vy_X7_within tb_2_14 tb_2_15 ⟨Nat.le_of_ble_eq_true rfl, Nat.le_of_ble_eq_true rfl⟩ rfl hl.1 rfl (Nat.le_of_ble_eq_true rfl) dX7_dredged_12) (fun H locs hP hS => ?_)
    refine lv_if_ne (tgt := 20) hx hb dX7_dredged_15 (by decide) (fun hc => ?_) (fun hc => ?_)
    · rw [if_neg hc] at hf
      refine lv_aload_n hx hb dX7_dredged_20 rfl (lv_at hl 0 rfl) ?_
      refine gFr hC hP (j := 0) sg_0 vc_7 iT7 (by decide) rfl tb_1_212 dX7_dredged_21 ?_
      refine gFi hC hP (j := 0) sg_1 vc_1 iT1 (by decide) rfl tb_1_31 dX7_dredged_24 ?_
      refine lv_if_ne (tgt := 33) hx hb dX7_dredged_27 (by decide) (fun hc => ?_) (fun hc => ?_)
      · rw [if_neg hc] at hf
        refine lv_aload_n hx hb dX7_dredged_33 rfl (lv_at hl 0 rfl) ?_
        refine gFr hC hP (j := 2) sg_0 vc_7 iT7 (by decide) rfl tb_1_214 dX7_dredged_34 ?_
        refine lv_iload_n hx hb dX7_dredged_37 rfl (lv_at hl 1 rfl) ?_
        obtain ⟨S3, hv, hf⟩ := ob_some hf
        refine cV hS (runV hC hP hS (As := [.int x1]) (rest := []) (k_X5_begin l G S x1 _ hv) vy_X5_begin sg_11 vc_5 tb_2_198 tb_2_199 tb_2_200 ⟨Nat.le_of_ble_eq_true rfl, Nat.le_of_ble_eq_true rfl⟩ rfl hl.1 rfl (Nat.le_of_ble_eq_true rfl) dX7_dredged_38) (fun H locs hP hS => ?_)
        refine lv_aload_n hx hb dX7_dredged_41 rfl (lv_at hl 0 rfl) ?_
        refine gFr hC hP (j := 4) sg_0 vc_7 iT7 (by decide) rfl tb_1_216 dX7_dredged_42 ?_
        refine lv_aload_n hx hb dX7_dredged_45 rfl (lv_at hl 0 rfl) ?_
        refine gFr hC hP (j := 2) sg_0 vc_7 iT7 (by decide) rfl tb_1_214 dX7_dredged_46 ?_
        obtain ⟨S4, hv, hf⟩ := ob_some hf
        refine cV hS (runV hC hP hS (As := [.ref (ad G 11)]) (rest := []) (k_X2_begin l G S3 _ hv) vy_X2_begin sg_13 vc_2 tb_3_40 tb_3_41 tb_3_42 ⟨Nat.le_of_ble_eq_true rfl, Nat.le_of_ble_eq_true rfl⟩ rfl hl.1 rfl (Nat.le_of_ble_eq_true rfl) dX7_dredged_49) (fun H locs hP hS => ?_)
        refine lv_aload_n hx hb dX7_dredged_52 rfl (lv_at hl 0 rfl) ?_
        refine gFr hC hP (j := 4) sg_0 vc_7 iT7 (by decide) rfl tb_1_216 dX7_dredged_53 ?_
        refine lv_iload_n hx hb dX7_dredged_56 rfl (lv_at hl 2 rfl) ?_
        obtain ⟨v5, S6, hv, hf⟩ := ob_two hf
        refine cI hS (runV hC hP hS (As := [.int x2]) (rest := []) (k_X2_quickest l G S4 x2 _ _ hv) vy_X2_quickest sg_13 vc_2 tb_3_74 tb_3_75 tb_3_76 ⟨Nat.le_of_ble_eq_true rfl, Nat.le_of_ble_eq_true rfl⟩ rfl hl.1 rfl (Nat.le_of_ble_eq_true rfl) dX7_dredged_57) (fun H locs hP hS => ?_)
        refine lv_istore (lv' := [(4, .int v5), (0, .ref (ad G 0)), (1, .int x1), (2, .int x2), (3, .int x3)]) hx hb dX7_dredged_60 hl (by decide) rfl (fun ls hl => ?_)
        refine lv_iload hx hb dX7_dredged_62 (lv_at hl 0 rfl) ?_
        refine lv_bipush (v := (-4)) hx hb dX7_dredged_64 (by decide) ?_
        refine lv_icmp_ne (tgt := 72) hx hb dX7_dredged_66 (by decide) (fun hc => ?_) (fun hc => ?_)
        · rw [if_neg hc] at hf
          refine lv_bipush (v := (-4)) hx hb dX7_dredged_72 (by decide) ?_
          refine lv_istore (lv' := [(5, .int (-4)), (4, .int v5), (0, .ref (ad G 0)), (1, .int x1), (2, .int x2), (3, .int x3)]) hx hb dX7_dredged_74 hl (by decide) rfl (fun ls hl => ?_)
          refine lv_bipush (v := (-4)) hx hb dX7_dredged_76 (by decide) ?_
          refine lv_istore (lv' := [(6, .int (-4)), (5, .int (-4)), (4, .int v5), (0, .ref (ad G 0)), (1, .int x1), (2, .int x2), (3, .int x3)]) hx hb dX7_dredged_78 hl (by decide) rfl (fun ls hl => ?_)
          refine lv_iconst (v := 0) hx hb dX7_dredged_80 (by decide) ?_
          refine lv_istore (lv' := [(7, .int 0), (6, .int (-4)), (5, .int (-4)), (4, .int v5), (0, .ref (ad G 0)), (1, .int x1), (2, .int x2), (3, .int x3)]) hx hb dX7_dredged_81 hl (by decide) rfl (fun ls hl => ?_)
          exact w_X7_dredged_83 hC hQ _ _ _ _ _ _ _ _ _ _ _ hP hS (lv_sub hl [4, 6, 7, 3, 2, 1, 0] rfl) hf
        · rw [if_pos hc] at hf
          refine lv_bipush (v := (-4)) hx hb dX7_dredged_69 (by decide) ?_
          exact retIw hQ hf hP hS dX7_dredged_71
      · rw [if_pos hc] at hf
        refine lv_bipush (v := (-2)) hx hb dX7_dredged_30 (by decide) ?_
        exact retIw hQ hf hP hS dX7_dredged_32
    · rw [if_pos hc] at hf
      refine lv_iconst (v := (-1)) hx hb dX7_dredged_18 (by decide) ?_
      exact retIw hQ hf hP hS dX7_dredged_19
def f_X7_lost (S : ST) (x1 : Int32) (x2 : Int32) (x3 : Int32) (x4 : Int32) : Option (Int32 × ST) := (f_X7_isStart S x1 x2).bind fun v1 => if v1 = 0 then (some ((-1), S)) else ((rS 4 3).bind fun v2 => (f_X7_within x3 0 v2).bind fun v3 => if v3 = 0 then (some ((-1), S)) else ((rS 4 4).bind fun v4 => (f_X7_within x4 0 v4).bind fun v5 => if v5 = 0 then (some ((-1), S)) else (if (S.1 1 0) = 0 then (some ((-2), S)) else ((f_X5_begin S x1).bind fun S6 => (f_X5_keepTo S6 x3 x4).bind fun S7 => (f_X2_begin S7).bind fun S8 => b2 (f_X2_quickest S8 x2) fun v9 S10 => (f_X5_keepTo S10 x3 0).bind fun S11 => (f_X2_rule S11).bind fun S12 => b2 (f_X2_quickest S12 x2) fun v13 S14 => if v9 = (-4) then (some ((-4), S14)) else (if v13 = (-4) then (some ((-4), S14)) else (some ((v9 - v13), S14)))))))
set_option maxRecDepth 100000 in
set_option maxHeartbeats 4000000 in
theorem k_X7_lost (l : Launch) (G : GT) (S : ST) (x1 : Int32) (x2 : Int32) (x3 : Int32) (x4 : Int32) (r : Int32) (S' : ST) (hf : f_X7_lost S x1 x2 x3 x4 = some (r, S')) : MI l yX7_lost cX7_lost 7 (some .int) 7 [.ref (ad G 0), .int x1, .int x2, .int x3, .int x4] G S r S' := by
  rw [f_X7_lost] at hf
  refine mkI (own := RX7) (by decide +kernel) rfl rfl (Nat.le_of_ble_eq_true rfl) (fun p e s m args below meth c Q ls hC hP hS hl hQ => ?_)
  have hl : lv_has ls 7 [(0, .ref (ad G 0)), (1, .int x1), (2, .int x2), (3, .int x3), (4, .int x4)] := hl
  obtain ⟨hx, hb, hml, hown, hts⟩ := id hC.1
  refine lv_aload_n hx hb dX7_lost_0 rfl (lv_at hl 0 rfl) ?_
  refine lv_iload_n hx hb dX7_lost_1 rfl (lv_at hl 1 rfl) ?_
  refine lv_iload_n hx hb dX7_lost_2 rfl (lv_at hl 2 rfl) ?_
  obtain ⟨v1, hv, hf⟩ := ob_some hf
  refine cI hS (runV hC hP hS (As := [.int x1, .int x2]) (rest := []) (k_X7_isStart l G S x1 x2 _ hv) vy_X7_isStart sg_0 vc_7 tb_3_11 tb_3_13 ts_12 ⟨Nat.le_of_ble_eq_true rfl, Nat.le_of_ble_eq_true rfl⟩ rfl hl.1 rfl (Nat.le_of_ble_eq_true rfl) dX7_lost_3) (fun H locs hP hS => ?_)
  refine lv_if_eq (tgt := 36) hx hb dX7_lost_6 (by decide) (fun hc => ?_) (fun hc => ?_)
  · rw [if_pos hc] at hf
    refine lv_iconst (v := (-1)) hx hb dX7_lost_36 (by decide) ?_
    exact retIw hQ hf hP hS dX7_lost_37
  · rw [if_neg hc] at hf
    refine lv_iload_n hx hb dX7_lost_9 rfl (lv_at hl 3 rfl) ?_
    refine lv_iconst (v := 0) hx hb dX7_lost_10 (by decide) ?_
    refine gSt hC hS (j := 4) (by decide) tb_2_51 dX7_lost_11 ?_
    refine lv_iconst (v := 3) hx hb dX7_lost_14 (by decide) ?_
    obtain ⟨v2, hv, hf⟩ := ob_some hf
    refine gSi hC hS (by decide) hv dX7_lost_15 ?_
    obtain ⟨v3, hv, hf⟩ := ob_some hf
    refine cI hS (runS hC hP hS (As := [.int x3, .int 0, .int v2]) (rest := []) (k_X7_within l G S x3 0 v2 _ hv) vy_X7_within tb_2_14 tb_2_15 ⟨Nat.le_of_ble_eq_true rfl, Nat.le_of_ble_eq_true rfl⟩ rfl hl.1 rfl (Nat.le_of_ble_eq_true rfl) dX7_lost_16) (fun H locs hP hS => ?_)
    refine lv_if_eq (tgt := 36) hx hb dX7_lost_19 (by decide) (fun hc => ?_) (fun hc => ?_)
    · rw [if_pos hc] at hf
      refine lv_iconst (v := (-1)) hx hb dX7_lost_36 (by decide) ?_
      exact retIw hQ hf hP hS dX7_lost_37
    · rw [if_neg hc] at hf
      refine lv_iload hx hb dX7_lost_22 (lv_at hl 4 rfl) ?_
      refine lv_iconst (v := 0) hx hb dX7_lost_24 (by decide) ?_
      refine gSt hC hS (j := 4) (by decide) tb_2_51 dX7_lost_25 ?_
      refine lv_iconst (v := 4) hx hb dX7_lost_28 (by decide) ?_
      obtain ⟨v4, hv, hf⟩ := ob_some hf
      refine gSi hC hS (by decide) hv dX7_lost_29 ?_
      obtain ⟨v5, hv, hf⟩ := ob_some hf
      refine cI hS (runS hC hP hS (As := [.int x4, .int 0, .int v4]) (rest := []) (k_X7_within l G S x4 0 v4 _ hv) vy_X7_within tb_2_14 tb_2_15 ⟨Nat.le_of_ble_eq_true rfl, Nat.le_of_ble_eq_true rfl⟩ rfl hl.1 rfl (Nat.le_of_ble_eq_true rfl) dX7_lost_30) (fun H locs hP hS => ?_)
      refine lv_if_ne (tgt := 38) hx hb dX7_lost_33 (by decide) (fun hc => ?_) (fun hc => ?_)
      · rw [if_neg hc] at hf
        refine lv_aload_n hx hb dX7_lost_38 rfl (lv_at hl 0 rfl) ?_
        refine gFr hC hP (j := 0) sg_0 vc_7 iT7 (by decide) rfl tb_1_212 dX7_lost_39 ?_
        refine gFi hC hP (j := 0) sg_1 vc_1 iT1 (by decide) rfl tb_1_31 dX7_lost_42 ?_
        refine lv_if_ne (tgt := 51) hx hb dX7_lost_45 (by decide) (fun hc => ?_) (fun hc => ?_)
        · rw [if_neg hc] at hf
          refine lv_aload_n hx hb dX7_lost_51 rfl (lv_at hl 0 rfl) ?_
          refine gFr hC hP (j := 2) sg_0 vc_7 iT7 (by decide) rfl tb_1_214 dX7_lost_52 ?_
          refine lv_iload_n hx hb dX7_lost_55 rfl (lv_at hl 1 rfl) ?_
          obtain ⟨S6, hv, hf⟩ := ob_some hf
          refine cV hS (runV hC hP hS (As := [.int x1]) (rest := []) (k_X5_begin l G S x1 _ hv) vy_X5_begin sg_11 vc_5 tb_2_198 tb_2_199 tb_2_200 ⟨Nat.le_of_ble_eq_true rfl, Nat.le_of_ble_eq_true rfl⟩ rfl hl.1 rfl (Nat.le_of_ble_eq_true rfl) dX7_lost_56) (fun H locs hP hS => ?_)
          refine lv_aload_n hx hb dX7_lost_59 rfl (lv_at hl 0 rfl) ?_
          refine gFr hC hP (j := 2) sg_0 vc_7 iT7 (by decide) rfl tb_1_214 dX7_lost_60 ?_
          refine lv_iload_n hx hb dX7_lost_63 rfl (lv_at hl 3 rfl) ?_
          refine lv_iload hx hb dX7_lost_64 (lv_at hl 4 rfl) ?_
          obtain ⟨S7, hv, hf⟩ := ob_some hf
          refine cV hS (runV hC hP hS (As := [.int x3, .int x4]) (rest := []) (k_X5_keepTo l G S6 x3 x4 _ hv) vy_X5_keepTo sg_11 vc_5 tb_3_215 tb_2_207 tb_2_208 ⟨Nat.le_of_ble_eq_true rfl, Nat.le_of_ble_eq_true rfl⟩ rfl hl.1 rfl (Nat.le_of_ble_eq_true rfl) dX7_lost_66) (fun H locs hP hS => ?_)
          refine lv_aload_n hx hb dX7_lost_69 rfl (lv_at hl 0 rfl) ?_
          refine gFr hC hP (j := 4) sg_0 vc_7 iT7 (by decide) rfl tb_1_216 dX7_lost_70 ?_
          refine lv_aload_n hx hb dX7_lost_73 rfl (lv_at hl 0 rfl) ?_
          refine gFr hC hP (j := 2) sg_0 vc_7 iT7 (by decide) rfl tb_1_214 dX7_lost_74 ?_
          obtain ⟨S8, hv, hf⟩ := ob_some hf
          refine cV hS (runV hC hP hS (As := [.ref (ad G 11)]) (rest := []) (k_X2_begin l G S7 _ hv) vy_X2_begin sg_13 vc_2 tb_3_40 tb_3_41 tb_3_42 ⟨Nat.le_of_ble_eq_true rfl, Nat.le_of_ble_eq_true rfl⟩ rfl hl.1 rfl (Nat.le_of_ble_eq_true rfl) dX7_lost_77) (fun H locs hP hS => ?_)
          refine lv_aload_n hx hb dX7_lost_80 rfl (lv_at hl 0 rfl) ?_
          refine gFr hC hP (j := 4) sg_0 vc_7 iT7 (by decide) rfl tb_1_216 dX7_lost_81 ?_
          refine lv_iload_n hx hb dX7_lost_84 rfl (lv_at hl 2 rfl) ?_
          obtain ⟨v9, S10, hv, hf⟩ := ob_two hf
          refine cI hS (runV hC hP hS (As := [.int x2]) (rest := []) (k_X2_quickest l G S8 x2 _ _ hv) vy_X2_quickest sg_13 vc_2 tb_3_74 tb_3_75 tb_3_76 ⟨Nat.le_of_ble_eq_true rfl, Nat.le_of_ble_eq_true rfl⟩ rfl hl.1 rfl (Nat.le_of_ble_eq_true rfl) dX7_lost_85) (fun H locs hP hS => ?_)
          refine lv_istore (lv' := [(5, .int v9), (0, .ref (ad G 0)), (1, .int x1), (2, .int x2), (3, .int x3), (4, .int x4)]) hx hb dX7_lost_88 hl (by decide) rfl (fun ls hl => ?_)
          refine lv_aload_n hx hb dX7_lost_90 rfl (lv_at hl 1 rfl) ?_
          refine gFr hC hP (j := 2) sg_0 vc_7 iT7 (by decide) rfl tb_1_214 dX7_lost_91 ?_
          refine lv_iload_n hx hb dX7_lost_94 rfl (lv_at hl 4 rfl) ?_
          refine lv_iconst (v := 0) hx hb dX7_lost_95 (by decide) ?_
          obtain ⟨S11, hv, hf⟩ := ob_some hf
          refine cV hS (runV hC hP hS (As := [.int x3, .int 0]) (rest := []) (k_X5_keepTo l G S10 x3 0 _ hv) vy_X5_keepTo sg_11 vc_5 tb_3_215 tb_2_207 tb_2_208 ⟨Nat.le_of_ble_eq_true rfl, Nat.le_of_ble_eq_true rfl⟩ rfl hl.1 rfl (Nat.le_of_ble_eq_true rfl) dX7_lost_96) (fun H locs hP hS => ?_)
          refine lv_aload_n hx hb dX7_lost_99 rfl (lv_at hl 1 rfl) ?_
          refine gFr hC hP (j := 4) sg_0 vc_7 iT7 (by decide) rfl tb_1_216 dX7_lost_100 ?_
          refine lv_aload_n hx hb dX7_lost_103 rfl (lv_at hl 1 rfl) ?_
          refine gFr hC hP (j := 2) sg_0 vc_7 iT7 (by decide) rfl tb_1_214 dX7_lost_104 ?_
          obtain ⟨S12, hv, hf⟩ := ob_some hf
          refine cV hS (runV hC hP hS (As := [.ref (ad G 11)]) (rest := []) (k_X2_rule l G S11 _ hv) vy_X2_rule sg_13 vc_2 tb_3_146 tb_3_62 tb_3_63 ⟨Nat.le_of_ble_eq_true rfl, Nat.le_of_ble_eq_true rfl⟩ rfl hl.1 rfl (Nat.le_of_ble_eq_true rfl) dX7_lost_107) (fun H locs hP hS => ?_)
          refine lv_aload_n hx hb dX7_lost_110 rfl (lv_at hl 1 rfl) ?_
          refine gFr hC hP (j := 4) sg_0 vc_7 iT7 (by decide) rfl tb_1_216 dX7_lost_111 ?_
          refine lv_iload_n hx hb dX7_lost_114 rfl (lv_at hl 3 rfl) ?_
          obtain ⟨v13, S14, hv, hf⟩ := ob_two hf
          refine cI hS (runV hC hP hS (As := [.int x2]) (rest := []) (k_X2_quickest l G S12 x2 _ _ hv) vy_X2_quickest sg_13 vc_2 tb_3_74 tb_3_75 tb_3_76 ⟨Nat.le_of_ble_eq_true rfl, Nat.le_of_ble_eq_true rfl⟩ rfl hl.1 rfl (Nat.le_of_ble_eq_true rfl) dX7_lost_115) (fun H locs hP hS => ?_)
          refine lv_istore (lv' := [(6, .int v13), (5, .int v9), (0, .ref (ad G 0)), (1, .int x1), (2, .int x2), (3, .int x3), (4, .int x4)]) hx hb dX7_lost_118 hl (by decide) rfl (fun ls hl => ?_)
          refine lv_iload hx hb dX7_lost_120 (lv_at hl 1 rfl) ?_
          refine lv_bipush (v := (-4)) hx hb dX7_lost_122 (by decide) ?_
          refine lv_icmp_eq (tgt := 134) hx hb dX7_lost_124 (by decide) (fun hc => ?_) (fun hc => ?_)
          · rw [if_pos hc] at hf
            refine lv_bipush (v := (-4)) hx hb dX7_lost_134 (by decide) ?_
            refine lv_goto (tgt := 144) hx hb dX7_lost_136 (by decide) ?_
            exact retIw hQ hf hP hS dX7_lost_144
          · rw [if_neg hc] at hf
            refine lv_iload hx hb dX7_lost_127 (lv_at hl 0 rfl) ?_
            refine lv_bipush (v := (-4)) hx hb dX7_lost_129 (by decide) ?_
            refine lv_icmp_ne (tgt := 139) hx hb dX7_lost_131 (by decide) (fun hc => ?_) (fun hc => ?_)
            · rw [if_neg hc] at hf
              refine lv_iload hx hb dX7_lost_139 (lv_at hl 1 rfl) ?_
              refine lv_iload hx hb dX7_lost_141 (lv_at hl 0 rfl) ?_
              refine lv_isub hx hb dX7_lost_143 ?_
              exact retIw hQ hf hP hS dX7_lost_144
            · rw [if_pos hc] at hf
              refine lv_bipush (v := (-4)) hx hb dX7_lost_134 (by decide) ?_
              refine lv_goto (tgt := 144) hx hb dX7_lost_136 (by decide) ?_
              exact retIw hQ hf hP hS dX7_lost_144
        · rw [if_pos hc] at hf
          refine lv_bipush (v := (-2)) hx hb dX7_lost_48 (by decide) ?_
          exact retIw hQ hf hP hS dX7_lost_50
      · rw [if_pos hc] at hf
        refine lv_iconst (v := (-1)) hx hb dX7_lost_36 (by decide) ?_
        exact retIw hQ hf hP hS dX7_lost_37
def f_X7_touched_83  (k32 : ST → Int32 → Int32 → Int32 → Int32 → Option (Int32 × ST)) (S : ST) (x2 : Int32) (x3 : Int32) (x5 : Int32) (x6 : Int32) : Option (Int32 × ST) := k32 S x2 x3 x5 (x6 + 1)
set_option maxRecDepth 100000 in
set_option maxHeartbeats 4000000 in
theorem w_X7_touched_83 {r : Int32} {S' : ST} (hC : Cx p m c s args cX7_touched 7 RX7 G) (hQ : KI p l e (rmH 5) s m args below meth c Q cX7_touched G r S') {k32 : ST → Int32 → Int32 → Int32 → Int32 → Option (Int32 × ST)} (hk32 : ∀ (S : ST) (x2 : Int32) (x3 : Int32) (x5 : Int32) (x6 : Int32) (H : Heap) (locs : List Loc) (ls : Array Slot), va_P (gD G) vwCl (cells G S) H → va_S (gA G) s.heap H locs → lv_has ls 7 [(0, .ref (ad G 0)), (2, .int x2), (3, .int x3), (5, .int x5), (6, .int x6)] → k32 S x2 x3 x5 x6 = some (r, S') → W p l e (rmH 5) s m args below meth c H locs 0 0 Q (F0 m 32 ls [])) (S : ST) (x2 : Int32) (x3 : Int32) (x5 : Int32) (x6 : Int32) (H : Heap) (locs : List Loc) (ls : Array Slot) (hP : va_P (gD G) vwCl (cells G S) H) (hS : va_S (gA G) s.heap H locs) (hl : lv_has ls 7 [(0, .ref (ad G 0)), (2, .int x2), (3, .int x3), (5, .int x5), (6, .int x6)]) (hf : f_X7_touched_83 k32 S x2 x3 x5 x6 = some (r, S')) : W p l e (rmH 5) s m args below meth c H locs 0 0 Q (F0 m 83 ls []) := by
  obtain ⟨hx, hb, hml, hown, hts⟩ := id hC.1
  rw [f_X7_touched_83] at hf
  refine lv_iinc (v := x6 + 1) (lv' := [(6, .int (x6 + 1)), (0, .ref (ad G 0)), (2, .int x2), (3, .int x3), (5, .int x5)]) hx hb dX7_touched_83 hl (k := 4) rfl rfl (by decide) rfl (fun ls hl => ?_)
  refine lv_goto (tgt := 32) hx hb dX7_touched_86 (by decide) ?_
  exact hk32 _ _ _ _ _ _ _ _ hP hS (lv_sub hl [1, 2, 3, 4, 0] rfl) hf
def f_X7_touched_32  : Nat → ST → Int32 → Int32 → Int32 → Int32 → Option (Int32 × ST)
  | 0, _, _, _, _, _ => none
  | n + 1, S, x2, x3, x5, x6 => (rS 4 1).bind fun v1 => if v1 < x6 then (some (x5, S)) else ((f_X6_sail (sI S 11 5 x6) x2).bind fun S2 => if (S2.1 12 1) = x3 then (f_X7_touched_83 (f_X7_touched_32 n) S2 x2 x3 (x5 ||| (1 <<< (x6 &&& 31))) x6) else (f_X7_touched_83 (f_X7_touched_32 n) S2 x2 x3 x5 x6))
set_option maxRecDepth 100000 in
set_option maxHeartbeats 4000000 in
theorem w_X7_touched_32 {r : Int32} {S' : ST} (hC : Cx p m c s args cX7_touched 7 RX7 G) (hQ : KI p l e (rmH 5) s m args below meth c Q cX7_touched G r S') : ∀ (n : Nat) (S : ST) (x2 : Int32) (x3 : Int32) (x5 : Int32) (x6 : Int32) (H : Heap) (locs : List Loc) (ls : Array Slot), va_P (gD G) vwCl (cells G S) H → va_S (gA G) s.heap H locs → lv_has ls 7 [(0, .ref (ad G 0)), (2, .int x2), (3, .int x3), (5, .int x5), (6, .int x6)] → f_X7_touched_32 n S x2 x3 x5 x6 = some (r, S') → W p l e (rmH 5) s m args below meth c H locs 0 0 Q (F0 m 32 ls []) := by
  obtain ⟨hx, hb, hml, hown, hts⟩ := id hC.1
  intro n
  induction n with
  | zero => intro S x2 x3 x5 x6 H locs ls hP hS hl hf; rw [f_X7_touched_32] at hf; cases hf
  | succ n ih =>
    intro S x2 x3 x5 x6 H locs ls hP hS hl hf
    rw [f_X7_touched_32] at hf
    refine lv_iload hx hb dX7_touched_32 (lv_at hl 4 rfl) ?_
    refine gSt hC hS (j := 4) (by decide) tb_2_51 dX7_touched_34 ?_
    refine lv_iconst (v := 1) hx hb dX7_touched_37 (by decide) ?_
    obtain ⟨v1, hv, hf⟩ := ob_some hf
    refine gSi hC hS (by decide) hv dX7_touched_38 ?_
    refine lv_icmp_gt (tgt := 89) hx hb dX7_touched_39 (by decide) (fun hc => ?_) (fun hc => ?_)
    · rw [if_pos hc] at hf
      refine lv_iload hx hb dX7_touched_89 (lv_at hl 3 rfl) ?_
      exact retIw hQ hf hP hS dX7_touched_91
    · rw [if_neg hc] at hf
      refine lv_aload_n hx hb dX7_touched_42 rfl (lv_at hl 0 rfl) ?_
      refine gFr hC hP (j := 2) sg_0 vc_7 iT7 (by decide) rfl tb_1_214 dX7_touched_43 ?_
      refine lv_iload hx hb dX7_touched_46 (lv_at hl 4 rfl) ?_
      refine pFi hC hP hS (j := 5) sg_11 vc_5 iT5 tyX5_ok nmX5 (by decide) rfl tb_1_69 rfl rfl rfl dX7_touched_48 (fun H locs hP hS => ?_)
      refine lv_aload_n hx hb dX7_touched_51 rfl (lv_at hl 0 rfl) ?_
      refine gFr hC hP (j := 3) sg_0 vc_7 iT7 (by decide) rfl tb_1_215 dX7_touched_52 ?_
      refine lv_aload_n hx hb dX7_touched_55 rfl (lv_at hl 0 rfl) ?_
      refine gFr hC hP (j := 2) sg_0 vc_7 iT7 (by decide) rfl tb_1_214 dX7_touched_56 ?_
      refine lv_iload_n hx hb dX7_touched_59 rfl (lv_at hl 1 rfl) ?_
      obtain ⟨S2, hv, hf⟩ := ob_some hf
      refine cV hS (runV hC hP hS (As := [.ref (ad G 11), .int x2]) (rest := []) (k_X6_sail l G (sI S 11 5 x6) x2 _ hv) vy_X6_sail sg_12 vc_6 tb_3_18 tb_3_19 tb_3_20 ⟨Nat.le_of_ble_eq_true rfl, Nat.le_of_ble_eq_true rfl⟩ rfl hl.1 rfl (Nat.le_of_ble_eq_true rfl) dX7_touched_60) (fun H locs hP hS => ?_)
      refine lv_aload_n hx hb dX7_touched_63 rfl (lv_at hl 0 rfl) ?_
      refine gFr hC hP (j := 3) sg_0 vc_7 iT7 (by decide) rfl tb_1_215 dX7_touched_64 ?_
      refine gFi hC hP (j := 1) sg_12 vc_6 iT6 (by decide) rfl tb_1_100 dX7_touched_67 ?_
      refine lv_iload_n hx hb dX7_touched_70 rfl (lv_at hl 2 rfl) ?_
      refine lv_icmp_ne (tgt := 83) hx hb dX7_touched_71 (by decide) (fun hc => ?_) (fun hc => ?_)
      · rw [if_neg hc] at hf
        exact w_X7_touched_83 hC hQ ih  _ _ _ _ _ _ _ _ hP hS (lv_sub hl [0, 1, 2, 3, 4] rfl) hf
      · rw [if_pos hc] at hf
        refine lv_iload hx hb dX7_touched_74 (lv_at hl 3 rfl) ?_
        refine lv_iconst (v := 1) hx hb dX7_touched_76 (by decide) ?_
        refine lv_iload hx hb dX7_touched_77 (lv_at hl 4 rfl) ?_
        refine lv_ishl hx hb dX7_touched_79 ?_
        refine lv_ior hx hb dX7_touched_80 ?_
        refine lv_istore (lv' := [(5, .int (x5 ||| (1 <<< (x6 &&& 31)))), (0, .ref (ad G 0)), (2, .int x2), (3, .int x3), (6, .int x6)]) hx hb dX7_touched_81 hl (by decide) rfl (fun ls hl => ?_)
        exact w_X7_touched_83 hC hQ ih  _ _ _ _ _ _ _ _ hP hS (lv_sub hl [1, 2, 3, 0, 4] rfl) hf
def f_X7_touched (S : ST) (x1 : Int32) (x2 : Int32) (x3 : Int32) : Option (Int32 × ST) := (f_X7_refusalAt S x1 x2 x3 0).bind fun v1 => if v1 = 0 then ((f_X5_begin S x1).bind fun S2 => f_X7_touched_32 FU S2 x2 x3 0 0) else (some (v1, S))
set_option maxRecDepth 100000 in
set_option maxHeartbeats 4000000 in
theorem k_X7_touched (l : Launch) (G : GT) (S : ST) (x1 : Int32) (x2 : Int32) (x3 : Int32) (r : Int32) (S' : ST) (hf : f_X7_touched S x1 x2 x3 = some (r, S')) : MI l yX7_touched cX7_touched 7 (some .int) 5 [.ref (ad G 0), .int x1, .int x2, .int x3] G S r S' := by
  rw [f_X7_touched] at hf
  refine mkI (own := RX7) (by decide +kernel) rfl rfl (Nat.le_of_ble_eq_true rfl) (fun p e s m args below meth c Q ls hC hP hS hl hQ => ?_)
  have hl : lv_has ls 7 [(0, .ref (ad G 0)), (1, .int x1), (2, .int x2), (3, .int x3)] := hl
  obtain ⟨hx, hb, hml, hown, hts⟩ := id hC.1
  refine lv_aload_n hx hb dX7_touched_0 rfl (lv_at hl 0 rfl) ?_
  refine lv_iload_n hx hb dX7_touched_1 rfl (lv_at hl 1 rfl) ?_
  refine lv_iload_n hx hb dX7_touched_2 rfl (lv_at hl 2 rfl) ?_
  refine lv_iload_n hx hb dX7_touched_3 rfl (lv_at hl 3 rfl) ?_
  refine lv_iconst (v := 0) hx hb dX7_touched_4 (by decide) ?_
  obtain ⟨v1, hv, hf⟩ := ob_some hf
  refine cI hS (runV hC hP hS (As := [.int x1, .int x2, .int x3, .int 0]) (rest := []) (k_X7_refusalAt l G S x1 x2 x3 0 _ hv) vy_X7_refusalAt sg_0 vc_7 tb_3_36 tb_3_38 ts_13 ⟨Nat.le_of_ble_eq_true rfl, Nat.le_of_ble_eq_true rfl⟩ rfl hl.1 rfl (Nat.le_of_ble_eq_true rfl) dX7_touched_5) (fun H locs hP hS => ?_)
  refine lv_istore (lv' := [(4, .int v1), (0, .ref (ad G 0)), (1, .int x1), (2, .int x2), (3, .int x3)]) hx hb dX7_touched_8 hl (by decide) rfl (fun ls hl => ?_)
  refine lv_iload hx hb dX7_touched_10 (lv_at hl 0 rfl) ?_
  refine lv_if_eq (tgt := 18) hx hb dX7_touched_12 (by decide) (fun hc => ?_) (fun hc => ?_)
  · rw [if_pos hc] at hf
    refine lv_aload_n hx hb dX7_touched_18 rfl (lv_at hl 1 rfl) ?_
    refine gFr hC hP (j := 2) sg_0 vc_7 iT7 (by decide) rfl tb_1_214 dX7_touched_19 ?_
    refine lv_iload_n hx hb dX7_touched_22 rfl (lv_at hl 2 rfl) ?_
    obtain ⟨S2, hv, hf⟩ := ob_some hf
    refine cV hS (runV hC hP hS (As := [.int x1]) (rest := []) (k_X5_begin l G S x1 _ hv) vy_X5_begin sg_11 vc_5 tb_2_198 tb_2_199 tb_2_200 ⟨Nat.le_of_ble_eq_true rfl, Nat.le_of_ble_eq_true rfl⟩ rfl hl.1 rfl (Nat.le_of_ble_eq_true rfl) dX7_touched_23) (fun H locs hP hS => ?_)
    refine lv_iconst (v := 0) hx hb dX7_touched_26 (by decide) ?_
    refine lv_istore (lv' := [(5, .int 0), (4, .int v1), (0, .ref (ad G 0)), (1, .int x1), (2, .int x2), (3, .int x3)]) hx hb dX7_touched_27 hl (by decide) rfl (fun ls hl => ?_)
    refine lv_iconst (v := 0) hx hb dX7_touched_29 (by decide) ?_
    refine lv_istore (lv' := [(6, .int 0), (5, .int 0), (4, .int v1), (0, .ref (ad G 0)), (1, .int x1), (2, .int x2), (3, .int x3)]) hx hb dX7_touched_30 hl (by decide) rfl (fun ls hl => ?_)
    exact w_X7_touched_32 hC hQ _ _ _ _ _ _ _ _ _ hP hS (lv_sub hl [3, 5, 6, 1, 0] rfl) hf
  · rw [if_neg hc] at hf
    refine lv_iload hx hb dX7_touched_15 (lv_at hl 0 rfl) ?_
    exact retIw hQ hf hP hS dX7_touched_17
def f_X7_past_58 (S : ST)  : Nat → Int32 → Int32 → Int32 → Int32 → Option Int32
  | 0, _, _, _, _ => none
  | n + 1, x1, x3, x4, x5 => if x5 < 1 then (some (-4)) else ((f_X1_hullOf S x1 1).bind fun v1 => (dv ((x5 * x5) * v1) x4).bind fun v2 => if x3 < v2 then (f_X7_past_58 S n x1 x3 x4 (x5 + (-1))) else (some x5))
set_option maxRecDepth 100000 in
set_option maxHeartbeats 4000000 in
theorem w_X7_past_58 {r : Int32} {S : ST} (hC : Cx p m c s args cX7_past 6 RX7 G) (hQ : KI p l e (rmH 2) s m args below meth c Q cX7_past G r S) : ∀ (n : Nat) (x1 : Int32) (x3 : Int32) (x4 : Int32) (x5 : Int32) (H : Heap) (locs : List Loc) (ls : Array Slot), va_P (gD G) vwCl (cells G S) H → va_S (gA G) s.heap H locs → lv_has ls 6 [(0, .ref (ad G 0)), (1, .int x1), (3, .int x3), (4, .int x4), (5, .int x5)] → f_X7_past_58 S n x1 x3 x4 x5 = some r → W p l e (rmH 2) s m args below meth c H locs 0 0 Q (F0 m 58 ls []) := by
  obtain ⟨hx, hb, hml, hown, hts⟩ := id hC.1
  intro n
  induction n with
  | zero => intro x1 x3 x4 x5 H locs ls hP hS hl hf; rw [f_X7_past_58] at hf; cases hf
  | succ n ih =>
    intro x1 x3 x4 x5 H locs ls hP hS hl hf
    rw [f_X7_past_58] at hf
    refine lv_iload hx hb dX7_past_58 (lv_at hl 4 rfl) ?_
    refine lv_iconst (v := 1) hx hb dX7_past_60 (by decide) ?_
    refine lv_icmp_lt (tgt := 95) hx hb dX7_past_61 (by decide) (fun hc => ?_) (fun hc => ?_)
    · rw [if_pos hc] at hf
      refine lv_bipush (v := (-4)) hx hb dX7_past_95 (by decide) ?_
      exact retI hQ hf hP hS dX7_past_97
    · rw [if_neg hc] at hf
      refine lv_iload hx hb dX7_past_64 (lv_at hl 4 rfl) ?_
      refine lv_iload hx hb dX7_past_66 (lv_at hl 4 rfl) ?_
      refine lv_imul hx hb dX7_past_68 ?_
      refine lv_aload_n hx hb dX7_past_69 rfl (lv_at hl 0 rfl) ?_
      refine gFr hC hP (j := 0) sg_0 vc_7 iT7 (by decide) rfl tb_1_212 dX7_past_70 ?_
      refine lv_iload_n hx hb dX7_past_73 rfl (lv_at hl 1 rfl) ?_
      refine lv_iconst (v := 1) hx hb dX7_past_74 (by decide) ?_
      obtain ⟨v1, hv, hf⟩ := ob_some hf
      refine cI hS (runV hC hP hS (As := [.int x1, .int 1]) (rest := [.int (x5 * x5)]) (k_X1_hullOf l G S x1 1 _ hv) vy_X1_hullOf sg_1 vc_1 tb_3_155 tb_2_203 tb_2_204 ⟨Nat.le_of_ble_eq_true rfl, Nat.le_of_ble_eq_true rfl⟩ rfl hl.1 rfl (Nat.le_of_ble_eq_true rfl) dX7_past_75) (fun H locs hP hS => ?_)
      refine lv_imul hx hb dX7_past_78 ?_
      refine lv_iload hx hb dX7_past_79 (lv_at hl 3 rfl) ?_
      obtain ⟨v2, hv, hf⟩ := ob_some hf
      refine xDv hC hv dX7_past_81 ?_
      refine lv_iload_n hx hb dX7_past_82 rfl (lv_at hl 2 rfl) ?_
      refine lv_icmp_gt (tgt := 89) hx hb dX7_past_83 (by decide) (fun hc => ?_) (fun hc => ?_)
      · rw [if_pos hc] at hf
        refine lv_iinc (v := x5 + (-1)) (lv' := [(5, .int (x5 + (-1))), (0, .ref (ad G 0)), (1, .int x1), (3, .int x3), (4, .int x4)]) hx hb dX7_past_89 hl (k := 4) rfl rfl (by decide) rfl (fun ls hl => ?_)
        refine lv_goto (tgt := 58) hx hb dX7_past_92 (by decide) ?_
        exact ih _ _ _ _ _ _ _ hP hS (lv_sub hl [1, 2, 3, 4, 0] rfl) hf
      · rw [if_neg hc] at hf
        refine lv_iload hx hb dX7_past_86 (lv_at hl 4 rfl) ?_
        exact retI hQ hf hP hS dX7_past_88
def f_X7_past (S : ST) (x1 : Int32) (x2 : Int32) (x3 : Int32) : Option Int32 := (f_X1_hasShip S x1).bind fun v1 => if v1 = 0 then (some (-1)) else ((f_X1_hasMile S x2).bind fun v2 => if v2 = 0 then (some (-1)) else ((f_X7_within x3 0 999).bind fun v3 => if v3 = 0 then (some (-1)) else ((f_X1_markOf S x2 4).bind fun v4 => if 0 < v4 then (f_X7_past_58 S FU x1 x3 v4 15) else (some (-2)))))
set_option maxRecDepth 100000 in
set_option maxHeartbeats 4000000 in
theorem k_X7_past (l : Launch) (G : GT) (S : ST) (x1 : Int32) (x2 : Int32) (x3 : Int32) (r : Int32) (hf : f_X7_past S x1 x2 x3 = some r) : MI l yX7_past cX7_past 6 (some .int) 2 [.ref (ad G 0), .int x1, .int x2, .int x3] G S r S := by
  rw [f_X7_past] at hf
  refine mkI (own := RX7) (by decide +kernel) rfl rfl (Nat.le_of_ble_eq_true rfl) (fun p e s m args below meth c Q ls hC hP hS hl hQ => ?_)
  have hl : lv_has ls 6 [(0, .ref (ad G 0)), (1, .int x1), (2, .int x2), (3, .int x3)] := hl
  obtain ⟨hx, hb, hml, hown, hts⟩ := id hC.1
  refine lv_aload_n hx hb dX7_past_0 rfl (lv_at hl 0 rfl) ?_
  refine gFr hC hP (j := 0) sg_0 vc_7 iT7 (by decide) rfl tb_1_212 dX7_past_1 ?_
  refine lv_iload_n hx hb dX7_past_4 rfl (lv_at hl 1 rfl) ?_
  obtain ⟨v1, hv, hf⟩ := ob_some hf
  refine cI hS (runV hC hP hS (As := [.int x1]) (rest := []) (k_X1_hasShip l G S x1 _ hv) vy_X1_hasShip sg_1 vc_1 tb_2_194 tb_2_195 tb_2_196 ⟨Nat.le_of_ble_eq_true rfl, Nat.le_of_ble_eq_true rfl⟩ rfl hl.1 rfl (Nat.le_of_ble_eq_true rfl) dX7_past_5) (fun H locs hP hS => ?_)
  refine lv_if_eq (tgt := 33) hx hb dX7_past_8 (by decide) (fun hc => ?_) (fun hc => ?_)
  · rw [if_pos hc] at hf
    refine lv_iconst (v := (-1)) hx hb dX7_past_33 (by decide) ?_
    exact retI hQ hf hP hS dX7_past_34
  · rw [if_neg hc] at hf
    refine lv_aload_n hx hb dX7_past_11 rfl (lv_at hl 0 rfl) ?_
    refine gFr hC hP (j := 0) sg_0 vc_7 iT7 (by decide) rfl tb_1_212 dX7_past_12 ?_
    refine lv_iload_n hx hb dX7_past_15 rfl (lv_at hl 2 rfl) ?_
    obtain ⟨v2, hv, hf⟩ := ob_some hf
    refine cI hS (runV hC hP hS (As := [.int x2]) (rest := []) (k_X1_hasMile l G S x2 _ hv) vy_X1_hasMile sg_1 vc_1 tb_2_33 tb_2_34 tb_2_35 ⟨Nat.le_of_ble_eq_true rfl, Nat.le_of_ble_eq_true rfl⟩ rfl hl.1 rfl (Nat.le_of_ble_eq_true rfl) dX7_past_16) (fun H locs hP hS => ?_)
    refine lv_if_eq (tgt := 33) hx hb dX7_past_19 (by decide) (fun hc => ?_) (fun hc => ?_)
    · rw [if_pos hc] at hf
      refine lv_iconst (v := (-1)) hx hb dX7_past_33 (by decide) ?_
      exact retI hQ hf hP hS dX7_past_34
    · rw [if_neg hc] at hf
      refine lv_iload_n hx hb dX7_past_22 rfl (lv_at hl 3 rfl) ?_
      refine lv_iconst (v := 0) hx hb dX7_past_23 (by decide) ?_
      refine lv_sipush (v := 999) hx hb dX7_past_24 (by decide) ?_
      obtain ⟨v3, hv, hf⟩ := ob_some hf
      refine cI hS (runS hC hP hS (As := [.int x3, .int 0, .int 999]) (rest := []) (k_X7_within l G S x3 0 999 _ hv) vy_X7_within tb_2_14 tb_2_15 ⟨Nat.le_of_ble_eq_true rfl, Nat.le_of_ble_eq_true rfl⟩ rfl hl.1 rfl (Nat.le_of_ble_eq_true rfl) dX7_past_27) (fun H locs hP hS => ?_)
      refine lv_if_ne (tgt := 35) hx hb dX7_past_30 (by decide) (fun hc => ?_) (fun hc => ?_)
      · rw [if_neg hc] at hf
        refine lv_aload_n hx hb dX7_past_35 rfl (lv_at hl 0 rfl) ?_
        refine gFr hC hP (j := 0) sg_0 vc_7 iT7 (by decide) rfl tb_1_212 dX7_past_36 ?_
        refine lv_iload_n hx hb dX7_past_39 rfl (lv_at hl 2 rfl) ?_
        refine lv_iconst (v := 4) hx hb dX7_past_40 (by decide) ?_
        obtain ⟨v4, hv, hf⟩ := ob_some hf
        refine cI hS (runV hC hP hS (As := [.int x2, .int 4]) (rest := []) (k_X1_markOf l G S x2 4 _ hv) vy_X1_markOf sg_1 vc_1 tb_2_42 tb_2_26 tb_2_27 ⟨Nat.le_of_ble_eq_true rfl, Nat.le_of_ble_eq_true rfl⟩ rfl hl.1 rfl (Nat.le_of_ble_eq_true rfl) dX7_past_41) (fun H locs hP hS => ?_)
        refine lv_istore (lv' := [(4, .int v4), (0, .ref (ad G 0)), (1, .int x1), (2, .int x2), (3, .int x3)]) hx hb dX7_past_44 hl (by decide) rfl (fun ls hl => ?_)
        refine lv_iload hx hb dX7_past_46 (lv_at hl 0 rfl) ?_
        refine lv_if_gt (tgt := 54) hx hb dX7_past_48 (by decide) (fun hc => ?_) (fun hc => ?_)
        · rw [if_pos hc] at hf
          refine lv_bipush (v := 15) hx hb dX7_past_54 (by decide) ?_
          refine lv_istore (lv' := [(5, .int 15), (4, .int v4), (0, .ref (ad G 0)), (1, .int x1), (2, .int x2), (3, .int x3)]) hx hb dX7_past_56 hl (by decide) rfl (fun ls hl => ?_)
          exact w_X7_past_58 hC hQ _ _ _ _ _ _ _ _ hP hS (lv_sub hl [2, 3, 5, 1, 0] rfl) hf
        · rw [if_neg hc] at hf
          refine lv_bipush (v := (-2)) hx hb dX7_past_51 (by decide) ?_
          exact retI hQ hf hP hS dX7_past_53
      · rw [if_pos hc] at hf
        refine lv_iconst (v := (-1)) hx hb dX7_past_33 (by decide) ?_
        exact retI hQ hf hP hS dX7_past_34
def f_X1_take_6_1 (S : ST)  : Option ST := (lA 0 7).bind fun v1 => (cpy (sI (sI S 6 0 (S.1 1 0)) 6 1 ((sI S 6 0 (S.1 1 0)).1 1 1)) 2 0 7 0 v1).bind fun S2 => (lA 0 8).bind fun v3 => (cpy S2 3 0 8 0 v3).bind fun S4 => (lA 0 9).bind fun v5 => (cpy S4 4 0 9 0 v5).bind fun S6 => (lA 0 10).bind fun v7 => (cpy S6 5 0 10 0 v7).bind fun S8 => some S8
set_option maxRecDepth 100000 in
set_option maxHeartbeats 4000000 in
theorem k_X1_take_6_1 (l : Launch) (G : GT) (S : ST)  (S' : ST) (hf : f_X1_take_6_1 S  = some S') : MV l yX1_take cX1_take 2 1 [.ref (ad G 6), .ref (ad G 1)] G S S' := by
  rw [f_X1_take_6_1] at hf
  refine mkV (own := RX1) (by decide +kernel) rfl (Nat.le_of_ble_eq_true rfl) (fun p e s m args below meth c Q ls hC hP hS hl hQ => ?_)
  have hl : lv_has ls 2 [(0, .ref (ad G 6)), (1, .ref (ad G 1))] := hl
  obtain ⟨hx, hb, hml, hown, hts⟩ := id hC.1
  refine lv_aload_n hx hb dX1_take_0 rfl (lv_at hl 0 rfl) ?_
  refine lv_aload_n hx hb dX1_take_1 rfl (lv_at hl 1 rfl) ?_
  refine gFi hC hP (j := 0) sg_1 vc_1 iT1 (by decide) rfl tb_1_28 dX1_take_2 ?_
  refine pFi hC hP hS (j := 0) sg_6 vc_1 iT1 tyX1_ok nmX1 (by decide) rfl tb_1_28 rfl rfl rfl dX1_take_5 (fun H locs hP hS => ?_)
  refine lv_aload_n hx hb dX1_take_8 rfl (lv_at hl 0 rfl) ?_
  refine lv_aload_n hx hb dX1_take_9 rfl (lv_at hl 1 rfl) ?_
  refine gFi hC hP (j := 1) sg_1 vc_1 iT1 (by decide) rfl tb_1_32 dX1_take_10 ?_
  refine pFi hC hP hS (j := 1) sg_6 vc_1 iT1 tyX1_ok nmX1 (by decide) rfl tb_1_32 rfl rfl rfl dX1_take_13 (fun H locs hP hS => ?_)
  refine lv_aload_n hx hb dX1_take_16 rfl (lv_at hl 1 rfl) ?_
  refine gFr hC hP (j := 2) sg_1 vc_1 iT1 (by decide) rfl tb_1_34 dX1_take_17 ?_
  refine lv_iconst (v := 0) hx hb dX1_take_20 (by decide) ?_
  refine lv_aload_n hx hb dX1_take_21 rfl (lv_at hl 0 rfl) ?_
  refine gFr hC hP (j := 2) sg_6 vc_1 iT1 (by decide) rfl tb_1_34 dX1_take_22 ?_
  refine lv_iconst (v := 0) hx hb dX1_take_25 (by decide) ?_
  refine lv_aload_n hx hb dX1_take_26 rfl (lv_at hl 0 rfl) ?_
  refine gFr hC hP (j := 2) sg_6 vc_1 iT1 (by decide) rfl tb_1_34 dX1_take_27 ?_
  obtain ⟨v1, hv, hf⟩ := ob_some hf
  refine gLen (t := 0) (by decide) hC hP hv dX1_take_30 ?_
  obtain ⟨S2, hv, hf⟩ := ob_some hf
  refine sCp hC hP hS (rest := []) hv hl.1 tb_2_139 tb_2_141 tb_2_140 tb_1_11 ⟨Nat.le_of_ble_eq_true rfl, Nat.le_of_ble_eq_true rfl⟩ dX1_take_31 (fun H locs hP hS => ?_)
  refine lv_aload_n hx hb dX1_take_34 rfl (lv_at hl 1 rfl) ?_
  refine gFr hC hP (j := 3) sg_1 vc_1 iT1 (by decide) rfl tb_1_37 dX1_take_35 ?_
  refine lv_iconst (v := 0) hx hb dX1_take_38 (by decide) ?_
  refine lv_aload_n hx hb dX1_take_39 rfl (lv_at hl 0 rfl) ?_
  refine gFr hC hP (j := 3) sg_6 vc_1 iT1 (by decide) rfl tb_1_37 dX1_take_40 ?_
  refine lv_iconst (v := 0) hx hb dX1_take_43 (by decide) ?_
  refine lv_aload_n hx hb dX1_take_44 rfl (lv_at hl 0 rfl) ?_
  refine gFr hC hP (j := 3) sg_6 vc_1 iT1 (by decide) rfl tb_1_37 dX1_take_45 ?_
  obtain ⟨v3, hv, hf⟩ := ob_some hf
  refine gLen (t := 0) (by decide) hC hP hv dX1_take_48 ?_
  obtain ⟨S4, hv, hf⟩ := ob_some hf
  refine sCp hC hP hS (rest := []) hv hl.1 tb_2_139 tb_2_141 tb_2_140 tb_1_11 ⟨Nat.le_of_ble_eq_true rfl, Nat.le_of_ble_eq_true rfl⟩ dX1_take_49 (fun H locs hP hS => ?_)
  refine lv_aload_n hx hb dX1_take_52 rfl (lv_at hl 1 rfl) ?_
  refine gFr hC hP (j := 4) sg_1 vc_1 iT1 (by decide) rfl tb_1_41 dX1_take_53 ?_
  refine lv_iconst (v := 0) hx hb dX1_take_56 (by decide) ?_
  refine lv_aload_n hx hb dX1_take_57 rfl (lv_at hl 0 rfl) ?_
  refine gFr hC hP (j := 4) sg_6 vc_1 iT1 (by decide) rfl tb_1_41 dX1_take_58 ?_
  refine lv_iconst (v := 0) hx hb dX1_take_61 (by decide) ?_
  refine lv_aload_n hx hb dX1_take_62 rfl (lv_at hl 0 rfl) ?_
  refine gFr hC hP (j := 4) sg_6 vc_1 iT1 (by decide) rfl tb_1_41 dX1_take_63 ?_
  obtain ⟨v5, hv, hf⟩ := ob_some hf
  refine gLen (t := 0) (by decide) hC hP hv dX1_take_66 ?_
  obtain ⟨S6, hv, hf⟩ := ob_some hf
  refine sCp hC hP hS (rest := []) hv hl.1 tb_2_139 tb_2_141 tb_2_140 tb_1_11 ⟨Nat.le_of_ble_eq_true rfl, Nat.le_of_ble_eq_true rfl⟩ dX1_take_67 (fun H locs hP hS => ?_)
  refine lv_aload_n hx hb dX1_take_70 rfl (lv_at hl 1 rfl) ?_
  refine gFr hC hP (j := 5) sg_1 vc_1 iT1 (by decide) rfl tb_1_42 dX1_take_71 ?_
  refine lv_iconst (v := 0) hx hb dX1_take_74 (by decide) ?_
  refine lv_aload_n hx hb dX1_take_75 rfl (lv_at hl 0 rfl) ?_
  refine gFr hC hP (j := 5) sg_6 vc_1 iT1 (by decide) rfl tb_1_42 dX1_take_76 ?_
  refine lv_iconst (v := 0) hx hb dX1_take_79 (by decide) ?_
  refine lv_aload_n hx hb dX1_take_80 rfl (lv_at hl 0 rfl) ?_
  refine gFr hC hP (j := 5) sg_6 vc_1 iT1 (by decide) rfl tb_1_42 dX1_take_81 ?_
  obtain ⟨v7, hv, hf⟩ := ob_some hf
  refine gLen (t := 0) (by decide) hC hP hv dX1_take_84 ?_
  obtain ⟨S8, hv, hf⟩ := ob_some hf
  refine sCp hC hP hS (rest := []) hv hl.1 tb_2_139 tb_2_141 tb_2_140 tb_1_11 ⟨Nat.le_of_ble_eq_true rfl, Nat.le_of_ble_eq_true rfl⟩ dX1_take_85 (fun H locs hP hS => ?_)
  exact retV hQ hf hP hS dX1_take_88
def f_X1_take_1_6 (S : ST)  : Option ST := (lA 0 2).bind fun v1 => (cpy (sI (sI S 1 0 (S.1 6 0)) 1 1 ((sI S 1 0 (S.1 6 0)).1 6 1)) 7 0 2 0 v1).bind fun S2 => (lA 0 3).bind fun v3 => (cpy S2 8 0 3 0 v3).bind fun S4 => (lA 0 4).bind fun v5 => (cpy S4 9 0 4 0 v5).bind fun S6 => (lA 0 5).bind fun v7 => (cpy S6 10 0 5 0 v7).bind fun S8 => some S8
set_option maxRecDepth 100000 in
set_option maxHeartbeats 4000000 in
theorem k_X1_take_1_6 (l : Launch) (G : GT) (S : ST)  (S' : ST) (hf : f_X1_take_1_6 S  = some S') : MV l yX1_take cX1_take 2 1 [.ref (ad G 1), .ref (ad G 6)] G S S' := by
  rw [f_X1_take_1_6] at hf
  refine mkV (own := RX1) (by decide +kernel) rfl (Nat.le_of_ble_eq_true rfl) (fun p e s m args below meth c Q ls hC hP hS hl hQ => ?_)
  have hl : lv_has ls 2 [(0, .ref (ad G 1)), (1, .ref (ad G 6))] := hl
  obtain ⟨hx, hb, hml, hown, hts⟩ := id hC.1
  refine lv_aload_n hx hb dX1_take_0 rfl (lv_at hl 0 rfl) ?_
  refine lv_aload_n hx hb dX1_take_1 rfl (lv_at hl 1 rfl) ?_
  refine gFi hC hP (j := 0) sg_6 vc_1 iT1 (by decide) rfl tb_1_28 dX1_take_2 ?_
  refine pFi hC hP hS (j := 0) sg_1 vc_1 iT1 tyX1_ok nmX1 (by decide) rfl tb_1_28 rfl rfl rfl dX1_take_5 (fun H locs hP hS => ?_)
  refine lv_aload_n hx hb dX1_take_8 rfl (lv_at hl 0 rfl) ?_
  refine lv_aload_n hx hb dX1_take_9 rfl (lv_at hl 1 rfl) ?_
  refine gFi hC hP (j := 1) sg_6 vc_1 iT1 (by decide) rfl tb_1_32 dX1_take_10 ?_
  refine pFi hC hP hS (j := 1) sg_1 vc_1 iT1 tyX1_ok nmX1 (by decide) rfl tb_1_32 rfl rfl rfl dX1_take_13 (fun H locs hP hS => ?_)
  refine lv_aload_n hx hb dX1_take_16 rfl (lv_at hl 1 rfl) ?_
  refine gFr hC hP (j := 2) sg_6 vc_1 iT1 (by decide) rfl tb_1_34 dX1_take_17 ?_
  refine lv_iconst (v := 0) hx hb dX1_take_20 (by decide) ?_
  refine lv_aload_n hx hb dX1_take_21 rfl (lv_at hl 0 rfl) ?_
  refine gFr hC hP (j := 2) sg_1 vc_1 iT1 (by decide) rfl tb_1_34 dX1_take_22 ?_
  refine lv_iconst (v := 0) hx hb dX1_take_25 (by decide) ?_
  refine lv_aload_n hx hb dX1_take_26 rfl (lv_at hl 0 rfl) ?_
  refine gFr hC hP (j := 2) sg_1 vc_1 iT1 (by decide) rfl tb_1_34 dX1_take_27 ?_
  obtain ⟨v1, hv, hf⟩ := ob_some hf
  refine gLen (t := 0) (by decide) hC hP hv dX1_take_30 ?_
  obtain ⟨S2, hv, hf⟩ := ob_some hf
  refine sCp hC hP hS (rest := []) hv hl.1 tb_2_139 tb_2_141 tb_2_140 tb_1_11 ⟨Nat.le_of_ble_eq_true rfl, Nat.le_of_ble_eq_true rfl⟩ dX1_take_31 (fun H locs hP hS => ?_)
  refine lv_aload_n hx hb dX1_take_34 rfl (lv_at hl 1 rfl) ?_
  refine gFr hC hP (j := 3) sg_6 vc_1 iT1 (by decide) rfl tb_1_37 dX1_take_35 ?_
  refine lv_iconst (v := 0) hx hb dX1_take_38 (by decide) ?_
  refine lv_aload_n hx hb dX1_take_39 rfl (lv_at hl 0 rfl) ?_
  refine gFr hC hP (j := 3) sg_1 vc_1 iT1 (by decide) rfl tb_1_37 dX1_take_40 ?_
  refine lv_iconst (v := 0) hx hb dX1_take_43 (by decide) ?_
  refine lv_aload_n hx hb dX1_take_44 rfl (lv_at hl 0 rfl) ?_
  refine gFr hC hP (j := 3) sg_1 vc_1 iT1 (by decide) rfl tb_1_37 dX1_take_45 ?_
  obtain ⟨v3, hv, hf⟩ := ob_some hf
  refine gLen (t := 0) (by decide) hC hP hv dX1_take_48 ?_
  obtain ⟨S4, hv, hf⟩ := ob_some hf
  refine sCp hC hP hS (rest := []) hv hl.1 tb_2_139 tb_2_141 tb_2_140 tb_1_11 ⟨Nat.le_of_ble_eq_true rfl, Nat.le_of_ble_eq_true rfl⟩ dX1_take_49 (fun H locs hP hS => ?_)
  refine lv_aload_n hx hb dX1_take_52 rfl (lv_at hl 1 rfl) ?_
  refine gFr hC hP (j := 4) sg_6 vc_1 iT1 (by decide) rfl tb_1_41 dX1_take_53 ?_
  refine lv_iconst (v := 0) hx hb dX1_take_56 (by decide) ?_
  refine lv_aload_n hx hb dX1_take_57 rfl (lv_at hl 0 rfl) ?_
  refine gFr hC hP (j := 4) sg_1 vc_1 iT1 (by decide) rfl tb_1_41 dX1_take_58 ?_
  refine lv_iconst (v := 0) hx hb dX1_take_61 (by decide) ?_
  refine lv_aload_n hx hb dX1_take_62 rfl (lv_at hl 0 rfl) ?_
  refine gFr hC hP (j := 4) sg_1 vc_1 iT1 (by decide) rfl tb_1_41 dX1_take_63 ?_
  obtain ⟨v5, hv, hf⟩ := ob_some hf
  refine gLen (t := 0) (by decide) hC hP hv dX1_take_66 ?_
  obtain ⟨S6, hv, hf⟩ := ob_some hf
  refine sCp hC hP hS (rest := []) hv hl.1 tb_2_139 tb_2_141 tb_2_140 tb_1_11 ⟨Nat.le_of_ble_eq_true rfl, Nat.le_of_ble_eq_true rfl⟩ dX1_take_67 (fun H locs hP hS => ?_)
  refine lv_aload_n hx hb dX1_take_70 rfl (lv_at hl 1 rfl) ?_
  refine gFr hC hP (j := 5) sg_6 vc_1 iT1 (by decide) rfl tb_1_42 dX1_take_71 ?_
  refine lv_iconst (v := 0) hx hb dX1_take_74 (by decide) ?_
  refine lv_aload_n hx hb dX1_take_75 rfl (lv_at hl 0 rfl) ?_
  refine gFr hC hP (j := 5) sg_1 vc_1 iT1 (by decide) rfl tb_1_42 dX1_take_76 ?_
  refine lv_iconst (v := 0) hx hb dX1_take_79 (by decide) ?_
  refine lv_aload_n hx hb dX1_take_80 rfl (lv_at hl 0 rfl) ?_
  refine gFr hC hP (j := 5) sg_1 vc_1 iT1 (by decide) rfl tb_1_42 dX1_take_81 ?_
  obtain ⟨v7, hv, hf⟩ := ob_some hf
  refine gLen (t := 0) (by decide) hC hP hv dX1_take_84 ?_
  obtain ⟨S8, hv, hf⟩ := ob_some hf
  refine sCp hC hP hS (rest := []) hv hl.1 tb_2_139 tb_2_141 tb_2_140 tb_1_11 ⟨Nat.le_of_ble_eq_true rfl, Nat.le_of_ble_eq_true rfl⟩ dX1_take_85 (fun H locs hP hS => ?_)
  exact retV hQ hf hP hS dX1_take_88
end
