section
variable {p : Program} {l : Launch} {e : Env} {s : State} {m : MethodId} {args : Array Value} {below : List Frame} {meth : Method} {c : Code} {Q : State → Prop} {G : GT}

def f_X7_starts (S : ST) (x1 : Int32) (x2 : Int32) : Option (Int32 × ST) := (f_X1_hasShip S x1).bind fun v1 => if v1 = 0 then (some ((-1), S)) else ((f_X7_within x2 0 2).bind fun v2 => if v2 = 0 then (some ((-1), S)) else (if (S.1 1 0) = 0 then (some ((-2), S)) else ((f_X0_startsOf S x1).bind fun v3 => (f_X5_begin S x1).bind fun S4 => (f_X2_begin S4).bind fun S5 => (f_X2_findStarts S5 v3).bind fun S6 => if x2 = 0 then ((f_X7_bitsIn S6 v3).bind fun v7 => some (v7, S6)) else (if x2 = 1 then ((f_X7_firstFrom S6 v3 0).bind fun v8 => some (v8, S6)) else ((f_X7_lastOf S6 v3).bind fun v9 => some (v9, S6))))))
set_option maxRecDepth 100000 in
set_option maxHeartbeats 4000000 in
theorem k_X7_starts (l : Launch) (G : GT) (S : ST) (x1 : Int32) (x2 : Int32) (r : Int32) (S' : ST) (hf : f_X7_starts S x1 x2 = some (r, S')) : MI l yX7_starts cX7_starts 4 (some .int) 7 [.ref (ad G 0), .int x1, .int x2] G S r S' := by
  rw [f_X7_starts] at hf
  refine mkI (own := RX7) (by decide +kernel) rfl rfl (Nat.le_of_ble_eq_true rfl) (fun p e s m args below meth c Q ls hC hP hS hl hQ => ?_)
  have hl : lv_has ls 4 [(0, .ref (ad G 0)), (1, .int x1), (2, .int x2)] := hl
  obtain ⟨hx, hb, hml, hown, hts⟩ := id hC.1
  refine lv_aload_n hx hb dX7_starts_0 rfl (lv_at hl 0 rfl) ?_
  refine gFr hC hP (j := 0) sg_0 vc_7 iT7 (by decide) rfl tb_1_212 dX7_starts_1 ?_
  refine lv_iload_n hx hb dX7_starts_4 rfl (lv_at hl 1 rfl) ?_
  obtain ⟨v1, hv, hf⟩ := ob_some hf
  refine cI hS (runV hC hP hS (As := [.int x1]) (rest := []) (k_X1_hasShip l G S x1 _ hv) vy_X1_hasShip sg_1 vc_1 tb_2_194 tb_2_195 tb_2_196 ⟨Nat.le_of_ble_eq_true rfl, Nat.le_of_ble_eq_true rfl⟩ rfl hl.1 rfl (Nat.le_of_ble_eq_true rfl) dX7_starts_5) (fun H locs hP hS => ?_)
  refine lv_if_eq (tgt := 20) hx hb dX7_starts_8 (by decide) (fun hc => ?_) (fun hc => ?_)
  · rw [if_pos hc] at hf
    refine lv_iconst (v := (-1)) hx hb dX7_starts_20 (by decide) ?_
    exact retIw hQ hf hP hS dX7_starts_21
  · rw [if_neg hc] at hf
    refine lv_iload_n hx hb dX7_starts_11 rfl (lv_at hl 2 rfl) ?_
    refine lv_iconst (v := 0) hx hb dX7_starts_12 (by decide) ?_
    refine lv_iconst (v := 2) hx hb dX7_starts_13 (by decide) ?_
    obtain ⟨v2, hv, hf⟩ := ob_some hf
    refine cI hS (runS hC hP hS (As := [.int x2, .int 0, .int 2]) (rest := []) (k_X7_within l G S x2 0 2 _ hv) vy_X7_within tb_2_14 tb_2_15 ⟨Nat.le_of_ble_eq_true rfl, Nat.le_of_ble_eq_true rfl⟩ rfl hl.1 rfl (Nat.le_of_ble_eq_true rfl) dX7_starts_14) (fun H locs hP hS => ?_)
    refine lv_if_ne (tgt := 22) hx hb dX7_starts_17 (by decide) (fun hc => ?_) (fun hc => ?_)
    · rw [if_neg hc] at hf
      refine lv_aload_n hx hb dX7_starts_22 rfl (lv_at hl 0 rfl) ?_
      refine gFr hC hP (j := 0) sg_0 vc_7 iT7 (by decide) rfl tb_1_212 dX7_starts_23 ?_
      refine gFi hC hP (j := 0) sg_1 vc_1 iT1 (by decide) rfl tb_1_31 dX7_starts_26 ?_
      refine lv_if_ne (tgt := 35) hx hb dX7_starts_29 (by decide) (fun hc => ?_) (fun hc => ?_)
      · rw [if_neg hc] at hf
        refine lv_aload_n hx hb dX7_starts_35 rfl (lv_at hl 0 rfl) ?_
        refine gFr hC hP (j := 5) sg_0 vc_7 iT7 (by decide) rfl tb_1_217 dX7_starts_36 ?_
        refine lv_iload_n hx hb dX7_starts_39 rfl (lv_at hl 1 rfl) ?_
        obtain ⟨v3, hv, hf⟩ := ob_some hf
        refine cA hS (runV hC hP hS (As := [.int x1]) (rest := []) (k_X0_startsOf l G S x1 _ hv) vy_X0_startsOf sg_18 vc_0 tb_3_122 tb_3_123 tb_3_124 ⟨Nat.le_of_ble_eq_true rfl, Nat.le_of_ble_eq_true rfl⟩ rfl hl.1 rfl (Nat.le_of_ble_eq_true rfl) dX7_starts_40) (fun H locs hP hS => ?_)
        refine lv_astore_n (lv' := [(3, .ref (ad G v3)), (0, .ref (ad G 0)), (1, .int x1), (2, .int x2)]) hx hb dX7_starts_43 rfl hl (by decide) rfl (fun ls hl => ?_)
        refine lv_aload_n hx hb dX7_starts_44 rfl (lv_at hl 1 rfl) ?_
        refine gFr hC hP (j := 2) sg_0 vc_7 iT7 (by decide) rfl tb_1_214 dX7_starts_45 ?_
        refine lv_iload_n hx hb dX7_starts_48 rfl (lv_at hl 2 rfl) ?_
        obtain ⟨S4, hv, hf⟩ := ob_some hf
        refine cV hS (runV hC hP hS (As := [.int x1]) (rest := []) (k_X5_begin l G S x1 _ hv) vy_X5_begin sg_11 vc_5 tb_2_198 tb_2_199 tb_2_200 ⟨Nat.le_of_ble_eq_true rfl, Nat.le_of_ble_eq_true rfl⟩ rfl hl.1 rfl (Nat.le_of_ble_eq_true rfl) dX7_starts_49) (fun H locs hP hS => ?_)
        refine lv_aload_n hx hb dX7_starts_52 rfl (lv_at hl 1 rfl) ?_
        refine gFr hC hP (j := 4) sg_0 vc_7 iT7 (by decide) rfl tb_1_216 dX7_starts_53 ?_
        refine lv_aload_n hx hb dX7_starts_56 rfl (lv_at hl 1 rfl) ?_
        refine gFr hC hP (j := 2) sg_0 vc_7 iT7 (by decide) rfl tb_1_214 dX7_starts_57 ?_
        obtain ⟨S5, hv, hf⟩ := ob_some hf
        refine cV hS (runV hC hP hS (As := [.ref (ad G 11)]) (rest := []) (k_X2_begin l G S4 _ hv) vy_X2_begin sg_13 vc_2 tb_3_40 tb_3_41 tb_3_42 ⟨Nat.le_of_ble_eq_true rfl, Nat.le_of_ble_eq_true rfl⟩ rfl hl.1 rfl (Nat.le_of_ble_eq_true rfl) dX7_starts_60) (fun H locs hP hS => ?_)
        refine lv_aload_n hx hb dX7_starts_63 rfl (lv_at hl 1 rfl) ?_
        refine gFr hC hP (j := 4) sg_0 vc_7 iT7 (by decide) rfl tb_1_216 dX7_starts_64 ?_
        refine lv_aload_n hx hb dX7_starts_67 rfl (lv_at hl 0 rfl) ?_
        obtain ⟨S6, hv, hf⟩ := ob_some hf
        refine cV hS (runV hC hP hS (As := [.ref (ad G v3)]) (rest := []) (k_X2_findStarts l G S5 v3 _ hv) vy_X2_findStarts sg_13 vc_2 tb_3_126 tb_3_127 tb_3_128 ⟨Nat.le_of_ble_eq_true rfl, Nat.le_of_ble_eq_true rfl⟩ rfl hl.1 rfl (Nat.le_of_ble_eq_true rfl) dX7_starts_68) (fun H locs hP hS => ?_)
        refine lv_iload_n hx hb dX7_starts_71 rfl (lv_at hl 3 rfl) ?_
        by_cases hc0 : x2 = 0
        · rw [if_pos hc0] at hf
          refine lv_lookup (off := 28) (tgt := 100) hx hb dX7_starts_72 (by decide) (by rw [hc0]; decide) (by decide) ?_
          refine lv_aload_n hx hb dX7_starts_100 rfl (lv_at hl 0 rfl) ?_
          obtain ⟨v7, hv, hf⟩ := ob_some hf
          refine cI hS (runS hC hP hS (As := [.ref (ad G v3)]) (rest := []) (k_X7_bitsIn l G S6 v3 _ hv) vy_X7_bitsIn tb_3_132 tb_3_133 ⟨Nat.le_of_ble_eq_true rfl, Nat.le_of_ble_eq_true rfl⟩ rfl hl.1 rfl (Nat.le_of_ble_eq_true rfl) dX7_starts_101) (fun H locs hP hS => ?_)
          exact retIw hQ hf hP hS dX7_starts_104
        · rw [if_neg hc0] at hf
          by_cases hc1 : x2 = 1
          · rw [if_pos hc1] at hf
            refine lv_lookup (off := 33) (tgt := 105) hx hb dX7_starts_72 (by decide) (by rw [hc1]; decide) (by decide) ?_
            refine lv_aload_n hx hb dX7_starts_105 rfl (lv_at hl 0 rfl) ?_
            refine lv_iconst (v := 0) hx hb dX7_starts_106 (by decide) ?_
            obtain ⟨v8, hv, hf⟩ := ob_some hf
            refine cI hS (runS hC hP hS (As := [.ref (ad G v3), .int 0]) (rest := []) (k_X7_firstFrom l G S6 v3 0 _ hv) vy_X7_firstFrom tb_3_135 tb_3_89 ⟨Nat.le_of_ble_eq_true rfl, Nat.le_of_ble_eq_true rfl⟩ rfl hl.1 rfl (Nat.le_of_ble_eq_true rfl) dX7_starts_107) (fun H locs hP hS => ?_)
            exact retIw hQ hf hP hS dX7_starts_110
          · rw [if_neg hc1] at hf
            refine lv_lookup (off := 39) (tgt := 111) hx hb dX7_starts_72 (by decide) (lsOut2 hc0 hc1) (by decide) ?_
            refine lv_aload_n hx hb dX7_starts_111 rfl (lv_at hl 0 rfl) ?_
            obtain ⟨v9, hv, hf⟩ := ob_some hf
            refine cI hS (runS hC hP hS (As := [.ref (ad G v3)]) (rest := []) (k_X7_lastOf l G S6 v3 _ hv) vy_X7_lastOf tb_3_136 tb_3_137 ⟨Nat.le_of_ble_eq_true rfl, Nat.le_of_ble_eq_true rfl⟩ rfl hl.1 rfl (Nat.le_of_ble_eq_true rfl) dX7_starts_112) (fun H locs hP hS => ?_)
            exact retIw hQ hf hP hS dX7_starts_115
      · rw [if_pos hc] at hf
        refine lv_bipush (v := (-2)) hx hb dX7_starts_32 (by decide) ?_
        exact retIw hQ hf hP hS dX7_starts_34
    · rw [if_pos hc] at hf
      refine lv_iconst (v := (-1)) hx hb dX7_starts_20 (by decide) ?_
      exact retIw hQ hf hP hS dX7_starts_21
def f_X7_deepest_103  (k47 : ST → Int32 → Int32 → Int32 → Option (Int32 × ST)) (S : ST) (x2 : Int32) (x3 : Int32) (x4 : Int32) : Option (Int32 × ST) := (dv x4 2).bind fun v1 => k47 S x2 x3 v1
set_option maxRecDepth 100000 in
set_option maxHeartbeats 4000000 in
theorem w_X7_deepest_103 {r : Int32} {S' : ST} (hC : Cx p m c s args cX7_deepest 5 RX7 G) (hQ : KI p l e (rmH 6) s m args below meth c Q cX7_deepest G r S') {k47 : ST → Int32 → Int32 → Int32 → Option (Int32 × ST)} (hk47 : ∀ (S : ST) (x2 : Int32) (x3 : Int32) (x4 : Int32) (H : Heap) (locs : List Loc) (ls : Array Slot), va_P (gD G) vwCl (cells G S) H → va_S (gA G) s.heap H locs → lv_has ls 5 [(0, .ref (ad G 0)), (2, .int x2), (3, .int x3), (4, .int x4)] → k47 S x2 x3 x4 = some (r, S') → W p l e (rmH 6) s m args below meth c H locs 0 0 Q (F0 m 47 ls [])) (S : ST) (x2 : Int32) (x3 : Int32) (x4 : Int32) (H : Heap) (locs : List Loc) (ls : Array Slot) (hP : va_P (gD G) vwCl (cells G S) H) (hS : va_S (gA G) s.heap H locs) (hl : lv_has ls 5 [(0, .ref (ad G 0)), (2, .int x2), (3, .int x3), (4, .int x4)]) (hf : f_X7_deepest_103 k47 S x2 x3 x4 = some (r, S')) : W p l e (rmH 6) s m args below meth c H locs 0 0 Q (F0 m 103 ls []) := by
  obtain ⟨hx, hb, hml, hown, hts⟩ := id hC.1
  rw [f_X7_deepest_103] at hf
  refine lv_iload hx hb dX7_deepest_103 (lv_at hl 3 rfl) ?_
  refine lv_iconst (v := 2) hx hb dX7_deepest_105 (by decide) ?_
  obtain ⟨v1, hv, hf⟩ := ob_some hf
  refine xDv hC hv dX7_deepest_106 ?_
  refine lv_istore (lv' := [(4, .int v1), (0, .ref (ad G 0)), (2, .int x2), (3, .int x3)]) hx hb dX7_deepest_107 hl (by decide) rfl (fun ls hl => ?_)
  refine lv_goto (tgt := 47) hx hb dX7_deepest_109 (by decide) ?_
  exact hk47 _ _ _ _ _ _ _ hP hS (lv_sub hl [1, 2, 3, 0] rfl) hf
def f_X7_deepest_47  : Nat → ST → Int32 → Int32 → Int32 → Option (Int32 × ST)
  | 0, _, _, _, _ => none
  | n + 1, S, x2, x3, x4 => if x4 < 1 then (if 20 ≤ x3 then (some (x3, S)) else (some ((-4), S))) else (if 200 < (x3 + x4) then (f_X7_deepest_103 (f_X7_deepest_47 n) S x2 x3 x4) else ((f_X5_load S (x3 + x4)).bind fun S1 => (f_X2_rule S1).bind fun S2 => b2 (f_X2_quickest S2 x2) fun v3 S4 => if v3 = (-4) then (f_X7_deepest_103 (f_X7_deepest_47 n) S4 x2 x3 x4) else (f_X7_deepest_103 (f_X7_deepest_47 n) S4 x2 (x3 + x4) x4)))
set_option maxRecDepth 100000 in
set_option maxHeartbeats 4000000 in
theorem w_X7_deepest_47 {r : Int32} {S' : ST} (hC : Cx p m c s args cX7_deepest 5 RX7 G) (hQ : KI p l e (rmH 6) s m args below meth c Q cX7_deepest G r S') : ∀ (n : Nat) (S : ST) (x2 : Int32) (x3 : Int32) (x4 : Int32) (H : Heap) (locs : List Loc) (ls : Array Slot), va_P (gD G) vwCl (cells G S) H → va_S (gA G) s.heap H locs → lv_has ls 5 [(0, .ref (ad G 0)), (2, .int x2), (3, .int x3), (4, .int x4)] → f_X7_deepest_47 n S x2 x3 x4 = some (r, S') → W p l e (rmH 6) s m args below meth c H locs 0 0 Q (F0 m 47 ls []) := by
  obtain ⟨hx, hb, hml, hown, hts⟩ := id hC.1
  intro n
  induction n with
  | zero => intro S x2 x3 x4 H locs ls hP hS hl hf; rw [f_X7_deepest_47] at hf; cases hf
  | succ n ih =>
    intro S x2 x3 x4 H locs ls hP hS hl hf
    rw [f_X7_deepest_47] at hf
    refine lv_iload hx hb dX7_deepest_47 (lv_at hl 3 rfl) ?_
    refine lv_iconst (v := 1) hx hb dX7_deepest_49 (by decide) ?_
    refine lv_icmp_lt (tgt := 112) hx hb dX7_deepest_50 (by decide) (fun hc => ?_) (fun hc => ?_)
    · rw [if_pos hc] at hf
      refine lv_iload_n hx hb dX7_deepest_112 rfl (lv_at hl 2 rfl) ?_
      refine lv_bipush (v := 20) hx hb dX7_deepest_113 (by decide) ?_
      refine lv_icmp_ge (tgt := 123) hx hb dX7_deepest_115 (by decide) (fun hc => ?_) (fun hc => ?_)
      · rw [if_pos hc] at hf
        refine lv_iload_n hx hb dX7_deepest_123 rfl (lv_at hl 2 rfl) ?_
        exact retIw hQ hf hP hS dX7_deepest_124
      · rw [if_neg hc] at hf
        refine lv_bipush (v := (-4)) hx hb dX7_deepest_118 (by decide) ?_
        refine lv_goto (tgt := 124) hx hb dX7_deepest_120 (by decide) ?_
        exact retIw hQ hf hP hS dX7_deepest_124
    · rw [if_neg hc] at hf
      refine lv_iload_n hx hb dX7_deepest_53 rfl (lv_at hl 2 rfl) ?_
      refine lv_iload hx hb dX7_deepest_54 (lv_at hl 3 rfl) ?_
      refine lv_iadd hx hb dX7_deepest_56 ?_
      refine lv_sipush (v := 200) hx hb dX7_deepest_57 (by decide) ?_
      refine lv_icmp_gt (tgt := 103) hx hb dX7_deepest_60 (by decide) (fun hc => ?_) (fun hc => ?_)
      · rw [if_pos hc] at hf
        exact w_X7_deepest_103 hC hQ ih  _ _ _ _ _ _ _ hP hS (lv_sub hl [0, 1, 2, 3] rfl) hf
      · rw [if_neg hc] at hf
        refine lv_aload_n hx hb dX7_deepest_63 rfl (lv_at hl 0 rfl) ?_
        refine gFr hC hP (j := 2) sg_0 vc_7 iT7 (by decide) rfl tb_1_214 dX7_deepest_64 ?_
        refine lv_iload_n hx hb dX7_deepest_67 rfl (lv_at hl 2 rfl) ?_
        refine lv_iload hx hb dX7_deepest_68 (lv_at hl 3 rfl) ?_
        refine lv_iadd hx hb dX7_deepest_70 ?_
        obtain ⟨S1, hv, hf⟩ := ob_some hf
        refine cV hS (runV hC hP hS (As := [.int (x3 + x4)]) (rest := []) (k_X5_load l G S (x3 + x4) _ hv) vy_X5_load sg_11 vc_5 tb_3_145 tb_2_215 tb_2_216 ⟨Nat.le_of_ble_eq_true rfl, Nat.le_of_ble_eq_true rfl⟩ rfl hl.1 rfl (Nat.le_of_ble_eq_true rfl) dX7_deepest_71) (fun H locs hP hS => ?_)
        refine lv_aload_n hx hb dX7_deepest_74 rfl (lv_at hl 0 rfl) ?_
        refine gFr hC hP (j := 4) sg_0 vc_7 iT7 (by decide) rfl tb_1_216 dX7_deepest_75 ?_
        refine lv_aload_n hx hb dX7_deepest_78 rfl (lv_at hl 0 rfl) ?_
        refine gFr hC hP (j := 2) sg_0 vc_7 iT7 (by decide) rfl tb_1_214 dX7_deepest_79 ?_
        obtain ⟨S2, hv, hf⟩ := ob_some hf
        refine cV hS (runV hC hP hS (As := [.ref (ad G 11)]) (rest := []) (k_X2_rule l G S1 _ hv) vy_X2_rule sg_13 vc_2 tb_3_146 tb_3_62 tb_3_63 ⟨Nat.le_of_ble_eq_true rfl, Nat.le_of_ble_eq_true rfl⟩ rfl hl.1 rfl (Nat.le_of_ble_eq_true rfl) dX7_deepest_82) (fun H locs hP hS => ?_)
        refine lv_aload_n hx hb dX7_deepest_85 rfl (lv_at hl 0 rfl) ?_
        refine gFr hC hP (j := 4) sg_0 vc_7 iT7 (by decide) rfl tb_1_216 dX7_deepest_86 ?_
        refine lv_iload_n hx hb dX7_deepest_89 rfl (lv_at hl 1 rfl) ?_
        obtain ⟨v3, S4, hv, hf⟩ := ob_two hf
        refine cI hS (runV hC hP hS (As := [.int x2]) (rest := []) (k_X2_quickest l G S2 x2 _ _ hv) vy_X2_quickest sg_13 vc_2 tb_3_74 tb_3_75 tb_3_76 ⟨Nat.le_of_ble_eq_true rfl, Nat.le_of_ble_eq_true rfl⟩ rfl hl.1 rfl (Nat.le_of_ble_eq_true rfl) dX7_deepest_90) (fun H locs hP hS => ?_)
        refine lv_bipush (v := (-4)) hx hb dX7_deepest_93 (by decide) ?_
        refine lv_icmp_eq (tgt := 103) hx hb dX7_deepest_95 (by decide) (fun hc => ?_) (fun hc => ?_)
        · rw [if_pos hc] at hf
          exact w_X7_deepest_103 hC hQ ih  _ _ _ _ _ _ _ hP hS (lv_sub hl [0, 1, 2, 3] rfl) hf
        · rw [if_neg hc] at hf
          refine lv_iload_n hx hb dX7_deepest_98 rfl (lv_at hl 2 rfl) ?_
          refine lv_iload hx hb dX7_deepest_99 (lv_at hl 3 rfl) ?_
          refine lv_iadd hx hb dX7_deepest_101 ?_
          refine lv_istore_n (lv' := [(3, .int (x3 + x4)), (0, .ref (ad G 0)), (2, .int x2), (4, .int x4)]) hx hb dX7_deepest_102 rfl hl (by decide) rfl (fun ls hl => ?_)
          exact w_X7_deepest_103 hC hQ ih  _ _ _ _ _ _ _ hP hS (lv_sub hl [1, 2, 0, 3] rfl) hf
def f_X7_deepest (S : ST) (x1 : Int32) (x2 : Int32) : Option (Int32 × ST) := (f_X7_isStart S x1 x2).bind fun v1 => if v1 = 0 then (some ((-1), S)) else (if (S.1 1 0) = 0 then (some ((-2), S)) else ((f_X5_begin S x1).bind fun S2 => (f_X2_layTide S2).bind fun S3 => f_X7_deepest_47 FU S3 x2 19 128))
set_option maxRecDepth 100000 in
set_option maxHeartbeats 4000000 in
theorem k_X7_deepest (l : Launch) (G : GT) (S : ST) (x1 : Int32) (x2 : Int32) (r : Int32) (S' : ST) (hf : f_X7_deepest S x1 x2 = some (r, S')) : MI l yX7_deepest cX7_deepest 5 (some .int) 6 [.ref (ad G 0), .int x1, .int x2] G S r S' := by
  rw [f_X7_deepest] at hf
  refine mkI (own := RX7) (by decide +kernel) rfl rfl (Nat.le_of_ble_eq_true rfl) (fun p e s m args below meth c Q ls hC hP hS hl hQ => ?_)
  have hl : lv_has ls 5 [(0, .ref (ad G 0)), (1, .int x1), (2, .int x2)] := hl
  obtain ⟨hx, hb, hml, hown, hts⟩ := id hC.1
  refine lv_aload_n hx hb dX7_deepest_0 rfl (lv_at hl 0 rfl) ?_
  refine lv_iload_n hx hb dX7_deepest_1 rfl (lv_at hl 1 rfl) ?_
  refine lv_iload_n hx hb dX7_deepest_2 rfl (lv_at hl 2 rfl) ?_
  obtain ⟨v1, hv, hf⟩ := ob_some hf
  refine cI hS (runV hC hP hS (As := [.int x1, .int x2]) (rest := []) (k_X7_isStart l G S x1 x2 _ hv) vy_X7_isStart sg_0 vc_7 tb_3_11 tb_3_13 ts_12 ⟨Nat.le_of_ble_eq_true rfl, Nat.le_of_ble_eq_true rfl⟩ rfl hl.1 rfl (Nat.le_of_ble_eq_true rfl) dX7_deepest_3) (fun H locs hP hS => ?_)
  refine lv_if_ne (tgt := 11) hx hb dX7_deepest_6 (by decide) (fun hc => ?_) (fun hc => ?_)
  · rw [if_neg hc] at hf
    refine lv_aload_n hx hb dX7_deepest_11 rfl (lv_at hl 0 rfl) ?_
    refine gFr hC hP (j := 0) sg_0 vc_7 iT7 (by decide) rfl tb_1_212 dX7_deepest_12 ?_
    refine gFi hC hP (j := 0) sg_1 vc_1 iT1 (by decide) rfl tb_1_31 dX7_deepest_15 ?_
    refine lv_if_ne (tgt := 24) hx hb dX7_deepest_18 (by decide) (fun hc => ?_) (fun hc => ?_)
    · rw [if_neg hc] at hf
      refine lv_aload_n hx hb dX7_deepest_24 rfl (lv_at hl 0 rfl) ?_
      refine gFr hC hP (j := 2) sg_0 vc_7 iT7 (by decide) rfl tb_1_214 dX7_deepest_25 ?_
      refine lv_iload_n hx hb dX7_deepest_28 rfl (lv_at hl 1 rfl) ?_
      obtain ⟨S2, hv, hf⟩ := ob_some hf
      refine cV hS (runV hC hP hS (As := [.int x1]) (rest := []) (k_X5_begin l G S x1 _ hv) vy_X5_begin sg_11 vc_5 tb_2_198 tb_2_199 tb_2_200 ⟨Nat.le_of_ble_eq_true rfl, Nat.le_of_ble_eq_true rfl⟩ rfl hl.1 rfl (Nat.le_of_ble_eq_true rfl) dX7_deepest_29) (fun H locs hP hS => ?_)
      refine lv_aload_n hx hb dX7_deepest_32 rfl (lv_at hl 0 rfl) ?_
      refine gFr hC hP (j := 4) sg_0 vc_7 iT7 (by decide) rfl tb_1_216 dX7_deepest_33 ?_
      obtain ⟨S3, hv, hf⟩ := ob_some hf
      refine cV hS (runV hC hP hS (As := []) (rest := []) (k_X2_layTide l G S2 _ hv) vy_X2_layTide sg_13 vc_2 tb_3_144 tb_3_45 tb_3_46 ⟨Nat.le_of_ble_eq_true rfl, Nat.le_of_ble_eq_true rfl⟩ rfl hl.1 rfl (Nat.le_of_ble_eq_true rfl) dX7_deepest_36) (fun H locs hP hS => ?_)
      refine lv_bipush (v := 19) hx hb dX7_deepest_39 (by decide) ?_
      refine lv_istore_n (lv' := [(3, .int 19), (0, .ref (ad G 0)), (1, .int x1), (2, .int x2)]) hx hb dX7_deepest_41 rfl hl (by decide) rfl (fun ls hl => ?_)
      refine lv_sipush (v := 128) hx hb dX7_deepest_42 (by decide) ?_
      refine lv_istore (lv' := [(4, .int 128), (3, .int 19), (0, .ref (ad G 0)), (1, .int x1), (2, .int x2)]) hx hb dX7_deepest_45 hl (by decide) rfl (fun ls hl => ?_)
      exact w_X7_deepest_47 hC hQ _ _ _ _ _ _ _ _ hP hS (lv_sub hl [2, 4, 1, 0] rfl) hf
    · rw [if_pos hc] at hf
      refine lv_bipush (v := (-2)) hx hb dX7_deepest_21 (by decide) ?_
      exact retIw hQ hf hP hS dX7_deepest_23
  · rw [if_pos hc] at hf
    refine lv_iconst (v := (-1)) hx hb dX7_deepest_9 (by decide) ?_
    exact retIw hQ hf hP hS dX7_deepest_10
def f_X7_isHeld_25 (S : ST)  (x1 : Int32) (x2 : Int32) (x3 : Int32) (y0 : Int32) : Option Int32 := if x3 < 1 then (some 0) else ((f_X1_hullOf S x1 1).bind fun v1 => (dv ((x2 * x2) * v1) (x3 * x3)).bind fun v2 => if y0 < v2 then (some 0) else (some 1))
set_option maxRecDepth 100000 in
set_option maxHeartbeats 4000000 in
theorem w_X7_isHeld_25 {r : Int32} {S : ST} (hC : Cx p m c s args cX7_isHeld 6 RX7 G) (hQ : KZ p l e (rmH 2) s m args below meth c Q cX7_isHeld G r S) (x1 : Int32) (x2 : Int32) (x3 : Int32) (y0 : Int32) (H : Heap) (locs : List Loc) (ls : Array Slot) (hP : va_P (gD G) vwCl (cells G S) H) (hS : va_S (gA G) s.heap H locs) (hl : lv_has ls 6 [(0, .ref (ad G 0)), (1, .int x1), (2, .int x2), (3, .int x3)]) (hf : f_X7_isHeld_25 S x1 x2 x3 y0 = some r) : W p l e (rmH 2) s m args below meth c H locs 0 0 Q (F0 m 25 ls [.int y0]) := by
  obtain ⟨hx, hb, hml, hown, hts⟩ := id hC.1
  rw [f_X7_isHeld_25] at hf
  refine lv_istore (lv' := [(5, .int y0), (0, .ref (ad G 0)), (1, .int x1), (2, .int x2), (3, .int x3)]) hx hb dX7_isHeld_25 hl (by decide) rfl (fun ls hl => ?_)
  refine lv_iload_n hx hb dX7_isHeld_27 rfl (lv_at hl 4 rfl) ?_
  refine lv_iconst (v := 1) hx hb dX7_isHeld_28 (by decide) ?_
  refine lv_icmp_lt (tgt := 58) hx hb dX7_isHeld_29 (by decide) (fun hc => ?_) (fun hc => ?_)
  · rw [if_pos hc] at hf
    refine lv_iconst (v := 0) hx hb dX7_isHeld_58 (by decide) ?_
    exact retZ hQ rfl hf hP hS dX7_isHeld_59
  · rw [if_neg hc] at hf
    refine lv_iload_n hx hb dX7_isHeld_32 rfl (lv_at hl 3 rfl) ?_
    refine lv_iload_n hx hb dX7_isHeld_33 rfl (lv_at hl 3 rfl) ?_
    refine lv_imul hx hb dX7_isHeld_34 ?_
    refine lv_aload_n hx hb dX7_isHeld_35 rfl (lv_at hl 1 rfl) ?_
    refine gFr hC hP (j := 0) sg_0 vc_7 iT7 (by decide) rfl tb_1_212 dX7_isHeld_36 ?_
    refine lv_iload_n hx hb dX7_isHeld_39 rfl (lv_at hl 2 rfl) ?_
    refine lv_iconst (v := 1) hx hb dX7_isHeld_40 (by decide) ?_
    obtain ⟨v1, hv, hf⟩ := ob_some hf
    refine cI hS (runV hC hP hS (As := [.int x1, .int 1]) (rest := [.int (x2 * x2)]) (k_X1_hullOf l G S x1 1 _ hv) vy_X1_hullOf sg_1 vc_1 tb_3_155 tb_2_203 tb_2_204 ⟨Nat.le_of_ble_eq_true rfl, Nat.le_of_ble_eq_true rfl⟩ rfl hl.1 rfl (Nat.le_of_ble_eq_true rfl) dX7_isHeld_41) (fun H locs hP hS => ?_)
    refine lv_imul hx hb dX7_isHeld_44 ?_
    refine lv_iload_n hx hb dX7_isHeld_45 rfl (lv_at hl 4 rfl) ?_
    refine lv_iload_n hx hb dX7_isHeld_46 rfl (lv_at hl 4 rfl) ?_
    refine lv_imul hx hb dX7_isHeld_47 ?_
    obtain ⟨v2, hv, hf⟩ := ob_some hf
    refine xDv hC hv dX7_isHeld_48 ?_
    refine lv_iload hx hb dX7_isHeld_49 (lv_at hl 0 rfl) ?_
    refine lv_icmp_gt (tgt := 58) hx hb dX7_isHeld_51 (by decide) (fun hc => ?_) (fun hc => ?_)
    · rw [if_pos hc] at hf
      refine lv_iconst (v := 0) hx hb dX7_isHeld_58 (by decide) ?_
      exact retZ hQ rfl hf hP hS dX7_isHeld_59
    · rw [if_neg hc] at hf
      refine lv_iconst (v := 1) hx hb dX7_isHeld_54 (by decide) ?_
      refine lv_goto (tgt := 59) hx hb dX7_isHeld_55 (by decide) ?_
      exact retZ hQ rfl hf hP hS dX7_isHeld_59
def f_X7_isHeld (S : ST) (x1 : Int32) (x2 : Int32) (x3 : Int32) : Option Int32 := (f_X1_hullOf S x1 2).bind fun v1 => if 3 < x2 then (f_X7_isHeld_25 S x1 x2 x3 v1) else ((dv v1 2).bind fun v2 => f_X7_isHeld_25 S x1 x2 x3 v2)
set_option maxRecDepth 100000 in
set_option maxHeartbeats 4000000 in
theorem k_X7_isHeld (l : Launch) (G : GT) (S : ST) (x1 : Int32) (x2 : Int32) (x3 : Int32) (r : Int32) (hf : f_X7_isHeld S x1 x2 x3 = some r) : MI l yX7_isHeld cX7_isHeld 6 (some .boolean) 2 [.ref (ad G 0), .int x1, .int x2, .int x3] G S r S := by
  rw [f_X7_isHeld] at hf
  refine mkZ (own := RX7) (by decide +kernel) rfl (Nat.le_of_ble_eq_true rfl) (fun p e s m args below meth c Q ls hC hP hS hl hQ => ?_)
  have hl : lv_has ls 6 [(0, .ref (ad G 0)), (1, .int x1), (2, .int x2), (3, .int x3)] := hl
  obtain ⟨hx, hb, hml, hown, hts⟩ := id hC.1
  refine lv_aload_n hx hb dX7_isHeld_0 rfl (lv_at hl 0 rfl) ?_
  refine gFr hC hP (j := 0) sg_0 vc_7 iT7 (by decide) rfl tb_1_212 dX7_isHeld_1 ?_
  refine lv_iload_n hx hb dX7_isHeld_4 rfl (lv_at hl 1 rfl) ?_
  refine lv_iconst (v := 2) hx hb dX7_isHeld_5 (by decide) ?_
  obtain ⟨v1, hv, hf⟩ := ob_some hf
  refine cI hS (runV hC hP hS (As := [.int x1, .int 2]) (rest := []) (k_X1_hullOf l G S x1 2 _ hv) vy_X1_hullOf sg_1 vc_1 tb_3_155 tb_2_203 tb_2_204 ⟨Nat.le_of_ble_eq_true rfl, Nat.le_of_ble_eq_true rfl⟩ rfl hl.1 rfl (Nat.le_of_ble_eq_true rfl) dX7_isHeld_6) (fun H locs hP hS => ?_)
  refine lv_istore (lv' := [(4, .int v1), (0, .ref (ad G 0)), (1, .int x1), (2, .int x2), (3, .int x3)]) hx hb dX7_isHeld_9 hl (by decide) rfl (fun ls hl => ?_)
  refine lv_iload_n hx hb dX7_isHeld_11 rfl (lv_at hl 3 rfl) ?_
  refine lv_iconst (v := 3) hx hb dX7_isHeld_12 (by decide) ?_
  refine lv_icmp_gt (tgt := 23) hx hb dX7_isHeld_13 (by decide) (fun hc => ?_) (fun hc => ?_)
  · rw [if_pos hc] at hf
    refine lv_iload hx hb dX7_isHeld_23 (lv_at hl 0 rfl) ?_
    exact w_X7_isHeld_25 hC hQ  _ _ _ _ _ _ _ hP hS (lv_sub hl [1, 2, 3, 4] rfl) hf
  · rw [if_neg hc] at hf
    refine lv_iload hx hb dX7_isHeld_16 (lv_at hl 0 rfl) ?_
    refine lv_iconst (v := 2) hx hb dX7_isHeld_18 (by decide) ?_
    obtain ⟨v2, hv, hf⟩ := ob_some hf
    refine xDv hC hv dX7_isHeld_19 ?_
    refine lv_goto (tgt := 25) hx hb dX7_isHeld_20 (by decide) ?_
    exact w_X7_isHeld_25 hC hQ  _ _ _ _ _ _ _ hP hS (lv_sub hl [1, 2, 3, 4] rfl) hf
def f_X7_bank (S : ST) (x1 : Int32) (x2 : Int32) (x3 : Int32) : Option Int32 := (f_X1_hasShip S x1).bind fun v1 => if v1 = 0 then (some (-1)) else ((f_X7_isPace x2).bind fun v2 => if v2 = 0 then (some (-1)) else ((f_X7_within x3 1 99).bind fun v3 => if v3 = 0 then (some (-1)) else ((f_X7_isHeld S x1 x2 x3).bind fun v4 => if v4 = 0 then (some 0) else (some 1))))
set_option maxRecDepth 100000 in
set_option maxHeartbeats 4000000 in
theorem k_X7_bank (l : Launch) (G : GT) (S : ST) (x1 : Int32) (x2 : Int32) (x3 : Int32) (r : Int32) (hf : f_X7_bank S x1 x2 x3 = some r) : MI l yX7_bank cX7_bank 4 (some .int) 3 [.ref (ad G 0), .int x1, .int x2, .int x3] G S r S := by
  rw [f_X7_bank] at hf
  refine mkI (own := RX7) (by decide +kernel) rfl rfl (Nat.le_of_ble_eq_true rfl) (fun p e s m args below meth c Q ls hC hP hS hl hQ => ?_)
  have hl : lv_has ls 4 [(0, .ref (ad G 0)), (1, .int x1), (2, .int x2), (3, .int x3)] := hl
  obtain ⟨hx, hb, hml, hown, hts⟩ := id hC.1
  refine lv_aload_n hx hb dX7_bank_0 rfl (lv_at hl 0 rfl) ?_
  refine gFr hC hP (j := 0) sg_0 vc_7 iT7 (by decide) rfl tb_1_212 dX7_bank_1 ?_
  refine lv_iload_n hx hb dX7_bank_4 rfl (lv_at hl 1 rfl) ?_
  obtain ⟨v1, hv, hf⟩ := ob_some hf
  refine cI hS (runV hC hP hS (As := [.int x1]) (rest := []) (k_X1_hasShip l G S x1 _ hv) vy_X1_hasShip sg_1 vc_1 tb_2_194 tb_2_195 tb_2_196 ⟨Nat.le_of_ble_eq_true rfl, Nat.le_of_ble_eq_true rfl⟩ rfl hl.1 rfl (Nat.le_of_ble_eq_true rfl) dX7_bank_5) (fun H locs hP hS => ?_)
  refine lv_if_eq (tgt := 28) hx hb dX7_bank_8 (by decide) (fun hc => ?_) (fun hc => ?_)
  · rw [if_pos hc] at hf
    refine lv_iconst (v := (-1)) hx hb dX7_bank_28 (by decide) ?_
    exact retI hQ hf hP hS dX7_bank_29
  · rw [if_neg hc] at hf
    refine lv_iload_n hx hb dX7_bank_11 rfl (lv_at hl 2 rfl) ?_
    obtain ⟨v2, hv, hf⟩ := ob_some hf
    refine cI hS (runS hC hP hS (As := [.int x2]) (rest := []) (k_X7_isPace l G S x2 _ hv) vy_X7_isPace tb_2_65 tb_2_66 ⟨Nat.le_of_ble_eq_true rfl, Nat.le_of_ble_eq_true rfl⟩ rfl hl.1 rfl (Nat.le_of_ble_eq_true rfl) dX7_bank_12) (fun H locs hP hS => ?_)
    refine lv_if_eq (tgt := 28) hx hb dX7_bank_15 (by decide) (fun hc => ?_) (fun hc => ?_)
    · rw [if_pos hc] at hf
      refine lv_iconst (v := (-1)) hx hb dX7_bank_28 (by decide) ?_
      exact retI hQ hf hP hS dX7_bank_29
    · rw [if_neg hc] at hf
      refine lv_iload_n hx hb dX7_bank_18 rfl (lv_at hl 3 rfl) ?_
      refine lv_iconst (v := 1) hx hb dX7_bank_19 (by decide) ?_
      refine lv_bipush (v := 99) hx hb dX7_bank_20 (by decide) ?_
      obtain ⟨v3, hv, hf⟩ := ob_some hf
      refine cI hS (runS hC hP hS (As := [.int x3, .int 1, .int 99]) (rest := []) (k_X7_within l G S x3 1 99 _ hv) vy_X7_within tb_2_14 tb_2_15 ⟨Nat.le_of_ble_eq_true rfl, Nat.le_of_ble_eq_true rfl⟩ rfl hl.1 rfl (Nat.le_of_ble_eq_true rfl) dX7_bank_22) (fun H locs hP hS => ?_)
      refine lv_if_ne (tgt := 30) hx hb dX7_bank_25 (by decide) (fun hc => ?_) (fun hc => ?_)
      · rw [if_neg hc] at hf
        refine lv_aload_n hx hb dX7_bank_30 rfl (lv_at hl 0 rfl) ?_
        refine lv_iload_n hx hb dX7_bank_31 rfl (lv_at hl 1 rfl) ?_
        refine lv_iload_n hx hb dX7_bank_32 rfl (lv_at hl 2 rfl) ?_
        refine lv_iload_n hx hb dX7_bank_33 rfl (lv_at hl 3 rfl) ?_
        obtain ⟨v4, hv, hf⟩ := ob_some hf
        refine cI hS (runV hC hP hS (As := [.int x1, .int x2, .int x3]) (rest := []) (k_X7_isHeld l G S x1 x2 x3 _ hv) vy_X7_isHeld sg_0 vc_7 tb_3_151 tb_3_153 ts_20 ⟨Nat.le_of_ble_eq_true rfl, Nat.le_of_ble_eq_true rfl⟩ rfl hl.1 rfl (Nat.le_of_ble_eq_true rfl) dX7_bank_34) (fun H locs hP hS => ?_)
        refine lv_if_eq (tgt := 44) hx hb dX7_bank_37 (by decide) (fun hc => ?_) (fun hc => ?_)
        · rw [if_pos hc] at hf
          refine lv_iconst (v := 0) hx hb dX7_bank_44 (by decide) ?_
          exact retI hQ hf hP hS dX7_bank_45
        · rw [if_neg hc] at hf
          refine lv_iconst (v := 1) hx hb dX7_bank_40 (by decide) ?_
          refine lv_goto (tgt := 45) hx hb dX7_bank_41 (by decide) ?_
          exact retI hQ hf hP hS dX7_bank_45
      · rw [if_pos hc] at hf
        refine lv_iconst (v := (-1)) hx hb dX7_bank_28 (by decide) ?_
        exact retI hQ hf hP hS dX7_bank_29
def f_X7_nearest_22 (S : ST)  : Nat → Int32 → Int32 → Int32 → Option Int32
  | 0, _, _, _ => none
  | n + 1, x1, x2, x3 => if 99 < x3 then (some (-4)) else ((f_X7_isHeld S x1 x2 x3).bind fun v1 => if v1 = 0 then (f_X7_nearest_22 S n x1 x2 (x3 + 1)) else (some x3))
set_option maxRecDepth 100000 in
set_option maxHeartbeats 4000000 in
theorem w_X7_nearest_22 {r : Int32} {S : ST} (hC : Cx p m c s args cX7_nearest 4 RX7 G) (hQ : KI p l e (rmH 3) s m args below meth c Q cX7_nearest G r S) : ∀ (n : Nat) (x1 : Int32) (x2 : Int32) (x3 : Int32) (H : Heap) (locs : List Loc) (ls : Array Slot), va_P (gD G) vwCl (cells G S) H → va_S (gA G) s.heap H locs → lv_has ls 4 [(0, .ref (ad G 0)), (1, .int x1), (2, .int x2), (3, .int x3)] → f_X7_nearest_22 S n x1 x2 x3 = some r → W p l e (rmH 3) s m args below meth c H locs 0 0 Q (F0 m 22 ls []) := by
  obtain ⟨hx, hb, hml, hown, hts⟩ := id hC.1
  intro n
  induction n with
  | zero => intro x1 x2 x3 H locs ls hP hS hl hf; rw [f_X7_nearest_22] at hf; cases hf
  | succ n ih =>
    intro x1 x2 x3 H locs ls hP hS hl hf
    rw [f_X7_nearest_22] at hf
    refine lv_iload_n hx hb dX7_nearest_22 rfl (lv_at hl 3 rfl) ?_
    refine lv_bipush (v := 99) hx hb dX7_nearest_23 (by decide) ?_
    refine lv_icmp_gt (tgt := 46) hx hb dX7_nearest_25 (by decide) (fun hc => ?_) (fun hc => ?_)
    · rw [if_pos hc] at hf
      refine lv_bipush (v := (-4)) hx hb dX7_nearest_46 (by decide) ?_
      exact retI hQ hf hP hS dX7_nearest_48
    · rw [if_neg hc] at hf
      refine lv_aload_n hx hb dX7_nearest_28 rfl (lv_at hl 0 rfl) ?_
      refine lv_iload_n hx hb dX7_nearest_29 rfl (lv_at hl 1 rfl) ?_
      refine lv_iload_n hx hb dX7_nearest_30 rfl (lv_at hl 2 rfl) ?_
      refine lv_iload_n hx hb dX7_nearest_31 rfl (lv_at hl 3 rfl) ?_
      obtain ⟨v1, hv, hf⟩ := ob_some hf
      refine cI hS (runV hC hP hS (As := [.int x1, .int x2, .int x3]) (rest := []) (k_X7_isHeld l G S x1 x2 x3 _ hv) vy_X7_isHeld sg_0 vc_7 tb_3_151 tb_3_153 ts_20 ⟨Nat.le_of_ble_eq_true rfl, Nat.le_of_ble_eq_true rfl⟩ rfl hl.1 rfl (Nat.le_of_ble_eq_true rfl) dX7_nearest_32) (fun H locs hP hS => ?_)
      refine lv_if_eq (tgt := 40) hx hb dX7_nearest_35 (by decide) (fun hc => ?_) (fun hc => ?_)
      · rw [if_pos hc] at hf
        refine lv_iinc (v := x3 + 1) (lv' := [(3, .int (x3 + 1)), (0, .ref (ad G 0)), (1, .int x1), (2, .int x2)]) hx hb dX7_nearest_40 hl (k := 3) rfl rfl (by decide) rfl (fun ls hl => ?_)
        refine lv_goto (tgt := 22) hx hb dX7_nearest_43 (by decide) ?_
        exact ih _ _ _ _ _ _ hP hS (lv_sub hl [1, 2, 3, 0] rfl) hf
      · rw [if_neg hc] at hf
        refine lv_iload_n hx hb dX7_nearest_38 rfl (lv_at hl 3 rfl) ?_
        exact retI hQ hf hP hS dX7_nearest_39
def f_X7_nearest (S : ST) (x1 : Int32) (x2 : Int32) : Option Int32 := (f_X1_hasShip S x1).bind fun v1 => if v1 = 0 then (some (-1)) else ((f_X7_isPace x2).bind fun v2 => if v2 = 0 then (some (-1)) else (f_X7_nearest_22 S FU x1 x2 1))
set_option maxRecDepth 100000 in
set_option maxHeartbeats 4000000 in
theorem k_X7_nearest (l : Launch) (G : GT) (S : ST) (x1 : Int32) (x2 : Int32) (r : Int32) (hf : f_X7_nearest S x1 x2 = some r) : MI l yX7_nearest cX7_nearest 4 (some .int) 3 [.ref (ad G 0), .int x1, .int x2] G S r S := by
  rw [f_X7_nearest] at hf
  refine mkI (own := RX7) (by decide +kernel) rfl rfl (Nat.le_of_ble_eq_true rfl) (fun p e s m args below meth c Q ls hC hP hS hl hQ => ?_)
  have hl : lv_has ls 4 [(0, .ref (ad G 0)), (1, .int x1), (2, .int x2)] := hl
  obtain ⟨hx, hb, hml, hown, hts⟩ := id hC.1
  refine lv_aload_n hx hb dX7_nearest_0 rfl (lv_at hl 0 rfl) ?_
  refine gFr hC hP (j := 0) sg_0 vc_7 iT7 (by decide) rfl tb_1_212 dX7_nearest_1 ?_
  refine lv_iload_n hx hb dX7_nearest_4 rfl (lv_at hl 1 rfl) ?_
  obtain ⟨v1, hv, hf⟩ := ob_some hf
  refine cI hS (runV hC hP hS (As := [.int x1]) (rest := []) (k_X1_hasShip l G S x1 _ hv) vy_X1_hasShip sg_1 vc_1 tb_2_194 tb_2_195 tb_2_196 ⟨Nat.le_of_ble_eq_true rfl, Nat.le_of_ble_eq_true rfl⟩ rfl hl.1 rfl (Nat.le_of_ble_eq_true rfl) dX7_nearest_5) (fun H locs hP hS => ?_)
  refine lv_if_eq (tgt := 18) hx hb dX7_nearest_8 (by decide) (fun hc => ?_) (fun hc => ?_)
  · rw [if_pos hc] at hf
    refine lv_iconst (v := (-1)) hx hb dX7_nearest_18 (by decide) ?_
    exact retI hQ hf hP hS dX7_nearest_19
  · rw [if_neg hc] at hf
    refine lv_iload_n hx hb dX7_nearest_11 rfl (lv_at hl 2 rfl) ?_
    obtain ⟨v2, hv, hf⟩ := ob_some hf
    refine cI hS (runS hC hP hS (As := [.int x2]) (rest := []) (k_X7_isPace l G S x2 _ hv) vy_X7_isPace tb_2_65 tb_2_66 ⟨Nat.le_of_ble_eq_true rfl, Nat.le_of_ble_eq_true rfl⟩ rfl hl.1 rfl (Nat.le_of_ble_eq_true rfl) dX7_nearest_12) (fun H locs hP hS => ?_)
    refine lv_if_ne (tgt := 20) hx hb dX7_nearest_15 (by decide) (fun hc => ?_) (fun hc => ?_)
    · rw [if_neg hc] at hf
      refine lv_iconst (v := 1) hx hb dX7_nearest_20 (by decide) ?_
      refine lv_istore_n (lv' := [(3, .int 1), (0, .ref (ad G 0)), (1, .int x1), (2, .int x2)]) hx hb dX7_nearest_21 rfl hl (by decide) rfl (fun ls hl => ?_)
      exact w_X7_nearest_22 hC hQ _ _ _ _ _ _ _ hP hS (lv_sub hl [1, 2, 3, 0] rfl) hf
    · rw [if_pos hc] at hf
      refine lv_iconst (v := (-1)) hx hb dX7_nearest_18 (by decide) ?_
      exact retI hQ hf hP hS dX7_nearest_19
def f_J6_compare_7cf53 (x0 : Int32) (x1 : Int32) : Option Int32 := if x1 ≤ x0 then (if x0 = x1 then (some 0) else (some 1)) else (some (-1))
set_option maxRecDepth 100000 in
set_option maxHeartbeats 4000000 in
theorem k_J6_compare_7cf53 (l : Launch) (G : GT) (S : ST) (x0 : Int32) (x1 : Int32) (r : Int32) (hf : f_J6_compare_7cf53 x0 x1 = some r) : MI l yJ6_compare_7cf53 cJ6_compare_7cf53 2 (some .int) 1 [.int x0, .int x1] G S r S := by
  rw [f_J6_compare_7cf53] at hf
  refine mkI (own := RJ6) (by decide +kernel) rfl rfl (Nat.le_of_ble_eq_true rfl) (fun p e s m args below meth c Q ls hC hP hS hl hQ => ?_)
  have hl : lv_has ls 2 [(0, .int x0), (1, .int x1)] := hl
  obtain ⟨hx, hb, hml, hown, hts⟩ := id hC.1
  refine lv_iload_n hx hb dJ6_compare_7cf53_0 rfl (lv_at hl 0 rfl) ?_
  refine lv_iload_n hx hb dJ6_compare_7cf53_1 rfl (lv_at hl 1 rfl) ?_
  refine lv_icmp_ge (tgt := 9) hx hb dJ6_compare_7cf53_2 (by decide) (fun hc => ?_) (fun hc => ?_)
  · rw [if_pos hc] at hf
    refine lv_iload_n hx hb dJ6_compare_7cf53_9 rfl (lv_at hl 0 rfl) ?_
    refine lv_iload_n hx hb dJ6_compare_7cf53_10 rfl (lv_at hl 1 rfl) ?_
    refine lv_icmp_ne (tgt := 18) hx hb dJ6_compare_7cf53_11 (by decide) (fun hc => ?_) (fun hc => ?_)
    · rw [if_neg hc] at hf
      refine lv_iconst (v := 1) hx hb dJ6_compare_7cf53_18 (by decide) ?_
      exact retI hQ hf hP hS dJ6_compare_7cf53_19
    · rw [if_pos hc] at hf
      refine lv_iconst (v := 0) hx hb dJ6_compare_7cf53_14 (by decide) ?_
      refine lv_goto (tgt := 19) hx hb dJ6_compare_7cf53_15 (by decide) ?_
      exact retI hQ hf hP hS dJ6_compare_7cf53_19
  · rw [if_neg hc] at hf
    refine lv_iconst (v := (-1)) hx hb dJ6_compare_7cf53_5 (by decide) ?_
    refine lv_goto (tgt := 19) hx hb dJ6_compare_7cf53_6 (by decide) ?_
    exact retI hQ hf hP hS dJ6_compare_7cf53_19
def f_J9_abs_0f7a4 (x0 : Int32) : Option Int32 := if 0 ≤ x0 then (some x0) else (some (-x0))
set_option maxRecDepth 100000 in
set_option maxHeartbeats 4000000 in
theorem k_J9_abs_0f7a4 (l : Launch) (G : GT) (S : ST) (x0 : Int32) (r : Int32) (hf : f_J9_abs_0f7a4 x0 = some r) : MI l yJ9_abs_0f7a4 cJ9_abs_0f7a4 1 (some .int) 1 [.int x0] G S r S := by
  rw [f_J9_abs_0f7a4] at hf
  refine mkI (own := RJ9) (by decide +kernel) rfl rfl (Nat.le_of_ble_eq_true rfl) (fun p e s m args below meth c Q ls hC hP hS hl hQ => ?_)
  have hl : lv_has ls 1 [(0, .int x0)] := hl
  obtain ⟨hx, hb, hml, hown, hts⟩ := id hC.1
  refine lv_iload_n hx hb dJ9_abs_0f7a4_0 rfl (lv_at hl 0 rfl) ?_
  refine lv_if_ge (tgt := 9) hx hb dJ9_abs_0f7a4_1 (by decide) (fun hc => ?_) (fun hc => ?_)
  · rw [if_pos hc] at hf
    refine lv_iload_n hx hb dJ9_abs_0f7a4_9 rfl (lv_at hl 0 rfl) ?_
    exact retI hQ hf hP hS dJ9_abs_0f7a4_10
  · rw [if_neg hc] at hf
    refine lv_iload_n hx hb dJ9_abs_0f7a4_4 rfl (lv_at hl 0 rfl) ?_
    refine lv_ineg hx hb dJ9_abs_0f7a4_5 ?_
    refine lv_goto (tgt := 10) hx hb dJ9_abs_0f7a4_6 (by decide) ?_
    exact retI hQ hf hP hS dJ9_abs_0f7a4_10
def f_X7_steered_34  : Nat → ST → Int32 → Int32 → Int32 → Int32 → Option (Int32 × ST)
  | 0, _, _, _, _, _ => none
  | n + 1, S, x1, x2, x3, x4 => if 60 < x4 then (some (0, S)) else ((f_J9_max_7cf53 0 ((x4 - x2) - 1)).bind fun v1 => (rI S 0 29 v1).bind fun v2 => (rI S 0 29 (x4 - 1)).bind fun v3 => (f_J6_compare_7cf53 v3 0).bind fun v4 => (dv (x1 * v2) 4).bind fun v5 => (rI S 0 29 (x4 - 1)).bind fun v6 => (wI S 29 x4 (v6 + (x3 + (v4 - v5)))).bind fun S7 => (rI S7 0 29 x4).bind fun v8 => (f_J9_abs_0f7a4 v8).bind fun v9 => if v9 < 40 then (f_X7_steered_34 n S7 x1 x2 (x3 + (v4 - v5)) (x4 + 1)) else (some (x4, S7)))
set_option maxRecDepth 100000 in
set_option maxHeartbeats 4000000 in
theorem w_X7_steered_34 {r : Int32} {S' : ST} (hC : Cx p m c s args cX7_steered 6 RX7 G) (hQ : KI p l e (rmH 2) s m args below meth c Q cX7_steered G r S') : ∀ (n : Nat) (S : ST) (x1 : Int32) (x2 : Int32) (x3 : Int32) (x4 : Int32) (H : Heap) (locs : List Loc) (ls : Array Slot), va_P (gD G) vwCl (cells G S) H → va_S (gA G) s.heap H locs → lv_has ls 6 [(0, .ref (ad G 0)), (1, .int x1), (2, .int x2), (3, .int x3), (4, .int x4)] → f_X7_steered_34 n S x1 x2 x3 x4 = some (r, S') → W p l e (rmH 2) s m args below meth c H locs 0 0 Q (F0 m 34 ls []) := by
  obtain ⟨hx, hb, hml, hown, hts⟩ := id hC.1
  intro n
  induction n with
  | zero => intro S x1 x2 x3 x4 H locs ls hP hS hl hf; rw [f_X7_steered_34] at hf; cases hf
  | succ n ih =>
    intro S x1 x2 x3 x4 H locs ls hP hS hl hf
    rw [f_X7_steered_34] at hf
    refine lv_iload hx hb dX7_steered_34 (lv_at hl 4 rfl) ?_
    refine lv_bipush (v := 60) hx hb dX7_steered_36 (by decide) ?_
    refine lv_icmp_gt (tgt := 123) hx hb dX7_steered_38 (by decide) (fun hc => ?_) (fun hc => ?_)
    · rw [if_pos hc] at hf
      refine lv_iconst (v := 0) hx hb dX7_steered_123 (by decide) ?_
      exact retIw hQ hf hP hS dX7_steered_124
    · rw [if_neg hc] at hf
      refine lv_aload_n hx hb dX7_steered_41 rfl (lv_at hl 0 rfl) ?_
      refine gFr hC hP (j := 8) sg_0 vc_7 iT7 (by decide) rfl tb_1_220 dX7_steered_42 ?_
      refine lv_iconst (v := 0) hx hb dX7_steered_45 (by decide) ?_
      refine lv_iload hx hb dX7_steered_46 (lv_at hl 4 rfl) ?_
      refine lv_iload_n hx hb dX7_steered_48 rfl (lv_at hl 2 rfl) ?_
      refine lv_isub hx hb dX7_steered_49 ?_
      refine lv_iconst (v := 1) hx hb dX7_steered_50 (by decide) ?_
      refine lv_isub hx hb dX7_steered_51 ?_
      obtain ⟨v1, hv, hf⟩ := ob_some hf
      refine cI hS (runS hC hP hS (As := [.int 0, .int ((x4 - x2) - 1)]) (rest := [.ref (ad G 29)]) (k_J9_max_7cf53 l G S 0 ((x4 - x2) - 1) _ hv) vy_J9_max_7cf53 tb_3_30 tb_2_151 ⟨Nat.le_of_ble_eq_true rfl, Nat.le_of_ble_eq_true rfl⟩ rfl hl.1 rfl (Nat.le_of_ble_eq_true rfl) dX7_steered_52) (fun H locs hP hS => ?_)
      obtain ⟨v2, hv, hf⟩ := ob_some hf
      refine gIa hC hP hv dX7_steered_55 ?_
      refine lv_istore (lv' := [(5, .int v2), (0, .ref (ad G 0)), (1, .int x1), (2, .int x2), (3, .int x3), (4, .int x4)]) hx hb dX7_steered_56 hl (by decide) rfl (fun ls hl => ?_)
      refine lv_iload_n hx hb dX7_steered_58 rfl (lv_at hl 4 rfl) ?_
      refine lv_aload_n hx hb dX7_steered_59 rfl (lv_at hl 1 rfl) ?_
      refine gFr hC hP (j := 8) sg_0 vc_7 iT7 (by decide) rfl tb_1_220 dX7_steered_60 ?_
      refine lv_iload hx hb dX7_steered_63 (lv_at hl 5 rfl) ?_
      refine lv_iconst (v := 1) hx hb dX7_steered_65 (by decide) ?_
      refine lv_isub hx hb dX7_steered_66 ?_
      obtain ⟨v3, hv, hf⟩ := ob_some hf
      refine gIa hC hP hv dX7_steered_67 ?_
      refine lv_iconst (v := 0) hx hb dX7_steered_68 (by decide) ?_
      obtain ⟨v4, hv, hf⟩ := ob_some hf
      refine cI hS (runS hC hP hS (As := [.int v3, .int 0]) (rest := [.int x3]) (k_J6_compare_7cf53 l G S v3 0 _ hv) vy_J6_compare_7cf53 tb_3_164 tb_3_165 ⟨Nat.le_of_ble_eq_true rfl, Nat.le_of_ble_eq_true rfl⟩ rfl hl.1 rfl (Nat.le_of_ble_eq_true rfl) dX7_steered_69) (fun H locs hP hS => ?_)
      refine lv_iload_n hx hb dX7_steered_72 rfl (lv_at hl 2 rfl) ?_
      refine lv_iload hx hb dX7_steered_73 (lv_at hl 0 rfl) ?_
      refine lv_imul hx hb dX7_steered_75 ?_
      refine lv_iconst (v := 4) hx hb dX7_steered_76 (by decide) ?_
      obtain ⟨v5, hv, hf⟩ := ob_some hf
      refine xDv hC hv dX7_steered_77 ?_
      refine lv_isub hx hb dX7_steered_78 ?_
      refine lv_iadd hx hb dX7_steered_79 ?_
      refine lv_istore_n (lv' := [(3, .int (x3 + (v4 - v5))), (5, .int v2), (0, .ref (ad G 0)), (1, .int x1), (2, .int x2), (4, .int x4)]) hx hb dX7_steered_80 rfl hl (by decide) rfl (fun ls hl => ?_)
      refine lv_aload_n hx hb dX7_steered_81 rfl (lv_at hl 2 rfl) ?_
      refine gFr hC hP (j := 8) sg_0 vc_7 iT7 (by decide) rfl tb_1_220 dX7_steered_82 ?_
      refine lv_iload hx hb dX7_steered_85 (lv_at hl 5 rfl) ?_
      refine lv_aload_n hx hb dX7_steered_87 rfl (lv_at hl 2 rfl) ?_
      refine gFr hC hP (j := 8) sg_0 vc_7 iT7 (by decide) rfl tb_1_220 dX7_steered_88 ?_
      refine lv_iload hx hb dX7_steered_91 (lv_at hl 5 rfl) ?_
      refine lv_iconst (v := 1) hx hb dX7_steered_93 (by decide) ?_
      refine lv_isub hx hb dX7_steered_94 ?_
      obtain ⟨v6, hv, hf⟩ := ob_some hf
      refine gIa hC hP hv dX7_steered_95 ?_
      refine lv_iload_n hx hb dX7_steered_96 rfl (lv_at hl 0 rfl) ?_
      refine lv_iadd hx hb dX7_steered_97 ?_
      obtain ⟨S7, hv, hf⟩ := ob_some hf
      refine sIa hC hP hS hv dX7_steered_98 (fun H locs hP hS => ?_)
      refine lv_aload_n hx hb dX7_steered_99 rfl (lv_at hl 2 rfl) ?_
      refine gFr hC hP (j := 8) sg_0 vc_7 iT7 (by decide) rfl tb_1_220 dX7_steered_100 ?_
      refine lv_iload hx hb dX7_steered_103 (lv_at hl 5 rfl) ?_
      obtain ⟨v8, hv, hf⟩ := ob_some hf
      refine gIa hC hP hv dX7_steered_105 ?_
      obtain ⟨v9, hv, hf⟩ := ob_some hf
      refine cI hS (runS hC hP hS (As := [.int v8]) (rest := []) (k_J9_abs_0f7a4 l G S7 v8 _ hv) vy_J9_abs_0f7a4 tb_3_167 tb_3_168 ⟨Nat.le_of_ble_eq_true rfl, Nat.le_of_ble_eq_true rfl⟩ rfl hl.1 rfl (Nat.le_of_ble_eq_true rfl) dX7_steered_106) (fun H locs hP hS => ?_)
      refine lv_bipush (v := 40) hx hb dX7_steered_109 (by decide) ?_
      refine lv_icmp_lt (tgt := 117) hx hb dX7_steered_111 (by decide) (fun hc => ?_) (fun hc => ?_)
      · rw [if_pos hc] at hf
        refine lv_iinc (v := x4 + 1) (lv' := [(4, .int (x4 + 1)), (3, .int (x3 + (v4 - v5))), (5, .int v2), (0, .ref (ad G 0)), (1, .int x1), (2, .int x2)]) hx hb dX7_steered_117 hl (k := 5) rfl rfl (by decide) rfl (fun ls hl => ?_)
        refine lv_goto (tgt := 34) hx hb dX7_steered_120 (by decide) ?_
        exact ih _ _ _ _ _ _ _ _ hP hS (lv_sub hl [3, 4, 5, 1, 0] rfl) hf
      · rw [if_neg hc] at hf
        refine lv_iload hx hb dX7_steered_114 (lv_at hl 5 rfl) ?_
        exact retIw hQ hf hP hS dX7_steered_116
def f_X7_steered (S : ST) (x1 : Int32) (x2 : Int32) : Option (Int32 × ST) := (f_X7_within x1 0 9).bind fun v1 => if v1 = 0 then (some ((-1), S)) else ((f_X7_within x2 0 5).bind fun v2 => if v2 = 0 then (some ((-1), S)) else ((wI S 29 0 8).bind fun S3 => f_X7_steered_34 FU S3 x1 x2 0 1))
set_option maxRecDepth 100000 in
set_option maxHeartbeats 4000000 in
theorem k_X7_steered (l : Launch) (G : GT) (S : ST) (x1 : Int32) (x2 : Int32) (r : Int32) (S' : ST) (hf : f_X7_steered S x1 x2 = some (r, S')) : MI l yX7_steered cX7_steered 6 (some .int) 2 [.ref (ad G 0), .int x1, .int x2] G S r S' := by
  rw [f_X7_steered] at hf
  refine mkI (own := RX7) (by decide +kernel) rfl rfl (Nat.le_of_ble_eq_true rfl) (fun p e s m args below meth c Q ls hC hP hS hl hQ => ?_)
  have hl : lv_has ls 6 [(0, .ref (ad G 0)), (1, .int x1), (2, .int x2)] := hl
  obtain ⟨hx, hb, hml, hown, hts⟩ := id hC.1
  refine lv_iload_n hx hb dX7_steered_0 rfl (lv_at hl 1 rfl) ?_
  refine lv_iconst (v := 0) hx hb dX7_steered_1 (by decide) ?_
  refine lv_bipush (v := 9) hx hb dX7_steered_2 (by decide) ?_
  obtain ⟨v1, hv, hf⟩ := ob_some hf
  refine cI hS (runS hC hP hS (As := [.int x1, .int 0, .int 9]) (rest := []) (k_X7_within l G S x1 0 9 _ hv) vy_X7_within tb_2_14 tb_2_15 ⟨Nat.le_of_ble_eq_true rfl, Nat.le_of_ble_eq_true rfl⟩ rfl hl.1 rfl (Nat.le_of_ble_eq_true rfl) dX7_steered_4) (fun H locs hP hS => ?_)
  refine lv_if_eq (tgt := 19) hx hb dX7_steered_7 (by decide) (fun hc => ?_) (fun hc => ?_)
  · rw [if_pos hc] at hf
    refine lv_iconst (v := (-1)) hx hb dX7_steered_19 (by decide) ?_
    exact retIw hQ hf hP hS dX7_steered_20
  · rw [if_neg hc] at hf
    refine lv_iload_n hx hb dX7_steered_10 rfl (lv_at hl 2 rfl) ?_
    refine lv_iconst (v := 0) hx hb dX7_steered_11 (by decide) ?_
    refine lv_iconst (v := 5) hx hb dX7_steered_12 (by decide) ?_
    obtain ⟨v2, hv, hf⟩ := ob_some hf
    refine cI hS (runS hC hP hS (As := [.int x2, .int 0, .int 5]) (rest := []) (k_X7_within l G S x2 0 5 _ hv) vy_X7_within tb_2_14 tb_2_15 ⟨Nat.le_of_ble_eq_true rfl, Nat.le_of_ble_eq_true rfl⟩ rfl hl.1 rfl (Nat.le_of_ble_eq_true rfl) dX7_steered_13) (fun H locs hP hS => ?_)
    refine lv_if_ne (tgt := 21) hx hb dX7_steered_16 (by decide) (fun hc => ?_) (fun hc => ?_)
    · rw [if_neg hc] at hf
      refine lv_iconst (v := 0) hx hb dX7_steered_21 (by decide) ?_
      refine lv_istore_n (lv' := [(3, .int 0), (0, .ref (ad G 0)), (1, .int x1), (2, .int x2)]) hx hb dX7_steered_22 rfl hl (by decide) rfl (fun ls hl => ?_)
      refine lv_aload_n hx hb dX7_steered_23 rfl (lv_at hl 1 rfl) ?_
      refine gFr hC hP (j := 8) sg_0 vc_7 iT7 (by decide) rfl tb_1_220 dX7_steered_24 ?_
      refine lv_iconst (v := 0) hx hb dX7_steered_27 (by decide) ?_
      refine lv_bipush (v := 8) hx hb dX7_steered_28 (by decide) ?_
      obtain ⟨S3, hv, hf⟩ := ob_some hf
      refine sIa hC hP hS hv dX7_steered_30 (fun H locs hP hS => ?_)
      refine lv_iconst (v := 1) hx hb dX7_steered_31 (by decide) ?_
      refine lv_istore (lv' := [(4, .int 1), (3, .int 0), (0, .ref (ad G 0)), (1, .int x1), (2, .int x2)]) hx hb dX7_steered_32 hl (by decide) rfl (fun ls hl => ?_)
      exact w_X7_steered_34 hC hQ _ _ _ _ _ _ _ _ _ hP hS (lv_sub hl [2, 3, 4, 1, 0] rfl) hf
    · rw [if_pos hc] at hf
      refine lv_iconst (v := (-1)) hx hb dX7_steered_19 (by decide) ?_
      exact retIw hQ hf hP hS dX7_steered_20
def f_X7_areTwo (S : ST) (x1 : Int32) (x2 : Int32) : Option Int32 := (f_X1_hasShip S x1).bind fun v1 => if v1 = 0 then (some 0) else ((f_X1_hasShip S x2).bind fun v2 => if v2 = 0 then (some 0) else (if x1 = x2 then (some 0) else (some 1)))
set_option maxRecDepth 100000 in
set_option maxHeartbeats 4000000 in
theorem k_X7_areTwo (l : Launch) (G : GT) (S : ST) (x1 : Int32) (x2 : Int32) (r : Int32) (hf : f_X7_areTwo S x1 x2 = some r) : MI l yX7_areTwo cX7_areTwo 3 (some .boolean) 2 [.ref (ad G 0), .int x1, .int x2] G S r S := by
  rw [f_X7_areTwo] at hf
  refine mkZ (own := RX7) (by decide +kernel) rfl (Nat.le_of_ble_eq_true rfl) (fun p e s m args below meth c Q ls hC hP hS hl hQ => ?_)
  have hl : lv_has ls 3 [(0, .ref (ad G 0)), (1, .int x1), (2, .int x2)] := hl
  obtain ⟨hx, hb, hml, hown, hts⟩ := id hC.1
  refine lv_aload_n hx hb dX7_areTwo_0 rfl (lv_at hl 0 rfl) ?_
  refine gFr hC hP (j := 0) sg_0 vc_7 iT7 (by decide) rfl tb_1_212 dX7_areTwo_1 ?_
  refine lv_iload_n hx hb dX7_areTwo_4 rfl (lv_at hl 1 rfl) ?_
  obtain ⟨v1, hv, hf⟩ := ob_some hf
  refine cI hS (runV hC hP hS (As := [.int x1]) (rest := []) (k_X1_hasShip l G S x1 _ hv) vy_X1_hasShip sg_1 vc_1 tb_2_194 tb_2_195 tb_2_196 ⟨Nat.le_of_ble_eq_true rfl, Nat.le_of_ble_eq_true rfl⟩ rfl hl.1 rfl (Nat.le_of_ble_eq_true rfl) dX7_areTwo_5) (fun H locs hP hS => ?_)
  refine lv_if_eq (tgt := 31) hx hb dX7_areTwo_8 (by decide) (fun hc => ?_) (fun hc => ?_)
  · rw [if_pos hc] at hf
    refine lv_iconst (v := 0) hx hb dX7_areTwo_31 (by decide) ?_
    exact retZ hQ rfl hf hP hS dX7_areTwo_32
  · rw [if_neg hc] at hf
    refine lv_aload_n hx hb dX7_areTwo_11 rfl (lv_at hl 0 rfl) ?_
    refine gFr hC hP (j := 0) sg_0 vc_7 iT7 (by decide) rfl tb_1_212 dX7_areTwo_12 ?_
    refine lv_iload_n hx hb dX7_areTwo_15 rfl (lv_at hl 2 rfl) ?_
    obtain ⟨v2, hv, hf⟩ := ob_some hf
    refine cI hS (runV hC hP hS (As := [.int x2]) (rest := []) (k_X1_hasShip l G S x2 _ hv) vy_X1_hasShip sg_1 vc_1 tb_2_194 tb_2_195 tb_2_196 ⟨Nat.le_of_ble_eq_true rfl, Nat.le_of_ble_eq_true rfl⟩ rfl hl.1 rfl (Nat.le_of_ble_eq_true rfl) dX7_areTwo_16) (fun H locs hP hS => ?_)
    refine lv_if_eq (tgt := 31) hx hb dX7_areTwo_19 (by decide) (fun hc => ?_) (fun hc => ?_)
    · rw [if_pos hc] at hf
      refine lv_iconst (v := 0) hx hb dX7_areTwo_31 (by decide) ?_
      exact retZ hQ rfl hf hP hS dX7_areTwo_32
    · rw [if_neg hc] at hf
      refine lv_iload_n hx hb dX7_areTwo_22 rfl (lv_at hl 1 rfl) ?_
      refine lv_iload_n hx hb dX7_areTwo_23 rfl (lv_at hl 2 rfl) ?_
      refine lv_icmp_eq (tgt := 31) hx hb dX7_areTwo_24 (by decide) (fun hc => ?_) (fun hc => ?_)
      · rw [if_pos hc] at hf
        refine lv_iconst (v := 0) hx hb dX7_areTwo_31 (by decide) ?_
        exact retZ hQ rfl hf hP hS dX7_areTwo_32
      · rw [if_neg hc] at hf
        refine lv_iconst (v := 1) hx hb dX7_areTwo_27 (by decide) ?_
        refine lv_goto (tgt := 32) hx hb dX7_areTwo_28 (by decide) ?_
        exact retZ hQ rfl hf hP hS dX7_areTwo_32
end
