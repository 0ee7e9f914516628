section
variable {p : Program} {l : Launch} {e : Env} {s : State} {m : MethodId} {args : Array Value} {below : List Frame} {meth : Method} {c : Code} {Q : State → Prop} {G : GT}

def f_X7_run (S : ST) (x1 : Int32) (x2 : Int32) (x3 : Int32) : Option (Int32 × ST) := (f_X7_isStart S x1 x2).bind fun v1 => if v1 = 0 then (some ((-1), S)) else ((f_X7_within x3 0 3).bind fun v2 => if v2 = 0 then (some ((-1), S)) else (if (S.1 1 0) = 0 then (some ((-2), S)) else ((f_X5_begin S x1).bind fun S3 => (f_X6_sail S3 x2).bind fun S4 => if x3 = 0 then (some ((S4.1 12 1), S4)) else (if x3 = 1 then (some ((S4.1 12 2), S4)) else (if x3 = 2 then (some (((S4.1 12 3) + 100000), S4)) else (if (S4.1 12 3) < (S4.1 11 6) then (some (0, S4)) else (some (1, S4))))))))
set_option maxRecDepth 100000 in
set_option maxHeartbeats 4000000 in
theorem k_X7_run (l : Launch) (G : GT) (S : ST) (x1 : Int32) (x2 : Int32) (x3 : Int32) (r : Int32) (S' : ST) (hf : f_X7_run S x1 x2 x3 = some (r, S')) : MI l yX7_run cX7_run 4 (some .int) 5 [.ref (ad G 0), .int x1, .int x2, .int x3] G S r S' := by
  rw [f_X7_run] at hf
  refine mkI (own := RX7) (by decide +kernel) rfl rfl (Nat.le_of_ble_eq_true rfl) (fun p e s m args below meth c Q ls hC hP hS hl hQ => ?_)
  have hl : lv_has ls 4 [(0, .ref (ad G 0)), (1, .int x1), (2, .int x2), (3, .int x3)] := hl
  obtain ⟨hx, hb, hml, hown, hts⟩ := id hC.1
  refine lv_aload_n hx hb dX7_run_0 rfl (lv_at hl 0 rfl) ?_
  refine lv_iload_n hx hb dX7_run_1 rfl (lv_at hl 1 rfl) ?_
  refine lv_iload_n hx hb dX7_run_2 rfl (lv_at hl 2 rfl) ?_
  obtain ⟨v1, hv, hf⟩ := ob_some hf
  refine cI hS (runV hC hP hS (As := [.int x1, .int x2]) (rest := []) (k_X7_isStart l G S x1 x2 _ hv) vy_X7_isStart sg_0 vc_7 tb_3_11 tb_3_13 ts_12 ⟨Nat.le_of_ble_eq_true rfl, Nat.le_of_ble_eq_true rfl⟩ rfl hl.1 rfl (Nat.le_of_ble_eq_true rfl) dX7_run_3) (fun H locs hP hS => ?_)
  refine lv_if_eq (tgt := 18) hx hb dX7_run_6 (by decide) (fun hc => ?_) (fun hc => ?_)
  · rw [if_pos hc] at hf
    refine lv_iconst (v := (-1)) hx hb dX7_run_18 (by decide) ?_
    exact retIw hQ hf hP hS dX7_run_19
  · rw [if_neg hc] at hf
    refine lv_iload_n hx hb dX7_run_9 rfl (lv_at hl 3 rfl) ?_
    refine lv_iconst (v := 0) hx hb dX7_run_10 (by decide) ?_
    refine lv_iconst (v := 3) hx hb dX7_run_11 (by decide) ?_
    obtain ⟨v2, hv, hf⟩ := ob_some hf
    refine cI hS (runS hC hP hS (As := [.int x3, .int 0, .int 3]) (rest := []) (k_X7_within l G S x3 0 3 _ hv) vy_X7_within tb_2_14 tb_2_15 ⟨Nat.le_of_ble_eq_true rfl, Nat.le_of_ble_eq_true rfl⟩ rfl hl.1 rfl (Nat.le_of_ble_eq_true rfl) dX7_run_12) (fun H locs hP hS => ?_)
    refine lv_if_ne (tgt := 20) hx hb dX7_run_15 (by decide) (fun hc => ?_) (fun hc => ?_)
    · rw [if_neg hc] at hf
      refine lv_aload_n hx hb dX7_run_20 rfl (lv_at hl 0 rfl) ?_
      refine gFr hC hP (j := 0) sg_0 vc_7 iT7 (by decide) rfl tb_1_212 dX7_run_21 ?_
      refine gFi hC hP (j := 0) sg_1 vc_1 iT1 (by decide) rfl tb_1_31 dX7_run_24 ?_
      refine lv_if_ne (tgt := 33) hx hb dX7_run_27 (by decide) (fun hc => ?_) (fun hc => ?_)
      · rw [if_neg hc] at hf
        refine lv_aload_n hx hb dX7_run_33 rfl (lv_at hl 0 rfl) ?_
        refine gFr hC hP (j := 2) sg_0 vc_7 iT7 (by decide) rfl tb_1_214 dX7_run_34 ?_
        refine lv_iload_n hx hb dX7_run_37 rfl (lv_at hl 1 rfl) ?_
        obtain ⟨S3, hv, hf⟩ := ob_some hf
        refine cV hS (runV hC hP hS (As := [.int x1]) (rest := []) (k_X5_begin l G S x1 _ hv) vy_X5_begin sg_11 vc_5 tb_2_198 tb_2_199 tb_2_200 ⟨Nat.le_of_ble_eq_true rfl, Nat.le_of_ble_eq_true rfl⟩ rfl hl.1 rfl (Nat.le_of_ble_eq_true rfl) dX7_run_38) (fun H locs hP hS => ?_)
        refine lv_aload_n hx hb dX7_run_41 rfl (lv_at hl 0 rfl) ?_
        refine gFr hC hP (j := 3) sg_0 vc_7 iT7 (by decide) rfl tb_1_215 dX7_run_42 ?_
        refine lv_aload_n hx hb dX7_run_45 rfl (lv_at hl 0 rfl) ?_
        refine gFr hC hP (j := 2) sg_0 vc_7 iT7 (by decide) rfl tb_1_214 dX7_run_46 ?_
        refine lv_iload_n hx hb dX7_run_49 rfl (lv_at hl 2 rfl) ?_
        obtain ⟨S4, hv, hf⟩ := ob_some hf
        refine cV hS (runV hC hP hS (As := [.ref (ad G 11), .int x2]) (rest := []) (k_X6_sail l G S3 x2 _ hv) vy_X6_sail sg_12 vc_6 tb_3_18 tb_3_19 tb_3_20 ⟨Nat.le_of_ble_eq_true rfl, Nat.le_of_ble_eq_true rfl⟩ rfl hl.1 rfl (Nat.le_of_ble_eq_true rfl) dX7_run_50) (fun H locs hP hS => ?_)
        refine lv_iload_n hx hb dX7_run_53 rfl (lv_at hl 3 rfl) ?_
        by_cases hc0 : x3 = 0
        · rw [if_pos hc0] at hf
          refine lv_tableIn (off := 26) (tgt := 80) hx hb dX7_run_54 (by rw [hc0]; decide) (by rw [hc0]; decide) (by rw [hc0]; rfl) (by decide) ?_
          refine lv_aload_n hx hb dX7_run_80 rfl (lv_at hl 0 rfl) ?_
          refine gFr hC hP (j := 3) sg_0 vc_7 iT7 (by decide) rfl tb_1_215 dX7_run_81 ?_
          refine gFi hC hP (j := 1) sg_12 vc_6 iT6 (by decide) rfl tb_1_100 dX7_run_84 ?_
          exact retIw hQ hf hP hS dX7_run_87
        · rw [if_neg hc0] at hf
          by_cases hc1 : x3 = 1
          · rw [if_pos hc1] at hf
            refine lv_tableIn (off := 34) (tgt := 88) hx hb dX7_run_54 (by rw [hc1]; decide) (by rw [hc1]; decide) (by rw [hc1]; rfl) (by decide) ?_
            refine lv_aload_n hx hb dX7_run_88 rfl (lv_at hl 0 rfl) ?_
            refine gFr hC hP (j := 3) sg_0 vc_7 iT7 (by decide) rfl tb_1_215 dX7_run_89 ?_
            refine gFi hC hP (j := 2) sg_12 vc_6 iT6 (by decide) rfl tb_1_102 dX7_run_92 ?_
            exact retIw hQ hf hP hS dX7_run_95
          · rw [if_neg hc1] at hf
            by_cases hc2 : x3 = 2
            · rw [if_pos hc2] at hf
              refine lv_tableIn (off := 42) (tgt := 96) hx hb dX7_run_54 (by rw [hc2]; decide) (by rw [hc2]; decide) (by rw [hc2]; rfl) (by decide) ?_
              refine lv_aload_n hx hb dX7_run_96 rfl (lv_at hl 0 rfl) ?_
              refine gFr hC hP (j := 3) sg_0 vc_7 iT7 (by decide) rfl tb_1_215 dX7_run_97 ?_
              refine gFi hC hP (j := 3) sg_12 vc_6 iT6 (by decide) rfl tb_1_104 dX7_run_100 ?_
              refine lv_ldc hx hb hown (hts _ tb_3_31) dX7_run_103 ?_
              refine lv_iadd hx hb dX7_run_105 ?_
              exact retIw hQ hf hP hS dX7_run_106
            · rw [if_neg hc2] at hf
              refine lv_tableOut (tgt := 107) hx hb dX7_run_54 (tsOut (fun k h1 h2 => ?_)) (by decide) ?_
              · rcases (show k = 0 ∨ k = 1 ∨ k = 2 by omega) with rfl | rfl | rfl
                · exact hc0
                · exact hc1
                · exact hc2
              refine lv_aload_n hx hb dX7_run_107 rfl (lv_at hl 0 rfl) ?_
              refine gFr hC hP (j := 3) sg_0 vc_7 iT7 (by decide) rfl tb_1_215 dX7_run_108 ?_
              refine gFi hC hP (j := 3) sg_12 vc_6 iT6 (by decide) rfl tb_1_104 dX7_run_111 ?_
              refine lv_aload_n hx hb dX7_run_114 rfl (lv_at hl 0 rfl) ?_
              refine gFr hC hP (j := 2) sg_0 vc_7 iT7 (by decide) rfl tb_1_214 dX7_run_115 ?_
              refine gFi hC hP (j := 6) sg_11 vc_5 iT5 (by decide) rfl tb_1_72 dX7_run_118 ?_
              refine lv_icmp_lt (tgt := 128) hx hb dX7_run_121 (by decide) (fun hc => ?_) (fun hc => ?_)
              · rw [if_pos hc] at hf
                refine lv_iconst (v := 0) hx hb dX7_run_128 (by decide) ?_
                exact retIw hQ hf hP hS dX7_run_129
              · rw [if_neg hc] at hf
                refine lv_iconst (v := 1) hx hb dX7_run_124 (by decide) ?_
                refine lv_goto (tgt := 129) hx hb dX7_run_125 (by decide) ?_
                exact retIw hQ hf hP hS dX7_run_129
      · rw [if_pos hc] at hf
        refine lv_bipush (v := (-2)) hx hb dX7_run_30 (by decide) ?_
        exact retIw hQ hf hP hS dX7_run_32
    · rw [if_pos hc] at hf
      refine lv_iconst (v := (-1)) hx hb dX7_run_18 (by decide) ?_
      exact retIw hQ hf hP hS dX7_run_19
def f_X7_refusalAt (S : ST) (x1 : Int32) (x2 : Int32) (x3 : Int32) (x4 : Int32) : Option Int32 := (f_X7_isStart S x1 x2).bind fun v1 => if v1 = 0 then (some (-1)) else ((f_X7_within x3 x4 15).bind fun v2 => if v2 = 0 then (some (-1)) else (if (S.1 1 0) = 0 then (some (-2)) else (if (S.1 1 0) ≤ x3 then (some (-1)) else (some 0))))
set_option maxRecDepth 100000 in
set_option maxHeartbeats 4000000 in
theorem k_X7_refusalAt (l : Launch) (G : GT) (S : ST) (x1 : Int32) (x2 : Int32) (x3 : Int32) (x4 : Int32) (r : Int32) (hf : f_X7_refusalAt S x1 x2 x3 x4 = some r) : MI l yX7_refusalAt cX7_refusalAt 5 (some .int) 4 [.ref (ad G 0), .int x1, .int x2, .int x3, .int x4] G S r S := by
  rw [f_X7_refusalAt] at hf
  refine mkI (own := RX7) (by decide +kernel) rfl rfl (Nat.le_of_ble_eq_true rfl) (fun p e s m args below meth c Q ls hC hP hS hl hQ => ?_)
  have hl : lv_has ls 5 [(0, .ref (ad G 0)), (1, .int x1), (2, .int x2), (3, .int x3), (4, .int x4)] := hl
  obtain ⟨hx, hb, hml, hown, hts⟩ := id hC.1
  refine lv_aload_n hx hb dX7_refusalAt_0 rfl (lv_at hl 0 rfl) ?_
  refine lv_iload_n hx hb dX7_refusalAt_1 rfl (lv_at hl 1 rfl) ?_
  refine lv_iload_n hx hb dX7_refusalAt_2 rfl (lv_at hl 2 rfl) ?_
  obtain ⟨v1, hv, hf⟩ := ob_some hf
  refine cI hS (runV hC hP hS (As := [.int x1, .int x2]) (rest := []) (k_X7_isStart l G S x1 x2 _ hv) vy_X7_isStart sg_0 vc_7 tb_3_11 tb_3_13 ts_12 ⟨Nat.le_of_ble_eq_true rfl, Nat.le_of_ble_eq_true rfl⟩ rfl hl.1 rfl (Nat.le_of_ble_eq_true rfl) dX7_refusalAt_3) (fun H locs hP hS => ?_)
  refine lv_if_eq (tgt := 20) hx hb dX7_refusalAt_6 (by decide) (fun hc => ?_) (fun hc => ?_)
  · rw [if_pos hc] at hf
    refine lv_iconst (v := (-1)) hx hb dX7_refusalAt_20 (by decide) ?_
    exact retI hQ hf hP hS dX7_refusalAt_21
  · rw [if_neg hc] at hf
    refine lv_iload_n hx hb dX7_refusalAt_9 rfl (lv_at hl 3 rfl) ?_
    refine lv_iload hx hb dX7_refusalAt_10 (lv_at hl 4 rfl) ?_
    refine lv_bipush (v := 15) hx hb dX7_refusalAt_12 (by decide) ?_
    obtain ⟨v2, hv, hf⟩ := ob_some hf
    refine cI hS (runS hC hP hS (As := [.int x3, .int x4, .int 15]) (rest := []) (k_X7_within l G S x3 x4 15 _ hv) vy_X7_within tb_2_14 tb_2_15 ⟨Nat.le_of_ble_eq_true rfl, Nat.le_of_ble_eq_true rfl⟩ rfl hl.1 rfl (Nat.le_of_ble_eq_true rfl) dX7_refusalAt_14) (fun H locs hP hS => ?_)
    refine lv_if_ne (tgt := 22) hx hb dX7_refusalAt_17 (by decide) (fun hc => ?_) (fun hc => ?_)
    · rw [if_neg hc] at hf
      refine lv_aload_n hx hb dX7_refusalAt_22 rfl (lv_at hl 0 rfl) ?_
      refine gFr hC hP (j := 0) sg_0 vc_7 iT7 (by decide) rfl tb_1_212 dX7_refusalAt_23 ?_
      refine gFi hC hP (j := 0) sg_1 vc_1 iT1 (by decide) rfl tb_1_31 dX7_refusalAt_26 ?_
      refine lv_if_ne (tgt := 35) hx hb dX7_refusalAt_29 (by decide) (fun hc => ?_) (fun hc => ?_)
      · rw [if_neg hc] at hf
        refine lv_iload_n hx hb dX7_refusalAt_35 rfl (lv_at hl 3 rfl) ?_
        refine lv_aload_n hx hb dX7_refusalAt_36 rfl (lv_at hl 0 rfl) ?_
        refine gFr hC hP (j := 0) sg_0 vc_7 iT7 (by decide) rfl tb_1_212 dX7_refusalAt_37 ?_
        refine gFi hC hP (j := 0) sg_1 vc_1 iT1 (by decide) rfl tb_1_31 dX7_refusalAt_40 ?_
        refine lv_icmp_ge (tgt := 50) hx hb dX7_refusalAt_43 (by decide) (fun hc => ?_) (fun hc => ?_)
        · rw [if_pos hc] at hf
          refine lv_iconst (v := (-1)) hx hb dX7_refusalAt_50 (by decide) ?_
          exact retI hQ hf hP hS dX7_refusalAt_51
        · rw [if_neg hc] at hf
          refine lv_iconst (v := 0) hx hb dX7_refusalAt_46 (by decide) ?_
          refine lv_goto (tgt := 51) hx hb dX7_refusalAt_47 (by decide) ?_
          exact retI hQ hf hP hS dX7_refusalAt_51
      · rw [if_pos hc] at hf
        refine lv_bipush (v := (-2)) hx hb dX7_refusalAt_32 (by decide) ?_
        exact retI hQ hf hP hS dX7_refusalAt_34
    · rw [if_pos hc] at hf
      refine lv_iconst (v := (-1)) hx hb dX7_refusalAt_20 (by decide) ?_
      exact retI hQ hf hP hS dX7_refusalAt_21
def f_X2_isLaid_57 (S : ST)  (k24 : Int32 → Int32 → Option Int32) (x2 : Int32) (y0 : Int32) : Option Int32 := k24 y0 (x2 + 1)
set_option maxRecDepth 100000 in
set_option maxHeartbeats 4000000 in
theorem w_X2_isLaid_57 {r : Int32} {S : ST} (hC : Cx p m c s args cX2_isLaid 3 RX2 G) (hQ : KZ p l e (rmH 1) s m args below meth c Q cX2_isLaid G r S) {k24 : Int32 → Int32 → Option Int32} (hk24 : ∀ (x1 : Int32) (x2 : Int32) (H : Heap) (locs : List Loc) (ls : Array Slot), va_P (gD G) vwCl (cells G S) H → va_S (gA G) s.heap H locs → lv_has ls 3 [(0, .ref (ad G 13)), (1, .int x1), (2, .int x2)] → k24 x1 x2 = some r → W p l e (rmH 1) s m args below meth c H locs 0 0 Q (F0 m 24 ls [])) (x2 : Int32) (y0 : Int32) (H : Heap) (locs : List Loc) (ls : Array Slot) (hP : va_P (gD G) vwCl (cells G S) H) (hS : va_S (gA G) s.heap H locs) (hl : lv_has ls 3 [(0, .ref (ad G 13)), (2, .int x2)]) (hf : f_X2_isLaid_57 S k24 x2 y0 = some r) : W p l e (rmH 1) s m args below meth c H locs 0 0 Q (F0 m 57 ls [.int y0]) := by
  obtain ⟨hx, hb, hml, hown, hts⟩ := id hC.1
  rw [f_X2_isLaid_57] at hf
  refine lv_istore_n (lv' := [(1, .int y0), (0, .ref (ad G 13)), (2, .int x2)]) hx hb dX2_isLaid_57 rfl hl (by decide) rfl (fun ls hl => ?_)
  refine lv_iinc (v := x2 + 1) (lv' := [(2, .int (x2 + 1)), (1, .int y0), (0, .ref (ad G 13))]) hx hb dX2_isLaid_58 hl (k := 2) rfl rfl (by decide) rfl (fun ls hl => ?_)
  refine lv_goto (tgt := 24) hx hb dX2_isLaid_61 (by decide) ?_
  exact hk24 _ _ _ _ _ hP hS (lv_sub hl [2, 1, 0] rfl) hf
def f_X2_isLaid_24 (S : ST)  : Nat → Int32 → Int32 → Option Int32
  | 0, _, _ => none
  | n + 1, x1, x2 => if 24 ≤ x2 then ((bz x1).bind fun v1 => some v1) else (if x1 = 0 then ((bz x1).bind fun v2 => some v2) else ((rI S 0 14 x2).bind fun v3 => (rI S 0 2 x2).bind fun v4 => if v3 = v4 then (f_X2_isLaid_57 S (f_X2_isLaid_24 S n) x2 1) else (f_X2_isLaid_57 S (f_X2_isLaid_24 S n) x2 0)))
set_option maxRecDepth 100000 in
set_option maxHeartbeats 4000000 in
theorem w_X2_isLaid_24 {r : Int32} {S : ST} (hC : Cx p m c s args cX2_isLaid 3 RX2 G) (hQ : KZ p l e (rmH 1) s m args below meth c Q cX2_isLaid G r S) : ∀ (n : Nat) (x1 : Int32) (x2 : Int32) (H : Heap) (locs : List Loc) (ls : Array Slot), va_P (gD G) vwCl (cells G S) H → va_S (gA G) s.heap H locs → lv_has ls 3 [(0, .ref (ad G 13)), (1, .int x1), (2, .int x2)] → f_X2_isLaid_24 S n x1 x2 = some r → W p l e (rmH 1) s m args below meth c H locs 0 0 Q (F0 m 24 ls []) := by
  obtain ⟨hx, hb, hml, hown, hts⟩ := id hC.1
  intro n
  induction n with
  | zero => intro x1 x2 H locs ls hP hS hl hf; rw [f_X2_isLaid_24] at hf; cases hf
  | succ n ih =>
    intro x1 x2 H locs ls hP hS hl hf
    rw [f_X2_isLaid_24] at hf
    refine lv_iload_n hx hb dX2_isLaid_24 rfl (lv_at hl 2 rfl) ?_
    refine lv_bipush (v := 24) hx hb dX2_isLaid_25 (by decide) ?_
    refine lv_icmp_ge (tgt := 64) hx hb dX2_isLaid_27 (by decide) (fun hc => ?_) (fun hc => ?_)
    · rw [if_pos hc] at hf
      refine lv_iload_n hx hb dX2_isLaid_64 rfl (lv_at hl 1 rfl) ?_
      obtain ⟨v1, hv, hf⟩ := ob_some hf
      refine bzW hv ?_
      exact retZ hQ (bz_n hv) hf hP hS dX2_isLaid_65
    · rw [if_neg hc] at hf
      refine lv_iload_n hx hb dX2_isLaid_30 rfl (lv_at hl 1 rfl) ?_
      refine lv_if_eq (tgt := 64) hx hb dX2_isLaid_31 (by decide) (fun hc => ?_) (fun hc => ?_)
      · rw [if_pos hc] at hf
        refine lv_iload_n hx hb dX2_isLaid_64 rfl (lv_at hl 1 rfl) ?_
        obtain ⟨v2, hv, hf⟩ := ob_some hf
        refine bzW hv ?_
        exact retZ hQ (bz_n hv) hf hP hS dX2_isLaid_65
      · rw [if_neg hc] at hf
        refine lv_aload_n hx hb dX2_isLaid_34 rfl (lv_at hl 0 rfl) ?_
        refine gFr hC hP (j := 1) sg_13 vc_2 iT2 (by decide) rfl tb_1_125 dX2_isLaid_35 ?_
        refine lv_iload_n hx hb dX2_isLaid_38 rfl (lv_at hl 2 rfl) ?_
        obtain ⟨v3, hv, hf⟩ := ob_some hf
        refine gIa hC hP hv dX2_isLaid_39 ?_
        refine lv_aload_n hx hb dX2_isLaid_40 rfl (lv_at hl 0 rfl) ?_
        refine gFr hC hP (j := 0) sg_13 vc_2 iT2 (by decide) rfl tb_1_124 dX2_isLaid_41 ?_
        refine gFr hC hP (j := 2) sg_1 vc_1 iT1 (by decide) rfl tb_1_35 dX2_isLaid_44 ?_
        refine lv_iload_n hx hb dX2_isLaid_47 rfl (lv_at hl 2 rfl) ?_
        obtain ⟨v4, hv, hf⟩ := ob_some hf
        refine gIa hC hP hv dX2_isLaid_48 ?_
        refine lv_icmp_ne (tgt := 56) hx hb dX2_isLaid_49 (by decide) (fun hc => ?_) (fun hc => ?_)
        · rw [if_neg hc] at hf
          refine lv_iconst (v := 0) hx hb dX2_isLaid_56 (by decide) ?_
          exact w_X2_isLaid_57 hC hQ ih  _ _ _ _ _ hP hS (lv_sub hl [0, 2] rfl) hf
        · rw [if_pos hc] at hf
          refine lv_iconst (v := 1) hx hb dX2_isLaid_52 (by decide) ?_
          refine lv_goto (tgt := 57) hx hb dX2_isLaid_53 (by decide) ?_
          exact w_X2_isLaid_57 hC hQ ih  _ _ _ _ _ hP hS (lv_sub hl [0, 2] rfl) hf
def f_X2_isLaid_21 (S : ST)  (y0 : Int32) : Option Int32 := f_X2_isLaid_24 S FU y0 0
set_option maxRecDepth 100000 in
set_option maxHeartbeats 4000000 in
theorem w_X2_isLaid_21 {r : Int32} {S : ST} (hC : Cx p m c s args cX2_isLaid 3 RX2 G) (hQ : KZ p l e (rmH 1) s m args below meth c Q cX2_isLaid G r S) (y0 : Int32) (H : Heap) (locs : List Loc) (ls : Array Slot) (hP : va_P (gD G) vwCl (cells G S) H) (hS : va_S (gA G) s.heap H locs) (hl : lv_has ls 3 [(0, .ref (ad G 13))]) (hf : f_X2_isLaid_21 S y0 = some r) : W p l e (rmH 1) s m args below meth c H locs 0 0 Q (F0 m 21 ls [.int y0]) := by
  obtain ⟨hx, hb, hml, hown, hts⟩ := id hC.1
  rw [f_X2_isLaid_21] at hf
  refine lv_istore_n (lv' := [(1, .int y0), (0, .ref (ad G 13))]) hx hb dX2_isLaid_21 rfl hl (by decide) rfl (fun ls hl => ?_)
  refine lv_iconst (v := 0) hx hb dX2_isLaid_22 (by decide) ?_
  refine lv_istore_n (lv' := [(2, .int 0), (1, .int y0), (0, .ref (ad G 13))]) hx hb dX2_isLaid_23 rfl hl (by decide) rfl (fun ls hl => ?_)
  exact w_X2_isLaid_24 hC hQ _ _ _ _ _ _ hP hS (lv_sub hl [2, 1, 0] rfl) hf
def f_X2_isLaid (S : ST)  : Option Int32 := (rI S 0 3 0).bind fun v1 => if (S.1 13 2) = v1 then (f_X2_isLaid_21 S 1) else (f_X2_isLaid_21 S 0)
set_option maxRecDepth 100000 in
set_option maxHeartbeats 4000000 in
theorem k_X2_isLaid (l : Launch) (G : GT) (S : ST)  (r : Int32) (hf : f_X2_isLaid S  = some r) : MI l yX2_isLaid cX2_isLaid 3 (some .boolean) 1 [.ref (ad G 13)] G S r S := by
  rw [f_X2_isLaid] at hf
  refine mkZ (own := RX2) (by decide +kernel) rfl (Nat.le_of_ble_eq_true rfl) (fun p e s m args below meth c Q ls hC hP hS hl hQ => ?_)
  have hl : lv_has ls 3 [(0, .ref (ad G 13))] := hl
  obtain ⟨hx, hb, hml, hown, hts⟩ := id hC.1
  refine lv_aload_n hx hb dX2_isLaid_0 rfl (lv_at hl 0 rfl) ?_
  refine gFi hC hP (j := 2) sg_13 vc_2 iT2 (by decide) rfl tb_1_126 dX2_isLaid_1 ?_
  refine lv_aload_n hx hb dX2_isLaid_4 rfl (lv_at hl 0 rfl) ?_
  refine gFr hC hP (j := 0) sg_13 vc_2 iT2 (by decide) rfl tb_1_124 dX2_isLaid_5 ?_
  refine gFr hC hP (j := 3) sg_1 vc_1 iT1 (by decide) rfl tb_1_39 dX2_isLaid_8 ?_
  refine lv_iconst (v := 0) hx hb dX2_isLaid_11 (by decide) ?_
  obtain ⟨v1, hv, hf⟩ := ob_some hf
  refine gIa hC hP hv dX2_isLaid_12 ?_
  refine lv_icmp_ne (tgt := 20) hx hb dX2_isLaid_13 (by decide) (fun hc => ?_) (fun hc => ?_)
  · rw [if_neg hc] at hf
    refine lv_iconst (v := 0) hx hb dX2_isLaid_20 (by decide) ?_
    exact w_X2_isLaid_21 hC hQ  _ _ _ _ hP hS (lv_sub hl [0] rfl) hf
  · rw [if_pos hc] at hf
    refine lv_iconst (v := 1) hx hb dX2_isLaid_16 (by decide) ?_
    refine lv_goto (tgt := 21) hx hb dX2_isLaid_17 (by decide) ?_
    exact w_X2_isLaid_21 hC hQ  _ _ _ _ hP hS (lv_sub hl [0] rfl) hf
def f_X2_wipe_2  : Nat → ST → Nat → Int32 → Option ST
  | 0, _, _, _ => none
  | n + 1, S, x0, x1 => (lA 3 x0).bind fun v1 => if v1 ≤ x1 then (some S) else ((wL S x0 x1 0).bind fun S2 => f_X2_wipe_2 n S2 x0 (x1 + 1))
set_option maxRecDepth 100000 in
set_option maxHeartbeats 4000000 in
theorem w_X2_wipe_2 {S' : ST} (hC : Cx p m c s args cX2_wipe 2 RX2 G) (hQ : KV p l e (rmH 1) s m args below meth c Q cX2_wipe G S') : ∀ (n : Nat) (S : ST) (x0 : Nat) (x1 : Int32) (H : Heap) (locs : List Loc) (ls : Array Slot), va_P (gD G) vwCl (cells G S) H → va_S (gA G) s.heap H locs → lv_has ls 2 [(0, .ref (ad G x0)), (1, .int x1)] → f_X2_wipe_2 n S x0 x1 = some S' → W p l e (rmH 1) s m args below meth c H locs 0 0 Q (F0 m 2 ls []) := by
  obtain ⟨hx, hb, hml, hown, hts⟩ := id hC.1
  intro n
  induction n with
  | zero => intro S x0 x1 H locs ls hP hS hl hf; rw [f_X2_wipe_2] at hf; cases hf
  | succ n ih =>
    intro S x0 x1 H locs ls hP hS hl hf
    rw [f_X2_wipe_2] at hf
    refine lv_iload_n hx hb dX2_wipe_2 rfl (lv_at hl 1 rfl) ?_
    refine lv_aload_n hx hb dX2_wipe_3 rfl (lv_at hl 0 rfl) ?_
    obtain ⟨v1, hv, hf⟩ := ob_some hf
    refine gLen (t := 3) (by decide) hC hP hv dX2_wipe_4 ?_
    refine lv_icmp_ge (tgt := 18) hx hb dX2_wipe_5 (by decide) (fun hc => ?_) (fun hc => ?_)
    · rw [if_pos hc] at hf
      exact retV hQ hf hP hS dX2_wipe_18
    · rw [if_neg hc] at hf
      refine lv_aload_n hx hb dX2_wipe_8 rfl (lv_at hl 0 rfl) ?_
      refine lv_iload_n hx hb dX2_wipe_9 rfl (lv_at hl 1 rfl) ?_
      refine lv_lconst (v := 0) hx hb dX2_wipe_10 (by decide) ?_
      obtain ⟨S2, hv, hf⟩ := ob_some hf
      refine sLa hC hP hS hv dX2_wipe_11 (fun H locs hP hS => ?_)
      refine lv_iinc (v := x1 + 1) (lv' := [(1, .int (x1 + 1)), (0, .ref (ad G x0))]) hx hb dX2_wipe_12 hl (k := 1) rfl rfl (by decide) rfl (fun ls hl => ?_)
      refine lv_goto (tgt := 2) hx hb dX2_wipe_15 (by decide) ?_
      exact ih _ _ _ _ _ _ hP hS (lv_sub hl [1, 0] rfl) hf
def f_X2_wipe (S : ST) (x0 : Nat) : Option ST := f_X2_wipe_2 FU S x0 0
set_option maxRecDepth 100000 in
set_option maxHeartbeats 4000000 in
theorem k_X2_wipe (l : Launch) (G : GT) (S : ST) (x0 : Nat) (S' : ST) (hf : f_X2_wipe S x0 = some S') : MV l yX2_wipe cX2_wipe 2 1 [.ref (ad G x0)] G S S' := by
  rw [f_X2_wipe] at hf
  refine mkV (own := RX2) (by decide +kernel) rfl (Nat.le_of_ble_eq_true rfl) (fun p e s m args below meth c Q ls hC hP hS hl hQ => ?_)
  have hl : lv_has ls 2 [(0, .ref (ad G x0))] := hl
  obtain ⟨hx, hb, hml, hown, hts⟩ := id hC.1
  refine lv_iconst (v := 0) hx hb dX2_wipe_0 (by decide) ?_
  refine lv_istore_n (lv' := [(1, .int 0), (0, .ref (ad G x0))]) hx hb dX2_wipe_1 rfl hl (by decide) rfl (fun ls hl => ?_)
  exact w_X2_wipe_2 hC hQ _ _ _ _ _ _ _ hP hS (lv_sub hl [1, 0] rfl) hf
def f_X7_putBit (S : ST) (x0 : Nat) (x1 : Int32) : Option ST := (lA 3 x0).bind fun v1 => (f_X7_within x1 0 ((v1 * 64) - 1)).bind fun v2 => if v2 = 0 then (some S) else ((dv x1 64).bind fun v3 => (rL S x0 v3).bind fun v4 => (rm x1 64).bind fun v5 => (wL S x0 v3 (v4 ||| (sl64 1 v5))).bind fun S6 => some S6)
set_option maxRecDepth 100000 in
set_option maxHeartbeats 4000000 in
theorem k_X7_putBit (l : Launch) (G : GT) (S : ST) (x0 : Nat) (x1 : Int32) (S' : ST) (hf : f_X7_putBit S x0 x1 = some S') : MV l yX7_putBit cX7_putBit 2 2 [.ref (ad G x0), .int x1] G S S' := by
  rw [f_X7_putBit] at hf
  refine mkV (own := RX7) (by decide +kernel) rfl (Nat.le_of_ble_eq_true rfl) (fun p e s m args below meth c Q ls hC hP hS hl hQ => ?_)
  have hl : lv_has ls 2 [(0, .ref (ad G x0)), (1, .int x1)] := hl
  obtain ⟨hx, hb, hml, hown, hts⟩ := id hC.1
  refine lv_iload_n hx hb dX7_putBit_0 rfl (lv_at hl 1 rfl) ?_
  refine lv_iconst (v := 0) hx hb dX7_putBit_1 (by decide) ?_
  refine lv_aload_n hx hb dX7_putBit_2 rfl (lv_at hl 0 rfl) ?_
  obtain ⟨v1, hv, hf⟩ := ob_some hf
  refine gLen (t := 3) (by decide) hC hP hv dX7_putBit_3 ?_
  refine lv_bipush (v := 64) hx hb dX7_putBit_4 (by decide) ?_
  refine lv_imul hx hb dX7_putBit_6 ?_
  refine lv_iconst (v := 1) hx hb dX7_putBit_7 (by decide) ?_
  refine lv_isub hx hb dX7_putBit_8 ?_
  obtain ⟨v2, hv, hf⟩ := ob_some hf
  refine cI hS (runS hC hP hS (As := [.int x1, .int 0, .int ((v1 * 64) - 1)]) (rest := []) (k_X7_within l G S x1 0 ((v1 * 64) - 1) _ hv) vy_X7_within tb_2_14 tb_2_15 ⟨Nat.le_of_ble_eq_true rfl, Nat.le_of_ble_eq_true rfl⟩ rfl hl.1 rfl (Nat.le_of_ble_eq_true rfl) dX7_putBit_9) (fun H locs hP hS => ?_)
  refine lv_if_eq (tgt := 30) hx hb dX7_putBit_12 (by decide) (fun hc => ?_) (fun hc => ?_)
  · rw [if_pos hc] at hf
    exact retV hQ hf hP hS dX7_putBit_30
  · rw [if_neg hc] at hf
    refine lv_aload_n hx hb dX7_putBit_15 rfl (lv_at hl 0 rfl) ?_
    refine lv_iload_n hx hb dX7_putBit_16 rfl (lv_at hl 1 rfl) ?_
    refine lv_bipush (v := 64) hx hb dX7_putBit_17 (by decide) ?_
    obtain ⟨v3, hv, hf⟩ := ob_some hf
    refine xDv hC hv dX7_putBit_19 ?_
    refine lv_dup2_11 hx hb dX7_putBit_20 rfl rfl ?_
    obtain ⟨v4, hv, hf⟩ := ob_some hf
    refine gLa hC hP hv dX7_putBit_21 ?_
    refine lv_lconst (v := 1) hx hb dX7_putBit_22 (by decide) ?_
    refine lv_iload_n hx hb dX7_putBit_23 rfl (lv_at hl 1 rfl) ?_
    refine lv_bipush (v := 64) hx hb dX7_putBit_24 (by decide) ?_
    obtain ⟨v5, hv, hf⟩ := ob_some hf
    refine xRm hC hv dX7_putBit_26 ?_
    refine lv_lshl (v := (sl64 1 v5)) hx hb dX7_putBit_27 rfl ?_
    refine lv_lor hx hb dX7_putBit_28 ?_
    obtain ⟨S6, hv, hf⟩ := ob_some hf
    refine sLa hC hP hS hv dX7_putBit_29 (fun H locs hP hS => ?_)
    exact retV hQ hf hP hS dX7_putBit_30
def f_X2_layTide_115  (k109 : ST → Int32 → Option ST) : Nat → ST → Int32 → Int32 → Option ST
  | 0, _, _, _ => none
  | n + 1, S, x1, x2 => if 38 ≤ x2 then (k109 S (x1 + (-1))) else ((rA 4 15 x1).bind fun v1 => (rL S v1 x2).bind fun v2 => (rA 4 15 (x1 + 1)).bind fun v3 => (rL S v3 x2).bind fun v4 => (wL S v1 x2 (v2 ||| v4)).bind fun S5 => f_X2_layTide_115 k109 n S5 x1 (x2 + 1))
set_option maxRecDepth 100000 in
set_option maxHeartbeats 4000000 in
theorem w_X2_layTide_115 {S' : ST} (hC : Cx p m c s args cX2_layTide 3 RX2 G) (hQ : KV p l e (rmH 4) s m args below meth c Q cX2_layTide G S') {k109 : ST → Int32 → Option ST} (hk109 : ∀ (S : ST) (x1 : Int32) (H : Heap) (locs : List Loc) (ls : Array Slot), va_P (gD G) vwCl (cells G S) H → va_S (gA G) s.heap H locs → lv_has ls 3 [(0, .ref (ad G 13)), (1, .int x1)] → k109 S x1 = some S' → W p l e (rmH 4) s m args below meth c H locs 0 0 Q (F0 m 109 ls [])) : ∀ (n : Nat) (S : ST) (x1 : Int32) (x2 : Int32) (H : Heap) (locs : List Loc) (ls : Array Slot), va_P (gD G) vwCl (cells G S) H → va_S (gA G) s.heap H locs → lv_has ls 3 [(0, .ref (ad G 13)), (1, .int x1), (2, .int x2)] → f_X2_layTide_115 k109 n S x1 x2 = some S' → W p l e (rmH 4) s m args below meth c H locs 0 0 Q (F0 m 115 ls []) := by
  obtain ⟨hx, hb, hml, hown, hts⟩ := id hC.1
  intro n
  induction n with
  | zero => intro S x1 x2 H locs ls hP hS hl hf; rw [f_X2_layTide_115] at hf; cases hf
  | succ n ih =>
    intro S x1 x2 H locs ls hP hS hl hf
    rw [f_X2_layTide_115] at hf
    refine lv_iload_n hx hb dX2_layTide_115 rfl (lv_at hl 2 rfl) ?_
    refine lv_bipush (v := 38) hx hb dX2_layTide_116 (by decide) ?_
    refine lv_icmp_ge (tgt := 148) hx hb dX2_layTide_118 (by decide) (fun hc => ?_) (fun hc => ?_)
    · rw [if_pos hc] at hf
      refine lv_iinc (v := x1 + (-1)) (lv' := [(1, .int (x1 + (-1))), (0, .ref (ad G 13)), (2, .int x2)]) hx hb dX2_layTide_148 hl (k := 1) rfl rfl (by decide) rfl (fun ls hl => ?_)
      refine lv_goto (tgt := 109) hx hb dX2_layTide_151 (by decide) ?_
      exact hk109 _ _ _ _ _ hP hS (lv_sub hl [1, 0] rfl) hf
    · rw [if_neg hc] at hf
      refine lv_aload_n hx hb dX2_layTide_121 rfl (lv_at hl 0 rfl) ?_
      refine gFr hC hP (j := 3) sg_13 vc_2 iT2 (by decide) rfl tb_1_127 dX2_layTide_122 ?_
      refine lv_iload_n hx hb dX2_layTide_125 rfl (lv_at hl 1 rfl) ?_
      obtain ⟨v1, hv, hf⟩ := ob_some hf
      refine gAa4 hC hP hv dX2_layTide_126 ?_
      refine lv_iload_n hx hb dX2_layTide_127 rfl (lv_at hl 2 rfl) ?_
      refine lv_dup2_11 hx hb dX2_layTide_128 rfl rfl ?_
      obtain ⟨v2, hv, hf⟩ := ob_some hf
      refine gLa hC hP hv dX2_layTide_129 ?_
      refine lv_aload_n hx hb dX2_layTide_130 rfl (lv_at hl 0 rfl) ?_
      refine gFr hC hP (j := 3) sg_13 vc_2 iT2 (by decide) rfl tb_1_127 dX2_layTide_131 ?_
      refine lv_iload_n hx hb dX2_layTide_134 rfl (lv_at hl 1 rfl) ?_
      refine lv_iconst (v := 1) hx hb dX2_layTide_135 (by decide) ?_
      refine lv_iadd hx hb dX2_layTide_136 ?_
      obtain ⟨v3, hv, hf⟩ := ob_some hf
      refine gAa4 hC hP hv dX2_layTide_137 ?_
      refine lv_iload_n hx hb dX2_layTide_138 rfl (lv_at hl 2 rfl) ?_
      obtain ⟨v4, hv, hf⟩ := ob_some hf
      refine gLa hC hP hv dX2_layTide_139 ?_
      refine lv_lor hx hb dX2_layTide_140 ?_
      obtain ⟨S5, hv, hf⟩ := ob_some hf
      refine sLa hC hP hS hv dX2_layTide_141 (fun H locs hP hS => ?_)
      refine lv_iinc (v := x2 + 1) (lv' := [(2, .int (x2 + 1)), (0, .ref (ad G 13)), (1, .int x1)]) hx hb dX2_layTide_142 hl (k := 2) rfl rfl (by decide) rfl (fun ls hl => ?_)
      refine lv_goto (tgt := 115) hx hb dX2_layTide_145 (by decide) ?_
      exact ih _ _ _ _ _ _ hP hS (lv_sub hl [1, 2, 0] rfl) hf
def f_X2_layTide_109  : Nat → ST → Int32 → Option ST
  | 0, _, _ => none
  | n + 1, S, x1 => if x1 < 0 then (some S) else (f_X2_layTide_115 (f_X2_layTide_109 n) FU S x1 0)
set_option maxRecDepth 100000 in
set_option maxHeartbeats 4000000 in
theorem w_X2_layTide_109 {S' : ST} (hC : Cx p m c s args cX2_layTide 3 RX2 G) (hQ : KV p l e (rmH 4) s m args below meth c Q cX2_layTide G S') : ∀ (n : Nat) (S : ST) (x1 : Int32) (H : Heap) (locs : List Loc) (ls : Array Slot), va_P (gD G) vwCl (cells G S) H → va_S (gA G) s.heap H locs → lv_has ls 3 [(0, .ref (ad G 13)), (1, .int x1)] → f_X2_layTide_109 n S x1 = some S' → W p l e (rmH 4) s m args below meth c H locs 0 0 Q (F0 m 109 ls []) := by
  obtain ⟨hx, hb, hml, hown, hts⟩ := id hC.1
  intro n
  induction n with
  | zero => intro S x1 H locs ls hP hS hl hf; rw [f_X2_layTide_109] at hf; cases hf
  | succ n ih =>
    intro S x1 H locs ls hP hS hl hf
    rw [f_X2_layTide_109] at hf
    refine lv_iload_n hx hb dX2_layTide_109 rfl (lv_at hl 1 rfl) ?_
    refine lv_if_lt (tgt := 154) hx hb dX2_layTide_110 (by decide) (fun hc => ?_) (fun hc => ?_)
    · rw [if_pos hc] at hf
      exact retV hQ hf hP hS dX2_layTide_154
    · rw [if_neg hc] at hf
      refine lv_iconst (v := 0) hx hb dX2_layTide_113 (by decide) ?_
      refine lv_istore_n (lv' := [(2, .int 0), (0, .ref (ad G 13)), (1, .int x1)]) hx hb dX2_layTide_114 rfl hl (by decide) rfl (fun ls hl => ?_)
      exact w_X2_layTide_115 hC hQ ih _ _ _ _ _ _ _ hP hS (lv_sub hl [1, 2, 0] rfl) hf
def f_X2_layTide_100  (k64 : ST → Int32 → Option ST) (S : ST) (x1 : Int32) : Option ST := k64 S (x1 + 1)
set_option maxRecDepth 100000 in
set_option maxHeartbeats 4000000 in
theorem w_X2_layTide_100 {S' : ST} (hC : Cx p m c s args cX2_layTide 3 RX2 G) (hQ : KV p l e (rmH 4) s m args below meth c Q cX2_layTide G S') {k64 : ST → Int32 → Option ST} (hk64 : ∀ (S : ST) (x1 : Int32) (H : Heap) (locs : List Loc) (ls : Array Slot), va_P (gD G) vwCl (cells G S) H → va_S (gA G) s.heap H locs → lv_has ls 3 [(0, .ref (ad G 13)), (1, .int x1)] → k64 S x1 = some S' → W p l e (rmH 4) s m args below meth c H locs 0 0 Q (F0 m 64 ls [])) (S : ST) (x1 : Int32) (H : Heap) (locs : List Loc) (ls : Array Slot) (hP : va_P (gD G) vwCl (cells G S) H) (hS : va_S (gA G) s.heap H locs) (hl : lv_has ls 3 [(0, .ref (ad G 13)), (1, .int x1)]) (hf : f_X2_layTide_100 k64 S x1 = some S') : W p l e (rmH 4) s m args below meth c H locs 0 0 Q (F0 m 100 ls []) := by
  obtain ⟨hx, hb, hml, hown, hts⟩ := id hC.1
  rw [f_X2_layTide_100] at hf
  refine lv_iinc (v := x1 + 1) (lv' := [(1, .int (x1 + 1)), (0, .ref (ad G 13))]) hx hb dX2_layTide_100 hl (k := 1) rfl rfl (by decide) rfl (fun ls hl => ?_)
  refine lv_goto (tgt := 64) hx hb dX2_layTide_103 (by decide) ?_
  exact hk64 _ _ _ _ _ hP hS (lv_sub hl [1, 0] rfl) hf
def f_X2_layTide_64  : Nat → ST → Int32 → Option ST
  | 0, _, _ => none
  | n + 1, S, x1 => if 2400 ≤ x1 then (f_X2_layTide_109 FU S 98) else ((f_X1_tideAt S x1).bind fun v1 => (f_X7_within v1 0 99).bind fun v2 => if v2 = 0 then (f_X2_layTide_100 (f_X2_layTide_64 n) S x1) else ((rA 4 15 v1).bind fun v3 => (f_X7_putBit S v3 x1).bind fun S4 => f_X2_layTide_100 (f_X2_layTide_64 n) S4 x1))
set_option maxRecDepth 100000 in
set_option maxHeartbeats 4000000 in
theorem w_X2_layTide_64 {S' : ST} (hC : Cx p m c s args cX2_layTide 3 RX2 G) (hQ : KV p l e (rmH 4) s m args below meth c Q cX2_layTide G S') : ∀ (n : Nat) (S : ST) (x1 : Int32) (H : Heap) (locs : List Loc) (ls : Array Slot), va_P (gD G) vwCl (cells G S) H → va_S (gA G) s.heap H locs → lv_has ls 3 [(0, .ref (ad G 13)), (1, .int x1)] → f_X2_layTide_64 n S x1 = some S' → W p l e (rmH 4) s m args below meth c H locs 0 0 Q (F0 m 64 ls []) := by
  obtain ⟨hx, hb, hml, hown, hts⟩ := id hC.1
  intro n
  induction n with
  | zero => intro S x1 H locs ls hP hS hl hf; rw [f_X2_layTide_64] at hf; cases hf
  | succ n ih =>
    intro S x1 H locs ls hP hS hl hf
    rw [f_X2_layTide_64] at hf
    refine lv_iload_n hx hb dX2_layTide_64 rfl (lv_at hl 1 rfl) ?_
    refine lv_sipush (v := 2400) hx hb dX2_layTide_65 (by decide) ?_
    refine lv_icmp_ge (tgt := 106) hx hb dX2_layTide_68 (by decide) (fun hc => ?_) (fun hc => ?_)
    · rw [if_pos hc] at hf
      refine lv_bipush (v := 98) hx hb dX2_layTide_106 (by decide) ?_
      refine lv_istore_n (lv' := [(1, .int 98), (0, .ref (ad G 13))]) hx hb dX2_layTide_108 rfl hl (by decide) rfl (fun ls hl => ?_)
      exact w_X2_layTide_109 hC hQ _ _ _ _ _ _ hP hS (lv_sub hl [1, 0] rfl) hf
    · rw [if_neg hc] at hf
      refine lv_aload_n hx hb dX2_layTide_71 rfl (lv_at hl 0 rfl) ?_
      refine gFr hC hP (j := 0) sg_13 vc_2 iT2 (by decide) rfl tb_1_124 dX2_layTide_72 ?_
      refine lv_iload_n hx hb dX2_layTide_75 rfl (lv_at hl 1 rfl) ?_
      obtain ⟨v1, hv, hf⟩ := ob_some hf
      refine cI hS (runV hC hP hS (As := [.int x1]) (rest := []) (k_X1_tideAt l G S x1 _ hv) vy_X1_tideAt sg_1 vc_1 tb_3_56 tb_2_167 tb_2_168 ⟨Nat.le_of_ble_eq_true rfl, Nat.le_of_ble_eq_true rfl⟩ rfl hl.1 rfl (Nat.le_of_ble_eq_true rfl) dX2_layTide_76) (fun H locs hP hS => ?_)
      refine lv_istore_n (lv' := [(2, .int v1), (0, .ref (ad G 13)), (1, .int x1)]) hx hb dX2_layTide_79 rfl hl (by decide) rfl (fun ls hl => ?_)
      refine lv_iload_n hx hb dX2_layTide_80 rfl (lv_at hl 0 rfl) ?_
      refine lv_iconst (v := 0) hx hb dX2_layTide_81 (by decide) ?_
      refine lv_bipush (v := 99) hx hb dX2_layTide_82 (by decide) ?_
      obtain ⟨v2, hv, hf⟩ := ob_some hf
      refine cI hS (runSN hC hP hS (As := [.int v1, .int 0, .int 99]) (rest := []) (k_X7_within l G S v1 0 99 _ hv) vy_X7_within nw_9 tb_2_15 ⟨Nat.le_of_ble_eq_true rfl, Nat.le_of_ble_eq_true rfl⟩ rfl hl.1 rfl (Nat.le_of_ble_eq_true rfl) dX2_layTide_84) (fun H locs hP hS => ?_)
      refine lv_if_eq (tgt := 100) hx hb dX2_layTide_87 (by decide) (fun hc => ?_) (fun hc => ?_)
      · rw [if_pos hc] at hf
        exact w_X2_layTide_100 hC hQ ih  _ _ _ _ _ hP hS (lv_sub hl [1, 2] rfl) hf
      · rw [if_neg hc] at hf
        refine lv_aload_n hx hb dX2_layTide_90 rfl (lv_at hl 1 rfl) ?_
        refine gFr hC hP (j := 3) sg_13 vc_2 iT2 (by decide) rfl tb_1_127 dX2_layTide_91 ?_
        refine lv_iload_n hx hb dX2_layTide_94 rfl (lv_at hl 0 rfl) ?_
        obtain ⟨v3, hv, hf⟩ := ob_some hf
        refine gAa4 hC hP hv dX2_layTide_95 ?_
        refine lv_iload_n hx hb dX2_layTide_96 rfl (lv_at hl 2 rfl) ?_
        obtain ⟨S4, hv, hf⟩ := ob_some hf
        refine cV hS (runSN hC hP hS (As := [.ref (ad G v3), .int x1]) (rest := []) (k_X7_putBit l G S v3 x1 _ hv) vy_X7_putBit nw_10 tb_3_59 ⟨Nat.le_of_ble_eq_true rfl, Nat.le_of_ble_eq_true rfl⟩ rfl hl.1 rfl (Nat.le_of_ble_eq_true rfl) dX2_layTide_97) (fun H locs hP hS => ?_)
        exact w_X2_layTide_100 hC hQ ih  _ _ _ _ _ hP hS (lv_sub hl [1, 2] rfl) hf
def f_X2_layTide_41  : Nat → ST → Int32 → Option ST
  | 0, _, _ => none
  | n + 1, S, x1 => if 100 ≤ x1 then (f_X2_layTide_64 FU S 0) else ((rA 4 15 x1).bind fun v1 => (f_X2_wipe S v1).bind fun S2 => f_X2_layTide_41 n S2 (x1 + 1))
set_option maxRecDepth 100000 in
set_option maxHeartbeats 4000000 in
theorem w_X2_layTide_41 {S' : ST} (hC : Cx p m c s args cX2_layTide 3 RX2 G) (hQ : KV p l e (rmH 4) s m args below meth c Q cX2_layTide G S') : ∀ (n : Nat) (S : ST) (x1 : Int32) (H : Heap) (locs : List Loc) (ls : Array Slot), va_P (gD G) vwCl (cells G S) H → va_S (gA G) s.heap H locs → lv_has ls 3 [(0, .ref (ad G 13)), (1, .int x1)] → f_X2_layTide_41 n S x1 = some S' → W p l e (rmH 4) s m args below meth c H locs 0 0 Q (F0 m 41 ls []) := by
  obtain ⟨hx, hb, hml, hown, hts⟩ := id hC.1
  intro n
  induction n with
  | zero => intro S x1 H locs ls hP hS hl hf; rw [f_X2_layTide_41] at hf; cases hf
  | succ n ih =>
    intro S x1 H locs ls hP hS hl hf
    rw [f_X2_layTide_41] at hf
    refine lv_iload_n hx hb dX2_layTide_41 rfl (lv_at hl 1 rfl) ?_
    refine lv_bipush (v := 100) hx hb dX2_layTide_42 (by decide) ?_
    refine lv_icmp_ge (tgt := 62) hx hb dX2_layTide_44 (by decide) (fun hc => ?_) (fun hc => ?_)
    · rw [if_pos hc] at hf
      refine lv_iconst (v := 0) hx hb dX2_layTide_62 (by decide) ?_
      refine lv_istore_n (lv' := [(1, .int 0), (0, .ref (ad G 13))]) hx hb dX2_layTide_63 rfl hl (by decide) rfl (fun ls hl => ?_)
      exact w_X2_layTide_64 hC hQ _ _ _ _ _ _ hP hS (lv_sub hl [1, 0] rfl) hf
    · rw [if_neg hc] at hf
      refine lv_aload_n hx hb dX2_layTide_47 rfl (lv_at hl 0 rfl) ?_
      refine gFr hC hP (j := 3) sg_13 vc_2 iT2 (by decide) rfl tb_1_127 dX2_layTide_48 ?_
      refine lv_iload_n hx hb dX2_layTide_51 rfl (lv_at hl 1 rfl) ?_
      obtain ⟨v1, hv, hf⟩ := ob_some hf
      refine gAa4 hC hP hv dX2_layTide_52 ?_
      obtain ⟨S2, hv, hf⟩ := ob_some hf
      refine cV hS (runS hC hP hS (As := [.ref (ad G v1)]) (rest := []) (k_X2_wipe l G S v1 _ hv) vy_X2_wipe tb_3_53 tb_3_54 ⟨Nat.le_of_ble_eq_true rfl, Nat.le_of_ble_eq_true rfl⟩ rfl hl.1 rfl (Nat.le_of_ble_eq_true rfl) dX2_layTide_53) (fun H locs hP hS => ?_)
      refine lv_iinc (v := x1 + 1) (lv' := [(1, .int (x1 + 1)), (0, .ref (ad G 13))]) hx hb dX2_layTide_56 hl (k := 1) rfl rfl (by decide) rfl (fun ls hl => ?_)
      refine lv_goto (tgt := 41) hx hb dX2_layTide_59 (by decide) ?_
      exact ih _ _ _ _ _ hP hS (lv_sub hl [1, 0] rfl) hf
def f_X2_layTide (S : ST)  : Option ST := (f_X2_isLaid S).bind fun v1 => if v1 = 0 then ((cpy S 2 0 14 0 24).bind fun S2 => (rI S2 0 3 0).bind fun v3 => f_X2_layTide_41 FU (sI S2 13 2 v3) 0) else (some S)
set_option maxRecDepth 100000 in
set_option maxHeartbeats 4000000 in
theorem k_X2_layTide (l : Launch) (G : GT) (S : ST)  (S' : ST) (hf : f_X2_layTide S  = some S') : MV l yX2_layTide cX2_layTide 3 4 [.ref (ad G 13)] G S S' := by
  rw [f_X2_layTide] at hf
  refine mkV (own := RX2) (by decide +kernel) rfl (Nat.le_of_ble_eq_true rfl) (fun p e s m args below meth c Q ls hC hP hS hl hQ => ?_)
  have hl : lv_has ls 3 [(0, .ref (ad G 13))] := hl
  obtain ⟨hx, hb, hml, hown, hts⟩ := id hC.1
  refine lv_aload_n hx hb dX2_layTide_0 rfl (lv_at hl 0 rfl) ?_
  obtain ⟨v1, hv, hf⟩ := ob_some hf
  refine cI hS (runV hC hP hS (As := []) (rest := []) (k_X2_isLaid l G S _ hv) vy_X2_isLaid sg_13 vc_2 tb_3_48 tb_3_50 ts_14 ⟨Nat.le_of_ble_eq_true rfl, Nat.le_of_ble_eq_true rfl⟩ rfl hl.1 rfl (Nat.le_of_ble_eq_true rfl) dX2_layTide_1) (fun H locs hP hS => ?_)
  refine lv_if_eq (tgt := 8) hx hb dX2_layTide_4 (by decide) (fun hc => ?_) (fun hc => ?_)
  · rw [if_pos hc] at hf
    refine lv_aload_n hx hb dX2_layTide_8 rfl (lv_at hl 0 rfl) ?_
    refine gFr hC hP (j := 0) sg_13 vc_2 iT2 (by decide) rfl tb_1_124 dX2_layTide_9 ?_
    refine gFr hC hP (j := 2) sg_1 vc_1 iT1 (by decide) rfl tb_1_35 dX2_layTide_12 ?_
    refine lv_iconst (v := 0) hx hb dX2_layTide_15 (by decide) ?_
    refine lv_aload_n hx hb dX2_layTide_16 rfl (lv_at hl 0 rfl) ?_
    refine gFr hC hP (j := 1) sg_13 vc_2 iT2 (by decide) rfl tb_1_125 dX2_layTide_17 ?_
    refine lv_iconst (v := 0) hx hb dX2_layTide_20 (by decide) ?_
    refine lv_bipush (v := 24) hx hb dX2_layTide_21 (by decide) ?_
    obtain ⟨S2, hv, hf⟩ := ob_some hf
    refine sCp hC hP hS (rest := []) hv hl.1 tb_3_52 tb_2_141 tb_2_140 tb_1_11 ⟨Nat.le_of_ble_eq_true rfl, Nat.le_of_ble_eq_true rfl⟩ dX2_layTide_23 (fun H locs hP hS => ?_)
    refine lv_aload_n hx hb dX2_layTide_26 rfl (lv_at hl 0 rfl) ?_
    refine lv_aload_n hx hb dX2_layTide_27 rfl (lv_at hl 0 rfl) ?_
    refine gFr hC hP (j := 0) sg_13 vc_2 iT2 (by decide) rfl tb_1_124 dX2_layTide_28 ?_
    refine gFr hC hP (j := 3) sg_1 vc_1 iT1 (by decide) rfl tb_1_39 dX2_layTide_31 ?_
    refine lv_iconst (v := 0) hx hb dX2_layTide_34 (by decide) ?_
    obtain ⟨v3, hv, hf⟩ := ob_some hf
    refine gIa hC hP hv dX2_layTide_35 ?_
    refine pFi hC hP hS (j := 2) sg_13 vc_2 iT2 tyX2_ok nmX2 (by decide) rfl tb_1_126 rfl rfl rfl dX2_layTide_36 (fun H locs hP hS => ?_)
    refine lv_iconst (v := 0) hx hb dX2_layTide_39 (by decide) ?_
    refine lv_istore_n (lv' := [(1, .int 0), (0, .ref (ad G 13))]) hx hb dX2_layTide_40 rfl hl (by decide) rfl (fun ls hl => ?_)
    exact w_X2_layTide_41 hC hQ _ _ _ _ _ _ hP hS (lv_sub hl [1, 0] rfl) hf
  · rw [if_neg hc] at hf
    exact retV hQ hf hP hS dX2_layTide_7
def f_X2_ruleMile_74  (k32 : ST → Int32 → Int32 → Int32 → Option ST) (S : ST) (x2 : Int32) (x4 : Int32) (x5 : Int32) : Option ST := (wI S 16 ((x2 * 11) + x5) x4).bind fun S1 => k32 S1 x2 x4 (x5 + 1)
set_option maxRecDepth 100000 in
set_option maxHeartbeats 4000000 in
theorem w_X2_ruleMile_74 {S' : ST} (hC : Cx p m c s args cX2_ruleMile 6 RX2 G) (hQ : KV p l e (rmH 4) s m args below meth c Q cX2_ruleMile G S') {k32 : ST → Int32 → Int32 → Int32 → Option ST} (hk32 : ∀ (S : ST) (x2 : Int32) (x4 : Int32) (x5 : Int32) (H : Heap) (locs : List Loc) (ls : Array Slot), va_P (gD G) vwCl (cells G S) H → va_S (gA G) s.heap H locs → lv_has ls 6 [(0, .ref (ad G 13)), (1, .ref (ad G 11)), (2, .int x2), (4, .int x4), (5, .int x5)] → k32 S x2 x4 x5 = some S' → W p l e (rmH 4) s m args below meth c H locs 0 0 Q (F0 m 32 ls [])) (S : ST) (x2 : Int32) (x4 : Int32) (x5 : Int32) (H : Heap) (locs : List Loc) (ls : Array Slot) (hP : va_P (gD G) vwCl (cells G S) H) (hS : va_S (gA G) s.heap H locs) (hl : lv_has ls 6 [(0, .ref (ad G 13)), (1, .ref (ad G 11)), (2, .int x2), (4, .int x4), (5, .int x5)]) (hf : f_X2_ruleMile_74 k32 S x2 x4 x5 = some S') : W p l e (rmH 4) s m args below meth c H locs 0 0 Q (F0 m 74 ls []) := by
  obtain ⟨hx, hb, hml, hown, hts⟩ := id hC.1
  rw [f_X2_ruleMile_74] at hf
  refine lv_aload_n hx hb dX2_ruleMile_74 rfl (lv_at hl 0 rfl) ?_
  refine gFr hC hP (j := 4) sg_13 vc_2 iT2 (by decide) rfl tb_1_128 dX2_ruleMile_75 ?_
  refine lv_iload_n hx hb dX2_ruleMile_78 rfl (lv_at hl 2 rfl) ?_
  refine gStN hC hS (j := 0) (by decide) nw_1 dX2_ruleMile_79 ?_
  refine gSn (x := 11) hC hS (by decide) rfl dX2_ruleMile_82 ?_
  refine lv_imul hx hb dX2_ruleMile_83 ?_
  refine lv_iload hx hb dX2_ruleMile_84 (lv_at hl 4 rfl) ?_
  refine lv_iadd hx hb dX2_ruleMile_86 ?_
  refine lv_iload hx hb dX2_ruleMile_87 (lv_at hl 3 rfl) ?_
  obtain ⟨S1, hv, hf⟩ := ob_some hf
  refine sIa hC hP hS hv dX2_ruleMile_89 (fun H locs hP hS => ?_)
  refine lv_iinc (v := x5 + 1) (lv' := [(5, .int (x5 + 1)), (0, .ref (ad G 13)), (1, .ref (ad G 11)), (2, .int x2), (4, .int x4)]) hx hb dX2_ruleMile_90 hl (k := 4) rfl rfl (by decide) rfl (fun ls hl => ?_)
  refine lv_goto (tgt := 32) hx hb dX2_ruleMile_93 (by decide) ?_
  exact hk32 _ _ _ _ _ _ _ hP hS (lv_sub hl [1, 2, 3, 4, 0] rfl) hf
def f_X2_ruleMile_41  (k32 : ST → Int32 → Int32 → Int32 → Option ST) : Nat → ST → Int32 → Int32 → Int32 → Option ST
  | 0, _, _, _, _ => none
  | n + 1, S, x2, x4, x5 => if 100 ≤ x4 then (f_X2_ruleMile_74 k32 S x2 x4 x5) else ((rS 0 x5).bind fun v1 => (f_X5_clearance S x2 x4 v1).bind fun v2 => if (S.1 11 6) ≤ v2 then (f_X2_ruleMile_74 k32 S x2 x4 x5) else (f_X2_ruleMile_41 k32 n S x2 (x4 + 1) x5))
set_option maxRecDepth 100000 in
set_option maxHeartbeats 4000000 in
theorem w_X2_ruleMile_41 {S' : ST} (hC : Cx p m c s args cX2_ruleMile 6 RX2 G) (hQ : KV p l e (rmH 4) s m args below meth c Q cX2_ruleMile G S') {k32 : ST → Int32 → Int32 → Int32 → Option ST} (hk32 : ∀ (S : ST) (x2 : Int32) (x4 : Int32) (x5 : Int32) (H : Heap) (locs : List Loc) (ls : Array Slot), va_P (gD G) vwCl (cells G S) H → va_S (gA G) s.heap H locs → lv_has ls 6 [(0, .ref (ad G 13)), (1, .ref (ad G 11)), (2, .int x2), (4, .int x4), (5, .int x5)] → k32 S x2 x4 x5 = some S' → W p l e (rmH 4) s m args below meth c H locs 0 0 Q (F0 m 32 ls [])) : ∀ (n : Nat) (S : ST) (x2 : Int32) (x4 : Int32) (x5 : Int32) (H : Heap) (locs : List Loc) (ls : Array Slot), va_P (gD G) vwCl (cells G S) H → va_S (gA G) s.heap H locs → lv_has ls 6 [(0, .ref (ad G 13)), (1, .ref (ad G 11)), (2, .int x2), (4, .int x4), (5, .int x5)] → f_X2_ruleMile_41 k32 n S x2 x4 x5 = some S' → W p l e (rmH 4) s m args below meth c H locs 0 0 Q (F0 m 41 ls []) := by
  obtain ⟨hx, hb, hml, hown, hts⟩ := id hC.1
  intro n
  induction n with
  | zero => intro S x2 x4 x5 H locs ls hP hS hl hf; rw [f_X2_ruleMile_41] at hf; cases hf
  | succ n ih =>
    intro S x2 x4 x5 H locs ls hP hS hl hf
    rw [f_X2_ruleMile_41] at hf
    refine lv_iload hx hb dX2_ruleMile_41 (lv_at hl 3 rfl) ?_
    refine lv_bipush (v := 100) hx hb dX2_ruleMile_43 (by decide) ?_
    refine lv_icmp_ge (tgt := 74) hx hb dX2_ruleMile_45 (by decide) (fun hc => ?_) (fun hc => ?_)
    · rw [if_pos hc] at hf
      exact w_X2_ruleMile_74 hC hQ hk32  _ _ _ _ _ _ _ hP hS (lv_sub hl [0, 1, 2, 3, 4] rfl) hf
    · rw [if_neg hc] at hf
      refine lv_aload_n hx hb dX2_ruleMile_48 rfl (lv_at hl 1 rfl) ?_
      refine lv_iload_n hx hb dX2_ruleMile_49 rfl (lv_at hl 2 rfl) ?_
      refine lv_iload hx hb dX2_ruleMile_50 (lv_at hl 3 rfl) ?_
      refine gStN hC hS (j := 0) (by decide) nw_1 dX2_ruleMile_52 ?_
      refine lv_iload hx hb dX2_ruleMile_55 (lv_at hl 4 rfl) ?_
      obtain ⟨v1, hv, hf⟩ := ob_some hf
      refine gSi hC hS (by decide) hv dX2_ruleMile_57 ?_
      obtain ⟨v2, hv, hf⟩ := ob_some hf
      refine cI hS (runV hC hP hS (As := [.int x2, .int x4, .int v1]) (rest := []) (k_X5_clearance l G S x2 x4 v1 _ hv) vy_X5_clearance sg_11 vc_5 tb_3_73 tb_2_234 tb_2_235 ⟨Nat.le_of_ble_eq_true rfl, Nat.le_of_ble_eq_true rfl⟩ rfl hl.1 rfl (Nat.le_of_ble_eq_true rfl) dX2_ruleMile_58) (fun H locs hP hS => ?_)
      refine lv_aload_n hx hb dX2_ruleMile_61 rfl (lv_at hl 1 rfl) ?_
      refine gFi hC hP (j := 6) sg_11 vc_5 iT5 (by decide) rfl tb_1_71 dX2_ruleMile_62 ?_
      refine lv_icmp_ge (tgt := 74) hx hb dX2_ruleMile_65 (by decide) (fun hc => ?_) (fun hc => ?_)
      · rw [if_pos hc] at hf
        exact w_X2_ruleMile_74 hC hQ hk32  _ _ _ _ _ _ _ hP hS (lv_sub hl [0, 1, 2, 3, 4] rfl) hf
      · rw [if_neg hc] at hf
        refine lv_iinc (v := x4 + 1) (lv' := [(4, .int (x4 + 1)), (0, .ref (ad G 13)), (1, .ref (ad G 11)), (2, .int x2), (5, .int x5)]) hx hb dX2_ruleMile_68 hl (k := 3) rfl rfl (by decide) rfl (fun ls hl => ?_)
        refine lv_goto (tgt := 41) hx hb dX2_ruleMile_71 (by decide) ?_
        exact ih _ _ _ _ _ _ _ hP hS (lv_sub hl [1, 2, 3, 0, 4] rfl) hf
def f_X2_ruleMile_32  : Nat → ST → Int32 → Int32 → Int32 → Option ST
  | 0, _, _, _, _ => none
  | n + 1, S, x2, x4, x5 => if 11 ≤ x5 then (some S) else (f_X2_ruleMile_41 (f_X2_ruleMile_32 n) FU S x2 x4 x5)
set_option maxRecDepth 100000 in
set_option maxHeartbeats 4000000 in
theorem w_X2_ruleMile_32 {S' : ST} (hC : Cx p m c s args cX2_ruleMile 6 RX2 G) (hQ : KV p l e (rmH 4) s m args below meth c Q cX2_ruleMile G S') : ∀ (n : Nat) (S : ST) (x2 : Int32) (x4 : Int32) (x5 : Int32) (H : Heap) (locs : List Loc) (ls : Array Slot), va_P (gD G) vwCl (cells G S) H → va_S (gA G) s.heap H locs → lv_has ls 6 [(0, .ref (ad G 13)), (1, .ref (ad G 11)), (2, .int x2), (4, .int x4), (5, .int x5)] → f_X2_ruleMile_32 n S x2 x4 x5 = some S' → W p l e (rmH 4) s m args below meth c H locs 0 0 Q (F0 m 32 ls []) := by
  obtain ⟨hx, hb, hml, hown, hts⟩ := id hC.1
  intro n
  induction n with
  | zero => intro S x2 x4 x5 H locs ls hP hS hl hf; rw [f_X2_ruleMile_32] at hf; cases hf
  | succ n ih =>
    intro S x2 x4 x5 H locs ls hP hS hl hf
    rw [f_X2_ruleMile_32] at hf
    refine lv_iload hx hb dX2_ruleMile_32 (lv_at hl 4 rfl) ?_
    refine gStN hC hS (j := 0) (by decide) nw_1 dX2_ruleMile_34 ?_
    refine gSn (x := 11) hC hS (by decide) rfl dX2_ruleMile_37 ?_
    refine lv_icmp_ge (tgt := 96) hx hb dX2_ruleMile_38 (by decide) (fun hc => ?_) (fun hc => ?_)
    · rw [if_pos hc] at hf
      exact retV hQ hf hP hS dX2_ruleMile_96
    · rw [if_neg hc] at hf
      exact w_X2_ruleMile_41 hC hQ ih _ _ _ _ _ _ _ _ hP hS (lv_sub hl [0, 1, 2, 3, 4] rfl) hf
def f_X2_ruleMile (S : ST) (x2 : Int32) : Option ST := (f_X5_level S x2 0).bind fun v1 => (f_X5_atRest S x2 v1).bind fun v2 => (f_J9_min_7cf53 100 ((S.1 11 6) - v2)).bind fun v3 => (f_J9_max_7cf53 0 v3).bind fun v4 => f_X2_ruleMile_32 FU S x2 v4 0
set_option maxRecDepth 100000 in
set_option maxHeartbeats 4000000 in
theorem k_X2_ruleMile (l : Launch) (G : GT) (S : ST) (x2 : Int32) (S' : ST) (hf : f_X2_ruleMile S x2 = some S') : MV l yX2_ruleMile cX2_ruleMile 6 4 [.ref (ad G 13), .ref (ad G 11), .int x2] G S S' := by
  rw [f_X2_ruleMile] at hf
  refine mkV (own := RX2) (by decide +kernel) rfl (Nat.le_of_ble_eq_true rfl) (fun p e s m args below meth c Q ls hC hP hS hl hQ => ?_)
  have hl : lv_has ls 6 [(0, .ref (ad G 13)), (1, .ref (ad G 11)), (2, .int x2)] := hl
  obtain ⟨hx, hb, hml, hown, hts⟩ := id hC.1
  refine lv_aload_n hx hb dX2_ruleMile_0 rfl (lv_at hl 1 rfl) ?_
  refine gFi hC hP (j := 6) sg_11 vc_5 iT5 (by decide) rfl tb_1_71 dX2_ruleMile_1 ?_
  refine lv_aload_n hx hb dX2_ruleMile_4 rfl (lv_at hl 1 rfl) ?_
  refine lv_iload_n hx hb dX2_ruleMile_5 rfl (lv_at hl 2 rfl) ?_
  refine lv_aload_n hx hb dX2_ruleMile_6 rfl (lv_at hl 1 rfl) ?_
  refine lv_iload_n hx hb dX2_ruleMile_7 rfl (lv_at hl 2 rfl) ?_
  refine lv_iconst (v := 0) hx hb dX2_ruleMile_8 (by decide) ?_
  obtain ⟨v1, hv, hf⟩ := ob_some hf
  refine cI hS (runV hC hP hS (As := [.int x2, .int 0]) (rest := [.int x2, .ref (ad G 11), .int (S.1 11 6)]) (k_X5_level l G S x2 0 _ hv) vy_X5_level sg_11 vc_5 tb_3_69 tb_2_219 tb_2_220 ⟨Nat.le_of_ble_eq_true rfl, Nat.le_of_ble_eq_true rfl⟩ rfl hl.1 rfl (Nat.le_of_ble_eq_true rfl) dX2_ruleMile_9) (fun H locs hP hS => ?_)
  obtain ⟨v2, hv, hf⟩ := ob_some hf
  refine cI hS (runV hC hP hS (As := [.int x2, .int v1]) (rest := [.int (S.1 11 6)]) (k_X5_atRest l G S x2 v1 _ hv) vy_X5_atRest sg_11 vc_5 tb_3_70 tb_2_239 tb_3_0 ⟨Nat.le_of_ble_eq_true rfl, Nat.le_of_ble_eq_true rfl⟩ rfl hl.1 rfl (Nat.le_of_ble_eq_true rfl) dX2_ruleMile_12) (fun H locs hP hS => ?_)
  refine lv_isub hx hb dX2_ruleMile_15 ?_
  refine lv_istore_n (lv' := [(3, .int ((S.1 11 6) - v2)), (0, .ref (ad G 13)), (1, .ref (ad G 11)), (2, .int x2)]) hx hb dX2_ruleMile_16 rfl hl (by decide) rfl (fun ls hl => ?_)
  refine lv_iconst (v := 0) hx hb dX2_ruleMile_17 (by decide) ?_
  refine lv_bipush (v := 100) hx hb dX2_ruleMile_18 (by decide) ?_
  refine lv_iload_n hx hb dX2_ruleMile_20 rfl (lv_at hl 0 rfl) ?_
  obtain ⟨v3, hv, hf⟩ := ob_some hf
  refine cI hS (runS hC hP hS (As := [.int 100, .int ((S.1 11 6) - v2)]) (rest := [.int 0]) (k_J9_min_7cf53 l G S 100 ((S.1 11 6) - v2) _ hv) vy_J9_min_7cf53 tb_3_71 tb_2_112 ⟨Nat.le_of_ble_eq_true rfl, Nat.le_of_ble_eq_true rfl⟩ rfl hl.1 rfl (Nat.le_of_ble_eq_true rfl) dX2_ruleMile_21) (fun H locs hP hS => ?_)
  obtain ⟨v4, hv, hf⟩ := ob_some hf
  refine cI hS (runS hC hP hS (As := [.int 0, .int v3]) (rest := []) (k_J9_max_7cf53 l G S 0 v3 _ hv) vy_J9_max_7cf53 tb_3_72 tb_2_151 ⟨Nat.le_of_ble_eq_true rfl, Nat.le_of_ble_eq_true rfl⟩ rfl hl.1 rfl (Nat.le_of_ble_eq_true rfl) dX2_ruleMile_24) (fun H locs hP hS => ?_)
  refine lv_istore (lv' := [(4, .int v4), (3, .int ((S.1 11 6) - v2)), (0, .ref (ad G 13)), (1, .ref (ad G 11)), (2, .int x2)]) hx hb dX2_ruleMile_27 hl (by decide) rfl (fun ls hl => ?_)
  refine lv_iconst (v := 0) hx hb dX2_ruleMile_29 (by decide) ?_
  refine lv_istore (lv' := [(5, .int 0), (4, .int v4), (3, .int ((S.1 11 6) - v2)), (0, .ref (ad G 13)), (1, .ref (ad G 11)), (2, .int x2)]) hx hb dX2_ruleMile_30 hl (by decide) rfl (fun ls hl => ?_)
  exact w_X2_ruleMile_32 hC hQ _ _ _ _ _ _ _ _ hP hS (lv_sub hl [3, 4, 5, 1, 0] rfl) hf
def f_X2_rule_2  : Nat → ST → Int32 → Option ST
  | 0, _, _ => none
  | n + 1, S, x2 => if (S.1 1 0) ≤ x2 then (some S) else ((f_X2_ruleMile S x2).bind fun S1 => f_X2_rule_2 n S1 (x2 + 1))
set_option maxRecDepth 100000 in
set_option maxHeartbeats 4000000 in
theorem w_X2_rule_2 {S' : ST} (hC : Cx p m c s args cX2_rule 3 RX2 G) (hQ : KV p l e (rmH 5) s m args below meth c Q cX2_rule G S') : ∀ (n : Nat) (S : ST) (x2 : Int32) (H : Heap) (locs : List Loc) (ls : Array Slot), va_P (gD G) vwCl (cells G S) H → va_S (gA G) s.heap H locs → lv_has ls 3 [(0, .ref (ad G 13)), (1, .ref (ad G 11)), (2, .int x2)] → f_X2_rule_2 n S x2 = some S' → W p l e (rmH 5) s m args below meth c H locs 0 0 Q (F0 m 2 ls []) := by
  obtain ⟨hx, hb, hml, hown, hts⟩ := id hC.1
  intro n
  induction n with
  | zero => intro S x2 H locs ls hP hS hl hf; rw [f_X2_rule_2] at hf; cases hf
  | succ n ih =>
    intro S x2 H locs ls hP hS hl hf
    rw [f_X2_rule_2] at hf
    refine lv_iload_n hx hb dX2_rule_2 rfl (lv_at hl 2 rfl) ?_
    refine lv_aload_n hx hb dX2_rule_3 rfl (lv_at hl 0 rfl) ?_
    refine gFr hC hP (j := 0) sg_13 vc_2 iT2 (by decide) rfl tb_1_124 dX2_rule_4 ?_
    refine gFi hC hP (j := 0) sg_1 vc_1 iT1 (by decide) rfl tb_1_30 dX2_rule_7 ?_
    refine lv_icmp_ge (tgt := 25) hx hb dX2_rule_10 (by decide) (fun hc => ?_) (fun hc => ?_)
    · rw [if_pos hc] at hf
      exact retV hQ hf hP hS dX2_rule_25
    · rw [if_neg hc] at hf
      refine lv_aload_n hx hb dX2_rule_13 rfl (lv_at hl 0 rfl) ?_
      refine lv_aload_n hx hb dX2_rule_14 rfl (lv_at hl 1 rfl) ?_
      refine lv_iload_n hx hb dX2_rule_15 rfl (lv_at hl 2 rfl) ?_
      obtain ⟨S1, hv, hf⟩ := ob_some hf
      refine cV hS (runV hC hP hS (As := [.ref (ad G 11), .int x2]) (rest := []) (k_X2_ruleMile l G S x2 _ hv) vy_X2_ruleMile sg_13 vc_2 tb_3_65 tb_3_66 tb_3_67 ⟨Nat.le_of_ble_eq_true rfl, Nat.le_of_ble_eq_true rfl⟩ rfl hl.1 rfl (Nat.le_of_ble_eq_true rfl) dX2_rule_16) (fun H locs hP hS => ?_)
      refine lv_iinc (v := x2 + 1) (lv' := [(2, .int (x2 + 1)), (0, .ref (ad G 13)), (1, .ref (ad G 11))]) hx hb dX2_rule_19 hl (k := 2) rfl rfl (by decide) rfl (fun ls hl => ?_)
      refine lv_goto (tgt := 2) hx hb dX2_rule_22 (by decide) ?_
      exact ih _ _ _ _ _ hP hS (lv_sub hl [1, 2, 0] rfl) hf
def f_X2_rule (S : ST)  : Option ST := f_X2_rule_2 FU S 0
set_option maxRecDepth 100000 in
set_option maxHeartbeats 4000000 in
theorem k_X2_rule (l : Launch) (G : GT) (S : ST)  (S' : ST) (hf : f_X2_rule S  = some S') : MV l yX2_rule cX2_rule 3 5 [.ref (ad G 13), .ref (ad G 11)] G S S' := by
  rw [f_X2_rule] at hf
  refine mkV (own := RX2) (by decide +kernel) rfl (Nat.le_of_ble_eq_true rfl) (fun p e s m args below meth c Q ls hC hP hS hl hQ => ?_)
  have hl : lv_has ls 3 [(0, .ref (ad G 13)), (1, .ref (ad G 11))] := hl
  obtain ⟨hx, hb, hml, hown, hts⟩ := id hC.1
  refine lv_iconst (v := 0) hx hb dX2_rule_0 (by decide) ?_
  refine lv_istore_n (lv' := [(2, .int 0), (0, .ref (ad G 13)), (1, .ref (ad G 11))]) hx hb dX2_rule_1 rfl hl (by decide) rfl (fun ls hl => ?_)
  exact w_X2_rule_2 hC hQ _ _ _ _ _ _ hP hS (lv_sub hl [1, 2, 0] rfl) hf
def f_X2_begin (S : ST)  : Option ST := (f_X2_layTide S).bind fun S1 => (f_X2_rule S1).bind fun S2 => some S2
set_option maxRecDepth 100000 in
set_option maxHeartbeats 4000000 in
theorem k_X2_begin (l : Launch) (G : GT) (S : ST)  (S' : ST) (hf : f_X2_begin S  = some S') : MV l yX2_begin cX2_begin 2 6 [.ref (ad G 13), .ref (ad G 11)] G S S' := by
  rw [f_X2_begin] at hf
  refine mkV (own := RX2) (by decide +kernel) rfl (Nat.le_of_ble_eq_true rfl) (fun p e s m args below meth c Q ls hC hP hS hl hQ => ?_)
  have hl : lv_has ls 2 [(0, .ref (ad G 13)), (1, .ref (ad G 11))] := hl
  obtain ⟨hx, hb, hml, hown, hts⟩ := id hC.1
  refine lv_aload_n hx hb dX2_begin_0 rfl (lv_at hl 0 rfl) ?_
  obtain ⟨S1, hv, hf⟩ := ob_some hf
  refine cV hS (runV hC hP hS (As := []) (rest := []) (k_X2_layTide l G S _ hv) vy_X2_layTide sg_13 vc_2 tb_3_44 tb_3_45 tb_3_46 ⟨Nat.le_of_ble_eq_true rfl, Nat.le_of_ble_eq_true rfl⟩ rfl hl.1 rfl (Nat.le_of_ble_eq_true rfl) dX2_begin_1) (fun H locs hP hS => ?_)
  refine lv_aload_n hx hb dX2_begin_4 rfl (lv_at hl 0 rfl) ?_
  refine lv_aload_n hx hb dX2_begin_5 rfl (lv_at hl 1 rfl) ?_
  obtain ⟨S2, hv, hf⟩ := ob_some hf
  refine cV hS (runV hC hP hS (As := [.ref (ad G 11)]) (rest := []) (k_X2_rule l G S1 _ hv) vy_X2_rule sg_13 vc_2 tb_3_61 tb_3_62 tb_3_63 ⟨Nat.le_of_ble_eq_true rfl, Nat.le_of_ble_eq_true rfl⟩ rfl hl.1 rfl (Nat.le_of_ble_eq_true rfl) dX2_begin_6) (fun H locs hP hS => ?_)
  exact retV hQ hf hP hS dX2_begin_9
end
