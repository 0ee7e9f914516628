section
variable {p : Program} {l : Launch} {e : Env} {s : State} {m : MethodId} {args : Array Value} {below : List Frame} {meth : Method} {c : Code} {Q : State → Prop} {G : GT}

def f_X8_lost (S : ST) (x1 : Int32) (x2 : Int32) (x3 : Int32) (x4 : Int32) : Option (Int32 × ST) := (f_X8_isShip S x1).bind fun v1 => if v1 = 0 then (some ((-1), S)) else ((f_X8_isStart x2).bind fun v2 => if v2 = 0 then (some ((-1), S)) else ((f_X8_isSet 3 x3).bind fun v3 => if v3 = 0 then (some ((-1), S)) else ((f_X8_isSet 4 x4).bind fun v4 => if v4 = 0 then (some ((-1), S)) else (if (S.1 30 0) = 0 then (some ((-2), S)) else ((rI S 0 33 3).bind fun v5 => (rI S 0 33 4).bind fun v6 => (wI S 33 3 x3).bind fun S7 => (wI S7 33 4 x4).bind fun S8 => b2 (f_X8_quickest S8 x1 x2) fun v9 S10 => (wI S10 33 4 0).bind fun S11 => b2 (f_X8_quickest S11 x1 x2) fun v12 S13 => (wI S13 33 3 v5).bind fun S14 => (wI S14 33 4 v6).bind fun S15 => if 100000 ≤ v9 then (some ((-4), S15)) else (if v12 < 100000 then (some ((v9 - v12), S15)) else (some ((-4), S15))))))))
set_option maxRecDepth 100000 in
set_option maxHeartbeats 4000000 in
theorem k_X8_lost (l : Launch) (G : GT) (S : ST) (x1 : Int32) (x2 : Int32) (x3 : Int32) (x4 : Int32) (r : Int32) (S' : ST) (hf : f_X8_lost S x1 x2 x3 x4 = some (r, S')) : MI l yX8_lost cX8_lost 9 (some .int) 4 [.ref (ad G 30), .int x1, .int x2, .int x3, .int x4] G S r S' := by
  rw [f_X8_lost] at hf
  refine mkI (own := RX8) (by decide +kernel) rfl rfl (Nat.le_of_ble_eq_true rfl) (fun p e s m args below meth c Q ls hC hP hS hl hQ => ?_)
  have hl : lv_has ls 9 [(0, .ref (ad G 30)), (1, .int x1), (2, .int x2), (3, .int x3), (4, .int x4)] := hl
  obtain ⟨hx, hb, hml, hown, hts⟩ := id hC.1
  refine lv_aload_n hx hb dX8_lost_0 rfl (lv_at hl 0 rfl) ?_
  refine lv_iload_n hx hb dX8_lost_1 rfl (lv_at hl 1 rfl) ?_
  obtain ⟨v1, hv, hf⟩ := ob_some hf
  refine cI hS (runV hC hP hS (As := [.int x1]) (rest := []) (k_X8_isShip l G S x1 _ hv) vy_X8_isShip sg_30 vc_8 tb_5_46 tb_5_48 ts_37 ⟨Nat.le_of_ble_eq_true rfl, Nat.le_of_ble_eq_true rfl⟩ rfl hl.1 rfl (Nat.le_of_ble_eq_true rfl) dX8_lost_2) (fun H locs hP hS => ?_)
  refine lv_if_eq (tgt := 32) hx hb dX8_lost_5 (by decide) (fun hc => ?_) (fun hc => ?_)
  · rw [if_pos hc] at hf
    refine lv_iconst (v := (-1)) hx hb dX8_lost_32 (by decide) ?_
    exact retIw hQ hf hP hS dX8_lost_33
  · rw [if_neg hc] at hf
    refine lv_iload_n hx hb dX8_lost_8 rfl (lv_at hl 2 rfl) ?_
    obtain ⟨v2, hv, hf⟩ := ob_some hf
    refine cI hS (runS hC hP hS (As := [.int x2]) (rest := []) (k_X8_isStart l G S x2 _ hv) vy_X8_isStart tb_5_74 tb_5_75 ⟨Nat.le_of_ble_eq_true rfl, Nat.le_of_ble_eq_true rfl⟩ rfl hl.1 rfl (Nat.le_of_ble_eq_true rfl) dX8_lost_9) (fun H locs hP hS => ?_)
    refine lv_if_eq (tgt := 32) hx hb dX8_lost_12 (by decide) (fun hc => ?_) (fun hc => ?_)
    · rw [if_pos hc] at hf
      refine lv_iconst (v := (-1)) hx hb dX8_lost_32 (by decide) ?_
      exact retIw hQ hf hP hS dX8_lost_33
    · rw [if_neg hc] at hf
      refine lv_iconst (v := 3) hx hb dX8_lost_15 (by decide) ?_
      refine lv_iload_n hx hb dX8_lost_16 rfl (lv_at hl 3 rfl) ?_
      obtain ⟨v3, hv, hf⟩ := ob_some hf
      refine cI hS (runS hC hP hS (As := [.int 3, .int x3]) (rest := []) (k_X8_isSet l G S 3 x3 _ hv) vy_X8_isSet tb_4_202 tb_4_203 ⟨Nat.le_of_ble_eq_true rfl, Nat.le_of_ble_eq_true rfl⟩ rfl hl.1 rfl (Nat.le_of_ble_eq_true rfl) dX8_lost_17) (fun H locs hP hS => ?_)
      refine lv_if_eq (tgt := 32) hx hb dX8_lost_20 (by decide) (fun hc => ?_) (fun hc => ?_)
      · rw [if_pos hc] at hf
        refine lv_iconst (v := (-1)) hx hb dX8_lost_32 (by decide) ?_
        exact retIw hQ hf hP hS dX8_lost_33
      · rw [if_neg hc] at hf
        refine lv_iconst (v := 4) hx hb dX8_lost_23 (by decide) ?_
        refine lv_iload hx hb dX8_lost_24 (lv_at hl 4 rfl) ?_
        obtain ⟨v4, hv, hf⟩ := ob_some hf
        refine cI hS (runS hC hP hS (As := [.int 4, .int x4]) (rest := []) (k_X8_isSet l G S 4 x4 _ hv) vy_X8_isSet tb_4_202 tb_4_203 ⟨Nat.le_of_ble_eq_true rfl, Nat.le_of_ble_eq_true rfl⟩ rfl hl.1 rfl (Nat.le_of_ble_eq_true rfl) dX8_lost_26) (fun H locs hP hS => ?_)
        refine lv_if_ne (tgt := 34) hx hb dX8_lost_29 (by decide) (fun hc => ?_) (fun hc => ?_)
        · rw [if_neg hc] at hf
          refine lv_aload_n hx hb dX8_lost_34 rfl (lv_at hl 0 rfl) ?_
          refine gFi hC hP (j := 0) sg_30 vc_8 iT8 (by decide) rfl tb_4_71 dX8_lost_35 ?_
          refine lv_if_ne (tgt := 44) hx hb dX8_lost_38 (by decide) (fun hc => ?_) (fun hc => ?_)
          · rw [if_neg hc] at hf
            refine lv_aload_n hx hb dX8_lost_44 rfl (lv_at hl 0 rfl) ?_
            refine gFr hC hP (j := 3) sg_30 vc_8 iT8 (by decide) rfl tb_4_74 dX8_lost_45 ?_
            refine lv_iconst (v := 3) hx hb dX8_lost_48 (by decide) ?_
            obtain ⟨v5, hv, hf⟩ := ob_some hf
            refine gIa hC hP hv dX8_lost_49 ?_
            refine lv_istore (lv' := [(5, .int v5), (0, .ref (ad G 30)), (1, .int x1), (2, .int x2), (3, .int x3), (4, .int x4)]) hx hb dX8_lost_50 hl (by decide) rfl (fun ls hl => ?_)
            refine lv_aload_n hx hb dX8_lost_52 rfl (lv_at hl 1 rfl) ?_
            refine gFr hC hP (j := 3) sg_30 vc_8 iT8 (by decide) rfl tb_4_74 dX8_lost_53 ?_
            refine lv_iconst (v := 4) hx hb dX8_lost_56 (by decide) ?_
            obtain ⟨v6, hv, hf⟩ := ob_some hf
            refine gIa hC hP hv dX8_lost_57 ?_
            refine lv_istore (lv' := [(6, .int v6), (5, .int v5), (0, .ref (ad G 30)), (1, .int x1), (2, .int x2), (3, .int x3), (4, .int x4)]) hx hb dX8_lost_58 hl (by decide) rfl (fun ls hl => ?_)
            refine lv_aload_n hx hb dX8_lost_60 rfl (lv_at hl 2 rfl) ?_
            refine gFr hC hP (j := 3) sg_30 vc_8 iT8 (by decide) rfl tb_4_74 dX8_lost_61 ?_
            refine lv_iconst (v := 3) hx hb dX8_lost_64 (by decide) ?_
            refine lv_iload_n hx hb dX8_lost_65 rfl (lv_at hl 5 rfl) ?_
            obtain ⟨S7, hv, hf⟩ := ob_some hf
            refine sIa hC hP hS hv dX8_lost_66 (fun H locs hP hS => ?_)
            refine lv_aload_n hx hb dX8_lost_67 rfl (lv_at hl 2 rfl) ?_
            refine gFr hC hP (j := 3) sg_30 vc_8 iT8 (by decide) rfl tb_4_74 dX8_lost_68 ?_
            refine lv_iconst (v := 4) hx hb dX8_lost_71 (by decide) ?_
            refine lv_iload hx hb dX8_lost_72 (lv_at hl 6 rfl) ?_
            obtain ⟨S8, hv, hf⟩ := ob_some hf
            refine sIa hC hP hS hv dX8_lost_74 (fun H locs hP hS => ?_)
            refine lv_aload_n hx hb dX8_lost_75 rfl (lv_at hl 2 rfl) ?_
            refine lv_iload_n hx hb dX8_lost_76 rfl (lv_at hl 3 rfl) ?_
            refine lv_iload_n hx hb dX8_lost_77 rfl (lv_at hl 4 rfl) ?_
            obtain ⟨v9, S10, hv, hf⟩ := ob_two hf
            refine cI hS (runV hC hP hS (As := [.int x1, .int x2]) (rest := []) (k_X8_quickest l G S8 x1 x2 _ _ hv) vy_X8_quickest sg_30 vc_8 tb_5_89 tb_5_91 ts_42 ⟨Nat.le_of_ble_eq_true rfl, Nat.le_of_ble_eq_true rfl⟩ rfl hl.1 rfl (Nat.le_of_ble_eq_true rfl) dX8_lost_78) (fun H locs hP hS => ?_)
            refine lv_istore (lv' := [(7, .int v9), (6, .int v6), (5, .int v5), (0, .ref (ad G 30)), (1, .int x1), (2, .int x2), (3, .int x3), (4, .int x4)]) hx hb dX8_lost_81 hl (by decide) rfl (fun ls hl => ?_)
            refine lv_aload_n hx hb dX8_lost_83 rfl (lv_at hl 3 rfl) ?_
            refine gFr hC hP (j := 3) sg_30 vc_8 iT8 (by decide) rfl tb_4_74 dX8_lost_84 ?_
            refine lv_iconst (v := 4) hx hb dX8_lost_87 (by decide) ?_
            refine lv_iconst (v := 0) hx hb dX8_lost_88 (by decide) ?_
            obtain ⟨S11, hv, hf⟩ := ob_some hf
            refine sIa hC hP hS hv dX8_lost_89 (fun H locs hP hS => ?_)
            refine lv_aload_n hx hb dX8_lost_90 rfl (lv_at hl 3 rfl) ?_
            refine lv_iload_n hx hb dX8_lost_91 rfl (lv_at hl 4 rfl) ?_
            refine lv_iload_n hx hb dX8_lost_92 rfl (lv_at hl 5 rfl) ?_
            obtain ⟨v12, S13, hv, hf⟩ := ob_two hf
            refine cI hS (runV hC hP hS (As := [.int x1, .int x2]) (rest := []) (k_X8_quickest l G S11 x1 x2 _ _ hv) vy_X8_quickest sg_30 vc_8 tb_5_89 tb_5_91 ts_42 ⟨Nat.le_of_ble_eq_true rfl, Nat.le_of_ble_eq_true rfl⟩ rfl hl.1 rfl (Nat.le_of_ble_eq_true rfl) dX8_lost_93) (fun H locs hP hS => ?_)
            refine lv_istore (lv' := [(8, .int v12), (7, .int v9), (6, .int v6), (5, .int v5), (0, .ref (ad G 30)), (1, .int x1), (2, .int x2), (3, .int x3), (4, .int x4)]) hx hb dX8_lost_96 hl (by decide) rfl (fun ls hl => ?_)
            refine lv_aload_n hx hb dX8_lost_98 rfl (lv_at hl 4 rfl) ?_
            refine gFr hC hP (j := 3) sg_30 vc_8 iT8 (by decide) rfl tb_4_74 dX8_lost_99 ?_
            refine lv_iconst (v := 3) hx hb dX8_lost_102 (by decide) ?_
            refine lv_iload hx hb dX8_lost_103 (lv_at hl 3 rfl) ?_
            obtain ⟨S14, hv, hf⟩ := ob_some hf
            refine sIa hC hP hS hv dX8_lost_105 (fun H locs hP hS => ?_)
            refine lv_aload_n hx hb dX8_lost_106 rfl (lv_at hl 4 rfl) ?_
            refine gFr hC hP (j := 3) sg_30 vc_8 iT8 (by decide) rfl tb_4_74 dX8_lost_107 ?_
            refine lv_iconst (v := 4) hx hb dX8_lost_110 (by decide) ?_
            refine lv_iload hx hb dX8_lost_111 (lv_at hl 2 rfl) ?_
            obtain ⟨S15, hv, hf⟩ := ob_some hf
            refine sIa hC hP hS hv dX8_lost_113 (fun H locs hP hS => ?_)
            refine lv_iload hx hb dX8_lost_114 (lv_at hl 1 rfl) ?_
            refine lv_ldc hx hb hown (hts _ tb_5_83) dX8_lost_116 ?_
            refine lv_icmp_ge (tgt := 128) hx hb dX8_lost_118 (by decide) (fun hc => ?_) (fun hc => ?_)
            · rw [if_pos hc] at hf
              refine lv_bipush (v := (-4)) hx hb dX8_lost_128 (by decide) ?_
              refine lv_goto (tgt := 138) hx hb dX8_lost_130 (by decide) ?_
              exact retIw hQ hf hP hS dX8_lost_138
            · rw [if_neg hc] at hf
              refine lv_iload hx hb dX8_lost_121 (lv_at hl 0 rfl) ?_
              refine lv_ldc hx hb hown (hts _ tb_5_83) dX8_lost_123 ?_
              refine lv_icmp_lt (tgt := 133) hx hb dX8_lost_125 (by decide) (fun hc => ?_) (fun hc => ?_)
              · rw [if_pos hc] at hf
                refine lv_iload hx hb dX8_lost_133 (lv_at hl 1 rfl) ?_
                refine lv_iload hx hb dX8_lost_135 (lv_at hl 0 rfl) ?_
                refine lv_isub hx hb dX8_lost_137 ?_
                exact retIw hQ hf hP hS dX8_lost_138
              · rw [if_neg hc] at hf
                refine lv_bipush (v := (-4)) hx hb dX8_lost_128 (by decide) ?_
                refine lv_goto (tgt := 138) hx hb dX8_lost_130 (by decide) ?_
                exact retIw hQ hf hP hS dX8_lost_138
          · rw [if_pos hc] at hf
            refine lv_bipush (v := (-2)) hx hb dX8_lost_41 (by decide) ?_
            exact retIw hQ hf hP hS dX8_lost_43
        · rw [if_pos hc] at hf
          refine lv_iconst (v := (-1)) hx hb dX8_lost_32 (by decide) ?_
          exact retIw hQ hf hP hS dX8_lost_33
def f_X8_touched_109  (k70 : ST → Int32 → Int32 → Int32 → Int32 → Int32 → Int32 → Option (Int32 × ST)) (S : ST) (x1 : Int32) (x2 : Int32) (x3 : Int32) (x4 : Int32) (x6 : Int32) (y0 : Int32) (y1 : Int32) : Option (Int32 × ST) := k70 S x1 x2 x3 x4 (y1 ||| y0) (x6 + 1)
set_option maxRecDepth 100000 in
set_option maxHeartbeats 4000000 in
theorem w_X8_touched_109 {r : Int32} {S' : ST} (hC : Cx p m c s args cX8_touched 7 RX8 G) (hQ : KI p l e (rmH 4) s m args below meth c Q cX8_touched G r S') {k70 : ST → Int32 → Int32 → Int32 → Int32 → Int32 → Int32 → Option (Int32 × ST)} (hk70 : ∀ (S : ST) (x1 : Int32) (x2 : Int32) (x3 : Int32) (x4 : Int32) (x5 : Int32) (x6 : Int32) (H : Heap) (locs : List Loc) (ls : Array Slot), va_P (gD G) vwCl (cells G S) H → va_S (gA G) s.heap H locs → lv_has ls 7 [(0, .ref (ad G 30)), (1, .int x1), (2, .int x2), (3, .int x3), (4, .int x4), (5, .int x5), (6, .int x6)] → k70 S x1 x2 x3 x4 x5 x6 = some (r, S') → W p l e (rmH 4) s m args below meth c H locs 0 0 Q (F0 m 70 ls [])) (S : ST) (x1 : Int32) (x2 : Int32) (x3 : Int32) (x4 : Int32) (x6 : Int32) (y0 : Int32) (y1 : Int32) (H : Heap) (locs : List Loc) (ls : Array Slot) (hP : va_P (gD G) vwCl (cells G S) H) (hS : va_S (gA G) s.heap H locs) (hl : lv_has ls 7 [(0, .ref (ad G 30)), (1, .int x1), (2, .int x2), (3, .int x3), (4, .int x4), (6, .int x6)]) (hf : f_X8_touched_109 k70 S x1 x2 x3 x4 x6 y0 y1 = some (r, S')) : W p l e (rmH 4) s m args below meth c H locs 0 0 Q (F0 m 109 ls [.int y0, .int y1]) := by
  obtain ⟨hx, hb, hml, hown, hts⟩ := id hC.1
  rw [f_X8_touched_109] at hf
  refine lv_ior hx hb dX8_touched_109 ?_
  refine lv_istore (lv' := [(5, .int (y1 ||| y0)), (0, .ref (ad G 30)), (1, .int x1), (2, .int x2), (3, .int x3), (4, .int x4), (6, .int x6)]) hx hb dX8_touched_110 hl (by decide) rfl (fun ls hl => ?_)
  refine lv_iinc (v := x6 + 1) (lv' := [(6, .int (x6 + 1)), (5, .int (y1 ||| y0)), (0, .ref (ad G 30)), (1, .int x1), (2, .int x2), (3, .int x3), (4, .int x4)]) hx hb dX8_touched_112 hl (k := 6) rfl rfl (by decide) rfl (fun ls hl => ?_)
  refine lv_goto (tgt := 70) hx hb dX8_touched_115 (by decide) ?_
  exact hk70 _ _ _ _ _ _ _ _ _ _ hP hS (lv_sub hl [2, 3, 4, 5, 6, 1, 0] rfl) hf
def f_X8_touched_70  : Nat → ST → Int32 → Int32 → Int32 → Int32 → Int32 → Int32 → Option (Int32 × ST)
  | 0, _, _, _, _, _, _, _ => none
  | n + 1, S, x1, x2, x3, x4, x5, x6 => if 10 ≤ x6 then ((wI S 33 1 x4).bind fun S1 => some (x5, S1)) else ((wI S 33 1 x6).bind fun S2 => (f_X8_goes S2 x1 x2).bind fun S3 => if (S3.1 30 11) = x3 then (f_X8_touched_109 (f_X8_touched_70 n) S3 x1 x2 x3 x4 x6 (1 <<< (x6 &&& 31)) x5) else (f_X8_touched_109 (f_X8_touched_70 n) S3 x1 x2 x3 x4 x6 0 x5))
set_option maxRecDepth 100000 in
set_option maxHeartbeats 4000000 in
theorem w_X8_touched_70 {r : Int32} {S' : ST} (hC : Cx p m c s args cX8_touched 7 RX8 G) (hQ : KI p l e (rmH 4) s m args below meth c Q cX8_touched G r S') : ∀ (n : Nat) (S : ST) (x1 : Int32) (x2 : Int32) (x3 : Int32) (x4 : Int32) (x5 : Int32) (x6 : Int32) (H : Heap) (locs : List Loc) (ls : Array Slot), va_P (gD G) vwCl (cells G S) H → va_S (gA G) s.heap H locs → lv_has ls 7 [(0, .ref (ad G 30)), (1, .int x1), (2, .int x2), (3, .int x3), (4, .int x4), (5, .int x5), (6, .int x6)] → f_X8_touched_70 n S x1 x2 x3 x4 x5 x6 = some (r, S') → W p l e (rmH 4) s m args below meth c H locs 0 0 Q (F0 m 70 ls []) := by
  obtain ⟨hx, hb, hml, hown, hts⟩ := id hC.1
  intro n
  induction n with
  | zero => intro S x1 x2 x3 x4 x5 x6 H locs ls hP hS hl hf; rw [f_X8_touched_70] at hf; cases hf
  | succ n ih =>
    intro S x1 x2 x3 x4 x5 x6 H locs ls hP hS hl hf
    rw [f_X8_touched_70] at hf
    refine lv_iload hx hb dX8_touched_70 (lv_at hl 6 rfl) ?_
    refine lv_bipush (v := 10) hx hb dX8_touched_72 (by decide) ?_
    refine lv_icmp_ge (tgt := 118) hx hb dX8_touched_74 (by decide) (fun hc => ?_) (fun hc => ?_)
    · rw [if_pos hc] at hf
      refine lv_aload_n hx hb dX8_touched_118 rfl (lv_at hl 0 rfl) ?_
      refine gFr hC hP (j := 3) sg_30 vc_8 iT8 (by decide) rfl tb_4_74 dX8_touched_119 ?_
      refine lv_iconst (v := 1) hx hb dX8_touched_122 (by decide) ?_
      refine lv_iload hx hb dX8_touched_123 (lv_at hl 4 rfl) ?_
      obtain ⟨S1, hv, hf⟩ := ob_some hf
      refine sIa hC hP hS hv dX8_touched_125 (fun H locs hP hS => ?_)
      refine lv_iload hx hb dX8_touched_126 (lv_at hl 5 rfl) ?_
      exact retIw hQ hf hP hS dX8_touched_128
    · rw [if_neg hc] at hf
      refine lv_aload_n hx hb dX8_touched_77 rfl (lv_at hl 0 rfl) ?_
      refine gFr hC hP (j := 3) sg_30 vc_8 iT8 (by decide) rfl tb_4_74 dX8_touched_78 ?_
      refine lv_iconst (v := 1) hx hb dX8_touched_81 (by decide) ?_
      refine lv_iload hx hb dX8_touched_82 (lv_at hl 6 rfl) ?_
      obtain ⟨S2, hv, hf⟩ := ob_some hf
      refine sIa hC hP hS hv dX8_touched_84 (fun H locs hP hS => ?_)
      refine lv_aload_n hx hb dX8_touched_85 rfl (lv_at hl 0 rfl) ?_
      refine lv_iload_n hx hb dX8_touched_86 rfl (lv_at hl 1 rfl) ?_
      refine lv_iload_n hx hb dX8_touched_87 rfl (lv_at hl 2 rfl) ?_
      obtain ⟨S3, hv, hf⟩ := ob_some hf
      refine cV hS (runV hC hP hS (As := [.int x1, .int x2]) (rest := []) (k_X8_goes l G S2 x1 x2 _ hv) vy_X8_goes sg_30 vc_8 tb_5_79 tb_5_81 ts_41 ⟨Nat.le_of_ble_eq_true rfl, Nat.le_of_ble_eq_true rfl⟩ rfl hl.1 rfl (Nat.le_of_ble_eq_true rfl) dX8_touched_88) (fun H locs hP hS => ?_)
      refine lv_iload hx hb dX8_touched_91 (lv_at hl 5 rfl) ?_
      refine lv_aload_n hx hb dX8_touched_93 rfl (lv_at hl 0 rfl) ?_
      refine gFi hC hP (j := 11) sg_30 vc_8 iT8 (by decide) rfl tb_4_82 dX8_touched_94 ?_
      refine lv_iload_n hx hb dX8_touched_97 rfl (lv_at hl 3 rfl) ?_
      refine lv_icmp_ne (tgt := 108) hx hb dX8_touched_98 (by decide) (fun hc => ?_) (fun hc => ?_)
      · rw [if_neg hc] at hf
        refine lv_iconst (v := 0) hx hb dX8_touched_108 (by decide) ?_
        exact w_X8_touched_109 hC hQ ih  _ _ _ _ _ _ _ _ _ _ _ hP hS (lv_sub hl [0, 1, 2, 3, 4, 6] rfl) hf
      · rw [if_pos hc] at hf
        refine lv_iconst (v := 1) hx hb dX8_touched_101 (by decide) ?_
        refine lv_iload hx hb dX8_touched_102 (lv_at hl 6 rfl) ?_
        refine lv_ishl hx hb dX8_touched_104 ?_
        refine lv_goto (tgt := 109) hx hb dX8_touched_105 (by decide) ?_
        exact w_X8_touched_109 hC hQ ih  _ _ _ _ _ _ _ _ _ _ _ hP hS (lv_sub hl [0, 1, 2, 3, 4, 6] rfl) hf
def f_X8_touched_32  (S : ST) (x1 : Int32) (x2 : Int32) (x3 : Int32) : Option (Int32 × ST) := if (S.1 30 0) = 0 then (if x3 < 0 then (some ((-1), S)) else (if x3 ≤ 15 then (some ((-2), S)) else (some ((-1), S)))) else ((rI S 0 33 1).bind fun v1 => f_X8_touched_70 FU S x1 x2 x3 v1 0 0)
set_option maxRecDepth 100000 in
set_option maxHeartbeats 4000000 in
theorem w_X8_touched_32 {r : Int32} {S' : ST} (hC : Cx p m c s args cX8_touched 7 RX8 G) (hQ : KI p l e (rmH 4) s m args below meth c Q cX8_touched G r S') (S : ST) (x1 : Int32) (x2 : Int32) (x3 : Int32) (H : Heap) (locs : List Loc) (ls : Array Slot) (hP : va_P (gD G) vwCl (cells G S) H) (hS : va_S (gA G) s.heap H locs) (hl : lv_has ls 7 [(0, .ref (ad G 30)), (1, .int x1), (2, .int x2), (3, .int x3)]) (hf : f_X8_touched_32 S x1 x2 x3 = some (r, S')) : W p l e (rmH 4) s m args below meth c H locs 0 0 Q (F0 m 32 ls []) := by
  obtain ⟨hx, hb, hml, hown, hts⟩ := id hC.1
  rw [f_X8_touched_32] at hf
  refine lv_aload_n hx hb dX8_touched_32 rfl (lv_at hl 0 rfl) ?_
  refine gFi hC hP (j := 0) sg_30 vc_8 iT8 (by decide) rfl tb_4_71 dX8_touched_33 ?_
  refine lv_if_ne (tgt := 56) hx hb dX8_touched_36 (by decide) (fun hc => ?_) (fun hc => ?_)
  · rw [if_neg hc] at hf
    refine lv_aload_n hx hb dX8_touched_56 rfl (lv_at hl 0 rfl) ?_
    refine gFr hC hP (j := 3) sg_30 vc_8 iT8 (by decide) rfl tb_4_74 dX8_touched_57 ?_
    refine lv_iconst (v := 1) hx hb dX8_touched_60 (by decide) ?_
    obtain ⟨v1, hv, hf⟩ := ob_some hf
    refine gIa hC hP hv dX8_touched_61 ?_
    refine lv_istore (lv' := [(4, .int v1), (0, .ref (ad G 30)), (1, .int x1), (2, .int x2), (3, .int x3)]) hx hb dX8_touched_62 hl (by decide) rfl (fun ls hl => ?_)
    refine lv_iconst (v := 0) hx hb dX8_touched_64 (by decide) ?_
    refine lv_istore (lv' := [(5, .int 0), (4, .int v1), (0, .ref (ad G 30)), (1, .int x1), (2, .int x2), (3, .int x3)]) hx hb dX8_touched_65 hl (by decide) rfl (fun ls hl => ?_)
    refine lv_iconst (v := 0) hx hb dX8_touched_67 (by decide) ?_
    refine lv_istore (lv' := [(6, .int 0), (5, .int 0), (4, .int v1), (0, .ref (ad G 30)), (1, .int x1), (2, .int x2), (3, .int x3)]) hx hb dX8_touched_68 hl (by decide) rfl (fun ls hl => ?_)
    exact w_X8_touched_70 hC hQ _ _ _ _ _ _ _ _ _ _ _ hP hS (lv_sub hl [3, 4, 5, 6, 2, 1, 0] rfl) hf
  · rw [if_pos hc] at hf
    refine lv_iload_n hx hb dX8_touched_39 rfl (lv_at hl 3 rfl) ?_
    refine lv_if_lt (tgt := 49) hx hb dX8_touched_40 (by decide) (fun hc => ?_) (fun hc => ?_)
    · rw [if_pos hc] at hf
      refine lv_iconst (v := (-1)) hx hb dX8_touched_49 (by decide) ?_
      refine lv_goto (tgt := 55) hx hb dX8_touched_50 (by decide) ?_
      exact retIw hQ hf hP hS dX8_touched_55
    · rw [if_neg hc] at hf
      refine lv_iload_n hx hb dX8_touched_43 rfl (lv_at hl 3 rfl) ?_
      refine lv_bipush (v := 15) hx hb dX8_touched_44 (by decide) ?_
      refine lv_icmp_le (tgt := 53) hx hb dX8_touched_46 (by decide) (fun hc => ?_) (fun hc => ?_)
      · rw [if_pos hc] at hf
        refine lv_bipush (v := (-2)) hx hb dX8_touched_53 (by decide) ?_
        exact retIw hQ hf hP hS dX8_touched_55
      · rw [if_neg hc] at hf
        refine lv_iconst (v := (-1)) hx hb dX8_touched_49 (by decide) ?_
        refine lv_goto (tgt := 55) hx hb dX8_touched_50 (by decide) ?_
        exact retIw hQ hf hP hS dX8_touched_55
def f_X8_touched (S : ST) (x1 : Int32) (x2 : Int32) (x3 : Int32) : Option (Int32 × ST) := (f_X8_isShip S x1).bind fun v1 => if v1 = 0 then (some ((-1), S)) else ((f_X8_isStart x2).bind fun v2 => if v2 = 0 then (some ((-1), S)) else (if (S.1 30 0) ≤ 0 then (f_X8_touched_32 S x1 x2 x3) else ((f_X8_isMile S x3).bind fun v3 => if v3 = 0 then (some ((-1), S)) else (f_X8_touched_32 S x1 x2 x3))))
set_option maxRecDepth 100000 in
set_option maxHeartbeats 4000000 in
theorem k_X8_touched (l : Launch) (G : GT) (S : ST) (x1 : Int32) (x2 : Int32) (x3 : Int32) (r : Int32) (S' : ST) (hf : f_X8_touched S x1 x2 x3 = some (r, S')) : MI l yX8_touched cX8_touched 7 (some .int) 4 [.ref (ad G 30), .int x1, .int x2, .int x3] G S r S' := by
  rw [f_X8_touched] at hf
  refine mkI (own := RX8) (by decide +kernel) rfl rfl (Nat.le_of_ble_eq_true rfl) (fun p e s m args below meth c Q ls hC hP hS hl hQ => ?_)
  have hl : lv_has ls 7 [(0, .ref (ad G 30)), (1, .int x1), (2, .int x2), (3, .int x3)] := hl
  obtain ⟨hx, hb, hml, hown, hts⟩ := id hC.1
  refine lv_aload_n hx hb dX8_touched_0 rfl (lv_at hl 0 rfl) ?_
  refine lv_iload_n hx hb dX8_touched_1 rfl (lv_at hl 1 rfl) ?_
  obtain ⟨v1, hv, hf⟩ := ob_some hf
  refine cI hS (runV hC hP hS (As := [.int x1]) (rest := []) (k_X8_isShip l G S x1 _ hv) vy_X8_isShip sg_30 vc_8 tb_5_46 tb_5_48 ts_37 ⟨Nat.le_of_ble_eq_true rfl, Nat.le_of_ble_eq_true rfl⟩ rfl hl.1 rfl (Nat.le_of_ble_eq_true rfl) dX8_touched_2) (fun H locs hP hS => ?_)
  refine lv_if_eq (tgt := 30) hx hb dX8_touched_5 (by decide) (fun hc => ?_) (fun hc => ?_)
  · rw [if_pos hc] at hf
    refine lv_iconst (v := (-1)) hx hb dX8_touched_30 (by decide) ?_
    exact retIw hQ hf hP hS dX8_touched_31
  · rw [if_neg hc] at hf
    refine lv_iload_n hx hb dX8_touched_8 rfl (lv_at hl 2 rfl) ?_
    obtain ⟨v2, hv, hf⟩ := ob_some hf
    refine cI hS (runS hC hP hS (As := [.int x2]) (rest := []) (k_X8_isStart l G S x2 _ hv) vy_X8_isStart tb_5_74 tb_5_75 ⟨Nat.le_of_ble_eq_true rfl, Nat.le_of_ble_eq_true rfl⟩ rfl hl.1 rfl (Nat.le_of_ble_eq_true rfl) dX8_touched_9) (fun H locs hP hS => ?_)
    refine lv_if_eq (tgt := 30) hx hb dX8_touched_12 (by decide) (fun hc => ?_) (fun hc => ?_)
    · rw [if_pos hc] at hf
      refine lv_iconst (v := (-1)) hx hb dX8_touched_30 (by decide) ?_
      exact retIw hQ hf hP hS dX8_touched_31
    · rw [if_neg hc] at hf
      refine lv_aload_n hx hb dX8_touched_15 rfl (lv_at hl 0 rfl) ?_
      refine gFi hC hP (j := 0) sg_30 vc_8 iT8 (by decide) rfl tb_4_71 dX8_touched_16 ?_
      refine lv_if_le (tgt := 32) hx hb dX8_touched_19 (by decide) (fun hc => ?_) (fun hc => ?_)
      · rw [if_pos hc] at hf
        exact w_X8_touched_32 hC hQ  _ _ _ _ _ _ _ hP hS (lv_sub hl [0, 1, 2, 3] rfl) hf
      · rw [if_neg hc] at hf
        refine lv_aload_n hx hb dX8_touched_22 rfl (lv_at hl 0 rfl) ?_
        refine lv_iload_n hx hb dX8_touched_23 rfl (lv_at hl 3 rfl) ?_
        obtain ⟨v3, hv, hf⟩ := ob_some hf
        refine cI hS (runV hC hP hS (As := [.int x3]) (rest := []) (k_X8_isMile l G S x3 _ hv) vy_X8_isMile sg_30 vc_8 tb_4_184 tb_4_186 ts_29 ⟨Nat.le_of_ble_eq_true rfl, Nat.le_of_ble_eq_true rfl⟩ rfl hl.1 rfl (Nat.le_of_ble_eq_true rfl) dX8_touched_24) (fun H locs hP hS => ?_)
        refine lv_if_ne (tgt := 32) hx hb dX8_touched_27 (by decide) (fun hc => ?_) (fun hc => ?_)
        · rw [if_neg hc] at hf
          exact w_X8_touched_32 hC hQ  _ _ _ _ _ _ _ hP hS (lv_sub hl [0, 1, 2, 3] rfl) hf
        · rw [if_pos hc] at hf
          refine lv_iconst (v := (-1)) hx hb dX8_touched_30 (by decide) ?_
          exact retIw hQ hf hP hS dX8_touched_31
def f_X8_past_95 (S : ST)  (k58 : Int32 → Int32 → Int32 → Int32 → Int32 → Option Int32) (x1 : Int32) (x3 : Int32) (x4 : Int32) (x6 : Int32) (y0 : Int32) : Option Int32 := k58 x1 x3 x4 y0 (x6 + 1)
set_option maxRecDepth 100000 in
set_option maxHeartbeats 4000000 in
theorem w_X8_past_95 {r : Int32} {S : ST} (hC : Cx p m c s args cX8_past 7 RX8 G) (hQ : KI p l e (rmH 3) s m args below meth c Q cX8_past G r S) {k58 : Int32 → Int32 → Int32 → Int32 → Int32 → Option Int32} (hk58 : ∀ (x1 : Int32) (x3 : Int32) (x4 : Int32) (x5 : Int32) (x6 : Int32) (H : Heap) (locs : List Loc) (ls : Array Slot), va_P (gD G) vwCl (cells G S) H → va_S (gA G) s.heap H locs → lv_has ls 7 [(0, .ref (ad G 30)), (1, .int x1), (3, .int x3), (4, .int x4), (5, .int x5), (6, .int x6)] → k58 x1 x3 x4 x5 x6 = some r → W p l e (rmH 3) s m args below meth c H locs 0 0 Q (F0 m 58 ls [])) (x1 : Int32) (x3 : Int32) (x4 : Int32) (x6 : Int32) (y0 : Int32) (H : Heap) (locs : List Loc) (ls : Array Slot) (hP : va_P (gD G) vwCl (cells G S) H) (hS : va_S (gA G) s.heap H locs) (hl : lv_has ls 7 [(0, .ref (ad G 30)), (1, .int x1), (3, .int x3), (4, .int x4), (6, .int x6)]) (hf : f_X8_past_95 S k58 x1 x3 x4 x6 y0 = some r) : W p l e (rmH 3) s m args below meth c H locs 0 0 Q (F0 m 95 ls [.int y0]) := by
  obtain ⟨hx, hb, hml, hown, hts⟩ := id hC.1
  rw [f_X8_past_95] at hf
  refine lv_istore (lv' := [(5, .int y0), (0, .ref (ad G 30)), (1, .int x1), (3, .int x3), (4, .int x4), (6, .int x6)]) hx hb dX8_past_95 hl (by decide) rfl (fun ls hl => ?_)
  refine lv_iinc (v := x6 + 1) (lv' := [(6, .int (x6 + 1)), (5, .int y0), (0, .ref (ad G 30)), (1, .int x1), (3, .int x3), (4, .int x4)]) hx hb dX8_past_97 hl (k := 5) rfl rfl (by decide) rfl (fun ls hl => ?_)
  refine lv_goto (tgt := 58) hx hb dX8_past_100 (by decide) ?_
  exact hk58 _ _ _ _ _ _ _ _ hP hS (lv_sub hl [2, 3, 4, 5, 1, 0] rfl) hf
def f_X8_past_58 (S : ST)  : Nat → Int32 → Int32 → Int32 → Int32 → Int32 → Option Int32
  | 0, _, _, _, _, _ => none
  | n + 1, x1, x3, x4, x5, x6 => if 16 ≤ x6 then (some x5) else ((rI S 0 34 ((3 * x1) + 1)).bind fun v1 => (dv ((x6 * x6) * v1) x4).bind fun v2 => if x3 < v2 then (f_X8_past_95 S (f_X8_past_58 S n) x1 x3 x4 x6 x5) else (f_X8_past_95 S (f_X8_past_58 S n) x1 x3 x4 x6 x6))
set_option maxRecDepth 100000 in
set_option maxHeartbeats 4000000 in
theorem w_X8_past_58 {r : Int32} {S : ST} (hC : Cx p m c s args cX8_past 7 RX8 G) (hQ : KI p l e (rmH 3) s m args below meth c Q cX8_past G r S) : ∀ (n : Nat) (x1 : Int32) (x3 : Int32) (x4 : Int32) (x5 : Int32) (x6 : Int32) (H : Heap) (locs : List Loc) (ls : Array Slot), va_P (gD G) vwCl (cells G S) H → va_S (gA G) s.heap H locs → lv_has ls 7 [(0, .ref (ad G 30)), (1, .int x1), (3, .int x3), (4, .int x4), (5, .int x5), (6, .int x6)] → f_X8_past_58 S n x1 x3 x4 x5 x6 = some r → W p l e (rmH 3) s m args below meth c H locs 0 0 Q (F0 m 58 ls []) := by
  obtain ⟨hx, hb, hml, hown, hts⟩ := id hC.1
  intro n
  induction n with
  | zero => intro x1 x3 x4 x5 x6 H locs ls hP hS hl hf; rw [f_X8_past_58] at hf; cases hf
  | succ n ih =>
    intro x1 x3 x4 x5 x6 H locs ls hP hS hl hf
    rw [f_X8_past_58] at hf
    refine lv_iload hx hb dX8_past_58 (lv_at hl 5 rfl) ?_
    refine lv_bipush (v := 16) hx hb dX8_past_60 (by decide) ?_
    refine lv_icmp_ge (tgt := 103) hx hb dX8_past_62 (by decide) (fun hc => ?_) (fun hc => ?_)
    · rw [if_pos hc] at hf
      refine lv_iload hx hb dX8_past_103 (lv_at hl 4 rfl) ?_
      exact retI hQ hf hP hS dX8_past_105
    · rw [if_neg hc] at hf
      refine lv_iload hx hb dX8_past_65 (lv_at hl 5 rfl) ?_
      refine lv_iload hx hb dX8_past_67 (lv_at hl 5 rfl) ?_
      refine lv_imul hx hb dX8_past_69 ?_
      refine lv_aload_n hx hb dX8_past_70 rfl (lv_at hl 0 rfl) ?_
      refine gFr hC hP (j := 5) sg_30 vc_8 iT8 (by decide) rfl tb_4_76 dX8_past_71 ?_
      refine lv_iconst (v := 3) hx hb dX8_past_74 (by decide) ?_
      refine lv_iload_n hx hb dX8_past_75 rfl (lv_at hl 1 rfl) ?_
      refine lv_imul hx hb dX8_past_76 ?_
      refine lv_iconst (v := 1) hx hb dX8_past_77 (by decide) ?_
      refine lv_iadd hx hb dX8_past_78 ?_
      obtain ⟨v1, hv, hf⟩ := ob_some hf
      refine gIa hC hP hv dX8_past_79 ?_
      refine lv_imul hx hb dX8_past_80 ?_
      refine lv_iload hx hb dX8_past_81 (lv_at hl 3 rfl) ?_
      obtain ⟨v2, hv, hf⟩ := ob_some hf
      refine xDv hC hv dX8_past_83 ?_
      refine lv_iload_n hx hb dX8_past_84 rfl (lv_at hl 2 rfl) ?_
      refine lv_icmp_gt (tgt := 93) hx hb dX8_past_85 (by decide) (fun hc => ?_) (fun hc => ?_)
      · rw [if_pos hc] at hf
        refine lv_iload hx hb dX8_past_93 (lv_at hl 4 rfl) ?_
        exact w_X8_past_95 hC hQ ih  _ _ _ _ _ _ _ _ hP hS (lv_sub hl [0, 1, 2, 3, 5] rfl) hf
      · rw [if_neg hc] at hf
        refine lv_iload hx hb dX8_past_88 (lv_at hl 5 rfl) ?_
        refine lv_goto (tgt := 95) hx hb dX8_past_90 (by decide) ?_
        exact w_X8_past_95 hC hQ ih  _ _ _ _ _ _ _ _ hP hS (lv_sub hl [0, 1, 2, 3, 5] rfl) hf
def f_X8_past (S : ST) (x1 : Int32) (x2 : Int32) (x3 : Int32) : Option Int32 := (f_X8_isShip S x1).bind fun v1 => if v1 = 0 then (some (-1)) else ((f_X8_isMile S x2).bind fun v2 => if v2 = 0 then (some (-1)) else ((f_X8_in (x3.toInt64) 0 999).bind fun v3 => if v3 = 0 then (some (-1)) else ((rI S 0 31 ((6 * x2) + 4)).bind fun v4 => if v4 = 0 then (some (-2)) else (f_X8_past_58 S FU x1 x3 v4 (-4) 1))))
set_option maxRecDepth 100000 in
set_option maxHeartbeats 4000000 in
theorem k_X8_past (l : Launch) (G : GT) (S : ST) (x1 : Int32) (x2 : Int32) (x3 : Int32) (r : Int32) (hf : f_X8_past S x1 x2 x3 = some r) : MI l yX8_past cX8_past 7 (some .int) 3 [.ref (ad G 30), .int x1, .int x2, .int x3] G S r S := by
  rw [f_X8_past] at hf
  refine mkI (own := RX8) (by decide +kernel) rfl rfl (Nat.le_of_ble_eq_true rfl) (fun p e s m args below meth c Q ls hC hP hS hl hQ => ?_)
  have hl : lv_has ls 7 [(0, .ref (ad G 30)), (1, .int x1), (2, .int x2), (3, .int x3)] := hl
  obtain ⟨hx, hb, hml, hown, hts⟩ := id hC.1
  refine lv_aload_n hx hb dX8_past_0 rfl (lv_at hl 0 rfl) ?_
  refine lv_iload_n hx hb dX8_past_1 rfl (lv_at hl 1 rfl) ?_
  obtain ⟨v1, hv, hf⟩ := ob_some hf
  refine cI hS (runV hC hP hS (As := [.int x1]) (rest := []) (k_X8_isShip l G S x1 _ hv) vy_X8_isShip sg_30 vc_8 tb_5_46 tb_5_48 ts_37 ⟨Nat.le_of_ble_eq_true rfl, Nat.le_of_ble_eq_true rfl⟩ rfl hl.1 rfl (Nat.le_of_ble_eq_true rfl) dX8_past_2) (fun H locs hP hS => ?_)
  refine lv_if_eq (tgt := 28) hx hb dX8_past_5 (by decide) (fun hc => ?_) (fun hc => ?_)
  · rw [if_pos hc] at hf
    refine lv_iconst (v := (-1)) hx hb dX8_past_28 (by decide) ?_
    exact retI hQ hf hP hS dX8_past_29
  · rw [if_neg hc] at hf
    refine lv_aload_n hx hb dX8_past_8 rfl (lv_at hl 0 rfl) ?_
    refine lv_iload_n hx hb dX8_past_9 rfl (lv_at hl 2 rfl) ?_
    obtain ⟨v2, hv, hf⟩ := ob_some hf
    refine cI hS (runV hC hP hS (As := [.int x2]) (rest := []) (k_X8_isMile l G S x2 _ hv) vy_X8_isMile sg_30 vc_8 tb_4_184 tb_4_186 ts_29 ⟨Nat.le_of_ble_eq_true rfl, Nat.le_of_ble_eq_true rfl⟩ rfl hl.1 rfl (Nat.le_of_ble_eq_true rfl) dX8_past_10) (fun H locs hP hS => ?_)
    refine lv_if_eq (tgt := 28) hx hb dX8_past_13 (by decide) (fun hc => ?_) (fun hc => ?_)
    · rw [if_pos hc] at hf
      refine lv_iconst (v := (-1)) hx hb dX8_past_28 (by decide) ?_
      exact retI hQ hf hP hS dX8_past_29
    · rw [if_neg hc] at hf
      refine lv_iload_n hx hb dX8_past_16 rfl (lv_at hl 3 rfl) ?_
      refine lv_i2l (v := x3.toInt64) hx hb dX8_past_17 rfl ?_
      refine lv_lconst (v := 0) hx hb dX8_past_18 (by decide) ?_
      refine lv_ldc2 hx hb hown (hts _ tb_5_161) dX8_past_19 ?_
      obtain ⟨v3, hv, hf⟩ := ob_some hf
      refine cI hS (runS hC hP hS (As := [.long (x3.toInt64), .long 0, .long 999]) (rest := []) (k_X8_in l G S (x3.toInt64) 0 999 _ hv) vy_X8_in tb_4_169 tb_4_170 ⟨Nat.le_of_ble_eq_true rfl, Nat.le_of_ble_eq_true rfl⟩ rfl hl.1 rfl (Nat.le_of_ble_eq_true rfl) dX8_past_22) (fun H locs hP hS => ?_)
      refine lv_if_ne (tgt := 30) hx hb dX8_past_25 (by decide) (fun hc => ?_) (fun hc => ?_)
      · rw [if_neg hc] at hf
        refine lv_aload_n hx hb dX8_past_30 rfl (lv_at hl 0 rfl) ?_
        refine gFr hC hP (j := 1) sg_30 vc_8 iT8 (by decide) rfl tb_4_72 dX8_past_31 ?_
        refine lv_bipush (v := 6) hx hb dX8_past_34 (by decide) ?_
        refine lv_iload_n hx hb dX8_past_36 rfl (lv_at hl 2 rfl) ?_
        refine lv_imul hx hb dX8_past_37 ?_
        refine lv_iconst (v := 4) hx hb dX8_past_38 (by decide) ?_
        refine lv_iadd hx hb dX8_past_39 ?_
        obtain ⟨v4, hv, hf⟩ := ob_some hf
        refine gIa hC hP hv dX8_past_40 ?_
        refine lv_istore (lv' := [(4, .int v4), (0, .ref (ad G 30)), (1, .int x1), (2, .int x2), (3, .int x3)]) hx hb dX8_past_41 hl (by decide) rfl (fun ls hl => ?_)
        refine lv_iload hx hb dX8_past_43 (lv_at hl 0 rfl) ?_
        refine lv_if_ne (tgt := 51) hx hb dX8_past_45 (by decide) (fun hc => ?_) (fun hc => ?_)
        · rw [if_neg hc] at hf
          refine lv_bipush (v := (-4)) hx hb dX8_past_51 (by decide) ?_
          refine lv_istore (lv' := [(5, .int (-4)), (4, .int v4), (0, .ref (ad G 30)), (1, .int x1), (2, .int x2), (3, .int x3)]) hx hb dX8_past_53 hl (by decide) rfl (fun ls hl => ?_)
          refine lv_iconst (v := 1) hx hb dX8_past_55 (by decide) ?_
          refine lv_istore (lv' := [(6, .int 1), (5, .int (-4)), (4, .int v4), (0, .ref (ad G 30)), (1, .int x1), (2, .int x2), (3, .int x3)]) hx hb dX8_past_56 hl (by decide) rfl (fun ls hl => ?_)
          exact w_X8_past_58 hC hQ _ _ _ _ _ _ _ _ _ hP hS (lv_sub hl [3, 4, 6, 2, 1, 0] rfl) hf
        · rw [if_pos hc] at hf
          refine lv_bipush (v := (-2)) hx hb dX8_past_48 (by decide) ?_
          exact retI hQ hf hP hS dX8_past_50
      · rw [if_pos hc] at hf
        refine lv_iconst (v := (-1)) hx hb dX8_past_28 (by decide) ?_
        exact retI hQ hf hP hS dX8_past_29
def f_X8_lay_2  : Nat → ST → Nat → Int32 → Int32 → Option (Int32 × ST)
  | 0, _, _, _, _ => none
  | n + 1, S, x1, x2, x3 => (lA 0 x1).bind fun v1 => if v1 ≤ x3 then ((lA 0 x1).bind fun v2 => some ((x2 + v2), S)) else ((rI S 0 x1 x3).bind fun v3 => (wI S 45 (x2 + x3) v3).bind fun S4 => f_X8_lay_2 n S4 x1 x2 (x3 + 1))
set_option maxRecDepth 100000 in
set_option maxHeartbeats 4000000 in
theorem w_X8_lay_2 {r : Int32} {S' : ST} (hC : Cx p m c s args cX8_lay 4 RX8 G) (hQ : KI p l e (rmH 1) s m args below meth c Q cX8_lay G r S') : ∀ (n : Nat) (S : ST) (x1 : Nat) (x2 : Int32) (x3 : Int32) (H : Heap) (locs : List Loc) (ls : Array Slot), va_P (gD G) vwCl (cells G S) H → va_S (gA G) s.heap H locs → lv_has ls 4 [(0, .ref (ad G 30)), (1, .ref (ad G x1)), (2, .int x2), (3, .int x3)] → f_X8_lay_2 n S x1 x2 x3 = some (r, S') → W p l e (rmH 1) s m args below meth c H locs 0 0 Q (F0 m 2 ls []) := by
  obtain ⟨hx, hb, hml, hown, hts⟩ := id hC.1
  intro n
  induction n with
  | zero => intro S x1 x2 x3 H locs ls hP hS hl hf; rw [f_X8_lay_2] at hf; cases hf
  | succ n ih =>
    intro S x1 x2 x3 H locs ls hP hS hl hf
    rw [f_X8_lay_2] at hf
    refine lv_iload_n hx hb dX8_lay_2 rfl (lv_at hl 3 rfl) ?_
    refine lv_aload_n hx hb dX8_lay_3 rfl (lv_at hl 1 rfl) ?_
    obtain ⟨v1, hv, hf⟩ := ob_some hf
    refine gLen (t := 0) (by decide) hC hP hv dX8_lay_4 ?_
    refine lv_icmp_ge (tgt := 25) hx hb dX8_lay_5 (by decide) (fun hc => ?_) (fun hc => ?_)
    · rw [if_pos hc] at hf
      refine lv_iload_n hx hb dX8_lay_25 rfl (lv_at hl 2 rfl) ?_
      refine lv_aload_n hx hb dX8_lay_26 rfl (lv_at hl 1 rfl) ?_
      obtain ⟨v2, hv, hf⟩ := ob_some hf
      refine gLen (t := 0) (by decide) hC hP hv dX8_lay_27 ?_
      refine lv_iadd hx hb dX8_lay_28 ?_
      exact retIw hQ hf hP hS dX8_lay_29
    · rw [if_neg hc] at hf
      refine lv_aload_n hx hb dX8_lay_8 rfl (lv_at hl 0 rfl) ?_
      refine gFr hC hP (j := 23) sg_30 vc_8 iT8 (by decide) rfl tb_4_94 dX8_lay_9 ?_
      refine lv_iload_n hx hb dX8_lay_12 rfl (lv_at hl 2 rfl) ?_
      refine lv_iload_n hx hb dX8_lay_13 rfl (lv_at hl 3 rfl) ?_
      refine lv_iadd hx hb dX8_lay_14 ?_
      refine lv_aload_n hx hb dX8_lay_15 rfl (lv_at hl 1 rfl) ?_
      refine lv_iload_n hx hb dX8_lay_16 rfl (lv_at hl 3 rfl) ?_
      obtain ⟨v3, hv, hf⟩ := ob_some hf
      refine gIa hC hP hv dX8_lay_17 ?_
      obtain ⟨S4, hv, hf⟩ := ob_some hf
      refine sIa hC hP hS hv dX8_lay_18 (fun H locs hP hS => ?_)
      refine lv_iinc (v := x3 + 1) (lv' := [(3, .int (x3 + 1)), (0, .ref (ad G 30)), (1, .ref (ad G x1)), (2, .int x2)]) hx hb dX8_lay_19 hl (k := 3) rfl rfl (by decide) rfl (fun ls hl => ?_)
      refine lv_goto (tgt := 2) hx hb dX8_lay_22 (by decide) ?_
      exact ih _ _ _ _ _ _ _ hP hS (lv_sub hl [1, 2, 3, 0] rfl) hf
def f_X8_lay (S : ST) (x1 : Nat) (x2 : Int32) : Option (Int32 × ST) := f_X8_lay_2 FU S x1 x2 0
set_option maxRecDepth 100000 in
set_option maxHeartbeats 4000000 in
theorem k_X8_lay (l : Launch) (G : GT) (S : ST) (x1 : Nat) (x2 : Int32) (r : Int32) (S' : ST) (hf : f_X8_lay S x1 x2 = some (r, S')) : MI l yX8_lay cX8_lay 4 (some .int) 1 [.ref (ad G 30), .ref (ad G x1), .int x2] G S r S' := by
  rw [f_X8_lay] at hf
  refine mkI (own := RX8) (by decide +kernel) rfl rfl (Nat.le_of_ble_eq_true rfl) (fun p e s m args below meth c Q ls hC hP hS hl hQ => ?_)
  have hl : lv_has ls 4 [(0, .ref (ad G 30)), (1, .ref (ad G x1)), (2, .int x2)] := hl
  obtain ⟨hx, hb, hml, hown, hts⟩ := id hC.1
  refine lv_iconst (v := 0) hx hb dX8_lay_0 (by decide) ?_
  refine lv_istore_n (lv' := [(3, .int 0), (0, .ref (ad G 30)), (1, .ref (ad G x1)), (2, .int x2)]) hx hb dX8_lay_1 rfl hl (by decide) rfl (fun ls hl => ?_)
  exact w_X8_lay_2 hC hQ _ _ _ _ _ _ _ _ hP hS (lv_sub hl [1, 2, 3, 0] rfl) hf
def f_X8_image (S : ST)  : Option (Int32 × ST) := b2 (f_X8_lay S 31 0) fun v1 S2 => b2 (f_X8_lay S2 32 v1) fun v3 S4 => b2 (f_X8_lay S4 33 v3) fun v5 S6 => b2 (f_X8_lay S6 34 v5) fun v7 S8 => (wI S8 45 v7 (S8.1 30 0)).bind fun S9 => (wI S9 45 (v7 + 1) (S9.1 30 4)).bind fun S10 => some (1, (sI S10 30 24 1))
set_option maxRecDepth 100000 in
set_option maxHeartbeats 4000000 in
theorem k_X8_image (l : Launch) (G : GT) (S : ST)  (r : Int32) (S' : ST) (hf : f_X8_image S  = some (r, S')) : MI l yX8_image cX8_image 2 (some .int) 2 [.ref (ad G 30)] G S r S' := by
  rw [f_X8_image] at hf
  refine mkI (own := RX8) (by decide +kernel) rfl rfl (Nat.le_of_ble_eq_true rfl) (fun p e s m args below meth c Q ls hC hP hS hl hQ => ?_)
  have hl : lv_has ls 2 [(0, .ref (ad G 30))] := hl
  obtain ⟨hx, hb, hml, hown, hts⟩ := id hC.1
  refine lv_aload_n hx hb dX8_image_0 rfl (lv_at hl 0 rfl) ?_
  refine lv_aload_n hx hb dX8_image_1 rfl (lv_at hl 0 rfl) ?_
  refine gFr hC hP (j := 1) sg_30 vc_8 iT8 (by decide) rfl tb_4_72 dX8_image_2 ?_
  refine lv_iconst (v := 0) hx hb dX8_image_5 (by decide) ?_
  obtain ⟨v1, S2, hv, hf⟩ := ob_two hf
  refine cI hS (runV hC hP hS (As := [.ref (ad G 31), .int 0]) (rest := []) (k_X8_lay l G S 31 0 _ _ hv) vy_X8_lay sg_30 vc_8 tb_5_166 tb_5_168 ts_47 ⟨Nat.le_of_ble_eq_true rfl, Nat.le_of_ble_eq_true rfl⟩ rfl hl.1 rfl (Nat.le_of_ble_eq_true rfl) dX8_image_6) (fun H locs hP hS => ?_)
  refine lv_istore_n (lv' := [(1, .int v1), (0, .ref (ad G 30))]) hx hb dX8_image_9 rfl hl (by decide) rfl (fun ls hl => ?_)
  refine lv_aload_n hx hb dX8_image_10 rfl (lv_at hl 1 rfl) ?_
  refine lv_aload_n hx hb dX8_image_11 rfl (lv_at hl 1 rfl) ?_
  refine gFr hC hP (j := 2) sg_30 vc_8 iT8 (by decide) rfl tb_4_73 dX8_image_12 ?_
  refine lv_iload_n hx hb dX8_image_15 rfl (lv_at hl 0 rfl) ?_
  obtain ⟨v3, S4, hv, hf⟩ := ob_two hf
  refine cI hS (runV hC hP hS (As := [.ref (ad G 32), .int v1]) (rest := []) (k_X8_lay l G S2 32 v1 _ _ hv) vy_X8_lay sg_30 vc_8 tb_5_166 tb_5_168 ts_47 ⟨Nat.le_of_ble_eq_true rfl, Nat.le_of_ble_eq_true rfl⟩ rfl hl.1 rfl (Nat.le_of_ble_eq_true rfl) dX8_image_16) (fun H locs hP hS => ?_)
  refine lv_istore_n (lv' := [(1, .int v3), (0, .ref (ad G 30))]) hx hb dX8_image_19 rfl hl (by decide) rfl (fun ls hl => ?_)
  refine lv_aload_n hx hb dX8_image_20 rfl (lv_at hl 1 rfl) ?_
  refine lv_aload_n hx hb dX8_image_21 rfl (lv_at hl 1 rfl) ?_
  refine gFr hC hP (j := 3) sg_30 vc_8 iT8 (by decide) rfl tb_4_74 dX8_image_22 ?_
  refine lv_iload_n hx hb dX8_image_25 rfl (lv_at hl 0 rfl) ?_
  obtain ⟨v5, S6, hv, hf⟩ := ob_two hf
  refine cI hS (runV hC hP hS (As := [.ref (ad G 33), .int v3]) (rest := []) (k_X8_lay l G S4 33 v3 _ _ hv) vy_X8_lay sg_30 vc_8 tb_5_166 tb_5_168 ts_47 ⟨Nat.le_of_ble_eq_true rfl, Nat.le_of_ble_eq_true rfl⟩ rfl hl.1 rfl (Nat.le_of_ble_eq_true rfl) dX8_image_26) (fun H locs hP hS => ?_)
  refine lv_istore_n (lv' := [(1, .int v5), (0, .ref (ad G 30))]) hx hb dX8_image_29 rfl hl (by decide) rfl (fun ls hl => ?_)
  refine lv_aload_n hx hb dX8_image_30 rfl (lv_at hl 1 rfl) ?_
  refine lv_aload_n hx hb dX8_image_31 rfl (lv_at hl 1 rfl) ?_
  refine gFr hC hP (j := 5) sg_30 vc_8 iT8 (by decide) rfl tb_4_76 dX8_image_32 ?_
  refine lv_iload_n hx hb dX8_image_35 rfl (lv_at hl 0 rfl) ?_
  obtain ⟨v7, S8, hv, hf⟩ := ob_two hf
  refine cI hS (runV hC hP hS (As := [.ref (ad G 34), .int v5]) (rest := []) (k_X8_lay l G S6 34 v5 _ _ hv) vy_X8_lay sg_30 vc_8 tb_5_166 tb_5_168 ts_47 ⟨Nat.le_of_ble_eq_true rfl, Nat.le_of_ble_eq_true rfl⟩ rfl hl.1 rfl (Nat.le_of_ble_eq_true rfl) dX8_image_36) (fun H locs hP hS => ?_)
  refine lv_istore_n (lv' := [(1, .int v7), (0, .ref (ad G 30))]) hx hb dX8_image_39 rfl hl (by decide) rfl (fun ls hl => ?_)
  refine lv_aload_n hx hb dX8_image_40 rfl (lv_at hl 1 rfl) ?_
  refine gFr hC hP (j := 23) sg_30 vc_8 iT8 (by decide) rfl tb_4_94 dX8_image_41 ?_
  refine lv_iload_n hx hb dX8_image_44 rfl (lv_at hl 0 rfl) ?_
  refine lv_aload_n hx hb dX8_image_45 rfl (lv_at hl 1 rfl) ?_
  refine gFi hC hP (j := 0) sg_30 vc_8 iT8 (by decide) rfl tb_4_71 dX8_image_46 ?_
  obtain ⟨S9, hv, hf⟩ := ob_some hf
  refine sIa hC hP hS hv dX8_image_49 (fun H locs hP hS => ?_)
  refine lv_aload_n hx hb dX8_image_50 rfl (lv_at hl 1 rfl) ?_
  refine gFr hC hP (j := 23) sg_30 vc_8 iT8 (by decide) rfl tb_4_94 dX8_image_51 ?_
  refine lv_iload_n hx hb dX8_image_54 rfl (lv_at hl 0 rfl) ?_
  refine lv_iconst (v := 1) hx hb dX8_image_55 (by decide) ?_
  refine lv_iadd hx hb dX8_image_56 ?_
  refine lv_aload_n hx hb dX8_image_57 rfl (lv_at hl 1 rfl) ?_
  refine gFi hC hP (j := 4) sg_30 vc_8 iT8 (by decide) rfl tb_4_75 dX8_image_58 ?_
  obtain ⟨S10, hv, hf⟩ := ob_some hf
  refine sIa hC hP hS hv dX8_image_61 (fun H locs hP hS => ?_)
  refine lv_aload_n hx hb dX8_image_62 rfl (lv_at hl 1 rfl) ?_
  refine lv_iconst (v := 1) hx hb dX8_image_63 (by decide) ?_
  refine pFi hC hP hS (j := 24) sg_30 vc_8 iT8 tyX8_ok nmX8 (by decide) rfl tb_4_95 rfl rfl rfl dX8_image_64 (fun H locs hP hS => ?_)
  refine lv_iconst (v := 1) hx hb dX8_image_67 (by decide) ?_
  exact retIw hQ hf hP hS dX8_image_68
def f_X8_gives_2  : Nat → ST → Int32 → Nat → Int32 → Option (Int32 × ST)
  | 0, _, _, _, _ => none
  | n + 1, S, x1, x2, x3 => (lA 0 x2).bind fun v1 => if v1 ≤ x3 then ((lA 0 x2).bind fun v2 => some ((x1 + v2), S)) else ((rI S 0 45 (x1 + x3)).bind fun v3 => (wI S x2 x3 v3).bind fun S4 => f_X8_gives_2 n S4 x1 x2 (x3 + 1))
set_option maxRecDepth 100000 in
set_option maxHeartbeats 4000000 in
theorem w_X8_gives_2 {r : Int32} {S' : ST} (hC : Cx p m c s args cX8_gives 4 RX8 G) (hQ : KI p l e (rmH 1) s m args below meth c Q cX8_gives G r S') : ∀ (n : Nat) (S : ST) (x1 : Int32) (x2 : Nat) (x3 : Int32) (H : Heap) (locs : List Loc) (ls : Array Slot), va_P (gD G) vwCl (cells G S) H → va_S (gA G) s.heap H locs → lv_has ls 4 [(0, .ref (ad G 30)), (1, .int x1), (2, .ref (ad G x2)), (3, .int x3)] → f_X8_gives_2 n S x1 x2 x3 = some (r, S') → W p l e (rmH 1) s m args below meth c H locs 0 0 Q (F0 m 2 ls []) := by
  obtain ⟨hx, hb, hml, hown, hts⟩ := id hC.1
  intro n
  induction n with
  | zero => intro S x1 x2 x3 H locs ls hP hS hl hf; rw [f_X8_gives_2] at hf; cases hf
  | succ n ih =>
    intro S x1 x2 x3 H locs ls hP hS hl hf
    rw [f_X8_gives_2] at hf
    refine lv_iload_n hx hb dX8_gives_2 rfl (lv_at hl 3 rfl) ?_
    refine lv_aload_n hx hb dX8_gives_3 rfl (lv_at hl 2 rfl) ?_
    obtain ⟨v1, hv, hf⟩ := ob_some hf
    refine gLen (t := 0) (by decide) hC hP hv dX8_gives_4 ?_
    refine lv_icmp_ge (tgt := 25) hx hb dX8_gives_5 (by decide) (fun hc => ?_) (fun hc => ?_)
    · rw [if_pos hc] at hf
      refine lv_iload_n hx hb dX8_gives_25 rfl (lv_at hl 1 rfl) ?_
      refine lv_aload_n hx hb dX8_gives_26 rfl (lv_at hl 2 rfl) ?_
      obtain ⟨v2, hv, hf⟩ := ob_some hf
      refine gLen (t := 0) (by decide) hC hP hv dX8_gives_27 ?_
      refine lv_iadd hx hb dX8_gives_28 ?_
      exact retIw hQ hf hP hS dX8_gives_29
    · rw [if_neg hc] at hf
      refine lv_aload_n hx hb dX8_gives_8 rfl (lv_at hl 2 rfl) ?_
      refine lv_iload_n hx hb dX8_gives_9 rfl (lv_at hl 3 rfl) ?_
      refine lv_aload_n hx hb dX8_gives_10 rfl (lv_at hl 0 rfl) ?_
      refine gFr hC hP (j := 23) sg_30 vc_8 iT8 (by decide) rfl tb_4_94 dX8_gives_11 ?_
      refine lv_iload_n hx hb dX8_gives_14 rfl (lv_at hl 1 rfl) ?_
      refine lv_iload_n hx hb dX8_gives_15 rfl (lv_at hl 3 rfl) ?_
      refine lv_iadd hx hb dX8_gives_16 ?_
      obtain ⟨v3, hv, hf⟩ := ob_some hf
      refine gIa hC hP hv dX8_gives_17 ?_
      obtain ⟨S4, hv, hf⟩ := ob_some hf
      refine sIa hC hP hS hv dX8_gives_18 (fun H locs hP hS => ?_)
      refine lv_iinc (v := x3 + 1) (lv' := [(3, .int (x3 + 1)), (0, .ref (ad G 30)), (1, .int x1), (2, .ref (ad G x2))]) hx hb dX8_gives_19 hl (k := 3) rfl rfl (by decide) rfl (fun ls hl => ?_)
      refine lv_goto (tgt := 2) hx hb dX8_gives_22 (by decide) ?_
      exact ih _ _ _ _ _ _ _ hP hS (lv_sub hl [1, 2, 3, 0] rfl) hf
def f_X8_gives (S : ST) (x1 : Int32) (x2 : Nat) : Option (Int32 × ST) := f_X8_gives_2 FU S x1 x2 0
set_option maxRecDepth 100000 in
set_option maxHeartbeats 4000000 in
theorem k_X8_gives (l : Launch) (G : GT) (S : ST) (x1 : Int32) (x2 : Nat) (r : Int32) (S' : ST) (hf : f_X8_gives S x1 x2 = some (r, S')) : MI l yX8_gives cX8_gives 4 (some .int) 1 [.ref (ad G 30), .int x1, .ref (ad G x2)] G S r S' := by
  rw [f_X8_gives] at hf
  refine mkI (own := RX8) (by decide +kernel) rfl rfl (Nat.le_of_ble_eq_true rfl) (fun p e s m args below meth c Q ls hC hP hS hl hQ => ?_)
  have hl : lv_has ls 4 [(0, .ref (ad G 30)), (1, .int x1), (2, .ref (ad G x2))] := hl
  obtain ⟨hx, hb, hml, hown, hts⟩ := id hC.1
  refine lv_iconst (v := 0) hx hb dX8_gives_0 (by decide) ?_
  refine lv_istore_n (lv' := [(3, .int 0), (0, .ref (ad G 30)), (1, .int x1), (2, .ref (ad G x2))]) hx hb dX8_gives_1 rfl hl (by decide) rfl (fun ls hl => ?_)
  exact w_X8_gives_2 hC hQ _ _ _ _ _ _ _ _ hP hS (lv_sub hl [1, 2, 3, 0] rfl) hf
end
