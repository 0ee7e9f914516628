section
variable {p : Program} {l : Launch} {e : Env} {s : State} {m : MethodId} {below : List Frame} {meth : Method} {c : Code} {G : GT} {b L : Nat} {xs : Nat → Int32} {Q : State → Prop} {H : Heap} {locs : List Loc} {S S1 : ST} {ls : Array Slot} {x3 : Int32} {pc : Nat} {st rest : List Value}
set_option maxRecDepth 100000 in
set_option maxHeartbeats 4000000 in
theorem law_loop {I : ST → Prop} (hOK : LawOK I) (hL : L ≤ 3584) (hC : LC p m c s b G) (hr : meth.sig.returnType = ret) (hlocks : meth.locks = false) (hX : va_X b L xs s s.heap) (hbl : b < s.heap.size) (hgA : ∀ q, gA G q ↔ s.heap.size ≤ q) :
    ∀ (n i : Nat) (x3 : Int32) (S : ST) (H : Heap) (locs : List Loc) (ls : Array Slot), L + 7 ≤ i + n → i ≤ L → x3 = nI i → I S → va_P (gD G) vwCl (cells G S) H → va_S (gA G) s.heap H locs → lv_has ls 4 [(0, .ref b), (1, .ref (ad G 0)), (2, .ref (ad G 30)), (3, .int x3)] → W p l e room_1 s m #[Value.ref b] below meth c H locs 600000 7302250 (lw_Z below #[Value.ref b] s) (F0 m 18 ls []) := by
  obtain ⟨hx, hb, hml, hown, hts⟩ := id hC.1
  have hbA : ¬ gA G b := fun h => absurd ((hgA b).mp h) (Nat.not_le.mpr hbl)
  obtain ⟨h_mile, h_make, h_told, h_height, h_set, h_ship, h_pace, h_type, h_channel, h_tides, h_count, h_tide, h_water, h_sinks, h_under, h_need, h_run, h_least, h_starts, h_deepest, h_bank, h_nearest, h_steered, h_may, h_meet, h_day, h_dredged, h_lost, h_touched, h_past, h_image, h_restore, h_gauged, h_sheet, h_drop, h_item, h_copy⟩ := hOK
  intro n
  induction n with
  | zero => intro i x3 S H locs ls h1 h2; exact absurd h1 (by omega)
  | succ n ih =>
    intro i x3 S H locs ls h1 h2 hx3 hI hP hS hl
    refine lv_iload_n hx hb dL_law_18 rfl (lv_at hl 3 rfl) ?_
    refine lv_aload_n hx hb dL_law_19 rfl (lv_at hl 0 rfl) ?_
    refine va_slen hx hb hX hbl hbA hS dL_law_20 ?_
    refine lv_bipush (v := 7) hx hb dL_law_21 (by decide) ?_
    refine lv_isub hx hb dL_law_23 ?_
    refine lv_icmp_gt (tgt := 1645) hx hb dL_law_24 (by decide) (fun hc => ?_) (fun hc => ?_)
    · refine lv_iconst (v := 1) hx hb dL_law_1645 (by decide) ?_
      refine va_forget (fun q hq => (hgA _).mp (hS.2.2 q hq)) ?_
      exact lw_ret hx hb hr hlocks dL_law_1646
    · have h7 : i + 7 ≤ L := by
        rcases Nat.lt_or_ge L (i + 7) with q | q
        · refine absurd ?_ hc
          rw [hx3, Int32.lt_iff_toInt_lt, show (Int32.ofNat L - 7 : Int32) = nI L - nI 7 from rfl, pk_sub_toInt (by omega) (by omega), nI_toInt (by omega)]
          omega
        · exact q
      have hin : Hin x3 L := by
        rw [hx3]
        refine ⟨vp_in_nI (by omega) (by omega), ?_, ?_, ?_, ?_, ?_, ?_⟩
        · rw [show nI i + 1 = nI (i + 1) from nI_add i 1]; exact vp_in_nI (by omega) (by omega)
        · rw [show nI i + 2 = nI (i + 2) from nI_add i 2]; exact vp_in_nI (by omega) (by omega)
        · rw [show nI i + 3 = nI (i + 3) from nI_add i 3]; exact vp_in_nI (by omega) (by omega)
        · rw [show nI i + 4 = nI (i + 4) from nI_add i 4]; exact vp_in_nI (by omega) (by omega)
        · rw [show nI i + 5 = nI (i + 5) from nI_add i 5]; exact vp_in_nI (by omega) (by omega)
        · rw [show nI i + 6 = nI (i + 6) from nI_add i 6]; exact vp_in_nI (by omega) (by omega)
      have kk : ∀ (S2 : ST) (H : Heap) (locs : List Loc), I S2 → va_P (gD G) vwCl (cells G S2) H → va_S (gA G) s.heap H locs → W p l e room_1 s m #[Value.ref b] below meth c H locs 600000 7302250 (lw_Z below #[Value.ref b] s) (F0 m 1639 ls []) := by
        intro S2 H locs hI2 hP hS
        refine lv_iinc (v := x3 + 7) (lv' := [(3, .int (x3 + 7)), (0, .ref b), (1, .ref (ad G 0)), (2, .ref (ad G 30))]) hx hb dL_law_1639 hl (k := 3) rfl rfl (by decide) rfl (fun ls hl => ?_)
        refine lv_goto (tgt := 18) hx hb dL_law_1642 (by decide) ?_
        exact ih (i + 7) (x3 + 7) S2 H locs ls (by omega) h7 (by rw [hx3]; exact nI_add i 7) hI2 hP hS (lv_sub hl [1, 2, 3, 0] rfl)
      refine lv_aload_n hx hb dL_law_27 rfl (lv_at hl 0 rfl) ?_
      refine lv_iload_n hx hb dL_law_28 rfl (lv_at hl 3 rfl) ?_
      refine va_sld hx hb hX hbl hbA hS hin.1 dL_law_29 ?_
      refine lv_bipush (v := 63) hx hb dL_law_30 (by decide) ?_
      refine lv_iand hx hb dL_law_32 ?_
      refine lv_topi (fun y ey => ?_)
      by_cases hc0 : y = 0
      · refine lv_tableIn (off := 163) (tgt := 196) hx hb dL_law_33 (by rw [hc0]; decide) (by rw [hc0]; decide) (by rw [hc0]; rfl) (by decide) ?_
        exact law_mile hC hX hbl hbA hin hP hS hl hI h_mile kk
      by_cases hc1 : y = 1
      · refine lv_tableIn (off := 196) (tgt := 229) hx hb dL_law_33 (by rw [hc1]; decide) (by rw [hc1]; decide) (by rw [hc1]; rfl) (by decide) ?_
        exact law_make hC hX hbl hbA hin hP hS hl hI h_make kk
      by_cases hc2 : y = 2
      · refine lv_tableIn (off := 239) (tgt := 272) hx hb dL_law_33 (by rw [hc2]; decide) (by rw [hc2]; decide) (by rw [hc2]; rfl) (by decide) ?_
        exact law_told hC hX hbl hbA hin hP hS hl hI h_told kk
      by_cases hc3 : y = 3
      · refine lv_tableIn (off := 272) (tgt := 305) hx hb dL_law_33 (by rw [hc3]; decide) (by rw [hc3]; decide) (by rw [hc3]; rfl) (by decide) ?_
        exact law_height hC hX hbl hbA hin hP hS hl hI h_height kk
      by_cases hc4 : y = 4
      · refine lv_tableIn (off := 305) (tgt := 338) hx hb dL_law_33 (by rw [hc4]; decide) (by rw [hc4]; decide) (by rw [hc4]; rfl) (by decide) ?_
        exact law_set hC hX hbl hbA hin hP hS hl hI h_set kk
      by_cases hc5 : y = 5
      · refine lv_tableIn (off := 338) (tgt := 371) hx hb dL_law_33 (by rw [hc5]; decide) (by rw [hc5]; decide) (by rw [hc5]; rfl) (by decide) ?_
        exact law_ship hC hX hbl hbA hin hP hS hl hI h_ship kk
      by_cases hc6 : y = 6
      · refine lv_tableIn (off := 381) (tgt := 414) hx hb dL_law_33 (by rw [hc6]; decide) (by rw [hc6]; decide) (by rw [hc6]; rfl) (by decide) ?_
        exact law_pace hC hX hbl hbA hin hP hS hl hI h_pace kk
      by_cases hc7 : y = 7
      · refine lv_tableIn (off := 414) (tgt := 447) hx hb dL_law_33 (by rw [hc7]; decide) (by rw [hc7]; decide) (by rw [hc7]; rfl) (by decide) ?_
        exact law_type hC hX hbl hbA hin hP hS hl hI h_type kk
      by_cases hc8 : y = 8
      · refine lv_tableIn (off := 477) (tgt := 510) hx hb dL_law_33 (by rw [hc8]; decide) (by rw [hc8]; decide) (by rw [hc8]; rfl) (by decide) ?_
        exact law_channel hC hX hbl hbA hin hP hS hl hI h_channel kk
      by_cases hc9 : y = 9
      · refine lv_tableIn (off := 490) (tgt := 523) hx hb dL_law_33 (by rw [hc9]; decide) (by rw [hc9]; decide) (by rw [hc9]; rfl) (by decide) ?_
        exact law_tides hC hX hbl hbA hin hP hS hl hI h_tides kk
      by_cases hc10 : y = 10
      · refine lv_tableIn (off := 503) (tgt := 536) hx hb dL_law_33 (by rw [hc10]; decide) (by rw [hc10]; decide) (by rw [hc10]; rfl) (by decide) ?_
        exact law_count hC hX hbl hbA hin hP hS hl hI h_count kk
      by_cases hc11 : y = 11
      · refine lv_tableIn (off := 526) (tgt := 559) hx hb dL_law_33 (by rw [hc11]; decide) (by rw [hc11]; decide) (by rw [hc11]; rfl) (by decide) ?_
        exact law_tide hC hX hbl hbA hin hP hS hl hI h_tide kk
      by_cases hc12 : y = 12
      · refine lv_tableIn (off := 549) (tgt := 582) hx hb dL_law_33 (by rw [hc12]; decide) (by rw [hc12]; decide) (by rw [hc12]; rfl) (by decide) ?_
        exact law_water hC hX hbl hbA hin hP hS hl hI h_water kk
      by_cases hc13 : y = 13
      · refine lv_tableIn (off := 582) (tgt := 615) hx hb dL_law_33 (by rw [hc13]; decide) (by rw [hc13]; decide) (by rw [hc13]; rfl) (by decide) ?_
        exact law_sinks hC hX hbl hbA hin hP hS hl hI h_sinks kk
      by_cases hc14 : y = 14
      · refine lv_tableIn (off := 635) (tgt := 668) hx hb dL_law_33 (by rw [hc14]; decide) (by rw [hc14]; decide) (by rw [hc14]; rfl) (by decide) ?_
        exact law_under hC hX hbl hbA hin hP hS hl hI h_under kk
      by_cases hc15 : y = 15
      · refine lv_tableIn (off := 688) (tgt := 721) hx hb dL_law_33 (by rw [hc15]; decide) (by rw [hc15]; decide) (by rw [hc15]; rfl) (by decide) ?_
        exact law_need hC hX hbl hbA hin hP hS hl hI h_need kk
      by_cases hc16 : y = 16
      · refine lv_tableIn (off := 711) (tgt := 744) hx hb dL_law_33 (by rw [hc16]; decide) (by rw [hc16]; decide) (by rw [hc16]; rfl) (by decide) ?_
        exact law_run hC hX hbl hbA hin hP hS hl hI h_run kk
      by_cases hc17 : y = 17
      · refine lv_tableIn (off := 754) (tgt := 787) hx hb dL_law_33 (by rw [hc17]; decide) (by rw [hc17]; decide) (by rw [hc17]; rfl) (by decide) ?_
        exact law_least hC hX hbl hbA hin hP hS hl hI h_least kk
      by_cases hc18 : y = 18
      · refine lv_tableIn (off := 797) (tgt := 830) hx hb dL_law_33 (by rw [hc18]; decide) (by rw [hc18]; decide) (by rw [hc18]; rfl) (by decide) ?_
        exact law_starts hC hX hbl hbA hin hP hS hl hI h_starts kk
      by_cases hc19 : y = 19
      · refine lv_tableIn (off := 830) (tgt := 863) hx hb dL_law_33 (by rw [hc19]; decide) (by rw [hc19]; decide) (by rw [hc19]; rfl) (by decide) ?_
        exact law_deepest hC hX hbl hbA hin hP hS hl hI h_deepest kk
      by_cases hc20 : y = 20
      · refine lv_tableIn (off := 863) (tgt := 896) hx hb dL_law_33 (by rw [hc20]; decide) (by rw [hc20]; decide) (by rw [hc20]; rfl) (by decide) ?_
        exact law_bank hC hX hbl hbA hin hP hS hl hI h_bank kk
      by_cases hc21 : y = 21
      · refine lv_tableIn (off := 906) (tgt := 939) hx hb dL_law_33 (by rw [hc21]; decide) (by rw [hc21]; decide) (by rw [hc21]; rfl) (by decide) ?_
        exact law_nearest hC hX hbl hbA hin hP hS hl hI h_nearest kk
      by_cases hc22 : y = 22
      · refine lv_tableIn (off := 939) (tgt := 972) hx hb dL_law_33 (by rw [hc22]; decide) (by rw [hc22]; decide) (by rw [hc22]; rfl) (by decide) ?_
        exact law_steered hC hX hbl hbA hin hP hS hl hI h_steered kk
      by_cases hc23 : y = 23
      · refine lv_tableIn (off := 972) (tgt := 1005) hx hb dL_law_33 (by rw [hc23]; decide) (by rw [hc23]; decide) (by rw [hc23]; rfl) (by decide) ?_
        exact law_may hC hX hbl hbA hin hP hS hl hI h_may kk
      by_cases hc24 : y = 24
      · refine lv_tableIn (off := 1035) (tgt := 1068) hx hb dL_law_33 (by rw [hc24]; decide) (by rw [hc24]; decide) (by rw [hc24]; rfl) (by decide) ?_
        exact law_meet hC hX hbl hbA hin hP hS hl hI h_meet kk
      by_cases hc25 : y = 25
      · refine lv_tableIn (off := 1110) (tgt := 1143) hx hb dL_law_33 (by rw [hc25]; decide) (by rw [hc25]; decide) (by rw [hc25]; rfl) (by decide) ?_
        exact law_day hC hX hbl hbA hin hP hS hl hI h_day kk
      by_cases hc26 : y = 26
      · refine lv_tableIn (off := 1153) (tgt := 1186) hx hb dL_law_33 (by rw [hc26]; decide) (by rw [hc26]; decide) (by rw [hc26]; rfl) (by decide) ?_
        exact law_dredged hC hX hbl hbA hin hP hS hl hI h_dredged kk
      by_cases hc27 : y = 27
      · refine lv_tableIn (off := 1196) (tgt := 1229) hx hb dL_law_33 (by rw [hc27]; decide) (by rw [hc27]; decide) (by rw [hc27]; rfl) (by decide) ?_
        exact law_lost hC hX hbl hbA hin hP hS hl hI h_lost kk
      by_cases hc28 : y = 28
      · refine lv_tableIn (off := 1249) (tgt := 1282) hx hb dL_law_33 (by rw [hc28]; decide) (by rw [hc28]; decide) (by rw [hc28]; rfl) (by decide) ?_
        exact law_touched hC hX hbl hbA hin hP hS hl hI h_touched kk
      by_cases hc29 : y = 29
      · refine lv_tableIn (off := 1292) (tgt := 1325) hx hb dL_law_33 (by rw [hc29]; decide) (by rw [hc29]; decide) (by rw [hc29]; rfl) (by decide) ?_
        exact law_past hC hX hbl hbA hin hP hS hl hI h_past kk
      by_cases hc30 : y = 30
      · refine lv_tableIn (off := 1335) (tgt := 1368) hx hb dL_law_33 (by rw [hc30]; decide) (by rw [hc30]; decide) (by rw [hc30]; rfl) (by decide) ?_
        exact law_image hC hX hbl hbA hin hP hS hl hI h_image kk
      by_cases hc31 : y = 31
      · refine lv_tableIn (off := 1348) (tgt := 1381) hx hb dL_law_33 (by rw [hc31]; decide) (by rw [hc31]; decide) (by rw [hc31]; rfl) (by decide) ?_
        exact law_restore hC hX hbl hbA hin hP hS hl hI h_restore kk
      by_cases hc32 : y = 32
      · refine lv_tableIn (off := 1361) (tgt := 1394) hx hb dL_law_33 (by rw [hc32]; decide) (by rw [hc32]; decide) (by rw [hc32]; rfl) (by decide) ?_
        exact law_gauged hC hX hbl hbA hin hP hS hl hI h_gauged kk
      by_cases hc33 : y = 33
      · refine lv_tableIn (off := 1424) (tgt := 1457) hx hb dL_law_33 (by rw [hc33]; decide) (by rw [hc33]; decide) (by rw [hc33]; rfl) (by decide) ?_
        exact law_sheet hC hX hbl hbA hin hP hS hl hI h_sheet kk
      by_cases hc34 : y = 34
      · refine lv_tableIn (off := 1467) (tgt := 1500) hx hb dL_law_33 (by rw [hc34]; decide) (by rw [hc34]; decide) (by rw [hc34]; rfl) (by decide) ?_
        exact law_drop hC hX hbl hbA hin hP hS hl hI h_drop kk
      by_cases hc35 : y = 35
      · refine lv_tableIn (off := 1490) (tgt := 1523) hx hb dL_law_33 (by rw [hc35]; decide) (by rw [hc35]; decide) (by rw [hc35]; rfl) (by decide) ?_
        exact law_item hC hX hbl hbA hin hP hS hl hI h_item kk
      by_cases hc36 : y = 36
      · refine lv_tableIn (off := 1543) (tgt := 1576) hx hb dL_law_33 (by rw [hc36]; decide) (by rw [hc36]; decide) (by rw [hc36]; rfl) (by decide) ?_
        exact law_copy hC hX hbl hbA hin hP hS hl hI h_copy kk
      refine lv_tableOut (tgt := 1639) hx hb dL_law_33 (tsOut (fun k h1 h2 => ?_)) (by decide) ?_
      · rcases (show k = 0 ∨ k = 1 ∨ k = 2 ∨ k = 3 ∨ k = 4 ∨ k = 5 ∨ k = 6 ∨ k = 7 ∨ k = 8 ∨ k = 9 ∨ k = 10 ∨ k = 11 ∨ k = 12 ∨ k = 13 ∨ k = 14 ∨ k = 15 ∨ k = 16 ∨ k = 17 ∨ k = 18 ∨ k = 19 ∨ k = 20 ∨ k = 21 ∨ k = 22 ∨ k = 23 ∨ k = 24 ∨ k = 25 ∨ k = 26 ∨ k = 27 ∨ k = 28 ∨ k = 29 ∨ k = 30 ∨ k = 31 ∨ k = 32 ∨ k = 33 ∨ k = 34 ∨ k = 35 ∨ k = 36 by omega) with rfl | rfl | rfl | rfl | rfl | rfl | rfl | rfl | rfl | rfl | rfl | rfl | rfl | rfl | rfl | rfl | rfl | rfl | rfl | rfl | rfl | rfl | rfl | rfl | rfl | rfl | rfl | rfl | rfl | rfl | rfl | rfl | rfl | rfl | rfl | rfl | rfl
        · exact hc0
        · exact hc1
        · exact hc2
        · exact hc3
        · exact hc4
        · exact hc5
        · exact hc6
        · exact hc7
        · exact hc8
        · exact hc9
        · exact hc10
        · exact hc11
        · exact hc12
        · exact hc13
        · exact hc14
        · exact hc15
        · exact hc16
        · exact hc17
        · exact hc18
        · exact hc19
        · exact hc20
        · exact hc21
        · exact hc22
        · exact hc23
        · exact hc24
        · exact hc25
        · exact hc26
        · exact hc27
        · exact hc28
        · exact hc29
        · exact hc30
        · exact hc31
        · exact hc32
        · exact hc33
        · exact hc34
        · exact hc35
        · exact hc36
      exact kk S H locs hI hP hS
end
