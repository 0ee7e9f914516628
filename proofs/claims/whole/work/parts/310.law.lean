/-! the law's walk: the pairs of calls -/
def lf (f : ST → Option Int32) (S : ST) : Option (Int32 × ST) := (f S).map (fun r => (r, S))
theorem lf_some {f : ST → Option Int32} {S S1 : ST} {r : Int32} (h : lf f S = some (r, S1)) : f S = some r ∧ S1 = S := by
  unfold lf at h
  cases hf : f S with
  | none => rw [hf] at h; cases h
  | some v => rw [hf] at h; cases h; exact ⟨rfl, rfl⟩
/-- a call of the class, then the same of the reference: both answer alike, the invariant goes on -/
def Pr (I : ST → Prop) (fx fm : ST → Option (Int32 × ST)) : Prop := ∀ S, I S → ∃ r S1 S2, fx S = some (r, S1) ∧ fm S1 = some (r, S2) ∧ I S2
section
variable {p : Program} {l : Launch} {e : Env} {s : State} {m : MethodId} {below : List Frame} {meth : Method} {c : Code} {G : GT} {b L : Nat} {xs : Nat → Int32} {Q : State → Prop} {H : Heap} {locs : List Loc} {S S1 : ST} {ls : Array Slot} {x3 : Int32} {pc : Nat} {st rest : List Value}

abbrev LC (p : Program) (m : MethodId) (c : Code) (s : State) (b : Nat) (G : GT) : Prop := Cx p m c s #[Value.ref b] cL_law 4 RL G
def Hin (x3 : Int32) (L : Nat) : Prop := vp_in x3 L ∧ vp_in (x3 + 1) L ∧ vp_in (x3 + 2) L ∧ vp_in (x3 + 3) L ∧ vp_in (x3 + 4) L ∧ vp_in (x3 + 5) L ∧ vp_in (x3 + 6) L
theorem runL {k ci idx maxL n d : Nat} {fs : List (Nat ⊕ Nat)} {q : vw_C} {y : MethodName} {bytes : ByteArray} {ret : Option FieldType} {As : List Value} {Qc : Array Value → State → Outcome → State → Prop} (hC : LC p m c s b G) (hP : va_P (gD G) vwCl (cells G S) H) (hS : va_S (gA G) s.heap H locs) (hM : Met l y (ws0 y bytes maxL ret) (rmH d) (va_Pc (.ref (ad G k) :: As) (Wo G S)) Qc 0 0 (gA G)) (hV : Vy y bytes maxL ret n) (hk : shl[k]? = some (.inr (ci, fs))) (hc : vwCl[ci]? = some q) (hl : Cond.methodLink RL idx y ∈ TBL) (hi : Cond.instanceMethod y ∈ TBL) (hse : Cond.selects q.1 y y ∈ TBL) (hR : d + 1 ≤ 2048 ∧ 8 + (maxL + 11) + 40 * d ≤ 84000) (hn : As.length = n) (hsz : ls.size = 4) (hst : st = As.reverse ++ .ref (ad G k) :: rest) (hW : (rest.map fun v => v.category).sum ≤ 8) (hdg : decode cL_law pc = .ok (.invokevirtual idx, 3)) : va_Run p l e room_1 s m #[Value.ref b] below meth c H locs 600000 7302250 0 0 (F0 m pc ls st) rest (Qc (.ref (ad G k) :: As).toArray) (gA G) :=
  va_runV hC.1 hM ⟨cB hC.1.2.2.2.2 hV hl hR, hC.1.2.2.2.2 _ hi, hC.1.2.2.2.2 _ hse⟩ (preV hC.2 hP hS hk hc) rfl hn hsz hst (lv_room hW) hdg ⟨Nat.le_refl _, Nat.le_refl _⟩
theorem cIL {r : Int32} {av : Array Value} (hS : va_S (gA G) s.heap H locs) (hr : va_Run p l e room_1 s m #[Value.ref b] below meth c H locs 600000 7302250 0 0 (F0 m pc ls st) rest (va_Qi (fun r' u => r' = r ∧ u = S1) (Wo G) (gA G) av) (gA G))
    (kk : ∀ (H : Heap) (locs : List Loc), va_P (gD G) vwCl (cells G S1) H → va_S (gA G) s.heap H locs → W p l e room_1 s m #[Value.ref b] below meth c H locs 600000 7302250 Q (F0 m (pc + 3) ls (.int r :: rest))) : W p l e room_1 s m #[Value.ref b] below meth c H locs 600000 7302250 Q (F0 m pc ls st) :=
  va_calli hr hS (fun _ _ h => h) (fun _ h => h) (fun r' u t H1 locs1 ht _ hp hB _ _ hS1 => by
    obtain ⟨rfl, rfl⟩ := hp
    exact kk H1 locs1 (by rw [← ht]; exact hB.1) hS1)

set_option maxRecDepth 100000 in
set_option maxHeartbeats 4000000 in
theorem law_mile {I : ST → Prop} (hC : LC p m c s b G) (hX : va_X b L xs s s.heap) (hbl : b < s.heap.size) (hbA : ¬ gA G b) (hin : Hin x3 L) (hP : va_P (gD G) vwCl (cells G S) H) (hS : va_S (gA G) s.heap H locs) (hl : lv_has ls 4 [(0, .ref b), (1, .ref (ad G 0)), (2, .ref (ad G 30)), (3, .int x3)]) (hI : I S) (hop : ∀ (a0 : Int32) (a1 : Int32) , Pr I (fun S => f_X7_mile S a0 a1) (fun S => f_X8_mile S a0 a1)) (kk : ∀ (S2 : ST) (H : Heap) (locs : List Loc), I S2 → va_P (gD G) vwCl (cells G S2) H → va_S (gA G) s.heap H locs → W p l e room_1 s m #[Value.ref b] below meth c H locs 600000 7302250 Q (F0 m 1639 ls [])) : W p l e room_1 s m #[Value.ref b] below meth c H locs 600000 7302250 Q (F0 m 196 ls []) := by
  obtain ⟨hx, hb, hml, hown, hts⟩ := id hC.1
  refine lv_aload_n hx hb dL_law_196 rfl (lv_at hl 1 rfl) ?_
  refine lv_aload_n hx hb dL_law_197 rfl (lv_at hl 0 rfl) ?_
  refine lv_iload_n hx hb dL_law_198 rfl (lv_at hl 3 rfl) ?_
  refine lv_iconst (v := 1) hx hb dL_law_199 (by decide) ?_
  refine lv_iadd hx hb dL_law_200 ?_
  refine va_sld hx hb hX hbl hbA hS hin.2.1 dL_law_201 ?_
  refine lv_aload_n hx hb dL_law_202 rfl (lv_at hl 0 rfl) ?_
  refine lv_iload_n hx hb dL_law_203 rfl (lv_at hl 3 rfl) ?_
  refine lv_iconst (v := 2) hx hb dL_law_204 (by decide) ?_
  refine lv_iadd hx hb dL_law_205 ?_
  refine va_sld hx hb hX hbl hbA hS hin.2.2.1 dL_law_206 ?_
  obtain ⟨r, S1, S2, h1, h2, hI2⟩ := hop (xs (x3 + 1).toNatClampNeg) (xs (x3 + 2).toNatClampNeg) S hI
  refine cIL hS (runL hC hP hS (As := [.int (xs (x3 + 1).toNatClampNeg), .int (xs (x3 + 2).toNatClampNeg)]) (rest := []) (k_X7_mile l G _ _ _ _ _ h1) vy_X7_mile sg_0 vc_7 tb_2_3 tb_2_4 tb_2_5 ⟨Nat.le_of_ble_eq_true rfl, Nat.le_of_ble_eq_true rfl⟩ rfl hl.1 rfl (Nat.le_of_ble_eq_true rfl) dL_law_207) (fun H locs hP hS => ?_)
  refine lv_aload_n hx hb dL_law_210 rfl (lv_at hl 2 rfl) ?_
  refine lv_aload_n hx hb dL_law_211 rfl (lv_at hl 0 rfl) ?_
  refine lv_iload_n hx hb dL_law_212 rfl (lv_at hl 3 rfl) ?_
  refine lv_iconst (v := 1) hx hb dL_law_213 (by decide) ?_
  refine lv_iadd hx hb dL_law_214 ?_
  refine va_sld hx hb hX hbl hbA hS hin.2.1 dL_law_215 ?_
  refine lv_aload_n hx hb dL_law_216 rfl (lv_at hl 0 rfl) ?_
  refine lv_iload_n hx hb dL_law_217 rfl (lv_at hl 3 rfl) ?_
  refine lv_iconst (v := 2) hx hb dL_law_218 (by decide) ?_
  refine lv_iadd hx hb dL_law_219 ?_
  refine va_sld hx hb hX hbl hbA hS hin.2.2.1 dL_law_220 ?_
  refine cIL hS (runL hC hP hS (As := [.int (xs (x3 + 1).toNatClampNeg), .int (xs (x3 + 2).toNatClampNeg)]) (rest := [.int r]) (k_X8_mile l G _ _ _ _ _ h2) vy_X8_mile sg_30 vc_8 tb_4_160 tb_4_161 tb_4_162 ⟨Nat.le_of_ble_eq_true rfl, Nat.le_of_ble_eq_true rfl⟩ rfl hl.1 rfl (Nat.le_of_ble_eq_true rfl) dL_law_221) (fun H locs hP hS => ?_)
  refine lv_icmp_eq (tgt := 1639) hx hb dL_law_224 (by decide) (fun hc => ?_) (fun hc => absurd rfl hc)
  exact kk _ _ _ hI2 hP hS
set_option maxRecDepth 100000 in
set_option maxHeartbeats 4000000 in
theorem law_make {I : ST → Prop} (hC : LC p m c s b G) (hX : va_X b L xs s s.heap) (hbl : b < s.heap.size) (hbA : ¬ gA G b) (hin : Hin x3 L) (hP : va_P (gD G) vwCl (cells G S) H) (hS : va_S (gA G) s.heap H locs) (hl : lv_has ls 4 [(0, .ref b), (1, .ref (ad G 0)), (2, .ref (ad G 30)), (3, .int x3)]) (hI : I S) (hop : ∀ (a0 : Int32) (a1 : Int32) (a2 : Int32) , Pr I (fun S => f_X7_make S a0 a1 a2) (fun S => f_X8_make S a0 a1 a2)) (kk : ∀ (S2 : ST) (H : Heap) (locs : List Loc), I S2 → va_P (gD G) vwCl (cells G S2) H → va_S (gA G) s.heap H locs → W p l e room_1 s m #[Value.ref b] below meth c H locs 600000 7302250 Q (F0 m 1639 ls [])) : W p l e room_1 s m #[Value.ref b] below meth c H locs 600000 7302250 Q (F0 m 229 ls []) := by
  obtain ⟨hx, hb, hml, hown, hts⟩ := id hC.1
  refine lv_aload_n hx hb dL_law_229 rfl (lv_at hl 1 rfl) ?_
  refine lv_aload_n hx hb dL_law_230 rfl (lv_at hl 0 rfl) ?_
  refine lv_iload_n hx hb dL_law_231 rfl (lv_at hl 3 rfl) ?_
  refine lv_iconst (v := 1) hx hb dL_law_232 (by decide) ?_
  refine lv_iadd hx hb dL_law_233 ?_
  refine va_sld hx hb hX hbl hbA hS hin.2.1 dL_law_234 ?_
  refine lv_aload_n hx hb dL_law_235 rfl (lv_at hl 0 rfl) ?_
  refine lv_iload_n hx hb dL_law_236 rfl (lv_at hl 3 rfl) ?_
  refine lv_iconst (v := 2) hx hb dL_law_237 (by decide) ?_
  refine lv_iadd hx hb dL_law_238 ?_
  refine va_sld hx hb hX hbl hbA hS hin.2.2.1 dL_law_239 ?_
  refine lv_aload_n hx hb dL_law_240 rfl (lv_at hl 0 rfl) ?_
  refine lv_iload_n hx hb dL_law_241 rfl (lv_at hl 3 rfl) ?_
  refine lv_iconst (v := 3) hx hb dL_law_242 (by decide) ?_
  refine lv_iadd hx hb dL_law_243 ?_
  refine va_sld hx hb hX hbl hbA hS hin.2.2.2.1 dL_law_244 ?_
  obtain ⟨r, S1, S2, h1, h2, hI2⟩ := hop (xs (x3 + 1).toNatClampNeg) (xs (x3 + 2).toNatClampNeg) (xs (x3 + 3).toNatClampNeg) S hI
  refine cIL hS (runL hC hP hS (As := [.int (xs (x3 + 1).toNatClampNeg), .int (xs (x3 + 2).toNatClampNeg), .int (xs (x3 + 3).toNatClampNeg)]) (rest := []) (k_X7_make l G _ _ _ _ _ _ h1) vy_X7_make sg_0 vc_7 tb_2_29 tb_2_30 tb_2_31 ⟨Nat.le_of_ble_eq_true rfl, Nat.le_of_ble_eq_true rfl⟩ rfl hl.1 rfl (Nat.le_of_ble_eq_true rfl) dL_law_245) (fun H locs hP hS => ?_)
  refine lv_aload_n hx hb dL_law_248 rfl (lv_at hl 2 rfl) ?_
  refine lv_aload_n hx hb dL_law_249 rfl (lv_at hl 0 rfl) ?_
  refine lv_iload_n hx hb dL_law_250 rfl (lv_at hl 3 rfl) ?_
  refine lv_iconst (v := 1) hx hb dL_law_251 (by decide) ?_
  refine lv_iadd hx hb dL_law_252 ?_
  refine va_sld hx hb hX hbl hbA hS hin.2.1 dL_law_253 ?_
  refine lv_aload_n hx hb dL_law_254 rfl (lv_at hl 0 rfl) ?_
  refine lv_iload_n hx hb dL_law_255 rfl (lv_at hl 3 rfl) ?_
  refine lv_iconst (v := 2) hx hb dL_law_256 (by decide) ?_
  refine lv_iadd hx hb dL_law_257 ?_
  refine va_sld hx hb hX hbl hbA hS hin.2.2.1 dL_law_258 ?_
  refine lv_aload_n hx hb dL_law_259 rfl (lv_at hl 0 rfl) ?_
  refine lv_iload_n hx hb dL_law_260 rfl (lv_at hl 3 rfl) ?_
  refine lv_iconst (v := 3) hx hb dL_law_261 (by decide) ?_
  refine lv_iadd hx hb dL_law_262 ?_
  refine va_sld hx hb hX hbl hbA hS hin.2.2.2.1 dL_law_263 ?_
  refine cIL hS (runL hC hP hS (As := [.int (xs (x3 + 1).toNatClampNeg), .int (xs (x3 + 2).toNatClampNeg), .int (xs (x3 + 3).toNatClampNeg)]) (rest := [.int r]) (k_X8_make l G _ _ _ _ _ _ h2) vy_X8_make sg_30 vc_8 tb_4_180 tb_4_181 tb_4_182 ⟨Nat.le_of_ble_eq_true rfl, Nat.le_of_ble_eq_true rfl⟩ rfl hl.1 rfl (Nat.le_of_ble_eq_true rfl) dL_law_264) (fun H locs hP hS => ?_)
  refine lv_icmp_eq (tgt := 1639) hx hb dL_law_267 (by decide) (fun hc => ?_) (fun hc => absurd rfl hc)
  exact kk _ _ _ hI2 hP hS
set_option maxRecDepth 100000 in
set_option maxHeartbeats 4000000 in
theorem law_told {I : ST → Prop} (hC : LC p m c s b G) (hX : va_X b L xs s s.heap) (hbl : b < s.heap.size) (hbA : ¬ gA G b) (hin : Hin x3 L) (hP : va_P (gD G) vwCl (cells G S) H) (hS : va_S (gA G) s.heap H locs) (hl : lv_has ls 4 [(0, .ref b), (1, .ref (ad G 0)), (2, .ref (ad G 30)), (3, .int x3)]) (hI : I S) (hop : ∀ (a0 : Int32) (a1 : Int32) , Pr I (lf (fun S => f_X7_told S a0 a1)) (lf (fun S => f_X8_told S a0 a1))) (kk : ∀ (S2 : ST) (H : Heap) (locs : List Loc), I S2 → va_P (gD G) vwCl (cells G S2) H → va_S (gA G) s.heap H locs → W p l e room_1 s m #[Value.ref b] below meth c H locs 600000 7302250 Q (F0 m 1639 ls [])) : W p l e room_1 s m #[Value.ref b] below meth c H locs 600000 7302250 Q (F0 m 272 ls []) := by
  obtain ⟨hx, hb, hml, hown, hts⟩ := id hC.1
  refine lv_aload_n hx hb dL_law_272 rfl (lv_at hl 1 rfl) ?_
  refine lv_aload_n hx hb dL_law_273 rfl (lv_at hl 0 rfl) ?_
  refine lv_iload_n hx hb dL_law_274 rfl (lv_at hl 3 rfl) ?_
  refine lv_iconst (v := 1) hx hb dL_law_275 (by decide) ?_
  refine lv_iadd hx hb dL_law_276 ?_
  refine va_sld hx hb hX hbl hbA hS hin.2.1 dL_law_277 ?_
  refine lv_aload_n hx hb dL_law_278 rfl (lv_at hl 0 rfl) ?_
  refine lv_iload_n hx hb dL_law_279 rfl (lv_at hl 3 rfl) ?_
  refine lv_iconst (v := 2) hx hb dL_law_280 (by decide) ?_
  refine lv_iadd hx hb dL_law_281 ?_
  refine va_sld hx hb hX hbl hbA hS hin.2.2.1 dL_law_282 ?_
  obtain ⟨r, S1, S2, h1, h2, hI2⟩ := hop (xs (x3 + 1).toNatClampNeg) (xs (x3 + 2).toNatClampNeg) S hI
  obtain ⟨h1, rfl⟩ := lf_some h1
  obtain ⟨h2, rfl⟩ := lf_some h2
  refine cIL hS (runL hC hP hS (As := [.int (xs (x3 + 1).toNatClampNeg), .int (xs (x3 + 2).toNatClampNeg)]) (rest := []) (k_X7_told l G _ _ _ _ h1) vy_X7_told sg_0 vc_7 tb_2_38 tb_2_39 tb_2_40 ⟨Nat.le_of_ble_eq_true rfl, Nat.le_of_ble_eq_true rfl⟩ rfl hl.1 rfl (Nat.le_of_ble_eq_true rfl) dL_law_283) (fun H locs hP hS => ?_)
  refine lv_aload_n hx hb dL_law_286 rfl (lv_at hl 2 rfl) ?_
  refine lv_aload_n hx hb dL_law_287 rfl (lv_at hl 0 rfl) ?_
  refine lv_iload_n hx hb dL_law_288 rfl (lv_at hl 3 rfl) ?_
  refine lv_iconst (v := 1) hx hb dL_law_289 (by decide) ?_
  refine lv_iadd hx hb dL_law_290 ?_
  refine va_sld hx hb hX hbl hbA hS hin.2.1 dL_law_291 ?_
  refine lv_aload_n hx hb dL_law_292 rfl (lv_at hl 0 rfl) ?_
  refine lv_iload_n hx hb dL_law_293 rfl (lv_at hl 3 rfl) ?_
  refine lv_iconst (v := 2) hx hb dL_law_294 (by decide) ?_
  refine lv_iadd hx hb dL_law_295 ?_
  refine va_sld hx hb hX hbl hbA hS hin.2.2.1 dL_law_296 ?_
  refine cIL hS (runL hC hP hS (As := [.int (xs (x3 + 1).toNatClampNeg), .int (xs (x3 + 2).toNatClampNeg)]) (rest := [.int r]) (k_X8_told l G _ _ _ _ h2) vy_X8_told sg_30 vc_8 tb_4_188 tb_4_189 tb_4_190 ⟨Nat.le_of_ble_eq_true rfl, Nat.le_of_ble_eq_true rfl⟩ rfl hl.1 rfl (Nat.le_of_ble_eq_true rfl) dL_law_297) (fun H locs hP hS => ?_)
  refine lv_icmp_eq (tgt := 1639) hx hb dL_law_300 (by decide) (fun hc => ?_) (fun hc => absurd rfl hc)
  exact kk _ _ _ hI2 hP hS
set_option maxRecDepth 100000 in
set_option maxHeartbeats 4000000 in
theorem law_height {I : ST → Prop} (hC : LC p m c s b G) (hX : va_X b L xs s s.heap) (hbl : b < s.heap.size) (hbA : ¬ gA G b) (hin : Hin x3 L) (hP : va_P (gD G) vwCl (cells G S) H) (hS : va_S (gA G) s.heap H locs) (hl : lv_has ls 4 [(0, .ref b), (1, .ref (ad G 0)), (2, .ref (ad G 30)), (3, .int x3)]) (hI : I S) (hop : ∀ (a0 : Int32) (a1 : Int32) , Pr I (fun S => f_X7_height S a0 a1) (fun S => f_X8_height S a0 a1)) (kk : ∀ (S2 : ST) (H : Heap) (locs : List Loc), I S2 → va_P (gD G) vwCl (cells G S2) H → va_S (gA G) s.heap H locs → W p l e room_1 s m #[Value.ref b] below meth c H locs 600000 7302250 Q (F0 m 1639 ls [])) : W p l e room_1 s m #[Value.ref b] below meth c H locs 600000 7302250 Q (F0 m 305 ls []) := by
  obtain ⟨hx, hb, hml, hown, hts⟩ := id hC.1
  refine lv_aload_n hx hb dL_law_305 rfl (lv_at hl 1 rfl) ?_
  refine lv_aload_n hx hb dL_law_306 rfl (lv_at hl 0 rfl) ?_
  refine lv_iload_n hx hb dL_law_307 rfl (lv_at hl 3 rfl) ?_
  refine lv_iconst (v := 1) hx hb dL_law_308 (by decide) ?_
  refine lv_iadd hx hb dL_law_309 ?_
  refine va_sld hx hb hX hbl hbA hS hin.2.1 dL_law_310 ?_
  refine lv_aload_n hx hb dL_law_311 rfl (lv_at hl 0 rfl) ?_
  refine lv_iload_n hx hb dL_law_312 rfl (lv_at hl 3 rfl) ?_
  refine lv_iconst (v := 2) hx hb dL_law_313 (by decide) ?_
  refine lv_iadd hx hb dL_law_314 ?_
  refine va_sld hx hb hX hbl hbA hS hin.2.2.1 dL_law_315 ?_
  obtain ⟨r, S1, S2, h1, h2, hI2⟩ := hop (xs (x3 + 1).toNatClampNeg) (xs (x3 + 2).toNatClampNeg) S hI
  refine cIL hS (runL hC hP hS (As := [.int (xs (x3 + 1).toNatClampNeg), .int (xs (x3 + 2).toNatClampNeg)]) (rest := []) (k_X7_height l G _ _ _ _ _ h1) vy_X7_height sg_0 vc_7 tb_2_43 tb_2_44 tb_2_45 ⟨Nat.le_of_ble_eq_true rfl, Nat.le_of_ble_eq_true rfl⟩ rfl hl.1 rfl (Nat.le_of_ble_eq_true rfl) dL_law_316) (fun H locs hP hS => ?_)
  refine lv_aload_n hx hb dL_law_319 rfl (lv_at hl 2 rfl) ?_
  refine lv_aload_n hx hb dL_law_320 rfl (lv_at hl 0 rfl) ?_
  refine lv_iload_n hx hb dL_law_321 rfl (lv_at hl 3 rfl) ?_
  refine lv_iconst (v := 1) hx hb dL_law_322 (by decide) ?_
  refine lv_iadd hx hb dL_law_323 ?_
  refine va_sld hx hb hX hbl hbA hS hin.2.1 dL_law_324 ?_
  refine lv_aload_n hx hb dL_law_325 rfl (lv_at hl 0 rfl) ?_
  refine lv_iload_n hx hb dL_law_326 rfl (lv_at hl 3 rfl) ?_
  refine lv_iconst (v := 2) hx hb dL_law_327 (by decide) ?_
  refine lv_iadd hx hb dL_law_328 ?_
  refine va_sld hx hb hX hbl hbA hS hin.2.2.1 dL_law_329 ?_
  refine cIL hS (runL hC hP hS (As := [.int (xs (x3 + 1).toNatClampNeg), .int (xs (x3 + 2).toNatClampNeg)]) (rest := [.int r]) (k_X8_height l G _ _ _ _ _ h2) vy_X8_height sg_30 vc_8 tb_4_193 tb_4_194 tb_4_195 ⟨Nat.le_of_ble_eq_true rfl, Nat.le_of_ble_eq_true rfl⟩ rfl hl.1 rfl (Nat.le_of_ble_eq_true rfl) dL_law_330) (fun H locs hP hS => ?_)
  refine lv_icmp_eq (tgt := 1639) hx hb dL_law_333 (by decide) (fun hc => ?_) (fun hc => absurd rfl hc)
  exact kk _ _ _ hI2 hP hS
set_option maxRecDepth 100000 in
set_option maxHeartbeats 4000000 in
theorem law_set {I : ST → Prop} (hC : LC p m c s b G) (hX : va_X b L xs s s.heap) (hbl : b < s.heap.size) (hbA : ¬ gA G b) (hin : Hin x3 L) (hP : va_P (gD G) vwCl (cells G S) H) (hS : va_S (gA G) s.heap H locs) (hl : lv_has ls 4 [(0, .ref b), (1, .ref (ad G 0)), (2, .ref (ad G 30)), (3, .int x3)]) (hI : I S) (hop : ∀ (a0 : Int32) (a1 : Int32) , Pr I (fun S => f_X7_set S a0 a1) (fun S => f_X8_set S a0 a1)) (kk : ∀ (S2 : ST) (H : Heap) (locs : List Loc), I S2 → va_P (gD G) vwCl (cells G S2) H → va_S (gA G) s.heap H locs → W p l e room_1 s m #[Value.ref b] below meth c H locs 600000 7302250 Q (F0 m 1639 ls [])) : W p l e room_1 s m #[Value.ref b] below meth c H locs 600000 7302250 Q (F0 m 338 ls []) := by
  obtain ⟨hx, hb, hml, hown, hts⟩ := id hC.1
  refine lv_aload_n hx hb dL_law_338 rfl (lv_at hl 1 rfl) ?_
  refine lv_aload_n hx hb dL_law_339 rfl (lv_at hl 0 rfl) ?_
  refine lv_iload_n hx hb dL_law_340 rfl (lv_at hl 3 rfl) ?_
  refine lv_iconst (v := 1) hx hb dL_law_341 (by decide) ?_
  refine lv_iadd hx hb dL_law_342 ?_
  refine va_sld hx hb hX hbl hbA hS hin.2.1 dL_law_343 ?_
  refine lv_aload_n hx hb dL_law_344 rfl (lv_at hl 0 rfl) ?_
  refine lv_iload_n hx hb dL_law_345 rfl (lv_at hl 3 rfl) ?_
  refine lv_iconst (v := 2) hx hb dL_law_346 (by decide) ?_
  refine lv_iadd hx hb dL_law_347 ?_
  refine va_sld hx hb hX hbl hbA hS hin.2.2.1 dL_law_348 ?_
  obtain ⟨r, S1, S2, h1, h2, hI2⟩ := hop (xs (x3 + 1).toNatClampNeg) (xs (x3 + 2).toNatClampNeg) S hI
  refine cIL hS (runL hC hP hS (As := [.int (xs (x3 + 1).toNatClampNeg), .int (xs (x3 + 2).toNatClampNeg)]) (rest := []) (k_X7_set l G _ _ _ _ _ h1) vy_X7_set sg_0 vc_7 tb_2_47 tb_2_48 tb_2_49 ⟨Nat.le_of_ble_eq_true rfl, Nat.le_of_ble_eq_true rfl⟩ rfl hl.1 rfl (Nat.le_of_ble_eq_true rfl) dL_law_349) (fun H locs hP hS => ?_)
  refine lv_aload_n hx hb dL_law_352 rfl (lv_at hl 2 rfl) ?_
  refine lv_aload_n hx hb dL_law_353 rfl (lv_at hl 0 rfl) ?_
  refine lv_iload_n hx hb dL_law_354 rfl (lv_at hl 3 rfl) ?_
  refine lv_iconst (v := 1) hx hb dL_law_355 (by decide) ?_
  refine lv_iadd hx hb dL_law_356 ?_
  refine va_sld hx hb hX hbl hbA hS hin.2.1 dL_law_357 ?_
  refine lv_aload_n hx hb dL_law_358 rfl (lv_at hl 0 rfl) ?_
  refine lv_iload_n hx hb dL_law_359 rfl (lv_at hl 3 rfl) ?_
  refine lv_iconst (v := 2) hx hb dL_law_360 (by decide) ?_
  refine lv_iadd hx hb dL_law_361 ?_
  refine va_sld hx hb hX hbl hbA hS hin.2.2.1 dL_law_362 ?_
  refine cIL hS (runL hC hP hS (As := [.int (xs (x3 + 1).toNatClampNeg), .int (xs (x3 + 2).toNatClampNeg)]) (rest := [.int r]) (k_X8_set l G _ _ _ _ _ h2) vy_X8_set sg_30 vc_8 tb_4_198 tb_4_199 tb_4_200 ⟨Nat.le_of_ble_eq_true rfl, Nat.le_of_ble_eq_true rfl⟩ rfl hl.1 rfl (Nat.le_of_ble_eq_true rfl) dL_law_363) (fun H locs hP hS => ?_)
  refine lv_icmp_eq (tgt := 1639) hx hb dL_law_366 (by decide) (fun hc => ?_) (fun hc => absurd rfl hc)
  exact kk _ _ _ hI2 hP hS
set_option maxRecDepth 100000 in
set_option maxHeartbeats 4000000 in
theorem law_ship {I : ST → Prop} (hC : LC p m c s b G) (hX : va_X b L xs s s.heap) (hbl : b < s.heap.size) (hbA : ¬ gA G b) (hin : Hin x3 L) (hP : va_P (gD G) vwCl (cells G S) H) (hS : va_S (gA G) s.heap H locs) (hl : lv_has ls 4 [(0, .ref b), (1, .ref (ad G 0)), (2, .ref (ad G 30)), (3, .int x3)]) (hI : I S) (hop : ∀ (a0 : Int32) (a1 : Int32) (a2 : Int32) , Pr I (fun S => f_X7_ship S a0 a1 a2) (fun S => f_X8_ship S a0 a1 a2)) (kk : ∀ (S2 : ST) (H : Heap) (locs : List Loc), I S2 → va_P (gD G) vwCl (cells G S2) H → va_S (gA G) s.heap H locs → W p l e room_1 s m #[Value.ref b] below meth c H locs 600000 7302250 Q (F0 m 1639 ls [])) : W p l e room_1 s m #[Value.ref b] below meth c H locs 600000 7302250 Q (F0 m 371 ls []) := by
  obtain ⟨hx, hb, hml, hown, hts⟩ := id hC.1
  refine lv_aload_n hx hb dL_law_371 rfl (lv_at hl 1 rfl) ?_
  refine lv_aload_n hx hb dL_law_372 rfl (lv_at hl 0 rfl) ?_
  refine lv_iload_n hx hb dL_law_373 rfl (lv_at hl 3 rfl) ?_
  refine lv_iconst (v := 1) hx hb dL_law_374 (by decide) ?_
  refine lv_iadd hx hb dL_law_375 ?_
  refine va_sld hx hb hX hbl hbA hS hin.2.1 dL_law_376 ?_
  refine lv_aload_n hx hb dL_law_377 rfl (lv_at hl 0 rfl) ?_
  refine lv_iload_n hx hb dL_law_378 rfl (lv_at hl 3 rfl) ?_
  refine lv_iconst (v := 2) hx hb dL_law_379 (by decide) ?_
  refine lv_iadd hx hb dL_law_380 ?_
  refine va_sld hx hb hX hbl hbA hS hin.2.2.1 dL_law_381 ?_
  refine lv_aload_n hx hb dL_law_382 rfl (lv_at hl 0 rfl) ?_
  refine lv_iload_n hx hb dL_law_383 rfl (lv_at hl 3 rfl) ?_
  refine lv_iconst (v := 3) hx hb dL_law_384 (by decide) ?_
  refine lv_iadd hx hb dL_law_385 ?_
  refine va_sld hx hb hX hbl hbA hS hin.2.2.2.1 dL_law_386 ?_
  obtain ⟨r, S1, S2, h1, h2, hI2⟩ := hop (xs (x3 + 1).toNatClampNeg) (xs (x3 + 2).toNatClampNeg) (xs (x3 + 3).toNatClampNeg) S hI
  refine cIL hS (runL hC hP hS (As := [.int (xs (x3 + 1).toNatClampNeg), .int (xs (x3 + 2).toNatClampNeg), .int (xs (x3 + 3).toNatClampNeg)]) (rest := []) (k_X7_ship l G _ _ _ _ _ _ h1) vy_X7_ship sg_0 vc_7 tb_2_53 tb_2_54 tb_2_55 ⟨Nat.le_of_ble_eq_true rfl, Nat.le_of_ble_eq_true rfl⟩ rfl hl.1 rfl (Nat.le_of_ble_eq_true rfl) dL_law_387) (fun H locs hP hS => ?_)
  refine lv_aload_n hx hb dL_law_390 rfl (lv_at hl 2 rfl) ?_
  refine lv_aload_n hx hb dL_law_391 rfl (lv_at hl 0 rfl) ?_
  refine lv_iload_n hx hb dL_law_392 rfl (lv_at hl 3 rfl) ?_
  refine lv_iconst (v := 1) hx hb dL_law_393 (by decide) ?_
  refine lv_iadd hx hb dL_law_394 ?_
  refine va_sld hx hb hX hbl hbA hS hin.2.1 dL_law_395 ?_
  refine lv_aload_n hx hb dL_law_396 rfl (lv_at hl 0 rfl) ?_
  refine lv_iload_n hx hb dL_law_397 rfl (lv_at hl 3 rfl) ?_
  refine lv_iconst (v := 2) hx hb dL_law_398 (by decide) ?_
  refine lv_iadd hx hb dL_law_399 ?_
  refine va_sld hx hb hX hbl hbA hS hin.2.2.1 dL_law_400 ?_
  refine lv_aload_n hx hb dL_law_401 rfl (lv_at hl 0 rfl) ?_
  refine lv_iload_n hx hb dL_law_402 rfl (lv_at hl 3 rfl) ?_
  refine lv_iconst (v := 3) hx hb dL_law_403 (by decide) ?_
  refine lv_iadd hx hb dL_law_404 ?_
  refine va_sld hx hb hX hbl hbA hS hin.2.2.2.1 dL_law_405 ?_
  refine cIL hS (runL hC hP hS (As := [.int (xs (x3 + 1).toNatClampNeg), .int (xs (x3 + 2).toNatClampNeg), .int (xs (x3 + 3).toNatClampNeg)]) (rest := [.int r]) (k_X8_ship l G _ _ _ _ _ _ h2) vy_X8_ship sg_30 vc_8 tb_4_206 tb_4_207 tb_4_208 ⟨Nat.le_of_ble_eq_true rfl, Nat.le_of_ble_eq_true rfl⟩ rfl hl.1 rfl (Nat.le_of_ble_eq_true rfl) dL_law_406) (fun H locs hP hS => ?_)
  refine lv_icmp_eq (tgt := 1639) hx hb dL_law_409 (by decide) (fun hc => ?_) (fun hc => absurd rfl hc)
  exact kk _ _ _ hI2 hP hS
set_option maxRecDepth 100000 in
set_option maxHeartbeats 4000000 in
theorem law_pace {I : ST → Prop} (hC : LC p m c s b G) (hX : va_X b L xs s s.heap) (hbl : b < s.heap.size) (hbA : ¬ gA G b) (hin : Hin x3 L) (hP : va_P (gD G) vwCl (cells G S) H) (hS : va_S (gA G) s.heap H locs) (hl : lv_has ls 4 [(0, .ref b), (1, .ref (ad G 0)), (2, .ref (ad G 30)), (3, .int x3)]) (hI : I S) (hop : ∀ (a0 : Int32) (a1 : Int32) , Pr I (fun S => f_X7_pace S a0 a1) (fun S => f_X8_pace S a0 a1)) (kk : ∀ (S2 : ST) (H : Heap) (locs : List Loc), I S2 → va_P (gD G) vwCl (cells G S2) H → va_S (gA G) s.heap H locs → W p l e room_1 s m #[Value.ref b] below meth c H locs 600000 7302250 Q (F0 m 1639 ls [])) : W p l e room_1 s m #[Value.ref b] below meth c H locs 600000 7302250 Q (F0 m 414 ls []) := by
  obtain ⟨hx, hb, hml, hown, hts⟩ := id hC.1
  refine lv_aload_n hx hb dL_law_414 rfl (lv_at hl 1 rfl) ?_
  refine lv_aload_n hx hb dL_law_415 rfl (lv_at hl 0 rfl) ?_
  refine lv_iload_n hx hb dL_law_416 rfl (lv_at hl 3 rfl) ?_
  refine lv_iconst (v := 1) hx hb dL_law_417 (by decide) ?_
  refine lv_iadd hx hb dL_law_418 ?_
  refine va_sld hx hb hX hbl hbA hS hin.2.1 dL_law_419 ?_
  refine lv_aload_n hx hb dL_law_420 rfl (lv_at hl 0 rfl) ?_
  refine lv_iload_n hx hb dL_law_421 rfl (lv_at hl 3 rfl) ?_
  refine lv_iconst (v := 2) hx hb dL_law_422 (by decide) ?_
  refine lv_iadd hx hb dL_law_423 ?_
  refine va_sld hx hb hX hbl hbA hS hin.2.2.1 dL_law_424 ?_
  obtain ⟨r, S1, S2, h1, h2, hI2⟩ := hop (xs (x3 + 1).toNatClampNeg) (xs (x3 + 2).toNatClampNeg) S hI
  refine cIL hS (runL hC hP hS (As := [.int (xs (x3 + 1).toNatClampNeg), .int (xs (x3 + 2).toNatClampNeg)]) (rest := []) (k_X7_pace l G _ _ _ _ _ h1) vy_X7_pace sg_0 vc_7 tb_2_61 tb_2_62 tb_2_63 ⟨Nat.le_of_ble_eq_true rfl, Nat.le_of_ble_eq_true rfl⟩ rfl hl.1 rfl (Nat.le_of_ble_eq_true rfl) dL_law_425) (fun H locs hP hS => ?_)
  refine lv_aload_n hx hb dL_law_428 rfl (lv_at hl 2 rfl) ?_
  refine lv_aload_n hx hb dL_law_429 rfl (lv_at hl 0 rfl) ?_
  refine lv_iload_n hx hb dL_law_430 rfl (lv_at hl 3 rfl) ?_
  refine lv_iconst (v := 1) hx hb dL_law_431 (by decide) ?_
  refine lv_iadd hx hb dL_law_432 ?_
  refine va_sld hx hb hX hbl hbA hS hin.2.1 dL_law_433 ?_
  refine lv_aload_n hx hb dL_law_434 rfl (lv_at hl 0 rfl) ?_
  refine lv_iload_n hx hb dL_law_435 rfl (lv_at hl 3 rfl) ?_
  refine lv_iconst (v := 2) hx hb dL_law_436 (by decide) ?_
  refine lv_iadd hx hb dL_law_437 ?_
  refine va_sld hx hb hX hbl hbA hS hin.2.2.1 dL_law_438 ?_
  refine cIL hS (runL hC hP hS (As := [.int (xs (x3 + 1).toNatClampNeg), .int (xs (x3 + 2).toNatClampNeg)]) (rest := [.int r]) (k_X8_pace l G _ _ _ _ _ h2) vy_X8_pace sg_30 vc_8 tb_4_211 tb_4_212 tb_4_213 ⟨Nat.le_of_ble_eq_true rfl, Nat.le_of_ble_eq_true rfl⟩ rfl hl.1 rfl (Nat.le_of_ble_eq_true rfl) dL_law_439) (fun H locs hP hS => ?_)
  refine lv_icmp_eq (tgt := 1639) hx hb dL_law_442 (by decide) (fun hc => ?_) (fun hc => absurd rfl hc)
  exact kk _ _ _ hI2 hP hS
set_option maxRecDepth 100000 in
set_option maxHeartbeats 4000000 in
theorem law_type {I : ST → Prop} (hC : LC p m c s b G) (hX : va_X b L xs s s.heap) (hbl : b < s.heap.size) (hbA : ¬ gA G b) (hin : Hin x3 L) (hP : va_P (gD G) vwCl (cells G S) H) (hS : va_S (gA G) s.heap H locs) (hl : lv_has ls 4 [(0, .ref b), (1, .ref (ad G 0)), (2, .ref (ad G 30)), (3, .int x3)]) (hI : I S) (hop : ∀ (a0 : Int64) (a1 : Int32) , Pr I (fun S => f_X7_type S a0 a1) (fun S => f_X8_type S a0 a1)) (kk : ∀ (S2 : ST) (H : Heap) (locs : List Loc), I S2 → va_P (gD G) vwCl (cells G S2) H → va_S (gA G) s.heap H locs → W p l e room_1 s m #[Value.ref b] below meth c H locs 600000 7302250 Q (F0 m 1639 ls [])) : W p l e room_1 s m #[Value.ref b] below meth c H locs 600000 7302250 Q (F0 m 447 ls []) := by
  obtain ⟨hx, hb, hml, hown, hts⟩ := id hC.1
  refine lv_aload_n hx hb dL_law_447 rfl (lv_at hl 1 rfl) ?_
  refine lv_aload_n hx hb dL_law_448 rfl (lv_at hl 0 rfl) ?_
  refine lv_iload_n hx hb dL_law_449 rfl (lv_at hl 3 rfl) ?_
  refine lv_iconst (v := 1) hx hb dL_law_450 (by decide) ?_
  refine lv_iadd hx hb dL_law_451 ?_
  refine va_sld hx hb hX hbl hbA hS hin.2.1 dL_law_452 ?_
  refine lv_i2l (v := (xs (x3 + 1).toNatClampNeg).toInt64) hx hb dL_law_453 rfl ?_
  refine lv_bipush (v := 32) hx hb dL_law_454 (by decide) ?_
  refine lv_lshl (v := (sl64 ((xs (x3 + 1).toNatClampNeg).toInt64) 32)) hx hb dL_law_456 rfl ?_
  refine lv_aload_n hx hb dL_law_457 rfl (lv_at hl 0 rfl) ?_
  refine lv_iload_n hx hb dL_law_458 rfl (lv_at hl 3 rfl) ?_
  refine lv_iconst (v := 2) hx hb dL_law_459 (by decide) ?_
  refine lv_iadd hx hb dL_law_460 ?_
  refine va_sld hx hb hX hbl hbA hS hin.2.2.1 dL_law_461 ?_
  refine lv_i2l (v := (xs (x3 + 2).toNatClampNeg).toInt64) hx hb dL_law_462 rfl ?_
  refine lv_ldc2 hx hb hown (hts _ tb_5_208) dL_law_463 ?_
  refine lv_land hx hb dL_law_466 ?_
  refine lv_lor hx hb dL_law_467 ?_
  refine lv_aload_n hx hb dL_law_468 rfl (lv_at hl 0 rfl) ?_
  refine lv_iload_n hx hb dL_law_469 rfl (lv_at hl 3 rfl) ?_
  refine lv_iconst (v := 3) hx hb dL_law_470 (by decide) ?_
  refine lv_iadd hx hb dL_law_471 ?_
  refine va_sld hx hb hX hbl hbA hS hin.2.2.2.1 dL_law_472 ?_
  obtain ⟨r, S1, S2, h1, h2, hI2⟩ := hop ((sl64 ((xs (x3 + 1).toNatClampNeg).toInt64) 32) ||| (((xs (x3 + 2).toNatClampNeg).toInt64) &&& 4294967295)) (xs (x3 + 3).toNatClampNeg) S hI
  refine cIL hS (runL hC hP hS (As := [.long ((sl64 ((xs (x3 + 1).toNatClampNeg).toInt64) 32) ||| (((xs (x3 + 2).toNatClampNeg).toInt64) &&& 4294967295)), .int (xs (x3 + 3).toNatClampNeg)]) (rest := []) (k_X7_type l G _ _ _ _ _ h1) vy_X7_type sg_0 vc_7 tb_2_68 tb_2_69 tb_2_70 ⟨Nat.le_of_ble_eq_true rfl, Nat.le_of_ble_eq_true rfl⟩ rfl hl.1 rfl (Nat.le_of_ble_eq_true rfl) dL_law_473) (fun H locs hP hS => ?_)
  refine lv_aload_n hx hb dL_law_476 rfl (lv_at hl 2 rfl) ?_
  refine lv_aload_n hx hb dL_law_477 rfl (lv_at hl 0 rfl) ?_
  refine lv_iload_n hx hb dL_law_478 rfl (lv_at hl 3 rfl) ?_
  refine lv_iconst (v := 1) hx hb dL_law_479 (by decide) ?_
  refine lv_iadd hx hb dL_law_480 ?_
  refine va_sld hx hb hX hbl hbA hS hin.2.1 dL_law_481 ?_
  refine lv_i2l (v := (xs (x3 + 1).toNatClampNeg).toInt64) hx hb dL_law_482 rfl ?_
  refine lv_bipush (v := 32) hx hb dL_law_483 (by decide) ?_
  refine lv_lshl (v := (sl64 ((xs (x3 + 1).toNatClampNeg).toInt64) 32)) hx hb dL_law_485 rfl ?_
  refine lv_aload_n hx hb dL_law_486 rfl (lv_at hl 0 rfl) ?_
  refine lv_iload_n hx hb dL_law_487 rfl (lv_at hl 3 rfl) ?_
  refine lv_iconst (v := 2) hx hb dL_law_488 (by decide) ?_
  refine lv_iadd hx hb dL_law_489 ?_
  refine va_sld hx hb hX hbl hbA hS hin.2.2.1 dL_law_490 ?_
  refine lv_i2l (v := (xs (x3 + 2).toNatClampNeg).toInt64) hx hb dL_law_491 rfl ?_
  refine lv_ldc2 hx hb hown (hts _ tb_5_208) dL_law_492 ?_
  refine lv_land hx hb dL_law_495 ?_
  refine lv_lor hx hb dL_law_496 ?_
  refine lv_aload_n hx hb dL_law_497 rfl (lv_at hl 0 rfl) ?_
  refine lv_iload_n hx hb dL_law_498 rfl (lv_at hl 3 rfl) ?_
  refine lv_iconst (v := 3) hx hb dL_law_499 (by decide) ?_
  refine lv_iadd hx hb dL_law_500 ?_
  refine va_sld hx hb hX hbl hbA hS hin.2.2.2.1 dL_law_501 ?_
  refine cIL hS (runL hC hP hS (As := [.long ((sl64 ((xs (x3 + 1).toNatClampNeg).toInt64) 32) ||| (((xs (x3 + 2).toNatClampNeg).toInt64) &&& 4294967295)), .int (xs (x3 + 3).toNatClampNeg)]) (rest := [.int r]) (k_X8_type l G _ _ _ _ _ h2) vy_X8_type sg_30 vc_8 tb_4_219 tb_4_220 tb_4_221 ⟨Nat.le_of_ble_eq_true rfl, Nat.le_of_ble_eq_true rfl⟩ rfl hl.1 rfl (Nat.le_of_ble_eq_true rfl) dL_law_502) (fun H locs hP hS => ?_)
  refine lv_icmp_eq (tgt := 1639) hx hb dL_law_505 (by decide) (fun hc => ?_) (fun hc => absurd rfl hc)
  exact kk _ _ _ hI2 hP hS
set_option maxRecDepth 100000 in
set_option maxHeartbeats 4000000 in
theorem law_channel {I : ST → Prop} (hC : LC p m c s b G) (hX : va_X b L xs s s.heap) (hbl : b < s.heap.size) (hbA : ¬ gA G b) (hin : Hin x3 L) (hP : va_P (gD G) vwCl (cells G S) H) (hS : va_S (gA G) s.heap H locs) (hl : lv_has ls 4 [(0, .ref b), (1, .ref (ad G 0)), (2, .ref (ad G 30)), (3, .int x3)]) (hI : I S) (hop : Pr I (fun S => f_X7_channel S ) (fun S => f_X8_channel S )) (kk : ∀ (S2 : ST) (H : Heap) (locs : List Loc), I S2 → va_P (gD G) vwCl (cells G S2) H → va_S (gA G) s.heap H locs → W p l e room_1 s m #[Value.ref b] below meth c H locs 600000 7302250 Q (F0 m 1639 ls [])) : W p l e room_1 s m #[Value.ref b] below meth c H locs 600000 7302250 Q (F0 m 510 ls []) := by
  obtain ⟨hx, hb, hml, hown, hts⟩ := id hC.1
  refine lv_aload_n hx hb dL_law_510 rfl (lv_at hl 1 rfl) ?_
  obtain ⟨r, S1, S2, h1, h2, hI2⟩ := hop  S hI
  refine cIL hS (runL hC hP hS (As := []) (rest := []) (k_X7_channel l G _ _ _ h1) vy_X7_channel sg_0 vc_7 tb_2_78 tb_2_79 tb_2_80 ⟨Nat.le_of_ble_eq_true rfl, Nat.le_of_ble_eq_true rfl⟩ rfl hl.1 rfl (Nat.le_of_ble_eq_true rfl) dL_law_511) (fun H locs hP hS => ?_)
  refine lv_aload_n hx hb dL_law_514 rfl (lv_at hl 2 rfl) ?_
  refine cIL hS (runL hC hP hS (As := []) (rest := [.int r]) (k_X8_channel l G _ _ _ h2) vy_X8_channel sg_30 vc_8 tb_4_227 tb_4_228 tb_4_229 ⟨Nat.le_of_ble_eq_true rfl, Nat.le_of_ble_eq_true rfl⟩ rfl hl.1 rfl (Nat.le_of_ble_eq_true rfl) dL_law_515) (fun H locs hP hS => ?_)
  refine lv_icmp_eq (tgt := 1639) hx hb dL_law_518 (by decide) (fun hc => ?_) (fun hc => absurd rfl hc)
  exact kk _ _ _ hI2 hP hS
set_option maxRecDepth 100000 in
set_option maxHeartbeats 4000000 in
theorem law_tides {I : ST → Prop} (hC : LC p m c s b G) (hX : va_X b L xs s s.heap) (hbl : b < s.heap.size) (hbA : ¬ gA G b) (hin : Hin x3 L) (hP : va_P (gD G) vwCl (cells G S) H) (hS : va_S (gA G) s.heap H locs) (hl : lv_has ls 4 [(0, .ref b), (1, .ref (ad G 0)), (2, .ref (ad G 30)), (3, .int x3)]) (hI : I S) (hop : Pr I (fun S => f_X7_tides S ) (fun S => f_X8_tides S )) (kk : ∀ (S2 : ST) (H : Heap) (locs : List Loc), I S2 → va_P (gD G) vwCl (cells G S2) H → va_S (gA G) s.heap H locs → W p l e room_1 s m #[Value.ref b] below meth c H locs 600000 7302250 Q (F0 m 1639 ls [])) : W p l e room_1 s m #[Value.ref b] below meth c H locs 600000 7302250 Q (F0 m 523 ls []) := by
  obtain ⟨hx, hb, hml, hown, hts⟩ := id hC.1
  refine lv_aload_n hx hb dL_law_523 rfl (lv_at hl 1 rfl) ?_
  obtain ⟨r, S1, S2, h1, h2, hI2⟩ := hop  S hI
  refine cIL hS (runL hC hP hS (As := []) (rest := []) (k_X7_tides l G _ _ _ h1) vy_X7_tides sg_0 vc_7 tb_2_142 tb_2_143 tb_2_144 ⟨Nat.le_of_ble_eq_true rfl, Nat.le_of_ble_eq_true rfl⟩ rfl hl.1 rfl (Nat.le_of_ble_eq_true rfl) dL_law_524) (fun H locs hP hS => ?_)
  refine lv_aload_n hx hb dL_law_527 rfl (lv_at hl 2 rfl) ?_
  refine cIL hS (runL hC hP hS (As := []) (rest := [.int r]) (k_X8_tides l G _ _ _ h2) vy_X8_tides sg_30 vc_8 tb_5_13 tb_5_14 tb_5_15 ⟨Nat.le_of_ble_eq_true rfl, Nat.le_of_ble_eq_true rfl⟩ rfl hl.1 rfl (Nat.le_of_ble_eq_true rfl) dL_law_528) (fun H locs hP hS => ?_)
  refine lv_icmp_eq (tgt := 1639) hx hb dL_law_531 (by decide) (fun hc => ?_) (fun hc => absurd rfl hc)
  exact kk _ _ _ hI2 hP hS
set_option maxRecDepth 100000 in
set_option maxHeartbeats 4000000 in
theorem law_count {I : ST → Prop} (hC : LC p m c s b G) (hX : va_X b L xs s s.heap) (hbl : b < s.heap.size) (hbA : ¬ gA G b) (hin : Hin x3 L) (hP : va_P (gD G) vwCl (cells G S) H) (hS : va_S (gA G) s.heap H locs) (hl : lv_has ls 4 [(0, .ref b), (1, .ref (ad G 0)), (2, .ref (ad G 30)), (3, .int x3)]) (hI : I S) (hop : ∀ (a0 : Int32) , Pr I (lf (fun S => f_X7_count S a0)) (lf (fun S => f_X8_count S a0))) (kk : ∀ (S2 : ST) (H : Heap) (locs : List Loc), I S2 → va_P (gD G) vwCl (cells G S2) H → va_S (gA G) s.heap H locs → W p l e room_1 s m #[Value.ref b] below meth c H locs 600000 7302250 Q (F0 m 1639 ls [])) : W p l e room_1 s m #[Value.ref b] below meth c H locs 600000 7302250 Q (F0 m 536 ls []) := by
  obtain ⟨hx, hb, hml, hown, hts⟩ := id hC.1
  refine lv_aload_n hx hb dL_law_536 rfl (lv_at hl 1 rfl) ?_
  refine lv_aload_n hx hb dL_law_537 rfl (lv_at hl 0 rfl) ?_
  refine lv_iload_n hx hb dL_law_538 rfl (lv_at hl 3 rfl) ?_
  refine lv_iconst (v := 1) hx hb dL_law_539 (by decide) ?_
  refine lv_iadd hx hb dL_law_540 ?_
  refine va_sld hx hb hX hbl hbA hS hin.2.1 dL_law_541 ?_
  obtain ⟨r, S1, S2, h1, h2, hI2⟩ := hop (xs (x3 + 1).toNatClampNeg) S hI
  obtain ⟨h1, rfl⟩ := lf_some h1
  obtain ⟨h2, rfl⟩ := lf_some h2
  refine cIL hS (runL hC hP hS (As := [.int (xs (x3 + 1).toNatClampNeg)]) (rest := []) (k_X7_count l G _ _ _ h1) vy_X7_count sg_0 vc_7 tb_2_154 tb_2_155 tb_2_156 ⟨Nat.le_of_ble_eq_true rfl, Nat.le_of_ble_eq_true rfl⟩ rfl hl.1 rfl (Nat.le_of_ble_eq_true rfl) dL_law_542) (fun H locs hP hS => ?_)
  refine lv_aload_n hx hb dL_law_545 rfl (lv_at hl 2 rfl) ?_
  refine lv_aload_n hx hb dL_law_546 rfl (lv_at hl 0 rfl) ?_
  refine lv_iload_n hx hb dL_law_547 rfl (lv_at hl 3 rfl) ?_
  refine lv_iconst (v := 1) hx hb dL_law_548 (by decide) ?_
  refine lv_iadd hx hb dL_law_549 ?_
  refine va_sld hx hb hX hbl hbA hS hin.2.1 dL_law_550 ?_
  refine cIL hS (runL hC hP hS (As := [.int (xs (x3 + 1).toNatClampNeg)]) (rest := [.int r]) (k_X8_count l G _ _ _ h2) vy_X8_count sg_30 vc_8 tb_5_17 tb_5_18 tb_5_19 ⟨Nat.le_of_ble_eq_true rfl, Nat.le_of_ble_eq_true rfl⟩ rfl hl.1 rfl (Nat.le_of_ble_eq_true rfl) dL_law_551) (fun H locs hP hS => ?_)
  refine lv_icmp_eq (tgt := 1639) hx hb dL_law_554 (by decide) (fun hc => ?_) (fun hc => absurd rfl hc)
  exact kk _ _ _ hI2 hP hS
set_option maxRecDepth 100000 in
set_option maxHeartbeats 4000000 in
theorem law_tide {I : ST → Prop} (hC : LC p m c s b G) (hX : va_X b L xs s s.heap) (hbl : b < s.heap.size) (hbA : ¬ gA G b) (hin : Hin x3 L) (hP : va_P (gD G) vwCl (cells G S) H) (hS : va_S (gA G) s.heap H locs) (hl : lv_has ls 4 [(0, .ref b), (1, .ref (ad G 0)), (2, .ref (ad G 30)), (3, .int x3)]) (hI : I S) (hop : ∀ (a0 : Int32) , Pr I (lf (fun S => f_X7_tide S a0)) (lf (fun S => f_X8_tide S a0))) (kk : ∀ (S2 : ST) (H : Heap) (locs : List Loc), I S2 → va_P (gD G) vwCl (cells G S2) H → va_S (gA G) s.heap H locs → W p l e room_1 s m #[Value.ref b] below meth c H locs 600000 7302250 Q (F0 m 1639 ls [])) : W p l e room_1 s m #[Value.ref b] below meth c H locs 600000 7302250 Q (F0 m 559 ls []) := by
  obtain ⟨hx, hb, hml, hown, hts⟩ := id hC.1
  refine lv_aload_n hx hb dL_law_559 rfl (lv_at hl 1 rfl) ?_
  refine lv_aload_n hx hb dL_law_560 rfl (lv_at hl 0 rfl) ?_
  refine lv_iload_n hx hb dL_law_561 rfl (lv_at hl 3 rfl) ?_
  refine lv_iconst (v := 1) hx hb dL_law_562 (by decide) ?_
  refine lv_iadd hx hb dL_law_563 ?_
  refine va_sld hx hb hX hbl hbA hS hin.2.1 dL_law_564 ?_
  obtain ⟨r, S1, S2, h1, h2, hI2⟩ := hop (xs (x3 + 1).toNatClampNeg) S hI
  obtain ⟨h1, rfl⟩ := lf_some h1
  obtain ⟨h2, rfl⟩ := lf_some h2
  refine cIL hS (runL hC hP hS (As := [.int (xs (x3 + 1).toNatClampNeg)]) (rest := []) (k_X7_tide l G _ _ _ h1) vy_X7_tide sg_0 vc_7 tb_2_162 tb_2_163 tb_2_164 ⟨Nat.le_of_ble_eq_true rfl, Nat.le_of_ble_eq_true rfl⟩ rfl hl.1 rfl (Nat.le_of_ble_eq_true rfl) dL_law_565) (fun H locs hP hS => ?_)
  refine lv_aload_n hx hb dL_law_568 rfl (lv_at hl 2 rfl) ?_
  refine lv_aload_n hx hb dL_law_569 rfl (lv_at hl 0 rfl) ?_
  refine lv_iload_n hx hb dL_law_570 rfl (lv_at hl 3 rfl) ?_
  refine lv_iconst (v := 1) hx hb dL_law_571 (by decide) ?_
  refine lv_iadd hx hb dL_law_572 ?_
  refine va_sld hx hb hX hbl hbA hS hin.2.1 dL_law_573 ?_
  refine cIL hS (runL hC hP hS (As := [.int (xs (x3 + 1).toNatClampNeg)]) (rest := [.int r]) (k_X8_tide l G _ _ _ h2) vy_X8_tide sg_30 vc_8 tb_5_21 tb_5_22 tb_5_23 ⟨Nat.le_of_ble_eq_true rfl, Nat.le_of_ble_eq_true rfl⟩ rfl hl.1 rfl (Nat.le_of_ble_eq_true rfl) dL_law_574) (fun H locs hP hS => ?_)
  refine lv_icmp_eq (tgt := 1639) hx hb dL_law_577 (by decide) (fun hc => ?_) (fun hc => absurd rfl hc)
  exact kk _ _ _ hI2 hP hS
set_option maxRecDepth 100000 in
set_option maxHeartbeats 4000000 in
theorem law_water {I : ST → Prop} (hC : LC p m c s b G) (hX : va_X b L xs s s.heap) (hbl : b < s.heap.size) (hbA : ¬ gA G b) (hin : Hin x3 L) (hP : va_P (gD G) vwCl (cells G S) H) (hS : va_S (gA G) s.heap H locs) (hl : lv_has ls 4 [(0, .ref b), (1, .ref (ad G 0)), (2, .ref (ad G 30)), (3, .int x3)]) (hI : I S) (hop : ∀ (a0 : Int32) (a1 : Int32) , Pr I (lf (fun S => f_X7_water S a0 a1)) (lf (fun S => f_X8_water S a0 a1))) (kk : ∀ (S2 : ST) (H : Heap) (locs : List Loc), I S2 → va_P (gD G) vwCl (cells G S2) H → va_S (gA G) s.heap H locs → W p l e room_1 s m #[Value.ref b] below meth c H locs 600000 7302250 Q (F0 m 1639 ls [])) : W p l e room_1 s m #[Value.ref b] below meth c H locs 600000 7302250 Q (F0 m 582 ls []) := by
  obtain ⟨hx, hb, hml, hown, hts⟩ := id hC.1
  refine lv_aload_n hx hb dL_law_582 rfl (lv_at hl 1 rfl) ?_
  refine lv_aload_n hx hb dL_law_583 rfl (lv_at hl 0 rfl) ?_
  refine lv_iload_n hx hb dL_law_584 rfl (lv_at hl 3 rfl) ?_
  refine lv_iconst (v := 1) hx hb dL_law_585 (by decide) ?_
  refine lv_iadd hx hb dL_law_586 ?_
  refine va_sld hx hb hX hbl hbA hS hin.2.1 dL_law_587 ?_
  refine lv_aload_n hx hb dL_law_588 rfl (lv_at hl 0 rfl) ?_
  refine lv_iload_n hx hb dL_law_589 rfl (lv_at hl 3 rfl) ?_
  refine lv_iconst (v := 2) hx hb dL_law_590 (by decide) ?_
  refine lv_iadd hx hb dL_law_591 ?_
  refine va_sld hx hb hX hbl hbA hS hin.2.2.1 dL_law_592 ?_
  obtain ⟨r, S1, S2, h1, h2, hI2⟩ := hop (xs (x3 + 1).toNatClampNeg) (xs (x3 + 2).toNatClampNeg) S hI
  obtain ⟨h1, rfl⟩ := lf_some h1
  obtain ⟨h2, rfl⟩ := lf_some h2
  refine cIL hS (runL hC hP hS (As := [.int (xs (x3 + 1).toNatClampNeg), .int (xs (x3 + 2).toNatClampNeg)]) (rest := []) (k_X7_water l G _ _ _ _ h1) vy_X7_water sg_0 vc_7 tb_2_177 tb_2_178 tb_2_179 ⟨Nat.le_of_ble_eq_true rfl, Nat.le_of_ble_eq_true rfl⟩ rfl hl.1 rfl (Nat.le_of_ble_eq_true rfl) dL_law_593) (fun H locs hP hS => ?_)
  refine lv_aload_n hx hb dL_law_596 rfl (lv_at hl 2 rfl) ?_
  refine lv_aload_n hx hb dL_law_597 rfl (lv_at hl 0 rfl) ?_
  refine lv_iload_n hx hb dL_law_598 rfl (lv_at hl 3 rfl) ?_
  refine lv_iconst (v := 1) hx hb dL_law_599 (by decide) ?_
  refine lv_iadd hx hb dL_law_600 ?_
  refine va_sld hx hb hX hbl hbA hS hin.2.1 dL_law_601 ?_
  refine lv_aload_n hx hb dL_law_602 rfl (lv_at hl 0 rfl) ?_
  refine lv_iload_n hx hb dL_law_603 rfl (lv_at hl 3 rfl) ?_
  refine lv_iconst (v := 2) hx hb dL_law_604 (by decide) ?_
  refine lv_iadd hx hb dL_law_605 ?_
  refine va_sld hx hb hX hbl hbA hS hin.2.2.1 dL_law_606 ?_
  refine cIL hS (runL hC hP hS (As := [.int (xs (x3 + 1).toNatClampNeg), .int (xs (x3 + 2).toNatClampNeg)]) (rest := [.int r]) (k_X8_water l G _ _ _ _ h2) vy_X8_water sg_30 vc_8 tb_5_33 tb_5_34 tb_5_35 ⟨Nat.le_of_ble_eq_true rfl, Nat.le_of_ble_eq_true rfl⟩ rfl hl.1 rfl (Nat.le_of_ble_eq_true rfl) dL_law_607) (fun H locs hP hS => ?_)
  refine lv_icmp_eq (tgt := 1639) hx hb dL_law_610 (by decide) (fun hc => ?_) (fun hc => absurd rfl hc)
  exact kk _ _ _ hI2 hP hS
set_option maxRecDepth 100000 in
set_option maxHeartbeats 4000000 in
theorem law_sinks {I : ST → Prop} (hC : LC p m c s b G) (hX : va_X b L xs s s.heap) (hbl : b < s.heap.size) (hbA : ¬ gA G b) (hin : Hin x3 L) (hP : va_P (gD G) vwCl (cells G S) H) (hS : va_S (gA G) s.heap H locs) (hl : lv_has ls 4 [(0, .ref b), (1, .ref (ad G 0)), (2, .ref (ad G 30)), (3, .int x3)]) (hI : I S) (hop : ∀ (a0 : Int32) (a1 : Int32) (a2 : Int32) (a3 : Int32) , Pr I (fun S => f_X7_sinks S a0 a1 a2 a3) (lf (fun S => f_X8_sinks S a0 a1 a2 a3))) (kk : ∀ (S2 : ST) (H : Heap) (locs : List Loc), I S2 → va_P (gD G) vwCl (cells G S2) H → va_S (gA G) s.heap H locs → W p l e room_1 s m #[Value.ref b] below meth c H locs 600000 7302250 Q (F0 m 1639 ls [])) : W p l e room_1 s m #[Value.ref b] below meth c H locs 600000 7302250 Q (F0 m 615 ls []) := by
  obtain ⟨hx, hb, hml, hown, hts⟩ := id hC.1
  refine lv_aload_n hx hb dL_law_615 rfl (lv_at hl 1 rfl) ?_
  refine lv_aload_n hx hb dL_law_616 rfl (lv_at hl 0 rfl) ?_
  refine lv_iload_n hx hb dL_law_617 rfl (lv_at hl 3 rfl) ?_
  refine lv_iconst (v := 1) hx hb dL_law_618 (by decide) ?_
  refine lv_iadd hx hb dL_law_619 ?_
  refine va_sld hx hb hX hbl hbA hS hin.2.1 dL_law_620 ?_
  refine lv_aload_n hx hb dL_law_621 rfl (lv_at hl 0 rfl) ?_
  refine lv_iload_n hx hb dL_law_622 rfl (lv_at hl 3 rfl) ?_
  refine lv_iconst (v := 2) hx hb dL_law_623 (by decide) ?_
  refine lv_iadd hx hb dL_law_624 ?_
  refine va_sld hx hb hX hbl hbA hS hin.2.2.1 dL_law_625 ?_
  refine lv_aload_n hx hb dL_law_626 rfl (lv_at hl 0 rfl) ?_
  refine lv_iload_n hx hb dL_law_627 rfl (lv_at hl 3 rfl) ?_
  refine lv_iconst (v := 3) hx hb dL_law_628 (by decide) ?_
  refine lv_iadd hx hb dL_law_629 ?_
  refine va_sld hx hb hX hbl hbA hS hin.2.2.2.1 dL_law_630 ?_
  refine lv_aload_n hx hb dL_law_631 rfl (lv_at hl 0 rfl) ?_
  refine lv_iload_n hx hb dL_law_632 rfl (lv_at hl 3 rfl) ?_
  refine lv_iconst (v := 4) hx hb dL_law_633 (by decide) ?_
  refine lv_iadd hx hb dL_law_634 ?_
  refine va_sld hx hb hX hbl hbA hS hin.2.2.2.2.1 dL_law_635 ?_
  obtain ⟨r, S1, S2, h1, h2, hI2⟩ := hop (xs (x3 + 1).toNatClampNeg) (xs (x3 + 2).toNatClampNeg) (xs (x3 + 3).toNatClampNeg) (xs (x3 + 4).toNatClampNeg) S hI
  obtain ⟨h2, rfl⟩ := lf_some h2
  refine cIL hS (runL hC hP hS (As := [.int (xs (x3 + 1).toNatClampNeg), .int (xs (x3 + 2).toNatClampNeg), .int (xs (x3 + 3).toNatClampNeg), .int (xs (x3 + 4).toNatClampNeg)]) (rest := []) (k_X7_sinks l G _ _ _ _ _ _ _ h1) vy_X7_sinks sg_0 vc_7 tb_2_186 tb_2_187 tb_2_188 ⟨Nat.le_of_ble_eq_true rfl, Nat.le_of_ble_eq_true rfl⟩ rfl hl.1 rfl (Nat.le_of_ble_eq_true rfl) dL_law_636) (fun H locs hP hS => ?_)
  refine lv_aload_n hx hb dL_law_639 rfl (lv_at hl 2 rfl) ?_
  refine lv_aload_n hx hb dL_law_640 rfl (lv_at hl 0 rfl) ?_
  refine lv_iload_n hx hb dL_law_641 rfl (lv_at hl 3 rfl) ?_
  refine lv_iconst (v := 1) hx hb dL_law_642 (by decide) ?_
  refine lv_iadd hx hb dL_law_643 ?_
  refine va_sld hx hb hX hbl hbA hS hin.2.1 dL_law_644 ?_
  refine lv_aload_n hx hb dL_law_645 rfl (lv_at hl 0 rfl) ?_
  refine lv_iload_n hx hb dL_law_646 rfl (lv_at hl 3 rfl) ?_
  refine lv_iconst (v := 2) hx hb dL_law_647 (by decide) ?_
  refine lv_iadd hx hb dL_law_648 ?_
  refine va_sld hx hb hX hbl hbA hS hin.2.2.1 dL_law_649 ?_
  refine lv_aload_n hx hb dL_law_650 rfl (lv_at hl 0 rfl) ?_
  refine lv_iload_n hx hb dL_law_651 rfl (lv_at hl 3 rfl) ?_
  refine lv_iconst (v := 3) hx hb dL_law_652 (by decide) ?_
  refine lv_iadd hx hb dL_law_653 ?_
  refine va_sld hx hb hX hbl hbA hS hin.2.2.2.1 dL_law_654 ?_
  refine lv_aload_n hx hb dL_law_655 rfl (lv_at hl 0 rfl) ?_
  refine lv_iload_n hx hb dL_law_656 rfl (lv_at hl 3 rfl) ?_
  refine lv_iconst (v := 4) hx hb dL_law_657 (by decide) ?_
  refine lv_iadd hx hb dL_law_658 ?_
  refine va_sld hx hb hX hbl hbA hS hin.2.2.2.2.1 dL_law_659 ?_
  refine cIL hS (runL hC hP hS (As := [.int (xs (x3 + 1).toNatClampNeg), .int (xs (x3 + 2).toNatClampNeg), .int (xs (x3 + 3).toNatClampNeg), .int (xs (x3 + 4).toNatClampNeg)]) (rest := [.int r]) (k_X8_sinks l G _ _ _ _ _ _ h2) vy_X8_sinks sg_30 vc_8 tb_5_42 tb_5_43 tb_5_44 ⟨Nat.le_of_ble_eq_true rfl, Nat.le_of_ble_eq_true rfl⟩ rfl hl.1 rfl (Nat.le_of_ble_eq_true rfl) dL_law_660) (fun H locs hP hS => ?_)
  refine lv_icmp_eq (tgt := 1639) hx hb dL_law_663 (by decide) (fun hc => ?_) (fun hc => absurd rfl hc)
  exact kk _ _ _ hI2 hP hS
set_option maxRecDepth 100000 in
set_option maxHeartbeats 4000000 in
theorem law_under {I : ST → Prop} (hC : LC p m c s b G) (hX : va_X b L xs s s.heap) (hbl : b < s.heap.size) (hbA : ¬ gA G b) (hin : Hin x3 L) (hP : va_P (gD G) vwCl (cells G S) H) (hS : va_S (gA G) s.heap H locs) (hl : lv_has ls 4 [(0, .ref b), (1, .ref (ad G 0)), (2, .ref (ad G 30)), (3, .int x3)]) (hI : I S) (hop : ∀ (a0 : Int32) (a1 : Int32) (a2 : Int32) (a3 : Int32) , Pr I (fun S => f_X7_under S a0 a1 a2 a3) (lf (fun S => f_X8_under S a0 a1 a2 a3))) (kk : ∀ (S2 : ST) (H : Heap) (locs : List Loc), I S2 → va_P (gD G) vwCl (cells G S2) H → va_S (gA G) s.heap H locs → W p l e room_1 s m #[Value.ref b] below meth c H locs 600000 7302250 Q (F0 m 1639 ls [])) : W p l e room_1 s m #[Value.ref b] below meth c H locs 600000 7302250 Q (F0 m 668 ls []) := by
  obtain ⟨hx, hb, hml, hown, hts⟩ := id hC.1
  refine lv_aload_n hx hb dL_law_668 rfl (lv_at hl 1 rfl) ?_
  refine lv_aload_n hx hb dL_law_669 rfl (lv_at hl 0 rfl) ?_
  refine lv_iload_n hx hb dL_law_670 rfl (lv_at hl 3 rfl) ?_
  refine lv_iconst (v := 1) hx hb dL_law_671 (by decide) ?_
  refine lv_iadd hx hb dL_law_672 ?_
  refine va_sld hx hb hX hbl hbA hS hin.2.1 dL_law_673 ?_
  refine lv_aload_n hx hb dL_law_674 rfl (lv_at hl 0 rfl) ?_
  refine lv_iload_n hx hb dL_law_675 rfl (lv_at hl 3 rfl) ?_
  refine lv_iconst (v := 2) hx hb dL_law_676 (by decide) ?_
  refine lv_iadd hx hb dL_law_677 ?_
  refine va_sld hx hb hX hbl hbA hS hin.2.2.1 dL_law_678 ?_
  refine lv_aload_n hx hb dL_law_679 rfl (lv_at hl 0 rfl) ?_
  refine lv_iload_n hx hb dL_law_680 rfl (lv_at hl 3 rfl) ?_
  refine lv_iconst (v := 3) hx hb dL_law_681 (by decide) ?_
  refine lv_iadd hx hb dL_law_682 ?_
  refine va_sld hx hb hX hbl hbA hS hin.2.2.2.1 dL_law_683 ?_
  refine lv_aload_n hx hb dL_law_684 rfl (lv_at hl 0 rfl) ?_
  refine lv_iload_n hx hb dL_law_685 rfl (lv_at hl 3 rfl) ?_
  refine lv_iconst (v := 4) hx hb dL_law_686 (by decide) ?_
  refine lv_iadd hx hb dL_law_687 ?_
  refine va_sld hx hb hX hbl hbA hS hin.2.2.2.2.1 dL_law_688 ?_
  obtain ⟨r, S1, S2, h1, h2, hI2⟩ := hop (xs (x3 + 1).toNatClampNeg) (xs (x3 + 2).toNatClampNeg) (xs (x3 + 3).toNatClampNeg) (xs (x3 + 4).toNatClampNeg) S hI
  obtain ⟨h2, rfl⟩ := lf_some h2
  refine cIL hS (runL hC hP hS (As := [.int (xs (x3 + 1).toNatClampNeg), .int (xs (x3 + 2).toNatClampNeg), .int (xs (x3 + 3).toNatClampNeg), .int (xs (x3 + 4).toNatClampNeg)]) (rest := []) (k_X7_under l G _ _ _ _ _ _ _ h1) vy_X7_under sg_0 vc_7 tb_2_229 tb_2_230 tb_2_231 ⟨Nat.le_of_ble_eq_true rfl, Nat.le_of_ble_eq_true rfl⟩ rfl hl.1 rfl (Nat.le_of_ble_eq_true rfl) dL_law_689) (fun H locs hP hS => ?_)
  refine lv_aload_n hx hb dL_law_692 rfl (lv_at hl 2 rfl) ?_
  refine lv_aload_n hx hb dL_law_693 rfl (lv_at hl 0 rfl) ?_
  refine lv_iload_n hx hb dL_law_694 rfl (lv_at hl 3 rfl) ?_
  refine lv_iconst (v := 1) hx hb dL_law_695 (by decide) ?_
  refine lv_iadd hx hb dL_law_696 ?_
  refine va_sld hx hb hX hbl hbA hS hin.2.1 dL_law_697 ?_
  refine lv_aload_n hx hb dL_law_698 rfl (lv_at hl 0 rfl) ?_
  refine lv_iload_n hx hb dL_law_699 rfl (lv_at hl 3 rfl) ?_
  refine lv_iconst (v := 2) hx hb dL_law_700 (by decide) ?_
  refine lv_iadd hx hb dL_law_701 ?_
  refine va_sld hx hb hX hbl hbA hS hin.2.2.1 dL_law_702 ?_
  refine lv_aload_n hx hb dL_law_703 rfl (lv_at hl 0 rfl) ?_
  refine lv_iload_n hx hb dL_law_704 rfl (lv_at hl 3 rfl) ?_
  refine lv_iconst (v := 3) hx hb dL_law_705 (by decide) ?_
  refine lv_iadd hx hb dL_law_706 ?_
  refine va_sld hx hb hX hbl hbA hS hin.2.2.2.1 dL_law_707 ?_
  refine lv_aload_n hx hb dL_law_708 rfl (lv_at hl 0 rfl) ?_
  refine lv_iload_n hx hb dL_law_709 rfl (lv_at hl 3 rfl) ?_
  refine lv_iconst (v := 4) hx hb dL_law_710 (by decide) ?_
  refine lv_iadd hx hb dL_law_711 ?_
  refine va_sld hx hb hX hbl hbA hS hin.2.2.2.2.1 dL_law_712 ?_
  refine cIL hS (runL hC hP hS (As := [.int (xs (x3 + 1).toNatClampNeg), .int (xs (x3 + 2).toNatClampNeg), .int (xs (x3 + 3).toNatClampNeg), .int (xs (x3 + 4).toNatClampNeg)]) (rest := [.int r]) (k_X8_under l G _ _ _ _ _ _ h2) vy_X8_under sg_30 vc_8 tb_5_54 tb_5_55 tb_5_56 ⟨Nat.le_of_ble_eq_true rfl, Nat.le_of_ble_eq_true rfl⟩ rfl hl.1 rfl (Nat.le_of_ble_eq_true rfl) dL_law_713) (fun H locs hP hS => ?_)
  refine lv_icmp_eq (tgt := 1639) hx hb dL_law_716 (by decide) (fun hc => ?_) (fun hc => absurd rfl hc)
  exact kk _ _ _ hI2 hP hS
set_option maxRecDepth 100000 in
set_option maxHeartbeats 4000000 in
theorem law_need {I : ST → Prop} (hC : LC p m c s b G) (hX : va_X b L xs s s.heap) (hbl : b < s.heap.size) (hbA : ¬ gA G b) (hin : Hin x3 L) (hP : va_P (gD G) vwCl (cells G S) H) (hS : va_S (gA G) s.heap H locs) (hl : lv_has ls 4 [(0, .ref b), (1, .ref (ad G 0)), (2, .ref (ad G 30)), (3, .int x3)]) (hI : I S) (hop : ∀ (a0 : Int32) , Pr I (fun S => f_X7_need S a0) (lf (fun S => f_X8_need S a0))) (kk : ∀ (S2 : ST) (H : Heap) (locs : List Loc), I S2 → va_P (gD G) vwCl (cells G S2) H → va_S (gA G) s.heap H locs → W p l e room_1 s m #[Value.ref b] below meth c H locs 600000 7302250 Q (F0 m 1639 ls [])) : W p l e room_1 s m #[Value.ref b] below meth c H locs 600000 7302250 Q (F0 m 721 ls []) := by
  obtain ⟨hx, hb, hml, hown, hts⟩ := id hC.1
  refine lv_aload_n hx hb dL_law_721 rfl (lv_at hl 1 rfl) ?_
  refine lv_aload_n hx hb dL_law_722 rfl (lv_at hl 0 rfl) ?_
  refine lv_iload_n hx hb dL_law_723 rfl (lv_at hl 3 rfl) ?_
  refine lv_iconst (v := 1) hx hb dL_law_724 (by decide) ?_
  refine lv_iadd hx hb dL_law_725 ?_
  refine va_sld hx hb hX hbl hbA hS hin.2.1 dL_law_726 ?_
  obtain ⟨r, S1, S2, h1, h2, hI2⟩ := hop (xs (x3 + 1).toNatClampNeg) S hI
  obtain ⟨h2, rfl⟩ := lf_some h2
  refine cIL hS (runL hC hP hS (As := [.int (xs (x3 + 1).toNatClampNeg)]) (rest := []) (k_X7_need l G _ _ _ _ h1) vy_X7_need sg_0 vc_7 tb_3_3 tb_3_4 tb_3_5 ⟨Nat.le_of_ble_eq_true rfl, Nat.le_of_ble_eq_true rfl⟩ rfl hl.1 rfl (Nat.le_of_ble_eq_true rfl) dL_law_727) (fun H locs hP hS => ?_)
  refine lv_aload_n hx hb dL_law_730 rfl (lv_at hl 2 rfl) ?_
  refine lv_aload_n hx hb dL_law_731 rfl (lv_at hl 0 rfl) ?_
  refine lv_iload_n hx hb dL_law_732 rfl (lv_at hl 3 rfl) ?_
  refine lv_iconst (v := 1) hx hb dL_law_733 (by decide) ?_
  refine lv_iadd hx hb dL_law_734 ?_
  refine va_sld hx hb hX hbl hbA hS hin.2.1 dL_law_735 ?_
  refine cIL hS (runL hC hP hS (As := [.int (xs (x3 + 1).toNatClampNeg)]) (rest := [.int r]) (k_X8_need l G _ _ _ h2) vy_X8_need sg_30 vc_8 tb_5_62 tb_5_63 tb_5_64 ⟨Nat.le_of_ble_eq_true rfl, Nat.le_of_ble_eq_true rfl⟩ rfl hl.1 rfl (Nat.le_of_ble_eq_true rfl) dL_law_736) (fun H locs hP hS => ?_)
  refine lv_icmp_eq (tgt := 1639) hx hb dL_law_739 (by decide) (fun hc => ?_) (fun hc => absurd rfl hc)
  exact kk _ _ _ hI2 hP hS
set_option maxRecDepth 100000 in
set_option maxHeartbeats 4000000 in
theorem law_run {I : ST → Prop} (hC : LC p m c s b G) (hX : va_X b L xs s s.heap) (hbl : b < s.heap.size) (hbA : ¬ gA G b) (hin : Hin x3 L) (hP : va_P (gD G) vwCl (cells G S) H) (hS : va_S (gA G) s.heap H locs) (hl : lv_has ls 4 [(0, .ref b), (1, .ref (ad G 0)), (2, .ref (ad G 30)), (3, .int x3)]) (hI : I S) (hop : ∀ (a0 : Int32) (a1 : Int32) (a2 : Int32) , Pr I (fun S => f_X7_run S a0 a1 a2) (fun S => f_X8_run S a0 a1 a2)) (kk : ∀ (S2 : ST) (H : Heap) (locs : List Loc), I S2 → va_P (gD G) vwCl (cells G S2) H → va_S (gA G) s.heap H locs → W p l e room_1 s m #[Value.ref b] below meth c H locs 600000 7302250 Q (F0 m 1639 ls [])) : W p l e room_1 s m #[Value.ref b] below meth c H locs 600000 7302250 Q (F0 m 744 ls []) := by
  obtain ⟨hx, hb, hml, hown, hts⟩ := id hC.1
  refine lv_aload_n hx hb dL_law_744 rfl (lv_at hl 1 rfl) ?_
  refine lv_aload_n hx hb dL_law_745 rfl (lv_at hl 0 rfl) ?_
  refine lv_iload_n hx hb dL_law_746 rfl (lv_at hl 3 rfl) ?_
  refine lv_iconst (v := 1) hx hb dL_law_747 (by decide) ?_
  refine lv_iadd hx hb dL_law_748 ?_
  refine va_sld hx hb hX hbl hbA hS hin.2.1 dL_law_749 ?_
  refine lv_aload_n hx hb dL_law_750 rfl (lv_at hl 0 rfl) ?_
  refine lv_iload_n hx hb dL_law_751 rfl (lv_at hl 3 rfl) ?_
  refine lv_iconst (v := 2) hx hb dL_law_752 (by decide) ?_
  refine lv_iadd hx hb dL_law_753 ?_
  refine va_sld hx hb hX hbl hbA hS hin.2.2.1 dL_law_754 ?_
  refine lv_aload_n hx hb dL_law_755 rfl (lv_at hl 0 rfl) ?_
  refine lv_iload_n hx hb dL_law_756 rfl (lv_at hl 3 rfl) ?_
  refine lv_iconst (v := 3) hx hb dL_law_757 (by decide) ?_
  refine lv_iadd hx hb dL_law_758 ?_
  refine va_sld hx hb hX hbl hbA hS hin.2.2.2.1 dL_law_759 ?_
  obtain ⟨r, S1, S2, h1, h2, hI2⟩ := hop (xs (x3 + 1).toNatClampNeg) (xs (x3 + 2).toNatClampNeg) (xs (x3 + 3).toNatClampNeg) S hI
  refine cIL hS (runL hC hP hS (As := [.int (xs (x3 + 1).toNatClampNeg), .int (xs (x3 + 2).toNatClampNeg), .int (xs (x3 + 3).toNatClampNeg)]) (rest := []) (k_X7_run l G _ _ _ _ _ _ h1) vy_X7_run sg_0 vc_7 tb_3_7 tb_3_8 tb_3_9 ⟨Nat.le_of_ble_eq_true rfl, Nat.le_of_ble_eq_true rfl⟩ rfl hl.1 rfl (Nat.le_of_ble_eq_true rfl) dL_law_760) (fun H locs hP hS => ?_)
  refine lv_aload_n hx hb dL_law_763 rfl (lv_at hl 2 rfl) ?_
  refine lv_aload_n hx hb dL_law_764 rfl (lv_at hl 0 rfl) ?_
  refine lv_iload_n hx hb dL_law_765 rfl (lv_at hl 3 rfl) ?_
  refine lv_iconst (v := 1) hx hb dL_law_766 (by decide) ?_
  refine lv_iadd hx hb dL_law_767 ?_
  refine va_sld hx hb hX hbl hbA hS hin.2.1 dL_law_768 ?_
  refine lv_aload_n hx hb dL_law_769 rfl (lv_at hl 0 rfl) ?_
  refine lv_iload_n hx hb dL_law_770 rfl (lv_at hl 3 rfl) ?_
  refine lv_iconst (v := 2) hx hb dL_law_771 (by decide) ?_
  refine lv_iadd hx hb dL_law_772 ?_
  refine va_sld hx hb hX hbl hbA hS hin.2.2.1 dL_law_773 ?_
  refine lv_aload_n hx hb dL_law_774 rfl (lv_at hl 0 rfl) ?_
  refine lv_iload_n hx hb dL_law_775 rfl (lv_at hl 3 rfl) ?_
  refine lv_iconst (v := 3) hx hb dL_law_776 (by decide) ?_
  refine lv_iadd hx hb dL_law_777 ?_
  refine va_sld hx hb hX hbl hbA hS hin.2.2.2.1 dL_law_778 ?_
  refine cIL hS (runL hC hP hS (As := [.int (xs (x3 + 1).toNatClampNeg), .int (xs (x3 + 2).toNatClampNeg), .int (xs (x3 + 3).toNatClampNeg)]) (rest := [.int r]) (k_X8_run l G _ _ _ _ _ _ h2) vy_X8_run sg_30 vc_8 tb_5_70 tb_5_71 tb_5_72 ⟨Nat.le_of_ble_eq_true rfl, Nat.le_of_ble_eq_true rfl⟩ rfl hl.1 rfl (Nat.le_of_ble_eq_true rfl) dL_law_779) (fun H locs hP hS => ?_)
  refine lv_icmp_eq (tgt := 1639) hx hb dL_law_782 (by decide) (fun hc => ?_) (fun hc => absurd rfl hc)
  exact kk _ _ _ hI2 hP hS
set_option maxRecDepth 100000 in
set_option maxHeartbeats 4000000 in
theorem law_least {I : ST → Prop} (hC : LC p m c s b G) (hX : va_X b L xs s s.heap) (hbl : b < s.heap.size) (hbA : ¬ gA G b) (hin : Hin x3 L) (hP : va_P (gD G) vwCl (cells G S) H) (hS : va_S (gA G) s.heap H locs) (hl : lv_has ls 4 [(0, .ref b), (1, .ref (ad G 0)), (2, .ref (ad G 30)), (3, .int x3)]) (hI : I S) (hop : ∀ (a0 : Int32) (a1 : Int32) (a2 : Int32) , Pr I (fun S => f_X7_least S a0 a1 a2) (fun S => f_X8_least S a0 a1 a2)) (kk : ∀ (S2 : ST) (H : Heap) (locs : List Loc), I S2 → va_P (gD G) vwCl (cells G S2) H → va_S (gA G) s.heap H locs → W p l e room_1 s m #[Value.ref b] below meth c H locs 600000 7302250 Q (F0 m 1639 ls [])) : W p l e room_1 s m #[Value.ref b] below meth c H locs 600000 7302250 Q (F0 m 787 ls []) := by
  obtain ⟨hx, hb, hml, hown, hts⟩ := id hC.1
  refine lv_aload_n hx hb dL_law_787 rfl (lv_at hl 1 rfl) ?_
  refine lv_aload_n hx hb dL_law_788 rfl (lv_at hl 0 rfl) ?_
  refine lv_iload_n hx hb dL_law_789 rfl (lv_at hl 3 rfl) ?_
  refine lv_iconst (v := 1) hx hb dL_law_790 (by decide) ?_
  refine lv_iadd hx hb dL_law_791 ?_
  refine va_sld hx hb hX hbl hbA hS hin.2.1 dL_law_792 ?_
  refine lv_aload_n hx hb dL_law_793 rfl (lv_at hl 0 rfl) ?_
  refine lv_iload_n hx hb dL_law_794 rfl (lv_at hl 3 rfl) ?_
  refine lv_iconst (v := 2) hx hb dL_law_795 (by decide) ?_
  refine lv_iadd hx hb dL_law_796 ?_
  refine va_sld hx hb hX hbl hbA hS hin.2.2.1 dL_law_797 ?_
  refine lv_aload_n hx hb dL_law_798 rfl (lv_at hl 0 rfl) ?_
  refine lv_iload_n hx hb dL_law_799 rfl (lv_at hl 3 rfl) ?_
  refine lv_iconst (v := 3) hx hb dL_law_800 (by decide) ?_
  refine lv_iadd hx hb dL_law_801 ?_
  refine va_sld hx hb hX hbl hbA hS hin.2.2.2.1 dL_law_802 ?_
  obtain ⟨r, S1, S2, h1, h2, hI2⟩ := hop (xs (x3 + 1).toNatClampNeg) (xs (x3 + 2).toNatClampNeg) (xs (x3 + 3).toNatClampNeg) S hI
  refine cIL hS (runL hC hP hS (As := [.int (xs (x3 + 1).toNatClampNeg), .int (xs (x3 + 2).toNatClampNeg), .int (xs (x3 + 3).toNatClampNeg)]) (rest := []) (k_X7_least l G _ _ _ _ _ _ h1) vy_X7_least sg_0 vc_7 tb_3_32 tb_3_33 tb_3_34 ⟨Nat.le_of_ble_eq_true rfl, Nat.le_of_ble_eq_true rfl⟩ rfl hl.1 rfl (Nat.le_of_ble_eq_true rfl) dL_law_803) (fun H locs hP hS => ?_)
  refine lv_aload_n hx hb dL_law_806 rfl (lv_at hl 2 rfl) ?_
  refine lv_aload_n hx hb dL_law_807 rfl (lv_at hl 0 rfl) ?_
  refine lv_iload_n hx hb dL_law_808 rfl (lv_at hl 3 rfl) ?_
  refine lv_iconst (v := 1) hx hb dL_law_809 (by decide) ?_
  refine lv_iadd hx hb dL_law_810 ?_
  refine va_sld hx hb hX hbl hbA hS hin.2.1 dL_law_811 ?_
  refine lv_aload_n hx hb dL_law_812 rfl (lv_at hl 0 rfl) ?_
  refine lv_iload_n hx hb dL_law_813 rfl (lv_at hl 3 rfl) ?_
  refine lv_iconst (v := 2) hx hb dL_law_814 (by decide) ?_
  refine lv_iadd hx hb dL_law_815 ?_
  refine va_sld hx hb hX hbl hbA hS hin.2.2.1 dL_law_816 ?_
  refine lv_aload_n hx hb dL_law_817 rfl (lv_at hl 0 rfl) ?_
  refine lv_iload_n hx hb dL_law_818 rfl (lv_at hl 3 rfl) ?_
  refine lv_iconst (v := 3) hx hb dL_law_819 (by decide) ?_
  refine lv_iadd hx hb dL_law_820 ?_
  refine va_sld hx hb hX hbl hbA hS hin.2.2.2.1 dL_law_821 ?_
  refine cIL hS (runL hC hP hS (As := [.int (xs (x3 + 1).toNatClampNeg), .int (xs (x3 + 2).toNatClampNeg), .int (xs (x3 + 3).toNatClampNeg)]) (rest := [.int r]) (k_X8_least l G _ _ _ _ _ _ h2) vy_X8_least sg_30 vc_8 tb_5_84 tb_5_85 tb_5_86 ⟨Nat.le_of_ble_eq_true rfl, Nat.le_of_ble_eq_true rfl⟩ rfl hl.1 rfl (Nat.le_of_ble_eq_true rfl) dL_law_822) (fun H locs hP hS => ?_)
  refine lv_icmp_eq (tgt := 1639) hx hb dL_law_825 (by decide) (fun hc => ?_) (fun hc => absurd rfl hc)
  exact kk _ _ _ hI2 hP hS
set_option maxRecDepth 100000 in
set_option maxHeartbeats 4000000 in
theorem law_starts {I : ST → Prop} (hC : LC p m c s b G) (hX : va_X b L xs s s.heap) (hbl : b < s.heap.size) (hbA : ¬ gA G b) (hin : Hin x3 L) (hP : va_P (gD G) vwCl (cells G S) H) (hS : va_S (gA G) s.heap H locs) (hl : lv_has ls 4 [(0, .ref b), (1, .ref (ad G 0)), (2, .ref (ad G 30)), (3, .int x3)]) (hI : I S) (hop : ∀ (a0 : Int32) (a1 : Int32) , Pr I (fun S => f_X7_starts S a0 a1) (fun S => f_X8_starts S a0 a1)) (kk : ∀ (S2 : ST) (H : Heap) (locs : List Loc), I S2 → va_P (gD G) vwCl (cells G S2) H → va_S (gA G) s.heap H locs → W p l e room_1 s m #[Value.ref b] below meth c H locs 600000 7302250 Q (F0 m 1639 ls [])) : W p l e room_1 s m #[Value.ref b] below meth c H locs 600000 7302250 Q (F0 m 830 ls []) := by
  obtain ⟨hx, hb, hml, hown, hts⟩ := id hC.1
  refine lv_aload_n hx hb dL_law_830 rfl (lv_at hl 1 rfl) ?_
  refine lv_aload_n hx hb dL_law_831 rfl (lv_at hl 0 rfl) ?_
  refine lv_iload_n hx hb dL_law_832 rfl (lv_at hl 3 rfl) ?_
  refine lv_iconst (v := 1) hx hb dL_law_833 (by decide) ?_
  refine lv_iadd hx hb dL_law_834 ?_
  refine va_sld hx hb hX hbl hbA hS hin.2.1 dL_law_835 ?_
  refine lv_aload_n hx hb dL_law_836 rfl (lv_at hl 0 rfl) ?_
  refine lv_iload_n hx hb dL_law_837 rfl (lv_at hl 3 rfl) ?_
  refine lv_iconst (v := 2) hx hb dL_law_838 (by decide) ?_
  refine lv_iadd hx hb dL_law_839 ?_
  refine va_sld hx hb hX hbl hbA hS hin.2.2.1 dL_law_840 ?_
  obtain ⟨r, S1, S2, h1, h2, hI2⟩ := hop (xs (x3 + 1).toNatClampNeg) (xs (x3 + 2).toNatClampNeg) S hI
  refine cIL hS (runL hC hP hS (As := [.int (xs (x3 + 1).toNatClampNeg), .int (xs (x3 + 2).toNatClampNeg)]) (rest := []) (k_X7_starts l G _ _ _ _ _ h1) vy_X7_starts sg_0 vc_7 tb_3_118 tb_3_119 tb_3_120 ⟨Nat.le_of_ble_eq_true rfl, Nat.le_of_ble_eq_true rfl⟩ rfl hl.1 rfl (Nat.le_of_ble_eq_true rfl) dL_law_841) (fun H locs hP hS => ?_)
  refine lv_aload_n hx hb dL_law_844 rfl (lv_at hl 2 rfl) ?_
  refine lv_aload_n hx hb dL_law_845 rfl (lv_at hl 0 rfl) ?_
  refine lv_iload_n hx hb dL_law_846 rfl (lv_at hl 3 rfl) ?_
  refine lv_iconst (v := 1) hx hb dL_law_847 (by decide) ?_
  refine lv_iadd hx hb dL_law_848 ?_
  refine va_sld hx hb hX hbl hbA hS hin.2.1 dL_law_849 ?_
  refine lv_aload_n hx hb dL_law_850 rfl (lv_at hl 0 rfl) ?_
  refine lv_iload_n hx hb dL_law_851 rfl (lv_at hl 3 rfl) ?_
  refine lv_iconst (v := 2) hx hb dL_law_852 (by decide) ?_
  refine lv_iadd hx hb dL_law_853 ?_
  refine va_sld hx hb hX hbl hbA hS hin.2.2.1 dL_law_854 ?_
  refine cIL hS (runL hC hP hS (As := [.int (xs (x3 + 1).toNatClampNeg), .int (xs (x3 + 2).toNatClampNeg)]) (rest := [.int r]) (k_X8_starts l G _ _ _ _ _ h2) vy_X8_starts sg_30 vc_8 tb_5_93 tb_5_94 tb_5_95 ⟨Nat.le_of_ble_eq_true rfl, Nat.le_of_ble_eq_true rfl⟩ rfl hl.1 rfl (Nat.le_of_ble_eq_true rfl) dL_law_855) (fun H locs hP hS => ?_)
  refine lv_icmp_eq (tgt := 1639) hx hb dL_law_858 (by decide) (fun hc => ?_) (fun hc => absurd rfl hc)
  exact kk _ _ _ hI2 hP hS
set_option maxRecDepth 100000 in
set_option maxHeartbeats 4000000 in
theorem law_deepest {I : ST → Prop} (hC : LC p m c s b G) (hX : va_X b L xs s s.heap) (hbl : b < s.heap.size) (hbA : ¬ gA G b) (hin : Hin x3 L) (hP : va_P (gD G) vwCl (cells G S) H) (hS : va_S (gA G) s.heap H locs) (hl : lv_has ls 4 [(0, .ref b), (1, .ref (ad G 0)), (2, .ref (ad G 30)), (3, .int x3)]) (hI : I S) (hop : ∀ (a0 : Int32) (a1 : Int32) , Pr I (fun S => f_X7_deepest S a0 a1) (fun S => f_X8_deepest S a0 a1)) (kk : ∀ (S2 : ST) (H : Heap) (locs : List Loc), I S2 → va_P (gD G) vwCl (cells G S2) H → va_S (gA G) s.heap H locs → W p l e room_1 s m #[Value.ref b] below meth c H locs 600000 7302250 Q (F0 m 1639 ls [])) : W p l e room_1 s m #[Value.ref b] below meth c H locs 600000 7302250 Q (F0 m 863 ls []) := by
  obtain ⟨hx, hb, hml, hown, hts⟩ := id hC.1
  refine lv_aload_n hx hb dL_law_863 rfl (lv_at hl 1 rfl) ?_
  refine lv_aload_n hx hb dL_law_864 rfl (lv_at hl 0 rfl) ?_
  refine lv_iload_n hx hb dL_law_865 rfl (lv_at hl 3 rfl) ?_
  refine lv_iconst (v := 1) hx hb dL_law_866 (by decide) ?_
  refine lv_iadd hx hb dL_law_867 ?_
  refine va_sld hx hb hX hbl hbA hS hin.2.1 dL_law_868 ?_
  refine lv_aload_n hx hb dL_law_869 rfl (lv_at hl 0 rfl) ?_
  refine lv_iload_n hx hb dL_law_870 rfl (lv_at hl 3 rfl) ?_
  refine lv_iconst (v := 2) hx hb dL_law_871 (by decide) ?_
  refine lv_iadd hx hb dL_law_872 ?_
  refine va_sld hx hb hX hbl hbA hS hin.2.2.1 dL_law_873 ?_
  obtain ⟨r, S1, S2, h1, h2, hI2⟩ := hop (xs (x3 + 1).toNatClampNeg) (xs (x3 + 2).toNatClampNeg) S hI
  refine cIL hS (runL hC hP hS (As := [.int (xs (x3 + 1).toNatClampNeg), .int (xs (x3 + 2).toNatClampNeg)]) (rest := []) (k_X7_deepest l G _ _ _ _ _ h1) vy_X7_deepest sg_0 vc_7 tb_3_140 tb_3_141 tb_3_142 ⟨Nat.le_of_ble_eq_true rfl, Nat.le_of_ble_eq_true rfl⟩ rfl hl.1 rfl (Nat.le_of_ble_eq_true rfl) dL_law_874) (fun H locs hP hS => ?_)
  refine lv_aload_n hx hb dL_law_877 rfl (lv_at hl 2 rfl) ?_
  refine lv_aload_n hx hb dL_law_878 rfl (lv_at hl 0 rfl) ?_
  refine lv_iload_n hx hb dL_law_879 rfl (lv_at hl 3 rfl) ?_
  refine lv_iconst (v := 1) hx hb dL_law_880 (by decide) ?_
  refine lv_iadd hx hb dL_law_881 ?_
  refine va_sld hx hb hX hbl hbA hS hin.2.1 dL_law_882 ?_
  refine lv_aload_n hx hb dL_law_883 rfl (lv_at hl 0 rfl) ?_
  refine lv_iload_n hx hb dL_law_884 rfl (lv_at hl 3 rfl) ?_
  refine lv_iconst (v := 2) hx hb dL_law_885 (by decide) ?_
  refine lv_iadd hx hb dL_law_886 ?_
  refine va_sld hx hb hX hbl hbA hS hin.2.2.1 dL_law_887 ?_
  refine cIL hS (runL hC hP hS (As := [.int (xs (x3 + 1).toNatClampNeg), .int (xs (x3 + 2).toNatClampNeg)]) (rest := [.int r]) (k_X8_deepest l G _ _ _ _ _ h2) vy_X8_deepest sg_30 vc_8 tb_5_102 tb_5_103 tb_5_104 ⟨Nat.le_of_ble_eq_true rfl, Nat.le_of_ble_eq_true rfl⟩ rfl hl.1 rfl (Nat.le_of_ble_eq_true rfl) dL_law_888) (fun H locs hP hS => ?_)
  refine lv_icmp_eq (tgt := 1639) hx hb dL_law_891 (by decide) (fun hc => ?_) (fun hc => absurd rfl hc)
  exact kk _ _ _ hI2 hP hS
set_option maxRecDepth 100000 in
set_option maxHeartbeats 4000000 in
theorem law_bank {I : ST → Prop} (hC : LC p m c s b G) (hX : va_X b L xs s s.heap) (hbl : b < s.heap.size) (hbA : ¬ gA G b) (hin : Hin x3 L) (hP : va_P (gD G) vwCl (cells G S) H) (hS : va_S (gA G) s.heap H locs) (hl : lv_has ls 4 [(0, .ref b), (1, .ref (ad G 0)), (2, .ref (ad G 30)), (3, .int x3)]) (hI : I S) (hop : ∀ (a0 : Int32) (a1 : Int32) (a2 : Int32) , Pr I (lf (fun S => f_X7_bank S a0 a1 a2)) (lf (fun S => f_X8_bank S a0 a1 a2))) (kk : ∀ (S2 : ST) (H : Heap) (locs : List Loc), I S2 → va_P (gD G) vwCl (cells G S2) H → va_S (gA G) s.heap H locs → W p l e room_1 s m #[Value.ref b] below meth c H locs 600000 7302250 Q (F0 m 1639 ls [])) : W p l e room_1 s m #[Value.ref b] below meth c H locs 600000 7302250 Q (F0 m 896 ls []) := by
  obtain ⟨hx, hb, hml, hown, hts⟩ := id hC.1
  refine lv_aload_n hx hb dL_law_896 rfl (lv_at hl 1 rfl) ?_
  refine lv_aload_n hx hb dL_law_897 rfl (lv_at hl 0 rfl) ?_
  refine lv_iload_n hx hb dL_law_898 rfl (lv_at hl 3 rfl) ?_
  refine lv_iconst (v := 1) hx hb dL_law_899 (by decide) ?_
  refine lv_iadd hx hb dL_law_900 ?_
  refine va_sld hx hb hX hbl hbA hS hin.2.1 dL_law_901 ?_
  refine lv_aload_n hx hb dL_law_902 rfl (lv_at hl 0 rfl) ?_
  refine lv_iload_n hx hb dL_law_903 rfl (lv_at hl 3 rfl) ?_
  refine lv_iconst (v := 2) hx hb dL_law_904 (by decide) ?_
  refine lv_iadd hx hb dL_law_905 ?_
  refine va_sld hx hb hX hbl hbA hS hin.2.2.1 dL_law_906 ?_
  refine lv_aload_n hx hb dL_law_907 rfl (lv_at hl 0 rfl) ?_
  refine lv_iload_n hx hb dL_law_908 rfl (lv_at hl 3 rfl) ?_
  refine lv_iconst (v := 3) hx hb dL_law_909 (by decide) ?_
  refine lv_iadd hx hb dL_law_910 ?_
  refine va_sld hx hb hX hbl hbA hS hin.2.2.2.1 dL_law_911 ?_
  obtain ⟨r, S1, S2, h1, h2, hI2⟩ := hop (xs (x3 + 1).toNatClampNeg) (xs (x3 + 2).toNatClampNeg) (xs (x3 + 3).toNatClampNeg) S hI
  obtain ⟨h1, rfl⟩ := lf_some h1
  obtain ⟨h2, rfl⟩ := lf_some h2
  refine cIL hS (runL hC hP hS (As := [.int (xs (x3 + 1).toNatClampNeg), .int (xs (x3 + 2).toNatClampNeg), .int (xs (x3 + 3).toNatClampNeg)]) (rest := []) (k_X7_bank l G _ _ _ _ _ h1) vy_X7_bank sg_0 vc_7 tb_3_147 tb_3_148 tb_3_149 ⟨Nat.le_of_ble_eq_true rfl, Nat.le_of_ble_eq_true rfl⟩ rfl hl.1 rfl (Nat.le_of_ble_eq_true rfl) dL_law_912) (fun H locs hP hS => ?_)
  refine lv_aload_n hx hb dL_law_915 rfl (lv_at hl 2 rfl) ?_
  refine lv_aload_n hx hb dL_law_916 rfl (lv_at hl 0 rfl) ?_
  refine lv_iload_n hx hb dL_law_917 rfl (lv_at hl 3 rfl) ?_
  refine lv_iconst (v := 1) hx hb dL_law_918 (by decide) ?_
  refine lv_iadd hx hb dL_law_919 ?_
  refine va_sld hx hb hX hbl hbA hS hin.2.1 dL_law_920 ?_
  refine lv_aload_n hx hb dL_law_921 rfl (lv_at hl 0 rfl) ?_
  refine lv_iload_n hx hb dL_law_922 rfl (lv_at hl 3 rfl) ?_
  refine lv_iconst (v := 2) hx hb dL_law_923 (by decide) ?_
  refine lv_iadd hx hb dL_law_924 ?_
  refine va_sld hx hb hX hbl hbA hS hin.2.2.1 dL_law_925 ?_
  refine lv_aload_n hx hb dL_law_926 rfl (lv_at hl 0 rfl) ?_
  refine lv_iload_n hx hb dL_law_927 rfl (lv_at hl 3 rfl) ?_
  refine lv_iconst (v := 3) hx hb dL_law_928 (by decide) ?_
  refine lv_iadd hx hb dL_law_929 ?_
  refine va_sld hx hb hX hbl hbA hS hin.2.2.2.1 dL_law_930 ?_
  refine cIL hS (runL hC hP hS (As := [.int (xs (x3 + 1).toNatClampNeg), .int (xs (x3 + 2).toNatClampNeg), .int (xs (x3 + 3).toNatClampNeg)]) (rest := [.int r]) (k_X8_bank l G _ _ _ _ _ h2) vy_X8_bank sg_30 vc_8 tb_5_106 tb_5_107 tb_5_108 ⟨Nat.le_of_ble_eq_true rfl, Nat.le_of_ble_eq_true rfl⟩ rfl hl.1 rfl (Nat.le_of_ble_eq_true rfl) dL_law_931) (fun H locs hP hS => ?_)
  refine lv_icmp_eq (tgt := 1639) hx hb dL_law_934 (by decide) (fun hc => ?_) (fun hc => absurd rfl hc)
  exact kk _ _ _ hI2 hP hS
set_option maxRecDepth 100000 in
set_option maxHeartbeats 4000000 in
theorem law_nearest {I : ST → Prop} (hC : LC p m c s b G) (hX : va_X b L xs s s.heap) (hbl : b < s.heap.size) (hbA : ¬ gA G b) (hin : Hin x3 L) (hP : va_P (gD G) vwCl (cells G S) H) (hS : va_S (gA G) s.heap H locs) (hl : lv_has ls 4 [(0, .ref b), (1, .ref (ad G 0)), (2, .ref (ad G 30)), (3, .int x3)]) (hI : I S) (hop : ∀ (a0 : Int32) (a1 : Int32) , Pr I (lf (fun S => f_X7_nearest S a0 a1)) (lf (fun S => f_X8_nearest S a0 a1))) (kk : ∀ (S2 : ST) (H : Heap) (locs : List Loc), I S2 → va_P (gD G) vwCl (cells G S2) H → va_S (gA G) s.heap H locs → W p l e room_1 s m #[Value.ref b] below meth c H locs 600000 7302250 Q (F0 m 1639 ls [])) : W p l e room_1 s m #[Value.ref b] below meth c H locs 600000 7302250 Q (F0 m 939 ls []) := by
  obtain ⟨hx, hb, hml, hown, hts⟩ := id hC.1
  refine lv_aload_n hx hb dL_law_939 rfl (lv_at hl 1 rfl) ?_
  refine lv_aload_n hx hb dL_law_940 rfl (lv_at hl 0 rfl) ?_
  refine lv_iload_n hx hb dL_law_941 rfl (lv_at hl 3 rfl) ?_
  refine lv_iconst (v := 1) hx hb dL_law_942 (by decide) ?_
  refine lv_iadd hx hb dL_law_943 ?_
  refine va_sld hx hb hX hbl hbA hS hin.2.1 dL_law_944 ?_
  refine lv_aload_n hx hb dL_law_945 rfl (lv_at hl 0 rfl) ?_
  refine lv_iload_n hx hb dL_law_946 rfl (lv_at hl 3 rfl) ?_
  refine lv_iconst (v := 2) hx hb dL_law_947 (by decide) ?_
  refine lv_iadd hx hb dL_law_948 ?_
  refine va_sld hx hb hX hbl hbA hS hin.2.2.1 dL_law_949 ?_
  obtain ⟨r, S1, S2, h1, h2, hI2⟩ := hop (xs (x3 + 1).toNatClampNeg) (xs (x3 + 2).toNatClampNeg) S hI
  obtain ⟨h1, rfl⟩ := lf_some h1
  obtain ⟨h2, rfl⟩ := lf_some h2
  refine cIL hS (runL hC hP hS (As := [.int (xs (x3 + 1).toNatClampNeg), .int (xs (x3 + 2).toNatClampNeg)]) (rest := []) (k_X7_nearest l G _ _ _ _ h1) vy_X7_nearest sg_0 vc_7 tb_3_156 tb_3_157 tb_3_158 ⟨Nat.le_of_ble_eq_true rfl, Nat.le_of_ble_eq_true rfl⟩ rfl hl.1 rfl (Nat.le_of_ble_eq_true rfl) dL_law_950) (fun H locs hP hS => ?_)
  refine lv_aload_n hx hb dL_law_953 rfl (lv_at hl 2 rfl) ?_
  refine lv_aload_n hx hb dL_law_954 rfl (lv_at hl 0 rfl) ?_
  refine lv_iload_n hx hb dL_law_955 rfl (lv_at hl 3 rfl) ?_
  refine lv_iconst (v := 1) hx hb dL_law_956 (by decide) ?_
  refine lv_iadd hx hb dL_law_957 ?_
  refine va_sld hx hb hX hbl hbA hS hin.2.1 dL_law_958 ?_
  refine lv_aload_n hx hb dL_law_959 rfl (lv_at hl 0 rfl) ?_
  refine lv_iload_n hx hb dL_law_960 rfl (lv_at hl 3 rfl) ?_
  refine lv_iconst (v := 2) hx hb dL_law_961 (by decide) ?_
  refine lv_iadd hx hb dL_law_962 ?_
  refine va_sld hx hb hX hbl hbA hS hin.2.2.1 dL_law_963 ?_
  refine cIL hS (runL hC hP hS (As := [.int (xs (x3 + 1).toNatClampNeg), .int (xs (x3 + 2).toNatClampNeg)]) (rest := [.int r]) (k_X8_nearest l G _ _ _ _ h2) vy_X8_nearest sg_30 vc_8 tb_5_114 tb_5_115 tb_5_116 ⟨Nat.le_of_ble_eq_true rfl, Nat.le_of_ble_eq_true rfl⟩ rfl hl.1 rfl (Nat.le_of_ble_eq_true rfl) dL_law_964) (fun H locs hP hS => ?_)
  refine lv_icmp_eq (tgt := 1639) hx hb dL_law_967 (by decide) (fun hc => ?_) (fun hc => absurd rfl hc)
  exact kk _ _ _ hI2 hP hS
set_option maxRecDepth 100000 in
set_option maxHeartbeats 4000000 in
theorem law_steered {I : ST → Prop} (hC : LC p m c s b G) (hX : va_X b L xs s s.heap) (hbl : b < s.heap.size) (hbA : ¬ gA G b) (hin : Hin x3 L) (hP : va_P (gD G) vwCl (cells G S) H) (hS : va_S (gA G) s.heap H locs) (hl : lv_has ls 4 [(0, .ref b), (1, .ref (ad G 0)), (2, .ref (ad G 30)), (3, .int x3)]) (hI : I S) (hop : ∀ (a0 : Int32) (a1 : Int32) , Pr I (fun S => f_X7_steered S a0 a1) (fun S => f_X8_steered S a0 a1)) (kk : ∀ (S2 : ST) (H : Heap) (locs : List Loc), I S2 → va_P (gD G) vwCl (cells G S2) H → va_S (gA G) s.heap H locs → W p l e room_1 s m #[Value.ref b] below meth c H locs 600000 7302250 Q (F0 m 1639 ls [])) : W p l e room_1 s m #[Value.ref b] below meth c H locs 600000 7302250 Q (F0 m 972 ls []) := by
  obtain ⟨hx, hb, hml, hown, hts⟩ := id hC.1
  refine lv_aload_n hx hb dL_law_972 rfl (lv_at hl 1 rfl) ?_
  refine lv_aload_n hx hb dL_law_973 rfl (lv_at hl 0 rfl) ?_
  refine lv_iload_n hx hb dL_law_974 rfl (lv_at hl 3 rfl) ?_
  refine lv_iconst (v := 1) hx hb dL_law_975 (by decide) ?_
  refine lv_iadd hx hb dL_law_976 ?_
  refine va_sld hx hb hX hbl hbA hS hin.2.1 dL_law_977 ?_
  refine lv_aload_n hx hb dL_law_978 rfl (lv_at hl 0 rfl) ?_
  refine lv_iload_n hx hb dL_law_979 rfl (lv_at hl 3 rfl) ?_
  refine lv_iconst (v := 2) hx hb dL_law_980 (by decide) ?_
  refine lv_iadd hx hb dL_law_981 ?_
  refine va_sld hx hb hX hbl hbA hS hin.2.2.1 dL_law_982 ?_
  obtain ⟨r, S1, S2, h1, h2, hI2⟩ := hop (xs (x3 + 1).toNatClampNeg) (xs (x3 + 2).toNatClampNeg) S hI
  refine cIL hS (runL hC hP hS (As := [.int (xs (x3 + 1).toNatClampNeg), .int (xs (x3 + 2).toNatClampNeg)]) (rest := []) (k_X7_steered l G _ _ _ _ _ h1) vy_X7_steered sg_0 vc_7 tb_3_160 tb_3_161 tb_3_162 ⟨Nat.le_of_ble_eq_true rfl, Nat.le_of_ble_eq_true rfl⟩ rfl hl.1 rfl (Nat.le_of_ble_eq_true rfl) dL_law_983) (fun H locs hP hS => ?_)
  refine lv_aload_n hx hb dL_law_986 rfl (lv_at hl 2 rfl) ?_
  refine lv_aload_n hx hb dL_law_987 rfl (lv_at hl 0 rfl) ?_
  refine lv_iload_n hx hb dL_law_988 rfl (lv_at hl 3 rfl) ?_
  refine lv_iconst (v := 1) hx hb dL_law_989 (by decide) ?_
  refine lv_iadd hx hb dL_law_990 ?_
  refine va_sld hx hb hX hbl hbA hS hin.2.1 dL_law_991 ?_
  refine lv_aload_n hx hb dL_law_992 rfl (lv_at hl 0 rfl) ?_
  refine lv_iload_n hx hb dL_law_993 rfl (lv_at hl 3 rfl) ?_
  refine lv_iconst (v := 2) hx hb dL_law_994 (by decide) ?_
  refine lv_iadd hx hb dL_law_995 ?_
  refine va_sld hx hb hX hbl hbA hS hin.2.2.1 dL_law_996 ?_
  refine cIL hS (runL hC hP hS (As := [.int (xs (x3 + 1).toNatClampNeg), .int (xs (x3 + 2).toNatClampNeg)]) (rest := [.int r]) (k_X8_steered l G _ _ _ _ _ h2) vy_X8_steered sg_30 vc_8 tb_5_118 tb_5_119 tb_5_120 ⟨Nat.le_of_ble_eq_true rfl, Nat.le_of_ble_eq_true rfl⟩ rfl hl.1 rfl (Nat.le_of_ble_eq_true rfl) dL_law_997) (fun H locs hP hS => ?_)
  refine lv_icmp_eq (tgt := 1639) hx hb dL_law_1000 (by decide) (fun hc => ?_) (fun hc => absurd rfl hc)
  exact kk _ _ _ hI2 hP hS
set_option maxRecDepth 100000 in
set_option maxHeartbeats 4000000 in
theorem law_may {I : ST → Prop} (hC : LC p m c s b G) (hX : va_X b L xs s s.heap) (hbl : b < s.heap.size) (hbA : ¬ gA G b) (hin : Hin x3 L) (hP : va_P (gD G) vwCl (cells G S) H) (hS : va_S (gA G) s.heap H locs) (hl : lv_has ls 4 [(0, .ref b), (1, .ref (ad G 0)), (2, .ref (ad G 30)), (3, .int x3)]) (hI : I S) (hop : ∀ (a0 : Int32) (a1 : Int32) (a2 : Int32) (a3 : Int32) (a4 : Int32) , Pr I (lf (fun S => f_X7_may S a0 a1 a2 a3 a4)) (lf (fun S => f_X8_may S a0 a1 a2 a3 a4))) (kk : ∀ (S2 : ST) (H : Heap) (locs : List Loc), I S2 → va_P (gD G) vwCl (cells G S2) H → va_S (gA G) s.heap H locs → W p l e room_1 s m #[Value.ref b] below meth c H locs 600000 7302250 Q (F0 m 1639 ls [])) : W p l e room_1 s m #[Value.ref b] below meth c H locs 600000 7302250 Q (F0 m 1005 ls []) := by
  obtain ⟨hx, hb, hml, hown, hts⟩ := id hC.1
  refine lv_aload_n hx hb dL_law_1005 rfl (lv_at hl 1 rfl) ?_
  refine lv_aload_n hx hb dL_law_1006 rfl (lv_at hl 0 rfl) ?_
  refine lv_iload_n hx hb dL_law_1007 rfl (lv_at hl 3 rfl) ?_
  refine lv_iconst (v := 1) hx hb dL_law_1008 (by decide) ?_
  refine lv_iadd hx hb dL_law_1009 ?_
  refine va_sld hx hb hX hbl hbA hS hin.2.1 dL_law_1010 ?_
  refine lv_aload_n hx hb dL_law_1011 rfl (lv_at hl 0 rfl) ?_
  refine lv_iload_n hx hb dL_law_1012 rfl (lv_at hl 3 rfl) ?_
  refine lv_iconst (v := 2) hx hb dL_law_1013 (by decide) ?_
  refine lv_iadd hx hb dL_law_1014 ?_
  refine va_sld hx hb hX hbl hbA hS hin.2.2.1 dL_law_1015 ?_
  refine lv_aload_n hx hb dL_law_1016 rfl (lv_at hl 0 rfl) ?_
  refine lv_iload_n hx hb dL_law_1017 rfl (lv_at hl 3 rfl) ?_
  refine lv_iconst (v := 3) hx hb dL_law_1018 (by decide) ?_
  refine lv_iadd hx hb dL_law_1019 ?_
  refine va_sld hx hb hX hbl hbA hS hin.2.2.2.1 dL_law_1020 ?_
  refine lv_aload_n hx hb dL_law_1021 rfl (lv_at hl 0 rfl) ?_
  refine lv_iload_n hx hb dL_law_1022 rfl (lv_at hl 3 rfl) ?_
  refine lv_iconst (v := 4) hx hb dL_law_1023 (by decide) ?_
  refine lv_iadd hx hb dL_law_1024 ?_
  refine va_sld hx hb hX hbl hbA hS hin.2.2.2.2.1 dL_law_1025 ?_
  refine lv_aload_n hx hb dL_law_1026 rfl (lv_at hl 0 rfl) ?_
  refine lv_iload_n hx hb dL_law_1027 rfl (lv_at hl 3 rfl) ?_
  refine lv_iconst (v := 5) hx hb dL_law_1028 (by decide) ?_
  refine lv_iadd hx hb dL_law_1029 ?_
  refine va_sld hx hb hX hbl hbA hS hin.2.2.2.2.2.1 dL_law_1030 ?_
  obtain ⟨r, S1, S2, h1, h2, hI2⟩ := hop (xs (x3 + 1).toNatClampNeg) (xs (x3 + 2).toNatClampNeg) (xs (x3 + 3).toNatClampNeg) (xs (x3 + 4).toNatClampNeg) (xs (x3 + 5).toNatClampNeg) S hI
  obtain ⟨h1, rfl⟩ := lf_some h1
  obtain ⟨h2, rfl⟩ := lf_some h2
  refine cIL hS (runL hC hP hS (As := [.int (xs (x3 + 1).toNatClampNeg), .int (xs (x3 + 2).toNatClampNeg), .int (xs (x3 + 3).toNatClampNeg), .int (xs (x3 + 4).toNatClampNeg), .int (xs (x3 + 5).toNatClampNeg)]) (rest := []) (k_X7_may l G _ _ _ _ _ _ _ h1) vy_X7_may sg_0 vc_7 tb_3_170 tb_3_171 tb_3_172 ⟨Nat.le_of_ble_eq_true rfl, Nat.le_of_ble_eq_true rfl⟩ rfl hl.1 rfl (Nat.le_of_ble_eq_true rfl) dL_law_1031) (fun H locs hP hS => ?_)
  refine lv_aload_n hx hb dL_law_1034 rfl (lv_at hl 2 rfl) ?_
  refine lv_aload_n hx hb dL_law_1035 rfl (lv_at hl 0 rfl) ?_
  refine lv_iload_n hx hb dL_law_1036 rfl (lv_at hl 3 rfl) ?_
  refine lv_iconst (v := 1) hx hb dL_law_1037 (by decide) ?_
  refine lv_iadd hx hb dL_law_1038 ?_
  refine va_sld hx hb hX hbl hbA hS hin.2.1 dL_law_1039 ?_
  refine lv_aload_n hx hb dL_law_1040 rfl (lv_at hl 0 rfl) ?_
  refine lv_iload_n hx hb dL_law_1041 rfl (lv_at hl 3 rfl) ?_
  refine lv_iconst (v := 2) hx hb dL_law_1042 (by decide) ?_
  refine lv_iadd hx hb dL_law_1043 ?_
  refine va_sld hx hb hX hbl hbA hS hin.2.2.1 dL_law_1044 ?_
  refine lv_aload_n hx hb dL_law_1045 rfl (lv_at hl 0 rfl) ?_
  refine lv_iload_n hx hb dL_law_1046 rfl (lv_at hl 3 rfl) ?_
  refine lv_iconst (v := 3) hx hb dL_law_1047 (by decide) ?_
  refine lv_iadd hx hb dL_law_1048 ?_
  refine va_sld hx hb hX hbl hbA hS hin.2.2.2.1 dL_law_1049 ?_
  refine lv_aload_n hx hb dL_law_1050 rfl (lv_at hl 0 rfl) ?_
  refine lv_iload_n hx hb dL_law_1051 rfl (lv_at hl 3 rfl) ?_
  refine lv_iconst (v := 4) hx hb dL_law_1052 (by decide) ?_
  refine lv_iadd hx hb dL_law_1053 ?_
  refine va_sld hx hb hX hbl hbA hS hin.2.2.2.2.1 dL_law_1054 ?_
  refine lv_aload_n hx hb dL_law_1055 rfl (lv_at hl 0 rfl) ?_
  refine lv_iload_n hx hb dL_law_1056 rfl (lv_at hl 3 rfl) ?_
  refine lv_iconst (v := 5) hx hb dL_law_1057 (by decide) ?_
  refine lv_iadd hx hb dL_law_1058 ?_
  refine va_sld hx hb hX hbl hbA hS hin.2.2.2.2.2.1 dL_law_1059 ?_
  refine cIL hS (runL hC hP hS (As := [.int (xs (x3 + 1).toNatClampNeg), .int (xs (x3 + 2).toNatClampNeg), .int (xs (x3 + 3).toNatClampNeg), .int (xs (x3 + 4).toNatClampNeg), .int (xs (x3 + 5).toNatClampNeg)]) (rest := [.int r]) (k_X8_may l G _ _ _ _ _ _ _ h2) vy_X8_may sg_30 vc_8 tb_5_124 tb_5_125 tb_5_126 ⟨Nat.le_of_ble_eq_true rfl, Nat.le_of_ble_eq_true rfl⟩ rfl hl.1 rfl (Nat.le_of_ble_eq_true rfl) dL_law_1060) (fun H locs hP hS => ?_)
  refine lv_icmp_eq (tgt := 1639) hx hb dL_law_1063 (by decide) (fun hc => ?_) (fun hc => absurd rfl hc)
  exact kk _ _ _ hI2 hP hS
set_option maxRecDepth 100000 in
set_option maxHeartbeats 4000000 in
theorem law_meet {I : ST → Prop} (hC : LC p m c s b G) (hX : va_X b L xs s s.heap) (hbl : b < s.heap.size) (hbA : ¬ gA G b) (hin : Hin x3 L) (hP : va_P (gD G) vwCl (cells G S) H) (hS : va_S (gA G) s.heap H locs) (hl : lv_has ls 4 [(0, .ref b), (1, .ref (ad G 0)), (2, .ref (ad G 30)), (3, .int x3)]) (hI : I S) (hop : ∀ (a0 : Int32) (a1 : Int32) (a2 : Int32) (a3 : Int32) (a4 : Int32) (a5 : Int32) , Pr I (lf (fun S => f_X7_meet S a0 a1 a2 a3 a4 a5)) (lf (fun S => f_X8_meet S a0 a1 a2 a3 a4 a5))) (kk : ∀ (S2 : ST) (H : Heap) (locs : List Loc), I S2 → va_P (gD G) vwCl (cells G S2) H → va_S (gA G) s.heap H locs → W p l e room_1 s m #[Value.ref b] below meth c H locs 600000 7302250 Q (F0 m 1639 ls [])) : W p l e room_1 s m #[Value.ref b] below meth c H locs 600000 7302250 Q (F0 m 1068 ls []) := by
  obtain ⟨hx, hb, hml, hown, hts⟩ := id hC.1
  refine lv_aload_n hx hb dL_law_1068 rfl (lv_at hl 1 rfl) ?_
  refine lv_aload_n hx hb dL_law_1069 rfl (lv_at hl 0 rfl) ?_
  refine lv_iload_n hx hb dL_law_1070 rfl (lv_at hl 3 rfl) ?_
  refine lv_iconst (v := 1) hx hb dL_law_1071 (by decide) ?_
  refine lv_iadd hx hb dL_law_1072 ?_
  refine va_sld hx hb hX hbl hbA hS hin.2.1 dL_law_1073 ?_
  refine lv_aload_n hx hb dL_law_1074 rfl (lv_at hl 0 rfl) ?_
  refine lv_iload_n hx hb dL_law_1075 rfl (lv_at hl 3 rfl) ?_
  refine lv_iconst (v := 2) hx hb dL_law_1076 (by decide) ?_
  refine lv_iadd hx hb dL_law_1077 ?_
  refine va_sld hx hb hX hbl hbA hS hin.2.2.1 dL_law_1078 ?_
  refine lv_aload_n hx hb dL_law_1079 rfl (lv_at hl 0 rfl) ?_
  refine lv_iload_n hx hb dL_law_1080 rfl (lv_at hl 3 rfl) ?_
  refine lv_iconst (v := 3) hx hb dL_law_1081 (by decide) ?_
  refine lv_iadd hx hb dL_law_1082 ?_
  refine va_sld hx hb hX hbl hbA hS hin.2.2.2.1 dL_law_1083 ?_
  refine lv_aload_n hx hb dL_law_1084 rfl (lv_at hl 0 rfl) ?_
  refine lv_iload_n hx hb dL_law_1085 rfl (lv_at hl 3 rfl) ?_
  refine lv_iconst (v := 4) hx hb dL_law_1086 (by decide) ?_
  refine lv_iadd hx hb dL_law_1087 ?_
  refine va_sld hx hb hX hbl hbA hS hin.2.2.2.2.1 dL_law_1088 ?_
  refine lv_aload_n hx hb dL_law_1089 rfl (lv_at hl 0 rfl) ?_
  refine lv_iload_n hx hb dL_law_1090 rfl (lv_at hl 3 rfl) ?_
  refine lv_iconst (v := 5) hx hb dL_law_1091 (by decide) ?_
  refine lv_iadd hx hb dL_law_1092 ?_
  refine va_sld hx hb hX hbl hbA hS hin.2.2.2.2.2.1 dL_law_1093 ?_
  refine lv_aload_n hx hb dL_law_1094 rfl (lv_at hl 0 rfl) ?_
  refine lv_iload_n hx hb dL_law_1095 rfl (lv_at hl 3 rfl) ?_
  refine lv_bipush (v := 6) hx hb dL_law_1096 (by decide) ?_
  refine lv_iadd hx hb dL_law_1098 ?_
  refine va_sld hx hb hX hbl hbA hS hin.2.2.2.2.2.2 dL_law_1099 ?_
  obtain ⟨r, S1, S2, h1, h2, hI2⟩ := hop (xs (x3 + 1).toNatClampNeg) (xs (x3 + 2).toNatClampNeg) (xs (x3 + 3).toNatClampNeg) (xs (x3 + 4).toNatClampNeg) (xs (x3 + 5).toNatClampNeg) (xs (x3 + 6).toNatClampNeg) S hI
  obtain ⟨h1, rfl⟩ := lf_some h1
  obtain ⟨h2, rfl⟩ := lf_some h2
  refine cIL hS (runL hC hP hS (As := [.int (xs (x3 + 1).toNatClampNeg), .int (xs (x3 + 2).toNatClampNeg), .int (xs (x3 + 3).toNatClampNeg), .int (xs (x3 + 4).toNatClampNeg), .int (xs (x3 + 5).toNatClampNeg), .int (xs (x3 + 6).toNatClampNeg)]) (rest := []) (k_X7_meet l G _ _ _ _ _ _ _ _ h1) vy_X7_meet sg_0 vc_7 tb_3_178 tb_3_179 tb_3_180 ⟨Nat.le_of_ble_eq_true rfl, Nat.le_of_ble_eq_true rfl⟩ rfl hl.1 rfl (Nat.le_of_ble_eq_true rfl) dL_law_1100) (fun H locs hP hS => ?_)
  refine lv_aload_n hx hb dL_law_1103 rfl (lv_at hl 2 rfl) ?_
  refine lv_aload_n hx hb dL_law_1104 rfl (lv_at hl 0 rfl) ?_
  refine lv_iload_n hx hb dL_law_1105 rfl (lv_at hl 3 rfl) ?_
  refine lv_iconst (v := 1) hx hb dL_law_1106 (by decide) ?_
  refine lv_iadd hx hb dL_law_1107 ?_
  refine va_sld hx hb hX hbl hbA hS hin.2.1 dL_law_1108 ?_
  refine lv_aload_n hx hb dL_law_1109 rfl (lv_at hl 0 rfl) ?_
  refine lv_iload_n hx hb dL_law_1110 rfl (lv_at hl 3 rfl) ?_
  refine lv_iconst (v := 2) hx hb dL_law_1111 (by decide) ?_
  refine lv_iadd hx hb dL_law_1112 ?_
  refine va_sld hx hb hX hbl hbA hS hin.2.2.1 dL_law_1113 ?_
  refine lv_aload_n hx hb dL_law_1114 rfl (lv_at hl 0 rfl) ?_
  refine lv_iload_n hx hb dL_law_1115 rfl (lv_at hl 3 rfl) ?_
  refine lv_iconst (v := 3) hx hb dL_law_1116 (by decide) ?_
  refine lv_iadd hx hb dL_law_1117 ?_
  refine va_sld hx hb hX hbl hbA hS hin.2.2.2.1 dL_law_1118 ?_
  refine lv_aload_n hx hb dL_law_1119 rfl (lv_at hl 0 rfl) ?_
  refine lv_iload_n hx hb dL_law_1120 rfl (lv_at hl 3 rfl) ?_
  refine lv_iconst (v := 4) hx hb dL_law_1121 (by decide) ?_
  refine lv_iadd hx hb dL_law_1122 ?_
  refine va_sld hx hb hX hbl hbA hS hin.2.2.2.2.1 dL_law_1123 ?_
  refine lv_aload_n hx hb dL_law_1124 rfl (lv_at hl 0 rfl) ?_
  refine lv_iload_n hx hb dL_law_1125 rfl (lv_at hl 3 rfl) ?_
  refine lv_iconst (v := 5) hx hb dL_law_1126 (by decide) ?_
  refine lv_iadd hx hb dL_law_1127 ?_
  refine va_sld hx hb hX hbl hbA hS hin.2.2.2.2.2.1 dL_law_1128 ?_
  refine lv_aload_n hx hb dL_law_1129 rfl (lv_at hl 0 rfl) ?_
  refine lv_iload_n hx hb dL_law_1130 rfl (lv_at hl 3 rfl) ?_
  refine lv_bipush (v := 6) hx hb dL_law_1131 (by decide) ?_
  refine lv_iadd hx hb dL_law_1133 ?_
  refine va_sld hx hb hX hbl hbA hS hin.2.2.2.2.2.2 dL_law_1134 ?_
  refine cIL hS (runL hC hP hS (As := [.int (xs (x3 + 1).toNatClampNeg), .int (xs (x3 + 2).toNatClampNeg), .int (xs (x3 + 3).toNatClampNeg), .int (xs (x3 + 4).toNatClampNeg), .int (xs (x3 + 5).toNatClampNeg), .int (xs (x3 + 6).toNatClampNeg)]) (rest := [.int r]) (k_X8_meet l G _ _ _ _ _ _ _ _ h2) vy_X8_meet sg_30 vc_8 tb_5_128 tb_5_129 tb_5_130 ⟨Nat.le_of_ble_eq_true rfl, Nat.le_of_ble_eq_true rfl⟩ rfl hl.1 rfl (Nat.le_of_ble_eq_true rfl) dL_law_1135) (fun H locs hP hS => ?_)
  refine lv_icmp_eq (tgt := 1639) hx hb dL_law_1138 (by decide) (fun hc => ?_) (fun hc => absurd rfl hc)
  exact kk _ _ _ hI2 hP hS
set_option maxRecDepth 100000 in
set_option maxHeartbeats 4000000 in
theorem law_day {I : ST → Prop} (hC : LC p m c s b G) (hX : va_X b L xs s s.heap) (hbl : b < s.heap.size) (hbA : ¬ gA G b) (hin : Hin x3 L) (hP : va_P (gD G) vwCl (cells G S) H) (hS : va_S (gA G) s.heap H locs) (hl : lv_has ls 4 [(0, .ref b), (1, .ref (ad G 0)), (2, .ref (ad G 30)), (3, .int x3)]) (hI : I S) (hop : ∀ (a0 : Int32) (a1 : Int32) (a2 : Int32) , Pr I (fun S => f_X7_day S a0 a1 a2) (fun S => f_X8_day S a0 a1 a2)) (kk : ∀ (S2 : ST) (H : Heap) (locs : List Loc), I S2 → va_P (gD G) vwCl (cells G S2) H → va_S (gA G) s.heap H locs → W p l e room_1 s m #[Value.ref b] below meth c H locs 600000 7302250 Q (F0 m 1639 ls [])) : W p l e room_1 s m #[Value.ref b] below meth c H locs 600000 7302250 Q (F0 m 1143 ls []) := by
  obtain ⟨hx, hb, hml, hown, hts⟩ := id hC.1
  refine lv_aload_n hx hb dL_law_1143 rfl (lv_at hl 1 rfl) ?_
  refine lv_aload_n hx hb dL_law_1144 rfl (lv_at hl 0 rfl) ?_
  refine lv_iload_n hx hb dL_law_1145 rfl (lv_at hl 3 rfl) ?_
  refine lv_iconst (v := 1) hx hb dL_law_1146 (by decide) ?_
  refine lv_iadd hx hb dL_law_1147 ?_
  refine va_sld hx hb hX hbl hbA hS hin.2.1 dL_law_1148 ?_
  refine lv_aload_n hx hb dL_law_1149 rfl (lv_at hl 0 rfl) ?_
  refine lv_iload_n hx hb dL_law_1150 rfl (lv_at hl 3 rfl) ?_
  refine lv_iconst (v := 2) hx hb dL_law_1151 (by decide) ?_
  refine lv_iadd hx hb dL_law_1152 ?_
  refine va_sld hx hb hX hbl hbA hS hin.2.2.1 dL_law_1153 ?_
  refine lv_aload_n hx hb dL_law_1154 rfl (lv_at hl 0 rfl) ?_
  refine lv_iload_n hx hb dL_law_1155 rfl (lv_at hl 3 rfl) ?_
  refine lv_iconst (v := 3) hx hb dL_law_1156 (by decide) ?_
  refine lv_iadd hx hb dL_law_1157 ?_
  refine va_sld hx hb hX hbl hbA hS hin.2.2.2.1 dL_law_1158 ?_
  obtain ⟨r, S1, S2, h1, h2, hI2⟩ := hop (xs (x3 + 1).toNatClampNeg) (xs (x3 + 2).toNatClampNeg) (xs (x3 + 3).toNatClampNeg) S hI
  refine cIL hS (runL hC hP hS (As := [.int (xs (x3 + 1).toNatClampNeg), .int (xs (x3 + 2).toNatClampNeg), .int (xs (x3 + 3).toNatClampNeg)]) (rest := []) (k_X7_day l G _ _ _ _ _ _ h1) vy_X7_day sg_0 vc_7 tb_3_183 tb_3_184 tb_3_185 ⟨Nat.le_of_ble_eq_true rfl, Nat.le_of_ble_eq_true rfl⟩ rfl hl.1 rfl (Nat.le_of_ble_eq_true rfl) dL_law_1159) (fun H locs hP hS => ?_)
  refine lv_aload_n hx hb dL_law_1162 rfl (lv_at hl 2 rfl) ?_
  refine lv_aload_n hx hb dL_law_1163 rfl (lv_at hl 0 rfl) ?_
  refine lv_iload_n hx hb dL_law_1164 rfl (lv_at hl 3 rfl) ?_
  refine lv_iconst (v := 1) hx hb dL_law_1165 (by decide) ?_
  refine lv_iadd hx hb dL_law_1166 ?_
  refine va_sld hx hb hX hbl hbA hS hin.2.1 dL_law_1167 ?_
  refine lv_aload_n hx hb dL_law_1168 rfl (lv_at hl 0 rfl) ?_
  refine lv_iload_n hx hb dL_law_1169 rfl (lv_at hl 3 rfl) ?_
  refine lv_iconst (v := 2) hx hb dL_law_1170 (by decide) ?_
  refine lv_iadd hx hb dL_law_1171 ?_
  refine va_sld hx hb hX hbl hbA hS hin.2.2.1 dL_law_1172 ?_
  refine lv_aload_n hx hb dL_law_1173 rfl (lv_at hl 0 rfl) ?_
  refine lv_iload_n hx hb dL_law_1174 rfl (lv_at hl 3 rfl) ?_
  refine lv_iconst (v := 3) hx hb dL_law_1175 (by decide) ?_
  refine lv_iadd hx hb dL_law_1176 ?_
  refine va_sld hx hb hX hbl hbA hS hin.2.2.2.1 dL_law_1177 ?_
  refine cIL hS (runL hC hP hS (As := [.int (xs (x3 + 1).toNatClampNeg), .int (xs (x3 + 2).toNatClampNeg), .int (xs (x3 + 3).toNatClampNeg)]) (rest := [.int r]) (k_X8_day l G _ _ _ _ _ _ h2) vy_X8_day sg_30 vc_8 tb_5_132 tb_5_133 tb_5_134 ⟨Nat.le_of_ble_eq_true rfl, Nat.le_of_ble_eq_true rfl⟩ rfl hl.1 rfl (Nat.le_of_ble_eq_true rfl) dL_law_1178) (fun H locs hP hS => ?_)
  refine lv_icmp_eq (tgt := 1639) hx hb dL_law_1181 (by decide) (fun hc => ?_) (fun hc => absurd rfl hc)
  exact kk _ _ _ hI2 hP hS
set_option maxRecDepth 100000 in
set_option maxHeartbeats 4000000 in
theorem law_dredged {I : ST → Prop} (hC : LC p m c s b G) (hX : va_X b L xs s s.heap) (hbl : b < s.heap.size) (hbA : ¬ gA G b) (hin : Hin x3 L) (hP : va_P (gD G) vwCl (cells G S) H) (hS : va_S (gA G) s.heap H locs) (hl : lv_has ls 4 [(0, .ref b), (1, .ref (ad G 0)), (2, .ref (ad G 30)), (3, .int x3)]) (hI : I S) (hop : ∀ (a0 : Int32) (a1 : Int32) (a2 : Int32) , Pr I (fun S => f_X7_dredged S a0 a1 a2) (fun S => f_X8_dredged S a0 a1 a2)) (kk : ∀ (S2 : ST) (H : Heap) (locs : List Loc), I S2 → va_P (gD G) vwCl (cells G S2) H → va_S (gA G) s.heap H locs → W p l e room_1 s m #[Value.ref b] below meth c H locs 600000 7302250 Q (F0 m 1639 ls [])) : W p l e room_1 s m #[Value.ref b] below meth c H locs 600000 7302250 Q (F0 m 1186 ls []) := by
  obtain ⟨hx, hb, hml, hown, hts⟩ := id hC.1
  refine lv_aload_n hx hb dL_law_1186 rfl (lv_at hl 1 rfl) ?_
  refine lv_aload_n hx hb dL_law_1187 rfl (lv_at hl 0 rfl) ?_
  refine lv_iload_n hx hb dL_law_1188 rfl (lv_at hl 3 rfl) ?_
  refine lv_iconst (v := 1) hx hb dL_law_1189 (by decide) ?_
  refine lv_iadd hx hb dL_law_1190 ?_
  refine va_sld hx hb hX hbl hbA hS hin.2.1 dL_law_1191 ?_
  refine lv_aload_n hx hb dL_law_1192 rfl (lv_at hl 0 rfl) ?_
  refine lv_iload_n hx hb dL_law_1193 rfl (lv_at hl 3 rfl) ?_
  refine lv_iconst (v := 2) hx hb dL_law_1194 (by decide) ?_
  refine lv_iadd hx hb dL_law_1195 ?_
  refine va_sld hx hb hX hbl hbA hS hin.2.2.1 dL_law_1196 ?_
  refine lv_aload_n hx hb dL_law_1197 rfl (lv_at hl 0 rfl) ?_
  refine lv_iload_n hx hb dL_law_1198 rfl (lv_at hl 3 rfl) ?_
  refine lv_iconst (v := 3) hx hb dL_law_1199 (by decide) ?_
  refine lv_iadd hx hb dL_law_1200 ?_
  refine va_sld hx hb hX hbl hbA hS hin.2.2.2.1 dL_law_1201 ?_
  obtain ⟨r, S1, S2, h1, h2, hI2⟩ := hop (xs (x3 + 1).toNatClampNeg) (xs (x3 + 2).toNatClampNeg) (xs (x3 + 3).toNatClampNeg) S hI
  refine cIL hS (runL hC hP hS (As := [.int (xs (x3 + 1).toNatClampNeg), .int (xs (x3 + 2).toNatClampNeg), .int (xs (x3 + 3).toNatClampNeg)]) (rest := []) (k_X7_dredged l G _ _ _ _ _ _ h1) vy_X7_dredged sg_0 vc_7 tb_3_206 tb_3_207 tb_3_208 ⟨Nat.le_of_ble_eq_true rfl, Nat.le_of_ble_eq_true rfl⟩ rfl hl.1 rfl (Nat.le_of_ble_eq_true rfl) dL_law_1202) (fun H locs hP hS => ?_)
  refine lv_aload_n hx hb dL_law_1205 rfl (lv_at hl 2 rfl) ?_
  refine lv_aload_n hx hb dL_law_1206 rfl (lv_at hl 0 rfl) ?_
  refine lv_iload_n hx hb dL_law_1207 rfl (lv_at hl 3 rfl) ?_
  refine lv_iconst (v := 1) hx hb dL_law_1208 (by decide) ?_
  refine lv_iadd hx hb dL_law_1209 ?_
  refine va_sld hx hb hX hbl hbA hS hin.2.1 dL_law_1210 ?_
  refine lv_aload_n hx hb dL_law_1211 rfl (lv_at hl 0 rfl) ?_
  refine lv_iload_n hx hb dL_law_1212 rfl (lv_at hl 3 rfl) ?_
  refine lv_iconst (v := 2) hx hb dL_law_1213 (by decide) ?_
  refine lv_iadd hx hb dL_law_1214 ?_
  refine va_sld hx hb hX hbl hbA hS hin.2.2.1 dL_law_1215 ?_
  refine lv_aload_n hx hb dL_law_1216 rfl (lv_at hl 0 rfl) ?_
  refine lv_iload_n hx hb dL_law_1217 rfl (lv_at hl 3 rfl) ?_
  refine lv_iconst (v := 3) hx hb dL_law_1218 (by decide) ?_
  refine lv_iadd hx hb dL_law_1219 ?_
  refine va_sld hx hb hX hbl hbA hS hin.2.2.2.1 dL_law_1220 ?_
  refine cIL hS (runL hC hP hS (As := [.int (xs (x3 + 1).toNatClampNeg), .int (xs (x3 + 2).toNatClampNeg), .int (xs (x3 + 3).toNatClampNeg)]) (rest := [.int r]) (k_X8_dredged l G _ _ _ _ _ _ h2) vy_X8_dredged sg_30 vc_8 tb_5_145 tb_5_146 tb_5_147 ⟨Nat.le_of_ble_eq_true rfl, Nat.le_of_ble_eq_true rfl⟩ rfl hl.1 rfl (Nat.le_of_ble_eq_true rfl) dL_law_1221) (fun H locs hP hS => ?_)
  refine lv_icmp_eq (tgt := 1639) hx hb dL_law_1224 (by decide) (fun hc => ?_) (fun hc => absurd rfl hc)
  exact kk _ _ _ hI2 hP hS
set_option maxRecDepth 100000 in
set_option maxHeartbeats 4000000 in
theorem law_lost {I : ST → Prop} (hC : LC p m c s b G) (hX : va_X b L xs s s.heap) (hbl : b < s.heap.size) (hbA : ¬ gA G b) (hin : Hin x3 L) (hP : va_P (gD G) vwCl (cells G S) H) (hS : va_S (gA G) s.heap H locs) (hl : lv_has ls 4 [(0, .ref b), (1, .ref (ad G 0)), (2, .ref (ad G 30)), (3, .int x3)]) (hI : I S) (hop : ∀ (a0 : Int32) (a1 : Int32) (a2 : Int32) (a3 : Int32) , Pr I (fun S => f_X7_lost S a0 a1 a2 a3) (fun S => f_X8_lost S a0 a1 a2 a3)) (kk : ∀ (S2 : ST) (H : Heap) (locs : List Loc), I S2 → va_P (gD G) vwCl (cells G S2) H → va_S (gA G) s.heap H locs → W p l e room_1 s m #[Value.ref b] below meth c H locs 600000 7302250 Q (F0 m 1639 ls [])) : W p l e room_1 s m #[Value.ref b] below meth c H locs 600000 7302250 Q (F0 m 1229 ls []) := by
  obtain ⟨hx, hb, hml, hown, hts⟩ := id hC.1
  refine lv_aload_n hx hb dL_law_1229 rfl (lv_at hl 1 rfl) ?_
  refine lv_aload_n hx hb dL_law_1230 rfl (lv_at hl 0 rfl) ?_
  refine lv_iload_n hx hb dL_law_1231 rfl (lv_at hl 3 rfl) ?_
  refine lv_iconst (v := 1) hx hb dL_law_1232 (by decide) ?_
  refine lv_iadd hx hb dL_law_1233 ?_
  refine va_sld hx hb hX hbl hbA hS hin.2.1 dL_law_1234 ?_
  refine lv_aload_n hx hb dL_law_1235 rfl (lv_at hl 0 rfl) ?_
  refine lv_iload_n hx hb dL_law_1236 rfl (lv_at hl 3 rfl) ?_
  refine lv_iconst (v := 2) hx hb dL_law_1237 (by decide) ?_
  refine lv_iadd hx hb dL_law_1238 ?_
  refine va_sld hx hb hX hbl hbA hS hin.2.2.1 dL_law_1239 ?_
  refine lv_aload_n hx hb dL_law_1240 rfl (lv_at hl 0 rfl) ?_
  refine lv_iload_n hx hb dL_law_1241 rfl (lv_at hl 3 rfl) ?_
  refine lv_iconst (v := 3) hx hb dL_law_1242 (by decide) ?_
  refine lv_iadd hx hb dL_law_1243 ?_
  refine va_sld hx hb hX hbl hbA hS hin.2.2.2.1 dL_law_1244 ?_
  refine lv_aload_n hx hb dL_law_1245 rfl (lv_at hl 0 rfl) ?_
  refine lv_iload_n hx hb dL_law_1246 rfl (lv_at hl 3 rfl) ?_
  refine lv_iconst (v := 4) hx hb dL_law_1247 (by decide) ?_
  refine lv_iadd hx hb dL_law_1248 ?_
  refine va_sld hx hb hX hbl hbA hS hin.2.2.2.2.1 dL_law_1249 ?_
  obtain ⟨r, S1, S2, h1, h2, hI2⟩ := hop (xs (x3 + 1).toNatClampNeg) (xs (x3 + 2).toNatClampNeg) (xs (x3 + 3).toNatClampNeg) (xs (x3 + 4).toNatClampNeg) S hI
  refine cIL hS (runL hC hP hS (As := [.int (xs (x3 + 1).toNatClampNeg), .int (xs (x3 + 2).toNatClampNeg), .int (xs (x3 + 3).toNatClampNeg), .int (xs (x3 + 4).toNatClampNeg)]) (rest := []) (k_X7_lost l G _ _ _ _ _ _ _ h1) vy_X7_lost sg_0 vc_7 tb_3_211 tb_3_212 tb_3_213 ⟨Nat.le_of_ble_eq_true rfl, Nat.le_of_ble_eq_true rfl⟩ rfl hl.1 rfl (Nat.le_of_ble_eq_true rfl) dL_law_1250) (fun H locs hP hS => ?_)
  refine lv_aload_n hx hb dL_law_1253 rfl (lv_at hl 2 rfl) ?_
  refine lv_aload_n hx hb dL_law_1254 rfl (lv_at hl 0 rfl) ?_
  refine lv_iload_n hx hb dL_law_1255 rfl (lv_at hl 3 rfl) ?_
  refine lv_iconst (v := 1) hx hb dL_law_1256 (by decide) ?_
  refine lv_iadd hx hb dL_law_1257 ?_
  refine va_sld hx hb hX hbl hbA hS hin.2.1 dL_law_1258 ?_
  refine lv_aload_n hx hb dL_law_1259 rfl (lv_at hl 0 rfl) ?_
  refine lv_iload_n hx hb dL_law_1260 rfl (lv_at hl 3 rfl) ?_
  refine lv_iconst (v := 2) hx hb dL_law_1261 (by decide) ?_
  refine lv_iadd hx hb dL_law_1262 ?_
  refine va_sld hx hb hX hbl hbA hS hin.2.2.1 dL_law_1263 ?_
  refine lv_aload_n hx hb dL_law_1264 rfl (lv_at hl 0 rfl) ?_
  refine lv_iload_n hx hb dL_law_1265 rfl (lv_at hl 3 rfl) ?_
  refine lv_iconst (v := 3) hx hb dL_law_1266 (by decide) ?_
  refine lv_iadd hx hb dL_law_1267 ?_
  refine va_sld hx hb hX hbl hbA hS hin.2.2.2.1 dL_law_1268 ?_
  refine lv_aload_n hx hb dL_law_1269 rfl (lv_at hl 0 rfl) ?_
  refine lv_iload_n hx hb dL_law_1270 rfl (lv_at hl 3 rfl) ?_
  refine lv_iconst (v := 4) hx hb dL_law_1271 (by decide) ?_
  refine lv_iadd hx hb dL_law_1272 ?_
  refine va_sld hx hb hX hbl hbA hS hin.2.2.2.2.1 dL_law_1273 ?_
  refine cIL hS (runL hC hP hS (As := [.int (xs (x3 + 1).toNatClampNeg), .int (xs (x3 + 2).toNatClampNeg), .int (xs (x3 + 3).toNatClampNeg), .int (xs (x3 + 4).toNatClampNeg)]) (rest := [.int r]) (k_X8_lost l G _ _ _ _ _ _ _ h2) vy_X8_lost sg_30 vc_8 tb_5_149 tb_5_150 tb_5_151 ⟨Nat.le_of_ble_eq_true rfl, Nat.le_of_ble_eq_true rfl⟩ rfl hl.1 rfl (Nat.le_of_ble_eq_true rfl) dL_law_1274) (fun H locs hP hS => ?_)
  refine lv_icmp_eq (tgt := 1639) hx hb dL_law_1277 (by decide) (fun hc => ?_) (fun hc => absurd rfl hc)
  exact kk _ _ _ hI2 hP hS
set_option maxRecDepth 100000 in
set_option maxHeartbeats 4000000 in
theorem law_touched {I : ST → Prop} (hC : LC p m c s b G) (hX : va_X b L xs s s.heap) (hbl : b < s.heap.size) (hbA : ¬ gA G b) (hin : Hin x3 L) (hP : va_P (gD G) vwCl (cells G S) H) (hS : va_S (gA G) s.heap H locs) (hl : lv_has ls 4 [(0, .ref b), (1, .ref (ad G 0)), (2, .ref (ad G 30)), (3, .int x3)]) (hI : I S) (hop : ∀ (a0 : Int32) (a1 : Int32) (a2 : Int32) , Pr I (fun S => f_X7_touched S a0 a1 a2) (fun S => f_X8_touched S a0 a1 a2)) (kk : ∀ (S2 : ST) (H : Heap) (locs : List Loc), I S2 → va_P (gD G) vwCl (cells G S2) H → va_S (gA G) s.heap H locs → W p l e room_1 s m #[Value.ref b] below meth c H locs 600000 7302250 Q (F0 m 1639 ls [])) : W p l e room_1 s m #[Value.ref b] below meth c H locs 600000 7302250 Q (F0 m 1282 ls []) := by
  obtain ⟨hx, hb, hml, hown, hts⟩ := id hC.1
  refine lv_aload_n hx hb dL_law_1282 rfl (lv_at hl 1 rfl) ?_
  refine lv_aload_n hx hb dL_law_1283 rfl (lv_at hl 0 rfl) ?_
  refine lv_iload_n hx hb dL_law_1284 rfl (lv_at hl 3 rfl) ?_
  refine lv_iconst (v := 1) hx hb dL_law_1285 (by decide) ?_
  refine lv_iadd hx hb dL_law_1286 ?_
  refine va_sld hx hb hX hbl hbA hS hin.2.1 dL_law_1287 ?_
  refine lv_aload_n hx hb dL_law_1288 rfl (lv_at hl 0 rfl) ?_
  refine lv_iload_n hx hb dL_law_1289 rfl (lv_at hl 3 rfl) ?_
  refine lv_iconst (v := 2) hx hb dL_law_1290 (by decide) ?_
  refine lv_iadd hx hb dL_law_1291 ?_
  refine va_sld hx hb hX hbl hbA hS hin.2.2.1 dL_law_1292 ?_
  refine lv_aload_n hx hb dL_law_1293 rfl (lv_at hl 0 rfl) ?_
  refine lv_iload_n hx hb dL_law_1294 rfl (lv_at hl 3 rfl) ?_
  refine lv_iconst (v := 3) hx hb dL_law_1295 (by decide) ?_
  refine lv_iadd hx hb dL_law_1296 ?_
  refine va_sld hx hb hX hbl hbA hS hin.2.2.2.1 dL_law_1297 ?_
  obtain ⟨r, S1, S2, h1, h2, hI2⟩ := hop (xs (x3 + 1).toNatClampNeg) (xs (x3 + 2).toNatClampNeg) (xs (x3 + 3).toNatClampNeg) S hI
  refine cIL hS (runL hC hP hS (As := [.int (xs (x3 + 1).toNatClampNeg), .int (xs (x3 + 2).toNatClampNeg), .int (xs (x3 + 3).toNatClampNeg)]) (rest := []) (k_X7_touched l G _ _ _ _ _ _ h1) vy_X7_touched sg_0 vc_7 tb_3_216 tb_3_217 tb_3_218 ⟨Nat.le_of_ble_eq_true rfl, Nat.le_of_ble_eq_true rfl⟩ rfl hl.1 rfl (Nat.le_of_ble_eq_true rfl) dL_law_1298) (fun H locs hP hS => ?_)
  refine lv_aload_n hx hb dL_law_1301 rfl (lv_at hl 2 rfl) ?_
  refine lv_aload_n hx hb dL_law_1302 rfl (lv_at hl 0 rfl) ?_
  refine lv_iload_n hx hb dL_law_1303 rfl (lv_at hl 3 rfl) ?_
  refine lv_iconst (v := 1) hx hb dL_law_1304 (by decide) ?_
  refine lv_iadd hx hb dL_law_1305 ?_
  refine va_sld hx hb hX hbl hbA hS hin.2.1 dL_law_1306 ?_
  refine lv_aload_n hx hb dL_law_1307 rfl (lv_at hl 0 rfl) ?_
  refine lv_iload_n hx hb dL_law_1308 rfl (lv_at hl 3 rfl) ?_
  refine lv_iconst (v := 2) hx hb dL_law_1309 (by decide) ?_
  refine lv_iadd hx hb dL_law_1310 ?_
  refine va_sld hx hb hX hbl hbA hS hin.2.2.1 dL_law_1311 ?_
  refine lv_aload_n hx hb dL_law_1312 rfl (lv_at hl 0 rfl) ?_
  refine lv_iload_n hx hb dL_law_1313 rfl (lv_at hl 3 rfl) ?_
  refine lv_iconst (v := 3) hx hb dL_law_1314 (by decide) ?_
  refine lv_iadd hx hb dL_law_1315 ?_
  refine va_sld hx hb hX hbl hbA hS hin.2.2.2.1 dL_law_1316 ?_
  refine cIL hS (runL hC hP hS (As := [.int (xs (x3 + 1).toNatClampNeg), .int (xs (x3 + 2).toNatClampNeg), .int (xs (x3 + 3).toNatClampNeg)]) (rest := [.int r]) (k_X8_touched l G _ _ _ _ _ _ h2) vy_X8_touched sg_30 vc_8 tb_5_153 tb_5_154 tb_5_155 ⟨Nat.le_of_ble_eq_true rfl, Nat.le_of_ble_eq_true rfl⟩ rfl hl.1 rfl (Nat.le_of_ble_eq_true rfl) dL_law_1317) (fun H locs hP hS => ?_)
  refine lv_icmp_eq (tgt := 1639) hx hb dL_law_1320 (by decide) (fun hc => ?_) (fun hc => absurd rfl hc)
  exact kk _ _ _ hI2 hP hS
set_option maxRecDepth 100000 in
set_option maxHeartbeats 4000000 in
theorem law_past {I : ST → Prop} (hC : LC p m c s b G) (hX : va_X b L xs s s.heap) (hbl : b < s.heap.size) (hbA : ¬ gA G b) (hin : Hin x3 L) (hP : va_P (gD G) vwCl (cells G S) H) (hS : va_S (gA G) s.heap H locs) (hl : lv_has ls 4 [(0, .ref b), (1, .ref (ad G 0)), (2, .ref (ad G 30)), (3, .int x3)]) (hI : I S) (hop : ∀ (a0 : Int32) (a1 : Int32) (a2 : Int32) , Pr I (lf (fun S => f_X7_past S a0 a1 a2)) (lf (fun S => f_X8_past S a0 a1 a2))) (kk : ∀ (S2 : ST) (H : Heap) (locs : List Loc), I S2 → va_P (gD G) vwCl (cells G S2) H → va_S (gA G) s.heap H locs → W p l e room_1 s m #[Value.ref b] below meth c H locs 600000 7302250 Q (F0 m 1639 ls [])) : W p l e room_1 s m #[Value.ref b] below meth c H locs 600000 7302250 Q (F0 m 1325 ls []) := by
  obtain ⟨hx, hb, hml, hown, hts⟩ := id hC.1
  refine lv_aload_n hx hb dL_law_1325 rfl (lv_at hl 1 rfl) ?_
  refine lv_aload_n hx hb dL_law_1326 rfl (lv_at hl 0 rfl) ?_
  refine lv_iload_n hx hb dL_law_1327 rfl (lv_at hl 3 rfl) ?_
  refine lv_iconst (v := 1) hx hb dL_law_1328 (by decide) ?_
  refine lv_iadd hx hb dL_law_1329 ?_
  refine va_sld hx hb hX hbl hbA hS hin.2.1 dL_law_1330 ?_
  refine lv_aload_n hx hb dL_law_1331 rfl (lv_at hl 0 rfl) ?_
  refine lv_iload_n hx hb dL_law_1332 rfl (lv_at hl 3 rfl) ?_
  refine lv_iconst (v := 2) hx hb dL_law_1333 (by decide) ?_
  refine lv_iadd hx hb dL_law_1334 ?_
  refine va_sld hx hb hX hbl hbA hS hin.2.2.1 dL_law_1335 ?_
  refine lv_aload_n hx hb dL_law_1336 rfl (lv_at hl 0 rfl) ?_
  refine lv_iload_n hx hb dL_law_1337 rfl (lv_at hl 3 rfl) ?_
  refine lv_iconst (v := 3) hx hb dL_law_1338 (by decide) ?_
  refine lv_iadd hx hb dL_law_1339 ?_
  refine va_sld hx hb hX hbl hbA hS hin.2.2.2.1 dL_law_1340 ?_
  obtain ⟨r, S1, S2, h1, h2, hI2⟩ := hop (xs (x3 + 1).toNatClampNeg) (xs (x3 + 2).toNatClampNeg) (xs (x3 + 3).toNatClampNeg) S hI
  obtain ⟨h1, rfl⟩ := lf_some h1
  obtain ⟨h2, rfl⟩ := lf_some h2
  refine cIL hS (runL hC hP hS (As := [.int (xs (x3 + 1).toNatClampNeg), .int (xs (x3 + 2).toNatClampNeg), .int (xs (x3 + 3).toNatClampNeg)]) (rest := []) (k_X7_past l G _ _ _ _ _ h1) vy_X7_past sg_0 vc_7 tb_3_220 tb_3_221 tb_3_222 ⟨Nat.le_of_ble_eq_true rfl, Nat.le_of_ble_eq_true rfl⟩ rfl hl.1 rfl (Nat.le_of_ble_eq_true rfl) dL_law_1341) (fun H locs hP hS => ?_)
  refine lv_aload_n hx hb dL_law_1344 rfl (lv_at hl 2 rfl) ?_
  refine lv_aload_n hx hb dL_law_1345 rfl (lv_at hl 0 rfl) ?_
  refine lv_iload_n hx hb dL_law_1346 rfl (lv_at hl 3 rfl) ?_
  refine lv_iconst (v := 1) hx hb dL_law_1347 (by decide) ?_
  refine lv_iadd hx hb dL_law_1348 ?_
  refine va_sld hx hb hX hbl hbA hS hin.2.1 dL_law_1349 ?_
  refine lv_aload_n hx hb dL_law_1350 rfl (lv_at hl 0 rfl) ?_
  refine lv_iload_n hx hb dL_law_1351 rfl (lv_at hl 3 rfl) ?_
  refine lv_iconst (v := 2) hx hb dL_law_1352 (by decide) ?_
  refine lv_iadd hx hb dL_law_1353 ?_
  refine va_sld hx hb hX hbl hbA hS hin.2.2.1 dL_law_1354 ?_
  refine lv_aload_n hx hb dL_law_1355 rfl (lv_at hl 0 rfl) ?_
  refine lv_iload_n hx hb dL_law_1356 rfl (lv_at hl 3 rfl) ?_
  refine lv_iconst (v := 3) hx hb dL_law_1357 (by decide) ?_
  refine lv_iadd hx hb dL_law_1358 ?_
  refine va_sld hx hb hX hbl hbA hS hin.2.2.2.1 dL_law_1359 ?_
  refine cIL hS (runL hC hP hS (As := [.int (xs (x3 + 1).toNatClampNeg), .int (xs (x3 + 2).toNatClampNeg), .int (xs (x3 + 3).toNatClampNeg)]) (rest := [.int r]) (k_X8_past l G _ _ _ _ _ h2) vy_X8_past sg_30 vc_8 tb_5_157 tb_5_158 tb_5_159 ⟨Nat.le_of_ble_eq_true rfl, Nat.le_of_ble_eq_true rfl⟩ rfl hl.1 rfl (Nat.le_of_ble_eq_true rfl) dL_law_1360) (fun H locs hP hS => ?_)
  refine lv_icmp_eq (tgt := 1639) hx hb dL_law_1363 (by decide) (fun hc => ?_) (fun hc => absurd rfl hc)
  exact kk _ _ _ hI2 hP hS
set_option maxRecDepth 100000 in
set_option maxHeartbeats 4000000 in
theorem law_image {I : ST → Prop} (hC : LC p m c s b G) (hX : va_X b L xs s s.heap) (hbl : b < s.heap.size) (hbA : ¬ gA G b) (hin : Hin x3 L) (hP : va_P (gD G) vwCl (cells G S) H) (hS : va_S (gA G) s.heap H locs) (hl : lv_has ls 4 [(0, .ref b), (1, .ref (ad G 0)), (2, .ref (ad G 30)), (3, .int x3)]) (hI : I S) (hop : Pr I (fun S => f_X7_image S ) (fun S => f_X8_image S )) (kk : ∀ (S2 : ST) (H : Heap) (locs : List Loc), I S2 → va_P (gD G) vwCl (cells G S2) H → va_S (gA G) s.heap H locs → W p l e room_1 s m #[Value.ref b] below meth c H locs 600000 7302250 Q (F0 m 1639 ls [])) : W p l e room_1 s m #[Value.ref b] below meth c H locs 600000 7302250 Q (F0 m 1368 ls []) := by
  obtain ⟨hx, hb, hml, hown, hts⟩ := id hC.1
  refine lv_aload_n hx hb dL_law_1368 rfl (lv_at hl 1 rfl) ?_
  obtain ⟨r, S1, S2, h1, h2, hI2⟩ := hop  S hI
  refine cIL hS (runL hC hP hS (As := []) (rest := []) (k_X7_image l G _ _ _ h1) vy_X7_image sg_0 vc_7 tb_3_224 tb_3_225 tb_3_226 ⟨Nat.le_of_ble_eq_true rfl, Nat.le_of_ble_eq_true rfl⟩ rfl hl.1 rfl (Nat.le_of_ble_eq_true rfl) dL_law_1369) (fun H locs hP hS => ?_)
  refine lv_aload_n hx hb dL_law_1372 rfl (lv_at hl 2 rfl) ?_
  refine cIL hS (runL hC hP hS (As := []) (rest := [.int r]) (k_X8_image l G _ _ _ h2) vy_X8_image sg_30 vc_8 tb_5_162 tb_5_163 tb_5_164 ⟨Nat.le_of_ble_eq_true rfl, Nat.le_of_ble_eq_true rfl⟩ rfl hl.1 rfl (Nat.le_of_ble_eq_true rfl) dL_law_1373) (fun H locs hP hS => ?_)
  refine lv_icmp_eq (tgt := 1639) hx hb dL_law_1376 (by decide) (fun hc => ?_) (fun hc => absurd rfl hc)
  exact kk _ _ _ hI2 hP hS
set_option maxRecDepth 100000 in
set_option maxHeartbeats 4000000 in
theorem law_restore {I : ST → Prop} (hC : LC p m c s b G) (hX : va_X b L xs s s.heap) (hbl : b < s.heap.size) (hbA : ¬ gA G b) (hin : Hin x3 L) (hP : va_P (gD G) vwCl (cells G S) H) (hS : va_S (gA G) s.heap H locs) (hl : lv_has ls 4 [(0, .ref b), (1, .ref (ad G 0)), (2, .ref (ad G 30)), (3, .int x3)]) (hI : I S) (hop : Pr I (fun S => f_X7_restore S ) (fun S => f_X8_restore S )) (kk : ∀ (S2 : ST) (H : Heap) (locs : List Loc), I S2 → va_P (gD G) vwCl (cells G S2) H → va_S (gA G) s.heap H locs → W p l e room_1 s m #[Value.ref b] below meth c H locs 600000 7302250 Q (F0 m 1639 ls [])) : W p l e room_1 s m #[Value.ref b] below meth c H locs 600000 7302250 Q (F0 m 1381 ls []) := by
  obtain ⟨hx, hb, hml, hown, hts⟩ := id hC.1
  refine lv_aload_n hx hb dL_law_1381 rfl (lv_at hl 1 rfl) ?_
  obtain ⟨r, S1, S2, h1, h2, hI2⟩ := hop  S hI
  refine cIL hS (runL hC hP hS (As := []) (rest := []) (k_X7_restore l G _ _ _ h1) vy_X7_restore sg_0 vc_7 tb_3_232 tb_3_233 tb_3_234 ⟨Nat.le_of_ble_eq_true rfl, Nat.le_of_ble_eq_true rfl⟩ rfl hl.1 rfl (Nat.le_of_ble_eq_true rfl) dL_law_1382) (fun H locs hP hS => ?_)
  refine lv_aload_n hx hb dL_law_1385 rfl (lv_at hl 2 rfl) ?_
  refine cIL hS (runL hC hP hS (As := []) (rest := [.int r]) (k_X8_restore l G _ _ _ h2) vy_X8_restore sg_30 vc_8 tb_5_170 tb_5_171 tb_5_172 ⟨Nat.le_of_ble_eq_true rfl, Nat.le_of_ble_eq_true rfl⟩ rfl hl.1 rfl (Nat.le_of_ble_eq_true rfl) dL_law_1386) (fun H locs hP hS => ?_)
  refine lv_icmp_eq (tgt := 1639) hx hb dL_law_1389 (by decide) (fun hc => ?_) (fun hc => absurd rfl hc)
  exact kk _ _ _ hI2 hP hS
set_option maxRecDepth 100000 in
set_option maxHeartbeats 4000000 in
theorem law_gauged {I : ST → Prop} (hC : LC p m c s b G) (hX : va_X b L xs s s.heap) (hbl : b < s.heap.size) (hbA : ¬ gA G b) (hin : Hin x3 L) (hP : va_P (gD G) vwCl (cells G S) H) (hS : va_S (gA G) s.heap H locs) (hl : lv_has ls 4 [(0, .ref b), (1, .ref (ad G 0)), (2, .ref (ad G 30)), (3, .int x3)]) (hI : I S) (hop : ∀ (a0 : Int32) (a1 : Int32) (a2 : Int32) (a3 : Int32) (a4 : Int32) , Pr I (lf (fun S => f_X7_gauged S a0 a1 a2 a3 a4)) (fun S => f_X8_gauged S a0 a1 a2 a3 a4)) (kk : ∀ (S2 : ST) (H : Heap) (locs : List Loc), I S2 → va_P (gD G) vwCl (cells G S2) H → va_S (gA G) s.heap H locs → W p l e room_1 s m #[Value.ref b] below meth c H locs 600000 7302250 Q (F0 m 1639 ls [])) : W p l e room_1 s m #[Value.ref b] below meth c H locs 600000 7302250 Q (F0 m 1394 ls []) := by
  obtain ⟨hx, hb, hml, hown, hts⟩ := id hC.1
  refine lv_aload_n hx hb dL_law_1394 rfl (lv_at hl 1 rfl) ?_
  refine lv_aload_n hx hb dL_law_1395 rfl (lv_at hl 0 rfl) ?_
  refine lv_iload_n hx hb dL_law_1396 rfl (lv_at hl 3 rfl) ?_
  refine lv_iconst (v := 1) hx hb dL_law_1397 (by decide) ?_
  refine lv_iadd hx hb dL_law_1398 ?_
  refine va_sld hx hb hX hbl hbA hS hin.2.1 dL_law_1399 ?_
  refine lv_aload_n hx hb dL_law_1400 rfl (lv_at hl 0 rfl) ?_
  refine lv_iload_n hx hb dL_law_1401 rfl (lv_at hl 3 rfl) ?_
  refine lv_iconst (v := 2) hx hb dL_law_1402 (by decide) ?_
  refine lv_iadd hx hb dL_law_1403 ?_
  refine va_sld hx hb hX hbl hbA hS hin.2.2.1 dL_law_1404 ?_
  refine lv_aload_n hx hb dL_law_1405 rfl (lv_at hl 0 rfl) ?_
  refine lv_iload_n hx hb dL_law_1406 rfl (lv_at hl 3 rfl) ?_
  refine lv_iconst (v := 3) hx hb dL_law_1407 (by decide) ?_
  refine lv_iadd hx hb dL_law_1408 ?_
  refine va_sld hx hb hX hbl hbA hS hin.2.2.2.1 dL_law_1409 ?_
  refine lv_aload_n hx hb dL_law_1410 rfl (lv_at hl 0 rfl) ?_
  refine lv_iload_n hx hb dL_law_1411 rfl (lv_at hl 3 rfl) ?_
  refine lv_iconst (v := 4) hx hb dL_law_1412 (by decide) ?_
  refine lv_iadd hx hb dL_law_1413 ?_
  refine va_sld hx hb hX hbl hbA hS hin.2.2.2.2.1 dL_law_1414 ?_
  refine lv_aload_n hx hb dL_law_1415 rfl (lv_at hl 0 rfl) ?_
  refine lv_iload_n hx hb dL_law_1416 rfl (lv_at hl 3 rfl) ?_
  refine lv_iconst (v := 5) hx hb dL_law_1417 (by decide) ?_
  refine lv_iadd hx hb dL_law_1418 ?_
  refine va_sld hx hb hX hbl hbA hS hin.2.2.2.2.2.1 dL_law_1419 ?_
  obtain ⟨r, S1, S2, h1, h2, hI2⟩ := hop (xs (x3 + 1).toNatClampNeg) (xs (x3 + 2).toNatClampNeg) (xs (x3 + 3).toNatClampNeg) (xs (x3 + 4).toNatClampNeg) (xs (x3 + 5).toNatClampNeg) S hI
  obtain ⟨h1, rfl⟩ := lf_some h1
  refine cIL hS (runL hC hP hS (As := [.int (xs (x3 + 1).toNatClampNeg), .int (xs (x3 + 2).toNatClampNeg), .int (xs (x3 + 3).toNatClampNeg), .int (xs (x3 + 4).toNatClampNeg), .int (xs (x3 + 5).toNatClampNeg)]) (rest := []) (k_X7_gauged l G _ _ _ _ _ _ _ h1) vy_X7_gauged sg_0 vc_7 tb_3_236 tb_3_237 tb_3_238 ⟨Nat.le_of_ble_eq_true rfl, Nat.le_of_ble_eq_true rfl⟩ rfl hl.1 rfl (Nat.le_of_ble_eq_true rfl) dL_law_1420) (fun H locs hP hS => ?_)
  refine lv_aload_n hx hb dL_law_1423 rfl (lv_at hl 2 rfl) ?_
  refine lv_aload_n hx hb dL_law_1424 rfl (lv_at hl 0 rfl) ?_
  refine lv_iload_n hx hb dL_law_1425 rfl (lv_at hl 3 rfl) ?_
  refine lv_iconst (v := 1) hx hb dL_law_1426 (by decide) ?_
  refine lv_iadd hx hb dL_law_1427 ?_
  refine va_sld hx hb hX hbl hbA hS hin.2.1 dL_law_1428 ?_
  refine lv_aload_n hx hb dL_law_1429 rfl (lv_at hl 0 rfl) ?_
  refine lv_iload_n hx hb dL_law_1430 rfl (lv_at hl 3 rfl) ?_
  refine lv_iconst (v := 2) hx hb dL_law_1431 (by decide) ?_
  refine lv_iadd hx hb dL_law_1432 ?_
  refine va_sld hx hb hX hbl hbA hS hin.2.2.1 dL_law_1433 ?_
  refine lv_aload_n hx hb dL_law_1434 rfl (lv_at hl 0 rfl) ?_
  refine lv_iload_n hx hb dL_law_1435 rfl (lv_at hl 3 rfl) ?_
  refine lv_iconst (v := 3) hx hb dL_law_1436 (by decide) ?_
  refine lv_iadd hx hb dL_law_1437 ?_
  refine va_sld hx hb hX hbl hbA hS hin.2.2.2.1 dL_law_1438 ?_
  refine lv_aload_n hx hb dL_law_1439 rfl (lv_at hl 0 rfl) ?_
  refine lv_iload_n hx hb dL_law_1440 rfl (lv_at hl 3 rfl) ?_
  refine lv_iconst (v := 4) hx hb dL_law_1441 (by decide) ?_
  refine lv_iadd hx hb dL_law_1442 ?_
  refine va_sld hx hb hX hbl hbA hS hin.2.2.2.2.1 dL_law_1443 ?_
  refine lv_aload_n hx hb dL_law_1444 rfl (lv_at hl 0 rfl) ?_
  refine lv_iload_n hx hb dL_law_1445 rfl (lv_at hl 3 rfl) ?_
  refine lv_iconst (v := 5) hx hb dL_law_1446 (by decide) ?_
  refine lv_iadd hx hb dL_law_1447 ?_
  refine va_sld hx hb hX hbl hbA hS hin.2.2.2.2.2.1 dL_law_1448 ?_
  refine cIL hS (runL hC hP hS (As := [.int (xs (x3 + 1).toNatClampNeg), .int (xs (x3 + 2).toNatClampNeg), .int (xs (x3 + 3).toNatClampNeg), .int (xs (x3 + 4).toNatClampNeg), .int (xs (x3 + 5).toNatClampNeg)]) (rest := [.int r]) (k_X8_gauged l G _ _ _ _ _ _ _ _ h2) vy_X8_gauged sg_30 vc_8 tb_5_178 tb_5_179 tb_5_180 ⟨Nat.le_of_ble_eq_true rfl, Nat.le_of_ble_eq_true rfl⟩ rfl hl.1 rfl (Nat.le_of_ble_eq_true rfl) dL_law_1449) (fun H locs hP hS => ?_)
  refine lv_icmp_eq (tgt := 1639) hx hb dL_law_1452 (by decide) (fun hc => ?_) (fun hc => absurd rfl hc)
  exact kk _ _ _ hI2 hP hS
set_option maxRecDepth 100000 in
set_option maxHeartbeats 4000000 in
theorem law_sheet {I : ST → Prop} (hC : LC p m c s b G) (hX : va_X b L xs s s.heap) (hbl : b < s.heap.size) (hbA : ¬ gA G b) (hin : Hin x3 L) (hP : va_P (gD G) vwCl (cells G S) H) (hS : va_S (gA G) s.heap H locs) (hl : lv_has ls 4 [(0, .ref b), (1, .ref (ad G 0)), (2, .ref (ad G 30)), (3, .int x3)]) (hI : I S) (hop : ∀ (a0 : Int32) (a1 : Int32) (a2 : Int32) , Pr I (fun S => f_X7_sheet S a0 a1 a2) (fun S => f_X8_sheet S a0 a1 a2)) (kk : ∀ (S2 : ST) (H : Heap) (locs : List Loc), I S2 → va_P (gD G) vwCl (cells G S2) H → va_S (gA G) s.heap H locs → W p l e room_1 s m #[Value.ref b] below meth c H locs 600000 7302250 Q (F0 m 1639 ls [])) : W p l e room_1 s m #[Value.ref b] below meth c H locs 600000 7302250 Q (F0 m 1457 ls []) := by
  obtain ⟨hx, hb, hml, hown, hts⟩ := id hC.1
  refine lv_aload_n hx hb dL_law_1457 rfl (lv_at hl 1 rfl) ?_
  refine lv_aload_n hx hb dL_law_1458 rfl (lv_at hl 0 rfl) ?_
  refine lv_iload_n hx hb dL_law_1459 rfl (lv_at hl 3 rfl) ?_
  refine lv_iconst (v := 1) hx hb dL_law_1460 (by decide) ?_
  refine lv_iadd hx hb dL_law_1461 ?_
  refine va_sld hx hb hX hbl hbA hS hin.2.1 dL_law_1462 ?_
  refine lv_aload_n hx hb dL_law_1463 rfl (lv_at hl 0 rfl) ?_
  refine lv_iload_n hx hb dL_law_1464 rfl (lv_at hl 3 rfl) ?_
  refine lv_iconst (v := 2) hx hb dL_law_1465 (by decide) ?_
  refine lv_iadd hx hb dL_law_1466 ?_
  refine va_sld hx hb hX hbl hbA hS hin.2.2.1 dL_law_1467 ?_
  refine lv_aload_n hx hb dL_law_1468 rfl (lv_at hl 0 rfl) ?_
  refine lv_iload_n hx hb dL_law_1469 rfl (lv_at hl 3 rfl) ?_
  refine lv_iconst (v := 3) hx hb dL_law_1470 (by decide) ?_
  refine lv_iadd hx hb dL_law_1471 ?_
  refine va_sld hx hb hX hbl hbA hS hin.2.2.2.1 dL_law_1472 ?_
  obtain ⟨r, S1, S2, h1, h2, hI2⟩ := hop (xs (x3 + 1).toNatClampNeg) (xs (x3 + 2).toNatClampNeg) (xs (x3 + 3).toNatClampNeg) S hI
  refine cIL hS (runL hC hP hS (As := [.int (xs (x3 + 1).toNatClampNeg), .int (xs (x3 + 2).toNatClampNeg), .int (xs (x3 + 3).toNatClampNeg)]) (rest := []) (k_X7_sheet l G _ _ _ _ _ _ h1) vy_X7_sheet sg_0 vc_7 tb_4_32 tb_4_33 tb_4_34 ⟨Nat.le_of_ble_eq_true rfl, Nat.le_of_ble_eq_true rfl⟩ rfl hl.1 rfl (Nat.le_of_ble_eq_true rfl) dL_law_1473) (fun H locs hP hS => ?_)
  refine lv_aload_n hx hb dL_law_1476 rfl (lv_at hl 2 rfl) ?_
  refine lv_aload_n hx hb dL_law_1477 rfl (lv_at hl 0 rfl) ?_
  refine lv_iload_n hx hb dL_law_1478 rfl (lv_at hl 3 rfl) ?_
  refine lv_iconst (v := 1) hx hb dL_law_1479 (by decide) ?_
  refine lv_iadd hx hb dL_law_1480 ?_
  refine va_sld hx hb hX hbl hbA hS hin.2.1 dL_law_1481 ?_
  refine lv_aload_n hx hb dL_law_1482 rfl (lv_at hl 0 rfl) ?_
  refine lv_iload_n hx hb dL_law_1483 rfl (lv_at hl 3 rfl) ?_
  refine lv_iconst (v := 2) hx hb dL_law_1484 (by decide) ?_
  refine lv_iadd hx hb dL_law_1485 ?_
  refine va_sld hx hb hX hbl hbA hS hin.2.2.1 dL_law_1486 ?_
  refine lv_aload_n hx hb dL_law_1487 rfl (lv_at hl 0 rfl) ?_
  refine lv_iload_n hx hb dL_law_1488 rfl (lv_at hl 3 rfl) ?_
  refine lv_iconst (v := 3) hx hb dL_law_1489 (by decide) ?_
  refine lv_iadd hx hb dL_law_1490 ?_
  refine va_sld hx hb hX hbl hbA hS hin.2.2.2.1 dL_law_1491 ?_
  refine cIL hS (runL hC hP hS (As := [.int (xs (x3 + 1).toNatClampNeg), .int (xs (x3 + 2).toNatClampNeg), .int (xs (x3 + 3).toNatClampNeg)]) (rest := [.int r]) (k_X8_sheet l G _ _ _ _ _ _ h2) vy_X8_sheet sg_30 vc_8 tb_5_192 tb_5_193 tb_5_194 ⟨Nat.le_of_ble_eq_true rfl, Nat.le_of_ble_eq_true rfl⟩ rfl hl.1 rfl (Nat.le_of_ble_eq_true rfl) dL_law_1492) (fun H locs hP hS => ?_)
  refine lv_icmp_eq (tgt := 1639) hx hb dL_law_1495 (by decide) (fun hc => ?_) (fun hc => absurd rfl hc)
  exact kk _ _ _ hI2 hP hS
set_option maxRecDepth 100000 in
set_option maxHeartbeats 4000000 in
theorem law_drop {I : ST → Prop} (hC : LC p m c s b G) (hX : va_X b L xs s s.heap) (hbl : b < s.heap.size) (hbA : ¬ gA G b) (hin : Hin x3 L) (hP : va_P (gD G) vwCl (cells G S) H) (hS : va_S (gA G) s.heap H locs) (hl : lv_has ls 4 [(0, .ref b), (1, .ref (ad G 0)), (2, .ref (ad G 30)), (3, .int x3)]) (hI : I S) (hop : ∀ (a0 : Int32) , Pr I (fun S => f_X7_drop S a0) (fun S => f_X8_drop S a0)) (kk : ∀ (S2 : ST) (H : Heap) (locs : List Loc), I S2 → va_P (gD G) vwCl (cells G S2) H → va_S (gA G) s.heap H locs → W p l e room_1 s m #[Value.ref b] below meth c H locs 600000 7302250 Q (F0 m 1639 ls [])) : W p l e room_1 s m #[Value.ref b] below meth c H locs 600000 7302250 Q (F0 m 1500 ls []) := by
  obtain ⟨hx, hb, hml, hown, hts⟩ := id hC.1
  refine lv_aload_n hx hb dL_law_1500 rfl (lv_at hl 1 rfl) ?_
  refine lv_aload_n hx hb dL_law_1501 rfl (lv_at hl 0 rfl) ?_
  refine lv_iload_n hx hb dL_law_1502 rfl (lv_at hl 3 rfl) ?_
  refine lv_iconst (v := 1) hx hb dL_law_1503 (by decide) ?_
  refine lv_iadd hx hb dL_law_1504 ?_
  refine va_sld hx hb hX hbl hbA hS hin.2.1 dL_law_1505 ?_
  obtain ⟨r, S1, S2, h1, h2, hI2⟩ := hop (xs (x3 + 1).toNatClampNeg) S hI
  refine cIL hS (runL hC hP hS (As := [.int (xs (x3 + 1).toNatClampNeg)]) (rest := []) (k_X7_drop l G _ _ _ _ h1) vy_X7_drop sg_0 vc_7 tb_4_40 tb_4_41 tb_4_42 ⟨Nat.le_of_ble_eq_true rfl, Nat.le_of_ble_eq_true rfl⟩ rfl hl.1 rfl (Nat.le_of_ble_eq_true rfl) dL_law_1506) (fun H locs hP hS => ?_)
  refine lv_aload_n hx hb dL_law_1509 rfl (lv_at hl 2 rfl) ?_
  refine lv_aload_n hx hb dL_law_1510 rfl (lv_at hl 0 rfl) ?_
  refine lv_iload_n hx hb dL_law_1511 rfl (lv_at hl 3 rfl) ?_
  refine lv_iconst (v := 1) hx hb dL_law_1512 (by decide) ?_
  refine lv_iadd hx hb dL_law_1513 ?_
  refine va_sld hx hb hX hbl hbA hS hin.2.1 dL_law_1514 ?_
  refine cIL hS (runL hC hP hS (As := [.int (xs (x3 + 1).toNatClampNeg)]) (rest := [.int r]) (k_X8_drop l G _ _ _ _ h2) vy_X8_drop sg_30 vc_8 tb_5_196 tb_5_197 tb_5_198 ⟨Nat.le_of_ble_eq_true rfl, Nat.le_of_ble_eq_true rfl⟩ rfl hl.1 rfl (Nat.le_of_ble_eq_true rfl) dL_law_1515) (fun H locs hP hS => ?_)
  refine lv_icmp_eq (tgt := 1639) hx hb dL_law_1518 (by decide) (fun hc => ?_) (fun hc => absurd rfl hc)
  exact kk _ _ _ hI2 hP hS
set_option maxRecDepth 100000 in
set_option maxHeartbeats 4000000 in
theorem law_item {I : ST → Prop} (hC : LC p m c s b G) (hX : va_X b L xs s s.heap) (hbl : b < s.heap.size) (hbA : ¬ gA G b) (hin : Hin x3 L) (hP : va_P (gD G) vwCl (cells G S) H) (hS : va_S (gA G) s.heap H locs) (hl : lv_has ls 4 [(0, .ref b), (1, .ref (ad G 0)), (2, .ref (ad G 30)), (3, .int x3)]) (hI : I S) (hop : ∀ (a0 : Int32) (a1 : Int32) (a2 : Int32) (a3 : Int32) , Pr I (fun S => f_X7_item S a0 a1 a2 a3) (fun S => f_X8_item S a0 a1 a2 a3)) (kk : ∀ (S2 : ST) (H : Heap) (locs : List Loc), I S2 → va_P (gD G) vwCl (cells G S2) H → va_S (gA G) s.heap H locs → W p l e room_1 s m #[Value.ref b] below meth c H locs 600000 7302250 Q (F0 m 1639 ls [])) : W p l e room_1 s m #[Value.ref b] below meth c H locs 600000 7302250 Q (F0 m 1523 ls []) := by
  obtain ⟨hx, hb, hml, hown, hts⟩ := id hC.1
  refine lv_aload_n hx hb dL_law_1523 rfl (lv_at hl 1 rfl) ?_
  refine lv_aload_n hx hb dL_law_1524 rfl (lv_at hl 0 rfl) ?_
  refine lv_iload_n hx hb dL_law_1525 rfl (lv_at hl 3 rfl) ?_
  refine lv_iconst (v := 1) hx hb dL_law_1526 (by decide) ?_
  refine lv_iadd hx hb dL_law_1527 ?_
  refine va_sld hx hb hX hbl hbA hS hin.2.1 dL_law_1528 ?_
  refine lv_aload_n hx hb dL_law_1529 rfl (lv_at hl 0 rfl) ?_
  refine lv_iload_n hx hb dL_law_1530 rfl (lv_at hl 3 rfl) ?_
  refine lv_iconst (v := 2) hx hb dL_law_1531 (by decide) ?_
  refine lv_iadd hx hb dL_law_1532 ?_
  refine va_sld hx hb hX hbl hbA hS hin.2.2.1 dL_law_1533 ?_
  refine lv_aload_n hx hb dL_law_1534 rfl (lv_at hl 0 rfl) ?_
  refine lv_iload_n hx hb dL_law_1535 rfl (lv_at hl 3 rfl) ?_
  refine lv_iconst (v := 3) hx hb dL_law_1536 (by decide) ?_
  refine lv_iadd hx hb dL_law_1537 ?_
  refine va_sld hx hb hX hbl hbA hS hin.2.2.2.1 dL_law_1538 ?_
  refine lv_aload_n hx hb dL_law_1539 rfl (lv_at hl 0 rfl) ?_
  refine lv_iload_n hx hb dL_law_1540 rfl (lv_at hl 3 rfl) ?_
  refine lv_iconst (v := 4) hx hb dL_law_1541 (by decide) ?_
  refine lv_iadd hx hb dL_law_1542 ?_
  refine va_sld hx hb hX hbl hbA hS hin.2.2.2.2.1 dL_law_1543 ?_
  obtain ⟨r, S1, S2, h1, h2, hI2⟩ := hop (xs (x3 + 1).toNatClampNeg) (xs (x3 + 2).toNatClampNeg) (xs (x3 + 3).toNatClampNeg) (xs (x3 + 4).toNatClampNeg) S hI
  refine cIL hS (runL hC hP hS (As := [.int (xs (x3 + 1).toNatClampNeg), .int (xs (x3 + 2).toNatClampNeg), .int (xs (x3 + 3).toNatClampNeg), .int (xs (x3 + 4).toNatClampNeg)]) (rest := []) (k_X7_item l G _ _ _ _ _ _ _ h1) vy_X7_item sg_0 vc_7 tb_4_48 tb_4_49 tb_4_50 ⟨Nat.le_of_ble_eq_true rfl, Nat.le_of_ble_eq_true rfl⟩ rfl hl.1 rfl (Nat.le_of_ble_eq_true rfl) dL_law_1544) (fun H locs hP hS => ?_)
  refine lv_aload_n hx hb dL_law_1547 rfl (lv_at hl 2 rfl) ?_
  refine lv_aload_n hx hb dL_law_1548 rfl (lv_at hl 0 rfl) ?_
  refine lv_iload_n hx hb dL_law_1549 rfl (lv_at hl 3 rfl) ?_
  refine lv_iconst (v := 1) hx hb dL_law_1550 (by decide) ?_
  refine lv_iadd hx hb dL_law_1551 ?_
  refine va_sld hx hb hX hbl hbA hS hin.2.1 dL_law_1552 ?_
  refine lv_aload_n hx hb dL_law_1553 rfl (lv_at hl 0 rfl) ?_
  refine lv_iload_n hx hb dL_law_1554 rfl (lv_at hl 3 rfl) ?_
  refine lv_iconst (v := 2) hx hb dL_law_1555 (by decide) ?_
  refine lv_iadd hx hb dL_law_1556 ?_
  refine va_sld hx hb hX hbl hbA hS hin.2.2.1 dL_law_1557 ?_
  refine lv_aload_n hx hb dL_law_1558 rfl (lv_at hl 0 rfl) ?_
  refine lv_iload_n hx hb dL_law_1559 rfl (lv_at hl 3 rfl) ?_
  refine lv_iconst (v := 3) hx hb dL_law_1560 (by decide) ?_
  refine lv_iadd hx hb dL_law_1561 ?_
  refine va_sld hx hb hX hbl hbA hS hin.2.2.2.1 dL_law_1562 ?_
  refine lv_aload_n hx hb dL_law_1563 rfl (lv_at hl 0 rfl) ?_
  refine lv_iload_n hx hb dL_law_1564 rfl (lv_at hl 3 rfl) ?_
  refine lv_iconst (v := 4) hx hb dL_law_1565 (by decide) ?_
  refine lv_iadd hx hb dL_law_1566 ?_
  refine va_sld hx hb hX hbl hbA hS hin.2.2.2.2.1 dL_law_1567 ?_
  refine cIL hS (runL hC hP hS (As := [.int (xs (x3 + 1).toNatClampNeg), .int (xs (x3 + 2).toNatClampNeg), .int (xs (x3 + 3).toNatClampNeg), .int (xs (x3 + 4).toNatClampNeg)]) (rest := [.int r]) (k_X8_item l G _ _ _ _ _ _ _ h2) vy_X8_item sg_30 vc_8 tb_5_200 tb_5_201 tb_5_202 ⟨Nat.le_of_ble_eq_true rfl, Nat.le_of_ble_eq_true rfl⟩ rfl hl.1 rfl (Nat.le_of_ble_eq_true rfl) dL_law_1568) (fun H locs hP hS => ?_)
  refine lv_icmp_eq (tgt := 1639) hx hb dL_law_1571 (by decide) (fun hc => ?_) (fun hc => absurd rfl hc)
  exact kk _ _ _ hI2 hP hS
set_option maxRecDepth 100000 in
set_option maxHeartbeats 4000000 in
theorem law_copy {I : ST → Prop} (hC : LC p m c s b G) (hX : va_X b L xs s s.heap) (hbl : b < s.heap.size) (hbA : ¬ gA G b) (hin : Hin x3 L) (hP : va_P (gD G) vwCl (cells G S) H) (hS : va_S (gA G) s.heap H locs) (hl : lv_has ls 4 [(0, .ref b), (1, .ref (ad G 0)), (2, .ref (ad G 30)), (3, .int x3)]) (hI : I S) (hop : ∀ (a0 : Int32) (a1 : Int32) (a2 : Int32) (a3 : Int32) (a4 : Int32) , Pr I (fun S => f_X7_copy S a0 a1 a2 a3 a4) (fun S => f_X8_copy S a0 a1 a2 a3 a4)) (kk : ∀ (S2 : ST) (H : Heap) (locs : List Loc), I S2 → va_P (gD G) vwCl (cells G S2) H → va_S (gA G) s.heap H locs → W p l e room_1 s m #[Value.ref b] below meth c H locs 600000 7302250 Q (F0 m 1639 ls [])) : W p l e room_1 s m #[Value.ref b] below meth c H locs 600000 7302250 Q (F0 m 1576 ls []) := by
  obtain ⟨hx, hb, hml, hown, hts⟩ := id hC.1
  refine lv_aload_n hx hb dL_law_1576 rfl (lv_at hl 1 rfl) ?_
  refine lv_aload_n hx hb dL_law_1577 rfl (lv_at hl 0 rfl) ?_
  refine lv_iload_n hx hb dL_law_1578 rfl (lv_at hl 3 rfl) ?_
  refine lv_iconst (v := 1) hx hb dL_law_1579 (by decide) ?_
  refine lv_iadd hx hb dL_law_1580 ?_
  refine va_sld hx hb hX hbl hbA hS hin.2.1 dL_law_1581 ?_
  refine lv_aload_n hx hb dL_law_1582 rfl (lv_at hl 0 rfl) ?_
  refine lv_iload_n hx hb dL_law_1583 rfl (lv_at hl 3 rfl) ?_
  refine lv_iconst (v := 2) hx hb dL_law_1584 (by decide) ?_
  refine lv_iadd hx hb dL_law_1585 ?_
  refine va_sld hx hb hX hbl hbA hS hin.2.2.1 dL_law_1586 ?_
  refine lv_aload_n hx hb dL_law_1587 rfl (lv_at hl 0 rfl) ?_
  refine lv_iload_n hx hb dL_law_1588 rfl (lv_at hl 3 rfl) ?_
  refine lv_iconst (v := 3) hx hb dL_law_1589 (by decide) ?_
  refine lv_iadd hx hb dL_law_1590 ?_
  refine va_sld hx hb hX hbl hbA hS hin.2.2.2.1 dL_law_1591 ?_
  refine lv_aload_n hx hb dL_law_1592 rfl (lv_at hl 0 rfl) ?_
  refine lv_iload_n hx hb dL_law_1593 rfl (lv_at hl 3 rfl) ?_
  refine lv_iconst (v := 4) hx hb dL_law_1594 (by decide) ?_
  refine lv_iadd hx hb dL_law_1595 ?_
  refine va_sld hx hb hX hbl hbA hS hin.2.2.2.2.1 dL_law_1596 ?_
  refine lv_aload_n hx hb dL_law_1597 rfl (lv_at hl 0 rfl) ?_
  refine lv_iload_n hx hb dL_law_1598 rfl (lv_at hl 3 rfl) ?_
  refine lv_iconst (v := 5) hx hb dL_law_1599 (by decide) ?_
  refine lv_iadd hx hb dL_law_1600 ?_
  refine va_sld hx hb hX hbl hbA hS hin.2.2.2.2.2.1 dL_law_1601 ?_
  obtain ⟨r, S1, S2, h1, h2, hI2⟩ := hop (xs (x3 + 1).toNatClampNeg) (xs (x3 + 2).toNatClampNeg) (xs (x3 + 3).toNatClampNeg) (xs (x3 + 4).toNatClampNeg) (xs (x3 + 5).toNatClampNeg) S hI
  refine cIL hS (runL hC hP hS (As := [.int (xs (x3 + 1).toNatClampNeg), .int (xs (x3 + 2).toNatClampNeg), .int (xs (x3 + 3).toNatClampNeg), .int (xs (x3 + 4).toNatClampNeg), .int (xs (x3 + 5).toNatClampNeg)]) (rest := []) (k_X7_copy l G _ _ _ _ _ _ _ _ h1) vy_X7_copy sg_0 vc_7 tb_4_56 tb_4_57 tb_4_58 ⟨Nat.le_of_ble_eq_true rfl, Nat.le_of_ble_eq_true rfl⟩ rfl hl.1 rfl (Nat.le_of_ble_eq_true rfl) dL_law_1602) (fun H locs hP hS => ?_)
  refine lv_aload_n hx hb dL_law_1605 rfl (lv_at hl 2 rfl) ?_
  refine lv_aload_n hx hb dL_law_1606 rfl (lv_at hl 0 rfl) ?_
  refine lv_iload_n hx hb dL_law_1607 rfl (lv_at hl 3 rfl) ?_
  refine lv_iconst (v := 1) hx hb dL_law_1608 (by decide) ?_
  refine lv_iadd hx hb dL_law_1609 ?_
  refine va_sld hx hb hX hbl hbA hS hin.2.1 dL_law_1610 ?_
  refine lv_aload_n hx hb dL_law_1611 rfl (lv_at hl 0 rfl) ?_
  refine lv_iload_n hx hb dL_law_1612 rfl (lv_at hl 3 rfl) ?_
  refine lv_iconst (v := 2) hx hb dL_law_1613 (by decide) ?_
  refine lv_iadd hx hb dL_law_1614 ?_
  refine va_sld hx hb hX hbl hbA hS hin.2.2.1 dL_law_1615 ?_
  refine lv_aload_n hx hb dL_law_1616 rfl (lv_at hl 0 rfl) ?_
  refine lv_iload_n hx hb dL_law_1617 rfl (lv_at hl 3 rfl) ?_
  refine lv_iconst (v := 3) hx hb dL_law_1618 (by decide) ?_
  refine lv_iadd hx hb dL_law_1619 ?_
  refine va_sld hx hb hX hbl hbA hS hin.2.2.2.1 dL_law_1620 ?_
  refine lv_aload_n hx hb dL_law_1621 rfl (lv_at hl 0 rfl) ?_
  refine lv_iload_n hx hb dL_law_1622 rfl (lv_at hl 3 rfl) ?_
  refine lv_iconst (v := 4) hx hb dL_law_1623 (by decide) ?_
  refine lv_iadd hx hb dL_law_1624 ?_
  refine va_sld hx hb hX hbl hbA hS hin.2.2.2.2.1 dL_law_1625 ?_
  refine lv_aload_n hx hb dL_law_1626 rfl (lv_at hl 0 rfl) ?_
  refine lv_iload_n hx hb dL_law_1627 rfl (lv_at hl 3 rfl) ?_
  refine lv_iconst (v := 5) hx hb dL_law_1628 (by decide) ?_
  refine lv_iadd hx hb dL_law_1629 ?_
  refine va_sld hx hb hX hbl hbA hS hin.2.2.2.2.2.1 dL_law_1630 ?_
  refine cIL hS (runL hC hP hS (As := [.int (xs (x3 + 1).toNatClampNeg), .int (xs (x3 + 2).toNatClampNeg), .int (xs (x3 + 3).toNatClampNeg), .int (xs (x3 + 4).toNatClampNeg), .int (xs (x3 + 5).toNatClampNeg)]) (rest := [.int r]) (k_X8_copy l G _ _ _ _ _ _ _ _ h2) vy_X8_copy sg_30 vc_8 tb_5_204 tb_5_205 tb_5_206 ⟨Nat.le_of_ble_eq_true rfl, Nat.le_of_ble_eq_true rfl⟩ rfl hl.1 rfl (Nat.le_of_ble_eq_true rfl) dL_law_1631) (fun H locs hP hS => ?_)
  refine lv_icmp_eq (tgt := 1639) hx hb dL_law_1634 (by decide) (fun hc => ?_) (fun hc => absurd rfl hc)
  exact kk _ _ _ hI2 hP hS
/-- all pairs of calls -/
def LawOK (I : ST → Prop) : Prop := (∀ (a0 : Int32) (a1 : Int32) , Pr I (fun S => f_X7_mile S a0 a1) (fun S => f_X8_mile S a0 a1)) ∧ (∀ (a0 : Int32) (a1 : Int32) (a2 : Int32) , Pr I (fun S => f_X7_make S a0 a1 a2) (fun S => f_X8_make S a0 a1 a2)) ∧ (∀ (a0 : Int32) (a1 : Int32) , Pr I (lf (fun S => f_X7_told S a0 a1)) (lf (fun S => f_X8_told S a0 a1))) ∧ (∀ (a0 : Int32) (a1 : Int32) , Pr I (fun S => f_X7_height S a0 a1) (fun S => f_X8_height S a0 a1)) ∧ (∀ (a0 : Int32) (a1 : Int32) , Pr I (fun S => f_X7_set S a0 a1) (fun S => f_X8_set S a0 a1)) ∧ (∀ (a0 : Int32) (a1 : Int32) (a2 : Int32) , Pr I (fun S => f_X7_ship S a0 a1 a2) (fun S => f_X8_ship S a0 a1 a2)) ∧ (∀ (a0 : Int32) (a1 : Int32) , Pr I (fun S => f_X7_pace S a0 a1) (fun S => f_X8_pace S a0 a1)) ∧ (∀ (a0 : Int64) (a1 : Int32) , Pr I (fun S => f_X7_type S a0 a1) (fun S => f_X8_type S a0 a1)) ∧ (Pr I (fun S => f_X7_channel S ) (fun S => f_X8_channel S )) ∧ (Pr I (fun S => f_X7_tides S ) (fun S => f_X8_tides S )) ∧ (∀ (a0 : Int32) , Pr I (lf (fun S => f_X7_count S a0)) (lf (fun S => f_X8_count S a0))) ∧ (∀ (a0 : Int32) , Pr I (lf (fun S => f_X7_tide S a0)) (lf (fun S => f_X8_tide S a0))) ∧ (∀ (a0 : Int32) (a1 : Int32) , Pr I (lf (fun S => f_X7_water S a0 a1)) (lf (fun S => f_X8_water S a0 a1))) ∧ (∀ (a0 : Int32) (a1 : Int32) (a2 : Int32) (a3 : Int32) , Pr I (fun S => f_X7_sinks S a0 a1 a2 a3) (lf (fun S => f_X8_sinks S a0 a1 a2 a3))) ∧ (∀ (a0 : Int32) (a1 : Int32) (a2 : Int32) (a3 : Int32) , Pr I (fun S => f_X7_under S a0 a1 a2 a3) (lf (fun S => f_X8_under S a0 a1 a2 a3))) ∧ (∀ (a0 : Int32) , Pr I (fun S => f_X7_need S a0) (lf (fun S => f_X8_need S a0))) ∧ (∀ (a0 : Int32) (a1 : Int32) (a2 : Int32) , Pr I (fun S => f_X7_run S a0 a1 a2) (fun S => f_X8_run S a0 a1 a2)) ∧ (∀ (a0 : Int32) (a1 : Int32) (a2 : Int32) , Pr I (fun S => f_X7_least S a0 a1 a2) (fun S => f_X8_least S a0 a1 a2)) ∧ (∀ (a0 : Int32) (a1 : Int32) , Pr I (fun S => f_X7_starts S a0 a1) (fun S => f_X8_starts S a0 a1)) ∧ (∀ (a0 : Int32) (a1 : Int32) , Pr I (fun S => f_X7_deepest S a0 a1) (fun S => f_X8_deepest S a0 a1)) ∧ (∀ (a0 : Int32) (a1 : Int32) (a2 : Int32) , Pr I (lf (fun S => f_X7_bank S a0 a1 a2)) (lf (fun S => f_X8_bank S a0 a1 a2))) ∧ (∀ (a0 : Int32) (a1 : Int32) , Pr I (lf (fun S => f_X7_nearest S a0 a1)) (lf (fun S => f_X8_nearest S a0 a1))) ∧ (∀ (a0 : Int32) (a1 : Int32) , Pr I (fun S => f_X7_steered S a0 a1) (fun S => f_X8_steered S a0 a1)) ∧ (∀ (a0 : Int32) (a1 : Int32) (a2 : Int32) (a3 : Int32) (a4 : Int32) , Pr I (lf (fun S => f_X7_may S a0 a1 a2 a3 a4)) (lf (fun S => f_X8_may S a0 a1 a2 a3 a4))) ∧ (∀ (a0 : Int32) (a1 : Int32) (a2 : Int32) (a3 : Int32) (a4 : Int32) (a5 : Int32) , Pr I (lf (fun S => f_X7_meet S a0 a1 a2 a3 a4 a5)) (lf (fun S => f_X8_meet S a0 a1 a2 a3 a4 a5))) ∧ (∀ (a0 : Int32) (a1 : Int32) (a2 : Int32) , Pr I (fun S => f_X7_day S a0 a1 a2) (fun S => f_X8_day S a0 a1 a2)) ∧ (∀ (a0 : Int32) (a1 : Int32) (a2 : Int32) , Pr I (fun S => f_X7_dredged S a0 a1 a2) (fun S => f_X8_dredged S a0 a1 a2)) ∧ (∀ (a0 : Int32) (a1 : Int32) (a2 : Int32) (a3 : Int32) , Pr I (fun S => f_X7_lost S a0 a1 a2 a3) (fun S => f_X8_lost S a0 a1 a2 a3)) ∧ (∀ (a0 : Int32) (a1 : Int32) (a2 : Int32) , Pr I (fun S => f_X7_touched S a0 a1 a2) (fun S => f_X8_touched S a0 a1 a2)) ∧ (∀ (a0 : Int32) (a1 : Int32) (a2 : Int32) , Pr I (lf (fun S => f_X7_past S a0 a1 a2)) (lf (fun S => f_X8_past S a0 a1 a2))) ∧ (Pr I (fun S => f_X7_image S ) (fun S => f_X8_image S )) ∧ (Pr I (fun S => f_X7_restore S ) (fun S => f_X8_restore S )) ∧ (∀ (a0 : Int32) (a1 : Int32) (a2 : Int32) (a3 : Int32) (a4 : Int32) , Pr I (lf (fun S => f_X7_gauged S a0 a1 a2 a3 a4)) (fun S => f_X8_gauged S a0 a1 a2 a3 a4)) ∧ (∀ (a0 : Int32) (a1 : Int32) (a2 : Int32) , Pr I (fun S => f_X7_sheet S a0 a1 a2) (fun S => f_X8_sheet S a0 a1 a2)) ∧ (∀ (a0 : Int32) , Pr I (fun S => f_X7_drop S a0) (fun S => f_X8_drop S a0)) ∧ (∀ (a0 : Int32) (a1 : Int32) (a2 : Int32) (a3 : Int32) , Pr I (fun S => f_X7_item S a0 a1 a2 a3) (fun S => f_X8_item S a0 a1 a2 a3)) ∧ (∀ (a0 : Int32) (a1 : Int32) (a2 : Int32) (a3 : Int32) (a4 : Int32) , Pr I (fun S => f_X7_copy S a0 a1 a2 a3 a4) (fun S => f_X8_copy S a0 a1 a2 a3 a4))
end
