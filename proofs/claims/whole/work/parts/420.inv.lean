/-! ===== the invariant ===== -/
def Img (S : ST) (A : PT) : Prop := (S.1 45 143 = iI (mi A : Int) ∧ S.1 45 144 = iI (nsh A : Int)) ∧ (∀ i, i < 24 → S.1 45 (96 + i) = iI (ht A i)) ∧ (∀ i, i < 5 → S.1 45 (120 + i) = iI (se A i)) ∧ (∀ i, i < 6 * mi A → S.1 45 i = iI (mk A i)) ∧ ∀ i, i < 3 * nsh A → S.1 45 (125 + i) = iI (hu A i)
def PP (S : ST) (A : PT) : Prop := PV A ∧ RC S A ∧ RM S A
def IP (S : ST) : Prop := (S.1 0 9 = 0 ∧ S.1 30 24 = 0) ∨ (S.1 0 9 = 1 ∧ S.1 30 24 = 1 ∧ ∃ B : PT, PV B ∧ RK S B ∧ Img S B)
def TP (S : ST) : Prop := ∃ (t : Nat) (c : Nat → Int), t ≤ 100 ∧ S.1 22 2 = iI (t : Int) ∧ S.1 30 7 = iI (t : Int) ∧ ∀ i, i < t → (32 ≤ c i ∧ c i ≤ 126) ∧ S.1 24 i = iI (c i) ∧ S.1 35 i = iI (c i)
def ShP (S : ST) : Prop := ∀ k, k < 4 → ∃ (ln : Int) (n : Nat), (-1 ≤ ln ∧ ln ≤ 2) ∧ n ≤ 24 ∧ S.1 27 k = iI ln ∧ S.1 46 k = iI ln ∧ S.1 28 k = iI (n : Int) ∧ S.1 47 k = iI (n : Int) ∧ ∀ i, i < 24 → S.1 (173 + k) i = S.1 48 (24 * k + i)
def FP (S : ST) : Prop := S.1 13 2 = -1 ∨ ∃ (late : Int) (f : Nat → Int), (0 ≤ late ∧ late ≤ 90) ∧ TV0 f ∧ S.1 13 2 = iI late ∧ (∀ i, i < 24 → S.1 14 i = iI (f i)) ∧ ∀ h, h < 100 → ∀ w, w < 38 → ∀ b, b < 64 → (S.2 (50 + h) w).toBitVec.getLsbD b = decide (64 * w + b < 2400 ∧ (h : Int) ≤ tideV f late ((64 * w + b : Nat) : Int))
def Inv (S : ST) : Prop := (∃ A : PT, PP S A) ∧ IP S ∧ TP S ∧ ShP S ∧ FP S
/-- which places of the memory the invariant reads: where they are the same it goes on -/
theorem IP.of {S S' : ST} (h : IP S) (h0 : S'.1 0 9 = S.1 0 9) (h1 : S'.1 30 24 = S.1 30 24) (hk : ∀ k, 6 ≤ k → k ≤ 10 → S'.1 k = S.1 k) (h5 : S'.1 45 = S.1 45) : IP S' := by
  unfold IP at h ⊢
  rw [h0, h1]
  rcases h with h | ⟨g1, g2, B, hB, hR, hI⟩
  · exact Or.inl h
  · refine Or.inr ⟨g1, g2, B, hB, hR.of (by rw [hk 6 (by omega) (by omega)]) (by rw [hk 6 (by omega) (by omega)]) (hk 7 (by omega) (by omega)) (hk 8 (by omega) (by omega)) (hk 9 (by omega) (by omega)) (hk 10 (by omega) (by omega)), ?_⟩
    unfold Img at hI ⊢
    rw [h5]
    exact hI
theorem TP.of {S S' : ST} (h : TP S) (h0 : S'.1 22 2 = S.1 22 2) (h1 : S'.1 30 7 = S.1 30 7) (h2 : S'.1 24 = S.1 24) (h3 : S'.1 35 = S.1 35) : TP S' := by
  unfold TP at h ⊢
  rw [h0, h1, h2, h3]
  exact h
theorem ShP.of {S S' : ST} (h : ShP S) (h0 : S'.1 27 = S.1 27) (h1 : S'.1 28 = S.1 28) (h2 : S'.1 46 = S.1 46) (h3 : S'.1 47 = S.1 47) (h4 : S'.1 48 = S.1 48) (h5 : ∀ k, 173 ≤ k → k < 177 → S'.1 k = S.1 k) : ShP S' := by
  intro k hk
  obtain ⟨ln, n, g1, g2, g3, g4, g5, g6, g7⟩ := h k hk
  refine ⟨ln, n, g1, g2, ?_, ?_, ?_, ?_, ?_⟩
  · rw [h0]; exact g3
  · rw [h2]; exact g4
  · rw [h1]; exact g5
  · rw [h3]; exact g6
  · rw [h4, h5 (173 + k) (by omega) (by omega)]; exact g7
theorem FP.of {S S' : ST} (h : FP S) (h0 : S'.1 13 2 = S.1 13 2) (h1 : S'.1 14 = S.1 14) (h2 : ∀ k, 50 ≤ k → k < 150 → S'.2 k = S.2 k) : FP S' := by
  unfold FP at h ⊢
  rw [h0, h1]
  rcases h with h | ⟨late, f, g1, g2, g3, g4, g5⟩
  · exact Or.inl h
  · refine Or.inr ⟨late, f, g1, g2, g3, g4, fun h hh w hw b hb => ?_⟩
    rw [h2 (50 + h) (by omega) (by omega)]
    exact g5 h hh w hw b hb
theorem PP.of {S S' : ST} {A : PT} (h : PP S A) (hk : ∀ k, 1 ≤ k → k ≤ 5 → S'.1 k = S.1 k) (h0 : S'.1 30 0 = S.1 30 0) (h1 : S'.1 30 4 = S.1 30 4) (hm : ∀ k, 31 ≤ k → k ≤ 34 → S'.1 k = S.1 k) : PP S' A :=
  ⟨h.1, h.2.1.of (by rw [hk 1 (by omega) (by omega)]) (by rw [hk 1 (by omega) (by omega)]) (hk 2 (by omega) (by omega)) (hk 3 (by omega) (by omega)) (hk 4 (by omega) (by omega)) (hk 5 (by omega) (by omega)), h.2.2.of h0 h1 (hm 32 (by omega) (by omega)) (hm 33 (by omega) (by omega)) (hm 31 (by omega) (by omega)) (hm 34 (by omega) (by omega))⟩
/-- calls that only read -/
theorem rd_ok {fx fm : ST → Option Int32} (h : ∀ S, Inv S → ∃ r, fx S = some r ∧ fm S = some r) : Pr Inv (lf fx) (lf fm) := by
  intro S hI
  obtain ⟨r, h1, h2⟩ := h S hI
  exact ⟨r, S, S, by rw [lf, h1]; rfl, by rw [lf, h2]; rfl, hI⟩
theorem nat_of {a : Int} {n : Nat} (h : 0 ≤ a ∧ a < n) : ∃ j : Nat, j < n ∧ a = (j : Int) := ⟨a.toNat, by omega, by omega⟩
theorem ok_told (a0 a1 : Int32) : Pr Inv (lf (fun S => f_X7_told S a0 a1)) (lf (fun S => f_X8_told S a0 a1)) := by
  refine rd_ok (fun S hI => ?_)
  obtain ⟨⟨A, hV, hR, hM⟩, -⟩ := hI
  obtain ⟨a, ha, hx⟩ := i_of a0
  obtain ⟨b, hb, hy⟩ := i_of a1
  unfold f_X7_told f_X8_told
  rw [e_hasMile hR hV hx ha, m_isMile hM hV hx ha, Option.bind_some, Option.bind_some, ite01, ite01]
  by_cases h1 : 0 ≤ a ∧ a < mi A
  · rw [if_pos h1, if_pos h1, e_within (y := 0) (z := 5) (b := 0) (c := 5) hy rfl rfl hb (by omega) (by omega), e_in (y := 0) (z := 5) (b := 0) (c := 5) (l_toInt hy hb) rfl rfl, Option.bind_some, Option.bind_some, ite01, ite01]
    by_cases h2 : 0 ≤ b ∧ b ≤ 5
    · rw [if_pos h2, if_pos h2]
      obtain ⟨j, hj, rfl⟩ := nat_of h1
      obtain ⟨w, hw, rfl⟩ := nat_of (a := b) (n := 6) (by omega)
      rw [e_markOf hR hV hx hy hj hw, rm_mk hM hV (ix6' hx hy) hj hw]
      exact ⟨_, rfl, rfl⟩
    · rw [if_neg h2, if_neg h2]
      exact ⟨_, rfl, rfl⟩
  · rw [if_neg h1, if_neg h1]
    exact ⟨_, rfl, rfl⟩
theorem ok_tide (a0 : Int32) : Pr Inv (lf (fun S => f_X7_tide S a0)) (lf (fun S => f_X8_tide S a0)) := by
  refine rd_ok (fun S hI => ?_)
  obtain ⟨⟨A, hV, hR, hM⟩, -⟩ := hI
  obtain ⟨a, ha, hx⟩ := i_of a0
  unfold f_X7_tide f_X8_tide
  rw [e_within (y := 0) (z := 4000) (b := 0) (c := 4000) hx rfl rfl ha (by omega) (by omega), m_isMinute hx ha, Option.bind_some, Option.bind_some, ite01, ite01]
  by_cases h1 : 0 ≤ a ∧ a ≤ 4000
  · rw [if_pos h1, if_pos h1, e_tideAt hR hV hx h1, m_tide hM hV hx h1]
    exact ⟨_, rfl, rfl⟩
  · rw [if_neg h1, if_neg h1]
    exact ⟨_, rfl, rfl⟩
/-! water, what sinks, what is under her -/
def levV (A : PT) (j : Nat) (tide wind : Int) : Int := mk A (6 * j) + (mk A (6 * j + 3) * se A 2).tdiv 10 + tide - 2 * wind
theorem levV_rg {A : PT} (hV : PV A) {j : Nat} (hj : j < mi A) {tide wind : Int} (h1 : 0 ≤ tide ∧ tide ≤ 100) (h2 : 0 ≤ wind ∧ wind ≤ 9) : 2 ≤ levV A j tide wind ∧ levV A j tide wind ≤ 370 := by
  obtain ⟨g1, g2, g3, g4, g5, g6⟩ := hV.2.1 j hj
  have s2 := hV.2.2.2.1.2.2.1
  have m1 := mul_rg (a := mk A (6 * j + 3)) (b := se A 2) (c := 20) (d := 10) (by omega) s2 (by omega)
  have m2 : 0 ≤ mk A (6 * j + 3) * se A 2 := Int.mul_nonneg g4.1 s2.1
  unfold levV
  rw [Int.tdiv_eq_ediv_of_nonneg m2]
  omega
theorem e_levelAt {S : ST} {A : PT} (hR : RC S A) (hV : PV A) {x y z : Int32} {j : Nat} {tide wind : Int} (hx : x = iI (j : Int)) (hy : y = iI tide) (hz : z = iI wind) (hj : j < mi A) : f_X1_levelAt S x y z = some (iI (levV A j tide wind)) := by
  obtain ⟨g1, g2, g3, g4, g5, g6⟩ := hV.2.1 j hj
  have s2 := hV.2.2.2.1.2.2.1
  have m1 := mul_rg (a := mk A (6 * j + 3)) (b := se A 2) (c := 20) (d := 10) (by omega) s2 (by omega)
  unfold f_X1_levelAt levV
  refine bd (r_mk hR hV (w := 0) (ix6 hx rfl) hj (by omega)) (bd (r_mk hR hV (w := 3) (ix6 hx rfl) hj (by omega)) (bd (r_se hR (i := 2) rfl (by omega)) ?_))
  refine bd (dv_ok (a := mk A (6 * j + 3) * se A 2) (b := 10) (iI_mul _ _) rfl (by omega) (by omega) (by omega)) ?_
  rw [hy, hz, show (2 : Int32) = iI 2 from rfl, iI_mul, iI_add, iI_add, iI_sub]
  rfl
theorem m_waterAt {S : ST} {A : PT} (hM : RM S A) (hV : PV A) {x y : Int32} {j : Nat} {m : Int} (hx : x = iI (j : Int)) (hy : y = iI m) (hj : j < mi A) (h : 0 ≤ m ∧ m ≤ 4000) : f_X8_waterAt S x y = some (iI (levV A j (tideV (ht A) (se A 0) m) (se A 1))) := by
  obtain ⟨g1, g2, g3, g4, g5, g6⟩ := hV.2.1 j hj
  have s2 := hV.2.2.2.1.2.2.1
  have m1 := mul_rg (a := mk A (6 * j + 3)) (b := se A 2) (c := 20) (d := 10) (by omega) s2 (by omega)
  unfold f_X8_waterAt levV
  refine bd (rm_mk hM hV (w := 0) (ix6z hx) hj (by omega)) (bd (rm_mk hM hV (w := 3) (ix6' hx rfl) hj (by omega)) (bd (rm_se hM (i := 2) rfl (by omega)) ?_))
  refine bd (dv_ok (a := mk A (6 * j + 3) * se A 2) (b := 10) (iI_mul _ _) rfl (by omega) (by omega) (by omega)) ?_
  refine bd (m_tide hM hV hy h) (bd (rm_se hM (i := 1) rfl (by omega)) ?_)
  rw [show (2 : Int32) = iI 2 from rfl, iI_mul, iI_add, iI_add, iI_sub]
  rfl
theorem ok_water (a0 a1 : Int32) : Pr Inv (lf (fun S => f_X7_water S a0 a1)) (lf (fun S => f_X8_water S a0 a1)) := by
  refine rd_ok (fun S hI => ?_)
  obtain ⟨⟨A, hV, hR, hM⟩, -⟩ := hI
  obtain ⟨a, ha, hx⟩ := i_of a0
  obtain ⟨b, hb, hy⟩ := i_of a1
  unfold f_X7_water f_X8_water
  rw [e_hasMile hR hV hx ha, m_isMile hM hV hx ha, Option.bind_some, Option.bind_some, ite01, ite01]
  by_cases h1 : 0 ≤ a ∧ a < mi A
  · rw [if_pos h1, if_pos h1, e_within (y := 0) (z := 4000) (b := 0) (c := 4000) hy rfl rfl hb (by omega) (by omega), m_isMinute hy hb, Option.bind_some, Option.bind_some, ite01, ite01]
    by_cases h2 : 0 ≤ b ∧ b ≤ 4000
    · rw [if_pos h2, if_pos h2]
      obtain ⟨j, hj, rfl⟩ := nat_of h1
      refine ⟨iI (levV A j (tideV (ht A) (se A 0) b) (se A 1)), ?_, ?_⟩
      · refine bd (e_tideAt hR hV hy h2) (bd (r_se hR (i := 1) rfl (by omega)) ?_)
        rw [e_levelAt hR hV hx rfl rfl hj]
        rfl
      · rw [m_waterAt hM hV hx hy hj h2]
        rfl
    · rw [if_neg h2, if_neg h2]
      exact ⟨_, rfl, rfl⟩
  · rw [if_neg h1, if_neg h1]
    exact ⟨_, rfl, rfl⟩
