/-! ===== the port: what both objects hold, in whole numbers ===== -/
abbrev PT : Type := (Nat × Nat) × (Nat → Int) × (Nat → Int) × (Nat → Int) × (Nat → Int)
def mi (A : PT) : Nat := A.1.1
def nsh (A : PT) : Nat := A.1.2
def mk (A : PT) : Nat → Int := A.2.1
def ht (A : PT) : Nat → Int := A.2.2.1
def se (A : PT) : Nat → Int := A.2.2.2.1
def hu (A : PT) : Nat → Int := A.2.2.2.2
def MV0 (f : Nat → Int) (j : Nat) : Prop := (20 ≤ f (6 * j) ∧ f (6 * j) ≤ 250) ∧ (10 ≤ f (6 * j + 1) ∧ f (6 * j + 1) ≤ 99) ∧ (0 ≤ f (6 * j + 2) ∧ f (6 * j + 2) ≤ 9) ∧ (0 ≤ f (6 * j + 3) ∧ f (6 * j + 3) ≤ 20) ∧ (0 ≤ f (6 * j + 4) ∧ f (6 * j + 4) ≤ 40) ∧ (1 ≤ f (6 * j + 5) ∧ f (6 * j + 5) ≤ 15)
def HV0 (f : Nat → Int) (j : Nat) : Prop := (20 ≤ f (3 * j) ∧ f (3 * j) ≤ 200) ∧ (1 ≤ f (3 * j + 1) ∧ f (3 * j + 1) ≤ 40) ∧ (1 ≤ f (3 * j + 2) ∧ f (3 * j + 2) ≤ 99)
def SV0 (f : Nat → Int) : Prop := (0 ≤ f 0 ∧ f 0 ≤ 90) ∧ (0 ≤ f 1 ∧ f 1 ≤ 9) ∧ (0 ≤ f 2 ∧ f 2 ≤ 10) ∧ (0 ≤ f 3 ∧ f 3 ≤ 1) ∧ (0 ≤ f 4 ∧ f 4 ≤ 99)
def TV0 (f : Nat → Int) : Prop := ∀ i, i < 24 → 0 ≤ f i ∧ f i ≤ 99
def PV (A : PT) : Prop := (mi A ≤ 16 ∧ nsh A ≤ 6) ∧ (∀ j, j < mi A → MV0 (mk A) j) ∧ TV0 (ht A) ∧ SV0 (se A) ∧ ∀ j, j < nsh A → HV0 (hu A) j
def Rep (S : ST) (A : PT) (ko i0 i1 kh ks km ku : Nat) : Prop := (S.1 ko i0 = iI (mi A : Int) ∧ S.1 ko i1 = iI (nsh A : Int)) ∧ (∀ i, i < 24 → S.1 kh i = iI (ht A i)) ∧ (∀ i, i < 5 → S.1 ks i = iI (se A i)) ∧ (∀ i, i < 6 * mi A → S.1 km i = iI (mk A i)) ∧ ∀ i, i < 3 * nsh A → S.1 ku i = iI (hu A i)
abbrev RC (S : ST) (A : PT) : Prop := Rep S A 1 0 1 2 3 4 5
abbrev RK (S : ST) (A : PT) : Prop := Rep S A 6 0 1 7 8 9 10
abbrev RM (S : ST) (A : PT) : Prop := Rep S A 30 0 4 32 33 31 34
theorem Rep.of {S S' : ST} {A : PT} {ko i0 i1 kh ks km ku : Nat} (h : Rep S A ko i0 i1 kh ks km ku) (h0 : S'.1 ko i0 = S.1 ko i0) (h1 : S'.1 ko i1 = S.1 ko i1) (h2 : S'.1 kh = S.1 kh) (h3 : S'.1 ks = S.1 ks) (h4 : S'.1 km = S.1 km) (h5 : S'.1 ku = S.1 ku) : Rep S' A ko i0 i1 kh ks km ku := by
  unfold Rep at h ⊢
  rw [h0, h1, h2, h3, h4, h5]
  exact h
/-! the tide -/
def tideV (f : Nat → Int) (late m : Int) : Int := f (((m - late) % 1440).toNat / 60) + ((f ((((m - late) % 1440).toNat / 60 + 1) % 24) - f (((m - late) % 1440).toNat / 60)) * (((m - late) % 1440) % 60)).tdiv 60
theorem xor_nI (a b : Nat) : nI a ^^^ nI b = nI (a ^^^ b) := by
  apply Int32.toBitVec_inj.mp
  rw [Int32.toBitVec_xor]
  show BitVec.ofNat 32 a ^^^ BitVec.ofNat 32 b = BitVec.ofNat 32 (a ^^^ b)
  exact (BitVec.ofNat_xor ..).symm
theorem xor_pos (k : Nat) (h : k < 4001) : 0 ≤ (iI (k : Int) ^^^ 1440) := by
  rw [iI_nat, show (1440 : Int32) = nI 1440 from rfl, xor_nI]
  exact nI_pos' (Nat.lt_of_lt_of_le (Nat.xor_lt_two_pow (n := 12) (by omega) (by omega)) (by decide))
theorem xor_neg : ∀ k : Nat, k < 90 → ¬ 0 ≤ (iI (-((k : Int) + 1)) ^^^ 1440) := by decide +kernel
theorem e_fm {x : Int32} {a : Int} (hx : x = iI a) (h1 : -90 ≤ a) (h2 : a ≤ 4000) : f_J9_floorMod_7cf53 x 1440 = some (iI (a % 1440)) := by
  unfold f_J9_floorMod_7cf53
  refine bd (rm_ok (b := 1440) hx rfl (by omega) (by omega) (by omega)) ?_
  rcases Int.lt_or_le a 0 with q | q
  · obtain ⟨k, hk, rfl⟩ : ∃ k : Nat, k < 90 ∧ a = -((k : Int) + 1) := ⟨(-a - 1).toNat, by omega, by omega⟩
    have e1 : (-((k : Int) + 1)).tmod 1440 = -((k : Int) + 1) := by
      rw [Int.neg_tmod, Int.tmod_eq_of_lt (by omega) (by omega)]
    rw [hx, if_neg (xor_neg k hk), e1, if_neg (iI_ne0 (by omega) (by omega)), show (1440 : Int32) = iI 1440 from rfl, iI_add, show -((k : Int) + 1) + 1440 = (-((k : Int) + 1)) % 1440 by omega]
  · obtain ⟨k, rfl⟩ := Int.eq_ofNat_of_zero_le q
    rw [hx, if_pos (xor_pos k (by omega)), Int.tmod_eq_emod_of_nonneg (by omega)]
theorem tide_arith {f : Nat → Int} (hf : TV0 f) {late m : Int} (h1 : 0 ≤ late ∧ late ≤ 90) (h2 : 0 ≤ m ∧ m ≤ 4000) : 0 ≤ tideV f late m ∧ tideV f late m ≤ 99 := by
  unfold tideV
  generalize hq : (m - late) % 1440 = q
  have hq1 : 0 ≤ q ∧ q < 1440 := by omega
  obtain ⟨n, rfl⟩ := Int.eq_ofNat_of_zero_le hq1.1
  have e1 : ((n : Int)).toNat = n := Int.toNat_natCast n
  rw [e1]
  have a1 := hf (n / 60) (by omega)
  have a2 := hf ((n / 60 + 1) % 24) (by omega)
  generalize f (n / 60) = u at *
  generalize f ((n / 60 + 1) % 24) = v at *
  have hr : 0 ≤ (n : Int) % 60 ∧ (n : Int) % 60 < 60 := by omega
  generalize (n : Int) % 60 = r at *
  rcases Int.lt_or_le v u with g | g
  · have e2 : ((v - u) * r).tdiv 60 = -(((u - v) * r) / 60) := by
      rw [show (v - u) * r = -((u - v) * r) by rw [← Int.neg_mul]; congr 1; omega, Int.neg_tdiv, Int.tdiv_eq_ediv_of_nonneg (Int.mul_nonneg (by omega) hr.1)]
    have e3 : ((u - v) * r) / 60 ≤ u - v := by
      apply Int.ediv_le_of_le_mul (by omega)
      exact Int.mul_le_mul_of_nonneg_left (by omega) (by omega)
    have e4 : 0 ≤ ((u - v) * r) / 60 := Int.ediv_nonneg (Int.mul_nonneg (by omega) hr.1) (by omega)
    rw [e2]
    omega
  · have e2 : ((v - u) * r).tdiv 60 = ((v - u) * r) / 60 := Int.tdiv_eq_ediv_of_nonneg (Int.mul_nonneg (by omega) hr.1)
    have e3 : ((v - u) * r) / 60 ≤ v - u := by
      apply Int.ediv_le_of_le_mul (by omega)
      exact Int.mul_le_mul_of_nonneg_left (by omega) (by omega)
    have e4 : 0 ≤ ((v - u) * r) / 60 := Int.ediv_nonneg (Int.mul_nonneg (by omega) hr.1) (by omega)
    rw [e2]
    omega
theorem mul_rg {a b c d : Int} (h1 : -c ≤ a ∧ a ≤ c) (h2 : 0 ≤ b ∧ b ≤ d) (h3 : 0 ≤ c) : -(c * d) ≤ a * b ∧ a * b ≤ c * d := by
  have h4 : c * b ≤ c * d := Int.mul_le_mul_of_nonneg_left h2.2 h3
  have h5 : a * b ≤ c * b := Int.mul_le_mul_of_nonneg_right h1.2 h2.1
  have h6 : -c * b ≤ a * b := Int.mul_le_mul_of_nonneg_right h1.1 h2.1
  rw [Int.neg_mul] at h6
  omega
theorem e_tideBy {S : ST} {f : Nat → Int} (hS : ∀ i, i < 24 → S.1 2 i = iI (f i)) (hf : TV0 f) {x y : Int32} {late m : Int} (hx : x = iI late) (hy : y = iI m) (h1 : 0 ≤ late ∧ late ≤ 90) (h2 : 0 ≤ m ∧ m ≤ 4000) : f_X1_tideBy S x y = some (iI (tideV f late m)) := by
  unfold f_X1_tideBy tideV
  refine bd (e_fm (a := m - late) (by rw [hx, hy, iI_sub]) (by omega) (by omega)) ?_
  generalize hq : (m - late) % 1440 = q
  have hq1 : 0 ≤ q ∧ q < 1440 := by omega
  obtain ⟨n, rfl⟩ := Int.eq_ofNat_of_zero_le hq1.1
  have e1 : ((n : Int)).toNat = n := Int.toNat_natCast n
  rw [e1]
  have d1 : dv (iI (n : Int)) 60 = some (iI ((n / 60 : Nat) : Int)) := by
    rw [dv_ok (b := 60) rfl (show (60 : Int32) = iI 60 from rfl) (by omega) (by omega) (by omega), Int.tdiv_eq_ediv_of_nonneg (by omega)]
    rfl
  refine bd d1 (bd (rI_ok rfl rfl (show n / 60 < 24 by omega) (by omega)) (bd d1 ?_))
  refine bd (rm_ok (a := ((n / 60 + 1 : Nat) : Int)) (b := 24) (by rw [show (1 : Int32) = iI 1 from rfl, iI_add]; rfl) rfl (by omega) (by omega) (by omega)) ?_
  have e2 : (((n / 60 + 1 : Nat) : Int)).tmod 24 = (((n / 60 + 1) % 24 : Nat) : Int) := by rw [Int.tmod_eq_emod_of_nonneg (by omega)]; rfl
  rw [e2]
  refine bd (rI_ok rfl rfl (show (n / 60 + 1) % 24 < 24 by omega) (by omega)) ?_
  refine bd (rm_ok (b := 60) rfl (show (60 : Int32) = iI 60 from rfl) (by omega) (by omega) (by omega)) ?_
  rw [Int.tmod_eq_emod_of_nonneg (by omega), hS _ (show n / 60 < 24 by omega), hS _ (show (n / 60 + 1) % 24 < 24 by omega)]
  have a1 := hf (n / 60) (by omega)
  have a2 := hf ((n / 60 + 1) % 24) (by omega)
  have r1 := mul_rg (a := f ((n / 60 + 1) % 24) - f (n / 60)) (b := (n : Int) % 60) (c := 99) (d := 60) (by omega) (by omega) (by omega)
  refine bd (dv_ok (a := (f ((n / 60 + 1) % 24) - f (n / 60)) * ((n : Int) % 60)) (b := 60) (by rw [iI_sub, iI_mul]) rfl (by omega) (by omega) (by omega)) ?_
  rw [iI_add]
theorem m_tideAt {S : ST} {f g : Nat → Int} (hS : ∀ i, i < 24 → S.1 32 i = iI (f i)) (hf : TV0 f) (hs : S.1 33 0 = iI (g 0)) {y : Int32} {m : Int} (hy : y = iI m) (h1 : 0 ≤ g 0 ∧ g 0 ≤ 90) (h2 : 0 ≤ m ∧ m ≤ 4000) : f_X8_tideAt S y = some (iI (tideV f (g 0) m)) := by
  have key : ∀ (y0 y1 : Int32) (n : Nat), y1 + y0 = iI (n : Int) → n < 1440 → f_X8_tideAt_25 S y0 y1 = some (iI (f (n / 60) + ((f ((n / 60 + 1) % 24) - f (n / 60)) * ((n : Int) % 60)).tdiv 60)) := by
    intro y0 y1 n hn hn2
    unfold f_X8_tideAt_25
    rw [hn]
    have d1 : dv (iI (n : Int)) 60 = some (iI ((n / 60 : Nat) : Int)) := by
      rw [dv_ok (b := 60) rfl (show (60 : Int32) = iI 60 from rfl) (by omega) (by omega) (by omega), Int.tdiv_eq_ediv_of_nonneg (by omega)]
      rfl
    refine bd d1 (bd (rI_ok rfl rfl (show n / 60 < 24 by omega) (by omega)) ?_)
    refine bd (rm_ok (a := ((n / 60 + 1 : Nat) : Int)) (b := 24) (by rw [show (1 : Int32) = iI 1 from rfl, iI_add]; rfl) rfl (by omega) (by omega) (by omega)) ?_
    have e2 : (((n / 60 + 1 : Nat) : Int)).tmod 24 = (((n / 60 + 1) % 24 : Nat) : Int) := by rw [Int.tmod_eq_emod_of_nonneg (by omega)]; rfl
    rw [e2]
    refine bd (rI_ok rfl rfl (show (n / 60 + 1) % 24 < 24 by omega) (by omega)) (bd (rI_ok rfl rfl (show n / 60 < 24 by omega) (by omega)) ?_)
    refine bd (rm_ok (b := 60) rfl (show (60 : Int32) = iI 60 from rfl) (by omega) (by omega) (by omega)) ?_
    rw [Int.tmod_eq_emod_of_nonneg (by omega), hS _ (show n / 60 < 24 by omega), hS _ (show (n / 60 + 1) % 24 < 24 by omega)]
    have a1 := hf (n / 60) (by omega)
    have a2 := hf ((n / 60 + 1) % 24) (by omega)
    have r1 := mul_rg (a := f ((n / 60 + 1) % 24) - f (n / 60)) (b := (n : Int) % 60) (c := 99) (d := 60) (by omega) (by omega) (by omega)
    refine bd (dv_ok (a := (f ((n / 60 + 1) % 24) - f (n / 60)) * ((n : Int) % 60)) (b := 60) (by rw [iI_sub, iI_mul]) rfl (by omega) (by omega) (by omega)) ?_
    rw [iI_add]
  unfold f_X8_tideAt tideV
  refine bd (rI_ok (a := 0) (n := 0) rfl rfl (by decide) (by omega)) ?_
  rw [hs]
  refine bd (rm_ok (a := m - g 0) (b := 1440) (by rw [hy, iI_sub]) rfl (by omega) (by omega) (by omega)) ?_
  rcases Int.lt_or_le (m - g 0) 0 with q | q
  · have e1 : (m - g 0).tmod 1440 = m - g 0 := by
      rw [show m - g 0 = -(g 0 - m) by omega, Int.neg_tmod, Int.tmod_eq_of_lt (by omega) (by omega)]
    rw [e1, if_neg (show ¬ (0 : Int32) ≤ iI (m - g 0) from fun h => absurd ((c_le (a := 0) (b := m - g 0) rfl rfl (by omega) (by omega)).mp h) (by omega))]
    have e2 : (m - g 0) % 1440 = m - g 0 + 1440 := by omega
    obtain ⟨n, hn⟩ := Int.eq_ofNat_of_zero_le (show 0 ≤ m - g 0 + 1440 by omega)
    rw [e2, hn, show (((n : Int))).toNat = n from Int.toNat_natCast n]
    exact key _ _ n (by rw [show (1440 : Int32) = iI 1440 from rfl, iI_add, hn]) (by omega)
  · have e1 : (m - g 0).tmod 1440 = (m - g 0) % 1440 := Int.tmod_eq_emod_of_nonneg q
    obtain ⟨n, hn⟩ := Int.eq_ofNat_of_zero_le (show 0 ≤ (m - g 0) % 1440 by omega)
    rw [e1, hn, show (((n : Int))).toNat = n from Int.toNat_natCast n, if_pos (show (0 : Int32) ≤ iI (n : Int) from (c_le (a := 0) (b := (n : Int)) rfl rfl (by omega) (by omega)).mpr (by omega))]
    exact key _ _ n (by rw [show (0 : Int32) = iI 0 from rfl, iI_add, Int.add_zero]) (by omega)
/-! reads -/
theorem e_hasMile {S : ST} {A : PT} (hR : RC S A) (hV : PV A) {x : Int32} {a : Int} (hx : x = iI a) (ha : Rg a) : f_X1_hasMile S x = some (if 0 ≤ a ∧ a < mi A then 1 else 0) := by
  have h16 := hV.1.1
  unfold f_X1_hasMile
  rw [hR.1.1, i_lt (y := 0) (b := 0) hx rfl ha (by omega), i_le (x := iI (mi A : Int)) rfl hx (by omega) ha]
  by_cases h1 : a < 0
  · rw [if_pos h1, if_neg (by omega)]
  · rw [if_neg h1]
    by_cases h2 : (mi A : Int) ≤ a
    · rw [if_pos h2, if_neg (by omega)]
    · rw [if_neg h2, if_pos (by omega)]
theorem e_hasShip {S : ST} {A : PT} (hR : RC S A) (hV : PV A) {x : Int32} {a : Int} (hx : x = iI a) (ha : Rg a) : f_X1_hasShip S x = some (if 0 ≤ a ∧ a < nsh A then 1 else 0) := by
  have h16 := hV.1.2
  unfold f_X1_hasShip
  rw [hR.1.2, i_lt (y := 0) (b := 0) hx rfl ha (by omega), i_le (x := iI (nsh A : Int)) rfl hx (by omega) ha]
  by_cases h1 : a < 0
  · rw [if_pos h1, if_neg (by omega)]
  · rw [if_neg h1]
    by_cases h2 : (nsh A : Int) ≤ a
    · rw [if_pos h2, if_neg (by omega)]
    · rw [if_neg h2, if_pos (by omega)]
theorem m_isMile {S : ST} {A : PT} (hR : RM S A) (hV : PV A) {x : Int32} {a : Int} (hx : x = iI a) (ha : Rg a) : f_X8_isMile S x = some (if 0 ≤ a ∧ a < mi A then 1 else 0) := by
  have h16 := hV.1.1
  unfold f_X8_isMile
  refine bd (e_in (b := 0) (c := (mi A : Int) - 1) (l_toInt hx ha) rfl (l_toInt (by rw [hR.1.1, show (1 : Int32) = iI 1 from rfl, iI_sub]) (by omega))) ?_
  rw [bz01, Option.bind_some]
  by_cases h : 0 ≤ a ∧ a < mi A
  · rw [if_pos h, if_pos (by omega)]
  · rw [if_neg h, if_neg (by omega)]
theorem m_isShip {S : ST} {A : PT} (hR : RM S A) (hV : PV A) {x : Int32} {a : Int} (hx : x = iI a) (ha : Rg a) : f_X8_isShip S x = some (if 0 ≤ a ∧ a < nsh A then 1 else 0) := by
  have h16 := hV.1.2
  unfold f_X8_isShip
  refine bd (e_in (b := 0) (c := (nsh A : Int) - 1) (l_toInt hx ha) rfl (l_toInt (by rw [hR.1.2, show (1 : Int32) = iI 1 from rfl, iI_sub]) (by omega))) ?_
  rw [bz01, Option.bind_some]
  by_cases h : 0 ≤ a ∧ a < nsh A
  · rw [if_pos h, if_pos (by omega)]
  · rw [if_neg h, if_neg (by omega)]
theorem ix6 {x y : Int32} {j w : Nat} (hx : x = iI (j : Int)) (hy : y = iI (w : Int)) : (x * 6) + y = iI ((6 * j + w : Nat) : Int) := by
  rw [hx, hy, show (6 : Int32) = iI 6 from rfl, iI_mul, iI_add]
  congr 1
  omega
theorem ix6' {x y : Int32} {j w : Nat} (hx : x = iI (j : Int)) (hy : y = iI (w : Int)) : (6 * x) + y = iI ((6 * j + w : Nat) : Int) := by
  rw [hx, hy, show (6 : Int32) = iI 6 from rfl, iI_mul, iI_add]
  congr 1
theorem ix6z {x : Int32} {j : Nat} (hx : x = iI (j : Int)) : 6 * x = iI ((6 * j : Nat) : Int) := by
  rw [hx, show (6 : Int32) = iI 6 from rfl, iI_mul]
  congr 1
theorem ix3 {x y : Int32} {j w : Nat} (hx : x = iI (j : Int)) (hy : y = iI (w : Int)) : (x * 3) + y = iI ((3 * j + w : Nat) : Int) := by
  rw [hx, hy, show (3 : Int32) = iI 3 from rfl, iI_mul, iI_add]
  congr 1
  omega
theorem ix3' {x y : Int32} {j w : Nat} (hx : x = iI (j : Int)) (hy : y = iI (w : Int)) : (3 * x) + y = iI ((3 * j + w : Nat) : Int) := by
  rw [hx, hy, show (3 : Int32) = iI 3 from rfl, iI_mul, iI_add]
  congr 1
theorem ix3z {x : Int32} {j : Nat} (hx : x = iI (j : Int)) : 3 * x = iI ((3 * j : Nat) : Int) := by
  rw [hx, show (3 : Int32) = iI 3 from rfl, iI_mul]
  congr 1
/-- a mark of a mile, as both read it -/
theorem r_mk {S : ST} {A : PT} (hR : RC S A) (hV : PV A) {x : Int32} {j w : Nat} (hx : x = iI ((6 * j + w : Nat) : Int)) (hj : j < mi A) (hw : w < 6) : rI S 0 4 x = some (iI (mk A (6 * j + w))) := by
  have := hV.1.1
  rw [rI_ok (t := 0) (k := 4) hx rfl (show 6 * j + w < 96 by omega) (by omega), hR.2.2.2.1 _ (by omega)]
theorem rm_mk {S : ST} {A : PT} (hR : RM S A) (hV : PV A) {x : Int32} {j w : Nat} (hx : x = iI ((6 * j + w : Nat) : Int)) (hj : j < mi A) (hw : w < 6) : rI S 0 31 x = some (iI (mk A (6 * j + w))) := by
  have := hV.1.1
  rw [rI_ok (t := 0) (k := 31) hx rfl (show 6 * j + w < 96 by omega) (by omega), hR.2.2.2.1 _ (by omega)]
theorem r_hu {S : ST} {A : PT} (hR : RC S A) (hV : PV A) {x : Int32} {j w : Nat} (hx : x = iI ((3 * j + w : Nat) : Int)) (hj : j < nsh A) (hw : w < 3) : rI S 0 5 x = some (iI (hu A (3 * j + w))) := by
  have := hV.1.2
  rw [rI_ok (t := 0) (k := 5) hx rfl (show 3 * j + w < 18 by omega) (by omega), hR.2.2.2.2 _ (by omega)]
theorem rm_hu {S : ST} {A : PT} (hR : RM S A) (hV : PV A) {x : Int32} {j w : Nat} (hx : x = iI ((3 * j + w : Nat) : Int)) (hj : j < nsh A) (hw : w < 3) : rI S 0 34 x = some (iI (hu A (3 * j + w))) := by
  have := hV.1.2
  rw [rI_ok (t := 0) (k := 34) hx rfl (show 3 * j + w < 18 by omega) (by omega), hR.2.2.2.2 _ (by omega)]
theorem r_se {S : ST} {A : PT} (hR : RC S A) {x : Int32} {i : Nat} (hx : x = iI (i : Int)) (hi : i < 5) : rI S 0 3 x = some (iI (se A i)) := by
  rw [rI_ok (t := 0) (k := 3) hx rfl (show i < 5 from hi) (by omega), hR.2.2.1 _ hi]
theorem rm_se {S : ST} {A : PT} (hR : RM S A) {x : Int32} {i : Nat} (hx : x = iI (i : Int)) (hi : i < 5) : rI S 0 33 x = some (iI (se A i)) := by
  rw [rI_ok (t := 0) (k := 33) hx rfl (show i < 5 from hi) (by omega), hR.2.2.1 _ hi]
theorem e_markOf {S : ST} {A : PT} (hR : RC S A) (hV : PV A) {x y : Int32} {j w : Nat} (hx : x = iI (j : Int)) (hy : y = iI (w : Int)) (hj : j < mi A) (hw : w < 6) : f_X1_markOf S x y = some (iI (mk A (6 * j + w))) := by
  unfold f_X1_markOf
  rw [r_mk hR hV (ix6 hx hy) hj hw]
  rfl
theorem e_hullOf {S : ST} {A : PT} (hR : RC S A) (hV : PV A) {x y : Int32} {j w : Nat} (hx : x = iI (j : Int)) (hy : y = iI (w : Int)) (hj : j < nsh A) (hw : w < 3) : f_X1_hullOf S x y = some (iI (hu A (3 * j + w))) := by
  unfold f_X1_hullOf
  rw [r_hu hR hV (ix3 hx hy) hj hw]
  rfl
theorem e_tideAt {S : ST} {A : PT} (hR : RC S A) (hV : PV A) {x : Int32} {m : Int} (hx : x = iI m) (h : 0 ≤ m ∧ m ≤ 4000) : f_X1_tideAt S x = some (iI (tideV (ht A) (se A 0) m)) := by
  unfold f_X1_tideAt
  refine bd (r_se hR (i := 0) rfl (by omega)) ?_
  rw [e_tideBy hR.2.1 hV.2.2.1 rfl hx hV.2.2.2.1.1 h]
  rfl
theorem m_tide {S : ST} {A : PT} (hR : RM S A) (hV : PV A) {x : Int32} {m : Int} (hx : x = iI m) (h : 0 ≤ m ∧ m ≤ 4000) : f_X8_tideAt S x = some (iI (tideV (ht A) (se A 0) m)) :=
  m_tideAt hR.2.1 hV.2.2.1 (hR.2.2.1 0 (by omega)) hx hV.2.2.2.1.1 h
