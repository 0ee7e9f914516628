/-! ===== gauged ===== -/
theorem x_get {S : ST} {k j : Nat} (hk : k < 4) (hj : j < 24) {x y : Int32} (hx : x = iI (k : Int)) (hy : y = iI (j : Int)) : f_X3_get S x y = some (S.1 (173 + k) j) := by
  unfold f_X3_get
  rw [r_sh hx hk, Option.bind_some, rI_ok hy rfl (by rw [al173 k hk]; exact hj) (by omega), Option.bind_some]
theorem ix2 {x y : Int32} {b i : Nat} (hx : x = iI (b : Int)) (hy : y = iI (i : Int)) : x + 2 * y = iI ((b + 2 * i : Nat) : Int) := by
  rw [hx, hy, show (2 : Int32) = iI 2 from rfl, iI_mul, iI_add]
  congr 1
theorem ix2' {x y : Int32} {b i : Nat} (hx : x = iI (b : Int)) (hy : y = iI (i : Int)) : x + 2 * y + 1 = iI ((b + 2 * i + 1 : Nat) : Int) := by
  rw [ix2 hx hy, i_next]
/-- the reference's settings with another lateness -/
def OnlyL (S S' : ST) (v : Int) : Prop := (∀ a, a ≠ 33 → S'.1 a = S.1 a) ∧ (∀ i, i ≠ 0 → S'.1 33 i = S.1 33 i) ∧ S'.1 33 0 = iI v ∧ S'.2 = S.2
theorem g_chk {S : ST} {k b m : Nat} (hk : k < 4) (hb : b + 2 * m ≤ 24) {x1 x3 x4 x5 x7 : Int32} (h1 : x1 = iI (k : Int)) (h3 : x3 = iI (b : Int)) (h4 : x4 = iI (m : Int)) (h7 : x7 = iI ((24 * k + b : Nat) : Int)) (hs : ∀ i, i < 24 → S.1 (173 + k) i = S.1 48 (24 * k + i)) : ∀ (n i : Nat), m < i + n → i ≤ m → (f_X7_gauged_50 S n x1 x3 x4 x5 (iI (i : Int)) = some (-2) ∧ f_X8_gauged_74 n S x4 x5 x7 (iI (i : Int)) = some (-2, S)) ∨ ((∀ j, i ≤ j → j < m → ∃ z : Int, (0 ≤ z ∧ z ≤ 1439) ∧ S.1 48 (24 * k + (b + 2 * j)) = iI z) ∧ f_X7_gauged_50 S n x1 x3 x4 x5 (iI (i : Int)) = (f_X7_latesBy S x1 x3 x4 x5).bind (fun v1 => some v1) ∧ f_X8_gauged_74 n S x4 x5 x7 (iI (i : Int)) = (rI S 0 33 0).bind fun v1 => f_X8_gauged_130 FU S x4 x5 x7 v1 0 (-4) (-4) 0) := by
  intro n
  induction n with
  | zero => intro i q1 q2; omega
  | succ n ih =>
    intro i q1 q2
    rw [f_X7_gauged_50, f_X8_gauged_74, i_le (x := x4) (y := iI (i : Int)) h4 rfl (by omega) (by omega), i_le (x := x4) (y := iI (i : Int)) h4 rfl (by omega) (by omega)]
    by_cases h : (m : Int) ≤ (i : Int)
    · rw [if_pos h, if_pos h]
      exact Or.inr ⟨fun j h1 h2 => by omega, rfl, rfl⟩
    · obtain ⟨z, hz, ez⟩ := i_of (S.1 48 (24 * k + (b + 2 * i)))
      rw [if_neg h, if_neg h, x_get hk (j := b + 2 * i) (by omega) h1 (ix2 h3 rfl), Option.bind_some, hs _ (by omega), rI_ok (x := x7 + 2 * iI (i : Int)) (n := 24 * k + (b + 2 * i)) (a := ((24 * k + b + 2 * i : Nat) : Int)) (ix2 h7 rfl) (by omega) (by rw [al48]; omega) (by omega), Option.bind_some, gt01 (e_isMinute ez hz), gt01 (m_isStart ez hz), i_next]
      by_cases hc : 0 ≤ z ∧ z ≤ 1439
      · rw [if_pos hc, if_pos hc]
        rcases ih (i + 1) (by omega) (by omega) with g | ⟨g0, g1, g2⟩
        · exact Or.inl g
        · refine Or.inr ⟨fun j h1 h2 => ?_, g1, g2⟩
          by_cases hj : j = i
          · subst hj; exact ⟨z, hc, ez⟩
          · exact g0 j (by omega) h2
      · rw [if_neg hc, if_neg hc]
        exact Or.inl ⟨rfl, rfl⟩
theorem g_late {S : ST} {A : PT} (hR : RC S A) (hV : PV A) {k b m : Nat} (hk : k < 4) (hb : b + 2 * m ≤ 24) {x1 x3 x4 x5 x7 x8 : Int32} (h1 : x1 = iI (k : Int)) (h3 : x3 = iI (b : Int)) (h4 : x4 = iI (m : Int)) (h7 : x7 = iI ((24 * k + b : Nat) : Int)) (hs : ∀ i, i < 24 → S.1 (173 + k) i = S.1 48 (24 * k + i)) (hmn : ∀ j, j < m → ∃ z : Int, (0 ≤ z ∧ z ≤ 1439) ∧ S.1 48 (24 * k + (b + 2 * j)) = iI z) {la : Int} (hl : 0 ≤ la ∧ la ≤ 90) : ∀ (n i : Nat), m < i + n → i ≤ m → ∃ c : Int, (c = 0 ∨ c = 1) ∧ f_X7_isLate_3 S n (iI la) x1 x3 x4 (iI (i : Int)) = some (iI c) ∧ ∀ (k130 : ST → Int32 → Int32 → Int32 → Int32 → Int32 → Int32 → Int32 → Int32 → Option (Int32 × ST)) (T : ST) (x9 x10 x11 x12 : Int32), (∀ i, i < 24 → T.1 32 i = iI (ht A i)) → T.1 33 0 = iI la → T.1 48 = S.1 48 → f_X8_gauged_151 k130 n T x4 x5 x7 x8 x9 x10 x11 x12 1 (iI (i : Int)) = f_X8_gauged_221 k130 T x4 x5 x7 x8 x10 x11 x12 (iI c) (iI c) x9 := by
  have z0 : ∀ (n i : Nat), m < i + n → i ≤ m → ∀ (k130 : ST → Int32 → Int32 → Int32 → Int32 → Int32 → Int32 → Int32 → Int32 → Option (Int32 × ST)) (T : ST) (x9 x10 x11 x12 : Int32), f_X8_gauged_151 k130 n T x4 x5 x7 x8 x9 x10 x11 x12 0 (iI (i : Int)) = f_X8_gauged_221 k130 T x4 x5 x7 x8 x10 x11 x12 0 0 x9 := by
    intro n
    induction n with
    | zero => intro i q1 q2; omega
    | succ n ih =>
      intro i q1 q2 k130 T x9 x10 x11 x12
      rw [f_X8_gauged_151, i_le (x := x4) (y := iI (i : Int)) h4 rfl (by omega) (by omega), if_pos rfl, if_pos rfl]
      by_cases h : (m : Int) ≤ (i : Int)
      · rw [if_pos h]
      · rw [if_neg h, f_X8_gauged_200, f_X8_gauged_201, i_next]
        exact ih (i + 1) (by omega) (by omega) k130 T x9 x10 x11 x12
  intro n
  induction n with
  | zero => intro i q1 q2; omega
  | succ n ih =>
    intro i q1 q2
    by_cases h : (m : Int) ≤ (i : Int)
    · refine ⟨1, Or.inr rfl, ?_, fun k130 T x9 x10 x11 x12 _ _ _ => ?_⟩
      · rw [f_X7_isLate_3, i_le (x := x4) (y := iI (i : Int)) h4 rfl (by omega) (by omega), if_pos h]; rfl
      · rw [f_X8_gauged_151, i_le (x := x4) (y := iI (i : Int)) h4 rfl (by omega) (by omega), if_pos h, if_neg (by decide)]; rfl
    · obtain ⟨z, hz, ez⟩ := hmn i (by omega)
      have ec : f_X7_isLate_3 S (n + 1) (iI la) x1 x3 x4 (iI (i : Int)) = if iI (tideV (ht A) la z) = S.1 48 (24 * k + (b + 2 * i + 1)) then f_X7_isLate_3 S n (iI la) x1 x3 x4 (iI ((i + 1 : Nat) : Int)) else some 0 := by
        rw [f_X7_isLate_3, i_le (x := x4) (y := iI (i : Int)) h4 rfl (by omega) (by omega), if_neg h, x_get hk (j := b + 2 * i) (by omega) h1 (ix2 h3 rfl), Option.bind_some, hs _ (by omega), e_tideBy hR.2.1 hV.2.2.1 (x := iI la) rfl ez hl (by omega), Option.bind_some, x_get hk (j := b + 2 * i + 1) (by omega) h1 (ix2' h3 rfl), Option.bind_some, hs _ (by omega), i_next]
      have em : ∀ (k130 : ST → Int32 → Int32 → Int32 → Int32 → Int32 → Int32 → Int32 → Int32 → Option (Int32 × ST)) (T : ST) (x9 x10 x11 x12 : Int32), (∀ i, i < 24 → T.1 32 i = iI (ht A i)) → T.1 33 0 = iI la → T.1 48 = S.1 48 → f_X8_gauged_151 k130 (n + 1) T x4 x5 x7 x8 x9 x10 x11 x12 1 (iI (i : Int)) = if iI (tideV (ht A) la z) = S.1 48 (24 * k + (b + 2 * i + 1)) then f_X8_gauged_151 k130 n T x4 x5 x7 x8 x9 x10 x11 x12 1 (iI ((i + 1 : Nat) : Int)) else f_X8_gauged_151 k130 n T x4 x5 x7 x8 x9 x10 x11 x12 0 (iI ((i + 1 : Nat) : Int)) := by
        intro k130 T x9 x10 x11 x12 t1 t2 t3
        have tt : f_X8_tideAt T (S.1 48 (24 * k + (b + 2 * i))) = some (iI (tideV (ht A) la z)) := m_tideAt (g := fun _ => la) t1 hV.2.2.1 t2 ez hl (by omega)
        rw [f_X8_gauged_151, i_le (x := x4) (y := iI (i : Int)) h4 rfl (by omega) (by omega), if_neg h, if_neg (show ¬ (1 : Int32) = 0 by decide), rI_ok (x := x7 + 2 * iI (i : Int)) (n := 24 * k + (b + 2 * i)) (a := ((24 * k + b + 2 * i : Nat) : Int)) (ix2 h7 rfl) (by omega) (by rw [al48]; omega) (by omega), Option.bind_some, t3, tt, Option.bind_some, rI_ok (x := x7 + 2 * iI (i : Int) + 1) (n := 24 * k + (b + 2 * i + 1)) (a := ((24 * k + b + 2 * i + 1 : Nat) : Int)) (ix2' h7 rfl) (by omega) (by rw [al48]; omega) (by omega), Option.bind_some, t3, f_X8_gauged_200, f_X8_gauged_201, f_X8_gauged_201, i_next]
      by_cases hc : iI (tideV (ht A) la z) = S.1 48 (24 * k + (b + 2 * i + 1))
      · obtain ⟨c, c1, c2, c3⟩ := ih (i + 1) (by omega) (by omega)
        refine ⟨c, c1, by rw [ec, if_pos hc, c2], fun k130 T x9 x10 x11 x12 t1 t2 t3 => ?_⟩
        rw [em k130 T x9 x10 x11 x12 t1 t2 t3, if_pos hc]
        exact c3 k130 T x9 x10 x11 x12 t1 t2 t3
      · refine ⟨0, Or.inl rfl, by rw [ec, if_neg hc]; rfl, fun k130 T x9 x10 x11 x12 t1 t2 t3 => ?_⟩
        rw [em k130 T x9 x10 x11 x12 t1 t2 t3, if_neg hc]
        exact z0 n (i + 1) (by omega) (by omega) k130 T x9 x10 x11 x12
