/-! ===== the mathematics: tools ===== -/
abbrev Rg (a : Int) : Prop := -2147483648 ≤ a ∧ a < 2147483648
theorem bd {α β : Type} {x : Option α} {f : α → Option β} {a : α} {r : Option β} (h : x = some a) (h2 : f a = r) : x.bind f = r := by
  subst h; exact h2
theorem bd2 {α β : Type} {x : Option (α × ST)} {f : α → ST → Option β} {a : α} {S : ST} {r : Option β} (h : x = some (a, S)) (h2 : f a S = r) : b2 x f = r := by
  subst h; exact h2
theorem i_lit (n : Nat) : (OfNat.ofNat n : Int32) = iI (n : Int) := rfl
theorem l_lit (n : Nat) : (OfNat.ofNat n : Int64) = Int64.ofInt (n : Int) := rfl
theorem dv_ok {x y : Int32} {a b : Int} (hx : x = iI a) (hy : y = iI b) (ha : Rg a) (hb : Rg b) (h0 : b ≠ 0) : dv x y = some (iI (a.tdiv b)) := by
  subst hx; subst hy
  rw [dv, if_neg (iI_ne0 hb h0), iI_div ha hb]
theorem rm_ok {x y : Int32} {a b : Int} (hx : x = iI a) (hy : y = iI b) (ha : Rg a) (hb : Rg b) (h0 : b ≠ 0) : rm x y = some (iI (a.tmod b)) := by
  subst hx; subst hy
  rw [rm, if_neg (iI_ne0 hb h0), iI_rem ha hb]
theorem c_lt {x y : Int32} {a b : Int} (hx : x = iI a) (hy : y = iI b) (ha : Rg a) (hb : Rg b) : x < y ↔ a < b := by
  subst hx; subst hy; exact iI_lt ha hb
theorem c_le {x y : Int32} {a b : Int} (hx : x = iI a) (hy : y = iI b) (ha : Rg a) (hb : Rg b) : x ≤ y ↔ a ≤ b := by
  subst hx; subst hy; exact iI_le ha hb
theorem c_eq {x y : Int32} {a b : Int} (hx : x = iI a) (hy : y = iI b) (ha : Rg a) (hb : Rg b) : x = y ↔ a = b := by
  subst hx; subst hy; exact iI_eq ha hb
theorem rI_ok {S : ST} {t k : Nat} {x : Int32} {a : Int} {n : Nat} (hx : x = iI a) (hn : a = (n : Int)) (h : n < al t k) (hs : n < 2147483648) : rI S t k x = some (S.1 k n) := by
  subst hx; subst hn
  rw [rI, iI_nat, nI_clamp hs, if_pos ⟨nI_pos' hs, h⟩]
theorem rS_ok {j : Nat} {x : Int32} {a : Int} {n : Nat} (hx : x = iI a) (hn : a = (n : Int)) (h : n < sN j) (hs : n < 2147483648) : rS j x = some (sv j n) := by
  subst hx; subst hn
  rw [rS, iI_nat, nI_clamp hs, if_pos ⟨nI_pos' hs, h⟩]
theorem wI_ok {S : ST} {k : Nat} {x v : Int32} {a : Int} {n : Nat} (hx : x = iI a) (hn : a = (n : Int)) (h : n < al 0 k) (hs : n < 2147483648) : wI S k x v = some (sI S k n v) := by
  subst hx; subst hn
  rw [wI, iI_nat, nI_clamp hs, if_pos ⟨nI_pos' hs, h⟩]
theorem rA_ok {t k : Nat} {x : Int32} {a : Int} {n : Nat} (hx : x = iI a) (hn : a = (n : Int)) (h : n < al t k) (hs : n < 2147483648) : rA t k x = some (ob k + n) := by
  subst hx; subst hn
  rw [rA, iI_nat, nI_clamp hs, if_pos ⟨nI_pos' hs, h⟩]
theorem bz_0 : bz 0 = some 0 := rfl
theorem bz_1 : bz 1 = some 1 := rfl
/-- each int is the int of a whole number in range -/
theorem i_of (x : Int32) : ∃ a : Int, Rg a ∧ x = iI a := ⟨x.toInt, iI_rng x, (iI_of x).symm⟩
/-! two tests of a range, the class's and the reference's -/
theorem e_within {x y z : Int32} {a b c : Int} (hx : x = iI a) (hy : y = iI b) (hz : z = iI c) (ha : Rg a) (hb : Rg b) (hc : Rg c) : f_X7_within x y z = some (if b ≤ a ∧ a ≤ c then 1 else 0) := by
  unfold f_X7_within
  by_cases h1 : a < b
  · rw [if_pos ((c_lt hx hy ha hb).mpr h1), if_neg (by omega)]
  · rw [if_neg (fun q => h1 ((c_lt hx hy ha hb).mp q))]
    by_cases h2 : c < a
    · rw [if_pos ((c_lt hz hx hc ha).mpr h2), if_neg (by omega)]
    · rw [if_neg (fun q => h2 ((c_lt hz hx hc ha).mp q)), if_pos (by omega)]
theorem l_toInt {x : Int32} {a : Int} (hx : x = iI a) (ha : Rg a) : x.toInt64.toInt = a := by
  subst hx
  rw [Int32.toInt_toInt64, iI_toInt ha]
theorem e_in {x y z : Int64} {a b c : Int} (hx : x.toInt = a) (hy : y.toInt = b) (hz : z.toInt = c) : f_X8_in x y z = some (if b ≤ a ∧ a ≤ c then 1 else 0) := by
  unfold f_X8_in lg_cmp
  by_cases h1 : a < b
  · have e1 : ¬ x > y := fun q => by
      have := Int64.lt_iff_toInt_lt.mp q
      omega
    have e2 : ¬ x = y := fun q => by rw [q] at hx; omega
    rw [if_neg e1, if_neg e2, if_pos (by decide), if_neg (by omega)]
  · have e1 : ¬ ((if x > y then (1 : Int32) else if x = y then 0 else -1) < 0) := by
      by_cases g1 : x > y
      · rw [if_pos g1]; decide
      · have g2 : x = y := by
          apply Int64.toInt_inj.mp
          have g3 : ¬ y.toInt < x.toInt := fun q => g1 (Int64.lt_iff_toInt_lt.mpr q)
          omega
        rw [if_neg g1, if_pos g2]; decide
    rw [if_neg e1]
    by_cases h2 : c < a
    · have g1 : x > z := Int64.lt_iff_toInt_lt.mpr (by omega)
      rw [if_pos g1, if_pos (by decide), if_neg (by omega)]
    · have g1 : ¬ x > z := fun q => by
        have := Int64.lt_iff_toInt_lt.mp q
        omega
      have e3 : ¬ 0 < (if x > z then (1 : Int32) else if x = z then 0 else -1) := by
        rw [if_neg g1]
        split <;> decide
      rw [if_neg e3, if_pos (by omega)]
theorem ite01 {c : Prop} [Decidable c] {α : Type} {x y : α} : (if (if c then (1 : Int32) else 0) = 0 then x else y) = if c then y else x := by
  by_cases h : c
  · rw [if_pos h, if_pos h, if_neg (by decide)]
  · rw [if_neg h, if_neg h, if_pos rfl]
theorem bz01 {c : Prop} [Decidable c] : bz (if c then (1 : Int32) else 0) = some (if c then 1 else 0) := by
  by_cases h : c
  · rw [if_pos h]; rfl
  · rw [if_neg h]; rfl
theorem e_isPace {x : Int32} {a : Int} (hx : x = iI a) (ha : Rg a) : f_X7_isPace x = some (if 1 ≤ a ∧ a ≤ 15 then 1 else 0) := by
  unfold f_X7_isPace
  refine bd (e_within (b := 1) (c := 15) hx rfl rfl ha (by omega) (by omega)) ?_
  rw [bz01, Option.bind_some]
theorem e_isMinute {x : Int32} {a : Int} (hx : x = iI a) (ha : Rg a) : f_X7_isMinute x = some (if 0 ≤ a ∧ a ≤ 1439 then 1 else 0) := by
  unfold f_X7_isMinute
  refine bd (e_within (b := 0) (c := 1439) hx rfl rfl ha (by omega) (by omega)) ?_
  rw [bz01, Option.bind_some]
theorem m_isPace {x : Int32} {a : Int} (hx : x = iI a) (ha : Rg a) : f_X8_isPace x = some (if 1 ≤ a ∧ a ≤ 15 then 1 else 0) := by
  unfold f_X8_isPace
  rw [e_in (b := 1) (c := 15) (l_toInt hx ha) rfl rfl, Option.bind_some, bz01, Option.bind_some]
theorem m_isStart {x : Int32} {a : Int} (hx : x = iI a) (ha : Rg a) : f_X8_isStart x = some (if 0 ≤ a ∧ a ≤ 1439 then 1 else 0) := by
  unfold f_X8_isStart
  rw [e_in (b := 0) (c := 1439) (l_toInt hx ha) rfl rfl, Option.bind_some, bz01, Option.bind_some]
theorem m_isMinute {x : Int32} {a : Int} (hx : x = iI a) (ha : Rg a) : f_X8_isMinute x = some (if 0 ≤ a ∧ a ≤ 4000 then 1 else 0) := by
  unfold f_X8_isMinute
  rw [e_in (b := 0) (c := 4000) (l_toInt hx ha) rfl rfl, Option.bind_some, bz01, Option.bind_some]
theorem e_max {x y : Int32} {a b : Int} (hx : x = iI a) (hy : y = iI b) (ha : Rg a) (hb : Rg b) : f_J9_max_7cf53 x y = some (iI (max a b)) := by
  unfold f_J9_max_7cf53
  by_cases h : a < b
  · rw [if_pos ((c_lt hx hy ha hb).mpr h), hy, Int.max_eq_right (by omega)]
  · rw [if_neg (fun q => h ((c_lt hx hy ha hb).mp q)), hx, Int.max_eq_left (by omega)]
theorem e_min {x y : Int32} {a b : Int} (hx : x = iI a) (hy : y = iI b) (ha : Rg a) (hb : Rg b) : f_J9_min_7cf53 x y = some (iI (min a b)) := by
  unfold f_J9_min_7cf53
  by_cases h : b < a
  · rw [if_pos ((c_lt hy hx hb ha).mpr h), hy, Int.min_eq_right (by omega)]
  · rw [if_neg (fun q => h ((c_lt hy hx hb ha).mp q)), hx, Int.min_eq_left (by omega)]
theorem sI_1 {S : ST} {k j a b : Nat} {x : Int32} : (sI S k j x).1 a b = if a = k ∧ b = j then x else S.1 a b := by
  unfold sI upd
  by_cases h : a = k
  · subst h
    by_cases h2 : b = j
    · simp [h2]
    · simp [h2]
  · simp [h]
theorem sI_2 {S : ST} {k j : Nat} {x : Int32} : (sI S k j x).2 = S.2 := rfl
theorem sL_1 {S : ST} {k j : Nat} {x : Int64} : (sL S k j x).1 = S.1 := rfl
theorem sI_ne {S : ST} {k j a b : Nat} {x : Int32} (h : a ≠ k) : (sI S k j x).1 a b = S.1 a b := by
  rw [sI_1, if_neg (fun q => h q.1)]
theorem sI_nj {S : ST} {k j a b : Nat} {x : Int32} (h : b ≠ j) : (sI S k j x).1 a b = S.1 a b := by
  rw [sI_1, if_neg (fun q => h q.2)]
theorem sI_eq {S : ST} {k j : Nat} {x : Int32} : (sI S k j x).1 k j = x := by
  rw [sI_1, if_pos ⟨rfl, rfl⟩]
theorem i_lt {x y : Int32} {a b : Int} (hx : x = iI a) (hy : y = iI b) (ha : Rg a) (hb : Rg b) {α : Type} {u v : α} : (if x < y then u else v) = if a < b then u else v := by
  by_cases h : a < b
  · rw [if_pos h, if_pos ((c_lt hx hy ha hb).mpr h)]
  · rw [if_neg h, if_neg (fun q => h ((c_lt hx hy ha hb).mp q))]
theorem i_le {x y : Int32} {a b : Int} (hx : x = iI a) (hy : y = iI b) (ha : Rg a) (hb : Rg b) {α : Type} {u v : α} : (if x ≤ y then u else v) = if a ≤ b then u else v := by
  by_cases h : a ≤ b
  · rw [if_pos h, if_pos ((c_le hx hy ha hb).mpr h)]
  · rw [if_neg h, if_neg (fun q => h ((c_le hx hy ha hb).mp q))]
theorem i_eq {x y : Int32} {a b : Int} (hx : x = iI a) (hy : y = iI b) (ha : Rg a) (hb : Rg b) {α : Type} {u v : α} : (if x = y then u else v) = if a = b then u else v := by
  by_cases h : a = b
  · rw [if_pos h, if_pos ((c_eq hx hy ha hb).mpr h)]
  · rw [if_neg h, if_neg (fun q => h ((c_eq hx hy ha hb).mp q))]
