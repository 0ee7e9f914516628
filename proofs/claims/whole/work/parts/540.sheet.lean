/-! ===== the sheets ===== -/
def Shk (k : Nat) : Prop := k = 27 ∨ k = 28 ∨ k = 46 ∨ k = 47 ∨ k = 48 ∨ k = 49 ∨ (173 ≤ k ∧ k ≤ 176)
theorem Inv.sh {S S' : ST} (h : Inv S) (hS : ShP S') (hk : ∀ k, ¬ Shk k → S'.1 k = S.1 k) (h2 : S'.2 = S.2) : Inv S' := by
  obtain ⟨⟨A, hA⟩, hI, hT, -, hF⟩ := h
  have o : ∀ k, (k = 27 ∨ k = 28 ∨ k = 46 ∨ k = 47 ∨ k = 48 ∨ k = 49 ∨ (173 ≤ k ∧ k ≤ 176) → False) → S'.1 k = S.1 k := fun k h => hk k h
  refine ⟨⟨A, hA.of (fun k _ _ => o k (by omega)) (by rw [o 30 (by omega)]) (by rw [o 30 (by omega)]) (fun k _ _ => o k (by omega))⟩, hI.of (by rw [o 0 (by omega)]) (by rw [o 30 (by omega)]) (fun k _ _ => o k (by omega)) (o 45 (by omega)), hT.of (by rw [o 22 (by omega)]) (by rw [o 30 (by omega)]) (o 24 (by omega)) (o 35 (by omega)), hS, hF.of (by rw [o 13 (by omega)]) (o 14 (by omega)) (fun k _ _ => by rw [h2])⟩
def Sk (S : ST) (k : Nat) (ln : Int) (n : Nat) : Prop := (-1 ≤ ln ∧ ln ≤ 2) ∧ n ≤ 24 ∧ S.1 27 k = iI ln ∧ S.1 46 k = iI ln ∧ S.1 28 k = iI (n : Int) ∧ S.1 47 k = iI (n : Int) ∧ ∀ i, i < 24 → S.1 (173 + k) i = S.1 48 (24 * k + i)
theorem x_isSheet {x : Int32} {a : Int} (hx : x = iI a) (ha : Rg a) : f_X3_isSheet x = some (if 0 ≤ a ∧ a < ((4 : Nat) : Int) then 1 else 0) := by
  unfold f_X3_isSheet
  refine bd (e_within (b := 0) (c := 3) hx rfl rfl ha (by omega) (by omega)) ?_
  rw [bz01, Option.bind_some]
  have : (0 ≤ a ∧ a ≤ 3) = (0 ≤ a ∧ a < ((4 : Nat) : Int)) := propext ⟨fun h => by omega, fun h => by omega⟩
  simp only [this]
theorem x_isLane {x : Int32} {a : Int} (hx : x = iI a) (ha : Rg a) : f_X3_isLane x = some (if 0 ≤ a ∧ a ≤ 2 then 1 else 0) := by
  unfold f_X3_isLane
  refine bd (e_within (b := 0) (c := 2) hx rfl rfl ha (by omega) (by omega)) ?_
  rw [bz01, Option.bind_some]
theorem m_isSheet {x : Int32} {a : Int} (hx : x = iI a) (ha : Rg a) : f_X8_isSheet x = some (if 0 ≤ a ∧ a < ((4 : Nat) : Int) then 1 else 0) := by
  unfold f_X8_isSheet
  rw [e_in (b := 0) (c := 3) (l_toInt hx ha) rfl rfl, Option.bind_some, bz01, Option.bind_some]
  have : (0 ≤ a ∧ a ≤ 3) = (0 ≤ a ∧ a < ((4 : Nat) : Int)) := propext ⟨fun h => by omega, fun h => by omega⟩
  simp only [this]
theorem m_isLane {x : Int32} {a : Int} (hx : x = iI a) (ha : Rg a) : f_X8_isLane x = some (if 0 ≤ a ∧ a ≤ 2 then 1 else 0) := by
  unfold f_X8_isLane
  rw [e_in (b := 0) (c := 2) (l_toInt hx ha) rfl rfl, Option.bind_some, bz01, Option.bind_some]
theorem r_4 {S : ST} {k q : Nat} {x : Int32} (hx : x = iI (k : Int)) (hk : k < 4) (hq : al 0 q = 4) : rI S 0 q x = some (S.1 q k) := rI_ok hx rfl (by rw [hq]; exact hk) (by omega)
theorem w_4 {S : ST} {k q : Nat} {x v : Int32} (hx : x = iI (k : Int)) (hk : k < 4) (hq : al 0 q = 4) : wI S q x v = some (sI S q k v) := wI_ok hx rfl (by rw [hq]; exact hk) (by omega)
theorem al27 : al 0 27 = 4 := by decide
theorem al28 : al 0 28 = 4 := by decide
theorem al46 : al 0 46 = 4 := by decide
theorem al47 : al 0 47 = 4 := by decide
theorem al48 : al 0 48 = 96 := by decide
theorem al49 : al 0 49 = 24 := by decide
theorem al173 : ∀ k, k < 4 → al 0 (173 + k) = 24 := by decide
theorem r_sh {k : Nat} {x : Int32} (hx : x = iI (k : Int)) (hk : k < 4) : rA 5 26 x = some (173 + k) := by
  rw [rA_ok hx rfl (by have : al 5 26 = 4 := by decide
                       omega) (by omega)]
  rfl
theorem x_isNothing {S : ST} {k n : Nat} {ln : Int} (h : Sk S k ln n) (hk : k < 4) {x : Int32} (hx : x = iI (k : Int)) : f_X3_isNothing S x = some (if ln = -1 then 1 else 0) := by
  obtain ⟨g1, g2, g3, -⟩ := h
  unfold f_X3_isNothing
  rw [r_4 hx hk al27, Option.bind_some, g3, i_eq (x := iI ln) (y := -1) (b := -1) rfl (by decide) (by omega) (by omega)]
  split <;> rfl
theorem x_hasItems {S : ST} {k n : Nat} {ln : Int} (h : Sk S k ln n) (hk : k < 4) {x y z : Int32} {b c : Int} (hx : x = iI (k : Int)) (hy : y = iI b) (hz : z = iI c) (hb : Rg b) (hc : Rg c) : f_X3_hasItems S x y z = some (if 0 ≤ b ∧ 0 ≤ c ∧ b + c ≤ n then 1 else 0) := by
  obtain ⟨g1, g2, g3, g4, g5, -⟩ := h
  unfold f_X3_hasItems
  rw [r_4 hx hk al28, Option.bind_some, Option.bind_some, g5, i_lt (y := 0) (b := 0) hy rfl hb (by omega), i_lt (y := 0) (b := 0) hz rfl hc (by omega), i_lt (x := iI (n : Int)) rfl hz (by omega) hc]
  by_cases h1 : b < 0
  · rw [if_pos h1, if_neg (by omega)]
  · rw [if_neg h1]
    by_cases h2 : c < 0
    · rw [if_pos h2, if_neg (by omega)]
    · rw [if_neg h2]
      by_cases h3 : (n : Int) < c
      · rw [if_pos h3, if_neg (by omega)]
      · rw [if_neg h3, i_lt (x := iI (n : Int) - z) (a := (n : Int) - c) (by rw [hz, iI_sub]) hy (by omega) hb]
        by_cases h4 : (n : Int) - c < b
        · rw [if_pos h4, if_neg (by omega)]
        · rw [if_neg h4, if_pos (by omega)]
def refV (ln l b c n : Int) : Int := if ln = -1 then -11 else if ln = l then (if 0 ≤ b ∧ b + c ≤ n then 0 else -13) else -12
theorem x_refusal {S : ST} {k n : Nat} {ln : Int} (h : Sk S k ln n) (hk : k < 4) {x y z w : Int32} {l b c : Int} (hx : x = iI (k : Int)) (hy : y = iI l) (hz : z = iI b) (hw : w = iI c) (hl : Rg l) (hb : Rg b) (hc : 0 ≤ c ∧ Rg c) : f_X3_refusal S x y z w = some (iI (if 0 ≤ l ∧ l ≤ 2 then refV ln l b c n else -1)) := by
  have hh := id h
  obtain ⟨g1, g2, g3, g4, g5, -⟩ := h
  unfold f_X3_refusal refV
  rw [gt01 (x_isSheet hx (by omega)), if_pos (by omega), gt01 (x_isLane hy hl), gt01 (x_isNothing hh hk hx), gt01 (x_hasItems hh hk hx hz hw hb hc.2), r_4 hx hk al27, Option.bind_some, g3, i_eq (x := iI ln) rfl hy (by omega) hl]
  by_cases h1 : 0 ≤ l ∧ l ≤ 2
  · rw [if_pos h1, if_pos h1]
    by_cases h2 : ln = -1
    · rw [if_pos h2, if_pos h2]; rfl
    · rw [if_neg h2, if_neg h2]
      by_cases h3 : ln = l
      · rw [if_pos h3, if_pos h3]
        by_cases h4 : 0 ≤ b ∧ b + c ≤ n
        · rw [if_pos h4, if_pos (by omega)]; rfl
        · rw [if_neg h4, if_neg (by omega)]; rfl
      · rw [if_neg h3, if_neg h3]; rfl
  · rw [if_neg h1, if_neg h1]; rfl
theorem l_add {x y : Int32} {a b : Int} (hx : x = iI a) (hy : y = iI b) (ha : Rg a) (hb : Rg b) : (x.toInt64 + y.toInt64).toInt = a + b := by
  rw [Int64.toInt_add, l_toInt hx ha, l_toInt hy hb, Int.bmod_eq_of_le (by omega) (by omega)]
theorem lg_le {x y : Int64} {a b : Int} (hx : x.toInt = a) (hy : y.toInt = b) : (lg_cmp x y ≤ 0) ↔ a ≤ b := by
  unfold lg_cmp
  by_cases h : a ≤ b
  · have e1 : ¬ x > y := fun q => by
      have := Int64.lt_iff_toInt_lt.mp q
      omega
    rw [if_neg e1]
    refine ⟨fun _ => h, fun _ => ?_⟩
    split <;> decide
  · have e1 : x > y := Int64.lt_iff_toInt_lt.mpr (by omega)
    rw [if_pos e1]
    exact ⟨fun q => absurd q (by decide), fun q => absurd q h⟩
theorem m_finds {S : ST} {k n : Nat} {ln : Int} (h : Sk S k ln n) (hk : k < 4) {x y z w : Int32} {l b c : Int} (hx : x = iI (k : Int)) (hy : y = iI l) (hz : z = iI b) (hw : w = iI c) (hl : Rg l) (hb : Rg b) (hc : Rg c) : f_X8_finds S x y z w = some (iI (refV ln l b c n)) := by
  obtain ⟨g1, g2, g3, g4, g5, g6, -⟩ := h
  unfold f_X8_finds refV
  rw [r_4 hx hk al46, r_4 hx hk al47, Option.bind_some, Option.bind_some, Option.bind_some, g4, g6, i_le (x := 0) (y := iI ln) (a := 0) rfl rfl (by omega) (by omega), i_eq (x := iI ln) rfl hy (by omega) hl, i_lt (y := 0) (b := 0) hz rfl hb (by omega)]
  have hg := lg_le (l_add hz hw hb hc) (l_toInt (x := iI (n : Int)) rfl (by omega))
  by_cases h2 : ln = -1
  · rw [if_pos h2, if_neg (by omega)]; rfl
  · rw [if_neg h2, if_pos (by omega)]
    by_cases h3 : ln = l
    · rw [if_pos h3, if_pos h3]
      by_cases h4 : b < 0
      · rw [if_pos h4, if_neg (by omega)]; rfl
      · rw [if_neg h4]
        by_cases h5 : b + c ≤ n
        · rw [if_pos (hg.mpr h5), if_pos (by omega)]; rfl
        · rw [if_neg (fun q => h5 (hg.mp q)), if_neg (by omega)]; rfl
    · rw [if_neg h3, if_neg h3]; rfl
theorem ok_drop (a0 : Int32) : Pr Inv (fun S => f_X7_drop S a0) (fun S => f_X8_drop S a0) := by
  intro S hI
  have hSh := hI.2.2.2.1
  obtain ⟨a, ha, hx⟩ := i_of a0
  show ∃ r S1 S2, f_X7_drop S a0 = some (r, S1) ∧ f_X8_drop S1 a0 = some (r, S2) ∧ Inv S2
  unfold f_X7_drop f_X3_forget f_X8_drop
  rw [gt01 (x_isSheet hx ha)]
  simp only [gt01 (m_isSheet hx ha)]
  by_cases h1 : 0 ≤ a ∧ a < ((4 : Nat) : Int)
  · simp only [if_pos h1]
    obtain ⟨k, hk, rfl⟩ := nat_of h1
    obtain ⟨ln, n, hs⟩ := hSh k hk
    have hs' : Sk S k ln n := hs
    rw [gt01 (x_isNothing hs' hk hx)]
    by_cases h2 : ln = -1
    · rw [if_pos h2]
      refine ⟨_, _, S, rfl, ?_, hI⟩
      rw [r_4 hx hk al46, Option.bind_some, hs'.2.2.2.1, h2, if_neg (by decide)]
    · rw [if_neg h2, w_4 hx hk al27, Option.bind_some, r_4 hx hk al28, Option.bind_some]
      refine ⟨_, _, sI (sI S 27 k (-1)) 46 k (-1), rfl, ?_, ?_⟩
      · rw [r_4 hx hk al46, Option.bind_some, sI_ne (by decide), hs'.2.2.2.1, i_le (x := 0) (y := iI ln) (a := 0) rfl rfl (by omega) (by have := hs'.1; omega), if_pos (by have := hs'.1; omega), w_4 hx hk al46, Option.bind_some, r_4 hx hk al47, Option.bind_some, sI_ne (by decide), sI_ne (by decide), sI_ne (by decide), hs'.2.2.2.2.1, hs'.2.2.2.2.2.1]
      · refine hI.sh (fun q hq => ?_) (fun q hq => ?_) rfl
        · obtain ⟨ln', n', t1, t2, t3, t4, t5, t6, t7⟩ := hSh q hq
          by_cases hqk : q = k
          · subst hqk
            refine ⟨-1, n', by omega, t2, ?_, ?_, ?_, ?_, fun i hi => ?_⟩
            · rw [sI_ne (by decide), sI_eq]; decide
            · rw [sI_eq]; decide
            · rw [sI_ne (by decide), sI_ne (by decide)]; exact t5
            · rw [sI_ne (by decide), sI_ne (by decide)]; exact t6
            · rw [sI_ne (by omega), sI_ne (by omega), sI_ne (by decide), sI_ne (by decide)]; exact t7 i hi
          · refine ⟨ln', n', t1, t2, ?_, ?_, ?_, ?_, fun i hi => ?_⟩
            · rw [sI_ne (by decide), sI_nj hqk]; exact t3
            · rw [sI_nj hqk, sI_ne (by decide)]; exact t4
            · rw [sI_ne (by decide), sI_ne (by decide)]; exact t5
            · rw [sI_ne (by decide), sI_ne (by decide)]; exact t6
            · rw [sI_ne (by omega), sI_ne (by omega), sI_ne (by decide), sI_ne (by decide)]; exact t7 i hi
        · rw [sI_o (fun e => hq (Or.inr (Or.inr (Or.inl e)))), sI_o (fun e => hq (Or.inl e))]
  · simp only [if_neg h1]
    exact ⟨_, _, S, rfl, rfl, hI⟩
