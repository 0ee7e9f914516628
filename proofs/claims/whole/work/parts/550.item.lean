/-! ===== item, sheet ===== -/
theorem i_next {i : Nat} : iI (i : Int) + 1 = iI ((i + 1 : Nat) : Int) := by rw [show (1 : Int32) = iI 1 from rfl, iI_add]; rfl
theorem ix24 {x y : Int32} {k b : Nat} (hx : x = iI (k : Int)) (hy : y = iI (b : Int)) : 24 * x + y = iI ((24 * k + b : Nat) : Int) := by
  rw [hx, hy, show (24 : Int32) = iI 24 from rfl, iI_mul, iI_add]
  congr 1
theorem sh_put {S : ST} {k b : Nat} {v : Int32} (hSh : ShP S) (hk : k < 4) (hb : b < 24) : ShP (sI (sI S (173 + k) b v) 48 (24 * k + b) v) := by
  intro q hq
  obtain ⟨ln', n', t1, t2, t3, t4, t5, t6, t7⟩ := hSh q hq
  refine ⟨ln', n', t1, t2, ?_, ?_, ?_, ?_, fun i hi => ?_⟩
  · rw [sI_ne (by decide), sI_ne (by omega)]; exact t3
  · rw [sI_ne (by decide), sI_ne (by omega)]; exact t4
  · rw [sI_ne (by decide), sI_ne (by omega)]; exact t5
  · rw [sI_ne (by decide), sI_ne (by omega)]; exact t6
  · rw [sI_ne (by omega)]
    by_cases h1 : q = k
    · subst h1
      by_cases h2 : i = b
      · subst h2
        rw [sI_eq, sI_eq]
      · rw [sI_nj h2, sI_nj (by omega), sI_ne (by omega)]; exact t7 i hi
    · rw [sI_ne (by omega), sI_nj (by omega), sI_ne (by omega)]; exact t7 i hi
theorem Sk.put {S : ST} {k b n : Nat} {ln : Int} {v : Int32} (h : S.1 46 k = iI ln ∧ S.1 47 k = iI (n : Int)) (j : Nat) : (sI S (173 + j) b v).1 46 k = iI ln ∧ (sI S (173 + j) b v).1 47 k = iI (n : Int) := ⟨by rw [sI_ne (by omega)]; exact h.1, by rw [sI_ne (by omega)]; exact h.2⟩
/-- what the reference reads of a sheet's head -/
theorem m_finds2 {S : ST} {k n : Nat} {ln : Int} (g1 : -1 ≤ ln ∧ ln ≤ 2) (g2 : n ≤ 24) (g4 : S.1 46 k = iI ln) (g6 : S.1 47 k = iI (n : Int)) (hk : k < 4) {x y z w : Int32} {l b c : Int} (hx : x = iI (k : Int)) (hy : y = iI l) (hz : z = iI b) (hw : w = iI c) (hl : Rg l) (hb : Rg b) (hc : Rg c) : f_X8_finds S x y z w = some (iI (refV ln l b c n)) := by
  unfold f_X8_finds refV
  rw [r_4 hx hk al46, r_4 hx hk al47, Option.bind_some, Option.bind_some, Option.bind_some, g4, g6, i_le (x := 0) (y := iI ln) (a := 0) rfl rfl (by omega) (by omega), i_eq (x := iI ln) rfl hy (by omega) hl, i_lt (y := 0) (b := 0) hz rfl hb (by omega)]
  have hg := lg_le (l_add hz hw hb hc) (l_toInt (x := iI (n : Int)) rfl (by omega))
  by_cases h2 : ln = -1
  · rw [if_pos h2, if_neg (by omega)]; rfl
  · rw [if_neg h2, if_pos (by omega)]
    by_cases h3 : ln = l
    · rw [if_pos h3, if_pos h3]
      by_cases h4 : b < 0
      · rw [if_pos h4, if_neg (by omega)]; rfl
      · rw [if_neg h4]
        by_cases h5 : b + c ≤ n
        · rw [if_pos (hg.mpr h5), if_pos (by omega)]; rfl
        · rw [if_neg (fun q => h5 (hg.mp q)), if_neg (by omega)]; rfl
    · rw [if_neg h3, if_neg h3]; rfl
theorem refV_cases (ln l b c n : Int) : (refV ln l b c n = 0 ∧ ln = l ∧ 0 ≤ b ∧ b + c ≤ n) ∨ (-13 ≤ refV ln l b c n ∧ refV ln l b c n ≤ -11) := by
  unfold refV
  split
  · right; omega
  · split
    · split
      · left; omega
      · right; omega
    · right; omega
theorem ok_item (a0 a1 a2 a3 : Int32) : Pr Inv (fun S => f_X7_item S a0 a1 a2 a3) (fun S => f_X8_item S a0 a1 a2 a3) := by
  intro S hI
  have hSh := hI.2.2.2.1
  obtain ⟨a, ha, hx⟩ := i_of a0
  obtain ⟨l, hl, hy⟩ := i_of a1
  obtain ⟨b, hb, hz⟩ := i_of a2
  show ∃ r S1 S2, f_X7_item S a0 a1 a2 a3 = some (r, S1) ∧ f_X8_item S1 a0 a1 a2 a3 = some (r, S2) ∧ Inv S2
  unfold f_X7_item f_X8_item
  simp only [gt01 (m_isSheet hx ha), gt01 (m_isLane hy hl)]
  by_cases h1 : 0 ≤ a ∧ a < ((4 : Nat) : Int)
  · simp only [if_pos h1]
    obtain ⟨k, hk, rfl⟩ := nat_of h1
    obtain ⟨ln, n, hs⟩ := hSh k hk
    have hs' : Sk S k ln n := hs
    obtain ⟨g1, g2, g3, g4, g5, g6, g7⟩ := hs
    rw [x_refusal hs' hk hx hy hz (w := 1) (c := 1) rfl hl hb (by omega), Option.bind_some]
    by_cases h2 : 0 ≤ l ∧ l ≤ 2
    · simp only [if_pos h2]
      rcases refV_cases ln l b 1 n with ⟨e0, el, eb, en⟩ | hr
      · subst el
        obtain ⟨j, hj, rfl⟩ := nat_of (a := b) (n := 24) (by omega)
        rw [e0, if_pos (by decide)]
        have hal : ∀ v, wI S (173 + k) a2 v = some (sI S (173 + k) j v) := fun v => wI_ok hz rfl (by rw [al173 k hk]; exact hj) (by omega)
        have fin : ∀ v, ∃ r S1 S2, ((f_X3_put_37 S v a2 (173 + k)).bind fun S2 => some ((1 : Int32), S2)) = some (r, S1) ∧ ((f_X8_finds S1 a0 a1 a2 1).bind fun v3 => if 0 ≤ v3 then (f_X8_item_67 S1 v ((24 * a0) + a2)) else (some (v3, S1))) = some (r, S2) ∧ Inv S2 := by
          intro v
          unfold f_X3_put_37 f_X8_item_67
          rw [hal, Option.bind_some, Option.bind_some]
          refine ⟨_, _, sI (sI S (173 + k) j v) 48 (24 * k + j) v, rfl, ?_, ?_⟩
          · rw [m_finds2 g1 g2 (by rw [sI_ne (by omega)]; exact g4) (by rw [sI_ne (by omega)]; exact g6) hk hx hy hz (w := 1) (c := 1) rfl hl hb (by omega), e0, Option.bind_some, if_pos (by decide), wI_ok (ix24 hx hz) rfl (by rw [al48]; omega) (by omega), Option.bind_some]
          · refine hI.sh (sh_put hSh hk hj) (fun q hq => ?_) rfl
            rw [sI_o (fun e => hq (by unfold Shk; omega)), sI_o (fun e => hq (by unfold Shk; omega))]
        have pu : ∀ (u : Option ST), f_X3_put S a0 a2 a3 = (if ln = 0 then f_X3_put_37 S (a3.toInt8.toInt32) a2 (173 + k) else if ln = 2 then f_X3_put_37 S a3 a2 (173 + k) else f_X3_put_37 S (a3.toInt16.toInt32) a2 (173 + k)) := by
          intro _
          unfold f_X3_put
          rw [r_4 hx hk al27, Option.bind_some, r_sh hx hk, Option.bind_some, g3, i_eq (x := iI ln) (y := 0) (b := 0) rfl rfl (by omega) (by omega), i_eq (x := iI ln) (y := 2) (b := 2) rfl rfl (by omega) (by omega)]
        rw [pu none]
        simp only [i_eq (y := 0) (b := 0) hy rfl hl (by omega), i_eq (y := 1) (b := 1) hy rfl hl (by omega)]
        by_cases l0 : ln = 0
        · simp only [if_pos l0]; exact fin _
        · simp only [if_neg l0]
          by_cases l2 : ln = 2
          · simp only [if_pos l2, if_neg (show ¬ ln = 1 by omega)]; exact fin _
          · simp only [if_neg l2, if_pos (show ln = 1 by omega)]; exact fin _
      · rw [if_neg (fun q => by have := (c_eq (y := 0) (b := 0) rfl rfl (by omega) (by omega)).mp q; omega)]
        refine ⟨_, _, S, rfl, ?_, hI⟩
        rw [m_finds hs' hk hx hy hz (w := 1) (c := 1) rfl hl hb (by omega), Option.bind_some, i_le (x := 0) (a := 0) rfl rfl (by omega) (by omega), if_neg (by omega)]
    · simp only [if_neg h2]
      rw [if_neg (by decide)]
      exact ⟨_, _, S, rfl, rfl, hI⟩
  · simp only [if_neg h1]
    unfold f_X3_refusal
    rw [gt01 (x_isSheet hx ha), if_neg h1, Option.bind_some, if_neg (by decide)]
    exact ⟨_, _, S, rfl, rfl, hI⟩
