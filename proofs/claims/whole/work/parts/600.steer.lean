/-! ===== steered ===== -/
theorem al29 : al 0 29 = 61 := by decide
theorem al41 : al 3 41 = 61 := by decide
theorem sL_22 {S : ST} {k j a b : Nat} {x : Int64} : (sL S k j x).2 a b = if a = k ∧ b = j then x else S.2 a b := by
  unfold sL vp_updL
  by_cases h : a = k
  · subst h
    by_cases h2 : b = j
    · simp [h2]
    · simp [h2]
  · simp [h]
theorem rL_ok {S : ST} {k : Nat} {x : Int32} {n : Nat} (hx : x = iI (n : Int)) (h : n < al 3 k) (hs : n < 2147483648) : rL S k x = some (S.2 k n) := by
  subst hx
  rw [rL, iI_nat, nI_clamp hs, if_pos ⟨nI_pos' hs, h⟩]
theorem wL_ok {S : ST} {k : Nat} {x : Int32} {v : Int64} {n : Nat} (hx : x = iI (n : Int)) (h : n < al 3 k) (hs : n < 2147483648) : wL S k x v = some (sL S k n v) := by
  subst hx
  rw [wL, iI_nat, nI_clamp hs, if_pos ⟨nI_pos' hs, h⟩]
abbrev lI (z : Int) : Int64 := Int64.ofInt z
theorem lI_toInt {z : Int} (h : Rg z) : (lI z).toInt = z := Int64.toInt_ofInt_of_le (by omega) (by omega)
theorem lI_of {x : Int32} {a : Int} (hx : x = iI a) (ha : Rg a) : x.toInt64 = lI a := by
  apply Int64.toInt_inj.mp
  rw [l_toInt hx ha, lI_toInt ha]
theorem dvL_ok {a b : Int} (ha' : -1000000 ≤ a ∧ a ≤ 1000000) (hb : Rg b) (h0 : b ≠ 0) : dvL (lI a) (lI b) = some (lI (a.tdiv b)) := by
  have ha : Rg a := by omega
  unfold dvL
  rw [if_neg (fun q => h0 (by rw [← lI_toInt hb, q]; rfl))]
  congr 1
  apply Int64.toInt_inj.mp
  have hq : Rg (a.tdiv b) := by
    have := Int.natAbs_tdiv_le_natAbs a b
    omega
  rw [Int64.toInt_div, lI_toInt ha, lI_toInt hb, lI_toInt hq, Int.bmod_eq_of_le (by omega) (by omega)]
def sgV (a : Int) : Int := if a < 0 then -1 else if a = 0 then 0 else 1
theorem e_compare {x : Int32} {a : Int} (hx : x = iI a) (ha : Rg a) : f_J6_compare_7cf53 x 0 = some (iI (sgV a)) := by
  unfold f_J6_compare_7cf53 sgV
  rw [i_le (x := 0) (a := 0) rfl hx (by omega) ha, i_eq (y := 0) (b := 0) hx rfl ha (by omega)]
  by_cases h : a < 0
  · rw [if_neg (by omega), if_pos h]; rfl
  · rw [if_pos (by omega), if_neg h]
    by_cases h2 : a = 0
    · rw [if_pos h2, if_pos h2]; rfl
    · rw [if_neg h2, if_neg h2]; rfl
theorem e_abs40 {x : Int32} {a : Int} (hx : x = iI a) (ha : -100000 ≤ a ∧ a ≤ 100000) {β : Type} {u v : Option β} : ((f_J9_abs_0f7a4 x).bind fun v9 => if v9 < 40 then u else v) = if -40 < a ∧ a < 40 then u else v := by
  unfold f_J9_abs_0f7a4
  rw [i_le (x := 0) (a := 0) rfl hx (by omega) (by omega)]
  by_cases h : 0 ≤ a
  · rw [if_pos h, Option.bind_some, i_lt (y := 40) (b := 40) hx rfl (by omega) (by omega)]
    by_cases h2 : a < 40
    · rw [if_pos h2, if_pos (by omega)]
    · rw [if_neg h2, if_neg (by omega)]
  · rw [if_neg h, Option.bind_some, i_lt (x := -x) (y := 40) (a := -a) (b := 40) (by rw [hx]; exact (Int32.ofInt_neg a).symm) rfl (by omega) (by omega)]
    by_cases h2 : -a < 40
    · rw [if_pos h2, if_pos (by omega)]
    · rw [if_neg h2, if_neg (by omega)]
theorem td_ab {a : Int} {c : Int} (h : -c ≤ a ∧ a ≤ c) : -c ≤ a.tdiv 4 ∧ a.tdiv 4 ≤ c := by
  have := Int.natAbs_tdiv_le_natAbs a 4
  omega
theorem gv_rg {g v : Int} (hg : 0 ≤ g ∧ g ≤ 9) (hv : -40 < v ∧ v < 40) : -360 ≤ g * v ∧ g * v ≤ 360 := by
  have e1 : g * v ≤ g * 40 := Int.mul_le_mul_of_nonneg_left (by omega) hg.1
  have e2 : g * (-40) ≤ g * v := Int.mul_le_mul_of_nonneg_left (by omega) hg.1
  omega
theorem lg_ge {x y : Int64} {a b : Int} (hx : x.toInt = a) (hy : y.toInt = b) : (0 ≤ lg_cmp x y) ↔ b ≤ a := by
  unfold lg_cmp
  by_cases q1 : x > y
  · have := Int64.lt_iff_toInt_lt.mp q1
    rw [if_pos q1]
    exact ⟨fun _ => by omega, fun _ => by decide⟩
  · have n1 : ¬ y.toInt < x.toInt := fun q => q1 (Int64.lt_iff_toInt_lt.mpr q)
    rw [if_neg q1]
    by_cases q2 : x = y
    · rw [if_pos q2]
      rw [q2] at hx
      exact ⟨fun _ => by omega, fun _ => by decide⟩
    · rw [if_neg q2]
      refine ⟨fun q => absurd q (by decide), fun q => absurd (Int64.toInt_inj.mp ?_) q2⟩
      omega
theorem m_121 {k : ST → Int32 → Int32 → Int64 → Int32 → Option (Int32 × ST)} {T : ST} {x1 x2 : Int32} {i : Nat} {o s w : Int} (hi : 1 ≤ i ∧ i ≤ 60) (ho : T.2 41 (i - 1) = lI o) (hr : -1000 ≤ o ∧ o ≤ 1000) (hs : -10 ≤ s ∧ s ≤ 10) (hw : -10000 ≤ w ∧ w ≤ 10000) : f_X8_steered_121 k T x1 x2 (iI (i : Int)) (lI s) (lI w) = if -40 < o + (w + s) ∧ o + (w + s) < 40 then k (sL T 41 i (lI (o + (w + s)))) x1 x2 (lI (w + s)) (iI ((i + 1 : Nat) : Int)) else some (iI (i : Int), sL T 41 i (lI (o + (w + s)))) := by
  unfold f_X8_steered_121
  have e0 : iI (i : Int) - 1 = iI ((i - 1 : Nat) : Int) := by rw [show (1 : Int32) = iI 1 from rfl, iI_sub]; congr 1; omega
  have ew : lI w + lI s = lI (w + s) := (Int64.ofInt_add w s).symm
  have eo : lI o + lI (w + s) = lI (o + (w + s)) := (Int64.ofInt_add o (w + s)).symm
  have eS : (sL T 41 i (lI (o + (w + s)))).2 41 i = lI (o + (w + s)) := by rw [sL_22, if_pos ⟨rfl, rfl⟩]
  rw [e0, rL_ok rfl (by rw [al41]; omega) (by omega), Option.bind_some, ho, ew, eo, wL_ok (x := iI (i : Int)) rfl (by rw [al41]; omega) (by omega), Option.bind_some, rL_ok (x := iI (i : Int)) rfl (by rw [al41]; omega) (by omega), Option.bind_some, Option.bind_some, eS, i_next]
  have t := lI_toInt (z := o + (w + s)) (by omega)
  have c1 : (0 ≤ lg_cmp (lI (o + (w + s))) 40) ↔ 40 ≤ o + (w + s) := lg_ge t rfl
  have c2 : (0 < lg_cmp (lI (o + (w + s))) (-40)) ↔ -40 < o + (w + s) := by
    have l := lg_le (x := lI (o + (w + s))) (y := -40) (a := o + (w + s)) (b := -40) t rfl
    constructor
    · intro q
      apply Int.not_le.mp
      intro q2
      exact absurd (l.mpr q2) (Int32.not_le.mpr q)
    · intro q
      exact Int32.not_le.mp (fun q2 => absurd (l.mp q2) (by omega))
  by_cases h1 : 40 ≤ o + (w + s)
  · rw [if_pos (c1.mpr h1), if_neg (by omega)]
  · rw [if_neg (fun q => h1 (c1.mp q))]
    by_cases h2 : -40 < o + (w + s)
    · rw [if_pos (c2.mpr h2), if_pos (by omega)]
    · rw [if_neg (fun q => h2 (c2.mp q)), if_neg (by omega)]
theorem m_73s {k : ST → Int32 → Int32 → Int64 → Int32 → Option (Int32 × ST)} {T : ST} {x1 x2 : Int32} {i p : Nat} {o v g w : Int} (hi : 1 ≤ i ∧ i ≤ 60) (hp : p < i) (ho : T.2 41 (i - 1) = lI o) (hv : T.2 41 p = lI v) (hr : -40 < o ∧ o < 40) (hr2 : -40 < v ∧ v < 40) (hg : 0 ≤ g ∧ g ≤ 9) (hw : -9000 ≤ w ∧ w ≤ 9000) : f_X8_steered_73 k T x1 x2 (iI (i : Int)) (iI (p : Int)) (lI g) (lI w) = f_X8_steered_121 k T x1 x2 (iI (i : Int)) (lI (sgV o)) (lI (w - (g * v).tdiv 4)) := by
  have gr := gv_rg hg hr2
  unfold f_X8_steered_73 sgV
  have e0 : iI (i : Int) - 1 = iI ((i - 1 : Nat) : Int) := by rw [show (1 : Int32) = iI 1 from rfl, iI_sub]; congr 1; omega
  have em : lI g * lI v = lI (g * v) := (Int64.ofInt_mul g v).symm
  have t := lI_toInt (z := o) (by omega)
  rw [rL_ok (x := iI (p : Int)) rfl (by rw [al41]; omega) (by omega), Option.bind_some, hv, em, show (4 : Int64) = lI 4 from rfl, dvL_ok (by omega) (by omega) (by omega), Option.bind_some, e0, rL_ok (x := iI ((i - 1 : Nat) : Int)) rfl (by rw [al41]; omega) (by omega), Option.bind_some, Option.bind_some, ho, show lI w - lI ((g * v).tdiv 4) = lI (w - (g * v).tdiv 4) from (Int64.ofInt_sub w _).symm]
  have c1 := lg_le (x := lI o) (y := 0) (a := o) (b := 0) t rfl
  have c2 := lg_ge (x := lI o) (y := 0) (a := o) (b := 0) t rfl
  by_cases h1 : o ≤ 0
  · rw [if_pos (c1.mpr h1)]
    by_cases h2 : 0 ≤ o
    · rw [if_pos (c2.mpr h2), if_neg (by omega), if_pos (by omega)]; rfl
    · rw [if_neg (fun q => h2 (c2.mp q)), if_pos (by omega)]; rfl
  · rw [if_neg (fun q => h1 (c1.mp q)), if_neg (by omega), if_neg (by omega)]; rfl
theorem steer {g d : Int} (hg : 0 ≤ g ∧ g ≤ 9) (hd : 0 ≤ d ∧ d ≤ 5) {x1 x2 : Int32} (h1 : x1 = iI g) (h2 : x2 = iI d) : ∀ (n i : Nat) (S : ST) (f : Nat → Int) (w : Int), 61 < i + n → 1 ≤ i → i ≤ 61 → (∀ j, j < i → (-40 < f j ∧ f j < 40) ∧ S.1 29 j = iI (f j)) → (-(100 * (i : Int)) ≤ w ∧ w ≤ 100 * (i : Int)) → ∃ r S', f_X7_steered_34 n S x1 x2 (iI w) (iI (i : Int)) = some (r, S') ∧ Only 29 S S' ∧ ∀ T, (∀ j, j < i → T.2 41 j = lI (f j)) → ∃ T', f_X8_steered_40 n T x1 x2 (lI w) (iI (i : Int)) = some (r, T') ∧ T'.1 = T.1 ∧ ∀ q, q ≠ 41 → T'.2 q = T.2 q := by
  intro n
  induction n with
  | zero => intro i S f w q1 q2 q3; omega
  | succ n ih =>
    intro i S f w q1 q2 q3 hf hw
    unfold f_X7_steered_34 f_X8_steered_40
    rw [i_lt (x := 60) (y := iI (i : Int)) (a := 60) rfl rfl (by omega) (by omega)]
    simp only [i_le (x := 61) (y := iI (i : Int)) (a := 61) rfl rfl (by omega) (by omega)]
    by_cases h : 60 < (i : Int)
    · rw [if_pos h]
      refine ⟨0, S, rfl, Only.rf, fun T hT => ⟨T, ?_, rfl, fun _ _ => rfl⟩⟩
      rw [if_pos (by omega)]
    · rw [if_neg h]
      simp only [if_neg (show ¬ 61 ≤ (i : Int) by omega)]
      have ed : iI (i : Int) - x2 - 1 = iI ((i : Int) - d - 1) := by rw [h2, show (1 : Int32) = iI 1 from rfl, iI_sub, iI_sub]
      have e0 : iI (i : Int) - 1 = iI ((i - 1 : Nat) : Int) := by rw [show (1 : Int32) = iI 1 from rfl, iI_sub]; congr 1; omega
      rw [ed]
      obtain ⟨p, hp, ep⟩ : ∃ p : Nat, p < i ∧ max 0 ((i : Int) - d - 1) = (p : Int) := ⟨(max 0 ((i : Int) - d - 1)).toNat, by omega, by omega⟩
      obtain ⟨v1, v2⟩ := hf p hp
      obtain ⟨o1, o2⟩ := hf (i - 1) (by omega)
      have gr := gv_rg hg v1
      have tg := td_ab (a := g * f p) (c := 360) (by omega)
      have tg2 : -90 ≤ (g * f p).tdiv 4 ∧ (g * f p).tdiv 4 ≤ 90 := by
        rcases Int.le_total 0 (g * f p) with q | q
        · rw [Int.tdiv_eq_ediv_of_nonneg q]; omega
        · have : (g * f p).tdiv 4 = -((-(g * f p)) / 4) := by rw [← Int.tdiv_eq_ediv_of_nonneg (by omega), Int.neg_tdiv, Int.neg_neg]
          omega
      have sr : -1 ≤ sgV (f (i - 1)) ∧ sgV (f (i - 1)) ≤ 1 := by unfold sgV; split; omega; split <;> omega
      rw [e_max (x := 0) (a := 0) rfl (rfl : iI ((i : Int) - d - 1) = _) (by omega) (by omega), Option.bind_some, ep, rI_ok (x := iI (p : Int)) (n := p) rfl rfl (by rw [al29]; omega) (by omega), Option.bind_some, e0, rI_ok (x := iI ((i - 1 : Nat) : Int)) (n := i - 1) rfl rfl (by rw [al29]; omega) (by omega), Option.bind_some, o2, e_compare (x := iI (f (i - 1))) rfl (by omega), Option.bind_some, v2, dv_ok (x := x1 * iI (f p)) (y := 4) (a := g * f p) (b := 4) (by rw [h1, iI_mul]) rfl (by omega) (by omega) (by omega), Option.bind_some, Option.bind_some, iI_sub, iI_add, iI_add, wI_ok (x := iI (i : Int)) (n := i) rfl rfl (by rw [al29]; omega) (by omega), Option.bind_some, rI_ok (x := iI (i : Int)) (n := i) rfl rfl (by rw [al29]; omega) (by omega), Option.bind_some, sI_eq, e_abs40 (a := f (i - 1) + (w + (sgV (f (i - 1)) - (g * f p).tdiv 4))) rfl (by omega), i_next]
      have mm : ∀ T, (∀ j, j < i → T.2 41 j = lI (f j)) → (if 0 ≤ iI ((i : Int) - d - 1) then f_X8_steered_73 (f_X8_steered_40 n) T x1 x2 (iI (i : Int)) (iI ((i : Int) - d - 1)) x1.toInt64 (lI w) else f_X8_steered_73 (f_X8_steered_40 n) T x1 x2 (iI (i : Int)) 0 x1.toInt64 (lI w)) = if -40 < f (i - 1) + (w + (sgV (f (i - 1)) - (g * f p).tdiv 4)) ∧ f (i - 1) + (w + (sgV (f (i - 1)) - (g * f p).tdiv 4)) < 40 then f_X8_steered_40 n (sL T 41 i (lI (f (i - 1) + (w + (sgV (f (i - 1)) - (g * f p).tdiv 4))))) x1 x2 (lI (w + (sgV (f (i - 1)) - (g * f p).tdiv 4))) (iI ((i + 1 : Nat) : Int)) else some (iI (i : Int), sL T 41 i (lI (f (i - 1) + (w + (sgV (f (i - 1)) - (g * f p).tdiv 4))))) := by
        intro T hT
        have e3 : w - (g * f p).tdiv 4 + sgV (f (i - 1)) = w + (sgV (f (i - 1)) - (g * f p).tdiv 4) := by omega
        have e7 := m_73s (k := f_X8_steered_40 n) (x1 := x1) (x2 := x2) (w := w) (g := g) ⟨q2, by omega⟩ hp (hT (i - 1) (by omega)) (hT p hp) o1 v1 hg (by omega)
        rw [m_121 ⟨q2, by omega⟩ (hT (i - 1) (by omega)) (by omega) (by omega) (by omega), e3] at e7
        rw [← e7, lI_of h1 (by omega), i_le (x := 0) (y := iI ((i : Int) - d - 1)) (a := 0) rfl rfl (by omega) (by omega)]
        by_cases hc : 0 ≤ (i : Int) - d - 1
        · rw [if_pos hc, show (i : Int) - d - 1 = (p : Int) by omega]
        · rw [if_neg hc, show (p : Int) = 0 by omega]
          rfl
      by_cases hc : -40 < f (i - 1) + (w + (sgV (f (i - 1)) - (g * f p).tdiv 4)) ∧ f (i - 1) + (w + (sgV (f (i - 1)) - (g * f p).tdiv 4)) < 40
      · rw [if_pos hc]
        obtain ⟨r, S', k1, k2, k3⟩ := ih (i + 1) (sI S 29 i (iI (f (i - 1) + (w + (sgV (f (i - 1)) - (g * f p).tdiv 4))))) (uf f i (f (i - 1) + (w + (sgV (f (i - 1)) - (g * f p).tdiv 4)))) (w + (sgV (f (i - 1)) - (g * f p).tdiv 4)) (by omega) (by omega) (by omega) (fun j hj => by
          by_cases e : j = i
          · subst e; rw [uf_s, sI_eq]; exact ⟨hc, rfl⟩
          · rw [uf_n e, sI_nj e]; exact hf j (by omega)) (by omega)
        refine ⟨r, S', k1, Only.sI.tr k2, fun T hT => ?_⟩
        obtain ⟨T', m1, m2, m3⟩ := k3 (sL T 41 i (lI (f (i - 1) + (w + (sgV (f (i - 1)) - (g * f p).tdiv 4))))) (fun j hj => by
          by_cases e : j = i
          · subst e; rw [uf_s, sL_22, if_pos ⟨rfl, rfl⟩]
          · rw [uf_n e, sL_22, if_neg (fun q => e q.2)]; exact hT j (by omega))
        refine ⟨T', ?_, m2, fun q hq => by rw [m3 q hq, sL_o hq]⟩
        rw [mm T hT, if_pos hc]
        exact m1
      · rw [if_neg hc]
        refine ⟨_, _, rfl, Only.sI, fun T hT => ⟨sL T 41 i (lI (f (i - 1) + (w + (sgV (f (i - 1)) - (g * f p).tdiv 4)))), ?_, rfl, fun q hq => sL_o hq⟩⟩
        rw [mm T hT, if_neg hc]
theorem ok_steered (a0 a1 : Int32) : Pr Inv (fun S => f_X7_steered S a0 a1) (fun S => f_X8_steered S a0 a1) := by
  intro S hI
  obtain ⟨a, ha, hx⟩ := i_of a0
  obtain ⟨b, hb, hy⟩ := i_of a1
  show ∃ r S1 S2, f_X7_steered S a0 a1 = some (r, S1) ∧ f_X8_steered S1 a0 a1 = some (r, S2) ∧ Inv S2
  unfold f_X7_steered f_X8_steered
  simp only [g_w hx ha 0 9 0 9 rfl rfl (by omega) (by omega), g_w hy hb 0 5 0 5 rfl rfl (by omega) (by omega), g_i hx ha 0 9 0 9 rfl rfl, g_i hy hb 0 5 0 5 rfl rfl]
  by_cases h1 : 0 ≤ a ∧ a ≤ 9
  · simp only [if_pos h1]
    by_cases h2 : 0 ≤ b ∧ b ≤ 5
    · simp only [if_pos h2]
      obtain ⟨r, S1, k1, k2, k3⟩ := steer h1 h2 hx hy FU 1 (sI S 29 0 8) (fun _ => 8) 0 (by have := FU_gt (n := 100) (by omega); omega) (by omega) (by omega) (fun j hj => ⟨by omega, by rw [show j = 0 by omega, sI_eq]; rfl⟩) (by omega)
      obtain ⟨T, m1, m2, m3⟩ := k3 (sL S1 41 0 8) (fun j hj => by rw [show j = 0 by omega, sL_22, if_pos ⟨rfl, rfl⟩]; rfl)
      refine ⟨r, S1, T, ?_, ?_, ?_⟩
      · rw [wI_ok (x := 0) (a := 0) (n := 0) rfl rfl (by decide) (by decide), Option.bind_some]
        exact k1
      · rw [wL_ok (x := 0) (n := 0) rfl (by decide) (by decide), Option.bind_some]
        exact m1
      · have o := Only.tr (Only.sI (k := 29) (j := 0) (S := S) (x := 8)) k2
        refine hI.scr (fun k hk _ => ?_) (fun i _ => ?_) (fun k h5 h6 => ?_)
        · rw [m2, sL_1, o.1 k (fun e => hk (by unfold Scr; omega))]
        · rw [m2, sL_1, o.1 30 (by decide)]
        · rw [m3 k (by omega), sL_o (by omega), o.2]
    · simp only [if_neg h2]; exact ⟨_, _, S, rfl, rfl, hI⟩
  · simp only [if_neg h1]; exact ⟨_, _, S, rfl, rfl, hI⟩
