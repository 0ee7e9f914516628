/-! ===== numbers on the two tapes ===== -/
theorem numloop {t : Nat} {c : Nat → Int} (hC : CT t c) : ∀ (n p : Nat) (v : Int), t < p + n → p ≤ t → (0 ≤ v ∧ v ≤ 10000) → ∃ (p' : Nat) (w : Int), p ≤ p' ∧ p' ≤ t ∧ (0 ≤ w ∧ w ≤ 10000) ∧ ((p' = p ∧ w = v) ∨ (p < t ∧ 48 ≤ c p ∧ c p ≤ 57)) ∧ (p < t ∧ 48 ≤ c p ∧ c p ≤ 57 → p < p') ∧ (∀ S, Tc S t c p → ∃ S', (∀ x1 x2 x3, f_X4_number_12 n S x1 x2 x3 (iI (min 1000 v)) = f_X4_number_77 S' x1 x2 x3 (iI (min 1000 w))) ∧ OnlyA S S' ∧ Tc S' t c p') ∧ ∀ T, Tm T t c p → ∃ T', (∀ x1 x2 x3, f_X8_number_39 n T x1 x2 x3 (iI v) = f_X8_number_118 T' x1 x2 x3 (iI w)) ∧ OnlyB T T' ∧ Tm T' t c p' := by
  have h100 := hC.1
  intro n
  induction n with
  | zero => intro p v q1 q2; omega
  | succ n ih =>
    intro p v q1 q2 hv
    by_cases hd : p < t ∧ 48 ≤ c p ∧ c p ≤ 57
    · obtain ⟨p', w, g1, g2, g3, g4, g5, g6, g7⟩ := ih (p + 1) (if 999 < v then v else 10 * v + c p - 48) (by omega) (by omega) (by split <;> omega)
      refine ⟨p', w, by omega, g2, g3, Or.inr hd, fun _ => by omega, fun S hS => ?_, fun T hT => ?_⟩
      · obtain ⟨S', e, o, s⟩ := g6 _ (hS.next (by omega))
        refine ⟨S', fun x1 x2 x3 => ?_, OnlyA.sI.tr o, s⟩
        rw [f_X4_number_12, hS.1, hS.2.1, i_le (x := iI (t : Int)) (y := iI (p : Int)) rfl rfl (by omega) (by omega), if_neg (by omega), r_c hC hS hd.1, Option.bind_some, gt01 (e_isDigit rfl (by omega)), if_pos hd.2, Option.bind_some, i_next]
        refine bd (e_min (a := 1000) (b := 10 * (min 1000 v) + c p - 48) rfl (by rw [show (10 : Int32) = iI 10 from rfl, show (48 : Int32) = iI 48 from rfl, iI_mul, iI_add, iI_sub]) (by omega) (by omega)) ?_
        rw [← e x1 x2 x3]
        congr 2
        split <;> omega
      · obtain ⟨T', e, o, s⟩ := g7 _ (hT.next (by omega))
        refine ⟨T', fun x1 x2 x3 => ?_, OnlyB.sI.tr o, s⟩
        rw [f_X8_number_39, hT.1, hT.2.1, i_le (x := iI (t : Int)) (y := iI (p : Int)) rfl rfl (by omega) (by omega), if_neg (by omega), r_m hC hT hd.1, Option.bind_some, gt01 (m_dig rfl (by omega)), if_pos hd.2, i_le (x := iI v) (y := 999) (b := 999) rfl rfl (by omega) (by omega), Option.bind_some]
        unfold f_X8_number_103
        rw [hT.2.1, i_next, ← e x1 x2 x3, show (10 : Int32) = iI 10 from rfl, show (48 : Int32) = iI 48 from rfl, iI_mul, iI_add, iI_sub]
        by_cases h9 : v ≤ 999
        · rw [if_pos h9, if_neg (by omega)]
        · rw [if_neg h9, if_pos (by omega)]
    · refine ⟨p, v, Nat.le_refl p, q2, hv, Or.inl ⟨rfl, rfl⟩, fun h => absurd h hd, fun S hS => ⟨S, fun x1 x2 x3 => ?_, OnlyA.rf, hS⟩, fun T hT => ⟨T, fun x1 x2 x3 => ?_, OnlyB.rf, hT⟩⟩
      · rw [f_X4_number_12, hS.1, hS.2.1, i_le (x := iI (t : Int)) (y := iI (p : Int)) rfl rfl (by omega) (by omega)]
        by_cases h : (t : Int) ≤ (p : Int)
        · rw [if_pos h]
        · have hc := hC.2 p (by omega)
          rw [if_neg h, r_c hC hS (by omega), Option.bind_some, gt01 (e_isDigit rfl (by omega)), if_neg (by omega)]
      · rw [f_X8_number_39, hT.1, hT.2.1, i_le (x := iI (t : Int)) (y := iI (p : Int)) rfl rfl (by omega) (by omega)]
        by_cases h : (t : Int) ≤ (p : Int)
        · rw [if_pos h]
        · have hc := hC.2 p (by omega)
          rw [if_neg h, r_m hC hT (by omega), Option.bind_some, gt01 (m_dig rfl (by omega)), if_neg (by omega)]
theorem b_number {t : Nat} {c : Nat → Int} (hC : CT t c) {x y : Int32} {lo hi : Int} (hx : x = iI lo) (hy : y = iI hi) (h0 : 0 ≤ lo) (h1 : lo ≤ hi) (h2 : hi ≤ 250) : Bas t c (fun v => lo ≤ v ∧ v ≤ hi) (fun S => f_X4_number S x y) (fun T => f_X8_number T x y) := by
  have h100 := hC.1
  intro q hq
  obtain ⟨p, g1, g2, g3, g4, g5⟩ := skips hC FU q (by show t < q + 20000; omega) hq
  obtain ⟨p', w, l1, l2, l3, l4, l5, l6, l7⟩ := numloop hC FU p 0 (by show t < p + 20000; omega) g2 (by omega)
  refine ⟨⟨p, p', w, decide ((p < t ∧ 48 ≤ c p ∧ c p ≤ 57) ∧ lo ≤ w ∧ w ≤ hi), g2, l2, fun h => (of_decide_eq_true h).2, fun S hS => ?_, fun T hT hz => ?_⟩, fun T hT hz => ?_⟩
  · obtain ⟨S1, e1, o1, s1⟩ := g4 S hS
    obtain ⟨S2, e2, o2, s2⟩ := l6 S1 s1
    refine ⟨S2, o1.tr o2, s2, ?_⟩
    have e0 : f_X4_number S x y = f_X4_number_77 S2 x y (iI (p : Int)) (iI (min 1000 w)) := by
      unfold f_X4_number f_X4_skipBlanks
      rw [e1, Option.bind_some, s1.2.1]
      exact e2 _ _ _
    have e3 : f_X4_number_77 S2 x y (iI (p : Int)) (iI (min 1000 w)) = if (p' : Int) = (p : Int) then f_X4_number_95 S2 (iI (p : Int)) (iI (min 1000 w)) else if lo ≤ min 1000 w ∧ min 1000 w ≤ hi then some (iI (min 1000 w), S2) else f_X4_number_95 S2 (iI (p : Int)) (iI (min 1000 w)) := by
      unfold f_X4_number_77
      rw [s2.2.1, i_eq (x := iI (p' : Int)) (y := iI (p : Int)) rfl rfl (by omega) (by omega), gt01 (e_within (a := min 1000 w) (b := lo) (c := hi) rfl hx hy (by omega) (by omega) (by omega))]
    show (_ ∧ f_X4_number S x y = _) ∨ (_ ∧ ∃ w', f_X4_number S x y = _)
    rw [e0, e3]
    by_cases hd : p < t ∧ 48 ≤ c p ∧ c p ≤ 57
    · have := l5 hd
      rw [if_neg (by omega)]
      by_cases hw : lo ≤ w ∧ w ≤ hi
      · rw [if_pos (by omega), Int.min_eq_right (by omega)]
        exact Or.inl ⟨decide_eq_true ⟨hd, hw⟩, rfl⟩
      · rw [if_neg (by omega)]
        exact Or.inr ⟨decide_eq_false (fun q => hw q.2), _, rfl⟩
    · have : p' = p := by rcases l4 with q | q; exact q.1; exact absurd q hd
      rw [if_pos (by omega)]
      exact Or.inr ⟨decide_eq_false (fun q => hd q.1), _, rfl⟩
  · obtain ⟨T1, e1, o1, s1⟩ := g5 T hT
    obtain ⟨T2, e2, o2, s2⟩ := l7 T1 s1
    have z1 : T1.1 30 9 = 0 := by rw [o1.2.1 9 (by decide)]; exact hz
    have hc : Rg (if p < t then c p else 0) := by
      split
      · have := hC.2 p (by omega); omega
      · omega
    have e0 : f_X8_number T x y = if 48 ≤ (if p < t then c p else 0) ∧ (if p < t then c p else 0) ≤ 57 then f_X8_number_118 T2 x y (iI (p : Int)) (iI w) else f_X8_number_24 T1 := by
      unfold f_X8_number f_X8_here
      rw [if_pos hz, e1]
      show ((f_X8_in (iI (if p < t then c p else 0)).toInt64 48 57).bind fun v3 => _) = _
      rw [gt01 (m_dig rfl hc), s1.2.1]
      show (if _ then f_X8_number_39 FU T1 x y (iI (p : Int)) (iI 0) else _) = _
      rw [e2]
    show ∃ T', _ ∧ ((_ ∧ f_X8_number T x y = _ ∧ _ ∧ _) ∨ (_ ∧ ∃ w', f_X8_number T x y = _ ∧ _ ∧ _))
    rw [e0]
    by_cases hd : p < t ∧ 48 ≤ c p ∧ c p ≤ 57
    · rw [if_pos hd.1, if_pos hd.2]
      have e3 : f_X8_number_118 T2 x y (iI (p : Int)) (iI w) = if lo ≤ w ∧ w ≤ hi then some (iI w, sI (sI T2 30 9 0) 30 8 (iI (p' : Int))) else some (iI w, sI (sI T2 30 9 1) 30 8 (iI (p : Int))) := by
        have a0 : f_X8_number_137 T2 (iI (p : Int)) (iI w) 0 = some (iI w, sI (sI T2 30 9 0) 30 8 (iI (p' : Int))) := by
          unfold f_X8_number_137 f_X8_number_156
          rw [bz_0, Option.bind_some, if_pos sI_eq, sI_nj (show 8 ≠ 9 by decide), s2.2.1]
        have a1 : f_X8_number_137 T2 (iI (p : Int)) (iI w) 1 = some (iI w, sI (sI T2 30 9 1) 30 8 (iI (p : Int))) := by
          unfold f_X8_number_137 f_X8_number_156
          rw [bz_1, Option.bind_some, if_neg (by rw [sI_eq]; decide)]
        unfold f_X8_number_118
        rw [gt01 (e_in (a := w) (b := lo) (c := hi) (l_toInt rfl (by omega)) (l_toInt hx (by omega)) (l_toInt hy (by omega))), a0, a1]
      rw [e3]
      by_cases hw : lo ≤ w ∧ w ≤ hi
      · rw [if_pos hw]
        exact ⟨_, (o1.fb.tr o2.fb).tr (FB.s9.tr FB.s8), Or.inl ⟨decide_eq_true ⟨hd, hw⟩, rfl, s2.s9.s8 l2, by rw [sI_nj (by decide), sI_eq]⟩⟩
      · rw [if_neg hw]
        exact ⟨_, (o1.fb.tr o2.fb).tr (FB.s9.tr FB.s8), Or.inr ⟨decide_eq_false (fun q => hw q.2), _, rfl, s2.s9.s8 g2, by rw [sI_nj (by decide), sI_eq]⟩⟩
    · rw [if_neg (show ¬ (48 ≤ (if p < t then c p else 0) ∧ (if p < t then c p else 0) ≤ 57) by split <;> omega)]
      exact ⟨_, o1.fb.tr FB.s9, Or.inr ⟨decide_eq_false (fun q => hd q.1), _, rfl, s1.s9, sI_eq⟩⟩
  · refine ⟨sI T 30 9 1, 0, ?_, FB.s9, hT.s9, sI_eq⟩
    show f_X8_number T x y = _
    unfold f_X8_number f_X8_number_24
    rw [if_neg (by rw [hz]; decide)]
theorem here_stay {t : Nat} {c : Nat → Int} (hC : CT t c) {T : ST} {p : Nat} (hT : Tm T t c p) (hp : p < t) (h : c p ≠ 32) : f_X8_here T = some (iI (c p), T) := by
  have h100 := hC.1
  have hc := hC.2 p hp
  have hn : ¬ iI (t : Int) ≤ iI (p : Int) := fun q => by
    have := (c_le rfl rfl (by omega) (by omega)).mp q
    omega
  unfold f_X8_here FU
  rw [f_X8_here_0, f_X8_here_38, hT.1, hT.2.1, if_neg hn, if_neg hn, r_m hC hT hp, Option.bind_some, Option.bind_some, i_eq (x := iI (c p)) (y := 32) (b := 32) rfl rfl (by omega) (by omega), if_neg h]
theorem b_digit {t : Nat} {c : Nat → Int} (hC : CT t c) : Bas t c (fun v => 0 ≤ v ∧ v ≤ 9) f_X4_digit f_X8_digit := by
  have h100 := hC.1
  intro q hq
  obtain ⟨p, g1, g2, g3, g4, g5⟩ := skips hC FU q (by show t < q + 20000; omega) hq
  refine ⟨⟨p, if p < t ∧ 48 ≤ c p ∧ c p ≤ 57 then p + 1 else p, c p - 48, decide (p < t ∧ 48 ≤ c p ∧ c p ≤ 57), g2, by split <;> omega, fun h => by have := of_decide_eq_true h; omega, fun S hS => ?_, fun T hT hz => ?_⟩, fun T hT hz => ?_⟩
  · obtain ⟨S1, e1, o1, s1⟩ := g4 S hS
    have e0 : f_X4_digit S = if p < t ∧ 48 ≤ c p ∧ c p ≤ 57 then some (iI (c p - 48), sI S1 22 3 (iI ((p + 1 : Nat) : Int))) else f_X4_digit_55 S1 := by
      unfold f_X4_digit f_X4_skipBlanks
      rw [e1, Option.bind_some, s1.1, s1.2.1, i_le (x := iI (t : Int)) (y := iI (p : Int)) rfl rfl (by omega) (by omega)]
      by_cases h : (t : Int) ≤ (p : Int)
      · rw [if_pos h, if_neg (by omega)]
      · have hc := hC.2 p (by omega)
        rw [if_neg h, r_c hC s1 (by omega), Option.bind_some, gt01 (e_isDigit rfl (by omega)), i_next]
        by_cases hd : 48 ≤ c p ∧ c p ≤ 57
        · rw [if_pos hd, if_pos ⟨by omega, hd⟩, sI_eq, show iI ((p + 1 : Nat) : Int) - 1 = iI (p : Int) by rw [show (1 : Int32) = iI 1 from rfl, iI_sub]; congr 1; omega]
          have e9 : rI (sI S1 22 3 (iI ((p + 1 : Nat) : Int))) 1 24 (iI (p : Int)) = some (iI (c p)) := by
            rw [rI_ok (x := iI (p : Int)) (n := p) rfl rfl (by rw [al24]; omega) (by omega), sI_ne (by decide), s1.2.2.2 p (by omega)]
          rw [e9, Option.bind_some, show (48 : Int32) = iI 48 from rfl, iI_sub]
        · rw [if_neg hd, if_neg (fun q => hd q.2)]
    rw [e0]
    by_cases hd : p < t ∧ 48 ≤ c p ∧ c p ≤ 57
    · rw [if_pos hd, if_pos hd]
      exact ⟨_, o1.tr OnlyA.sI, s1.next hd.1, Or.inl ⟨decide_eq_true hd, rfl⟩⟩
    · rw [if_neg hd, if_neg hd]
      refine ⟨_, o1, s1, Or.inr ⟨decide_eq_false hd, 0, ?_⟩⟩
      unfold f_X4_digit_55
      rw [s1.2.1]
  · obtain ⟨T1, e1, o1, s1⟩ := g5 T hT
    have z1 : T1.1 30 9 = 0 := by rw [o1.2.1 9 (by decide)]; exact hz
    have hc : Rg (if p < t then c p else 0) := by
      split
      · have := hC.2 p (by omega); omega
      · omega
    have e0 : f_X8_digit T = if 48 ≤ (if p < t then c p else 0) ∧ (if p < t then c p else 0) ≤ 57 then f_X8_digit_30 T1 0 else f_X8_digit_30 T1 1 := by
      unfold f_X8_digit f_X8_here f_X8_digit_25
      rw [if_pos hz, e1]
      show ((f_X8_in (iI (if p < t then c p else 0)).toInt64 48 57).bind fun v3 => _) = _
      rw [gt01 (m_dig rfl hc)]
    rw [e0]
    by_cases hd : p < t ∧ 48 ≤ c p ∧ c p ≤ 57
    · have s2 : Tm (sI T1 30 9 0) t c p := s1.s9
      have z3 : (sI T1 30 9 0).1 30 9 = 0 := sI_eq
      rw [if_pos hd.1, if_pos hd.2, if_pos hd]
      refine ⟨sI (sI T1 30 9 0) 30 8 (iI ((p + 1 : Nat) : Int)), (o1.fb.tr FB.s9).tr FB.s8, Or.inl ⟨decide_eq_true hd, ?_, s2.next hd.1, by rw [sI_nj (by decide)]; exact z3⟩⟩
      unfold f_X8_digit_30
      rw [bz_0, Option.bind_some, if_pos sI_eq, here_stay hC s2 hd.1 (by omega)]
      show f_X8_digit_51 (sI T1 30 9 0) (iI (c p) - 48) = _
      unfold f_X8_digit_51 f_X8_digit_69
      rw [if_pos z3, s2.2.1, i_next, show (48 : Int32) = iI 48 from rfl, iI_sub]
    · rw [if_neg (show ¬ (48 ≤ (if p < t then c p else 0) ∧ (if p < t then c p else 0) ≤ 57) by split <;> omega), if_neg hd]
      refine ⟨sI (sI T1 30 9 1) 30 8 (iI (p : Int)), o1.fb.tr (FB.s9.tr FB.s8), Or.inr ⟨decide_eq_false hd, 0, ?_, s1.s9.s8 g2, by rw [sI_nj (by decide), sI_eq]⟩⟩
      unfold f_X8_digit_30 f_X8_digit_51 f_X8_digit_69
      rw [bz_1, Option.bind_some, if_neg (by rw [sI_eq]; decide), if_neg (by rw [sI_eq]; decide), sI_nj (show 8 ≠ 9 by decide), s1.2.1, show (0 : Int32) = iI 0 from rfl, iI_add, Int.add_zero]
  · refine ⟨sI (sI T 30 9 1) 30 8 (iI (q : Int)), 0, ?_, FB.s9.tr FB.s8, hT.s9.s8 hq, by rw [sI_nj (by decide), sI_eq]⟩
    unfold f_X8_digit f_X8_digit_25 f_X8_digit_30 f_X8_digit_51 f_X8_digit_69
    rw [if_neg (by rw [hz]; decide), bz_1, Option.bind_some, if_neg (by rw [sI_eq]; decide), if_neg (by rw [sI_eq]; decide), sI_nj (show 8 ≠ 9 by decide), hT.2.1, show (0 : Int32) = iI 0 from rfl, iI_add, Int.add_zero]
