/-! ===== rows of minutes, on and back ===== -/
def GG (S : ST) (m : Nat) (g : Nat → Nat → Prop) : Prop := ∀ i, i < 11 → ∃ e : Nat, e ≤ 100 ∧ S.1 16 (11 * m + i) = iI (e : Int) ∧ ∀ s, s < 2432 → (g i s ↔ e < 100 ∧ bt S (50 + e) s = true)
theorem GG.cg {S S' : ST} {m : Nat} {g : Nat → Nat → Prop} (h : GG S m g) (h1 : S'.1 16 = S.1 16) (h2 : ∀ q, 50 ≤ q → q < 150 → S'.2 q = S.2 q) : GG S' m g := by
  intro i hi
  obtain ⟨e, e1, e2, e3⟩ := h i hi
  refine ⟨e, e1, by rw [h1]; exact e2, fun s hs => ?_⟩
  rw [e3 s hs]
  constructor
  · rintro ⟨q1, q2⟩
    exact ⟨q1, by rw [bt_cg (h2 _ (by omega) (by omega))]; exact q2⟩
  · rintro ⟨q1, q2⟩
    exact ⟨q1, by rw [bt_cg (h2 _ (by omega) (by omega))] at q2; exact q2⟩
theorem alR : ∀ h, h < 17 → al 3 (150 + h) = 38 := fun h hh => by
  have := alF (100 + h) (by omega)
  rwa [show 50 + (100 + h) = 150 + h by omega] at this
theorem r_en {S : ST} {m i e : Nat} (hm : m < 16) (hi : i < 11) (he : S.1 16 (11 * m + i) = iI (e : Int)) : rI S 0 16 (iI (m : Int) * 11 + iI (i : Int)) = some (iI (e : Int)) := by
  rw [rI_ok ix11 rfl (by rw [al16]; omega) (by omega), he]
theorem btw {S : ST} {k w b : Nat} (hb : b < 64) : bt S k (64 * w + b) = (S.2 k w).toBitVec.getLsbD b := by
  unfold bt
  rw [show (64 * w + b) / 64 = w by omega, show (64 * w + b) % 64 = b by omega]
theorem mv_go {m w : Nat} (hm : m < 16) (hw : w < 38) {g : Nat → Nat → Prop} : ∀ (k i n : Nat) (S : ST), i + k = 11 → k < n → GG S m g → ∃ S', f_X2_moveLater_2 n S (iI (m : Int)) (iI (w : Int)) (iI (i : Int)) = some S' ∧ FrL (151 + m) S S' ∧ ∀ t, t < 2432 → (bt S' (151 + m) t = true ↔ bt S (151 + m) t = true ∨ ∃ l s, (i ≤ l ∧ l < 11) ∧ s / 64 = w ∧ t = s + tkV l ∧ bt S (150 + m) s = true ∧ g l s) := by
  intro k
  induction k with
  | zero =>
    intro i n S hi hn hG
    obtain ⟨n, rfl⟩ : ∃ n', n = n' + 1 := ⟨n - 1, by omega⟩
    rw [f_X2_moveLater_2, i_le (x := 11) (a := 11) (b := (i : Int)) rfl rfl (by omega) (by omega), if_pos (by omega)]
    refine ⟨S, rfl, FrL.rf, fun t ht => ⟨fun q => Or.inl q, fun q => ?_⟩⟩
    rcases q with q | ⟨l, s, q, -⟩
    · exact q
    · omega
  | succ k ih =>
    intro i n S hi hn hG
    obtain ⟨n, rfl⟩ : ∃ n', n = n' + 1 := ⟨n - 1, by omega⟩
    obtain ⟨e, e1, e2, e3⟩ := hG i (by omega)
    have htk := tk_rg i (by omega)
    rw [f_X2_moveLater_2, i_le (x := 11) (a := 11) (b := (i : Int)) rfl rfl (by omega) (by omega), if_neg (by omega), r_en hm (by omega) e2, Option.bind_some, i_le (x := 100) (a := 100) (b := (e : Int)) rfl rfl (by omega) (by omega)]
    by_cases h100 : (100 : Int) ≤ (e : Int)
    · rw [if_pos h100, f_X2_moveLater_107, i_next]
      obtain ⟨S', f1, f2, f3⟩ := ih (i + 1) n S (by omega) (by omega) hG
      refine ⟨S', f1, f2, fun t ht => (f3 t ht).trans ⟨fun q => ?_, fun q => ?_⟩⟩
      · rcases q with q | ⟨l, s, q1, q2⟩
        · exact Or.inl q
        · exact Or.inr ⟨l, s, by omega, q2⟩
      · rcases q with q | ⟨l, s, q1, q2, q3, q4, q5⟩
        · exact Or.inl q
        · by_cases hl : l = i
          · subst hl
            have := (e3 s (by omega)).mp q5
            omega
          · exact Or.inr ⟨l, s, by omega, q2, q3, q4, q5⟩
    · rw [if_neg h100]
      have he : e < 100 := by omega
      generalize hbits : S.2 (150 + m) w &&& S.2 (50 + e) w = bits
      have hb : ∀ b, b < 64 → bits.toBitVec.getLsbD b = (bt S (150 + m) (64 * w + b) && bt S (50 + e) (64 * w + b)) := fun b hb => by
        rw [← hbits, Int64.toBitVec_and, BitVec.getLsbD_and, btw hb, btw hb]
      have hb64 : ∀ b, 64 ≤ b → bits.toBitVec.getLsbD b = false := fun b hb => BitVec.getLsbD_of_ge _ _ hb
      have key : ∃ S2, FrL (151 + m) S S2 ∧ (f_X2_moveLater_2 (n + 1) S (iI (m : Int)) (iI (w : Int)) (iI (i : Int)) = f_X2_moveLater_2 n S2 (iI (m : Int)) (iI (w : Int)) (iI ((i + 1 : Nat) : Int))) ∧ ∀ t, t < 2432 → (bt S2 (151 + m) t = true ↔ bt S (151 + m) t = true ∨ ∃ s, s / 64 = w ∧ t = s + tkV i ∧ bt S (150 + m) s = true ∧ g i s) := by
        have hgs : ∀ b, b < 64 → (bits.toBitVec.getLsbD b = true ↔ bt S (150 + m) (64 * w + b) = true ∧ g i (64 * w + b)) := fun b hb' => by
          rw [hb b hb', Bool.and_eq_true, e3 _ (by omega)]
          exact ⟨fun q => ⟨q.1, he, q.2⟩, fun q => ⟨q.1, q.2.2⟩⟩
        have e64 : (64 : Int32) - iI (tkV i : Int) = iI ((64 - tkV i : Nat) : Int) := by
          rw [show (64 : Int32) = iI 64 from rfl, iI_sub]
          congr 1
          omega
        have pre : f_X2_moveLater_2 (n + 1) S (iI (m : Int)) (iI (w : Int)) (iI (i : Int)) = if (38 : Int) ≤ ((w + 1 : Nat) : Int) then f_X2_moveLater_2 n (sL S (151 + m) w (S.2 (151 + m) w ||| sl64 bits (iI (tkV i : Int)))) (iI (m : Int)) (iI (w : Int)) (iI ((i + 1 : Nat) : Int)) else ((rL (sL S (151 + m) w (S.2 (151 + m) w ||| sl64 bits (iI (tkV i : Int)))) (151 + m) (iI ((w + 1 : Nat) : Int))).bind fun v11 => (wL (sL S (151 + m) w (S.2 (151 + m) w ||| sl64 bits (iI (tkV i : Int)))) (151 + m) (iI ((w + 1 : Nat) : Int)) (v11 ||| us64 bits (iI ((64 - tkV i : Nat) : Int)))).bind fun S13 => f_X2_moveLater_2 n S13 (iI (m : Int)) (iI (w : Int)) (iI ((i + 1 : Nat) : Int))) := by
          rw [f_X2_moveLater_2, i_le (x := 11) (a := 11) (b := (i : Int)) rfl rfl (by omega) (by omega), if_neg (by omega), r_en hm (by omega) e2, Option.bind_some, i_le (x := 100) (a := 100) (b := (e : Int)) rfl rfl (by omega) (by omega), if_neg h100, rR (by omega) rfl, Option.bind_some, rL_ok (n := w) rfl (by rw [alR m (by omega)]; omega) (by omega), Option.bind_some, rF he rfl, Option.bind_some, rL_ok (n := w) rfl (by rw [alF e (by omega)]; omega) (by omega), Option.bind_some, hbits, i_next, rR (h := m + 1) (by omega) rfl, Option.bind_some, show 150 + (m + 1) = 151 + m by omega, rL_ok (n := w) rfl (by rw [show 151 + m = 150 + (m + 1) by omega, alR (m + 1) (by omega)]; omega) (by omega), Option.bind_some, r_tk rfl (by omega), Option.bind_some, wL_ok (n := w) rfl (by rw [show 151 + m = 150 + (m + 1) by omega, alR (m + 1) (by omega)]; omega) (by omega), Option.bind_some, i_next, i_le (x := 38) (a := 38) (b := ((w + 1 : Nat) : Int)) rfl rfl (by omega) (by omega)]
          unfold f_X2_moveLater_107
          rw [i_next]
          simp only [Option.bind_some, e64]
        by_cases hw1 : (38 : Int) ≤ ((w + 1 : Nat) : Int)
        · refine ⟨_, FrL.sL, by rw [pre, if_pos hw1], fun t ht => ?_⟩
          by_cases htw : t / 64 = w
          · obtain ⟨b, hb', rfl⟩ : ∃ b, b < 64 ∧ t = 64 * w + b := ⟨t % 64, by omega, by omega⟩
            rw [btw hb', sL_eq, Int64.toBitVec_or, BitVec.getLsbD_or, Bool.or_eq_true, btw hb', sl_bv (by omega), BitVec.getLsbD_shiftLeft]
            refine or_congr Iff.rfl ?_
            by_cases hbt : b < tkV i
            · rw [decide_eq_true hbt]
              simp only [Bool.not_true, Bool.and_false, Bool.false_and, Bool.false_eq_true, false_iff]
              rintro ⟨s, s1, s2, -⟩
              omega
            · rw [decide_eq_false hbt, decide_eq_true hb']
              simp only [Bool.not_false, Bool.and_true, Bool.true_and]
              rw [hgs _ (by omega)]
              constructor
              · intro q
                exact ⟨64 * w + (b - tkV i), by omega, by omega, q⟩
              · rintro ⟨s, s1, s2, s3⟩
                rw [show 64 * w + (b - tkV i) = s by omega]
                exact s3
          · have : bt (sL S (151 + m) w (S.2 (151 + m) w ||| sl64 bits (iI (tkV i : Int)))) (151 + m) t = bt S (151 + m) t := by
              unfold bt
              rw [sL_nj htw]
            rw [this]
            refine ⟨fun q => Or.inl q, fun q => ?_⟩
            rcases q with q | ⟨s, s1, s2, -⟩
            · exact q
            · omega
        · refine ⟨sL (sL S (151 + m) w (S.2 (151 + m) w ||| sl64 bits (iI (tkV i : Int)))) (151 + m) (w + 1) ((sL S (151 + m) w (S.2 (151 + m) w ||| sl64 bits (iI (tkV i : Int)))).2 (151 + m) (w + 1) ||| us64 bits (iI ((64 - tkV i : Nat) : Int))), FrL.sL.tr FrL.sL, ?_, fun t ht => ?_⟩
          · rw [pre, if_neg hw1, rL_ok (n := w + 1) rfl (by rw [show 151 + m = 150 + (m + 1) by omega, alR (m + 1) (by omega)]; omega) (by omega), Option.bind_some, wL_ok (n := w + 1) rfl (by rw [show 151 + m = 150 + (m + 1) by omega, alR (m + 1) (by omega)]; omega) (by omega), Option.bind_some]
          · by_cases htw : t / 64 = w
            · obtain ⟨b, hb', rfl⟩ : ∃ b, b < 64 ∧ t = 64 * w + b := ⟨t % 64, by omega, by omega⟩
              rw [btw hb', sL_nj (by omega), sL_eq, Int64.toBitVec_or, BitVec.getLsbD_or, Bool.or_eq_true, btw hb', sl_bv (by omega), BitVec.getLsbD_shiftLeft]
              refine or_congr Iff.rfl ?_
              by_cases hbt : b < tkV i
              · rw [decide_eq_true hbt]
                simp only [Bool.not_true, Bool.and_false, Bool.false_and, Bool.false_eq_true, false_iff]
                rintro ⟨s, s1, s2, -⟩
                omega
              · rw [decide_eq_false hbt, decide_eq_true hb']
                simp only [Bool.not_false, Bool.and_true, Bool.true_and]
                rw [hgs _ (by omega)]
                constructor
                · intro q
                  exact ⟨64 * w + (b - tkV i), by omega, by omega, q⟩
                · rintro ⟨s, s1, s2, s3⟩
                  rw [show 64 * w + (b - tkV i) = s by omega]
                  exact s3
            · by_cases htw1 : t / 64 = w + 1
              · obtain ⟨b, hb', rfl⟩ : ∃ b, b < 64 ∧ t = 64 * (w + 1) + b := ⟨t % 64, by omega, by omega⟩
                rw [btw hb', sL_eq, sL_nj (by omega), Int64.toBitVec_or, BitVec.getLsbD_or, Bool.or_eq_true, btw hb', us_bv (by omega), BitVec.getLsbD_ushiftRight]
                refine or_congr Iff.rfl ?_
                by_cases hbt : b < tkV i
                · rw [hgs _ (by omega)]
                  constructor
                  · intro q
                    exact ⟨64 * w + (64 - tkV i + b), by omega, by omega, q⟩
                  · rintro ⟨s, s1, s2, s3⟩
                    rw [show 64 * w + (64 - tkV i + b) = s by omega]
                    exact s3
                · rw [hb64 _ (by omega)]
                  simp only [Bool.false_eq_true, false_iff]
                  rintro ⟨s, s1, s2, -⟩
                  omega
              · have : bt (sL (sL S (151 + m) w (S.2 (151 + m) w ||| sl64 bits (iI (tkV i : Int)))) (151 + m) (w + 1) ((sL S (151 + m) w (S.2 (151 + m) w ||| sl64 bits (iI (tkV i : Int)))).2 (151 + m) (w + 1) ||| us64 bits (iI ((64 - tkV i : Nat) : Int)))) (151 + m) t = bt S (151 + m) t := by
                  unfold bt
                  rw [sL_nj htw1, sL_nj htw]
                rw [this]
                refine ⟨fun q => Or.inl q, fun q => ?_⟩
                rcases q with q | ⟨s, s1, s2, -⟩
                · exact q
                · omega
      obtain ⟨S2, o2, p2, b2'⟩ := key
      obtain ⟨S', f1, f2, f3⟩ := ih (i + 1) n S2 (by omega) (by omega) (hG.cg (by rw [o2.1]) (fun q h1 h2 => o2.2 q (by omega)))
      refine ⟨S', ?_, o2.tr f2, fun t ht => ?_⟩
      · rw [f_X2_moveLater_2, i_le (x := 11) (a := 11) (b := (i : Int)) rfl rfl (by omega) (by omega), if_neg (by omega), r_en hm (by omega) e2, Option.bind_some, i_le (x := 100) (a := 100) (b := (e : Int)) rfl rfl (by omega) (by omega), if_neg h100] at p2
        rw [p2, f1]
      · rw [f3 t ht, b2' t ht]
        constructor
        · rintro ((q | ⟨s, q1, q2, q3, q4⟩) | ⟨l, s, q1, q2, q3, q4, q5⟩)
          · exact Or.inl q
          · exact Or.inr ⟨i, s, by omega, q1, q2, q3, q4⟩
          · exact Or.inr ⟨l, s, by omega, q2, q3, by rw [bt_cg (o2.2 (150 + m) (by omega))] at q4; exact q4, q5⟩
        · rintro (q | ⟨l, s, q1, q2, q3, q4, q5⟩)
          · exact Or.inl (Or.inl q)
          · by_cases hl : l = i
            · subst hl
              exact Or.inl (Or.inr ⟨s, q2, q3, q4, q5⟩)
            · exact Or.inr ⟨l, s, by omega, q2, q3, by rw [bt_cg (o2.2 (150 + m) (by omega))]; exact q4, q5⟩
theorem on_go {m : Nat} (hm : m < 16) {g : Nat → Nat → Prop} : ∀ (k w n : Nat) (S : ST), w + k = 38 → k < n → GG S m g → ∃ S', f_X2_goOn_13 n S (iI (m : Int)) (iI (w : Int)) = some S' ∧ FrL (151 + m) S S' ∧ ∀ t, t < 2432 → (bt S' (151 + m) t = true ↔ bt S (151 + m) t = true ∨ ∃ l s, l < 11 ∧ w ≤ s / 64 ∧ t = s + tkV l ∧ bt S (150 + m) s = true ∧ g l s) := by
  intro k
  induction k with
  | zero =>
    intro w n S hw hn hG
    obtain ⟨n, rfl⟩ : ∃ n', n = n' + 1 := ⟨n - 1, by omega⟩
    rw [f_X2_goOn_13, i_le (x := 38) (a := 38) (b := (w : Int)) rfl rfl (by omega) (by omega), if_pos (by omega)]
    refine ⟨S, rfl, FrL.rf, fun t ht => ⟨fun q => Or.inl q, fun q => ?_⟩⟩
    rcases q with q | ⟨l, s, -, q2, q3, -⟩
    · exact q
    · omega
  | succ k ih =>
    intro w n S hw hn hG
    obtain ⟨n, rfl⟩ : ∃ n', n = n' + 1 := ⟨n - 1, by omega⟩
    rw [f_X2_goOn_13, i_le (x := 38) (a := 38) (b := (w : Int)) rfl rfl (by omega) (by omega), if_neg (by omega), rR (by omega) rfl, Option.bind_some, rL_ok (n := w) rfl (by rw [alR m (by omega)]; omega) (by omega), Option.bind_some]
    unfold f_X2_goOn_38
    rw [i_next]
    by_cases hz : S.2 (150 + m) w = 0
    · rw [if_pos (lgz.mpr hz)]
      obtain ⟨S', f1, f2, f3⟩ := ih (w + 1) n S (by omega) (by omega) hG
      refine ⟨S', f1, f2, fun t ht => (f3 t ht).trans ⟨fun q => ?_, fun q => ?_⟩⟩
      · rcases q with q | ⟨l, s, q1, q2, q3⟩
        · exact Or.inl q
        · exact Or.inr ⟨l, s, q1, by omega, q3⟩
      · rcases q with q | ⟨l, s, q1, q2, q3, q4, q5⟩
        · exact Or.inl q
        · by_cases hs : s / 64 = w
          · unfold bt at q4
            rw [hs, hz, z_bit] at q4
            cases q4
          · exact Or.inr ⟨l, s, q1, by omega, q3, q4, q5⟩
    · rw [if_neg (fun q => hz (lgz.mp q))]
      obtain ⟨S1, e1, o1, b1⟩ := mv_go hm (w := w) (by omega) 11 0 FU S rfl (by show 11 < 20000; omega) hG
      obtain ⟨S', f1, f2, f3⟩ := ih (w + 1) n S1 (by omega) (by omega) (hG.cg (by rw [o1.1]) (fun q h1 h2 => o1.2 q (by omega)))
      refine ⟨S', ?_, o1.tr f2, fun t ht => ?_⟩
      · unfold f_X2_moveLater
        rw [show f_X2_moveLater_2 FU S (iI (m : Int)) (iI (w : Int)) 0 = _ from e1, Option.bind_some, f1]
      · rw [f3 t ht, b1 t ht]
        constructor
        · rintro ((q | ⟨l, s, q1, q2, q3, q4, q5⟩) | ⟨l, s, q1, q2, q3, q4, q5⟩)
          · exact Or.inl q
          · exact Or.inr ⟨l, s, q1.2, by omega, q3, q4, q5⟩
          · exact Or.inr ⟨l, s, q1, by omega, q3, by rw [bt_cg (o1.2 (150 + m) (by omega))] at q4; exact q4, q5⟩
        · rintro (q | ⟨l, s, q1, q2, q3, q4, q5⟩)
          · exact Or.inl (Or.inl q)
          · by_cases hs : s / 64 = w
            · exact Or.inl (Or.inr ⟨l, s, ⟨Nat.zero_le l, q1⟩, hs, q3, q4, q5⟩)
            · exact Or.inr ⟨l, s, q1, by omega, q3, by rw [bt_cg (o1.2 (150 + m) (by omega))]; exact q4, q5⟩
theorem e_goOn {m : Nat} (hm : m < 16) {g : Nat → Nat → Prop} {S : ST} (hG : GG S m g) : ∃ S', f_X2_goOn S (iI (m : Int)) = some S' ∧ FrL (151 + m) S S' ∧ ∀ t, t < 2432 → (bt S' (151 + m) t = true ↔ ∃ l s, l < 11 ∧ t = s + tkV l ∧ bt S (150 + m) s = true ∧ g l s) := by
  obtain ⟨S1, e1, o1, b1⟩ := e_wipe (S := S) (k := 151 + m) (n := 38) (by rw [show 151 + m = 150 + (m + 1) by omega, alR (m + 1) (by omega)]) (by omega) (by omega)
  obtain ⟨S', f1, f2, f3⟩ := on_go hm 38 0 FU S1 rfl (by show 38 < 20000; omega) (hG.cg (by rw [o1.1]) (fun q h1 h2 => o1.2 q (by omega)))
  refine ⟨S', ?_, o1.tr f2, fun t ht => ?_⟩
  · unfold f_X2_goOn
    rw [i_next, rR (h := m + 1) (by omega) rfl, Option.bind_some, show 150 + (m + 1) = 151 + m by omega, e1, Option.bind_some]
    exact f1
  · rw [f3 t ht, b1 t (by omega)]
    constructor
    · rintro (q | ⟨l, s, q1, q2, q3, q4, q5⟩)
      · cases q
      · exact ⟨l, s, q1, q3, by rw [bt_cg (o1.2 (150 + m) (by omega))] at q4; exact q4, q5⟩
    · rintro ⟨l, s, q1, q3, q4, q5⟩
      exact Or.inr ⟨l, s, q1, Nat.zero_le _, q3, by rw [bt_cg (o1.2 (150 + m) (by omega))]; exact q4, q5⟩
/-! back -/
def shB (h x : Int64) (c : Nat) : Bool := if c < 64 then h.toBitVec.getLsbD c else x.toBitVec.getLsbD (c - 64)
theorem ea_go {m w : Nat} (hm : m < 16) (hw : w < 38) {g : Nat → Nat → Prop} {S : ST} (hG : GG S m g) (h x : Int64) : ∀ (k i n : Nat) (acc : Int64), i + k = 11 → k < n → ∃ r, f_X2_earlier_6 S n (iI (m : Int)) (iI (w : Int)) h x acc (iI (i : Int)) = some r ∧ ∀ b, b < 64 → (r.toBitVec.getLsbD b = true ↔ acc.toBitVec.getLsbD b = true ∨ ∃ l, (i ≤ l ∧ l < 11) ∧ g l (64 * w + b) ∧ shB h x (b + tkV l) = true) := by
  intro k
  induction k with
  | zero =>
    intro i n acc hi hn
    obtain ⟨n, rfl⟩ : ∃ n', n = n' + 1 := ⟨n - 1, by omega⟩
    rw [f_X2_earlier_6, i_le (x := 11) (a := 11) (b := (i : Int)) rfl rfl (by omega) (by omega), if_pos (by omega)]
    refine ⟨acc, rfl, fun b hb => ⟨fun q => Or.inl q, fun q => ?_⟩⟩
    rcases q with q | ⟨l, q, -⟩
    · exact q
    · omega
  | succ k ih =>
    intro i n acc hi hn
    obtain ⟨n, rfl⟩ : ∃ n', n = n' + 1 := ⟨n - 1, by omega⟩
    obtain ⟨e, e1, e2, e3⟩ := hG i (by omega)
    have htk := tk_rg i (by omega)
    rw [f_X2_earlier_6, i_le (x := 11) (a := 11) (b := (i : Int)) rfl rfl (by omega) (by omega), if_neg (by omega)]
    by_cases hz : h ||| x = 0
    · rw [if_pos (lgz.mpr hz)]
      refine ⟨acc, rfl, fun b hb => ⟨fun q => Or.inl q, fun q => ?_⟩⟩
      rcases q with q | ⟨l, q1, q2, q3⟩
      · exact q
      · have hzb : ∀ c, h.toBitVec.getLsbD c = false ∧ x.toBitVec.getLsbD c = false := fun c => by
          have := congrArg (fun z : Int64 => z.toBitVec.getLsbD c) hz
          simp only [Int64.toBitVec_or, BitVec.getLsbD_or, z_bit, Bool.or_eq_false_iff] at this
          exact this
        unfold shB at q3
        split at q3
        · rw [(hzb _).1] at q3; cases q3
        · rw [(hzb _).2] at q3; cases q3
    · rw [if_neg (fun q => hz (lgz.mp q)), r_en hm (by omega) e2, Option.bind_some, i_le (x := 100) (a := 100) (b := (e : Int)) rfl rfl (by omega) (by omega)]
      unfold f_X2_earlier_83
      rw [i_next]
      by_cases h100 : (100 : Int) ≤ (e : Int)
      · rw [if_pos h100]
        obtain ⟨r, f1, f2⟩ := ih (i + 1) n acc (by omega) (by omega)
        refine ⟨r, f1, fun b hb => (f2 b hb).trans ⟨fun q => ?_, fun q => ?_⟩⟩
        · rcases q with q | ⟨l, q1, q2⟩
          · exact Or.inl q
          · exact Or.inr ⟨l, by omega, q2⟩
        · rcases q with q | ⟨l, q1, q2, q3⟩
          · exact Or.inl q
          · by_cases hl : l = i
            · subst hl
              have := (e3 (64 * w + b) (by omega)).mp q2
              omega
            · exact Or.inr ⟨l, by omega, q2, q3⟩
      · rw [if_neg h100]
        have he : e < 100 := by omega
        have e64 : (64 : Int32) - iI (tkV i : Int) = iI ((64 - tkV i : Nat) : Int) := by
          rw [show (64 : Int32) = iI 64 from rfl, iI_sub]
          congr 1
          omega
        rw [rF he rfl, Option.bind_some, rL_ok (n := w) rfl (by rw [alF e (by omega)]; omega) (by omega), Option.bind_some, r_tk rfl (by omega), Option.bind_some, Option.bind_some, e64]
        obtain ⟨r, f1, f2⟩ := ih (i + 1) n (acc ||| (S.2 (50 + e) w &&& (us64 h (iI (tkV i : Int)) ||| sl64 x (iI ((64 - tkV i : Nat) : Int))))) (by omega) (by omega)
        refine ⟨r, f1, fun b hb => ?_⟩
        rw [f2 b hb, Int64.toBitVec_or, BitVec.getLsbD_or, Int64.toBitVec_and, BitVec.getLsbD_and, Int64.toBitVec_or, BitVec.getLsbD_or, us_bv (by omega), sl_bv (by omega), BitVec.getLsbD_ushiftRight, BitVec.getLsbD_shiftLeft, Bool.or_eq_true, Bool.and_eq_true]
        have hsh : (h.toBitVec.getLsbD (tkV i + b) || (decide (b < 64) && !decide (b < 64 - tkV i) && x.toBitVec.getLsbD (b - (64 - tkV i)))) = shB h x (b + tkV i) := by
          unfold shB
          by_cases hc : b + tkV i < 64
          · rw [if_pos hc, decide_eq_true (show b < 64 - tkV i by omega), Nat.add_comm]
            simp
          · rw [if_neg hc, BitVec.getLsbD_of_ge _ _ (by omega), decide_eq_false (show ¬ b < 64 - tkV i by omega), decide_eq_true hb, show b - (64 - tkV i) = b + tkV i - 64 by omega]
            simp
        rw [hsh, ← btw hb]
        constructor
        · rintro ((q | ⟨q1, q2⟩) | ⟨l, q1, q2, q3⟩)
          · exact Or.inl q
          · exact Or.inr ⟨i, by omega, (e3 _ (by omega)).mpr ⟨he, q1⟩, q2⟩
          · exact Or.inr ⟨l, by omega, q2, q3⟩
        · rintro (q | ⟨l, q1, q2, q3⟩)
          · exact Or.inl (Or.inl q)
          · by_cases hl : l = i
            · subst hl
              exact Or.inl (Or.inr ⟨((e3 _ (by omega)).mp q2).2, q3⟩)
            · exact Or.inr ⟨l, by omega, q2, q3⟩
theorem bk_go {m : Nat} (hm : m < 16) {g : Nat → Nat → Prop} (K : ST → Int32 → Option ST) : ∀ (k w n : Nat) (S : ST), w + k = 38 → k < n → GG S m g → ∃ S', f_X2_goBack_16 K n S (iI (m : Int)) (iI (w : Int)) = K S' (iI (m : Int) + (-1)) ∧ FrL (150 + m) S S' ∧ (∀ t, t < 64 * w → bt S' (150 + m) t = bt S (150 + m) t) ∧ ∀ t, 64 * w ≤ t → t < 2432 → (bt S' (150 + m) t = true ↔ ∃ l, l < 11 ∧ g l t ∧ t + tkV l < 2432 ∧ bt S (151 + m) (t + tkV l) = true) := by
  intro k
  induction k with
  | zero =>
    intro w n S hw hn hG
    obtain ⟨n, rfl⟩ : ∃ n', n = n' + 1 := ⟨n - 1, by omega⟩
    rw [f_X2_goBack_16, i_le (x := 38) (a := 38) (b := (w : Int)) rfl rfl (by omega) (by omega), if_pos (by omega)]
    exact ⟨S, rfl, FrL.rf, fun _ _ => rfl, fun t h1 h2 => by omega⟩
  | succ k ih =>
    intro w n S hw hn hG
    obtain ⟨n, rfl⟩ : ∃ n', n = n' + 1 := ⟨n - 1, by omega⟩
    have a1 : al 3 (151 + m) = 38 := by rw [show 151 + m = 150 + (m + 1) by omega, alR (m + 1) (by omega)]
    obtain ⟨y, hy, e0⟩ : ∃ y : Int64, (∀ b, b < 64 → y.toBitVec.getLsbD b = (decide (64 * (w + 1) + b < 2432) && bt S (151 + m) (64 * (w + 1) + b))) ∧ f_X2_goBack_16 K (n + 1) S (iI (m : Int)) (iI (w : Int)) = f_X2_goBack_46 K (f_X2_goBack_16 K n) S (iI (m : Int)) (iI (w : Int)) y := by
      by_cases h1 : (38 : Int) ≤ ((w + 1 : Nat) : Int)
      · refine ⟨0, fun b hb => by rw [z_bit, decide_eq_false (by omega), Bool.false_and], ?_⟩
        rw [f_X2_goBack_16, i_le (x := 38) (a := 38) (b := (w : Int)) rfl rfl (by omega) (by omega), if_neg (by omega), i_next, i_le (x := 38) (a := 38) (b := ((w + 1 : Nat) : Int)) rfl rfl (by omega) (by omega), if_pos h1]
      · refine ⟨S.2 (151 + m) (w + 1), fun b hb => by rw [btw hb, decide_eq_true (by omega), Bool.true_and], ?_⟩
        rw [f_X2_goBack_16, i_le (x := 38) (a := 38) (b := (w : Int)) rfl rfl (by omega) (by omega), if_neg (by omega), i_next, i_le (x := 38) (a := 38) (b := ((w + 1 : Nat) : Int)) rfl rfl (by omega) (by omega), if_neg h1, i_next, rR (h := m + 1) (by omega) rfl, Option.bind_some, show 150 + (m + 1) = 151 + m by omega, rL_ok (n := w + 1) rfl (by rw [a1]; omega) (by omega), Option.bind_some]
    obtain ⟨r, er, gr⟩ := ea_go hm (w := w) (by omega) hG (S.2 (151 + m) w) y 11 0 FU 0 rfl (by show 11 < 20000; omega)
    obtain ⟨S', f1, f2, f3, f4⟩ := ih (w + 1) n (sL S (150 + m) w r) (by omega) (by omega) (hG.cg rfl (fun q h1 h2 => FrL.sL.2 q (by omega)))
    have hw' : ∀ t, t < 64 * (w + 1) → bt S' (150 + m) t = bt (sL S (150 + m) w r) (150 + m) t := f3
    refine ⟨S', ?_, FrL.sL.tr f2, fun t ht => ?_, fun t h1 h2 => ?_⟩
    · rw [e0]
      unfold f_X2_goBack_46 f_X2_earlier
      rw [rR (h := m) (by omega) rfl, Option.bind_some, i_next, rR (h := m + 1) (by omega) rfl, Option.bind_some, show 150 + (m + 1) = 151 + m by omega, rL_ok (n := w) rfl (by rw [a1]; omega) (by omega), Option.bind_some, show f_X2_earlier_6 S FU (iI (m : Int)) (iI (w : Int)) (S.2 (151 + m) w) y 0 0 = _ from er, Option.bind_some, wL_ok (n := w) rfl (by rw [alR m (by omega)]; omega) (by omega), Option.bind_some, i_next, f1]
    · rw [hw' t (by omega)]
      unfold bt
      rw [sL_nj (by omega)]
    · by_cases ht : t < 64 * (w + 1)
      · obtain ⟨b, hb, rfl⟩ : ∃ b, b < 64 ∧ t = 64 * w + b := ⟨t - 64 * w, by omega, by omega⟩
        rw [hw' _ ht, btw hb, sL_eq, gr b hb, z_bit]
        have hsh : ∀ l, l < 11 → (shB (S.2 (151 + m) w) y (b + tkV l) = true ↔ 64 * w + b + tkV l < 2432 ∧ bt S (151 + m) (64 * w + b + tkV l) = true) := fun l hl => by
          have htk := tk_rg l hl
          unfold shB
          by_cases hc : b + tkV l < 64
          · rw [if_pos hc, ← btw hc, show 64 * w + (b + tkV l) = 64 * w + b + tkV l by omega]
            exact ⟨fun q => ⟨by omega, q⟩, fun q => q.2⟩
          · rw [if_neg hc, hy _ (by omega), Bool.and_eq_true, decide_eq_true_iff, show 64 * (w + 1) + (b + tkV l - 64) = 64 * w + b + tkV l by omega]
        constructor
        · rintro (q | ⟨l, q1, q2, q3⟩)
          · cases q
          · exact ⟨l, q1.2, q2, (hsh l q1.2).mp q3⟩
        · rintro ⟨l, q1, q2, q3⟩
          exact Or.inr ⟨l, ⟨Nat.zero_le l, q1⟩, q2, (hsh l q1).mpr q3⟩
      · rw [f4 t (by omega) h2]
        constructor
        · rintro ⟨l, q1, q2, q3, q4⟩
          exact ⟨l, q1, q2, q3, by rw [bt_cg (FrL.sL.2 (151 + m) (by omega))] at q4; exact q4⟩
        · rintro ⟨l, q1, q2, q3, q4⟩
          exact ⟨l, q1, q2, q3, by rw [bt_cg (FrL.sL.2 (151 + m) (by omega))]; exact q4⟩
def FrR (c : Nat) (S S' : ST) : Prop := S'.1 = S.1 ∧ ∀ q, (q < 150 ∨ 150 + c ≤ q) → S'.2 q = S.2 q
theorem back_go {g : Nat → Nat → Nat → Prop} : ∀ (c n : Nat) (S : ST), c ≤ 16 → c < n → (∀ m, m < c → GG S m (g m)) → ∃ S', f_X2_goBack_10 n S (iI ((c : Int) - 1)) = some S' ∧ FrR c S S' ∧ ∀ m, m < c → ∀ t, t < 2432 → (bt S' (150 + m) t = true ↔ ∃ l, l < 11 ∧ g m l t ∧ t + tkV l < 2432 ∧ bt S' (151 + m) (t + tkV l) = true) := by
  intro c
  induction c with
  | zero =>
    intro n S hc hn hG
    obtain ⟨n, rfl⟩ : ∃ n', n = n' + 1 := ⟨n - 1, by omega⟩
    rw [f_X2_goBack_10, i_lt (y := 0) (b := 0) rfl rfl (by omega) (by omega), if_pos (by omega)]
    exact ⟨S, rfl, ⟨rfl, fun _ _ => rfl⟩, fun m hm => by omega⟩
  | succ c ih =>
    intro n S hc hn hG
    obtain ⟨n, rfl⟩ : ∃ n', n = n' + 1 := ⟨n - 1, by omega⟩
    obtain ⟨S1, e1, o1, -, b1⟩ := bk_go (m := c) (by omega) (f_X2_goBack_10 n) 38 0 FU S rfl (by show 38 < 20000; omega) (hG c (by omega))
    obtain ⟨S', e2, o2, b2'⟩ := ih n S1 (by omega) (by omega) (fun m hm => (hG m (by omega)).cg (by rw [o1.1]) (fun q h1 h2 => o1.2 q (by omega)))
    refine ⟨S', ?_, ⟨o2.1.trans o1.1, fun q hq => (o2.2 q (by omega)).trans (o1.2 q (by omega))⟩, fun m hm t ht => ?_⟩
    · rw [f_X2_goBack_10, i_lt (y := 0) (b := 0) rfl rfl (by omega) (by omega), if_neg (by omega), show ((c + 1 : Nat) : Int) - 1 = (c : Int) by omega]
      rw [show f_X2_goBack_16 (f_X2_goBack_10 n) FU S (iI (c : Int)) 0 = _ from e1, show iI (c : Int) + (-1) = iI ((c : Int) - 1) by rw [show (-1 : Int32) = iI (-1) from rfl, iI_add]; rfl, e2]
    · by_cases hmc : m = c
      · subst hmc
        rw [bt_cg (o2.2 (150 + m) (by omega)), b1 t (by omega) ht]
        constructor
        · rintro ⟨l, q1, q2, q3, q4⟩
          exact ⟨l, q1, q2, q3, by rw [bt_cg (o2.2 (151 + m) (by omega)), bt_cg (o1.2 (151 + m) (by omega))]; exact q4⟩
        · rintro ⟨l, q1, q2, q3, q4⟩
          exact ⟨l, q1, q2, q3, by rw [bt_cg (o2.2 (151 + m) (by omega)), bt_cg (o1.2 (151 + m) (by omega))] at q4; exact q4⟩
      · exact b2' m (by omega) t ht
