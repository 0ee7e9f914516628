/-! ===== banks, meetings, quays ===== -/
def holdV (A : PT) (s : Nat) (p : Int) : Int := if 3 < p then hu A (3 * s + 2) else (hu A (3 * s + 2)).tdiv 2
def drawV (A : PT) (s : Nat) (p far : Int) : Int := (p * p * hu A (3 * s + 1)).tdiv (far * far)
theorem sq_rg {p : Int} {n : Int} (h : 1 ≤ p ∧ p ≤ n) : 1 ≤ p * p ∧ p * p ≤ n * n := by
  have h1 := mul_rg (a := p) (b := p) (c := n) (d := n) (by omega) (by omega) (by omega)
  have h2 : 1 * 1 ≤ p * p := Int.mul_le_mul h.1 h.1 (by omega) (by omega)
  omega
theorem pull_rg {p b : Int} (h : 1 ≤ p ∧ p ≤ 15) (hb : 1 ≤ b ∧ b ≤ 40) : 1 ≤ p * p * b ∧ p * p * b ≤ 9000 := by
  have h1 := sq_rg h
  have h2 := mul_rg (a := p * p) (b := b) (c := 225) (d := 40) (by omega) (by omega) (by omega)
  have h3 : 1 * 1 ≤ p * p * b := Int.mul_le_mul h1.1 hb.1 (by omega) (by omega)
  omega
theorem td_rg {a b c : Int} (h1 : 0 ≤ a ∧ a ≤ c) (h2 : 1 ≤ b) : 0 ≤ a.tdiv b ∧ a.tdiv b ≤ c := by
  rw [Int.tdiv_eq_ediv_of_nonneg h1.1]
  have h3 := Int.ediv_nonneg h1.1 (show 0 ≤ b by omega)
  have h4 := Int.ediv_le_self b h1.1
  omega
theorem e_isHeld {S : ST} {A : PT} (hR : RC S A) (hV : PV A) {x y z : Int32} {s : Nat} {p far : Int} (hx : x = iI (s : Int)) (hy : y = iI p) (hz : z = iI far) (hs : s < nsh A) (hp : 1 ≤ p ∧ p ≤ 15) (hf : 1 ≤ far ∧ far ≤ 99) : f_X7_isHeld S x y z = some (if drawV A s p far ≤ holdV A s p then 1 else 0) := by
  obtain ⟨g1, g2, g3⟩ := hV.2.2.2.2 s hs
  have b1 := pull_rg hp g2
  have b2 := sq_rg hf
  have b3 := td_rg (a := p * p * hu A (3 * s + 1)) (b := far * far) (c := 9000) (by omega) b2.1
  have key : ∀ (y0 : Int32) (h : Int), y0 = iI h → Rg h → f_X7_isHeld_25 S x y z y0 = some (if drawV A s p far ≤ h then 1 else 0) := by
    intro y0 h hh hr
    unfold f_X7_isHeld_25
    rw [i_lt (x := z) (y := 1) (b := 1) hz rfl (by omega) (by omega), if_neg (by omega)]
    refine bd (e_hullOf hR hV (w := 1) hx rfl hs (by omega)) ?_
    refine bd (dv_ok (a := p * p * hu A (3 * s + 1)) (b := far * far) (by rw [hy, iI_mul, iI_mul]) (by rw [hz, iI_mul]) (by omega) (by omega) (by omega)) ?_
    show (if y0 < iI (drawV A s p far) then (some 0 : Option Int32) else some 1) = _
    rw [i_lt (x := y0) (a := h) (b := drawV A s p far) hh rfl hr (by unfold drawV; omega)]
    by_cases q : drawV A s p far ≤ h
    · rw [if_neg (by omega), if_pos q]
    · rw [if_pos (by omega), if_neg q]
  unfold f_X7_isHeld holdV
  refine bd (e_hullOf hR hV (w := 2) hx rfl hs (by omega)) ?_
  rw [i_lt (x := 3) (y := y) (a := 3) rfl hy (by omega) (by omega)]
  by_cases q : 3 < p
  · rw [if_pos q, if_pos q]
    exact key _ _ rfl (by omega)
  · rw [if_neg q, if_neg q]
    have b4 := td_rg (a := hu A (3 * s + 2)) (b := 2) (c := 99) (by omega) (by omega)
    refine bd (dv_ok (b := 2) rfl rfl (by omega) (by omega) (by omega)) ?_
    exact key _ _ rfl (by omega)
theorem m_holds {S : ST} {A : PT} (hM : RM S A) (hV : PV A) {x y z : Int32} {s : Nat} {p far : Int} (hx : x = iI (s : Int)) (hy : y = iI p) (hz : z = iI far) (hs : s < nsh A) (hp : 1 ≤ p ∧ p ≤ 15) (hf : 1 ≤ far ∧ far ≤ 99) : f_X8_holds S x y z = some (if drawV A s p far ≤ holdV A s p then 1 else 0) := by
  obtain ⟨g1, g2, g3⟩ := hV.2.2.2.2 s hs
  have b1 := pull_rg hp g2
  have b2 := sq_rg hf
  have b3 := td_rg (a := p * p * hu A (3 * s + 1)) (b := far * far) (c := 9000) (by omega) b2.1
  have key : ∀ (y0 : Int32) (h : Int), y0 = iI h → Rg h → f_X8_holds_30 S x y z y0 = some (if drawV A s p far ≤ h then 1 else 0) := by
    intro y0 h hh hr
    unfold f_X8_holds_30
    refine bd (rm_hu hM hV (w := 1) (ix3' hx rfl) hs (by omega)) ?_
    refine bd (dv_ok (a := p * p * hu A (3 * s + 1)) (b := far * far) (by rw [hy, iI_mul, iI_mul]) (by rw [hz, iI_mul]) (by omega) (by omega) (by omega)) ?_
    show (if y0 < iI (drawV A s p far) then (some 0 : Option Int32) else some 1) = _
    rw [i_lt (x := y0) (a := h) (b := drawV A s p far) hh rfl hr (by unfold drawV; omega)]
    by_cases q : drawV A s p far ≤ h
    · rw [if_neg (by omega), if_pos q]
    · rw [if_pos (by omega), if_neg q]
  unfold f_X8_holds holdV
  rw [i_le (x := 4) (y := y) (a := 4) rfl hy (by omega) (by omega)]
  by_cases q : 3 < p
  · rw [if_pos (by omega), if_pos q]
    refine bd (rm_hu hM hV (w := 2) (ix3' hx rfl) hs (by omega)) ?_
    exact key _ _ rfl (by omega)
  · rw [if_neg (by omega), if_neg q]
    have b4 := td_rg (a := hu A (3 * s + 2)) (b := 2) (c := 99) (by omega) (by omega)
    refine bd (rm_hu hM hV (w := 2) (ix3' hx rfl) hs (by omega)) (bd (dv_ok (b := 2) rfl rfl (by omega) (by omega) (by omega)) ?_)
    exact key _ _ rfl (by omega)
theorem ok_bank (a0 a1 a2 : Int32) : Pr Inv (lf (fun S => f_X7_bank S a0 a1 a2)) (lf (fun S => f_X8_bank S a0 a1 a2)) := by
  refine rd_ok (fun S hI => ?_)
  obtain ⟨⟨A, hV, hR, hM⟩, -⟩ := hI
  obtain ⟨a, ha, hx⟩ := i_of a0
  obtain ⟨b, hb, hy⟩ := i_of a1
  obtain ⟨c, hc, hz⟩ := i_of a2
  unfold f_X7_bank f_X8_bank
  rw [gt01 (e_hasShip hR hV hx ha), gt01 (m_isShip hM hV hx ha)]
  by_cases h1 : 0 ≤ a ∧ a < nsh A
  · rw [if_pos h1, if_pos h1, gt01 (e_isPace hy hb), gt01 (m_isPace hy hb)]
    by_cases h2 : 1 ≤ b ∧ b ≤ 15
    · rw [if_pos h2, if_pos h2, g_w hz hc 1 99 1 99 rfl rfl (by omega) (by omega), g_i hz hc 1 99 1 99 rfl rfl]
      by_cases h3 : 1 ≤ c ∧ c ≤ 99
      · obtain ⟨s, hs, rfl⟩ := nat_of h1
        rw [if_pos h3, if_pos h3, gt01 (e_isHeld hR hV hx hy hz hs h2 h3), gt01 (m_holds hM hV hx hy hz hs h2 h3)]
        by_cases h4 : drawV A s b c ≤ holdV A s b
        · exact ⟨1, by rw [if_pos h4], by rw [if_pos h4]⟩
        · exact ⟨0, by rw [if_neg h4], by rw [if_neg h4]⟩
      · rw [if_neg h3, if_neg h3]; exact ⟨_, rfl, rfl⟩
    · rw [if_neg h2, if_neg h2]; exact ⟨_, rfl, rfl⟩
  · rw [if_neg h1, if_neg h1]; exact ⟨_, rfl, rfl⟩
theorem FU_gt {n : Nat} (h : n < 20000) : n < FU := h
theorem ok_nearest (a0 a1 : Int32) : Pr Inv (lf (fun S => f_X7_nearest S a0 a1)) (lf (fun S => f_X8_nearest S a0 a1)) := by
  refine rd_ok (fun S hI => ?_)
  obtain ⟨⟨A, hV, hR, hM⟩, -⟩ := hI
  obtain ⟨a, ha, hx⟩ := i_of a0
  obtain ⟨b, hb, hy⟩ := i_of a1
  unfold f_X7_nearest f_X8_nearest
  rw [gt01 (e_hasShip hR hV hx ha), gt01 (m_isShip hM hV hx ha)]
  by_cases h1 : 0 ≤ a ∧ a < nsh A
  · rw [if_pos h1, if_pos h1, gt01 (e_isPace hy hb), gt01 (m_isPace hy hb)]
    by_cases h2 : 1 ≤ b ∧ b ≤ 15
    · rw [if_pos h2, if_pos h2]
      obtain ⟨s, hs, rfl⟩ := nat_of h1
      -- the least distance from i on at which she is held, or none
      have up : ∀ (n i : Nat), 100 < i + n → 1 ≤ i → i ≤ 100 → ∃ r : Int, f_X7_nearest_22 S n a0 a1 (iI (i : Int)) = some (iI r) ∧ ((r = -4 ∧ ∀ j : Nat, i ≤ j → j ≤ 99 → ¬ drawV A s b j ≤ holdV A s b) ∨ (∃ k : Nat, r = (k : Int) ∧ i ≤ k ∧ k ≤ 99 ∧ drawV A s b k ≤ holdV A s b ∧ ∀ j : Nat, i ≤ j → j < k → ¬ drawV A s b j ≤ holdV A s b)) := by
        intro n
        induction n with
        | zero => intro i g1 g2 g3; exact absurd g1 (by omega)
        | succ n ih =>
          intro i g1 g2 g3
          rw [f_X7_nearest_22, i_lt (x := 99) (a := 99) rfl rfl (by omega) (by omega)]
          by_cases q : i = 100
          · rw [if_pos (by omega)]
            exact ⟨-4, rfl, Or.inl ⟨rfl, fun j j1 j2 => absurd j1 (by omega)⟩⟩
          · rw [if_neg (by omega), gt01 (e_isHeld hR hV hx hy rfl hs h2 (by omega))]
            by_cases w : drawV A s b i ≤ holdV A s b
            · rw [if_pos w]
              exact ⟨i, rfl, Or.inr ⟨i, rfl, by omega, by omega, w, fun j j1 j2 => absurd j1 (by omega)⟩⟩
            · rw [if_neg w, show (1 : Int32) = iI 1 from rfl, iI_add]
              obtain ⟨r, e1, e2⟩ := ih (i + 1) (by omega) (by omega) (by omega)
              refine ⟨r, e1, ?_⟩
              rcases e2 with ⟨c1, c2⟩ | ⟨k, c1, c2, c3, c4, c5⟩
              · refine Or.inl ⟨c1, fun j j1 j2 => ?_⟩
                by_cases e : j = i
                · rw [e]; exact w
                · exact c2 j (by omega) j2
              · refine Or.inr ⟨k, c1, by omega, c3, c4, fun j j1 j2 => ?_⟩
                by_cases e : j = i
                · rw [e]; exact w
                · exact c5 j (by omega) j2
      have dn : ∀ (i n : Nat) (v : Int), i < n → i ≤ 99 → ((v = -4 ∧ ∀ j : Nat, i < j → j ≤ 99 → ¬ drawV A s b j ≤ holdV A s b) ∨ (∃ k : Nat, v = (k : Int) ∧ i < k ∧ k ≤ 99 ∧ drawV A s b k ≤ holdV A s b ∧ ∀ j : Nat, i < j → j < k → ¬ drawV A s b j ≤ holdV A s b)) → ∃ r : Int, f_X8_nearest_24 S n a0 a1 (iI v) (iI (i : Int)) = some (iI r) ∧ ((r = -4 ∧ ∀ j : Nat, 1 ≤ j → j ≤ 99 → ¬ drawV A s b j ≤ holdV A s b) ∨ (∃ k : Nat, r = (k : Int) ∧ 1 ≤ k ∧ k ≤ 99 ∧ drawV A s b k ≤ holdV A s b ∧ ∀ j : Nat, 1 ≤ j → j < k → ¬ drawV A s b j ≤ holdV A s b)) := by
        intro i
        induction i with
        | zero =>
          intro n v g1 g2 hv
          obtain ⟨n, rfl⟩ : ∃ m, n = m + 1 := ⟨n - 1, by omega⟩
          rw [f_X8_nearest_24, i_le (y := 0) (a := ((0 : Nat) : Int)) (b := 0) rfl rfl (by omega) (by omega), if_pos (by omega)]
          exact ⟨v, rfl, hv⟩
        | succ i ih =>
          intro n v g1 g2 hv
          obtain ⟨n, rfl⟩ : ∃ m, n = m + 1 := ⟨n - 1, by omega⟩
          rw [f_X8_nearest_24, i_le (y := 0) (a := ((i + 1 : Nat) : Int)) (b := 0) rfl rfl (by omega) (by omega), if_neg (by omega), gt01 (m_holds hM hV hx hy rfl hs h2 (by omega))]
          have e9 : iI ((i + 1 : Nat) : Int) + -1 = iI (i : Int) := by
            rw [show (-1 : Int32) = iI (-1) from rfl, iI_add]
            congr 1
            omega
          by_cases w : drawV A s b ((i + 1 : Nat) : Int) ≤ holdV A s b
          · rw [if_pos w, f_X8_nearest_46, e9]
            exact ih n _ (by omega) (by omega) (Or.inr ⟨i + 1, rfl, by omega, by omega, w, fun j j1 j2 => absurd j1 (by omega)⟩)
          · rw [if_neg w, f_X8_nearest_46, e9]
            refine ih n _ (by omega) (by omega) ?_
            rcases hv with ⟨c1, c2⟩ | ⟨k, c1, c2, c3, c4, c5⟩
            · refine Or.inl ⟨c1, fun j j1 j2 => ?_⟩
              by_cases e : j = i + 1
              · rw [e]; exact w
              · exact c2 j (by omega) j2
            · refine Or.inr ⟨k, c1, by omega, c3, c4, fun j j1 j2 => ?_⟩
              by_cases e : j = i + 1
              · rw [e]; exact w
              · exact c5 j (by omega) j2
      obtain ⟨r1, e1, k1⟩ := up FU 1 (by have := FU_gt (n := 200) (by omega); omega) (by omega) (by omega)
      obtain ⟨r2, e2, k2⟩ := dn 99 FU (-4) (FU_gt (by omega)) (by omega) (Or.inl ⟨rfl, fun j j1 j2 => absurd j1 (by omega)⟩)
      have er : r1 = r2 := by
        rcases k1 with ⟨c1, c2⟩ | ⟨k, c1, c2, c3, c4, c5⟩ <;> rcases k2 with ⟨d1, d2⟩ | ⟨k', d1, d2, d3, d4, d5⟩
        · rw [c1, d1]
        · exact absurd d4 (c2 k' d2 d3)
        · exact absurd c4 (d2 k c2 c3)
        · rcases Nat.lt_trichotomy k k' with q | q | q
          · exact absurd c4 (d5 k c2 q)
          · rw [c1, d1, q]
          · exact absurd d4 (c5 k' d2 q)
      subst er
      exact ⟨_, e1, e2⟩
    · rw [if_neg h2, if_neg h2]; exact ⟨_, rfl, rfl⟩
  · rw [if_neg h1, if_neg h1]; exact ⟨_, rfl, rfl⟩
