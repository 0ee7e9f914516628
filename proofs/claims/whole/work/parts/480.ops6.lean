/-! ===== meetings, quays, counts ===== -/
theorem e_areTwo {S : ST} {A : PT} (hR : RC S A) (hV : PV A) {x y : Int32} {a b : Int} (hx : x = iI a) (hy : y = iI b) (ha : Rg a) (hb : Rg b) : f_X7_areTwo S x y = some (if (0 ≤ a ∧ a < nsh A) ∧ (0 ≤ b ∧ b < nsh A) ∧ ¬ a = b then 1 else 0) := by
  unfold f_X7_areTwo
  rw [gt01 (e_hasShip hR hV hx ha), gt01 (e_hasShip hR hV hy hb), i_eq hx hy ha hb]
  by_cases h1 : 0 ≤ a ∧ a < nsh A
  · rw [if_pos h1]
    by_cases h2 : 0 ≤ b ∧ b < nsh A
    · rw [if_pos h2]
      by_cases h3 : a = b
      · rw [if_pos h3, if_neg (fun q => q.2.2 h3)]
      · rw [if_neg h3, if_pos ⟨h1, h2, h3⟩]
    · rw [if_neg h2, if_neg (fun q => h2 q.2.1)]
  · rw [if_neg h1, if_neg (fun q => h1 q.1)]
theorem ok_may (a0 a1 a2 a3 a4 : Int32) : Pr Inv (lf (fun S => f_X7_may S a0 a1 a2 a3 a4)) (lf (fun S => f_X8_may S a0 a1 a2 a3 a4)) := by
  refine rd_ok (fun S hI => ?_)
  obtain ⟨⟨A, hV, hR, hM⟩, -⟩ := hI
  obtain ⟨a, ha, hx⟩ := i_of a0
  obtain ⟨b, hb, hy⟩ := i_of a1
  obtain ⟨c, hc, hz⟩ := i_of a2
  obtain ⟨p, hp, hpx⟩ := i_of a3
  obtain ⟨q, hq, hqx⟩ := i_of a4
  unfold f_X7_may f_X8_may
  rw [gt01 (e_areTwo hR hV hx hy ha hb), gt01 (m_isShip hM hV hx ha), gt01 (m_isShip hM hV hy hb), i_eq hx hy ha hb, gt01 (e_hasMile hR hV hz hc), gt01 (m_isMile hM hV hz hc), gt01 (e_isPace hpx hp), gt01 (e_isPace hqx hq), gt01 (m_isPace hpx hp), gt01 (m_isPace hqx hq)]
  by_cases h1 : 0 ≤ a ∧ a < nsh A
  · by_cases h2 : 0 ≤ b ∧ b < nsh A
    · by_cases h3 : a = b
      · rw [if_neg (fun q => q.2.2 h3), if_pos h1, if_pos h2, if_pos h3]; exact ⟨_, rfl, rfl⟩
      · rw [if_pos ⟨h1, h2, h3⟩, if_pos h1, if_pos h2, if_neg h3]
        by_cases h4 : 0 ≤ c ∧ c < mi A
        · rw [if_pos h4, if_pos h4]
          by_cases h5 : 1 ≤ p ∧ p ≤ 15
          · rw [if_pos h5, if_pos h5]
            by_cases h6 : 1 ≤ q ∧ q ≤ 15
            · rw [if_pos h6, if_pos h6]
              obtain ⟨s, hs, rfl⟩ := nat_of h1
              obtain ⟨t, ht, rfl⟩ := nat_of h2
              obtain ⟨j, hj, rfl⟩ := nat_of h4
              obtain ⟨g1, g2, g3⟩ := hV.2.2.2.2 s hs
              obtain ⟨k1, k2, k3⟩ := hV.2.2.2.2 t ht
              obtain ⟨-, w1, -⟩ := hV.2.1 j hj
              have b1 := sq_rg (p := p + q) (n := 30) (by omega)
              have b3 := td_rg (a := (p + q) * (p + q)) (b := 20) (c := 900) (by omega) (by omega)
              refine ⟨if mk A (6 * j + 1) < hu A (3 * s + 1) + hu A (3 * t + 1) + ((p + q) * (p + q)).tdiv 20 then 0 else 1, ?_, ?_⟩
              · refine bd (e_hullOf hR hV (w := 1) hx rfl hs (by omega)) (bd (e_hullOf hR hV (w := 1) hy rfl ht (by omega)) ?_)
                refine bd (dv_ok (a := (p + q) * (p + q)) (b := 20) (by rw [hpx, hqx, iI_add, iI_mul]) rfl (by omega) (by omega) (by omega)) ?_
                refine bd (e_markOf hR hV (w := 1) hz rfl hj (by omega)) ?_
                rw [iI_add, iI_add, i_lt rfl rfl (by omega) (by omega)]
                split <;> rfl
              · refine bd (rm_mk hM hV (w := 1) (ix6' hz rfl) hj (by omega)) (bd (rm_hu hM hV (w := 1) (ix3' hx rfl) hs (by omega)) (bd (rm_hu hM hV (w := 1) (ix3' hy rfl) ht (by omega)) ?_))
                refine bd (dv_ok (a := (p + q) * (p + q)) (b := 20) (by rw [hpx, hqx, iI_add, iI_mul]) rfl (by omega) (by omega) (by omega)) ?_
                rw [iI_add, iI_add, i_lt rfl rfl (by omega) (by omega)]
                split <;> rfl
            · rw [if_neg h6, if_neg h6]; exact ⟨_, rfl, rfl⟩
          · rw [if_neg h5, if_neg h5]; exact ⟨_, rfl, rfl⟩
        · rw [if_neg h4, if_neg h4]; exact ⟨_, rfl, rfl⟩
    · rw [if_neg (fun q => h2 q.2.1), if_pos h1, if_neg h2]; exact ⟨_, rfl, rfl⟩
  · rw [if_neg (fun q => h1 q.1), if_neg h1]; exact ⟨_, rfl, rfl⟩
theorem ok_past (a0 a1 a2 : Int32) : Pr Inv (lf (fun S => f_X7_past S a0 a1 a2)) (lf (fun S => f_X8_past S a0 a1 a2)) := by
  refine rd_ok (fun S hI => ?_)
  obtain ⟨⟨A, hV, hR, hM⟩, -⟩ := hI
  obtain ⟨a, ha, hx⟩ := i_of a0
  obtain ⟨b, hb, hy⟩ := i_of a1
  obtain ⟨c, hc, hz⟩ := i_of a2
  unfold f_X7_past f_X8_past
  rw [gt01 (e_hasShip hR hV hx ha), gt01 (m_isShip hM hV hx ha), gt01 (e_hasMile hR hV hy hb), gt01 (m_isMile hM hV hy hb), g_w hz hc 0 999 0 999 rfl rfl (by omega) (by omega), g_i hz hc 0 999 0 999 rfl rfl]
  by_cases h1 : 0 ≤ a ∧ a < nsh A
  · rw [if_pos h1, if_pos h1]
    by_cases h2 : 0 ≤ b ∧ b < mi A
    · rw [if_pos h2, if_pos h2]
      by_cases h3 : 0 ≤ c ∧ c ≤ 999
      · rw [if_pos h3, if_pos h3]
        obtain ⟨s, hs, rfl⟩ := nat_of h1
        obtain ⟨j, hj, rfl⟩ := nat_of h2
        obtain ⟨g1, g2, g3⟩ := hV.2.2.2.2 s hs
        obtain ⟨-, -, -, -, w1, -⟩ := hV.2.1 j hj
        rw [e_markOf hR hV (y := 4) (w := 4) hy rfl hj (by omega), rm_mk hM hV (x := 6 * a1 + 4) (w := 4) (ix6' hy rfl) hj (by omega), Option.bind_some, Option.bind_some, i_lt (x := 0) (a := 0) rfl rfl (by omega) (by omega), i_eq (y := 0) (b := 0) rfl rfl (by omega) (by omega)]
        generalize mk A (6 * j + 4) = Qy at *
        by_cases h4 : 0 < Qy
        · rw [if_pos h4, if_neg (by omega)]
          have ev : ∀ p : Int, 1 ≤ p ∧ p ≤ 15 → dv (iI p * iI p * iI (hu A (3 * s + 1))) (iI Qy) = some (iI ((p * p * hu A (3 * s + 1)).tdiv Qy)) ∧ 0 ≤ (p * p * hu A (3 * s + 1)).tdiv Qy ∧ (p * p * hu A (3 * s + 1)).tdiv Qy ≤ 9000 := by
            intro p hp
            have b1 := pull_rg hp g2
            have b3 := td_rg (a := p * p * hu A (3 * s + 1)) (b := Qy) (c := 9000) (by omega) (by omega)
            exact ⟨dv_ok (by rw [iI_mul, iI_mul]) rfl (by omega) (by omega) (by omega), b3⟩
          have dn : ∀ (i n : Nat), i < n → i ≤ 15 → ∃ r : Int, f_X7_past_58 S n a0 a2 (iI Qy) (iI (i : Int)) = some (iI r) ∧ ((r = -4 ∧ ∀ p : Nat, 1 ≤ p → p ≤ i → c < ((p : Int) * p * hu A (3 * s + 1)).tdiv Qy) ∨ ∃ k : Nat, r = (k : Int) ∧ 1 ≤ k ∧ k ≤ i ∧ ¬ c < ((k : Int) * k * hu A (3 * s + 1)).tdiv Qy ∧ ∀ p : Nat, k < p → p ≤ i → c < ((p : Int) * p * hu A (3 * s + 1)).tdiv Qy) := by
            intro i
            induction i with
            | zero =>
              intro n f1 f2
              obtain ⟨n, rfl⟩ : ∃ m, n = m + 1 := ⟨n - 1, by omega⟩
              rw [f_X7_past_58, i_lt (y := 1) (a := ((0 : Nat) : Int)) (b := 1) rfl rfl (by omega) (by omega), if_pos (by omega)]
              exact ⟨-4, rfl, Or.inl ⟨rfl, fun p p1 p2 => absurd p1 (by omega)⟩⟩
            | succ i ih =>
              intro n f1 f2
              obtain ⟨n, rfl⟩ : ∃ m, n = m + 1 := ⟨n - 1, by omega⟩
              have e5 := ev ((i + 1 : Nat) : Int) (by omega)
              rw [f_X7_past_58, i_lt (y := 1) (a := ((i + 1 : Nat) : Int)) (b := 1) rfl rfl (by omega) (by omega), if_neg (by omega), e_hullOf hR hV (y := 1) (w := 1) hx rfl hs (by omega), Option.bind_some, e5.1, Option.bind_some, i_lt hz rfl hc (by omega)]
              by_cases w : c < (((i + 1 : Nat) : Int) * ((i + 1 : Nat) : Int) * hu A (3 * s + 1)).tdiv Qy
              · rw [if_pos w, show iI ((i + 1 : Nat) : Int) + -1 = iI (i : Int) by rw [show (-1 : Int32) = iI (-1) from rfl, iI_add]; congr 1; omega]
                obtain ⟨r, e1, e2⟩ := ih n (by omega) (by omega)
                refine ⟨r, e1, ?_⟩
                rcases e2 with ⟨c1, c2⟩ | ⟨k, c1, c2, c3, c4, c5⟩
                · refine Or.inl ⟨c1, fun p p1 p2 => ?_⟩
                  by_cases e : p = i + 1
                  · rw [e]; exact w
                  · exact c2 p p1 (by omega)
                · refine Or.inr ⟨k, c1, c2, by omega, c4, fun p p1 p2 => ?_⟩
                  by_cases e : p = i + 1
                  · rw [e]; exact w
                  · exact c5 p p1 (by omega)
              · rw [if_neg w]
                exact ⟨_, rfl, Or.inr ⟨i + 1, rfl, by omega, by omega, w, fun p p1 p2 => absurd p1 (by omega)⟩⟩
          have up : ∀ (n i : Nat) (v : Int), 16 < i + n → 1 ≤ i → i ≤ 16 → ((v = -4 ∧ ∀ p : Nat, 1 ≤ p → p < i → c < ((p : Int) * p * hu A (3 * s + 1)).tdiv Qy) ∨ ∃ k : Nat, v = (k : Int) ∧ 1 ≤ k ∧ k < i ∧ ¬ c < ((k : Int) * k * hu A (3 * s + 1)).tdiv Qy ∧ ∀ p : Nat, k < p → p < i → c < ((p : Int) * p * hu A (3 * s + 1)).tdiv Qy) → ∃ r : Int, f_X8_past_58 S n a0 a2 (iI Qy) (iI v) (iI (i : Int)) = some (iI r) ∧ ((r = -4 ∧ ∀ p : Nat, 1 ≤ p → p < 16 → c < ((p : Int) * p * hu A (3 * s + 1)).tdiv Qy) ∨ ∃ k : Nat, r = (k : Int) ∧ 1 ≤ k ∧ k < 16 ∧ ¬ c < ((k : Int) * k * hu A (3 * s + 1)).tdiv Qy ∧ ∀ p : Nat, k < p → p < 16 → c < ((p : Int) * p * hu A (3 * s + 1)).tdiv Qy) := by
            intro n
            induction n with
            | zero => intro i v f1 f2 f3; exact absurd f1 (by omega)
            | succ n ih =>
              intro i v f1 f2 f3 hv
              rw [f_X8_past_58, i_le (x := 16) (a := 16) rfl rfl (by omega) (by omega)]
              by_cases q : i = 16
              · rw [if_pos (by omega)]
                rw [q] at hv
                exact ⟨v, rfl, hv⟩
              · have e5 := ev (i : Int) (by omega)
                rw [if_neg (by omega), rm_hu hM hV (x := 3 * a0 + 1) (w := 1) (ix3' hx rfl) hs (by omega), Option.bind_some, e5.1, Option.bind_some, i_lt hz rfl hc (by omega)]
                have e9 : iI (i : Int) + 1 = iI ((i + 1 : Nat) : Int) := by rw [show (1 : Int32) = iI 1 from rfl, iI_add]; rfl
                by_cases w : c < ((i : Int) * i * hu A (3 * s + 1)).tdiv Qy
                · rw [if_pos w, f_X8_past_95, e9]
                  refine ih (i + 1) v (by omega) (by omega) (by omega) ?_
                  rcases hv with ⟨c1, c2⟩ | ⟨k, c1, c2, c3, c4, c5⟩
                  · refine Or.inl ⟨c1, fun p p1 p2 => ?_⟩
                    by_cases e : p = i
                    · rw [e]; exact w
                    · exact c2 p p1 (by omega)
                  · refine Or.inr ⟨k, c1, c2, by omega, c4, fun p p1 p2 => ?_⟩
                    by_cases e : p = i
                    · rw [e]; exact w
                    · exact c5 p p1 (by omega)
                · rw [if_neg w, f_X8_past_95, e9]
                  exact ih (i + 1) _ (by omega) (by omega) (by omega) (Or.inr ⟨i, rfl, by omega, by omega, w, fun p p1 p2 => absurd p1 (by omega)⟩)
          obtain ⟨r1, e1, k1⟩ := dn 15 FU (FU_gt (by omega)) (by omega)
          obtain ⟨r2, e2, k2⟩ := up FU 1 (-4) (by have := FU_gt (n := 200) (by omega); omega) (by omega) (by omega) (Or.inl ⟨rfl, fun p p1 p2 => absurd p1 (by omega)⟩)
          have er : r1 = r2 := by
            rcases k1 with ⟨c1, c2⟩ | ⟨k, c1, c2, c3, c4, c5⟩ <;> rcases k2 with ⟨d1, d2⟩ | ⟨k', d1, d2, d3, d4, d5⟩
            · rw [c1, d1]
            · exact absurd (c2 k' d2 (by omega)) d4
            · exact absurd (d2 k c2 (by omega)) c4
            · rcases Nat.lt_trichotomy k k' with q | q | q
              · exact absurd (c5 k' q (by omega)) d4
              · rw [c1, d1, q]
              · exact absurd (d5 k q (by omega)) c4
          subst er
          exact ⟨_, e1, e2⟩
        · rw [if_neg h4, if_pos (by omega)]; exact ⟨_, rfl, rfl⟩
      · rw [if_neg h3, if_neg h3]; exact ⟨_, rfl, rfl⟩
    · rw [if_neg h2, if_neg h2]; exact ⟨_, rfl, rfl⟩
  · rw [if_neg h1, if_neg h1]; exact ⟨_, rfl, rfl⟩
theorem ok_count (a0 : Int32) : Pr Inv (lf (fun S => f_X7_count S a0)) (lf (fun S => f_X8_count S a0)) := by
  refine rd_ok (fun S hI => ?_)
  obtain ⟨⟨A, hV, hR, hM⟩, -⟩ := hI
  have h16 := hV.1.1
  have key : ∀ (n i : Nat) (w : Int32), mi A < i + n → i ≤ mi A → ∃ r, f_X1_widths_4 S n w (iI (i : Int)) = some r ∧ f_X8_count_4 S n a0 w (iI (i : Int)) = (if a0 = 0 then (some (S.1 30 0)) else (if a0 = 1 then (some (S.1 30 4)) else (if a0 = 2 then (some r) else (some (-1))))) := by
    intro n
    induction n with
    | zero => intro i w f1 f2; exact absurd f1 (by omega)
    | succ n ih =>
      intro i w f1 f2
      rw [f_X1_widths_4, f_X8_count_4, i_le hR.1.1 rfl (by omega) (by omega), i_le hM.1.1 rfl (by omega) (by omega)]
      by_cases q : i = mi A
      · rw [if_pos (by omega), if_pos (by omega)]
        exact ⟨w, rfl, rfl⟩
      · rw [if_neg (by omega), if_neg (by omega), e_markOf hR hV (x := iI (i : Int)) (y := 1) (j := i) (w := 1) rfl rfl (by omega) (by omega), rm_mk hM hV (x := 6 * iI (i : Int) + 1) (w := 1) (ix6' rfl rfl) (show i < mi A by omega) (by omega), Option.bind_some, Option.bind_some, show iI (i : Int) + 1 = iI ((i + 1 : Nat) : Int) by rw [show (1 : Int32) = iI 1 from rfl, iI_add]; rfl]
        exact ih (i + 1) _ (by omega) (by omega)
  obtain ⟨r, e1, e2⟩ := key FU 0 0 (by have := FU_gt (n := 200) (by omega); omega) (by omega)
  unfold f_X7_count f_X8_count f_X1_widths
  have e1' : f_X1_widths_4 S FU 0 0 = some r := e1
  have e2' : f_X8_count_4 S FU a0 0 0 = _ := e2
  rw [e1', e2', hR.1.1, hR.1.2, hM.1.1, hM.1.2]
  by_cases h0 : a0 = 0
  · rw [if_pos h0, if_pos h0]; exact ⟨_, rfl, rfl⟩
  · rw [if_neg h0, if_neg h0]
    by_cases h1 : a0 = 1
    · rw [if_pos h1, if_pos h1]; exact ⟨_, rfl, rfl⟩
    · rw [if_neg h1, if_neg h1]
      by_cases h2 : a0 = 2
      · rw [if_pos h2, if_pos h2]; exact ⟨_, rfl, rfl⟩
      · rw [if_neg h2, if_neg h2]; exact ⟨_, rfl, rfl⟩
