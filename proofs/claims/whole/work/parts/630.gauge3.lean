theorem ok_gauged (a0 a1 a2 a3 a4 : Int32) : Pr Inv (lf (fun S => f_X7_gauged S a0 a1 a2 a3 a4)) (fun S => f_X8_gauged S a0 a1 a2 a3 a4) := by
  intro S hI
  obtain ⟨⟨A, hV, hR, hM⟩, -, -, hSh, -⟩ := id hI
  obtain ⟨a, ha, hx⟩ := i_of a0
  obtain ⟨l, hl, hy⟩ := i_of a1
  obtain ⟨b, hb, hz⟩ := i_of a2
  obtain ⟨m, hm, hw⟩ := i_of a3
  obtain ⟨e, he, hv⟩ := i_of a4
  have key : ∀ r T, f_X7_gauged S a0 a1 a2 a3 a4 = some r → f_X8_gauged S a0 a1 a2 a3 a4 = some (r, T) → Inv T → ∃ r S1 S2, lf (fun S => f_X7_gauged S a0 a1 a2 a3 a4) S = some (r, S1) ∧ f_X8_gauged S1 a0 a1 a2 a3 a4 = some (r, S2) ∧ Inv S2 := fun r T h1 h2 h3 => ⟨r, S, T, by rw [lf, h1]; rfl, h2, h3⟩
  have ec : f_X7_gauged S a0 a1 a2 a3 a4 = if 1 ≤ m ∧ m ≤ 8 then (if 0 ≤ e ∧ e ≤ 2 then ((f_X3_refusal S a0 a1 a2 (2 * a3)).bind fun v3 => if v3 = 0 then (f_X7_gauged_50 S FU a0 a2 a3 a4 0) else (some v3)) else some (-1)) else some (-1) := by
    rw [f_X7_gauged, g_w hw hm 1 8 1 8 rfl rfl (by omega) (by omega), g_w hv he 0 2 0 2 rfl rfl (by omega) (by omega)]
  have em : f_X8_gauged S a0 a1 a2 a3 a4 = if 0 ≤ a ∧ a < ((4 : Nat) : Int) then (if 0 ≤ l ∧ l ≤ 2 then (if 1 ≤ m ∧ m ≤ 8 then (if 0 ≤ e ∧ e ≤ 2 then ((f_X8_finds S a0 a1 a2 (2 * a3)).bind fun v5 => if 0 ≤ v5 then (f_X8_gauged_74 FU S a3 a4 ((24 * a0) + a2) 0) else (some (v5, S))) else some (-1, S)) else some (-1, S)) else some (-1, S)) else some (-1, S) := by
    rw [f_X8_gauged, gt01 (m_isSheet hx ha), gt01 (m_isLane hy hl), g_i hw hm 1 8 1 8 rfl rfl, g_i hv he 0 2 0 2 rfl rfl]
  by_cases h3 : 1 ≤ m ∧ m ≤ 8
  · by_cases h4 : 0 ≤ e ∧ e ≤ 2
    · rw [if_pos h3, if_pos h4] at ec
      by_cases h1 : 0 ≤ a ∧ a < ((4 : Nat) : Int)
      · rw [if_pos h1, if_pos h3, if_pos h4] at em
        obtain ⟨k, hk, rfl⟩ := nat_of h1
        obtain ⟨ln, n, hs⟩ := hSh k hk
        have hs' : Sk S k ln n := hs
        obtain ⟨g1, g2, g3, g4, g5, g6, g7⟩ := hs
        have h2m : 2 * a3 = iI (2 * m) := by rw [hw, show (2 : Int32) = iI 2 from rfl, iI_mul]
        rw [x_refusal hs' hk hx hy hz h2m hl hb (by omega), Option.bind_some] at ec
        by_cases h2 : 0 ≤ l ∧ l ≤ 2
        · rw [if_pos h2] at ec em
          rw [m_finds hs' hk hx hy hz h2m hl hb (by omega), Option.bind_some] at em
          rcases refV_cases ln l b (2 * m) n with ⟨e0, el, eb, en⟩ | hr
          · rw [e0, if_pos (show iI 0 = 0 from rfl)] at ec
            rw [e0, if_pos (show 0 ≤ iI 0 by decide)] at em
            obtain ⟨u, hu1, rfl⟩ := nat_of (a := b) (n := 25) (by omega)
            obtain ⟨p, hp1, rfl⟩ := nat_of (a := m) (n := 9) (by omega)
            have h7 := ix24 hx hz
            rcases g_chk hk (by omega) (x5 := a4) hx hz hw h7 g7 FU 0 (FU_gt (by omega)) (by omega) with ⟨c1, c2⟩ | ⟨c0, c1, c2⟩
            · exact key _ S (ec.trans c1) (em.trans c2) hI
            · have rs : rI S 0 33 0 = some (iI (se A 0)) := rm_se hM (x := 0) (i := 0) rfl (by omega)
              obtain ⟨r, r1, r2⟩ := g_lates hR hV hk (by omega) (x5 := a4) hx hz hw h7 g7 (fun j hj => c0 j (by omega) hj) (x8 := iI (se A 0)) (v := se A 0) rfl FU 0 0 (-4) (-4) (by have := FU_gt (n := 100) (by omega); omega) (by omega) (Or.inl rfl)
              obtain ⟨T, m1, m2⟩ := r2 S hM.2.1 rfl
              refine key r T (ec.trans (c1.trans ?_)) (em.trans (c2.trans ?_)) ?_
              · have r1' : f_X7_latesBy S a0 a2 a3 a4 = some r := r1
                rw [r1']; rfl
              · rw [rs, Option.bind_some]; exact m1
              · have e33 : T.1 33 = S.1 33 := by
                  funext j
                  by_cases hj : j = 0
                  · subst hj
                    rw [m2.2.2.1]
                    exact (hM.2.2.1 0 (by omega)).symm
                  · exact m2.2.1 j hj
                have eT : T = S := by
                  refine Prod.ext (funext fun q => ?_) m2.2.2.2
                  by_cases hq : q = 33
                  · subst hq; exact e33
                  · exact m2.1 q hq
                rw [eT]; exact hI
          · rw [if_neg (fun q => by have := (c_eq (y := 0) (b := 0) rfl rfl (by omega) (by omega)).mp q; omega)] at ec
            rw [i_le (x := 0) (a := 0) rfl rfl (by omega) (by omega), if_neg (by omega)] at em
            exact key _ S ec em hI
        · rw [if_neg h2] at ec em
          rw [if_neg (show ¬ iI (-1) = 0 by decide)] at ec
          exact key _ S ec em hI
      · rw [if_neg h1] at em
        unfold f_X3_refusal at ec
        rw [gt01 (x_isSheet hx ha), if_neg h1, Option.bind_some, if_neg (by decide)] at ec
        exact key _ S ec em hI
    · rw [if_pos h3, if_neg h4] at ec
      refine key _ S ec ?_ hI
      rw [em, if_pos h3, if_neg h4]
      split
      · split <;> rfl
      · rfl
  · rw [if_neg h3] at ec
    refine key _ S ec ?_ hI
    rw [em, if_neg h3]
    split
    · split <;> rfl
    · rfl
