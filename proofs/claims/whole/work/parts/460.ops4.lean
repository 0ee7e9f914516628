theorem e_addShip {S : ST} {m : Nat} {x y z : Int32} (h0 : S.1 1 1 = iI (m : Int)) (hm : m < 6) : f_X1_addShip S x y z = some (iI (m : Int), sI (sI (sI (sI S 5 (3 * m + 0) x) 5 (3 * m + 1) y) 5 (3 * m + 2) z) 1 1 (iI ((m + 1 : Nat) : Int))) := by
  unfold f_X1_addShip
  rw [i_lt (x := S.1 1 1) (y := 6) (b := 6) h0 rfl (by omega) (by omega), if_pos (by omega)]
  refine bd (wI_ok (k := 5) (n := 3 * m + 0) (ix3 (w := 0) h0 rfl) rfl (show 3 * m + 0 < 18 by omega) (by omega)) ?_
  refine bd (wI_ok (k := 5) (n := 3 * m + 1) (ix3 (j := m) (w := 1) (by rw [sI_ne (by decide)]; exact h0) rfl) rfl (show 3 * m + 1 < 18 by omega) (by omega)) ?_
  refine bd (wI_ok (k := 5) (n := 3 * m + 2) (ix3 (j := m) (w := 2) (by rw [sI_ne (by decide), sI_ne (by decide)]; exact h0) rfl) rfl (show 3 * m + 2 < 18 by omega) (by omega)) ?_
  rw [sI_eq, sI_ne (by decide), sI_ne (by decide), sI_ne (by decide), h0, show (1 : Int32) = iI 1 from rfl, iI_add, iI_sub, show (m : Int) + 1 - 1 = (m : Int) by omega]
  rfl
theorem HV0_up {f : Nat → Int} {m : Nat} {c0 c1 c2 : Int} (h0 : 20 ≤ c0 ∧ c0 ≤ 200) (h1 : 1 ≤ c1 ∧ c1 ≤ 40) (h2 : 1 ≤ c2 ∧ c2 ≤ 99) (hf : ∀ j, j < m → HV0 f j) : ∀ j, j < m + 1 → HV0 (uf (uf (uf f (3 * m + 0) c0) (3 * m + 1) c1) (3 * m + 2) c2) j := by
  intro j hj
  unfold HV0
  by_cases e : j = m
  · subst e
    refine ⟨?_, ?_, ?_⟩
    · rw [uf_n (by omega), uf_n (by omega)]
      have e9 : uf f (3 * j + 0) c0 (3 * j) = c0 := uf_s
      rw [e9]; exact h0
    · rw [uf_n (by omega), uf_s]; exact h1
    · rw [uf_s]; exact h2
  · rw [uf_n (by omega), uf_n (by omega), uf_n (by omega), uf_n (by omega), uf_n (by omega), uf_n (by omega), uf_n (by omega), uf_n (by omega), uf_n (by omega)]
    exact hf j (by omega)
theorem ok_ship (a0 a1 a2 : Int32) : Pr Inv (fun S => f_X7_ship S a0 a1 a2) (fun S => f_X8_ship S a0 a1 a2) := by
  intro S hI
  show ∃ r S1 S2, f_X7_ship S a0 a1 a2 = some (r, S1) ∧ f_X8_ship S1 a0 a1 a2 = some (r, S2) ∧ Inv S2
  have hI0 := hI
  obtain ⟨⟨A, hV, hR, hM⟩, -⟩ := hI
  obtain ⟨a, ha, hx⟩ := i_of a0
  obtain ⟨b, hb, hy⟩ := i_of a1
  obtain ⟨c, hc, hz⟩ := i_of a2
  have h16 := hV.1.2
  by_cases h1 : 20 ≤ a ∧ a ≤ 200
  · by_cases h2 : 1 ≤ b ∧ b ≤ 40
    · by_cases h3 : 1 ≤ c ∧ c ≤ 99
      · by_cases h4 : nsh A < 6
        · generalize hm : nsh A = m at *
          have hR10 : S.1 1 1 = iI (m : Int) := by rw [← hm]; exact hR.1.2
          have hM10 : S.1 30 4 = iI (m : Int) := by rw [← hm]; exact hM.1.2
          generalize hS1 : sI (sI (sI (sI S 5 (3 * m + 0) a0) 5 (3 * m + 1) a1) 5 (3 * m + 2) a2) 1 1 (iI ((m + 1 : Nat) : Int)) = S1
          have o1 : ∀ k, k ≠ 5 → k ≠ 1 → S1.1 k = S.1 k := fun k g1 g2 => by rw [← hS1, sI_o g2, sI_o g1, sI_o g1, sI_o g1]
          have o2 : S1.2 = S.2 := by rw [← hS1]; rfl
          refine ⟨iI (m : Int), S1, sI (sI (sI (sI S1 34 (3 * m + 0) a0) 34 (3 * m + 1) a1) 34 (3 * m + 2) a2) 30 4 (iI ((m + 1 : Nat) : Int)), ?_, ?_, ?_⟩
          · unfold f_X7_ship
            rw [g_w hx ha 20 200 20 200 rfl rfl (by omega) (by omega), if_pos h1, g_w hy hb 1 40 1 40 rfl rfl (by omega) (by omega), if_pos h2, g_w hz hc 1 99 1 99 rfl rfl (by omega) (by omega), if_pos h3, ← hS1]
            exact bd2 (e_addShip hR10 h4) rfl
          · have e0 : S1.1 30 4 = iI (m : Int) := by rw [o1 30 (by decide) (by decide)]; exact hM10
            unfold f_X8_ship
            rw [g_i hx ha 20 200 20 200 rfl rfl, if_pos h1, g_i hy hb 1 40 1 40 rfl rfl, if_pos h2, g_i hz hc 1 99 1 99 rfl rfl, if_pos h3, i_eq (x := S1.1 30 4) (y := 6) (b := 6) e0 rfl (by omega) (by omega), if_neg (by omega)]
            refine bd (wI_ok (k := 34) (n := 3 * m + 0) (ix3z e0) rfl (show 3 * m + 0 < 18 by omega) (by omega)) ?_
            refine bd (wI_ok (k := 34) (n := 3 * m + 1) (ix3' (j := m) (w := 1) (by rw [sI_ne (by decide)]; exact e0) rfl) rfl (show 3 * m + 1 < 18 by omega) (by omega)) ?_
            refine bd (wI_ok (k := 34) (n := 3 * m + 2) (ix3' (j := m) (w := 2) (by rw [sI_ne (by decide), sI_ne (by decide)]; exact e0) rfl) rfl (show 3 * m + 2 < 18 by omega) (by omega)) ?_
            rw [sI_eq, sI_ne (by decide), sI_ne (by decide), sI_ne (by decide), e0, show (1 : Int32) = iI 1 from rfl, iI_add, iI_sub, show (m : Int) + 1 - 1 = (m : Int) by omega]
            rfl
          · have q1 : Ar S 5 (hu A) (3 * m) := by rw [← hm]; exact hR.2.2.2.2
            have q2 : Ar S1 34 (hu A) (3 * m) := fun i hi => by rw [o1 34 (by decide) (by decide)]; exact hM.2.2.2.2 i (by rw [hm]; exact hi)
            refine hI0.port (A := ((mi A, m + 1), mk A, ht A, se A, uf (uf (uf (hu A) (3 * m + 0) a) (3 * m + 1) b) (3 * m + 2) c)) ⟨⟨⟨hV.1.1, ?_⟩, hV.2.1, hV.2.2.1, hV.2.2.2.1, HV0_up h1 h2 h3 (by rw [← hm]; exact hV.2.2.2.2)⟩, ⟨⟨?_, ?_⟩, ?_, ?_, ?_, ?_⟩, ⟨⟨?_, ?_⟩, ?_, ?_, ?_, ?_⟩⟩ (fun k hk => ?_) (fun i _ hi => ?_) (fun _ _ _ => by rw [sI_2, sI_2, sI_2, sI_2, o2])
            · show m + 1 ≤ 6; omega
            · rw [sI_ne (by decide), sI_ne (by decide), sI_ne (by decide), sI_ne (by decide), ← hS1, sI_nj (by decide), sI_ne (by decide), sI_ne (by decide), sI_ne (by decide)]; exact hR.1.1
            · rw [sI_ne (by decide), sI_ne (by decide), sI_ne (by decide), sI_ne (by decide), ← hS1, sI_eq]; rfl
            · intro i hi; rw [sI_ne (by decide), sI_ne (by decide), sI_ne (by decide), sI_ne (by decide), o1 2 (by decide) (by decide)]; exact hR.2.1 i hi
            · intro i hi; rw [sI_ne (by decide), sI_ne (by decide), sI_ne (by decide), sI_ne (by decide), o1 3 (by decide) (by decide)]; exact hR.2.2.1 i hi
            · intro i hi; rw [sI_ne (by decide), sI_ne (by decide), sI_ne (by decide), sI_ne (by decide), o1 4 (by decide) (by decide)]; exact hR.2.2.2.1 i hi
            · intro i hi
              rw [sI_ne (by decide), sI_ne (by decide), sI_ne (by decide), sI_ne (by decide), ← hS1, sI_ne (by decide)]
              exact Ar.push (Ar.push (Ar.push (i := 3 * m + 0) q1 rfl hx) (i := 3 * m + 1) rfl hy) (i := 3 * m + 2) rfl hz i (by have : i < 3 * (m + 1) := hi; omega)
            · rw [sI_nj (by decide), sI_ne (by decide), sI_ne (by decide), sI_ne (by decide), o1 30 (by decide) (by decide)]; exact hM.1.1
            · rw [sI_eq]; rfl
            · intro i hi; rw [sI_ne (by decide), sI_ne (by decide), sI_ne (by decide), sI_ne (by decide), o1 32 (by decide) (by decide)]; exact hM.2.1 i hi
            · intro i hi; rw [sI_ne (by decide), sI_ne (by decide), sI_ne (by decide), sI_ne (by decide), o1 33 (by decide) (by decide)]; exact hM.2.2.1 i hi
            · intro i hi; rw [sI_ne (by decide), sI_ne (by decide), sI_ne (by decide), sI_ne (by decide), o1 31 (by decide) (by decide)]; exact hM.2.2.2.1 i hi
            · intro i hi
              rw [sI_ne (by decide)]
              exact Ar.push (Ar.push (Ar.push (i := 3 * m + 0) q2 rfl hx) (i := 3 * m + 1) rfl hy) (i := 3 * m + 2) rfl hz i (by have : i < 3 * (m + 1) := hi; omega)
            · rw [sI_o (by omega), sI_o (by omega), sI_o (by omega), sI_o (by omega), o1 k (by omega) (by omega)]
            · rw [sI_nj hi, sI_ne (by decide), sI_ne (by decide), sI_ne (by decide), o1 30 (by decide) (by decide)]
        · refine ⟨-3, S, S, ?_, ?_, hI0⟩
          · unfold f_X7_ship
            rw [g_w hx ha 20 200 20 200 rfl rfl (by omega) (by omega), if_pos h1, g_w hy hb 1 40 1 40 rfl rfl (by omega) (by omega), if_pos h2, g_w hz hc 1 99 1 99 rfl rfl (by omega) (by omega), if_pos h3]
            refine bd2 (a := -3) (S := S) ?_ rfl
            unfold f_X1_addShip
            rw [i_lt (x := S.1 1 1) (y := 6) (b := 6) hR.1.2 rfl (by omega) (by omega), if_neg (by omega)]
          · unfold f_X8_ship
            rw [g_i hx ha 20 200 20 200 rfl rfl, if_pos h1, g_i hy hb 1 40 1 40 rfl rfl, if_pos h2, g_i hz hc 1 99 1 99 rfl rfl, if_pos h3, i_eq (x := S.1 30 4) (y := 6) (b := 6) hM.1.2 rfl (by omega) (by omega), if_pos (by omega)]
      · refine ⟨-1, S, S, ?_, ?_, hI0⟩
        · unfold f_X7_ship
          rw [g_w hx ha 20 200 20 200 rfl rfl (by omega) (by omega), if_pos h1, g_w hy hb 1 40 1 40 rfl rfl (by omega) (by omega), if_pos h2, g_w hz hc 1 99 1 99 rfl rfl (by omega) (by omega), if_neg h3]
        · unfold f_X8_ship
          rw [g_i hx ha 20 200 20 200 rfl rfl, if_pos h1, g_i hy hb 1 40 1 40 rfl rfl, if_pos h2, g_i hz hc 1 99 1 99 rfl rfl, if_neg h3]
    · refine ⟨-1, S, S, ?_, ?_, hI0⟩
      · unfold f_X7_ship
        rw [g_w hx ha 20 200 20 200 rfl rfl (by omega) (by omega), if_pos h1, g_w hy hb 1 40 1 40 rfl rfl (by omega) (by omega), if_neg h2]
      · unfold f_X8_ship
        rw [g_i hx ha 20 200 20 200 rfl rfl, if_pos h1, g_i hy hb 1 40 1 40 rfl rfl, if_neg h2]
  · refine ⟨-1, S, S, ?_, ?_, hI0⟩
    · unfold f_X7_ship
      rw [g_w hx ha 20 200 20 200 rfl rfl (by omega) (by omega), if_neg h1]
    · unfold f_X8_ship
      rw [g_i hx ha 20 200 20 200 rfl rfl, if_neg h1]
