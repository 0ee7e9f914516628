def W6 (S : ST) (k m : Nat) (v0 v1 v2 v3 v4 v5 : Int32) : ST := sI (sI (sI (sI (sI (sI S k (6 * m + 0) v0) k (6 * m + 1) v1) k (6 * m + 2) v2) k (6 * m + 3) v3) k (6 * m + 4) v4) k (6 * m + 5) v5
def U6 (f : Nat → Int) (m : Nat) (c0 c1 c2 c3 c4 c5 : Int) : Nat → Int := uf (uf (uf (uf (uf (uf f (6 * m + 0) c0) (6 * m + 1) c1) (6 * m + 2) c2) (6 * m + 3) c3) (6 * m + 4) c4) (6 * m + 5) c5
section W6S
variable {S : ST} {k m a : Nat} {v0 v1 v2 v3 v4 v5 : Int32} {f : Nat → Int} {c0 c1 c2 c3 c4 c5 : Int}
theorem W6_o (h : a ≠ k) : (W6 S k m v0 v1 v2 v3 v4 v5).1 a = S.1 a := by
  unfold W6
  rw [sI_o h, sI_o h, sI_o h, sI_o h, sI_o h, sI_o h]
theorem W6_2 : (W6 S k m v0 v1 v2 v3 v4 v5).2 = S.2 := rfl
theorem W6_ar (h : Ar S k f (6 * m)) (h0 : v0 = iI c0) (h1 : v1 = iI c1) (h2 : v2 = iI c2) (h3 : v3 = iI c3) (h4 : v4 = iI c4) (h5 : v5 = iI c5) : Ar (W6 S k m v0 v1 v2 v3 v4 v5) k (U6 f m c0 c1 c2 c3 c4 c5) (6 * (m + 1)) := by
  have g := Ar.push (Ar.push (Ar.push (Ar.push (Ar.push (Ar.push (i := 6 * m + 0) h rfl h0) (i := 6 * m + 1) rfl h1) (i := 6 * m + 2) rfl h2) (i := 6 * m + 3) rfl h3) (i := 6 * m + 4) rfl h4) (i := 6 * m + 5) rfl h5
  intro i hi
  exact g i (by omega)
theorem U6_v (h : (lo6 0 ≤ c0 ∧ c0 ≤ hi6 0) ∧ (lo6 1 ≤ c1 ∧ c1 ≤ hi6 1) ∧ (lo6 2 ≤ c2 ∧ c2 ≤ hi6 2) ∧ (lo6 3 ≤ c3 ∧ c3 ≤ hi6 3) ∧ (lo6 4 ≤ c4 ∧ c4 ≤ hi6 4) ∧ (lo6 5 ≤ c5 ∧ c5 ≤ hi6 5)) (hf : ∀ j, j < m → MV0 f j) : ∀ j, j < m + 1 → MV0 (U6 f m c0 c1 c2 c3 c4 c5) j := by
  obtain ⟨h0, h1, h2, h3, h4, h5⟩ := h
  intro j hj
  by_cases e : j = m
  · subst e
    unfold MV0 U6
    refine ⟨?_, ?_, ?_, ?_, ?_, ?_⟩
    · rw [uf_n (by omega), uf_n (by omega), uf_n (by omega), uf_n (by omega), uf_n (by omega)]
      have e9 : uf f (6 * j + 0) c0 (6 * j) = c0 := uf_s
      rw [e9]; exact h0
    · rw [uf_n (by omega), uf_n (by omega), uf_n (by omega), uf_n (by omega), uf_s]; exact h1
    · rw [uf_n (by omega), uf_n (by omega), uf_n (by omega), uf_s]; exact h2
    · rw [uf_n (by omega), uf_n (by omega), uf_s]; exact h3
    · rw [uf_n (by omega), uf_s]; exact h4
    · rw [uf_s]; exact h5
  · unfold U6
    exact MV0_up (MV0_up (MV0_up (MV0_up (MV0_up (MV0_up (hf j (by omega)) (by omega) h0) (by omega) h1) (by omega) h2) (by omega) h3) (by omega) h4) (by omega) h5
end W6S
theorem e_addMile {S : ST} {m : Nat} {x y : Int32} (h0 : S.1 1 0 = iI (m : Int)) (hm : m < 16) : f_X1_addMile S x y = some (iI (m : Int), sI (W6 S 4 m x y 9 0 0 8) 1 0 (iI ((m + 1 : Nat) : Int))) := by
  unfold f_X1_addMile
  rw [i_lt (x := S.1 1 0) (y := 16) (b := 16) h0 rfl (by omega) (by omega), if_pos (by omega)]
  refine bd2 (e_mark (w := 0) h0 rfl hm (by omega)) ?_
  refine bd2 (e_mark (w := 1) (j := m) (by rw [sI_ne (by decide)]; exact h0) rfl hm (by omega)) ?_
  refine bd2 (e_mark (w := 2) (j := m) (by rw [sI_ne (by decide), sI_ne (by decide)]; exact h0) rfl hm (by omega)) ?_
  refine bd2 (e_mark (w := 3) (j := m) (by rw [sI_ne (by decide), sI_ne (by decide), sI_ne (by decide)]; exact h0) rfl hm (by omega)) ?_
  refine bd2 (e_mark (w := 4) (j := m) (by rw [sI_ne (by decide), sI_ne (by decide), sI_ne (by decide), sI_ne (by decide)]; exact h0) rfl hm (by omega)) ?_
  refine bd2 (e_mark (w := 5) (j := m) (by rw [sI_ne (by decide), sI_ne (by decide), sI_ne (by decide), sI_ne (by decide), sI_ne (by decide)]; exact h0) rfl hm (by omega)) ?_
  show some _ = _
  rw [sI_eq]
  have e1 : (W6 S 4 m x y 9 0 0 8).1 1 0 + 1 = iI ((m + 1 : Nat) : Int) := by
    rw [W6_o (by decide), h0, show (1 : Int32) = iI 1 from rfl, iI_add]
    rfl
  have e2 : iI ((m + 1 : Nat) : Int) - 1 = iI (m : Int) := by
    rw [show (1 : Int32) = iI 1 from rfl, iI_sub]
    congr 1
    omega
  show some ((W6 S 4 m x y 9 0 0 8).1 1 0 + 1 - 1, sI (W6 S 4 m x y 9 0 0 8) 1 0 ((W6 S 4 m x y 9 0 0 8).1 1 0 + 1)) = _
  rw [e1, e2]
theorem m_mileIs {S : ST} {m : Nat} {x v0 v1 v2 v3 v4 : Int32} (h0 : x = iI (m : Int)) (hm : m < 16) : f_X8_mileIs S x v0 v1 v2 v3 v4 = some (W6 S 31 m v0 v1 v2 v3 v4 8) := by
  unfold f_X8_mileIs
  refine bd (wI_ok (k := 31) (n := 6 * m + 0) (ix6z h0) rfl (show 6 * m + 0 < 96 by omega) (by omega)) ?_
  refine bd (wI_ok (k := 31) (n := 6 * m + 1) (ix6' (w := 1) h0 rfl) rfl (show 6 * m + 1 < 96 by omega) (by omega)) ?_
  refine bd (wI_ok (k := 31) (n := 6 * m + 2) (ix6' (w := 2) h0 rfl) rfl (show 6 * m + 2 < 96 by omega) (by omega)) ?_
  refine bd (wI_ok (k := 31) (n := 6 * m + 3) (ix6' (w := 3) h0 rfl) rfl (show 6 * m + 3 < 96 by omega) (by omega)) ?_
  refine bd (wI_ok (k := 31) (n := 6 * m + 4) (ix6' (w := 4) h0 rfl) rfl (show 6 * m + 4 < 96 by omega) (by omega)) ?_
  exact bd (wI_ok (k := 31) (n := 6 * m + 5) (ix6' (w := 5) h0 rfl) rfl (show 6 * m + 5 < 96 by omega) (by omega)) rfl
theorem ok_mile (a0 a1 : Int32) : Pr Inv (fun S => f_X7_mile S a0 a1) (fun S => f_X8_mile S a0 a1) := by
  intro S hI
  show ∃ r S1 S2, f_X7_mile S a0 a1 = some (r, S1) ∧ f_X8_mile S1 a0 a1 = some (r, S2) ∧ Inv S2
  have hI0 := hI
  obtain ⟨⟨A, hV, hR, hM⟩, -⟩ := hI
  obtain ⟨a, ha, hx⟩ := i_of a0
  obtain ⟨b, hb, hy⟩ := i_of a1
  have h16 := hV.1.1
  by_cases h1 : loM 0 ≤ a ∧ a ≤ hiM 0
  · by_cases h2 : loM 1 ≤ b ∧ b ≤ hiM 1
    · by_cases h3 : mi A < 16
      · generalize hm : mi A = m at *
        have hR10 : S.1 1 0 = iI (m : Int) := by rw [← hm]; exact hR.1.1
        have hM10 : S.1 30 0 = iI (m : Int) := by rw [← hm]; exact hM.1.1
        refine ⟨iI (m : Int), sI (W6 S 4 m a0 a1 9 0 0 8) 1 0 (iI ((m + 1 : Nat) : Int)), sI (W6 (sI (W6 S 4 m a0 a1 9 0 0 8) 1 0 (iI ((m + 1 : Nat) : Int))) 31 m a0 a1 9 0 0 8) 30 0 (iI ((m + 1 : Nat) : Int)), ?_, ?_, ?_⟩
        · unfold f_X7_mile
          rw [gt01 (e_isMark (x := 0) (w := 0) rfl (by omega) hx ha), if_pos h1, gt01 (e_isMark (x := 1) (w := 1) rfl (by omega) hy hb), if_pos h2]
          exact bd2 (e_addMile hR10 h3) rfl
        · have e0 : (sI (W6 S 4 m a0 a1 9 0 0 8) 1 0 (iI ((m + 1 : Nat) : Int))).1 30 0 = iI (m : Int) := by
            rw [sI_ne (by decide), W6_o (by decide)]; exact hM10
          unfold f_X8_mile
          rw [gt01 (m_isPart (x := 0) (w := 0) rfl (by omega) hx ha), if_pos h1, gt01 (m_isPart (x := 1) (w := 1) rfl (by omega) hy hb), if_pos h2, i_eq (x := (sI (W6 S 4 m a0 a1 9 0 0 8) 1 0 (iI ((m + 1 : Nat) : Int))).1 30 0) (y := 16) (b := 16) e0 rfl (by omega) (by omega), if_neg (by omega)]
          refine bd (m_mileIs e0 h3) ?_
          have e1 : (W6 (sI (W6 S 4 m a0 a1 9 0 0 8) 1 0 (iI ((m + 1 : Nat) : Int))) 31 m a0 a1 9 0 0 8).1 30 0 + 1 = iI ((m + 1 : Nat) : Int) := by
            rw [W6_o (by decide), e0, show (1 : Int32) = iI 1 from rfl, iI_add]
            rfl
          have e2 : iI ((m + 1 : Nat) : Int) - 1 = iI (m : Int) := by
            rw [show (1 : Int32) = iI 1 from rfl, iI_sub]
            congr 1
            omega
          rw [sI_eq, e1, e2]
        · refine hI0.port (A := ((m + 1, nsh A), U6 (mk A) m a b 9 0 0 8, ht A, se A, hu A)) ⟨⟨⟨?_, hV.1.2⟩, U6_v ⟨h1, h2, by decide, by decide, by decide, by decide⟩ (by rw [← hm]; exact hV.2.1), hV.2.2.1, hV.2.2.2.1, hV.2.2.2.2⟩, ⟨⟨?_, ?_⟩, ?_, ?_, ?_, ?_⟩, ⟨⟨?_, ?_⟩, ?_, ?_, ?_, ?_⟩⟩ (fun k hk => ?_) (fun i hi _ => ?_) (fun _ _ _ => rfl)
          · show m + 1 ≤ 16; omega
          · rw [sI_ne (by decide), W6_o (by decide), sI_eq]; rfl
          · rw [sI_ne (by decide), W6_o (by decide), sI_nj (by decide), W6_o (by decide)]; exact hR.1.2
          · intro i hi; rw [sI_ne (by decide), W6_o (by decide), sI_ne (by decide), W6_o (by decide)]; exact hR.2.1 i hi
          · intro i hi; rw [sI_ne (by decide), W6_o (by decide), sI_ne (by decide), W6_o (by decide)]; exact hR.2.2.1 i hi
          · intro i hi; rw [sI_ne (by decide), W6_o (by decide), sI_ne (by decide)]; exact W6_ar (c0 := a) (c1 := b) (c2 := 9) (c3 := 0) (c4 := 0) (c5 := 8) (by have := hR.2.2.2.1; rw [hm] at this; exact this) hx hy rfl rfl rfl rfl i hi
          · intro i hi; rw [sI_ne (by decide), W6_o (by decide), sI_ne (by decide), W6_o (by decide)]; exact hR.2.2.2.2 i hi
          · rw [sI_eq]; rfl
          · rw [sI_nj (by decide), W6_o (by decide), sI_ne (by decide), W6_o (by decide)]; exact hM.1.2
          · intro i hi; rw [sI_ne (by decide), W6_o (by decide), sI_ne (by decide), W6_o (by decide)]; exact hM.2.1 i hi
          · intro i hi; rw [sI_ne (by decide), W6_o (by decide), sI_ne (by decide), W6_o (by decide)]; exact hM.2.2.1 i hi
          · intro i hi
            rw [sI_ne (by decide)]
            refine W6_ar (c0 := a) (c1 := b) (c2 := 9) (c3 := 0) (c4 := 0) (c5 := 8) (fun i hi => ?_) hx hy rfl rfl rfl rfl i hi
            rw [sI_ne (by decide), W6_o (by decide)]
            exact hM.2.2.2.1 i (by rw [hm]; exact hi)
          · intro i hi; rw [sI_ne (by decide), W6_o (by decide), sI_ne (by decide), W6_o (by decide)]; exact hM.2.2.2.2 i hi
          · rw [sI_o (by omega), W6_o (by omega), sI_o (by omega), W6_o (by omega)]
          · rw [sI_nj hi, W6_o (by decide), sI_ne (by decide), W6_o (by decide)]
      · refine ⟨-3, S, S, ?_, ?_, hI0⟩
        · unfold f_X7_mile
          rw [gt01 (e_isMark (x := 0) (w := 0) rfl (by omega) hx ha), if_pos h1, gt01 (e_isMark (x := 1) (w := 1) rfl (by omega) hy hb), if_pos h2]
          refine bd2 (a := -3) (S := S) ?_ rfl
          unfold f_X1_addMile
          rw [i_lt (x := S.1 1 0) (y := 16) (b := 16) hR.1.1 rfl (by omega) (by omega), if_neg (by omega)]
        · unfold f_X8_mile
          rw [gt01 (m_isPart (x := 0) (w := 0) rfl (by omega) hx ha), if_pos h1, gt01 (m_isPart (x := 1) (w := 1) rfl (by omega) hy hb), if_pos h2, i_eq (x := S.1 30 0) (y := 16) (b := 16) hM.1.1 rfl (by omega) (by omega), if_pos (by omega)]
    · refine ⟨-1, S, S, ?_, ?_, hI0⟩
      · unfold f_X7_mile
        rw [gt01 (e_isMark (x := 0) (w := 0) rfl (by omega) hx ha), if_pos h1, gt01 (e_isMark (x := 1) (w := 1) rfl (by omega) hy hb), if_neg h2]
      · unfold f_X8_mile
        rw [gt01 (m_isPart (x := 0) (w := 0) rfl (by omega) hx ha), if_pos h1, gt01 (m_isPart (x := 1) (w := 1) rfl (by omega) hy hb), if_neg h2]
  · refine ⟨-1, S, S, ?_, ?_, hI0⟩
    · unfold f_X7_mile
      rw [gt01 (e_isMark (x := 0) (w := 0) rfl (by omega) hx ha), if_neg h1]
    · unfold f_X8_mile
      rw [gt01 (m_isPart (x := 0) (w := 0) rfl (by omega) hx ha), if_neg h1]
