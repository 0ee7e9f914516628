/-! ===== the image of the port ===== -/
theorem cp0 {S : ST} {a b n : Nat} {β : Type} {f : ST → Option β} (ha : al 0 a = n) (hb : al 0 b = n) (h0 : 0 < n) (hn : n < 1000) : ((lA 0 b).bind fun v => (cpy S a 0 b 0 v).bind f) = f (cpyS S a b 0 0 n) := by
  have e1 : (nI n).toNatClampNeg = n := nI_clamp (by omega)
  have e2 : 0 ≤ nI n := nI_pos' (by omega)
  unfold lA cpy
  rw [ha, hb, if_pos h0, Option.bind_some]
  show (if (0 ≤ (0 : Int32) ∧ 0 ≤ (0 : Int32) ∧ 0 ≤ nI n) ∧ (0 : Int32).toNatClampNeg + (nI n).toNatClampNeg ≤ n ∧ (0 : Int32).toNatClampNeg + (nI n).toNatClampNeg ≤ n ∧ 0 < n ∧ 0 < n then some (cpyS S a b (0 : Int32).toNatClampNeg (0 : Int32).toNatClampNeg (nI n).toNatClampNeg) else none).bind f = _
  rw [e1, show (0 : Int32).toNatClampNeg = 0 from rfl, if_pos ⟨⟨by decide, by decide, e2⟩, by omega, by omega, h0, h0⟩, Option.bind_some]
theorem cp0_o {S : ST} {a b q sp dp n : Nat} (h : q ≠ b) : (cpyS S a b sp dp n).1 q = S.1 q := if_neg h
theorem cp0_at {S : ST} {a b n i : Nat} (h : i < n) : (cpyS S a b 0 0 n).1 b i = S.1 a i := by
  show (if b = b then va_cpy (S.1 a) (S.1 b) 0 0 n else S.1 b) i = _
  rw [if_pos rfl, va_cpy, if_pos (by omega), Nat.sub_zero, Nat.zero_add]
theorem e_take_6_1 {S : ST} {A : PT} (hR : RC S A) (hV : PV A) : ∃ S', f_X1_take_6_1 S = some S' ∧ RK S' A ∧ (∀ k, (k < 6 ∨ 10 < k) → S'.1 k = S.1 k) ∧ S'.2 = S.2 := by
  have h16 := hV.1
  unfold f_X1_take_6_1
  rw [sI_ne (show 1 ≠ 6 by decide)]
  generalize hT : sI (sI S 6 0 (S.1 1 0)) 6 1 (S.1 1 1) = T
  have f0 : ∀ k, k ≠ 6 → T.1 k = S.1 k := fun k hk => by rw [← hT, sI_o hk, sI_o hk]
  have f1 : T.1 6 0 = S.1 1 0 := by rw [← hT, sI_nj (by decide), sI_eq]
  have f2 : T.1 6 1 = S.1 1 1 := by rw [← hT, sI_eq]
  have f3 : T.2 = S.2 := by rw [← hT]; rfl
  rw [cp0 (n := 24) (by decide) (by decide) (by decide) (by decide), cp0 (n := 5) (by decide) (by decide) (by decide) (by decide), cp0 (n := 96) (by decide) (by decide) (by decide) (by decide), cp0 (n := 18) (by decide) (by decide) (by decide) (by decide)]
  refine ⟨_, rfl, ⟨⟨?_, ?_⟩, fun i hi => ?_, fun i hi => ?_, fun i hi => ?_, fun i hi => ?_⟩, fun k hk => ?_, f3⟩
  · rw [cp0_o (by decide), cp0_o (by decide), cp0_o (by decide), cp0_o (by decide), f1]; exact hR.1.1
  · rw [cp0_o (by decide), cp0_o (by decide), cp0_o (by decide), cp0_o (by decide), f2]; exact hR.1.2
  · rw [cp0_o (by decide), cp0_o (by decide), cp0_o (by decide), cp0_at hi, f0 2 (by decide)]; exact hR.2.1 i hi
  · rw [cp0_o (by decide), cp0_o (by decide), cp0_at hi, cp0_o (by decide), f0 3 (by decide)]; exact hR.2.2.1 i hi
  · rw [cp0_o (by decide), cp0_at (by omega), cp0_o (by decide), cp0_o (by decide), f0 4 (by decide)]; exact hR.2.2.2.1 i hi
  · rw [cp0_at (by omega), cp0_o (by decide), cp0_o (by decide), cp0_o (by decide), f0 5 (by decide)]; exact hR.2.2.2.2 i hi
  · rw [cp0_o (by omega), cp0_o (by omega), cp0_o (by omega), cp0_o (by omega), f0 k (by omega)]
theorem e_take_1_6 {S : ST} {A : PT} (hR : RK S A) (hV : PV A) : ∃ S', f_X1_take_1_6 S = some S' ∧ RC S' A ∧ (∀ k, (k < 1 ∨ 5 < k) → S'.1 k = S.1 k) ∧ S'.2 = S.2 := by
  have h16 := hV.1
  unfold f_X1_take_1_6
  rw [sI_ne (show 6 ≠ 1 by decide)]
  generalize hT : sI (sI S 1 0 (S.1 6 0)) 1 1 (S.1 6 1) = T
  have f0 : ∀ k, k ≠ 1 → T.1 k = S.1 k := fun k hk => by rw [← hT, sI_o hk, sI_o hk]
  have f1 : T.1 1 0 = S.1 6 0 := by rw [← hT, sI_nj (by decide), sI_eq]
  have f2 : T.1 1 1 = S.1 6 1 := by rw [← hT, sI_eq]
  have f3 : T.2 = S.2 := by rw [← hT]; rfl
  rw [cp0 (n := 24) (by decide) (by decide) (by decide) (by decide), cp0 (n := 5) (by decide) (by decide) (by decide) (by decide), cp0 (n := 96) (by decide) (by decide) (by decide) (by decide), cp0 (n := 18) (by decide) (by decide) (by decide) (by decide)]
  refine ⟨_, rfl, ⟨⟨?_, ?_⟩, fun i hi => ?_, fun i hi => ?_, fun i hi => ?_, fun i hi => ?_⟩, fun k hk => ?_, f3⟩
  · rw [cp0_o (by decide), cp0_o (by decide), cp0_o (by decide), cp0_o (by decide), f1]; exact hR.1.1
  · rw [cp0_o (by decide), cp0_o (by decide), cp0_o (by decide), cp0_o (by decide), f2]; exact hR.1.2
  · rw [cp0_o (by decide), cp0_o (by decide), cp0_o (by decide), cp0_at hi, f0 7 (by decide)]; exact hR.2.1 i hi
  · rw [cp0_o (by decide), cp0_o (by decide), cp0_at hi, cp0_o (by decide), f0 8 (by decide)]; exact hR.2.2.1 i hi
  · rw [cp0_o (by decide), cp0_at (by omega), cp0_o (by decide), cp0_o (by decide), f0 9 (by decide)]; exact hR.2.2.2.1 i hi
  · rw [cp0_at (by omega), cp0_o (by decide), cp0_o (by decide), cp0_o (by decide), f0 10 (by decide)]; exact hR.2.2.2.2 i hi
  · rw [cp0_o (by omega), cp0_o (by omega), cp0_o (by omega), cp0_o (by omega), f0 k (by omega)]
theorem al45 : al 0 45 = 145 := by decide
theorem lA_ok {k n : Nat} (h : al 0 k = n) (h0 : 0 < n) : lA 0 k = some (iI (n : Int)) := by
  unfold lA
  rw [h, if_pos h0, iI_nat]
  rfl
theorem m_lay {k L p : Nat} (hk : k ≠ 45) (hL : al 0 k = L) (hL0 : 0 < L) (hp : p + L ≤ 145) : ∀ (n i : Nat) (S : ST), L < i + n → i ≤ L → ∃ S', f_X8_lay_2 n S k (iI (p : Int)) (iI (i : Int)) = some (iI ((p + L : Nat) : Int), S') ∧ (∀ q, q ≠ 45 → S'.1 q = S.1 q) ∧ S'.2 = S.2 ∧ (∀ j, p + i ≤ j → j < p + L → S'.1 45 j = S.1 k (j - p)) ∧ ∀ j, (j < p + i ∨ p + L ≤ j) → S'.1 45 j = S.1 45 j := by
  intro n
  induction n with
  | zero => intro i S q1 q2; omega
  | succ n ih =>
    intro i S q1 q2
    unfold f_X8_lay_2
    rw [lA_ok hL hL0, Option.bind_some, i_le (x := iI (L : Int)) (y := iI (i : Int)) rfl rfl (by omega) (by omega)]
    by_cases h : (L : Int) ≤ (i : Int)
    · rw [if_pos h, Option.bind_some, iI_add]
      exact ⟨S, rfl, fun _ _ => rfl, rfl, fun j h1 h2 => by omega, fun _ _ => rfl⟩
    · rw [if_neg h, rI_ok (x := iI (i : Int)) (n := i) rfl rfl (by omega) (by omega), Option.bind_some, wI_ok (x := iI (p : Int) + iI (i : Int)) (n := p + i) (a := (p : Int) + (i : Int)) (by rw [iI_add]) (by omega) (by rw [al45]; omega) (by omega), Option.bind_some, show iI (i : Int) + 1 = iI ((i + 1 : Nat) : Int) by rw [show (1 : Int32) = iI 1 from rfl, iI_add]; rfl]
      obtain ⟨S', e, f1, f2, f3, f4⟩ := ih (i + 1) (sI S 45 (p + i) (S.1 k i)) (by omega) (by omega)
      refine ⟨S', e, fun q hq => by rw [f1 q hq, sI_o hq], f2, fun j h1 h2 => ?_, fun j hj => ?_⟩
      · by_cases h3 : j = p + i
        · subst h3
          rw [f4 _ (by omega), sI_eq, Nat.add_sub_cancel_left]
        · rw [f3 j (by omega) h2, sI_ne hk]
      · rw [f4 j (by omega), sI_nj (by omega)]
theorem m_gives {k L p : Nat} (hk : k ≠ 45) (hL : al 0 k = L) (hL0 : 0 < L) (hp : p + L ≤ 145) : ∀ (n i : Nat) (S : ST), L < i + n → i ≤ L → ∃ S', f_X8_gives_2 n S (iI (p : Int)) k (iI (i : Int)) = some (iI ((p + L : Nat) : Int), S') ∧ (∀ q, q ≠ k → S'.1 q = S.1 q) ∧ S'.2 = S.2 ∧ (∀ j, i ≤ j → j < L → S'.1 k j = S.1 45 (p + j)) ∧ ∀ j, j < i → S'.1 k j = S.1 k j := by
  intro n
  induction n with
  | zero => intro i S q1 q2; omega
  | succ n ih =>
    intro i S q1 q2
    unfold f_X8_gives_2
    rw [lA_ok hL hL0, Option.bind_some, i_le (x := iI (L : Int)) (y := iI (i : Int)) rfl rfl (by omega) (by omega)]
    by_cases h : (L : Int) ≤ (i : Int)
    · rw [if_pos h, Option.bind_some, iI_add]
      exact ⟨S, rfl, fun _ _ => rfl, rfl, fun j h1 h2 => by omega, fun _ _ => rfl⟩
    · rw [if_neg h, rI_ok (x := iI (p : Int) + iI (i : Int)) (n := p + i) (a := (p : Int) + (i : Int)) (by rw [iI_add]) (by omega) (by rw [al45]; omega) (by omega), Option.bind_some, wI_ok (x := iI (i : Int)) (n := i) rfl rfl (by omega) (by omega), Option.bind_some, show iI (i : Int) + 1 = iI ((i + 1 : Nat) : Int) by rw [show (1 : Int32) = iI 1 from rfl, iI_add]; rfl]
      obtain ⟨S', e, f1, f2, f3, f4⟩ := ih (i + 1) (sI S k i (S.1 45 (p + i))) (by omega) (by omega)
      refine ⟨S', e, fun q hq => by rw [f1 q hq, sI_o hq], f2, fun j h1 h2 => ?_, fun j hj => ?_⟩
      · by_cases h3 : j = i
        · subst h3
          rw [f4 _ (by omega), sI_eq]
        · rw [f3 j (by omega) h2, sI_ne (fun q => hk q.symm)]
      · rw [f4 j (by omega), sI_nj (by omega)]
theorem m_image {S : ST} {A : PT} (hM : RM S A) (hV : PV A) : ∃ T, f_X8_image S = some (1, T) ∧ Img T A ∧ T.1 30 24 = 1 ∧ (∀ q, q ≠ 45 → q ≠ 30 → T.1 q = S.1 q) ∧ (∀ i, i ≠ 24 → T.1 30 i = S.1 30 i) ∧ T.2 = S.2 := by
  have h16 := hV.1
  unfold f_X8_image f_X8_lay
  obtain ⟨S1, e1, a1, b1, c1, d1⟩ := m_lay (k := 31) (L := 96) (p := 0) (by decide) (by decide) (by decide) (by decide) FU 0 S (FU_gt (by decide)) (by decide)
  obtain ⟨S2, e2, a2, b2, c2, d2⟩ := m_lay (k := 32) (L := 24) (p := 96) (by decide) (by decide) (by decide) (by decide) FU 0 S1 (FU_gt (by decide)) (by decide)
  obtain ⟨S3, e3, a3, b3, c3, d3⟩ := m_lay (k := 33) (L := 5) (p := 120) (by decide) (by decide) (by decide) (by decide) FU 0 S2 (FU_gt (by decide)) (by decide)
  obtain ⟨S4, e4, a4, b4, c4, d4⟩ := m_lay (k := 34) (L := 18) (p := 125) (by decide) (by decide) (by decide) (by decide) FU 0 S3 (FU_gt (by decide)) (by decide)
  have aa : ∀ q, q ≠ 45 → S4.1 q = S.1 q := fun q hq => by rw [a4 q hq, a3 q hq, a2 q hq, a1 q hq]
  refine ⟨sI (sI (sI S4 45 143 (S4.1 30 0)) 45 144 (S4.1 30 4)) 30 24 1, ?_, ⟨⟨?_, ?_⟩, fun i hi => ?_, fun i hi => ?_, fun i hi => ?_, fun i hi => ?_⟩, sI_eq, fun q h1 h2 => ?_, fun i hi => ?_, ?_⟩
  · refine bd2 e1 (bd2 e2 (bd2 e3 (bd2 e4 ?_)))
    refine bd (wI_ok (a := 143) (n := 143) rfl rfl (by decide) (by decide)) (bd (wI_ok (a := 144) (n := 144) rfl rfl (by decide) (by decide)) ?_)
    rw [sI_ne (show 30 ≠ 45 by decide)]
  · rw [sI_ne (by decide), sI_nj (by decide), sI_eq, aa 30 (by decide)]; exact hM.1.1
  · rw [sI_ne (by decide), sI_eq, aa 30 (by decide)]; exact hM.1.2
  · rw [sI_ne (by decide), sI_nj (by omega), sI_nj (by omega), d4 _ (by omega), d3 _ (by omega), c2 _ (by omega) (by omega), a1 32 (by decide), show 96 + i - 96 = i by omega]; exact hM.2.1 i hi
  · rw [sI_ne (by decide), sI_nj (by omega), sI_nj (by omega), d4 _ (by omega), c3 _ (by omega) (by omega), a2 33 (by decide), a1 33 (by decide), show 120 + i - 120 = i by omega]; exact hM.2.2.1 i hi
  · rw [sI_ne (by decide), sI_nj (by omega), sI_nj (by omega), d4 _ (by omega), d3 _ (by omega), d2 _ (by omega), c1 _ (by omega) (by omega), Nat.sub_zero]; exact hM.2.2.2.1 i hi
  · rw [sI_ne (by decide), sI_nj (by omega), sI_nj (by omega), c4 _ (by omega) (by omega), a3 34 (by decide), a2 34 (by decide), a1 34 (by decide), show 125 + i - 125 = i by omega]; exact hM.2.2.2.2 i hi
  · rw [sI_o h2, sI_o h1, sI_o h1, aa q h1]
  · rw [sI_nj hi, sI_ne (by decide), sI_ne (by decide), aa 30 (by decide)]
  · show S4.2 = S.2
    rw [b4, b3, b2, b1]
theorem m_restore {S : ST} {B : PT} (hI : Img S B) (hV : PV B) (h24 : S.1 30 24 = 1) : ∃ T, f_X8_restore S = some (1, T) ∧ RM T B ∧ (∀ q, (q < 30 ∨ 34 < q) → T.1 q = S.1 q) ∧ (∀ i, i ≠ 0 → i ≠ 4 → T.1 30 i = S.1 30 i) ∧ T.2 = S.2 := by
  have h16 := hV.1
  unfold f_X8_restore f_X8_gives
  rw [h24, if_neg (by decide)]
  obtain ⟨S1, e1, a1, b1, c1, d1⟩ := m_gives (k := 31) (L := 96) (p := 0) (by decide) (by decide) (by decide) (by decide) FU 0 S (FU_gt (by decide)) (by decide)
  obtain ⟨S2, e2, a2, b2, c2, d2⟩ := m_gives (k := 32) (L := 24) (p := 96) (by decide) (by decide) (by decide) (by decide) FU 0 S1 (FU_gt (by decide)) (by decide)
  obtain ⟨S3, e3, a3, b3, c3, d3⟩ := m_gives (k := 33) (L := 5) (p := 120) (by decide) (by decide) (by decide) (by decide) FU 0 S2 (FU_gt (by decide)) (by decide)
  obtain ⟨S4, e4, a4, b4, c4, d4⟩ := m_gives (k := 34) (L := 18) (p := 125) (by decide) (by decide) (by decide) (by decide) FU 0 S3 (FU_gt (by decide)) (by decide)
  have aa : ∀ q, (q ≤ 30 ∨ 34 < q) → S4.1 q = S.1 q := fun q hq => by rw [a4 q (by omega), a3 q (by omega), a2 q (by omega), a1 q (by omega)]
  refine ⟨sI (sI S4 30 0 (S4.1 45 143)) 30 4 (S4.1 45 144), ?_, ⟨⟨?_, ?_⟩, fun i hi => ?_, fun i hi => ?_, fun i hi => ?_, fun i hi => ?_⟩, fun q h1 => ?_, fun i hi h4 => ?_, ?_⟩
  · refine bd2 e1 (bd2 e2 (bd2 e3 (bd2 e4 ?_)))
    refine bd (rI_ok (a := 143) (n := 143) rfl rfl (by decide) (by decide)) (bd (rI_ok (a := 144) (n := 144) rfl rfl (by decide) (by decide)) ?_)
    rw [sI_ne (show 45 ≠ 30 by decide)]
  · rw [sI_nj (by decide), sI_eq, aa 45 (by omega)]; exact hI.1.1
  · rw [sI_eq, aa 45 (by omega)]; exact hI.1.2
  · rw [sI_ne (by decide), sI_ne (by decide), a4 32 (by decide), a3 32 (by decide), c2 _ (by omega) hi, a1 45 (by decide)]; exact hI.2.1 i hi
  · rw [sI_ne (by decide), sI_ne (by decide), a4 33 (by decide), c3 _ (by omega) hi, a2 45 (by decide), a1 45 (by decide)]; exact hI.2.2.1 i hi
  · rw [sI_ne (by decide), sI_ne (by decide), a4 31 (by decide), a3 31 (by decide), a2 31 (by decide), c1 _ (by omega) (by omega), Nat.zero_add]; exact hI.2.2.2.1 i hi
  · rw [sI_ne (by decide), sI_ne (by decide), c4 _ (by omega) (by omega), a3 45 (by decide), a2 45 (by decide), a1 45 (by decide)]; exact hI.2.2.2.2 i hi
  · rw [sI_o (by omega), sI_o (by omega), aa q (by omega)]
  · rw [sI_nj h4, sI_nj hi, aa 30 (by omega)]
  · show S4.2 = S.2
    rw [b4, b3, b2, b1]
theorem ok_image : Pr Inv (fun S => f_X7_image S) (fun S => f_X8_image S) := by
  intro S hI
  obtain ⟨⟨A, hV, hR, hM⟩, hIP, hTP, hSh, hF⟩ := id hI
  show ∃ r S1 S2, f_X7_image S = some (r, S1) ∧ f_X8_image S1 = some (r, S2) ∧ Inv S2
  obtain ⟨S1, e1, r1, g1, g2⟩ := e_take_6_1 hR hV
  have hM1 : RM (sI S1 0 9 1) A := hM.of (by rw [sI_ne (by decide), g1 30 (by decide)]) (by rw [sI_ne (by decide), g1 30 (by decide)]) (by rw [sI_o (by decide), g1 32 (by decide)]) (by rw [sI_o (by decide), g1 33 (by decide)]) (by rw [sI_o (by decide), g1 31 (by decide)]) (by rw [sI_o (by decide), g1 34 (by decide)])
  obtain ⟨T, e2, i1, i2, f1, f2, f3⟩ := m_image hM1 hV
  have k : ∀ q, q ≠ 45 → q ≠ 30 → q ≠ 0 → (q < 6 ∨ 10 < q) → T.1 q = S.1 q := fun q h1 h2 h3 h4 => by rw [f1 q h1 h2, sI_o h3, g1 q h4]
  have k30 : ∀ i, i ≠ 24 → T.1 30 i = S.1 30 i := fun i hi => by rw [f2 i hi, sI_ne (by decide), g1 30 (by decide)]
  refine ⟨1, _, T, bd e1 rfl, e2, ⟨A, hV, ?_, ?_⟩, ?_, ?_, ?_, ?_⟩
  · exact hR.of (by rw [k 1 (by decide) (by decide) (by decide) (by decide)]) (by rw [k 1 (by decide) (by decide) (by decide) (by decide)]) (k 2 (by decide) (by decide) (by decide) (by decide)) (k 3 (by decide) (by decide) (by decide) (by decide)) (k 4 (by decide) (by decide) (by decide) (by decide)) (k 5 (by decide) (by decide) (by decide) (by decide))
  · exact hM.of (k30 0 (by decide)) (k30 4 (by decide)) (k 32 (by decide) (by decide) (by decide) (by decide)) (k 33 (by decide) (by decide) (by decide) (by decide)) (k 31 (by decide) (by decide) (by decide) (by decide)) (k 34 (by decide) (by decide) (by decide) (by decide))
  · refine Or.inr ⟨by rw [f1 0 (by decide) (by decide), sI_eq], i2, A, hV, ?_, i1⟩
    have k2 : ∀ q, 6 ≤ q → q ≤ 10 → T.1 q = S1.1 q := fun q h1 h2 => by rw [f1 q (by omega) (by omega), sI_o (by omega)]
    exact r1.of (by rw [k2 6 (by decide) (by decide)]) (by rw [k2 6 (by decide) (by decide)]) (k2 7 (by decide) (by decide)) (k2 8 (by decide) (by decide)) (k2 9 (by decide) (by decide)) (k2 10 (by decide) (by decide))
  · exact hTP.of (by rw [k 22 (by decide) (by decide) (by decide) (by decide)]) (k30 7 (by decide)) (k 24 (by decide) (by decide) (by decide) (by decide)) (k 35 (by decide) (by decide) (by decide) (by decide))
  · exact hSh.of (k 27 (by decide) (by decide) (by decide) (by decide)) (k 28 (by decide) (by decide) (by decide) (by decide)) (k 46 (by decide) (by decide) (by decide) (by decide)) (k 47 (by decide) (by decide) (by decide) (by decide)) (k 48 (by decide) (by decide) (by decide) (by decide)) (fun q _ _ => k q (by omega) (by omega) (by omega) (by omega))
  · exact hF.of (by rw [k 13 (by decide) (by decide) (by decide) (by decide)]) (k 14 (by decide) (by decide) (by decide) (by decide)) (fun q _ _ => by rw [f3, sI_2, g2])
theorem ok_restore : Pr Inv (fun S => f_X7_restore S) (fun S => f_X8_restore S) := by
  intro S hI
  obtain ⟨⟨A, hV, hR, hM⟩, hIP, hTP, hSh, hF⟩ := id hI
  show ∃ r S1 S2, f_X7_restore S = some (r, S1) ∧ f_X8_restore S1 = some (r, S2) ∧ Inv S2
  rcases hIP with ⟨z1, z2⟩ | ⟨z1, z2, B, hVB, hRB, hIB⟩
  · exact ⟨-4, S, S, by unfold f_X7_restore; rw [z1, if_pos rfl], by unfold f_X8_restore; rw [z2, if_pos rfl], hI⟩
  · obtain ⟨S1, e1, r1, g1, g2⟩ := e_take_1_6 hRB hVB
    have hI1 : Img S1 B := by unfold Img at hIB ⊢; rw [g1 45 (by decide)]; exact hIB
    obtain ⟨T, e2, m1, f1, f2, f3⟩ := m_restore hI1 hVB (by rw [g1 30 (by decide)]; exact z2)
    refine ⟨1, S1, T, ?_, e2, ?_⟩
    · unfold f_X7_restore
      rw [z1, if_neg (by decide), e1]
      rfl
    · refine hI.port (A := B) ⟨hVB, ?_, m1⟩ (fun k hk => ?_) (fun i h0 h4 => ?_) (fun k _ _ => ?_)
      · exact r1.of (by rw [f1 1 (by decide)]) (by rw [f1 1 (by decide)]) (f1 2 (by decide)) (f1 3 (by decide)) (f1 4 (by decide)) (f1 5 (by decide))
      · rw [f1 k (by omega), g1 k (by omega)]
      · rw [f2 i h0 h4, g1 30 (by decide)]
      · rw [f3, g2]
