/-! ===== channel ===== -/
theorem Inv.tape {S S' : ST} {A : PT} (h : Inv S) (hP : PP S' A) (hd : ∀ k, (k = 0 ∨ (6 ≤ k ∧ k ≠ 22 ∧ k ≠ 23 ∧ k < 30) ∨ (35 ≤ k ∧ k ≠ 36)) → S'.1 k = S.1 k) (h24 : S'.1 30 24 = S.1 30 24) (z1 : S'.1 22 2 = 0) (z2 : S'.1 30 7 = 0) (h2 : S'.2 = S.2) : Inv S' := by
  obtain ⟨-, hI, -, hSh, hF⟩ := h
  exact ⟨⟨A, hP⟩, hI.of (by rw [hd 0 (by omega)]) h24 (fun k _ _ => hd k (by omega)) (hd 45 (by omega)), ⟨0, fun _ => 0, by omega, z1, z2, fun i hi => absurd hi (Nat.not_lt_zero i)⟩, hSh.of (hd 27 (by omega)) (hd 28 (by omega)) (hd 46 (by omega)) (hd 47 (by omega)) (hd 48 (by omega)) (fun k _ _ => hd k (by omega)), hF.of (by rw [hd 13 (by omega)]) (hd 14 (by omega)) (fun k _ _ => by rw [h2])⟩
theorem cpyN {S : ST} {a b n : Nat} {x : Int32} (hx : x = iI (n : Int)) (ha : n ≤ al 0 a) (hb : n ≤ al 0 b) (h0 : 0 < n) (hn : n < 1000) : cpy S a 0 b 0 x = some (cpyS S a b 0 0 n) := by
  have e1 : (nI n).toNatClampNeg = n := nI_clamp (by omega)
  have e2 : 0 ≤ nI n := nI_pos' (by omega)
  subst hx
  unfold cpy
  rw [iI_nat, e1, show (0 : Int32).toNatClampNeg = 0 from rfl, if_pos ⟨⟨by decide, by decide, e2⟩, by omega, by omega, by omega, by omega⟩]
theorem c102 {N : Nat} {g : Nat → Int} (hN : N ≤ 8) (h8 : ∀ j, j < N → g (6 * j + 5) = 8) : ∀ (k j n : Nat) (T : ST), j + k = N → k < n → (∀ j, j < N → ∀ w, w < 5 → T.1 36 (5 * j + w) = iI (g (6 * j + w))) → ∃ T', f_X8_channel_102 n T (iI (N : Int)) (iI (j : Int)) = some (iI (N : Int), T') ∧ (∀ a, a ≠ 31 → T'.1 a = T.1 a) ∧ T'.2 = T.2 ∧ (∀ i, i < 6 * j → T'.1 31 i = T.1 31 i) ∧ ∀ i, 6 * j ≤ i → i < 6 * N → T'.1 31 i = iI (g i) := by
  intro k
  induction k with
  | zero =>
    intro j n T hj hn hT
    obtain ⟨n, rfl⟩ : ∃ n', n = n' + 1 := ⟨n - 1, by omega⟩
    rw [f_X8_channel_102, i_le (x := iI (N : Int)) (y := iI (j : Int)) rfl rfl (by omega) (by omega), if_pos (by omega)]
    exact ⟨T, rfl, fun _ _ => rfl, rfl, fun _ _ => rfl, fun i h1 h2 => by omega⟩
  | succ k ih =>
    intro j n T hj hn hT
    obtain ⟨n, rfl⟩ : ∃ n', n = n' + 1 := ⟨n - 1, by omega⟩
    have i5 : ∀ w : Nat, ∀ x : Int32, x = iI (w : Int) → 5 * iI (j : Int) + x = iI ((5 * j + w : Nat) : Int) := fun w x hx => by rw [im5, hx, iI_add]; rfl
    have rd : ∀ w : Nat, w < 5 → ∀ x : Int32, x = iI (w : Int) → rI T 0 36 (5 * iI (j : Int) + x) = some (iI (g (6 * j + w))) := fun w hw x hx => by
      rw [rI_ok (i5 w x hx) rfl (by rw [al36]; omega) (by omega), hT j (by omega) w hw]
    have rd0 : rI T 0 36 (5 * iI (j : Int)) = some (iI (g (6 * j + 0))) := by
      rw [rI_ok (n := 5 * j + 0) im5 rfl (by rw [al36]; omega) (by omega), hT j (by omega) 0 (by omega)]
    obtain ⟨T', e, o1, o2, o3, o4⟩ := ih (j + 1) n (W6 T 31 j (iI (g (6 * j + 0))) (iI (g (6 * j + 1))) (iI (g (6 * j + 2))) (iI (g (6 * j + 3))) (iI (g (6 * j + 4))) 8) (by omega) (by omega) (fun j' hj' w hw => by rw [W6_o (by decide)]; exact hT j' hj' w hw)
    refine ⟨T', ?_, fun a ha => (o1 a ha).trans (W6_o ha), o2.trans W6_2, fun i hi => ?_, fun i h1 h2 => ?_⟩
    · rw [f_X8_channel_102, i_le (x := iI (N : Int)) (y := iI (j : Int)) rfl rfl (by omega) (by omega), if_neg (by omega), rd0, Option.bind_some, rd 1 (by omega) 1 rfl, Option.bind_some, rd 2 (by omega) 2 rfl, Option.bind_some, rd 3 (by omega) 3 rfl, Option.bind_some, rd 4 (by omega) 4 rfl, Option.bind_some, m_mileIs rfl (by omega), Option.bind_some, i_next, e]
    · rw [o3 i (by omega)]
      unfold W6
      rw [sI_nj (by omega), sI_nj (by omega), sI_nj (by omega), sI_nj (by omega), sI_nj (by omega), sI_nj (by omega)]
    · by_cases hi : i < 6 * (j + 1)
      · rw [o3 i hi]
        unfold W6
        have hw : i = 6 * j + 0 ∨ i = 6 * j + 1 ∨ i = 6 * j + 2 ∨ i = 6 * j + 3 ∨ i = 6 * j + 4 ∨ i = 6 * j + 5 := by omega
        rcases hw with rfl | rfl | rfl | rfl | rfl | rfl
        · rw [sI_nj (by omega), sI_nj (by omega), sI_nj (by omega), sI_nj (by omega), sI_nj (by omega), sI_eq]
        · rw [sI_nj (by omega), sI_nj (by omega), sI_nj (by omega), sI_nj (by omega), sI_eq]
        · rw [sI_nj (by omega), sI_nj (by omega), sI_nj (by omega), sI_eq]
        · rw [sI_nj (by omega), sI_nj (by omega), sI_eq]
        · rw [sI_nj (by omega), sI_eq]
        · rw [sI_eq, h8 j (by omega)]; rfl
      · exact o4 i (by omega) h2
theorem cs0 {S : ST} {t : Nat} {c : Nat → Int} (t2 : S.1 22 2 = iI (t : Int)) (t4 : ∀ i, i < t → S.1 24 i = iI (c i)) : Cs t c (sI (sI S 22 3 0) 22 4 0) (0, false) := by
  refine ⟨0, ⟨?_, ?_, Nat.zero_le t, fun i hi => ?_⟩, Nat.zero_le t, Or.inl ⟨rfl, sI_eq, rfl⟩⟩
  · rw [sI_nj (by decide), sI_nj (by decide)]; exact t2
  · rw [sI_nj (by decide), sI_eq]; rfl
  · rw [sI_ne (by decide), sI_ne (by decide)]; exact t4 i hi
theorem ms0 {S : ST} {t : Nat} {c : Nat → Int} (t2 : S.1 30 7 = iI (t : Int)) (t4 : ∀ i, i < t → S.1 35 i = iI (c i)) : Ms t c (sI (sI S 30 8 0) 30 9 0) (0, false) := by
  refine ⟨⟨?_, ?_, Nat.zero_le t, fun i hi => ?_⟩, Or.inl ⟨rfl, sI_eq⟩⟩
  · rw [sI_nj (by decide), sI_nj (by decide)]; exact t2
  · rw [sI_nj (by decide), sI_eq]; rfl
  · rw [sI_ne (by decide), sI_ne (by decide)]; exact t4 i hi
theorem fc0 {S S' : ST} (h : FZ (sI (sI S 22 3 0) 22 4 0) S') : FZ S S' := ⟨fun a ha hb => by rw [h.1 a ha hb, sI_o ha, sI_o ha], h.2.1, h.2.2⟩
theorem fy0 {S S' : ST} (h : FY (sI (sI S 30 8 0) 30 9 0) S') : FY S S' := ⟨fun a ha hb => by rw [h.1 a ha hb, sI_o ha, sI_o ha], fun i h7 h8 h9 => by rw [h.2.1 i h7 h8 h9, sI_nj h9, sI_nj h8], h.2.2.1, h.2.2.2⟩
theorem ok_channel : Pr Inv (fun S => f_X7_channel S) (fun S => f_X8_channel S) := by
  intro S hI
  obtain ⟨⟨A, hV, hR, hM⟩, hIP, ⟨t, c, t1, t2, t3, t4⟩, hSh, hF⟩ := id hI
  have hC : CT t c := ⟨t1, fun i hi => (t4 i hi).1⟩
  obtain ⟨s', N, g, q, hg, hc, hm⟩ := chan hC 8 0 (0, false) rfl (by omega) (Nat.zero_le t)
  obtain ⟨S1, e1, o1, k1⟩ := hc FU _ (by show 8 ≤ 20000; omega) (cs0 t2 (fun i hi => (t4 i hi).2.1))
  have o1 := fc0 o1
  have eC : f_X4_readChannel S = some (ansV s' (iI (N : Int)), S1) := by
    have e1' : f_X4_readChannel_6 FU (sI (sI S 22 3 0) 22 4 0) 0 = some (ansV s' (iI (N : Int)), S1) := e1
    rw [f_X4_readChannel, f_X4_rewind, Option.bind_some, e1']
  show ∃ r S1 S2, f_X7_channel S = some (r, S1) ∧ f_X8_channel S1 = some (r, S2) ∧ Inv S2
  unfold f_X7_channel
  rw [eC]
  cases hb : s'.2 with
  | true =>
    have eA : ansV s' (iI (N : Int)) = iI (-20 - (s'.1 : Int)) := if_pos hb
    rw [eA]
    obtain ⟨T1, e2, o2, -⟩ := hm FU _ (by show 8 < 20000; omega) (ms0 (S := S1) (t := t) (c := c) (by rw [o1.1 30 (by decide) (by decide)]; exact t3) (fun i hi => by rw [o1.1 35 (by decide) (by decide)]; exact (t4 i hi).2.2))
    have o2 := fy0 o2
    refine ⟨iI (-20 - (s'.1 : Int)), S1, T1, ?_, ?_, ?_⟩
    · show (if iI (-20 - (s'.1 : Int)) ≤ 0 then some (iI (-20 - (s'.1 : Int)), S1) else (f_X1_takeMiles S1 23 (iI (-20 - (s'.1 : Int)))).bind fun S3 => some (iI (-20 - (s'.1 : Int)), S3)) = _
      rw [i_le (x := iI (-20 - (s'.1 : Int))) (y := 0) (b := 0) rfl rfl (by omega) (by omega), if_pos (by omega)]
    · unfold f_X8_channel
      rw [show f_X8_channel_14 FU (sI (sI S1 30 8 0) 30 9 0) 0 1 = _ from e2, if_pos hb]
    · refine hI.tape (A := A) ⟨hV, hR.of ?_ ?_ ?_ ?_ ?_ ?_, hM.of ?_ ?_ ?_ ?_ ?_ ?_⟩ (fun k hk => ?_) ?_ ?_ o2.2.2.1 (o2.2.2.2.trans o1.2.2)
      · rw [o2.1 1 (by decide) (by decide), o1.1 1 (by decide) (by decide)]
      · rw [o2.1 1 (by decide) (by decide), o1.1 1 (by decide) (by decide)]
      · rw [o2.1 2 (by decide) (by decide), o1.1 2 (by decide) (by decide)]
      · rw [o2.1 3 (by decide) (by decide), o1.1 3 (by decide) (by decide)]
      · rw [o2.1 4 (by decide) (by decide), o1.1 4 (by decide) (by decide)]
      · rw [o2.1 5 (by decide) (by decide), o1.1 5 (by decide) (by decide)]
      · rw [o2.2.1 0 (by decide) (by decide) (by decide), o1.1 30 (by decide) (by decide)]
      · rw [o2.2.1 4 (by decide) (by decide) (by decide), o1.1 30 (by decide) (by decide)]
      · rw [o2.1 32 (by decide) (by decide), o1.1 32 (by decide) (by decide)]
      · rw [o2.1 33 (by decide) (by decide), o1.1 33 (by decide) (by decide)]
      · rw [o2.1 31 (by decide) (by decide), o1.1 31 (by decide) (by decide)]
      · rw [o2.1 34 (by decide) (by decide), o1.1 34 (by decide) (by decide)]
      · rw [o2.1 k (by omega) (by omega), o1.1 k (by omega) (by omega)]
      · rw [o2.2.1 24 (by decide) (by decide) (by decide), o1.1 30 (by decide) (by decide)]
      · rw [o2.1 22 (by decide) (by decide)]; exact o1.2.1
  | false =>
    have eA : ansV s' (iI (N : Int)) = iI (N : Int) := if_neg (by rw [hb]; decide)
    rw [eA]
    obtain ⟨n1, n2, n3⟩ := hg hb
    obtain ⟨-, k2⟩ := k1 hb
    have e6 : iI (N : Int) * 6 = iI ((6 * N : Nat) : Int) := im6
    generalize hS2 : cpyS (sI S1 1 0 (iI (N : Int))) 23 4 0 0 (6 * N) = S2
    have p1 : ∀ a, a ≠ 1 → a ≠ 4 → S2.1 a = S1.1 a := fun a h1 h4 => by rw [← hS2, cp0_o h4, sI_o h1]
    have p2 : S2.1 1 0 = iI (N : Int) := by rw [← hS2, cp0_o (by decide), sI_eq]
    have p3 : S2.1 1 1 = S1.1 1 1 := by rw [← hS2, cp0_o (by decide), sI_nj (by decide)]
    have p4 : ∀ i, i < 6 * N → S2.1 4 i = iI (g i) := fun i hi => by rw [← hS2, cp0_at hi, sI_ne (by decide)]; exact k2 i (by omega) hi
    have p5 : S2.2 = S1.2 := by rw [← hS2]; rfl
    obtain ⟨T1, e2, o2, k3⟩ := hm FU _ (by show 8 < 20000; omega) (ms0 (S := S2) (t := t) (c := c) (by rw [p1 30 (by decide) (by decide), o1.1 30 (by decide) (by decide)]; exact t3) (fun i hi => by rw [p1 35 (by decide) (by decide), o1.1 35 (by decide) (by decide)]; exact (t4 i hi).2.2))
    have o2 := fy0 o2
    obtain ⟨-, k4⟩ := k3 hb
    obtain ⟨T2, e3, l1, l2, -, l4⟩ := c102 n2 (fun j hj => (n3 j (by omega) hj).2) N 0 FU (sI T1 30 0 (iI (N : Int))) (by omega) (by show N < 20000; omega) (fun j hj w hw => by rw [sI_ne (by decide)]; exact k4 j (by omega) hj w hw)
    refine ⟨iI (N : Int), S2, T2, ?_, ?_, ?_⟩
    · show (if iI (N : Int) ≤ 0 then some (iI (N : Int), S1) else (f_X1_takeMiles S1 23 (iI (N : Int))).bind fun S3 => some (iI (N : Int), S3)) = _
      rw [i_le (x := iI (N : Int)) (y := 0) (b := 0) rfl rfl (by omega) (by omega), if_neg (by omega)]
      unfold f_X1_takeMiles
      rw [e_min (x := iI (N : Int)) (y := 8) (a := (N : Int)) (b := 8) rfl rfl (by omega) (by omega), Option.bind_some, Int.min_eq_left (by omega), sI_eq, cpyN (a := 23) (b := 4) e6 (by rw [al23]; omega) (show 6 * N ≤ 96 by omega) (by omega) (by omega), Option.bind_some, hS2]
      rfl
    · unfold f_X8_channel
      rw [show f_X8_channel_14 FU (sI (sI S2 30 8 0) 30 9 0) 0 1 = _ from e2, if_neg (by rw [hb]; decide)]
      exact e3
    · refine hI.tape (A := ((N, nsh A), g, ht A, se A, hu A)) ⟨⟨⟨by show N ≤ 16; omega, hV.1.2⟩, fun j hj => (n3 j (by omega) hj).1, hV.2.2.1, hV.2.2.2.1, hV.2.2.2.2⟩, ⟨⟨?_, ?_⟩, fun i hi => ?_, fun i hi => ?_, fun i hi => ?_, fun i hi => ?_⟩, ⟨⟨?_, ?_⟩, fun i hi => ?_, fun i hi => ?_, fun i hi => ?_, fun i hi => ?_⟩⟩ (fun k hk => ?_) ?_ ?_ ?_ ?_
      · rw [l1 1 (by decide), sI_ne (by decide), o2.1 1 (by decide) (by decide)]; exact p2
      · rw [l1 1 (by decide), sI_ne (by decide), o2.1 1 (by decide) (by decide), p3, o1.1 1 (by decide) (by decide)]; exact hR.1.2
      · rw [l1 2 (by decide), sI_ne (by decide), o2.1 2 (by decide) (by decide), p1 2 (by decide) (by decide), o1.1 2 (by decide) (by decide)]; exact hR.2.1 i hi
      · rw [l1 3 (by decide), sI_ne (by decide), o2.1 3 (by decide) (by decide), p1 3 (by decide) (by decide), o1.1 3 (by decide) (by decide)]; exact hR.2.2.1 i hi
      · rw [l1 4 (by decide), sI_ne (by decide), o2.1 4 (by decide) (by decide)]; exact p4 i hi
      · rw [l1 5 (by decide), sI_ne (by decide), o2.1 5 (by decide) (by decide), p1 5 (by decide) (by decide), o1.1 5 (by decide) (by decide)]; exact hR.2.2.2.2 i hi
      · rw [l1 30 (by decide), sI_eq]; rfl
      · rw [l1 30 (by decide), sI_nj (by decide), o2.2.1 4 (by decide) (by decide) (by decide), p1 30 (by decide) (by decide), o1.1 30 (by decide) (by decide)]; exact hM.1.2
      · rw [l1 32 (by decide), sI_ne (by decide), o2.1 32 (by decide) (by decide), p1 32 (by decide) (by decide), o1.1 32 (by decide) (by decide)]; exact hM.2.1 i hi
      · rw [l1 33 (by decide), sI_ne (by decide), o2.1 33 (by decide) (by decide), p1 33 (by decide) (by decide), o1.1 33 (by decide) (by decide)]; exact hM.2.2.1 i hi
      · exact l4 i (by omega) hi
      · rw [l1 34 (by decide), sI_ne (by decide), o2.1 34 (by decide) (by decide), p1 34 (by decide) (by decide), o1.1 34 (by decide) (by decide)]; exact hM.2.2.2.2 i hi
      · rw [l1 k (by omega), sI_o (by omega), o2.1 k (by omega) (by omega), p1 k (by omega) (by omega), o1.1 k (by omega) (by omega)]
      · rw [l1 30 (by decide), sI_nj (by decide), o2.2.1 24 (by decide) (by decide) (by decide), p1 30 (by decide) (by decide), o1.1 30 (by decide) (by decide)]
      · rw [l1 22 (by decide), sI_ne (by decide), o2.1 22 (by decide) (by decide), p1 22 (by decide) (by decide)]; exact o1.2.1
      · rw [l1 30 (by decide), sI_nj (by decide)]; exact o2.2.2.1
      · rw [l2]
        show T1.2 = S.2
        rw [o2.2.2.2, p5, o1.2.2]
