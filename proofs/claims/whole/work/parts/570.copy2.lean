/-! ===== copy ===== -/
theorem cp1 {S : ST} {a b sp dp n L : Nat} (ha : al 0 a = L) (hb : al 0 b = L) (h0 : 0 < L) (hL : L < 1000) (h1 : sp + n ≤ L) (h2 : dp + n ≤ L) {x y z : Int32} (hx : x = iI (sp : Int)) (hy : y = iI (dp : Int)) (hz : z = iI (n : Int)) : cpy S a x b y z = some (cpyS S a b sp dp n) := by
  have e : ∀ j : Nat, j < 1000 → (iI (j : Int)).toNatClampNeg = j ∧ 0 ≤ iI (j : Int) := fun j hj => ⟨by rw [iI_nat]; exact nI_clamp (by omega), by rw [iI_nat]; exact nI_pos' (by omega)⟩
  unfold cpy
  rw [hx, hy, hz, (e sp (by omega)).1, (e dp (by omega)).1, (e n (by omega)).1, ha, hb, if_pos ⟨⟨(e sp (by omega)).2, (e dp (by omega)).2, (e n (by omega)).2⟩, by omega, by omega, h0, h0⟩]
theorem cp1_at {S : ST} {a b sp dp n i : Nat} : (cpyS S a b sp dp n).1 b i = if dp ≤ i ∧ i < dp + n then S.1 a (sp + (i - dp)) else S.1 b i := by
  show (if b = b then va_cpy (S.1 a) (S.1 b) sp dp n else S.1 b) i = _
  rw [if_pos rfl, va_cpy]
theorem ix25 {x y z : Int32} {k b i : Nat} (hx : x = iI (k : Int)) (hy : y = iI (b : Int)) (hz : z = iI (i : Int)) : 24 * x + y + z = iI ((24 * k + b + i : Nat) : Int) := by
  rw [ix24 hx hy, hz, iI_add]
  congr 1
theorem m_c1 {k b m : Nat} (hk : k < 4) (hb : b + m ≤ 24) {x1 x2 x3 x4 x5 : Int32} (h1 : x1 = iI (k : Int)) (h2 : x2 = iI (b : Int)) (h5 : x5 = iI (m : Int)) : ∀ (n i : Nat) (S : ST), m < i + n → i ≤ m → ∃ S', f_X8_copy_101 n S x1 x2 x3 x4 x5 (iI (i : Int)) = f_X8_copy_138 FU S' x3 x4 x5 0 ∧ (∀ q, q ≠ 49 → S'.1 q = S.1 q) ∧ S'.2 = S.2 ∧ ∀ j, (i ≤ j → j < m → S'.1 49 j = S.1 48 (24 * k + b + j)) ∧ (j < i → S'.1 49 j = S.1 49 j) := by
  intro n
  induction n with
  | zero => intro i S q1 q2; omega
  | succ n ih =>
    intro i S q1 q2
    unfold f_X8_copy_101
    rw [i_le (x := x5) (y := iI (i : Int)) h5 rfl (by omega) (by omega)]
    by_cases h : (m : Int) ≤ (i : Int)
    · rw [if_pos h]
      exact ⟨S, rfl, fun _ _ => rfl, rfl, fun j => ⟨fun h1 h2 => by omega, fun _ => rfl⟩⟩
    · rw [if_neg h, rI_ok (ix25 h1 h2 (z := iI (i : Int)) rfl) rfl (by rw [al48]; omega) (by omega), Option.bind_some, wI_ok (x := iI (i : Int)) (n := i) rfl rfl (by rw [al49]; omega) (by omega), Option.bind_some, i_next]
      obtain ⟨S', e, f1, f2, f3⟩ := ih (i + 1) (sI S 49 i (S.1 48 (24 * k + b + i))) (by omega) (by omega)
      refine ⟨S', e, fun q hq => by rw [f1 q hq, sI_o hq], f2, fun j => ⟨fun h1 h2 => ?_, fun h1 => ?_⟩⟩
      · by_cases h3 : j = i
        · subst h3
          rw [(f3 j).2 (by omega), sI_eq]
        · rw [(f3 j).1 (by omega) h2, sI_ne (by decide)]
      · rw [(f3 j).2 (by omega), sI_nj (by omega)]
theorem m_c2 {k b m : Nat} (hk : k < 4) (hb : b + m ≤ 24) {x3 x4 x5 : Int32} (h3 : x3 = iI (k : Int)) (h4 : x4 = iI (b : Int)) (h5 : x5 = iI (m : Int)) : ∀ (n i : Nat) (S : ST), m < i + n → i ≤ m → ∃ S', f_X8_copy_138 n S x3 x4 x5 (iI (i : Int)) = some (x5, S') ∧ (∀ q, q ≠ 48 → S'.1 q = S.1 q) ∧ S'.2 = S.2 ∧ ∀ j, (24 * k + b + i ≤ j → j < 24 * k + b + m → S'.1 48 j = S.1 49 (j - (24 * k + b))) ∧ ((j < 24 * k + b + i ∨ 24 * k + b + m ≤ j) → S'.1 48 j = S.1 48 j) := by
  intro n
  induction n with
  | zero => intro i S q1 q2; omega
  | succ n ih =>
    intro i S q1 q2
    unfold f_X8_copy_138
    rw [i_le (x := x5) (y := iI (i : Int)) h5 rfl (by omega) (by omega)]
    by_cases h : (m : Int) ≤ (i : Int)
    · rw [if_pos h]
      exact ⟨S, rfl, fun _ _ => rfl, rfl, fun j => ⟨fun h1 h2 => by omega, fun _ => rfl⟩⟩
    · rw [if_neg h, rI_ok (x := iI (i : Int)) (n := i) rfl rfl (by rw [al49]; omega) (by omega), Option.bind_some, wI_ok (ix25 h3 h4 (z := iI (i : Int)) rfl) rfl (by rw [al48]; omega) (by omega), Option.bind_some, i_next]
      obtain ⟨S', e, f1, f2, f3⟩ := ih (i + 1) (sI S 48 (24 * k + b + i) (S.1 49 i)) (by omega) (by omega)
      refine ⟨S', e, fun q hq => by rw [f1 q hq, sI_o hq], f2, fun j => ⟨fun h1 h2 => ?_, fun h1 => ?_⟩⟩
      · by_cases h3 : j = 24 * k + b + i
        · subst h3
          rw [(f3 _).2 (by omega), sI_eq, Nat.add_sub_cancel_left]
        · rw [(f3 j).1 (by omega) h2, sI_ne (by decide)]
      · rw [(f3 j).2 (by omega), sI_nj (by omega)]
theorem ok_copy (a0 a1 a2 a3 a4 : Int32) : Pr Inv (fun S => f_X7_copy S a0 a1 a2 a3 a4) (fun S => f_X8_copy S a0 a1 a2 a3 a4) := by
  intro S hI
  have hSh := hI.2.2.2.1
  obtain ⟨a, ha, hx⟩ := i_of a0
  obtain ⟨b, hb, hy⟩ := i_of a1
  obtain ⟨c, hc, hz⟩ := i_of a2
  obtain ⟨d, hd, hw⟩ := i_of a3
  obtain ⟨m, hm, hv⟩ := i_of a4
  show ∃ r S1 S2, f_X7_copy S a0 a1 a2 a3 a4 = some (r, S1) ∧ f_X8_copy S1 a0 a1 a2 a3 a4 = some (r, S2) ∧ Inv S2
  unfold f_X7_copy f_X3_move f_X8_copy
  simp only [gt01 (m_isSheet hx ha), gt01 (m_isSheet hz hc), gt01 (x_isSheet hx ha), gt01 (x_isSheet hz hc)]
  by_cases h1 : 0 ≤ a ∧ a < ((4 : Nat) : Int)
  · simp only [if_pos h1]
    by_cases h2 : 0 ≤ c ∧ c < ((4 : Nat) : Int)
    · simp only [if_pos h2]
      obtain ⟨k, hk, rfl⟩ := nat_of h1
      obtain ⟨k', hk', rfl⟩ := nat_of h2
      obtain ⟨ln, n, hs⟩ := hSh k hk
      have hs' : Sk S k ln n := hs
      obtain ⟨g1, g2, g3, g4, g5, g6, g7⟩ := hs
      obtain ⟨ln', n', ht⟩ := hSh k' hk'
      have ht' : Sk S k' ln' n' := ht
      obtain ⟨q1, q2, q3, q4, q5, q6, q7⟩ := ht
      have mf : ∀ T : ST, T.1 46 = S.1 46 → T.1 47 = S.1 47 → ((rI T 0 46 a0).bind fun v3 => if v3 < 0 then (some ((-11), T)) else ((rI T 0 46 a2).bind fun v4 => if 0 ≤ v4 then ((rI T 0 46 a0).bind fun v5 => (rI T 0 46 a2).bind fun v6 => if v5 = v6 then (if a4 < 0 then (some ((-13), T)) else ((rI T 0 46 a0).bind fun v7 => (f_X8_finds T a0 v7 a1 a4).bind fun v8 => if v8 < 0 then (some ((-13), T)) else ((rI T 0 46 a2).bind fun v9 => (f_X8_finds T a2 v9 a3 a4).bind fun v10 => if 0 ≤ v10 then (f_X8_copy_101 FU T a0 a1 a2 a3 a4 0) else (some ((-13), T))))) else (some ((-12), T))) else (some ((-11), T)))) = if ln = -1 then some (-11, T) else if ln' = -1 then some (-11, T) else if ln = ln' then (if (0 ≤ b ∧ 0 ≤ m ∧ b + m ≤ n) then (if (0 ≤ d ∧ 0 ≤ m ∧ d + m ≤ n') then f_X8_copy_101 FU T a0 a1 a2 a3 a4 0 else some (-13, T)) else some (-13, T)) else some (-12, T) := by
        intro T e6 e7
        have f1 := m_finds2 (S := T) g1 g2 (by rw [e6]; exact g4) (by rw [e7]; exact g6) hk hx (y := iI ln) (l := ln) rfl hy hv (by omega) hb hm
        have f2 := m_finds2 (S := T) q1 q2 (by rw [e6]; exact q4) (by rw [e7]; exact q6) hk' hz (y := iI ln') (l := ln') rfl hw hv (by omega) hd hm
        rw [r_4 hx hk al46, r_4 hz hk' al46, e6, g4, q4]
        simp only [Option.bind_some]
        rw [f1, f2]
        simp only [Option.bind_some]
        rw [i_lt (x := iI ln) (y := 0) (b := 0) rfl rfl (by omega) (by omega), i_le (x := 0) (y := iI ln') (a := 0) rfl rfl (by omega) (by omega), i_eq (x := iI ln) (y := iI ln') rfl rfl (by omega) (by omega), i_lt (y := 0) (b := 0) hv rfl hm (by omega)]
        by_cases l1 : ln = -1
        · rw [if_pos l1, if_pos (by omega)]
        · rw [if_neg l1, if_neg (by omega)]
          by_cases l2 : ln' = -1
          · rw [if_pos l2, if_neg (by omega)]
          · rw [if_neg l2, if_pos (by omega)]
            by_cases l3 : ln = ln'
            · rw [if_pos l3, if_pos l3]
              unfold refV
              rw [if_neg l1, if_pos rfl, if_neg l2, if_pos rfl]
              by_cases l4 : m < 0
              · rw [if_pos l4, if_neg (by omega)]
              · rw [if_neg l4]
                by_cases l5 : 0 ≤ b ∧ b + m ≤ n
                · rw [if_pos l5, if_neg (show ¬ iI 0 < 0 by decide), if_pos (show 0 ≤ b ∧ 0 ≤ m ∧ b + m ≤ n by omega)]
                  by_cases l6 : 0 ≤ d ∧ d + m ≤ n'
                  · rw [if_pos l6, if_pos (show 0 ≤ iI 0 by decide), if_pos (show 0 ≤ d ∧ 0 ≤ m ∧ d + m ≤ n' by omega)]
                  · rw [if_neg l6, if_neg (show ¬ 0 ≤ iI (-13) by decide), if_neg (show ¬ (0 ≤ d ∧ 0 ≤ m ∧ d + m ≤ n') by omega)]
                · rw [if_neg l5, if_pos (show iI (-13) < 0 by decide), if_neg (show ¬ (0 ≤ b ∧ 0 ≤ m ∧ b + m ≤ n) by omega)]
            · rw [if_neg l3, if_neg l3]
      rw [gt01 (x_isNothing hs' hk hx), gt01 (x_isNothing ht' hk' hz), gt01 (x_hasItems hs' hk hx hy hv hb hm), gt01 (x_hasItems ht' hk' hz hw hv hd hm), r_4 hx hk al27, r_4 hz hk' al27, g3, q3, r_sh hx hk, r_sh hz hk']
      simp only [Option.bind_some]
      rw [i_eq (x := iI ln) (y := iI ln') rfl rfl (by omega) (by omega)]
      by_cases l1 : ln = -1
      · rw [if_pos l1]
        exact ⟨_, _, S, rfl, by rw [mf S rfl rfl, if_pos l1], hI⟩
      · rw [if_neg l1]
        by_cases l2 : ln' = -1
        · rw [if_pos l2]
          exact ⟨_, _, S, rfl, by rw [mf S rfl rfl, if_neg l1, if_pos l2], hI⟩
        · rw [if_neg l2]
          by_cases l3 : ln = ln'
          · rw [if_pos l3]
            by_cases l4 : 0 ≤ b ∧ 0 ≤ m ∧ b + m ≤ n
            · rw [if_pos l4]
              by_cases l5 : 0 ≤ d ∧ 0 ≤ m ∧ d + m ≤ n'
              · rw [if_pos l5]
                obtain ⟨u, hu1, rfl⟩ := nat_of (a := b) (n := 25) (by omega)
                obtain ⟨v, hv1, rfl⟩ := nat_of (a := d) (n := 25) (by omega)
                obtain ⟨p, hp1, rfl⟩ := nat_of (a := m) (n := 25) (by omega)
                rw [cp1 (al173 k hk) (al173 k' hk') (by decide) (by decide) (sp := u) (dp := v) (n := p) (by omega) (by omega) hy hw hv, Option.bind_some]
                have o : ∀ q, q ≠ 173 + k' → (cpyS S (173 + k) (173 + k') u v p).1 q = S.1 q := fun q hq => cp0_o hq
                obtain ⟨T1, e1, f1, f2, f3⟩ := m_c1 hk (by omega) (x3 := a2) (x4 := a3) hx hy hv FU 0 (cpyS S (173 + k) (173 + k') u v p) (FU_gt (by omega)) (by omega)
                obtain ⟨T2, e2, p1, p2, p3⟩ := m_c2 hk' (by omega) hz hw hv FU 0 T1 (FU_gt (by omega)) (by omega)
                have kp : ∀ q, q ≠ 173 + k' → q ≠ 48 → q ≠ 49 → T2.1 q = S.1 q := fun q h0 h1 h2 => by rw [p1 q h1, f1 q h2, o q h0]
                refine ⟨a4, _, T2, rfl, ?_, hI.sh (fun q hq => ?_) (fun q hq => ?_) ?_⟩
                · rw [mf _ (o 46 (by omega)) (o 47 (by omega)), if_neg l1, if_neg l2, if_pos l3, if_pos l4, if_pos l5]
                  exact e1.trans e2
                · obtain ⟨ln2, n2, t1, t2, t3, t4, t5, t6, t7⟩ := hSh q hq
                  refine ⟨ln2, n2, t1, t2, ?_, ?_, ?_, ?_, fun i hi => ?_⟩
                  · rw [kp 27 (by omega) (by decide) (by decide)]; exact t3
                  · rw [kp 46 (by omega) (by decide) (by decide)]; exact t4
                  · rw [kp 28 (by omega) (by decide) (by decide)]; exact t5
                  · rw [kp 47 (by omega) (by decide) (by decide)]; exact t6
                  · by_cases hqk : q = k'
                    · subst hqk
                      rw [p1 _ (by omega), f1 _ (by omega), cp1_at]
                      by_cases hr : v ≤ i ∧ i < v + p
                      · rw [if_pos hr, (p3 _).1 (by omega) (by omega), show 24 * q + i - (24 * q + v) = i - v by omega, (f3 _).1 (by omega) (by omega), o 48 (by omega), g7 _ (by omega), show 24 * k + u + (i - v) = 24 * k + (u + (i - v)) by omega]
                      · rw [if_neg hr, (p3 _).2 (by omega), f1 48 (by decide), o 48 (by omega)]; exact t7 i hi
                    · rw [kp _ (by omega) (by omega) (by omega), (p3 _).2 (by omega), f1 48 (by decide), o 48 (by omega)]; exact t7 i hi
                · exact kp q (fun e => hq (by unfold Shk; omega)) (fun e => hq (by unfold Shk; omega)) (fun e => hq (by unfold Shk; omega))
                · rw [p2, f2]; rfl
              · rw [if_neg l5]
                exact ⟨_, _, S, rfl, by rw [mf S rfl rfl, if_neg l1, if_neg l2, if_pos l3, if_pos l4, if_neg l5], hI⟩
            · rw [if_neg l4]
              exact ⟨_, _, S, rfl, by rw [mf S rfl rfl, if_neg l1, if_neg l2, if_pos l3, if_neg l4], hI⟩
          · rw [if_neg l3]
            exact ⟨_, _, S, rfl, by rw [mf S rfl rfl, if_neg l1, if_neg l2, if_neg l3], hI⟩
    · simp only [if_neg h2]; exact ⟨_, _, S, rfl, rfl, hI⟩
  · simp only [if_neg h1]; exact ⟨_, _, S, rfl, rfl, hI⟩
