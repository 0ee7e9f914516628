/-! ===== sheet, copy ===== -/
theorem x_begin {k : Nat} (hk : k < 4) {x1 x2 x3 : Int32} (hx : x1 = iI (k : Int)) : ∀ (n i : Nat) (S : ST), 24 < i + n → i ≤ 24 → ∃ S', f_X3_begin_32 n S x1 x2 x3 (iI (i : Int)) = some (x3, sI (sI S' 27 k x2) 28 k x3) ∧ (∀ q, q ≠ 173 + k → S'.1 q = S.1 q) ∧ S'.2 = S.2 ∧ ∀ j, (i ≤ j → j < 24 → S'.1 (173 + k) j = 0) ∧ (j < i → S'.1 (173 + k) j = S.1 (173 + k) j) := by
  intro n
  induction n with
  | zero => intro i S q1 q2; omega
  | succ n ih =>
    intro i S q1 q2
    unfold f_X3_begin_32
    rw [i_le (x := 24) (y := iI (i : Int)) (a := 24) rfl rfl (by omega) (by omega)]
    by_cases h : 24 ≤ (i : Int)
    · rw [if_pos h, w_4 hx hk al27, Option.bind_some, w_4 hx hk al28, Option.bind_some]
      exact ⟨S, rfl, fun _ _ => rfl, rfl, fun j => ⟨fun h1 h2 => by omega, fun _ => rfl⟩⟩
    · rw [if_neg h, r_sh hx hk, Option.bind_some, wI_ok (x := iI (i : Int)) (n := i) rfl rfl (by rw [al173 k hk]; omega) (by omega), Option.bind_some, i_next]
      obtain ⟨S', e, f1, f2, f3⟩ := ih (i + 1) (sI S (173 + k) i 0) (by omega) (by omega)
      refine ⟨S', e, fun q hq => by rw [f1 q hq, sI_o hq], f2, fun j => ⟨fun h1 h2 => ?_, fun h1 => ?_⟩⟩
      · by_cases h3 : j = i
        · subst h3
          rw [(f3 j).2 (by omega), sI_eq]
        · exact (f3 j).1 (by omega) h2
      · rw [(f3 j).2 (by omega), sI_nj (by omega)]
theorem m_sheet {k : Nat} (hk : k < 4) {x1 x3 : Int32} (hx : x1 = iI (k : Int)) : ∀ (n i : Nat) (S : ST), 24 < i + n → i ≤ 24 → ∃ S', f_X8_sheet_46 n S x1 x3 (iI (i : Int)) = some (x3, S') ∧ (∀ q, q ≠ 48 → S'.1 q = S.1 q) ∧ S'.2 = S.2 ∧ ∀ j, (24 * k + i ≤ j → j < 24 * k + 24 → S'.1 48 j = 0) ∧ (j < 24 * k + i ∨ 24 * k + 24 ≤ j → S'.1 48 j = S.1 48 j) := by
  intro n
  induction n with
  | zero => intro i S q1 q2; omega
  | succ n ih =>
    intro i S q1 q2
    unfold f_X8_sheet_46
    rw [i_le (x := 24) (y := iI (i : Int)) (a := 24) rfl rfl (by omega) (by omega)]
    by_cases h : 24 ≤ (i : Int)
    · rw [if_pos h]
      exact ⟨S, rfl, fun _ _ => rfl, rfl, fun j => ⟨fun h1 h2 => by omega, fun _ => rfl⟩⟩
    · rw [if_neg h, wI_ok (ix24 hx (y := iI (i : Int)) rfl) rfl (by rw [al48]; omega) (by omega), Option.bind_some, i_next]
      obtain ⟨S', e, f1, f2, f3⟩ := ih (i + 1) (sI S 48 (24 * k + i) 0) (by omega) (by omega)
      refine ⟨S', e, fun q hq => by rw [f1 q hq, sI_o hq], f2, fun j => ⟨fun h1 h2 => ?_, fun h1 => ?_⟩⟩
      · by_cases h3 : j = 24 * k + i
        · subst h3
          rw [(f3 _).2 (by omega), sI_eq]
        · exact (f3 j).1 (by omega) h2
      · rw [(f3 j).2 (by omega), sI_nj (by omega)]
theorem ok_sheet (a0 a1 a2 : Int32) : Pr Inv (fun S => f_X7_sheet S a0 a1 a2) (fun S => f_X8_sheet S a0 a1 a2) := by
  intro S hI
  have hSh := hI.2.2.2.1
  obtain ⟨a, ha, hx⟩ := i_of a0
  obtain ⟨l, hl, hy⟩ := i_of a1
  obtain ⟨b, hb, hz⟩ := i_of a2
  show ∃ r S1 S2, f_X7_sheet S a0 a1 a2 = some (r, S1) ∧ f_X8_sheet S1 a0 a1 a2 = some (r, S2) ∧ Inv S2
  unfold f_X7_sheet f_X3_begin f_X8_sheet
  simp only [gt01 (m_isSheet hx ha), gt01 (m_isLane hy hl), gt01 (x_isSheet hx ha), gt01 (x_isLane hy hl), i_le (y := 24) (b := 24) hz rfl hb (by omega), i_le (x := 0) (a := 0) rfl hz (by omega) hb]
  by_cases h1 : 0 ≤ a ∧ a < ((4 : Nat) : Int)
  · simp only [if_pos h1]
    by_cases h2 : 0 ≤ l ∧ l ≤ 2
    · simp only [if_pos h2]
      by_cases h3 : b ≤ 24
      · simp only [if_pos h3]
        by_cases h4 : 0 ≤ b
        · simp only [if_pos h4]
          obtain ⟨k, hk, rfl⟩ := nat_of h1
          obtain ⟨m, hm, rfl⟩ := nat_of (a := b) (n := 25) (by omega)
          obtain ⟨S1, e1, f1, f2, f3⟩ := x_begin hk (x2 := a1) (x3 := a2) hx FU 0 S (FU_gt (by omega)) (by omega)
          obtain ⟨T, e2, p1, p2, p3⟩ := m_sheet hk (x3 := a2) hx FU 0 (sI (sI (sI (sI S1 27 k a1) 28 k a2) 46 k a1) 47 k a2) (FU_gt (by omega)) (by omega)
          have kp : ∀ q, q ≠ 173 + k → q ≠ 27 → q ≠ 28 → q ≠ 46 → q ≠ 47 → q ≠ 48 → T.1 q = S.1 q := fun q h0 h1 h2 h3 h4 h5 => by rw [p1 q h5, sI_o h4, sI_o h3, sI_o h2, sI_o h1, f1 q h0]
          refine ⟨a2, _, T, bd2 e1 rfl, ?_, hI.sh (fun q hq => ?_) (fun q hq => ?_) ?_⟩
          · rw [w_4 hx hk al46, Option.bind_some, w_4 hx hk al47, Option.bind_some]
            exact e2
          · obtain ⟨ln', n', t1, t2, t3, t4, t5, t6, t7⟩ := hSh q hq
            by_cases hqk : q = k
            · subst hqk
              refine ⟨l, m, by omega, by omega, ?_, ?_, ?_, ?_, fun i hi => ?_⟩
              · rw [p1 27 (by decide), sI_ne (by decide), sI_ne (by decide), sI_ne (by decide), sI_eq]; exact hy
              · rw [p1 46 (by decide), sI_ne (by decide), sI_eq]; exact hy
              · rw [p1 28 (by decide), sI_ne (by decide), sI_ne (by decide), sI_eq]; exact hz
              · rw [p1 47 (by decide), sI_eq]; exact hz
              · rw [(p3 _).1 (by omega) (by omega), p1 _ (by omega), sI_ne (by omega), sI_ne (by omega), sI_ne (by omega), sI_ne (by omega)]
                exact (f3 i).1 (by omega) hi
            · refine ⟨ln', n', t1, t2, ?_, ?_, ?_, ?_, fun i hi => ?_⟩
              · rw [p1 27 (by decide), sI_ne (by decide), sI_ne (by decide), sI_ne (by decide), sI_nj hqk, f1 27 (by omega)]; exact t3
              · rw [p1 46 (by decide), sI_ne (by decide), sI_nj hqk, sI_ne (by decide), sI_ne (by decide), f1 46 (by omega)]; exact t4
              · rw [p1 28 (by decide), sI_ne (by decide), sI_ne (by decide), sI_nj hqk, sI_ne (by decide), f1 28 (by omega)]; exact t5
              · rw [p1 47 (by decide), sI_nj hqk, sI_ne (by decide), sI_ne (by decide), sI_ne (by decide), f1 47 (by omega)]; exact t6
              · rw [(p3 _).2 (by omega), kp (173 + q) (by omega) (by omega) (by omega) (by omega) (by omega) (by omega), sI_ne (by decide), sI_ne (by decide), sI_ne (by decide), sI_ne (by decide), f1 48 (by omega)]; exact t7 i hi
          · exact kp q (fun e => hq (by unfold Shk; omega)) (fun e => hq (by unfold Shk; omega)) (fun e => hq (by unfold Shk; omega)) (fun e => hq (by unfold Shk; omega)) (fun e => hq (by unfold Shk; omega)) (fun e => hq (by unfold Shk; omega))
          · rw [p2]; exact f2
        · simp only [if_neg h4]; exact ⟨_, _, S, rfl, rfl, hI⟩
      · simp only [if_neg h3]; exact ⟨_, _, S, rfl, rfl, hI⟩
    · simp only [if_neg h2]; exact ⟨_, _, S, rfl, rfl, hI⟩
  · simp only [if_neg h1]; exact ⟨_, _, S, rfl, rfl, hI⟩
