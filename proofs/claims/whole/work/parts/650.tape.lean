/-! ===== the two tapes ===== -/
theorem al24' : al 1 24 = 100 := al24
def CT (t : Nat) (c : Nat → Int) : Prop := t ≤ 100 ∧ ∀ i, i < t → 32 ≤ c i ∧ c i ≤ 126
/-- the code's tape: its size, its signs, where it reads, its fault -/
def Tc (S : ST) (t : Nat) (c : Nat → Int) (p : Nat) : Prop := S.1 22 2 = iI (t : Int) ∧ S.1 22 3 = iI (p : Int) ∧ p ≤ t ∧ ∀ i, i < t → S.1 24 i = iI (c i)
/-- the reference's tape -/
def Tm (T : ST) (t : Nat) (c : Nat → Int) (p : Nat) : Prop := T.1 30 7 = iI (t : Int) ∧ T.1 30 8 = iI (p : Int) ∧ p ≤ t ∧ ∀ i, i < t → T.1 35 i = iI (c i)
/-- nothing but where the code reads -/
def OnlyA (S S' : ST) : Prop := (∀ a, a ≠ 22 → S'.1 a = S.1 a) ∧ (∀ i, i ≠ 3 → S'.1 22 i = S.1 22 i) ∧ S'.2 = S.2
theorem OnlyA.rf {S : ST} : OnlyA S S := ⟨fun _ _ => rfl, fun _ _ => rfl, rfl⟩
theorem OnlyA.tr {S S1 S2 : ST} (h : OnlyA S S1) (g : OnlyA S1 S2) : OnlyA S S2 := ⟨fun a ha => (g.1 a ha).trans (h.1 a ha), fun i hi => (g.2.1 i hi).trans (h.2.1 i hi), g.2.2.trans h.2.2⟩
theorem OnlyA.sI {S : ST} {x : Int32} : OnlyA S (sI S 22 3 x) := ⟨fun _ ha => sI_o ha, fun _ hi => sI_nj hi, rfl⟩
/-- nothing but where the reference reads -/
def OnlyB (S S' : ST) : Prop := (∀ a, a ≠ 30 → S'.1 a = S.1 a) ∧ (∀ i, i ≠ 8 → S'.1 30 i = S.1 30 i) ∧ S'.2 = S.2
theorem OnlyB.rf {S : ST} : OnlyB S S := ⟨fun _ _ => rfl, fun _ _ => rfl, rfl⟩
theorem OnlyB.tr {S S1 S2 : ST} (h : OnlyB S S1) (g : OnlyB S1 S2) : OnlyB S S2 := ⟨fun a ha => (g.1 a ha).trans (h.1 a ha), fun i hi => (g.2.1 i hi).trans (h.2.1 i hi), g.2.2.trans h.2.2⟩
theorem OnlyB.sI {S : ST} {x : Int32} : OnlyB S (sI S 30 8 x) := ⟨fun _ ha => sI_o ha, fun _ hi => sI_nj hi, rfl⟩
theorem Tc.next {S : ST} {t p : Nat} {c : Nat → Int} (h : Tc S t c p) (hp : p < t) : Tc (sI S 22 3 (iI ((p + 1 : Nat) : Int))) t c (p + 1) := ⟨by rw [sI_nj (by decide)]; exact h.1, sI_eq, hp, fun i hi => by rw [sI_ne (by decide)]; exact h.2.2.2 i hi⟩
theorem Tm.next {S : ST} {t p : Nat} {c : Nat → Int} (h : Tm S t c p) (hp : p < t) : Tm (sI S 30 8 (iI ((p + 1 : Nat) : Int))) t c (p + 1) := ⟨by rw [sI_nj (by decide)]; exact h.1, sI_eq, hp, fun i hi => by rw [sI_ne (by decide)]; exact h.2.2.2 i hi⟩
theorem r_c {S : ST} {t p : Nat} {c : Nat → Int} (hC : CT t c) (h : Tc S t c p) (hp : p < t) : rI S 1 24 (iI (p : Int)) = some (iI (c p)) := by
  have := hC.1
  rw [rI_ok (x := iI (p : Int)) (n := p) rfl rfl (by rw [al24]; omega) (by omega), h.2.2.2 p hp]
theorem r_m {S : ST} {t p : Nat} {c : Nat → Int} (hC : CT t c) (h : Tm S t c p) (hp : p < t) : rI S 0 35 (iI (p : Int)) = some (iI (c p)) := by
  have := hC.1
  rw [rI_ok (x := iI (p : Int)) (n := p) rfl rfl (by rw [al35]; omega) (by omega), h.2.2.2 p hp]
/-- blanks: both stand at the same sign behind them -/
theorem skips {t : Nat} {c : Nat → Int} (hC : CT t c) : ∀ (n p : Nat), t < p + n → p ≤ t → ∃ p', p ≤ p' ∧ p' ≤ t ∧ (p' < t → c p' ≠ 32) ∧ (∀ S, Tc S t c p → ∃ S', f_X4_skipBlanks_0 n S = some S' ∧ OnlyA S S' ∧ Tc S' t c p') ∧ ∀ T, Tm T t c p → ∃ T', f_X8_here_0 n T = some (iI (if p' < t then c p' else 0), T') ∧ OnlyB T T' ∧ Tm T' t c p' := by
  have h100 := hC.1
  intro n
  induction n with
  | zero => intro p q1 q2; omega
  | succ n ih =>
    intro p q1 q2
    have ec : ∀ S, Tc S t c p → f_X4_skipBlanks_0 (n + 1) S = if (t : Int) ≤ (p : Int) then some S else if c p = 32 then f_X4_skipBlanks_0 n (sI S 22 3 (iI ((p + 1 : Nat) : Int))) else some S := by
      intro S hS
      rw [f_X4_skipBlanks_0, hS.1, hS.2.1, i_le (x := iI (t : Int)) (y := iI (p : Int)) rfl rfl (by omega) (by omega)]
      by_cases h : (t : Int) ≤ (p : Int)
      · rw [if_pos h, if_pos h]
      · have hc := hC.2 p (by omega)
        rw [if_neg h, if_neg h, r_c hC hS (by omega), Option.bind_some, i_eq (x := iI (c p)) (y := 32) (b := 32) rfl rfl (by omega) (by omega), i_next]
    have em : ∀ T, Tm T t c p → f_X8_here_0 (n + 1) T = if (t : Int) ≤ (p : Int) then some (0, T) else if c p = 32 then f_X8_here_0 n (sI T 30 8 (iI ((p + 1 : Nat) : Int))) else some (iI (c p), T) := by
      intro T hT
      rw [f_X8_here_0, f_X8_here_38, hT.1, hT.2.1, i_le (x := iI (t : Int)) (y := iI (p : Int)) rfl rfl (by omega) (by omega), i_le (x := iI (t : Int)) (y := iI (p : Int)) rfl rfl (by omega) (by omega)]
      by_cases h : (t : Int) ≤ (p : Int)
      · rw [if_pos h, if_pos h, if_pos h]
      · have hc := hC.2 p (by omega)
        rw [if_neg h, if_neg h, if_neg h, r_m hC hT (by omega), Option.bind_some, Option.bind_some, i_eq (x := iI (c p)) (y := 32) (b := 32) rfl rfl (by omega) (by omega), i_next]
    by_cases h : (t : Int) ≤ (p : Int)
    · refine ⟨p, Nat.le_refl p, q2, fun h2 => by omega, fun S hS => ⟨S, by rw [ec S hS, if_pos h], OnlyA.rf, hS⟩, fun T hT => ⟨T, ?_, OnlyB.rf, hT⟩⟩
      rw [em T hT, if_pos h, if_neg (by omega)]
      rfl
    · by_cases hb : c p = 32
      · obtain ⟨p', g1, g2, g3, g4, g5⟩ := ih (p + 1) (by omega) (by omega)
        refine ⟨p', by omega, g2, g3, fun S hS => ?_, fun T hT => ?_⟩
        · obtain ⟨S', e, o, s⟩ := g4 _ (hS.next (by omega))
          exact ⟨S', by rw [ec S hS, if_neg h, if_pos hb, e], OnlyA.sI.tr o, s⟩
        · obtain ⟨T', e, o, s⟩ := g5 _ (hT.next (by omega))
          exact ⟨T', by rw [em T hT, if_neg h, if_pos hb, e], OnlyB.sI.tr o, s⟩
      · refine ⟨p, Nat.le_refl p, q2, fun _ => hb, fun S hS => ⟨S, by rw [ec S hS, if_neg h, if_neg hb], OnlyA.rf, hS⟩, fun T hT => ⟨T, ?_, OnlyB.rf, hT⟩⟩
        rw [em T hT, if_neg h, if_neg hb, if_pos (by omega)]
