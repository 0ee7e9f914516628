/-! ===== plans, in whole numbers ===== -/
/-- from mile m at minute t by k miles she may come at minute e -/
def Arr (K : Nat → Nat → Nat → Bool) : Nat → Nat → Nat → Nat → Prop
  | 0, _, t, e => t = e
  | k + 1, m, t, e => ∃ p, (1 ≤ p ∧ p < 16) ∧ K m t p = true ∧ Arr K k (m + 1) (t + 60 / p) e
theorem t60 : ∀ p, p < 16 → 1 ≤ p → 4 ≤ 60 / p ∧ 60 / p ≤ 60 := by decide
theorem Arr_rg {K : Nat → Nat → Nat → Bool} : ∀ (k m t e : Nat), Arr K k m t e → t + 4 * k ≤ e ∧ e ≤ t + 60 * k := by
  intro k
  induction k with
  | zero => intro m t e h; have h : t = e := h; omega
  | succ k ih =>
    intro m t e h
    obtain ⟨p, hp, -, h2⟩ := h
    have := ih _ _ _ h2
    have := t60 p hp.2 hp.1
    omega
theorem Arr_snoc {K : Nat → Nat → Nat → Bool} : ∀ (k m t e : Nat), Arr K (k + 1) m t e ↔ ∃ s p, (1 ≤ p ∧ p < 16) ∧ Arr K k m t s ∧ K (m + k) s p = true ∧ e = s + 60 / p := by
  intro k
  induction k with
  | zero =>
    intro m t e
    constructor
    · rintro ⟨p, hp, h1, h2⟩
      exact ⟨t, p, hp, rfl, h1, h2.symm⟩
    · rintro ⟨s, p, hp, h1, h2, h3⟩
      have h1 : t = s := h1
      subst h1
      exact ⟨p, hp, h2, h3.symm⟩
  | succ k ih =>
    intro m t e
    constructor
    · rintro ⟨p, hp, h1, h2⟩
      obtain ⟨s, q, hq, g1, g2, g3⟩ := (ih (m + 1) (t + 60 / p) e).mp h2
      exact ⟨s, q, hq, ⟨p, hp, h1, g1⟩, by rw [show m + (k + 1) = m + 1 + k by omega]; exact g2, g3⟩
    · rintro ⟨s, q, hq, ⟨p, hp, h1, g1⟩, g2, g3⟩
      exact ⟨p, hp, h1, (ih (m + 1) (t + 60 / p) e).mpr ⟨s, q, hq, g1, by rw [show m + 1 + k = m + (k + 1) by omega]; exact g2, g3⟩⟩
/-- what is enough for a pace is so for each slower one -/
def KM (K : Nat → Nat → Nat → Bool) (M : Nat) : Prop := ∀ m, m < M → ∀ t, t < 2400 → ∀ p p', 1 ≤ p → p ≤ p' → p' < 16 → K m t p' = true → K m t p = true
theorem K_row {K : Nat → Nat → Nat → Bool} {M : Nat} (h : KM K M) {m t : Nat} (hm : m < M) (ht : t < 2400) {P : Nat → Prop} : (∃ p, (1 ≤ p ∧ p < 16) ∧ K m t p = true ∧ P (60 / p)) ↔ ∃ l, l < 11 ∧ K m t (pcV l) = true ∧ P (tkV l) := by
  constructor
  · rintro ⟨p, hp, h1, h2⟩
    obtain ⟨l, hl, g1, g2⟩ := pc_all p hp.2 hp.1
    exact ⟨l, hl, h m hm t ht _ p (pc_rg l hl).1 g1 hp.2 h1, by rw [g2]; exact h2⟩
  · rintro ⟨l, hl, h1, h2⟩
    have := pc_rg l hl
    exact ⟨pcV l, by omega, h1, by rw [← this.2.2]; exact h2⟩
/-- the least of so many, and which is the first that is so small -/
def bfV (o : Nat → Nat) : Nat → Nat × Nat
  | 0 => (100000, 0)
  | p + 1 => if o (p + 1) < (bfV o p).1 then (o (p + 1), p + 1) else bfV o p
theorem bf_spec (o : Nat → Nat) : ∀ n, (∀ p, 1 ≤ p → p ≤ n → (bfV o n).1 ≤ o p) ∧ (bfV o n).1 ≤ 100000 ∧ (((bfV o n).1 = 100000 ∧ (bfV o n).2 = 0) ∨ (1 ≤ (bfV o n).2 ∧ (bfV o n).2 ≤ n ∧ o (bfV o n).2 = (bfV o n).1 ∧ (bfV o n).1 < 100000 ∧ ∀ p, 1 ≤ p → p < (bfV o n).2 → (bfV o n).1 < o p)) := by
  intro n
  induction n with
  | zero => exact ⟨fun p h1 h2 => by omega, Nat.le_refl _, Or.inl ⟨rfl, rfl⟩⟩
  | succ n ih =>
    obtain ⟨i1, i2, i3⟩ := ih
    unfold bfV
    by_cases h : o (n + 1) < (bfV o n).1
    · rw [if_pos h]
      refine ⟨fun p h1 h2 => ?_, by show o (n + 1) ≤ 100000; omega, Or.inr ⟨by show 1 ≤ n + 1; omega, Nat.le_refl _, rfl, by show o (n + 1) < 100000; omega, fun p h1 h2 => ?_⟩⟩
      · show o (n + 1) ≤ o p
        by_cases hp : p = n + 1
        · rw [hp]; exact Nat.le_refl _
        · have := i1 p h1 (by omega)
          omega
      · show o (n + 1) < o p
        have h2 : p < n + 1 := h2
        have := i1 p h1 (by omega)
        omega
    · rw [if_neg h]
      refine ⟨fun p h1 h2 => ?_, i2, ?_⟩
      · by_cases hp : p = n + 1
        · rw [hp]; omega
        · exact i1 p h1 (by omega)
      · rcases i3 with i3 | ⟨j1, j2, j3⟩
        · exact Or.inl i3
        · exact Or.inr ⟨j1, by omega, j3⟩
def lfV (K : Nat → Nat → Nat → Bool) : Nat → Nat → Nat → Nat
  | 0, _, _ => 0
  | k + 1, m, t => (bfV (fun p => if K m t p = true then 60 / p + lfV K k (m + 1) (t + 60 / p) else 100000) 15).1
def ownV (K : Nat → Nat → Nat → Bool) (k m t p : Nat) : Nat := if K m t p = true then 60 / p + lfV K k (m + 1) (t + 60 / p) else 100000
def byV (K : Nat → Nat → Nat → Bool) (k m t : Nat) : Nat := (bfV (ownV K k m t) 15).2
theorem lf_spec {K : Nat → Nat → Nat → Bool} : ∀ (k m t : Nat), (∀ e, Arr K k m t e → t + lfV K k m t ≤ e) ∧ (lfV K k m t < 100000 → Arr K k m t (t + lfV K k m t)) ∧ lfV K k m t ≤ 100000 := by
  intro k
  induction k with
  | zero => intro m t; exact ⟨fun e h => by have h : t = e := h; show t + 0 ≤ e; omega, fun _ => rfl, by show 0 ≤ 100000; omega⟩
  | succ k ih =>
    intro m t
    have e0 : lfV K (k + 1) m t = (bfV (ownV K k m t) 15).1 := rfl
    obtain ⟨i1, i2, i3⟩ := bf_spec (ownV K k m t) 15
    rw [e0]
    refine ⟨fun e h => ?_, fun h => ?_, i2⟩
    · obtain ⟨p, hp, h1, h2⟩ := h
      have a1 := i1 p hp.1 (by omega)
      have a2 := (ih (m + 1) (t + 60 / p)).1 e h2
      unfold ownV at a1
      rw [if_pos h1] at a1
      unfold ownV
      omega
    · rcases i3 with i3 | ⟨j1, j2, j3, j4, -⟩
      · omega
      · generalize hp : (bfV (ownV K k m t) 15).2 = p at j1 j2 j3
        have hk : K m t p = true := by
          apply Classical.byContradiction
          intro hc
          unfold ownV at j3 j4
          rw [if_neg hc] at j3
          omega
        have e1 : ownV K k m t p = 60 / p + lfV K k (m + 1) (t + 60 / p) := if_pos hk
        have t6 := t60 p (by omega) j1
        have a2 := (ih (m + 1) (t + 60 / p)).2.1 (by omega)
        refine ⟨p, by omega, hk, ?_⟩
        rw [← j3, e1, ← Nat.add_assoc]
        exact a2
theorem lf_ex {K : Nat → Nat → Nat → Bool} {k m t : Nat} (hk : k ≤ 16) : (∃ e, Arr K k m t e) ↔ lfV K k m t < 100000 := by
  constructor
  · rintro ⟨e, h⟩
    have h1 := (lf_spec k m t).1 e h
    have h2 := Arr_rg k m t e h
    omega
  · intro h
    exact ⟨_, (lf_spec k m t).2.1 h⟩
/-- she goes by the first pace that is among the quickest -/
def IsL (K : Nat → Nat → Nat → Bool) (k m t e p : Nat) : Prop := (1 ≤ p ∧ p < 16) ∧ (K m t p = true ∧ Arr K k (m + 1) (t + 60 / p) e) ∧ ∀ q, 1 ≤ q → q < p → ¬ (K m t q = true ∧ Arr K k (m + 1) (t + 60 / q) e)
theorem by_isL {K : Nat → Nat → Nat → Bool} {k m t : Nat} (h : lfV K (k + 1) m t < 100000) : IsL K k m t (t + lfV K (k + 1) m t) (byV K k m t) := by
  have e0 : lfV K (k + 1) m t = (bfV (ownV K k m t) 15).1 := rfl
  obtain ⟨i1, i2, i3⟩ := bf_spec (ownV K k m t) 15
  rw [e0] at h ⊢
  unfold byV
  rcases i3 with i3 | ⟨j1, j2, j3, j4, j5⟩
  · omega
  · generalize hp : (bfV (ownV K k m t) 15).2 = p at j1 j2 j3 j5
    have hk : K m t p = true := by
      apply Classical.byContradiction
      intro hc
      unfold ownV at j3 j4
      rw [if_neg hc] at j3
      omega
    have e1 : ownV K k m t p = 60 / p + lfV K k (m + 1) (t + 60 / p) := if_pos hk
    have t6 := t60 p (by omega) j1
    have a2 := (lf_spec (K := K) k (m + 1) (t + 60 / p)).2.1 (by omega)
    refine ⟨by omega, ⟨hk, ?_⟩, fun q q1 q2 q3 => ?_⟩
    · rw [← j3, e1, ← Nat.add_assoc]
      exact a2
    · have b1 := j5 q q1 q2
      have b2 : ownV K k m t q = 60 / q + lfV K k (m + 1) (t + 60 / q) := if_pos q3.1
      have b3 := (lf_spec (K := K) k (m + 1) (t + 60 / q)).1 _ q3.2
      omega
theorem isL_one {K : Nat → Nat → Nat → Bool} {k m t e p q : Nat} (h : IsL K k m t e p) (g : IsL K k m t e q) : p = q := by
  apply Classical.byContradiction
  intro hc
  have : p < q ∨ q < p := by omega
  rcases this with h1 | h1
  · exact g.2.2 p h.1.1 h1 h.2.1
  · exact h.2.2 q g.1.1 h1 g.2.1
theorem Arr_mono {K K' : Nat → Nat → Nat → Bool} {M : Nat} (h : ∀ m, m < M → ∀ t, t < 2400 → ∀ p, 1 ≤ p → p < 16 → K m t p = true → K' m t p = true) : ∀ (k m t e : Nat), m + k ≤ M → e < 2400 → Arr K k m t e → Arr K' k m t e := by
  intro k
  induction k with
  | zero => intro m t e _ _ g; exact g
  | succ k ih =>
    intro m t e hm he g
    have hr := Arr_rg _ _ _ _ g
    obtain ⟨p, hp, g1, g2⟩ := g
    exact ⟨p, hp, h m (by omega) t (by omega) p hp.1 hp.2 g1, ih (m + 1) _ e (by omega) he g2⟩
theorem lf_mono {K K' : Nat → Nat → Nat → Bool} {M : Nat} (h : ∀ m, m < M → ∀ t, t < 2400 → ∀ p, 1 ≤ p → p < 16 → K m t p = true → K' m t p = true) {k m t : Nat} (hm : m + k ≤ M) (ht : t + 60 * k < 2400) : lfV K' k m t ≤ lfV K k m t := by
  have s := lf_spec (K := K) k m t
  have s' := lf_spec (K := K') k m t
  by_cases hl : lfV K k m t < 100000
  · have a := s.2.1 hl
    have r := Arr_rg _ _ _ _ a
    have := s'.1 _ (Arr_mono h k m t _ hm (by omega) a)
    omega
  · omega
theorem lf_cg {K K' : Nat → Nat → Nat → Bool} {M : Nat} (h : ∀ m, m < M → ∀ t, t < 2400 → ∀ p, 1 ≤ p → p < 16 → K m t p = K' m t p) {k m t : Nat} (hm : m + k ≤ M) (ht : t + 60 * k < 2400) : lfV K k m t = lfV K' k m t :=
  Nat.le_antisymm (lf_mono (fun m hm t ht p h1 h2 q => by rw [h m hm t ht p h1 h2]; exact q) hm ht) (lf_mono (fun m hm t ht p h1 h2 q => by rw [← h m hm t ht p h1 h2]; exact q) hm ht)
