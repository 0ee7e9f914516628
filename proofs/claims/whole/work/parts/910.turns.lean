/-! ===== day: the next order, the reference ===== -/
theorem al43 : al 0 43 = 6 := by decide
theorem al44 : al 0 44 = 6 := by decide
theorem al42 : al 0 42 = 8640 := by decide
def OO (T : ST) (o : Nat → Nat) (n : Nat) : Prop := ∀ i, i < n → o i < 6 ∧ T.1 43 i = iI (o i : Int)
theorem OO.r {T : ST} {o : Nat → Nat} {n i : Nat} (h : OO T o n) (hi : i < n) (hn : n ≤ 6) {x : Int32} (hx : x = iI (i : Int)) : rI T 0 43 x = some (iI (o i : Int)) := by
  rw [rI_ok (t := 0) (k := 43) hx rfl (by rw [al43]; omega) (by omega), (h i hi).2]
theorem i_prev1 {c : Nat} : iI (c : Int) + (-1) = iI ((c : Int) - 1) := by
  rw [show (-1 : Int32) = iI (-1) from rfl, iI_add]
  rfl
theorem pkV_le (o : Nat → Nat) : ∀ c, pkV o c ≤ c
  | 0 => Nat.le_refl 0
  | c + 1 => by
    unfold pkV
    have := pkV_le o c
    split <;> omega
theorem t4 {T : ST} {o : Nat → Nat} {n : Nat} (hT : OO T o n) (hn : n ≤ 6) : ∀ (c f : Nat), c + 1 ≤ n → c < f → f_X8_turns_4 f T (iI (n : Int)) (iI ((c : Int) - 1)) = f_X8_turns_31 T (iI (n : Int)) (iI ((pkV o c : Int) - 1)) := by
  intro c
  induction c with
  | zero =>
    intro f hc hf
    obtain ⟨f, rfl⟩ : ∃ f', f = f' + 1 := ⟨f - 1, by omega⟩
    rw [f_X8_turns_4, i_lt (y := 0) (b := 0) rfl rfl (by omega) (by omega), if_pos (by omega)]
    rfl
  | succ c ih =>
    intro f hc hf
    obtain ⟨f, rfl⟩ : ∃ f', f = f' + 1 := ⟨f - 1, by omega⟩
    have o1 := (hT c (by omega)).1
    have o2 := (hT (c + 1) (by omega)).1
    rw [show ((c + 1 : Nat) : Int) - 1 = (c : Int) by omega, f_X8_turns_4, i_lt (y := 0) (b := 0) rfl rfl (by omega) (by omega), if_neg (by omega), hT.r (i := c) (by omega) hn rfl, Option.bind_some, hT.r (i := c + 1) (by omega) hn i_next, Option.bind_some, i_le rfl rfl (by omega) (by omega), i_prev1, ih f (by omega) (by omega)]
    have e : pkV o (c + 1) = if o c ≤ o (c + 1) then c + 1 else pkV o c := rfl
    rw [e]
    by_cases h : o c ≤ o (c + 1)
    · rw [if_pos (by omega), if_pos h, show ((c + 1 : Nat) : Int) - 1 = (c : Int) by omega]
    · rw [if_neg (by omega), if_neg h]
theorem OO.sw {T : ST} {o : Nat → Nat} {n a b : Nat} (h : OO T o n) (ha : a < n) (hb : b < n) : OO (sI (sI T 43 a (iI (o b : Int))) 43 b (iI (o a : Int))) (swV o a b) n := by
  intro i hi
  unfold swV
  by_cases h1 : i = b
  · subst h1
    rw [if_pos rfl, sI_eq]
    exact ⟨(h a ha).1, rfl⟩
  · rw [if_neg h1, sI_nj h1]
    by_cases h2 : i = a
    · subst h2
      rw [if_pos rfl, sI_eq]
      exact ⟨(h b hb).1, rfl⟩
    · rw [if_neg h2, sI_nj h2]
      exact h i hi
def F43 (T T' : ST) : Prop := (∀ q, q ≠ 43 → T'.1 q = T.1 q) ∧ T'.2 = T.2
theorem F43.rf {T : ST} : F43 T T := ⟨fun _ _ => rfl, rfl⟩
theorem F43.tr {T T1 T2 : ST} (h : F43 T T1) (g : F43 T1 T2) : F43 T T2 := ⟨fun q hq => (g.1 q hq).trans (h.1 q hq), g.2.trans h.2⟩
theorem F43.s {T : ST} {j : Nat} {x : Int32} : F43 T (sI T 43 j x) := ⟨fun _ h => sI_o h, rfl⟩
theorem t100 {n : Nat} (hn : n ≤ 6) : ∀ (r a b f : Nat) (T : ST) (o : Nat → Nat), OO T o n → b < n → b ≤ a + r → a + r ≤ 100 → r < f → ∃ T', f_X8_turns_100 f T (iI (a : Int)) (iI (b : Int)) = some (1, T') ∧ OO T' (rvV r o a b) n ∧ F43 T T' := by
  intro r
  induction r with
  | zero =>
    intro a b f T o hT hb hr hr2 hf
    obtain ⟨f, rfl⟩ : ∃ f', f = f' + 1 := ⟨f - 1, by omega⟩
    refine ⟨T, ?_, hT, F43.rf⟩
    rw [f_X8_turns_100, i_le rfl rfl (by omega) (by omega), if_pos (by omega)]
  | succ r ih =>
    intro a b f T o hT hb hr hr2 hf
    obtain ⟨f, rfl⟩ : ∃ f', f = f' + 1 := ⟨f - 1, by omega⟩
    have e : rvV (r + 1) o a b = if b ≤ a then o else rvV r (swV o a b) (a + 1) (b - 1) := rfl
    rw [e, f_X8_turns_100, i_le rfl rfl (by omega) (by omega)]
    by_cases h : b ≤ a
    · rw [if_pos (by omega), if_pos h]
      exact ⟨T, rfl, hT, F43.rf⟩
    · rw [if_neg (by omega), if_neg h]
      obtain ⟨T', e1, e2, e3⟩ := ih (a + 1) (b - 1) f _ _ (hT.sw (a := a) (b := b) (by omega) hb) (by omega) (by omega) (by omega) (by omega)
      refine ⟨T', ?_, e2, (F43.s.tr F43.s).tr e3⟩
      rw [hT.r (i := a) (by omega) hn rfl, Option.bind_some, hT.r (i := b) hb hn rfl, Option.bind_some, wI_ok (k := 43) (n := a) rfl rfl (by rw [al43]; omega) (by omega), Option.bind_some, wI_ok (k := 43) (n := b) rfl rfl (by rw [al43]; omega) (by omega), Option.bind_some, i_next, i_prev1, show (b : Int) - 1 = ((b - 1 : Nat) : Int) by omega]
      exact e1
theorem t41 {T : ST} {o : Nat → Nat} {n k : Nat} (hT : OO T o n) (hn : n ≤ 6) (hk : k < n) : ∀ (j f : Nat), k ≤ j → j < n → j < f → (k ≤ pjV o k j ∧ pjV o k j ≤ j) ∧ f_X8_turns_41 f T (iI (n : Int)) (iI (k : Int)) (iI (j : Int)) = f_X8_turns_100 FU (sI (sI T 43 k (iI (o (pjV o k j) : Int))) 43 (pjV o k j) (iI (o k : Int))) (iI ((k + 1 : Nat) : Int)) (iI (n : Int) - 1) := by
  have ok := (hT k hk).1
  have stop : ∀ (j f : Nat), k ≤ j → j < n → o k ≤ o j → f_X8_turns_41 (f + 1) T (iI (n : Int)) (iI (k : Int)) (iI (j : Int)) = f_X8_turns_100 FU (sI (sI T 43 k (iI (o j : Int))) 43 j (iI (o k : Int))) (iI ((k + 1 : Nat) : Int)) (iI (n : Int) - 1) := by
    intro j f h1 h2 h3
    have oj := (hT j h2).1
    rw [f_X8_turns_41, hT.r h2 hn rfl, Option.bind_some, hT.r hk hn rfl, Option.bind_some, i_le rfl rfl (by omega) (by omega), if_pos (by omega), Option.bind_some, Option.bind_some, wI_ok (k := 43) (n := k) rfl rfl (by rw [al43]; omega) (by omega), Option.bind_some, wI_ok (k := 43) (n := j) rfl rfl (by rw [al43]; omega) (by omega), Option.bind_some, i_next]
  intro j
  induction j with
  | zero =>
    intro f h1 h2 h3
    obtain ⟨f, rfl⟩ : ∃ f', f = f' + 1 := ⟨f - 1, by omega⟩
    have : k = 0 := by omega
    refine ⟨⟨by omega, Nat.le_refl _⟩, ?_⟩
    exact stop 0 f h1 h2 (by rw [this]; exact Nat.le_refl _)
  | succ j ih =>
    intro f h1 h2 h3
    obtain ⟨f, rfl⟩ : ∃ f', f = f' + 1 := ⟨f - 1, by omega⟩
    have e : pjV o k (j + 1) = if o k ≤ o (j + 1) then j + 1 else pjV o k j := rfl
    have oj := (hT (j + 1) h2).1
    rw [e]
    by_cases h : o k ≤ o (j + 1)
    · rw [if_pos h]
      exact ⟨⟨h1, Nat.le_refl _⟩, stop (j + 1) f h1 h2 h⟩
    · rw [if_neg h]
      have hkj : k ≠ j + 1 := fun q => h (by rw [q]; exact Nat.le_refl _)
      obtain ⟨i1, i2⟩ := ih f (by omega) (by omega) (by omega)
      refine ⟨by omega, ?_⟩
      rw [← i2, f_X8_turns_41, hT.r h2 hn rfl, Option.bind_some, hT.r hk hn rfl, Option.bind_some, i_le rfl rfl (by omega) (by omega), if_neg (by omega), i_prev]
def OL (T : ST) (p : List Nat) : Prop := ∀ i, i < p.length → p.getD i 0 < 6 ∧ T.1 43 i = iI (p.getD i 0 : Int)
theorem gd_map {f : Nat → Nat} {n i : Nat} (h : i < n) : ((List.range n).map f).getD i 0 = f i := by
  simp [List.getD, h]
theorem m_turns {T : ST} {p : List Nat} (hp : 1 ≤ p.length ∧ p.length ≤ 6) (hT : OL T p) : (nxL p = none → f_X8_turns T (iI (p.length : Int)) = some (0, T)) ∧ (∀ q, nxL p = some q → ∃ T', f_X8_turns T (iI (p.length : Int)) = some (1, T') ∧ OL T' q ∧ F43 T T') := by
  have hO : OO T (fun i => p.getD i 0) p.length := hT
  have e4 := t4 hO hp.2 (p.length - 1) FU (by omega) (by show p.length - 1 < 20000; omega)
  have e0 : f_X8_turns T (iI (p.length : Int)) = f_X8_turns_31 T (iI (p.length : Int)) (iI ((pkV (fun i => p.getD i 0) (p.length - 1) : Int) - 1)) := by
    unfold f_X8_turns
    rw [show (2 : Int32) = iI 2 from rfl, iI_sub, show (p.length : Int) - 2 = ((p.length - 1 : Nat) : Int) - 1 by omega]
    exact e4
  have kl := pkV_le (fun i => p.getD i 0) (p.length - 1)
  rw [e0]
  unfold f_X8_turns_31 nxL nxO
  rw [i_le (x := 0) (a := 0) rfl rfl (by omega) (by omega)]
  generalize hc : pkV (fun i => p.getD i 0) (p.length - 1) = c at *
  constructor
  · intro h
    by_cases h0 : c = 0
    · rw [if_neg (by omega)]
    · rw [if_neg h0] at h
      cases h
  · intro q h
    by_cases h0 : c = 0
    · rw [if_pos h0] at h
      cases h
    · rw [if_neg h0] at h
      injection h with h
      rw [if_pos (by omega), show (c : Int) - 1 = ((c - 1 : Nat) : Int) by omega, show iI (p.length : Int) - 1 = iI ((p.length - 1 : Nat) : Int) by rw [show (1 : Int32) = iI 1 from rfl, iI_sub]; congr 1; omega]
      obtain ⟨j1, j2⟩ := t41 hO hp.2 (k := c - 1) (by omega) (p.length - 1) FU (by omega) (by omega) (by show p.length - 1 < 20000; omega)
      obtain ⟨T', r1, r2, r3⟩ := t100 hp.2 6 (c - 1 + 1) (p.length - 1) FU _ _ (hO.sw (a := c - 1) (b := pjV (fun i => p.getD i 0) (c - 1) (p.length - 1)) (by omega) (by omega)) (by omega) (by omega) (by omega) (by show 6 < 20000; omega)
      refine ⟨T', ?_, ?_, (F43.s.tr F43.s).tr r3⟩
      · rw [j2, show iI (p.length : Int) - 1 = iI ((p.length - 1 : Nat) : Int) by rw [show (1 : Int32) = iI 1 from rfl, iI_sub]; congr 1; omega]
        exact r1
      · rw [← h]
        intro i hi
        rw [List.length_map, List.length_range] at hi
        rw [gd_map hi]
        have := r2 i hi
        rw [show c - 1 + 1 = c by omega] at this
        exact this
