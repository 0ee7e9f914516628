/-! ===== the two tapes, step by step ===== -/
theorem e_isDigit {x : Int32} {a : Int} (hx : x = iI a) (ha : Rg a) : f_X4_isDigit x = some (if 48 ≤ a ∧ a ≤ 57 then 1 else 0) := by
  unfold f_X4_isDigit
  refine bd (e_within (b := 48) (c := 57) hx rfl rfl ha (by omega) (by omega)) ?_
  rw [bz01, Option.bind_some]
theorem m_dig {x : Int32} {a : Int} (hx : x = iI a) (ha : Rg a) : f_X8_in x.toInt64 48 57 = some (if 48 ≤ a ∧ a ≤ 57 then 1 else 0) :=
  e_in (b := 48) (c := 57) (l_toInt hx ha) rfl rfl
/-- all but where the code reads and its fault -/
def FA (S S' : ST) : Prop := (∀ a, a ≠ 22 → S'.1 a = S.1 a) ∧ (∀ i, i ≠ 3 → i ≠ 4 → S'.1 22 i = S.1 22 i) ∧ S'.2 = S.2
def FB (S S' : ST) : Prop := (∀ a, a ≠ 30 → S'.1 a = S.1 a) ∧ (∀ i, i ≠ 8 → i ≠ 9 → S'.1 30 i = S.1 30 i) ∧ S'.2 = S.2
theorem FA.rf {S : ST} : FA S S := ⟨fun _ _ => rfl, fun _ _ _ => rfl, rfl⟩
theorem FB.rf {S : ST} : FB S S := ⟨fun _ _ => rfl, fun _ _ _ => rfl, rfl⟩
theorem FA.tr {S S1 S2 : ST} (h : FA S S1) (g : FA S1 S2) : FA S S2 := ⟨fun a ha => (g.1 a ha).trans (h.1 a ha), fun i hi hj => (g.2.1 i hi hj).trans (h.2.1 i hi hj), g.2.2.trans h.2.2⟩
theorem FB.tr {S S1 S2 : ST} (h : FB S S1) (g : FB S1 S2) : FB S S2 := ⟨fun a ha => (g.1 a ha).trans (h.1 a ha), fun i hi hj => (g.2.1 i hi hj).trans (h.2.1 i hi hj), g.2.2.trans h.2.2⟩
theorem OnlyA.fa {S S' : ST} (h : OnlyA S S') : FA S S' := ⟨h.1, fun i hi _ => h.2.1 i hi, h.2.2⟩
theorem OnlyB.fb {S S' : ST} (h : OnlyB S S') : FB S S' := ⟨h.1, fun i hi _ => h.2.1 i hi, h.2.2⟩
theorem FA.s4 {S : ST} {x : Int32} : FA S (sI S 22 4 x) := ⟨fun _ ha => sI_o ha, fun _ _ hi => sI_nj hi, rfl⟩
theorem FB.s9 {S : ST} {x : Int32} : FB S (sI S 30 9 x) := ⟨fun _ ha => sI_o ha, fun _ _ hi => sI_nj hi, rfl⟩
theorem FB.s8 {S : ST} {x : Int32} : FB S (sI S 30 8 x) := OnlyB.sI.fb
theorem Tc.s4 {S : ST} {t p : Nat} {c : Nat → Int} {x : Int32} (h : Tc S t c p) : Tc (sI S 22 4 x) t c p := ⟨by rw [sI_nj (by decide)]; exact h.1, by rw [sI_nj (by decide)]; exact h.2.1, h.2.2.1, fun i hi => by rw [sI_ne (by decide)]; exact h.2.2.2 i hi⟩
theorem Tm.s9 {S : ST} {t p : Nat} {c : Nat → Int} {x : Int32} (h : Tm S t c p) : Tm (sI S 30 9 x) t c p := ⟨by rw [sI_nj (by decide)]; exact h.1, by rw [sI_nj (by decide)]; exact h.2.1, h.2.2.1, fun i hi => by rw [sI_ne (by decide)]; exact h.2.2.2 i hi⟩
theorem Tm.s8 {S : ST} {t p q : Nat} {c : Nat → Int} (h : Tm S t c p) (hq : q ≤ t) : Tm (sI S 30 8 (iI (q : Int))) t c q := ⟨by rw [sI_nj (by decide)]; exact h.1, sI_eq, hq, fun i hi => by rw [sI_ne (by decide)]; exact h.2.2.2 i hi⟩
/-- how far both are: a place, or a place with a fault -/
def Cs (t : Nat) (c : Nat → Int) (S : ST) (s : Nat × Bool) : Prop := ∃ q, Tc S t c q ∧ s.1 ≤ t ∧ ((s.2 = false ∧ S.1 22 4 = 0 ∧ q = s.1) ∨ (s.2 = true ∧ S.1 22 4 = iI (-20 - (s.1 : Int))))
def Ms (t : Nat) (c : Nat → Int) (T : ST) (s : Nat × Bool) : Prop := Tm T t c s.1 ∧ ((s.2 = false ∧ T.1 30 9 = 0) ∨ (s.2 = true ∧ T.1 30 9 = 1))
def TSt (t : Nat) (c : Nat → Int) (f g : ST → Option (Int32 × ST)) (s s' : Nat × Bool) (v : Int) : Prop :=
  (s.2 = true → s' = s) ∧
  (∀ S, Cs t c S s → ∃ S' w, f S = some (w, S') ∧ FA S S' ∧ Cs t c S' s' ∧ (s'.2 = false → w = iI v)) ∧
  (∀ T, Ms t c T s → ∃ T' w, g T = some (w, T') ∧ FB T T' ∧ Ms t c T' s' ∧ (s'.2 = false → w = iI v))
def Bas (t : Nat) (c : Nat → Int) (P : Int → Prop) (f g : ST → Option (Int32 × ST)) : Prop := ∀ q, q ≤ t →
  (∃ (q0 q' : Nat) (w : Int) (ok : Bool), q0 ≤ t ∧ q' ≤ t ∧ (ok = true → P w) ∧
    (∀ S, Tc S t c q → ∃ S', OnlyA S S' ∧ Tc S' t c q' ∧ ((ok = true ∧ f S = some (iI w, S')) ∨ (ok = false ∧ ∃ w', f S = (f_X4_fail S' (iI (q0 : Int))).bind fun S1 => some (w', S1)))) ∧
    (∀ T, Tm T t c q → T.1 30 9 = 0 → ∃ T', FB T T' ∧ ((ok = true ∧ g T = some (iI w, T') ∧ Tm T' t c q' ∧ T'.1 30 9 = 0) ∨ (ok = false ∧ ∃ w', g T = some (w', T') ∧ Tm T' t c q0 ∧ T'.1 30 9 = 1)))) ∧
  ∀ T, Tm T t c q → T.1 30 9 = 1 → ∃ T' w', g T = some (w', T') ∧ FB T T' ∧ Tm T' t c q ∧ T'.1 30 9 = 1
theorem lift {t : Nat} {c : Nat → Int} (hC : CT t c) {P : Int → Prop} {f g : ST → Option (Int32 × ST)} (hB : Bas t c P f g) (s : Nat × Bool) (hs : s.1 ≤ t) : ∃ s' v, TSt t c f g s s' v ∧ s'.1 ≤ t ∧ (s'.2 = false → P v) := by
  have h100 := hC.1
  obtain ⟨p, b⟩ := s
  have hp : p ≤ t := hs
  cases b with
  | false =>
    obtain ⟨⟨q0, q', w, ok, k0, k1, k2, k3, k4⟩, -⟩ := hB p hp
    refine ⟨if ok then (q', false) else (q0, true), w, ⟨(fun h => by cases h), fun S hS => ?_, fun T hT => ?_⟩, ?_, fun h => ?_⟩
    · obtain ⟨q, g1, -, g2⟩ := hS
      rcases g2 with ⟨-, g3, g4⟩ | ⟨g3, -⟩
      · have g5 : q = p := g4
        subst g5
        obtain ⟨S', o, e, r⟩ := k3 S g1
        have z : S'.1 22 4 = 0 := by rw [o.2.1 4 (by decide)]; exact g3
        rcases r with ⟨rfl, r⟩ | ⟨rfl, w', r⟩
        · exact ⟨S', _, r, o.fa, ⟨q', e, k1, Or.inl ⟨rfl, z, rfl⟩⟩, fun _ => rfl⟩
        · refine ⟨sI S' 22 4 ((-20) - iI (q0 : Int)), w', ?_, o.fa.tr FA.s4, ⟨q', e.s4, k0, Or.inr ⟨rfl, ?_⟩⟩, fun h => by cases h⟩
          · rw [r, f_X4_fail, if_pos z, Option.bind_some]
          · rw [sI_eq, show (-20 : Int32) = iI (-20) from rfl, iI_sub]; rfl
      · cases g3
    · obtain ⟨g1, g2⟩ := hT
      rcases g2 with ⟨-, g3⟩ | ⟨g3, -⟩
      · obtain ⟨T', o, r⟩ := k4 T g1 g3
        rcases r with ⟨rfl, r, e, z⟩ | ⟨rfl, w', r, e, z⟩
        · exact ⟨T', _, r, o, ⟨e, Or.inl ⟨rfl, z⟩⟩, fun _ => rfl⟩
        · exact ⟨T', w', r, o, ⟨e, Or.inr ⟨rfl, z⟩⟩, fun h => by cases h⟩
      · cases g3
    · cases ok
      · exact k0
      · exact k1
    · cases ok
      · cases h
      · exact k2 rfl
  | true =>
    refine ⟨(p, true), 0, ⟨fun _ => rfl, fun S hS => ?_, fun T hT => ?_⟩, hp, fun h => by cases h⟩
    · obtain ⟨q, g1, -, g2⟩ := hS
      rcases g2 with ⟨g3, -⟩ | ⟨-, g3⟩
      · cases g3
      · obtain ⟨⟨q0, q', w, ok, k0, k1, k2, k3, -⟩, -⟩ := hB q g1.2.2.1
        obtain ⟨S', o, e, r⟩ := k3 S g1
        have z : S'.1 22 4 = iI (-20 - (p : Int)) := by rw [o.2.1 4 (by decide)]; exact g3
        rcases r with ⟨rfl, r⟩ | ⟨rfl, w', r⟩
        · exact ⟨S', _, r, o.fa, ⟨q', e, hp, Or.inr ⟨rfl, z⟩⟩, fun h => by cases h⟩
        · refine ⟨S', w', ?_, o.fa, ⟨q', e, hp, Or.inr ⟨rfl, z⟩⟩, fun h => by cases h⟩
          rw [r, f_X4_fail, if_neg (by rw [z]; exact iI_ne0 (by omega) (by omega)), Option.bind_some]
    · obtain ⟨g1, g2⟩ := hT
      rcases g2 with ⟨g3, -⟩ | ⟨-, g3⟩
      · cases g3
      · obtain ⟨-, k⟩ := hB p hp
        obtain ⟨T', w', r, o, e, z⟩ := k T g1 g3
        exact ⟨T', w', r, o, ⟨e, Or.inr ⟨rfl, z⟩⟩, fun h => by cases h⟩
/-- a sign that may be there -/
theorem takes_at {t : Nat} {c : Nat → Int} (hC : CT t c) {x : Int32} {k : Int} (hx : x = iI k) (hk : 33 ≤ k ∧ k ≤ 126) (q : Nat) (hq : q ≤ t) : ∃ (q' : Nat) (v : Int), q' ≤ t ∧ (v = 0 ∨ v = 1) ∧ (∀ S, Tc S t c q → ∃ S', f_X4_takes S x = some (iI v, S') ∧ OnlyA S S' ∧ Tc S' t c q') ∧ ∀ T, Tm T t c q → T.1 30 9 = 0 → ∃ T', f_X8_has T x = some (iI v, T') ∧ FB T T' ∧ Tm T' t c q' ∧ T'.1 30 9 = 0 := by
  have h100 := hC.1
  obtain ⟨p', g1, g2, g3, g4, g5⟩ := skips hC FU q (by show t < q + 20000; omega) hq
  refine ⟨if p' < t ∧ c p' = k then p' + 1 else p', if p' < t ∧ c p' = k then 1 else 0, by split <;> omega, by split <;> simp, fun S hS => ?_, fun T hT hz => ?_⟩
  · obtain ⟨S1, e, o, s⟩ := g4 S hS
    have e0 : f_X4_takes S x = if p' < t ∧ c p' = k then some (1, sI S1 22 3 (iI ((p' + 1 : Nat) : Int))) else some (0, S1) := by
      unfold f_X4_takes f_X4_skipBlanks
      rw [e, Option.bind_some, s.1, s.2.1, i_le (x := iI (t : Int)) (y := iI (p' : Int)) rfl rfl (by omega) (by omega)]
      by_cases h : (t : Int) ≤ (p' : Int)
      · rw [if_pos h, if_neg (by omega)]
      · have hc := hC.2 p' (by omega)
        rw [if_neg h, r_c hC s (by omega), Option.bind_some, i_eq (x := iI (c p')) rfl hx (by omega) (by omega), i_next]
        by_cases h2 : c p' = k
        · rw [if_pos h2, if_pos ⟨by omega, h2⟩]
        · rw [if_neg h2, if_neg (fun q => h2 q.2)]
    rw [e0]
    by_cases h : p' < t ∧ c p' = k
    · rw [if_pos h, if_pos h, if_pos h]
      exact ⟨_, rfl, o.tr OnlyA.sI, s.next h.1⟩
    · rw [if_neg h, if_neg h, if_neg h]
      exact ⟨_, rfl, o, s⟩
  · obtain ⟨T1, e, o, s⟩ := g5 T hT
    have z1 : T1.1 30 9 = 0 := by rw [o.2.1 9 (by decide)]; exact hz
    have e0 : f_X8_has T x = if p' < t ∧ c p' = k then some (1, sI T1 30 8 (iI ((p' + 1 : Nat) : Int))) else some (0, sI T1 30 8 (iI (p' : Int))) := by
      have a1 : f_X8_has_20 T1 1 = some (1, sI T1 30 8 (iI ((p' + 1 : Nat) : Int))) := by
        unfold f_X8_has_20 f_X8_has_35
        rw [if_neg (by decide), bz_1, Option.bind_some, s.2.1, i_next]
      have a0 : f_X8_has_19 T1 = some (0, sI T1 30 8 (iI (p' : Int))) := by
        unfold f_X8_has_19 f_X8_has_20 f_X8_has_35
        rw [if_pos rfl, bz_0, Option.bind_some, s.2.1, show iI (p' : Int) + 0 = iI (p' : Int) by rw [show (0 : Int32) = iI 0 from rfl, iI_add, Int.add_zero]]
      unfold f_X8_has f_X8_here
      rw [if_pos hz, e]
      show (if iI (if p' < t then c p' else 0) = x then f_X8_has_20 T1 1 else f_X8_has_19 T1) = _
      rw [a1, a0]
      have hc : Rg (if p' < t then c p' else 0) := by
        split
        · have := hC.2 p' (by omega); omega
        · omega
      rw [i_eq (x := iI (if p' < t then c p' else 0)) rfl hx hc (by omega)]
      by_cases h : p' < t
      · rw [if_pos h]
        by_cases h2 : c p' = k
        · rw [if_pos h2, if_pos ⟨h, h2⟩]
        · rw [if_neg h2, if_neg (fun q => h2 q.2)]
      · rw [if_neg h, if_neg (by omega), if_neg (fun q => h q.1)]
    rw [e0]
    by_cases h : p' < t ∧ c p' = k
    · rw [if_pos h, if_pos h, if_pos h]
      exact ⟨_, rfl, o.fb.tr FB.s8, s.next h.1, by rw [sI_nj (by decide)]; exact z1⟩
    · rw [if_neg h, if_neg h, if_neg h]
      exact ⟨_, rfl, o.fb.tr FB.s8, s.s8 g2, by rw [sI_nj (by decide)]; exact z1⟩
theorem has_bad {t q : Nat} {c : Nat → Int} {T : ST} {x : Int32} (hT : Tm T t c q) (hz : T.1 30 9 = 1) : f_X8_has T x = some (0, sI T 30 8 (iI (q : Int))) := by
  unfold f_X8_has f_X8_has_19 f_X8_has_20 f_X8_has_35
  rw [if_neg (by rw [hz]; decide), if_pos rfl, bz_0, Option.bind_some, hT.2.1, show iI (q : Int) + 0 = iI (q : Int) by rw [show (0 : Int32) = iI 0 from rfl, iI_add, Int.add_zero]]
theorem b_takes {t : Nat} {c : Nat → Int} (hC : CT t c) {x : Int32} {k : Int} (hx : x = iI k) (hk : 33 ≤ k ∧ k ≤ 126) : Bas t c (fun v => v = 0 ∨ v = 1) (fun S => f_X4_takes S x) (fun T => f_X8_has T x) := by
  intro q hq
  obtain ⟨q', v, g1, g2, g3, g4⟩ := takes_at hC hx hk q hq
  refine ⟨⟨q, q', v, true, hq, g1, fun _ => g2, fun S hS => ?_, fun T hT hz => ?_⟩, fun T hT hz => ?_⟩
  · obtain ⟨S', e, o, s⟩ := g3 S hS
    exact ⟨S', o, s, Or.inl ⟨rfl, e⟩⟩
  · obtain ⟨T', e, o, s, z⟩ := g4 T hT hz
    exact ⟨T', o, Or.inl ⟨rfl, e, s, z⟩⟩
  · exact ⟨_, 0, has_bad hT hz, FB.s8, hT.s8 hq, by rw [sI_nj (by decide)]; exact hz⟩
/-- a sign that must be there -/
def exC (x : Int32) (S : ST) : Option (Int32 × ST) := (f_X4_expect S x).bind fun S' => some (0, S')
def exM (x : Int32) (T : ST) : Option (Int32 × ST) := b2 (f_X8_has T x) fun v T2 => some (0, sI T2 30 9 (if v = 0 then 1 else 0))
def exN (x : Int32) (T : ST) : Option (Int32 × ST) := if T.1 30 9 = 0 then exM x T else some (0, sI T 30 9 1)
theorem b_expect {t : Nat} {c : Nat → Int} (hC : CT t c) {x : Int32} {k : Int} (hx : x = iI k) (hk : 33 ≤ k ∧ k ≤ 126) : Bas t c (fun _ => True) (exC x) (exM x) := by
  intro q hq
  obtain ⟨q', v, g1, g2, g3, g4⟩ := takes_at hC hx hk q hq
  have h0 : (iI v = 0) ↔ v = 0 := c_eq (b := 0) rfl rfl (by omega) (by omega)
  refine ⟨⟨q', q', 0, decide (v = 1), g1, g1, fun _ => trivial, fun S hS => ?_, fun T hT hz => ?_⟩, fun T hT hz => ?_⟩
  · obtain ⟨S', e, o, s⟩ := g3 S hS
    refine ⟨S', o, s, ?_⟩
    have e5 : exC x S = if iI v = 0 then (f_X4_fail S' (iI (q' : Int))).bind fun S1 => some (0, S1) else some (0, S') := by
      unfold exC f_X4_expect
      rw [e, ← s.2.1]
      show Option.bind (if iI v = 0 then (f_X4_fail S' (S'.1 22 3)).bind fun S3 => some S3 else some S') _ = _
      by_cases h : iI v = 0
      · rw [if_pos h, if_pos h]
        cases f_X4_fail S' (S'.1 22 3) with
        | none => rfl
        | some q => rfl
      · rw [if_neg h, if_neg h]; rfl
    rw [e5]
    rcases g2 with rfl | rfl
    · rw [if_pos (h0.mpr rfl)]
      exact Or.inr ⟨by decide, 0, rfl⟩
    · rw [if_neg (fun q => absurd (h0.mp q) (by decide))]
      exact Or.inl ⟨by decide, rfl⟩
  · obtain ⟨T', e, o, s, z⟩ := g4 T hT hz
    unfold exM
    rw [e]
    show ∃ T2, _ ∧ ((_ ∧ some (0, sI T' 30 9 (if iI v = 0 then 1 else 0)) = _ ∧ _ ∧ _) ∨ (_ ∧ ∃ w', some (0, sI T' 30 9 (if iI v = 0 then 1 else 0)) = _ ∧ _ ∧ _))
    rcases g2 with rfl | rfl
    · rw [if_pos (h0.mpr rfl)]
      exact ⟨_, o.tr FB.s9, Or.inr ⟨by decide, 0, rfl, s.s9, sI_eq⟩⟩
    · rw [if_neg (fun q => absurd (h0.mp q) (by decide))]
      exact ⟨_, o.tr FB.s9, Or.inl ⟨by decide, rfl, s.s9, sI_eq⟩⟩
  · unfold exM
    rw [has_bad hT hz]
    exact ⟨_, 0, rfl, FB.s8.tr FB.s9, (hT.s8 hq).s9, sI_eq⟩
theorem b_expectN {t : Nat} {c : Nat → Int} (hC : CT t c) {x : Int32} {k : Int} (hx : x = iI k) (hk : 33 ≤ k ∧ k ≤ 126) : Bas t c (fun _ => True) (exC x) (exN x) := by
  intro q hq
  obtain ⟨⟨q0, q', w, ok, k0, k1, k2, k3, k4⟩, -⟩ := b_expect hC hx hk q hq
  refine ⟨⟨q0, q', w, ok, k0, k1, k2, k3, fun T hT hz => ?_⟩, fun T hT hz => ?_⟩
  · unfold exN
    rw [if_pos hz]
    exact k4 T hT hz
  · unfold exN
    rw [if_neg (by rw [hz]; decide)]
    exact ⟨_, 0, rfl, FB.s9, hT.s9, sI_eq⟩
/-- nothing is wanted -/
def noM (T : ST) : Option (Int32 × ST) := if T.1 30 9 = 0 then some (0, sI T 30 9 0) else some (0, sI T 30 9 1)
theorem b_no {t : Nat} {c : Nat → Int} : Bas t c (fun _ => True) (fun S => some (0, S)) noM := by
  intro q hq
  refine ⟨⟨q, q, 0, true, hq, hq, fun _ => trivial, fun S hS => ⟨S, OnlyA.rf, hS, Or.inl ⟨rfl, rfl⟩⟩, fun T hT hz => ?_⟩, fun T hT hz => ?_⟩
  · unfold noM
    rw [if_pos hz]
    exact ⟨_, FB.s9, Or.inl ⟨rfl, rfl, hT.s9, sI_eq⟩⟩
  · unfold noM
    rw [if_neg (by rw [hz]; decide)]
    exact ⟨_, 0, rfl, FB.s9, hT.s9, sI_eq⟩
/-- the end of the text -/
def enC (S : ST) : Option (Int32 × ST) := (f_X4_skipBlanks S).bind fun S1 => if (S1.1 22 2) ≤ (S1.1 22 3) then some (0, S1) else (f_X4_fail S1 (S1.1 22 3)).bind fun S2 => some (0, S2)
def enM (T : ST) : Option (Int32 × ST) := if T.1 30 9 = 0 then b2 (f_X8_here T) fun v T2 => some (0, sI T2 30 9 (if v = 0 then 0 else 1)) else some (0, sI T 30 9 1)
theorem b_end {t : Nat} {c : Nat → Int} (hC : CT t c) : Bas t c (fun _ => True) enC enM := by
  have h100 := hC.1
  intro q hq
  obtain ⟨p, g1, g2, g3, g4, g5⟩ := skips hC FU q (by show t < q + 20000; omega) hq
  refine ⟨⟨p, p, 0, decide (p = t), g2, g2, fun _ => trivial, fun S hS => ?_, fun T hT hz => ?_⟩, fun T hT hz => ?_⟩
  · obtain ⟨S1, e1, o1, s1⟩ := g4 S hS
    refine ⟨S1, o1, s1, ?_⟩
    unfold enC f_X4_skipBlanks
    rw [e1, Option.bind_some, s1.1, s1.2.1, i_le (x := iI (t : Int)) (y := iI (p : Int)) rfl rfl (by omega) (by omega)]
    by_cases h : (t : Int) ≤ (p : Int)
    · rw [if_pos h]
      exact Or.inl ⟨decide_eq_true (by omega), rfl⟩
    · rw [if_neg h]
      exact Or.inr ⟨decide_eq_false (by omega), 0, rfl⟩
  · obtain ⟨T1, e1, o1, s1⟩ := g5 T hT
    unfold enM f_X8_here
    rw [if_pos hz, e1]
    show ∃ T2, _ ∧ ((_ ∧ some (0, sI T1 30 9 (if iI (if p < t then c p else 0) = 0 then 0 else 1)) = _ ∧ _ ∧ _) ∨ (_ ∧ ∃ w', some (0, sI T1 30 9 (if iI (if p < t then c p else 0) = 0 then 0 else 1)) = _ ∧ _ ∧ _))
    by_cases h : p < t
    · have hc := hC.2 p h
      rw [if_pos h, if_neg (iI_ne0 (by omega) (by omega))]
      exact ⟨_, o1.fb.tr FB.s9, Or.inr ⟨decide_eq_false (by omega), 0, rfl, s1.s9, sI_eq⟩⟩
    · rw [if_neg h, if_pos (show iI 0 = 0 from rfl)]
      exact ⟨_, o1.fb.tr FB.s9, Or.inl ⟨decide_eq_true (by omega), rfl, s1.s9, sI_eq⟩⟩
  · unfold enM
    rw [if_neg (by rw [hz]; decide)]
    exact ⟨_, 0, rfl, FB.s9, hT.s9, sI_eq⟩
