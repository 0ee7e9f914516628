/-! ===== the search, by rows ===== -/
/-- whether by rule she may pass a mile at a minute at a pace -/
def KK (A : PT) (br dr wi du ne : Int) (m t p : Nat) : Bool := decide (ne ≤ uV A br dr wi du m (tideV (ht A) (se A 0) (t : Int)) (p : Int))
theorem KK_mono {A : PT} (hV : PV A) {br dr wi du ne : Int} (h : TV br dr wi du ne) : KM (KK A br dr wi du ne) (mi A) := by
  intro m hm t htt p p' h1 h2 h3 hk
  have ta := tide_arith hV.2.2.1 hV.2.2.2.1.1 (m := (t : Int)) (by omega)
  have a1 := of_decide_eq_true hk
  have a2 := uV_p hV hm h (T := tideV (ht A) (se A 0) (t : Int)) (p := (p : Int)) (p' := (p' : Int)) (by omega) (by omega)
  exact decide_eq_true (by omega)
def GA (S : ST) (M : Nat) (K : Nat → Nat → Nat → Bool) : Prop := ∀ m, m < M → GG S m (fun l s => s < 2400 ∧ K m s (pcV l) = true)
theorem mkGA {S : ST} {A : PT} (hV : PV A) {br dr wi du ne : Int} (hF : FL S A) (hE : ∀ m, m < mi A → ∀ l, l < 11 → EN S A br dr wi du ne m l) : GA S (mi A) (KK A br dr wi du ne) := by
  intro m hm l hl
  obtain ⟨e, e1, e2, e3⟩ := hE m hm l hl
  refine ⟨e, e1, e2, fun s hs => ?_⟩
  constructor
  · rintro ⟨h1, h2⟩
    have ta := tide_arith hV.2.2.1 hV.2.2.2.1.1 (m := (s : Int)) (by omega)
    obtain ⟨T, hT, hTe⟩ : ∃ T : Nat, T < 100 ∧ tideV (ht A) (se A 0) (s : Int) = (T : Int) := ⟨(tideV (ht A) (se A 0) (s : Int)).toNat, by omega, by omega⟩
    have a1 := of_decide_eq_true h2
    rw [hTe] at a1
    have a2 := (e3 T hT).mpr a1
    refine ⟨by omega, ?_⟩
    rw [hF e (by omega) s hs]
    exact decide_eq_true ⟨h1, by omega⟩
  · rintro ⟨h1, h2⟩
    rw [hF e h1 s hs] at h2
    have h3 := of_decide_eq_true h2
    have ta := tide_arith hV.2.2.1 hV.2.2.2.1.1 (m := (s : Int)) (by omega)
    obtain ⟨T, hT, hTe⟩ : ∃ T : Nat, T < 100 ∧ tideV (ht A) (se A 0) (s : Int) = (T : Int) := ⟨(tideV (ht A) (se A 0) (s : Int)).toNat, by omega, by omega⟩
    refine ⟨h3.1, decide_eq_true ?_⟩
    rw [hTe]
    exact (e3 T hT).mp (by omega)
def FrW (S S' : ST) : Prop := S'.1 = S.1 ∧ ∀ q, (q < 150 ∨ 167 ≤ q) → S'.2 q = S.2 q
theorem FrW.rf {S : ST} : FrW S S := ⟨rfl, fun _ _ => rfl⟩
theorem FrW.tr {S S1 S2 : ST} (h : FrW S S1) (g : FrW S1 S2) : FrW S S2 := ⟨g.1.trans h.1, fun q hq => (g.2 q hq).trans (h.2 q hq)⟩
theorem FrL.fw {S S' : ST} {m : Nat} (hm : m < 17) (g : FrL (150 + m) S S') : FrW S S' := ⟨g.1, fun q hq => g.2 q (by omega)⟩
theorem FrR.fw {S S' : ST} {c : Nat} (hc : c ≤ 17) (g : FrR c S S') : FrW S S' := ⟨g.1, fun q hq => g.2 q (by omega)⟩
theorem GA.fw {S S' : ST} {M : Nat} {K : Nat → Nat → Nat → Bool} (h : GA S M K) (g : FrW S S') : GA S' M K := fun m hm => (h m hm).cg (by rw [g.1]) (fun q _ h2 => g.2 q (by omega))
theorem q29 {S0 : ST} {A : PT} (hV : PV A) {K : Nat → Nat → Nat → Bool} (hK : KM K (mi A)) {a : Nat} (ha : a < 1440) : ∀ (k j n : Nat) (S : ST), RC S A → GA S (mi A) K → j + k = mi A → k < n → (∀ t, t < 2432 → (bt S (150 + j) t = true ↔ Arr K j 0 a t)) → ∃ S' r, f_X2_quickest_29 n S (iI (a : Int)) (iI (mi A : Int)) (iI (j : Int)) = some (r, S') ∧ FrW S S' ∧ r = (if lfV K (mi A) 0 a < 100000 then iI (lfV K (mi A) 0 a : Int) else -4) := by
  have h16 := hV.1.1
  intro k
  induction k with
  | zero =>
    intro j n S hR hG hj hn hS
    obtain ⟨n, rfl⟩ : ∃ n', n = n' + 1 := ⟨n - 1, by omega⟩
    have ej : j = mi A := by omega
    subst ej
    rw [f_X2_quickest_29, i_le (x := iI (mi A : Int)) (y := iI (mi A : Int)) rfl rfl (by omega) (by omega), if_pos (by omega), rR (h := mi A) (by omega) rfl, Option.bind_some]
    have sp := lf_spec (K := K) (mi A) 0 a
    rcases e_firstFrom (S := S) (k := 150 + mi A) (n := 38) (a := a) (alR (mi A) (by omega)) (by omega) (by omega) (by omega) with ⟨e, q1, q2, q3, q4, q5⟩ | ⟨q1, q2⟩
    · have hA := (hS e (by omega)).mp q3
      have hmin := sp.1 e hA
      have hr := Arr_rg _ _ _ _ hA
      have hA2 := sp.2.1 (by omega)
      have he : a + lfV K (mi A) 0 a = e := by
        apply Classical.byContradiction
        intro hc
        have := q4 (a + lfV K (mi A) 0 a) (by omega) (by omega)
        rw [(hS _ (by omega)).mpr hA2] at this
        cases this
      rw [q5, Option.bind_some, if_neg (fun q => by have := (c_eq (y := -4) (b := -4) rfl rfl (by omega) (by omega)).mp q; omega)]
      refine ⟨S, _, rfl, FrW.rf, ?_⟩
      rw [if_pos (by omega), iI_sub]
      congr 1
      omega
    · rw [q2, Option.bind_some, if_pos rfl]
      refine ⟨S, -4, rfl, FrW.rf, ?_⟩
      rw [if_neg]
      intro hl
      have hA2 := sp.2.1 hl
      have hr := Arr_rg _ _ _ _ hA2
      have := q1 (a + lfV K (mi A) 0 a) (by omega) (by omega)
      rw [(hS _ (by omega)).mpr hA2] at this
      cases this
  | succ k ih =>
    intro j n S hR hG hj hn hS
    obtain ⟨n, rfl⟩ : ∃ n', n = n' + 1 := ⟨n - 1, by omega⟩
    obtain ⟨S1, e1, o1, b1⟩ := e_goOn (m := j) (by omega) (hG j (by omega))
    have w1 : FrW S S1 := FrL.fw (m := j + 1) (by omega) (by rw [show 150 + (j + 1) = 151 + j by omega]; exact o1)
    obtain ⟨S', r, e2, o2, g2⟩ := ih (j + 1) n S1 (hR.c1 o1.1) (hG.fw w1) (by omega) (by omega) (fun t ht => by
      rw [show 150 + (j + 1) = 151 + j by omega, b1 t ht, Arr_snoc j 0 a t]
      constructor
      · rintro ⟨l, s, q1, q2, q3, q4, q5⟩
        have htk := tk_rg l q1
        have hpc := pc_rg l q1
        exact ⟨s, pcV l, by omega, (hS s (by omega)).mp q3, by rw [Nat.zero_add]; exact q5, by rw [← hpc.2.2]; exact q2⟩
      · rintro ⟨s, p, hp, h1, h2, h3⟩
        have hr := Arr_rg _ _ _ _ h1
        have h6 := t60 p hp.2 hp.1
        rw [Nat.zero_add] at h2
        obtain ⟨l, l1, l2, l3⟩ := (K_row hK (m := j) (t := s) (by omega) (by omega) (P := fun d => t = s + d)).mp ⟨p, hp, h2, h3⟩
        exact ⟨l, s, l1, l3, (hS s (by omega)).mpr h1, by omega, l2⟩)
    refine ⟨S', r, ?_, w1.tr o2, g2⟩
    rw [f_X2_quickest_29, i_le (x := iI (mi A : Int)) (y := iI (j : Int)) rfl rfl (by omega) (by omega), if_neg (by omega), e1, Option.bind_some, i_next, e2]
theorem e_quickest {S : ST} {A : PT} (hV : PV A) (hR : RC S A) {K : Nat → Nat → Nat → Bool} (hK : KM K (mi A)) (hG : GA S (mi A) K) {a : Nat} (ha : a < 1440) : ∃ S' r, f_X2_quickest S (iI (a : Int)) = some (r, S') ∧ FrW S S' ∧ r = (if lfV K (mi A) 0 a < 100000 then iI (lfV K (mi A) 0 a : Int) else -4) := by
  have h16 := hV.1.1
  obtain ⟨S1, e1, o1, b1⟩ := e_wipe (S := S) (alR 0 (by omega)) (by omega) (by omega)
  obtain ⟨S2, e2, o2, b2'⟩ := e_putBit (S := S1) (alR 0 (by omega)) (by omega) (by omega) (a := a) (by omega) rfl
  have w1 : FrW S S2 := (FrL.fw (m := 0) (by omega) o1).tr (FrL.fw (m := 0) (by omega) o2)
  obtain ⟨S', r, e3, o3, g3⟩ := q29 (S0 := S) hV hK ha (mi A) 0 FU S2 (hR.c1 w1.1) (hG.fw w1) (by omega) (by show mi A < 20000; omega) (fun t ht => by
    rw [b2' t, b1 t (by omega), Bool.false_or, decide_eq_true_iff]
    exact ⟨fun q => q.symm, fun q => Eq.symm q⟩)
  refine ⟨S', r, ?_, w1.tr o3, g3⟩
  unfold f_X2_quickest
  rw [rR (h := 0) (x := 0) (by omega) rfl, Option.bind_some, e1, Option.bind_some, Option.bind_some, e2, Option.bind_some, hR.1.1]
  exact e3
/-! the first quickest plan -/
theorem sl_go {S : ST} {A : PT} (hV : PV A) {K : Nat → Nat → Nat → Bool} (hG : GA S (mi A) K) {m t : Nat} (hm : m < mi A) (ht : t < 2400) {P : Nat → Prop} (hP : ∀ l, l < 11 → (t + tkV l < 2432 ∧ bt S (151 + m) (t + tkV l) = true ↔ P (tkV l))) : ∀ (k i n : Nat), i + k = 11 → k < n → (∃ l, i ≤ l ∧ l < 11 ∧ K m t (pcV l) = true ∧ P (tkV l)) → ∃ l, (i ≤ l ∧ l < 11) ∧ (K m t (pcV l) = true ∧ P (tkV l)) ∧ (∀ q, i ≤ q → q < l → ¬ (K m t (pcV q) = true ∧ P (tkV q))) ∧ f_X2_slowest_2 S n (iI (m : Int)) (iI (t : Int)) (iI (i : Int)) = some (iI (pcV l : Int)) := by
  have h16 := hV.1.1
  intro k
  induction k with
  | zero =>
    intro i n hi hn hex
    obtain ⟨l, h1, h2, -⟩ := hex
    omega
  | succ k ih =>
    intro i n hi hn hex
    obtain ⟨n, rfl⟩ : ∃ n', n = n' + 1 := ⟨n - 1, by omega⟩
    obtain ⟨e, e1, e2, e3⟩ := hG m hm i (by omega)
    have htk := tk_rg i (by omega)
    have e4 : K m t (pcV i) = true ↔ e < 100 ∧ bt S (50 + e) t = true := by
      rw [← e3 t (by omega)]
      exact ⟨fun q => ⟨ht, q⟩, fun q => q.2⟩
    have step : f_X2_slowest_2 S (n + 1) (iI (m : Int)) (iI (t : Int)) (iI (i : Int)) = if (e < 100 ∧ bt S (50 + e) t = true) ∧ (t + tkV i < 2432 ∧ bt S (151 + m) (t + tkV i) = true) then some (iI (pcV i : Int)) else f_X2_slowest_2 S n (iI (m : Int)) (iI (t : Int)) (iI ((i + 1 : Nat) : Int)) := by
      rw [f_X2_slowest_2, i_le (x := 11) (a := 11) (b := (i : Int)) rfl rfl (by omega) (by omega), if_neg (by omega), r_en (by omega) (by omega) e2, Option.bind_some, i_le (x := 100) (a := 100) (b := (e : Int)) rfl rfl (by omega) (by omega)]
      unfold f_X2_slowest_73
      rw [i_next]
      by_cases h100 : (100 : Int) ≤ (e : Int)
      · rw [if_pos h100, if_neg (fun q => by omega)]
      · rw [if_neg h100, rF (h := e) (by omega) rfl, Option.bind_some, gt01 (e_hasBit (alF e (by omega)) (by omega) (by omega) (a := (t : Int)) rfl (by omega))]
        by_cases hb : bt S (50 + e) t = true
        · rw [if_pos ⟨by omega, hb⟩, i_next, rR (h := m + 1) (by omega) rfl, Option.bind_some, r_tk rfl (by omega), Option.bind_some, iI_add, show 150 + (m + 1) = 151 + m by omega, gt01 (e_hasBit (n := 38) (by rw [show 151 + m = 150 + (m + 1) by omega, alR (m + 1) (by omega)]) (by omega) (by omega) (a := (t : Int) + (tkV i : Int)) rfl (by omega)), r_pc rfl (by omega), Option.bind_some]
          have et : ((t : Int) + (tkV i : Int)).toNat = t + tkV i := by omega
          rw [et]
          by_cases hb2 : t + tkV i < 2432 ∧ bt S (151 + m) (t + tkV i) = true
          · rw [if_pos ⟨by omega, hb2.2⟩, if_pos ⟨⟨by omega, hb⟩, hb2⟩]
          · rw [if_neg (fun q => hb2 ⟨by omega, q.2⟩), if_neg (fun q => hb2 q.2)]
        · rw [if_neg (fun q => hb q.2), if_neg (fun q => hb q.1.2)]
    rw [step]
    by_cases hc : (e < 100 ∧ bt S (50 + e) t = true) ∧ (t + tkV i < 2432 ∧ bt S (151 + m) (t + tkV i) = true)
    · rw [if_pos hc]
      exact ⟨i, ⟨Nat.le_refl i, by omega⟩, ⟨e4.mpr hc.1, (hP i (by omega)).mp hc.2⟩, fun q h1 h2 => by omega, rfl⟩
    · rw [if_neg hc]
      have hni : ¬ (K m t (pcV i) = true ∧ P (tkV i)) := fun q => hc ⟨e4.mp q.1, (hP i (by omega)).mpr q.2⟩
      obtain ⟨l, l1, l2, l3, l4⟩ := hex
      obtain ⟨r, r1, r2, r3, r4⟩ := ih (i + 1) n (by omega) (by omega) ⟨l, by
        by_cases hl : l = i
        · subst hl; exact absurd ⟨l3, l4⟩ hni
        · omega, l2, l3, l4⟩
      refine ⟨r, by omega, r2, fun q h1 h2 => ?_, r4⟩
      by_cases hq : q = i
      · rw [hq]; exact hni
      · exact r3 q (by omega) h2
theorem e_slowest {S : ST} {A : PT} (hV : PV A) {K : Nat → Nat → Nat → Bool} (hK : KM K (mi A)) (hG : GA S (mi A) K) {m t e k : Nat} (hm : m < mi A) (he : e < 2400) (hb : ∀ s, s < 2432 → (bt S (151 + m) s = true ↔ Arr K k (m + 1) s e)) (hA : Arr K (k + 1) m t e) : ∃ p, IsL K k m t e p ∧ f_X2_slowest S (iI (m : Int)) (iI (t : Int)) = some (iI (p : Int)) := by
  have hr := Arr_rg _ _ _ _ hA
  have ht : t < 2396 := by omega
  have hrow := K_row hK (m := m) (t := t) hm (by omega) (P := fun d => Arr K k (m + 1) (t + d) e)
  obtain ⟨l, l1, l2, l3⟩ := hrow.mp hA
  obtain ⟨r, r1, r2, r3, r4⟩ := sl_go hV hG hm (by omega) (P := fun d => Arr K k (m + 1) (t + d) e) (fun l hl => ⟨fun q => (hb _ q.1).mp q.2, fun q => by
    have hq := Arr_rg _ _ _ _ q
    exact ⟨by omega, (hb _ (by omega)).mpr q⟩⟩) 11 0 FU rfl (by show 11 < 20000; omega) ⟨l, Nat.zero_le l, l1, l2, l3⟩
  have hpc := pc_rg r r1.2
  refine ⟨pcV r, ⟨by omega, ⟨r2.1, by rw [← hpc.2.2]; exact r2.2⟩, fun q q1 q2 q3 => ?_⟩, r4⟩
  obtain ⟨i, i1, i2, i3⟩ := pc_all q (by omega) q1
  have hi : i < r := by
    apply Classical.byContradiction
    intro hc
    have := pc_le r r1.2 i i1 (by omega)
    omega
  exact r3 i (Nat.zero_le i) hi ⟨hK m hm t (by omega) (pcV i) q (pc_rg i i1).1 i2 (by omega) q3.1, by rw [i3]; exact q3.2⟩
