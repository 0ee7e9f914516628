/-! ===== the first quickest plan; from when she may start ===== -/
theorem by_step {K : Nat → Nat → Nat → Bool} {k m t : Nat} (h : lfV K (k + 1) m t < 100000) : (1 ≤ byV K k m t ∧ byV K k m t < 16) ∧ lfV K (k + 1) m t = 60 / byV K k m t + lfV K k (m + 1) (t + 60 / byV K k m t) := by
  have e0 : lfV K (k + 1) m t = (bfV (ownV K k m t) 15).1 := rfl
  obtain ⟨i1, i2, i3⟩ := bf_spec (ownV K k m t) 15
  rw [e0] at h ⊢
  unfold byV
  rcases i3 with i3 | ⟨j1, j2, j3, j4, -⟩
  · omega
  · generalize hp : (bfV (ownV K k m t) 15).2 = p at j1 j2 j3
    have hk : K m t p = true := by
      apply Classical.byContradiction
      intro hc
      unfold ownV at j3 j4
      rw [if_neg hc] at j3
      omega
    have e1 : ownV K k m t p = 60 / p + lfV K k (m + 1) (t + 60 / p) := if_pos hk
    exact ⟨by omega, by omega⟩
/-- along the first quickest plan: the pace of the k-th mile from here -/
def pth (K : Nat → Nat → Nat → Bool) (M : Nat) : Nat → Nat → Nat → Nat
  | 0, j, t => byV K (M - j - 1) j t
  | k + 1, j, t => pth K M k (j + 1) (t + 60 / byV K (M - j - 1) j t)
theorem minBy {x : Int32} {p : Nat} (hx : x = iI (p : Int)) (hp : 1 ≤ p ∧ p < 16) : f_X7_minutesBy x = some (iI ((60 / p : Nat) : Int)) := by
  unfold f_X7_minutesBy
  refine bd (e_max (x := 1) (a := 1) rfl hx (by omega) (by omega)) ?_
  rw [Int.max_eq_right (by omega)]
  refine bd (dv_ok (a := 60) (b := (p : Int)) rfl rfl (by omega) (by omega) (by omega)) ?_
  rw [Int.tdiv_eq_ediv_of_nonneg (by omega)]
  rfl
theorem fp_go {S : ST} {A : PT} (hV : PV A) (hR : RC S A) {K : Nat → Nat → Nat → Bool} (hK : KM K (mi A)) (hG : GA S (mi A) K) {e u : Nat} (he : e < 2400) (hu : u < mi A) (hb : ∀ m, m ≤ mi A → ∀ s, s < 2432 → (bt S (150 + m) s = true ↔ Arr K (mi A - m) m s e)) : ∀ (k j n t : Nat) (x : Int32), j + k = u → k + 1 < n → lfV K (mi A - j) j t < 100000 → e = t + lfV K (mi A - j) j t → f_X2_firstPace_47 n S (iI (u : Int)) (iI (t : Int)) x (iI (j : Int)) = some (iI (pth K (mi A) k j t : Int), S) := by
  have h16 := hV.1.1
  have step : ∀ (j n t : Nat) (x : Int32), j ≤ u → lfV K (mi A - j) j t < 100000 → e = t + lfV K (mi A - j) j t → (1 ≤ byV K (mi A - j - 1) j t ∧ byV K (mi A - j - 1) j t < 16) ∧ e = t + 60 / byV K (mi A - j - 1) j t + lfV K (mi A - (j + 1)) (j + 1) (t + 60 / byV K (mi A - j - 1) j t) ∧ lfV K (mi A - (j + 1)) (j + 1) (t + 60 / byV K (mi A - j - 1) j t) < 100000 ∧ f_X2_firstPace_47 (n + 1) S (iI (u : Int)) (iI (t : Int)) x (iI (j : Int)) = f_X2_firstPace_47 n S (iI (u : Int)) (iI ((t + 60 / byV K (mi A - j - 1) j t : Nat) : Int)) (iI (byV K (mi A - j - 1) j t : Int)) (iI ((j + 1 : Nat) : Int)) := by
    intro j n t x hj hl het
    have ek : mi A - j = (mi A - j - 1) + 1 := by omega
    rw [ek] at hl het
    have hA := (lf_spec (K := K) _ j t).2.1 hl
    rw [← het] at hA
    obtain ⟨p, hp, ep⟩ := e_slowest hV hK hG (m := j) (t := t) (e := e) (k := mi A - j - 1) (by omega) he (fun s hs => by
      have := hb (j + 1) (by omega) s hs
      rw [show 150 + (j + 1) = 151 + j by omega, show mi A - (j + 1) = mi A - j - 1 by omega] at this
      exact this) hA
    have hby := by_isL hl
    rw [← het] at hby
    have epb := isL_one hp hby
    rw [epb] at ep
    obtain ⟨s1, s2⟩ := by_step hl
    have t6 := t60 _ s1.2 s1.1
    rw [show mi A - (j + 1) = mi A - j - 1 by omega]
    refine ⟨s1, by omega, by omega, ?_⟩
    have hr := Arr_rg _ _ _ _ hA
    rw [f_X2_firstPace_47, i_lt (x := iI (u : Int)) (y := iI (j : Int)) rfl rfl (by omega) (by omega), if_neg (by omega), hR.1.1, i_le (x := iI (mi A : Int)) (y := iI (j : Int)) rfl rfl (by omega) (by omega), if_neg (by omega), ep, Option.bind_some, minBy rfl s1, Option.bind_some, i_next, iI_add]
    rfl
  intro k
  induction k with
  | zero =>
    intro j n t x hj hn hl het
    obtain ⟨n, rfl⟩ : ∃ n', n = n' + 2 := ⟨n - 2, by omega⟩
    obtain ⟨-, -, -, s4⟩ := step j (n + 1) t x (by omega) hl het
    rw [s4, f_X2_firstPace_47, i_lt (x := iI (u : Int)) (y := iI ((j + 1 : Nat) : Int)) rfl rfl (by omega) (by omega), if_pos (by omega)]
    rfl
  | succ k ih =>
    intro j n t x hj hn hl het
    obtain ⟨n, rfl⟩ : ∃ n', n = n' + 1 := ⟨n - 1, by omega⟩
    obtain ⟨-, s2, s3, s4⟩ := step j n t x (by omega) hl het
    rw [s4]
    exact ih (j + 1) n _ _ (by omega) (by omega) s3 s2
theorem e_goBack {S : ST} {A : PT} (hV : PV A) (hR : RC S A) {K : Nat → Nat → Nat → Bool} (hG : GA S (mi A) K) : ∃ S', f_X2_goBack S = some S' ∧ FrW S S' ∧ (∀ q, 150 + mi A ≤ q → S'.2 q = S.2 q) ∧ ∀ m, m < mi A → ∀ t, t < 2432 → (bt S' (150 + m) t = true ↔ ∃ l, l < 11 ∧ (t < 2400 ∧ K m t (pcV l) = true) ∧ t + tkV l < 2432 ∧ bt S' (151 + m) (t + tkV l) = true) := by
  have h16 := hV.1.1
  obtain ⟨S', e, o, g⟩ := back_go (mi A) FU S (by omega) (by show mi A < 20000; omega) hG
  refine ⟨S', ?_, o.fw (by omega), fun q hq => o.2 q (Or.inr hq), g⟩
  unfold f_X2_goBack
  rw [hR.1.1, show iI (mi A : Int) - 1 = iI ((mi A : Int) - 1) by rw [show (1 : Int32) = iI 1 from rfl, iI_sub], e]
theorem e_firstPace {S : ST} {A : PT} (hV : PV A) (hR : RC S A) {K : Nat → Nat → Nat → Bool} (hK : KM K (mi A)) (hG : GA S (mi A) K) {a u : Nat} (ha : a < 1440) (hu : u < mi A) (hl : lfV K (mi A) 0 a < 100000) : ∃ S', f_X2_firstPace S (iI (a : Int)) (iI (lfV K (mi A) 0 a : Int)) (iI (u : Int)) = some (iI (pth K (mi A) u 0 a : Int), S') ∧ FrW S S' := by
  have h16 := hV.1.1
  generalize he : a + lfV K (mi A) 0 a = e
  have hA := (lf_spec (K := K) (mi A) 0 a).2.1 hl
  have hr := Arr_rg _ _ _ _ hA
  have he2 : e < 2400 := by omega
  obtain ⟨S1, e1, o1, b1⟩ := e_wipe (S := S) (alR (mi A) (by omega)) (by omega) (by omega)
  obtain ⟨S2, e2, o2, b2'⟩ := e_putBit (S := S1) (alR (mi A) (by omega)) (by omega) (by omega) (a := e) (by omega) rfl
  have w1 : FrW S S2 := (FrL.fw (m := mi A) (by omega) o1).tr (FrL.fw (m := mi A) (by omega) o2)
  obtain ⟨S3, e3, o3, l3, g3⟩ := e_goBack hV (hR.c1 w1.1) (hG.fw w1)
  have rows : ∀ d m, m + d = mi A → ∀ s, s < 2432 → (bt S3 (150 + m) s = true ↔ Arr K d m s e) := by
    intro d
    induction d with
    | zero =>
      intro m hm s hs
      have : m = mi A := by omega
      subst this
      rw [bt_cg (l3 _ (Nat.le_refl _)), b2' s, b1 s (by omega), Bool.false_or, decide_eq_true_iff]
      exact Iff.rfl
    | succ d ih =>
      intro m hm s hs
      rw [g3 m (by omega) s hs]
      constructor
      · rintro ⟨l, q1, q2, q3, q4⟩
        rw [show 151 + m = 150 + (m + 1) by omega] at q4
        have q5 := (ih (m + 1) (by omega) _ q3).mp q4
        exact (K_row hK (m := m) (t := s) (by omega) q2.1 (P := fun x => Arr K d (m + 1) (s + x) e)).mpr ⟨l, q1, q2.2, q5⟩
      · intro q
        have hq := Arr_rg _ _ _ _ q
        obtain ⟨l, l1, l2, l3'⟩ := (K_row hK (m := m) (t := s) (by omega) (by omega) (P := fun x => Arr K d (m + 1) (s + x) e)).mp q
        have hq2 := Arr_rg _ _ _ _ l3'
        exact ⟨l, l1, ⟨by omega, l2⟩, by omega, by rw [show 151 + m = 150 + (m + 1) by omega]; exact (ih (m + 1) (by omega) _ (by omega)).mpr l3'⟩
  have w3 := w1.tr o3
  refine ⟨S3, ?_, w3⟩
  unfold f_X2_firstPace
  rw [hR.1.1, rR (h := mi A) (by omega) rfl, Option.bind_some, e1, Option.bind_some, o1.1, hR.1.1, rR (h := mi A) (by omega) rfl, Option.bind_some, iI_add, show (a : Int) + (lfV K (mi A) 0 a : Int) = (e : Int) by omega, e2, Option.bind_some, e3, Option.bind_some]
  exact fp_go hV (hR.c1 w3.1) hK (hG.fw w3) he2 hu (fun m hm s hs => rows (mi A - m) m (by omega) s hs) u 0 FU a (-4) (by omega) (by show u + 1 < 20000; omega) hl he.symm
/-! starts -/
theorem ones_go {S0 : ST} {A : PT} (hV : PV A) (y : Nat) : ∀ (k w n : Nat) (S : ST), RC S A → w + k = 38 → k < n → ∃ S', f_X2_findStarts_2 n S y (iI (w : Int)) = ((f_X2_goBack S').bind fun S1 => f_X2_findStarts_37 FU S1 y 0) ∧ FrL (150 + mi A) S S' ∧ (∀ j, j < w → S'.2 (150 + mi A) j = S.2 (150 + mi A) j) ∧ ∀ j, w ≤ j → j < 38 → S'.2 (150 + mi A) j = -1 := by
  have h16 := hV.1.1
  intro k
  induction k with
  | zero =>
    intro w n S hR hw hn
    obtain ⟨n, rfl⟩ : ∃ n', n = n' + 1 := ⟨n - 1, by omega⟩
    rw [f_X2_findStarts_2, i_le (x := 38) (a := 38) (b := (w : Int)) rfl rfl (by omega) (by omega), if_pos (by omega)]
    exact ⟨S, rfl, FrL.rf, fun _ _ => rfl, fun j h1 h2 => by omega⟩
  | succ k ih =>
    intro w n S hR hw hn
    obtain ⟨n, rfl⟩ : ∃ n', n = n' + 1 := ⟨n - 1, by omega⟩
    obtain ⟨S', e, o, g1, g2⟩ := ih (w + 1) n (sL S (150 + mi A) w (-1)) (hR.c1 rfl) (by omega) (by omega)
    refine ⟨S', ?_, FrL.sL.tr o, fun j hj => by rw [g1 j (by omega), sL_nj (by omega)], fun j h1 h2 => ?_⟩
    · rw [f_X2_findStarts_2, i_le (x := 38) (a := 38) (b := (w : Int)) rfl rfl (by omega) (by omega), if_neg (by omega), hR.1.1, rR (h := mi A) (by omega) rfl, Option.bind_some, wL_ok (n := w) rfl (by rw [alR (mi A) (by omega)]; omega) (by omega), Option.bind_some, i_next, e]
    · by_cases hj : j = w
      · rw [g1 j (by omega), hj, sL_eq]
      · exact g2 j (by omega) h2
theorem day_bit : ∀ i, i < 64 → (4294967295 : Int64).toBitVec.getLsbD i = decide (i < 32) := by decide +kernel
theorem put_go {s : Nat} (hs : s < 6) : ∀ (k w n : Nat) (S : ST), w + k = 23 → k < n → ∃ S', f_X2_findStarts_37 n S (167 + s) (iI (w : Int)) = some S' ∧ FrL (167 + s) S S' ∧ (∀ j, j < w → S'.2 (167 + s) j = S.2 (167 + s) j) ∧ ∀ t, 64 * w ≤ t → t < 1472 → bt S' (167 + s) t = (bt S 150 t && decide (t < 1440)) := by
  intro k
  induction k with
  | zero =>
    intro w n S hw hn
    obtain ⟨n, rfl⟩ : ∃ n', n = n' + 1 := ⟨n - 1, by omega⟩
    rw [f_X2_findStarts_37, lA3 (alS s hs) (by omega), Option.bind_some, i_le (x := iI ((23 : Nat) : Int)) (y := iI (w : Int)) rfl rfl (by omega) (by omega), if_pos (by omega)]
    exact ⟨S, rfl, FrL.rf, fun _ _ => rfl, fun t h1 h2 => by omega⟩
  | succ k ih =>
    intro w n S hw hn
    obtain ⟨n, rfl⟩ : ∃ n', n = n' + 1 := ⟨n - 1, by omega⟩
    have go : ∀ y : Int64, (∀ i, i < 64 → y.toBitVec.getLsbD i = decide (64 * w + i < 1440)) → f_X2_findStarts_37 (n + 1) S (167 + s) (iI (w : Int)) = f_X2_findStarts_64 (f_X2_findStarts_37 n) S (167 + s) (iI (w : Int)) y → ∃ S', f_X2_findStarts_37 (n + 1) S (167 + s) (iI (w : Int)) = some S' ∧ FrL (167 + s) S S' ∧ (∀ j, j < w → S'.2 (167 + s) j = S.2 (167 + s) j) ∧ ∀ t, 64 * w ≤ t → t < 1472 → bt S' (167 + s) t = (bt S 150 t && decide (t < 1440)) := by
      intro y hy ey
      obtain ⟨S', e, o, g1, g2⟩ := ih (w + 1) n (sL S (167 + s) w (S.2 150 w &&& y)) (by omega) (by omega)
      refine ⟨S', ?_, FrL.sL.tr o, fun j hj => by rw [g1 j (by omega), sL_nj (by omega)], fun t h1 h2 => ?_⟩
      · rw [ey, f_X2_findStarts_64, rR (h := 0) (x := 0) (by omega) rfl, Option.bind_some, rL_ok (n := w) rfl (by rw [alR 0 (by omega)]; omega) (by omega), Option.bind_some, wL_ok (n := w) rfl (by rw [alS s hs]; omega) (by omega), Option.bind_some, i_next, e]
      · by_cases ht : t < 64 * (w + 1)
        · obtain ⟨b, hb, rfl⟩ : ∃ b, b < 64 ∧ t = 64 * w + b := ⟨t - 64 * w, by omega, by omega⟩
          rw [btw hb, g1 w (by omega), sL_eq, Int64.toBitVec_and, BitVec.getLsbD_and, hy b hb, btw hb]
        · rw [g2 t (by omega) h2, bt_cg (FrL.sL.2 150 (by omega))]
    by_cases h22 : (22 : Int) ≤ (w : Int)
    · refine go 4294967295 (fun i hi => ?_) ?_
      · rw [day_bit i hi]
        exact decide_eq_decide.mpr ⟨fun q => by omega, fun q => by omega⟩
      · rw [f_X2_findStarts_37, lA3 (alS s hs) (by omega), Option.bind_some, i_le (x := iI ((23 : Nat) : Int)) (y := iI (w : Int)) rfl rfl (by omega) (by omega), if_neg (by omega), i_le (x := 38) (a := 38) (b := (w : Int)) rfl rfl (by omega) (by omega), if_neg (by omega), i_le (x := 22) (a := 22) (b := (w : Int)) rfl rfl (by omega) (by omega), if_pos h22]
    · refine go (-1) (fun i hi => ?_) ?_
      · rw [m1_bit i hi, decide_eq_true (by omega)]
      · rw [f_X2_findStarts_37, lA3 (alS s hs) (by omega), Option.bind_some, i_le (x := iI ((23 : Nat) : Int)) (y := iI (w : Int)) rfl rfl (by omega) (by omega), if_neg (by omega), i_le (x := 38) (a := 38) (b := (w : Int)) rfl rfl (by omega) (by omega), if_neg (by omega), i_le (x := 22) (a := 22) (b := (w : Int)) rfl rfl (by omega) (by omega), if_neg h22]
def FrS (S S' : ST) : Prop := S'.1 = S.1 ∧ ∀ q, (q < 150 ∨ 173 ≤ q) → S'.2 q = S.2 q
theorem e_findStarts {S : ST} {A : PT} (hV : PV A) (hR : RC S A) {K : Nat → Nat → Nat → Bool} (hK : KM K (mi A)) (hG : GA S (mi A) K) {s : Nat} (hs : s < 6) : ∃ S', f_X2_findStarts S (167 + s) = some S' ∧ S'.1 = S.1 ∧ (∀ q, (q < 150 ∨ (167 ≤ q ∧ q ≠ 167 + s)) → S'.2 q = S.2 q) ∧ ∀ t, t < 1472 → (bt S' (167 + s) t = true ↔ t < 1440 ∧ lfV K (mi A) 0 t < 100000) := by
  have h16 := hV.1.1
  obtain ⟨S1, e1, o1, -, b1⟩ := ones_go (S0 := S) hV (167 + s) 38 0 FU S hR rfl (by show 38 < 20000; omega)
  have w1 : FrW S S1 := FrL.fw (by omega) o1
  obtain ⟨S2, e2, o2, l2, g2⟩ := e_goBack hV (hR.c1 w1.1) (hG.fw w1)
  obtain ⟨S3, e3, o3, -, g3⟩ := put_go hs 23 0 FU S2 rfl (by show 23 < 20000; omega)
  have rows : ∀ d m, m + d = mi A → ∀ t, t < 1440 + 60 * m → (bt S2 (150 + m) t = true ↔ ∃ e, Arr K d m t e) := by
    intro d
    induction d with
    | zero =>
      intro m hm t ht
      have : m = mi A := by omega
      subst this
      have hb : bt S2 (150 + mi A) t = true := by
        rw [bt_cg (l2 _ (Nat.le_refl _))]
        unfold bt
        rw [b1 (t / 64) (by omega) (by omega)]
        exact m1_bit _ (by omega)
      exact ⟨fun _ => ⟨t, rfl⟩, fun _ => hb⟩
    | succ d ih =>
      intro m hm t ht
      rw [g2 m (by omega) t (by omega)]
      constructor
      · rintro ⟨l, q1, q2, q3, q4⟩
        have htk := tk_rg l q1
        rw [show 151 + m = 150 + (m + 1) by omega] at q4
        obtain ⟨e, q5⟩ := (ih (m + 1) (by omega) _ (by omega)).mp q4
        exact ⟨e, (K_row hK (m := m) (t := t) (by omega) q2.1 (P := fun x => Arr K d (m + 1) (t + x) e)).mpr ⟨l, q1, q2.2, q5⟩⟩
      · rintro ⟨e, q⟩
        obtain ⟨l, l1, l2', l3'⟩ := (K_row hK (m := m) (t := t) (by omega) (by omega) (P := fun x => Arr K d (m + 1) (t + x) e)).mp q
        have htk := tk_rg l l1
        exact ⟨l, l1, ⟨by omega, l2'⟩, by omega, by rw [show 151 + m = 150 + (m + 1) by omega]; exact (ih (m + 1) (by omega) _ (by omega)).mpr ⟨e, l3'⟩⟩
  refine ⟨S3, ?_, by rw [o3.1, o2.1, w1.1], fun q hq => by rw [o3.2 q (by omega), o2.2 q (by omega), w1.2 q (by omega)], fun t ht => ?_⟩
  · unfold f_X2_findStarts
    rw [show f_X2_findStarts_2 FU S (167 + s) 0 = _ from e1, e2, Option.bind_some]
    exact e3
  · rw [g3 t (by omega) ht, Bool.and_eq_true, decide_eq_true_iff]
    constructor
    · rintro ⟨q1, q2⟩
      exact ⟨q2, (lf_ex (by omega)).mp ((rows (mi A) 0 (by omega) t (by omega)).mp q1)⟩
    · rintro ⟨q1, q2⟩
      exact ⟨(rows (mi A) 0 (by omega) t (by omega)).mpr ((lf_ex (by omega)).mpr q2), q1⟩
