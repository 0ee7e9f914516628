/-! ===== the reference's startsOf ===== -/
theorem al39 : al 2 39 = 1440 := by decide
theorem al40 : al 2 40 = 1440 := by decide
theorem nar_z {v : Int32} (h : v = 0 ∨ v = 1) : vp_nar .boolean v = v := by
  rcases h with h | h <;> subst h <;> decide
theorem wZ_ok {S : ST} {k : Nat} {x v : Int32} {n : Nat} (hx : x = iI (n : Int)) (h : n < al 2 k) (hs : n < 2147483648) (hv : v = 0 ∨ v = 1) : wZ S k x v = some (sI S k n v) := by
  subst hx
  rw [wZ, iI_nat, nI_clamp hs, if_pos ⟨nI_pos' hs, h⟩, nar_z hv]
def F90 (S S' : ST) : Prop := (∀ q, q ≠ 39 → q ≠ 40 → S'.1 q = S.1 q) ∧ S'.2 = S.2
theorem F90.rf {S : ST} : F90 S S := ⟨fun _ _ _ => rfl, rfl⟩
theorem F90.tr {S S1 S2 : ST} (h : F90 S S1) (g : F90 S1 S2) : F90 S S2 := ⟨fun q h1 h2 => (g.1 q h1 h2).trans (h.1 q h1 h2), g.2.trans h.2⟩
theorem F90.s39 {S : ST} {j : Nat} {x : Int32} : F90 S (sI S 39 j x) := ⟨fun _ h1 _ => sI_o h1, rfl⟩
theorem F90.s40 {S : ST} {j : Nat} {x : Int32} : F90 S (sI S 40 j x) := ⟨fun _ _ h2 => sI_o h2, rfl⟩
theorem F90.rm {S S' : ST} {A : PT} (h : F90 S S') (hM : RM S A) : RM S' A := hM.of (by rw [h.1 30 (by decide) (by decide)]) (by rw [h.1 30 (by decide) (by decide)]) (h.1 32 (by decide) (by decide)) (h.1 33 (by decide) (by decide)) (h.1 31 (by decide) (by decide)) (h.1 34 (by decide) (by decide))
theorem tide_per (f : Nat → Int) (late : Int) (t : Nat) : tideV f late ((t + 1440 : Nat) : Int) = tideV f late (t : Int) := by
  unfold tideV
  rw [show (((t + 1440 : Nat) : Int) - late) % 1440 = ((t : Int) - late) % 1440 by omega]
theorem Arr_per {K : Nat → Nat → Nat → Bool} (hK : ∀ m t p, K m (t + 1440) p = K m t p) : ∀ (k m t : Nat), (∃ e, Arr K k m (t + 1440) e) ↔ ∃ e, Arr K k m t e := by
  intro k
  induction k with
  | zero => intro m t; exact ⟨fun _ => ⟨_, rfl⟩, fun _ => ⟨_, rfl⟩⟩
  | succ k ih =>
    intro m t
    constructor
    · rintro ⟨e, p, hp, h1, h2⟩
      rw [hK] at h1
      obtain ⟨e', h3⟩ := (ih (m + 1) (t + 60 / p)).mp ⟨e, by rw [show t + 60 / p + 1440 = t + 1440 + 60 / p by omega]; exact h2⟩
      exact ⟨e', p, hp, h1, h3⟩
    · rintro ⟨e, p, hp, h1, h2⟩
      obtain ⟨e', h3⟩ := (ih (m + 1) (t + 60 / p)).mpr ⟨e, h2⟩
      exact ⟨e', p, hp, by rw [hK]; exact h1, by rw [show t + 1440 + 60 / p = t + 60 / p + 1440 by omega]; exact h3⟩
theorem KK_per {A : PT} {br dr wi du ne : Int} (m t p : Nat) : KK A br dr wi du ne m (t + 1440) p = KK A br dr wi du ne m t p := by
  unfold KK
  rw [tide_per]
theorem Arr_mod {A : PT} {br dr wi du ne : Int} {k m t : Nat} (ht : t < 2880) : (∃ e, Arr (KK A br dr wi du ne) k m (t % 1440) e) ↔ ∃ e, Arr (KK A br dr wi du ne) k m t e := by
  by_cases h : t < 1440
  · rw [Nat.mod_eq_of_lt h]
  · have e : t = t % 1440 + 1440 := by omega
    have := Arr_per (K := KK A br dr wi du ne) KK_per k m (t % 1440)
    rw [← e] at this
    exact this.symm
section RS
variable {A : PT} {s : Nat}
theorem a96 (hV : PV A) (hs : s < nsh A) (k35 : ST → Int32 → Int32 → Int32 → Option ST) (k73 : ST → Int32 → Int32 → Int32 → Int32 → Option ST) {m t k : Nat} (hm : m < mi A) (htt : t < 1440) (hk16 : k ≤ 16) {S : ST} (hM : RM S A) (hrow : ∀ u, u < 1440 → S.1 40 u = if lfV (KS A s) k (m + 1) u < 100000 then 1 else 0) : ∀ (c q n : Nat), 1 ≤ q → q + c = 16 → c < n → ∃ z : Int32, (z = 0 ∨ z = 1) ∧ (z = 1 ↔ ∃ p, (q ≤ p ∧ p < 16) ∧ KS A s m t p = true ∧ ∃ e, Arr (KS A s) k (m + 1) (t + 60 / p) e) ∧ f_X8_startsOf_96 k35 k73 n S (iI (s : Int)) (iI (needV (se A 3) (se A 4) (hu A (3 * s)))) (iI (m : Int)) (iI (t : Int)) (iI (levV A m (tideV (ht A) (se A 0) (t : Int)) (se A 1))) 0 (iI (q : Int)) = f_X8_startsOf_155 k35 k73 S (iI (s : Int)) (iI (needV (se A 3) (se A 4) (hu A (3 * s)))) (iI (m : Int)) (iI (t : Int)) z := by
  have h16 := hV.1.1
  have tv := TVs hV hs
  have ta := tide_arith hV.2.2.1 hV.2.2.2.1.1 (m := (t : Int)) (by omega)
  have lv := levV_rg hV hm (tide := tideV (ht A) (se A 0) (t : Int)) (wind := se A 1) (by omega) hV.2.2.2.1.2.1
  intro c
  induction c with
  | zero =>
    intro q n hq1 hq hn
    obtain ⟨n, rfl⟩ : ∃ n', n = n' + 1 := ⟨n - 1, by omega⟩
    refine ⟨0, Or.inl rfl, ⟨fun z => absurd z (by decide), fun ⟨p, h1, _⟩ => by omega⟩, ?_⟩
    rw [f_X8_startsOf_96, i_le (x := 16) (a := 16) (b := (q : Int)) rfl rfl (by omega) (by omega), if_pos (by omega)]
  | succ c ih =>
    intro q n hq1 hq hn
    obtain ⟨n, rfl⟩ : ∃ n', n = n' + 1 := ⟨n - 1, by omega⟩
    have t6 := t60 q (by omega) hq1
    have sk := sinkV_rg hV hm (p := (q : Int)) (br := hu A (3 * s + 1)) (dr := hu A (3 * s)) (lv := levV A m (tideV (ht A) (se A 0) (t : Int)) (se A 1)) (by omega) tv.1 tv.2.1 (by omega)
    have rs := restV_rg hV hm (br := hu A (3 * s + 1)) (dr := hu A (3 * s)) (wi := se A 1) (lv := levV A m (tideV (ht A) (se A 0) (t : Int)) (se A 1)) tv.1 tv.2.1 tv.2.2.1 (by omega)
    have nr := tv.2.2.2.2
    have eu : uV A (hu A (3 * s + 1)) (hu A (3 * s)) (se A 1) (-1) m (tideV (ht A) (se A 0) (t : Int)) (q : Int) = undV A m (hu A (3 * s + 1)) (hu A (3 * s)) (se A 1) (q : Int) (levV A m (tideV (ht A) (se A 0) (t : Int)) (se A 1)) := by
      unfold uV
      rw [if_neg (by omega), Int.add_zero]
    have ek : KS A s m t q = true ↔ needV (se A 3) (se A 4) (hu A (3 * s)) ≤ undV A m (hu A (3 * s + 1)) (hu A (3 * s)) (se A 1) (q : Int) (levV A m (tideV (ht A) (se A 0) (t : Int)) (se A 1)) := by
      rw [← eu]
      exact decide_eq_true_iff
    obtain ⟨z, z1, z2, z3⟩ := ih (q + 1) n (by omega) (by omega) (by omega)
    have skip : (¬ (KS A s m t q = true ∧ ∃ e, Arr (KS A s) k (m + 1) (t + 60 / q) e)) → (z = 1 ↔ ∃ p, (q ≤ p ∧ p < 16) ∧ KS A s m t p = true ∧ ∃ e, Arr (KS A s) k (m + 1) (t + 60 / p) e) := by
      intro hno
      rw [z2]
      constructor
      · rintro ⟨p, h1, h2⟩
        exact ⟨p, by omega, h2⟩
      · rintro ⟨p, h1, h2⟩
        by_cases hp : p = q
        · subst hp; exact absurd h2 hno
        · exact ⟨p, by omega, h2⟩
    rw [f_X8_startsOf_96, i_le (x := 16) (a := 16) (b := (q : Int)) rfl rfl (by omega) (by omega), if_neg (by omega), if_pos rfl, m_underBy hM hV rfl hs rfl rfl rfl hm (by omega) (by omega), Option.bind_some, i_lt (a := undV A m (hu A (3 * s + 1)) (hu A (3 * s)) (se A 1) (q : Int) (levV A m (tideV (ht A) (se A 0) (t : Int)) (se A 1))) (b := needV (se A 3) (se A 4) (hu A (3 * s))) rfl rfl (by unfold undV; omega) (by omega)]
    unfold f_X8_startsOf_146 f_X8_startsOf_147
    rw [i_next]
    by_cases hk : KS A s m t q = true
    · have := ek.mp hk
      have er : rm (iI (t : Int) + iI ((60 / q : Nat) : Int)) 1440 = some (iI (((t + 60 / q) % 1440 : Nat) : Int)) := by
        rw [iI_add, rm_ok (y := 1440) (a := (t : Int) + ((60 / q : Nat) : Int)) (b := 1440) rfl rfl (by omega) (by omega) (by omega), Int.tmod_eq_emod_of_nonneg (by omega)]
        rfl
      rw [if_neg (by omega), d60 (by omega), Option.bind_some, er, Option.bind_some, rI_ok (t := 2) (k := 40) rfl rfl (by rw [al40]; omega) (by omega), hrow _ (by omega), Option.bind_some]
      have ex : lfV (KS A s) k (m + 1) ((t + 60 / q) % 1440) < 100000 ↔ ∃ e, Arr (KS A s) k (m + 1) (t + 60 / q) e := by
        rw [← lf_ex hk16]
        exact Arr_mod (by omega)
      by_cases hl : lfV (KS A s) k (m + 1) ((t + 60 / q) % 1440) < 100000
      · rw [if_pos hl, if_neg (by decide)]
        refine ⟨1, Or.inr rfl, ⟨fun _ => ⟨q, by omega, hk, ex.mp hl⟩, fun _ => rfl⟩, ?_⟩
        obtain ⟨n, rfl⟩ : ∃ n', n = n' + 1 := ⟨n - 1, by omega⟩
        rw [f_X8_startsOf_96]
        split
        · rfl
        · rw [if_neg (by decide)]
      · rw [if_neg hl, if_pos rfl]
        exact ⟨z, z1, skip (fun w => hl (ex.mpr w.2)), z3⟩
    · have : ¬ needV (se A 3) (se A 4) (hu A (3 * s)) ≤ undV A m (hu A (3 * s + 1)) (hu A (3 * s)) (se A 1) (q : Int) (levV A m (tideV (ht A) (se A 0) (t : Int)) (se A 1)) := fun z => hk (ek.mpr z)
      rw [if_pos (by omega)]
      exact ⟨z, z1, skip (fun w => hk w.1), z3⟩
theorem a73 (hV : PV A) (hs : s < nsh A) (k35 : ST → Int32 → Int32 → Int32 → Option ST) {m k : Nat} (hm : m < mi A) (hk16 : k < 16) : ∀ (c t n : Nat) (S : ST), t + c = 1440 → c < n → RM S A → (∀ u, u < 1440 → S.1 40 u = if lfV (KS A s) k (m + 1) u < 100000 then 1 else 0) → ∃ S', f_X8_startsOf_73 k35 n S (iI (s : Int)) (iI (needV (se A 3) (se A 4) (hu A (3 * s)))) (iI (m : Int)) (iI (t : Int)) = k35 S' (iI (s : Int)) (iI (needV (se A 3) (se A 4) (hu A (3 * s)))) (iI (m : Int) + (-1)) ∧ F90 S S' ∧ (∀ u, u < t → S'.1 39 u = S.1 39 u) ∧ ∀ u, t ≤ u → u < 1440 → S'.1 39 u = if lfV (KS A s) (k + 1) m u < 100000 then 1 else 0 := by
  have h16 := hV.1.1
  intro c
  induction c with
  | zero =>
    intro t n S htc hn hM hrow
    obtain ⟨n, rfl⟩ : ∃ n', n = n' + 1 := ⟨n - 1, by omega⟩
    refine ⟨S, ?_, F90.rf, fun _ _ => rfl, fun u h1 h2 => by omega⟩
    rw [f_X8_startsOf_73, i_le (x := 1440) (a := 1440) (b := (t : Int)) rfl rfl (by omega) (by omega), if_pos (by omega)]
  | succ c ih =>
    intro t n S htc hn hM hrow
    obtain ⟨n, rfl⟩ : ∃ n', n = n' + 1 := ⟨n - 1, by omega⟩
    obtain ⟨z, z1, z2, z3⟩ := a96 hV hs k35 (f_X8_startsOf_73 k35 n) hm (t := t) (k := k) (by omega) (by omega) hM hrow 15 1 FU (by omega) (by omega) (by show 15 < 20000; omega)
    have hz : z = if lfV (KS A s) (k + 1) m t < 100000 then 1 else 0 := by
      by_cases hl : lfV (KS A s) (k + 1) m t < 100000
      · rw [if_pos hl]
        obtain ⟨e, p, hp, h1, h2⟩ := (lf_ex (by omega)).mpr hl
        exact z2.mpr ⟨p, hp, h1, e, h2⟩
      · rw [if_neg hl]
        rcases z1 with z1 | z1
        · exact z1
        · obtain ⟨p, hp, h1, e, h2⟩ := z2.mp z1
          exact absurd ((lf_ex (K := KS A s) (k := k + 1) (m := m) (t := t) (by omega)).mp ⟨e, p, hp, h1, h2⟩) hl
    obtain ⟨S', e1, o1, g1, g2⟩ := ih (t + 1) n (sI S 39 t z) (by omega) (by omega) (F90.s39.rm hM) (fun u hu => by rw [sI_ne (by decide)]; exact hrow u hu)
    refine ⟨S', ?_, F90.s39.tr o1, fun u hu => by rw [g1 u (by omega), sI_nj (by omega)], fun u h1 h2 => ?_⟩
    · rw [f_X8_startsOf_73, i_le (x := 1440) (a := 1440) (b := (t : Int)) rfl rfl (by omega) (by omega), if_neg (by omega), m_waterAt hM hV rfl rfl hm (by omega), Option.bind_some]
      rw [show f_X8_startsOf_96 k35 (f_X8_startsOf_73 k35 n) FU S (iI (s : Int)) (iI (needV (se A 3) (se A 4) (hu A (3 * s)))) (iI (m : Int)) (iI (t : Int)) (iI (levV A m (tideV (ht A) (se A 0) (t : Int)) (se A 1))) 0 1 = _ from z3]
      unfold f_X8_startsOf_155
      rw [wZ_ok rfl (by rw [al39]; omega) (by omega) z1, Option.bind_some, i_next, e1]
    · by_cases hu : u = t
      · subst hu
        rw [g1 u (by omega), sI_eq, hz]
      · exact g2 u (by omega) h2
theorem a42 (k35 : ST → Int32 → Int32 → Int32 → Option ST) (x1 x2 x3 : Int32) : ∀ (c t n : Nat) (S : ST), t + c = 1440 → c < n → (∀ u, u < 1440 → S.1 39 u = 0 ∨ S.1 39 u = 1) → ∃ S', f_X8_startsOf_42 k35 n S x1 x2 x3 (iI (t : Int)) = f_X8_startsOf_73 k35 FU S' x1 x2 x3 0 ∧ F90 S S' ∧ S'.1 39 = S.1 39 ∧ (∀ u, u < t → S'.1 40 u = S.1 40 u) ∧ ∀ u, t ≤ u → u < 1440 → S'.1 40 u = S.1 39 u := by
  intro c
  induction c with
  | zero =>
    intro t n S ht hn hz
    obtain ⟨n, rfl⟩ : ∃ n', n = n' + 1 := ⟨n - 1, by omega⟩
    refine ⟨S, ?_, F90.rf, rfl, fun _ _ => rfl, fun u h1 h2 => by omega⟩
    rw [f_X8_startsOf_42, i_le (x := 1440) (a := 1440) (b := (t : Int)) rfl rfl (by omega) (by omega), if_pos (by omega)]
  | succ c ih =>
    intro t n S ht hn hz
    obtain ⟨n, rfl⟩ : ∃ n', n = n' + 1 := ⟨n - 1, by omega⟩
    obtain ⟨S', e1, o1, g0, g1, g2⟩ := ih (t + 1) n (sI S 40 t (S.1 39 t)) (by omega) (by omega) (fun u hu => by rw [sI_ne (by decide)]; exact hz u hu)
    refine ⟨S', ?_, F90.s40.tr o1, by rw [g0, sI_o (by decide)], fun u hu => by rw [g1 u (by omega), sI_nj (by omega)], fun u h1 h2 => ?_⟩
    · rw [f_X8_startsOf_42, i_le (x := 1440) (a := 1440) (b := (t : Int)) rfl rfl (by omega) (by omega), if_neg (by omega), rI_ok (t := 2) (k := 39) (n := t) rfl rfl (by rw [al39]; omega) (by omega), Option.bind_some, wZ_ok rfl (by rw [al40]; omega) (by omega) (hz t (by omega)), Option.bind_some, i_next, e1]
    · by_cases hu : u = t
      · subst hu
        rw [g1 u (by omega), sI_eq]
      · rw [g2 u (by omega) h2, sI_ne (by decide)]
theorem a35 (hV : PV A) (hs : s < nsh A) : ∀ (c n : Nat) (S : ST), c ≤ mi A → c < n → RM S A → (∀ u, u < 1440 → S.1 39 u = if lfV (KS A s) (mi A - c) c u < 100000 then 1 else 0) → ∃ S', f_X8_startsOf_35 n S (iI (s : Int)) (iI (needV (se A 3) (se A 4) (hu A (3 * s)))) (iI ((c : Int) - 1)) = some S' ∧ F90 S S' ∧ ∀ u, u < 1440 → S'.1 39 u = if lfV (KS A s) (mi A) 0 u < 100000 then 1 else 0 := by
  have h16 := hV.1.1
  intro c
  induction c with
  | zero =>
    intro n S hc hn hM hrow
    obtain ⟨n, rfl⟩ : ∃ n', n = n' + 1 := ⟨n - 1, by omega⟩
    refine ⟨S, ?_, F90.rf, hrow⟩
    rw [f_X8_startsOf_35, i_lt (y := 0) (b := 0) rfl rfl (by omega) (by omega), if_pos (by omega)]
  | succ c ih =>
    intro n S hc hn hM hrow
    obtain ⟨n, rfl⟩ : ∃ n', n = n' + 1 := ⟨n - 1, by omega⟩
    obtain ⟨S1, e1, o1, g0, -, g1⟩ := a42 (f_X8_startsOf_35 n) (iI (s : Int)) (iI (needV (se A 3) (se A 4) (hu A (3 * s)))) (iI (c : Int)) 1440 0 FU S (by omega) (by show 1440 < 20000; omega) (fun u hu => by
      rw [hrow u hu]
      split
      · exact Or.inr rfl
      · exact Or.inl rfl)
    obtain ⟨S2, e2, o2, -, g2⟩ := a73 hV hs (f_X8_startsOf_35 n) (m := c) (k := mi A - (c + 1)) (by omega) (by omega) 1440 0 FU S1 (by omega) (by show 1440 < 20000; omega) (o1.rm hM) (fun u hu => by rw [g1 u (by omega) hu, hrow u hu])
    obtain ⟨S3, e3, o3, g3⟩ := ih n S2 (by omega) (by omega) (o2.rm (o1.rm hM)) (fun u hu => by
      rw [g2 u (by omega) hu, show mi A - (c + 1) + 1 = mi A - c by omega])
    refine ⟨S3, ?_, (o1.tr o2).tr o3, g3⟩
    rw [f_X8_startsOf_35, i_lt (y := 0) (b := 0) rfl rfl (by omega) (by omega), if_neg (by omega), show ((c + 1 : Nat) : Int) - 1 = (c : Int) by omega]
    rw [show f_X8_startsOf_42 (f_X8_startsOf_35 n) FU S (iI (s : Int)) (iI (needV (se A 3) (se A 4) (hu A (3 * s)))) (iI (c : Int)) 0 = _ from e1, show f_X8_startsOf_73 (f_X8_startsOf_35 n) FU S1 (iI (s : Int)) (iI (needV (se A 3) (se A 4) (hu A (3 * s)))) (iI (c : Int)) 0 = _ from e2, show iI (c : Int) + (-1) = iI ((c : Int) - 1) by rw [show (-1 : Int32) = iI (-1) from rfl, iI_add]; rfl, e3]
theorem a8 (x1 x2 : Int32) (hV : PV A) : ∀ (c t n : Nat) (S : ST), t + c = 1440 → c < n → RM S A → ∃ S', f_X8_startsOf_8 n S x1 x2 (iI (t : Int)) = f_X8_startsOf_35 FU S' x1 x2 (iI ((mi A : Int) - 1)) ∧ F90 S S' ∧ (∀ u, u < t → S'.1 39 u = S.1 39 u) ∧ ∀ u, t ≤ u → u < 1440 → S'.1 39 u = 1 := by
  intro c
  induction c with
  | zero =>
    intro t n S ht hn hM
    obtain ⟨n, rfl⟩ : ∃ n', n = n' + 1 := ⟨n - 1, by omega⟩
    refine ⟨S, ?_, F90.rf, fun _ _ => rfl, fun u h1 h2 => by omega⟩
    rw [f_X8_startsOf_8, i_le (x := 1440) (a := 1440) (b := (t : Int)) rfl rfl (by omega) (by omega), if_pos (by omega), hM.1.1, show (1 : Int32) = iI 1 from rfl, iI_sub]
  | succ c ih =>
    intro t n S ht hn hM
    obtain ⟨n, rfl⟩ : ∃ n', n = n' + 1 := ⟨n - 1, by omega⟩
    obtain ⟨S', e1, o1, g1, g2⟩ := ih (t + 1) n (sI S 39 t 1) (by omega) (by omega) (F90.s39.rm hM)
    refine ⟨S', ?_, F90.s39.tr o1, fun u hu => by rw [g1 u (by omega), sI_nj (by omega)], fun u h1 h2 => ?_⟩
    · rw [f_X8_startsOf_8, i_le (x := 1440) (a := 1440) (b := (t : Int)) rfl rfl (by omega) (by omega), if_neg (by omega), wZ_ok rfl (by rw [al39]; omega) (by omega) (Or.inr rfl), Option.bind_some, i_next, e1]
    · by_cases hu : u = t
      · subst hu
        rw [g1 u (by omega), sI_eq]
      · exact g2 u (by omega) h2
theorem m_startsOf {S : ST} (hV : PV A) (hM : RM S A) (hs : s < nsh A) {x : Int32} (hx : x = iI (s : Int)) : ∃ S', f_X8_startsOf S x = some S' ∧ F90 S S' ∧ ∀ u, u < 1440 → S'.1 39 u = if lfV (KS A s) (mi A) 0 u < 100000 then 1 else 0 := by
  have h16 := hV.1.1
  subst hx
  obtain ⟨S1, e1, o1, -, g1⟩ := a8 (iI (s : Int)) (iI (needV (se A 3) (se A 4) (hu A (3 * s)))) hV 1440 0 FU S (by omega) (by show 1440 < 20000; omega) hM
  obtain ⟨S2, e2, o2, g2⟩ := a35 hV hs (mi A) FU S1 (Nat.le_refl _) (by show mi A < 20000; omega) (o1.rm hM) (fun u hu => by
    rw [g1 u (by omega) hu, Nat.sub_self]
    exact (if_pos (show (0 : Nat) < 100000 by omega)).symm)
  refine ⟨S2, ?_, o1.tr o2, g2⟩
  unfold f_X8_startsOf
  rw [m_needOf hM hV rfl hs, Option.bind_some]
  rw [show f_X8_startsOf_8 FU S (iI (s : Int)) (iI (needV (se A 3) (se A 4) (hu A (3 * s)))) 0 = _ from e1, e2]
end RS
