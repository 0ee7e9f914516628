/-! ===== the reference's quickest, all miles ===== -/
section RQ2
variable {A : PT} {s a : Nat}
theorem q56 (hV : PV A) (hs : s < nsh A) (ha : a < 1440) (k48 : ST → Int32 → Int32 → Int32 → Int32 → Option (Int32 × ST)) {m k : Nat} (hm : m < mi A) : ∀ (c t n : Nat) (S : ST), t + c = 60 * m + 1 → c < n → RM S A → (∀ u, u ≤ 60 * (m + 1) → S.1 37 (961 * (m + 1) + u) = iI (lfV (KS A s) k (m + 1) (a + u) : Int)) → ∃ S', f_X8_quickest_56 k48 n S (iI (s : Int)) (iI (a : Int)) (iI (needV (se A 3) (se A 4) (hu A (3 * s)))) (iI (m : Int)) (iI (t : Int)) = k48 S' (iI (s : Int)) (iI (a : Int)) (iI (needV (se A 3) (se A 4) (hu A (3 * s)))) (iI (m : Int) + (-1)) ∧ F78 S S' ∧ (∀ i, (i < 961 * m + t ∨ 961 * (m + 1) ≤ i) → S'.1 37 i = S.1 37 i ∧ S'.1 38 i = S.1 38 i) ∧ ∀ u, t ≤ u → u ≤ 60 * m → S'.1 37 (961 * m + u) = iI (lfV (KS A s) (k + 1) m (a + u) : Int) ∧ S'.1 38 (961 * m + u) = iI (byV (KS A s) k m (a + u) : Int) := by
  have h16 := hV.1.1
  intro c
  induction c with
  | zero =>
    intro t n S ht' hn hM hrow
    obtain ⟨n, rfl⟩ : ∃ n', n = n' + 1 := ⟨n - 1, by omega⟩
    have e60 : 60 * iI (m : Int) = iI (60 * (m : Int)) := by rw [show (60 : Int32) = iI 60 from rfl, iI_mul]
    rw [f_X8_quickest_56, e60, i_lt (a := 60 * (m : Int)) (b := (t : Int)) rfl rfl (by omega) (by omega), if_pos (by omega)]
    exact ⟨S, rfl, F78.rf, fun _ _ => ⟨rfl, rfl⟩, fun u h1 h2 => by omega⟩
  | succ c ih =>
    intro t n S ht' hn hM hrow
    obtain ⟨n, rfl⟩ : ∃ n', n = n' + 1 := ⟨n - 1, by omega⟩
    have e60 : 60 * iI (m : Int) = iI (60 * (m : Int)) := by rw [show (60 : Int32) = iI 60 from rfl, iI_mul]
    have eq := q88 hV hs ha k48 (f_X8_quickest_56 k48 n) (m := m) (t := t) (k := k) hm (by omega) (iI (a : Int)) hM hrow 15 0 FU rfl (by show 15 < 20000; omega)
    generalize hS1 : sI (sI S 37 (961 * m + t) (iI ((bfV (ownV (KS A s) k m (a + t)) 15).1 : Int))) 38 (961 * m + t) (iI ((bfV (ownV (KS A s) k m (a + t)) 15).2 : Int)) = S1 at eq
    have o1 : F78 S S1 := by rw [← hS1]; exact F78.s37.tr F78.s38
    have p1 : ∀ i, i ≠ 961 * m + t → S1.1 37 i = S.1 37 i ∧ S1.1 38 i = S.1 38 i := fun i hi => by
      rw [← hS1]
      exact ⟨by rw [sI_ne (by decide), sI_nj hi], by rw [sI_nj hi, sI_ne (by decide)]⟩
    have p2 : S1.1 37 (961 * m + t) = iI (lfV (KS A s) (k + 1) m (a + t) : Int) ∧ S1.1 38 (961 * m + t) = iI (byV (KS A s) k m (a + t) : Int) := by
      rw [← hS1]
      exact ⟨by rw [sI_ne (by decide), sI_eq]; rfl, by rw [sI_eq]; rfl⟩
    obtain ⟨S', e2, o2, g1, g2⟩ := ih (t + 1) n S1 (by omega) (by omega) (o1.rm hM) (fun u hu => by rw [(p1 _ (by omega)).1]; exact hrow u hu)
    refine ⟨S', ?_, o1.tr o2, fun i hi => ?_, fun u h1 h2 => ?_⟩
    · rw [f_X8_quickest_56, e60, i_lt (a := 60 * (m : Int)) (b := (t : Int)) rfl rfl (by omega) (by omega), if_neg (by omega), iI_add, m_waterAt hM hV (m := (a : Int) + (t : Int)) rfl rfl hm (by omega), Option.bind_some]
      rw [← e2]
      exact eq
    · have h1 := g1 i (by omega)
      have h2 := p1 i (by omega)
      exact ⟨h1.1.trans h2.1, h1.2.trans h2.2⟩
    · by_cases hu : u = t
      · subst hu
        have h1 := g1 (961 * m + u) (by omega)
        exact ⟨h1.1.trans p2.1, h1.2.trans p2.2⟩
      · exact g2 u (by omega) h2
theorem q48 (hV : PV A) (hs : s < nsh A) (ha : a < 1440) : ∀ (c n : Nat) (S : ST), c ≤ mi A → c < n → RM S A → (∀ u, u ≤ 60 * c → S.1 37 (961 * c + u) = iI (lfV (KS A s) (mi A - c) c (a + u) : Int)) → ∃ S', f_X8_quickest_48 n S (iI (s : Int)) (iI (a : Int)) (iI (needV (se A 3) (se A 4) (hu A (3 * s)))) (iI ((c : Int) - 1)) = some (iI (lfV (KS A s) (mi A) 0 a : Int), S') ∧ F78 S S' ∧ (∀ i, 961 * c ≤ i → S'.1 38 i = S.1 38 i) ∧ ∀ m, m < c → ∀ u, u ≤ 60 * m → S'.1 38 (961 * m + u) = iI (byV (KS A s) (mi A - m - 1) m (a + u) : Int) := by
  have h16 := hV.1.1
  intro c
  induction c with
  | zero =>
    intro n S hc hn hM hrow
    obtain ⟨n, rfl⟩ : ∃ n', n = n' + 1 := ⟨n - 1, by omega⟩
    have h0 := hrow 0 (by omega)
    rw [f_X8_quickest_48, i_lt (y := 0) (b := 0) rfl rfl (by omega) (by omega), if_pos (by omega), rI_ok (t := 0) (k := 37) (x := 0) (a := 0) (n := 0) rfl rfl (by rw [al37]; omega) (by omega), Option.bind_some]
    refine ⟨S, ?_, F78.rf, fun _ _ => rfl, fun m hm => by omega⟩
    rw [show S.1 37 0 = _ from h0]
    rfl
  | succ c ih =>
    intro n S hc hn hM hrow
    obtain ⟨n, rfl⟩ : ∃ n', n = n' + 1 := ⟨n - 1, by omega⟩
    obtain ⟨S1, e1, o1, g1, g2⟩ := q56 hV hs ha (f_X8_quickest_48 n) (m := c) (k := mi A - (c + 1)) (by omega) (60 * c + 1) 0 FU S (by omega) (by show 60 * c + 1 < 20000; omega) hM hrow
    obtain ⟨S', e2, o2, g3, g4⟩ := ih n S1 (by omega) (by omega) (o1.rm hM) (fun u hu => by
      rw [(g2 u (by omega) hu).1, show mi A - (c + 1) + 1 = mi A - c by omega])
    refine ⟨S', ?_, o1.tr o2, fun i hi => by rw [g3 i (by omega), (g1 i (by omega)).2], fun m hm u hu => ?_⟩
    · rw [f_X8_quickest_48, i_lt (y := 0) (b := 0) rfl rfl (by omega) (by omega), if_neg (by omega), show ((c + 1 : Nat) : Int) - 1 = (c : Int) by omega]
      rw [show f_X8_quickest_56 (f_X8_quickest_48 n) FU S (iI (s : Int)) (iI (a : Int)) (iI (needV (se A 3) (se A 4) (hu A (3 * s)))) (iI (c : Int)) 0 = _ from e1, show iI (c : Int) + (-1) = iI ((c : Int) - 1) by rw [show (-1 : Int32) = iI (-1) from rfl, iI_add]; rfl, e2]
    · by_cases hmc : m = c
      · subst hmc
        rw [g3 _ (by omega), (g2 u (by omega) hu).2, show mi A - (m + 1) = mi A - m - 1 by omega]
      · exact g4 m (by omega) u hu
theorem q9 (hV : PV A) (x1 x2 x3 : Int32) : ∀ (c t n : Nat) (S : ST), t + c = 961 → c < n → RM S A → ∃ S', f_X8_quickest_9 n S x1 x2 x3 (iI (t : Int)) = f_X8_quickest_48 FU S' x1 x2 x3 (iI ((mi A : Int) - 1)) ∧ F78 S S' ∧ (∀ i, i < 961 * mi A + t → S'.1 37 i = S.1 37 i) ∧ ∀ u, t ≤ u → u < 961 → S'.1 37 (961 * mi A + u) = iI ((0 : Nat) : Int) := by
  have h16 := hV.1.1
  intro c
  induction c with
  | zero =>
    intro t n S htc hn hM
    obtain ⟨n, rfl⟩ : ∃ n', n = n' + 1 := ⟨n - 1, by omega⟩
    rw [f_X8_quickest_9, i_le (x := 961) (a := 961) (b := (t : Int)) rfl rfl (by omega) (by omega), if_pos (by omega), hM.1.1, show iI (mi A : Int) - 1 = iI ((mi A : Int) - 1) by rw [show (1 : Int32) = iI 1 from rfl, iI_sub]]
    exact ⟨S, rfl, F78.rf, fun _ _ => rfl, fun u h1 h2 => by omega⟩
  | succ c ih =>
    intro t n S htc hn hM
    obtain ⟨n, rfl⟩ : ∃ n', n = n' + 1 := ⟨n - 1, by omega⟩
    obtain ⟨S', e, o, g1, g2⟩ := ih (t + 1) n (sI S 37 (961 * mi A + t) 0) (by omega) (by omega) (F78.s37.rm hM)
    refine ⟨S', ?_, F78.s37.tr o, fun i hi => by rw [g1 i (by omega), sI_nj (by omega)], fun u h1 h2 => ?_⟩
    · rw [f_X8_quickest_9, i_le (x := 961) (a := 961) (b := (t : Int)) rfl rfl (by omega) (by omega), if_neg (by omega), hM.1.1, wI_ok (k := 37) ix961 rfl (by rw [al37]; omega) (by omega), Option.bind_some, i_next, e]
    · by_cases hu : u = t
      · rw [g1 _ (by omega), hu, sI_eq]; rfl
      · exact g2 u (by omega) h2
theorem m_quickest {S : ST} (hV : PV A) (hM : RM S A) (hs : s < nsh A) (ha : a < 1440) : ∃ S', f_X8_quickest S (iI (s : Int)) (iI (a : Int)) = some (iI (lfV (KS A s) (mi A) 0 a : Int), S') ∧ F78 S S' ∧ ∀ m, m < mi A → ∀ u, u ≤ 60 * m → S'.1 38 (961 * m + u) = iI (byV (KS A s) (mi A - m - 1) m (a + u) : Int) := by
  have h16 := hV.1.1
  obtain ⟨S1, e1, o1, -, g1⟩ := q9 hV (iI (s : Int)) (iI (a : Int)) (iI (needV (se A 3) (se A 4) (hu A (3 * s)))) 961 0 FU S rfl (by show 961 < 20000; omega) hM
  obtain ⟨S2, e2, o2, -, g2⟩ := q48 hV hs ha (mi A) FU S1 (Nat.le_refl _) (by show mi A < 20000; omega) (o1.rm hM) (fun u hu => by
    rw [g1 u (by omega) (by omega), Nat.sub_self]
    rfl)
  refine ⟨S2, ?_, o1.tr o2, g2⟩
  unfold f_X8_quickest
  rw [m_needOf hM hV rfl hs, Option.bind_some]
  rw [show f_X8_quickest_9 FU S (iI (s : Int)) (iI (a : Int)) (iI (needV (se A 3) (se A 4) (hu A (3 * s)))) 0 = _ from e1, e2]
theorem l84 (hV : PV A) (ha : a < 1440) {K : Nat → Nat → Nat → Bool} {S : ST} (hrow : ∀ m, m < mi A → ∀ u, u ≤ 60 * m → S.1 38 (961 * m + u) = iI (byV K (mi A - m - 1) m (a + u) : Int)) {j : Nat} (hj : j < mi A) (x4 : Int32) : ∀ (k m n u : Nat), m + k = j → k < n → u ≤ 60 * m → lfV K (mi A - m) m (a + u) < 100000 → f_X8_least_84 n S (iI (j : Int)) x4 (iI (u : Int)) (iI (m : Int)) = some (iI (pth K (mi A) k m (a + u) : Int), S) := by
  have h16 := hV.1.1
  intro k
  induction k with
  | zero =>
    intro m n u hm hn hu hl
    obtain ⟨n, rfl⟩ : ∃ n', n = n' + 1 := ⟨n - 1, by omega⟩
    have : m = j := by omega
    subst this
    rw [f_X8_least_84, i_le (x := iI (m : Int)) (y := iI (m : Int)) rfl rfl (by omega) (by omega), if_pos (by omega), i_le (x := 0) (a := 0) (b := (m : Int)) rfl rfl (by omega) (by omega), if_pos (by omega), rI_ok (k := 38) ix961 rfl (by rw [al38]; omega) (by omega), hrow m hj u hu, Option.bind_some]
    rfl
  | succ k ih =>
    intro m n u hm hn hu hl
    obtain ⟨n, rfl⟩ : ∃ n', n = n' + 1 := ⟨n - 1, by omega⟩
    have ek : mi A - m = (mi A - m - 1) + 1 := by omega
    rw [ek] at hl
    obtain ⟨s1, s2⟩ := by_step hl
    have t6 := t60 _ s1.2 s1.1
    rw [f_X8_least_84, i_le (x := iI (j : Int)) (y := iI (m : Int)) rfl rfl (by omega) (by omega), if_neg (by omega), rI_ok (k := 38) ix961 rfl (by rw [al38]; omega) (by omega), hrow m (by omega) u hu, Option.bind_some, d60 s1, Option.bind_some, i_next, iI_add]
    have := ih (m + 1) n (u + 60 / byV K (mi A - m - 1) m (a + u)) (by omega) (by omega) (by omega) (by rw [show mi A - (m + 1) = mi A - m - 1 by omega, ← Nat.add_assoc]; omega)
    rw [← Nat.add_assoc] at this
    exact this
end RQ2
