/-! ===== the reference's quickest ===== -/
theorem al37 : al 0 37 = 16337 := by decide
theorem al38 : al 0 38 = 16337 := by decide
def F78 (S S' : ST) : Prop := (∀ q, q ≠ 37 → q ≠ 38 → S'.1 q = S.1 q) ∧ S'.2 = S.2
theorem F78.rf {S : ST} : F78 S S := ⟨fun _ _ _ => rfl, rfl⟩
theorem F78.tr {S S1 S2 : ST} (h : F78 S S1) (g : F78 S1 S2) : F78 S S2 := ⟨fun q h1 h2 => (g.1 q h1 h2).trans (h.1 q h1 h2), g.2.trans h.2⟩
theorem F78.s37 {S : ST} {j : Nat} {x : Int32} : F78 S (sI S 37 j x) := ⟨fun _ h1 _ => sI_o h1, rfl⟩
theorem F78.s38 {S : ST} {j : Nat} {x : Int32} : F78 S (sI S 38 j x) := ⟨fun _ _ h2 => sI_o h2, rfl⟩
theorem F78.rm {S S' : ST} {A : PT} (h : F78 S S') (hM : RM S A) : RM S' A := hM.of (by rw [h.1 30 (by decide) (by decide)]) (by rw [h.1 30 (by decide) (by decide)]) (h.1 32 (by decide) (by decide)) (h.1 33 (by decide) (by decide)) (h.1 31 (by decide) (by decide)) (h.1 34 (by decide) (by decide))
theorem ix961 {m t : Nat} : 961 * iI (m : Int) + iI (t : Int) = iI ((961 * m + t : Nat) : Int) := by
  rw [show (961 : Int32) = iI 961 from rfl, iI_mul, iI_add]
  rfl
theorem d60 {p : Nat} (hp : 1 ≤ p ∧ p < 16) : dv 60 (iI (p : Int)) = some (iI ((60 / p : Nat) : Int)) := by
  rw [dv_ok (x := 60) (a := 60) (b := (p : Int)) rfl rfl (by omega) (by omega) (by omega), Int.tdiv_eq_ediv_of_nonneg (by omega)]
  rfl
abbrev KS (A : PT) (s : Nat) : Nat → Nat → Nat → Bool := KK A (hu A (3 * s + 1)) (hu A (3 * s)) (se A 1) (-1) (needV (se A 3) (se A 4) (hu A (3 * s)))
theorem need_rg {ru lu dr : Int} (h1 : 0 ≤ ru ∧ ru ≤ 1) (h2 : 0 ≤ lu ∧ lu ≤ 99) (h3 : 20 ≤ dr ∧ dr ≤ 200) : 0 ≤ needV ru lu dr ∧ needV ru lu dr ≤ 200 := by
  have m1 := mul_rg (a := dr) (b := lu) (c := 200) (d := 99) (by omega) h2 (by omega)
  have m2 : 0 ≤ dr * lu := Int.mul_nonneg (by omega) (by omega)
  unfold needV
  split
  · omega
  · rw [Int.tdiv_eq_ediv_of_nonneg m2]
    omega
theorem TVs {A : PT} (hV : PV A) {s : Nat} (hs : s < nsh A) : TV (hu A (3 * s + 1)) (hu A (3 * s)) (se A 1) (-1) (needV (se A 3) (se A 4) (hu A (3 * s))) := by
  obtain ⟨g1, g2, g3⟩ := hV.2.2.2.2 s hs
  obtain ⟨s0, s1, s2, s3, s4⟩ := hV.2.2.2.1
  exact ⟨g2, g1, s1, by omega, need_rg s3 s4 g1⟩
section RQ
variable {A : PT} {s a : Nat}
theorem q88 (hV : PV A) (hs : s < nsh A) (ha : a < 1440) (k48 : ST → Int32 → Int32 → Int32 → Int32 → Option (Int32 × ST)) (k56 : ST → Int32 → Int32 → Int32 → Int32 → Int32 → Option (Int32 × ST)) {m t k : Nat} (hm : m < mi A) (htm : t ≤ 60 * m) (x2 : Int32) {S : ST} (hM : RM S A) (hrow : ∀ u, u ≤ 60 * (m + 1) → S.1 37 (961 * (m + 1) + u) = iI (lfV (KS A s) k (m + 1) (a + u) : Int)) : ∀ (c q n : Nat), q + c = 15 → c < n → f_X8_quickest_88 k48 k56 n S (iI (s : Int)) x2 (iI (needV (se A 3) (se A 4) (hu A (3 * s)))) (iI (m : Int)) (iI (t : Int)) (iI (levV A m (tideV (ht A) (se A 0) ((a + t : Nat) : Int)) (se A 1))) (iI ((bfV (ownV (KS A s) k m (a + t)) q).1 : Int)) (iI ((bfV (ownV (KS A s) k m (a + t)) q).2 : Int)) (iI ((q + 1 : Nat) : Int)) = k56 (sI (sI S 37 (961 * m + t) (iI ((bfV (ownV (KS A s) k m (a + t)) 15).1 : Int))) 38 (961 * m + t) (iI ((bfV (ownV (KS A s) k m (a + t)) 15).2 : Int))) (iI (s : Int)) x2 (iI (needV (se A 3) (se A 4) (hu A (3 * s)))) (iI (m : Int)) (iI ((t + 1 : Nat) : Int)) := by
  have h16 := hV.1.1
  have tv := TVs hV hs
  have ta := tide_arith hV.2.2.1 hV.2.2.2.1.1 (m := ((a + t : Nat) : Int)) (by omega)
  have lv := levV_rg hV hm (tide := tideV (ht A) (se A 0) ((a + t : Nat) : Int)) (wind := se A 1) (by omega) hV.2.2.2.1.2.1
  intro c
  induction c with
  | zero =>
    intro q n hq hn
    obtain ⟨n, rfl⟩ : ∃ n', n = n' + 1 := ⟨n - 1, by omega⟩
    have : q = 15 := by omega
    subst this
    rw [f_X8_quickest_88, i_le (x := 16) (a := 16) (b := ((15 + 1 : Nat) : Int)) rfl rfl (by omega) (by omega), if_pos (by omega), wI_ok (k := 37) ix961 rfl (by rw [al37]; omega) (by omega), Option.bind_some, wI_ok (k := 38) ix961 rfl (by rw [al38]; omega) (by omega), Option.bind_some, i_next]
  | succ c ih =>
    intro q n hq hn
    obtain ⟨n, rfl⟩ : ∃ n', n = n' + 1 := ⟨n - 1, by omega⟩
    have t6 := t60 (q + 1) (by omega) (by omega)
    have sp := bf_spec (ownV (KS A s) k m (a + t)) q
    have lf := lf_spec (K := KS A s) k (m + 1) (a + t + 60 / (q + 1))
    have rest : ∀ o : Nat, o ≤ 200000 → o = ownV (KS A s) k m (a + t) (q + 1) → f_X8_quickest_145 k48 k56 (f_X8_quickest_88 k48 k56 n) S (iI (s : Int)) x2 (iI (needV (se A 3) (se A 4) (hu A (3 * s)))) (iI (m : Int)) (iI (t : Int)) (iI (levV A m (tideV (ht A) (se A 0) ((a + t : Nat) : Int)) (se A 1))) (iI ((bfV (ownV (KS A s) k m (a + t)) q).1 : Int)) (iI ((bfV (ownV (KS A s) k m (a + t)) q).2 : Int)) (iI ((q + 1 : Nat) : Int)) (iI (o : Int)) = k56 (sI (sI S 37 (961 * m + t) (iI ((bfV (ownV (KS A s) k m (a + t)) 15).1 : Int))) 38 (961 * m + t) (iI ((bfV (ownV (KS A s) k m (a + t)) 15).2 : Int))) (iI (s : Int)) x2 (iI (needV (se A 3) (se A 4) (hu A (3 * s)))) (iI (m : Int)) (iI ((t + 1 : Nat) : Int)) := by
      intro o ho eo
      have i2 := ih (q + 1) n (by omega) (by omega)
      unfold f_X8_quickest_145 f_X8_quickest_161 f_X8_quickest_177
      rw [i_le (x := iI ((bfV (ownV (KS A s) k m (a + t)) q).1 : Int)) (y := iI (o : Int)) rfl rfl (by omega) (by omega), i_next]
      have eb : bfV (ownV (KS A s) k m (a + t)) (q + 1) = if ownV (KS A s) k m (a + t) (q + 1) < (bfV (ownV (KS A s) k m (a + t)) q).1 then (ownV (KS A s) k m (a + t) (q + 1), q + 1) else bfV (ownV (KS A s) k m (a + t)) q := rfl
      by_cases h : ((bfV (ownV (KS A s) k m (a + t)) q).1 : Int) ≤ (o : Int)
      · rw [if_neg (by omega)] at eb
        rw [eb] at i2
        rw [if_pos h, if_pos ((c_le rfl rfl (by omega) (by omega)).mpr h), i2]
      · rw [if_pos (by omega), ← eo] at eb
        rw [eb] at i2
        rw [if_neg h, if_neg (fun z => h ((c_le rfl rfl (by omega) (by omega)).mp z)), i2]
    rw [f_X8_quickest_88, i_le (x := 16) (a := 16) (b := ((q + 1 : Nat) : Int)) rfl rfl (by omega) (by omega), if_neg (by omega), m_underBy hM hV rfl hs rfl rfl rfl hm (by omega) (by omega), Option.bind_some]
    have sk := sinkV_rg hV hm (p := ((q + 1 : Nat) : Int)) (br := hu A (3 * s + 1)) (dr := hu A (3 * s)) (lv := levV A m (tideV (ht A) (se A 0) ((a + t : Nat) : Int)) (se A 1)) (by omega) tv.1 tv.2.1 (by omega)
    have rs := restV_rg hV hm (br := hu A (3 * s + 1)) (dr := hu A (3 * s)) (wi := se A 1) (lv := levV A m (tideV (ht A) (se A 0) ((a + t : Nat) : Int)) (se A 1)) tv.1 tv.2.1 tv.2.2.1 (by omega)
    have nr := tv.2.2.2.2
    have eu : uV A (hu A (3 * s + 1)) (hu A (3 * s)) (se A 1) (-1) m (tideV (ht A) (se A 0) ((a + t : Nat) : Int)) ((q + 1 : Nat) : Int) = undV A m (hu A (3 * s + 1)) (hu A (3 * s)) (se A 1) ((q + 1 : Nat) : Int) (levV A m (tideV (ht A) (se A 0) ((a + t : Nat) : Int)) (se A 1)) := by
      unfold uV
      rw [if_neg (by omega), Int.add_zero]
    have ek : KS A s m (a + t) (q + 1) = true ↔ needV (se A 3) (se A 4) (hu A (3 * s)) ≤ undV A m (hu A (3 * s + 1)) (hu A (3 * s)) (se A 1) ((q + 1 : Nat) : Int) (levV A m (tideV (ht A) (se A 0) ((a + t : Nat) : Int)) (se A 1)) := by
      rw [← eu]
      exact decide_eq_true_iff
    rw [i_lt (a := undV A m (hu A (3 * s + 1)) (hu A (3 * s)) (se A 1) ((q + 1 : Nat) : Int) (levV A m (tideV (ht A) (se A 0) ((a + t : Nat) : Int)) (se A 1))) (b := needV (se A 3) (se A 4) (hu A (3 * s))) rfl rfl (by unfold undV; omega) (by omega)]
    by_cases hk : KS A s m (a + t) (q + 1) = true
    · have := ek.mp hk
      rw [if_neg (by omega), d60 (by omega), Option.bind_some, Option.bind_some]
      have ei : 961 * iI (m : Int) + 961 + iI (t : Int) + iI ((60 / (q + 1) : Nat) : Int) = iI ((961 * (m + 1) + (t + 60 / (q + 1)) : Nat) : Int) := by
        rw [show (961 : Int32) = iI 961 from rfl, iI_mul, iI_add, iI_add, iI_add]
        congr 1
        omega
      rw [ei, rI_ok (k := 37) rfl rfl (by rw [al37]; omega) (by omega), hrow (t + 60 / (q + 1)) (by omega), Option.bind_some, iI_add]
      have eo : ownV (KS A s) k m (a + t) (q + 1) = 60 / (q + 1) + lfV (KS A s) k (m + 1) (a + t + 60 / (q + 1)) := if_pos hk
      have := rest _ (by omega) eo.symm
      rw [show a + (t + 60 / (q + 1)) = a + t + 60 / (q + 1) by omega]
      exact this
    · have : ¬ needV (se A 3) (se A 4) (hu A (3 * s)) ≤ undV A m (hu A (3 * s + 1)) (hu A (3 * s)) (se A 1) ((q + 1 : Nat) : Int) (levV A m (tideV (ht A) (se A 0) ((a + t : Nat) : Int)) (se A 1)) := fun z => hk (ek.mpr z)
      rw [if_pos (by omega)]
      exact rest 100000 (by omega) (if_neg hk).symm
end RQ
