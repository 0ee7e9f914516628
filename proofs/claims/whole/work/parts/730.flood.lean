/-! ===== the tide is laid ===== -/
theorem alF : ∀ h, h < 117 → al 3 (50 + h) = 38 := by decide +kernel
theorem alS : ∀ h, h < 6 → al 3 (167 + h) = 23 := by decide +kernel
theorem al415 : al 4 15 = 100 := by decide
theorem al417 : al 4 17 = 17 := by decide
theorem al419 : al 4 19 = 6 := by decide
theorem rF {h : Nat} (hh : h < 100) {x : Int32} (hx : x = iI (h : Int)) : rA 4 15 x = some (50 + h) := by
  rw [rA_ok hx rfl (by rw [al415]; exact hh) (by omega)]
  rfl
theorem rR {h : Nat} (hh : h < 17) {x : Int32} (hx : x = iI (h : Int)) : rA 4 17 x = some (150 + h) := by
  rw [rA_ok hx rfl (by rw [al417]; exact hh) (by omega)]
  rfl
theorem rSt {h : Nat} (hh : h < 6) {x : Int32} (hx : x = iI (h : Int)) : rA 4 19 x = some (167 + h) := by
  rw [rA_ok hx rfl (by rw [al419]; exact hh) (by omega)]
  rfl
theorem Rep.c1 {S S' : ST} {A : PT} {ko i0 i1 kh ks km ku : Nat} (h : Rep S A ko i0 i1 kh ks km ku) (e : S'.1 = S.1) : Rep S' A ko i0 i1 kh ks km ku := h.of (by rw [e]) (by rw [e]) (by rw [e]) (by rw [e]) (by rw [e]) (by rw [e])
def FrF (S S' : ST) : Prop := S'.1 = S.1 ∧ ∀ q, (q < 50 ∨ 150 ≤ q) → S'.2 q = S.2 q
theorem FrF.rf {S : ST} : FrF S S := ⟨rfl, fun _ _ => rfl⟩
theorem FrF.tr {S S1 S2 : ST} (h : FrF S S1) (g : FrF S1 S2) : FrF S S2 := ⟨g.1.trans h.1, fun q hq => (g.2 q hq).trans (h.2 q hq)⟩
theorem FrL.ff {S S' : ST} {h : Nat} (hh : h < 100) (g : FrL (50 + h) S S') : FrF S S' := ⟨g.1, fun q hq => g.2 q (by omega)⟩
theorem laid_go {S : ST} : ∀ (k h n : Nat) (x : Int32), h + k = 24 → k < n → (x = 0 ∨ x = 1) → ∃ r, f_X2_isLaid_24 S n x (iI (h : Int)) = some r ∧ (r = 0 ∨ r = 1) ∧ (r ≠ 0 → x ≠ 0 ∧ ∀ i, h ≤ i → i < 24 → S.1 14 i = S.1 2 i) := by
  intro k
  induction k with
  | zero =>
    intro h n x hh hn hx
    obtain ⟨n, rfl⟩ : ∃ n', n = n' + 1 := ⟨n - 1, by omega⟩
    rw [f_X2_isLaid_24, i_le (x := 24) (a := 24) (b := (h : Int)) rfl rfl (by omega) (by omega), if_pos (by omega), bz, if_pos hx, Option.bind_some]
    exact ⟨x, rfl, hx, fun h => ⟨h, fun i h1 h2 => by omega⟩⟩
  | succ k ih =>
    intro h n x hh hn hx
    obtain ⟨n, rfl⟩ : ∃ n', n = n' + 1 := ⟨n - 1, by omega⟩
    rw [f_X2_isLaid_24, i_le (x := 24) (a := 24) (b := (h : Int)) rfl rfl (by omega) (by omega), if_neg (by omega)]
    by_cases h0 : x = 0
    · rw [if_pos h0, bz, if_pos hx, Option.bind_some]
      exact ⟨x, rfl, hx, fun h => absurd h0 h⟩
    · rw [if_neg h0, rI_ok (t := 0) (k := 14) (x := iI (h : Int)) (n := h) rfl rfl (show h < 24 by omega) (by omega), Option.bind_some, rI_ok (t := 0) (k := 2) (x := iI (h : Int)) (n := h) rfl rfl (show h < 24 by omega) (by omega), Option.bind_some]
      unfold f_X2_isLaid_57
      rw [i_next]
      by_cases he : S.1 14 h = S.1 2 h
      · rw [if_pos he]
        obtain ⟨r, e, hr, g⟩ := ih (h + 1) n 1 (by omega) (by omega) (Or.inr rfl)
        refine ⟨r, e, hr, fun q => ⟨h0, fun i h1 h2 => ?_⟩⟩
        by_cases hi : i = h
        · rw [hi]; exact he
        · exact (g q).2 i (by omega) h2
      · rw [if_neg he]
        obtain ⟨r, e, hr, g⟩ := ih (h + 1) n 0 (by omega) (by omega) (Or.inl rfl)
        exact ⟨r, e, hr, fun q => absurd rfl (g q).1⟩
theorem e_isLaid {S : ST} {A : PT} (hR : RC S A) : ∃ r, f_X2_isLaid S = some r ∧ (r = 0 ∨ r = 1) ∧ (r ≠ 0 → S.1 13 2 = iI (se A 0) ∧ ∀ i, i < 24 → S.1 14 i = S.1 2 i) := by
  unfold f_X2_isLaid f_X2_isLaid_21
  rw [r_se hR (i := 0) (x := 0) rfl (by omega), Option.bind_some]
  by_cases h : S.1 13 2 = iI (se A 0)
  · rw [if_pos h]
    obtain ⟨r, e, hr, g⟩ := laid_go (S := S) 24 0 FU 1 rfl (by show 24 < 20000; omega) (Or.inr rfl)
    exact ⟨r, e, hr, fun q => ⟨h, fun i hi => (g q).2 i (by omega) hi⟩⟩
  · rw [if_neg h]
    obtain ⟨r, e, hr, g⟩ := laid_go (S := S) 24 0 FU 0 rfl (by show 24 < 20000; omega) (Or.inl rfl)
    exact ⟨r, e, hr, fun q => absurd rfl (g q).1⟩
theorem wipes : ∀ (k h m : Nat) (S : ST), h + k = 100 → k < m → ∃ S', f_X2_layTide_41 m S (iI (h : Int)) = f_X2_layTide_64 FU S' 0 ∧ FrF S S' ∧ (∀ j, j < h → S'.2 (50 + j) = S.2 (50 + j)) ∧ ∀ j, h ≤ j → j < 100 → ∀ i, i < 2432 → bt S' (50 + j) i = false := by
  intro k
  induction k with
  | zero =>
    intro h m S hh hm
    obtain ⟨m, rfl⟩ : ∃ m', m = m' + 1 := ⟨m - 1, by omega⟩
    rw [f_X2_layTide_41, i_le (x := 100) (a := 100) (b := (h : Int)) rfl rfl (by omega) (by omega), if_pos (by omega)]
    exact ⟨S, rfl, FrF.rf, fun _ _ => rfl, fun j h1 h2 => by omega⟩
  | succ k ih =>
    intro h m S hh hm
    obtain ⟨m, rfl⟩ : ∃ m', m = m' + 1 := ⟨m - 1, by omega⟩
    obtain ⟨S1, e1, o1, b1⟩ := e_wipe (S := S) (alF h (by omega)) (by omega) (by omega)
    obtain ⟨S', e, o, g1, g2⟩ := ih (h + 1) m S1 (by omega) (by omega)
    refine ⟨S', ?_, (FrL.ff (by omega) o1).tr o, fun j hj => by rw [g1 j (by omega), o1.2 _ (by omega)], fun j h1 h2 i hi => ?_⟩
    · rw [f_X2_layTide_41, i_le (x := 100) (a := 100) (b := (h : Int)) rfl rfl (by omega) (by omega), if_neg (by omega), rF (by omega) rfl, Option.bind_some, e1, Option.bind_some, i_next, e]
    · by_cases hj : j = h
      · subst hj
        rw [bt_cg (g1 j (by omega))]
        exact b1 i (by omega)
      · exact g2 j (by omega) h2 i hi
theorem bits_in {A : PT} (hV : PV A) : ∀ (k t m : Nat) (S : ST), RC S A → t + k = 2400 → k < m → ∃ S', f_X2_layTide_64 m S (iI (t : Int)) = f_X2_layTide_109 FU S' 98 ∧ FrF S S' ∧ ∀ h, h < 100 → ∀ i, i < 2432 → bt S' (50 + h) i = (bt S (50 + h) i || decide (t ≤ i ∧ i < 2400 ∧ tideV (ht A) (se A 0) (i : Int) = (h : Int))) := by
  intro k
  induction k with
  | zero =>
    intro t m S hR ht hm
    obtain ⟨m, rfl⟩ : ∃ m', m = m' + 1 := ⟨m - 1, by omega⟩
    rw [f_X2_layTide_64, i_le (x := 2400) (a := 2400) (b := (t : Int)) rfl rfl (by omega) (by omega), if_pos (by omega)]
    exact ⟨S, rfl, FrF.rf, fun h hh i hi => by rw [decide_eq_false (by omega), Bool.or_false]⟩
  | succ k ih =>
    intro t m S hR ht' hm
    obtain ⟨m, rfl⟩ : ∃ m', m = m' + 1 := ⟨m - 1, by omega⟩
    have hta := tide_arith hV.2.2.1 hV.2.2.2.1.1 (m := (t : Int)) (by omega)
    obtain ⟨hh, hlt, hte⟩ : ∃ h : Nat, h < 100 ∧ tideV (ht A) (se A 0) (t : Int) = (h : Int) := ⟨(tideV (ht A) (se A 0) (t : Int)).toNat, by omega, by omega⟩
    obtain ⟨S1, e1, o1, b1⟩ := e_putBit (S := S) (alF hh (by omega)) (by omega) (by omega) (a := t) (by omega) rfl
    obtain ⟨S', e, o, g⟩ := ih (t + 1) m S1 (hR.c1 o1.1) (by omega) (by omega)
    refine ⟨S', ?_, (FrL.ff hlt o1).tr o, fun h hh2 i hi => ?_⟩
    · rw [f_X2_layTide_64, i_le (x := 2400) (a := 2400) (b := (t : Int)) rfl rfl (by omega) (by omega), if_neg (by omega), e_tideAt hR hV rfl (by omega), Option.bind_some, hte, gt01 (e_within (y := 0) (z := 99) (b := 0) (c := 99) rfl rfl rfl (by omega) (by omega) (by omega)), if_pos (by omega), rF hlt rfl, Option.bind_some, e1, Option.bind_some, f_X2_layTide_100, i_next, e]
    · rw [g h hh2 i hi]
      by_cases hq : h = hh
      · subst hq
        rw [b1 i, Bool.or_assoc]
        congr 1
        by_cases hi2 : i = t
        · subst hi2
          rw [decide_eq_true rfl, Bool.true_or, decide_eq_true ⟨Nat.le_refl i, by omega, hte⟩]
        · rw [decide_eq_false hi2, Bool.false_or]
          exact decide_eq_decide.mpr ⟨fun q => ⟨by omega, q.2⟩, fun q => ⟨by omega, q.2⟩⟩
      · rw [bt_cg (o1.2 _ (by omega))]
        congr 1
        refine decide_eq_decide.mpr ⟨fun q => ⟨by omega, q.2⟩, fun q => ⟨?_, q.2⟩⟩
        by_cases hi2 : i = t
        · subst hi2
          have := q.2.2
          omega
        · omega
theorem ors {h : Nat} (hh : h < 99) (K : ST → Int32 → Option ST) : ∀ (k w m : Nat) (S : ST), w + k = 38 → k < m → ∃ S', f_X2_layTide_115 K m S (iI (h : Int)) (iI (w : Int)) = K S' (iI (h : Int) + (-1)) ∧ FrL (50 + h) S S' ∧ (∀ j, j < w → S'.2 (50 + h) j = S.2 (50 + h) j) ∧ ∀ j, w ≤ j → j < 38 → S'.2 (50 + h) j = (S.2 (50 + h) j ||| S.2 (50 + h + 1) j) := by
  intro k
  induction k with
  | zero =>
    intro w m S hw hm
    obtain ⟨m, rfl⟩ : ∃ m', m = m' + 1 := ⟨m - 1, by omega⟩
    rw [f_X2_layTide_115, i_le (x := 38) (a := 38) (b := (w : Int)) rfl rfl (by omega) (by omega), if_pos (by omega)]
    exact ⟨S, rfl, FrL.rf, fun _ _ => rfl, fun j h1 h2 => by omega⟩
  | succ k ih =>
    intro w m S hw hm
    obtain ⟨m, rfl⟩ : ∃ m', m = m' + 1 := ⟨m - 1, by omega⟩
    obtain ⟨S', e, o, g1, g2⟩ := ih (w + 1) m (sL S (50 + h) w (S.2 (50 + h) w ||| S.2 (50 + h + 1) w)) (by omega) (by omega)
    refine ⟨S', ?_, FrL.sL.tr o, fun j hj => by rw [g1 j (by omega), sL_nj (by omega)], fun j h1 h2 => ?_⟩
    · rw [f_X2_layTide_115, i_le (x := 38) (a := 38) (b := (w : Int)) rfl rfl (by omega) (by omega), if_neg (by omega), rF (by omega) rfl, Option.bind_some, rL_ok (n := w) rfl (by rw [alF h (by omega)]; omega) (by omega), Option.bind_some, i_next, rF (h := h + 1) (by omega) rfl, Option.bind_some, rL_ok (n := w) rfl (by rw [alF (h + 1) (by omega)]; omega) (by omega), Option.bind_some, wL_ok (n := w) rfl (by rw [alF h (by omega)]; omega) (by omega), Option.bind_some, i_next]
      exact e
    · by_cases hj : j = w
      · rw [g1 j (by omega), hj, sL_eq]
      · rw [g2 j (by omega) h2, sL_nj hj, FrL.sL.2 (50 + h + 1) (by omega)]
def FL (S : ST) (A : PT) : Prop := ∀ h, h < 100 → ∀ i, i < 2432 → bt S (50 + h) i = decide (i < 2400 ∧ (h : Int) ≤ tideV (ht A) (se A 0) (i : Int))
theorem accs {A : PT} (hV : PV A) : ∀ (c m : Nat) (S : ST), c ≤ 99 → c < m → (∀ h, h < 100 → ∀ i, i < 2432 → bt S (50 + h) i = if h < c then decide (i < 2400 ∧ tideV (ht A) (se A 0) (i : Int) = (h : Int)) else decide (i < 2400 ∧ (h : Int) ≤ tideV (ht A) (se A 0) (i : Int))) → ∃ S', f_X2_layTide_109 m S (iI ((c : Int) - 1)) = some S' ∧ FrF S S' ∧ FL S' A := by
  intro c
  induction c with
  | zero =>
    intro m S hc hm hS
    obtain ⟨m, rfl⟩ : ∃ m', m = m' + 1 := ⟨m - 1, by omega⟩
    rw [f_X2_layTide_109, i_lt (y := 0) (b := 0) rfl rfl (by omega) (by omega), if_pos (by omega)]
    exact ⟨S, rfl, FrF.rf, fun h hh i hi => by rw [hS h hh i hi, if_neg (by omega)]⟩
  | succ c ih =>
    intro m S hc hm hS
    obtain ⟨m, rfl⟩ : ∃ m', m = m' + 1 := ⟨m - 1, by omega⟩
    obtain ⟨S1, e1, o1, -, g1⟩ := ors (h := c) (by omega) (f_X2_layTide_109 m) 38 0 FU S rfl (by show 38 < 20000; omega)
    obtain ⟨S', e, o, g⟩ := ih m S1 (by omega) (by omega) (fun h hh i hi => by
      by_cases hq : h = c
      · subst hq
        have a1 := hS h hh i hi
        have a2 := hS (h + 1) (by omega) i hi
        rw [if_pos (by omega)] at a1
        rw [if_neg (by omega)] at a2
        have a3 : bt S1 (50 + h) i = (bt S (50 + h) i || bt S (50 + h + 1) i) := by
          unfold bt
          rw [g1 (i / 64) (by omega) (by omega), Int64.toBitVec_or, BitVec.getLsbD_or]
        rw [a3, a1, show 50 + h + 1 = 50 + (h + 1) by omega, a2, if_neg (by omega), ← Bool.decide_or]
        exact decide_eq_decide.mpr ⟨fun q => by omega, fun q => by omega⟩
      · rw [bt_cg (o1.2 _ (by omega)), hS h hh i hi]
        by_cases hl : h < c
        · rw [if_pos (by omega), if_pos hl]
        · rw [if_neg (by omega), if_neg hl])
    refine ⟨S', ?_, (FrL.ff (by omega) o1).tr o, g⟩
    rw [f_X2_layTide_109, i_lt (y := 0) (b := 0) rfl rfl (by omega) (by omega), if_neg (by omega), show ((c + 1 : Nat) : Int) - 1 = (c : Int) by omega]
    rw [show f_X2_layTide_115 (f_X2_layTide_109 m) FU S (iI (c : Int)) 0 = _ from e1, show iI (c : Int) + (-1) = iI ((c : Int) - 1) by rw [show (-1 : Int32) = iI (-1) from rfl, iI_add]; rfl, e]
/-- what the search leaves alone but for the tide -/
def FrT (S S' : ST) : Prop := (∀ a, a ≠ 13 → a ≠ 14 → S'.1 a = S.1 a) ∧ (∀ i, i ≠ 2 → S'.1 13 i = S.1 13 i) ∧ ∀ q, (q < 50 ∨ 150 ≤ q) → S'.2 q = S.2 q
theorem tideV_cg {f g : Nat → Int} (h : ∀ i, i < 24 → f i = g i) (late m : Int) : tideV f late m = tideV g late m := by
  unfold tideV
  have h1 : 0 ≤ (m - late) % 1440 ∧ (m - late) % 1440 < 1440 := by omega
  rw [h _ (show ((m - late) % 1440).toNat / 60 < 24 by omega), h _ (show (((m - late) % 1440).toNat / 60 + 1) % 24 < 24 by omega)]
theorem e_layTide {S : ST} {A : PT} (hR : RC S A) (hV : PV A) (hF : FP S) : ∃ S', f_X2_layTide S = some S' ∧ FrT S S' ∧ FL S' A ∧ FP S' := by
  obtain ⟨s0, s1, s2, s3, s4⟩ := hV.2.2.2.1
  obtain ⟨r, er, hr, gr⟩ := e_isLaid hR
  unfold f_X2_layTide
  rw [er, Option.bind_some]
  by_cases h : r = 0
  · rw [if_pos h, cpyN (a := 2) (b := 14) (n := 24) (x := 24) rfl (show 24 ≤ 24 by omega) (show 24 ≤ 24 by omega) (by omega) (by omega), Option.bind_some]
    have k1 : ∀ a, a ≠ 14 → (cpyS S 2 14 0 0 24).1 a = S.1 a := fun a ha => cp0_o ha
    have k2 : ∀ i, i < 24 → (cpyS S 2 14 0 0 24).1 14 i = S.1 2 i := fun i hi => cp0_at hi
    have k3 : (cpyS S 2 14 0 0 24).2 = S.2 := rfl
    generalize cpyS S 2 14 0 0 24 = S2 at k1 k2 k3
    have R2 : RC S2 A := hR.of (by rw [k1 1 (by decide)]) (by rw [k1 1 (by decide)]) (k1 2 (by decide)) (k1 3 (by decide)) (k1 4 (by decide)) (k1 5 (by decide))
    rw [r_se R2 (i := 0) (x := 0) rfl (by omega), Option.bind_some]
    have R3 : RC (sI S2 13 2 (iI (se A 0))) A := R2.fr (by decide) (by decide) (by decide) (by decide) (by decide)
    obtain ⟨S4, e4, o4, -, b4⟩ := wipes 100 0 FU (sI S2 13 2 (iI (se A 0))) rfl (by show 100 < 20000; omega)
    obtain ⟨S5, e5, o5, b5⟩ := bits_in hV 2400 0 FU S4 (R3.c1 o4.1) rfl (by show 2400 < 20000; omega)
    obtain ⟨S6, e6, o6, b6⟩ := accs hV 99 FU S5 (by omega) (by show 99 < 20000; omega) (fun h hh i hi => by
      have hta : i < 2400 → 0 ≤ tideV (ht A) (se A 0) (i : Int) ∧ tideV (ht A) (se A 0) (i : Int) ≤ 99 := fun q => tide_arith hV.2.2.1 s0 (by omega)
      rw [b5 h hh i hi, b4 h (by omega) hh i hi, Bool.false_or]
      by_cases hl : h < 99
      · rw [if_pos hl]
        exact decide_eq_decide.mpr ⟨fun q => q.2, fun q => ⟨by omega, q⟩⟩
      · rw [if_neg hl]
        refine decide_eq_decide.mpr ⟨fun q => ⟨q.2.1, by omega⟩, fun q => ⟨by omega, q.1, ?_⟩⟩
        have := hta q.1
        omega)
    have o : FrF (sI S2 13 2 (iI (se A 0))) S6 := (o4.tr o5).tr o6
    refine ⟨S6, ?_, ⟨fun a h13 h14 => ?_, fun i hi => ?_, fun q hq => ?_⟩, b6, Or.inr ⟨se A 0, ht A, s0, hV.2.2.1, ?_, fun i hi => ?_, fun h hh w hw b hb => ?_⟩⟩
    · rw [show f_X2_layTide_41 FU (sI S2 13 2 (iI (se A 0))) 0 = _ from e4, show f_X2_layTide_64 FU S4 0 = _ from e5, show f_X2_layTide_109 FU S5 98 = _ from e6]
    · rw [o.1, sI_o h13, k1 a h14]
    · rw [o.1, sI_nj hi, k1 13 (by decide)]
    · rw [o.2 q hq]
      show S2.2 q = S.2 q
      rw [k3]
    · rw [o.1, sI_eq]
    · rw [o.1, sI_ne (by decide), k2 i hi]; exact hR.2.1 i hi
    · have := b6 h hh (64 * w + b) (by omega)
      unfold bt at this
      rw [show (64 * w + b) / 64 = w by omega, show (64 * w + b) % 64 = b by omega] at this
      exact this
  · rw [if_neg h]
    obtain ⟨g1, g2⟩ := gr h
    refine ⟨S, rfl, ⟨fun _ _ _ => rfl, fun _ _ => rfl, fun _ _ => rfl⟩, ?_, hF⟩
    rcases hF with f0 | ⟨late, f, q1, q2, q3, q4, q5⟩
    · rw [f0] at g1
      have := (c_eq (x := -1) (a := -1) rfl rfl (by omega) (by omega)).mp g1
      omega
    · rw [q3] at g1
      have el : late = se A 0 := (c_eq rfl rfl (by omega) (by omega)).mp g1
      have ef : ∀ i, i < 24 → f i = ht A i := fun i hi => by
        have h1 := g2 i hi
        rw [q4 i hi, hR.2.1 i hi] at h1
        have t1 := q2 i hi
        have t2 := hV.2.2.1 i hi
        exact (c_eq rfl rfl (by omega) (by omega)).mp h1
      intro h hh i hi
      have := q5 h hh (i / 64) (by omega) (i % 64) (by omega)
      rw [show 64 * (i / 64) + i % 64 = i by omega, tideV_cg ef, el] at this
      exact this
