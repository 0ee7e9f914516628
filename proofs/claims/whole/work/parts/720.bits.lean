/-! ===== rows of bits ===== -/
theorem sl_amt : ∀ n : Nat, n < 64 → (((iI (n : Int)).toInt64 &&& 63).toBitVec.smod 64).toNat = n := by decide +kernel
theorem us_amt : ∀ n : Nat, n < 64 → (((iI (n : Int)).toInt64.toUInt64 &&& Int64.toUInt64 63).toBitVec % 64).toNat = n := by decide +kernel
theorem sl_bv {x : Int64} {n : Nat} (h : n < 64) : (sl64 x (iI (n : Int))).toBitVec = x.toBitVec <<< n := by
  unfold sl64
  rw [Int64.toBitVec_shiftLeft, BitVec.shiftLeft_eq', sl_amt n h]
theorem us_bv {x : Int64} {n : Nat} (h : n < 64) : (us64 x (iI (n : Int))).toBitVec = x.toBitVec >>> n := by
  unfold us64
  show (x.toUInt64 >>> ((iI (n : Int)).toInt64.toUInt64 &&& Int64.toUInt64 63)).toBitVec = _
  rw [UInt64.toBitVec_shiftRight, BitVec.ushiftRight_eq', us_amt n h]
  rfl
theorem lgz {x : Int64} : lg_cmp x 0 = 0 ↔ x = 0 := by
  unfold lg_cmp
  by_cases h : x > 0
  · rw [if_pos h]
    constructor
    · intro q; exact absurd q (by decide)
    · intro q; rw [q] at h; exact absurd h (by decide)
  · rw [if_neg h]
    by_cases h2 : x = 0
    · rw [if_pos h2]; exact ⟨fun _ => h2, fun _ => rfl⟩
    · rw [if_neg h2]
      exact ⟨fun q => absurd q (by decide), fun q => absurd q h2⟩
theorem bit1 (b : BitVec 64) (r : Nat) (hr : r < 64) : (b >>> r) &&& 1#64 = 0#64 ↔ b.getLsbD r = false := by
  constructor
  · intro h
    have h2 := congrArg (fun z => z.getLsbD 0) h
    simpa using h2
  · intro h
    apply BitVec.eq_of_getLsbD_eq
    intro j hj
    rw [BitVec.getLsbD_and, BitVec.getLsbD_ushiftRight, BitVec.getLsbD_one]
    by_cases h0 : j = 0
    · subst h0; simp [h]
    · simp [h0]
theorem bt1 {w : Int64} {r : Nat} (hr : r < 64) : (us64 w (iI (r : Int)) &&& 1) = 0 ↔ w.toBitVec.getLsbD r = false := by
  rw [← bit1 _ r hr, ← us_bv hr, ← Int64.toBitVec_inj, Int64.toBitVec_and]
  exact Iff.rfl
def bt (S : ST) (k i : Nat) : Bool := (S.2 k (i / 64)).toBitVec.getLsbD (i % 64)
theorem bt_cg {S S' : ST} {k i : Nat} (h : S'.2 k = S.2 k) : bt S' k i = bt S k i := by
  unfold bt
  rw [h]
theorem lA3 {k n : Nat} (h : al 3 k = n) (h0 : 0 < n) : lA 3 k = some (iI (n : Int)) := by
  unfold lA
  rw [h, if_pos h0, iI_nat]
  rfl
theorem d64 {a : Nat} (h : a < 100000) : dv (iI (a : Int)) 64 = some (iI ((a / 64 : Nat) : Int)) := by
  rw [dv_ok (b := 64) rfl (show (64 : Int32) = iI 64 from rfl) (by omega) (by omega) (by omega), Int.tdiv_eq_ediv_of_nonneg (by omega)]
  rfl
theorem m64 {a : Nat} (h : a < 100000) : rm (iI (a : Int)) 64 = some (iI ((a % 64 : Nat) : Int)) := by
  rw [rm_ok (b := 64) rfl (show (64 : Int32) = iI 64 from rfl) (by omega) (by omega) (by omega), Int.tmod_eq_emod_of_nonneg (by omega)]
  rfl
theorem w64 {n : Nat} : iI (n : Int) * 64 - 1 = iI (64 * (n : Int) - 1) := by
  rw [show (64 : Int32) = iI 64 from rfl, show (1 : Int32) = iI 1 from rfl, iI_mul, iI_sub]
  congr 1
  omega
theorem e_hasBit {S : ST} {k n : Nat} (hk : al 3 k = n) (h0 : 0 < n) (hn : n ≤ 100) {x : Int32} {a : Int} (hx : x = iI a) (ha : Rg a) : f_X7_hasBit S k x = some (if (0 ≤ a ∧ a ≤ 64 * (n : Int) - 1) ∧ bt S k a.toNat = true then 1 else 0) := by
  unfold f_X7_hasBit
  rw [lA3 hk h0, Option.bind_some, w64, gt01 (e_within (y := 0) (b := 0) (c := 64 * (n : Int) - 1) hx rfl rfl ha (by omega) (by omega))]
  by_cases h : 0 ≤ a ∧ a ≤ 64 * (n : Int) - 1
  · rw [if_pos h]
    obtain ⟨m, rfl⟩ := Int.eq_ofNat_of_zero_le h.1
    rw [hx, d64 (by omega), Option.bind_some, rL_ok (n := m / 64) rfl (by rw [hk]; omega) (by omega), Option.bind_some, m64 (by omega), Option.bind_some]
    have e1 := bt1 (w := S.2 k (m / 64)) (r := m % 64) (by omega)
    have e2 : bt S k ((m : Int)).toNat = (S.2 k (m / 64)).toBitVec.getLsbD (m % 64) := rfl
    by_cases hb : (S.2 k (m / 64)).toBitVec.getLsbD (m % 64) = true
    · rw [if_neg (fun q => by rw [lgz, e1, hb] at q; cases q), if_pos ⟨h, by rw [e2]; exact hb⟩]
    · have hb2 : (S.2 k (m / 64)).toBitVec.getLsbD (m % 64) = false := by
        cases q : (S.2 k (m / 64)).toBitVec.getLsbD (m % 64)
        · rfl
        · exact absurd q hb
      rw [if_pos (lgz.mpr (e1.mpr hb2)), if_neg (fun q => hb (by rw [← e2]; exact q.2))]
  · rw [if_neg h, if_neg (fun q => h q.1)]
/-- one long of a row is written anew -/
def FrL (k : Nat) (S S' : ST) : Prop := S'.1 = S.1 ∧ ∀ q, q ≠ k → S'.2 q = S.2 q
theorem FrL.rf {k : Nat} {S : ST} : FrL k S S := ⟨rfl, fun _ _ => rfl⟩
theorem FrL.tr {k : Nat} {S S1 S2 : ST} (h : FrL k S S1) (g : FrL k S1 S2) : FrL k S S2 := ⟨g.1.trans h.1, fun q hq => (g.2 q hq).trans (h.2 q hq)⟩
theorem FrL.sL {k j : Nat} {S : ST} {x : Int64} : FrL k S (sL S k j x) := ⟨rfl, fun q hq => by
  show (if q = k then _ else S.2 q) = S.2 q
  rw [if_neg hq]⟩
theorem sL_eq {S : ST} {k j : Nat} {x : Int64} : (sL S k j x).2 k j = x := by rw [sL_22, if_pos ⟨rfl, rfl⟩]
theorem sL_nj {S : ST} {k j b : Nat} {x : Int64} (h : b ≠ j) : (sL S k j x).2 k b = S.2 k b := by rw [sL_22, if_neg (fun q => h q.2)]
theorem one_bit (r i : Nat) (hr : r < 64) (hi : i < 64) : ((1#64) <<< r).getLsbD i = decide (i = r) := by
  rw [BitVec.getLsbD_shiftLeft, BitVec.getLsbD_one]
  by_cases h : i = r
  · subst h; simp [hi]
  · by_cases h2 : i < r
    · simp [h, h2]
    · simp [h, show i - r ≠ 0 by omega]
theorem e_putBit {S : ST} {k n a : Nat} (hk : al 3 k = n) (h0 : 0 < n) (hn : n ≤ 100) (ha : a < 64 * n) {x : Int32} (hx : x = iI (a : Int)) : ∃ S', f_X7_putBit S k x = some S' ∧ FrL k S S' ∧ ∀ i, bt S' k i = (bt S k i || decide (i = a)) := by
  refine ⟨sL S k (a / 64) (S.2 k (a / 64) ||| sl64 1 (iI ((a % 64 : Nat) : Int))), ?_, FrL.sL, fun i => ?_⟩
  · unfold f_X7_putBit
    rw [lA3 hk h0, Option.bind_some, w64, gt01 (e_within (y := 0) (b := 0) (c := 64 * (n : Int) - 1) hx rfl rfl (by omega) (by omega) (by omega)), if_pos (by omega), hx, d64 (by omega), Option.bind_some, rL_ok (n := a / 64) rfl (by rw [hk]; omega) (by omega), Option.bind_some, m64 (by omega), Option.bind_some, wL_ok (n := a / 64) rfl (by rw [hk]; omega) (by omega), Option.bind_some]
  · unfold bt
    by_cases h : i / 64 = a / 64
    · rw [h, sL_eq, Int64.toBitVec_or, BitVec.getLsbD_or, sl_bv (by omega), show (1 : Int64).toBitVec = 1#64 from rfl, one_bit _ _ (by omega) (by omega)]
      congr 1
      exact decide_eq_decide.mpr ⟨fun q => by omega, fun q => by omega⟩
    · rw [sL_nj h, decide_eq_false (fun q => h (by rw [q])), Bool.or_false]
theorem wipe_go {k n : Nat} (hk : al 3 k = n) (h0 : 0 < n) (hn : n ≤ 100) : ∀ (d i m : Nat) (S : ST), i + d = n → d < m → ∃ S', f_X2_wipe_2 m S k (iI (i : Int)) = some S' ∧ FrL k S S' ∧ (∀ j, j < i → S'.2 k j = S.2 k j) ∧ ∀ j, i ≤ j → j < n → S'.2 k j = 0 := by
  intro d
  induction d with
  | zero =>
    intro i m S hi hm
    obtain ⟨m, rfl⟩ : ∃ m', m = m' + 1 := ⟨m - 1, by omega⟩
    rw [f_X2_wipe_2, lA3 hk h0, Option.bind_some, i_le (x := iI (n : Int)) (y := iI (i : Int)) rfl rfl (by omega) (by omega), if_pos (by omega)]
    exact ⟨S, rfl, FrL.rf, fun _ _ => rfl, fun j h1 h2 => by omega⟩
  | succ d ih =>
    intro i m S hi hm
    obtain ⟨m, rfl⟩ : ∃ m', m = m' + 1 := ⟨m - 1, by omega⟩
    obtain ⟨S', e, o, g1, g2⟩ := ih (i + 1) m (sL S k i 0) (by omega) (by omega)
    refine ⟨S', ?_, FrL.sL.tr o, fun j hj => by rw [g1 j (by omega), sL_nj (by omega)], fun j h1 h2 => ?_⟩
    · rw [f_X2_wipe_2, lA3 hk h0, Option.bind_some, i_le (x := iI (n : Int)) (y := iI (i : Int)) rfl rfl (by omega) (by omega), if_neg (by omega), wL_ok (n := i) rfl (by rw [hk]; omega) (by omega), Option.bind_some, i_next, e]
    · by_cases hj : j = i
      · rw [g1 j (by omega), hj, sL_eq]
      · exact g2 j (by omega) h2
theorem z_bit (i : Nat) : (0 : Int64).toBitVec.getLsbD i = false := by
  show (0#64).getLsbD i = false
  exact BitVec.getLsbD_zero
theorem e_wipe {S : ST} {k n : Nat} (hk : al 3 k = n) (h0 : 0 < n) (hn : n ≤ 100) : ∃ S', f_X2_wipe S k = some S' ∧ FrL k S S' ∧ ∀ i, i < 64 * n → bt S' k i = false := by
  obtain ⟨S', e, o, -, g⟩ := wipe_go hk h0 hn n 0 FU S (by omega) (by show n < 20000; omega)
  exact ⟨S', e, o, fun i hi => by unfold bt; rw [g (i / 64) (by omega) (by omega)]; exact z_bit _⟩
/-! the first bit from a place on -/
theorem lowbit (b : BitVec 64) (j : Nat) (hj : j < 64) (h1 : b.getLsbD j = true) (h2 : ∀ i, i < j → b.getLsbD i = false) : (b &&& -b) - 1#64 = BitVec.ofNat 64 (2 ^ j - 1) := by
  have e : b &&& -b = BitVec.twoPow 64 j := by
    apply BitVec.eq_of_getLsbD_eq
    intro i hi
    rw [BitVec.getLsbD_and, BitVec.getLsbD_neg, BitVec.getLsbD_twoPow]
    by_cases h : i = j
    · subst h
      have hn : ¬ ∃ l, l < i ∧ b.getLsbD l = true := fun ⟨l, q1, q2⟩ => by rw [h2 l q1] at q2; cases q2
      simp [h1, hi, hn]
    · by_cases hl : i < j
      · rw [h2 i hl]; simp [h, Ne.symm h]
      · have he : ∃ l, l < i ∧ b.getLsbD l = true := ⟨j, by omega, h1⟩
        simp [hi, he, h, Ne.symm h]
  rw [e]
  apply BitVec.eq_of_toNat_eq
  have hp : 2 ^ j < 2 ^ 64 := Nat.pow_lt_pow_right (by decide) hj
  have hp0 : 0 < 2 ^ j := Nat.pow_pos (by decide)
  rw [BitVec.toNat_sub, BitVec.toNat_twoPow, BitVec.toNat_ofNat, BitVec.toNat_ofNat]
  rw [Nat.mod_eq_of_lt hp, Nat.mod_eq_of_lt (show 2 ^ j - 1 < 2 ^ 64 by omega)]
  omega
theorem bc_low : ∀ j : Nat, j < 64 → f_J13_bitCount_95d88 (Int64.ofBitVec (BitVec.ofNat 64 (2 ^ j - 1))) = some (iI (j : Int)) := by decide +kernel
theorem bc_first {b : Int64} {j : Nat} (hj : j < 64) (h1 : b.toBitVec.getLsbD j = true) (h2 : ∀ i, i < j → b.toBitVec.getLsbD i = false) : f_J13_bitCount_95d88 ((b &&& -b) - 1) = some (iI (j : Int)) := by
  rw [← bc_low j hj]
  congr 1
  apply Int64.toBitVec_inj.mp
  rw [Int64.toBitVec_sub, Int64.toBitVec_and, Int64.toBitVec_neg]
  exact lowbit _ j hj h1 h2
theorem nz_bit {b : Int64} (h : b ≠ 0) : ∃ j, j < 64 ∧ b.toBitVec.getLsbD j = true ∧ ∀ i, i < j → b.toBitVec.getLsbD i = false := by
  have hex : ∃ j, j < 64 ∧ b.toBitVec.getLsbD j = true := by
    apply Classical.byContradiction
    intro q
    apply h
    apply Int64.toBitVec_inj.mp
    apply BitVec.eq_of_getLsbD_eq
    intro i hi
    rw [z_bit]
    cases hb : b.toBitVec.getLsbD i
    · rfl
    · exact absurd ⟨i, hi, hb⟩ q
  have key : ∀ n, (∃ j, j < n ∧ b.toBitVec.getLsbD j = true) → ∃ j, j < n ∧ b.toBitVec.getLsbD j = true ∧ ∀ i, i < j → b.toBitVec.getLsbD i = false := by
    intro n
    induction n with
    | zero => rintro ⟨j, q, -⟩; omega
    | succ n ih =>
      rintro ⟨j, q1, q2⟩
      by_cases hs : ∃ j, j < n ∧ b.toBitVec.getLsbD j = true
      · obtain ⟨l, p1, p2, p3⟩ := ih hs
        exact ⟨l, by omega, p2, p3⟩
      · refine ⟨j, q1, q2, fun i hi => ?_⟩
        cases hb : b.toBitVec.getLsbD i
        · rfl
        · exact absurd ⟨i, by omega, hb⟩ hs
  exact key 64 hex
theorem m1_bit (i : Nat) (hi : i < 64) : (-1 : Int64).toBitVec.getLsbD i = true := by
  show (BitVec.allOnes 64).getLsbD i = true
  rw [BitVec.getLsbD_allOnes]
  exact decide_eq_true hi
theorem ff_go {S : ST} {k n a : Nat} (hk : al 3 k = n) (h0 : 0 < n) (hn : n ≤ 100) : ∀ (d w m : Nat) (L : Int64), w + d = n → d < m → a < 64 * (w + 1) → (∀ i, i < 64 → L.toBitVec.getLsbD i = decide (a ≤ 64 * w + i)) → (∃ e, a ≤ e ∧ 64 * w ≤ e ∧ e < 64 * n ∧ bt S k e = true ∧ (∀ i, a ≤ i → 64 * w ≤ i → i < e → bt S k i = false) ∧ f_X7_firstFrom_22 S m k L (iI (w : Int)) = some (iI (e : Int))) ∨ ((∀ i, a ≤ i → 64 * w ≤ i → i < 64 * n → bt S k i = false) ∧ f_X7_firstFrom_22 S m k L (iI (w : Int)) = some (-4)) := by
  intro d
  induction d with
  | zero =>
    intro w m L hw hm haw hL
    obtain ⟨m, rfl⟩ : ∃ m', m = m' + 1 := ⟨m - 1, by omega⟩
    right
    refine ⟨fun i h1 h2 h3 => by omega, ?_⟩
    rw [f_X7_firstFrom_22, lA3 hk h0, Option.bind_some, i_le (x := iI (n : Int)) (y := iI (w : Int)) rfl rfl (by omega) (by omega), if_pos (by omega)]
  | succ d ih =>
    intro w m L hw hm haw hL
    obtain ⟨m, rfl⟩ : ∃ m', m = m' + 1 := ⟨m - 1, by omega⟩
    have hb : ∀ i, i < 64 → (S.2 k w &&& L).toBitVec.getLsbD i = (bt S k (64 * w + i) && decide (a ≤ 64 * w + i)) := fun i hi => by
      rw [Int64.toBitVec_and, BitVec.getLsbD_and, hL i hi]
      unfold bt
      rw [show (64 * w + i) / 64 = w by omega, show (64 * w + i) % 64 = i by omega]
    rw [f_X7_firstFrom_22, lA3 hk h0, Option.bind_some, i_le (x := iI (n : Int)) (y := iI (w : Int)) rfl rfl (by omega) (by omega), if_neg (by omega), rL_ok (n := w) rfl (by rw [hk]; omega) (by omega), Option.bind_some]
    by_cases hz : S.2 k w &&& L = 0
    · have hall : ∀ i, i < 64 → a ≤ 64 * w + i → bt S k (64 * w + i) = false := fun i hi ha => by
        have := hb i hi
        rw [hz, z_bit, decide_eq_true ha, Bool.and_true] at this
        exact this.symm
      have hin : ∀ i, a ≤ i → 64 * w ≤ i → i < 64 * (w + 1) → bt S k i = false := fun i h1 h2 h3 => by
        have := hall (i - 64 * w) (by omega) (by omega)
        rw [show 64 * w + (i - 64 * w) = i by omega] at this
        exact this
      rcases ih (w + 1) m (-1) (by omega) (by omega) (by omega) (fun i hi => by rw [m1_bit i hi, decide_eq_true (by omega)]) with ⟨e, q1, q2, q3, q4, q5, q6⟩ | ⟨q1, q2⟩
      · left
        refine ⟨e, q1, by omega, q3, q4, fun i h1 h2 h3 => ?_, ?_⟩
        · by_cases hi : i < 64 * (w + 1)
          · exact hin i h1 h2 hi
          · exact q5 i h1 (by omega) h3
        · rw [if_pos (lgz.mpr hz), i_next, q6]
      · right
        refine ⟨fun i h1 h2 h3 => ?_, ?_⟩
        · by_cases hi : i < 64 * (w + 1)
          · exact hin i h1 h2 hi
          · exact q1 i h1 (by omega) h3
        · rw [if_pos (lgz.mpr hz), i_next, q2]
    · obtain ⟨j, j1, j2, j3⟩ := nz_bit hz
      left
      have hj := hb j j1
      rw [j2] at hj
      have hj2 := hj.symm
      rw [Bool.and_eq_true] at hj2
      refine ⟨64 * w + j, of_decide_eq_true hj2.2, by omega, by omega, hj2.1, fun i h1 h2 h3 => ?_, ?_⟩
      · have := hb (i - 64 * w) (by omega)
        rw [j3 _ (by omega), show 64 * w + (i - 64 * w) = i by omega, decide_eq_true h1, Bool.and_true] at this
        exact this.symm
      · rw [if_neg (fun q => hz (lgz.mp q)), bc_first j1 j2 j3, Option.bind_some, show (64 : Int32) = iI 64 from rfl, iI_mul, iI_add]
        congr 2
        omega
theorem e_firstFrom {S : ST} {k n a : Nat} (hk : al 3 k = n) (h0 : 0 < n) (hn : n ≤ 100) (ha : a < 100000) : (∃ e, a ≤ e ∧ e < 64 * n ∧ bt S k e = true ∧ (∀ i, a ≤ i → i < e → bt S k i = false) ∧ f_X7_firstFrom S k (iI (a : Int)) = some (iI (e : Int))) ∨ ((∀ i, a ≤ i → i < 64 * n → bt S k i = false) ∧ f_X7_firstFrom S k (iI (a : Int)) = some (-4)) := by
  have e0 : f_X7_firstFrom S k (iI (a : Int)) = f_X7_firstFrom_22 S FU k (sl64 (-1) (iI ((a % 64 : Nat) : Int))) (iI ((a / 64 : Nat) : Int)) := by
    unfold f_X7_firstFrom
    rw [i_le (x := 0) (a := 0) (b := (a : Int)) rfl rfl (by omega) (by omega), if_pos (by omega), m64 ha, Option.bind_some, d64 ha, Option.bind_some]
  rw [e0]
  by_cases hw : n ≤ a / 64
  · right
    refine ⟨fun i h1 h2 => by omega, ?_⟩
    unfold FU
    rw [f_X7_firstFrom_22, lA3 hk h0, Option.bind_some, i_le (x := iI (n : Int)) (y := iI ((a / 64 : Nat) : Int)) rfl rfl (by omega) (by omega), if_pos (by omega)]
  · have hm : ∀ i, i < 64 → (sl64 (-1) (iI ((a % 64 : Nat) : Int))).toBitVec.getLsbD i = decide (a ≤ 64 * (a / 64) + i) := fun i hi => by
      rw [sl_bv (by omega), BitVec.getLsbD_shiftLeft]
      by_cases h : i < a % 64
      · rw [decide_eq_false (show ¬ a ≤ 64 * (a / 64) + i by omega)]; simp [h]
      · rw [m1_bit _ (by omega), decide_eq_true (show a ≤ 64 * (a / 64) + i by omega)]; simp [h, hi]
    rcases ff_go (S := S) (a := a) hk h0 hn (n - a / 64) (a / 64) FU _ (by omega) (by show n - a / 64 < 20000; omega) (by omega) hm with ⟨e, q1, q2, q3, q4, q5, q6⟩ | ⟨q1, q2⟩
    · exact Or.inl ⟨e, q1, q3, q4, fun i h1 h2 => q5 i h1 (by omega) h2, q6⟩
    · exact Or.inr ⟨fun i h1 h2 => q1 i h1 (by omega) h2, q2⟩
theorem i_prev {i : Nat} : iI ((i + 1 : Nat) : Int) + (-1) = iI (i : Int) := by
  rw [show (-1 : Int32) = iI (-1) from rfl, iI_add]
  congr 1
  omega
theorem lo_go {S : ST} {k n : Nat} (hk : al 3 k = n) (h0 : 0 < n) (hn : n ≤ 100) : ∀ (i m : Nat), i ≤ 64 * n → i < m → (∃ e, e < i ∧ bt S k e = true ∧ (∀ j, e < j → j < i → bt S k j = false) ∧ f_X7_lastOf_8 S m k (iI ((i : Int) - 1)) = some (iI (e : Int))) ∨ ((∀ j, j < i → bt S k j = false) ∧ f_X7_lastOf_8 S m k (iI ((i : Int) - 1)) = some (-4)) := by
  intro i
  induction i with
  | zero =>
    intro m hi hm
    obtain ⟨m, rfl⟩ : ∃ m', m = m' + 1 := ⟨m - 1, by omega⟩
    right
    refine ⟨fun j hj => by omega, ?_⟩
    rw [f_X7_lastOf_8, i_lt (y := 0) (b := 0) rfl rfl (by omega) (by omega), if_pos (by omega)]
  | succ i ih =>
    intro m hi hm
    obtain ⟨m, rfl⟩ : ∃ m', m = m' + 1 := ⟨m - 1, by omega⟩
    have e1 : f_X7_lastOf_8 S (m + 1) k (iI (((i + 1 : Nat) : Int) - 1)) = if bt S k i = true then some (iI (i : Int)) else f_X7_lastOf_8 S m k (iI ((i : Int) - 1)) := by
      rw [f_X7_lastOf_8, i_lt (y := 0) (b := 0) rfl rfl (by omega) (by omega), if_neg (by omega), show ((i + 1 : Nat) : Int) - 1 = (i : Int) by omega, gt01 (e_hasBit hk h0 hn (a := (i : Int)) rfl (by omega)), show iI (i : Int) + (-1) = iI ((i : Int) - 1) by rw [show (-1 : Int32) = iI (-1) from rfl, iI_add]; rfl]
      by_cases hb : bt S k i = true
      · rw [if_pos hb, if_pos ⟨by omega, hb⟩]
      · rw [if_neg hb, if_neg (fun q => hb q.2)]
    rw [e1]
    by_cases hb : bt S k i = true
    · rw [if_pos hb]
      exact Or.inl ⟨i, by omega, hb, fun j h1 h2 => by omega, rfl⟩
    · rw [if_neg hb]
      have hb2 : bt S k i = false := by
        cases q : bt S k i
        · rfl
        · exact absurd q hb
      rcases ih m (by omega) (by omega) with ⟨e, q1, q2, q3, q4⟩ | ⟨q1, q2⟩
      · refine Or.inl ⟨e, by omega, q2, fun j h1 h2 => ?_, q4⟩
        by_cases hj : j = i
        · rw [hj]; exact hb2
        · exact q3 j h1 (by omega)
      · refine Or.inr ⟨fun j hj => ?_, q2⟩
        by_cases hj2 : j = i
        · rw [hj2]; exact hb2
        · exact q1 j (by omega)
theorem e_lastOf {S : ST} {k n : Nat} (hk : al 3 k = n) (h0 : 0 < n) (hn : n ≤ 100) : (∃ e, e < 64 * n ∧ bt S k e = true ∧ (∀ j, e < j → j < 64 * n → bt S k j = false) ∧ f_X7_lastOf S k = some (iI (e : Int))) ∨ ((∀ j, j < 64 * n → bt S k j = false) ∧ f_X7_lastOf S k = some (-4)) := by
  unfold f_X7_lastOf
  rw [lA3 hk h0, Option.bind_some, w64]
  exact lo_go hk h0 hn (64 * n) FU (Nat.le_refl _) (by show 64 * n < 20000; omega)
