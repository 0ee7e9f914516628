/-! ===== day: what both lay ahead ===== -/
theorem us32_amt : ∀ n : Nat, n < 32 → (((iI (n : Int)).toUInt32 &&& Int32.toUInt32 31).toBitVec % 32).toNat = n := by decide +kernel
theorem us32_bv {x : Int32} {n : Nat} (h : n < 32) : (us32 x (iI (n : Int))).toBitVec = x.toBitVec >>> n := by
  unfold us32
  show (x.toUInt32 >>> ((iI (n : Int)).toUInt32 &&& Int32.toUInt32 31)).toBitVec = _
  rw [UInt32.toBitVec_shiftRight, BitVec.ushiftRight_eq', us32_amt n h]
  rfl
theorem us32_0 {x : Int32} {a : Int} {n : Nat} (hx : x = iI a) (ha : Rg a) (hn : n ≤ 6) : us32 x (iI (n : Int)) = 0 ↔ 0 ≤ a ∧ a < ((2 ^ n : Nat) : Int) := by
  have q1 : 1 ≤ 2 ^ n := Nat.one_le_two_pow
  have q2 : 2 ^ n ≤ 2 ^ 6 := Nat.pow_le_pow_right (by omega) hn
  have e1 : x.toBitVec.toNat = (a % 4294967296).toNat := by
    rw [hx]
    show (BitVec.ofInt 32 a).toNat = _
    rw [BitVec.toNat_ofInt]
    rfl
  have e2 : us32 x (iI (n : Int)) = 0 ↔ x.toBitVec.toNat / 2 ^ n = 0 := by
    constructor
    · intro h
      have h2 := us32_bv (x := x) (n := n) (by omega)
      rw [h] at h2
      have h3 := congrArg BitVec.toNat h2
      rw [BitVec.toNat_ushiftRight, Nat.shiftRight_eq_div_pow] at h3
      exact h3.symm
    · intro h
      apply Int32.toBitVec_inj.mp
      rw [us32_bv (by omega)]
      apply BitVec.eq_of_toNat_eq
      rw [BitVec.toNat_ushiftRight, Nat.shiftRight_eq_div_pow, h]
      rfl
  rw [e2, e1, Nat.div_eq_zero_iff_lt (by omega)]
  generalize 2 ^ n = q at *
  have q3 : (2 : Nat) ^ 6 = 64 := by decide
  omega
theorem top_ok : ∀ n : Nat, n < 7 → (((1 : Int32) <<< (iI (n : Int) &&& 31)) - 1) = iI (((2 ^ n : Nat) : Int) - 1) := by decide +kernel
def plV (m j : Nat) : List Nat := (List.range j).filter (fun s => Nat.testBit m s)
theorem pl_all : ∀ k, k < 7 → ∀ m, m < 64 → m < 2 ^ k → plV m k = lsV m := by decide +kernel
theorem pl_le (m j : Nat) : (plV m j).length ≤ j := by
  have := List.length_filter_le (fun s => Nat.testBit m s) (List.range j)
  rw [List.length_range] at this
  exact this
theorem pl_yes {m j : Nat} (h : Nat.testBit m j = true) : plV m (j + 1) = plV m j ++ [j] := by
  unfold plV
  rw [List.range_succ, List.filter_append, List.filter_cons, if_pos h]
  rfl
theorem pl_no {m j : Nat} (h : ¬ Nat.testBit m j = true) : plV m (j + 1) = plV m j := by
  unfold plV
  rw [List.range_succ, List.filter_append, List.filter_cons, if_neg h, List.filter_nil, List.append_nil]
def FF (A : PT) (s t : Nat) : Bool := decide (lfV (KS A s) (mi A) 0 t < 100000)
def RwO (S : ST) (A : PT) (s : Nat) : Prop := ∀ t, t < 1472 → (bt S (167 + s) t = true ↔ t < 1440 ∧ FF A s t = true)
theorem cd61 {S0 : ST} {A : PT} (hV : PV A) (hR : RC S0 A) {m : Nat} (hm : m < 64) (x2 x3 : Int32) : ∀ (c j n : Nat) (S : ST), j + c = nsh A → c < n → SQ S0 S → FL S A → (∀ s, s < j → Nat.testBit m s = true → RwO S A s) → ∃ S1, f_X7_day_61 n S (iI (m : Int)) x2 x3 (iI (j : Int)) = (b2 (f_X0_arrange S1 (iI (m : Int)) x2) fun v1 S2 => if x3 < 0 then (some (v1, S2)) else (if v1 = (-4) then (some (v1, S2)) else ((f_X0_goes S2 x3).bind fun v3 => some (v3, S2)))) ∧ SQ S0 S1 ∧ ∀ s, s < nsh A → Nat.testBit m s = true → RwO S1 A s := by
  have h6 := hV.1.2
  intro c
  induction c with
  | zero =>
    intro j n S hj hn q f rw0
    obtain ⟨n, rfl⟩ : ∃ n', n = n' + 1 := ⟨n - 1, by omega⟩
    have : j = nsh A := by omega
    subst this
    refine ⟨S, ?_, q, rw0⟩
    rw [f_X7_day_61, (q.rc hR).1.2, i_le (x := iI (nsh A : Int)) (y := iI (nsh A : Int)) rfl rfl (by omega) (by omega), if_pos (by omega)]
  | succ c ih =>
    intro j n S hj hn q f rw0
    obtain ⟨n, rfl⟩ : ∃ n', n = n' + 1 := ⟨n - 1, by omega⟩
    have hjn : j < nsh A := by omega
    rw [f_X7_day_61, (q.rc hR).1.2, i_le (x := iI (nsh A : Int)) (y := iI (j : Int)) rfl rfl (by omega) (by omega), if_neg (by omega), (bit_ok m hm j (by omega)).1]
    unfold f_X7_day_118
    rw [i_next]
    by_cases hb : Nat.testBit m j = true
    · rw [if_pos hb, if_neg (by decide)]
      obtain ⟨S1, e1, o1, t1⟩ := e_begin (q.rc hR) hV (x := iI (j : Int)) rfl hjn
      have q1 := q.only o1 (Or.inl rfl)
      have f1 : FL S1 A := f.cg (fun q _ _ => by rw [o1.2])
      obtain ⟨S2, e2, q2, f2, t2, g2, o2⟩ := s_rule hV hR (TVs hV hjn) q1 f1 t1
      obtain ⟨S3, e3, o3, w3, b3⟩ := e_findStarts hV (q2.rc hR) (KK_mono hV (TVs hV hjn)) g2 (s := j) (by omega)
      have q3 := q2.lo o3 (fun q hq => w3 q (by omega))
      have f3 : FL S3 A := f2.cg (fun q _ h2 => w3 q (by omega))
      obtain ⟨S4, e4, q4, r4⟩ := ih (j + 1) n S3 (by omega) (by omega) q3 f3 (fun s hs hbs => by
        by_cases hsj : s = j
        · subst hsj
          intro t ht
          rw [b3 t ht]
          unfold FF
          rw [decide_eq_true_iff]
        · intro t ht
          rw [bt_cg (show S3.2 (167 + s) = S.2 (167 + s) by rw [w3 (167 + s) (by omega), o2.2, o1.2])]
          exact rw0 s (by omega) hbs t ht)
      refine ⟨S4, ?_, q4, r4⟩
      unfold f_X0_startsOf
      rw [e1, Option.bind_some, e2, Option.bind_some, rSt (h := j) (by omega) rfl, Option.bind_some, Option.bind_some, e3, Option.bind_some]
      exact e4
    · rw [if_neg hb, if_pos rfl]
      exact ih (j + 1) n S (by omega) (by omega) q f (fun s hs hbs => by
        by_cases hsj : s = j
        · subst hsj; exact absurd hbs hb
        · exact rw0 s (by omega) hbs)
def F4 (T T' : ST) : Prop := (∀ q, q ≠ 39 → q ≠ 40 → q ≠ 42 → q ≠ 43 → q ≠ 44 → T'.1 q = T.1 q) ∧ T'.2 = T.2
theorem F4.rf {T : ST} : F4 T T := ⟨fun _ _ _ _ _ _ => rfl, rfl⟩
theorem F4.tr {T T1 T2 : ST} (h : F4 T T1) (g : F4 T1 T2) : F4 T T2 := ⟨fun q h1 h2 h3 h4 h5 => (g.1 q h1 h2 h3 h4 h5).trans (h.1 q h1 h2 h3 h4 h5), g.2.trans h.2⟩
theorem F4.rm {S S' : ST} {A : PT} (h : F4 S S') (hM : RM S A) : RM S' A := hM.of (by rw [h.1 30 (by decide) (by decide) (by decide) (by decide) (by decide)]) (by rw [h.1 30 (by decide) (by decide) (by decide) (by decide) (by decide)]) (h.1 32 (by decide) (by decide) (by decide) (by decide) (by decide)) (h.1 33 (by decide) (by decide) (by decide) (by decide) (by decide)) (h.1 31 (by decide) (by decide) (by decide) (by decide) (by decide)) (h.1 34 (by decide) (by decide) (by decide) (by decide) (by decide))
theorem F90.f4 {T T' : ST} (h : F90 T T') : F4 T T' := ⟨fun q h1 h2 _ _ _ => h.1 q h1 h2, h.2⟩
theorem F434.f4 {T T' : ST} (h : F434 T T') : F4 T T' := ⟨fun q _ _ _ h4 h5 => h.1 q h4 h5, h.2⟩
theorem d96 {f : Nat → Bool} (k62 : ST → Int32 → Int32 → Int32 → Int32 → Int32 → Option (Int32 × ST)) (x1 x2 x3 : Int32) {s n : Nat} (hs : s < 6) (hn : n < 6) : ∀ (c fu : Nat) (T : ST), c ≤ 1440 → c < fu → (∀ u, u < 1440 → T.1 39 u = if f u = true then 1 else 0) → ∃ T', f_X8_day_96 k62 fu T x1 x2 x3 (iI (n : Int)) (iI (s : Int)) (iI (nfV f c : Int)) (iI ((c : Int) - 1)) = f_X8_day_154 k62 T' x1 x2 x3 (iI (n : Int) + 1) (iI (s : Int)) ∧ ((∀ q, q ≠ 42 → q ≠ 43 → T'.1 q = T.1 q) ∧ T'.2 = T.2) ∧ (∀ i, (i < 1440 * s ∨ 1440 * s + c ≤ i) → T'.1 42 i = T.1 42 i) ∧ (∀ t, t < c → T'.1 42 (1440 * s + t) = iI (nfV f t : Int)) ∧ (∀ i, i ≠ n → T'.1 43 i = T.1 43 i) ∧ T'.1 43 n = iI (s : Int) := by
  intro c
  induction c with
  | zero =>
    intro fu T hc hf hrow
    obtain ⟨fu, rfl⟩ : ∃ f', fu = f' + 1 := ⟨fu - 1, by omega⟩
    refine ⟨sI T 43 n (iI (s : Int)), ?_, ⟨fun q _ h2 => sI_o h2, rfl⟩, fun i _ => sI_ne (by decide), fun t ht => by omega, fun i hi => sI_nj hi, sI_eq⟩
    rw [f_X8_day_96, i_lt (y := 0) (b := 0) rfl rfl (by omega) (by omega), if_pos (by omega), wI_ok (k := 43) (n := n) rfl rfl (by rw [al43]; omega) (by omega), Option.bind_some]
  | succ c ih =>
    intro fu T hc hf hrow
    obtain ⟨fu, rfl⟩ : ∃ f', fu = f' + 1 := ⟨fu - 1, by omega⟩
    obtain ⟨T', e1, e2, e3, e4, e5, e6⟩ := ih fu (sI T 42 (1440 * s + c) (iI (nfV f c : Int))) (by omega) (by omega) (fun u hu => by rw [sI_ne (by decide)]; exact hrow u hu)
    refine ⟨T', ?_, ⟨fun q h1 h2 => by rw [e2.1 q h1 h2, sI_o h1], e2.2⟩, fun i hi => by rw [e3 i (by omega), sI_nj (by omega)], fun t ht => ?_, fun i hi => by rw [e5 i hi, sI_ne (by decide)], e6⟩
    · have ix : (1440 * iI (s : Int)) + iI (c : Int) = iI ((1440 * s + c : Nat) : Int) := by
        rw [show (1440 : Int32) = iI 1440 from rfl, iI_mul, iI_add]
        rfl
      have st := nf_step f (a := c) (by omega)
      rw [show ((c + 1 : Nat) : Int) - 1 = (c : Int) by omega, f_X8_day_96, i_lt (y := 0) (b := 0) rfl rfl (by omega) (by omega), if_neg (by omega), rI_ok (t := 2) (k := 39) (n := c) rfl rfl (by rw [al39]; omega) (by omega), hrow c (by omega), Option.bind_some]
      unfold f_X8_day_118
      rw [wI_ok (k := 42) ix rfl (by rw [al42]; omega) (by omega), wI_ok (k := 42) ix rfl (by rw [al42]; omega) (by omega), Option.bind_some, Option.bind_some, i_prev1]
      by_cases h : f c = true
      · rw [if_pos h] at st
        rw [if_pos h, if_neg (by decide)]
        rw [st] at e1
        exact e1
      · rw [if_neg h] at st
        rw [if_neg h, if_pos rfl, ← st]
        exact e1
    · by_cases htc : t = c
      · subst htc
        rw [e3 _ (by omega), sI_eq]
      · exact e4 t (by omega)
theorem d62 {A : PT} (hV : PV A) {m : Nat} (hm : m < 64) (x2 x3 : Int32) : ∀ (c j fu : Nat) (T : ST), j + c = nsh A → c < fu → RM T A → (∀ i, i < (plV m j).length → T.1 43 i = iI ((plV m j).getD i 0 : Int)) → (∀ s, s < j → Nat.testBit m s = true → ∀ t, t < 1440 → T.1 42 (1440 * s + t) = iI (nfV (FF A s) t : Int)) → ∃ T', f_X8_day_62 fu T (iI (m : Int)) x2 x3 (iI ((plV m j).length : Int)) (iI (j : Int)) = f_X8_day_167 FU T' x2 x3 (iI ((plV m (nsh A)).length : Int)) (iI (100000 : Int)) 1 ∧ F4 T T' ∧ (∀ i, i < (plV m (nsh A)).length → T'.1 43 i = iI ((plV m (nsh A)).getD i 0 : Int)) ∧ ∀ s, s < nsh A → Nat.testBit m s = true → ∀ t, t < 1440 → T'.1 42 (1440 * s + t) = iI (nfV (FF A s) t : Int) := by
  have h6 := hV.1.2
  intro c
  induction c with
  | zero =>
    intro j fu T hj hf hM h43 h42
    obtain ⟨fu, rfl⟩ : ∃ f', fu = f' + 1 := ⟨fu - 1, by omega⟩
    have : j = nsh A := by omega
    subst this
    refine ⟨T, ?_, F4.rf, h43, h42⟩
    rw [f_X8_day_62, hM.1.2, i_le (x := iI (nsh A : Int)) (y := iI (nsh A : Int)) rfl rfl (by omega) (by omega), if_pos (by omega)]
    rfl
  | succ c ih =>
    intro j fu T hj hf hM h43 h42
    obtain ⟨fu, rfl⟩ : ∃ f', fu = f' + 1 := ⟨fu - 1, by omega⟩
    have hjn : j < nsh A := by omega
    have pl := pl_le m j
    rw [f_X8_day_62, hM.1.2, i_le (x := iI (nsh A : Int)) (y := iI (j : Int)) rfl rfl (by omega) (by omega), if_neg (by omega), (bit_ok m hm j (by omega)).1]
    by_cases hb : Nat.testBit m j = true
    · rw [if_pos hb, if_pos rfl]
      obtain ⟨T1, e1, o1, g1⟩ := m_startsOf hV hM hjn (x := iI (j : Int)) rfl
      obtain ⟨T2, e2, o2, g2, g3, g4, g5⟩ := d96 (f := FF A j) (f_X8_day_62 fu) (iI (m : Int)) x2 x3 (s := j) (n := (plV m j).length) (by omega) (by omega) 1440 FU T1 (Nat.le_refl _) (by show 1440 < 20000; omega) (fun u hu => by
        rw [g1 u hu]
        unfold FF
        by_cases h : lfV (KS A j) (mi A) 0 u < 100000
        · rw [if_pos h, if_pos (decide_eq_true h)]
        · rw [if_neg h, if_neg (fun z => h (of_decide_eq_true z))])
      have o12 : F4 T T2 := o1.f4.tr ⟨fun q _ _ h3 h4 _ => o2.1 q h3 h4, o2.2⟩
      have lp : (plV m (j + 1)).length = (plV m j).length + 1 := by rw [pl_yes hb, List.length_append]; rfl
      obtain ⟨T3, e3, o3, r3, s3⟩ := ih (j + 1) fu T2 (by omega) (by omega) (o12.rm hM) (fun i hi => by
        rw [lp] at hi
        rw [pl_yes hb]
        by_cases hi2 : i = (plV m j).length
        · subst hi2
          rw [g5]
          congr 2
          simp [List.getD]
        · rw [g4 i hi2, o1.1 43 (by decide) (by decide), h43 i (by omega)]
          congr 2
          rw [List.getD_eq_getElem?_getD, List.getD_eq_getElem?_getD, List.getElem?_append_left (by omega)]) (fun s hs hbs t ht => by
        by_cases hsj : s = j
        · subst hsj; exact g3 t ht
        · rw [g2 _ (by omega), o1.1 42 (by decide) (by decide)]
          exact h42 s (by omega) hbs t ht)
      refine ⟨T3, ?_, o12.tr o3, r3, s3⟩
      rw [e1, Option.bind_some, show f_X8_day_96 (f_X8_day_62 fu) FU T1 (iI (m : Int)) x2 x3 (iI ((plV m j).length : Int)) (iI (j : Int)) 100000 1439 = _ from e2]
      unfold f_X8_day_154
      rw [i_next, i_next, ← lp]
      exact e3
    · rw [if_neg hb, if_neg (by decide)]
      unfold f_X8_day_154
      rw [i_next]
      obtain ⟨T3, e3, o3, r3, s3⟩ := ih (j + 1) fu T (by omega) (by omega) hM (fun i hi => by
        rw [pl_no hb] at hi ⊢
        exact h43 i hi) (fun s hs hbs t ht => by
        by_cases hsj : s = j
        · subst hsj; exact absurd hbs hb
        · exact h42 s (by omega) hbs t ht)
      rw [pl_no hb] at e3
      exact ⟨T3, e3, o3, r3, s3⟩
