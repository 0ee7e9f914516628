/-! ===== day: the sums, the best order, the reference ===== -/
def N42 (T : ST) (F : Nat → Nat → Bool) (m : Nat) : Prop := ∀ s, s < 6 → Nat.testBit m s = true → ∀ t, t < 1440 → T.1 42 (1440 * s + t) = iI (nfV (F s) t : Int)
theorem sum_big {T : ST} {f n k w : Nat} {x2 x4 : Int32} (hn : n ≤ 6) (hk : k ≤ 6) (hw : 100000 ≤ w ∧ w ≤ 300000) : f_X8_sumOf_8 T (f + 1) (iI (n : Int)) x2 (iI (w : Int)) x4 (iI (k : Int)) = some (iI (w : Int)) := by
  rw [f_X8_sumOf_8, i_le rfl rfl (by omega) (by omega), i_le (x := 100000) (a := 100000) rfl rfl (by omega) (by omega)]
  by_cases h : (n : Int) ≤ (k : Int)
  · rw [if_pos h]
  · rw [if_neg h, if_pos (by omega)]
theorem m_sum {T : ST} {F : Nat → Nat → Bool} {g n m : Nat} (hg : g ≤ 240) (hn : n ≤ 6) (h42 : N42 T F m) : ∀ (l : List Nat) (k a sum f : Nat), k + l.length = n → l.length < f → (∀ i, i < l.length → (l.getD i 0 < 6 ∧ Nat.testBit m (l.getD i 0) = true) ∧ T.1 43 (k + i) = iI (l.getD i 0 : Int)) → a ≤ 1700 → sum ≤ 1440 * k → ∃ w : Nat, f_X8_sumOf_8 T f (iI (n : Int)) (iI (g : Int)) (iI (sum : Int)) (iI (a : Int)) (iI (k : Int)) = some (iI (w : Int)) ∧ (cst F g l a sum < 100000 → w = cst F g l a sum) ∧ (¬ cst F g l a sum < 100000 → 100000 ≤ w ∧ w ≤ 300000) := by
  intro l
  induction l with
  | nil =>
    intro k a sum f hk hf hl ha hsum
    obtain ⟨f, rfl⟩ : ∃ f', f = f' + 1 := ⟨f - 1, by omega⟩
    have hk : k + 0 = n := hk
    refine ⟨sum, ?_, fun _ => rfl, fun h => absurd (show sum < 100000 by omega) h⟩
    rw [f_X8_sumOf_8, i_le rfl rfl (by omega) (by omega), if_pos (by omega)]
  | cons s l ih =>
    intro k a sum f hk hf hl ha hsum
    have hk : k + (l.length + 1) = n := hk
    have hf : l.length + 1 < f := hf
    obtain ⟨f, rfl⟩ : ∃ f', f = f' + 2 := ⟨f - 2, by omega⟩
    obtain ⟨⟨hs6, hsm⟩, h43⟩ := hl 0 (by show 0 < l.length + 1; omega)
    have hs6 : s < 6 := hs6
    have hsm : Nat.testBit m s = true := hsm
    have h43 : T.1 43 k = iI (s : Int) := h43
    have ec : cst F g (s :: l) a sum = if nfV (F s) a < 100000 then cst F g l (nfV (F s) a + g) (sum + nfV (F s) a) else 100000 := rfl
    have big : nfV (F s) a = 100000 → ∃ w : Nat, f_X8_sumOf_52 T (f_X8_sumOf_8 T (f + 1)) (iI (n : Int)) (iI (g : Int)) (iI (sum : Int)) (iI (k : Int)) (iI (100000 : Int)) = some (iI (w : Int)) ∧ (cst F g (s :: l) a sum < 100000 → w = cst F g (s :: l) a sum) ∧ (¬ cst F g (s :: l) a sum < 100000 → 100000 ≤ w ∧ w ≤ 300000) := by
      intro hb
      rw [if_neg (by omega)] at ec
      refine ⟨sum + 100000, ?_, fun h => by omega, fun _ => by omega⟩
      unfold f_X8_sumOf_52
      rw [iI_add, i_next]
      exact sum_big (w := sum + 100000) hn (by omega) (by omega)
    rw [f_X8_sumOf_8, i_le rfl rfl (by omega) (by omega), if_neg (by omega), i_le (x := 100000) (a := 100000) rfl rfl (by omega) (by omega), if_neg (by omega), i_le (x := 1440) (a := 1440) rfl rfl (by omega) (by omega)]
    by_cases h1440 : (1440 : Int) ≤ (a : Int)
    · rw [if_pos h1440]
      exact big (nf_big _ (by omega))
    · rw [if_neg h1440, rI_ok (t := 0) (k := 43) (n := k) rfl rfl (by rw [al43]; omega) (by omega), h43, Option.bind_some]
      have ix : (1440 * iI (s : Int)) + iI (a : Int) = iI ((1440 * s + a : Nat) : Int) := by
        rw [show (1440 : Int32) = iI 1440 from rfl, iI_mul, iI_add]
        rfl
      rw [rI_ok (t := 0) (k := 42) ix rfl (by rw [al42]; omega) (by omega), h42 s hs6 hsm a (by omega), Option.bind_some]
      rcases nf_all (F s) a with ⟨p1, -⟩ | ⟨p1, p2, -⟩
      · rw [p1]
        exact big p1
      · rw [if_pos (by omega)] at ec
        unfold f_X8_sumOf_52
        rw [iI_add, iI_add, i_next, ec]
        exact ih (k + 1) (nfV (F s) a + g) (sum + nfV (F s) a) (f + 1) (by omega) (by omega) (fun i hi => by
          have := hl (i + 1) (by show i + 1 < l.length + 1; omega)
          rw [show k + (i + 1) = k + 1 + i by omega] at this
          exact this) (by omega) (by omega)
def F434 (T T' : ST) : Prop := (∀ q, q ≠ 43 → q ≠ 44 → T'.1 q = T.1 q) ∧ T'.2 = T.2
theorem F434.rf {T : ST} : F434 T T := ⟨fun _ _ _ => rfl, rfl⟩
theorem F434.tr {T T1 T2 : ST} (h : F434 T T1) (g : F434 T1 T2) : F434 T T2 := ⟨fun q h1 h2 => (g.1 q h1 h2).trans (h.1 q h1 h2), g.2.trans h.2⟩
theorem F43.f {T T' : ST} (h : F43 T T') : F434 T T' := ⟨fun q h1 _ => h.1 q h1, h.2⟩
theorem d184 {n L w : Nat} (hn : n ≤ 6) (hL : L ≤ 300000) (hw : w < L) : ∀ (c j f : Nat) (T : ST), j + c = n → c < f → ∃ T', (∀ k167 x2 x3, f_X8_day_184 k167 f T x2 x3 (iI (n : Int)) (iI (L : Int)) (iI (w : Int)) (iI (j : Int)) = f_X8_day_218 k167 T' x2 x3 (iI (n : Int)) (iI (L : Int)) (iI (w : Int))) ∧ ((∀ q, q ≠ 44 → T'.1 q = T.1 q) ∧ T'.2 = T.2) ∧ (∀ i, i < j → T'.1 44 i = T.1 44 i) ∧ ∀ i, j ≤ i → i < n → T'.1 44 i = T.1 43 i := by
  intro c
  induction c with
  | zero =>
    intro j f T hj hf
    obtain ⟨f, rfl⟩ : ∃ f', f = f' + 1 := ⟨f - 1, by omega⟩
    refine ⟨T, fun k167 x2 x3 => ?_, ⟨fun _ _ => rfl, rfl⟩, fun _ _ => rfl, fun i h1 h2 => by omega⟩
    rw [f_X8_day_184, i_le rfl rfl (by omega) (by omega), if_pos (by omega)]
  | succ c ih =>
    intro j f T hj hf
    obtain ⟨f, rfl⟩ : ∃ f', f = f' + 1 := ⟨f - 1, by omega⟩
    obtain ⟨T', e1, e2, e3, e4⟩ := ih (j + 1) f (sI T 44 j (T.1 43 j)) (by omega) (by omega)
    refine ⟨T', fun k167 x2 x3 => ?_, ⟨fun q hq => by rw [e2.1 q hq, sI_o hq], e2.2⟩, fun i hi => by rw [e3 i (by omega), sI_nj (by omega)], fun i h1 h2 => ?_⟩
    · rw [f_X8_day_184, i_le rfl rfl (by omega) (by omega), if_neg (by omega), i_le (a := (L : Int)) (b := (w : Int)) rfl rfl (by omega) (by omega), if_neg (by omega), rI_ok (t := 0) (k := 43) (n := j) rfl rfl (by rw [al43]; omega) (by omega), Option.bind_some, wI_ok (k := 44) (n := j) rfl rfl (by rw [al44]; omega) (by omega), Option.bind_some, i_next, e1]
    · by_cases hi : i = j
      · subst hi
        rw [e3 i (by omega), sI_eq]
      · rw [e4 i (by omega) h2, sI_ne (by decide)]
def RB2 (T : ST) (b : Nat × List Nat) (n : Nat) : Prop := b.1 ≤ 100000 ∧ (b.1 < 100000 → b.2.length = n ∧ ∀ i, i < n → T.1 44 i = iI (b.2.getD i 0 : Int))
def ansD (b : Nat × List Nat) (n : Nat) (c : Int) : Int32 := if 100000 ≤ b.1 then -4 else if c < (n : Int) then (if 0 ≤ c then iI (b.2.getD c.toNat 0 : Int) else iI (b.1 : Int)) else -4
theorem d167_0 {T : ST} {b : Nat × List Nat} {n f : Nat} {c : Int} {x2 x3 : Int32} (hn : n ≤ 6) (hx : x3 = iI c) (hc : -1 ≤ c ∧ c ≤ 5) (hB : RB2 T b n) : f_X8_day_167 (f + 1) T x2 x3 (iI (n : Int)) (iI (b.1 : Int)) 0 = some (ansD b n c, T) := by
  have hb := hB.1
  unfold ansD
  rw [f_X8_day_167, if_pos rfl, i_le (x := 100000) (a := 100000) rfl rfl (by omega) (by omega), i_lt hx rfl (by omega) (by omega), i_le (x := 0) (a := 0) rfl hx (by omega) (by omega)]
  by_cases h1 : 100000 ≤ b.1
  · rw [if_pos (by omega), if_pos h1]
  · rw [if_neg (by omega), if_neg h1]
    by_cases h2 : c < (n : Int)
    · rw [if_pos h2, if_pos h2]
      by_cases h3 : 0 ≤ c
      · rw [if_pos h3, if_pos h3, rI_ok (t := 0) (k := 44) (a := c) (n := c.toNat) hx (by omega) (by rw [al44]; omega) (by omega), Option.bind_some, (hB.2 (by omega)).2 c.toNat (by omega)]
      · rw [if_neg h3, if_neg h3]
    · rw [if_neg h2, if_neg h2]
theorem N42.of {T T' : ST} {F : Nat → Nat → Bool} {m : Nat} (h : N42 T F m) (e : T'.1 42 = T.1 42) : N42 T' F m := fun s h1 h2 t ht => by rw [e]; exact h s h1 h2 t ht
theorem d167_s {F : Nat → Nat → Bool} {g n m : Nat} (hg : g ≤ 240) (hn : 1 ≤ n ∧ n ≤ 6) (x3 : Int32) {p : List Nat} {T : ST} {b : Nat × List Nat} (hp : p.length = n ∧ ∀ i, i < n → p.getD i 0 < 6 ∧ Nat.testBit m (p.getD i 0) = true) (hO : OL T p) (h42 : N42 T F m) (hB : RB2 T b n) : ∃ T1, F434 T T1 ∧ OL T1 p ∧ N42 T1 F m ∧ RB2 T1 (updB b (cst F g p 0 0) ([] ++ p)) n ∧ ∀ f, f_X8_day_167 (f + 1) T (iI (g : Int)) x3 (iI (n : Int)) (iI (b.1 : Int)) 1 = b2 (f_X8_turns T1 (iI (n : Int))) fun v1 S2 => f_X8_day_167 f S2 (iI (g : Int)) x3 (iI (n : Int)) (iI ((updB b (cst F g p 0 0) ([] ++ p)).1 : Int)) v1 := by
  have hb := hB.1
  obtain ⟨w, e1, e2, e3⟩ := m_sum hg hn.2 h42 p 0 0 0 FU (by rw [hp.1, Nat.zero_add]) (by rw [hp.1]; show n < 20000; omega) (fun i hi => by
    rw [Nat.zero_add]
    exact ⟨hp.2 i (by omega), (hO i hi).2⟩) (by omega) (by omega)
  have e0 : ∀ f, f_X8_day_167 (f + 1) T (iI (g : Int)) x3 (iI (n : Int)) (iI (b.1 : Int)) 1 = f_X8_day_184 (f_X8_day_167 f) FU T (iI (g : Int)) x3 (iI (n : Int)) (iI (b.1 : Int)) (iI (w : Int)) 0 := by
    intro f
    rw [f_X8_day_167, if_neg (by decide)]
    unfold f_X8_sumOf
    rw [show f_X8_sumOf_8 T FU (iI (n : Int)) (iI (g : Int)) 0 0 0 = some (iI (w : Int)) from e1, Option.bind_some]
  by_cases hu : cst F g p 0 0 < 100000 ∧ cst F g p 0 0 < b.1
  · have eu : updB b (cst F g p 0 0) ([] ++ p) = (cst F g p 0 0, p) := if_pos hu
    have hw := e2 hu.1
    rw [eu]
    rw [← hw] at hu ⊢
    obtain ⟨T1, c3, c1, -, c2⟩ := d184 (n := n) (L := b.1) (w := w) hn.2 (by omega) hu.2 n 0 FU T (by omega) (by show n < 20000; omega)
    refine ⟨T1, ⟨fun q _ h2 => c1.1 q h2, c1.2⟩, fun i hi => by rw [c1.1 43 (by decide)]; exact hO i hi, h42.of (c1.1 42 (by decide)), ⟨by show w ≤ 100000; omega, fun _ => ⟨hp.1, fun i hi => ?_⟩⟩, fun f => ?_⟩
    · rw [c2 i (by omega) hi]
      exact (hO i (by omega)).2
    · rw [e0 f, show f_X8_day_184 (f_X8_day_167 f) FU T (iI (g : Int)) x3 (iI (n : Int)) (iI (b.1 : Int)) (iI (w : Int)) 0 = _ from c3 (f_X8_day_167 f) (iI (g : Int)) x3]
      unfold f_X8_day_218 f_X8_day_232
      rw [i_le (a := (b.1 : Int)) (b := (w : Int)) rfl rfl (by omega) (by omega), if_neg (by omega)]
  · have eu : updB b (cst F g p 0 0) ([] ++ p) = b := if_neg hu
    have hw : b.1 ≤ w := by
      by_cases h : cst F g p 0 0 < 100000
      · have := e2 h
        omega
      · have := e3 h
        omega
    have hw2 : w ≤ 300000 := by
      by_cases h : cst F g p 0 0 < 100000
      · have := e2 h
        omega
      · exact (e3 h).2
    rw [eu]
    refine ⟨T, F434.rf, hO, h42, hB, fun f => ?_⟩
    rw [e0 f]
    unfold FU
    rw [f_X8_day_184, i_le (y := 0) (b := 0) rfl rfl (by omega) (by omega), if_neg (by omega), i_le (a := (b.1 : Int)) (b := (w : Int)) rfl rfl (by omega) (by omega), if_pos (by omega)]
    unfold f_X8_day_218 f_X8_day_232
    rw [i_le (a := (b.1 : Int)) (b := (w : Int)) rfl rfl (by omega) (by omega), if_pos (by omega)]
theorem d167 {F : Nat → Nat → Bool} {g n m : Nat} (hg : g ≤ 240) (hn : 1 ≤ n ∧ n ≤ 6) {x3 : Int32} {c : Int} (hx : x3 = iI c) (hc : -1 ≤ c ∧ c ≤ 5) : ∀ (l : List (List Nat)) (p : List Nat) (f : Nat) (T : ST) (b : Nat × List Nat), chn (p :: l) = true → (∀ q ∈ p :: l, q.length = n ∧ ∀ i, i < n → q.getD i 0 < 6 ∧ Nat.testBit m (q.getD i 0) = true) → OL T p → N42 T F m → RB2 T b n → l.length + 1 < f → ∃ T', f_X8_day_167 f T (iI (g : Int)) x3 (iI (n : Int)) (iI (b.1 : Int)) 1 = some (ansD (List.foldl (fun b p => updB b (cst F g p 0 0) ([] ++ p)) b (p :: l)) n c, T') ∧ F434 T T' := by
  intro l
  induction l with
  | nil =>
    intro p f T b hch hall hO h42 hB hf
    have hf : 0 + 1 < f := hf
    obtain ⟨f, rfl⟩ : ∃ f', f = f' + 2 := ⟨f - 2, by omega⟩
    have hp := hall p (List.mem_cons_self ..)
    obtain ⟨T1, o1, O1, N1, B1, e1⟩ := d167_s hg hn x3 hp hO h42 hB
    have hnx : nxL p = none := of_decide_eq_true (Bool.and_eq_true_iff.mp hch).1
    have t1 := (m_turns (p := p) (by rw [hp.1]; exact hn) O1).1 hnx
    rw [hp.1] at t1
    refine ⟨T1, ?_, o1⟩
    rw [e1 (f + 1)]
    refine bd2 t1 ?_
    exact d167_0 hn.2 hx hc B1
  | cons q l ih =>
    intro p f T b hch hall hO h42 hB hf
    have hf : l.length + 1 + 1 < f := hf
    obtain ⟨f, rfl⟩ : ∃ f', f = f' + 1 := ⟨f - 1, by omega⟩
    have hp := hall p (List.mem_cons_self ..)
    obtain ⟨T1, o1, O1, N1, B1, e1⟩ := d167_s hg hn x3 hp hO h42 hB
    have hc2 := Bool.and_eq_true_iff.mp hch
    have hnx : nxL p = some q := of_decide_eq_true hc2.1
    obtain ⟨T2, t1, O2, o2⟩ := (m_turns (p := p) (by rw [hp.1]; exact hn) O1).2 q hnx
    rw [hp.1] at t1
    obtain ⟨T3, i1, i2⟩ := ih q f T2 _ hc2.2 (fun r hr => hall r (List.mem_cons_of_mem _ hr)) O2 (N1.of (o2.1 42 (by decide))) ⟨B1.1, fun h => ⟨(B1.2 h).1, fun i hi => by rw [o2.1 44 (by decide)]; exact (B1.2 h).2 i hi⟩⟩ (by omega)
    refine ⟨T3, ?_, (o1.tr o2.f).tr i2⟩
    rw [e1 f]
    exact bd2 t1 i1
