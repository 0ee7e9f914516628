/-! ===== deepest ===== -/
def setHu (A : PT) (i : Nat) (v : Int) : PT := (A.1, A.2.1, A.2.2.1, A.2.2.2.1, uf (hu A) i v)
theorem Rep.hu {S : ST} {A : PT} {ko i0 i1 kh ks km ku i : Nat} {x : Int32} {v : Int} (h : Rep S A ko i0 i1 kh ks km ku) (hx : x = iI v) (h0 : ko ≠ ku) (h3 : kh ≠ ku) (h4 : ks ≠ ku) (h5 : km ≠ ku) : Rep (sI S ku i x) (setHu A i v) ko i0 i1 kh ks km ku := by
  refine ⟨⟨by rw [sI_o h0]; exact h.1.1, by rw [sI_o h0]; exact h.1.2⟩, fun q hq => by rw [sI_o h3]; exact h.2.1 q hq, fun q hq => by rw [sI_o h4]; exact h.2.2.1 q hq, fun q hq => by rw [sI_o h5]; exact h.2.2.2.1 q hq, fun q hq => ?_⟩
  by_cases hqi : q = i
  · subst hqi
    rw [sI_eq, hx]
    show iI v = iI (if q = q then v else _)
    rw [if_pos rfl]
  · rw [sI_nj hqi]
    show _ = iI (if q = i then v else _)
    rw [if_neg hqi]
    exact h.2.2.2.2 q hq
abbrev KD (A : PT) (s : Nat) (d : Int) : Nat → Nat → Nat → Bool := KK A (hu A (3 * s + 1)) d (se A 1) (-1) (needV (se A 3) (se A 4) d)
theorem KS_hu {A : PT} {s : Nat} {d : Int} : KS (setHu A (3 * s) d) s = KD A s d := by
  have e1 : hu (setHu A (3 * s) d) (3 * s + 1) = hu A (3 * s + 1) := if_neg (by omega)
  have e2 : hu (setHu A (3 * s) d) (3 * s) = d := if_pos rfl
  unfold KS KD
  rw [e1, e2]
  rfl
theorem setHu_set {A : PT} {i : Nat} {v w : Int} : setHu (setHu A i w) i v = setHu A i v := by
  unfold setHu
  have : uf (uf (hu A) i w) i v = uf (hu A) i v := by
    funext q
    unfold uf
    by_cases h : q = i
    · rw [if_pos h, if_pos h]
    · rw [if_neg h, if_neg h, if_neg h]
  show (A.1, A.2.1, A.2.2.1, A.2.2.2.1, uf (uf (hu A) i w) i v) = _
  rw [this]
theorem need_d {ru lu d d' : Int} (h2 : 0 ≤ lu ∧ lu ≤ 99) (h3 : 20 ≤ d ∧ d ≤ d') : needV ru lu d ≤ needV ru lu d' := by
  unfold needV
  split
  · omega
  · exact td_le (Int.mul_nonneg (by omega) h2.1) (Int.mul_le_mul_of_nonneg_right h3.2 h2.1) (by omega)
theorem und_d {A : PT} (hV : PV A) {j : Nat} (hj : j < mi A) {p br d d' wi lv : Int} (hp : 1 ≤ p ∧ p ≤ 15) (hb : 1 ≤ br ∧ br ≤ 40) (hd : 20 ≤ d ∧ d ≤ d') (h : 1 ≤ lv ∧ lv ≤ 400) (hd' : d' ≤ 200) : undV A j br d' wi p lv ≤ undV A j br d wi p lv := by
  have h1 := pw_rg (dr := d) hp hb (by omega)
  have h2 := room_rg hV hj h
  obtain ⟨-, -, g3, -⟩ := hV.2.1 j hj
  have a1 : sinkV A j br d p lv ≤ sinkV A j br d' p lv := by
    unfold sinkV
    refine td_le (by omega) (Int.mul_le_mul_of_nonneg_left hd.2 ?_) (by omega)
    exact Int.mul_nonneg (Int.mul_nonneg (by omega) (by omega)) (by omega)
  have a2 : (d * (9 - mk A (6 * j + 2))).tdiv 400 ≤ (d' * (9 - mk A (6 * j + 2))).tdiv 400 := td_le (Int.mul_nonneg (by omega) (by omega)) (Int.mul_le_mul_of_nonneg_right hd.2 (by omega)) (by omega)
  unfold undV restV
  omega
theorem TVd {A : PT} (hV : PV A) {s : Nat} (hs : s < nsh A) {d : Int} (hd : 20 ≤ d ∧ d ≤ 200) : TV (hu A (3 * s + 1)) d (se A 1) (-1) (needV (se A 3) (se A 4) d) := by
  obtain ⟨g1, g2, g3⟩ := hV.2.2.2.2 s hs
  obtain ⟨s0, s1, s2, s3, s4⟩ := hV.2.2.2.1
  exact ⟨g2, hd, s1, by omega, need_rg s3 s4 hd⟩
def PD (A : PT) (s m d : Nat) : Prop := lfV (KD A s (d : Int)) (mi A) 0 m < 100000
theorem PD_anti {A : PT} (hV : PV A) {s m d d' : Nat} (hs : s < nsh A) (hm : m < 1440) (h1 : 20 ≤ d) (h2 : d ≤ d') (h3 : d' ≤ 200) (h : PD A s m d') : PD A s m d := by
  have h16 := hV.1.1
  unfold PD at h ⊢
  refine Nat.lt_of_le_of_lt (lf_mono (M := mi A) ?_ (by omega) (by omega)) h
  intro j hj t htt p p1 p2 hk
  have a1 := of_decide_eq_true hk
  have ta := tide_arith hV.2.2.1 hV.2.2.2.1.1 (m := (t : Int)) (by omega)
  have a2 := need_d (ru := se A 3) (lu := se A 4) (d := (d : Int)) (d' := (d' : Int)) hV.2.2.2.1.2.2.2.2 (by omega)
  have a3 := und_d hV hj (p := (p : Int)) (br := hu A (3 * s + 1)) (d := (d : Int)) (d' := (d' : Int)) (wi := se A 1) (by omega) (hV.2.2.2.2 s hs).2.1 (by omega) (lv_rg hV hj (T := tideV (ht A) (se A 0) (t : Int)) (wi := se A 1) (du := -1) (by omega) hV.2.2.2.1.2.1) (by omega)
  refine decide_eq_true ?_
  unfold uV at a1 ⊢
  omega
def Gr (P : Nat → Prop) (r : Nat) : Prop := (19 ≤ r ∧ r ≤ 200) ∧ (r = 19 ∨ P r) ∧ ∀ d, r < d → d ≤ 200 → ¬ P d
theorem Gr_one {P : Nat → Prop} {r r' : Nat} (h : Gr P r) (g : Gr P r') : r = r' := by
  apply Classical.byContradiction
  intro hc
  have : r < r' ∨ r' < r := by omega
  rcases this with q | q
  · rcases g.2.1 with g2 | g2
    · have := h.1.1; omega
    · exact h.2.2 r' q g.1.2 g2
  · rcases h.2.1 with g2 | g2
    · have := g.1.1; omega
    · exact g.2.2 r q h.1.2 g2
theorem dv2n {w : Nat} (h : w < 1000) : dv (iI (w : Int)) 2 = some (iI ((w / 2 : Nat) : Int)) := by
  rw [dv_ok (y := 2) (a := (w : Int)) (b := 2) rfl rfl (by omega) (by omega) (by omega), Int.tdiv_eq_ediv_of_nonneg (by omega)]
  rfl
theorem dp_go {S0 : ST} {A : PT} (hV : PV A) (hR : RC S0 A) {s m : Nat} (hs : s < nsh A) (hm : m < 1440) : ∀ (k c n : Nat) (S : ST) (dr ne : Int), SQ S0 S → FL S A → Tr S dr (hu A (3 * s + 1)) (se A 3) (se A 4) (se A 1) ne (-1) → k ≤ 8 → k < n → (19 ≤ c ∧ c ≤ 200) → (c = 19 ∨ PD A s m c) → (∀ d, c + 2 ^ k ≤ d → d ≤ 200 → ¬ PD A s m d) → ∃ (S' : ST) (r : Nat), f_X7_deepest_47 n S (iI (m : Int)) (iI (c : Int)) (iI ((2 ^ k / 2 : Nat) : Int)) = some (if (20 : Int) ≤ (r : Int) then iI (r : Int) else -4, S') ∧ SQ S0 S' ∧ Gr (PD A s m) r := by
  obtain ⟨s0, s1, s2, s3, s4⟩ := hV.2.2.2.1
  intro k
  induction k with
  | zero =>
    intro c n S dr ne q f t hk hn hc h1 h2
    obtain ⟨n, rfl⟩ : ∃ n', n = n' + 1 := ⟨n - 1, by omega⟩
    refine ⟨S, c, ?_, q, hc, h1, fun d g1 g2 => h2 d (by omega) g2⟩
    rw [f_X7_deepest_47, i_lt (x := iI ((2 ^ 0 / 2 : Nat) : Int)) (y := 1) (b := 1) rfl rfl (by omega) (by omega), if_pos (by decide), i_le (x := 20) (y := iI (c : Int)) (a := 20) rfl rfl (by omega) (by omega)]
    by_cases h : (20 : Int) ≤ (c : Int)
    · rw [if_pos h, if_pos h]
    · rw [if_neg h, if_neg h]
  | succ k ih =>
    intro c n S dr ne q f t hk hn hc h1 h2
    obtain ⟨n, rfl⟩ : ∃ n', n = n' + 1 := ⟨n - 1, by omega⟩
    have e2 : 2 ^ (k + 1) / 2 = 2 ^ k := by rw [Nat.pow_succ]; omega
    have e3 : 2 ^ (k + 1) = 2 ^ k + 2 ^ k := by rw [Nat.pow_succ]; omega
    have b1 : 1 ≤ 2 ^ k := Nat.one_le_two_pow
    have b2' : 2 ^ k ≤ 2 ^ 7 := Nat.pow_le_pow_right (by omega) (by omega)
    have b3 : (2 : Nat) ^ 7 = 128 := by decide
    rw [e2]
    rw [e3] at h2
    have dv2 := dv2n (w := 2 ^ k) (by omega)
    generalize hw : 2 ^ k = w at *
    rw [f_X7_deepest_47, i_lt (x := iI (w : Int)) (y := 1) (b := 1) rfl rfl (by omega) (by omega), if_neg (by omega), iI_add, i_lt (x := 200) (y := iI ((c : Int) + (w : Int))) (a := 200) rfl rfl (by omega) (by omega)]
    unfold f_X7_deepest_103
    rw [dv2]
    by_cases h3 : (200 : Int) < (c : Int) + (w : Int)
    · rw [if_pos h3]
      exact ih c n S dr ne q f t (by omega) (by omega) hc h1 (fun d g1 g2 => by omega)
    · rw [if_neg h3]
      have hd : (20 : Int) ≤ (c : Int) + (w : Int) ∧ (c : Int) + (w : Int) ≤ 200 := by omega
      obtain ⟨S1, e4, o4, t4⟩ := e_load t hd s3 s4 (x := iI ((c : Int) + (w : Int))) rfl
      have q4 := q.only o4 (Or.inl rfl)
      have f4 : FL S1 A := f.cg (fun q _ _ => by rw [o4.2])
      obtain ⟨S2, e5, q5, f5, t5, ga5, -⟩ := s_rule hV hR (TVd hV hs hd) q4 f4 t4
      obtain ⟨S3, r1, e6, w6, r6⟩ := e_quickest hV (q5.rc hR) (KK_mono hV (TVd hV hs hd)) ga5 (a := m) hm
      have q6 := q5.fw w6
      have f6 : FL S3 A := f5.cg (fun q _ h2 => w6.2 q (by omega))
      have t6 : Tr S3 ((c : Int) + (w : Int)) (hu A (3 * s + 1)) (se A 3) (se A 4) (se A 1) (needV (se A 3) (se A 4) ((c : Int) + (w : Int))) (-1) := by unfold Tr at t5 ⊢; rw [w6.1]; exact t5
      have sp := lf_spec (K := KD A s ((c : Int) + (w : Int))) (mi A) 0 m
      rw [e4, Option.bind_some, e5, Option.bind_some]
      have pd : PD A s m (c + w) ↔ lfV (KD A s ((c : Int) + (w : Int))) (mi A) 0 m < 100000 := by
        unfold PD
        rw [show ((c + w : Nat) : Int) = (c : Int) + (w : Int) from rfl]
      have r6 : r1 = (if lfV (KD A s ((c : Int) + (w : Int))) (mi A) 0 m < 100000 then iI (lfV (KD A s ((c : Int) + (w : Int))) (mi A) 0 m : Int) else -4) := r6
      by_cases hp : PD A s m (c + w)
      · have hl := pd.mp hp
        have hr := Arr_rg _ _ _ _ (sp.2.1 hl)
        have h16 := hV.1.1
        rw [if_pos hl] at r6
        obtain ⟨S', r, i1, i2, i3⟩ := ih (c + w) n S3 _ _ q6 f6 t6 (by omega) (by omega) (by omega) (Or.inr hp) (fun d g1 g2 => h2 d (by omega) g2)
        refine ⟨S', r, bd2 e6 ?_, i2, i3⟩
        rw [r6, if_neg (fun z => by have := (c_eq (y := -4) (b := -4) rfl rfl (by omega) (by omega)).mp z; omega)]
        exact i1
      · rw [if_neg (fun z => hp (pd.mpr z))] at r6
        obtain ⟨S', r, i1, i2, i3⟩ := ih c n S3 _ _ q6 f6 t6 (by omega) (by omega) hc h1 (fun d g1 g2 z => hp (PD_anti hV hs hm (by omega) g1 g2 z))
        refine ⟨S', r, bd2 e6 ?_, i2, i3⟩
        rw [r6, if_pos rfl]
        exact i1
