/-! ===== dredged ===== -/
theorem uV_du {A : PT} {br dr wi du du' T p : Int} {j : Nat} (h1 : (j : Int) ≠ du) (h2 : (j : Int) ≠ du') : uV A br dr wi du j T p = uV A br dr wi du' j T p := by
  unfold uV
  rw [if_neg h1, if_neg h2]
theorem EN.mv {S S' : ST} {A : PT} {br dr wi du du' ne : Int} {j i : Nat} (h : EN S A br dr wi du ne j i) (h1 : (j : Int) ≠ du) (h2 : (j : Int) ≠ du') (h3 : S'.1 16 (11 * j + i) = S.1 16 (11 * j + i)) : EN S' A br dr wi du' ne j i := by
  obtain ⟨e, g1, g2, g3⟩ := h
  refine ⟨e, g1, h3.trans g2, fun T hT => ?_⟩
  rw [uV_du h2 h1]
  exact g3 T hT
theorem EN.cg {S S' : ST} {A : PT} {br dr wi du ne : Int} {j i : Nat} (h : EN S A br dr wi du ne j i) (h3 : S'.1 16 (11 * j + i) = S.1 16 (11 * j + i)) : EN S' A br dr wi du ne j i := by
  obtain ⟨e, g1, g2, g3⟩ := h
  exact ⟨e, g1, h3.trans g2, g3⟩
theorem Tr.du {S : ST} {dr br ru lu wi ne du du' : Int} (h : Tr S dr br ru lu wi ne du) {x : Int32} (hx : x = iI du') : Tr (sI S 11 7 x) dr br ru lu wi ne du' := by
  obtain ⟨h1, h2, h3, h4, h5, h6, h7⟩ := h
  exact ⟨by rw [sI_nj (by decide)]; exact h1, by rw [sI_nj (by decide)]; exact h2, by rw [sI_nj (by decide)]; exact h3, by rw [sI_nj (by decide)]; exact h4, by rw [sI_nj (by decide)]; exact h5, by rw [sI_nj (by decide)]; exact h6, by rw [sI_eq]; exact hx⟩
theorem KS_mk {A : PT} {s j : Nat} : KS (setMk A (6 * j) (mk A (6 * j) + 1)) s = KK A (hu A (3 * s + 1)) (hu A (3 * s)) (se A 1) (j : Int) (needV (se A 3) (se A 4) (hu A (3 * s))) := by
  funext m t p
  have e1 : uV (setMk A (6 * j) (mk A (6 * j) + 1)) (hu A (3 * s + 1)) (hu A (3 * s)) (se A 1) (-1) m (tideV (ht A) (se A 0) (t : Int)) (p : Int) = uV A (hu A (3 * s + 1)) (hu A (3 * s)) (se A 1) (j : Int) m (tideV (ht A) (se A 0) (t : Int)) (p : Int) := by
    have w1 : mk (setMk A (6 * j) (mk A (6 * j) + 1)) (6 * m + 1) = mk A (6 * m + 1) := if_neg (by omega)
    have w2 : mk (setMk A (6 * j) (mk A (6 * j) + 1)) (6 * m + 2) = mk A (6 * m + 2) := if_neg (by omega)
    have w3 : mk (setMk A (6 * j) (mk A (6 * j) + 1)) (6 * m + 3) = mk A (6 * m + 3) := if_neg (by omega)
    have lv : levV (setMk A (6 * j) (mk A (6 * j) + 1)) m (tideV (ht A) (se A 0) (t : Int)) (se A 1) + (if (m : Int) = -1 then 1 else 0) = levV A m (tideV (ht A) (se A 0) (t : Int)) (se A 1) + (if (m : Int) = (j : Int) then 1 else 0) := by
      unfold levV
      rw [w3, if_neg (by omega)]
      show (if 6 * m = 6 * j then mk A (6 * j) + 1 else mk A (6 * m)) + (mk A (6 * m + 3) * se A 2).tdiv 10 + _ - _ + 0 = _
      by_cases hj : m = j
      · rw [if_pos (by omega), if_pos (by omega), hj]
        omega
      · rw [if_neg (by omega), if_neg (by omega)]
    unfold uV
    rw [lv]
    unfold undV restV sinkV
    rw [w1, w2]
  show decide (_ ≤ uV (setMk A (6 * j) (mk A (6 * j) + 1)) (hu A (3 * s + 1)) (hu A (3 * s)) (se A 1) (-1) m (tideV (ht A) (se A 0) (t : Int)) (p : Int)) = decide _
  rw [e1]
  rfl
theorem PV_mk {A : PT} (hV : PV A) {j : Nat} {d : Int} (hd : 20 ≤ d ∧ d ≤ 250) : PV (setMk A (6 * j) d) := by
  refine ⟨hV.1, fun i hi => ?_, hV.2.2.1, hV.2.2.2.1, hV.2.2.2.2⟩
  obtain ⟨g1, g2, g3, g4, g5, g6⟩ := hV.2.1 i hi
  have w : ∀ k, k < 6 → 0 < k → mk (setMk A (6 * j) d) (6 * i + k) = mk A (6 * i + k) := fun k h1 h2 => if_neg (by omega)
  refine ⟨?_, ?_, ?_, ?_, ?_, ?_⟩
  · show 20 ≤ (if 6 * i = 6 * j then d else mk A (6 * i)) ∧ (if 6 * i = 6 * j then d else mk A (6 * i)) ≤ 250
    split
    · exact hd
    · exact g1
  · rw [w 1 (by omega) (by omega)]; exact g2
  · rw [w 2 (by omega) (by omega)]; exact g3
  · rw [w 3 (by omega) (by omega)]; exact g4
  · rw [w 4 (by omega) (by omega)]; exact g5
  · rw [w 5 (by omega) (by omega)]; exact g6
theorem lf_dug {A : PT} (hV : PV A) {br dr wi ne : Int} (h : TV br dr wi (-1) ne) {j m : Nat} (hm : m < 1440) : lfV (KK A br dr wi (j : Int) ne) (mi A) 0 m ≤ lfV (KK A br dr wi (-1) ne) (mi A) 0 m := by
  have h16 := hV.1.1
  refine lf_mono (M := mi A) ?_ (by omega) (by omega)
  intro i hi t htt p p1 p2 hk
  have a1 := of_decide_eq_true hk
  have ta := tide_arith hV.2.2.1 hV.2.2.2.1.1 (m := (t : Int)) (by omega)
  have l1 := lv_rg hV hi (T := tideV (ht A) (se A 0) (t : Int)) (wi := wi) (du := -1) (by omega) h.2.2.1
  have l2 := lv_rg hV hi (T := tideV (ht A) (se A 0) (t : Int)) (wi := wi) (du := (j : Int)) (by omega) h.2.2.1
  have a2 := und_lv hV hi (p := (p : Int)) (br := br) (dr := dr) (wi := wi) (by omega) h.1 h.2.1 l1 ⟨by
    rw [if_neg (by omega)]
    split <;> omega, l2.2⟩
  exact decide_eq_true (Int.le_trans a1 a2)
theorem dg_go {S0 : ST} {A : PT} (hV : PV A) (hR : RC S0 A) {s m L : Nat} (hs : s < nsh A) (hm : m < 1440) (hL : lfV (KS A s) (mi A) 0 m = L) (hL2 : L < 100000) {x3 : Int32} : ∀ (k j n nn : Nat) (S : ST) (b v v' : Int), j + k = mi A → k < n → k < nn → SQ S0 S → FL S A → Tr S (hu A (3 * s)) (hu A (3 * s + 1)) (se A 3) (se A 4) (se A 1) (needV (se A 3) (se A 4) (hu A (3 * s))) (-1) → (∀ i, i < mi A → ∀ l, l < 11 → EN S A (hu A (3 * s + 1)) (hu A (3 * s)) (se A 1) (-1) (needV (se A 3) (se A 4) (hu A (3 * s))) i l) → ((b = -4 ∧ v = -4 ∧ v' = -1) ∨ ((0 ≤ b ∧ b < 16) ∧ (0 ≤ v ∧ v ≤ 100000) ∧ v' = v)) → ∃ r S', f_X7_dredged_83 n S (iI (m : Int)) x3 (iI (L : Int)) (iI b) (iI v) (iI (j : Int)) = some (r, S') ∧ SQ S0 S' ∧ ∀ T, RM T A → ∃ T', f_X8_dredged_55 nn T (iI (s : Int)) (iI (m : Int)) x3 (iI (L : Int)) (iI b) (iI v') (iI (j : Int)) = some (r, T') ∧ F78 T T' := by
  have h16 := hV.1.1
  have tv := TVs hV hs
  have fin : ∀ (b v v' : Int), ((b = -4 ∧ v = -4 ∧ v' = -1) ∨ ((0 ≤ b ∧ b < 16) ∧ (0 ≤ v ∧ v ≤ 100000) ∧ v' = v)) → ∀ (S T : ST), ∃ r, (if x3 = 0 then (some (iI b, S)) else (some (iI v, S))) = some (r, S) ∧ f_X8_dredged_164 T x3 (iI b) (iI v') = some (r, T) := by
    intro b v v' h S T
    unfold f_X8_dredged_164
    rcases h with ⟨h1, h2, h3⟩ | ⟨h1, h2, h3⟩
    · subst h1; subst h2; subst h3
      refine ⟨iI (-4), ite_self _, ?_⟩
      rw [i_lt (y := 0) (b := 0) rfl rfl (by omega) (by omega), if_pos (by omega)]
    · subst h3
      by_cases hx : x3 = 0
      · refine ⟨iI b, if_pos hx, ?_⟩
        rw [i_lt (y := 0) (b := 0) rfl rfl (by omega) (by omega), if_neg (by omega), if_pos hx]
      · refine ⟨iI v', if_neg hx, ?_⟩
        rw [i_lt (y := 0) (b := 0) rfl rfl (by omega) (by omega), if_neg (by omega), if_neg hx]
  intro k
  induction k with
  | zero =>
    intro j n nn S b v v' hj hn hnn q f t en hb
    obtain ⟨n, rfl⟩ : ∃ n', n = n' + 1 := ⟨n - 1, by omega⟩
    obtain ⟨nn, rfl⟩ : ∃ n', nn = n' + 1 := ⟨nn - 1, by omega⟩
    have ej : j = mi A := by omega
    subst ej
    obtain ⟨r, e1, -⟩ := fin b v v' hb S S
    refine ⟨r, S, ?_, q, fun T hT => ⟨T, ?_, F78.rf⟩⟩
    · rw [f_X7_dredged_83, (q.rc hR).1.1, i_le (x := iI (mi A : Int)) (y := iI (mi A : Int)) rfl rfl (by omega) (by omega), if_pos (by omega)]
      exact e1
    · obtain ⟨r', e2, e3⟩ := fin b v v' hb S T
      rw [e1] at e2
      cases e2
      rw [f_X8_dredged_55, hT.1.1, i_le (x := iI (mi A : Int)) (y := iI (mi A : Int)) rfl rfl (by omega) (by omega), if_pos (by omega)]
      exact e3
  | succ k ih =>
    intro j n nn S b v v' hj hn hnn q f t en hb
    obtain ⟨n, rfl⟩ : ∃ n', n = n' + 1 := ⟨n - 1, by omega⟩
    obtain ⟨nn, rfl⟩ : ∃ n', nn = n' + 1 := ⟨nn - 1, by omega⟩
    have hjm : j < mi A := by omega
    obtain ⟨g1, g2, g3, g4, g5, g6⟩ := hV.2.1 j hjm
    have code0 : f_X7_dredged_83 (n + 1) S (iI (m : Int)) x3 (iI (L : Int)) (iI b) (iI v) (iI (j : Int)) = if (250 : Int) ≤ mk A (6 * j) then f_X7_dredged_83 n S (iI (m : Int)) x3 (iI (L : Int)) (iI b) (iI v) (iI ((j + 1 : Nat) : Int)) else ((f_X2_ruleMile (sI S 11 7 (iI (j : Int))) (iI (j : Int))).bind fun S3 => b2 (f_X2_quickest S3 (iI (m : Int))) fun v4 S5 => (f_X2_ruleMile (sI S5 11 7 (-1)) (iI (j : Int))).bind fun S6 => if (iI (L : Int) - v4) ≤ iI v then (f_X7_dredged_83 n S6 (iI (m : Int)) x3 (iI (L : Int)) (iI b) (iI v) (iI ((j + 1 : Nat) : Int))) else (f_X7_dredged_83 n S6 (iI (m : Int)) x3 (iI (L : Int)) (iI (j : Int)) (iI (L : Int) - v4) (iI ((j + 1 : Nat) : Int)))) := by
      rw [f_X7_dredged_83, (q.rc hR).1.1, i_le (x := iI (mi A : Int)) (y := iI (j : Int)) rfl rfl (by omega) (by omega), if_neg (by omega), e_markOf (q.rc hR) hV (x := iI (j : Int)) (y := 0) (w := 0) rfl rfl hjm (by omega), Option.bind_some, show rS 3 0 = some 250 by decide, Option.bind_some, i_le (x := 250) (a := 250) rfl rfl (by omega) (by rw [Nat.add_zero]; omega), Nat.add_zero]
      unfold f_X7_dredged_184
      rw [i_next]
    have ref0 : ∀ T, RM T A → f_X8_dredged_55 (nn + 1) T (iI (s : Int)) (iI (m : Int)) x3 (iI (L : Int)) (iI b) (iI v') (iI (j : Int)) = if (250 : Int) ≤ mk A (6 * j) then f_X8_dredged_55 nn T (iI (s : Int)) (iI (m : Int)) x3 (iI (L : Int)) (iI b) (iI v') (iI ((j + 1 : Nat) : Int)) else (b2 (f_X8_quickest (sI T 31 (6 * j) (iI (mk A (6 * j) + 1))) (iI (s : Int)) (iI (m : Int))) fun v4 S5 => (rI S5 0 31 (6 * iI (j : Int))).bind fun v6 => (wI S5 31 (6 * iI (j : Int)) (v6 - 1)).bind fun S7 => if (iI (L : Int) - v4) ≤ iI v' then (f_X8_dredged_55 nn S7 (iI (s : Int)) (iI (m : Int)) x3 (iI (L : Int)) (iI b) (iI v') (iI ((j + 1 : Nat) : Int))) else (f_X8_dredged_55 nn S7 (iI (s : Int)) (iI (m : Int)) x3 (iI (L : Int)) (iI (j : Int)) (iI (L : Int) - v4) (iI ((j + 1 : Nat) : Int)))) := by
      intro T hT
      rw [f_X8_dredged_55, hT.1.1, i_le (x := iI (mi A : Int)) (y := iI (j : Int)) rfl rfl (by omega) (by omega), if_neg (by omega), i_le (x := 100000) (y := iI (L : Int)) (a := 100000) rfl rfl (by omega) (by omega), if_neg (by omega), rm_mk hT hV (w := 0) (ix6z rfl) hjm (by omega), Option.bind_some, Option.bind_some, i_le (x := 250) (a := 250) rfl rfl (by omega) (by rw [Nat.add_zero]; omega), wI_ok (k := 31) (ix6z rfl) rfl (show 6 * j < 96 by omega) (by omega), Option.bind_some, show (1 : Int32) = iI 1 from rfl, iI_add, Nat.add_zero]
      unfold f_X8_dredged_140 f_X8_dredged_156 f_X8_dredged_158
      rw [show iI 1 = (1 : Int32) from rfl, i_next]
      by_cases h : (250 : Int) ≤ mk A (6 * j)
      · rw [if_pos h, if_pos h]
      · rw [if_neg h, if_neg h]
        congr 1
        funext v4 S5
        congr 1
        funext v6
        congr 1
        funext S7
        by_cases hc : (iI (L : Int) - v4) ≤ iI v'
        · rw [if_pos hc, if_pos hc]
          rw [if_pos hc]
        · rw [if_neg hc, if_neg hc]
          rw [if_neg hc]
    rw [code0]
    by_cases h250 : (250 : Int) ≤ mk A (6 * j)
    · rw [if_pos h250]
      obtain ⟨r, S', i1, i2, i3⟩ := ih (j + 1) n nn S b v v' (by omega) (by omega) (by omega) q f t en hb
      refine ⟨r, S', i1, i2, fun T hT => ?_⟩
      rw [ref0 T hT, if_pos h250]
      exact i3 T hT
    · rw [if_neg h250]
      have tvj : TV (hu A (3 * s + 1)) (hu A (3 * s)) (se A 1) (j : Int) (needV (se A 3) (se A 4) (hu A (3 * s))) := ⟨tv.1, tv.2.1, tv.2.2.1, by omega, tv.2.2.2.2⟩
      have q1 := q.only (Only.sI (k := 11) (j := 7) (x := iI (j : Int))) (Or.inl rfl)
      have t1 := t.du (x := iI (j : Int)) (du' := (j : Int)) rfl
      obtain ⟨S3, e3, o3, fr3, en3⟩ := e_ruleMile hV hjm tvj (q1.rc hR) t1 (x := iI (j : Int)) rfl
      have q3 := q1.only o3 (Or.inr rfl)
      have f3 : FL S3 A := f.cg (fun q _ _ => by rw [o3.2]; rfl)
      have t3 := o3.tr11 (by decide) t1
      have ena : ∀ i, i < mi A → ∀ l, l < 11 → EN S3 A (hu A (3 * s + 1)) (hu A (3 * s)) (se A 1) (j : Int) (needV (se A 3) (se A 4) (hu A (3 * s))) i l := by
        intro i hi l hl
        by_cases hij : i = j
        · rw [hij]; exact en3 l hl
        · exact (en i hi l hl).mv (by omega) (by omega) (by rw [fr3 _ (by omega), sI_ne (by decide)])
      obtain ⟨S4, r1, e4, w4, r4⟩ := e_quickest hV (q3.rc hR) (KK_mono hV tvj) (mkGA hV f3 ena) (a := m) hm
      have q4 := q3.fw w4
      have f4 : FL S4 A := f3.cg (fun q _ h2 => w4.2 q (by omega))
      have t4 : Tr S4 (hu A (3 * s)) (hu A (3 * s + 1)) (se A 3) (se A 4) (se A 1) (needV (se A 3) (se A 4) (hu A (3 * s))) (j : Int) := by unfold Tr at t3 ⊢; rw [w4.1]; exact t3
      have q5 := q4.only (Only.sI (k := 11) (j := 7) (x := (-1 : Int32))) (Or.inl rfl)
      have t5 := t4.du (x := (-1 : Int32)) (du' := -1) rfl
      obtain ⟨S6, e6, o6, fr6, en6⟩ := e_ruleMile hV hjm tv (q5.rc hR) t5 (x := iI (j : Int)) rfl
      have q6 := q5.only o6 (Or.inr rfl)
      have f6 : FL S6 A := f4.cg (fun q _ _ => by rw [o6.2]; rfl)
      have t6 := o6.tr11 (by decide) t5
      have enb : ∀ i, i < mi A → ∀ l, l < 11 → EN S6 A (hu A (3 * s + 1)) (hu A (3 * s)) (se A 1) (-1) (needV (se A 3) (se A 4) (hu A (3 * s))) i l := by
        intro i hi l hl
        by_cases hij : i = j
        · rw [hij]; exact en6 l hl
        · exact (ena i hi l hl).mv (by omega) (by omega) (by rw [fr6 _ (by omega), sI_ne (by decide), w4.1])
      have le := lf_dug hV tv (j := j) hm
      have le : lfV (KK A (hu A (3 * s + 1)) (hu A (3 * s)) (se A 1) (j : Int) (needV (se A 3) (se A 4) (hu A (3 * s)))) (mi A) 0 m ≤ L := by rw [← hL]; exact le
      have sp := lf_spec (K := KK A (hu A (3 * s + 1)) (hu A (3 * s)) (se A 1) (j : Int) (needV (se A 3) (se A 4) (hu A (3 * s)))) (mi A) 0 m
      have mq : ∀ T, RM T A → ∃ T1, f_X8_quickest (sI T 31 (6 * j) (iI (mk A (6 * j) + 1))) (iI (s : Int)) (iI (m : Int)) = some (iI (lfV (KK A (hu A (3 * s + 1)) (hu A (3 * s)) (se A 1) (j : Int) (needV (se A 3) (se A 4) (hu A (3 * s)))) (mi A) 0 m : Int), T1) ∧ F78 (sI T 31 (6 * j) (iI (mk A (6 * j) + 1))) T1 := by
        intro T hT
        have m1 : RM (sI T 31 (6 * j) (iI (mk A (6 * j) + 1))) (setMk A (6 * j) (mk A (6 * j) + 1)) := hT.mk rfl (by decide) (by decide) (by decide) (by decide)
        obtain ⟨T1, f1, u1, -⟩ := m_quickest (s := s) (a := m) (PV_mk hV (j := j) (d := mk A (6 * j) + 1) (by omega)) m1 hs hm
        rw [KS_mk] at f1
        exact ⟨T1, f1, u1⟩
      generalize lfV (KK A (hu A (3 * s + 1)) (hu A (3 * s)) (se A 1) (j : Int) (needV (se A 3) (se A 4) (hu A (3 * s)))) (mi A) 0 m = L1 at le r4 mq sp
      rw [if_pos (by omega)] at r4
      have cmp : ((L : Int) - (L1 : Int) ≤ v) ↔ ((L : Int) - (L1 : Int) ≤ v') := by omega
      have back : ∀ T, RM T A → ∃ T1, F78 T T1 ∧ f_X8_dredged_55 (nn + 1) T (iI (s : Int)) (iI (m : Int)) x3 (iI (L : Int)) (iI b) (iI v') (iI (j : Int)) = if (L : Int) - (L1 : Int) ≤ v then (f_X8_dredged_55 nn T1 (iI (s : Int)) (iI (m : Int)) x3 (iI (L : Int)) (iI b) (iI v') (iI ((j + 1 : Nat) : Int))) else (f_X8_dredged_55 nn T1 (iI (s : Int)) (iI (m : Int)) x3 (iI (L : Int)) (iI (j : Int)) (iI ((L : Int) - (L1 : Int))) (iI ((j + 1 : Nat) : Int))) := by
        intro T hT
        obtain ⟨T1, f1, u1⟩ := mq T hT
        have v6 : T1.1 31 (6 * j) = iI (mk A (6 * j) + 1) := by rw [u1.1 31 (by decide) (by decide), sI_eq]
        refine ⟨sI T1 31 (6 * j) (iI (mk A (6 * j))), ⟨fun p p1 p2 => ?_, u1.2⟩, ?_⟩
        · by_cases h31 : p = 31
          · rw [h31]
            funext i
            by_cases hi : i = 6 * j
            · rw [hi, sI_eq]
              exact (hT.2.2.2.1 (6 * j) (by omega)).symm
            · rw [sI_nj hi, u1.1 31 (by decide) (by decide), sI_nj hi]
          · rw [sI_o h31, u1.1 p p1 p2, sI_o h31]
        · rw [ref0 T hT, if_neg h250]
          refine bd2 f1 ?_
          rw [rI_ok (t := 0) (k := 31) (ix6z rfl) rfl (show 6 * j < 96 by omega) (by omega), Option.bind_some, wI_ok (k := 31) (ix6z rfl) rfl (show 6 * j < 96 by omega) (by omega), Option.bind_some, v6, show (1 : Int32) = iI 1 from rfl, iI_sub, iI_sub, show mk A (6 * j) + 1 - 1 = mk A (6 * j) by omega, i_le (b := v') rfl rfl (by omega) (by omega)]
          by_cases hc : (L : Int) - (L1 : Int) ≤ v
          · rw [if_pos hc, if_pos (cmp.mp hc)]
          · rw [if_neg hc, if_neg (fun z => hc (cmp.mpr z))]
      have code1 : ((f_X2_ruleMile (sI S 11 7 (iI (j : Int))) (iI (j : Int))).bind fun S3 => b2 (f_X2_quickest S3 (iI (m : Int))) fun v4 S5 => (f_X2_ruleMile (sI S5 11 7 (-1)) (iI (j : Int))).bind fun S6 => if (iI (L : Int) - v4) ≤ iI v then (f_X7_dredged_83 n S6 (iI (m : Int)) x3 (iI (L : Int)) (iI b) (iI v) (iI ((j + 1 : Nat) : Int))) else (f_X7_dredged_83 n S6 (iI (m : Int)) x3 (iI (L : Int)) (iI (j : Int)) (iI (L : Int) - v4) (iI ((j + 1 : Nat) : Int)))) = if (L : Int) - (L1 : Int) ≤ v then (f_X7_dredged_83 n S6 (iI (m : Int)) x3 (iI (L : Int)) (iI b) (iI v) (iI ((j + 1 : Nat) : Int))) else (f_X7_dredged_83 n S6 (iI (m : Int)) x3 (iI (L : Int)) (iI (j : Int)) (iI ((L : Int) - (L1 : Int))) (iI ((j + 1 : Nat) : Int))) := by
        rw [e3, Option.bind_some]
        refine bd2 e4 ?_
        rw [e6, Option.bind_some, r4, iI_sub, i_le (b := v) rfl rfl (by omega) (by omega)]
      rw [code1]
      by_cases hc : (L : Int) - (L1 : Int) ≤ v
      · rw [if_pos hc]
        obtain ⟨r, S', i1, i2, i3⟩ := ih (j + 1) n nn S6 b v v' (by omega) (by omega) (by omega) q6 f6 t6 enb hb
        refine ⟨r, S', i1, i2, fun T hT => ?_⟩
        obtain ⟨T1, o1, x1⟩ := back T hT
        obtain ⟨T2, x2, o2⟩ := i3 T1 (o1.rm hT)
        rw [if_pos hc] at x1
        exact ⟨T2, by rw [x1]; exact x2, o1.tr o2⟩
      · rw [if_neg hc]
        obtain ⟨r, S', i1, i2, i3⟩ := ih (j + 1) n nn S6 (j : Int) ((L : Int) - (L1 : Int)) ((L : Int) - (L1 : Int)) (by omega) (by omega) (by omega) q6 f6 t6 enb (Or.inr ⟨by omega, by omega, rfl⟩)
        refine ⟨r, S', i1, i2, fun T hT => ?_⟩
        obtain ⟨T1, o1, x1⟩ := back T hT
        obtain ⟨T2, x2, o2⟩ := i3 T1 (o1.rm hT)
        rw [if_neg hc] at x1
        exact ⟨T2, by rw [x1]; exact x2, o1.tr o2⟩
theorem ok_dredged (a0 a1 a2 : Int32) : Pr Inv (fun S => f_X7_dredged S a0 a1 a2) (fun S => f_X8_dredged S a0 a1 a2) := by
  intro S hI
  obtain ⟨⟨A, hV, hR, hM⟩, -⟩ := id hI
  obtain ⟨a, ha, hx⟩ := i_of a0
  obtain ⟨b, hb, hy⟩ := i_of a1
  obtain ⟨c, hc, hz⟩ := i_of a2
  have h16 := hV.1.1
  have mf : ∀ T, RM T A → f_X8_dredged T a0 a1 a2 = if 0 ≤ a ∧ a < nsh A then (if 0 ≤ b ∧ b ≤ 1439 then (if 0 ≤ c ∧ c ≤ 1 then (if (mi A : Int) = 0 then some (-2, T) else (b2 (f_X8_quickest T a0 a1) fun v4 S5 => f_X8_dredged_55 FU S5 a0 a1 a2 v4 (-4) (-1) 0)) else some (-1, T)) else some (-1, T)) else some (-1, T) := by
    intro T hM
    unfold f_X8_dredged
    rw [gt01 (m_isShip hM hV hx ha), gt01 (m_isStart hy hb), g_i hz hc 0 1 0 1 rfl rfl, hM.1.1, i_eq (x := iI (mi A : Int)) (y := 0) (b := 0) rfl rfl (by omega) (by omega)]
  show ∃ r S1 S2, f_X7_dredged S a0 a1 a2 = some (r, S1) ∧ f_X8_dredged S1 a0 a1 a2 = some (r, S2) ∧ Inv S2
  unfold f_X7_dredged
  rw [gt01 (e_isStart hR hV hx hy ha hb), g_w hz hc 0 1 0 1 rfl rfl (by omega) (by omega), hR.1.1, i_eq (x := iI (mi A : Int)) (y := 0) (b := 0) rfl rfl (by omega) (by omega)]
  by_cases h12 : (0 ≤ a ∧ a < nsh A) ∧ (0 ≤ b ∧ b ≤ 1439)
  · obtain ⟨h1, h2⟩ := id h12
    rw [if_pos h12]
    by_cases h3 : 0 ≤ c ∧ c ≤ 1
    · rw [if_pos h3]
      by_cases h4 : (mi A : Int) = 0
      · rw [if_pos h4]
        exact ⟨_, _, _, rfl, by rw [mf S hM, if_pos h1, if_pos h2, if_pos h3, if_pos h4], hI⟩
      · rw [if_neg h4]
        obtain ⟨s, hs, rfl⟩ := nat_of h1
        obtain ⟨m, hm, rfl⟩ := nat_of (a := b) (n := 1440) (by omega)
        obtain ⟨S1, e1, S2, e2, q2, f2, t2⟩ := s_tide hI hV hR hs hx
        obtain ⟨S3, e3, o3, en3⟩ := e_rule hV (TVs hV hs) (q2.rc hR) t2
        have q3 := q2.only o3 (Or.inr rfl)
        have f3 : FL S3 A := f2.cg (fun q _ _ => by rw [o3.2])
        have t3 := o3.tr11 (by decide) t2
        obtain ⟨S4, r1, e4, w4, r4⟩ := e_quickest hV (q3.rc hR) (KK_mono hV (TVs hV hs)) (mkGA hV f3 en3) (a := m) hm
        have q4 := q3.fw w4
        have f4 : FL S4 A := f3.cg (fun q _ h2 => w4.2 q (by omega))
        have t4 : Tr S4 (hu A (3 * s)) (hu A (3 * s + 1)) (se A 3) (se A 4) (se A 1) (needV (se A 3) (se A 4) (hu A (3 * s))) (-1) := by unfold Tr at t3 ⊢; rw [w4.1]; exact t3
        have en4 : ∀ i, i < mi A → ∀ l, l < 11 → EN S4 A (hu A (3 * s + 1)) (hu A (3 * s)) (se A 1) (-1) (needV (se A 3) (se A 4) (hu A (3 * s))) i l := fun i hi l hl => (en3 i hi l hl).cg (by rw [w4.1])
        have e4 : f_X2_quickest S3 a1 = some (r1, S4) := by rw [hy]; exact e4
        have r4 : r1 = (if lfV (KS A s) (mi A) 0 m < 100000 then iI (lfV (KS A s) (mi A) 0 m : Int) else -4) := r4
        have sp := lf_spec (K := KS A s) (mi A) 0 m
        have code : ((f_X5_begin S a0).bind fun S3 => (f_X2_begin S3).bind fun S4 => b2 (f_X2_quickest S4 a1) fun v5 S6 => if v5 = (-4) then (some ((-4), S6)) else (f_X7_dredged_83 FU S6 a1 a2 v5 (-4) (-4) 0)) = if r1 = (-4) then (some ((-4), S4)) else (f_X7_dredged_83 FU S4 a1 a2 r1 (-4) (-4) 0) := by
          unfold f_X2_begin
          rw [e1, Option.bind_some, e2, Option.bind_some, e3, Option.bind_some, Option.bind_some]
          exact bd2 e4 rfl
        rw [code]
        have mq : ∀ T, RM T A → ∃ T2, F78 T T2 ∧ f_X8_dredged T a0 a1 a2 = f_X8_dredged_55 FU T2 a0 a1 a2 (iI (lfV (KS A s) (mi A) 0 m : Int)) (-4) (-1) 0 := fun T hT => by
          obtain ⟨T2, e5, o5, -⟩ := m_quickest (s := s) (a := m) hV hT hs hm
          refine ⟨T2, o5, ?_⟩
          rw [mf T hT, if_pos h1, if_pos h2, if_pos h3, if_neg h4, hx, hy]
          exact bd2 e5 rfl
        obtain ⟨L, hL⟩ : ∃ L, lfV (KS A s) (mi A) 0 m = L := ⟨_, rfl⟩
        rw [hL] at r4 sp mq
        by_cases hl : L < 100000
        · rw [if_pos hl] at r4
          have hr := Arr_rg _ _ _ _ (sp.2.1 hl)
          rw [r4, if_neg (fun z => by have := (c_eq (y := -4) (b := -4) rfl rfl (by omega) (by omega)).mp z; omega)]
          obtain ⟨r, S5, i1, i2, i3⟩ := dg_go (x3 := a2) hV hR hs hm hL hl (mi A) 0 FU FU S4 (-4) (-4) (-1) (by omega) (by show mi A < 20000; omega) (by show mi A < 20000; omega) q4 f4 t4 en4 (Or.inl ⟨rfl, rfl, rfl⟩)
          obtain ⟨T2, o6, e6⟩ := mq S5 (i2.rm hM)
          obtain ⟨T3, e7, o7⟩ := i3 T2 (o6.rm (i2.rm hM))
          refine ⟨r, S5, T3, by rw [hy]; exact i1, ?_, hI.sq78 i2 (o6.tr o7)⟩
          rw [e6, hx, hy]
          exact e7
        · rw [if_neg hl] at r4
          rw [r4, if_pos rfl]
          obtain ⟨T2, o6, e6⟩ := mq S4 (q4.rm hM)
          refine ⟨_, S4, T2, rfl, ?_, hI.sq78 q4 o6⟩
          rw [e6]
          have hM2 := o6.rm (q4.rm hM)
          unfold FU
          rw [f_X8_dredged_55, hM2.1.1, i_le (x := iI (mi A : Int)) (y := 0) (b := 0) rfl rfl (by omega) (by omega), if_neg (by omega), i_le (x := 100000) (y := iI (L : Int)) (a := 100000) rfl rfl (by omega) (by omega), if_pos (by omega)]
          rfl
    · rw [if_neg h3]
      exact ⟨_, _, _, rfl, by rw [mf S hM, if_pos h1, if_pos h2, if_neg h3], hI⟩
  · rw [if_neg h12]
    by_cases h1 : 0 ≤ a ∧ a < nsh A
    · exact ⟨_, _, _, rfl, by rw [mf S hM, if_pos h1, if_neg (fun q => h12 ⟨h1, q⟩)], hI⟩
    · exact ⟨_, _, _, rfl, by rw [mf S hM, if_neg h1], hI⟩
