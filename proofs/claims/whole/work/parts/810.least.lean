/-! ===== least ===== -/
def SQ (S S' : ST) : Prop := (∀ k, k ≠ 11 → k ≠ 13 → k ≠ 14 → k ≠ 16 → S'.1 k = S.1 k) ∧ FP S'
theorem SQ.fw {S S1 S2 : ST} (h : SQ S S1) (g : FrW S1 S2) : SQ S S2 := ⟨fun k h1 h2 h3 h4 => by rw [g.1]; exact h.1 k h1 h2 h3 h4, h.2.of (by rw [g.1]) (by rw [g.1]) (fun k _ h2 => g.2 k (by omega))⟩
theorem SQ.only {S S1 S2 : ST} {k : Nat} (h : SQ S S1) (g : Only k S1 S2) (hk : k = 11 ∨ k = 16) : SQ S S2 := ⟨fun q h1 h2 h3 h4 => by rw [g.1 q (by omega)]; exact h.1 q h1 h2 h3 h4, h.2.of (by rw [g.1 13 (by omega)]) (g.1 14 (by omega)) (fun q _ _ => by rw [g.2])⟩
theorem SQ.rc {S S' : ST} {A : PT} (h : SQ S S') (hR : RC S A) : RC S' A := hR.of (by rw [h.1 1 (by decide) (by decide) (by decide) (by decide)]) (by rw [h.1 1 (by decide) (by decide) (by decide) (by decide)]) (h.1 2 (by decide) (by decide) (by decide) (by decide)) (h.1 3 (by decide) (by decide) (by decide) (by decide)) (h.1 4 (by decide) (by decide) (by decide) (by decide)) (h.1 5 (by decide) (by decide) (by decide) (by decide))
theorem SQ.rm {S S' : ST} {A : PT} (h : SQ S S') (hM : RM S A) : RM S' A := hM.of (by rw [h.1 30 (by decide) (by decide) (by decide) (by decide)]) (by rw [h.1 30 (by decide) (by decide) (by decide) (by decide)]) (h.1 32 (by decide) (by decide) (by decide) (by decide)) (h.1 33 (by decide) (by decide) (by decide) (by decide)) (h.1 31 (by decide) (by decide) (by decide) (by decide)) (h.1 34 (by decide) (by decide) (by decide) (by decide))
/-- after the code's search and the reference's -/
theorem Inv.sq {S S' T : ST} (h : Inv S) (g : SQ S S') (h1 : ∀ k, ¬ Scr k → k ≠ 30 → T.1 k = S'.1 k) (h30 : ∀ i, (i = 0 ∨ i = 4 ∨ i = 7 ∨ i = 24) → T.1 30 i = S'.1 30 i) (h2 : T.2 = S'.2) : Inv T := by
  obtain ⟨⟨A, hA⟩, hI, hT, hSh, -⟩ := h
  have o : ∀ k, (k = 11 ∨ k = 12 ∨ (16 ≤ k ∧ k ≤ 21) ∨ k = 23 ∨ k = 29 ∨ (36 ≤ k ∧ k ≤ 44) ∨ k = 49 → False) → k ≠ 30 → k ≠ 13 → k ≠ 14 → T.1 k = S.1 k := fun k hk h3 h13 h14 => (h1 k hk h3).trans (g.1 k (fun q => hk (by omega)) h13 h14 (fun q => hk (by omega)))
  have o30 : ∀ i, (i = 0 ∨ i = 4 ∨ i = 7 ∨ i = 24) → T.1 30 i = S.1 30 i := fun i hi => by rw [h30 i hi, g.1 30 (by decide) (by decide) (by decide) (by decide)]
  have s13 : ¬ Scr 13 := by unfold Scr; omega
  have s14 : ¬ Scr 14 := by unfold Scr; omega
  refine ⟨⟨A, hA.of (fun k _ _ => o k (by omega) (by omega) (by omega) (by omega)) (o30 0 (by omega)) (o30 4 (by omega)) (fun k _ _ => o k (by omega) (by omega) (by omega) (by omega))⟩, hI.of (by rw [o 0 (by omega) (by omega) (by omega) (by omega)]) (o30 24 (by omega)) (fun k _ _ => o k (by omega) (by omega) (by omega) (by omega)) (o 45 (by omega) (by omega) (by omega) (by omega)), hT.of (by rw [o 22 (by omega) (by omega) (by omega) (by omega)]) (o30 7 (by omega)) (o 24 (by omega) (by omega) (by omega) (by omega)) (o 35 (by omega) (by omega) (by omega) (by omega)), hSh.of (o 27 (by omega) (by omega) (by omega) (by omega)) (o 28 (by omega) (by omega) (by omega) (by omega)) (o 46 (by omega) (by omega) (by omega) (by omega)) (o 47 (by omega) (by omega) (by omega) (by omega)) (o 48 (by omega) (by omega) (by omega) (by omega)) (fun k _ _ => o k (by omega) (by omega) (by omega) (by omega)), g.2.of (by rw [h1 13 s13 (by decide)]) (h1 14 s14 (by decide)) (fun k _ _ => by rw [h2])⟩
theorem Inv.sq78 {S S' T : ST} (h : Inv S) (g : SQ S S') (f : F78 S' T) : Inv T := h.sq g (fun k hk _ => f.1 k (fun q => hk (by unfold Scr; omega)) (fun q => hk (by unfold Scr; omega))) (fun i _ => by rw [f.1 30 (by decide) (by decide)]) f.2
theorem Inv.sq0 {S S' : ST} (h : Inv S) (g : SQ S S') : Inv S' := h.sq g (fun _ _ _ => rfl) (fun _ _ => rfl) rfl
theorem FL.cg {S S' : ST} {A : PT} (h : FL S A) (e : ∀ q, 50 ≤ q → q < 150 → S'.2 q = S.2 q) : FL S' A := fun k hk i hi => by rw [bt_cg (e _ (by omega) (by omega))]; exact h k hk i hi
/-- the trial begins, the tide is laid -/
theorem s_tide {S : ST} {A : PT} (hI : Inv S) (hV : PV A) (hR : RC S A) {s : Nat} (hs : s < nsh A) {x : Int32} (hx : x = iI (s : Int)) : ∃ S1, f_X5_begin S x = some S1 ∧ ∃ S2, f_X2_layTide S1 = some S2 ∧ SQ S S2 ∧ FL S2 A ∧ Tr S2 (hu A (3 * s)) (hu A (3 * s + 1)) (se A 3) (se A 4) (se A 1) (needV (se A 3) (se A 4) (hu A (3 * s))) (-1) := by
  obtain ⟨S1, e1, o1, t1⟩ := e_begin hR hV hx hs
  have hI1 := hI.only11 o1
  obtain ⟨S2, e2, o2, f2, p2⟩ := e_layTide (o1.rc hR) hV hI1.2.2.2.2
  refine ⟨S1, e1, S2, e2, ⟨fun k h1 h2 h3 _ => (o2.1 k h2 h3).trans (o1.1 k h1), p2⟩, f2, ?_⟩
  unfold Tr at t1 ⊢
  rw [o2.1 11 (by decide) (by decide)]
  exact t1
theorem s_rule {S S2 : ST} {A : PT} (hV : PV A) (hR : RC S A) {dr br ru lu wi ne du : Int} (h : TV br dr wi du ne) (q : SQ S S2) (f : FL S2 A) (t : Tr S2 dr br ru lu wi ne du) : ∃ S3, f_X2_rule S2 = some S3 ∧ SQ S S3 ∧ FL S3 A ∧ Tr S3 dr br ru lu wi ne du ∧ GA S3 (mi A) (KK A br dr wi du ne) ∧ Only 16 S2 S3 := by
  obtain ⟨S3, e3, o3, g3⟩ := e_rule hV h (q.rc hR) t
  have f3 : FL S3 A := f.cg (fun q _ _ => by rw [o3.2])
  exact ⟨S3, e3, q.only o3 (Or.inr rfl), f3, o3.tr11 (by decide) t, mkGA hV f3 g3, o3⟩
theorem ok_least (a0 a1 a2 : Int32) : Pr Inv (fun S => f_X7_least S a0 a1 a2) (fun S => f_X8_least S a0 a1 a2) := by
  intro S hI
  obtain ⟨⟨A, hV, hR, hM⟩, -⟩ := id hI
  obtain ⟨a, ha, hx⟩ := i_of a0
  obtain ⟨b, hb, hy⟩ := i_of a1
  obtain ⟨c, hc, hz⟩ := i_of a2
  have h16 := hV.1.1
  have mf : ∀ T, RM T A → f_X8_least T a0 a1 a2 = if 0 ≤ a ∧ a < nsh A then (if 0 ≤ b ∧ b ≤ 1439 then (if -1 ≤ c ∧ c ≤ 15 then (if (mi A : Int) = 0 then some (-2, T) else (if c < (mi A : Int) then (b2 (f_X8_quickest T a0 a1) fun v4 S5 => if v4 < 100000 then (f_X8_least_84 FU S5 a2 v4 0 0) else (some ((-4), S5))) else some (-1, T))) else some (-1, T)) else some (-1, T)) else some (-1, T) := by
    intro T hM
    unfold f_X8_least f_X8_least_46
    rw [gt01 (m_isShip hM hV hx ha), gt01 (m_isStart hy hb), g_i hz hc (-1) 15 (-1) 15 rfl rfl, hM.1.1, i_lt (x := a2) (y := iI (mi A : Int)) hz rfl hc (by omega), i_eq (x := iI (mi A : Int)) (y := 0) (b := 0) rfl rfl (by omega) (by omega), i_eq (x := iI (mi A : Int)) (y := 0) (b := 0) rfl rfl (by omega) (by omega)]
    by_cases h4 : (mi A : Int) = 0
    · rw [if_pos h4, if_pos h4, if_pos h4]
    · rw [if_neg h4, if_neg h4, if_neg h4]
  show ∃ r S1 S2, f_X7_least S a0 a1 a2 = some (r, S1) ∧ f_X8_least S1 a0 a1 a2 = some (r, S2) ∧ Inv S2
  unfold f_X7_least
  rw [e_refusalAt hR hV hx hy hz (w := -1) (lo := -1) rfl ha hb hc (by omega), Option.bind_some]
  by_cases h12 : (0 ≤ a ∧ a < nsh A) ∧ (0 ≤ b ∧ b ≤ 1439)
  · obtain ⟨h1, h2⟩ := id h12
    rw [if_pos h12]
    by_cases h3 : -1 ≤ c ∧ c ≤ 15
    · rw [if_pos h3]
      by_cases h4 : (mi A : Int) = 0
      · rw [if_pos h4, if_neg (by decide)]
        exact ⟨_, _, _, rfl, by rw [mf S hM, if_pos h1, if_pos h2, if_pos h3, if_pos h4]; rfl, hI⟩
      · rw [if_neg h4]
        by_cases h5 : (mi A : Int) ≤ c
        · rw [if_pos h5, if_neg (by decide)]
          exact ⟨_, _, _, rfl, by rw [mf S hM, if_pos h1, if_pos h2, if_pos h3, if_neg h4, if_neg (by omega)]; rfl, hI⟩
        · rw [if_neg h5, if_pos (show iI 0 = 0 from rfl)]
          obtain ⟨s, hs, rfl⟩ := nat_of h1
          obtain ⟨m, hm, rfl⟩ := nat_of (a := b) (n := 1440) (by omega)
          obtain ⟨S1, e1, S2, e2, q2, f2, t2⟩ := s_tide hI hV hR hs hx
          obtain ⟨S3, e3, q3, f3, t3, g3, -⟩ := s_rule hV hR (TVs hV hs) q2 f2 t2
          obtain ⟨S4, r, e4, w4, r4⟩ := e_quickest hV (q3.rc hR) (KK_mono hV (TVs hV hs)) g3 (a := m) (by omega)
          have q4 := q3.fw w4
          have sp := lf_spec (K := KS A s) (mi A) 0 m
          have r4 : r = (if lfV (KS A s) (mi A) 0 m < 100000 then iI (lfV (KS A s) (mi A) 0 m : Int) else -4) := r4
          have e4 : f_X2_quickest S3 a1 = some (r, S4) := by rw [hy]; exact e4
          rw [e1, Option.bind_some]
          unfold f_X2_begin
          rw [e2, Option.bind_some, e3, Option.bind_some, Option.bind_some, e4]
          show ∃ r1 T1 T2, (if r = -4 then some (r, S4) else if 0 ≤ a2 then b2 (f_X2_firstPace S4 a1 r a2) fun v6 S7 => some (v6, S7) else some (r, S4)) = some (r1, T1) ∧ _ ∧ _
          have mq : ∀ T, RM T A → ∃ T2, F78 T T2 ∧ (∀ j, j < mi A → ∀ u, u ≤ 60 * j → T2.1 38 (961 * j + u) = iI (byV (KS A s) (mi A - j - 1) j (m + u) : Int)) ∧ f_X8_least T a0 a1 a2 = if (lfV (KS A s) (mi A) 0 m : Int) < 100000 then f_X8_least_84 FU T2 a2 (iI (lfV (KS A s) (mi A) 0 m : Int)) 0 0 else some (-4, T2) := fun T hT => by
            obtain ⟨T2, e5, o5, g5⟩ := m_quickest (s := s) (a := m) hV hT hs (by omega)
            refine ⟨T2, o5, g5, ?_⟩
            rw [mf T hT, if_pos h1, if_pos h2, if_pos h3, if_neg h4, if_pos (by omega), hx, hy, e5]
            show (if iI (lfV (KS A s) (mi A) 0 m : Int) < 100000 then f_X8_least_84 FU T2 a2 (iI (lfV (KS A s) (mi A) 0 m : Int)) 0 0 else some (-4, T2)) = _
            rw [i_lt (y := 100000) (b := 100000) rfl rfl (by omega) (by omega)]
          by_cases hl : lfV (KS A s) (mi A) 0 m < 100000
          · rw [if_pos hl] at r4
            have hr := Arr_rg _ _ _ _ (sp.2.1 hl)
            rw [r4, if_neg (fun z => by have := (c_eq (y := -4) (b := -4) rfl rfl (by omega) (by omega)).mp z; omega), i_le (x := 0) (a := 0) rfl hz (by omega) hc]
            by_cases h0 : 0 ≤ c
            · rw [if_pos h0]
              obtain ⟨j, hj, rfl⟩ := nat_of (a := c) (n := mi A) ⟨h0, by omega⟩
              obtain ⟨S5, e5, w5⟩ := e_firstPace hV (q4.rc hR) (KK_mono hV (TVs hV hs)) (g3.fw w4) (a := m) (u := j) (by omega) hj hl
              have q5 := q4.fw w5
              have e5 : f_X2_firstPace S4 a1 (iI (lfV (KS A s) (mi A) 0 m : Int)) a2 = some (iI (pth (KS A s) (mi A) j 0 m : Int), S5) := by rw [hy, hz]; exact e5
              obtain ⟨T2, o6, g6, e6⟩ := mq S5 (q5.rm hM)
              refine ⟨iI (pth (KS A s) (mi A) j 0 m : Int), S5, T2, by rw [e5]; rfl, ?_, hI.sq78 q5 o6⟩
              rw [e6, if_pos (by omega), hz]
              exact l84 hV (a := m) (by omega) g6 hj _ j 0 FU 0 (by omega) (by show j < 20000; omega) (by omega) hl
            · rw [if_neg h0]
              obtain ⟨T2, o6, g6, e6⟩ := mq S4 (q4.rm hM)
              refine ⟨_, S4, T2, rfl, ?_, hI.sq78 q4 o6⟩
              rw [e6, if_pos (by omega)]
              unfold FU
              rw [f_X8_least_84, i_le (x := a2) (y := 0) (b := 0) hz rfl hc (by omega), if_pos (by omega), i_le (x := 0) (a := 0) rfl hz (by omega) hc, if_neg h0]
          · rw [if_neg hl] at r4
            rw [r4, if_pos rfl]
            obtain ⟨T2, o6, g6, e6⟩ := mq S4 (q4.rm hM)
            exact ⟨_, S4, T2, rfl, by rw [e6, if_neg (by omega)], hI.sq78 q4 o6⟩
    · rw [if_neg h3, if_neg (by decide)]
      exact ⟨_, _, _, rfl, by rw [mf S hM, if_pos h1, if_pos h2, if_neg h3]; rfl, hI⟩
  · rw [if_neg h12, if_neg (by decide)]
    by_cases h1 : 0 ≤ a ∧ a < nsh A
    · exact ⟨_, _, _, rfl, by rw [mf S hM, if_pos h1, if_neg (fun q => h12 ⟨h1, q⟩)]; rfl, hI⟩
    · exact ⟨_, _, _, rfl, by rw [mf S hM, if_neg h1]; rfl, hI⟩
