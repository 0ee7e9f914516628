/-! ===== starts ===== -/
def fiV (f : Nat → Bool) : Nat → Int
  | 0 => -4
  | n + 1 => if f n = true ∧ fiV f n < 0 then (n : Int) else fiV f n
def laV (f : Nat → Bool) : Nat → Int
  | 0 => -4
  | n + 1 => if f n = true then (n : Int) else laV f n
theorem fi_spec (f : Nat → Bool) : ∀ n, (fiV f n = -4 ∧ ∀ i, i < n → f i = false) ∨ ∃ e, e < n ∧ fiV f n = (e : Int) ∧ f e = true ∧ ∀ i, i < e → f i = false := by
  intro n
  induction n with
  | zero => exact Or.inl ⟨rfl, fun i hi => by omega⟩
  | succ n ih =>
    unfold fiV
    rcases ih with ⟨h1, h2⟩ | ⟨e, h1, h2, h3, h4⟩
    · by_cases h : f n = true
      · rw [if_pos ⟨h, by omega⟩]
        exact Or.inr ⟨n, by omega, rfl, h, h2⟩
      · rw [if_neg (fun q => h q.1)]
        refine Or.inl ⟨h1, fun i hi => ?_⟩
        by_cases hin : i = n
        · rw [hin]; exact Bool.eq_false_iff.mpr h
        · exact h2 i (by omega)
    · rw [if_neg (fun q => by omega)]
      exact Or.inr ⟨e, by omega, h2, h3, h4⟩
theorem la_spec (f : Nat → Bool) : ∀ n, (laV f n = -4 ∧ ∀ i, i < n → f i = false) ∨ ∃ e, e < n ∧ laV f n = (e : Int) ∧ f e = true ∧ ∀ i, e < i → i < n → f i = false := by
  intro n
  induction n with
  | zero => exact Or.inl ⟨rfl, fun i hi => by omega⟩
  | succ n ih =>
    unfold laV
    by_cases h : f n = true
    · rw [if_pos h]
      exact Or.inr ⟨n, by omega, rfl, h, fun i h1 h2 => by omega⟩
    · rw [if_neg h]
      have hf : f n = false := Bool.eq_false_iff.mpr h
      rcases ih with ⟨h1, h2⟩ | ⟨e, h1, h2, h3, h4⟩
      · refine Or.inl ⟨h1, fun i hi => ?_⟩
        by_cases hin : i = n
        · rw [hin]; exact hf
        · exact h2 i (by omega)
      · refine Or.inr ⟨e, by omega, h2, h3, fun i g1 g2 => ?_⟩
        by_cases hin : i = n
        · rw [hin]; exact hf
        · exact h4 i g1 (by omega)
theorem fi_rg (f : Nat → Bool) (n : Nat) : -4 ≤ fiV f n ∧ fiV f n < (n : Int) + 1 := by
  rcases fi_spec f n with ⟨h, -⟩ | ⟨e, h1, h2, -⟩ <;> omega
theorem la_rg (f : Nat → Bool) (n : Nat) : -4 ≤ laV f n ∧ laV f n < (n : Int) + 1 := by
  rcases la_spec f n with ⟨h, -⟩ | ⟨e, h1, h2, -⟩ <;> omega
theorem cnt_no : ∀ n, cntV (fun _ => false) n = 0
  | 0 => rfl
  | n + 1 => by
    show cntV (fun _ => false) n + 0 = 0
    rw [cnt_no n]
theorem s50 {S : ST} {f : Nat → Bool} (hrow : ∀ u, u < 1440 → S.1 39 u = if f u = true then 1 else 0) (x2 : Int32) : ∀ (c t n : Nat), t + c = 1440 → c < n → f_X8_starts_50 n S x2 (iI (cntV f t : Int)) (iI (fiV f t)) (iI (laV f t)) (iI (t : Int)) = if x2 = 0 then some (iI (cntV f 1440 : Int), S) else if x2 = 1 then some (iI (fiV f 1440), S) else some (iI (laV f 1440), S) := by
  intro c
  induction c with
  | zero =>
    intro t n ht hn
    obtain ⟨n, rfl⟩ : ∃ n', n = n' + 1 := ⟨n - 1, by omega⟩
    have : t = 1440 := by omega
    subst this
    rw [f_X8_starts_50, i_le (x := 1440) (a := 1440) (b := ((1440 : Nat) : Int)) rfl rfl (by omega) (by omega), if_pos (by omega)]
  | succ c ih =>
    intro t n ht hn
    obtain ⟨n, rfl⟩ : ∃ n', n = n' + 1 := ⟨n - 1, by omega⟩
    have i1 := ih (t + 1) n (by omega) (by omega)
    have r1 : rI S 2 39 (iI (t : Int)) = some (if f t = true then 1 else 0) := by
      rw [rI_ok (t := 2) (k := 39) (n := t) rfl rfl (by rw [al39]; omega) (by omega), hrow t (by omega)]
    have fr := fi_rg f t
    rw [f_X8_starts_50, i_le (x := 1440) (a := 1440) (b := (t : Int)) rfl rfl (by omega) (by omega), if_neg (by omega)]
    unfold f_X8_starts_74 f_X8_starts_96 f_X8_starts_98 f_X8_starts_117
    rw [r1, Option.bind_some, Option.bind_some, Option.bind_some, i_next]
    simp only [Option.bind_some]
    have ec : cntV f (t + 1) = cntV f t + (if f t = true then 1 else 0) := rfl
    have ef : fiV f (t + 1) = if f t = true ∧ fiV f t < 0 then (t : Int) else fiV f t := rfl
    have el : laV f (t + 1) = if f t = true then (t : Int) else laV f t := rfl
    by_cases h : f t = true
    · rw [if_pos h] at ec el
      rw [ec, el] at i1
      rw [if_pos h]
      simp only [if_neg (show ¬ (1 : Int32) = 0 by decide)]
      rw [i_le (x := 0) (a := 0) rfl rfl (by omega) (by omega)]
      have e1 : iI (cntV f t : Int) + 1 = iI ((cntV f t + 1 : Nat) : Int) := i_next
      rw [e1]
      by_cases h0 : 0 ≤ fiV f t
      · rw [if_pos h0]
        rw [if_neg (fun q => by omega)] at ef
        rw [ef] at i1
        exact i1
      · rw [if_neg h0]
        rw [if_pos ⟨h, by omega⟩] at ef
        rw [ef] at i1
        exact i1
    · rw [if_neg h] at ec el
      rw [if_neg (fun q => h q.1)] at ef
      rw [ec, el, ef] at i1
      rw [if_neg h, if_pos rfl, if_pos rfl, if_pos rfl]
      rw [show iI (cntV f t : Int) + 0 = iI ((cntV f t + 0 : Nat) : Int) by rw [show (0 : Int32) = iI 0 from rfl, iI_add]; rfl]
      exact i1
theorem SQ.lo {S S1 S2 : ST} (h : SQ S S1) (e : S2.1 = S1.1) (g : ∀ q, q < 150 → S2.2 q = S1.2 q) : SQ S S2 := ⟨fun k h1 h2 h3 h4 => by rw [e]; exact h.1 k h1 h2 h3 h4, h.2.of (by rw [e]) (by rw [e]) (fun k _ h2 => g k h2)⟩
theorem Inv.sq90 {S S' T : ST} (h : Inv S) (g : SQ S S') (f : F90 S' T) : Inv T := h.sq g (fun k hk _ => f.1 k (fun q => hk (by unfold Scr; omega)) (fun q => hk (by unfold Scr; omega))) (fun i _ => by rw [f.1 30 (by decide) (by decide)]) f.2
theorem ok_starts (a0 a1 : Int32) : Pr Inv (fun S => f_X7_starts S a0 a1) (fun S => f_X8_starts S a0 a1) := by
  intro S hI
  obtain ⟨⟨A, hV, hR, hM⟩, -⟩ := id hI
  obtain ⟨a, ha, hx⟩ := i_of a0
  obtain ⟨b, hb, hy⟩ := i_of a1
  have h16 := hV.1.1
  have h6 := hV.1.2
  have mf : ∀ T, RM T A → f_X8_starts T a0 a1 = if 0 ≤ a ∧ a < nsh A then (if 0 ≤ b ∧ b ≤ 2 then (if (mi A : Int) = 0 then some (-2, T) else ((f_X8_startsOf T a0).bind fun S3 => f_X8_starts_50 FU S3 a1 0 (-4) (-4) 0)) else some (-1, T)) else some (-1, T) := by
    intro T hM
    unfold f_X8_starts
    rw [gt01 (m_isShip hM hV hx ha), g_i hy hb 0 2 0 2 rfl rfl, hM.1.1, i_eq (x := iI (mi A : Int)) (y := 0) (b := 0) rfl rfl (by omega) (by omega)]
  show ∃ r S1 S2, f_X7_starts S a0 a1 = some (r, S1) ∧ f_X8_starts S1 a0 a1 = some (r, S2) ∧ Inv S2
  unfold f_X7_starts
  rw [gt01 (e_hasShip hR hV hx ha), g_w hy hb 0 2 0 2 rfl rfl (by omega) (by omega), hR.1.1, i_eq (x := iI (mi A : Int)) (y := 0) (b := 0) rfl rfl (by omega) (by omega)]
  by_cases h1 : 0 ≤ a ∧ a < nsh A
  · rw [if_pos h1]
    by_cases h2 : 0 ≤ b ∧ b ≤ 2
    · rw [if_pos h2]
      by_cases h4 : (mi A : Int) = 0
      · rw [if_pos h4]
        exact ⟨_, _, _, rfl, by rw [mf S hM, if_pos h1, if_pos h2, if_pos h4], hI⟩
      · rw [if_neg h4]
        obtain ⟨s, hs, rfl⟩ := nat_of h1
        obtain ⟨S1, e1, S2, e2, q2, f2, t2⟩ := s_tide hI hV hR hs hx
        obtain ⟨S3, e3, q3, f3, t3, g3, -⟩ := s_rule hV hR (TVs hV hs) q2 f2 t2
        obtain ⟨S4, e4, o4, w4, b4⟩ := e_findStarts hV (q3.rc hR) (KK_mono hV (TVs hV hs)) g3 (s := s) (by omega)
        have q4 := q3.lo o4 (fun q hq => w4 q (by omega))
        obtain ⟨T, eT, oT, gT⟩ := m_startsOf hV (q4.rm hM) hs hx
        obtain ⟨f, hf⟩ : ∃ f : Nat → Bool, f = fun t => decide (lfV (KS A s) (mi A) 0 t < 100000) := ⟨_, rfl⟩
        have hft : ∀ t, f t = true ↔ lfV (KS A s) (mi A) 0 t < 100000 := fun t => by rw [hf]; exact decide_eq_true_iff
        have row : ∀ u, u < 1440 → T.1 39 u = if f u = true then 1 else 0 := fun u hu => by
          rw [gT u hu]
          by_cases h : lfV (KS A s) (mi A) 0 u < 100000
          · rw [if_pos h, if_pos ((hft u).mpr h)]
          · rw [if_neg h, if_neg (fun z => h ((hft u).mp z))]
        have bt1 : ∀ t, t < 1440 → bt S4 (167 + s) t = f t := fun t ht => by
          rw [Bool.eq_iff_iff, b4 t (by omega), hft t]
          exact ⟨fun z => z.2, fun z => ⟨ht, z⟩⟩
        have bt2 : ∀ t, 1440 ≤ t → t < 1472 → bt S4 (167 + s) t = false := fun t h1 h2 => by
          apply Bool.eq_false_iff.mpr
          intro z
          have := (b4 t h2).mp z
          omega
        have ref : f_X8_starts S4 a0 a1 = if a1 = 0 then some (iI (cntV f 1440 : Int), T) else if a1 = 1 then some (iI (fiV f 1440), T) else some (iI (laV f 1440), T) := by
          rw [mf S4 (q4.rm hM), if_pos h1, if_pos h2, if_neg h4, eT, Option.bind_some]
          exact s50 row a1 1440 0 FU (by omega) (by show 1440 < 20000; omega)
        have code : ((f_X0_startsOf S a0).bind fun v3 => (f_X5_begin S a0).bind fun S4 => (f_X2_begin S4).bind fun S5 => (f_X2_findStarts S5 v3).bind fun S6 => if a1 = 0 then ((f_X7_bitsIn S6 v3).bind fun v7 => some (v7, S6)) else (if a1 = 1 then ((f_X7_firstFrom S6 v3 0).bind fun v8 => some (v8, S6)) else ((f_X7_lastOf S6 v3).bind fun v9 => some (v9, S6)))) = if a1 = 0 then ((f_X7_bitsIn S4 (167 + s)).bind fun v7 => some (v7, S4)) else (if a1 = 1 then ((f_X7_firstFrom S4 (167 + s) 0).bind fun v8 => some (v8, S4)) else ((f_X7_lastOf S4 (167 + s)).bind fun v9 => some (v9, S4))) := by
          unfold f_X0_startsOf f_X2_begin
          rw [rSt (h := s) (by omega) hx, Option.bind_some, Option.bind_some, e1, Option.bind_some, e2, Option.bind_some, e3, Option.bind_some, Option.bind_some, e4, Option.bind_some]
        rw [code]
        have hI2 := hI.sq90 q4 oT
        by_cases c0 : a1 = 0
        · rw [if_pos c0] at ref ⊢
          refine ⟨_, S4, T, ?_, ref, hI2⟩
          rw [e_bitsIn (alS s (by omega)) (by omega) (by omega), Option.bind_some]
          have ec : cntV (bt S4 (167 + s)) (64 * 23) = cntV f 1440 := by
            rw [show 64 * 23 = 1440 + 32 from rfl, cnt_add, cnt_cg 1440 (fun i hi => bt1 i hi), cnt_cg (g := fun _ => false) 32 (fun i hi => bt2 (1440 + i) (by omega) (by omega)), cnt_no, Nat.add_zero]
          rw [ec]
        · rw [if_neg c0] at ref ⊢
          by_cases c1 : a1 = 1
          · rw [if_pos c1] at ref ⊢
            refine ⟨_, S4, T, ?_, ref, hI2⟩
            have key : f_X7_firstFrom S4 (167 + s) 0 = some (iI (fiV f 1440)) := by
              rcases e_firstFrom (S := S4) (k := 167 + s) (n := 23) (a := 0) (alS s (by omega)) (by omega) (by omega) (by omega) with ⟨e, q1, q2', q3', q4', q5'⟩ | ⟨q1, q2'⟩
              · have he : e < 1440 := by
                  apply Classical.byContradiction
                  intro hc
                  rw [bt2 e (by omega) (by omega)] at q3'
                  cases q3'
                rw [show f_X7_firstFrom S4 (167 + s) 0 = some (iI (e : Int)) from q5']
                rw [bt1 e he] at q3'
                rcases fi_spec f 1440 with ⟨p1, p2⟩ | ⟨e', p1, p2, p3, p4⟩
                · rw [p2 e he] at q3'
                  cases q3'
                · have : e' = e := by
                    apply Classical.byContradiction
                    intro hc
                    by_cases hlt : e' < e
                    · have := q4' e' (by omega) hlt
                      rw [bt1 e' p1, p3] at this
                      cases this
                    · rw [p4 e (by omega)] at q3'
                      cases q3'
                  rw [p2, this]
              · rw [show f_X7_firstFrom S4 (167 + s) 0 = some (-4) from q2']
                rcases fi_spec f 1440 with ⟨p1, p2⟩ | ⟨e', p1, p2, p3, p4⟩
                · rw [p1]
                  rfl
                · have := q1 e' (by omega) (by omega)
                  rw [bt1 e' p1, p3] at this
                  cases this
            rw [key, Option.bind_some]
          · rw [if_neg c1] at ref ⊢
            refine ⟨_, S4, T, ?_, ref, hI2⟩
            have key : f_X7_lastOf S4 (167 + s) = some (iI (laV f 1440)) := by
              rcases e_lastOf (S := S4) (k := 167 + s) (n := 23) (alS s (by omega)) (by omega) (by omega) with ⟨e, q2', q3', q4', q5'⟩ | ⟨q1, q2'⟩
              · have he : e < 1440 := by
                  apply Classical.byContradiction
                  intro hc
                  rw [bt2 e (by omega) (by omega)] at q3'
                  cases q3'
                rw [q5']
                rw [bt1 e he] at q3'
                rcases la_spec f 1440 with ⟨p1, p2⟩ | ⟨e', p1, p2, p3, p4⟩
                · rw [p2 e he] at q3'
                  cases q3'
                · have : e' = e := by
                    apply Classical.byContradiction
                    intro hc
                    by_cases hlt : e < e'
                    · have := q4' e' hlt (by omega)
                      rw [bt1 e' p1, p3] at this
                      cases this
                    · rw [p4 e (by omega) he] at q3'
                      cases q3'
                  rw [p2, this]
              · rw [q2']
                rcases la_spec f 1440 with ⟨p1, p2⟩ | ⟨e', p1, p2, p3, p4⟩
                · rw [p1]
                  rfl
                · have := q1 e' (by omega)
                  rw [bt1 e' p1, p3] at this
                  cases this
            rw [key, Option.bind_some]
    · rw [if_neg h2]
      exact ⟨_, _, _, rfl, by rw [mf S hM, if_pos h1, if_neg h2], hI⟩
  · rw [if_neg h1]
    exact ⟨_, _, _, rfl, by rw [mf S hM, if_neg h1], hI⟩
