/-! ===== lost ===== -/
theorem e_keepTo {S : ST} {dr br ru lu wi ne du r l : Int} (hT : Tr S dr br ru lu wi ne du) (hd : 20 ≤ dr ∧ dr ≤ 200) (hr : 0 ≤ r ∧ r ≤ 1) (hl : 0 ≤ l ∧ l ≤ 99) {x y : Int32} (hx : x = iI r) (hy : y = iI l) : ∃ S', f_X5_keepTo S x y = some S' ∧ Only 11 S S' ∧ Tr S' dr br r l wi (needV r l dr) du := by
  subst hx; subst hy
  refine ⟨sI (sI (sI S 11 3 (iI r)) 11 4 (iI l)) 11 6 (iI (needV r l dr)), ?_, (Only.sI.tr Only.sI).tr Only.sI, ?_⟩
  · unfold f_X5_keepTo
    rw [rN_ok (dr := dr) (ru := r) (lu := l) (by rw [sI_nj (by decide), sI_nj (by decide)]; exact hT.1) (by rw [sI_nj (by decide), sI_eq]) sI_eq (by omega) hr hl, Option.bind_some]
  · refine ⟨?_, ?_, ?_, ?_, ?_, sI_eq, ?_⟩
    · rw [sI_nj (by decide), sI_nj (by decide), sI_nj (by decide)]; exact hT.1
    · rw [sI_nj (by decide), sI_nj (by decide), sI_nj (by decide)]; exact hT.2.1
    · rw [sI_nj (by decide), sI_nj (by decide), sI_eq]
    · rw [sI_nj (by decide), sI_eq]
    · rw [sI_nj (by decide), sI_nj (by decide), sI_nj (by decide)]; exact hT.2.2.2.2.1
    · rw [sI_nj (by decide), sI_nj (by decide), sI_nj (by decide)]; exact hT.2.2.2.2.2.2
theorem e_load {S : ST} {dr br ru lu wi ne du d : Int} (hT : Tr S dr br ru lu wi ne du) (hd : 20 ≤ d ∧ d ≤ 200) (hr : 0 ≤ ru ∧ ru ≤ 1) (hl : 0 ≤ lu ∧ lu ≤ 99) {x : Int32} (hx : x = iI d) : ∃ S', f_X5_load S x = some S' ∧ Only 11 S S' ∧ Tr S' d br ru lu wi (needV ru lu d) du := by
  subst hx
  refine ⟨sI (sI S 11 1 (iI d)) 11 6 (iI (needV ru lu d)), ?_, Only.sI.tr Only.sI, ?_⟩
  · unfold f_X5_load
    rw [rN_ok (dr := d) (ru := ru) (lu := lu) sI_eq (by rw [sI_nj (by decide)]; exact hT.2.2.1) (by rw [sI_nj (by decide)]; exact hT.2.2.2.1) (by omega) hr hl, Option.bind_some]
  · refine ⟨?_, ?_, ?_, ?_, ?_, sI_eq, ?_⟩
    · rw [sI_nj (by decide), sI_eq]
    · rw [sI_nj (by decide), sI_nj (by decide)]; exact hT.2.1
    · rw [sI_nj (by decide), sI_nj (by decide)]; exact hT.2.2.1
    · rw [sI_nj (by decide), sI_nj (by decide)]; exact hT.2.2.2.1
    · rw [sI_nj (by decide), sI_nj (by decide)]; exact hT.2.2.2.2.1
    · rw [sI_nj (by decide), sI_nj (by decide)]; exact hT.2.2.2.2.2.2
theorem s_tide2 {S S1 : ST} {A : PT} (hI : Inv S) (hV : PV A) (hR : RC S A) {dr br ru lu wi ne du : Int} (o1 : Only 11 S S1) (t1 : Tr S1 dr br ru lu wi ne du) : ∃ S2, f_X2_layTide S1 = some S2 ∧ SQ S S2 ∧ FL S2 A ∧ Tr S2 dr br ru lu wi ne du := by
  have hI1 := hI.only11 o1
  obtain ⟨S2, e2, o2, f2, p2⟩ := e_layTide (o1.rc hR) hV hI1.2.2.2.2
  refine ⟨S2, e2, ⟨fun k h1 h2 h3 _ => (o2.1 k h2 h3).trans (o1.1 k h1), p2⟩, f2, ?_⟩
  unfold Tr at t1 ⊢
  rw [o2.1 11 (by decide) (by decide)]
  exact t1
theorem ok_lost (a0 a1 a2 a3 : Int32) : Pr Inv (fun S => f_X7_lost S a0 a1 a2 a3) (fun S => f_X8_lost S a0 a1 a2 a3) := by
  intro S hI
  obtain ⟨⟨A, hV, hR, hM⟩, -⟩ := id hI
  obtain ⟨a, ha, hx⟩ := i_of a0
  obtain ⟨b, hb, hy⟩ := i_of a1
  obtain ⟨c, hc, hz⟩ := i_of a2
  obtain ⟨d, hd, hw⟩ := i_of a3
  have h16 := hV.1.1
  have mf : ∀ T, RM T A → f_X8_lost T a0 a1 a2 a3 = if 0 ≤ a ∧ a < nsh A then (if 0 ≤ b ∧ b ≤ 1439 then (if 0 ≤ c ∧ c ≤ 1 then (if 0 ≤ d ∧ d ≤ 99 then (if (mi A : Int) = 0 then some (-2, T) else ((rI T 0 33 3).bind fun v5 => (rI T 0 33 4).bind fun v6 => (wI T 33 3 a2).bind fun S7 => (wI S7 33 4 a3).bind fun S8 => b2 (f_X8_quickest S8 a0 a1) fun v9 S10 => (wI S10 33 4 0).bind fun S11 => b2 (f_X8_quickest S11 a0 a1) fun v12 S13 => (wI S13 33 3 v5).bind fun S14 => (wI S14 33 4 v6).bind fun S15 => if 100000 ≤ v9 then (some ((-4), S15)) else (if v12 < 100000 then (some ((v9 - v12), S15)) else (some ((-4), S15))))) else some (-1, T)) else some (-1, T)) else some (-1, T)) else some (-1, T) := by
    intro T hM
    unfold f_X8_lost
    rw [gt01 (m_isShip hM hV hx ha), gt01 (m_isStart hy hb), gt01 (m_isSet (x := 3) (w := 3) rfl (by omega) hz hc), gt01 (m_isSet (x := 4) (w := 4) rfl (by omega) hw hd), hM.1.1, i_eq (x := iI (mi A : Int)) (y := 0) (b := 0) rfl rfl (by omega) (by omega)]
    rfl
  show ∃ r S1 S2, f_X7_lost S a0 a1 a2 a3 = some (r, S1) ∧ f_X8_lost S1 a0 a1 a2 a3 = some (r, S2) ∧ Inv S2
  unfold f_X7_lost
  rw [gt01 (e_isStart hR hV hx hy ha hb), show rS 4 3 = some 1 by decide, show rS 4 4 = some 99 by decide, Option.bind_some, g_w hz hc 0 1 0 1 rfl rfl (by omega) (by omega), Option.bind_some, g_w hw hd 0 99 0 99 rfl rfl (by omega) (by omega), hR.1.1, i_eq (x := iI (mi A : Int)) (y := 0) (b := 0) rfl rfl (by omega) (by omega)]
  by_cases h12 : (0 ≤ a ∧ a < nsh A) ∧ (0 ≤ b ∧ b ≤ 1439)
  · obtain ⟨h1, h2⟩ := id h12
    rw [if_pos h12]
    by_cases h3 : 0 ≤ c ∧ c ≤ 1
    · rw [if_pos h3]
      by_cases h5 : 0 ≤ d ∧ d ≤ 99
      · rw [if_pos h5]
        by_cases h4 : (mi A : Int) = 0
        · rw [if_pos h4]
          exact ⟨_, _, _, rfl, by rw [mf S hM, if_pos h1, if_pos h2, if_pos h3, if_pos h5, if_pos h4], hI⟩
        · rw [if_neg h4]
          obtain ⟨s, hs, rfl⟩ := nat_of h1
          obtain ⟨m, hm, rfl⟩ := nat_of (a := b) (n := 1440) (by omega)
          obtain ⟨g1, g2, g3⟩ := hV.2.2.2.2 s hs
          obtain ⟨s0, s1, s2, s3, s4⟩ := hV.2.2.2.1
          obtain ⟨S1, e1, o1, t1⟩ := e_begin hR hV hx hs
          obtain ⟨S2, e2, o2, t2⟩ := e_keepTo t1 g1 h3 h5 hz hw
          obtain ⟨S3, e3, q3, f3, t3⟩ := s_tide2 hI hV hR (o1.tr o2) t2
          have tv1 : TV (hu A (3 * s + 1)) (hu A (3 * s)) (se A 1) (-1) (needV c d (hu A (3 * s))) := ⟨g2, g1, s1, by omega, need_rg h3 h5 g1⟩
          have tv2 : TV (hu A (3 * s + 1)) (hu A (3 * s)) (se A 1) (-1) (needV c 0 (hu A (3 * s))) := ⟨g2, g1, s1, by omega, need_rg h3 (by omega) g1⟩
          obtain ⟨S4, e4, q4, f4, t4, ga4, -⟩ := s_rule hV hR tv1 q3 f3 t3
          obtain ⟨S5, r1, e5, w5, r5⟩ := e_quickest hV (q4.rc hR) (KK_mono hV tv1) ga4 (a := m) (by omega)
          have q5 := q4.fw w5
          have f5 : FL S5 A := f4.cg (fun q _ h2 => w5.2 q (by omega))
          have t5 : Tr S5 (hu A (3 * s)) (hu A (3 * s + 1)) c d (se A 1) (needV c d (hu A (3 * s))) (-1) := by unfold Tr at t4 ⊢; rw [w5.1]; exact t4
          obtain ⟨S6, e6, o6, t6⟩ := e_keepTo t5 g1 h3 (l := 0) (by omega) hz (y := 0) rfl
          have q6 := q5.only o6 (Or.inl rfl)
          have f6 : FL S6 A := f5.cg (fun q _ _ => by rw [o6.2])
          obtain ⟨S7, e7, q7, f7, t7, ga7, -⟩ := s_rule hV hR tv2 q6 f6 t6
          obtain ⟨S8, r2, e8, w8, r8⟩ := e_quickest hV (q7.rc hR) (KK_mono hV tv2) ga7 (a := m) (by omega)
          have q8 := q7.fw w8
          have hM8 := q8.rm hM
          have m1 : RM (sI (sI S8 33 3 (iI c)) 33 4 (iI d)) (setSe (setSe A 3 c) 4 d) := (hM8.se rfl (by decide) (by decide) (by decide) (by decide)).se rfl (by decide) (by decide) (by decide) (by decide)
          have v1 : PV (setSe (setSe A 3 c) 4 d) := ⟨hV.1, hV.2.1, hV.2.2.1, ⟨s0, s1, s2, h3, h5⟩, hV.2.2.2.2⟩
          have k1 : KS (setSe (setSe A 3 c) 4 d) s = KK A (hu A (3 * s + 1)) (hu A (3 * s)) (se A 1) (-1) (needV c d (hu A (3 * s))) := rfl
          obtain ⟨T1, f1, u1, -⟩ := m_quickest (s := s) (a := m) v1 m1 hs (by omega)
          have m2 : RM (sI T1 33 4 (iI 0)) (setSe (setSe (setSe A 3 c) 4 d) 4 0) := (u1.rm m1).se rfl (by decide) (by decide) (by decide) (by decide)
          have v2 : PV (setSe (setSe (setSe A 3 c) 4 d) 4 0) := ⟨hV.1, hV.2.1, hV.2.2.1, ⟨s0, s1, s2, h3, (show (0 : Int) ≤ 0 ∧ (0 : Int) ≤ 99 from ⟨by decide, by decide⟩)⟩, hV.2.2.2.2⟩
          have k2 : KS (setSe (setSe (setSe A 3 c) 4 d) 4 0) s = KK A (hu A (3 * s + 1)) (hu A (3 * s)) (se A 1) (-1) (needV c 0 (hu A (3 * s))) := rfl
          obtain ⟨T2, f2, u2, -⟩ := m_quickest (s := s) (a := m) v2 m2 hs (by omega)
          rw [k1] at f1
          rw [k2] at f2
          have l1 := lf_spec (K := KK A (hu A (3 * s + 1)) (hu A (3 * s)) (se A 1) (-1) (needV c d (hu A (3 * s)))) (mi A) 0 m
          have l2 := lf_spec (K := KK A (hu A (3 * s + 1)) (hu A (3 * s)) (se A 1) (-1) (needV c 0 (hu A (3 * s)))) (mi A) 0 m
          have f1 : f_X8_quickest (sI (sI S8 33 3 (iI c)) 33 4 (iI d)) (iI (s : Int)) (iI (m : Int)) = some (iI (lfV (KK A (hu A (3 * s + 1)) (hu A (3 * s)) (se A 1) (-1) (needV c d (hu A (3 * s)))) (mi A) 0 m : Int), T1) := f1
          have f2 : f_X8_quickest (sI T1 33 4 (iI 0)) (iI (s : Int)) (iI (m : Int)) = some (iI (lfV (KK A (hu A (3 * s + 1)) (hu A (3 * s)) (se A 1) (-1) (needV c 0 (hu A (3 * s)))) (mi A) 0 m : Int), T2) := f2
          generalize lfV (KK A (hu A (3 * s + 1)) (hu A (3 * s)) (se A 1) (-1) (needV c d (hu A (3 * s)))) (mi A) 0 m = L1 at r5 f1 l1
          generalize lfV (KK A (hu A (3 * s + 1)) (hu A (3 * s)) (se A 1) (-1) (needV c 0 (hu A (3 * s)))) (mi A) 0 m = L2 at r8 f2 l2
          have e5 : f_X2_quickest S4 a1 = some (r1, S5) := by rw [hy]; exact e5
          have e8 : f_X2_quickest S7 a1 = some (r2, S8) := by rw [hy]; exact e8
          have code : ((f_X5_begin S a0).bind fun S6 => (f_X5_keepTo S6 a2 a3).bind fun S7 => (f_X2_begin S7).bind fun S8 => b2 (f_X2_quickest S8 a1) fun v9 S10 => (f_X5_keepTo S10 a2 0).bind fun S11 => (f_X2_rule S11).bind fun S12 => b2 (f_X2_quickest S12 a1) fun v13 S14 => if v9 = (-4) then (some ((-4), S14)) else (if v13 = (-4) then (some ((-4), S14)) else (some ((v9 - v13), S14)))) = if r1 = (-4) then (some ((-4), S8)) else (if r2 = (-4) then (some ((-4), S8)) else (some ((r1 - r2), S8))) := by
            unfold f_X2_begin
            rw [e1, Option.bind_some, e2, Option.bind_some, e3, Option.bind_some, e4, Option.bind_some, Option.bind_some]
            refine bd2 e5 ?_
            rw [e6, Option.bind_some, e7, Option.bind_some]
            exact bd2 e8 rfl
          rw [code]
          have ref : f_X8_lost S8 a0 a1 a2 a3 = if (100000 : Int) ≤ (L1 : Int) then some (-4, sI (sI T2 33 3 (S8.1 33 3)) 33 4 (S8.1 33 4)) else if (L2 : Int) < 100000 then some (iI (L1 : Int) - iI (L2 : Int), sI (sI T2 33 3 (S8.1 33 3)) 33 4 (S8.1 33 4)) else some (-4, sI (sI T2 33 3 (S8.1 33 3)) 33 4 (S8.1 33 4)) := by
            rw [mf S8 hM8, if_pos h1, if_pos h2, if_pos h3, if_pos h5, if_neg h4, rI_ok (t := 0) (k := 33) (x := 3) (a := 3) (n := 3) rfl rfl (by decide) (by omega), Option.bind_some, rI_ok (t := 0) (k := 33) (x := 4) (a := 4) (n := 4) rfl rfl (by decide) (by omega), Option.bind_some, wI_ok (k := 33) (x := 3) (a := 3) (n := 3) rfl rfl (by decide) (by omega), Option.bind_some, wI_ok (k := 33) (x := 4) (a := 4) (n := 4) rfl rfl (by decide) (by omega), Option.bind_some, hx, hy, hz, hw]
            refine bd2 f1 ?_
            rw [wI_ok (k := 33) (x := 4) (a := 4) (n := 4) rfl rfl (by decide) (by omega), Option.bind_some]
            refine bd2 f2 ?_
            rw [wI_ok (k := 33) (x := 3) (a := 3) (n := 3) rfl rfl (by decide) (by omega), Option.bind_some, wI_ok (k := 33) (x := 4) (a := 4) (n := 4) rfl rfl (by decide) (by omega), Option.bind_some, i_le (x := 100000) (a := 100000) rfl rfl (by omega) (by omega), i_lt (y := 100000) (b := 100000) rfl rfl (by omega) (by omega)]
          have hI2 : Inv (sI (sI T2 33 3 (S8.1 33 3)) 33 4 (S8.1 33 4)) := by
            have hk : ∀ k, k ≠ 37 → k ≠ 38 → (sI (sI T2 33 3 (S8.1 33 3)) 33 4 (S8.1 33 4)).1 k = S8.1 k := fun k h37 h38 => by
              by_cases h33 : k = 33
              · subst h33
                funext i
                by_cases i4 : i = 4
                · rw [i4, sI_eq]
                · rw [sI_nj i4]
                  by_cases i3 : i = 3
                  · rw [i3, sI_eq]
                  · rw [sI_nj i3, u2.1 33 (by decide) (by decide), sI_nj i4, u1.1 33 (by decide) (by decide), sI_nj i4, sI_nj i3]
              · rw [sI_o h33, sI_o h33, u2.1 k h37 h38, sI_o h33, u1.1 k h37 h38, sI_o h33, sI_o h33]
            refine hI.sq q8 (fun k hk2 _ => hk k (fun q => hk2 (by unfold Scr; omega)) (fun q => hk2 (by unfold Scr; omega))) (fun i _ => by rw [hk 30 (by decide) (by decide)]) ?_
            show T2.2 = S8.2
            rw [u2.2]
            show T1.2 = S8.2
            rw [u1.2]
            rfl
          by_cases c1 : L1 < 100000
          · rw [if_pos c1] at r5
            have b1 := Arr_rg _ _ _ _ (l1.2.1 c1)
            rw [r5, if_neg (fun z => by have := (c_eq (y := -4) (b := -4) rfl rfl (by omega) (by omega)).mp z; omega)]
            rw [if_neg (by omega)] at ref
            by_cases c2 : L2 < 100000
            · rw [if_pos c2] at r8
              rw [r8, if_neg (fun z => by have := (c_eq (y := -4) (b := -4) rfl rfl (by omega) (by omega)).mp z; omega)]
              rw [if_pos (by omega)] at ref
              exact ⟨_, _, _, rfl, ref, hI2⟩
            · rw [if_neg c2] at r8
              rw [r8, if_pos rfl]
              rw [if_neg (by omega)] at ref
              exact ⟨_, _, _, rfl, ref, hI2⟩
          · rw [if_neg c1] at r5
            rw [r5, if_pos rfl]
            rw [if_pos (by omega)] at ref
            exact ⟨_, _, _, rfl, ref, hI2⟩
      · rw [if_neg h5]
        exact ⟨_, _, _, rfl, by rw [mf S hM, if_pos h1, if_pos h2, if_pos h3, if_neg h5], hI⟩
    · rw [if_neg h3]
      exact ⟨_, _, _, rfl, by rw [mf S hM, if_pos h1, if_pos h2, if_neg h3], hI⟩
  · rw [if_neg h12]
    by_cases h1 : 0 ≤ a ∧ a < nsh A
    · exact ⟨_, _, _, rfl, by rw [mf S hM, if_pos h1, if_neg (fun q => h12 ⟨h1, q⟩)], hI⟩
    · exact ⟨_, _, _, rfl, by rw [mf S hM, if_neg h1], hI⟩
