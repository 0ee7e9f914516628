/-! ===== sinks, under, need, meet ===== -/
theorem wr_ok {fx : ST → Option (Int32 × ST)} {fm : ST → Option Int32} (h : ∀ S, Inv S → ∃ r S1, fx S = some (r, S1) ∧ Only 11 S S1 ∧ fm S1 = some r) : Pr Inv fx (lf fm) := by
  intro S hI
  obtain ⟨r, S1, h1, ho, h2⟩ := h S hI
  exact ⟨r, S1, S1, h1, by rw [lf, h2]; rfl, hI.only11 ho⟩
theorem Only.rc {S S' : ST} {A : PT} (h : Only 11 S S') (hR : RC S A) : RC S' A := h.rep hR (by decide) (by decide) (by decide) (by decide) (by decide)
theorem Only.rm {S S' : ST} {A : PT} (h : Only 11 S S') (hR : RM S A) : RM S' A := h.rep hR (by decide) (by decide) (by decide) (by decide) (by decide)
theorem e_isPlaced {S : ST} {A : PT} (hR : RC S A) (hV : PV A) {x y z w : Int32} {a b c p : Int} (hx : x = iI a) (hy : y = iI b) (hz : z = iI c) (hw : w = iI p) (ha : Rg a) (hb : Rg b) (hc : Rg c) (hp : Rg p) : f_X7_isPlaced S x y z w = some (if (0 ≤ a ∧ a < nsh A) ∧ (0 ≤ b ∧ b < mi A) ∧ (0 ≤ c ∧ c ≤ 4000) ∧ (1 ≤ p ∧ p ≤ 15) then 1 else 0) := by
  unfold f_X7_isPlaced
  rw [gt01 (e_hasShip hR hV hx ha), gt01 (e_hasMile hR hV hy hb), g_w hz hc 0 4000 0 4000 rfl rfl (by omega) (by omega), gt01 (e_isPace hw hp)]
  by_cases h1 : 0 ≤ a ∧ a < nsh A
  · rw [if_pos h1]
    by_cases h2 : 0 ≤ b ∧ b < mi A
    · rw [if_pos h2]
      by_cases h3 : 0 ≤ c ∧ c ≤ 4000
      · rw [if_pos h3]
        by_cases h4 : 1 ≤ p ∧ p ≤ 15
        · rw [if_pos h4, if_pos ⟨h1, h2, h3, h4⟩]
        · rw [if_neg h4, if_neg (fun q => h4 q.2.2.2)]
      · rw [if_neg h3, if_neg (fun q => h3 q.2.2.1)]
    · rw [if_neg h2, if_neg (fun q => h2 q.2.1)]
  · rw [if_neg h1, if_neg (fun q => h1 q.1)]
theorem if4 {a b c d : Prop} [Decidable a] [Decidable b] [Decidable c] [Decidable d] {α : Type} {u v : α} : (if a then (if b then (if c then (if d then u else v) else v) else v) else v) = if a ∧ b ∧ c ∧ d then u else v := by
  by_cases h1 : a
  · rw [if_pos h1]
    by_cases h2 : b
    · rw [if_pos h2]
      by_cases h3 : c
      · rw [if_pos h3]
        by_cases h4 : d
        · rw [if_pos h4, if_pos ⟨h1, h2, h3, h4⟩]
        · rw [if_neg h4, if_neg (fun q => h4 q.2.2.2)]
      · rw [if_neg h3, if_neg (fun q => h3 q.2.2.1)]
    · rw [if_neg h2, if_neg (fun q => h2 q.2.1)]
  · rw [if_neg h1, if_neg (fun q => h1 q.1)]
theorem ok_sinks (a0 a1 a2 a3 : Int32) : Pr Inv (fun S => f_X7_sinks S a0 a1 a2 a3) (lf (fun S => f_X8_sinks S a0 a1 a2 a3)) := by
  refine wr_ok (fun S hI => ?_)
  obtain ⟨⟨A, hV, hR, hM⟩, -⟩ := hI
  obtain ⟨a, ha, hx⟩ := i_of a0
  obtain ⟨b, hb, hy⟩ := i_of a1
  obtain ⟨c, hc, hz⟩ := i_of a2
  obtain ⟨p, hp, hw⟩ := i_of a3
  unfold f_X7_sinks f_X8_sinks
  rw [gt01 (e_isPlaced hR hV hx hy hz hw ha hb hc hp)]
  by_cases h : (0 ≤ a ∧ a < nsh A) ∧ (0 ≤ b ∧ b < mi A) ∧ (0 ≤ c ∧ c ≤ 4000) ∧ (1 ≤ p ∧ p ≤ 15)
  · rw [if_pos h]
    obtain ⟨h1, h2, h3, h4⟩ := id h
    obtain ⟨s, hs, rfl⟩ := nat_of h1
    obtain ⟨j, hj, rfl⟩ := nat_of h2
    obtain ⟨g1, g2, g3⟩ := hV.2.2.2.2 s hs
    obtain ⟨s0, s1, s2, s3, s4⟩ := hV.2.2.2.1
    obtain ⟨S1, e1, o1, t1⟩ := e_begin hR hV hx hs
    have tr := tide_arith hV.2.2.1 s0 h3
    have hl := levV_rg hV hj (tide := tideV (ht A) (se A 0) c) (wind := se A 1) (by omega) s1
    refine ⟨iI (sinkV A j (hu A (3 * s + 1)) (hu A (3 * s)) p (levV A j (tideV (ht A) (se A 0) c) (se A 1))), S1, ?_, o1, ?_⟩
    · refine bd e1 (bd (e_tideAt (o1.rc hR) hV hz h3) (bd (e_level (o1.rc hR) hV t1 hy rfl hj (by omega)) ?_))
      rw [if_neg (by omega), Int.add_zero]
      exact bd (e_sinking (o1.rc hR) hV t1 hy rfl hw hj h4 g2 g1 (by omega)) rfl
    · have hM1 := o1.rm hM
      rw [gt01 (m_isShip hM1 hV hx ha), gt01 (m_isMile hM1 hV hy hb), gt01 (m_isMinute hz hc), gt01 (m_isPace hw hp), if4, if_pos h]
      exact bd (m_waterAt hM1 hV hy hz hj h3) (bd (m_sinksBy hM1 hV hx hs hy rfl hw hj h4 (by omega)) rfl)
  · rw [if_neg h]
    refine ⟨_, _, rfl, Only.rf, ?_⟩
    rw [gt01 (m_isShip hM hV hx ha), gt01 (m_isMile hM hV hy hb), gt01 (m_isMinute hz hc), gt01 (m_isPace hw hp), if4, if_neg h]
theorem ok_under (a0 a1 a2 a3 : Int32) : Pr Inv (fun S => f_X7_under S a0 a1 a2 a3) (lf (fun S => f_X8_under S a0 a1 a2 a3)) := by
  refine wr_ok (fun S hI => ?_)
  obtain ⟨⟨A, hV, hR, hM⟩, -⟩ := hI
  obtain ⟨a, ha, hx⟩ := i_of a0
  obtain ⟨b, hb, hy⟩ := i_of a1
  obtain ⟨c, hc, hz⟩ := i_of a2
  obtain ⟨p, hp, hw⟩ := i_of a3
  unfold f_X7_under f_X8_under
  rw [gt01 (e_isPlaced hR hV hx hy hz hw ha hb hc hp)]
  by_cases h : (0 ≤ a ∧ a < nsh A) ∧ (0 ≤ b ∧ b < mi A) ∧ (0 ≤ c ∧ c ≤ 4000) ∧ (1 ≤ p ∧ p ≤ 15)
  · rw [if_pos h]
    obtain ⟨h1, h2, h3, h4⟩ := id h
    obtain ⟨s, hs, rfl⟩ := nat_of h1
    obtain ⟨j, hj, rfl⟩ := nat_of h2
    obtain ⟨g1, g2, g3⟩ := hV.2.2.2.2 s hs
    obtain ⟨s0, s1, s2, s3, s4⟩ := hV.2.2.2.1
    obtain ⟨S1, e1, o1, t1⟩ := e_begin hR hV hx hs
    have tr := tide_arith hV.2.2.1 s0 h3
    have hl := levV_rg hV hj (tide := tideV (ht A) (se A 0) c) (wind := se A 1) (by omega) s1
    refine ⟨iI (undV A j (hu A (3 * s + 1)) (hu A (3 * s)) (se A 1) p (levV A j (tideV (ht A) (se A 0) c) (se A 1))), S1, ?_, o1, ?_⟩
    · refine bd e1 (bd (e_tideAt (o1.rc hR) hV hz h3) (bd (e_clear (o1.rc hR) hV t1 hy rfl hw hj (by omega) h4 g2 g1 s1 (by omega)) ?_))
      rw [if_neg (by omega), Int.add_zero]
    · have hM1 := o1.rm hM
      rw [gt01 (m_isShip hM1 hV hx ha), gt01 (m_isMile hM1 hV hy hb), gt01 (m_isMinute hz hc), gt01 (m_isPace hw hp), if4, if_pos h]
      exact bd (m_waterAt hM1 hV hy hz hj h3) (bd (m_underBy hM1 hV hx hs hy rfl hw hj h4 (by omega)) rfl)
  · rw [if_neg h]
    refine ⟨_, _, rfl, Only.rf, ?_⟩
    rw [gt01 (m_isShip hM hV hx ha), gt01 (m_isMile hM hV hy hb), gt01 (m_isMinute hz hc), gt01 (m_isPace hw hp), if4, if_neg h]
theorem ok_need (a0 : Int32) : Pr Inv (fun S => f_X7_need S a0) (lf (fun S => f_X8_need S a0)) := by
  refine wr_ok (fun S hI => ?_)
  obtain ⟨⟨A, hV, hR, hM⟩, -⟩ := hI
  obtain ⟨a, ha, hx⟩ := i_of a0
  unfold f_X7_need f_X8_need
  rw [gt01 (e_hasShip hR hV hx ha)]
  by_cases h : 0 ≤ a ∧ a < nsh A
  · rw [if_pos h]
    obtain ⟨s, hs, rfl⟩ := nat_of h
    obtain ⟨S1, e1, o1, t1⟩ := e_begin hR hV hx hs
    refine ⟨S1.1 11 6, S1, bd e1 rfl, o1, ?_⟩
    rw [gt01 (m_isShip (o1.rm hM) hV hx ha), if_pos h, t1.2.2.2.2.2.1]
    exact bd (m_needOf (o1.rm hM) hV hx hs) rfl
  · rw [if_neg h]
    refine ⟨_, _, rfl, Only.rf, ?_⟩
    rw [gt01 (m_isShip hM hV hx ha), if_neg h]
theorem e_minutesBy {x : Int32} {p : Int} (hx : x = iI p) (hp : 1 ≤ p ∧ p ≤ 15) : f_X7_minutesBy x = some (iI ((60 : Int).tdiv p)) := by
  unfold f_X7_minutesBy
  refine bd (e_max (a := 1) rfl hx (by omega) (by omega)) ?_
  rw [Int.max_eq_right (by omega)]
  exact bd (dv_ok (a := 60) rfl rfl (by omega) (by omega) (by omega)) rfl
theorem ok_meet (a0 a1 a2 a3 a4 a5 : Int32) : Pr Inv (lf (fun S => f_X7_meet S a0 a1 a2 a3 a4 a5)) (lf (fun S => f_X8_meet S a0 a1 a2 a3 a4 a5)) := by
  refine rd_ok (fun S hI => ?_)
  obtain ⟨⟨A, hV, hR, hM⟩, -⟩ := hI
  obtain ⟨a, ha, hx⟩ := i_of a0
  obtain ⟨b, hb, hy⟩ := i_of a1
  obtain ⟨c, hc, hz⟩ := i_of a2
  obtain ⟨d, hd, hw⟩ := i_of a3
  obtain ⟨e, he, hu'⟩ := i_of a4
  obtain ⟨f, hf, hv⟩ := i_of a5
  have h16 := hV.1.1
  unfold f_X7_meet f_X8_meet
  rw [gt01 (e_areTwo hR hV hx hw ha hd), gt01 (m_isShip hM hV hx ha), gt01 (m_isShip hM hV hw hd), i_eq hx hw ha hd, gt01 (e_isMinute hy hb), gt01 (e_isMinute hu' he), gt01 (m_isStart hy hb), gt01 (m_isStart hu' he), gt01 (e_isPace hz hc), gt01 (e_isPace hv hf), gt01 (m_isPace hz hc), gt01 (m_isPace hv hf), hR.1.1, hM.1.1]
  by_cases h1 : 0 ≤ a ∧ a < nsh A
  · by_cases h2 : 0 ≤ d ∧ d < nsh A
    · by_cases h3 : a = d
      · rw [if_neg (fun q => q.2.2 h3), if_pos h1, if_pos h2, if_pos h3]; exact ⟨_, rfl, rfl⟩
      · rw [if_pos ⟨h1, h2, h3⟩, if_pos h1, if_pos h2, if_neg h3]
        by_cases h4 : 0 ≤ b ∧ b ≤ 1439
        · rw [if_pos h4, if_pos h4]
          by_cases h5 : 1 ≤ c ∧ c ≤ 15
          · rw [if_pos h5, if_pos h5]
            by_cases h6 : 0 ≤ e ∧ e ≤ 1439
            · rw [if_pos h6, if_pos h6]
              by_cases h7 : 1 ≤ f ∧ f ≤ 15
              · rw [if_pos h7, if_pos h7]
                by_cases h8 : iI (mi A : Int) = 0
                · rw [if_pos h8, if_pos h8]; exact ⟨_, rfl, rfl⟩
                · rw [if_neg h8, if_neg h8, e_minutesBy hz h5, e_minutesBy hv h7, Option.bind_some, Option.bind_some]
                  have d1 : dv 60 a2 = some (iI ((60 : Int).tdiv c)) := dv_ok (a := 60) rfl hz (by omega) (by omega) (by omega)
                  have d2 : dv 60 a5 = some (iI ((60 : Int).tdiv f)) := dv_ok (a := 60) rfl hv (by omega) (by omega) (by omega)
                  have lp : ∀ (n i : Nat), mi A < i + n → i ≤ mi A → ∃ r, f_X7_meet_71 S n a1 a4 (iI ((60 : Int).tdiv c)) (iI ((60 : Int).tdiv f)) (iI (i : Int)) = some r ∧ f_X8_meet_68 S n a1 a2 a4 a5 (iI (i : Int)) = some r := by
                    intro n
                    induction n with
                    | zero => intro i q1 q2; omega
                    | succ n ih =>
                      intro i q1 q2
                      unfold f_X7_meet_71 f_X8_meet_68
                      rw [hR.1.1, hM.1.1, d1, d2]
                      simp only [Option.bind_some]
                      by_cases g1 : iI (mi A : Int) ≤ iI (i : Int)
                      · rw [if_pos g1, if_pos g1]; exact ⟨_, rfl, rfl⟩
                      · rw [if_neg g1, if_neg g1]
                        have g2 : i < mi A := by
                          have := mt (c_le (a := (mi A : Int)) (b := (i : Int)) rfl rfl (by omega) (by omega)).mpr g1
                          omega
                        have nx : iI (i : Int) + 1 = iI ((i + 1 : Nat) : Int) := by rw [show (1 : Int32) = iI 1 from rfl, iI_add]; rfl
                        unfold f_X7_meet_135 f_X8_meet_136
                        rw [nx]
                        split
                        · exact ih (i + 1) (by omega) (by omega)
                        · split
                          · exact ih (i + 1) (by omega) (by omega)
                          · exact ⟨_, rfl, rfl⟩
                  exact lp FU 0 (FU_gt (by omega)) (by omega)
              · rw [if_neg h7, if_neg h7]; exact ⟨_, rfl, rfl⟩
            · rw [if_neg h6, if_neg h6]; exact ⟨_, rfl, rfl⟩
          · rw [if_neg h5, if_neg h5]
            by_cases h6 : 0 ≤ e ∧ e ≤ 1439
            · rw [if_pos h6]; exact ⟨_, rfl, rfl⟩
            · rw [if_neg h6]; exact ⟨_, rfl, rfl⟩
        · rw [if_neg h4, if_neg h4]; exact ⟨_, rfl, rfl⟩
    · rw [if_neg (fun q => h2 q.2.1), if_pos h1, if_neg h2]; exact ⟨_, rfl, rfl⟩
  · rw [if_neg (fun q => h1 q.1), if_neg h1]; exact ⟨_, rfl, rfl⟩
