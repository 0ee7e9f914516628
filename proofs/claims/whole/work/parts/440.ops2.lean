def lo6 : Nat → Int := fun w => if w = 0 then 20 else if w = 1 then 10 else if w = 5 then 1 else 0
def hi6 : Nat → Int := fun w => if w = 0 then 250 else if w = 1 then 99 else if w = 2 then 9 else if w = 3 then 20 else if w = 4 then 40 else 15
theorem MV0_iff {f : Nat → Int} {j : Nat} : MV0 f j ↔ ∀ w, w < 6 → lo6 w ≤ f (6 * j + w) ∧ f (6 * j + w) ≤ hi6 w := by
  constructor
  · intro ⟨g0, g1, g2, g3, g4, g5⟩ w hw
    rcases (show w = 0 ∨ w = 1 ∨ w = 2 ∨ w = 3 ∨ w = 4 ∨ w = 5 by omega) with rfl | rfl | rfl | rfl | rfl | rfl
    · exact g0
    · exact g1
    · exact g2
    · exact g3
    · exact g4
    · exact g5
  · intro h
    exact ⟨h 0 (by omega), h 1 (by omega), h 2 (by omega), h 3 (by omega), h 4 (by omega), h 5 (by omega)⟩
theorem MV0_up {f : Nat → Int} {j j' w : Nat} {v : Int} (h : MV0 f j') (hw : w < 6) (hv : lo6 w ≤ v ∧ v ≤ hi6 w) : MV0 (uf f (6 * j + w) v) j' := by
  rw [MV0_iff] at h ⊢
  intro w' hw'
  by_cases e : 6 * j' + w' = 6 * j + w
  · have e1 : w' = w := by omega
    rw [e, uf_s, e1]
    exact hv
  · rw [uf_n e]
    exact h w' hw'
theorem lo6_M : ∀ w, w < 5 → lo6 w = loM w ∧ hi6 w = hiM w := by decide +kernel
theorem SV0_iff {f : Nat → Int} : SV0 f ↔ ∀ w, w < 5 → 0 ≤ f w ∧ f w ≤ hiS w := by
  constructor
  · intro ⟨g0, g1, g2, g3, g4⟩ w hw
    rcases (show w = 0 ∨ w = 1 ∨ w = 2 ∨ w = 3 ∨ w = 4 by omega) with rfl | rfl | rfl | rfl | rfl
    · exact g0
    · exact g1
    · exact g2
    · exact g3
    · exact g4
  · intro h
    exact ⟨h 0 (by omega), h 1 (by omega), h 2 (by omega), h 3 (by omega), h 4 (by omega)⟩
theorem SV0_up {f : Nat → Int} {w : Nat} {v : Int} (h : SV0 f) (hv : 0 ≤ v ∧ v ≤ hiS w) : SV0 (uf f w v) := by
  rw [SV0_iff] at h ⊢
  intro w' hw'
  by_cases e : w' = w
  · rw [e, uf_s]; exact hv
  · rw [uf_n e]; exact h w' hw'
theorem ok_set (a0 a1 : Int32) : Pr Inv (fun S => f_X7_set S a0 a1) (fun S => f_X8_set S a0 a1) := by
  intro S hI
  show ∃ r S1 S2, f_X7_set S a0 a1 = some (r, S1) ∧ f_X8_set S1 a0 a1 = some (r, S2) ∧ Inv S2
  have hI0 := hI
  obtain ⟨⟨A, hV, hR, hM⟩, -⟩ := hI
  obtain ⟨a, ha, hx⟩ := i_of a0
  obtain ⟨b, hb, hy⟩ := i_of a1
  by_cases h1 : 0 ≤ a ∧ a ≤ 4
  · obtain ⟨w, hw, rfl⟩ := nat_of (a := a) (n := 5) (by omega)
    have hr := rg_S w hw
    by_cases h2 : 0 ≤ b ∧ b ≤ hiS w
    · refine ⟨S.1 3 w, sI S 3 w a1, sI (sI S 3 w a1) 33 w a1, ?_, ?_, ?_⟩
      · unfold f_X7_set
        rw [g_w hx ha 0 4 0 4 rfl rfl (by omega) (by omega), if_pos h1]
        refine bd (rS_ok (j := 4) hx rfl hw (by omega)) ?_
        rw [g_w hy hb 0 (sv 4 w) 0 (hiS w) rfl (sv_se w hw) (by omega) (by omega), if_pos h2]
        exact bd (rI_ok (t := 0) (k := 3) hx rfl hw (by omega)) (bd (wI_ok (k := 3) hx rfl hw (by omega)) rfl)
      · unfold f_X8_set
        rw [gt01 (m_isSet hx hw hy hb), if_pos h2]
        refine bd (rI_ok (t := 0) (k := 33) hx rfl hw (by omega)) (bd (wI_ok (k := 33) hx rfl hw (by omega)) ?_)
        rw [sI_ne (by decide), hR.2.2.1 w hw, hM.2.2.1 w hw]
      · refine hI0.port (A := setSe A w b) ⟨⟨hV.1, hV.2.1, hV.2.2.1, SV0_up hV.2.2.2.1 h2, hV.2.2.2.2⟩, (hR.se hy (by decide) (by decide) (by decide) (by decide)).fr (by decide) (by decide) (by decide) (by decide) (by decide), (hM.fr (by decide) (by decide) (by decide) (by decide) (by decide)).se hy (by decide) (by decide) (by decide) (by decide)⟩ (fun k hk => ?_) (fun i _ _ => ?_) (fun _ _ _ => rfl)
        · rw [sI_o (by omega), sI_o (by omega)]
        · rw [sI_ne (by decide), sI_ne (by decide)]
    · refine ⟨-1, S, S, ?_, ?_, hI0⟩
      · unfold f_X7_set
        rw [g_w hx ha 0 4 0 4 rfl rfl (by omega) (by omega), if_pos h1]
        refine bd (rS_ok (j := 4) hx rfl hw (by omega)) ?_
        rw [g_w hy hb 0 (sv 4 w) 0 (hiS w) rfl (sv_se w hw) (by omega) (by omega), if_neg h2]
      · unfold f_X8_set
        rw [gt01 (m_isSet hx hw hy hb), if_neg h2]
  · refine ⟨-1, S, S, ?_, ?_, hI0⟩
    · unfold f_X7_set
      rw [g_w hx ha 0 4 0 4 rfl rfl (by omega) (by omega), if_neg h1]
    · unfold f_X8_set
      rw [m_isSet_no hx ha h1]
      rfl
theorem e_mark {S : ST} {x y v : Int32} {j w : Nat} (hx : x = iI (j : Int)) (hy : y = iI (w : Int)) (hj : j < 16) (hw : w < 6) : f_X1_mark S x y v = some (S.1 4 (6 * j + w), sI S 4 (6 * j + w) v) := by
  unfold f_X1_mark f_X1_markOf
  have e := rI_ok (S := S) (t := 0) (k := 4) (ix6 hx hy) rfl (show 6 * j + w < 96 by omega) (by omega)
  rw [e]
  exact bd rfl (bd (wI_ok (k := 4) (ix6 hx hy) rfl (show 6 * j + w < 96 by omega) (by omega)) rfl)
theorem mk_both {S : ST} (hI0 : Inv S) {A : PT} (hV : PV A) (hR : RC S A) (hM : RM S A) {j w : Nat} {y : Int32} {b : Int} (hw : w < 6) (hy : y = iI b) (hv : lo6 w ≤ b ∧ b ≤ hi6 w) : Inv (sI (sI S 4 (6 * j + w) y) 31 (6 * j + w) y) := by
  refine hI0.port (A := setMk A (6 * j + w) b) ⟨⟨hV.1, fun j' hj' => MV0_up (hV.2.1 j' hj') hw hv, hV.2.2⟩, (hR.mk hy (by decide) (by decide) (by decide) (by decide)).fr (by decide) (by decide) (by decide) (by decide) (by decide), (hM.fr (by decide) (by decide) (by decide) (by decide) (by decide)).mk hy (by decide) (by decide) (by decide) (by decide)⟩ (fun k hk => ?_) (fun i _ _ => ?_) (fun _ _ _ => rfl)
  · rw [sI_o (by omega), sI_o (by omega)]
  · rw [sI_ne (by decide), sI_ne (by decide)]
theorem ok_make (a0 a1 a2 : Int32) : Pr Inv (fun S => f_X7_make S a0 a1 a2) (fun S => f_X8_make S a0 a1 a2) := by
  intro S hI
  show ∃ r S1 S2, f_X7_make S a0 a1 a2 = some (r, S1) ∧ f_X8_make S1 a0 a1 a2 = some (r, S2) ∧ Inv S2
  have hI0 := hI
  obtain ⟨⟨A, hV, hR, hM⟩, -⟩ := hI
  obtain ⟨a, ha, hx⟩ := i_of a0
  obtain ⟨b, hb, hy⟩ := i_of a1
  obtain ⟨c, hc, hz⟩ := i_of a2
  have h16 := hV.1.1
  by_cases h1 : 0 ≤ a ∧ a < mi A
  · obtain ⟨j, hj, rfl⟩ := nat_of h1
    by_cases h2 : 0 ≤ b ∧ b ≤ 4
    · obtain ⟨w, hw, rfl⟩ := nat_of (a := b) (n := 5) (by omega)
      by_cases h3 : loM w ≤ c ∧ c ≤ hiM w
      · have hq := lo6_M w hw
        refine ⟨S.1 4 (6 * j + w), sI S 4 (6 * j + w) a2, sI (sI S 4 (6 * j + w) a2) 31 (6 * j + w) a2, ?_, ?_, mk_both hI0 hV hR hM (by omega) hz (by rw [hq.1, hq.2]; exact h3)⟩
        · unfold f_X7_make
          rw [gt01 (e_hasMile hR hV hx ha), if_pos h1, g_w hy hb 0 4 0 4 rfl rfl (by omega) (by omega), if_pos h2, gt01 (e_isMark hy hw hz hc), if_pos h3]
          exact bd2 (e_mark hx hy (by omega) (by omega)) rfl
        · have hM1 : RM (sI S 4 (6 * j + w) a2) A := hM.fr (by decide) (by decide) (by decide) (by decide) (by decide)
          unfold f_X8_make
          rw [gt01 (m_isMile hM1 hV hx ha), if_pos h1, gt01 (m_isPart hy hw hz hc), if_pos h3]
          refine bd (rI_ok (t := 0) (k := 31) (ix6' hx hy) rfl (show 6 * j + w < 96 by omega) (by omega)) (bd (wI_ok (k := 31) (ix6' hx hy) rfl (show 6 * j + w < 96 by omega) (by omega)) ?_)
          rw [sI_ne (by decide), hR.2.2.2.1 (6 * j + w) (by omega), hM.2.2.2.1 (6 * j + w) (by omega)]
      · refine ⟨-1, S, S, ?_, ?_, hI0⟩
        · unfold f_X7_make
          rw [gt01 (e_hasMile hR hV hx ha), if_pos h1, g_w hy hb 0 4 0 4 rfl rfl (by omega) (by omega), if_pos h2, gt01 (e_isMark hy hw hz hc), if_neg h3]
        · unfold f_X8_make
          rw [gt01 (m_isMile hM hV hx ha), if_pos h1, gt01 (m_isPart hy hw hz hc), if_neg h3]
    · refine ⟨-1, S, S, ?_, ?_, hI0⟩
      · unfold f_X7_make
        rw [gt01 (e_hasMile hR hV hx ha), if_pos h1, g_w hy hb 0 4 0 4 rfl rfl (by omega) (by omega), if_neg h2]
      · unfold f_X8_make
        rw [gt01 (m_isMile hM hV hx ha), if_pos h1, m_isPart_no hy hb h2]
        rfl
  · refine ⟨-1, S, S, ?_, ?_, hI0⟩
    · unfold f_X7_make
      rw [gt01 (e_hasMile hR hV hx ha), if_neg h1]
    · unfold f_X8_make
      rw [gt01 (m_isMile hM hV hx ha), if_neg h1]
theorem ok_pace (a0 a1 : Int32) : Pr Inv (fun S => f_X7_pace S a0 a1) (fun S => f_X8_pace S a0 a1) := by
  intro S hI
  show ∃ r S1 S2, f_X7_pace S a0 a1 = some (r, S1) ∧ f_X8_pace S1 a0 a1 = some (r, S2) ∧ Inv S2
  have hI0 := hI
  obtain ⟨⟨A, hV, hR, hM⟩, -⟩ := hI
  obtain ⟨a, ha, hx⟩ := i_of a0
  obtain ⟨b, hb, hy⟩ := i_of a1
  have h16 := hV.1.1
  by_cases h1 : 0 ≤ a ∧ a < mi A
  · obtain ⟨j, hj, rfl⟩ := nat_of h1
    by_cases h2 : 1 ≤ b ∧ b ≤ 15
    · refine ⟨S.1 4 (6 * j + 5), sI S 4 (6 * j + 5) a1, sI (sI S 4 (6 * j + 5) a1) 31 (6 * j + 5) a1, ?_, ?_, mk_both hI0 hV hR hM (by omega) hy h2⟩
      · unfold f_X7_pace
        rw [gt01 (e_hasMile hR hV hx ha), if_pos h1, gt01 (e_isPace hy hb), if_pos h2]
        exact bd2 (e_mark (w := 5) hx rfl (by omega) (by omega)) rfl
      · have hM1 : RM (sI S 4 (6 * j + 5) a1) A := hM.fr (by decide) (by decide) (by decide) (by decide) (by decide)
        unfold f_X8_pace
        rw [gt01 (m_isMile hM1 hV hx ha), if_pos h1, gt01 (m_isPace hy hb), if_pos h2]
        refine bd (rI_ok (t := 0) (k := 31) (ix6' (w := 5) hx rfl) rfl (show 6 * j + 5 < 96 by omega) (by omega)) (bd (wI_ok (k := 31) (ix6' (w := 5) hx rfl) rfl (show 6 * j + 5 < 96 by omega) (by omega)) ?_)
        rw [sI_ne (by decide), hR.2.2.2.1 (6 * j + 5) (by omega), hM.2.2.2.1 (6 * j + 5) (by omega)]
    · refine ⟨-1, S, S, ?_, ?_, hI0⟩
      · unfold f_X7_pace
        rw [gt01 (e_hasMile hR hV hx ha), if_pos h1, gt01 (e_isPace hy hb), if_neg h2]
      · unfold f_X8_pace
        rw [gt01 (m_isMile hM hV hx ha), if_pos h1, gt01 (m_isPace hy hb), if_neg h2]
  · refine ⟨-1, S, S, ?_, ?_, hI0⟩
    · unfold f_X7_pace
      rw [gt01 (e_hasMile hR hV hx ha), if_neg h1]
    · unfold f_X8_pace
      rw [gt01 (m_isMile hM hV hx ha), if_neg h1]
