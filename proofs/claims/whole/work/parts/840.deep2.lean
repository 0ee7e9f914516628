/-! ===== deepest, the reference ===== -/
theorem PV_hu {A : PT} (hV : PV A) {s : Nat} {d : Int} (hd : 20 ≤ d ∧ d ≤ 200) : PV (setHu A (3 * s) d) := by
  refine ⟨hV.1, hV.2.1, hV.2.2.1, hV.2.2.2.1, fun j hj => ?_⟩
  obtain ⟨g1, g2, g3⟩ := hV.2.2.2.2 j hj
  refine ⟨?_, ?_, ?_⟩
  · show 20 ≤ (if 3 * j = 3 * s then d else hu A (3 * j)) ∧ (if 3 * j = 3 * s then d else hu A (3 * j)) ≤ 200
    split
    · exact hd
    · exact g1
  · show 1 ≤ (if 3 * j + 1 = 3 * s then d else hu A (3 * j + 1)) ∧ (if 3 * j + 1 = 3 * s then d else hu A (3 * j + 1)) ≤ 40
    rw [if_neg (by omega)]
    exact g2
  · show 1 ≤ (if 3 * j + 2 = 3 * s then d else hu A (3 * j + 2)) ∧ (if 3 * j + 2 = 3 * s then d else hu A (3 * j + 2)) ≤ 99
    rw [if_neg (by omega)]
    exact g3
def FH (s : Nat) (S T : ST) : Prop := (∀ k, k ≠ 34 → k ≠ 37 → k ≠ 38 → T.1 k = S.1 k) ∧ (∀ i, i ≠ 3 * s → T.1 34 i = S.1 34 i) ∧ T.2 = S.2
theorem al34 : al 0 34 = 18 := by decide
theorem rd_go {S : ST} {A : PT} (hV : PV A) {s m : Nat} (hs : s < nsh A) (hm : m < 1440) : ∀ (k l h n : Nat) (T : ST) (v : Int), FH s S T → RM T (setHu A (3 * s) v) → h ≤ l + k + 1 → l < h → k < n → 19 ≤ l → h ≤ 201 → (l = 19 ∨ PD A s m l) → (∀ d, h ≤ d → d ≤ 200 → ¬ PD A s m d) → ∃ (T' : ST) (r : Nat), f_X8_deepest_45 n T (iI (s : Int)) (iI (m : Int)) (S.1 34 (3 * s)) (iI (l : Int)) (iI (h : Int)) = some (if (20 : Int) ≤ (r : Int) then iI (r : Int) else -4, T') ∧ F78 S T' ∧ Gr (PD A s m) r := by
  have h6 := hV.1.2
  have stop : ∀ (l h n : Nat) (T : ST), FH s S T → h = l + 1 → 19 ≤ l → h ≤ 201 → (l = 19 ∨ PD A s m l) → (∀ d, h ≤ d → d ≤ 200 → ¬ PD A s m d) → ∃ (T' : ST) (r : Nat), f_X8_deepest_45 (n + 1) T (iI (s : Int)) (iI (m : Int)) (S.1 34 (3 * s)) (iI (l : Int)) (iI (h : Int)) = some (if (20 : Int) ≤ (r : Int) then iI (r : Int) else -4, T') ∧ F78 S T' ∧ Gr (PD A s m) r := by
    intro l h n T fh e1 h1 h2 h3 h4
    refine ⟨sI T 34 (3 * s) (S.1 34 (3 * s)), l, ?_, ⟨fun q q1 q2 => ?_, fh.2.2⟩, ⟨by omega, by omega⟩, h3, fun d g1 g2 => h4 d (by omega) g2⟩
    · rw [f_X8_deepest_45, iI_sub, i_le (y := 1) (b := 1) rfl rfl (by omega) (by omega), if_pos (by omega), wI_ok (k := 34) (ix3z rfl) rfl (by rw [al34]; omega) (by omega), Option.bind_some, i_eq (y := 19) (b := 19) rfl rfl (by omega) (by omega)]
      by_cases h : (l : Int) = 19
      · rw [if_pos h, if_neg (by omega)]
      · rw [if_neg h, if_pos (by omega)]
    · by_cases q34 : q = 34
      · rw [q34]
        funext i
        by_cases hi : i = 3 * s
        · rw [hi, sI_eq]
        · rw [sI_nj hi]
          exact fh.2.1 i hi
      · rw [sI_o q34]
        exact fh.1 q q34 q1 q2
  intro k
  induction k with
  | zero =>
    intro l h n T v fh rm e1 e2 hn h1 h2 h3 h4
    obtain ⟨n, rfl⟩ : ∃ n', n = n' + 1 := ⟨n - 1, by omega⟩
    exact stop l h n T fh (by omega) h1 h2 h3 h4
  | succ k ih =>
    intro l h n T v fh rm e1 e2 hn h1 h2 h3 h4
    obtain ⟨n, rfl⟩ : ∃ n', n = n' + 1 := ⟨n - 1, by omega⟩
    by_cases hd : h = l + 1
    · exact stop l h n T fh hd h1 h2 h3 h4
    · have dv2 : dv (iI (l : Int) + iI (h : Int)) 2 = some (iI (((l + h) / 2 : Nat) : Int)) := by
        rw [iI_add]
        exact dv2n (w := l + h) (by omega)
      obtain ⟨d, hdd⟩ : ∃ d, d = (l + h) / 2 := ⟨_, rfl⟩
      rw [← hdd] at dv2
      have m1 : RM (sI T 34 (3 * s) (iI (d : Int))) (setHu A (3 * s) (d : Int)) := by
        have := rm.hu (i := 3 * s) (x := iI (d : Int)) (v := (d : Int)) rfl (by decide) (by decide) (by decide) (by decide)
        rw [setHu_set] at this
        exact this
      obtain ⟨T1, f1, u1, -⟩ := m_quickest (s := s) (a := m) (PV_hu hV (s := s) (d := (d : Int)) (by omega)) m1 hs hm
      rw [KS_hu] at f1
      have f1 : f_X8_quickest (sI T 34 (3 * s) (iI (d : Int))) (iI (s : Int)) (iI (m : Int)) = some (iI (lfV (KD A s (d : Int)) (mi A) 0 m : Int), T1) := f1
      have sp := lf_spec (K := KD A s (d : Int)) (mi A) 0 m
      have fh1 : FH s S T1 := by
        refine ⟨fun q q1 q2 q3 => ?_, fun i hi => ?_, ?_⟩
        · rw [u1.1 q q2 q3, sI_o q1]
          exact fh.1 q q1 q2 q3
        · rw [u1.1 34 (by decide) (by decide), sI_nj hi]
          exact fh.2.1 i hi
        · rw [u1.2]
          exact fh.2.2
      have step : f_X8_deepest_45 (n + 1) T (iI (s : Int)) (iI (m : Int)) (S.1 34 (3 * s)) (iI (l : Int)) (iI (h : Int)) = if (100000 : Int) ≤ (lfV (KD A s (d : Int)) (mi A) 0 m : Int) then f_X8_deepest_45 n T1 (iI (s : Int)) (iI (m : Int)) (S.1 34 (3 * s)) (iI (l : Int)) (iI (d : Int)) else f_X8_deepest_45 n T1 (iI (s : Int)) (iI (m : Int)) (S.1 34 (3 * s)) (iI (d : Int)) (iI (h : Int)) := by
        rw [f_X8_deepest_45, iI_sub, i_le (y := 1) (b := 1) rfl rfl (by omega) (by omega), if_neg (by omega), dv2, Option.bind_some, wI_ok (k := 34) (ix3z rfl) rfl (by rw [al34]; omega) (by omega), Option.bind_some]
        refine bd2 f1 ?_
        unfold f_X8_deepest_89 f_X8_deepest_103 f_X8_deepest_117
        rw [i_le (x := 100000) (a := 100000) rfl rfl (by omega) (by omega)]
        rfl
      rw [step]
      have m2 := u1.rm m1
      by_cases hp : PD A s m d
      · have hp' : lfV (KD A s (d : Int)) (mi A) 0 m < 100000 := hp
        rw [if_neg (by omega)]
        exact ih d h n T1 (d : Int) fh1 m2 (by omega) (by omega) (by omega) (by omega) h2 (Or.inr hp) h4
      · have hp' : ¬ lfV (KD A s (d : Int)) (mi A) 0 m < 100000 := hp
        rw [if_pos (by omega)]
        exact ih l d n T1 (d : Int) fh1 m2 (by omega) (by omega) (by omega) h1 (by omega) h3 (fun e g1 g2 z => hp (PD_anti hV hs hm (by omega) g1 g2 z))
theorem setHu_self {A : PT} {i : Nat} : setHu A i (hu A i) = A := by
  have : uf (hu A) i (hu A i) = hu A := by
    funext j
    by_cases h : j = i
    · subst h; exact uf_s
    · exact uf_n h
  unfold setHu
  rw [this]
  rfl
theorem ok_deepest (a0 a1 : Int32) : Pr Inv (fun S => f_X7_deepest S a0 a1) (fun S => f_X8_deepest S a0 a1) := by
  intro S hI
  obtain ⟨⟨A, hV, hR, hM⟩, -⟩ := id hI
  obtain ⟨a, ha, hx⟩ := i_of a0
  obtain ⟨b, hb, hy⟩ := i_of a1
  have h16 := hV.1.1
  have h6 := hV.1.2
  have mf : ∀ T, RM T A → f_X8_deepest T a0 a1 = if 0 ≤ a ∧ a < nsh A then (if 0 ≤ b ∧ b ≤ 1439 then (if (mi A : Int) = 0 then some (-2, T) else ((rI T 0 34 (3 * a0)).bind fun v3 => f_X8_deepest_45 FU T a0 a1 v3 19 201)) else some (-1, T)) else some (-1, T) := by
    intro T hM
    unfold f_X8_deepest
    rw [gt01 (m_isShip hM hV hx ha), gt01 (m_isStart hy hb), hM.1.1, i_eq (x := iI (mi A : Int)) (y := 0) (b := 0) rfl rfl (by omega) (by omega)]
  show ∃ r S1 S2, f_X7_deepest S a0 a1 = some (r, S1) ∧ f_X8_deepest S1 a0 a1 = some (r, S2) ∧ Inv S2
  unfold f_X7_deepest
  rw [gt01 (e_isStart hR hV hx hy ha hb), hR.1.1, i_eq (x := iI (mi A : Int)) (y := 0) (b := 0) rfl rfl (by omega) (by omega)]
  by_cases h12 : (0 ≤ a ∧ a < nsh A) ∧ (0 ≤ b ∧ b ≤ 1439)
  · obtain ⟨h1, h2⟩ := id h12
    rw [if_pos h12]
    by_cases h4 : (mi A : Int) = 0
    · rw [if_pos h4]
      exact ⟨_, _, _, rfl, by rw [mf S hM, if_pos h1, if_pos h2, if_pos h4], hI⟩
    · rw [if_neg h4]
      obtain ⟨s, hs, rfl⟩ := nat_of h1
      obtain ⟨m, hm, rfl⟩ := nat_of (a := b) (n := 1440) (by omega)
      obtain ⟨S1, e1, S2, e2, q2, f2, t2⟩ := s_tide hI hV hR hs hx
      obtain ⟨S3, r, e3, q3, g3⟩ := dp_go hV hR hs hm 8 19 FU S2 _ _ q2 f2 t2 (by omega) (by show 8 < 20000; omega) (by omega) (Or.inl rfl) (fun d g1 g2 => by omega)
      have e3 : f_X7_deepest_47 FU S2 a1 19 128 = some (if (20 : Int) ≤ (r : Int) then iI (r : Int) else -4, S3) := by rw [hy]; exact e3
      rw [e1, Option.bind_some, e2, Option.bind_some, e3]
      have hM3 := q3.rm hM
      obtain ⟨T, r', e4, o4, g4⟩ := rd_go (S := S3) hV hs hm 200 19 201 FU S3 (hu A (3 * s)) ⟨fun _ _ _ _ => rfl, fun _ _ => rfl, rfl⟩ (by rw [setHu_self]; exact hM3) (by omega) (by omega) (by show 200 < 20000; omega) (by omega) (by omega) (Or.inl rfl) (fun d g1 g2 => by omega)
      rw [Gr_one g4 g3] at e4
      refine ⟨_, _, T, rfl, ?_, hI.sq78 q3 o4⟩
      rw [mf S3 hM3, if_pos h1, if_pos h2, if_neg h4, rI_ok (t := 0) (k := 34) (ix3z hx) rfl (by rw [al34]; omega) (by omega), Option.bind_some, hx, hy]
      exact e4
  · rw [if_neg h12]
    by_cases h1 : 0 ≤ a ∧ a < nsh A
    · exact ⟨_, _, _, rfl, by rw [mf S hM, if_pos h1, if_neg (fun q => h12 ⟨h1, q⟩)], hI⟩
    · exact ⟨_, _, _, rfl, by rw [mf S hM, if_neg h1], hI⟩
