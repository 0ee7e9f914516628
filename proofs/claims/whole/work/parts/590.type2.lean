/-! ===== type ===== -/
def chV (x : Int64) (i : Nat) : Int := (us64 x (iI ((8 * i : Nat) : Int)) &&& 255).toInt
theorem ix8 {i : Nat} : 8 * iI (i : Int) = iI ((8 * i : Nat) : Int) := by
  rw [show (8 : Int32) = iI 8 from rfl, iI_mul]
  congr 1
theorem nar_b : ∀ k : Nat, k < 127 → (iI (k : Int)).toInt8.toInt32 = iI (k : Int) ∧ vp_nar .byte (iI (k : Int)) = iI (k : Int) := by decide +kernel
theorem wB_ok {S : ST} {k : Nat} {x v : Int32} {a : Int} {n : Nat} (hx : x = iI a) (hn : a = (n : Int)) (h : n < al 1 k) (hs : n < 2147483648) : wB S k x v = some (sI S k n (vp_nar .byte v)) := by
  subst hx; subst hn
  rw [wB, iI_nat, nI_clamp hs, if_pos ⟨nI_pos' hs, h⟩]
theorem al24 : al 1 24 = 100 := by decide
theorem al35 : al 0 35 = 100 := by decide
theorem chV_c {x : Int64} {i : Nat} : (us64 x (8 * iI (i : Int)) &&& 255).toInt32 = iI (chV x i) := by
  have := sg_rg (us64 x (iI ((8 * i : Nat) : Int)))
  rw [ix8]
  exact l_i32 (by omega)
theorem chV_m {x : Int64} {i : Nat} (hi : i < 8) : (ss64 x (8 * iI (i : Int)) &&& 255).toInt = chV x i ∧ (ss64 x (8 * iI (i : Int)) &&& 255).toInt32 = iI (chV x i) := by
  have h := sg_eq x i hi
  have h2 := chV_c (x := x) (i := i)
  rw [ix8] at h2 ⊢
  rw [← h]
  exact ⟨rfl, h2⟩
theorem chV_rg {x : Int64} {i : Nat} : 0 ≤ chV x i ∧ chV x i ≤ 255 := sg_rg _
theorem ty_chk {x1 : Int64} {x3 : Int32} {m : Nat} (h3 : x3 = iI (m : Int)) (hm : m ≤ 8) : ∀ (n i : Nat), m < i + n → i ≤ m → ((∀ S, f_X4_append_15 n S x1 x3 (iI (i : Int)) = some (-1, S)) ∧ (∀ T, f_X8_type_17 n T x1 x3 (iI (i : Int)) = some (-1, T))) ∨ ((∀ j, i ≤ j → j < m → 32 ≤ chV x1 j ∧ chV x1 j ≤ 126) ∧ (∀ S, f_X4_append_15 n S x1 x3 (iI (i : Int)) = if ((S.1 22 2) + x3) ≤ 100 then (f_X4_append_70 FU S x1 (x3 - 1)) else (some ((-3), S))) ∧ (∀ T, f_X8_type_17 n T x1 x3 (iI (i : Int)) = if ((T.1 30 7) + x3) ≤ 100 then (f_X8_type_73 FU T x1 (x3 - 1)) else (some ((-3), T)))) := by
  intro n
  induction n with
  | zero => intro i q1 q2; omega
  | succ n ih =>
    intro i q1 q2
    by_cases h : (m : Int) ≤ (i : Int)
    · right
      refine ⟨fun j h1 h2 => by omega, fun S => ?_, fun T => ?_⟩
      · unfold f_X4_append_15
        rw [i_le (x := x3) (y := iI (i : Int)) h3 rfl (by omega) (by omega), if_pos h]
      · unfold f_X8_type_17
        rw [i_le (x := x3) (y := iI (i : Int)) h3 rfl (by omega) (by omega), if_pos h]
    · have cr := chV_rg (x := x1) (i := i)
      have ec : ∀ S, f_X4_append_15 (n + 1) S x1 x3 (iI (i : Int)) = if 32 ≤ chV x1 i ∧ chV x1 i ≤ 126 then f_X4_append_15 n S x1 x3 (iI ((i + 1 : Nat) : Int)) else some (-1, S) := by
        intro S
        rw [f_X4_append_15, i_le (x := x3) (y := iI (i : Int)) h3 rfl (by omega) (by omega), if_neg h, gt01 (e_within (y := 32) (z := 126) (b := 32) (c := 126) (chV_c (x := x1) (i := i)) rfl rfl (by omega) (by omega) (by omega)), i_next]
      have em : ∀ T, f_X8_type_17 (n + 1) T x1 x3 (iI (i : Int)) = if 32 ≤ chV x1 i ∧ chV x1 i ≤ 126 then f_X8_type_17 n T x1 x3 (iI ((i + 1 : Nat) : Int)) else some (-1, T) := by
        intro T
        rw [f_X8_type_17, i_le (x := x3) (y := iI (i : Int)) h3 rfl (by omega) (by omega), if_neg h, gt01 (e_in (y := 32) (z := 126) (b := 32) (c := 126) (chV_m (x := x1) (i := i) (by omega)).1 rfl rfl), i_next]
      by_cases hc : 32 ≤ chV x1 i ∧ chV x1 i ≤ 126
      · rcases ih (i + 1) (by omega) (by omega) with ⟨g1, g2⟩ | ⟨g0, g1, g2⟩
        · exact Or.inl ⟨fun S => by rw [ec, if_pos hc, g1], fun T => by rw [em, if_pos hc, g2]⟩
        · refine Or.inr ⟨fun j h1 h2 => ?_, fun S => by rw [ec, if_pos hc, g1], fun T => by rw [em, if_pos hc, g2]⟩
          by_cases hj : j = i
          · subst hj; exact hc
          · exact g0 j (by omega) h2
      · exact Or.inl ⟨fun S => by rw [ec, if_neg hc], fun T => by rw [em, if_neg hc]⟩
theorem ty_c {x1 : Int64} : ∀ (n i t : Nat) (S : ST), i < n → i ≤ 8 → S.1 22 2 = iI (t : Int) → t + i ≤ 100 → (∀ j, j < i → 32 ≤ chV x1 j ∧ chV x1 j ≤ 126) → ∃ S', f_X4_append_70 n S x1 (iI ((i : Int) - 1)) = some (iI ((t + i : Nat) : Int), S') ∧ S'.1 22 2 = iI ((t + i : Nat) : Int) ∧ (∀ q, q ≠ 22 → q ≠ 24 → S'.1 q = S.1 q) ∧ S'.2 = S.2 ∧ (∀ p, p < t → S'.1 24 p = S.1 24 p) ∧ ∀ p, p < i → S'.1 24 (t + p) = iI (chV x1 (i - 1 - p)) := by
  intro n
  induction n with
  | zero => intro i t S q1; omega
  | succ n ih =>
    intro i t S q1 q2 ht h100 hch
    unfold f_X4_append_70
    rw [i_lt (x := iI ((i : Int) - 1)) (y := 0) (b := 0) rfl rfl (by omega) (by omega)]
    by_cases h : (i : Int) - 1 < 0
    · have e0 : i = 0 := by omega
      subst e0
      rw [if_pos h, ht]
      exact ⟨S, rfl, ht, fun _ _ _ => rfl, rfl, fun _ _ => rfl, fun p hp => by omega⟩
    · obtain ⟨k, rfl⟩ : ∃ k, i = k + 1 := ⟨i - 1, by omega⟩
      have ek : ((k + 1 : Nat) : Int) - 1 = (k : Int) := by omega
      have hc := hch k (by omega)
      obtain ⟨z, hz, ez⟩ := nat_of (a := chV x1 k) (n := 127) (by omega)
      rw [if_neg h, ek, chV_c, ht, ez, (nar_b z hz).1, wB_ok (x := iI (t : Int)) (n := t) rfl rfl (by rw [al24]; omega) (by omega), Option.bind_some, (nar_b z hz).2, sI_ne (show 22 ≠ 24 by decide), ht, i_next, show iI (k : Int) + (-1) = iI ((k : Int) - 1) by rw [show (-1 : Int32) = iI (-1) by decide, iI_add]; rfl]
      obtain ⟨S', e, f1, f2, f3, f4, f5⟩ := ih k (t + 1) (sI (sI S 24 t (iI (z : Int))) 22 2 (iI ((t + 1 : Nat) : Int))) (by omega) (by omega) sI_eq (by omega) (fun j hj => hch j (by omega))
      have e1 : t + 1 + k = t + (k + 1) := by omega
      rw [e1] at e f1
      refine ⟨S', e, f1, fun q h1 h2 => by rw [f2 q h1 h2, sI_o h1, sI_o h2], f3, fun p hp => ?_, fun p hp => ?_⟩
      · rw [f4 p (by omega), sI_ne (by decide), sI_nj (by omega)]
      · by_cases hp0 : p = 0
        · subst hp0
          rw [Nat.add_zero, f4 t (by omega), sI_ne (by decide), sI_eq, ← ez]
          rfl
        · obtain ⟨p', rfl⟩ : ∃ p', p = p' + 1 := ⟨p - 1, by omega⟩
          have := f5 p' (by omega)
          rw [show t + (p' + 1) = t + 1 + p' by omega, this, show k + 1 - 1 - (p' + 1) = k - 1 - p' by omega]
theorem ty_m {x1 : Int64} : ∀ (n i t : Nat) (S : ST), i < n → i ≤ 8 → S.1 30 7 = iI (t : Int) → t + i ≤ 100 → ∃ S', f_X8_type_73 n S x1 (iI ((i : Int) - 1)) = some (iI ((t + i : Nat) : Int), S') ∧ S'.1 30 7 = iI ((t + i : Nat) : Int) ∧ (∀ q, q ≠ 30 → q ≠ 35 → S'.1 q = S.1 q) ∧ (∀ j, j ≠ 7 → S'.1 30 j = S.1 30 j) ∧ S'.2 = S.2 ∧ (∀ p, p < t → S'.1 35 p = S.1 35 p) ∧ ∀ p, p < i → S'.1 35 (t + p) = iI (chV x1 (i - 1 - p)) := by
  intro n
  induction n with
  | zero => intro i t S q1; omega
  | succ n ih =>
    intro i t S q1 q2 ht h100
    unfold f_X8_type_73
    rw [i_lt (x := iI ((i : Int) - 1)) (y := 0) (b := 0) rfl rfl (by omega) (by omega)]
    by_cases h : (i : Int) - 1 < 0
    · have e0 : i = 0 := by omega
      subst e0
      rw [if_pos h, ht]
      exact ⟨S, rfl, ht, fun _ _ _ => rfl, fun _ _ => rfl, rfl, fun _ _ => rfl, fun p hp => by omega⟩
    · obtain ⟨k, rfl⟩ : ∃ k, i = k + 1 := ⟨i - 1, by omega⟩
      have ek : ((k + 1 : Nat) : Int) - 1 = (k : Int) := by omega
      rw [if_neg h, ek, (chV_m (show k < 8 by omega)).2, ht, wI_ok (x := iI (t : Int)) (n := t) rfl rfl (by rw [al35]; omega) (by omega), Option.bind_some, sI_ne (show 30 ≠ 35 by decide), ht, i_next, show iI (k : Int) + (-1) = iI ((k : Int) - 1) by rw [show (-1 : Int32) = iI (-1) by decide, iI_add]; rfl]
      obtain ⟨S', e, f1, f2, f2', f3, f4, f5⟩ := ih k (t + 1) (sI (sI S 35 t (iI (chV x1 k))) 30 7 (iI ((t + 1 : Nat) : Int))) (by omega) (by omega) sI_eq (by omega)
      have e1 : t + 1 + k = t + (k + 1) := by omega
      rw [e1] at e f1
      refine ⟨S', e, f1, fun q h1 h2 => by rw [f2 q h1 h2, sI_o h1, sI_o h2], fun j hj => by rw [f2' j hj, sI_nj hj, sI_ne (by decide)], f3, fun p hp => ?_, fun p hp => ?_⟩
      · rw [f4 p (by omega), sI_ne (by decide), sI_nj (by omega)]
      · by_cases hp0 : p = 0
        · subst hp0
          rw [Nat.add_zero, f4 t (by omega), sI_ne (by decide), sI_eq]
          rfl
        · obtain ⟨p', rfl⟩ : ∃ p', p = p' + 1 := ⟨p - 1, by omega⟩
          have := f5 p' (by omega)
          rw [show t + (p' + 1) = t + 1 + p' by omega, this, show k + 1 - 1 - (p' + 1) = k - 1 - p' by omega]
theorem ok_type (a0 : Int64) (a1 : Int32) : Pr Inv (fun S => f_X7_type S a0 a1) (fun S => f_X8_type S a0 a1) := by
  intro S hI
  obtain ⟨⟨A, hA⟩, hIP, hTP, hSh, hF⟩ := id hI
  obtain ⟨a, ha, hx⟩ := i_of a1
  show ∃ r S1 S2, f_X7_type S a0 a1 = some (r, S1) ∧ f_X8_type S1 a0 a1 = some (r, S2) ∧ Inv S2
  unfold f_X7_type f_X4_append f_X8_type
  simp only [g_w hx ha 1 8 1 8 rfl rfl (by omega) (by omega), g_i hx ha 1 8 1 8 rfl rfl]
  by_cases h1 : 1 ≤ a ∧ a ≤ 8
  · simp only [if_pos h1]
    obtain ⟨m, hm, rfl⟩ := nat_of (a := a) (n := 9) (by omega)
    rcases ty_chk (x1 := a0) hx (by omega) FU 0 (FU_gt (by omega)) (by omega) with ⟨g1, g2⟩ | ⟨g0, g1, g2⟩
    · exact ⟨-1, S, S, bd2 (g1 S) rfl, g2 S, hI⟩
    · obtain ⟨t, c, t1, t2, t3, t4⟩ := hTP
      have e1 : f_X4_append_15 FU S a0 a1 0 = _ := g1 S
      rw [t2, i_le (x := iI (t : Int) + a1) (y := 100) (a := (t : Int) + (m : Int)) (b := 100) (by rw [hx, iI_add]) rfl (by omega) (by omega)] at e1
      by_cases h2 : (t : Int) + (m : Int) ≤ 100
      · rw [if_pos h2, show a1 - 1 = iI ((m : Int) - 1) by rw [hx, show (1 : Int32) = iI 1 from rfl, iI_sub]] at e1
        obtain ⟨S1, k1, k2, k3, k4, k5, k6⟩ := ty_c (x1 := a0) FU m t S (FU_gt (by omega)) (by omega) t2 (by omega) (fun j hj => g0 j (by omega) hj)
        have t3' : S1.1 30 7 = iI (t : Int) := by rw [k3 30 (by decide) (by decide)]; exact t3
        obtain ⟨T, n1, n2, n3, n3', n4, n5, n6⟩ := ty_m (x1 := a0) FU m t S1 (FU_gt (by omega)) (by omega) t3' (by omega)
        have e2 : f_X8_type_17 FU S1 a0 a1 0 = _ := g2 S1
        rw [t3', i_le (x := iI (t : Int) + a1) (y := 100) (a := (t : Int) + (m : Int)) (b := 100) (by rw [hx, iI_add]) rfl (by omega) (by omega), if_pos h2, show a1 - 1 = iI ((m : Int) - 1) by rw [hx, show (1 : Int32) = iI 1 from rfl, iI_sub], n1] at e2
        rw [k1] at e1
        have kp : ∀ q, q ≠ 22 → q ≠ 24 → q ≠ 30 → q ≠ 35 → T.1 q = S.1 q := fun q h1 h2 h3 h4 => by rw [n3 q h3 h4, k3 q h1 h2]
        have k30 : ∀ j, j ≠ 7 → T.1 30 j = S.1 30 j := fun j hj => by rw [n3' j hj, k3 30 (by decide) (by decide)]
        refine ⟨_, S1, T, bd2 e1 rfl, e2, ⟨A, hA.of (fun k _ _ => kp k (by omega) (by omega) (by omega) (by omega)) (k30 0 (by decide)) (k30 4 (by decide)) (fun k _ _ => kp k (by omega) (by omega) (by omega) (by omega))⟩, hIP.of (by rw [kp 0 (by decide) (by decide) (by decide) (by decide)]) (k30 24 (by decide)) (fun k _ _ => kp k (by omega) (by omega) (by omega) (by omega)) (kp 45 (by decide) (by decide) (by decide) (by decide)), ?_, hSh.of (kp 27 (by decide) (by decide) (by decide) (by decide)) (kp 28 (by decide) (by decide) (by decide) (by decide)) (kp 46 (by decide) (by decide) (by decide) (by decide)) (kp 47 (by decide) (by decide) (by decide) (by decide)) (kp 48 (by decide) (by decide) (by decide) (by decide)) (fun k _ _ => kp k (by omega) (by omega) (by omega) (by omega)), hF.of (by rw [kp 13 (by decide) (by decide) (by decide) (by decide)]) (kp 14 (by decide) (by decide) (by decide) (by decide)) (fun k _ _ => by rw [n4, k4])⟩
        refine ⟨t + m, fun p => if p < t then c p else chV a0 (m - 1 - (p - t)), by omega, by rw [n3 22 (by decide) (by decide)]; exact k2, n2, fun p hp => ?_⟩
        by_cases hpt : p < t
        · obtain ⟨u1, u2, u3⟩ := t4 p hpt
          simp only [if_pos hpt]
          exact ⟨u1, by rw [n3 24 (by decide) (by decide), k5 p hpt]; exact u2, by rw [n5 p hpt, k3 35 (by decide) (by decide)]; exact u3⟩
        · simp only [if_neg hpt]
          obtain ⟨p', rfl⟩ : ∃ p', p = t + p' := ⟨p - t, by omega⟩
          rw [Nat.add_sub_cancel_left]
          exact ⟨g0 _ (by omega) (by omega), by rw [n3 24 (by decide) (by decide)]; exact k6 p' (by omega), n6 p' (by omega)⟩
      · rw [if_neg h2] at e1
        refine ⟨-3, S, S, bd2 e1 rfl, ?_, hI⟩
        have e2 : f_X8_type_17 FU S a0 a1 0 = _ := g2 S
        rw [t3, i_le (x := iI (t : Int) + a1) (y := 100) (a := (t : Int) + (m : Int)) (b := 100) (by rw [hx, iI_add]) rfl (by omega) (by omega), if_neg h2] at e2
        exact e2
  · simp only [if_neg h1]
    exact ⟨_, _, S, rfl, rfl, hI⟩
