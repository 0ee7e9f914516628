/-! ===== a mile's clause, on both sides ===== -/
theorem b2_id {x : Option (Int32 × ST)} : (b2 x fun v S => some (v, S)) = x := by
  cases x with
  | none => rfl
  | some q => rfl
theorem mk_0 (S : ST) : f_X4_mark S 0 = f_X4_number S 20 250 := by
  unfold f_X4_mark
  rw [show rS 2 0 = some 20 by decide, show rS 3 0 = some 250 by decide, Option.bind_some, Option.bind_some, b2_id]
theorem mk_1 (S : ST) : f_X4_mark S 1 = f_X4_number S 10 99 := by
  unfold f_X4_mark
  rw [show rS 2 1 = some 10 by decide, show rS 3 1 = some 99 by decide, Option.bind_some, Option.bind_some, b2_id]
theorem mk_3 (S : ST) : f_X4_mark S 3 = f_X4_number S 0 20 := by
  unfold f_X4_mark
  rw [show rS 2 3 = some 0 by decide, show rS 3 3 = some 20 by decide, Option.bind_some, Option.bind_some, b2_id]
theorem mk_4 (S : ST) : f_X4_mark S 4 = f_X4_number S 0 40 := by
  unfold f_X4_mark
  rw [show rS 2 4 = some 0 by decide, show rS 3 4 = some 40 by decide, Option.bind_some, Option.bind_some, b2_id]
/-- what may be told behind a sign, else what is taken for it -/
def opC (k d : Int32) (f : ST → Option (Int32 × ST)) (S : ST) : Option (Int32 × ST) := b2 (f_X4_takes S k) fun v S3 => if v = 0 then some (d, S3) else f S3
def opM (k d : Int32) (f : ST → Option (Int32 × ST)) (S : ST) : Option (Int32 × ST) := b2 (f_X8_has S k) fun v S3 => if v = 0 then some (d, S3) else f S3
theorem b2_opC {β : Type} {k d : Int32} {f : ST → Option (Int32 × ST)} {S : ST} {K : Int32 → ST → Option β} : b2 (opC k d f S) K = b2 (f_X4_takes S k) fun v S3 => if v = 0 then K d S3 else b2 (f S3) K := by
  unfold opC
  cases f_X4_takes S k with
  | none => rfl
  | some q =>
    show b2 (if q.1 = 0 then some (d, q.2) else f q.2) K = if q.1 = 0 then K d q.2 else b2 (f q.2) K
    by_cases h : q.1 = 0
    · rw [if_pos h, if_pos h]; rfl
    · rw [if_neg h, if_neg h]
theorem b2_opM {β : Type} {k d : Int32} {f : ST → Option (Int32 × ST)} {S : ST} {K : Int32 → ST → Option β} : b2 (opM k d f S) K = b2 (f_X8_has S k) fun v S3 => if v = 0 then K d S3 else b2 (f S3) K := by
  unfold opM
  cases f_X8_has S k with
  | none => rfl
  | some q =>
    show b2 (if q.1 = 0 then some (d, q.2) else f q.2) K = if q.1 = 0 then K d q.2 else b2 (f q.2) K
    by_cases h : q.1 = 0
    · rw [if_pos h, if_pos h]; rfl
    · rw [if_neg h, if_neg h]
theorem b2_exC {β : Type} {x : Int32} {S : ST} {K : Int32 → ST → Option β} : b2 (exC x S) K = (f_X4_expect S x).bind fun S' => K 0 S' := by
  unfold exC
  cases f_X4_expect S x with
  | none => rfl
  | some q => rfl
theorem b2_exM {β : Type} {x : Int32} {S : ST} {K : Int32 → ST → Option β} : b2 (exM x S) K = b2 (f_X8_has S x) fun v T2 => K 0 (sI T2 30 9 (if v = 0 then 1 else 0)) := by
  unfold exM
  cases f_X8_has S x with
  | none => rfl
  | some q => rfl
theorem st_opt {t : Nat} {c : Nat → Int} (hC : CT t c) {P : Int → Prop} {f g : ST → Option (Int32 × ST)} (hB : Bas t c P f g) {x : Int32} {k d : Int} (hx : x = iI k) (hk : 33 ≤ k ∧ k ≤ 126) (hd : P d) (s : Nat × Bool) (hs : s.1 ≤ t) : ∃ s' v, TSt t c (opC x (iI d) f) (opM x (iI d) g) s s' v ∧ s'.1 ≤ t ∧ (s'.2 = false → P v) := by
  obtain ⟨s1, v1, ⟨a1, a2, a3⟩, a4, a5⟩ := lift hC (b_takes hC hx hk) s hs
  obtain ⟨s2, v2, ⟨d1, d2, d3⟩, d4, d5⟩ := lift hC hB s1 a4
  cases hb : s1.2 with
  | true =>
    have e2 : s2 = s1 := d1 hb
    rw [e2] at d2 d3
    refine ⟨s1, 0, ⟨a1, fun S hS => ?_, fun T hT => ?_⟩, a4, fun h => by rw [hb] at h; cases h⟩
    · obtain ⟨S1, w1, f1, f2, f3, -⟩ := a2 S hS
      obtain ⟨S2, w2, h1, h2, h3, -⟩ := d2 S1 f3
      unfold opC
      rw [show f_X4_takes S x = some (w1, S1) from f1]
      show ∃ S' w, (if w1 = 0 then some (iI d, S1) else f S1) = _ ∧ _
      by_cases h : w1 = 0
      · rw [if_pos h]
        exact ⟨S1, _, rfl, f2, f3, fun h => by rw [hb] at h; cases h⟩
      · rw [if_neg h, h1]
        exact ⟨S2, _, rfl, f2.tr h2, h3, fun h => by rw [hb] at h; cases h⟩
    · obtain ⟨S1, w1, f1, f2, f3, -⟩ := a3 T hT
      obtain ⟨S2, w2, h1, h2, h3, -⟩ := d3 S1 f3
      unfold opM
      rw [show f_X8_has T x = some (w1, S1) from f1]
      show ∃ S' w, (if w1 = 0 then some (iI d, S1) else g S1) = _ ∧ _
      by_cases h : w1 = 0
      · rw [if_pos h]
        exact ⟨S1, _, rfl, f2, f3, fun h => by rw [hb] at h; cases h⟩
      · rw [if_neg h, h1]
        exact ⟨S2, _, rfl, f2.tr h2, h3, fun h => by rw [hb] at h; cases h⟩
  | false =>
    have hsf : s.2 = false := by
      cases hq : s.2 with
      | false => rfl
      | true => rw [a1 hq, hq] at hb; cases hb
    have hv := a5 hb
    have h0 : (iI v1 = 0) ↔ v1 = 0 := c_eq (b := 0) rfl rfl (by omega) (by omega)
    refine ⟨if v1 = 0 then s1 else s2, if v1 = 0 then d else v2, ⟨(fun h => by rw [hsf] at h; cases h), fun S hS => ?_, fun T hT => ?_⟩, by split <;> assumption, ?_⟩
    · obtain ⟨S1, w1, f1, f2, f3, f4⟩ := a2 S hS
      unfold opC
      rw [show f_X4_takes S x = some (w1, S1) from f1, f4 hb]
      show ∃ S' w, (if iI v1 = 0 then some (iI d, S1) else f S1) = _ ∧ _
      by_cases h : v1 = 0
      · rw [if_pos (h0.mpr h), if_pos h, if_pos h]
        exact ⟨S1, _, rfl, f2, f3, fun _ => rfl⟩
      · obtain ⟨S2, w2, h1, h2, h3, h4⟩ := d2 S1 f3
        rw [if_neg (fun q => h (h0.mp q)), if_neg h, if_neg h, h1]
        exact ⟨S2, _, rfl, f2.tr h2, h3, h4⟩
    · obtain ⟨S1, w1, f1, f2, f3, f4⟩ := a3 T hT
      unfold opM
      rw [show f_X8_has T x = some (w1, S1) from f1, f4 hb]
      show ∃ S' w, (if iI v1 = 0 then some (iI d, S1) else g S1) = _ ∧ _
      by_cases h : v1 = 0
      · rw [if_pos (h0.mpr h), if_pos h, if_pos h]
        exact ⟨S1, _, rfl, f2, f3, fun _ => rfl⟩
      · obtain ⟨S2, w2, h1, h2, h3, h4⟩ := d3 S1 f3
        rw [if_neg (fun q => h (h0.mp q)), if_neg h, if_neg h, h1]
        exact ⟨S2, _, rfl, f2.tr h2, h3, h4⟩
    · by_cases h : v1 = 0
      · rw [if_pos h, if_pos h]; exact fun _ => hd
      · rw [if_neg h, if_neg h]; exact d5
/-- a step and where its answer is written -/
def FC (S S' : ST) : Prop := (∀ a, a ≠ 22 → a ≠ 23 → S'.1 a = S.1 a) ∧ (∀ i, i ≠ 3 → i ≠ 4 → S'.1 22 i = S.1 22 i) ∧ S'.2 = S.2
def FD (S S' : ST) : Prop := (∀ a, a ≠ 30 → a ≠ 36 → S'.1 a = S.1 a) ∧ (∀ i, i ≠ 8 → i ≠ 9 → S'.1 30 i = S.1 30 i) ∧ S'.2 = S.2
theorem FC.rf {S : ST} : FC S S := ⟨fun _ _ _ => rfl, fun _ _ _ => rfl, rfl⟩
theorem FD.rf {S : ST} : FD S S := ⟨fun _ _ _ => rfl, fun _ _ _ => rfl, rfl⟩
theorem FC.tr {S S1 S2 : ST} (h : FC S S1) (g : FC S1 S2) : FC S S2 := ⟨fun a ha hb => (g.1 a ha hb).trans (h.1 a ha hb), fun i hi hj => (g.2.1 i hi hj).trans (h.2.1 i hi hj), g.2.2.trans h.2.2⟩
theorem FD.tr {S S1 S2 : ST} (h : FD S S1) (g : FD S1 S2) : FD S S2 := ⟨fun a ha hb => (g.1 a ha hb).trans (h.1 a ha hb), fun i hi hj => (g.2.1 i hi hj).trans (h.2.1 i hi hj), g.2.2.trans h.2.2⟩
theorem FA.fc {S S' : ST} (h : FA S S') : FC S S' := ⟨fun a ha _ => h.1 a ha, h.2.1, h.2.2⟩
theorem FB.fd {S S' : ST} (h : FB S S') : FD S S' := ⟨fun a ha _ => h.1 a ha, h.2.1, h.2.2⟩
theorem FC.s23 {S : ST} {j : Nat} {x : Int32} : FC S (sI S 23 j x) := ⟨fun _ _ hb => sI_o hb, fun _ _ _ => sI_ne (by decide), rfl⟩
theorem FD.s36 {S : ST} {j : Nat} {x : Int32} : FD S (sI S 36 j x) := ⟨fun _ _ hb => sI_o hb, fun _ _ _ => sI_ne (by decide), rfl⟩
theorem Cs.s23 {t j : Nat} {c : Nat → Int} {S : ST} {s : Nat × Bool} {x : Int32} (h : Cs t c S s) : Cs t c (sI S 23 j x) s := by
  obtain ⟨q, h1, h2, h3⟩ := h
  refine ⟨q, ⟨?_, ?_, h1.2.2.1, fun i hi => ?_⟩, h2, ?_⟩
  · rw [sI_ne (by decide)]; exact h1.1
  · rw [sI_ne (by decide)]; exact h1.2.1
  · rw [sI_ne (by decide)]; exact h1.2.2.2 i hi
  · rw [sI_ne (by decide)]; exact h3
theorem Ms.s36 {t j : Nat} {c : Nat → Int} {S : ST} {s : Nat × Bool} {x : Int32} (h : Ms t c S s) : Ms t c (sI S 36 j x) s := by
  obtain ⟨h1, h3⟩ := h
  refine ⟨⟨?_, ?_, h1.2.2.1, fun i hi => ?_⟩, ?_⟩
  · rw [sI_ne (by decide)]; exact h1.1
  · rw [sI_ne (by decide)]; exact h1.2.1
  · rw [sI_ne (by decide)]; exact h1.2.2.2 i hi
  · rw [sI_ne (by decide)]; exact h3
theorem al23 : al 0 23 = 48 := by decide
theorem al36 : al 0 36 = 40 := by decide
theorem st_w {t : Nat} {c : Nat → Int} {f g : ST → Option (Int32 × ST)} {s s' : Nat × Bool} {v : Int} (h : TSt t c f g s s' v) {x : Int32} {i : Nat} (hx : x = iI (i : Int)) (hi : i < 48) {S : ST} (hS : Cs t c S s) : ∃ S', (∀ K : ST → Option ST, (b2 (f S) fun w S2 => (wI S2 23 x w).bind K) = K S') ∧ (∀ K : ST → Option (Int32 × ST), (b2 (f S) fun w S2 => (wI S2 23 x w).bind K) = K S') ∧ FC S S' ∧ Cs t c S' s' ∧ (∀ j, j ≠ i → S'.1 23 j = S.1 23 j) ∧ (s'.2 = false → S'.1 23 i = iI v) := by
  obtain ⟨S1, w, e, o, e2, e3⟩ := h.2.1 S hS
  refine ⟨sI S1 23 i w, fun K => ?_, fun K => ?_, o.fc.tr FC.s23, e2.s23, fun j hj => ?_, fun hb => ?_⟩
  · rw [e]
    show (wI S1 23 x w).bind K = _
    rw [wI_ok hx rfl (by rw [al23]; exact hi) (by omega), Option.bind_some]
  · rw [e]
    show (wI S1 23 x w).bind K = _
    rw [wI_ok hx rfl (by rw [al23]; exact hi) (by omega), Option.bind_some]
  · rw [sI_nj hj, o.1 23 (by decide)]
  · rw [sI_eq]; exact e3 hb
theorem st_wM {t : Nat} {c : Nat → Int} {f g : ST → Option (Int32 × ST)} {s s' : Nat × Bool} {v : Int} (h : TSt t c f g s s' v) {x : Int32} {i : Nat} (hx : x = iI (i : Int)) (hi : i < 40) {S : ST} (hS : Ms t c S s) : ∃ S', (∀ K : ST → Option ST, (b2 (g S) fun w S2 => (wI S2 36 x w).bind K) = K S') ∧ (∀ K : ST → Option (Int32 × ST), (b2 (g S) fun w S2 => (wI S2 36 x w).bind K) = K S') ∧ FD S S' ∧ Ms t c S' s' ∧ (∀ j, j ≠ i → S'.1 36 j = S.1 36 j) ∧ (s'.2 = false → S'.1 36 i = iI v) := by
  obtain ⟨S1, w, e, o, e2, e3⟩ := h.2.2 S hS
  refine ⟨sI S1 36 i w, fun K => ?_, fun K => ?_, o.fd.tr FD.s36, e2.s36, fun j hj => ?_, fun hb => ?_⟩
  · rw [e]
    show (wI S1 36 x w).bind K = _
    rw [wI_ok hx rfl (by rw [al36]; exact hi) (by omega), Option.bind_some]
  · rw [e]
    show (wI S1 36 x w).bind K = _
    rw [wI_ok hx rfl (by rw [al36]; exact hi) (by omega), Option.bind_some]
  · rw [sI_nj hj, o.1 36 (by decide)]
  · rw [sI_eq]; exact e3 hb
theorem readMile_eq (S : ST) (x : Int32) : f_X4_readMile S x = b2 (f_X4_number S 20 250) fun w S1 => (wI S1 23 (x + 0) w).bind fun S1 => b2 (exC 119 S1) fun _ S2 => b2 (f_X4_number S2 10 99) fun w S3 => (wI S3 23 (x + 1) w).bind fun S3 => b2 (opC 115 9 f_X4_digit S3) fun w S4 => (wI S4 23 (x + 2) w).bind fun S4 => b2 (opC 109 0 (fun S => f_X4_number S 0 20) S4) fun w S5 => (wI S5 23 (x + 3) w).bind fun S5 => b2 (opC 113 0 (fun S => f_X4_number S 0 40) S5) fun w S6 => (wI S6 23 (x + 4) w).bind fun S6 => (wI S6 23 (x + 5) 8).bind fun S2 => some S2 := by
  simp only [f_X4_readMile, f_X4_readMile_57, f_X4_readMile_83, f_X4_readMile_109, mk_0, mk_1, mk_3, mk_4, b2_opC, b2_exC]
theorem mileClause_eq (S : ST) (x : Int32) : f_X8_mileClause S x = b2 (f_X8_number S 20 250) fun w S1 => (wI S1 36 x w).bind fun S1 => b2 (exM 119 S1) fun _ S2 => b2 (f_X8_number S2 10 99) fun w S3 => (wI S3 36 (x + 1) w).bind fun S3 => b2 (opM 115 9 f_X8_digit S3) fun w S4 => (wI S4 36 (x + 2) w).bind fun S4 => b2 (opM 109 0 (fun S => f_X8_number S 0 20) S4) fun w S5 => (wI S5 36 (x + 3) w).bind fun S5 => b2 (opM 113 0 (fun S => f_X8_number S 0 40) S5) fun w S6 => (wI S6 36 (x + 4) w).bind fun S6 => some S6 := by
  simp only [f_X8_mileClause, f_X8_mileClause_30, f_X8_mileClause_74, f_X8_mileClause_102, f_X8_mileClause_130, b2_opM, b2_exM]
  congr 1
  funext w S1
  congr 1
  funext S1
  congr 1
  funext v S5
  by_cases h : v = 0
  · rw [if_pos h, if_pos h, bz_1, Option.bind_some]
  · rw [if_neg h, if_neg h, bz_0, Option.bind_some]
theorem ex_go {t : Nat} {c : Nat → Int} {f g : ST → Option (Int32 × ST)} {s s' : Nat × Bool} {v : Int} (h : TSt t c f g s s' v) {S : ST} (hS : Cs t c S s) : ∃ S', (∀ K : ST → Option ST, (b2 (f S) fun _ S2 => K S2) = K S') ∧ (∀ K : ST → Option (Int32 × ST), (b2 (f S) fun _ S2 => K S2) = K S') ∧ FA S S' ∧ Cs t c S' s' := by
  obtain ⟨S1, w, e, o, e2, e3⟩ := h.2.1 S hS
  exact ⟨S1, fun K => by rw [e]; rfl, fun K => by rw [e]; rfl, o, e2⟩
theorem ex_goM {t : Nat} {c : Nat → Int} {f g : ST → Option (Int32 × ST)} {s s' : Nat × Bool} {v : Int} (h : TSt t c f g s s' v) {S : ST} (hS : Ms t c S s) : ∃ S', (∀ K : ST → Option ST, (b2 (g S) fun _ S2 => K S2) = K S') ∧ (∀ K : ST → Option (Int32 × ST), (b2 (g S) fun _ S2 => K S2) = K S') ∧ FB S S' ∧ Ms t c S' s' := by
  obtain ⟨S1, w, e, o, e2, e3⟩ := h.2.2 S hS
  exact ⟨S1, fun K => by rw [e]; rfl, fun K => by rw [e]; rfl, o, e2⟩
theorem TSt.back {t : Nat} {c : Nat → Int} {f g : ST → Option (Int32 × ST)} {s s' : Nat × Bool} {v : Int} (h : TSt t c f g s s' v) (hb : s'.2 = false) : s.2 = false := by
  cases hq : s.2 with
  | false => rfl
  | true => rw [h.1 hq, hq] at hb; cases hb
def clv (m : Nat) (v1 v3 v4 v5 v6 : Int) (i : Nat) : Int := if i = 6 * m then v1 else if i = 6 * m + 1 then v3 else if i = 6 * m + 2 then v4 else if i = 6 * m + 3 then v5 else if i = 6 * m + 4 then v6 else 8
theorem clv_0 {m : Nat} {v1 v3 v4 v5 v6 : Int} : clv m v1 v3 v4 v5 v6 (6 * m) = v1 := if_pos rfl
theorem clv_1 {m : Nat} {v1 v3 v4 v5 v6 : Int} : clv m v1 v3 v4 v5 v6 (6 * m + 1) = v3 := by
  unfold clv; rw [if_neg (by omega), if_pos rfl]
theorem clv_2 {m : Nat} {v1 v3 v4 v5 v6 : Int} : clv m v1 v3 v4 v5 v6 (6 * m + 2) = v4 := by
  unfold clv; rw [if_neg (by omega), if_neg (by omega), if_pos rfl]
theorem clv_3 {m : Nat} {v1 v3 v4 v5 v6 : Int} : clv m v1 v3 v4 v5 v6 (6 * m + 3) = v5 := by
  unfold clv; rw [if_neg (by omega), if_neg (by omega), if_neg (by omega), if_pos rfl]
theorem clv_4 {m : Nat} {v1 v3 v4 v5 v6 : Int} : clv m v1 v3 v4 v5 v6 (6 * m + 4) = v6 := by
  unfold clv; rw [if_neg (by omega), if_neg (by omega), if_neg (by omega), if_neg (by omega), if_pos rfl]
theorem clv_5 {m : Nat} {v1 v3 v4 v5 v6 : Int} : clv m v1 v3 v4 v5 v6 (6 * m + 5) = 8 := by
  unfold clv; rw [if_neg (by omega), if_neg (by omega), if_neg (by omega), if_neg (by omega), if_neg (by omega)]
theorem mile2 {t : Nat} {c : Nat → Int} (hC : CT t c) (m : Nat) (hm : m < 8) (s : Nat × Bool) (hs : s.1 ≤ t) : ∃ (s' : Nat × Bool) (g : Nat → Int), s'.1 ≤ t ∧ (s.2 = true → s' = s) ∧ (s'.2 = false → MV0 g m ∧ g (6 * m + 5) = 8) ∧
    (∀ S, Cs t c S s → ∃ S', f_X4_readMile S (iI ((6 * m : Nat) : Int)) = some S' ∧ FC S S' ∧ Cs t c S' s' ∧ (∀ i, i < 6 * m → S'.1 23 i = S.1 23 i) ∧ (s'.2 = false → ∀ w, w < 6 → S'.1 23 (6 * m + w) = iI (g (6 * m + w)))) ∧
    (∀ T, Ms t c T s → ∃ T', f_X8_mileClause T (iI ((5 * m : Nat) : Int)) = some T' ∧ FD T T' ∧ Ms t c T' s' ∧ (∀ i, i < 5 * m → T'.1 36 i = T.1 36 i) ∧ (s'.2 = false → ∀ w, w < 5 → T'.1 36 (5 * m + w) = iI (g (6 * m + w)))) := by
  obtain ⟨s1, v1, p1, q1, r1⟩ := lift hC (b_number hC (x := 20) (y := 250) (lo := 20) (hi := 250) rfl rfl (by omega) (by omega) (by omega)) s hs
  obtain ⟨s2, v2, p2, q2, r2⟩ := lift hC (b_expect hC (x := 119) (k := 119) rfl (by omega)) s1 q1
  obtain ⟨s3, v3, p3, q3, r3⟩ := lift hC (b_number hC (x := 10) (y := 99) (lo := 10) (hi := 99) rfl rfl (by omega) (by omega) (by omega)) s2 q2
  obtain ⟨s4, v4, p4, q4, r4⟩ := st_opt hC (b_digit hC) (x := 115) (k := 115) (d := 9) rfl (by omega) (by omega) s3 q3
  obtain ⟨s5, v5, p5, q5, r5⟩ := st_opt hC (b_number hC (x := 0) (y := 20) (lo := 0) (hi := 20) rfl rfl (by omega) (by omega) (by omega)) (x := 109) (k := 109) (d := 0) rfl (by omega) (by omega) s4 q4
  obtain ⟨s6, v6, p6, q6, r6⟩ := st_opt hC (b_number hC (x := 0) (y := 40) (lo := 0) (hi := 40) rfl rfl (by omega) (by omega) (by omega)) (x := 113) (k := 113) (d := 0) rfl (by omega) (by omega) s5 q5
  have i6 : ∀ w : Nat, ∀ x : Int32, x = iI (w : Int) → iI ((6 * m : Nat) : Int) + x = iI ((6 * m + w : Nat) : Int) := fun w x hx => by rw [hx, iI_add]; rfl
  have i5 : ∀ w : Nat, ∀ x : Int32, x = iI (w : Int) → iI ((5 * m : Nat) : Int) + x = iI ((5 * m + w : Nat) : Int) := fun w x hx => by rw [hx, iI_add]; rfl
  refine ⟨s6, clv m v1 v3 v4 v5 v6, q6, fun h => ?_, fun hb => ?_, fun S hS => ?_, fun T hT => ?_⟩
  · have e1 := p1.1 h
    rw [e1] at p2
    have e2 := p2.1 h
    rw [e2] at p3
    have e3 := p3.1 h
    rw [e3] at p4
    have e4 := p4.1 h
    rw [e4] at p5
    have e5 := p5.1 h
    rw [e5] at p6
    exact p6.1 h
  · have h6 := r6 hb
    have h5 := r5 (p6.back hb)
    have h4 := r4 (p5.back (p6.back hb))
    have h3 := r3 (p4.back (p5.back (p6.back hb)))
    have h1 := r1 (p2.back (p3.back (p4.back (p5.back (p6.back hb)))))
    refine ⟨?_, clv_5⟩
    unfold MV0
    rw [clv_0, clv_1, clv_2, clv_3, clv_4, clv_5]
    omega
  · obtain ⟨S1, a1, -, b1, c1, d1, e1⟩ := st_w p1 (i := 6 * m) (x := iI ((6 * m : Nat) : Int) + 0) (i6 0 0 rfl) (by omega) hS
    obtain ⟨S2, a2, -, b2', c2⟩ := ex_go p2 c1
    obtain ⟨S3, a3, -, b3, c3, d3, e3⟩ := st_w p3 (i6 1 1 rfl) (by omega) c2
    obtain ⟨S4, a4, -, b4, c4, d4, e4⟩ := st_w p4 (i6 2 2 rfl) (by omega) c3
    obtain ⟨S5, a5, -, b5, c5, d5, e5⟩ := st_w p5 (i6 3 3 rfl) (by omega) c4
    obtain ⟨S6, a6, -, b6, c6, d6, e6⟩ := st_w p6 (i6 4 4 rfl) (by omega) c5
    refine ⟨sI S6 23 (6 * m + 5) 8, ?_, ((((((b1.tr b2'.fc).tr b3).tr b4).tr b5).tr b6).tr FC.s23), c6.s23, fun i hi => ?_, fun hb w hw => ?_⟩
    · rw [readMile_eq, a1, a2, a3]
      show b2 (opC 115 (iI 9) f_X4_digit S3) _ = _
      rw [a4]
      show b2 (opC 109 (iI 0) (fun S => f_X4_number S 0 20) S4) _ = _
      rw [a5]
      show b2 (opC 113 (iI 0) (fun S => f_X4_number S 0 40) S5) _ = _
      rw [a6, wI_ok (i6 5 5 rfl) rfl (by rw [al23]; omega) (by omega), Option.bind_some]
    · rw [sI_nj (by omega), d6 i (by omega), d5 i (by omega), d4 i (by omega), d3 i (by omega), b2'.1 23 (by decide), d1 i (by omega)]
    · have z5 := p6.back hb
      have z4 := p5.back z5
      have z3 := p4.back z4
      have z2 := p3.back z3
      have z1 := p2.back z2
      have hw' : w = 0 ∨ w = 1 ∨ w = 2 ∨ w = 3 ∨ w = 4 ∨ w = 5 := by omega
      rcases hw' with rfl | rfl | rfl | rfl | rfl | rfl
      · rw [sI_nj (by omega), d6 _ (by omega), d5 _ (by omega), d4 _ (by omega), d3 _ (by omega), b2'.1 23 (by decide), Nat.add_zero, clv_0]; exact e1 z1
      · rw [sI_nj (by omega), d6 _ (by omega), d5 _ (by omega), d4 _ (by omega), e3 z3, clv_1]
      · rw [sI_nj (by omega), d6 _ (by omega), d5 _ (by omega), e4 z4, clv_2]
      · rw [sI_nj (by omega), d6 _ (by omega), e5 z5, clv_3]
      · rw [sI_nj (by omega), e6 hb, clv_4]
      · rw [sI_eq, clv_5]; rfl
  · obtain ⟨S1, a1, -, b1, c1, d1, e1⟩ := st_wM p1 (i := 5 * m) (x := iI ((5 * m : Nat) : Int)) rfl (by omega) hT
    obtain ⟨S2, a2, -, b2', c2⟩ := ex_goM p2 c1
    obtain ⟨S3, a3, -, b3, c3, d3, e3⟩ := st_wM p3 (i5 1 1 rfl) (by omega) c2
    obtain ⟨S4, a4, -, b4, c4, d4, e4⟩ := st_wM p4 (i5 2 2 rfl) (by omega) c3
    obtain ⟨S5, a5, -, b5, c5, d5, e5⟩ := st_wM p5 (i5 3 3 rfl) (by omega) c4
    obtain ⟨S6, a6, -, b6, c6, d6, e6⟩ := st_wM p6 (i5 4 4 rfl) (by omega) c5
    refine ⟨S6, ?_, (((((b1.tr b2'.fd).tr b3).tr b4).tr b5).tr b6), c6, fun i hi => ?_, fun hb w hw => ?_⟩
    · rw [mileClause_eq, a1, a2, a3]
      show b2 (opM 115 (iI 9) f_X8_digit S3) _ = _
      rw [a4]
      show b2 (opM 109 (iI 0) (fun S => f_X8_number S 0 20) S4) _ = _
      rw [a5]
      show b2 (opM 113 (iI 0) (fun S => f_X8_number S 0 40) S5) _ = _
      rw [a6]
    · rw [d6 i (by omega), d5 i (by omega), d4 i (by omega), d3 i (by omega), b2'.1 36 (by decide), d1 i (by omega)]
    · have z5 := p6.back hb
      have z4 := p5.back z5
      have z3 := p4.back z4
      have z2 := p3.back z3
      have z1 := p2.back z2
      have hw' : w = 0 ∨ w = 1 ∨ w = 2 ∨ w = 3 ∨ w = 4 := by omega
      rcases hw' with rfl | rfl | rfl | rfl | rfl
      · rw [d6 _ (by omega), d5 _ (by omega), d4 _ (by omega), d3 _ (by omega), b2'.1 36 (by decide), Nat.add_zero, Nat.add_zero, clv_0]; exact e1 z1
      · rw [d6 _ (by omega), d5 _ (by omega), d4 _ (by omega), e3 z3, clv_1]
      · rw [d6 _ (by omega), d5 _ (by omega), e4 z4, clv_2]
      · rw [d6 _ (by omega), e5 z5, clv_3]
      · rw [e6 hb, clv_4]
