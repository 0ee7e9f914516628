/-! ===== tides ===== -/
def gmx (g : Nat → Int) : Nat → Nat → Int → Int
  | 0, _, m => m
  | k + 1, h, m => gmx g k (h + 1) (max m (g h))
theorem gmx_cg {f g : Nat → Int} : ∀ (k h : Nat) (m : Int), (∀ i, h ≤ i → i < h + k → f i = g i) → gmx f k h m = gmx g k h m := by
  intro k
  induction k with
  | zero => intro h m _; rfl
  | succ k ih =>
    intro h m e
    show gmx f k (h + 1) (max m (f h)) = gmx g k (h + 1) (max m (g h))
    rw [e h (Nat.le_refl h) (by omega), ih (h + 1) _ (fun i h1 h2 => e i (by omega) (by omega))]
theorem gmx_rg {g : Nat → Int} : ∀ (k h : Nat) (m : Int), (∀ i, h ≤ i → i < h + k → 0 ≤ g i ∧ g i ≤ 99) → (0 ≤ m ∧ m ≤ 99) → 0 ≤ gmx g k h m ∧ gmx g k h m ≤ 99 := by
  intro k
  induction k with
  | zero => intro h m _ hm; exact hm
  | succ k ih =>
    intro h m e hm
    have := e h (Nat.le_refl h) (by omega)
    exact ih (h + 1) _ (fun i h1 h2 => e i (by omega) (by omega)) (by omega)
def tdR (n : Nat) (x : Int32) (T : ST) : Option (Int32 × ST) := b2 (f_X8_number T 0 99) fun v2 S3 => (wI S3 36 x v2).bind fun S4 => f_X8_tides_12 n S4 (x + 1)
def tdE (S : ST) : Option (Int32 × ST) := if (S.1 30 9) = 0 then (b2 (f_X8_here S) fun v1 S2 => if v1 = 0 then (f_X8_tides_86 S2 0) else (f_X8_tides_81 S2)) else (f_X8_tides_81 S)
theorem tdM_0 (n : Nat) (S : ST) (x : Int32) (h : 24 ≤ x) : f_X8_tides_12 (n + 1) S x = tdE S := by
  rw [f_X8_tides_12, if_pos h]
  rfl
theorem t44 (n : Nat) (S : ST) (x y : Int32) (hy : y = 0 ∨ y = 1) : f_X8_tides_44 (f_X8_tides_12 n) S x y = tdR n x (sI S 30 9 y) := by
  unfold f_X8_tides_44
  rw [bz, if_pos hy, Option.bind_some]
  rfl
theorem tdM_no (n : Nat) (S : ST) (x : Int32) (h : ¬ 24 ≤ x) (h0 : x ≤ 0) : f_X8_tides_12 (n + 1) S x = b2 (noM S) fun _ S1 => tdR n x S1 := by
  rw [f_X8_tides_12, if_neg h, if_pos h0]
  unfold noM f_X8_tides_43 f_X8_tides_39
  rw [t44 n S x 0 (Or.inl rfl), t44 n S x 1 (Or.inr rfl)]
  by_cases hz : S.1 30 9 = 0
  · rw [if_pos hz, if_pos hz]; rfl
  · rw [if_neg hz, if_neg hz]; rfl
theorem tdM_ex (n : Nat) (S : ST) (x : Int32) (h : ¬ 24 ≤ x) (h0 : ¬ x ≤ 0) : f_X8_tides_12 (n + 1) S x = b2 (exN 44 S) fun _ S1 => tdR n x S1 := by
  rw [f_X8_tides_12, if_neg h, if_neg h0]
  unfold exN f_X8_tides_43 f_X8_tides_39
  by_cases hz : S.1 30 9 = 0
  · rw [if_pos hz, if_pos hz]
    unfold exM
    cases f_X8_has S 44 with
    | none => rfl
    | some q =>
      show (if q.1 = 0 then f_X8_tides_44 (f_X8_tides_12 n) q.2 x 1 else f_X8_tides_44 (f_X8_tides_12 n) q.2 x 0) = tdR n x (sI q.2 30 9 (if q.1 = 0 then 1 else 0))
      rw [t44 n q.2 x 0 (Or.inl rfl), t44 n q.2 x 1 (Or.inr rfl)]
      by_cases hq : q.1 = 0
      · rw [if_pos hq, if_pos hq]
      · rw [if_neg hq, if_neg hq]
  · rw [if_neg hz, if_neg hz, t44 n S x 1 (Or.inr rfl)]; rfl
theorem c86 (S : ST) (y : Int32) (hy : y = 0 ∨ y = 1) : f_X8_tides_86 S y = if y = 0 then f_X8_tides_113 FU (sI (sI S 30 9 y) 30 7 0) 0 0 else some ((-20) - S.1 30 8, sI (sI S 30 9 y) 30 7 0) := by
  unfold f_X8_tides_86
  rw [bz, if_pos hy, Option.bind_some, sI_nj (show 9 ≠ 7 by decide), sI_eq, sI_nj (show 8 ≠ 7 by decide), sI_nj (show 8 ≠ 9 by decide)]
theorem endT {t : Nat} {c : Nat → Int} {s' : Nat × Bool} {T T' : ST} {w : Int32} (e : enM T = some (w, T')) (o : FB T T') (hM : Ms t c T' s') : ∃ T2, (tdE T = if s'.2 = true then some (iI (-20 - (s'.1 : Int)), T2) else f_X8_tides_113 FU T2 0 0) ∧ FY T T2 ∧ T2.1 36 = T.1 36 := by
  have key : ∃ y, ∃ U : ST, (y = 0 ∨ y = 1) ∧ T' = sI U 30 9 y ∧ tdE T = f_X8_tides_86 U y := by
    unfold enM at e
    unfold tdE
    by_cases h : T.1 30 9 = 0
    · rw [if_pos h] at e
      cases hh : f_X8_here T with
      | none => rw [hh] at e; cases e
      | some q =>
        rw [hh] at e
        have e2 : some ((0 : Int32), sI q.2 30 9 (if q.1 = 0 then 0 else 1)) = some (w, T') := e
        have e3 : sI q.2 30 9 (if q.1 = 0 then 0 else 1) = T' := congrArg Prod.snd (Option.some.inj e2)
        refine ⟨if q.1 = 0 then 0 else 1, q.2, by split <;> simp, e3.symm, ?_⟩
        rw [if_pos h]
        show (if q.1 = 0 then f_X8_tides_86 q.2 0 else f_X8_tides_81 q.2) = _
        by_cases h2 : q.1 = 0
        · rw [if_pos h2, if_pos h2]
        · rw [if_neg h2, if_neg h2]; rfl
    · rw [if_neg h] at e
      have e3 : sI T 30 9 1 = T' := congrArg Prod.snd (Option.some.inj e)
      exact ⟨1, T, Or.inr rfl, e3.symm, by rw [if_neg h]; rfl⟩
  obtain ⟨y, U, hy, hU, hE⟩ := key
  have h9 : T'.1 30 9 = y := by rw [hU, sI_eq]
  have h8 : T'.1 30 8 = U.1 30 8 := by rw [hU, sI_nj (by decide)]
  refine ⟨sI T' 30 7 0, ?_, ⟨fun a ha hb => ?_, fun i h7 h8 h9 => ?_, sI_eq, o.2.2⟩, ?_⟩
  · rw [hE, c86 U y hy, ← hU, ← h8, ← h9]
    obtain ⟨m1, m2⟩ := hM
    rcases m2 with ⟨m3, m4⟩ | ⟨m3, m4⟩
    · rw [if_pos m4, if_neg (by rw [m3]; decide)]
    · rw [if_neg (by rw [m4]; decide), if_pos m3, m1.2.1, show (-20 : Int32) = iI (-20) from rfl, iI_sub]
  · rw [sI_o ha]; exact o.1 a ha
  · rw [sI_nj h7]; exact o.2.1 i h8 h9
  · rw [sI_o (by decide)]; exact o.1 36 (by decide)
theorem max_any (x y : Int32) : ∃ z, f_J9_max_7cf53 x y = some z := by
  unfold f_J9_max_7cf53
  split
  · exact ⟨_, rfl⟩
  · exact ⟨_, rfl⟩
theorem tide2 {t : Nat} {c : Nat → Int} (hC : CT t c) : ∀ (k h : Nat) (s : Nat × Bool), h + k = 24 → s.1 ≤ t → ∃ (s' : Nat × Bool) (g : Nat → Int), s'.1 ≤ t ∧ (s'.2 = false → ∀ i, h ≤ i → i < 24 → 0 ≤ g i ∧ g i ≤ 99) ∧
    (∀ n S mx, k < n → Cs t c S s → ∃ S' r, f_X4_readTide_8 n S mx (iI (h : Int)) = some (ansV s' r, S') ∧ FZ S S' ∧ (s'.2 = false → (∀ i, i < h → S'.1 23 i = S.1 23 i) ∧ (∀ i, h ≤ i → i < 24 → S'.1 23 i = iI (g i)) ∧ ∀ m : Int, (0 ≤ m ∧ m ≤ 99) → mx = iI m → r = iI (gmx g k h m))) ∧
    (∀ n T, k < n → Ms t c T s → ∃ T', f_X8_tides_12 n T (iI (h : Int)) = (if s'.2 = true then some (iI (-20 - (s'.1 : Int)), T') else f_X8_tides_113 FU T' 0 0) ∧ FY T T' ∧ (s'.2 = false → (∀ i, i < h → T'.1 36 i = T.1 36 i) ∧ ∀ i, h ≤ i → i < 24 → T'.1 36 i = iI (g i))) ∧ (s'.2 = false → s.2 = false) := by
  intro k
  induction k with
  | zero =>
    intro h s hk hs
    obtain ⟨s', f1, f2, f3, f4⟩ := fin2 hC s hs
    refine ⟨s', fun _ => 0, f1, fun _ i h1 h2 => by omega, fun n S mx hn hS => ?_, fun n T hn hT => ?_, fun hb => ?_⟩
    · obtain ⟨n, rfl⟩ : ∃ n', n = n' + 1 := ⟨n - 1, by omega⟩
      obtain ⟨S', e, o, o2⟩ := f3 S mx hS
      refine ⟨S', mx, ?_, o, fun _ => ⟨fun i _ => by rw [o2], fun i h1 h2 => by omega, fun m _ hm => hm⟩⟩
      rw [f_X4_readTide_8, i_le (x := 24) (a := 24) (b := (h : Int)) rfl rfl (by omega) (by omega), if_pos (by omega), e]
      rfl
    · obtain ⟨n, rfl⟩ : ∃ n', n = n' + 1 := ⟨n - 1, by omega⟩
      obtain ⟨T1, w, e, o, c1⟩ := f4 T hT
      obtain ⟨T2, e2, o2, o3⟩ := endT e o c1
      refine ⟨T2, ?_, o2, fun _ => ⟨fun i _ => by rw [o3], fun i h1 h2 => by omega⟩⟩
      rw [tdM_0 n T _ ((c_le (x := 24) (a := 24) (b := (h : Int)) rfl rfl (by omega) (by omega)).mpr (by omega)), e2]
    · cases hq : s.2 with
      | false => rfl
      | true => rw [f2 hq, hq] at hb; cases hb
  | succ k ih =>
    intro h s hk hs
    have step : ∃ (f g : ST → Option (Int32 × ST)) (s1 : Nat × Bool) (v1 : Int), TSt t c f g s s1 v1 ∧ s1.1 ≤ t ∧ (∀ n S mx, f_X4_readTide_8 (n + 1) S mx (iI (h : Int)) = b2 (f S) fun _ S1 => f_X4_readTide_24 (f_X4_readTide_8 n) S1 mx (iI (h : Int))) ∧ ∀ n T, f_X8_tides_12 (n + 1) T (iI (h : Int)) = b2 (g T) fun _ S1 => tdR n (iI (h : Int)) S1 := by
      by_cases h0 : h = 0
      · obtain ⟨s1, v1, p1, q1, -⟩ := lift hC (b_no (t := t) (c := c)) s hs
        refine ⟨_, _, s1, v1, p1, q1, fun n S mx => ?_, fun n T => ?_⟩
        · rw [f_X4_readTide_8, i_le (x := 24) (a := 24) (b := (h : Int)) rfl rfl (by omega) (by omega), if_neg (by omega), i_le (y := 0) (a := (h : Int)) (b := 0) rfl rfl (by omega) (by omega), if_pos (by omega)]
          rfl
        · exact tdM_no n T _ (fun q => by have := (c_le (x := 24) (a := 24) (b := (h : Int)) rfl rfl (by omega) (by omega)).mp q; omega) ((c_le (y := 0) (a := (h : Int)) (b := 0) rfl rfl (by omega) (by omega)).mpr (by omega))
      · obtain ⟨s1, v1, p1, q1, -⟩ := lift hC (b_expectN hC (x := 44) (k := 44) rfl (by omega)) s hs
        refine ⟨_, _, s1, v1, p1, q1, fun n S mx => ?_, fun n T => ?_⟩
        · rw [f_X4_readTide_8, i_le (x := 24) (a := 24) (b := (h : Int)) rfl rfl (by omega) (by omega), if_neg (by omega), i_le (y := 0) (a := (h : Int)) (b := 0) rfl rfl (by omega) (by omega), if_neg (by omega), b2_exC]
        · exact tdM_ex n T _ (fun q => by have := (c_le (x := 24) (a := 24) (b := (h : Int)) rfl rfl (by omega) (by omega)).mp q; omega) (fun q => by have := (c_le (y := 0) (a := (h : Int)) (b := 0) rfl rfl (by omega) (by omega)).mp q; omega)
    obtain ⟨f, g, s1, v1, p1, q1, x1, x2⟩ := step
    obtain ⟨s2, v2, p2, q2, r2⟩ := lift hC (b_number hC (x := 0) (y := 99) (lo := 0) (hi := 99) rfl rfl (by omega) (by omega) (by omega)) s1 q1
    obtain ⟨s', g2, f1, f2, f3, f4, f5⟩ := ih (h + 1) s2 (by omega) q2
    refine ⟨s', fun i => if i = h then v2 else g2 i, f1, fun hb i h1 h2 => ?_, fun n S mx hn hS => ?_, fun n T hn hT => ?_, fun hb => p1.back (p2.back (f5 hb))⟩
    · show 0 ≤ (if i = h then v2 else g2 i) ∧ (if i = h then v2 else g2 i) ≤ 99
      by_cases hi : i = h
      · rw [if_pos hi]; exact r2 (f5 hb)
      · rw [if_neg hi]; exact f2 hb i (by omega) h2
    · obtain ⟨n, rfl⟩ : ∃ n', n = n' + 1 := ⟨n - 1, by omega⟩
      obtain ⟨S1, -, a1, b1, c1⟩ := ex_go p1 hS
      obtain ⟨S2, -, a2, b2', c2, d2, d3⟩ := st_w p2 (x := iI (h : Int)) rfl (by omega) c1
      obtain ⟨z, hz⟩ := max_any mx (S2.1 23 h)
      obtain ⟨S3, r, e3, o3, k3⟩ := f3 n S2 z (by omega) c2
      refine ⟨S3, r, ?_, (b1.fc.tr b2').fz o3, fun hb => ?_⟩
      · rw [x1, a1]
        unfold f_X4_readTide_24
        rw [a2, rI_ok (x := iI (h : Int)) (n := h) rfl rfl (by rw [al23]; omega) (by omega), Option.bind_some, hz, Option.bind_some, i_next, e3]
      · obtain ⟨l1, l2, l3⟩ := k3 hb
        refine ⟨fun i hi => ?_, fun i h1 h2 => ?_, fun m hm hx => ?_⟩
        · rw [l1 i (by omega), d2 i (by omega), b1.1 23 (by decide)]
        · show _ = iI (if i = h then v2 else g2 i)
          by_cases hi : i = h
          · rw [if_pos hi, l1 i (by omega), hi]; exact d3 (f5 hb)
          · rw [if_neg hi]; exact l2 i (by omega) h2
        · have hv := r2 (f5 hb)
          have e9 := hz
          rw [d3 (f5 hb), e_max hx rfl (by omega) (by omega)] at e9
          have e10 : z = iI (max m v2) := (Option.some.inj e9).symm
          rw [l3 (max m v2) (by omega) e10]
          show _ = iI (gmx _ k (h + 1) (max m (if h = h then v2 else g2 h)))
          rw [if_pos rfl]
          congr 1
          exact (gmx_cg k (h + 1) _ (fun i h1 h2 => if_neg (by omega))).symm
    · obtain ⟨n, rfl⟩ : ∃ n', n = n' + 1 := ⟨n - 1, by omega⟩
      obtain ⟨S1, -, a1, b1, c1⟩ := ex_goM p1 hT
      obtain ⟨S2, -, a2, b2', c2, d2, d3⟩ := st_wM p2 (x := iI (h : Int)) rfl (by omega) c1
      obtain ⟨S3, e3, o3, k3⟩ := f4 n S2 (by omega) c2
      refine ⟨S3, ?_, (b1.fd.tr b2').fy o3, fun hb => ?_⟩
      · rw [x2, a1]
        unfold tdR
        rw [a2, i_next, e3]
      · obtain ⟨l1, l2⟩ := k3 hb
        refine ⟨fun i hi => ?_, fun i h1 h2 => ?_⟩
        · rw [l1 i (by omega), d2 i (by omega), b1.1 36 (by decide)]
        · show _ = iI (if i = h then v2 else g2 i)
          by_cases hi : i = h
          · rw [if_pos hi, l1 i (by omega), hi]; exact d3 (f5 hb)
          · rw [if_neg hi]; exact l2 i (by omega) h2
theorem t113 {g : Nat → Int} (hg : ∀ i, i < 24 → 0 ≤ g i ∧ g i ≤ 99) : ∀ (k j n : Nat) (T : ST) (m : Int), j + k = 24 → k < n → (0 ≤ m ∧ m ≤ 99) → (∀ i, i < 24 → T.1 36 i = iI (g i)) → ∃ T', f_X8_tides_113 n T (iI m) (iI (j : Int)) = some (iI (gmx g k j m), T') ∧ (∀ a, a ≠ 32 → T'.1 a = T.1 a) ∧ T'.2 = T.2 ∧ (∀ i, i < j → T'.1 32 i = T.1 32 i) ∧ ∀ i, j ≤ i → i < 24 → T'.1 32 i = iI (g i) := by
  intro k
  induction k with
  | zero =>
    intro j n T m hj hn hm hT
    obtain ⟨n, rfl⟩ : ∃ n', n = n' + 1 := ⟨n - 1, by omega⟩
    rw [f_X8_tides_113, i_le (x := 24) (a := 24) (b := (j : Int)) rfl rfl (by omega) (by omega), if_pos (by omega)]
    exact ⟨T, rfl, fun _ _ => rfl, rfl, fun _ _ => rfl, fun i h1 h2 => by omega⟩
  | succ k ih =>
    intro j n T m hj hn hm hT
    obtain ⟨n, rfl⟩ : ∃ n', n = n' + 1 := ⟨n - 1, by omega⟩
    have gj := hg j (by omega)
    obtain ⟨T', e, o1, o2, o3, o4⟩ := ih (j + 1) n (sI T 32 j (iI (g j))) (max m (g j)) (by omega) (by omega) (by omega) (fun i hi => by rw [sI_ne (by decide)]; exact hT i hi)
    refine ⟨T', ?_, fun a ha => (o1 a ha).trans (sI_o ha), o2, fun i hi => by rw [o3 i (by omega), sI_nj (by omega)], fun i h1 h2 => ?_⟩
    · have r1 : rI T 0 36 (iI (j : Int)) = some (iI (g j)) := by rw [rI_ok (x := iI (j : Int)) (n := j) rfl rfl (by rw [al36]; omega) (by omega), hT j (by omega)]
      have r2 : rI (sI T 32 j (iI (g j))) 0 36 (iI (j : Int)) = some (iI (g j)) := by rw [rI_ok (x := iI (j : Int)) (n := j) rfl rfl (by rw [al36]; omega) (by omega), sI_ne (by decide), hT j (by omega)]
      rw [f_X8_tides_113, i_le (x := 24) (a := 24) (b := (j : Int)) rfl rfl (by omega) (by omega), if_neg (by omega), r1, Option.bind_some, wI_ok (k := 32) (x := iI (j : Int)) (n := j) rfl rfl (show j < 24 by omega) (by omega), Option.bind_some, r2, Option.bind_some, Option.bind_some, i_le (x := iI (g j)) (y := iI m) rfl rfl (by omega) (by omega)]
      unfold f_X8_tides_151
      rw [i_next]
      show _ = some (iI (gmx g k (j + 1) (max m (g j))), T')
      rw [← e]
      by_cases h : g j ≤ m
      · rw [if_pos h, Int.max_eq_left h]
      · rw [if_neg h, Int.max_eq_right (by omega)]
    · by_cases hi : i = j
      · rw [o3 i (by omega), hi, sI_eq]
      · exact o4 i (by omega) h2
theorem ok_tides : Pr Inv (fun S => f_X7_tides S) (fun S => f_X8_tides S) := by
  intro S hI
  obtain ⟨⟨A, hV, hR, hM⟩, hIP, ⟨t, c, t1, t2, t3, t4⟩, hSh, hF⟩ := id hI
  have hC : CT t c := ⟨t1, fun i hi => (t4 i hi).1⟩
  obtain ⟨s', g, q, hg, hc, hm, -⟩ := tide2 hC 24 0 (0, false) rfl (Nat.zero_le t)
  obtain ⟨S1, r, e1, o1, k1⟩ := hc FU _ 0 (by show 24 < 20000; omega) (cs0 t2 (fun i hi => (t4 i hi).2.1))
  have o1 := fc0 o1
  have eC : f_X4_readTide S = some (ansV s' r, S1) := by
    have e1' : f_X4_readTide_8 FU (sI (sI S 22 3 0) 22 4 0) 0 0 = some (ansV s' r, S1) := e1
    rw [f_X4_readTide, f_X4_rewind, Option.bind_some, e1']
  show ∃ r S1 S2, f_X7_tides S = some (r, S1) ∧ f_X8_tides S1 = some (r, S2) ∧ Inv S2
  unfold f_X7_tides
  rw [eC]
  cases hb : s'.2 with
  | true =>
    have eA : ansV s' r = iI (-20 - (s'.1 : Int)) := if_pos hb
    rw [eA]
    obtain ⟨T1, e2, o2, -⟩ := hm FU _ (by show 24 < 20000; omega) (ms0 (S := S1) (t := t) (c := c) (by rw [o1.1 30 (by decide) (by decide)]; exact t3) (fun i hi => by rw [o1.1 35 (by decide) (by decide)]; exact (t4 i hi).2.2))
    have o2 := fy0 o2
    refine ⟨iI (-20 - (s'.1 : Int)), S1, T1, ?_, ?_, ?_⟩
    · show (if iI (-20 - (s'.1 : Int)) < 0 then some (iI (-20 - (s'.1 : Int)), S1) else (cpy S1 23 0 2 0 24).bind fun S3 => some (iI (-20 - (s'.1 : Int)), S3)) = _
      rw [i_lt (x := iI (-20 - (s'.1 : Int))) (y := 0) (b := 0) rfl rfl (by omega) (by omega), if_pos (by omega)]
    · unfold f_X8_tides
      rw [show f_X8_tides_12 FU (sI (sI S1 30 8 0) 30 9 0) 0 = _ from e2, if_pos hb]
    · refine hI.tape (A := A) ⟨hV, hR.of ?_ ?_ ?_ ?_ ?_ ?_, hM.of ?_ ?_ ?_ ?_ ?_ ?_⟩ (fun k hk => ?_) ?_ ?_ o2.2.2.1 (o2.2.2.2.trans o1.2.2)
      · rw [o2.1 1 (by decide) (by decide), o1.1 1 (by decide) (by decide)]
      · rw [o2.1 1 (by decide) (by decide), o1.1 1 (by decide) (by decide)]
      · rw [o2.1 2 (by decide) (by decide), o1.1 2 (by decide) (by decide)]
      · rw [o2.1 3 (by decide) (by decide), o1.1 3 (by decide) (by decide)]
      · rw [o2.1 4 (by decide) (by decide), o1.1 4 (by decide) (by decide)]
      · rw [o2.1 5 (by decide) (by decide), o1.1 5 (by decide) (by decide)]
      · rw [o2.2.1 0 (by decide) (by decide) (by decide), o1.1 30 (by decide) (by decide)]
      · rw [o2.2.1 4 (by decide) (by decide) (by decide), o1.1 30 (by decide) (by decide)]
      · rw [o2.1 32 (by decide) (by decide), o1.1 32 (by decide) (by decide)]
      · rw [o2.1 33 (by decide) (by decide), o1.1 33 (by decide) (by decide)]
      · rw [o2.1 31 (by decide) (by decide), o1.1 31 (by decide) (by decide)]
      · rw [o2.1 34 (by decide) (by decide), o1.1 34 (by decide) (by decide)]
      · rw [o2.1 k (by omega) (by omega), o1.1 k (by omega) (by omega)]
      · rw [o2.2.1 24 (by decide) (by decide) (by decide), o1.1 30 (by decide) (by decide)]
      · rw [o2.1 22 (by decide) (by decide)]; exact o1.2.1
  | false =>
    obtain ⟨-, k2, k5⟩ := k1 hb
    have hg' := hg hb
    have er := k5 0 (by omega) rfl
    have eA : ansV s' r = iI (gmx g 24 0 0) := by rw [← er]; exact if_neg (by rw [hb]; decide)
    have hgm := gmx_rg (g := g) 24 0 0 (fun i h1 h2 => hg' i h1 (by omega)) (by omega)
    rw [eA]
    generalize hS2 : cpyS S1 23 2 0 0 24 = S2
    have p1 : ∀ a, a ≠ 2 → S2.1 a = S1.1 a := fun a h2 => by rw [← hS2, cp0_o h2]
    have p4 : ∀ i, i < 24 → S2.1 2 i = iI (g i) := fun i hi => by rw [← hS2, cp0_at hi]; exact k2 i (by omega) hi
    have p5 : S2.2 = S1.2 := by rw [← hS2]; rfl
    obtain ⟨T1, e2, o2, k3⟩ := hm FU _ (by show 24 < 20000; omega) (ms0 (S := S2) (t := t) (c := c) (by rw [p1 30 (by decide), o1.1 30 (by decide) (by decide)]; exact t3) (fun i hi => by rw [p1 35 (by decide), o1.1 35 (by decide) (by decide)]; exact (t4 i hi).2.2))
    have o2 := fy0 o2
    obtain ⟨-, k4⟩ := k3 hb
    obtain ⟨T2, e3, l1, l2, -, l4⟩ := t113 (fun i hi => hg' i (by omega) hi) 24 0 FU T1 0 (by omega) (by show 24 < 20000; omega) (by omega) (fun i hi => k4 i (by omega) hi)
    refine ⟨iI (gmx g 24 0 0), S2, T2, ?_, ?_, ?_⟩
    · show (if iI (gmx g 24 0 0) < 0 then some (iI (gmx g 24 0 0), S1) else (cpy S1 23 0 2 0 24).bind fun S3 => some (iI (gmx g 24 0 0), S3)) = _
      rw [i_lt (x := iI (gmx g 24 0 0)) (y := 0) (b := 0) rfl rfl (by omega) (by omega), if_neg (by omega), cpyN (a := 23) (b := 2) (n := 24) (x := 24) rfl (by rw [al23]; omega) (show 24 ≤ 24 by omega) (by omega) (by omega), Option.bind_some, hS2]
    · unfold f_X8_tides
      rw [show f_X8_tides_12 FU (sI (sI S2 30 8 0) 30 9 0) 0 = _ from e2, if_neg (by rw [hb]; decide)]
      exact e3
    · refine hI.tape (A := (A.1, mk A, g, se A, hu A)) ⟨⟨hV.1, hV.2.1, fun i hi => hg' i (by omega) hi, hV.2.2.2.1, hV.2.2.2.2⟩, ⟨⟨?_, ?_⟩, fun i hi => ?_, fun i hi => ?_, fun i hi => ?_, fun i hi => ?_⟩, ⟨⟨?_, ?_⟩, fun i hi => ?_, fun i hi => ?_, fun i hi => ?_, fun i hi => ?_⟩⟩ (fun k hk => ?_) ?_ ?_ ?_ ?_
      · rw [l1 1 (by decide), o2.1 1 (by decide) (by decide), p1 1 (by decide), o1.1 1 (by decide) (by decide)]; exact hR.1.1
      · rw [l1 1 (by decide), o2.1 1 (by decide) (by decide), p1 1 (by decide), o1.1 1 (by decide) (by decide)]; exact hR.1.2
      · rw [l1 2 (by decide), o2.1 2 (by decide) (by decide)]; exact p4 i hi
      · rw [l1 3 (by decide), o2.1 3 (by decide) (by decide), p1 3 (by decide), o1.1 3 (by decide) (by decide)]; exact hR.2.2.1 i hi
      · rw [l1 4 (by decide), o2.1 4 (by decide) (by decide), p1 4 (by decide), o1.1 4 (by decide) (by decide)]; exact hR.2.2.2.1 i hi
      · rw [l1 5 (by decide), o2.1 5 (by decide) (by decide), p1 5 (by decide), o1.1 5 (by decide) (by decide)]; exact hR.2.2.2.2 i hi
      · rw [l1 30 (by decide), o2.2.1 0 (by decide) (by decide) (by decide), p1 30 (by decide), o1.1 30 (by decide) (by decide)]; exact hM.1.1
      · rw [l1 30 (by decide), o2.2.1 4 (by decide) (by decide) (by decide), p1 30 (by decide), o1.1 30 (by decide) (by decide)]; exact hM.1.2
      · exact l4 i (by omega) hi
      · rw [l1 33 (by decide), o2.1 33 (by decide) (by decide), p1 33 (by decide), o1.1 33 (by decide) (by decide)]; exact hM.2.2.1 i hi
      · rw [l1 31 (by decide), o2.1 31 (by decide) (by decide), p1 31 (by decide), o1.1 31 (by decide) (by decide)]; exact hM.2.2.2.1 i hi
      · rw [l1 34 (by decide), o2.1 34 (by decide) (by decide), p1 34 (by decide), o1.1 34 (by decide) (by decide)]; exact hM.2.2.2.2 i hi
      · rw [l1 k (by omega), o2.1 k (by omega) (by omega), p1 k (by omega), o1.1 k (by omega) (by omega)]
      · rw [l1 30 (by decide), o2.2.1 24 (by decide) (by decide) (by decide), p1 30 (by decide), o1.1 30 (by decide) (by decide)]
      · rw [l1 22 (by decide), o2.1 22 (by decide) (by decide), p1 22 (by decide)]; exact o1.2.1
      · rw [l1 30 (by decide)]; exact o2.2.2.1
      · rw [l2, o2.2.2.2, p5, o1.2.2]
