/-! ===== the channel's text ===== -/
def ansV (s : Nat × Bool) (x : Int32) : Int32 := if s.2 = true then iI (-20 - (s.1 : Int)) else x
def FZ (S S' : ST) : Prop := (∀ a, a ≠ 22 → a ≠ 23 → S'.1 a = S.1 a) ∧ S'.1 22 2 = 0 ∧ S'.2 = S.2
def FY (S S' : ST) : Prop := (∀ a, a ≠ 30 → a ≠ 36 → S'.1 a = S.1 a) ∧ (∀ i, i ≠ 7 → i ≠ 8 → i ≠ 9 → S'.1 30 i = S.1 30 i) ∧ S'.1 30 7 = 0 ∧ S'.2 = S.2
theorem FC.fz {S S1 S2 : ST} (h : FC S S1) (g : FZ S1 S2) : FZ S S2 := ⟨fun a ha hb => (g.1 a ha hb).trans (h.1 a ha hb), g.2.1, g.2.2.trans h.2.2⟩
theorem FD.fy {S S1 S2 : ST} (h : FD S S1) (g : FY S1 S2) : FY S S2 := ⟨fun a ha hb => (g.1 a ha hb).trans (h.1 a ha hb), fun i h7 h8 h9 => (g.2.1 i h7 h8 h9).trans (h.2.1 i h8 h9), g.2.2.1, g.2.2.2.trans h.2.2⟩
theorem fin_eq (S : ST) (x : Int32) : f_X4_finish S x = b2 (enC S) fun _ S2 => f_X4_finish_23 S2 x := by
  unfold f_X4_finish enC
  cases f_X4_skipBlanks S with
  | none => rfl
  | some S1 =>
    show (if S1.1 22 2 ≤ S1.1 22 3 then f_X4_finish_23 S1 x else (f_X4_fail S1 (S1.1 22 3)).bind fun S2 => f_X4_finish_23 S2 x) = b2 (if S1.1 22 2 ≤ S1.1 22 3 then some (0, S1) else (f_X4_fail S1 (S1.1 22 3)).bind fun S2 => some (0, S2)) fun _ S2 => f_X4_finish_23 S2 x
    by_cases h : S1.1 22 2 ≤ S1.1 22 3
    · rw [if_pos h, if_pos h]; rfl
    · rw [if_neg h, if_neg h]
      cases f_X4_fail S1 (S1.1 22 3) with
      | none => rfl
      | some q => rfl
/-- the end of a text, on both sides -/
theorem fin2 {t : Nat} {c : Nat → Int} (hC : CT t c) (s : Nat × Bool) (hs : s.1 ≤ t) : ∃ s' : Nat × Bool, s'.1 ≤ t ∧ (s.2 = true → s' = s) ∧ (∀ S x, Cs t c S s → ∃ S', f_X4_finish S x = some (ansV s' x, S') ∧ FZ S S' ∧ S'.1 23 = S.1 23) ∧ ∀ T, Ms t c T s → ∃ T' w, enM T = some (w, T') ∧ FB T T' ∧ Ms t c T' s' := by
  have h100 := hC.1
  obtain ⟨s', v, p, q, -⟩ := lift hC (b_end hC) s hs
  refine ⟨s', q, p.1, fun S x hS => ?_, fun T hT => ?_⟩
  · obtain ⟨S1, w, e, o, e2, -⟩ := p.2.1 S hS
    refine ⟨sI S1 22 2 0, ?_, ⟨fun a ha hb => ?_, sI_eq, o.2.2⟩, ?_⟩
    · rw [fin_eq, e]
      show f_X4_finish_23 S1 x = _
      unfold f_X4_finish_23 ansV
      rw [sI_nj (show 4 ≠ 2 by decide)]
      obtain ⟨q', -, -, g⟩ := e2
      rcases g with ⟨g1, g2, -⟩ | ⟨g1, g2⟩
      · rw [if_pos g2, if_neg (by rw [g1]; decide)]
      · rw [if_neg (by rw [g2]; exact iI_ne0 (by omega) (by omega)), if_pos g1, g2]
    · rw [sI_o ha]; exact o.1 a ha
    · rw [sI_o (by decide)]; exact o.1 23 (by decide)
  · obtain ⟨T1, w, e, o, e2, -⟩ := p.2.2 T hT
    exact ⟨T1, w, e, o, e2⟩
theorem takes_good {t : Nat} {c : Nat → Int} (hC : CT t c) {x : Int32} {k : Int} (hx : x = iI k) (hk : 33 ≤ k ∧ k ≤ 126) (s : Nat × Bool) (hs : s.1 ≤ t) (hb : s.2 = false) : ∃ (s2 : Nat × Bool) (v : Int), s2.2 = false ∧ s2.1 ≤ t ∧ (v = 0 ∨ v = 1) ∧ (∀ S, Cs t c S s → ∃ S', f_X4_takes S x = some (iI v, S') ∧ FA S S' ∧ Cs t c S' s2) ∧ ∀ T, Ms t c T s → ∃ T', f_X8_has T x = some (iI v, T') ∧ FB T T' ∧ Ms t c T' s2 := by
  obtain ⟨q', v, g1, g2, g3, g4⟩ := takes_at hC hx hk s.1 hs
  refine ⟨(q', false), v, rfl, g1, g2, fun S hS => ?_, fun T hT => ?_⟩
  · obtain ⟨q, f1, -, f2⟩ := hS
    rcases f2 with ⟨-, f3, f4⟩ | ⟨f3, -⟩
    · rw [f4] at f1
      obtain ⟨S', e, o, r⟩ := g3 S f1
      exact ⟨S', e, o.fa, q', r, g1, Or.inl ⟨rfl, by rw [o.2.1 4 (by decide)]; exact f3, rfl⟩⟩
    · rw [hb] at f3; cases f3
  · obtain ⟨f1, f2⟩ := hT
    rcases f2 with ⟨-, f3⟩ | ⟨f3, -⟩
    · obtain ⟨T', e, o, r, z⟩ := g4 T f1 f3
      exact ⟨T', e, o, r, Or.inl ⟨rfl, z⟩⟩
    · rw [hb] at f3; cases f3
def chT (n : Nat) (S : ST) (x : Int32) : Option (Int32 × ST) := if 8 ≤ x then f_X4_readChannel_32 S x else b2 (f_X4_takes S 59) fun v2 S3 => if v2 = 0 then f_X4_readChannel_32 S3 x else f_X4_readChannel_6 n S3 x
theorem ch_eq (n : Nat) (S : ST) (x : Int32) : f_X4_readChannel_6 (n + 1) S x = (f_X4_readMile S (x * 6)).bind fun S1 => chT n S1 (x + 1) := rfl
theorem ch32 (S : ST) (x : Int32) : f_X4_readChannel_32 S x = f_X4_finish S x := by
  unfold f_X4_readChannel_32
  exact b2_id
theorem im6 {m : Nat} : iI (m : Int) * 6 = iI ((6 * m : Nat) : Int) := by
  rw [show (6 : Int32) = iI 6 from rfl, iI_mul]
  congr 1
  omega
theorem im5 {m : Nat} : 5 * iI (m : Int) = iI ((5 * m : Nat) : Int) := by
  rw [show (5 : Int32) = iI 5 from rfl, iI_mul]
  rfl
theorem chT_bad {t : Nat} {c : Nat → Int} (hC : CT t c) (s : Nat × Bool) (hs : s.1 ≤ t) (hb : s.2 = true) : ∀ (k m n : Nat) (S : ST), m + k = 8 → k ≤ n → Cs t c S s → ∃ S', chT n S (iI (m : Int)) = some (iI (-20 - (s.1 : Int)), S') ∧ FZ S S' := by
  obtain ⟨s', f1, f2, f3, -⟩ := fin2 hC s hs
  have e' := f2 hb
  rw [e'] at f3
  have hf : ∀ S x, Cs t c S s → ∃ S', f_X4_readChannel_32 S x = some (iI (-20 - (s.1 : Int)), S') ∧ FZ S S' := fun S x hS => by
    obtain ⟨S', e, o, -⟩ := f3 S x hS
    exact ⟨S', by rw [ch32, e, ansV, if_pos hb], o⟩
  intro k
  induction k with
  | zero =>
    intro m n S hm hn hS
    unfold chT
    rw [i_le (x := 8) (a := 8) (b := (m : Int)) rfl rfl (by omega) (by omega), if_pos (by omega)]
    exact hf S _ hS
  | succ k ih =>
    intro m n S hm hn hS
    obtain ⟨s1, v1, p1, q1, r1⟩ := lift hC (b_takes hC (x := 59) (k := 59) rfl (by omega)) s hs
    rw [p1.1 hb] at p1
    obtain ⟨S1, w, e1, o1, c1, -⟩ := p1.2.1 S hS
    unfold chT
    rw [i_le (x := 8) (a := 8) (b := (m : Int)) rfl rfl (by omega) (by omega), if_neg (by omega), show f_X4_takes S 59 = some (w, S1) from e1]
    show ∃ S', (if w = 0 then f_X4_readChannel_32 S1 (iI (m : Int)) else f_X4_readChannel_6 n S1 (iI (m : Int))) = _ ∧ _
    by_cases h : w = 0
    · rw [if_pos h]
      obtain ⟨S', e, o⟩ := hf S1 (iI (m : Int)) c1
      exact ⟨S', e, o1.fc.fz o⟩
    · rw [if_neg h]
      obtain ⟨n, rfl⟩ : ∃ n', n = n' + 1 := ⟨n - 1, by omega⟩
      obtain ⟨s2, g, -, a2, -, a3, -⟩ := mile2 hC m (by omega) s hs
      rw [a2 hb] at a3
      obtain ⟨S2, e2, o2, c2, -, -⟩ := a3 S1 c1
      obtain ⟨S', e, o⟩ := ih (m + 1) n S2 (by omega) (by omega) c2
      exact ⟨S', by rw [ch_eq, im6, e2, Option.bind_some, i_next, e], (o1.fc.tr o2).fz o⟩
/-- the reference's end of a channel -/
def chE (S : ST) (x1 : Int32) : Option (Int32 × ST) := if (S.1 30 9) = 0 then (b2 (f_X8_here S) fun v1 S2 => if v1 = 0 then (f_X8_channel_72 S2 x1 0) else (f_X8_channel_67 S2 x1)) else (f_X8_channel_67 S x1)
theorem c72 (S : ST) (x y : Int32) (hy : y = 0 ∨ y = 1) : f_X8_channel_72 S x y = if y = 0 then f_X8_channel_102 FU (sI (sI (sI S 30 9 y) 30 7 0) 30 0 x) x 0 else some ((-20) - S.1 30 8, sI (sI S 30 9 y) 30 7 0) := by
  unfold f_X8_channel_72
  rw [bz, if_pos hy, Option.bind_some, sI_nj (show 9 ≠ 7 by decide), sI_eq, sI_nj (show 8 ≠ 7 by decide), sI_nj (show 8 ≠ 9 by decide)]
theorem endM {t : Nat} {c : Nat → Int} {s' : Nat × Bool} {T T' : ST} {w : Int32} (e : enM T = some (w, T')) (o : FB T T') (hM : Ms t c T' s') : ∃ T2, (∀ x, chE T x = if s'.2 = true then some (iI (-20 - (s'.1 : Int)), T2) else f_X8_channel_102 FU (sI T2 30 0 x) x 0) ∧ FY T T2 ∧ T2.1 36 = T.1 36 := by
  have key : ∃ y, ∃ U : ST, (y = 0 ∨ y = 1) ∧ T' = sI U 30 9 y ∧ ∀ x, chE T x = f_X8_channel_72 U x y := by
    unfold enM at e
    unfold chE
    by_cases h : T.1 30 9 = 0
    · rw [if_pos h] at e
      cases hh : f_X8_here T with
      | none => rw [hh] at e; cases e
      | some q =>
        rw [hh] at e
        have e2 : some ((0 : Int32), sI q.2 30 9 (if q.1 = 0 then 0 else 1)) = some (w, T') := e
        have e3 : sI q.2 30 9 (if q.1 = 0 then 0 else 1) = T' := congrArg Prod.snd (Option.some.inj e2)
        refine ⟨if q.1 = 0 then 0 else 1, q.2, by split <;> simp, e3.symm, fun x => ?_⟩
        rw [if_pos h]
        show (if q.1 = 0 then f_X8_channel_72 q.2 x 0 else f_X8_channel_67 q.2 x) = _
        by_cases h2 : q.1 = 0
        · rw [if_pos h2, if_pos h2]
        · rw [if_neg h2, if_neg h2]; rfl
    · rw [if_neg h] at e
      have e3 : sI T 30 9 1 = T' := congrArg Prod.snd (Option.some.inj e)
      exact ⟨1, T, Or.inr rfl, e3.symm, fun x => by rw [if_neg h]; rfl⟩
  obtain ⟨y, U, hy, hU, hE⟩ := key
  have h9 : T'.1 30 9 = y := by rw [hU, sI_eq]
  have h8 : T'.1 30 8 = U.1 30 8 := by rw [hU, sI_nj (by decide)]
  refine ⟨sI T' 30 7 0, fun x => ?_, ⟨fun a ha hb => ?_, fun i h7 h8 h9 => ?_, sI_eq, o.2.2⟩, ?_⟩
  · rw [hE, c72 U x y hy, ← hU, ← h8, ← h9]
    obtain ⟨m1, m2⟩ := hM
    rcases m2 with ⟨m3, m4⟩ | ⟨m3, m4⟩
    · rw [if_pos m4, if_neg (by rw [m3]; decide)]
    · rw [if_neg (by rw [m4]; decide), if_pos m3, m1.2.1, show (-20 : Int32) = iI (-20) from rfl, iI_sub]
  · rw [sI_o ha]; exact o.1 a ha
  · rw [sI_nj h7]; exact o.2.1 i h8 h9
  · rw [sI_o (by decide)]; exact o.1 36 (by decide)
theorem MV0.cg {f g : Nat → Int} {j : Nat} (h : MV0 f j) (e : ∀ w, w < 6 → g (6 * j + w) = f (6 * j + w)) : MV0 g j := by
  unfold MV0 at h ⊢
  rw [e 1 (by omega), e 2 (by omega), e 3 (by omega), e 4 (by omega), e 5 (by omega), show g (6 * j) = f (6 * j) from e 0 (by omega)]
  exact h
def chMt (n : Nat) (S : ST) (x : Int32) : Option (Int32 × ST) := if 8 ≤ x then f_X8_channel_14 n S x 0 else b2 (f_X8_has S 59) fun v4 S5 => if v4 = 0 then f_X8_channel_14 n S5 x 0 else f_X8_channel_14 n S5 x 1
theorem chM_eq (n : Nat) (S : ST) (x : Int32) : f_X8_channel_14 (n + 1) S x 1 = (f_X8_mileClause S (5 * x)).bind fun S3 => chMt n S3 (x + 1) := by
  rw [f_X8_channel_14, if_neg (by decide)]
  rfl
theorem chM_0 (n : Nat) (S : ST) (x : Int32) : f_X8_channel_14 (n + 1) S x 0 = chE S x := by
  rw [f_X8_channel_14, if_pos rfl]
  rfl
theorem chan {t : Nat} {c : Nat → Int} (hC : CT t c) : ∀ (k m : Nat) (s : Nat × Bool), m + k = 8 → 0 < k → s.1 ≤ t → ∃ (s' : Nat × Bool) (N : Nat) (g : Nat → Int), s'.1 ≤ t ∧ (s'.2 = false → m < N ∧ N ≤ 8 ∧ ∀ j, m ≤ j → j < N → MV0 g j ∧ g (6 * j + 5) = 8) ∧
    (∀ n S, k ≤ n → Cs t c S s → ∃ S', f_X4_readChannel_6 n S (iI (m : Int)) = some (ansV s' (iI (N : Int)), S') ∧ FZ S S' ∧ (s'.2 = false → (∀ i, i < 6 * m → S'.1 23 i = S.1 23 i) ∧ ∀ i, 6 * m ≤ i → i < 6 * N → S'.1 23 i = iI (g i))) ∧
    (∀ n T, k < n → Ms t c T s → ∃ T', f_X8_channel_14 n T (iI (m : Int)) 1 = (if s'.2 = true then some (iI (-20 - (s'.1 : Int)), T') else f_X8_channel_102 FU (sI T' 30 0 (iI (N : Int))) (iI (N : Int)) 0) ∧ FY T T' ∧ (s'.2 = false → (∀ i, i < 5 * m → T'.1 36 i = T.1 36 i) ∧ ∀ j, m ≤ j → j < N → ∀ w, w < 5 → T'.1 36 (5 * j + w) = iI (g (6 * j + w)))) := by
  intro k
  induction k with
  | zero => intro m s _ h; omega
  | succ k ih =>
    intro m s hm _ hs
    obtain ⟨s1, g1, q1, a1, a2, a3, a4⟩ := mile2 hC m (by omega) s hs
    cases hb : s1.2 with
    | true =>
      obtain ⟨s', f1, f2, -, f4⟩ := fin2 hC s1 q1
      rw [f2 hb] at f4
      refine ⟨s1, m + 1, g1, q1, (fun h => by rw [hb] at h; cases h), fun n S hn hS => ?_, fun n T hn hT => ?_⟩
      · obtain ⟨n, rfl⟩ : ∃ n', n = n' + 1 := ⟨n - 1, by omega⟩
        obtain ⟨S1, e1, o1, c1, -, -⟩ := a3 S hS
        obtain ⟨S2, e2, o2⟩ := chT_bad hC s1 q1 hb k (m + 1) n S1 (by omega) (by omega) c1
        exact ⟨S2, by rw [ch_eq, im6, e1, Option.bind_some, i_next, e2, ansV, if_pos hb], o1.fz o2, fun h => by rw [hb] at h; cases h⟩
      · obtain ⟨n, rfl⟩ : ∃ n', n = n' + 2 := ⟨n - 2, by omega⟩
        obtain ⟨T1, e1, o1, c1, -, -⟩ := a4 T hT
        rw [chM_eq, im5, e1, Option.bind_some, i_next]
        unfold chMt
        have hz : T1.1 30 9 = 1 := by
          rcases c1.2 with ⟨h, -⟩ | ⟨-, h⟩
          · rw [hb] at h; cases h
          · exact h
        rw [i_le (x := 8) (a := 8) (b := ((m + 1 : Nat) : Int)) rfl rfl (by omega) (by omega), has_bad c1.1 hz]
        by_cases h8 : (8 : Int) ≤ ((m + 1 : Nat) : Int)
        · rw [if_pos h8, chM_0]
          obtain ⟨T2, w, e2, o2, c2⟩ := f4 T1 c1
          obtain ⟨T3, e3, o3, -⟩ := endM e2 o2 c2
          exact ⟨T3, e3 _, o1.fy o3, fun h => by rw [hb] at h; cases h⟩
        · rw [if_neg h8]
          show ∃ T', (if (0 : Int32) = 0 then f_X8_channel_14 (n + 1) (sI T1 30 8 (iI (s1.1 : Int))) (iI ((m + 1 : Nat) : Int)) 0 else f_X8_channel_14 (n + 1) (sI T1 30 8 (iI (s1.1 : Int))) (iI ((m + 1 : Nat) : Int)) 1) = _ ∧ _
          rw [if_pos rfl, chM_0]
          have c3 : Ms t c (sI T1 30 8 (iI (s1.1 : Int))) s1 := ⟨c1.1.s8 q1, Or.inr ⟨hb, by rw [sI_nj (by decide)]; exact hz⟩⟩
          obtain ⟨T2, w, e2, o2, c2⟩ := f4 _ c3
          obtain ⟨T3, e3, o3, -⟩ := endM e2 o2 c2
          exact ⟨T3, e3 _, (o1.tr FB.s8.fd).fy o3, fun h => by rw [hb] at h; cases h⟩
    | false =>
      by_cases hk : k = 0
      · obtain ⟨s', f1, f2, f3, f4⟩ := fin2 hC s1 q1
        refine ⟨s', m + 1, g1, f1, fun h => ⟨by omega, by omega, fun j h1 h2 => ?_⟩, fun n S hn hS => ?_, fun n T hn hT => ?_⟩
        · have : j = m := by omega
          subst this
          exact a2 hb
        · obtain ⟨n, rfl⟩ : ∃ n', n = n' + 1 := ⟨n - 1, by omega⟩
          obtain ⟨S1, e1, o1, c1, d1, d2⟩ := a3 S hS
          obtain ⟨S2, e2, o2, o3⟩ := f3 S1 (iI ((m + 1 : Nat) : Int)) c1
          refine ⟨S2, ?_, o1.fz o2, fun _ => ⟨fun i hi => by rw [o3]; exact d1 i hi, fun i h1 h2 => ?_⟩⟩
          · rw [ch_eq, im6, e1, Option.bind_some, i_next, chT, i_le (x := 8) (a := 8) (b := ((m + 1 : Nat) : Int)) rfl rfl (by omega) (by omega), if_pos (by omega), ch32, e2]
          · obtain ⟨w, hw, rfl⟩ : ∃ w, w < 6 ∧ i = 6 * m + w := ⟨i - 6 * m, by omega, by omega⟩
            rw [o3]; exact d2 hb w hw
        · obtain ⟨n, rfl⟩ : ∃ n', n = n' + 2 := ⟨n - 2, by omega⟩
          obtain ⟨T1, e1, o1, c1, d1, d2⟩ := a4 T hT
          obtain ⟨T2, w, e2, o2, c2⟩ := f4 T1 c1
          obtain ⟨T3, e3, o3, o4⟩ := endM e2 o2 c2
          refine ⟨T3, ?_, o1.fy o3, fun _ => ⟨fun i hi => by rw [o4]; exact d1 i hi, fun j h1 h2 w hw => ?_⟩⟩
          · rw [chM_eq, im5, e1, Option.bind_some, i_next, chMt, i_le (x := 8) (a := 8) (b := ((m + 1 : Nat) : Int)) rfl rfl (by omega) (by omega), if_pos (by omega), chM_0, e3]
          · have : j = m := by omega
            subst this
            rw [o4]; exact d2 hb w hw
      · obtain ⟨s2, v, z2, q2, hv, b1, b3⟩ := takes_good hC (x := 59) (k := 59) rfl (by omega) s1 q1 hb
        have h0 : (iI v = 0) ↔ v = 0 := c_eq (b := 0) rfl rfl (by omega) (by omega)
        rcases hv with rfl | rfl
        · obtain ⟨s', f1, f2, f3, f4⟩ := fin2 hC s2 q2
          refine ⟨s', m + 1, g1, f1, fun h => ⟨by omega, by omega, fun j h1 h2 => ?_⟩, fun n S hn hS => ?_, fun n T hn hT => ?_⟩
          · have : j = m := by omega
            subst this
            exact a2 hb
          · obtain ⟨n, rfl⟩ : ∃ n', n = n' + 1 := ⟨n - 1, by omega⟩
            obtain ⟨S1, e1, o1, c1, d1, d2⟩ := a3 S hS
            obtain ⟨S3, e3, o4, c3⟩ := b1 S1 c1
            obtain ⟨S2, e2, o2, o3⟩ := f3 S3 (iI ((m + 1 : Nat) : Int)) c3
            have o5 : S2.1 23 = S1.1 23 := o3.trans (o4.1 23 (by decide))
            refine ⟨S2, ?_, (o1.tr o4.fc).fz o2, fun _ => ⟨fun i hi => by rw [o5]; exact d1 i hi, fun i h1 h2 => ?_⟩⟩
            · rw [ch_eq, im6, e1, Option.bind_some, i_next, chT, i_le (x := 8) (a := 8) (b := ((m + 1 : Nat) : Int)) rfl rfl (by omega) (by omega), if_neg (by omega), e3]
              show (if iI 0 = 0 then f_X4_readChannel_32 S3 (iI ((m + 1 : Nat) : Int)) else f_X4_readChannel_6 n S3 (iI ((m + 1 : Nat) : Int))) = _
              rw [if_pos (show iI 0 = 0 from rfl), ch32, e2]
            · obtain ⟨w, hw, rfl⟩ : ∃ w, w < 6 ∧ i = 6 * m + w := ⟨i - 6 * m, by omega, by omega⟩
              rw [o5]; exact d2 hb w hw
          · obtain ⟨n, rfl⟩ : ∃ n', n = n' + 2 := ⟨n - 2, by omega⟩
            obtain ⟨T1, e1, o1, c1, d1, d2⟩ := a4 T hT
            obtain ⟨T4, e4, o6, c4⟩ := b3 T1 c1
            obtain ⟨T2, w, e2, o2, c2⟩ := f4 T4 c4
            obtain ⟨T3, e3, o3, o4⟩ := endM e2 o2 c2
            have o5 : T3.1 36 = T1.1 36 := o4.trans (o6.1 36 (by decide))
            refine ⟨T3, ?_, (o1.tr o6.fd).fy o3, fun _ => ⟨fun i hi => by rw [o5]; exact d1 i hi, fun j h1 h2 w hw => ?_⟩⟩
            · rw [chM_eq, im5, e1, Option.bind_some, i_next, chMt, i_le (x := 8) (a := 8) (b := ((m + 1 : Nat) : Int)) rfl rfl (by omega) (by omega), if_neg (by omega), e4]
              show (if iI 0 = 0 then f_X8_channel_14 (n + 1) T4 (iI ((m + 1 : Nat) : Int)) 0 else f_X8_channel_14 (n + 1) T4 (iI ((m + 1 : Nat) : Int)) 1) = _
              rw [if_pos (show iI 0 = 0 from rfl), chM_0, e3]
            · have : j = m := by omega
              subst this
              rw [o5]; exact d2 hb w hw
        · obtain ⟨s', N, g2, f1, f2, f3, f4⟩ := ih (m + 1) s2 (by omega) (by omega) q2
          refine ⟨s', N, fun i => if i < 6 * (m + 1) then g1 i else g2 i, f1, fun h => ?_, fun n S hn hS => ?_, fun n T hn hT => ?_⟩
          · obtain ⟨k1, k2, k3⟩ := f2 h
            refine ⟨by omega, k2, fun j h1 h2 => ?_⟩
            by_cases hj : j = m
            · subst hj
              refine ⟨(a2 hb).1.cg (fun w hw => if_pos (by omega)), ?_⟩
              show (if 6 * j + 5 < 6 * (j + 1) then _ else _) = _
              rw [if_pos (by omega)]; exact (a2 hb).2
            · obtain ⟨k4, k5⟩ := k3 j (by omega) h2
              refine ⟨k4.cg (fun w hw => if_neg (by omega)), ?_⟩
              show (if 6 * j + 5 < 6 * (m + 1) then _ else _) = _
              rw [if_neg (by omega)]; exact k5
          · obtain ⟨n, rfl⟩ : ∃ n', n = n' + 1 := ⟨n - 1, by omega⟩
            obtain ⟨S1, e1, o1, c1, d1, d2⟩ := a3 S hS
            obtain ⟨S3, e3, o4, c3⟩ := b1 S1 c1
            obtain ⟨S2, e2, o2, o3⟩ := f3 n S3 (by omega) c3
            refine ⟨S2, ?_, (o1.tr o4.fc).fz o2, fun h => ?_⟩
            · rw [ch_eq, im6, e1, Option.bind_some, i_next, chT, i_le (x := 8) (a := 8) (b := ((m + 1 : Nat) : Int)) rfl rfl (by omega) (by omega), if_neg (by omega), e3]
              show (if iI 1 = 0 then f_X4_readChannel_32 S3 (iI ((m + 1 : Nat) : Int)) else f_X4_readChannel_6 n S3 (iI ((m + 1 : Nat) : Int))) = _
              rw [if_neg (by decide), e2]
            · obtain ⟨l1, l2⟩ := o3 h
              refine ⟨fun i hi => ?_, fun i h1 h2 => ?_⟩
              · rw [l1 i (by omega), o4.1 23 (by decide)]; exact d1 i hi
              · by_cases hi : i < 6 * (m + 1)
                · show _ = iI (if i < 6 * (m + 1) then _ else _)
                  rw [if_pos hi, l1 i hi, o4.1 23 (by decide)]
                  obtain ⟨w, hw, rfl⟩ : ∃ w, w < 6 ∧ i = 6 * m + w := ⟨i - 6 * m, by omega, by omega⟩
                  exact d2 hb w hw
                · show _ = iI (if i < 6 * (m + 1) then _ else _)
                  rw [if_neg hi]; exact l2 i (by omega) h2
          · obtain ⟨n, rfl⟩ : ∃ n', n = n' + 1 := ⟨n - 1, by omega⟩
            obtain ⟨T1, e1, o1, c1, d1, d2⟩ := a4 T hT
            obtain ⟨T4, e4, o6, c4⟩ := b3 T1 c1
            obtain ⟨T2, e2, o2, o3⟩ := f4 n T4 (by omega) c4
            refine ⟨T2, ?_, (o1.tr o6.fd).fy o2, fun h => ?_⟩
            · rw [chM_eq, im5, e1, Option.bind_some, i_next, chMt, i_le (x := 8) (a := 8) (b := ((m + 1 : Nat) : Int)) rfl rfl (by omega) (by omega), if_neg (by omega), e4]
              show (if iI 1 = 0 then f_X8_channel_14 n T4 (iI ((m + 1 : Nat) : Int)) 0 else f_X8_channel_14 n T4 (iI ((m + 1 : Nat) : Int)) 1) = _
              rw [if_neg (by decide), e2]
            · obtain ⟨l1, l2⟩ := o3 h
              refine ⟨fun i hi => ?_, fun j h1 h2 w hw => ?_⟩
              · rw [l1 i (by omega), o6.1 36 (by decide)]; exact d1 i hi
              · by_cases hj : j = m
                · subst hj
                  show _ = iI (if 6 * j + w < 6 * (j + 1) then _ else _)
                  rw [if_pos (by omega), l1 _ (by omega), o6.1 36 (by decide)]
                  exact d2 hb w hw
                · show _ = iI (if 6 * j + w < 6 * (m + 1) then _ else _)
                  rw [if_neg (by omega)]; exact l2 j (by omega) h2 w hw
