/-! ===== day ===== -/
theorem fold_len {F : Nat → Nat → Bool} {g n : Nat} : ∀ (P : List (List Nat)) (b : Nat × List Nat), (∀ q ∈ P, q.length = n) → (b.1 < 100000 → b.2.length = n) → ((List.foldl (fun b p => updB b (cst F g p 0 0) ([] ++ p)) b P).1 < 100000 → (List.foldl (fun b p => updB b (cst F g p 0 0) ([] ++ p)) b P).2.length = n) := by
  intro P
  induction P with
  | nil => intro b _ h; exact h
  | cons p P ih =>
    intro b h1 h2
    refine ih (updB b (cst F g p 0 0) ([] ++ p)) (fun q hq => h1 q (List.mem_cons_of_mem _ hq)) ?_
    unfold updB
    split
    · intro _
      exact h1 p (List.mem_cons_self ..)
    · exact h2
theorem bit_in6 : ∀ k, k < 7 → ∀ m, m < 64 → m < 2 ^ k → ∀ s, s < 6 → Nat.testBit m s = true → s < k := by decide +kernel
theorem pw_le : ∀ k, k < 7 → 2 ^ k ≤ 64 := by decide
theorem tail_ok {S : ST} {b : Nat × List Nat} {n : Nat} {c : Int} {x1 x2 x3 : Int32} {S1 : ST} (e1 : f_X0_tryNext 7 (sI (sI (sI S 18 3 0) 18 5 x2) 18 4 2147483647) 0 x1 0 0 = some S1) (hB : RB S1 b) (hn : b.1 < 100000 → b.2.length = n) (hz : x3 = iI c) (hc : -1 ≤ c ∧ c ≤ 5) : (b2 (f_X0_arrange S x1 x2) fun v1 S2 => if x3 < 0 then (some (v1, S2)) else (if v1 = (-4) then (some (v1, S2)) else ((f_X0_goes S2 x3).bind fun v3 => some (v3, S2)))) = some (ansD b n c, S1) := by
  unfold f_X0_arrange ansD
  rw [e1, Option.bind_some]
  rcases hB with ⟨h1, h2, h3⟩ | ⟨h1, h2, h3, h4, h5⟩
  · rw [h3, if_pos (show iI 0 = 0 from rfl), if_pos (by omega)]
    show (if x3 < 0 then some ((-4 : Int32), S1) else _) = _
    split
    · rfl
    · rw [if_pos rfl]
  · have hn := hn h1
    rw [h3, i_eq (y := 0) (b := 0) rfl rfl (by omega) (by omega), if_neg (by omega), h2, if_neg (by omega)]
    show (if x3 < 0 then some (iI (b.1 : Int), S1) else (if iI (b.1 : Int) = (-4) then (some (iI (b.1 : Int), S1)) else ((f_X0_goes S1 x3).bind fun v3 => some (v3, S1)))) = _
    rw [i_lt (y := 0) (b := 0) hz rfl (by omega) (by omega)]
    by_cases c0 : c < 0
    · rw [if_pos c0, if_pos (by omega), if_neg (by omega)]
    · rw [if_neg c0, if_neg (fun z => by have := (c_eq (y := -4) (b := -4) rfl rfl (by omega) (by omega)).mp z; omega)]
      unfold f_X0_goes
      rw [i_lt (y := 0) (b := 0) hz rfl (by omega) (by omega), if_neg c0, h3, i_le rfl hz (by omega) (by omega)]
      by_cases c1 : (b.2.length : Int) ≤ c
      · rw [if_pos c1, if_neg (by omega)]
        rfl
      · rw [if_neg c1, if_pos (by omega), if_pos (by omega), rI_ok (t := 0) (k := 21) (a := c) (n := c.toNat) hz (by omega) (by rw [al21]; omega) (by omega), Option.bind_some, Option.bind_some, h5 c.toNat (by omega)]
theorem ok_day (a0 a1 a2 : Int32) : Pr Inv (fun S => f_X7_day S a0 a1 a2) (fun S => f_X8_day S a0 a1 a2) := by
  intro S hI
  obtain ⟨⟨A, hV, hR, hM⟩, -⟩ := id hI
  obtain ⟨a, ha, hx⟩ := i_of a0
  obtain ⟨b, hb, hy⟩ := i_of a1
  obtain ⟨c, hc, hz⟩ := i_of a2
  have h16 := hV.1.1
  have h6 := hV.1.2
  have p64 := pw_le (nsh A) (by omega)
  have p1 : 1 ≤ 2 ^ nsh A := Nat.one_le_two_pow
  have mf : ∀ T, RM T A → f_X8_day T a0 a1 a2 = if 1 ≤ a ∧ a ≤ ((2 ^ nsh A : Nat) : Int) - 1 then (if 1 ≤ b ∧ b ≤ 240 then (if -1 ≤ c ∧ c ≤ 5 then (if (mi A : Int) = 0 then some (-2, T) else f_X8_day_62 FU T a0 a1 a2 0 0) else some (-1, T)) else some (-1, T)) else some (-1, T) := by
    intro T hM
    unfold f_X8_day
    rw [hM.1.2, top_ok (nsh A) (by omega), gt01 (e_in (b := 1) (c := ((2 ^ nsh A : Nat) : Int) - 1) (l_toInt hx ha) rfl (l_toInt rfl (by omega))), g_i hy hb 1 240 1 240 rfl rfl, g_i hz hc (-1) 5 (-1) 5 rfl rfl, hM.1.1, i_eq (x := iI (mi A : Int)) (y := 0) (b := 0) rfl rfl (by omega) (by omega)]
  show ∃ r S1 S2, f_X7_day S a0 a1 a2 = some (r, S1) ∧ f_X8_day S1 a0 a1 a2 = some (r, S2) ∧ Inv S2
  unfold f_X7_day
  rw [i_eq (x := a0) (y := 0) (b := 0) hx rfl ha (by omega), hR.1.2]
  by_cases h0 : a = 0
  · rw [if_pos h0]
    exact ⟨_, _, _, rfl, by rw [mf S hM, if_neg (by omega)], hI⟩
  · rw [if_neg h0]
    have us := us32_0 (n := nsh A) hx ha (by omega)
    by_cases hu : us32 a0 (iI (nsh A : Int)) = 0
    · rw [if_pos hu, g_w hy hb 1 240 1 240 rfl rfl (by omega) (by omega), g_w hz hc (-1) 5 (-1) 5 rfl rfl (by omega) (by omega), hR.1.1, i_eq (x := iI (mi A : Int)) (y := 0) (b := 0) rfl rfl (by omega) (by omega)]
      have hu2 := us.mp hu
      have g1 : 1 ≤ a ∧ a ≤ ((2 ^ nsh A : Nat) : Int) - 1 := by omega
      by_cases g2 : 1 ≤ b ∧ b ≤ 240
      · rw [if_pos g2]
        by_cases g3 : -1 ≤ c ∧ c ≤ 5
        · rw [if_pos g3]
          by_cases h4 : (mi A : Int) = 0
          · rw [if_pos h4]
            exact ⟨_, _, _, rfl, by rw [mf S hM, if_pos g1, if_pos g2, if_pos g3, if_pos h4], hI⟩
          · rw [if_neg h4]
            obtain ⟨m, hm, rfl⟩ := nat_of (a := a) (n := 2 ^ nsh A) (by omega)
            obtain ⟨g, hg, rfl⟩ := nat_of (a := b) (n := 241) (by omega)
            have m64 : m < 64 := by omega
            obtain ⟨k1, k2, k3, k4, k5, k6, k7⟩ := ord_ok m m64 (by omega)
            obtain ⟨S1, e1, o1, f1, p1⟩ := e_layTide hR hV hI.2.2.2.2
            have q1 : SQ S S1 := ⟨fun k _ h2 h3 _ => o1.1 k h2 h3, p1⟩
            obtain ⟨S2, e2, q2, r2⟩ := cd61 hV hR m64 a1 a2 (nsh A) 0 FU S1 (by omega) (by show nsh A < 20000; omega) q1 f1 (fun s hs => by omega)
            obtain ⟨S4, e4, B4, fd4⟩ := dn_go (S0 := S2) (F := FF A) (g := g) (m0 := m) (by omega) (fun s hs hbs => r2 s (bit_in6 (nsh A) (by omega) m m64 hm s hs hbs) hbs) 7 m [] 0 0 (sI (sI (sI S2 18 3 0) 18 5 a1) 18 4 2147483647) (100000, []) m64 (fun _ _ h => h) (by omega) (by show 0 + c6V m ≤ 6; omega) (fun h => by omega) (by omega) (by omega) rfl (Or.inl ⟨rfl, by rw [sI_eq]; rfl, by rw [sI_nj (by decide), sI_nj (by decide), sI_eq]; rfl⟩) (fun i hi => absurd hi (Nat.not_lt_zero i)) (by rw [sI_nj (by decide), sI_eq, hy])
            have hall : ∀ q ∈ dfs 7 m, q.length = c6V m ∧ ∀ i, i < c6V m → q.getD i 0 < 6 ∧ Nat.testBit m (q.getD i 0) = true := by
              intro q hq
              have h1 := Bool.and_eq_true_iff.mp (List.all_eq_true.mp k3 q hq)
              have hl : q.length = c6V m := of_decide_eq_true h1.1
              refine ⟨hl, fun i hi => ?_⟩
              have hmem : q.getD i 0 ∈ q := by
                rw [List.getD_eq_getElem?_getD, List.getElem?_eq_getElem (by omega)]
                exact List.getElem_mem _
              have h2 := Bool.and_eq_true_iff.mp (List.all_eq_true.mp h1.2 _ hmem)
              exact ⟨of_decide_eq_true h2.1, h2.2⟩
            have code := tail_ok (S := S2) (n := c6V m) (x1 := a0) (x2 := a1) (x3 := a2) (by rw [hx]; exact e4) B4 (fold_len (dfs 7 m) (100000, []) (fun q hq => (hall q hq).1) (fun h => absurd h (by decide))) hz g3
            have hM4 : RM S4 A := by
              have w : ∀ k, k ≠ 18 → k ≠ 20 → k ≠ 21 → S4.1 k = S2.1 k := fun k h1 h2 h3 => by rw [fd4.1 k h1 h2 h3, sI_o h1, sI_o h1, sI_o h1]
              exact (q2.rm hM).of (by rw [w 30 (by decide) (by decide) (by decide)]) (by rw [w 30 (by decide) (by decide) (by decide)]) (w 32 (by decide) (by decide) (by decide)) (w 33 (by decide) (by decide) (by decide)) (w 31 (by decide) (by decide) (by decide)) (w 34 (by decide) (by decide) (by decide))
            obtain ⟨T1, t1, o5, r5, s5⟩ := d62 hV m64 a1 a2 (nsh A) 0 FU S4 (by omega) (by show nsh A < 20000; omega) hM4 (fun i hi => absurd hi (Nat.not_lt_zero i)) (fun s hs => by omega)
            rw [pl_all (nsh A) (by omega) m m64 hm, k4] at t1 r5
            obtain ⟨l, hl⟩ : ∃ l, dfs 7 m = lsV m :: l := by
              cases hd : dfs 7 m with
              | nil => rw [hd] at k2; cases k2
              | cons p l => rw [hd] at k2; injection k2 with k2; exact ⟨l, by rw [k2]⟩
            rw [hl] at k1 k7 hall
            have hls := hall (lsV m) (List.mem_cons_self ..)
            obtain ⟨T2, t2, o6⟩ := d167 (F := FF A) (g := g) (n := c6V m) (m := m) (by omega) ⟨k5, k6⟩ hz g3 l (lsV m) FU T1 (100000, []) k1 hall (fun i hi => ⟨(hls.2 i (by omega)).1, r5 i (by omega)⟩) (fun s hs hbs t ht => s5 s (bit_in6 (nsh A) (by omega) m m64 hm s hs hbs) hbs t ht) ⟨Nat.le_refl _, fun h => absurd h (by decide)⟩ (by
              have k7 : l.length + 1 ≤ 720 := k7
              show l.length + 1 < 20000
              omega)
            rw [← hl] at t2
            refine ⟨ansD (List.foldl (fun b p => updB b (cst (FF A) g p 0 0) ([] ++ p)) (100000, []) (dfs 7 m)) (c6V m) c, S4, T2, ?_, ?_, ?_⟩
            · rw [e1, Option.bind_some, hx, show f_X7_day_61 FU S1 (iI (m : Int)) a1 a2 0 = _ from e2, ← hx]
              exact code
            · rw [mf S4 hM4, if_pos g1, if_pos g2, if_pos g3, if_neg h4, hx, show f_X8_day_62 FU S4 (iI (m : Int)) a1 a2 0 0 = _ from t1, hy]
              exact t2
            · have w : ∀ k, ¬ Scr k → T2.1 k = S2.1 k := fun k hk => by
                have hk : ¬ (k = 11 ∨ k = 12 ∨ (16 ≤ k ∧ k ≤ 21) ∨ k = 23 ∨ k = 29 ∨ (36 ≤ k ∧ k ≤ 44) ∨ k = 49) := hk
                rw [o6.1 k (by omega) (by omega), o5.1 k (by omega) (by omega) (by omega) (by omega) (by omega), fd4.1 k (by omega) (by omega) (by omega), sI_o (by omega), sI_o (by omega), sI_o (by omega)]
              refine hI.sq q2 (fun k hk _ => w k hk) (fun i _ => by rw [w 30 (by unfold Scr; omega)]) ?_
              rw [o6.2, o5.2, fd4.2.2.1]
              rfl
        · rw [if_neg g3]
          exact ⟨_, _, _, rfl, by rw [mf S hM, if_pos g1, if_pos g2, if_neg g3], hI⟩
      · rw [if_neg g2]
        exact ⟨_, _, _, rfl, by rw [mf S hM, if_pos g1, if_neg g2], hI⟩
    · rw [if_neg hu]
      exact ⟨_, _, _, rfl, by rw [mf S hM, if_neg (fun q => hu (us.mpr (by omega)))], hI⟩
