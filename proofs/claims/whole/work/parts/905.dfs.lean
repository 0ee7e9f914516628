/-! ===== day: all orders, the code ===== -/
def RB (S : ST) (b : Nat × List Nat) : Prop := (b.1 = 100000 ∧ S.1 18 4 = iI 2147483647 ∧ S.1 18 3 = iI 0) ∨ (b.1 < 100000 ∧ S.1 18 4 = iI (b.1 : Int) ∧ S.1 18 3 = iI (b.2.length : Int) ∧ (1 ≤ b.2.length ∧ b.2.length ≤ 6) ∧ ∀ i, i < b.2.length → S.1 21 i = iI (b.2.getD i 0 : Int))
def FDy (n : Nat) (S S' : ST) : Prop := (∀ k, k ≠ 18 → k ≠ 20 → k ≠ 21 → S'.1 k = S.1 k) ∧ S'.1 18 5 = S.1 18 5 ∧ S'.2 = S.2 ∧ ∀ i, i < n → S'.1 20 i = S.1 20 i
theorem FDy.rf {n : Nat} {S : ST} : FDy n S S := ⟨fun _ _ _ _ => rfl, rfl, rfl, fun _ _ => rfl⟩
theorem FDy.tr {n : Nat} {S S1 S2 : ST} (h : FDy n S S1) (g : FDy n S1 S2) : FDy n S S2 := ⟨fun k h1 h2 h3 => (g.1 k h1 h2 h3).trans (h.1 k h1 h2 h3), g.2.1.trans h.2.1, g.2.2.1.trans h.2.2.1, fun i hi => (g.2.2.2 i hi).trans (h.2.2.2 i hi)⟩
theorem FDy.le {n m : Nat} {S S' : ST} (h : FDy n S S') (hm : m ≤ n) : FDy m S S' := ⟨h.1, h.2.1, h.2.2.1, fun i hi => h.2.2.2 i (by omega)⟩
theorem al20 : al 0 20 = 6 := by decide
theorem al21 : al 0 21 = 6 := by decide
theorem keepB {S : ST} {b : Nat × List Nat} {pre : List Nat} {sum : Nat} (hB : RB S b) (hp : 1 ≤ pre.length ∧ pre.length ≤ 6) (hS : ∀ i, i < pre.length → S.1 20 i = iI (pre.getD i 0 : Int)) (hsum : sum < 100000) : ∃ S', f_X0_keepBetter S (iI (pre.length : Int)) (iI (sum : Int)) = some S' ∧ RB S' (updB b sum pre) ∧ FDy 6 S S' := by
  unfold f_X0_keepBetter updB
  have upd1 : (cpy (sI (sI S 18 4 (iI (sum : Int))) 18 3 (iI (pre.length : Int))) 20 0 21 0 6).bind (fun S1 => some S1) = some (cpyS (sI (sI S 18 4 (iI (sum : Int))) 18 3 (iI (pre.length : Int))) 20 21 0 0 6) := by
    rw [cpyN (x := 6) (n := 6) rfl (by rw [al20]; omega) (by rw [al21]; omega) (by omega) (by omega), Option.bind_some]
  have new : RB (cpyS (sI (sI S 18 4 (iI (sum : Int))) 18 3 (iI (pre.length : Int))) 20 21 0 0 6) (sum, pre) ∧ FDy 6 S (cpyS (sI (sI S 18 4 (iI (sum : Int))) 18 3 (iI (pre.length : Int))) 20 21 0 0 6) := by
    refine ⟨Or.inr ⟨hsum, ?_, ?_, hp, fun i hi => ?_⟩, ⟨fun k h1 h2 h3 => ?_, ?_, rfl, fun i hi => ?_⟩⟩
    · rw [cp0_o (by decide), sI_nj (by decide), sI_eq]
    · rw [cp0_o (by decide), sI_eq]
    · have hi : i < pre.length := hi
      rw [cp0_at (by omega), sI_ne (by decide), sI_ne (by decide)]
      exact hS i hi
    · rw [cp0_o h3, sI_o h1, sI_o h1]
    · rw [cp0_o (by decide), sI_nj (by decide), sI_nj (by decide)]
    · rw [cp0_o (by decide), sI_ne (by decide), sI_ne (by decide)]
  rcases hB with ⟨h1, h2, h3⟩ | ⟨h1, h2, h3, h4, h5⟩
  · rw [h2, i_le (a := 2147483647) rfl rfl (by omega) (by omega), if_neg (by omega), if_pos ⟨hsum, by omega⟩]
    exact ⟨_, upd1, new.1, new.2⟩
  · rw [h2, i_le rfl rfl (by omega) (by omega)]
    by_cases hc : (b.1 : Int) ≤ (sum : Int)
    · rw [if_pos hc, if_neg (fun q => by omega)]
      exact ⟨S, rfl, Or.inr ⟨h1, h2, h3, h4, h5⟩, FDy.rf⟩
    · rw [if_neg hc, if_pos ⟨hsum, by omega⟩]
      exact ⟨_, upd1, new.1, new.2⟩
theorem fold_no {F : Nat → Nat → Bool} {g s a sum : Nat} {pre : List Nat} (h : ¬ nfV (F s) a < 100000) : ∀ (P : List (List Nat)) (b : Nat × List Nat), List.foldl (fun b p => updB b (cst F g p a sum) (pre ++ p)) b (P.map (List.cons s)) = b := by
  intro P
  induction P with
  | nil => intro b; rfl
  | cons p P ih =>
    intro b
    have e : updB b (cst F g (s :: p) a sum) (pre ++ s :: p) = b := by
      rw [show cst F g (s :: p) a sum = 100000 from if_neg h]
      exact if_neg (fun q => by omega)
    show List.foldl _ (updB b (cst F g (s :: p) a sum) (pre ++ s :: p)) (P.map (List.cons s)) = b
    rw [e]
    exact ih b
theorem fold_yes {F : Nat → Nat → Bool} {g s a sum : Nat} {pre : List Nat} (h : nfV (F s) a < 100000) : ∀ (P : List (List Nat)) (b : Nat × List Nat), List.foldl (fun b p => updB b (cst F g p a sum) (pre ++ p)) b (P.map (List.cons s)) = List.foldl (fun b p => updB b (cst F g p (nfV (F s) a + g) (sum + nfV (F s) a)) ((pre ++ [s]) ++ p)) b P := by
  intro P
  induction P with
  | nil => intro b; rfl
  | cons p P ih =>
    intro b
    have e : updB b (cst F g (s :: p) a sum) (pre ++ s :: p) = updB b (cst F g p (nfV (F s) a + g) (sum + nfV (F s) a)) ((pre ++ [s]) ++ p) := by
      rw [show cst F g (s :: p) a sum = cst F g p (nfV (F s) a + g) (sum + nfV (F s) a) from if_pos h, List.append_assoc]
      rfl
    show List.foldl _ (updB b (cst F g (s :: p) a sum) (pre ++ s :: p)) (P.map (List.cons s)) = List.foldl _ (updB b (cst F g p (nfV (F s) a + g) (sum + nfV (F s) a)) ((pre ++ [s]) ++ p)) P
    rw [e]
    exact ih _
theorem dn_go {S0 : ST} {F : Nat → Nat → Bool} {g m0 : Nat} (hg : g ≤ 240) (hrow : ∀ s, s < 6 → Nat.testBit m0 s = true → ∀ t, t < 1472 → (bt S0 (167 + s) t = true ↔ t < 1440 ∧ F s t = true)) : ∀ (d left : Nat) (pre : List Nat) (a sum : Nat) (S : ST) (b : Nat × List Nat), left < 64 → (∀ t, t < 6 → Nat.testBit left t = true → Nat.testBit m0 t = true) → c6V left < d → pre.length + c6V left ≤ 6 → (left = 0 → 1 ≤ pre.length) → a ≤ 1700 → sum ≤ 1440 * pre.length → S.2 = S0.2 → RB S b → (∀ i, i < pre.length → S.1 20 i = iI (pre.getD i 0 : Int)) → S.1 18 5 = iI (g : Int) → ∃ S', f_X0_tryNext d S (iI (pre.length : Int)) (iI (left : Int)) (iI (a : Int)) (iI (sum : Int)) = some S' ∧ RB S' (List.foldl (fun b p => updB b (cst F g p a sum) (pre ++ p)) b (dfs d left)) ∧ FDy pre.length S S' := by
  intro d
  induction d with
  | zero => intro left pre a sum S b _ _ h; omega
  | succ d ih =>
    intro left pre a sum S b hl hsub hd hp h0 ha hsum h2 hB hS hg5
    rw [f_X0_tryNext, i_eq (y := 0) (b := 0) rfl rfl (by omega) (by omega)]
    unfold dfs
    by_cases hz : left = 0
    · rw [if_pos (by omega), if_pos hz]
      obtain ⟨S', e1, e2, e3⟩ := keepB hB (pre := pre) (sum := sum) ⟨h0 hz, by omega⟩ hS (by omega)
      refine ⟨S', by rw [e1]; rfl, ?_, e3.le (by omega)⟩
      show RB S' (updB b sum (pre ++ []))
      rw [List.append_nil]
      exact e2
    · have c1 := c6_0 left hl (by omega)
      rw [if_neg (by omega), if_neg hz, i_lt (y := 6) (b := 6) rfl rfl (by omega) (by omega), if_pos (by omega)]
      have loop : ∀ (k n : Nat) (S : ST) (b : Nat × List Nat), k ≤ 6 → k < n → S.2 = S0.2 → RB S b → (∀ i, i < pre.length → S.1 20 i = iI (pre.getD i 0 : Int)) → S.1 18 5 = iI (g : Int) → ∃ S', f_X0_tryNext_22 (f_X0_tryNext d) n S (iI (pre.length : Int)) (iI (left : Int)) (iI (a : Int)) (iI (sum : Int)) (iI ((6 - k : Nat) : Int)) = some S' ∧ RB S' (List.foldl (fun b p => updB b (cst F g p a sum) (pre ++ p)) b (dfsR (dfs d) left k)) ∧ FDy pre.length S S' := by
        intro k
        induction k with
        | zero =>
          intro n S b hk hn h2 hB hS hg5
          obtain ⟨n, rfl⟩ : ∃ n', n = n' + 1 := ⟨n - 1, by omega⟩
          refine ⟨S, ?_, hB, FDy.rf⟩
          rw [f_X0_tryNext_22, i_le (x := 6) (a := 6) rfl rfl (by omega) (by omega), if_pos (by omega)]
        | succ k ik =>
          intro n S b hk hn h2 hB hS hg5
          obtain ⟨n, rfl⟩ : ∃ n', n = n' + 1 := ⟨n - 1, by omega⟩
          have es : 6 - (k + 1) = 5 - k := by omega
          have en : iI ((5 - k : Nat) : Int) + 1 = iI ((6 - k : Nat) : Int) := by rw [i_next]; congr 1; omega
          rw [es]
          unfold dfsR
          generalize hs : 5 - k = s at *
          have hs6 : s < 6 := by omega
          obtain ⟨bk1, bk2⟩ := bit_ok left hl s hs6
          have step : f_X0_tryNext_22 (f_X0_tryNext d) (n + 1) S (iI (pre.length : Int)) (iI (left : Int)) (iI (a : Int)) (iI (sum : Int)) (iI (s : Int)) = if Nat.testBit left s = true then (if nfV (F s) a < 100000 then ((wI S 20 (iI (pre.length : Int)) (iI (s : Int))).bind fun S1 => (f_X0_tryNext d S1 (iI (pre.length : Int) + 1) (iI (left : Int) &&& ((1 <<< (iI (s : Int) &&& 31)) ^^^ (-1))) (iI (nfV (F s) a : Int) + (S1.1 18 5)) (iI (sum : Int) + iI (nfV (F s) a : Int))).bind fun S2 => f_X0_tryNext_22 (f_X0_tryNext d) n S2 (iI (pre.length : Int)) (iI (left : Int)) (iI (a : Int)) (iI (sum : Int)) (iI ((6 - k : Nat) : Int))) else f_X0_tryNext_22 (f_X0_tryNext d) n S (iI (pre.length : Int)) (iI (left : Int)) (iI (a : Int)) (iI (sum : Int)) (iI ((6 - k : Nat) : Int))) else f_X0_tryNext_22 (f_X0_tryNext d) n S (iI (pre.length : Int)) (iI (left : Int)) (iI (a : Int)) (iI (sum : Int)) (iI ((6 - k : Nat) : Int)) := by
            rw [f_X0_tryNext_22, i_le (x := 6) (a := 6) rfl rfl (by omega) (by omega), if_neg (by omega), bk1]
            unfold f_X0_tryNext_54 f_X0_tryNext_98
            rw [en]
            by_cases hb : Nat.testBit left s = true
            · rw [if_pos hb, if_neg (by decide), if_pos hb, rSt hs6 rfl, Option.bind_some, ff_row h2 hs6 (by omega) (hrow s hs6 (hsub s hs6 hb)), Option.bind_some]
              by_cases hn2 : nfV (F s) a < 100000
              · rw [if_pos hn2, if_pos hn2, if_neg (fun z => by have := (c_eq (y := -4) (b := -4) rfl rfl (by omega) (by omega)).mp z; omega)]
              · rw [if_neg hn2, if_neg hn2, if_pos rfl]
            · rw [if_neg hb, if_neg hb, if_pos rfl, if_pos rfl]
          rw [step]
          by_cases hb : Nat.testBit left s = true
          · rw [if_pos hb, if_pos hb, List.foldl_append]
            obtain ⟨b1, b2', b3, b4⟩ := bk2 hb
            by_cases hn2 : nfV (F s) a < 100000
            · rw [if_pos hn2, fold_yes hn2, wI_ok (k := 20) rfl rfl (by rw [al20]; omega) (by omega), Option.bind_some, i_next, b4, sI_ne (by decide), hg5, iI_add, iI_add]
              have hlt : nfV (F s) a < 1440 := by
                rcases nf_all (F s) a with ⟨p1, p2⟩ | ⟨p1, p2, p3, p4⟩
                · omega
                · exact p2
              have lp : (pre ++ [s]).length = pre.length + 1 := by rw [List.length_append]; rfl
              obtain ⟨S2, i1, i2, i3⟩ := ih (left - 2 ^ s) (pre ++ [s]) (nfV (F s) a + g) (sum + nfV (F s) a) (sI S 20 pre.length (iI (s : Int))) b b1 (fun t ht z => hsub t ht (b3 t ht z)) (by omega) (by rw [lp]; omega) (fun _ => by rw [lp]; omega) (by omega) (by rw [lp]; omega) h2 (by
                rcases hB with ⟨h1, h2, h3⟩ | ⟨h1, h2, h3, h4, h5⟩
                · exact Or.inl ⟨h1, by rw [sI_ne (by decide)]; exact h2, by rw [sI_ne (by decide)]; exact h3⟩
                · exact Or.inr ⟨h1, by rw [sI_ne (by decide)]; exact h2, by rw [sI_ne (by decide)]; exact h3, h4, fun i hi => by rw [sI_ne (by decide)]; exact h5 i hi⟩) (fun i hi => by
                rw [lp] at hi
                by_cases hi2 : i = pre.length
                · subst hi2
                  rw [sI_eq]
                  congr 2
                  simp [List.getD]
                · rw [sI_nj hi2, hS i (by omega)]
                  congr 2
                  rw [List.getD_eq_getElem?_getD, List.getD_eq_getElem?_getD, List.getElem?_append_left (by omega)]) (by rw [sI_ne (by decide)]; exact hg5)
              rw [lp] at i1 i3
              have fd1 : FDy pre.length S S2 := by
                refine ⟨fun k h1 h2 h3 => ?_, ?_, i3.2.2.1, fun i hi => ?_⟩
                · rw [i3.1 k h1 h2 h3, sI_o h2]
                · rw [i3.2.1, sI_ne (by decide)]
                · rw [i3.2.2.2 i (by omega), sI_nj (by omega)]
              obtain ⟨S3, j1, j2, j3⟩ := ik n S2 _ (by omega) (by omega) (by rw [i3.2.2.1]; exact h2) i2 (fun i hi => by rw [fd1.2.2.2 i hi]; exact hS i hi) (by rw [fd1.2.1]; exact hg5)
              refine ⟨S3, ?_, j2, fd1.tr j3⟩
              rw [show f_X0_tryNext d (sI S 20 pre.length (iI (s : Int))) (iI ((pre.length + 1 : Nat) : Int)) (iI ((left - 2 ^ s : Nat) : Int)) (iI ((nfV (F s) a : Int) + (g : Int))) (iI ((sum : Int) + (nfV (F s) a : Int))) = some S2 from i1, Option.bind_some]
              exact j1
            · rw [if_neg hn2, fold_no hn2]
              exact ik n S b (by omega) (by omega) h2 hB hS hg5
          · rw [if_neg hb, if_neg hb]
            exact ik n S b (by omega) (by omega) h2 hB hS hg5
      exact loop 6 FU S b (by omega) (by show 6 < 20000; omega) h2 hB hS hg5
