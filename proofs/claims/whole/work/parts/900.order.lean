/-! ===== day: orders, in whole numbers ===== -/
def dfsR (rc : Nat → List (List Nat)) (left : Nat) : Nat → List (List Nat)
  | 0 => []
  | k + 1 => (if Nat.testBit left (5 - k) = true then (rc (left - 2 ^ (5 - k))).map (List.cons (5 - k)) else []) ++ dfsR rc left k
def dfs : Nat → Nat → List (List Nat)
  | 0, _ => []
  | d + 1, left => if left = 0 then [[]] else dfsR (dfs d) left 6
def pkV (o : Nat → Nat) : Nat → Nat
  | 0 => 0
  | c + 1 => if o c ≤ o (c + 1) then c + 1 else pkV o c
def pjV (o : Nat → Nat) (k : Nat) : Nat → Nat
  | 0 => 0
  | j + 1 => if o k ≤ o (j + 1) then j + 1 else pjV o k j
def swV (o : Nat → Nat) (a b : Nat) : Nat → Nat := fun i => if i = b then o a else if i = a then o b else o i
def rvV : Nat → (Nat → Nat) → Nat → Nat → (Nat → Nat)
  | 0, o, _, _ => o
  | f + 1, o, a, b => if b ≤ a then o else rvV f (swV o a b) (a + 1) (b - 1)
def nxO (o : Nat → Nat) (n : Nat) : Nat → Nat := rvV 6 (swV o (pkV o (n - 1) - 1) (pjV o (pkV o (n - 1) - 1) (n - 1))) (pkV o (n - 1)) (n - 1)
def nxL (p : List Nat) : Option (List Nat) := if pkV (fun i => p.getD i 0) (p.length - 1) = 0 then none else some ((List.range p.length).map (nxO (fun i => p.getD i 0) p.length))
def chn : List (List Nat) → Bool
  | [] => true
  | p :: l => (match l with | [] => decide (nxL p = none) | q :: _ => decide (nxL p = some q)) && chn l
def lsV (m : Nat) : List Nat := (List.range 6).filter (fun s => Nat.testBit m s)
def c6V (m : Nat) : Nat := cntV (fun s => Nat.testBit m s) 6
set_option maxRecDepth 100000 in
theorem ord_ok : ∀ m, m < 64 → 1 ≤ m → chn (dfs 7 m) = true ∧ (dfs 7 m).head? = some (lsV m) ∧ (dfs 7 m).all (fun p => decide (p.length = c6V m) && p.all (fun s => decide (s < 6) && Nat.testBit m s)) = true ∧ (lsV m).length = c6V m ∧ 1 ≤ c6V m ∧ c6V m ≤ 6 ∧ (dfs 7 m).length ≤ 720 := by decide +kernel
theorem bit_ok : ∀ m : Nat, m < 64 → ∀ s : Nat, s < 6 → (((iI (m : Int) >>> (iI (s : Int) &&& 31)) &&& 1) = if Nat.testBit m s = true then 1 else 0) ∧ (Nat.testBit m s = true → (m - 2 ^ s < 64 ∧ c6V (m - 2 ^ s) + 1 = c6V m ∧ (∀ t, t < 6 → Nat.testBit (m - 2 ^ s) t = true → Nat.testBit m t = true) ∧ iI (m : Int) &&& ((1 <<< (iI (s : Int) &&& 31)) ^^^ (-1)) = iI ((m - 2 ^ s : Nat) : Int))) := by decide +kernel
theorem c6_0 : ∀ m, m < 64 → 1 ≤ m → 1 ≤ c6V m := by decide +kernel
/-! the next start -/
def nfG (f : Nat → Bool) : Nat → Nat → Nat
  | 0, _ => 100000
  | k + 1, a => if f a = true then a else nfG f k (a + 1)
def nfV (f : Nat → Bool) (a : Nat) : Nat := nfG f (1440 - a) a
theorem nf_step (f : Nat → Bool) {a : Nat} (h : a < 1440) : nfV f a = if f a = true then a else nfV f (a + 1) := by
  unfold nfV
  rw [show 1440 - a = (1440 - (a + 1)) + 1 by omega]
  rfl
theorem nf_big (f : Nat → Bool) {a : Nat} (h : 1440 ≤ a) : nfV f a = 100000 := by
  unfold nfV
  rw [show 1440 - a = 0 by omega]
  rfl
theorem nf_spec (f : Nat → Bool) : ∀ (k a : Nat), 1440 ≤ a + k → a ≤ 1440 → 1440 - a = k → (nfV f a = 100000 ∧ ∀ i, a ≤ i → i < 1440 → f i = false) ∨ (a ≤ nfV f a ∧ nfV f a < 1440 ∧ f (nfV f a) = true ∧ ∀ i, a ≤ i → i < nfV f a → f i = false) := by
  intro k
  induction k with
  | zero => intro a h1 h2 h3; exact Or.inl ⟨nf_big f (by omega), fun i g1 g2 => by omega⟩
  | succ k ih =>
    intro a h1 h2 h3
    rw [nf_step f (a := a) (by omega)]
    by_cases h : f a = true
    · rw [if_pos h]
      exact Or.inr ⟨Nat.le_refl a, by omega, h, fun i g1 g2 => by omega⟩
    · rw [if_neg h]
      have hf : f a = false := Bool.eq_false_iff.mpr h
      rcases ih (a + 1) (by omega) (by omega) (by omega) with ⟨p1, p2⟩ | ⟨p1, p2, p3, p4⟩
      · refine Or.inl ⟨p1, fun i g1 g2 => ?_⟩
        by_cases hi : i = a
        · rw [hi]; exact hf
        · exact p2 i (by omega) g2
      · refine Or.inr ⟨by omega, p2, p3, fun i g1 g2 => ?_⟩
        by_cases hi : i = a
        · rw [hi]; exact hf
        · exact p4 i (by omega) g2
theorem nf_all (f : Nat → Bool) (a : Nat) : (nfV f a = 100000 ∧ ∀ i, a ≤ i → i < 1440 → f i = false) ∨ (a ≤ nfV f a ∧ nfV f a < 1440 ∧ f (nfV f a) = true ∧ ∀ i, a ≤ i → i < nfV f a → f i = false) := by
  by_cases h : a ≤ 1440
  · exact nf_spec f (1440 - a) a (by omega) h rfl
  · exact Or.inl ⟨nf_big f (by omega), fun i g1 g2 => by omega⟩
def cst (F : Nat → Nat → Bool) (g : Nat) : List Nat → Nat → Nat → Nat
  | [], _, sum => sum
  | s :: l, a, sum => if nfV (F s) a < 100000 then cst F g l (nfV (F s) a + g) (sum + nfV (F s) a) else 100000
def updB (b : Nat × List Nat) (c : Nat) (p : List Nat) : Nat × List Nat := if c < 100000 ∧ c < b.1 then (c, p) else b
theorem ff_row {S S0 : ST} (h2 : S.2 = S0.2) {s a : Nat} (hs : s < 6) (ha : a < 100000) {f : Nat → Bool} (hrow : ∀ t, t < 1472 → (bt S0 (167 + s) t = true ↔ t < 1440 ∧ f t = true)) : f_X7_firstFrom S (167 + s) (iI (a : Int)) = some (if nfV f a < 100000 then iI (nfV f a : Int) else -4) := by
  have hb : ∀ t, t < 1472 → (bt S (167 + s) t = true ↔ t < 1440 ∧ f t = true) := fun t ht => by
    rw [bt_cg (show S.2 (167 + s) = S0.2 (167 + s) by rw [h2])]
    exact hrow t ht
  rcases e_firstFrom (S := S) (k := 167 + s) (n := 23) (a := a) (alS s hs) (by omega) (by omega) ha with ⟨e, q1, q2, q3, q4, q5⟩ | ⟨q1, q2⟩
  · have he := (hb e (by omega)).mp q3
    rw [q5]
    rcases nf_all f a with ⟨p1, p2⟩ | ⟨p1, p2, p3, p4⟩
    · rw [p2 e q1 he.1] at he
      exact absurd he.2 (by decide)
    · have : nfV f a = e := by
        apply Classical.byContradiction
        intro hc
        by_cases hlt : nfV f a < e
        · have := q4 (nfV f a) p1 hlt
          rw [(hb (nfV f a) (by omega)).mpr ⟨p2, p3⟩] at this
          cases this
        · have := p4 e q1 (by omega)
          rw [he.2] at this
          cases this
      rw [this, if_pos (by omega)]
  · rw [q2]
    rcases nf_all f a with ⟨p1, p2⟩ | ⟨p1, p2, p3, p4⟩
    · rw [if_neg (by omega)]
    · have := q1 (nfV f a) p1 (by omega)
      rw [(hb (nfV f a) (by omega)).mpr ⟨p2, p3⟩] at this
      cases this
