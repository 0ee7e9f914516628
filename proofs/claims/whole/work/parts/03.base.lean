/-! Ints of the machine as whole numbers: iI z is the int of z -/
def iI (z : Int) : Int32 := Int32.ofInt z
theorem iI_add (x y : Int) : iI x + iI y = iI (x + y) := (Int32.ofInt_add x y).symm
theorem iI_sub (x y : Int) : iI x - iI y = iI (x - y) := (Int32.ofInt_sub x y).symm
theorem iI_mul (x y : Int) : iI x * iI y = iI (x * y) := (Int32.ofInt_mul x y).symm
theorem iI_neg (x : Int) : - iI x = iI (-x) := (Int32.ofInt_neg x).symm
theorem iI_toInt {z : Int} (h : -2147483648 ≤ z ∧ z < 2147483648) : (iI z).toInt = z := Int32.toInt_ofInt_of_le (by show -2147483648 ≤ z; exact h.1) (by show z < 2147483648; exact h.2)
theorem iI_of (x : Int32) : iI x.toInt = x := Int32.ofInt_toInt x
theorem iI_rng (x : Int32) : -2147483648 ≤ x.toInt ∧ x.toInt < 2147483648 := ⟨x.le_toInt, by have := x.toInt_lt; exact this⟩
theorem iI_lt {x y : Int} (hx : -2147483648 ≤ x ∧ x < 2147483648) (hy : -2147483648 ≤ y ∧ y < 2147483648) : iI x < iI y ↔ x < y := by
  rw [Int32.lt_iff_toInt_lt, iI_toInt hx, iI_toInt hy]
theorem iI_le {x y : Int} (hx : -2147483648 ≤ x ∧ x < 2147483648) (hy : -2147483648 ≤ y ∧ y < 2147483648) : iI x ≤ iI y ↔ x ≤ y := by
  rw [Int32.le_iff_toInt_le, iI_toInt hx, iI_toInt hy]
theorem iI_eq {x y : Int} (hx : -2147483648 ≤ x ∧ x < 2147483648) (hy : -2147483648 ≤ y ∧ y < 2147483648) : iI x = iI y ↔ x = y := by
  constructor
  · intro h
    have := congrArg Int32.toInt h
    rwa [iI_toInt hx, iI_toInt hy] at this
  · intro h
    rw [h]
theorem iI_nat (n : Nat) : iI (n : Int) = nI n := rfl
theorem iI_clamp {i : Int} (h0 : 0 ≤ i) (h : i < 2147483648) : (iI i).toNatClampNeg = i.toNat := by
  obtain ⟨n, rfl⟩ := Int.eq_ofNat_of_zero_le h0
  rw [iI_nat, nI_clamp (by omega)]
  rfl
theorem iI_in {i : Int} {n : Nat} (h : 0 ≤ i ∧ i < n) (hn : n < 2147483648) : vp_in (iI i) n := by
  rw [vp_in_iff, iI_toInt (by omega)]
  exact h
theorem iI_div {x y : Int} (hx : -2147483648 ≤ x ∧ x < 2147483648) (hy : -2147483648 ≤ y ∧ y < 2147483648) : iI x / iI y = iI (x.tdiv y) :=
  (Int32.ofInt_tdiv (by show -2147483648 ≤ x; exact hx.1) (by show x ≤ 2147483647; omega) (by show -2147483648 ≤ y; exact hy.1) (by show y ≤ 2147483647; omega)).symm
theorem iI_rem {x y : Int} (hx : -2147483648 ≤ x ∧ x < 2147483648) (hy : -2147483648 ≤ y ∧ y < 2147483648) : iI x - iI x / iI y * iI y = iI (x.tmod y) := by
  rw [iI_div hx hy, iI_mul, iI_sub, Int.tmod_def, Int.mul_comm]
theorem iI_ne0 {y : Int} (hy : -2147483648 ≤ y ∧ y < 2147483648) (h : y ≠ 0) : ¬ iI y = 0 := fun q => h ((iI_eq hy (by omega)).mp q)
/-! memories: a segment's ints (longs) by place -/
abbrev MT : Type := Nat → Int → Int
abbrev LT : Type := Nat → Int → Int64
def up {α : Type} (M : Nat → α) (k : Nat) (f : α) : Nat → α := fun j => if j = k then f else M j
def ue {α : Type} (f : Int → α) (i : Int) (v : α) : Int → α := fun j => if j = i then v else f j
theorem up_s {α : Type} {M : Nat → α} {k : Nat} {f : α} : up M k f k = f := if_pos rfl
theorem up_n {α : Type} {M : Nat → α} {k j : Nat} {f : α} (h : j ≠ k) : up M k f j = M j := if_neg h
theorem up_up {α : Type} (M : Nat → α) (k : Nat) (f g : α) : up (up M k f) k g = up M k g := by
  funext j
  unfold up
  split <;> rfl
theorem up_self {α : Type} (M : Nat → α) (k : Nat) : up M k (M k) = M := by
  funext j
  unfold up
  split
  · next h => rw [h]
  · rfl
theorem up_cm {α : Type} (M : Nat → α) {k k' : Nat} (h : k ≠ k') (f g : α) : up (up M k f) k' g = up (up M k' g) k f := by
  funext j
  unfold up
  by_cases h1 : j = k
  · subst h1; simp [h]
  · by_cases h2 : j = k' <;> simp [h1, h2]
theorem ue_s {α : Type} {f : Int → α} {i : Int} {v : α} : ue f i v i = v := if_pos rfl
theorem ue_n {α : Type} {f : Int → α} {i j : Int} {v : α} (h : j ≠ i) : ue f i v j = f j := if_neg h
theorem ue_ue {α : Type} (f : Int → α) (i : Int) (v w : α) : ue (ue f i v) i w = ue f i w := by
  funext j
  unfold ue
  split <;> rfl
theorem ue_self {α : Type} (f : Int → α) (i : Int) : ue f i (f i) = f := by
  funext j
  unfold ue
  split
  · next h => rw [h]
  · rfl
/-! worlds: where everything lies (D, the arrays' classes, the addresses, the statics' addresses, what may be written) -/
abbrev GT : Type := va_G × (Nat → ClassId) × (Nat → Nat) × (Nat → Nat) × (Nat → Prop)
def cy (G : GT) (k : Nat) : ClassId := G.2.1 k
def ad (G : GT) (k : Nat) : Nat := G.2.2.1 k
def sd (G : GT) (k : Nat) : Nat := G.2.2.2.1 k
def gA (G : GT) : Nat → Prop := G.2.2.2.2
def ar (n : Nat) (f : Int → Int) : vp_A := (n, .inl (fun j => iI (f (j : Int))))
def al (n : Nat) (f : Int → Int64) : vp_A := (n, .inr (.inl (fun j => f (j : Int))))
def ao (n : Nat) (g : Nat → Nat) : vp_A := (n, .inr (.inr (.inr (.inr (fun j => if j < n then some (g j) else none)))))
