/-! ===== how many bits: by bytes ===== -/
def cntV (f : Nat → Bool) : Nat → Nat
  | 0 => 0
  | n + 1 => cntV f n + (if f n = true then 1 else 0)
theorem cnt_add (f : Nat → Bool) (a : Nat) : ∀ b, cntV f (a + b) = cntV f a + cntV (fun i => f (a + i)) b
  | 0 => rfl
  | b + 1 => by
    show cntV f (a + b) + _ = cntV f a + (cntV (fun i => f (a + i)) b + _)
    rw [cnt_add f a b, Nat.add_assoc]
    rfl
theorem cnt_cg {f g : Nat → Bool} : ∀ n, (∀ i, i < n → f i = g i) → cntV f n = cntV g n
  | 0, _ => rfl
  | n + 1, h => by
    show cntV f n + _ = cntV g n + _
    rw [cnt_cg n (fun i hi => h i (by omega)), h n (by omega)]
theorem cnt_le (f : Nat → Bool) : ∀ n, cntV f n ≤ n
  | 0 => Nat.le_refl 0
  | n + 1 => by
    have := cnt_le f n
    show cntV f n + _ ≤ n + 1
    split <;> omega
def byV8 : List Nat → Nat
  | [] => 0
  | r :: l => r + 256 * byV8 l
def mkV8 (b : Nat) : Nat → Nat
  | 0 => 0
  | k + 1 => b + 256 * mkV8 b k
theorem and256 {a b c d : Nat} (hb : b < 256) (hd : d < 256) : (b + 256 * a) &&& (d + 256 * c) = (b &&& d) + 256 * (a &&& c) := by
  have h1 := Nat.and_div_two_pow (a := b + 256 * a) (b := d + 256 * c) (n := 8)
  have h2 := Nat.and_mod_two_pow (a := b + 256 * a) (b := d + 256 * c) (n := 8)
  rw [show (2 : Nat) ^ 8 = 256 from rfl] at h1 h2
  rw [show (b + 256 * a) / 256 = a by omega, show (d + 256 * c) / 256 = c by omega] at h1
  rw [show (b + 256 * a) % 256 = b by omega, show (d + 256 * c) % 256 = d by omega] at h2
  omega
def s1b (r : Nat) : Nat := r - (r / 2 &&& 85)
def s2b (r : Nat) : Nat := (r &&& 51) + (r / 4 &&& 51)
def s3b (r : Nat) : Nat := (r + r / 16) &&& 15
theorem s1_one : ∀ r, r < 256 → (∀ h, h < 2 → (r / 2 + 128 * h) &&& 85 = r / 2 &&& 85) ∧ s1b r < 256 := by decide +kernel
theorem s2_one : ∀ r, r < 256 → (∀ h, h < 4 → (r / 4 + 64 * h) &&& 51 = r / 4 &&& 51) ∧ s2b (s1b r) ≤ 68 ∧ s2b (s1b r) % 16 ≤ 4 := by decide +kernel
theorem s3_one : ∀ r, r < 69 → ∀ h, h < 16 → (r + r / 16 + 16 * h) &&& 15 = s3b r := by decide +kernel
theorem pc_one : ∀ r, r < 256 → s3b (s2b (s1b r)) = cntV (fun i => Nat.testBit r i) 8 := by decide +kernel
theorem and_le2 (a b : Nat) : a &&& b ≤ a := Nat.and_le_left
theorem st1 : ∀ l : List Nat, (∀ r ∈ l, r < 256) → byV8 l - (byV8 l / 2 &&& mkV8 85 l.length) = byV8 (l.map s1b) := by
  intro l
  induction l with
  | nil => intro _; rfl
  | cons r l ih =>
    intro h
    have hr := h r (List.mem_cons_self ..)
    have il := ih (fun x hx => h x (List.mem_cons_of_mem _ hx))
    show r + 256 * byV8 l - ((r + 256 * byV8 l) / 2 &&& (85 + 256 * mkV8 85 l.length)) = s1b r + 256 * byV8 (l.map s1b)
    rw [show (r + 256 * byV8 l) / 2 = (r / 2 + 128 * (byV8 l % 2)) + 256 * (byV8 l / 2) by omega, and256 (by omega) (by omega), (s1_one r hr).1 _ (by omega), ← il]
    have a1 := and_le2 (r / 2) 85
    have a2 := and_le2 (byV8 l / 2) (mkV8 85 l.length)
    unfold s1b
    omega
theorem st2 : ∀ l : List Nat, (∀ r ∈ l, r < 256) → (byV8 l &&& mkV8 51 l.length) + (byV8 l / 4 &&& mkV8 51 l.length) = byV8 (l.map s2b) := by
  intro l
  induction l with
  | nil => intro _; rfl
  | cons r l ih =>
    intro h
    have hr := h r (List.mem_cons_self ..)
    have il := ih (fun x hx => h x (List.mem_cons_of_mem _ hx))
    show (r + 256 * byV8 l &&& (51 + 256 * mkV8 51 l.length)) + ((r + 256 * byV8 l) / 4 &&& (51 + 256 * mkV8 51 l.length)) = s2b r + 256 * byV8 (l.map s2b)
    rw [show (r + 256 * byV8 l) / 4 = (r / 4 + 64 * (byV8 l % 4)) + 256 * (byV8 l / 4) by omega, and256 hr (by omega), and256 (by omega) (by omega), (s2_one r hr).1 _ (by omega), ← il]
    unfold s2b
    omega
theorem by_low : ∀ l : List Nat, (∀ r ∈ l, r ≤ 68 ∧ r % 16 ≤ 4) → byV8 l % 16 ≤ 4 := by
  intro l h
  cases l with
  | nil => show 0 % 16 ≤ 4; omega
  | cons r l =>
    have := h r (List.mem_cons_self ..)
    show (r + 256 * byV8 l) % 16 ≤ 4
    omega
theorem st3 : ∀ l : List Nat, (∀ r ∈ l, r ≤ 68 ∧ r % 16 ≤ 4) → (byV8 l + byV8 l / 16) &&& mkV8 15 l.length = byV8 (l.map s3b) := by
  intro l
  induction l with
  | nil => intro _; rfl
  | cons r l ih =>
    intro h
    have hr := h r (List.mem_cons_self ..)
    have h2 := fun x hx => h x (List.mem_cons_of_mem _ hx)
    have il := ih h2
    have lo := by_low l h2
    show (r + 256 * byV8 l + (r + 256 * byV8 l) / 16) &&& (15 + 256 * mkV8 15 l.length) = s3b r + 256 * byV8 (l.map s3b)
    rw [show r + 256 * byV8 l + (r + 256 * byV8 l) / 16 = (r + r / 16 + 16 * (byV8 l % 16)) + 256 * (byV8 l + byV8 l / 16) by omega, and256 (by omega) (by omega), s3_one r (by omega) _ (by omega), il]
def by8 (n : Nat) : List Nat := [n % 256, n / 256 % 256, n / 65536 % 256, n / 16777216 % 256, n / 4294967296 % 256, n / 1099511627776 % 256, n / 281474976710656 % 256, n / 72057594037927936 % 256]
theorem by8_val {n : Nat} (h : n < 18446744073709551616) : byV8 (by8 n) = n := by
  unfold by8
  simp only [byV8]
  omega
theorem by8_lt (n : Nat) : ∀ r ∈ by8 n, r < 256 := by
  intro r hr
  unfold by8 at hr
  simp only [List.mem_cons, List.not_mem_nil, or_false] at hr
  omega
def pcV8 (n : Nat) : Nat := cntV (fun i => Nat.testBit n i) 64
theorem tb_div (n k i : Nat) (h : i < 8) : Nat.testBit (n / 2 ^ k % 256) i = Nat.testBit n (k + i) := by
  rw [show (256 : Nat) = 2 ^ 8 from rfl, Nat.testBit_mod_two_pow, Nat.testBit_div_two_pow, decide_eq_true h, Bool.true_and, Nat.add_comm]
theorem pc_by {n : Nat} : pcV8 n = cntV (fun i => Nat.testBit (n % 256) i) 8 + cntV (fun i => Nat.testBit (n / 256 % 256) i) 8 + cntV (fun i => Nat.testBit (n / 65536 % 256) i) 8 + cntV (fun i => Nat.testBit (n / 16777216 % 256) i) 8 + cntV (fun i => Nat.testBit (n / 4294967296 % 256) i) 8 + cntV (fun i => Nat.testBit (n / 1099511627776 % 256) i) 8 + cntV (fun i => Nat.testBit (n / 281474976710656 % 256) i) 8 + cntV (fun i => Nat.testBit (n / 72057594037927936 % 256) i) 8 := by
  have e : ∀ k, cntV (fun i => Nat.testBit n (k + i)) 8 = cntV (fun i => Nat.testBit (n / 2 ^ k % 256) i) 8 := fun k => cnt_cg 8 (fun i hi => (tb_div n k i hi).symm)
  have f0 := e 0
  have f1 := e 8
  have f2 := e 16
  have f3 := e 24
  have f4 := e 32
  have f5 := e 40
  have f6 := e 48
  have f7 := e 56
  simp only [Nat.zero_add, show (2 : Nat) ^ 0 = 1 from rfl, Nat.div_one] at f0
  rw [show (2 : Nat) ^ 8 = 256 from rfl] at f1
  rw [show (2 : Nat) ^ 16 = 65536 from rfl] at f2
  rw [show (2 : Nat) ^ 24 = 16777216 from rfl] at f3
  rw [show (2 : Nat) ^ 32 = 4294967296 from rfl] at f4
  rw [show (2 : Nat) ^ 40 = 1099511627776 from rfl] at f5
  rw [show (2 : Nat) ^ 48 = 281474976710656 from rfl] at f6
  rw [show (2 : Nat) ^ 56 = 72057594037927936 from rfl] at f7
  unfold pcV8
  rw [show (64 : Nat) = 56 + 8 from rfl, cnt_add, show (56 : Nat) = 48 + 8 from rfl, cnt_add, show (48 : Nat) = 40 + 8 from rfl, cnt_add, show (40 : Nat) = 32 + 8 from rfl, cnt_add, show (32 : Nat) = 24 + 8 from rfl, cnt_add, show (24 : Nat) = 16 + 8 from rfl, cnt_add, show (16 : Nat) = 8 + 8 from rfl, cnt_add]
  rw [← f0, ← f1, ← f2, ← f3, ← f4, ← f5, ← f6, ← f7]
theorem dv8 {x y : Nat} (h : x < 256) : (x + 256 * y) / 256 = y := by omega
theorem dv16 {x y z : Nat} (h : x < 256) (g : y < 256) : (x + 256 * (y + 256 * z)) / 65536 = z := by omega
theorem dv32 {x y z w u : Nat} (h : x < 256) (g : y < 256) (h2 : z < 256) (g2 : w < 256) : (x + 256 * (y + 256 * (z + 256 * (w + 256 * u)))) / 4294967296 = u := by omega
theorem ad8 (x y x' y' : Nat) : (x + 256 * y) + (x' + 256 * y') = (x + x') + 256 * (y + y') := by omega
theorem ad0 (x y z : Nat) : (x + 256 * y) + z = (x + z) + 256 * y := by omega
theorem lt8 {x y N : Nat} (h : x < 256) (g : y < N) : x + 256 * y < 256 * N := by omega
theorem sm2 {p0 p1 p2 p3 p4 p5 p6 p7 : Nat} : p0 + 256 * (p1 + 256 * (p2 + 256 * (p3 + 256 * (p4 + 256 * (p5 + 256 * (p6 + 256 * (p7))))))) + (p1 + 256 * (p2 + 256 * (p3 + 256 * (p4 + 256 * (p5 + 256 * (p6 + 256 * (p7))))))) = (p0 + p1) + 256 * ((p1 + p2) + 256 * ((p2 + p3) + 256 * ((p3 + p4) + 256 * ((p4 + p5) + 256 * ((p5 + p6) + 256 * ((p6 + p7) + 256 * (p7))))))) := by
  rw [ad8, ad8, ad8, ad8, ad8, ad8, ad0]
theorem sm4 {p0 p1 p2 p3 p4 p5 p6 p7 : Nat} : p0 + 256 * (p1 + 256 * (p2 + 256 * (p3 + 256 * (p4 + 256 * (p5 + 256 * (p6 + 256 * (p7))))))) + (p2 + 256 * (p3 + 256 * (p4 + 256 * (p5 + 256 * (p6 + 256 * (p7)))))) = (p0 + p2) + 256 * ((p1 + p3) + 256 * ((p2 + p4) + 256 * ((p3 + p5) + 256 * ((p4 + p6) + 256 * ((p5 + p7) + 256 * (p6 + 256 * (p7))))))) := by
  rw [ad8, ad8, ad8, ad8, ad8, ad0]
theorem sm6 {p0 p1 p2 p3 p4 p5 p6 p7 : Nat} : p0 + 256 * (p1 + 256 * (p2 + 256 * (p3 + 256 * (p4 + 256 * (p5 + 256 * (p6 + 256 * (p7))))))) + (p4 + 256 * (p5 + 256 * (p6 + 256 * (p7)))) = (p0 + p4) + 256 * ((p1 + p5) + 256 * ((p2 + p6) + 256 * ((p3 + p7) + 256 * (p4 + 256 * (p5 + 256 * (p6 + 256 * (p7))))))) := by
  rw [ad8, ad8, ad8, ad0]
theorem sum8 {p0 p1 p2 p3 p4 p5 p6 p7 : Nat} (h0 : p0 ≤ 8) (h1 : p1 ≤ 8) (h2 : p2 ≤ 8) (h3 : p3 ≤ 8) (h4 : p4 ≤ 8) (h5 : p5 ≤ 8) (h6 : p6 ≤ 8) (h7 : p7 ≤ 8) : ∃ b c d, b = byV8 [p0, p1, p2, p3, p4, p5, p6, p7] + byV8 [p0, p1, p2, p3, p4, p5, p6, p7] / 256 ∧ c = b + b / 65536 ∧ d = c + c / 4294967296 ∧ d < 18446744073709551616 ∧ c ≤ d ∧ b ≤ c ∧ d % 128 = p0 + p1 + p2 + p3 + p4 + p5 + p6 + p7 := by
  have e1 : byV8 [p0, p1, p2, p3, p4, p5, p6, p7] / 256 = p1 + 256 * (p2 + 256 * (p3 + 256 * (p4 + 256 * (p5 + 256 * (p6 + 256 * (p7)))))) := dv8 (by omega)
  obtain ⟨b, hb⟩ : ∃ b, b = byV8 [p0, p1, p2, p3, p4, p5, p6, p7] + byV8 [p0, p1, p2, p3, p4, p5, p6, p7] / 256 := ⟨_, rfl⟩
  have hb' : b = (p0 + p1) + 256 * ((p1 + p2) + 256 * ((p2 + p3) + 256 * ((p3 + p4) + 256 * ((p4 + p5) + 256 * ((p5 + p6) + 256 * ((p6 + p7) + 256 * (p7))))))) := by
    rw [hb, e1]
    exact sm2
  have k0 : p0 + p1 < 256 := by clear hb hb' e1; omega
  have k1 : p1 + p2 < 256 := by clear hb hb' e1; omega
  have e2 : b / 65536 = (p2 + p3) + 256 * ((p3 + p4) + 256 * ((p4 + p5) + 256 * ((p5 + p6) + 256 * ((p6 + p7) + 256 * (p7))))) := by rw [hb']; exact dv16 k0 k1
  obtain ⟨c, hc⟩ : ∃ c, c = b + b / 65536 := ⟨_, rfl⟩
  have hc' : c = ((p0 + p1) + (p2 + p3)) + 256 * (((p1 + p2) + (p3 + p4)) + 256 * (((p2 + p3) + (p4 + p5)) + 256 * (((p3 + p4) + (p5 + p6)) + 256 * (((p4 + p5) + (p6 + p7)) + 256 * (((p5 + p6) + p7) + 256 * ((p6 + p7) + 256 * (p7))))))) := by
    rw [hc, e2, hb']
    exact sm4
  have l0 : (p0 + p1) + (p2 + p3) ≤ 32 ∧ (p1 + p2) + (p3 + p4) ≤ 32 ∧ (p2 + p3) + (p4 + p5) ≤ 32 ∧ (p3 + p4) + (p5 + p6) ≤ 32 ∧ (p4 + p5) + (p6 + p7) ≤ 32 ∧ (p5 + p6) + p7 ≤ 32 ∧ p6 + p7 ≤ 32 := by clear hb hb' e1 hc hc' e2; omega
  have e3 : c / 4294967296 = ((p4 + p5) + (p6 + p7)) + 256 * (((p5 + p6) + p7) + 256 * ((p6 + p7) + 256 * (p7))) := by rw [hc']; exact dv32 (Nat.lt_of_le_of_lt l0.1 (by decide)) (Nat.lt_of_le_of_lt l0.2.1 (by decide)) (Nat.lt_of_le_of_lt l0.2.2.1 (by decide)) (Nat.lt_of_le_of_lt l0.2.2.2.1 (by decide))
  obtain ⟨d, hd⟩ : ∃ d, d = c + c / 4294967296 := ⟨_, rfl⟩
  have hd' : d = (((p0 + p1) + (p2 + p3)) + ((p4 + p5) + (p6 + p7))) + 256 * ((((p1 + p2) + (p3 + p4)) + ((p5 + p6) + p7)) + 256 * ((((p2 + p3) + (p4 + p5)) + (p6 + p7)) + 256 * ((((p3 + p4) + (p5 + p6)) + p7) + 256 * (((p4 + p5) + (p6 + p7)) + 256 * (((p5 + p6) + p7) + 256 * ((p6 + p7) + 256 * (p7))))))) := by
    rw [hd, e3, hc']
    exact sm6
  refine ⟨b, c, d, hb, hc, hd, ?_, by rw [hd]; exact Nat.le_add_right _ _, by rw [hc]; exact Nat.le_add_right _ _, ?_⟩
  · clear hb hb' e1 hc hc' e2 hd e3
    rw [hd', show (18446744073709551616 : Nat) = 256 * (256 * (256 * (256 * (256 * (256 * (256 * 256)))))) from rfl]
    clear hd'
    exact lt8 (by omega) (lt8 (by omega) (lt8 (by omega) (lt8 (by omega) (lt8 (by omega) (lt8 (by omega) (lt8 (by omega) (by omega)))))))
  · clear hb hb' e1 hc hc' e2 hd e3
    rw [hd']
    clear hd'
    generalize (((p1 + p2) + (p3 + p4)) + ((p5 + p6) + p7)) + 256 * ((((p2 + p3) + (p4 + p5)) + (p6 + p7)) + 256 * ((((p3 + p4) + (p5 + p6)) + p7) + 256 * (((p4 + p5) + (p6 + p7)) + 256 * (((p5 + p6) + p7) + 256 * ((p6 + p7) + 256 * (p7)))))) = X
    omega
