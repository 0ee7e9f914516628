/-! ===== bitCount ===== -/
def uN (x : Int64) : Nat := x.toBitVec.toNat
theorem uN_lt (x : Int64) : uN x < 18446744073709551616 := x.toBitVec.isLt
theorem uN_us {x : Int64} {n : Nat} (h : n < 64) : uN (us64 x (iI (n : Int))) = uN x / 2 ^ n := by
  unfold uN
  rw [us_bv h, BitVec.toNat_ushiftRight, Nat.shiftRight_eq_div_pow]
theorem uN_and (x y : Int64) : uN (x &&& y) = uN x &&& uN y := by
  unfold uN
  rw [Int64.toBitVec_and, BitVec.toNat_and]
theorem uN_add {x y : Int64} (h : uN x + uN y < 18446744073709551616) : uN (x + y) = uN x + uN y := by
  unfold uN at h ⊢
  rw [Int64.toBitVec_add, BitVec.toNat_add]
  exact Nat.mod_eq_of_lt h
theorem uN_sub {x y : Int64} (h : uN y ≤ uN x) : uN (x - y) = uN x - uN y := by
  have h2 := uN_lt x
  unfold uN at h h2 ⊢
  rw [Int64.toBitVec_sub, BitVec.toNat_sub]
  omega
theorem by_lt : ∀ l : List Nat, (∀ r ∈ l, r < 256) → byV8 l < 256 ^ l.length := by
  intro l
  induction l with
  | nil => intro _; decide
  | cons r l ih =>
    intro h
    have hr := h r (List.mem_cons_self ..)
    have il := ih (fun x hx => h x (List.mem_cons_of_mem _ hx))
    show r + 256 * byV8 l < 256 ^ (l.length + 1)
    rw [Nat.pow_succ]
    omega
theorem by_lt3 : ∀ l : List Nat, (∀ r ∈ l, r ≤ 68) → 3 * byV8 l + 1 ≤ 256 ^ l.length := by
  intro l
  induction l with
  | nil => intro _; decide
  | cons r l ih =>
    intro h
    have hr := h r (List.mem_cons_self ..)
    have il := ih (fun x hx => h x (List.mem_cons_of_mem _ hx))
    show 3 * (r + 256 * byV8 l) + 1 ≤ 256 ^ (l.length + 1)
    rw [Nat.pow_succ]
    omega
theorem map_all {l : List Nat} {f : Nat → Nat} {P Q : Nat → Prop} (h : ∀ r ∈ l, P r) (g : ∀ r, P r → Q (f r)) : ∀ r ∈ l.map f, Q r := by
  intro r hr
  obtain ⟨a, h1, h2⟩ := List.mem_map.mp hr
  rw [← h2]
  exact g a (h a h1)
theorem bc_1 {x : Int64} {l : List Nat} (hx : uN x = byV8 l) (h8 : l.length = 8) (h : ∀ r ∈ l, r < 256) : uN (x - ((us64 x 1) &&& 6148914691236517205)) = byV8 (l.map s1b) := by
  have e : uN ((us64 x 1) &&& 6148914691236517205) = byV8 l / 2 &&& mkV8 85 l.length := by
    rw [uN_and, show us64 x 1 = us64 x (iI ((1 : Nat) : Int)) from rfl, uN_us (by omega), hx, h8]
    rfl
  rw [uN_sub, e, hx, st1 l h]
  rw [e, hx]
  exact Nat.le_trans Nat.and_le_left (Nat.div_le_self _ _)
theorem bc_2 {x : Int64} {l : List Nat} (hx : uN x = byV8 l) (h8 : l.length = 8) (h : ∀ r ∈ l, r < 256) (h2 : ∀ r ∈ l.map s2b, r ≤ 68) : uN ((x &&& 3689348814741910323) + ((us64 x 2) &&& 3689348814741910323)) = byV8 (l.map s2b) := by
  have e1 : uN (x &&& 3689348814741910323) = byV8 l &&& mkV8 51 l.length := by
    rw [uN_and, hx, h8]
    rfl
  have e2 : uN ((us64 x 2) &&& 3689348814741910323) = byV8 l / 4 &&& mkV8 51 l.length := by
    rw [uN_and, show us64 x 2 = us64 x (iI ((2 : Nat) : Int)) from rfl, uN_us (by omega), hx, h8]
    rfl
  have b := by_lt3 _ h2
  rw [List.length_map, h8, show (256 : Nat) ^ 8 = 18446744073709551616 from rfl] at b
  rw [uN_add, e1, e2, st2 l h]
  rw [e1, e2, st2 l h]
  omega
theorem bc_3 {x : Int64} {l : List Nat} (hx : uN x = byV8 l) (h8 : l.length = 8) (h : ∀ r ∈ l, r ≤ 68 ∧ r % 16 ≤ 4) : uN ((x + (us64 x 4)) &&& 1085102592571150095) = byV8 (l.map s3b) := by
  have e2 : uN (us64 x 4) = byV8 l / 16 := by
    rw [show us64 x 4 = us64 x (iI ((4 : Nat) : Int)) from rfl, uN_us (by omega), hx]
  have b := by_lt3 _ (fun r hr => (h r hr).1)
  rw [h8, show (256 : Nat) ^ 8 = 18446744073709551616 from rfl] at b
  have e3 : uN (x + us64 x 4) = byV8 l + byV8 l / 16 := by
    rw [uN_add, e2, hx]
    rw [e2, hx]
    omega
  rw [uN_and, e3, ← st3 l h, h8]
  rfl
theorem bc_sh {x : Int64} {n a b : Nat} (h : n < 64) (hx : uN x = a) (hb : b = a + a / 2 ^ n) (hl : b < 18446744073709551616) : uN (x + us64 x (iI (n : Int))) = b := by
  have e2 : uN (us64 x (iI (n : Int))) = a / 2 ^ n := by rw [uN_us h, hx]
  rw [uN_add, e2, hx, hb]
  rw [e2, hx, ← hb]
  exact hl
theorem bc_end {x : Int64} {d : Nat} (hx : uN x = d) : (x.toInt32) &&& 127 = iI ((d % 128 : Nat) : Int) := by
  rw [iI_nat]
  apply Int32.toBitVec_inj.mp
  rw [Int32.toBitVec_and, Int64.toBitVec_toInt32]
  apply BitVec.eq_of_toNat_eq
  rw [BitVec.toNat_and, BitVec.signExtend_eq_setWidth_of_le _ (by decide), BitVec.toNat_setWidth]
  show uN x % 2 ^ 32 &&& 127 = (BitVec.ofNat 32 (d % 128)).toNat
  rw [hx, BitVec.toNat_ofNat, show (127 : Nat) = 2 ^ 7 - 1 from rfl, Nat.and_two_pow_sub_one_eq_mod]
  omega
theorem bitCount_ok (x : Int64) : f_J13_bitCount_95d88 x = some (iI (cntV (fun i => x.toBitVec.getLsbD i) 64 : Int)) := by
  have e0 : uN x = byV8 (by8 (uN x)) := (by8_val (uN_lt x)).symm
  have a0 := by8_lt (uN x)
  have l0 : (by8 (uN x)).length = 8 := rfl
  have v1 := bc_1 e0 l0 a0
  have a1 : ∀ r ∈ (by8 (uN x)).map s1b, r < 256 := map_all a0 (fun r hr => (s1_one r hr).2)
  have l1 : ((by8 (uN x)).map s1b).length = 8 := rfl
  have a2 : ∀ r ∈ ((by8 (uN x)).map s1b).map s2b, r ≤ 68 ∧ r % 16 ≤ 4 := by
    rw [List.map_map]
    exact map_all a0 (fun r hr => (s2_one r hr).2)
  have v2 := bc_2 v1 l1 a1 (fun r hr => (a2 r hr).1)
  have l2 : (((by8 (uN x)).map s1b).map s2b).length = 8 := rfl
  have v3 := bc_3 v2 l2 a2
  have a3 : (((by8 (uN x)).map s1b).map s2b).map s3b = (by8 (uN x)).map (fun r => cntV (fun i => Nat.testBit r i) 8) := by
    rw [List.map_map, List.map_map]
    exact List.map_congr_left (fun r hr => pc_one r (a0 r hr))
  rw [a3] at v3
  obtain ⟨b, c, d, hb, hc, hd, k1, k2, k3, k4⟩ := sum8 (cnt_le (fun i => Nat.testBit (uN x % 256) i) 8) (cnt_le (fun i => Nat.testBit (uN x / 256 % 256) i) 8) (cnt_le (fun i => Nat.testBit (uN x / 65536 % 256) i) 8) (cnt_le (fun i => Nat.testBit (uN x / 16777216 % 256) i) 8) (cnt_le (fun i => Nat.testBit (uN x / 4294967296 % 256) i) 8) (cnt_le (fun i => Nat.testBit (uN x / 1099511627776 % 256) i) 8) (cnt_le (fun i => Nat.testBit (uN x / 281474976710656 % 256) i) 8) (cnt_le (fun i => Nat.testBit (uN x / 72057594037927936 % 256) i) 8)
  rw [← pc_by] at k4
  have v4 := bc_sh (n := 8) (by omega) v3 hb (Nat.lt_of_le_of_lt k3 (Nat.lt_of_le_of_lt k2 k1))
  have v5 := bc_sh (n := 16) (by omega) v4 hc (Nat.lt_of_le_of_lt k2 k1)
  have v6 := bc_sh (n := 32) (by omega) v5 hd k1
  have v7 := bc_end v6
  rw [k4] at v7
  unfold f_J13_bitCount_95d88
  rw [Option.bind_some, Option.bind_some, Option.bind_some, Option.bind_some, Option.bind_some, Option.bind_some]
  exact congrArg some v7
theorem bi_go {S : ST} {k n : Nat} (hk : al 3 k = n) (h0 : 0 < n) (hn : n ≤ 100) : ∀ (d w m : Nat), w + d = n → d < m → f_X7_bitsIn_4 S m k (iI (cntV (bt S k) (64 * w) : Int)) (iI (w : Int)) = some (iI (cntV (bt S k) (64 * n) : Int)) := by
  intro d
  induction d with
  | zero =>
    intro w m hw hm
    obtain ⟨m, rfl⟩ : ∃ m', m = m' + 1 := ⟨m - 1, by omega⟩
    have : w = n := by omega
    subst this
    rw [f_X7_bitsIn_4, lA3 hk h0, Option.bind_some, i_le (x := iI (w : Int)) (y := iI (w : Int)) rfl rfl (by omega) (by omega), if_pos (by omega)]
  | succ d ih =>
    intro w m hw hm
    obtain ⟨m, rfl⟩ : ∃ m', m = m' + 1 := ⟨m - 1, by omega⟩
    rw [f_X7_bitsIn_4, lA3 hk h0, Option.bind_some, i_le (x := iI (n : Int)) (y := iI (w : Int)) rfl rfl (by omega) (by omega), if_neg (by omega), rL_ok (n := w) rfl (by rw [hk]; omega) (by omega), Option.bind_some, bitCount_ok, Option.bind_some, i_next, iI_add]
    have e : cntV (bt S k) (64 * (w + 1)) = cntV (bt S k) (64 * w) + cntV (fun i => (S.2 k w).toBitVec.getLsbD i) 64 := by
      rw [show 64 * (w + 1) = 64 * w + 64 by omega, cnt_add]
      congr 1
      exact cnt_cg 64 (fun i hi => btw hi)
    have i1 := ih (w + 1) m (by omega) (by omega)
    rw [e] at i1
    exact i1
theorem e_bitsIn {S : ST} {k n : Nat} (hk : al 3 k = n) (h0 : 0 < n) (hn : n ≤ 100) : f_X7_bitsIn S k = some (iI (cntV (bt S k) (64 * n) : Int)) := by
  unfold f_X7_bitsIn
  exact bi_go hk h0 hn n 0 FU (by omega) (by show n < 20000; omega)
