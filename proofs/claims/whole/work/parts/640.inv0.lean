/-! ===== at the start ===== -/
def A0 : PT := ((0, 0), fun _ => 0, fun _ => 0, fun i => if i = 4 then 5 else 0, fun _ => 0)
theorem st5_A : ∀ i, i < 5 → st5 i = iI (se A0 i) := by decide
theorem ln4_A : ∀ k, k < 4 → ln4 k = iI (-1) := by decide
theorem inv0 : Inv S0 := by
  refine ⟨⟨A0, ⟨⟨by decide, by decide⟩, fun j hj => absurd hj (Nat.not_lt_zero j), fun i _ => ⟨Int.le_refl 0, (by decide : (0 : Int) ≤ 99)⟩, ⟨⟨by decide, by decide⟩, ⟨by decide, by decide⟩, ⟨by decide, by decide⟩, ⟨by decide, by decide⟩, ⟨by decide, by decide⟩⟩, fun j hj => absurd hj (Nat.not_lt_zero j)⟩, ⟨⟨rfl, rfl⟩, fun i _ => rfl, st5_A, fun i hi => absurd hi (Nat.not_lt_zero i), fun i hi => absurd hi (Nat.not_lt_zero i)⟩, ⟨⟨rfl, rfl⟩, fun i _ => rfl, st5_A, fun i hi => absurd hi (Nat.not_lt_zero i), fun i hi => absurd hi (Nat.not_lt_zero i)⟩⟩, Or.inl ⟨rfl, rfl⟩, ⟨0, fun _ => 0, by decide, rfl, rfl, fun i hi => absurd hi (Nat.not_lt_zero i)⟩, fun k hk => ?_, Or.inl rfl⟩
  refine ⟨-1, 0, by decide, by decide, ln4_A k hk, ln4_A k hk, rfl, rfl, fun i hi => ?_⟩
  have h : k = 0 ∨ k = 1 ∨ k = 2 ∨ k = 3 := by omega
  rcases h with rfl | rfl | rfl | rfl <;> rfl
