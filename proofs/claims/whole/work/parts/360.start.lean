theorem NW_in : ∀ w ∈ NW, w ∈ lw_tbl := List.forall_mem_cons.mpr ⟨(List.mem_append_right _ (show _ ∈ tables_1 from (List.mem_append_left _ (List.mem_of_getElem? (i := 24) (by decide +kernel))))), List.forall_mem_cons.mpr ⟨(List.mem_append_right _ (show _ ∈ tables_1 from (List.mem_append_left _ (List.mem_of_getElem? (i := 122) (by decide +kernel))))), List.forall_mem_cons.mpr ⟨(List.mem_append_right _ (show _ ∈ tables_1 from (List.mem_append_left _ (List.mem_of_getElem? (i := 146) (by decide +kernel))))), List.forall_mem_cons.mpr ⟨(List.mem_append_right _ (show _ ∈ tables_1 from (List.mem_append_left _ (List.mem_of_getElem? (i := 172) (by decide +kernel))))), List.forall_mem_cons.mpr ⟨(List.mem_append_right _ (show _ ∈ tables_1 from (List.mem_append_left _ (List.mem_of_getElem? (i := 196) (by decide +kernel))))), List.forall_mem_cons.mpr ⟨(List.mem_append_right _ (show _ ∈ tables_1 from (List.mem_append_right _ (List.mem_append_left _ (List.mem_of_getElem? (i := 76) (by decide +kernel)))))), List.forall_mem_cons.mpr ⟨(List.mem_append_right _ (show _ ∈ tables_1 from (List.mem_append_right _ (List.mem_append_left _ (List.mem_of_getElem? (i := 98) (by decide +kernel)))))), List.forall_mem_cons.mpr ⟨(List.mem_append_right _ (show _ ∈ tables_1 from (List.mem_append_right _ (List.mem_append_left _ (List.mem_of_getElem? (i := 99) (by decide +kernel)))))), List.forall_mem_cons.mpr ⟨(List.mem_append_right _ (show _ ∈ tables_1 from (List.mem_append_right _ (List.mem_append_right _ (List.mem_append_left _ (List.mem_of_getElem? (i := 27) (by decide +kernel))))))), List.forall_mem_cons.mpr ⟨(List.mem_append_right _ (show _ ∈ tables_1 from (List.mem_append_right _ (List.mem_append_right _ (List.mem_append_left _ (List.mem_of_getElem? (i := 57) (by decide +kernel))))))), List.forall_mem_cons.mpr ⟨(List.mem_append_right _ (show _ ∈ tables_1 from (List.mem_append_right _ (List.mem_append_right _ (List.mem_append_left _ (List.mem_of_getElem? (i := 58) (by decide +kernel))))))), List.forall_mem_cons.mpr ⟨(List.mem_append_right _ (show _ ∈ tables_1 from (List.mem_append_right _ (List.mem_append_right _ (List.mem_append_left _ (List.mem_of_getElem? (i := 86) (by decide +kernel))))))), List.forall_mem_cons.mpr ⟨(List.mem_append_right _ (show _ ∈ tables_1 from (List.mem_append_right _ (List.mem_append_right _ (List.mem_append_left _ (List.mem_of_getElem? (i := 88) (by decide +kernel))))))), List.forall_mem_cons.mpr ⟨(List.mem_append_right _ (show _ ∈ tables_1 from (List.mem_append_right _ (List.mem_append_right _ (List.mem_append_left _ (List.mem_of_getElem? (i := 114) (by decide +kernel))))))), List.forall_mem_cons.mpr ⟨(List.mem_append_right _ (show _ ∈ tables_1 from (List.mem_append_right _ (List.mem_append_right _ (List.mem_append_left _ (List.mem_of_getElem? (i := 117) (by decide +kernel))))))), List.forall_mem_cons.mpr ⟨(List.mem_append_right _ (show _ ∈ tables_1 from (List.mem_append_right _ (List.mem_append_right _ (List.mem_append_left _ (List.mem_of_getElem? (i := 201) (by decide +kernel))))))), List.forall_mem_cons.mpr ⟨(List.mem_append_right _ (show _ ∈ tables_1 from (List.mem_append_right _ (List.mem_append_right _ (List.mem_append_right _ (List.mem_append_left _ (List.mem_of_getElem? (i := 7) (by decide +kernel)))))))), fun _ h => absurd h List.not_mem_nil⟩⟩⟩⟩⟩⟩⟩⟩⟩⟩⟩⟩⟩⟩⟩⟩⟩
theorem aoJ_in : Cond.arrayOver (.array .long) ∈ lw_tbl := (List.mem_append_right _ (show _ ∈ tables_1 from (List.mem_append_left _ (List.mem_of_getElem? (i := 121) (by decide +kernel)))))
theorem aoI_in : Cond.arrayOver (.array .int) ∈ lw_tbl := (List.mem_append_right _ (show _ ∈ tables_1 from (List.mem_append_left _ (List.mem_of_getElem? (i := 201) (by decide +kernel)))))
theorem ls_PACES : Cond.laysStatic "DeepShip" "PACES" "[I" ∈ lw_tbl := (List.mem_append_right _ (show _ ∈ tables_1 from (List.mem_append_left _ (List.mem_of_getElem? (i := 123) (by decide +kernel)))))
theorem ls_TAKES : Cond.laysStatic "DeepShip" "TAKES" "[I" ∈ lw_tbl := (List.mem_append_right _ (show _ ∈ tables_1 from (List.mem_append_right _ (List.mem_append_right _ (List.mem_append_left _ (List.mem_of_getElem? (i := 87) (by decide +kernel)))))))
theorem ls_LOWEST_MARK : Cond.laysStatic "DeepShip" "LOWEST_MARK" "[I" ∈ lw_tbl := (List.mem_append_right _ (show _ ∈ tables_1 from (List.mem_append_right _ (List.mem_append_left _ (List.mem_of_getElem? (i := 11) (by decide +kernel))))))
theorem ls_HIGHEST_MARK : Cond.laysStatic "DeepShip" "HIGHEST_MARK" "[I" ∈ lw_tbl := (List.mem_append_right _ (show _ ∈ tables_1 from (List.mem_append_right _ (List.mem_append_left _ (List.mem_of_getElem? (i := 13) (by decide +kernel))))))
theorem ls_HIGHEST_SETTING : Cond.laysStatic "DeepShip" "HIGHEST_SETTING" "[I" ∈ lw_tbl := (List.mem_append_right _ (show _ ∈ tables_1 from (List.mem_append_right _ (List.mem_append_left _ (List.mem_of_getElem? (i := 52) (by decide +kernel))))))
set_option maxRecDepth 100000 in
theorem st_PACES {b : Nat} {s : State} {A : Nat → Prop} (hl : (Cond.laysStatic "DeepShip" "PACES" "[I").before #[Value.ref b] s = true) (hi : (Cond.initialized "DeepShip").before #[Value.ref b] s = true) (hgv : (Jvm.Cond.and given_1 narrow_1).before #[Value.ref b] s = true) (hA : ∀ a : Nat, a < s.heap.size → ¬ A a) : ∃ t : Nat, va_Z "DeepShip" (sn 0) "[I" (.ref t) A s s.heap ∧ va_T .int t (sN 0) (fun i => .int (sv 0 i)) A s s.heap := by
  have hs := flat_of_before _ hgv
  have hel : ∀ i : Nat, i < 11 → (Term.elem (Term.static "DeepShip" "PACES" "[I") (.int (Int32.ofNat i))).eval #[Value.ref b] s none [] s = some (.int (sv 0 i)) := by
    intro i hi
    rcases (show i = 0 ∨ i = 1 ∨ i = 2 ∨ i = 3 ∨ i = 4 ∨ i = 5 ∨ i = 6 ∨ i = 7 ∨ i = 8 ∨ i = 9 ∨ i = 10 by omega) with rfl | rfl | rfl | rfl | rfl | rfl | rfl | rfl | rfl | rfl | rfl
    · exact va_eqt (t := Term.elem (Term.static "DeepShip" "PACES" "[I") (.int 0)) (z := 1) (hs _ (by decide +kernel))
    · exact va_eqt (t := Term.elem (Term.static "DeepShip" "PACES" "[I") (.int 1)) (z := 2) (hs _ (by decide +kernel))
    · exact va_eqt (t := Term.elem (Term.static "DeepShip" "PACES" "[I") (.int 2)) (z := 3) (hs _ (by decide +kernel))
    · exact va_eqt (t := Term.elem (Term.static "DeepShip" "PACES" "[I") (.int 3)) (z := 4) (hs _ (by decide +kernel))
    · exact va_eqt (t := Term.elem (Term.static "DeepShip" "PACES" "[I") (.int 4)) (z := 5) (hs _ (by decide +kernel))
    · exact va_eqt (t := Term.elem (Term.static "DeepShip" "PACES" "[I") (.int 5)) (z := 6) (hs _ (by decide +kernel))
    · exact va_eqt (t := Term.elem (Term.static "DeepShip" "PACES" "[I") (.int 6)) (z := 7) (hs _ (by decide +kernel))
    · exact va_eqt (t := Term.elem (Term.static "DeepShip" "PACES" "[I") (.int 7)) (z := 8) (hs _ (by decide +kernel))
    · exact va_eqt (t := Term.elem (Term.static "DeepShip" "PACES" "[I") (.int 8)) (z := 9) (hs _ (by decide +kernel))
    · exact va_eqt (t := Term.elem (Term.static "DeepShip" "PACES" "[I") (.int 9)) (z := 11) (hs _ (by decide +kernel))
    · exact va_eqt (t := Term.elem (Term.static "DeepShip" "PACES" "[I") (.int 10)) (z := 13) (hs _ (by decide +kernel))
  obtain ⟨t, h1, h2⟩ := va_Tof (tm := (Term.static "DeepShip" "PACES" "[I")) (ty := .int) (N := 11) (f := fun i => .int (sv 0 i)) (A := A) (by decide) (hs _ (by decide +kernel)) (va_eqt (z := 11) (hs _ (by decide +kernel))) hel hA
  exact ⟨t, va_Zof hl hi h1 hA, h2⟩
set_option maxRecDepth 100000 in
theorem st_TAKES {b : Nat} {s : State} {A : Nat → Prop} (hl : (Cond.laysStatic "DeepShip" "TAKES" "[I").before #[Value.ref b] s = true) (hi : (Cond.initialized "DeepShip").before #[Value.ref b] s = true) (hgv : (Jvm.Cond.and given_1 narrow_1).before #[Value.ref b] s = true) (hA : ∀ a : Nat, a < s.heap.size → ¬ A a) : ∃ t : Nat, va_Z "DeepShip" (sn 1) "[I" (.ref t) A s s.heap ∧ va_T .int t (sN 1) (fun i => .int (sv 1 i)) A s s.heap := by
  have hs := flat_of_before _ hgv
  have hel : ∀ i : Nat, i < 11 → (Term.elem (Term.static "DeepShip" "TAKES" "[I") (.int (Int32.ofNat i))).eval #[Value.ref b] s none [] s = some (.int (sv 1 i)) := by
    intro i hi
    rcases (show i = 0 ∨ i = 1 ∨ i = 2 ∨ i = 3 ∨ i = 4 ∨ i = 5 ∨ i = 6 ∨ i = 7 ∨ i = 8 ∨ i = 9 ∨ i = 10 by omega) with rfl | rfl | rfl | rfl | rfl | rfl | rfl | rfl | rfl | rfl | rfl
    · exact va_eqt (t := Term.elem (Term.static "DeepShip" "TAKES" "[I") (.int 0)) (z := 60) (hs _ (by decide +kernel))
    · exact va_eqt (t := Term.elem (Term.static "DeepShip" "TAKES" "[I") (.int 1)) (z := 30) (hs _ (by decide +kernel))
    · exact va_eqt (t := Term.elem (Term.static "DeepShip" "TAKES" "[I") (.int 2)) (z := 20) (hs _ (by decide +kernel))
    · exact va_eqt (t := Term.elem (Term.static "DeepShip" "TAKES" "[I") (.int 3)) (z := 15) (hs _ (by decide +kernel))
    · exact va_eqt (t := Term.elem (Term.static "DeepShip" "TAKES" "[I") (.int 4)) (z := 12) (hs _ (by decide +kernel))
    · exact va_eqt (t := Term.elem (Term.static "DeepShip" "TAKES" "[I") (.int 5)) (z := 10) (hs _ (by decide +kernel))
    · exact va_eqt (t := Term.elem (Term.static "DeepShip" "TAKES" "[I") (.int 6)) (z := 8) (hs _ (by decide +kernel))
    · exact va_eqt (t := Term.elem (Term.static "DeepShip" "TAKES" "[I") (.int 7)) (z := 7) (hs _ (by decide +kernel))
    · exact va_eqt (t := Term.elem (Term.static "DeepShip" "TAKES" "[I") (.int 8)) (z := 6) (hs _ (by decide +kernel))
    · exact va_eqt (t := Term.elem (Term.static "DeepShip" "TAKES" "[I") (.int 9)) (z := 5) (hs _ (by decide +kernel))
    · exact va_eqt (t := Term.elem (Term.static "DeepShip" "TAKES" "[I") (.int 10)) (z := 4) (hs _ (by decide +kernel))
  obtain ⟨t, h1, h2⟩ := va_Tof (tm := (Term.static "DeepShip" "TAKES" "[I")) (ty := .int) (N := 11) (f := fun i => .int (sv 1 i)) (A := A) (by decide) (hs _ (by decide +kernel)) (va_eqt (z := 11) (hs _ (by decide +kernel))) hel hA
  exact ⟨t, va_Zof hl hi h1 hA, h2⟩
set_option maxRecDepth 100000 in
theorem st_LOWEST_MARK {b : Nat} {s : State} {A : Nat → Prop} (hl : (Cond.laysStatic "DeepShip" "LOWEST_MARK" "[I").before #[Value.ref b] s = true) (hi : (Cond.initialized "DeepShip").before #[Value.ref b] s = true) (hgv : (Jvm.Cond.and given_1 narrow_1).before #[Value.ref b] s = true) (hA : ∀ a : Nat, a < s.heap.size → ¬ A a) : ∃ t : Nat, va_Z "DeepShip" (sn 2) "[I" (.ref t) A s s.heap ∧ va_T .int t (sN 2) (fun i => .int (sv 2 i)) A s s.heap := by
  have hs := flat_of_before _ hgv
  have hel : ∀ i : Nat, i < 5 → (Term.elem (Term.static "DeepShip" "LOWEST_MARK" "[I") (.int (Int32.ofNat i))).eval #[Value.ref b] s none [] s = some (.int (sv 2 i)) := by
    intro i hi
    rcases (show i = 0 ∨ i = 1 ∨ i = 2 ∨ i = 3 ∨ i = 4 by omega) with rfl | rfl | rfl | rfl | rfl
    · exact va_eqt (t := Term.elem (Term.static "DeepShip" "LOWEST_MARK" "[I") (.int 0)) (z := 20) (hs _ (by decide +kernel))
    · exact va_eqt (t := Term.elem (Term.static "DeepShip" "LOWEST_MARK" "[I") (.int 1)) (z := 10) (hs _ (by decide +kernel))
    · exact va_eqt (t := Term.elem (Term.static "DeepShip" "LOWEST_MARK" "[I") (.int 2)) (z := 0) (hs _ (by decide +kernel))
    · exact va_eqt (t := Term.elem (Term.static "DeepShip" "LOWEST_MARK" "[I") (.int 3)) (z := 0) (hs _ (by decide +kernel))
    · exact va_eqt (t := Term.elem (Term.static "DeepShip" "LOWEST_MARK" "[I") (.int 4)) (z := 0) (hs _ (by decide +kernel))
  obtain ⟨t, h1, h2⟩ := va_Tof (tm := (Term.static "DeepShip" "LOWEST_MARK" "[I")) (ty := .int) (N := 5) (f := fun i => .int (sv 2 i)) (A := A) (by decide) (hs _ (by decide +kernel)) (va_eqt (z := 5) (hs _ (by decide +kernel))) hel hA
  exact ⟨t, va_Zof hl hi h1 hA, h2⟩
set_option maxRecDepth 100000 in
theorem st_HIGHEST_MARK {b : Nat} {s : State} {A : Nat → Prop} (hl : (Cond.laysStatic "DeepShip" "HIGHEST_MARK" "[I").before #[Value.ref b] s = true) (hi : (Cond.initialized "DeepShip").before #[Value.ref b] s = true) (hgv : (Jvm.Cond.and given_1 narrow_1).before #[Value.ref b] s = true) (hA : ∀ a : Nat, a < s.heap.size → ¬ A a) : ∃ t : Nat, va_Z "DeepShip" (sn 3) "[I" (.ref t) A s s.heap ∧ va_T .int t (sN 3) (fun i => .int (sv 3 i)) A s s.heap := by
  have hs := flat_of_before _ hgv
  have hel : ∀ i : Nat, i < 5 → (Term.elem (Term.static "DeepShip" "HIGHEST_MARK" "[I") (.int (Int32.ofNat i))).eval #[Value.ref b] s none [] s = some (.int (sv 3 i)) := by
    intro i hi
    rcases (show i = 0 ∨ i = 1 ∨ i = 2 ∨ i = 3 ∨ i = 4 by omega) with rfl | rfl | rfl | rfl | rfl
    · exact va_eqt (t := Term.elem (Term.static "DeepShip" "HIGHEST_MARK" "[I") (.int 0)) (z := 250) (hs _ (by decide +kernel))
    · exact va_eqt (t := Term.elem (Term.static "DeepShip" "HIGHEST_MARK" "[I") (.int 1)) (z := 99) (hs _ (by decide +kernel))
    · exact va_eqt (t := Term.elem (Term.static "DeepShip" "HIGHEST_MARK" "[I") (.int 2)) (z := 9) (hs _ (by decide +kernel))
    · exact va_eqt (t := Term.elem (Term.static "DeepShip" "HIGHEST_MARK" "[I") (.int 3)) (z := 20) (hs _ (by decide +kernel))
    · exact va_eqt (t := Term.elem (Term.static "DeepShip" "HIGHEST_MARK" "[I") (.int 4)) (z := 40) (hs _ (by decide +kernel))
  obtain ⟨t, h1, h2⟩ := va_Tof (tm := (Term.static "DeepShip" "HIGHEST_MARK" "[I")) (ty := .int) (N := 5) (f := fun i => .int (sv 3 i)) (A := A) (by decide) (hs _ (by decide +kernel)) (va_eqt (z := 5) (hs _ (by decide +kernel))) hel hA
  exact ⟨t, va_Zof hl hi h1 hA, h2⟩
set_option maxRecDepth 100000 in
theorem st_HIGHEST_SETTING {b : Nat} {s : State} {A : Nat → Prop} (hl : (Cond.laysStatic "DeepShip" "HIGHEST_SETTING" "[I").before #[Value.ref b] s = true) (hi : (Cond.initialized "DeepShip").before #[Value.ref b] s = true) (hgv : (Jvm.Cond.and given_1 narrow_1).before #[Value.ref b] s = true) (hA : ∀ a : Nat, a < s.heap.size → ¬ A a) : ∃ t : Nat, va_Z "DeepShip" (sn 4) "[I" (.ref t) A s s.heap ∧ va_T .int t (sN 4) (fun i => .int (sv 4 i)) A s s.heap := by
  have hs := flat_of_before _ hgv
  have hel : ∀ i : Nat, i < 5 → (Term.elem (Term.static "DeepShip" "HIGHEST_SETTING" "[I") (.int (Int32.ofNat i))).eval #[Value.ref b] s none [] s = some (.int (sv 4 i)) := by
    intro i hi
    rcases (show i = 0 ∨ i = 1 ∨ i = 2 ∨ i = 3 ∨ i = 4 by omega) with rfl | rfl | rfl | rfl | rfl
    · exact va_eqt (t := Term.elem (Term.static "DeepShip" "HIGHEST_SETTING" "[I") (.int 0)) (z := 90) (hs _ (by decide +kernel))
    · exact va_eqt (t := Term.elem (Term.static "DeepShip" "HIGHEST_SETTING" "[I") (.int 1)) (z := 9) (hs _ (by decide +kernel))
    · exact va_eqt (t := Term.elem (Term.static "DeepShip" "HIGHEST_SETTING" "[I") (.int 2)) (z := 10) (hs _ (by decide +kernel))
    · exact va_eqt (t := Term.elem (Term.static "DeepShip" "HIGHEST_SETTING" "[I") (.int 3)) (z := 1) (hs _ (by decide +kernel))
    · exact va_eqt (t := Term.elem (Term.static "DeepShip" "HIGHEST_SETTING" "[I") (.int 4)) (z := 99) (hs _ (by decide +kernel))
  obtain ⟨t, h1, h2⟩ := va_Tof (tm := (Term.static "DeepShip" "HIGHEST_SETTING" "[I")) (ty := .int) (N := 5) (f := fun i => .int (sv 4 i)) (A := A) (by decide) (hs _ (by decide +kernel)) (va_eqt (z := 5) (hs _ (by decide +kernel))) hel hA
  exact ⟨t, va_Zof hl hi h1 hA, h2⟩
theorem all_B : ∀ k, k < 177 → b_ship k = true ∨ b_k_X8_init k = true := by decide +kernel
theorem cells_of_Pw {G : GT} {E : Nat → Option va_E} {x : va_E} {H : Heap} (h : Pw G (addE G (upE (addE G E b_ship) 30 x) b_k_X8_init) H) : va_P (gD G) vwCl (cells G S0) H := by
  have h2 := addE_or h rfl
  intro k q hk
  obtain ⟨hl, y, hy, rfl⟩ := cells_of hk
  rw [shl_len] at hl
  refine (h2 k _ ?_).2
  unfold addE
  rw [if_pos (by rcases all_B k hl with q | q <;> simp [q]), hy]
  rfl
set_option maxHeartbeats 8000000 in
set_option maxRecDepth 100000 in
theorem start_of {I : ST → Prop} (hOK : LawOK I) (hI0 : I S0) {p : Program} {e : Env} {s : State} {m : MethodId} {below : List Frame} {meth : Method} {c : Code} (l : Launch) {b L : Nat} {xs : Nat → Int32} (hL : L ≤ 3584) (C0 : lw_At p s m meth c b L xs) : W p l e room_1 s m #[Value.ref b] below meth c s.heap [] 0 0 (lw_Z below #[Value.ref b] s) (entryFrame m ([Value.ref b] : List Value).toArray 4) := by
  obtain ⟨hx, hb, hr, hml, hown, hts0, hX, hbl, hlocks, hgv⟩ := id C0
  have hts : ∀ w ∈ TBL, w.before #[Value.ref b] s = true := fun w hw => hts0 w (List.mem_filter.mp hw).1
  have hAO : AOs s := ⟨hts0 _ aoJ_in, hts0 _ aoI_in⟩
  have hA : ∀ a : Nat, a < s.heap.size → ¬ (fun q : Nat => s.heap.size ≤ q) a := fun a h q => absurd h (Nat.not_lt.mpr q)
  obtain ⟨z0, hZ0, hT0⟩ := st_PACES (A := fun q : Nat => s.heap.size ≤ q) (hts0 _ ls_PACES) (hts _ tb_1_1) hgv hA
  obtain ⟨z1, hZ1, hT1⟩ := st_TAKES (A := fun q : Nat => s.heap.size ≤ q) (hts0 _ ls_TAKES) (hts _ tb_1_1) hgv hA
  obtain ⟨z2, hZ2, hT2⟩ := st_LOWEST_MARK (A := fun q : Nat => s.heap.size ≤ q) (hts0 _ ls_LOWEST_MARK) (hts _ tb_1_1) hgv hA
  obtain ⟨z3, hZ3, hT3⟩ := st_HIGHEST_MARK (A := fun q : Nat => s.heap.size ≤ q) (hts0 _ ls_HIGHEST_MARK) (hts _ tb_1_1) hgv hA
  obtain ⟨z4, hZ4, hT4⟩ := st_HIGHEST_SETTING (A := fun q : Nat => s.heap.size ≤ q) (hts0 _ ls_HIGHEST_SETTING) (hts _ tb_1_1) hgv hA
  obtain ⟨c0, iS0, hKn0⟩ := u_known (C := RX0) (T := TX0) (N := 6) (n := 6) hts iT0 (hts (.instantiable RX0 6) tb_1_145)
  obtain ⟨c1, iS1, hKn1⟩ := u_known (C := RX1) (T := TX1) (N := 6) (n := 6) hts iT1 (hts (.instantiable RX1 6) tb_1_23)
  obtain ⟨c2, iS2, hKn2⟩ := u_known (C := RX2) (T := TX2) (N := 6) (n := 6) hts iT2 (hts (.instantiable RX2 6) tb_1_115)
  obtain ⟨c3, iS3, hKn3⟩ := u_known (C := RX3) (T := TX3) (N := 3) (n := 3) hts iT3 (hts (.instantiable RX3 3) tb_1_195)
  obtain ⟨c4, iS4, hKn4⟩ := u_known (C := RX4) (T := TX4) (N := 5) (n := 5) hts iT4 (hts (.instantiable RX4 5) tb_1_171)
  obtain ⟨c5, iS5, hKn5⟩ := u_known (C := RX5) (T := TX5) (N := 8) (n := 8) hts iT5 (hts (.instantiable RX5 8) tb_1_58)
  obtain ⟨c6, iS6, hKn6⟩ := u_known (C := RX6) (T := TX6) (N := 4) (n := 4) hts iT6 (hts (.instantiable RX6 4) tb_1_93)
  obtain ⟨c7, iS7, hKn7⟩ := u_known (C := RX7) (T := TX7) (N := 10) (n := 10) hts iT7 (hts (.instantiable RX7 10) tb_1_15)
  obtain ⟨c8, iS8, hKn8⟩ := u_known (C := RX8) (T := TX8) (N := 29) (n := 29) hts iT8 (hts (.instantiable RX8 29) tb_4_66)
  obtain ⟨y0, ky0, cy0, hy0, hy02, hy03⟩ := Cond.arrayClass_spec (hts _ ac_int)
  obtain ⟨y1, ky1, cy1, hy1, hy12, hy13⟩ := Cond.arrayClass_spec (hts _ ac_byte)
  obtain ⟨y2, ky2, cy2, hy2, hy22, hy23⟩ := Cond.arrayClass_spec (hts _ ac_boolean)
  obtain ⟨y3, ky3, cy3, hy3, hy32, hy33⟩ := Cond.arrayClass_spec (hts _ ac_long)
  obtain ⟨cp4, y4, ky4, hy41, -, hy42, hy43, hy4⟩ := va_AOA.spec hAO.1
  obtain ⟨cp5, y5, ky5, hy51, -, hy52, hy53, hy5⟩ := va_AOA.spec hAO.2
  obtain ⟨G, hGd⟩ : ∃ G : GT, G = ((fun k => match k with | 0 => c0 | 1 => c1 | 2 => c2 | 3 => c3 | 4 => c4 | 5 => c5 | 6 => c6 | 7 => c7 | _ => c8, fun k => match k with | 0 => iS0 | 1 => iS1 | 2 => iS2 | 3 => iS3 | 4 => iS4 | 5 => iS5 | 6 => iS6 | 7 => iS7 | _ => iS8), (fun k => match k with | 0 => y0 | 1 => y1 | 2 => y2 | 3 => y3 | 4 => y4 | _ => y5), (fun k => s.heap.size + off k), (fun j => match j with | 0 => z0 | 1 => z1 | 2 => z2 | 3 => z3 | _ => z4), (fun q : Nat => s.heap.size ≤ q)) := ⟨_, rfl⟩
  have hGz : Gz G s.heap.size := by rw [hGd]; exact ⟨fun k _ => rfl, fun q h => h⟩
  have hgA : ∀ q, gA G q ↔ s.heap.size ≤ q := fun q => by rw [hGd]; exact Iff.rfl
  have hE : En G s := by
    rw [hGd]
    refine ⟨⟨?_, ?_⟩, ⟨fun i j hi hj h => ?_, fun k hk => Nat.le_add_right _ _⟩, fun w hw => va_Nw.of (NW_on w hw) (hts0 w (NW_in w hw)), ?_⟩
    · intro k q hq
      match k, hq with
      | 0, hq => cases hq; exact hKn0
      | 1, hq => cases hq; exact hKn1
      | 2, hq => cases hq; exact hKn2
      | 3, hq => cases hq; exact hKn3
      | 4, hq => cases hq; exact hKn4
      | 5, hq => cases hq; exact hKn5
      | 6, hq => cases hq; exact hKn6
      | 7, hq => cases hq; exact hKn7
      | 8, hq => cases hq; exact hKn8
      | k + 9, hq => simp [vwCl] at hq
    · intro k q hq
      match k, hq with
      | 0, hq => cases hq; exact ⟨fun n z => ⟨fun k h => (by cases h), ky0, hy02, cy0, hy03⟩, hy0⟩
      | 1, hq => cases hq; exact ⟨fun n z => ⟨fun k h => (by cases h), ky1, hy12, cy1, hy13⟩, hy1⟩
      | 2, hq => cases hq; exact ⟨fun n z => ⟨fun k h => (by cases h), ky2, hy22, cy2, hy23⟩, hy2⟩
      | 3, hq => cases hq; exact ⟨fun n z => ⟨fun k h => (by cases h), ky3, hy32, cy3, hy33⟩, hy3⟩
      | 4, hq => cases hq; exact ⟨fun n z => ⟨fun k h => (by cases h), ky4, hy42, cp4, hy43⟩, hy4⟩
      | 5, hq => cases hq; exact ⟨fun n z => ⟨fun k h => (by cases h), ky5, hy52, cp5, hy53⟩, hy5⟩
      | k + 6, hq => simp [tysG] at hq
    · rw [shl_len] at hi hj
      exact off_inj i hi j hj (Nat.add_left_cancel h)
    · intro j hj
      match j, hj with
      | 0, _ => exact ⟨hZ0, hT0⟩
      | 1, _ => exact ⟨hZ1, hT1⟩
      | 2, _ => exact ⟨hZ2, hT2⟩
      | 3, _ => exact ⟨hZ3, hT3⟩
      | 4, _ => exact ⟨hZ4, hT4⟩
      | j + 5, h => exact absurd h (by omega)
  clear hGd
  have hC : LC p m c s b G := ⟨⟨hx, hb, hml, hown, hts⟩, hE⟩
  have hS : va_S (gA G) s.heap s.heap [] := va_S.rf
  have hP : Pw G (fun _ => none) s.heap := fun k e h => by cases h
  have hz : s.heap.size = s.heap.size + 0 := rfl
  have hl := lv_entry ([.ref b]) (n := 4) (Nat.le_of_ble_eq_true rfl)
  rw [lg_entry_eq]
  generalize (lg_sl ([.ref b]) ++ List.replicate (4 - (lg_sl ([.ref b])).length) Slot.unset).toArray = ls at hl ⊢
  have hl : lv_has ls 4 [(0, .ref b)] := hl
  refine cNew (k := 0) (ci := 7) (fs := [.null, .null, .null, .null, .null, .null, .null, .null, .null, .int 0]) hC hGz hP hz hS (by decide) rfl vc_7 iT7 tyX7_ok tb_1_14 tb_1_15 tb_1_1 (fun j hj => by rcases (show j = 0 ∨ j = 1 ∨ j = 2 ∨ j = 3 ∨ j = 4 ∨ j = 5 ∨ j = 6 ∨ j = 7 ∨ j = 8 ∨ j = 9 by omega) with rfl | rfl | rfl | rfl | rfl | rfl | rfl | rfl | rfl | rfl <;> rfl) (Nat.le_of_ble_eq_true rfl) (Nat.le_of_ble_eq_true rfl) dL_law_0 (fun H hP hz hS => ?_)
  refine W.widen (k := 1) (n := 10) (by omega) (by omega) ?_
  refine lv_dup hx hb dL_law_3 rfl ?_
  refine cC hAO (k := 0) (As := []) (rest := [.ref (ad G 0)]) hC hP hz hS (k_X7_init l G s.heap.size _ hGz rfl) vy_X7_init rfl tb_1_16 tb_1_17 ⟨Nat.le_of_ble_eq_true rfl, Nat.le_of_ble_eq_true rfl⟩ hl.1 rfl (Nat.le_of_ble_eq_true rfl) dL_law_4 ⟨Nat.le_of_ble_eq_true rfl, Nat.le_of_ble_eq_true rfl⟩ (fun H locs hP hz hS => ?_)
  refine W.widen (k := 157) (n := 5576) (by omega) (by omega) ?_
  refine lv_astore_n (lv' := [(1, .ref (ad G 0)), (0, .ref b)]) hx hb dL_law_7 rfl hl (by decide) rfl (fun ls hl => ?_)
  refine cNew (k := 30) (ci := 8) (fs := [.int 0, .null, .null, .null, .int 0, .null, .null, .int 0, .int 0, .int 0, .null, .int 0, .int 0, .int 0, .int 0, .null, .null, .null, .null, .null, .null, .null, .null, .null, .int 0, .null, .null, .null, .null]) hC hGz hP hz hS (by decide) rfl vc_8 iT8 tyX8_ok tb_4_65 tb_4_66 tb_1_9 (fun j hj => by rcases (show j = 0 ∨ j = 1 ∨ j = 2 ∨ j = 3 ∨ j = 4 ∨ j = 5 ∨ j = 6 ∨ j = 7 ∨ j = 8 ∨ j = 9 ∨ j = 10 ∨ j = 11 ∨ j = 12 ∨ j = 13 ∨ j = 14 ∨ j = 15 ∨ j = 16 ∨ j = 17 ∨ j = 18 ∨ j = 19 ∨ j = 20 ∨ j = 21 ∨ j = 22 ∨ j = 23 ∨ j = 24 ∨ j = 25 ∨ j = 26 ∨ j = 27 ∨ j = 28 by omega) with rfl | rfl | rfl | rfl | rfl | rfl | rfl | rfl | rfl | rfl | rfl | rfl | rfl | rfl | rfl | rfl | rfl | rfl | rfl | rfl | rfl | rfl | rfl | rfl | rfl | rfl | rfl | rfl | rfl <;> rfl) (Nat.le_of_ble_eq_true rfl) (Nat.le_of_ble_eq_true rfl) dL_law_8 (fun H hP hz hS => ?_)
  refine W.widen (k := 158) (n := 5605) (by omega) (by omega) ?_
  refine lv_dup hx hb dL_law_11 rfl ?_
  refine cC hAO (k := 30) (As := []) (rest := [.ref (ad G 30)]) hC hP hz hS (k_X8_init l G s.heap.size _ hGz rfl) vy_X8_init rfl tb_4_67 tb_4_68 ⟨Nat.le_of_ble_eq_true rfl, Nat.le_of_ble_eq_true rfl⟩ hl.1 rfl (Nat.le_of_ble_eq_true rfl) dL_law_12 ⟨Nat.le_of_ble_eq_true rfl, Nat.le_of_ble_eq_true rfl⟩ (fun H locs hP hz hS => ?_)
  refine W.widen (k := 600000) (n := 7302250) (by omega) (by omega) ?_
  refine lv_astore_n (lv' := [(2, .ref (ad G 30)), (1, .ref (ad G 0)), (0, .ref b)]) hx hb dL_law_15 rfl hl (by decide) rfl (fun ls hl => ?_)
  refine lv_iconst (v := 0) hx hb dL_law_16 (by decide) ?_
  refine lv_istore_n (lv' := [(3, .int 0), (2, .ref (ad G 30)), (1, .ref (ad G 0)), (0, .ref b)]) hx hb dL_law_17 rfl hl (by decide) rfl (fun ls hl => ?_)
  exact law_loop hOK hL hC hr hlocks hX hbl hgA (L + 7) 0 0 S0 H locs ls (by omega) (Nat.zero_le _) nI_0.symm hI0 (cells_of_Pw hP) hS (lv_sub hl [3, 2, 1, 0] rfl)
