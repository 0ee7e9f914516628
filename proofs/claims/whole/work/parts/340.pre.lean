theorem ac_int : Cond.arrayClass .int ∈ TBL := tbl_1 (List.mem_of_getElem? (i := 56) (by decide +kernel)) rfl
theorem cl_RX2_19 : Cond.classLink RX2 19 ("[" ++ (FieldType.array .long).toString) ∈ TBL := tbl_1 (List.mem_of_getElem? (i := 120) (by decide +kernel)) rfl
theorem ac_long : Cond.arrayClass .long ∈ TBL := tbl_1 (List.mem_of_getElem? (i := 143) (by decide +kernel)) rfl
theorem cl_RX0_9 : Cond.classLink RX0 9 ("[" ++ (FieldType.array .long).toString) ∈ TBL := tbl_1 (List.mem_of_getElem? (i := 150) (by decide +kernel)) rfl
theorem ac_byte : Cond.arrayClass .byte ∈ TBL := tbl_1 (List.mem_of_getElem? (i := 193) (by decide +kernel)) rfl
theorem cl_RX3_11 : Cond.classLink RX3 11 ("[" ++ (FieldType.array .int).toString) ∈ TBL := tbl_1 (List.mem_of_getElem? (i := 200) (by decide +kernel)) rfl
theorem ac_boolean : Cond.arrayClass .boolean ∈ TBL := tbl_4 (List.mem_of_getElem? (i := 159) (by decide +kernel)) rfl
def st5 : Nat → Int32 := fun i => if i = 4 then 5 else 0
def ln4 : Nat → Int32 := fun i => if i < 4 then -1 else 0
/-- the memory when both objects have been made -/
def S0 : ST := (fun k => match k with
  | 3 => st5
  | 8 => st5
  | 33 => st5
  | 11 => fun i => if i = 7 then -1 else 0
  | 12 => fun i => if i = 1 then -4 else 0
  | 13 => fun i => if i = 2 then -1 else 0
  | 27 => ln4
  | 46 => ln4
  | _ => fun _ => 0, fun _ _ => 0)
theorem st5_u : upd (upd (upd (upd (upd (fun _ => 0) (0 : Int32).toNatClampNeg 0) (1 : Int32).toNatClampNeg 0) (2 : Int32).toNatClampNeg 0) (3 : Int32).toNatClampNeg 0) (4 : Int32).toNatClampNeg 5 = st5 := by
  funext i
  simp only [upd, st5, show (0 : Int32).toNatClampNeg = 0 from rfl, show (1 : Int32).toNatClampNeg = 1 from rfl, show (2 : Int32).toNatClampNeg = 2 from rfl, show (3 : Int32).toNatClampNeg = 3 from rfl, show (4 : Int32).toNatClampNeg = 4 from rfl]
  by_cases h : i = 4
  · rw [if_pos h, if_pos h]
  · rw [if_neg h, if_neg h]
    split <;> first | rfl | (split <;> first | rfl | (split <;> first | rfl | (split <;> rfl)))
theorem st5_v : upd (fun _ => 0) (4 : Int32).toNatClampNeg 5 = st5 := rfl
theorem ln4_u : upd (upd (upd (upd (fun _ => 0) (0 : Int32).toNatClampNeg (-1)) (1 : Int32).toNatClampNeg (-1)) (2 : Int32).toNatClampNeg (-1)) (3 : Int32).toNatClampNeg (-1) = ln4 := by
  funext i
  simp only [upd, ln4, show (0 : Int32).toNatClampNeg = 0 from rfl, show (1 : Int32).toNatClampNeg = 1 from rfl, show (2 : Int32).toNatClampNeg = 2 from rfl, show (3 : Int32).toNatClampNeg = 3 from rfl]
  by_cases h : i < 4
  · rw [if_pos h]
    rcases (show i = 0 ∨ i = 1 ∨ i = 2 ∨ i = 3 by omega) with rfl | rfl | rfl | rfl <;> rfl
  · rw [if_neg h, if_neg (by omega), if_neg (by omega), if_neg (by omega), if_neg (by omega)]
def addE (G : GT) (E : Nat → Option va_E) (B : Nat → Bool) : Nat → Option va_E := fun j => if B j = true then (shl[j]?).map (ceS G S0 j) else E j
theorem shl_r38 (j : Nat) (_ : j < 177) (h1 : 50 ≤ j) (h2 : j < 167) : shl[j]? = some (.inl (3, 38, 0)) := by
  unfold shl
  rw [List.getElem?_append_right (by simpa using h1), List.getElem?_append_left (by simp; omega), List.getElem?_replicate, if_pos (by simp; omega)]
theorem shl_r23 (j : Nat) (_ : j < 177) (h1 : 167 ≤ j) (h2 : j < 173) : shl[j]? = some (.inl (3, 23, 0)) := by
  unfold shl
  rw [List.getElem?_append_right (by simp; omega), List.getElem?_append_right (by simp; omega), List.getElem?_append_left (by simp; omega), List.getElem?_replicate, if_pos (by simp; omega)]
theorem upR_in {E : Nat → Option va_E} {b N j : Nat} {e : va_E} (h : b ≤ j ∧ j < b + N) : upR E b N e j = some e := if_pos h
theorem upR_n {E : Nat → Option va_E} {b N j : Nat} {e : va_E} (h : ¬ (b ≤ j ∧ j < b + N)) : upR E b N e j = E j := if_neg h
theorem addE_or {G : GT} {E : Nat → Option va_E} {B B2 : Nat → Bool} {k : Nat} {x : va_E} {H : Heap} (h : Pw G (addE G (upE (addE G E B) k x) B2) H) (hk : B2 k = true) : Pw G (addE G E (fun j => B j || B2 j)) H := h.weak (fun j e hj => by
  unfold addE at hj ⊢
  dsimp only at hj
  by_cases h2 : B2 j = true
  · rw [if_pos h2]
    rw [if_pos (by rw [h2, Bool.or_true])] at hj
    exact hj
  · rw [if_neg h2, upE_n (fun q => h2 (by rw [q]; exact hk))]
    have h3 : B2 j = false := Bool.eq_false_iff.mpr h2
    simp only [h3, Bool.or_false] at hj
    exact hj)
theorem addE_up {G : GT} {E : Nat → Option va_E} {B : Nat → Bool} {k : Nat} {x y : va_E} {H : Heap} (h : Pw G (upE (addE G (upE E k x) B) k y) H) (hk : B k = false) : Pw G (addE G (upE E k y) B) H := h.weak (fun j e hj => by
  unfold addE at hj
  by_cases h2 : B j = true
  · rw [if_pos h2] at hj
    rw [upE_n (fun q => by rw [q, hk] at h2; cases h2)]
    unfold addE
    rw [if_pos h2]
    exact hj
  · rw [if_neg h2] at hj
    by_cases h3 : j = k
    · subst h3
      rw [upE_s] at hj ⊢
      exact hj
    · rw [upE_n h3] at hj ⊢
      unfold addE
      rw [if_neg h2, upE_n h3]
      exact hj)

theorem vy_X7_init : Vy yX7_init cX7_init 1 none 0 := ⟨tb_1_18, tb_1_1, by decide, by decide, by decide +kernel⟩
theorem vy_X1_init : Vy yX1_init cX1_init 1 none 0 := ⟨tb_1_26, tb_1_2, by decide, by decide, by decide +kernel⟩
theorem vy_X5_init : Vy yX5_init cX5_init 2 none 1 := ⟨tb_1_61, tb_1_3, by decide, by decide, by decide +kernel⟩
theorem vy_X6_init : Vy yX6_init cX6_init 2 none 1 := ⟨tb_1_96, tb_1_4, by decide, by decide, by decide +kernel⟩
theorem vy_X2_init : Vy yX2_init cX2_init 2 none 1 := ⟨tb_1_118, tb_1_5, by decide, by decide, by decide +kernel⟩
theorem vy_X0_init : Vy yX0_init cX0_init 1 none 0 := ⟨tb_1_148, tb_1_6, by decide, by decide, by decide +kernel⟩
theorem vy_X4_init : Vy yX4_init cX4_init 1 none 0 := ⟨tb_1_174, tb_1_7, by decide, by decide, by decide +kernel⟩
theorem vy_X3_init : Vy yX3_init cX3_init 1 none 0 := ⟨tb_1_198, tb_1_8, by decide, by decide, by decide +kernel⟩
theorem vy_X8_init : Vy yX8_init cX8_init 2 none 0 := ⟨tb_4_69, tb_1_9, by decide, by decide, by decide +kernel⟩
section CST
variable {p : Program} {l : Launch} {e : Env} {R : Room} {s : State} {m : MethodId} {args : Array Value} {below : List Frame} {meth : Method} {c : Code} {H : Heap} {locs : List Loc} {Q : State → Prop}
variable {cc : ByteArray} {pc nL cl sl : Nat} {ls : Array Slot} {rest : List Value} {G : GT} {own : String}
theorem gStNc (hC : Cx p m c s args cc nL own G) (hS : va_S (gA G) s.heap H locs) {idx j : Nat} (hj : j < 5) (hl : Cond.fieldLinkNest own idx "DeepShip" (sn j) "[I" "DeepShip" ∈ NW) (hdg : decode cc pc = .ok (.getstatic idx, 3))
    (kk : W p l e R s m args below meth c H locs cl sl Q (F0 m (pc + 3) ls (.ref (sd G j) :: rest))) : W p l e R s m args below meth c H locs cl sl Q (F0 m pc ls rest) := by
  obtain ⟨⟨hx, hb, hml, hown, hts⟩, hE⟩ := hC
  exact va_getsN hx hb (hE.2.2.2 j hj).1 hS hown (va_Nw.use rfl (hE.2.2.1 _ hl)) (fun _ h => h) hdg kk
theorem gSnc (hC : Cx p m c s args cc nL own G) (hS : va_S (gA G) s.heap H locs) {j : Nat} (hj : j < 5) {x : Int32} (h : Int32.ofNat (sN j) = x) (hdg : decode cc pc = .ok (.arraylength, 1))
    (kk : W p l e R s m args below meth c H locs cl sl Q (F0 m (pc + 1) ls (.int x :: rest))) : W p l e R s m args below meth c H locs cl sl Q (F0 m pc ls (.ref (sd G j) :: rest)) := by
  obtain ⟨⟨hx, hb, hml, hown, hts⟩, hE⟩ := hC
  exact va_tlen hx hb (hE.2.2.2 j hj).2 hS h hdg kk
theorem litW {x y : Int32} (h : x = y) (k : W p l e R s m args below meth c H locs cl sl Q (F0 m pc ls (.int y :: rest))) : W p l e R s m args below meth c H locs cl sl Q (F0 m pc ls (.int x :: rest)) := by
  subst h; exact k
end CST

