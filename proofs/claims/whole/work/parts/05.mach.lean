/-! ===== the memory of both objects: segments of ints and longs ===== -/
abbrev ST : Type := (Nat → Nat → Int32) × (Nat → Nat → Int64)
/-- a segment: an array (its kind, its length, where its rows begin), or an object (its class, its fields: an int of the segment, or another segment) -/
abbrev SH : Type := (Nat × Nat × Nat) ⊕ (Nat × List (Nat ⊕ Nat))
def shl : List SH := [
  .inr (7, [.inr 1, .inr 6, .inr 11, .inr 12, .inr 13, .inr 18, .inr 22, .inr 25, .inr 29, .inl 9]),
  .inr (1, [.inl 0, .inl 1, .inr 2, .inr 3, .inr 4, .inr 5]), .inl (0, 24, 0), .inl (0, 5, 0), .inl (0, 96, 0), .inl (0, 18, 0),
  .inr (1, [.inl 0, .inl 1, .inr 7, .inr 8, .inr 9, .inr 10]), .inl (0, 24, 0), .inl (0, 5, 0), .inl (0, 96, 0), .inl (0, 18, 0),
  .inr (5, [.inr 1, .inl 1, .inl 2, .inl 3, .inl 4, .inl 5, .inl 6, .inl 7]),
  .inr (6, [.inr 1, .inl 1, .inl 2, .inl 3]),
  .inr (2, [.inr 1, .inr 14, .inl 2, .inr 15, .inr 16, .inr 17]), .inl (0, 24, 0), .inl (4, 100, 50), .inl (0, 176, 0), .inl (4, 17, 150),
  .inr (0, [.inr 19, .inr 20, .inr 21, .inl 3, .inl 4, .inl 5]), .inl (4, 6, 167), .inl (0, 6, 0), .inl (0, 6, 0),
  .inr (4, [.inr 23, .inr 24, .inl 2, .inl 3, .inl 4]), .inl (0, 48, 0), .inl (1, 100, 0),
  .inr (3, [.inr 26, .inr 27, .inr 28]), .inl (5, 4, 173), .inl (0, 4, 0), .inl (0, 4, 0),
  .inl (0, 61, 0),
  .inr (8, [.inl 0, .inr 31, .inr 32, .inr 33, .inl 4, .inr 34, .inr 35, .inl 7, .inl 8, .inl 9, .inr 36, .inl 11, .inl 12, .inl 13, .inl 14, .inr 37, .inr 38, .inr 39, .inr 40, .inr 41, .inr 42, .inr 43, .inr 44, .inr 45, .inl 24, .inr 46, .inr 47, .inr 48, .inr 49]),
  .inl (0, 96, 0), .inl (0, 24, 0), .inl (0, 5, 0), .inl (0, 18, 0), .inl (0, 100, 0), .inl (0, 40, 0), .inl (0, 16337, 0), .inl (0, 16337, 0), .inl (2, 1440, 0), .inl (2, 1440, 0), .inl (3, 61, 0), .inl (0, 8640, 0), .inl (0, 6, 0), .inl (0, 6, 0), .inl (0, 145, 0), .inl (0, 4, 0), .inl (0, 4, 0), .inl (0, 96, 0), .inl (0, 24, 0)]
  ++ (List.replicate 117 (.inl (3, 38, 0)) ++ (List.replicate 6 (.inl (3, 23, 0)) ++ List.replicate 4 (.inl (0, 24, 0))))
/-- how long a segment is as an array of kind t (0 int, 1 byte, 2 boolean, 3 long, 4 long[], 5 int[]); 0: it is none -/
def al (t k : Nat) : Nat := match shl[k]? with
  | some (.inl a) => if a.1 = t then a.2.1 else 0
  | _ => 0
def ob (k : Nat) : Nat := match shl[k]? with
  | some (.inl a) => a.2.2
  | _ => 0
theorem al_at {t k i : Nat} (h : i < al t k) : ∃ n b, shl[k]? = some (.inl (t, n, b)) ∧ al t k = n ∧ ob k = b := by
  unfold al at h ⊢
  unfold ob
  cases hk : shl[k]? with
  | none => rw [hk] at h; exact absurd h (Nat.not_lt_zero _)
  | some x =>
    rw [hk] at h
    cases x with
    | inr y => exact absurd h (Nat.not_lt_zero _)
    | inl a =>
      obtain ⟨t', n, b⟩ := a
      by_cases e : t' = t
      · subst e
        exact ⟨n, b, rfl, if_pos rfl, rfl⟩
      · rw [show (match (some (Sum.inl (t', n, b)) : Option SH) with | some (.inl a) => if a.1 = t then a.2.1 else 0 | _ => 0) = 0 from if_neg e] at h
        exact absurd h (Nat.not_lt_zero _)
def sI (S : ST) (k j : Nat) (x : Int32) : ST := (fun a => if a = k then upd (S.1 k) j x else S.1 a, S.2)
def sL (S : ST) (k j : Nat) (x : Int64) : ST := (S.1, fun a => if a = k then vp_updL (S.2 k) j x else S.2 a)
def rI (S : ST) (t k : Nat) (i : Int32) : Option Int32 := if 0 ≤ i ∧ i.toNatClampNeg < al t k then some (S.1 k i.toNatClampNeg) else none
def rL (S : ST) (k : Nat) (i : Int32) : Option Int64 := if 0 ≤ i ∧ i.toNatClampNeg < al 3 k then some (S.2 k i.toNatClampNeg) else none
def rA (t k : Nat) (i : Int32) : Option Nat := if 0 ≤ i ∧ i.toNatClampNeg < al t k then some (ob k + i.toNatClampNeg) else none
def wI (S : ST) (k : Nat) (i x : Int32) : Option ST := if 0 ≤ i ∧ i.toNatClampNeg < al 0 k then some (sI S k i.toNatClampNeg x) else none
def wB (S : ST) (k : Nat) (i x : Int32) : Option ST := if 0 ≤ i ∧ i.toNatClampNeg < al 1 k then some (sI S k i.toNatClampNeg (vp_nar .byte x)) else none
def wZ (S : ST) (k : Nat) (i x : Int32) : Option ST := if 0 ≤ i ∧ i.toNatClampNeg < al 2 k then some (sI S k i.toNatClampNeg (vp_nar .boolean x)) else none
def wL (S : ST) (k : Nat) (i : Int32) (x : Int64) : Option ST := if 0 ≤ i ∧ i.toNatClampNeg < al 3 k then some (sL S k i.toNatClampNeg x) else none
/-- how long an array is, by its kind -/
def lA (t k : Nat) : Option Int32 := if 0 < al t k then some (Int32.ofNat (al t k)) else none
def dv (x y : Int32) : Option Int32 := if y = 0 then none else some (x / y)
def rm (x y : Int32) : Option Int32 := if y = 0 then none else some (x - x / y * y)
def dvL (x y : Int64) : Option Int64 := if y = 0 then none else some (x / y)
def bz (x : Int32) : Option Int32 := if x = 0 ∨ x = 1 then some x else none
def cpyS (S : ST) (a b sp dp n : Nat) : ST := (fun q => if q = b then va_cpy (S.1 a) (S.1 b) sp dp n else S.1 q, S.2)
def cpy (S : ST) (a : Nat) (sp : Int32) (b : Nat) (dp n : Int32) : Option ST := if (0 ≤ sp ∧ 0 ≤ dp ∧ 0 ≤ n) ∧ sp.toNatClampNeg + n.toNatClampNeg ≤ al 0 a ∧ dp.toNatClampNeg + n.toNatClampNeg ≤ al 0 b ∧ 0 < al 0 a ∧ 0 < al 0 b then some (cpyS S a b sp.toNatClampNeg dp.toNatClampNeg n.toNatClampNeg) else none
theorem ob_some {α β : Type} {x : Option α} {f : α → Option β} {r : β} (h : x.bind f = some r) : ∃ a, x = some a ∧ f a = some r := Option.bind_eq_some_iff.mp h
/-! the static arrays -/
def sn : Nat → String := fun j => match j with
  | 0 => "PACES"
  | 1 => "TAKES"
  | 2 => "LOWEST_MARK"
  | 3 => "HIGHEST_MARK"
  | _ => "HIGHEST_SETTING"
def sN : Nat → Nat := fun j => match j with
  | 0 => 11
  | 1 => 11
  | _ => 5
def sv (j i : Nat) : Int32 := match j with
  | 0 => ([1, 2, 3, 4, 5, 6, 7, 8, 9, 11, 13] : List Int32).getD i 0
  | 1 => ([60, 30, 20, 15, 12, 10, 8, 7, 6, 5, 4] : List Int32).getD i 0
  | 2 => ([20, 10, 0, 0, 0] : List Int32).getD i 0
  | 3 => ([250, 99, 9, 20, 40] : List Int32).getD i 0
  | _ => ([90, 9, 10, 1, 99] : List Int32).getD i 0
def rS (j : Nat) (i : Int32) : Option Int32 := if 0 ≤ i ∧ i.toNatClampNeg < sN j then some (sv j i.toNatClampNeg) else none
theorem vp_in_of2 {i : Int32} {n : Nat} (h : 0 ≤ i ∧ i.toNatClampNeg < n) : vp_in i n := fun q => by
  rcases q with q | q
  · exact absurd q (Int32.not_lt.mpr h.1)
  · exact absurd h.2 (Nat.not_lt.mpr q)
/-! ===== the world ===== -/
def gD (G : GT) : va_G := G.1
def fv (G : GT) (S : ST) (k : Nat) (f : Nat ⊕ Nat) : Value := match f with
  | .inl j => .int (S.1 k j)
  | .inr r => .ref (ad G r)
def aS (G : GT) (S : ST) (k t n b : Nat) : vp_A := (n, if t ≤ 2 then .inl (S.1 k) else if t = 3 then .inr (.inl (S.2 k)) else .inr (.inr (.inr (.inr (fun j => if j < n then some (ad G (b + j)) else none)))))
def ceS (G : GT) (S : ST) (k : Nat) (x : SH) : va_E := match x with
  | .inl a => .inl (cy G a.1, aS G S k a.1 a.2.1 a.2.2)
  | .inr o => .inr (o.1, o.2.map (fv G S k))
def cells (G : GT) (S : ST) : va_W := shl.mapIdx (fun k x => (ad G k, ceS G S k x))
theorem cells_at (G : GT) (S : ST) {k : Nat} {x : SH} (h : shl[k]? = some x) : (cells G S)[k]? = some (ad G k, ceS G S k x) := by
  rw [cells, List.getElem?_mapIdx, h]
  rfl
theorem cells_of {G : GT} {S : ST} {k : Nat} {q : Nat × va_E} (h : (cells G S)[k]? = some q) : k < shl.length ∧ ∃ x, shl[k]? = some x ∧ q = (ad G k, ceS G S k x) := by
  rw [cells, List.getElem?_mapIdx] at h
  cases hx : shl[k]? with
  | none => rw [hx] at h; cases h
  | some x =>
    rw [hx] at h
    cases h
    exact ⟨(List.getElem?_eq_some_iff.mp hx).1, x, rfl, rfl⟩
theorem ceS_cong {G : GT} {S S' : ST} {k : Nat} (h1 : S'.1 k = S.1 k) (h2 : S'.2 k = S.2 k) (x : SH) : ceS G S' k x = ceS G S k x := by
  cases x with
  | inl a => simp only [ceS, aS, h1, h2]
  | inr o =>
    simp only [ceS]
    congr 2
    apply List.map_congr_left
    intro f _
    cases f with
    | inl j => simp only [fv, h1]
    | inr r => rfl
theorem cells_set {G : GT} {S S' : ST} {k : Nat} {x : SH} (h : shl[k]? = some x) (h1 : ∀ j, j ≠ k → S'.1 j = S.1 j) (h2 : ∀ j, j ≠ k → S'.2 j = S.2 j) : (cells G S).set k (ad G k, ceS G S' k x) = cells G S' := by
  apply List.ext_getElem?
  intro j
  by_cases e : j = k
  · subst e
    rw [List.getElem?_set_self (by rw [cells, List.length_mapIdx]; exact (List.getElem?_eq_some_iff.mp h).1), cells_at G S' h]
  · rw [List.getElem?_set_ne (Ne.symm e), cells, cells, List.getElem?_mapIdx, List.getElem?_mapIdx]
    cases shl[j]? with
    | none => rfl
    | some y => simp only [Option.map_some, ceS_cong (h1 j e) (h2 j e)]
theorem sh_wf : shl.all (fun x => match x with | .inr o => o.2.zipIdx.all (fun q => match q.1 with | .inl a => a == q.2 | .inr _ => true) | .inl _ => true) = true := by decide +kernel
theorem sh_fld {k ci : Nat} {fs : List (Nat ⊕ Nat)} (h : shl[k]? = some (.inr (ci, fs))) {i a : Nat} (hi : fs[i]? = some (.inl a)) : a = i := by
  have h1 := List.all_eq_true.mp sh_wf _ (List.mem_of_getElem? h)
  have h2 := List.all_eq_true.mp h1 (.inl a, i) (List.mem_iff_getElem?.mpr ⟨i, by rw [List.getElem?_zipIdx, hi]; simp⟩)
  exact (by simpa using h2)
def tysG (G : GT) : List (ClassId × FieldType) := [(cy G 0, .int), (cy G 1, .byte), (cy G 2, .boolean), (cy G 3, .long), (cy G 4, .array .long), (cy G 5, .array .int)]
/-- what holds at a state, and goes on holding -/
def En (G : GT) (U : State) : Prop := va_K (gD G) vwCl (tysG G) U ∧ ((∀ i j, i < shl.length → j < shl.length → ad G i = ad G j → i = j) ∧ ∀ k, k < shl.length → gA G (ad G k)) ∧ (∀ w ∈ NW, va_Nw w U) ∧ ∀ j, j < 5 → va_Z "DeepShip" (sn j) "[I" (.ref (sd G j)) (gA G) U U.heap ∧ va_T .int (sd G j) (sN j) (fun i => .int (sv j i)) (gA G) U U.heap
def Wo (G : GT) (S : ST) (U : State) : Prop := va_P (gD G) vwCl (cells G S) U.heap ∧ En G U
theorem cells_D {G : GT} {S : ST} (h : (∀ i j, i < shl.length → j < shl.length → ad G i = ad G j → i = j) ∧ ∀ k, k < shl.length → gA G (ad G k)) : va_D (gA G) (cells G S) := by
  refine ⟨fun i j p q hi hj e => ?_, fun k q hk => ?_⟩
  · obtain ⟨h1, x, -, rfl⟩ := cells_of hi
    obtain ⟨h2, y, -, rfl⟩ := cells_of hj
    exact h.1 i j h1 h2 e
  · obtain ⟨h1, x, -, rfl⟩ := cells_of hk
    exact h.2 k h1
theorem NW_on : ∀ w ∈ NW, w.onTables = true := by decide +kernel
theorem En.moved {G : GT} {s U : State} {locs : List Loc} (h : En G s) (hS : va_S (gA G) s.heap U.heap locs) (hW : s.WarmedH U.vm) : En G U := by
  obtain ⟨h1, h2, h3, h4⟩ := h
  refine ⟨va_K.moved hW.alike h1, h2, fun w hw => NW_warm hW w hw (h3 w hw), fun j hj => ⟨((h4 j hj).1.moved hW.alike).kept ?_, ((h4 j hj).2.moved hW.alike).kept ?_⟩⟩
  · exact fun a ha hA => hS.2.1 a ha hA
  · exact fun a ha hA => hS.2.1 a ha hA
theorem Wo.blind {G : GT} {S : ST} {U : State} {g : JFrame} {mk : MethodId} {a : Array Value} (h : Wo G S U) : Wo G S (U.calling g mk a) := by
  obtain ⟨h0, h1, h2, h3, h4⟩ := h
  refine ⟨h0, va_K.moved (u := U) (U := U.calling g mk a) (Vm.Alike.refl U.vm) h1, h2, fun w hw => va_Nw.same (u := U) (U := U.calling g mk a) (NW_on w hw) rfl (h3 w hw), fun j hj => ⟨(h4 j hj).1.moved (u := U) (U := U.calling g mk a) (Vm.Alike.refl U.vm), (h4 j hj).2.moved (u := U) (U := U.calling g mk a) (Vm.Alike.refl U.vm)⟩⟩
abbrev ws0 (y : MethodName) (cc : ByteArray) (n : Nat) (ret : Option FieldType) : List Cond := .code y cc n ret :: TBL
theorem gTB {y : MethodName} {cc : ByteArray} {n : Nat} {ret : Option FieldType} (h : Cond.code y cc n ret ∈ TBL) : GoodIn TBL (ws0 y cc n ret) := by
  intro w hw
  have h1 : w ∈ TBL := by
    rcases List.mem_cons.mp hw with e | e
    · rw [e]; exact h
    · exact e
  exact ⟨h1, good_of_word (List.mem_filter.mp h1).2⟩
def rmH (d : Nat) : Room := { frames := d, cells := 0, slots := 0, locals := 40 * d }
def MI (l : Launch) (y : MethodName) (cc : ByteArray) (n : Nat) (ret : Option FieldType) (d : Nat) (av : List Value) (G : GT) (S : ST) (r : Int32) (S' : ST) : Prop := Met l y (ws0 y cc n ret) (rmH d) (va_Pc av (Wo G S)) (va_Qi (fun r' u => r' = r ∧ u = S') (Wo G) (gA G)) 0 0 (gA G)
def ML (l : Launch) (y : MethodName) (cc : ByteArray) (n : Nat) (ret : Option FieldType) (d : Nat) (av : List Value) (G : GT) (S : ST) (r : Int64) (S' : ST) : Prop := Met l y (ws0 y cc n ret) (rmH d) (va_Pc av (Wo G S)) (va_Ql (fun r' u => r' = r ∧ u = S') (Wo G) (gA G)) 0 0 (gA G)
def MV (l : Launch) (y : MethodName) (cc : ByteArray) (n : Nat) (d : Nat) (av : List Value) (G : GT) (S S' : ST) : Prop := Met l y (ws0 y cc n none) (rmH d) (va_Pc av (Wo G S)) (va_Qv (fun u => u = S') (Wo G) (gA G)) 0 0 (gA G)
def MA (l : Launch) (y : MethodName) (cc : ByteArray) (n : Nat) (ret : Option FieldType) (d : Nat) (av : List Value) (G : GT) (S : ST) (r : Nat) (S' : ST) : Prop := Met l y (ws0 y cc n ret) (rmH d) (va_Pc av (Wo G S)) (va_Qr (fun u => u = S') (fun u a t => a = ad G r ∧ Wo G u t) (gA G)) 0 0 (gA G)
/-- where a walk is: the machine, the code, the tables, the world's constant part -/
def Cx (p : Program) (m : MethodId) (c : Code) (s : State) (args : Array Value) (cc : ByteArray) (nL : Nat) (own : String) (G : GT) : Prop := CallFix p m c cc nL s args TBL own ∧ En G s
section MACH
variable {p : Program} {l : Launch} {e : Env} {R : Room} {s : State} {m : MethodId} {args : Array Value} {below : List Frame} {meth : Method} {c : Code} {H : Heap} {locs : List Loc} {Q : State → Prop}
variable {cc : ByteArray} {pc nL : Nat} {ls : Array Slot} {rest st : List Value} {G : GT} {S S' : ST} {own : String}
def KI (p : Program) (l : Launch) (e : Env) (R : Room) (s : State) (m : MethodId) (args : Array Value) (below : List Frame) (meth : Method) (c : Code) (Q : State → Prop) (cc : ByteArray) (G : GT) (r : Int32) (S' : ST) : Prop := ∀ (H : Heap) (locs : List Loc) (pc : Nat) (ls : Array Slot), va_P (gD G) vwCl (cells G S') H → va_S (gA G) s.heap H locs → decode cc pc = .ok (.ireturn, 1) → W p l e R s m args below meth c H locs 0 0 Q (F0 m pc ls [.int r])
def KL (p : Program) (l : Launch) (e : Env) (R : Room) (s : State) (m : MethodId) (args : Array Value) (below : List Frame) (meth : Method) (c : Code) (Q : State → Prop) (cc : ByteArray) (G : GT) (r : Int64) (S' : ST) : Prop := ∀ (H : Heap) (locs : List Loc) (pc : Nat) (ls : Array Slot), va_P (gD G) vwCl (cells G S') H → va_S (gA G) s.heap H locs → decode cc pc = .ok (.lreturn, 1) → W p l e R s m args below meth c H locs 0 0 Q (F0 m pc ls [.long r])
def KV (p : Program) (l : Launch) (e : Env) (R : Room) (s : State) (m : MethodId) (args : Array Value) (below : List Frame) (meth : Method) (c : Code) (Q : State → Prop) (cc : ByteArray) (G : GT) (S' : ST) : Prop := ∀ (H : Heap) (locs : List Loc) (pc : Nat) (ls : Array Slot), va_P (gD G) vwCl (cells G S') H → va_S (gA G) s.heap H locs → decode cc pc = .ok (.return_, 1) → W p l e R s m args below meth c H locs 0 0 Q (F0 m pc ls [])
def KA (p : Program) (l : Launch) (e : Env) (R : Room) (s : State) (m : MethodId) (args : Array Value) (below : List Frame) (meth : Method) (c : Code) (Q : State → Prop) (cc : ByteArray) (G : GT) (r : Nat) (S' : ST) : Prop := ∀ (H : Heap) (locs : List Loc) (pc : Nat) (ls : Array Slot), va_P (gD G) vwCl (cells G S') H → va_S (gA G) s.heap H locs → decode cc pc = .ok (.areturn, 1) → W p l e R s m args below meth c H locs 0 0 Q (F0 m pc ls [.ref (ad G r)])
theorem ofWF {y : MethodName} {ws ws' : List Cond} {rm : Room} {Pc : Array Value → State → Prop} {Qc : Array Value → State → Outcome → State → Prop} {mc ms : Nat} {free : Addr → Prop} {cc : ByteArray} {maxL : Nat} {ret : Option FieldType} (hy : plainFor y = true) (hw : ws = Cond.code y cc maxL ret :: ws')
    (body : ∀ p e s m args below meth c s₁, BodyLoose p l y (headSpec ws rm) cc maxL ret e s m args below meth c s₁ → c.maxLocals = maxL → Pc args s → W p l e (headSpec ws rm).room s m args below meth c s.heap [] 0 0 (MQ below Qc args s mc ms free) (entryFrame m args maxL)) : Met l y ws rm Pc Qc mc ms free := by
  refine MetFree.of_bodySF (code := cc) (maxLocals := maxL) (ret := ret) hy (fun args s m h hn => ?_) (fun p e s m args below meth c s₁ B hml hP _ => ?_)
  · obtain ⟨meth, c, h1, h2, h3, h4, h5, h6, -, -⟩ := Cond.code_spec hn (atoms_spec (ws := ws) h _ (by rw [hw]; exact List.mem_cons_self))
    exact ⟨meth, c, h1, h2, h3, h4, h5, h6⟩
  · obtain ⟨t, a1, o, b1, b2, b3⟩ := body p e s m args below meth c s₁ B hml hP s₁ (by rw [B.state]; rfl) (Stand.of_body B)
    exact ⟨t, o, a1, b1, b2, b3⟩
/-- a contract out of a walk of the body -/
theorem mkI {y : MethodName} {rt : FieldType} {d : Nat} {av : List Value} {r : Int32} (hy : plainFor y = true) (ho : y.cls = own) (hz : narrow rt (.int r) = .int r) (hn : (lg_sl av).length ≤ nL)
    (body : ∀ (p : Program) (e : Env) (s : State) (m : MethodId) (args : Array Value) (below : List Frame) (meth : Method) (c : Code) (Q : State → Prop) (ls : Array Slot), Cx p m c s args cc nL own G → va_P (gD G) vwCl (cells G S) s.heap → va_S (gA G) s.heap s.heap [] → lv_has ls nL (lv_args 0 av) → KI p l e (rmH d) s m args below meth c Q cc G r S' → W p l e (rmH d) s m args below meth c s.heap [] 0 0 Q (F0 m 0 ls [])) : MI l y cc nL (some rt) d av G S r S' := by
  refine ofWF (cc := cc) (maxL := nL) (ret := some rt) hy rfl ?_
  intro p e s m args below meth c s₁ B hml hv
  obtain ⟨rfl, hP, hE⟩ := hv
  have hts := atoms_spec (ws := ws0 y cc nL (some rt)) B.pre
  have hown : s.vm.findClass own = some m.cls := by rw [← ho]; exact findClass_of_methodNamed B.named
  have hlocks := B.notSynchronized
  rw [lg_entry_eq]
  refine body p e s m _ below meth c _ _ ⟨⟨B.exec, B.bytes, hml, hown, fun w hw => hts w (List.mem_cons_of_mem _ hw)⟩, hE⟩ hP va_S.rf (lv_entry av hn) ?_
  intro H locs pc ls hP1 hS1 hd
  exact W.zret B.exec B.bytes B.returns hz (fun t ht hW => ⟨⟨r, S', rfl, ⟨rfl, rfl⟩, by rw [ht]; exact hP1, hE.moved (locs := locs) (by rw [ht]; exact hS1) hW⟩, hS1.F ht⟩) hS1.2.2 hd
theorem mkL {y : MethodName} {d : Nat} {av : List Value} {r : Int64} (hy : plainFor y = true) (ho : y.cls = own) (hn : (lg_sl av).length ≤ nL)
    (body : ∀ (p : Program) (e : Env) (s : State) (m : MethodId) (args : Array Value) (below : List Frame) (meth : Method) (c : Code) (Q : State → Prop) (ls : Array Slot), Cx p m c s args cc nL own G → va_P (gD G) vwCl (cells G S) s.heap → va_S (gA G) s.heap s.heap [] → lv_has ls nL (lv_args 0 av) → KL p l e (rmH d) s m args below meth c Q cc G r S' → W p l e (rmH d) s m args below meth c s.heap [] 0 0 Q (F0 m 0 ls [])) : ML l y cc nL (some .long) d av G S r S' := by
  refine ofWF (cc := cc) (maxL := nL) (ret := some .long) hy rfl ?_
  intro p e s m args below meth c s₁ B hml hv
  obtain ⟨rfl, hP, hE⟩ := hv
  have hts := atoms_spec (ws := ws0 y cc nL (some .long)) B.pre
  have hown : s.vm.findClass own = some m.cls := by rw [← ho]; exact findClass_of_methodNamed B.named
  have hlocks := B.notSynchronized
  rw [lg_entry_eq]
  refine body p e s m _ below meth c _ _ ⟨⟨B.exec, B.bytes, hml, hown, fun w hw => hts w (List.mem_cons_of_mem _ hw)⟩, hE⟩ hP va_S.rf (lv_entry av hn) ?_
  intro H locs pc ls hP1 hS1 hd
  exact W.lret B.exec B.bytes B.returns (fun t ht hW => ⟨⟨r, S', rfl, ⟨rfl, rfl⟩, by rw [ht]; exact hP1, hE.moved (locs := locs) (by rw [ht]; exact hS1) hW⟩, hS1.F ht⟩) hS1.2.2 hd
theorem mkV {y : MethodName} {d : Nat} {av : List Value} (hy : plainFor y = true) (ho : y.cls = own) (hn : (lg_sl av).length ≤ nL)
    (body : ∀ (p : Program) (e : Env) (s : State) (m : MethodId) (args : Array Value) (below : List Frame) (meth : Method) (c : Code) (Q : State → Prop) (ls : Array Slot), Cx p m c s args cc nL own G → va_P (gD G) vwCl (cells G S) s.heap → va_S (gA G) s.heap s.heap [] → lv_has ls nL (lv_args 0 av) → KV p l e (rmH d) s m args below meth c Q cc G S' → W p l e (rmH d) s m args below meth c s.heap [] 0 0 Q (F0 m 0 ls [])) : MV l y cc nL d av G S S' := by
  refine ofWF (cc := cc) (maxL := nL) (ret := none) hy rfl ?_
  intro p e s m args below meth c s₁ B hml hv
  obtain ⟨rfl, hP, hE⟩ := hv
  have hts := atoms_spec (ws := ws0 y cc nL none) B.pre
  have hown : s.vm.findClass own = some m.cls := by rw [← ho]; exact findClass_of_methodNamed B.named
  have hlocks := B.notSynchronized
  rw [lg_entry_eq]
  refine body p e s m _ below meth c _ _ ⟨⟨B.exec, B.bytes, hml, hown, fun w hw => hts w (List.mem_cons_of_mem _ hw)⟩, hE⟩ hP va_S.rf (lv_entry av hn) ?_
  intro H locs pc ls hP1 hS1 hd
  exact W.vret B.exec B.bytes B.returns (fun t ht hW => ⟨⟨S', rfl, rfl, by rw [ht]; exact hP1, hE.moved (locs := locs) (by rw [ht]; exact hS1) hW⟩, hS1.F ht⟩) hS1.2.2 hd
theorem mkA {y : MethodName} {rt : FieldType} {d : Nat} {av : List Value} {r : Nat} (hy : plainFor y = true) (ho : y.cls = own) (hrt : (∃ n, rt = .object n) ∨ ∃ t, rt = .array t) (hn : (lg_sl av).length ≤ nL)
    (body : ∀ (p : Program) (e : Env) (s : State) (m : MethodId) (args : Array Value) (below : List Frame) (meth : Method) (c : Code) (Q : State → Prop) (ls : Array Slot), Cx p m c s args cc nL own G → va_P (gD G) vwCl (cells G S) s.heap → va_S (gA G) s.heap s.heap [] → lv_has ls nL (lv_args 0 av) → KA p l e (rmH d) s m args below meth c Q cc G r S' → W p l e (rmH d) s m args below meth c s.heap [] 0 0 Q (F0 m 0 ls [])) : MA l y cc nL (some rt) d av G S r S' := by
  refine ofWF (cc := cc) (maxL := nL) (ret := some rt) hy rfl ?_
  intro p e s m args below meth c s₁ B hml hv
  obtain ⟨rfl, hP, hE⟩ := hv
  have hts := atoms_spec (ws := ws0 y cc nL (some rt)) B.pre
  have hown : s.vm.findClass own = some m.cls := by rw [← ho]; exact findClass_of_methodNamed B.named
  have hlocks := B.notSynchronized
  rw [lg_entry_eq]
  refine body p e s m _ below meth c _ _ ⟨⟨B.exec, B.bytes, hml, hown, fun w hw => hts w (List.mem_cons_of_mem _ hw)⟩, hE⟩ hP va_S.rf (lv_entry av hn) ?_
  intro H locs pc ls hP1 hS1 hd
  exact W.aret B.exec B.bytes B.returns hrt (Or.inr ⟨_, rfl⟩) (fun t ht hW => ⟨⟨S', _, rfl, rfl, rfl, by rw [ht]; exact hP1, hE.moved (locs := locs) (by rw [ht]; exact hS1) hW⟩, hS1.F ht⟩) hS1.2.2 hd
/-! rows over the world -/
theorem gFi (hC : Cx p m c s args cc nL own G) (hP : va_P (gD G) vwCl (cells G S) H) {k ci j N idx : Nat} {fs : List (Nat ⊕ Nat)} {C : String} {T : u_T} (hk : shl[k]? = some (.inr (ci, fs))) (hc : vwCl[ci]? = some (C, T, N)) (hin : ∀ w ∈ u_ws C T N, w ∈ TBL) (hj : j < N) (hf : fs[j]? = some (.inl j)) (hl : Cond.fieldLink own idx (T j).1 (T j).2.1 (T j).2.2.1 ∈ TBL) (hdg : decode cc pc = .ok (.getfield idx, 3))
    (kk : W p l e R s m args below meth c H locs 0 0 Q (F0 m (pc + 3) ls (.int (S.1 k j) :: rest))) : W p l e R s m args below meth c H locs 0 0 Q (F0 m pc ls (.ref (ad G k) :: rest)) := by
  obtain ⟨⟨hx, hb, hml, hown, hts⟩, hE⟩ := hC
  exact va_get hx hb hts hin hown hE.1 hP k (cells_at G S hk) hc j hj (hts _ hl) (fun _ h => h) (v := .int (S.1 k j)) (by show (fs.map (fv G S k))[j]? = _; rw [List.getElem?_map, hf]; rfl) hdg kk
theorem gFr (hC : Cx p m c s args cc nL own G) (hP : va_P (gD G) vwCl (cells G S) H) {k ci j N idx r : Nat} {fs : List (Nat ⊕ Nat)} {C : String} {T : u_T} (hk : shl[k]? = some (.inr (ci, fs))) (hc : vwCl[ci]? = some (C, T, N)) (hin : ∀ w ∈ u_ws C T N, w ∈ TBL) (hj : j < N) (hf : fs[j]? = some (.inr r)) (hl : Cond.fieldLink own idx (T j).1 (T j).2.1 (T j).2.2.1 ∈ TBL) (hdg : decode cc pc = .ok (.getfield idx, 3))
    (kk : W p l e R s m args below meth c H locs 0 0 Q (F0 m (pc + 3) ls (.ref (ad G r) :: rest))) : W p l e R s m args below meth c H locs 0 0 Q (F0 m pc ls (.ref (ad G k) :: rest)) := by
  obtain ⟨⟨hx, hb, hml, hown, hts⟩, hE⟩ := hC
  exact va_get hx hb hts hin hown hE.1 hP k (cells_at G S hk) hc j hj (hts _ hl) (fun _ h => h) (v := .ref (ad G r)) (by show (fs.map (fv G S k))[j]? = _; rw [List.getElem?_map, hf]; rfl) hdg kk
theorem sI_o {k j a : Nat} {x : Int32} (h : a ≠ k) : (sI S k j x).1 a = S.1 a := if_neg h
theorem sI_k {k j : Nat} {x : Int32} : (sI S k j x).1 k = upd (S.1 k) j x := if_pos rfl
theorem sL_o {k j a : Nat} {x : Int64} (h : a ≠ k) : (sL S k j x).2 a = S.2 a := if_neg h
theorem sL_k {k j : Nat} {x : Int64} : (sL S k j x).2 k = vp_updL (S.2 k) j x := if_pos rfl
theorem pFi (hC : Cx p m c s args cc nL own G) (hP : va_P (gD G) vwCl (cells G S) H) (hS : va_S (gA G) s.heap H locs) {k ci j N idx : Nat} {fs : List (Nat ⊕ Nat)} {C : String} {T : u_T} {ty0 : Nat → FieldType} {x : Int32} (hk : shl[k]? = some (.inr (ci, fs))) (hc : vwCl[ci]? = some (C, T, N)) (hin : ∀ w ∈ u_ws C T N, w ∈ TBL) (hty : ∀ k, k < N → parseFieldDescriptor (T k).2.2.1 = some (ty0 k)) (hnm : ∀ a, a < N → ∀ b, b < N → a ≠ b → (T a).2.1 ≠ (T b).2.1) (hj : j < N) (hf : fs[j]? = some (.inl j)) (hl : Cond.fieldLink own idx (T j).1 (T j).2.1 (T j).2.2.1 ∈ TBL) (hfin : (T j).2.2.2 = false) (hn : narrow (ty0 j) (.int x) = .int x) (hfit : fits (ty0 j) (.int x) = true) (hdg : decode cc pc = .ok (.putfield idx, 3))
    (kk : ∀ (H : Heap) (locs : List Loc), va_P (gD G) vwCl (cells G (sI S k j x)) H → va_S (gA G) s.heap H locs → W p l e R s m args below meth c H locs 0 0 Q (F0 m (pc + 3) ls rest)) : W p l e R s m args below meth c H locs 0 0 Q (F0 m pc ls (.int x :: .ref (ad G k) :: rest)) := by
  obtain ⟨⟨hx, hb, hml, hown, hts⟩, hE⟩ := hC
  have hjl := (List.getElem?_eq_some_iff.mp hf).1
  refine va_put hx hb hts hin ty0 hty hnm hown hE.1 hP (cells_D hE.2.1) hS k (cells_at G S hk) hc j hj (hts _ hl) (fun _ h => h) hfin (hty j hj) hn hfit (by rw [List.length_map]; exact hjl) hdg (fun H1 locs1 hP1 _ hS1 => kk H1 locs1 ?_ hS1)
  have e : (fs.map (fv G S k)).set j (.int x) = fs.map (fv G (sI S k j x) k) := by
    apply List.ext_getElem?
    intro i
    by_cases hi : i = j
    · subst hi
      rw [List.getElem?_set_self (by rw [List.length_map]; exact hjl), List.getElem?_map, hf]
      simp [fv, sI_k, upd]
    · rw [List.getElem?_set_ne (Ne.symm hi), List.getElem?_map, List.getElem?_map]
      cases hfi : fs[i]? with
      | none => rfl
      | some f =>
        cases f with
        | inr r => rfl
        | inl a =>
          have ha := sh_fld hk hfi
          subst ha
          simp [fv, sI_k, upd, hi]
  have e3 := cells_set (G := G) (S := S) (S' := sI S k j x) hk (fun a ha => sI_o ha) (fun a ha => rfl)
  rw [← e3]
  show va_P (gD G) vwCl ((cells G S).set k (ad G k, .inr (ci, fs.map (fv G (sI S k j x) k)))) H1
  rw [← e]
  exact hP1
theorem aS_i {k t n b : Nat} (ht : t ≤ 2) : aS G S k t n b = (n, .inl (S.1 k)) := by simp only [aS, if_pos ht]
theorem aS_l {k n b : Nat} : aS G S k 3 n b = (n, .inr (.inl (S.2 k))) := rfl
theorem some_ite {α : Type} {c : Prop} [Decidable c] {x r : α} (h : (if c then some x else none) = some r) : c ∧ x = r := by
  by_cases hc : c
  · rw [if_pos hc] at h
    exact ⟨hc, Option.some.inj h⟩
  · rw [if_neg hc] at h
    cases h
theorem gIa (hC : Cx p m c s args cc nL own G) (hP : va_P (gD G) vwCl (cells G S) H) {k : Nat} {i x : Int32} (h : rI S 0 k i = some x) (hdg : decode cc pc = .ok (.iaload, 1))
    (kk : W p l e R s m args below meth c H locs 0 0 Q (F0 m (pc + 1) ls (.int x :: rest))) : W p l e R s m args below meth c H locs 0 0 Q (F0 m pc ls (.int i :: .ref (ad G k) :: rest)) := by
  obtain ⟨⟨hx, hb, hml, hown, hts⟩, hE⟩ := hC
  obtain ⟨hi, rfl⟩ := some_ite h
  obtain ⟨n, b, hk, hn, -⟩ := al_at hi.2
  rw [hn] at hi
  exact va_iald hx hb hE.1 hP k 0 (cells_at G S hk) rfl (vp_in_of2 hi) hdg kk
theorem gBa (hC : Cx p m c s args cc nL own G) (hP : va_P (gD G) vwCl (cells G S) H) {k : Nat} {i x : Int32} (h : rI S 1 k i = some x) (hdg : decode cc pc = .ok (.baload, 1))
    (kk : W p l e R s m args below meth c H locs 0 0 Q (F0 m (pc + 1) ls (.int x :: rest))) : W p l e R s m args below meth c H locs 0 0 Q (F0 m pc ls (.int i :: .ref (ad G k) :: rest)) := by
  obtain ⟨⟨hx, hb, hml, hown, hts⟩, hE⟩ := hC
  obtain ⟨hi, rfl⟩ := some_ite h
  obtain ⟨n, b, hk, hn, -⟩ := al_at hi.2
  rw [hn] at hi
  exact va_bald hx hb hE.1 hP k 1 (cells_at G S hk) rfl (vp_in_of2 hi) hdg kk
theorem gZa (hC : Cx p m c s args cc nL own G) (hP : va_P (gD G) vwCl (cells G S) H) {k : Nat} {i x : Int32} (h : rI S 2 k i = some x) (hdg : decode cc pc = .ok (.baload, 1))
    (kk : W p l e R s m args below meth c H locs 0 0 Q (F0 m (pc + 1) ls (.int x :: rest))) : W p l e R s m args below meth c H locs 0 0 Q (F0 m pc ls (.int i :: .ref (ad G k) :: rest)) := by
  obtain ⟨⟨hx, hb, hml, hown, hts⟩, hE⟩ := hC
  obtain ⟨hi, rfl⟩ := some_ite h
  obtain ⟨n, b, hk, hn, -⟩ := al_at hi.2
  rw [hn] at hi
  exact va_zald hx hb hE.1 hP k 2 (cells_at G S hk) rfl (vp_in_of2 hi) hdg kk
theorem gLa (hC : Cx p m c s args cc nL own G) (hP : va_P (gD G) vwCl (cells G S) H) {k : Nat} {i : Int32} {x : Int64} (h : rL S k i = some x) (hdg : decode cc pc = .ok (.laload, 1))
    (kk : W p l e R s m args below meth c H locs 0 0 Q (F0 m (pc + 1) ls (.long x :: rest))) : W p l e R s m args below meth c H locs 0 0 Q (F0 m pc ls (.int i :: .ref (ad G k) :: rest)) := by
  obtain ⟨⟨hx, hb, hml, hown, hts⟩, hE⟩ := hC
  obtain ⟨hi, rfl⟩ := some_ite h
  obtain ⟨n, b, hk, hn, -⟩ := al_at hi.2
  rw [hn] at hi
  exact va_lald hx hb hE.1 hP k 3 (cells_at G S hk) rfl (vp_in_of2 hi) hdg kk
theorem gAa4 (hC : Cx p m c s args cc nL own G) (hP : va_P (gD G) vwCl (cells G S) H) {k r : Nat} {i : Int32} (h : rA 4 k i = some r) (hdg : decode cc pc = .ok (.aaload, 1))
    (kk : W p l e R s m args below meth c H locs 0 0 Q (F0 m (pc + 1) ls (.ref (ad G r) :: rest))) : W p l e R s m args below meth c H locs 0 0 Q (F0 m pc ls (.int i :: .ref (ad G k) :: rest)) := by
  obtain ⟨⟨hx, hb, hml, hown, hts⟩, hE⟩ := hC
  obtain ⟨hi, rfl⟩ := some_ite h
  obtain ⟨n, b, hk, hn, hb2⟩ := al_at hi.2
  rw [hn] at hi
  have hin := vp_in_of2 hi
  refine W.aald (v := .ref (ad G (ob k + i.toNatClampNeg))) (ty := .array .long) hx hb (hP k _ (cells_at G S hk)) ((hE.1.2 4 _ rfl).1 n (fun j => va_rf (if j < n then some (ad G (b + j)) else none))) rfl (fun q => by cases q) (by show ¬ (i < 0 ∨ (arrV _ _ _).slots.size ≤ _); rw [arrV_size]; exact hin) (by show (arrV (cy G 4) n (fun j => va_rf (if j < n then some (ad G (b + j)) else none))).slots[_]? = _; rw [arrV_read _ _ hi.2, if_pos hi.2, hb2]; rfl) rfl rfl hdg kk
theorem gAa5 (hC : Cx p m c s args cc nL own G) (hP : va_P (gD G) vwCl (cells G S) H) {k r : Nat} {i : Int32} (h : rA 5 k i = some r) (hdg : decode cc pc = .ok (.aaload, 1))
    (kk : W p l e R s m args below meth c H locs 0 0 Q (F0 m (pc + 1) ls (.ref (ad G r) :: rest))) : W p l e R s m args below meth c H locs 0 0 Q (F0 m pc ls (.int i :: .ref (ad G k) :: rest)) := by
  obtain ⟨⟨hx, hb, hml, hown, hts⟩, hE⟩ := hC
  obtain ⟨hi, rfl⟩ := some_ite h
  obtain ⟨n, b, hk, hn, hb2⟩ := al_at hi.2
  rw [hn] at hi
  have hin := vp_in_of2 hi
  refine W.aald (v := .ref (ad G (ob k + i.toNatClampNeg))) (ty := .array .int) hx hb (hP k _ (cells_at G S hk)) ((hE.1.2 5 _ rfl).1 n (fun j => va_rf (if j < n then some (ad G (b + j)) else none))) rfl (fun q => by cases q) (by show ¬ (i < 0 ∨ (arrV _ _ _).slots.size ≤ _); rw [arrV_size]; exact hin) (by show (arrV (cy G 5) n (fun j => va_rf (if j < n then some (ad G (b + j)) else none))).slots[_]? = _; rw [arrV_read _ _ hi.2, if_pos hi.2, hb2]; rfl) rfl rfl hdg kk
theorem gLen {t : Nat} (ht : t < 4) (hC : Cx p m c s args cc nL own G) (hP : va_P (gD G) vwCl (cells G S) H) {k : Nat} {x : Int32} (h : lA t k = some x) (hdg : decode cc pc = .ok (.arraylength, 1))
    (kk : W p l e R s m args below meth c H locs 0 0 Q (F0 m (pc + 1) ls (.int x :: rest))) : W p l e R s m args below meth c H locs 0 0 Q (F0 m pc ls (.ref (ad G k) :: rest)) := by
  obtain ⟨⟨hx, hb, hml, hown, hts⟩, hE⟩ := hC
  obtain ⟨hi, rfl⟩ := some_ite h
  obtain ⟨n, b, hk, hn, -⟩ := al_at hi
  rw [hn] at kk
  rcases (show t = 0 ∨ t = 1 ∨ t = 2 ∨ t = 3 by omega) with rfl | rfl | rfl | rfl
  · exact va_alen hx hb hE.1 hP k 0 (cells_at G S hk) rfl rfl hdg kk
  · exact va_alen hx hb hE.1 hP k 1 (cells_at G S hk) rfl rfl hdg kk
  · exact va_alen hx hb hE.1 hP k 2 (cells_at G S hk) rfl rfl hdg kk
  · exact va_alen hx hb hE.1 hP k 3 (cells_at G S hk) rfl rfl hdg kk
theorem ceS_i {k n b t : Nat} (ht : t ≤ 2) {f : Nat → Int32} (h : S'.1 k = f) : ceS G S' k (.inl (t, n, b)) = .inl (cy G t, n, .inl f) := by
  simp only [ceS, aS, if_pos ht, h]
theorem ceS_l {k n b : Nat} {f : Nat → Int64} (h : S'.2 k = f) : ceS G S' k (.inl (3, n, b)) = .inl (cy G 3, n, .inr (.inl f)) := by
  rw [← h]; rfl
theorem sIa (hC : Cx p m c s args cc nL own G) (hP : va_P (gD G) vwCl (cells G S) H) (hS : va_S (gA G) s.heap H locs) {k : Nat} {i x : Int32} (h : wI S k i x = some S') (hdg : decode cc pc = .ok (.iastore, 1))
    (kk : ∀ (H : Heap) (locs : List Loc), va_P (gD G) vwCl (cells G S') H → va_S (gA G) s.heap H locs → W p l e R s m args below meth c H locs 0 0 Q (F0 m (pc + 1) ls rest)) : W p l e R s m args below meth c H locs 0 0 Q (F0 m pc ls (.int x :: .int i :: .ref (ad G k) :: rest)) := by
  obtain ⟨⟨hx, hb, hml, hown, hts⟩, hE⟩ := hC
  obtain ⟨hi, rfl⟩ := some_ite h
  obtain ⟨n, b, hk, hn, -⟩ := al_at hi.2
  rw [hn] at hi
  refine va_iast hx hb hE.1 hP (cells_D hE.2.1) hS k 0 (cells_at G S hk) rfl (vp_in_of2 hi) hdg (fun H1 locs1 hP1 _ hS1 => kk H1 locs1 ?_ hS1)
  rw [← cells_set (S := S) (S' := sI S k i.toNatClampNeg x) hk (fun a ha => sI_o ha) (fun a ha => rfl), ceS_i (by omega) sI_k]
  exact hP1
theorem sBa (hC : Cx p m c s args cc nL own G) (hP : va_P (gD G) vwCl (cells G S) H) (hS : va_S (gA G) s.heap H locs) {k : Nat} {i x : Int32} (h : wB S k i x = some S') (hdg : decode cc pc = .ok (.bastore, 1))
    (kk : ∀ (H : Heap) (locs : List Loc), va_P (gD G) vwCl (cells G S') H → va_S (gA G) s.heap H locs → W p l e R s m args below meth c H locs 0 0 Q (F0 m (pc + 1) ls rest)) : W p l e R s m args below meth c H locs 0 0 Q (F0 m pc ls (.int x :: .int i :: .ref (ad G k) :: rest)) := by
  obtain ⟨⟨hx, hb, hml, hown, hts⟩, hE⟩ := hC
  obtain ⟨hi, rfl⟩ := some_ite h
  obtain ⟨n, b, hk, hn, -⟩ := al_at hi.2
  rw [hn] at hi
  refine va_bast hx hb hE.1 hP (cells_D hE.2.1) hS k 1 (cells_at G S hk) rfl (vp_in_of2 hi) hdg (fun H1 locs1 hP1 _ hS1 => kk H1 locs1 ?_ hS1)
  rw [← cells_set (S := S) (S' := sI S k i.toNatClampNeg (vp_nar .byte x)) hk (fun a ha => sI_o ha) (fun a ha => rfl), ceS_i (by omega) sI_k]
  exact hP1
theorem sZa (hC : Cx p m c s args cc nL own G) (hP : va_P (gD G) vwCl (cells G S) H) (hS : va_S (gA G) s.heap H locs) {k : Nat} {i x : Int32} (h : wZ S k i x = some S') (hdg : decode cc pc = .ok (.bastore, 1))
    (kk : ∀ (H : Heap) (locs : List Loc), va_P (gD G) vwCl (cells G S') H → va_S (gA G) s.heap H locs → W p l e R s m args below meth c H locs 0 0 Q (F0 m (pc + 1) ls rest)) : W p l e R s m args below meth c H locs 0 0 Q (F0 m pc ls (.int x :: .int i :: .ref (ad G k) :: rest)) := by
  obtain ⟨⟨hx, hb, hml, hown, hts⟩, hE⟩ := hC
  obtain ⟨hi, rfl⟩ := some_ite h
  obtain ⟨n, b, hk, hn, -⟩ := al_at hi.2
  rw [hn] at hi
  refine va_zast hx hb hE.1 hP (cells_D hE.2.1) hS k 2 (cells_at G S hk) rfl (vp_in_of2 hi) hdg (fun H1 locs1 hP1 _ hS1 => kk H1 locs1 ?_ hS1)
  rw [← cells_set (S := S) (S' := sI S k i.toNatClampNeg (vp_nar .boolean x)) hk (fun a ha => sI_o ha) (fun a ha => rfl), ceS_i (by omega) sI_k]
  exact hP1
theorem sLa (hC : Cx p m c s args cc nL own G) (hP : va_P (gD G) vwCl (cells G S) H) (hS : va_S (gA G) s.heap H locs) {k : Nat} {i : Int32} {x : Int64} (h : wL S k i x = some S') (hdg : decode cc pc = .ok (.lastore, 1))
    (kk : ∀ (H : Heap) (locs : List Loc), va_P (gD G) vwCl (cells G S') H → va_S (gA G) s.heap H locs → W p l e R s m args below meth c H locs 0 0 Q (F0 m (pc + 1) ls rest)) : W p l e R s m args below meth c H locs 0 0 Q (F0 m pc ls (.long x :: .int i :: .ref (ad G k) :: rest)) := by
  obtain ⟨⟨hx, hb, hml, hown, hts⟩, hE⟩ := hC
  obtain ⟨hi, rfl⟩ := some_ite h
  obtain ⟨n, b, hk, hn, -⟩ := al_at hi.2
  rw [hn] at hi
  refine va_last hx hb hE.1 hP (cells_D hE.2.1) hS k 3 (cells_at G S hk) rfl (vp_in_of2 hi) hdg (fun H1 locs1 hP1 _ hS1 => kk H1 locs1 ?_ hS1)
  rw [← cells_set (S := S) (S' := sL S k i.toNatClampNeg x) hk (fun a ha => rfl) (fun a ha => sL_o ha), ceS_l sL_k]
  exact hP1
theorem sCp (hC : Cx p m c s args cc nL own G) (hP : va_P (gD G) vwCl (cells G S) H) (hS : va_S (gA G) s.heap H locs) {k k2 idx : Nat} {sp dp n : Int32} (h : cpy S k sp k2 dp n = some S') (hsz : ls.size = nL) (h1 : Cond.methodLink own idx arraycopyName ∈ TBL) (h2 : Cond.native arraycopyName ∈ TBL) (h3 : Cond.static arraycopyName ∈ TBL) (h4 : Cond.initialized "java/lang/System" ∈ TBL) (hR : 1 ≤ R.frames ∧ (rest.map fun v => v.category).sum + 18 ≤ R.locals) (hdg : decode cc pc = .ok (.invokestatic idx, 3))
    (kk : ∀ (H : Heap) (locs : List Loc), va_P (gD G) vwCl (cells G S') H → va_S (gA G) s.heap H locs → W p l e R s m args below meth c H locs 0 0 Q (F0 m (pc + 3) ls rest)) : W p l e R s m args below meth c H locs 0 0 Q (F0 m pc ls (.int n :: .int dp :: .ref (ad G k2) :: .int sp :: .ref (ad G k) :: rest)) := by
  obtain ⟨⟨hx, hb, hml, hown, hts⟩, hE⟩ := hC
  obtain ⟨⟨⟨g1, g2, g3⟩, g4, g5, g6, g7⟩, rfl⟩ := some_ite h
  obtain ⟨n0, b0, hk0, hn0, -⟩ := al_at g6
  obtain ⟨n1, b1, hk1, hn1, -⟩ := al_at g7
  rw [hn0] at g4
  rw [hn1] at g5
  refine va_copyi hx hb (hml.trans hsz.symm) hown (hts _ h1) (hts _ h2) (hts _ h3) (hts _ h4) hE.1 hP (cells_D hE.2.1) hS k k2 0 0 (cells_at G S hk0) (cells_at G S hk1) rfl rfl rfl (Int32.not_lt.mpr g1) (Int32.not_lt.mpr g2) (Int32.not_lt.mpr g3) g4 g5 (fun i _ => rfl) hR.1 hR.2 hdg (fun H1 locs1 hP1 _ hS1 => kk H1 locs1 ?_ hS1)
  rw [← cells_set (S := S) (S' := cpyS S k k2 sp.toNatClampNeg dp.toNatClampNeg n.toNatClampNeg) hk1 (fun a ha => if_neg ha) (fun a ha => rfl), ceS_i (by omega) (if_pos rfl)]
  exact hP1
theorem gSt (hC : Cx p m c s args cc nL own G) (hS : va_S (gA G) s.heap H locs) {idx j : Nat} (hj : j < 5) (hl : Cond.fieldLink own idx "DeepShip" (sn j) "[I" ∈ TBL) (hdg : decode cc pc = .ok (.getstatic idx, 3))
    (kk : W p l e R s m args below meth c H locs 0 0 Q (F0 m (pc + 3) ls (.ref (sd G j) :: rest))) : W p l e R s m args below meth c H locs 0 0 Q (F0 m pc ls rest) := by
  obtain ⟨⟨hx, hb, hml, hown, hts⟩, hE⟩ := hC
  exact va_gets hx hb (hE.2.2.2 j hj).1 hS hown (hts _ hl) (fun _ h => h) hdg kk
theorem gStN (hC : Cx p m c s args cc nL own G) (hS : va_S (gA G) s.heap H locs) {idx j : Nat} (hj : j < 5) (hl : Cond.fieldLinkNest own idx "DeepShip" (sn j) "[I" "DeepShip" ∈ NW) (hdg : decode cc pc = .ok (.getstatic idx, 3))
    (kk : W p l e R s m args below meth c H locs 0 0 Q (F0 m (pc + 3) ls (.ref (sd G j) :: rest))) : W p l e R s m args below meth c H locs 0 0 Q (F0 m pc ls rest) := by
  obtain ⟨⟨hx, hb, hml, hown, hts⟩, hE⟩ := hC
  exact va_getsN hx hb (hE.2.2.2 j hj).1 hS hown (va_Nw.use rfl (hE.2.2.1 _ hl)) (fun _ h => h) hdg kk
theorem gSi (hC : Cx p m c s args cc nL own G) (hS : va_S (gA G) s.heap H locs) {j : Nat} (hj : j < 5) {i x : Int32} (h : rS j i = some x) (hdg : decode cc pc = .ok (.iaload, 1))
    (kk : W p l e R s m args below meth c H locs 0 0 Q (F0 m (pc + 1) ls (.int x :: rest))) : W p l e R s m args below meth c H locs 0 0 Q (F0 m pc ls (.int i :: .ref (sd G j) :: rest)) := by
  obtain ⟨⟨hx, hb, hml, hown, hts⟩, hE⟩ := hC
  obtain ⟨hi, rfl⟩ := some_ite h
  exact va_ti hx hb (hE.2.2.2 j hj).2 hS (vp_in_of2 hi) rfl hdg kk
theorem gSn (hC : Cx p m c s args cc nL own G) (hS : va_S (gA G) s.heap H locs) {j : Nat} (hj : j < 5) {x : Int32} (h : Int32.ofNat (sN j) = x) (hdg : decode cc pc = .ok (.arraylength, 1))
    (kk : W p l e R s m args below meth c H locs 0 0 Q (F0 m (pc + 1) ls (.int x :: rest))) : W p l e R s m args below meth c H locs 0 0 Q (F0 m pc ls (.ref (sd G j) :: rest)) := by
  obtain ⟨⟨hx, hb, hml, hown, hts⟩, hE⟩ := hC
  exact va_tlen hx hb (hE.2.2.2 j hj).2 hS h hdg kk
theorem nmI {x y : Int32} (h : some x = some y) (k : W p l e R s m args below meth c H locs 0 0 Q (F0 m pc ls (.int y :: rest))) : W p l e R s m args below meth c H locs 0 0 Q (F0 m pc ls (.int x :: rest)) := by
  cases h; exact k
theorem nmL {x y : Int64} (h : some x = some y) (k : W p l e R s m args below meth c H locs 0 0 Q (F0 m pc ls (.long y :: rest))) : W p l e R s m args below meth c H locs 0 0 Q (F0 m pc ls (.long x :: rest)) := by
  cases h; exact k
theorem xDv {x y r : Int32} (hC : Cx p m c s args cc nL own G) (h : dv x y = some r) (hdg : decode cc pc = .ok (.idiv, 1)) (k : W p l e R s m args below meth c H locs 0 0 Q (F0 m (pc + 1) ls (.int r :: rest))) : W p l e R s m args below meth c H locs 0 0 Q (F0 m pc ls (.int y :: .int x :: rest)) := by
  by_cases hy : y = 0
  · rw [dv, if_pos hy] at h; cases h
  · rw [dv, if_neg hy] at h; cases h
    exact lv_idiv hC.1.1 hC.1.2.1 hdg hy k
theorem xRm {x y r : Int32} (hC : Cx p m c s args cc nL own G) (h : rm x y = some r) (hdg : decode cc pc = .ok (.irem, 1)) (k : W p l e R s m args below meth c H locs 0 0 Q (F0 m (pc + 1) ls (.int r :: rest))) : W p l e R s m args below meth c H locs 0 0 Q (F0 m pc ls (.int y :: .int x :: rest)) := by
  by_cases hy : y = 0
  · rw [rm, if_pos hy] at h; cases h
  · rw [rm, if_neg hy] at h; cases h
    exact lv_irem hC.1.1 hC.1.2.1 hdg hy k
theorem xDvL {x y r : Int64} (hC : Cx p m c s args cc nL own G) (h : dvL x y = some r) (hdg : decode cc pc = .ok (.ldiv, 1)) (k : W p l e R s m args below meth c H locs 0 0 Q (F0 m (pc + 1) ls (.long r :: rest))) : W p l e R s m args below meth c H locs 0 0 Q (F0 m pc ls (.long y :: .long x :: rest)) := by
  by_cases hy : y = 0
  · rw [dvL, if_pos hy] at h; cases h
  · rw [dvL, if_neg hy] at h; cases h
    exact lv_ldiv hC.1.1 hC.1.2.1 hdg hy k
/-! calls -/
/-- what the tables say of a method that is called -/
def Vy (y : MethodName) (bytes : ByteArray) (maxL : Nat) (ret : Option FieldType) (n : Nat) : Prop := Cond.code y bytes maxL ret ∈ TBL ∧ Cond.initialized y.cls ∈ TBL ∧ y.cls ≠ "java/lang/invoke/MethodHandle" ∧ y.cls ≠ "java/lang/invoke/VarHandle" ∧ (parseMethodDescriptor y.desc).map (fun d => d.parameters.length) = some n
theorem cB {idx maxL n d : Nat} {y : MethodName} {bytes : ByteArray} {ret : Option FieldType} (hts : ∀ w ∈ TBL, w.before args s = true) (hV : Vy y bytes maxL ret n) (hl : Cond.methodLink own idx y ∈ TBL) (hR : d + 1 ≤ R.frames ∧ 8 + (maxL + 11) + 40 * d ≤ R.locals) : CallB R s args own idx y bytes maxL ret (ws0 y bytes maxL ret) (rmH d) 0 0 n := by
  obtain ⟨h1, h2, h3, h4, h5⟩ := hV
  exact callB_of n hts (gTB h1) rfl rfl rfl (hts _ h2) (hts _ hl) ⟨h3, h4, h5⟩ hR
theorem cN {idx maxL n d : Nat} {y : MethodName} {bytes : ByteArray} {ret : Option FieldType} {host : String} (hts : ∀ w ∈ TBL, w.before args s = true) (hE : En G s) (hV : Vy y bytes maxL ret n) (hl : Cond.methodLinkNest own idx y host ∈ NW) (hR : d + 1 ≤ R.frames ∧ 8 + (maxL + 11) + 40 * d ≤ R.locals) : va_CN R s args own idx y host bytes maxL ret (ws0 y bytes maxL ret) (rmH d) 0 0 n := by
  obtain ⟨h1, h2, h3, h4, h5⟩ := hV
  exact va_cnB n hts (gTB h1) rfl rfl rfl (hE.2.2.1 _ hl) (hts _ h2) ⟨h3, h4, h5⟩ hR
theorem preS {av : List Value} (hE : En G s) (hP : va_P (gD G) vwCl (cells G S) H) (hS : va_S (gA G) s.heap H locs) : PreS s H (va_Pc av (Wo G S)) av := ⟨fun a U g mk q => ⟨q.1, q.2.blind⟩, fun U hU hW => ⟨rfl, by rw [hU]; exact hP, hE.moved (locs := locs) (by rw [hU]; exact hS) hW⟩⟩
theorem preV {k ci : Nat} {fs : List (Nat ⊕ Nat)} {q : vw_C} {As : List Value} (hE : En G s) (hP : va_P (gD G) vwCl (cells G S) H) (hS : va_S (gA G) s.heap H locs) (hk : shl[k]? = some (.inr (ci, fs))) (hc : vwCl[ci]? = some q) : PreV s H q.1 (ad G k) (va_Pc (.ref (ad G k) :: As) (Wo G S)) As := ⟨fun a U g mk q => ⟨q.1, q.2.blind⟩, va_recv hE.1 hP hc (cells_at G S hk), fun U hU hW => ⟨rfl, by rw [hU]; exact hP, hE.moved (locs := locs) (by rw [hU]; exact hS) hW⟩⟩
abbrev Run (p : Program) (l : Launch) (e : Env) (R : Room) (s : State) (m : MethodId) (args : Array Value) (below : List Frame) (meth : Method) (c : Code) (H : Heap) (locs : List Loc) (g : JFrame) (rest : List Value) (Qc : Array Value → State → Outcome → State → Prop) (av : List Value) (G : GT) : Prop := va_Run p l e R s m args below meth c H locs 0 0 0 0 g rest (Qc av.toArray) (gA G)
theorem runV {k ci idx maxL n d : Nat} {fs : List (Nat ⊕ Nat)} {q : vw_C} {y : MethodName} {bytes : ByteArray} {ret : Option FieldType} {As : List Value} {Qc : Array Value → State → Outcome → State → Prop} (hC : Cx p m c s args cc nL own G) (hP : va_P (gD G) vwCl (cells G S) H) (hS : va_S (gA G) s.heap H locs) (hM : Met l y (ws0 y bytes maxL ret) (rmH d) (va_Pc (.ref (ad G k) :: As) (Wo G S)) Qc 0 0 (gA G)) (hV : Vy y bytes maxL ret n) (hk : shl[k]? = some (.inr (ci, fs))) (hc : vwCl[ci]? = some q) (hl : Cond.methodLink own idx y ∈ TBL) (hi : Cond.instanceMethod y ∈ TBL) (hse : Cond.selects q.1 y y ∈ TBL) (hR : d + 1 ≤ R.frames ∧ 8 + (maxL + 11) + 40 * d ≤ R.locals) (hn : As.length = n) (hsz : ls.size = nL) (hst : st = As.reverse ++ .ref (ad G k) :: rest) (hW : (rest.map fun v => v.category).sum ≤ 8) (hdg : decode cc pc = .ok (.invokevirtual idx, 3)) : Run p l e R s m args below meth c H locs (F0 m pc ls st) rest Qc (.ref (ad G k) :: As) G :=
  va_runV hC.1 hM ⟨cB hC.1.2.2.2.2 hV hl hR, hC.1.2.2.2.2 _ hi, hC.1.2.2.2.2 _ hse⟩ (preV hC.2 hP hS hk hc) rfl hn hsz hst (lv_room hW) hdg ⟨Nat.zero_le _, Nat.zero_le _⟩
theorem runS {idx maxL n d : Nat} {y : MethodName} {bytes : ByteArray} {ret : Option FieldType} {As : List Value} {Qc : Array Value → State → Outcome → State → Prop} (hC : Cx p m c s args cc nL own G) (hP : va_P (gD G) vwCl (cells G S) H) (hS : va_S (gA G) s.heap H locs) (hM : Met l y (ws0 y bytes maxL ret) (rmH d) (va_Pc As (Wo G S)) Qc 0 0 (gA G)) (hV : Vy y bytes maxL ret n) (hl : Cond.methodLink own idx y ∈ TBL) (hi : Cond.static y ∈ TBL) (hR : d + 1 ≤ R.frames ∧ 8 + (maxL + 11) + 40 * d ≤ R.locals) (hn : As.length = n) (hsz : ls.size = nL) (hst : st = As.reverse ++ rest) (hW : (rest.map fun v => v.category).sum ≤ 8) (hdg : decode cc pc = .ok (.invokestatic idx, 3)) : Run p l e R s m args below meth c H locs (F0 m pc ls st) rest Qc As G :=
  va_runS hC.1 hM ⟨cB hC.1.2.2.2.2 hV hl hR, hC.1.2.2.2.2 _ hi⟩ (preS hC.2 hP hS) rfl hn hsz hst (lv_room hW) hdg ⟨Nat.zero_le _, Nat.zero_le _⟩
theorem runSN {idx maxL n d : Nat} {y : MethodName} {bytes : ByteArray} {ret : Option FieldType} {As : List Value} {Qc : Array Value → State → Outcome → State → Prop} {host : String} (hC : Cx p m c s args cc nL own G) (hP : va_P (gD G) vwCl (cells G S) H) (hS : va_S (gA G) s.heap H locs) (hM : Met l y (ws0 y bytes maxL ret) (rmH d) (va_Pc As (Wo G S)) Qc 0 0 (gA G)) (hV : Vy y bytes maxL ret n) (hl : Cond.methodLinkNest own idx y host ∈ NW) (hi : Cond.static y ∈ TBL) (hR : d + 1 ≤ R.frames ∧ 8 + (maxL + 11) + 40 * d ≤ R.locals) (hn : As.length = n) (hsz : ls.size = nL) (hst : st = As.reverse ++ rest) (hW : (rest.map fun v => v.category).sum ≤ 8) (hdg : decode cc pc = .ok (.invokestatic idx, 3)) : Run p l e R s m args below meth c H locs (F0 m pc ls st) rest Qc As G :=
  va_runSN hC.1 hM ⟨cN hC.1.2.2.2.2 hC.2 hV hl hR, hC.1.2.2.2.2 _ hi, trivial⟩ (preS hC.2 hP hS) rfl hn hsz hst (lv_room hW) hdg ⟨Nat.zero_le _, Nat.zero_le _⟩
theorem cI {r : Int32} {av : List Value} (hS : va_S (gA G) s.heap H locs) (hr : Run p l e R s m args below meth c H locs (F0 m pc ls st) rest (va_Qi (fun r' u => r' = r ∧ u = S') (Wo G) (gA G)) av G)
    (kk : ∀ (H : Heap) (locs : List Loc), va_P (gD G) vwCl (cells G S') H → va_S (gA G) s.heap H locs → W p l e R s m args below meth c H locs 0 0 Q (F0 m (pc + 3) ls (.int r :: rest))) : W p l e R s m args below meth c H locs 0 0 Q (F0 m pc ls st) :=
  va_calli hr hS (fun _ _ h => h) (fun _ h => h) (fun r' u t H1 locs1 ht _ hp hB _ _ hS1 => by
    obtain ⟨rfl, rfl⟩ := hp
    exact kk H1 locs1 (by rw [← ht]; exact hB.1) hS1)
theorem cL {r : Int64} {av : List Value} (hS : va_S (gA G) s.heap H locs) (hr : Run p l e R s m args below meth c H locs (F0 m pc ls st) rest (va_Ql (fun r' u => r' = r ∧ u = S') (Wo G) (gA G)) av G)
    (kk : ∀ (H : Heap) (locs : List Loc), va_P (gD G) vwCl (cells G S') H → va_S (gA G) s.heap H locs → W p l e R s m args below meth c H locs 0 0 Q (F0 m (pc + 3) ls (.long r :: rest))) : W p l e R s m args below meth c H locs 0 0 Q (F0 m pc ls st) :=
  va_calll hr hS (fun _ _ h => h) (fun _ h => h) (fun r' u t H1 locs1 ht _ hp hB _ _ hS1 => by
    obtain ⟨rfl, rfl⟩ := hp
    exact kk H1 locs1 (by rw [← ht]; exact hB.1) hS1)
theorem cV {av : List Value} (hS : va_S (gA G) s.heap H locs) (hr : Run p l e R s m args below meth c H locs (F0 m pc ls st) rest (va_Qv (fun u => u = S') (Wo G) (gA G)) av G)
    (kk : ∀ (H : Heap) (locs : List Loc), va_P (gD G) vwCl (cells G S') H → va_S (gA G) s.heap H locs → W p l e R s m args below meth c H locs 0 0 Q (F0 m (pc + 3) ls rest)) : W p l e R s m args below meth c H locs 0 0 Q (F0 m pc ls st) :=
  va_callv hr hS (fun _ _ h => h) (fun _ h => h) (fun u t H1 locs1 ht _ hp hB _ _ hS1 => by
    subst hp
    exact kk H1 locs1 (by rw [← ht]; exact hB.1) hS1)
theorem cA {r : Nat} {av : List Value} (hS : va_S (gA G) s.heap H locs) (hr : Run p l e R s m args below meth c H locs (F0 m pc ls st) rest (va_Qr (fun u => u = S') (fun u a t => a = ad G r ∧ Wo G u t) (gA G)) av G)
    (kk : ∀ (H : Heap) (locs : List Loc), va_P (gD G) vwCl (cells G S') H → va_S (gA G) s.heap H locs → W p l e R s m args below meth c H locs 0 0 Q (F0 m (pc + 3) ls (.ref (ad G r) :: rest))) : W p l e R s m args below meth c H locs 0 0 Q (F0 m pc ls st) :=
  va_callr hr hS (fun _ _ h => h) (fun _ h => h) (fun u a t H1 locs1 ht _ hp hB _ _ hS1 => by
    subst hp
    obtain ⟨rfl, hB⟩ := hB
    exact kk H1 locs1 (by rw [← ht]; exact hB.1) hS1)
end MACH
