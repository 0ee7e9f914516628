/-! what the walks of the methods take -/
def FU : Nat := 20000
def us64 (x : Int64) (y : Int32) : Int64 := (x.toUInt64 >>> (y.toInt64.toUInt64 &&& Int64.toUInt64 63)).toInt64
def sl64 (x : Int64) (y : Int32) : Int64 := x <<< (y.toInt64 &&& 63)
def ss64 (x : Int64) (y : Int32) : Int64 := x >>> (y.toInt64 &&& 63)
def us32 (x y : Int32) : Int32 := (x.toUInt32 >>> (y.toUInt32 &&& Int32.toUInt32 31)).toInt32
def b2 {α β : Type} (x : Option (α × ST)) (f : α → ST → Option β) : Option β := x.bind fun q => f q.1 q.2
theorem ob_two {α β : Type} {x : Option (α × ST)} {f : α → ST → Option β} {r : β} (h : b2 x f = some r) : ∃ (a : α) (S : ST), x = some (a, S) ∧ f a S = some r := by
  obtain ⟨⟨a, S⟩, h1, h2⟩ := ob_some h
  exact ⟨a, S, h1, h2⟩
theorem bz_n {x y : Int32} (h : bz x = some y) : narrow .boolean (.int y) = .int y := by
  obtain ⟨hx, rfl⟩ := some_ite h
  rcases hx with rfl | rfl <;> rfl
theorem bz_f {x y : Int32} (h : bz x = some y) : fits .boolean (.int y) = true := by
  obtain ⟨hx, rfl⟩ := some_ite h
  rcases hx with rfl | rfl <;> rfl
theorem tsOut {x : Int32} {lo hi : Int} (h : ∀ k : Int, lo ≤ k → k ≤ hi → ¬ x = Int32.ofInt k) : x.toInt < lo ∨ hi < x.toInt := by
  rcases Int.lt_or_le x.toInt lo with q | q
  · exact Or.inl q
  · rcases Int.lt_or_le hi x.toInt with q2 | q2
    · exact Or.inr q2
    · exact absurd (Int32.ofInt_toInt x).symm (h _ q q2)
theorem lsOut2 {x : Int32} {a b d : Int} (h0 : ¬ x = 0) (h1 : ¬ x = 1) : Op.lookupswitch.offset [(0, a), (1, b)] d x.toInt = d := by
  have e0 : ¬ x.toInt = 0 := fun q => h0 (Int32.toInt_inj.mp (q.trans rfl))
  have e1 : ¬ x.toInt = 1 := fun q => h1 (Int32.toInt_inj.mp (q.trans rfl))
  simp [Op.lookupswitch.offset, e0, e1, Ne.symm e0, Ne.symm e1]
section PRE
variable {p : Program} {l : Launch} {e : Env} {R : Room} {s : State} {m : MethodId} {args : Array Value} {below : List Frame} {meth : Method} {c : Code} {H : Heap} {locs : List Loc} {Q : State → Prop}
variable {cc : ByteArray} {pc nL : Nat} {ls : Array Slot} {rest st : List Value} {G : GT} {S S' : ST} {own : String}
theorem bzW {x y : Int32} (h : bz x = some y) (k : W p l e R s m args below meth c H locs 0 0 Q (F0 m pc ls (.int y :: rest))) : W p l e R s m args below meth c H locs 0 0 Q (F0 m pc ls (.int x :: rest)) := by
  obtain ⟨-, rfl⟩ := some_ite h
  exact k
def KZ (p : Program) (l : Launch) (e : Env) (R : Room) (s : State) (m : MethodId) (args : Array Value) (below : List Frame) (meth : Method) (c : Code) (Q : State → Prop) (cc : ByteArray) (G : GT) (r : Int32) (S' : ST) : Prop := ∀ (H : Heap) (locs : List Loc) (pc : Nat) (ls : Array Slot), narrow .boolean (.int r) = .int r → va_P (gD G) vwCl (cells G S') H → va_S (gA G) s.heap H locs → decode cc pc = .ok (.ireturn, 1) → W p l e R s m args below meth c H locs 0 0 Q (F0 m pc ls [.int r])
theorem mkZ {y : MethodName} {d : Nat} {av : List Value} {r : Int32} (hy : plainFor y = true) (ho : y.cls = own) (hn : (lg_sl av).length ≤ nL)
    (body : ∀ (p : Program) (e : Env) (s : State) (m : MethodId) (args : Array Value) (below : List Frame) (meth : Method) (c : Code) (Q : State → Prop) (ls : Array Slot), Cx p m c s args cc nL own G → va_P (gD G) vwCl (cells G S) s.heap → va_S (gA G) s.heap s.heap [] → lv_has ls nL (lv_args 0 av) → KZ p l e (rmH d) s m args below meth c Q cc G r S' → W p l e (rmH d) s m args below meth c s.heap [] 0 0 Q (F0 m 0 ls [])) : MI l y cc nL (some .boolean) d av G S r S' := by
  refine ofWF (cc := cc) (maxL := nL) (ret := some .boolean) hy rfl ?_
  intro p e s m args below meth c s₁ B hml hv
  obtain ⟨rfl, hP, hE⟩ := hv
  have hts := atoms_spec (ws := ws0 y cc nL (some .boolean)) B.pre
  have hown : s.vm.findClass own = some m.cls := by rw [← ho]; exact findClass_of_methodNamed B.named
  have hlocks := B.notSynchronized
  rw [lg_entry_eq]
  refine body p e s m _ below meth c _ _ ⟨⟨B.exec, B.bytes, hml, hown, fun w hw => hts w (List.mem_cons_of_mem _ hw)⟩, hE⟩ hP va_S.rf (lv_entry av hn) ?_
  intro H locs pc ls hz hP1 hS1 hd
  exact W.zret B.exec B.bytes B.returns hz (fun t ht hW => ⟨⟨r, S', rfl, ⟨rfl, rfl⟩, by rw [ht]; exact hP1, hE.moved (locs := locs) (by rw [ht]; exact hS1) hW⟩, hS1.F ht⟩) hS1.2.2 hd
theorem retI {r x : Int32} (hQ : KI p l e R s m args below meth c Q cc G r S) (hf : some x = some r) (hP : va_P (gD G) vwCl (cells G S) H) (hS : va_S (gA G) s.heap H locs) (hd : decode cc pc = .ok (.ireturn, 1)) : W p l e R s m args below meth c H locs 0 0 Q (F0 m pc ls [.int x]) := by
  cases hf; exact hQ _ _ _ _ hP hS hd
theorem retIw {r x : Int32} (hQ : KI p l e R s m args below meth c Q cc G r S') (hf : some (x, S) = some (r, S')) (hP : va_P (gD G) vwCl (cells G S) H) (hS : va_S (gA G) s.heap H locs) (hd : decode cc pc = .ok (.ireturn, 1)) : W p l e R s m args below meth c H locs 0 0 Q (F0 m pc ls [.int x]) := by
  cases hf; exact hQ _ _ _ _ hP hS hd
theorem retZ {r x : Int32} (hQ : KZ p l e R s m args below meth c Q cc G r S) (hz : narrow .boolean (.int x) = .int x) (hf : some x = some r) (hP : va_P (gD G) vwCl (cells G S) H) (hS : va_S (gA G) s.heap H locs) (hd : decode cc pc = .ok (.ireturn, 1)) : W p l e R s m args below meth c H locs 0 0 Q (F0 m pc ls [.int x]) := by
  cases hf; exact hQ _ _ _ _ hz hP hS hd
theorem retZw {r x : Int32} (hQ : KZ p l e R s m args below meth c Q cc G r S') (hz : narrow .boolean (.int x) = .int x) (hf : some (x, S) = some (r, S')) (hP : va_P (gD G) vwCl (cells G S) H) (hS : va_S (gA G) s.heap H locs) (hd : decode cc pc = .ok (.ireturn, 1)) : W p l e R s m args below meth c H locs 0 0 Q (F0 m pc ls [.int x]) := by
  cases hf; exact hQ _ _ _ _ hz hP hS hd
theorem retL {r x : Int64} (hQ : KL p l e R s m args below meth c Q cc G r S) (hf : some x = some r) (hP : va_P (gD G) vwCl (cells G S) H) (hS : va_S (gA G) s.heap H locs) (hd : decode cc pc = .ok (.lreturn, 1)) : W p l e R s m args below meth c H locs 0 0 Q (F0 m pc ls [.long x]) := by
  cases hf; exact hQ _ _ _ _ hP hS hd
theorem retA {r x : Nat} (hQ : KA p l e R s m args below meth c Q cc G r S) (hf : some x = some r) (hP : va_P (gD G) vwCl (cells G S) H) (hS : va_S (gA G) s.heap H locs) (hd : decode cc pc = .ok (.areturn, 1)) : W p l e R s m args below meth c H locs 0 0 Q (F0 m pc ls [.ref (ad G x)]) := by
  cases hf; exact hQ _ _ _ _ hP hS hd
theorem retV (hQ : KV p l e R s m args below meth c Q cc G S') (hf : some S = some S') (hP : va_P (gD G) vwCl (cells G S) H) (hS : va_S (gA G) s.heap H locs) (hd : decode cc pc = .ok (.return_, 1)) : W p l e R s m args below meth c H locs 0 0 Q (F0 m pc ls []) := by
  cases hf; exact hQ _ _ _ _ hP hS hd
end PRE
