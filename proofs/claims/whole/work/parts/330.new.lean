/-! ===== while the objects are made: which segments are there, and where they lie ===== -/
def off (k : Nat) : Nat := if k < 16 then k else if k = 16 then 116 else if k = 17 then 117 else if k = 18 then 135 else if k = 19 then 136 else if k = 20 then 143 else if k = 21 then 144 else if k < 27 then k + 123 else if k < 30 then k + 127 else if k < 50 then k + 127 else if k < 150 then k - 34 else if k < 167 then k - 32 else if k < 173 then k - 30 else k - 23
theorem off_inj : ∀ i, i < 177 → ∀ j, j < 177 → off i = off j → i = j := by decide +kernel
theorem shl_len : shl.length = 177 := by decide +kernel
def upE (E : Nat → Option va_E) (k : Nat) (e : va_E) : Nat → Option va_E := fun j => if j = k then some e else E j
theorem upE_s {E : Nat → Option va_E} {k : Nat} {e : va_E} : upE E k e k = some e := if_pos rfl
theorem upE_n {E : Nat → Option va_E} {k j : Nat} {e : va_E} (h : j ≠ k) : upE E k e j = E j := if_neg h
def upR (E : Nat → Option va_E) (b N : Nat) (e : va_E) : Nat → Option va_E := fun j => if b ≤ j ∧ j < b + N then some e else E j
def Pw (G : GT) (E : Nat → Option va_E) (H : Heap) : Prop := ∀ k e, E k = some e → k < 177 ∧ va_at (gD G) vwCl (ad G k, e) H
/-- where the segments lie, and what may be written -/
def Gz (G : GT) (sz : Nat) : Prop := (∀ k, k < 177 → ad G k = sz + off k) ∧ ∀ q, sz ≤ q → gA G q
theorem Gz.ne {G : GT} {sz i j : Nat} (h : Gz G sz) (hi : i < 177) (hj : j < 177) (n : i ≠ j) : ad G i ≠ ad G j := fun e => n (off_inj i hi j hj (by have h1 := h.1 i hi; have h2 := h.1 j hj; omega))
theorem Pw.kept {G : GT} {E : Nat → Option va_E} {H H1 : Heap} (h : Pw G E H) (hk : ∀ q, q < H.size → H1[q]? = H[q]?) : Pw G E H1 := fun k e hE => ⟨(h k e hE).1, (h k e hE).2.kept (hk _ (h k e hE).2.lt)⟩
theorem Pw.put {G : GT} {sz k : Nat} {E : Nat → Option va_E} {e : va_E} {H H1 : Heap} (hG : Gz G sz) (h : Pw G E H) (hk : k < 177) (he : va_at (gD G) vwCl (ad G k, e) H1) (oq : ∀ q, q ≠ ad G k → H1[q]? = H[q]?) : Pw G (upE E k e) H1 := by
  intro j e2 hj
  by_cases hjk : j = k
  · subst hjk
    rw [upE_s] at hj
    cases hj
    exact ⟨hk, he⟩
  · rw [upE_n hjk] at hj
    obtain ⟨h1, h2⟩ := h j e2 hj
    exact ⟨h1, h2.kept (oq _ (hG.ne h1 hk hjk))⟩
theorem Pw.add {G : GT} {k : Nat} {E : Nat → Option va_E} {e : va_E} {H H1 : Heap} (h : Pw G E H) (hk : k < 177) (he : va_at (gD G) vwCl (ad G k, e) H1) (oq : ∀ q, q < H.size → H1[q]? = H[q]?) : Pw G (upE E k e) H1 := by
  intro j e2 hj
  by_cases hjk : j = k
  · subst hjk
    rw [upE_s] at hj
    cases hj
    exact ⟨hk, he⟩
  · rw [upE_n hjk] at hj
    exact h.kept oq j e2 hj
theorem Pw.weak {G : GT} {E E2 : Nat → Option va_E} {H : Heap} (h : Pw G E H) (h2 : ∀ j e, E2 j = some e → E j = some e) : Pw G E2 H := fun k e hE => h k e (h2 k e hE)
theorem Pw.one {G : GT} {E : Nat → Option va_E} {H : Heap} {k : Nat} {e : va_E} (h : Pw G E H) (hE : E k = some e) : va_P (gD G) vwCl [(ad G k, e)] H := fun i q hq => by
  have h0 : i < 1 := (List.getElem?_eq_some_iff.mp hq).1
  rw [show i = 0 by omega] at hq
  cases hq
  exact (h k e hE).2
theorem va_AOA.spec {t : FieldType} {U : State} (h : va_AOA t U) : ∃ comp c k, U.vm.findClass (FieldType.array t).toString = some comp ∧ (U.vm.classes.findIdx? fun (x : Class) => match x.kind with | .array component _ => component == comp | _ => false) = some c ∧ U.vm.classes[c]? = some k ∧ k.kind = .array comp (.array t) ∧ U.vm.findClass ("[" ++ (FieldType.array t).toString) = some c := by
  unfold va_AOA Cond.before Cond.holds at h
  simp only [Cond.value, beq_iff_eq] at h
  cases hc : U.vm.findClass (FieldType.array t).toString with
  | none => simp [hc] at h
  | some comp =>
    simp only [hc, Option.bind_some, Option.bind_eq_some_iff, Option.map_eq_some_iff] at h
    obtain ⟨c, hi, k, hk, hb⟩ := h
    obtain ⟨hlt, hp, -⟩ := Array.findIdx?_eq_some_iff_getElem.mp hi
    have hkk : U.vm.classes[c] = k := (Array.getElem?_eq_some_iff.mp hk).2
    rw [hkk] at hp
    cases hkind : k.kind with
    | array component ty =>
      rw [hkind] at hb hp
      simp at hb hp
      subst hp
      exact ⟨component, c, k, rfl, hi, hk, by rw [hkind, hb.1], hb.2⟩
    | _ => rw [hkind] at hb; simp at hb
theorem va_AOA.moved {t : FieldType} {u U : State} (hvm : u.vm.Alike U.vm) (h : va_AOA t u) : va_AOA t U := by
  obtain ⟨comp, c, k, h1, h2, h3, h4, h5⟩ := h.spec
  obtain ⟨k', hk', he⟩ := hvm.2.2 _ _ h3
  have hi : (U.vm.classes.findIdx? fun (x : Class) => match x.kind with | .array component _ => component == comp | _ => false) = some c := by
    have b1 := va_idx_bare U.vm comp
    have b2 := va_idx_bare u.vm comp
    have b3 : u.vm.bare = U.vm.bare := by first | exact hvm.bare_eq | exact hvm.bare_eq.symm
    rw [b3] at b2
    exact (b1.symm.trans b2).trans h2
  have hkind : k'.kind = .array comp (.array t) := by rw [he]; exact h4
  have f1 : U.vm.findClass (FieldType.array t).toString = some comp := by rw [hvm.findClass]; exact h1
  have f2 : U.vm.findClass ("[" ++ (FieldType.array t).toString) = some c := by rw [hvm.findClass]; exact h5
  unfold va_AOA Cond.before Cond.holds
  simp only [Cond.value]
  rw [f1, Option.bind_some]
  refine (congrArg (fun o : Option Nat => (o.bind (fun c => (U.vm.classes[c]?).map fun (k : Class) => match k.kind with | .array _ ty => decide (ty = FieldType.array t) && decide (U.vm.findClass ("[" ++ (FieldType.array t).toString) = some c) | _ => false) == some true)) hi).trans ?_
  simp [hk', hkind, f2]
theorem inn_J (c : ClassId) (K : Nat) : Jvm.Free.Multi.innerC c K (defaultValue .long) = vp_cell c (K, .inr (.inl (fun _ => 0))) := arrV_new c K (.long 0)
theorem inn_I (c : ClassId) (K : Nat) : Jvm.Free.Multi.innerC c K (defaultValue .int) = vp_cell c (K, .inl (fun _ => 0)) := arrV_new c K (.int 0)
def AOs (U : State) : Prop := va_AOA .long U ∧ va_AOA .int U
theorem AOs.moved {u U : State} (hvm : u.vm.Alike U.vm) (h : AOs u) : AOs U := ⟨h.1.moved hvm, h.2.moved hvm⟩
/-- a constructor's contract: n0 cells are there at its start, n1 at its end -/
def rmC (d mc ms : Nat) : Room := { frames := d, cells := mc, slots := ms, locals := 40 * d }
def MC (l : Launch) (y : MethodName) (cc : ByteArray) (n d mc ms : Nat) (av : List Value) (G : GT) (sz : Nat) (E : Nat → Option va_E) (n0 : Nat) (E' : Nat → Option va_E) (n1 : Nat) : Prop := Met l y (ws0 y cc n none) (rmC d mc ms) (va_Pc av (fun U => (Pw G E U.heap ∧ U.heap.size = sz + n0 ∧ AOs U) ∧ En G U)) (va_Qv (fun _ : Unit => True) (fun _ t => (Pw G E' t.heap ∧ t.heap.size = sz + n1) ∧ En G t) (gA G)) mc ms (gA G)
theorem En.blind {G : GT} {U : State} {g : JFrame} {mk : MethodId} {a : Array Value} (h : En G U) : En G (U.calling g mk a) := by
  obtain ⟨h1, h2, h3, h4⟩ := h
  exact ⟨va_K.moved (u := U) (U := U.calling g mk a) (Vm.Alike.refl U.vm) h1, h2, fun w hw => va_Nw.same (u := U) (U := U.calling g mk a) (NW_on w hw) rfl (h3 w hw), fun j hj => ⟨(h4 j hj).1.moved (u := U) (U := U.calling g mk a) (Vm.Alike.refl U.vm), (h4 j hj).2.moved (u := U) (U := U.calling g mk a) (Vm.Alike.refl U.vm)⟩⟩
section NEW
variable {p : Program} {l : Launch} {e : Env} {R : Room} {s : State} {m : MethodId} {args : Array Value} {below : List Frame} {meth : Method} {c : Code} {H : Heap} {locs : List Loc} {Q : State → Prop}
variable {cc : ByteArray} {pc nL cl sl sz n : Nat} {ls : Array Slot} {rest st : List Value} {G : GT} {E E' : Nat → Option va_E} {own : String}
def KC (p : Program) (l : Launch) (e : Env) (R : Room) (s : State) (m : MethodId) (args : Array Value) (below : List Frame) (meth : Method) (c : Code) (Q : State → Prop) (cc : ByteArray) (G : GT) (mc ms sz : Nat) (E' : Nat → Option va_E) (n1 : Nat) : Prop := ∀ (H : Heap) (locs : List Loc) (pc : Nat) (ls : Array Slot), Pw G E' H → H.size = sz + n1 → va_S (gA G) s.heap H locs → decode cc pc = .ok (.return_, 1) → W p l e R s m args below meth c H locs mc ms Q (F0 m pc ls [])
theorem mkC {y : MethodName} {d mc ms n0 n1 : Nat} {av : List Value} (hy : plainFor y = true) (ho : y.cls = own) (hn : (lg_sl av).length ≤ nL)
    (body : ∀ (p : Program) (e : Env) (s : State) (m : MethodId) (args : Array Value) (below : List Frame) (meth : Method) (c : Code) (Q : State → Prop) (ls : Array Slot), Cx p m c s args cc nL own G → meth.name = y.name → AOs s → Pw G E s.heap → s.heap.size = sz + n0 → va_S (gA G) s.heap s.heap [] → lv_has ls nL (lv_args 0 av) → KC p l e (rmC d mc ms) s m args below meth c Q cc G mc ms sz E' n1 → W p l e (rmC d mc ms) s m args below meth c s.heap [] 0 0 Q (F0 m 0 ls [])) : MC l y cc nL d mc ms av G sz E n0 E' n1 := by
  refine ofWF (cc := cc) (maxL := nL) (ret := none) hy rfl ?_
  intro p e s m args below meth c s₁ B hml hv
  obtain ⟨rfl, ⟨hP, hz, hAO⟩, hE⟩ := hv
  have hts := atoms_spec (ws := ws0 y cc nL none) B.pre
  have hown : s.vm.findClass own = some m.cls := by rw [← ho]; exact findClass_of_methodNamed B.named
  have hlocks := B.notSynchronized
  rw [lg_entry_eq]
  refine body p e s m _ below meth c _ _ ⟨⟨B.exec, B.bytes, hml, hown, fun w hw => hts w (List.mem_cons_of_mem _ hw)⟩, hE⟩ (name_of_methodNamed B.named B.method).1 hAO hP hz va_S.rf (lv_entry av hn) ?_
  intro H locs pc ls hP1 hz1 hS1 hd
  exact W.vret B.exec B.bytes B.returns (fun t ht hW => ⟨⟨(), rfl, trivial, by rw [ht]; exact ⟨hP1, hz1⟩, hE.moved (locs := locs) (by rw [ht]; exact hS1) hW⟩, hS1.F ht⟩) hS1.2.2 hd
theorem preC {av : List Value} {n0 : Nat} (hAO : AOs s) (hE : En G s) (hP : Pw G E H) (hz : H.size = sz + n0) (hS : va_S (gA G) s.heap H locs) : PreS s H (va_Pc av (fun U => (Pw G E U.heap ∧ U.heap.size = sz + n0 ∧ AOs U) ∧ En G U)) av := ⟨fun a U g mk q => ⟨q.1, ⟨q.2.1.1, q.2.1.2.1, q.2.1.2.2.moved (u := U) (U := U.calling g mk a) (Vm.Alike.refl U.vm)⟩, q.2.2.blind⟩, fun U hU hW => ⟨rfl, ⟨by rw [hU]; exact hP, by rw [hU]; exact hz, hAO.moved hW.alike⟩, hE.moved (locs := locs) (by rw [hU]; exact hS) hW⟩⟩
theorem cC (hAO : AOs s) {d mc ms idx maxL n0 n1 k : Nat} {y : MethodName} {bytes : ByteArray} {As : List Value} (hC : Cx p m c s args cc nL own G) (hP : Pw G E H) (hz : H.size = sz + n0) (hS : va_S (gA G) s.heap H locs) (hM : MC l y bytes maxL d mc ms (.ref (ad G k) :: As) G sz E n0 E' n1) (hV : Vy y bytes maxL none As.length) (hyn : y.name = "<init>") (hl : Cond.methodLink own idx y ∈ TBL) (hi : Cond.instanceMethod y ∈ TBL) (hR : d + 1 ≤ R.frames ∧ 8 + (maxL + 11) + 40 * d ≤ R.locals) (hsz : ls.size = nL) (hst : st = As.reverse ++ .ref (ad G k) :: rest) (hW : (rest.map fun v => v.category).sum ≤ 8) (hdg : decode cc pc = .ok (.invokespecial idx, 3)) (hf : cl + mc ≤ R.cells ∧ sl + ms ≤ R.slots)
    (kk : ∀ (H : Heap) (locs : List Loc), Pw G E' H → H.size = sz + n1 → va_S (gA G) s.heap H locs → W p l e R s m args below meth c H locs (cl + mc) (sl + ms) Q (F0 m (pc + 3) ls rest)) : W p l e R s m args below meth c H locs cl sl Q (F0 m pc ls st) := by
  obtain ⟨h1, h2, h3, h4, h5⟩ := hV
  refine va_callv (va_runI (As := As) (rest := rest) (b := ad G k) hC.1 hM ⟨callB_of As.length hC.1.2.2.2.2 (gTB h1) rfl rfl rfl (hC.1.2.2.2.2 _ h2) (hC.1.2.2.2.2 _ hl) ⟨h3, h4, h5⟩ hR, hyn, hC.1.2.2.2.2 _ hi⟩ (preC hAO hC.2 hP hz hS) rfl rfl hsz hst (lv_room hW) hdg hf) hS (fun _ _ h => h) (fun _ h => h) (fun u t H1 locs1 ht _ hp hB _ _ hS1 => kk H1 locs1 (by rw [← ht]; exact hB.1.1) (by rw [← ht]; exact hB.1.2) hS1)
theorem cCN (hAO : AOs s) {d mc ms idx maxL n0 n1 k : Nat} {y : MethodName} {bytes : ByteArray} {As : List Value} {host : String} (hC : Cx p m c s args cc nL own G) (hP : Pw G E H) (hz : H.size = sz + n0) (hS : va_S (gA G) s.heap H locs) (hM : MC l y bytes maxL d mc ms (.ref (ad G k) :: As) G sz E n0 E' n1) (hV : Vy y bytes maxL none As.length) (hyn : y.name = "<init>") (hl : Cond.methodLinkNest own idx y host ∈ NW) (hi : Cond.instanceMethod y ∈ TBL) (hR : d + 1 ≤ R.frames ∧ 8 + (maxL + 11) + 40 * d ≤ R.locals) (hsz : ls.size = nL) (hst : st = As.reverse ++ .ref (ad G k) :: rest) (hW : (rest.map fun v => v.category).sum ≤ 8) (hdg : decode cc pc = .ok (.invokespecial idx, 3)) (hf : cl + mc ≤ R.cells ∧ sl + ms ≤ R.slots)
    (kk : ∀ (H : Heap) (locs : List Loc), Pw G E' H → H.size = sz + n1 → va_S (gA G) s.heap H locs → W p l e R s m args below meth c H locs (cl + mc) (sl + ms) Q (F0 m (pc + 3) ls rest)) : W p l e R s m args below meth c H locs cl sl Q (F0 m pc ls st) := by
  obtain ⟨h1, h2, h3, h4, h5⟩ := hV
  refine va_callv (va_runIN (As := As) (rest := rest) (b := ad G k) hC.1 hM ⟨va_cnB As.length hC.1.2.2.2.2 (gTB h1) rfl rfl rfl (hC.2.2.2.1 _ hl) (hC.1.2.2.2.2 _ h2) ⟨h3, h4, h5⟩ hR, hyn, hC.1.2.2.2.2 _ hi⟩ (preC hAO hC.2 hP hz hS) rfl rfl hsz hst (lv_room hW) hdg hf) hS (fun _ _ h => h) (fun _ h => h) (fun u t H1 locs1 ht _ hp hB _ _ hS1 => kk H1 locs1 (by rw [← ht]; exact hB.1.1) (by rw [← ht]; exact hB.1.2) hS1)
/-- new: an object of a class -/
theorem cNew {k ci N idx : Nat} {C : String} {T : u_T} {ty : Nat → FieldType} {fs : List Value} (hC : Cx p m c s args cc nL own G) (hG : Gz G sz) (hP : Pw G E H) (hz : H.size = sz + n) (hS : va_S (gA G) s.heap H locs) (hk : k < 177) (ho : off k = n) (hc : vwCl[ci]? = some (C, T, N)) (hin : ∀ w ∈ u_ws C T N, w ∈ TBL) (hty : ∀ k, k < N → parseFieldDescriptor (T k).2.2.1 = some (ty k)) (h1 : Cond.classLink own idx C ∈ TBL) (h2 : Cond.instantiable C N ∈ TBL) (h3 : Cond.initialized C ∈ TBL) (hfs : ∀ j, j < N → defaultValue (ty j) = vp_V fs j) (hcells : cl + 1 ≤ R.cells) (hslots : sl + N ≤ R.slots) (hdg : decode cc pc = .ok (.new idx, 3))
    (kk : ∀ (H : Heap), Pw G (upE E k (.inr (ci, fs))) H → H.size = sz + (n + 1) → va_S (gA G) s.heap H locs → W p l e R s m args below meth c H locs (cl + 1) (sl + N) Q (F0 m (pc + 3) ls (.ref (ad G k) :: rest))) : W p l e R s m args below meth c H locs cl sl Q (F0 m pc ls rest) := by
  obtain ⟨⟨hx, hb, hml, hown, hts⟩, hE⟩ := hC
  have hKn := hE.1.1 ci _ hc
  refine W.newcK hx hb hown (hts _ h1) (hts _ h2) (hts _ h3) rfl hdg hcells hslots hKn.2.1 rfl fun H1 kC hkC e1 z1 o1 => ?_
  have hak : ad G k = H.size := by rw [hG.1 k hk, ho, hz]
  rw [← hak]
  refine kk H1 (hP.add hk ⟨_, hc, ?_⟩ o1) (by rw [z1, hz]; rfl) ⟨Nat.le_trans hS.1 (by omega), fun q q1 q2 => (o1 q (Nat.lt_of_lt_of_le q1 hS.1)).trans (hS.2.1 q q1 q2), hS.2.2⟩
  rw [hak]
  exact (u_born ty hts hin hKn hkC e1 hty).to hfs
/-- newarray -/
theorem cNewA {k t N' : Nat} {atype : ArrayType} {x : Int32} {a0 : vp_A} (hC : Cx p m c s args cc nL own G) (hG : Gz G sz) (hP : Pw G E H) (hz : H.size = sz + n) (hS : va_S (gA G) s.heap H locs) (hk : k < 177) (ho : off k = n) (harr : Cond.arrayClass (newarray.typeOf atype) ∈ TBL) (hty : (tysG G)[t]? = some (cy G t, newarray.typeOf atype)) (ha : ∀ cA : ClassId, vp_cell cA a0 = arrV cA N' (fun _ => defaultValue (newarray.typeOf atype))) (hn : ¬ x < 0) (hN : x.toNatClampNeg = N') (hbytes : N' * componentBytes (newarray.typeOf atype) ≤ 536870912) (hcells : cl + 1 ≤ R.cells) (hslots : sl + N' ≤ R.slots) (hdg : decode cc pc = .ok (.newarray atype, 2))
    (kk : ∀ (H : Heap), Pw G (upE E k (.inl (cy G t, a0))) H → H.size = sz + (n + 1) → va_S (gA G) s.heap H locs → W p l e R s m args below meth c H locs (cl + 1) (sl + N') Q (F0 m (pc + 2) ls (.ref (ad G k) :: rest))) : W p l e R s m args below meth c H locs cl sl Q (F0 m pc ls (.int x :: rest)) := by
  obtain ⟨⟨hx, hb, hml, hown, hts⟩, hE⟩ := hC
  refine va_newaK hx hb (hts _ harr) rfl hdg rfl hn hN hbytes hcells hslots rfl fun H1 cA e1 z1 o1 hAr hNm => ?_
  have hak : ad G k = H.size := by rw [hG.1 k hk, ho, hz]
  have hcA : cA = cy G t := by
    have h9 := (hE.1.2 t _ hty).2
    have h8 : s.vm.findClass ("[" ++ (newarray.typeOf atype).toString) = some (cy G t) := by cases atype <;> exact h9
    exact Option.some.inj (hNm.symm.trans h8)
  subst hcA
  rw [← hak]
  refine kk H1 (hP.add hk ?_ o1) (by rw [z1, hz]; rfl) ⟨Nat.le_trans hS.1 (by omega), fun q q1 q2 => (o1 q (Nat.lt_of_lt_of_le q1 hS.1)).trans (hS.2.1 q q1 q2), hS.2.2⟩
  show H1[ad G k]? = some (vp_cell _ _)
  rw [ha, hak]
  exact e1
/-- a store into an int array -/
theorem cIast {k N' : Nat} {i x : Int32} {f : Nat → Int32} (hC : Cx p m c s args cc nL own G) (hG : Gz G sz) (hP : Pw G E H) (hz : H.size = sz + n) (hS : va_S (gA G) s.heap H locs) (hE1 : E k = some (.inl (cy G 0, N', .inl f))) (hin : vp_in i N') (hdg : decode cc pc = .ok (.iastore, 1))
    (kk : ∀ (H : Heap) (locs : List Loc), Pw G (upE E k (.inl (cy G 0, N', .inl (upd f i.toNatClampNeg x)))) H → H.size = sz + n → va_S (gA G) s.heap H locs → W p l e R s m args below meth c H locs cl sl Q (F0 m (pc + 1) ls rest)) : W p l e R s m args below meth c H locs cl sl Q (F0 m pc ls (.int x :: .int i :: .ref (ad G k) :: rest)) := by
  obtain ⟨⟨hx, hb, hml, hown, hts⟩, hE⟩ := hC
  obtain ⟨hk, hc⟩ := hP k _ hE1
  refine W.iast hx hb hc ((hE.1.2 0 _ rfl).1 N' (fun j => .int (f j))) (fun q => by cases q) (by show ¬ (i < 0 ∨ (arrV _ _ _).slots.size ≤ _); rw [arrV_size]; exact hin) rfl rfl hdg fun H1 e z oq => ?_
  refine kk H1 _ (hP.put hG hk ?_ oq) (z.trans hz) (hS.put z oq (hG.2 _ (by rw [hG.1 k hk]; omega)))
  show H1[ad G k]? = some (vp_cell _ _)
  rw [e]
  rw [vp_cell_i, vp_cell_i, arrV_store]
  congr 2
  funext q
  by_cases hq : q = i.toNatClampNeg
  · subst hq
    simp [updV, upd]
  · simp [updV, upd, hq]
/-- putfield, final or not -/
theorem cPut {k ci j N idx : Nat} {fs : List Value} {C : String} {T : u_T} {ty0 : Nat → FieldType} {v : Value} (hC : Cx p m c s args cc nL own G) (hG : Gz G sz) (hP : Pw G E H) (hz : H.size = sz + n) (hS : va_S (gA G) s.heap H locs) (hE1 : E k = some (.inr (ci, fs))) (hc : vwCl[ci]? = some (C, T, N)) (hin : ∀ w ∈ u_ws C T N, w ∈ TBL) (hty : ∀ k, k < N → parseFieldDescriptor (T k).2.2.1 = some (ty0 k)) (hnm : ∀ a, a < N → ∀ b, b < N → a ≠ b → (T a).2.1 ≠ (T b).2.1) (hj : j < N) (hl : Cond.fieldLink own idx (T j).1 (T j).2.1 (T j).2.2.1 ∈ TBL) (hfin : (T j).2.2.2 = false) (hn : narrow (ty0 j) v = v) (hfit : fits (ty0 j) v = true) (hlen : j < fs.length) (hdg : decode cc pc = .ok (.putfield idx, 3))
    (kk : ∀ (H : Heap) (locs : List Loc), Pw G (upE E k (.inr (ci, fs.set j v))) H → H.size = sz + n → va_S (gA G) s.heap H locs → W p l e R s m args below meth c H locs cl sl Q (F0 m (pc + 3) ls rest)) : W p l e R s m args below meth c H locs cl sl Q (F0 m pc ls (v :: .ref (ad G k) :: rest)) := by
  obtain ⟨⟨hx, hb, hml, hown, hts⟩, hE⟩ := hC
  have hap := va_apart (own := own) hts hin ty0 hty hnm hE.1 hc
  obtain ⟨hk, r, h1, cell, q1, q2, q3, q4⟩ := hP k _ hE1
  have hr : r = (C, T, N) := Option.some.inj (h1.symm.trans hc)
  subst hr
  obtain ⟨hS1, hfc, kC, hkC, hkind⟩ := hE.1.1 ci _ hc
  obtain ⟨cf, kf, fi, f, hi, hsl⟩ := hS1 j hj
  have hlay := hts _ (hin _ (u_in_lay hj))
  unfold u_lay at hlay
  rw [if_neg (by rw [hfin]; decide)] at hlay
  have hst := (u_facts hfc hkC (u_lays hts hin hj) hi).1
  have h6 := u_store hfc hkC hkind hlay hi (hty j hj) hn hfit
  refine W.putK hx hb (f := f) ⟨hown, hts _ hl, ⟨_, _, _, hi⟩, hst⟩ (by rw [q2]; exact h6) q1 q3 (by rw [hsl]; exact k2_hasslot (q4 j hj)) rfl rfl hdg fun H' e1 e2 e3 => ?_
  rw [hsl] at e1 ⊢
  exact kk H' _ (hP.put hG hk ⟨_, hc, t_OB.to (V := updV (vp_V fs) j v) ⟨_, e1, q2, q3, t_set q4 hap hj v⟩ (fun i _ => vp_updV_set hlen v i)⟩ e3) (e2.trans hz) (hS.put e2 e3 (hG.2 _ (by rw [hG.1 k hk]; omega)))
theorem cPutF {k ci j N idx : Nat} {fs : List Value} {C : String} {T : u_T} {ty0 : Nat → FieldType} {v : Value} (hC : Cx p m c s args cc nL own G) (hname : meth.name = "<init>") (hG : Gz G sz) (hP : Pw G E H) (hz : H.size = sz + n) (hS : va_S (gA G) s.heap H locs) (hE1 : E k = some (.inr (ci, fs))) (hc : vwCl[ci]? = some (C, T, N)) (hin : ∀ w ∈ u_ws C T N, w ∈ TBL) (hty : ∀ k, k < N → parseFieldDescriptor (T k).2.2.1 = some (ty0 k)) (hnm : ∀ a, a < N → ∀ b, b < N → a ≠ b → (T a).2.1 ≠ (T b).2.1) (hj : j < N) (hl : Cond.fieldLink own idx (T j).1 (T j).2.1 (T j).2.2.1 ∈ TBL) (hfin : (T j).2.2.2 = true) (hdecl : (T j).1 = own) (hn : narrow (ty0 j) v = v) (hfit : fits (ty0 j) v = true) (hlen : j < fs.length) (hdg : decode cc pc = .ok (.putfield idx, 3))
    (kk : ∀ (H : Heap) (locs : List Loc), Pw G (upE E k (.inr (ci, fs.set j v))) H → H.size = sz + n → va_S (gA G) s.heap H locs → W p l e R s m args below meth c H locs cl sl Q (F0 m (pc + 3) ls rest)) : W p l e R s m args below meth c H locs cl sl Q (F0 m pc ls (v :: .ref (ad G k) :: rest)) := by
  obtain ⟨⟨hx, hb, hml, hown, hts⟩, hE⟩ := hC
  have hap := va_apart (own := own) hts hin ty0 hty hnm hE.1 hc
  obtain ⟨hk, r, h1, cell, q1, q2, q3, q4⟩ := hP k _ hE1
  have hr : r = (C, T, N) := Option.some.inj (h1.symm.trans hc)
  subst hr
  obtain ⟨hS1, hfc, kC, hkC, hkind⟩ := hE.1.1 ci _ hc
  obtain ⟨cf, kf, fi, f, hi, hsl⟩ := hS1 j hj
  have hlay := hts _ (hin _ (u_in_lay hj))
  unfold u_lay at hlay
  rw [if_pos hfin] at hlay
  have hst := (u_facts hfc hkC (u_lays hts hin hj) hi).1
  have hcf : m.cls = cf := by
    obtain ⟨_, _, c', _, _, _, -, -, hf', -, -, -, hown2, -⟩ := Cond.laysFinal_spec hlay
    have e1 : c' = cf := by have := hi.symm.trans hf'; simp at this; exact this.1.symm
    rw [hdecl] at hown2
    rw [← e1]; exact Option.some.inj (hown.symm.trans hown2)
  have h6 := u_fits hfc hkC hkind (Or.inr hlay) hi (hty j hj) hn hfit
  refine W.putFinK hx hb hown (hts _ hl) hi hst hcf hname (by rw [q2]; exact h6) q1 q3 (by rw [hsl]; exact k2_hasslot (q4 j hj)) rfl rfl hdg fun H' e1 e2 e3 => ?_
  rw [hsl] at e1 ⊢
  exact kk H' _ (hP.put hG hk ⟨_, hc, t_OB.to (V := updV (vp_V fs) j v) ⟨_, e1, q2, q3, t_set q4 hap hj v⟩ (fun i _ => vp_updV_set hlen v i)⟩ e3) (e2.trans hz) (hS.put e2 e3 (hG.2 _ (by rw [hG.1 k hk]; omega)))
/-- getfield of a reference, of an object under way -/
theorem cGet {k ci j N idx r : Nat} {fs : List Value} {C : String} {T : u_T} (hC : Cx p m c s args cc nL own G) (hP : Pw G E H) (hE1 : E k = some (.inr (ci, fs))) (hc : vwCl[ci]? = some (C, T, N)) (hin : ∀ w ∈ u_ws C T N, w ∈ TBL) (hj : j < N) (hf : fs[j]? = some (.ref (ad G r))) (hl : Cond.fieldLink own idx (T j).1 (T j).2.1 (T j).2.2.1 ∈ TBL) (hdg : decode cc pc = .ok (.getfield idx, 3))
    (kk : W p l e R s m args below meth c H locs cl sl Q (F0 m (pc + 3) ls (.ref (ad G r) :: rest))) : W p l e R s m args below meth c H locs cl sl Q (F0 m pc ls (.ref (ad G k) :: rest)) := by
  obtain ⟨⟨hx, hb, hml, hown, hts⟩, hE⟩ := hC
  exact va_get hx hb hts hin hown hE.1 (hP.one hE1) 0 rfl hc j hj (hts _ hl) (fun _ h => h) hf hdg kk
/-- new T[n][m] -/
theorem cMul {k b t t1 N' K' idx : Nat} {ty : FieldType} {x y : Int32} {z : vp_A} (hC : Cx p m c s args cc nL own G) (hG : Gz G sz) (hP : Pw G E H) (hz : H.size = sz + n) (hS : va_S (gA G) s.heap H locs) (hk : k < 177) (ho : off k = n) (hb9 : b + N' ≤ 177) (hob : ∀ i, i < N' → off (b + i) = n + 1 + i)
    (hcl : Cond.classLink own idx ("[" ++ (FieldType.array ty).toString) ∈ TBL) (hover : va_AOA ty s) (harr : Cond.arrayClass ty ∈ TBL) (ht1 : (tysG G)[t1]? = some (cy G t1, ty)) (hprim : ∀ U c, va_RA U c ty → U.vm.findClass ("[" ++ ty.toString) = some c) (hstr : (FieldType.array ty).toString = "[" ++ ty.toString) (ht : (tysG G)[t]? = some (cy G t, .array ty)) (hn : ¬ x < 0) (hk0 : ¬ y < 0) (hN : x.toNatClampNeg = N') (hM : y.toNatClampNeg = K')
    (hb1 : N' * 4 ≤ 536870912) (hb2 : K' * componentBytes ty ≤ 536870912) (hb3 : K' ≤ 536870912) (hdf : fits ty (defaultValue ty) = true) (hdd : (defaultValue ty).isDefault = true) (hcells : cl + (1 + N') ≤ R.cells) (hslots : sl + (N' + N' * K') ≤ R.slots) (hzz : ∀ c : ClassId, Jvm.Free.Multi.innerC c K' (defaultValue ty) = vp_cell c z) (hdg : decode cc pc = .ok (.multianewarray idx 2, 4))
    (kk : ∀ (H : Heap), Pw G (upE (upR E b N' (.inl (cy G t1, z))) k (.inl (cy G t, N', .inr (.inr (.inr (.inr (fun i => if i < N' then some (ad G (b + i)) else none))))))) H → H.size = sz + (n + 1 + N') → va_S (gA G) s.heap H locs → W p l e R s m args below meth c H locs (cl + 1 + N') (sl + N' + N' * K') Q (F0 m (pc + 4) ls (.ref (ad G k) :: rest))) : W p l e R s m args below meth c H locs cl sl Q (F0 m pc ls (.int y :: .int x :: rest)) := by
  subst hN
  subst hM
  obtain ⟨⟨hx, hb, hml, hown, hts⟩, hE⟩ := hC
  intro T hT Xs
  obtain ⟨vm₁, cA, comp, -, fA, fC, hO, -, X', step⟩ := Xs.multianewarray2F hx hown (hts _ hcl) (va_AOA.use hover) (hts _ harr) (g := F0 m pc ls (.int y :: .int x :: rest)) rfl (by rw [hb]; exact hdg) rfl hn hk0 hb1 hb2 hb3 hdf hdd hcells hslots
  have ecp : comp = cy G t1 := by
    have h9 := hprim _ _ (hE.1.2 t1 _ ht1).2
    rw [hstr] at fC
    exact Option.some.inj (fC.symm.trans h9)
  have ecA : cA = cy G t := by
    have h9 : s.vm.findClass ("[" ++ (FieldType.array ty).toString) = some (cy G t) := (hE.1.2 t _ ht).2
    exact Option.some.inj (fA.symm.trans h9)
  subst ecp
  subst ecA
  generalize hF : Jvm.Free.Multi.fill (T.setVm vm₁) (cy G t) (cy G t1) x.toNatClampNeg y.toNatClampNeg (defaultValue ty) x.toNatClampNeg = F at X' step
  have hTh : (T.setVm vm₁).heap = H := hT
  obtain ⟨f1, f2, -, -⟩ := Jvm.Free.Multi.fill_facts (T.setVm vm₁) (cy G t) (cy G t1) x.toNatClampNeg y.toNatClampNeg (defaultValue ty) x.toNatClampNeg
  rw [hF, hTh] at f1 f2
  have hold : ∀ q : Nat, q < H.size → F.heap[q]? = H[q]? := fun q hq => by
    have := Jvm.Free.Multi.fill_old (T.setVm vm₁) (cy G t) (cy G t1) x.toNatClampNeg y.toNatClampNeg (defaultValue ty) (a := q) (by rw [hTh]; exact hq) x.toNatClampNeg
    rw [hF, hTh] at this
    exact this
  have hrow : ∀ j : Nat, j < x.toNatClampNeg → F.heap[H.size + 1 + j]? = some (vp_cell (cy G t1) z) := fun j hj => by
    have := Jvm.Free.Multi.fill_inner (T.setVm vm₁) (cy G t) (cy G t1) x.toNatClampNeg y.toNatClampNeg (defaultValue ty) x.toNatClampNeg j hj
    rw [hF, hTh, hzz] at this
    exact this
  have hadr : ∀ i, i < x.toNatClampNeg → ad G (b + i) = H.size + 1 + i := fun i hi => by
    rw [hG.1 (b + i) (by omega), hob i hi, hz]
    omega
  have hak : ad G k = H.size := by rw [hG.1 k hk, ho, hz]
  have hout : Jvm.Free.Multi.outerC (cy G t) x.toNatClampNeg H.size x.toNatClampNeg = vp_cell (cy G t) (x.toNatClampNeg, .inr (.inr (.inr (.inr (fun i => if i < x.toNatClampNeg then some (ad G (b + i)) else none))))) := by
    rw [vp_cell_q]
    refine (vr_outer (cy G t) x.toNatClampNeg H.size x.toNatClampNeg).trans ?_
    congr 1
    funext i
    by_cases hi : i < x.toNatClampNeg
    · rw [if_pos hi, if_pos hi, hadr i hi]
    · rw [if_neg hi, if_neg hi]
  rw [hout] at f2
  have hPw : Pw G (upE (upR E b x.toNatClampNeg (.inl (cy G t1, z))) k (.inl (cy G t, x.toNatClampNeg, .inr (.inr (.inr (.inr (fun i => if i < x.toNatClampNeg then some (ad G (b + i)) else none))))))) F.heap := by
    intro j e2 hj
    by_cases hjk : j = k
    · subst hjk
      rw [upE_s] at hj
      cases hj
      refine ⟨hk, ?_⟩
      show F.heap[ad G j]? = _
      rw [hak]
      exact f2
    · rw [upE_n hjk] at hj
      unfold upR at hj
      by_cases hr : b ≤ j ∧ j < b + x.toNatClampNeg
      · rw [if_pos hr] at hj
        cases hj
        obtain ⟨i, rfl⟩ : ∃ i, j = b + i := ⟨j - b, by omega⟩
        refine ⟨by omega, ?_⟩
        show F.heap[ad G (b + i)]? = _
        rw [hadr i (by omega)]
        exact hrow i (by omega)
      · rw [if_neg hr] at hj
        exact hP.kept hold j e2 hj
  have hsz1 : F.heap.size = sz + (n + 1 + x.toNatClampNeg) := by rw [f1, hz]; omega
  obtain ⟨t9, a1, b1⟩ := kk F.heap hPw hsz1 ⟨by rw [hsz1]; have := hS.1; omega, fun q q1 q2 => (hold q (Nat.lt_of_lt_of_le q1 hS.1)).trans (hS.2.1 q q1 q2), hS.2.2⟩ F rfl X'
  refine ⟨t9, step t9 ?_, b1⟩
  have e9 : T.heap.size = ad G k := by rw [hT, hak]
  rw [e9]
  exact a1
end NEW
