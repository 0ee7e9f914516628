/-! ===== calls that change the port ===== -/
abbrev Ar (S : ST) (k : Nat) (f : Nat → Int) (n : Nat) : Prop := ∀ i, i < n → S.1 k i = iI (f i)
def uf (f : Nat → Int) (i : Nat) (v : Int) : Nat → Int := fun j => if j = i then v else f j
theorem uf_s {f : Nat → Int} {i : Nat} {v : Int} : uf f i v i = v := if_pos rfl
theorem uf_n {f : Nat → Int} {i j : Nat} {v : Int} (h : j ≠ i) : uf f i v j = f j := if_neg h
theorem Ar.up {S : ST} {k n i : Nat} {f : Nat → Int} {x : Int32} {v : Int} (h : Ar S k f n) (hx : x = iI v) : Ar (sI S k i x) k (uf f i v) n := by
  intro j hj
  rw [sI_1]
  by_cases e : j = i
  · rw [if_pos ⟨rfl, e⟩, e, uf_s, hx]
  · rw [if_neg (fun q => e q.2), uf_n e]
    exact h j hj
theorem Ar.push {S : ST} {k n i : Nat} {f : Nat → Int} {x : Int32} {v : Int} (h : Ar S k f n) (hi : i = n) (hx : x = iI v) : Ar (sI S k i x) k (uf f i v) (n + 1) := by
  intro j hj
  rw [sI_1]
  by_cases e : j = i
  · rw [if_pos ⟨rfl, e⟩, e, uf_s, hx]
  · rw [if_neg (fun q => e q.2), uf_n e]
    exact h j (by omega)
theorem Ar.fr {S : ST} {k n a i : Nat} {f : Nat → Int} {x : Int32} (h : Ar S k f n) (hk : k ≠ a) : Ar (sI S a i x) k f n := by
  intro j hj
  rw [sI_ne hk]
  exact h j hj
theorem Inv.port {S S' : ST} {A : PT} (h : Inv S) (hP : PP S' A) (hd : ∀ k, (k = 0 ∨ (6 ≤ k ∧ k < 30) ∨ 35 ≤ k) → S'.1 k = S.1 k) (h30 : ∀ i, i ≠ 0 → i ≠ 4 → S'.1 30 i = S.1 30 i) (h2 : ∀ k, 50 ≤ k → k < 150 → S'.2 k = S.2 k) : Inv S' := by
  obtain ⟨-, hI, hT, hSh, hF⟩ := h
  refine ⟨⟨A, hP⟩, hI.of (by rw [hd 0 (by omega)]) (h30 24 (by omega) (by omega)) (fun k _ _ => hd k (by omega)) (hd 45 (by omega)), hT.of (by rw [hd 22 (by omega)]) (h30 7 (by omega) (by omega)) (hd 24 (by omega)) (hd 35 (by omega)), hSh.of (hd 27 (by omega)) (hd 28 (by omega)) (hd 46 (by omega)) (hd 47 (by omega)) (hd 48 (by omega)) (fun k _ _ => hd k (by omega)), hF.of (by rw [hd 13 (by omega)]) (hd 14 (by omega)) h2⟩
def setHt (A : PT) (i : Nat) (v : Int) : PT := (A.1, A.2.1, uf (ht A) i v, A.2.2.2.1, A.2.2.2.2)
def setSe (A : PT) (i : Nat) (v : Int) : PT := (A.1, A.2.1, A.2.2.1, uf (se A) i v, A.2.2.2.2)
def setMk (A : PT) (i : Nat) (v : Int) : PT := (A.1, uf (mk A) i v, A.2.2.1, A.2.2.2.1, A.2.2.2.2)
section REP
variable {S : ST} {A : PT} {ko i0 i1 kh ks km ku k i : Nat} {x : Int32} {v : Int}
theorem Rep.fr (h : Rep S A ko i0 i1 kh ks km ku) (h0 : ko ≠ k) (h2 : kh ≠ k) (h3 : ks ≠ k) (h4 : km ≠ k) (h5 : ku ≠ k) : Rep (sI S k i x) A ko i0 i1 kh ks km ku := h.of (sI_ne h0) (sI_ne h0) (sI_o h2) (sI_o h3) (sI_o h4) (sI_o h5)
theorem Rep.ht (h : Rep S A ko i0 i1 kh ks km ku) (hx : x = iI v) (h0 : ko ≠ kh) (h3 : ks ≠ kh) (h4 : km ≠ kh) (h5 : ku ≠ kh) : Rep (sI S kh i x) (setHt A i v) ko i0 i1 kh ks km ku :=
  ⟨⟨(sI_ne h0).trans h.1.1, (sI_ne h0).trans h.1.2⟩, Ar.up h.2.1 hx, Ar.fr h.2.2.1 h3, Ar.fr h.2.2.2.1 h4, Ar.fr h.2.2.2.2 h5⟩
theorem Rep.se (h : Rep S A ko i0 i1 kh ks km ku) (hx : x = iI v) (h0 : ko ≠ ks) (h3 : kh ≠ ks) (h4 : km ≠ ks) (h5 : ku ≠ ks) : Rep (sI S ks i x) (setSe A i v) ko i0 i1 kh ks km ku :=
  ⟨⟨(sI_ne h0).trans h.1.1, (sI_ne h0).trans h.1.2⟩, Ar.fr h.2.1 h3, Ar.up h.2.2.1 hx, Ar.fr h.2.2.2.1 h4, Ar.fr h.2.2.2.2 h5⟩
theorem Rep.mk (h : Rep S A ko i0 i1 kh ks km ku) (hx : x = iI v) (h0 : ko ≠ km) (h3 : kh ≠ km) (h4 : ks ≠ km) (h5 : ku ≠ km) : Rep (sI S km i x) (setMk A i v) ko i0 i1 kh ks km ku :=
  ⟨⟨(sI_ne h0).trans h.1.1, (sI_ne h0).trans h.1.2⟩, Ar.fr h.2.1 h3, Ar.fr h.2.2.1 h4, Ar.up h.2.2.2.1 hx, Ar.fr h.2.2.2.2 h5⟩
end REP
theorem gt01 {c : Prop} [Decidable c] {β : Type} {x : Option Int32} (h : x = some (if c then 1 else 0)) {u w : Option β} : (x.bind fun v => if v = 0 then u else w) = if c then w else u := by
  subst h
  exact ite01
theorem g_w {x : Int32} {a : Int} (hx : x = iI a) (ha : Rg a) (y z : Int32) (b c : Int) (hy : y = iI b) (hz : z = iI c) (hb : Rg b) (hc : Rg c) {β : Type} {u w : Option β} : ((f_X7_within x y z).bind fun v => if v = 0 then u else w) = if b ≤ a ∧ a ≤ c then w else u := gt01 (e_within hx hy hz ha hb hc)
theorem g_i {x : Int32} {a : Int} (hx : x = iI a) (ha : Rg a) (y z : Int64) (b c : Int) (hy : y.toInt = b) (hz : z.toInt = c) {β : Type} {u w : Option β} : ((f_X8_in x.toInt64 y z).bind fun v => if v = 0 then u else w) = if b ≤ a ∧ a ≤ c then w else u := gt01 (e_in (l_toInt hx ha) hy hz)
theorem ok_height (a0 a1 : Int32) : Pr Inv (fun S => f_X7_height S a0 a1) (fun S => f_X8_height S a0 a1) := by
  intro S hI
  show ∃ r S1 S2, f_X7_height S a0 a1 = some (r, S1) ∧ f_X8_height S1 a0 a1 = some (r, S2) ∧ Inv S2
  have hI0 := hI
  obtain ⟨⟨A, hV, hR, hM⟩, -⟩ := hI
  obtain ⟨a, ha, hx⟩ := i_of a0
  obtain ⟨b, hb, hy⟩ := i_of a1
  by_cases h1 : 0 ≤ a ∧ a ≤ 23
  · by_cases h2 : 0 ≤ b ∧ b ≤ 99
    · obtain ⟨h, hh, rfl⟩ := nat_of (a := a) (n := 24) (by omega)
      refine ⟨S.1 2 h, sI S 2 h a1, sI (sI S 2 h a1) 32 h a1, ?_, ?_, ?_⟩
      · unfold f_X7_height
        rw [g_w hx ha 0 23 0 23 rfl rfl (by omega) (by omega), if_pos h1, g_w hy hb 0 99 0 99 rfl rfl (by omega) (by omega), if_pos h2]
        exact bd (rI_ok (t := 0) (k := 2) hx rfl hh (by omega)) (bd (wI_ok (k := 2) hx rfl hh (by omega)) rfl)
      · unfold f_X8_height
        rw [g_i hx ha 0 23 0 23 rfl rfl, if_pos h1, g_i hy hb 0 99 0 99 rfl rfl, if_pos h2]
        refine bd (rI_ok (t := 0) (k := 32) hx rfl hh (by omega)) (bd (wI_ok (k := 32) hx rfl hh (by omega)) ?_)
        rw [sI_ne (by decide), hR.2.1 h hh, hM.2.1 h hh]
      · refine hI0.port (A := setHt A h b) ⟨⟨hV.1, hV.2.1, ?_, hV.2.2.2⟩, (hR.ht hy (by decide) (by decide) (by decide) (by decide)).fr (by decide) (by decide) (by decide) (by decide) (by decide), (hM.fr (by decide) (by decide) (by decide) (by decide) (by decide)).ht hy (by decide) (by decide) (by decide) (by decide)⟩ (fun k hk => ?_) (fun i _ _ => ?_) (fun _ _ _ => rfl)
        · intro i hi
          show 0 ≤ uf (ht A) h b i ∧ uf (ht A) h b i ≤ 99
          by_cases e : i = h
          · rw [e, uf_s]; exact h2
          · rw [uf_n e]; exact hV.2.2.1 i hi
        · rw [sI_o (by omega), sI_o (by omega)]
        · rw [sI_ne (by decide), sI_ne (by decide)]
    · refine ⟨-1, S, S, ?_, ?_, hI0⟩
      · unfold f_X7_height
        rw [g_w hx ha 0 23 0 23 rfl rfl (by omega) (by omega), if_pos h1, g_w hy hb 0 99 0 99 rfl rfl (by omega) (by omega), if_neg h2]
      · unfold f_X8_height
        rw [g_i hx ha 0 23 0 23 rfl rfl, if_pos h1, g_i hy hb 0 99 0 99 rfl rfl, if_neg h2]
  · refine ⟨-1, S, S, ?_, ?_, hI0⟩
    · unfold f_X7_height
      rw [g_w hx ha 0 23 0 23 rfl rfl (by omega) (by omega), if_neg h1]
    · unfold f_X8_height
      rw [g_i hx ha 0 23 0 23 rfl rfl, if_neg h1]
/-! the ranges of marks and settings -/
def loM : Nat → Int := fun w => if w = 0 then 20 else if w = 1 then 10 else 0
def hiM : Nat → Int := fun w => if w = 0 then 250 else if w = 1 then 99 else if w = 2 then 9 else if w = 3 then 20 else 40
def hiS : Nat → Int := fun w => if w = 0 then 90 else if w = 1 then 9 else if w = 2 then 10 else if w = 3 then 1 else 99
theorem sv_lo : ∀ w, w < 5 → sv 2 w = iI (loM w) := by decide +kernel
theorem sv_hi : ∀ w, w < 5 → sv 3 w = iI (hiM w) := by decide +kernel
theorem sv_se : ∀ w, w < 5 → sv 4 w = iI (hiS w) := by decide +kernel
theorem rg_M : ∀ w, w < 5 → (0 ≤ loM w ∧ loM w ≤ 20) ∧ 0 ≤ hiM w ∧ hiM w ≤ 250 := by decide +kernel
theorem rg_S : ∀ w, w < 5 → 0 ≤ hiS w ∧ hiS w ≤ 99 := by decide +kernel
theorem e_isMark {S : ST} {x y : Int32} {w : Nat} {v : Int} (hx : x = iI (w : Int)) (hw : w < 5) (hy : y = iI v) (hv : Rg v) : f_X7_isMark S x y = some (if loM w ≤ v ∧ v ≤ hiM w then 1 else 0) := by
  have := rg_M w hw
  unfold f_X7_isMark
  refine bd (rS_ok (j := 2) hx rfl hw (by omega)) (bd (rS_ok (j := 3) hx rfl hw (by omega)) ?_)
  refine bd (e_within hy (sv_lo w hw) (sv_hi w hw) hv (by omega) (by omega)) ?_
  rw [bz01]
  rfl
theorem m_isPart {x y : Int32} {w : Nat} {v : Int} (hx : x = iI (w : Int)) (hw : w < 5) (hy : y = iI v) (hv : Rg v) : f_X8_isPart x y = some (if loM w ≤ v ∧ v ≤ hiM w then 1 else 0) := by
  unfold f_X8_isPart
  rcases (show w = 0 ∨ w = 1 ∨ w = 2 ∨ w = 3 ∨ w = 4 by omega) with rfl | rfl | rfl | rfl | rfl
  · rw [if_pos (show x = 0 from hx)]
    refine bd (e_in (b := 20) (c := 250) (l_toInt hy hv) rfl rfl) ?_
    rw [bz01]; rfl
  · rw [if_neg (by rw [hx]; decide), if_pos (show x = 1 from hx)]
    refine bd (e_in (b := 10) (c := 99) (l_toInt hy hv) rfl rfl) ?_
    rw [bz01]; rfl
  · rw [if_neg (by rw [hx]; decide), if_neg (by rw [hx]; decide), if_pos (show x = 2 from hx)]
    refine bd (e_in (b := 0) (c := 9) (l_toInt hy hv) rfl rfl) ?_
    rw [bz01]; rfl
  · rw [if_neg (by rw [hx]; decide), if_neg (by rw [hx]; decide), if_neg (by rw [hx]; decide), if_pos (show x = 3 from hx)]
    refine bd (e_in (b := 0) (c := 20) (l_toInt hy hv) rfl rfl) ?_
    rw [bz01]; rfl
  · rw [if_neg (by rw [hx]; decide), if_neg (by rw [hx]; decide), if_neg (by rw [hx]; decide), if_neg (by rw [hx]; decide), if_pos (show x = 4 from hx)]
    refine bd (e_in (b := 0) (c := 40) (l_toInt hy hv) rfl rfl) ?_
    rw [ite01]
    by_cases h : 0 ≤ v ∧ v ≤ 40
    · rw [if_pos h, if_pos (show loM 4 ≤ v ∧ v ≤ hiM 4 from h)]
    · rw [if_neg h, if_neg (show ¬ (loM 4 ≤ v ∧ v ≤ hiM 4) from h)]
theorem m_isPart_no {x y : Int32} {a : Int} (hx : x = iI a) (ha : Rg a) (h : ¬ (0 ≤ a ∧ a ≤ 4)) : f_X8_isPart x y = some 0 := by
  unfold f_X8_isPart
  rw [i_eq (y := 0) (b := 0) hx rfl ha (by omega), if_neg (by omega), i_eq (y := 1) (b := 1) hx rfl ha (by omega), if_neg (by omega), i_eq (y := 2) (b := 2) hx rfl ha (by omega), if_neg (by omega), i_eq (y := 3) (b := 3) hx rfl ha (by omega), if_neg (by omega), i_eq (y := 4) (b := 4) hx rfl ha (by omega), if_neg (by omega)]
theorem m_isSet {x y : Int32} {w : Nat} {v : Int} (hx : x = iI (w : Int)) (hw : w < 5) (hy : y = iI v) (hv : Rg v) : f_X8_isSet x y = some (if 0 ≤ v ∧ v ≤ hiS w then 1 else 0) := by
  unfold f_X8_isSet
  rcases (show w = 0 ∨ w = 1 ∨ w = 2 ∨ w = 3 ∨ w = 4 by omega) with rfl | rfl | rfl | rfl | rfl
  · rw [if_pos (show x = 0 from hx)]
    refine bd (e_in (b := 0) (c := 90) (l_toInt hy hv) rfl rfl) ?_
    rw [bz01]; rfl
  · rw [if_neg (by rw [hx]; decide), if_pos (show x = 1 from hx)]
    refine bd (e_in (b := 0) (c := 9) (l_toInt hy hv) rfl rfl) ?_
    rw [bz01]; rfl
  · rw [if_neg (by rw [hx]; decide), if_neg (by rw [hx]; decide), if_pos (show x = 2 from hx)]
    refine bd (e_in (b := 0) (c := 10) (l_toInt hy hv) rfl rfl) ?_
    rw [bz01]; rfl
  · rw [if_neg (by rw [hx]; decide), if_neg (by rw [hx]; decide), if_neg (by rw [hx]; decide), if_pos (show x = 3 from hx)]
    refine bd (e_in (b := 0) (c := 1) (l_toInt hy hv) rfl rfl) ?_
    rw [bz01]; rfl
  · rw [if_neg (by rw [hx]; decide), if_neg (by rw [hx]; decide), if_neg (by rw [hx]; decide), if_neg (by rw [hx]; decide), if_pos (show x = 4 from hx)]
    refine bd (e_in (b := 0) (c := 99) (l_toInt hy hv) rfl rfl) ?_
    rw [ite01]
    by_cases h : 0 ≤ v ∧ v ≤ 99
    · rw [if_pos h, if_pos (show 0 ≤ v ∧ v ≤ hiS 4 from h)]
    · rw [if_neg h, if_neg (show ¬ (0 ≤ v ∧ v ≤ hiS 4) from h)]
theorem m_isSet_no {x y : Int32} {a : Int} (hx : x = iI a) (ha : Rg a) (h : ¬ (0 ≤ a ∧ a ≤ 4)) : f_X8_isSet x y = some 0 := by
  unfold f_X8_isSet
  rw [i_eq (y := 0) (b := 0) hx rfl ha (by omega), if_neg (by omega), i_eq (y := 1) (b := 1) hx rfl ha (by omega), if_neg (by omega), i_eq (y := 2) (b := 2) hx rfl ha (by omega), if_neg (by omega), i_eq (y := 3) (b := 3) hx rfl ha (by omega), if_neg (by omega), i_eq (y := 4) (b := 4) hx rfl ha (by omega), if_neg (by omega)]
