/-! ===== a ship in the water ===== -/
def Only (k : Nat) (S S' : ST) : Prop := (∀ a, a ≠ k → S'.1 a = S.1 a) ∧ S'.2 = S.2
theorem Only.rf {k : Nat} {S : ST} : Only k S S := ⟨fun _ _ => rfl, rfl⟩
theorem Only.tr {k : Nat} {S S1 S2 : ST} (h : Only k S S1) (g : Only k S1 S2) : Only k S S2 := ⟨fun a ha => (g.1 a ha).trans (h.1 a ha), g.2.trans h.2⟩
theorem Only.sI {k j : Nat} {S : ST} {x : Int32} : Only k S (sI S k j x) := ⟨fun _ ha => sI_o ha, rfl⟩
theorem Only.rep {k : Nat} {S S' : ST} {A : PT} {ko i0 i1 kh ks km ku : Nat} (h : Only k S S') (hR : Rep S A ko i0 i1 kh ks km ku) (h0 : ko ≠ k) (h2 : kh ≠ k) (h3 : ks ≠ k) (h4 : km ≠ k) (h5 : ku ≠ k) : Rep S' A ko i0 i1 kh ks km ku := hR.of (by rw [h.1 _ h0]) (by rw [h.1 _ h0]) (h.1 _ h2) (h.1 _ h3) (h.1 _ h4) (h.1 _ h5)
/-- what nobody reads between the calls: the trial, the voyage, the search's rows and what is enough, the day, the texts' and the steering's rows -/
def Scr (k : Nat) : Prop := k = 11 ∨ k = 12 ∨ (16 ≤ k ∧ k ≤ 21) ∨ k = 23 ∨ k = 29 ∨ (36 ≤ k ∧ k ≤ 44) ∨ k = 49
theorem Inv.scr {S S' : ST} (h : Inv S) (h1 : ∀ k, ¬ Scr k → k ≠ 30 → S'.1 k = S.1 k) (h30 : ∀ i, (i = 0 ∨ i = 4 ∨ i = 7 ∨ i = 24) → S'.1 30 i = S.1 30 i) (h2 : ∀ k, 50 ≤ k → k < 150 → S'.2 k = S.2 k) : Inv S' := by
  obtain ⟨⟨A, hA⟩, hI, hT, hSh, hF⟩ := h
  have o : ∀ k, (k = 11 ∨ k = 12 ∨ (16 ≤ k ∧ k ≤ 21) ∨ k = 23 ∨ k = 29 ∨ (36 ≤ k ∧ k ≤ 44) ∨ k = 49 → False) → k ≠ 30 → S'.1 k = S.1 k := fun k hk h3 => h1 k hk h3
  refine ⟨⟨A, hA.of (fun k _ _ => o k (by omega) (by omega)) (h30 0 (by omega)) (h30 4 (by omega)) (fun k _ _ => o k (by omega) (by omega))⟩, hI.of (by rw [o 0 (by omega) (by omega)]) (h30 24 (by omega)) (fun k _ _ => o k (by omega) (by omega)) (o 45 (by omega) (by omega)), hT.of (by rw [o 22 (by omega) (by omega)]) (h30 7 (by omega)) (o 24 (by omega) (by omega)) (o 35 (by omega) (by omega)), hSh.of (o 27 (by omega) (by omega)) (o 28 (by omega) (by omega)) (o 46 (by omega) (by omega)) (o 47 (by omega) (by omega)) (o 48 (by omega) (by omega)) (fun k _ _ => o k (by omega) (by omega)), hF.of (by rw [o 13 (by omega) (by omega)]) (o 14 (by omega) (by omega)) h2⟩
theorem Inv.only11 {S S' : ST} (h : Inv S) (g : Only 11 S S') : Inv S' := h.scr (fun k hk _ => g.1 k (fun q => hk (Or.inl q))) (fun i _ => by rw [g.1 30 (by decide)]) (fun k _ _ => by rw [g.2])
def Tr (S : ST) (dr br ru lu wi ne du : Int) : Prop := S.1 11 1 = iI dr ∧ S.1 11 2 = iI br ∧ S.1 11 3 = iI ru ∧ S.1 11 4 = iI lu ∧ S.1 11 5 = iI wi ∧ S.1 11 6 = iI ne ∧ S.1 11 7 = iI du
def needV (ru lu dr : Int) : Int := if ru = 0 then lu else (dr * lu).tdiv 100
theorem dv_any {x y : Int32} (h : ¬ y = 0) : ∃ v, dv x y = some v := ⟨x / y, if_neg h⟩
theorem rN_any (S : ST) : ∃ v, f_X5_reckonNeed S = some (sI S 11 6 v) := by
  unfold f_X5_reckonNeed f_X5_reckonNeed_27
  by_cases h : S.1 11 3 = 0
  · rw [if_pos h]; exact ⟨_, rfl⟩
  · rw [if_neg h]
    obtain ⟨v, hv⟩ := dv_any (x := S.1 11 1 * S.1 11 4) (y := 100) (by decide)
    exact ⟨v, bd hv rfl⟩
theorem rN_ok {S : ST} {dr ru lu : Int} (h1 : S.1 11 1 = iI dr) (h3 : S.1 11 3 = iI ru) (h4 : S.1 11 4 = iI lu) (g1 : 0 ≤ dr ∧ dr ≤ 200) (g3 : 0 ≤ ru ∧ ru ≤ 1) (g4 : 0 ≤ lu ∧ lu ≤ 99) : f_X5_reckonNeed S = some (sI S 11 6 (iI (needV ru lu dr))) := by
  have m1 := mul_rg (a := dr) (b := lu) (c := 200) (d := 99) (by omega) g4 (by omega)
  unfold f_X5_reckonNeed f_X5_reckonNeed_27 needV
  rw [i_eq (x := S.1 11 3) (y := 0) (b := 0) h3 rfl (by omega) (by omega)]
  by_cases h : ru = 0
  · rw [if_pos h, if_pos h, h4]
  · rw [if_neg h, if_neg h]
    exact bd (dv_ok (a := dr * lu) (b := 100) (by rw [h1, h4, iI_mul]) rfl (by omega) (by omega) (by omega)) rfl
theorem e_begin {S : ST} {A : PT} (hR : RC S A) (hV : PV A) {x : Int32} {s : Nat} (hx : x = iI (s : Int)) (hs : s < nsh A) : ∃ S', f_X5_begin S x = some S' ∧ Only 11 S S' ∧ Tr S' (hu A (3 * s)) (hu A (3 * s + 1)) (se A 3) (se A 4) (se A 1) (needV (se A 3) (se A 4) (hu A (3 * s))) (-1) := by
  obtain ⟨g1, g2, g3⟩ := hV.2.2.2.2 s hs
  obtain ⟨s0, s1, s2, s3, s4⟩ := hV.2.2.2.1
  unfold f_X5_begin f_X5_keepTo f_X5_load
  generalize hT : sI (sI (sI S 11 2 (iI (hu A (3 * s + 1)))) 11 5 (iI (se A 1))) 11 7 (-1) = T
  have oT : Only 11 S T := by rw [← hT]; exact (Only.sI.tr Only.sI).tr Only.sI
  have rT : RC T A := oT.rep hR (by decide) (by decide) (by decide) (by decide) (by decide)
  obtain ⟨v, hv⟩ := rN_any (sI (sI T 11 3 (iI (se A 3))) 11 4 (iI (se A 4)))
  generalize hU : sI (sI (sI T 11 3 (iI (se A 3))) 11 4 (iI (se A 4))) 11 6 v = U at hv
  have oU : Only 11 S U := by rw [← hU]; exact ((oT.tr Only.sI).tr Only.sI).tr Only.sI
  have rU : RC U A := oU.rep hR (by decide) (by decide) (by decide) (by decide) (by decide)
  have u3 : U.1 11 3 = iI (se A 3) := by rw [← hU, sI_nj (by decide), sI_nj (by decide), sI_eq]
  have u4 : U.1 11 4 = iI (se A 4) := by rw [← hU, sI_nj (by decide), sI_eq]
  have u2 : U.1 11 2 = iI (hu A (3 * s + 1)) := by rw [← hU, sI_nj (by decide), sI_nj (by decide), sI_nj (by decide), ← hT, sI_nj (by decide), sI_nj (by decide), sI_eq]
  have u5 : U.1 11 5 = iI (se A 1) := by rw [← hU, sI_nj (by decide), sI_nj (by decide), sI_nj (by decide), ← hT, sI_nj (by decide), sI_eq]
  have u7 : U.1 11 7 = iI (-1) := by rw [← hU, sI_nj (by decide), sI_nj (by decide), sI_nj (by decide), ← hT, sI_eq]; rfl
  refine ⟨sI (sI U 11 1 (iI (hu A (3 * s)))) 11 6 (iI (needV (se A 3) (se A 4) (hu A (3 * s)))), ?_, (oU.tr Only.sI).tr Only.sI, ?_⟩
  · refine bd (e_hullOf hR hV (w := 1) hx rfl hs (by omega)) ?_
    refine bd (r_se (Only.rep (k := 11) Only.sI hR (by decide) (by decide) (by decide) (by decide) (by decide)) (i := 1) rfl (by omega)) ?_
    rw [hT]
    refine bd (r_se rT (i := 3) rfl (by omega)) (bd (r_se rT (i := 4) rfl (by omega)) ?_)
    refine bd (bd hv rfl) ?_
    refine bd (e_hullOf rU hV (w := 0) hx rfl hs (by omega)) ?_
    refine bd (bd (rN_ok (dr := hu A (3 * s)) (ru := se A 3) (lu := se A 4) sI_eq (by rw [sI_nj (by decide)]; exact u3) (by rw [sI_nj (by decide)]; exact u4) (by omega) s3 s4) rfl) rfl
  · refine ⟨?_, ?_, ?_, ?_, ?_, sI_eq, ?_⟩
    · rw [sI_nj (by decide), sI_eq]
    · rw [sI_nj (by decide), sI_nj (by decide)]; exact u2
    · rw [sI_nj (by decide), sI_nj (by decide)]; exact u3
    · rw [sI_nj (by decide), sI_nj (by decide)]; exact u4
    · rw [sI_nj (by decide), sI_nj (by decide)]; exact u5
    · rw [sI_nj (by decide), sI_nj (by decide)]; exact u7
/-! what sinks and what is under her, in whole numbers -/
def sinkV (A : PT) (j : Nat) (br dr p lv : Int) : Int := (p * p * br * dr).tdiv (3 * mk A (6 * j + 1) * lv)
def restV (A : PT) (j : Nat) (br dr wi lv : Int) : Int := lv - dr - (dr * (9 - mk A (6 * j + 2))).tdiv 400 - (br * wi).tdiv 20
def undV (A : PT) (j : Nat) (br dr wi p lv : Int) : Int := restV A j br dr wi lv - sinkV A j br dr p lv
theorem pw_rg {p br dr : Int} (h : 1 ≤ p ∧ p ≤ 15) (hb : 1 ≤ br ∧ br ≤ 40) (hd : 20 ≤ dr ∧ dr ≤ 200) : 1 ≤ p * p * br * dr ∧ p * p * br * dr ≤ 1800000 := by
  have h1 := pull_rg h hb
  have h2 := mul_rg (a := p * p * br) (b := dr) (c := 9000) (d := 200) (by omega) (by omega) (by omega)
  have h3 : 1 * 1 ≤ p * p * br * dr := Int.mul_le_mul h1.1 (by omega) (by omega) (by omega)
  omega
theorem room_rg {A : PT} (hV : PV A) {j : Nat} (hj : j < mi A) {lv : Int} (h : 1 ≤ lv ∧ lv ≤ 400) : 30 ≤ 3 * mk A (6 * j + 1) * lv ∧ 3 * mk A (6 * j + 1) * lv ≤ 118800 := by
  obtain ⟨-, w1, -⟩ := hV.2.1 j hj
  have h2 := mul_rg (a := 3 * mk A (6 * j + 1)) (b := lv) (c := 297) (d := 400) (by omega) (by omega) (by omega)
  have h3 : 30 * 1 ≤ 3 * mk A (6 * j + 1) * lv := Int.mul_le_mul (by omega) h.1 (by omega) (by omega)
  omega
theorem sinkV_rg {A : PT} (hV : PV A) {j : Nat} (hj : j < mi A) {p br dr lv : Int} (hp : 1 ≤ p ∧ p ≤ 15) (hb : 1 ≤ br ∧ br ≤ 40) (hd : 20 ≤ dr ∧ dr ≤ 200) (h : 1 ≤ lv ∧ lv ≤ 400) : 0 ≤ sinkV A j br dr p lv ∧ sinkV A j br dr p lv ≤ 1800000 := by
  have h1 := pw_rg hp hb hd
  have h2 := room_rg hV hj h
  exact td_rg (by omega) (by omega)
theorem restV_rg {A : PT} (hV : PV A) {j : Nat} (hj : j < mi A) {br dr wi lv : Int} (hb : 1 ≤ br ∧ br ≤ 40) (hd : 20 ≤ dr ∧ dr ≤ 200) (hw : 0 ≤ wi ∧ wi ≤ 9) (h : 1 ≤ lv ∧ lv ≤ 400) : -3000 ≤ restV A j br dr wi lv ∧ restV A j br dr wi lv ≤ 400 := by
  obtain ⟨-, -, w2, -⟩ := hV.2.1 j hj
  have m1 := mul_rg (a := dr) (b := 9 - mk A (6 * j + 2)) (c := 200) (d := 9) (by omega) (by omega) (by omega)
  have m2 := mul_rg (a := br) (b := wi) (c := 40) (d := 9) (by omega) hw (by omega)
  have n1 : 0 ≤ dr * (9 - mk A (6 * j + 2)) := Int.mul_nonneg (by omega) (by omega)
  have n2 : 0 ≤ br * wi := Int.mul_nonneg (by omega) (by omega)
  have t1 := td_rg (a := dr * (9 - mk A (6 * j + 2))) (b := 400) (c := 1800) (by omega) (by omega)
  have t2 := td_rg (a := br * wi) (b := 20) (c := 360) (by omega) (by omega)
  unfold restV
  omega
theorem e_level {S : ST} {A : PT} (hR : RC S A) (hV : PV A) {dr br ru lu wi ne du : Int} (hT : Tr S dr br ru lu wi ne du) {x y : Int32} {j : Nat} {tide : Int} (hx : x = iI (j : Int)) (hy : y = iI tide) (hj : j < mi A) (hd : Rg du) : f_X5_level S x y = some (iI (levV A j tide wi + if (j : Int) = du then 1 else 0)) := by
  have := hV.1.1
  unfold f_X5_level f_X5_level_26
  refine bd (e_levelAt hR hV hx hy hT.2.2.2.2.1 hj) ?_
  rw [i_eq hx hT.2.2.2.2.2.2 (by omega) hd]
  by_cases h : (j : Int) = du
  · rw [if_pos h, if_pos h, show (1 : Int32) = iI 1 from rfl, iI_add]
  · rw [if_neg h, if_neg h, show (0 : Int32) = iI 0 from rfl, iI_add]
theorem e_sinking {S : ST} {A : PT} (hR : RC S A) (hV : PV A) {dr br ru lu wi ne du : Int} (hT : Tr S dr br ru lu wi ne du) {x y z : Int32} {j : Nat} {lv p : Int} (hx : x = iI (j : Int)) (hy : y = iI lv) (hz : z = iI p) (hj : j < mi A) (hp : 1 ≤ p ∧ p ≤ 15) (hb : 1 ≤ br ∧ br ≤ 40) (hd : 20 ≤ dr ∧ dr ≤ 200) (h : 1 ≤ lv ∧ lv ≤ 400) : f_X5_sinking S x y z = some (iI (sinkV A j br dr p lv)) := by
  have h1 := pw_rg hp hb hd
  have h2 := room_rg hV hj h
  unfold f_X5_sinking sinkV
  refine bd (e_markOf hR hV (w := 1) hx rfl hj (by omega)) ?_
  refine bd (e_max (a := 1) rfl hy (by omega) (by omega)) ?_
  rw [Int.max_eq_right (by omega)]
  refine bd (e_max (a := 1) (b := 3 * mk A (6 * j + 1) * lv) rfl (by rw [show (3 : Int32) = iI 3 from rfl, iI_mul, iI_mul]) (by omega) (by omega)) ?_
  rw [Int.max_eq_right (by omega)]
  refine bd (dv_ok (a := p * p * br * dr) (by rw [hz, hT.1, hT.2.1, iI_mul, iI_mul, iI_mul]) rfl (by omega) (by omega) (by omega)) rfl
theorem e_atRest {S : ST} {A : PT} (hR : RC S A) (hV : PV A) {dr br ru lu wi ne du : Int} (hT : Tr S dr br ru lu wi ne du) {x y : Int32} {j : Nat} {lv : Int} (hx : x = iI (j : Int)) (hy : y = iI lv) (hj : j < mi A) (hb : 1 ≤ br ∧ br ≤ 40) (hd : 20 ≤ dr ∧ dr ≤ 200) (hw : 0 ≤ wi ∧ wi ≤ 9) : f_X5_atRest S x y = some (iI (restV A j br dr wi lv)) := by
  obtain ⟨-, -, w2, -⟩ := hV.2.1 j hj
  have m1 := mul_rg (a := dr) (b := 9 - mk A (6 * j + 2)) (c := 200) (d := 9) (by omega) (by omega) (by omega)
  have m2 := mul_rg (a := br) (b := wi) (c := 40) (d := 9) (by omega) hw (by omega)
  unfold f_X5_atRest restV
  refine bd (e_markOf hR hV (w := 2) hx rfl hj (by omega)) ?_
  refine bd (dv_ok (a := dr * (9 - mk A (6 * j + 2))) (b := 400) (by rw [hT.1, show (9 : Int32) = iI 9 from rfl, iI_sub, iI_mul]) rfl (by omega) (by omega) (by omega)) ?_
  refine bd (dv_ok (a := br * wi) (b := 20) (by rw [hT.2.1, hT.2.2.2.2.1, iI_mul]) rfl (by omega) (by omega) (by omega)) ?_
  rw [hy, hT.1, iI_sub, iI_sub, iI_sub]
theorem e_clear {S : ST} {A : PT} (hR : RC S A) (hV : PV A) {dr br ru lu wi ne du : Int} (hT : Tr S dr br ru lu wi ne du) {x y z : Int32} {j : Nat} {tide p : Int} (hx : x = iI (j : Int)) (hy : y = iI tide) (hz : z = iI p) (hj : j < mi A) (ht : 0 ≤ tide ∧ tide ≤ 100) (hp : 1 ≤ p ∧ p ≤ 15) (hb : 1 ≤ br ∧ br ≤ 40) (hd : 20 ≤ dr ∧ dr ≤ 200) (hw : 0 ≤ wi ∧ wi ≤ 9) (hdu : Rg du) : f_X5_clearance S x y z = some (iI (undV A j br dr wi p (levV A j tide wi + if (j : Int) = du then 1 else 0))) := by
  have hl := levV_rg hV hj ht hw
  have hl2 : 1 ≤ levV A j tide wi + (if (j : Int) = du then 1 else 0) ∧ levV A j tide wi + (if (j : Int) = du then 1 else 0) ≤ 400 := by split <;> omega
  unfold f_X5_clearance undV
  refine bd (e_level hR hV hT hx hy hj hdu) (bd (e_atRest hR hV hT hx rfl hj hb hd hw) (bd (e_sinking hR hV hT hx rfl hz hj hp hb hd hl2) ?_))
  rw [iI_sub]
theorem m_sinksBy {S : ST} {A : PT} (hM : RM S A) (hV : PV A) {u x y z : Int32} {s j : Nat} {lv p : Int} (hu' : u = iI (s : Int)) (hs : s < nsh A) (hx : x = iI (j : Int)) (hy : y = iI lv) (hz : z = iI p) (hj : j < mi A) (hp : 1 ≤ p ∧ p ≤ 15) (h : 1 ≤ lv ∧ lv ≤ 400) : f_X8_sinksBy S u x y z = some (iI (sinkV A j (hu A (3 * s + 1)) (hu A (3 * s)) p lv)) := by
  obtain ⟨g1, g2, g3⟩ := hV.2.2.2.2 s hs
  have h1 := pw_rg hp g2 g1
  have h2 := room_rg hV hj h
  unfold f_X8_sinksBy f_X8_sinksBy_10 sinkV
  rw [i_le (x := 1) (a := 1) rfl hy (by omega) (by omega), if_pos h.1]
  refine bd (rm_hu hM hV (w := 1) (ix3' hu' rfl) hs (by omega)) (bd (rm_hu hM hV (w := 0) (ix3z hu') hs (by omega)) (bd (rm_mk hM hV (w := 1) (ix6' hx rfl) hj (by omega)) ?_))
  refine bd (dv_ok (a := p * p * hu A (3 * s + 1) * hu A (3 * s)) (b := 3 * mk A (6 * j + 1) * lv) (by rw [hz, iI_mul, iI_mul, iI_mul]; rfl) (by rw [hy, show (3 : Int32) = iI 3 from rfl, iI_mul, iI_mul]) (by omega) (by omega) (by omega)) rfl
theorem m_underBy {S : ST} {A : PT} (hM : RM S A) (hV : PV A) {u x y z : Int32} {s j : Nat} {lv p : Int} (hu' : u = iI (s : Int)) (hs : s < nsh A) (hx : x = iI (j : Int)) (hy : y = iI lv) (hz : z = iI p) (hj : j < mi A) (hp : 1 ≤ p ∧ p ≤ 15) (h : 1 ≤ lv ∧ lv ≤ 400) : f_X8_underBy S u x y z = some (iI (undV A j (hu A (3 * s + 1)) (hu A (3 * s)) (se A 1) p lv)) := by
  obtain ⟨g1, g2, g3⟩ := hV.2.2.2.2 s hs
  obtain ⟨s0, s1, s2, s3, s4⟩ := hV.2.2.2.1
  obtain ⟨-, -, w2, -⟩ := hV.2.1 j hj
  have m1 := mul_rg (a := hu A (3 * s)) (b := 9 - mk A (6 * j + 2)) (c := 200) (d := 9) (by omega) (by omega) (by omega)
  have m2 := mul_rg (a := hu A (3 * s + 1)) (b := se A 1) (c := 40) (d := 9) (by omega) s1 (by omega)
  unfold f_X8_underBy undV restV
  refine bd (rm_hu hM hV (w := 0) (ix3z hu') hs (by omega)) (bd (rm_mk hM hV (w := 2) (ix6' hx rfl) hj (by omega)) ?_)
  refine bd (dv_ok (a := hu A (3 * s) * (9 - mk A (6 * j + 2))) (b := 400) (by rw [show (9 : Int32) = iI 9 from rfl, iI_sub, iI_mul]; rfl) rfl (by omega) (by omega) (by omega)) ?_
  refine bd (m_sinksBy hM hV hu' hs hx hy hz hj hp h) (bd (rm_hu hM hV (w := 1) (ix3' hu' rfl) hs (by omega)) (bd (rm_se hM (i := 1) rfl (by omega)) ?_))
  refine bd (dv_ok (a := hu A (3 * s + 1) * se A 1) (b := 20) (by rw [iI_mul]) rfl (by omega) (by omega) (by omega)) ?_
  rw [hy, show hu A (3 * s + 0) = hu A (3 * s) from rfl, iI_sub, iI_sub, iI_sub, iI_sub]
  congr 2
  omega
theorem m_needOf {S : ST} {A : PT} (hM : RM S A) (hV : PV A) {u : Int32} {s : Nat} (hu' : u = iI (s : Int)) (hs : s < nsh A) : f_X8_needOf S u = some (iI (needV (se A 3) (se A 4) (hu A (3 * s)))) := by
  obtain ⟨g1, g2, g3⟩ := hV.2.2.2.2 s hs
  obtain ⟨s0, s1, s2, s3, s4⟩ := hV.2.2.2.1
  have m1 := mul_rg (a := hu A (3 * s)) (b := se A 4) (c := 200) (d := 99) (by omega) s4 (by omega)
  unfold f_X8_needOf needV
  refine bd (rm_se hM (i := 3) rfl (by omega)) ?_
  rw [i_eq (y := 0) (b := 0) rfl rfl (by omega) (by omega)]
  by_cases h : se A 3 = 0
  · rw [if_pos h, if_pos h]
    exact bd (rm_se hM (i := 4) rfl (by omega)) rfl
  · rw [if_neg h, if_neg h]
    refine bd (rm_hu hM hV (w := 0) (ix3z hu') hs (by omega)) (bd (rm_se hM (i := 4) rfl (by omega)) ?_)
    exact bd (dv_ok (a := hu A (3 * s) * se A 4) (b := 100) (by rw [iI_mul]; rfl) rfl (by omega) (by omega) (by omega)) rfl
