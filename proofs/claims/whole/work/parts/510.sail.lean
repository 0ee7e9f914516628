/-! ===== a voyage, step by step on both sides ===== -/
theorem setSe_self {A : PT} {i : Nat} : setSe A i (se A i) = A := by
  have : uf (se A) i (se A i) = se A := by
    funext j
    by_cases h : j = i
    · subst h; exact uf_s
    · exact uf_n h
  unfold setSe
  rw [this]
  rfl
theorem PV_wind {A : PT} (hV : PV A) {w : Int} (hw : 0 ≤ w ∧ w ≤ 9) : PV (setSe A 1 w) := ⟨hV.1, hV.2.1, hV.2.2.1, SV0_up (w := 1) hV.2.2.2.1 (by have e : hiS 1 = 9 := rfl; rw [e]; exact hw), hV.2.2.2.2⟩
/-- the reference's rows of a voyage -/
def OnlyM (S S' : ST) : Prop := (∀ a, a ≠ 30 → S'.1 a = S.1 a) ∧ (∀ i, (i < 11 ∨ 14 < i) → S'.1 30 i = S.1 30 i) ∧ S'.2 = S.2
theorem OnlyM.rf {S : ST} : OnlyM S S := ⟨fun _ _ => rfl, fun _ _ => rfl, rfl⟩
theorem OnlyM.tr {S S1 S2 : ST} (h : OnlyM S S1) (g : OnlyM S1 S2) : OnlyM S S2 := ⟨fun a ha => (g.1 a ha).trans (h.1 a ha), fun i hi => (g.2.1 i hi).trans (h.2.1 i hi), g.2.2.trans h.2.2⟩
theorem OnlyM.sI {S : ST} {i : Nat} {x : Int32} (h : 11 ≤ i ∧ i ≤ 14) : OnlyM S (sI S 30 i x) := ⟨fun _ ha => sI_o ha, fun j hj => sI_nj (by omega), rfl⟩
theorem OnlyM.rm {S S' : ST} {A : PT} (h : OnlyM S S') (hR : RM S A) : RM S' A := hR.of (h.2.1 0 (by omega)) (h.2.1 4 (by omega)) (h.1 _ (by decide)) (h.1 _ (by decide)) (h.1 _ (by decide)) (h.1 _ (by decide))
theorem Only.rc12 {S S' : ST} {A : PT} (h : Only 12 S S') (hR : RC S A) : RC S' A := h.rep hR (by decide) (by decide) (by decide) (by decide) (by decide)
theorem Only.rm12 {S S' : ST} {A : PT} (h : Only 12 S S') (hR : RM S A) : RM S' A := h.rep hR (by decide) (by decide) (by decide) (by decide) (by decide)
theorem Only.tr12 {S S' : ST} {dr br ru lu wi ne du : Int} (h : Only 12 S S') (hT : Tr S dr br ru lu wi ne du) : Tr S' dr br ru lu wi ne du := by
  unfold Tr at hT ⊢
  rw [h.1 11 (by decide)]
  exact hT
def VyC (S : ST) (to el mn : Int) : Prop := S.1 12 1 = iI to ∧ S.1 12 2 = iI el ∧ S.1 12 3 = iI mn
def Vm (T : ST) (to mn ok : Int) : Prop := T.1 30 11 = iI to ∧ T.1 30 13 = iI mn ∧ T.1 30 14 = iI ok
def VR (i : Nat) (ne mn mn2 ok : Int) : Prop := (i = 0 ∧ mn = 2147483647 ∧ mn2 = 100000 ∧ ok = 1) ∨ (mn = mn2 ∧ (-2000000 ≤ mn ∧ mn ≤ 400) ∧ ok = if mn < ne then 0 else 1)
theorem m_94 {k : ST → Int32 → Int32 → Int32 → Int32 → Option ST} {T : ST} {A : PT} (hM : RM T A) (hV : PV A) {x1 x2 x3 x4 x5 x6 y : Int32} {s : Nat} {i : Nat} {p u ok ne : Int} (hx : x1 = iI (s : Int)) (hs : s < nsh A) (h4 : x4 = iI (i : Int)) (h5 : x5 = iI p) (h6 : x6 = iI u) (hp : 1 ≤ p ∧ p ≤ 15) (hur : Rg u) (hok : T.1 30 14 = iI ok) (hok2 : ok = 0 ∨ ok = 1) (hne : needV (se A 3) (se A 4) (hu A (3 * s)) = ne) (hne2 : Rg ne) : f_X8_goes_94 k T x1 x2 x3 x4 x5 x6 y = k (sI (sI (sI T 30 13 y) 30 14 (iI (if ok = 0 then 0 else if u < ne then 0 else 1))) 30 11 (iI (if 0 ≤ u then -4 else (i : Int)))) x1 x2 (x3 + iI (if 0 ≤ u then (60 : Int).tdiv p else 0)) (x4 + 1) := by
  have hd : dv 60 x5 = some (iI ((60 : Int).tdiv p)) := dv_ok (a := 60) rfl h5 (by omega) (by omega) (by omega)
  have hn : f_X8_needOf (sI T 30 13 y) x1 = some (iI ne) := by rw [← hne]; exact m_needOf (OnlyM.rm (OnlyM.sI (by omega)) hM) hV hx hs
  have key : ∀ (v : Int), (v = 0 ∨ v = 1) → f_X8_goes_120 k (sI T 30 13 y) x1 x2 x3 x4 x5 x6 (iI v) = k (sI (sI (sI T 30 13 y) 30 14 (iI v)) 30 11 (iI (if 0 ≤ u then -4 else (i : Int)))) x1 x2 (x3 + iI (if 0 ≤ u then (60 : Int).tdiv p else 0)) (x4 + 1) := by
    intro v hv
    have hb : bz (iI v) = some (iI v) := by rcases hv with rfl | rfl <;> rfl
    unfold f_X8_goes_120 f_X8_goes_136 f_X8_goes_154
    rw [hb, hd]
    simp only [Option.bind_some]
    rw [i_le (x := 0) (a := 0) rfl h6 (by omega) hur]
    by_cases g : 0 ≤ u
    · rw [if_pos g, if_pos g, if_pos g, i_le (x := 0) (a := 0) rfl h6 (by omega) hur, if_pos g]; rfl
    · rw [if_neg g, if_neg g, if_neg g, i_le (x := 0) (a := 0) rfl h6 (by omega) hur, if_neg g, h4]; rfl
  unfold f_X8_goes_94 f_X8_goes_119
  rw [hn, sI_nj (by decide), hok, i_eq (y := 0) (b := 0) rfl rfl (by omega) (by omega)]
  simp only [Option.bind_some]
  by_cases g : ok = 0
  · rw [if_pos g, if_pos g]; exact key 0 (Or.inl rfl)
  · rw [if_neg g, if_neg g, i_lt h6 rfl hur hne2]
    by_cases g2 : u < ne
    · rw [if_pos g2, if_pos g2]; exact key 0 (Or.inl rfl)
    · rw [if_neg g2, if_neg g2]; exact key 1 (Or.inr rfl)
theorem lock {A : PT} (hV : PV A) {s : Nat} (hs : s < nsh A) {wi st ne ru lu : Int} (hw : 0 ≤ wi ∧ wi ≤ 9) (hst : 0 ≤ st ∧ st ≤ 1439) (hne : needV (se A 3) (se A 4) (hu A (3 * s)) = ne) (hne2 : Rg ne) {x1 : Int32} (hx : x1 = iI (s : Int)) : ∀ (n i : Nat) (S T : ST) (el mn mn2 ok : Int), mi A < i + n → i ≤ mi A → RC S A → Tr S (hu A (3 * s)) (hu A (3 * s + 1)) ru lu wi ne (-1) → VyC S (-4) el mn → RM T (setSe A 1 wi) → Vm T (-4) mn2 ok → (0 ≤ el ∧ el ≤ 60 * (i : Int)) → VR i ne mn mn2 ok → ∃ S' T' to el' mn' mn2' ok', f_X6_sail_19 n S (iI st) (iI (i : Int)) = some S' ∧ f_X8_goes_27 n T x1 (iI st) (iI (st + el)) (iI (i : Int)) = some T' ∧ Only 12 S S' ∧ OnlyM T T' ∧ VyC S' to el' mn' ∧ Vm T' to mn2' ok' ∧ T'.1 30 12 = iI el' ∧ VR (mi A) ne mn' mn2' ok' := by
  have h16 := hV.1.1
  obtain ⟨g1, g2, g3⟩ := hV.2.2.2.2 s hs
  obtain ⟨s0, s1, s2, s3, s4⟩ := hV.2.2.2.1
  have hV' := PV_wind hV hw
  intro n
  induction n with
  | zero => intro i S T el mn mn2 ok q1 q2; omega
  | succ n ih =>
    intro i S T el mn mn2 ok q1 q2 hR hT hY hM hm he hv
    have hmi : T.1 30 0 = iI (mi A : Int) := hM.1.1
    have ed : iI (st + el) - iI st = iI el := by rw [iI_sub]; congr 1; omega
    unfold f_X6_sail_19 f_X8_goes_27
    rw [hR.1.1, hmi, i_le (x := iI (mi A : Int)) (y := iI (i : Int)) rfl rfl (by omega) (by omega), i_le (x := iI (mi A : Int)) (y := iI (i : Int)) rfl rfl (by omega) (by omega), hY.1, hm.1]
    by_cases hi : (mi A : Int) ≤ (i : Int)
    · have e0 : i = mi A := by omega
      subst e0
      rw [if_pos hi, if_pos hi]
      exact ⟨S, sI T 30 12 (iI el), -4, el, mn, mn2, ok, rfl, by unfold f_X8_goes_162; rw [ed], Only.rf, OnlyM.sI (by omega), hY, ⟨by rw [sI_nj (by decide)]; exact hm.1, by rw [sI_nj (by decide)]; exact hm.2.1, by rw [sI_nj (by decide)]; exact hm.2.2⟩, sI_eq, hv⟩
    · have hi2 : i < mi A := by omega
      rw [if_neg hi, if_neg hi, if_pos (show iI (-4) = -4 by decide), if_neg (show ¬ (0 : Int32) ≤ iI (-4) by decide)]
      obtain ⟨-, -, -, -, -, w5⟩ := hV.2.1 i hi2
      have hm0 : 0 ≤ st + el ∧ st + el ≤ 4000 := by omega
      have tr := tide_arith hV.2.2.1 s0 hm0
      have hl := levV_rg hV hi2 (tide := tideV (ht A) (se A 0) (st + el)) (wind := wi) (by omega) hw
      have r1 := restV_rg hV hi2 g2 g1 hw (lv := levV A i (tideV (ht A) (se A 0) (st + el)) wi) (by omega)
      have r2 := sinkV_rg hV hi2 w5 g2 g1 (lv := levV A i (tideV (ht A) (se A 0) (st + el)) wi) (by omega)
      have cu : f_X5_clearance S (iI (i : Int)) (iI (tideV (ht A) (se A 0) (st + el))) (iI (mk A (6 * i + 5))) = some (iI (undV A i (hu A (3 * s + 1)) (hu A (3 * s)) wi (mk A (6 * i + 5)) (levV A i (tideV (ht A) (se A 0) (st + el)) wi))) := by
        have := e_clear hR hV hT (x := iI (i : Int)) (y := iI (tideV (ht A) (se A 0) (st + el))) (z := iI (mk A (6 * i + 5))) rfl rfl rfl hi2 (by omega) w5 g2 g1 hw (by omega)
        rw [if_neg (by omega), Int.add_zero] at this
        exact this
      have mw : f_X8_waterAt T (iI (i : Int)) (iI (st + el)) = some (iI (levV A i (tideV (ht A) (se A 0) (st + el)) wi)) := m_waterAt hM hV' rfl rfl hi2 hm0
      have mu : f_X8_underBy T x1 (iI (i : Int)) (iI (levV A i (tideV (ht A) (se A 0) (st + el)) wi)) (iI (mk A (6 * i + 5))) = some (iI (undV A i (hu A (3 * s + 1)) (hu A (3 * s)) wi (mk A (6 * i + 5)) (levV A i (tideV (ht A) (se A 0) (st + el)) wi))) := m_underBy hM hV' hx hs rfl rfl rfl hi2 w5 (by omega)
      have hum : undV A i (hu A (3 * s + 1)) (hu A (3 * s)) wi (mk A (6 * i + 5)) (levV A i (tideV (ht A) (se A 0) (st + el)) wi) = restV A i (hu A (3 * s + 1)) (hu A (3 * s)) wi (levV A i (tideV (ht A) (se A 0) (st + el)) wi) - sinkV A i (hu A (3 * s + 1)) (hu A (3 * s)) (mk A (6 * i + 5)) (levV A i (tideV (ht A) (se A 0) (st + el)) wi) := rfl
      generalize undV A i (hu A (3 * s + 1)) (hu A (3 * s)) wi (mk A (6 * i + 5)) (levV A i (tideV (ht A) (se A 0) (st + el)) wi) = u at cu mu hum
      have hu1 : -2000000 ≤ u ∧ u ≤ 400 := by omega
      have hmn : Rg mn := by rcases hv with h | h <;> omega
      have hmn2 : Rg mn2 := by rcases hv with h | h <;> omega
      have hok : ok = 0 ∨ ok = 1 := by
        rcases hv with h | h
        · omega
        · rw [h.2.2]; split <;> omega
      have td := td_rg (a := 60) (b := mk A (6 * i + 5)) (c := 60) (by omega) (by omega)
      have nx : iI (i : Int) + 1 = iI ((i + 1 : Nat) : Int) := by rw [show (1 : Int32) = iI 1 from rfl, iI_add]; rfl
      rw [e_markOf hR hV (x := iI (i : Int)) (y := 5) (w := 5) rfl rfl hi2 (by omega), rm_mk hM hV' (x := 6 * iI (i : Int) + 5) (w := 5) (ix6' rfl rfl) hi2 (by omega), hY.2.1, iI_add, e_tideAt hR hV (x := iI (st + el)) rfl hm0, mw]
      simp only [Option.bind_some]
      rw [show mk (setSe A 1 wi) = mk A from rfl, cu, mu]
      simp only [Option.bind_some]
      rw [hY.2.2, hm.2.1, e_min (x := iI mn) (y := iI u) rfl rfl hmn (by omega), Option.bind_some]
      have m9 : ∀ y, f_X8_goes_94 (f_X8_goes_27 n) T x1 (iI st) (iI (st + el)) (iI (i : Int)) (iI (mk A (6 * i + 5))) (iI u) y = f_X8_goes_27 n (sI (sI (sI T 30 13 y) 30 14 (iI (if ok = 0 then 0 else if u < ne then 0 else 1))) 30 11 (iI (if 0 ≤ u then -4 else (i : Int)))) x1 (iI st) (iI (st + el) + iI (if 0 ≤ u then (60 : Int).tdiv (mk A (6 * i + 5)) else 0)) (iI (i : Int) + 1) := fun y => m_94 hM hV' hx hs rfl rfl rfl w5 (by omega) hm.2.2 hok hne hne2
      rw [m9, m9, i_le (x := iI mn2) (y := iI u) rfl rfl hmn2 (by omega), i_le (x := 0) (y := iI u) (a := 0) rfl rfl (by omega) (by omega), nx]
      have eV : ∀ (k : Int → Option ST), (if mn2 ≤ u then k mn2 else k u) = k (min mn2 u) := by
        intro k
        by_cases g : mn2 ≤ u
        · rw [if_pos g, Int.min_eq_left g]
        · rw [if_neg g, Int.min_eq_right (by omega)]
      rw [eV (fun z => f_X8_goes_27 n (sI (sI (sI T 30 13 (iI z)) 30 14 (iI (if ok = 0 then 0 else if u < ne then 0 else 1))) 30 11 (iI (if 0 ≤ u then -4 else (i : Int)))) x1 (iI st) (iI (st + el) + iI (if 0 ≤ u then (60 : Int).tdiv (mk A (6 * i + 5)) else 0)) (iI ((i + 1 : Nat) : Int)))]
      have nv : ∀ k, VR k ne (min mn u) (min mn2 u) (if ok = 0 then 0 else if u < ne then 0 else 1) := by
        intro k
        right
        rcases hv with ⟨-, h1, h2, h3⟩ | ⟨h1, h2, h3⟩
        · rw [h1, h2, h3, Int.min_eq_right (by omega), Int.min_eq_right (by omega), if_neg (by omega)]
          exact ⟨rfl, hu1, rfl⟩
        · subst h1
          refine ⟨rfl, by omega, ?_⟩
          rw [h3]
          by_cases g4 : mn < ne
          · rw [if_pos g4, if_pos rfl, if_pos (by omega)]
          · rw [if_neg g4, if_neg (by omega)]
            by_cases g5 : u < ne
            · rw [if_pos g5, if_pos (by omega)]
            · rw [if_neg g5, if_neg (by omega)]
      unfold f_X6_sail_112
      rw [nx]
      by_cases gu : 0 ≤ u
      · rw [if_pos gu, if_pos gu, if_pos gu, e_minutesBy (x := iI (mk A (6 * i + 5))) rfl w5, Option.bind_some, sI_nj (by decide), hY.2.1, iI_add, iI_add, show st + el + (60 : Int).tdiv (mk A (6 * i + 5)) = st + (el + (60 : Int).tdiv (mk A (6 * i + 5))) by omega]
        have oS : Only 12 S (sI (sI S 12 3 (iI (min mn u))) 12 2 (iI (el + (60 : Int).tdiv (mk A (6 * i + 5))))) := Only.sI.tr Only.sI
        have oT : OnlyM T (sI (sI (sI T 30 13 (iI (min mn2 u))) 30 14 (iI (if ok = 0 then 0 else if u < ne then 0 else 1))) 30 11 (iI (-4))) := ((OnlyM.sI (by omega)).tr (OnlyM.sI (by omega))).tr (OnlyM.sI (by omega))
        obtain ⟨S', T', to, el', mn', mn2', ok', z1, z2, z3, z4, z5⟩ := ih (i + 1) _ _ (el + (60 : Int).tdiv (mk A (6 * i + 5))) (min mn u) (min mn2 u) (if ok = 0 then 0 else if u < ne then 0 else 1) (by omega) (by omega) (oS.rc12 hR) (oS.tr12 hT) ⟨by rw [sI_nj (by decide), sI_nj (by decide)]; exact hY.1, sI_eq, by rw [sI_nj (by decide), sI_eq]⟩ (oT.rm hM) ⟨sI_eq, by rw [sI_nj (by decide), sI_nj (by decide), sI_eq], by rw [sI_nj (by decide), sI_eq]⟩ (by omega) (nv _)
        exact ⟨S', T', to, el', mn', mn2', ok', z1, z2, oS.tr z3, oT.tr z4, z5⟩
      · rw [if_neg gu, if_neg gu, if_neg gu, iI_add, Int.add_zero]
        obtain ⟨n, rfl⟩ : ∃ k, n = k + 1 := ⟨n - 1, by omega⟩
        have oS : Only 12 S (sI (sI S 12 3 (iI (min mn u))) 12 1 (iI (i : Int))) := Only.sI.tr Only.sI
        have oT : OnlyM T (sI (sI (sI T 30 13 (iI (min mn2 u))) 30 14 (iI (if ok = 0 then 0 else if u < ne then 0 else 1))) 30 11 (iI (i : Int))) := ((OnlyM.sI (by omega)).tr (OnlyM.sI (by omega))).tr (OnlyM.sI (by omega))
        refine ⟨_, sI (sI (sI (sI T 30 13 (iI (min mn2 u))) 30 14 (iI (if ok = 0 then 0 else if u < ne then 0 else 1))) 30 11 (iI (i : Int))) 30 12 (iI el), (i : Int), el, min mn u, min mn2 u, (if ok = 0 then 0 else if u < ne then 0 else 1), ?_, ?_, oS, oT.tr (OnlyM.sI (by omega)), ⟨sI_eq, by rw [sI_nj (by decide), sI_nj (by decide)]; exact hY.2.1, by rw [sI_nj (by decide), sI_eq]⟩, ⟨by rw [sI_nj (by decide), sI_eq], by rw [sI_nj (by decide), sI_nj (by decide), sI_nj (by decide), sI_eq], by rw [sI_nj (by decide), sI_nj (by decide), sI_eq]⟩, sI_eq, nv _⟩
        · unfold f_X6_sail_19
          rw [sI_eq, if_neg (show ¬ iI (i : Int) = -4 from fun q => by have := (c_eq (x := iI (i : Int)) (y := -4) (a := (i : Int)) (b := -4) rfl (by decide) (by omega) (by omega)).mp q; omega), ite_self]
        · unfold f_X8_goes_27 f_X8_goes_162
          rw [sI_eq, if_pos (show 0 ≤ iI (i : Int) from (c_le (a := 0) (b := (i : Int)) rfl rfl (by omega) (by omega)).mpr (by omega)), ed, ite_self]
theorem sails {A : PT} (hV : PV A) {s : Nat} (hs : s < nsh A) {wi st ne ru lu : Int} (hw : 0 ≤ wi ∧ wi ≤ 9) (hst : 0 ≤ st ∧ st ≤ 1439) (hne : needV (se A 3) (se A 4) (hu A (3 * s)) = ne) (hne2 : Rg ne) {x1 x2 : Int32} (hx : x1 = iI (s : Int)) (hx2 : x2 = iI st) {S T0 : ST} (hR : RC S A) (hT : Tr S (hu A (3 * s)) (hu A (3 * s + 1)) ru lu wi ne (-1)) (h0 : RM T0 (setSe A 1 wi)) : ∃ S', f_X6_sail S x2 = some S' ∧ Only 12 S S' ∧ ∀ T, RM T (setSe A 1 wi) → ∃ T' to el mn mn2 ok, f_X8_goes T x1 x2 = some T' ∧ OnlyM T T' ∧ VyC S' to el mn ∧ Vm T' to mn2 ok ∧ T'.1 30 12 = iI el ∧ VR (mi A) ne mn mn2 ok := by
  subst hx2
  have go := fun T (hM : RM T (setSe A 1 wi)) => lock hV hs hw hst hne hne2 hx FU 0 (sI (sI (sI S 12 1 (-4)) 12 2 0) 12 3 2147483647) (sI (sI (sI (sI T 30 11 (-4)) 30 12 0) 30 13 100000) 30 14 1) 0 2147483647 100000 1 (FU_gt (by have := hV.1.1; omega)) (by omega) (Only.rc12 (((Only.sI).tr Only.sI).tr Only.sI) hR) (Only.tr12 (((Only.sI).tr Only.sI).tr Only.sI) hT) ⟨by rw [sI_nj (by decide), sI_nj (by decide), sI_eq]; decide, by rw [sI_nj (by decide), sI_eq]; rfl, by rw [sI_eq]; rfl⟩ (OnlyM.rm ((((OnlyM.sI (by omega)).tr (OnlyM.sI (by omega))).tr (OnlyM.sI (by omega))).tr (OnlyM.sI (by omega))) hM) ⟨by rw [sI_nj (by decide), sI_nj (by decide), sI_nj (by decide), sI_eq]; decide, by rw [sI_nj (by decide), sI_eq]; rfl, by rw [sI_eq]; rfl⟩ (by omega) (Or.inl ⟨rfl, rfl, rfl, rfl⟩)
  obtain ⟨S', T', to, el, mn, mn2, ok, z1, z2, z3, z4, z5⟩ := go T0 h0
  refine ⟨S', z1, Only.tr (((Only.sI).tr Only.sI).tr Only.sI) z3, fun T hM => ?_⟩
  obtain ⟨S2, T2, to, el, mn, mn2, ok, y1, y2, y3, y4, y5, y6, y7, y8⟩ := go T hM
  have e : S' = S2 := Option.some.inj (z1.symm.trans y1)
  subst e
  rw [Int.add_zero] at y2
  exact ⟨T2, to, el, mn, mn2, ok, y2, OnlyM.tr ((((OnlyM.sI (by omega)).tr (OnlyM.sI (by omega))).tr (OnlyM.sI (by omega))).tr (OnlyM.sI (by omega))) y4, y5, y6, y7, y8⟩
theorem Inv.o1 {S S1 S2 S3 : ST} (h : Inv S) (o1 : Only 11 S S1) (o2 : Only 12 S1 S2) (o3 : OnlyM S2 S3) : Inv S3 := by
  refine h.scr (fun k hk h3 => ?_) (fun i hi => ?_) (fun k _ _ => ?_)
  · rw [o3.1 k h3, o2.1 k (fun q => hk (Or.inr (Or.inl q))), o1.1 k (fun q => hk (Or.inl q))]
  · rw [o3.2.1 i (by omega), o2.1 30 (by decide), o1.1 30 (by decide)]
  · rw [o3.2.2, o2.2, o1.2]
theorem e_isStart {S : ST} {A : PT} (hR : RC S A) (hV : PV A) {x y : Int32} {a b : Int} (hx : x = iI a) (hy : y = iI b) (ha : Rg a) (hb : Rg b) : f_X7_isStart S x y = some (if (0 ≤ a ∧ a < nsh A) ∧ (0 ≤ b ∧ b ≤ 1439) then 1 else 0) := by
  unfold f_X7_isStart
  rw [gt01 (e_hasShip hR hV hx ha), gt01 (e_isMinute hy hb)]
  by_cases h1 : 0 ≤ a ∧ a < nsh A
  · rw [if_pos h1]
    by_cases h2 : 0 ≤ b ∧ b ≤ 1439
    · rw [if_pos h2, if_pos ⟨h1, h2⟩]
    · rw [if_neg h2, if_neg (fun q => h2 q.2)]
  · rw [if_neg h1, if_neg (fun q => h1 q.1)]
theorem needV_rg {ru lu dr : Int} (h1 : 0 ≤ lu ∧ lu ≤ 99) (h2 : 20 ≤ dr ∧ dr ≤ 200) : 0 ≤ needV ru lu dr ∧ needV ru lu dr ≤ 20000 := by
  have m1 := mul_rg (a := dr) (b := lu) (c := 200) (d := 99) (by omega) h1 (by omega)
  have n1 : 0 ≤ dr * lu := Int.mul_nonneg (by omega) (by omega)
  have t := td_rg (a := dr * lu) (b := 100) (c := 19800) (by omega) (by omega)
  unfold needV
  split <;> omega
theorem ok_run (a0 a1 a2 : Int32) : Pr Inv (fun S => f_X7_run S a0 a1 a2) (fun S => f_X8_run S a0 a1 a2) := by
  intro S hI
  obtain ⟨⟨A, hV, hR, hM⟩, -⟩ := id hI
  obtain ⟨a, ha, hx⟩ := i_of a0
  obtain ⟨b, hb, hy⟩ := i_of a1
  obtain ⟨c, hc, hz⟩ := i_of a2
  have h16 := hV.1.1
  have mf : ∀ T, RM T A → f_X8_run T a0 a1 a2 = if 0 ≤ a ∧ a < nsh A then (if 0 ≤ b ∧ b ≤ 1439 then (if 0 ≤ c ∧ c ≤ 3 then (if (mi A : Int) = 0 then some (-2, T) else (f_X8_goes T a0 a1).bind fun S4 => if a2 = 0 then (some ((S4.1 30 11), S4)) else (if a2 = 1 then (some ((S4.1 30 12), S4)) else (if a2 = 2 then (some ((100000 + (S4.1 30 13)), S4)) else (if (S4.1 30 14) = 0 then (some (0, S4)) else (some (1, S4)))))) else some (-1, T)) else some (-1, T)) else some (-1, T) := by
    intro T hM
    unfold f_X8_run
    rw [gt01 (m_isShip hM hV hx ha), gt01 (m_isStart hy hb), g_i hz hc 0 3 0 3 rfl rfl, hM.1.1, i_eq (x := iI (mi A : Int)) (y := 0) (b := 0) rfl rfl (by omega) (by omega)]
  show ∃ r S1 S2, f_X7_run S a0 a1 a2 = some (r, S1) ∧ f_X8_run S1 a0 a1 a2 = some (r, S2) ∧ Inv S2
  unfold f_X7_run
  rw [gt01 (e_isStart hR hV hx hy ha hb), g_w hz hc 0 3 0 3 rfl rfl (by omega) (by omega), hR.1.1, i_eq (x := iI (mi A : Int)) (y := 0) (b := 0) rfl rfl (by omega) (by omega)]
  by_cases h1 : 0 ≤ a ∧ a < nsh A
  · by_cases h2 : 0 ≤ b ∧ b ≤ 1439
    · rw [if_pos ⟨h1, h2⟩]
      by_cases h3 : 0 ≤ c ∧ c ≤ 3
      · rw [if_pos h3]
        by_cases h4 : (mi A : Int) = 0
        · rw [if_pos h4]
          exact ⟨_, _, _, rfl, by rw [mf S hM, if_pos h1, if_pos h2, if_pos h3, if_pos h4], hI⟩
        · rw [if_neg h4]
          obtain ⟨s, hs, rfl⟩ := nat_of h1
          obtain ⟨g1, g2, g3⟩ := hV.2.2.2.2 s hs
          obtain ⟨s0, s1, s2, s3, s4⟩ := hV.2.2.2.1
          obtain ⟨S1, e1, o1, t1⟩ := e_begin hR hV hx hs
          have nr := needV_rg (ru := se A 3) s4 g1
          obtain ⟨S2, e2, o2, go⟩ := sails hV hs s1 h2 rfl (by omega) hx hy (o1.rc hR) t1 (T0 := S) (by rw [setSe_self]; exact hM)
          have hM2 : RM S2 A := o2.rm12 (o1.rm hM)
          obtain ⟨T, to, el, mn, mn2, ok, m1, m2, v1, v2, v3, vr⟩ := go S2 (by rw [setSe_self]; exact hM2)
          have hI3 := hI.o1 o1 o2 m2
          have vr2 : mn = mn2 ∧ (-2000000 ≤ mn ∧ mn ≤ 400) ∧ ok = if mn < needV (se A 3) (se A 4) (hu A (3 * s)) then 0 else 1 := by
            rcases vr with h | h
            · omega
            · exact h
          have t6 : S2.1 11 6 = iI (needV (se A 3) (se A 4) (hu A (3 * s))) := by rw [o2.1 11 (by decide)]; exact t1.2.2.2.2.2.1
          rw [e1, Option.bind_some, e2, Option.bind_some]
          have mf2 := mf S2 hM2
          rw [if_pos h1, if_pos h2, if_pos h3, if_neg h4, m1, Option.bind_some] at mf2
          by_cases c0 : a2 = 0
          · rw [if_pos c0] at mf2 ⊢
            exact ⟨_, _, _, rfl, by rw [mf2, v1.1, v2.1], hI3⟩
          · rw [if_neg c0] at mf2 ⊢
            by_cases c1 : a2 = 1
            · rw [if_pos c1] at mf2 ⊢
              exact ⟨_, _, _, rfl, by rw [mf2, v1.2.1, v3], hI3⟩
            · rw [if_neg c1] at mf2 ⊢
              by_cases c2 : a2 = 2
              · rw [if_pos c2] at mf2 ⊢
                exact ⟨_, _, _, rfl, by rw [mf2, v1.2.2, v2.2.1, vr2.1, Int32.add_comm], hI3⟩
              · rw [if_neg c2] at mf2 ⊢
                rw [v1.2.2, t6, i_lt (x := iI mn) rfl rfl (by omega) (by omega)]
                rw [v2.2.2, vr2.2.2] at mf2
                by_cases c3 : mn < needV (se A 3) (se A 4) (hu A (3 * s))
                · rw [if_pos c3]
                  exact ⟨_, _, _, rfl, by rw [mf2, if_pos c3, if_pos (by decide)], hI3⟩
                · rw [if_neg c3]
                  exact ⟨_, _, _, rfl, by rw [mf2, if_neg c3, if_neg (by decide)], hI3⟩
      · rw [if_neg h3]
        exact ⟨_, _, _, rfl, by rw [mf S hM, if_pos h1, if_pos h2, if_neg h3], hI⟩
    · rw [if_neg (fun q => h2 q.2)]
      exact ⟨_, _, _, rfl, by rw [mf S hM, if_pos h1, if_neg h2], hI⟩
  · rw [if_neg (fun q => h1 q.1)]
    exact ⟨_, _, _, rfl, by rw [mf S hM, if_neg h1], hI⟩
