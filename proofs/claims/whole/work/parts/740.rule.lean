/-! ===== the least tide that will do ===== -/
def pcV (i : Nat) : Nat := ([1, 2, 3, 4, 5, 6, 7, 8, 9, 11, 13] : List Nat).getD i 13
def tkV (i : Nat) : Nat := ([60, 30, 20, 15, 12, 10, 8, 7, 6, 5, 4] : List Nat).getD i 4
theorem sv_pc : ∀ i, i < 11 → sv 0 i = iI (pcV i : Int) := by decide +kernel
theorem sv_tk : ∀ i, i < 11 → sv 1 i = iI (tkV i : Int) := by decide +kernel
theorem pc_rg : ∀ i, i < 11 → 1 ≤ pcV i ∧ pcV i ≤ 15 ∧ tkV i = 60 / pcV i := by decide
theorem tk_rg : ∀ i, i < 11 → 4 ≤ tkV i ∧ tkV i ≤ 60 := by decide
theorem pc_le : ∀ i, i < 11 → ∀ j, j < 11 → i ≤ j → pcV i ≤ pcV j := by decide
/-- each pace has a slower or like one in the row that takes the same minutes -/
theorem pc_all : ∀ p, p < 16 → 1 ≤ p → ∃ i, i < 11 ∧ pcV i ≤ p ∧ tkV i = 60 / p := by decide
theorem r_pc {x : Int32} {i : Nat} (hx : x = iI (i : Int)) (hi : i < 11) : rS 0 x = some (iI (pcV i : Int)) := by
  rw [rS_ok (j := 0) hx rfl (show i < 11 from hi) (by omega), sv_pc i hi]
theorem r_tk {x : Int32} {i : Nat} (hx : x = iI (i : Int)) (hi : i < 11) : rS 1 x = some (iI (tkV i : Int)) := by
  rw [rS_ok (j := 1) hx rfl (show i < 11 from hi) (by omega), sv_tk i hi]
theorem td_le {a b c : Int} (h0 : 0 ≤ a) (h : a ≤ b) (hc : 0 < c) : a.tdiv c ≤ b.tdiv c := by
  rw [Int.tdiv_eq_ediv_of_nonneg h0, Int.tdiv_eq_ediv_of_nonneg (by omega)]
  exact Int.ediv_le_ediv hc h
theorem td_ge {a c d : Int} (h0 : 0 ≤ a) (hc : 0 < c) (h : c ≤ d) : a.tdiv d ≤ a.tdiv c := by
  rw [Int.tdiv_eq_ediv_of_nonneg h0, Int.tdiv_eq_ediv_of_nonneg h0]
  apply Int.le_ediv_of_mul_le hc
  have h1 : 0 ≤ a / d := Int.ediv_nonneg h0 (by omega)
  have h2 : a / d * c ≤ a / d * d := Int.mul_le_mul_of_nonneg_left h h1
  have h3 : a / d * d ≤ a := Int.ediv_mul_le a (by omega)
  omega
theorem sink_lv {A : PT} (hV : PV A) {j : Nat} (hj : j < mi A) {p br dr lv lv' : Int} (hp : 1 ≤ p ∧ p ≤ 15) (hb : 1 ≤ br ∧ br ≤ 40) (hd : 20 ≤ dr ∧ dr ≤ 200) (h : 1 ≤ lv ∧ lv ≤ 400) (h' : lv ≤ lv' ∧ lv' ≤ 400) : sinkV A j br dr p lv' ≤ sinkV A j br dr p lv := by
  have h1 := pw_rg hp hb hd
  have h2 := room_rg hV hj h
  obtain ⟨-, w1, -⟩ := hV.2.1 j hj
  unfold sinkV
  exact td_ge (by omega) (by omega) (Int.mul_le_mul_of_nonneg_left h'.1 (by omega))
theorem sink_p {A : PT} (hV : PV A) {j : Nat} (hj : j < mi A) {p p' br dr lv : Int} (hp : 1 ≤ p ∧ p ≤ 15) (hp' : p ≤ p' ∧ p' ≤ 15) (hb : 1 ≤ br ∧ br ≤ 40) (hd : 20 ≤ dr ∧ dr ≤ 200) (h : 1 ≤ lv ∧ lv ≤ 400) : sinkV A j br dr p lv ≤ sinkV A j br dr p' lv := by
  have h1 := pw_rg hp hb hd
  have h2 := room_rg hV hj h
  unfold sinkV
  refine td_le (by omega) ?_ (by omega)
  have e1 : p * p ≤ p' * p' := Int.mul_le_mul hp'.1 hp'.1 (by omega) (by omega)
  exact Int.mul_le_mul_of_nonneg_right (Int.mul_le_mul_of_nonneg_right e1 (by omega)) (by omega)
theorem und_lv {A : PT} (hV : PV A) {j : Nat} (hj : j < mi A) {p br dr wi lv lv' : Int} (hp : 1 ≤ p ∧ p ≤ 15) (hb : 1 ≤ br ∧ br ≤ 40) (hd : 20 ≤ dr ∧ dr ≤ 200) (h : 1 ≤ lv ∧ lv ≤ 400) (h' : lv ≤ lv' ∧ lv' ≤ 400) : undV A j br dr wi p lv ≤ undV A j br dr wi p lv' := by
  have h1 := sink_lv hV hj hp hb hd h h'
  unfold undV restV
  omega
theorem und_p {A : PT} (hV : PV A) {j : Nat} (hj : j < mi A) {p p' br dr wi lv : Int} (hp : 1 ≤ p ∧ p ≤ 15) (hp' : p ≤ p' ∧ p' ≤ 15) (hb : 1 ≤ br ∧ br ≤ 40) (hd : 20 ≤ dr ∧ dr ≤ 200) (h : 1 ≤ lv ∧ lv ≤ 400) : undV A j br dr wi p' lv ≤ undV A j br dr wi p lv := by
  have h1 := sink_p hV hj hp hp' hb hd h
  unfold undV
  omega
/-- what is under her: by mile, tide and pace -/
def uV (A : PT) (br dr wi du : Int) (j : Nat) (T p : Int) : Int := undV A j br dr wi p (levV A j T wi + if (j : Int) = du then 1 else 0)
def TV (br dr wi du ne : Int) : Prop := (1 ≤ br ∧ br ≤ 40) ∧ (20 ≤ dr ∧ dr ≤ 200) ∧ (0 ≤ wi ∧ wi ≤ 9) ∧ (-1 ≤ du ∧ du ≤ 16) ∧ (0 ≤ ne ∧ ne ≤ 200)
theorem lv_rg {A : PT} (hV : PV A) {j : Nat} (hj : j < mi A) {T wi du : Int} (hT : 0 ≤ T ∧ T ≤ 100) (hw : 0 ≤ wi ∧ wi ≤ 9) : 1 ≤ levV A j T wi + (if (j : Int) = du then 1 else 0) ∧ levV A j T wi + (if (j : Int) = du then 1 else 0) ≤ 400 := by
  have hl := levV_rg hV hj hT hw
  split <;> omega
theorem lev_T {A : PT} {j : Nat} {T T' wi : Int} : levV A j T' wi = levV A j T wi + (T' - T) := by
  unfold levV
  omega
theorem uV_T {A : PT} (hV : PV A) {j : Nat} (hj : j < mi A) {br dr wi du ne T T' p : Int} (h : TV br dr wi du ne) (hT : 0 ≤ T ∧ T ≤ T' ∧ T' ≤ 100) (hp : 1 ≤ p ∧ p ≤ 15) : uV A br dr wi du j T p ≤ uV A br dr wi du j T' p := by
  have l1 := lv_rg hV hj (T := T) (wi := wi) (du := du) (by omega) h.2.2.1
  have l2 := lv_rg hV hj (T := T') (wi := wi) (du := du) (by omega) h.2.2.1
  have l3 := lev_T (A := A) (j := j) (T := T) (T' := T') (wi := wi)
  exact und_lv hV hj hp h.1 h.2.1 l1 ⟨by omega, l2.2⟩
theorem uV_p {A : PT} (hV : PV A) {j : Nat} (hj : j < mi A) {br dr wi du ne T p p' : Int} (h : TV br dr wi du ne) (hT : 0 ≤ T ∧ T ≤ 100) (hp : 1 ≤ p ∧ p ≤ p' ∧ p' ≤ 15) : uV A br dr wi du j T p' ≤ uV A br dr wi du j T p :=
  und_p hV hj ⟨hp.1, by omega⟩ hp.2 h.1 h.2.1 (lv_rg hV hj hT h.2.2.1)
def EN (S : ST) (A : PT) (br dr wi du ne : Int) (j i : Nat) : Prop := ∃ e : Nat, e ≤ 100 ∧ S.1 16 (11 * j + i) = iI (e : Int) ∧ ∀ T : Nat, T < 100 → (e ≤ T ↔ ne ≤ uV A br dr wi du j (T : Int) (pcV i : Int))
theorem Only.tr11 {k : Nat} {S S' : ST} {dr br ru lu wi ne du : Int} (h : Only k S S') (hk : 11 ≠ k) (hT : Tr S dr br ru lu wi ne du) : Tr S' dr br ru lu wi ne du := by
  unfold Tr at hT ⊢
  rw [h.1 11 hk]
  exact hT
theorem al16 : al 0 16 = 176 := by decide
theorem ix11 {m i : Nat} : iI (m : Int) * 11 + iI (i : Int) = iI ((11 * m + i : Nat) : Int) := by
  rw [show (11 : Int32) = iI 11 from rfl, iI_mul, iI_add]
  congr 1
  omega
theorem low41 {A : PT} (hV : PV A) {j : Nat} (hj : j < mi A) {dr br ru lu wi ne du : Int} (h : TV br dr wi du ne) (K : ST → Int32 → Int32 → Int32 → Option ST) {i : Nat} (hi : i < 11) {S : ST} (hR : RC S A) (hT : Tr S dr br ru lu wi ne du) : ∀ (k T n : Nat), T + k = 100 → k < n → ∃ T', T ≤ T' ∧ T' ≤ 100 ∧ (∀ U : Nat, T ≤ U → U < T' → uV A br dr wi du j (U : Int) (pcV i : Int) < ne) ∧ (T' = 100 ∨ ne ≤ uV A br dr wi du j (T' : Int) (pcV i : Int)) ∧ f_X2_ruleMile_41 K n S (iI (j : Int)) (iI (T : Int)) (iI (i : Int)) = f_X2_ruleMile_74 K S (iI (j : Int)) (iI (T' : Int)) (iI (i : Int)) := by
  have hp := pc_rg i hi
  intro k
  induction k with
  | zero =>
    intro T n hk hn
    obtain ⟨n, rfl⟩ : ∃ n', n = n' + 1 := ⟨n - 1, by omega⟩
    refine ⟨T, Nat.le_refl T, by omega, fun U h1 h2 => by omega, Or.inl (by omega), ?_⟩
    rw [f_X2_ruleMile_41, i_le (x := 100) (a := 100) (b := (T : Int)) rfl rfl (by omega) (by omega), if_pos (by omega)]
  | succ k ih =>
    intro T n hk hn
    obtain ⟨n, rfl⟩ : ∃ n', n = n' + 1 := ⟨n - 1, by omega⟩
    have l1 := lv_rg hV hj (T := (T : Int)) (wi := wi) (du := du) (by omega) h.2.2.1
    have u1 := sinkV_rg hV hj (p := (pcV i : Int)) (by omega) h.1 h.2.1 l1
    have u2 := restV_rg hV hj h.1 h.2.1 h.2.2.1 l1
    have e1 : f_X2_ruleMile_41 K (n + 1) S (iI (j : Int)) (iI (T : Int)) (iI (i : Int)) = if ne ≤ uV A br dr wi du j (T : Int) (pcV i : Int) then f_X2_ruleMile_74 K S (iI (j : Int)) (iI (T : Int)) (iI (i : Int)) else f_X2_ruleMile_41 K n S (iI (j : Int)) (iI ((T + 1 : Nat) : Int)) (iI (i : Int)) := by
      rw [f_X2_ruleMile_41, i_le (x := 100) (a := 100) (b := (T : Int)) rfl rfl (by omega) (by omega), if_neg (by omega), r_pc rfl hi, Option.bind_some, e_clear hR hV hT rfl rfl rfl hj (by omega) (by omega) h.1 h.2.1 h.2.2.1 (by have := h.2.2.2.1; omega), Option.bind_some, hT.2.2.2.2.2.1, i_next]
      exact i_le rfl rfl (by have := h.2.2.2.2; omega) (by unfold undV; omega)
    rw [e1]
    by_cases hu : ne ≤ uV A br dr wi du j (T : Int) (pcV i : Int)
    · rw [if_pos hu]
      exact ⟨T, Nat.le_refl T, by omega, fun U h1 h2 => by omega, Or.inr hu, rfl⟩
    · rw [if_neg hu]
      obtain ⟨T', q1, q2, q3, q4, q5⟩ := ih (T + 1) n (by omega) (by omega)
      refine ⟨T', by omega, q2, fun U h1 h2 => ?_, q4, q5⟩
      by_cases hU : U = T
      · rw [hU]; omega
      · exact q3 U (by omega) h2
theorem low32 {A : PT} (hV : PV A) {j : Nat} (hj : j < mi A) {dr br ru lu wi ne du : Int} (h : TV br dr wi du ne) : ∀ (k i n T : Nat) (S : ST), RC S A → Tr S dr br ru lu wi ne du → i + k = 11 → k < n → T ≤ 100 → (∀ U : Nat, U < T → ∀ l, i ≤ l → l < 11 → uV A br dr wi du j (U : Int) (pcV l : Int) < ne) → ∃ S', f_X2_ruleMile_32 n S (iI (j : Int)) (iI (T : Int)) (iI (i : Int)) = some S' ∧ Only 16 S S' ∧ (∀ q, (q < 11 * j + i ∨ 11 * j + 11 ≤ q) → S'.1 16 q = S.1 16 q) ∧ ∀ l, i ≤ l → l < 11 → EN S' A br dr wi du ne j l := by
  have h16 := hV.1.1
  intro k
  induction k with
  | zero =>
    intro i n T S hR hT hi hn hT1 hlow
    obtain ⟨n, rfl⟩ : ∃ n', n = n' + 1 := ⟨n - 1, by omega⟩
    rw [f_X2_ruleMile_32, i_le (x := 11) (a := 11) (b := (i : Int)) rfl rfl (by omega) (by omega), if_pos (by omega)]
    exact ⟨S, rfl, Only.rf, fun _ _ => rfl, fun l h1 h2 => by omega⟩
  | succ k ih =>
    intro i n T S hR hT hi hn hT1 hlow
    obtain ⟨n, rfl⟩ : ∃ n', n = n' + 1 := ⟨n - 1, by omega⟩
    obtain ⟨T', q1, q2, q3, q4, q5⟩ := low41 hV hj h (f_X2_ruleMile_32 n) (i := i) (by omega) hR hT (100 - T) T FU (by omega) (by show 100 - T < 20000; omega)
    have hlow' : ∀ U : Nat, U < T' → ∀ l, i ≤ l → l < 11 → uV A br dr wi du j (U : Int) (pcV l : Int) < ne := fun U hU l h1 h2 => by
      by_cases hUT : U < T
      · exact hlow U hUT l h1 h2
      · have a1 := q3 U (by omega) hU
        have a2 := uV_p hV hj h (T := (U : Int)) (p := (pcV i : Int)) (p' := (pcV l : Int)) (by omega) ⟨by have := pc_rg i (by omega); omega, by have := pc_le i (by omega) l h2 h1; omega, by have := pc_rg l h2; omega⟩
        omega
    have o1 : Only 16 S (sI S 16 (11 * j + i) (iI (T' : Int))) := Only.sI
    obtain ⟨S', e, o, g1, g2⟩ := ih (i + 1) n T' (sI S 16 (11 * j + i) (iI (T' : Int))) (o1.rep hR (by decide) (by decide) (by decide) (by decide) (by decide)) (o1.tr11 (by decide) hT) (by omega) (by omega) q2 (fun U hU l h1 h2 => hlow' U hU l (by omega) h2)
    refine ⟨S', ?_, o1.tr o, fun q hq => by rw [g1 q (by omega), sI_nj (by omega)], fun l h1 h2 => ?_⟩
    · rw [f_X2_ruleMile_32, i_le (x := 11) (a := 11) (b := (i : Int)) rfl rfl (by omega) (by omega), if_neg (by omega), q5, f_X2_ruleMile_74, wI_ok (k := 16) ix11 rfl (by rw [al16]; omega) (by omega), Option.bind_some, i_next, e]
    · by_cases hl : l = i
      · subst hl
        refine ⟨T', q2, by rw [g1 _ (by omega), sI_eq], fun U hU => ⟨fun hle => ?_, fun hne => ?_⟩⟩
        · rcases q4 with q4 | q4
          · omega
          · have a2 := uV_T hV hj h (T := (T' : Int)) (T' := (U : Int)) (p := (pcV l : Int)) (by omega) (by have := pc_rg l h2; omega)
            omega
        · apply Classical.byContradiction
          intro hc
          have := hlow' U (by omega) l (Nat.le_refl l) h2
          omega
      · exact g2 l (by omega) h2
theorem e_ruleMile {A : PT} (hV : PV A) {j : Nat} (hj : j < mi A) {dr br ru lu wi ne du : Int} (h : TV br dr wi du ne) {S : ST} (hR : RC S A) (hT : Tr S dr br ru lu wi ne du) {x : Int32} (hx : x = iI (j : Int)) : ∃ S', f_X2_ruleMile S x = some S' ∧ Only 16 S S' ∧ (∀ q, (q < 11 * j ∨ 11 * j + 11 ≤ q) → S'.1 16 q = S.1 16 q) ∧ ∀ l, l < 11 → EN S' A br dr wi du ne j l := by
  subst hx
  obtain ⟨t1, t2, t3, t4, t5⟩ := id h
  have l0 := lv_rg hV hj (T := 0) (wi := wi) (du := du) (by omega) t3
  have r0 := restV_rg hV hj t1 t2 t3 l0
  generalize hlk : ne - restV A j br dr wi (levV A j 0 wi + (if (j : Int) = du then 1 else 0)) = lk
  obtain ⟨T, hT0, hTe⟩ : ∃ T : Nat, T ≤ 100 ∧ max 0 (min 100 lk) = (T : Int) := ⟨(max 0 (min 100 lk)).toNat, by omega, by omega⟩
  obtain ⟨S', e, o, g1, g2⟩ := low32 hV hj h 11 0 FU T S hR hT rfl (by show 11 < 20000; omega) hT0 (fun U hU l _ hl => by
    have lU := lv_rg hV hj (T := (U : Int)) (wi := wi) (du := du) (by omega) t3
    have s0 := sinkV_rg hV hj (p := (pcV l : Int)) (br := br) (dr := dr) (by have := pc_rg l hl; omega) t1 t2 lU
    have lt := lev_T (A := A) (j := j) (T := 0) (T' := (U : Int)) (wi := wi)
    unfold uV undV
    unfold restV at hlk ⊢
    omega)
  refine ⟨S', ?_, o, fun q hq => g1 q (by omega), fun l hl => g2 l (by omega) hl⟩
  unfold f_X2_ruleMile
  rw [e_level hR hV hT rfl (show (0 : Int32) = iI 0 from rfl) hj (by omega), Option.bind_some, e_atRest hR hV hT rfl rfl hj t1 t2 t3, Option.bind_some, hT.2.2.2.2.2.1, iI_sub, hlk, e_min (x := 100) (a := 100) rfl rfl (by omega) (by omega), Option.bind_some, e_max (x := 0) (a := 0) rfl rfl (by omega) (by omega), Option.bind_some, hTe]
  exact e
theorem rule_go {A : PT} (hV : PV A) {dr br ru lu wi ne du : Int} (h : TV br dr wi du ne) : ∀ (k j n : Nat) (S : ST), RC S A → Tr S dr br ru lu wi ne du → j + k = mi A → k < n → ∃ S', f_X2_rule_2 n S (iI (j : Int)) = some S' ∧ Only 16 S S' ∧ (∀ q, q < 11 * j → S'.1 16 q = S.1 16 q) ∧ ∀ m, j ≤ m → m < mi A → ∀ l, l < 11 → EN S' A br dr wi du ne m l := by
  have h16 := hV.1.1
  intro k
  induction k with
  | zero =>
    intro j n S hR hT hj hn
    obtain ⟨n, rfl⟩ : ∃ n', n = n' + 1 := ⟨n - 1, by omega⟩
    rw [f_X2_rule_2, hR.1.1, i_le (x := iI (mi A : Int)) (y := iI (j : Int)) rfl rfl (by omega) (by omega), if_pos (by omega)]
    exact ⟨S, rfl, Only.rf, fun _ _ => rfl, fun m h1 h2 => by omega⟩
  | succ k ih =>
    intro j n S hR hT hj hn
    obtain ⟨n, rfl⟩ : ∃ n', n = n' + 1 := ⟨n - 1, by omega⟩
    obtain ⟨S1, e1, o1, g1, g2⟩ := e_ruleMile hV (j := j) (by omega) h hR hT rfl
    obtain ⟨S', e, o, g3, g4⟩ := ih (j + 1) n S1 (o1.rep hR (by decide) (by decide) (by decide) (by decide) (by decide)) (o1.tr11 (by decide) hT) (by omega) (by omega)
    refine ⟨S', ?_, o1.tr o, fun q hq => by rw [g3 q (by omega), g1 q (by omega)], fun m h1 h2 l hl => ?_⟩
    · rw [f_X2_rule_2, hR.1.1, i_le (x := iI (mi A : Int)) (y := iI (j : Int)) rfl rfl (by omega) (by omega), if_neg (by omega), e1, Option.bind_some, i_next, e]
    · by_cases hm : m = j
      · subst hm
        obtain ⟨e', p1, p2, p3⟩ := g2 l hl
        exact ⟨e', p1, by rw [g3 _ (by omega)]; exact p2, p3⟩
      · exact g4 m (by omega) h2 l hl
theorem e_rule {A : PT} (hV : PV A) {dr br ru lu wi ne du : Int} (h : TV br dr wi du ne) {S : ST} (hR : RC S A) (hT : Tr S dr br ru lu wi ne du) : ∃ S', f_X2_rule S = some S' ∧ Only 16 S S' ∧ ∀ m, m < mi A → ∀ l, l < 11 → EN S' A br dr wi du ne m l := by
  have h16 := hV.1.1
  obtain ⟨S', e, o, -, g⟩ := rule_go hV h (mi A) 0 FU S hR hT (by omega) (by show mi A < 20000; omega)
  exact ⟨S', e, o, fun m hm l hl => g m (by omega) hm l hl⟩
