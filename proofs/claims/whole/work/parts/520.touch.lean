/-! ===== the winds that touch ===== -/
theorem setSe_set {A : PT} {i : Nat} {v w : Int} : setSe (setSe A i w) i v = setSe A i v := by
  have : uf (uf (se A) i w) i v = uf (se A) i v := by
    funext j
    by_cases h : j = i
    · subst h; rw [uf_s, uf_s]
    · rw [uf_n h, uf_n h, uf_n h]
  show (A.1, A.2.1, A.2.2.1, uf (uf (se A) i w) i v, A.2.2.2.2) = (A.1, A.2.1, A.2.2.1, uf (se A) i v, A.2.2.2.2)
  rw [this]
theorem e_refusalAt {S : ST} {A : PT} (hR : RC S A) (hV : PV A) {x y z w : Int32} {a b c lo : Int} (hx : x = iI a) (hy : y = iI b) (hz : z = iI c) (hw : w = iI lo) (ha : Rg a) (hb : Rg b) (hc : Rg c) (hlo : Rg lo) : f_X7_refusalAt S x y z w = some (iI (if (0 ≤ a ∧ a < nsh A) ∧ (0 ≤ b ∧ b ≤ 1439) then (if lo ≤ c ∧ c ≤ 15 then (if (mi A : Int) = 0 then -2 else if (mi A : Int) ≤ c then -1 else 0) else -1) else -1)) := by
  have h16 := hV.1.1
  unfold f_X7_refusalAt
  rw [gt01 (e_isStart hR hV hx hy ha hb), gt01 (e_within hz hw (z := 15) (c := 15) rfl hc hlo (by omega)), hR.1.1, i_eq (x := iI (mi A : Int)) (y := 0) (b := 0) rfl rfl (by omega) (by omega), i_le (x := iI (mi A : Int)) rfl hz (by omega) hc]
  by_cases h1 : (0 ≤ a ∧ a < nsh A) ∧ (0 ≤ b ∧ b ≤ 1439)
  · rw [if_pos h1, if_pos h1]
    by_cases h2 : lo ≤ c ∧ c ≤ 15
    · rw [if_pos h2, if_pos h2]
      by_cases h3 : (mi A : Int) = 0
      · rw [if_pos h3, if_pos h3]; rfl
      · rw [if_neg h3, if_neg h3]
        by_cases h4 : (mi A : Int) ≤ c
        · rw [if_pos h4, if_pos h4]; rfl
        · rw [if_neg h4, if_neg h4]; rfl
    · rw [if_neg h2, if_neg h2]; rfl
  · rw [if_neg h1, if_neg h1]; rfl
theorem Tr.wind {S : ST} {dr br ru lu wi ne du v : Int} (h : Tr S dr br ru lu wi ne du) : Tr (sI S 11 5 (iI v)) dr br ru lu v ne du := by
  obtain ⟨h1, h2, h3, h4, h5, h6, h7⟩ := h
  exact ⟨by rw [sI_nj (by decide)]; exact h1, by rw [sI_nj (by decide)]; exact h2, by rw [sI_nj (by decide)]; exact h3, by rw [sI_nj (by decide)]; exact h4, sI_eq, by rw [sI_nj (by decide)]; exact h6, by rw [sI_nj (by decide)]; exact h7⟩
def OnlyT (S S' : ST) : Prop := (∀ a, a ≠ 11 → a ≠ 12 → S'.1 a = S.1 a) ∧ S'.2 = S.2
def OnlyW (S S' : ST) (v : Int) : Prop := (∀ a, a ≠ 30 → a ≠ 33 → S'.1 a = S.1 a) ∧ (∀ i, (i < 11 ∨ 14 < i) → S'.1 30 i = S.1 30 i) ∧ (∀ i, i ≠ 1 → S'.1 33 i = S.1 33 i) ∧ S'.1 33 1 = iI v ∧ S'.2 = S.2
theorem touches {A : PT} (hV : PV A) {s : Nat} (hs : s < nsh A) {st ne ru lu : Int} (hst : 0 ≤ st ∧ st ≤ 1439) (hne : needV (se A 3) (se A 4) (hu A (3 * s)) = ne) (hne2 : Rg ne) {x1 x2 x3 : Int32} (hx : x1 = iI (s : Int)) (hx2 : x2 = iI st) {T0 : ST} (hT0 : RM T0 A) : ∀ (n i : Nat) (S : ST) (x5 : Int32) (wi : Int), 10 < i + n → i ≤ 10 → RC S A → Tr S (hu A (3 * s)) (hu A (3 * s + 1)) ru lu wi ne (-1) → ∃ r S', f_X7_touched_32 n S x2 x3 x5 (iI (i : Int)) = some (r, S') ∧ OnlyT S S' ∧ ∀ T w, RM T (setSe A 1 w) → ∃ T', f_X8_touched_70 n T x1 x2 x3 (iI (se A 1)) x5 (iI (i : Int)) = some (r, T') ∧ OnlyW T T' (se A 1) := by
  intro n
  induction n with
  | zero => intro i S x5 wi q1 q2; omega
  | succ n ih =>
    intro i S x5 wi q1 q2 hR hT
    unfold f_X7_touched_32 f_X8_touched_70
    rw [show rS 4 1 = some (iI 9) from by rw [rS_ok (x := 1) (a := 1) (n := 1) rfl rfl (by decide) (by decide), sv_se 1 (by decide)]; rfl]
    simp only [Option.bind_some]
    rw [i_lt (x := iI 9) (y := iI (i : Int)) rfl rfl (by omega) (by omega)]
    have nx : iI (i : Int) + 1 = iI ((i + 1 : Nat) : Int) := by rw [show (1 : Int32) = iI 1 from rfl, iI_add]; rfl
    by_cases g : 9 < (i : Int)
    · rw [if_pos g]
      refine ⟨_, _, rfl, ⟨fun _ _ _ => rfl, rfl⟩, fun T w hM => ?_⟩
      rw [i_le (x := 10) (y := iI (i : Int)) (a := 10) rfl rfl (by omega) (by omega), if_pos (by omega), wI_ok (x := 1) (a := 1) (n := 1) rfl rfl (by decide) (by decide)]
      exact ⟨_, rfl, fun _ _ h2 => sI_o h2, fun _ _ => sI_ne (by decide), fun j hj => sI_nj hj, sI_eq, rfl⟩
    · rw [if_neg g]
      have hw : 0 ≤ (i : Int) ∧ (i : Int) ≤ 9 := by omega
      have oS : Only 11 S (sI S 11 5 (iI (i : Int))) := Only.sI
      have r0 : RM (sI T0 33 1 (iI (i : Int))) (setSe A 1 (i : Int)) := Rep.se hT0 rfl (by decide) (by decide) (by decide) (by decide)
      obtain ⟨S2, e2, o2, go⟩ := sails hV hs hw hst hne hne2 hx hx2 (oS.rc hR) (hT.wind) r0
      rw [e2, Option.bind_some]
      unfold f_X7_touched_83 f_X8_touched_109
      rw [nx]
      have fr : ∀ S', OnlyT S2 S' → OnlyT S S' := fun S' h => ⟨fun a h1 h2 => by rw [h.1 a h1 h2, o2.1 a h2, oS.1 a h1], by rw [h.2, o2.2, oS.2]⟩
      have mk1 : ∀ (x5' : Int32) (c : Prop) [Decidable c], (c ↔ S2.1 12 1 = x3) → (x5' = if c then x5 ||| (1 <<< (iI (i : Int) &&& 31)) else x5) → ∃ r S', f_X7_touched_32 n S2 x2 x3 x5' (iI ((i + 1 : Nat) : Int)) = some (r, S') ∧ OnlyT S S' ∧ ∀ T w, RM T (setSe A 1 w) → ∃ T', (if 10 ≤ iI (i : Int) then (wI T 33 1 (iI (se A 1))).bind fun S1 => some (x5, S1) else (wI T 33 1 (iI (i : Int))).bind fun S2 => (f_X8_goes S2 x1 x2).bind fun S3 => if (S3.1 30 11) = x3 then f_X8_touched_70 n S3 x1 x2 x3 (iI (se A 1)) (x5 ||| (1 <<< (iI (i : Int) &&& 31))) (iI ((i + 1 : Nat) : Int)) else f_X8_touched_70 n S3 x1 x2 x3 (iI (se A 1)) (x5 ||| 0) (iI ((i + 1 : Nat) : Int))) = some (r, T') ∧ OnlyW T T' (se A 1) := by
        intro x5' c _ hc hx5
        obtain ⟨r, S', f1, f2, f3⟩ := ih (i + 1) S2 x5' (i : Int) (by omega) (by omega) (o2.rc12 (oS.rc hR)) (o2.tr12 hT.wind)
        refine ⟨r, S', f1, fr S' f2, fun T w hM => ?_⟩
        have rT : RM (sI T 33 1 (iI (i : Int))) (setSe A 1 (i : Int)) := by
          have := Rep.se (i := 1) (x := iI (i : Int)) (v := (i : Int)) hM rfl (by decide) (by decide) (by decide) (by decide)
          rw [setSe_set] at this
          exact this
        obtain ⟨T3, to, el, mn, mn2, ok, m1, m2, v1, v2, -⟩ := go _ rT
        obtain ⟨T', k1, k2⟩ := f3 T3 (i : Int) (m2.rm rT)
        refine ⟨T', ?_, ?_⟩
        · rw [i_le (x := 10) (y := iI (i : Int)) (a := 10) rfl rfl (by omega) (by omega), if_neg (by omega), wI_ok (x := 1) (a := 1) (n := 1) rfl rfl (by decide) (by decide), Option.bind_some, m1, Option.bind_some, v2.1, ← v1.1]
          by_cases hcc : c
          · rw [if_pos (hc.mp hcc), ← k1, hx5, if_pos hcc]
          · rw [if_neg (fun q => hcc (hc.mpr q)), ← k1, hx5, if_neg hcc, Int32.or_zero]
        · refine ⟨fun a h1 h2 => ?_, fun j hj => ?_, fun j hj => ?_, k2.2.2.2.1, ?_⟩
          · rw [k2.1 a h1 h2, m2.1 a h1]; exact sI_o h2
          · rw [k2.2.1 j hj, m2.2.1 j hj]; exact sI_ne (by decide)
          · rw [k2.2.2.1 j hj, m2.1 33 (by decide)]; exact sI_nj hj
          · rw [k2.2.2.2.2, m2.2.2]; rfl
      by_cases hc : S2.1 12 1 = x3
      · rw [if_pos hc]
        exact mk1 _ True ⟨fun _ => hc, fun _ => trivial⟩ (if_pos trivial).symm
      · rw [if_neg hc]
        exact mk1 _ False ⟨fun q => q.elim, fun q => hc q⟩ (if_neg id).symm
theorem ok_touched (a0 a1 a2 : Int32) : Pr Inv (fun S => f_X7_touched S a0 a1 a2) (fun S => f_X8_touched S a0 a1 a2) := by
  intro S hI
  obtain ⟨⟨A, hV, hR, hM⟩, -⟩ := id hI
  obtain ⟨a, ha, hx⟩ := i_of a0
  obtain ⟨b, hb, hy⟩ := i_of a1
  obtain ⟨c, hc, hz⟩ := i_of a2
  have h16 := hV.1.1
  show ∃ r S1 S2, f_X7_touched S a0 a1 a2 = some (r, S1) ∧ f_X8_touched S1 a0 a1 a2 = some (r, S2) ∧ Inv S2
  have mf : ∀ T, RM T A → f_X8_touched T a0 a1 a2 = if 0 ≤ a ∧ a < nsh A then (if 0 ≤ b ∧ b ≤ 1439 then (if (mi A : Int) ≤ 0 then (if c < 0 then some (-1, T) else if c ≤ 15 then some (-2, T) else some (-1, T)) else (if 0 ≤ c ∧ c < mi A then f_X8_touched_70 FU T a0 a1 a2 (iI (se A 1)) 0 0 else some (-1, T))) else some (-1, T)) else some (-1, T) := by
    intro T hM
    unfold f_X8_touched f_X8_touched_32
    rw [gt01 (m_isShip hM hV hx ha), gt01 (m_isStart hy hb), gt01 (m_isMile hM hV hz hc), hM.1.1, i_le (x := iI (mi A : Int)) (y := 0) (b := 0) rfl rfl (by omega) (by omega), i_eq (x := iI (mi A : Int)) (y := 0) (b := 0) rfl rfl (by omega) (by omega), i_lt (y := 0) (b := 0) hz rfl hc (by omega), i_le (y := 15) (b := 15) hz rfl hc (by omega), rm_se hM (x := 1) (i := 1) rfl (by omega), Option.bind_some]
    by_cases h : (mi A : Int) = 0
    · rw [if_pos (show (mi A : Int) ≤ 0 by omega), if_pos (show (mi A : Int) ≤ 0 by omega), if_pos h]
    · rw [if_neg (show ¬ (mi A : Int) ≤ 0 by omega), if_neg (show ¬ (mi A : Int) ≤ 0 by omega), if_neg h]
  unfold f_X7_touched
  obtain ⟨v, hv, ev⟩ := (⟨_, rfl, e_refusalAt hR hV hx hy hz (w := 0) (lo := 0) rfl ha hb hc (by omega)⟩ : ∃ v : Int, v = _ ∧ f_X7_refusalAt S a0 a1 a2 0 = some (iI v))
  rw [ev, Option.bind_some]
  have no : ∀ v : Int, (v = -1 ∨ v = -2) → ((if iI v = 0 then (f_X5_begin S a0).bind fun S2 => f_X7_touched_32 FU S2 a1 a2 0 0 else some (iI v, S)) = some (iI v, S)) := by
    intro v hv
    rw [if_neg]
    rcases hv with rfl | rfl <;> decide
  by_cases h1 : 0 ≤ a ∧ a < nsh A
  · by_cases h2 : 0 ≤ b ∧ b ≤ 1439
    · rw [if_pos ⟨h1, h2⟩] at hv
      by_cases h3 : 0 ≤ c ∧ c ≤ 15
      · rw [if_pos h3] at hv
        by_cases h4 : (mi A : Int) = 0
        · rw [if_pos h4] at hv; subst hv; rw [no (-2) (Or.inr rfl)]
          exact ⟨_, _, _, rfl, by rw [mf S hM, if_pos h1, if_pos h2, if_pos (by omega), if_neg (by omega), if_pos (by omega)]; rfl, hI⟩
        · rw [if_neg h4] at hv
          by_cases h5 : (mi A : Int) ≤ c
          · rw [if_pos h5] at hv; subst hv; rw [no (-1) (Or.inl rfl)]
            exact ⟨_, _, _, rfl, by rw [mf S hM, if_pos h1, if_pos h2, if_neg (by omega), if_neg (by omega)]; rfl, hI⟩
          · rw [if_neg h5] at hv; subst hv; rw [if_pos (by decide)]
            obtain ⟨s, hs, rfl⟩ := nat_of h1
            obtain ⟨g1, g2, g3⟩ := hV.2.2.2.2 s hs
            obtain ⟨s0, s1, s2, s3, s4⟩ := hV.2.2.2.1
            obtain ⟨S1, e1, o1, t1⟩ := e_begin hR hV hx hs
            have nr := needV_rg (ru := se A 3) s4 g1
            obtain ⟨r, S2, f1, f2, f3⟩ := touches hV hs h2 rfl (by omega) hx hy hM FU 0 S1 0 (se A 1) (FU_gt (by omega)) (by omega) (o1.rc hR) t1 (x3 := a2)
            have hM2 : RM S2 A := Rep.of hM (by rw [f2.1 30 (by decide) (by decide), o1.1 30 (by decide)]) (by rw [f2.1 30 (by decide) (by decide), o1.1 30 (by decide)]) (by rw [f2.1 32 (by decide) (by decide), o1.1 32 (by decide)]) (by rw [f2.1 33 (by decide) (by decide), o1.1 33 (by decide)]) (by rw [f2.1 31 (by decide) (by decide), o1.1 31 (by decide)]) (by rw [f2.1 34 (by decide) (by decide), o1.1 34 (by decide)])
            obtain ⟨T, k1, k2⟩ := f3 S2 (se A 1) (by rw [setSe_self]; exact hM2)
            refine ⟨r, S2, T, ?_, ?_, ?_⟩
            · rw [e1, Option.bind_some]; exact f1
            · rw [mf S2 hM2, if_pos h1, if_pos h2, if_neg (by omega), if_pos (by omega)]; exact k1
            · refine hI.scr (fun k hk h3 => ?_) (fun i hi => ?_) (fun k _ _ => ?_)
              · by_cases h33 : k = 33
                · subst h33
                  funext j
                  by_cases hj : j = 1
                  · subst hj
                    rw [k2.2.2.2.1]
                    exact (hM.2.2.1 1 (by omega)).symm
                  · rw [k2.2.2.1 j hj, f2.1 33 (by decide) (by decide), o1.1 33 (by decide)]
                · rw [k2.1 k h3 h33, f2.1 k (fun q => hk (Or.inl q)) (fun q => hk (Or.inr (Or.inl q))), o1.1 k (fun q => hk (Or.inl q))]
              · rw [k2.2.1 i (by omega), f2.1 30 (by decide) (by decide), o1.1 30 (by decide)]
              · rw [k2.2.2.2.2, f2.2, o1.2]
      · rw [if_neg h3] at hv; subst hv; rw [no (-1) (Or.inl rfl)]
        refine ⟨_, _, _, rfl, ?_, hI⟩
        rw [mf S hM, if_pos h1, if_pos h2]
        by_cases h4 : (mi A : Int) ≤ 0
        · rw [if_pos h4]
          by_cases h5 : c < 0
          · rw [if_pos h5]; rfl
          · rw [if_neg h5, if_neg (by omega)]; rfl
        · rw [if_neg h4, if_neg (by omega)]; rfl
    · rw [if_neg (fun q => h2 q.2)] at hv; subst hv; rw [no (-1) (Or.inl rfl)]
      exact ⟨_, _, _, rfl, by rw [mf S hM, if_pos h1, if_neg h2]; rfl, hI⟩
  · rw [if_neg (fun q => h1 q.1)] at hv; subst hv; rw [no (-1) (Or.inl rfl)]
    exact ⟨_, _, _, rfl, by rw [mf S hM, if_neg h1]; rfl, hI⟩
