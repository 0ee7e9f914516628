theorem g_lates {S : ST} {A : PT} (hR : RC S A) (hV : PV A) {k b m : Nat} (hk : k < 4) (hb : b + 2 * m ≤ 24) {x1 x3 x4 x5 x7 x8 : Int32} (h1 : x1 = iI (k : Int)) (h3 : x3 = iI (b : Int)) (h4 : x4 = iI (m : Int)) (h7 : x7 = iI ((24 * k + b : Nat) : Int)) (hs : ∀ i, i < 24 → S.1 (173 + k) i = S.1 48 (24 * k + i)) (hmn : ∀ j, j < m → ∃ z : Int, (0 ≤ z ∧ z ≤ 1439) ∧ S.1 48 (24 * k + (b + 2 * j)) = iI z) {v : Int} (h8 : x8 = iI v) : ∀ (n L : Nat) (cnt la : Int32) (fi : Int), 91 < L + n → L ≤ 91 → (fi = -4 ∨ (0 ≤ fi ∧ fi ≤ 90)) → ∃ r, f_X7_latesBy_14 S n x1 x3 x4 x5 cnt (iI fi) la (iI (L : Int)) = some r ∧ ∀ T, (∀ i, i < 24 → T.1 32 i = iI (ht A i)) → T.1 48 = S.1 48 → ∃ T', f_X8_gauged_130 n T x4 x5 x7 x8 cnt (iI fi) la (iI (L : Int)) = some (r, T') ∧ OnlyL T T' v := by
  intro n
  induction n with
  | zero => intro L cnt la fi q1 q2; omega
  | succ n ih =>
    intro L cnt la fi q1 q2 hfi
    have e9 : rS 4 0 = some (iI 90) := by rw [rS_ok (x := 0) (a := 0) (n := 0) rfl rfl (by decide) (by decide), sv_se 0 (by decide)]; rfl
    rw [f_X7_latesBy_14, e9, Option.bind_some, i_lt (x := iI 90) (y := iI (L : Int)) rfl rfl (by omega) (by omega)]
    by_cases h : 90 < (L : Int)
    · rw [if_pos h]
      have mT : ∀ T : ST, f_X8_gauged_130 (n + 1) T x4 x5 x7 x8 cnt (iI fi) la (iI (L : Int)) = (if x5 = 0 then (some (cnt, sI T 33 0 x8)) else (if x5 = 1 then (some (iI fi, sI T 33 0 x8)) else (some (la, sI T 33 0 x8)))) := by
        intro T
        rw [f_X8_gauged_130, i_le (x := 91) (y := iI (L : Int)) (a := 91) rfl rfl (by omega) (by omega), if_pos (by omega), wI_ok (x := 0) (a := 0) (n := 0) rfl rfl (by decide) (by decide), Option.bind_some]
      have oT : ∀ T : ST, OnlyL T (sI T 33 0 x8) v := fun T => ⟨fun a ha => sI_o ha, fun i hi => sI_nj hi, by rw [sI_eq, h8], rfl⟩
      by_cases c0 : x5 = 0
      · rw [if_pos c0]
        exact ⟨_, rfl, fun T _ _ => ⟨_, by rw [mT, if_pos c0], oT T⟩⟩
      · rw [if_neg c0]
        by_cases c1 : x5 = 1
        · rw [if_pos c1]
          exact ⟨_, rfl, fun T _ _ => ⟨_, by rw [mT, if_neg c0, if_pos c1], oT T⟩⟩
        · rw [if_neg c1]
          exact ⟨_, rfl, fun T _ _ => ⟨_, by rw [mT, if_neg c0, if_neg c1], oT T⟩⟩
    · rw [if_neg h]
      obtain ⟨c, hc, l1, l2⟩ := g_late hR hV hk hb h1 h3 h4 h7 hs hmn (x5 := x5) (x8 := x8) (la := (L : Int)) (by omega) FU 0 (FU_gt (by omega)) (by omega)
      have eL : f_X7_isLate S (iI (L : Int)) x1 x3 x4 = some (iI c) := l1
      rw [eL, Option.bind_some]
      have mT : ∀ T : ST, (∀ i, i < 24 → T.1 32 i = iI (ht A i)) → T.1 48 = S.1 48 → f_X8_gauged_130 (n + 1) T x4 x5 x7 x8 cnt (iI fi) la (iI (L : Int)) = f_X8_gauged_221 (f_X8_gauged_130 n) (sI T 33 0 (iI (L : Int))) x4 x5 x7 x8 (iI fi) la (iI (L : Int)) (iI c) (iI c) cnt := by
        intro T t1 t2
        rw [f_X8_gauged_130, i_le (x := 91) (y := iI (L : Int)) (a := 91) rfl rfl (by omega) (by omega), if_neg (by omega), wI_ok (x := 0) (a := 0) (n := 0) rfl rfl (by decide) (by decide), Option.bind_some]
        exact l2 _ (sI T 33 0 (iI (L : Int))) cnt (iI fi) la (iI (L : Int)) (fun i hi => by rw [sI_ne (by decide)]; exact t1 i hi) sI_eq (by rw [sI_o (by decide)]; exact t2)
      have fin : ∀ (cnt' la' : Int32) (fi' : Int), (fi' = -4 ∨ (0 ≤ fi' ∧ fi' ≤ 90)) → (∀ T : ST, f_X8_gauged_221 (f_X8_gauged_130 n) T x4 x5 x7 x8 (iI fi) la (iI (L : Int)) (iI c) (iI c) cnt = f_X8_gauged_130 n T x4 x5 x7 x8 cnt' (iI fi') la' (iI ((L + 1 : Nat) : Int))) → ∃ r, f_X7_latesBy_14 S n x1 x3 x4 x5 cnt' (iI fi') la' (iI ((L + 1 : Nat) : Int)) = some r ∧ ∀ T, (∀ i, i < 24 → T.1 32 i = iI (ht A i)) → T.1 48 = S.1 48 → ∃ T', f_X8_gauged_130 (n + 1) T x4 x5 x7 x8 cnt (iI fi) la (iI (L : Int)) = some (r, T') ∧ OnlyL T T' v := by
        intro cnt' la' fi' hf' hstep
        obtain ⟨r, r1, r2⟩ := ih (L + 1) cnt' la' fi' (by omega) (by omega) hf'
        refine ⟨r, r1, fun T t1 t2 => ?_⟩
        obtain ⟨T', m1, m2⟩ := r2 (sI T 33 0 (iI (L : Int))) (fun i hi => by rw [sI_ne (by decide)]; exact t1 i hi) (by rw [sI_o (by decide)]; exact t2)
        refine ⟨T', by rw [mT T t1 t2, hstep, m1], fun a ha => by rw [m2.1 a ha, sI_o ha], fun i hi => by rw [m2.2.1 i hi, sI_nj hi], m2.2.2.1, by rw [m2.2.2.2]; rfl⟩
      unfold f_X7_latesBy_53 f_X7_latesBy_59
      rw [i_next]
      rcases hc with rfl | rfl
      · rw [if_pos (show iI 0 = 0 from rfl)]
        refine fin cnt la fi hfi (fun T => ?_)
        rw [f_X8_gauged_221, f_X8_gauged_239, f_X8_gauged_241, f_X8_gauged_255, if_pos (show iI 0 = 0 from rfl), if_pos (show iI 0 = 0 from rfl), i_next, show cnt + iI 0 = cnt from Int32.add_zero cnt]
      · rw [if_neg (show ¬ iI 1 = 0 by decide)]
        by_cases hf4 : fi = -4
        · rw [if_pos (show iI fi = -4 by rw [hf4]; decide)]
          refine fin (cnt + 1) (iI (L : Int)) (L : Int) (Or.inr (by omega)) (fun T => ?_)
          rw [f_X8_gauged_221, if_neg (show ¬ iI 1 = 0 by decide), if_neg (show ¬ 0 ≤ iI fi by rw [hf4]; decide), f_X8_gauged_241, if_neg (show ¬ iI 1 = 0 by decide), f_X8_gauged_255, i_next]
          rfl
        · rw [if_neg (fun q => hf4 ((c_eq (y := -4) (b := -4) rfl (by decide) (by omega) (by omega)).mp q))]
          refine fin (cnt + 1) (iI (L : Int)) fi hfi (fun T => ?_)
          rw [f_X8_gauged_221, if_neg (show ¬ iI 1 = 0 by decide), if_pos ((c_le (x := 0) (y := iI fi) (a := 0) rfl rfl (by omega) (by omega)).mpr (by omega)), f_X8_gauged_239, f_X8_gauged_241, if_neg (show ¬ iI 1 = 0 by decide), f_X8_gauged_255, i_next]
          rfl
