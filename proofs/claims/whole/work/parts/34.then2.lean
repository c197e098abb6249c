/-! then() -/
set_option maxRecDepth 20000 in
set_option maxHeartbeats 400000 in
theorem what_cases {hi : Nat} (hh : hi ≤ 100) (p : Int32) : (∃ w, w ≤ hi ∧ p = iI (w : Nat) ∧ ¬ p < (0 : Int32) ∧ p ≤ iI hi ∧ X5_isIn p 0 (iI hi) = some 1) ∨ (p < (0 : Int32) ∧ X5_isIn p 0 (iI hi) = some 0) ∨ (¬ p < (0 : Int32) ∧ ¬ p ≤ iI hi ∧ X5_isIn p 0 (iI hi) = some 0) := by
  have hb1 := Int32.le_toInt p
  have hb2 := Int32.toInt_lt p
  have e : p = iI p.toInt := (iI_of p).symm
  generalize p.toInt = a at *
  subst e
  unfold X5_isIn
  rw [L0]
  by_cases h0 : a < 0
  · exact Or.inr (Or.inl ⟨tlt h0 (by omega) (by omega), by rw [if_pos (tlt h0 (by omega) (by omega))]⟩)
  · have g0 : ¬ iI a < iI 0 := flt (by omega) (by omega) (by omega)
    rw [if_neg g0]
    by_cases h1 : a ≤ (hi : Int)
    · rw [if_neg (flt h1 (by omega) (by omega))]
      exact Or.inl ⟨a.toNat, by omega, iI_c (by omega), g0, tle h1 (by omega) (by omega), rfl⟩
    · rw [if_pos (tlt (by omega) (by omega) (by omega))]
      exact Or.inr (Or.inr ⟨g0, fle (by omega) (by omega) (by omega), rfl⟩)
set_option maxRecDepth 20000 in
set_option maxHeartbeats 400000 in
theorem op_then {A1 A2 A3 A4 A5 A6 A7 : List Int32} {a1 a2 a3 a4 : Int32} {u hd k f g l t i : Nat → Nat} {sh co d : Nat} {R : List Int32} {F : Nat → Int32} {z1 z2 p q : Int32} (hM : MJ (A1, A2, A3, A4, A5, A6, A7, a1, a2, a3, a4)) (hE : OkE (u, hd, k, f, g, l)) (hsh : sh ≤ 7) (hX : OkX 1000 (t, i, co, d)) (hO : OutI sh i) (hR : R.length = 7) :
    ∃ (R1 : List Int32) (Mz : Hs) (F1 : Nat → Int32) (y1 y2 r : Int32), X4_then R A1 A2 A3 A4 A5 A6 A7 (rn 6 t) (rn 6 u) (rn 6 hd) (rn 7 k) (rn 7 f) (rn 7 g) (rn 7 l) a1 a2 a3 a4 (iI sh) (iI (mk i)) (iI co) (iI d) p q = some (R1, Mz.1, Mz.2.1, Mz.2.2.1, Mz.2.2.2.1, Mz.2.2.2.2.1, Mz.2.2.2.2.2.1, Mz.2.2.2.2.2.2.1, Mz.2.2.2.2.2.2.2.1, Mz.2.2.2.2.2.2.2.2.1, Mz.2.2.2.2.2.2.2.2.2.1, Mz.2.2.2.2.2.2.2.2.2.2, r) ∧ X5_then R (rn 6 t) (rn 6 u) (rn 6 hd) (rn 7 k) (rn 7 f) (rn 7 g) (rn 7 l) (rn 7 i) (rq 616 F) (iI sh) (iI co) (iI d) 0 z1 z2 (-9) p q = some (R1, rn 6 t, rn 6 u, rn 6 hd, rn 7 k, rn 7 f, rn 7 g, rn 7 l, rn 7 i, rq 616 F1, iI sh, iI co, iI d, y1, y2, r) ∧ MJ Mz ∧ Kp F F1 ∧ R1.length = 7 := by
  have h2 := s_refuse (R := R) (c := 2) hR (by omega) (by omega)
  have h4 := s_refuse (R := R) (c := 4) hR (by omega) (by omega)
  have h6 := s_refuse (R := R) (c := 6) hR (by omega) (by omega)
  unfold X4_then X5_then
  rw [n60]
  rcases fit_cases (lo := 0) (hi := 60) (by omega) (by omega) p with ⟨n, -, hn, rfl, e1, e2⟩ | ⟨e1, e2⟩ | ⟨e1, e2⟩
  · have hz := daysX_ok (e := (u, hd, k, f, g, l)) (sh := sh) (b := 0) (fr := 6) n 1000 (t, i, co, d) hX
    have hw := daysX_out (e := (u, hd, k, f, g, l)) (sh := sh) (b := 0) (fr := 6) n (t, i, co, d) hO
    rw [s_X5_notDays e2, show X4_misfit (iI (n : Int)) 0 (iI ((60 : Nat) : Int)) = some 0 from e1, Option.bind_some, Option.bind_some, if_pos rfl, if_pos rfl]
    rcases what_cases (hi := 1) (by omega) q with ⟨w, hw1, rfl, g1, g2, g3⟩ | ⟨g1, g3⟩ | ⟨g1, g2, g3⟩
    · rw [if_neg g1, if_pos (show iI (w : Int) ≤ (1 : Int32) from g2), show X5_isIn (iI (w : Int)) 0 1 = some 1 from g3, Option.bind_some, if_neg (by decide), if_pos rfl, s_X4_fromNow hM, Option.bind_some, s_X0_passDays hE hsh (by omega) (hX.mono (by omega)), Option.bind_some, f9, s_thinks, Option.bind_some, i0, s_X5_goes (by omega) hE hsh (by omega) (by omega) (hX.mono (by omega)), Option.bind_some]
      by_cases c : w = 0
      · subst c
        rw [if_pos rfl, if_pos rfl, s_forgetsN, Option.bind_some]
        exact exo ⟨rn_len, rn_len, rn_len, rn_len, rn_len, rn_len, rn_len⟩ Kp.put2 hR
      · have g : ¬ iI (w : Int) = iI ((0 : Nat) : Int) := feq (by omega) (by omega) (by omega) (by omega) (by omega)
        rw [if_neg g, if_neg g, s_X5_inOnes hsh hz.2.1 hw, Option.bind_some, s_forgetsN, Option.bind_some]
        exact exo ⟨rn_len, rn_len, rn_len, rn_len, rn_len, rn_len, rn_len⟩ Kp.put2 hR
    · rw [if_pos g1, show X5_isIn q 0 1 = some 0 from g3, Option.bind_some, if_pos rfl, m2, h2.1, h2.2, Option.bind_some, Option.bind_some]
      exact exo hM Kp.rf (incR_len.trans hR)
    · rw [if_neg g1, if_neg (show ¬ q ≤ (1 : Int32) from g2), show X5_isIn q 0 1 = some 0 from g3, Option.bind_some, if_pos rfl, m2, h2.1, h2.2, Option.bind_some, Option.bind_some]
      exact exo hM Kp.rf (incR_len.trans hR)
  · rw [s_X5_notDays e2, show X4_misfit p 0 (iI ((60 : Nat) : Int)) = some (-4) from e1, Option.bind_some, Option.bind_some, if_neg (by decide), if_neg (by decide), if_neg (by decide), m4, h4.1, h4.2, Option.bind_some, Option.bind_some]
    exact exo hM Kp.rf (incR_len.trans hR)
  · rw [s_X5_notDays e2, show X4_misfit p 0 (iI ((60 : Nat) : Int)) = some (-6) from e1, Option.bind_some, Option.bind_some, if_neg (by decide), if_neg (by decide), if_neg (by decide), m6, h6.1, h6.2, Option.bind_some, Option.bind_some]
    exact exo hM Kp.rf (incR_len.trans hR)
