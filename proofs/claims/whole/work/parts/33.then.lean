/-! THERE in mind; COUGHS, who is IN in mind -/
set_option maxRecDepth 20000 in
set_option maxHeartbeats 400000 in
theorem s_X5_notDays {p : Int32} {v : Int32} (h : X5_bound p (iI ((0 : Nat) : Int)) (iI ((60 : Nat) : Int)) = some v) : X5_notDays p = some v := by
  unfold X5_notDays
  rw [n0, n60, h, Option.bind_some]
set_option maxRecDepth 20000 in
set_option maxHeartbeats 400000 in
theorem op_thereIn {A1 A2 A3 A4 A5 A6 A7 : List Int32} {a1 a2 a3 a4 : Int32} {u hd k f g l t i : Nat → Nat} {sh co d : Nat} {R : List Int32} {F : Nat → Int32} {z1 z2 p q : Int32} (hM : MJ (A1, A2, A3, A4, A5, A6, A7, a1, a2, a3, a4)) (hE : OkE (u, hd, k, f, g, l)) (hsh : sh ≤ 7) (hX : OkX 1000 (t, i, co, d)) (hR : R.length = 7) :
    ∃ (R1 : List Int32) (Mz : Hs) (F1 : Nat → Int32) (y1 y2 r : Int32), X4_thereIn R A1 A2 A3 A4 A5 A6 A7 (rn 6 t) (rn 6 u) (rn 6 hd) (rn 7 k) (rn 7 f) (rn 7 g) (rn 7 l) a1 a2 a3 a4 (iI sh) (iI (mk i)) (iI co) (iI d) p q = some (R1, Mz.1, Mz.2.1, Mz.2.2.1, Mz.2.2.2.1, Mz.2.2.2.2.1, Mz.2.2.2.2.2.1, Mz.2.2.2.2.2.2.1, Mz.2.2.2.2.2.2.2.1, Mz.2.2.2.2.2.2.2.2.1, Mz.2.2.2.2.2.2.2.2.2.1, Mz.2.2.2.2.2.2.2.2.2.2, r) ∧ X5_thereIn R (rn 6 t) (rn 6 u) (rn 6 hd) (rn 7 k) (rn 7 f) (rn 7 g) (rn 7 l) (rn 7 i) (rq 616 F) (iI sh) (iI co) (iI d) 0 z1 z2 (-9) p q = some (R1, rn 6 t, rn 6 u, rn 6 hd, rn 7 k, rn 7 f, rn 7 g, rn 7 l, rn 7 i, rq 616 F1, iI sh, iI co, iI d, y1, y2, r) ∧ MJ Mz ∧ Kp F F1 ∧ R1.length = 7 := by
  have h1 := s_refuse (R := R) (c := 1) hR (by omega) (by omega)
  have h4 := s_refuse (R := R) (c := 4) hR (by omega) (by omega)
  have h6 := s_refuse (R := R) (c := 6) hR (by omega) (by omega)
  unfold X4_thereIn X5_thereIn
  rcases good_cases p with ⟨a, ha, rfl, g1, g2⟩ | ⟨g1, g2⟩
  · rw [g1, g2, Option.bind_some, Option.bind_some, if_neg (by decide), if_neg (by decide), n60]
    rcases fit_cases (lo := 0) (hi := 60) (by omega) (by omega) q with ⟨n, -, hn, rfl, e1, e2⟩ | ⟨e1, e2⟩ | ⟨e1, e2⟩
    · rw [s_X5_notDays e2, show (0 : Int32) = iI ((0 : Nat) : Int) by decide, e1, Option.bind_some, Option.bind_some, if_pos (by decide), if_pos (by decide), s_X4_fromNow hM, Option.bind_some, s_X0_passDays hE hsh (by omega) (hX.mono (by omega)), Option.bind_some, rd_rn (by omega) (by omega) (by omega), Option.bind_some]
      rw [f9, s_thinks, Option.bind_some, s_X5_goes (by omega) hE hsh (by omega) (by omega) (hX.mono (by omega)), Option.bind_some, rd_rn (by omega) (by omega) (by omega), Option.bind_some, s_forgetsN, Option.bind_some]
      exact exo ⟨rn_len, rn_len, rn_len, rn_len, rn_len, rn_len, rn_len⟩ Kp.put2 hR
    · rw [s_X5_notDays e2, show (0 : Int32) = iI ((0 : Nat) : Int) by decide, e1, Option.bind_some, Option.bind_some, if_neg (by decide), if_neg (by decide), m4, h4.1, h4.2, Option.bind_some, Option.bind_some]
      exact exo hM Kp.rf (incR_len.trans hR)
    · rw [s_X5_notDays e2, show (0 : Int32) = iI ((0 : Nat) : Int) by decide, e1, Option.bind_some, Option.bind_some, if_neg (by decide), if_neg (by decide), m6, h6.1, h6.2, Option.bind_some, Option.bind_some]
      exact exo hM Kp.rf (incR_len.trans hR)
  · rw [g1, g2, Option.bind_some, Option.bind_some, if_pos rfl, if_pos rfl, m1, h1.1, h1.2, Option.bind_some, Option.bind_some]
    exact exo hM Kp.rf (incR_len.trans hR)
