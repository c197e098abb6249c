/-! the small operations: TIDE -/
set_option maxRecDepth 20000 in
set_option maxHeartbeats 400000 in
theorem exr {R : List Int32} {v : Int32} (h : R.length = 7) : ∃ (R1 : List Int32) (r : Int32), some (R, v) = some (R1, r) ∧ some (R, v) = some (R1, r) ∧ R1.length = 7 := ⟨R, v, rfl, rfl, h⟩
set_option maxRecDepth 20000 in
set_option maxHeartbeats 400000 in
theorem op_tide {R : List Int32} {d : Nat} {p : Int32} (hd : d ≤ 1000) (hR : R.length = 7) : ∃ (R1 : List Int32) (r : Int32), X4_tide R (iI d) p = some (R1, r) ∧ X5_tide R (iI d) p = some (R1, r) ∧ R1.length = 7 := by
  have h4 := s_refuse (R := R) (c := 4) hR (by omega) (by omega)
  have h6 := s_refuse (R := R) (c := 6) hR (by omega) (by omega)
  unfold X4_tide X5_tide
  rw [n0, n60]
  rcases fit_cases (lo := 0) (hi := 60) (by omega) (by omega) p with ⟨n, -, hn, rfl, e1, e2⟩ | ⟨e1, e2⟩ | ⟨e1, e2⟩
  · rw [e1, e2, Option.bind_some, Option.bind_some, if_pos (by decide), if_pos (by decide), iI_add, s_X4_tideOf (by omega) (by omega), s_X5_tideOf (by omega) (by omega), Option.bind_some]
    exact exr hR
  · rw [e1, e2, Option.bind_some, Option.bind_some, if_neg (by decide), if_neg (by decide), m4, h4.1, h4.2, Option.bind_some]
    exact exr (incR_len.trans hR)
  · rw [e1, e2, Option.bind_some, Option.bind_some, if_neg (by decide), if_neg (by decide), m6, h6.1, h6.2, Option.bind_some]
    exact exr (incR_len.trans hR)
