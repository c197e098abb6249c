/-! GOOD -/
set_option maxRecDepth 20000 in
set_option maxHeartbeats 400000 in
theorem op_good {t u hd : Nat → Nat} {R : List Int32} {p q : Int32} (ht : ∀ j, t j ≤ 99) (hu : ∀ j, u j ≤ 9) (hR : R.length = 7) : ∃ (R1 : List Int32) (r : Int32), X4_good R (rn 6 t) (rn 6 u) (rn 6 hd) p q = some (R1, r) ∧ X5_good R (rn 6 t) (rn 6 u) (rn 6 hd) (-9) p q = some (R1, r) ∧ R1.length = 7 := by
  have h1 := s_refuse (R := R) (c := 1) hR (by omega) (by omega)
  have h2 := s_refuse (R := R) (c := 2) hR (by omega) (by omega)
  unfold X4_good X5_good
  rw [f9]
  rcases good_cases p with ⟨a, ha, rfl, g1, g2⟩ | ⟨g1, g2⟩
  · rw [g1, g2, Option.bind_some, Option.bind_some, if_neg c10, if_neg c10]
    by_cases c0 : q = (0 : Int32)
    · rw [if_pos c0, if_pos c0, rd_rn (by omega) (by omega) (by omega), Option.bind_some]
      exact ⟨R, _, rfl, rfl, hR⟩
    rw [if_neg c0, if_neg c0]
    by_cases c1 : q = (1 : Int32)
    · rw [if_pos c1, if_pos c1, rd_rn (by omega) (by omega) (by omega), Option.bind_some]
      exact ⟨R, _, rfl, rfl, hR⟩
    rw [if_neg c1, if_neg c1]
    by_cases c2 : q = (2 : Int32)
    · rw [if_pos c2, if_pos c2, rd_rn (by omega) (by omega) (by omega), Option.bind_some]
      exact ⟨R, _, rfl, rfl, hR⟩
    rw [if_neg c2, if_neg c2]
    by_cases c3 : q = (3 : Int32)
    · rw [if_pos c3, if_pos c3, s_X0_lackOf hu ht (by omega) (by omega), s_X5_lack (by omega) hu ht (by omega) (by omega), Option.bind_some]
      exact ⟨R, _, rfl, rfl, hR⟩
    rw [if_neg c3, if_neg c3]
    rw [m2, h2.1, h2.2, Option.bind_some]
    exact exr (incR_len.trans hR)
  · rw [g1, g2, Option.bind_some, Option.bind_some, if_pos rfl, if_pos rfl, m1, h1.1, h1.2, Option.bind_some]
    exact exr (incR_len.trans hR)
