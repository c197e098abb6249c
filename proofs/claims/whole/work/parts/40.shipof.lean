/-! SHIP OF -/
set_option maxRecDepth 20000 in
set_option maxHeartbeats 400000 in
theorem op_shipOf {u hd k f g l t i : Nat → Nat} {sh co d : Nat} {R : List Int32} {p q : Int32} (hE : OkE (u, hd, k, f, g, l)) (hsh : sh ≤ 7) (hX : OkX 1000 (t, i, co, d)) (hR : R.length = 7) : ∃ (R1 : List Int32) (r : Int32), X4_shipOf R (rn 6 t) (rn 6 u) (rn 6 hd) (rn 7 k) (rn 7 f) (rn 7 g) (rn 7 l) (iI sh) (iI (mk i : Int)) (iI co) (iI d) p q = some (R1, r) ∧ X5_shipOf R (rn 6 t) (rn 6 u) (rn 6 hd) (rn 7 k) (rn 7 f) (rn 7 g) (rn 7 l) (rn 7 i) (iI sh) (iI co) (iI d) (-9) p q = some (R1, r) ∧ R1.length = 7 := by
  have h1 := s_refuse (R := R) (c := 1) hR (by omega) (by omega)
  have h2 := s_refuse (R := R) (c := 2) hR (by omega) (by omega)
  have hd1 := xD hX
  unfold X4_shipOf X5_shipOf
  rw [f9]
  rcases ship_cases hsh p with ⟨s, hs, rfl, g1, g2⟩ | ⟨g1, g2⟩
  · rw [g1, g2, Option.bind_some, Option.bind_some, if_neg c10, if_neg c10]
    by_cases c0 : q = (0 : Int32)
    · rw [if_pos c0, if_pos c0, rd_rn (by omega) (by omega) (by omega), Option.bind_some]
      exact ⟨R, _, rfl, rfl, hR⟩
    rw [if_neg c0, if_neg c0]
    by_cases c1 : q = (1 : Int32)
    · rw [if_pos c1, if_pos c1, rd_rn (by omega) (by omega) (by omega), Option.bind_some]
      exact ⟨R, _, rfl, rfl, hR⟩
    rw [if_neg c1, if_neg c1]
    by_cases c2 : q = (2 : Int32)
    · rw [if_pos c2, if_pos c2, rd_rn (by omega) (by omega) (by omega), Option.bind_some]
      exact ⟨R, _, rfl, rfl, hR⟩
    rw [if_neg c2, if_neg c2]
    by_cases c3 : q = (3 : Int32)
    · rw [if_pos c3, if_pos c3, rd_rn (by omega) (by omega) (by omega), Option.bind_some]
      exact ⟨R, _, rfl, rfl, hR⟩
    rw [if_neg c3, if_neg c3]
    by_cases c4 : q = (4 : Int32)
    · rw [if_pos c4, if_pos c4, s_X0_isIn (xI hX) (by omega) (by omega), rd_rn (by omega) (by omega) (by omega), Option.bind_some, Option.bind_some, Int.toNat_natCast]
      rcases (by have := xI hX s; omega : i s = 0 ∨ i s = 1) with w | w
      · rw [w, if_pos (by decide)]
        exact ⟨R, 0, rfl, rfl, hR⟩
      · rw [w, if_neg (by decide)]
        exact ⟨R, 1, rfl, rfl, hR⟩
    rw [if_neg c4, if_neg c4]
    by_cases c5 : q = (5 : Int32)
    · rw [if_pos c5, if_pos c5, s_X0_draws (oK hE) (oF hE) (by omega) (by omega), s_X5_draws (oK hE) (oF hE) (by omega) (by omega), Option.bind_some]
      exact ⟨R, _, rfl, rfl, hR⟩
    rw [if_neg c5, if_neg c5]
    by_cases c6 : q = (6 : Int32)
    · rw [if_pos c6, if_pos c6, s_X0_sinks (oU hE) (xT hX) (oH hE) (oK hE) (oG hE) (xC hX) (by omega) (by omega), s_X5_sinks (by omega) (oU hE) (xT hX) (oH hE) (oK hE) (oG hE) (xC hX) (by omega) (by omega), Option.bind_some]
      exact ⟨R, _, rfl, rfl, hR⟩
    rw [if_neg c6, if_neg c6]
    by_cases c7 : q = (7 : Int32)
    · rw [if_pos c7, if_pos c7, s_X0_depth (oU hE) (xT hX) (oH hE) (oK hE) (oG hE) (xC hX) (by omega) (by omega) (by omega), s_X5_depth (by omega) (oU hE) (xT hX) (oH hE) (oK hE) (oG hE) (xC hX) (by omega) (by omega) (by omega), Option.bind_some]
      exact ⟨R, _, rfl, rfl, hR⟩
    rw [if_neg c7, if_neg c7]
    rw [m2, h2.1, h2.2, Option.bind_some]
    exact exr (incR_len.trans hR)
  · rw [g1, g2, Option.bind_some, Option.bind_some, if_pos rfl, if_pos rfl, m1, h1.1, h1.2, Option.bind_some]
    exact exr (incR_len.trans hR)
