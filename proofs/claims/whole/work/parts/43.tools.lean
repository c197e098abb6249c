/-! tools for the operations behind *)-/
set_option maxRecDepth 20000 in
set_option maxHeartbeats 400000 in
theorem e9 : iI (-9) = (-9 : Int32) := by decide
set_option maxRecDepth 20000 in
set_option maxHeartbeats 400000 in
theorem n9 {r : Int} (h : 0 ≤ r) (h2 : r ≤ 100000) : ¬ iI r = (-9 : Int32) := by rw [← e9]; exact feq (by omega) (by omega) (by omega) (by omega) (by omega)
set_option maxRecDepth 20000 in
set_option maxHeartbeats 400000 in
theorem p9 {r : Int} (h : 0 ≤ r) (h2 : r ≤ 100000) : (0 : Int32) ≤ iI r := by rw [L0]; exact tle (by omega) (by omega) (by omega)
set_option maxRecDepth 20000 in
set_option maxHeartbeats 400000 in
theorem m9 {r : Int} (h : 0 ≤ r) (h2 : r ≤ 100000) : ¬ iI r < (0 : Int32) := by rw [L0]; exact flt (by omega) (by omega) (by omega)
set_option maxRecDepth 20000 in
set_option maxHeartbeats 400000 in
theorem nz9 : ¬ (0 : Int32) ≤ (-9 : Int32) := by decide
set_option maxRecDepth 20000 in
set_option maxHeartbeats 400000 in
theorem nl9 : (-9 : Int32) < (0 : Int32) := by decide
set_option maxRecDepth 20000 in
set_option maxHeartbeats 400000 in
theorem z00 : iI ((0 : Nat) : Int) = (0 : Int32) := by decide
set_option maxRecDepth 20000 in
set_option maxHeartbeats 400000 in
theorem z11 : iI ((1 : Nat) : Int) = (1 : Int32) := by decide
set_option maxRecDepth 20000 in
set_option maxHeartbeats 400000 in
theorem ne0 {r : Int} (h : 1 ≤ r) (h2 : r ≤ 100000) : ¬ iI r = (0 : Int32) := by rw [L0]; exact feq (by omega) (by omega) (by omega) (by omega) (by omega)
set_option maxRecDepth 20000 in
set_option maxHeartbeats 400000 in
theorem exr2 {R : List Int32} {v w : Int32} (e : v = w) (h : R.length = 7) : ∃ (R1 : List Int32) (r : Int32), some (R, v) = some (R1, r) ∧ some (R, w) = some (R1, r) ∧ R1.length = 7 := ⟨R, v, rfl, by rw [e], h⟩
set_option maxRecDepth 20000 in
set_option maxHeartbeats 400000 in
theorem s_isIn {a lo hi : Int} (h1 : -2147483648 ≤ a) (h2 : a < 2147483648) (h3 : -2147483648 ≤ lo) (h4 : lo < 2147483648) (h5 : -2147483648 ≤ hi) (h6 : hi < 2147483648) : X5_isIn (iI a) (iI lo) (iI hi) = some (if lo ≤ a ∧ a ≤ hi then 1 else 0) := by
  unfold X5_isIn
  by_cases b1 : a < lo
  · rw [if_pos (tlt b1 h1 h4), if_neg (by omega)]
  · rw [if_neg (flt (by omega) h3 h2)]
    by_cases b2 : hi < a
    · rw [if_pos (tlt b2 h5 h2), if_neg (by omega)]
    · rw [if_neg (flt (by omega) h1 h6), if_pos (by omega)]
/-! COUNT -/
set_option maxRecDepth 20000 in
set_option maxHeartbeats 400000 in
theorem op_count {t u i : Nat → Nat} {sh : Nat} {R : List Int32} {co d tl ll bk p : Int32} (ht : ∀ j, t j ≤ 99) (hu : ∀ j, u j ≤ 9) (hi : ∀ j, i j ≤ 1) (hsh : sh ≤ 7) (hO : OutI sh i) (hR : R.length = 7) : ∃ r : Int32, X4_count R (rn 6 t) (rn 6 u) tl ll (iI sh) (iI (mk i : Int)) co d bk p = some r ∧ X5_count R (rn 6 t) (rn 6 u) (rn 7 i) (iI sh) co d ll bk (-9) tl p = some r := by
  have hb1 := Int32.le_toInt p
  have hb2 := Int32.toInt_lt p
  have e : p = iI p.toInt := (iI_of p).symm
  generalize p.toInt = a at *
  subst e
  have z11 : (11 : Int32) = iI 11 := by decide
  have z16 : (16 : Int32) = iI 16 := by decide
  have zR : Int32.ofNat R.length = iI 7 := by rw [hR]; decide
  unfold X4_count X5_count
  rw [f9, z11, z16, s_isIn hb1 hb2 (by omega) (by omega) (by omega) (by omega), Option.bind_some]
  by_cases b1 : 11 ≤ a ∧ a ≤ 16
  · have q : ∀ b : Int, 0 ≤ b → b ≤ 7 → ¬ iI a = iI b := fun b h1 h2 => feq (by omega) (by omega) (by omega) (by omega) (by omega)
    have q0 : ¬ iI a = (0 : Int32) := q 0 (by omega) (by omega)
    have q1 : ¬ iI a = (1 : Int32) := q 1 (by omega) (by omega)
    have q2 : ¬ iI a = (2 : Int32) := q 2 (by omega) (by omega)
    have q3 : ¬ iI a = (3 : Int32) := q 3 (by omega) (by omega)
    have q4 : ¬ iI a = (4 : Int32) := q 4 (by omega) (by omega)
    have q5 : ¬ iI a = (5 : Int32) := q 5 (by omega) (by omega)
    have q6 : ¬ iI a = (6 : Int32) := q 6 (by omega) (by omega)
    have q7 : ¬ iI a = (7 : Int32) := q 7 (by omega) (by omega)
    rw [if_pos b1, if_neg c10, if_neg q0, if_neg q1, if_neg q2, if_neg q3, if_neg q4, if_neg q5, if_neg q6, if_neg q7, L10, if_neg (fle (by omega) (by omega) (by omega)), iI_sub, zR, if_neg (fle (by omega) (by omega) (by omega)), show iI (a - 10) = iI (((a - 10).toNat : Nat) : Int) from iI_c (by omega), rdL (by omega) (by omega), Option.bind_some]
    exact ⟨_, rfl, rfl⟩
  · rw [if_neg b1, if_pos rfl]
    by_cases c0 : iI a = (0 : Int32)
    · rw [if_pos c0, if_pos c0]
      exact ⟨_, rfl, rfl⟩
    rw [if_neg c0, if_neg c0]
    by_cases c1 : iI a = (1 : Int32)
    · rw [if_pos c1, if_pos c1]
      exact ⟨_, rfl, rfl⟩
    rw [if_neg c1, if_neg c1]
    by_cases c2 : iI a = (2 : Int32)
    · rw [if_pos c2, if_pos c2]
      exact ⟨_, rfl, rfl⟩
    rw [if_neg c2, if_neg c2]
    by_cases c3 : iI a = (3 : Int32)
    · rw [if_pos c3, if_pos c3, s_X5_inOnes hsh hi hO, Option.bind_some]
      exact ⟨_, rfl, rfl⟩
    rw [if_neg c3, if_neg c3]
    by_cases c4 : iI a = (4 : Int32)
    · rw [if_pos c4, if_pos c4, s_X0_lackOfAll hu ht, Option.bind_some, s_X5_allLack (by omega) hu ht, Option.bind_some]
      exact ⟨_, rfl, rfl⟩
    rw [if_neg c4, if_neg c4]
    by_cases c5 : iI a = (5 : Int32)
    · rw [if_pos c5, if_pos c5, X1_length, Option.bind_some]
      exact ⟨_, rfl, rfl⟩
    rw [if_neg c5, if_neg c5]
    by_cases c6 : iI a = (6 : Int32)
    · rw [if_pos c6, if_pos c6, X1_length, Option.bind_some]
      exact ⟨_, rfl, rfl⟩
    rw [if_neg c6, if_neg c6]
    by_cases c7 : iI a = (7 : Int32)
    · rw [if_pos c7, if_pos c7, X2_held, Option.bind_some]
      exact ⟨_, rfl, rfl⟩
    rw [if_neg c7, if_neg c7, L10]
    by_cases d1 : a ≤ 10
    · rw [if_pos (tle d1 (by omega) (by omega))]
      exact ⟨_, rfl, rfl⟩
    · rw [if_neg (fle (by omega) (by omega) (by omega)), iI_sub, zR, if_pos (tle (by omega) (by omega) (by omega))]
      exact ⟨_, rfl, rfl⟩
/-! LASTS -/
set_option maxRecDepth 20000 in
set_option maxHeartbeats 400000 in
theorem op_lasts {t u : Nat → Nat} {R : List Int32} {p : Int32} (ht : ∀ j, t j ≤ 99) (hu : ∀ j, u j ≤ 9) (hR : R.length = 7) : ∃ (R1 : List Int32) (r : Int32), X4_lasts R (rn 6 t) (rn 6 u) p = some (R1, r) ∧ X5_lasts R (rn 6 t) (rn 6 u) p = some (R1, r) ∧ R1.length = 7 := by
  have h1 := s_refuse (R := R) (c := 1) hR (by omega) (by omega)
  unfold X4_lasts X5_lasts
  rcases good_cases p with ⟨a, ha, rfl, g1, g2⟩ | ⟨g1, g2⟩
  · have b1 := ht a
    have b2 := hu a
    rw [g1, g2, Option.bind_some, Option.bind_some, if_neg c10, if_neg c10]
    by_cases c : u a = 0
    · simp (disch := omega) only [L0, L1, L2, L3, L4, L5, L6, L7, L8, L9, L10, L12, L16, L20, L31, L40, L48, L56, L57, L59, L60, L63, L96, L98, L99, L100, L101, L103, L104, L111, L115, L116, L117, L127, L168, L192, L255, L560, L616, L999, L1000, L2000, iI_add, iI_sub, iI_mul, iI_neg, iI_lt, iI_le, iI_eq, rd_rn, wr_rn, rd_rq, wr_rq, Option.bind_some, not_false_eq_true, not_true_eq_false, ↓reduceIte, leT, leF, ltT, ltF, eqT, eqF, Int.toNat_natCast, Int.reduceAdd, Int.reduceSub, Int.reduceMul, Int.reduceToNat]
      exact exr2 rfl hR
    · have q1 : 0 ≤ ((t a : Int) + (u a : Int) - 1) / (u a : Int) := Int.ediv_nonneg (by omega) (by omega)
      have q2 : ((t a : Int) + (u a : Int) - 1) / (u a : Int) ≤ (t a : Int) + (u a : Int) - 1 := Int.ediv_le_self _ (by omega)
      simp (disch := omega) only [L0, L1, L2, L3, L4, L5, L6, L7, L8, L9, L10, L12, L16, L20, L31, L40, L48, L56, L57, L59, L60, L63, L96, L98, L99, L100, L101, L103, L104, L111, L115, L116, L117, L127, L168, L192, L255, L560, L616, L999, L1000, L2000, iI_add, iI_sub, iI_mul, iI_neg, iI_lt, iI_le, iI_eq, rd_rn, wr_rn, rd_rq, wr_rq, Option.bind_some, not_false_eq_true, not_true_eq_false, ↓reduceIte, leT, leF, ltT, ltF, eqT, eqF, Int.toNat_natCast, Int.reduceAdd, Int.reduceSub, Int.reduceMul, Int.reduceToNat, iI_div, mmin_iI, s_X5_held]
      exact exr2 (iI_c (by omega)) hR
  · rw [g1, g2, Option.bind_some, Option.bind_some, if_pos rfl, if_pos rfl, m1, h1.1, h1.2, Option.bind_some]
    exact exr (incR_len.trans hR)
/-! the ROW -/
set_option maxRecDepth 20000 in
set_option maxHeartbeats 400000 in
theorem op_row {R : List Int32} {G : Nat → Int32} {n : Nat} {p : Int32} (hn : n ≤ 12) (hR : R.length = 7) : ∃ (R1 : List Int32) (G1 : Nat → Int32) (n1 : Nat) (r : Int32), X4_row R (rq 12 G) (iI n) p = some (R1, rq 12 G1, iI n1, r) ∧ X5_row R (rq 12 G) (iI n) p = some (R1, rq 12 G1, iI n1, r) ∧ n1 ≤ 12 ∧ R1.length = 7 := by
  have h4 := s_refuse (R := R) (c := 4) hR (by omega) (by omega)
  have h6 := s_refuse (R := R) (c := 6) hR (by omega) (by omega)
  have n99 : (99 : Int32) = iI ((99 : Nat) : Int) := by decide
  have n12 : (12 : Int32) = iI ((12 : Nat) : Int) := by decide
  unfold X4_row X5_row
  rw [n0, n99]
  rcases fit_cases (lo := 0) (hi := 99) (by omega) (by omega) p with ⟨v, -, hv, rfl, e1, e2⟩ | ⟨e1, e2⟩ | ⟨e1, e2⟩
  · rw [e1, e2, Option.bind_some, Option.bind_some, if_pos (by decide), if_pos (by decide), X1_isFull, rq_len, iI_len, n12]
    by_cases c : n = 12
    · subst c
      rw [if_neg (flt (by omega) (by omega) (by omega)), Option.bind_some, if_neg (by decide), if_pos rfl, m6, h6.1, h6.2, Option.bind_some]
      exact ⟨_, G, 12, _, rfl, rfl, by omega, incR_len.trans hR⟩
    · rw [if_pos (tlt (by omega) (by omega) (by omega)), Option.bind_some, if_pos (by decide), if_neg (feq (by omega) (by omega) (by omega) (by omega) (by omega)), if_pos (by decide), X1_add, L0, if_neg (flt (by omega) (by omega) (by omega)), rq_len, iI_len, if_neg (fle (by omega) (by omega) (by omega)), wr_rq (by omega) (by omega) (by omega), Option.bind_some, Option.bind_some, Option.bind_some, X1_length, Option.bind_some, iI_s]
      exact ⟨R, _, n + 1, _, rfl, rfl, by omega, hR⟩
  · rw [e1, e2, Option.bind_some, Option.bind_some, if_neg (by decide), if_neg (by decide), if_neg (by decide), m4, h4.1, h4.2, Option.bind_some]
    exact ⟨_, G, n, _, rfl, rfl, hn, incR_len.trans hR⟩
  · rw [e1, e2, Option.bind_some, Option.bind_some, if_neg (by decide), if_neg (by decide), if_neg (by decide), m6, h6.1, h6.2, Option.bind_some]
    exact ⟨_, G, n, _, rfl, rfl, hn, incR_len.trans hR⟩
