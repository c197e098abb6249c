/-! NEXT TIDE -/
set_option maxRecDepth 20000 in
set_option maxHeartbeats 400000 in
theorem td_reach {d p : Nat} (hp : p ≤ 4) (h : ∀ j, j < 7 → td (d + j) < p) : p ≤ td (d + 7) := by
  have q : td (d + (12 - d % 8) % 8) = 4 := by
    unfold td
    rw [if_neg (by omega)]
    omega
  by_cases c : (12 - d % 8) % 8 < 7
  · have := h _ c
    omega
  · rw [show (12 - d % 8) % 8 = 7 by omega] at q
    omega
set_option maxRecDepth 20000 in
set_option maxHeartbeats 400000 in
theorem l_nextTide {R : List Int32} {d p : Nat} (hd : d ≤ 1000) (hp : p ≤ 4) : ∀ (r s n : Nat), s + r = 7 → r < n → (∀ j, j < s → td (d + j) < p) → ∃ v, X4_nextTide_L19 (fun y3_5 => some (R, y3_5)) (iI (d : Int)) (iI (p : Int)) n (iI (s : Int)) = some (R, v) ∧ X5_nextTide_L19 (fun y3_5 => some (R, y3_5)) (iI (d : Int)) (iI (p : Int)) n (iI (s : Int)) = some (R, v) := by
  intro r
  induction r with
  | zero =>
    intro s n hs hn h
    obtain ⟨m, rfl⟩ : ∃ m, n = m + 1 := ⟨n - 1, by omega⟩
    obtain rfl : s = 7 := by omega
    have q : (7 : Int32) ≤ iI ((7 : Nat) : Int) := by decide
    have w := td_reach hp h
    rw [X4_nextTide_L19, X5_nextTide_L19, if_pos q, iI_add, s_X5_tideOf (by omega) (by omega), Option.bind_some, show ((d : Int) + ((7 : Nat) : Int)).toNat = d + 7 by omega, if_pos (tle (by omega) (by omega) (by unfold td; split <;> omega))]
    exact ⟨_, rfl, rfl⟩
  | succ r ih =>
    intro s n hs hn h
    obtain ⟨m, rfl⟩ : ∃ m, n = m + 1 := ⟨n - 1, by omega⟩
    have q : ¬ (7 : Int32) ≤ iI (s : Int) := by rw [L7]; exact fle (by omega) (by omega) (by omega)
    have b : td (d + s) ≤ 4 := by unfold td; split <;> omega
    rw [X4_nextTide_L19, X5_nextTide_L19, if_neg q, iI_add, s_X4_tideOf (by omega) (by omega), s_X5_tideOf (by omega) (by omega), Option.bind_some, Option.bind_some, show ((d : Int) + (s : Int)).toNat = d + s by omega]
    by_cases c : p ≤ td (d + s)
    · have c1 : iI (p : Int) ≤ iI (td (d + s) : Int) := tle (by omega) (by omega) (by omega)
      rw [if_pos c1, if_pos c1]
      exact ⟨_, rfl, rfl⟩
    · have c1 : ¬ iI (p : Int) ≤ iI (td (d + s) : Int) := fle (by omega) (by omega) (by omega)
      rw [if_neg c1, if_neg c1, iI_s s]
      exact ih (s + 1) m (by omega) (by omega) (fun j hj => by
        by_cases e : j = s
        · rw [e]; omega
        · exact h j (by omega))
set_option maxRecDepth 20000 in
set_option maxHeartbeats 400000 in
theorem n4 : (4 : Int32) = iI ((4 : Nat) : Int) := by decide
set_option maxRecDepth 20000 in
set_option maxHeartbeats 400000 in
theorem op_nextTide {R : List Int32} {d : Nat} {p : Int32} (hd : d ≤ 1000) (hR : R.length = 7) : ∃ (R1 : List Int32) (r : Int32), X4_nextTide R (iI d) p = some (R1, r) ∧ X5_nextTide R (iI d) p = some (R1, r) ∧ R1.length = 7 := by
  have h4 := s_refuse (R := R) (c := 4) hR (by omega) (by omega)
  have h6 := s_refuse (R := R) (c := 6) hR (by omega) (by omega)
  unfold X4_nextTide X5_nextTide
  rw [n0, n4]
  rcases fit_cases (lo := 0) (hi := 4) (by omega) (by omega) p with ⟨n, -, hn, rfl, e1, e2⟩ | ⟨e1, e2⟩ | ⟨e1, e2⟩
  · rw [e1, e2, Option.bind_some, Option.bind_some, if_pos (by decide), if_pos (by decide)]
    obtain ⟨v, q1, q2⟩ := l_nextTide (R := R) hd hn 7 0 1000 (by omega) (by omega) (fun j hj => absurd hj (by omega))
    exact ⟨R, v, q1, q2, hR⟩
  · rw [e1, e2, Option.bind_some, Option.bind_some, if_neg (by decide), if_neg (by decide), m4, h4.1, h4.2, Option.bind_some]
    exact exr (incR_len.trans hR)
  · rw [e1, e2, Option.bind_some, Option.bind_some, if_neg (by decide), if_neg (by decide), m6, h6.1, h6.2, Option.bind_some]
    exact exr (incR_len.trans hR)
