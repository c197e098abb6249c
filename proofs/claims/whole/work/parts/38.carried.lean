/-! CARRIED -/
set_option maxRecDepth 20000 in
set_option maxHeartbeats 400000 in
theorem l_carried {k g l i : Nat → Nat} {sh c : Nat} {R : List Int32} (hk : ∀ j, k j ≤ 5) (hg : ∀ j, g j ≤ 5) (hl : ∀ j, l j ≤ 99) (hi : ∀ j, i j ≤ 1) (hsh : sh ≤ 7) (hc : c < 6) : ∀ (r s n : Nat) (x : Int32), s + r = sh → r < n → ∃ v, X4_carried_L17 (fun y2_7 => some (R, y2_7)) (rn 7 k) (rn 7 g) (rn 7 l) (iI sh) (iI (mk i : Int)) (iI (c : Int)) n x (iI (s : Int)) = some (R, v) ∧ X5_carried_L17 (fun y2_7 => some (R, y2_7)) (rn 7 k) (rn 7 g) (rn 7 l) (rn 7 i) (iI sh) (iI (c : Int)) n x (iI (s : Int)) = some (R, v) := by
  intro r
  induction r with
  | zero =>
    intro s n x hs hn
    obtain ⟨m, rfl⟩ : ∃ m, n = m + 1 := ⟨n - 1, by omega⟩
    have q : iI (sh : Int) ≤ iI (s : Int) := tle (by omega) (by omega) (by omega)
    rw [X4_carried_L17, X5_carried_L17, if_pos q, if_pos q]
    exact ⟨x, rfl, rfl⟩
  | succ r ih =>
    intro s n x hs hn
    obtain ⟨m, rfl⟩ : ∃ m, n = m + 1 := ⟨n - 1, by omega⟩
    have q : ¬ iI (sh : Int) ≤ iI (s : Int) := fle (by omega) (by omega) (by omega)
    rw [X4_carried_L17, X5_carried_L17, if_neg q, if_neg q, s_X0_isIn hi (by omega) (by omega), rd_rn (by omega) (by omega) (by omega), Option.bind_some, Option.bind_some, Int.toNat_natCast]
    by_cases c0 : iI (i s : Int) = (0 : Int32)
    · rw [if_pos c0, if_pos c0, s_X0_brings hk hg hl (by omega) (by omega) (by omega) (by omega), s_X5_brings hk hg hl (by omega) (by omega) (by omega) (by omega), Option.bind_some, Option.bind_some, iI_s s]
      exact ih (s + 1) m _ (by omega) (by omega)
    · rw [if_neg c0, if_neg c0, show x + 0 = x by simp, iI_s s]
      exact ih (s + 1) m _ (by omega) (by omega)
set_option maxRecDepth 20000 in
set_option maxHeartbeats 400000 in
theorem op_carried {k g l i : Nat → Nat} {sh : Nat} {R : List Int32} {p : Int32} (hk : ∀ j, k j ≤ 5) (hg : ∀ j, g j ≤ 5) (hl : ∀ j, l j ≤ 99) (hi : ∀ j, i j ≤ 1) (hsh : sh ≤ 7) (hR : R.length = 7) : ∃ (R1 : List Int32) (r : Int32), X4_carried R (rn 7 k) (rn 7 g) (rn 7 l) (iI sh) (iI (mk i : Int)) p = some (R1, r) ∧ X5_carried R (rn 7 k) (rn 7 g) (rn 7 l) (rn 7 i) (iI sh) p = some (R1, r) ∧ R1.length = 7 := by
  have h1 := s_refuse (R := R) (c := 1) hR (by omega) (by omega)
  unfold X4_carried X5_carried
  rcases good_cases p with ⟨a, ha, rfl, e1, e2⟩ | ⟨e1, e2⟩
  · rw [e1, e2, Option.bind_some, Option.bind_some, if_neg c10, if_neg c10]
    obtain ⟨v, q1, q2⟩ := l_carried (R := R) hk hg hl hi hsh ha sh 0 1000 0 (by omega) (by omega)
    rw [show iI ((0 : Nat) : Int) = (0 : Int32) by decide] at q1 q2
    exact ⟨R, v, q1, q2, hR⟩
  · rw [e1, e2, Option.bind_some, Option.bind_some, if_pos rfl, if_pos rfl, m1, h1.1, h1.2, Option.bind_some]
    exact exr (incR_len.trans hR)
