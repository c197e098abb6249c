/-! HIDDEN -/
set_option maxRecDepth 20000 in
set_option maxHeartbeats 400000 in
theorem l_hidden {hd : Nat → Nat} : ∀ (r s n : Nat) (x : Int32), s + r = 6 → r < n → ∃ v, X4_hidden_L4 (fun y1_3 => some y1_3) (rn 6 hd) n x (iI (s : Int)) = some v ∧ X5_hidden_L4 (fun y1_3 => some y1_3) (rn 6 hd) n x (iI (s : Int)) = some v := by
  intro r
  induction r with
  | zero =>
    intro s n x hs hn
    obtain ⟨m, rfl⟩ : ∃ m, n = m + 1 := ⟨n - 1, by omega⟩
    have q : (6 : Int32) ≤ iI (s : Int) := by rw [L6]; exact tle (by omega) (by omega) (by omega)
    rw [X4_hidden_L4, X5_hidden_L4, if_pos q]
    exact ⟨x, rfl, by rw [if_pos q]⟩
  | succ r ih =>
    intro s n x hs hn
    obtain ⟨m, rfl⟩ : ∃ m, n = m + 1 := ⟨n - 1, by omega⟩
    have q : ¬ (6 : Int32) ≤ iI (s : Int) := by rw [L6]; exact fle (by omega) (by omega) (by omega)
    rw [X4_hidden_L4, X5_hidden_L4, if_neg q, if_neg q, rd_rn (by omega) (by omega) (by omega), Option.bind_some, Option.bind_some, iI_s s]
    exact ih (s + 1) m _ (by omega) (by omega)
set_option maxRecDepth 20000 in
set_option maxHeartbeats 400000 in
theorem op_hidden {hd : Nat → Nat} : ∃ v, X4_hidden (rn 6 hd) = some v ∧ X5_hidden (rn 6 hd) = some v := by
  unfold X4_hidden X5_hidden
  have h := l_hidden (hd := hd) 6 0 1000 0 (by omega) (by omega)
  rw [show iI ((0 : Nat) : Int) = (0 : Int32) by decide] at h
  exact h
