/-! EMPTY -/
set_option maxRecDepth 20000 in
set_option maxHeartbeats 400000 in
theorem l_empty {u hd k f g l t i : Nat → Nat} {sh co d : Nat} (hE : OkE (u, hd, k, f, g, l)) (hsh : sh ≤ 7) (hX : OkX 1000 (t, i, co, d)) : ∀ (r s n : Nat) (x : Int32), s + r = sh → r < n → ∃ v, X4_empty_L4 (fun y1_3 => some y1_3) (rn 6 t) (rn 6 u) (rn 6 hd) (rn 7 k) (rn 7 g) (iI sh) (iI co) n x (iI (s : Int)) = some v ∧ X5_empty_L4 (fun y1_3 => some y1_3) (rn 6 t) (rn 6 u) (rn 6 hd) (rn 7 k) (rn 7 g) (iI sh) (iI co) (iI (fI 6)) n x (iI (s : Int)) = some v := by
  intro r
  induction r with
  | zero =>
    intro s n x hs hn
    obtain ⟨m, rfl⟩ : ∃ m, n = m + 1 := ⟨n - 1, by omega⟩
    have q : iI (sh : Int) ≤ iI (s : Int) := tle (by omega) (by omega) (by omega)
    rw [X4_empty_L4, X5_empty_L4, if_pos q, if_pos q]
    exact ⟨x, rfl, rfl⟩
  | succ r ih =>
    intro s n x hs hn
    obtain ⟨m, rfl⟩ : ∃ m, n = m + 1 := ⟨n - 1, by omega⟩
    have q : ¬ iI (sh : Int) ≤ iI (s : Int) := fle (by omega) (by omega) (by omega)
    rw [X4_empty_L4, X5_empty_L4, if_neg q, if_neg q, s_X0_sinks (oU hE) (xT hX) (oH hE) (oK hE) (oG hE) (xC hX) (by omega) (by omega), s_X5_sinks (by omega) (oU hE) (xT hX) (oH hE) (oK hE) (oG hE) (xC hX) (by omega) (by omega), Option.bind_some, Option.bind_some, Int.toNat_natCast, iI_s s]
    by_cases c : iI ((sk (lk 6 u t) hd co (k s) (g s) : Nat) : Int) = (0 : Int32)
    · rw [if_pos c, if_pos c]
      exact ih (s + 1) m _ (by omega) (by omega)
    · rw [if_neg c, if_neg c, show x ||| 0 = x by simp]
      exact ih (s + 1) m _ (by omega) (by omega)
set_option maxRecDepth 20000 in
set_option maxHeartbeats 400000 in
theorem op_empty {u hd k f g l t i : Nat → Nat} {sh co d : Nat} (hE : OkE (u, hd, k, f, g, l)) (hsh : sh ≤ 7) (hX : OkX 1000 (t, i, co, d)) : ∃ v, X4_empty (rn 6 t) (rn 6 u) (rn 6 hd) (rn 7 k) (rn 7 g) (iI sh) (iI co) = some v ∧ X5_empty (rn 6 t) (rn 6 u) (rn 6 hd) (rn 7 k) (rn 7 g) (iI sh) (iI co) (-9) = some v := by
  unfold X4_empty X5_empty
  rw [f9]
  have h := l_empty hE hsh hX sh 0 1000 0 (by omega) (by omega)
  rw [show iI ((0 : Nat) : Int) = (0 : Int32) by decide] at h
  exact h
