/-! arguments, and what is refused -/
set_option maxRecDepth 20000 in
set_option maxHeartbeats 400000 in
theorem ship_cases {sh : Nat} (hsh : sh ≤ 7) (p : Int32) : (∃ s, s < sh ∧ p = iI (s : Nat) ∧ X0_isShip (iI sh) p = some 1 ∧ X5_isShip (iI sh) p = some 1) ∨ (X0_isShip (iI sh) p = some 0 ∧ X5_isShip (iI sh) p = some 0) := by
  have hb1 := Int32.le_toInt p
  have hb2 := Int32.toInt_lt p
  have e : p = iI p.toInt := (iI_of p).symm
  generalize p.toInt = a at *
  subst e
  unfold X0_isShip X5_isShip
  rw [L0, L7]
  by_cases h0 : a < 0
  · right
    rw [if_pos (tlt h0 (by omega) (by omega)), if_pos (tlt h0 (by omega) (by omega))]
    exact ⟨rfl, rfl⟩
  · rw [if_neg (flt (by omega) (by omega) (by omega)), if_neg (flt (by omega) (by omega) (by omega))]
    by_cases h1 : (sh : Int) ≤ a
    · right
      rw [if_pos (tle h1 (by omega) (by omega)), if_pos (tle h1 (by omega) (by omega))]
      exact ⟨rfl, rfl⟩
    · left
      rw [if_neg (fle (by omega) (by omega) (by omega)), if_neg (fle (by omega) (by omega) (by omega)), if_neg (fle (by omega) (by omega) (by omega))]
      exact ⟨a.toNat, by omega, iI_c (by omega), rfl, rfl⟩
set_option maxRecDepth 20000 in
set_option maxHeartbeats 400000 in
theorem good_cases (p : Int32) : (∃ a, a < 6 ∧ p = iI (a : Nat) ∧ X4_isGood p = some 1 ∧ X5_isGood p = some 1) ∨ (X4_isGood p = some 0 ∧ X5_isGood p = some 0) := by
  have hb1 := Int32.le_toInt p
  have hb2 := Int32.toInt_lt p
  have e : p = iI p.toInt := (iI_of p).symm
  generalize p.toInt = a at *
  subst e
  unfold X4_isGood X5_isGood
  rw [L0, L6]
  by_cases h0 : a < 0
  · right
    rw [if_pos (tlt h0 (by omega) (by omega))]
    exact ⟨rfl, rfl⟩
  · rw [if_neg (flt (by omega) (by omega) (by omega))]
    by_cases h1 : 6 ≤ a
    · right
      rw [if_pos (tle h1 (by omega) (by omega))]
      exact ⟨rfl, rfl⟩
    · left
      rw [if_neg (fle (by omega) (by omega) (by omega))]
      exact ⟨a.toNat, by omega, iI_c (by omega), rfl, rfl⟩
set_option maxRecDepth 20000 in
set_option maxHeartbeats 400000 in
theorem fit_cases {lo hi : Nat} (hl : lo ≤ 100000) (hh : hi ≤ 100000) (p : Int32) : (∃ n, lo ≤ n ∧ n ≤ hi ∧ p = iI (n : Nat) ∧ X4_misfit p (iI lo) (iI hi) = some 0 ∧ X5_bound p (iI lo) (iI hi) = some 0) ∨ (X4_misfit p (iI lo) (iI hi) = some (-4) ∧ X5_bound p (iI lo) (iI hi) = some (-4)) ∨ (X4_misfit p (iI lo) (iI hi) = some (-6) ∧ X5_bound p (iI lo) (iI hi) = some (-6)) := by
  have hb1 := Int32.le_toInt p
  have hb2 := Int32.toInt_lt p
  have e : p = iI p.toInt := (iI_of p).symm
  generalize p.toInt = a at *
  subst e
  unfold X4_misfit X5_bound
  by_cases h0 : (lo : Int) ≤ a
  · rw [if_pos (tle h0 (by omega) (by omega))]
    by_cases h1 : a ≤ (hi : Int)
    · rw [if_pos (tle h1 (by omega) (by omega))]
      exact Or.inl ⟨a.toNat, by omega, by omega, iI_c (by omega), rfl, rfl⟩
    · rw [if_neg (fle (by omega) (by omega) (by omega))]
      exact Or.inr (Or.inr ⟨rfl, rfl⟩)
  · rw [if_neg (fle (by omega) (by omega) (by omega))]
    exact Or.inr (Or.inl ⟨rfl, rfl⟩)
/-- one more of REFUSAL c -/
def incR (R : List Int32) (c : Nat) : List Int32 := R.set c (R.getD c 0 + 1)
set_option maxRecDepth 20000 in
set_option maxHeartbeats 400000 in
theorem incR_len {R : List Int32} {c : Nat} : (incR R c).length = R.length := List.length_set ..
set_option maxRecDepth 20000 in
set_option maxHeartbeats 400000 in
theorem rdL {R : List Int32} {c : Nat} (h : c < R.length) (hl : R.length < 2147483648) : rd R (iI (c : Int)) = some (R.getD c 0) := by
  unfold rd
  rw [iI_nat (by omega) (by omega), if_pos ⟨by rw [L0]; exact tle (by omega) (by omega) (by omega), by omega⟩]
  rfl
set_option maxRecDepth 20000 in
set_option maxHeartbeats 400000 in
theorem wrL {R : List Int32} {c : Nat} {x : Int32} (h : c < R.length) (hl : R.length < 2147483648) : wr R (iI (c : Int)) x = some (R.set c x) := by
  unfold wr
  rw [iI_nat (by omega) (by omega), if_pos ⟨by rw [L0]; exact tle (by omega) (by omega) (by omega), by omega⟩]
  rfl
set_option maxRecDepth 20000 in
set_option maxHeartbeats 400000 in
theorem s_refuse {R : List Int32} {c : Nat} (hR : R.length = 7) (h0 : 0 < c) (h1 : c < 7) : X4_refuse R (iI (-(c : Int))) = some (incR R c, iI (-(c : Int))) ∧ X5_no R (iI (-(c : Int))) = some (incR R c, iI (-(c : Int))) := by
  constructor
  · unfold X4_refuse
    rw [iI_neg, show (-(-(c : Int))) = (c : Int) by omega, L0, hR, iI_len, if_neg (fle (by omega) (by omega) (by omega)), if_neg (fle (by omega) (by omega) (by omega)), rdL (by omega) (by omega), Option.bind_some, wrL (by omega) (by omega), Option.bind_some]
    rfl
  · unfold X5_no
    rw [iI_neg, show (-(-(c : Int))) = (c : Int) by omega, rdL (by omega) (by omega), Option.bind_some, wrL (by omega) (by omega), Option.bind_some]
    rfl
