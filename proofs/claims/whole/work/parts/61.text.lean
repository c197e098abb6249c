/-! letters: a HARBOUR told -/
/-- the letter at a place; -1 where there is none -/
def aT (T : Nat → Nat) (n p : Nat) : Int := if p < n then (T p : Int) else -1
def szI (c : Int) : Nat := if c = 99 then 4 else if c = 100 then 4 else if c = 104 then 5 else if c = 111 then 3 else if c = 115 then 7 else if c = 116 then 5 else if c = 117 then 4 else 0
def dgI (c : Int) : Int := if 48 ≤ c ∧ c ≤ 57 then c - 48 else -1
def dT (T : Nat → Nat) (n p : Nat) : Int := dgI (aT T n p)
/-- the first from p on, r of them, that is no digit; -1 -/
def fd (T : Nat → Nat) (n : Nat) : Nat → Nat → Int
  | 0, _ => -1
  | r + 1, p => if 0 ≤ dT T n p then fd T n r (p + 1) else (p : Int)
/-- where the statement that begins at p is wrong; -1 -/
def flt1 (T : Nat → Nat) (n p : Nat) : Int := if szI (aT T n p) = 0 then (p : Int) else if fd T n (szI (aT T n p) - 2) (p + 1) < 0 then (if aT T n (p + szI (aT T n p) - 1) = 59 then -1 else ((p + szI (aT T n p) - 1 : Nat) : Int)) else fd T n (szI (aT T n p) - 2) (p + 1)
set_option maxRecDepth 20000 in
set_option maxHeartbeats 400000 in
theorem aT_b {T : Nat → Nat} {n p : Nat} (hT : ∀ j, T j ≤ 255) : -1 ≤ aT T n p ∧ aT T n p ≤ 255 := by
  have := hT p
  unfold aT
  split <;> omega
set_option maxRecDepth 20000 in
set_option maxHeartbeats 400000 in
theorem szI_b {c : Int} : szI c = 0 ∨ (3 ≤ szI c ∧ szI c ≤ 7) := by
  unfold szI
  repeat' split
  all_goals omega
set_option maxRecDepth 20000 in
set_option maxHeartbeats 400000 in
theorem dT_b {T : Nat → Nat} {n p : Nat} : -1 ≤ dT T n p ∧ dT T n p ≤ 9 := by
  unfold dT dgI
  split <;> omega
set_option maxRecDepth 20000 in
set_option maxHeartbeats 400000 in
theorem fd_b {T : Nat → Nat} {n : Nat} : ∀ r p : Nat, fd T n r p = -1 ∨ ((p : Int) ≤ fd T n r p ∧ fd T n r p < ((p + r : Nat) : Int)) := by
  intro r
  induction r with
  | zero => intro p; exact Or.inl rfl
  | succ r ih =>
    intro p
    unfold fd
    by_cases c : 0 ≤ dT T n p
    · rw [if_pos c]
      have := ih (p + 1)
      omega
    · rw [if_neg c]
      exact Or.inr (by omega)
set_option maxRecDepth 20000 in
set_option maxHeartbeats 400000 in
theorem nm1 : (-1 : Int32) = iI (-1) := by decide
set_option maxRecDepth 20000 in
set_option maxHeartbeats 400000 in
theorem s_at {T : Nat → Nat} {n p : Nat} (hn : n ≤ 96) (hp : p ≤ 1000) : X1_at (rn 96 T) (iI n) (iI (p : Int)) = some (iI (aT T n p)) := by
  unfold X1_at aT
  rw [rn_len, iI_len, L0, if_neg (flt (by omega) (by omega) (by omega))]
  by_cases c : p < n
  · rw [if_neg (fle (by omega) (by omega) (by omega)), if_neg (fle (by omega) (by omega) (by omega)), rd_rn (by omega) (by omega) (by omega), Option.bind_some, Int.toNat_natCast, if_pos c]
  · rw [if_pos (tle (by omega) (by omega) (by omega)), if_neg c, nm1]
set_option maxRecDepth 20000 in
set_option maxHeartbeats 400000 in
theorem s_next {T : Nat → Nat} {n p : Nat} (hn : n ≤ 96) (hp : p ≤ 1000) : X5_next (rn 96 T) (iI n) (iI (p : Int)) = some (iI (aT T n p)) := by
  unfold X5_next aT
  by_cases c : p < n
  · rw [if_neg (fle (by omega) (by omega) (by omega)), rd_rn (by omega) (by omega) (by omega), Option.bind_some, Int.toNat_natCast, if_pos c]
  · rw [if_pos (tle (by omega) (by omega) (by omega)), if_neg c, nm1]
set_option maxRecDepth 20000 in
set_option maxHeartbeats 400000 in
theorem s_sizeOf {c : Int} (h1 : -1 ≤ c) (h2 : c ≤ 255) : X3_sizeOf (iI c) = some (iI (szI c : Int)) := by
  by_cases e1 : c = 99
  · subst e1; decide
  by_cases e2 : c = 100
  · subst e2; decide
  by_cases e3 : c = 104
  · subst e3; decide
  by_cases e4 : c = 111
  · subst e4; decide
  by_cases e5 : c = 115
  · subst e5; decide
  by_cases e6 : c = 116
  · subst e6; decide
  by_cases e7 : c = 117
  · subst e7; decide
  have q : ∀ a : Int, 0 ≤ a → a ≤ 255 → ¬ c = a → ¬ iI c = iI a := fun a g1 g2 g3 => feq g3 (by omega) (by omega) (by omega) (by omega)
  unfold X3_sizeOf szI
  rw [L99, L100, L104, L111, L115, L116, L117, if_neg (q 99 (by omega) (by omega) e1), if_neg (q 100 (by omega) (by omega) e2), if_neg (q 104 (by omega) (by omega) e3), if_neg (q 111 (by omega) (by omega) e4), if_neg (q 115 (by omega) (by omega) e5), if_neg (q 116 (by omega) (by omega) e6), if_neg (q 117 (by omega) (by omega) e7), if_neg e1, if_neg e2, if_neg e3, if_neg e4, if_neg e5, if_neg e6, if_neg e7]
  rfl
set_option maxRecDepth 20000 in
set_option maxHeartbeats 400000 in
theorem s_digit {T : Nat → Nat} {n p : Nat} (hT : ∀ j, T j ≤ 255) (hn : n ≤ 96) (hp : p ≤ 1000) : X3_digit (rn 96 T) (iI n) (iI (p : Int)) = some (iI (dT T n p)) := by
  have b := aT_b (n := n) (p := p) hT
  unfold X3_digit dT dgI
  rw [s_at hn hp, Option.bind_some, L48, L57]
  by_cases c1 : aT T n p < 48
  · rw [if_pos (tlt c1 (by omega) (by omega)), if_neg (by omega), nm1]
  · rw [if_neg (flt (by omega) (by omega) (by omega))]
    by_cases c2 : 57 < aT T n p
    · rw [if_pos (tlt c2 (by omega) (by omega)), if_neg (by omega), nm1]
    · rw [if_neg (flt (by omega) (by omega) (by omega)), if_pos (by omega), iI_sub]
set_option maxRecDepth 20000 in
set_option maxHeartbeats 400000 in
theorem l_faulty {T : Nat → Nat} {n q : Nat} (hT : ∀ j, T j ≤ 255) (hn : n ≤ 96) (hq : q ≤ 1000) (K : Unit → Option Int32) : ∀ (r p m : Nat) (x : Int32), x = iI (p : Int) → p + r = q → r < m → X3_faultyLetterFrom_L29 K (rn 96 T) (iI n) (iI (q : Int)) m x = if fd T n r p < 0 then K () else some (iI (fd T n r p)) := by
  intro r
  induction r with
  | zero =>
    intro p m x hx hs hm
    obtain ⟨m, rfl⟩ : ∃ j, m = j + 1 := ⟨m - 1, by omega⟩
    subst hx
    rw [X3_faultyLetterFrom_L29, if_pos (tle (by omega) (by omega) (by omega)), fd, if_pos (by omega)]
  | succ r ih =>
    intro p m x hx hs hm
    obtain ⟨m, rfl⟩ : ∃ j, m = j + 1 := ⟨m - 1, by omega⟩
    subst hx
    have b := dT_b (T := T) (n := n) (p := p)
    rw [X3_faultyLetterFrom_L29, if_neg (fle (by omega) (by omega) (by omega)), s_digit hT hn (by omega), Option.bind_some, fd]
    by_cases c : 0 ≤ dT T n p
    · rw [if_pos (p9 c (by omega)), if_pos c]
      exact ih (p + 1) m _ (iI_s p) (by omega) (by omega)
    · rw [if_neg (show ¬ (0 : Int32) ≤ iI (dT T n p) by rw [L0]; exact fle (by omega) (by omega) (by omega)), if_neg c, if_neg (by omega)]
set_option maxRecDepth 20000 in
set_option maxHeartbeats 400000 in
theorem s_faultyFrom {T : Nat → Nat} {n p : Nat} (hT : ∀ j, T j ≤ 255) (hn : n ≤ 96) (hp : p ≤ 100) : X3_faultyLetterFrom (rn 96 T) (iI n) (iI (p : Int)) = some (iI (flt1 T n p)) := by
  have b := aT_b (n := n) (p := p) hT
  have b2 := szI_b (c := aT T n p)
  unfold X3_faultyLetterFrom flt1
  rw [s_at hn (by omega), Option.bind_some, s_sizeOf b.1 b.2, Option.bind_some]
  by_cases c : szI (aT T n p) = 0
  · rw [if_pos (show iI (szI (aT T n p) : Int) = (0 : Int32) by rw [c]; decide), if_pos c]
  · have b3 := aT_b (n := n) (p := p + szI (aT T n p) - 1) hT
    have e : iI (p : Int) + iI (szI (aT T n p) : Int) - 1 = iI ((p + szI (aT T n p) - 1 : Nat) : Int) := by
      rw [iI_add, L1, iI_sub]; exact iI_c (by omega)
    rw [if_neg (show ¬ iI (szI (aT T n p) : Int) = (0 : Int32) from ne0 (by omega) (by omega)), if_neg c, e, l_faulty hT hn (by omega) _ (szI (aT T n p) - 2) (p + 1) 1000 _ (iI_s p) (by omega) (by omega), s_at hn (by omega), Option.bind_some]
    by_cases c2 : fd T n (szI (aT T n p) - 2) (p + 1) < 0
    · rw [if_pos c2, if_pos c2]
      by_cases c3 : aT T n (p + szI (aT T n p) - 1) = 59
      · rw [if_pos (show iI (aT T n (p + szI (aT T n p) - 1)) = (59 : Int32) by rw [c3]; decide), if_pos c3, nm1]
      · rw [if_neg (show ¬ iI (aT T n (p + szI (aT T n p) - 1)) = (59 : Int32) by rw [L59]; exact feq c3 (by omega) (by omega) (by omega) (by omega)), if_neg c3]
    · rw [if_neg c2, if_neg c2]
/-! the reference reads digits -/
set_option maxRecDepth 20000 in
set_option maxHeartbeats 400000 in
theorem s_isD {T : Nat → Nat} {n p : Nat} (hT : ∀ j, T j ≤ 255) : X5_isIn (iI (aT T n p)) 48 57 = some (if 0 ≤ dT T n p then 1 else 0) ∧ (0 ≤ dT T n p → dT T n p = aT T n p - 48) := by
  have b := aT_b (n := n) (p := p) hT
  rw [L48, L57, s_isIn (by omega) (by omega) (by omega) (by omega) (by omega) (by omega)]
  unfold dT dgI
  by_cases c : 48 ≤ aT T n p ∧ aT T n p ≤ 57
  · rw [if_pos c, if_pos c, if_pos (by omega)]
    exact ⟨rfl, fun _ => rfl⟩
  · rw [if_neg c, if_neg c, if_neg (by omega)]
    exact ⟨rfl, fun z => absurd z (by omega)⟩
set_option maxRecDepth 20000 in
set_option maxHeartbeats 400000 in
theorem s_rd1 {T : Nat → Nat} {W : Nat → Int32} {n p q : Nat} (hT : ∀ j, T j ≤ 255) (hn : n ≤ 96) (hp : p ≤ 200) (hq : q < 192) : X5_readsDigits (rn 96 T) (rq 192 W) (iI n) (iI (p : Int)) (iI (q : Int)) 1 = if 0 ≤ dT T n p then some (rq 192 (upF W q (iI (dT T n p))), iI ((p + 1 : Nat) : Int), 1) else some (rq 192 W, iI (p : Int), 0) := by
  have h := s_isD (n := n) (p := p) hT
  unfold X5_readsDigits
  rw [X5_readsDigits_L5, if_neg (by decide), s_next hn (by omega), Option.bind_some, h.1, Option.bind_some]
  by_cases c : 0 ≤ dT T n p
  · rw [if_pos c, if_pos c, if_neg c10, Option.bind_some, X5_readsDigits_L5, if_pos (by decide), L10, L0, iI_mul, iI_add, L48, iI_sub, wr_rq (by omega) (by omega) (by omega), Option.bind_some, Int.toNat_natCast, iI_s p, h.2 c, show iI (10 * 0 + aT T n p - 48) = iI (aT T n p - 48) from iI_c (by omega)]
  · rw [if_neg c, if_neg c, if_pos rfl]
set_option maxRecDepth 20000 in
set_option maxHeartbeats 400000 in
theorem s_rd2 {T : Nat → Nat} {W : Nat → Int32} {n p q : Nat} (hT : ∀ j, T j ≤ 255) (hn : n ≤ 96) (hp : p ≤ 200) (hq : q < 192) : X5_readsDigits (rn 96 T) (rq 192 W) (iI n) (iI (p : Int)) (iI (q : Int)) 2 = if 0 ≤ dT T n p then (if 0 ≤ dT T n (p + 1) then some (rq 192 (upF W q (iI (10 * dT T n p + dT T n (p + 1)))), iI ((p + 2 : Nat) : Int), 1) else some (rq 192 W, iI ((p + 1 : Nat) : Int), 0)) else some (rq 192 W, iI (p : Int), 0) := by
  have h := s_isD (n := n) (p := p) hT
  have h2 := s_isD (n := n) (p := p + 1) hT
  unfold X5_readsDigits
  rw [X5_readsDigits_L5, if_neg (by decide), s_next hn (by omega), Option.bind_some, h.1, Option.bind_some]
  by_cases c : 0 ≤ dT T n p
  · rw [if_pos c, if_pos c, if_neg c10, Option.bind_some, X5_readsDigits_L5, if_neg (by decide), iI_s p, s_next hn (by omega), Option.bind_some, h2.1, Option.bind_some]
    by_cases c2 : 0 ≤ dT T n (p + 1)
    · rw [if_pos c2, if_pos c2, if_neg c10, Option.bind_some, X5_readsDigits_L5, if_pos (by decide), L10, L0, iI_mul, iI_add, L48, iI_sub, iI_mul, iI_add, iI_sub, wr_rq (by omega) (by omega) (by omega), Option.bind_some, Int.toNat_natCast, iI_s (p + 1), h.2 c, h2.2 c2, show iI (10 * (10 * 0 + aT T n p - 48) + aT T n (p + 1) - 48) = iI (10 * (aT T n p - 48) + (aT T n (p + 1) - 48)) from iI_c (by omega)]
    · rw [if_neg c2, if_neg c2, if_pos rfl]
  · rw [if_neg c, if_neg c, if_pos rfl]
