/-! one harbour becomes as another -/
def MJ (M : Hs) : Prop := M.1.length = 6 ∧ M.2.1.length = 6 ∧ M.2.2.1.length = 6 ∧ M.2.2.2.1.length = 7 ∧ M.2.2.2.2.1.length = 7 ∧ M.2.2.2.2.2.1.length = 7 ∧ M.2.2.2.2.2.2.1.length = 7
set_option maxHeartbeats 200000 in
theorem stepQ {w f t : Nat → Int32} {s : Nat} {v : Int32} (hw : ∀ j, w j = if j < s then f j else t j) (hv : v = f s) : ∀ j, upF w s v j = if j < s + 1 then f j else t j := by
  intro j
  unfold upF
  by_cases h : j = s
  · subst h
    rw [if_pos rfl, if_pos (by omega)]; exact hv
  · rw [if_neg h, hw j]
    by_cases h1 : j < s
    · rw [if_pos h1, if_pos (by omega)]
    · rw [if_neg h1, if_neg (by omega)]
set_option maxHeartbeats 200000 in
theorem endQ {w f t : Nat → Int32} {n : Nat} (hw : ∀ j, w j = if j < n then f j else t j) : rq n w = rq n f := rq_congr (fun j hj => by rw [hw j, if_pos hj])
set_option maxHeartbeats 200000 in
theorem l_copy1 {f1 f2 f3 h1 h2 h3 : Nat → Int32} (K : List Int32 → List Int32 → List Int32 → Option (List Int32 × List Int32 × List Int32 × List Int32 × List Int32 × List Int32 × List Int32 × Int32 × Int32 × Int32 × Int32)) : ∀ (r s n : Nat) (x : Int32) (w1 w2 w3 : Nat → Int32), x = iI (s : Int) → s + r = 6 → r < n → (∀ j, w1 j = if j < s then f1 j else h1 j) → (∀ j, w2 j = if j < s then f2 j else h2 j) → (∀ j, w3 j = if j < s then f3 j else h3 j) → X0_copyFrom_L2 K (rq 6 f1) (rq 6 f2) (rq 6 f3) n x (rq 6 w1) (rq 6 w2) (rq 6 w3) = K (rq 6 f1) (rq 6 f2) (rq 6 f3) := by
  intro r
  induction r with
  | zero =>
    intro s n x w1 w2 w3 hx hs hn g1 g2 g3
    obtain ⟨n, rfl⟩ : ∃ m, n = m + 1 := ⟨n - 1, by omega⟩
    subst hx
    rw [X0_copyFrom_L2, if_pos (by rw [L6]; exact tle (by omega) (by omega) (by omega))]
    rw [show s = 6 by omega] at g1 g2 g3
    rw [endQ g1, endQ g2, endQ g3]
  | succ r ih =>
    intro s n x w1 w2 w3 hx hs hn g1 g2 g3
    obtain ⟨n, rfl⟩ : ∃ m, n = m + 1 := ⟨n - 1, by omega⟩
    subst hx
    rw [X0_copyFrom_L2, if_neg (by rw [L6]; exact fle (by omega) (by omega) (by omega)), rd_rq (by omega) (by omega) (by omega), Option.bind_some, wr_rq (by omega) (by omega) (by omega), Option.bind_some, rd_rq (by omega) (by omega) (by omega), Option.bind_some, wr_rq (by omega) (by omega) (by omega), Option.bind_some, rd_rq (by omega) (by omega) (by omega), Option.bind_some, wr_rq (by omega) (by omega) (by omega), Option.bind_some, Int.toNat_natCast, iI_s s]
    exact ih (s + 1) n _ _ _ _ rfl (by omega) (by omega) (stepQ g1 rfl) (stepQ g2 rfl) (stepQ g3 rfl)
set_option maxHeartbeats 200000 in
theorem l_copy2 {f1 f2 f3 f4 h1 h2 h3 h4 : Nat → Int32} (K : List Int32 → List Int32 → List Int32 → List Int32 → Option (List Int32 × List Int32 × List Int32 × List Int32 × List Int32 × List Int32 × List Int32 × Int32 × Int32 × Int32 × Int32)) : ∀ (r s n : Nat) (x : Int32) (w1 w2 w3 w4 : Nat → Int32), x = iI (s : Int) → s + r = 7 → r < n → (∀ j, w1 j = if j < s then f1 j else h1 j) → (∀ j, w2 j = if j < s then f2 j else h2 j) → (∀ j, w3 j = if j < s then f3 j else h3 j) → (∀ j, w4 j = if j < s then f4 j else h4 j) → X0_copyFrom_L52 K (rq 7 f1) (rq 7 f2) (rq 7 f3) (rq 7 f4) n x (rq 7 w1) (rq 7 w2) (rq 7 w3) (rq 7 w4) = K (rq 7 f1) (rq 7 f2) (rq 7 f3) (rq 7 f4) := by
  intro r
  induction r with
  | zero =>
    intro s n x w1 w2 w3 w4 hx hs hn g1 g2 g3 g4
    obtain ⟨n, rfl⟩ : ∃ m, n = m + 1 := ⟨n - 1, by omega⟩
    subst hx
    rw [X0_copyFrom_L52, if_pos (by rw [L7]; exact tle (by omega) (by omega) (by omega))]
    rw [show s = 7 by omega] at g1 g2 g3 g4
    rw [endQ g1, endQ g2, endQ g3, endQ g4]
  | succ r ih =>
    intro s n x w1 w2 w3 w4 hx hs hn g1 g2 g3 g4
    obtain ⟨n, rfl⟩ : ∃ m, n = m + 1 := ⟨n - 1, by omega⟩
    subst hx
    rw [X0_copyFrom_L52, if_neg (by rw [L7]; exact fle (by omega) (by omega) (by omega)), rd_rq (by omega) (by omega) (by omega), Option.bind_some, wr_rq (by omega) (by omega) (by omega), Option.bind_some, rd_rq (by omega) (by omega) (by omega), Option.bind_some, wr_rq (by omega) (by omega) (by omega), Option.bind_some, rd_rq (by omega) (by omega) (by omega), Option.bind_some, wr_rq (by omega) (by omega) (by omega), Option.bind_some, rd_rq (by omega) (by omega) (by omega), Option.bind_some, wr_rq (by omega) (by omega) (by omega), Option.bind_some, Int.toNat_natCast, iI_s s]
    exact ih (s + 1) n _ _ _ _ _ rfl (by omega) (by omega) (stepQ g1 rfl) (stepQ g2 rfl) (stepQ g3 rfl) (stepQ g4 rfl)
set_option maxHeartbeats 200000 in
theorem s_copy {A1 A2 A3 A4 A5 A6 A7 B1 B2 B3 B4 B5 B6 B7 : List Int32} {a1 a2 a3 a4 b1 b2 b3 b4 : Int32} (hA : MJ (A1, A2, A3, A4, A5, A6, A7, a1, a2, a3, a4)) (hB : MJ (B1, B2, B3, B4, B5, B6, B7, b1, b2, b3, b4)) :
    X0_copyFrom A1 A2 A3 A4 A5 A6 A7 B1 B2 B3 B4 B5 B6 B7 a1 a2 a3 a4 b1 b2 b3 b4 = some (B1, B2, B3, B4, B5, B6, B7, b1, b2, b3, b4) := by
  obtain ⟨p1, p2, p3, p4, p5, p6, p7⟩ := hA
  obtain ⟨q1, q2, q3, q4, q5, q6, q7⟩ := hB
  have e : ∀ (L : List Int32) (n : Nat), L.length = n → L = rq n (fun j => L.getD j 0) := fun L n h => by
    have := rq_of L
    rw [h] at this
    exact this
  have p1 := e _ _ p1; have p2 := e _ _ p2; have p3 := e _ _ p3; have p4 := e _ _ p4; have p5 := e _ _ p5; have p6 := e _ _ p6; have p7 := e _ _ p7
  have q1 := e _ _ q1; have q2 := e _ _ q2; have q3 := e _ _ q3; have q4 := e _ _ q4; have q5 := e _ _ q5; have q6 := e _ _ q6; have q7 := e _ _ q7
  dsimp only at p1 p2 p3 p4 p5 p6 p7 q1 q2 q3 q4 q5 q6 q7
  unfold X0_copyFrom
  rw [p1, p2, p3, p4, p5, p6, p7, q1, q2, q3, q4, q5, q6, q7]
  rw [l_copy1 _ 6 0 1000 0 _ _ _ (by decide) (by omega) (by omega) (fun j => by rw [if_neg (by omega)]) (fun j => by rw [if_neg (by omega)]) (fun j => by rw [if_neg (by omega)])]
  rw [l_copy2 _ 7 0 1000 0 _ _ _ _ (by decide) (by omega) (by omega) (fun j => by rw [if_neg (by omega)]) (fun j => by rw [if_neg (by omega)]) (fun j => by rw [if_neg (by omega)]) (fun j => by rw [if_neg (by omega)])]
