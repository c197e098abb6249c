/-! all statements read -/
/-- where statement k begins -/
def pl (T : Nat → Nat) (n : Nat) : Nat → Nat
  | 0 => 0
  | k + 1 => pl T n k + szI (aT T n (pl T n k))
/-- from statement k on: where it is wrong (-1), and how many there are -/
def rnT (T : Nat → Nat) (n : Nat) : Nat → Nat → Int × Nat
  | 0, k => (-1, k)
  | r + 1, k => if k = 0 ∨ pl T n k < n then (if flt1 T n (pl T n k) < 0 then rnT T n r (k + 1) else (flt1 T n (pl T n k), k)) else (-1, k)
set_option maxRecDepth 20000 in
set_option maxHeartbeats 400000 in
theorem flt_ok {T : Nat → Nat} {n p : Nat} (h : flt1 T n p < 0) : 3 ≤ szI (aT T n p) ∧ p + szI (aT T n p) ≤ n ∧ p < n := by
  have b2 := szI_b (c := aT T n p)
  unfold flt1 at h
  by_cases c : szI (aT T n p) = 0
  · rw [if_pos c] at h
    omega
  · rw [if_neg c] at h
    by_cases c2 : fd T n (szI (aT T n p) - 2) (p + 1) < 0
    · rw [if_pos c2] at h
      by_cases c3 : aT T n (p + szI (aT T n p) - 1) = 59
      · have h2 : p + szI (aT T n p) - 1 < n := by
          unfold aT at c3
          by_cases z : p + szI (aT T n p) - 1 < n
          · exact z
          · unfold aT at z
            rw [if_neg z] at c3
            exact absurd c3 (by decide)
        omega
      · rw [if_neg c3] at h
        omega
    · rw [if_neg c2] at h
      exact absurd h c2
set_option maxRecDepth 20000 in
set_option maxHeartbeats 400000 in
theorem flt_le {T : Nat → Nat} {n p : Nat} : -1 ≤ flt1 T n p ∧ flt1 T n p ≤ ((p + 10 : Nat) : Int) := by
  have b2 := szI_b (c := aT T n p)
  have b3 := fd_b (T := T) (n := n) (szI (aT T n p) - 2) (p + 1)
  unfold flt1
  repeat' split
  all_goals omega
set_option maxRecDepth 20000 in
set_option maxHeartbeats 400000 in
theorem l_faultyL {T : Nat → Nat} {n : Nat} (hT : ∀ j, T j ≤ 255) (hn : n ≤ 96) (K : Unit → Option Int32) : ∀ (r k m : Nat) (x y : Int32), x = iI (pl T n k : Int) → y = iI (k : Int) → k + r = 33 → 3 * k ≤ pl T n k → pl T n k ≤ n → r < m → X3_faultyLetter_L4 K (rn 96 T) (iI n) m x y = if (rnT T n r k).1 < 0 then K () else some (iI (rnT T n r k).1) := by
  intro r
  induction r with
  | zero =>
    intro k m x y hx hy hs h3 hp hm
    omega
  | succ r ih =>
    intro k m x y hx hy hs h3 hp hm
    obtain ⟨m, rfl⟩ : ∃ j, m = j + 1 := ⟨m - 1, by omega⟩
    subst hx; subst hy
    have b := aT_b (n := n) (p := pl T n k) hT
    have bf := flt_le (T := T) (n := n) (p := pl T n k)
    have step : X3_faultyLetter_L4 K (rn 96 T) (iI n) (m + 1) (iI (pl T n k : Int)) (iI (k : Int)) = (if k = 0 ∨ pl T n k < n then (X3_faultyLetterFrom (rn 96 T) (iI n) (iI (pl T n k : Int))).bind fun u_1 => if u_1 < 0 then (X1_at (rn 96 T) (iI n) (iI (pl T n k : Int))).bind fun u_3 => (X3_sizeOf u_3).bind fun u_5 => X3_faultyLetter_L4 K (rn 96 T) (iI n) m (iI (pl T n k : Int) + u_5) (iI (k : Int) + 1) else some u_1 else K ()) := by
      rw [X3_faultyLetter_L4, if_neg (show ¬ (96 : Int32) ≤ iI (k : Int) by rw [L96]; exact fle (by omega) (by omega) (by omega))]
      by_cases k0 : k = 0
      · rw [if_pos (show iI (k : Int) = (0 : Int32) by rw [k0]; decide), if_pos (Or.inl k0)]
      · rw [if_neg (show ¬ iI (k : Int) = (0 : Int32) from ne0 (by omega) (by omega)), X1_length, Option.bind_some]
        by_cases kp : pl T n k < n
        · rw [if_neg (fle (by omega) (by omega) (by omega)), if_pos (Or.inr kp)]
        · rw [if_pos (tle (by omega) (by omega) (by omega)), if_neg (by omega)]
    rw [step, rnT]
    by_cases c : k = 0 ∨ pl T n k < n
    · rw [if_pos c, if_pos c, s_faultyFrom hT hn (by omega), Option.bind_some]
      by_cases f0 : flt1 T n (pl T n k) < 0
      · have g := flt_ok f0
        have e : pl T n (k + 1) = pl T n k + szI (aT T n (pl T n k)) := rfl
        rw [if_pos (show iI (flt1 T n (pl T n k)) < (0 : Int32) by rw [L0]; exact tlt f0 (by omega) (by omega)), if_pos f0, s_at hn (by omega), Option.bind_some, s_sizeOf b.1 b.2, Option.bind_some, iI_add, show iI ((pl T n k : Int) + (szI (aT T n (pl T n k)) : Int)) = iI (pl T n (k + 1) : Int) from iI_c (by omega), iI_s k]
        exact ih (k + 1) m _ _ rfl rfl (by omega) (by omega) (by omega) (by omega)
      · rw [if_neg (show ¬ iI (flt1 T n (pl T n k)) < (0 : Int32) by rw [L0]; exact flt (by omega) (by omega) (by omega)), if_neg f0, if_neg f0]
    · rw [if_neg c, if_neg c, if_pos (show (-1 : Int) < 0 by decide)]
/-- statement k stands in the reference's rows -/
def Told (T : Nat → Nat) (n : Nat) (L A W : Nat → Int32) (k : Nat) : Prop := L k = iI (aT T n (pl T n k)) ∧ A k = iI (pl T n k : Int) ∧ TV T n W (4 * k) (pl T n k + 1) (aT T n (pl T n k))
set_option maxRecDepth 20000 in
set_option maxHeartbeats 400000 in
theorem TV.kp {T : Nat → Nat} {n q p : Nat} {W W1 : Nat → Int32} {c : Int} (h : TV T n W q p c) (hW : ∀ j, q ≤ j → j < q + 4 → W1 j = W j) : TV T n W1 q p c := by
  unfold TV at h ⊢
  rw [hW q (by omega) (by omega), hW (q + 1) (by omega) (by omega), hW (q + 2) (by omega) (by omega), hW (q + 3) (by omega) (by omega)]
  exact h
set_option maxRecDepth 20000 in
set_option maxHeartbeats 400000 in
theorem l_read {T : Nat → Nat} {n : Nat} (hT : ∀ j, T j ≤ 255) (hn : n ≤ 96) (K : Int32 → List Int32 → List Int32 → List Int32 → Int32 → Int32 → Option (List Int32 × List Int32 × List Int32 × List Int32 × List Int32 × List Int32 × List Int32 × List Int32 × List Int32 × List Int32 × List Int32 × List Int32 × Int32 × Int32 × Int32 × Int32 × Int32 × Int32 × Int32 × Int32 × Int32 × Int32)) : ∀ (r k m : Nat) (x y : Int32) (L A W : Nat → Int32), x = iI (pl T n k : Int) → y = iI (k : Int) → k + r = 33 → 3 * k ≤ pl T n k → pl T n k ≤ n → r + 1 < m → (∀ j, j < k → Told T n L A W j) →
    ∃ L1 A1 W1 : Nat → Int32, X5_harbour_L12 K (rn 96 T) (iI n) m 1 (rq 48 L) (rq 48 A) (rq 192 W) x y = K (if (rnT T n r k).1 < 0 then 1 else 0) (rq 48 L1) (rq 48 A1) (rq 192 W1) (iI (if (rnT T n r k).1 < 0 then (pl T n (rnT T n r k).2 : Int) else (rnT T n r k).1)) (iI ((rnT T n r k).2 : Int)) ∧ ((rnT T n r k).1 < 0 → ∀ j, j < (rnT T n r k).2 → Told T n L1 A1 W1 j) := by
  intro r
  induction r with
  | zero =>
    intro k m x y L A W hx hy hs h3 hp hm hI
    omega
  | succ r ih =>
    intro k m x y L A W hx hy hs h3 hp hm hI
    obtain ⟨m, rfl⟩ : ∃ j, m = j + 1 := ⟨m - 1, by omega⟩
    obtain ⟨m, rfl⟩ : ∃ j, m = j + 1 := ⟨m - 1, by omega⟩
    subst hx; subst hy
    have b := aT_b (n := n) (p := pl T n k) hT
    have bf := flt_le (T := T) (n := n) (p := pl T n k)
    have step : X5_harbour_L12 K (rn 96 T) (iI n) (m + 1 + 1) 1 (rq 48 L) (rq 48 A) (rq 192 W) (iI (pl T n k : Int)) (iI (k : Int)) = (if k = 0 ∨ pl T n k < n then (X5_statement (rn 96 T) (rq 48 L) (rq 48 A) (rq 192 W) (iI n) (iI (pl T n k : Int)) (iI (k : Int))).bind fun u_1 => if u_1.2.2.2.2 = 0 then X5_harbour_L12 K (rn 96 T) (iI n) (m + 1) u_1.2.2.2.2 u_1.1 u_1.2.1 u_1.2.2.1 u_1.2.2.2.1 (iI (k : Int) + 0) else X5_harbour_L12 K (rn 96 T) (iI n) (m + 1) u_1.2.2.2.2 u_1.1 u_1.2.1 u_1.2.2.1 u_1.2.2.2.1 (iI (k : Int) + 1) else K 1 (rq 48 L) (rq 48 A) (rq 192 W) (iI (pl T n k : Int)) (iI (k : Int))) := by
      rw [X5_harbour_L12, if_neg c10]
      by_cases kp : pl T n k < n
      · rw [if_pos (tlt (by omega) (by omega) (by omega)), if_pos (Or.inr kp)]
      · rw [if_neg (flt (by omega) (by omega) (by omega))]
        by_cases k0 : k = 0
        · rw [if_pos (show iI (k : Int) = (0 : Int32) by rw [k0]; decide), if_pos (Or.inl k0)]
        · rw [if_neg (show ¬ iI (k : Int) = (0 : Int32) from ne0 (by omega) (by omega)), if_neg (by omega)]
    rw [step, rnT]
    by_cases c : k = 0 ∨ pl T n k < n
    · obtain ⟨L1, A1, W1, e1, e2, e3, e4⟩ := s_statement (L := L) (A := A) (W := W) (p := pl T n k) (k := k) hT hn (by omega) (by omega)
      rw [if_pos c, if_pos c, e1, Option.bind_some]
      by_cases f0 : flt1 T n (pl T n k) < 0
      · have g := flt_ok f0
        have e : pl T n (k + 1) = pl T n k + szI (aT T n (pl T n k)) := rfl
        rw [if_pos f0, if_pos f0, if_pos f0, if_neg c10, show ((pl T n k + szI (aT T n (pl T n k)) : Nat) : Int) = (pl T n (k + 1) : Int) by omega, iI_s k]
        refine ih (k + 1) (m + 1) _ _ L1 A1 W1 rfl rfl (by omega) (by omega) (by omega) (by omega) (fun j hj => ?_)
        by_cases cj : j = k
        · subst cj
          exact e4 f0
        · obtain ⟨t1, t2, t3⟩ := hI j (by omega)
          exact ⟨by rw [(e2 j cj).1]; exact t1, by rw [(e2 j cj).2]; exact t2, t3.kp (fun q q1 q2 => e3 q (by omega))⟩
      · rw [if_neg f0, if_neg f0, if_neg f0, if_pos (show (0 : Int32) = 0 from rfl), X5_harbour_L12, if_pos (show (0 : Int32) = 0 from rfl), show iI (k : Int) + (0 : Int32) = iI (k : Int) by simp]
        exact ⟨L1, A1, W1, by rw [if_neg f0, if_neg f0], fun z => absurd z f0⟩
    · rw [if_neg c, if_neg c]
      exact ⟨L, A, W, by rw [if_pos (show (-1 : Int) < 0 by decide), if_pos (show (-1 : Int) < 0 by decide)], fun _ => hI⟩
set_option maxRecDepth 20000 in
set_option maxHeartbeats 400000 in
theorem rnT_spec {T : Nat → Nat} {n : Nat} (hn : n ≤ 96) : ∀ r k : Nat, k + r = 33 → 3 * k ≤ pl T n k → pl T n k ≤ n → (rnT T n r k).1 < 0 → k ≤ (rnT T n r k).2 ∧ (rnT T n r k).2 ≤ 33 ∧ ¬ (rnT T n r k).2 = 0 ∧ n ≤ pl T n (rnT T n r k).2 ∧ ∀ j, k ≤ j → j < (rnT T n r k).2 → flt1 T n (pl T n j) < 0 := by
  intro r
  induction r with
  | zero => intro k hs h3 hp h; omega
  | succ r ih =>
    intro k hs h3 hp h
    rw [rnT] at h ⊢
    by_cases c : k = 0 ∨ pl T n k < n
    · rw [if_pos c] at h ⊢
      by_cases f0 : flt1 T n (pl T n k) < 0
      · have g := flt_ok f0
        have e : pl T n (k + 1) = pl T n k + szI (aT T n (pl T n k)) := rfl
        rw [if_pos f0] at h ⊢
        obtain ⟨a1, a2, a3, a4, a5⟩ := ih (k + 1) (by omega) (by omega) (by omega) h
        refine ⟨by omega, a2, a3, a4, fun j h1 h2 => ?_⟩
        by_cases cj : j = k
        · subst cj; exact f0
        · exact a5 j (by omega) h2
      · rw [if_neg f0] at h
        exact absurd h f0
    · rw [if_neg c] at h ⊢
      exact ⟨Nat.le_refl _, show k ≤ 33 by omega, show ¬ k = 0 by omega, show n ≤ pl T n k by omega, fun j h1 h2 => absurd h2 (show ¬ j < k by omega)⟩
set_option maxRecDepth 20000 in
set_option maxHeartbeats 400000 in
theorem rnT_b {T : Nat → Nat} {n : Nat} (hn : n ≤ 96) : ∀ r k : Nat, k + r = 33 → 3 * k ≤ pl T n k → pl T n k ≤ n → -1 ≤ (rnT T n r k).1 ∧ (rnT T n r k).1 ≤ 200 := by
  intro r
  induction r with
  | zero => intro k hs h3 hp; omega
  | succ r ih =>
    intro k hs h3 hp
    rw [rnT]
    by_cases c : k = 0 ∨ pl T n k < n
    · rw [if_pos c]
      by_cases f0 : flt1 T n (pl T n k) < 0
      · have g := flt_ok f0
        have e : pl T n (k + 1) = pl T n k + szI (aT T n (pl T n k)) := rfl
        rw [if_pos f0]
        exact ih (k + 1) (by omega) (by omega) (by omega)
      · have bf := flt_le (T := T) (n := n) (p := pl T n k)
        rw [if_neg f0]
        exact ⟨bf.1, by have := bf.2; show flt1 T n (pl T n k) ≤ 200; omega⟩
    · rw [if_neg c]
      exact ⟨show (-1 : Int) ≤ -1 by decide, show (-1 : Int) ≤ 200 by decide⟩
