/-! whole numbers of 64 bits -/
def jI (a : Int) : Int64 := Int64.ofInt a
set_option maxRecDepth 20000 in
set_option maxHeartbeats 400000 in
theorem jI_add (a b : Int) : jI a + jI b = jI (a + b) := (Int64.ofInt_add a b).symm
set_option maxRecDepth 20000 in
set_option maxHeartbeats 400000 in
theorem jI_sub (a b : Int) : jI a - jI b = jI (a - b) := (Int64.ofInt_sub a b).symm
set_option maxRecDepth 20000 in
set_option maxHeartbeats 400000 in
theorem jI_mul (a b : Int) : jI a * jI b = jI (a * b) := (Int64.ofInt_mul a b).symm
set_option maxRecDepth 20000 in
set_option maxHeartbeats 400000 in
theorem jI_toInt {a : Int} (h1 : -9223372036854775808 ≤ a) (h2 : a < 9223372036854775808) : (jI a).toInt = a := Int64.toInt_ofInt_of_le (by omega) (by omega)
set_option maxRecDepth 20000 in
set_option maxHeartbeats 400000 in
theorem jI_eq {a b : Int} (h1 : -9223372036854775808 ≤ a) (h2 : a < 9223372036854775808) (h3 : -9223372036854775808 ≤ b) (h4 : b < 9223372036854775808) : (jI a = jI b) = (a = b) := by
  rw [← Int64.toInt_inj, jI_toInt h1 h2, jI_toInt h3 h4]
set_option maxRecDepth 20000 in
set_option maxHeartbeats 400000 in
theorem jI_div {a b : Int} (h1 : 0 ≤ a) (h2 : a < 9223372036854775808) (h3 : 0 < b) (h4 : b < 9223372036854775808) : jI a / jI b = jI (a / b) := by
  have hb : jI b ≠ -1 := by
    intro h
    have h5 : (jI b).toInt = -1 := by rw [h]; decide
    rw [jI_toInt (by omega) h4] at h5
    omega
  apply Int64.toInt_inj.mp
  rw [Int64.toInt_div_of_ne_right _ _ hb, jI_toInt (by omega) h2, jI_toInt (by omega) h4, Int.tdiv_eq_ediv_of_nonneg h1, jI_toInt]
  · have := Int.ediv_nonneg h1 (Int.le_of_lt h3)
    omega
  · have := Int.ediv_le_self b h1
    omega
set_option maxRecDepth 20000 in
set_option maxHeartbeats 400000 in
theorem jI_of {a : Int} (h1 : -2147483648 ≤ a) (h2 : a < 2147483648) : (iI a).toInt64 = jI a := by
  apply Int64.toInt_inj.mp
  rw [Int32.toInt_toInt64, iI_toInt h1 h2, jI_toInt (by omega) (by omega)]
set_option maxRecDepth 20000 in
set_option maxHeartbeats 400000 in
theorem J0 : (0 : Int64) = jI 0 := by decide
set_option maxRecDepth 20000 in
set_option maxHeartbeats 400000 in
theorem J1 : (1 : Int64) = jI 1 := by decide
/-! fractions -/
set_option maxRecDepth 20000 in
set_option maxHeartbeats 400000 in
theorem cmp0 {a : Int} (h1 : 0 ≤ a) (h2 : a < 9223372036854775808) : (lg_cmp (jI a) (0 : Int64) = 0) = (a = 0) := by
  rw [eq_iff_iff, lg_cmp_eq, J0, ← jI_eq (a := a) (b := 0) (by omega) h2 (by omega) (by omega)]
set_option maxRecDepth 20000 in
set_option maxHeartbeats 400000 in
theorem jmod {x y : Nat} (hy : 0 < y) (hx : x < 4611686018427387904) (hy2 : y < 4611686018427387904) : jI (x : Int) - jI (x : Int) / jI (y : Int) * jI (y : Int) = jI ((x % y : Nat) : Int) := by
  rw [jI_div (by omega) (by omega) (by omega) (by omega), jI_mul, jI_sub]
  refine congrArg jI ?_
  have h := Nat.div_add_mod x y
  rw [Nat.mul_comm] at h
  rw [show (x : Int) / (y : Int) = ((x / y : Nat) : Int) from rfl]
  omega
set_option maxRecDepth 20000 in
set_option maxHeartbeats 400000 in
theorem mod_half {y r : Nat} {k : Nat} (h1 : r < y) (h2 : 0 < r) (h3 : y < 2 ^ (k + 1)) : y % r < 2 ^ k := by
  have e1 := Nat.mod_lt y h2
  have e2 : y % r ≤ y - r := by
    rw [Nat.mod_eq_sub_mod (Nat.le_of_lt h1)]
    exact Nat.mod_le _ _
  rw [Nat.pow_succ] at h3
  omega
-- both search for the divisor in one way; the class looks no further than 100 steps
set_option maxRecDepth 20000 in
set_option maxHeartbeats 400000 in
theorem l_gcd {B : Nat} (hB : B < 4611686018427387904) (K4 K5 : Int64 → Option Int64) : ∀ (k x y n m c : Nat), y < 2 ^ k → x ≤ B → y ≤ B → 0 < x + y → c + 2 * k ≤ 99 → 2 * k < n → 2 * k < m → ∃ g : Nat, 0 < g ∧ g ≤ B ∧ X4_partOfFraction_L9 K4 n (jI (x : Int)) (jI (y : Int)) (iI (c : Int)) = K4 (jI (g : Int)) ∧ X5_divisor_L6 K5 m (jI (x : Int)) (jI (y : Int)) = K5 (jI (g : Int)) := by
  have z : ∀ (x n m c : Nat), x ≤ B → 0 < x → c ≤ 99 → 0 < n → 0 < m → ∃ g : Nat, 0 < g ∧ g ≤ B ∧ X4_partOfFraction_L9 K4 n (jI (x : Int)) (jI ((0 : Nat) : Int)) (iI (c : Int)) = K4 (jI (g : Int)) ∧ X5_divisor_L6 K5 m (jI (x : Int)) (jI ((0 : Nat) : Int)) = K5 (jI (g : Int)) := by
    intro x n m c hx h0 hc hn hm
    obtain ⟨n, rfl⟩ : ∃ j, n = j + 1 := ⟨n - 1, by omega⟩
    obtain ⟨m, rfl⟩ : ∃ j, m = j + 1 := ⟨m - 1, by omega⟩
    have q : lg_cmp (jI ((0 : Nat) : Int)) (0 : Int64) = 0 := by decide
    rw [X4_partOfFraction_L9, X5_divisor_L6, if_neg (by rw [L100]; exact fle (by omega) (by omega) (by omega)), if_pos q, if_pos q]
    exact ⟨x, h0, hx, rfl, rfl⟩
  have st : ∀ (x y n m c : Nat), 0 < y → x ≤ B → y ≤ B → c ≤ 99 → X4_partOfFraction_L9 K4 (n + 1) (jI (x : Int)) (jI (y : Int)) (iI (c : Int)) = X4_partOfFraction_L9 K4 n (jI (y : Int)) (jI ((x % y : Nat) : Int)) (iI ((c + 1 : Nat) : Int)) ∧ X5_divisor_L6 K5 (m + 1) (jI (x : Int)) (jI (y : Int)) = X5_divisor_L6 K5 m (jI (y : Int)) (jI ((x % y : Nat) : Int)) := by
    intro x y n m c hy hx hyB hc
    have q : ¬ lg_cmp (jI (y : Int)) (0 : Int64) = 0 := by
      rw [cmp0 (by omega) (by omega)]; omega
    have q2 : ¬ jI (y : Int) = 0 := by
      rw [J0, jI_eq (by omega) (by omega) (by omega) (by omega)]; omega
    rw [X4_partOfFraction_L9, X5_divisor_L6, if_neg (by rw [L100]; exact fle (by omega) (by omega) (by omega)), if_neg q, if_neg q, if_neg q2, if_neg q2, jmod hy (by omega) (by omega), iI_s c]
    exact ⟨rfl, rfl⟩
  intro k
  induction k with
  | zero =>
    intro x y n m c hy hx hyB h0 hc hn hm
    obtain rfl : y = 0 := by omega
    exact z x n m c hx (by omega) (by omega) (by omega) (by omega)
  | succ k ih =>
    intro x y n m c hy hx hyB h0 hc hn hm
    by_cases y0 : y = 0
    · subst y0
      exact z x n m c hx (by omega) (by omega) (by omega) (by omega)
    · obtain ⟨n, rfl⟩ : ∃ j, n = j + 1 := ⟨n - 1, by omega⟩
      obtain ⟨m, rfl⟩ : ∃ j, m = j + 1 := ⟨m - 1, by omega⟩
      have r1 : x % y < y := Nat.mod_lt _ (by omega)
      rw [(st x y n m c (by omega) hx hyB (by omega)).1, (st x y n m c (by omega) hx hyB (by omega)).2]
      by_cases r0 : x % y = 0
      · rw [r0]
        exact z y n m (c + 1) hyB (by omega) (by omega) (by omega) (by omega)
      · obtain ⟨n, rfl⟩ : ∃ j, n = j + 1 := ⟨n - 1, by omega⟩
        obtain ⟨m, rfl⟩ : ∃ j, m = j + 1 := ⟨m - 1, by omega⟩
        rw [(st y (x % y) n m (c + 1) (by omega) hyB (by omega) (by omega)).1, (st y (x % y) n m (c + 1) (by omega) hyB (by omega) (by omega)).2]
        exact ih (x % y) (y % (x % y)) n m (c + 1 + 1) (mod_half r1 (by omega) hy) (by omega) (Nat.le_trans (Nat.mod_le _ _) hyB) (by omega) (by omega) (by omega) (by omega)
set_option maxRecDepth 20000 in
set_option maxHeartbeats 400000 in
theorem s_part {a b w : Nat} (ha : a < 2147483648) (hb : b < 2147483648) (hb0 : 0 < b) (hw : w ≤ 1) : ∃ v, X4_partOfFraction (jI (a : Int)) (jI (b : Int)) (iI (w : Int)) = some v ∧ X5_partOf (jI (a : Int)) (jI (b : Int)) (iI (w : Int)) = some v := by
  unfold X4_partOfFraction X5_partOf X5_divisor
  obtain ⟨g, g0, gB, e1, e2⟩ := l_gcd (B := 2147483648) (by omega) (fun y5_1 => if iI (w : Int) = (0 : Int32) then if (lg_cmp y5_1 (0 : Int64)) = 0 then some (jI (a : Int)) else if y5_1 = 0 then none else some (jI (a : Int) / y5_1) else if (lg_cmp y5_1 (0 : Int64)) = 0 then some (jI (b : Int)) else if y5_1 = 0 then none else some (jI (b : Int) / y5_1)) (fun y4_1 => some y4_1) 31 a b 1000 1000 0 (by omega) (by omega) (by omega) (by omega) (by omega) (by omega) (by omega)
  have q : ¬ lg_cmp (jI (g : Int)) (0 : Int64) = 0 := by
    rw [cmp0 (by omega) (by omega)]; omega
  have q2 : ¬ jI (g : Int) = 0 := by
    rw [J0, jI_eq (by omega) (by omega) (by omega) (by omega)]; omega
  rw [z00] at e1
  rw [e1, e2]
  by_cases c : w = 0
  · subst c
    rw [if_pos z00, if_pos z00, if_neg q, if_neg q2, Option.bind_some, if_neg q2]
    exact ⟨_, rfl, rfl⟩
  · have c1 : ¬ iI (w : Int) = (0 : Int32) := ne0 (by omega) (by omega)
    rw [if_neg c1, if_neg c1, if_neg q, if_neg q2, Option.bind_some, if_neg q2]
    exact ⟨_, rfl, rfl⟩
set_option maxRecDepth 20000 in
set_option maxHeartbeats 400000 in
theorem s_refuseLong {R : List Int32} {c : Nat} (hR : R.length = 7) (h0 : 0 < c) (h1 : c < 7) : ∃ v, X4_refuseLong R (iI (-(c : Int))) = some (incR R c, v) ∧ X5_lowestOf R (iI (-(c : Int))) = some (incR R c, v) := by
  have h := s_refuse hR h0 h1
  unfold X4_refuseLong X5_lowestOf
  rw [h.1, Option.bind_some, iI_neg, show (-(-(c : Int))) = (c : Int) by omega, rdL (by omega) (by omega), Option.bind_some, wrL (by omega) (by omega), Option.bind_some]
  exact ⟨_, rfl, rfl⟩
/-! MEAN -/
set_option maxRecDepth 20000 in
set_option maxHeartbeats 400000 in
theorem l_mean {l : Nat → Nat} {sh : Nat} (hl : ∀ j, l j ≤ 99) (hsh : sh ≤ 7) (K4 : Int32 → Option (List Int32 × Int64)) (K5 : Int64 → Option (List Int32 × Int64)) : ∀ (r s n v : Nat), s + r = sh → r < n → v ≤ 99 * s → ∃ v1 : Nat, v1 ≤ 99 * sh ∧ X4_mean_L20 K4 (rn 7 l) (iI sh) n (iI (v : Int)) (iI (s : Int)) = K4 (iI (v1 : Int)) ∧ X5_mean_L21 K5 (rn 7 l) (iI sh) n (jI (v : Int)) (iI (s : Int)) = K5 (jI (v1 : Int)) := by
  intro r
  induction r with
  | zero =>
    intro s n v hs hn hv
    obtain ⟨m, rfl⟩ : ∃ m, n = m + 1 := ⟨n - 1, by omega⟩
    have q : iI (sh : Int) ≤ iI (s : Int) := tle (by omega) (by omega) (by omega)
    rw [X4_mean_L20, X5_mean_L21, if_pos q, if_pos q]
    exact ⟨v, by omega, rfl, rfl⟩
  | succ r ih =>
    intro s n v hs hn hv
    obtain ⟨m, rfl⟩ : ∃ m, n = m + 1 := ⟨n - 1, by omega⟩
    have q : ¬ iI (sh : Int) ≤ iI (s : Int) := fle (by omega) (by omega) (by omega)
    have b := hl s
    rw [X4_mean_L20, X5_mean_L21, if_neg q, if_neg q, rd_rn (by omega) (by omega) (by omega), Option.bind_some, Option.bind_some, Int.toNat_natCast, jI_of (by omega) (by omega), iI_add, jI_add, iI_s s]
    exact ih (s + 1) m (v + l s) (by omega) (by omega) (by omega)
set_option maxRecDepth 20000 in
set_option maxHeartbeats 400000 in
theorem exj {R : List Int32} {v : Int64} (h : R.length = 7) : ∃ (R1 : List Int32) (r : Int64), some (R, v) = some (R1, r) ∧ some (R, v) = some (R1, r) ∧ R1.length = 7 := ⟨R, v, rfl, rfl, h⟩
set_option maxRecDepth 20000 in
set_option maxHeartbeats 400000 in
theorem op_mean {l : Nat → Nat} {sh : Nat} {R : List Int32} {p : Int32} (hl : ∀ j, l j ≤ 99) (hsh : sh ≤ 7) (hR : R.length = 7) : ∃ (R1 : List Int32) (r : Int64), X4_mean R (rn 7 l) (iI sh) p = some (R1, r) ∧ X5_mean R (rn 7 l) (iI sh) p = some (R1, r) ∧ R1.length = 7 := by
  obtain ⟨w2, h2, h3⟩ := s_refuseLong (R := R) (c := 2) hR (by omega) (by omega)
  unfold X4_mean X5_mean
  rcases what_cases (hi := 1) (by omega) p with ⟨w, hw1, rfl, g1, g2, g3⟩ | ⟨g1, g3⟩ | ⟨g1, g2, g3⟩
  · rw [if_neg g1, if_pos (show iI (w : Int) ≤ (1 : Int32) from g2), show X5_isIn (iI (w : Int)) 0 1 = some 1 from g3, Option.bind_some, if_neg c10]
    obtain ⟨v, hv, e1, e2⟩ := l_mean hl hsh (fun y2_5 => (X4_partOfFraction (Int32.toInt64 y2_5) (Int32.toInt64 (mmax 1 (iI sh))) (iI (w : Int))).bind fun u_6 => some (R, u_6)) (fun y2_5 => if iI sh = (0 : Int32) then some (R, (Int32.toInt64 (iI (w : Int)))) else (X5_partOf y2_5 (Int32.toInt64 (iI sh)) (iI (w : Int))).bind fun u_6 => some (R, u_6)) sh 0 1000 0 (by omega) (by omega) (by omega)
    rw [z00] at e1
    rw [z00, show jI ((0 : Nat) : Int) = (0 : Int64) by decide] at e2
    rw [e1, e2, L1, mmax_iI (by omega) (by omega) (by omega) (by omega), jI_of (by omega) (by omega), jI_of (by omega) (by omega)]
    by_cases c : sh = 0
    · subst c
      obtain rfl : v = 0 := by omega
      rw [if_pos z00]
      rcases (by omega : w = 0 ∨ w = 1) with rfl | rfl
      · rw [show X4_partOfFraction (jI ((0 : Nat) : Int)) (jI (max 1 ((0 : Nat) : Int))) (iI ((0 : Nat) : Int)) = some (Int32.toInt64 (iI ((0 : Nat) : Int))) by decide +kernel, Option.bind_some]
        exact exj hR
      · rw [show X4_partOfFraction (jI ((0 : Nat) : Int)) (jI (max 1 ((0 : Nat) : Int))) (iI ((1 : Nat) : Int)) = some (Int32.toInt64 (iI ((1 : Nat) : Int))) by decide +kernel, Option.bind_some]
        exact exj hR
    · rw [if_neg (ne0 (by omega) (by omega)), jI_of (by omega) (by omega), show (max 1 (sh : Int)) = ((sh : Nat) : Int) by omega]
      obtain ⟨v2, f1, f2⟩ := s_part (a := v) (b := sh) (w := w) (by omega) (by omega) (by omega) hw1
      rw [f1, f2, Option.bind_some]
      exact exj hR
  · rw [if_pos g1, show X5_isIn p 0 1 = some 0 from g3, Option.bind_some, if_pos rfl, m2, h2, h3, Option.bind_some]
    exact exj (incR_len.trans hR)
  · rw [if_neg g1, if_neg (show ¬ p ≤ (1 : Int32) from g2), show X5_isIn p 0 1 = some 0 from g3, Option.bind_some, if_pos rfl, m2, h2, h3, Option.bind_some]
    exact exj (incR_len.trans hR)
/-! SPARED -/
set_option maxRecDepth 20000 in
set_option maxHeartbeats 400000 in
theorem s_lower {R : List Int32} {c : Nat} (hR : R.length = 7) (h0 : 0 < c) (h1 : c < 7) : X5_lower R (iI (-(c : Int))) = some (incR R c, (1000000000 : Int32) - iI (-(c : Int))) := by
  unfold X5_lower
  rw [iI_neg, show (-(-(c : Int))) = (c : Int) by omega, rdL (by omega) (by omega), Option.bind_some, wrL (by omega) (by omega), Option.bind_some]
  rfl
set_option maxRecDepth 20000 in
set_option maxHeartbeats 400000 in
theorem wnX_b {e : Env} {sh b fr : Nat} (hu : ∀ j, e.1 j ≤ 9) : ∀ (r v : Nat) (x : XX), v ≤ (wnX e sh b fr r v x).1 ∧ (wnX e sh b fr r v x).1 ≤ v + 378 * r := by
  intro r
  induction r with
  | zero => intro v x; exact ⟨Nat.le_refl _, Nat.le_refl _⟩
  | succ r ih =>
    intro v x
    have h := ih (v + allk (lk fr e.1 (dayX e sh b fr x).1)) (dayX e sh b fr x)
    have b : allk (lk fr e.1 (dayX e sh b fr x).1) ≤ 378 := by
      have l0 := lk_le (fr := fr) (t := (dayX e sh b fr x).1) hu 0
      have l1 := lk_le (fr := fr) (t := (dayX e sh b fr x).1) hu 1
      have l2 := lk_le (fr := fr) (t := (dayX e sh b fr x).1) hu 2
      have l3 := lk_le (fr := fr) (t := (dayX e sh b fr x).1) hu 3
      have l4 := lk_le (fr := fr) (t := (dayX e sh b fr x).1) hu 4
      have l5 := lk_le (fr := fr) (t := (dayX e sh b fr x).1) hu 5
      unfold allk
      omega
    unfold wnX
    omega
set_option maxRecDepth 20000 in
set_option maxHeartbeats 400000 in
theorem upN_self {f : Nat → Nat} {s v w : Nat} (h : w = f s) : upN (upN f s v) s w = f := by
  funext j
  unfold upN
  by_cases c : j = s
  · rw [if_pos c, c, h]
  · rw [if_neg c, if_neg c]
set_option maxRecDepth 20000 in
set_option maxHeartbeats 400000 in
theorem OkE.hd1 {u hd k f g l h : Nat → Nat} (hE : OkE (u, hd, k, f, g, l)) (hh : ∀ j, h j ≤ 1000) : OkE (u, h, k, f, g, l) := ⟨hE.1, hh, hE.2.2⟩
set_option maxRecDepth 20000 in
set_option maxHeartbeats 400000 in
theorem OkX.t1 {D : Nat} {t i t1 : Nat → Nat} {co d : Nat} (hX : OkX D (t, i, co, d)) (h : ∀ j, t1 j ≤ 99) : OkX D (t1, i, co, d) := ⟨h, hX.2⟩
set_option maxRecDepth 20000 in
set_option maxHeartbeats 400000 in
theorem op_spared {A1 A2 A3 A4 A5 A6 A7 : List Int32} {a1 a2 a3 a4 : Int32} {u hd k f g l t i : Nat → Nat} {sh co d : Nat} {R : List Int32} {F : Nat → Int32} {z1 z2 p q : Int32} (hM : MJ (A1, A2, A3, A4, A5, A6, A7, a1, a2, a3, a4)) (hE : OkE (u, hd, k, f, g, l)) (hsh : sh ≤ 7) (hX : OkX 1000 (t, i, co, d)) (hR : R.length = 7) :
    ∃ (R1 : List Int32) (Mz : Hs) (F1 : Nat → Int32) (y1 y2 r : Int32), X4_spared R A1 A2 A3 A4 A5 A6 A7 (rn 6 t) (rn 6 u) (rn 6 hd) (rn 7 k) (rn 7 f) (rn 7 g) (rn 7 l) a1 a2 a3 a4 (iI sh) (iI (mk i)) (iI co) (iI d) p q = some (R1, Mz.1, Mz.2.1, Mz.2.2.1, Mz.2.2.2.1, Mz.2.2.2.2.1, Mz.2.2.2.2.2.1, Mz.2.2.2.2.2.2.1, Mz.2.2.2.2.2.2.2.1, Mz.2.2.2.2.2.2.2.2.1, Mz.2.2.2.2.2.2.2.2.2.1, Mz.2.2.2.2.2.2.2.2.2.2, r) ∧ X5_spared R (rn 6 t) (rn 6 u) (rn 6 hd) (rn 7 k) (rn 7 f) (rn 7 g) (rn 7 l) (rn 7 i) (rq 616 F) (iI sh) (iI co) (iI d) 0 z1 z2 (-9) p q = some (R1, rn 6 t, rn 6 u, rn 6 hd, rn 7 k, rn 7 f, rn 7 g, rn 7 l, rn 7 i, rq 616 F1, iI sh, iI co, iI d, y1, y2, r) ∧ MJ Mz ∧ Kp F F1 ∧ R1.length = 7 := by
  have h1 := s_refuse (R := R) (c := 1) hR (by omega) (by omega)
  have h4 := s_refuse (R := R) (c := 4) hR (by omega) (by omega)
  have h6 := s_refuse (R := R) (c := 6) hR (by omega) (by omega)
  unfold X4_spared X5_spared
  rcases good_cases p with ⟨a, ha, rfl, g1, g2⟩ | ⟨g1, g2⟩
  · rw [g1, g2, Option.bind_some, Option.bind_some, if_neg c10, if_neg c10, n60]
    rcases fit_cases (lo := 0) (hi := 60) (by omega) (by omega) q with ⟨n, -, hn, rfl, e1, e2⟩ | ⟨e1, e2⟩ | ⟨e1, e2⟩
    · have bt := xT hX a
      have bh := oH hE a
      have hE2 : OkE (u, upN hd a 0, k, f, g, l) := hE.hd1 (fun j => upN_le (oH hE) (by omega) j)
      have hX2 : OkX 1500 (upN t a (min 99 (t a + hd a)), i, co, d) := (hX.mono (by omega)).t1 (fun j => upN_le (xT hX) (by omega) j)
      rw [s_X5_notDays e2, show X4_misfit (iI (n : Int)) 0 (iI ((60 : Nat) : Int)) = some 0 from e1, Option.bind_some, Option.bind_some, if_pos rfl, if_pos rfl]
      rw [s_X4_fromNow hM, Option.bind_some, show (0 : Int32) = iI ((0 : Nat) : Int) by decide, s_X0_wantWithin hE hsh (by omega) (by omega) (hX.mono (by omega)), Option.bind_some, s_X4_fromNow ?_, Option.bind_some]
      rotate_left
      · exact ⟨rn_len, rn_len, rn_len, rn_len, rn_len, rn_len, rn_len⟩
      rw [rd_rn (by omega) (by omega) (by omega), Option.bind_some, rd_rn (by omega) (by omega) (by omega), Option.bind_some, Int.toNat_natCast, iI_add, show (99 : Int32) = iI 99 by decide, mmin_iI (by omega) (by omega) (by omega) (by omega), wr_rn (by omega) (by omega) (by omega) (by omega), Option.bind_some, wr_rn (by omega) (by omega) (by omega) (by omega), Option.bind_some, Int.toNat_natCast, Int.toNat_natCast, show (min 99 ((t a : Int) + (hd a : Int))).toNat = min 99 (t a + hd a) by omega, s_X0_wantWithin hE2 hsh (by omega) (by omega) hX2, Option.bind_some]
      rw [f9, s_X5_wantIn (by omega) hE hsh (by omega) (by omega) (hX.mono (by omega)), Option.bind_some, rd_rn (by omega) (by omega) (by omega), Option.bind_some, rd_rn (by omega) (by omega) (by omega), Option.bind_some, Int.toNat_natCast, iI_add, s_X5_held (by omega) (by omega) (by omega) (by omega) (by omega), Option.bind_some, show (max ((0 : Nat) : Int) (min ((t a : Int) + (hd a : Int)) 99)) = ((min 99 (t a + hd a) : Nat) : Int) by omega, wr_rn (by omega) (by omega) (by omega) (by omega), Option.bind_some, Option.bind_some, wr_rn (by omega) (by omega) (by omega) (by omega), Option.bind_some, Int.toNat_natCast, Int.toNat_natCast, Int.toNat_natCast, s_X5_wantIn (by omega) hE2 hsh (by omega) (by omega) hX2, Option.bind_some, wr_rn (by omega) (by omega) (by omega) (by omega), Option.bind_some, wr_rn (by omega) (by omega) (by omega) (by omega), Option.bind_some, Int.toNat_natCast, Int.toNat_natCast, Int.toNat_natCast, upN_self rfl, upN_self rfl]
      exact exo ⟨rn_len, rn_len, rn_len, rn_len, rn_len, rn_len, rn_len⟩ (Kp.put2.tr Kp.put2) hR
    · rw [s_X5_notDays e2, show X4_misfit q 0 (iI ((60 : Nat) : Int)) = some (-4) from e1, Option.bind_some, Option.bind_some, if_neg (by decide), if_neg (by decide), m4, h4.1, s_lower hR (by omega) (by omega), Option.bind_some, Option.bind_some]
      exact exo hM Kp.rf (incR_len.trans hR)
    · rw [s_X5_notDays e2, show X4_misfit q 0 (iI ((60 : Nat) : Int)) = some (-6) from e1, Option.bind_some, Option.bind_some, if_neg (by decide), if_neg (by decide), m6, h6.1, s_lower hR (by omega) (by omega), Option.bind_some, Option.bind_some]
      exact exo hM Kp.rf (incR_len.trans hR)
  · rw [g1, g2, Option.bind_some, Option.bind_some, if_pos rfl, if_pos rfl, m1, h1.1, s_lower hR (by omega) (by omega), Option.bind_some, Option.bind_some]
    exact exo hM Kp.rf (incR_len.trans hR)
