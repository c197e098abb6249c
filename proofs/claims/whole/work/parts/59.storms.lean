/-! STORMS -/
set_option maxRecDepth 20000 in
set_option maxHeartbeats 400000 in
theorem s_part2 {a b w : Nat} (ha : a < 4611686018427387904) (hb : b < 2147483648) (hb0 : 0 < b) (hw : w ≤ 1) : ∃ v, X4_partOfFraction (jI (a : Int)) (jI (b : Int)) (iI (w : Int)) = some v ∧ X5_partOf (jI (a : Int)) (jI (b : Int)) (iI (w : Int)) = some v := by
  unfold X4_partOfFraction X5_partOf X5_divisor
  obtain ⟨g, g0, gB, e1, e2⟩ := l_gcd (B := 4611686018427387903) (by omega) (fun y5_1 => if iI (w : Int) = (0 : Int32) then if (lg_cmp y5_1 (0 : Int64)) = 0 then some (jI (a : Int)) else if y5_1 = 0 then none else some (jI (a : Int) / y5_1) else if (lg_cmp y5_1 (0 : Int64)) = 0 then some (jI (b : Int)) else if y5_1 = 0 then none else some (jI (b : Int) / y5_1)) (fun y4_1 => some y4_1) 31 a b 1000 1000 0 (by omega) (by omega) (by omega) (by omega) (by omega) (by omega) (by omega)
  have q : ¬ lg_cmp (jI (g : Int)) (0 : Int64) = 0 := by
    rw [cmp0 (by omega) (by omega)]; omega
  have q2 : ¬ jI (g : Int) = 0 := by
    rw [J0, jI_eq (by omega) (by omega) (by omega) (by omega)]; omega
  rw [z00] at e1
  rw [e1, e2]
  by_cases c : w = 0
  · subst c
    rw [if_pos z00, if_pos z00, if_neg q, if_neg q2, Option.bind_some, if_neg q2]
    exact ⟨_, rfl, rfl⟩
  · have c1 : ¬ iI (w : Int) = (0 : Int32) := ne0 (by omega) (by omega)
    rw [if_neg c1, if_neg c1, if_neg q, if_neg q2, Option.bind_some, if_neg q2]
    exact ⟨_, rfl, rfl⟩
set_option maxRecDepth 20000 in
set_option maxHeartbeats 400000 in
theorem tb_127 : (List.range 7).all (fun s => decide (127 / 2 ^ s % 2 = 1)) = true := by decide
set_option maxRecDepth 20000 in
set_option maxHeartbeats 400000 in
theorem shp_all {e : Env} {fr d : Nat} : ∀ (r s : Nat) (y : Y3), s + r ≤ 7 → shp e 127 fr d r s y = y := by
  intro r
  induction r with
  | zero => intro s y _; rfl
  | succ r ih =>
    intro s y hs
    have q := of_decide_eq_true (List.all_eq_true.mp tb_127 s (List.mem_range.mpr (by omega)))
    unfold shp
    have e1 : stp e 127 fr d s y = y := by
      unfold stp
      rw [if_neg (fun z => by omega)]
    rw [e1]
    exact ih (s + 1) y (by omega)
set_option maxRecDepth 20000 in
set_option maxHeartbeats 400000 in
theorem dayX_all {e : Env} {sh b fr : Nat} {x : XX} (hsh : sh ≤ 7) : dayX e sh 127 fr x = dayX e 0 b fr x := by
  unfold dayX
  rw [shp_all sh 0 _ (by omega)]
  rfl
/-- through days of storms, which the bits tell -/
def thr (e : Env) (sh m : Nat) : Nat → Nat → XX → XX
  | 0, _, x => x
  | r + 1, s, x => thr e sh m r (s + 1) (if m / 2 ^ s % 2 = 0 then dayX e sh 0 6 x else dayX e 0 0 6 x)
def zc (m : Nat) : Nat → Nat → Nat
  | 0, _ => 0
  | r + 1, s => (if m / 2 ^ s % 2 = 0 then 1 else 0) + zc m r (s + 1)
set_option maxRecDepth 20000 in
set_option maxHeartbeats 400000 in
theorem tb_zc : (List.range 8).all (fun n => (List.range 128).all (fun m => decide (m < 2 ^ n → pc m + zc m n 0 = n))) = true := by decide +kernel
set_option maxRecDepth 20000 in
set_option maxHeartbeats 400000 in
theorem zc_eq {n m : Nat} (hn : n ≤ 7) (hm : m < 2 ^ n) : pc m + zc m n 0 = n := by
  have h : 2 ^ n ≤ 2 ^ 7 := Nat.pow_le_pow_right (by omega) hn
  exact all2 tb_zc (show n < 8 by omega) (show m < 128 by omega) hm
set_option maxRecDepth 20000 in
set_option maxHeartbeats 400000 in
theorem l_through {u hd k f g l : Nat → Nat} {sh m s0 N : Nat} (hE : OkE (u, hd, k, f, g, l)) (hsh : sh ≤ 7) (hs0 : s0 < 7) (hN : N ≤ 7) (hm : m < 128) : ∀ (r s n D : Nat) (x : Int32) (t i : Nat → Nat) (co d : Nat), x = iI (s : Int) → s + r = N → r < n → OkX D (t, i, co, d) → D + r ≤ 2000 →
    ∃ Mz : Hs, X4_isInThrough_L9 (fun m_there_7 m_inn_8 m_coughs_9 m_day_10 => (X0_isIn m_inn_8 (iI (s0 : Int))).bind fun u_11 => (c01 u_11).bind fun b_13 => some (m_there_7, rn 6 u, rn 6 hd, rn 7 k, rn 7 f, rn 7 g, rn 7 l, iI (sh : Int), m_inn_8, m_coughs_9, m_day_10, b_13)) (rn 6 u) (rn 6 hd) (rn 7 k) (rn 7 f) (rn 7 g) (rn 7 l) (iI sh) (iI N) (iI (m : Int)) n x (rn 6 t) (iI (mk i)) (iI co) (iI d) = some (Mz.1, Mz.2.1, Mz.2.2.1, Mz.2.2.2.1, Mz.2.2.2.2.1, Mz.2.2.2.2.2.1, Mz.2.2.2.2.2.2.1, Mz.2.2.2.2.2.2.2.1, Mz.2.2.2.2.2.2.2.2.1, Mz.2.2.2.2.2.2.2.2.2.1, Mz.2.2.2.2.2.2.2.2.2.2, iI ((thr (u, hd, k, f, g, l) sh m r s (t, i, co, d)).2.1 s0 : Int)) ∧ MJ Mz := by
  intro r
  induction r with
  | zero =>
    intro s n D x t i co d hx hs hn hX hD
    obtain ⟨n, rfl⟩ : ∃ m, n = m + 1 := ⟨n - 1, by omega⟩
    subst hx
    rw [X4_isInThrough_L9, if_pos (tle (by omega) (by omega) (by omega)), s_X0_isIn (xI hX) (by omega) (by omega), Option.bind_some, Int.toNat_natCast, c01_i (xI hX s0), Option.bind_some]
    exact exM ⟨rn_len, rn_len, rn_len, rn_len, rn_len, rn_len, rn_len⟩
  | succ r ih =>
    intro s n D x t i co d hx hs hn hX hD
    obtain ⟨n, rfl⟩ : ∃ m, n = m + 1 := ⟨n - 1, by omega⟩
    subst hx
    have w0 := s_X0_passDay (b := 0) hE hsh (by omega) (hX.mono (show D ≤ 2000 by omega))
    have w1 := s_X0_passDay (b := 127) hE hsh (by omega) (hX.mono (show D ≤ 2000 by omega))
    rw [z00] at w0
    rw [show iI ((127 : Nat) : Int) = (127 : Int32) by decide, dayX_all (b := 0) hsh] at w1
    rw [X4_isInThrough_L9, if_neg (fle (by omega) (by omega) (by omega)), L31, L1, bit_rd hm (by omega) (by omega), Int.toNat_natCast, ← L1]
    unfold thr
    by_cases c : m / 2 ^ s % 2 = 0
    · rw [if_pos (show iI ((m / 2 ^ s % 2 : Nat) : Int) = (0 : Int32) by rw [c]; decide), if_pos c, w0, Option.bind_some]
      exact ih (s + 1) n (D + 1) _ _ _ _ _ (iI_s s) (by omega) (by omega) (dayX_ok hX) (by omega)
    · rw [if_neg (show ¬ iI ((m / 2 ^ s % 2 : Nat) : Int) = (0 : Int32) from ne0 (by omega) (by omega)), if_neg c, w1, Option.bind_some]
      exact ih (s + 1) n (D + 1) _ _ _ _ _ (iI_s s) (by omega) (by omega) (dayX_ok hX) (by omega)
set_option maxRecDepth 20000 in
set_option maxHeartbeats 400000 in
theorem s_X4_isInThrough {A1 A2 A3 A4 A5 A6 A7 : List Int32} {a1 a2 a3 a4 : Int32} {u hd k f g l t i : Nat → Nat} {sh co d : Nat} {s0 N m : Nat} (hM : MJ (A1, A2, A3, A4, A5, A6, A7, a1, a2, a3, a4)) (hE : OkE (u, hd, k, f, g, l)) (hsh : sh ≤ 7) (hX : OkX 1000 (t, i, co, d)) (hs0 : s0 < 7) (hN : N ≤ 7) (hm : m < 128) : ∃ Mz : Hs, X4_isInThrough A1 A2 A3 A4 A5 A6 A7 (rn 6 t) (rn 6 u) (rn 6 hd) (rn 7 k) (rn 7 f) (rn 7 g) (rn 7 l) a1 a2 a3 a4 (iI sh) (iI (mk i)) (iI co) (iI d) (iI (s0 : Int)) (iI (N : Int)) (iI (m : Int)) = some (Mz.1, Mz.2.1, Mz.2.2.1, Mz.2.2.2.1, Mz.2.2.2.2.1, Mz.2.2.2.2.2.1, Mz.2.2.2.2.2.2.1, Mz.2.2.2.2.2.2.2.1, Mz.2.2.2.2.2.2.2.2.1, Mz.2.2.2.2.2.2.2.2.2.1, Mz.2.2.2.2.2.2.2.2.2.2, iI ((thr (u, hd, k, f, g, l) sh m N 0 (t, i, co, d)).2.1 s0 : Int)) ∧ MJ Mz := by
  unfold X4_isInThrough
  rw [s_X4_fromNow hM, Option.bind_some]
  exact l_through hE hsh hs0 hN hm N 0 1000 1000 0 t i co d (by decide) (by omega) (by omega) hX (by omega)
set_option maxRecDepth 20000 in
set_option maxHeartbeats 400000 in
theorem thr_ok {e : Env} {sh m : Nat} : ∀ (r s D : Nat) (x : XX), OkX D x → OkX (D + r) (thr e sh m r s x) := by
  intro r
  induction r with
  | zero => intro s D x h; exact h
  | succ r ih =>
    intro s D x h
    unfold thr
    split
    · exact (ih (s + 1) (D + 1) _ (dayX_ok h)).mono (by omega)
    · exact (ih (s + 1) (D + 1) _ (dayX_ok h)).mono (by omega)
set_option maxRecDepth 20000 in
set_option maxHeartbeats 400000 in
theorem l_power {c : Nat} {N : Nat} (hc : c ≤ 20) (hN : N ≤ 7) : ∀ (r s n p : Nat) (x : Int32), x = iI (s : Int) → s + r = N → r < n → X4_power_L5 (fun y2_1 => some y2_1) (iI (c : Int)) (iI (N : Int)) n (jI (p : Int)) x = some (jI ((p * c ^ r : Nat) : Int)) := by
  intro r
  induction r with
  | zero =>
    intro s n p x hx hs hn
    obtain ⟨m, rfl⟩ : ∃ m, n = m + 1 := ⟨n - 1, by omega⟩
    subst hx
    rw [X4_power_L5, if_pos (tle (by omega) (by omega) (by omega)), Nat.pow_zero, Nat.mul_one]
  | succ r ih =>
    intro s n p x hx hs hn
    obtain ⟨m, rfl⟩ : ∃ m, n = m + 1 := ⟨n - 1, by omega⟩
    subst hx
    rw [X4_power_L5, if_neg (fle (by omega) (by omega) (by omega)), jI_of (by omega) (by omega), jI_mul, ← Int.natCast_mul, ih (s + 1) m (p * c) _ (iI_s s) (by omega) (by omega), Nat.mul_assoc, Nat.pow_succ, Nat.mul_comm c]
set_option maxRecDepth 20000 in
set_option maxHeartbeats 400000 in
theorem s_power {c N : Nat} (hc : c ≤ 20) (hN : N ≤ 7) : X4_power (iI (c : Int)) (iI (N : Int)) = some (jI ((c ^ N : Nat) : Int)) := by
  unfold X4_power
  rw [show (1 : Int64) = jI ((1 : Nat) : Int) by decide, l_power hc hN N 0 1000 1 0 (by decide) (by omega) (by omega), Nat.one_mul]
set_option maxRecDepth 20000 in
set_option maxHeartbeats 400000 in
theorem l_down {T N : Nat} (hT : T ≤ 20) (hN : N ≤ 7) (K : Int64 → Option (List Int32 × List Int32 × List Int32 × List Int32 × List Int32 × List Int32 × List Int32 × List Int32 × List Int32 × List Int32 × Int32 × Int32 × Int32 × Int32 × Int32 ×  Int64)) : ∀ (r s n p : Nat) (x : Int32), x = iI (s : Int) → s + r = N → r < n → X5_storms_L82 K (iI (N : Int)) (iI (T : Int)) n (jI (p : Int)) x = K (jI ((p * T ^ r : Nat) : Int)) := by
  intro r
  induction r with
  | zero =>
    intro s n p x hx hs hn
    obtain ⟨m, rfl⟩ : ∃ m, n = m + 1 := ⟨n - 1, by omega⟩
    subst hx
    rw [X5_storms_L82, if_pos (tle (by omega) (by omega) (by omega)), Nat.pow_zero, Nat.mul_one]
  | succ r ih =>
    intro s n p x hx hs hn
    obtain ⟨m, rfl⟩ : ∃ m, n = m + 1 := ⟨n - 1, by omega⟩
    subst hx
    rw [X5_storms_L82, if_neg (fle (by omega) (by omega) (by omega)), jI_of (by omega) (by omega), jI_mul, ← Int.natCast_mul, ih (s + 1) m (p * T) _ (iI_s s) (by omega) (by omega), Nat.mul_assoc, Nat.pow_succ, Nat.mul_comm T]
set_option maxRecDepth 20000 in
set_option maxHeartbeats 400000 in
theorem l_parts {u hd k f g l : Nat → Nat} {sh m N T : Nat} (hE : OkE (u, hd, k, f, g, l)) (hsh : sh ≤ 7) (hN : N ≤ 7) (hm : m < 128) (hT : T ≤ 20) (hT2 : 2 ≤ T) (K : Int64 → List Int32 → List Int32 → Int32 → Int32 → Option (List Int32 × List Int32 × List Int32 × List Int32 × List Int32 × List Int32 × List Int32 × List Int32 × List Int32 × List Int32 × Int32 × Int32 × Int32 × Int32 × Int32 ×  Int64)) : ∀ (r s n D p : Nat) (x : Int32) (t i : Nat → Nat) (co d : Nat), x = iI (s : Int) → s + r = N → r < n → OkX D (t, i, co, d) → D + r ≤ 2000 →
    X5_storms_L122 K (rn 6 u) (rn 6 hd) (rn 7 k) (rn 7 f) (rn 7 g) (rn 7 l) (iI sh) 0 (iI (fI 6)) (iI (N : Int)) (iI (T : Int)) (iI (m : Int)) n (jI (p : Int)) x (rn 6 t) (rn 7 i) (iI co) (iI d) = K (jI ((p * (T - 1) ^ zc m r s : Nat) : Int)) (rn 6 (thr (u, hd, k, f, g, l) sh m r s (t, i, co, d)).1) (rn 7 (thr (u, hd, k, f, g, l) sh m r s (t, i, co, d)).2.1) (iI (thr (u, hd, k, f, g, l) sh m r s (t, i, co, d)).2.2.1) (iI (thr (u, hd, k, f, g, l) sh m r s (t, i, co, d)).2.2.2) := by
  intro r
  induction r with
  | zero =>
    intro s n D p x t i co d hx hs hn hX hD
    obtain ⟨n, rfl⟩ : ∃ m, n = m + 1 := ⟨n - 1, by omega⟩
    subst hx
    rw [X5_storms_L122, if_pos (tle (by omega) (by omega) (by omega)), zc, Nat.pow_zero, Nat.mul_one]
    rfl
  | succ r ih =>
    intro s n D p x t i co d hx hs hn hX hD
    obtain ⟨n, rfl⟩ : ∃ m, n = m + 1 := ⟨n - 1, by omega⟩
    subst hx
    have w0 := s_X5_goesDay (b := 0) (fr := 6) (by omega) hE hsh (by omega) (hX.mono (show D ≤ 2000 by omega))
    have w1 := s_X5_goesDay1 (b := 0) (fr := 6) (by omega) hE hsh (hX.mono (show D ≤ 2000 by omega))
    rw [z00] at w0 w1
    rw [X5_storms_L122, if_neg (fle (by omega) (by omega) (by omega)), s_X5_has hm (by omega) (by omega), Option.bind_some, Int.toNat_natCast]
    unfold thr zc
    by_cases c : m / 2 ^ s % 2 = 0
    · rw [if_pos (show iI ((m / 2 ^ s % 2 : Nat) : Int) = (0 : Int32) by rw [c]; decide), Option.bind_some, c, z00, w0, Option.bind_some, if_pos rfl, if_pos rfl, show iI (T : Int) - (1 : Int32) = iI ((T - 1 : Nat) : Int) by rw [L1, iI_sub]; exact iI_c (by omega), jI_of (by omega) (by omega), jI_mul, ← Int.natCast_mul]
      rw [Nat.pow_add, Nat.pow_one, ← Nat.mul_assoc]
      exact ih (s + 1) n (D + 1) (p * (T - 1)) _ _ _ _ _ (iI_s s) (by omega) (by omega) (dayX_ok (e := (u, hd, k, f, g, l)) (sh := sh) (b := 0) (fr := 6) hX) (by omega)
    · have c1 : m / 2 ^ s % 2 = 1 := by omega
      rw [if_neg (show ¬ iI ((m / 2 ^ s % 2 : Nat) : Int) = (0 : Int32) from ne0 (by omega) (by omega)), Option.bind_some, c1, z11, w1, Option.bind_some, if_neg (show ¬ 1 = 0 by omega), if_neg (show ¬ 1 = 0 by omega), show jI (p : Int) * (1 : Int64) = jI (p : Int) by rw [J1, jI_mul]; exact congrArg jI (by omega), Nat.zero_add]
      exact ih (s + 1) n (D + 1) p _ _ _ _ _ (iI_s s) (by omega) (by omega) (dayX_ok (e := (u, hd, k, f, g, l)) (sh := 0) (b := 0) (fr := 6) hX) (by omega)
set_option maxRecDepth 20000 in
set_option maxHeartbeats 400000 in
theorem tb_shl8 : (List.range 8).all (fun s => decide (((1 : Int32) <<< (iI (s : Int) &&& (31 : Int32))) = iI ((2 ^ s : Nat) : Int))) = true := by decide +kernel
set_option maxRecDepth 20000 in
set_option maxHeartbeats 400000 in
theorem shl8 {s : Nat} (hs : s ≤ 7) : ((1 : Int32) <<< (iI (s : Int) &&& (31 : Int32))) = iI ((2 ^ s : Nat) : Int) := of_decide_eq_true (List.all_eq_true.mp tb_shl8 s (List.mem_range.mpr (by omega)))
set_option maxRecDepth 20000 in
set_option maxHeartbeats 400000 in
theorem pw_le {c z : Nat} (hc : c ≤ 19) (hz : z ≤ 7) : c ^ z ≤ 893871739 := by
  rcases Nat.eq_zero_or_pos c with rfl | h
  · cases z with
    | zero => decide
    | succ z => rw [Nat.pow_succ, Nat.mul_zero]; omega
  · exact Nat.le_trans (Nat.pow_le_pow_right h hz) (Nat.le_trans (Nat.pow_le_pow_left hc 7) (by decide))
set_option maxRecDepth 20000 in
set_option maxHeartbeats 400000 in
theorem bnd1 {c s : Nat} (h : c ≤ s * 893871739) (hs : s ≤ 128) : c ≤ 114415582592 := Nat.le_trans h (Nat.mul_le_mul_right 893871739 hs)
set_option maxRecDepth 20000 in
set_option maxHeartbeats 400000 in
theorem bnd2 {c s : Nat} (h : c ≤ s * 893871739) : c ≤ (s + 1) * 893871739 := Nat.le_trans h (Nat.mul_le_mul_right 893871739 (Nat.le_succ s))
set_option maxRecDepth 20000 in
set_option maxHeartbeats 400000 in
theorem bnd3 {c s p : Nat} (h : c ≤ s * 893871739) (hp : p ≤ 893871739) : c + p ≤ (s + 1) * 893871739 := by
  rw [Nat.succ_mul]
  exact Nat.add_le_add h hp
def GJ (u hd k f g l t i : Nat → Nat) (sh co d : Nat) (F : Nat → Int32) (P : Option (List Int32 × List Int32 × List Int32 × List Int32 × List Int32 × List Int32 × List Int32 × List Int32 × Int32 × Int32 × Int32 × Int32 ×  Int64)) (Q : Option (List Int32 × List Int32 × List Int32 × List Int32 × List Int32 × List Int32 × List Int32 × List Int32 × List Int32 × List Int32 × Int32 × Int32 × Int32 × Int32 × Int32 ×  Int64)) : Prop := ∃ (R1 : List Int32) (Mz : Hs) (F1 : Nat → Int32) (y1 y2 : Int32) (r : Int64), P = some (R1, Mz.1, Mz.2.1, Mz.2.2.1, Mz.2.2.2.1, Mz.2.2.2.2.1, Mz.2.2.2.2.2.1, Mz.2.2.2.2.2.2.1, Mz.2.2.2.2.2.2.2.1, Mz.2.2.2.2.2.2.2.2.1, Mz.2.2.2.2.2.2.2.2.2.1, Mz.2.2.2.2.2.2.2.2.2.2, r) ∧ Q = some (R1, rn 6 t, rn 6 u, rn 6 hd, rn 7 k, rn 7 f, rn 7 g, rn 7 l, rn 7 i, rq 616 F1, iI sh, iI co, iI d, y1, y2, r) ∧ MJ Mz ∧ Kp F F1 ∧ R1.length = 7
set_option maxRecDepth 20000 in
set_option maxHeartbeats 400000 in
theorem exoJ {u hd k f g l t i : Nat → Nat} {sh co d : Nat} {R B1 B2 B3 B4 B5 B6 B7 : List Int32} {b1 b2 b3 b4 w1 w2 : Int32} {v : Int64} {F F2 : Nat → Int32} (h1 : MJ (B1, B2, B3, B4, B5, B6, B7, b1, b2, b3, b4)) (h2 : Kp F F2) (h3 : R.length = 7) :
    GJ u hd k f g l t i sh co d F (some (R, B1, B2, B3, B4, B5, B6, B7, b1, b2, b3, b4, v)) (some (R, rn 6 t, rn 6 u, rn 6 hd, rn 7 k, rn 7 f, rn 7 g, rn 7 l, rn 7 i, rq 616 F2, iI sh, iI co, iI d, w1, w2, v)) :=
  ⟨R, (B1, B2, B3, B4, B5, B6, B7, b1, b2, b3, b4), F2, w1, w2, v, rfl, rfl, h1, h2, h3⟩
set_option maxRecDepth 20000 in
set_option maxHeartbeats 400000 in
theorem l_storms {u hd k f g l t i : Nat → Nat} {sh co d : Nat} {s0 N T : Nat} {F0 : Nat → Int32} (Gp : Option (List Int32 × List Int32 × List Int32 × List Int32 × List Int32 × List Int32 × List Int32 × List Int32 × Int32 × Int32 × Int32 × Int32 ×  Int64) → Option (List Int32 × List Int32 × List Int32 × List Int32 × List Int32 × List Int32 × List Int32 × List Int32 × List Int32 × List Int32 × Int32 × Int32 × Int32 × Int32 × Int32 ×  Int64) → Prop) (K4 : Int64 → List Int32 → List Int32 → List Int32 → List Int32 → List Int32 → List Int32 → List Int32 → Int32 → Int32 → Int32 → Int32 →  Option (List Int32 × List Int32 × List Int32 × List Int32 × List Int32 × List Int32 × List Int32 × List Int32 × Int32 × Int32 × Int32 × Int32 ×  Int64)) (K5 : Int64 → List Int32 → List Int32 → List Int32 → List Int32 → List Int32 → List Int32 → List Int32 → List Int32 → List Int32 → Int32 → Int32 → Int32 → Int32 → Int32 →  Option (List Int32 × List Int32 × List Int32 × List Int32 × List Int32 × List Int32 × List Int32 × List Int32 × List Int32 × List Int32 × Int32 × Int32 × Int32 × Int32 × Int32 ×  Int64)) (hE : OkE (u, hd, k, f, g, l)) (hsh : sh ≤ 7) (hX : OkX 1000 (t, i, co, d)) (hs0 : s0 < 7) (hN : N ≤ 7) (hT : T ≤ 20) (hT2 : 2 ≤ T)
    (hG : ∀ (x : Nat) {A1 A2 A3 A4 A5 A6 A7 : List Int32} {a1 a2 a3 a4 : Int32} (F1 : Nat → Int32) (z1 z2 : Int32), x ≤ 114415582592 → MJ (A1, A2, A3, A4, A5, A6, A7, a1, a2, a3, a4) → Kp F0 F1 → Gp (K4 (jI (x : Int)) A1 A2 A3 A4 A5 A6 A7 a1 a2 a3 a4) (K5 (jI (x : Int)) (rn 6 t) (rn 6 u) (rn 6 hd) (rn 7 k) (rn 7 f) (rn 7 g) (rn 7 l) (rn 7 i) (rq 616 F1) (iI sh) (iI co) (iI d) z1 z2)) : ∀ (r s n c : Nat) {A1 A2 A3 A4 A5 A6 A7 : List Int32} {a1 a2 a3 a4 : Int32} {x z1 z2 : Int32} {F : Nat → Int32}, x = iI (s : Int) → s + r = 2 ^ N → r < n → MJ (A1, A2, A3, A4, A5, A6, A7, a1, a2, a3, a4) → Kp F0 F → c ≤ s * 893871739 →
    Gp (X4_storms_L76 K4 (rn 6 t) (rn 6 u) (rn 6 hd) (rn 7 k) (rn 7 f) (rn 7 g) (rn 7 l) (iI sh) (iI (mk i)) (iI co) (iI d) (iI (s0 : Int)) (iI (N : Int)) (iI (T : Int)) n (jI (c : Int)) x A1 A2 A3 A4 A5 A6 A7 a1 a2 a3 a4) (X5_storms_L104 K5 0 (iI (fI 6)) (iI (s0 : Int)) (iI (N : Int)) (iI (T : Int)) n (jI (c : Int)) x (rn 6 t) (rn 6 u) (rn 6 hd) (rn 7 k) (rn 7 f) (rn 7 g) (rn 7 l) (rn 7 i) (rq 616 F) (iI sh) (iI co) (iI d) z1 z2) := by
  have h2 : 2 ^ N ≤ 128 := Nat.pow_le_pow_right (by omega) hN
  intro r
  induction r with
  | zero =>
    intro s n c A1 A2 A3 A4 A5 A6 A7 a1 a2 a3 a4 x z1 z2 F hx hs hn hM hK hc
    obtain ⟨m, rfl⟩ : ∃ m, n = m + 1 := ⟨n - 1, by omega⟩
    subst hx
    have q : iI ((2 ^ N : Nat) : Int) ≤ iI (s : Int) := tle (by omega) (by omega) (by omega)
    rw [X4_storms_L76, X5_storms_L104, shl8 hN, if_pos q, if_pos q]
    exact hG c F z1 z2 (bnd1 hc (by omega)) hM hK
  | succ r ih =>
    intro s n c A1 A2 A3 A4 A5 A6 A7 a1 a2 a3 a4 x z1 z2 F hx hs hn hM hK hc
    obtain ⟨m, rfl⟩ : ∃ m, n = m + 1 := ⟨n - 1, by omega⟩
    subst hx
    have q : ¬ iI ((2 ^ N : Nat) : Int) ≤ iI (s : Int) := fle (by omega) (by omega) (by omega)
    have hz := thr_ok (e := (u, hd, k, f, g, l)) (sh := sh) (m := s) N 0 1000 (t, i, co, d) hX
    have b1 := hz.2.1 s0
    have zq := zc_eq hN (show s < 2 ^ N by omega)
    have hp := pw_le (c := T - 1) (z := zc s N 0) (by omega) (by omega)
    obtain ⟨M1, e1, k1⟩ := s_X4_isInThrough (m := s) hM hE hsh hX hs0 hN (by omega)
    rw [X4_storms_L76, X5_storms_L104, shl8 hN, if_neg q, if_neg q, e1, Option.bind_some, s_thinks, Option.bind_some, show (1 : Int64) = jI ((1 : Nat) : Int) by decide, l_parts hE hsh hN (show s < 128 by omega) hT hT2 _ N 0 1000 1000 1 0 t i co d (by decide) (by omega) (by omega) hX (by omega), rd_rn (by omega) (by omega) (by omega), Option.bind_some, Int.toNat_natCast, Nat.one_mul]
    by_cases h0 : (thr (u, hd, k, f, g, l) sh s N 0 (t, i, co, d)).2.1 s0 = 0
    · rw [h0, if_pos z00, if_neg (show ¬ iI ((0 : Nat) : Int) = (1 : Int32) by decide), s_forgetsN, Option.bind_some, show jI (c : Int) + (0 : Int64) = jI (c : Int) by rw [J0, jI_add]; exact congrArg jI (by omega)]
      exact ih (s + 1) m c (iI_s s) (by omega) (by omega) k1 (hK.tr Kp.put2) (bnd2 hc)
    · rw [show (thr (u, hd, k, f, g, l) sh s N 0 (t, i, co, d)).2.1 s0 = 1 by omega, if_neg (show ¬ iI ((1 : Nat) : Int) = (0 : Int32) by decide), if_pos (show iI ((1 : Nat) : Int) = (1 : Int32) by decide), (s_bits (show s < 128 by omega)).1, Option.bind_some, show iI (T : Int) - (1 : Int32) = iI ((T - 1 : Nat) : Int) by rw [L1, iI_sub]; exact iI_c (by omega), iI_sub, show iI ((N : Int) - (pc s : Int)) = iI ((zc s N 0 : Nat) : Int) from iI_c (by omega), s_power (by omega) (by omega), Option.bind_some, s_forgetsN, Option.bind_some, jI_add, ← Int.natCast_add]
      exact ih (s + 1) m (c + (T - 1) ^ zc s N 0) (iI_s s) (by omega) (by omega) k1 (hK.tr Kp.put2) (bnd3 hc hp)
set_option maxRecDepth 20000 in
set_option maxHeartbeats 400000 in
theorem op_storms {A1 A2 A3 A4 A5 A6 A7 : List Int32} {a1 a2 a3 a4 : Int32} {u hd k f g l t i : Nat → Nat} {sh co d : Nat} {R : List Int32} {F : Nat → Int32} {z1 z2 p q v w : Int32} (hM : MJ (A1, A2, A3, A4, A5, A6, A7, a1, a2, a3, a4)) (hE : OkE (u, hd, k, f, g, l)) (hsh : sh ≤ 7) (hX : OkX 1000 (t, i, co, d)) (hR : R.length = 7) :
    GJ u hd k f g l t i sh co d F (X4_storms R A1 A2 A3 A4 A5 A6 A7 (rn 6 t) (rn 6 u) (rn 6 hd) (rn 7 k) (rn 7 f) (rn 7 g) (rn 7 l) a1 a2 a3 a4 (iI sh) (iI (mk i)) (iI co) (iI d) p q v w) (X5_storms R (rn 6 t) (rn 6 u) (rn 6 hd) (rn 7 k) (rn 7 f) (rn 7 g) (rn 7 l) (rn 7 i) (rq 616 F) (iI sh) (iI co) (iI d) 0 z1 z2 (-9) p q v w) := by
  obtain ⟨r1, h1, h1'⟩ := s_refuseLong (R := R) (c := 1) hR (by omega) (by omega)
  obtain ⟨r2, h2, h2'⟩ := s_refuseLong (R := R) (c := 2) hR (by omega) (by omega)
  obtain ⟨r4, h4, h4'⟩ := s_refuseLong (R := R) (c := 4) hR (by omega) (by omega)
  obtain ⟨r6, h6, h6'⟩ := s_refuseLong (R := R) (c := 6) hR (by omega) (by omega)
  unfold X4_storms X5_storms
  rcases ship_cases hsh p with ⟨s0, hs0, rfl, g1, g2⟩ | ⟨g1, g2⟩
  · rw [g1, g2, Option.bind_some, Option.bind_some, if_neg c10, if_neg c10]
    have hq1 := Int32.le_toInt q
    have hq2 := Int32.toInt_lt q
    have eq : q = iI q.toInt := (iI_of q).symm
    generalize q.toInt = mq at *
    subst eq
    have hv1 := Int32.le_toInt v
    have hv2 := Int32.toInt_lt v
    have ev : v = iI v.toInt := (iI_of v).symm
    generalize v.toInt = mv at *
    subst ev
    by_cases c1 : mq < 0
    · have q1 : iI mq < (0 : Int32) := by rw [L0]; exact tlt c1 (by omega) (by omega)
      rw [if_pos q1, if_pos q1, m4, h4, h4', Option.bind_some, Option.bind_some]
      exact exoJ hM Kp.rf (incR_len.trans hR)
    have q1 : ¬ iI mq < (0 : Int32) := by rw [L0]; exact flt (by omega) (by omega) (by omega)
    rw [if_neg q1, if_neg q1]
    by_cases c2 : 2 ≤ mv
    · have q2 : (2 : Int32) ≤ iI mv := by rw [L2]; exact tle c2 (by omega) (by omega)
      rw [if_pos q2, if_pos q2]
      by_cases c3 : 7 < mq
      · have q3 : (7 : Int32) < iI mq := by rw [L7]; exact tlt c3 (by omega) (by omega)
        rw [if_pos q3, if_pos q3, m6, h6, h6', Option.bind_some, Option.bind_some]
        exact exoJ hM Kp.rf (incR_len.trans hR)
      have q3 : ¬ (7 : Int32) < iI mq := by rw [L7]; exact flt (by omega) (by omega) (by omega)
      rw [if_neg q3, if_neg q3]
      by_cases c4 : mv ≤ 20
      · have q4 : iI mv ≤ (20 : Int32) := by rw [L20]; exact tle c4 (by omega) (by omega)
        rw [if_pos q4, if_pos q4]
        rcases what_cases (hi := 1) (by omega) w with ⟨w, hw1, rfl, e1, e2, e3⟩ | ⟨e1, e3⟩ | ⟨e1, e2, e3⟩
        · obtain ⟨N, rfl⟩ := Int.eq_ofNat_of_zero_le (show 0 ≤ mq by omega)
          obtain ⟨T, rfl⟩ := Int.eq_ofNat_of_zero_le (show 0 ≤ mv by omega)
          have hpT : T ^ N ≤ 1280000000 := Nat.le_trans (Nat.pow_le_pow_right (by omega) (show N ≤ 7 by omega)) (Nat.le_trans (Nat.pow_le_pow_left (show T ≤ 20 by omega) 7) (by decide))
          have hp0 : 0 < T ^ N := Nat.pow_pos (by omega)
          have h27 : 2 ^ N ≤ 128 := Nat.pow_le_pow_right (by omega) (show N ≤ 7 by omega)
          rw [if_neg e1, if_pos (show iI (w : Int) ≤ (1 : Int32) from e2), show X5_isIn (iI (w : Int)) 0 1 = some 1 from e3, Option.bind_some, if_neg c10, show (1 : Int64) = jI ((1 : Nat) : Int) by decide, l_down (show T ≤ 20 by omega) (show N ≤ 7 by omega) _ N 0 1000 1 0 (by decide) (by omega) (by omega), Nat.one_mul, show (0 : Int64) = jI ((0 : Nat) : Int) by decide, f9]
          refine l_storms (F0 := F) (GJ u hd k f g l t i sh co d F) _ _ hE hsh hX (show s0 < 7 by omega) (show N ≤ 7 by omega) (show T ≤ 20 by omega) (show 2 ≤ T by omega) (fun x A1 A2 A3 A4 A5 A6 A7 a1 a2 a3 a4 F1 z1 z2 k0 k1 k2 => ?_) (2 ^ N) 0 1000 0 (by decide) (by omega) (by omega) hM Kp.rf (Nat.zero_le _)
          obtain ⟨v2, w1, w2⟩ := s_part2 (a := x) (b := T ^ N) (w := w) (by omega) (by omega) hp0 hw1
          rw [s_power (by omega) (by omega), Option.bind_some, w1, w2, Option.bind_some, Option.bind_some]
          exact exoJ k1 k2 hR
        · rw [if_pos e1, show X5_isIn w 0 1 = some 0 from e3, Option.bind_some, if_pos rfl, m2, h2, h2', Option.bind_some, Option.bind_some]
          exact exoJ hM Kp.rf (incR_len.trans hR)
        · rw [if_neg e1, if_neg (show ¬ w ≤ (1 : Int32) from e2), show X5_isIn w 0 1 = some 0 from e3, Option.bind_some, if_pos rfl, m2, h2, h2', Option.bind_some, Option.bind_some]
          exact exoJ hM Kp.rf (incR_len.trans hR)
      · have q4 : ¬ iI mv ≤ (20 : Int32) := by rw [L20]; exact fle (by omega) (by omega) (by omega)
        rw [if_neg q4, if_neg q4, m6, h6, h6', Option.bind_some, Option.bind_some]
        exact exoJ hM Kp.rf (incR_len.trans hR)
    · have q2 : ¬ (2 : Int32) ≤ iI mv := by rw [L2]; exact fle (by omega) (by omega) (by omega)
      rw [if_neg q2, if_neg q2, m4, h4, h4', Option.bind_some, Option.bind_some]
      exact exoJ hM Kp.rf (incR_len.trans hR)
  · rw [g1, g2, Option.bind_some, Option.bind_some, if_pos rfl, if_pos rfl, m1, h1, h1', Option.bind_some, Option.bind_some]
    exact exoJ hM Kp.rf (incR_len.trans hR)
