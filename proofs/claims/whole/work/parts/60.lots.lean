/-! LOTS -/
set_option maxRecDepth 20000 in
set_option maxHeartbeats 400000 in
theorem draw_v (x : Int32) : ∃ v : Nat, v < 40 ∧ ((x &&& 2147483647) >>> ((16 : Int32) &&& 31)) - ((x &&& 2147483647) >>> ((16 : Int32) &&& 31)) / 40 * 40 = iI (v : Int) ∧ (x &&& 2147483647) / 65536 - (x &&& 2147483647) / 65536 / 40 * 40 = iI (v : Int) := by
  have e1 := Jvm.Kit.i32_mask x 2147483647 (k := 31) (by decide) (by decide)
  obtain ⟨a, ha, e⟩ : ∃ a : Nat, a < 2147483648 ∧ (x &&& 2147483647) = iI (a : Int) := ⟨(x.toInt % 2 ^ 31).toNat, by omega, by
    rw [← iI_of (x &&& 2147483647), e1]
    exact iI_c (by omega)⟩
  have e2 : iI (a : Int) >>> ((16 : Int32) &&& 31) = iI ((a / 65536 : Nat) : Int) := by
    have h := Jvm.Kit.i32_shr (iI (a : Int)) ((16 : Int32) &&& 31) (k := 16) (by decide)
    rw [iI_toInt (by omega) (by omega)] at h
    rw [← iI_of (iI (a : Int) >>> ((16 : Int32) &&& 31)), h]
    exact iI_c (by omega)
  have e3 : iI (a : Int) / (65536 : Int32) = iI ((a / 65536 : Nat) : Int) := by
    rw [L65536, iI_div (by omega) (by omega) (by omega) (by omega)]
    exact iI_c (by omega)
  refine ⟨a / 65536 % 40, by omega, ?_, ?_⟩
  · rw [e, e2, L40, iI_div (by omega) (by omega) (by omega) (by omega), iI_mul, iI_sub]
    exact iI_c (by omega)
  · rw [e, e3, L40, iI_div (by omega) (by omega) (by omega) (by omega), iI_mul, iI_sub]
    exact iI_c (by omega)
set_option maxRecDepth 20000 in
set_option maxHeartbeats 400000 in
theorem l_draws (K4 : Int32 → List Int32 → Option (List Int32 × List Int32 × List Int32 × List Int32 × List Int32 × List Int32 × List Int32 × List Int32 × Int32 × Int32 × Int32 × Int32 ×  Int32)) (K5 : List Int32 → Int32 → Option (List Int32 × List Int32 × List Int32 × List Int32 × List Int32 × List Int32 × List Int32 × List Int32 × List Int32 × List Int32 × Int32 × Int32 × Int32 × Int32 × Int32 × Int32 × Int32)) : ∀ (r s n : Nat) (x : Int32) (y : Int32) (w : Nat → Nat), x = iI (s : Int) → s + r = 6 → r < n → (∀ j, w j ≤ 99) → ∃ (w1 : Nat → Nat) (y1 : Int32), (∀ j, w1 j ≤ 99) ∧ X4_lots_L61 K4 n y x (rn 6 w) = K4 y1 (rn 6 w1) ∧ X5_lots_L63 K5 n x (rn 6 w) y = K5 (rn 6 w1) y1 := by
  intro r
  induction r with
  | zero =>
    intro s n x y w hx hs hn hw
    obtain ⟨m, rfl⟩ : ∃ m, n = m + 1 := ⟨n - 1, by omega⟩
    subst hx
    have q : (6 : Int32) ≤ iI (s : Int) := by rw [L6]; exact tle (by omega) (by omega) (by omega)
    rw [X4_lots_L61, X5_lots_L63, if_pos q, if_pos q]
    exact ⟨w, y, hw, rfl, rfl⟩
  | succ r ih =>
    intro s n x y w hx hs hn hw
    obtain ⟨m, rfl⟩ : ∃ m, n = m + 1 := ⟨n - 1, by omega⟩
    subst hx
    have q : ¬ (6 : Int32) ≤ iI (s : Int) := by rw [L6]; exact fle (by omega) (by omega) (by omega)
    obtain ⟨v, hv, v1, v2⟩ := draw_v (y * 1103515245 + 12345)
    rw [X4_lots_L61, X5_lots_L63, if_neg q, if_neg q, v1, wr_rn (by omega) (by omega) (by omega) (by omega), Option.bind_some, X5_draw, if_neg (show ¬ (40 : Int32) = 0 by decide), v2, Option.bind_some, wr_rn (by omega) (by omega) (by omega) (by omega), Option.bind_some, Int.toNat_natCast, Int.toNat_natCast]
    exact ih (s + 1) m _ _ _ (iI_s s) (by omega) (by omega) (fun j => upN_le hw (by omega) j)
set_option maxRecDepth 20000 in
set_option maxHeartbeats 400000 in
theorem l_lots {u hd k f g l t i : Nat → Nat} {sh co d : Nat} {R : List Int32} {N w : Nat} {F0 : Nat → Int32} (hE : OkE (u, hd, k, f, g, l)) (hsh : sh ≤ 7) (hX : OkX 1000 (t, i, co, d)) (hO : OutI sh i) (hN : N ≤ 20) : ∀ (r s n : Nat) {A1 A2 A3 A4 A5 A6 A7 : List Int32} {a1 a2 a3 a4 : Int32} {x v y z1 z2 : Int32} {F : Nat → Int32}, x = iI (s : Int) → s + r = N → r < n → MJ (A1, A2, A3, A4, A5, A6, A7, a1, a2, a3, a4) → Kp F0 F →
    ∃ (Mz : Hs) (F1 : Nat → Int32) (y1 y2 y3 r1 : Int32), X4_lots_L46 (fun (y : Int32) (q1 q2 q3 q4 q5 q6 q7 : List Int32) (q8 q9 q10 q11 : Int32) => some (R, q1, q2, q3, q4, q5, q6, q7, q8, q9, q10, q11, y)) (rn 6 t) (rn 6 u) (rn 6 hd) (rn 7 k) (rn 7 f) (rn 7 g) (rn 7 l) (iI sh) (iI (mk i)) (iI co) (iI d) (iI (N : Int)) (iI (w : Int)) n v y x A1 A2 A3 A4 A5 A6 A7 a1 a2 a3 a4 = some (R, Mz.1, Mz.2.1, Mz.2.2.1, Mz.2.2.2.1, Mz.2.2.2.2.1, Mz.2.2.2.2.2.1, Mz.2.2.2.2.2.2.1, Mz.2.2.2.2.2.2.2.1, Mz.2.2.2.2.2.2.2.2.1, Mz.2.2.2.2.2.2.2.2.2.1, Mz.2.2.2.2.2.2.2.2.2.2, r1) ∧ X5_lots_L50 (fun (v : Int32) (q1 q2 q3 q4 q5 q6 q7 q8 q9 : List Int32) (q10 q11 q12 q13 q14 q15 : Int32) => some (R, q1, q2, q3, q4, q5, q6, q7, q8, q9, q10, q11, q12, q13, q14, q15, v)) 0 (iI (fI 6)) (iI (N : Int)) (iI (w : Int)) n v x (rn 6 t) (rn 6 u) (rn 6 hd) (rn 7 k) (rn 7 f) (rn 7 g) (rn 7 l) (rn 7 i) (rq 616 F) (iI sh) (iI co) (iI d) z1 z2 y = some (R, rn 6 t, rn 6 u, rn 6 hd, rn 7 k, rn 7 f, rn 7 g, rn 7 l, rn 7 i, rq 616 F1, iI sh, iI co, iI d, y1, y2, y3, r1) ∧ MJ Mz ∧ Kp F0 F1 := by
  intro r
  induction r with
  | zero =>
    intro s n A1 A2 A3 A4 A5 A6 A7 a1 a2 a3 a4 x v y z1 z2 F hx hs hn hM hK
    obtain ⟨m, rfl⟩ : ∃ m, n = m + 1 := ⟨n - 1, by omega⟩
    subst hx
    have q : iI (N : Int) ≤ iI (s : Int) := tle (by omega) (by omega) (by omega)
    rw [X4_lots_L46, X5_lots_L50, if_pos q, if_pos q]
    exact ⟨(A1, A2, A3, A4, A5, A6, A7, a1, a2, a3, a4), F, z1, z2, y, v, rfl, rfl, hM, hK⟩
  | succ r ih =>
    intro s n A1 A2 A3 A4 A5 A6 A7 a1 a2 a3 a4 x v y z1 z2 F hx hs hn hM hK
    obtain ⟨m, rfl⟩ : ∃ m, n = m + 1 := ⟨n - 1, by omega⟩
    subst hx
    have q : ¬ iI (N : Int) ≤ iI (s : Int) := fle (by omega) (by omega) (by omega)
    rw [X4_lots_L46, X5_lots_L50, if_neg q, if_neg q, s_X4_fromNow hM, Option.bind_some, s_thinks, Option.bind_some]
    obtain ⟨w1, y1, hw, e1, e2⟩ := l_draws _ _ 6 0 1000 0 y t (by decide) (by omega) (by omega) (xT hX)
    rw [e1, e2]
    have hX2 : OkX 1000 (w1, i, co, d) := hX.t1 hw
    have hz := daysX_ok (e := (u, hd, k, f, g, l)) (sh := sh) (b := 0) (fr := 6) 10 1000 _ hX2
    have ho := daysX_out (e := (u, hd, k, f, g, l)) (sh := sh) (b := 0) (fr := 6) 10 (w1, i, co, d) hO
    have g0 := s_X0_passDays (N := 10) hE hsh (by omega) (hX2.mono (by omega))
    have g1 := s_X5_goes (b := 0) (fr := 6) (N := 10) (by omega) hE hsh (by omega) (by omega) (hX2.mono (by omega))
    rw [show iI ((10 : Nat) : Int) = (10 : Int32) by decide] at g0 g1
    rw [z00] at g1
    have hm := s_bits (mk_lt hz.2.1)
    rw [g0, Option.bind_some, g1, Option.bind_some]
    by_cases c : iI (w : Int) = (0 : Int32)
    · rw [if_pos c, if_pos c, hm.1, Option.bind_some, s_X5_inOnes hsh hz.2.1 ho, Option.bind_some, hm.2, Option.bind_some, s_forgetsN, Option.bind_some]
      exact ih (s + 1) m (iI_s s) (by omega) (by omega) ⟨rn_len, rn_len, rn_len, rn_len, rn_len, rn_len, rn_len⟩ (hK.tr Kp.put2)
    · rw [if_neg c, if_neg c, s_X0_lackOfAll (oU hE) hz.1, Option.bind_some, s_X5_allLack (by omega) (oU hE) hz.1, Option.bind_some, s_forgetsN, Option.bind_some]
      exact ih (s + 1) m (iI_s s) (by omega) (by omega) ⟨rn_len, rn_len, rn_len, rn_len, rn_len, rn_len, rn_len⟩ (hK.tr Kp.put2)
set_option maxRecDepth 20000 in
set_option maxHeartbeats 400000 in
theorem exo3 {u hd k f g l t i : Nat → Nat} {sh co d : Nat} {R B1 B2 B3 B4 B5 B6 B7 : List Int32} {b1 b2 b3 b4 v w1 w2 w3 : Int32} {F F2 : Nat → Int32} (h1 : MJ (B1, B2, B3, B4, B5, B6, B7, b1, b2, b3, b4)) (h2 : Kp F F2) (h3 : R.length = 7) :
    ∃ (R1 : List Int32) (Mz : Hs) (F1 : Nat → Int32) (y1 y2 y3 r : Int32), some (R, B1, B2, B3, B4, B5, B6, B7, b1, b2, b3, b4, v) = some (R1, Mz.1, Mz.2.1, Mz.2.2.1, Mz.2.2.2.1, Mz.2.2.2.2.1, Mz.2.2.2.2.2.1, Mz.2.2.2.2.2.2.1, Mz.2.2.2.2.2.2.2.1, Mz.2.2.2.2.2.2.2.2.1, Mz.2.2.2.2.2.2.2.2.2.1, Mz.2.2.2.2.2.2.2.2.2.2, r) ∧ some (R, rn 6 t, rn 6 u, rn 6 hd, rn 7 k, rn 7 f, rn 7 g, rn 7 l, rn 7 i, rq 616 F2, iI sh, iI co, iI d, w1, w2, w3, v) = some (R1, rn 6 t, rn 6 u, rn 6 hd, rn 7 k, rn 7 f, rn 7 g, rn 7 l, rn 7 i, rq 616 F1, iI sh, iI co, iI d, y1, y2, y3, r) ∧ MJ Mz ∧ Kp F F1 ∧ R1.length = 7 :=
  ⟨R, (B1, B2, B3, B4, B5, B6, B7, b1, b2, b3, b4), F2, w1, w2, w3, v, rfl, rfl, h1, h2, h3⟩
set_option maxRecDepth 20000 in
set_option maxHeartbeats 400000 in
theorem op_lots {A1 A2 A3 A4 A5 A6 A7 : List Int32} {a1 a2 a3 a4 : Int32} {u hd k f g l t i : Nat → Nat} {sh co d : Nat} {R : List Int32} {F : Nat → Int32} {z1 z2 z3 p q v : Int32} (hM : MJ (A1, A2, A3, A4, A5, A6, A7, a1, a2, a3, a4)) (hE : OkE (u, hd, k, f, g, l)) (hsh : sh ≤ 7) (hX : OkX 1000 (t, i, co, d)) (hO : OutI sh i) (hR : R.length = 7) :
    ∃ (R1 : List Int32) (Mz : Hs) (F1 : Nat → Int32) (y1 y2 y3 r : Int32), X4_lots R A1 A2 A3 A4 A5 A6 A7 (rn 6 t) (rn 6 u) (rn 6 hd) (rn 7 k) (rn 7 f) (rn 7 g) (rn 7 l) a1 a2 a3 a4 (iI sh) (iI (mk i)) (iI co) (iI d) p q v = some (R1, Mz.1, Mz.2.1, Mz.2.2.1, Mz.2.2.2.1, Mz.2.2.2.2.1, Mz.2.2.2.2.2.1, Mz.2.2.2.2.2.2.1, Mz.2.2.2.2.2.2.2.1, Mz.2.2.2.2.2.2.2.2.1, Mz.2.2.2.2.2.2.2.2.2.1, Mz.2.2.2.2.2.2.2.2.2.2, r) ∧ X5_lots R (rn 6 t) (rn 6 u) (rn 6 hd) (rn 7 k) (rn 7 f) (rn 7 g) (rn 7 l) (rn 7 i) (rq 616 F) (iI sh) (iI co) (iI d) 0 z1 z2 (-9) z3 p q v = some (R1, rn 6 t, rn 6 u, rn 6 hd, rn 7 k, rn 7 f, rn 7 g, rn 7 l, rn 7 i, rq 616 F1, iI sh, iI co, iI d, y1, y2, y3, r) ∧ MJ Mz ∧ Kp F F1 ∧ R1.length = 7 := by
  have h2 := s_refuse (R := R) (c := 2) hR (by omega) (by omega)
  have h4 := s_refuse (R := R) (c := 4) hR (by omega) (by omega)
  have h6 := s_refuse (R := R) (c := 6) hR (by omega) (by omega)
  unfold X4_lots X5_lots
  rcases fit_cases (lo := 1) (hi := 20) (by omega) (by omega) p with ⟨n, hn1, hn, rfl, e1, e2⟩ | ⟨e1, e2⟩ | ⟨e1, e2⟩
  · rw [show X4_misfit (iI (n : Int)) 1 20 = some 0 from e1, show X5_bound (iI (n : Int)) 1 20 = some 0 from e2, Option.bind_some, Option.bind_some, if_pos rfl, if_pos rfl]
    rcases what_cases (hi := 1) (by omega) v with ⟨w, hw1, rfl, g1, g2, g3⟩ | ⟨g1, g3⟩ | ⟨g1, g2, g3⟩
    · rw [if_neg g1, if_pos (show iI (w : Int) ≤ (1 : Int32) from g2), show X5_isIn (iI (w : Int)) 0 1 = some 1 from g3, Option.bind_some, if_neg c10, if_pos rfl]
      obtain ⟨Mz, F1, y1, y2, y3, r1, k1, k2, k3, k4⟩ := l_lots (R := R) (w := w) (F0 := F) (F := F) (v := 0) (y := q) (z1 := z1) (z2 := z2) hE hsh hX hO hn n 0 1000 (show (0 : Int32) = iI ((0 : Nat) : Int) by decide) (by omega) (by omega) hM Kp.rf
      exact ⟨R, Mz, F1, y1, y2, y3, r1, k1, k2, k3, k4, hR⟩
    · rw [if_pos g1, show X5_isIn v 0 1 = some 0 from g3, Option.bind_some, if_pos rfl, m2, h2.1, h2.2, Option.bind_some, Option.bind_some]
      exact exo3 hM Kp.rf (incR_len.trans hR)
    · rw [if_neg g1, if_neg (show ¬ v ≤ (1 : Int32) from g2), show X5_isIn v 0 1 = some 0 from g3, Option.bind_some, if_pos rfl, m2, h2.1, h2.2, Option.bind_some, Option.bind_some]
      exact exo3 hM Kp.rf (incR_len.trans hR)
  · rw [show X4_misfit p 1 20 = some (-4) from e1, show X5_bound p 1 20 = some (-4) from e2, Option.bind_some, Option.bind_some, if_neg (by decide), if_neg (by decide), if_neg (by decide), m4, h4.1, h4.2, Option.bind_some, Option.bind_some]
    exact exo3 hM Kp.rf (incR_len.trans hR)
  · rw [show X4_misfit p 1 20 = some (-6) from e1, show X5_bound p 1 20 = some (-6) from e2, Option.bind_some, Option.bind_some, if_neg (by decide), if_neg (by decide), if_neg (by decide), m6, h6.1, h6.2, Option.bind_some, Option.bind_some]
    exact exo3 hM Kp.rf (incR_len.trans hR)
