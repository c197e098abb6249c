/-! WHAT KIND -/
/-- 1: DEPTH for s0 is as told, from s on, r numbers -/
def tdp (G : Nat → Int32) (e : Env) (sh s0 : Nat) : Nat → Nat → XX → Nat
  | 0, _, _ => 1
  | r + 1, s, x => if iI ((td x.2.2.2 + sk (lk 6 e.1 x.1) e.2.1 x.2.2.1 (e.2.2.1 s0) (e.2.2.2.2.1 s0) : Nat) : Int) = G s then tdp G e sh s0 r (s + 1) (dayX e sh 0 6 x) else 0
set_option maxRecDepth 20000 in
set_option maxHeartbeats 400000 in
theorem tdp_le {G : Nat → Int32} {e : Env} {sh s0 : Nat} : ∀ (r s : Nat) (x : XX), tdp G e sh s0 r s x ≤ 1 := by
  intro r
  induction r with
  | zero => intro s x; exact Nat.le_refl _
  | succ r ih =>
    intro s x
    unfold tdp
    split
    · exact ih _ _
    · omega
set_option maxRecDepth 20000 in
set_option maxHeartbeats 400000 in
theorem l_depths {u hd k f g l : Nat → Nat} {G : Nat → Int32} {sh N s0 : Nat} (hE : OkE (u, hd, k, f, g, l)) (hsh : sh ≤ 7) (hs0 : s0 < 7) (hN : N ≤ 12) : ∀ (r s n D : Nat) (x : Int32) (t i : Nat → Nat) (co d : Nat), x = iI (s : Int) → s + r = N → r < n → OkX D (t, i, co, d) → D + r ≤ 2000 →
    ∃ (B : Nat → Nat) (b1 b2 b3 : Int32), X4_tellsDepths_L2 (fun m_there_9 m_inn_10 m_coughs_11 m_day_12 => some (m_there_9, m_inn_10, m_coughs_11, m_day_12, (1 : Int32))) (rq 12 G) (rn 6 u) (rn 6 hd) (rn 7 k) (rn 7 f) (rn 7 g) (rn 7 l) (iI N) (iI sh) (iI (s0 : Int)) n x (rn 6 t) (iI (mk i)) (iI co) (iI d) = some (rn 6 B, b1, b2, b3, iI (tdp G (u, hd, k, f, g, l) sh s0 r s (t, i, co, d) : Int)) := by
  intro r
  induction r with
  | zero =>
    intro s n D x t i co d hx hs hn hX hD
    obtain ⟨m, rfl⟩ : ∃ m, n = m + 1 := ⟨n - 1, by omega⟩
    subst hx
    rw [X4_tellsDepths_L2, X1_length, Option.bind_some, if_pos (tle (by omega) (by omega) (by omega))]
    exact ⟨t, _, _, _, rfl⟩
  | succ r ih =>
    intro s n D x t i co d hx hs hn hX hD
    obtain ⟨m, rfl⟩ : ∃ m, n = m + 1 := ⟨n - 1, by omega⟩
    subst hx
    have hz := dayX_ok (e := (u, hd, k, f, g, l)) (sh := sh) (b := 0) (fr := 6) hX
    have hd1 := xD hX
    have w0 := s_X0_passDay (b := 0) hE hsh (by omega) (hX.mono (show D ≤ 2000 by omega))
    rw [z00] at w0
    rw [X4_tellsDepths_L2, X1_length, Option.bind_some, if_neg (fle (by omega) (by omega) (by omega)), s_X0_depth (oU hE) (xT hX) (oH hE) (oK hE) (oG hE) (xC hX) (by omega) (by omega) (by omega), Option.bind_some, s_X1_at hN (by omega) (by omega), Option.bind_some, Int.toNat_natCast]
    unfold tdp
    by_cases c : iI ((td d + sk (lk 6 u t) hd co (k s0) (g s0) : Nat) : Int) = G s
    · rw [if_pos c, if_pos c, w0, Option.bind_some]
      exact ih (s + 1) m (D + 1) _ _ _ _ _ (iI_s s) (by omega) (by omega) hz (by omega)
    · rw [if_neg c, if_neg c]
      exact ⟨t, _, _, _, rfl⟩
set_option maxRecDepth 20000 in
set_option maxHeartbeats 400000 in
theorem l_deepSo {u hd k f g l : Nat → Nat} {G : Nat → Int32} {sh N s0 : Nat} (hE : OkE (u, hd, k, f, g, l)) (hsh : sh ≤ 7) (hs0 : s0 < 7) (hN : N ≤ 12) (K : Int32 → List Int32 → List Int32 → Int32 → Int32 → Option (List Int32 × List Int32 × List Int32 × List Int32 × List Int32 × List Int32 × List Int32 × List Int32 × List Int32 × Int32 × Int32 × Int32 × Int32 × Int32 × Int32)) : ∀ (r s n D : Nat) (x : Int32) (t i : Nat → Nat) (co d : Nat), x = iI (s : Int) → s + r = N → r + 1 < n → OkX D (t, i, co, d) → D + r ≤ 2000 →
    ∃ (t1 i1 : Nat → Nat) (co1 d1 : Nat), X5_isDeepSo_L8 K (rn 6 u) (rn 6 hd) (rn 7 k) (rn 7 f) (rn 7 g) (rn 7 l) (rq 12 G) (iI sh) 0 (iI (fI 6)) (iI N) (iI (s0 : Int)) n 1 x (rn 6 t) (rn 7 i) (iI co) (iI d) = K (iI (tdp G (u, hd, k, f, g, l) sh s0 r s (t, i, co, d) : Int)) (rn 6 t1) (rn 7 i1) (iI co1) (iI d1) := by
  intro r
  induction r with
  | zero =>
    intro s n D x t i co d hx hs hn hX hD
    obtain ⟨m, rfl⟩ : ∃ m, n = m + 1 := ⟨n - 1, by omega⟩
    subst hx
    rw [X5_isDeepSo_L8, if_pos (tle (by omega) (by omega) (by omega))]
    exact ⟨t, i, co, d, rfl⟩
  | succ r ih =>
    intro s n D x t i co d hx hs hn hX hD
    obtain ⟨m, rfl⟩ : ∃ m, n = m + 1 := ⟨n - 1, by omega⟩
    obtain ⟨m, rfl⟩ : ∃ j, m = j + 1 := ⟨m - 1, by omega⟩
    subst hx
    have hz := dayX_ok (e := (u, hd, k, f, g, l)) (sh := sh) (b := 0) (fr := 6) hX
    have hd1 := xD hX
    have w1 := s_X5_goesDay (b := 0) (fr := 6) (by omega) hE hsh (by omega) (hX.mono (show D ≤ 2000 by omega))
    rw [z00] at w1
    rw [X5_isDeepSo_L8, if_neg (fle (by omega) (by omega) (by omega)), if_neg c10, s_X5_depth (by omega) (oU hE) (xT hX) (oH hE) (oK hE) (oG hE) (xC hX) (by omega) (by omega) (by omega), Option.bind_some, rd_rq (by omega) (by omega) (by omega), Option.bind_some, Int.toNat_natCast, Int.toNat_natCast, w1, Option.bind_some]
    unfold tdp
    by_cases c : iI ((td d + sk (lk 6 u t) hd co (k s0) (g s0) : Nat) : Int) = G s
    · rw [if_pos c, if_pos c]
      exact ih (s + 1) (m + 1) (D + 1) _ _ _ _ _ (iI_s s) (by omega) (by omega) hz (by omega)
    · rw [if_neg c, if_neg c, Option.bind_some, X5_isDeepSo_L8, if_pos rfl]
      exact ⟨(dayX (u, hd, k, f, g, l) sh 0 6 (t, i, co, d)).1, (dayX (u, hd, k, f, g, l) sh 0 6 (t, i, co, d)).2.1, (dayX (u, hd, k, f, g, l) sh 0 6 (t, i, co, d)).2.2.1, (dayX (u, hd, k, f, g, l) sh 0 6 (t, i, co, d)).2.2.2, by split <;> rfl⟩
set_option maxRecDepth 20000 in
set_option maxHeartbeats 400000 in
theorem s_X5_isDeepSo {u hd k f g l t i : Nat → Nat} {sh co d : Nat} {G : Nat → Int32} {N s0 : Nat} {F : Nat → Int32} {z1 z2 : Int32} (hE : OkE (u, hd, k, f, g, l)) (hsh : sh ≤ 7) (hs0 : s0 < 7) (hX : OkX 1000 (t, i, co, d)) (hN : N ≤ 12) : X5_isDeepSo (rn 6 t) (rn 6 u) (rn 6 hd) (rn 7 k) (rn 7 f) (rn 7 g) (rn 7 l) (rn 7 i) (rq 616 F) (rq 12 G) (iI sh) (iI co) (iI d) 0 z1 z2 (iI (fI 6)) (iI N) (iI (s0 : Int)) = some (rn 6 t, rn 6 u, rn 6 hd, rn 7 k, rn 7 f, rn 7 g, rn 7 l, rn 7 i, rq 616 (put F 112 56 (flat (u, hd, k, f, g, l) sh (t, i, co, d))), iI sh, iI co, iI d, 0, iI 168, iI (tdp G (u, hd, k, f, g, l) sh s0 N 0 (t, i, co, d) : Int)) := by
  unfold X5_isDeepSo
  rw [s_thinks, Option.bind_some]
  obtain ⟨t1, i1, co1, d1, e⟩ := l_deepSo (G := G) hE hsh hs0 hN (fun y1_13 there_14 inn_15 coughs_16 day_17 => (X5_forgets there_14 (rn 6 u) (rn 6 hd) (rn 7 k) (rn 7 f) (rn 7 g) (rn 7 l) inn_15 (rq 616 (put F 112 56 (flat (u, hd, k, f, g, l) sh (t, i, co, d)))) (iI sh) coughs_16 day_17 1 (iI 168)).bind fun u_18 => (c01 y1_13).bind fun b_20 => some (u_18.1, u_18.2.1, u_18.2.2.1, u_18.2.2.2.1, u_18.2.2.2.2.1, u_18.2.2.2.2.2.1, u_18.2.2.2.2.2.2.1, u_18.2.2.2.2.2.2.2.1, u_18.2.2.2.2.2.2.2.2.1, u_18.2.2.2.2.2.2.2.2.2.1, u_18.2.2.2.2.2.2.2.2.2.2.1, u_18.2.2.2.2.2.2.2.2.2.2.2.1, u_18.2.2.2.2.2.2.2.2.2.2.2.2.1, u_18.2.2.2.2.2.2.2.2.2.2.2.2.2, b_20)) N 0 1000 1000 0 t i co d (by decide) (by omega) (by omega) hX (by omega)
  rw [s_forgetsN, Option.bind_some, c01_i (tdp_le _ _ _), Option.bind_some] at e
  exact e
set_option maxRecDepth 20000 in
set_option maxHeartbeats 400000 in
theorem OkE.k1 {u hd k f g l h : Nat → Nat} (hE : OkE (u, hd, k, f, g, l)) (hh : ∀ j, h j ≤ 5) : OkE (u, hd, h, f, g, l) := ⟨oU hE, oH hE, hh, oF hE, oG hE, oL hE⟩
set_option maxRecDepth 20000 in
set_option maxHeartbeats 400000 in
theorem OkE.f1 {u hd k f g l h : Nat → Nat} (hE : OkE (u, hd, k, f, g, l)) (hh : ∀ j, h j ≤ 9) : OkE (u, hd, k, h, g, l) := ⟨oU hE, oH hE, oK hE, hh, oG hE, oL hE⟩
set_option maxRecDepth 20000 in
set_option maxHeartbeats 400000 in
theorem l_kind {u hd k f g l t i : Nat → Nat} {sh co d : Nat} {R : List Int32} {G : Nat → Int32} {s0 N w : Nat} {F0 : Nat → Int32} (hE : OkE (u, hd, k, f, g, l)) (hsh : sh ≤ 7) (hX : OkX 1000 (t, i, co, d)) (hN : N ≤ 12) (hs0 : s0 < 7) (hw :  iI (w : Int) = (0 : Int32)) : ∀ (r s n c : Nat) {A1 A2 A3 A4 A5 A6 A7 : List Int32} {a1 a2 a3 a4 : Int32} {x3 x5 z1 z2 : Int32} {F : Nat → Int32}, x5 = iI (s : Int) → s + r = 6 → r < n → MJ (A1, A2, A3, A4, A5, A6, A7, a1, a2, a3, a4) → Kp F0 F →
    ∃ (Mz : Hs) (F1 : Nat → Int32) (y1 y2 v : Int32), X4_whatKind_L51 (fun (y : Int32) (q1 q2 q3 q4 q5 q6 q7 : List Int32) (q8 q9 q10 q11 : Int32) => some (R, q1, q2, q3, q4, q5, q6, q7, q8, q9, q10, q11, y)) (rq 12 G) (rn 6 t) (rn 6 u) (rn 6 hd) (rn 7 k) (rn 7 f) (rn 7 g) (rn 7 l) (iI N) (iI sh) (iI (mk i)) (iI co) (iI d) (iI (s0 : Int)) (iI (w : Int)) 6 n x3 x5 A1 A2 A3 A4 A5 A6 A7 a1 a2 a3 a4 = some (R, Mz.1, Mz.2.1, Mz.2.2.1, Mz.2.2.2.1, Mz.2.2.2.2.1, Mz.2.2.2.2.2.1, Mz.2.2.2.2.2.2.1, Mz.2.2.2.2.2.2.2.1, Mz.2.2.2.2.2.2.2.2.1, Mz.2.2.2.2.2.2.2.2.2.1, Mz.2.2.2.2.2.2.2.2.2.2, v) ∧ X5_bitsFor__kind_L11 (fun (y : Int32) (q1 q2 q3 q4 q5 q6 q7 q8 q9 : List Int32) (q10 q11 q12 q13 q14 : Int32) => (wr q4 (iI (s0 : Int)) (iI (k s0 : Int))).bind fun kk => some (q1, q2, q3, kk, q5, q6, q7, q8, q9, q10, q11, q12, q13, q14, y)) (rq 12 G) 0 (iI (fI 6)) (iI N) (iI (s0 : Int)) 6 n x3 x5 (rn 6 t) (rn 6 u) (rn 6 hd) (rn 7 (upN k s0 c)) (rn 7 f) (rn 7 g) (rn 7 l) (rn 7 i) (rq 616 F) (iI sh) (iI co) (iI d) z1 z2 = some (rn 6 t, rn 6 u, rn 6 hd, rn 7 k, rn 7 f, rn 7 g, rn 7 l, rn 7 i, rq 616 F1, iI sh, iI co, iI d, y1, y2, v) ∧ MJ Mz ∧ Kp F0 F1 := by
  intro r
  induction r with
  | zero =>
    intro s n c A1 A2 A3 A4 A5 A6 A7 a1 a2 a3 a4 x3 x5 z1 z2 F hx hs hn hM hK
    obtain ⟨m, rfl⟩ : ∃ m, n = m + 1 := ⟨n - 1, by omega⟩
    subst hx
    have q : (6 : Int32) ≤ iI (s : Int) := by rw [L6]; exact tle (by omega) (by omega) (by omega)
    rw [X4_whatKind_L51, X5_bitsFor__kind_L11, if_pos q, if_pos q, wr_rn (by omega) (by omega) (by omega) (by omega), Option.bind_some, Int.toNat_natCast, Int.toNat_natCast, upN_self rfl]
    exact ⟨(A1, A2, A3, A4, A5, A6, A7, a1, a2, a3, a4), F, z1, z2, x3, rfl, rfl, hM, hK⟩
  | succ r ih =>
    intro s n c A1 A2 A3 A4 A5 A6 A7 a1 a2 a3 a4 x3 x5 z1 z2 F hx hs hn hM hK
    obtain ⟨m, rfl⟩ : ∃ m, n = m + 1 := ⟨n - 1, by omega⟩
    subst hx
    have q : ¬ (6 : Int32) ≤ iI (s : Int) := by rw [L6]; exact fle (by omega) (by omega) (by omega)
    have hE2 : OkE (u, hd, upN k s0 s, f, g, l) := hE.k1 (fun j => upN_le (oK hE) (by omega) j)
    obtain ⟨B1, b1, b2, b3, e1⟩ := l_depths (G := G) hE2 hsh hs0 hN N 0 1000 1000 0 t i co d (by decide) (by omega) (by omega) hX (by omega)
    have e2 := s_X5_isDeepSo (G := G) (N := N) (F := F) (z1 := z1) (z2 := z2) hE2 hsh hs0 hX hN
    have hT := tdp_le (G := G) (e := (u, hd, upN k s0 s, f, g, l)) (sh := sh) (s0 := s0) N 0 (t, i, co, d)
    rw [X4_whatKind_L51, X5_bitsFor__kind_L11, if_neg q, if_neg q, s_X4_fromNow hM, Option.bind_some, if_pos hw, wr_rn (f := k) (by omega) (by omega) (by omega) (by omega), Option.bind_some, wr_rn (f := upN k s0 c) (by omega) (by omega) (by omega) (by omega), Option.bind_some, Int.toNat_natCast, Int.toNat_natCast, upN_up]
    unfold X4_tellsDepths
    rw [e1, Option.bind_some, e2, Option.bind_some]
    by_cases h0 : tdp G (u, hd, upN k s0 s, f, g, l) sh s0 N 0 (t, i, co, d) = 0
    · rw [h0, if_pos z00, if_pos z00, show x3 ||| 0 = x3 by simp]
      exact ih (s + 1) m s (iI_s s) (by omega) (by omega) ⟨rn_len, rn_len, rn_len, rn_len, rn_len, rn_len, rn_len⟩ (hK.tr Kp.put2)
    · rw [show tdp G (u, hd, upN k s0 s, f, g, l) sh s0 N 0 (t, i, co, d) = 1 by omega, if_neg (show ¬ iI ((1 : Nat) : Int) = (0 : Int32) by decide), if_neg (show ¬ iI ((1 : Nat) : Int) = (0 : Int32) by decide)]
      exact ih (s + 1) m s (iI_s s) (by omega) (by omega) ⟨rn_len, rn_len, rn_len, rn_len, rn_len, rn_len, rn_len⟩ (hK.tr Kp.put2)
set_option maxRecDepth 20000 in
set_option maxHeartbeats 400000 in
theorem l_figure {u hd k f g l t i : Nat → Nat} {sh co d : Nat} {R : List Int32} {G : Nat → Int32} {s0 N w : Nat} {F0 : Nat → Int32} (hE : OkE (u, hd, k, f, g, l)) (hsh : sh ≤ 7) (hX : OkX 1000 (t, i, co, d)) (hN : N ≤ 12) (hs0 : s0 < 7) (hw : ¬ iI (w : Int) = (0 : Int32)) : ∀ (r s n c : Nat) {A1 A2 A3 A4 A5 A6 A7 : List Int32} {a1 a2 a3 a4 : Int32} {x3 x5 z1 z2 : Int32} {F : Nat → Int32}, x5 = iI (s : Int) → s + r = 10 → r < n → MJ (A1, A2, A3, A4, A5, A6, A7, a1, a2, a3, a4) → Kp F0 F →
    ∃ (Mz : Hs) (F1 : Nat → Int32) (y1 y2 v : Int32), X4_whatKind_L51 (fun (y : Int32) (q1 q2 q3 q4 q5 q6 q7 : List Int32) (q8 q9 q10 q11 : Int32) => some (R, q1, q2, q3, q4, q5, q6, q7, q8, q9, q10, q11, y)) (rq 12 G) (rn 6 t) (rn 6 u) (rn 6 hd) (rn 7 k) (rn 7 f) (rn 7 g) (rn 7 l) (iI N) (iI sh) (iI (mk i)) (iI co) (iI d) (iI (s0 : Int)) (iI (w : Int)) 10 n x3 x5 A1 A2 A3 A4 A5 A6 A7 a1 a2 a3 a4 = some (R, Mz.1, Mz.2.1, Mz.2.2.1, Mz.2.2.2.1, Mz.2.2.2.2.1, Mz.2.2.2.2.2.1, Mz.2.2.2.2.2.2.1, Mz.2.2.2.2.2.2.2.1, Mz.2.2.2.2.2.2.2.2.1, Mz.2.2.2.2.2.2.2.2.2.1, Mz.2.2.2.2.2.2.2.2.2.2, v) ∧ X5_bitsFor__figure_L11 (fun (y : Int32) (q1 q2 q3 q4 q5 q6 q7 q8 q9 : List Int32) (q10 q11 q12 q13 q14 : Int32) => (wr q5 (iI (s0 : Int)) (iI (f s0 : Int))).bind fun kk => some (q1, q2, q3, q4, kk, q6, q7, q8, q9, q10, q11, q12, q13, q14, y)) (rq 12 G) 0 (iI (fI 6)) (iI N) (iI (s0 : Int)) 10 n x3 x5 (rn 6 t) (rn 6 u) (rn 6 hd) (rn 7 k) (rn 7 (upN f s0 c)) (rn 7 g) (rn 7 l) (rn 7 i) (rq 616 F) (iI sh) (iI co) (iI d) z1 z2 = some (rn 6 t, rn 6 u, rn 6 hd, rn 7 k, rn 7 f, rn 7 g, rn 7 l, rn 7 i, rq 616 F1, iI sh, iI co, iI d, y1, y2, v) ∧ MJ Mz ∧ Kp F0 F1 := by
  intro r
  induction r with
  | zero =>
    intro s n c A1 A2 A3 A4 A5 A6 A7 a1 a2 a3 a4 x3 x5 z1 z2 F hx hs hn hM hK
    obtain ⟨m, rfl⟩ : ∃ m, n = m + 1 := ⟨n - 1, by omega⟩
    subst hx
    have q : (10 : Int32) ≤ iI (s : Int) := by rw [L10]; exact tle (by omega) (by omega) (by omega)
    rw [X4_whatKind_L51, X5_bitsFor__figure_L11, if_pos q, if_pos q, wr_rn (by omega) (by omega) (by omega) (by omega), Option.bind_some, Int.toNat_natCast, Int.toNat_natCast, upN_self rfl]
    exact ⟨(A1, A2, A3, A4, A5, A6, A7, a1, a2, a3, a4), F, z1, z2, x3, rfl, rfl, hM, hK⟩
  | succ r ih =>
    intro s n c A1 A2 A3 A4 A5 A6 A7 a1 a2 a3 a4 x3 x5 z1 z2 F hx hs hn hM hK
    obtain ⟨m, rfl⟩ : ∃ m, n = m + 1 := ⟨n - 1, by omega⟩
    subst hx
    have q : ¬ (10 : Int32) ≤ iI (s : Int) := by rw [L10]; exact fle (by omega) (by omega) (by omega)
    have hE2 : OkE (u, hd, k, upN f s0 s, g, l) := hE.f1 (fun j => upN_le (oF hE) (by omega) j)
    obtain ⟨B1, b1, b2, b3, e1⟩ := l_depths (G := G) hE2 hsh hs0 hN N 0 1000 1000 0 t i co d (by decide) (by omega) (by omega) hX (by omega)
    have e2 := s_X5_isDeepSo (G := G) (N := N) (F := F) (z1 := z1) (z2 := z2) hE2 hsh hs0 hX hN
    have hT := tdp_le (G := G) (e := (u, hd, k, upN f s0 s, g, l)) (sh := sh) (s0 := s0) N 0 (t, i, co, d)
    rw [X4_whatKind_L51, X5_bitsFor__figure_L11, if_neg q, if_neg q, s_X4_fromNow hM, Option.bind_some, if_neg hw, wr_rn (f := f) (by omega) (by omega) (by omega) (by omega), Option.bind_some, wr_rn (f := upN f s0 c) (by omega) (by omega) (by omega) (by omega), Option.bind_some, Int.toNat_natCast, Int.toNat_natCast, upN_up]
    unfold X4_tellsDepths
    rw [e1, Option.bind_some, e2, Option.bind_some]
    by_cases h0 : tdp G (u, hd, k, upN f s0 s, g, l) sh s0 N 0 (t, i, co, d) = 0
    · rw [h0, if_pos z00, if_pos z00, show x3 ||| 0 = x3 by simp]
      exact ih (s + 1) m s (iI_s s) (by omega) (by omega) ⟨rn_len, rn_len, rn_len, rn_len, rn_len, rn_len, rn_len⟩ (hK.tr Kp.put2)
    · rw [show tdp G (u, hd, k, upN f s0 s, g, l) sh s0 N 0 (t, i, co, d) = 1 by omega, if_neg (show ¬ iI ((1 : Nat) : Int) = (0 : Int32) by decide), if_neg (show ¬ iI ((1 : Nat) : Int) = (0 : Int32) by decide)]
      exact ih (s + 1) m s (iI_s s) (by omega) (by omega) ⟨rn_len, rn_len, rn_len, rn_len, rn_len, rn_len, rn_len⟩ (hK.tr Kp.put2)
set_option maxRecDepth 20000 in
set_option maxHeartbeats 400000 in
theorem op_whatKind {A1 A2 A3 A4 A5 A6 A7 : List Int32} {a1 a2 a3 a4 : Int32} {u hd k f g l t i : Nat → Nat} {sh co d : Nat} {R : List Int32} {G F : Nat → Int32} {n : Nat} {z1 z2 p q : Int32} (hM : MJ (A1, A2, A3, A4, A5, A6, A7, a1, a2, a3, a4)) (hE : OkE (u, hd, k, f, g, l)) (hsh : sh ≤ 7) (hX : OkX 1000 (t, i, co, d)) (hn : n ≤ 12) (hR : R.length = 7) :
    GG u hd k f g l t i sh co d F (X4_whatKind R (rq 12 G) A1 A2 A3 A4 A5 A6 A7 (rn 6 t) (rn 6 u) (rn 6 hd) (rn 7 k) (rn 7 f) (rn 7 g) (rn 7 l) (iI n) a1 a2 a3 a4 (iI sh) (iI (mk i)) (iI co) (iI d) p q) (X5_whatKind R (rn 6 t) (rn 6 u) (rn 6 hd) (rn 7 k) (rn 7 f) (rn 7 g) (rn 7 l) (rn 7 i) (rq 616 F) (rq 12 G) (iI sh) (iI co) (iI d) 0 z1 z2 (-9) (iI n) p q) := by
  have h1 := s_refuse (R := R) (c := 1) hR (by omega) (by omega)
  have h2 := s_refuse (R := R) (c := 2) hR (by omega) (by omega)
  unfold X4_whatKind X5_whatKind
  rcases ship_cases hsh p with ⟨s0, hs0, rfl, g1, g2⟩ | ⟨g1, g2⟩
  · rw [g1, g2, Option.bind_some, Option.bind_some, if_neg c10, if_neg c10]
    rcases what_cases (hi := 1) (by omega) q with ⟨w, hw1, rfl, e1, e2, e3⟩ | ⟨e1, e3⟩ | ⟨e1, e2, e3⟩
    · rw [if_neg e1, if_pos (show iI (w : Int) ≤ (1 : Int32) from e2), show X5_isIn (iI (w : Int)) 0 1 = some 1 from e3, Option.bind_some, if_neg c10]
      by_cases c0 : iI (w : Int) = (0 : Int32)
      · obtain ⟨Mz, F1, y1, y2, v, k1, k2, k3, k4⟩ := l_kind (R := R) (G := G) (F0 := F) (F := F) (z1 := z1) (z2 := z2) (x3 := 0) hE hsh hX hn (show s0 < 7 by omega) c0 6 0 1000 (k s0) (show (0 : Int32) = iI ((0 : Nat) : Int) by decide) (by omega) (by omega) hM Kp.rf
        rw [upN_id] at k2
        unfold X5_bitsFor__kind
        rw [if_pos c0, if_pos c0, k1, rd_rn (f := k) (by omega) (by omega) (by omega), Option.bind_some, Int.toNat_natCast, f9, k2, Option.bind_some]
        exact ⟨R, Mz, F1, y1, y2, v, rfl, rfl, k3, k4, hR⟩
      · obtain ⟨Mz, F1, y1, y2, v, k1, k2, k3, k4⟩ := l_figure (R := R) (G := G) (F0 := F) (F := F) (z1 := z1) (z2 := z2) (x3 := 0) hE hsh hX hn (show s0 < 7 by omega) c0 10 0 1000 (f s0) (show (0 : Int32) = iI ((0 : Nat) : Int) by decide) (by omega) (by omega) hM Kp.rf
        rw [upN_id] at k2
        unfold X5_bitsFor__figure
        rw [if_neg c0, if_neg c0, k1, rd_rn (f := f) (by omega) (by omega) (by omega), Option.bind_some, Int.toNat_natCast, f9, k2, Option.bind_some]
        exact ⟨R, Mz, F1, y1, y2, v, rfl, rfl, k3, k4, hR⟩
    · rw [if_pos e1, show X5_isIn q 0 1 = some 0 from e3, Option.bind_some, if_pos rfl, m2, h2.1, h2.2, Option.bind_some, Option.bind_some]
      exact exo hM Kp.rf (incR_len.trans hR)
    · rw [if_neg e1, if_neg (show ¬ q ≤ (1 : Int32) from e2), show X5_isIn q 0 1 = some 0 from e3, Option.bind_some, if_pos rfl, m2, h2.1, h2.2, Option.bind_some, Option.bind_some]
      exact exo hM Kp.rf (incR_len.trans hR)
  · rw [g1, g2, Option.bind_some, Option.bind_some, if_pos rfl, if_pos rfl, m1, h1.1, h1.2, Option.bind_some, Option.bind_some]
    exact exo hM Kp.rf (incR_len.trans hR)
