/-! WHICH TOWN -/
/-- 1: who is IN is as told, from s on, r numbers -/
def twn (G : Nat → Int32) (e : Env) (sh : Nat) : Nat → Nat → XX → Nat
  | 0, _, _ => 1
  | r + 1, s, x => if iI (pc (mk x.2.1) : Int) = G s then twn G e sh r (s + 1) (dayX e sh 0 6 x) else 0
set_option maxRecDepth 20000 in
set_option maxHeartbeats 400000 in
theorem twn_le {G : Nat → Int32} {e : Env} {sh : Nat} : ∀ (r s : Nat) (x : XX), twn G e sh r s x ≤ 1 := by
  intro r
  induction r with
  | zero => intro s x; exact Nat.le_refl _
  | succ r ih =>
    intro s x
    unfold twn
    split
    · exact ih _ _
    · omega
set_option maxRecDepth 20000 in
set_option maxHeartbeats 400000 in
theorem l_tells {u hd k f g l : Nat → Nat} {G : Nat → Int32} {sh N : Nat} (hE : OkE (u, hd, k, f, g, l)) (hsh : sh ≤ 7) (hN : N ≤ 12) : ∀ (r s n D : Nat) (x : Int32) (t i : Nat → Nat) (co d : Nat), x = iI (s : Int) → s + r = N → r < n → OkX D (t, i, co, d) → D + r ≤ 2000 →
    ∃ (B : Nat → Nat) (b1 b2 b3 : Int32), X4_tellsWhoCame_L2 (fun m_there_9 m_inn_10 m_coughs_11 m_day_12 => some (m_there_9, m_inn_10, m_coughs_11, m_day_12, (1 : Int32))) (rq 12 G) (rn 6 u) (rn 6 hd) (rn 7 k) (rn 7 f) (rn 7 g) (rn 7 l) (iI N) (iI sh) n x (rn 6 t) (iI (mk i)) (iI co) (iI d) = some (rn 6 B, b1, b2, b3, iI (twn G (u, hd, k, f, g, l) sh r s (t, i, co, d) : Int)) := by
  intro r
  induction r with
  | zero =>
    intro s n D x t i co d hx hs hn hX hD
    obtain ⟨m, rfl⟩ : ∃ m, n = m + 1 := ⟨n - 1, by omega⟩
    subst hx
    rw [X4_tellsWhoCame_L2, X1_length, Option.bind_some, if_pos (tle (by omega) (by omega) (by omega))]
    exact ⟨t, _, _, _, rfl⟩
  | succ r ih =>
    intro s n D x t i co d hx hs hn hX hD
    obtain ⟨m, rfl⟩ : ∃ m, n = m + 1 := ⟨n - 1, by omega⟩
    subst hx
    have hz := dayX_ok (e := (u, hd, k, f, g, l)) (sh := sh) (b := 0) (fr := 6) hX
    have w0 := s_X0_passDay (b := 0) hE hsh (by omega) (hX.mono (show D ≤ 2000 by omega))
    rw [z00] at w0
    rw [X4_tellsWhoCame_L2, X1_length, Option.bind_some, if_neg (fle (by omega) (by omega) (by omega)), (s_bits (mk_lt (xI hX))).1, Option.bind_some, s_X1_at hN (by omega) (by omega), Option.bind_some]
    unfold twn
    by_cases c : iI (pc (mk i) : Int) = G s
    · rw [if_pos c, if_pos c, w0, Option.bind_some]
      exact ih (s + 1) m (D + 1) _ _ _ _ _ (iI_s s) (by omega) (by omega) hz (by omega)
    · rw [if_neg c, if_neg c]
      exact ⟨t, _, _, _, rfl⟩
set_option maxRecDepth 20000 in
set_option maxHeartbeats 400000 in
theorem l_town {u hd k f g l : Nat → Nat} {G : Nat → Int32} {sh N : Nat} (hE : OkE (u, hd, k, f, g, l)) (hsh : sh ≤ 7) (hN : N ≤ 12) (K : Int32 → List Int32 → List Int32 → Int32 → Int32 → Option (List Int32 × List Int32 × List Int32 × List Int32 × List Int32 × List Int32 × List Int32 × List Int32 × List Int32 × Int32 × Int32 × Int32 × Int32 × Int32 × Int32)) : ∀ (r s n D : Nat) (x : Int32) (t i : Nat → Nat) (co d : Nat), x = iI (s : Int) → s + r = N → r + 1 < n → OkX D (t, i, co, d) → D + r ≤ 2000 → OutI sh i →
    ∃ (t1 i1 : Nat → Nat) (co1 d1 : Nat), X5_isTownSo_L8 K (rn 6 u) (rn 6 hd) (rn 7 k) (rn 7 f) (rn 7 g) (rn 7 l) (rq 12 G) (iI sh) 0 (iI (fI 6)) (iI N) n 1 x (rn 6 t) (rn 7 i) (iI co) (iI d) = K (iI (twn G (u, hd, k, f, g, l) sh r s (t, i, co, d) : Int)) (rn 6 t1) (rn 7 i1) (iI co1) (iI d1) := by
  intro r
  induction r with
  | zero =>
    intro s n D x t i co d hx hs hn hX hD hO
    obtain ⟨m, rfl⟩ : ∃ m, n = m + 1 := ⟨n - 1, by omega⟩
    subst hx
    rw [X5_isTownSo_L8, if_pos (tle (by omega) (by omega) (by omega))]
    exact ⟨t, i, co, d, rfl⟩
  | succ r ih =>
    intro s n D x t i co d hx hs hn hX hD hO
    obtain ⟨m, rfl⟩ : ∃ m, n = m + 1 := ⟨n - 1, by omega⟩
    obtain ⟨m, rfl⟩ : ∃ j, m = j + 1 := ⟨m - 1, by omega⟩
    subst hx
    have hz := dayX_ok (e := (u, hd, k, f, g, l)) (sh := sh) (b := 0) (fr := 6) hX
    have w1 := s_X5_goesDay (b := 0) (fr := 6) (by omega) hE hsh (by omega) (hX.mono (show D ≤ 2000 by omega))
    rw [z00] at w1
    rw [X5_isTownSo_L8, if_neg (fle (by omega) (by omega) (by omega)), if_neg c10, s_X5_inOnes hsh (xI hX) hO, Option.bind_some, (s_bits (mk_lt (xI hX))).2, Option.bind_some, rd_rq (by omega) (by omega) (by omega), Option.bind_some, Int.toNat_natCast, w1, Option.bind_some]
    unfold twn
    by_cases c : iI (pc (mk i) : Int) = G s
    · rw [if_pos c, if_pos c]
      exact ih (s + 1) (m + 1) (D + 1) _ _ _ _ _ (iI_s s) (by omega) (by omega) hz (by omega) (dayX_out hO)
    · rw [if_neg c, if_neg c, Option.bind_some, X5_isTownSo_L8, if_pos rfl]
      exact ⟨(dayX (u, hd, k, f, g, l) sh 0 6 (t, i, co, d)).1, (dayX (u, hd, k, f, g, l) sh 0 6 (t, i, co, d)).2.1, (dayX (u, hd, k, f, g, l) sh 0 6 (t, i, co, d)).2.2.1, (dayX (u, hd, k, f, g, l) sh 0 6 (t, i, co, d)).2.2.2, by split <;> rfl⟩
set_option maxRecDepth 20000 in
set_option maxHeartbeats 400000 in
theorem s_X5_isTownSo {u hd k f g l t i : Nat → Nat} {sh co d : Nat} {G : Nat → Int32} {N : Nat} {F : Nat → Int32} {z1 z2 : Int32} (hE : OkE (u, hd, k, f, g, l)) (hsh : sh ≤ 7) (hX : OkX 1000 (t, i, co, d)) (hO : OutI sh i) (hN : N ≤ 12) : X5_isTownSo (rn 6 t) (rn 6 u) (rn 6 hd) (rn 7 k) (rn 7 f) (rn 7 g) (rn 7 l) (rn 7 i) (rq 616 F) (rq 12 G) (iI sh) (iI co) (iI d) 0 z1 z2 (iI (fI 6)) (iI N) = some (rn 6 t, rn 6 u, rn 6 hd, rn 7 k, rn 7 f, rn 7 g, rn 7 l, rn 7 i, rq 616 (put F 112 56 (flat (u, hd, k, f, g, l) sh (t, i, co, d))), iI sh, iI co, iI d, 0, iI 168, iI (twn G (u, hd, k, f, g, l) sh N 0 (t, i, co, d) : Int)) := by
  unfold X5_isTownSo
  rw [s_thinks, Option.bind_some]
  obtain ⟨t1, i1, co1, d1, e⟩ := l_town (G := G) hE hsh hN (fun y1_13 there_14 inn_15 coughs_16 day_17 => (X5_forgets there_14 (rn 6 u) (rn 6 hd) (rn 7 k) (rn 7 f) (rn 7 g) (rn 7 l) inn_15 (rq 616 (put F 112 56 (flat (u, hd, k, f, g, l) sh (t, i, co, d)))) (iI sh) coughs_16 day_17 1 (iI 168)).bind fun u_18 => (c01 y1_13).bind fun b_20 => some (u_18.1, u_18.2.1, u_18.2.2.1, u_18.2.2.2.1, u_18.2.2.2.2.1, u_18.2.2.2.2.2.1, u_18.2.2.2.2.2.2.1, u_18.2.2.2.2.2.2.2.1, u_18.2.2.2.2.2.2.2.2.1, u_18.2.2.2.2.2.2.2.2.2.1, u_18.2.2.2.2.2.2.2.2.2.2.1, u_18.2.2.2.2.2.2.2.2.2.2.2.1, u_18.2.2.2.2.2.2.2.2.2.2.2.2.1, u_18.2.2.2.2.2.2.2.2.2.2.2.2.2, b_20)) N 0 1000 1000 0 t i co d (by decide) (by omega) (by omega) hX (by omega) hO
  rw [s_forgetsN, Option.bind_some, c01_i (twn_le _ _ _), Option.bind_some] at e
  exact e
/-- the answers of class and reference are one, and all stays as it is -/
def GG (u hd k f g l t i : Nat → Nat) (sh co d : Nat) (F : Nat → Int32) (P : Option (List Int32 × List Int32 × List Int32 × List Int32 × List Int32 × List Int32 × List Int32 × List Int32 × Int32 × Int32 × Int32 × Int32 ×  Int32)) (Q : Option (List Int32 × List Int32 × List Int32 × List Int32 × List Int32 × List Int32 × List Int32 × List Int32 × List Int32 × List Int32 × Int32 × Int32 × Int32 × Int32 × Int32 ×  Int32)) : Prop := ∃ (R1 : List Int32) (Mz : Hs) (F1 : Nat → Int32) (y1 y2 r : Int32), P = some (R1, Mz.1, Mz.2.1, Mz.2.2.1, Mz.2.2.2.1, Mz.2.2.2.2.1, Mz.2.2.2.2.2.1, Mz.2.2.2.2.2.2.1, Mz.2.2.2.2.2.2.2.1, Mz.2.2.2.2.2.2.2.2.1, Mz.2.2.2.2.2.2.2.2.2.1, Mz.2.2.2.2.2.2.2.2.2.2, r) ∧ Q = some (R1, rn 6 t, rn 6 u, rn 6 hd, rn 7 k, rn 7 f, rn 7 g, rn 7 l, rn 7 i, rq 616 F1, iI sh, iI co, iI d, y1, y2, r) ∧ MJ Mz ∧ Kp F F1 ∧ R1.length = 7
set_option maxRecDepth 20000 in
set_option maxHeartbeats 400000 in
theorem l_whichTown {u hd k f g l t i : Nat → Nat} {sh co d : Nat} {G : Nat → Int32} {a N : Nat} {F0 : Nat → Int32} (Gp : Option (List Int32 × List Int32 × List Int32 × List Int32 × List Int32 × List Int32 × List Int32 × List Int32 × Int32 × Int32 × Int32 × Int32 ×  Int32) → Option (List Int32 × List Int32 × List Int32 × List Int32 × List Int32 × List Int32 × List Int32 × List Int32 × List Int32 × List Int32 × Int32 × Int32 × Int32 × Int32 × Int32 ×  Int32) → Prop) (K4 : Int32 → Int32 → Int32 → List Int32 → List Int32 → List Int32 → List Int32 → List Int32 → List Int32 → List Int32 → Int32 → Int32 → Int32 → Int32 → Option (List Int32 × List Int32 × List Int32 × List Int32 × List Int32 × List Int32 × List Int32 × List Int32 × Int32 × Int32 × Int32 × Int32 ×  Int32)) (K5 : Int32 → Int32 → Int32 → List Int32 → List Int32 → List Int32 → List Int32 → List Int32 → List Int32 → List Int32 → List Int32 → List Int32 → Int32 → Int32 → Int32 → Int32 → Int32 → Option (List Int32 × List Int32 × List Int32 × List Int32 × List Int32 × List Int32 × List Int32 × List Int32 × List Int32 × List Int32 × Int32 × Int32 × Int32 × Int32 × Int32 ×  Int32)) (hE : OkE (u, hd, k, f, g, l)) (hsh : sh ≤ 7) (hX : OkX 1000 (t, i, co, d)) (hO : OutI sh i) (hN : N ≤ 12) (ha : a < 6)
    (hG : ∀ (x y z : Int32) {A1 A2 A3 A4 A5 A6 A7 : List Int32} {a1 a2 a3 a4 : Int32} (c : Nat) (F1 : Nat → Int32) (z1 z2 : Int32), MJ (A1, A2, A3, A4, A5, A6, A7, a1, a2, a3, a4) → Kp F0 F1 → Gp (K4 x y z A1 A2 A3 A4 A5 A6 A7 a1 a2 a3 a4) (K5 x y z (rn 6 (upN t a c)) (rn 6 u) (rn 6 hd) (rn 7 k) (rn 7 f) (rn 7 g) (rn 7 l) (rn 7 i) (rq 616 F1) (iI sh) (iI co) (iI d) z1 z2)) : ∀ (r s n c : Nat) {A1 A2 A3 A4 A5 A6 A7 : List Int32} {a1 a2 a3 a4 : Int32} {x3 x5 x6 z1 z2 : Int32} {B : Int} {F : Nat → Int32}, x6 = iI (s : Int) → s + r = 100 → r < n → MJ (A1, A2, A3, A4, A5, A6, A7, a1, a2, a3, a4) → Kp F0 F → (B = -9 ∨ (0 ≤ B ∧ B ≤ 99)) →
    Gp (X4_whichTown_L42 K4 (rq 12 G) (rn 6 t) (rn 6 u) (rn 6 hd) (rn 7 k) (rn 7 f) (rn 7 g) (rn 7 l) (iI N) (iI sh) (iI (mk i)) (iI co) (iI d) (iI (a : Int)) n x3 (iI B) x5 x6 A1 A2 A3 A4 A5 A6 A7 a1 a2 a3 a4) (X5_whichTown_L59 K5 (rq 12 G) 0 (iI (fI 6)) (iI N) (iI (a : Int)) n x3 (iI B) x5 x6 (rn 6 (upN t a c)) (rn 6 u) (rn 6 hd) (rn 7 k) (rn 7 f) (rn 7 g) (rn 7 l) (rn 7 i) (rq 616 F) (iI sh) (iI co) (iI d) z1 z2) := by
  intro r
  induction r with
  | zero =>
    intro s n c A1 A2 A3 A4 A5 A6 A7 a1 a2 a3 a4 x3 x5 x6 z1 z2 B F hx hs hn hM hK hB
    obtain ⟨m, rfl⟩ : ∃ m, n = m + 1 := ⟨n - 1, by omega⟩
    subst hx
    have q : (99 : Int32) < iI (s : Int) := by rw [L99]; exact tlt (by omega) (by omega) (by omega)
    rw [X4_whichTown_L42, X5_whichTown_L59, if_pos q, if_pos q]
    exact hG _ _ _ c F z1 z2 hM hK
  | succ r ih =>
    intro s n c A1 A2 A3 A4 A5 A6 A7 a1 a2 a3 a4 x3 x5 x6 z1 z2 B F hx hs hn hM hK hB
    obtain ⟨m, rfl⟩ : ∃ m, n = m + 1 := ⟨n - 1, by omega⟩
    subst hx
    have q : ¬ (99 : Int32) < iI (s : Int) := by rw [L99]; exact flt (by omega) (by omega) (by omega)
    have hX2 : OkX 1000 (upN t a s, i, co, d) := hX.t1 (fun j => upN_le (xT hX) (by omega) j)
    obtain ⟨B1, b1, b2, b3, e1⟩ := l_tells (G := G) hE hsh hN N 0 1000 1000 0 (upN t a s) i co d (by decide) (by omega) (by omega) hX2 (by omega)
    have e2 := s_X5_isTownSo (G := G) (N := N) (F := F) (z1 := z1) (z2 := z2) hE hsh hX2 hO hN
    have hT := twn_le (G := G) (e := (u, hd, k, f, g, l)) (sh := sh) N 0 (upN t a s, i, co, d)
    rw [X4_whichTown_L42, X5_whichTown_L59, if_neg q, if_neg q, s_X4_fromNow hM, Option.bind_some, wr_rn (f := t) (by omega) (by omega) (by omega) (by omega), Option.bind_some, wr_rn (f := upN t a c) (by omega) (by omega) (by omega) (by omega), Option.bind_some, Int.toNat_natCast, Int.toNat_natCast, upN_up]
    unfold X4_tellsWhoCame
    rw [e1, Option.bind_some, e2, Option.bind_some]
    by_cases h0 : twn G (u, hd, k, f, g, l) sh N 0 (upN t a s, i, co, d) = 0
    · rw [h0, if_pos z00, if_pos z00]
      exact ih (s + 1) m s (iI_s s) (by omega) (by omega) ⟨rn_len, rn_len, rn_len, rn_len, rn_len, rn_len, rn_len⟩ (hK.tr Kp.put2) hB
    · rw [show twn G (u, hd, k, f, g, l) sh N 0 (upN t a s, i, co, d) = 1 by omega, if_neg (show ¬ iI ((1 : Nat) : Int) = (0 : Int32) by decide), if_neg (show ¬ iI ((1 : Nat) : Int) = (0 : Int32) by decide)]
      rcases hB with rfl | hB
      · rw [if_pos e9, if_neg (show ¬ (0 : Int32) ≤ iI (-9) by decide)]
        exact ih (s + 1) m s (iI_s s) (by omega) (by omega) ⟨rn_len, rn_len, rn_len, rn_len, rn_len, rn_len, rn_len⟩ (hK.tr Kp.put2) (Or.inr (by omega))
      · rw [if_neg (n9 (by omega) (by omega)), if_pos (p9 (by omega) (by omega))]
        exact ih (s + 1) m s (iI_s s) (by omega) (by omega) ⟨rn_len, rn_len, rn_len, rn_len, rn_len, rn_len, rn_len⟩ (hK.tr Kp.put2) (Or.inr (by omega))
set_option maxRecDepth 20000 in
set_option maxHeartbeats 400000 in
theorem op_whichTown {A1 A2 A3 A4 A5 A6 A7 : List Int32} {a1 a2 a3 a4 : Int32} {u hd k f g l t i : Nat → Nat} {sh co d : Nat} {R : List Int32} {G F : Nat → Int32} {n : Nat} {z1 z2 p q : Int32} (hM : MJ (A1, A2, A3, A4, A5, A6, A7, a1, a2, a3, a4)) (hE : OkE (u, hd, k, f, g, l)) (hsh : sh ≤ 7) (hX : OkX 1000 (t, i, co, d)) (hO : OutI sh i) (hn : n ≤ 12) (hR : R.length = 7) :
    GG u hd k f g l t i sh co d F (X4_whichTown R (rq 12 G) A1 A2 A3 A4 A5 A6 A7 (rn 6 t) (rn 6 u) (rn 6 hd) (rn 7 k) (rn 7 f) (rn 7 g) (rn 7 l) (iI n) a1 a2 a3 a4 (iI sh) (iI (mk i)) (iI co) (iI d) p q) (X5_whichTown R (rn 6 t) (rn 6 u) (rn 6 hd) (rn 7 k) (rn 7 f) (rn 7 g) (rn 7 l) (rn 7 i) (rq 616 F) (rq 12 G) (iI sh) (iI co) (iI d) 0 z1 z2 (-9) (iI n) p q) := by
  have h1 := s_refuse (R := R) (c := 1) hR (by omega) (by omega)
  have h2 := s_refuse (R := R) (c := 2) hR (by omega) (by omega)
  unfold X4_whichTown X5_whichTown
  rcases good_cases p with ⟨a, ha, rfl, g1, g2⟩ | ⟨g1, g2⟩
  · rw [g1, g2, Option.bind_some, Option.bind_some, if_neg c10, if_neg c10]
    rcases what_cases (hi := 2) (by omega) q with ⟨w, hw1, rfl, e1, e2, e3⟩ | ⟨e1, e3⟩ | ⟨e1, e2, e3⟩
    · rw [if_neg e1, if_pos (show iI (w : Int) ≤ (2 : Int32) from e2), show X5_isIn (iI (w : Int)) 0 2 = some 1 from e3, Option.bind_some, if_neg c10, rd_rn (f := t) (by omega) (by omega) (by omega), Option.bind_some, Int.toNat_natCast]
      have key := l_whichTown (G := G) (a := a) (F0 := F) (N := n) (GG u hd k f g l t i sh co d F) (fun (y3_11 y4_12 y5_13 : Int32) (m_there_14 m_used_15 m_hidden_16 m_kind_17 m_figure_18 m_cargo_19 m_load_20 : List Int32) (m_ships_21 m_inn_22 m_coughs_23 m_day_24 : Int32) => if iI (w : Int) = (0 : Int32) then some (R, m_there_14, m_used_15, m_hidden_16, m_kind_17, m_figure_18, m_cargo_19, m_load_20, m_ships_21, m_inn_22, m_coughs_23, m_day_24, y3_11) else if iI (w : Int) = (1 : Int32) then some (R, m_there_14, m_used_15, m_hidden_16, m_kind_17, m_figure_18, m_cargo_19, m_load_20, m_ships_21, m_inn_22, m_coughs_23, m_day_24, y4_12) else some (R, m_there_14, m_used_15, m_hidden_16, m_kind_17, m_figure_18, m_cargo_19, m_load_20, m_ships_21, m_inn_22, m_coughs_23, m_day_24, y5_13)) (fun (y5_11 y6_12 y7_13 : Int32) (there_14 used_15 hidden_16 kind_17 figure_18 good_19 load_20 inn_21 kept_22 : List Int32) (ships_23 coughs_24 day_25 isKeeping_26 cursor_27 : Int32) => (wr there_14 (iI (a : Int)) (iI (t a : Int))).bind fun there_28 => if iI (w : Int) = (0 : Int32) then some (R, there_28, used_15, hidden_16, kind_17, figure_18, good_19, load_20, inn_21, kept_22, ships_23, coughs_24, day_25, isKeeping_26, cursor_27, y5_11) else if iI (w : Int) = (1 : Int32) then some (R, there_28, used_15, hidden_16, kind_17, figure_18, good_19, load_20, inn_21, kept_22, ships_23, coughs_24, day_25, isKeeping_26, cursor_27, y6_12) else some (R, there_28, used_15, hidden_16, kind_17, figure_18, good_19, load_20, inn_21, kept_22, ships_23, coughs_24, day_25, isKeeping_26, cursor_27, y7_13)) hE hsh hX hO hn ha (fun x y z A1 A2 A3 A4 A5 A6 A7 a1 a2 a3 a4 c F1 z1 z2 k1 k2 => by
        rw [wr_rn (by omega) (by omega) (by omega) (by omega), Option.bind_some, Int.toNat_natCast, Int.toNat_natCast, upN_self rfl]
        by_cases c0 : iI (w : Int) = (0 : Int32)
        · rw [if_pos c0, if_pos c0]
          exact exo k1 k2 hR
        rw [if_neg c0, if_neg c0]
        by_cases c1 : iI (w : Int) = (1 : Int32)
        · rw [if_pos c1, if_pos c1]
          exact exo k1 k2 hR
        rw [if_neg c1, if_neg c1]
        exact exo k1 k2 hR) 100 0 1000 (t a) (x3 := 0) (x5 := -9) (z1 := z1) (z2 := z2) (B := -9) (F := F) (show (0 : Int32) = iI ((0 : Nat) : Int) by decide) (by omega) (by omega) hM Kp.rf (Or.inl rfl)
      rw [upN_id] at key
      exact key
    · rw [if_pos e1, show X5_isIn q 0 2 = some 0 from e3, Option.bind_some, if_pos rfl, m2, h2.1, h2.2, Option.bind_some, Option.bind_some]
      exact exo hM Kp.rf (incR_len.trans hR)
    · rw [if_neg e1, if_neg (show ¬ q ≤ (2 : Int32) from e2), show X5_isIn q 0 2 = some 0 from e3, Option.bind_some, if_pos rfl, m2, h2.1, h2.2, Option.bind_some, Option.bind_some]
      exact exo hM Kp.rf (incR_len.trans hR)
  · rw [g1, g2, Option.bind_some, Option.bind_some, if_pos rfl, if_pos rfl, m1, h1.1, h1.2, Option.bind_some, Option.bind_some]
    exact exo hM Kp.rf (incR_len.trans hR)
