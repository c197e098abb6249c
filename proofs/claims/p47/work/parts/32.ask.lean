/-! what is asked of the class, and what it answers -/
set_option maxRecDepth 20000 in
set_option maxHeartbeats 400000 in
theorem exR {R B1 B2 B3 B4 B5 B6 B7 : List Int32} {b1 b2 b3 b4 v : Int32} (h : MJ (B1, B2, B3, B4, B5, B6, B7, b1, b2, b3, b4)) : ∃ Mz : Hs, some (R, B1, B2, B3, B4, B5, B6, B7, b1, b2, b3, b4, v) = some (R, Mz.1, Mz.2.1, Mz.2.2.1, Mz.2.2.2.1, Mz.2.2.2.2.1, Mz.2.2.2.2.2.1, Mz.2.2.2.2.2.2.1, Mz.2.2.2.2.2.2.2.1, Mz.2.2.2.2.2.2.2.2.1, Mz.2.2.2.2.2.2.2.2.2.1, Mz.2.2.2.2.2.2.2.2.2.2, v) ∧ MJ Mz := ⟨(B1, B2, B3, B4, B5, B6, B7, b1, b2, b3, b4), rfl, h⟩
set_option maxRecDepth 20000 in
set_option maxHeartbeats 400000 in
theorem n60 : (60 : Int32) = iI ((60 : Nat) : Int) := by decide
set_option maxRecDepth 20000 in
set_option maxHeartbeats 400000 in
theorem sX15 {S : SS} (h : OkS S) : OkX 1500 S.2.2 := (sX h).mono (by omega)
set_option maxRecDepth 20000 in
set_option maxHeartbeats 400000 in
theorem a60 {n : Nat} (h : n ≤ 60) : X4_misfit (iI (n : Int)) 0 60 = some 0 := by
  rw [L0, L60]
  exact q_misfit (by omega) (by omega) (by omega) (by omega)
set_option maxRecDepth 20000 in
set_option maxHeartbeats 400000 in
theorem a160 {n : Nat} (h0 : 1 ≤ n) (h : n ≤ 60) : X4_misfit (iI (n : Int)) 1 60 = some 0 := by
  rw [L1, L60]
  exact q_misfit (by omega) (by omega) (by omega) (by omega)
set_option maxRecDepth 20000 in
set_option maxHeartbeats 400000 in
theorem q_thereIn {A1 A2 A3 A4 A5 A6 A7 : List Int32} {a1 a2 a3 a4 : Int32} {u hd k f g l t i : Nat → Nat} {sh co d : Nat} {R : List Int32} {a n : Nat} (hM : MJ (A1, A2, A3, A4, A5, A6, A7, a1, a2, a3, a4)) (hS : OkS ((u, hd, k, f, g, l), sh, (t, i, co, d))) (ha : a < 6) (hn : n ≤ 60) : ∃ Mz : Hs, X4_thereIn R A1 A2 A3 A4 A5 A6 A7 (rn 6 t) (rn 6 u) (rn 6 hd) (rn 7 k) (rn 7 f) (rn 7 g) (rn 7 l) a1 a2 a3 a4 (iI sh) (iI (mk i)) (iI co) (iI d) (iI a) (iI n) = some (R, Mz.1, Mz.2.1, Mz.2.2.1, Mz.2.2.2.1, Mz.2.2.2.2.1, Mz.2.2.2.2.2.1, Mz.2.2.2.2.2.2.1, Mz.2.2.2.2.2.2.2.1, Mz.2.2.2.2.2.2.2.2.1, Mz.2.2.2.2.2.2.2.2.2.1, Mz.2.2.2.2.2.2.2.2.2.2, iI ((daysX (u, hd, k, f, g, l) sh 0 6 n (t, i, co, d)).1 a)) ∧ MJ Mz := by
  have hE : OkE (u, hd, k, f, g, l) := sE hS
  have hsh : sh ≤ 7 := sSh hS
  have hX : OkX 1500 (t, i, co, d) := sX15 hS
  have hX9 : OkX 999 (t, i, co, d) := sX hS
  unfold X4_thereIn
  rw [q_isGood ha, Option.bind_some, if_neg c10, a60 hn, Option.bind_some, if_pos rfl, s_X4_fromNow hM, Option.bind_some, s_X0_passDays hE hsh (by omega) hX, Option.bind_some, rd_rn (by omega) (by omega) (by omega), Option.bind_some, Int.toNat_natCast]
  exact exR ⟨rn_len, rn_len, rn_len, rn_len, rn_len, rn_len, rn_len⟩
set_option maxRecDepth 20000 in
set_option maxHeartbeats 400000 in
theorem q_then1 {A1 A2 A3 A4 A5 A6 A7 : List Int32} {a1 a2 a3 a4 : Int32} {u hd k f g l t i : Nat → Nat} {sh co d : Nat} {R : List Int32} {n : Nat} (hM : MJ (A1, A2, A3, A4, A5, A6, A7, a1, a2, a3, a4)) (hS : OkS ((u, hd, k, f, g, l), sh, (t, i, co, d))) (hn : n ≤ 60) : ∃ Mz : Hs, X4_then R A1 A2 A3 A4 A5 A6 A7 (rn 6 t) (rn 6 u) (rn 6 hd) (rn 7 k) (rn 7 f) (rn 7 g) (rn 7 l) a1 a2 a3 a4 (iI sh) (iI (mk i)) (iI co) (iI d) (iI n) 1 = some (R, Mz.1, Mz.2.1, Mz.2.2.1, Mz.2.2.2.1, Mz.2.2.2.2.1, Mz.2.2.2.2.2.1, Mz.2.2.2.2.2.2.1, Mz.2.2.2.2.2.2.2.1, Mz.2.2.2.2.2.2.2.2.1, Mz.2.2.2.2.2.2.2.2.2.1, Mz.2.2.2.2.2.2.2.2.2.2, iI (mk (daysX (u, hd, k, f, g, l) sh 0 6 n (t, i, co, d)).2.1)) ∧ MJ Mz := by
  have hE : OkE (u, hd, k, f, g, l) := sE hS
  have hsh : sh ≤ 7 := sSh hS
  have hX : OkX 1500 (t, i, co, d) := sX15 hS
  have hX9 : OkX 999 (t, i, co, d) := sX hS
  unfold X4_then
  rw [a60 hn, Option.bind_some, if_pos rfl, if_neg (by decide), if_pos (by decide), s_X4_fromNow hM, Option.bind_some, s_X0_passDays hE hsh (by omega) hX, Option.bind_some, if_neg (by decide)]
  exact exR ⟨rn_len, rn_len, rn_len, rn_len, rn_len, rn_len, rn_len⟩
set_option maxRecDepth 20000 in
set_option maxHeartbeats 400000 in
theorem q_then0 {A1 A2 A3 A4 A5 A6 A7 : List Int32} {a1 a2 a3 a4 : Int32} {u hd k f g l t i : Nat → Nat} {sh co d : Nat} {R : List Int32} {n : Nat} (hM : MJ (A1, A2, A3, A4, A5, A6, A7, a1, a2, a3, a4)) (hS : OkS ((u, hd, k, f, g, l), sh, (t, i, co, d))) (hn : n ≤ 60) : ∃ Mz : Hs, X4_then R A1 A2 A3 A4 A5 A6 A7 (rn 6 t) (rn 6 u) (rn 6 hd) (rn 7 k) (rn 7 f) (rn 7 g) (rn 7 l) a1 a2 a3 a4 (iI sh) (iI (mk i)) (iI co) (iI d) (iI n) 0 = some (R, Mz.1, Mz.2.1, Mz.2.2.1, Mz.2.2.2.1, Mz.2.2.2.2.1, Mz.2.2.2.2.2.1, Mz.2.2.2.2.2.2.1, Mz.2.2.2.2.2.2.2.1, Mz.2.2.2.2.2.2.2.2.1, Mz.2.2.2.2.2.2.2.2.2.1, Mz.2.2.2.2.2.2.2.2.2.2, iI (daysX (u, hd, k, f, g, l) sh 0 6 n (t, i, co, d)).2.2.1) ∧ MJ Mz := by
  have hE : OkE (u, hd, k, f, g, l) := sE hS
  have hsh : sh ≤ 7 := sSh hS
  have hX : OkX 1500 (t, i, co, d) := sX15 hS
  have hX9 : OkX 999 (t, i, co, d) := sX hS
  unfold X4_then
  rw [a60 hn, Option.bind_some, if_pos rfl, if_neg (by decide), if_pos (by decide), s_X4_fromNow hM, Option.bind_some, s_X0_passDays hE hsh (by omega) hX, Option.bind_some, if_pos rfl]
  exact exR ⟨rn_len, rn_len, rn_len, rn_len, rn_len, rn_len, rn_len⟩
set_option maxRecDepth 20000 in
set_option maxHeartbeats 400000 in
theorem q_comes {A1 A2 A3 A4 A5 A6 A7 : List Int32} {a1 a2 a3 a4 : Int32} {u hd k f g l t i : Nat → Nat} {sh co d : Nat} {R : List Int32} {s : Nat} (hM : MJ (A1, A2, A3, A4, A5, A6, A7, a1, a2, a3, a4)) (hS : OkS ((u, hd, k, f, g, l), sh, (t, i, co, d))) (hs : s < sh) : ∃ Mz : Hs, X4_comes R A1 A2 A3 A4 A5 A6 A7 (rn 6 t) (rn 6 u) (rn 6 hd) (rn 7 k) (rn 7 f) (rn 7 g) (rn 7 l) a1 a2 a3 a4 (iI sh) (iI (mk i)) (iI co) (iI d) (iI s) = some (R, Mz.1, Mz.2.1, Mz.2.2.1, Mz.2.2.2.1, Mz.2.2.2.2.1, Mz.2.2.2.2.2.1, Mz.2.2.2.2.2.2.1, Mz.2.2.2.2.2.2.2.1, Mz.2.2.2.2.2.2.2.2.1, Mz.2.2.2.2.2.2.2.2.2.1, Mz.2.2.2.2.2.2.2.2.2.2, iI (cmX (u, hd, k, f, g, l) sh 0 6 s 60 0 (t, i, co, d)).1) ∧ MJ Mz := by
  have hE : OkE (u, hd, k, f, g, l) := sE hS
  have hsh : sh ≤ 7 := sSh hS
  have hX : OkX 1500 (t, i, co, d) := sX15 hS
  have hX9 : OkX 999 (t, i, co, d) := sX hS
  unfold X4_comes
  rw [if_neg (show ¬ iI (s : Int) = (-1 : Int32) by rw [nm1]; exact feq (by omega) (by omega) (by omega) (by omega) (by omega)), q_isShip hsh hs, Option.bind_some, if_neg c10, s_X4_fromNow hM, Option.bind_some, n60, s_X0_daysUntilIn (N := 60) hE hsh (show s < 7 by omega) (by omega) hX, Option.bind_some]
  exact exR ⟨rn_len, rn_len, rn_len, rn_len, rn_len, rn_len, rn_len⟩
set_option maxRecDepth 20000 in
set_option maxHeartbeats 400000 in
theorem q_comesF {A1 A2 A3 A4 A5 A6 A7 : List Int32} {a1 a2 a3 a4 : Int32} {u hd k f g l t i : Nat → Nat} {sh co d : Nat} {R : List Int32} (hM : MJ (A1, A2, A3, A4, A5, A6, A7, a1, a2, a3, a4)) (hS : OkS ((u, hd, k, f, g, l), sh, (t, i, co, d))) : ∃ Mz : Hs, X4_comes R A1 A2 A3 A4 A5 A6 A7 (rn 6 t) (rn 6 u) (rn 6 hd) (rn 7 k) (rn 7 f) (rn 7 g) (rn 7 l) a1 a2 a3 a4 (iI sh) (iI (mk i)) (iI co) (iI d) (-1) = some (R, Mz.1, Mz.2.1, Mz.2.2.1, Mz.2.2.2.1, Mz.2.2.2.2.1, Mz.2.2.2.2.2.1, Mz.2.2.2.2.2.2.1, Mz.2.2.2.2.2.2.2.1, Mz.2.2.2.2.2.2.2.2.1, Mz.2.2.2.2.2.2.2.2.2.1, Mz.2.2.2.2.2.2.2.2.2.2, iI (fst1 (u, hd, k, f, g, l) sh i 60 (t, i, co, d))) ∧ MJ Mz := by
  have hE : OkE (u, hd, k, f, g, l) := sE hS
  have hsh : sh ≤ 7 := sSh hS
  have hX : OkX 1500 (t, i, co, d) := sX15 hS
  have hX9 : OkX 999 (t, i, co, d) := sX hS
  have hi := xI hX
  obtain ⟨Mz, e1, k1⟩ := l_first (i0 := i) hE hsh hi 60 0 1000 999 0 t i co d (by decide) (by omega) (by omega) hX9 (by omega)
  unfold X4_comes X4_firstToComeIn
  rw [if_pos rfl, s_X4_fromNow hM, Option.bind_some, e1, Option.bind_some]
  exact exR k1
set_option maxRecDepth 20000 in
set_option maxHeartbeats 400000 in
theorem q_byWhom {A1 A2 A3 A4 A5 A6 A7 : List Int32} {a1 a2 a3 a4 : Int32} {u hd k f g l t i : Nat → Nat} {sh co d : Nat} {R : List Int32} {s : Nat} (hM : MJ (A1, A2, A3, A4, A5, A6, A7, a1, a2, a3, a4)) (hS : OkS ((u, hd, k, f, g, l), sh, (t, i, co, d))) (hs : s < sh) : ∃ Mz : Hs, X4_byWhom R A1 A2 A3 A4 A5 A6 A7 (rn 6 t) (rn 6 u) (rn 6 hd) (rn 7 k) (rn 7 f) (rn 7 g) (rn 7 l) a1 a2 a3 a4 (iI sh) (iI (mk i)) (iI co) (iI d) (iI s) = some (R, Mz.1, Mz.2.1, Mz.2.2.1, Mz.2.2.2.1, Mz.2.2.2.2.1, Mz.2.2.2.2.2.1, Mz.2.2.2.2.2.2.1, Mz.2.2.2.2.2.2.2.1, Mz.2.2.2.2.2.2.2.2.1, Mz.2.2.2.2.2.2.2.2.2.1, Mz.2.2.2.2.2.2.2.2.2.2, iI (if shV (u, hd, k, f, g, l) sh (t, i, co, d) s = 0 then -9 else byV (u, hd, k, f, g, l) sh s (t, i, co, d) sh 0)) ∧ MJ Mz := by
  have hE : OkE (u, hd, k, f, g, l) := sE hS
  have hsh : sh ≤ 7 := sSh hS
  have hX : OkX 1500 (t, i, co, d) := sX15 hS
  have hX9 : OkX 999 (t, i, co, d) := sX hS
  have b := shV_le (e := (u, hd, k, f, g, l)) (sh := sh) (x := (t, i, co, d)) (s := s)
  obtain ⟨M1, e1, k1⟩ := s_X4_isShut (s := s) hM hE hsh hX (show s < 7 by omega)
  unfold X4_byWhom
  rw [q_isShip hsh hs, Option.bind_some, if_neg c10, e1, Option.bind_some]
  by_cases c : shV (u, hd, k, f, g, l) sh (t, i, co, d) s = 0
  · rw [if_pos c, c, if_pos (show iI ((0 : Nat) : Int) = (0 : Int32) by decide)]
    exact exR k1
  · rw [if_neg c, show shV (u, hd, k, f, g, l) sh (t, i, co, d) s = 1 by omega, if_neg (show ¬ iI ((1 : Nat) : Int) = (0 : Int32) by decide)]
    exact l_X4_byWhom (s0 := s) hE hsh (show s < 7 by omega) hX sh 0 1000 0 M1 (by decide) (by omega) (by omega) k1
set_option maxRecDepth 20000 in
set_option maxHeartbeats 400000 in
theorem l_loaded1 {u hd k f g l t i : Nat → Nat} {sh co d : Nat} {R : List Int32} {s0 : Nat} (hE : OkE (u, hd, k, f, g, l)) (hsh : sh ≤ 7) (hX : OkX 1500 (t, i, co, d)) (hs0 : s0 < 7) : ∀ (r s n : Nat) {A1 A2 A3 A4 A5 A6 A7 : List Int32} {a1 a2 a3 a4 : Int32} {x5 : Int32} {B C : Int}, x5 = iI (s : Int) → s + r = 6 → r < n → MJ (A1, A2, A3, A4, A5, A6, A7, a1, a2, a3, a4) → ((B = -9 ∧ C = -9 ∧ ∀ j, j < s → (cmX (u, hd, k, f, upN g s0 j, l) sh 0 6 s0 60 0 (t, i, co, d)).1 = -9) ∨ (0 ≤ B ∧ B ≤ 5 ∧ 0 ≤ C ∧ C ≤ 60 ∧ ∀ j, j < s → (cmX (u, hd, k, f, upN g s0 j, l) sh 0 6 s0 60 0 (t, i, co, d)).1 = -9 ∨ C ≤ (cmX (u, hd, k, f, upN g s0 j, l) sh 0 6 s0 60 0 (t, i, co, d)).1)) →
    ∃ (Mz : Hs) (v : Int), X4_loaded_L61 (fun (y yy : Int32) (q1 q2 q3 q4 q5 q6 q7 : List Int32) (q8 q9 q10 q11 : Int32) => if (1 : Int32) = 0 then some (R, q1, q2, q3, q4, q5, q6, q7, q8, q9, q10, q11, y) else some (R, q1, q2, q3, q4, q5, q6, q7, q8, q9, q10, q11, yy)) (rn 6 t) (rn 6 u) (rn 6 hd) (rn 7 k) (rn 7 f) (rn 7 g) (rn 7 l) (iI sh) (iI (mk i)) (iI co) (iI d) (iI (s0 : Int)) n (iI B) (iI C) x5 A1 A2 A3 A4 A5 A6 A7 a1 a2 a3 a4 = some (R, Mz.1, Mz.2.1, Mz.2.2.1, Mz.2.2.2.1, Mz.2.2.2.2.1, Mz.2.2.2.2.2.1, Mz.2.2.2.2.2.2.1, Mz.2.2.2.2.2.2.2.1, Mz.2.2.2.2.2.2.2.2.1, Mz.2.2.2.2.2.2.2.2.2.1, Mz.2.2.2.2.2.2.2.2.2.2, iI v) ∧ MJ Mz ∧ ((v = -9 ∧ ∀ j, j < 6 → (cmX (u, hd, k, f, upN g s0 j, l) sh 0 6 s0 60 0 (t, i, co, d)).1 = -9) ∨ (0 ≤ v ∧ v ≤ 60 ∧ ∀ j, j < 6 → (cmX (u, hd, k, f, upN g s0 j, l) sh 0 6 s0 60 0 (t, i, co, d)).1 = -9 ∨ v ≤ (cmX (u, hd, k, f, upN g s0 j, l) sh 0 6 s0 60 0 (t, i, co, d)).1)) := by
  intro r
  induction r with
  | zero =>
    intro s n A1 A2 A3 A4 A5 A6 A7 a1 a2 a3 a4 x5 B C hx hs hn hM hBC
    obtain ⟨m, rfl⟩ : ∃ m, n = m + 1 := ⟨n - 1, by omega⟩
    subst hx
    obtain rfl : s = 6 := by omega
    have q : (6 : Int32) ≤ iI ((6 : Nat) : Int) := by decide
    rw [X4_loaded_L61, if_pos q, if_neg c10]
    refine ⟨(A1, A2, A3, A4, A5, A6, A7, a1, a2, a3, a4), C, rfl, hM, ?_⟩
    rcases hBC with ⟨h1, h2, h3⟩ | ⟨h1, h2, h3, h4, h5⟩
    · exact Or.inl ⟨h2, h3⟩
    · exact Or.inr ⟨h3, h4, h5⟩
  | succ r ih =>
    intro s n A1 A2 A3 A4 A5 A6 A7 a1 a2 a3 a4 x5 B C hx hs hn hM hBC
    obtain ⟨m, rfl⟩ : ∃ m, n = m + 1 := ⟨n - 1, by omega⟩
    subst hx
    have q : ¬ (6 : Int32) ≤ iI (s : Int) := by rw [L6]; exact fle (by omega) (by omega) (by omega)
    have hE2 : OkE (u, hd, k, f, upN g s0 s, l) := hE.g1 (fun j => upN_le (oG hE) (by omega) j)
    have b3 := cmX_b (e := (u, hd, k, f, upN g s0 s, l)) (sh := sh) (b := 0) (fr := 6) (s := s0) 60 0 (t, i, co, d)
    have ex : ∀ {j}, j < s + 1 → ¬ j < s → j = s := fun h1 h2 => by omega
    rw [X4_loaded_L61, if_neg q, s_X4_fromNow hM, Option.bind_some, n60, wr_rn (f := g) (by omega) (by omega) (by omega) (by omega), Option.bind_some, Int.toNat_natCast, Int.toNat_natCast, s_X0_daysUntilIn (N := 60) hE2 hsh hs0 (by omega) hX, Option.bind_some]
    rcases b3 with b3 | b3
    · rw [b3, if_pos e9]
      refine ih (s + 1) m (iI_s s) (by omega) (by omega) ⟨rn_len, rn_len, rn_len, rn_len, rn_len, rn_len, rn_len⟩ ?_
      rcases hBC with ⟨h1, h2, h3⟩ | ⟨h1, h2, h3, h4, h5⟩
      · refine Or.inl ⟨h1, h2, fun j hj => ?_⟩
        by_cases cj : j < s
        · exact h3 j cj
        · rw [ex hj cj]; exact b3
      · refine Or.inr ⟨h1, h2, h3, h4, fun j hj => ?_⟩
        by_cases cj : j < s
        · exact h5 j cj
        · rw [ex hj cj]; exact Or.inl b3
    · rw [if_neg (n9 (by omega) (by omega))]
      rcases hBC with ⟨rfl, rfl, h3⟩ | ⟨h1, h2, h3, h4, h5⟩
      · rw [if_pos e9]
        refine ih (s + 1) m (iI_s s) (by omega) (by omega) ⟨rn_len, rn_len, rn_len, rn_len, rn_len, rn_len, rn_len⟩ (Or.inr ⟨by omega, by omega, by omega, by omega, fun j hj => ?_⟩)
        by_cases cj : j < s
        · exact Or.inl (h3 j cj)
        · rw [ex hj cj]; exact Or.inr (Int.le_refl _)
      · rw [if_neg (n9 (by omega) (by omega))]
        by_cases w1 : C ≤ (cmX (u, hd, k, f, upN g s0 s, l) sh 0 6 s0 60 0 (t, i, co, d)).1
        · rw [if_pos (tle w1 (by omega) (by omega))]
          refine ih (s + 1) m (iI_s s) (by omega) (by omega) ⟨rn_len, rn_len, rn_len, rn_len, rn_len, rn_len, rn_len⟩ (Or.inr ⟨h1, h2, h3, h4, fun j hj => ?_⟩)
          by_cases cj : j < s
          · exact h5 j cj
          · rw [ex hj cj]; exact Or.inr w1
        · rw [if_neg (fle (by omega) (by omega) (by omega))]
          refine ih (s + 1) m (iI_s s) (by omega) (by omega) ⟨rn_len, rn_len, rn_len, rn_len, rn_len, rn_len, rn_len⟩ (Or.inr ⟨by omega, by omega, by omega, by omega, fun j hj => ?_⟩)
          by_cases cj : j < s
          · rcases h5 j cj with h | h
            · exact Or.inl h
            · exact Or.inr (by omega)
          · rw [ex hj cj]; exact Or.inr (Int.le_refl _)
set_option maxRecDepth 20000 in
set_option maxHeartbeats 400000 in
theorem q_loaded1 {A1 A2 A3 A4 A5 A6 A7 : List Int32} {a1 a2 a3 a4 : Int32} {u hd k f g l t i : Nat → Nat} {sh co d : Nat} {R : List Int32} {s : Nat} (hM : MJ (A1, A2, A3, A4, A5, A6, A7, a1, a2, a3, a4)) (hS : OkS ((u, hd, k, f, g, l), sh, (t, i, co, d))) (hs : s < sh) (hi : i s = 0) : ∃ (Mz : Hs) (v : Int), X4_loaded R A1 A2 A3 A4 A5 A6 A7 (rn 6 t) (rn 6 u) (rn 6 hd) (rn 7 k) (rn 7 f) (rn 7 g) (rn 7 l) a1 a2 a3 a4 (iI sh) (iI (mk i)) (iI co) (iI d) (iI s) 1 = some (R, Mz.1, Mz.2.1, Mz.2.2.1, Mz.2.2.2.1, Mz.2.2.2.2.1, Mz.2.2.2.2.2.1, Mz.2.2.2.2.2.2.1, Mz.2.2.2.2.2.2.2.1, Mz.2.2.2.2.2.2.2.2.1, Mz.2.2.2.2.2.2.2.2.2.1, Mz.2.2.2.2.2.2.2.2.2.2, iI v) ∧ MJ Mz ∧ -9 ≤ v ∧ v ≤ 60 ∧ (0 ≤ (cmX (u, hd, k, f, g, l) sh 0 6 s 60 0 (t, i, co, d)).1 → v ≤ (cmX (u, hd, k, f, g, l) sh 0 6 s 60 0 (t, i, co, d)).1) := by
  have hE : OkE (u, hd, k, f, g, l) := sE hS
  have hsh : sh ≤ 7 := sSh hS
  have hX : OkX 1500 (t, i, co, d) := sX15 hS
  have hX9 : OkX 999 (t, i, co, d) := sX hS
  have hg := oG hE s
  obtain ⟨Mz, v, e1, k1, k2⟩ := l_loaded1 (R := R) (s0 := s) (B := -9) (C := -9) hE hsh hX (show s < 7 by omega) 6 0 1000 (by decide : (0 : Int32) = iI ((0 : Nat) : Int)) (by omega) (by omega) hM (Or.inl ⟨rfl, rfl, fun j hj => absurd hj (by omega)⟩)
  rw [e9] at e1
  unfold X4_loaded
  rw [q_isShip hsh hs, Option.bind_some, if_neg c10, if_neg (by decide), if_pos (by decide), s_X0_isIn (xI hX) (by omega) (by omega), Option.bind_some, Int.toNat_natCast, if_pos (show iI (i s : Int) = (0 : Int32) by rw [hi]; decide)]
  refine ⟨Mz, v, e1, k1, ?_⟩
  rcases k2 with ⟨h1, h2⟩ | ⟨h1, h2, h3⟩
  · exact ⟨by omega, by omega, fun _ => by omega⟩
  · refine ⟨by omega, h2, fun hc => ?_⟩
    have h4 := h3 (g s) (by omega)
    rw [upN_id] at h4
    rcases h4 with h | h
    · exact absurd hc (by rw [h]; decide)
    · exact h
set_option maxRecDepth 20000 in
set_option maxHeartbeats 400000 in
theorem q_loadedIn {A1 A2 A3 A4 A5 A6 A7 : List Int32} {a1 a2 a3 a4 : Int32} {u hd k f g l t i : Nat → Nat} {sh co d : Nat} {R : List Int32} {s : Nat} (hR : R.length = 7) (hS : OkS ((u, hd, k, f, g, l), sh, (t, i, co, d))) (hs : s < sh) (hi : i s = 1) : X4_loaded R A1 A2 A3 A4 A5 A6 A7 (rn 6 t) (rn 6 u) (rn 6 hd) (rn 7 k) (rn 7 f) (rn 7 g) (rn 7 l) a1 a2 a3 a4 (iI sh) (iI (mk i)) (iI co) (iI d) (iI s) 0 = some (incR R 3, A1, A2, A3, A4, A5, A6, A7, a1, a2, a3, a4, -3) := by
  have hsh : sh ≤ 7 := sSh hS
  have hX : OkX 1500 (t, i, co, d) := sX15 hS
  unfold X4_loaded
  rw [q_isShip hsh hs, Option.bind_some, if_neg c10, if_neg (by decide), if_pos (by decide), s_X0_isIn (xI hX) (by omega) (by omega), Option.bind_some, Int.toNat_natCast, if_neg (show ¬ iI (i s : Int) = (0 : Int32) by rw [hi]; decide), r3 hR, Option.bind_some]
/-- when s0 is IN within N days, m of good a hidden; -9 -/
def PH (e : Env) (sh s0 N a : Nat) (x : XX) (m : Nat) : Int := (cmX (e.1, upN e.2.1 a (e.2.1 a + m), e.2.2) sh 0 6 s0 N 0 (upN x.1 a (x.1 a - m), x.2)).1
set_option maxRecDepth 20000 in
set_option maxHeartbeats 400000 in
theorem l_hide {u hd k f g l t i : Nat → Nat} {sh co d : Nat} {R : List Int32} {a s0 N : Nat} (hE : OkE (u, hd, k, f, g, l)) (hhd : ∀ j, hd j ≤ 99) (hsh : sh ≤ 7) (hX : OkX 1500 (t, i, co, d)) (ha : a < 6) (hs0 : s0 < 7) (hN : N ≤ 60) : ∀ (r s n : Nat) {A1 A2 A3 A4 A5 A6 A7 : List Int32} {a1 a2 a3 a4 : Int32} {x5 : Int32}, x5 = iI (s : Int) → s + r = t a + 1 → r < n → MJ (A1, A2, A3, A4, A5, A6, A7, a1, a2, a3, a4) → (∀ j, j < s → PH (u, hd, k, f, g, l) sh s0 N a (t, i, co, d) j = -9) →
    ∃ (Mz : Hs) (v : Int), X4_hide_L48 (fun (q1 q2 q3 q4 q5 q6 q7 : List Int32) (q8 q9 q10 q11 : Int32) => some (R, q1, q2, q3, q4, q5, q6, q7, q8, q9, q10, q11, (-9 : Int32))) R (rn 6 t) (rn 6 u) (rn 6 hd) (rn 7 k) (rn 7 f) (rn 7 g) (rn 7 l) (iI sh) (iI (mk i)) (iI co) (iI d) (iI (a : Int)) (iI (s0 : Int)) (iI (N : Int)) n x5 A1 A2 A3 A4 A5 A6 A7 a1 a2 a3 a4 = some (R, Mz.1, Mz.2.1, Mz.2.2.1, Mz.2.2.2.1, Mz.2.2.2.2.1, Mz.2.2.2.2.2.1, Mz.2.2.2.2.2.2.1, Mz.2.2.2.2.2.2.2.1, Mz.2.2.2.2.2.2.2.2.1, Mz.2.2.2.2.2.2.2.2.2.1, Mz.2.2.2.2.2.2.2.2.2.2, iI v) ∧ MJ Mz ∧ ((v = -9 ∧ ∀ j, j ≤ t a → PH (u, hd, k, f, g, l) sh s0 N a (t, i, co, d) j = -9) ∨ (∃ w : Nat, w ≤ t a ∧ v = (w : Int) ∧ ¬ PH (u, hd, k, f, g, l) sh s0 N a (t, i, co, d) w = -9 ∧ ∀ j, j < w → PH (u, hd, k, f, g, l) sh s0 N a (t, i, co, d) j = -9)) := by
  intro r
  have b1 := hhd a
  have b2 := xT hX a
  induction r with
  | zero =>
    intro s n A1 A2 A3 A4 A5 A6 A7 a1 a2 a3 a4 x5 hx hs hn hM hK
    obtain ⟨m, rfl⟩ : ∃ m, n = m + 1 := ⟨n - 1, by omega⟩
    subst hx
    have q : iI (t a : Int) < iI (s : Int) := tlt (by omega) (by omega) (by omega)
    rw [X4_hide_L48, rd_rn (f := t) (by omega) (by omega) (by omega), Option.bind_some, Int.toNat_natCast, if_pos q, ← e9]
    exact ⟨(A1, A2, A3, A4, A5, A6, A7, a1, a2, a3, a4), -9, rfl, hM, Or.inl ⟨rfl, fun j hj => hK j (by omega)⟩⟩
  | succ r ih =>
    intro s n A1 A2 A3 A4 A5 A6 A7 a1 a2 a3 a4 x5 hx hs hn hM hK
    obtain ⟨m, rfl⟩ : ∃ m, n = m + 1 := ⟨n - 1, by omega⟩
    subst hx
    have q : ¬ iI (t a : Int) < iI (s : Int) := flt (by omega) (by omega) (by omega)
    have hE2 : OkE (u, upN hd a (hd a + s), k, f, g, l) := hE.hd1 (fun j => upN_le (oH hE) (by omega) j)
    have hX2 : OkX 1500 (upN t a (t a - s), i, co, d) := hX.t1 (fun j => upN_le (xT hX) (by omega) j)
    have h1 := (s_hideAway (t := t) (hd := hd) (a := a) (n := (s : Int)) ha (by omega) (by omega)).1
    rw [show ((t a : Int) - (s : Int)).toNat = t a - s by omega, show ((hd a : Int) + (s : Int)).toNat = hd a + s by omega] at h1
    have b3 := cmX_b (e := (u, upN hd a (hd a + s), k, f, g, l)) (sh := sh) (b := 0) (fr := 6) (s := s0) N 0 (upN t a (t a - s), i, co, d)
    have eP : PH (u, hd, k, f, g, l) sh s0 N a (t, i, co, d) s = (cmX (u, upN hd a (hd a + s), k, f, g, l) sh 0 6 s0 N 0 (upN t a (t a - s), i, co, d)).1 := rfl
    rw [X4_hide_L48, rd_rn (f := t) (by omega) (by omega) (by omega), Option.bind_some, Int.toNat_natCast, if_neg q, s_X4_fromNow hM, Option.bind_some, h1, Option.bind_some, s_X0_daysUntilIn hE2 hsh hs0 (by omega) hX2, Option.bind_some]
    rcases b3 with b3 | b3
    · rw [b3, if_pos e9]
      refine ih (s + 1) m (iI_s s) (by omega) (by omega) ⟨rn_len, rn_len, rn_len, rn_len, rn_len, rn_len, rn_len⟩ (fun j hj => ?_)
      by_cases cj : j < s
      · exact hK j cj
      · rw [show j = s by omega, eP]; exact b3
    · rw [if_neg (n9 (by omega) (by omega))]
      obtain ⟨Mz, e1, k1⟩ := exR (R := R) (v := iI (s : Int)) (b1 := iI (sh : Int)) (b2 := iI (mk (cmX (u, upN hd a (hd a + s), k, f, g, l) sh 0 6 s0 N 0 (upN t a (t a - s), i, co, d)).2.2.1)) (b3 := iI (cmX (u, upN hd a (hd a + s), k, f, g, l) sh 0 6 s0 N 0 (upN t a (t a - s), i, co, d)).2.2.2.1) (b4 := iI (cmX (u, upN hd a (hd a + s), k, f, g, l) sh 0 6 s0 N 0 (upN t a (t a - s), i, co, d)).2.2.2.2) (show MJ (rn 6 (cmX (u, upN hd a (hd a + s), k, f, g, l) sh 0 6 s0 N 0 (upN t a (t a - s), i, co, d)).2.1, rn 6 u, rn 6 (upN hd a (hd a + s)), rn 7 k, rn 7 f, rn 7 g, rn 7 l, _, _, _, _) from ⟨rn_len, rn_len, rn_len, rn_len, rn_len, rn_len, rn_len⟩)
      exact ⟨Mz, s, e1, k1, Or.inr ⟨s, by omega, rfl, by rw [eP]; omega, hK⟩⟩
set_option maxRecDepth 20000 in
set_option maxHeartbeats 400000 in
theorem q_hide {A1 A2 A3 A4 A5 A6 A7 : List Int32} {a1 a2 a3 a4 : Int32} {u hd k f g l t i : Nat → Nat} {sh co d : Nat} {R : List Int32} {a s N : Nat} (hM : MJ (A1, A2, A3, A4, A5, A6, A7, a1, a2, a3, a4)) (hS : OkS ((u, hd, k, f, g, l), sh, (t, i, co, d))) (ha : a < 6) (hs : s < sh) (hN0 : 1 ≤ N) (hN : N ≤ 60) : ∃ (Mz : Hs) (v : Int), X4_hide R A1 A2 A3 A4 A5 A6 A7 (rn 6 t) (rn 6 u) (rn 6 hd) (rn 7 k) (rn 7 f) (rn 7 g) (rn 7 l) a1 a2 a3 a4 (iI sh) (iI (mk i)) (iI co) (iI d) (iI a) (iI s) (iI N) = some (R, Mz.1, Mz.2.1, Mz.2.2.1, Mz.2.2.2.1, Mz.2.2.2.2.1, Mz.2.2.2.2.2.1, Mz.2.2.2.2.2.2.1, Mz.2.2.2.2.2.2.2.1, Mz.2.2.2.2.2.2.2.2.1, Mz.2.2.2.2.2.2.2.2.2.1, Mz.2.2.2.2.2.2.2.2.2.2, iI v) ∧ MJ Mz ∧ ((v = -9 ∧ ∀ j, j ≤ t a → PH (u, hd, k, f, g, l) sh s N a (t, i, co, d) j = -9) ∨ (∃ w : Nat, w ≤ t a ∧ v = (w : Int) ∧ ¬ PH (u, hd, k, f, g, l) sh s N a (t, i, co, d) w = -9 ∧ ∀ j, j < w → PH (u, hd, k, f, g, l) sh s N a (t, i, co, d) j = -9)) := by
  have hE : OkE (u, hd, k, f, g, l) := sE hS
  have hsh : sh ≤ 7 := sSh hS
  have hX : OkX 1500 (t, i, co, d) := sX15 hS
  have hX9 : OkX 999 (t, i, co, d) := sX hS
  have b2 := xT hX a
  unfold X4_hide
  rw [q_isGood ha, Option.bind_some, if_neg c10, q_isShip hsh hs, Option.bind_some, if_neg c10, a160 hN0 hN, Option.bind_some, if_pos rfl]
  exact l_hide hE hS.2.1 hsh hX ha (show s < 7 by omega) hN (t a + 1) 0 1000 (by decide : (0 : Int32) = iI ((0 : Nat) : Int)) (by omega) (by omega) hM (fun j hj => absurd hj (by omega))
set_option maxRecDepth 20000 in
set_option maxHeartbeats 400000 in
theorem q_fewest {A1 A2 A3 A4 A5 A6 A7 : List Int32} {a1 a2 a3 a4 : Int32} {u hd k f g l t i : Nat → Nat} {sh co d : Nat} {R : List Int32} {s N : Nat} (hM : MJ (A1, A2, A3, A4, A5, A6, A7, a1, a2, a3, a4)) (hS : OkS ((u, hd, k, f, g, l), sh, (t, i, co, d))) (hs : s < sh) (hN0 : 1 ≤ N) (hN : N ≤ 60) : ∃ Mz : Hs, X4_fewest R A1 A2 A3 A4 A5 A6 A7 (rn 6 t) (rn 6 u) (rn 6 hd) (rn 7 k) (rn 7 f) (rn 7 g) (rn 7 l) a1 a2 a3 a4 (iI sh) (iI (mk i)) (iI co) (iI d) (iI s) (iI N) = some (R, Mz.1, Mz.2.1, Mz.2.2.1, Mz.2.2.2.1, Mz.2.2.2.2.1, Mz.2.2.2.2.2.1, Mz.2.2.2.2.2.2.1, Mz.2.2.2.2.2.2.2.1, Mz.2.2.2.2.2.2.2.2.1, Mz.2.2.2.2.2.2.2.2.2.1, Mz.2.2.2.2.2.2.2.2.2.2, iI (fsize (PW (u, hd, k, f, g, l) sh s N (t, i, co, d)) 7 0)) ∧ MJ Mz := by
  have hE : OkE (u, hd, k, f, g, l) := sE hS
  have hsh : sh ≤ 7 := sSh hS
  have hX : OkX 1500 (t, i, co, d) := sX15 hS
  have hX9 : OkX 999 (t, i, co, d) := sX hS
  unfold X4_fewest
  rw [q_isShip hsh hs, Option.bind_some, if_neg c10, a160 hN0 hN, Option.bind_some, if_pos rfl]
  exact l_38 hE hS.2.1 hsh (hX9.mono (by omega)) (show s < 7 by omega) hN 7 0 1000 (by decide : (0 : Int32) = iI ((0 : Nat) : Int)) (by omega) (by omega) hM
/-- 1: SHIP s would not be IN behind the next DAY, were good g not lacked -/
def uV (e : Env) (sh : Nat) (x : XX) (s g : Nat) : Nat := if (dayX (upN e.1 g 0, e.2) sh 0 6 x).2.1 s = 0 then 1 else 0
set_option maxRecDepth 20000 in
set_option maxHeartbeats 400000 in
theorem l_forWhat {u hd k f g l t i : Nat → Nat} {sh co d : Nat} {R : List Int32} {s0 : Nat} (hE : OkE (u, hd, k, f, g, l)) (hsh : sh ≤ 7) (hX : OkX 1500 (t, i, co, d)) (hs0 : s0 < 7) : ∀ (r s n m : Nat) {A1 A2 A3 A4 A5 A6 A7 : List Int32} {a1 a2 a3 a4 : Int32} {x2 x3 : Int32}, x2 = iI (m : Int) → x3 = iI (s : Int) → s + r = 6 → r < n → m < 2 ^ s → MJ (A1, A2, A3, A4, A5, A6, A7, a1, a2, a3, a4) →
    ∃ Mz : Hs, X4_forWhat_L48 (fun (y : Int32) (q1 q2 q3 q4 q5 q6 q7 : List Int32) (q8 q9 q10 q11 : Int32) => some (R, q1, q2, q3, q4, q5, q6, q7, q8, q9, q10, q11, y)) (rn 6 t) (rn 6 u) (rn 6 hd) (rn 7 k) (rn 7 f) (rn 7 g) (rn 7 l) (iI sh) (iI (mk i)) (iI co) (iI d) (iI (s0 : Int)) n x2 x3 A1 A2 A3 A4 A5 A6 A7 a1 a2 a3 a4 = some (R, Mz.1, Mz.2.1, Mz.2.2.1, Mz.2.2.2.1, Mz.2.2.2.2.1, Mz.2.2.2.2.2.1, Mz.2.2.2.2.2.2.1, Mz.2.2.2.2.2.2.2.1, Mz.2.2.2.2.2.2.2.2.1, Mz.2.2.2.2.2.2.2.2.2.1, Mz.2.2.2.2.2.2.2.2.2.2, iI (bitsV (uV (u, hd, k, f, g, l) sh (t, i, co, d) s0) r s m)) ∧ MJ Mz := by
  intro r
  induction r with
  | zero =>
    intro s n m A1 A2 A3 A4 A5 A6 A7 a1 a2 a3 a4 x2 x3 hx2 hx hs hn hm hM
    obtain ⟨n, rfl⟩ : ∃ m, n = m + 1 := ⟨n - 1, by omega⟩
    subst hx; subst hx2
    have q : (6 : Int32) ≤ iI (s : Int) := by rw [L6]; exact tle (by omega) (by omega) (by omega)
    rw [X4_forWhat_L48, if_pos q]
    exact ⟨(A1, A2, A3, A4, A5, A6, A7, a1, a2, a3, a4), rfl, hM⟩
  | succ r ih =>
    intro s n m A1 A2 A3 A4 A5 A6 A7 a1 a2 a3 a4 x2 x3 hx2 hx hs hn hm hM
    obtain ⟨n, rfl⟩ : ∃ m, n = m + 1 := ⟨n - 1, by omega⟩
    subst hx; subst hx2
    have q : ¬ (6 : Int32) ≤ iI (s : Int) := by rw [L6]; exact fle (by omega) (by omega) (by omega)
    have hz := dayX_ok (e := (upN u s 0, hd, k, f, g, l)) (sh := sh) (b := 0) (fr := 6) hX
    have b := hz.2.1 s0
    obtain ⟨M1, e1, k1⟩ := s_X4_isInUnlacked (a := s) (s0 := s0) hM hE hsh (by omega) hs0 hX
    rw [X4_forWhat_L48, if_neg q, e1, Option.bind_some]
    unfold bitsV uV
    by_cases c : (dayX (upN u s 0, hd, k, f, g, l) sh 0 6 (t, i, co, d)).2.1 s0 = 0
    · rw [c, if_pos (show iI ((0 : Nat) : Int) = (0 : Int32) by decide), or_bit (by omega) hm, if_neg (by decide)]
      exact ih (s + 1) n _ rfl (iI_s s) (by omega) (by omega) (by rw [Nat.pow_succ]; omega) k1
    · rw [show (dayX (upN u s 0, hd, k, f, g, l) sh 0 6 (t, i, co, d)).2.1 s0 = 1 by omega, if_neg (show ¬ iI ((1 : Nat) : Int) = (0 : Int32) by decide), if_pos (by decide)]
      exact ih (s + 1) n m rfl (iI_s s) (by omega) (by omega) (by rw [Nat.pow_succ]; omega) k1
set_option maxRecDepth 20000 in
set_option maxHeartbeats 400000 in
theorem q_forWhat {A1 A2 A3 A4 A5 A6 A7 : List Int32} {a1 a2 a3 a4 : Int32} {u hd k f g l t i : Nat → Nat} {sh co d : Nat} {R : List Int32} {s : Nat} (hM : MJ (A1, A2, A3, A4, A5, A6, A7, a1, a2, a3, a4)) (hS : OkS ((u, hd, k, f, g, l), sh, (t, i, co, d))) (hs : s < sh) (hi : i s = 0) : ∃ Mz : Hs, X4_forWhat R A1 A2 A3 A4 A5 A6 A7 (rn 6 t) (rn 6 u) (rn 6 hd) (rn 7 k) (rn 7 f) (rn 7 g) (rn 7 l) a1 a2 a3 a4 (iI sh) (iI (mk i)) (iI co) (iI d) (iI s) = some (R, Mz.1, Mz.2.1, Mz.2.2.1, Mz.2.2.2.1, Mz.2.2.2.2.1, Mz.2.2.2.2.2.1, Mz.2.2.2.2.2.2.1, Mz.2.2.2.2.2.2.2.1, Mz.2.2.2.2.2.2.2.2.1, Mz.2.2.2.2.2.2.2.2.2.1, Mz.2.2.2.2.2.2.2.2.2.2, iI ((if (dayX (u, hd, k, f, g, l) sh 0 6 (t, i, co, d)).2.1 s = 0 then 0 else bitsV (uV (u, hd, k, f, g, l) sh (t, i, co, d) s) 6 0 0 : Nat) : Int)) ∧ MJ Mz := by
  have hE : OkE (u, hd, k, f, g, l) := sE hS
  have hsh : sh ≤ 7 := sSh hS
  have hX : OkX 1500 (t, i, co, d) := sX15 hS
  have hX9 : OkX 999 (t, i, co, d) := sX hS
  have b := (dayX_ok (e := (u, hd, k, f, g, l)) (sh := sh) (b := 0) (fr := 6) hX9).2.1 s
  obtain ⟨M1, e1, k1⟩ := s_X4_isInNextDay (s := s) (b := 0) hM hE hsh hX (show s < 7 by omega) (by omega)
  rw [z00] at e1
  unfold X4_forWhat
  rw [q_isShip hsh hs, Option.bind_some, if_neg c10, s_X0_isIn (xI hX) (by omega) (by omega), Option.bind_some, Int.toNat_natCast, if_pos (show iI (i s : Int) = (0 : Int32) by rw [hi]; decide), e1, Option.bind_some]
  by_cases c : (dayX (u, hd, k, f, g, l) sh 0 6 (t, i, co, d)).2.1 s = 0
  · rw [if_pos c, c, if_pos (show iI ((0 : Nat) : Int) = (0 : Int32) by decide), ← z00]
    exact exR k1
  · rw [if_neg c, show (dayX (u, hd, k, f, g, l) sh 0 6 (t, i, co, d)).2.1 s = 1 by omega, if_neg (show ¬ iI ((1 : Nat) : Int) = (0 : Int32) by decide)]
    exact l_forWhat hE hsh hX (show s < 7 by omega) 6 0 1000 0 (by decide) (by decide) (by omega) (by omega) (by omega) k1
set_option maxRecDepth 20000 in
set_option maxHeartbeats 400000 in
theorem q_forWhatIn {A1 A2 A3 A4 A5 A6 A7 : List Int32} {a1 a2 a3 a4 : Int32} {u hd k f g l t i : Nat → Nat} {sh co d : Nat} {R : List Int32} {s : Nat} (hR : R.length = 7) (hS : OkS ((u, hd, k, f, g, l), sh, (t, i, co, d))) (hs : s < sh) (hi : i s = 1) : X4_forWhat R A1 A2 A3 A4 A5 A6 A7 (rn 6 t) (rn 6 u) (rn 6 hd) (rn 7 k) (rn 7 f) (rn 7 g) (rn 7 l) a1 a2 a3 a4 (iI sh) (iI (mk i)) (iI co) (iI d) (iI s) = some (incR R 3, A1, A2, A3, A4, A5, A6, A7, a1, a2, a3, a4, -3) := by
  have hsh : sh ≤ 7 := sSh hS
  have hX : OkX 1500 (t, i, co, d) := sX15 hS
  unfold X4_forWhat
  rw [q_isShip hsh hs, Option.bind_some, if_neg c10, s_X0_isIn (xI hX) (by omega) (by omega), Option.bind_some, Int.toNat_natCast, if_neg (show ¬ iI (i s : Int) = (0 : Int32) by rw [hi]; decide), r3 hR, Option.bind_some]
set_option maxRecDepth 20000 in
set_option maxHeartbeats 400000 in
theorem q_want {A1 A2 A3 A4 A5 A6 A7 : List Int32} {a1 a2 a3 a4 : Int32} {u hd k f g l t i : Nat → Nat} {sh co d : Nat} {R : List Int32} {n : Nat} (hM : MJ (A1, A2, A3, A4, A5, A6, A7, a1, a2, a3, a4)) (hS : OkS ((u, hd, k, f, g, l), sh, (t, i, co, d))) (hn : n ≤ 60) : ∃ Mz : Hs, X4_want R A1 A2 A3 A4 A5 A6 A7 (rn 6 t) (rn 6 u) (rn 6 hd) (rn 7 k) (rn 7 f) (rn 7 g) (rn 7 l) a1 a2 a3 a4 (iI sh) (iI (mk i)) (iI co) (iI d) (iI n) = some (R, Mz.1, Mz.2.1, Mz.2.2.1, Mz.2.2.2.1, Mz.2.2.2.2.1, Mz.2.2.2.2.2.1, Mz.2.2.2.2.2.2.1, Mz.2.2.2.2.2.2.2.1, Mz.2.2.2.2.2.2.2.2.1, Mz.2.2.2.2.2.2.2.2.2.1, Mz.2.2.2.2.2.2.2.2.2.2, iI (wnX (u, hd, k, f, g, l) sh 0 6 n (allk (lk 6 u t)) (t, i, co, d)).1) ∧ MJ Mz := by
  have hE : OkE (u, hd, k, f, g, l) := sE hS
  have hsh : sh ≤ 7 := sSh hS
  have hX : OkX 1500 (t, i, co, d) := sX15 hS
  have hX9 : OkX 999 (t, i, co, d) := sX hS
  have w := s_X0_wantWithin (N := n) (b := 0) hE hsh (by omega) (by omega) hX
  rw [z00] at w
  unfold X4_want
  rw [a60 hn, Option.bind_some, if_pos rfl, s_X4_fromNow hM, Option.bind_some, w, Option.bind_some]
  exact exR ⟨rn_len, rn_len, rn_len, rn_len, rn_len, rn_len, rn_len⟩
