/-! FOR -/
set_option maxRecDepth 20000 in
set_option maxHeartbeats 400000 in
theorem s_nextN {u hd k f g l t i : Nat → Nat} {sh co d : Nat} {s0 : Nat} {F : Nat → Int32} {z1 z2 : Int32} (hE : OkE (u, hd, k, f, g, l)) (hsh : sh ≤ 7) (hs0 : s0 < 7) (hX : OkX 1500 (t, i, co, d)) : X5_isInNext (rn 6 t) (rn 6 u) (rn 6 hd) (rn 7 k) (rn 7 f) (rn 7 g) (rn 7 l) (rn 7 i) (rq 616 F) (iI sh) (iI co) (iI d) 0 z1 z2 (-9) (iI (s0 : Int)) 0 = some (rn 6 t, rn 6 u, rn 6 hd, rn 7 k, rn 7 f, rn 7 g, rn 7 l, rn 7 i, rq 616 (put F 112 56 (flat (u, hd, k, f, g, l) sh (t, i, co, d))), iI sh, iI co, iI d, 0, 0, iI 168, iI ((dayX (u, hd, k, f, g, l) sh 0 6 (t, i, co, d)).2.1 s0)) := by
  have h := s_X5_isInNext (u := u) (hd := hd) (k := k) (f := f) (g := g) (l := l) (t := t) (i := i) (sh := sh) (co := co) (d := d) (F := F) (z1 := z1) (z2 := z2) (b := 0) (b2 := 0) (fr := 6) (s0 := s0) (by omega) hE hsh (by omega) hs0 hX (by decide)
  rw [z00] at h
  exact h
set_option maxRecDepth 20000 in
set_option maxHeartbeats 400000 in
theorem s_X5_comesWithout {u hd k f g l t i : Nat → Nat} {sh co d : Nat} {a s0 : Nat} {F : Nat → Int32} {z1 z2 z3 : Int32} (hE : OkE (u, hd, k, f, g, l)) (hsh : sh ≤ 7) (ha : a < 6) (hs0 : s0 < 7) (hX : OkX 1500 (t, i, co, d)) : X5_comesWithout (rn 6 t) (rn 6 u) (rn 6 hd) (rn 7 k) (rn 7 f) (rn 7 g) (rn 7 l) (rn 7 i) (rq 616 F) (iI sh) (iI co) (iI d) 0 z1 z2 z3 (iI (a : Int)) (iI (s0 : Int)) = some (rn 6 t, rn 6 u, rn 6 hd, rn 7 k, rn 7 f, rn 7 g, rn 7 l, rn 7 i, rq 616 (put F 112 56 (flat (u, hd, k, f, g, l) sh (t, i, co, d))), iI sh, iI co, iI d, 0, 0, iI 168, -9, iI ((dayX (u, hd, k, f, g, l) sh 0 a (t, i, co, d)).2.1 s0)) := by
  have hz := dayX_ok (e := (u, hd, k, f, g, l)) (sh := sh) (b := 0) (fr := a) hX
  have h := s_X5_isInNext (u := u) (hd := hd) (k := k) (f := f) (g := g) (l := l) (t := t) (i := i) (sh := sh) (co := co) (d := d) (F := F) (z1 := z1) (z2 := z2) (b := 0) (b2 := 0) (fr := a) (s0 := s0) (by omega) hE hsh (by omega) hs0 hX (by decide)
  rw [z00, show fI a = (a : Int) by unfold fI; rw [if_neg (by omega)]] at h
  unfold X5_comesWithout
  rw [h, Option.bind_some, c01_i (hz.2.1 s0), Option.bind_some]
set_option maxRecDepth 20000 in
set_option maxHeartbeats 400000 in
theorem OkE.u1 {u hd k f g l h : Nat → Nat} (hE : OkE (u, hd, k, f, g, l)) (hh : ∀ j, h j ≤ 9) : OkE (h, hd, k, f, g, l) := ⟨hh, hE.2⟩
set_option maxRecDepth 20000 in
set_option maxHeartbeats 400000 in
theorem s_X4_isInUnlacked {A1 A2 A3 A4 A5 A6 A7 : List Int32} {a1 a2 a3 a4 : Int32} {u hd k f g l t i : Nat → Nat} {sh co d : Nat} {a s0 : Nat} (hM : MJ (A1, A2, A3, A4, A5, A6, A7, a1, a2, a3, a4)) (hE : OkE (u, hd, k, f, g, l)) (hsh : sh ≤ 7) (ha : a < 6) (hs0 : s0 < 7) (hX : OkX 1500 (t, i, co, d)) : ∃ Mz : Hs, X4_isInUnlacked A1 A2 A3 A4 A5 A6 A7 (rn 6 t) (rn 6 u) (rn 6 hd) (rn 7 k) (rn 7 f) (rn 7 g) (rn 7 l) a1 a2 a3 a4 (iI sh) (iI (mk i)) (iI co) (iI d) (iI (s0 : Int)) (iI (a : Int)) = some (Mz.1, Mz.2.1, Mz.2.2.1, Mz.2.2.2.1, Mz.2.2.2.2.1, Mz.2.2.2.2.2.1, Mz.2.2.2.2.2.2.1, Mz.2.2.2.2.2.2.2.1, Mz.2.2.2.2.2.2.2.2.1, Mz.2.2.2.2.2.2.2.2.2.1, Mz.2.2.2.2.2.2.2.2.2.2, iI ((dayX (upN u a 0, hd, k, f, g, l) sh 0 6 (t, i, co, d)).2.1 s0)) ∧ MJ Mz := by
  have hE2 : OkE (upN u a 0, hd, k, f, g, l) := hE.u1 (fun j => upN_le (oU hE) (by omega) j)
  have hz := dayX_ok (e := (upN u a 0, hd, k, f, g, l)) (sh := sh) (b := 0) (fr := 6) hX
  unfold X4_isInUnlacked
  rw [s_X4_fromNow hM, Option.bind_some, i0, wr_rn (by omega) (by omega) (by omega) (by omega), Option.bind_some, Int.toNat_natCast, Int.toNat_natCast, s_X0_passDay hE2 hsh (by omega) (hX.mono (by omega)), Option.bind_some, s_X0_isIn hz.2.1 (by omega) (by omega), Option.bind_some, Int.toNat_natCast, c01_i (hz.2.1 s0), Option.bind_some]
  dsimp only
  exact exM ⟨rn_len, rn_len, rn_len, rn_len, rn_len, rn_len, rn_len⟩
set_option maxRecDepth 20000 in
set_option maxHeartbeats 400000 in
theorem cn_congr {L L' : Nat → Nat} (h : ∀ j, j ≤ 5 → L j = L' j) : ∀ r s, s + r ≤ 6 → cn L r s = cn L' r s := by
  intro r
  induction r with
  | zero => intro s _; rfl
  | succ r ih =>
    intro s hs
    unfold cn
    rw [h s (by omega), ih (s + 1) (by omega)]
set_option maxRecDepth 20000 in
set_option maxHeartbeats 400000 in
theorem sk_congr {L L' hd : Nat → Nat} {co k g : Nat} (h : ∀ j, j ≤ 5 → L j = L' j) (hg : g ≤ 5) : sk L hd co k g = sk L' hd co k g := by
  unfold sk nlk
  rw [h g hg, h (nx g) (nx_lt hg), cn_congr h 6 0 (by omega)]
set_option maxRecDepth 20000 in
set_option maxHeartbeats 400000 in
theorem lk_un {u t : Nat → Nat} {a : Nat} : ∀ j, j ≤ 5 → lk 6 (upN u a 0) t j = lk a u t j := by
  intro j hj
  unfold lk upN
  rw [if_neg (by omega : ¬ j = 6)]
  by_cases c : j = a
  · rw [if_pos c, if_pos c]; omega
  · rw [if_neg c, if_neg c]
set_option maxRecDepth 20000 in
set_option maxHeartbeats 400000 in
theorem stp_un {u hd k f g l : Nat → Nat} {a b d s : Nat} {y : Y3} (hg : ∀ j, g j ≤ 5) : stp (upN u a 0, hd, k, f, g, l) b 6 d s y = stp (u, hd, k, f, g, l) b a d s y := by
  unfold stp
  dsimp only
  rw [sk_congr (L := lk 6 (upN u a 0) y.1) (L' := lk a u y.1) lk_un (hg s)]
set_option maxRecDepth 20000 in
set_option maxHeartbeats 400000 in
theorem shp_un {u hd k f g l : Nat → Nat} {a b d : Nat} (hg : ∀ j, g j ≤ 5) : ∀ (r s : Nat) (y : Y3), shp (upN u a 0, hd, k, f, g, l) b 6 d r s y = shp (u, hd, k, f, g, l) b a d r s y := by
  intro r
  induction r with
  | zero => intro s y; rfl
  | succ r ih =>
    intro s y
    unfold shp
    rw [stp_un hg, ih]
set_option maxRecDepth 20000 in
set_option maxHeartbeats 400000 in
theorem dayX_un {u hd k f g l t i : Nat → Nat} {sh co d : Nat} {a b s : Nat} (hg : ∀ j, g j ≤ 5) : (dayX (upN u a 0, hd, k, f, g, l) sh b 6 (t, i, co, d)).2.1 s = (dayX (u, hd, k, f, g, l) sh b a (t, i, co, d)).2.1 s := by
  show (shp (upN u a 0, hd, k, f, g, l) b 6 d sh 0 (t, i, co)).2.1 s = (shp (u, hd, k, f, g, l) b a d sh 0 (t, i, co)).2.1 s
  rw [shp_un hg]
set_option maxRecDepth 20000 in
set_option maxHeartbeats 400000 in
theorem l_forWhat {u hd k f g l t i : Nat → Nat} {sh co d : Nat} {R : List Int32} {s0 : Nat} {F0 : Nat → Int32} (hE : OkE (u, hd, k, f, g, l)) (hsh : sh ≤ 7) (hX : OkX 1000 (t, i, co, d)) (hs0 : s0 < 7) (hin : (dayX (u, hd, k, f, g, l) sh 0 6 (t, i, co, d)).2.1 s0 = 1) : ∀ (r s n : Nat) {A1 A2 A3 A4 A5 A6 A7 : List Int32} {a1 a2 a3 a4 : Int32} {x2 x3 z1 z2 : Int32} {F : Nat → Int32}, x3 = iI (s : Int) → s + r = 6 → r < n → MJ (A1, A2, A3, A4, A5, A6, A7, a1, a2, a3, a4) → Kp F0 F →
    ∃ (Mz : Hs) (F1 : Nat → Int32) (y1 y2 v : Int32), X4_forWhat_L48 (fun (y : Int32) (q1 q2 q3 q4 q5 q6 q7 : List Int32) (q8 q9 q10 q11 : Int32) => some (R, q1, q2, q3, q4, q5, q6, q7, q8, q9, q10, q11, y)) (rn 6 t) (rn 6 u) (rn 6 hd) (rn 7 k) (rn 7 f) (rn 7 g) (rn 7 l) (iI sh) (iI (mk i)) (iI co) (iI d) (iI (s0 : Int)) n x2 x3 A1 A2 A3 A4 A5 A6 A7 a1 a2 a3 a4 = some (R, Mz.1, Mz.2.1, Mz.2.2.1, Mz.2.2.2.1, Mz.2.2.2.2.1, Mz.2.2.2.2.2.1, Mz.2.2.2.2.2.2.1, Mz.2.2.2.2.2.2.2.1, Mz.2.2.2.2.2.2.2.2.1, Mz.2.2.2.2.2.2.2.2.2.1, Mz.2.2.2.2.2.2.2.2.2.2, v) ∧ X5_forWhat_L44 (fun (y : Int32) (q1 q2 q3 q4 q5 q6 q7 q8 q9 : List Int32) (q10 q11 q12 q13 q14 q15 q16 : Int32) => some (R, q1, q2, q3, q4, q5, q6, q7, q8, q9, q10, q11, q12, q13, q14, q15, q16, y)) (iI (s0 : Int)) n x2 x3 (rn 6 t) (rn 6 u) (rn 6 hd) (rn 7 k) (rn 7 f) (rn 7 g) (rn 7 l) (rn 7 i) (rq 616 F) (iI sh) (iI co) (iI d) 0 z1 z2 (-9) = some (R, rn 6 t, rn 6 u, rn 6 hd, rn 7 k, rn 7 f, rn 7 g, rn 7 l, rn 7 i, rq 616 F1, iI sh, iI co, iI d, 0, y1, y2, -9, v) ∧ MJ Mz ∧ Kp F0 F1 := by
  intro r
  induction r with
  | zero =>
    intro s n A1 A2 A3 A4 A5 A6 A7 a1 a2 a3 a4 x2 x3 z1 z2 F hx hs hn hM hK
    obtain ⟨m, rfl⟩ : ∃ m, n = m + 1 := ⟨n - 1, by omega⟩
    subst hx
    have q : (6 : Int32) ≤ iI (s : Int) := by rw [L6]; exact tle (by omega) (by omega) (by omega)
    rw [X4_forWhat_L48, X5_forWhat_L44, if_pos q, if_pos q]
    exact ⟨(A1, A2, A3, A4, A5, A6, A7, a1, a2, a3, a4), F, z1, z2, x2, rfl, rfl, hM, hK⟩
  | succ r ih =>
    intro s n A1 A2 A3 A4 A5 A6 A7 a1 a2 a3 a4 x2 x3 z1 z2 F hx hs hn hM hK
    obtain ⟨m, rfl⟩ : ∃ m, n = m + 1 := ⟨n - 1, by omega⟩
    subst hx
    have q : ¬ (6 : Int32) ≤ iI (s : Int) := by rw [L6]; exact fle (by omega) (by omega) (by omega)
    have hz := dayX_ok (e := (u, hd, k, f, g, l)) (sh := sh) (b := 0) (fr := s) hX
    obtain ⟨Mz, e1, k1⟩ := s_X4_isInUnlacked (a := s) (s0 := s0) hM hE hsh (by omega) hs0 (hX.mono (by omega))
    rw [dayX_un (oG hE)] at e1
    rw [X4_forWhat_L48, X5_forWhat_L44, if_neg q, if_neg q, e1, Option.bind_some, s_nextN hE hsh hs0 (hX.mono (by omega)), Option.bind_some, hin, if_neg (show ¬ iI ((1 : Nat) : Int) = (0 : Int32) by decide), s_X5_comesWithout hE hsh (show s < 6 by omega) hs0 (hX.mono (by omega)), Option.bind_some]
    have b := hz.2.1 s0
    by_cases c : (dayX (u, hd, k, f, g, l) sh 0 s (t, i, co, d)).2.1 s0 = 0
    · rw [c, if_pos (show iI ((0 : Nat) : Int) = (0 : Int32) by decide), if_pos (show iI ((0 : Nat) : Int) = (0 : Int32) by decide)]
      exact ih (s + 1) m (iI_s s) (by omega) (by omega) k1 (hK.tr (Kp.put2.tr Kp.put2))
    · rw [show (dayX (u, hd, k, f, g, l) sh 0 s (t, i, co, d)).2.1 s0 = 1 by omega, if_neg (show ¬ iI ((1 : Nat) : Int) = (0 : Int32) by decide), if_neg (show ¬ iI ((1 : Nat) : Int) = (0 : Int32) by decide), show x2 ||| 0 = x2 by simp]
      exact ih (s + 1) m (iI_s s) (by omega) (by omega) k1 (hK.tr (Kp.put2.tr Kp.put2))
set_option maxRecDepth 20000 in
set_option maxHeartbeats 400000 in
theorem exoF {u hd k f g l t i : Nat → Nat} {sh co d : Nat} {R B1 B2 B3 B4 B5 B6 B7 : List Int32} {b1 b2 b3 b4 v w1 w2 : Int32} {F F2 : Nat → Int32} (h1 : MJ (B1, B2, B3, B4, B5, B6, B7, b1, b2, b3, b4)) (h2 : Kp F F2) (h3 : R.length = 7) :
    ∃ (R1 : List Int32) (Mz : Hs) (F1 : Nat → Int32) (y1 y2 r : Int32), some (R, B1, B2, B3, B4, B5, B6, B7, b1, b2, b3, b4, v) = some (R1, Mz.1, Mz.2.1, Mz.2.2.1, Mz.2.2.2.1, Mz.2.2.2.2.1, Mz.2.2.2.2.2.1, Mz.2.2.2.2.2.2.1, Mz.2.2.2.2.2.2.2.1, Mz.2.2.2.2.2.2.2.2.1, Mz.2.2.2.2.2.2.2.2.2.1, Mz.2.2.2.2.2.2.2.2.2.2, r) ∧ some (R, rn 6 t, rn 6 u, rn 6 hd, rn 7 k, rn 7 f, rn 7 g, rn 7 l, rn 7 i, rq 616 F2, iI sh, iI co, iI d, (0 : Int32), w1, w2, (-9 : Int32), v) = some (R1, rn 6 t, rn 6 u, rn 6 hd, rn 7 k, rn 7 f, rn 7 g, rn 7 l, rn 7 i, rq 616 F1, iI sh, iI co, iI d, 0, y1, y2, -9, r) ∧ MJ Mz ∧ Kp F F1 ∧ R1.length = 7 :=
  ⟨R, (B1, B2, B3, B4, B5, B6, B7, b1, b2, b3, b4), F2, w1, w2, v, rfl, rfl, h1, h2, h3⟩
set_option maxRecDepth 20000 in
set_option maxHeartbeats 400000 in
theorem op_forWhat {A1 A2 A3 A4 A5 A6 A7 : List Int32} {a1 a2 a3 a4 : Int32} {u hd k f g l t i : Nat → Nat} {sh co d : Nat} {R : List Int32} {F : Nat → Int32} {z1 z2 p : Int32} (hM : MJ (A1, A2, A3, A4, A5, A6, A7, a1, a2, a3, a4)) (hE : OkE (u, hd, k, f, g, l)) (hsh : sh ≤ 7) (hX : OkX 1000 (t, i, co, d)) (hR : R.length = 7) :
    ∃ (R1 : List Int32) (Mz : Hs) (F1 : Nat → Int32) (y1 y2 r : Int32), X4_forWhat R A1 A2 A3 A4 A5 A6 A7 (rn 6 t) (rn 6 u) (rn 6 hd) (rn 7 k) (rn 7 f) (rn 7 g) (rn 7 l) a1 a2 a3 a4 (iI sh) (iI (mk i)) (iI co) (iI d) p = some (R1, Mz.1, Mz.2.1, Mz.2.2.1, Mz.2.2.2.1, Mz.2.2.2.2.1, Mz.2.2.2.2.2.1, Mz.2.2.2.2.2.2.1, Mz.2.2.2.2.2.2.2.1, Mz.2.2.2.2.2.2.2.2.1, Mz.2.2.2.2.2.2.2.2.2.1, Mz.2.2.2.2.2.2.2.2.2.2, r) ∧ X5_forWhat R (rn 6 t) (rn 6 u) (rn 6 hd) (rn 7 k) (rn 7 f) (rn 7 g) (rn 7 l) (rn 7 i) (rq 616 F) (iI sh) (iI co) (iI d) 0 z1 z2 (-9) p = some (R1, rn 6 t, rn 6 u, rn 6 hd, rn 7 k, rn 7 f, rn 7 g, rn 7 l, rn 7 i, rq 616 F1, iI sh, iI co, iI d, 0, y1, y2, -9, r) ∧ MJ Mz ∧ Kp F F1 ∧ R1.length = 7 := by
  have h1 := s_refuse (R := R) (c := 1) hR (by omega) (by omega)
  have h3 := s_refuse (R := R) (c := 3) hR (by omega) (by omega)
  unfold X4_forWhat X5_forWhat
  rcases ship_cases hsh p with ⟨s0, hs0, rfl, g1, g2⟩ | ⟨g1, g2⟩
  · have b1 := xI hX s0
    rw [g1, g2, Option.bind_some, Option.bind_some, if_neg c10, if_neg c10, s_X0_isIn (xI hX) (by omega) (by omega), Option.bind_some, rd_rn (f := i) (by omega) (by omega) (by omega), Option.bind_some, Int.toNat_natCast]
    by_cases c : i s0 = 0
    · obtain ⟨M1, e1, k1⟩ := s_X4_isInNextDay (s := s0) (b := 0) hM hE hsh (hX.mono (by omega)) (show s0 < 7 by omega) (by omega)
      rw [z00] at e1
      have b2 := (dayX_ok (e := (u, hd, k, f, g, l)) (sh := sh) (b := 0) (fr := 6) hX).2.1 s0
      rw [if_pos (show iI (i s0 : Int) = (0 : Int32) by rw [c]; decide), if_neg (show ¬ iI (i s0 : Int) = (1 : Int32) by rw [c]; decide), e1, Option.bind_some]
      by_cases c2 : (dayX (u, hd, k, f, g, l) sh 0 6 (t, i, co, d)).2.1 s0 = 0
      · rw [X5_forWhat_L44, if_neg (show ¬ (6 : Int32) ≤ 0 by decide), s_nextN hE hsh (show s0 < 7 by omega) (hX.mono (by omega)), Option.bind_some, c2, if_pos (show iI ((0 : Nat) : Int) = (0 : Int32) by decide), if_pos (show iI ((0 : Nat) : Int) = (0 : Int32) by decide)]
        exact exoF k1 Kp.put2 hR
      · have c3 : (dayX (u, hd, k, f, g, l) sh 0 6 (t, i, co, d)).2.1 s0 = 1 := by omega
        rw [c3, if_neg (show ¬ iI ((1 : Nat) : Int) = (0 : Int32) by decide)]
        obtain ⟨Mz, F1, y1, y2, v, w1, w2, w3, w4⟩ := l_forWhat (R := R) (F0 := F) (F := F) (z1 := z1) (z2 := z2) hE hsh hX (show s0 < 7 by omega) c3 6 0 1000 (x2 := 0) (show (0 : Int32) = iI ((0 : Nat) : Int) by decide) (by omega) (by omega) k1 Kp.rf
        exact ⟨R, Mz, F1, y1, y2, v, w1, w2, w3, w4, hR⟩
    · rw [if_neg (show ¬ iI (i s0 : Int) = (0 : Int32) from ne0 (by omega) (by omega)), if_pos (show iI (i s0 : Int) = (1 : Int32) by rw [show i s0 = 1 by omega]; decide), m3, h3.1, h3.2, Option.bind_some, Option.bind_some]
      exact exoF hM Kp.rf (incR_len.trans hR)
  · rw [g1, g2, Option.bind_some, Option.bind_some, if_pos rfl, if_pos rfl, m1, h1.1, h1.2, Option.bind_some, Option.bind_some]
    exact exoF hM Kp.rf (incR_len.trans hR)
/-! BY WHOM -/
set_option maxRecDepth 20000 in
set_option maxHeartbeats 400000 in
theorem dayX_self {e : Env} {sh fr s : Nat} {x : XX} (hs : s < 7) (hsh : sh ≤ 7) (h : x.2.1 s = 0) : (dayX e sh (2 ^ s) fr x).2.1 s = 0 := by
  have key : ∀ (r j : Nat) (y : Y3), j + r ≤ 7 → y.2.1 s = 0 → (shp e (2 ^ s) fr x.2.2.2 r j y).2.1 s = 0 := by
    intro r
    induction r with
    | zero => intro j y _ h; exact h
    | succ r ih =>
      intro j y hj h
      unfold shp
      refine ih (j + 1) _ (by omega) ?_
      unfold stp
      by_cases c : j = s
      · subst c
        rw [if_neg (fun z => by have := pw_bit hs hs; rw [if_pos rfl] at this; omega)]
        exact h
      · split
        · show upN y.2.1 j 1 s = 0
          unfold upN
          rw [if_neg (fun z => c z.symm)]
          exact h
        · exact h
  exact key sh 0 _ (by omega) h
set_option maxRecDepth 20000 in
set_option maxHeartbeats 400000 in
theorem l_byWhom {u hd k f g l t i : Nat → Nat} {sh co d : Nat} {R : List Int32} {s0 : Nat} {F0 : Nat → Int32} (hE : OkE (u, hd, k, f, g, l)) (hsh : sh ≤ 7) (hX : OkX 1000 (t, i, co, d)) (hs0 : s0 < 7) (hS : shV (u, hd, k, f, g, l) sh (t, i, co, d) s0 = 1) : ∀ (r s n : Nat) {A1 A2 A3 A4 A5 A6 A7 : List Int32} {a1 a2 a3 a4 : Int32} {x3 z1 z2 : Int32} {F : Nat → Int32}, x3 = iI (s : Int) → s + r = sh → r < n → MJ (A1, A2, A3, A4, A5, A6, A7, a1, a2, a3, a4) → Kp F0 F →
    ∃ (Mz : Hs) (F1 : Nat → Int32) (y1 y2 v : Int32), X4_byWhom_L30 (fun (q1 q2 q3 q4 q5 q6 q7 : List Int32) (q8 q9 q10 q11 : Int32) => some (R, q1, q2, q3, q4, q5, q6, q7, q8, q9, q10, q11, (-9 : Int32))) R (rn 6 t) (rn 6 u) (rn 6 hd) (rn 7 k) (rn 7 f) (rn 7 g) (rn 7 l) (iI sh) (iI (mk i)) (iI co) (iI d) (iI (s0 : Int)) n x3 A1 A2 A3 A4 A5 A6 A7 a1 a2 a3 a4 = some (R, Mz.1, Mz.2.1, Mz.2.2.1, Mz.2.2.2.1, Mz.2.2.2.2.1, Mz.2.2.2.2.2.1, Mz.2.2.2.2.2.2.1, Mz.2.2.2.2.2.2.2.1, Mz.2.2.2.2.2.2.2.2.1, Mz.2.2.2.2.2.2.2.2.2.1, Mz.2.2.2.2.2.2.2.2.2.2, v) ∧ X5_byWhom_L16 (fun (q1 q2 q3 q4 q5 q6 q7 q8 q9 : List Int32) (q10 q11 q12 q13 q14 q15 : Int32) => some (R, q1, q2, q3, q4, q5, q6, q7, q8, q9, q10, q11, q12, q13, q14, q15, (-9 : Int32))) R (-9) (iI (s0 : Int)) n x3 (rn 6 t) (rn 6 u) (rn 6 hd) (rn 7 k) (rn 7 f) (rn 7 g) (rn 7 l) (rn 7 i) (rq 616 F) (iI sh) (iI co) (iI d) 0 z1 z2 = some (R, rn 6 t, rn 6 u, rn 6 hd, rn 7 k, rn 7 f, rn 7 g, rn 7 l, rn 7 i, rq 616 F1, iI sh, iI co, iI d, 0, y1, y2, v) ∧ MJ Mz ∧ Kp F0 F1 := by
  have hi0 : i s0 = 0 := by
    unfold shV at hS
    by_cases c : i s0 = 0
    · exact c
    · rw [if_neg (fun z => c z.1)] at hS
      omega
  intro r
  induction r with
  | zero =>
    intro s n A1 A2 A3 A4 A5 A6 A7 a1 a2 a3 a4 x3 z1 z2 F hx hs hn hM hK
    obtain ⟨m, rfl⟩ : ∃ m, n = m + 1 := ⟨n - 1, by omega⟩
    subst hx
    have q : iI (sh : Int) ≤ iI (s : Int) := tle (by omega) (by omega) (by omega)
    rw [X4_byWhom_L30, X5_byWhom_L16, if_pos q, if_pos q]
    exact ⟨(A1, A2, A3, A4, A5, A6, A7, a1, a2, a3, a4), F, z1, z2, _, rfl, rfl, hM, hK⟩
  | succ r ih =>
    intro s n A1 A2 A3 A4 A5 A6 A7 a1 a2 a3 a4 x3 z1 z2 F hx hs hn hM hK
    obtain ⟨m, rfl⟩ : ∃ m, n = m + 1 := ⟨n - 1, by omega⟩
    subst hx
    have q : ¬ iI (sh : Int) ≤ iI (s : Int) := fle (by omega) (by omega) (by omega)
    obtain ⟨M1, e1, k1⟩ := s_X4_isInNextDay (s := s0) (b := 2 ^ s) hM hE hsh (hX.mono (by omega)) hs0 (pw7 (show s < 7 by omega))
    obtain ⟨F1, y1, y2, w1, w2⟩ := s_X5_isShut (s0 := s0) (F := F) (z1 := z1) (z2 := z2) hE hsh hs0 (hX.mono (by omega))
    rw [X4_byWhom_L30, X5_byWhom_L16, if_neg q, if_neg q, w1, Option.bind_some, hS, if_neg (show ¬ iI ((1 : Nat) : Int) = (0 : Int32) by decide), shl1 (by omega), e1, Option.bind_some]
    by_cases c : s = s0
    · subst c
      rw [dayX_self hs0 hsh hi0, if_pos (show iI ((0 : Nat) : Int) = (0 : Int32) by decide), if_pos rfl]
      exact ih (s + 1) m (iI_s s) (by omega) (by omega) k1 (hK.tr w2)
    · have b := (dayX_ok (e := (u, hd, k, f, g, l)) (sh := sh) (b := 2 ^ s) (fr := 6) hX).2.1 s0
      have h := s_X5_isInNext (u := u) (hd := hd) (k := k) (f := f) (g := g) (l := l) (t := t) (i := i) (sh := sh) (co := co) (d := d) (F := F1) (z1 := y1) (z2 := y2) (b := 2 ^ s) (b2 := 0) (fr := 6) (s0 := s0) (by omega) hE hsh (pw7 (show s < 7 by omega)) hs0 (hX.mono (by omega)) (by rw [z00]; simp)
      rw [z00] at h
      rw [if_neg (feq (by omega) (by omega) (by omega) (by omega) (by omega)), show X5_isInNext (rn 6 t) (rn 6 u) (rn 6 hd) (rn 7 k) (rn 7 f) (rn 7 g) (rn 7 l) (rn 7 i) (rq 616 F1) (iI sh) (iI co) (iI d) 0 y1 y2 (-9) (iI (s0 : Int)) (iI ((2 ^ s : Nat) : Int)) = _ from h, Option.bind_some]
      by_cases c2 : (dayX (u, hd, k, f, g, l) sh (2 ^ s) 6 (t, i, co, d)).2.1 s0 = 0
      · rw [c2, if_pos (show iI ((0 : Nat) : Int) = (0 : Int32) by decide), if_pos (show iI ((0 : Nat) : Int) = (0 : Int32) by decide)]
        exact ih (s + 1) m (iI_s s) (by omega) (by omega) k1 (hK.tr (w2.tr Kp.put2))
      · rw [show (dayX (u, hd, k, f, g, l) sh (2 ^ s) 6 (t, i, co, d)).2.1 s0 = 1 by omega, if_neg (show ¬ iI ((1 : Nat) : Int) = (0 : Int32) by decide), if_neg (show ¬ iI ((1 : Nat) : Int) = (0 : Int32) by decide)]
        exact ⟨M1, _, _, _, _, rfl, rfl, k1, hK.tr (w2.tr Kp.put2)⟩
set_option maxRecDepth 20000 in
set_option maxHeartbeats 400000 in
theorem op_byWhom {A1 A2 A3 A4 A5 A6 A7 : List Int32} {a1 a2 a3 a4 : Int32} {u hd k f g l t i : Nat → Nat} {sh co d : Nat} {R : List Int32} {F : Nat → Int32} {z1 z2 p : Int32} (hM : MJ (A1, A2, A3, A4, A5, A6, A7, a1, a2, a3, a4)) (hE : OkE (u, hd, k, f, g, l)) (hsh : sh ≤ 7) (hX : OkX 1000 (t, i, co, d)) (hR : R.length = 7) :
    ∃ (R1 : List Int32) (Mz : Hs) (F1 : Nat → Int32) (y1 y2 r : Int32), X4_byWhom R A1 A2 A3 A4 A5 A6 A7 (rn 6 t) (rn 6 u) (rn 6 hd) (rn 7 k) (rn 7 f) (rn 7 g) (rn 7 l) a1 a2 a3 a4 (iI sh) (iI (mk i)) (iI co) (iI d) p = some (R1, Mz.1, Mz.2.1, Mz.2.2.1, Mz.2.2.2.1, Mz.2.2.2.2.1, Mz.2.2.2.2.2.1, Mz.2.2.2.2.2.2.1, Mz.2.2.2.2.2.2.2.1, Mz.2.2.2.2.2.2.2.2.1, Mz.2.2.2.2.2.2.2.2.2.1, Mz.2.2.2.2.2.2.2.2.2.2, r) ∧ X5_byWhom R (rn 6 t) (rn 6 u) (rn 6 hd) (rn 7 k) (rn 7 f) (rn 7 g) (rn 7 l) (rn 7 i) (rq 616 F) (iI sh) (iI co) (iI d) 0 z1 z2 (-9) p = some (R1, rn 6 t, rn 6 u, rn 6 hd, rn 7 k, rn 7 f, rn 7 g, rn 7 l, rn 7 i, rq 616 F1, iI sh, iI co, iI d, 0, y1, y2, r) ∧ MJ Mz ∧ Kp F F1 ∧ R1.length = 7 := by
  have h1 := s_refuse (R := R) (c := 1) hR (by omega) (by omega)
  unfold X4_byWhom X5_byWhom
  rcases ship_cases hsh p with ⟨s0, hs0, rfl, g1, g2⟩ | ⟨g1, g2⟩
  · obtain ⟨M1, e1, k1⟩ := s_X4_isShut (s := s0) hM hE hsh (hX.mono (by omega)) (show s0 < 7 by omega)
    have b := shV_le (e := (u, hd, k, f, g, l)) (sh := sh) (x := (t, i, co, d)) (s := s0)
    rw [g1, g2, Option.bind_some, Option.bind_some, if_neg c10, if_neg c10, e1, Option.bind_some]
    by_cases c : shV (u, hd, k, f, g, l) sh (t, i, co, d) s0 = 0
    · obtain ⟨F1, y1, y2, w1, w2⟩ := s_X5_isShut (s0 := s0) (F := F) (z1 := z1) (z2 := z2) hE hsh (by omega) (hX.mono (by omega))
      rw [X5_byWhom_L16, if_neg (show ¬ iI (sh : Int) ≤ (0 : Int32) by rw [L0]; exact fle (by omega) (by omega) (by omega)), w1, Option.bind_some, c, if_pos (show iI ((0 : Nat) : Int) = (0 : Int32) by decide), if_pos (show iI ((0 : Nat) : Int) = (0 : Int32) by decide)]
      exact exoA k1 w2 hR
    · have c1 : shV (u, hd, k, f, g, l) sh (t, i, co, d) s0 = 1 := by omega
      rw [c1, if_neg (show ¬ iI ((1 : Nat) : Int) = (0 : Int32) by decide)]
      exact exwA (l_byWhom hE hsh hX (by omega) c1 sh 0 1000 (by decide) (by omega) (by omega) k1 Kp.rf) hR
  · rw [g1, g2, Option.bind_some, Option.bind_some, if_pos rfl, if_pos rfl, m1, h1.1, h1.2, Option.bind_some, Option.bind_some]
    exact exoA hM Kp.rf (incR_len.trans hR)
