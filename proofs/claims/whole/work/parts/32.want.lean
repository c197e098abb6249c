/-! WANT -/
set_option maxRecDepth 20000 in
set_option maxHeartbeats 400000 in
theorem l_mwant {u hd k f g l : Nat → Nat} {sh b fr N : Nat} (hf : fr ≤ 6) (hE : OkE (u, hd, k, f, g, l)) (hsh : sh ≤ 7) (hb : b < 128) (hN : N ≤ 100) (K : Int32 → List Int32 → List Int32 → Int32 → Int32 → Option (List Int32 × List Int32 × List Int32 × List Int32 × List Int32 × List Int32 × List Int32 × List Int32 × List Int32 × Int32 × Int32 × Int32 × Int32 × Int32 × Int32)) : ∀ (r s n D v : Nat) (x : Int32) (t i : Nat → Nat) (co d : Nat), x = iI (s : Int) → s + r = N → r < n → OkX D (t, i, co, d) → D + r ≤ 2000 →
    ∃ (t1 i1 : Nat → Nat) (co1 d1 : Nat), X5_wantIn_L11 K (rn 6 u) (rn 6 hd) (rn 7 k) (rn 7 f) (rn 7 g) (rn 7 l) (iI sh) (iI b) (iI (fI fr)) (iI N) n (iI v) x (rn 6 t) (rn 7 i) (iI co) (iI d) = K (iI (wnX (u, hd, k, f, g, l) sh b fr r v (t, i, co, d)).1) (rn 6 t1) (rn 7 i1) (iI co1) (iI d1) := by
  intro r
  induction r with
  | zero =>
    intro s n D v x t i co d hx hs hn hX hD
    obtain ⟨n, rfl⟩ : ∃ m, n = m + 1 := ⟨n - 1, by omega⟩
    subst hx
    rw [X5_wantIn_L11, if_pos (tle (by omega) (by omega) (by omega))]
    exact ⟨_, _, _, _, rfl⟩
  | succ r ih =>
    intro s n D v x t i co d hx hs hn hX hD
    obtain ⟨n, rfl⟩ : ∃ m, n = m + 1 := ⟨n - 1, by omega⟩
    subst hx
    have hz := dayX_ok (e := (u, hd, k, f, g, l)) (sh := sh) (b := b) (fr := fr) hX
    rw [X5_wantIn_L11, if_neg (fle (by omega) (by omega) (by omega)), s_X5_goesDay hf hE hsh hb (hX.mono (by omega)), Option.bind_some, iI_s s, s_X5_allLack hf (oU hE) hz.1, Option.bind_some, iI_add]
    exact ih (s + 1) n (D + 1) _ _ _ _ _ _ rfl (by omega) (by omega) hz (by omega)
set_option maxRecDepth 20000 in
set_option maxHeartbeats 400000 in
theorem s_X5_wantIn {u hd k f g l t i : Nat → Nat} {sh co d : Nat} {b fr N : Nat} {F : Nat → Int32} {z1 z2 : Int32} (hf : fr ≤ 6) (hE : OkE (u, hd, k, f, g, l)) (hsh : sh ≤ 7) (hb : b < 128) (hN : N ≤ 100) (hX : OkX 1500 (t, i, co, d)) :
    X5_wantIn (rn 6 t) (rn 6 u) (rn 6 hd) (rn 7 k) (rn 7 f) (rn 7 g) (rn 7 l) (rn 7 i) (rq 616 F) (iI sh) (iI co) (iI d) (iI b) z1 z2 (iI (fI fr)) (iI N) = some (rn 6 t, rn 6 u, rn 6 hd, rn 7 k, rn 7 f, rn 7 g, rn 7 l, rn 7 i, rq 616 (put F 112 56 (flat (u, hd, k, f, g, l) sh (t, i, co, d))), iI sh, iI co, iI d, 0, iI 168, iI (wnX (u, hd, k, f, g, l) sh b fr N (allk (lk fr u t)) (t, i, co, d)).1) := by
  unfold X5_wantIn
  rw [s_thinks, Option.bind_some, s_X5_allLack hf (oU hE) (xT hX), Option.bind_some]
  obtain ⟨t1, i1, co1, d1, h⟩ := l_mwant hf hE hsh hb hN (fun y2_9 there_10 inn_11 coughs_12 day_13 => (X5_forgets there_10 (rn 6 u) (rn 6 hd) (rn 7 k) (rn 7 f) (rn 7 g) (rn 7 l) inn_11 (rq 616 (put F 112 56 (flat (u, hd, k, f, g, l) sh (t, i, co, d)))) (iI sh) coughs_12 day_13 1 (iI 168)).bind fun u_14 => some (u_14.1, u_14.2.1, u_14.2.2.1, u_14.2.2.2.1, u_14.2.2.2.2.1, u_14.2.2.2.2.2.1, u_14.2.2.2.2.2.2.1, u_14.2.2.2.2.2.2.2.1, u_14.2.2.2.2.2.2.2.2.1, u_14.2.2.2.2.2.2.2.2.2.1, u_14.2.2.2.2.2.2.2.2.2.2.1, u_14.2.2.2.2.2.2.2.2.2.2.2.1, u_14.2.2.2.2.2.2.2.2.2.2.2.2.1, u_14.2.2.2.2.2.2.2.2.2.2.2.2.2, y2_9)) N 0 1000 1500 (allk (lk fr u t)) 0 t i co d (by decide) (by omega) (by omega) hX (by omega)
  rw [s_forgetsN, Option.bind_some] at h
  exact h
set_option maxRecDepth 20000 in
set_option maxHeartbeats 400000 in
theorem exo {u hd k f g l t i : Nat → Nat} {sh co d : Nat} {R B1 B2 B3 B4 B5 B6 B7 : List Int32} {b1 b2 b3 b4 v w1 w2 : Int32} {F F2 : Nat → Int32} (h1 : MJ (B1, B2, B3, B4, B5, B6, B7, b1, b2, b3, b4)) (h2 : Kp F F2) (h3 : R.length = 7) :
    ∃ (R1 : List Int32) (Mz : Hs) (F1 : Nat → Int32) (y1 y2 r : Int32), some (R, B1, B2, B3, B4, B5, B6, B7, b1, b2, b3, b4, v) = some (R1, Mz.1, Mz.2.1, Mz.2.2.1, Mz.2.2.2.1, Mz.2.2.2.2.1, Mz.2.2.2.2.2.1, Mz.2.2.2.2.2.2.1, Mz.2.2.2.2.2.2.2.1, Mz.2.2.2.2.2.2.2.2.1, Mz.2.2.2.2.2.2.2.2.2.1, Mz.2.2.2.2.2.2.2.2.2.2, r) ∧ some (R, rn 6 t, rn 6 u, rn 6 hd, rn 7 k, rn 7 f, rn 7 g, rn 7 l, rn 7 i, rq 616 F2, iI sh, iI co, iI d, w1, w2, v) = some (R1, rn 6 t, rn 6 u, rn 6 hd, rn 7 k, rn 7 f, rn 7 g, rn 7 l, rn 7 i, rq 616 F1, iI sh, iI co, iI d, y1, y2, r) ∧ MJ Mz ∧ Kp F F1 ∧ R1.length = 7 :=
  ⟨R, (B1, B2, B3, B4, B5, B6, B7, b1, b2, b3, b4), F2, w1, w2, v, rfl, rfl, h1, h2, h3⟩
set_option maxRecDepth 20000 in
set_option maxHeartbeats 400000 in
theorem m4 : (-4 : Int32) = iI (-((4 : Nat) : Int)) := by decide
set_option maxRecDepth 20000 in
set_option maxHeartbeats 400000 in
theorem m6 : (-6 : Int32) = iI (-((6 : Nat) : Int)) := by decide
set_option maxRecDepth 20000 in
set_option maxHeartbeats 400000 in
theorem m1 : (-1 : Int32) = iI (-((1 : Nat) : Int)) := by decide
set_option maxRecDepth 20000 in
set_option maxHeartbeats 400000 in
theorem m2 : (-2 : Int32) = iI (-((2 : Nat) : Int)) := by decide
set_option maxRecDepth 20000 in
set_option maxHeartbeats 400000 in
theorem m3 : (-3 : Int32) = iI (-((3 : Nat) : Int)) := by decide
set_option maxRecDepth 20000 in
set_option maxHeartbeats 400000 in
theorem n0 : (0 : Int32) = iI ((0 : Nat) : Int) := by decide
set_option maxRecDepth 20000 in
set_option maxHeartbeats 400000 in
theorem n60 : (60 : Int32) = iI ((60 : Nat) : Int) := by decide
set_option maxRecDepth 20000 in
set_option maxHeartbeats 400000 in
theorem f9 : (-9 : Int32) = iI (fI 6) := by decide
set_option maxRecDepth 20000 in
set_option maxHeartbeats 400000 in
theorem op_want {A1 A2 A3 A4 A5 A6 A7 : List Int32} {a1 a2 a3 a4 : Int32} {u hd k f g l t i : Nat → Nat} {sh co d : Nat} {R : List Int32} {F : Nat → Int32} {z1 z2 p : Int32} (hM : MJ (A1, A2, A3, A4, A5, A6, A7, a1, a2, a3, a4)) (hE : OkE (u, hd, k, f, g, l)) (hsh : sh ≤ 7) (hX : OkX 1000 (t, i, co, d)) (hR : R.length = 7) :
    ∃ (R1 : List Int32) (Mz : Hs) (F1 : Nat → Int32) (y1 y2 r : Int32), X4_want R A1 A2 A3 A4 A5 A6 A7 (rn 6 t) (rn 6 u) (rn 6 hd) (rn 7 k) (rn 7 f) (rn 7 g) (rn 7 l) a1 a2 a3 a4 (iI sh) (iI (mk i)) (iI co) (iI d) p = some (R1, Mz.1, Mz.2.1, Mz.2.2.1, Mz.2.2.2.1, Mz.2.2.2.2.1, Mz.2.2.2.2.2.1, Mz.2.2.2.2.2.2.1, Mz.2.2.2.2.2.2.2.1, Mz.2.2.2.2.2.2.2.2.1, Mz.2.2.2.2.2.2.2.2.2.1, Mz.2.2.2.2.2.2.2.2.2.2, r) ∧ X5_want R (rn 6 t) (rn 6 u) (rn 6 hd) (rn 7 k) (rn 7 f) (rn 7 g) (rn 7 l) (rn 7 i) (rq 616 F) (iI sh) (iI co) (iI d) 0 z1 z2 (-9) p = some (R1, rn 6 t, rn 6 u, rn 6 hd, rn 7 k, rn 7 f, rn 7 g, rn 7 l, rn 7 i, rq 616 F1, iI sh, iI co, iI d, y1, y2, r) ∧ MJ Mz ∧ Kp F F1 ∧ R1.length = 7 := by
  have h4 := s_refuse (R := R) (c := 4) hR (by omega) (by omega)
  have h6 := s_refuse (R := R) (c := 6) hR (by omega) (by omega)
  unfold X4_want X5_want X5_notDays
  rw [show (0 : Int32) = iI ((0 : Nat) : Int) by decide, show (60 : Int32) = iI ((60 : Nat) : Int) by decide]
  rcases fit_cases (lo := 0) (hi := 60) (by omega) (by omega) p with ⟨n, -, hn, rfl, e1, e2⟩ | ⟨e1, e2⟩ | ⟨e1, e2⟩
  · rw [e1, e2, Option.bind_some, Option.bind_some, Option.bind_some, if_pos (by decide), if_pos (by decide), s_X4_fromNow hM, Option.bind_some, s_X0_wantWithin hE hsh (by omega) (by omega) (hX.mono (by omega)), Option.bind_some, show (-9 : Int32) = iI (fI 6) by decide, s_X5_wantIn (by omega) hE hsh (by omega) (by omega) (hX.mono (by omega)), Option.bind_some]
    dsimp only
    exact exo ⟨rn_len, rn_len, rn_len, rn_len, rn_len, rn_len, rn_len⟩ Kp.put2 hR
  · rw [e1, e2, Option.bind_some, Option.bind_some, Option.bind_some, if_neg (by decide), if_neg (by decide), m4, h4.1, h4.2, Option.bind_some, Option.bind_some]
    exact exo hM Kp.rf (incR_len.trans hR)
  · rw [e1, e2, Option.bind_some, Option.bind_some, Option.bind_some, if_neg (by decide), if_neg (by decide), m6, h6.1, h6.2, Option.bind_some, Option.bind_some]
    exact exo hM Kp.rf (incR_len.trans hR)
