/-! BEST -/
set_option maxRecDepth 20000 in
set_option maxHeartbeats 400000 in
theorem tb_pw : (List.range 7).all (fun s => (List.range 7).all (fun j => decide (2 ^ s / 2 ^ j % 2 = if j = s then 1 else 0))) = true := by decide
set_option maxRecDepth 20000 in
set_option maxHeartbeats 400000 in
theorem pw_bit {s j : Nat} (hs : s < 7) (hj : j < 7) : 2 ^ s / 2 ^ j % 2 = if j = s then 1 else 0 := all2 tb_pw hs hj
set_option maxRecDepth 20000 in
set_option maxHeartbeats 400000 in
theorem stp_bar {e : Env} {fr d s j : Nat} {y : Y3} (hs : s < 7) (hj : j < 7) (h : y.2.1 s = 1) : stp e (2 ^ s) fr d j y = stp e 0 fr d j y := by
  unfold stp
  by_cases c : j = s
  · subst c
    rw [if_neg (fun z => by omega), if_neg (fun z => by omega)]
  · rw [pw_bit hs hj, if_neg c, Nat.zero_div, Nat.zero_mod]
set_option maxRecDepth 20000 in
set_option maxHeartbeats 400000 in
theorem shp_bar {e : Env} {fr d s : Nat} (hs : s < 7) : ∀ (r j : Nat) (y : Y3), j + r ≤ 7 → y.2.1 s = 1 → shp e (2 ^ s) fr d r j y = shp e 0 fr d r j y := by
  intro r
  induction r with
  | zero => intro j y _ _; rfl
  | succ r ih =>
    intro j y hj h
    unfold shp
    rw [stp_bar hs (by omega) h, ih (j + 1) _ (by omega) (stp_in h)]
set_option maxRecDepth 20000 in
set_option maxHeartbeats 400000 in
theorem dayX_bar {e : Env} {sh fr s : Nat} {x : XX} (hs : s < 7) (hsh : sh ≤ 7) (h : x.2.1 s = 1) : dayX e sh (2 ^ s) fr x = dayX e sh 0 fr x := by
  unfold dayX
  rw [shp_bar hs sh 0 _ (by omega) h]
set_option maxRecDepth 20000 in
set_option maxHeartbeats 400000 in
theorem wnX_bar {e : Env} {sh fr s : Nat} (hs : s < 7) (hsh : sh ≤ 7) : ∀ (r v : Nat) (x : XX), x.2.1 s = 1 → wnX e sh (2 ^ s) fr r v x = wnX e sh 0 fr r v x := by
  intro r
  induction r with
  | zero => intro v x _; rfl
  | succ r ih =>
    intro v x h
    unfold wnX
    rw [dayX_bar hs hsh h, ih _ _ (dayX_in h)]
set_option maxRecDepth 20000 in
set_option maxHeartbeats 400000 in
theorem exw {u hd k f g l t i : Nat → Nat} {sh co d : Nat} {R : List Int32} {F : Nat → Int32} {P : Option (List Int32 × List Int32 × List Int32 × List Int32 × List Int32 × List Int32 × List Int32 × List Int32 × Int32 × Int32 × Int32 × Int32 ×  Int32)} {Q : Option (List Int32 × List Int32 × List Int32 × List Int32 × List Int32 × List Int32 × List Int32 × List Int32 × List Int32 × List Int32 × Int32 × Int32 × Int32 × Int32 × Int32 ×  Int32)} (h : ∃ (Mz : Hs) (F1 : Nat → Int32) (y1 y2 r : Int32), P = some (R, Mz.1, Mz.2.1, Mz.2.2.1, Mz.2.2.2.1, Mz.2.2.2.2.1, Mz.2.2.2.2.2.1, Mz.2.2.2.2.2.2.1, Mz.2.2.2.2.2.2.2.1, Mz.2.2.2.2.2.2.2.2.1, Mz.2.2.2.2.2.2.2.2.2.1, Mz.2.2.2.2.2.2.2.2.2.2, r) ∧ Q = some (R, rn 6 t, rn 6 u, rn 6 hd, rn 7 k, rn 7 f, rn 7 g, rn 7 l, rn 7 i, rq 616 F1, iI sh, iI co, iI d, y1, y2, r) ∧ MJ Mz ∧ Kp F F1) (hR : R.length = 7) : ∃ (R1 : List Int32) (Mz : Hs) (F1 : Nat → Int32) (y1 y2 r : Int32), P = some (R1, Mz.1, Mz.2.1, Mz.2.2.1, Mz.2.2.2.1, Mz.2.2.2.2.1, Mz.2.2.2.2.2.1, Mz.2.2.2.2.2.2.1, Mz.2.2.2.2.2.2.2.1, Mz.2.2.2.2.2.2.2.2.1, Mz.2.2.2.2.2.2.2.2.2.1, Mz.2.2.2.2.2.2.2.2.2.2, r) ∧ Q = some (R1, rn 6 t, rn 6 u, rn 6 hd, rn 7 k, rn 7 f, rn 7 g, rn 7 l, rn 7 i, rq 616 F1, iI sh, iI co, iI d, y1, y2, r) ∧ MJ Mz ∧ Kp F F1 ∧ R1.length = 7 := by
  obtain ⟨Mz, F1, y1, y2, r, e1, e2, k1, k2⟩ := h
  exact ⟨R, Mz, F1, y1, y2, r, e1, e2, k1, k2, hR⟩
set_option maxRecDepth 20000 in
set_option maxHeartbeats 400000 in
theorem exwA {u hd k f g l t i : Nat → Nat} {sh co d : Nat} {R : List Int32} {F : Nat → Int32} {P : Option (List Int32 × List Int32 × List Int32 × List Int32 × List Int32 × List Int32 × List Int32 × List Int32 × Int32 × Int32 × Int32 × Int32 ×  Int32)} {Q : Option (List Int32 × List Int32 × List Int32 × List Int32 × List Int32 × List Int32 × List Int32 × List Int32 × List Int32 × List Int32 × Int32 × Int32 × Int32 × Int32 × Int32 × Int32 ×  Int32)} (h : ∃ (Mz : Hs) (F1 : Nat → Int32) (y1 y2 r : Int32), P = some (R, Mz.1, Mz.2.1, Mz.2.2.1, Mz.2.2.2.1, Mz.2.2.2.2.1, Mz.2.2.2.2.2.1, Mz.2.2.2.2.2.2.1, Mz.2.2.2.2.2.2.2.1, Mz.2.2.2.2.2.2.2.2.1, Mz.2.2.2.2.2.2.2.2.2.1, Mz.2.2.2.2.2.2.2.2.2.2, r) ∧ Q = some (R, rn 6 t, rn 6 u, rn 6 hd, rn 7 k, rn 7 f, rn 7 g, rn 7 l, rn 7 i, rq 616 F1, iI sh, iI co, iI d, 0, y1, y2, r) ∧ MJ Mz ∧ Kp F F1) (hR : R.length = 7) : ∃ (R1 : List Int32) (Mz : Hs) (F1 : Nat → Int32) (y1 y2 r : Int32), P = some (R1, Mz.1, Mz.2.1, Mz.2.2.1, Mz.2.2.2.1, Mz.2.2.2.2.1, Mz.2.2.2.2.2.1, Mz.2.2.2.2.2.2.1, Mz.2.2.2.2.2.2.2.1, Mz.2.2.2.2.2.2.2.2.1, Mz.2.2.2.2.2.2.2.2.2.1, Mz.2.2.2.2.2.2.2.2.2.2, r) ∧ Q = some (R1, rn 6 t, rn 6 u, rn 6 hd, rn 7 k, rn 7 f, rn 7 g, rn 7 l, rn 7 i, rq 616 F1, iI sh, iI co, iI d, 0, y1, y2, r) ∧ MJ Mz ∧ Kp F F1 ∧ R1.length = 7 := by
  obtain ⟨Mz, F1, y1, y2, r, e1, e2, k1, k2⟩ := h
  exact ⟨R, Mz, F1, y1, y2, r, e1, e2, k1, k2, hR⟩
set_option maxRecDepth 20000 in
set_option maxHeartbeats 400000 in
theorem exoA {u hd k f g l t i : Nat → Nat} {sh co d : Nat} {R B1 B2 B3 B4 B5 B6 B7 : List Int32} {b1 b2 b3 b4 v w1 w2 : Int32} {F F2 : Nat → Int32} (h1 : MJ (B1, B2, B3, B4, B5, B6, B7, b1, b2, b3, b4)) (h2 : Kp F F2) (h3 : R.length = 7) :
    ∃ (R1 : List Int32) (Mz : Hs) (F1 : Nat → Int32) (y1 y2 r : Int32), some (R, B1, B2, B3, B4, B5, B6, B7, b1, b2, b3, b4, v) = some (R1, Mz.1, Mz.2.1, Mz.2.2.1, Mz.2.2.2.1, Mz.2.2.2.2.1, Mz.2.2.2.2.2.1, Mz.2.2.2.2.2.2.1, Mz.2.2.2.2.2.2.2.1, Mz.2.2.2.2.2.2.2.2.1, Mz.2.2.2.2.2.2.2.2.2.1, Mz.2.2.2.2.2.2.2.2.2.2, r) ∧ some (R, rn 6 t, rn 6 u, rn 6 hd, rn 7 k, rn 7 f, rn 7 g, rn 7 l, rn 7 i, rq 616 F2, iI sh, iI co, iI d, (0 : Int32), w1, w2, v) = some (R1, rn 6 t, rn 6 u, rn 6 hd, rn 7 k, rn 7 f, rn 7 g, rn 7 l, rn 7 i, rq 616 F1, iI sh, iI co, iI d, 0, y1, y2, r) ∧ MJ Mz ∧ Kp F F1 ∧ R1.length = 7 :=
  ⟨R, (B1, B2, B3, B4, B5, B6, B7, b1, b2, b3, b4), F2, w1, w2, v, rfl, rfl, h1, h2, h3⟩
set_option maxRecDepth 20000 in
set_option maxHeartbeats 400000 in
theorem l_best {u hd k f g l t i : Nat → Nat} {sh co d : Nat} {R : List Int32} {N : Nat} {F0 : Nat → Int32} (hE : OkE (u, hd, k, f, g, l)) (hsh : sh ≤ 7) (hX : OkX 1000 (t, i, co, d)) (hN : N ≤ 60) : ∀ (r s n : Nat) {A1 A2 A3 A4 A5 A6 A7 : List Int32} {a1 a2 a3 a4 : Int32} {x3 x4 x5 z1 z2 : Int32} {F : Nat → Int32}, x5 = iI (s : Int) → s + r = sh → r < n → MJ (A1, A2, A3, A4, A5, A6, A7, a1, a2, a3, a4) → Kp F0 F →
    ∃ (Mz : Hs) (F1 : Nat → Int32) (y1 y2 v : Int32), X4_best_L35 (fun (y : Int32) (q1 q2 q3 q4 q5 q6 q7 : List Int32) (q8 q9 q10 q11 : Int32) => some (R, q1, q2, q3, q4, q5, q6, q7, q8, q9, q10, q11, y)) (rn 6 t) (rn 6 u) (rn 6 hd) (rn 7 k) (rn 7 f) (rn 7 g) (rn 7 l) (iI sh) (iI (mk i)) (iI co) (iI d) (iI N) n x3 x4 x5 A1 A2 A3 A4 A5 A6 A7 a1 a2 a3 a4 = some (R, Mz.1, Mz.2.1, Mz.2.2.1, Mz.2.2.2.1, Mz.2.2.2.2.1, Mz.2.2.2.2.2.1, Mz.2.2.2.2.2.2.1, Mz.2.2.2.2.2.2.2.1, Mz.2.2.2.2.2.2.2.2.1, Mz.2.2.2.2.2.2.2.2.2.1, Mz.2.2.2.2.2.2.2.2.2.2, v) ∧ X5_best_L28 (fun (y : Int32) (q1 q2 q3 q4 q5 q6 q7 q8 q9 : List Int32) (q10 q11 q12 q13 q14 q15 : Int32) => some (R, q1, q2, q3, q4, q5, q6, q7, q8, q9, q10, q11, q12, q13, q14, q15, y)) (iI (fI 6)) (iI N) n x3 x4 x5 (rn 6 t) (rn 6 u) (rn 6 hd) (rn 7 k) (rn 7 f) (rn 7 g) (rn 7 l) (rn 7 i) (rq 616 F) (iI sh) (iI co) (iI d) 0 z1 z2 = some (R, rn 6 t, rn 6 u, rn 6 hd, rn 7 k, rn 7 f, rn 7 g, rn 7 l, rn 7 i, rq 616 F1, iI sh, iI co, iI d, 0, y1, y2, v) ∧ MJ Mz ∧ Kp F0 F1 := by
  intro r
  induction r with
  | zero =>
    intro s n A1 A2 A3 A4 A5 A6 A7 a1 a2 a3 a4 x3 x4 x5 z1 z2 F hx hs hn hM hK
    obtain ⟨m, rfl⟩ : ∃ m, n = m + 1 := ⟨n - 1, by omega⟩
    subst hx
    have q : iI (sh : Int) ≤ iI (s : Int) := tle (by omega) (by omega) (by omega)
    rw [X4_best_L35, X5_best_L28, if_pos q, if_pos q]
    exact ⟨(A1, A2, A3, A4, A5, A6, A7, a1, a2, a3, a4), F, z1, z2, x3, rfl, rfl, hM, hK⟩
  | succ r ih =>
    intro s n A1 A2 A3 A4 A5 A6 A7 a1 a2 a3 a4 x3 x4 x5 z1 z2 F hx hs hn hM hK
    obtain ⟨m, rfl⟩ : ∃ m, n = m + 1 := ⟨n - 1, by omega⟩
    subst hx
    have q : ¬ iI (sh : Int) ≤ iI (s : Int) := fle (by omega) (by omega) (by omega)
    have b1 := xI hX s
    have w0 := s_X5_wantIn (u := u) (hd := hd) (k := k) (f := f) (g := g) (l := l) (t := t) (i := i) (sh := sh) (co := co) (d := d) (F := F) (z1 := z1) (z2 := z2) (b := 0) (fr := 6) (N := N) (by omega) hE hsh (by omega) (by omega) (hX.mono (by omega))
    rw [z00] at w0
    rw [X4_best_L35, X5_best_L28, if_neg q, if_neg q, s_X4_fromNow hM, Option.bind_some, shl1 (by omega), s_X0_wantWithin hE hsh (pw7 (by omega)) (by omega) (hX.mono (by omega)), Option.bind_some, rd_rn (f := i) (by omega) (by omega) (by omega), Option.bind_some, Int.toNat_natCast]
    by_cases c : i s = 0
    · rw [if_pos (show iI (i s : Int) = (0 : Int32) by rw [c]; decide), s_X5_wantIn (b := 2 ^ s) (by omega) hE hsh (pw7 (by omega)) (by omega) (hX.mono (by omega)), Option.bind_some]
      by_cases w : iI ((wnX (u, hd, k, f, g, l) sh (2 ^ s) 6 N (allk (lk 6 u t)) (t, i, co, d)).1 : Int) ≤ x4
      · rw [if_pos w, if_neg (Int32.not_lt.mpr w)]
        exact ih (s + 1) m (iI_s s) (by omega) (by omega) ⟨rn_len, rn_len, rn_len, rn_len, rn_len, rn_len, rn_len⟩ (hK.tr Kp.put2)
      · rw [if_neg w, if_pos (Int32.not_le.mp w)]
        exact ih (s + 1) m (iI_s s) (by omega) (by omega) ⟨rn_len, rn_len, rn_len, rn_len, rn_len, rn_len, rn_len⟩ (hK.tr Kp.put2)
    · rw [if_neg (show ¬ iI (i s : Int) = (0 : Int32) from ne0 (by omega) (by omega)), w0, Option.bind_some, wnX_bar (by omega) hsh N _ (t, i, co, d) (show i s = 1 by omega)]
      by_cases w : iI ((wnX (u, hd, k, f, g, l) sh 0 6 N (allk (lk 6 u t)) (t, i, co, d)).1 : Int) ≤ x4
      · rw [if_pos w, if_neg (Int32.not_lt.mpr w)]
        exact ih (s + 1) m (iI_s s) (by omega) (by omega) ⟨rn_len, rn_len, rn_len, rn_len, rn_len, rn_len, rn_len⟩ (hK.tr Kp.put2)
      · rw [if_neg w, if_pos (Int32.not_le.mp w)]
        exact ih (s + 1) m (iI_s s) (by omega) (by omega) ⟨rn_len, rn_len, rn_len, rn_len, rn_len, rn_len, rn_len⟩ (hK.tr Kp.put2)
set_option maxRecDepth 20000 in
set_option maxHeartbeats 400000 in
theorem op_best {A1 A2 A3 A4 A5 A6 A7 : List Int32} {a1 a2 a3 a4 : Int32} {u hd k f g l t i : Nat → Nat} {sh co d : Nat} {R : List Int32} {F : Nat → Int32} {z1 z2 p : Int32} (hM : MJ (A1, A2, A3, A4, A5, A6, A7, a1, a2, a3, a4)) (hE : OkE (u, hd, k, f, g, l)) (hsh : sh ≤ 7) (hX : OkX 1000 (t, i, co, d)) (hR : R.length = 7) :
    ∃ (R1 : List Int32) (Mz : Hs) (F1 : Nat → Int32) (y1 y2 r : Int32), X4_best R A1 A2 A3 A4 A5 A6 A7 (rn 6 t) (rn 6 u) (rn 6 hd) (rn 7 k) (rn 7 f) (rn 7 g) (rn 7 l) a1 a2 a3 a4 (iI sh) (iI (mk i)) (iI co) (iI d) p = some (R1, Mz.1, Mz.2.1, Mz.2.2.1, Mz.2.2.2.1, Mz.2.2.2.2.1, Mz.2.2.2.2.2.1, Mz.2.2.2.2.2.2.1, Mz.2.2.2.2.2.2.2.1, Mz.2.2.2.2.2.2.2.2.1, Mz.2.2.2.2.2.2.2.2.2.1, Mz.2.2.2.2.2.2.2.2.2.2, r) ∧ X5_best R (rn 6 t) (rn 6 u) (rn 6 hd) (rn 7 k) (rn 7 f) (rn 7 g) (rn 7 l) (rn 7 i) (rq 616 F) (iI sh) (iI co) (iI d) 0 z1 z2 (-9) p = some (R1, rn 6 t, rn 6 u, rn 6 hd, rn 7 k, rn 7 f, rn 7 g, rn 7 l, rn 7 i, rq 616 F1, iI sh, iI co, iI d, 0, y1, y2, r) ∧ MJ Mz ∧ Kp F F1 ∧ R1.length = 7 := by
  have h4 := s_refuse (R := R) (c := 4) hR (by omega) (by omega)
  have h6 := s_refuse (R := R) (c := 6) hR (by omega) (by omega)
  unfold X4_best X5_best
  rw [n60]
  rcases fit_cases (lo := 0) (hi := 60) (by omega) (by omega) p with ⟨n, -, hn, rfl, e1, e2⟩ | ⟨e1, e2⟩ | ⟨e1, e2⟩
  · have w0 := s_X5_wantIn (u := u) (hd := hd) (k := k) (f := f) (g := g) (l := l) (t := t) (i := i) (sh := sh) (co := co) (d := d) (F := F) (z1 := z1) (z2 := z2) (b := 0) (fr := 6) (N := n) (by omega) hE hsh (by omega) (by omega) (hX.mono (by omega))
    have w1 := s_X0_wantWithin (u := u) (hd := hd) (k := k) (f := f) (g := g) (l := l) (t := t) (i := i) (sh := sh) (co := co) (d := d) (b := 0) (N := n) hE hsh (by omega) (by omega) (hX.mono (by omega))
    rw [z00] at w0 w1
    rw [s_X5_notDays e2, show X4_misfit (iI (n : Int)) 0 (iI ((60 : Nat) : Int)) = some 0 from e1, Option.bind_some, Option.bind_some, if_pos rfl, if_pos rfl, s_X4_fromNow hM, Option.bind_some, w1, Option.bind_some, show X5_wantIn (rn 6 t) (rn 6 u) (rn 6 hd) (rn 7 k) (rn 7 f) (rn 7 g) (rn 7 l) (rn 7 i) (rq 616 F) (iI sh) (iI co) (iI d) 0 z1 z2 (-9) (iI (n : Int)) = _ from w0, Option.bind_some]
    exact exwA (l_best hE hsh hX hn sh 0 1000 (by decide) (by omega) (by omega) ⟨rn_len, rn_len, rn_len, rn_len, rn_len, rn_len, rn_len⟩ Kp.put2) hR
  · rw [s_X5_notDays e2, show X4_misfit p 0 (iI ((60 : Nat) : Int)) = some (-4) from e1, Option.bind_some, Option.bind_some, if_neg (by decide), if_neg (by decide), m4, h4.1, h4.2, Option.bind_some, Option.bind_some]
    exact exoA hM Kp.rf (incR_len.trans hR)
  · rw [s_X5_notDays e2, show X4_misfit p 0 (iI ((60 : Nat) : Int)) = some (-6) from e1, Option.bind_some, Option.bind_some, if_neg (by decide), if_neg (by decide), m6, h6.1, h6.2, Option.bind_some, Option.bind_some]
    exact exoA hM Kp.rf (incR_len.trans hR)
set_option maxRecDepth 20000 in
set_option maxHeartbeats 400000 in
theorem exl {u hd k f g l t i : Nat → Nat} {sh co d : Nat} {R B1 B2 B3 B4 B5 B6 B7 : List Int32} {b1 b2 b3 b4 v w1 w2 : Int32} {F F2 : Nat → Int32} (h1 : MJ (B1, B2, B3, B4, B5, B6, B7, b1, b2, b3, b4)) (h2 : Kp F F2) :
    ∃ (Mz : Hs) (F1 : Nat → Int32) (y1 y2 r : Int32), some (R, B1, B2, B3, B4, B5, B6, B7, b1, b2, b3, b4, v) = some (R, Mz.1, Mz.2.1, Mz.2.2.1, Mz.2.2.2.1, Mz.2.2.2.2.1, Mz.2.2.2.2.2.1, Mz.2.2.2.2.2.2.1, Mz.2.2.2.2.2.2.2.1, Mz.2.2.2.2.2.2.2.2.1, Mz.2.2.2.2.2.2.2.2.2.1, Mz.2.2.2.2.2.2.2.2.2.2, r) ∧ some (R, rn 6 t, rn 6 u, rn 6 hd, rn 7 k, rn 7 f, rn 7 g, rn 7 l, rn 7 i, rq 616 F2, iI sh, iI co, iI d, w1, w2, v) = some (R, rn 6 t, rn 6 u, rn 6 hd, rn 7 k, rn 7 f, rn 7 g, rn 7 l, rn 7 i, rq 616 F1, iI sh, iI co, iI d, y1, y2, r) ∧ MJ Mz ∧ Kp F F1 :=
  ⟨(B1, B2, B3, B4, B5, B6, B7, b1, b2, b3, b4), F2, w1, w2, v, rfl, rfl, h1, h2⟩
