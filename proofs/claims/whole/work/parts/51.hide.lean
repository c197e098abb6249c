/-! HIDE -/
set_option maxRecDepth 20000 in
set_option maxHeartbeats 400000 in
theorem s_X5_comesHiding {u hd k f g l t i : Nat → Nat} {sh co d : Nat} {a v s0 N : Nat} {F : Nat → Int32} {z1 z2 : Int32} (hE : OkE (u, hd, k, f, g, l)) (hhd : ∀ j, hd j ≤ 99) (hsh : sh ≤ 7) (hX : OkX 1000 (t, i, co, d)) (ha : a < 6) (hv : v ≤ t a) (hs0 : s0 < 7) (hN : N ≤ 60) :
    ∃ F1 : Nat → Int32, X5_comesHiding (rn 6 t) (rn 6 u) (rn 6 hd) (rn 7 k) (rn 7 f) (rn 7 g) (rn 7 l) (rn 7 i) (rq 616 F) (iI sh) (iI co) (iI d) 0 z1 z2 (iI (fI 6)) (iI (a : Int)) (iI (v : Int)) (iI (s0 : Int)) (iI (N : Int)) = some (rn 6 t, rn 6 u, rn 6 hd, rn 7 k, rn 7 f, rn 7 g, rn 7 l, rn 7 i, rq 616 F1, iI sh, iI co, iI d, 0, iI 168, if (cmX (u, upN hd a (hd a + v), k, f, g, l) sh 0 6 s0 N 0 (upN t a (t a - v), i, co, d)).1 < 0 then 0 else 1) ∧ Kp F F1 := by
  have b1 := hhd a
  have b2 := xT hX a
  have hE2 : OkE (u, upN hd a (hd a + v), k, f, g, l) := hE.hd1 (fun j => upN_le (oH hE) (by omega) j)
  have hX2 : OkX 1500 (upN t a (t a - v), i, co, d) := (hX.mono (by omega)).t1 (fun j => upN_le (xT hX) (by omega) j)
  have h1 := (s_hideAway (t := t) (hd := hd) (a := a) (n := (v : Int)) ha (by omega) (by omega)).2
  rw [show ((t a : Int) - (v : Int)).toNat = t a - v by omega, show ((hd a : Int) + (v : Int)).toNat = hd a + v by omega] at h1
  have b3 := cmX_b (e := (u, upN hd a (hd a + v), k, f, g, l)) (sh := sh) (b := 0) (fr := 6) (s := s0) N 0 (upN t a (t a - v), i, co, d)
  have e1 : upN t a (t a - v) a = t a - v := by unfold upN; rw [if_pos rfl]
  have e2 : upN hd a (hd a + v) a = hd a + v := by unfold upN; rw [if_pos rfl]
  have h2 := (s_hideAway (t := upN t a (t a - v)) (hd := upN hd a (hd a + v)) (a := a) (n := -(v : Int)) ha (by omega) (by omega)).2
  rw [e1, e2, upN_self (by omega), upN_self (by omega)] at h2
  have w0 := s_X5_comesIn (u := u) (hd := upN hd a (hd a + v)) (k := k) (f := f) (g := g) (l := l) (t := upN t a (t a - v)) (i := i) (sh := sh) (co := co) (d := d) (F := F) (z1 := z1) (z2 := z2) (b := 0) (fr := 6) (s0 := s0) (N := N) (by omega) hE2 hsh (by omega) hs0 (by omega) hX2
  rw [z00] at w0
  unfold X5_comesHiding
  rw [h1, Option.bind_some, w0, Option.bind_some, iI_neg, h2]
  by_cases c : (cmX (u, upN hd a (hd a + v), k, f, g, l) sh 0 6 s0 N 0 (upN t a (t a - v), i, co, d)).1 < 0
  · rw [if_pos (by rw [L0]; exact tlt c (by omega) (by omega)), Option.bind_some, if_pos c]
    exact ⟨_, rfl, Kp.put2⟩
  · rw [if_neg (by rw [L0]; exact flt (by omega) (by omega) (by omega)), Option.bind_some, if_neg c]
    exact ⟨_, rfl, Kp.put2⟩
set_option maxRecDepth 20000 in
set_option maxHeartbeats 400000 in
theorem l_hide {u hd k f g l t i : Nat → Nat} {sh co d : Nat} {R : List Int32} {a s0 N : Nat} {F0 : Nat → Int32} (hE : OkE (u, hd, k, f, g, l)) (hhd : ∀ j, hd j ≤ 99) (hsh : sh ≤ 7) (hX : OkX 1000 (t, i, co, d)) (ha : a < 6) (hs0 : s0 < 7) (hN : N ≤ 60) : ∀ (r s n : Nat) {A1 A2 A3 A4 A5 A6 A7 : List Int32} {a1 a2 a3 a4 : Int32} {x5 z1 z2 : Int32} {F : Nat → Int32}, x5 = iI (s : Int) → s + r = t a + 1 → r < n → MJ (A1, A2, A3, A4, A5, A6, A7, a1, a2, a3, a4) → Kp F0 F →
    ∃ (Mz : Hs) (F1 : Nat → Int32) (y1 y2 v : Int32), X4_hide_L48 (fun (q1 q2 q3 q4 q5 q6 q7 : List Int32) (q8 q9 q10 q11 : Int32) => some (R, q1, q2, q3, q4, q5, q6, q7, q8, q9, q10, q11, (-9 : Int32))) R (rn 6 t) (rn 6 u) (rn 6 hd) (rn 7 k) (rn 7 f) (rn 7 g) (rn 7 l) (iI sh) (iI (mk i)) (iI co) (iI d) (iI (a : Int)) (iI (s0 : Int)) (iI (N : Int)) n x5 A1 A2 A3 A4 A5 A6 A7 a1 a2 a3 a4 = some (R, Mz.1, Mz.2.1, Mz.2.2.1, Mz.2.2.2.1, Mz.2.2.2.2.1, Mz.2.2.2.2.2.1, Mz.2.2.2.2.2.2.1, Mz.2.2.2.2.2.2.2.1, Mz.2.2.2.2.2.2.2.2.1, Mz.2.2.2.2.2.2.2.2.2.1, Mz.2.2.2.2.2.2.2.2.2.2, v) ∧ X5_hide_L43 (fun (q1 q2 q3 q4 q5 q6 q7 q8 q9 : List Int32) (q10 q11 q12 q13 q14 : Int32) => some (R, q1, q2, q3, q4, q5, q6, q7, q8, q9, q10, q11, q12, q13, q14, (-9 : Int32))) R 0 (iI (fI 6)) (iI (a : Int)) (iI (s0 : Int)) (iI (N : Int)) n x5 (rn 6 t) (rn 6 u) (rn 6 hd) (rn 7 k) (rn 7 f) (rn 7 g) (rn 7 l) (rn 7 i) (rq 616 F) (iI sh) (iI co) (iI d) z1 z2 = some (R, rn 6 t, rn 6 u, rn 6 hd, rn 7 k, rn 7 f, rn 7 g, rn 7 l, rn 7 i, rq 616 F1, iI sh, iI co, iI d, y1, y2, v) ∧ MJ Mz ∧ Kp F0 F1 := by
  intro r
  have b1 := hhd a
  have b2 := xT hX a
  induction r with
  | zero =>
    intro s n A1 A2 A3 A4 A5 A6 A7 a1 a2 a3 a4 x5 z1 z2 F hx hs hn hM hK
    obtain ⟨m, rfl⟩ : ∃ m, n = m + 1 := ⟨n - 1, by omega⟩
    subst hx
    have q : iI (t a : Int) < iI (s : Int) := tlt (by omega) (by omega) (by omega)
    rw [X4_hide_L48, X5_hide_L43, rd_rn (f := t) (by omega) (by omega) (by omega), Option.bind_some, Option.bind_some, Int.toNat_natCast, if_pos q, if_pos q]
    exact ⟨(A1, A2, A3, A4, A5, A6, A7, a1, a2, a3, a4), F, z1, z2, _, rfl, rfl, hM, hK⟩
  | succ r ih =>
    intro s n A1 A2 A3 A4 A5 A6 A7 a1 a2 a3 a4 x5 z1 z2 F hx hs hn hM hK
    obtain ⟨m, rfl⟩ : ∃ m, n = m + 1 := ⟨n - 1, by omega⟩
    subst hx
    have q : ¬ iI (t a : Int) < iI (s : Int) := flt (by omega) (by omega) (by omega)
    have hE2 : OkE (u, upN hd a (hd a + s), k, f, g, l) := hE.hd1 (fun j => upN_le (oH hE) (by omega) j)
    have hX2 : OkX 1500 (upN t a (t a - s), i, co, d) := (hX.mono (by omega)).t1 (fun j => upN_le (xT hX) (by omega) j)
    have h1 := (s_hideAway (t := t) (hd := hd) (a := a) (n := (s : Int)) ha (by omega) (by omega)).1
    rw [show ((t a : Int) - (s : Int)).toNat = t a - s by omega, show ((hd a : Int) + (s : Int)).toNat = hd a + s by omega] at h1
    have b3 := cmX_b (e := (u, upN hd a (hd a + s), k, f, g, l)) (sh := sh) (b := 0) (fr := 6) (s := s0) N 0 (upN t a (t a - s), i, co, d)
    obtain ⟨F1, w1, w2⟩ := s_X5_comesHiding (F := F) (z1 := z1) (z2 := z2) hE hhd hsh hX ha (show s ≤ t a by omega) hs0 hN
    rw [X4_hide_L48, X5_hide_L43, rd_rn (f := t) (by omega) (by omega) (by omega), Option.bind_some, Option.bind_some, Int.toNat_natCast, if_neg q, if_neg q, s_X4_fromNow hM, Option.bind_some, h1, Option.bind_some, s_X0_daysUntilIn hE2 hsh hs0 (by omega) hX2, Option.bind_some]
    rcases b3 with b3 | b3
    · rw [b3, if_pos (show (-9 : Int) < 0 by decide)] at w1
      rw [w1, Option.bind_some, b3, if_pos e9, if_pos (show (0 : Int32) = 0 from rfl)]
      exact ih (s + 1) m (iI_s s) (by omega) (by omega) ⟨rn_len, rn_len, rn_len, rn_len, rn_len, rn_len, rn_len⟩ (hK.tr w2)
    · rw [if_neg (show ¬ (cmX (u, upN hd a (hd a + s), k, f, g, l) sh 0 6 s0 N 0 (upN t a (t a - s), i, co, d)).1 < 0 by omega)] at w1
      rw [w1, Option.bind_some, if_neg (n9 (by omega) (by omega)), if_neg c10]
      exact exl ⟨rn_len, rn_len, rn_len, rn_len, rn_len, rn_len, rn_len⟩ (hK.tr w2)
set_option maxRecDepth 20000 in
set_option maxHeartbeats 400000 in
theorem op_hide {A1 A2 A3 A4 A5 A6 A7 : List Int32} {a1 a2 a3 a4 : Int32} {u hd k f g l t i : Nat → Nat} {sh co d : Nat} {R : List Int32} {F : Nat → Int32} {z1 z2 p q v : Int32} (hM : MJ (A1, A2, A3, A4, A5, A6, A7, a1, a2, a3, a4)) (hE : OkE (u, hd, k, f, g, l)) (hhd : ∀ j, hd j ≤ 99) (hsh : sh ≤ 7) (hX : OkX 1000 (t, i, co, d)) (hR : R.length = 7) :
    ∃ (R1 : List Int32) (Mz : Hs) (F1 : Nat → Int32) (y1 y2 r : Int32), X4_hide R A1 A2 A3 A4 A5 A6 A7 (rn 6 t) (rn 6 u) (rn 6 hd) (rn 7 k) (rn 7 f) (rn 7 g) (rn 7 l) a1 a2 a3 a4 (iI sh) (iI (mk i)) (iI co) (iI d) p q v = some (R1, Mz.1, Mz.2.1, Mz.2.2.1, Mz.2.2.2.1, Mz.2.2.2.2.1, Mz.2.2.2.2.2.1, Mz.2.2.2.2.2.2.1, Mz.2.2.2.2.2.2.2.1, Mz.2.2.2.2.2.2.2.2.1, Mz.2.2.2.2.2.2.2.2.2.1, Mz.2.2.2.2.2.2.2.2.2.2, r) ∧ X5_hide R (rn 6 t) (rn 6 u) (rn 6 hd) (rn 7 k) (rn 7 f) (rn 7 g) (rn 7 l) (rn 7 i) (rq 616 F) (iI sh) (iI co) (iI d) 0 z1 z2 (-9) p q v = some (R1, rn 6 t, rn 6 u, rn 6 hd, rn 7 k, rn 7 f, rn 7 g, rn 7 l, rn 7 i, rq 616 F1, iI sh, iI co, iI d, y1, y2, r) ∧ MJ Mz ∧ Kp F F1 ∧ R1.length = 7 := by
  have h1 := s_refuse (R := R) (c := 1) hR (by omega) (by omega)
  have h4 := s_refuse (R := R) (c := 4) hR (by omega) (by omega)
  have h6 := s_refuse (R := R) (c := 6) hR (by omega) (by omega)
  unfold X4_hide X5_hide
  rcases good_cases p with ⟨a, ha, rfl, g1, g2⟩ | ⟨g1, g2⟩
  · rw [g1, g2, Option.bind_some, Option.bind_some, if_neg c10, if_neg c10]
    rcases ship_cases hsh q with ⟨s0, hs0, rfl, g3, g4⟩ | ⟨g3, g4⟩
    · rw [g3, g4, Option.bind_some, Option.bind_some, if_neg c10, if_neg c10]
      rcases fit_cases (lo := 1) (hi := 60) (by omega) (by omega) v with ⟨n, hn1, hn, rfl, e1, e2⟩ | ⟨e1, e2⟩ | ⟨e1, e2⟩
      · rw [show X4_misfit (iI (n : Int)) 1 60 = some 0 from e1, show X5_bound (iI (n : Int)) 1 60 = some 0 from e2, Option.bind_some, Option.bind_some, if_pos rfl, if_pos rfl]
        have b2 := xT hX a
        exact exw (l_hide hE hhd hsh hX ha (by omega) hn (t a + 1) 0 1000 (by decide) (by omega) (by omega) hM Kp.rf) hR
      · rw [show X4_misfit v 1 60 = some (-4) from e1, show X5_bound v 1 60 = some (-4) from e2, Option.bind_some, Option.bind_some, if_neg (by decide), if_neg (by decide), m4, h4.1, h4.2, Option.bind_some, Option.bind_some]
        exact exo hM Kp.rf (incR_len.trans hR)
      · rw [show X4_misfit v 1 60 = some (-6) from e1, show X5_bound v 1 60 = some (-6) from e2, Option.bind_some, Option.bind_some, if_neg (by decide), if_neg (by decide), m6, h6.1, h6.2, Option.bind_some, Option.bind_some]
        exact exo hM Kp.rf (incR_len.trans hR)
    · rw [g3, g4, Option.bind_some, Option.bind_some, if_pos rfl, if_pos rfl, m1, h1.1, h1.2, Option.bind_some, Option.bind_some]
      exact exo hM Kp.rf (incR_len.trans hR)
  · rw [g1, g2, Option.bind_some, Option.bind_some, if_pos rfl, if_pos rfl, m1, h1.1, h1.2, Option.bind_some, Option.bind_some]
    exact exo hM Kp.rf (incR_len.trans hR)
/-! LOADED -/
set_option maxRecDepth 20000 in
set_option maxHeartbeats 400000 in
theorem upN_up {f : Nat → Nat} {s v w : Nat} : upN (upN f s v) s w = upN f s w := by
  funext j
  unfold upN
  by_cases c : j = s
  · rw [if_pos c, if_pos c]
  · rw [if_neg c, if_neg c, if_neg c]
set_option maxRecDepth 20000 in
set_option maxHeartbeats 400000 in
theorem upN_id {f : Nat → Nat} {s : Nat} : upN f s (f s) = f := by
  funext j
  unfold upN
  by_cases c : j = s
  · rw [if_pos c, c]
  · rw [if_neg c]
set_option maxRecDepth 20000 in
set_option maxHeartbeats 400000 in
theorem OkE.g1 {u hd k f g l h : Nat → Nat} (hE : OkE (u, hd, k, f, g, l)) (hh : ∀ j, h j ≤ 5) : OkE (u, hd, k, f, h, l) := ⟨oU hE, oH hE, oK hE, oF hE, hh, oL hE⟩
set_option maxRecDepth 20000 in
set_option maxHeartbeats 400000 in
theorem l_loaded {u hd k f g l t i : Nat → Nat} {sh co d : Nat} {R : List Int32} {s0 w : Nat} {F0 : Nat → Int32} (hE : OkE (u, hd, k, f, g, l)) (hsh : sh ≤ 7) (hX : OkX 1000 (t, i, co, d)) (hs0 : s0 < 7) (hw : w ≤ 1) : ∀ (r s n c : Nat) {A1 A2 A3 A4 A5 A6 A7 : List Int32} {a1 a2 a3 a4 : Int32} {x5 z1 z2 : Int32} {B C : Int} {F : Nat → Int32}, x5 = iI (s : Int) → s + r = 6 → r < n → MJ (A1, A2, A3, A4, A5, A6, A7, a1, a2, a3, a4) → Kp F0 F → ((B = -9 ∧ C = -9) ∨ (0 ≤ B ∧ B ≤ 5 ∧ 0 ≤ C ∧ C ≤ 60)) →
    ∃ (Mz : Hs) (F1 : Nat → Int32) (y1 y2 y3 y4 v : Int32), X4_loaded_L61 (fun (y yy : Int32) (q1 q2 q3 q4 q5 q6 q7 : List Int32) (q8 q9 q10 q11 : Int32) => if iI (w : Int) = (0 : Int32) then some (R, q1, q2, q3, q4, q5, q6, q7, q8, q9, q10, q11, y) else some (R, q1, q2, q3, q4, q5, q6, q7, q8, q9, q10, q11, yy)) (rn 6 t) (rn 6 u) (rn 6 hd) (rn 7 k) (rn 7 f) (rn 7 g) (rn 7 l) (iI sh) (iI (mk i)) (iI co) (iI d) (iI (s0 : Int)) n (iI B) (iI C) x5 A1 A2 A3 A4 A5 A6 A7 a1 a2 a3 a4 = some (R, Mz.1, Mz.2.1, Mz.2.2.1, Mz.2.2.2.1, Mz.2.2.2.2.1, Mz.2.2.2.2.2.1, Mz.2.2.2.2.2.2.1, Mz.2.2.2.2.2.2.2.1, Mz.2.2.2.2.2.2.2.2.1, Mz.2.2.2.2.2.2.2.2.2.1, Mz.2.2.2.2.2.2.2.2.2.2, v) ∧
      (X5_findLoaded_L21 (fun there_7 used_8 hidden_9 kind_10 figure_11 good_12 load_13 inn_14 kept_15 ships_16 coughs_17 day_18 isKeeping_19 cursor_20 goodFor_21 loadedWhen_22 => (wr good_12 (iI (s0 : Int)) (iI (g s0 : Int))).bind fun good_23 => some (there_7, used_8, hidden_9, kind_10, figure_11, good_23, load_13, inn_14, kept_15, ships_16, coughs_17, day_18, isKeeping_19, cursor_20, goodFor_21, loadedWhen_22)) 0 (iI (fI 6)) (iI (s0 : Int)) n x5 (rn 6 t) (rn 6 u) (rn 6 hd) (rn 7 k) (rn 7 f) (rn 7 (upN g s0 c)) (rn 7 l) (rn 7 i) (rq 616 F) (iI sh) (iI co) (iI d) z1 z2 (iI B) (iI C)) = some (rn 6 t, rn 6 u, rn 6 hd, rn 7 k, rn 7 f, rn 7 g, rn 7 l, rn 7 i, rq 616 F1, iI sh, iI co, iI d, y1, y2, y3, y4) ∧ (if iI (w : Int) = (0 : Int32) then v = y3 else v = y4) ∧ MJ Mz ∧ Kp F0 F1 := by
  intro r
  induction r with
  | zero =>
    intro s n c A1 A2 A3 A4 A5 A6 A7 a1 a2 a3 a4 x5 z1 z2 B C F hx hs hn hM hK hBC
    obtain ⟨m, rfl⟩ : ∃ m, n = m + 1 := ⟨n - 1, by omega⟩
    subst hx
    have q : (6 : Int32) ≤ iI (s : Int) := by rw [L6]; exact tle (by omega) (by omega) (by omega)
    have bg := oG hE s0
    rw [X4_loaded_L61, X5_findLoaded_L21, if_pos q, if_pos q, wr_rn (by omega) (by omega) (by omega) (by omega), Option.bind_some, Int.toNat_natCast, Int.toNat_natCast, upN_self rfl]
    by_cases cw : iI (w : Int) = (0 : Int32)
    · rw [if_pos cw]
      exact ⟨(A1, A2, A3, A4, A5, A6, A7, a1, a2, a3, a4), F, z1, z2, iI B, iI C, iI B, rfl, rfl, by rw [if_pos cw], hM, hK⟩
    · rw [if_neg cw]
      exact ⟨(A1, A2, A3, A4, A5, A6, A7, a1, a2, a3, a4), F, z1, z2, iI B, iI C, iI C, rfl, rfl, by rw [if_neg cw], hM, hK⟩
  | succ r ih =>
    intro s n c A1 A2 A3 A4 A5 A6 A7 a1 a2 a3 a4 x5 z1 z2 B C F hx hs hn hM hK hBC
    obtain ⟨m, rfl⟩ : ∃ m, n = m + 1 := ⟨n - 1, by omega⟩
    subst hx
    have q : ¬ (6 : Int32) ≤ iI (s : Int) := by rw [L6]; exact fle (by omega) (by omega) (by omega)
    have hE2 : OkE (u, hd, k, f, upN g s0 s, l) := hE.g1 (fun j => upN_le (oG hE) (by omega) j)
    have b3 := cmX_b (e := (u, hd, k, f, upN g s0 s, l)) (sh := sh) (b := 0) (fr := 6) (s := s0) 60 0 (t, i, co, d)
    have w0 := s_X5_comesIn (u := u) (hd := hd) (k := k) (f := f) (g := upN g s0 s) (l := l) (t := t) (i := i) (sh := sh) (co := co) (d := d) (F := F) (z1 := z1) (z2 := z2) (b := 0) (fr := 6) (s0 := s0) (N := 60) (by omega) hE2 hsh (by omega) hs0 (by omega) (hX.mono (by omega))
    rw [z00] at w0
    rw [X4_loaded_L61, X5_findLoaded_L21, if_neg q, if_neg q, s_X4_fromNow hM, Option.bind_some, n60, wr_rn (f := g) (by omega) (by omega) (by omega) (by omega), Option.bind_some, wr_rn (f := upN g s0 c) (by omega) (by omega) (by omega) (by omega), Option.bind_some, Int.toNat_natCast, Int.toNat_natCast, upN_up, s_X0_daysUntilIn hE2 hsh hs0 (by omega) (hX.mono (by omega)), Option.bind_some, w0, Option.bind_some]
    generalize (cmX (u, hd, k, f, upN g s0 s, l) sh 0 6 s0 60 0 (t, i, co, d)).1 = e at b3 ⊢
    rcases b3 with rfl | b3
    · rw [if_pos e9, if_pos (show iI (-9) < (0 : Int32) by decide)]
      exact ih (s + 1) m s (iI_s s) (by omega) (by omega) ⟨rn_len, rn_len, rn_len, rn_len, rn_len, rn_len, rn_len⟩ (hK.tr Kp.put2) hBC
    · rw [if_neg (n9 (by omega) (by omega)), if_neg (m9 (by omega) (by omega))]
      rcases hBC with ⟨rfl, rfl⟩ | ⟨h1, h2, h3, h4⟩
      · rw [if_pos e9, if_pos (show iI (-9) < (0 : Int32) by decide)]
        exact ih (s + 1) m s (iI_s s) (by omega) (by omega) ⟨rn_len, rn_len, rn_len, rn_len, rn_len, rn_len, rn_len⟩ (hK.tr Kp.put2) (Or.inr (by omega))
      · rw [if_neg (n9 (by omega) (by omega)), if_neg (m9 (by omega) (by omega))]
        by_cases w1 : C ≤ e
        · rw [if_pos (tle w1 (by omega) (by omega)), if_neg (flt w1 (by omega) (by omega))]
          exact ih (s + 1) m s (iI_s s) (by omega) (by omega) ⟨rn_len, rn_len, rn_len, rn_len, rn_len, rn_len, rn_len⟩ (hK.tr Kp.put2) (Or.inr (by omega))
        · rw [if_neg (fle (by omega) (by omega) (by omega)), if_pos (tlt (by omega) (by omega) (by omega))]
          exact ih (s + 1) m s (iI_s s) (by omega) (by omega) ⟨rn_len, rn_len, rn_len, rn_len, rn_len, rn_len, rn_len⟩ (hK.tr Kp.put2) (Or.inr (by omega))
set_option maxRecDepth 20000 in
set_option maxHeartbeats 400000 in
theorem exo2 {u hd k f g l t i : Nat → Nat} {sh co d : Nat} {R B1 B2 B3 B4 B5 B6 B7 : List Int32} {b1 b2 b3 b4 v w1 w2 w3 w4 : Int32} {F F2 : Nat → Int32} (h1 : MJ (B1, B2, B3, B4, B5, B6, B7, b1, b2, b3, b4)) (h2 : Kp F F2) (h3 : R.length = 7) :
    ∃ (R1 : List Int32) (Mz : Hs) (F1 : Nat → Int32) (y1 y2 y3 y4 r : Int32), some (R, B1, B2, B3, B4, B5, B6, B7, b1, b2, b3, b4, v) = some (R1, Mz.1, Mz.2.1, Mz.2.2.1, Mz.2.2.2.1, Mz.2.2.2.2.1, Mz.2.2.2.2.2.1, Mz.2.2.2.2.2.2.1, Mz.2.2.2.2.2.2.2.1, Mz.2.2.2.2.2.2.2.2.1, Mz.2.2.2.2.2.2.2.2.2.1, Mz.2.2.2.2.2.2.2.2.2.2, r) ∧ some (R, rn 6 t, rn 6 u, rn 6 hd, rn 7 k, rn 7 f, rn 7 g, rn 7 l, rn 7 i, rq 616 F2, iI sh, iI co, iI d, w1, w2, w3, w4, v) = some (R1, rn 6 t, rn 6 u, rn 6 hd, rn 7 k, rn 7 f, rn 7 g, rn 7 l, rn 7 i, rq 616 F1, iI sh, iI co, iI d, y1, y2, y3, y4, r) ∧ MJ Mz ∧ Kp F F1 ∧ R1.length = 7 :=
  ⟨R, (B1, B2, B3, B4, B5, B6, B7, b1, b2, b3, b4), F2, w1, w2, w3, w4, v, rfl, rfl, h1, h2, h3⟩
set_option maxRecDepth 20000 in
set_option maxHeartbeats 400000 in
theorem op_loaded {A1 A2 A3 A4 A5 A6 A7 : List Int32} {a1 a2 a3 a4 : Int32} {u hd k f g l t i : Nat → Nat} {sh co d : Nat} {R : List Int32} {F : Nat → Int32} {z1 z2 z3 z4 p q : Int32} (hM : MJ (A1, A2, A3, A4, A5, A6, A7, a1, a2, a3, a4)) (hE : OkE (u, hd, k, f, g, l)) (hsh : sh ≤ 7) (hX : OkX 1000 (t, i, co, d)) (hR : R.length = 7) :
    ∃ (R1 : List Int32) (Mz : Hs) (F1 : Nat → Int32) (y1 y2 y3 y4 r : Int32), X4_loaded R A1 A2 A3 A4 A5 A6 A7 (rn 6 t) (rn 6 u) (rn 6 hd) (rn 7 k) (rn 7 f) (rn 7 g) (rn 7 l) a1 a2 a3 a4 (iI sh) (iI (mk i)) (iI co) (iI d) p q = some (R1, Mz.1, Mz.2.1, Mz.2.2.1, Mz.2.2.2.1, Mz.2.2.2.2.1, Mz.2.2.2.2.2.1, Mz.2.2.2.2.2.2.1, Mz.2.2.2.2.2.2.2.1, Mz.2.2.2.2.2.2.2.2.1, Mz.2.2.2.2.2.2.2.2.2.1, Mz.2.2.2.2.2.2.2.2.2.2, r) ∧ X5_loaded R (rn 6 t) (rn 6 u) (rn 6 hd) (rn 7 k) (rn 7 f) (rn 7 g) (rn 7 l) (rn 7 i) (rq 616 F) (iI sh) (iI co) (iI d) 0 z1 z2 (-9) z3 z4 p q = some (R1, rn 6 t, rn 6 u, rn 6 hd, rn 7 k, rn 7 f, rn 7 g, rn 7 l, rn 7 i, rq 616 F1, iI sh, iI co, iI d, y1, y2, y3, y4, r) ∧ MJ Mz ∧ Kp F F1 ∧ R1.length = 7 := by
  have h1 := s_refuse (R := R) (c := 1) hR (by omega) (by omega)
  have h2 := s_refuse (R := R) (c := 2) hR (by omega) (by omega)
  have h3 := s_refuse (R := R) (c := 3) hR (by omega) (by omega)
  unfold X4_loaded X5_loaded
  rcases ship_cases hsh p with ⟨s0, hs0, rfl, g1, g2⟩ | ⟨g1, g2⟩
  · rw [g1, g2, Option.bind_some, Option.bind_some, if_neg c10, if_neg c10]
    rcases what_cases (hi := 1) (by omega) q with ⟨w, hw, rfl, e1, e2, e3⟩ | ⟨e1, e3⟩ | ⟨e1, e2, e3⟩
    · have b1 := xI hX s0
      rw [if_neg e1, if_pos (show iI (w : Int) ≤ (1 : Int32) from e2), show X5_isIn (iI (w : Int)) 0 1 = some 1 from e3, Option.bind_some, if_neg c10, s_X0_isIn (xI hX) (by omega) (by omega), Option.bind_some, rd_rn (f := i) (by omega) (by omega) (by omega), Option.bind_some, Int.toNat_natCast]
      by_cases c : i s0 = 0
      · unfold X5_findLoaded
        rw [if_pos (show iI (i s0 : Int) = (0 : Int32) by rw [c]; decide), if_neg (show ¬ iI (i s0 : Int) = (1 : Int32) by rw [c]; decide), rd_rn (f := g) (by omega) (by omega) (by omega), Option.bind_some, Int.toNat_natCast]
        obtain ⟨Mz, F1, y1, y2, y3, y4, v, k1, k2, k3, k4, k5⟩ := l_loaded (R := R) (F0 := F) (F := F) (z1 := z1) (z2 := z2) (B := -9) (C := -9) (w := w) hE hsh hX (show s0 < 7 by omega) hw 6 0 1000 (g s0) (by decide : (0 : Int32) = iI ((0 : Nat) : Int)) (by omega) (by omega) hM Kp.rf (Or.inl ⟨rfl, rfl⟩)
        rw [upN_id] at k2
        rw [e9] at k1 k2
        rw [k1, show (-9 : Int32) = iI (fI 6) from f9, ← f9, show X5_findLoaded_L21 _ 0 (-9) (iI (s0 : Int)) 1000 0 (rn 6 t) (rn 6 u) (rn 6 hd) (rn 7 k) (rn 7 f) (rn 7 g) (rn 7 l) (rn 7 i) (rq 616 F) (iI sh) (iI co) (iI d) z1 z2 (-9) (-9) = _ from k2, Option.bind_some]
        by_cases cw : iI (w : Int) = (0 : Int32)
        · rw [if_pos cw] at k3 ⊢
          subst k3
          exact ⟨R, Mz, F1, y1, y2, v, y4, v, rfl, rfl, k4, k5, hR⟩
        · rw [if_neg cw] at k3 ⊢
          subst k3
          exact ⟨R, Mz, F1, y1, y2, y3, v, v, rfl, rfl, k4, k5, hR⟩
      · rw [if_neg (show ¬ iI (i s0 : Int) = (0 : Int32) from ne0 (by omega) (by omega)), if_pos (show iI (i s0 : Int) = (1 : Int32) by rw [show i s0 = 1 by omega]; decide), m3, h3.1, h3.2, Option.bind_some, Option.bind_some]
        exact exo2 hM Kp.rf (incR_len.trans hR)
    · rw [if_pos e1, show X5_isIn q 0 1 = some 0 from e3, Option.bind_some, if_pos rfl, m2, h2.1, h2.2, Option.bind_some, Option.bind_some]
      exact exo2 hM Kp.rf (incR_len.trans hR)
    · rw [if_neg e1, if_neg (show ¬ q ≤ (1 : Int32) from e2), show X5_isIn q 0 1 = some 0 from e3, Option.bind_some, if_pos rfl, m2, h2.1, h2.2, Option.bind_some, Option.bind_some]
      exact exo2 hM Kp.rf (incR_len.trans hR)
  · rw [g1, g2, Option.bind_some, Option.bind_some, if_pos rfl, if_pos rfl, m1, h1.1, h1.2, Option.bind_some, Option.bind_some]
    exact exo2 hM Kp.rf (incR_len.trans hR)
