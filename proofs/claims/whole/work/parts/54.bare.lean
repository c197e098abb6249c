/-! BARE -/
/-- the first good from s on, r of them, of which there is nothing -/
def fb (t : Nat → Nat) : Nat → Nat → Int
  | 0, _ => -9
  | r + 1, s => if t s = 0 then (s : Int) else fb t r (s + 1)
set_option maxRecDepth 20000 in
set_option maxHeartbeats 400000 in
theorem fb_b {t : Nat → Nat} : ∀ r s : Nat, fb t r s = -9 ∨ ((s : Int) ≤ fb t r s ∧ fb t r s < ((s + r : Nat) : Int)) := by
  intro r
  induction r with
  | zero => intro s; exact Or.inl rfl
  | succ r ih =>
    intro s
    unfold fb
    by_cases c : t s = 0
    · rw [if_pos c]; exact Or.inr (by omega)
    · rw [if_neg c]
      have := ih (s + 1)
      omega
set_option maxRecDepth 20000 in
set_option maxHeartbeats 400000 in
theorem l_firstBare {t : Nat → Nat} (ht : ∀ j, t j ≤ 99) : ∀ (r s n : Nat) (x : Int32), x = iI (s : Int) → s + r = 6 → r < n → X0_firstBare_L2 (fun _ => some (-9 : Int32)) (rn 6 t) n x = some (iI (fb t r s)) := by
  intro r
  induction r with
  | zero =>
    intro s n x hx hs hn
    obtain ⟨m, rfl⟩ : ∃ m, n = m + 1 := ⟨n - 1, by omega⟩
    subst hx
    rw [X0_firstBare_L2, if_pos (by rw [L6]; exact tle (by omega) (by omega) (by omega))]
    rfl
  | succ r ih =>
    intro s n x hx hs hn
    obtain ⟨m, rfl⟩ : ∃ m, n = m + 1 := ⟨n - 1, by omega⟩
    subst hx
    have b := ht s
    rw [X0_firstBare_L2, if_neg (by rw [L6]; exact fle (by omega) (by omega) (by omega)), rd_rn (by omega) (by omega) (by omega), Option.bind_some, Int.toNat_natCast]
    unfold fb
    by_cases c : t s = 0
    · rw [if_pos (show iI (t s : Int) = (0 : Int32) by rw [c]; decide), if_pos c]
    · rw [if_neg (show ¬ iI (t s : Int) = (0 : Int32) from ne0 (by omega) (by omega)), if_neg c]
      exact ih (s + 1) m _ (iI_s s) (by omega) (by omega)
set_option maxRecDepth 20000 in
set_option maxHeartbeats 400000 in
theorem l_bareGood {t : Nat → Nat} (ht : ∀ j, t j ≤ 99) (K : Int32 → Option (List Int32 × List Int32 × List Int32 × List Int32 × List Int32 × List Int32 × List Int32 × List Int32 × List Int32 × Int32 × Int32 × Int32 × Int32 × Int32 × Int32 × Int32)) : ∀ (s n : Nat) (x y : Int32), x = iI ((s : Int) - 1) → y = iI (fb t (6 - s) s) → s ≤ 6 → s < n → X5_findBare_L33 K (rn 6 t) n x y = K (iI (fb t 6 0)) := by
  intro s
  induction s with
  | zero =>
    intro n x y hx hy hs hn
    obtain ⟨m, rfl⟩ : ∃ m, n = m + 1 := ⟨n - 1, by omega⟩
    subst hx; subst hy
    rw [X5_findBare_L33, if_pos (by decide)]
  | succ s ih =>
    intro n x y hx hy hs hn
    obtain ⟨m, rfl⟩ : ∃ m, n = m + 1 := ⟨n - 1, by omega⟩
    subst hx; subst hy
    have b := ht s
    have e : fb t (6 - s) s = if t s = 0 then (s : Int) else fb t (6 - (s + 1)) (s + 1) := by
      rw [show 6 - s = (6 - (s + 1)) + 1 by omega, fb]
    rw [X5_findBare_L33, show iI (((s + 1 : Nat) : Int) - 1) = iI (s : Int) from iI_c (by omega), if_neg (m9 (by omega) (by omega)), rd_rn (by omega) (by omega) (by omega), Option.bind_some, Int.toNat_natCast, show (-1 : Int32) = iI (-1) by decide, iI_add]
    by_cases c : t s = 0
    · rw [if_pos c] at e
      rw [if_pos (show iI (t s : Int) = (0 : Int32) by rw [c]; decide)]
      exact ih m _ _ (iI_c (by omega)) (iI_c e.symm) (by omega) (by omega)
    · rw [if_neg c] at e
      rw [if_neg (show ¬ iI (t s : Int) = (0 : Int32) from ne0 (by omega) (by omega))]
      exact ih m _ _ (iI_c (by omega)) (iI_c e.symm) (by omega) (by omega)
set_option maxRecDepth 20000 in
set_option maxHeartbeats 400000 in
theorem exb {R B1 B2 B3 B4 B5 B6 B7 : List Int32} {b1 b2 b3 b4 v : Int32} (h : MJ (B1, B2, B3, B4, B5, B6, B7, b1, b2, b3, b4)) : ∃ Mz : Hs, some (R, B1, B2, B3, B4, B5, B6, B7, b1, b2, b3, b4, v) = some (R, Mz.1, Mz.2.1, Mz.2.2.1, Mz.2.2.2.1, Mz.2.2.2.2.1, Mz.2.2.2.2.2.1, Mz.2.2.2.2.2.2.1, Mz.2.2.2.2.2.2.2.1, Mz.2.2.2.2.2.2.2.2.1, Mz.2.2.2.2.2.2.2.2.2.1, Mz.2.2.2.2.2.2.2.2.2.2, v) ∧ MJ Mz := ⟨_, rfl, h⟩
set_option maxRecDepth 20000 in
set_option maxHeartbeats 400000 in
theorem l_bare {u hd k f g l : Nat → Nat} {R : List Int32} {sh w : Nat} (hE : OkE (u, hd, k, f, g, l)) (hsh : sh ≤ 7) (K5 : List Int32 → List Int32 → Int32 → Int32 → Int32 → Int32 → Option (List Int32 × List Int32 × List Int32 × List Int32 × List Int32 × List Int32 × List Int32 × List Int32 × List Int32 × Int32 × Int32 × Int32 × Int32 × Int32 × Int32 × Int32)) : ∀ (r s n D : Nat) (x : Int32) (t i : Nat → Nat) (co d : Nat), x = iI (s : Int) → s + r = 61 → r + 1 < n → OkX D (t, i, co, d) → D + r ≤ 2000 →
    ∃ (Mz : Hs) (v1 v2 : Int32) (t1 i1 : Nat → Nat) (co1 d1 : Nat), X4_bare_L23 (fun m_there_9 m_inn_10 m_coughs_11 m_day_12 => some (R, m_there_9, rn 6 u, rn 6 hd, rn 7 k, rn 7 f, rn 7 g, rn 7 l, iI (sh : Int), m_inn_10, m_coughs_11, m_day_12, (-9 : Int32))) R (rn 6 u) (rn 6 hd) (rn 7 k) (rn 7 f) (rn 7 g) (rn 7 l) (iI sh) (iI (w : Int)) n x (rn 6 t) (iI (mk i)) (iI co) (iI d) = some (R, Mz.1, Mz.2.1, Mz.2.2.1, Mz.2.2.2.1, Mz.2.2.2.2.1, Mz.2.2.2.2.2.1, Mz.2.2.2.2.2.2.1, Mz.2.2.2.2.2.2.2.1, Mz.2.2.2.2.2.2.2.2.1, Mz.2.2.2.2.2.2.2.2.2.1, Mz.2.2.2.2.2.2.2.2.2.2, if iI (w : Int) = (0 : Int32) then v1 else v2) ∧ MJ Mz ∧
      X5_findBare_L18 K5 (rn 6 u) (rn 6 hd) (rn 7 k) (rn 7 f) (rn 7 g) (rn 7 l) (iI sh) 0 (iI (fI 6)) n x (rn 6 t) (rn 7 i) (iI co) (iI d) (-9) (-9) = K5 (rn 6 t1) (rn 7 i1) (iI co1) (iI d1) v1 v2 := by
  intro r
  induction r with
  | zero =>
    intro s n D x t i co d hx hs hn hX hD
    obtain ⟨m, rfl⟩ : ∃ m, n = m + 1 := ⟨n - 1, by omega⟩
    subst hx
    have q : (60 : Int32) < iI (s : Int) := by rw [L60]; exact tlt (by omega) (by omega) (by omega)
    rw [X4_bare_L23, X5_findBare_L18, if_pos q, if_pos q]
    obtain ⟨Mz, e1, k1⟩ := exb (R := R) (v := (-9 : Int32)) (b1 := iI (sh : Int)) (b2 := iI (mk i : Int)) (b3 := iI (co : Int)) (b4 := iI (d : Int)) (show MJ (rn 6 t, rn 6 u, rn 6 hd, rn 7 k, rn 7 f, rn 7 g, rn 7 l, iI (sh : Int), iI (mk i : Int), iI (co : Int), iI (d : Int)) from ⟨rn_len, rn_len, rn_len, rn_len, rn_len, rn_len, rn_len⟩)
    exact ⟨Mz, -9, -9, t, i, co, d, by rw [e1]; split <;> rfl, k1, rfl⟩
  | succ r ih =>
    intro s n D x t i co d hx hs hn hX hD
    obtain ⟨m, rfl⟩ : ∃ m, n = m + 1 := ⟨n - 1, by omega⟩
    obtain ⟨m, rfl⟩ : ∃ j, m = j + 1 := ⟨m - 1, by omega⟩
    subst hx
    have q : ¬ (60 : Int32) < iI (s : Int) := by rw [L60]; exact flt (by omega) (by omega) (by omega)
    have hz := dayX_ok (e := (u, hd, k, f, g, l)) (sh := sh) (b := 0) (fr := 6) hX
    have w0 := s_X0_passDay (b := 0) hE hsh (by omega) (hX.mono (show D ≤ 2000 by omega))
    have w1 := s_X5_goesDay (b := 0) (fr := 6) (by omega) hE hsh (by omega) (hX.mono (show D ≤ 2000 by omega))
    rw [z00] at w0 w1
    have hb := fb_b (t := t) 6 0
    rw [X4_bare_L23, X5_findBare_L18, if_neg q, if_neg q, if_neg nz9, show X0_firstBare (rn 6 t) = some (iI (fb t 6 0)) from l_firstBare (xT hX) 6 0 1000 0 (by decide) (by omega) (by omega), Option.bind_some, l_bareGood (xT hX) _ 6 1000 5 (-9) (by decide) (show (-9 : Int32) = iI (-9) from e9.symm) (by omega) (by omega)]
    rcases hb with hb | hb
    · rw [hb, if_pos e9, if_pos (show iI (-9) < (0 : Int32) by decide), w0, Option.bind_some, w1, Option.bind_some]
      exact ih (s + 1) (m + 1) (D + 1) _ _ _ _ _ (iI_s s) (by omega) (by omega) hz (by omega)
    · rw [if_neg (n9 (by omega) (by omega)), if_neg (m9 (by omega) (by omega)), w1, Option.bind_some, X5_findBare_L18]
      obtain ⟨Mz, e1, k1⟩ := exb (R := R) (v := if iI (w : Int) = (0 : Int32) then iI (fb t 6 0) else iI (s : Int)) (b1 := iI (sh : Int)) (b2 := iI (mk i : Int)) (b3 := iI (co : Int)) (b4 := iI (d : Int)) (show MJ (rn 6 t, rn 6 u, rn 6 hd, rn 7 k, rn 7 f, rn 7 g, rn 7 l, iI (sh : Int), iI (mk i : Int), iI (co : Int), iI (d : Int)) from ⟨rn_len, rn_len, rn_len, rn_len, rn_len, rn_len, rn_len⟩)
      refine ⟨Mz, iI (fb t 6 0), iI (s : Int), (dayX (u, hd, k, f, g, l) sh 0 6 (t, i, co, d)).1, (dayX (u, hd, k, f, g, l) sh 0 6 (t, i, co, d)).2.1, (dayX (u, hd, k, f, g, l) sh 0 6 (t, i, co, d)).2.2.1, (dayX (u, hd, k, f, g, l) sh 0 6 (t, i, co, d)).2.2.2, ?_, k1, ?_⟩
      · rw [← e1]
        split <;> rfl
      · rw [if_pos (p9 (by omega) (by omega))]
        split <;> rfl
set_option maxRecDepth 20000 in
set_option maxHeartbeats 400000 in
theorem op_bare {A1 A2 A3 A4 A5 A6 A7 : List Int32} {a1 a2 a3 a4 : Int32} {u hd k f g l t i : Nat → Nat} {sh co d : Nat} {R : List Int32} {F : Nat → Int32} {z1 z2 z3 z4 p : Int32} (hM : MJ (A1, A2, A3, A4, A5, A6, A7, a1, a2, a3, a4)) (hE : OkE (u, hd, k, f, g, l)) (hsh : sh ≤ 7) (hX : OkX 1000 (t, i, co, d)) (hR : R.length = 7) :
    ∃ (R1 : List Int32) (Mz : Hs) (F1 : Nat → Int32) (y1 y2 y3 y4 r : Int32), X4_bare R A1 A2 A3 A4 A5 A6 A7 (rn 6 t) (rn 6 u) (rn 6 hd) (rn 7 k) (rn 7 f) (rn 7 g) (rn 7 l) a1 a2 a3 a4 (iI sh) (iI (mk i)) (iI co) (iI d) p = some (R1, Mz.1, Mz.2.1, Mz.2.2.1, Mz.2.2.2.1, Mz.2.2.2.2.1, Mz.2.2.2.2.2.1, Mz.2.2.2.2.2.2.1, Mz.2.2.2.2.2.2.2.1, Mz.2.2.2.2.2.2.2.2.1, Mz.2.2.2.2.2.2.2.2.2.1, Mz.2.2.2.2.2.2.2.2.2.2, r) ∧ X5_bare R (rn 6 t) (rn 6 u) (rn 6 hd) (rn 7 k) (rn 7 f) (rn 7 g) (rn 7 l) (rn 7 i) (rq 616 F) (iI sh) (iI co) (iI d) 0 z1 z2 (-9) z3 z4 p = some (R1, rn 6 t, rn 6 u, rn 6 hd, rn 7 k, rn 7 f, rn 7 g, rn 7 l, rn 7 i, rq 616 F1, iI sh, iI co, iI d, y1, y2, y3, y4, r) ∧ MJ Mz ∧ Kp F F1 ∧ R1.length = 7 := by
  have h2 := s_refuse (R := R) (c := 2) hR (by omega) (by omega)
  unfold X4_bare X5_bare
  rcases what_cases (hi := 1) (by omega) p with ⟨w, hw1, rfl, g1, g2, g3⟩ | ⟨g1, g3⟩ | ⟨g1, g2, g3⟩
  · unfold X5_findBare
    obtain ⟨Mz, v1, v2, t1, i1, co1, d1, e1, k1, e2⟩ := l_bare (R := R) (w := w) hE hsh (fun there_10 inn_11 coughs_12 day_13 bareGood_14 bareWhen_15 => (X5_forgets there_10 (rn 6 u) (rn 6 hd) (rn 7 k) (rn 7 f) (rn 7 g) (rn 7 l) inn_11 (rq 616 (put F 112 56 (flat (u, hd, k, f, g, l) sh (t, i, co, d)))) (iI sh) coughs_12 day_13 1 (iI 168)).bind fun u_16 => some (u_16.1, u_16.2.1, u_16.2.2.1, u_16.2.2.2.1, u_16.2.2.2.2.1, u_16.2.2.2.2.2.1, u_16.2.2.2.2.2.2.1, u_16.2.2.2.2.2.2.2.1, u_16.2.2.2.2.2.2.2.2.1, u_16.2.2.2.2.2.2.2.2.2.1, u_16.2.2.2.2.2.2.2.2.2.2.1, u_16.2.2.2.2.2.2.2.2.2.2.2.1, u_16.2.2.2.2.2.2.2.2.2.2.2.2.1, u_16.2.2.2.2.2.2.2.2.2.2.2.2.2, bareGood_14, bareWhen_15)) 61 0 1000 1000 0 t i co d (by decide) (by omega) (by omega) hX (by omega)
    rw [s_forgetsN, Option.bind_some] at e2
    rw [if_neg g1, if_pos (show iI (w : Int) ≤ (1 : Int32) from g2), show X5_isIn (iI (w : Int)) 0 1 = some 1 from g3, Option.bind_some, if_neg c10, s_X4_fromNow hM, Option.bind_some, e1, s_thinks, Option.bind_some, show X5_findBare_L18 _ (rn 6 u) (rn 6 hd) (rn 7 k) (rn 7 f) (rn 7 g) (rn 7 l) (iI sh) 0 (-9) 1000 0 (rn 6 t) (rn 7 i) (iI co) (iI d) (-9) (-9) = _ from e2, Option.bind_some]
    by_cases cw : iI (w : Int) = (0 : Int32)
    · rw [if_pos cw, if_pos cw]
      exact ⟨R, Mz, _, _, _, v1, v2, v1, rfl, rfl, k1, Kp.put2, hR⟩
    · rw [if_neg cw, if_neg cw]
      exact ⟨R, Mz, _, _, _, v1, v2, v2, rfl, rfl, k1, Kp.put2, hR⟩
  · rw [if_pos g1, show X5_isIn p 0 1 = some 0 from g3, Option.bind_some, if_pos rfl, m2, h2.1, h2.2, Option.bind_some, Option.bind_some]
    exact exo2 hM Kp.rf (incR_len.trans hR)
  · rw [if_neg g1, if_neg (show ¬ p ≤ (1 : Int32) from g2), show X5_isIn p 0 1 = some 0 from g3, Option.bind_some, if_pos rfl, m2, h2.1, h2.2, Option.bind_some, Option.bind_some]
    exact exo2 hM Kp.rf (incR_len.trans hR)
/-! FILLED -/
set_option maxRecDepth 20000 in
set_option maxHeartbeats 400000 in
theorem l_filled {u hd k f g l i : Nat → Nat} {sh d : Nat} (hE : OkE (u, hd, k, f, g, l)) (hsh : sh ≤ 7) (hi : ∀ j, i j ≤ 1) (K5 : Int32 → List Int32 → Int32 → Option (List Int32 × List Int32 × List Int32 × List Int32 × List Int32 × List Int32 × List Int32 × List Int32 × List Int32 × Int32 × Int32 × Int32 × Int32 × Int32 × Int32)) : ∀ (r s n c : Nat) (x y z : Int32) (t i1 : Nat → Nat) (co : Nat), x = iI (s : Int) → y = iI (c : Int) → z = (if allk (lk 6 u t) = 0 then iI (c : Int) else -9) → s + r = sh → r < n → c ≤ s → OkY (t, i1, co) → (∀ j, s ≤ j → i1 j = i j) →
    ∃ (Mz : Hs) (v : Int32) (t1 : Nat → Nat) (co1 : Nat), X4_filled_L9 (fun y2_9 m_there_10 m_inn_11 m_coughs_12 => (X0_lackOfAll m_there_10 (rn 6 u)).bind fun u_13 => if u_13 = 0 then some (m_there_10, rn 6 u, rn 6 hd, rn 7 k, rn 7 f, rn 7 g, rn 7 l, iI (sh : Int), m_inn_11, m_coughs_12, iI (d : Int), y2_9) else some (m_there_10, rn 6 u, rn 6 hd, rn 7 k, rn 7 f, rn 7 g, rn 7 l, iI (sh : Int), m_inn_11, m_coughs_12, iI (d : Int), (-9 : Int32))) (rn 6 u) (rn 7 k) (rn 7 g) (rn 7 l) (iI sh) n y x (rn 6 t) (iI (mk i1)) (iI co) = some (Mz.1, Mz.2.1, Mz.2.2.1, Mz.2.2.2.1, Mz.2.2.2.2.1, Mz.2.2.2.2.2.1, Mz.2.2.2.2.2.2.1, Mz.2.2.2.2.2.2.2.1, Mz.2.2.2.2.2.2.2.2.1, Mz.2.2.2.2.2.2.2.2.2.1, Mz.2.2.2.2.2.2.2.2.2.2, v) ∧ MJ Mz ∧
      X5_filled_L22 K5 (rn 6 u) (rn 7 k) (rn 7 g) (rn 7 l) (rn 7 i) (iI sh) (iI (fI 6)) n y z x (rn 6 t) (iI co) = K5 v (rn 6 t1) (iI co1) := by
  intro r
  induction r with
  | zero =>
    intro s n c x y z t i1 co hx hy hz hs hn hc hY hj
    obtain ⟨m, rfl⟩ : ∃ m, n = m + 1 := ⟨n - 1, by omega⟩
    subst hx; subst hy; subst hz
    have q : iI (sh : Int) ≤ iI (s : Int) := tle (by omega) (by omega) (by omega)
    have ht := yT hY
    have bl : allk (lk 6 u t) ≤ 378 := by
      have l0 := lk_le (fr := 6) (t := t) (oU hE) 0
      have l1 := lk_le (fr := 6) (t := t) (oU hE) 1
      have l2 := lk_le (fr := 6) (t := t) (oU hE) 2
      have l3 := lk_le (fr := 6) (t := t) (oU hE) 3
      have l4 := lk_le (fr := 6) (t := t) (oU hE) 4
      have l5 := lk_le (fr := 6) (t := t) (oU hE) 5
      unfold allk
      omega
    rw [X4_filled_L9, X5_filled_L22, if_pos q, if_pos q, s_X0_lackOfAll (oU hE) ht, Option.bind_some]
    by_cases c0 : allk (lk 6 u t) = 0
    · rw [if_pos (show iI (allk (lk 6 u t) : Int) = (0 : Int32) by rw [c0]; decide), if_pos c0]
      obtain ⟨Mz, e, k1⟩ := exM2 (r := iI (c : Int)) (b1 := iI (sh : Int)) (b2 := iI (mk i1 : Int)) (b3 := iI (co : Int)) (b4 := iI (d : Int)) (show MJ (rn 6 t, rn 6 u, rn 6 hd, rn 7 k, rn 7 f, rn 7 g, rn 7 l, iI (sh : Int), iI (mk i1 : Int), iI (co : Int), iI (d : Int)) from ⟨rn_len, rn_len, rn_len, rn_len, rn_len, rn_len, rn_len⟩)
      exact ⟨Mz, _, t, co, e, k1, rfl⟩
    · rw [if_neg (show ¬ iI (allk (lk 6 u t) : Int) = (0 : Int32) from ne0 (by omega) (by omega)), if_neg c0]
      obtain ⟨Mz, e, k1⟩ := exM2 (r := (-9 : Int32)) (b1 := iI (sh : Int)) (b2 := iI (mk i1 : Int)) (b3 := iI (co : Int)) (b4 := iI (d : Int)) (show MJ (rn 6 t, rn 6 u, rn 6 hd, rn 7 k, rn 7 f, rn 7 g, rn 7 l, iI (sh : Int), iI (mk i1 : Int), iI (co : Int), iI (d : Int)) from ⟨rn_len, rn_len, rn_len, rn_len, rn_len, rn_len, rn_len⟩)
      exact ⟨Mz, _, t, co, e, k1, rfl⟩
  | succ r ih =>
    intro s n c x y z t i1 co hx hy hz hs hn hc hY hj
    obtain ⟨m, rfl⟩ : ∃ m, n = m + 1 := ⟨n - 1, by omega⟩
    subst hx; subst hy; subst hz
    have q : ¬ iI (sh : Int) ≤ iI (s : Int) := fle (by omega) (by omega) (by omega)
    have ht := yT hY
    have hi1 := yI hY
    have hco := yC hY
    have bl : allk (lk 6 u t) ≤ 378 := by
      have l0 := lk_le (fr := 6) (t := t) (oU hE) 0
      have l1 := lk_le (fr := 6) (t := t) (oU hE) 1
      have l2 := lk_le (fr := 6) (t := t) (oU hE) 2
      have l3 := lk_le (fr := 6) (t := t) (oU hE) 3
      have l4 := lk_le (fr := 6) (t := t) (oU hE) 4
      have l5 := lk_le (fr := 6) (t := t) (oU hE) 5
      unfold allk
      omega
    rw [X4_filled_L9, X5_filled_L22, if_neg q, if_neg q, s_X0_lackOfAll (oU hE) ht, Option.bind_some]
    by_cases c0 : allk (lk 6 u t) = 0
    · rw [if_pos (show iI (allk (lk 6 u t) : Int) ≤ (0 : Int32) by rw [c0]; decide), if_pos c0, if_pos (p9 (by omega) (by omega)), Option.bind_some, if_pos (show iI (allk (lk 6 u t) : Int) = (0 : Int32) by rw [c0]; decide)]
      obtain ⟨Mz, e, k1⟩ := exM2 (r := iI (c : Int)) (b1 := iI (sh : Int)) (b2 := iI (mk i1 : Int)) (b3 := iI (co : Int)) (b4 := iI (d : Int)) (show MJ (rn 6 t, rn 6 u, rn 6 hd, rn 7 k, rn 7 f, rn 7 g, rn 7 l, iI (sh : Int), iI (mk i1 : Int), iI (co : Int), iI (d : Int)) from ⟨rn_len, rn_len, rn_len, rn_len, rn_len, rn_len, rn_len⟩)
      exact ⟨Mz, _, t, co, e, k1, rfl⟩
    · have b1 := hi1 s
      rw [if_neg (show ¬ iI (allk (lk 6 u t) : Int) ≤ (0 : Int32) by rw [L0]; exact fle (by omega) (by omega) (by omega)), if_neg c0, if_neg nz9, s_X0_isIn hi1 (by omega) (by omega), Option.bind_some, rd_rn (f := i) (by omega) (by omega) (by omega), Option.bind_some, Int.toNat_natCast, ← hj s (Nat.le_refl _)]
      by_cases c1 : i1 s = 0
      · have hl := s_X0_letIn (a := (s : Int)) ht (oK hE) (oG hE) (oL hE) hi1 hco (by omega) (by omega) (by rw [Int.toNat_natCast]; exact c1)
        have hm := s_X5_bringsAll (a := (s : Int)) ht (oK hE) (oG hE) (oL hE) hco (by omega) (by omega)
        rw [Int.toNat_natCast] at hl hm
        have ht2 : ∀ j, tin t (k s) (g s) (l s) j ≤ 99 := fun j => tin_le
        have hY2 : OkY (tin t (k s) (g s) (l s), upN i1 s 1, if k s = 3 then co - 9 else co) := ⟨ht2, fun j => upN_le hi1 (Nat.le_refl _) j, ite_le (by omega) hco⟩
        have hj2 : ∀ j, s + 1 ≤ j → upN i1 s 1 j = i j := fun j h => by unfold upN; rw [if_neg (by omega)]; exact hj j (by omega)
        rw [if_pos (show iI (i1 s : Int) = (0 : Int32) by rw [c1]; decide), if_neg (show ¬ iI (i1 s : Int) = (1 : Int32) by rw [c1]; decide), hl, Option.bind_some, hm, Option.bind_some, s_X5_allLack (by omega) (oU hE) ht2, Option.bind_some]
        have bl2 : allk (lk 6 u (tin t (k s) (g s) (l s))) ≤ 378 := by
          have l0 := lk_le (fr := 6) (t := tin t (k s) (g s) (l s)) (oU hE) 0
          have l1 := lk_le (fr := 6) (t := tin t (k s) (g s) (l s)) (oU hE) 1
          have l2 := lk_le (fr := 6) (t := tin t (k s) (g s) (l s)) (oU hE) 2
          have l3 := lk_le (fr := 6) (t := tin t (k s) (g s) (l s)) (oU hE) 3
          have l4 := lk_le (fr := 6) (t := tin t (k s) (g s) (l s)) (oU hE) 4
          have l5 := lk_le (fr := 6) (t := tin t (k s) (g s) (l s)) (oU hE) 5
          unfold allk
          omega
        by_cases c2 : allk (lk 6 u (tin t (k s) (g s) (l s))) = 0
        · rw [if_pos (show iI (allk (lk 6 u (tin t (k s) (g s) (l s))) : Int) = (0 : Int32) by rw [c2]; decide)]
          exact ih (s + 1) m (c + 1) _ _ _ _ _ _ (iI_s s) (iI_s c) (by rw [if_pos c2, iI_s]) (by omega) (by omega) (by omega) hY2 hj2
        · rw [if_neg (show ¬ iI (allk (lk 6 u (tin t (k s) (g s) (l s))) : Int) = (0 : Int32) from ne0 (by omega) (by omega))]
          exact ih (s + 1) m (c + 1) _ _ _ _ _ _ (iI_s s) (iI_s c) (by rw [if_neg c2]) (by omega) (by omega) (by omega) hY2 hj2
      · rw [if_neg (show ¬ iI (i1 s : Int) = (0 : Int32) from ne0 (by omega) (by omega)), if_pos (show iI (i1 s : Int) = (1 : Int32) by rw [show i1 s = 1 by omega]; decide)]
        exact ih (s + 1) m c _ _ _ _ _ _ (iI_s s) rfl (by rw [if_neg c0]) (by omega) (by omega) (by omega) hY (fun j h => hj j (by omega))
set_option maxRecDepth 20000 in
set_option maxHeartbeats 400000 in
theorem op_filled {A1 A2 A3 A4 A5 A6 A7 : List Int32} {a1 a2 a3 a4 : Int32} {u hd k f g l t i : Nat → Nat} {sh co d : Nat} {F : Nat → Int32} {z1 z2 : Int32} (hM : MJ (A1, A2, A3, A4, A5, A6, A7, a1, a2, a3, a4)) (hE : OkE (u, hd, k, f, g, l)) (hsh : sh ≤ 7) (hX : OkX 1000 (t, i, co, d)) :
    ∃ (Mz : Hs) (F1 : Nat → Int32) (y1 y2 r : Int32), X4_filled A1 A2 A3 A4 A5 A6 A7 (rn 6 t) (rn 6 u) (rn 6 hd) (rn 7 k) (rn 7 f) (rn 7 g) (rn 7 l) a1 a2 a3 a4 (iI sh) (iI (mk i)) (iI co) (iI d) = some (Mz.1, Mz.2.1, Mz.2.2.1, Mz.2.2.2.1, Mz.2.2.2.2.1, Mz.2.2.2.2.2.1, Mz.2.2.2.2.2.2.1, Mz.2.2.2.2.2.2.2.1, Mz.2.2.2.2.2.2.2.2.1, Mz.2.2.2.2.2.2.2.2.2.1, Mz.2.2.2.2.2.2.2.2.2.2, r) ∧ X5_filled (rn 6 t) (rn 6 u) (rn 6 hd) (rn 7 k) (rn 7 f) (rn 7 g) (rn 7 l) (rn 7 i) (rq 616 F) (iI sh) (iI co) (iI d) z1 z2 (-9) = some (rn 6 t, rn 6 u, rn 6 hd, rn 7 k, rn 7 f, rn 7 g, rn 7 l, rn 7 i, rq 616 F1, iI sh, iI co, iI d, y1, y2, r) ∧ MJ Mz ∧ Kp F F1 := by
  have bl : allk (lk 6 u t) ≤ 378 := by
    have l0 := lk_le (fr := 6) (t := t) (oU hE) 0
    have l1 := lk_le (fr := 6) (t := t) (oU hE) 1
    have l2 := lk_le (fr := 6) (t := t) (oU hE) 2
    have l3 := lk_le (fr := 6) (t := t) (oU hE) 3
    have l4 := lk_le (fr := 6) (t := t) (oU hE) 4
    have l5 := lk_le (fr := 6) (t := t) (oU hE) 5
    unfold allk
    omega
  unfold X4_filled X5_filled
  rw [s_X4_fromNow hM, Option.bind_some, s_thinks, Option.bind_some, f9, s_X5_allLack (by omega) (oU hE) (xT hX), Option.bind_some]
  obtain ⟨Mz, v, t1, co1, e1, k1, e2⟩ := l_filled (i := i) (d := d) hE hsh (xI hX) (fun y2_16 there_17 coughs_18 => (X5_forgets there_17 (rn 6 u) (rn 6 hd) (rn 7 k) (rn 7 f) (rn 7 g) (rn 7 l) (rn 7 i) (rq 616 (put F 112 56 (flat (u, hd, k, f, g, l) sh (t, i, co, d)))) (iI sh) coughs_18 (iI d) 1 (iI 168)).bind fun u_19 => some (u_19.1, u_19.2.1, u_19.2.2.1, u_19.2.2.2.1, u_19.2.2.2.2.1, u_19.2.2.2.2.2.1, u_19.2.2.2.2.2.2.1, u_19.2.2.2.2.2.2.2.1, u_19.2.2.2.2.2.2.2.2.1, u_19.2.2.2.2.2.2.2.2.2.1, u_19.2.2.2.2.2.2.2.2.2.2.1, u_19.2.2.2.2.2.2.2.2.2.2.2.1, u_19.2.2.2.2.2.2.2.2.2.2.2.2.1, u_19.2.2.2.2.2.2.2.2.2.2.2.2.2, y2_16)) sh 0 1000 0 0 0 _ t i co (by decide) (by decide) rfl (by omega) (by omega) (by omega) ⟨hX.1, hX.2.1, hX.2.2.1⟩ (fun _ _ => rfl)
  rw [s_forgetsN, Option.bind_some] at e2
  rw [f9] at e1 e2
  rw [e1]
  by_cases c0 : allk (lk 6 u t) = 0
  · rw [if_pos c0, z00] at e2
    rw [if_pos (show iI (allk (lk 6 u t) : Int) = (0 : Int32) by rw [c0]; decide), e2]
    exact ⟨Mz, _, _, _, _, rfl, rfl, k1, Kp.put2⟩
  · rw [if_neg c0] at e2
    rw [if_neg (show ¬ iI (allk (lk 6 u t) : Int) = (0 : Int32) from ne0 (by omega) (by omega)), e2]
    exact ⟨Mz, _, _, _, _, rfl, rfl, k1, Kp.put2⟩
