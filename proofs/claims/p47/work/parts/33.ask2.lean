/-! BARE, DEEPEST, FILLED, RACE, and what is told at once -/
set_option maxRecDepth 20000 in
set_option maxHeartbeats 400000 in
theorem wl (w : Nat) (hw : w ≤ 1) : ¬ iI (w : Int) < (0 : Int32) ∧ iI (w : Int) ≤ (1 : Int32) := by
  rcases (by omega : w = 0 ∨ w = 1) with rfl | rfl <;> decide
/-- what is bare first, and when -/
def bX (e : Env) (sh : Nat) : Nat → Nat → XX → Int × Int
  | 0, _, _ => (-9, -9)
  | r + 1, n, x => if fb x.1 6 0 = -9 then bX e sh r (n + 1) (dayX e sh 0 6 x) else (fb x.1 6 0, (n : Int))
set_option maxRecDepth 20000 in
set_option maxHeartbeats 400000 in
theorem l_bare {u hd k f g l : Nat → Nat} {R : List Int32} {sh w : Nat} (hE : OkE (u, hd, k, f, g, l)) (hsh : sh ≤ 7) : ∀ (r s n D : Nat) (x : Int32) (t i : Nat → Nat) (co d : Nat), x = iI (s : Int) → s + r = 61 → r + 1 < n → OkX D (t, i, co, d) → D + r ≤ 2000 →
    ∃ Mz : Hs, X4_bare_L23 (fun m_there_9 m_inn_10 m_coughs_11 m_day_12 => some (R, m_there_9, rn 6 u, rn 6 hd, rn 7 k, rn 7 f, rn 7 g, rn 7 l, iI (sh : Int), m_inn_10, m_coughs_11, m_day_12, (-9 : Int32))) R (rn 6 u) (rn 6 hd) (rn 7 k) (rn 7 f) (rn 7 g) (rn 7 l) (iI sh) (iI (w : Int)) n x (rn 6 t) (iI (mk i)) (iI co) (iI d) = some (R, Mz.1, Mz.2.1, Mz.2.2.1, Mz.2.2.2.1, Mz.2.2.2.2.1, Mz.2.2.2.2.2.1, Mz.2.2.2.2.2.2.1, Mz.2.2.2.2.2.2.2.1, Mz.2.2.2.2.2.2.2.2.1, Mz.2.2.2.2.2.2.2.2.2.1, Mz.2.2.2.2.2.2.2.2.2.2, if iI (w : Int) = (0 : Int32) then iI (bX (u, hd, k, f, g, l) sh r s (t, i, co, d)).1 else iI (bX (u, hd, k, f, g, l) sh r s (t, i, co, d)).2) ∧ MJ Mz := by
  intro r
  induction r with
  | zero =>
    intro s n D x t i co d hx hs hn hX hD
    obtain ⟨m, rfl⟩ : ∃ m, n = m + 1 := ⟨n - 1, by omega⟩
    subst hx
    have q : (60 : Int32) < iI (s : Int) := by rw [L60]; exact tlt (by omega) (by omega) (by omega)
    rw [X4_bare_L23, if_pos q]
    obtain ⟨Mz, e1, k1⟩ := exR (R := R) (v := (-9 : Int32)) (b1 := iI (sh : Int)) (b2 := iI (mk i : Int)) (b3 := iI (co : Int)) (b4 := iI (d : Int)) (show MJ (rn 6 t, rn 6 u, rn 6 hd, rn 7 k, rn 7 f, rn 7 g, rn 7 l, iI (sh : Int), iI (mk i : Int), iI (co : Int), iI (d : Int)) from ⟨rn_len, rn_len, rn_len, rn_len, rn_len, rn_len, rn_len⟩)
    refine ⟨Mz, ?_, k1⟩
    rw [e1]
    unfold bX
    split <;> rfl
  | succ r ih =>
    intro s n D x t i co d hx hs hn hX hD
    obtain ⟨m, rfl⟩ : ∃ m, n = m + 1 := ⟨n - 1, by omega⟩
    obtain ⟨m, rfl⟩ : ∃ j, m = j + 1 := ⟨m - 1, by omega⟩
    subst hx
    have q : ¬ (60 : Int32) < iI (s : Int) := by rw [L60]; exact flt (by omega) (by omega) (by omega)
    have hz := dayX_ok (e := (u, hd, k, f, g, l)) (sh := sh) (b := 0) (fr := 6) hX
    have w0 := s_X0_passDay (b := 0) hE hsh (by omega) (hX.mono (show D ≤ 2000 by omega))
    rw [z00] at w0
    have hb := fb_b (t := t) 6 0
    rw [X4_bare_L23, if_neg q, show X0_firstBare (rn 6 t) = some (iI (fb t 6 0)) from l_firstBare (xT hX) 6 0 1000 0 (by decide) (by omega) (by omega), Option.bind_some]
    unfold bX
    rcases hb with hb | hb
    · rw [hb, if_pos e9, if_pos (show (-9 : Int) = -9 from rfl), w0, Option.bind_some]
      exact ih (s + 1) (m + 1) (D + 1) _ _ _ _ _ (iI_s s) (by omega) (by omega) hz (by omega)
    · rw [if_neg (n9 (by omega) (by omega)), if_neg (show ¬ fb (t, i, co, d).1 6 0 = -9 from by show ¬ fb t 6 0 = -9; omega)]
      obtain ⟨Mz, e1, k1⟩ := exR (R := R) (v := if iI (w : Int) = (0 : Int32) then iI (fb t 6 0) else iI (s : Int)) (b1 := iI (sh : Int)) (b2 := iI (mk i : Int)) (b3 := iI (co : Int)) (b4 := iI (d : Int)) (show MJ (rn 6 t, rn 6 u, rn 6 hd, rn 7 k, rn 7 f, rn 7 g, rn 7 l, iI (sh : Int), iI (mk i : Int), iI (co : Int), iI (d : Int)) from ⟨rn_len, rn_len, rn_len, rn_len, rn_len, rn_len, rn_len⟩)
      refine ⟨Mz, ?_, k1⟩
      show _ = some (R, Mz.1, Mz.2.1, Mz.2.2.1, Mz.2.2.2.1, Mz.2.2.2.2.1, Mz.2.2.2.2.2.1, Mz.2.2.2.2.2.2.1, Mz.2.2.2.2.2.2.2.1, Mz.2.2.2.2.2.2.2.2.1, Mz.2.2.2.2.2.2.2.2.2.1, Mz.2.2.2.2.2.2.2.2.2.2, if iI (w : Int) = (0 : Int32) then iI (fb t 6 0) else iI (s : Int))
      rw [← e1]
      split <;> rfl
set_option maxRecDepth 20000 in
set_option maxHeartbeats 400000 in
theorem bX_spec {e : Env} {sh : Nat} : ∀ (r n : Nat) (x : XX), ((bX e sh r n x).1 = -9) ∨ (∃ a w : Nat, a < 6 ∧ w < r ∧ (bX e sh r n x).1 = (a : Int) ∧ (bX e sh r n x).2 = ((n + w : Nat) : Int) ∧ (daysX e sh 0 6 w x).1 a = 0) := by
  have key : ∀ (t : Nat → Nat) (r s : Nat), fb t r s = -9 ∨ (∃ a : Nat, s ≤ a ∧ a < s + r ∧ fb t r s = (a : Int) ∧ t a = 0) := by
    intro t r
    induction r with
    | zero => intro s; exact Or.inl rfl
    | succ r ih =>
      intro s
      unfold fb
      by_cases c : t s = 0
      · rw [if_pos c]; exact Or.inr ⟨s, Nat.le_refl _, by omega, rfl, c⟩
      · rw [if_neg c]
        rcases ih (s + 1) with h | ⟨a, h1, h2, h3, h4⟩
        · exact Or.inl h
        · exact Or.inr ⟨a, by omega, by omega, h3, h4⟩
  intro r
  induction r with
  | zero => intro n x; exact Or.inl rfl
  | succ r ih =>
    intro n x
    unfold bX
    by_cases c : fb x.1 6 0 = -9
    · rw [if_pos c]
      rcases ih (n + 1) (dayX e sh 0 6 x) with h | ⟨a, w, h1, h2, h3, h4, h5⟩
      · exact Or.inl h
      · exact Or.inr ⟨a, w + 1, h1, by omega, h3, by rw [h4]; exact congrArg Int.ofNat (by omega), h5⟩
    · rw [if_neg c]
      rcases key x.1 6 0 with h | ⟨a, h1, h2, h3, h4⟩
      · exact absurd h c
      · exact Or.inr ⟨a, 0, by omega, by omega, h3, rfl, h4⟩
set_option maxRecDepth 20000 in
set_option maxHeartbeats 400000 in
theorem q_bare {A1 A2 A3 A4 A5 A6 A7 : List Int32} {a1 a2 a3 a4 : Int32} {u hd k f g l t i : Nat → Nat} {sh co d : Nat} {R : List Int32} {w : Nat} (hM : MJ (A1, A2, A3, A4, A5, A6, A7, a1, a2, a3, a4)) (hS : OkS ((u, hd, k, f, g, l), sh, (t, i, co, d))) (hw : w ≤ 1) : ∃ Mz : Hs, X4_bare R A1 A2 A3 A4 A5 A6 A7 (rn 6 t) (rn 6 u) (rn 6 hd) (rn 7 k) (rn 7 f) (rn 7 g) (rn 7 l) a1 a2 a3 a4 (iI sh) (iI (mk i)) (iI co) (iI d) (iI w) = some (R, Mz.1, Mz.2.1, Mz.2.2.1, Mz.2.2.2.1, Mz.2.2.2.2.1, Mz.2.2.2.2.2.1, Mz.2.2.2.2.2.2.1, Mz.2.2.2.2.2.2.2.1, Mz.2.2.2.2.2.2.2.2.1, Mz.2.2.2.2.2.2.2.2.2.1, Mz.2.2.2.2.2.2.2.2.2.2, if iI (w : Int) = (0 : Int32) then iI (bX (u, hd, k, f, g, l) sh 61 0 (t, i, co, d)).1 else iI (bX (u, hd, k, f, g, l) sh 61 0 (t, i, co, d)).2) ∧ MJ Mz := by
  have hE : OkE (u, hd, k, f, g, l) := sE hS
  have hsh : sh ≤ 7 := sSh hS
  have hX9 : OkX 999 (t, i, co, d) := sX hS
  have h := wl w hw
  unfold X4_bare
  rw [if_neg h.1, if_pos h.2, s_X4_fromNow hM, Option.bind_some]
  exact l_bare hE hsh 61 0 1000 999 0 t i co d (by decide) (by omega) (by omega) hX9 (by omega)
/-- the good that is lacked most, r of them from s on, ahead of those the b-th -/
def shG (L : Nat → Nat) : Nat → Nat → Nat → Nat
  | 0, _, b => b
  | r + 1, s, b => if L s ≤ L b then shG L r (s + 1) b else shG L r (s + 1) s
set_option maxRecDepth 20000 in
set_option maxHeartbeats 400000 in
theorem l_shortest {u t : Nat → Nat} (hu : ∀ j, u j ≤ 9) (ht : ∀ j, t j ≤ 99) : ∀ (r s b n : Nat) (x y : Int32), x = iI (b : Int) → y = iI (s : Int) → b < 6 → s + r = 6 → r < n → X0_shortestGood_L4 (fun y1_5 => some y1_5) (rn 6 t) (rn 6 u) n x y = some (iI (shG (lk 6 u t) r s b)) := by
  intro r
  induction r with
  | zero =>
    intro s b n x y hx hy hb hs hn
    obtain ⟨n, rfl⟩ : ∃ m, n = m + 1 := ⟨n - 1, by omega⟩
    subst hx; subst hy
    rw [X0_shortestGood_L4, if_pos (by rw [L6]; exact tle (by omega) (by omega) (by omega))]
    rfl
  | succ r ih =>
    intro s b n x y hx hy hb hs hn
    obtain ⟨n, rfl⟩ : ∃ m, n = m + 1 := ⟨n - 1, by omega⟩
    subst hx; subst hy
    have b1 := lk_le (fr := 6) (t := t) hu s
    have b2 := lk_le (fr := 6) (t := t) hu b
    rw [X0_shortestGood_L4, if_neg (by rw [L6]; exact fle (by omega) (by omega) (by omega)), s_X0_lackOf hu ht (by omega) (by omega), Option.bind_some, s_X0_lackOf hu ht (by omega) (by omega), Option.bind_some, Int.toNat_natCast, Int.toNat_natCast, iI_s s]
    unfold shG
    by_cases c : lk 6 u t s ≤ lk 6 u t b
    · rw [if_pos (tle (by omega) (by omega) (by omega)), if_pos c]
      exact ih (s + 1) b n _ _ rfl rfl hb (by omega) (by omega)
    · rw [if_neg (fle (by omega) (by omega) (by omega)), if_neg c]
      exact ih (s + 1) s n _ _ rfl rfl (by omega) (by omega) (by omega)
set_option maxRecDepth 20000 in
set_option maxHeartbeats 400000 in
theorem shG_spec {L : Nat → Nat} : ∀ (r s b : Nat), b < 6 → s + r = 6 → (∀ j, j < s → L j ≤ L b) → shG L r s b < 6 ∧ ∀ j, j < 6 → L j ≤ L (shG L r s b) := by
  intro r
  induction r with
  | zero =>
    intro s b hb hs h
    exact ⟨hb, fun j hj => h j (by omega)⟩
  | succ r ih =>
    intro s b hb hs h
    unfold shG
    by_cases c : L s ≤ L b
    · rw [if_pos c]
      refine ih (s + 1) b hb (by omega) (fun j hj => ?_)
      by_cases cj : j < s
      · exact h j cj
      · rw [show j = s by omega]; exact c
    · rw [if_neg c]
      refine ih (s + 1) s (by omega) (by omega) (fun j hj => ?_)
      by_cases cj : j < s
      · have := h j cj; omega
      · rw [show j = s by omega]; exact Nat.le_refl _
set_option maxRecDepth 20000 in
set_option maxHeartbeats 400000 in
theorem q_deepest2 {u t : Nat → Nat} {R c1 c2 c3 : List Int32} {s1 : Int32} (hu : ∀ j, u j ≤ 9) (ht : ∀ j, t j ≤ 99) : ∃ v : Nat, X4_deepest R (rn 6 t) (rn 6 u) c1 c2 c3 s1 2 = some (R, iI v) ∧ v ≤ 63 ∧ ∀ j, j < 6 → lk 6 u t j ≤ v := by
  have hs := shG_spec (L := lk 6 u t) 5 1 0 (by omega) (by omega) (fun j hj => by rw [show j = 0 by omega]; exact Nat.le_refl _)
  refine ⟨lk 6 u t (shG (lk 6 u t) 5 1 0), ?_, lk_le hu _, hs.2⟩
  unfold X4_deepest X0_shortestGood
  rw [if_neg (by decide), if_neg (by decide), if_pos rfl, l_shortest hu ht 5 1 0 1000 0 1 (by decide) (by decide) (by omega) (by omega) (by omega), Option.bind_some, s_X0_lackOf hu ht (by omega) (by omega), Option.bind_some, Int.toNat_natCast]
def plV (u t : Nat → Nat) (j : Nat) : Nat := if t j ≤ 7 * u j then 0 else 1
set_option maxRecDepth 20000 in
set_option maxHeartbeats 400000 in
theorem l_plenty {u t : Nat → Nat} (hu : ∀ j, u j ≤ 9) (ht : ∀ j, t j ≤ 99) : ∀ (r s m n : Nat) (x y : Int32), x = iI (m : Int) → y = iI (s : Int) → m < 2 ^ s → s + r = 6 → r < n → X0_plenty_L4 (fun y1_5 => some y1_5) (rn 6 t) (rn 6 u) n x y = some (iI (bitsV (plV u t) r s m)) := by
  intro r
  induction r with
  | zero =>
    intro s b n x y hx hy hb hs hn
    obtain ⟨n, rfl⟩ : ∃ m, n = m + 1 := ⟨n - 1, by omega⟩
    subst hx; subst hy
    rw [X0_plenty_L4, if_pos (by rw [L6]; exact tle (by omega) (by omega) (by omega))]
    rfl
  | succ r ih =>
    intro s m n x y hx hy hb hs hn
    obtain ⟨n, rfl⟩ : ∃ m, n = m + 1 := ⟨n - 1, by omega⟩
    subst hx; subst hy
    have b1 := hu s
    have b2 := ht s
    rw [X0_plenty_L4, if_neg (by rw [L6]; exact fle (by omega) (by omega) (by omega)), rd_rn (by omega) (by omega) (by omega), Option.bind_some, rd_rn (by omega) (by omega) (by omega), Option.bind_some, Int.toNat_natCast, L7, iI_mul, iI_s s]
    unfold bitsV plV
    by_cases c : t s ≤ 7 * u s
    · rw [if_pos (tle (by omega) (by omega) (by omega)), if_pos c, if_pos rfl]
      exact ih (s + 1) m n _ _ rfl rfl (by rw [Nat.pow_succ]; omega) (by omega) (by omega)
    · rw [if_neg (fle (by omega) (by omega) (by omega)), if_neg c, if_neg (by omega), or_bit (by omega) hb]
      exact ih (s + 1) _ n _ _ rfl rfl (by rw [Nat.pow_succ]; omega) (by omega) (by omega)
set_option maxRecDepth 20000 in
set_option maxHeartbeats 400000 in
theorem q_deepest3 {u t : Nat → Nat} {R c1 c2 c3 : List Int32} {s1 : Int32} (hu : ∀ j, u j ≤ 9) (ht : ∀ j, t j ≤ 99) : X4_deepest R (rn 6 t) (rn 6 u) c1 c2 c3 s1 3 = some (R, iI (bitsV (plV u t) 6 0 0)) := by
  unfold X4_deepest X0_plenty
  rw [if_neg (by decide), if_neg (by decide), if_neg (by decide), if_pos rfl, l_plenty hu ht 6 0 0 1000 0 0 (by decide) (by decide) (by omega) (by omega) (by omega), Option.bind_some]
set_option maxRecDepth 20000 in
set_option maxHeartbeats 400000 in
theorem allk_le {u t : Nat → Nat} (hu : ∀ j, u j ≤ 9) : allk (lk 6 u t) ≤ 378 := by
  have l0 := lk_le (fr := 6) (t := t) hu 0
  have l1 := lk_le (fr := 6) (t := t) hu 1
  have l2 := lk_le (fr := 6) (t := t) hu 2
  have l3 := lk_le (fr := 6) (t := t) hu 3
  have l4 := lk_le (fr := 6) (t := t) hu 4
  have l5 := lk_le (fr := 6) (t := t) hu 5
  unfold allk
  omega
set_option maxRecDepth 20000 in
set_option maxHeartbeats 400000 in
theorem l_filled {u hd k f g l i : Nat → Nat} {sh d : Nat} (hE : OkE (u, hd, k, f, g, l)) (hsh : sh ≤ 7) (hi : ∀ j, i j ≤ 1) : ∀ (r s n c : Nat) (x y : Int32) (t i1 : Nat → Nat) (co : Nat), x = iI (s : Int) → y = iI (c : Int) → s + r = sh → r < n → c ≤ s → OkY (t, i1, co) → (∀ j, s ≤ j → i1 j = i j) →
    ∃ (Mz : Hs) (v : Int), X4_filled_L9 (fun y2_9 m_there_10 m_inn_11 m_coughs_12 => (X0_lackOfAll m_there_10 (rn 6 u)).bind fun u_13 => if u_13 = 0 then some (m_there_10, rn 6 u, rn 6 hd, rn 7 k, rn 7 f, rn 7 g, rn 7 l, iI (sh : Int), m_inn_11, m_coughs_12, iI (d : Int), y2_9) else some (m_there_10, rn 6 u, rn 6 hd, rn 7 k, rn 7 f, rn 7 g, rn 7 l, iI (sh : Int), m_inn_11, m_coughs_12, iI (d : Int), (-9 : Int32))) (rn 6 u) (rn 7 k) (rn 7 g) (rn 7 l) (iI sh) n y x (rn 6 t) (iI (mk i1)) (iI co) = some (Mz.1, Mz.2.1, Mz.2.2.1, Mz.2.2.2.1, Mz.2.2.2.2.1, Mz.2.2.2.2.2.1, Mz.2.2.2.2.2.2.1, Mz.2.2.2.2.2.2.2.1, Mz.2.2.2.2.2.2.2.2.1, Mz.2.2.2.2.2.2.2.2.2.1, Mz.2.2.2.2.2.2.2.2.2.2, iI v) ∧ MJ Mz ∧ -9 ≤ v ∧ v ≤ 7 ∧ (allk (lk 6 u t) = 0 → v = (c : Int)) ∧ (¬ allk (lk 6 u t) = 0 → v = -9 ∨ (c : Int) < v) := by
  intro r
  induction r with
  | zero =>
    intro s n c x y t i1 co hx hy hs hn hc hY hj
    obtain ⟨m, rfl⟩ : ∃ m, n = m + 1 := ⟨n - 1, by omega⟩
    subst hx; subst hy
    have q : iI (sh : Int) ≤ iI (s : Int) := tle (by omega) (by omega) (by omega)
    have ht := yT hY
    have bl := allk_le (t := t) (oU hE)
    rw [X4_filled_L9, if_pos q, s_X0_lackOfAll (oU hE) ht, Option.bind_some]
    by_cases c0 : allk (lk 6 u t) = 0
    · rw [if_pos (show iI (allk (lk 6 u t) : Int) = (0 : Int32) by rw [c0]; decide)]
      obtain ⟨Mz, e1, k1⟩ := exM2 (r := iI (c : Int)) (b1 := iI (sh : Int)) (b2 := iI (mk i1 : Int)) (b3 := iI (co : Int)) (b4 := iI (d : Int)) (show MJ (rn 6 t, rn 6 u, rn 6 hd, rn 7 k, rn 7 f, rn 7 g, rn 7 l, iI (sh : Int), iI (mk i1 : Int), iI (co : Int), iI (d : Int)) from ⟨rn_len, rn_len, rn_len, rn_len, rn_len, rn_len, rn_len⟩)
      exact ⟨Mz, c, e1, k1, by omega, by omega, fun _ => rfl, fun z => absurd c0 z⟩
    · rw [if_neg (show ¬ iI (allk (lk 6 u t) : Int) = (0 : Int32) from ne0 (by omega) (by omega)), ← e9]
      obtain ⟨Mz, e1, k1⟩ := exM2 (r := iI (-9)) (b1 := iI (sh : Int)) (b2 := iI (mk i1 : Int)) (b3 := iI (co : Int)) (b4 := iI (d : Int)) (show MJ (rn 6 t, rn 6 u, rn 6 hd, rn 7 k, rn 7 f, rn 7 g, rn 7 l, iI (sh : Int), iI (mk i1 : Int), iI (co : Int), iI (d : Int)) from ⟨rn_len, rn_len, rn_len, rn_len, rn_len, rn_len, rn_len⟩)
      exact ⟨Mz, -9, e1, k1, by omega, by omega, fun z => absurd z c0, fun _ => Or.inl rfl⟩
  | succ r ih =>
    intro s n c x y t i1 co hx hy hs hn hc hY hj
    obtain ⟨m, rfl⟩ : ∃ m, n = m + 1 := ⟨n - 1, by omega⟩
    subst hx; subst hy
    have q : ¬ iI (sh : Int) ≤ iI (s : Int) := fle (by omega) (by omega) (by omega)
    have ht := yT hY
    have bl := allk_le (t := t) (oU hE)
    have bi := hi s
    rw [X4_filled_L9, if_neg q, s_X0_lackOfAll (oU hE) ht, Option.bind_some]
    by_cases c0 : allk (lk 6 u t) = 0
    · rw [if_pos (show iI (allk (lk 6 u t) : Int) ≤ (0 : Int32) by rw [c0]; decide), Option.bind_some, if_pos (show iI (allk (lk 6 u t) : Int) = (0 : Int32) by rw [c0]; decide)]
      obtain ⟨Mz, e1, k1⟩ := exM2 (r := iI (c : Int)) (b1 := iI (sh : Int)) (b2 := iI (mk i1 : Int)) (b3 := iI (co : Int)) (b4 := iI (d : Int)) (show MJ (rn 6 t, rn 6 u, rn 6 hd, rn 7 k, rn 7 f, rn 7 g, rn 7 l, iI (sh : Int), iI (mk i1 : Int), iI (co : Int), iI (d : Int)) from ⟨rn_len, rn_len, rn_len, rn_len, rn_len, rn_len, rn_len⟩)
      exact ⟨Mz, c, e1, k1, by omega, by omega, fun _ => rfl, fun z => absurd c0 z⟩
    · rw [if_neg (show ¬ iI (allk (lk 6 u t) : Int) ≤ (0 : Int32) by rw [L0]; exact fle (by omega) (by omega) (by omega)), s_X0_isIn (yI hY) (by omega) (by omega), Option.bind_some, Int.toNat_natCast, hj s (Nat.le_refl _)]
      by_cases c1 : i s = 0
      · rw [if_pos (show iI (i s : Int) = (0 : Int32) by rw [c1]; decide), s_X0_letIn ht (oK hE) (oG hE) (oL hE) (yI hY) (yC hY) (by omega) (by omega) (by rw [Int.toNat_natCast, hj s (Nat.le_refl _)]; exact c1), Option.bind_some, Int.toNat_natCast, iI_s s, iI_s c]
        have b3 : (if k s = 3 then co - 9 else co) ≤ 99 := by have := yC hY; split <;> omega
        obtain ⟨Mz, v, e1, k1, k2, k3, k4, k5⟩ := ih (s + 1) m (c + 1) _ _ (tin t (k s) (g s) (l s)) (upN i1 s 1) _ rfl rfl (by omega) (by omega) (by omega) ⟨fun j => tin_le, fun j => upN_le (yI hY) (by omega) j, b3⟩ (fun j hj1 => by unfold upN; rw [if_neg (by omega)]; exact hj j (by omega))
        refine ⟨Mz, v, e1, k1, k2, k3, fun z => absurd z c0, fun _ => ?_⟩
        by_cases c2 : allk (lk 6 u (tin t (k s) (g s) (l s))) = 0
        · have := k4 c2
          exact Or.inr (by omega)
        · rcases k5 c2 with h | h
          · exact Or.inl h
          · exact Or.inr (by omega)
      · rw [if_neg (show ¬ iI (i s : Int) = (0 : Int32) from ne0 (by omega) (by omega)), iI_s s]
        exact ih (s + 1) m c _ _ t i1 co rfl rfl (by omega) (by omega) (by omega) hY (fun j hj1 => hj j (by omega))
set_option maxRecDepth 20000 in
set_option maxHeartbeats 400000 in
theorem q_filled {A1 A2 A3 A4 A5 A6 A7 : List Int32} {a1 a2 a3 a4 : Int32} {u hd k f g l t i : Nat → Nat} {sh co d : Nat} (hM : MJ (A1, A2, A3, A4, A5, A6, A7, a1, a2, a3, a4)) (hS : OkS ((u, hd, k, f, g, l), sh, (t, i, co, d))) : ∃ (Mz : Hs) (v : Int), X4_filled A1 A2 A3 A4 A5 A6 A7 (rn 6 t) (rn 6 u) (rn 6 hd) (rn 7 k) (rn 7 f) (rn 7 g) (rn 7 l) a1 a2 a3 a4 (iI sh) (iI (mk i)) (iI co) (iI d) = some (Mz.1, Mz.2.1, Mz.2.2.1, Mz.2.2.2.1, Mz.2.2.2.2.1, Mz.2.2.2.2.2.1, Mz.2.2.2.2.2.2.1, Mz.2.2.2.2.2.2.2.1, Mz.2.2.2.2.2.2.2.2.1, Mz.2.2.2.2.2.2.2.2.2.1, Mz.2.2.2.2.2.2.2.2.2.2, iI v) ∧ MJ Mz ∧ -9 ≤ v ∧ v ≤ 7 ∧ (v = 0 ↔ allk (lk 6 u t) = 0) := by
  have hE : OkE (u, hd, k, f, g, l) := sE hS
  have hsh : sh ≤ 7 := sSh hS
  have hX9 : OkX 999 (t, i, co, d) := sX hS
  unfold X4_filled
  rw [s_X4_fromNow hM, Option.bind_some]
  obtain ⟨Mz, v, e1, k1, k2, k3, k4, k5⟩ := l_filled (i := i) (d := d) hE hsh (xI hX9) sh 0 1000 0 0 0 t i co (by decide) (by decide) (by omega) (by omega) (by omega) ⟨xT hX9, xI hX9, xC hX9⟩ (fun _ _ => rfl)
  refine ⟨Mz, v, e1, k1, k2, k3, ?_⟩
  by_cases c : allk (lk 6 u t) = 0
  · exact ⟨fun _ => c, fun _ => k4 c⟩
  · refine ⟨fun z => ?_, fun z => absurd z c⟩
    rcases k5 c with h | h <;> omega
/-- the one of two that comes first; the lesser -/
def raV (ca cb : Int) (a b : Nat) : Int := if cb = -9 then (if ca = -9 then -9 else (a : Int)) else if ca = -9 then (b : Int) else if cb < ca then (b : Int) else (a : Int)
set_option maxRecDepth 20000 in
set_option maxHeartbeats 400000 in
theorem q_race {A1 A2 A3 A4 A5 A6 A7 : List Int32} {a1 a2 a3 a4 : Int32} {u hd k f g l t i : Nat → Nat} {sh co d : Nat} {R : List Int32} {a b : Nat} (hM : MJ (A1, A2, A3, A4, A5, A6, A7, a1, a2, a3, a4)) (hS : OkS ((u, hd, k, f, g, l), sh, (t, i, co, d))) (ha : a < sh) (hb : b < sh) (hab : ¬ a = b) : ∃ Mz : Hs, X4_race R A1 A2 A3 A4 A5 A6 A7 (rn 6 t) (rn 6 u) (rn 6 hd) (rn 7 k) (rn 7 f) (rn 7 g) (rn 7 l) a1 a2 a3 a4 (iI sh) (iI (mk i)) (iI co) (iI d) (iI a) (iI b) = some (R, Mz.1, Mz.2.1, Mz.2.2.1, Mz.2.2.2.1, Mz.2.2.2.2.1, Mz.2.2.2.2.2.1, Mz.2.2.2.2.2.2.1, Mz.2.2.2.2.2.2.2.1, Mz.2.2.2.2.2.2.2.2.1, Mz.2.2.2.2.2.2.2.2.2.1, Mz.2.2.2.2.2.2.2.2.2.2, iI (raV (cmX (u, hd, k, f, g, l) sh 0 6 (min a b) 60 0 (t, i, co, d)).1 (cmX (u, hd, k, f, g, l) sh 0 6 (max a b) 60 0 (t, i, co, d)).1 (min a b) (max a b))) ∧ MJ Mz := by
  have hE : OkE (u, hd, k, f, g, l) := sE hS
  have hsh : sh ≤ 7 := sSh hS
  have hX : OkX 1500 (t, i, co, d) := sX15 hS
  have ba := cmX_b (e := (u, hd, k, f, g, l)) (sh := sh) (b := 0) (fr := 6) (s := min a b) 60 0 (t, i, co, d)
  have bb := cmX_b (e := (u, hd, k, f, g, l)) (sh := sh) (b := 0) (fr := 6) (s := max a b) 60 0 (t, i, co, d)
  unfold X4_race
  rw [q_isShip hsh ha, Option.bind_some, if_neg c10, q_isShip hsh hb, Option.bind_some, if_neg c10, if_neg (feq (by omega) (by omega) (by omega) (by omega) (by omega)), mmin_iI (by omega) (by omega) (by omega) (by omega), mmax_iI (by omega) (by omega) (by omega) (by omega)]
  rw [show (min (a : Int) (b : Int)) = ((min a b : Nat) : Int) by omega, show (max (a : Int) (b : Int)) = ((max a b : Nat) : Int) by omega]
  rw [n60, s_X4_fromNow hM, Option.bind_some, s_X0_daysUntilIn (N := 60) (s0 := min a b) hE hsh (by omega) (by omega) hX, Option.bind_some]
  rw [s_X4_fromNow ?_, Option.bind_some]
  rotate_left
  · exact ⟨rn_len, rn_len, rn_len, rn_len, rn_len, rn_len, rn_len⟩
  rw [s_X0_daysUntilIn (N := 60) (s0 := max a b) hE hsh (by omega) (by omega) hX, Option.bind_some]
  unfold raV
  generalize (cmX (u, hd, k, f, g, l) sh 0 6 (min a b) 60 0 (t, i, co, d)).1 = ra at ba ⊢
  generalize (cmX (u, hd, k, f, g, l) sh 0 6 (max a b) 60 0 (t, i, co, d)).1 = rb at bb ⊢
  rcases ba with rfl | ba <;> rcases bb with rfl | bb
  · rw [if_pos e9, if_pos e9, if_pos (show (-9 : Int) = -9 from rfl), if_pos (show (-9 : Int) = -9 from rfl), ← e9]
    exact exR ⟨rn_len, rn_len, rn_len, rn_len, rn_len, rn_len, rn_len⟩
  · rw [if_neg (show ¬ iI rb = (-9 : Int32) from n9 (by omega) (by omega)), if_pos e9, if_neg (show ¬ rb = -9 by omega), if_pos (show (-9 : Int) = -9 from rfl)]
    exact exR ⟨rn_len, rn_len, rn_len, rn_len, rn_len, rn_len, rn_len⟩
  · rw [if_pos e9, if_neg (show ¬ iI ra = (-9 : Int32) from n9 (by omega) (by omega)), if_pos (show (-9 : Int) = -9 from rfl), if_neg (show ¬ ra = -9 by omega)]
    exact exR ⟨rn_len, rn_len, rn_len, rn_len, rn_len, rn_len, rn_len⟩
  · rw [if_neg (show ¬ iI rb = (-9 : Int32) from n9 (by omega) (by omega)), if_neg (show ¬ iI ra = (-9 : Int32) from n9 (by omega) (by omega)), if_neg (show ¬ rb = -9 by omega), if_neg (show ¬ ra = -9 by omega)]
    by_cases w : rb < ra
    · rw [if_pos (tlt w (by omega) (by omega)), if_pos w]
      exact exR ⟨rn_len, rn_len, rn_len, rn_len, rn_len, rn_len, rn_len⟩
    · rw [if_neg (flt (by omega) (by omega) (by omega)), if_neg w]
      exact exR ⟨rn_len, rn_len, rn_len, rn_len, rn_len, rn_len, rn_len⟩
set_option maxRecDepth 20000 in
set_option maxHeartbeats 400000 in
theorem q_tide {R : List Int32} {d n : Nat} (hd : d ≤ 999) (hn : n ≤ 60) : X4_tide R (iI d) (iI n) = some (R, iI (td (d + n))) := by
  unfold X4_tide
  rw [a60 hn, Option.bind_some, if_pos rfl, iI_add, s_X4_tideOf (by omega) (by omega), Option.bind_some, show ((d : Int) + (n : Int)).toNat = d + n by omega]
set_option maxRecDepth 20000 in
set_option maxHeartbeats 400000 in
theorem q_good0 {R : List Int32} {t u hd : Nat → Nat} {a : Nat} (ha : a < 6) : X4_good R (rn 6 t) (rn 6 u) (rn 6 hd) (iI a) 0 = some (R, iI (t a)) := by
  unfold X4_good
  rw [q_isGood ha, Option.bind_some, if_neg c10, if_pos rfl, rd_rn (by omega) (by omega) (by omega), Option.bind_some, Int.toNat_natCast]
set_option maxRecDepth 20000 in
set_option maxHeartbeats 400000 in
theorem q_good1 {R : List Int32} {t u hd : Nat → Nat} {a : Nat} (ha : a < 6) : X4_good R (rn 6 t) (rn 6 u) (rn 6 hd) (iI a) 1 = some (R, iI (u a)) := by
  unfold X4_good
  rw [q_isGood ha, Option.bind_some, if_neg c10, if_neg (by decide), if_pos rfl, rd_rn (by omega) (by omega) (by omega), Option.bind_some, Int.toNat_natCast]
set_option maxRecDepth 20000 in
set_option maxHeartbeats 400000 in
theorem q_good2 {R : List Int32} {t u hd : Nat → Nat} {a : Nat} (ha : a < 6) : X4_good R (rn 6 t) (rn 6 u) (rn 6 hd) (iI a) 2 = some (R, iI (hd a)) := by
  unfold X4_good
  rw [q_isGood ha, Option.bind_some, if_neg c10, if_neg (by decide), if_neg (by decide), if_pos rfl, rd_rn (by omega) (by omega) (by omega), Option.bind_some, Int.toNat_natCast]
set_option maxRecDepth 20000 in
set_option maxHeartbeats 400000 in
theorem q_good3 {R : List Int32} {t u hd : Nat → Nat} {a : Nat} (hu : ∀ j, u j ≤ 9) (ht : ∀ j, t j ≤ 99) (ha : a < 6) : X4_good R (rn 6 t) (rn 6 u) (rn 6 hd) (iI a) 3 = some (R, iI (lk 6 u t a)) := by
  unfold X4_good
  rw [q_isGood ha, Option.bind_some, if_neg c10, if_neg (by decide), if_neg (by decide), if_neg (by decide), if_pos rfl, s_X0_lackOf hu ht (by omega) (by omega), Option.bind_some, Int.toNat_natCast]
set_option maxRecDepth 20000 in
set_option maxHeartbeats 400000 in
theorem q_ship3 {u hd k f g l t i : Nat → Nat} {sh co d : Nat} {R : List Int32} {s : Nat} (hS : OkS ((u, hd, k, f, g, l), sh, (t, i, co, d))) (hs : s < sh) : X4_shipOf R (rn 6 t) (rn 6 u) (rn 6 hd) (rn 7 k) (rn 7 f) (rn 7 g) (rn 7 l) (iI sh) (iI (mk i)) (iI co) (iI d) (iI s) 3 = some (R, iI (l s)) := by
  have hsh : sh ≤ 7 := sSh hS
  unfold X4_shipOf
  rw [q_isShip hsh hs, Option.bind_some, if_neg c10, if_neg (by decide), if_neg (by decide), if_neg (by decide), if_pos rfl, rd_rn (by omega) (by omega) (by omega), Option.bind_some, Int.toNat_natCast]
set_option maxRecDepth 20000 in
set_option maxHeartbeats 400000 in
theorem q_ship4 {u hd k f g l t i : Nat → Nat} {sh co d : Nat} {R : List Int32} {s : Nat} (hS : OkS ((u, hd, k, f, g, l), sh, (t, i, co, d))) (hs : s < sh) : X4_shipOf R (rn 6 t) (rn 6 u) (rn 6 hd) (rn 7 k) (rn 7 f) (rn 7 g) (rn 7 l) (iI sh) (iI (mk i)) (iI co) (iI d) (iI s) 4 = some (R, iI (i s)) := by
  have hsh : sh ≤ 7 := sSh hS
  have hX : OkX 999 (t, i, co, d) := sX hS
  have b := xI hX s
  unfold X4_shipOf
  rw [q_isShip hsh hs, Option.bind_some, if_neg c10, if_neg (by decide), if_neg (by decide), if_neg (by decide), if_neg (by decide), if_pos rfl, s_X0_isIn (xI hX) (by omega) (by omega), Option.bind_some, Int.toNat_natCast]
  by_cases c : i s = 0
  · rw [c, if_pos z00, z00]
  · rw [show i s = 1 by omega, if_neg (by decide), z11]
set_option maxRecDepth 20000 in
set_option maxHeartbeats 400000 in
theorem q_ship6 {u hd k f g l t i : Nat → Nat} {sh co d : Nat} {R : List Int32} {s : Nat} (hS : OkS ((u, hd, k, f, g, l), sh, (t, i, co, d))) (hs : s < sh) : X4_shipOf R (rn 6 t) (rn 6 u) (rn 6 hd) (rn 7 k) (rn 7 f) (rn 7 g) (rn 7 l) (iI sh) (iI (mk i)) (iI co) (iI d) (iI s) 6 = some (R, iI (sk (lk 6 u t) hd co (k s) (g s))) := by
  have hsh : sh ≤ 7 := sSh hS
  have hE : OkE (u, hd, k, f, g, l) := sE hS
  have hX : OkX 999 (t, i, co, d) := sX hS
  unfold X4_shipOf
  rw [q_isShip hsh hs, Option.bind_some, if_neg c10, if_neg (by decide), if_neg (by decide), if_neg (by decide), if_neg (by decide), if_neg (by decide), if_neg (by decide), if_pos rfl, s_X0_sinks (oU hE) (xT hX) (oH hE) (oK hE) (oG hE) (xC hX) (by omega) (by omega), Option.bind_some, Int.toNat_natCast]
set_option maxRecDepth 20000 in
set_option maxHeartbeats 400000 in
theorem q_ship7 {u hd k f g l t i : Nat → Nat} {sh co d : Nat} {R : List Int32} {s : Nat} (hS : OkS ((u, hd, k, f, g, l), sh, (t, i, co, d))) (hs : s < sh) : X4_shipOf R (rn 6 t) (rn 6 u) (rn 6 hd) (rn 7 k) (rn 7 f) (rn 7 g) (rn 7 l) (iI sh) (iI (mk i)) (iI co) (iI d) (iI s) 7 = some (R, iI ((td d + sk (lk 6 u t) hd co (k s) (g s) : Nat) : Int)) := by
  have hsh : sh ≤ 7 := sSh hS
  have hE : OkE (u, hd, k, f, g, l) := sE hS
  have hX : OkX 999 (t, i, co, d) := sX hS
  have b := xD hX
  unfold X4_shipOf
  rw [q_isShip hsh hs, Option.bind_some, if_neg c10, if_neg (by decide), if_neg (by decide), if_neg (by decide), if_neg (by decide), if_neg (by decide), if_neg (by decide), if_neg (by decide), if_pos rfl, s_X0_depth (oU hE) (xT hX) (oH hE) (oK hE) (oG hE) (xC hX) (by omega) (by omega) (by omega), Option.bind_some, Int.toNat_natCast]
set_option maxRecDepth 20000 in
set_option maxHeartbeats 400000 in
theorem q_count0 {R t u : List Int32} {a b c d e f g : Int32} : X4_count R t u a b c d e f g 0 = some c := by
  unfold X4_count
  rw [if_pos rfl]
set_option maxRecDepth 20000 in
set_option maxHeartbeats 400000 in
theorem q_count1 {R t u : List Int32} {a b c d e f g : Int32} : X4_count R t u a b c d e f g 1 = some f := by
  unfold X4_count
  rw [if_neg (by decide), if_pos rfl]
set_option maxRecDepth 20000 in
set_option maxHeartbeats 400000 in
theorem q_count2 {R t u : List Int32} {a b c d e f g : Int32} : X4_count R t u a b c d e f g 2 = some e := by
  unfold X4_count
  rw [if_neg (by decide), if_neg (by decide), if_pos rfl]
set_option maxRecDepth 20000 in
set_option maxHeartbeats 400000 in
theorem q_count3 {R t u : List Int32} {a b c d e f g : Int32} : X4_count R t u a b c d e f g 3 = some d := by
  unfold X4_count
  rw [if_neg (by decide), if_neg (by decide), if_neg (by decide), if_pos rfl]
set_option maxRecDepth 20000 in
set_option maxHeartbeats 400000 in
theorem q_count4 {R : List Int32} {t u : Nat → Nat} {a b c d e f g : Int32} (hu : ∀ j, u j ≤ 9) (ht : ∀ j, t j ≤ 99) : X4_count R (rn 6 t) (rn 6 u) a b c d e f g 4 = some (iI (allk (lk 6 u t))) := by
  unfold X4_count
  rw [if_neg (by decide), if_neg (by decide), if_neg (by decide), if_neg (by decide), if_pos rfl, s_X0_lackOfAll hu ht, Option.bind_some]
