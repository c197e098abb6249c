/-! days in mind -/
def daysX (e : Env) (sh b fr : Nat) : Nat → XX → XX
  | 0, x => x
  | n + 1, x => daysX e sh b fr n (dayX e sh b fr x)
def cmX (e : Env) (sh b fr s : Nat) : Nat → Nat → XX → Int × XX
  | 0, n, x => (if x.2.1 s = 0 then -9 else (n : Int), x)
  | r + 1, n, x => if x.2.1 s = 0 then cmX e sh b fr s r (n + 1) (dayX e sh b fr x) else ((n : Int), x)
def wnX (e : Env) (sh b fr : Nat) : Nat → Nat → XX → Nat × XX
  | 0, v, x => (v, x)
  | r + 1, v, x => wnX e sh b fr r (v + allk (lk fr e.1 (dayX e sh b fr x).1)) (dayX e sh b fr x)
set_option maxHeartbeats 200000 in
theorem tle {a b : Int} (h : a ≤ b) (h1 : -2147483648 ≤ a) (h2 : b < 2147483648) : iI a ≤ iI b := by
  rw [iI_le h1 (by omega) (by omega) h2]; exact h
set_option maxHeartbeats 200000 in
theorem fle {a b : Int} (h : b < a) (h1 : -2147483648 ≤ b) (h2 : a < 2147483648) : ¬ iI a ≤ iI b := by
  rw [iI_le (by omega) h2 h1 (by omega)]; omega
set_option maxHeartbeats 200000 in
theorem tlt {a b : Int} (h : a < b) (h1 : -2147483648 ≤ a) (h2 : b < 2147483648) : iI a < iI b := by
  rw [iI_lt h1 (by omega) (by omega) h2]; exact h
set_option maxHeartbeats 200000 in
theorem flt {a b : Int} (h : b ≤ a) (h1 : -2147483648 ≤ b) (h2 : a < 2147483648) : ¬ iI a < iI b := by
  rw [iI_lt (by omega) h2 h1 (by omega)]; omega
set_option maxHeartbeats 200000 in
theorem feq {a b : Int} (h : ¬ a = b) (h1 : -2147483648 ≤ a) (h2 : a < 2147483648) (h3 : -2147483648 ≤ b) (h4 : b < 2147483648) : ¬ iI a = iI b := by
  rw [iI_eq h1 h2 h3 h4]; exact h
set_option maxHeartbeats 200000 in
theorem teq {a b : Int} (h : a = b) : iI a = iI b := by rw [h]
set_option maxHeartbeats 200000 in
theorem OkX.mono {D D1 : Nat} {x : XX} (h : OkX D x) (hD : D ≤ D1) : OkX D1 x := ⟨h.1, h.2.1, h.2.2.1, Nat.le_trans h.2.2.2 hD⟩
set_option maxHeartbeats 200000 in
theorem daysX_ok {e : Env} {sh b fr : Nat} : ∀ (r D : Nat) (x : XX), OkX D x → OkX (D + r) (daysX e sh b fr r x) := by
  intro r
  induction r with
  | zero => intro D x h; exact h
  | succ r ih =>
    intro D x h
    have := ih (D + 1) _ (dayX_ok (e := e) (sh := sh) (b := b) (fr := fr) h)
    exact this.mono (by omega)
set_option maxHeartbeats 200000 in
theorem l_passDays {u hd k f g l : Nat → Nat} {sh N : Nat} (hE : OkE (u, hd, k, f, g, l)) (hsh : sh ≤ 7) (hN : N ≤ 100) (K : List Int32 → Int32 → Int32 → Int32 → Option (List Int32 × Int32 × Int32 × Int32)) : ∀ (r s n D : Nat) (x : Int32) (t i : Nat → Nat) (co d : Nat), x = iI (s : Int) → s + r = N → r < n → OkX D (t, i, co, d) → D + r ≤ 2000 →
    X0_passDays_L2 K (rn 6 u) (rn 6 hd) (rn 7 k) (rn 7 f) (rn 7 g) (rn 7 l) (iI sh) (iI N) n x (rn 6 t) (iI (mk i)) (iI co) (iI d) = K (rn 6 (daysX (u, hd, k, f, g, l) sh 0 6 r (t, i, co, d)).1) (iI (mk (daysX (u, hd, k, f, g, l) sh 0 6 r (t, i, co, d)).2.1)) (iI (daysX (u, hd, k, f, g, l) sh 0 6 r (t, i, co, d)).2.2.1) (iI (daysX (u, hd, k, f, g, l) sh 0 6 r (t, i, co, d)).2.2.2) := by
  intro r
  induction r with
  | zero =>
    intro s n D x t i co d hx hs hn hX hD
    obtain ⟨n, rfl⟩ : ∃ m, n = m + 1 := ⟨n - 1, by omega⟩
    subst hx
    rw [X0_passDays_L2, if_pos (tle (by omega) (by omega) (by omega))]
    rfl
  | succ r ih =>
    intro s n D x t i co d hx hs hn hX hD
    obtain ⟨n, rfl⟩ : ∃ m, n = m + 1 := ⟨n - 1, by omega⟩
    subst hx
    rw [X0_passDays_L2, if_neg (fle (by omega) (by omega) (by omega)), iI_s s, show (0 : Int32) = iI ((0 : Nat) : Int) by decide, s_X0_passDay hE hsh (by omega) (hX.mono (by omega)), Option.bind_some]
    exact ih (s + 1) n (D + 1) _ _ _ _ _ rfl (by omega) (by omega) (dayX_ok hX) (by omega)
set_option maxHeartbeats 200000 in
theorem s_X0_passDays {u hd k f g l t i : Nat → Nat} {sh N co d : Nat} (hE : OkE (u, hd, k, f, g, l)) (hsh : sh ≤ 7) (hN : N ≤ 100) (hX : OkX 1500 (t, i, co, d)) :
    X0_passDays (rn 6 t) (rn 6 u) (rn 6 hd) (rn 7 k) (rn 7 f) (rn 7 g) (rn 7 l) (iI sh) (iI (mk i)) (iI co) (iI d) (iI N) = some (rn 6 (daysX (u, hd, k, f, g, l) sh 0 6 N (t, i, co, d)).1, iI (mk (daysX (u, hd, k, f, g, l) sh 0 6 N (t, i, co, d)).2.1), iI (daysX (u, hd, k, f, g, l) sh 0 6 N (t, i, co, d)).2.2.1, iI (daysX (u, hd, k, f, g, l) sh 0 6 N (t, i, co, d)).2.2.2) := by
  unfold X0_passDays
  rw [l_passDays hE hsh hN _ N 0 1000 1500 0 t i co d (by decide) (by omega) (by omega) hX (by omega)]
set_option maxHeartbeats 200000 in
theorem l_daysUntilIn {u hd k f g l : Nat → Nat} {sh s0 N : Nat} (hE : OkE (u, hd, k, f, g, l)) (hsh : sh ≤ 7) (hs0 : s0 < 7) (hN : N ≤ 100) : ∀ (r s n D : Nat) (x : Int32) (t i : Nat → Nat) (co d : Nat), x = iI (s : Int) → s + r = N → r < n → OkX D (t, i, co, d) → D + r ≤ 2000 →
    X0_daysUntilIn_L2 (fun there_5 inn_6 coughs_7 day_8 => (X0_isIn inn_6 (iI s0)).bind fun u_9 => if u_9 = (0 : Int32) then some (there_5, inn_6, coughs_7, day_8, (-9 : Int32)) else some (there_5, inn_6, coughs_7, day_8, iI N)) (rn 6 u) (rn 6 hd) (rn 7 k) (rn 7 f) (rn 7 g) (rn 7 l) (iI sh) (iI s0) (iI N) n x (rn 6 t) (iI (mk i)) (iI co) (iI d) = some (rn 6 (cmX (u, hd, k, f, g, l) sh 0 6 s0 r s (t, i, co, d)).2.1, iI (mk (cmX (u, hd, k, f, g, l) sh 0 6 s0 r s (t, i, co, d)).2.2.1), iI (cmX (u, hd, k, f, g, l) sh 0 6 s0 r s (t, i, co, d)).2.2.2.1, iI (cmX (u, hd, k, f, g, l) sh 0 6 s0 r s (t, i, co, d)).2.2.2.2, iI (cmX (u, hd, k, f, g, l) sh 0 6 s0 r s (t, i, co, d)).1) := by
  intro r
  induction r with
  | zero =>
    intro s n D x t i co d hx hs hn hX hD
    obtain ⟨n, rfl⟩ : ∃ m, n = m + 1 := ⟨n - 1, by omega⟩
    subst hx
    have hi := xI hX
    have b := hi s0
    rw [X0_daysUntilIn_L2, if_pos (tle (by omega) (by omega) (by omega)), s_X0_isIn hi (by omega) (by omega), Option.bind_some, Int.toNat_natCast]
    unfold cmX
    by_cases h : i s0 = 0
    · rw [if_pos (by rw [h]; decide), if_pos h]
      rfl
    · rw [if_neg (by rw [show i s0 = 1 by omega]; decide), if_neg h, show N = s by omega]
  | succ r ih =>
    intro s n D x t i co d hx hs hn hX hD
    obtain ⟨n, rfl⟩ : ∃ m, n = m + 1 := ⟨n - 1, by omega⟩
    subst hx
    have hi := xI hX
    have b := hi s0
    rw [X0_daysUntilIn_L2, if_neg (fle (by omega) (by omega) (by omega)), s_X0_isIn hi (by omega) (by omega), Option.bind_some, Int.toNat_natCast]
    unfold cmX
    by_cases h : i s0 = 0
    · rw [if_pos (by rw [h]; decide), if_pos h, iI_s s, show (0 : Int32) = iI ((0 : Nat) : Int) by decide, s_X0_passDay hE hsh (by omega) (hX.mono (by omega)), Option.bind_some]
      exact ih (s + 1) n (D + 1) _ _ _ _ _ rfl (by omega) (by omega) (dayX_ok hX) (by omega)
    · rw [if_neg (by rw [show i s0 = 1 by omega]; decide), if_neg h]
set_option maxHeartbeats 200000 in
theorem s_X0_daysUntilIn {u hd k f g l t i : Nat → Nat} {sh s0 N co d : Nat} (hE : OkE (u, hd, k, f, g, l)) (hsh : sh ≤ 7) (hs0 : s0 < 7) (hN : N ≤ 100) (hX : OkX 1500 (t, i, co, d)) :
    X0_daysUntilIn (rn 6 t) (rn 6 u) (rn 6 hd) (rn 7 k) (rn 7 f) (rn 7 g) (rn 7 l) (iI sh) (iI (mk i)) (iI co) (iI d) (iI s0) (iI N) = some (rn 6 (cmX (u, hd, k, f, g, l) sh 0 6 s0 N 0 (t, i, co, d)).2.1, iI (mk (cmX (u, hd, k, f, g, l) sh 0 6 s0 N 0 (t, i, co, d)).2.2.1), iI (cmX (u, hd, k, f, g, l) sh 0 6 s0 N 0 (t, i, co, d)).2.2.2.1, iI (cmX (u, hd, k, f, g, l) sh 0 6 s0 N 0 (t, i, co, d)).2.2.2.2, iI (cmX (u, hd, k, f, g, l) sh 0 6 s0 N 0 (t, i, co, d)).1) := by
  unfold X0_daysUntilIn
  exact l_daysUntilIn hE hsh hs0 hN N 0 1000 1500 0 t i co d (by decide) (by omega) (by omega) hX (by omega)
set_option maxHeartbeats 200000 in
theorem l_wantWithin {u hd k f g l : Nat → Nat} {sh N b : Nat} (hE : OkE (u, hd, k, f, g, l)) (hsh : sh ≤ 7) (hb : b < 128) (hN : N ≤ 100) (K : Int32 → List Int32 → Int32 → Int32 → Int32 → Option (List Int32 × Int32 × Int32 × Int32 × Int32)) : ∀ (r s n D v : Nat) (x : Int32) (t i : Nat → Nat) (co d : Nat), x = iI (s : Int) → s + r = N → r < n → OkX D (t, i, co, d) → D + r ≤ 2000 →
    X0_wantWithin_L8 K (rn 6 u) (rn 6 hd) (rn 7 k) (rn 7 f) (rn 7 g) (rn 7 l) (iI sh) (iI N) (iI b) n (iI v) x (rn 6 t) (iI (mk i)) (iI co) (iI d) = K (iI (wnX (u, hd, k, f, g, l) sh b 6 r v (t, i, co, d)).1) (rn 6 (wnX (u, hd, k, f, g, l) sh b 6 r v (t, i, co, d)).2.1) (iI (mk (wnX (u, hd, k, f, g, l) sh b 6 r v (t, i, co, d)).2.2.1)) (iI (wnX (u, hd, k, f, g, l) sh b 6 r v (t, i, co, d)).2.2.2.1) (iI (wnX (u, hd, k, f, g, l) sh b 6 r v (t, i, co, d)).2.2.2.2) := by
  intro r
  induction r with
  | zero =>
    intro s n D v x t i co d hx hs hn hX hD
    obtain ⟨n, rfl⟩ : ∃ m, n = m + 1 := ⟨n - 1, by omega⟩
    subst hx
    rw [X0_wantWithin_L8, if_pos (tle (by omega) (by omega) (by omega))]
    rfl
  | succ r ih =>
    intro s n D v x t i co d hx hs hn hX hD
    obtain ⟨n, rfl⟩ : ∃ m, n = m + 1 := ⟨n - 1, by omega⟩
    subst hx
    have hz := dayX_ok (e := (u, hd, k, f, g, l)) (sh := sh) (b := b) (fr := 6) hX
    rw [X0_wantWithin_L8, if_neg (fle (by omega) (by omega) (by omega)), iI_s s, s_X0_passDay hE hsh hb (hX.mono (by omega)), Option.bind_some, s_X0_lackOfAll (oU hE) hz.1, Option.bind_some, iI_add]
    exact ih (s + 1) n (D + 1) _ _ _ _ _ _ rfl (by omega) (by omega) hz (by omega)
set_option maxHeartbeats 200000 in
theorem s_X0_wantWithin {u hd k f g l t i : Nat → Nat} {sh N b co d : Nat} (hE : OkE (u, hd, k, f, g, l)) (hsh : sh ≤ 7) (hb : b < 128) (hN : N ≤ 100) (hX : OkX 1500 (t, i, co, d)) :
    X0_wantWithin (rn 6 t) (rn 6 u) (rn 6 hd) (rn 7 k) (rn 7 f) (rn 7 g) (rn 7 l) (iI sh) (iI (mk i)) (iI co) (iI d) (iI N) (iI b) = some (rn 6 (wnX (u, hd, k, f, g, l) sh b 6 N (allk (lk 6 u t)) (t, i, co, d)).2.1, iI (mk (wnX (u, hd, k, f, g, l) sh b 6 N (allk (lk 6 u t)) (t, i, co, d)).2.2.1), iI (wnX (u, hd, k, f, g, l) sh b 6 N (allk (lk 6 u t)) (t, i, co, d)).2.2.2.1, iI (wnX (u, hd, k, f, g, l) sh b 6 N (allk (lk 6 u t)) (t, i, co, d)).2.2.2.2, iI (wnX (u, hd, k, f, g, l) sh b 6 N (allk (lk 6 u t)) (t, i, co, d)).1) := by
  unfold X0_wantWithin
  rw [s_X0_lackOfAll (oU hE) (xT hX), Option.bind_some, l_wantWithin hE hsh hb hN _ N 0 1000 1500 _ 0 t i co d (by decide) (by omega) (by omega) hX (by omega)]
