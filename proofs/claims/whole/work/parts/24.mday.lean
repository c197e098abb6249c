/-! the reference's DAY -/
def fI (fr : Nat) : Int := if fr = 6 then -9 else (fr : Int)
set_option maxHeartbeats 200000 in
theorem fI_b {fr : Nat} (h : fr ≤ 6) : -9 ≤ fI fr ∧ fI fr ≤ 5 := by
  unfold fI
  split <;> omega
set_option maxHeartbeats 200000 in
theorem s_X5_lack {fr : Nat} {u t : Nat → Nat} {a : Int} (hf : fr ≤ 6) (hu : ∀ j, u j ≤ 9) (ht : ∀ j, t j ≤ 99) (h0 : 0 ≤ a) (h1 : a < 6) : X5_lack (rn 6 t) (rn 6 u) (iI (fI fr)) (iI a) = some (iI (lk fr u t a.toNat : Int)) := by
  have h2 := hu a.toNat
  have h3 := ht a.toNat
  have h4 := fI_b hf
  unfold X5_lack lk
  by_cases h : a.toNat = fr
  · have e : a = fI fr := by unfold fI; rw [if_neg (by omega)]; omega
    rw [if_pos (teq e), if_pos h, L0]
    rfl
  · have e : ¬ a = fI fr := by unfold fI; split <;> omega
    rw [if_neg (feq e (by omega) (by omega) (by omega) (by omega)), if_neg h]
    by_cases h : (7 * (u a.toNat : Int)) ≤ (t a.toNat : Int)
    · simp (disch := omega) only [L0, L1, L2, L3, L4, L5, L6, L7, L8, L9, L10, L12, L16, L20, L31, L40, L48, L56, L57, L59, L60, L63, L96, L98, L99, L100, L101, L103, L104, L111, L115, L116, L117, L127, L168, L192, L255, L560, L616, L999, L1000, L2000, iI_add, iI_sub, iI_mul, iI_neg, iI_lt, iI_le, iI_eq, rd_rn, wr_rn, rd_rq, wr_rq, Option.bind_some, not_false_eq_true, not_true_eq_false, ↓reduceIte, leT, leF, ltT, ltF, eqT, eqF, Int.toNat_natCast, Int.reduceAdd, Int.reduceSub, Int.reduceMul, Int.reduceToNat]
      exact sI (by omega)
    · simp (disch := omega) only [L0, L1, L2, L3, L4, L5, L6, L7, L8, L9, L10, L12, L16, L20, L31, L40, L48, L56, L57, L59, L60, L63, L96, L98, L99, L100, L101, L103, L104, L111, L115, L116, L117, L127, L168, L192, L255, L560, L616, L999, L1000, L2000, iI_add, iI_sub, iI_mul, iI_neg, iI_lt, iI_le, iI_eq, rd_rn, wr_rn, rd_rq, wr_rq, Option.bind_some, not_false_eq_true, not_true_eq_false, ↓reduceIte, leT, leF, ltT, ltF, eqT, eqF, Int.toNat_natCast, Int.reduceAdd, Int.reduceSub, Int.reduceMul, Int.reduceToNat]
      exact sI (by omega)
set_option maxHeartbeats 200000 in
theorem l_allLack {fr : Nat} {u t : Nat → Nat} (hf : fr ≤ 6) (hu : ∀ j, u j ≤ 9) (ht : ∀ j, t j ≤ 99) (L : Nat → Nat) (hL : ∀ j, L j = lk fr u t j) (K : Int32 → Option Int32) : X5_allLack_L4 K (rn 6 t) (rn 6 u) (iI (fI fr)) 1000 0 0 = K (iI (allk L : Int)) := by
  have e : ∀ j, lk fr u t j = L j := fun j => (hL j).symm
  have e0 := s_X5_lack (a := 0) hf hu ht (by omega) (by omega)
  have e1 := s_X5_lack (a := 1) hf hu ht (by omega) (by omega)
  have e2 := s_X5_lack (a := 2) hf hu ht (by omega) (by omega)
  have e3 := s_X5_lack (a := 3) hf hu ht (by omega) (by omega)
  have e4 := s_X5_lack (a := 4) hf hu ht (by omega) (by omega)
  have e5 := s_X5_lack (a := 5) hf hu ht (by omega) (by omega)
  simp only [Int.reduceToNat, e] at e0 e1 e2 e3 e4 e5
  rw [L0, X5_allLack_L4, if_neg (by decide), e0, Option.bind_some, L1, iI_add, iI_add, X5_allLack_L4, if_neg (by decide), show (iI (0 + 1)) = iI 1 by decide, e1, Option.bind_some, L1, iI_add, iI_add, X5_allLack_L4, if_neg (by decide), show (iI (1 + 1)) = iI 2 by decide, e2, Option.bind_some, L1, iI_add, iI_add, X5_allLack_L4, if_neg (by decide), show (iI (2 + 1)) = iI 3 by decide, e3, Option.bind_some, L1, iI_add, iI_add, X5_allLack_L4, if_neg (by decide), show (iI (3 + 1)) = iI 4 by decide, e4, Option.bind_some, L1, iI_add, iI_add, X5_allLack_L4, if_neg (by decide), show (iI (4 + 1)) = iI 5 by decide, e5, Option.bind_some, L1, iI_add, iI_add, X5_allLack_L4, if_pos (by decide)]
  exact congrArg K (iI_c (by unfold allk; omega))
set_option maxHeartbeats 200000 in
theorem s_X5_allLack {fr : Nat} {u t : Nat → Nat} (hf : fr ≤ 6) (hu : ∀ j, u j ≤ 9) (ht : ∀ j, t j ≤ 99) : X5_allLack (rn 6 t) (rn 6 u) (iI (fI fr)) = some (iI (allk (lk fr u t) : Int)) := by
  unfold X5_allLack
  rw [l_allLack hf hu ht (lk fr u t) (fun _ => rfl)]
set_option maxHeartbeats 200000 in
theorem l_plenty {fr : Nat} {u t : Nat → Nat} (hf : fr ≤ 6) (hu : ∀ j, u j ≤ 9) (ht : ∀ j, t j ≤ 99) (K : Int32 → Option Int32) : ∀ (r s n c : Nat) (x y : Int32), x = iI (s : Int) → y = iI (c : Int) → s + r = 6 → r < n → X5_plenty_L4 K (rn 6 t) (rn 6 u) (iI (fI fr)) n y x = K (iI ((c + cn (lk fr u t) r s : Nat) : Int)) := by
  intro r
  induction r with
  | zero =>
    intro s n c x y hx hy hs hn
    obtain ⟨n, rfl⟩ : ∃ m, n = m + 1 := ⟨n - 1, by omega⟩
    subst hx; subst hy
    rw [X5_plenty_L4, if_pos (by rw [L6]; exact tle (by omega) (by omega) (by omega))]
    rfl
  | succ r ih =>
    intro s n c x y hx hy hs hn
    obtain ⟨n, rfl⟩ : ∃ m, n = m + 1 := ⟨n - 1, by omega⟩
    subst hx; subst hy
    have b := lk_le (fr := fr) (t := t) hu s
    rw [X5_plenty_L4, if_neg (by rw [L6]; exact fle (by omega) (by omega) (by omega)), s_X5_lack hf hu ht (by omega) (by omega), Option.bind_some, Int.toNat_natCast, iI_s s]
    unfold cn
    by_cases h : lk fr u t s = 0
    · rw [if_pos (by rw [h]; decide), iI_s c, ih (s + 1) n (c + 1) _ _ rfl rfl (by omega) (by omega), if_pos h]
      exact congrArg K (iI_c (by omega))
    · rw [if_neg (by rw [L0]; exact feq (by omega) (by omega) (by omega) (by omega) (by omega)), L0, iI_add, ih (s + 1) n c _ _ rfl (iI_c (by omega)) (by omega) (by omega), if_neg h]
      exact congrArg K (iI_c (by omega))
set_option maxHeartbeats 200000 in
theorem s_X5_plenty {fr : Nat} {u t : Nat → Nat} (hf : fr ≤ 6) (hu : ∀ j, u j ≤ 9) (ht : ∀ j, t j ≤ 99) : X5_plenty (rn 6 t) (rn 6 u) (iI (fI fr)) = some (iI (nlk (lk fr u t) : Int)) := by
  unfold X5_plenty
  rw [l_plenty hf hu ht _ 6 0 1000 0 0 0 (by decide) (by decide) (by omega) (by omega)]
  exact sI (by unfold nlk; omega)
set_option maxHeartbeats 200000 in
theorem s_X5_following {g : Nat → Nat} {a : Int} (hg : ∀ j, g j ≤ 5) (h0 : 0 ≤ a) (h1 : a < 7) : X5_following (rn 7 g) (iI a) = some (iI (nx (g a.toNat) : Int)) := by
  have b := hg a.toNat
  unfold X5_following nx
  rw [rd_rn h0 (by omega) (by omega), Option.bind_some]
  rcases (by omega : g a.toNat = 0 ∨ g a.toNat = 1 ∨ g a.toNat = 2 ∨ g a.toNat = 3 ∨ g a.toNat = 4 ∨ g a.toNat = 5) with h | h | h | h | h | h <;> rw [h] <;> decide
set_option maxHeartbeats 200000 in
theorem s_X5_sinks {fr : Nat} {u t hd k g : Nat → Nat} {co : Nat} {a : Int} (hf : fr ≤ 6) (hu : ∀ j, u j ≤ 9) (ht : ∀ j, t j ≤ 99) (hh : ∀ j, hd j ≤ 1000) (hk : ∀ j, k j ≤ 5) (hg : ∀ j, g j ≤ 5) (hco : co ≤ 99) (h0 : 0 ≤ a) (h1 : a < 7) : X5_sinks (rn 6 t) (rn 6 u) (rn 6 hd) (rn 7 k) (rn 7 g) (iI co) (iI (fI fr)) (iI a) = some (iI (sk (lk fr u t) hd co (k a.toNat) (g a.toNat) : Int)) := by
  have b := hk a.toNat
  have c := hg a.toNat
  have d := hh (g a.toNat)
  have e := nx_lt c
  have l1 := lk_le (fr := fr) (t := t) hu (g a.toNat)
  have l2 := lk_le (fr := fr) (t := t) hu (nx (g a.toNat))
  unfold X5_sinks sk
  rw [rd_rn h0 (by omega) (by omega), Option.bind_some, s_X5_lack hf hu ht (by omega) (by omega), Option.bind_some, s_X5_following hg h0 h1, Option.bind_some, s_X5_lack hf hu ht (by omega) (by omega), Option.bind_some, rd_rn h0 (by omega) (by omega), Option.bind_some, Int.toNat_natCast, Int.toNat_natCast]
  rcases (by omega : k a.toNat = 0 ∨ k a.toNat = 1 ∨ k a.toNat = 2 ∨ k a.toNat = 3 ∨ k a.toNat = 4 ∨ k a.toNat = 5) with h | h | h | h | h | h <;> rw [h] <;> simp (disch := omega) only [L0, L1, L2, L3, L4, L5, L6, L7, L8, L9, L10, L12, L16, L20, L31, L40, L48, L56, L57, L59, L60, L63, L96, L98, L99, L100, L101, L103, L104, L111, L115, L116, L117, L127, L168, L192, L255, L560, L616, L999, L1000, L2000, iI_add, iI_sub, iI_mul, iI_neg, iI_lt, iI_le, iI_eq, rd_rn, wr_rn, rd_rq, wr_rq, Option.bind_some, not_false_eq_true, not_true_eq_false, ↓reduceIte, leT, leF, ltT, ltF, eqT, eqF, Int.toNat_natCast, Int.reduceAdd, Int.reduceSub, Int.reduceMul, Int.reduceToNat, iI_div, s_X5_lack hf hu ht, s_X5_plenty hf hu ht] <;> exact sI (by simp <;> omega)
set_option maxHeartbeats 200000 in
theorem tb_mtide : (List.range 2100).all (fun d => decide (X5_tideOf (iI (d : Int)) = some (iI (td d : Int)))) = true := by decide +kernel
set_option maxHeartbeats 200000 in
theorem s_X5_tideOf {a : Int} (h0 : 0 ≤ a) (h1 : a < 2100) : X5_tideOf (iI a) = some (iI (td a.toNat : Int)) := by
  obtain ⟨s, rfl⟩ := Int.eq_ofNat_of_zero_le h0
  exact of_decide_eq_true (List.all_eq_true.mp tb_mtide s (List.mem_range.mpr (by omega)))
set_option maxHeartbeats 200000 in
theorem s_X5_depth {fr : Nat} {u t hd k g : Nat → Nat} {co d : Nat} {a : Int} (hf : fr ≤ 6) (hu : ∀ j, u j ≤ 9) (ht : ∀ j, t j ≤ 99) (hh : ∀ j, hd j ≤ 1000) (hk : ∀ j, k j ≤ 5) (hg : ∀ j, g j ≤ 5) (hco : co ≤ 99) (hd2 : d < 2100) (h0 : 0 ≤ a) (h1 : a < 7) : X5_depth (rn 6 t) (rn 6 u) (rn 6 hd) (rn 7 k) (rn 7 g) (iI co) (iI d) (iI (fI fr)) (iI a) = some (iI ((td d + sk (lk fr u t) hd co (k a.toNat) (g a.toNat) : Nat) : Int)) := by
  unfold X5_depth
  rw [s_X5_tideOf (by omega) (by omega), Option.bind_some, s_X5_sinks hf hu ht hh hk hg hco h0 h1, Option.bind_some, Int.toNat_natCast, iI_add]
  exact sI (by omega)
set_option maxHeartbeats 200000 in
theorem s_X5_draws {k f : Nat → Nat} {a : Int} (hk : ∀ j, k j ≤ 5) (hf : ∀ j, f j ≤ 9) (h0 : 0 ≤ a) (h1 : a < 7) : X5_draws (rn 7 k) (rn 7 f) (iI a) = some (iI (dr (k a.toNat) (f a.toNat) : Int)) := s_X0_draws hk hf h0 h1
set_option maxHeartbeats 200000 in
theorem s_X5_held {a b c : Int} (h1 : -2147483648 ≤ a) (h2 : a < 2147483648) (h3 : -2147483648 ≤ b) (h4 : b ≤ c) (h5 : c < 2147483648) : X5_held (iI a) (iI b) (iI c) = some (iI (max b (min a c))) := by
  unfold X5_held
  by_cases ha : b ≤ a
  · rw [if_pos (tle ha h3 h2)]
    by_cases hb : a ≤ c
    · rw [if_pos (tle hb h1 h5)]; exact sI (by omega)
    · rw [if_neg (fle (by omega) (by omega) (by omega))]; exact sI (by omega)
  · rw [if_neg (fle (by omega) (by omega) (by omega))]; exact sI (by omega)
set_option maxHeartbeats 200000 in
theorem s_X5_brings {k g l : Nat → Nat} {a c : Int} (hk : ∀ j, k j ≤ 5) (hg : ∀ j, g j ≤ 5) (hl : ∀ j, l j ≤ 99) (h0 : 0 ≤ a) (h1 : a < 7) (h2 : 0 ≤ c) (h3 : c < 6) : X5_brings (rn 7 k) (rn 7 g) (rn 7 l) (iI a) (iI c) = some (iI (br (k a.toNat) (g a.toNat) (l a.toNat) c.toNat : Int)) := by
  have b1 := hk a.toNat
  have b2 := hg a.toNat
  have b3 := hl a.toNat
  have b4 := nx_lt b2
  have e3 : ¬ nx (g a.toNat) = g a.toNat := by unfold nx; split <;> omega
  unfold X5_brings br
  rcases (by omega : k a.toNat = 0 ∨ k a.toNat = 1 ∨ k a.toNat = 2 ∨ k a.toNat = 3 ∨ k a.toNat = 4 ∨ k a.toNat = 5) with h | h | h | h | h | h <;> rw [h] <;> by_cases e1 : c.toNat = g a.toNat <;> by_cases e2 : c.toNat = nx (g a.toNat) <;> first | omega | (simp (disch := omega) only [L0, L1, L2, L3, L4, L5, L6, L7, L8, L9, L10, L12, L16, L20, L31, L40, L48, L56, L57, L59, L60, L63, L96, L98, L99, L100, L101, L103, L104, L111, L115, L116, L117, L127, L168, L192, L255, L560, L616, L999, L1000, L2000, iI_add, iI_sub, iI_mul, iI_neg, iI_lt, iI_le, iI_eq, rd_rn, wr_rn, rd_rq, wr_rq, Option.bind_some, not_false_eq_true, not_true_eq_false, ↓reduceIte, leT, leF, ltT, ltF, eqT, eqF, Int.toNat_natCast, Int.reduceAdd, Int.reduceSub, Int.reduceMul, Int.reduceToNat, iI_div, s_X5_following hg] <;> exact sI (by simp [e1, e2, e3, Ne.symm e3] <;> omega))
set_option maxHeartbeats 200000 in
theorem l_bringsAll {t k g l : Nat → Nat} {a : Int} (ht : ∀ j, t j ≤ 99) (hk : ∀ j, k j ≤ 5) (hg : ∀ j, g j ≤ 5) (hl : ∀ j, l j ≤ 99) (h0 : 0 ≤ a) (h1 : a < 7) (K : List Int32 → Option (List Int32 × Int32)) : ∀ (r s n : Nat) (x : Int32) (w : Nat → Nat), x = iI (s : Int) → s + r = 6 → r < n → (∀ j, w j = if j < s then tin t (k a.toNat) (g a.toNat) (l a.toNat) j else t j) → X5_bringsAll_L2 K (rn 7 k) (rn 7 g) (rn 7 l) (iI a) n x (rn 6 w) = K (rn 6 (tin t (k a.toNat) (g a.toNat) (l a.toNat))) := by
  intro r
  induction r with
  | zero =>
    intro s n x w hx hs hn hw
    obtain ⟨n, rfl⟩ : ∃ m, n = m + 1 := ⟨n - 1, by omega⟩
    subst hx
    rw [X5_bringsAll_L2, if_pos (by rw [L6]; exact tle (by omega) (by omega) (by omega))]
    rw [show s = 6 by omega] at hw
    rw [endW hw]
  | succ r ih =>
    intro s n x w hx hs hn hw
    obtain ⟨n, rfl⟩ : ∃ m, n = m + 1 := ⟨n - 1, by omega⟩
    subst hx
    have b := br_le (k := k a.toNat) (g := g a.toNat) (j := s) (hl a.toNat)
    have b1 := ht s
    have b2 : w s = t s := by rw [hw s, if_neg (by omega)]
    rw [X5_bringsAll_L2, if_neg (by rw [L6]; exact fle (by omega) (by omega) (by omega)), rd_rn (by omega) (by omega) (by omega), Option.bind_some, s_X5_brings hk hg hl h0 h1 (by omega) (by omega), Option.bind_some, iI_add, L0, L99, Int.toNat_natCast, s_X5_held (by omega) (by omega) (by omega) (by omega) (by omega), Option.bind_some, wr_rn (by omega) (by omega) (by omega) (by omega), Option.bind_some, Int.toNat_natCast, iI_s s]
    exact ih (s + 1) n _ _ rfl (by omega) (by omega) (stepW hw (by unfold tin; omega))
set_option maxHeartbeats 200000 in
theorem s_X5_bringsAll {t k g l : Nat → Nat} {co : Nat} {a : Int} (ht : ∀ j, t j ≤ 99) (hk : ∀ j, k j ≤ 5) (hg : ∀ j, g j ≤ 5) (hl : ∀ j, l j ≤ 99) (hco : co ≤ 99) (h0 : 0 ≤ a) (h1 : a < 7) : X5_bringsAll (rn 6 t) (rn 7 k) (rn 7 g) (rn 7 l) (iI co) (iI a) = some (rn 6 (tin t (k a.toNat) (g a.toNat) (l a.toNat)), iI ((if k a.toNat = 3 then co - 9 else co : Nat) : Int)) := by
  have b1 := hk a.toNat
  unfold X5_bringsAll
  rw [l_bringsAll ht hk hg hl h0 h1 _ 6 0 1000 0 t (by decide) (by omega) (by omega) (fun j => by rw [if_neg (by omega)]), rd_rn h0 (by omega) (by omega), Option.bind_some]
  by_cases h : k a.toNat = 3
  · rw [if_pos (by rw [h]; decide), if_pos h, L9, iI_sub, L0, L99, s_X5_held (by omega) (by omega) (by omega) (by omega) (by omega), Option.bind_some, show (max 0 (min ((co : Int) - 9) 99)) = ((co - 9 : Nat) : Int) by omega]
  · rw [if_neg (by rw [L3]; exact feq (by omega) (by omega) (by omega) (by omega) (by omega)), if_neg h]
set_option maxHeartbeats 200000 in
theorem s_X5_has {b : Nat} {a : Int} (hb : b < 128) (h0 : 0 ≤ a) (h1 : a < 7) : X5_has (iI b) (iI a) = some (iI ((b / 2 ^ a.toNat % 2 : Nat) : Int)) := by
  unfold X5_has
  rw [L31, L1, bit_rd hb h0 h1]
  rcases (by omega : b / 2 ^ a.toNat % 2 = 0 ∨ b / 2 ^ a.toNat % 2 = 1) with h | h <;> rw [h] <;> decide
set_option maxHeartbeats 200000 in
theorem s_X5_canCome {u hd k f g l t i : Nat → Nat} {fr b co d s : Nat} (hf : fr ≤ 6) (hE : OkE (u, hd, k, f, g, l)) (hb : b < 128) (hd2 : d < 2100) (hs : s < 7) (hy : OkY (t, i, co)) :
    X5_canCome (rn 6 t) (rn 6 u) (rn 6 hd) (rn 7 k) (rn 7 f) (rn 7 g) (rn 7 i) (iI co) (iI d) (iI b) (iI (fI fr)) (iI s) = some (iI (if i s = 0 ∧ b / 2 ^ s % 2 = 0 ∧ dr (k s) (f s) ≤ td d + sk (lk fr u t) hd co (k s) (g s) then 1 else 0)) := by
  have hu := oU hE; have hh := oH hE; have hk := oK hE; have hf := oF hE; have hg := oG hE; have hl := oL hE
  have ht := yT hy; have hi := yI hy; have hco := yC hy
  have b1 := hi s
  have b2 := sk_le (L := lk fr u t) (k := k s) (fun j => lk_le hu j) (hh (g s)) hco
  have b3 := dr_le (k := k s) (hf s)
  have b4 := td_le d
  unfold X5_canCome
  rw [rd_rn (by omega) (by omega) (by omega), Option.bind_some, Int.toNat_natCast]
  by_cases h1 : i s = 0
  · rw [if_pos (by rw [h1]; decide), s_X5_has hb (by omega) (by omega), Option.bind_some, Int.toNat_natCast]
    by_cases h2 : b / 2 ^ s % 2 = 0
    · rw [if_pos (by rw [h2]; decide), s_X5_depth ‹fr ≤ 6› hu ht hh hk hg hco hd2 (by omega) (by omega), Option.bind_some, s_X5_draws hk hf (by omega) (by omega), Option.bind_some, Int.toNat_natCast]
      by_cases h3 : dr (k s) (f s) ≤ td d + sk (lk fr u t) hd co (k s) (g s)
      · rw [if_neg (flt (by omega) (by omega) (by omega)), if_pos ⟨h1, h2, h3⟩]
        rfl
      · rw [if_pos (tlt (by omega) (by omega) (by omega)), if_neg (fun z => h3 z.2.2)]
        rfl
    · rw [if_neg (by rw [show b / 2 ^ s % 2 = 1 by omega]; decide), if_neg (fun z => h2 z.2.1)]
      rfl
  · rw [if_neg (by rw [show i s = 1 by omega]; decide), if_neg (fun z => h1 z.1)]
    rfl
