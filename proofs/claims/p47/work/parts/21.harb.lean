/-! what the harbour's methods say, in whole numbers -/
def rn (n : Nat) (f : Nat → Nat) : List Int32 := rq n (fun j => iI (f j : Int))
def upN (f : Nat → Nat) (k v : Nat) : Nat → Nat := fun j => if j = k then v else f j
theorem rd_rn {n : Nat} {f : Nat → Nat} {a : Int} (h0 : 0 ≤ a) (h1 : a < (n : Int)) (h2 : (n : Int) < 2147483648) : rd (rn n f) (iI a) = some (iI (f a.toNat : Int)) := rd_rq h0 h1 h2
theorem rn_congr {n : Nat} {f g : Nat → Nat} (h : ∀ j, j < n → f j = g j) : rn n f = rn n g := rq_congr (fun j hj => by rw [h j hj])
theorem rn_len {n : Nat} {f : Nat → Nat} : (rn n f).length = n := rq_len _ _
theorem wr_rn {n : Nat} {f : Nat → Nat} {a v : Int} (h0 : 0 ≤ a) (h1 : a < (n : Int)) (h2 : (n : Int) < 2147483648) (h3 : 0 ≤ v) : wr (rn n f) (iI a) (iI v) = some (rn n (upN f a.toNat v.toNat)) := by
  unfold rn
  rw [wr_rq h0 h1 h2]
  refine congrArg some (rq_congr (fun j _ => ?_))
  unfold upF upN
  by_cases h : j = a.toNat
  · rw [if_pos h, if_pos h]; exact iI_c (by omega)
  · rw [if_neg h, if_neg h]
theorem leT {a b : Int} (h : a ≤ b) : (a ≤ b) = True := eq_true h
theorem leF {a b : Int} (h : b < a) : (a ≤ b) = False := eq_false (by omega)
theorem ltT {a b : Int} (h : a < b) : (a < b) = True := eq_true h
theorem ltF {a b : Int} (h : b ≤ a) : (a < b) = False := eq_false (by omega)
theorem eqT {a b : Int} (h : a = b) : (a = b) = True := eq_true h
theorem eqF {a b : Int} (h : ¬ a = b) : (a = b) = False := eq_false h
def lk (fr : Nat) (u t : Nat → Nat) (j : Nat) : Nat := if j = fr then 0 else 7 * u j - t j
/-- how many of r goods, from s on, are not lacked -/
def cn (L : Nat → Nat) : Nat → Nat → Nat
  | 0, _ => 0
  | r + 1, s => (if L s = 0 then 1 else 0) + cn L r (s + 1)
def nlk (L : Nat → Nat) : Nat := cn L 6 0
def allk (L : Nat → Nat) : Nat := L 0 + L 1 + L 2 + L 3 + L 4 + L 5
def nx (g : Nat) : Nat := if g = 5 then 0 else g + 1
def dr (k f : Nat) : Nat := if k = 1 then 1 else if k = 2 then f / 2 + 2 else if k = 3 then 2 else if k = 4 then f + 4 else if k = 5 then (f + 4) / 2 else f + 3
def sk (L hd : Nat → Nat) (co k g : Nat) : Nat := if k = 1 then 9 else if k = 2 then nlk L else if k = 3 then co / 9 else if k = 4 then L g / 3 + L (nx g) / 3 else if k = 5 then L g / 3 + L (nx g) / 3 + hd g / 10 else L g / 3
def br (k g l j : Nat) : Nat := if k = 1 then 0 else if k = 4 ∨ k = 5 then (if j = g then l / 2 else if j = nx g then l - l / 2 else 0) else if j = g then l else 0
def td (d : Nat) : Nat := if d % 8 < 4 then d % 8 else 8 - d % 8
theorem lk_le {fr : Nat} {u t : Nat → Nat} (hu : ∀ j, u j ≤ 9) (j : Nat) : lk fr u t j ≤ 63 := by
  have := hu j
  unfold lk
  split <;> omega
theorem cn_le (L : Nat → Nat) : ∀ r s, cn L r s ≤ r := by
  intro r
  induction r with
  | zero => intro s; exact Nat.le_refl _
  | succ r ih =>
    intro s
    have := ih (s + 1)
    unfold cn
    split <;> omega
theorem nlk_le (L : Nat → Nat) : nlk L ≤ 6 := cn_le L 6 0
theorem nx_lt {g : Nat} (h : g ≤ 5) : nx g ≤ 5 := by
  unfold nx
  split <;> omega
theorem td_le (d : Nat) : td d ≤ 4 := by
  unfold td
  split <;> omega
theorem s_X0_lackOf {u t : Nat → Nat} {a : Int} (hu : ∀ j, u j ≤ 9) (ht : ∀ j, t j ≤ 99) (h0 : 0 ≤ a) (h1 : a < 6) : X0_lackOf (rn 6 t) (rn 6 u) (iI a) = some (iI (lk 6 u t a.toNat : Int)) := by
  have h2 := hu a.toNat
  have h3 := ht a.toNat
  unfold X0_lackOf lk
  rw [if_neg (by omega : ¬ a.toNat = 6)]
  simp (disch := omega) only [L0, L1, L2, L3, L4, L5, L6, L7, L8, L9, L10, L12, L16, L20, L31, L40, L48, L56, L57, L59, L60, L63, L96, L98, L99, L100, L101, L103, L104, L111, L115, L116, L117, L127, L168, L192, L255, L560, L616, L999, L1000, L2000, iI_add, iI_sub, iI_mul, iI_neg, iI_lt, iI_le, iI_eq, rd_rn, wr_rn, rd_rq, wr_rq, Option.bind_some, ↓reduceIte, leT, leF, ltT, ltF, eqT, eqF, Int.toNat_natCast, Int.reduceAdd, Int.reduceSub, Int.reduceMul, Int.reduceToNat]
  by_cases h : (7 * (u a.toNat : Int) - (t a.toNat : Int)) ≤ 0
  · simp (disch := omega) only [L0, L1, L2, L3, L4, L5, L6, L7, L8, L9, L10, L12, L16, L20, L31, L40, L48, L56, L57, L59, L60, L63, L96, L98, L99, L100, L101, L103, L104, L111, L115, L116, L117, L127, L168, L192, L255, L560, L616, L999, L1000, L2000, iI_add, iI_sub, iI_mul, iI_neg, iI_lt, iI_le, iI_eq, rd_rn, wr_rn, rd_rq, wr_rq, Option.bind_some, ↓reduceIte, leT, leF, ltT, ltF, eqT, eqF, Int.toNat_natCast, Int.reduceAdd, Int.reduceSub, Int.reduceMul, Int.reduceToNat]
    exact sI (by omega)
  · simp (disch := omega) only [L0, L1, L2, L3, L4, L5, L6, L7, L8, L9, L10, L12, L16, L20, L31, L40, L48, L56, L57, L59, L60, L63, L96, L98, L99, L100, L101, L103, L104, L111, L115, L116, L117, L127, L168, L192, L255, L560, L616, L999, L1000, L2000, iI_add, iI_sub, iI_mul, iI_neg, iI_lt, iI_le, iI_eq, rd_rn, wr_rn, rd_rq, wr_rq, Option.bind_some, ↓reduceIte, leT, leF, ltT, ltF, eqT, eqF, Int.toNat_natCast, Int.reduceAdd, Int.reduceSub, Int.reduceMul, Int.reduceToNat]
    exact sI (by omega)
theorem s_X0_lackOfAll {u t : Nat → Nat} (hu : ∀ j, u j ≤ 9) (ht : ∀ j, t j ≤ 99) : X0_lackOfAll (rn 6 t) (rn 6 u) = some (iI (allk (lk 6 u t) : Int)) := by
  unfold X0_lackOfAll allk
  simp (disch := omega) only [L0, L1, L2, L3, L4, L5, L6, L7, L8, L9, L10, L12, L16, L20, L31, L40, L48, L56, L57, L59, L60, L63, L96, L98, L99, L100, L101, L103, L104, L111, L115, L116, L117, L127, L168, L192, L255, L560, L616, L999, L1000, L2000, iI_add, iI_sub, iI_mul, iI_neg, iI_lt, iI_le, iI_eq, rd_rn, wr_rn, rd_rq, wr_rq, Option.bind_some, ↓reduceIte, leT, leF, ltT, ltF, eqT, eqF, Int.toNat_natCast, Int.reduceAdd, Int.reduceSub, Int.reduceMul, Int.reduceToNat, X0_lackOfAll_L4, s_X0_lackOf hu ht]
  exact sI (by simp)
theorem ite_iI {c : Prop} [Decidable c] {a b : Int} : (if c then iI a else iI b) = iI (if c then a else b) := by split <;> rfl
theorem ite_some {α : Type} {c : Prop} [Decidable c] {a b : α} : (if c then some a else some b) = some (if c then a else b) := by split <;> rfl
theorem l_notLacked {u t : Nat → Nat} (hu : ∀ j, u j ≤ 9) (ht : ∀ j, t j ≤ 99) (k : Int32 → Option Int32) : ∀ (r s n c : Nat) (x y : Int32), x = iI (s : Int) → y = iI (c : Int) → s + r = 6 → r < n → c + r ≤ 100 → X0_notLacked_L4 k (rn 6 t) (rn 6 u) n y x = k (iI ((c + cn (lk 6 u t) r s : Nat) : Int)) := by
  intro r
  induction r with
  | zero =>
    intro s n c x y hx hy hs hn hc
    obtain ⟨n, rfl⟩ : ∃ m, n = m + 1 := ⟨n - 1, by omega⟩
    subst hx; subst hy
    rw [X0_notLacked_L4]
    simp (disch := omega) only [L0, L1, L2, L3, L4, L5, L6, L7, L8, L9, L10, L12, L16, L20, L31, L40, L48, L56, L57, L59, L60, L63, L96, L98, L99, L100, L101, L103, L104, L111, L115, L116, L117, L127, L168, L192, L255, L560, L616, L999, L1000, L2000, iI_add, iI_sub, iI_mul, iI_neg, iI_lt, iI_le, iI_eq, rd_rn, wr_rn, rd_rq, wr_rq, Option.bind_some, ↓reduceIte, leT, leF, ltT, ltF, eqT, eqF, Int.toNat_natCast, Int.reduceAdd, Int.reduceSub, Int.reduceMul, Int.reduceToNat]
    rfl
  | succ r ih =>
    intro s n c x y hx hy hs hn hc
    obtain ⟨n, rfl⟩ : ∃ m, n = m + 1 := ⟨n - 1, by omega⟩
    subst hx; subst hy
    have b := lk_le (fr := 6) (t := t) hu s
    rw [X0_notLacked_L4]
    simp (disch := omega) only [L0, L1, L2, L3, L4, L5, L6, L7, L8, L9, L10, L12, L16, L20, L31, L40, L48, L56, L57, L59, L60, L63, L96, L98, L99, L100, L101, L103, L104, L111, L115, L116, L117, L127, L168, L192, L255, L560, L616, L999, L1000, L2000, iI_add, iI_sub, iI_mul, iI_neg, iI_lt, iI_le, iI_eq, rd_rn, wr_rn, rd_rq, wr_rq, Option.bind_some, ↓reduceIte, leT, leF, ltT, ltF, eqT, eqF, Int.toNat_natCast, Int.reduceAdd, Int.reduceSub, Int.reduceMul, Int.reduceToNat, s_X0_lackOf hu ht]
    unfold cn
    by_cases h0 : lk 6 u t s = 0
    · simp (disch := omega) only [L0, L1, L2, L3, L4, L5, L6, L7, L8, L9, L10, L12, L16, L20, L31, L40, L48, L56, L57, L59, L60, L63, L96, L98, L99, L100, L101, L103, L104, L111, L115, L116, L117, L127, L168, L192, L255, L560, L616, L999, L1000, L2000, iI_add, iI_sub, iI_mul, iI_neg, iI_lt, iI_le, iI_eq, rd_rn, wr_rn, rd_rq, wr_rq, Option.bind_some, ↓reduceIte, leT, leF, ltT, ltF, eqT, eqF, Int.toNat_natCast, Int.reduceAdd, Int.reduceSub, Int.reduceMul, Int.reduceToNat]
      rw [ih (s + 1) n (c + 1) _ _ (iI_c (by omega)) (iI_c (by omega)) (by omega) (by omega) (by omega), if_pos h0]
      exact congrArg k (iI_c (by omega))
    · simp (disch := omega) only [L0, L1, L2, L3, L4, L5, L6, L7, L8, L9, L10, L12, L16, L20, L31, L40, L48, L56, L57, L59, L60, L63, L96, L98, L99, L100, L101, L103, L104, L111, L115, L116, L117, L127, L168, L192, L255, L560, L616, L999, L1000, L2000, iI_add, iI_sub, iI_mul, iI_neg, iI_lt, iI_le, iI_eq, rd_rn, wr_rn, rd_rq, wr_rq, Option.bind_some, ↓reduceIte, leT, leF, ltT, ltF, eqT, eqF, Int.toNat_natCast, Int.reduceAdd, Int.reduceSub, Int.reduceMul, Int.reduceToNat]
      rw [ih (s + 1) n c _ _ (iI_c (by omega)) rfl (by omega) (by omega) (by omega), if_neg h0]
      exact congrArg k (iI_c (by omega))
theorem s_X0_notLacked {u t : Nat → Nat} (hu : ∀ j, u j ≤ 9) (ht : ∀ j, t j ≤ 99) : X0_notLacked (rn 6 t) (rn 6 u) = some (iI (nlk (lk 6 u t) : Int)) := by
  unfold X0_notLacked
  rw [l_notLacked hu ht _ 6 0 1000 0 0 0 (by decide) (by decide) (by omega) (by omega) (by omega)]
  exact sI (by unfold nlk; omega)
theorem s_X0_draws {k f : Nat → Nat} {a : Int} (hk : ∀ j, k j ≤ 5) (hf : ∀ j, f j ≤ 9) (h0 : 0 ≤ a) (h1 : a < 7) : X0_draws (rn 7 k) (rn 7 f) (iI a) = some (iI (dr (k a.toNat) (f a.toNat) : Int)) := by
  have b := hk a.toNat
  have c := hf a.toNat
  unfold X0_draws dr
  rcases (by omega : k a.toNat = 0 ∨ k a.toNat = 1 ∨ k a.toNat = 2 ∨ k a.toNat = 3 ∨ k a.toNat = 4 ∨ k a.toNat = 5) with h | h | h | h | h | h <;> rw [h] <;> simp (disch := omega) only [L0, L1, L2, L3, L4, L5, L6, L7, L8, L9, L10, L12, L16, L20, L31, L40, L48, L56, L57, L59, L60, L63, L96, L98, L99, L100, L101, L103, L104, L111, L115, L116, L117, L127, L168, L192, L255, L560, L616, L999, L1000, L2000, iI_add, iI_sub, iI_mul, iI_neg, iI_lt, iI_le, iI_eq, rd_rn, wr_rn, rd_rq, wr_rq, Option.bind_some, ↓reduceIte, leT, leF, ltT, ltF, eqT, eqF, Int.toNat_natCast, Int.reduceAdd, Int.reduceSub, Int.reduceMul, Int.reduceToNat, iI_div] <;> exact sI (by simp <;> omega)
theorem s_X0_behind {a : Int} (h0 : 0 ≤ a) (h1 : a ≤ 5) : X0_behind (iI a) = some (iI (nx a.toNat : Int)) := by
  unfold X0_behind nx
  by_cases h : a = 5
  · simp (disch := omega) only [L0, L1, L2, L3, L4, L5, L6, L7, L8, L9, L10, L12, L16, L20, L31, L40, L48, L56, L57, L59, L60, L63, L96, L98, L99, L100, L101, L103, L104, L111, L115, L116, L117, L127, L168, L192, L255, L560, L616, L999, L1000, L2000, iI_add, iI_sub, iI_mul, iI_neg, iI_lt, iI_le, iI_eq, rd_rn, wr_rn, rd_rq, wr_rq, Option.bind_some, ↓reduceIte, leT, leF, ltT, ltF, eqT, eqF, Int.toNat_natCast, Int.reduceAdd, Int.reduceSub, Int.reduceMul, Int.reduceToNat]
    exact sI (by rw [if_pos (by omega)]; rfl)
  · simp (disch := omega) only [L0, L1, L2, L3, L4, L5, L6, L7, L8, L9, L10, L12, L16, L20, L31, L40, L48, L56, L57, L59, L60, L63, L96, L98, L99, L100, L101, L103, L104, L111, L115, L116, L117, L127, L168, L192, L255, L560, L616, L999, L1000, L2000, iI_add, iI_sub, iI_mul, iI_neg, iI_lt, iI_le, iI_eq, rd_rn, wr_rn, rd_rq, wr_rq, Option.bind_some, ↓reduceIte, leT, leF, ltT, ltF, eqT, eqF, Int.toNat_natCast, Int.reduceAdd, Int.reduceSub, Int.reduceMul, Int.reduceToNat]
    exact sI (by rw [if_neg (by omega)]; omega)
theorem s_X0_hiddenOf {hd : Nat → Nat} {a : Int} (h0 : 0 ≤ a) (h1 : a ≤ 5) : X0_hiddenOf (rn 6 hd) (iI a) = some (iI (hd a.toNat : Int)) := by
  unfold X0_hiddenOf
  simp (disch := omega) only [L0, L1, L2, L3, L4, L5, L6, L7, L8, L9, L10, L12, L16, L20, L31, L40, L48, L56, L57, L59, L60, L63, L96, L98, L99, L100, L101, L103, L104, L111, L115, L116, L117, L127, L168, L192, L255, L560, L616, L999, L1000, L2000, iI_add, iI_sub, iI_mul, iI_neg, iI_lt, iI_le, iI_eq, rd_rn, wr_rn, rd_rq, wr_rq, Option.bind_some, ↓reduceIte, leT, leF, ltT, ltF, eqT, eqF, Int.toNat_natCast, Int.reduceAdd, Int.reduceSub, Int.reduceMul, Int.reduceToNat]
theorem s_X0_sinks {u t hd k g : Nat → Nat} {co : Nat} {a : Int} (hu : ∀ j, u j ≤ 9) (ht : ∀ j, t j ≤ 99) (hh : ∀ j, hd j ≤ 1000) (hk : ∀ j, k j ≤ 5) (hg : ∀ j, g j ≤ 5) (hco : co ≤ 99) (h0 : 0 ≤ a) (h1 : a < 7) : X0_sinks (rn 6 t) (rn 6 u) (rn 6 hd) (rn 7 k) (rn 7 g) (iI co) (iI a) = some (iI (sk (lk 6 u t) hd co (k a.toNat) (g a.toNat) : Int)) := by
  have b := hk a.toNat
  have c := hg a.toNat
  have d := hh (g a.toNat)
  have e := nx_lt c
  have l1 := lk_le (fr := 6) (t := t) hu (g a.toNat)
  have l2 := lk_le (fr := 6) (t := t) hu (nx (g a.toNat))
  unfold X0_sinks sk
  rcases (by omega : k a.toNat = 0 ∨ k a.toNat = 1 ∨ k a.toNat = 2 ∨ k a.toNat = 3 ∨ k a.toNat = 4 ∨ k a.toNat = 5) with h | h | h | h | h | h <;> rw [h] <;> simp (disch := omega) only [L0, L1, L2, L3, L4, L5, L6, L7, L8, L9, L10, L12, L16, L20, L31, L40, L48, L56, L57, L59, L60, L63, L96, L98, L99, L100, L101, L103, L104, L111, L115, L116, L117, L127, L168, L192, L255, L560, L616, L999, L1000, L2000, iI_add, iI_sub, iI_mul, iI_neg, iI_lt, iI_le, iI_eq, rd_rn, wr_rn, rd_rq, wr_rq, Option.bind_some, ↓reduceIte, leT, leF, ltT, ltF, eqT, eqF, Int.toNat_natCast, Int.reduceAdd, Int.reduceSub, Int.reduceMul, Int.reduceToNat, iI_div, s_X0_lackOf hu ht, s_X0_notLacked hu ht, s_X0_behind, s_X0_hiddenOf] <;> exact sI (by simp <;> omega)
theorem s_X0_brings {k g l : Nat → Nat} {a c : Int} (hk : ∀ j, k j ≤ 5) (hg : ∀ j, g j ≤ 5) (hl : ∀ j, l j ≤ 99) (h0 : 0 ≤ a) (h1 : a < 7) (h2 : 0 ≤ c) (h3 : c < 6) : X0_brings (rn 7 k) (rn 7 g) (rn 7 l) (iI a) (iI c) = some (iI (br (k a.toNat) (g a.toNat) (l a.toNat) c.toNat : Int)) := by
  have b1 := hk a.toNat
  have b2 := hg a.toNat
  have b3 := hl a.toNat
  have b4 := nx_lt b2
  have e3 : ¬ nx (g a.toNat) = g a.toNat := by unfold nx; split <;> omega
  unfold X0_brings br
  rcases (by omega : k a.toNat = 0 ∨ k a.toNat = 1 ∨ k a.toNat = 2 ∨ k a.toNat = 3 ∨ k a.toNat = 4 ∨ k a.toNat = 5) with h | h | h | h | h | h <;> rw [h] <;> by_cases e1 : c.toNat = g a.toNat <;> by_cases e2 : c.toNat = nx (g a.toNat) <;> simp (disch := omega) only [L0, L1, L2, L3, L4, L5, L6, L7, L8, L9, L10, L12, L16, L20, L31, L40, L48, L56, L57, L59, L60, L63, L96, L98, L99, L100, L101, L103, L104, L111, L115, L116, L117, L127, L168, L192, L255, L560, L616, L999, L1000, L2000, iI_add, iI_sub, iI_mul, iI_neg, iI_lt, iI_le, iI_eq, rd_rn, wr_rn, rd_rq, wr_rq, Option.bind_some, ↓reduceIte, leT, leF, ltT, ltF, eqT, eqF, Int.toNat_natCast, Int.reduceAdd, Int.reduceSub, Int.reduceMul, Int.reduceToNat, iI_div, s_X0_behind] <;> first | omega | exact sI (by simp [e1, e2, e3, Ne.symm e3] <;> omega)
/-! the SHIPS that are IN, as bits -/
def mk (i : Nat → Nat) : Nat := i 0 + 2 * i 1 + 4 * i 2 + 8 * i 3 + 16 * i 4 + 32 * i 5 + 64 * i 6
theorem mk_lt {i : Nat → Nat} (hi : ∀ j, i j ≤ 1) : mk i < 128 := by
  have := hi 0; have := hi 1; have := hi 2; have := hi 3; have := hi 4; have := hi 5; have := hi 6
  unfold mk; omega
theorem mk_bit {i : Nat → Nat} (hi : ∀ j, i j ≤ 1) {s : Nat} (hs : s < 7) : mk i / 2 ^ s % 2 = i s := by
  have := hi 0; have := hi 1; have := hi 2; have := hi 3; have := hi 4; have := hi 5; have := hi 6
  unfold mk
  rcases (by omega : s = 0 ∨ s = 1 ∨ s = 2 ∨ s = 3 ∨ s = 4 ∨ s = 5 ∨ s = 6) with rfl | rfl | rfl | rfl | rfl | rfl | rfl <;> simp <;> omega
theorem mk_up {i : Nat → Nat} {s v : Nat} (hs : s < 7) : mk (upN i s v) + 2 ^ s * i s = mk i + 2 ^ s * v := by
  unfold mk upN
  rcases (by omega : s = 0 ∨ s = 1 ∨ s = 2 ∨ s = 3 ∨ s = 4 ∨ s = 5 ∨ s = 6) with rfl | rfl | rfl | rfl | rfl | rfl | rfl <;> simp <;> omega
theorem tb_bit : (List.range 128).all (fun m => (List.range 7).all (fun s => decide (((iI (m : Int) >>> (iI (s : Int) &&& iI 31)) &&& iI 1) = iI ((m / 2 ^ s % 2 : Nat) : Int)))) = true := by decide +kernel
theorem tb_set : (List.range 128).all (fun m => (List.range 7).all (fun s => decide ((iI (m : Int) ||| (iI 1 <<< (iI (s : Int) &&& iI 31))) = iI ((m + 2 ^ s * (1 - m / 2 ^ s % 2) : Nat) : Int)))) = true := by decide +kernel
theorem tb_clr : (List.range 128).all (fun m => (List.range 7).all (fun s => decide ((iI (m : Int) &&& ((iI 1 <<< (iI (s : Int) &&& iI 31)) ^^^ iI (-1))) = iI ((m - 2 ^ s * (m / 2 ^ s % 2) : Nat) : Int)))) = true := by decide +kernel
theorem all2 {n m : Nat} {P : Nat → Nat → Prop} [∀ a b, Decidable (P a b)] (h : (List.range n).all (fun a => (List.range m).all (fun b => decide (P a b))) = true) {a b : Nat} (ha : a < n) (hb : b < m) : P a b := by
  have h1 := List.all_eq_true.mp h a (List.mem_range.mpr ha)
  have h2 := List.all_eq_true.mp h1 b (List.mem_range.mpr hb)
  exact of_decide_eq_true h2
theorem bit_rd {m : Nat} {a : Int} (hm : m < 128) (h0 : 0 ≤ a) (h1 : a < 7) : ((iI (m : Int) >>> (iI a &&& iI 31)) &&& iI 1) = iI ((m / 2 ^ a.toNat % 2 : Nat) : Int) := by
  obtain ⟨s, rfl⟩ := Int.eq_ofNat_of_zero_le h0
  exact all2 tb_bit hm (by omega)
theorem bit_set {m : Nat} {a : Int} (hm : m < 128) (h0 : 0 ≤ a) (h1 : a < 7) : (iI (m : Int) ||| (iI 1 <<< (iI a &&& iI 31))) = iI ((m + 2 ^ a.toNat * (1 - m / 2 ^ a.toNat % 2) : Nat) : Int) := by
  obtain ⟨s, rfl⟩ := Int.eq_ofNat_of_zero_le h0
  exact all2 tb_set hm (by omega)
theorem bit_clr {m : Nat} {a : Int} (hm : m < 128) (h0 : 0 ≤ a) (h1 : a < 7) : (iI (m : Int) &&& ((iI 1 <<< (iI a &&& iI 31)) ^^^ iI (-1))) = iI ((m - 2 ^ a.toNat * (m / 2 ^ a.toNat % 2) : Nat) : Int) := by
  obtain ⟨s, rfl⟩ := Int.eq_ofNat_of_zero_le h0
  exact all2 tb_clr hm (by omega)
theorem s_X0_isIn {i : Nat → Nat} {a : Int} (hi : ∀ j, i j ≤ 1) (h0 : 0 ≤ a) (h1 : a < 7) : X0_isIn (iI (mk i : Int)) (iI a) = some (iI (i a.toNat : Int)) := by
  have b := hi a.toNat
  unfold X0_isIn
  simp (disch := omega) only [L0, L1, L2, L3, L4, L5, L6, L7, L8, L9, L10, L12, L16, L20, L31, L40, L48, L56, L57, L59, L60, L63, L96, L98, L99, L100, L101, L103, L104, L111, L115, L116, L117, L127, L168, L192, L255, L560, L616, L999, L1000, L2000, iI_add, iI_sub, iI_mul, iI_neg, iI_lt, iI_le, iI_eq, rd_rn, wr_rn, rd_rq, wr_rq, Option.bind_some, ↓reduceIte, leT, leF, ltT, ltF, eqT, eqF, Int.toNat_natCast, Int.reduceAdd, Int.reduceSub, Int.reduceMul, Int.reduceToNat, bit_rd (mk_lt hi), mk_bit hi]
  rcases (by omega : i a.toNat = 0 ∨ i a.toNat = 1) with h | h <;> rw [h] <;> simp (disch := omega) only [L0, L1, L2, L3, L4, L5, L6, L7, L8, L9, L10, L12, L16, L20, L31, L40, L48, L56, L57, L59, L60, L63, L96, L98, L99, L100, L101, L103, L104, L111, L115, L116, L117, L127, L168, L192, L255, L560, L616, L999, L1000, L2000, iI_add, iI_sub, iI_mul, iI_neg, iI_lt, iI_le, iI_eq, rd_rn, wr_rn, rd_rq, wr_rq, Option.bind_some, ↓reduceIte, leT, leF, ltT, ltF, eqT, eqF, Int.toNat_natCast, Int.reduceAdd, Int.reduceSub, Int.reduceMul, Int.reduceToNat] <;> rfl
theorem s_X0_sendOut {i : Nat → Nat} {a : Int} (hi : ∀ j, i j ≤ 1) (h0 : 0 ≤ a) (h1 : a < 7) : X0_sendOut (iI (mk i : Int)) (iI a) = some (iI (mk (upN i a.toNat 0) : Int)) := by
  unfold X0_sendOut
  rw [show (-1 : Int32) = iI (-1) by decide, L1, L31, bit_clr (mk_lt hi) h0 h1, mk_bit hi (by omega)]
  have := mk_up (i := i) (s := a.toNat) (v := 0) (by omega)
  exact sI (by omega)
theorem tb_tide : (List.range 2100).all (fun d => decide (X4_tideOf (iI (d : Int)) = some (iI (td d : Int)))) = true := by decide +kernel
theorem s_X4_tideOf {a : Int} (h0 : 0 ≤ a) (h1 : a < 2100) : X4_tideOf (iI a) = some (iI (td a.toNat : Int)) := by
  obtain ⟨s, rfl⟩ := Int.eq_ofNat_of_zero_le h0
  exact of_decide_eq_true (List.all_eq_true.mp tb_tide s (List.mem_range.mpr (by omega)))
theorem s_X0_depth {u t hd k g : Nat → Nat} {co d : Nat} {a : Int} (hu : ∀ j, u j ≤ 9) (ht : ∀ j, t j ≤ 99) (hh : ∀ j, hd j ≤ 1000) (hk : ∀ j, k j ≤ 5) (hg : ∀ j, g j ≤ 5) (hco : co ≤ 99) (hd2 : d < 2100) (h0 : 0 ≤ a) (h1 : a < 7) : X0_depth (rn 6 t) (rn 6 u) (rn 6 hd) (rn 7 k) (rn 7 g) (iI co) (iI d) (iI a) = some (iI ((td d + sk (lk 6 u t) hd co (k a.toNat) (g a.toNat) : Nat) : Int)) := by
  unfold X0_depth
  simp (disch := omega) only [L0, L1, L2, L3, L4, L5, L6, L7, L8, L9, L10, L12, L16, L20, L31, L40, L48, L56, L57, L59, L60, L63, L96, L98, L99, L100, L101, L103, L104, L111, L115, L116, L117, L127, L168, L192, L255, L560, L616, L999, L1000, L2000, iI_add, iI_sub, iI_mul, iI_neg, iI_lt, iI_le, iI_eq, rd_rn, wr_rn, rd_rq, wr_rq, Option.bind_some, ↓reduceIte, leT, leF, ltT, ltF, eqT, eqF, Int.toNat_natCast, Int.reduceAdd, Int.reduceSub, Int.reduceMul, Int.reduceToNat, s_X4_tideOf, s_X0_sinks hu ht hh hk hg hco]
  exact sI (by omega)
/-- THERE, when a SHIP has come IN -/
def tin (t : Nat → Nat) (k g l : Nat) : Nat → Nat := fun j => min 99 (t j + br k g l j)
theorem br_le {k g l j : Nat} (h : l ≤ 99) : br k g l j ≤ 99 := by
  unfold br
  repeat' split
  all_goals omega
theorem six {P : Nat → Prop} (h0 : P 0) (h1 : P 1) (h2 : P 2) (h3 : P 3) (h4 : P 4) (h5 : P 5) : ∀ j, j < 6 → P j := by
  intro j hj
  rcases (by omega : j = 0 ∨ j = 1 ∨ j = 2 ∨ j = 3 ∨ j = 4 ∨ j = 5) with rfl | rfl | rfl | rfl | rfl | rfl <;> assumption
theorem stepW {w f t : Nat → Nat} {s v : Nat} (hw : ∀ j, w j = if j < s then f j else t j) (hv : v = f s) : ∀ j, upN w s v j = if j < s + 1 then f j else t j := by
  intro j
  unfold upN
  by_cases h : j = s
  · subst h
    rw [if_pos rfl, if_pos (by omega)]; exact hv
  · rw [if_neg h, hw j]
    by_cases h1 : j < s
    · rw [if_pos h1, if_pos (by omega)]
    · rw [if_neg h1, if_neg (by omega)]
theorem endW {w f t : Nat → Nat} {n : Nat} (hw : ∀ j, w j = if j < n then f j else t j) : rn n w = rn n f := rn_congr (fun j hj => by rw [hw j, if_pos hj])
theorem l_letIn {t k g l : Nat → Nat} {a : Int} (ht : ∀ j, t j ≤ 99) (hk : ∀ j, k j ≤ 5) (hg : ∀ j, g j ≤ 5) (hl : ∀ j, l j ≤ 99) (h0 : 0 ≤ a) (h1 : a < 7) (K : List Int32 → Option (List Int32 × Int32 × Int32)) : ∀ (r s n : Nat) (x : Int32) (w : Nat → Nat), x = iI (s : Int) → s + r = 6 → r < n → (∀ j, w j = if j < s then tin t (k a.toNat) (g a.toNat) (l a.toNat) j else t j) → X0_letIn_L2 K (rn 7 k) (rn 7 g) (rn 7 l) (iI a) n x (rn 6 w) = K (rn 6 (tin t (k a.toNat) (g a.toNat) (l a.toNat))) := by
  intro r
  induction r with
  | zero =>
    intro s n x w hx hs hn hw
    obtain ⟨n, rfl⟩ : ∃ m, n = m + 1 := ⟨n - 1, by omega⟩
    subst hx
    rw [X0_letIn_L2]
    simp (disch := omega) only [L0, L1, L2, L3, L4, L5, L6, L7, L8, L9, L10, L12, L16, L20, L31, L40, L48, L56, L57, L59, L60, L63, L96, L98, L99, L100, L101, L103, L104, L111, L115, L116, L117, L127, L168, L192, L255, L560, L616, L999, L1000, L2000, iI_add, iI_sub, iI_mul, iI_neg, iI_lt, iI_le, iI_eq, rd_rn, wr_rn, rd_rq, wr_rq, Option.bind_some, ↓reduceIte, leT, leF, ltT, ltF, eqT, eqF, Int.toNat_natCast, Int.reduceAdd, Int.reduceSub, Int.reduceMul, Int.reduceToNat]
    rw [show s = 6 by omega] at hw
    rw [endW hw]
  | succ r ih =>
    intro s n x w hx hs hn hw
    obtain ⟨n, rfl⟩ : ∃ m, n = m + 1 := ⟨n - 1, by omega⟩
    subst hx
    have b := br_le (k := k a.toNat) (g := g a.toNat) (j := s) (hl a.toNat)
    have b1 := ht s
    have b2 : w s = t s := by rw [hw s, if_neg (by omega)]
    rw [X0_letIn_L2]
    simp (disch := omega) only [L0, L1, L2, L3, L4, L5, L6, L7, L8, L9, L10, L12, L16, L20, L31, L40, L48, L56, L57, L59, L60, L63, L96, L98, L99, L100, L101, L103, L104, L111, L115, L116, L117, L127, L168, L192, L255, L560, L616, L999, L1000, L2000, iI_add, iI_sub, iI_mul, iI_neg, iI_lt, iI_le, iI_eq, rd_rn, wr_rn, rd_rq, wr_rq, Option.bind_some, ↓reduceIte, leT, leF, ltT, ltF, eqT, eqF, Int.toNat_natCast, Int.reduceAdd, Int.reduceSub, Int.reduceMul, Int.reduceToNat, s_X0_brings hk hg hl, mmin_iI]
    exact ih (s + 1) n _ _ (iI_c (by omega)) (by omega) (by omega) (stepW hw (by unfold tin; omega))
theorem s_X0_letIn {t k g l i : Nat → Nat} {co : Nat} {a : Int} (ht : ∀ j, t j ≤ 99) (hk : ∀ j, k j ≤ 5) (hg : ∀ j, g j ≤ 5) (hl : ∀ j, l j ≤ 99) (hi : ∀ j, i j ≤ 1) (hco : co ≤ 99) (h0 : 0 ≤ a) (h1 : a < 7) (hin : i a.toNat = 0) : X0_letIn (rn 6 t) (rn 7 k) (rn 7 g) (rn 7 l) (iI (mk i : Int)) (iI co) (iI a) = some (rn 6 (tin t (k a.toNat) (g a.toNat) (l a.toNat)), iI (mk (upN i a.toNat 1) : Int), iI ((if k a.toNat = 3 then co - 9 else co : Nat) : Int)) := by
  have b1 := hk a.toNat
  have e : (iI (mk i : Int) ||| ((1 : Int32) <<< (iI a &&& (31 : Int32)))) = iI (mk (upN i a.toNat 1) : Int) := by
    rw [L1, L31, bit_set (mk_lt hi) h0 h1, mk_bit hi (by omega), hin]
    have := mk_up (i := i) (s := a.toNat) (v := 1) (by omega)
    rw [hin] at this
    exact iI_c (by omega)
  unfold X0_letIn
  rw [l_letIn ht hk hg hl h0 h1 _ 6 0 1000 0 t (by decide) (by omega) (by omega) (fun j => by rw [if_neg (by omega)]), e]
  by_cases h : k a.toNat = 3
  · simp (disch := omega) only [L0, L1, L2, L3, L4, L5, L6, L7, L8, L9, L10, L12, L16, L20, L31, L40, L48, L56, L57, L59, L60, L63, L96, L98, L99, L100, L101, L103, L104, L111, L115, L116, L117, L127, L168, L192, L255, L560, L616, L999, L1000, L2000, iI_add, iI_sub, iI_mul, iI_neg, iI_lt, iI_le, iI_eq, rd_rn, wr_rn, rd_rq, wr_rq, Option.bind_some, ↓reduceIte, leT, leF, ltT, ltF, eqT, eqF, Int.toNat_natCast, Int.reduceAdd, Int.reduceSub, Int.reduceMul, Int.reduceToNat, mmax_iI]
    rw [if_pos h, show (max 0 ((co : Int) - 9)) = ((co - 9 : Nat) : Int) by omega]
  · simp (disch := omega) only [L0, L1, L2, L3, L4, L5, L6, L7, L8, L9, L10, L12, L16, L20, L31, L40, L48, L56, L57, L59, L60, L63, L96, L98, L99, L100, L101, L103, L104, L111, L115, L116, L117, L127, L168, L192, L255, L560, L616, L999, L1000, L2000, iI_add, iI_sub, iI_mul, iI_neg, iI_lt, iI_le, iI_eq, rd_rn, wr_rn, rd_rq, wr_rq, Option.bind_some, ↓reduceIte, leT, leF, ltT, ltF, eqT, eqF, Int.toNat_natCast, Int.reduceAdd, Int.reduceSub, Int.reduceMul, Int.reduceToNat]
    rw [if_neg h]
