/-! arguments, and what is refused -/
set_option maxRecDepth 20000 in
set_option maxHeartbeats 400000 in
theorem s_refuse {R : List Int32} {c : Nat} (hR : R.length = 7) (h0 : 0 < c) (h1 : c < 7) : X4_refuse R (iI (-(c : Int))) = some (incR R c, iI (-(c : Int))) := by
  unfold X4_refuse
  rw [iI_neg, show (-(-(c : Int))) = (c : Int) by omega, L0, hR, iI_len, if_neg (fle (by omega) (by omega) (by omega)), if_neg (fle (by omega) (by omega) (by omega)), rdL (by omega) (by omega), Option.bind_some, wrL (by omega) (by omega), Option.bind_some]
  rfl
set_option maxRecDepth 20000 in
set_option maxHeartbeats 400000 in
theorem r1 {R : List Int32} (hR : R.length = 7) : X4_refuse R (-1) = some (incR R 1, -1) := s_refuse (c := 1) hR (by omega) (by omega)
set_option maxRecDepth 20000 in
set_option maxHeartbeats 400000 in
theorem r3 {R : List Int32} (hR : R.length = 7) : X4_refuse R (-3) = some (incR R 3, -3) := s_refuse (c := 3) hR (by omega) (by omega)
set_option maxRecDepth 20000 in
set_option maxHeartbeats 400000 in
theorem r4 {R : List Int32} (hR : R.length = 7) : X4_refuse R (-4) = some (incR R 4, -4) := s_refuse (c := 4) hR (by omega) (by omega)
set_option maxRecDepth 20000 in
set_option maxHeartbeats 400000 in
theorem r6 {R : List Int32} (hR : R.length = 7) : X4_refuse R (-6) = some (incR R 6, -6) := s_refuse (c := 6) hR (by omega) (by omega)
set_option maxRecDepth 20000 in
set_option maxHeartbeats 400000 in
theorem q_isShip {sh s : Nat} (hsh : sh ≤ 7) (hs : s < sh) : X0_isShip (iI sh) (iI s) = some 1 := by
  unfold X0_isShip
  rw [L0, L7, if_neg (flt (by omega) (by omega) (by omega)), if_neg (fle (by omega) (by omega) (by omega)), if_neg (fle (by omega) (by omega) (by omega))]
set_option maxRecDepth 20000 in
set_option maxHeartbeats 400000 in
theorem q_isGood {a : Nat} (ha : a < 6) : X4_isGood (iI a) = some 1 := by
  unfold X4_isGood
  rw [L0, L6, if_neg (flt (by omega) (by omega) (by omega)), if_neg (fle (by omega) (by omega) (by omega))]
set_option maxRecDepth 20000 in
set_option maxHeartbeats 400000 in
theorem s_isGoodN {a : Nat} (ha : a ≤ 99) : X4_isGood (iI (a : Int)) = some (if a < 6 then 1 else 0) := by
  unfold X4_isGood
  rw [L0, L6, if_neg (flt (by omega) (by omega) (by omega))]
  by_cases h : a < 6
  · rw [if_neg (fle (by omega) (by omega) (by omega)), if_pos h]
  · rw [if_pos (tle (by omega) (by omega) (by omega)), if_neg h]
set_option maxRecDepth 20000 in
set_option maxHeartbeats 400000 in
theorem q_misfit {lo hi n : Int} (h1 : lo ≤ n) (h2 : n ≤ hi) (h3 : -1000 ≤ lo) (h4 : hi ≤ 100000) : X4_misfit (iI n) (iI lo) (iI hi) = some 0 := by
  unfold X4_misfit
  rw [if_pos (tle (by omega) (by omega) (by omega)), if_pos (tle (by omega) (by omega) (by omega))]
set_option maxRecDepth 20000 in
set_option maxHeartbeats 400000 in
theorem fit_cases {lo hi : Nat} (hl : lo ≤ 100000) (hh : hi ≤ 100000) (p : Int32) : (∃ n, lo ≤ n ∧ n ≤ hi ∧ p = iI (n : Nat) ∧ X4_misfit p (iI lo) (iI hi) = some 0) ∨ (X4_misfit p (iI lo) (iI hi) = some (-4)) ∨ (X4_misfit p (iI lo) (iI hi) = some (-6)) := by
  have hb1 := Int32.le_toInt p
  have hb2 := Int32.toInt_lt p
  have e : p = iI p.toInt := (iI_of p).symm
  generalize p.toInt = a at *
  subst e
  unfold X4_misfit
  by_cases h0 : (lo : Int) ≤ a
  · rw [if_pos (tle h0 (by omega) (by omega))]
    by_cases h1 : a ≤ (hi : Int)
    · rw [if_pos (tle h1 (by omega) (by omega))]
      exact Or.inl ⟨a.toNat, by omega, by omega, iI_c (by omega), rfl⟩
    · rw [if_neg (fle (by omega) (by omega) (by omega))]
      exact Or.inr (Or.inr rfl)
  · rw [if_neg (fle (by omega) (by omega) (by omega))]
    exact Or.inr (Or.inl rfl)
set_option maxRecDepth 20000 in
set_option maxHeartbeats 400000 in
theorem hide_cases {t hd : Nat → Nat} {a : Nat} (ht : ∀ j, t j ≤ 99) (hh : ∀ j, hd j ≤ 99) (ha : a < 6) (p : Int32) : (∃ n : Int, p = iI n ∧ -(hd a : Int) ≤ n ∧ n ≤ (t a : Int) ∧ n ≤ 99 - (hd a : Int) ∧ (t a : Int) - 99 ≤ n ∧ X0_canHide (rn 6 t) (rn 6 hd) (iI (a : Int)) p = some 1) ∨ (X0_canHide (rn 6 t) (rn 6 hd) (iI (a : Int)) p = some 0) := by
  have hb1 := Int32.le_toInt p
  have hb2 := Int32.toInt_lt p
  have e : p = iI p.toInt := (iI_of p).symm
  generalize p.toInt = m at *
  subst e
  have b1 := ht a
  have b2 := hh a
  unfold X0_canHide
  by_cases c : -(hd a : Int) ≤ m ∧ m ≤ (t a : Int) ∧ m ≤ 99 - (hd a : Int) ∧ (t a : Int) - 99 ≤ m
  · obtain ⟨c1, c2, c3, c4⟩ := c
    refine Or.inl ⟨m, rfl, c1, c2, c3, c4, ?_⟩
    simp (disch := omega) only [L0, L1, L2, L3, L4, L5, L6, L7, L8, L9, L10, L12, L16, L20, L31, L40, L48, L56, L57, L59, L60, L63, L96, L98, L99, L100, L101, L103, L104, L111, L115, L116, L117, L127, L168, L192, L255, L560, L616, L999, L1000, L2000, iI_add, iI_sub, iI_mul, iI_neg, iI_lt, iI_le, iI_eq, rd_rn, wr_rn, rd_rq, wr_rq, Option.bind_some, not_false_eq_true, not_true_eq_false, ↓reduceIte, leT, leF, ltT, ltF, eqT, eqF, Int.toNat_natCast, Int.reduceAdd, Int.reduceSub, Int.reduceMul, Int.reduceToNat]
  · refine Or.inr ?_
    by_cases c1 : m < -(hd a : Int)
    · simp (disch := omega) only [L0, L1, L2, L3, L4, L5, L6, L7, L8, L9, L10, L12, L16, L20, L31, L40, L48, L56, L57, L59, L60, L63, L96, L98, L99, L100, L101, L103, L104, L111, L115, L116, L117, L127, L168, L192, L255, L560, L616, L999, L1000, L2000, iI_add, iI_sub, iI_mul, iI_neg, iI_lt, iI_le, iI_eq, rd_rn, wr_rn, rd_rq, wr_rq, Option.bind_some, not_false_eq_true, not_true_eq_false, ↓reduceIte, leT, leF, ltT, ltF, eqT, eqF, Int.toNat_natCast, Int.reduceAdd, Int.reduceSub, Int.reduceMul, Int.reduceToNat]
    by_cases c2 : (t a : Int) < m
    · simp (disch := omega) only [L0, L1, L2, L3, L4, L5, L6, L7, L8, L9, L10, L12, L16, L20, L31, L40, L48, L56, L57, L59, L60, L63, L96, L98, L99, L100, L101, L103, L104, L111, L115, L116, L117, L127, L168, L192, L255, L560, L616, L999, L1000, L2000, iI_add, iI_sub, iI_mul, iI_neg, iI_lt, iI_le, iI_eq, rd_rn, wr_rn, rd_rq, wr_rq, Option.bind_some, not_false_eq_true, not_true_eq_false, ↓reduceIte, leT, leF, ltT, ltF, eqT, eqF, Int.toNat_natCast, Int.reduceAdd, Int.reduceSub, Int.reduceMul, Int.reduceToNat]
    by_cases c3 : 99 - (hd a : Int) < m
    · simp (disch := omega) only [L0, L1, L2, L3, L4, L5, L6, L7, L8, L9, L10, L12, L16, L20, L31, L40, L48, L56, L57, L59, L60, L63, L96, L98, L99, L100, L101, L103, L104, L111, L115, L116, L117, L127, L168, L192, L255, L560, L616, L999, L1000, L2000, iI_add, iI_sub, iI_mul, iI_neg, iI_lt, iI_le, iI_eq, rd_rn, wr_rn, rd_rq, wr_rq, Option.bind_some, not_false_eq_true, not_true_eq_false, ↓reduceIte, leT, leF, ltT, ltF, eqT, eqF, Int.toNat_natCast, Int.reduceAdd, Int.reduceSub, Int.reduceMul, Int.reduceToNat]
    simp (disch := omega) only [L0, L1, L2, L3, L4, L5, L6, L7, L8, L9, L10, L12, L16, L20, L31, L40, L48, L56, L57, L59, L60, L63, L96, L98, L99, L100, L101, L103, L104, L111, L115, L116, L117, L127, L168, L192, L255, L560, L616, L999, L1000, L2000, iI_add, iI_sub, iI_mul, iI_neg, iI_lt, iI_le, iI_eq, rd_rn, wr_rn, rd_rq, wr_rq, Option.bind_some, not_false_eq_true, not_true_eq_false, ↓reduceIte, leT, leF, ltT, ltF, eqT, eqF, Int.toNat_natCast, Int.reduceAdd, Int.reduceSub, Int.reduceMul, Int.reduceToNat]
set_option maxRecDepth 20000 in
set_option maxHeartbeats 400000 in
theorem q_canHide {t hd : Nat → Nat} {a : Nat} {m : Int} (ht : ∀ j, t j ≤ 99) (hh : ∀ j, hd j ≤ 99) (ha : a < 6) (c1 : -(hd a : Int) ≤ m) (c2 : m ≤ (t a : Int)) (c3 : m ≤ 99 - (hd a : Int)) (c4 : (t a : Int) - 99 ≤ m) : X0_canHide (rn 6 t) (rn 6 hd) (iI (a : Int)) (iI m) = some 1 := by
  have b1 := ht a
  have b2 := hh a
  unfold X0_canHide
  simp (disch := omega) only [L0, L1, L2, L3, L4, L5, L6, L7, L8, L9, L10, L12, L16, L20, L31, L40, L48, L56, L57, L59, L60, L63, L96, L98, L99, L100, L101, L103, L104, L111, L115, L116, L117, L127, L168, L192, L255, L560, L616, L999, L1000, L2000, iI_add, iI_sub, iI_mul, iI_neg, iI_lt, iI_le, iI_eq, rd_rn, wr_rn, rd_rq, wr_rq, Option.bind_some, not_false_eq_true, not_true_eq_false, ↓reduceIte, leT, leF, ltT, ltF, eqT, eqF, Int.toNat_natCast, Int.reduceAdd, Int.reduceSub, Int.reduceMul, Int.reduceToNat]
/-! what was -/
def HJ (b : Nat) (perm : Nat → Nat) (hist : Nat → Hs) : Prop := b ≤ 8 ∧ (∀ j, j < 8 → perm j < 8) ∧ (∀ i j, i < 8 → j < 8 → perm i = perm j → i = j) ∧ (∀ j, j < 8 → MJ (hist j)) ∧ ∃ Sf : Nat → SS, ∀ j, j < b → OkS (Sf j) ∧ hist (perm j) = picH (Sf j)
/-- the latest that was kept is Z -/
def Top (Z : SS) (b : Nat) (perm : Nat → Nat) (hist : Nat → Hs) : Prop := 1 ≤ b ∧ hist (perm (b - 1)) = picH Z
set_option maxRecDepth 20000 in
set_option maxHeartbeats 400000 in
theorem HJ.zero {b : Nat} {perm : Nat → Nat} {hist : Nat → Hs} (h : HJ b perm hist) : HJ 0 perm hist := by
  obtain ⟨h1, h2, h3, h4, Sf, h5⟩ := h
  exact ⟨by omega, h2, h3, h4, Sf, fun j hj => absurd hj (by omega)⟩
set_option maxRecDepth 20000 in
set_option maxHeartbeats 400000 in
theorem HJ.more {b : Nat} {perm : Nat → Nat} {hist : Nat → Hs} {S : SS} (h : HJ b perm hist) (hb : b < 8) (hS : OkS S) : HJ (b + 1) perm (uph hist (perm b) (picH S)) := by
  obtain ⟨h1, h2, h3, h4, Sf, h5⟩ := h
  refine ⟨by omega, h2, h3, fun j hj => ?_, fun j => if j = b then S else Sf j, fun j hj => ?_⟩
  · unfold uph
    by_cases c : j = perm b
    · rw [if_pos c]; exact picMJ
    · rw [if_neg c]; exact h4 j hj
  · by_cases c : j = b
    · subst c
      dsimp only
      rw [if_pos rfl]
      refine ⟨hS, ?_⟩
      unfold uph
      rw [if_pos rfl]
    · dsimp only
      rw [if_neg c]
      obtain ⟨k1, k2⟩ := h5 j (by omega)
      refine ⟨k1, ?_⟩
      unfold uph
      rw [if_neg (fun z => c (h3 j b (by omega) hb z))]
      exact k2
set_option maxRecDepth 20000 in
set_option maxHeartbeats 400000 in
theorem Top.more {b : Nat} {perm : Nat → Nat} {hist : Nat → Hs} {S : SS} : Top S (b + 1) perm (uph hist (perm b) (picH S)) := by
  refine ⟨by omega, ?_⟩
  rw [Nat.add_sub_cancel]
  unfold uph
  rw [if_pos rfl]
set_option maxRecDepth 20000 in
set_option maxHeartbeats 400000 in
theorem HJ.shift {perm : Nat → Nat} {hist : Nat → Hs} (h : HJ 8 perm hist) : HJ 7 (rotp perm) hist := by
  obtain ⟨h1, h2, h3, h4, Sf, h5⟩ := h
  have r7 : ∀ j, j < 7 → rotp perm j = perm (j + 1) := fun j hj => by unfold rotp; rw [if_pos hj]
  have r8 : rotp perm 7 = perm 0 := by unfold rotp; rw [if_neg (by omega), if_pos rfl]
  refine ⟨by omega, fun j hj => ?_, fun i j hi hj e => ?_, h4, fun j => Sf (j + 1), fun j hj => ?_⟩
  · by_cases c : j < 7
    · rw [r7 j c]; exact h2 _ (by omega)
    · rw [show j = 7 by omega, r8]; exact h2 0 (by omega)
  · by_cases ci : i < 7 <;> by_cases cj : j < 7
    · rw [r7 i ci, r7 j cj] at e
      have := h3 _ _ (by omega) (by omega) e
      omega
    · rw [r7 i ci, show j = 7 by omega, r8] at e
      have := h3 _ _ (by omega) (by omega) e
      omega
    · rw [r7 j cj, show i = 7 by omega, r8] at e
      have := h3 _ _ (by omega) (by omega) e
      omega
    · omega
  · obtain ⟨k1, k2⟩ := h5 (j + 1) (by omega)
    exact ⟨k1, by rw [r7 j hj]; exact k2⟩
set_option maxRecDepth 20000 in
set_option maxHeartbeats 400000 in
theorem s_keep {u hd k f g l t i : Nat → Nat} {sh co d : Nat} {b : Nat} {perm : Nat → Nat} {hist : Nat → Hs} (hS : OkS ((u, hd, k, f, g, l), sh, (t, i, co, d))) (hH : HJ b perm hist) : ∃ (b1 : Nat) (perm1 : Nat → Nat) (hist1 : Nat → Hs), X2_keep (rn 6 t) (rn 6 u) (rn 6 hd) (rn 7 k) (rn 7 f) (rn 7 g) (rn 7 l) (iI sh) (iI (mk i)) (iI co) (iI d) (iI (b : Int)) perm hist = some (iI (b1 : Int), perm1, hist1) ∧ HJ b1 perm1 hist1 ∧ Top ((u, hd, k, f, g, l), sh, (t, i, co, d)) b1 perm1 hist1 := by
  have h8 : b ≤ 8 := hH.1
  have hp := pok_ok hH.2.1
  have hn : MJ (rn 6 t, rn 6 u, rn 6 hd, rn 7 k, rn 7 f, rn 7 g, rn 7 l, iI sh, iI (mk i), iI co, iI d) := ⟨rn_len, rn_len, rn_len, rn_len, rn_len, rn_len, rn_len⟩
  unfold X2_keep
  rw [if_pos hp, show (8 : Int32) = iI 8 by decide]
  by_cases c : b = 8
  · subst c
    have hH7 := hH.shift
    have hm : MJ (hist (rotp perm 7)) := hH.2.2.2.1 _ (by unfold rotp; rw [if_neg (by omega), if_pos rfl]; exact hH.2.1 0 (by omega))
    rw [if_neg (by decide), show (7 : Int32) = iI ((7 : Nat) : Int) by decide, s_keep2 (S := ((u, hd, k, f, g, l), sh, (t, i, co, d))) (by omega) hm hn]
    exact ⟨8, _, _, rfl, hH7.more (S := ((u, hd, k, f, g, l), sh, (t, i, co, d))) (by omega) hS, Top.more (S := ((u, hd, k, f, g, l), sh, (t, i, co, d)))⟩
  · have hm : MJ (hist (perm b)) := hH.2.2.2.1 _ (hH.2.1 _ (by omega))
    rw [if_pos (tlt (by omega) (by omega) (by omega)), s_keep2 (S := ((u, hd, k, f, g, l), sh, (t, i, co, d))) (by omega) hm hn]
    exact ⟨b + 1, _, _, rfl, hH.more (S := ((u, hd, k, f, g, l), sh, (t, i, co, d))) (by omega) hS, Top.more (S := ((u, hd, k, f, g, l), sh, (t, i, co, d)))⟩
