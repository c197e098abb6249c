/-! what changes the harbour: USES, HIDES, SENDS -/
set_option maxRecDepth 20000 in
set_option maxHeartbeats 400000 in
theorem nn9 : (9 : Int32) = iI ((9 : Nat) : Int) := by decide
set_option maxRecDepth 20000 in
set_option maxHeartbeats 400000 in
theorem nn99 : (99 : Int32) = iI ((99 : Nat) : Int) := by decide
set_option maxRecDepth 20000 in
set_option maxHeartbeats 400000 in
theorem op_uses {u hd k f g l t i : Nat → Nat} {sh co d : Nat} {R : List Int32} {b : Nat} {perm : Nat → Nat} {hist : Nat → Hs} {F : Nat → Int32} {z1 z2 p q : Int32} (hS : OkS ((u, hd, k, f, g, l), sh, (t, i, co, d))) (hH : HI b perm hist F) (hR : R.length = 7) :
    ∃ (R1 : List Int32) (u1 : Nat → Nat) (b1 : Nat) (perm1 : Nat → Nat) (hist1 : Nat → Hs) (F1 : Nat → Int32) (y1 y2 r : Int32), X4_uses R (rn 6 t) (rn 6 u) (rn 6 hd) (rn 7 k) (rn 7 f) (rn 7 g) (rn 7 l) (iI sh) (iI (mk i)) (iI co) (iI d) (iI (b : Int)) perm hist p q = some (R1, rn 6 u1, iI (b1 : Int), perm1, hist1, r) ∧ X5_uses R (rn 6 t) (rn 6 u) (rn 6 hd) (rn 7 k) (rn 7 f) (rn 7 g) (rn 7 l) (rn 7 i) (rq 616 F) (iI sh) (iI co) (iI d) z1 z2 (iI (b : Int)) p q = some (R1, rn 6 t, rn 6 u1, rn 6 hd, rn 7 k, rn 7 f, rn 7 g, rn 7 l, rn 7 i, rq 616 F1, iI sh, iI co, iI d, y1, y2, iI (b1 : Int), r) ∧ OkS ((u1, hd, k, f, g, l), sh, (t, i, co, d)) ∧ HI b1 perm1 hist1 F1 ∧ (∀ c, c < 56 → F1 c = F c) ∧ R1.length = 7 := by
  have h1 := s_refuse (R := R) (c := 1) hR (by omega) (by omega)
  have h4 := s_refuse (R := R) (c := 4) hR (by omega) (by omega)
  have h6 := s_refuse (R := R) (c := 6) hR (by omega) (by omega)
  have hE : OkE (u, hd, k, f, g, l) := sE hS
  have hhd : ∀ j, hd j ≤ 99 := hS.2.1
  have hsh : sh ≤ 7 := sSh hS
  have hX : OkX 999 (t, i, co, d) := sX hS
  have hO : OutI sh i := sO hS
  have ht := xT hX
  have hi := xI hX
  unfold X4_uses X5_uses
  rcases good_cases p with ⟨a, ha, rfl, g1, g2⟩ | ⟨g1, g2⟩
  · rw [g1, g2, Option.bind_some, Option.bind_some, if_neg c10, if_neg c10, n0, nn9]
    rcases fit_cases (lo := 0) (hi := 9) (by omega) (by omega) q with ⟨n, -, hn, rfl, e1, e2⟩ | ⟨e1, e2⟩ | ⟨e1, e2⟩
    · obtain ⟨b1, perm1, hist1, F1, y, k1, k2, k3, k4⟩ := s_keep (z1 := z1) (z2 := z2) hS hH
      rw [e1, e2, Option.bind_some, Option.bind_some, if_pos (by decide), if_pos (by decide), k1, k2, Option.bind_some, Option.bind_some, rd_rn (by omega) (by omega) (by omega), Option.bind_some, Option.bind_some, wr_rn (by omega) (by omega) (by omega) (by omega), Option.bind_some, Option.bind_some, Int.toNat_natCast, Int.toNat_natCast]
      exact ⟨R, _, b1, perm1, hist1, F1, _, _, _, rfl, rfl, ⟨⟨fun j => upN_le (oU hE) hn j, hE.2⟩, hS.2⟩, k3, k4, hR⟩
    · rw [e1, e2, Option.bind_some, Option.bind_some, if_neg (by decide), if_neg (by decide), m4, h4.1, h4.2, Option.bind_some, Option.bind_some]
      exact ⟨_, u, b, perm, hist, F, _, _, _, rfl, rfl, hS, hH, fun _ _ => rfl, incR_len.trans hR⟩
    · rw [e1, e2, Option.bind_some, Option.bind_some, if_neg (by decide), if_neg (by decide), m6, h6.1, h6.2, Option.bind_some, Option.bind_some]
      exact ⟨_, u, b, perm, hist, F, _, _, _, rfl, rfl, hS, hH, fun _ _ => rfl, incR_len.trans hR⟩
  · rw [g1, g2, Option.bind_some, Option.bind_some, if_pos rfl, if_pos rfl, m1, h1.1, h1.2, Option.bind_some, Option.bind_some]
    exact ⟨_, u, b, perm, hist, F, _, _, _, rfl, rfl, hS, hH, fun _ _ => rfl, incR_len.trans hR⟩
set_option maxRecDepth 20000 in
set_option maxHeartbeats 400000 in
theorem hide_cases {t hd : Nat → Nat} {a : Nat} (ht : ∀ j, t j ≤ 99) (hh : ∀ j, hd j ≤ 99) (ha : a < 6) (p : Int32) : (∃ n : Int, p = iI n ∧ -(hd a : Int) ≤ n ∧ n ≤ (t a : Int) ∧ n ≤ 99 - (hd a : Int) ∧ (t a : Int) - 99 ≤ n ∧ X0_canHide (rn 6 t) (rn 6 hd) (iI (a : Int)) p = some 1 ∧ X5_canHide (rn 6 t) (rn 6 hd) (iI (a : Int)) p = some 1) ∨ (X0_canHide (rn 6 t) (rn 6 hd) (iI (a : Int)) p = some 0 ∧ X5_canHide (rn 6 t) (rn 6 hd) (iI (a : Int)) p = some 0) := by
  have hb1 := Int32.le_toInt p
  have hb2 := Int32.toInt_lt p
  have e : p = iI p.toInt := (iI_of p).symm
  generalize p.toInt = m at *
  subst e
  have b1 := ht a
  have b2 := hh a
  unfold X0_canHide X5_canHide
  by_cases c : -(hd a : Int) ≤ m ∧ m ≤ (t a : Int) ∧ m ≤ 99 - (hd a : Int) ∧ (t a : Int) - 99 ≤ m
  · obtain ⟨c1, c2, c3, c4⟩ := c
    refine Or.inl ⟨m, rfl, c1, c2, c3, c4, ?_, ?_⟩
    · simp (disch := omega) only [L0, L1, L2, L3, L4, L5, L6, L7, L8, L9, L10, L12, L16, L20, L31, L40, L48, L56, L57, L59, L60, L63, L96, L98, L99, L100, L101, L103, L104, L111, L115, L116, L117, L127, L168, L192, L255, L560, L616, L999, L1000, L2000, iI_add, iI_sub, iI_mul, iI_neg, iI_lt, iI_le, iI_eq, rd_rn, wr_rn, rd_rq, wr_rq, Option.bind_some, not_false_eq_true, not_true_eq_false, ↓reduceIte, leT, leF, ltT, ltF, eqT, eqF, Int.toNat_natCast, Int.reduceAdd, Int.reduceSub, Int.reduceMul, Int.reduceToNat]
    · simp (disch := omega) only [L0, L1, L2, L3, L4, L5, L6, L7, L8, L9, L10, L12, L16, L20, L31, L40, L48, L56, L57, L59, L60, L63, L96, L98, L99, L100, L101, L103, L104, L111, L115, L116, L117, L127, L168, L192, L255, L560, L616, L999, L1000, L2000, iI_add, iI_sub, iI_mul, iI_neg, iI_lt, iI_le, iI_eq, rd_rn, wr_rn, rd_rq, wr_rq, Option.bind_some, not_false_eq_true, not_true_eq_false, ↓reduceIte, leT, leF, ltT, ltF, eqT, eqF, Int.toNat_natCast, Int.reduceAdd, Int.reduceSub, Int.reduceMul, Int.reduceToNat]
  · refine Or.inr ⟨?_, ?_⟩
    · by_cases c1 : m < -(hd a : Int)
      · simp (disch := omega) only [L0, L1, L2, L3, L4, L5, L6, L7, L8, L9, L10, L12, L16, L20, L31, L40, L48, L56, L57, L59, L60, L63, L96, L98, L99, L100, L101, L103, L104, L111, L115, L116, L117, L127, L168, L192, L255, L560, L616, L999, L1000, L2000, iI_add, iI_sub, iI_mul, iI_neg, iI_lt, iI_le, iI_eq, rd_rn, wr_rn, rd_rq, wr_rq, Option.bind_some, not_false_eq_true, not_true_eq_false, ↓reduceIte, leT, leF, ltT, ltF, eqT, eqF, Int.toNat_natCast, Int.reduceAdd, Int.reduceSub, Int.reduceMul, Int.reduceToNat]
      by_cases c2 : (t a : Int) < m
      · simp (disch := omega) only [L0, L1, L2, L3, L4, L5, L6, L7, L8, L9, L10, L12, L16, L20, L31, L40, L48, L56, L57, L59, L60, L63, L96, L98, L99, L100, L101, L103, L104, L111, L115, L116, L117, L127, L168, L192, L255, L560, L616, L999, L1000, L2000, iI_add, iI_sub, iI_mul, iI_neg, iI_lt, iI_le, iI_eq, rd_rn, wr_rn, rd_rq, wr_rq, Option.bind_some, not_false_eq_true, not_true_eq_false, ↓reduceIte, leT, leF, ltT, ltF, eqT, eqF, Int.toNat_natCast, Int.reduceAdd, Int.reduceSub, Int.reduceMul, Int.reduceToNat]
      by_cases c3 : 99 - (hd a : Int) < m
      · simp (disch := omega) only [L0, L1, L2, L3, L4, L5, L6, L7, L8, L9, L10, L12, L16, L20, L31, L40, L48, L56, L57, L59, L60, L63, L96, L98, L99, L100, L101, L103, L104, L111, L115, L116, L117, L127, L168, L192, L255, L560, L616, L999, L1000, L2000, iI_add, iI_sub, iI_mul, iI_neg, iI_lt, iI_le, iI_eq, rd_rn, wr_rn, rd_rq, wr_rq, Option.bind_some, not_false_eq_true, not_true_eq_false, ↓reduceIte, leT, leF, ltT, ltF, eqT, eqF, Int.toNat_natCast, Int.reduceAdd, Int.reduceSub, Int.reduceMul, Int.reduceToNat]
      simp (disch := omega) only [L0, L1, L2, L3, L4, L5, L6, L7, L8, L9, L10, L12, L16, L20, L31, L40, L48, L56, L57, L59, L60, L63, L96, L98, L99, L100, L101, L103, L104, L111, L115, L116, L117, L127, L168, L192, L255, L560, L616, L999, L1000, L2000, iI_add, iI_sub, iI_mul, iI_neg, iI_lt, iI_le, iI_eq, rd_rn, wr_rn, rd_rq, wr_rq, Option.bind_some, not_false_eq_true, not_true_eq_false, ↓reduceIte, leT, leF, ltT, ltF, eqT, eqF, Int.toNat_natCast, Int.reduceAdd, Int.reduceSub, Int.reduceMul, Int.reduceToNat]
    · by_cases d1 : m < -99
      · simp (disch := omega) only [L0, L1, L2, L3, L4, L5, L6, L7, L8, L9, L10, L12, L16, L20, L31, L40, L48, L56, L57, L59, L60, L63, L96, L98, L99, L100, L101, L103, L104, L111, L115, L116, L117, L127, L168, L192, L255, L560, L616, L999, L1000, L2000, iI_add, iI_sub, iI_mul, iI_neg, iI_lt, iI_le, iI_eq, rd_rn, wr_rn, rd_rq, wr_rq, Option.bind_some, not_false_eq_true, not_true_eq_false, ↓reduceIte, leT, leF, ltT, ltF, eqT, eqF, Int.toNat_natCast, Int.reduceAdd, Int.reduceSub, Int.reduceMul, Int.reduceToNat]
      by_cases d2 : 99 < m
      · simp (disch := omega) only [L0, L1, L2, L3, L4, L5, L6, L7, L8, L9, L10, L12, L16, L20, L31, L40, L48, L56, L57, L59, L60, L63, L96, L98, L99, L100, L101, L103, L104, L111, L115, L116, L117, L127, L168, L192, L255, L560, L616, L999, L1000, L2000, iI_add, iI_sub, iI_mul, iI_neg, iI_lt, iI_le, iI_eq, rd_rn, wr_rn, rd_rq, wr_rq, Option.bind_some, not_false_eq_true, not_true_eq_false, ↓reduceIte, leT, leF, ltT, ltF, eqT, eqF, Int.toNat_natCast, Int.reduceAdd, Int.reduceSub, Int.reduceMul, Int.reduceToNat]
      by_cases c2 : (t a : Int) < m
      · simp (disch := omega) only [L0, L1, L2, L3, L4, L5, L6, L7, L8, L9, L10, L12, L16, L20, L31, L40, L48, L56, L57, L59, L60, L63, L96, L98, L99, L100, L101, L103, L104, L111, L115, L116, L117, L127, L168, L192, L255, L560, L616, L999, L1000, L2000, iI_add, iI_sub, iI_mul, iI_neg, iI_lt, iI_le, iI_eq, rd_rn, wr_rn, rd_rq, wr_rq, Option.bind_some, not_false_eq_true, not_true_eq_false, ↓reduceIte, leT, leF, ltT, ltF, eqT, eqF, Int.toNat_natCast, Int.reduceAdd, Int.reduceSub, Int.reduceMul, Int.reduceToNat]
      by_cases c1 : m < -(hd a : Int)
      · simp (disch := omega) only [L0, L1, L2, L3, L4, L5, L6, L7, L8, L9, L10, L12, L16, L20, L31, L40, L48, L56, L57, L59, L60, L63, L96, L98, L99, L100, L101, L103, L104, L111, L115, L116, L117, L127, L168, L192, L255, L560, L616, L999, L1000, L2000, iI_add, iI_sub, iI_mul, iI_neg, iI_lt, iI_le, iI_eq, rd_rn, wr_rn, rd_rq, wr_rq, Option.bind_some, not_false_eq_true, not_true_eq_false, ↓reduceIte, leT, leF, ltT, ltF, eqT, eqF, Int.toNat_natCast, Int.reduceAdd, Int.reduceSub, Int.reduceMul, Int.reduceToNat]
      by_cases c3 : 99 - (hd a : Int) < m
      · simp (disch := omega) only [L0, L1, L2, L3, L4, L5, L6, L7, L8, L9, L10, L12, L16, L20, L31, L40, L48, L56, L57, L59, L60, L63, L96, L98, L99, L100, L101, L103, L104, L111, L115, L116, L117, L127, L168, L192, L255, L560, L616, L999, L1000, L2000, iI_add, iI_sub, iI_mul, iI_neg, iI_lt, iI_le, iI_eq, rd_rn, wr_rn, rd_rq, wr_rq, Option.bind_some, not_false_eq_true, not_true_eq_false, ↓reduceIte, leT, leF, ltT, ltF, eqT, eqF, Int.toNat_natCast, Int.reduceAdd, Int.reduceSub, Int.reduceMul, Int.reduceToNat]
      simp (disch := omega) only [L0, L1, L2, L3, L4, L5, L6, L7, L8, L9, L10, L12, L16, L20, L31, L40, L48, L56, L57, L59, L60, L63, L96, L98, L99, L100, L101, L103, L104, L111, L115, L116, L117, L127, L168, L192, L255, L560, L616, L999, L1000, L2000, iI_add, iI_sub, iI_mul, iI_neg, iI_lt, iI_le, iI_eq, rd_rn, wr_rn, rd_rq, wr_rq, Option.bind_some, not_false_eq_true, not_true_eq_false, ↓reduceIte, leT, leF, ltT, ltF, eqT, eqF, Int.toNat_natCast, Int.reduceAdd, Int.reduceSub, Int.reduceMul, Int.reduceToNat]
set_option maxRecDepth 20000 in
set_option maxHeartbeats 400000 in
theorem s_hideAway {t hd : Nat → Nat} {a : Nat} {n : Int} (ha : a < 6) (h1 : -(hd a : Int) ≤ n) (h2 : n ≤ (t a : Int)) : X0_hideAway (rn 6 t) (rn 6 hd) (iI (a : Int)) (iI n) = some (rn 6 (upN t a ((t a : Int) - n).toNat), rn 6 (upN hd a ((hd a : Int) + n).toNat)) ∧ X5_hidesOf (rn 6 t) (rn 6 hd) (iI (a : Int)) (iI n) = some (rn 6 (upN t a ((t a : Int) - n).toNat), rn 6 (upN hd a ((hd a : Int) + n).toNat)) := by
  unfold X0_hideAway X5_hidesOf
  rw [rd_rn (by omega) (by omega) (by omega), Option.bind_some, Int.toNat_natCast, iI_sub, wr_rn (by omega) (by omega) (by omega) (by omega), Option.bind_some, rd_rn (by omega) (by omega) (by omega), Option.bind_some, Int.toNat_natCast, iI_add, wr_rn (by omega) (by omega) (by omega) (by omega), Option.bind_some, Int.toNat_natCast]
  exact ⟨rfl, rfl⟩
set_option maxRecDepth 20000 in
set_option maxHeartbeats 400000 in
theorem op_hides {u hd k f g l t i : Nat → Nat} {sh co d : Nat} {R : List Int32} {b : Nat} {perm : Nat → Nat} {hist : Nat → Hs} {F : Nat → Int32} {z1 z2 p q : Int32} (hS : OkS ((u, hd, k, f, g, l), sh, (t, i, co, d))) (hH : HI b perm hist F) (hR : R.length = 7) :
    ∃ (R1 : List Int32) (t1 hd1 : Nat → Nat) (b1 : Nat) (perm1 : Nat → Nat) (hist1 : Nat → Hs) (F1 : Nat → Int32) (y1 y2 r : Int32), X4_hides R (rn 6 t) (rn 6 u) (rn 6 hd) (rn 7 k) (rn 7 f) (rn 7 g) (rn 7 l) (iI sh) (iI (mk i)) (iI co) (iI d) (iI (b : Int)) perm hist p q = some (R1, rn 6 t1, rn 6 hd1, iI (b1 : Int), perm1, hist1, r) ∧ X5_hides R (rn 6 t) (rn 6 u) (rn 6 hd) (rn 7 k) (rn 7 f) (rn 7 g) (rn 7 l) (rn 7 i) (rq 616 F) (iI sh) (iI co) (iI d) z1 z2 (iI (b : Int)) p q = some (R1, rn 6 t1, rn 6 u, rn 6 hd1, rn 7 k, rn 7 f, rn 7 g, rn 7 l, rn 7 i, rq 616 F1, iI sh, iI co, iI d, y1, y2, iI (b1 : Int), r) ∧ OkS ((u, hd1, k, f, g, l), sh, (t1, i, co, d)) ∧ HI b1 perm1 hist1 F1 ∧ (∀ c, c < 56 → F1 c = F c) ∧ R1.length = 7 := by
  have h1 := s_refuse (R := R) (c := 1) hR (by omega) (by omega)
  have h3 := s_refuse (R := R) (c := 3) hR (by omega) (by omega)
  have hE : OkE (u, hd, k, f, g, l) := sE hS
  have hhd : ∀ j, hd j ≤ 99 := hS.2.1
  have hsh : sh ≤ 7 := sSh hS
  have hX : OkX 999 (t, i, co, d) := sX hS
  have hO : OutI sh i := sO hS
  have ht := xT hX
  have hi := xI hX
  unfold X4_hides X5_hides
  rcases good_cases p with ⟨a, ha, rfl, g1, g2⟩ | ⟨g1, g2⟩
  · rw [g1, g2, Option.bind_some, Option.bind_some, if_neg c10, if_neg c10]
    rcases hide_cases ht hhd ha q with ⟨n, rfl, n1, n2, n3, n4, e1, e2⟩ | ⟨e1, e2⟩
    · obtain ⟨b1, perm1, hist1, F1, y, k1, k2, k3, k4⟩ := s_keep (z1 := z1) (z2 := z2) hS hH
      have hw := s_hideAway ha n1 n2
      rw [e1, e2, Option.bind_some, Option.bind_some, if_neg c10, if_neg c10, k1, k2, Option.bind_some, Option.bind_some, hw.1, hw.2, Option.bind_some, Option.bind_some, rd_rn (by omega) (by omega) (by omega), Option.bind_some, Option.bind_some]
      exact ⟨R, _, _, b1, perm1, hist1, F1, _, _, _, rfl, rfl, ⟨⟨oU hE, fun j => upN_le (oH hE) (by omega) j, hE.2.2⟩, fun j => upN_le hhd (by omega) j, hsh, ⟨fun j => upN_le ht (by omega) j, hX.2⟩, hO⟩, k3, k4, hR⟩
    · rw [e1, e2, Option.bind_some, Option.bind_some, if_pos rfl, if_pos rfl, m3, h3.1, h3.2, Option.bind_some, Option.bind_some]
      exact ⟨_, t, hd, b, perm, hist, F, _, _, _, rfl, rfl, hS, hH, fun _ _ => rfl, incR_len.trans hR⟩
  · rw [g1, g2, Option.bind_some, Option.bind_some, if_pos rfl, if_pos rfl, m1, h1.1, h1.2, Option.bind_some, Option.bind_some]
    exact ⟨_, t, hd, b, perm, hist, F, _, _, _, rfl, rfl, hS, hH, fun _ _ => rfl, incR_len.trans hR⟩
set_option maxRecDepth 20000 in
set_option maxHeartbeats 400000 in
theorem op_sends {u hd k f g l t i : Nat → Nat} {sh co d : Nat} {R : List Int32} {b : Nat} {perm : Nat → Nat} {hist : Nat → Hs} {F : Nat → Int32} {z1 z2 p q : Int32} (hS : OkS ((u, hd, k, f, g, l), sh, (t, i, co, d))) (hH : HI b perm hist F) (hR : R.length = 7) :
    ∃ (R1 : List Int32) (l1 i1 : Nat → Nat) (b1 : Nat) (perm1 : Nat → Nat) (hist1 : Nat → Hs) (F1 : Nat → Int32) (y1 y2 r : Int32), X4_sends R (rn 6 t) (rn 6 u) (rn 6 hd) (rn 7 k) (rn 7 f) (rn 7 g) (rn 7 l) (iI sh) (iI (mk i)) (iI co) (iI d) (iI (b : Int)) perm hist p q = some (R1, rn 7 l1, iI (mk i1), iI (b1 : Int), perm1, hist1, r) ∧ X5_sends R (rn 6 t) (rn 6 u) (rn 6 hd) (rn 7 k) (rn 7 f) (rn 7 g) (rn 7 l) (rn 7 i) (rq 616 F) (iI sh) (iI co) (iI d) z1 z2 (iI (b : Int)) p q = some (R1, rn 6 t, rn 6 u, rn 6 hd, rn 7 k, rn 7 f, rn 7 g, rn 7 l1, rn 7 i1, rq 616 F1, iI sh, iI co, iI d, y1, y2, iI (b1 : Int), r) ∧ OkS ((u, hd, k, f, g, l1), sh, (t, i1, co, d)) ∧ HI b1 perm1 hist1 F1 ∧ (∀ c, c < 56 → F1 c = F c) ∧ R1.length = 7 := by
  have h1 := s_refuse (R := R) (c := 1) hR (by omega) (by omega)
  have h3 := s_refuse (R := R) (c := 3) hR (by omega) (by omega)
  have h4 := s_refuse (R := R) (c := 4) hR (by omega) (by omega)
  have h6 := s_refuse (R := R) (c := 6) hR (by omega) (by omega)
  have hE : OkE (u, hd, k, f, g, l) := sE hS
  have hhd : ∀ j, hd j ≤ 99 := hS.2.1
  have hsh : sh ≤ 7 := sSh hS
  have hX : OkX 999 (t, i, co, d) := sX hS
  have hO : OutI sh i := sO hS
  have ht := xT hX
  have hi := xI hX
  unfold X4_sends X5_sends
  rcases ship_cases hsh p with ⟨s, hs, rfl, g1, g2⟩ | ⟨g1, g2⟩
  · rw [g1, g2, Option.bind_some, Option.bind_some, if_neg c10, if_neg c10, n0, nn99]
    rcases fit_cases (lo := 0) (hi := 99) (by omega) (by omega) q with ⟨n, -, hn, rfl, e1, e2⟩ | ⟨e1, e2⟩ | ⟨e1, e2⟩
    · rw [e1, e2, Option.bind_some, Option.bind_some, if_pos (by decide), if_pos (by decide), s_X0_isIn hi (by omega) (by omega), rd_rn (f := i) (by omega) (by omega) (by omega), Option.bind_some, Option.bind_some, Int.toNat_natCast]
      by_cases c : i s = 0
      · rw [if_pos (by rw [c]), if_pos (by rw [c]), m3, h3.1, h3.2, Option.bind_some, Option.bind_some]
        exact ⟨_, l, i, b, perm, hist, F, _, _, _, rfl, rfl, hS, hH, fun _ _ => rfl, incR_len.trans hR⟩
      · have b1 := hi s
        have c1 : ¬ iI (i s : Int) = iI ((0 : Nat) : Int) := feq (by omega) (by omega) (by omega) (by omega) (by omega)
        obtain ⟨b1, perm1, hist1, F1, y, k1, k2, k3, k4⟩ := s_keep (z1 := z1) (z2 := z2) hS hH
        rw [if_neg c1, if_neg c1, if_pos (by decide), k1, k2, Option.bind_some, Option.bind_some, rd_rn (f := l) (by omega) (by omega) (by omega), Option.bind_some, Option.bind_some, wr_rn (f := l) (by omega) (by omega) (by omega) (by omega), Option.bind_some, Option.bind_some, s_X0_sendOut hi (by omega) (by omega), wr_rn (by omega) (by omega) (by omega) (by omega), Option.bind_some, Option.bind_some, Int.toNat_natCast, Int.toNat_natCast, Int.toNat_natCast]
        refine ⟨R, _, _, b1, perm1, hist1, F1, _, _, _, rfl, rfl, ⟨⟨oU hE, oH hE, oK hE, oF hE, oG hE, fun j => upN_le (oL hE) hn j⟩, hhd, hsh, ⟨ht, fun j => upN_le hi (by omega) j, hX.2.2⟩, fun j hj => ?_⟩, k3, k4, hR⟩
        have hj2 : sh ≤ j := hj
        show upN i s 0 j = 0
        unfold upN
        rw [if_neg (by omega)]
        exact hO j hj
    · rw [e1, e2, Option.bind_some, Option.bind_some, if_neg (by decide), if_neg (by decide), if_neg (by decide), m4, h4.1, h4.2, Option.bind_some, Option.bind_some]
      exact ⟨_, l, i, b, perm, hist, F, _, _, _, rfl, rfl, hS, hH, fun _ _ => rfl, incR_len.trans hR⟩
    · rw [e1, e2, Option.bind_some, Option.bind_some, if_neg (by decide), if_neg (by decide), if_neg (by decide), m6, h6.1, h6.2, Option.bind_some, Option.bind_some]
      exact ⟨_, l, i, b, perm, hist, F, _, _, _, rfl, rfl, hS, hH, fun _ _ => rfl, incR_len.trans hR⟩
  · rw [g1, g2, Option.bind_some, Option.bind_some, if_pos rfl, if_pos rfl, m1, h1.1, h1.2, Option.bind_some, Option.bind_some]
    exact ⟨_, l, i, b, perm, hist, F, _, _, _, rfl, rfl, hS, hH, fun _ _ => rfl, incR_len.trans hR⟩
