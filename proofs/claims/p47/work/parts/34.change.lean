/-! what changes the harbour -/
set_option maxRecDepth 20000 in
set_option maxHeartbeats 400000 in
theorem n99 : (99 : Int32) = iI ((99 : Nat) : Int) := by decide
-- hides(): any good, any number
set_option maxRecDepth 20000 in
set_option maxHeartbeats 400000 in
theorem q_hides {u hd k f g l t i : Nat → Nat} {sh co d : Nat} {R : List Int32} {b a : Nat} {perm : Nat → Nat} {hist : Nat → Hs} {q : Int32} (hS : OkS ((u, hd, k, f, g, l), sh, (t, i, co, d))) (hH : HJ b perm hist) (hR : R.length = 7) (ha : a < 6) :
    (∃ (n : Int) (b1 : Nat) (perm1 : Nat → Nat) (hist1 : Nat → Hs), q = iI n ∧ -(hd a : Int) ≤ n ∧ n ≤ (t a : Int) ∧ X4_hides R (rn 6 t) (rn 6 u) (rn 6 hd) (rn 7 k) (rn 7 f) (rn 7 g) (rn 7 l) (iI sh) (iI (mk i)) (iI co) (iI d) (iI (b : Int)) perm hist (iI a) q = some (R, rn 6 (upN t a ((t a : Int) - n).toNat), rn 6 (upN hd a ((hd a : Int) + n).toNat), iI (b1 : Int), perm1, hist1, iI ((t a : Int) - n)) ∧ OkS ((u, upN hd a ((hd a : Int) + n).toNat, k, f, g, l), sh, (upN t a ((t a : Int) - n).toNat, i, co, d)) ∧ HJ b1 perm1 hist1) ∨
    X4_hides R (rn 6 t) (rn 6 u) (rn 6 hd) (rn 7 k) (rn 7 f) (rn 7 g) (rn 7 l) (iI sh) (iI (mk i)) (iI co) (iI d) (iI (b : Int)) perm hist (iI a) q = some (incR R 3, rn 6 t, rn 6 hd, iI (b : Int), perm, hist, -3) := by
  have hE : OkE (u, hd, k, f, g, l) := sE hS
  have hhd : ∀ j, hd j ≤ 99 := hS.2.1
  have hsh : sh ≤ 7 := sSh hS
  have hX : OkX 999 (t, i, co, d) := sX hS
  have hO : OutI sh i := sO hS
  have ht := xT hX
  unfold X4_hides
  rw [q_isGood ha, Option.bind_some, if_neg c10]
  rcases hide_cases ht hhd ha q with ⟨n, rfl, n1, n2, n3, n4, e1⟩ | e1
  · obtain ⟨b1, perm1, hist1, k1, k3, -⟩ := s_keep hS hH
    have hw := (s_hideAway ha n1 n2).1
    have b2 := ht a
    refine Or.inl ⟨n, b1, perm1, hist1, rfl, n1, n2, ?_, ⟨⟨oU hE, fun j => upN_le (oH hE) (by omega) j, hE.2.2⟩, fun j => upN_le hhd (by omega) j, hsh, ⟨fun j => upN_le ht (by omega) j, hX.2⟩, hO⟩, k3⟩
    rw [e1, Option.bind_some, if_neg c10, k1, Option.bind_some, hw, Option.bind_some, rd_rn (by omega) (by omega) (by omega), Option.bind_some, Int.toNat_natCast, show ((upN t a ((t a : Int) - n).toNat a : Nat) : Int) = (t a : Int) - n by unfold upN; rw [if_pos rfl]; omega]
  · right
    rw [e1, Option.bind_some, if_pos rfl, r3 hR, Option.bind_some]
set_option maxRecDepth 20000 in
set_option maxHeartbeats 400000 in
theorem q_hidesOk {u hd k f g l t i : Nat → Nat} {sh co d : Nat} {R : List Int32} {b a : Nat} {perm : Nat → Nat} {hist : Nat → Hs} {n : Int} (hS : OkS ((u, hd, k, f, g, l), sh, (t, i, co, d))) (hH : HJ b perm hist) (ha : a < 6) (n1 : -(hd a : Int) ≤ n) (n2 : n ≤ (t a : Int)) (n3 : n ≤ 99 - (hd a : Int)) (n4 : (t a : Int) - 99 ≤ n) :
    ∃ (b1 : Nat) (perm1 : Nat → Nat) (hist1 : Nat → Hs), X4_hides R (rn 6 t) (rn 6 u) (rn 6 hd) (rn 7 k) (rn 7 f) (rn 7 g) (rn 7 l) (iI sh) (iI (mk i)) (iI co) (iI d) (iI (b : Int)) perm hist (iI a) (iI n) = some (R, rn 6 (upN t a ((t a : Int) - n).toNat), rn 6 (upN hd a ((hd a : Int) + n).toNat), iI (b1 : Int), perm1, hist1, iI ((t a : Int) - n)) ∧ OkS ((u, upN hd a ((hd a : Int) + n).toNat, k, f, g, l), sh, (upN t a ((t a : Int) - n).toNat, i, co, d)) ∧ HJ b1 perm1 hist1 := by
  have hE : OkE (u, hd, k, f, g, l) := sE hS
  have hhd : ∀ j, hd j ≤ 99 := hS.2.1
  have hsh : sh ≤ 7 := sSh hS
  have hX : OkX 999 (t, i, co, d) := sX hS
  have hO : OutI sh i := sO hS
  have ht := xT hX
  unfold X4_hides
  rw [q_isGood ha, Option.bind_some, if_neg c10]
  obtain ⟨b1, perm1, hist1, k1, k3, -⟩ := s_keep hS hH
  have hw := (s_hideAway ha n1 n2).1
  have b2 := ht a
  refine ⟨b1, perm1, hist1, ?_, ⟨⟨oU hE, fun j => upN_le (oH hE) (by omega) j, hE.2.2⟩, fun j => upN_le hhd (by omega) j, hsh, ⟨fun j => upN_le ht (by omega) j, hX.2⟩, hO⟩, k3⟩
  rw [q_canHide ht hhd ha n1 n2 n3 n4, Option.bind_some, if_neg c10, k1, Option.bind_some, hw, Option.bind_some, rd_rn (by omega) (by omega) (by omega), Option.bind_some, Int.toNat_natCast, show ((upN t a ((t a : Int) - n).toNat a : Nat) : Int) = (t a : Int) - n by unfold upN; rw [if_pos rfl]; omega]
set_option maxRecDepth 20000 in
set_option maxHeartbeats 400000 in
theorem a99 {n : Nat} (h : n ≤ 99) : X4_misfit (iI (n : Int)) 0 99 = some 0 := by
  rw [L0, L99]
  exact q_misfit (by omega) (by omega) (by omega) (by omega)
set_option maxRecDepth 20000 in
set_option maxHeartbeats 400000 in
theorem q_sends {u hd k f g l t i : Nat → Nat} {sh co d : Nat} {R : List Int32} {b s n : Nat} {perm : Nat → Nat} {hist : Nat → Hs} (hS : OkS ((u, hd, k, f, g, l), sh, (t, i, co, d))) (hH : HJ b perm hist) (hs : s < sh) (hn : n ≤ 99) (hi1 : i s = 1) :
    ∃ (b1 : Nat) (perm1 : Nat → Nat) (hist1 : Nat → Hs), X4_sends R (rn 6 t) (rn 6 u) (rn 6 hd) (rn 7 k) (rn 7 f) (rn 7 g) (rn 7 l) (iI sh) (iI (mk i)) (iI co) (iI d) (iI (b : Int)) perm hist (iI s) (iI n) = some (R, rn 7 (upN l s n), iI (mk (upN i s 0)), iI (b1 : Int), perm1, hist1, iI (l s)) ∧ OkS ((u, hd, k, f, g, upN l s n), sh, (t, upN i s 0, co, d)) ∧ HJ b1 perm1 hist1 ∧ Top ((u, hd, k, f, g, l), sh, (t, i, co, d)) b1 perm1 hist1 := by
  have hE : OkE (u, hd, k, f, g, l) := sE hS
  have hhd : ∀ j, hd j ≤ 99 := hS.2.1
  have hsh : sh ≤ 7 := sSh hS
  have hX : OkX 999 (t, i, co, d) := sX hS
  have hO : OutI sh i := sO hS
  have ht := xT hX
  have hi := xI hX
  obtain ⟨b1, perm1, hist1, k1, k3, k4⟩ := s_keep hS hH
  unfold X4_sends
  refine ⟨b1, perm1, hist1, ?_, ⟨⟨oU hE, oH hE, oK hE, oF hE, oG hE, fun j => upN_le (oL hE) hn j⟩, hhd, hsh, ⟨ht, fun j => upN_le hi (by omega) j, hX.2.2⟩, fun j hj => ?_⟩, k3, k4⟩
  · rw [q_isShip hsh hs, Option.bind_some, if_neg c10, a99 hn, Option.bind_some, if_pos rfl, s_X0_isIn hi (by omega) (by omega), Option.bind_some, Int.toNat_natCast, if_neg (show ¬ iI (i s : Int) = (0 : Int32) by rw [hi1]; decide), k1, Option.bind_some, rd_rn (f := l) (by omega) (by omega) (by omega), Option.bind_some, wr_rn (f := l) (by omega) (by omega) (by omega) (by omega), Option.bind_some, s_X0_sendOut hi (by omega) (by omega), Option.bind_some, Int.toNat_natCast, Int.toNat_natCast]
  · have hj2 : sh ≤ j := hj
    show upN i s 0 j = 0
    unfold upN
    rw [if_neg (by omega)]
    exact hO j hj
set_option maxRecDepth 20000 in
set_option maxHeartbeats 400000 in
theorem q_sendsOut {u hd k f g l t i : Nat → Nat} {sh co d : Nat} {R : List Int32} {b s n : Nat} {perm : Nat → Nat} {hist : Nat → Hs} (hS : OkS ((u, hd, k, f, g, l), sh, (t, i, co, d))) (hR : R.length = 7) (hs : s < sh) (hn : n ≤ 99) (hi0 : i s = 0) :
    X4_sends R (rn 6 t) (rn 6 u) (rn 6 hd) (rn 7 k) (rn 7 f) (rn 7 g) (rn 7 l) (iI sh) (iI (mk i)) (iI co) (iI d) (iI (b : Int)) perm hist (iI s) (iI n) = some (incR R 3, rn 7 l, iI (mk i), iI (b : Int), perm, hist, -3) := by
  have hsh : sh ≤ 7 := sSh hS
  have hX : OkX 999 (t, i, co, d) := sX hS
  unfold X4_sends
  rw [q_isShip hsh hs, Option.bind_some, if_neg c10, a99 hn, Option.bind_some, if_pos rfl, s_X0_isIn (xI hX) (by omega) (by omega), Option.bind_some, Int.toNat_natCast, if_pos (show iI (i s : Int) = (0 : Int32) by rw [hi0]; decide), r3 hR, Option.bind_some]
set_option maxRecDepth 20000 in
set_option maxHeartbeats 400000 in
theorem daysX_day {e : Env} {sh b fr : Nat} : ∀ (n : Nat) (x : XX), (daysX e sh b fr n x).2.2.2 = x.2.2.2 + n := by
  intro n
  induction n with
  | zero => intro x; rfl
  | succ n ih =>
    intro x
    have h : (dayX e sh b fr x).2.2.2 = x.2.2.2 + 1 := rfl
    unfold daysX
    rw [ih, h]
    omega
set_option maxRecDepth 20000 in
set_option maxHeartbeats 400000 in
theorem daysX_OkS {u hd k f g l t i : Nat → Nat} {sh co d : Nat} {n : Nat} (hS : OkS ((u, hd, k, f, g, l), sh, (t, i, co, d))) (hd9 : d + n ≤ 999) : OkS ((u, hd, k, f, g, l), sh, daysX (u, hd, k, f, g, l) sh 0 6 n (t, i, co, d)) := by
  have hX : OkX 999 (t, i, co, d) := sX hS
  have hz := daysX_ok (e := (u, hd, k, f, g, l)) (sh := sh) (b := 0) (fr := 6) n d (t, i, co, d) ⟨hX.1, hX.2.1, hX.2.2.1, Nat.le_refl _⟩
  have hw := daysX_out (e := (u, hd, k, f, g, l)) (sh := sh) (b := 0) (fr := 6) n (t, i, co, d) (sO hS)
  have hE : OkE (u, hd, k, f, g, l) := sE hS
  have hsh : sh ≤ 7 := sSh hS
  exact ⟨hE, hS.2.1, hsh, hz.mono hd9, hw⟩
set_option maxRecDepth 20000 in
set_option maxHeartbeats 400000 in
theorem q_days {u hd k f g l t i : Nat → Nat} {sh co d : Nat} {R : List Int32} {b n : Nat} {perm : Nat → Nat} {hist : Nat → Hs} (hS : OkS ((u, hd, k, f, g, l), sh, (t, i, co, d))) (hH : HJ b perm hist) (hn1 : 1 ≤ n) (hn : n ≤ 60) (hd9 : d + n ≤ 999) :
    ∃ (b1 : Nat) (perm1 : Nat → Nat) (hist1 : Nat → Hs), X4_days R (rn 6 t) (rn 6 u) (rn 6 hd) (rn 7 k) (rn 7 f) (rn 7 g) (rn 7 l) (iI sh) (iI (mk i)) (iI co) (iI d) (iI (b : Int)) perm hist (iI n) = some (R, rn 6 (daysX (u, hd, k, f, g, l) sh 0 6 n (t, i, co, d)).1, iI (mk (daysX (u, hd, k, f, g, l) sh 0 6 n (t, i, co, d)).2.1), iI (daysX (u, hd, k, f, g, l) sh 0 6 n (t, i, co, d)).2.2.1, iI (daysX (u, hd, k, f, g, l) sh 0 6 n (t, i, co, d)).2.2.2, iI (b1 : Int), perm1, hist1, iI (pc (mk (daysX (u, hd, k, f, g, l) sh 0 6 n (t, i, co, d)).2.1))) ∧ HJ b1 perm1 hist1 ∧ Top ((u, hd, k, f, g, l), sh, (t, i, co, d)) b1 perm1 hist1 := by
  have hE : OkE (u, hd, k, f, g, l) := sE hS
  have hsh : sh ≤ 7 := sSh hS
  have hX : OkX 1500 (t, i, co, d) := sX15 hS
  have hz := daysX_ok (e := (u, hd, k, f, g, l)) (sh := sh) (b := 0) (fr := 6) n 1500 (t, i, co, d) hX
  obtain ⟨b1, perm1, hist1, k1, k3, k4⟩ := s_keep hS hH
  unfold X4_days
  refine ⟨b1, perm1, hist1, ?_, k3, k4⟩
  rw [a160 hn1 hn, Option.bind_some, if_pos rfl, iI_add, L999, if_pos (tle (by omega) (by omega) (by omega)), k1, Option.bind_some, s_X0_passDays hE hsh (by omega) hX, Option.bind_some, (s_bits (mk_lt hz.2.1)).1, Option.bind_some]
-- days(), with any number
set_option maxRecDepth 20000 in
set_option maxHeartbeats 400000 in
theorem q_daysAny {u hd k f g l t i : Nat → Nat} {sh co d : Nat} {R : List Int32} {b : Nat} {perm : Nat → Nat} {hist : Nat → Hs} {p : Int32} (hS : OkS ((u, hd, k, f, g, l), sh, (t, i, co, d))) (hH : HJ b perm hist) (hR : R.length = 7) :
    ∃ (R1 : List Int32) (t1 i1 : Nat → Nat) (co1 d1 : Nat) (b1 : Nat) (perm1 : Nat → Nat) (hist1 : Nat → Hs) (r : Int32), X4_days R (rn 6 t) (rn 6 u) (rn 6 hd) (rn 7 k) (rn 7 f) (rn 7 g) (rn 7 l) (iI sh) (iI (mk i)) (iI co) (iI d) (iI (b : Int)) perm hist p = some (R1, rn 6 t1, iI (mk i1), iI co1, iI d1, iI (b1 : Int), perm1, hist1, r) ∧ OkS ((u, hd, k, f, g, l), sh, (t1, i1, co1, d1)) ∧ HJ b1 perm1 hist1 ∧ R1.length = 7 := by
  have hd1 : d ≤ 999 := xD (sX hS)
  rcases fit_cases (lo := 1) (hi := 60) (by omega) (by omega) p with ⟨n, hn1, hn, rfl, e1⟩ | e1 | e1
  · by_cases c : d + n ≤ 999
    · obtain ⟨b1, perm1, hist1, k1, k3, k4⟩ := q_days (R := R) hS hH hn1 hn c
      exact ⟨R, _, _, _, _, b1, perm1, hist1, _, k1, daysX_OkS hS c, k3, hR⟩
    · refine ⟨incR R 6, t, i, co, d, b, perm, hist, -6, ?_, hS, hH, incR_len.trans hR⟩
      unfold X4_days
      rw [a160 hn1 hn, Option.bind_some, if_pos rfl, iI_add, L999, if_neg (fle (by omega) (by omega) (by omega)), r6 hR, Option.bind_some]
  · refine ⟨incR R 4, t, i, co, d, b, perm, hist, -4, ?_, hS, hH, incR_len.trans hR⟩
    unfold X4_days
    rw [show X4_misfit p 1 60 = some (-4) from e1, Option.bind_some, if_neg (by decide), r4 hR, Option.bind_some]
  · refine ⟨incR R 6, t, i, co, d, b, perm, hist, -6, ?_, hS, hH, incR_len.trans hR⟩
    unfold X4_days
    rw [show X4_misfit p 1 60 = some (-6) from e1, Option.bind_some, if_neg (by decide), r6 hR, Option.bind_some]
set_option maxRecDepth 20000 in
set_option maxHeartbeats 400000 in
theorem q_back {u hd k f g l t i : Nat → Nat} {sh co d : Nat} {R : List Int32} {b : Nat} {perm : Nat → Nat} {hist : Nat → Hs} {u1 hd1 k1 f1 g1 l1 t1 i1 : Nat → Nat} {sh1 co1 d1 : Nat} (hH : HJ b perm hist) (hT : Top ((u1, hd1, k1, f1, g1, l1), sh1, (t1, i1, co1, d1)) b perm hist) :
    X4_back R (rn 6 t) (rn 6 u) (rn 6 hd) (rn 7 k) (rn 7 f) (rn 7 g) (rn 7 l) (iI sh) (iI (mk i)) (iI co) (iI d) (iI (b : Int)) perm hist = some (R, rn 6 t1, rn 6 u1, rn 6 hd1, rn 7 k1, rn 7 f1, rn 7 g1, rn 7 l1, iI sh1, iI (mk i1), iI co1, iI d1, iI ((b - 1 : Nat) : Int), iI ((b - 1 : Nat) : Int)) ∧ HJ (b - 1) perm hist := by
  have hb := hH.1
  obtain ⟨h1, h2⟩ := hT
  have q : ¬ iI (b : Int) = (0 : Int32) := ne0 (by omega) (by omega)
  have hp := pok_ok hH.2.1
  obtain ⟨g1', g2, g3, g4, Sf, g5⟩ := hH
  have hn : MJ (rn 6 t, rn 6 u, rn 6 hd, rn 7 k, rn 7 f, rn 7 g, rn 7 l, iI sh, iI (mk i), iI co, iI d) := ⟨rn_len, rn_len, rn_len, rn_len, rn_len, rn_len, rn_len⟩
  have hm : MJ (rn 6 t1, rn 6 u1, rn 6 hd1, rn 7 k1, rn 7 f1, rn 7 g1, rn 7 l1, iI sh1, iI (mk i1), iI co1, iI d1) := ⟨rn_len, rn_len, rn_len, rn_len, rn_len, rn_len, rn_len⟩
  have e0 : hist (perm (b - 1)) = (rn 6 t1, rn 6 u1, rn 6 hd1, rn 7 k1, rn 7 f1, rn 7 g1, rn 7 l1, iI sh1, iI (mk i1), iI co1, iI d1) := h2
  have e1 : iI (b : Int) - 1 = iI ((b - 1 : Nat) : Int) := by rw [L1, iI_sub]; exact iI_c (by omega)
  have e2 : (iI ((b - 1 : Nat) : Int)).toNatClampNeg = b - 1 := by rw [iI_nat (by omega) (by omega)]; omega
  refine ⟨?_, ⟨by omega, g2, g3, g4, Sf, fun j hj => g5 j (by omega)⟩⟩
  unfold X4_back X2_takeBack
  rw [X2_held, Option.bind_some, if_neg q, if_pos hp, e1, e2, if_pos ⟨by rw [L0]; exact tle (by omega) (by omega) (by omega), by omega⟩, e0, s_copy hn hm, Option.bind_some, Option.bind_some, X2_held, Option.bind_some]
set_option maxRecDepth 20000 in
set_option maxHeartbeats 400000 in
theorem q_image {A1 A2 A3 A4 A5 A6 A7 : List Int32} {a1 a2 a3 a4 : Int32} {u hd k f g l t i : Nat → Nat} {sh co d : Nat} {kk : Int32} (hK : MJ (A1, A2, A3, A4, A5, A6, A7, a1, a2, a3, a4)) : X4_image (rn 6 t) (rn 6 u) (rn 6 hd) (rn 7 k) (rn 7 f) (rn 7 g) (rn 7 l) A1 A2 A3 A4 A5 A6 A7 kk (iI sh) (iI (mk i)) (iI co) (iI d) a1 a2 a3 a4 = some (rn 6 t, rn 6 u, rn 6 hd, rn 7 k, rn 7 f, rn 7 g, rn 7 l, 1, iI sh, iI (mk i), iI co, iI d, iI d) := by
  have hn : MJ (rn 6 t, rn 6 u, rn 6 hd, rn 7 k, rn 7 f, rn 7 g, rn 7 l, iI sh, iI (mk i), iI co, iI d) := ⟨rn_len, rn_len, rn_len, rn_len, rn_len, rn_len, rn_len⟩
  unfold X4_image
  rw [s_copy hK hn, Option.bind_some]
set_option maxRecDepth 20000 in
set_option maxHeartbeats 400000 in
theorem q_restore {u hd k f g l t i : Nat → Nat} {sh co d : Nat} {R : List Int32} {b : Nat} {u1 hd1 k1 f1 g1 l1 t1 i1 : Nat → Nat} {sh1 co1 d1 : Nat} :
    X4_restore R (rn 6 t) (rn 6 u) (rn 6 hd) (rn 7 k) (rn 7 f) (rn 7 g) (rn 7 l) (rn 6 t1) (rn 6 u1) (rn 6 hd1) (rn 7 k1) (rn 7 f1) (rn 7 g1) (rn 7 l1) 1 (iI sh) (iI (mk i)) (iI co) (iI d) (iI sh1) (iI (mk i1)) (iI co1) (iI d1) (iI (b : Int)) = some (R, rn 6 t1, rn 6 u1, rn 6 hd1, rn 7 k1, rn 7 f1, rn 7 g1, rn 7 l1, iI sh1, iI (mk i1), iI co1, iI d1, iI ((0 : Nat) : Int), iI d1) := by
  have hn : MJ (rn 6 t, rn 6 u, rn 6 hd, rn 7 k, rn 7 f, rn 7 g, rn 7 l, iI sh, iI (mk i), iI co, iI d) := ⟨rn_len, rn_len, rn_len, rn_len, rn_len, rn_len, rn_len⟩
  have hm : MJ (rn 6 t1, rn 6 u1, rn 6 hd1, rn 7 k1, rn 7 f1, rn 7 g1, rn 7 l1, iI sh1, iI (mk i1), iI co1, iI d1) := ⟨rn_len, rn_len, rn_len, rn_len, rn_len, rn_len, rn_len⟩
  unfold X4_restore
  rw [if_neg c10, s_copy hn hm, Option.bind_some, X2_drop, Option.bind_some, ← z00]
/-! letters -/
set_option maxRecDepth 20000 in
set_option maxHeartbeats 400000 in
theorem q_feed {R : List Int32} {T : Nat → Nat} {n : Nat} {p : Int32} (hT : ∀ j, T j ≤ 255) (hn : n ≤ 96) (hR : R.length = 7) : ∃ (R1 : List Int32) (T1 : Nat → Nat) (n1 : Nat) (r : Int32), X4_feed R (rn 96 T) (iI n) p = some (R1, rn 96 T1, iI n1, r) ∧ n1 ≤ 96 ∧ (∀ j, T1 j ≤ 255) ∧ R1.length = 7 := by
  have hb1 := Int32.le_toInt p
  have hb2 := Int32.toInt_lt p
  have e : p = iI p.toInt := (iI_of p).symm
  generalize p.toInt = m at *
  subst e
  unfold X4_feed
  rw [L0, L255]
  by_cases c0 : 0 ≤ m
  · rw [if_pos (tle c0 (by omega) (by omega))]
    by_cases c1 : m ≤ 255
    · obtain ⟨v, rfl⟩ := Int.eq_ofNat_of_zero_le c0
      rw [if_neg (flt c1 (by omega) (by omega)), X1_isFull, rn_len, iI_len]
      by_cases c : n = 96
      · subst c
        rw [if_neg (flt (by omega) (by omega) (by omega)), Option.bind_some, if_neg (by decide), r6 hR, Option.bind_some]
        exact ⟨_, T, 96, _, rfl, by omega, hT, incR_len.trans hR⟩
      · rw [if_pos (tlt (by omega) (by omega) (by omega)), Option.bind_some, if_pos (by decide), X1_add, L0, if_neg (flt (by omega) (by omega) (by omega)), rn_len, iI_len, if_neg (fle (by omega) (by omega) (by omega)), wr_rn (by omega) (by omega) (by omega) (by omega), Option.bind_some, Option.bind_some, X1_length, Option.bind_some, iI_s]
        exact ⟨R, _, n + 1, _, rfl, by omega, fun j => upN_le hT (by omega) j, hR⟩
    · rw [if_pos (tlt (by omega) (by omega) (by omega)), r6 hR, Option.bind_some]
      exact ⟨_, T, n, _, rfl, hn, hT, incR_len.trans hR⟩
  · rw [if_neg (fle (by omega) (by omega) (by omega)), r4 hR, Option.bind_some]
    exact ⟨_, T, n, _, rfl, hn, hT, incR_len.trans hR⟩
