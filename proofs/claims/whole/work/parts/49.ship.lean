/-! a SHIP more -/
set_option maxRecDepth 20000 in
set_option maxHeartbeats 400000 in
theorem kind_cases (p : Int32) : (∃ n : Nat, n ≤ 5 ∧ p = iI (n : Int) ∧ ¬ p < (0 : Int32) ∧ p < (6 : Int32) ∧ X5_isIn p 0 5 = some 1) ∨ (p < (0 : Int32) ∧ X5_isIn p 0 5 = some 0) ∨ (¬ p < (0 : Int32) ∧ ¬ p < (6 : Int32) ∧ X5_isIn p 0 5 = some 0) := by
  have hb1 := Int32.le_toInt p
  have hb2 := Int32.toInt_lt p
  have e : p = iI p.toInt := (iI_of p).symm
  generalize p.toInt = a at *
  subst e
  rw [L0, L6, L5, s_isIn hb1 hb2 (by omega) (by omega) (by omega) (by omega)]
  by_cases h0 : a < 0
  · exact Or.inr (Or.inl ⟨tlt h0 (by omega) (by omega), by rw [if_neg (by omega), L0]⟩)
  · have g0 : ¬ iI a < iI 0 := flt (by omega) (by omega) (by omega)
    by_cases h1 : a ≤ 5
    · exact Or.inl ⟨a.toNat, by omega, iI_c (by omega), g0, tlt (by omega) (by omega) (by omega), by rw [if_pos ⟨by omega, h1⟩]⟩
    · exact Or.inr (Or.inr ⟨g0, flt (by omega) (by omega) (by omega), by rw [if_neg (by omega), L0]⟩)
set_option maxRecDepth 20000 in
set_option maxHeartbeats 400000 in
theorem s_adds {k f g l i : Nat → Nat} {sh a1 a2 a3 a4 : Nat} (hi : ∀ j, i j ≤ 1) (hsh : sh < 7) : X0_addShip (rn 7 k) (rn 7 f) (rn 7 g) (rn 7 l) (iI sh) (iI (mk i)) (iI (a1 : Int)) (iI (a2 : Int)) (iI (a3 : Int)) (iI (a4 : Int)) = some (rn 7 (upN k sh a1), rn 7 (upN f sh a2), rn 7 (upN g sh a3), rn 7 (upN l sh a4), iI ((sh + 1 : Nat) : Int), iI (mk (upN i sh 0))) ∧ X5_adds (rn 7 k) (rn 7 f) (rn 7 g) (rn 7 l) (rn 7 i) (iI sh) (iI (a1 : Int)) (iI (a2 : Int)) (iI (a3 : Int)) (iI (a4 : Int)) = some (rn 7 (upN k sh a1), rn 7 (upN f sh a2), rn 7 (upN g sh a3), rn 7 (upN l sh a4), rn 7 (upN i sh 0), iI ((sh + 1 : Nat) : Int)) := by
  unfold X0_addShip X5_adds
  rw [if_neg (by rw [L0]; exact flt (by omega) (by omega) (by omega)), if_neg (by rw [L7]; exact fle (by omega) (by omega) (by omega))]
  rw [wr_rn (f := k) (by omega) (by omega) (by omega) (by omega), Option.bind_some, Option.bind_some, wr_rn (f := f) (by omega) (by omega) (by omega) (by omega), Option.bind_some, Option.bind_some, wr_rn (f := g) (by omega) (by omega) (by omega) (by omega), Option.bind_some, Option.bind_some, wr_rn (f := l) (by omega) (by omega) (by omega) (by omega), Option.bind_some, Option.bind_some, s_X0_sendOut hi (by omega) (by omega), i0, wr_rn (f := i) (by omega) (by omega) (by omega) (by omega), Option.bind_some, Option.bind_some, iI_s]
  simp only [Int.toNat_natCast]
  exact ⟨trivial, trivial⟩
set_option maxRecDepth 20000 in
set_option maxHeartbeats 400000 in
theorem op_ship {u hd k f g l t i : Nat → Nat} {sh co d : Nat} {R : List Int32} {b : Nat} {perm : Nat → Nat} {hist : Nat → Hs} {F : Nat → Int32} {p q v w : Int32} (hS : OkS ((u, hd, k, f, g, l), sh, (t, i, co, d))) (hH : HI b perm hist F) (hR : R.length = 7) :
    ∃ (R1 : List Int32) (k1 f1 g1 l1 i1 : Nat → Nat) (sh1 b1 : Nat) (r : Int32), X4_ship R (rn 7 k) (rn 7 f) (rn 7 g) (rn 7 l) (iI sh) (iI (mk i)) (iI (b : Int)) p q v w = some (R1, rn 7 k1, rn 7 f1, rn 7 g1, rn 7 l1, iI sh1, iI (mk i1), iI (b1 : Int), r) ∧ X5_ship R (rn 7 k) (rn 7 f) (rn 7 g) (rn 7 l) (rn 7 i) (iI sh) (iI (b : Int)) p q v w = some (R1, rn 7 k1, rn 7 f1, rn 7 g1, rn 7 l1, rn 7 i1, iI sh1, iI (b1 : Int), r) ∧ OkS ((u, hd, k1, f1, g1, l1), sh1, (t, i1, co, d)) ∧ HI b1 perm hist F ∧ R1.length = 7 := by
  have h1 := s_refuse (R := R) (c := 1) hR (by omega) (by omega)
  have h2 := s_refuse (R := R) (c := 2) hR (by omega) (by omega)
  have h4 := s_refuse (R := R) (c := 4) hR (by omega) (by omega)
  have h6 := s_refuse (R := R) (c := 6) hR (by omega) (by omega)
  have hE : OkE (u, hd, k, f, g, l) := sE hS
  have hhd : ∀ j, hd j ≤ 99 := hS.2.1
  have hsh : sh ≤ 7 := sSh hS
  have hX : OkX 999 (t, i, co, d) := sX hS
  have hO : OutI sh i := sO hS
  have hi := xI hX
  have no : ∀ (c : Nat), ∃ (R1 : List Int32) (k1 f1 g1 l1 i1 : Nat → Nat) (sh1 b1 : Nat) (r : Int32), some (incR R c, rn 7 k, rn 7 f, rn 7 g, rn 7 l, iI (sh : Int), iI (mk i : Int), iI (b : Int), iI (-(c : Int))) = some (R1, rn 7 k1, rn 7 f1, rn 7 g1, rn 7 l1, iI (sh1 : Int), iI (mk i1 : Int), iI (b1 : Int), r) ∧ some (incR R c, rn 7 k, rn 7 f, rn 7 g, rn 7 l, rn 7 i, iI (sh : Int), iI (b : Int), iI (-(c : Int))) = some (R1, rn 7 k1, rn 7 f1, rn 7 g1, rn 7 l1, rn 7 i1, iI (sh1 : Int), iI (b1 : Int), r) ∧ OkS ((u, hd, k1, f1, g1, l1), sh1, (t, i1, co, d)) ∧ HI b1 perm hist F ∧ R1.length = 7 := fun c => ⟨_, k, f, g, l, i, sh, b, _, rfl, rfl, hS, hH, incR_len.trans hR⟩
  unfold X4_ship X5_ship
  rcases kind_cases p with ⟨a1, ha1, rfl, g1, g2, g3⟩ | ⟨g1, g3⟩ | ⟨g1, g2, g3⟩
  · rw [if_neg g1, if_pos g2, g3, Option.bind_some, if_neg c10]
    have hq1 := Int32.le_toInt q
    have hq2 := Int32.toInt_lt q
    have eq : q = iI q.toInt := (iI_of q).symm
    generalize q.toInt = mq at *
    subst eq
    have hw1 := Int32.le_toInt w
    have hw2 := Int32.toInt_lt w
    have ew : w = iI w.toInt := (iI_of w).symm
    generalize w.toInt = mw at *
    subst ew
    rw [L0, L10, L9, L99, L7]
    by_cases c1 : mq < 0
    · rw [if_pos (tlt c1 (by omega) (by omega)), if_pos (tlt c1 (by omega) (by omega)), m4, h4.1, h4.2, Option.bind_some, Option.bind_some]
      exact no 4
    have c1' : ¬ iI mq < iI 0 := flt (by omega) (by omega) (by omega)
    rw [if_neg c1', if_neg c1']
    by_cases c2 : 0 ≤ mw
    · have c2' : iI 0 ≤ iI mw := tle c2 (by omega) (by omega)
      rw [if_pos c2', if_pos c2']
      by_cases c3 : 9 < mq
      · rw [if_pos (show iI 10 ≤ iI mq from tle (by omega) (by omega) (by omega)), if_pos (show iI 9 < iI mq from tlt (by omega) (by omega) (by omega)), m6, h6.1, h6.2, Option.bind_some, Option.bind_some]
        exact no 6
      rw [if_neg (show ¬ iI 10 ≤ iI mq from fle (by omega) (by omega) (by omega)), if_neg (show ¬ iI 9 < iI mq from flt (by omega) (by omega) (by omega))]
      by_cases c4 : 99 < mw
      · have c4' : iI 99 < iI mw := tlt c4 (by omega) (by omega)
        rw [if_pos c4', if_pos c4', m6, h6.1, h6.2, Option.bind_some, Option.bind_some]
        exact no 6
      have c4' : ¬ iI 99 < iI mw := flt (by omega) (by omega) (by omega)
      rw [if_neg c4', if_neg c4']
      by_cases c5 : sh = 7
      · rw [if_neg (show ¬ iI (sh : Int) < iI 7 from flt (by omega) (by omega) (by omega)), if_pos (show iI (sh : Int) = iI 7 from teq (by omega)), m6, h6.1, h6.2, Option.bind_some, Option.bind_some]
        exact no 6
      rw [if_pos (show iI (sh : Int) < iI 7 from tlt (by omega) (by omega) (by omega)), if_neg (show ¬ iI (sh : Int) = iI 7 from feq (by omega) (by omega) (by omega) (by omega) (by omega))]
      rcases good_cases v with ⟨a3, ha3, rfl, e1, e2⟩ | ⟨e1, e2⟩
      · obtain ⟨a2, rfl⟩ := Int.eq_ofNat_of_zero_le (show 0 ≤ mq by omega)
        obtain ⟨a4, rfl⟩ := Int.eq_ofNat_of_zero_le c2
        have hs := s_adds (k := k) (f := f) (g := g) (l := l) (i := i) (sh := sh) (a1 := a1) (a2 := a2) (a3 := a3) (a4 := a4) hi (by omega)
        rw [e1, e2, Option.bind_some, Option.bind_some, ← L0, if_neg c10, if_neg c10, hs.1, hs.2, Option.bind_some, Option.bind_some, X2_drop, Option.bind_some, ← z00]
        refine ⟨R, _, _, _, _, _, sh + 1, 0, _, rfl, rfl, ⟨⟨oU hE, oH hE, fun j => upN_le (oK hE) ha1 j, fun j => upN_le (oF hE) (by omega) j, fun j => upN_le (oG hE) (by omega) j, fun j => upN_le (oL hE) (by omega) j⟩, hhd, Nat.succ_le_of_lt (by omega), ⟨xT hX, fun j => upN_le hi (by omega) j, hX.2.2⟩, fun j hj => ?_⟩, hH.zero, hR⟩
        have hj2 : sh + 1 ≤ j := hj
        show upN i sh 0 j = 0
        unfold upN
        rw [if_neg (by omega)]
        exact hO j (by omega)
      · rw [e1, e2, Option.bind_some, Option.bind_some, if_pos L0, if_pos L0, m1, h1.1, h1.2, Option.bind_some, Option.bind_some]
        exact no 1
    · have c2' : ¬ iI 0 ≤ iI mw := fle (by omega) (by omega) (by omega)
      rw [if_neg c2', if_neg c2', m4, h4.1, h4.2, Option.bind_some, Option.bind_some]
      exact no 4
  · rw [if_pos g1, g3, Option.bind_some, if_pos rfl, m2, h2.1, h2.2, Option.bind_some, Option.bind_some]
    exact no 2
  · rw [if_neg g1, if_neg g2, g3, Option.bind_some, if_pos rfl, m2, h2.1, h2.2, Option.bind_some, Option.bind_some]
    exact no 2
