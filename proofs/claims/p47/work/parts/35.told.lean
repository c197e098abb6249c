/-! a HARBOUR told in letters: the class goes on to one that is as it must be, or finds that it is not -/
def GoT (T : Nat → Nat) (n p : Nat) (S : SS) : Prop :=
  (X3_isAsItMustBe (rn 96 T) (rn 6 S.2.2.1) (rn 6 S.1.2.1) (iI n) (iI S.2.1) (iI (mk S.2.2.2.1)) (iI S.2.2.2.2.2) (iI (p : Int)) = some 0) ∨
  (X3_isAsItMustBe (rn 96 T) (rn 6 S.2.2.1) (rn 6 S.1.2.1) (iI n) (iI S.2.1) (iI (mk S.2.2.2.1)) (iI S.2.2.2.2.2) (iI (p : Int)) = some 1 ∧ ∃ Z : SS, OkS Z ∧ X3_carryOut (rn 96 T) (rn 6 S.2.2.1) (rn 6 S.1.1) (rn 6 S.1.2.1) (rn 7 S.1.2.2.1) (rn 7 S.1.2.2.2.1) (rn 7 S.1.2.2.2.2.1) (rn 7 S.1.2.2.2.2.2) (iI n) (iI S.2.1) (iI (mk S.2.2.2.1)) (iI S.2.2.2.2.1) (iI S.2.2.2.2.2) (iI (p : Int)) = some (rn 6 Z.2.2.1, rn 6 Z.1.1, rn 6 Z.1.2.1, rn 7 Z.1.2.2.1, rn 7 Z.1.2.2.2.1, rn 7 Z.1.2.2.2.2.1, rn 7 Z.1.2.2.2.2.2, iI Z.2.1, iI (mk Z.2.2.2.1), iI Z.2.2.2.2.1, iI Z.2.2.2.2.2))
set_option maxRecDepth 20000 in
set_option maxHeartbeats 400000 in
theorem go_c {u hd k f g l t i : Nat → Nat} {sh co d : Nat} {T : Nat → Nat} {n p : Nat} (hT : ∀ j, T j ≤ 255) (hn : n ≤ 96) (hp : p ≤ 96) (hS : OkS ((u, hd, k, f, g, l), sh, (t, i, co, d))) (hf : flt1 T n p < 0) (hc : aT T n p = 99) : GoT T n p ((u, hd, k, f, g, l), sh, (t, i, co, d)) := by
  have hE : OkE (u, hd, k, f, g, l) := sE hS
  have hhd : ∀ j, hd j ≤ 99 := hS.2.1
  have hsh : sh ≤ 7 := sSh hS
  have hX : OkX 999 (t, i, co, d) := sX hS
  have hO : OutI sh i := sO hS
  have ht := xT hX
  have hi := xI hX
  have hd1 := xD hX
  have dg := flt_dig hf
  rw [hc] at dg
  have p2 : iI (p : Int) + 2 = iI ((p + 2 : Nat) : Int) := by rw [L2, iI_add]; rfl
  have p3 : iI (p : Int) + 3 = iI ((p + 3 : Nat) : Int) := by rw [L3, iI_add]; rfl
  have p4 : iI (p : Int) + 4 = iI ((p + 4 : Nat) : Int) := by rw [L4, iI_add]; rfl
  obtain ⟨a1, e1⟩ := Int.eq_ofNat_of_zero_le (show 0 ≤ dT T n (p + 1) from dg 0 (by decide))
  have u1 := dT_b (T := T) (n := n) (p := p + 1)
  obtain ⟨a2, e2⟩ := Int.eq_ofNat_of_zero_le (show 0 ≤ dT T n (p + 2) from dg 1 (by decide))
  have u2 := dT_b (T := T) (n := n) (p := p + 2)
  have ev : iI (10 * dT T n (p + 1) + dT T n (p + 2)) = iI ((10 * a1 + a2 : Nat) : Int) := iI_c (by omega)
  refine Or.inr ⟨?_, ((u, hd, k, f, g, l), sh, (t, i, 10 * a1 + a2, d)), ⟨hE, hhd, hsh, ⟨ht, hi, show 10 * a1 + a2 ≤ 99 by omega, hd1⟩, hO⟩, ?_⟩
  · unfold X3_isAsItMustBe
    rw [iI_s p, s_digit (p := p + 1) hT hn (by omega), Option.bind_some, s_at hn (by omega), Option.bind_some, hc]
    rfl
  · unfold X3_carryOut
    rw [iI_s p, s_digit (p := p + 1) hT hn (by omega), Option.bind_some, s_at hn (by omega), Option.bind_some, hc, if_pos (show iI 99 = (99 : Int32) by decide), s_two hT hn (by omega), Option.bind_some, ev]
set_option maxRecDepth 20000 in
set_option maxHeartbeats 400000 in
theorem go_d {u hd k f g l t i : Nat → Nat} {sh co d : Nat} {T : Nat → Nat} {n p : Nat} (hT : ∀ j, T j ≤ 255) (hn : n ≤ 96) (hp : p ≤ 96) (hS : OkS ((u, hd, k, f, g, l), sh, (t, i, co, d))) (hf : flt1 T n p < 0) (hc : aT T n p = 100) : GoT T n p ((u, hd, k, f, g, l), sh, (t, i, co, d)) := by
  have hE : OkE (u, hd, k, f, g, l) := sE hS
  have hhd : ∀ j, hd j ≤ 99 := hS.2.1
  have hsh : sh ≤ 7 := sSh hS
  have hX : OkX 999 (t, i, co, d) := sX hS
  have hO : OutI sh i := sO hS
  have ht := xT hX
  have hi := xI hX
  have hd1 := xD hX
  have dg := flt_dig hf
  rw [hc] at dg
  have p2 : iI (p : Int) + 2 = iI ((p + 2 : Nat) : Int) := by rw [L2, iI_add]; rfl
  have p3 : iI (p : Int) + 3 = iI ((p + 3 : Nat) : Int) := by rw [L3, iI_add]; rfl
  have p4 : iI (p : Int) + 4 = iI ((p + 4 : Nat) : Int) := by rw [L4, iI_add]; rfl
  obtain ⟨a1, e1⟩ := Int.eq_ofNat_of_zero_le (show 0 ≤ dT T n (p + 1) from dg 0 (by decide))
  have u1 := dT_b (T := T) (n := n) (p := p + 1)
  obtain ⟨a2, e2⟩ := Int.eq_ofNat_of_zero_le (show 0 ≤ dT T n (p + 2) from dg 1 (by decide))
  have u2 := dT_b (T := T) (n := n) (p := p + 2)
  have ev : iI (10 * dT T n (p + 1) + dT T n (p + 2)) = iI ((10 * a1 + a2 : Nat) : Int) := iI_c (by omega)
  have cl : X3_isAsItMustBe (rn 96 T) (rn 6 t) (rn 6 hd) (iI n) (iI sh) (iI (mk i)) (iI d) (iI (p : Int)) = some (if 1 ≤ 10 * a1 + a2 ∧ 10 * a1 + a2 ≤ 60 ∧ d + (10 * a1 + a2) ≤ 999 then 1 else 0) := by
    unfold X3_isAsItMustBe
    rw [iI_s p, s_digit (p := p + 1) hT hn (by omega), Option.bind_some, s_at hn (by omega), Option.bind_some, hc, if_pos (show iI 100 = (100 : Int32) by decide), s_two hT hn (by omega), Option.bind_some, ev, L999, iI_sub, L60, mmin_iI (by omega) (by omega) (by omega) (by omega)]
    unfold X4_misfit
    rw [L1]
    by_cases c1 : 1 ≤ 10 * a1 + a2
    · rw [if_pos (tle (by omega) (by omega) (by omega))]
      by_cases c2 : 10 * a1 + a2 ≤ 60 ∧ d + (10 * a1 + a2) ≤ 999
      · rw [if_pos (tle (by omega) (by omega) (by omega)), Option.bind_some, if_pos rfl, if_pos ⟨c1, c2⟩]
      · rw [if_neg (fle (by omega) (by omega) (by omega)), Option.bind_some, if_neg (by decide), if_neg (fun z => c2 z.2)]
    · rw [if_neg (fle (by omega) (by omega) (by omega)), Option.bind_some, if_neg (by decide), if_neg (fun z => c1 z.1)]
  by_cases c1 : 1 ≤ 10 * a1 + a2 ∧ 10 * a1 + a2 ≤ 60 ∧ d + (10 * a1 + a2) ≤ 999
  · rw [if_pos c1] at cl
    have w0 := s_X0_passDays (N := 10 * a1 + a2) hE hsh (by omega) (hX.mono (show 999 ≤ 1500 by omega))
    refine Or.inr ⟨cl, ((u, hd, k, f, g, l), sh, daysX (u, hd, k, f, g, l) sh 0 6 (10 * a1 + a2) (t, i, co, d)), daysX_OkS hS c1.2.2, ?_⟩
    unfold X3_carryOut
    rw [iI_s p, s_digit (p := p + 1) hT hn (by omega), Option.bind_some, s_at hn (by omega), Option.bind_some, hc, if_neg (show ¬ iI 100 = (99 : Int32) by decide), if_pos (show iI 100 = (100 : Int32) by decide), s_two hT hn (by omega), Option.bind_some, ev, w0, Option.bind_some]
  · rw [if_neg c1] at cl
    exact Or.inl cl
set_option maxRecDepth 20000 in
set_option maxHeartbeats 400000 in
theorem go_t {u hd k f g l t i : Nat → Nat} {sh co d : Nat} {T : Nat → Nat} {n p : Nat} (hT : ∀ j, T j ≤ 255) (hn : n ≤ 96) (hp : p ≤ 96) (hS : OkS ((u, hd, k, f, g, l), sh, (t, i, co, d))) (hf : flt1 T n p < 0) (hc : aT T n p = 116) : GoT T n p ((u, hd, k, f, g, l), sh, (t, i, co, d)) := by
  have hE : OkE (u, hd, k, f, g, l) := sE hS
  have hhd : ∀ j, hd j ≤ 99 := hS.2.1
  have hsh : sh ≤ 7 := sSh hS
  have hX : OkX 999 (t, i, co, d) := sX hS
  have hO : OutI sh i := sO hS
  have ht := xT hX
  have hi := xI hX
  have hd1 := xD hX
  have dg := flt_dig hf
  rw [hc] at dg
  have p2 : iI (p : Int) + 2 = iI ((p + 2 : Nat) : Int) := by rw [L2, iI_add]; rfl
  have p3 : iI (p : Int) + 3 = iI ((p + 3 : Nat) : Int) := by rw [L3, iI_add]; rfl
  have p4 : iI (p : Int) + 4 = iI ((p + 4 : Nat) : Int) := by rw [L4, iI_add]; rfl
  obtain ⟨a1, e1⟩ := Int.eq_ofNat_of_zero_le (show 0 ≤ dT T n (p + 1) from dg 0 (by decide))
  have u1 := dT_b (T := T) (n := n) (p := p + 1)
  obtain ⟨a2, e2⟩ := Int.eq_ofNat_of_zero_le (show 0 ≤ dT T n (p + 2) from dg 1 (by decide))
  have u2 := dT_b (T := T) (n := n) (p := p + 2)
  obtain ⟨a3, e3⟩ := Int.eq_ofNat_of_zero_le (show 0 ≤ dT T n (p + 3) from dg 2 (by decide))
  have u3 := dT_b (T := T) (n := n) (p := p + 3)
  have ev : iI (10 * dT T n (p + 2) + dT T n (p + 3)) = iI ((10 * a2 + a3 : Nat) : Int) := iI_c (by omega)
  have gg := s_isGoodN (a := a1) (by omega)
  by_cases c1 : a1 < 6
  · rw [if_pos c1] at gg
    refine Or.inr ⟨?_, ((u, hd, k, f, g, l), sh, (upN t a1 (10 * a2 + a3), i, co, d)), ⟨hE, hhd, hsh, ⟨fun j => upN_le ht (by omega) j, hi, hX.2.2⟩, hO⟩, ?_⟩
    · unfold X3_isAsItMustBe
      rw [iI_s p, s_digit (p := p + 1) hT hn (by omega), Option.bind_some, s_at hn (by omega), Option.bind_some, hc, if_neg (show ¬ iI 116 = (100 : Int32) by decide), if_neg (show ¬ iI 116 = (104 : Int32) by decide), if_neg (show ¬ iI 116 = (111 : Int32) by decide), if_neg (show ¬ iI 116 = (115 : Int32) by decide), if_pos (show iI 116 = (116 : Int32) by decide), e1, gg, Option.bind_some, c01_1, Option.bind_some]
    · unfold X3_carryOut
      rw [iI_s p, s_digit (p := p + 1) hT hn (by omega), Option.bind_some, s_at hn (by omega), Option.bind_some, hc, if_neg (show ¬ iI 116 = (99 : Int32) by decide), if_neg (show ¬ iI 116 = (100 : Int32) by decide), if_neg (show ¬ iI 116 = (104 : Int32) by decide), if_neg (show ¬ iI 116 = (111 : Int32) by decide), if_neg (show ¬ iI 116 = (115 : Int32) by decide), if_pos (show iI 116 = (116 : Int32) by decide), p2, s_two hT hn (by omega), Option.bind_some, ev, e1, wr_rn (by omega) (by omega) (by omega) (by omega), Option.bind_some, Int.toNat_natCast, Int.toNat_natCast]
  · rw [if_neg c1] at gg
    refine Or.inl ?_
    unfold X3_isAsItMustBe
    rw [iI_s p, s_digit (p := p + 1) hT hn (by omega), Option.bind_some, s_at hn (by omega), Option.bind_some, hc, if_neg (show ¬ iI 116 = (100 : Int32) by decide), if_neg (show ¬ iI 116 = (104 : Int32) by decide), if_neg (show ¬ iI 116 = (111 : Int32) by decide), if_neg (show ¬ iI 116 = (115 : Int32) by decide), if_pos (show iI 116 = (116 : Int32) by decide), e1, gg, Option.bind_some, c01_0, Option.bind_some]
set_option maxRecDepth 20000 in
set_option maxHeartbeats 400000 in
theorem go_u {u hd k f g l t i : Nat → Nat} {sh co d : Nat} {T : Nat → Nat} {n p : Nat} (hT : ∀ j, T j ≤ 255) (hn : n ≤ 96) (hp : p ≤ 96) (hS : OkS ((u, hd, k, f, g, l), sh, (t, i, co, d))) (hf : flt1 T n p < 0) (hc : aT T n p = 117) : GoT T n p ((u, hd, k, f, g, l), sh, (t, i, co, d)) := by
  have hE : OkE (u, hd, k, f, g, l) := sE hS
  have hhd : ∀ j, hd j ≤ 99 := hS.2.1
  have hsh : sh ≤ 7 := sSh hS
  have hX : OkX 999 (t, i, co, d) := sX hS
  have hO : OutI sh i := sO hS
  have ht := xT hX
  have hi := xI hX
  have hd1 := xD hX
  have dg := flt_dig hf
  rw [hc] at dg
  have p2 : iI (p : Int) + 2 = iI ((p + 2 : Nat) : Int) := by rw [L2, iI_add]; rfl
  have p3 : iI (p : Int) + 3 = iI ((p + 3 : Nat) : Int) := by rw [L3, iI_add]; rfl
  have p4 : iI (p : Int) + 4 = iI ((p + 4 : Nat) : Int) := by rw [L4, iI_add]; rfl
  obtain ⟨a1, e1⟩ := Int.eq_ofNat_of_zero_le (show 0 ≤ dT T n (p + 1) from dg 0 (by decide))
  have u1 := dT_b (T := T) (n := n) (p := p + 1)
  obtain ⟨a2, e2⟩ := Int.eq_ofNat_of_zero_le (show 0 ≤ dT T n (p + 2) from dg 1 (by decide))
  have u2 := dT_b (T := T) (n := n) (p := p + 2)
  have ev : iI (dT T n (p + 2)) = iI ((a2 : Nat) : Int) := iI_c (by omega)
  have gg := s_isGoodN (a := a1) (by omega)
  by_cases c1 : a1 < 6
  · rw [if_pos c1] at gg
    refine Or.inr ⟨?_, ((upN u a1 a2, hd, k, f, g, l), sh, (t, i, co, d)), ⟨hE.u1 (fun j => upN_le (oU hE) (by omega) j), hhd, hsh, hX, hO⟩, ?_⟩
    · unfold X3_isAsItMustBe
      rw [iI_s p, s_digit (p := p + 1) hT hn (by omega), Option.bind_some, s_at hn (by omega), Option.bind_some, hc, if_neg (show ¬ iI 117 = (100 : Int32) by decide), if_neg (show ¬ iI 117 = (104 : Int32) by decide), if_neg (show ¬ iI 117 = (111 : Int32) by decide), if_neg (show ¬ iI 117 = (115 : Int32) by decide), if_neg (show ¬ iI 117 = (116 : Int32) by decide), if_pos (show iI 117 = (117 : Int32) by decide), e1, gg, Option.bind_some, c01_1, Option.bind_some]
    · unfold X3_carryOut
      rw [iI_s p, s_digit (p := p + 1) hT hn (by omega), Option.bind_some, s_at hn (by omega), Option.bind_some, hc, if_neg (show ¬ iI 117 = (99 : Int32) by decide), if_neg (show ¬ iI 117 = (100 : Int32) by decide), if_neg (show ¬ iI 117 = (104 : Int32) by decide), if_neg (show ¬ iI 117 = (111 : Int32) by decide), if_neg (show ¬ iI 117 = (115 : Int32) by decide), if_neg (show ¬ iI 117 = (116 : Int32) by decide), if_pos (show iI 117 = (117 : Int32) by decide), p2, s_digit hT hn (by omega), Option.bind_some, ev, e1, wr_rn (by omega) (by omega) (by omega) (by omega), Option.bind_some, Int.toNat_natCast, Int.toNat_natCast]
  · rw [if_neg c1] at gg
    refine Or.inl ?_
    unfold X3_isAsItMustBe
    rw [iI_s p, s_digit (p := p + 1) hT hn (by omega), Option.bind_some, s_at hn (by omega), Option.bind_some, hc, if_neg (show ¬ iI 117 = (100 : Int32) by decide), if_neg (show ¬ iI 117 = (104 : Int32) by decide), if_neg (show ¬ iI 117 = (111 : Int32) by decide), if_neg (show ¬ iI 117 = (115 : Int32) by decide), if_neg (show ¬ iI 117 = (116 : Int32) by decide), if_pos (show iI 117 = (117 : Int32) by decide), e1, gg, Option.bind_some, c01_0, Option.bind_some]
set_option maxRecDepth 20000 in
set_option maxHeartbeats 400000 in
theorem go_h {u hd k f g l t i : Nat → Nat} {sh co d : Nat} {T : Nat → Nat} {n p : Nat} (hT : ∀ j, T j ≤ 255) (hn : n ≤ 96) (hp : p ≤ 96) (hS : OkS ((u, hd, k, f, g, l), sh, (t, i, co, d))) (hf : flt1 T n p < 0) (hc : aT T n p = 104) : GoT T n p ((u, hd, k, f, g, l), sh, (t, i, co, d)) := by
  have hE : OkE (u, hd, k, f, g, l) := sE hS
  have hhd : ∀ j, hd j ≤ 99 := hS.2.1
  have hsh : sh ≤ 7 := sSh hS
  have hX : OkX 999 (t, i, co, d) := sX hS
  have hO : OutI sh i := sO hS
  have ht := xT hX
  have hi := xI hX
  have hd1 := xD hX
  have dg := flt_dig hf
  rw [hc] at dg
  have p2 : iI (p : Int) + 2 = iI ((p + 2 : Nat) : Int) := by rw [L2, iI_add]; rfl
  have p3 : iI (p : Int) + 3 = iI ((p + 3 : Nat) : Int) := by rw [L3, iI_add]; rfl
  have p4 : iI (p : Int) + 4 = iI ((p + 4 : Nat) : Int) := by rw [L4, iI_add]; rfl
  obtain ⟨a1, e1⟩ := Int.eq_ofNat_of_zero_le (show 0 ≤ dT T n (p + 1) from dg 0 (by decide))
  have u1 := dT_b (T := T) (n := n) (p := p + 1)
  obtain ⟨a2, e2⟩ := Int.eq_ofNat_of_zero_le (show 0 ≤ dT T n (p + 2) from dg 1 (by decide))
  have u2 := dT_b (T := T) (n := n) (p := p + 2)
  obtain ⟨a3, e3⟩ := Int.eq_ofNat_of_zero_le (show 0 ≤ dT T n (p + 3) from dg 2 (by decide))
  have u3 := dT_b (T := T) (n := n) (p := p + 3)
  have ev : iI (10 * dT T n (p + 2) + dT T n (p + 3)) = iI ((10 * a2 + a3 : Nat) : Int) := iI_c (by omega)
  have gg := s_isGoodN (a := a1) (by omega)
  by_cases c1 : a1 < 6
  · rw [if_pos c1] at gg
    rcases hide_cases ht hhd c1 (iI ((10 * a2 + a3 : Nat) : Int)) with ⟨m, em, n1, n2, n3, n4, b1⟩ | b1
    · have em2 : m = ((10 * a2 + a3 : Nat) : Int) := by
        have b2 := hhd a1
        have b3 := ht a1
        have h := em
        rw [iI_eq (by omega) (by omega) (by omega) (by omega)] at h
        exact h.symm
      subst em2
      have hw := (s_hideAway (t := t) (hd := hd) c1 n1 n2).1
      refine Or.inr ⟨?_, ((u, upN hd a1 ((hd a1 : Int) + ((10 * a2 + a3 : Nat) : Int)).toNat, k, f, g, l), sh, (upN t a1 ((t a1 : Int) - ((10 * a2 + a3 : Nat) : Int)).toNat, i, co, d)), ⟨⟨oU hE, fun j => upN_le (oH hE) (by omega) j, hE.2.2⟩, fun j => upN_le hhd (by omega) j, hsh, ⟨fun j => upN_le ht (by have := ht a1; omega) j, hX.2⟩, hO⟩, ?_⟩
      · unfold X3_isAsItMustBe
        rw [iI_s p, s_digit (p := p + 1) hT hn (by omega), Option.bind_some, s_at hn (by omega), Option.bind_some, hc, if_neg (show ¬ iI 104 = (100 : Int32) by decide), if_pos (show iI 104 = (104 : Int32) by decide), e1, gg, Option.bind_some, if_neg c10, p2, s_two hT hn (by omega), Option.bind_some, ev, b1, Option.bind_some, if_neg c10]
      · unfold X3_carryOut
        rw [iI_s p, s_digit (p := p + 1) hT hn (by omega), Option.bind_some, s_at hn (by omega), Option.bind_some, hc, if_neg (show ¬ iI 104 = (99 : Int32) by decide), if_neg (show ¬ iI 104 = (100 : Int32) by decide), if_pos (show iI 104 = (104 : Int32) by decide), p2, s_two hT hn (by omega), Option.bind_some, ev, e1, hw, Option.bind_some]
    · refine Or.inl ?_
      unfold X3_isAsItMustBe
      rw [iI_s p, s_digit (p := p + 1) hT hn (by omega), Option.bind_some, s_at hn (by omega), Option.bind_some, hc, if_neg (show ¬ iI 104 = (100 : Int32) by decide), if_pos (show iI 104 = (104 : Int32) by decide), e1, gg, Option.bind_some, if_neg c10, p2, s_two hT hn (by omega), Option.bind_some, ev, b1, Option.bind_some, if_pos (show (0 : Int32) = 0 from rfl)]
  · rw [if_neg c1] at gg
    refine Or.inl ?_
    unfold X3_isAsItMustBe
    rw [iI_s p, s_digit (p := p + 1) hT hn (by omega), Option.bind_some, s_at hn (by omega), Option.bind_some, hc, if_neg (show ¬ iI 104 = (100 : Int32) by decide), if_pos (show iI 104 = (104 : Int32) by decide), e1, gg, Option.bind_some, if_pos (show (0 : Int32) = 0 from rfl)]
set_option maxRecDepth 20000 in
set_option maxHeartbeats 400000 in
theorem s_isShip {sh s : Nat} (hsh : sh ≤ 7) (hs : s ≤ 99) : X0_isShip (iI sh) (iI (s : Int)) = some (if s < sh then 1 else 0) := by
  by_cases c : s < sh
  · rw [if_pos c, q_isShip hsh c]
  · unfold X0_isShip
    rw [L0, if_neg (flt (by omega) (by omega) (by omega)), if_pos (tle (by omega) (by omega) (by omega)), if_neg c]
set_option maxRecDepth 20000 in
set_option maxHeartbeats 400000 in
theorem go_o {u hd k f g l t i : Nat → Nat} {sh co d : Nat} {T : Nat → Nat} {n p : Nat} (hT : ∀ j, T j ≤ 255) (hn : n ≤ 96) (hp : p ≤ 96) (hS : OkS ((u, hd, k, f, g, l), sh, (t, i, co, d))) (hf : flt1 T n p < 0) (hc : aT T n p = 111) : GoT T n p ((u, hd, k, f, g, l), sh, (t, i, co, d)) := by
  have hE : OkE (u, hd, k, f, g, l) := sE hS
  have hhd : ∀ j, hd j ≤ 99 := hS.2.1
  have hsh : sh ≤ 7 := sSh hS
  have hX : OkX 999 (t, i, co, d) := sX hS
  have hO : OutI sh i := sO hS
  have ht := xT hX
  have hi := xI hX
  have hd1 := xD hX
  have dg := flt_dig hf
  rw [hc] at dg
  have p2 : iI (p : Int) + 2 = iI ((p + 2 : Nat) : Int) := by rw [L2, iI_add]; rfl
  have p3 : iI (p : Int) + 3 = iI ((p + 3 : Nat) : Int) := by rw [L3, iI_add]; rfl
  have p4 : iI (p : Int) + 4 = iI ((p + 4 : Nat) : Int) := by rw [L4, iI_add]; rfl
  obtain ⟨a1, e1⟩ := Int.eq_ofNat_of_zero_le (show 0 ≤ dT T n (p + 1) from dg 0 (by decide))
  have u1 := dT_b (T := T) (n := n) (p := p + 1)
  have gg := s_isShip (s := a1) hsh (by omega)
  have at0 : ∀ b, X0_isShip (iI sh) (iI (a1 : Int)) = some b → X3_isAsItMustBe (rn 96 T) (rn 6 t) (rn 6 hd) (iI n) (iI sh) (iI (mk i)) (iI d) (iI (p : Int)) = if b = 0 then some 0 else (X0_isIn (iI (mk i)) (iI (a1 : Int))).bind fun u_19 => if u_19 = 0 then some 0 else some 1 := by
    intro b hb
    unfold X3_isAsItMustBe
    rw [iI_s p, s_digit (p := p + 1) hT hn (by omega), Option.bind_some, s_at hn (by omega), Option.bind_some, hc, if_neg (show ¬ iI 111 = (100 : Int32) by decide), if_neg (show ¬ iI 111 = (104 : Int32) by decide), if_pos (show iI 111 = (111 : Int32) by decide), e1, hb, Option.bind_some]
  by_cases c1 : a1 < sh
  · rw [if_pos c1] at gg
    have at1 := at0 _ gg
    rw [if_neg c10, s_X0_isIn hi (by omega) (by omega), Option.bind_some, Int.toNat_natCast] at at1
    have bi := hi a1
    by_cases c2 : i a1 = 0
    · rw [if_pos (show iI (i a1 : Int) = (0 : Int32) by rw [c2]; decide)] at at1
      exact Or.inl at1
    · rw [if_neg (show ¬ iI (i a1 : Int) = (0 : Int32) from ne0 (by omega) (by omega))] at at1
      refine Or.inr ⟨at1, ((u, hd, k, f, g, l), sh, (t, upN i a1 0, co, d)), ⟨hE, hhd, hsh, ⟨ht, fun j => upN_le hi (by omega) j, hX.2.2⟩, fun j hj => ?_⟩, ?_⟩
      · have hj2 : sh ≤ j := hj
        show upN i a1 0 j = 0
        unfold upN
        rw [if_neg (by omega)]
        exact hO j hj
      · unfold X3_carryOut
        rw [iI_s p, s_digit (p := p + 1) hT hn (by omega), Option.bind_some, s_at hn (by omega), Option.bind_some, hc, if_neg (show ¬ iI 111 = (99 : Int32) by decide), if_neg (show ¬ iI 111 = (100 : Int32) by decide), if_neg (show ¬ iI 111 = (104 : Int32) by decide), if_pos (show iI 111 = (111 : Int32) by decide), e1, s_X0_sendOut hi (by omega) (by omega), Option.bind_some, Int.toNat_natCast]
  · rw [if_neg c1] at gg
    have at1 := at0 _ gg
    rw [if_pos (show (0 : Int32) = 0 from rfl)] at at1
    exact Or.inl at1
set_option maxRecDepth 20000 in
set_option maxHeartbeats 400000 in
theorem s_adds {k f g l i : Nat → Nat} {sh a1 a2 a3 a4 : Nat} (hi : ∀ j, i j ≤ 1) (hsh : sh < 7) : X0_addShip (rn 7 k) (rn 7 f) (rn 7 g) (rn 7 l) (iI sh) (iI (mk i)) (iI (a1 : Int)) (iI (a2 : Int)) (iI (a3 : Int)) (iI (a4 : Int)) = some (rn 7 (upN k sh a1), rn 7 (upN f sh a2), rn 7 (upN g sh a3), rn 7 (upN l sh a4), iI ((sh + 1 : Nat) : Int), iI (mk (upN i sh 0))) := by
  unfold X0_addShip
  rw [if_neg (by rw [L0]; exact flt (by omega) (by omega) (by omega)), if_neg (by rw [L7]; exact fle (by omega) (by omega) (by omega))]
  rw [wr_rn (f := k) (by omega) (by omega) (by omega) (by omega), Option.bind_some, wr_rn (f := f) (by omega) (by omega) (by omega) (by omega), Option.bind_some, wr_rn (f := g) (by omega) (by omega) (by omega) (by omega), Option.bind_some, wr_rn (f := l) (by omega) (by omega) (by omega) (by omega), Option.bind_some, s_X0_sendOut hi (by omega) (by omega), Option.bind_some, iI_s]
  simp only [Int.toNat_natCast]

set_option maxRecDepth 20000 in
set_option maxHeartbeats 400000 in
theorem go_s {u hd k f g l t i : Nat → Nat} {sh co d : Nat} {T : Nat → Nat} {n p : Nat} (hT : ∀ j, T j ≤ 255) (hn : n ≤ 96) (hp : p ≤ 96) (hS : OkS ((u, hd, k, f, g, l), sh, (t, i, co, d))) (hf : flt1 T n p < 0) (hc : aT T n p = 115) : GoT T n p ((u, hd, k, f, g, l), sh, (t, i, co, d)) := by
  have hE : OkE (u, hd, k, f, g, l) := sE hS
  have hhd : ∀ j, hd j ≤ 99 := hS.2.1
  have hsh : sh ≤ 7 := sSh hS
  have hX : OkX 999 (t, i, co, d) := sX hS
  have hO : OutI sh i := sO hS
  have ht := xT hX
  have hi := xI hX
  have hd1 := xD hX
  have dg := flt_dig hf
  rw [hc] at dg
  have p2 : iI (p : Int) + 2 = iI ((p + 2 : Nat) : Int) := by rw [L2, iI_add]; rfl
  have p3 : iI (p : Int) + 3 = iI ((p + 3 : Nat) : Int) := by rw [L3, iI_add]; rfl
  have p4 : iI (p : Int) + 4 = iI ((p + 4 : Nat) : Int) := by rw [L4, iI_add]; rfl
  obtain ⟨a1, e1⟩ := Int.eq_ofNat_of_zero_le (show 0 ≤ dT T n (p + 1) from dg 0 (by decide))
  have u1 := dT_b (T := T) (n := n) (p := p + 1)
  obtain ⟨a2, e2⟩ := Int.eq_ofNat_of_zero_le (show 0 ≤ dT T n (p + 2) from dg 1 (by decide))
  have u2 := dT_b (T := T) (n := n) (p := p + 2)
  obtain ⟨a3, e3⟩ := Int.eq_ofNat_of_zero_le (show 0 ≤ dT T n (p + 3) from dg 2 (by decide))
  have u3 := dT_b (T := T) (n := n) (p := p + 3)
  obtain ⟨a4, e4⟩ := Int.eq_ofNat_of_zero_le (show 0 ≤ dT T n (p + 4) from dg 3 (by decide))
  have u4 := dT_b (T := T) (n := n) (p := p + 4)
  obtain ⟨a5, e5⟩ := Int.eq_ofNat_of_zero_le (show 0 ≤ dT T n (p + 5) from dg 4 (by decide))
  have u5 := dT_b (T := T) (n := n) (p := p + 5)
  have ev : iI (10 * dT T n (p + 4) + dT T n (p + 5)) = iI ((10 * a4 + a5 : Nat) : Int) := iI_c (by omega)
  have gg := s_isGoodN (a := a3) (by omega)
  have cl : X3_isAsItMustBe (rn 96 T) (rn 6 t) (rn 6 hd) (iI n) (iI sh) (iI (mk i)) (iI d) (iI (p : Int)) = some (if a1 ≤ 5 ∧ a3 < 6 ∧ ¬ sh = 7 then 1 else 0) := by
    unfold X3_isAsItMustBe
    rw [iI_s p, s_digit (p := p + 1) hT hn (by omega), Option.bind_some, s_at hn (by omega), Option.bind_some, hc, if_neg (show ¬ iI 115 = (100 : Int32) by decide), if_neg (show ¬ iI 115 = (104 : Int32) by decide), if_neg (show ¬ iI 115 = (111 : Int32) by decide), if_pos (show iI 115 = (115 : Int32) by decide), e1, L6, L7, p3, s_digit hT hn (by omega), Option.bind_some, e3, gg, Option.bind_some]
    by_cases c1 : a1 ≤ 5
    · rw [if_neg (fle (by omega) (by omega) (by omega))]
      by_cases c2 : a3 < 6
      · rw [if_pos c2, if_neg c10]
        by_cases c3 : sh = 7
        · rw [if_pos (tle (by omega) (by omega) (by omega)), if_neg (fun z => z.2.2 c3)]
        · rw [if_neg (fle (by omega) (by omega) (by omega)), if_pos ⟨c1, c2, c3⟩]
      · rw [if_neg c2, if_pos (show (0 : Int32) = 0 from rfl), if_neg (fun z => c2 z.2.1)]
    · rw [if_pos (tle (by omega) (by omega) (by omega)), if_neg (fun z => c1 z.1)]
  by_cases c1 : a1 ≤ 5 ∧ a3 < 6 ∧ ¬ sh = 7
  · rw [if_pos c1] at cl
    have hs := s_adds (k := k) (f := f) (g := g) (l := l) (i := i) (sh := sh) (a1 := a1) (a2 := a2) (a3 := a3) (a4 := 10 * a4 + a5) hi (by omega)
    refine Or.inr ⟨cl, ((u, hd, upN k sh a1, upN f sh a2, upN g sh a3, upN l sh (10 * a4 + a5)), sh + 1, (t, upN i sh 0, co, d)), ⟨⟨oU hE, oH hE, fun j => upN_le (oK hE) c1.1 j, fun j => upN_le (oF hE) (by omega) j, fun j => upN_le (oG hE) (by omega) j, fun j => upN_le (oL hE) (by omega) j⟩, hhd, show sh + 1 ≤ 7 by omega, ⟨ht, fun j => upN_le hi (by omega) j, hX.2.2⟩, fun j hj => ?_⟩, ?_⟩
    · have hj2 : sh + 1 ≤ j := hj
      show upN i sh 0 j = 0
      unfold upN
      rw [if_neg (by omega)]
      exact hO j (by omega)
    · unfold X3_carryOut
      rw [iI_s p, s_digit (p := p + 1) hT hn (by omega), Option.bind_some, s_at hn (by omega), Option.bind_some, hc, if_neg (show ¬ iI 115 = (99 : Int32) by decide), if_neg (show ¬ iI 115 = (100 : Int32) by decide), if_neg (show ¬ iI 115 = (104 : Int32) by decide), if_neg (show ¬ iI 115 = (111 : Int32) by decide), if_pos (show iI 115 = (115 : Int32) by decide), p2, s_digit (p := p + 2) hT hn (by omega), Option.bind_some, p3, s_digit (p := p + 3) hT hn (by omega), Option.bind_some, p4, s_two hT hn (by omega), Option.bind_some, ev, e1, e2, e3, hs, Option.bind_some]
  · rw [if_neg c1] at cl
    exact Or.inl cl
set_option maxRecDepth 20000 in
set_option maxHeartbeats 400000 in
theorem go_all {u hd k f g l t i : Nat → Nat} {sh co d : Nat} {T : Nat → Nat} {n p : Nat} (hT : ∀ j, T j ≤ 255) (hn : n ≤ 96) (hp : p ≤ 96) (hS : OkS ((u, hd, k, f, g, l), sh, (t, i, co, d))) (hf : flt1 T n p < 0) : GoT T n p ((u, hd, k, f, g, l), sh, (t, i, co, d)) := by
  rcases szI_cases (flt_ok hf).1 with c | c | c | c | c | c | c
  · exact go_c hT hn hp hS hf c
  · exact go_d hT hn hp hS hf c
  · exact go_h hT hn hp hS hf c
  · exact go_o hT hn hp hS hf c
  · exact go_s hT hn hp hS hf c
  · exact go_t hT hn hp hS hf c
  · exact go_u hT hn hp hS hf c
set_option maxRecDepth 20000 in
set_option maxHeartbeats 400000 in
theorem l_tell {T : Nat → Nat} {n N : Nat} (hT : ∀ j, T j ≤ 255) (hn : n ≤ 96) (hN : N ≤ 33) (hpN : n ≤ pl T n N) (hf : ∀ j, j < N → flt1 T n (pl T n j) < 0) : ∀ (r k0 m : Nat) (x y : Int32) (S : SS), x = iI (pl T n k0 : Int) → y = iI (k0 : Int) → k0 + r = N → r < m → OkS S →
    (∃ (Mz : Hs) (v : Int), v < 0 ∧ -9000 ≤ v ∧ X3_tell_L20 (fun (y4_13 : Int32) (q1 q2 q3 q4 q5 q6 q7 : List Int32) (q8 q9 q10 q11 : Int32) => some (q1, q2, q3, q4, q5, q6, q7, q8, q9, q10, q11, y4_13)) (rn 96 T) (iI n) m x y (rn 6 S.2.2.1) (rn 6 S.1.1) (rn 6 S.1.2.1) (rn 7 S.1.2.2.1) (rn 7 S.1.2.2.2.1) (rn 7 S.1.2.2.2.2.1) (rn 7 S.1.2.2.2.2.2) (iI S.2.1) (iI (mk S.2.2.2.1)) (iI S.2.2.2.2.1) (iI S.2.2.2.2.2) = some (Mz.1, Mz.2.1, Mz.2.2.1, Mz.2.2.2.1, Mz.2.2.2.2.1, Mz.2.2.2.2.2.1, Mz.2.2.2.2.2.2.1, Mz.2.2.2.2.2.2.2.1, Mz.2.2.2.2.2.2.2.2.1, Mz.2.2.2.2.2.2.2.2.2.1, Mz.2.2.2.2.2.2.2.2.2.2, iI v) ∧ MJ Mz) ∨
    (∃ Z : SS, OkS Z ∧ X3_tell_L20 (fun (y4_13 : Int32) (q1 q2 q3 q4 q5 q6 q7 : List Int32) (q8 q9 q10 q11 : Int32) => some (q1, q2, q3, q4, q5, q6, q7, q8, q9, q10, q11, y4_13)) (rn 96 T) (iI n) m x y (rn 6 S.2.2.1) (rn 6 S.1.1) (rn 6 S.1.2.1) (rn 7 S.1.2.2.1) (rn 7 S.1.2.2.2.1) (rn 7 S.1.2.2.2.2.1) (rn 7 S.1.2.2.2.2.2) (iI S.2.1) (iI (mk S.2.2.2.1)) (iI S.2.2.2.2.1) (iI S.2.2.2.2.2) = some (rn 6 Z.2.2.1, rn 6 Z.1.1, rn 6 Z.1.2.1, rn 7 Z.1.2.2.1, rn 7 Z.1.2.2.2.1, rn 7 Z.1.2.2.2.2.1, rn 7 Z.1.2.2.2.2.2, iI Z.2.1, iI (mk Z.2.2.2.1), iI Z.2.2.2.2.1, iI Z.2.2.2.2.2, iI (N : Int))) := by
  intro r
  induction r with
  | zero =>
    intro k0 m x y S hx hy hs hm hS
    obtain ⟨m, rfl⟩ : ∃ j, m = j + 1 := ⟨m - 1, by omega⟩
    subst hx; subst hy
    obtain rfl : k0 = N := by omega
    refine Or.inr ⟨S, hS, ?_⟩
    rw [X3_tell_L20, if_neg (show ¬ (96 : Int32) ≤ iI (k0 : Int) by rw [L96]; exact fle (by omega) (by omega) (by omega)), X1_length, Option.bind_some]
    by_cases z : pl T n k0 < 100000
    · rw [if_pos (tle (by omega) (by omega) (by omega))]
    · exfalso
      cases k0 with
      | zero => exact z (show pl T n 0 < 100000 from by show 0 < 100000; omega)
      | succ j =>
        have g := flt_ok (hf j (by omega))
        have e : pl T n (j + 1) = pl T n j + szI (aT T n (pl T n j)) := rfl
        omega
  | succ r ih =>
    intro k0 m x y S hx hy hs hm hS
    obtain ⟨m, rfl⟩ : ∃ j, m = j + 1 := ⟨m - 1, by omega⟩
    subst hx; subst hy
    have f0 := hf k0 (by omega)
    have g := flt_ok f0
    have b := aT_b (n := n) (p := pl T n k0) hT
    obtain ⟨⟨u, hd, k, f, g1, l⟩, sh, t, i, co, d⟩ := S
    have key := go_all hT hn (show pl T n k0 ≤ 96 by omega) hS f0
    have e : pl T n (k0 + 1) = pl T n k0 + szI (aT T n (pl T n k0)) := rfl
    rw [X3_tell_L20, if_neg (show ¬ (96 : Int32) ≤ iI (k0 : Int) by rw [L96]; exact fle (by omega) (by omega) (by omega)), X1_length, Option.bind_some, if_neg (show ¬ iI (n : Int) ≤ iI (pl T n k0 : Int) from fle (by omega) (by omega) (by omega))]
    rcases key with c1 | ⟨c1, Z, hZ, c2⟩
    · rw [c1, Option.bind_some, if_pos (show (0 : Int32) = 0 from rfl), n2000, iI_sub]
      exact Or.inl ⟨(rn 6 t, rn 6 u, rn 6 hd, rn 7 k, rn 7 f, rn 7 g1, rn 7 l, iI (sh : Int), iI (mk i : Int), iI (co : Int), iI (d : Int)), -2000 - (pl T n k0 : Int), by omega, by omega, rfl, ⟨rn_len, rn_len, rn_len, rn_len, rn_len, rn_len, rn_len⟩⟩
    · rw [c1, Option.bind_some, if_neg c10, c2, Option.bind_some, s_at hn (by omega), Option.bind_some, s_sizeOf b.1 b.2, Option.bind_some, iI_add, show iI ((pl T n k0 : Int) + (szI (aT T n (pl T n k0)) : Int)) = iI (pl T n (k0 + 1) : Int) from iI_c (by omega), iI_s k0]
      exact ih (k0 + 1) m _ _ Z rfl rfl (by omega) (by omega) hZ
set_option maxRecDepth 20000 in
set_option maxHeartbeats 400000 in
theorem q_harbour {A1 A2 A3 A4 A5 A6 A7 : List Int32} {a1 a2 a3 a4 : Int32} {u hd k f g l t i : Nat → Nat} {sh co d : Nat} {T : Nat → Nat} {n b : Nat} {perm : Nat → Nat} {hist : Nat → Hs} (hM : MJ (A1, A2, A3, A4, A5, A6, A7, a1, a2, a3, a4)) (hS : OkS ((u, hd, k, f, g, l), sh, (t, i, co, d))) (hH : HJ b perm hist) (hT : ∀ j, T j ≤ 255) (hn : n ≤ 96) :
    ∃ (Mz : Hs) (Z : SS) (b1 : Nat) (r : Int32), X4_harbour (rn 96 T) A1 A2 A3 A4 A5 A6 A7 (rn 6 t) (rn 6 u) (rn 6 hd) (rn 7 k) (rn 7 f) (rn 7 g) (rn 7 l) (iI n) a1 a2 a3 a4 (iI sh) (iI (mk i)) (iI co) (iI d) (iI (b : Int)) = some (Mz.1, Mz.2.1, Mz.2.2.1, Mz.2.2.2.1, Mz.2.2.2.2.1, Mz.2.2.2.2.2.1, Mz.2.2.2.2.2.2.1, rn 6 Z.2.2.1, rn 6 Z.1.1, rn 6 Z.1.2.1, rn 7 Z.1.2.2.1, rn 7 Z.1.2.2.2.1, rn 7 Z.1.2.2.2.2.1, rn 7 Z.1.2.2.2.2.2, 0, Mz.2.2.2.2.2.2.2.1, Mz.2.2.2.2.2.2.2.2.1, Mz.2.2.2.2.2.2.2.2.2.1, Mz.2.2.2.2.2.2.2.2.2.2, iI Z.2.1, iI (mk Z.2.2.2.1), iI Z.2.2.2.2.1, iI Z.2.2.2.2.2, iI (b1 : Int), r) ∧ MJ Mz ∧ OkS Z ∧ HJ b1 perm hist := by
  have hN : MJ (rn 6 t, rn 6 u, rn 6 hd, rn 7 k, rn 7 f, rn 7 g, rn 7 l, iI sh, iI (mk i), iI co, iI d) := ⟨rn_len, rn_len, rn_len, rn_len, rn_len, rn_len, rn_len⟩
  have rb := rnT_b (T := T) hn 33 0 (by omega) (by show 3 * 0 ≤ 0; omega) (by show 0 ≤ n; omega)
  have cl := l_faultyL hT hn (fun _ => some (-1 : Int32)) 33 0 1000 0 0 (show (0 : Int32) = iI (pl T n 0 : Int) from z00.symm) z00.symm (by omega) (by show 3 * 0 ≤ 0; omega) (by show 0 ≤ n; omega) (by omega)
  unfold X4_harbour X3_tell X3_faultyLetter
  rw [s_X4_fromNow hM, Option.bind_some, cl]
  have rs := rnT_spec (T := T) hn 33 0 (by omega) (by show 3 * 0 ≤ 0; omega) (by show 0 ≤ n; omega)
  generalize (rnT T n 33 0).1 = v at *
  generalize (rnT T n 33 0).2 = N at *
  by_cases c : v < 0
  · obtain ⟨s1, s2, s3, s4, s5⟩ := rs c
    have lt := l_tell (T := T) (n := n) (N := N) hT hn s2 s4 (fun j hj => s5 j (by omega) hj) N 0 1000 0 0 ((u, hd, k, f, g, l), sh, (t, i, co, d)) (show (0 : Int32) = iI (pl T n 0 : Int) from z00.symm) z00.symm (by omega) (by omega) hS
    rw [if_pos c, Option.bind_some, if_pos (show (-1 : Int32) < 0 by decide)]
    rcases lt with ⟨Mz, v1, a1, a2, a3, a4⟩ | ⟨Z, a1, a2⟩
    · rw [show X3_tell_L20 _ (rn 96 T) (iI n) 1000 0 0 (rn 6 t) (rn 6 u) (rn 6 hd) (rn 7 k) (rn 7 f) (rn 7 g) (rn 7 l) (iI sh) (iI (mk i)) (iI co) (iI d) = _ from a3, Option.bind_some, X1_drop, Option.bind_some, if_pos (show iI v1 < (0 : Int32) by rw [L0]; exact tlt a1 (by omega) (by omega))]
      exact ⟨Mz, ((u, hd, k, f, g, l), sh, (t, i, co, d)), b, _, rfl, a4, hS, hH⟩
    · have hz : MJ (rn 6 Z.2.2.1, rn 6 Z.1.1, rn 6 Z.1.2.1, rn 7 Z.1.2.2.1, rn 7 Z.1.2.2.2.1, rn 7 Z.1.2.2.2.2.1, rn 7 Z.1.2.2.2.2.2, iI Z.2.1, iI (mk Z.2.2.2.1), iI Z.2.2.2.2.1, iI Z.2.2.2.2.2) := ⟨rn_len, rn_len, rn_len, rn_len, rn_len, rn_len, rn_len⟩
      rw [show X3_tell_L20 _ (rn 96 T) (iI n) 1000 0 0 (rn 6 t) (rn 6 u) (rn 6 hd) (rn 7 k) (rn 7 f) (rn 7 g) (rn 7 l) (iI sh) (iI (mk i)) (iI co) (iI d) = _ from a2, Option.bind_some, X1_drop, Option.bind_some, if_neg (show ¬ iI (N : Int) < (0 : Int32) from m9 (by omega) (by omega)), s_copy hN hz, Option.bind_some, X2_drop, Option.bind_some, ← z00]
      exact ⟨(rn 6 Z.2.2.1, rn 6 Z.1.1, rn 6 Z.1.2.1, rn 7 Z.1.2.2.1, rn 7 Z.1.2.2.2.1, rn 7 Z.1.2.2.2.2.1, rn 7 Z.1.2.2.2.2.2, iI Z.2.1, iI (mk Z.2.2.2.1), iI Z.2.2.2.2.1, iI Z.2.2.2.2.2), Z, 0, _, rfl, hz, a1, hH.zero⟩
  · rw [if_neg c, Option.bind_some, if_neg (m9 (by omega) (by omega)), Option.bind_some, X1_drop, Option.bind_some, n1000, iI_sub, if_pos (show iI (-1000 - v) < (0 : Int32) by rw [L0]; exact tlt (by omega) (by omega) (by omega))]
    exact ⟨(rn 6 t, rn 6 u, rn 6 hd, rn 7 k, rn 7 f, rn 7 g, rn 7 l, iI sh, iI (mk i), iI co, iI d), ((u, hd, k, f, g, l), sh, (t, i, co, d)), b, _, rfl, hN, hS, hH⟩
