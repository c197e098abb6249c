/-! what is told comes -/
set_option maxRecDepth 20000 in
set_option maxHeartbeats 400000 in
theorem fd_all {T : Nat → Nat} {n : Nat} : ∀ r p : Nat, fd T n r p < 0 → ∀ j, j < r → 0 ≤ dT T n (p + j) := by
  intro r
  induction r with
  | zero => intro p _ j hj; omega
  | succ r ih =>
    intro p h j hj
    unfold fd at h
    by_cases c : 0 ≤ dT T n p
    · rw [if_pos c] at h
      cases j with
      | zero => exact c
      | succ j =>
        have := ih (p + 1) h j (by omega)
        rw [show p + (j + 1) = p + 1 + j by omega]
        exact this
    · rw [if_neg c] at h
      omega
set_option maxRecDepth 20000 in
set_option maxHeartbeats 400000 in
theorem flt_dig {T : Nat → Nat} {n p : Nat} (h : flt1 T n p < 0) : ∀ j, j < szI (aT T n p) - 2 → 0 ≤ dT T n (p + 1 + j) := by
  have g := flt_ok h
  unfold flt1 at h
  rw [if_neg (by omega)] at h
  by_cases c2 : fd T n (szI (aT T n p) - 2) (p + 1) < 0
  · exact fd_all _ _ c2
  · rw [if_neg c2] at h
    exact absurd h c2
set_option maxRecDepth 20000 in
set_option maxHeartbeats 400000 in
theorem s_two {T : Nat → Nat} {n p : Nat} (hT : ∀ j, T j ≤ 255) (hn : n ≤ 96) (hp : p ≤ 200) : X3_twoDigits (rn 96 T) (iI n) (iI (p : Int)) = some (iI (10 * dT T n p + dT T n (p + 1))) := by
  unfold X3_twoDigits
  rw [s_digit hT hn (by omega), Option.bind_some, iI_s p, s_digit hT hn (by omega), Option.bind_some, L10, iI_mul, iI_add]
set_option maxRecDepth 20000 in
set_option maxHeartbeats 400000 in
theorem c01_0 : c01 0 = some 0 := by decide
set_option maxRecDepth 20000 in
set_option maxHeartbeats 400000 in
theorem c01_1 : c01 1 = some 1 := by decide
/-- the class and the reference go on to one harbour, or both find that it is not as it must be -/
def GoesT (T : Nat → Nat) (n p : Nat) (S : SS) (o : Option (List Int32 × List Int32 × List Int32 × List Int32 × List Int32 × List Int32 × List Int32 × List Int32 × Int32 × Int32 × Int32 × Int32)) : Prop :=
  (X3_isAsItMustBe (rn 96 T) (rn 6 S.2.2.1) (rn 6 S.1.2.1) (iI n) (iI S.2.1) (iI (mk S.2.2.2.1)) (iI S.2.2.2.2.2) (iI (p : Int)) = some 0 ∧ o = some (rn 6 S.2.2.1, rn 6 S.1.1, rn 6 S.1.2.1, rn 7 S.1.2.2.1, rn 7 S.1.2.2.2.1, rn 7 S.1.2.2.2.2.1, rn 7 S.1.2.2.2.2.2, rn 7 S.2.2.2.1, iI S.2.1, iI S.2.2.2.2.1, iI S.2.2.2.2.2, 0)) ∨
  (X3_isAsItMustBe (rn 96 T) (rn 6 S.2.2.1) (rn 6 S.1.2.1) (iI n) (iI S.2.1) (iI (mk S.2.2.2.1)) (iI S.2.2.2.2.2) (iI (p : Int)) = some 1 ∧ ∃ Z : SS, OkS Z ∧ X3_carryOut (rn 96 T) (rn 6 S.2.2.1) (rn 6 S.1.1) (rn 6 S.1.2.1) (rn 7 S.1.2.2.1) (rn 7 S.1.2.2.2.1) (rn 7 S.1.2.2.2.2.1) (rn 7 S.1.2.2.2.2.2) (iI n) (iI S.2.1) (iI (mk S.2.2.2.1)) (iI S.2.2.2.2.1) (iI S.2.2.2.2.2) (iI (p : Int)) = some (rn 6 Z.2.2.1, rn 6 Z.1.1, rn 6 Z.1.2.1, rn 7 Z.1.2.2.1, rn 7 Z.1.2.2.2.1, rn 7 Z.1.2.2.2.2.1, rn 7 Z.1.2.2.2.2.2, iI Z.2.1, iI (mk Z.2.2.2.1), iI Z.2.2.2.2.1, iI Z.2.2.2.2.2) ∧ o = some (rn 6 Z.2.2.1, rn 6 Z.1.1, rn 6 Z.1.2.1, rn 7 Z.1.2.2.1, rn 7 Z.1.2.2.2.1, rn 7 Z.1.2.2.2.2.1, rn 7 Z.1.2.2.2.2.2, rn 7 Z.2.2.2.1, iI Z.2.1, iI Z.2.2.2.2.1, iI Z.2.2.2.2.2, 1))
set_option maxRecDepth 20000 in
set_option maxHeartbeats 400000 in
theorem s_isGoodN {a : Nat} (ha : a ≤ 99) : X4_isGood (iI (a : Int)) = some (if a < 6 then 1 else 0) ∧ X5_isGood (iI (a : Int)) = some (if a < 6 then 1 else 0) := by
  unfold X4_isGood X5_isGood
  rw [L0, L6, if_neg (flt (by omega) (by omega) (by omega))]
  by_cases h : a < 6
  · rw [if_neg (fle (by omega) (by omega) (by omega)), if_pos h]
    exact ⟨rfl, rfl⟩
  · rw [if_pos (tle (by omega) (by omega) (by omega)), if_neg h]
    exact ⟨rfl, rfl⟩
set_option maxRecDepth 20000 in
set_option maxHeartbeats 400000 in
theorem gT0 {T : Nat → Nat} {n p : Nat} {S : SS} {o : Option (List Int32 × List Int32 × List Int32 × List Int32 × List Int32 × List Int32 × List Int32 × List Int32 × Int32 × Int32 × Int32 × Int32)} (h1 : X3_isAsItMustBe (rn 96 T) (rn 6 S.2.2.1) (rn 6 S.1.2.1) (iI n) (iI S.2.1) (iI (mk S.2.2.2.1)) (iI S.2.2.2.2.2) (iI (p : Int)) = some 0) (h2 : o = some (rn 6 S.2.2.1, rn 6 S.1.1, rn 6 S.1.2.1, rn 7 S.1.2.2.1, rn 7 S.1.2.2.2.1, rn 7 S.1.2.2.2.2.1, rn 7 S.1.2.2.2.2.2, rn 7 S.2.2.2.1, iI S.2.1, iI S.2.2.2.2.1, iI S.2.2.2.2.2, 0)) : GoesT T n p S o := Or.inl ⟨h1, h2⟩
set_option maxRecDepth 20000 in
set_option maxHeartbeats 400000 in
theorem goes_c {u hd k f g l t i : Nat → Nat} {sh co d : Nat} {T : Nat → Nat} {n p k0 : Nat} {L A W : Nat → Int32} (hT : ∀ j, T j ≤ 255) (hn : n ≤ 96) (hp : p ≤ 96) (hS : OkS ((u, hd, k, f, g, l), sh, (t, i, co, d))) (hk : k0 ≤ 40) (hf : flt1 T n p < 0) (hc : aT T n p = 99) (h1 : L k0 = iI (aT T n p)) (h2 : TV T n W (4 * k0) (p + 1) (aT T n p)) :
    GoesT T n p ((u, hd, k, f, g, l), sh, (t, i, co, d)) (X5_comesTold (rn 6 t) (rn 6 u) (rn 6 hd) (rn 7 k) (rn 7 f) (rn 7 g) (rn 7 l) (rn 7 i) (rq 48 L) (rq 192 W) (iI sh) (iI co) (iI d) 0 (iI (fI 6)) (iI (k0 : Int))) := by
  have hE : OkE (u, hd, k, f, g, l) := sE hS
  have hhd : ∀ j, hd j ≤ 99 := hS.2.1
  have hsh : sh ≤ 7 := sSh hS
  have hX : OkX 999 (t, i, co, d) := sX hS
  have hO : OutI sh i := sO hS
  have ht := xT hX
  have hi := xI hX
  have hd1 := xD hX
  have dg := flt_dig hf
  rw [hc] at h1 h2 dg
  have p2 : iI (p : Int) + 2 = iI ((p + 2 : Nat) : Int) := by rw [L2, iI_add]; rfl
  have p3 : iI (p : Int) + 3 = iI ((p + 3 : Nat) : Int) := by rw [L3, iI_add]; rfl
  have p4 : iI (p : Int) + 4 = iI ((p + 4 : Nat) : Int) := by rw [L4, iI_add]; rfl
  have k4 : (4 : Int32) * iI (k0 : Int) = iI ((4 * k0 : Nat) : Int) := by rw [L4, iI_mul]; rfl
  obtain ⟨a1, e1⟩ := Int.eq_ofNat_of_zero_le (show 0 ≤ dT T n (p + 1) from dg 0 (by decide))
  have u1 := dT_b (T := T) (n := n) (p := p + 1)
  obtain ⟨a2, e2⟩ := Int.eq_ofNat_of_zero_le (show 0 ≤ dT T n (p + 2) from dg 1 (by decide))
  have u2 := dT_b (T := T) (n := n) (p := p + 2)
  have v0 : W (4 * k0) = iI (10 * dT T n (p + 1) + dT T n (p + 2)) := h2.2.2.2.2 (Or.inl rfl)
  have ev : iI (10 * dT T n (p + 1) + dT T n (p + 2)) = iI ((10 * a1 + a2 : Nat) : Int) := iI_c (by omega)
  refine Or.inr ⟨?_, ((u, hd, k, f, g, l), sh, (t, i, 10 * a1 + a2, d)), ⟨hE, hhd, hsh, ⟨ht, hi, show 10 * a1 + a2 ≤ 99 by omega, hd1⟩, hO⟩, ?_, ?_⟩
  · unfold X3_isAsItMustBe
    rw [iI_s p, s_digit hT hn (by omega), Option.bind_some, s_at hn (by omega), Option.bind_some, hc]
    rfl
  · unfold X3_carryOut
    rw [iI_s p, s_digit hT hn (by omega), Option.bind_some, s_at hn (by omega), Option.bind_some, hc, if_pos (show iI 99 = (99 : Int32) by decide), s_two hT hn (by omega), Option.bind_some, ev]
  · unfold X5_comesTold
    rw [rd_rq (by omega) (by omega) (by omega), Option.bind_some, Int.toNat_natCast, h1, if_pos (show iI 99 = (99 : Int32) by decide), k4, rd_rq (by omega) (by omega) (by omega), Option.bind_some, Int.toNat_natCast, v0, ev]
set_option maxRecDepth 20000 in
set_option maxHeartbeats 400000 in
theorem goes_d {u hd k f g l t i : Nat → Nat} {sh co d : Nat} {T : Nat → Nat} {n p k0 : Nat} {L A W : Nat → Int32} (hT : ∀ j, T j ≤ 255) (hn : n ≤ 96) (hp : p ≤ 96) (hS : OkS ((u, hd, k, f, g, l), sh, (t, i, co, d))) (hk : k0 ≤ 40) (hf : flt1 T n p < 0) (hc : aT T n p = 100) (h1 : L k0 = iI (aT T n p)) (h2 : TV T n W (4 * k0) (p + 1) (aT T n p)) :
    GoesT T n p ((u, hd, k, f, g, l), sh, (t, i, co, d)) (X5_comesTold (rn 6 t) (rn 6 u) (rn 6 hd) (rn 7 k) (rn 7 f) (rn 7 g) (rn 7 l) (rn 7 i) (rq 48 L) (rq 192 W) (iI sh) (iI co) (iI d) 0 (iI (fI 6)) (iI (k0 : Int))) := by
  have hE : OkE (u, hd, k, f, g, l) := sE hS
  have hhd : ∀ j, hd j ≤ 99 := hS.2.1
  have hsh : sh ≤ 7 := sSh hS
  have hX : OkX 999 (t, i, co, d) := sX hS
  have hO : OutI sh i := sO hS
  have ht := xT hX
  have hi := xI hX
  have hd1 := xD hX
  have dg := flt_dig hf
  rw [hc] at h1 h2 dg
  have p2 : iI (p : Int) + 2 = iI ((p + 2 : Nat) : Int) := by rw [L2, iI_add]; rfl
  have p3 : iI (p : Int) + 3 = iI ((p + 3 : Nat) : Int) := by rw [L3, iI_add]; rfl
  have p4 : iI (p : Int) + 4 = iI ((p + 4 : Nat) : Int) := by rw [L4, iI_add]; rfl
  have k4 : (4 : Int32) * iI (k0 : Int) = iI ((4 * k0 : Nat) : Int) := by rw [L4, iI_mul]; rfl
  obtain ⟨a1, e1⟩ := Int.eq_ofNat_of_zero_le (show 0 ≤ dT T n (p + 1) from dg 0 (by decide))
  have u1 := dT_b (T := T) (n := n) (p := p + 1)
  obtain ⟨a2, e2⟩ := Int.eq_ofNat_of_zero_le (show 0 ≤ dT T n (p + 2) from dg 1 (by decide))
  have u2 := dT_b (T := T) (n := n) (p := p + 2)
  have v0 : W (4 * k0) = iI (10 * dT T n (p + 1) + dT T n (p + 2)) := h2.2.2.2.2 (Or.inr rfl)
  have ev : iI (10 * dT T n (p + 1) + dT T n (p + 2)) = iI ((10 * a1 + a2 : Nat) : Int) := iI_c (by omega)
  have cl : X3_isAsItMustBe (rn 96 T) (rn 6 t) (rn 6 hd) (iI n) (iI sh) (iI (mk i)) (iI d) (iI (p : Int)) = some (if 1 ≤ 10 * a1 + a2 ∧ 10 * a1 + a2 ≤ 60 ∧ d + (10 * a1 + a2) ≤ 999 then 1 else 0) := by
    unfold X3_isAsItMustBe
    rw [iI_s p, s_digit hT hn (by omega), Option.bind_some, s_at hn (by omega), Option.bind_some, hc, if_pos (show iI 100 = (100 : Int32) by decide), s_two hT hn (by omega), Option.bind_some, ev, L999, iI_sub, L60, mmin_iI (by omega) (by omega) (by omega) (by omega)]
    unfold X4_misfit
    rw [L1]
    by_cases c1 : 1 ≤ 10 * a1 + a2
    · rw [if_pos (tle (by omega) (by omega) (by omega))]
      by_cases c2 : 10 * a1 + a2 ≤ 60 ∧ d + (10 * a1 + a2) ≤ 999
      · rw [if_pos (tle (by omega) (by omega) (by omega)), Option.bind_some, if_pos rfl, if_pos ⟨c1, c2⟩]
      · rw [if_neg (fle (by omega) (by omega) (by omega)), Option.bind_some, if_neg (by decide), if_neg (fun z => c2 z.2)]
    · rw [if_neg (fle (by omega) (by omega) (by omega)), Option.bind_some, if_neg (by decide), if_neg (fun z => c1 z.1)]
  have rf : X5_comesTold (rn 6 t) (rn 6 u) (rn 6 hd) (rn 7 k) (rn 7 f) (rn 7 g) (rn 7 l) (rn 7 i) (rq 48 L) (rq 192 W) (iI sh) (iI co) (iI d) 0 (iI (fI 6)) (iI (k0 : Int)) = (X5_comesDays (rn 6 t) (rn 6 u) (rn 6 hd) (rn 7 k) (rn 7 f) (rn 7 g) (rn 7 l) (rn 7 i) (iI sh) (iI co) (iI d) 0 (iI (fI 6)) (iI ((10 * a1 + a2 : Nat) : Int))).bind fun u_8 => (c01 u_8.2.2.2.2).bind fun b_10 => some (u_8.1, rn 6 u, rn 6 hd, rn 7 k, rn 7 f, rn 7 g, rn 7 l, u_8.2.1, iI sh, u_8.2.2.1, u_8.2.2.2.1, b_10) := by
    unfold X5_comesTold
    rw [rd_rq (by omega) (by omega) (by omega), Option.bind_some, Int.toNat_natCast, h1, if_neg (show ¬ iI 100 = (99 : Int32) by decide), if_pos (show iI 100 = (100 : Int32) by decide), k4, rd_rq (by omega) (by omega) (by omega), Option.bind_some, Int.toNat_natCast, v0, ev]
  rw [rf]
  unfold X5_comesDays
  have hI : X5_isIn (iI ((10 * a1 + a2 : Nat) : Int)) 1 60 = some (if (1 : Int) ≤ ((10 * a1 + a2 : Nat) : Int) ∧ ((10 * a1 + a2 : Nat) : Int) ≤ 60 then 1 else 0) := s_isIn (a := ((10 * a1 + a2 : Nat) : Int)) (lo := 1) (hi := 60) (by omega) (by omega) (by omega) (by omega) (by omega) (by omega)
  rw [hI, Option.bind_some, iI_add, L999]
  by_cases c1 : 1 ≤ 10 * a1 + a2 ∧ 10 * a1 + a2 ≤ 60
  · rw [if_pos (show (1 : Int) ≤ ((10 * a1 + a2 : Nat) : Int) ∧ ((10 * a1 + a2 : Nat) : Int) ≤ 60 by omega), if_neg c10]
    by_cases c2 : d + (10 * a1 + a2) ≤ 999
    · rw [if_pos ⟨c1.1, c1.2, c2⟩] at cl
      have hz := daysX_ok (e := (u, hd, k, f, g, l)) (sh := sh) (b := 0) (fr := 6) (10 * a1 + a2) d (t, i, co, d) ⟨hX.1, hX.2.1, hX.2.2.1, Nat.le_refl _⟩
      have hw := daysX_out (e := (u, hd, k, f, g, l)) (sh := sh) (b := 0) (fr := 6) (10 * a1 + a2) (t, i, co, d) hO
      have g1 := s_X5_goes (N := 10 * a1 + a2) (b := 0) (fr := 6) (by omega) hE hsh (by omega) (by omega) (hX.mono (by omega))
      rw [z00] at g1
      have w0 := s_X0_passDays (N := 10 * a1 + a2) hE hsh (by omega) (hX.mono (by omega))
      generalize daysX (u, hd, k, f, g, l) sh 0 6 (10 * a1 + a2) (t, i, co, d) = D at hz hw g1 w0
      obtain ⟨t1, i1, co1, d1⟩ := D
      rw [if_pos (show iI ((d : Int) + ((10 * a1 + a2 : Nat) : Int)) ≤ iI 999 from tle (by omega) (by omega) (by omega)), g1, Option.bind_some, Option.bind_some, c01_1, Option.bind_some]
      refine Or.inr ⟨cl, ((u, hd, k, f, g, l), sh, (t1, i1, co1, d1)), ⟨hE, hhd, hsh, hz.mono (by omega), hw⟩, ?_, rfl⟩
      unfold X3_carryOut
      rw [iI_s p, s_digit hT hn (by omega), Option.bind_some, s_at hn (by omega), Option.bind_some, hc, if_neg (show ¬ iI 100 = (99 : Int32) by decide), if_pos (show iI 100 = (100 : Int32) by decide), s_two hT hn (by omega), Option.bind_some, ev, w0, Option.bind_some]
    · rw [if_neg (fun z => c2 z.2.2)] at cl
      rw [if_neg (show ¬ iI ((d : Int) + ((10 * a1 + a2 : Nat) : Int)) ≤ iI 999 from fle (by omega) (by omega) (by omega)), Option.bind_some, c01_0, Option.bind_some]
      exact Or.inl ⟨cl, rfl⟩
  · rw [if_neg (fun z => c1 ⟨z.1, z.2.1⟩)] at cl
    rw [if_neg (show ¬ ((1 : Int) ≤ ((10 * a1 + a2 : Nat) : Int) ∧ ((10 * a1 + a2 : Nat) : Int) ≤ 60) by omega), if_pos (show (0 : Int32) = 0 from rfl), Option.bind_some, c01_0, Option.bind_some]
    exact Or.inl ⟨cl, rfl⟩
set_option maxRecDepth 20000 in
set_option maxHeartbeats 400000 in
theorem goes_t {u hd k f g l t i : Nat → Nat} {sh co d : Nat} {T : Nat → Nat} {n p k0 : Nat} {L A W : Nat → Int32} (hT : ∀ j, T j ≤ 255) (hn : n ≤ 96) (hp : p ≤ 96) (hS : OkS ((u, hd, k, f, g, l), sh, (t, i, co, d))) (hk : k0 ≤ 40) (hf : flt1 T n p < 0) (hc : aT T n p = 116) (h1 : L k0 = iI (aT T n p)) (h2 : TV T n W (4 * k0) (p + 1) (aT T n p)) :
    GoesT T n p ((u, hd, k, f, g, l), sh, (t, i, co, d)) (X5_comesTold (rn 6 t) (rn 6 u) (rn 6 hd) (rn 7 k) (rn 7 f) (rn 7 g) (rn 7 l) (rn 7 i) (rq 48 L) (rq 192 W) (iI sh) (iI co) (iI d) 0 (iI (fI 6)) (iI (k0 : Int))) := by
  have hE : OkE (u, hd, k, f, g, l) := sE hS
  have hhd : ∀ j, hd j ≤ 99 := hS.2.1
  have hsh : sh ≤ 7 := sSh hS
  have hX : OkX 999 (t, i, co, d) := sX hS
  have hO : OutI sh i := sO hS
  have ht := xT hX
  have hi := xI hX
  have hd1 := xD hX
  have dg := flt_dig hf
  rw [hc] at h1 h2 dg
  have p2 : iI (p : Int) + 2 = iI ((p + 2 : Nat) : Int) := by rw [L2, iI_add]; rfl
  have p3 : iI (p : Int) + 3 = iI ((p + 3 : Nat) : Int) := by rw [L3, iI_add]; rfl
  have p4 : iI (p : Int) + 4 = iI ((p + 4 : Nat) : Int) := by rw [L4, iI_add]; rfl
  have k4 : (4 : Int32) * iI (k0 : Int) = iI ((4 * k0 : Nat) : Int) := by rw [L4, iI_mul]; rfl
  obtain ⟨a1, e1⟩ := Int.eq_ofNat_of_zero_le (show 0 ≤ dT T n (p + 1) from dg 0 (by decide))
  have u1 := dT_b (T := T) (n := n) (p := p + 1)
  obtain ⟨a2, e2⟩ := Int.eq_ofNat_of_zero_le (show 0 ≤ dT T n (p + 2) from dg 1 (by decide))
  have u2 := dT_b (T := T) (n := n) (p := p + 2)
  obtain ⟨a3, e3⟩ := Int.eq_ofNat_of_zero_le (show 0 ≤ dT T n (p + 3) from dg 2 (by decide))
  have u3 := dT_b (T := T) (n := n) (p := p + 3)
  obtain ⟨v0, v1⟩ : W (4 * k0) = iI (dT T n (p + 1)) ∧ W (4 * k0 + 1) = iI (10 * dT T n (p + 2) + dT T n (p + 3)) := h2.2.1 (Or.inl rfl)
  have ev : iI (10 * dT T n (p + 2) + dT T n (p + 3)) = iI ((10 * a2 + a3 : Nat) : Int) := iI_c (by omega)
  have gg := s_isGoodN (a := a1) (by omega)
  have rf : X5_comesTold (rn 6 t) (rn 6 u) (rn 6 hd) (rn 7 k) (rn 7 f) (rn 7 g) (rn 7 l) (rn 7 i) (rq 48 L) (rq 192 W) (iI sh) (iI co) (iI d) 0 (iI (fI 6)) (iI (k0 : Int)) = (X5_comesGood (rn 6 t) (rn 6 u) (rn 6 hd) (iI 116) (iI (a1 : Int)) (iI ((10 * a2 + a3 : Nat) : Int))).bind fun u_37 => (c01 u_37.2.2.2).bind fun b_39 => some (u_37.1, u_37.2.1, u_37.2.2.1, rn 7 k, rn 7 f, rn 7 g, rn 7 l, rn 7 i, iI (sh : Int), iI (co : Int), iI (d : Int), b_39) := by
    unfold X5_comesTold
    rw [rd_rq (by omega) (by omega) (by omega), Option.bind_some, Int.toNat_natCast, h1, if_neg (show ¬ iI 116 = (99 : Int32) by decide), if_neg (show ¬ iI 116 = (100 : Int32) by decide), if_neg (show ¬ iI 116 = (111 : Int32) by decide), if_neg (show ¬ iI 116 = (115 : Int32) by decide), Option.bind_some, k4, rd_rq (by omega) (by omega) (by omega), Option.bind_some, Int.toNat_natCast, v0, iI_s, rd_rq (by omega) (by omega) (by omega), Option.bind_some, Int.toNat_natCast, v1, ev, e1]
  rw [rf]
  unfold X5_comesGood
  rw [gg.2, Option.bind_some]
  by_cases c1 : a1 < 6
  · rw [if_pos c1] at gg
    rw [if_pos c1, if_neg c10, if_neg (show ¬ iI 116 = (104 : Int32) by decide), if_pos (show iI 116 = (116 : Int32) by decide)]
    rw [wr_rn (by omega) (by omega) (by omega) (by omega), Option.bind_some, Option.bind_some, c01_1, Option.bind_some, Int.toNat_natCast, Int.toNat_natCast]
    refine Or.inr ⟨?_, ((u, hd, k, f, g, l), sh, (upN t a1 (10 * a2 + a3), i, co, d)), ⟨hE, hhd, hsh, ⟨fun j => upN_le ht (by omega) j, hi, hX.2.2⟩, hO⟩, ?_, rfl⟩
    · unfold X3_isAsItMustBe
      rw [iI_s p, s_digit hT hn (by omega), Option.bind_some, s_at hn (by omega), Option.bind_some, hc, if_neg (show ¬ iI 116 = (100 : Int32) by decide), if_neg (show ¬ iI 116 = (104 : Int32) by decide), if_neg (show ¬ iI 116 = (111 : Int32) by decide), if_neg (show ¬ iI 116 = (115 : Int32) by decide), if_pos (show iI 116 = (116 : Int32) by decide), e1, gg.1, Option.bind_some, c01_1, Option.bind_some]
    · unfold X3_carryOut
      rw [iI_s p, s_digit hT hn (by omega), Option.bind_some, s_at hn (by omega), Option.bind_some, hc, if_neg (show ¬ iI 116 = (99 : Int32) by decide), if_neg (show ¬ iI 116 = (100 : Int32) by decide), if_neg (show ¬ iI 116 = (104 : Int32) by decide), if_neg (show ¬ iI 116 = (111 : Int32) by decide), if_neg (show ¬ iI 116 = (115 : Int32) by decide), if_pos (show iI 116 = (116 : Int32) by decide), p2, s_two hT hn (by omega), Option.bind_some, ev, e1, wr_rn (by omega) (by omega) (by omega) (by omega), Option.bind_some, Int.toNat_natCast, Int.toNat_natCast]
  · rw [if_neg c1] at gg
    rw [if_neg c1, if_pos (show (0 : Int32) = 0 from rfl), Option.bind_some, c01_0, Option.bind_some]
    refine Or.inl ⟨?_, rfl⟩
    unfold X3_isAsItMustBe
    rw [iI_s p, s_digit hT hn (by omega), Option.bind_some, s_at hn (by omega), Option.bind_some, hc, if_neg (show ¬ iI 116 = (100 : Int32) by decide), if_neg (show ¬ iI 116 = (104 : Int32) by decide), if_neg (show ¬ iI 116 = (111 : Int32) by decide), if_neg (show ¬ iI 116 = (115 : Int32) by decide), if_pos (show iI 116 = (116 : Int32) by decide), e1, gg.1, Option.bind_some, c01_0, Option.bind_some]
set_option maxRecDepth 20000 in
set_option maxHeartbeats 400000 in
theorem goes_u {u hd k f g l t i : Nat → Nat} {sh co d : Nat} {T : Nat → Nat} {n p k0 : Nat} {L A W : Nat → Int32} (hT : ∀ j, T j ≤ 255) (hn : n ≤ 96) (hp : p ≤ 96) (hS : OkS ((u, hd, k, f, g, l), sh, (t, i, co, d))) (hk : k0 ≤ 40) (hf : flt1 T n p < 0) (hc : aT T n p = 117) (h1 : L k0 = iI (aT T n p)) (h2 : TV T n W (4 * k0) (p + 1) (aT T n p)) :
    GoesT T n p ((u, hd, k, f, g, l), sh, (t, i, co, d)) (X5_comesTold (rn 6 t) (rn 6 u) (rn 6 hd) (rn 7 k) (rn 7 f) (rn 7 g) (rn 7 l) (rn 7 i) (rq 48 L) (rq 192 W) (iI sh) (iI co) (iI d) 0 (iI (fI 6)) (iI (k0 : Int))) := by
  have hE : OkE (u, hd, k, f, g, l) := sE hS
  have hhd : ∀ j, hd j ≤ 99 := hS.2.1
  have hsh : sh ≤ 7 := sSh hS
  have hX : OkX 999 (t, i, co, d) := sX hS
  have hO : OutI sh i := sO hS
  have ht := xT hX
  have hi := xI hX
  have hd1 := xD hX
  have dg := flt_dig hf
  rw [hc] at h1 h2 dg
  have p2 : iI (p : Int) + 2 = iI ((p + 2 : Nat) : Int) := by rw [L2, iI_add]; rfl
  have p3 : iI (p : Int) + 3 = iI ((p + 3 : Nat) : Int) := by rw [L3, iI_add]; rfl
  have p4 : iI (p : Int) + 4 = iI ((p + 4 : Nat) : Int) := by rw [L4, iI_add]; rfl
  have k4 : (4 : Int32) * iI (k0 : Int) = iI ((4 * k0 : Nat) : Int) := by rw [L4, iI_mul]; rfl
  obtain ⟨a1, e1⟩ := Int.eq_ofNat_of_zero_le (show 0 ≤ dT T n (p + 1) from dg 0 (by decide))
  have u1 := dT_b (T := T) (n := n) (p := p + 1)
  obtain ⟨a2, e2⟩ := Int.eq_ofNat_of_zero_le (show 0 ≤ dT T n (p + 2) from dg 1 (by decide))
  have u2 := dT_b (T := T) (n := n) (p := p + 2)
  obtain ⟨v0, v1⟩ : W (4 * k0) = iI (dT T n (p + 1)) ∧ W (4 * k0 + 1) = iI (dT T n (p + 2)) := h2.2.2.1 rfl
  have ev : iI (dT T n (p + 2)) = iI ((a2 : Nat) : Int) := iI_c (by omega)
  have gg := s_isGoodN (a := a1) (by omega)
  have rf : X5_comesTold (rn 6 t) (rn 6 u) (rn 6 hd) (rn 7 k) (rn 7 f) (rn 7 g) (rn 7 l) (rn 7 i) (rq 48 L) (rq 192 W) (iI sh) (iI co) (iI d) 0 (iI (fI 6)) (iI (k0 : Int)) = (X5_comesGood (rn 6 t) (rn 6 u) (rn 6 hd) (iI 117) (iI (a1 : Int)) (iI ((a2 : Nat) : Int))).bind fun u_37 => (c01 u_37.2.2.2).bind fun b_39 => some (u_37.1, u_37.2.1, u_37.2.2.1, rn 7 k, rn 7 f, rn 7 g, rn 7 l, rn 7 i, iI (sh : Int), iI (co : Int), iI (d : Int), b_39) := by
    unfold X5_comesTold
    rw [rd_rq (by omega) (by omega) (by omega), Option.bind_some, Int.toNat_natCast, h1, if_neg (show ¬ iI 117 = (99 : Int32) by decide), if_neg (show ¬ iI 117 = (100 : Int32) by decide), if_neg (show ¬ iI 117 = (111 : Int32) by decide), if_neg (show ¬ iI 117 = (115 : Int32) by decide), Option.bind_some, k4, rd_rq (by omega) (by omega) (by omega), Option.bind_some, Int.toNat_natCast, v0, iI_s, rd_rq (by omega) (by omega) (by omega), Option.bind_some, Int.toNat_natCast, v1, ev, e1]
  rw [rf]
  unfold X5_comesGood
  rw [gg.2, Option.bind_some]
  by_cases c1 : a1 < 6
  · rw [if_pos c1] at gg
    rw [if_pos c1, if_neg c10, if_neg (show ¬ iI 117 = (104 : Int32) by decide), if_neg (show ¬ iI 117 = (116 : Int32) by decide)]
    rw [wr_rn (by omega) (by omega) (by omega) (by omega), Option.bind_some, Option.bind_some, c01_1, Option.bind_some, Int.toNat_natCast, Int.toNat_natCast]
    refine Or.inr ⟨?_, ((upN u a1 a2, hd, k, f, g, l), sh, (t, i, co, d)), ⟨hE.u1 (fun j => upN_le (oU hE) (by omega) j), hhd, hsh, hX, hO⟩, ?_, rfl⟩
    · unfold X3_isAsItMustBe
      rw [iI_s p, s_digit hT hn (by omega), Option.bind_some, s_at hn (by omega), Option.bind_some, hc, if_neg (show ¬ iI 117 = (100 : Int32) by decide), if_neg (show ¬ iI 117 = (104 : Int32) by decide), if_neg (show ¬ iI 117 = (111 : Int32) by decide), if_neg (show ¬ iI 117 = (115 : Int32) by decide), if_neg (show ¬ iI 117 = (116 : Int32) by decide), if_pos (show iI 117 = (117 : Int32) by decide), e1, gg.1, Option.bind_some, c01_1, Option.bind_some]
    · unfold X3_carryOut
      rw [iI_s p, s_digit hT hn (by omega), Option.bind_some, s_at hn (by omega), Option.bind_some, hc, if_neg (show ¬ iI 117 = (99 : Int32) by decide), if_neg (show ¬ iI 117 = (100 : Int32) by decide), if_neg (show ¬ iI 117 = (104 : Int32) by decide), if_neg (show ¬ iI 117 = (111 : Int32) by decide), if_neg (show ¬ iI 117 = (115 : Int32) by decide), if_neg (show ¬ iI 117 = (116 : Int32) by decide), if_pos (show iI 117 = (117 : Int32) by decide), p2, s_digit hT hn (by omega), Option.bind_some, ev, e1, wr_rn (by omega) (by omega) (by omega) (by omega), Option.bind_some, Int.toNat_natCast, Int.toNat_natCast]
  · rw [if_neg c1] at gg
    rw [if_neg c1, if_pos (show (0 : Int32) = 0 from rfl), Option.bind_some, c01_0, Option.bind_some]
    refine Or.inl ⟨?_, rfl⟩
    unfold X3_isAsItMustBe
    rw [iI_s p, s_digit hT hn (by omega), Option.bind_some, s_at hn (by omega), Option.bind_some, hc, if_neg (show ¬ iI 117 = (100 : Int32) by decide), if_neg (show ¬ iI 117 = (104 : Int32) by decide), if_neg (show ¬ iI 117 = (111 : Int32) by decide), if_neg (show ¬ iI 117 = (115 : Int32) by decide), if_neg (show ¬ iI 117 = (116 : Int32) by decide), if_pos (show iI 117 = (117 : Int32) by decide), e1, gg.1, Option.bind_some, c01_0, Option.bind_some]
set_option maxRecDepth 20000 in
set_option maxHeartbeats 400000 in
theorem goes_h {u hd k f g l t i : Nat → Nat} {sh co d : Nat} {T : Nat → Nat} {n p k0 : Nat} {L A W : Nat → Int32} (hT : ∀ j, T j ≤ 255) (hn : n ≤ 96) (hp : p ≤ 96) (hS : OkS ((u, hd, k, f, g, l), sh, (t, i, co, d))) (hk : k0 ≤ 40) (hf : flt1 T n p < 0) (hc : aT T n p = 104) (h1 : L k0 = iI (aT T n p)) (h2 : TV T n W (4 * k0) (p + 1) (aT T n p)) :
    GoesT T n p ((u, hd, k, f, g, l), sh, (t, i, co, d)) (X5_comesTold (rn 6 t) (rn 6 u) (rn 6 hd) (rn 7 k) (rn 7 f) (rn 7 g) (rn 7 l) (rn 7 i) (rq 48 L) (rq 192 W) (iI sh) (iI co) (iI d) 0 (iI (fI 6)) (iI (k0 : Int))) := by
  have hE : OkE (u, hd, k, f, g, l) := sE hS
  have hhd : ∀ j, hd j ≤ 99 := hS.2.1
  have hsh : sh ≤ 7 := sSh hS
  have hX : OkX 999 (t, i, co, d) := sX hS
  have hO : OutI sh i := sO hS
  have ht := xT hX
  have hi := xI hX
  have hd1 := xD hX
  have dg := flt_dig hf
  rw [hc] at h1 h2 dg
  have p2 : iI (p : Int) + 2 = iI ((p + 2 : Nat) : Int) := by rw [L2, iI_add]; rfl
  have p3 : iI (p : Int) + 3 = iI ((p + 3 : Nat) : Int) := by rw [L3, iI_add]; rfl
  have p4 : iI (p : Int) + 4 = iI ((p + 4 : Nat) : Int) := by rw [L4, iI_add]; rfl
  have k4 : (4 : Int32) * iI (k0 : Int) = iI ((4 * k0 : Nat) : Int) := by rw [L4, iI_mul]; rfl
  obtain ⟨a1, e1⟩ := Int.eq_ofNat_of_zero_le (show 0 ≤ dT T n (p + 1) from dg 0 (by decide))
  have u1 := dT_b (T := T) (n := n) (p := p + 1)
  obtain ⟨a2, e2⟩ := Int.eq_ofNat_of_zero_le (show 0 ≤ dT T n (p + 2) from dg 1 (by decide))
  have u2 := dT_b (T := T) (n := n) (p := p + 2)
  obtain ⟨a3, e3⟩ := Int.eq_ofNat_of_zero_le (show 0 ≤ dT T n (p + 3) from dg 2 (by decide))
  have u3 := dT_b (T := T) (n := n) (p := p + 3)
  obtain ⟨v0, v1⟩ : W (4 * k0) = iI (dT T n (p + 1)) ∧ W (4 * k0 + 1) = iI (10 * dT T n (p + 2) + dT T n (p + 3)) := h2.2.1 (Or.inr rfl)
  have ev : iI (10 * dT T n (p + 2) + dT T n (p + 3)) = iI ((10 * a2 + a3 : Nat) : Int) := iI_c (by omega)
  have gg := s_isGoodN (a := a1) (by omega)
  have rf : X5_comesTold (rn 6 t) (rn 6 u) (rn 6 hd) (rn 7 k) (rn 7 f) (rn 7 g) (rn 7 l) (rn 7 i) (rq 48 L) (rq 192 W) (iI sh) (iI co) (iI d) 0 (iI (fI 6)) (iI (k0 : Int)) = (X5_comesGood (rn 6 t) (rn 6 u) (rn 6 hd) (iI 104) (iI (a1 : Int)) (iI ((10 * a2 + a3 : Nat) : Int))).bind fun u_37 => (c01 u_37.2.2.2).bind fun b_39 => some (u_37.1, u_37.2.1, u_37.2.2.1, rn 7 k, rn 7 f, rn 7 g, rn 7 l, rn 7 i, iI (sh : Int), iI (co : Int), iI (d : Int), b_39) := by
    unfold X5_comesTold
    rw [rd_rq (by omega) (by omega) (by omega), Option.bind_some, Int.toNat_natCast, h1, if_neg (show ¬ iI 104 = (99 : Int32) by decide), if_neg (show ¬ iI 104 = (100 : Int32) by decide), if_neg (show ¬ iI 104 = (111 : Int32) by decide), if_neg (show ¬ iI 104 = (115 : Int32) by decide), Option.bind_some, k4, rd_rq (by omega) (by omega) (by omega), Option.bind_some, Int.toNat_natCast, v0, iI_s, rd_rq (by omega) (by omega) (by omega), Option.bind_some, Int.toNat_natCast, v1, ev, e1]
  rw [rf]
  unfold X5_comesGood
  rw [gg.2, Option.bind_some]
  by_cases c1 : a1 < 6
  · rw [if_pos c1] at gg
    rw [if_pos c1, if_neg c10, if_pos (show iI 104 = (104 : Int32) by decide)]
    unfold X5_isHiding
    rcases hide_cases ht hhd c1 (iI ((10 * a2 + a3 : Nat) : Int)) with ⟨m, em, n1, n2, n3, n4, b1, b2⟩ | ⟨b1, b2⟩
    · have em2 : m = ((10 * a2 + a3 : Nat) : Int) := by
        have h := em
        rw [iI_eq (by omega) (by omega) (by omega) (by omega)] at h
        exact h.symm
      subst em2
      have hw := s_hideAway (t := t) (hd := hd) c1 n1 n2
      rw [b2, Option.bind_some, if_neg c10, hw.2, Option.bind_some, Option.bind_some, c01_1, Option.bind_some, Option.bind_some, c01_1, Option.bind_some]
      refine Or.inr ⟨?_, ((u, upN hd a1 ((hd a1 : Int) + ((10 * a2 + a3 : Nat) : Int)).toNat, k, f, g, l), sh, (upN t a1 ((t a1 : Int) - ((10 * a2 + a3 : Nat) : Int)).toNat, i, co, d)), ⟨⟨oU hE, fun j => upN_le (oH hE) (by omega) j, hE.2.2⟩, fun j => upN_le hhd (by omega) j, hsh, ⟨fun j => upN_le ht (by have := ht a1; omega) j, hX.2⟩, hO⟩, ?_, rfl⟩
      · unfold X3_isAsItMustBe
        rw [iI_s p, s_digit hT hn (by omega), Option.bind_some, s_at hn (by omega), Option.bind_some, hc, if_neg (show ¬ iI 104 = (100 : Int32) by decide), if_pos (show iI 104 = (104 : Int32) by decide), e1, gg.1, Option.bind_some, if_neg c10, p2, s_two hT hn (by omega), Option.bind_some, ev, b1, Option.bind_some, if_neg c10]
      · unfold X3_carryOut
        rw [iI_s p, s_digit hT hn (by omega), Option.bind_some, s_at hn (by omega), Option.bind_some, hc, if_neg (show ¬ iI 104 = (99 : Int32) by decide), if_neg (show ¬ iI 104 = (100 : Int32) by decide), if_pos (show iI 104 = (104 : Int32) by decide), p2, s_two hT hn (by omega), Option.bind_some, ev, e1, hw.1, Option.bind_some]
    · rw [b2, Option.bind_some, if_pos (show (0 : Int32) = 0 from rfl), Option.bind_some, c01_0, Option.bind_some, Option.bind_some, c01_0, Option.bind_some]
      refine Or.inl ⟨?_, rfl⟩
      unfold X3_isAsItMustBe
      rw [iI_s p, s_digit hT hn (by omega), Option.bind_some, s_at hn (by omega), Option.bind_some, hc, if_neg (show ¬ iI 104 = (100 : Int32) by decide), if_pos (show iI 104 = (104 : Int32) by decide), e1, gg.1, Option.bind_some, if_neg c10, p2, s_two hT hn (by omega), Option.bind_some, ev, b1, Option.bind_some, if_pos (show (0 : Int32) = 0 from rfl)]
  · rw [if_neg c1] at gg
    rw [if_neg c1, if_pos (show (0 : Int32) = 0 from rfl), Option.bind_some, c01_0, Option.bind_some]
    refine Or.inl ⟨?_, rfl⟩
    unfold X3_isAsItMustBe
    rw [iI_s p, s_digit hT hn (by omega), Option.bind_some, s_at hn (by omega), Option.bind_some, hc, if_neg (show ¬ iI 104 = (100 : Int32) by decide), if_pos (show iI 104 = (104 : Int32) by decide), e1, gg.1, Option.bind_some, if_pos (show (0 : Int32) = 0 from rfl)]
set_option maxRecDepth 20000 in
set_option maxHeartbeats 400000 in
theorem goes_o {u hd k f g l t i : Nat → Nat} {sh co d : Nat} {T : Nat → Nat} {n p k0 : Nat} {L A W : Nat → Int32} (hT : ∀ j, T j ≤ 255) (hn : n ≤ 96) (hp : p ≤ 96) (hS : OkS ((u, hd, k, f, g, l), sh, (t, i, co, d))) (hk : k0 ≤ 40) (hf : flt1 T n p < 0) (hc : aT T n p = 111) (h1 : L k0 = iI (aT T n p)) (h2 : TV T n W (4 * k0) (p + 1) (aT T n p)) :
    GoesT T n p ((u, hd, k, f, g, l), sh, (t, i, co, d)) (X5_comesTold (rn 6 t) (rn 6 u) (rn 6 hd) (rn 7 k) (rn 7 f) (rn 7 g) (rn 7 l) (rn 7 i) (rq 48 L) (rq 192 W) (iI sh) (iI co) (iI d) 0 (iI (fI 6)) (iI (k0 : Int))) := by
  have hE : OkE (u, hd, k, f, g, l) := sE hS
  have hhd : ∀ j, hd j ≤ 99 := hS.2.1
  have hsh : sh ≤ 7 := sSh hS
  have hX : OkX 999 (t, i, co, d) := sX hS
  have hO : OutI sh i := sO hS
  have ht := xT hX
  have hi := xI hX
  have hd1 := xD hX
  have dg := flt_dig hf
  rw [hc] at h1 h2 dg
  have p2 : iI (p : Int) + 2 = iI ((p + 2 : Nat) : Int) := by rw [L2, iI_add]; rfl
  have p3 : iI (p : Int) + 3 = iI ((p + 3 : Nat) : Int) := by rw [L3, iI_add]; rfl
  have p4 : iI (p : Int) + 4 = iI ((p + 4 : Nat) : Int) := by rw [L4, iI_add]; rfl
  have k4 : (4 : Int32) * iI (k0 : Int) = iI ((4 * k0 : Nat) : Int) := by rw [L4, iI_mul]; rfl
  obtain ⟨a1, e1⟩ := Int.eq_ofNat_of_zero_le (show 0 ≤ dT T n (p + 1) from dg 0 (by decide))
  have u1 := dT_b (T := T) (n := n) (p := p + 1)
  have v0 : W (4 * k0) = iI (dT T n (p + 1)) := h2.2.2.2.1 rfl
  have gg := s_isShip (s := a1) hsh (by omega)
  unfold X5_comesTold
  rw [rd_rq (F := L) (by omega) (by omega) (by omega), Option.bind_some, Int.toNat_natCast, h1, if_neg (show ¬ iI 111 = (99 : Int32) by decide), if_neg (show ¬ iI 111 = (100 : Int32) by decide), if_pos (show iI 111 = (111 : Int32) by decide), k4, rd_rq (F := W) (by omega) (by omega) (by omega), Option.bind_some, Int.toNat_natCast, v0, e1, gg.2, Option.bind_some]
  have at0 : ∀ b, X0_isShip (iI sh) (iI (a1 : Int)) = some b → X3_isAsItMustBe (rn 96 T) (rn 6 t) (rn 6 hd) (iI n) (iI sh) (iI (mk i)) (iI d) (iI (p : Int)) = if b = 0 then some 0 else (X0_isIn (iI (mk i)) (iI (a1 : Int))).bind fun u_19 => if u_19 = 0 then some 0 else some 1 := by
    intro b hb
    unfold X3_isAsItMustBe
    rw [iI_s p, s_digit hT hn (by omega), Option.bind_some, s_at hn (by omega), Option.bind_some, hc, if_neg (show ¬ iI 111 = (100 : Int32) by decide), if_neg (show ¬ iI 111 = (104 : Int32) by decide), if_pos (show iI 111 = (111 : Int32) by decide), e1, hb, Option.bind_some]
  by_cases c1 : a1 < sh
  · rw [if_pos c1] at gg
    have at1 := at0 _ gg.1
    rw [if_neg c10, s_X0_isIn hi (by omega) (by omega), Option.bind_some, Int.toNat_natCast] at at1
    have bi := hi a1
    rw [if_pos c1, if_neg c10, Option.bind_some, rd_rn (f := i) (by omega) (by omega) (by omega), Option.bind_some, Int.toNat_natCast]
    by_cases c2 : i a1 = 0
    · rw [if_pos (show iI (i a1 : Int) = (0 : Int32) by rw [c2]; decide)] at at1
      rw [if_pos (show iI (i a1 : Int) = (0 : Int32) by rw [c2]; decide)]
      exact Or.inl ⟨at1, rfl⟩
    · rw [if_neg (show ¬ iI (i a1 : Int) = (0 : Int32) from ne0 (by omega) (by omega))] at at1
      rw [if_neg (show ¬ iI (i a1 : Int) = (0 : Int32) from ne0 (by omega) (by omega)), Option.bind_some, L0, wr_rn (f := i) (by omega) (by omega) (by omega) (by omega), Option.bind_some, Int.toNat_natCast]
      refine Or.inr ⟨at1, ((u, hd, k, f, g, l), sh, (t, upN i a1 0, co, d)), ⟨hE, hhd, hsh, ⟨ht, fun j => upN_le hi (by omega) j, hX.2.2⟩, fun j hj => ?_⟩, ?_, rfl⟩
      · have hj2 : sh ≤ j := hj
        show upN i a1 0 j = 0
        unfold upN
        rw [if_neg (by omega)]
        exact hO j hj
      · unfold X3_carryOut
        rw [iI_s p, s_digit hT hn (by omega), Option.bind_some, s_at hn (by omega), Option.bind_some, hc, if_neg (show ¬ iI 111 = (99 : Int32) by decide), if_neg (show ¬ iI 111 = (100 : Int32) by decide), if_neg (show ¬ iI 111 = (104 : Int32) by decide), if_pos (show iI 111 = (111 : Int32) by decide), e1, s_X0_sendOut hi (by omega) (by omega), Option.bind_some, Int.toNat_natCast]
  · rw [if_neg c1] at gg
    have at1 := at0 _ gg.1
    rw [if_pos (show (0 : Int32) = 0 from rfl)] at at1
    rw [if_neg c1, if_pos (show (0 : Int32) = 0 from rfl)]
    exact Or.inl ⟨at1, rfl⟩
set_option maxRecDepth 20000 in
set_option maxHeartbeats 400000 in
theorem goes_s {u hd k f g l t i : Nat → Nat} {sh co d : Nat} {T : Nat → Nat} {n p k0 : Nat} {L A W : Nat → Int32} (hT : ∀ j, T j ≤ 255) (hn : n ≤ 96) (hp : p ≤ 96) (hS : OkS ((u, hd, k, f, g, l), sh, (t, i, co, d))) (hk : k0 ≤ 40) (hf : flt1 T n p < 0) (hc : aT T n p = 115) (h1 : L k0 = iI (aT T n p)) (h2 : TV T n W (4 * k0) (p + 1) (aT T n p)) :
    GoesT T n p ((u, hd, k, f, g, l), sh, (t, i, co, d)) (X5_comesTold (rn 6 t) (rn 6 u) (rn 6 hd) (rn 7 k) (rn 7 f) (rn 7 g) (rn 7 l) (rn 7 i) (rq 48 L) (rq 192 W) (iI sh) (iI co) (iI d) 0 (iI (fI 6)) (iI (k0 : Int))) := by
  have hE : OkE (u, hd, k, f, g, l) := sE hS
  have hhd : ∀ j, hd j ≤ 99 := hS.2.1
  have hsh : sh ≤ 7 := sSh hS
  have hX : OkX 999 (t, i, co, d) := sX hS
  have hO : OutI sh i := sO hS
  have ht := xT hX
  have hi := xI hX
  have hd1 := xD hX
  have dg := flt_dig hf
  rw [hc] at h1 h2 dg
  have p2 : iI (p : Int) + 2 = iI ((p + 2 : Nat) : Int) := by rw [L2, iI_add]; rfl
  have p3 : iI (p : Int) + 3 = iI ((p + 3 : Nat) : Int) := by rw [L3, iI_add]; rfl
  have p4 : iI (p : Int) + 4 = iI ((p + 4 : Nat) : Int) := by rw [L4, iI_add]; rfl
  have k4 : (4 : Int32) * iI (k0 : Int) = iI ((4 * k0 : Nat) : Int) := by rw [L4, iI_mul]; rfl
  obtain ⟨a1, e1⟩ := Int.eq_ofNat_of_zero_le (show 0 ≤ dT T n (p + 1) from dg 0 (by decide))
  have u1 := dT_b (T := T) (n := n) (p := p + 1)
  obtain ⟨a2, e2⟩ := Int.eq_ofNat_of_zero_le (show 0 ≤ dT T n (p + 2) from dg 1 (by decide))
  have u2 := dT_b (T := T) (n := n) (p := p + 2)
  obtain ⟨a3, e3⟩ := Int.eq_ofNat_of_zero_le (show 0 ≤ dT T n (p + 3) from dg 2 (by decide))
  have u3 := dT_b (T := T) (n := n) (p := p + 3)
  obtain ⟨a4, e4⟩ := Int.eq_ofNat_of_zero_le (show 0 ≤ dT T n (p + 4) from dg 3 (by decide))
  have u4 := dT_b (T := T) (n := n) (p := p + 4)
  obtain ⟨a5, e5⟩ := Int.eq_ofNat_of_zero_le (show 0 ≤ dT T n (p + 5) from dg 4 (by decide))
  have u5 := dT_b (T := T) (n := n) (p := p + 5)
  obtain ⟨v0, v1, v2, v3⟩ : W (4 * k0) = iI (dT T n (p + 1)) ∧ W (4 * k0 + 1) = iI (dT T n (p + 2)) ∧ W (4 * k0 + 2) = iI (dT T n (p + 3)) ∧ W (4 * k0 + 3) = iI (10 * dT T n (p + 4) + dT T n (p + 5)) := h2.1 rfl
  have ev : iI (10 * dT T n (p + 4) + dT T n (p + 5)) = iI ((10 * a4 + a5 : Nat) : Int) := iI_c (by omega)
  have gg := s_isGoodN (a := a3) (by omega)
  have q1 : iI ((4 * k0 : Nat) : Int) + 1 = iI ((4 * k0 + 1 : Nat) : Int) := iI_s _
  have q2 : iI ((4 * k0 : Nat) : Int) + 2 = iI ((4 * k0 + 2 : Nat) : Int) := by rw [L2, iI_add]; rfl
  have q3 : iI ((4 * k0 : Nat) : Int) + 3 = iI ((4 * k0 + 3 : Nat) : Int) := by rw [L3, iI_add]; rfl
  have cl : X3_isAsItMustBe (rn 96 T) (rn 6 t) (rn 6 hd) (iI n) (iI sh) (iI (mk i)) (iI d) (iI (p : Int)) = some (if a1 ≤ 5 ∧ a3 < 6 ∧ ¬ sh = 7 then 1 else 0) := by
    unfold X3_isAsItMustBe
    rw [iI_s p, s_digit hT hn (by omega), Option.bind_some, s_at hn (by omega), Option.bind_some, hc, if_neg (show ¬ iI 115 = (100 : Int32) by decide), if_neg (show ¬ iI 115 = (104 : Int32) by decide), if_neg (show ¬ iI 115 = (111 : Int32) by decide), if_pos (show iI 115 = (115 : Int32) by decide), e1, L6, L7, p3, s_digit hT hn (by omega), Option.bind_some, e3, gg.1, Option.bind_some]
    by_cases c1 : a1 ≤ 5
    · rw [if_neg (fle (by omega) (by omega) (by omega))]
      by_cases c2 : a3 < 6
      · rw [if_pos c2, if_neg c10]
        by_cases c3 : sh = 7
        · rw [if_pos (tle (by omega) (by omega) (by omega)), if_neg (fun z => z.2.2 c3)]
        · rw [if_neg (fle (by omega) (by omega) (by omega)), if_pos ⟨c1, c2, c3⟩]
      · rw [if_neg c2, if_pos (show (0 : Int32) = 0 from rfl), if_neg (fun z => c2 z.2.1)]
    · rw [if_pos (tle (by omega) (by omega) (by omega)), if_neg (fun z => c1 z.1)]
  unfold X5_comesTold
  rw [rd_rq (F := L) (by omega) (by omega) (by omega), Option.bind_some, Int.toNat_natCast, h1, if_neg (show ¬ iI 115 = (99 : Int32) by decide), if_neg (show ¬ iI 115 = (100 : Int32) by decide), if_neg (show ¬ iI 115 = (111 : Int32) by decide), if_pos (show iI 115 = (115 : Int32) by decide), k4]
  unfold X5_comesShip
  rw [rd_rq (F := W) (by omega) (by omega) (by omega), Option.bind_some, Int.toNat_natCast, v0, e1, L5, L7]
  by_cases c1 : a1 ≤ 5
  · rw [if_neg (show ¬ iI 5 < iI (a1 : Int) from flt (by omega) (by omega) (by omega)), q2, rd_rq (F := W) (by omega) (by omega) (by omega), Option.bind_some, Int.toNat_natCast, v2, e3, gg.2, Option.bind_some]
    by_cases c2 : a3 < 6
    · rw [if_pos c2, if_neg c10]
      by_cases c3 : sh = 7
      · rw [if_neg (fun z => z.2.2 c3)] at cl
        rw [if_pos (show iI (sh : Int) = iI 7 from teq (by omega)), Option.bind_some, c01_0, Option.bind_some]
        exact Or.inl ⟨cl, rfl⟩
      · rw [if_pos ⟨c1, c2, c3⟩] at cl
        have hs := s_adds (k := k) (f := f) (g := g) (l := l) (i := i) (sh := sh) (a1 := a1) (a2 := a2) (a3 := a3) (a4 := 10 * a4 + a5) hi (by omega)
        rw [if_neg (show ¬ iI (sh : Int) = iI 7 from feq (by omega) (by omega) (by omega) (by omega) (by omega)), Option.bind_some, q1, rd_rq (F := W) (by omega) (by omega) (by omega), Option.bind_some, Option.bind_some, Int.toNat_natCast, v1, e2, q3, rd_rq (F := W) (by omega) (by omega) (by omega), Option.bind_some, Int.toNat_natCast, v3, ev, hs.2, Option.bind_some, Option.bind_some, c01_1, Option.bind_some]
        refine Or.inr ⟨cl, ((u, hd, upN k sh a1, upN f sh a2, upN g sh a3, upN l sh (10 * a4 + a5)), sh + 1, (t, upN i sh 0, co, d)), ⟨⟨oU hE, oH hE, fun j => upN_le (oK hE) c1 j, fun j => upN_le (oF hE) (by omega) j, fun j => upN_le (oG hE) (by omega) j, fun j => upN_le (oL hE) (by omega) j⟩, hhd, show sh + 1 ≤ 7 by omega, ⟨ht, fun j => upN_le hi (by omega) j, hX.2.2⟩, fun j hj => ?_⟩, ?_, rfl⟩
        · have hj2 : sh + 1 ≤ j := hj
          show upN i sh 0 j = 0
          unfold upN
          rw [if_neg (by omega)]
          exact hO j (by omega)
        · unfold X3_carryOut
          rw [iI_s p, s_digit (p := p + 1) hT hn (by omega), Option.bind_some, s_at hn (by omega), Option.bind_some, hc, if_neg (show ¬ iI 115 = (99 : Int32) by decide), if_neg (show ¬ iI 115 = (100 : Int32) by decide), if_neg (show ¬ iI 115 = (104 : Int32) by decide), if_neg (show ¬ iI 115 = (111 : Int32) by decide), if_pos (show iI 115 = (115 : Int32) by decide), p2, s_digit (p := p + 2) hT hn (by omega), Option.bind_some, p3, s_digit (p := p + 3) hT hn (by omega), Option.bind_some, p4, s_two hT hn (by omega), Option.bind_some, ev, e1, e2, e3, hs.1, Option.bind_some]
    · rw [if_neg (fun z => c2 z.2.1)] at cl
      rw [if_neg c2, if_pos (show (0 : Int32) = 0 from rfl), Option.bind_some, c01_0, Option.bind_some]
      exact Or.inl ⟨cl, rfl⟩
  · rw [if_neg (fun z => c1 z.1)] at cl
    rw [if_pos (show iI 5 < iI (a1 : Int) from tlt (by omega) (by omega) (by omega)), Option.bind_some, c01_0, Option.bind_some]
    exact Or.inl ⟨cl, rfl⟩
