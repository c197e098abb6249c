/-! the reference: what is looked at in mind -/
def Kp (F F1 : Nat → Int32) : Prop := ∀ j, (j < 56 ∨ 168 ≤ j) → F1 j = F j
set_option maxRecDepth 20000 in
set_option maxHeartbeats 400000 in
theorem Kp.rf {F : Nat → Int32} : Kp F F := fun _ _ => rfl
set_option maxRecDepth 20000 in
set_option maxHeartbeats 400000 in
theorem Kp.tr {F F1 F2 : Nat → Int32} (h1 : Kp F F1) (h2 : Kp F1 F2) : Kp F F2 := fun j h => (h2 j h).trans (h1 j h)
set_option maxRecDepth 20000 in
set_option maxHeartbeats 400000 in
theorem Kp.put2 {F G : Nat → Int32} : Kp F (put F 112 56 G) := fun j h => by unfold put; rw [if_neg (by omega)]
set_option maxRecDepth 20000 in
set_option maxHeartbeats 400000 in
theorem Kp.put1 {F G : Nat → Int32} : Kp F (put F 56 56 G) := fun j h => by unfold put; rw [if_neg (by omega)]
set_option maxRecDepth 20000 in
set_option maxHeartbeats 400000 in
theorem s_forgetsN {u hd k f g l t i : Nat → Nat} {sh co d : Nat} {t1 u1 hd1 k1 f1 g1 l1 i1 : Nat → Nat} {F : Nat → Int32} {z1 z2 z3 z4 z5 : Int32} :
    X5_forgets (rn 6 t1) (rn 6 u1) (rn 6 hd1) (rn 7 k1) (rn 7 f1) (rn 7 g1) (rn 7 l1) (rn 7 i1) (rq 616 (put F 112 56 (flat (u, hd, k, f, g, l) sh (t, i, co, d)))) z3 z4 z5 z1 z2 = some (rn 6 t, rn 6 u, rn 6 hd, rn 7 k, rn 7 f, rn 7 g, rn 7 l, rn 7 i, rq 616 (put F 112 56 (flat (u, hd, k, f, g, l) sh (t, i, co, d))), iI sh, iI co, iI d, 0, iI 168) := s_forgets
set_option maxRecDepth 20000 in
set_option maxHeartbeats 400000 in
theorem l_comesIn {u hd k f g l : Nat → Nat} {sh b fr s0 N : Nat} (hf : fr ≤ 6) (hE : OkE (u, hd, k, f, g, l)) (hsh : sh ≤ 7) (hb : b < 128) (hs0 : s0 < 7) (hN : N ≤ 100) (K : Int32 → List Int32 → List Int32 → Int32 → Int32 → Option (List Int32 × List Int32 × List Int32 × List Int32 × List Int32 × List Int32 × List Int32 × List Int32 × List Int32 × Int32 × Int32 × Int32 × Int32 × Int32 × Int32)) : ∀ (r s n D : Nat) (x : Int32) (t i : Nat → Nat) (co d : Nat), x = iI (s : Int) → s + r = N → r + 2 < n → OkX D (t, i, co, d) → D + r + 2 ≤ 2000 →
    ∃ (t1 i1 : Nat → Nat) (co1 d1 : Nat), X5_comesIn_L10 K (rn 6 u) (rn 6 hd) (rn 7 k) (rn 7 f) (rn 7 g) (rn 7 l) (iI sh) (iI b) (iI (fI fr)) (iI s0) (iI N) n (-9) x (rn 6 t) (rn 7 i) (iI co) (iI d) = K (iI (cmX (u, hd, k, f, g, l) sh b fr s0 r s (t, i, co, d)).1) (rn 6 t1) (rn 7 i1) (iI co1) (iI d1) := by
  intro r
  induction r with
  | zero =>
    intro s n D x t i co d hx hs hn hX hD
    obtain ⟨n, rfl⟩ : ∃ m, n = m + 1 := ⟨n - 1, by omega⟩
    subst hx
    have hi := xI hX
    have c := hi s0
    rw [X5_comesIn_L10, if_neg (flt (by omega) (by omega) (by omega)), if_neg (by decide), rd_rn (by omega) (by omega) (by omega), Option.bind_some, Int.toNat_natCast, s_X5_goesDay hf hE hsh hb (hX.mono (by omega)), Option.bind_some, Option.bind_some, iI_s s]
    unfold cmX
    obtain ⟨n, rfl⟩ : ∃ m, n = m + 1 := ⟨n - 1, by omega⟩
    have e2 : ∀ (y : Int32) (B1 B2 : List Int32) (b3 b4 : Int32), X5_comesIn_L10 K (rn 6 u) (rn 6 hd) (rn 7 k) (rn 7 f) (rn 7 g) (rn 7 l) (iI sh) (iI b) (iI (fI fr)) (iI s0) (iI N) (n + 1) y (iI ((s + 1 : Nat) : Int)) B1 B2 b3 b4 = K y B1 B2 b3 b4 := by
      intro y B1 B2 b3 b4
      rw [X5_comesIn_L10, if_pos (tlt (by omega) (by omega) (by omega))]
    rw [e2, e2]
    by_cases h : i s0 = 0
    · rw [if_neg (by rw [h]; decide), if_pos h]
      exact ⟨_, _, _, _, rfl⟩
    · rw [if_pos (by rw [show i s0 = 1 by omega]; decide), if_neg h]
      exact ⟨_, _, _, _, rfl⟩
  | succ r ih =>
    intro s n D x t i co d hx hs hn hX hD
    obtain ⟨n, rfl⟩ : ∃ m, n = m + 1 := ⟨n - 1, by omega⟩
    subst hx
    have hi := xI hX
    have c := hi s0
    rw [X5_comesIn_L10, if_neg (flt (by omega) (by omega) (by omega)), if_neg (by decide), rd_rn (by omega) (by omega) (by omega), Option.bind_some, Int.toNat_natCast, s_X5_goesDay hf hE hsh hb (hX.mono (by omega)), Option.bind_some, Option.bind_some, iI_s s]
    unfold cmX
    by_cases h : i s0 = 0
    · rw [if_neg (by rw [h]; decide), if_pos h]
      exact ih (s + 1) n (D + 1) _ _ _ _ _ rfl (by omega) (by omega) (dayX_ok hX) (by omega)
    · obtain ⟨n, rfl⟩ : ∃ m, n = m + 1 := ⟨n - 1, by omega⟩
      rw [if_pos (by rw [show i s0 = 1 by omega]; decide), if_neg h, X5_comesIn_L10, if_neg (flt (by omega) (by omega) (by omega)), if_pos (by rw [L0]; exact tle (by omega) (by omega) (by omega))]
      exact ⟨_, _, _, _, rfl⟩
set_option maxRecDepth 20000 in
set_option maxHeartbeats 400000 in
theorem s_X5_comesIn {u hd k f g l t i : Nat → Nat} {sh co d : Nat} {b fr s0 N : Nat} {F : Nat → Int32} {z1 z2 : Int32} (hf : fr ≤ 6) (hE : OkE (u, hd, k, f, g, l)) (hsh : sh ≤ 7) (hb : b < 128) (hs0 : s0 < 7) (hN : N ≤ 100) (hX : OkX 1500 (t, i, co, d)) :
    X5_comesIn (rn 6 t) (rn 6 u) (rn 6 hd) (rn 7 k) (rn 7 f) (rn 7 g) (rn 7 l) (rn 7 i) (rq 616 F) (iI sh) (iI co) (iI d) (iI b) z1 z2 (iI (fI fr)) (iI s0) (iI N) = some (rn 6 t, rn 6 u, rn 6 hd, rn 7 k, rn 7 f, rn 7 g, rn 7 l, rn 7 i, rq 616 (put F 112 56 (flat (u, hd, k, f, g, l) sh (t, i, co, d))), iI sh, iI co, iI d, 0, iI 168, iI (cmX (u, hd, k, f, g, l) sh b fr s0 N 0 (t, i, co, d)).1) := by
  unfold X5_comesIn
  rw [s_thinks, Option.bind_some]
  obtain ⟨t1, i1, co1, d1, h⟩ := l_comesIn hf hE hsh hb hs0 hN (fun y3_9 there_10 inn_11 coughs_12 day_13 => (X5_forgets there_10 (rn 6 u) (rn 6 hd) (rn 7 k) (rn 7 f) (rn 7 g) (rn 7 l) inn_11 (rq 616 (put F 112 56 (flat (u, hd, k, f, g, l) sh (t, i, co, d)))) (iI sh) coughs_12 day_13 1 (iI 168)).bind fun u_14 => some (u_14.1, u_14.2.1, u_14.2.2.1, u_14.2.2.2.1, u_14.2.2.2.2.1, u_14.2.2.2.2.2.1, u_14.2.2.2.2.2.2.1, u_14.2.2.2.2.2.2.2.1, u_14.2.2.2.2.2.2.2.2.1, u_14.2.2.2.2.2.2.2.2.2.1, u_14.2.2.2.2.2.2.2.2.2.2.1, u_14.2.2.2.2.2.2.2.2.2.2.2.1, u_14.2.2.2.2.2.2.2.2.2.2.2.2.1, u_14.2.2.2.2.2.2.2.2.2.2.2.2.2, y3_9)) N 0 1000 1500 0 t i co d (by decide) (by omega) (by omega) hX (by omega)
  rw [s_forgetsN, Option.bind_some] at h
  exact h
set_option maxRecDepth 20000 in
set_option maxHeartbeats 400000 in
theorem stp_in {e : Env} {b fr d s j : Nat} {y : Y3} (h : y.2.1 j = 1) : (stp e b fr d s y).2.1 j = 1 := by
  unfold stp
  split
  · show upN y.2.1 s 1 j = 1
    unfold upN
    split
    · rfl
    · exact h
  · exact h
set_option maxRecDepth 20000 in
set_option maxHeartbeats 400000 in
theorem shp_in {e : Env} {b fr d j : Nat} : ∀ (r s : Nat) (y : Y3), y.2.1 j = 1 → (shp e b fr d r s y).2.1 j = 1 := by
  intro r
  induction r with
  | zero => intro s y h; exact h
  | succ r ih => intro s y h; exact ih (s + 1) _ (stp_in h)
set_option maxRecDepth 20000 in
set_option maxHeartbeats 400000 in
theorem dayX_in {e : Env} {sh b fr j : Nat} {x : XX} (h : x.2.1 j = 1) : (dayX e sh b fr x).2.1 j = 1 := shp_in (e := e) (b := b) (fr := fr) (d := x.2.2.2) sh 0 (x.1, x.2.1, x.2.2.1) h
-- the next DAY alone
set_option maxRecDepth 20000 in
set_option maxHeartbeats 400000 in
theorem cm1 {e : Env} {sh b fr s D : Nat} {x : XX} (hX : OkX D x) : ((cmX e sh b fr s 1 0 x).1 < 0 ∧ (dayX e sh b fr x).2.1 s = 0) ∨ (0 ≤ (cmX e sh b fr s 1 0 x).1 ∧ (cmX e sh b fr s 1 0 x).1 ≤ 1 ∧ (dayX e sh b fr x).2.1 s = 1) := by
  have b1 := hX.2.1 s
  have b2 := (dayX_ok (e := e) (sh := sh) (b := b) (fr := fr) hX).2.1 s
  unfold cmX
  by_cases h : x.2.1 s = 0
  · rw [if_pos h]
    unfold cmX
    by_cases h2 : (dayX e sh b fr x).2.1 s = 0
    · rw [if_pos h2]
      exact Or.inl ⟨show (-9 : Int) < 0 by decide, h2⟩
    · rw [if_neg h2]
      exact Or.inr ⟨show (0 : Int) ≤ ((0 + 1 : Nat) : Int) by decide, show ((0 + 1 : Nat) : Int) ≤ 1 by decide, by omega⟩
  · rw [if_neg h]
    exact Or.inr ⟨show (0 : Int) ≤ ((0 : Nat) : Int) by decide, show ((0 : Nat) : Int) ≤ 1 by decide, dayX_in (by omega)⟩
set_option maxRecDepth 20000 in
set_option maxHeartbeats 400000 in
theorem cm1_le {e : Env} {sh b fr s : Nat} {x : XX} : -9 ≤ (cmX e sh b fr s 1 0 x).1 := by
  unfold cmX
  split
  · unfold cmX
    show (-9 : Int) ≤ (if _ then -9 else _)
    split <;> decide
  · show (-9 : Int) ≤ ((0 : Nat) : Int)
    decide
set_option maxRecDepth 20000 in
set_option maxHeartbeats 400000 in
theorem s_X5_isInNext {u hd k f g l t i : Nat → Nat} {sh co d : Nat} {b b2 fr s0 : Nat} {F : Nat → Int32} {z1 z2 : Int32} (hf : fr ≤ 6) (hE : OkE (u, hd, k, f, g, l)) (hsh : sh ≤ 7) (hb : b < 128) (hs0 : s0 < 7) (hX : OkX 1500 (t, i, co, d)) (hor : iI b2 ||| iI b = iI b) :
    X5_isInNext (rn 6 t) (rn 6 u) (rn 6 hd) (rn 7 k) (rn 7 f) (rn 7 g) (rn 7 l) (rn 7 i) (rq 616 F) (iI sh) (iI co) (iI d) (iI b2) z1 z2 (iI (fI fr)) (iI s0) (iI b) = some (rn 6 t, rn 6 u, rn 6 hd, rn 7 k, rn 7 f, rn 7 g, rn 7 l, rn 7 i, rq 616 (put F 112 56 (flat (u, hd, k, f, g, l) sh (t, i, co, d))), iI sh, iI co, iI d, iI b2, 0, iI 168, iI ((dayX (u, hd, k, f, g, l) sh b fr (t, i, co, d)).2.1 s0)) := by
  have h := cm1 (e := (u, hd, k, f, g, l)) (sh := sh) (b := b) (fr := fr) (s := s0) hX
  have h9 := cm1_le (e := (u, hd, k, f, g, l)) (sh := sh) (b := b) (fr := fr) (s := s0) (x := (t, i, co, d))
  unfold X5_isInNext
  rw [hor, i1, s_X5_comesIn hf hE hsh hb hs0 (by omega) hX, Option.bind_some]
  rcases h with ⟨h1, h2⟩ | ⟨h1, h3, h2⟩
  · rw [if_pos (by rw [L0]; exact tlt h1 (by omega) (by omega)), h2]
    rfl
  · rw [if_neg (by rw [L0]; exact flt h1 (by omega) (by omega)), h2]
set_option maxRecDepth 20000 in
set_option maxHeartbeats 400000 in
theorem s_X5_isShut {u hd k f g l t i : Nat → Nat} {sh co d : Nat} {s0 : Nat} {F : Nat → Int32} {z1 z2 : Int32} (hE : OkE (u, hd, k, f, g, l)) (hsh : sh ≤ 7) (hs0 : s0 < 7) (hX : OkX 1500 (t, i, co, d)) :
    ∃ (F1 : Nat → Int32) (y1 y2 : Int32), X5_isShut (rn 6 t) (rn 6 u) (rn 6 hd) (rn 7 k) (rn 7 f) (rn 7 g) (rn 7 l) (rn 7 i) (rq 616 F) (iI sh) (iI co) (iI d) 0 z1 z2 (-9) (iI s0) = some (rn 6 t, rn 6 u, rn 6 hd, rn 7 k, rn 7 f, rn 7 g, rn 7 l, rn 7 i, rq 616 F1, iI sh, iI co, iI d, 0, y1, y2, iI (shV (u, hd, k, f, g, l) sh (t, i, co, d) s0)) ∧ Kp F F1 := by
  have b1 := xI hX s0
  have b2 := (dayX_ok (e := (u, hd, k, f, g, l)) (sh := sh) (b := 0) (fr := 6) hX).2.1 s0
  have b3 := (dayX_ok (e := (u, hd, k, f, g, l)) (sh := sh) (b := 127 - 2 ^ s0) (fr := 6) hX).2.1 s0
  unfold X5_isShut shV
  rw [rd_rn (by omega) (by omega) (by omega), Option.bind_some, Int.toNat_natCast]
  by_cases c1 : i s0 = 0
  · rw [if_pos (by rw [c1]; decide), i0, show (-9 : Int32) = iI (fI 6) by decide, s_X5_isInNext (b := 0) (b2 := 0) (by omega) hE hsh (by omega) hs0 hX (by decide), Option.bind_some]
    by_cases c2 : (dayX (u, hd, k, f, g, l) sh 0 6 (t, i, co, d)).2.1 s0 = 0
    · rw [if_pos (by rw [c2]), not2 hs0, s_X5_isInNext (b := 127 - 2 ^ s0) (b2 := 0) (by omega) hE hsh (Nat.lt_of_le_of_lt (Nat.sub_le _ _) (by omega)) hs0 hX (by rcases (by omega : s0 = 0 ∨ s0 = 1 ∨ s0 = 2 ∨ s0 = 3 ∨ s0 = 4 ∨ s0 = 5 ∨ s0 = 6) with rfl | rfl | rfl | rfl | rfl | rfl | rfl <;> decide), Option.bind_some]
      by_cases c3 : (dayX (u, hd, k, f, g, l) sh (127 - 2 ^ s0) 6 (t, i, co, d)).2.1 s0 = 1
      · rw [if_neg (by rw [c3]; exact h10), if_pos ⟨c1, c2, c3⟩]
        exact ⟨_, _, _, rfl, Kp.put2.tr Kp.put2⟩
      · rw [if_pos (by rw [show (dayX (u, hd, k, f, g, l) sh (127 - 2 ^ s0) 6 (t, i, co, d)).2.1 s0 = 0 by omega]), if_neg (fun z => c3 z.2.2)]
        exact ⟨_, _, _, rfl, Kp.put2.tr Kp.put2⟩
    · rw [if_neg (by rw [show (dayX (u, hd, k, f, g, l) sh 0 6 (t, i, co, d)).2.1 s0 = 1 by omega]; exact h10), if_neg (fun z => c2 z.2.1)]
      exact ⟨_, _, _, rfl, Kp.put2⟩
  · rw [if_neg (by rw [show i s0 = 1 by omega]; decide), if_neg (fun z => c1 z.1)]
    exact ⟨_, _, _, rfl, Kp.rf⟩
