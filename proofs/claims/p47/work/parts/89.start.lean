/-! the loop over goods; the law's first checks; the port -/
set_option maxRecDepth 20000 in
set_option maxHeartbeats 400000 in
theorem hid_back {Z : SS} {a n : Nat} (hn : n ≤ Z.2.2.1 a) : hidZ (hidZ Z a (n : Int)) a (-(n : Int)) = Z := by
  obtain ⟨⟨u, hd, k, f, g, l⟩, sh, t, i, co, d⟩ := Z
  have hn : n ≤ t a := hn
  unfold hidZ
  dsimp only
  have e1 : upN (upN hd a ((hd a : Int) + (n : Int)).toNat) a ((upN hd a ((hd a : Int) + (n : Int)).toNat a : Int) + -(n : Int)).toNat = hd := by
    rw [upN_at]
    exact upN_self (by omega)
  have e2 : upN (upN t a ((t a : Int) - (n : Int)).toNat) a ((upN t a ((t a : Int) - (n : Int)).toNat a : Int) - -(n : Int)).toNat = t := by
    rw [upN_at]
    exact upN_self (by omega)
  rw [e1, e2]
set_option maxRecDepth 20000 in
set_option maxHeartbeats 400000 in
theorem w309 {Z : SS} {S : Rw} {g n L : Nat} {xs : Nat → Int32} {a4 a5 a7 a8 x9 : Int32} {k : Int32 → Rw → Option Int32} {r : Int32 → Int32 → Rw → Option Int32} (hZ : OkS Z) (hr : ∀ S : Rw, Gp Z Z Tr S → r x9 (iI ((g + 1 : Nat) : Int)) S = some 1) (hg : g < 6) (hn : n ≤ Z.2.2.1 g) (hh : Z.1.2.1 g + n ≤ 99) (h : Gp Z Z Tr S) : X_L_law_J309 L xs k r (iI (Z.2.1 : Int)) (iI (Z.2.2.2.2.2 : Int)) a4 a5 (iI (allk (lk 6 Z.1.1 Z.2.2.1) : Int)) a7 a8 x9 (iI (g : Int)) (iI (Z.2.2.1 g : Int)) (iI (lk 6 Z.1.1 Z.2.2.1 g : Int)) (iI (Z.1.2.1 g : Int)) (iI (n : Int)) S = some 1 := by
  have ht : ∀ j, Z.2.2.1 j ≤ 99 := xT (sX hZ)
  have hu : ∀ j, Z.1.1 j ≤ 9 := oU (sE hZ)
  have t1 := ht g
  have t2 : (hidZ Z g (n : Int)).2.2.1 g = Z.2.2.1 g - n := by
    show upN Z.2.2.1 g _ g = _
    rw [upN_at]
    omega
  have t3 : (hidZ Z g (n : Int)).1.2.1 g = Z.1.2.1 g + n := by
    show upN Z.1.2.1 g _ g = _
    rw [upN_at]
    omega
  have l0 := lk_le (fr := 6) (t := Z.2.2.1) hu g
  have l1 := lk_le (fr := 6) (t := (hidZ Z g (n : Int)).2.2.1) hu g
  have l2 : lk 6 Z.1.1 Z.2.2.1 g ≤ lk 6 Z.1.1 (hidZ Z g (n : Int)).2.2.1 g := by
    rw [lk_eq hg, lk_eq hg, t2]
    omega
  have l3 : allk (lk 6 Z.1.1 Z.2.2.1) ≤ allk (lk 6 Z.1.1 (hidZ Z g (n : Int)).2.2.1) := by
    refine allk_up (fun j => ?_)
    show upN Z.2.2.1 g _ j ≤ _
    by_cases c : j = g
    · rw [c, upN_at]
      omega
    · rw [upN_ne c]
      exact Nat.le_refl _
  have l4 := allk_le (t := (hidZ Z g (n : Int)).2.2.1) hu
  unfold X_L_law_J309
  obtain ⟨S1, e, k1, hZ1⟩ := t_hides (n := (n : Int)) hg (by omega) (by omega) (by omega) (by omega) h hZ
  rw [e, Option.bind_some, if_pos (show iI ((Z.2.2.1 g : Int) - (n : Int)) = iI (Z.2.2.1 g : Int) - iI (n : Int) from (iI_sub _ _).symm)]
  obtain ⟨S2, e, k2⟩ := t_good3 hg k1 hZ1
  rw [e, Option.bind_some, if_neg (show ¬ iI (lk 6 (hidZ Z g (n : Int)).1.1 (hidZ Z g (n : Int)).2.2.1 g : Int) < iI (lk 6 Z.1.1 Z.2.2.1 g : Int) from flt (show (lk 6 Z.1.1 Z.2.2.1 g : Int) ≤ (lk 6 Z.1.1 (hidZ Z g (n : Int)).2.2.1 g : Int) by omega) (by omega) (show (lk 6 Z.1.1 (hidZ Z g (n : Int)).2.2.1 g : Int) < 2147483648 by omega))]
  obtain ⟨S3, e, k3⟩ := t_good2 hg k2 hZ1
  rw [e, Option.bind_some, if_pos (show iI ((hidZ Z g (n : Int)).1.2.1 g : Int) = iI (Z.1.2.1 g : Int) + iI (n : Int) by rw [iI_add, t3]; rfl)]
  obtain ⟨S4, e, k4⟩ := t_count4 k3 hZ1
  rw [e, Option.bind_some, if_neg (show ¬ iI (allk (lk 6 (hidZ Z g (n : Int)).1.1 (hidZ Z g (n : Int)).2.2.1) : Int) < iI (allk (lk 6 Z.1.1 Z.2.2.1) : Int) from flt (show (allk (lk 6 Z.1.1 Z.2.2.1) : Int) ≤ (allk (lk 6 Z.1.1 (hidZ Z g (n : Int)).2.2.1) : Int) by omega) (by omega) (show (allk (lk 6 Z.1.1 (hidZ Z g (n : Int)).2.2.1) : Int) < 2147483648 by omega))]
  obtain ⟨S5, e, k5, hZ5⟩ := t_hides (Z := hidZ Z g (n : Int)) (a := g) (n := -(n : Int)) hg (by omega) (by omega) (by omega) (by omega) k4 hZ1
  rw [hid_back hn] at k5
  rw [iI_neg, e, Option.bind_some, if_pos (show iI (((hidZ Z g (n : Int)).2.2.1 g : Int) - -(n : Int)) = iI (Z.2.2.1 g : Int) from iI_c (by omega))]
  obtain ⟨S6, e, k6⟩ := t_good3 hg k5 hZ
  rw [e, Option.bind_some, if_pos rfl]
  obtain ⟨S7, e, k7⟩ := t_restore k6
  rw [e, Option.bind_some, if_pos rfl]
  unfold X_L_law_J402
  rw [iI_s]
  exact hr S7 k7
set_option maxRecDepth 20000 in
set_option maxHeartbeats 400000 in
theorem pick_v (x : Int32) {b : Nat} (hb : 1 ≤ b) (hb2 : b ≤ 1000) : ∃ v : Nat, v < b ∧ L_pick x (iI (b : Int)) = some (iI (v : Int)) := by
  have e1 := Jvm.Kit.i32_mask x 2147483647 (k := 31) (by decide) (by decide)
  obtain ⟨a, ha, e⟩ : ∃ a : Nat, a < 2147483648 ∧ (x &&& 2147483647) = iI (a : Int) := ⟨(x.toInt % 2 ^ 31).toNat, by omega, by
    rw [← iI_of (x &&& 2147483647), e1]
    exact iI_c (by omega)⟩
  have hd : a / b * b ≤ a := Nat.div_mul_le_self a b
  have hm : a - a / b * b < b := by
    have h1 := Nat.mod_lt a hb
    have h2 := Nat.div_add_mod a b
    rw [Nat.mul_comm] at h2
    omega
  refine ⟨a - a / b * b, hm, ?_⟩
  unfold L_pick
  rw [if_neg (show ¬ iI (b : Int) = (0 : Int32) from ne0 (by omega) (by omega)), e, iI_div (by omega) (by omega) (by omega) (by omega), iI_mul, iI_sub]
  refine sI ?_
  rw [show ((a : Int) / (b : Int)) = ((a / b : Nat) : Int) from rfl, show ((a / b : Nat) : Int) * (b : Int) = ((a / b * b : Nat) : Int) from rfl]
  omega
set_option maxRecDepth 20000 in
set_option maxHeartbeats 400000 in
theorem cell_v {L : Nat} {xs : Nat → Int32} (hL : L ≤ 260) {n : Nat} (hn : n ≤ 1000) : ∃ v : Int32, X_L_cell L xs (iI (n : Int)) = some v := by
  unfold X_L_cell
  rw [iI_len]
  by_cases c : L ≤ n
  · rw [if_pos (tle (by omega) (by omega) (by omega))]
    exact ⟨_, rfl⟩
  · rw [if_neg (fle (by omega) (by omega) (by omega)), iI_nat (by omega) (by omega), if_pos ⟨p9 (by omega) (by omega), by omega⟩]
    exact ⟨_, rfl⟩
set_option maxRecDepth 20000 in
set_option maxHeartbeats 400000 in
theorem w281 {Z : SS} {S : Rw} {g L : Nat} {xs : Nat → Int32} {a4 a5 a7 a8 x9 : Int32} {k : Int32 → Rw → Option Int32} {r : Int32 → Int32 → Rw → Option Int32} (hL : L ≤ 260) (hZ : OkS Z) (hr : ∀ S : Rw, Gp Z Z Tr S → r x9 (iI ((g + 1 : Nat) : Int)) S = some 1) (hg : g < 6) (h : Gp Z Z Tr S) : X_L_law_J281 L xs k r (iI (Z.2.1 : Int)) (iI (Z.2.2.2.2.2 : Int)) a4 a5 (iI (allk (lk 6 Z.1.1 Z.2.2.1) : Int)) a7 a8 x9 (iI (g : Int)) (iI (Z.2.2.1 g : Int)) (iI (lk 6 Z.1.1 Z.2.2.1 g : Int)) (iI (Z.1.2.1 g : Int)) S = some 1 := by
  have ht : ∀ j, Z.2.2.1 j ≤ 99 := xT (sX hZ)
  have hh : ∀ j, Z.1.2.1 j ≤ 99 := hZ.2.1
  have t1 := ht g
  have h1 := hh g
  unfold X_L_law_J281
  obtain ⟨v, e⟩ := cell_v (xs := xs) hL (n := 23 + g) (by omega)
  rw [show (23 : Int32) + iI (g : Int) = iI ((23 + g : Nat) : Int) by rw [show (23 : Int32) = iI 23 by decide, iI_add]; rfl, e, Option.bind_some, iI_s]
  obtain ⟨n, hn, e⟩ := pick_v v (b := Z.2.2.1 g + 1) (by omega) (by omega)
  rw [e, Option.bind_some, L99, iI_add]
  by_cases c : 99 < Z.1.2.1 g + n
  · rw [if_pos (show iI 99 < iI ((Z.1.2.1 g : Int) + (n : Int)) from tlt (by omega) (by omega) (by omega))]
    unfold X_L_law_J402
    rw [iI_s]
    exact hr S h
  · rw [if_neg (show ¬ iI 99 < iI ((Z.1.2.1 g : Int) + (n : Int)) from flt (by omega) (by omega) (by omega))]
    exact w309 hZ hr hg (by omega) (by omega) h
set_option maxRecDepth 20000 in
set_option maxHeartbeats 400000 in
theorem w238 {Z : SS} {S : Rw} {g L : Nat} {xs : Nat → Int32} {a4 a5 a7 a8 x9 : Int32} {k : Int32 → Rw → Option Int32} {r : Int32 → Int32 → Rw → Option Int32} (hL : L ≤ 260) (hZ : OkS Z) (hr : ∀ S : Rw, Gp Z Z Tr S → r x9 (iI ((g + 1 : Nat) : Int)) S = some 1) (hg : g < 6) (h : Gp Z Z Tr S) : X_L_law_J238 L xs k r (iI (Z.2.1 : Int)) (iI (Z.2.2.2.2.2 : Int)) a4 a5 (iI (allk (lk 6 Z.1.1 Z.2.2.1) : Int)) a7 a8 x9 (iI (g : Int)) (iI (Z.2.2.1 g : Int)) (iI (lk 6 Z.1.1 Z.2.2.1 g : Int)) (iI (Z.1.2.1 g : Int)) S = some 1 := by
  have hu : ∀ j, Z.1.1 j ≤ 9 := oU (sE hZ)
  have l0 := lk_le (fr := 6) (t := Z.2.2.1) hu g
  unfold X_L_law_J238
  obtain ⟨S1, v, e, k1, v1, v2⟩ := t_deepest2 h hZ
  have v3 := v2 g hg
  rw [e, Option.bind_some, if_neg (show ¬ iI (v : Int) < iI (lk 6 Z.1.1 Z.2.2.1 g : Int) from flt (by omega) (by omega) (by omega))]
  obtain ⟨S2, e, k2⟩ := t_thereIn (n := 0) hg (by omega) k1 hZ
  rw [show A_thereIn S1 (iI (g : Int)) 0 = A_thereIn S1 (iI (g : Int)) (iI ((0 : Nat) : Int)) from rfl, e, Option.bind_some, if_pos (show iI ((daysX Z.1 Z.2.1 0 6 0 Z.2.2).1 g : Int) = iI (Z.2.2.1 g : Int) from rfl)]
  obtain ⟨S3, e, k3⟩ := t_deepest3 k2 hZ
  rw [e, Option.bind_some, bitN (bits_lt (by omega)) (by omega), bits0 hg]
  by_cases c : plV Z.1.1 Z.2.2.1 g = 0
  · rw [if_pos c, if_neg (show ¬ iI ((0 : Nat) : Int) = (1 : Int32) by decide)]
    exact w281 hL hZ hr hg k3
  · have c1 : lk 6 Z.1.1 Z.2.2.1 g = 0 := by
      unfold plV at c
      rw [lk_eq hg]
      by_cases q : Z.2.2.1 g ≤ 7 * Z.1.1 g
      · rw [if_pos q] at c
        exact absurd rfl c
      · omega
    rw [if_neg c, if_pos z11, if_pos (show iI (lk 6 Z.1.1 Z.2.2.1 g : Int) ≤ (0 : Int32) by rw [c1]; decide)]
    exact w281 hL hZ hr hg k3
set_option maxRecDepth 20000 in
set_option maxHeartbeats 400000 in
theorem w195 {Z : SS} {S : Rw} {g L : Nat} {xs : Nat → Int32} {a4 a5 a7 a8 x9 : Int32} {k : Int32 → Rw → Option Int32} {r : Int32 → Int32 → Rw → Option Int32} (hL : L ≤ 260) (hZ : OkS Z) (hr : ∀ S : Rw, Gp Z Z Tr S → r x9 (iI ((g + 1 : Nat) : Int)) S = some 1) (hg : g < 6) (h : Gp Z Z Tr S) : X_L_law_J195 L xs k r (iI (Z.2.1 : Int)) (iI (Z.2.2.2.2.2 : Int)) a4 a5 (iI (allk (lk 6 Z.1.1 Z.2.2.1) : Int)) a7 a8 x9 (iI (g : Int)) (iI (Z.2.2.1 g : Int)) (iI (lk 6 Z.1.1 Z.2.2.1 g : Int)) (iI (Z.1.2.1 g : Int)) S = some 1 := by
  have hu : ∀ j, Z.1.1 j ≤ 9 := oU (sE hZ)
  have ht : ∀ j, Z.2.2.1 j ≤ 99 := xT (sX hZ)
  have u1 := hu g
  have t1 := ht g
  have l0 := lk_le (fr := 6) (t := Z.2.2.1) hu g
  have l1 := lk_eq (u := Z.1.1) (t := Z.2.2.1) hg
  have key : ∀ {S : Rw}, Gp Z Z Tr S → X_L_law_J218 L xs k r (iI (Z.2.1 : Int)) (iI (Z.2.2.2.2.2 : Int)) a4 a5 (iI (allk (lk 6 Z.1.1 Z.2.2.1) : Int)) a7 a8 x9 (iI (g : Int)) (iI (Z.2.2.1 g : Int)) (iI (lk 6 Z.1.1 Z.2.2.1 g : Int)) (iI (Z.1.2.1 g : Int)) S = some 1 := by
    intro S h
    unfold X_L_law_J218
    by_cases c : lk 6 Z.1.1 Z.2.2.1 g = 0
    · rw [if_pos (show iI (lk 6 Z.1.1 Z.2.2.1 g : Int) = (0 : Int32) by rw [c]; decide)]
      obtain ⟨S1, e, k1⟩ := t_good1 hg h hZ
      rw [e, Option.bind_some, L7, iI_mul, if_neg (show ¬ iI (Z.2.2.1 g : Int) < iI (7 * (Z.1.1 g : Int)) from flt (by omega) (by omega) (by omega))]
      exact w238 hL hZ hr hg k1
    · rw [if_neg (show ¬ iI (lk 6 Z.1.1 Z.2.2.1 g : Int) = (0 : Int32) from ne0 (by omega) (by omega))]
      exact w238 hL hZ hr hg h
  unfold X_L_law_J195
  by_cases c : lk 6 Z.1.1 Z.2.2.1 g = 0
  · rw [if_pos (show iI (lk 6 Z.1.1 Z.2.2.1 g : Int) ≤ (0 : Int32) by rw [c]; decide)]
    exact key h
  · rw [if_neg (show ¬ iI (lk 6 Z.1.1 Z.2.2.1 g : Int) ≤ (0 : Int32) by rw [L0]; exact fle (by omega) (by omega) (by omega))]
    obtain ⟨S1, e, k1⟩ := t_good1 hg h hZ
    rw [e, Option.bind_some, L7, iI_mul, iI_add, if_pos (show iI ((lk 6 Z.1.1 Z.2.2.1 g : Int) + (Z.2.2.1 g : Int)) = iI (7 * (Z.1.1 g : Int)) from iI_c (by omega))]
    exact key k1
set_option maxRecDepth 20000 in
set_option maxHeartbeats 400000 in
theorem w154 {Z : SS} {L : Nat} {xs : Nat → Int32} {a4 a5 a7 a8 : Int32} {k : Int32 → Rw → Option Int32} (hL : L ≤ 260) (hZ : OkS Z) (hk : ∀ S : Rw, Gp Z Z Tr S → k (iI (allk (lk 6 Z.1.1 Z.2.2.1) : Int)) S = some 1) : ∀ (r g n : Nat) (x y : Int32) (S : Rw), x = iI (g : Int) → y = iI (sumL (lk 6 Z.1.1 Z.2.2.1) g : Int) → g + r = 6 → r < n → Gp Z Z Tr S → X_L_law_L154 k L xs (iI (Z.2.1 : Int)) (iI (Z.2.2.2.2.2 : Int)) a4 a5 (iI (allk (lk 6 Z.1.1 Z.2.2.1) : Int)) a7 a8 n y x S = some 1 := by
  intro r
  induction r with
  | zero =>
    intro g n x y S hx hy hg hn h
    obtain ⟨n, rfl⟩ : ∃ m, n = m + 1 := ⟨n - 1, by omega⟩
    subst hx; subst hy
    obtain rfl : g = 6 := by omega
    rw [X_L_law_L154, if_pos (show (6 : Int32) ≤ iI ((6 : Nat) : Int) by decide), sumL6]
    exact hk S h
  | succ r ih =>
    intro g n x y S hx hy hg hn h
    obtain ⟨n, rfl⟩ : ∃ m, n = m + 1 := ⟨n - 1, by omega⟩
    subst hx; subst hy
    have g6 : g < 6 := by omega
    rw [X_L_law_L154, if_neg (show ¬ (6 : Int32) ≤ iI (g : Int) by rw [L6]; exact fle (by omega) (by omega) (by omega))]
    obtain ⟨S1, e, k1⟩ := t_good0 g6 h hZ
    rw [e, Option.bind_some]
    obtain ⟨S2, e, k2⟩ := t_good3 g6 k1 hZ
    rw [e, Option.bind_some]
    obtain ⟨S3, e, k3⟩ := t_good2 g6 k2 hZ
    rw [e, Option.bind_some]
    refine w195 hL hZ (fun S h => ?_) g6 k3
    exact ih (g + 1) n _ _ S rfl (by rw [iI_add]; rfl) (by omega) (by omega) h
set_option maxRecDepth 20000 in
set_option maxHeartbeats 400000 in
theorem w148 {Z : SS} {S : Rw} {m L : Nat} {xs : Nat → Int32} (hL : L ≤ 260) (hZ : OkS Z) (hm1 : 1 ≤ m) (hm : m ≤ 60) (h : Gp Z Z Tr S) : X_L_law_J148 L xs (iI (Z.2.1 : Int)) (iI (Z.2.2.2.2.2 : Int)) (iI (Z.2.2.2.2.1 : Int)) (iI (mk Z.2.2.2.1 : Int)) (iI (allk (lk 6 Z.1.1 Z.2.2.1) : Int)) (iI (m : Int)) (iI (mk (daysX Z.1 Z.2.1 0 6 1 Z.2.2).2.1 : Int)) S = some 1 := by
  unfold X_L_law_J148
  exact w154 hL hZ (fun S h => by rw [if_pos rfl]; exact w417 hZ hm1 hm h) 6 0 1000 0 0 S (by decide) (show (0 : Int32) = iI ((0 : Nat) : Int) from z00.symm) (by omega) (by omega) h
set_option maxRecDepth 20000 in
set_option maxHeartbeats 400000 in
theorem w86 {Z : SS} {S : Rw} {m L : Nat} {xs : Nat → Int32} (hL : L ≤ 260) (hZ : OkS Z) (hm1 : 1 ≤ m) (hm : m ≤ 60) (h : Gp Z Z Tr S) : X_L_law_J86 L xs (iI (Z.2.1 : Int)) (iI (Z.2.2.2.2.2 : Int)) (iI (Z.2.2.2.2.1 : Int)) (iI (mk Z.2.2.2.1 : Int)) (iI (allk (lk 6 Z.1.1 Z.2.2.1) : Int)) (iI (m : Int)) (iI (mk (daysX Z.1 Z.2.1 0 6 1 Z.2.2).2.1 : Int)) S = some 1 := by
  have hsh := sSh hZ
  have hu : ∀ j, Z.1.1 j ≤ 9 := oU (sE hZ)
  have hn : ∀ j, (daysX Z.1 Z.2.1 0 6 1 Z.2.2).2.1 j ≤ 1 := dI (sX hZ)
  have hout : OutI Z.2.1 (daysX Z.1 Z.2.1 0 6 1 Z.2.2).2.1 := daysX_out 1 Z.2.2 (sO hZ)
  have td1 := td_le Z.2.2.2.2.2
  obtain ⟨p, rfl⟩ : ∃ p, m = p + 1 := ⟨m - 1, by omega⟩
  have hw := wnX_succ (e := Z.1) (sh := Z.2.1) (b := 0) (fr := 6) p (allk (lk 6 Z.1.1 Z.2.2.1)) Z.2.2
  have hw1 := wnX_le (sh := Z.2.1) (b := 0) hu (p + 1) (allk (lk 6 Z.1.1 Z.2.2.1)) Z.2.2
  have hw2 := allk_le (t := Z.2.2.1) hu
  unfold X_L_law_J86
  obtain ⟨S1, e, k1⟩ := t_shut h hZ
  rw [e, Option.bind_some, if_pos (show (iI (bitsV (shV Z.1 Z.2.1 Z.2.2) Z.2.1 0 0 : Int) &&& iI (mk (daysX Z.1 Z.2.1 0 6 1 Z.2.2).2.1 : Int)) = (0 : Int32) from and0 (bits_lt hsh) (mk_lt hn) (fun s hs => by
    rw [mk_bit hn hs]
    by_cases c : s < Z.2.1
    · rw [bits0 c]
      by_cases c2 : shV Z.1 Z.2.1 Z.2.2 s = 0
      · left
        rw [if_pos c2]
      · right
        unfold shV at c2
        by_cases q : Z.2.2.2.1 s = 0 ∧ (dayX Z.1 Z.2.1 0 6 Z.2.2).2.1 s = 0 ∧ (dayX Z.1 Z.2.1 (127 - 2 ^ s) 6 Z.2.2).2.1 s = 1
        · exact q.2.1
        · rw [if_neg q] at c2
          exact absurd rfl c2
    · right
      exact hout s (by omega)))]
  obtain ⟨S2, e, k2⟩ := t_want (n := 0) (by omega) k1 hZ
  rw [show A_want S1 0 = A_want S1 (iI ((0 : Nat) : Int)) from rfl, e, Option.bind_some, if_pos (show iI ((wnX Z.1 Z.2.1 0 6 0 (allk (lk 6 Z.1.1 Z.2.2.1)) Z.2.2).1 : Int) = iI (allk (lk 6 Z.1.1 Z.2.2.1) : Int) from rfl)]
  obtain ⟨S3, e, k3⟩ := t_want (n := p + 1) (by omega) k2 hZ
  rw [e, Option.bind_some]
  obtain ⟨S4, e, k4⟩ := t_want (n := p) (by omega) k3 hZ
  rw [show A_want S3 (iI ((p + 1 : Nat) : Int) - 1) = A_want S3 (iI (p : Int)) by rw [L1, iI_sub, show ((p + 1 : Nat) : Int) - 1 = (p : Int) by omega], e, Option.bind_some, if_neg (show ¬ iI ((wnX Z.1 Z.2.1 0 6 (p + 1) (allk (lk 6 Z.1.1 Z.2.2.1)) Z.2.2).1 : Int) < iI ((wnX Z.1 Z.2.1 0 6 p (allk (lk 6 Z.1.1 Z.2.2.1)) Z.2.2).1 : Int) from flt (by omega) (by omega) (by omega))]
  obtain ⟨S5, e, k5⟩ := t_tide (n := 0) (by omega) k4 hZ
  rw [show A_tide S4 0 = A_tide S4 (iI ((0 : Nat) : Int)) from rfl, e, Option.bind_some, if_neg (show ¬ (4 : Int32) < iI (td (Z.2.2.2.2.2 + 0) : Int) by rw [Nat.add_zero, L4]; exact flt (by omega) (by omega) (by omega))]
  obtain ⟨S6, e, k6⟩ := t_tide (n := 8) (by omega) k5 hZ
  rw [show A_tide S5 8 = A_tide S5 (iI ((8 : Nat) : Int)) from rfl, e, Option.bind_some]
  obtain ⟨S7, e, k7⟩ := t_tide (n := 0) (by omega) k6 hZ
  rw [show A_tide S6 0 = A_tide S6 (iI ((0 : Nat) : Int)) from rfl, e, Option.bind_some, if_pos (show iI (td (Z.2.2.2.2.2 + 8) : Int) = iI (td (Z.2.2.2.2.2 + 0) : Int) by rw [td_eight, Nat.add_zero])]
  exact w148 hL hZ hm1 hm k7
set_option maxRecDepth 20000 in
set_option maxHeartbeats 400000 in
theorem w15 {Z : SS} {S : Rw} {L : Nat} {xs : Nat → Int32} (hL : L ≤ 260) (hZ : OkS Z) (h : Pw Z S) : X_L_law_J15 L xs S = some 1 := by
  have hsh := sSh hZ
  have hi : ∀ j, Z.2.2.2.1 j ≤ 1 := xI (sX hZ)
  have hn : ∀ j, (daysX Z.1 Z.2.1 0 6 1 Z.2.2).2.1 j ≤ 1 := dI (sX hZ)
  unfold X_L_law_J15
  obtain ⟨S1, e, k1⟩ := p_count0 h
  rw [e, Option.bind_some]
  obtain ⟨S2, e, k2⟩ := p_count1 k1
  rw [e, Option.bind_some]
  obtain ⟨S3, e, k3⟩ := p_count2 k2
  rw [e, Option.bind_some]
  obtain ⟨S4, e, k4⟩ := p_count3 k3
  rw [e, Option.bind_some]
  obtain ⟨S5, e, k5⟩ := p_count4 k4 hZ
  rw [e, Option.bind_some]
  obtain ⟨v, e⟩ := cell_v (xs := xs) hL (n := 22) (by omega)
  rw [show X_L_cell L xs 22 = X_L_cell L xs (iI ((22 : Nat) : Int)) from rfl, e, Option.bind_some]
  obtain ⟨m, hm, e⟩ := pick_v v (b := 30) (by omega) (by omega)
  rw [show L_pick v 30 = L_pick v (iI ((30 : Nat) : Int)) from rfl, e, Option.bind_some]
  obtain ⟨S6, w, e, k6⟩ := p_image k5
  rw [e, Option.bind_some]
  obtain ⟨S7, e, k7⟩ := t_then1 (n := 1) (by omega) k6 hZ
  rw [show A_then S6 1 1 = A_then S6 (iI ((1 : Nat) : Int)) 1 from rfl, e, Option.bind_some, if_pos (show (iI (mk Z.2.2.2.1 : Int) &&& (iI (mk (daysX Z.1 Z.2.1 0 6 1 Z.2.2).2.1 : Int) ^^^ (-1 : Int32))) = (0 : Int32) from andnI hi hn (fun j hj => daysX_mono 1 _ hj))]
  rw [show (1 : Int32) + iI (m : Int) = iI ((1 + m : Nat) : Int) by rw [L1, iI_add]; rfl]
  exact w86 hL hZ (by omega) (by omega) k7
/-! the port -/
def Pz (S : Rw) : Prop := ∃ Z : SS, Pw Z S ∧ OkS Z
set_option maxRecDepth 20000 in
set_option maxHeartbeats 400000 in
theorem wrn {T : List Int32} {i x : Int32} (k : Nat) (hi : i = iI (k : Int)) (hk : k < T.length) (hT : T.length ≤ 100) : ∃ T1 : List Int32, wr T i x = some T1 ∧ T1.length = T.length := by
  subst hi
  refine ⟨_, wrL hk (by omega), List.length_set ..⟩
set_option maxRecDepth 20000 in
set_option maxHeartbeats 400000 in
theorem p_tell {S : Rw} {t : List Int32} (ht : t.length ≤ 100) (h : Pz S) : ∃ u : Rw × Int32, X_L_tell S t = some u ∧ Pz u.1 := by
  have loop : ∀ (r j n : Nat) (x : Int32) (S : Rw), x = iI (j : Int) → j + r = t.length → r < n → Pz S → ∃ u : Rw × Int32, X_L_tell_L8 (fun S_5 => (A_harbour S_5).bind fun u_6 => some (u_6.1, u_6.2)) (Int32.ofNat t.length) t n x S = some u ∧ Pz u.1 := by
    intro r
    induction r with
    | zero =>
      intro j n x S hx hj hn h
      obtain ⟨n, rfl⟩ : ∃ m, n = m + 1 := ⟨n - 1, by omega⟩
      subst hx
      obtain ⟨Z, h, hZ⟩ := h
      obtain ⟨Z1, S1, v, e, k1, hZ1⟩ := p_harbour h hZ
      rw [X_L_tell_L8, iI_len, if_pos (tle (by omega) (by omega) (by omega)), e, Option.bind_some]
      exact ⟨_, rfl, Z1, k1, hZ1⟩
    | succ r ih =>
      intro j n x S hx hj hn h
      obtain ⟨n, rfl⟩ : ∃ m, n = m + 1 := ⟨n - 1, by omega⟩
      subst hx
      obtain ⟨Z, h, hZ⟩ := h
      rw [X_L_tell_L8, show (if Int32.ofNat t.length ≤ iI (j : Int) then _ else _) = _ from if_neg (show ¬ Int32.ofNat t.length ≤ iI (j : Int) by rw [iI_len]; exact fle (by omega) (by omega) (by omega)), rdL (by omega) (by omega), Option.bind_some]
      obtain ⟨S1, v, e, k1⟩ := p_feed (t.getD j 0) h
      rw [e, Option.bind_some, iI_s]
      exact ih (j + 1) n _ S1 rfl (by omega) (by omega) ⟨Z, k1, hZ⟩
  unfold X_L_tell
  exact loop t.length 0 1000 0 S (by decide) (by omega) (by omega) h
set_option maxRecDepth 20000 in
set_option maxHeartbeats 400000 in
theorem p_ship {S : Rw} {p1 p2 p3 p4 : Int32} (h : Pz S) : ∃ u : Rw × Int32, X_L_ship p1 p2 p3 p4 S = some u ∧ Pz u.1 := by
  unfold X_L_ship
  obtain ⟨t1, e, l1⟩ := wrn (T := List.replicate 7 (0 : Int32)) (i := 0) (x := 115) 0 (by decide) (by decide) (by decide)
  rw [e, Option.bind_some]
  have l1 : t1.length = 7 := l1
  obtain ⟨t2, e, l2⟩ := wrn (T := t1) (i := 1) (x := 48 + p1) 1 (by decide) (by omega) (by omega)
  rw [e, Option.bind_some]
  obtain ⟨t3, e, l3⟩ := wrn (T := t2) (i := 2) (x := 48 + p2) 2 (by decide) (by omega) (by omega)
  rw [e, Option.bind_some]
  obtain ⟨t4, e, l4⟩ := wrn (T := t3) (i := 3) (x := 48 + p3) 3 (by decide) (by omega) (by omega)
  rw [e, Option.bind_some]
  obtain ⟨t5, e, l5⟩ := wrn (T := t4) (i := 4) (x := 48 + p4 / 10) 4 (by decide) (by omega) (by omega)
  rw [e, Option.bind_some]
  obtain ⟨t6, e, l6⟩ := wrn (T := t5) (i := 5) (x := 48 + (p4 - p4 / 10 * 10)) 5 (by decide) (by omega) (by omega)
  rw [e, Option.bind_some]
  obtain ⟨t7, e, l7⟩ := wrn (T := t6) (i := 6) (x := 59) 6 (by decide) (by omega) (by omega)
  rw [e, Option.bind_some]
  obtain ⟨u, e, k1⟩ := p_tell (t := t7) (by omega) h
  rw [e, Option.bind_some]
  exact ⟨_, rfl, k1⟩
set_option maxRecDepth 20000 in
set_option maxHeartbeats 400000 in
theorem p_loop2 {L : Nat} {xs : Nat → Int32} {p2 : Int32} {k : Rw → Option Rw} (hL : L ≤ 260) (hk : ∀ S : Rw, Pz S → ∃ S1 : Rw, k S = some S1 ∧ Pz S1) : ∀ (r g n : Nat) (x : Int32) (S : Rw), x = iI (g : Int) → g + r = 6 → r < n → Pz S → ∃ S1 : Rw, X_L_port_L2 k L xs p2 n x S = some S1 ∧ Pz S1 := by
  intro r
  induction r with
  | zero =>
    intro g n x S hx hg hn h
    obtain ⟨n, rfl⟩ : ∃ m, n = m + 1 := ⟨n - 1, by omega⟩
    subst hx
    rw [X_L_port_L2, if_pos (show (6 : Int32) ≤ iI (g : Int) by rw [L6]; exact tle (by omega) (by omega) (by omega))]
    exact hk S h
  | succ r ih =>
    intro g n x S hx hg hn h
    obtain ⟨n, rfl⟩ : ∃ m, n = m + 1 := ⟨n - 1, by omega⟩
    subst hx
    have tail : ∀ (v : Int32) (S : Rw), Pz S → ∃ S1 : Rw, ((L_pick (v >>> ((12 : Int32) &&& 31)) 3).bind fun u_64 => if u_64 = (0 : Int32) then (A_good S (iI (g : Int)) 0).bind fun u_66 => (L_pick (v >>> ((14 : Int32) &&& 31)) (u_66.2 + 1)).bind fun u_68 => (A_hides u_66.1 (iI (g : Int)) u_68).bind fun u_70 => X_L_port_L2 k L xs p2 n (iI (g : Int) + 1) u_70.1 else X_L_port_L2 k L xs p2 n (iI (g : Int) + 1) S) = some S1 ∧ Pz S1 := by
      intro v S h
      obtain ⟨a, ha, e⟩ := pick_v (v >>> ((12 : Int32) &&& 31)) (b := 3) (by omega) (by omega)
      rw [show L_pick (v >>> ((12 : Int32) &&& 31)) 3 = L_pick (v >>> ((12 : Int32) &&& 31)) (iI ((3 : Nat) : Int)) from rfl, e, Option.bind_some]
      by_cases c : iI (a : Int) = (0 : Int32)
      · rw [if_pos c]
        obtain ⟨Z, h, hZ⟩ := h
        obtain ⟨S1, e, k1⟩ := p_good0 (a := g) (by omega) h
        have ht : ∀ j, Z.2.2.1 j ≤ 99 := xT (sX hZ)
        have t1 := ht g
        rw [e, Option.bind_some, iI_s]
        obtain ⟨b, hb, e⟩ := pick_v (v >>> ((14 : Int32) &&& 31)) (b := Z.2.2.1 g + 1) (by omega) (by omega)
        rw [e, Option.bind_some]
        obtain ⟨Z2, S2, w, e, k2, hZ2⟩ := p_hides (iI (b : Int)) (a := g) (by omega) k1 hZ
        rw [e, Option.bind_some, iI_s]
        exact ih (g + 1) n _ S2 rfl (by omega) (by omega) ⟨Z2, k2, hZ2⟩
      · rw [if_neg c, iI_s]
        exact ih (g + 1) n _ S rfl (by omega) (by omega) h
    have mid : ∀ (v : Int32) (T : List Int32) (b : Nat), T.length = 9 → 1 ≤ b → b ≤ 1000 → ∃ S1 : Rw, ((L_pick v (iI (b : Int))).bind fun u_42 => (wr T 2 (48 + u_42)).bind fun t_44 => (L_pick (v >>> ((4 : Int32) &&& 31)) 10).bind fun u_46 => (wr t_44 3 (48 + u_46)).bind fun t_48 => (wr t_48 4 59).bind fun t_50 => (wr t_50 5 117).bind fun t_52 => (wr t_52 6 (48 + iI (g : Int))).bind fun t_54 => (L_pick (v >>> ((8 : Int32) &&& 31)) 6).bind fun u_56 => (wr t_54 7 (48 + u_56)).bind fun t_58 => (wr t_58 8 59).bind fun t_60 => (X_L_tell S t_60).bind fun u_62 => (L_pick (v >>> ((12 : Int32) &&& 31)) 3).bind fun u_64 => if u_64 = (0 : Int32) then (A_good u_62.1 (iI (g : Int)) 0).bind fun u_66 => (L_pick (v >>> ((14 : Int32) &&& 31)) (u_66.2 + 1)).bind fun u_68 => (A_hides u_66.1 (iI (g : Int)) u_68).bind fun u_70 => X_L_port_L2 k L xs p2 n (iI (g : Int) + 1) u_70.1 else X_L_port_L2 k L xs p2 n (iI (g : Int) + 1) u_62.1) = some S1 ∧ Pz S1 := by
      intro v T b hT hb1 hb
      obtain ⟨a, ha, e⟩ := pick_v v (b := b) hb1 hb
      rw [e, Option.bind_some]
      obtain ⟨t1, e, l1⟩ := wrn (T := T) (i := 2) (x := 48 + iI (a : Int)) 2 (by decide) (by omega) (by omega)
      rw [e, Option.bind_some]
      obtain ⟨a, ha, e⟩ := pick_v (v >>> ((4 : Int32) &&& 31)) (b := 10) (by omega) (by omega)
      rw [show L_pick (v >>> ((4 : Int32) &&& 31)) 10 = L_pick (v >>> ((4 : Int32) &&& 31)) (iI ((10 : Nat) : Int)) from rfl, e, Option.bind_some]
      obtain ⟨t2, e, l2⟩ := wrn (T := t1) (i := 3) (x := 48 + iI (a : Int)) 3 (by decide) (by omega) (by omega)
      rw [e, Option.bind_some]
      obtain ⟨t3, e, l3⟩ := wrn (T := t2) (i := 4) (x := 59) 4 (by decide) (by omega) (by omega)
      rw [e, Option.bind_some]
      obtain ⟨t4, e, l4⟩ := wrn (T := t3) (i := 5) (x := 117) 5 (by decide) (by omega) (by omega)
      rw [e, Option.bind_some]
      obtain ⟨t5, e, l5⟩ := wrn (T := t4) (i := 6) (x := 48 + iI (g : Int)) 6 (by decide) (by omega) (by omega)
      rw [e, Option.bind_some]
      obtain ⟨a, ha, e⟩ := pick_v (v >>> ((8 : Int32) &&& 31)) (b := 6) (by omega) (by omega)
      rw [show L_pick (v >>> ((8 : Int32) &&& 31)) 6 = L_pick (v >>> ((8 : Int32) &&& 31)) (iI ((6 : Nat) : Int)) from rfl, e, Option.bind_some]
      obtain ⟨t6, e, l6⟩ := wrn (T := t5) (i := 7) (x := 48 + iI (a : Int)) 7 (by decide) (by omega) (by omega)
      rw [e, Option.bind_some]
      obtain ⟨t7, e, l7⟩ := wrn (T := t6) (i := 8) (x := 59) 8 (by decide) (by omega) (by omega)
      rw [e, Option.bind_some]
      obtain ⟨u, e, k1⟩ := p_tell (t := t7) (by omega) h
      rw [e, Option.bind_some]
      exact tail v u.1 k1
    rw [X_L_port_L2, if_neg (show ¬ (6 : Int32) ≤ iI (g : Int) by rw [L6]; exact fle (by omega) (by omega) (by omega))]
    obtain ⟨v, e⟩ := cell_v (xs := xs) hL (n := g) (by omega)
    rw [e, Option.bind_some]
    obtain ⟨t1, e, l1⟩ := wrn (T := List.replicate 9 (0 : Int32)) (i := 0) (x := 116) 0 (by decide) (by decide) (by decide)
    rw [e, Option.bind_some]
    have l1 : t1.length = 9 := l1
    obtain ⟨t2, e, l2⟩ := wrn (T := t1) (i := 1) (x := 48 + iI (g : Int)) 1 (by decide) (by omega) (by omega)
    rw [e, Option.bind_some]
    obtain ⟨w, e⟩ := cell_v (xs := xs) hL (n := 6) (by omega)
    rw [show X_L_cell L xs 6 = X_L_cell L xs (iI ((6 : Nat) : Int)) from rfl, e, Option.bind_some]
    obtain ⟨a, ha, e⟩ := pick_v w (b := 2) (by omega) (by omega)
    rw [show L_pick w 2 = L_pick w (iI ((2 : Nat) : Int)) from rfl, e, Option.bind_some]
    by_cases c : iI (a : Int) = (0 : Int32)
    · rw [if_pos c]
      exact mid v t2 3 (by omega) (by omega) (by omega)
    · rw [if_neg c]
      exact mid v t2 6 (by omega) (by omega) (by omega)
set_option maxRecDepth 20000 in
set_option maxHeartbeats 400000 in
theorem p_loop175 {L : Nat} {xs : Nat → Int32} {k : Rw → Option Rw} (hL : L ≤ 260) (hk : ∀ S : Rw, Pz S → ∃ S1 : Rw, k S = some S1 ∧ Pz S1) : ∀ (r n : Nat) (x : Int32) (S : Rw), x = iI (r : Int) → r ≤ 100 → r < n → Pz S → ∃ S1 : Rw, X_L_port_L175 k L xs n x S = some S1 ∧ Pz S1 := by
  intro r
  induction r with
  | zero =>
    intro n x S hx hr hn h
    obtain ⟨n, rfl⟩ : ∃ m, n = m + 1 := ⟨n - 1, by omega⟩
    subst hx
    rw [X_L_port_L175, if_pos (show iI ((0 : Nat) : Int) ≤ (0 : Int32) by decide)]
    exact hk S h
  | succ r ih =>
    intro n x S hx hr hn h
    obtain ⟨n, rfl⟩ : ∃ m, n = m + 1 := ⟨n - 1, by omega⟩
    subst hx
    have q : (7 : Int32) + iI ((r + 1 : Nat) : Int) = iI ((7 + (r + 1) : Nat) : Int) := by rw [L7, iI_add]; rfl
    have q2 : iI ((r + 1 : Nat) : Int) + (-1 : Int32) = iI (r : Int) := by rw [nm1, iI_add]; exact iI_c (by omega)
    obtain ⟨v, ev⟩ := cell_v (xs := xs) hL (n := 7 + (r + 1)) (by omega)
    obtain ⟨a1, -, e1⟩ := pick_v v (b := 6) (by omega) (by omega)
    obtain ⟨a2, -, e2⟩ := pick_v (v >>> ((3 : Int32) &&& 31)) (b := 10) (by omega) (by omega)
    obtain ⟨a3, -, e3⟩ := pick_v (v >>> ((7 : Int32) &&& 31)) (b := 6) (by omega) (by omega)
    obtain ⟨a4, -, e4⟩ := pick_v (v >>> ((10 : Int32) &&& 31)) (b := 100) (by omega) (by omega)
    have e1 : L_pick v 6 = some (iI (a1 : Int)) := e1
    have e2 : L_pick (v >>> ((3 : Int32) &&& 31)) 10 = some (iI (a2 : Int)) := e2
    have e3 : L_pick (v >>> ((7 : Int32) &&& 31)) 6 = some (iI (a3 : Int)) := e3
    have e4 : L_pick (v >>> ((10 : Int32) &&& 31)) 100 = some (iI (a4 : Int)) := e4
    rw [X_L_port_L175, if_neg (show ¬ iI ((r + 1 : Nat) : Int) ≤ (0 : Int32) by rw [L0]; exact fle (by omega) (by omega) (by omega)), q, ev, Option.bind_some, e1, Option.bind_some, Option.bind_some, e2, Option.bind_some, Option.bind_some, e3, Option.bind_some, Option.bind_some, e4, Option.bind_some, q2]
    obtain ⟨u, e, k1⟩ := p_ship (p1 := iI (a1 : Int)) (p2 := iI (a2 : Int)) (p3 := iI (a3 : Int)) (p4 := iI (a4 : Int)) h
    rw [e, Option.bind_some]
    exact ih n _ u.1 rfl (by omega) (by omega) k1
set_option maxRecDepth 20000 in
set_option maxHeartbeats 400000 in
theorem p_port {L : Nat} {xs : Nat → Int32} {S : Rw} (hL : L ≤ 260) (h : Pz S) : ∃ S1 : Rw, X_L_port L xs 6 S = some S1 ∧ Pz S1 := by
  unfold X_L_port
  refine p_loop2 hL (fun S h => ?_) 6 0 1000 0 S (by decide) (by omega) (by omega) h
  obtain ⟨v, e⟩ := cell_v (xs := xs) hL (n := 7) (by omega)
  rw [show X_L_cell L xs 7 = X_L_cell L xs (iI ((7 : Nat) : Int)) from rfl, e, Option.bind_some]
  obtain ⟨a, ha, e⟩ := pick_v v (b := 7) (by omega) (by omega)
  rw [show L_pick v (6 + 1) = L_pick v (iI ((7 : Nat) : Int)) from congrArg (L_pick v) (by decide), e, Option.bind_some]
  refine p_loop175 hL (fun S h => ?_) a 1000 _ S rfl (by omega) (by omega) h
  obtain ⟨t1, e, l1⟩ := wrn (T := List.replicate 4 (0 : Int32)) (i := 0) (x := 99) 0 (by decide) (by decide) (by decide)
  rw [e, Option.bind_some]
  have l1 : t1.length = 4 := l1
  obtain ⟨v, e⟩ := cell_v (xs := xs) hL (n := 15) (by omega)
  rw [show X_L_cell L xs 15 = X_L_cell L xs (iI ((15 : Nat) : Int)) from rfl, e, Option.bind_some]
  obtain ⟨a, ha, e⟩ := pick_v v (b := 5) (by omega) (by omega)
  rw [show L_pick v 5 = L_pick v (iI ((5 : Nat) : Int)) from rfl, e, Option.bind_some]
  obtain ⟨t2, e, l2⟩ := wrn (T := t1) (i := 1) (x := 48 + iI (a : Int)) 1 (by decide) (by omega) (by omega)
  rw [e, Option.bind_some]
  obtain ⟨t3, e, l3⟩ := wrn (T := t2) (i := 2) (x := 48) 2 (by decide) (by omega) (by omega)
  rw [e, Option.bind_some]
  obtain ⟨t4, e, l4⟩ := wrn (T := t3) (i := 3) (x := 59) 3 (by decide) (by omega) (by omega)
  rw [e, Option.bind_some]
  obtain ⟨u, e, k1⟩ := p_tell (t := t4) (by omega) h
  rw [e, Option.bind_some]
  obtain ⟨v, ev⟩ := cell_v (xs := xs) hL (n := 16) (by omega)
  rw [show X_L_cell L xs 16 = X_L_cell L xs (iI ((16 : Nat) : Int)) from rfl, ev, Option.bind_some]
  obtain ⟨a, ha, e⟩ := pick_v v (b := 2) (by omega) (by omega)
  rw [show L_pick v 2 = L_pick v (iI ((2 : Nat) : Int)) from rfl, e, Option.bind_some]
  by_cases c : iI (a : Int) = (0 : Int32)
  · rw [if_pos c, Option.bind_some]
    obtain ⟨b, hb, e⟩ := pick_v (v >>> ((2 : Int32) &&& 31)) (b := 9) (by omega) (by omega)
    rw [show L_pick (v >>> ((2 : Int32) &&& 31)) 9 = L_pick (v >>> ((2 : Int32) &&& 31)) (iI ((9 : Nat) : Int)) from rfl, e, Option.bind_some]
    obtain ⟨Z, h, hZ⟩ := k1
    obtain ⟨Z1, S1, w, e, k2, hZ1⟩ := p_days (1 + iI (b : Int)) h hZ
    rw [e, Option.bind_some]
    exact ⟨S1, rfl, Z1, k2, hZ1⟩
  · rw [if_neg c]
    exact ⟨u.1, rfl, k1⟩
