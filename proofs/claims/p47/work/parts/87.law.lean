/-! the law's body answers true: from its end to its start -/
set_option maxRecDepth 20000 in
set_option maxHeartbeats 400000 in
theorem w1341 {Z Z1 : SS} {Q : Nat → (Nat → Nat) → (Nat → Hs) → Prop} {S : Rw} {t : List Int32} (hZ : OkS Z) (h : Gp Z1 Z Q S) : X_L_law_J1341 (iI (Z.2.1 : Int)) (iI (Z.2.2.2.2.2 : Int)) (iI (Z.2.2.2.2.1 : Int)) (iI (mk Z.2.2.2.1 : Int)) (iI (allk (lk 6 Z.1.1 Z.2.2.1) : Int)) S t = some 1 := by
  unfold X_L_law_J1341
  obtain ⟨S1, e, h1⟩ := t_restore h
  rw [e, Option.bind_some, if_pos rfl]
  obtain ⟨S2, e, h2⟩ := t_count2 h1 hZ
  rw [e, Option.bind_some, if_pos rfl]
  obtain ⟨S3, e, h3⟩ := t_count3 h2 hZ
  rw [e, Option.bind_some, if_pos rfl]
  obtain ⟨S4, e, h4⟩ := t_count4 h3 hZ
  rw [e, Option.bind_some, if_pos rfl]
  obtain ⟨S5, e, h5⟩ := t_count0 h4 hZ
  rw [e, Option.bind_some, if_pos rfl]
set_option maxRecDepth 20000 in
set_option maxHeartbeats 400000 in
theorem w1313 {Z Z1 : SS} {S : Rw} {t : List Int32} (hZ : OkS Z) (h : Gp Z1 Z (Top Z) S) : X_L_law_J1313 (iI (Z.2.1 : Int)) (iI (Z.2.2.2.2.2 : Int)) (iI (Z.2.2.2.2.1 : Int)) (iI (mk Z.2.2.2.1 : Int)) (iI (allk (lk 6 Z.1.1 Z.2.2.1) : Int)) S t = some 1 := by
  unfold X_L_law_J1313
  obtain ⟨S1, v, e, hv, h1⟩ := t_back h
  rw [e, Option.bind_some, if_neg (show ¬ iI (v : Int) < (0 : Int32) from m9 (by omega) (by omega))]
  obtain ⟨S2, e, h2⟩ := t_count1 h1 hZ
  rw [e, Option.bind_some, if_pos rfl]
  obtain ⟨S3, e, h3⟩ := t_count3 h2 hZ
  rw [e, Option.bind_some, if_pos rfl]
  exact w1341 hZ h3
set_option maxRecDepth 20000 in
set_option maxHeartbeats 400000 in
theorem w1283 {Z Z1 : SS} {Q : Nat → (Nat → Nat) → (Nat → Hs) → Prop} {w : Nat → Nat} {a2 a3 a4 a5 a6 : Int32} {k : Rw → Option Int32} (hZ1 : OkS Z1) (hw : ∀ j, j < 6 → w j = Z1.2.2.1 j) (hk : ∀ S : Rw, Gp Z1 Z Q S → k S = some 1) : ∀ (r g n : Nat) (x : Int32) (S : Rw), x = iI (g : Int) → g + r = 6 → r < n → Gp Z1 Z Q S → X_L_law_L1283 k a2 a3 a4 a5 a6 (rn 6 w) n x S = some 1 := by
  intro r
  induction r with
  | zero =>
    intro g n x S hx hg hn h
    obtain ⟨n, rfl⟩ : ∃ m, n = m + 1 := ⟨n - 1, by omega⟩
    subst hx
    rw [X_L_law_L1283, if_pos (show (6 : Int32) ≤ iI (g : Int) by rw [L6]; exact tle (by omega) (by omega) (by omega))]
    exact hk S h
  | succ r ih =>
    intro g n x S hx hg hn h
    obtain ⟨n, rfl⟩ : ∃ m, n = m + 1 := ⟨n - 1, by omega⟩
    subst hx
    obtain ⟨S1, e, h1⟩ := t_good0 (a := g) (by omega) h hZ1
    rw [X_L_law_L1283, if_neg (show ¬ (6 : Int32) ≤ iI (g : Int) by rw [L6]; exact fle (by omega) (by omega) (by omega)), e, Option.bind_some, rd_rn (by omega) (by omega) (by omega), Option.bind_some, Int.toNat_natCast, hw g (by omega), if_pos rfl]
    exact ih (g + 1) n _ _ (iI_s g) (by omega) (by omega) h1
set_option maxRecDepth 20000 in
set_option maxHeartbeats 400000 in
theorem w1280 {Z Z1 : SS} {S : Rw} {w : Nat → Nat} (hZ : OkS Z) (hZ1 : OkS Z1) (hw : ∀ j, j < 6 → w j = Z1.2.2.1 j) (h : Gp Z1 Z (Top Z) S) : X_L_law_J1280 (iI (Z.2.1 : Int)) (iI (Z.2.2.2.2.2 : Int)) (iI (Z.2.2.2.2.1 : Int)) (iI (mk Z.2.2.2.1 : Int)) (iI (allk (lk 6 Z.1.1 Z.2.2.1) : Int)) S (rn 6 w) = some 1 := by
  unfold X_L_law_J1280
  exact w1283 hZ1 hw (fun S h => w1313 hZ h) 6 0 1000 0 S (by decide) (by omega) (by omega) h
set_option maxRecDepth 20000 in
set_option maxHeartbeats 400000 in
theorem dI {n D : Nat} {e : Env} {sh : Nat} {x : XX} (hX : OkX D x) : ∀ j, (daysX e sh 0 6 n x).2.1 j ≤ 1 := (daysX_ok n D x hX).2.1
set_option maxRecDepth 20000 in
set_option maxHeartbeats 400000 in
theorem w1236 {Z : SS} {S : Rw} {w : Nat → Nat} {m : Nat} (hZ : OkS Z) (hm : Z.2.2.2.2.2 + m ≤ 999) (hZ1 : OkS (dayZ Z m)) (hw : ∀ j, j < 6 → w j = (dayZ Z m).2.2.1 j) (h : Gp (dayZ Z m) Z (Top Z) S) : X_L_law_J1236 (iI (Z.2.1 : Int)) (iI (Z.2.2.2.2.2 : Int)) (iI (Z.2.2.2.2.1 : Int)) (iI (mk Z.2.2.2.1 : Int)) (iI (allk (lk 6 Z.1.1 Z.2.2.1) : Int)) (iI (m : Int)) (iI (mk (dayZ Z m).2.2.2.1 : Int)) (iI ((dayZ Z m).2.2.2.2.1 : Int)) S (rn 6 w) = some 1 := by
  unfold X_L_law_J1236
  obtain ⟨S1, e, h1⟩ := t_count3 h hZ1
  rw [e, Option.bind_some, if_pos rfl]
  obtain ⟨S2, e, h2⟩ := t_count2 h1 hZ1
  rw [e, Option.bind_some, if_pos rfl]
  rw [if_pos (show (iI (mk Z.2.2.2.1 : Int) &&& (iI (mk (dayZ Z m).2.2.2.1 : Int) ^^^ (-1 : Int32))) = (0 : Int32) from andnI (xI (sX hZ)) (xI (sX hZ1)) (fun j hj => daysX_mono m _ hj))]
  obtain ⟨S3, e, h3⟩ := t_count1 h2 hZ1
  rw [e, Option.bind_some, if_pos (show iI ((dayZ Z m).2.2.2.2.2 : Int) = iI (Z.2.2.2.2.2 : Int) + iI (m : Int) by
    rw [iI_add]
    refine iI_c ?_
    have := daysX_day (e := Z.1) (sh := Z.2.1) (b := 0) (fr := 6) m Z.2.2
    show ((daysX Z.1 Z.2.1 0 6 m Z.2.2).2.2.2 : Int) = _
    rw [this]
    rfl)]
  exact w1280 hZ hZ1 hw h3
set_option maxRecDepth 20000 in
set_option maxHeartbeats 400000 in
theorem w1212 {Z : SS} {S : Rw} {w : Nat → Nat} {m : Nat} (hZ : OkS Z) (hm1 : 1 ≤ m) (hm : m ≤ 60) (hw : ∀ j, j < 6 → w j = (dayZ Z m).2.2.1 j) (h : Gp Z Z Tr S) : X_L_law_J1212 (iI (Z.2.1 : Int)) (iI (Z.2.2.2.2.2 : Int)) (iI (Z.2.2.2.2.1 : Int)) (iI (mk Z.2.2.2.1 : Int)) (iI (allk (lk 6 Z.1.1 Z.2.2.1) : Int)) (iI (m : Int)) (iI (mk (dayZ Z m).2.2.2.1 : Int)) (iI ((dayZ Z m).2.2.2.2.1 : Int)) S (rn 6 w) = some 1 := by
  have hd : Z.2.2.2.2.2 ≤ 999 := (sX hZ).2.2.2
  unfold X_L_law_J1212
  by_cases c : Z.2.2.2.2.2 + m ≤ 999
  · rw [if_neg (show ¬ (999 : Int32) < iI (Z.2.2.2.2.2 : Int) + iI (m : Int) by rw [L999, iI_add]; exact flt (by omega) (by omega) (by omega))]
    obtain ⟨S1, e, h1, hZ1⟩ := t_days hm1 hm c h hZ
    rw [e, Option.bind_some, (s_bits (mk_lt (xI (sX hZ1)))).1, Option.bind_some, if_pos rfl]
    exact w1236 hZ c hZ1 hw h1
  · rw [if_pos (show (999 : Int32) < iI (Z.2.2.2.2.2 : Int) + iI (m : Int) by rw [L999, iI_add]; exact tlt (by omega) (by omega) (by omega))]
    exact w1341 hZ h
set_option maxRecDepth 20000 in
set_option maxHeartbeats 400000 in
theorem w1186 {Z : SS} {m : Nat} {a2 a3 a4 a5 a6 a12 a13 : Int32} {k : Rw → List Int32 → Option Int32} (hZ : OkS Z) (hm : m ≤ 60) (hk : ∀ (S : Rw) (w : Nat → Nat), Gp Z Z Tr S → (∀ j, j < 6 → w j = (dayZ Z m).2.2.1 j) → k S (rn 6 w) = some 1) : ∀ (r g n : Nat) (x : Int32) (S : Rw) (w : Nat → Nat), x = iI (g : Int) → g + r = 6 → r < n → (∀ j, j < g → w j = (dayZ Z m).2.2.1 j) → Gp Z Z Tr S → X_L_law_L1186 k a2 a3 a4 a5 a6 (iI (m : Int)) a12 a13 n x S (rn 6 w) = some 1 := by
  intro r
  induction r with
  | zero =>
    intro g n x S w hx hg hn hw h
    obtain ⟨n, rfl⟩ : ∃ m, n = m + 1 := ⟨n - 1, by omega⟩
    subst hx
    rw [X_L_law_L1186, if_pos (show (6 : Int32) ≤ iI (g : Int) by rw [L6]; exact tle (by omega) (by omega) (by omega))]
    exact hk S w h (fun j hj => hw j (by omega))
  | succ r ih =>
    intro g n x S w hx hg hn hw h
    obtain ⟨n, rfl⟩ : ∃ m, n = m + 1 := ⟨n - 1, by omega⟩
    subst hx
    obtain ⟨S1, e, h1⟩ := t_thereIn (a := g) (n := m) (by omega) hm h hZ
    rw [X_L_law_L1186, if_neg (show ¬ (6 : Int32) ≤ iI (g : Int) by rw [L6]; exact fle (by omega) (by omega) (by omega)), e, Option.bind_some, wr_rn (by omega) (by omega) (by omega) (by omega), Option.bind_some, Int.toNat_natCast, Int.toNat_natCast]
    refine ih (g + 1) n _ _ _ (iI_s g) (by omega) (by omega) (fun j hj => ?_) h1
    by_cases c : j = g
    · subst c
      exact upN_at
    · rw [upN_ne c]
      exact hw j (by omega)
set_option maxRecDepth 20000 in
set_option maxHeartbeats 400000 in
theorem w1159 {Z : SS} {S : Rw} {m : Nat} (hZ : OkS Z) (hm1 : 1 ≤ m) (hm : m ≤ 60) (h : Gp Z Z Tr S) : X_L_law_J1159 (iI (Z.2.1 : Int)) (iI (Z.2.2.2.2.2 : Int)) (iI (Z.2.2.2.2.1 : Int)) (iI (mk Z.2.2.2.1 : Int)) (iI (allk (lk 6 Z.1.1 Z.2.2.1) : Int)) (iI (m : Int)) S = some 1 := by
  unfold X_L_law_J1159
  obtain ⟨S1, e, h1⟩ := t_then1 (n := m) hm h hZ
  rw [e, Option.bind_some]
  obtain ⟨S2, e, h2⟩ := t_then0 (n := m) hm h1 hZ
  rw [e, Option.bind_some, show List.replicate 6 (0 : Int32) = rn 6 (fun _ => 0) by decide]
  exact w1186 hZ hm (fun S w h hw => w1212 hZ hm1 hm hw h) 6 0 1000 0 S2 _ (by decide) (by omega) (by omega) (fun j hj => absurd hj (by omega)) h2
set_option maxRecDepth 20000 in
set_option maxHeartbeats 400000 in
theorem w1132 {Z : SS} {S : Rw} {m : Nat} (hZ : OkS Z) (hm1 : 1 ≤ m) (hm : m ≤ 60) (h : Gp Z Z Tr S) : X_L_law_J1132 (iI (Z.2.1 : Int)) (iI (Z.2.2.2.2.2 : Int)) (iI (Z.2.2.2.2.1 : Int)) (iI (mk Z.2.2.2.1 : Int)) (iI (allk (lk 6 Z.1.1 Z.2.2.1) : Int)) (iI (m : Int)) S = some 1 := by
  have hl : allk (lk 6 Z.1.1 Z.2.2.1) ≤ 378 := allk_le (oU (sE hZ))
  unfold X_L_law_J1132
  obtain ⟨S1, v, e, h1, v1, v2, v3⟩ := t_filled h hZ
  rw [e, Option.bind_some]
  by_cases c : allk (lk 6 Z.1.1 Z.2.2.1) = 0
  · rw [if_pos (show iI v = (0 : Int32) by rw [v3.mpr c]; decide), if_pos (show iI (allk (lk 6 Z.1.1 Z.2.2.1) : Int) = (0 : Int32) by rw [c]; decide)]
    exact w1159 hZ hm1 hm h1
  · have c2 : ¬ v = 0 := fun z => c (v3.mp z)
    rw [if_neg (show ¬ iI v = (0 : Int32) by rw [L0]; exact feq c2 (by omega) (by omega) (by omega) (by omega)), if_neg (show ¬ iI (allk (lk 6 Z.1.1 Z.2.2.1) : Int) = (0 : Int32) from ne0 (by omega) (by omega))]
    exact w1159 hZ hm1 hm h1
set_option maxRecDepth 20000 in
set_option maxHeartbeats 400000 in
theorem w1106 {Z : SS} {S : Rw} {m : Nat} (hZ : OkS Z) (hm1 : 1 ≤ m) (hm : m ≤ 60) (h : Gp Z Z Tr S) : X_L_law_J1106 (iI (Z.2.1 : Int)) (iI (Z.2.2.2.2.2 : Int)) (iI (Z.2.2.2.2.1 : Int)) (iI (mk Z.2.2.2.1 : Int)) (iI (allk (lk 6 Z.1.1 Z.2.2.1) : Int)) (iI (m : Int)) S = some 1 := by
  unfold X_L_law_J1106
  obtain ⟨S1, e, h1⟩ := t_bare0 h hZ
  rw [e, Option.bind_some]
  unfold X_L_law_J1113
  rcases bX_spec (e := Z.1) (sh := Z.2.1) 61 0 Z.2.2 with c | ⟨a, w, c1, c2, c3, c4, c5⟩
  · rw [if_pos (show iI (bX Z.1 Z.2.1 61 0 Z.2.2).1 < (0 : Int32) by rw [c]; decide)]
    exact w1132 hZ hm1 hm h1
  · rw [if_neg (show ¬ iI (bX Z.1 Z.2.1 61 0 Z.2.2).1 < (0 : Int32) by rw [c3]; exact m9 (by omega) (by omega))]
    obtain ⟨S2, e, h2⟩ := t_bare1 h1 hZ
    rw [e, Option.bind_some]
    obtain ⟨S3, e, h3⟩ := t_thereIn (a := a) (n := w) c1 (by omega) h2 hZ
    rw [show A_thereIn S2 (iI (bX Z.1 Z.2.1 61 0 Z.2.2).1) (iI (bX Z.1 Z.2.1 61 0 Z.2.2).2) = A_thereIn S2 (iI (a : Int)) (iI (w : Int)) by rw [c3, c4, Nat.zero_add], e, Option.bind_some, if_pos (show iI ((daysX Z.1 Z.2.1 0 6 w Z.2.2).1 a : Int) = (0 : Int32) by rw [c5]; decide)]
    exact w1132 hZ hm1 hm h3
/-! the second loop over SHIPS: the first -/
set_option maxRecDepth 20000 in
set_option maxHeartbeats 400000 in
theorem fstC {e : Env} {sh D : Nat} {x : XX} (hX : OkX D x) : (fst1 e sh x.2.1 60 x = -9 ∧ ∀ s, s < sh → x.2.1 s = 0 → (cmX e sh 0 6 s 60 0 x).1 = -9) ∨ (∃ f w : Nat, f < sh ∧ 1 ≤ w ∧ w ≤ 60 ∧ fst1 e sh x.2.1 60 x = (f : Int) ∧ x.2.1 f = 0 ∧ (cmX e sh 0 6 f 60 0 x).1 = (w : Int) ∧ ∀ s, s < sh → x.2.1 s = 0 → (cmX e sh 0 6 s 60 0 x).1 = -9 ∨ (w : Int) ≤ (cmX e sh 0 6 s 60 0 x).1) := by
  have pos : ∀ (s j : Nat), x.2.1 s = 0 → (daysX e sh 0 6 j x).2.1 s = 1 → 1 ≤ j := by
    intro s j h0 h1
    cases j with
    | zero =>
      have h2 : x.2.1 s = 1 := h1
      omega
    | succ j => omega
  rcases fst_spec (e := e) (sh := sh) (i := x.2.1) 60 x with ⟨f1, f2⟩ | ⟨f, w, f1, f2, f3, f4, f5, f6, f7, -⟩
  · refine Or.inl ⟨f1, fun s hs h0 => ?_⟩
    rcases cmC (e := e) (sh := sh) (s := s) (n := 60) hX with ⟨g1, g2⟩ | ⟨j, g1, g2, g3, g4⟩
    · exact g1
    · have := f2 s hs h0 j (pos s j h0 g3) g1
      omega
  · refine Or.inr ⟨f, w, f1, f2, f3, f4, f5, ?_, fun s hs h0 => ?_⟩
    · rcases cmC (e := e) (sh := sh) (s := f) (n := 60) hX with ⟨g1, g2⟩ | ⟨j, g1, g2, g3, g4⟩
      · exact absurd (g2 w f3) f6
      · have a1 : ¬ w < j := fun z => f6 (g4 w z)
        have a2 : ¬ j < w := fun z => by have := f7 f f1 f5 j (pos f j f5 g3) z; omega
        rw [g2]
        exact congrArg Int.ofNat (by omega)
    · rcases cmC (e := e) (sh := sh) (s := s) (n := 60) hX with ⟨g1, g2⟩ | ⟨j, g1, g2, g3, g4⟩
      · exact Or.inl g1
      · have a2 : ¬ j < w := fun z => by have := f7 s hs h0 j (pos s j h0 g3) z; omega
        exact Or.inr (by omega)
set_option maxRecDepth 20000 in
set_option maxHeartbeats 400000 in
theorem raV_first {cy : Int} {w y f : Nat} (hw : 1 ≤ w) (hyf : ¬ y = f) (hc : cy = -9 ∨ (w : Int) ≤ cy) : (y < f → raV cy (w : Int) y f = if cy = (w : Int) then ((min y f : Nat) : Int) else (f : Int)) ∧ (f < y → raV (w : Int) cy f y = if cy = (w : Int) then ((min y f : Nat) : Int) else (f : Int)) := by
  unfold raV
  refine ⟨fun h => ?_, fun h => ?_⟩
  · rw [if_neg (show ¬ (w : Int) = -9 by omega)]
    rcases hc with rfl | hc
    · rw [if_pos rfl, if_neg (show ¬ (-9 : Int) = (w : Int) by omega)]
    · rw [if_neg (show ¬ cy = -9 by omega)]
      by_cases c : cy = (w : Int)
      · rw [if_neg (show ¬ (w : Int) < cy by omega), if_pos c, Nat.min_eq_left (by omega)]
      · rw [if_pos (show (w : Int) < cy by omega), if_neg c]
  · rcases hc with rfl | hc
    · rw [if_pos rfl, if_neg (show ¬ (w : Int) = -9 by omega), if_neg (show ¬ (-9 : Int) = (w : Int) by omega)]
    · rw [if_neg (show ¬ cy = -9 by omega), if_neg (show ¬ (w : Int) = -9 by omega), if_neg (show ¬ cy < (w : Int) by omega)]
      by_cases c : cy = (w : Int)
      · rw [if_pos c, Nat.min_eq_right (by omega)]
      · rw [if_neg c]
set_option maxRecDepth 20000 in
set_option maxHeartbeats 400000 in
theorem w1060 {Z : SS} {S : Rw} {y f w : Nat} {a3 a4 a5 a6 a7 : Int32} {k : Rw → Option Int32} {r : Int32 → Rw → Option Int32} (hZ : OkS Z) (hr : ∀ S : Rw, Gp Z Z Tr S → r (iI ((y + 1 : Nat) : Int)) S = some 1) (hy : y < Z.2.1) (hf : f < Z.2.1) (hyf : ¬ y = f) (hw : 1 ≤ w) (hw6 : w ≤ 60) (hC : (cmX Z.1 Z.2.1 0 6 f 60 0 Z.2.2).1 = (w : Int)) (hc : (cmX Z.1 Z.2.1 0 6 y 60 0 Z.2.2).1 = -9 ∨ (w : Int) ≤ (cmX Z.1 Z.2.1 0 6 y 60 0 Z.2.2).1) (h : Gp Z Z Tr S) : X_L_law_J1060 k r (iI (Z.2.1 : Int)) a3 a4 a5 a6 a7 (iI (f : Int)) (iI (y : Int)) S = some 1 := by
  have hsh := sSh hZ
  have by1 := cmX_b (e := Z.1) (sh := Z.2.1) (b := 0) (fr := 6) (s := y) 60 0 Z.2.2
  have rv := raV_first hw hyf hc
  have race : raV (cmX Z.1 Z.2.1 0 6 (min y f) 60 0 Z.2.2).1 (cmX Z.1 Z.2.1 0 6 (max y f) 60 0 Z.2.2).1 (min y f) (max y f) = if (cmX Z.1 Z.2.1 0 6 y 60 0 Z.2.2).1 = (w : Int) then ((min y f : Nat) : Int) else (f : Int) := by
    by_cases o : y < f
    · rw [Nat.min_eq_left (by omega), Nat.max_eq_right (by omega), hC]
      have := rv.1 o
      rw [Nat.min_eq_left (by omega)] at this
      exact this
    · rw [Nat.min_eq_right (by omega), Nat.max_eq_left (by omega), hC]
      have := rv.2 (by omega)
      rw [Nat.min_eq_right (by omega)] at this
      exact this
  unfold X_L_law_J1060
  obtain ⟨S1, e, h1⟩ := t_race (a := y) (c := f) hy hf hyf h hZ
  rw [e, Option.bind_some]
  obtain ⟨S2, e, h2⟩ := t_comes (s := y) hy h1 hZ
  rw [e, Option.bind_some]
  obtain ⟨S3, e, h3⟩ := t_comes (s := f) hf h2 hZ
  rw [e, Option.bind_some, race]
  by_cases c : (cmX Z.1 Z.2.1 0 6 y 60 0 Z.2.2).1 = (w : Int)
  · rw [if_pos (show iI (cmX Z.1 Z.2.1 0 6 y 60 0 Z.2.2).1 = iI (cmX Z.1 Z.2.1 0 6 f 60 0 Z.2.2).1 by rw [c, hC]), if_pos c, mmin_iI (by omega) (by omega) (by omega) (by omega), if_pos (show iI ((min y f : Nat) : Int) = iI (min (y : Int) (f : Int)) from iI_c (by omega))]
    unfold X_L_law_J1100
    rw [iI_s]
    exact hr S3 h3
  · rw [if_neg (show ¬ iI (cmX Z.1 Z.2.1 0 6 y 60 0 Z.2.2).1 = iI (cmX Z.1 Z.2.1 0 6 f 60 0 Z.2.2).1 by rw [hC]; exact feq c (by omega) (by omega) (by omega) (by omega)), if_neg c, if_pos rfl]
    unfold X_L_law_J1100
    rw [iI_s]
    exact hr S3 h3
set_option maxRecDepth 20000 in
set_option maxHeartbeats 400000 in
theorem w1038 {Z : SS} {S : Rw} {y : Nat} {a3 a4 a6 a7 : Int32} {k : Rw → Option Int32} {r : Int32 → Rw → Option Int32} (hZ : OkS Z) (hr : ∀ S : Rw, Gp Z Z Tr S → r (iI ((y + 1 : Nat) : Int)) S = some 1) (hy : y < Z.2.1) (h : Gp Z Z Tr S) : X_L_law_J1038 k r (iI (Z.2.1 : Int)) a3 a4 (iI (mk Z.2.2.2.1 : Int)) a6 a7 (iI (fst1 Z.1 Z.2.1 Z.2.2.2.1 60 Z.2.2)) (iI (y : Int)) S = some 1 := by
  have hsh := sSh hZ
  have hi : ∀ j, Z.2.2.2.1 j ≤ 1 := xI (sX hZ)
  have end1 : ∀ {S : Rw} {x : Int32}, Gp Z Z Tr S → X_L_law_J1100 k r (iI (Z.2.1 : Int)) a3 a4 (iI (mk Z.2.2.2.1 : Int)) a6 a7 x (iI (y : Int)) S = some 1 := by
    intro S x h
    unfold X_L_law_J1100
    rw [iI_s]
    exact hr S h
  unfold X_L_law_J1038
  rcases fstC (e := Z.1) (sh := Z.2.1) (sX hZ) with ⟨f1, f2⟩ | ⟨f, w, f1, f2, f3, f4, f5, f6, f7⟩
  · rw [if_pos (show iI (fst1 Z.1 Z.2.1 Z.2.2.2.1 60 Z.2.2) < (0 : Int32) by rw [show fst1 Z.1 Z.2.1 Z.2.2.2.1 60 Z.2.2 = -9 from f1]; decide)]
    exact end1 h
  · rw [show fst1 Z.1 Z.2.1 Z.2.2.2.1 60 Z.2.2 = (f : Int) from f4, if_neg (show ¬ iI (f : Int) < (0 : Int32) from m9 (by omega) (by omega))]
    by_cases c : y = f
    · rw [if_pos (show iI (y : Int) = iI (f : Int) by rw [c])]
      exact end1 h
    · rw [if_neg (show ¬ iI (y : Int) = iI (f : Int) from feq (by omega) (by omega) (by omega) (by omega) (by omega)), bitI hi (by omega)]
      by_cases c2 : Z.2.2.2.1 y = 0
      · rw [if_pos (show iI (Z.2.2.2.1 y : Int) = (0 : Int32) by rw [c2]; decide)]
        exact w1060 hZ hr hy f1 c f2 f3 f6 (f7 y hy c2) h
      · have := hi y
        rw [if_neg (show ¬ iI (Z.2.2.2.1 y : Int) = (0 : Int32) from ne0 (by omega) (by omega))]
        exact end1 h
set_option maxRecDepth 20000 in
set_option maxHeartbeats 400000 in
theorem w991 {Z : SS} {a3 a4 a6 a7 : Int32} {k : Rw → Option Int32} (hZ : OkS Z) (hk : ∀ S : Rw, Gp Z Z Tr S → k S = some 1) : ∀ (r y n : Nat) (x : Int32) (S : Rw), x = iI (y : Int) → y + r = Z.2.1 → r < n → Gp Z Z Tr S → X_L_law_L991 k (iI (Z.2.1 : Int)) a3 a4 (iI (mk Z.2.2.2.1 : Int)) a6 a7 (iI (fst1 Z.1 Z.2.1 Z.2.2.2.1 60 Z.2.2)) n x S = some 1 := by
  have hsh := sSh hZ
  have hi : ∀ j, Z.2.2.2.1 j ≤ 1 := xI (sX hZ)
  intro r
  induction r with
  | zero =>
    intro y n x S hx hy hn h
    obtain ⟨n, rfl⟩ : ∃ m, n = m + 1 := ⟨n - 1, by omega⟩
    subst hx
    rw [X_L_law_L991, if_pos (show iI (Z.2.1 : Int) ≤ iI (y : Int) from tle (by omega) (by omega) (by omega))]
    exact hk S h
  | succ r ih =>
    intro y n x S hx hy hn h
    obtain ⟨n, rfl⟩ : ∃ m, n = m + 1 := ⟨n - 1, by omega⟩
    subst hx
    have hr : ∀ S : Rw, Gp Z Z Tr S → X_L_law_L991 k (iI (Z.2.1 : Int)) a3 a4 (iI (mk Z.2.2.2.1 : Int)) a6 a7 (iI (fst1 Z.1 Z.2.1 Z.2.2.2.1 60 Z.2.2)) n (iI ((y + 1 : Nat) : Int)) S = some 1 := fun S h => ih (y + 1) n _ S rfl (by omega) (by omega) h
    have by1 := cmX_b (e := Z.1) (sh := Z.2.1) (b := 0) (fr := 6) (s := y) 60 0 Z.2.2
    rw [X_L_law_L991, if_neg (show ¬ iI (Z.2.1 : Int) ≤ iI (y : Int) from fle (by omega) (by omega) (by omega)), bitI hi (by omega)]
    by_cases c : Z.2.2.2.1 y = 0
    · rw [if_pos (show iI (Z.2.2.2.1 y : Int) = (0 : Int32) by rw [c]; decide)]
      obtain ⟨S1, e, h1⟩ := t_comes (s := y) (by omega) h hZ
      rw [e, Option.bind_some]
      by_cases c2 : (cmX Z.1 Z.2.1 0 6 y 60 0 Z.2.2).1 ≤ 0
      · rw [if_pos (show iI (cmX Z.1 Z.2.1 0 6 y 60 0 Z.2.2).1 ≤ (0 : Int32) by rw [L0]; exact tle c2 (by omega) (by omega))]
        exact w1038 hZ hr (by omega) h1
      · rw [if_neg (show ¬ iI (cmX Z.1 Z.2.1 0 6 y 60 0 Z.2.2).1 ≤ (0 : Int32) by rw [L0]; exact fle (by omega) (by omega) (by omega))]
        rcases fstC (e := Z.1) (sh := Z.2.1) (sX hZ) with ⟨f1, f2⟩ | ⟨f, w, f1, f2, f3, f4, f5, f6, f7⟩
        · have := f2 y (by omega) c
          omega
        · have f8 := f7 y (by omega) c
          have f4' : fst1 Z.1 Z.2.1 Z.2.2.2.1 60 Z.2.2 = (f : Int) := f4
          rw [if_neg (show ¬ iI (fst1 Z.1 Z.2.1 Z.2.2.2.1 60 Z.2.2) < (0 : Int32) by rw [f4']; exact m9 (by omega) (by omega))]
          obtain ⟨S2, e, h2⟩ := t_comes (s := f) f1 h1 hZ
          rw [show A_comes S1 (iI (fst1 Z.1 Z.2.1 Z.2.2.2.1 60 Z.2.2)) = A_comes S1 (iI (f : Int)) by rw [f4'], e, Option.bind_some]
          obtain ⟨S3, e, h3⟩ := t_comes (s := y) (by omega) h2 hZ
          rw [e, Option.bind_some, if_pos (show iI (cmX Z.1 Z.2.1 0 6 f 60 0 Z.2.2).1 ≤ iI (cmX Z.1 Z.2.1 0 6 y 60 0 Z.2.2).1 by rw [f6]; exact tle (by omega) (by omega) (by omega))]
          exact w1038 hZ hr (by omega) h3
    · have := hi y
      rw [if_neg (show ¬ iI (Z.2.2.2.1 y : Int) = (0 : Int32) from ne0 (by omega) (by omega))]
      exact w1038 hZ hr (by omega) h
set_option maxRecDepth 20000 in
set_option maxHeartbeats 400000 in
theorem w981 {Z : SS} {S : Rw} {m : Nat} (hZ : OkS Z) (hm1 : 1 ≤ m) (hm : m ≤ 60) (h : Gp Z Z Tr S) : X_L_law_J981 (iI (Z.2.1 : Int)) (iI (Z.2.2.2.2.2 : Int)) (iI (Z.2.2.2.2.1 : Int)) (iI (mk Z.2.2.2.1 : Int)) (iI (allk (lk 6 Z.1.1 Z.2.2.1) : Int)) (iI (m : Int)) S = some 1 := by
  have hsh := sSh hZ
  unfold X_L_law_J981
  obtain ⟨S1, e, h1⟩ := t_comesF h hZ
  rw [e, Option.bind_some]
  exact w991 hZ (fun S h => w1106 hZ hm1 hm h) Z.2.1 0 1000 0 S1 (by decide) (by omega) (by omega) h1
