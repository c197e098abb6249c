/-! FIRST of those OUT -/
set_option maxRecDepth 20000 in
set_option maxHeartbeats 400000 in
theorem cm_spec {e : Env} {sh b fr s : Nat} : ∀ (r n : Nat) (x : XX), ((cmX e sh b fr s r n x).1 = -9 ∧ ∀ j, j ≤ r → (daysX e sh b fr j x).2.1 s = 0) ∨ (∃ j : Nat, j ≤ r ∧ (cmX e sh b fr s r n x).1 = ((n + j : Nat) : Int) ∧ ¬ (daysX e sh b fr j x).2.1 s = 0 ∧ ∀ j1, j1 < j → (daysX e sh b fr j1 x).2.1 s = 0) := by
  intro r
  induction r with
  | zero =>
    intro n x
    unfold cmX
    by_cases h : x.2.1 s = 0
    · refine Or.inl ⟨show (if x.2.1 s = 0 then (-9 : Int) else (n : Int)) = -9 by rw [if_pos h], fun j hj => ?_⟩
      obtain rfl : j = 0 := by omega
      exact h
    · exact Or.inr ⟨0, Nat.le_refl _, show (if x.2.1 s = 0 then (-9 : Int) else (n : Int)) = _ by rw [if_neg h]; rfl, h, fun j1 hj => absurd hj (by omega)⟩
  | succ r ih =>
    intro n x
    unfold cmX
    by_cases h : x.2.1 s = 0
    · rw [if_pos h]
      rcases ih (n + 1) (dayX e sh b fr x) with ⟨h1, h2⟩ | ⟨j, h1, h2, h3, h4⟩
      · refine Or.inl ⟨h1, fun j hj => ?_⟩
        cases j with
        | zero => exact h
        | succ j => exact h2 j (by omega)
      · refine Or.inr ⟨j + 1, by omega, by rw [h2]; exact congrArg Int.ofNat (by omega), h3, fun j1 hj => ?_⟩
        cases j1 with
        | zero => exact h
        | succ j1 => exact h4 j1 (by omega)
    · rw [if_neg h]
      exact Or.inr ⟨0, by omega, rfl, h, fun j1 hj => absurd hj (by omega)⟩
/-- the first from s on, r of them, that is IN by i1 and not by i -/
def scan (i1 i : Nat → Nat) : Nat → Nat → Int
  | 0, _ => -9
  | r + 1, s => if i1 s = 0 then scan i1 i r (s + 1) else if i s = 0 then (s : Int) else scan i1 i r (s + 1)
set_option maxRecDepth 20000 in
set_option maxHeartbeats 400000 in
theorem scan_spec {i1 i : Nat → Nat} : ∀ r s : Nat, (scan i1 i r s = -9 ∧ ∀ j, s ≤ j → j < s + r → i j = 0 → i1 j = 0) ∨ (∃ b : Nat, s ≤ b ∧ b < s + r ∧ scan i1 i r s = (b : Int) ∧ i b = 0 ∧ ¬ i1 b = 0 ∧ ∀ j, s ≤ j → j < b → i j = 0 → i1 j = 0) := by
  intro r
  induction r with
  | zero => intro s; exact Or.inl ⟨rfl, fun j h1 h2 => absurd h2 (by omega)⟩
  | succ r ih =>
    intro s
    have up : (i s = 0 → i1 s = 0) → scan i1 i (r + 1) s = scan i1 i r (s + 1) → ((scan i1 i (r + 1) s = -9 ∧ ∀ j, s ≤ j → j < s + (r + 1) → i j = 0 → i1 j = 0) ∨ (∃ b : Nat, s ≤ b ∧ b < s + (r + 1) ∧ scan i1 i (r + 1) s = (b : Int) ∧ i b = 0 ∧ ¬ i1 b = 0 ∧ ∀ j, s ≤ j → j < b → i j = 0 → i1 j = 0)) := by
      intro h0 e
      rw [e]
      rcases ih (s + 1) with ⟨h1, h2⟩ | ⟨b, h1, h2, h3, h4, h5, h6⟩
      · refine Or.inl ⟨h1, fun j g1 g2 g3 => ?_⟩
        by_cases c : j = s
        · subst c; exact h0 g3
        · exact h2 j (by omega) (by omega) g3
      · refine Or.inr ⟨b, by omega, by omega, h3, h4, h5, fun j g1 g2 g3 => ?_⟩
        by_cases c : j = s
        · subst c; exact h0 g3
        · exact h6 j (by omega) g2 g3
    by_cases c1 : i1 s = 0
    · exact up (fun _ => c1) (by rw [scan, if_pos c1])
    · by_cases c2 : i s = 0
      · exact Or.inr ⟨s, Nat.le_refl _, by omega, by rw [scan, if_neg c1, if_pos c2], c2, c1, fun j g1 g2 => absurd g2 (by omega)⟩
      · exact up (fun z => absurd z c2) (by rw [scan, if_neg c1, if_neg c2])
def fst1 (e : Env) (sh : Nat) (i : Nat → Nat) : Nat → XX → Int
  | 0, _ => -9
  | r + 1, x => if scan (dayX e sh 0 6 x).2.1 i sh 0 = -9 then fst1 e sh i r (dayX e sh 0 6 x) else scan (dayX e sh 0 6 x).2.1 i sh 0
set_option maxRecDepth 20000 in
set_option maxHeartbeats 400000 in
theorem fst_spec {e : Env} {sh : Nat} {i : Nat → Nat} : ∀ (r : Nat) (x : XX), (fst1 e sh i r x = -9 ∧ ∀ s, s < sh → i s = 0 → ∀ w, 1 ≤ w → w ≤ r → (daysX e sh 0 6 w x).2.1 s = 0) ∨ (∃ s w : Nat, s < sh ∧ 1 ≤ w ∧ w ≤ r ∧ fst1 e sh i r x = (s : Int) ∧ i s = 0 ∧ ¬ (daysX e sh 0 6 w x).2.1 s = 0 ∧ (∀ s1, s1 < sh → i s1 = 0 → ∀ w1, 1 ≤ w1 → w1 < w → (daysX e sh 0 6 w1 x).2.1 s1 = 0) ∧ (∀ s1, s1 < s → i s1 = 0 → (daysX e sh 0 6 w x).2.1 s1 = 0)) := by
  intro r
  induction r with
  | zero => intro x; exact Or.inl ⟨rfl, fun s _ _ w h1 h2 => absurd h2 (by omega)⟩
  | succ r ih =>
    intro x
    rcases scan_spec (i1 := (dayX e sh 0 6 x).2.1) (i := i) sh 0 with ⟨h1, h2⟩ | ⟨b, h1, h2, h3, h4, h5, h6⟩
    · have e1 : fst1 e sh i (r + 1) x = fst1 e sh i r (dayX e sh 0 6 x) := by rw [fst1, if_pos h1]
      rw [e1]
      rcases ih (dayX e sh 0 6 x) with ⟨g1, g2⟩ | ⟨s, w, g1, g2, g3, g4, g5, g6, g7, g8⟩
      · refine Or.inl ⟨g1, fun s hs hi w k1 k2 => ?_⟩
        obtain ⟨w, rfl⟩ : ∃ j, w = j + 1 := ⟨w - 1, by omega⟩
        cases w with
        | zero => exact h2 s (by omega) (by omega) hi
        | succ w => exact g2 s hs hi (w + 1) (by omega) (by omega)
      · refine Or.inr ⟨s, w + 1, g1, by omega, by omega, g4, g5, g6, fun s1 k1 k2 w1 k3 k4 => ?_, g8⟩
        obtain ⟨w1, rfl⟩ : ∃ j, w1 = j + 1 := ⟨w1 - 1, by omega⟩
        cases w1 with
        | zero => exact h2 s1 (by omega) (by omega) k2
        | succ w1 => exact g7 s1 k1 k2 (w1 + 1) (by omega) (by omega)
    · have e1 : fst1 e sh i (r + 1) x = (b : Int) := by rw [fst1, h3, if_neg (by omega)]
      exact Or.inr ⟨b, 1, by omega, Nat.le_refl _, by omega, e1, h4, h5, fun s1 _ _ w1 k3 k4 => absurd k4 (by omega), fun s1 k1 k2 => h6 s1 (by omega) k1 k2⟩
set_option maxRecDepth 20000 in
set_option maxHeartbeats 400000 in
theorem l_scan {i1 i : Nat → Nat} {sh : Nat} {B1 B2 B3 B4 B5 B6 B7 : List Int32} {c1 c2 : Int32} (hi1 : ∀ j, i1 j ≤ 1) (hi : ∀ j, i j ≤ 1) (hsh : sh ≤ 7) (K : Unit → Option (List Int32 × List Int32 × List Int32 × List Int32 × List Int32 × List Int32 × List Int32 × Int32 × Int32 × Int32 × Int32 × Int32)) : ∀ (r s n : Nat) (x : Int32), x = iI (s : Int) → s + r = sh → r < n → X4_firstToComeIn_L20 K B1 B2 B3 B4 B5 B6 B7 (iI sh) (iI (mk i1 : Int)) c1 c2 (iI (mk i : Int)) n x = if scan i1 i r s = -9 then K () else some (B1, B2, B3, B4, B5, B6, B7, iI sh, iI (mk i1 : Int), c1, c2, iI (scan i1 i r s)) := by
  intro r
  induction r with
  | zero =>
    intro s n x hx hs hn
    obtain ⟨m, rfl⟩ : ∃ m, n = m + 1 := ⟨n - 1, by omega⟩
    subst hx
    rw [X4_firstToComeIn_L20, if_pos (tle (by omega) (by omega) (by omega))]
    rfl
  | succ r ih =>
    intro s n x hx hs hn
    obtain ⟨m, rfl⟩ : ∃ m, n = m + 1 := ⟨n - 1, by omega⟩
    subst hx
    have b1 := hi1 s
    have b2 := hi s
    rw [X4_firstToComeIn_L20, if_neg (fle (by omega) (by omega) (by omega)), s_X0_isIn hi1 (by omega) (by omega), Option.bind_some, Int.toNat_natCast, scan]
    by_cases h1 : i1 s = 0
    · rw [if_pos (show iI (i1 s : Int) = (0 : Int32) by rw [h1]; decide), if_pos h1]
      exact ih (s + 1) m _ (iI_s s) (by omega) (by omega)
    · rw [if_neg (show ¬ iI (i1 s : Int) = (0 : Int32) from ne0 (by omega) (by omega)), if_neg h1, s_X0_isIn hi (by omega) (by omega), Option.bind_some, Int.toNat_natCast]
      by_cases h2 : i s = 0
      · rw [if_pos (show iI (i s : Int) = (0 : Int32) by rw [h2]; decide), if_pos h2, if_neg (by omega)]
      · rw [if_neg (show ¬ iI (i s : Int) = (0 : Int32) from ne0 (by omega) (by omega)), if_neg h2]
        exact ih (s + 1) m _ (iI_s s) (by omega) (by omega)
set_option maxRecDepth 20000 in
set_option maxHeartbeats 400000 in
theorem exM2 {B1 B2 B3 B4 B5 B6 B7 : List Int32} {b1 b2 b3 b4 r : Int32} (h : MJ (B1, B2, B3, B4, B5, B6, B7, b1, b2, b3, b4)) : ∃ Mz : Hs, some (B1, B2, B3, B4, B5, B6, B7, b1, b2, b3, b4, r) = some (Mz.1, Mz.2.1, Mz.2.2.1, Mz.2.2.2.1, Mz.2.2.2.2.1, Mz.2.2.2.2.2.1, Mz.2.2.2.2.2.2.1, Mz.2.2.2.2.2.2.2.1, Mz.2.2.2.2.2.2.2.2.1, Mz.2.2.2.2.2.2.2.2.2.1, Mz.2.2.2.2.2.2.2.2.2.2, r) ∧ MJ Mz := exM h
set_option maxRecDepth 20000 in
set_option maxHeartbeats 400000 in
theorem l_first {u hd k f g l i0 : Nat → Nat} {sh : Nat} (hE : OkE (u, hd, k, f, g, l)) (hsh : sh ≤ 7) (hi0 : ∀ j, i0 j ≤ 1) : ∀ (r s n D : Nat) (x : Int32) (t i : Nat → Nat) (co d : Nat), x = iI (s : Int) → s + r = 60 → r < n → OkX D (t, i, co, d) → D + r ≤ 2000 →
    ∃ Mz : Hs, X4_firstToComeIn_L7 (fun m_there_9 m_inn_10 m_coughs_11 m_day_12 => some (m_there_9, rn 6 u, rn 6 hd, rn 7 k, rn 7 f, rn 7 g, rn 7 l, iI (sh : Int), m_inn_10, m_coughs_11, m_day_12, (-9 : Int32))) (rn 6 u) (rn 6 hd) (rn 7 k) (rn 7 f) (rn 7 g) (rn 7 l) (iI sh) (iI (mk i0)) n x (rn 6 t) (iI (mk i)) (iI co) (iI d) = some (Mz.1, Mz.2.1, Mz.2.2.1, Mz.2.2.2.1, Mz.2.2.2.2.1, Mz.2.2.2.2.2.1, Mz.2.2.2.2.2.2.1, Mz.2.2.2.2.2.2.2.1, Mz.2.2.2.2.2.2.2.2.1, Mz.2.2.2.2.2.2.2.2.2.1, Mz.2.2.2.2.2.2.2.2.2.2, iI (fst1 (u, hd, k, f, g, l) sh i0 r (t, i, co, d))) ∧ MJ Mz := by
  intro r
  induction r with
  | zero =>
    intro s n D x t i co d hx hs hn hX hD
    obtain ⟨m, rfl⟩ : ∃ m, n = m + 1 := ⟨n - 1, by omega⟩
    subst hx
    rw [X4_firstToComeIn_L7, L60, if_pos (tle (by omega) (by omega) (by omega)), ← e9]
    exact exM ⟨rn_len, rn_len, rn_len, rn_len, rn_len, rn_len, rn_len⟩
  | succ r ih =>
    intro s n D x t i co d hx hs hn hX hD
    obtain ⟨m, rfl⟩ : ∃ m, n = m + 1 := ⟨n - 1, by omega⟩
    subst hx
    have hz := dayX_ok (e := (u, hd, k, f, g, l)) (sh := sh) (b := 0) (fr := 6) hX
    have w0 := s_X0_passDay (b := 0) hE hsh (by omega) (hX.mono (show D ≤ 2000 by omega))
    rw [z00] at w0
    rw [X4_firstToComeIn_L7, L60, if_neg (fle (by omega) (by omega) (by omega)), w0, Option.bind_some, l_scan hz.2.1 hi0 hsh _ sh 0 1000 0 (by decide) (by omega) (by omega), fst1]
    by_cases c : scan (dayX (u, hd, k, f, g, l) sh 0 6 (t, i, co, d)).2.1 i0 sh 0 = -9
    · rw [if_pos c, if_pos c]
      exact ih (s + 1) m (D + 1) _ _ _ _ _ (iI_s s) (by omega) (by omega) hz (by omega)
    · rw [if_neg c, if_neg c]
      exact exM ⟨rn_len, rn_len, rn_len, rn_len, rn_len, rn_len, rn_len⟩
set_option maxRecDepth 20000 in
set_option maxHeartbeats 400000 in
theorem l_firstOne {u hd k f g l t i : Nat → Nat} {sh co d : Nat} {F0 : Nat → Int32} (hE : OkE (u, hd, k, f, g, l)) (hsh : sh ≤ 7) (hX : OkX 1000 (t, i, co, d)) : ∀ (r s n : Nat) {x z1 z2 : Int32} {B C : Int} {F : Nat → Int32}, x = iI (s : Int) → s + r = sh → r < n → Kp F0 F →
    ((B = -9 ∧ C = 61 ∧ ∀ j, j < s → (cmX (u, hd, k, f, g, l) sh 0 6 j 60 0 (t, i, co, d)).1 ≤ 0) ∨ (∃ b : Nat, b < s ∧ B = (b : Int) ∧ C = (cmX (u, hd, k, f, g, l) sh 0 6 b 60 0 (t, i, co, d)).1 ∧ 1 ≤ C ∧ ∀ j, j < s → 1 ≤ (cmX (u, hd, k, f, g, l) sh 0 6 j 60 0 (t, i, co, d)).1 → C ≤ (cmX (u, hd, k, f, g, l) sh 0 6 j 60 0 (t, i, co, d)).1 ∧ (j < b → C < (cmX (u, hd, k, f, g, l) sh 0 6 j 60 0 (t, i, co, d)).1))) →
    ∃ (F1 : Nat → Int32) (y1 y2 : Int32) (v : Int), X5_firstOne_L8 (fun y1_3 there_4 used_5 hidden_6 kind_7 figure_8 good_9 load_10 inn_11 kept_12 ships_13 coughs_14 day_15 isKeeping_16 cursor_17 => some (there_4, used_5, hidden_6, kind_7, figure_8, good_9, load_10, inn_11, kept_12, ships_13, coughs_14, day_15, isKeeping_16, cursor_17, y1_3)) 0 (iI (fI 6)) n (iI B) (iI C) x (rn 6 t) (rn 6 u) (rn 6 hd) (rn 7 k) (rn 7 f) (rn 7 g) (rn 7 l) (rn 7 i) (rq 616 F) (iI sh) (iI co) (iI d) z1 z2 = some (rn 6 t, rn 6 u, rn 6 hd, rn 7 k, rn 7 f, rn 7 g, rn 7 l, rn 7 i, rq 616 F1, iI sh, iI co, iI d, y1, y2, iI v) ∧ Kp F0 F1 ∧
      ((v = -9 ∧ ∀ j, j < sh → (cmX (u, hd, k, f, g, l) sh 0 6 j 60 0 (t, i, co, d)).1 ≤ 0) ∨ (∃ b : Nat, b < sh ∧ v = (b : Int) ∧ 1 ≤ (cmX (u, hd, k, f, g, l) sh 0 6 b 60 0 (t, i, co, d)).1 ∧ ∀ j, j < sh → 1 ≤ (cmX (u, hd, k, f, g, l) sh 0 6 j 60 0 (t, i, co, d)).1 → (cmX (u, hd, k, f, g, l) sh 0 6 b 60 0 (t, i, co, d)).1 ≤ (cmX (u, hd, k, f, g, l) sh 0 6 j 60 0 (t, i, co, d)).1 ∧ (j < b → (cmX (u, hd, k, f, g, l) sh 0 6 b 60 0 (t, i, co, d)).1 < (cmX (u, hd, k, f, g, l) sh 0 6 j 60 0 (t, i, co, d)).1))) := by
  intro r
  induction r with
  | zero =>
    intro s n x z1 z2 B C F hx hs hn hK hI
    obtain ⟨m, rfl⟩ : ∃ m, n = m + 1 := ⟨n - 1, by omega⟩
    subst hx
    obtain rfl : s = sh := by omega
    rw [X5_firstOne_L8, if_pos (tle (by omega) (by omega) (by omega))]
    refine ⟨F, z1, z2, B, rfl, hK, ?_⟩
    rcases hI with ⟨h1, h2, h3⟩ | ⟨b, h1, h2, h3, h4, h5⟩
    · exact Or.inl ⟨h1, h3⟩
    · rw [h3] at h4
      refine Or.inr ⟨b, h1, h2, h4, fun j k1 k2 => ?_⟩
      rw [← h3]
      exact h5 j k1 k2
  | succ r ih =>
    intro s n x z1 z2 B C F hx hs hn hK hI
    obtain ⟨m, rfl⟩ : ∃ m, n = m + 1 := ⟨n - 1, by omega⟩
    subst hx
    have w0 := s_X5_comesIn (u := u) (hd := hd) (k := k) (f := f) (g := g) (l := l) (t := t) (i := i) (sh := sh) (co := co) (d := d) (F := F) (z1 := z1) (z2 := z2) (b := 0) (fr := 6) (s0 := s) (N := 60) (by omega) hE hsh (by omega) (by omega) (by omega) (hX.mono (by omega))
    have b3 := cmX_b (e := (u, hd, k, f, g, l)) (sh := sh) (b := 0) (fr := 6) (s := s) 60 0 (t, i, co, d)
    rw [z00] at w0
    rw [X5_firstOne_L8, if_neg (fle (by omega) (by omega) (by omega)), n60, w0, Option.bind_some]
    have bC : -9 ≤ C ∧ C ≤ 61 := by
      rcases hI with ⟨h1, h2, h3⟩ | ⟨b, h1, h2, h3, h4, h5⟩
      · omega
      · have := cmX_b (e := (u, hd, k, f, g, l)) (sh := sh) (b := 0) (fr := 6) (s := b) 60 0 (t, i, co, d)
        omega
    have ex : ∀ {j}, j < s + 1 → ¬ j < s → j = s := fun h1 h2 => by omega
    by_cases c1 : (cmX (u, hd, k, f, g, l) sh 0 6 s 60 0 (t, i, co, d)).1 ≤ 0
    · rw [if_pos (by rw [L0]; exact tle c1 (by omega) (by omega))]
      refine ih (s + 1) m (iI_s s) (by omega) (by omega) (hK.tr Kp.put2) ?_
      rcases hI with ⟨h1, h2, h3⟩ | ⟨b, h1, h2, h3, h4, h5⟩
      · refine Or.inl ⟨h1, h2, fun j hj => ?_⟩
        by_cases cj : j < s
        · exact h3 j cj
        · rw [ex hj cj]; exact c1
      · refine Or.inr ⟨b, by omega, h2, h3, h4, fun j hj k2 => ?_⟩
        by_cases cj : j < s
        · exact h5 j cj k2
        · rw [ex hj cj] at k2; omega
    · rw [if_neg (by rw [L0]; exact fle (by omega) (by omega) (by omega))]
      by_cases c2 : (cmX (u, hd, k, f, g, l) sh 0 6 s 60 0 (t, i, co, d)).1 < C
      · rw [if_pos (tlt c2 (by omega) (by omega))]
        refine ih (s + 1) m (iI_s s) (by omega) (by omega) (hK.tr Kp.put2) (Or.inr ⟨s, by omega, rfl, rfl, by omega, fun j hj k2 => ?_⟩)
        by_cases cj : j < s
        · rcases hI with ⟨h1, h2, h3⟩ | ⟨b, h1, h2, h3, h4, h5⟩
          · have := h3 j cj; omega
          · have := (h5 j cj k2).1
            omega
        · rw [ex hj cj]; omega
      · rw [if_neg (flt (by omega) (by omega) (by omega))]
        refine ih (s + 1) m (iI_s s) (by omega) (by omega) (hK.tr Kp.put2) ?_
        rcases hI with ⟨h1, h2, h3⟩ | ⟨b, h1, h2, h3, h4, h5⟩
        · omega
        · refine Or.inr ⟨b, by omega, h2, h3, h4, fun j hj k2 => ?_⟩
          by_cases cj : j < s
          · exact h5 j cj k2
          · rw [ex hj cj]; omega
set_option maxRecDepth 20000 in
set_option maxHeartbeats 400000 in
theorem first_eq {u hd k f g l t i : Nat → Nat} {sh co d : Nat} {v : Int} (hsh : sh ≤ 7) (hv : (v = -9 ∧ ∀ j, j < sh → (cmX (u, hd, k, f, g, l) sh 0 6 j 60 0 (t, i, co, d)).1 ≤ 0) ∨ (∃ b : Nat, b < sh ∧ v = (b : Int) ∧ 1 ≤ (cmX (u, hd, k, f, g, l) sh 0 6 b 60 0 (t, i, co, d)).1 ∧ ∀ j, j < sh → 1 ≤ (cmX (u, hd, k, f, g, l) sh 0 6 j 60 0 (t, i, co, d)).1 → (cmX (u, hd, k, f, g, l) sh 0 6 b 60 0 (t, i, co, d)).1 ≤ (cmX (u, hd, k, f, g, l) sh 0 6 j 60 0 (t, i, co, d)).1 ∧ (j < b → (cmX (u, hd, k, f, g, l) sh 0 6 b 60 0 (t, i, co, d)).1 < (cmX (u, hd, k, f, g, l) sh 0 6 j 60 0 (t, i, co, d)).1))) : fst1 (u, hd, k, f, g, l) sh i 60 (t, i, co, d) = v := by
  have cs := fun s => cm_spec (e := (u, hd, k, f, g, l)) (sh := sh) (b := 0) (fr := 6) (s := s) 60 0 (t, i, co, d)
  have out : ∀ s, 1 ≤ (cmX (u, hd, k, f, g, l) sh 0 6 s 60 0 (t, i, co, d)).1 → i s = 0 := by
    intro s h
    rcases cs s with ⟨h1, h2⟩ | ⟨j, h1, h2, h3, h4⟩
    · omega
    · exact h4 0 (by omega)
  have hit : ∀ s w, i s = 0 → 1 ≤ w → w ≤ 60 → ¬ (daysX (u, hd, k, f, g, l) sh 0 6 w (t, i, co, d)).2.1 s = 0 → 1 ≤ (cmX (u, hd, k, f, g, l) sh 0 6 s 60 0 (t, i, co, d)).1 ∧ (cmX (u, hd, k, f, g, l) sh 0 6 s 60 0 (t, i, co, d)).1 ≤ (w : Int) := by
    intro s w h0 g1 g2 g3
    rcases cs s with ⟨h1, h2⟩ | ⟨j, h1, h2, h3, h4⟩
    · exact absurd (h2 w g2) g3
    · have a1 : ¬ j = 0 := by
        intro z
        subst z
        exact h3 h0
      have a2 : ¬ w < j := fun z => g3 (h4 w z)
      omega
  rcases fst_spec (e := (u, hd, k, f, g, l)) (sh := sh) (i := i) 60 (t, i, co, d) with ⟨f1, f2⟩ | ⟨s, w, f1, f2, f3, f4, f5, f6, f7, f8⟩
  · rcases hv with ⟨h1, h2⟩ | ⟨b, h1, h2, h3, h4⟩
    · rw [f1, h1]
    · exfalso
      rcases cs b with ⟨g1, g2⟩ | ⟨j, g1, g2, g3, g4⟩
      · omega
      · exact g3 (f2 b h1 (out b h3) j (by omega) g1)
  · have k1 := hit s w f5 f2 f3 f6
    rcases hv with ⟨h1, h2⟩ | ⟨b, h1, h2, h3, h4⟩
    · have := h2 s f1
      omega
    · have k2 := h4 s f1 k1.1
      rcases cs b with ⟨g1, g2⟩ | ⟨j, g1, g2, g3, g4⟩
      · omega
      · have ib := out b h3
        have a1 : ¬ j < w := fun z => g3 (f7 b h1 ib j (by omega) z)
        have a2 : j = w := by omega
        subst a2
        have a3 : ¬ b < s := fun z => g3 (f8 b z ib)
        have a4 : ¬ s < b := fun z => by have := k2.2 z; omega
        rw [f4, h2]
        omega
set_option maxRecDepth 20000 in
set_option maxHeartbeats 400000 in
theorem op_comesF {A1 A2 A3 A4 A5 A6 A7 : List Int32} {a1 a2 a3 a4 : Int32} {u hd k f g l t i : Nat → Nat} {sh co d : Nat} {R : List Int32} {F : Nat → Int32} {z1 z2 : Int32} (hM : MJ (A1, A2, A3, A4, A5, A6, A7, a1, a2, a3, a4)) (hE : OkE (u, hd, k, f, g, l)) (hsh : sh ≤ 7) (hX : OkX 1000 (t, i, co, d)) (hR : R.length = 7) :
    ∃ (R1 : List Int32) (Mz : Hs) (F1 : Nat → Int32) (y1 y2 r : Int32), X4_comes R A1 A2 A3 A4 A5 A6 A7 (rn 6 t) (rn 6 u) (rn 6 hd) (rn 7 k) (rn 7 f) (rn 7 g) (rn 7 l) a1 a2 a3 a4 (iI sh) (iI (mk i)) (iI co) (iI d) (-1) = some (R1, Mz.1, Mz.2.1, Mz.2.2.1, Mz.2.2.2.1, Mz.2.2.2.2.1, Mz.2.2.2.2.2.1, Mz.2.2.2.2.2.2.1, Mz.2.2.2.2.2.2.2.1, Mz.2.2.2.2.2.2.2.2.1, Mz.2.2.2.2.2.2.2.2.2.1, Mz.2.2.2.2.2.2.2.2.2.2, r) ∧ X5_comes R (rn 6 t) (rn 6 u) (rn 6 hd) (rn 7 k) (rn 7 f) (rn 7 g) (rn 7 l) (rn 7 i) (rq 616 F) (iI sh) (iI co) (iI d) 0 z1 z2 (-9) (-1) = some (R1, rn 6 t, rn 6 u, rn 6 hd, rn 7 k, rn 7 f, rn 7 g, rn 7 l, rn 7 i, rq 616 F1, iI sh, iI co, iI d, y1, y2, r) ∧ MJ Mz ∧ Kp F F1 ∧ R1.length = 7 := by
  unfold X4_comes X5_comes X4_firstToComeIn X5_firstOne
  rw [if_pos rfl, if_pos rfl, if_neg (show ¬ (0 : Int32) ≤ -1 by decide), s_X4_fromNow hM, Option.bind_some]
  obtain ⟨Mz, e1, k1⟩ := l_first (i0 := i) hE hsh (xI hX) 60 0 1000 1000 0 t i co d (by decide) (by omega) (by omega) hX (by omega)
  obtain ⟨F1, y1, y2, v, e2, k2, k3⟩ := l_firstOne (F0 := F) (F := F) (z1 := z1) (z2 := z2) (B := -9) (C := 61) hE hsh hX sh 0 1000 (show (0 : Int32) = iI ((0 : Nat) : Int) by decide) (by omega) (by omega) Kp.rf (Or.inl ⟨rfl, rfl, fun j hj => absurd hj (by omega)⟩)
  rw [first_eq hsh k3] at e1
  rw [e1, Option.bind_some, show X5_firstOne_L8 _ 0 (-9) 1000 (-9) 61 0 (rn 6 t) (rn 6 u) (rn 6 hd) (rn 7 k) (rn 7 f) (rn 7 g) (rn 7 l) (rn 7 i) (rq 616 F) (iI sh) (iI co) (iI d) z1 z2 = _ from e2, Option.bind_some]
  exact ⟨R, Mz, F1, y1, y2, iI v, rfl, rfl, k1, k2, hR⟩
