/-! FEWEST -/
def tS (t : Nat → Nat) (m : Nat) : Nat → Nat := fun j => if m / 2 ^ j % 2 = 0 then t j else 0
def hS (t hd : Nat → Nat) (m : Nat) : Nat → Nat := fun j => if m / 2 ^ j % 2 = 0 then hd j else hd j + t j
/-- when s0 is IN, all of the goods of m hidden; -9 -/
def PW (e : Env) (sh s0 N : Nat) (x : XX) (m : Nat) : Int := (cmX (e.1, hS x.1 e.2.1 m, e.2.2) sh 0 6 s0 N 0 (tS x.1 m, x.2)).1
set_option maxRecDepth 20000 in
set_option maxHeartbeats 400000 in
theorem PW_b {e : Env} {sh s0 N : Nat} {x : XX} {m : Nat} : PW e sh s0 N x m = -9 ∨ (0 ≤ PW e sh s0 N x m ∧ PW e sh s0 N x m ≤ (N : Int)) := by
  have := cmX_b (e := (e.1, hS x.1 e.2.1 m, e.2.2)) (sh := sh) (b := 0) (fr := 6) (s := s0) N 0 (tS x.1 m, x.2)
  unfold PW
  omega
set_option maxRecDepth 20000 in
set_option maxHeartbeats 400000 in
theorem stepS {w f t : Nat → Nat} {s : Nat} (hw : ∀ j, w j = if j < s then f j else t j) (hv : t s = f s) : ∀ j, w j = if j < s + 1 then f j else t j := by
  intro j
  rw [hw j]
  by_cases h : j < s
  · rw [if_pos h, if_pos (by omega)]
  · rw [if_neg h]
    by_cases h1 : j = s
    · rw [if_pos (by omega), h1]; exact hv
    · rw [if_neg (by omega)]
set_option maxRecDepth 20000 in
set_option maxHeartbeats 400000 in
theorem l_without {t hd : Nat → Nat} {m : Nat} (ht : ∀ j, t j ≤ 99) (hh : ∀ j, hd j ≤ 99) (hm : m < 128) (K : List Int32 → List Int32 → Option (List Int32 × List Int32 × List Int32 × List Int32 × List Int32 × List Int32 × List Int32 × Int32 × Int32 × Int32 × Int32 × Int32)) : ∀ (r s n : Nat) (x : Int32) (w1 w2 : Nat → Nat), x = iI (s : Int) → s + r = 6 → r < n → (∀ j, w1 j = if j < s then tS t m j else t j) → (∀ j, w2 j = if j < s then hS t hd m j else hd j) → X4_isInWithout_L9 K (iI (m : Int)) n x (rn 6 w1) (rn 6 w2) = K (rn 6 (tS t m)) (rn 6 (hS t hd m)) := by
  intro r
  induction r with
  | zero =>
    intro s n x w1 w2 hx hs hn h1 h2
    obtain ⟨n, rfl⟩ : ∃ m, n = m + 1 := ⟨n - 1, by omega⟩
    subst hx
    obtain rfl : s = 6 := by omega
    rw [X4_isInWithout_L9, if_pos (by decide), endW h1, endW h2]
  | succ r ih =>
    intro s n x w1 w2 hx hs hn h1 h2
    obtain ⟨n, rfl⟩ : ∃ m, n = m + 1 := ⟨n - 1, by omega⟩
    subst hx
    have e1 : w1 s = t s := by rw [h1 s, if_neg (by omega)]
    have e2 : w2 s = hd s := by rw [h2 s, if_neg (by omega)]
    rw [X4_isInWithout_L9, if_neg (by rw [L6]; exact fle (by omega) (by omega) (by omega)), L31, L1, bit_rd hm (by omega) (by omega), Int.toNat_natCast]
    by_cases c : m / 2 ^ s % 2 = 0
    · rw [if_pos (by rw [c]; decide), ← L1, iI_s s]
      exact ih (s + 1) n _ _ _ rfl (by omega) (by omega) (stepS h1 (by unfold tS; rw [if_pos c])) (stepS h2 (by unfold hS; rw [if_pos c]))
    · have hw := (s_hideAway (t := w1) (hd := w2) (a := s) (n := (t s : Int)) (by omega) (by omega) (by omega)).1
      rw [if_neg (ne0 (by omega) (by omega)), ← L1, rd_rn (by omega) (by omega) (by omega), Option.bind_some, Int.toNat_natCast, e1, hw, Option.bind_some, iI_s s]
      exact ih (s + 1) n _ _ _ rfl (by omega) (by omega) (stepW h1 (by unfold tS; rw [if_neg c]; omega)) (stepW h2 (by unfold hS; rw [if_neg c]; omega))
set_option maxRecDepth 20000 in
set_option maxHeartbeats 400000 in
theorem l_short {t hd : Nat → Nat} {m : Nat} (ht : ∀ j, t j ≤ 99) (hh : ∀ j, hd j ≤ 99) (hm : m < 128) (K : List Int32 → List Int32 → Option (List Int32 × List Int32 × List Int32 × List Int32 × List Int32 × List Int32 × List Int32 × List Int32 × List Int32 × Int32 × Int32 × Int32 × Int32 × Int32 × Int32)) : ∀ (r s n : Nat) (x : Int32) (w1 w2 : Nat → Nat), x = iI (s : Int) → s + r = 6 → r < n → (∀ j, w1 j = if j < s then tS t m j else t j) → (∀ j, w2 j = if j < s then hS t hd m j else hd j) → X5_comesShort_L7 K (iI (m : Int)) n x (rn 6 w1) (rn 6 w2) = K (rn 6 (tS t m)) (rn 6 (hS t hd m)) := by
  intro r
  induction r with
  | zero =>
    intro s n x w1 w2 hx hs hn h1 h2
    obtain ⟨n, rfl⟩ : ∃ m, n = m + 1 := ⟨n - 1, by omega⟩
    subst hx
    obtain rfl : s = 6 := by omega
    rw [X5_comesShort_L7, if_pos (by decide), endW h1, endW h2]
  | succ r ih =>
    intro s n x w1 w2 hx hs hn h1 h2
    obtain ⟨n, rfl⟩ : ∃ m, n = m + 1 := ⟨n - 1, by omega⟩
    subst hx
    have e1 : w1 s = t s := by rw [h1 s, if_neg (by omega)]
    have e2 : w2 s = hd s := by rw [h2 s, if_neg (by omega)]
    rw [X5_comesShort_L7, if_neg (by rw [L6]; exact fle (by omega) (by omega) (by omega)), s_X5_has hm (by omega) (by omega), Option.bind_some, Int.toNat_natCast]
    by_cases c : m / 2 ^ s % 2 = 0
    · have hw := (s_hideAway (t := w1) (hd := w2) (a := s) (n := 0) (by omega) (by omega) (by omega)).2
      rw [if_pos (by rw [c]; decide), L0, hw, Option.bind_some, iI_s s]
      exact ih (s + 1) n _ _ _ rfl (by omega) (by omega) (stepW h1 (by unfold tS; rw [if_pos c]; omega)) (stepW h2 (by unfold hS; rw [if_pos c]; omega))
    · have hw := (s_hideAway (t := w1) (hd := w2) (a := s) (n := (t s : Int)) (by omega) (by omega) (by omega)).2
      rw [if_neg (ne0 (by omega) (by omega)), rd_rn (by omega) (by omega) (by omega), Option.bind_some, Int.toNat_natCast, e1, hw, Option.bind_some, iI_s s]
      exact ih (s + 1) n _ _ _ rfl (by omega) (by omega) (stepW h1 (by unfold tS; rw [if_neg c]; omega)) (stepW h2 (by unfold hS; rw [if_neg c]; omega))
set_option maxRecDepth 20000 in
set_option maxHeartbeats 400000 in
theorem tS_le {t : Nat → Nat} {m : Nat} (ht : ∀ j, t j ≤ 99) (j : Nat) : tS t m j ≤ 99 := by
  have := ht j
  unfold tS
  split <;> omega
set_option maxRecDepth 20000 in
set_option maxHeartbeats 400000 in
theorem hS_le {t hd : Nat → Nat} {m : Nat} (ht : ∀ j, t j ≤ 99) (hh : ∀ j, hd j ≤ 99) (j : Nat) : hS t hd m j ≤ 1000 := by
  have := ht j
  have := hh j
  unfold hS
  split <;> omega
set_option maxRecDepth 20000 in
set_option maxHeartbeats 400000 in
theorem s_X4_isInWithout {A1 A2 A3 A4 A5 A6 A7 : List Int32} {a1 a2 a3 a4 : Int32} {u hd k f g l t i : Nat → Nat} {sh co d : Nat} {m s0 N : Nat} (hM : MJ (A1, A2, A3, A4, A5, A6, A7, a1, a2, a3, a4)) (hE : OkE (u, hd, k, f, g, l)) (hhd : ∀ j, hd j ≤ 99) (hsh : sh ≤ 7) (hX : OkX 1000 (t, i, co, d)) (hs0 : s0 < 7) (hN : N ≤ 60) (hm : m < 128) : ∃ Mz : Hs, X4_isInWithout A1 A2 A3 A4 A5 A6 A7 (rn 6 t) (rn 6 u) (rn 6 hd) (rn 7 k) (rn 7 f) (rn 7 g) (rn 7 l) a1 a2 a3 a4 (iI sh) (iI (mk i)) (iI co) (iI d) (iI (m : Int)) (iI (s0 : Int)) (iI (N : Int)) = some (Mz.1, Mz.2.1, Mz.2.2.1, Mz.2.2.2.1, Mz.2.2.2.2.1, Mz.2.2.2.2.2.1, Mz.2.2.2.2.2.2.1, Mz.2.2.2.2.2.2.2.1, Mz.2.2.2.2.2.2.2.2.1, Mz.2.2.2.2.2.2.2.2.2.1, Mz.2.2.2.2.2.2.2.2.2.2, if PW (u, hd, k, f, g, l) sh s0 N (t, i, co, d) m = -9 then 0 else 1) ∧ MJ Mz := by
  have ht := xT hX
  have hE2 : OkE (u, hS t hd m, k, f, g, l) := hE.hd1 (hS_le ht hhd)
  have hX2 : OkX 1500 (tS t m, i, co, d) := (hX.mono (by omega)).t1 (tS_le ht)
  unfold X4_isInWithout
  rw [s_X4_fromNow hM, Option.bind_some, l_without ht hhd hm _ 6 0 1000 0 t hd (by decide) (by omega) (by omega) (fun j => by rw [if_neg (by omega)]) (fun j => by rw [if_neg (by omega)]), s_X0_daysUntilIn hE2 hsh hs0 (by omega) hX2, Option.bind_some]
  have e : (cmX (u, hS t hd m, k, f, g, l) sh 0 6 s0 N 0 (tS t m, i, co, d)).1 = PW (u, hd, k, f, g, l) sh s0 N (t, i, co, d) m := rfl
  have hb := PW_b (e := (u, hd, k, f, g, l)) (sh := sh) (s0 := s0) (N := N) (x := (t, i, co, d)) (m := m)
  by_cases c : PW (u, hd, k, f, g, l) sh s0 N (t, i, co, d) m = -9
  · rw [if_pos (show iI (cmX (u, hS t hd m, k, f, g, l) sh 0 6 s0 N 0 (tS t m, i, co, d)).1 = (-9 : Int32) by rw [e, c]; decide), if_pos c]
    exact exM ⟨rn_len, rn_len, rn_len, rn_len, rn_len, rn_len, rn_len⟩
  · rw [if_neg (show ¬ iI (cmX (u, hS t hd m, k, f, g, l) sh 0 6 s0 N 0 (tS t m, i, co, d)).1 = (-9 : Int32) by rw [e]; exact n9 (by omega) (by omega)), if_neg c]
    exact exM ⟨rn_len, rn_len, rn_len, rn_len, rn_len, rn_len, rn_len⟩
set_option maxRecDepth 20000 in
set_option maxHeartbeats 400000 in
theorem s_X5_comesShort {u hd k f g l t i : Nat → Nat} {sh co d : Nat} {m s0 N : Nat} {F : Nat → Int32} {z1 z2 : Int32} (hE : OkE (u, hd, k, f, g, l)) (hhd : ∀ j, hd j ≤ 99) (hsh : sh ≤ 7) (hX : OkX 1000 (t, i, co, d)) (hs0 : s0 < 7) (hN : N ≤ 60) (hm : m < 128) : ∃ (F1 : Nat → Int32) (y1 y2 : Int32), X5_comesShort (rn 6 t) (rn 6 u) (rn 6 hd) (rn 7 k) (rn 7 f) (rn 7 g) (rn 7 l) (rn 7 i) (rq 616 F) (iI sh) (iI co) (iI d) 0 z1 z2 (iI (fI 6)) (iI (m : Int)) (iI (s0 : Int)) (iI (N : Int)) = some (rn 6 t, rn 6 u, rn 6 hd, rn 7 k, rn 7 f, rn 7 g, rn 7 l, rn 7 i, rq 616 F1, iI sh, iI co, iI d, y1, y2, if PW (u, hd, k, f, g, l) sh s0 N (t, i, co, d) m = -9 then 0 else 1) ∧ Kp F F1 := by
  have ht := xT hX
  have hE2 : OkE (u, hS t hd m, k, f, g, l) := hE.hd1 (hS_le ht hhd)
  have hX2 : OkX 1500 (tS t m, i, co, d) := (hX.mono (by omega)).t1 (tS_le ht)
  have e : (cmX (u, hS t hd m, k, f, g, l) sh 0 6 s0 N 0 (tS t m, i, co, d)).1 = PW (u, hd, k, f, g, l) sh s0 N (t, i, co, d) m := rfl
  have hb := PW_b (e := (u, hd, k, f, g, l)) (sh := sh) (s0 := s0) (N := N) (x := (t, i, co, d)) (m := m)
  have w0 := s_X5_comesIn (u := u) (hd := hS t hd m) (k := k) (f := f) (g := g) (l := l) (t := tS t m) (i := i) (sh := sh) (co := co) (d := d) (F := put F (56 * 1) 56 (flat (u, hd, k, f, g, l) sh (t, i, co, d))) (z1 := 1) (z2 := iI ((56 * 1 + 56 : Nat) : Int)) (b := 0) (fr := 6) (s0 := s0) (N := N) (by omega) hE2 hsh (by omega) hs0 (by omega) hX2
  rw [z00, e] at w0
  have k0 := s_keepAll (u := u) (hd := hd) (k := k) (f := f) (g := g) (l := l) (t := t) (i := i) (sh := sh) (co := co) (d := d) (F := F) (z1 := z1) (z2 := z2) (w := 1) (by omega)
  rw [z11] at k0
  have b0 := s_backAllN (t1 := tS t m) (u1 := u) (hd1 := hS t hd m) (k1 := k) (f1 := f) (g1 := g) (l1 := l) (i1 := i) (u := u) (hd := hd) (k := k) (f := f) (g := g) (l := l) (t := t) (i := i) (sh := sh) (co := co) (d := d) (F := put (put F (56 * 1) 56 (flat (u, hd, k, f, g, l) sh (t, i, co, d))) 112 56 (flat (u, hS t hd m, k, f, g, l) sh (tS t m, i, co, d))) (z1 := 0) (z2 := iI 168) (z3 := iI sh) (z4 := iI co) (z5 := iI d) (w := 1) (by omega) (fun j hj => by unfold put; rw [if_neg (by omega), if_pos (by omega), show 56 * 1 + j - 56 * 1 = j by omega])
  rw [z11] at b0
  unfold X5_comesShort X5_changes
  rw [k0, Option.bind_some, Option.bind_some, l_short ht hhd hm _ 6 0 1000 0 t hd (by decide) (by omega) (by omega) (fun j => by rw [if_neg (by omega)]) (fun j => by rw [if_neg (by omega)]), w0, Option.bind_some]
  unfold X5_changesBack
  rw [b0, Option.bind_some]
  have hk : Kp F (put (put F (56 * 1) 56 (flat (u, hd, k, f, g, l) sh (t, i, co, d))) 112 56 (flat (u, hS t hd m, k, f, g, l) sh (tS t m, i, co, d))) := Kp.put1.tr Kp.put2
  by_cases c : PW (u, hd, k, f, g, l) sh s0 N (t, i, co, d) m = -9
  · rw [if_pos c, c, if_pos (show iI (-9) < (0 : Int32) by decide), Option.bind_some]
    exact ⟨_, _, _, rfl, hk⟩
  · rw [if_neg c, if_neg (m9 (by omega) (by omega)), Option.bind_some]
    exact ⟨_, _, _, rfl, hk⟩
/-- the first from s on, r of them, of so many bits, for which P is not -9 -/
def fset (P : Nat → Int) (z : Nat) : Nat → Nat → Int
  | 0, _ => -9
  | r + 1, s => if pc s = z then (if P s = -9 then fset P z r (s + 1) else (s : Int)) else fset P z r (s + 1)
def fsize (P : Nat → Int) : Nat → Nat → Int
  | 0, _ => -9
  | r + 1, z => if fset P z 64 0 = -9 then fsize P r (z + 1) else fset P z 64 0
set_option maxRecDepth 20000 in
set_option maxHeartbeats 400000 in
theorem fset_spec {P : Nat → Int} {z : Nat} : ∀ r s : Nat, (fset P z r s = -9 ∧ ∀ j, s ≤ j → j < s + r → pc j = z → P j = -9) ∨ (∃ b : Nat, s ≤ b ∧ b < s + r ∧ fset P z r s = (b : Int) ∧ pc b = z ∧ ¬ P b = -9 ∧ ∀ j, s ≤ j → j < b → pc j = z → P j = -9) := by
  intro r
  induction r with
  | zero => intro s; exact Or.inl ⟨rfl, fun j h1 h2 => absurd h2 (by omega)⟩
  | succ r ih =>
    intro s
    have up : (pc s = z → P s = -9) → fset P z (r + 1) s = fset P z r (s + 1) → ((fset P z (r + 1) s = -9 ∧ ∀ j, s ≤ j → j < s + (r + 1) → pc j = z → P j = -9) ∨ (∃ b : Nat, s ≤ b ∧ b < s + (r + 1) ∧ fset P z (r + 1) s = (b : Int) ∧ pc b = z ∧ ¬ P b = -9 ∧ ∀ j, s ≤ j → j < b → pc j = z → P j = -9)) := by
      intro h0 e
      rw [e]
      rcases ih (s + 1) with ⟨h1, h2⟩ | ⟨b, h1, h2, h3, h4, h5, h6⟩
      · refine Or.inl ⟨h1, fun j g1 g2 g3 => ?_⟩
        by_cases c : j = s
        · subst c; exact h0 g3
        · exact h2 j (by omega) (by omega) g3
      · refine Or.inr ⟨b, by omega, by omega, h3, h4, h5, fun j g1 g2 g3 => ?_⟩
        by_cases c : j = s
        · subst c; exact h0 g3
        · exact h6 j (by omega) g2 g3
    by_cases c1 : pc s = z
    · by_cases c2 : P s = -9
      · exact up (fun _ => c2) (by rw [fset, if_pos c1, if_pos c2])
      · exact Or.inr ⟨s, Nat.le_refl _, by omega, by rw [fset, if_pos c1, if_neg c2], c1, c2, fun j g1 g2 => absurd g2 (by omega)⟩
    · exact up (fun z => absurd z c1) (by rw [fset, if_neg c1])
set_option maxRecDepth 20000 in
set_option maxHeartbeats 400000 in
theorem fsize_spec {P : Nat → Int} : ∀ r z : Nat, (fsize P r z = -9 ∧ ∀ j, j < 64 → z ≤ pc j → pc j < z + r → P j = -9) ∨ (∃ b : Nat, b < 64 ∧ fsize P r z = (b : Int) ∧ ¬ P b = -9 ∧ ∀ j, j < 64 → z ≤ pc j → ¬ P j = -9 → pc b ≤ pc j ∧ (pc j = pc b → b ≤ j)) := by
  intro r
  induction r with
  | zero => intro z; exact Or.inl ⟨rfl, fun j _ h1 h2 => absurd h2 (by omega)⟩
  | succ r ih =>
    intro z
    rcases fset_spec (P := P) (z := z) 64 0 with ⟨h1, h2⟩ | ⟨b, h1, h2, h3, h4, h5, h6⟩
    · have e1 : fsize P (r + 1) z = fsize P r (z + 1) := by rw [fsize, if_pos h1]
      rw [e1]
      rcases ih (z + 1) with ⟨g1, g2⟩ | ⟨b, g1, g2, g3, g4⟩
      · refine Or.inl ⟨g1, fun j k1 k2 k3 => ?_⟩
        by_cases c : pc j = z
        · exact h2 j (by omega) (by omega) c
        · exact g2 j k1 (by omega) (by omega)
      · refine Or.inr ⟨b, g1, g2, g3, fun j k1 k2 k3 => ?_⟩
        by_cases c : pc j = z
        · exact absurd (h2 j (by omega) (by omega) c) k3
        · exact g4 j k1 (by omega) k3
    · have e1 : fsize P (r + 1) z = (b : Int) := by rw [fsize, h3, if_neg (by omega)]
      refine Or.inr ⟨b, by omega, e1, h5, fun j k1 k2 k3 => ⟨by omega, fun k4 => ?_⟩⟩
      by_cases c : j < b
      · exact absurd (h6 j (by omega) c (by omega)) k3
      · omega
set_option maxRecDepth 20000 in
set_option maxHeartbeats 400000 in
theorem tb_pc : (List.range 64).all (fun m => decide (pc m ≤ 6)) = true := by decide
set_option maxRecDepth 20000 in
set_option maxHeartbeats 400000 in
theorem pc_le {m : Nat} (hm : m < 64) : pc m ≤ 6 := of_decide_eq_true (List.all_eq_true.mp tb_pc m (List.mem_range.mpr hm))
set_option maxRecDepth 20000 in
set_option maxHeartbeats 400000 in
theorem l_48 {u hd k f g l t i : Nat → Nat} {sh co d : Nat} {R : List Int32} {s0 N z : Nat} (hE : OkE (u, hd, k, f, g, l)) (hhd : ∀ j, hd j ≤ 99) (hsh : sh ≤ 7) (hX : OkX 1000 (t, i, co, d)) (hs0 : s0 < 7) (hN : N ≤ 60) (hz : z ≤ 6) (K : List Int32 → List Int32 → List Int32 → List Int32 → List Int32 → List Int32 → List Int32 → Int32 → Int32 → Int32 → Int32 → Option (List Int32 × List Int32 × List Int32 × List Int32 × List Int32 × List Int32 × List Int32 × List Int32 × Int32 × Int32 × Int32 × Int32 ×  Int32)) : ∀ (r s n : Nat) {A1 A2 A3 A4 A5 A6 A7 : List Int32} {a1 a2 a3 a4 : Int32} {x5 : Int32}, x5 = iI (s : Int) → s + r = 64 → r < n → MJ (A1, A2, A3, A4, A5, A6, A7, a1, a2, a3, a4) →
    ∃ Mz : Hs, X4_fewest_L48 K R (rn 6 t) (rn 6 u) (rn 6 hd) (rn 7 k) (rn 7 f) (rn 7 g) (rn 7 l) (iI sh) (iI (mk i)) (iI co) (iI d) (iI (s0 : Int)) (iI (N : Int)) (iI (z : Int)) n x5 A1 A2 A3 A4 A5 A6 A7 a1 a2 a3 a4 = (if fset (PW (u, hd, k, f, g, l) sh s0 N (t, i, co, d)) z r s = -9 then K Mz.1 Mz.2.1 Mz.2.2.1 Mz.2.2.2.1 Mz.2.2.2.2.1 Mz.2.2.2.2.2.1 Mz.2.2.2.2.2.2.1 Mz.2.2.2.2.2.2.2.1 Mz.2.2.2.2.2.2.2.2.1 Mz.2.2.2.2.2.2.2.2.2.1 Mz.2.2.2.2.2.2.2.2.2.2 else some (R, Mz.1, Mz.2.1, Mz.2.2.1, Mz.2.2.2.1, Mz.2.2.2.2.1, Mz.2.2.2.2.2.1, Mz.2.2.2.2.2.2.1, Mz.2.2.2.2.2.2.2.1, Mz.2.2.2.2.2.2.2.2.1, Mz.2.2.2.2.2.2.2.2.2.1, Mz.2.2.2.2.2.2.2.2.2.2, iI (fset (PW (u, hd, k, f, g, l) sh s0 N (t, i, co, d)) z r s))) ∧ MJ Mz := by
  intro r
  induction r with
  | zero =>
    intro s n A1 A2 A3 A4 A5 A6 A7 a1 a2 a3 a4 x5 hx hs hn hM
    obtain ⟨m, rfl⟩ : ∃ m, n = m + 1 := ⟨n - 1, by omega⟩
    subst hx
    rw [X4_fewest_L48, if_pos (show (64 : Int32) ≤ iI (s : Int) by rw [show (64 : Int32) = iI 64 by decide]; exact tle (by omega) (by omega) (by omega))]
    exact ⟨(A1, A2, A3, A4, A5, A6, A7, a1, a2, a3, a4), rfl, hM⟩
  | succ r ih =>
    intro s n A1 A2 A3 A4 A5 A6 A7 a1 a2 a3 a4 x5 hx hs hn hM
    obtain ⟨m, rfl⟩ : ∃ m, n = m + 1 := ⟨n - 1, by omega⟩
    subst hx
    have hp := pc_le (m := s) (by omega)
    rw [X4_fewest_L48, if_neg (show ¬ (64 : Int32) ≤ iI (s : Int) by rw [show (64 : Int32) = iI 64 by decide]; exact fle (by omega) (by omega) (by omega)), (s_bits (show s < 128 by omega)).1, Option.bind_some, fset]
    by_cases c1 : pc s = z
    · obtain ⟨M1, e1, k1⟩ := s_X4_isInWithout (m := s) hM hE hhd hsh hX hs0 hN (by omega)
      rw [if_pos (show iI (pc s : Int) = iI (z : Int) by rw [c1]), if_pos c1, e1, Option.bind_some]
      by_cases c2 : PW (u, hd, k, f, g, l) sh s0 N (t, i, co, d) s = -9
      · rw [if_pos c2, if_pos c2, if_pos (show (0 : Int32) = 0 from rfl)]
        exact ih (s + 1) m (iI_s s) (by omega) (by omega) k1
      · rw [if_neg c2, if_neg c2, if_neg c10]
        exact ⟨M1, by rw [if_neg (show ¬ (s : Int) = -9 by omega)], k1⟩
    · rw [if_neg (show ¬ iI (pc s : Int) = iI (z : Int) from feq (by omega) (by omega) (by omega) (by omega) (by omega)), if_neg c1]
      exact ih (s + 1) m (iI_s s) (by omega) (by omega) hM
set_option maxRecDepth 20000 in
set_option maxHeartbeats 400000 in
theorem l_38 {u hd k f g l t i : Nat → Nat} {sh co d : Nat} {R : List Int32} {s0 N : Nat} (hE : OkE (u, hd, k, f, g, l)) (hhd : ∀ j, hd j ≤ 99) (hsh : sh ≤ 7) (hX : OkX 1000 (t, i, co, d)) (hs0 : s0 < 7) (hN : N ≤ 60) : ∀ (r z n : Nat) {A1 A2 A3 A4 A5 A6 A7 : List Int32} {a1 a2 a3 a4 : Int32} {x4 : Int32}, x4 = iI (z : Int) → z + r = 7 → r < n → MJ (A1, A2, A3, A4, A5, A6, A7, a1, a2, a3, a4) →
    ∃ Mz : Hs, X4_fewest_L38 (fun (q1 q2 q3 q4 q5 q6 q7 : List Int32) (q8 q9 q10 q11 : Int32) => some (R, q1, q2, q3, q4, q5, q6, q7, q8, q9, q10, q11, (-9 : Int32))) R (rn 6 t) (rn 6 u) (rn 6 hd) (rn 7 k) (rn 7 f) (rn 7 g) (rn 7 l) (iI sh) (iI (mk i)) (iI co) (iI d) (iI (s0 : Int)) (iI (N : Int)) n x4 A1 A2 A3 A4 A5 A6 A7 a1 a2 a3 a4 = some (R, Mz.1, Mz.2.1, Mz.2.2.1, Mz.2.2.2.1, Mz.2.2.2.2.1, Mz.2.2.2.2.2.1, Mz.2.2.2.2.2.2.1, Mz.2.2.2.2.2.2.2.1, Mz.2.2.2.2.2.2.2.2.1, Mz.2.2.2.2.2.2.2.2.2.1, Mz.2.2.2.2.2.2.2.2.2.2, iI (fsize (PW (u, hd, k, f, g, l) sh s0 N (t, i, co, d)) r z)) ∧ MJ Mz := by
  intro r
  induction r with
  | zero =>
    intro z n A1 A2 A3 A4 A5 A6 A7 a1 a2 a3 a4 x4 hx hs hn hM
    obtain ⟨m, rfl⟩ : ∃ m, n = m + 1 := ⟨n - 1, by omega⟩
    subst hx
    rw [X4_fewest_L38, if_pos (show (6 : Int32) < iI (z : Int) by rw [L6]; exact tlt (by omega) (by omega) (by omega)), ← e9]
    exact ⟨(A1, A2, A3, A4, A5, A6, A7, a1, a2, a3, a4), rfl, hM⟩
  | succ r ih =>
    intro z n A1 A2 A3 A4 A5 A6 A7 a1 a2 a3 a4 x4 hx hs hn hM
    obtain ⟨m, rfl⟩ : ∃ m, n = m + 1 := ⟨n - 1, by omega⟩
    subst hx
    rw [X4_fewest_L38, if_neg (show ¬ (6 : Int32) < iI (z : Int) by rw [L6]; exact flt (by omega) (by omega) (by omega))]
    obtain ⟨M1, e1, k1⟩ := l_48 (R := R) (z := z) hE hhd hsh hX hs0 hN (by omega) (fun (q1 q2 q3 q4 q5 q6 q7 : List Int32) (q8 q9 q10 q11 : Int32) => X4_fewest_L38 (fun (q1 q2 q3 q4 q5 q6 q7 : List Int32) (q8 q9 q10 q11 : Int32) => some (R, q1, q2, q3, q4, q5, q6, q7, q8, q9, q10, q11, (-9 : Int32))) R (rn 6 t) (rn 6 u) (rn 6 hd) (rn 7 k) (rn 7 f) (rn 7 g) (rn 7 l) (iI sh) (iI (mk i)) (iI co) (iI d) (iI (s0 : Int)) (iI (N : Int)) m (iI (z : Int) + 1) q1 q2 q3 q4 q5 q6 q7 q8 q9 q10 q11) 64 0 1000 (show (0 : Int32) = iI ((0 : Nat) : Int) by decide) (by omega) (by omega) hM
    rw [e1, fsize]
    by_cases c : fset (PW (u, hd, k, f, g, l) sh s0 N (t, i, co, d)) z 64 0 = -9
    · rw [if_pos c, if_pos c]
      exact ih (z + 1) m (iI_s z) (by omega) (by omega) k1
    · rw [if_neg c, if_neg c]
      exact ⟨M1, rfl, k1⟩
set_option maxRecDepth 20000 in
set_option maxHeartbeats 400000 in
theorem l_fewest {u hd k f g l t i : Nat → Nat} {sh co d : Nat} {R : List Int32} {s0 N : Nat} {F0 : Nat → Int32} (hE : OkE (u, hd, k, f, g, l)) (hhd : ∀ j, hd j ≤ 99) (hsh : sh ≤ 7) (hX : OkX 1000 (t, i, co, d)) (hs0 : s0 < 7) (hN : N ≤ 60) : ∀ (r s n : Nat) {x z1 z2 : Int32} {B : Int} {F : Nat → Int32}, x = iI (s : Int) → s + r = 64 → r < n → Kp F0 F →
    ((B = -9 ∧ ∀ j, j < s → PW (u, hd, k, f, g, l) sh s0 N (t, i, co, d) j = -9) ∨ (∃ b : Nat, b < s ∧ B = (b : Int) ∧ ¬ PW (u, hd, k, f, g, l) sh s0 N (t, i, co, d) b = -9 ∧ ∀ j, j < s → ¬ PW (u, hd, k, f, g, l) sh s0 N (t, i, co, d) j = -9 → pc b ≤ pc j ∧ (pc j = pc b → b ≤ j))) →
    ∃ (F1 : Nat → Int32) (y1 y2 : Int32) (v : Int), X5_fewest_L37 (fun (y : Int32) (q1 q2 q3 q4 q5 q6 q7 q8 q9 : List Int32) (q10 q11 q12 q13 q14 : Int32) => some (R, q1, q2, q3, q4, q5, q6, q7, q8, q9, q10, q11, q12, q13, q14, y)) 0 (iI (fI 6)) (iI (s0 : Int)) (iI (N : Int)) n (iI B) x (rn 6 t) (rn 6 u) (rn 6 hd) (rn 7 k) (rn 7 f) (rn 7 g) (rn 7 l) (rn 7 i) (rq 616 F) (iI sh) (iI co) (iI d) z1 z2 = some (R, rn 6 t, rn 6 u, rn 6 hd, rn 7 k, rn 7 f, rn 7 g, rn 7 l, rn 7 i, rq 616 F1, iI sh, iI co, iI d, y1, y2, iI v) ∧ Kp F0 F1 ∧ ((v = -9 ∧ ∀ j, j < 64 → PW (u, hd, k, f, g, l) sh s0 N (t, i, co, d) j = -9) ∨ (∃ b : Nat, b < 64 ∧ v = (b : Int) ∧ ¬ PW (u, hd, k, f, g, l) sh s0 N (t, i, co, d) b = -9 ∧ ∀ j, j < 64 → ¬ PW (u, hd, k, f, g, l) sh s0 N (t, i, co, d) j = -9 → pc b ≤ pc j ∧ (pc j = pc b → b ≤ j))) := by
  intro r
  induction r with
  | zero =>
    intro s n x z1 z2 B F hx hs hn hK hI
    obtain ⟨m, rfl⟩ : ∃ m, n = m + 1 := ⟨n - 1, by omega⟩
    subst hx
    obtain rfl : s = 64 := by omega
    rw [X5_fewest_L37, if_pos (by decide)]
    exact ⟨F, z1, z2, B, rfl, hK, hI⟩
  | succ r ih =>
    intro s n x z1 z2 B F hx hs hn hK hI
    obtain ⟨m, rfl⟩ : ∃ m, n = m + 1 := ⟨n - 1, by omega⟩
    subst hx
    have hp := pc_le (m := s) (by omega)
    have ex : ∀ {j}, j < s + 1 → ¬ j < s → j = s := fun h1 h2 => by omega
    obtain ⟨F1, y1, y2, e1, k1⟩ := s_X5_comesShort (m := s) (F := F) (z1 := z1) (z2 := z2) hE hhd hsh hX hs0 hN (by omega)
    rw [X5_fewest_L37, if_neg (show ¬ (63 : Int32) < iI (s : Int) by rw [L63]; exact flt (by omega) (by omega) (by omega))]
    rcases hI with ⟨rfl, h2⟩ | ⟨b, h1, rfl, h3, h4⟩
    · rw [if_pos (show iI (-9) < (0 : Int32) by decide), e1, Option.bind_some]
      by_cases c : PW (u, hd, k, f, g, l) sh s0 N (t, i, co, d) s = -9
      · rw [if_pos c, if_pos (show (0 : Int32) = 0 from rfl)]
        refine ih (s + 1) m (iI_s s) (by omega) (by omega) (hK.tr k1) (Or.inl ⟨rfl, fun j hj => ?_⟩)
        by_cases cj : j < s
        · exact h2 j cj
        · rw [ex hj cj]; exact c
      · rw [if_neg c, if_neg c10]
        refine ih (s + 1) m (iI_s s) (by omega) (by omega) (hK.tr k1) (Or.inr ⟨s, by omega, rfl, c, fun j hj k2 => ?_⟩)
        by_cases cj : j < s
        · exact absurd (h2 j cj) k2
        · rw [ex hj cj]; exact ⟨Nat.le_refl _, fun _ => Nat.le_refl _⟩
    · have hpb := pc_le (m := b) (by omega)
      rw [if_neg (m9 (by omega) (by omega)), (s_bits (show s < 128 by omega)).2, Option.bind_some, (s_bits (show b < 128 by omega)).2, Option.bind_some]
      by_cases c0 : pc b ≤ pc s
      · rw [if_pos (tle (by omega) (by omega) (by omega))]
        refine ih (s + 1) m (iI_s s) (by omega) (by omega) hK (Or.inr ⟨b, by omega, rfl, h3, fun j hj k2 => ?_⟩)
        by_cases cj : j < s
        · exact h4 j cj k2
        · rw [ex hj cj]; omega
      · rw [if_neg (fle (by omega) (by omega) (by omega)), e1, Option.bind_some]
        by_cases c : PW (u, hd, k, f, g, l) sh s0 N (t, i, co, d) s = -9
        · rw [if_pos c, if_pos (show (0 : Int32) = 0 from rfl)]
          refine ih (s + 1) m (iI_s s) (by omega) (by omega) (hK.tr k1) (Or.inr ⟨b, by omega, rfl, h3, fun j hj k2 => ?_⟩)
          by_cases cj : j < s
          · exact h4 j cj k2
          · rw [ex hj cj] at k2; exact absurd c k2
        · rw [if_neg c, if_neg c10]
          refine ih (s + 1) m (iI_s s) (by omega) (by omega) (hK.tr k1) (Or.inr ⟨s, by omega, rfl, c, fun j hj k2 => ?_⟩)
          by_cases cj : j < s
          · have := (h4 j cj k2).1
            omega
          · rw [ex hj cj]; exact ⟨Nat.le_refl _, fun _ => Nat.le_refl _⟩
set_option maxRecDepth 20000 in
set_option maxHeartbeats 400000 in
theorem fewest_eq {P : Nat → Int} {v : Int} (hv : (v = -9 ∧ ∀ j, j < 64 → P j = -9) ∨ (∃ b : Nat, b < 64 ∧ v = (b : Int) ∧ ¬ P b = -9 ∧ ∀ j, j < 64 → ¬ P j = -9 → pc b ≤ pc j ∧ (pc j = pc b → b ≤ j))) : fsize P 7 0 = v := by
  rcases fsize_spec (P := P) 7 0 with ⟨f1, f2⟩ | ⟨b, f1, f2, f3, f4⟩
  · rcases hv with ⟨h1, h2⟩ | ⟨c, h1, h2, h3, h4⟩
    · rw [f1, h1]
    · exact absurd (f2 c h1 (by omega) (by have := pc_le h1; omega)) h3
  · rcases hv with ⟨h1, h2⟩ | ⟨c, h1, h2, h3, h4⟩
    · exact absurd (h2 b f1) f3
    · have a := h4 b f1 f3
      have a2 := f4 c h1 (by omega) h3
      have a3 := a.2 (by omega)
      have a4 := a2.2 (by omega)
      rw [f2, h2]
      omega
set_option maxRecDepth 20000 in
set_option maxHeartbeats 400000 in
theorem op_fewest {A1 A2 A3 A4 A5 A6 A7 : List Int32} {a1 a2 a3 a4 : Int32} {u hd k f g l t i : Nat → Nat} {sh co d : Nat} {R : List Int32} {F : Nat → Int32} {z1 z2 p q : Int32} (hM : MJ (A1, A2, A3, A4, A5, A6, A7, a1, a2, a3, a4)) (hE : OkE (u, hd, k, f, g, l)) (hhd : ∀ j, hd j ≤ 99) (hsh : sh ≤ 7) (hX : OkX 1000 (t, i, co, d)) (hR : R.length = 7) :
    ∃ (R1 : List Int32) (Mz : Hs) (F1 : Nat → Int32) (y1 y2 r : Int32), X4_fewest R A1 A2 A3 A4 A5 A6 A7 (rn 6 t) (rn 6 u) (rn 6 hd) (rn 7 k) (rn 7 f) (rn 7 g) (rn 7 l) a1 a2 a3 a4 (iI sh) (iI (mk i)) (iI co) (iI d) p q = some (R1, Mz.1, Mz.2.1, Mz.2.2.1, Mz.2.2.2.1, Mz.2.2.2.2.1, Mz.2.2.2.2.2.1, Mz.2.2.2.2.2.2.1, Mz.2.2.2.2.2.2.2.1, Mz.2.2.2.2.2.2.2.2.1, Mz.2.2.2.2.2.2.2.2.2.1, Mz.2.2.2.2.2.2.2.2.2.2, r) ∧ X5_fewest R (rn 6 t) (rn 6 u) (rn 6 hd) (rn 7 k) (rn 7 f) (rn 7 g) (rn 7 l) (rn 7 i) (rq 616 F) (iI sh) (iI co) (iI d) 0 z1 z2 (-9) p q = some (R1, rn 6 t, rn 6 u, rn 6 hd, rn 7 k, rn 7 f, rn 7 g, rn 7 l, rn 7 i, rq 616 F1, iI sh, iI co, iI d, y1, y2, r) ∧ MJ Mz ∧ Kp F F1 ∧ R1.length = 7 := by
  have h1 := s_refuse (R := R) (c := 1) hR (by omega) (by omega)
  have h4 := s_refuse (R := R) (c := 4) hR (by omega) (by omega)
  have h6 := s_refuse (R := R) (c := 6) hR (by omega) (by omega)
  unfold X4_fewest X5_fewest
  rcases ship_cases hsh p with ⟨s0, hs0, rfl, g3, g4⟩ | ⟨g3, g4⟩
  · rw [g3, g4, Option.bind_some, Option.bind_some, if_neg c10, if_neg c10]
    rcases fit_cases (lo := 1) (hi := 60) (by omega) (by omega) q with ⟨n, hn1, hn, rfl, e1, e2⟩ | ⟨e1, e2⟩ | ⟨e1, e2⟩
    · rw [show X4_misfit (iI (n : Int)) 1 60 = some 0 from e1, show X5_bound (iI (n : Int)) 1 60 = some 0 from e2, Option.bind_some, Option.bind_some, if_pos rfl, if_pos rfl]
      obtain ⟨Mz, w1, k1⟩ := l_38 (R := R) hE hhd hsh hX (show s0 < 7 by omega) hn 7 0 1000 (show (0 : Int32) = iI ((0 : Nat) : Int) by decide) (by omega) (by omega) hM
      obtain ⟨F1, y1, y2, v, w2, k2, k3⟩ := l_fewest (R := R) (F0 := F) (F := F) (z1 := z1) (z2 := z2) (B := -9) hE hhd hsh hX (show s0 < 7 by omega) hn 64 0 1000 (show (0 : Int32) = iI ((0 : Nat) : Int) by decide) (by omega) (by omega) Kp.rf (Or.inl ⟨rfl, fun j hj => absurd hj (by omega)⟩)
      rw [fewest_eq k3] at w1
      exact ⟨R, Mz, F1, y1, y2, iI v, w1, w2, k1, k2, hR⟩
    · rw [show X4_misfit q 1 60 = some (-4) from e1, show X5_bound q 1 60 = some (-4) from e2, Option.bind_some, Option.bind_some, if_neg (by decide), if_neg (by decide), m4, h4.1, h4.2, Option.bind_some, Option.bind_some]
      exact exo hM Kp.rf (incR_len.trans hR)
    · rw [show X4_misfit q 1 60 = some (-6) from e1, show X5_bound q 1 60 = some (-6) from e2, Option.bind_some, Option.bind_some, if_neg (by decide), if_neg (by decide), m6, h6.1, h6.2, Option.bind_some, Option.bind_some]
      exact exo hM Kp.rf (incR_len.trans hR)
  · rw [g3, g4, Option.bind_some, Option.bind_some, if_pos rfl, if_pos rfl, m1, h1.1, h1.2, Option.bind_some, Option.bind_some]
    exact exo hM Kp.rf (incR_len.trans hR)
