/-! RACE; COMES of one -/
set_option maxRecDepth 20000 in
set_option maxHeartbeats 400000 in
theorem cmX_b {e : Env} {sh b fr s : Nat} : ∀ (r n : Nat) (x : XX), (cmX e sh b fr s r n x).1 = -9 ∨ ((n : Int) ≤ (cmX e sh b fr s r n x).1 ∧ (cmX e sh b fr s r n x).1 ≤ ((n + r : Nat) : Int)) := by
  intro r
  induction r with
  | zero =>
    intro n x
    unfold cmX
    by_cases h : x.2.1 s = 0
    · exact Or.inl (show (if x.2.1 s = 0 then (-9 : Int) else (n : Int)) = -9 by rw [if_pos h])
    · exact Or.inr (show (n : Int) ≤ (if x.2.1 s = 0 then (-9 : Int) else (n : Int)) ∧ (if x.2.1 s = 0 then (-9 : Int) else (n : Int)) ≤ ((n + 0 : Nat) : Int) by rw [if_neg h]; omega)
  | succ r ih =>
    intro n x
    unfold cmX
    by_cases h : x.2.1 s = 0
    · rw [if_pos h]
      rcases ih (n + 1) (dayX e sh b fr x) with h1 | h1
      · exact Or.inl h1
      · exact Or.inr (by omega)
    · rw [if_neg h]
      exact Or.inr (show (n : Int) ≤ (n : Int) ∧ (n : Int) ≤ ((n + (r + 1) : Nat) : Int) by omega)
set_option maxRecDepth 20000 in
set_option maxHeartbeats 400000 in
theorem op_comes1 {A1 A2 A3 A4 A5 A6 A7 : List Int32} {a1 a2 a3 a4 : Int32} {u hd k f g l t i : Nat → Nat} {sh co d : Nat} {R : List Int32} {F : Nat → Int32} {z1 z2 p : Int32} (hM : MJ (A1, A2, A3, A4, A5, A6, A7, a1, a2, a3, a4)) (hE : OkE (u, hd, k, f, g, l)) (hsh : sh ≤ 7) (hX : OkX 1000 (t, i, co, d)) (hR : R.length = 7) (hp : ¬ p = (-1 : Int32)) :
    ∃ (R1 : List Int32) (Mz : Hs) (F1 : Nat → Int32) (y1 y2 r : Int32), X4_comes R A1 A2 A3 A4 A5 A6 A7 (rn 6 t) (rn 6 u) (rn 6 hd) (rn 7 k) (rn 7 f) (rn 7 g) (rn 7 l) a1 a2 a3 a4 (iI sh) (iI (mk i)) (iI co) (iI d) p = some (R1, Mz.1, Mz.2.1, Mz.2.2.1, Mz.2.2.2.1, Mz.2.2.2.2.1, Mz.2.2.2.2.2.1, Mz.2.2.2.2.2.2.1, Mz.2.2.2.2.2.2.2.1, Mz.2.2.2.2.2.2.2.2.1, Mz.2.2.2.2.2.2.2.2.2.1, Mz.2.2.2.2.2.2.2.2.2.2, r) ∧ X5_comes R (rn 6 t) (rn 6 u) (rn 6 hd) (rn 7 k) (rn 7 f) (rn 7 g) (rn 7 l) (rn 7 i) (rq 616 F) (iI sh) (iI co) (iI d) 0 z1 z2 (-9) p = some (R1, rn 6 t, rn 6 u, rn 6 hd, rn 7 k, rn 7 f, rn 7 g, rn 7 l, rn 7 i, rq 616 F1, iI sh, iI co, iI d, y1, y2, r) ∧ MJ Mz ∧ Kp F F1 ∧ R1.length = 7 := by
  have h1 := s_refuse (R := R) (c := 1) hR (by omega) (by omega)
  unfold X4_comes X5_comes
  rw [if_neg hp, if_neg hp, n60]
  rcases ship_cases hsh p with ⟨s, hs, rfl, g1, g2⟩ | ⟨g1, g2⟩
  · rw [g1, g2, Option.bind_some, Option.bind_some, if_neg (by decide), if_neg (by decide), s_X4_fromNow hM, Option.bind_some, s_X0_daysUntilIn hE hsh (by omega) (by omega) (hX.mono (by omega)), Option.bind_some, if_pos (by rw [L0]; exact tle (by omega) (by omega) (by omega)), f9, i0, s_X5_comesIn (by omega) hE hsh (by omega) (by omega) (by omega) (hX.mono (by omega)), Option.bind_some]
    exact exo ⟨rn_len, rn_len, rn_len, rn_len, rn_len, rn_len, rn_len⟩ Kp.put2 hR
  · rw [g1, g2, Option.bind_some, Option.bind_some, if_pos rfl, if_pos rfl, m1, h1.1, h1.2, Option.bind_some, Option.bind_some]
    exact exo hM Kp.rf (incR_len.trans hR)
set_option maxRecDepth 20000 in
set_option maxHeartbeats 400000 in
theorem c10 : ¬ (1 : Int32) = (0 : Int32) := by decide
set_option maxRecDepth 20000 in
set_option maxHeartbeats 400000 in
theorem op_race {A1 A2 A3 A4 A5 A6 A7 : List Int32} {a1 a2 a3 a4 : Int32} {u hd k f g l t i : Nat → Nat} {sh co d : Nat} {R : List Int32} {F : Nat → Int32} {z1 z2 p q : Int32} (hM : MJ (A1, A2, A3, A4, A5, A6, A7, a1, a2, a3, a4)) (hE : OkE (u, hd, k, f, g, l)) (hsh : sh ≤ 7) (hX : OkX 1000 (t, i, co, d)) (hR : R.length = 7) :
    ∃ (R1 : List Int32) (Mz : Hs) (F1 : Nat → Int32) (y1 y2 r : Int32), X4_race R A1 A2 A3 A4 A5 A6 A7 (rn 6 t) (rn 6 u) (rn 6 hd) (rn 7 k) (rn 7 f) (rn 7 g) (rn 7 l) a1 a2 a3 a4 (iI sh) (iI (mk i)) (iI co) (iI d) p q = some (R1, Mz.1, Mz.2.1, Mz.2.2.1, Mz.2.2.2.1, Mz.2.2.2.2.1, Mz.2.2.2.2.2.1, Mz.2.2.2.2.2.2.1, Mz.2.2.2.2.2.2.2.1, Mz.2.2.2.2.2.2.2.2.1, Mz.2.2.2.2.2.2.2.2.2.1, Mz.2.2.2.2.2.2.2.2.2.2, r) ∧ X5_race R (rn 6 t) (rn 6 u) (rn 6 hd) (rn 7 k) (rn 7 f) (rn 7 g) (rn 7 l) (rn 7 i) (rq 616 F) (iI sh) (iI co) (iI d) 0 z1 z2 (-9) p q = some (R1, rn 6 t, rn 6 u, rn 6 hd, rn 7 k, rn 7 f, rn 7 g, rn 7 l, rn 7 i, rq 616 F1, iI sh, iI co, iI d, y1, y2, r) ∧ MJ Mz ∧ Kp F F1 ∧ R1.length = 7 := by
  have h1 := s_refuse (R := R) (c := 1) hR (by omega) (by omega)
  unfold X4_race X5_race
  rw [n60]
  rcases ship_cases hsh p with ⟨s, hs, rfl, g1, g2⟩ | ⟨g1, g2⟩
  · rw [g1, g2, Option.bind_some, Option.bind_some, if_neg c10, if_neg c10]
    rcases ship_cases hsh q with ⟨s2, hs2, rfl, g3, g4⟩ | ⟨g3, g4⟩
    · rw [g3, g4, Option.bind_some, Option.bind_some, if_neg c10, if_neg c10]
      by_cases c : s = s2
      · subst c
        rw [if_pos rfl, if_pos rfl, m1, h1.1, h1.2, Option.bind_some, Option.bind_some]
        exact exo hM Kp.rf (incR_len.trans hR)
      · have cn : ¬ iI (s : Int) = iI (s2 : Int) := feq (by omega) (by omega) (by omega) (by omega) (by omega)
        rw [if_neg cn, if_neg cn, mmin_iI (by omega) (by omega) (by omega) (by omega), mmax_iI (by omega) (by omega) (by omega) (by omega)]
        rw [show (min (s : Int) (s2 : Int)) = ((min s s2 : Nat) : Int) by omega, show (max (s : Int) (s2 : Int)) = ((max s s2 : Nat) : Int) by omega]
        have zf : iI (fI 6) = (-9 : Int32) := by decide
        have z0 : iI ((0 : Nat) : Int) = (0 : Int32) := by decide
        have e9 : iI (-9) = (-9 : Int32) := by decide
        have nz : ¬ (0 : Int32) ≤ iI (-9) := by decide
        have nl : iI (-9) < (0 : Int32) := by decide
        have n9 : ∀ {r : Int}, 0 ≤ r → r ≤ 60 → ¬ iI r = (-9 : Int32) := fun h h2 => by rw [← e9]; exact feq (by omega) (by omega) (by omega) (by omega) (by omega)
        have p9 : ∀ {r : Int}, 0 ≤ r → r ≤ 60 → (0 : Int32) ≤ iI r := fun h h2 => by rw [L0]; exact tle (by omega) (by omega) (by omega)
        have m9 : ∀ {r : Int}, 0 ≤ r → r ≤ 60 → ¬ iI r < (0 : Int32) := fun h h2 => by rw [L0]; exact flt (by omega) (by omega) (by omega)
        by_cases o : s2 ≤ s
        · rw [show min s s2 = s2 by omega, show max s s2 = s by omega]
          rw [s_X4_fromNow hM, Option.bind_some, s_X0_daysUntilIn (s0 := s2) hE hsh (by omega) (by omega) (hX.mono (by omega)), Option.bind_some]
          rw [s_X4_fromNow ?_, Option.bind_some]
          rotate_left
          · exact ⟨rn_len, rn_len, rn_len, rn_len, rn_len, rn_len, rn_len⟩
          rw [s_X0_daysUntilIn (s0 := s) hE hsh (by omega) (by omega) (hX.mono (by omega)), Option.bind_some]
          have ba := cmX_b (e := (u, hd, k, f, g, l)) (sh := sh) (b := 0) (fr := 6) (s := s2) 60 0 (t, i, co, d)
          have ca := fun F w1 w2 => s_X5_comesIn (u := u) (hd := hd) (k := k) (f := f) (g := g) (l := l) (t := t) (i := i) (sh := sh) (co := co) (d := d) (b := 0) (fr := 6) (s0 := s2) (N := 60) (F := F) (z1 := w1) (z2 := w2) (by omega) hE hsh (by omega) (by omega) (by omega) (hX.mono (by omega))
          have bb := cmX_b (e := (u, hd, k, f, g, l)) (sh := sh) (b := 0) (fr := 6) (s := s) 60 0 (t, i, co, d)
          have cb := fun F w1 w2 => s_X5_comesIn (u := u) (hd := hd) (k := k) (f := f) (g := g) (l := l) (t := t) (i := i) (sh := sh) (co := co) (d := d) (b := 0) (fr := 6) (s0 := s) (N := 60) (F := F) (z1 := w1) (z2 := w2) (by omega) hE hsh (by omega) (by omega) (by omega) (hX.mono (by omega))
          rw [zf, z0] at ca cb
          have q : iI (s2 : Int) ≤ iI (s : Int) := tle (by omega) (by omega) (by omega)
          rw [if_pos q, if_pos q, ca, Option.bind_some, cb, Option.bind_some]
          generalize (cmX (u, hd, k, f, g, l) sh 0 6 s2 60 0 (t, i, co, d)).1 = ra at ba ⊢
          generalize (cmX (u, hd, k, f, g, l) sh 0 6 s 60 0 (t, i, co, d)).1 = rb at bb ⊢
          rcases ba with rfl | ba <;> rcases bb with rfl | bb
          · rw [if_pos e9, if_pos e9, if_neg nz, if_neg nz]
            exact exo ⟨rn_len, rn_len, rn_len, rn_len, rn_len, rn_len, rn_len⟩ (Kp.put2.tr Kp.put2)  hR
          · rw [if_neg (n9 (by omega) (by omega)), if_pos e9, if_neg nz, if_pos (p9 (by omega) (by omega))]
            exact exo ⟨rn_len, rn_len, rn_len, rn_len, rn_len, rn_len, rn_len⟩ (Kp.put2.tr Kp.put2) hR
          · rw [if_pos e9, if_neg (n9 (by omega) (by omega)), if_pos (p9 (by omega) (by omega)), if_pos nl]
            exact exo ⟨rn_len, rn_len, rn_len, rn_len, rn_len, rn_len, rn_len⟩ (Kp.put2.tr Kp.put2) hR
          · rw [if_neg (n9 (by omega) (by omega)), if_neg (n9 (by omega) (by omega)), if_pos (p9 (by omega) (by omega)), if_neg (m9 (by omega) (by omega))]
            by_cases w : rb < ra
            · rw [if_pos (tlt w (by omega) (by omega)), if_neg (fle w (by omega) (by omega))]
              exact exo ⟨rn_len, rn_len, rn_len, rn_len, rn_len, rn_len, rn_len⟩ (Kp.put2.tr Kp.put2) hR
            · rw [if_neg (flt (by omega) (by omega) (by omega)), if_pos (tle (by omega) (by omega) (by omega))]
              exact exo ⟨rn_len, rn_len, rn_len, rn_len, rn_len, rn_len, rn_len⟩ (Kp.put2.tr Kp.put2) hR
        · rw [show min s s2 = s by omega, show max s s2 = s2 by omega]
          rw [s_X4_fromNow hM, Option.bind_some, s_X0_daysUntilIn (s0 := s) hE hsh (by omega) (by omega) (hX.mono (by omega)), Option.bind_some]
          rw [s_X4_fromNow ?_, Option.bind_some]
          rotate_left
          · exact ⟨rn_len, rn_len, rn_len, rn_len, rn_len, rn_len, rn_len⟩
          rw [s_X0_daysUntilIn (s0 := s2) hE hsh (by omega) (by omega) (hX.mono (by omega)), Option.bind_some]
          have ba := cmX_b (e := (u, hd, k, f, g, l)) (sh := sh) (b := 0) (fr := 6) (s := s) 60 0 (t, i, co, d)
          have ca := fun F w1 w2 => s_X5_comesIn (u := u) (hd := hd) (k := k) (f := f) (g := g) (l := l) (t := t) (i := i) (sh := sh) (co := co) (d := d) (b := 0) (fr := 6) (s0 := s) (N := 60) (F := F) (z1 := w1) (z2 := w2) (by omega) hE hsh (by omega) (by omega) (by omega) (hX.mono (by omega))
          have bb := cmX_b (e := (u, hd, k, f, g, l)) (sh := sh) (b := 0) (fr := 6) (s := s2) 60 0 (t, i, co, d)
          have cb := fun F w1 w2 => s_X5_comesIn (u := u) (hd := hd) (k := k) (f := f) (g := g) (l := l) (t := t) (i := i) (sh := sh) (co := co) (d := d) (b := 0) (fr := 6) (s0 := s2) (N := 60) (F := F) (z1 := w1) (z2 := w2) (by omega) hE hsh (by omega) (by omega) (by omega) (hX.mono (by omega))
          rw [zf, z0] at ca cb
          have q : ¬ iI (s2 : Int) ≤ iI (s : Int) := fle (by omega) (by omega) (by omega)
          rw [if_neg q, if_neg q, ca, Option.bind_some, cb, Option.bind_some]
          generalize (cmX (u, hd, k, f, g, l) sh 0 6 s 60 0 (t, i, co, d)).1 = ra at ba ⊢
          generalize (cmX (u, hd, k, f, g, l) sh 0 6 s2 60 0 (t, i, co, d)).1 = rb at bb ⊢
          rcases ba with rfl | ba <;> rcases bb with rfl | bb
          · rw [if_pos e9, if_pos e9, if_neg nz, if_neg nz]
            exact exo ⟨rn_len, rn_len, rn_len, rn_len, rn_len, rn_len, rn_len⟩ (Kp.put2.tr Kp.put2)  hR
          · rw [if_neg (n9 (by omega) (by omega)), if_pos e9, if_neg nz, if_pos (p9 (by omega) (by omega))]
            exact exo ⟨rn_len, rn_len, rn_len, rn_len, rn_len, rn_len, rn_len⟩ (Kp.put2.tr Kp.put2) hR
          · rw [if_pos e9, if_neg (n9 (by omega) (by omega)), if_pos (p9 (by omega) (by omega)), if_pos nl]
            exact exo ⟨rn_len, rn_len, rn_len, rn_len, rn_len, rn_len, rn_len⟩ (Kp.put2.tr Kp.put2) hR
          · rw [if_neg (n9 (by omega) (by omega)), if_neg (n9 (by omega) (by omega)), if_pos (p9 (by omega) (by omega)), if_neg (m9 (by omega) (by omega))]
            by_cases w : rb < ra
            · rw [if_pos (tlt w (by omega) (by omega)), if_neg (fle w (by omega) (by omega))]
              exact exo ⟨rn_len, rn_len, rn_len, rn_len, rn_len, rn_len, rn_len⟩ (Kp.put2.tr Kp.put2) hR
            · rw [if_neg (flt (by omega) (by omega) (by omega)), if_pos (tle (by omega) (by omega) (by omega))]
              exact exo ⟨rn_len, rn_len, rn_len, rn_len, rn_len, rn_len, rn_len⟩ (Kp.put2.tr Kp.put2) hR
    · rw [g3, g4, Option.bind_some, Option.bind_some, if_pos rfl, if_pos rfl, m1, h1.1, h1.2, Option.bind_some, Option.bind_some]
      exact exo hM Kp.rf (incR_len.trans hR)
  · rw [g1, g2, Option.bind_some, Option.bind_some, if_pos rfl, if_pos rfl, m1, h1.1, h1.2, Option.bind_some, Option.bind_some]
    exact exo hM Kp.rf (incR_len.trans hR)
