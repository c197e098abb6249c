/-! a HARBOUR -/
set_option maxRecDepth 20000 in
set_option maxHeartbeats 400000 in
theorem szI_cases {c : Int} (h : 3 ≤ szI c) : c = 99 ∨ c = 100 ∨ c = 104 ∨ c = 111 ∨ c = 115 ∨ c = 116 ∨ c = 117 := by
  unfold szI at h
  by_cases e1 : c = 99
  · exact Or.inl e1
  by_cases e2 : c = 100
  · exact Or.inr (Or.inl e2)
  by_cases e3 : c = 104
  · exact Or.inr (Or.inr (Or.inl e3))
  by_cases e4 : c = 111
  · exact Or.inr (Or.inr (Or.inr (Or.inl e4)))
  by_cases e5 : c = 115
  · exact Or.inr (Or.inr (Or.inr (Or.inr (Or.inl e5))))
  by_cases e6 : c = 116
  · exact Or.inr (Or.inr (Or.inr (Or.inr (Or.inr (Or.inl e6)))))
  by_cases e7 : c = 117
  · exact Or.inr (Or.inr (Or.inr (Or.inr (Or.inr (Or.inr e7)))))
  rw [if_neg e1, if_neg e2, if_neg e3, if_neg e4, if_neg e5, if_neg e6, if_neg e7] at h
  omega
set_option maxRecDepth 20000 in
set_option maxHeartbeats 400000 in
theorem goes_all {u hd k f g l t i : Nat → Nat} {sh co d : Nat} {T : Nat → Nat} {n p k0 : Nat} {L A W : Nat → Int32} (hT : ∀ j, T j ≤ 255) (hn : n ≤ 96) (hp : p ≤ 96) (hS : OkS ((u, hd, k, f, g, l), sh, (t, i, co, d))) (hk : k0 ≤ 40) (hf : flt1 T n p < 0) (h1 : L k0 = iI (aT T n p)) (h2 : TV T n W (4 * k0) (p + 1) (aT T n p)) :
    GoesT T n p ((u, hd, k, f, g, l), sh, (t, i, co, d)) (X5_comesTold (rn 6 t) (rn 6 u) (rn 6 hd) (rn 7 k) (rn 7 f) (rn 7 g) (rn 7 l) (rn 7 i) (rq 48 L) (rq 192 W) (iI sh) (iI co) (iI d) 0 (iI (fI 6)) (iI (k0 : Int))) := by
  rcases szI_cases (flt_ok hf).1 with c | c | c | c | c | c | c
  · exact goes_c (A := A) hT hn hp hS hk hf c h1 h2
  · exact goes_d (A := A) hT hn hp hS hk hf c h1 h2
  · exact goes_h (A := A) hT hn hp hS hk hf c h1 h2
  · exact goes_o (A := A) hT hn hp hS hk hf c h1 h2
  · exact goes_s (A := A) hT hn hp hS hk hf c h1 h2
  · exact goes_t (A := A) hT hn hp hS hk hf c h1 h2
  · exact goes_u (A := A) hT hn hp hS hk hf c h1 h2
set_option maxRecDepth 20000 in
set_option maxHeartbeats 400000 in
theorem n2000 : (-2000 : Int32) = iI (-2000) := by decide
set_option maxRecDepth 20000 in
set_option maxHeartbeats 400000 in
theorem n1000 : (-1000 : Int32) = iI (-1000) := by decide
set_option maxRecDepth 20000 in
set_option maxHeartbeats 400000 in
theorem l_tell {T : Nat → Nat} {n N : Nat} {L A W F : Nat → Int32} {rd0 st0 b0 z1 z2 : Int32} {S0 : SS} (hT : ∀ j, T j ≤ 255) (hn : n ≤ 96) (hN : N ≤ 33) (hpN : n ≤ pl T n N) (hf : ∀ j, j < N → flt1 T n (pl T n j) < 0) (hI : ∀ j, j < N → Told T n L A W j) (hF : slot F 1 S0)
    (K2 : List Int32 → List Int32 → List Int32 → List Int32 → List Int32 → List Int32 → List Int32 → List Int32 → List Int32 → Int32 → Int32 → Int32 → Int32 → Int32 →  Option (List Int32 × List Int32 × List Int32 × List Int32 × List Int32 × List Int32 × List Int32 × List Int32 × List Int32 × List Int32 × List Int32 × List Int32 × Int32 × Int32 × Int32 × Int32 × Int32 × Int32 × Int32 × Int32 × Int32 × Int32)) : ∀ (r k0 m : Nat) (x y : Int32) (S : SS), x = iI (pl T n k0 : Int) → y = iI (k0 : Int) → k0 + r = N → r < m → OkS S →
    (∃ (Mz : Hs) (v : Int) (y1 y2 : Int32), v < 0 ∧ -9000 ≤ v ∧ X3_tell_L20 (fun (y4_13 : Int32) (q1 q2 q3 q4 q5 q6 q7 : List Int32) (q8 q9 q10 q11 : Int32) => some (q1, q2, q3, q4, q5, q6, q7, q8, q9, q10, q11, y4_13)) (rn 96 T) (iI n) m x y (rn 6 S.2.2.1) (rn 6 S.1.1) (rn 6 S.1.2.1) (rn 7 S.1.2.2.1) (rn 7 S.1.2.2.2.1) (rn 7 S.1.2.2.2.2.1) (rn 7 S.1.2.2.2.2.2) (iI S.2.1) (iI (mk S.2.2.2.1)) (iI S.2.2.2.2.1) (iI S.2.2.2.2.2) = some (Mz.1, Mz.2.1, Mz.2.2.1, Mz.2.2.2.1, Mz.2.2.2.2.1, Mz.2.2.2.2.2.1, Mz.2.2.2.2.2.2.1, Mz.2.2.2.2.2.2.2.1, Mz.2.2.2.2.2.2.2.2.1, Mz.2.2.2.2.2.2.2.2.2.1, Mz.2.2.2.2.2.2.2.2.2.2, iI v) ∧ MJ Mz ∧ X5_harbour_L86 K2 (rq 48 L) (rq 48 A) (rq 192 W) 0 0 rd0 (iI (N : Int)) b0 (iI (fI 6)) m y (rn 6 S.2.2.1) (rn 6 S.1.1) (rn 6 S.1.2.1) (rn 7 S.1.2.2.1) (rn 7 S.1.2.2.2.1) (rn 7 S.1.2.2.2.2.1) (rn 7 S.1.2.2.2.2.2) (rn 7 S.2.2.2.1) (rq 616 F) (iI S.2.1) (iI S.2.2.2.2.1) (iI S.2.2.2.2.2) z1 z2 = some (rn 6 S0.2.2.1, rn 6 S0.1.1, rn 6 S0.1.2.1, rn 7 S0.1.2.2.1, rn 7 S0.1.2.2.2.1, rn 7 S0.1.2.2.2.2.1, rn 7 S0.1.2.2.2.2.2, rn 7 S0.2.2.2.1, rq 48 L, rq 48 A, rq 192 W, rq 616 F, iI S0.2.1, iI S0.2.2.2.2.1, iI S0.2.2.2.2.2, 0, rd0, iI (N : Int), y1, y2, b0, iI v)) ∨
    (∃ Z : SS, OkS Z ∧ X3_tell_L20 (fun (y4_13 : Int32) (q1 q2 q3 q4 q5 q6 q7 : List Int32) (q8 q9 q10 q11 : Int32) => some (q1, q2, q3, q4, q5, q6, q7, q8, q9, q10, q11, y4_13)) (rn 96 T) (iI n) m x y (rn 6 S.2.2.1) (rn 6 S.1.1) (rn 6 S.1.2.1) (rn 7 S.1.2.2.1) (rn 7 S.1.2.2.2.1) (rn 7 S.1.2.2.2.2.1) (rn 7 S.1.2.2.2.2.2) (iI S.2.1) (iI (mk S.2.2.2.1)) (iI S.2.2.2.2.1) (iI S.2.2.2.2.2) = some (rn 6 Z.2.2.1, rn 6 Z.1.1, rn 6 Z.1.2.1, rn 7 Z.1.2.2.1, rn 7 Z.1.2.2.2.1, rn 7 Z.1.2.2.2.2.1, rn 7 Z.1.2.2.2.2.2, iI Z.2.1, iI (mk Z.2.2.2.1), iI Z.2.2.2.2.1, iI Z.2.2.2.2.2, iI (N : Int)) ∧ X5_harbour_L86 K2 (rq 48 L) (rq 48 A) (rq 192 W) 0 0 rd0 (iI (N : Int)) b0 (iI (fI 6)) m y (rn 6 S.2.2.1) (rn 6 S.1.1) (rn 6 S.1.2.1) (rn 7 S.1.2.2.1) (rn 7 S.1.2.2.2.1) (rn 7 S.1.2.2.2.2.1) (rn 7 S.1.2.2.2.2.2) (rn 7 S.2.2.2.1) (rq 616 F) (iI S.2.1) (iI S.2.2.2.2.1) (iI S.2.2.2.2.2) z1 z2 = K2 (rn 6 Z.2.2.1) (rn 6 Z.1.1) (rn 6 Z.1.2.1) (rn 7 Z.1.2.2.1) (rn 7 Z.1.2.2.2.1) (rn 7 Z.1.2.2.2.2.1) (rn 7 Z.1.2.2.2.2.2) (rn 7 Z.2.2.2.1) (rq 616 F) (iI Z.2.1) (iI Z.2.2.2.2.1) (iI Z.2.2.2.2.2) z1 z2) := by
  intro r
  induction r with
  | zero =>
    intro k0 m x y S hx hy hs hm hS
    obtain ⟨m, rfl⟩ : ∃ j, m = j + 1 := ⟨m - 1, by omega⟩
    subst hx; subst hy
    obtain rfl : k0 = N := by omega
    refine Or.inr ⟨S, hS, ?_, ?_⟩
    · rw [X3_tell_L20, if_neg (show ¬ (96 : Int32) ≤ iI (k0 : Int) by rw [L96]; exact fle (by omega) (by omega) (by omega)), X1_length, Option.bind_some]
      by_cases z : pl T n k0 < 100000
      · rw [if_pos (tle (by omega) (by omega) (by omega))]
      · exfalso
        cases k0 with
        | zero => exact z (show pl T n 0 < 100000 from by show 0 < 100000; omega)
        | succ j =>
          have g := flt_ok (hf j (by omega))
          have e : pl T n (j + 1) = pl T n j + szI (aT T n (pl T n j)) := rfl
          omega
    · rw [X5_harbour_L86, if_pos (tle (by omega) (by omega) (by omega))]
  | succ r ih =>
    intro k0 m x y S hx hy hs hm hS
    obtain ⟨m, rfl⟩ : ∃ j, m = j + 1 := ⟨m - 1, by omega⟩
    subst hx; subst hy
    have f0 := hf k0 (by omega)
    have g := flt_ok f0
    have b := aT_b (n := n) (p := pl T n k0) hT
    obtain ⟨t1, t2, t3⟩ := hI k0 (by omega)
    obtain ⟨⟨u, hd, k, f, g1, l⟩, sh, t, i, co, d⟩ := S
    have key := goes_all (A := A) hT hn (show pl T n k0 ≤ 96 by omega) hS (show k0 ≤ 40 by omega) f0 t1 t3
    have e : pl T n (k0 + 1) = pl T n k0 + szI (aT T n (pl T n k0)) := rfl
    rw [X3_tell_L20, X5_harbour_L86, if_neg (show ¬ (96 : Int32) ≤ iI (k0 : Int) by rw [L96]; exact fle (by omega) (by omega) (by omega)), X1_length, Option.bind_some, if_neg (show ¬ iI (n : Int) ≤ iI (pl T n k0 : Int) from fle (by omega) (by omega) (by omega)), if_neg (show ¬ iI (N : Int) ≤ iI (k0 : Int) from fle (by omega) (by omega) (by omega))]
    rcases key with ⟨c1, c2⟩ | ⟨c1, Z, hZ, c2, c3⟩
    · obtain ⟨⟨u0, hd0, k1, f1, g0, l0⟩, sh0, t0, i0, co0, d0⟩ := S0
      have hb := s_backAllN (t1 := t) (u1 := u) (hd1 := hd) (k1 := k) (f1 := f) (g1 := g1) (l1 := l) (i1 := i) (u := u0) (hd := hd0) (k := k1) (f := f1) (g := g0) (l := l0) (t := t0) (i := i0) (sh := sh0) (co := co0) (d := d0) (F := F) (z1 := z1) (z2 := z2) (z3 := iI (sh : Int)) (z4 := iI (co : Int)) (z5 := iI (d : Int)) (w := 1) (by omega) hF
      rw [z11] at hb
      rw [c1, Option.bind_some, if_pos (show (0 : Int32) = 0 from rfl), c2, Option.bind_some, if_pos (show (0 : Int32) = 0 from rfl), hb, Option.bind_some, rd_rq (by omega) (by omega) (by omega), Option.bind_some, Int.toNat_natCast, t2, n2000, iI_sub]
      exact Or.inl ⟨(rn 6 t, rn 6 u, rn 6 hd, rn 7 k, rn 7 f, rn 7 g1, rn 7 l, iI (sh : Int), iI (mk i : Int), iI (co : Int), iI (d : Int)), -2000 - (pl T n k0 : Int), _, _, by omega, by omega, rfl, ⟨rn_len, rn_len, rn_len, rn_len, rn_len, rn_len, rn_len⟩, rfl⟩
    · rw [c1, Option.bind_some, if_neg c10, c2, Option.bind_some, s_at hn (by omega), Option.bind_some, s_sizeOf b.1 b.2, Option.bind_some, iI_add, c3, Option.bind_some, if_neg c10, show iI ((pl T n k0 : Int) + (szI (aT T n (pl T n k0)) : Int)) = iI (pl T n (k0 + 1) : Int) from iI_c (by omega), iI_s k0]
      exact ih (k0 + 1) m _ _ Z rfl rfl (by omega) (by omega) hZ
set_option maxRecDepth 20000 in
set_option maxHeartbeats 400000 in
theorem op_harbour {A1 A2 A3 A4 A5 A6 A7 : List Int32} {a1 a2 a3 a4 : Int32} {u hd k f g l t i : Nat → Nat} {sh co d : Nat} {T : Nat → Nat} {n b : Nat} {L A W F : Nat → Int32} {perm : Nat → Nat} {hist : Nat → Hs} {rd0 st0 z1 z2 : Int32} (hM : MJ (A1, A2, A3, A4, A5, A6, A7, a1, a2, a3, a4)) (hS : OkS ((u, hd, k, f, g, l), sh, (t, i, co, d))) (hH : HI b perm hist F) (hT : ∀ j, T j ≤ 255) (hn : n ≤ 96) :
    ∃ (Mz : Hs) (Z : SS) (L1 At W1 F1 : Nat → Int32) (b1 : Nat) (y1 y2 y3 y4 r : Int32), X4_harbour (rn 96 T) A1 A2 A3 A4 A5 A6 A7 (rn 6 t) (rn 6 u) (rn 6 hd) (rn 7 k) (rn 7 f) (rn 7 g) (rn 7 l) (iI n) a1 a2 a3 a4 (iI sh) (iI (mk i)) (iI co) (iI d) (iI (b : Int)) = some (Mz.1, Mz.2.1, Mz.2.2.1, Mz.2.2.2.1, Mz.2.2.2.2.1, Mz.2.2.2.2.2.1, Mz.2.2.2.2.2.2.1, rn 6 Z.2.2.1, rn 6 Z.1.1, rn 6 Z.1.2.1, rn 7 Z.1.2.2.1, rn 7 Z.1.2.2.2.1, rn 7 Z.1.2.2.2.2.1, rn 7 Z.1.2.2.2.2.2, 0, Mz.2.2.2.2.2.2.2.1, Mz.2.2.2.2.2.2.2.2.1, Mz.2.2.2.2.2.2.2.2.2.1, Mz.2.2.2.2.2.2.2.2.2.2, iI Z.2.1, iI (mk Z.2.2.2.1), iI Z.2.2.2.2.1, iI Z.2.2.2.2.2, iI (b1 : Int), r) ∧ X5_harbour (rn 6 t) (rn 6 u) (rn 6 hd) (rn 7 k) (rn 7 f) (rn 7 g) (rn 7 l) (rn 7 i) (rn 96 T) (rq 48 L) (rq 48 A) (rq 192 W) (rq 616 F) (iI sh) (iI co) (iI d) 0 (iI n) rd0 st0 z1 z2 (iI (b : Int)) (-9) = some (rn 6 Z.2.2.1, rn 6 Z.1.1, rn 6 Z.1.2.1, rn 7 Z.1.2.2.1, rn 7 Z.1.2.2.2.1, rn 7 Z.1.2.2.2.2.1, rn 7 Z.1.2.2.2.2.2, rn 7 Z.2.2.2.1, rq 48 L1, rq 48 At, rq 192 W1, rq 616 F1, iI Z.2.1, iI Z.2.2.2.2.1, iI Z.2.2.2.2.2, 0, y1, y2, y3, y4, iI (b1 : Int), r) ∧ MJ Mz ∧ OkS Z ∧ HI b1 perm hist F1 ∧ Kp F F1 := by
  have hN : MJ (rn 6 t, rn 6 u, rn 6 hd, rn 7 k, rn 7 f, rn 7 g, rn 7 l, iI sh, iI (mk i), iI co, iI d) := ⟨rn_len, rn_len, rn_len, rn_len, rn_len, rn_len, rn_len⟩
  have rb := rnT_b (T := T) hn 33 0 (by omega) (by show 3 * 0 ≤ 0; omega) (by show 0 ≤ n; omega)
  have cl := l_faultyL hT hn (fun _ => some (-1 : Int32)) 33 0 1000 0 0 (show (0 : Int32) = iI (pl T n 0 : Int) from z00.symm) z00.symm (by omega) (by show 3 * 0 ≤ 0; omega) (by show 0 ≤ n; omega) (by omega)
  unfold X4_harbour X3_tell X3_faultyLetter X5_harbour
  rw [s_X4_fromNow hM, Option.bind_some, cl, f9]
  obtain ⟨L1, At, W1, e1, e2⟩ := l_read hT hn (fun y1_5 letter_6 letterAt_7 told_8 reading_9 statements_10 => if y1_5 = (0 : Int32) then some (rn 6 t, rn 6 u, rn 6 hd, rn 7 k, rn 7 f, rn 7 g, rn 7 l, rn 7 i, letter_6, letterAt_7, told_8, rq 616 F, iI (sh : Int), iI (co : Int), iI (d : Int), (0 : Int32), reading_9, statements_10, z1, z2, iI (b : Int), ((-1000 : Int32) - reading_9)) else (X5_passesAll (rn 6 t) (rn 6 u) (rn 6 hd) (rn 7 k) (rn 7 f) (rn 7 g) (rn 7 l) (rn 7 i) (rq 616 F) (iI sh) (iI co) (iI d) z1 z2 1 1).bind fun u_11 => X5_harbour_L86 (fun there_19 used_20 hidden_21 kind_22 figure_23 good_24 load_25 inn_26 kept_27 ships_28 coughs_29 day_30 isKeeping_31 cursor_32 => some (there_19, used_20, hidden_21, kind_22, figure_23, good_24, load_25, inn_26, letter_6, letterAt_7, told_8, kept_27, ships_28, coughs_29, day_30, (0 : Int32), reading_9, statements_10, isKeeping_31, cursor_32, (0 : Int32), statements_10)) letter_6 letterAt_7 told_8 0 0 reading_9 statements_10 (iI (b : Int)) (iI (fI 6)) 1000 0 u_11.1 u_11.2.1 u_11.2.2.1 u_11.2.2.2.1 u_11.2.2.2.2.1 u_11.2.2.2.2.2.1 u_11.2.2.2.2.2.2.1 u_11.2.2.2.2.2.2.2.1 u_11.2.2.2.2.2.2.2.2.1 u_11.2.2.2.2.2.2.2.2.2.1 u_11.2.2.2.2.2.2.2.2.2.2.1 u_11.2.2.2.2.2.2.2.2.2.2.2.1 u_11.2.2.2.2.2.2.2.2.2.2.2.2.1 u_11.2.2.2.2.2.2.2.2.2.2.2.2.2) 33 0 1000 0 0 L A W (show (0 : Int32) = iI (pl T n 0 : Int) from z00.symm) z00.symm (by omega) (by show 3 * 0 ≤ 0; omega) (by show 0 ≤ n; omega) (by omega) (fun j hj => absurd hj (by omega))
  rw [e1]
  have rs := rnT_spec (T := T) hn 33 0 (by omega) (by show 3 * 0 ≤ 0; omega) (by show 0 ≤ n; omega)
  generalize (rnT T n 33 0).1 = v at *
  generalize (rnT T n 33 0).2 = N at *
  by_cases c : v < 0
  · obtain ⟨s1, s2, s3, s4, s5⟩ := rs c
    have k0 := s_keepAll (u := u) (hd := hd) (k := k) (f := f) (g := g) (l := l) (t := t) (i := i) (sh := sh) (co := co) (d := d) (F := F) (z1 := z1) (z2 := z2) (w := 1) (by omega)
    rw [z11] at k0
    have lt := l_tell (T := T) (n := n) (N := N) (L := L1) (A := At) (W := W1) (F := put F (56 * 1) 56 (flat (u, hd, k, f, g, l) sh (t, i, co, d))) (rd0 := iI (pl T n N : Int)) (st0 := 0) (b0 := iI (b : Int)) (z1 := 1) (z2 := iI ((56 * 1 + 56 : Nat) : Int)) (S0 := ((u, hd, k, f, g, l), sh, (t, i, co, d))) hT hn s2 s4 (fun j hj => s5 j (by omega) hj) (e2 c) (slot_put (F := F) (w := 1) (S := ((u, hd, k, f, g, l), sh, (t, i, co, d)))) (fun there_19 used_20 hidden_21 kind_22 figure_23 good_24 load_25 inn_26 kept_27 ships_28 coughs_29 day_30 isKeeping_31 cursor_32 => some (there_19, used_20, hidden_21, kind_22, figure_23, good_24, load_25, inn_26, rq 48 L1, rq 48 At, rq 192 W1, kept_27, ships_28, coughs_29, day_30, (0 : Int32), iI (pl T n N : Int), iI (N : Int), isKeeping_31, cursor_32, (0 : Int32), iI (N : Int))) N 0 1000 0 0 ((u, hd, k, f, g, l), sh, (t, i, co, d)) (show (0 : Int32) = iI (pl T n 0 : Int) from z00.symm) z00.symm (by omega) (by omega) hS
    rw [if_pos c, if_pos c, if_pos c, Option.bind_some, if_pos (show (-1 : Int32) < 0 by decide), if_neg c10, k0, Option.bind_some]
    rcases lt with ⟨Mz, v1, y1, y2, a1, a2, a3, a4, a5⟩ | ⟨Z, a1, a2, a3⟩
    · rw [show X3_tell_L20 _ (rn 96 T) (iI n) 1000 0 0 (rn 6 t) (rn 6 u) (rn 6 hd) (rn 7 k) (rn 7 f) (rn 7 g) (rn 7 l) (iI sh) (iI (mk i)) (iI co) (iI d) = _ from a3, Option.bind_some, X1_drop, Option.bind_some, if_pos (show iI v1 < (0 : Int32) by rw [L0]; exact tlt a1 (by omega) (by omega))]
      exact ⟨Mz, ((u, hd, k, f, g, l), sh, (t, i, co, d)), _, _, _, _, b, _, _, _, _, _, rfl, a5, a4, hS, hH.kp Kp.put1, Kp.put1⟩
    · have hz : MJ (rn 6 Z.2.2.1, rn 6 Z.1.1, rn 6 Z.1.2.1, rn 7 Z.1.2.2.1, rn 7 Z.1.2.2.2.1, rn 7 Z.1.2.2.2.2.1, rn 7 Z.1.2.2.2.2.2, iI Z.2.1, iI (mk Z.2.2.2.1), iI Z.2.2.2.2.1, iI Z.2.2.2.2.2) := ⟨rn_len, rn_len, rn_len, rn_len, rn_len, rn_len, rn_len⟩
      rw [show X3_tell_L20 _ (rn 96 T) (iI n) 1000 0 0 (rn 6 t) (rn 6 u) (rn 6 hd) (rn 7 k) (rn 7 f) (rn 7 g) (rn 7 l) (iI sh) (iI (mk i)) (iI co) (iI d) = _ from a2, Option.bind_some, X1_drop, Option.bind_some, if_neg (show ¬ iI (N : Int) < (0 : Int32) from m9 (by omega) (by omega)), s_copy hN hz, Option.bind_some, X2_drop, Option.bind_some, ← z00]
      exact ⟨(rn 6 Z.2.2.1, rn 6 Z.1.1, rn 6 Z.1.2.1, rn 7 Z.1.2.2.1, rn 7 Z.1.2.2.2.1, rn 7 Z.1.2.2.2.2.1, rn 7 Z.1.2.2.2.2.2, iI Z.2.1, iI (mk Z.2.2.2.1), iI Z.2.2.2.2.1, iI Z.2.2.2.2.2), Z, _, _, _, _, 0, _, _, _, _, _, rfl, a3, hz, a1, hH.zero, Kp.put1⟩
  · rw [if_neg c, if_neg c, if_neg c, Option.bind_some, if_neg (m9 (by omega) (by omega)), Option.bind_some, X1_drop, Option.bind_some, n1000, iI_sub, if_pos (show iI (-1000 - v) < (0 : Int32) by rw [L0]; exact tlt (by omega) (by omega) (by omega)), if_pos (show (0 : Int32) = 0 from rfl)]
    exact ⟨(rn 6 t, rn 6 u, rn 6 hd, rn 7 k, rn 7 f, rn 7 g, rn 7 l, iI sh, iI (mk i), iI co, iI d), ((u, hd, k, f, g, l), sh, (t, i, co, d)), L1, At, W1, F, b, _, _, _, _, _, rfl, rfl, hN, hS, hH, Kp.rf⟩
