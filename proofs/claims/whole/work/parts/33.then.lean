/-! THERE in mind; COUGHS, who is IN in mind -/
set_option maxRecDepth 20000 in
set_option maxHeartbeats 400000 in
theorem s_X5_notDays {p : Int32} {v : Int32} (h : X5_bound p (iI ((0 : Nat) : Int)) (iI ((60 : Nat) : Int)) = some v) : X5_notDays p = some v := by
  unfold X5_notDays
  rw [n0, n60, h, Option.bind_some]
set_option maxRecDepth 20000 in
set_option maxHeartbeats 400000 in
theorem op_thereIn {A1 A2 A3 A4 A5 A6 A7 : List Int32} {a1 a2 a3 a4 : Int32} {u hd k f g l t i : Nat → Nat} {sh co d : Nat} {R : List Int32} {F : Nat → Int32} {z1 z2 p q : Int32} (hM : MJ (A1, A2, A3, A4, A5, A6, A7, a1, a2, a3, a4)) (hE : OkE (u, hd, k, f, g, l)) (hsh : sh ≤ 7) (hX : OkX 1000 (t, i, co, d)) (hR : R.length = 7) :
    ∃ (R1 : List Int32) (Mz : Hs) (F1 : Nat → Int32) (y1 y2 r : Int32), X4_thereIn R A1 A2 A3 A4 A5 A6 A7 (rn 6 t) (rn 6 u) (rn 6 hd) (rn 7 k) (rn 7 f) (rn 7 g) (rn 7 l) a1 a2 a3 a4 (iI sh) (iI (mk i)) (iI co) (iI d) p q = some (R1, Mz.1, Mz.2.1, Mz.2.2.1, Mz.2.2.2.1, Mz.2.2.2.2.1, Mz.2.2.2.2.2.1, Mz.2.2.2.2.2.2.1, Mz.2.2.2.2.2.2.2.1, Mz.2.2.2.2.2.2.2.2.1, Mz.2.2.2.2.2.2.2.2.2.1, Mz.2.2.2.2.2.2.2.2.2.2, r) ∧ X5_thereIn R (rn 6 t) (rn 6 u) (rn 6 hd) (rn 7 k) (rn 7 f) (rn 7 g) (rn 7 l) (rn 7 i) (rq 616 F) (iI sh) (iI co) (iI d) 0 z1 z2 (-9) p q = some (R1, rn 6 t, rn 6 u, rn 6 hd, rn 7 k, rn 7 f, rn 7 g, rn 7 l, rn 7 i, rq 616 F1, iI sh, iI co, iI d, y1, y2, r) ∧ MJ Mz ∧ Kp F F1 ∧ R1.length = 7 := by
  have h1 := s_refuse (R := R) (c := 1) hR (by omega) (by omega)
  have h4 := s_refuse (R := R) (c := 4) hR (by omega) (by omega)
  have h6 := s_refuse (R := R) (c := 6) hR (by omega) (by omega)
  unfold X4_thereIn X5_thereIn
  rcases good_cases p with ⟨a, ha, rfl, g1, g2⟩ | ⟨g1, g2⟩
  · rw [g1, g2, Option.bind_some, Option.bind_some, if_neg (by decide), if_neg (by decide), n60]
    rcases fit_cases (lo := 0) (hi := 60) (by omega) (by omega) q with ⟨n, -, hn, rfl, e1, e2⟩ | ⟨e1, e2⟩ | ⟨e1, e2⟩
    · rw [s_X5_notDays e2, show (0 : Int32) = iI ((0 : Nat) : Int) by decide, e1, Option.bind_some, Option.bind_some, if_pos (by decide), if_pos (by decide), s_X4_fromNow hM, Option.bind_some, s_X0_passDays hE hsh (by omega) (hX.mono (by omega)), Option.bind_some, rd_rn (by omega) (by omega) (by omega), Option.bind_some]
      rw [f9, s_thinks, Option.bind_some, s_X5_goes (by omega) hE hsh (by omega) (by omega) (hX.mono (by omega)), Option.bind_some, rd_rn (by omega) (by omega) (by omega), Option.bind_some, s_forgetsN, Option.bind_some]
      exact exo ⟨rn_len, rn_len, rn_len, rn_len, rn_len, rn_len, rn_len⟩ Kp.put2 hR
    · rw [s_X5_notDays e2, show (0 : Int32) = iI ((0 : Nat) : Int) by decide, e1, Option.bind_some, Option.bind_some, if_neg (by decide), if_neg (by decide), m4, h4.1, h4.2, Option.bind_some, Option.bind_some]
      exact exo hM Kp.rf (incR_len.trans hR)
    · rw [s_X5_notDays e2, show (0 : Int32) = iI ((0 : Nat) : Int) by decide, e1, Option.bind_some, Option.bind_some, if_neg (by decide), if_neg (by decide), m6, h6.1, h6.2, Option.bind_some, Option.bind_some]
      exact exo hM Kp.rf (incR_len.trans hR)
  · rw [g1, g2, Option.bind_some, Option.bind_some, if_pos rfl, if_pos rfl, m1, h1.1, h1.2, Option.bind_some, Option.bind_some]
    exact exo hM Kp.rf (incR_len.trans hR)
-- who is IN, as one number
def bsum (i : Nat → Nat) : Nat → Nat → Nat → Nat
  | 0, _, m => m
  | r + 1, s, m => bsum i r (s + 1) (m + 2 ^ s * i s)
set_option maxRecDepth 20000 in
set_option maxHeartbeats 400000 in
theorem tb_or2 : (List.range 128).all (fun m => (List.range 7).all (fun s => decide (m < 2 ^ s → (iI (m : Int) ||| (iI ((1 : Nat) : Int) <<< (iI (s : Int) &&& (31 : Int32)))) = iI ((m + 2 ^ s : Nat) : Int) ∧ (iI (m : Int) ||| (iI ((0 : Nat) : Int) <<< (iI (s : Int) &&& (31 : Int32)))) = iI (m : Int)))) = true := by decide +kernel
set_option maxRecDepth 20000 in
set_option maxHeartbeats 400000 in
theorem l_inOnes {i : Nat → Nat} {sh : Nat} (hsh : sh ≤ 7) (hi : ∀ j, i j ≤ 1) : ∀ (r s n m : Nat) (x y : Int32), x = iI (s : Int) → y = iI (m : Int) → s + r = sh → r < n → m < 2 ^ s → X5_inOnes_L4 (fun y1_3 => some y1_3) (rn 7 i) (iI sh) n y x = some (iI (bsum i r s m)) := by
  intro r
  induction r with
  | zero =>
    intro s n m x y hx hy hs hn hm
    obtain ⟨n, rfl⟩ : ∃ m, n = m + 1 := ⟨n - 1, by omega⟩
    subst hx; subst hy
    rw [X5_inOnes_L4, if_pos (tle (by omega) (by omega) (by omega))]
    rfl
  | succ r ih =>
    intro s n m x y hx hy hs hn hm
    obtain ⟨n, rfl⟩ : ∃ m, n = m + 1 := ⟨n - 1, by omega⟩
    subst hx; subst hy
    have b := hi s
    have h7 : 2 ^ s ≤ 2 ^ 6 := Nat.pow_le_pow_right (by omega) (by omega)
    have ho := all2 tb_or2 (a := m) (b := s) (by omega) (by omega) hm
    rw [X5_inOnes_L4, if_neg (fle (by omega) (by omega) (by omega)), rd_rn (by omega) (by omega) (by omega), Option.bind_some, Int.toNat_natCast, iI_s s]
    unfold bsum
    rcases (by omega : i s = 0 ∨ i s = 1) with c | c
    · rw [c, ho.2, ih (s + 1) n m _ _ rfl rfl (by omega) (by omega) (by rw [Nat.pow_succ]; omega), Nat.mul_zero]
      rfl
    · rw [c, ho.1, ih (s + 1) n (m + 2 ^ s) _ _ rfl rfl (by omega) (by omega) (by rw [Nat.pow_succ]; omega), Nat.mul_one]
-- those that are no SHIPS are not IN
def OutI (sh : Nat) (i : Nat → Nat) : Prop := ∀ j, sh ≤ j → i j = 0
set_option maxRecDepth 20000 in
set_option maxHeartbeats 400000 in
theorem bsum_mk {i : Nat → Nat} {sh : Nat} (hsh : sh ≤ 7) (hO : OutI sh i) : bsum i sh 0 0 = mk i := by
  have o := hO
  unfold OutI at o
  rcases (by omega : sh = 0 ∨ sh = 1 ∨ sh = 2 ∨ sh = 3 ∨ sh = 4 ∨ sh = 5 ∨ sh = 6 ∨ sh = 7) with rfl | rfl | rfl | rfl | rfl | rfl | rfl | rfl <;>
    · have o0 := o 0; have o1 := o 1; have o2 := o 2; have o3 := o 3; have o4 := o 4; have o5 := o 5; have o6 := o 6
      simp only [bsum, mk, Nat.reduceAdd, Nat.reducePow]
      omega
set_option maxRecDepth 20000 in
set_option maxHeartbeats 400000 in
theorem s_X5_inOnes {i : Nat → Nat} {sh : Nat} (hsh : sh ≤ 7) (hi : ∀ j, i j ≤ 1) (hO : OutI sh i) : X5_inOnes (rn 7 i) (iI sh) = some (iI (mk i)) := by
  unfold X5_inOnes
  rw [l_inOnes hsh hi sh 0 1000 0 0 0 (by decide) (by decide) (by omega) (by omega) (by omega), bsum_mk hsh hO]
set_option maxRecDepth 20000 in
set_option maxHeartbeats 400000 in
theorem stp_out {e : Env} {b fr d s sh : Nat} {y : Y3} (hs : s < sh) (h : OutI sh y.2.1) : OutI sh (stp e b fr d s y).2.1 := by
  intro j hj
  unfold stp
  split
  · show upN y.2.1 s 1 j = 0
    unfold upN
    rw [if_neg (by omega)]
    exact h j hj
  · exact h j hj
set_option maxRecDepth 20000 in
set_option maxHeartbeats 400000 in
theorem shp_out {e : Env} {b fr d sh : Nat} : ∀ (r s : Nat) (y : Y3), s + r ≤ sh → OutI sh y.2.1 → OutI sh (shp e b fr d r s y).2.1 := by
  intro r
  induction r with
  | zero => intro s y _ h; exact h
  | succ r ih => intro s y hs h; exact ih (s + 1) _ (by omega) (stp_out (by omega) h)
set_option maxRecDepth 20000 in
set_option maxHeartbeats 400000 in
theorem dayX_out {e : Env} {sh b fr : Nat} {x : XX} (h : OutI sh x.2.1) : OutI sh (dayX e sh b fr x).2.1 := shp_out (e := e) (b := b) (fr := fr) (d := x.2.2.2) sh 0 (x.1, x.2.1, x.2.2.1) (by omega) h
set_option maxRecDepth 20000 in
set_option maxHeartbeats 400000 in
theorem daysX_out {e : Env} {sh b fr : Nat} : ∀ (r : Nat) (x : XX), OutI sh x.2.1 → OutI sh (daysX e sh b fr r x).2.1 := by
  intro r
  induction r with
  | zero => intro x h; exact h
  | succ r ih => intro x h; exact ih _ (dayX_out h)
