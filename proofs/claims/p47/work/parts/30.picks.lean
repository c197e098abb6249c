/-! what whole says of the class alone -/
/-- one more of REFUSAL c -/
def incR (R : List Int32) (c : Nat) : List Int32 := R.set c (R.getD c 0 + 1)
set_option maxRecDepth 20000 in
set_option maxHeartbeats 400000 in
theorem incR_len {R : List Int32} {c : Nat} : (incR R c).length = R.length := List.length_set ..
set_option maxRecDepth 20000 in
set_option maxHeartbeats 400000 in
theorem rdL {R : List Int32} {c : Nat} (h : c < R.length) (hl : R.length < 2147483648) : rd R (iI (c : Int)) = some (R.getD c 0) := by
  unfold rd
  rw [iI_nat (by omega) (by omega), if_pos ⟨by rw [L0]; exact tle (by omega) (by omega) (by omega), by omega⟩]
  rfl
set_option maxRecDepth 20000 in
set_option maxHeartbeats 400000 in
theorem wrL {R : List Int32} {c : Nat} {x : Int32} (h : c < R.length) (hl : R.length < 2147483648) : wr R (iI (c : Int)) x = some (R.set c x) := by
  unfold wr
  rw [iI_nat (by omega) (by omega), if_pos ⟨by rw [L0]; exact tle (by omega) (by omega) (by omega), by omega⟩]
  rfl
set_option maxRecDepth 20000 in
set_option maxHeartbeats 400000 in
theorem e9 : iI (-9) = (-9 : Int32) := by decide
set_option maxRecDepth 20000 in
set_option maxHeartbeats 400000 in
theorem n9 {r : Int} (h : 0 ≤ r) (h2 : r ≤ 100000) : ¬ iI r = (-9 : Int32) := by rw [← e9]; exact feq (by omega) (by omega) (by omega) (by omega) (by omega)
set_option maxRecDepth 20000 in
set_option maxHeartbeats 400000 in
theorem p9 {r : Int} (h : 0 ≤ r) (h2 : r ≤ 100000) : (0 : Int32) ≤ iI r := by rw [L0]; exact tle (by omega) (by omega) (by omega)
set_option maxRecDepth 20000 in
set_option maxHeartbeats 400000 in
theorem m9 {r : Int} (h : 0 ≤ r) (h2 : r ≤ 100000) : ¬ iI r < (0 : Int32) := by rw [L0]; exact flt (by omega) (by omega) (by omega)
set_option maxRecDepth 20000 in
set_option maxHeartbeats 400000 in
theorem nz9 : ¬ (0 : Int32) ≤ (-9 : Int32) := by decide
set_option maxRecDepth 20000 in
set_option maxHeartbeats 400000 in
theorem nl9 : (-9 : Int32) < (0 : Int32) := by decide
set_option maxRecDepth 20000 in
set_option maxHeartbeats 400000 in
theorem z00 : iI ((0 : Nat) : Int) = (0 : Int32) := by decide
set_option maxRecDepth 20000 in
set_option maxHeartbeats 400000 in
theorem z11 : iI ((1 : Nat) : Int) = (1 : Int32) := by decide
set_option maxRecDepth 20000 in
set_option maxHeartbeats 400000 in
theorem ne0 {r : Int} (h : 1 ≤ r) (h2 : r ≤ 100000) : ¬ iI r = (0 : Int32) := by rw [L0]; exact feq (by omega) (by omega) (by omega) (by omega) (by omega)
set_option maxRecDepth 20000 in
set_option maxHeartbeats 400000 in
theorem cmX_b {e : Env} {sh b fr s : Nat} : ∀ (r n : Nat) (x : XX), (cmX e sh b fr s r n x).1 = -9 ∨ ((n : Int) ≤ (cmX e sh b fr s r n x).1 ∧ (cmX e sh b fr s r n x).1 ≤ ((n + r : Nat) : Int)) := by
  intro r
  induction r with
  | zero =>
    intro n x
    unfold cmX
    by_cases h : x.2.1 s = 0
    · exact Or.inl (show (if x.2.1 s = 0 then (-9 : Int) else (n : Int)) = -9 by rw [if_pos h])
    · exact Or.inr (show (n : Int) ≤ (if x.2.1 s = 0 then (-9 : Int) else (n : Int)) ∧ (if x.2.1 s = 0 then (-9 : Int) else (n : Int)) ≤ ((n + 0 : Nat) : Int) by rw [if_neg h]; omega)
  | succ r ih =>
    intro n x
    unfold cmX
    by_cases h : x.2.1 s = 0
    · rw [if_pos h]
      rcases ih (n + 1) (dayX e sh b fr x) with h1 | h1
      · exact Or.inl h1
      · exact Or.inr (by omega)
    · rw [if_neg h]
      exact Or.inr (show (n : Int) ≤ (n : Int) ∧ (n : Int) ≤ ((n + (r + 1) : Nat) : Int) by omega)
set_option maxRecDepth 20000 in
set_option maxHeartbeats 400000 in
theorem c10 : ¬ (1 : Int32) = (0 : Int32) := by decide
-- who is IN, as one number
def bsum (i : Nat → Nat) : Nat → Nat → Nat → Nat
  | 0, _, m => m
  | r + 1, s, m => bsum i r (s + 1) (m + 2 ^ s * i s)
-- those that are no SHIPS are not IN
def OutI (sh : Nat) (i : Nat → Nat) : Prop := ∀ j, sh ≤ j → i j = 0
set_option maxRecDepth 20000 in
set_option maxHeartbeats 400000 in
theorem bsum_mk {i : Nat → Nat} {sh : Nat} (hsh : sh ≤ 7) (hO : OutI sh i) : bsum i sh 0 0 = mk i := by
  have o := hO
  unfold OutI at o
  rcases (by omega : sh = 0 ∨ sh = 1 ∨ sh = 2 ∨ sh = 3 ∨ sh = 4 ∨ sh = 5 ∨ sh = 6 ∨ sh = 7) with rfl | rfl | rfl | rfl | rfl | rfl | rfl | rfl <;>
    · have o0 := o 0; have o1 := o 1; have o2 := o 2; have o3 := o 3; have o4 := o 4; have o5 := o 5; have o6 := o 6
      simp only [bsum, mk, Nat.reduceAdd, Nat.reducePow]
      omega
set_option maxRecDepth 20000 in
set_option maxHeartbeats 400000 in
theorem stp_out {e : Env} {b fr d s sh : Nat} {y : Y3} (hs : s < sh) (h : OutI sh y.2.1) : OutI sh (stp e b fr d s y).2.1 := by
  intro j hj
  unfold stp
  split
  · show upN y.2.1 s 1 j = 0
    unfold upN
    rw [if_neg (by omega)]
    exact h j hj
  · exact h j hj
set_option maxRecDepth 20000 in
set_option maxHeartbeats 400000 in
theorem shp_out {e : Env} {b fr d sh : Nat} : ∀ (r s : Nat) (y : Y3), s + r ≤ sh → OutI sh y.2.1 → OutI sh (shp e b fr d r s y).2.1 := by
  intro r
  induction r with
  | zero => intro s y _ h; exact h
  | succ r ih => intro s y hs h; exact ih (s + 1) _ (by omega) (stp_out (by omega) h)
set_option maxRecDepth 20000 in
set_option maxHeartbeats 400000 in
theorem dayX_out {e : Env} {sh b fr : Nat} {x : XX} (h : OutI sh x.2.1) : OutI sh (dayX e sh b fr x).2.1 := shp_out (e := e) (b := b) (fr := fr) (d := x.2.2.2) sh 0 (x.1, x.2.1, x.2.2.1) (by omega) h
set_option maxRecDepth 20000 in
set_option maxHeartbeats 400000 in
theorem daysX_out {e : Env} {sh b fr : Nat} : ∀ (r : Nat) (x : XX), OutI sh x.2.1 → OutI sh (daysX e sh b fr r x).2.1 := by
  intro r
  induction r with
  | zero => intro x h; exact h
  | succ r ih => intro x h; exact ih _ (dayX_out h)
/-- the first from s on, r of them, without whom s0 is IN behind the next DAY; -9 -/
def byV (e : Env) (sh s0 : Nat) (x : XX) : Nat → Nat → Int
  | 0, _ => -9
  | r + 1, s => if (dayX e sh (2 ^ s) 6 x).2.1 s0 = 0 then byV e sh s0 x r (s + 1) else (s : Int)
set_option maxRecDepth 20000 in
set_option maxHeartbeats 400000 in
theorem tb_shl : (List.range 7).all (fun s => decide (((1 : Int32) <<< (iI (s : Int) &&& (31 : Int32))) = iI ((2 ^ s : Nat) : Int))) = true := by decide +kernel
set_option maxRecDepth 20000 in
set_option maxHeartbeats 400000 in
theorem shl1 {s : Nat} (hs : s < 7) : ((1 : Int32) <<< (iI (s : Int) &&& (31 : Int32))) = iI ((2 ^ s : Nat) : Int) := of_decide_eq_true (List.all_eq_true.mp tb_shl s (List.mem_range.mpr hs))
set_option maxRecDepth 20000 in
set_option maxHeartbeats 400000 in
theorem pw7 {s : Nat} (hs : s < 7) : 2 ^ s < 128 := by
  have h : 2 ^ s ≤ 2 ^ 6 := Nat.pow_le_pow_right (by omega) (by omega)
  omega
set_option maxRecDepth 20000 in
set_option maxHeartbeats 400000 in
theorem l_X4_byWhom {u hd k f g l t i : Nat → Nat} {sh co d : Nat} {s0 : Nat} {refs : List Int32} (hE : OkE (u, hd, k, f, g, l)) (hsh : sh ≤ 7) (hs0 : s0 < 7) (hX : OkX 1500 (t, i, co, d)) : ∀ (r s n : Nat) (x : Int32) (M : Hs), x = iI (s : Int) → s + r = sh → r < n → MJ M →
    ∃ Mz : Hs, X4_byWhom_L30 (fun m_there_7 m_used_8 m_hidden_9 m_kind_10 m_figure_11 m_cargo_12 m_load_13 m_ships_14 m_inn_15 m_coughs_16 m_day_17 => some (refs, m_there_7, m_used_8, m_hidden_9, m_kind_10, m_figure_11, m_cargo_12, m_load_13, m_ships_14, m_inn_15, m_coughs_16, m_day_17, (-9 : Int32))) refs (rn 6 t) (rn 6 u) (rn 6 hd) (rn 7 k) (rn 7 f) (rn 7 g) (rn 7 l) (iI sh) (iI (mk i)) (iI co) (iI d) (iI s0) n x M.1 M.2.1 M.2.2.1 M.2.2.2.1 M.2.2.2.2.1 M.2.2.2.2.2.1 M.2.2.2.2.2.2.1 M.2.2.2.2.2.2.2.1 M.2.2.2.2.2.2.2.2.1 M.2.2.2.2.2.2.2.2.2.1 M.2.2.2.2.2.2.2.2.2.2 = some (refs, Mz.1, Mz.2.1, Mz.2.2.1, Mz.2.2.2.1, Mz.2.2.2.2.1, Mz.2.2.2.2.2.1, Mz.2.2.2.2.2.2.1, Mz.2.2.2.2.2.2.2.1, Mz.2.2.2.2.2.2.2.2.1, Mz.2.2.2.2.2.2.2.2.2.1, Mz.2.2.2.2.2.2.2.2.2.2, iI (byV (u, hd, k, f, g, l) sh s0 (t, i, co, d) r s)) ∧ MJ Mz := by
  intro r
  induction r with
  | zero =>
    intro s n x M hx hs hn hM
    obtain ⟨n, rfl⟩ : ∃ m, n = m + 1 := ⟨n - 1, by omega⟩
    subst hx
    rw [X4_byWhom_L30, if_pos (tle (by omega) (by omega) (by omega))]
    exact ⟨M, rfl, hM⟩
  | succ r ih =>
    intro s n x M hx hs hn hM
    obtain ⟨n, rfl⟩ : ∃ m, n = m + 1 := ⟨n - 1, by omega⟩
    subst hx
    have b := (dayX_ok (e := (u, hd, k, f, g, l)) (sh := sh) (b := 2 ^ s) (fr := 6) hX).2.1 s0
    obtain ⟨M1, e1, k1⟩ := s_X4_isInNextDay (s := s0) (b := 2 ^ s) hM hE hsh hX hs0 (pw7 (by omega))
    rw [X4_byWhom_L30, if_neg (fle (by omega) (by omega) (by omega)), shl1 (by omega), e1, Option.bind_some, iI_s s]
    unfold byV
    by_cases c : (dayX (u, hd, k, f, g, l) sh (2 ^ s) 6 (t, i, co, d)).2.1 s0 = 0
    · rw [if_pos (by rw [c]; exact h00), if_pos c]
      exact ih (s + 1) n _ M1 rfl (by omega) (by omega) k1
    · rw [if_neg (by rw [show (dayX (u, hd, k, f, g, l) sh (2 ^ s) 6 (t, i, co, d)).2.1 s0 = 1 by omega]; exact h10'), if_neg c]
      exact ⟨M1, rfl, k1⟩
set_option maxRecDepth 20000 in
set_option maxHeartbeats 400000 in
theorem upN_self {f : Nat → Nat} {s v w : Nat} (h : w = f s) : upN (upN f s v) s w = f := by
  funext j
  unfold upN
  by_cases c : j = s
  · rw [if_pos c, c, h]
  · rw [if_neg c, if_neg c]
set_option maxRecDepth 20000 in
set_option maxHeartbeats 400000 in
theorem OkE.hd1 {u hd k f g l h : Nat → Nat} (hE : OkE (u, hd, k, f, g, l)) (hh : ∀ j, h j ≤ 1000) : OkE (u, h, k, f, g, l) := ⟨hE.1, hh, hE.2.2⟩
set_option maxRecDepth 20000 in
set_option maxHeartbeats 400000 in
theorem OkX.t1 {D : Nat} {t i t1 : Nat → Nat} {co d : Nat} (hX : OkX D (t, i, co, d)) (h : ∀ j, t1 j ≤ 99) : OkX D (t1, i, co, d) := ⟨h, hX.2⟩
abbrev SS : Type := Env × Nat × XX
/-- a harbour as it can be -/
def OkS (S : SS) : Prop := OkE S.1 ∧ (∀ j, S.1.2.1 j ≤ 99) ∧ S.2.1 ≤ 7 ∧ OkX 999 S.2.2 ∧ OutI S.2.1 S.2.2.2.1
def picH (S : SS) : Hs := (rn 6 S.2.2.1, rn 6 S.1.1, rn 6 S.1.2.1, rn 7 S.1.2.2.1, rn 7 S.1.2.2.2.1, rn 7 S.1.2.2.2.2.1, rn 7 S.1.2.2.2.2.2, iI S.2.1, iI (mk S.2.2.2.1), iI S.2.2.2.2.1, iI S.2.2.2.2.2)
set_option maxRecDepth 20000 in
set_option maxHeartbeats 400000 in
theorem picMJ {S : SS} : MJ (picH S) := ⟨rn_len, rn_len, rn_len, rn_len, rn_len, rn_len, rn_len⟩
set_option maxRecDepth 20000 in
set_option maxHeartbeats 400000 in
theorem sE {S : SS} (h : OkS S) : OkE S.1 := h.1
set_option maxRecDepth 20000 in
set_option maxHeartbeats 400000 in
theorem sSh {S : SS} (h : OkS S) : S.2.1 ≤ 7 := h.2.2.1
set_option maxRecDepth 20000 in
set_option maxHeartbeats 400000 in
theorem sX {S : SS} (h : OkS S) : OkX 999 S.2.2 := h.2.2.2.1
set_option maxRecDepth 20000 in
set_option maxHeartbeats 400000 in
theorem sO {S : SS} (h : OkS S) : OutI S.2.1 S.2.2.2.1 := h.2.2.2.2
set_option maxRecDepth 20000 in
set_option maxHeartbeats 400000 in
theorem OkS.mk1 {u hd k f g l t i : Nat → Nat} {sh co d : Nat} (hE : OkE (u, hd, k, f, g, l)) (hh : ∀ j, hd j ≤ 99) (hsh : sh ≤ 7) (hX : OkX 999 (t, i, co, d)) (hO : OutI sh i) : OkS ((u, hd, k, f, g, l), sh, (t, i, co, d)) := ⟨hE, hh, hsh, hX, hO⟩
set_option maxRecDepth 20000 in
set_option maxHeartbeats 400000 in
theorem pok_ok {perm : Nat → Nat} (h : ∀ j, j < 8 → perm j < 8) : pok perm = true := by
  unfold pok
  rw [List.all_eq_true]
  intro j hj
  exact decide_eq_true (h j (List.mem_range.mp hj))
-- one is kept more, there is room
set_option maxRecDepth 20000 in
set_option maxHeartbeats 400000 in
theorem s_keep2 {S : SS} {b : Nat} {perm : Nat → Nat} {hist : Nat → Hs} {n1 n2 n3 n4 n5 n6 n7 : List Int32} {m1 m2 m3 m4 : Int32} (hb : b < 8) (hm : MJ (hist (perm b))) (hn : MJ (n1, n2, n3, n4, n5, n6, n7, m1, m2, m3, m4)) : keep2 n1 n2 n3 n4 n5 n6 n7 m1 m2 m3 m4 (iI (b : Int)) perm hist = some (iI ((b + 1 : Nat) : Int), perm, uph hist (perm b) (n1, n2, n3, n4, n5, n6, n7, m1, m2, m3, m4)) := by
  have e : (iI (b : Int)).toNatClampNeg = b := by
    rw [iI_nat (by omega) (by omega)]; omega
  unfold keep2
  rw [e, if_pos ⟨by rw [L0]; exact tle (by omega) (by omega) (by omega), hb⟩, s_copy hm hn, Option.bind_some, iI_s]
def pc (m : Nat) : Nat := m % 2 + m / 2 % 2 + m / 4 % 2 + m / 8 % 2 + m / 16 % 2 + m / 32 % 2 + m / 64 % 2
set_option maxRecDepth 20000 in
set_option maxHeartbeats 400000 in
theorem nn1 : (1 : Int32) = iI ((1 : Nat) : Int) := by decide
set_option maxRecDepth 20000 in
set_option maxHeartbeats 400000 in
theorem s_hideAway {t hd : Nat → Nat} {a : Nat} {n : Int} (ha : a < 6) (h1 : -(hd a : Int) ≤ n) (h2 : n ≤ (t a : Int)) : X0_hideAway (rn 6 t) (rn 6 hd) (iI (a : Int)) (iI n) = some (rn 6 (upN t a ((t a : Int) - n).toNat), rn 6 (upN hd a ((hd a : Int) + n).toNat)) ∧ True := by
  unfold X0_hideAway
  rw [rd_rn (by omega) (by omega) (by omega), Option.bind_some, Int.toNat_natCast, iI_sub, wr_rn (by omega) (by omega) (by omega) (by omega), Option.bind_some, rd_rn (by omega) (by omega) (by omega), Option.bind_some, Int.toNat_natCast, iI_add, wr_rn (by omega) (by omega) (by omega) (by omega), Option.bind_some, Int.toNat_natCast]
  exact ⟨rfl, trivial⟩
set_option maxRecDepth 20000 in
set_option maxHeartbeats 400000 in
theorem tb_bits : (List.range 128).all (fun m => decide (J6_bitCount_0f7a4 (iI (m : Int)) = some (iI (pc m : Int)))) = true := by decide +kernel
set_option maxRecDepth 20000 in
set_option maxHeartbeats 400000 in
theorem s_bits {m : Nat} (hm : m < 128) : J6_bitCount_0f7a4 (iI (m : Int)) = some (iI (pc m : Int)) ∧ True :=
  ⟨of_decide_eq_true (List.all_eq_true.mp tb_bits m (List.mem_range.mpr hm)), trivial⟩

set_option maxRecDepth 20000 in
set_option maxHeartbeats 400000 in
theorem tb_pw : (List.range 7).all (fun s => (List.range 7).all (fun j => decide (2 ^ s / 2 ^ j % 2 = if j = s then 1 else 0))) = true := by decide
set_option maxRecDepth 20000 in
set_option maxHeartbeats 400000 in
theorem pw_bit {s j : Nat} (hs : s < 7) (hj : j < 7) : 2 ^ s / 2 ^ j % 2 = if j = s then 1 else 0 := all2 tb_pw hs hj
set_option maxRecDepth 20000 in
set_option maxHeartbeats 400000 in
theorem upN_up {f : Nat → Nat} {s v w : Nat} : upN (upN f s v) s w = upN f s w := by
  funext j
  unfold upN
  by_cases c : j = s
  · rw [if_pos c, if_pos c]
  · rw [if_neg c, if_neg c, if_neg c]
set_option maxRecDepth 20000 in
set_option maxHeartbeats 400000 in
theorem upN_id {f : Nat → Nat} {s : Nat} : upN f s (f s) = f := by
  funext j
  unfold upN
  by_cases c : j = s
  · rw [if_pos c, c]
  · rw [if_neg c]
set_option maxRecDepth 20000 in
set_option maxHeartbeats 400000 in
theorem OkE.g1 {u hd k f g l h : Nat → Nat} (hE : OkE (u, hd, k, f, g, l)) (hh : ∀ j, h j ≤ 5) : OkE (u, hd, k, f, h, l) := ⟨oU hE, oH hE, oK hE, oF hE, hh, oL hE⟩
set_option maxRecDepth 20000 in
set_option maxHeartbeats 400000 in
theorem OkE.u1 {u hd k f g l h : Nat → Nat} (hE : OkE (u, hd, k, f, g, l)) (hh : ∀ j, h j ≤ 9) : OkE (h, hd, k, f, g, l) := ⟨hh, hE.2⟩
set_option maxRecDepth 20000 in
set_option maxHeartbeats 400000 in
theorem s_X4_isInUnlacked {A1 A2 A3 A4 A5 A6 A7 : List Int32} {a1 a2 a3 a4 : Int32} {u hd k f g l t i : Nat → Nat} {sh co d : Nat} {a s0 : Nat} (hM : MJ (A1, A2, A3, A4, A5, A6, A7, a1, a2, a3, a4)) (hE : OkE (u, hd, k, f, g, l)) (hsh : sh ≤ 7) (ha : a < 6) (hs0 : s0 < 7) (hX : OkX 1500 (t, i, co, d)) : ∃ Mz : Hs, X4_isInUnlacked A1 A2 A3 A4 A5 A6 A7 (rn 6 t) (rn 6 u) (rn 6 hd) (rn 7 k) (rn 7 f) (rn 7 g) (rn 7 l) a1 a2 a3 a4 (iI sh) (iI (mk i)) (iI co) (iI d) (iI (s0 : Int)) (iI (a : Int)) = some (Mz.1, Mz.2.1, Mz.2.2.1, Mz.2.2.2.1, Mz.2.2.2.2.1, Mz.2.2.2.2.2.1, Mz.2.2.2.2.2.2.1, Mz.2.2.2.2.2.2.2.1, Mz.2.2.2.2.2.2.2.2.1, Mz.2.2.2.2.2.2.2.2.2.1, Mz.2.2.2.2.2.2.2.2.2.2, iI ((dayX (upN u a 0, hd, k, f, g, l) sh 0 6 (t, i, co, d)).2.1 s0)) ∧ MJ Mz := by
  have hE2 : OkE (upN u a 0, hd, k, f, g, l) := hE.u1 (fun j => upN_le (oU hE) (by omega) j)
  have hz := dayX_ok (e := (upN u a 0, hd, k, f, g, l)) (sh := sh) (b := 0) (fr := 6) hX
  unfold X4_isInUnlacked
  rw [s_X4_fromNow hM, Option.bind_some, i0, wr_rn (by omega) (by omega) (by omega) (by omega), Option.bind_some, Int.toNat_natCast, Int.toNat_natCast, s_X0_passDay hE2 hsh (by omega) (hX.mono (by omega)), Option.bind_some, s_X0_isIn hz.2.1 (by omega) (by omega), Option.bind_some, Int.toNat_natCast, c01_i (hz.2.1 s0), Option.bind_some]
  dsimp only
  exact exM ⟨rn_len, rn_len, rn_len, rn_len, rn_len, rn_len, rn_len⟩
set_option maxRecDepth 20000 in
set_option maxHeartbeats 400000 in
theorem cn_congr {L L' : Nat → Nat} (h : ∀ j, j ≤ 5 → L j = L' j) : ∀ r s, s + r ≤ 6 → cn L r s = cn L' r s := by
  intro r
  induction r with
  | zero => intro s _; rfl
  | succ r ih =>
    intro s hs
    unfold cn
    rw [h s (by omega), ih (s + 1) (by omega)]
set_option maxRecDepth 20000 in
set_option maxHeartbeats 400000 in
theorem sk_congr {L L' hd : Nat → Nat} {co k g : Nat} (h : ∀ j, j ≤ 5 → L j = L' j) (hg : g ≤ 5) : sk L hd co k g = sk L' hd co k g := by
  unfold sk nlk
  rw [h g hg, h (nx g) (nx_lt hg), cn_congr h 6 0 (by omega)]
set_option maxRecDepth 20000 in
set_option maxHeartbeats 400000 in
theorem dayX_self {e : Env} {sh fr s : Nat} {x : XX} (hs : s < 7) (hsh : sh ≤ 7) (h : x.2.1 s = 0) : (dayX e sh (2 ^ s) fr x).2.1 s = 0 := by
  have key : ∀ (r j : Nat) (y : Y3), j + r ≤ 7 → y.2.1 s = 0 → (shp e (2 ^ s) fr x.2.2.2 r j y).2.1 s = 0 := by
    intro r
    induction r with
    | zero => intro j y _ h; exact h
    | succ r ih =>
      intro j y hj h
      unfold shp
      refine ih (j + 1) _ (by omega) ?_
      unfold stp
      by_cases c : j = s
      · subst c
        rw [if_neg (fun z => by have := pw_bit hs hs; rw [if_pos rfl] at this; omega)]
        exact h
      · split
        · show upN y.2.1 j 1 s = 0
          unfold upN
          rw [if_neg (fun z => c z.symm)]
          exact h
        · exact h
  exact key sh 0 _ (by omega) h
set_option maxRecDepth 20000 in
set_option maxHeartbeats 400000 in
theorem cm_spec {e : Env} {sh b fr s : Nat} : ∀ (r n : Nat) (x : XX), ((cmX e sh b fr s r n x).1 = -9 ∧ ∀ j, j ≤ r → (daysX e sh b fr j x).2.1 s = 0) ∨ (∃ j : Nat, j ≤ r ∧ (cmX e sh b fr s r n x).1 = ((n + j : Nat) : Int) ∧ ¬ (daysX e sh b fr j x).2.1 s = 0 ∧ ∀ j1, j1 < j → (daysX e sh b fr j1 x).2.1 s = 0) := by
  intro r
  induction r with
  | zero =>
    intro n x
    unfold cmX
    by_cases h : x.2.1 s = 0
    · refine Or.inl ⟨show (if x.2.1 s = 0 then (-9 : Int) else (n : Int)) = -9 by rw [if_pos h], fun j hj => ?_⟩
      obtain rfl : j = 0 := by omega
      exact h
    · exact Or.inr ⟨0, Nat.le_refl _, show (if x.2.1 s = 0 then (-9 : Int) else (n : Int)) = _ by rw [if_neg h]; rfl, h, fun j1 hj => absurd hj (by omega)⟩
  | succ r ih =>
    intro n x
    unfold cmX
    by_cases h : x.2.1 s = 0
    · rw [if_pos h]
      rcases ih (n + 1) (dayX e sh b fr x) with ⟨h1, h2⟩ | ⟨j, h1, h2, h3, h4⟩
      · refine Or.inl ⟨h1, fun j hj => ?_⟩
        cases j with
        | zero => exact h
        | succ j => exact h2 j (by omega)
      · refine Or.inr ⟨j + 1, by omega, by rw [h2]; exact congrArg Int.ofNat (by omega), h3, fun j1 hj => ?_⟩
        cases j1 with
        | zero => exact h
        | succ j1 => exact h4 j1 (by omega)
    · rw [if_neg h]
      exact Or.inr ⟨0, by omega, rfl, h, fun j1 hj => absurd hj (by omega)⟩
/-- the first from s on, r of them, that is IN by i1 and not by i -/
def scan (i1 i : Nat → Nat) : Nat → Nat → Int
  | 0, _ => -9
  | r + 1, s => if i1 s = 0 then scan i1 i r (s + 1) else if i s = 0 then (s : Int) else scan i1 i r (s + 1)
set_option maxRecDepth 20000 in
set_option maxHeartbeats 400000 in
theorem scan_spec {i1 i : Nat → Nat} : ∀ r s : Nat, (scan i1 i r s = -9 ∧ ∀ j, s ≤ j → j < s + r → i j = 0 → i1 j = 0) ∨ (∃ b : Nat, s ≤ b ∧ b < s + r ∧ scan i1 i r s = (b : Int) ∧ i b = 0 ∧ ¬ i1 b = 0 ∧ ∀ j, s ≤ j → j < b → i j = 0 → i1 j = 0) := by
  intro r
  induction r with
  | zero => intro s; exact Or.inl ⟨rfl, fun j h1 h2 => absurd h2 (by omega)⟩
  | succ r ih =>
    intro s
    have up : (i s = 0 → i1 s = 0) → scan i1 i (r + 1) s = scan i1 i r (s + 1) → ((scan i1 i (r + 1) s = -9 ∧ ∀ j, s ≤ j → j < s + (r + 1) → i j = 0 → i1 j = 0) ∨ (∃ b : Nat, s ≤ b ∧ b < s + (r + 1) ∧ scan i1 i (r + 1) s = (b : Int) ∧ i b = 0 ∧ ¬ i1 b = 0 ∧ ∀ j, s ≤ j → j < b → i j = 0 → i1 j = 0)) := by
      intro h0 e
      rw [e]
      rcases ih (s + 1) with ⟨h1, h2⟩ | ⟨b, h1, h2, h3, h4, h5, h6⟩
      · refine Or.inl ⟨h1, fun j g1 g2 g3 => ?_⟩
        by_cases c : j = s
        · subst c; exact h0 g3
        · exact h2 j (by omega) (by omega) g3
      · refine Or.inr ⟨b, by omega, by omega, h3, h4, h5, fun j g1 g2 g3 => ?_⟩
        by_cases c : j = s
        · subst c; exact h0 g3
        · exact h6 j (by omega) g2 g3
    by_cases c1 : i1 s = 0
    · exact up (fun _ => c1) (by rw [scan, if_pos c1])
    · by_cases c2 : i s = 0
      · exact Or.inr ⟨s, Nat.le_refl _, by omega, by rw [scan, if_neg c1, if_pos c2], c2, c1, fun j g1 g2 => absurd g2 (by omega)⟩
      · exact up (fun z => absurd z c2) (by rw [scan, if_neg c1, if_neg c2])
def fst1 (e : Env) (sh : Nat) (i : Nat → Nat) : Nat → XX → Int
  | 0, _ => -9
  | r + 1, x => if scan (dayX e sh 0 6 x).2.1 i sh 0 = -9 then fst1 e sh i r (dayX e sh 0 6 x) else scan (dayX e sh 0 6 x).2.1 i sh 0
set_option maxRecDepth 20000 in
set_option maxHeartbeats 400000 in
theorem fst_spec {e : Env} {sh : Nat} {i : Nat → Nat} : ∀ (r : Nat) (x : XX), (fst1 e sh i r x = -9 ∧ ∀ s, s < sh → i s = 0 → ∀ w, 1 ≤ w → w ≤ r → (daysX e sh 0 6 w x).2.1 s = 0) ∨ (∃ s w : Nat, s < sh ∧ 1 ≤ w ∧ w ≤ r ∧ fst1 e sh i r x = (s : Int) ∧ i s = 0 ∧ ¬ (daysX e sh 0 6 w x).2.1 s = 0 ∧ (∀ s1, s1 < sh → i s1 = 0 → ∀ w1, 1 ≤ w1 → w1 < w → (daysX e sh 0 6 w1 x).2.1 s1 = 0) ∧ (∀ s1, s1 < s → i s1 = 0 → (daysX e sh 0 6 w x).2.1 s1 = 0)) := by
  intro r
  induction r with
  | zero => intro x; exact Or.inl ⟨rfl, fun s _ _ w h1 h2 => absurd h2 (by omega)⟩
  | succ r ih =>
    intro x
    rcases scan_spec (i1 := (dayX e sh 0 6 x).2.1) (i := i) sh 0 with ⟨h1, h2⟩ | ⟨b, h1, h2, h3, h4, h5, h6⟩
    · have e1 : fst1 e sh i (r + 1) x = fst1 e sh i r (dayX e sh 0 6 x) := by rw [fst1, if_pos h1]
      rw [e1]
      rcases ih (dayX e sh 0 6 x) with ⟨g1, g2⟩ | ⟨s, w, g1, g2, g3, g4, g5, g6, g7, g8⟩
      · refine Or.inl ⟨g1, fun s hs hi w k1 k2 => ?_⟩
        obtain ⟨w, rfl⟩ : ∃ j, w = j + 1 := ⟨w - 1, by omega⟩
        cases w with
        | zero => exact h2 s (by omega) (by omega) hi
        | succ w => exact g2 s hs hi (w + 1) (by omega) (by omega)
      · refine Or.inr ⟨s, w + 1, g1, by omega, by omega, g4, g5, g6, fun s1 k1 k2 w1 k3 k4 => ?_, g8⟩
        obtain ⟨w1, rfl⟩ : ∃ j, w1 = j + 1 := ⟨w1 - 1, by omega⟩
        cases w1 with
        | zero => exact h2 s1 (by omega) (by omega) k2
        | succ w1 => exact g7 s1 k1 k2 (w1 + 1) (by omega) (by omega)
    · have e1 : fst1 e sh i (r + 1) x = (b : Int) := by rw [fst1, h3, if_neg (by omega)]
      exact Or.inr ⟨b, 1, by omega, Nat.le_refl _, by omega, e1, h4, h5, fun s1 _ _ w1 k3 k4 => absurd k4 (by omega), fun s1 k1 k2 => h6 s1 (by omega) k1 k2⟩
set_option maxRecDepth 20000 in
set_option maxHeartbeats 400000 in
theorem l_scan {i1 i : Nat → Nat} {sh : Nat} {B1 B2 B3 B4 B5 B6 B7 : List Int32} {c1 c2 : Int32} (hi1 : ∀ j, i1 j ≤ 1) (hi : ∀ j, i j ≤ 1) (hsh : sh ≤ 7) (K : Unit → Option (List Int32 × List Int32 × List Int32 × List Int32 × List Int32 × List Int32 × List Int32 × Int32 × Int32 × Int32 × Int32 × Int32)) : ∀ (r s n : Nat) (x : Int32), x = iI (s : Int) → s + r = sh → r < n → X4_firstToComeIn_L20 K B1 B2 B3 B4 B5 B6 B7 (iI sh) (iI (mk i1 : Int)) c1 c2 (iI (mk i : Int)) n x = if scan i1 i r s = -9 then K () else some (B1, B2, B3, B4, B5, B6, B7, iI sh, iI (mk i1 : Int), c1, c2, iI (scan i1 i r s)) := by
  intro r
  induction r with
  | zero =>
    intro s n x hx hs hn
    obtain ⟨m, rfl⟩ : ∃ m, n = m + 1 := ⟨n - 1, by omega⟩
    subst hx
    rw [X4_firstToComeIn_L20, if_pos (tle (by omega) (by omega) (by omega))]
    rfl
  | succ r ih =>
    intro s n x hx hs hn
    obtain ⟨m, rfl⟩ : ∃ m, n = m + 1 := ⟨n - 1, by omega⟩
    subst hx
    have b1 := hi1 s
    have b2 := hi s
    rw [X4_firstToComeIn_L20, if_neg (fle (by omega) (by omega) (by omega)), s_X0_isIn hi1 (by omega) (by omega), Option.bind_some, Int.toNat_natCast, scan]
    by_cases h1 : i1 s = 0
    · rw [if_pos (show iI (i1 s : Int) = (0 : Int32) by rw [h1]; decide), if_pos h1]
      exact ih (s + 1) m _ (iI_s s) (by omega) (by omega)
    · rw [if_neg (show ¬ iI (i1 s : Int) = (0 : Int32) from ne0 (by omega) (by omega)), if_neg h1, s_X0_isIn hi (by omega) (by omega), Option.bind_some, Int.toNat_natCast]
      by_cases h2 : i s = 0
      · rw [if_pos (show iI (i s : Int) = (0 : Int32) by rw [h2]; decide), if_pos h2, if_neg (by omega)]
      · rw [if_neg (show ¬ iI (i s : Int) = (0 : Int32) from ne0 (by omega) (by omega)), if_neg h2]
        exact ih (s + 1) m _ (iI_s s) (by omega) (by omega)
set_option maxRecDepth 20000 in
set_option maxHeartbeats 400000 in
theorem exM2 {B1 B2 B3 B4 B5 B6 B7 : List Int32} {b1 b2 b3 b4 r : Int32} (h : MJ (B1, B2, B3, B4, B5, B6, B7, b1, b2, b3, b4)) : ∃ Mz : Hs, some (B1, B2, B3, B4, B5, B6, B7, b1, b2, b3, b4, r) = some (Mz.1, Mz.2.1, Mz.2.2.1, Mz.2.2.2.1, Mz.2.2.2.2.1, Mz.2.2.2.2.2.1, Mz.2.2.2.2.2.2.1, Mz.2.2.2.2.2.2.2.1, Mz.2.2.2.2.2.2.2.2.1, Mz.2.2.2.2.2.2.2.2.2.1, Mz.2.2.2.2.2.2.2.2.2.2, r) ∧ MJ Mz := exM h
set_option maxRecDepth 20000 in
set_option maxHeartbeats 400000 in
theorem l_first {u hd k f g l i0 : Nat → Nat} {sh : Nat} (hE : OkE (u, hd, k, f, g, l)) (hsh : sh ≤ 7) (hi0 : ∀ j, i0 j ≤ 1) : ∀ (r s n D : Nat) (x : Int32) (t i : Nat → Nat) (co d : Nat), x = iI (s : Int) → s + r = 60 → r < n → OkX D (t, i, co, d) → D + r ≤ 2000 →
    ∃ Mz : Hs, X4_firstToComeIn_L7 (fun m_there_9 m_inn_10 m_coughs_11 m_day_12 => some (m_there_9, rn 6 u, rn 6 hd, rn 7 k, rn 7 f, rn 7 g, rn 7 l, iI (sh : Int), m_inn_10, m_coughs_11, m_day_12, (-9 : Int32))) (rn 6 u) (rn 6 hd) (rn 7 k) (rn 7 f) (rn 7 g) (rn 7 l) (iI sh) (iI (mk i0)) n x (rn 6 t) (iI (mk i)) (iI co) (iI d) = some (Mz.1, Mz.2.1, Mz.2.2.1, Mz.2.2.2.1, Mz.2.2.2.2.1, Mz.2.2.2.2.2.1, Mz.2.2.2.2.2.2.1, Mz.2.2.2.2.2.2.2.1, Mz.2.2.2.2.2.2.2.2.1, Mz.2.2.2.2.2.2.2.2.2.1, Mz.2.2.2.2.2.2.2.2.2.2, iI (fst1 (u, hd, k, f, g, l) sh i0 r (t, i, co, d))) ∧ MJ Mz := by
  intro r
  induction r with
  | zero =>
    intro s n D x t i co d hx hs hn hX hD
    obtain ⟨m, rfl⟩ : ∃ m, n = m + 1 := ⟨n - 1, by omega⟩
    subst hx
    rw [X4_firstToComeIn_L7, L60, if_pos (tle (by omega) (by omega) (by omega)), ← e9]
    exact exM ⟨rn_len, rn_len, rn_len, rn_len, rn_len, rn_len, rn_len⟩
  | succ r ih =>
    intro s n D x t i co d hx hs hn hX hD
    obtain ⟨m, rfl⟩ : ∃ m, n = m + 1 := ⟨n - 1, by omega⟩
    subst hx
    have hz := dayX_ok (e := (u, hd, k, f, g, l)) (sh := sh) (b := 0) (fr := 6) hX
    have w0 := s_X0_passDay (b := 0) hE hsh (by omega) (hX.mono (show D ≤ 2000 by omega))
    rw [z00] at w0
    rw [X4_firstToComeIn_L7, L60, if_neg (fle (by omega) (by omega) (by omega)), w0, Option.bind_some, l_scan hz.2.1 hi0 hsh _ sh 0 1000 0 (by decide) (by omega) (by omega), fst1]
    by_cases c : scan (dayX (u, hd, k, f, g, l) sh 0 6 (t, i, co, d)).2.1 i0 sh 0 = -9
    · rw [if_pos c, if_pos c]
      exact ih (s + 1) m (D + 1) _ _ _ _ _ (iI_s s) (by omega) (by omega) hz (by omega)
    · rw [if_neg c, if_neg c]
      exact exM ⟨rn_len, rn_len, rn_len, rn_len, rn_len, rn_len, rn_len⟩
/-- the first good from s on, r of them, of which there is nothing -/
def fb (t : Nat → Nat) : Nat → Nat → Int
  | 0, _ => -9
  | r + 1, s => if t s = 0 then (s : Int) else fb t r (s + 1)
set_option maxRecDepth 20000 in
set_option maxHeartbeats 400000 in
theorem fb_b {t : Nat → Nat} : ∀ r s : Nat, fb t r s = -9 ∨ ((s : Int) ≤ fb t r s ∧ fb t r s < ((s + r : Nat) : Int)) := by
  intro r
  induction r with
  | zero => intro s; exact Or.inl rfl
  | succ r ih =>
    intro s
    unfold fb
    by_cases c : t s = 0
    · rw [if_pos c]; exact Or.inr (by omega)
    · rw [if_neg c]
      have := ih (s + 1)
      omega
set_option maxRecDepth 20000 in
set_option maxHeartbeats 400000 in
theorem l_firstBare {t : Nat → Nat} (ht : ∀ j, t j ≤ 99) : ∀ (r s n : Nat) (x : Int32), x = iI (s : Int) → s + r = 6 → r < n → X0_firstBare_L2 (fun _ => some (-9 : Int32)) (rn 6 t) n x = some (iI (fb t r s)) := by
  intro r
  induction r with
  | zero =>
    intro s n x hx hs hn
    obtain ⟨m, rfl⟩ : ∃ m, n = m + 1 := ⟨n - 1, by omega⟩
    subst hx
    rw [X0_firstBare_L2, if_pos (by rw [L6]; exact tle (by omega) (by omega) (by omega))]
    rfl
  | succ r ih =>
    intro s n x hx hs hn
    obtain ⟨m, rfl⟩ : ∃ m, n = m + 1 := ⟨n - 1, by omega⟩
    subst hx
    have b := ht s
    rw [X0_firstBare_L2, if_neg (by rw [L6]; exact fle (by omega) (by omega) (by omega)), rd_rn (by omega) (by omega) (by omega), Option.bind_some, Int.toNat_natCast]
    unfold fb
    by_cases c : t s = 0
    · rw [if_pos (show iI (t s : Int) = (0 : Int32) by rw [c]; decide), if_pos c]
    · rw [if_neg (show ¬ iI (t s : Int) = (0 : Int32) from ne0 (by omega) (by omega)), if_neg c]
      exact ih (s + 1) m _ (iI_s s) (by omega) (by omega)
def tS (t : Nat → Nat) (m : Nat) : Nat → Nat := fun j => if m / 2 ^ j % 2 = 0 then t j else 0
def hS (t hd : Nat → Nat) (m : Nat) : Nat → Nat := fun j => if m / 2 ^ j % 2 = 0 then hd j else hd j + t j
/-- when s0 is IN, all of the goods of m hidden; -9 -/
def PW (e : Env) (sh s0 N : Nat) (x : XX) (m : Nat) : Int := (cmX (e.1, hS x.1 e.2.1 m, e.2.2) sh 0 6 s0 N 0 (tS x.1 m, x.2)).1
set_option maxRecDepth 20000 in
set_option maxHeartbeats 400000 in
theorem PW_b {e : Env} {sh s0 N : Nat} {x : XX} {m : Nat} : PW e sh s0 N x m = -9 ∨ (0 ≤ PW e sh s0 N x m ∧ PW e sh s0 N x m ≤ (N : Int)) := by
  have := cmX_b (e := (e.1, hS x.1 e.2.1 m, e.2.2)) (sh := sh) (b := 0) (fr := 6) (s := s0) N 0 (tS x.1 m, x.2)
  unfold PW
  omega
set_option maxRecDepth 20000 in
set_option maxHeartbeats 400000 in
theorem stepS {w f t : Nat → Nat} {s : Nat} (hw : ∀ j, w j = if j < s then f j else t j) (hv : t s = f s) : ∀ j, w j = if j < s + 1 then f j else t j := by
  intro j
  rw [hw j]
  by_cases h : j < s
  · rw [if_pos h, if_pos (by omega)]
  · rw [if_neg h]
    by_cases h1 : j = s
    · rw [if_pos (by omega), h1]; exact hv
    · rw [if_neg (by omega)]
set_option maxRecDepth 20000 in
set_option maxHeartbeats 400000 in
theorem l_without {t hd : Nat → Nat} {m : Nat} (ht : ∀ j, t j ≤ 99) (hh : ∀ j, hd j ≤ 99) (hm : m < 128) (K : List Int32 → List Int32 → Option (List Int32 × List Int32 × List Int32 × List Int32 × List Int32 × List Int32 × List Int32 × Int32 × Int32 × Int32 × Int32 × Int32)) : ∀ (r s n : Nat) (x : Int32) (w1 w2 : Nat → Nat), x = iI (s : Int) → s + r = 6 → r < n → (∀ j, w1 j = if j < s then tS t m j else t j) → (∀ j, w2 j = if j < s then hS t hd m j else hd j) → X4_isInWithout_L9 K (iI (m : Int)) n x (rn 6 w1) (rn 6 w2) = K (rn 6 (tS t m)) (rn 6 (hS t hd m)) := by
  intro r
  induction r with
  | zero =>
    intro s n x w1 w2 hx hs hn h1 h2
    obtain ⟨n, rfl⟩ : ∃ m, n = m + 1 := ⟨n - 1, by omega⟩
    subst hx
    obtain rfl : s = 6 := by omega
    rw [X4_isInWithout_L9, if_pos (by decide), endW h1, endW h2]
  | succ r ih =>
    intro s n x w1 w2 hx hs hn h1 h2
    obtain ⟨n, rfl⟩ : ∃ m, n = m + 1 := ⟨n - 1, by omega⟩
    subst hx
    have e1 : w1 s = t s := by rw [h1 s, if_neg (by omega)]
    have e2 : w2 s = hd s := by rw [h2 s, if_neg (by omega)]
    rw [X4_isInWithout_L9, if_neg (by rw [L6]; exact fle (by omega) (by omega) (by omega)), L31, L1, bit_rd hm (by omega) (by omega), Int.toNat_natCast]
    by_cases c : m / 2 ^ s % 2 = 0
    · rw [if_pos (by rw [c]; decide), ← L1, iI_s s]
      exact ih (s + 1) n _ _ _ rfl (by omega) (by omega) (stepS h1 (by unfold tS; rw [if_pos c])) (stepS h2 (by unfold hS; rw [if_pos c]))
    · have hw := (s_hideAway (t := w1) (hd := w2) (a := s) (n := (t s : Int)) (by omega) (by omega) (by omega)).1
      rw [if_neg (ne0 (by omega) (by omega)), ← L1, rd_rn (by omega) (by omega) (by omega), Option.bind_some, Int.toNat_natCast, e1, hw, Option.bind_some, iI_s s]
      exact ih (s + 1) n _ _ _ rfl (by omega) (by omega) (stepW h1 (by unfold tS; rw [if_neg c]; omega)) (stepW h2 (by unfold hS; rw [if_neg c]; omega))
set_option maxRecDepth 20000 in
set_option maxHeartbeats 400000 in
theorem tS_le {t : Nat → Nat} {m : Nat} (ht : ∀ j, t j ≤ 99) (j : Nat) : tS t m j ≤ 99 := by
  have := ht j
  unfold tS
  split <;> omega
set_option maxRecDepth 20000 in
set_option maxHeartbeats 400000 in
theorem hS_le {t hd : Nat → Nat} {m : Nat} (ht : ∀ j, t j ≤ 99) (hh : ∀ j, hd j ≤ 99) (j : Nat) : hS t hd m j ≤ 1000 := by
  have := ht j
  have := hh j
  unfold hS
  split <;> omega
set_option maxRecDepth 20000 in
set_option maxHeartbeats 400000 in
theorem s_X4_isInWithout {A1 A2 A3 A4 A5 A6 A7 : List Int32} {a1 a2 a3 a4 : Int32} {u hd k f g l t i : Nat → Nat} {sh co d : Nat} {m s0 N : Nat} (hM : MJ (A1, A2, A3, A4, A5, A6, A7, a1, a2, a3, a4)) (hE : OkE (u, hd, k, f, g, l)) (hhd : ∀ j, hd j ≤ 99) (hsh : sh ≤ 7) (hX : OkX 1000 (t, i, co, d)) (hs0 : s0 < 7) (hN : N ≤ 60) (hm : m < 128) : ∃ Mz : Hs, X4_isInWithout A1 A2 A3 A4 A5 A6 A7 (rn 6 t) (rn 6 u) (rn 6 hd) (rn 7 k) (rn 7 f) (rn 7 g) (rn 7 l) a1 a2 a3 a4 (iI sh) (iI (mk i)) (iI co) (iI d) (iI (m : Int)) (iI (s0 : Int)) (iI (N : Int)) = some (Mz.1, Mz.2.1, Mz.2.2.1, Mz.2.2.2.1, Mz.2.2.2.2.1, Mz.2.2.2.2.2.1, Mz.2.2.2.2.2.2.1, Mz.2.2.2.2.2.2.2.1, Mz.2.2.2.2.2.2.2.2.1, Mz.2.2.2.2.2.2.2.2.2.1, Mz.2.2.2.2.2.2.2.2.2.2, if PW (u, hd, k, f, g, l) sh s0 N (t, i, co, d) m = -9 then 0 else 1) ∧ MJ Mz := by
  have ht := xT hX
  have hE2 : OkE (u, hS t hd m, k, f, g, l) := hE.hd1 (hS_le ht hhd)
  have hX2 : OkX 1500 (tS t m, i, co, d) := (hX.mono (by omega)).t1 (tS_le ht)
  unfold X4_isInWithout
  rw [s_X4_fromNow hM, Option.bind_some, l_without ht hhd hm _ 6 0 1000 0 t hd (by decide) (by omega) (by omega) (fun j => by rw [if_neg (by omega)]) (fun j => by rw [if_neg (by omega)]), s_X0_daysUntilIn hE2 hsh hs0 (by omega) hX2, Option.bind_some]
  have e : (cmX (u, hS t hd m, k, f, g, l) sh 0 6 s0 N 0 (tS t m, i, co, d)).1 = PW (u, hd, k, f, g, l) sh s0 N (t, i, co, d) m := rfl
  have hb := PW_b (e := (u, hd, k, f, g, l)) (sh := sh) (s0 := s0) (N := N) (x := (t, i, co, d)) (m := m)
  by_cases c : PW (u, hd, k, f, g, l) sh s0 N (t, i, co, d) m = -9
  · rw [if_pos (show iI (cmX (u, hS t hd m, k, f, g, l) sh 0 6 s0 N 0 (tS t m, i, co, d)).1 = (-9 : Int32) by rw [e, c]; decide), if_pos c]
    exact exM ⟨rn_len, rn_len, rn_len, rn_len, rn_len, rn_len, rn_len⟩
  · rw [if_neg (show ¬ iI (cmX (u, hS t hd m, k, f, g, l) sh 0 6 s0 N 0 (tS t m, i, co, d)).1 = (-9 : Int32) by rw [e]; exact n9 (by omega) (by omega)), if_neg c]
    exact exM ⟨rn_len, rn_len, rn_len, rn_len, rn_len, rn_len, rn_len⟩
/-- the first from s on, r of them, of so many bits, for which P is not -9 -/
def fset (P : Nat → Int) (z : Nat) : Nat → Nat → Int
  | 0, _ => -9
  | r + 1, s => if pc s = z then (if P s = -9 then fset P z r (s + 1) else (s : Int)) else fset P z r (s + 1)
def fsize (P : Nat → Int) : Nat → Nat → Int
  | 0, _ => -9
  | r + 1, z => if fset P z 64 0 = -9 then fsize P r (z + 1) else fset P z 64 0
set_option maxRecDepth 20000 in
set_option maxHeartbeats 400000 in
theorem fset_spec {P : Nat → Int} {z : Nat} : ∀ r s : Nat, (fset P z r s = -9 ∧ ∀ j, s ≤ j → j < s + r → pc j = z → P j = -9) ∨ (∃ b : Nat, s ≤ b ∧ b < s + r ∧ fset P z r s = (b : Int) ∧ pc b = z ∧ ¬ P b = -9 ∧ ∀ j, s ≤ j → j < b → pc j = z → P j = -9) := by
  intro r
  induction r with
  | zero => intro s; exact Or.inl ⟨rfl, fun j h1 h2 => absurd h2 (by omega)⟩
  | succ r ih =>
    intro s
    have up : (pc s = z → P s = -9) → fset P z (r + 1) s = fset P z r (s + 1) → ((fset P z (r + 1) s = -9 ∧ ∀ j, s ≤ j → j < s + (r + 1) → pc j = z → P j = -9) ∨ (∃ b : Nat, s ≤ b ∧ b < s + (r + 1) ∧ fset P z (r + 1) s = (b : Int) ∧ pc b = z ∧ ¬ P b = -9 ∧ ∀ j, s ≤ j → j < b → pc j = z → P j = -9)) := by
      intro h0 e
      rw [e]
      rcases ih (s + 1) with ⟨h1, h2⟩ | ⟨b, h1, h2, h3, h4, h5, h6⟩
      · refine Or.inl ⟨h1, fun j g1 g2 g3 => ?_⟩
        by_cases c : j = s
        · subst c; exact h0 g3
        · exact h2 j (by omega) (by omega) g3
      · refine Or.inr ⟨b, by omega, by omega, h3, h4, h5, fun j g1 g2 g3 => ?_⟩
        by_cases c : j = s
        · subst c; exact h0 g3
        · exact h6 j (by omega) g2 g3
    by_cases c1 : pc s = z
    · by_cases c2 : P s = -9
      · exact up (fun _ => c2) (by rw [fset, if_pos c1, if_pos c2])
      · exact Or.inr ⟨s, Nat.le_refl _, by omega, by rw [fset, if_pos c1, if_neg c2], c1, c2, fun j g1 g2 => absurd g2 (by omega)⟩
    · exact up (fun z => absurd z c1) (by rw [fset, if_neg c1])
set_option maxRecDepth 20000 in
set_option maxHeartbeats 400000 in
theorem fsize_spec {P : Nat → Int} : ∀ r z : Nat, (fsize P r z = -9 ∧ ∀ j, j < 64 → z ≤ pc j → pc j < z + r → P j = -9) ∨ (∃ b : Nat, b < 64 ∧ fsize P r z = (b : Int) ∧ ¬ P b = -9 ∧ ∀ j, j < 64 → z ≤ pc j → ¬ P j = -9 → pc b ≤ pc j ∧ (pc j = pc b → b ≤ j)) := by
  intro r
  induction r with
  | zero => intro z; exact Or.inl ⟨rfl, fun j _ h1 h2 => absurd h2 (by omega)⟩
  | succ r ih =>
    intro z
    rcases fset_spec (P := P) (z := z) 64 0 with ⟨h1, h2⟩ | ⟨b, h1, h2, h3, h4, h5, h6⟩
    · have e1 : fsize P (r + 1) z = fsize P r (z + 1) := by rw [fsize, if_pos h1]
      rw [e1]
      rcases ih (z + 1) with ⟨g1, g2⟩ | ⟨b, g1, g2, g3, g4⟩
      · refine Or.inl ⟨g1, fun j k1 k2 k3 => ?_⟩
        by_cases c : pc j = z
        · exact h2 j (by omega) (by omega) c
        · exact g2 j k1 (by omega) (by omega)
      · refine Or.inr ⟨b, g1, g2, g3, fun j k1 k2 k3 => ?_⟩
        by_cases c : pc j = z
        · exact absurd (h2 j (by omega) (by omega) c) k3
        · exact g4 j k1 (by omega) k3
    · have e1 : fsize P (r + 1) z = (b : Int) := by rw [fsize, h3, if_neg (by omega)]
      refine Or.inr ⟨b, by omega, e1, h5, fun j k1 k2 k3 => ⟨by omega, fun k4 => ?_⟩⟩
      by_cases c : j < b
      · exact absurd (h6 j (by omega) c (by omega)) k3
      · omega
set_option maxRecDepth 20000 in
set_option maxHeartbeats 400000 in
theorem tb_pc : (List.range 64).all (fun m => decide (pc m ≤ 6)) = true := by decide
set_option maxRecDepth 20000 in
set_option maxHeartbeats 400000 in
theorem pc_le {m : Nat} (hm : m < 64) : pc m ≤ 6 := of_decide_eq_true (List.all_eq_true.mp tb_pc m (List.mem_range.mpr hm))
set_option maxRecDepth 20000 in
set_option maxHeartbeats 400000 in
theorem l_48 {u hd k f g l t i : Nat → Nat} {sh co d : Nat} {R : List Int32} {s0 N z : Nat} (hE : OkE (u, hd, k, f, g, l)) (hhd : ∀ j, hd j ≤ 99) (hsh : sh ≤ 7) (hX : OkX 1000 (t, i, co, d)) (hs0 : s0 < 7) (hN : N ≤ 60) (hz : z ≤ 6) (K : List Int32 → List Int32 → List Int32 → List Int32 → List Int32 → List Int32 → List Int32 → Int32 → Int32 → Int32 → Int32 → Option (List Int32 × List Int32 × List Int32 × List Int32 × List Int32 × List Int32 × List Int32 × List Int32 × Int32 × Int32 × Int32 × Int32 ×  Int32)) : ∀ (r s n : Nat) {A1 A2 A3 A4 A5 A6 A7 : List Int32} {a1 a2 a3 a4 : Int32} {x5 : Int32}, x5 = iI (s : Int) → s + r = 64 → r < n → MJ (A1, A2, A3, A4, A5, A6, A7, a1, a2, a3, a4) →
    ∃ Mz : Hs, X4_fewest_L48 K R (rn 6 t) (rn 6 u) (rn 6 hd) (rn 7 k) (rn 7 f) (rn 7 g) (rn 7 l) (iI sh) (iI (mk i)) (iI co) (iI d) (iI (s0 : Int)) (iI (N : Int)) (iI (z : Int)) n x5 A1 A2 A3 A4 A5 A6 A7 a1 a2 a3 a4 = (if fset (PW (u, hd, k, f, g, l) sh s0 N (t, i, co, d)) z r s = -9 then K Mz.1 Mz.2.1 Mz.2.2.1 Mz.2.2.2.1 Mz.2.2.2.2.1 Mz.2.2.2.2.2.1 Mz.2.2.2.2.2.2.1 Mz.2.2.2.2.2.2.2.1 Mz.2.2.2.2.2.2.2.2.1 Mz.2.2.2.2.2.2.2.2.2.1 Mz.2.2.2.2.2.2.2.2.2.2 else some (R, Mz.1, Mz.2.1, Mz.2.2.1, Mz.2.2.2.1, Mz.2.2.2.2.1, Mz.2.2.2.2.2.1, Mz.2.2.2.2.2.2.1, Mz.2.2.2.2.2.2.2.1, Mz.2.2.2.2.2.2.2.2.1, Mz.2.2.2.2.2.2.2.2.2.1, Mz.2.2.2.2.2.2.2.2.2.2, iI (fset (PW (u, hd, k, f, g, l) sh s0 N (t, i, co, d)) z r s))) ∧ MJ Mz := by
  intro r
  induction r with
  | zero =>
    intro s n A1 A2 A3 A4 A5 A6 A7 a1 a2 a3 a4 x5 hx hs hn hM
    obtain ⟨m, rfl⟩ : ∃ m, n = m + 1 := ⟨n - 1, by omega⟩
    subst hx
    rw [X4_fewest_L48, if_pos (show (64 : Int32) ≤ iI (s : Int) by rw [show (64 : Int32) = iI 64 by decide]; exact tle (by omega) (by omega) (by omega))]
    exact ⟨(A1, A2, A3, A4, A5, A6, A7, a1, a2, a3, a4), rfl, hM⟩
  | succ r ih =>
    intro s n A1 A2 A3 A4 A5 A6 A7 a1 a2 a3 a4 x5 hx hs hn hM
    obtain ⟨m, rfl⟩ : ∃ m, n = m + 1 := ⟨n - 1, by omega⟩
    subst hx
    have hp := pc_le (m := s) (by omega)
    rw [X4_fewest_L48, if_neg (show ¬ (64 : Int32) ≤ iI (s : Int) by rw [show (64 : Int32) = iI 64 by decide]; exact fle (by omega) (by omega) (by omega)), (s_bits (show s < 128 by omega)).1, Option.bind_some, fset]
    by_cases c1 : pc s = z
    · obtain ⟨M1, e1, k1⟩ := s_X4_isInWithout (m := s) hM hE hhd hsh hX hs0 hN (by omega)
      rw [if_pos (show iI (pc s : Int) = iI (z : Int) by rw [c1]), if_pos c1, e1, Option.bind_some]
      by_cases c2 : PW (u, hd, k, f, g, l) sh s0 N (t, i, co, d) s = -9
      · rw [if_pos c2, if_pos c2, if_pos (show (0 : Int32) = 0 from rfl)]
        exact ih (s + 1) m (iI_s s) (by omega) (by omega) k1
      · rw [if_neg c2, if_neg c2, if_neg c10]
        exact ⟨M1, by rw [if_neg (show ¬ (s : Int) = -9 by omega)], k1⟩
    · rw [if_neg (show ¬ iI (pc s : Int) = iI (z : Int) from feq (by omega) (by omega) (by omega) (by omega) (by omega)), if_neg c1]
      exact ih (s + 1) m (iI_s s) (by omega) (by omega) hM
set_option maxRecDepth 20000 in
set_option maxHeartbeats 400000 in
theorem l_38 {u hd k f g l t i : Nat → Nat} {sh co d : Nat} {R : List Int32} {s0 N : Nat} (hE : OkE (u, hd, k, f, g, l)) (hhd : ∀ j, hd j ≤ 99) (hsh : sh ≤ 7) (hX : OkX 1000 (t, i, co, d)) (hs0 : s0 < 7) (hN : N ≤ 60) : ∀ (r z n : Nat) {A1 A2 A3 A4 A5 A6 A7 : List Int32} {a1 a2 a3 a4 : Int32} {x4 : Int32}, x4 = iI (z : Int) → z + r = 7 → r < n → MJ (A1, A2, A3, A4, A5, A6, A7, a1, a2, a3, a4) →
    ∃ Mz : Hs, X4_fewest_L38 (fun (q1 q2 q3 q4 q5 q6 q7 : List Int32) (q8 q9 q10 q11 : Int32) => some (R, q1, q2, q3, q4, q5, q6, q7, q8, q9, q10, q11, (-9 : Int32))) R (rn 6 t) (rn 6 u) (rn 6 hd) (rn 7 k) (rn 7 f) (rn 7 g) (rn 7 l) (iI sh) (iI (mk i)) (iI co) (iI d) (iI (s0 : Int)) (iI (N : Int)) n x4 A1 A2 A3 A4 A5 A6 A7 a1 a2 a3 a4 = some (R, Mz.1, Mz.2.1, Mz.2.2.1, Mz.2.2.2.1, Mz.2.2.2.2.1, Mz.2.2.2.2.2.1, Mz.2.2.2.2.2.2.1, Mz.2.2.2.2.2.2.2.1, Mz.2.2.2.2.2.2.2.2.1, Mz.2.2.2.2.2.2.2.2.2.1, Mz.2.2.2.2.2.2.2.2.2.2, iI (fsize (PW (u, hd, k, f, g, l) sh s0 N (t, i, co, d)) r z)) ∧ MJ Mz := by
  intro r
  induction r with
  | zero =>
    intro z n A1 A2 A3 A4 A5 A6 A7 a1 a2 a3 a4 x4 hx hs hn hM
    obtain ⟨m, rfl⟩ : ∃ m, n = m + 1 := ⟨n - 1, by omega⟩
    subst hx
    rw [X4_fewest_L38, if_pos (show (6 : Int32) < iI (z : Int) by rw [L6]; exact tlt (by omega) (by omega) (by omega)), ← e9]
    exact ⟨(A1, A2, A3, A4, A5, A6, A7, a1, a2, a3, a4), rfl, hM⟩
  | succ r ih =>
    intro z n A1 A2 A3 A4 A5 A6 A7 a1 a2 a3 a4 x4 hx hs hn hM
    obtain ⟨m, rfl⟩ : ∃ m, n = m + 1 := ⟨n - 1, by omega⟩
    subst hx
    rw [X4_fewest_L38, if_neg (show ¬ (6 : Int32) < iI (z : Int) by rw [L6]; exact flt (by omega) (by omega) (by omega))]
    obtain ⟨M1, e1, k1⟩ := l_48 (R := R) (z := z) hE hhd hsh hX hs0 hN (by omega) (fun (q1 q2 q3 q4 q5 q6 q7 : List Int32) (q8 q9 q10 q11 : Int32) => X4_fewest_L38 (fun (q1 q2 q3 q4 q5 q6 q7 : List Int32) (q8 q9 q10 q11 : Int32) => some (R, q1, q2, q3, q4, q5, q6, q7, q8, q9, q10, q11, (-9 : Int32))) R (rn 6 t) (rn 6 u) (rn 6 hd) (rn 7 k) (rn 7 f) (rn 7 g) (rn 7 l) (iI sh) (iI (mk i)) (iI co) (iI d) (iI (s0 : Int)) (iI (N : Int)) m (iI (z : Int) + 1) q1 q2 q3 q4 q5 q6 q7 q8 q9 q10 q11) 64 0 1000 (show (0 : Int32) = iI ((0 : Nat) : Int) by decide) (by omega) (by omega) hM
    rw [e1, fsize]
    by_cases c : fset (PW (u, hd, k, f, g, l) sh s0 N (t, i, co, d)) z 64 0 = -9
    · rw [if_pos c, if_pos c]
      exact ih (z + 1) m (iI_s z) (by omega) (by omega) k1
    · rw [if_neg c, if_neg c]
      exact ⟨M1, rfl, k1⟩
/-- the letter at a place; -1 where there is none -/
def aT (T : Nat → Nat) (n p : Nat) : Int := if p < n then (T p : Int) else -1
def szI (c : Int) : Nat := if c = 99 then 4 else if c = 100 then 4 else if c = 104 then 5 else if c = 111 then 3 else if c = 115 then 7 else if c = 116 then 5 else if c = 117 then 4 else 0
def dgI (c : Int) : Int := if 48 ≤ c ∧ c ≤ 57 then c - 48 else -1
def dT (T : Nat → Nat) (n p : Nat) : Int := dgI (aT T n p)
/-- the first from p on, r of them, that is no digit; -1 -/
def fd (T : Nat → Nat) (n : Nat) : Nat → Nat → Int
  | 0, _ => -1
  | r + 1, p => if 0 ≤ dT T n p then fd T n r (p + 1) else (p : Int)
/-- where the statement that begins at p is wrong; -1 -/
def flt1 (T : Nat → Nat) (n p : Nat) : Int := if szI (aT T n p) = 0 then (p : Int) else if fd T n (szI (aT T n p) - 2) (p + 1) < 0 then (if aT T n (p + szI (aT T n p) - 1) = 59 then -1 else ((p + szI (aT T n p) - 1 : Nat) : Int)) else fd T n (szI (aT T n p) - 2) (p + 1)
set_option maxRecDepth 20000 in
set_option maxHeartbeats 400000 in
theorem aT_b {T : Nat → Nat} {n p : Nat} (hT : ∀ j, T j ≤ 255) : -1 ≤ aT T n p ∧ aT T n p ≤ 255 := by
  have := hT p
  unfold aT
  split <;> omega
set_option maxRecDepth 20000 in
set_option maxHeartbeats 400000 in
theorem szI_b {c : Int} : szI c = 0 ∨ (3 ≤ szI c ∧ szI c ≤ 7) := by
  unfold szI
  repeat' split
  all_goals omega
set_option maxRecDepth 20000 in
set_option maxHeartbeats 400000 in
theorem dT_b {T : Nat → Nat} {n p : Nat} : -1 ≤ dT T n p ∧ dT T n p ≤ 9 := by
  unfold dT dgI
  split <;> omega
set_option maxRecDepth 20000 in
set_option maxHeartbeats 400000 in
theorem fd_b {T : Nat → Nat} {n : Nat} : ∀ r p : Nat, fd T n r p = -1 ∨ ((p : Int) ≤ fd T n r p ∧ fd T n r p < ((p + r : Nat) : Int)) := by
  intro r
  induction r with
  | zero => intro p; exact Or.inl rfl
  | succ r ih =>
    intro p
    unfold fd
    by_cases c : 0 ≤ dT T n p
    · rw [if_pos c]
      have := ih (p + 1)
      omega
    · rw [if_neg c]
      exact Or.inr (by omega)
set_option maxRecDepth 20000 in
set_option maxHeartbeats 400000 in
theorem nm1 : (-1 : Int32) = iI (-1) := by decide
set_option maxRecDepth 20000 in
set_option maxHeartbeats 400000 in
theorem s_at {T : Nat → Nat} {n p : Nat} (hn : n ≤ 96) (hp : p ≤ 1000) : X1_at (rn 96 T) (iI n) (iI (p : Int)) = some (iI (aT T n p)) := by
  unfold X1_at aT
  rw [rn_len, iI_len, L0, if_neg (flt (by omega) (by omega) (by omega))]
  by_cases c : p < n
  · rw [if_neg (fle (by omega) (by omega) (by omega)), if_neg (fle (by omega) (by omega) (by omega)), rd_rn (by omega) (by omega) (by omega), Option.bind_some, Int.toNat_natCast, if_pos c]
  · rw [if_pos (tle (by omega) (by omega) (by omega)), if_neg c, nm1]
set_option maxRecDepth 20000 in
set_option maxHeartbeats 400000 in
theorem s_sizeOf {c : Int} (h1 : -1 ≤ c) (h2 : c ≤ 255) : X3_sizeOf (iI c) = some (iI (szI c : Int)) := by
  by_cases e1 : c = 99
  · subst e1; decide
  by_cases e2 : c = 100
  · subst e2; decide
  by_cases e3 : c = 104
  · subst e3; decide
  by_cases e4 : c = 111
  · subst e4; decide
  by_cases e5 : c = 115
  · subst e5; decide
  by_cases e6 : c = 116
  · subst e6; decide
  by_cases e7 : c = 117
  · subst e7; decide
  have q : ∀ a : Int, 0 ≤ a → a ≤ 255 → ¬ c = a → ¬ iI c = iI a := fun a g1 g2 g3 => feq g3 (by omega) (by omega) (by omega) (by omega)
  unfold X3_sizeOf szI
  rw [L99, L100, L104, L111, L115, L116, L117, if_neg (q 99 (by omega) (by omega) e1), if_neg (q 100 (by omega) (by omega) e2), if_neg (q 104 (by omega) (by omega) e3), if_neg (q 111 (by omega) (by omega) e4), if_neg (q 115 (by omega) (by omega) e5), if_neg (q 116 (by omega) (by omega) e6), if_neg (q 117 (by omega) (by omega) e7), if_neg e1, if_neg e2, if_neg e3, if_neg e4, if_neg e5, if_neg e6, if_neg e7]
  rfl
set_option maxRecDepth 20000 in
set_option maxHeartbeats 400000 in
theorem s_digit {T : Nat → Nat} {n p : Nat} (hT : ∀ j, T j ≤ 255) (hn : n ≤ 96) (hp : p ≤ 1000) : X3_digit (rn 96 T) (iI n) (iI (p : Int)) = some (iI (dT T n p)) := by
  have b := aT_b (n := n) (p := p) hT
  unfold X3_digit dT dgI
  rw [s_at hn hp, Option.bind_some, L48, L57]
  by_cases c1 : aT T n p < 48
  · rw [if_pos (tlt c1 (by omega) (by omega)), if_neg (by omega), nm1]
  · rw [if_neg (flt (by omega) (by omega) (by omega))]
    by_cases c2 : 57 < aT T n p
    · rw [if_pos (tlt c2 (by omega) (by omega)), if_neg (by omega), nm1]
    · rw [if_neg (flt (by omega) (by omega) (by omega)), if_pos (by omega), iI_sub]
set_option maxRecDepth 20000 in
set_option maxHeartbeats 400000 in
theorem l_faulty {T : Nat → Nat} {n q : Nat} (hT : ∀ j, T j ≤ 255) (hn : n ≤ 96) (hq : q ≤ 1000) (K : Unit → Option Int32) : ∀ (r p m : Nat) (x : Int32), x = iI (p : Int) → p + r = q → r < m → X3_faultyLetterFrom_L29 K (rn 96 T) (iI n) (iI (q : Int)) m x = if fd T n r p < 0 then K () else some (iI (fd T n r p)) := by
  intro r
  induction r with
  | zero =>
    intro p m x hx hs hm
    obtain ⟨m, rfl⟩ : ∃ j, m = j + 1 := ⟨m - 1, by omega⟩
    subst hx
    rw [X3_faultyLetterFrom_L29, if_pos (tle (by omega) (by omega) (by omega)), fd, if_pos (by omega)]
  | succ r ih =>
    intro p m x hx hs hm
    obtain ⟨m, rfl⟩ : ∃ j, m = j + 1 := ⟨m - 1, by omega⟩
    subst hx
    have b := dT_b (T := T) (n := n) (p := p)
    rw [X3_faultyLetterFrom_L29, if_neg (fle (by omega) (by omega) (by omega)), s_digit hT hn (by omega), Option.bind_some, fd]
    by_cases c : 0 ≤ dT T n p
    · rw [if_pos (p9 c (by omega)), if_pos c]
      exact ih (p + 1) m _ (iI_s p) (by omega) (by omega)
    · rw [if_neg (show ¬ (0 : Int32) ≤ iI (dT T n p) by rw [L0]; exact fle (by omega) (by omega) (by omega)), if_neg c, if_neg (by omega)]
set_option maxRecDepth 20000 in
set_option maxHeartbeats 400000 in
theorem s_faultyFrom {T : Nat → Nat} {n p : Nat} (hT : ∀ j, T j ≤ 255) (hn : n ≤ 96) (hp : p ≤ 100) : X3_faultyLetterFrom (rn 96 T) (iI n) (iI (p : Int)) = some (iI (flt1 T n p)) := by
  have b := aT_b (n := n) (p := p) hT
  have b2 := szI_b (c := aT T n p)
  unfold X3_faultyLetterFrom flt1
  rw [s_at hn (by omega), Option.bind_some, s_sizeOf b.1 b.2, Option.bind_some]
  by_cases c : szI (aT T n p) = 0
  · rw [if_pos (show iI (szI (aT T n p) : Int) = (0 : Int32) by rw [c]; decide), if_pos c]
  · have b3 := aT_b (n := n) (p := p + szI (aT T n p) - 1) hT
    have e : iI (p : Int) + iI (szI (aT T n p) : Int) - 1 = iI ((p + szI (aT T n p) - 1 : Nat) : Int) := by
      rw [iI_add, L1, iI_sub]; exact iI_c (by omega)
    rw [if_neg (show ¬ iI (szI (aT T n p) : Int) = (0 : Int32) from ne0 (by omega) (by omega)), if_neg c, e, l_faulty hT hn (by omega) _ (szI (aT T n p) - 2) (p + 1) 1000 _ (iI_s p) (by omega) (by omega), s_at hn (by omega), Option.bind_some]
    by_cases c2 : fd T n (szI (aT T n p) - 2) (p + 1) < 0
    · rw [if_pos c2, if_pos c2]
      by_cases c3 : aT T n (p + szI (aT T n p) - 1) = 59
      · rw [if_pos (show iI (aT T n (p + szI (aT T n p) - 1)) = (59 : Int32) by rw [c3]; decide), if_pos c3, nm1]
      · rw [if_neg (show ¬ iI (aT T n (p + szI (aT T n p) - 1)) = (59 : Int32) by rw [L59]; exact feq c3 (by omega) (by omega) (by omega) (by omega)), if_neg c3]
    · rw [if_neg c2, if_neg c2]
/-- where statement k begins -/
def pl (T : Nat → Nat) (n : Nat) : Nat → Nat
  | 0 => 0
  | k + 1 => pl T n k + szI (aT T n (pl T n k))
/-- from statement k on: where it is wrong (-1), and how many there are -/
def rnT (T : Nat → Nat) (n : Nat) : Nat → Nat → Int × Nat
  | 0, k => (-1, k)
  | r + 1, k => if k = 0 ∨ pl T n k < n then (if flt1 T n (pl T n k) < 0 then rnT T n r (k + 1) else (flt1 T n (pl T n k), k)) else (-1, k)
set_option maxRecDepth 20000 in
set_option maxHeartbeats 400000 in
theorem flt_ok {T : Nat → Nat} {n p : Nat} (h : flt1 T n p < 0) : 3 ≤ szI (aT T n p) ∧ p + szI (aT T n p) ≤ n ∧ p < n := by
  have b2 := szI_b (c := aT T n p)
  unfold flt1 at h
  by_cases c : szI (aT T n p) = 0
  · rw [if_pos c] at h
    omega
  · rw [if_neg c] at h
    by_cases c2 : fd T n (szI (aT T n p) - 2) (p + 1) < 0
    · rw [if_pos c2] at h
      by_cases c3 : aT T n (p + szI (aT T n p) - 1) = 59
      · have h2 : p + szI (aT T n p) - 1 < n := by
          unfold aT at c3
          by_cases z : p + szI (aT T n p) - 1 < n
          · exact z
          · unfold aT at z
            rw [if_neg z] at c3
            exact absurd c3 (by decide)
        omega
      · rw [if_neg c3] at h
        omega
    · rw [if_neg c2] at h
      exact absurd h c2
set_option maxRecDepth 20000 in
set_option maxHeartbeats 400000 in
theorem flt_le {T : Nat → Nat} {n p : Nat} : -1 ≤ flt1 T n p ∧ flt1 T n p ≤ ((p + 10 : Nat) : Int) := by
  have b2 := szI_b (c := aT T n p)
  have b3 := fd_b (T := T) (n := n) (szI (aT T n p) - 2) (p + 1)
  unfold flt1
  repeat' split
  all_goals omega
set_option maxRecDepth 20000 in
set_option maxHeartbeats 400000 in
theorem l_faultyL {T : Nat → Nat} {n : Nat} (hT : ∀ j, T j ≤ 255) (hn : n ≤ 96) (K : Unit → Option Int32) : ∀ (r k m : Nat) (x y : Int32), x = iI (pl T n k : Int) → y = iI (k : Int) → k + r = 33 → 3 * k ≤ pl T n k → pl T n k ≤ n → r < m → X3_faultyLetter_L4 K (rn 96 T) (iI n) m x y = if (rnT T n r k).1 < 0 then K () else some (iI (rnT T n r k).1) := by
  intro r
  induction r with
  | zero =>
    intro k m x y hx hy hs h3 hp hm
    omega
  | succ r ih =>
    intro k m x y hx hy hs h3 hp hm
    obtain ⟨m, rfl⟩ : ∃ j, m = j + 1 := ⟨m - 1, by omega⟩
    subst hx; subst hy
    have b := aT_b (n := n) (p := pl T n k) hT
    have bf := flt_le (T := T) (n := n) (p := pl T n k)
    have step : X3_faultyLetter_L4 K (rn 96 T) (iI n) (m + 1) (iI (pl T n k : Int)) (iI (k : Int)) = (if k = 0 ∨ pl T n k < n then (X3_faultyLetterFrom (rn 96 T) (iI n) (iI (pl T n k : Int))).bind fun u_1 => if u_1 < 0 then (X1_at (rn 96 T) (iI n) (iI (pl T n k : Int))).bind fun u_3 => (X3_sizeOf u_3).bind fun u_5 => X3_faultyLetter_L4 K (rn 96 T) (iI n) m (iI (pl T n k : Int) + u_5) (iI (k : Int) + 1) else some u_1 else K ()) := by
      rw [X3_faultyLetter_L4, if_neg (show ¬ (96 : Int32) ≤ iI (k : Int) by rw [L96]; exact fle (by omega) (by omega) (by omega))]
      by_cases k0 : k = 0
      · rw [if_pos (show iI (k : Int) = (0 : Int32) by rw [k0]; decide), if_pos (Or.inl k0)]
      · rw [if_neg (show ¬ iI (k : Int) = (0 : Int32) from ne0 (by omega) (by omega)), X1_length, Option.bind_some]
        by_cases kp : pl T n k < n
        · rw [if_neg (fle (by omega) (by omega) (by omega)), if_pos (Or.inr kp)]
        · rw [if_pos (tle (by omega) (by omega) (by omega)), if_neg (by omega)]
    rw [step, rnT]
    by_cases c : k = 0 ∨ pl T n k < n
    · rw [if_pos c, if_pos c, s_faultyFrom hT hn (by omega), Option.bind_some]
      by_cases f0 : flt1 T n (pl T n k) < 0
      · have g := flt_ok f0
        have e : pl T n (k + 1) = pl T n k + szI (aT T n (pl T n k)) := rfl
        rw [if_pos (show iI (flt1 T n (pl T n k)) < (0 : Int32) by rw [L0]; exact tlt f0 (by omega) (by omega)), if_pos f0, s_at hn (by omega), Option.bind_some, s_sizeOf b.1 b.2, Option.bind_some, iI_add, show iI ((pl T n k : Int) + (szI (aT T n (pl T n k)) : Int)) = iI (pl T n (k + 1) : Int) from iI_c (by omega), iI_s k]
        exact ih (k + 1) m _ _ rfl rfl (by omega) (by omega) (by omega) (by omega)
      · rw [if_neg (show ¬ iI (flt1 T n (pl T n k)) < (0 : Int32) by rw [L0]; exact flt (by omega) (by omega) (by omega)), if_neg f0, if_neg f0]
    · rw [if_neg c, if_neg c, if_pos (show (-1 : Int) < 0 by decide)]
set_option maxRecDepth 20000 in
set_option maxHeartbeats 400000 in
theorem rnT_spec {T : Nat → Nat} {n : Nat} (hn : n ≤ 96) : ∀ r k : Nat, k + r = 33 → 3 * k ≤ pl T n k → pl T n k ≤ n → (rnT T n r k).1 < 0 → k ≤ (rnT T n r k).2 ∧ (rnT T n r k).2 ≤ 33 ∧ ¬ (rnT T n r k).2 = 0 ∧ n ≤ pl T n (rnT T n r k).2 ∧ ∀ j, k ≤ j → j < (rnT T n r k).2 → flt1 T n (pl T n j) < 0 := by
  intro r
  induction r with
  | zero => intro k hs h3 hp h; omega
  | succ r ih =>
    intro k hs h3 hp h
    rw [rnT] at h ⊢
    by_cases c : k = 0 ∨ pl T n k < n
    · rw [if_pos c] at h ⊢
      by_cases f0 : flt1 T n (pl T n k) < 0
      · have g := flt_ok f0
        have e : pl T n (k + 1) = pl T n k + szI (aT T n (pl T n k)) := rfl
        rw [if_pos f0] at h ⊢
        obtain ⟨a1, a2, a3, a4, a5⟩ := ih (k + 1) (by omega) (by omega) (by omega) h
        refine ⟨by omega, a2, a3, a4, fun j h1 h2 => ?_⟩
        by_cases cj : j = k
        · subst cj; exact f0
        · exact a5 j (by omega) h2
      · rw [if_neg f0] at h
        exact absurd h f0
    · rw [if_neg c] at h ⊢
      exact ⟨Nat.le_refl _, show k ≤ 33 by omega, show ¬ k = 0 by omega, show n ≤ pl T n k by omega, fun j h1 h2 => absurd h2 (show ¬ j < k by omega)⟩
set_option maxRecDepth 20000 in
set_option maxHeartbeats 400000 in
theorem rnT_b {T : Nat → Nat} {n : Nat} (hn : n ≤ 96) : ∀ r k : Nat, k + r = 33 → 3 * k ≤ pl T n k → pl T n k ≤ n → -1 ≤ (rnT T n r k).1 ∧ (rnT T n r k).1 ≤ 200 := by
  intro r
  induction r with
  | zero => intro k hs h3 hp; omega
  | succ r ih =>
    intro k hs h3 hp
    rw [rnT]
    by_cases c : k = 0 ∨ pl T n k < n
    · rw [if_pos c]
      by_cases f0 : flt1 T n (pl T n k) < 0
      · have g := flt_ok f0
        have e : pl T n (k + 1) = pl T n k + szI (aT T n (pl T n k)) := rfl
        rw [if_pos f0]
        exact ih (k + 1) (by omega) (by omega) (by omega)
      · have bf := flt_le (T := T) (n := n) (p := pl T n k)
        rw [if_neg f0]
        exact ⟨bf.1, by have := bf.2; show flt1 T n (pl T n k) ≤ 200; omega⟩
    · rw [if_neg c]
      exact ⟨show (-1 : Int) ≤ -1 by decide, show (-1 : Int) ≤ 200 by decide⟩
set_option maxRecDepth 20000 in
set_option maxHeartbeats 400000 in
theorem fd_all {T : Nat → Nat} {n : Nat} : ∀ r p : Nat, fd T n r p < 0 → ∀ j, j < r → 0 ≤ dT T n (p + j) := by
  intro r
  induction r with
  | zero => intro p _ j hj; omega
  | succ r ih =>
    intro p h j hj
    unfold fd at h
    by_cases c : 0 ≤ dT T n p
    · rw [if_pos c] at h
      cases j with
      | zero => exact c
      | succ j =>
        have := ih (p + 1) h j (by omega)
        rw [show p + (j + 1) = p + 1 + j by omega]
        exact this
    · rw [if_neg c] at h
      omega
set_option maxRecDepth 20000 in
set_option maxHeartbeats 400000 in
theorem flt_dig {T : Nat → Nat} {n p : Nat} (h : flt1 T n p < 0) : ∀ j, j < szI (aT T n p) - 2 → 0 ≤ dT T n (p + 1 + j) := by
  have g := flt_ok h
  unfold flt1 at h
  rw [if_neg (by omega)] at h
  by_cases c2 : fd T n (szI (aT T n p) - 2) (p + 1) < 0
  · exact fd_all _ _ c2
  · rw [if_neg c2] at h
    exact absurd h c2
set_option maxRecDepth 20000 in
set_option maxHeartbeats 400000 in
theorem s_two {T : Nat → Nat} {n p : Nat} (hT : ∀ j, T j ≤ 255) (hn : n ≤ 96) (hp : p ≤ 200) : X3_twoDigits (rn 96 T) (iI n) (iI (p : Int)) = some (iI (10 * dT T n p + dT T n (p + 1))) := by
  unfold X3_twoDigits
  rw [s_digit hT hn (by omega), Option.bind_some, iI_s p, s_digit hT hn (by omega), Option.bind_some, L10, iI_mul, iI_add]
set_option maxRecDepth 20000 in
set_option maxHeartbeats 400000 in
theorem c01_0 : c01 0 = some 0 := by decide
set_option maxRecDepth 20000 in
set_option maxHeartbeats 400000 in
theorem c01_1 : c01 1 = some 1 := by decide
set_option maxRecDepth 20000 in
set_option maxHeartbeats 400000 in
theorem szI_cases {c : Int} (h : 3 ≤ szI c) : c = 99 ∨ c = 100 ∨ c = 104 ∨ c = 111 ∨ c = 115 ∨ c = 116 ∨ c = 117 := by
  unfold szI at h
  by_cases e1 : c = 99
  · exact Or.inl e1
  by_cases e2 : c = 100
  · exact Or.inr (Or.inl e2)
  by_cases e3 : c = 104
  · exact Or.inr (Or.inr (Or.inl e3))
  by_cases e4 : c = 111
  · exact Or.inr (Or.inr (Or.inr (Or.inl e4)))
  by_cases e5 : c = 115
  · exact Or.inr (Or.inr (Or.inr (Or.inr (Or.inl e5))))
  by_cases e6 : c = 116
  · exact Or.inr (Or.inr (Or.inr (Or.inr (Or.inr (Or.inl e6)))))
  by_cases e7 : c = 117
  · exact Or.inr (Or.inr (Or.inr (Or.inr (Or.inr (Or.inr e7)))))
  rw [if_neg e1, if_neg e2, if_neg e3, if_neg e4, if_neg e5, if_neg e6, if_neg e7] at h
  omega
set_option maxRecDepth 20000 in
set_option maxHeartbeats 400000 in
theorem n2000 : (-2000 : Int32) = iI (-2000) := by decide
set_option maxRecDepth 20000 in
set_option maxHeartbeats 400000 in
theorem n1000 : (-1000 : Int32) = iI (-1000) := by decide
