/-! the class: what is looked at in mind -/
set_option maxHeartbeats 200000 in
theorem s_X4_fromNow {A1 A2 A3 A4 A5 A6 A7 : List Int32} {a1 a2 a3 a4 : Int32} {u hd k f g l t i : Nat → Nat} {sh co d : Nat} (hM : MJ (A1, A2, A3, A4, A5, A6, A7, a1, a2, a3, a4)) : X4_fromNow A1 A2 A3 A4 A5 A6 A7 (rn 6 t) (rn 6 u) (rn 6 hd) (rn 7 k) (rn 7 f) (rn 7 g) (rn 7 l) a1 a2 a3 a4 (iI sh) (iI (mk i)) (iI co) (iI d) = some (rn 6 t, rn 6 u, rn 6 hd, rn 7 k, rn 7 f, rn 7 g, rn 7 l, iI sh, iI (mk i), iI co, iI d) := by
  have hB : MJ (rn 6 t, rn 6 u, rn 6 hd, rn 7 k, rn 7 f, rn 7 g, rn 7 l, iI sh, iI (mk i), iI co, iI d) := ⟨rn_len (f := t), rn_len (f := u), rn_len (f := hd), rn_len (f := k), rn_len (f := f), rn_len (f := g), rn_len (f := l)⟩
  have h := s_copy hM hB
  unfold X4_fromNow
  rw [h, Option.bind_some]
set_option maxHeartbeats 200000 in
theorem c01_i {v : Nat} (h : v ≤ 1) : c01 (iI v) = some (iI v) := by
  rcases (by omega : v = 0 ∨ v = 1) with rfl | rfl <;> decide
set_option maxHeartbeats 200000 in
theorem exM {B1 B2 B3 B4 B5 B6 B7 : List Int32} {b1 b2 b3 b4 r : Int32} (h : MJ (B1, B2, B3, B4, B5, B6, B7, b1, b2, b3, b4)) : ∃ Mz : Hs, some (B1, B2, B3, B4, B5, B6, B7, b1, b2, b3, b4, r) = some (Mz.1, Mz.2.1, Mz.2.2.1, Mz.2.2.2.1, Mz.2.2.2.2.1, Mz.2.2.2.2.2.1, Mz.2.2.2.2.2.2.1, Mz.2.2.2.2.2.2.2.1, Mz.2.2.2.2.2.2.2.2.1, Mz.2.2.2.2.2.2.2.2.2.1, Mz.2.2.2.2.2.2.2.2.2.2, r) ∧ MJ Mz := ⟨(B1, B2, B3, B4, B5, B6, B7, b1, b2, b3, b4), rfl, h⟩
set_option maxHeartbeats 200000 in
theorem s_X4_isInNextDay {A1 A2 A3 A4 A5 A6 A7 : List Int32} {a1 a2 a3 a4 : Int32} {u hd k f g l t i : Nat → Nat} {sh co d : Nat} {s b : Nat} (hM : MJ (A1, A2, A3, A4, A5, A6, A7, a1, a2, a3, a4)) (hE : OkE (u, hd, k, f, g, l)) (hsh : sh ≤ 7) (hX : OkX 1500 (t, i, co, d)) (hs : s < 7) (hb : b < 128) : ∃ Mz : Hs, X4_isInNextDay A1 A2 A3 A4 A5 A6 A7 (rn 6 t) (rn 6 u) (rn 6 hd) (rn 7 k) (rn 7 f) (rn 7 g) (rn 7 l) a1 a2 a3 a4 (iI sh) (iI (mk i)) (iI co) (iI d) (iI s) (iI b) = some (Mz.1, Mz.2.1, Mz.2.2.1, Mz.2.2.2.1, Mz.2.2.2.2.1, Mz.2.2.2.2.2.1, Mz.2.2.2.2.2.2.1, Mz.2.2.2.2.2.2.2.1, Mz.2.2.2.2.2.2.2.2.1, Mz.2.2.2.2.2.2.2.2.2.1, Mz.2.2.2.2.2.2.2.2.2.2, iI ((dayX (u, hd, k, f, g, l) sh b 6 (t, i, co, d)).2.1 s)) ∧ MJ Mz := by
  have hz := dayX_ok (e := (u, hd, k, f, g, l)) (sh := sh) (b := b) (fr := 6) hX
  unfold X4_isInNextDay
  rw [s_X4_fromNow hM, Option.bind_some, s_X0_passDay hE hsh hb (hX.mono (by omega)), Option.bind_some, s_X0_isIn hz.2.1 (by omega) (by omega), Option.bind_some, Int.toNat_natCast, c01_i (hz.2.1 s), Option.bind_some]
  dsimp only
  exact exM ⟨rn_len, rn_len, rn_len, rn_len, rn_len, rn_len, rn_len⟩
set_option maxHeartbeats 200000 in
theorem tb_not : (List.range 7).all (fun s => decide (((127 : Int32) ^^^ ((1 : Int32) <<< (iI (s : Int) &&& (31 : Int32)))) = iI ((127 - 2 ^ s : Nat) : Int)) && decide (((127 : Int32) &&& (((1 : Int32) <<< (iI (s : Int) &&& (31 : Int32))) ^^^ (-1 : Int32))) = iI ((127 - 2 ^ s : Nat) : Int))) = true := by decide +kernel
set_option maxHeartbeats 200000 in
theorem not1 {s : Nat} (hs : s < 7) : ((127 : Int32) ^^^ ((1 : Int32) <<< (iI (s : Int) &&& (31 : Int32)))) = iI ((127 - 2 ^ s : Nat) : Int) := by
  have h := List.all_eq_true.mp tb_not s (List.mem_range.mpr hs)
  rw [Bool.and_eq_true] at h
  exact of_decide_eq_true h.1
set_option maxHeartbeats 200000 in
theorem not2 {s : Nat} (hs : s < 7) : ((127 : Int32) &&& (((1 : Int32) <<< (iI (s : Int) &&& (31 : Int32))) ^^^ (-1 : Int32))) = iI ((127 - 2 ^ s : Nat) : Int) := by
  have h := List.all_eq_true.mp tb_not s (List.mem_range.mpr hs)
  rw [Bool.and_eq_true] at h
  exact of_decide_eq_true h.2
/-- 1: a SHIP is SHUT -/
def shV (e : Env) (sh : Nat) (x : XX) (s : Nat) : Nat := if x.2.1 s = 0 ∧ (dayX e sh 0 6 x).2.1 s = 0 ∧ (dayX e sh (127 - 2 ^ s) 6 x).2.1 s = 1 then 1 else 0
set_option maxHeartbeats 200000 in
theorem shV_le {e : Env} {sh : Nat} {x : XX} {s : Nat} : shV e sh x s ≤ 1 := ite_le (Nat.le_refl _) (by omega)
set_option maxHeartbeats 200000 in
theorem i0 : (0 : Int32) = iI ((0 : Nat) : Int) := by decide
set_option maxHeartbeats 200000 in
theorem i1 : (1 : Int32) = iI ((1 : Nat) : Int) := by decide
set_option maxHeartbeats 200000 in
theorem h00 : iI ((0 : Nat) : Int) = (0 : Int32) := by decide
set_option maxHeartbeats 200000 in
theorem h10 : ¬ iI ((1 : Nat) : Int) = iI ((0 : Nat) : Int) := by decide
set_option maxHeartbeats 200000 in
theorem h10' : ¬ iI ((1 : Nat) : Int) = (0 : Int32) := by decide
set_option maxHeartbeats 200000 in
theorem s_X4_isShut {A1 A2 A3 A4 A5 A6 A7 : List Int32} {a1 a2 a3 a4 : Int32} {u hd k f g l t i : Nat → Nat} {sh co d : Nat} {s : Nat} (hM : MJ (A1, A2, A3, A4, A5, A6, A7, a1, a2, a3, a4)) (hE : OkE (u, hd, k, f, g, l)) (hsh : sh ≤ 7) (hX : OkX 1500 (t, i, co, d)) (hs : s < 7) : ∃ Mz : Hs, X4_isShut A1 A2 A3 A4 A5 A6 A7 (rn 6 t) (rn 6 u) (rn 6 hd) (rn 7 k) (rn 7 f) (rn 7 g) (rn 7 l) a1 a2 a3 a4 (iI sh) (iI (mk i)) (iI co) (iI d) (iI s) = some (Mz.1, Mz.2.1, Mz.2.2.1, Mz.2.2.2.1, Mz.2.2.2.2.1, Mz.2.2.2.2.2.1, Mz.2.2.2.2.2.2.1, Mz.2.2.2.2.2.2.2.1, Mz.2.2.2.2.2.2.2.2.1, Mz.2.2.2.2.2.2.2.2.2.1, Mz.2.2.2.2.2.2.2.2.2.2, iI (shV (u, hd, k, f, g, l) sh (t, i, co, d) s)) ∧ MJ Mz := by
  have hi := xI hX
  have b1 := hi s
  have h1 := dayX_ok (e := (u, hd, k, f, g, l)) (sh := sh) (b := 0) (fr := 6) hX
  have h2 := dayX_ok (e := (u, hd, k, f, g, l)) (sh := sh) (b := 127 - 2 ^ s) (fr := 6) hX
  have b2 := h1.2.1 s
  have b3 := h2.2.1 s
  unfold X4_isShut
  rw [s_X0_isIn hi (by omega) (by omega), Option.bind_some, Int.toNat_natCast]
  unfold shV
  by_cases c1 : i s = 0
  · rw [if_pos (by rw [c1]; decide)]
    obtain ⟨M1, e1, k1⟩ := s_X4_isInNextDay (s := s) (b := 0) hM hE hsh hX hs (by omega)
    rw [i0, e1, Option.bind_some]
    by_cases c2 : (dayX (u, hd, k, f, g, l) sh 0 6 (t, i, co, d)).2.1 s = 0
    · rw [if_pos (by rw [c2])]
      obtain ⟨M2, e2, k2⟩ := s_X4_isInNextDay (s := s) (b := 127 - 2 ^ s) k1 hE hsh hX hs (Nat.lt_of_le_of_lt (Nat.sub_le _ _) (by omega))
      rw [not1 hs, e2, Option.bind_some]
      by_cases c3 : (dayX (u, hd, k, f, g, l) sh (127 - 2 ^ s) 6 (t, i, co, d)).2.1 s = 1
      · rw [if_neg (by rw [c3]; exact h10), if_pos ⟨c1, c2, c3⟩]
        exact ⟨M2, rfl, k2⟩
      · rw [if_pos (by rw [show (dayX (u, hd, k, f, g, l) sh (127 - 2 ^ s) 6 (t, i, co, d)).2.1 s = 0 by omega]), if_neg (fun z => c3 z.2.2)]
        exact ⟨M2, rfl, k2⟩
    · rw [if_neg (by rw [show (dayX (u, hd, k, f, g, l) sh 0 6 (t, i, co, d)).2.1 s = 1 by omega]; exact h10), if_neg (fun z => c2 z.2.1)]
      exact ⟨M1, rfl, k1⟩
  · rw [if_neg (by rw [show i s = 1 by omega]; decide), if_neg (fun z => c1 z.1)]
    exact ⟨(A1, A2, A3, A4, A5, A6, A7, a1, a2, a3, a4), rfl, hM⟩
/-- bits of those from s on, r of them, for which v is not 0 -/
def bitsV (v : Nat → Nat) : Nat → Nat → Nat → Nat
  | 0, _, m => m
  | r + 1, s, m => bitsV v r (s + 1) (if v s = 0 then m else m + 2 ^ s)
set_option maxHeartbeats 200000 in
theorem bitsV_lt {v : Nat → Nat} : ∀ (r s m : Nat), m < 2 ^ s → bitsV v r s m < 2 ^ (s + r) := by
  intro r
  induction r with
  | zero => intro s m h; exact h
  | succ r ih =>
    intro s m h
    unfold bitsV
    rw [show s + (r + 1) = s + 1 + r by omega]
    apply ih
    rw [Nat.pow_succ]
    split <;> omega
set_option maxHeartbeats 200000 in
theorem tb_or : (List.range 128).all (fun m => (List.range 7).all (fun s => decide (m < 2 ^ s → (iI (m : Int) ||| ((1 : Int32) <<< (iI (s : Int) &&& (31 : Int32)))) = iI ((m + 2 ^ s : Nat) : Int)))) = true := by decide +kernel
set_option maxHeartbeats 200000 in
theorem or_bit {m s : Nat} (hs : s < 7) (hm : m < 2 ^ s) : (iI (m : Int) ||| ((1 : Int32) <<< (iI (s : Int) &&& (31 : Int32)))) = iI ((m + 2 ^ s : Nat) : Int) := by
  have h : 2 ^ s ≤ 2 ^ 6 := Nat.pow_le_pow_right (by omega) (by omega)
  exact all2 tb_or (by omega) hs hm
set_option maxHeartbeats 200000 in
theorem l_X4_shut {u hd k f g l t i : Nat → Nat} {sh co d : Nat} (hE : OkE (u, hd, k, f, g, l)) (hsh : sh ≤ 7) (hX : OkX 1500 (t, i, co, d)) : ∀ (r s n m : Nat) (x y : Int32) (M : Hs), x = iI (s : Int) → y = iI (m : Int) → s + r = sh → r < n → m < 2 ^ s → MJ M →
    ∃ Mz : Hs, X4_shut_L4 (fun y1_3 m_there_4 m_used_5 m_hidden_6 m_kind_7 m_figure_8 m_cargo_9 m_load_10 m_ships_11 m_inn_12 m_coughs_13 m_day_14 => some (m_there_4, m_used_5, m_hidden_6, m_kind_7, m_figure_8, m_cargo_9, m_load_10, m_ships_11, m_inn_12, m_coughs_13, m_day_14, y1_3)) (rn 6 t) (rn 6 u) (rn 6 hd) (rn 7 k) (rn 7 f) (rn 7 g) (rn 7 l) (iI sh) (iI (mk i)) (iI co) (iI d) n y x M.1 M.2.1 M.2.2.1 M.2.2.2.1 M.2.2.2.2.1 M.2.2.2.2.2.1 M.2.2.2.2.2.2.1 M.2.2.2.2.2.2.2.1 M.2.2.2.2.2.2.2.2.1 M.2.2.2.2.2.2.2.2.2.1 M.2.2.2.2.2.2.2.2.2.2 = some (Mz.1, Mz.2.1, Mz.2.2.1, Mz.2.2.2.1, Mz.2.2.2.2.1, Mz.2.2.2.2.2.1, Mz.2.2.2.2.2.2.1, Mz.2.2.2.2.2.2.2.1, Mz.2.2.2.2.2.2.2.2.1, Mz.2.2.2.2.2.2.2.2.2.1, Mz.2.2.2.2.2.2.2.2.2.2, iI (bitsV (shV (u, hd, k, f, g, l) sh (t, i, co, d)) r s m)) ∧ MJ Mz := by
  intro r
  induction r with
  | zero =>
    intro s n m x y M hx hy hs hn hm hM
    obtain ⟨n, rfl⟩ : ∃ m, n = m + 1 := ⟨n - 1, by omega⟩
    subst hx; subst hy
    rw [X4_shut_L4, if_pos (tle (by omega) (by omega) (by omega))]
    exact ⟨M, rfl, hM⟩
  | succ r ih =>
    intro s n m x y M hx hy hs hn hm hM
    obtain ⟨n, rfl⟩ : ∃ m, n = m + 1 := ⟨n - 1, by omega⟩
    subst hx; subst hy
    have b := shV_le (e := (u, hd, k, f, g, l)) (sh := sh) (x := (t, i, co, d)) (s := s)
    rw [X4_shut_L4, if_neg (fle (by omega) (by omega) (by omega))]
    obtain ⟨M1, e1, k1⟩ := s_X4_isShut (s := s) hM hE hsh hX (by omega)
    rw [e1, Option.bind_some, iI_s s]
    unfold bitsV
    by_cases c : shV (u, hd, k, f, g, l) sh (t, i, co, d) s = 0
    · rw [if_pos (by rw [c]; exact h00), if_pos c]
      exact ih (s + 1) n m _ _ M1 rfl rfl (by omega) (by omega) (by rw [Nat.pow_succ]; omega) k1
    · rw [if_neg (by rw [show shV (u, hd, k, f, g, l) sh (t, i, co, d) s = 1 by omega]; exact h10'), if_neg c, or_bit (by omega) hm]
      exact ih (s + 1) n _ _ _ M1 rfl rfl (by omega) (by omega) (by rw [Nat.pow_succ]; omega) k1
set_option maxHeartbeats 200000 in
theorem s_X4_shut {A1 A2 A3 A4 A5 A6 A7 : List Int32} {a1 a2 a3 a4 : Int32} {u hd k f g l t i : Nat → Nat} {sh co d : Nat} (hM : MJ (A1, A2, A3, A4, A5, A6, A7, a1, a2, a3, a4)) (hE : OkE (u, hd, k, f, g, l)) (hsh : sh ≤ 7) (hX : OkX 1500 (t, i, co, d)) : ∃ Mz : Hs, X4_shut A1 A2 A3 A4 A5 A6 A7 (rn 6 t) (rn 6 u) (rn 6 hd) (rn 7 k) (rn 7 f) (rn 7 g) (rn 7 l) a1 a2 a3 a4 (iI sh) (iI (mk i)) (iI co) (iI d) = some (Mz.1, Mz.2.1, Mz.2.2.1, Mz.2.2.2.1, Mz.2.2.2.2.1, Mz.2.2.2.2.2.1, Mz.2.2.2.2.2.2.1, Mz.2.2.2.2.2.2.2.1, Mz.2.2.2.2.2.2.2.2.1, Mz.2.2.2.2.2.2.2.2.2.1, Mz.2.2.2.2.2.2.2.2.2.2, iI (bitsV (shV (u, hd, k, f, g, l) sh (t, i, co, d)) sh 0 0)) ∧ MJ Mz := by
  unfold X4_shut
  exact l_X4_shut hE hsh hX sh 0 1000 0 0 0 (A1, A2, A3, A4, A5, A6, A7, a1, a2, a3, a4) (by decide) (by decide) (by omega) (by omega) (by omega) hM
