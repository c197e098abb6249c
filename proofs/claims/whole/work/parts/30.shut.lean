/-! SHUT, BY WHOM, of the reference; BY WHOM of the class -/
set_option maxRecDepth 20000 in
set_option maxHeartbeats 400000 in
theorem l_X5_shut {u hd k f g l t i : Nat → Nat} {sh co d : Nat} (hE : OkE (u, hd, k, f, g, l)) (hsh : sh ≤ 7) (hX : OkX 1500 (t, i, co, d)) : ∀ (r s n m : Nat) (x y : Int32) (F : Nat → Int32) (z1 z2 : Int32), x = iI (s : Int) → y = iI (m : Int) → s + r = sh → r < n → m < 2 ^ s →
    ∃ (F1 : Nat → Int32) (y1 y2 : Int32), X5_shut_L4 (fun y1_3 there_4 used_5 hidden_6 kind_7 figure_8 good_9 load_10 inn_11 kept_12 ships_13 coughs_14 day_15 away_16 isKeeping_17 cursor_18 => some (there_4, used_5, hidden_6, kind_7, figure_8, good_9, load_10, inn_11, kept_12, ships_13, coughs_14, day_15, away_16, isKeeping_17, cursor_18, y1_3)) (-9) n y x (rn 6 t) (rn 6 u) (rn 6 hd) (rn 7 k) (rn 7 f) (rn 7 g) (rn 7 l) (rn 7 i) (rq 616 F) (iI sh) (iI co) (iI d) 0 z1 z2 = some (rn 6 t, rn 6 u, rn 6 hd, rn 7 k, rn 7 f, rn 7 g, rn 7 l, rn 7 i, rq 616 F1, iI sh, iI co, iI d, 0, y1, y2, iI (bitsV (shV (u, hd, k, f, g, l) sh (t, i, co, d)) r s m)) ∧ Kp F F1 := by
  intro r
  induction r with
  | zero =>
    intro s n m x y F z1 z2 hx hy hs hn hm
    obtain ⟨n, rfl⟩ : ∃ m, n = m + 1 := ⟨n - 1, by omega⟩
    subst hx; subst hy
    rw [X5_shut_L4, if_pos (tle (by omega) (by omega) (by omega))]
    exact ⟨_, _, _, rfl, Kp.rf⟩
  | succ r ih =>
    intro s n m x y F z1 z2 hx hy hs hn hm
    obtain ⟨n, rfl⟩ : ∃ m, n = m + 1 := ⟨n - 1, by omega⟩
    subst hx; subst hy
    have b := shV_le (e := (u, hd, k, f, g, l)) (sh := sh) (x := (t, i, co, d)) (s := s)
    obtain ⟨F1, y1, y2, e1, k1⟩ := s_X5_isShut (s0 := s) (F := F) (z1 := z1) (z2 := z2) hE hsh (by omega) hX
    rw [X5_shut_L4, if_neg (fle (by omega) (by omega) (by omega)), e1, Option.bind_some, iI_s s]
    unfold bitsV
    by_cases c : shV (u, hd, k, f, g, l) sh (t, i, co, d) s = 0
    · obtain ⟨F2, w1, w2, e2, k2⟩ := ih (s + 1) n m _ _ F1 y1 y2 rfl rfl (by omega) (by omega) (by rw [Nat.pow_succ]; omega)
      rw [if_pos (by rw [c]; exact h00), if_pos c, show (iI (m : Int) ||| (0 : Int32)) = iI (m : Int) from Int32.or_zero]
      exact ⟨F2, w1, w2, e2, k1.tr k2⟩
    · obtain ⟨F2, w1, w2, e2, k2⟩ := ih (s + 1) n (m + 2 ^ s) _ _ F1 y1 y2 rfl rfl (by omega) (by omega) (by rw [Nat.pow_succ]; omega)
      rw [if_neg (by rw [show shV (u, hd, k, f, g, l) sh (t, i, co, d) s = 1 by omega]; exact h10'), if_neg c, or_bit (by omega) hm]
      exact ⟨F2, w1, w2, e2, k1.tr k2⟩
set_option maxRecDepth 20000 in
set_option maxHeartbeats 400000 in
theorem s_X5_shut {u hd k f g l t i : Nat → Nat} {sh co d : Nat} {F : Nat → Int32} {z1 z2 : Int32} (hE : OkE (u, hd, k, f, g, l)) (hsh : sh ≤ 7) (hX : OkX 1500 (t, i, co, d)) :
    ∃ (F1 : Nat → Int32) (y1 y2 : Int32), X5_shut (rn 6 t) (rn 6 u) (rn 6 hd) (rn 7 k) (rn 7 f) (rn 7 g) (rn 7 l) (rn 7 i) (rq 616 F) (iI sh) (iI co) (iI d) 0 z1 z2 (-9) = some (rn 6 t, rn 6 u, rn 6 hd, rn 7 k, rn 7 f, rn 7 g, rn 7 l, rn 7 i, rq 616 F1, iI sh, iI co, iI d, 0, y1, y2, iI (bitsV (shV (u, hd, k, f, g, l) sh (t, i, co, d)) sh 0 0)) ∧ Kp F F1 := by
  unfold X5_shut
  exact l_X5_shut hE hsh hX sh 0 1000 0 0 0 F z1 z2 (by decide) (by decide) (by omega) (by omega) (by omega)
/-- the first from s on, r of them, without whom s0 is IN behind the next DAY; -9 -/
def byV (e : Env) (sh s0 : Nat) (x : XX) : Nat → Nat → Int
  | 0, _ => -9
  | r + 1, s => if (dayX e sh (2 ^ s) 6 x).2.1 s0 = 0 then byV e sh s0 x r (s + 1) else (s : Int)
set_option maxRecDepth 20000 in
set_option maxHeartbeats 400000 in
theorem tb_shl : (List.range 7).all (fun s => decide (((1 : Int32) <<< (iI (s : Int) &&& (31 : Int32))) = iI ((2 ^ s : Nat) : Int))) = true := by decide +kernel
set_option maxRecDepth 20000 in
set_option maxHeartbeats 400000 in
theorem shl1 {s : Nat} (hs : s < 7) : ((1 : Int32) <<< (iI (s : Int) &&& (31 : Int32))) = iI ((2 ^ s : Nat) : Int) := of_decide_eq_true (List.all_eq_true.mp tb_shl s (List.mem_range.mpr hs))
set_option maxRecDepth 20000 in
set_option maxHeartbeats 400000 in
theorem pw7 {s : Nat} (hs : s < 7) : 2 ^ s < 128 := by
  have h : 2 ^ s ≤ 2 ^ 6 := Nat.pow_le_pow_right (by omega) (by omega)
  omega
set_option maxRecDepth 20000 in
set_option maxHeartbeats 400000 in
theorem l_X4_byWhom {u hd k f g l t i : Nat → Nat} {sh co d : Nat} {s0 : Nat} {refs : List Int32} (hE : OkE (u, hd, k, f, g, l)) (hsh : sh ≤ 7) (hs0 : s0 < 7) (hX : OkX 1500 (t, i, co, d)) : ∀ (r s n : Nat) (x : Int32) (M : Hs), x = iI (s : Int) → s + r = sh → r < n → MJ M →
    ∃ Mz : Hs, X4_byWhom_L30 (fun m_there_7 m_used_8 m_hidden_9 m_kind_10 m_figure_11 m_cargo_12 m_load_13 m_ships_14 m_inn_15 m_coughs_16 m_day_17 => some (refs, m_there_7, m_used_8, m_hidden_9, m_kind_10, m_figure_11, m_cargo_12, m_load_13, m_ships_14, m_inn_15, m_coughs_16, m_day_17, (-9 : Int32))) refs (rn 6 t) (rn 6 u) (rn 6 hd) (rn 7 k) (rn 7 f) (rn 7 g) (rn 7 l) (iI sh) (iI (mk i)) (iI co) (iI d) (iI s0) n x M.1 M.2.1 M.2.2.1 M.2.2.2.1 M.2.2.2.2.1 M.2.2.2.2.2.1 M.2.2.2.2.2.2.1 M.2.2.2.2.2.2.2.1 M.2.2.2.2.2.2.2.2.1 M.2.2.2.2.2.2.2.2.2.1 M.2.2.2.2.2.2.2.2.2.2 = some (refs, Mz.1, Mz.2.1, Mz.2.2.1, Mz.2.2.2.1, Mz.2.2.2.2.1, Mz.2.2.2.2.2.1, Mz.2.2.2.2.2.2.1, Mz.2.2.2.2.2.2.2.1, Mz.2.2.2.2.2.2.2.2.1, Mz.2.2.2.2.2.2.2.2.2.1, Mz.2.2.2.2.2.2.2.2.2.2, iI (byV (u, hd, k, f, g, l) sh s0 (t, i, co, d) r s)) ∧ MJ Mz := by
  intro r
  induction r with
  | zero =>
    intro s n x M hx hs hn hM
    obtain ⟨n, rfl⟩ : ∃ m, n = m + 1 := ⟨n - 1, by omega⟩
    subst hx
    rw [X4_byWhom_L30, if_pos (tle (by omega) (by omega) (by omega))]
    exact ⟨M, rfl, hM⟩
  | succ r ih =>
    intro s n x M hx hs hn hM
    obtain ⟨n, rfl⟩ : ∃ m, n = m + 1 := ⟨n - 1, by omega⟩
    subst hx
    have b := (dayX_ok (e := (u, hd, k, f, g, l)) (sh := sh) (b := 2 ^ s) (fr := 6) hX).2.1 s0
    obtain ⟨M1, e1, k1⟩ := s_X4_isInNextDay (s := s0) (b := 2 ^ s) hM hE hsh hX hs0 (pw7 (by omega))
    rw [X4_byWhom_L30, if_neg (fle (by omega) (by omega) (by omega)), shl1 (by omega), e1, Option.bind_some, iI_s s]
    unfold byV
    by_cases c : (dayX (u, hd, k, f, g, l) sh (2 ^ s) 6 (t, i, co, d)).2.1 s0 = 0
    · rw [if_pos (by rw [c]; exact h00), if_pos c]
      exact ih (s + 1) n _ M1 rfl (by omega) (by omega) k1
    · rw [if_neg (by rw [show (dayX (u, hd, k, f, g, l) sh (2 ^ s) 6 (t, i, co, d)).2.1 s0 = 1 by omega]; exact h10'), if_neg c]
      exact ⟨M1, rfl, k1⟩
