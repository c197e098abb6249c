/-! the packed state: a harbour now, one that is kept, what was; and what each method answers -/
def Tr : Nat → (Nat → Nat) → (Nat → Hs) → Prop := fun _ _ _ => True
/-- now Z, kept K, what was has Q -/
def Gp (Z K : SS) (Q : Nat → (Nat → Nat) → (Nat → Hs) → Prop) (S : Rw) : Prop := ∃ (R : List Int32) (M : Hs) (tc : List Int32) (tl : Int32) (lc : List Int32) (ll : Int32) (b : Nat) (pe : Nat → Nat) (hi : Nat → Hs), S = (R, M, picH Z, picH K, 1, tc, tl, lc, ll, iI (b : Int), pe, hi) ∧ R.length = 7 ∧ MJ M ∧ HJ b pe hi ∧ Q b pe hi
/-- now Z, while it is made -/
def Pw (Z : SS) (S : Rw) : Prop := ∃ (R : List Int32) (M K : Hs) (kk : Int32) (tc : List Int32) (tl : Int32) (T : Nat → Nat) (n b : Nat) (pe : Nat → Nat) (hi : Nat → Hs), S = (R, M, picH Z, K, kk, tc, tl, rn 96 T, iI (n : Int), iI (b : Int), pe, hi) ∧ R.length = 7 ∧ MJ M ∧ MJ K ∧ HJ b pe hi ∧ n ≤ 96 ∧ ∀ j, T j ≤ 255
set_option maxRecDepth 20000 in
set_option maxHeartbeats 1000000 in
theorem Gp.tr {Z K : SS} {Q : Nat → (Nat → Nat) → (Nat → Hs) → Prop} {S : Rw} (h : Gp Z K Q S) : Gp Z K Tr S := by
  obtain ⟨R, M, tc, tl, lc, ll, b, pe, hi, h1, h2, h3, h4, -⟩ := h
  exact ⟨R, M, tc, tl, lc, ll, b, pe, hi, h1, h2, h3, h4, trivial⟩
set_option maxRecDepth 20000 in
set_option maxHeartbeats 1000000 in
theorem t_thereIn {Z K : SS} {Q : Nat → (Nat → Nat) → (Nat → Hs) → Prop} {S : Rw} {a n : Nat} (ha : a < 6) (hn : n ≤ 60) (h : Gp Z K Q S) (hZ : OkS Z) : ∃ S1 : Rw, A_thereIn S (iI a) (iI n) = some (S1, iI ((daysX Z.1 Z.2.1 0 6 n Z.2.2).1 a : Int)) ∧ Gp Z K Q S1 := by
  obtain ⟨R, ⟨A1, A2, A3, A4, A5, A6, A7, a1, a2, a3, a4⟩, tc, tl, lc, ll, b, pe, hi, rfl, hR, hM, hH, hQ⟩ := h
  obtain ⟨⟨u, hd, k, f, g, l⟩, sh, t, i, co, d⟩ := Z
  obtain ⟨Mz, e, k1⟩ := q_thereIn (R := R) hM hZ ha hn
  exact ⟨_, congrArg (Option.map _) e, R, Mz, tc, tl, lc, ll, b, pe, hi, rfl, hR, k1, hH, hQ⟩
set_option maxRecDepth 20000 in
set_option maxHeartbeats 1000000 in
theorem t_then1 {Z K : SS} {Q : Nat → (Nat → Nat) → (Nat → Hs) → Prop} {S : Rw} {n : Nat} (hn : n ≤ 60) (h : Gp Z K Q S) (hZ : OkS Z) : ∃ S1 : Rw, A_then S (iI n) 1 = some (S1, iI (mk (daysX Z.1 Z.2.1 0 6 n Z.2.2).2.1 : Int)) ∧ Gp Z K Q S1 := by
  obtain ⟨R, ⟨A1, A2, A3, A4, A5, A6, A7, a1, a2, a3, a4⟩, tc, tl, lc, ll, b, pe, hi, rfl, hR, hM, hH, hQ⟩ := h
  obtain ⟨⟨u, hd, k, f, g, l⟩, sh, t, i, co, d⟩ := Z
  obtain ⟨Mz, e, k1⟩ := q_then1 (R := R) hM hZ hn
  exact ⟨_, congrArg (Option.map _) e, R, Mz, tc, tl, lc, ll, b, pe, hi, rfl, hR, k1, hH, hQ⟩
set_option maxRecDepth 20000 in
set_option maxHeartbeats 1000000 in
theorem t_then0 {Z K : SS} {Q : Nat → (Nat → Nat) → (Nat → Hs) → Prop} {S : Rw} {n : Nat} (hn : n ≤ 60) (h : Gp Z K Q S) (hZ : OkS Z) : ∃ S1 : Rw, A_then S (iI n) 0 = some (S1, iI ((daysX Z.1 Z.2.1 0 6 n Z.2.2).2.2.1 : Int)) ∧ Gp Z K Q S1 := by
  obtain ⟨R, ⟨A1, A2, A3, A4, A5, A6, A7, a1, a2, a3, a4⟩, tc, tl, lc, ll, b, pe, hi, rfl, hR, hM, hH, hQ⟩ := h
  obtain ⟨⟨u, hd, k, f, g, l⟩, sh, t, i, co, d⟩ := Z
  obtain ⟨Mz, e, k1⟩ := q_then0 (R := R) hM hZ hn
  exact ⟨_, congrArg (Option.map _) e, R, Mz, tc, tl, lc, ll, b, pe, hi, rfl, hR, k1, hH, hQ⟩
set_option maxRecDepth 20000 in
set_option maxHeartbeats 1000000 in
theorem t_comes {Z K : SS} {Q : Nat → (Nat → Nat) → (Nat → Hs) → Prop} {S : Rw} {s : Nat} (hs : s < Z.2.1) (h : Gp Z K Q S) (hZ : OkS Z) : ∃ S1 : Rw, A_comes S (iI s) = some (S1, iI (cmX Z.1 Z.2.1 0 6 s 60 0 Z.2.2).1) ∧ Gp Z K Q S1 := by
  obtain ⟨R, ⟨A1, A2, A3, A4, A5, A6, A7, a1, a2, a3, a4⟩, tc, tl, lc, ll, b, pe, hi, rfl, hR, hM, hH, hQ⟩ := h
  obtain ⟨⟨u, hd, k, f, g, l⟩, sh, t, i, co, d⟩ := Z
  obtain ⟨Mz, e, k1⟩ := q_comes (R := R) hM hZ hs
  exact ⟨_, congrArg (Option.map _) e, R, Mz, tc, tl, lc, ll, b, pe, hi, rfl, hR, k1, hH, hQ⟩
set_option maxRecDepth 20000 in
set_option maxHeartbeats 1000000 in
theorem t_comesF {Z K : SS} {Q : Nat → (Nat → Nat) → (Nat → Hs) → Prop} {S : Rw} (h : Gp Z K Q S) (hZ : OkS Z) : ∃ S1 : Rw, A_comes S (-1) = some (S1, iI (fst1 Z.1 Z.2.1 Z.2.2.2.1 60 Z.2.2)) ∧ Gp Z K Q S1 := by
  obtain ⟨R, ⟨A1, A2, A3, A4, A5, A6, A7, a1, a2, a3, a4⟩, tc, tl, lc, ll, b, pe, hi, rfl, hR, hM, hH, hQ⟩ := h
  obtain ⟨⟨u, hd, k, f, g, l⟩, sh, t, i, co, d⟩ := Z
  obtain ⟨Mz, e, k1⟩ := q_comesF (R := R) hM hZ
  exact ⟨_, congrArg (Option.map _) e, R, Mz, tc, tl, lc, ll, b, pe, hi, rfl, hR, k1, hH, hQ⟩
set_option maxRecDepth 20000 in
set_option maxHeartbeats 1000000 in
theorem t_shut {Z K : SS} {Q : Nat → (Nat → Nat) → (Nat → Hs) → Prop} {S : Rw} (h : Gp Z K Q S) (hZ : OkS Z) : ∃ S1 : Rw, A_shut S = some (S1, iI (bitsV (shV Z.1 Z.2.1 Z.2.2) Z.2.1 0 0 : Int)) ∧ Gp Z K Q S1 := by
  obtain ⟨R, ⟨A1, A2, A3, A4, A5, A6, A7, a1, a2, a3, a4⟩, tc, tl, lc, ll, b, pe, hi, rfl, hR, hM, hH, hQ⟩ := h
  obtain ⟨⟨u, hd, k, f, g, l⟩, sh, t, i, co, d⟩ := Z
  obtain ⟨Mz, e, k1⟩ := s_X4_shut hM (sE hZ) (sSh hZ) (sX15 hZ)
  exact ⟨_, congrArg (Option.map _) e, R, Mz, tc, tl, lc, ll, b, pe, hi, rfl, hR, k1, hH, hQ⟩
set_option maxRecDepth 20000 in
set_option maxHeartbeats 1000000 in
theorem t_byWhom {Z K : SS} {Q : Nat → (Nat → Nat) → (Nat → Hs) → Prop} {S : Rw} {s : Nat} (hs : s < Z.2.1) (h : Gp Z K Q S) (hZ : OkS Z) : ∃ S1 : Rw, A_byWhom S (iI s) = some (S1, iI (if shV Z.1 Z.2.1 Z.2.2 s = 0 then -9 else byV Z.1 Z.2.1 s Z.2.2 Z.2.1 0)) ∧ Gp Z K Q S1 := by
  obtain ⟨R, ⟨A1, A2, A3, A4, A5, A6, A7, a1, a2, a3, a4⟩, tc, tl, lc, ll, b, pe, hi, rfl, hR, hM, hH, hQ⟩ := h
  obtain ⟨⟨u, hd, k, f, g, l⟩, sh, t, i, co, d⟩ := Z
  obtain ⟨Mz, e, k1⟩ := q_byWhom (R := R) hM hZ hs
  exact ⟨_, congrArg (Option.map _) e, R, Mz, tc, tl, lc, ll, b, pe, hi, rfl, hR, k1, hH, hQ⟩
set_option maxRecDepth 20000 in
set_option maxHeartbeats 1000000 in
theorem t_fewest {Z K : SS} {Q : Nat → (Nat → Nat) → (Nat → Hs) → Prop} {S : Rw} {s n : Nat} (hs : s < Z.2.1) (hn0 : 1 ≤ n) (hn : n ≤ 60) (h : Gp Z K Q S) (hZ : OkS Z) : ∃ S1 : Rw, A_fewest S (iI s) (iI n) = some (S1, iI (fsize (PW Z.1 Z.2.1 s n Z.2.2) 7 0)) ∧ Gp Z K Q S1 := by
  obtain ⟨R, ⟨A1, A2, A3, A4, A5, A6, A7, a1, a2, a3, a4⟩, tc, tl, lc, ll, b, pe, hi, rfl, hR, hM, hH, hQ⟩ := h
  obtain ⟨⟨u, hd, k, f, g, l⟩, sh, t, i, co, d⟩ := Z
  obtain ⟨Mz, e, k1⟩ := q_fewest (R := R) hM hZ hs hn0 hn
  exact ⟨_, congrArg (Option.map _) e, R, Mz, tc, tl, lc, ll, b, pe, hi, rfl, hR, k1, hH, hQ⟩
set_option maxRecDepth 20000 in
set_option maxHeartbeats 1000000 in
theorem t_forWhat {Z K : SS} {Q : Nat → (Nat → Nat) → (Nat → Hs) → Prop} {S : Rw} {s : Nat} (hs : s < Z.2.1) (hi0 : Z.2.2.2.1 s = 0) (h : Gp Z K Q S) (hZ : OkS Z) : ∃ S1 : Rw, A_forWhat S (iI s) = some (S1, iI ((if (dayX Z.1 Z.2.1 0 6 Z.2.2).2.1 s = 0 then 0 else bitsV (uV Z.1 Z.2.1 Z.2.2 s) 6 0 0 : Nat) : Int)) ∧ Gp Z K Q S1 := by
  obtain ⟨R, ⟨A1, A2, A3, A4, A5, A6, A7, a1, a2, a3, a4⟩, tc, tl, lc, ll, b, pe, hi, rfl, hR, hM, hH, hQ⟩ := h
  obtain ⟨⟨u, hd, k, f, g, l⟩, sh, t, i, co, d⟩ := Z
  obtain ⟨Mz, e, k1⟩ := q_forWhat (R := R) hM hZ hs hi0
  exact ⟨_, congrArg (Option.map _) e, R, Mz, tc, tl, lc, ll, b, pe, hi, rfl, hR, k1, hH, hQ⟩
set_option maxRecDepth 20000 in
set_option maxHeartbeats 1000000 in
theorem t_want {Z K : SS} {Q : Nat → (Nat → Nat) → (Nat → Hs) → Prop} {S : Rw} {n : Nat} (hn : n ≤ 60) (h : Gp Z K Q S) (hZ : OkS Z) : ∃ S1 : Rw, A_want S (iI n) = some (S1, iI ((wnX Z.1 Z.2.1 0 6 n (allk (lk 6 Z.1.1 Z.2.2.1)) Z.2.2).1 : Int)) ∧ Gp Z K Q S1 := by
  obtain ⟨R, ⟨A1, A2, A3, A4, A5, A6, A7, a1, a2, a3, a4⟩, tc, tl, lc, ll, b, pe, hi, rfl, hR, hM, hH, hQ⟩ := h
  obtain ⟨⟨u, hd, k, f, g, l⟩, sh, t, i, co, d⟩ := Z
  obtain ⟨Mz, e, k1⟩ := q_want (R := R) hM hZ hn
  exact ⟨_, congrArg (Option.map _) e, R, Mz, tc, tl, lc, ll, b, pe, hi, rfl, hR, k1, hH, hQ⟩
set_option maxRecDepth 20000 in
set_option maxHeartbeats 1000000 in
theorem t_race {Z K : SS} {Q : Nat → (Nat → Nat) → (Nat → Hs) → Prop} {S : Rw} {a c : Nat} (ha : a < Z.2.1) (hc : c < Z.2.1) (hac : ¬ a = c) (h : Gp Z K Q S) (hZ : OkS Z) : ∃ S1 : Rw, A_race S (iI a) (iI c) = some (S1, iI (raV (cmX Z.1 Z.2.1 0 6 (min a c) 60 0 Z.2.2).1 (cmX Z.1 Z.2.1 0 6 (max a c) 60 0 Z.2.2).1 (min a c) (max a c))) ∧ Gp Z K Q S1 := by
  obtain ⟨R, ⟨A1, A2, A3, A4, A5, A6, A7, a1, a2, a3, a4⟩, tc, tl, lc, ll, b, pe, hi, rfl, hR, hM, hH, hQ⟩ := h
  obtain ⟨⟨u, hd, k, f, g, l⟩, sh, t, i, co, d⟩ := Z
  obtain ⟨Mz, e, k1⟩ := q_race (R := R) hM hZ ha hc hac
  exact ⟨_, congrArg (Option.map _) e, R, Mz, tc, tl, lc, ll, b, pe, hi, rfl, hR, k1, hH, hQ⟩
set_option maxRecDepth 20000 in
set_option maxHeartbeats 1000000 in
theorem t_bare0 {Z K : SS} {Q : Nat → (Nat → Nat) → (Nat → Hs) → Prop} {S : Rw} (h : Gp Z K Q S) (hZ : OkS Z) : ∃ S1 : Rw, A_bare S 0 = some (S1, iI (bX Z.1 Z.2.1 61 0 Z.2.2).1) ∧ Gp Z K Q S1 := by
  obtain ⟨R, ⟨A1, A2, A3, A4, A5, A6, A7, a1, a2, a3, a4⟩, tc, tl, lc, ll, b, pe, hi, rfl, hR, hM, hH, hQ⟩ := h
  obtain ⟨⟨u, hd, k, f, g, l⟩, sh, t, i, co, d⟩ := Z
  obtain ⟨Mz, e, k1⟩ := q_bare (R := R) (w := 0) hM hZ (by omega)
  rw [z00, if_pos rfl] at e
  exact ⟨_, congrArg (Option.map _) e, R, Mz, tc, tl, lc, ll, b, pe, hi, rfl, hR, k1, hH, hQ⟩
set_option maxRecDepth 20000 in
set_option maxHeartbeats 1000000 in
theorem t_bare1 {Z K : SS} {Q : Nat → (Nat → Nat) → (Nat → Hs) → Prop} {S : Rw} (h : Gp Z K Q S) (hZ : OkS Z) : ∃ S1 : Rw, A_bare S 1 = some (S1, iI (bX Z.1 Z.2.1 61 0 Z.2.2).2) ∧ Gp Z K Q S1 := by
  obtain ⟨R, ⟨A1, A2, A3, A4, A5, A6, A7, a1, a2, a3, a4⟩, tc, tl, lc, ll, b, pe, hi, rfl, hR, hM, hH, hQ⟩ := h
  obtain ⟨⟨u, hd, k, f, g, l⟩, sh, t, i, co, d⟩ := Z
  obtain ⟨Mz, e, k1⟩ := q_bare (R := R) (w := 1) hM hZ (by omega)
  rw [z11, if_neg c10] at e
  exact ⟨_, congrArg (Option.map _) e, R, Mz, tc, tl, lc, ll, b, pe, hi, rfl, hR, k1, hH, hQ⟩
set_option maxRecDepth 20000 in
set_option maxHeartbeats 1000000 in
theorem t_hide {Z K : SS} {Q : Nat → (Nat → Nat) → (Nat → Hs) → Prop} {S : Rw} {a s n : Nat} (ha : a < 6) (hs : s < Z.2.1) (hn0 : 1 ≤ n) (hn : n ≤ 60) (h : Gp Z K Q S) (hZ : OkS Z) : ∃ (S1 : Rw) (v : Int), A_hide S (iI a) (iI s) (iI n) = some (S1, iI v) ∧ Gp Z K Q S1 ∧ ((v = -9 ∧ ∀ j, j ≤ Z.2.2.1 a → PH Z.1 Z.2.1 s n a Z.2.2 j = -9) ∨ (∃ w : Nat, w ≤ Z.2.2.1 a ∧ v = (w : Int) ∧ ¬ PH Z.1 Z.2.1 s n a Z.2.2 w = -9 ∧ ∀ j, j < w → PH Z.1 Z.2.1 s n a Z.2.2 j = -9)) := by
  obtain ⟨R, ⟨A1, A2, A3, A4, A5, A6, A7, a1, a2, a3, a4⟩, tc, tl, lc, ll, b, pe, hi, rfl, hR, hM, hH, hQ⟩ := h
  obtain ⟨⟨u, hd, k, f, g, l⟩, sh, t, i, co, d⟩ := Z
  obtain ⟨Mz, v, e, k1, k2⟩ := q_hide (R := R) hM hZ ha hs hn0 hn
  exact ⟨_, v, congrArg (Option.map _) e, ⟨R, Mz, tc, tl, lc, ll, b, pe, hi, rfl, hR, k1, hH, hQ⟩, k2⟩
set_option maxRecDepth 20000 in
set_option maxHeartbeats 1000000 in
theorem t_loaded1 {Z K : SS} {Q : Nat → (Nat → Nat) → (Nat → Hs) → Prop} {S : Rw} {s : Nat} (hs : s < Z.2.1) (hi0 : Z.2.2.2.1 s = 0) (h : Gp Z K Q S) (hZ : OkS Z) : ∃ (S1 : Rw) (v : Int), A_loaded S (iI s) 1 = some (S1, iI v) ∧ Gp Z K Q S1 ∧ -9 ≤ v ∧ v ≤ 60 ∧ (0 ≤ (cmX Z.1 Z.2.1 0 6 s 60 0 Z.2.2).1 → v ≤ (cmX Z.1 Z.2.1 0 6 s 60 0 Z.2.2).1) := by
  obtain ⟨R, ⟨A1, A2, A3, A4, A5, A6, A7, a1, a2, a3, a4⟩, tc, tl, lc, ll, b, pe, hi, rfl, hR, hM, hH, hQ⟩ := h
  obtain ⟨⟨u, hd, k, f, g, l⟩, sh, t, i, co, d⟩ := Z
  obtain ⟨Mz, v, e, k1, k2⟩ := q_loaded1 (R := R) hM hZ hs hi0
  exact ⟨_, v, congrArg (Option.map _) e, ⟨R, Mz, tc, tl, lc, ll, b, pe, hi, rfl, hR, k1, hH, hQ⟩, k2⟩
set_option maxRecDepth 20000 in
set_option maxHeartbeats 1000000 in
theorem t_filled {Z K : SS} {Q : Nat → (Nat → Nat) → (Nat → Hs) → Prop} {S : Rw} (h : Gp Z K Q S) (hZ : OkS Z) : ∃ (S1 : Rw) (v : Int), A_filled S = some (S1, iI v) ∧ Gp Z K Q S1 ∧ -9 ≤ v ∧ v ≤ 7 ∧ (v = 0 ↔ allk (lk 6 Z.1.1 Z.2.2.1) = 0) := by
  obtain ⟨R, ⟨A1, A2, A3, A4, A5, A6, A7, a1, a2, a3, a4⟩, tc, tl, lc, ll, b, pe, hi, rfl, hR, hM, hH, hQ⟩ := h
  obtain ⟨⟨u, hd, k, f, g, l⟩, sh, t, i, co, d⟩ := Z
  obtain ⟨Mz, v, e, k1, k2⟩ := q_filled hM hZ
  exact ⟨_, v, congrArg (Option.map _) e, ⟨R, Mz, tc, tl, lc, ll, b, pe, hi, rfl, hR, k1, hH, hQ⟩, k2⟩
set_option maxRecDepth 20000 in
set_option maxHeartbeats 1000000 in
theorem t_forWhatIn {Z K : SS} {Q : Nat → (Nat → Nat) → (Nat → Hs) → Prop} {S : Rw} {s : Nat} (hs : s < Z.2.1) (hi1 : Z.2.2.2.1 s = 1) (h : Gp Z K Q S) (hZ : OkS Z) : ∃ S1 : Rw, A_forWhat S (iI s) = some (S1, -3) ∧ Gp Z K Q S1 := by
  obtain ⟨R, ⟨A1, A2, A3, A4, A5, A6, A7, a1, a2, a3, a4⟩, tc, tl, lc, ll, b, pe, hi, rfl, hR, hM, hH, hQ⟩ := h
  obtain ⟨⟨u, hd, k, f, g, l⟩, sh, t, i, co, d⟩ := Z
  have e := q_forWhatIn (A1 := A1) (A2 := A2) (A3 := A3) (A4 := A4) (A5 := A5) (A6 := A6) (A7 := A7) (a1 := a1) (a2 := a2) (a3 := a3) (a4 := a4) hR hZ hs hi1
  exact ⟨_, congrArg (Option.map _) e, _, _, tc, tl, lc, ll, b, pe, hi, rfl, incR_len.trans hR, hM, hH, hQ⟩
set_option maxRecDepth 20000 in
set_option maxHeartbeats 1000000 in
theorem t_loadedIn {Z K : SS} {Q : Nat → (Nat → Nat) → (Nat → Hs) → Prop} {S : Rw} {s : Nat} (hs : s < Z.2.1) (hi1 : Z.2.2.2.1 s = 1) (h : Gp Z K Q S) (hZ : OkS Z) : ∃ S1 : Rw, A_loaded S (iI s) 0 = some (S1, -3) ∧ Gp Z K Q S1 := by
  obtain ⟨R, ⟨A1, A2, A3, A4, A5, A6, A7, a1, a2, a3, a4⟩, tc, tl, lc, ll, b, pe, hi, rfl, hR, hM, hH, hQ⟩ := h
  obtain ⟨⟨u, hd, k, f, g, l⟩, sh, t, i, co, d⟩ := Z
  have e := q_loadedIn (A1 := A1) (A2 := A2) (A3 := A3) (A4 := A4) (A5 := A5) (A6 := A6) (A7 := A7) (a1 := a1) (a2 := a2) (a3 := a3) (a4 := a4) hR hZ hs hi1
  exact ⟨_, congrArg (Option.map _) e, _, _, tc, tl, lc, ll, b, pe, hi, rfl, incR_len.trans hR, hM, hH, hQ⟩
set_option maxRecDepth 20000 in
set_option maxHeartbeats 1000000 in
theorem t_deepest3 {Z K : SS} {Q : Nat → (Nat → Nat) → (Nat → Hs) → Prop} {S : Rw} (h : Gp Z K Q S) (hZ : OkS Z) : ∃ S1 : Rw, A_deepest S 3 = some (S1, iI (bitsV (plV Z.1.1 Z.2.2.1) 6 0 0 : Int)) ∧ Gp Z K Q S1 := by
  obtain ⟨R, ⟨A1, A2, A3, A4, A5, A6, A7, a1, a2, a3, a4⟩, tc, tl, lc, ll, b, pe, hi, rfl, hR, hM, hH, hQ⟩ := h
  obtain ⟨⟨u, hd, k, f, g, l⟩, sh, t, i, co, d⟩ := Z
  have e := q_deepest3 (R := R) (c1 := rn 7 k) (c2 := rn 7 f) (c3 := rn 7 g) (s1 := iI sh) (show ∀ j, u j ≤ 9 from oU (sE hZ)) (show ∀ j, t j ≤ 99 from xT (sX hZ))
  exact ⟨_, congrArg (Option.map _) e, R, _, tc, tl, lc, ll, b, pe, hi, rfl, hR, hM, hH, hQ⟩
set_option maxRecDepth 20000 in
set_option maxHeartbeats 1000000 in
theorem t_deepest2 {Z K : SS} {Q : Nat → (Nat → Nat) → (Nat → Hs) → Prop} {S : Rw} (h : Gp Z K Q S) (hZ : OkS Z) : ∃ (S1 : Rw) (v : Nat), A_deepest S 2 = some (S1, iI (v : Int)) ∧ Gp Z K Q S1 ∧ v ≤ 63 ∧ ∀ j, j < 6 → lk 6 Z.1.1 Z.2.2.1 j ≤ v := by
  obtain ⟨R, ⟨A1, A2, A3, A4, A5, A6, A7, a1, a2, a3, a4⟩, tc, tl, lc, ll, b, pe, hi, rfl, hR, hM, hH, hQ⟩ := h
  obtain ⟨⟨u, hd, k, f, g, l⟩, sh, t, i, co, d⟩ := Z
  obtain ⟨v, e, k2⟩ := q_deepest2 (R := R) (c1 := rn 7 k) (c2 := rn 7 f) (c3 := rn 7 g) (s1 := iI sh) (show ∀ j, u j ≤ 9 from oU (sE hZ)) (show ∀ j, t j ≤ 99 from xT (sX hZ))
  exact ⟨_, v, congrArg (Option.map _) e, ⟨R, _, tc, tl, lc, ll, b, pe, hi, rfl, hR, hM, hH, hQ⟩, k2⟩
set_option maxRecDepth 20000 in
set_option maxHeartbeats 1000000 in
theorem t_tide {Z K : SS} {Q : Nat → (Nat → Nat) → (Nat → Hs) → Prop} {S : Rw} {n : Nat} (hn : n ≤ 60) (h : Gp Z K Q S) (hZ : OkS Z) : ∃ S1 : Rw, A_tide S (iI n) = some (S1, iI (td (Z.2.2.2.2.2 + n) : Int)) ∧ Gp Z K Q S1 := by
  obtain ⟨R, ⟨A1, A2, A3, A4, A5, A6, A7, a1, a2, a3, a4⟩, tc, tl, lc, ll, b, pe, hi, rfl, hR, hM, hH, hQ⟩ := h
  obtain ⟨⟨u, hd, k, f, g, l⟩, sh, t, i, co, d⟩ := Z
  have e := q_tide (R := R) (show d ≤ 999 from xD (sX hZ)) hn
  exact ⟨_, congrArg (Option.map _) e, R, _, tc, tl, lc, ll, b, pe, hi, rfl, hR, hM, hH, hQ⟩
set_option maxRecDepth 20000 in
set_option maxHeartbeats 1000000 in
theorem t_good0 {Z K : SS} {Q : Nat → (Nat → Nat) → (Nat → Hs) → Prop} {S : Rw} {a : Nat} (ha : a < 6) (h : Gp Z K Q S) (hZ : OkS Z) : ∃ S1 : Rw, A_good S (iI a) 0 = some (S1, iI (Z.2.2.1 a : Int)) ∧ Gp Z K Q S1 := by
  obtain ⟨R, ⟨A1, A2, A3, A4, A5, A6, A7, a1, a2, a3, a4⟩, tc, tl, lc, ll, b, pe, hi, rfl, hR, hM, hH, hQ⟩ := h
  obtain ⟨⟨u, hd, k, f, g, l⟩, sh, t, i, co, d⟩ := Z
  have e := q_good0 (R := R) (t := t) (u := u) (hd := hd) ha
  exact ⟨_, congrArg (Option.map _) e, R, _, tc, tl, lc, ll, b, pe, hi, rfl, hR, hM, hH, hQ⟩
set_option maxRecDepth 20000 in
set_option maxHeartbeats 1000000 in
theorem t_good1 {Z K : SS} {Q : Nat → (Nat → Nat) → (Nat → Hs) → Prop} {S : Rw} {a : Nat} (ha : a < 6) (h : Gp Z K Q S) (hZ : OkS Z) : ∃ S1 : Rw, A_good S (iI a) 1 = some (S1, iI (Z.1.1 a : Int)) ∧ Gp Z K Q S1 := by
  obtain ⟨R, ⟨A1, A2, A3, A4, A5, A6, A7, a1, a2, a3, a4⟩, tc, tl, lc, ll, b, pe, hi, rfl, hR, hM, hH, hQ⟩ := h
  obtain ⟨⟨u, hd, k, f, g, l⟩, sh, t, i, co, d⟩ := Z
  have e := q_good1 (R := R) (t := t) (u := u) (hd := hd) ha
  exact ⟨_, congrArg (Option.map _) e, R, _, tc, tl, lc, ll, b, pe, hi, rfl, hR, hM, hH, hQ⟩
set_option maxRecDepth 20000 in
set_option maxHeartbeats 1000000 in
theorem t_good2 {Z K : SS} {Q : Nat → (Nat → Nat) → (Nat → Hs) → Prop} {S : Rw} {a : Nat} (ha : a < 6) (h : Gp Z K Q S) (hZ : OkS Z) : ∃ S1 : Rw, A_good S (iI a) 2 = some (S1, iI (Z.1.2.1 a : Int)) ∧ Gp Z K Q S1 := by
  obtain ⟨R, ⟨A1, A2, A3, A4, A5, A6, A7, a1, a2, a3, a4⟩, tc, tl, lc, ll, b, pe, hi, rfl, hR, hM, hH, hQ⟩ := h
  obtain ⟨⟨u, hd, k, f, g, l⟩, sh, t, i, co, d⟩ := Z
  have e := q_good2 (R := R) (t := t) (u := u) (hd := hd) ha
  exact ⟨_, congrArg (Option.map _) e, R, _, tc, tl, lc, ll, b, pe, hi, rfl, hR, hM, hH, hQ⟩
set_option maxRecDepth 20000 in
set_option maxHeartbeats 1000000 in
theorem t_good3 {Z K : SS} {Q : Nat → (Nat → Nat) → (Nat → Hs) → Prop} {S : Rw} {a : Nat} (ha : a < 6) (h : Gp Z K Q S) (hZ : OkS Z) : ∃ S1 : Rw, A_good S (iI a) 3 = some (S1, iI (lk 6 Z.1.1 Z.2.2.1 a : Int)) ∧ Gp Z K Q S1 := by
  obtain ⟨R, ⟨A1, A2, A3, A4, A5, A6, A7, a1, a2, a3, a4⟩, tc, tl, lc, ll, b, pe, hi, rfl, hR, hM, hH, hQ⟩ := h
  obtain ⟨⟨u, hd, k, f, g, l⟩, sh, t, i, co, d⟩ := Z
  have e := q_good3 (R := R) (hd := hd) (show ∀ j, u j ≤ 9 from oU (sE hZ)) (show ∀ j, t j ≤ 99 from xT (sX hZ)) ha
  exact ⟨_, congrArg (Option.map _) e, R, _, tc, tl, lc, ll, b, pe, hi, rfl, hR, hM, hH, hQ⟩
set_option maxRecDepth 20000 in
set_option maxHeartbeats 1000000 in
theorem t_ship3 {Z K : SS} {Q : Nat → (Nat → Nat) → (Nat → Hs) → Prop} {S : Rw} {s : Nat} (hs : s < Z.2.1) (h : Gp Z K Q S) (hZ : OkS Z) : ∃ S1 : Rw, A_shipOf S (iI s) 3 = some (S1, iI (Z.1.2.2.2.2.2 s : Int)) ∧ Gp Z K Q S1 := by
  obtain ⟨R, ⟨A1, A2, A3, A4, A5, A6, A7, a1, a2, a3, a4⟩, tc, tl, lc, ll, b, pe, hi, rfl, hR, hM, hH, hQ⟩ := h
  obtain ⟨⟨u, hd, k, f, g, l⟩, sh, t, i, co, d⟩ := Z
  have e := q_ship3 (R := R) hZ hs
  exact ⟨_, congrArg (Option.map _) e, R, _, tc, tl, lc, ll, b, pe, hi, rfl, hR, hM, hH, hQ⟩
set_option maxRecDepth 20000 in
set_option maxHeartbeats 1000000 in
theorem t_ship4 {Z K : SS} {Q : Nat → (Nat → Nat) → (Nat → Hs) → Prop} {S : Rw} {s : Nat} (hs : s < Z.2.1) (h : Gp Z K Q S) (hZ : OkS Z) : ∃ S1 : Rw, A_shipOf S (iI s) 4 = some (S1, iI (Z.2.2.2.1 s : Int)) ∧ Gp Z K Q S1 := by
  obtain ⟨R, ⟨A1, A2, A3, A4, A5, A6, A7, a1, a2, a3, a4⟩, tc, tl, lc, ll, b, pe, hi, rfl, hR, hM, hH, hQ⟩ := h
  obtain ⟨⟨u, hd, k, f, g, l⟩, sh, t, i, co, d⟩ := Z
  have e := q_ship4 (R := R) hZ hs
  exact ⟨_, congrArg (Option.map _) e, R, _, tc, tl, lc, ll, b, pe, hi, rfl, hR, hM, hH, hQ⟩
set_option maxRecDepth 20000 in
set_option maxHeartbeats 1000000 in
theorem t_ship6 {Z K : SS} {Q : Nat → (Nat → Nat) → (Nat → Hs) → Prop} {S : Rw} {s : Nat} (hs : s < Z.2.1) (h : Gp Z K Q S) (hZ : OkS Z) : ∃ S1 : Rw, A_shipOf S (iI s) 6 = some (S1, iI (sk (lk 6 Z.1.1 Z.2.2.1) Z.1.2.1 Z.2.2.2.2.1 (Z.1.2.2.1 s) (Z.1.2.2.2.2.1 s) : Int)) ∧ Gp Z K Q S1 := by
  obtain ⟨R, ⟨A1, A2, A3, A4, A5, A6, A7, a1, a2, a3, a4⟩, tc, tl, lc, ll, b, pe, hi, rfl, hR, hM, hH, hQ⟩ := h
  obtain ⟨⟨u, hd, k, f, g, l⟩, sh, t, i, co, d⟩ := Z
  have e := q_ship6 (R := R) hZ hs
  exact ⟨_, congrArg (Option.map _) e, R, _, tc, tl, lc, ll, b, pe, hi, rfl, hR, hM, hH, hQ⟩
set_option maxRecDepth 20000 in
set_option maxHeartbeats 1000000 in
theorem t_ship7 {Z K : SS} {Q : Nat → (Nat → Nat) → (Nat → Hs) → Prop} {S : Rw} {s : Nat} (hs : s < Z.2.1) (h : Gp Z K Q S) (hZ : OkS Z) : ∃ S1 : Rw, A_shipOf S (iI s) 7 = some (S1, iI ((td Z.2.2.2.2.2 + sk (lk 6 Z.1.1 Z.2.2.1) Z.1.2.1 Z.2.2.2.2.1 (Z.1.2.2.1 s) (Z.1.2.2.2.2.1 s) : Nat) : Int)) ∧ Gp Z K Q S1 := by
  obtain ⟨R, ⟨A1, A2, A3, A4, A5, A6, A7, a1, a2, a3, a4⟩, tc, tl, lc, ll, b, pe, hi, rfl, hR, hM, hH, hQ⟩ := h
  obtain ⟨⟨u, hd, k, f, g, l⟩, sh, t, i, co, d⟩ := Z
  have e := q_ship7 (R := R) hZ hs
  exact ⟨_, congrArg (Option.map _) e, R, _, tc, tl, lc, ll, b, pe, hi, rfl, hR, hM, hH, hQ⟩
set_option maxRecDepth 20000 in
set_option maxHeartbeats 1000000 in
theorem t_count0 {Z K : SS} {Q : Nat → (Nat → Nat) → (Nat → Hs) → Prop} {S : Rw} (h : Gp Z K Q S) (hZ : OkS Z) : ∃ S1 : Rw, A_count S 0 = some (S1, iI (Z.2.1 : Int)) ∧ Gp Z K Q S1 := by
  obtain ⟨R, ⟨A1, A2, A3, A4, A5, A6, A7, a1, a2, a3, a4⟩, tc, tl, lc, ll, b, pe, hi, rfl, hR, hM, hH, hQ⟩ := h
  obtain ⟨⟨u, hd, k, f, g, l⟩, sh, t, i, co, d⟩ := Z
  have e := q_count0 (R := R) (t := rn 6 t) (u := rn 6 u) (a := tl) (b := ll) (c := iI sh) (d := iI (mk i)) (e := iI co) (f := iI d) (g := iI b)
  exact ⟨_, congrArg (Option.map _) e, R, _, tc, tl, lc, ll, b, pe, hi, rfl, hR, hM, hH, hQ⟩
set_option maxRecDepth 20000 in
set_option maxHeartbeats 1000000 in
theorem t_count1 {Z K : SS} {Q : Nat → (Nat → Nat) → (Nat → Hs) → Prop} {S : Rw} (h : Gp Z K Q S) (hZ : OkS Z) : ∃ S1 : Rw, A_count S 1 = some (S1, iI (Z.2.2.2.2.2 : Int)) ∧ Gp Z K Q S1 := by
  obtain ⟨R, ⟨A1, A2, A3, A4, A5, A6, A7, a1, a2, a3, a4⟩, tc, tl, lc, ll, b, pe, hi, rfl, hR, hM, hH, hQ⟩ := h
  obtain ⟨⟨u, hd, k, f, g, l⟩, sh, t, i, co, d⟩ := Z
  have e := q_count1 (R := R) (t := rn 6 t) (u := rn 6 u) (a := tl) (b := ll) (c := iI sh) (d := iI (mk i)) (e := iI co) (f := iI d) (g := iI b)
  exact ⟨_, congrArg (Option.map _) e, R, _, tc, tl, lc, ll, b, pe, hi, rfl, hR, hM, hH, hQ⟩
set_option maxRecDepth 20000 in
set_option maxHeartbeats 1000000 in
theorem t_count2 {Z K : SS} {Q : Nat → (Nat → Nat) → (Nat → Hs) → Prop} {S : Rw} (h : Gp Z K Q S) (hZ : OkS Z) : ∃ S1 : Rw, A_count S 2 = some (S1, iI (Z.2.2.2.2.1 : Int)) ∧ Gp Z K Q S1 := by
  obtain ⟨R, ⟨A1, A2, A3, A4, A5, A6, A7, a1, a2, a3, a4⟩, tc, tl, lc, ll, b, pe, hi, rfl, hR, hM, hH, hQ⟩ := h
  obtain ⟨⟨u, hd, k, f, g, l⟩, sh, t, i, co, d⟩ := Z
  have e := q_count2 (R := R) (t := rn 6 t) (u := rn 6 u) (a := tl) (b := ll) (c := iI sh) (d := iI (mk i)) (e := iI co) (f := iI d) (g := iI b)
  exact ⟨_, congrArg (Option.map _) e, R, _, tc, tl, lc, ll, b, pe, hi, rfl, hR, hM, hH, hQ⟩
set_option maxRecDepth 20000 in
set_option maxHeartbeats 1000000 in
theorem t_count3 {Z K : SS} {Q : Nat → (Nat → Nat) → (Nat → Hs) → Prop} {S : Rw} (h : Gp Z K Q S) (hZ : OkS Z) : ∃ S1 : Rw, A_count S 3 = some (S1, iI (mk Z.2.2.2.1 : Int)) ∧ Gp Z K Q S1 := by
  obtain ⟨R, ⟨A1, A2, A3, A4, A5, A6, A7, a1, a2, a3, a4⟩, tc, tl, lc, ll, b, pe, hi, rfl, hR, hM, hH, hQ⟩ := h
  obtain ⟨⟨u, hd, k, f, g, l⟩, sh, t, i, co, d⟩ := Z
  have e := q_count3 (R := R) (t := rn 6 t) (u := rn 6 u) (a := tl) (b := ll) (c := iI sh) (d := iI (mk i)) (e := iI co) (f := iI d) (g := iI b)
  exact ⟨_, congrArg (Option.map _) e, R, _, tc, tl, lc, ll, b, pe, hi, rfl, hR, hM, hH, hQ⟩
set_option maxRecDepth 20000 in
set_option maxHeartbeats 1000000 in
theorem t_count4 {Z K : SS} {Q : Nat → (Nat → Nat) → (Nat → Hs) → Prop} {S : Rw} (h : Gp Z K Q S) (hZ : OkS Z) : ∃ S1 : Rw, A_count S 4 = some (S1, iI (allk (lk 6 Z.1.1 Z.2.2.1) : Int)) ∧ Gp Z K Q S1 := by
  obtain ⟨R, ⟨A1, A2, A3, A4, A5, A6, A7, a1, a2, a3, a4⟩, tc, tl, lc, ll, b, pe, hi, rfl, hR, hM, hH, hQ⟩ := h
  obtain ⟨⟨u, hd, k, f, g, l⟩, sh, t, i, co, d⟩ := Z
  have e := q_count4 (R := R) (a := tl) (b := ll) (c := iI sh) (d := iI (mk i)) (e := iI co) (f := iI d) (g := iI b) (show ∀ j, u j ≤ 9 from oU (sE hZ)) (show ∀ j, t j ≤ 99 from xT (sX hZ))
  exact ⟨_, congrArg (Option.map _) e, R, _, tc, tl, lc, ll, b, pe, hi, rfl, hR, hM, hH, hQ⟩
/-- so many of a good more are hidden -/
def hidZ (Z : SS) (a : Nat) (n : Int) : SS := ((Z.1.1, upN Z.1.2.1 a ((Z.1.2.1 a : Int) + n).toNat, Z.1.2.2), Z.2.1, (upN Z.2.2.1 a ((Z.2.2.1 a : Int) - n).toNat, Z.2.2.2))
/-- a SHIP is sent out with a load -/
def senZ (Z : SS) (s n : Nat) : SS := ((Z.1.1, Z.1.2.1, Z.1.2.2.1, Z.1.2.2.2.1, Z.1.2.2.2.2.1, upN Z.1.2.2.2.2.2 s n), Z.2.1, (Z.2.2.1, upN Z.2.2.2.1 s 0, Z.2.2.2.2))
/-- n days on -/
def dayZ (Z : SS) (n : Nat) : SS := (Z.1, Z.2.1, daysX Z.1 Z.2.1 0 6 n Z.2.2)
set_option maxRecDepth 20000 in
set_option maxHeartbeats 1000000 in
theorem t_hides {Z K : SS} {Q : Nat → (Nat → Nat) → (Nat → Hs) → Prop} {S : Rw} {a : Nat} {n : Int} (ha : a < 6) (n1 : -(Z.1.2.1 a : Int) ≤ n) (n2 : n ≤ (Z.2.2.1 a : Int)) (n3 : n ≤ 99 - (Z.1.2.1 a : Int)) (n4 : (Z.2.2.1 a : Int) - 99 ≤ n) (h : Gp Z K Q S) (hZ : OkS Z) : ∃ S1 : Rw, A_hides S (iI a) (iI n) = some (S1, iI ((Z.2.2.1 a : Int) - n)) ∧ Gp (hidZ Z a n) K Tr S1 ∧ OkS (hidZ Z a n) := by
  obtain ⟨R, ⟨A1, A2, A3, A4, A5, A6, A7, a1, a2, a3, a4⟩, tc, tl, lc, ll, b, pe, hi, rfl, hR, hM, hH, hQ⟩ := h
  obtain ⟨⟨u, hd, k, f, g, l⟩, sh, t, i, co, d⟩ := Z
  obtain ⟨b1, pe1, hi1, e, k1, k2⟩ := q_hidesOk (R := R) hZ hH ha n1 n2 n3 n4
  exact ⟨_, congrArg (Option.map _) e, ⟨R, _, tc, tl, lc, ll, b1, pe1, hi1, rfl, hR, hM, k2, trivial⟩, k1⟩
set_option maxRecDepth 20000 in
set_option maxHeartbeats 1000000 in
theorem t_sends {Z K : SS} {Q : Nat → (Nat → Nat) → (Nat → Hs) → Prop} {S : Rw} {s n : Nat} (hs : s < Z.2.1) (hn : n ≤ 99) (hi1 : Z.2.2.2.1 s = 1) (h : Gp Z K Q S) (hZ : OkS Z) : ∃ S1 : Rw, A_sends S (iI s) (iI n) = some (S1, iI (Z.1.2.2.2.2.2 s : Int)) ∧ Gp (senZ Z s n) K (Top Z) S1 ∧ OkS (senZ Z s n) := by
  obtain ⟨R, ⟨A1, A2, A3, A4, A5, A6, A7, a1, a2, a3, a4⟩, tc, tl, lc, ll, b, pe, hi, rfl, hR, hM, hH, hQ⟩ := h
  obtain ⟨⟨u, hd, k, f, g, l⟩, sh, t, i, co, d⟩ := Z
  obtain ⟨b1, pe1, hi1, e, k1, k2, k3⟩ := q_sends (R := R) hZ hH hs hn hi1
  exact ⟨_, congrArg (Option.map _) e, ⟨R, _, tc, tl, lc, ll, b1, pe1, hi1, rfl, hR, hM, k2, k3⟩, k1⟩
set_option maxRecDepth 20000 in
set_option maxHeartbeats 1000000 in
theorem t_sendsOut {Z K : SS} {Q : Nat → (Nat → Nat) → (Nat → Hs) → Prop} {S : Rw} {s n : Nat} (hs : s < Z.2.1) (hn : n ≤ 99) (hi0 : Z.2.2.2.1 s = 0) (h : Gp Z K Q S) (hZ : OkS Z) : ∃ S1 : Rw, A_sends S (iI s) (iI n) = some (S1, -3) ∧ Gp Z K Q S1 := by
  obtain ⟨R, ⟨A1, A2, A3, A4, A5, A6, A7, a1, a2, a3, a4⟩, tc, tl, lc, ll, b, pe, hi, rfl, hR, hM, hH, hQ⟩ := h
  obtain ⟨⟨u, hd, k, f, g, l⟩, sh, t, i, co, d⟩ := Z
  have e := q_sendsOut (b := b) (perm := pe) (hist := hi) hZ hR hs hn hi0
  exact ⟨_, congrArg (Option.map _) e, _, _, tc, tl, lc, ll, b, pe, hi, rfl, incR_len.trans hR, hM, hH, hQ⟩
set_option maxRecDepth 20000 in
set_option maxHeartbeats 1000000 in
theorem t_days {Z K : SS} {Q : Nat → (Nat → Nat) → (Nat → Hs) → Prop} {S : Rw} {n : Nat} (hn1 : 1 ≤ n) (hn : n ≤ 60) (hd9 : Z.2.2.2.2.2 + n ≤ 999) (h : Gp Z K Q S) (hZ : OkS Z) : ∃ S1 : Rw, A_days S (iI n) = some (S1, iI (pc (mk (dayZ Z n).2.2.2.1) : Int)) ∧ Gp (dayZ Z n) K (Top Z) S1 ∧ OkS (dayZ Z n) := by
  obtain ⟨R, ⟨A1, A2, A3, A4, A5, A6, A7, a1, a2, a3, a4⟩, tc, tl, lc, ll, b, pe, hi, rfl, hR, hM, hH, hQ⟩ := h
  obtain ⟨⟨u, hd, k, f, g, l⟩, sh, t, i, co, d⟩ := Z
  obtain ⟨b1, pe1, hi1, e, k2, k3⟩ := q_days (R := R) hZ hH hn1 hn hd9
  exact ⟨_, congrArg (Option.map _) e, ⟨R, _, tc, tl, lc, ll, b1, pe1, hi1, rfl, hR, hM, k2, k3⟩, daysX_OkS hZ hd9⟩
set_option maxRecDepth 20000 in
set_option maxHeartbeats 1000000 in
theorem t_back {Z P K : SS} {S : Rw} (h : Gp Z K (Top P) S) : ∃ (S1 : Rw) (v : Nat), A_back S = some (S1, iI (v : Int)) ∧ v ≤ 8 ∧ Gp P K Tr S1 := by
  obtain ⟨R, ⟨A1, A2, A3, A4, A5, A6, A7, a1, a2, a3, a4⟩, tc, tl, lc, ll, b, pe, hi, rfl, hR, hM, hH, hQ⟩ := h
  obtain ⟨⟨u, hd, k, f, g, l⟩, sh, t, i, co, d⟩ := Z
  obtain ⟨⟨u1, hd1, k1, f1, g1, l1⟩, sh1, t1, i1, co1, d1⟩ := P
  have hb := hH.1
  obtain ⟨e, k2⟩ := q_back (R := R) (u := u) (hd := hd) (k := k) (f := f) (g := g) (l := l) (t := t) (i := i) (sh := sh) (co := co) (d := d) hH hQ
  exact ⟨_, b - 1, congrArg (Option.map _) e, by omega, R, _, tc, tl, lc, ll, b - 1, pe, hi, rfl, hR, hM, k2, trivial⟩
set_option maxRecDepth 20000 in
set_option maxHeartbeats 1000000 in
theorem t_restore {Z K : SS} {Q : Nat → (Nat → Nat) → (Nat → Hs) → Prop} {S : Rw} (h : Gp Z K Q S) : ∃ S1 : Rw, A_restore S = some (S1, iI (K.2.2.2.2.2 : Int)) ∧ Gp K K Tr S1 := by
  obtain ⟨R, ⟨A1, A2, A3, A4, A5, A6, A7, a1, a2, a3, a4⟩, tc, tl, lc, ll, b, pe, hi, rfl, hR, hM, hH, hQ⟩ := h
  obtain ⟨⟨u, hd, k, f, g, l⟩, sh, t, i, co, d⟩ := Z
  obtain ⟨⟨u1, hd1, k1, f1, g1, l1⟩, sh1, t1, i1, co1, d1⟩ := K
  have e := q_restore (R := R) (b := b) (u := u) (hd := hd) (k := k) (f := f) (g := g) (l := l) (t := t) (i := i) (sh := sh) (co := co) (d := d) (u1 := u1) (hd1 := hd1) (k1 := k1) (f1 := f1) (g1 := g1) (l1 := l1) (t1 := t1) (i1 := i1) (sh1 := sh1) (co1 := co1) (d1 := d1)
  exact ⟨_, congrArg (Option.map _) e, R, _, tc, tl, lc, ll, 0, pe, hi, rfl, hR, hM, hH.zero, trivial⟩
set_option maxRecDepth 20000 in
set_option maxHeartbeats 1000000 in
theorem p_feed {Z : SS} {S : Rw} (p : Int32) (h : Pw Z S) : ∃ (S1 : Rw) (v : Int32), A_feed S p = some (S1, v) ∧ Pw Z S1 := by
  obtain ⟨R, ⟨A1, A2, A3, A4, A5, A6, A7, a1, a2, a3, a4⟩, ⟨B1, B2, B3, B4, B5, B6, B7, b1, b2, b3, b4⟩, kk, tc, tl, T, n, b, pe, hi, rfl, hR, hM, hK, hH, hn, hT⟩ := h
  obtain ⟨R1, T1, n1, r, e, k1, k2, k3⟩ := q_feed (p := p) hT hn hR
  exact ⟨_, _, congrArg (Option.map _) e, R1, _, (B1, B2, B3, B4, B5, B6, B7, b1, b2, b3, b4), kk, tc, tl, T1, n1, b, pe, hi, rfl, k3, hM, hK, hH, k1, k2⟩
set_option maxRecDepth 20000 in
set_option maxHeartbeats 1000000 in
theorem p_harbour {Z : SS} {S : Rw} (h : Pw Z S) (hZ : OkS Z) : ∃ (Z1 : SS) (S1 : Rw) (v : Int32), A_harbour S = some (S1, v) ∧ Pw Z1 S1 ∧ OkS Z1 := by
  obtain ⟨R, ⟨A1, A2, A3, A4, A5, A6, A7, a1, a2, a3, a4⟩, ⟨B1, B2, B3, B4, B5, B6, B7, b1, b2, b3, b4⟩, kk, tc, tl, T, n, b, pe, hi, rfl, hR, hM, hK, hH, hn, hT⟩ := h
  obtain ⟨⟨u, hd, k, f, g, l⟩, sh, t, i, co, d⟩ := Z
  obtain ⟨Mz, Z1, c1, r, e, k1, k2, k3⟩ := q_harbour hM hZ hH hT hn
  exact ⟨Z1, _, _, congrArg (Option.map _) e, ⟨R, Mz, (B1, B2, B3, B4, B5, B6, B7, b1, b2, b3, b4), kk, tc, tl, T, 0, c1, pe, hi, rfl, hR, k1, hK, k3, Nat.zero_le _, hT⟩, k2⟩
set_option maxRecDepth 20000 in
set_option maxHeartbeats 1000000 in
theorem p_hides {Z : SS} {S : Rw} {a : Nat} (q : Int32) (ha : a < 6) (h : Pw Z S) (hZ : OkS Z) : ∃ (Z1 : SS) (S1 : Rw) (v : Int32), A_hides S (iI a) q = some (S1, v) ∧ Pw Z1 S1 ∧ OkS Z1 := by
  obtain ⟨R, ⟨A1, A2, A3, A4, A5, A6, A7, a1, a2, a3, a4⟩, ⟨B1, B2, B3, B4, B5, B6, B7, b1, b2, b3, b4⟩, kk, tc, tl, T, n, b, pe, hi, rfl, hR, hM, hK, hH, hn, hT⟩ := h
  obtain ⟨⟨u, hd, k, f, g, l⟩, sh, t, i, co, d⟩ := Z
  rcases q_hides (q := q) hZ hH hR ha with ⟨m, c1, pe1, hi1, -, -, -, e, k1, k2⟩ | e
  · exact ⟨_, _, _, congrArg (Option.map _) e, ⟨R, _, (B1, B2, B3, B4, B5, B6, B7, b1, b2, b3, b4), kk, tc, tl, T, n, c1, pe1, hi1, rfl, hR, hM, hK, k2, hn, hT⟩, k1⟩
  · exact ⟨_, _, _, congrArg (Option.map _) e, ⟨_, _, (B1, B2, B3, B4, B5, B6, B7, b1, b2, b3, b4), kk, tc, tl, T, n, b, pe, hi, rfl, incR_len.trans hR, hM, hK, hH, hn, hT⟩, hZ⟩
set_option maxRecDepth 20000 in
set_option maxHeartbeats 1000000 in
theorem p_days {Z : SS} {S : Rw} (q : Int32) (h : Pw Z S) (hZ : OkS Z) : ∃ (Z1 : SS) (S1 : Rw) (v : Int32), A_days S q = some (S1, v) ∧ Pw Z1 S1 ∧ OkS Z1 := by
  obtain ⟨R, ⟨A1, A2, A3, A4, A5, A6, A7, a1, a2, a3, a4⟩, ⟨B1, B2, B3, B4, B5, B6, B7, b1, b2, b3, b4⟩, kk, tc, tl, T, n, b, pe, hi, rfl, hR, hM, hK, hH, hn, hT⟩ := h
  obtain ⟨⟨u, hd, k, f, g, l⟩, sh, t, i, co, d⟩ := Z
  obtain ⟨R1, t1, i1, co1, d1, c1, pe1, hi1, r, e, k1, k2, k3⟩ := q_daysAny (p := q) hZ hH hR
  exact ⟨_, _, _, congrArg (Option.map _) e, ⟨R1, _, (B1, B2, B3, B4, B5, B6, B7, b1, b2, b3, b4), kk, tc, tl, T, n, c1, pe1, hi1, rfl, k3, hM, hK, k2, hn, hT⟩, k1⟩
set_option maxRecDepth 20000 in
set_option maxHeartbeats 1000000 in
theorem p_good0 {Z : SS} {S : Rw} {a : Nat} (ha : a < 6) (h : Pw Z S) : ∃ S1 : Rw, A_good S (iI a) 0 = some (S1, iI (Z.2.2.1 a : Int)) ∧ Pw Z S1 := by
  obtain ⟨R, ⟨A1, A2, A3, A4, A5, A6, A7, a1, a2, a3, a4⟩, ⟨B1, B2, B3, B4, B5, B6, B7, b1, b2, b3, b4⟩, kk, tc, tl, T, n, b, pe, hi, rfl, hR, hM, hK, hH, hn, hT⟩ := h
  obtain ⟨⟨u, hd, k, f, g, l⟩, sh, t, i, co, d⟩ := Z
  have e := q_good0 (R := R) (t := t) (u := u) (hd := hd) ha
  exact ⟨_, congrArg (Option.map _) e, R, _, (B1, B2, B3, B4, B5, B6, B7, b1, b2, b3, b4), kk, tc, tl, T, n, b, pe, hi, rfl, hR, hM, hK, hH, hn, hT⟩
set_option maxRecDepth 20000 in
set_option maxHeartbeats 1000000 in
theorem p_count0 {Z : SS} {S : Rw} (h : Pw Z S) : ∃ S1 : Rw, A_count S 0 = some (S1, iI (Z.2.1 : Int)) ∧ Pw Z S1 := by
  obtain ⟨R, ⟨A1, A2, A3, A4, A5, A6, A7, a1, a2, a3, a4⟩, ⟨B1, B2, B3, B4, B5, B6, B7, b1, b2, b3, b4⟩, kk, tc, tl, T, n, b, pe, hi, rfl, hR, hM, hK, hH, hn, hT⟩ := h
  obtain ⟨⟨u, hd, k, f, g, l⟩, sh, t, i, co, d⟩ := Z
  have e := q_count0 (R := R) (t := rn 6 t) (u := rn 6 u) (a := tl) (b := iI n) (c := iI sh) (d := iI (mk i)) (e := iI co) (f := iI d) (g := iI b)
  exact ⟨_, congrArg (Option.map _) e, R, _, (B1, B2, B3, B4, B5, B6, B7, b1, b2, b3, b4), kk, tc, tl, T, n, b, pe, hi, rfl, hR, hM, hK, hH, hn, hT⟩
set_option maxRecDepth 20000 in
set_option maxHeartbeats 1000000 in
theorem p_count1 {Z : SS} {S : Rw} (h : Pw Z S) : ∃ S1 : Rw, A_count S 1 = some (S1, iI (Z.2.2.2.2.2 : Int)) ∧ Pw Z S1 := by
  obtain ⟨R, ⟨A1, A2, A3, A4, A5, A6, A7, a1, a2, a3, a4⟩, ⟨B1, B2, B3, B4, B5, B6, B7, b1, b2, b3, b4⟩, kk, tc, tl, T, n, b, pe, hi, rfl, hR, hM, hK, hH, hn, hT⟩ := h
  obtain ⟨⟨u, hd, k, f, g, l⟩, sh, t, i, co, d⟩ := Z
  have e := q_count1 (R := R) (t := rn 6 t) (u := rn 6 u) (a := tl) (b := iI n) (c := iI sh) (d := iI (mk i)) (e := iI co) (f := iI d) (g := iI b)
  exact ⟨_, congrArg (Option.map _) e, R, _, (B1, B2, B3, B4, B5, B6, B7, b1, b2, b3, b4), kk, tc, tl, T, n, b, pe, hi, rfl, hR, hM, hK, hH, hn, hT⟩
set_option maxRecDepth 20000 in
set_option maxHeartbeats 1000000 in
theorem p_count2 {Z : SS} {S : Rw} (h : Pw Z S) : ∃ S1 : Rw, A_count S 2 = some (S1, iI (Z.2.2.2.2.1 : Int)) ∧ Pw Z S1 := by
  obtain ⟨R, ⟨A1, A2, A3, A4, A5, A6, A7, a1, a2, a3, a4⟩, ⟨B1, B2, B3, B4, B5, B6, B7, b1, b2, b3, b4⟩, kk, tc, tl, T, n, b, pe, hi, rfl, hR, hM, hK, hH, hn, hT⟩ := h
  obtain ⟨⟨u, hd, k, f, g, l⟩, sh, t, i, co, d⟩ := Z
  have e := q_count2 (R := R) (t := rn 6 t) (u := rn 6 u) (a := tl) (b := iI n) (c := iI sh) (d := iI (mk i)) (e := iI co) (f := iI d) (g := iI b)
  exact ⟨_, congrArg (Option.map _) e, R, _, (B1, B2, B3, B4, B5, B6, B7, b1, b2, b3, b4), kk, tc, tl, T, n, b, pe, hi, rfl, hR, hM, hK, hH, hn, hT⟩
set_option maxRecDepth 20000 in
set_option maxHeartbeats 1000000 in
theorem p_count3 {Z : SS} {S : Rw} (h : Pw Z S) : ∃ S1 : Rw, A_count S 3 = some (S1, iI (mk Z.2.2.2.1 : Int)) ∧ Pw Z S1 := by
  obtain ⟨R, ⟨A1, A2, A3, A4, A5, A6, A7, a1, a2, a3, a4⟩, ⟨B1, B2, B3, B4, B5, B6, B7, b1, b2, b3, b4⟩, kk, tc, tl, T, n, b, pe, hi, rfl, hR, hM, hK, hH, hn, hT⟩ := h
  obtain ⟨⟨u, hd, k, f, g, l⟩, sh, t, i, co, d⟩ := Z
  have e := q_count3 (R := R) (t := rn 6 t) (u := rn 6 u) (a := tl) (b := iI n) (c := iI sh) (d := iI (mk i)) (e := iI co) (f := iI d) (g := iI b)
  exact ⟨_, congrArg (Option.map _) e, R, _, (B1, B2, B3, B4, B5, B6, B7, b1, b2, b3, b4), kk, tc, tl, T, n, b, pe, hi, rfl, hR, hM, hK, hH, hn, hT⟩
set_option maxRecDepth 20000 in
set_option maxHeartbeats 1000000 in
theorem p_count4 {Z : SS} {S : Rw} (h : Pw Z S) (hZ : OkS Z) : ∃ S1 : Rw, A_count S 4 = some (S1, iI (allk (lk 6 Z.1.1 Z.2.2.1) : Int)) ∧ Pw Z S1 := by
  obtain ⟨R, ⟨A1, A2, A3, A4, A5, A6, A7, a1, a2, a3, a4⟩, ⟨B1, B2, B3, B4, B5, B6, B7, b1, b2, b3, b4⟩, kk, tc, tl, T, n, b, pe, hi, rfl, hR, hM, hK, hH, hn, hT⟩ := h
  obtain ⟨⟨u, hd, k, f, g, l⟩, sh, t, i, co, d⟩ := Z
  have e := q_count4 (R := R) (a := tl) (b := iI n) (c := iI sh) (d := iI (mk i)) (e := iI co) (f := iI d) (g := iI b) (show ∀ j, u j ≤ 9 from oU (sE hZ)) (show ∀ j, t j ≤ 99 from xT (sX hZ))
  exact ⟨_, congrArg (Option.map _) e, R, _, (B1, B2, B3, B4, B5, B6, B7, b1, b2, b3, b4), kk, tc, tl, T, n, b, pe, hi, rfl, hR, hM, hK, hH, hn, hT⟩
set_option maxRecDepth 20000 in
set_option maxHeartbeats 1000000 in
theorem p_image {Z : SS} {S : Rw} (h : Pw Z S) : ∃ (S1 : Rw) (v : Int32), A_image S = some (S1, v) ∧ Gp Z Z Tr S1 := by
  obtain ⟨R, ⟨A1, A2, A3, A4, A5, A6, A7, a1, a2, a3, a4⟩, ⟨B1, B2, B3, B4, B5, B6, B7, b1, b2, b3, b4⟩, kk, tc, tl, T, n, b, pe, hi, rfl, hR, hM, hK, hH, hn, hT⟩ := h
  obtain ⟨⟨u, hd, k, f, g, l⟩, sh, t, i, co, d⟩ := Z
  have e := q_image (u := u) (hd := hd) (k := k) (f := f) (g := g) (l := l) (t := t) (i := i) (sh := sh) (co := co) (d := d) (kk := kk) hK
  exact ⟨_, _, congrArg (Option.map _) e, R, _, tc, tl, rn 96 T, iI (n : Int), b, pe, hi, rfl, hR, hM, hH, trivial⟩
