/-! TWO houses -/
def tH (t : Nat → Nat) (a x : Nat) : Nat → Nat := if x = 0 then t else upN t a (t a - min 10 (t a))
def hH (t hd : Nat → Nat) (a x : Nat) : Nat → Nat := if x = 0 then hd else upN hd a (hd a + min 10 (t a))
def tK (t : Nat → Nat) (a b k : Nat) : Nat → Nat := tH (tH t a (k / 2)) b (k % 2)
def hK (t hd : Nat → Nat) (a b k : Nat) : Nat → Nat := hH (tH t a (k / 2)) (hH t hd a (k / 2)) b (k % 2)
/-- what the first house is short of, and the second -/
def cA (e : Env) (sh a b N : Nat) (x : XX) (k : Nat) : Nat := lk 6 e.1 (daysX (e.1, hK x.1 e.2.1 a b k, e.2.2) sh 0 6 N (tK x.1 a b k, x.2)).1 a + 5 * (k / 2)
def cB (e : Env) (sh a b N : Nat) (x : XX) (k : Nat) : Nat := lk 6 e.1 (daysX (e.1, hK x.1 e.2.1 a b k, e.2.2) sh 0 6 N (tK x.1 a b k, x.2)).1 b + 5 * (k % 2)
set_option maxRecDepth 20000 in
set_option maxHeartbeats 400000 in
theorem tH_le {t : Nat → Nat} {a x : Nat} (ht : ∀ j, t j ≤ 99) (j : Nat) : tH t a x j ≤ 99 := by
  have := ht a
  unfold tH
  split
  · exact ht j
  · exact upN_le ht (by omega) j
set_option maxRecDepth 20000 in
set_option maxHeartbeats 400000 in
theorem hH_le {t hd : Nat → Nat} {a x m : Nat} (hh : ∀ j, hd j ≤ m) (j : Nat) : hH t hd a x j ≤ m + 10 := by
  have := hh a
  unfold hH
  split
  · exact Nat.le_trans (hh j) (by omega)
  · exact upN_le (fun j => Nat.le_trans (hh j) (by omega)) (by omega) j
set_option maxRecDepth 20000 in
set_option maxHeartbeats 400000 in
theorem tK_le {t : Nat → Nat} {a b k : Nat} (ht : ∀ j, t j ≤ 99) (j : Nat) : tK t a b k j ≤ 99 := tH_le (tH_le ht) j
set_option maxRecDepth 20000 in
set_option maxHeartbeats 400000 in
theorem hK_le {t hd : Nat → Nat} {a b k : Nat} (hh : ∀ j, hd j ≤ 99) (j : Nat) : hK t hd a b k j ≤ 1000 := Nat.le_trans (hH_le (m := 109) (hH_le (m := 99) hh) j) (by omega)
set_option maxRecDepth 20000 in
set_option maxHeartbeats 400000 in
theorem s_hideTen {t hd : Nat → Nat} {a : Nat} (ha : a < 6) (ht : t a ≤ 99) : X0_hideAway (rn 6 t) (rn 6 hd) (iI (a : Int)) (mmin (10 : Int32) (iI (t a : Int))) = some (rn 6 (upN t a (t a - min 10 (t a))), rn 6 (upN hd a (hd a + min 10 (t a)))) := by
  have h := (s_hideAway (t := t) (hd := hd) (a := a) (n := ((min 10 (t a) : Nat) : Int)) ha (by omega) (by omega)).1
  rw [show ((t a : Int) - ((min 10 (t a) : Nat) : Int)).toNat = t a - min 10 (t a) by omega, show ((hd a : Int) + ((min 10 (t a) : Nat) : Int)).toNat = hd a + min 10 (t a) by omega] at h
  rw [L10, mmin_iI (by omega) (by omega) (by omega) (by omega), show (min 10 (t a : Int)) = ((min 10 (t a) : Nat) : Int) by omega]
  exact h
set_option maxRecDepth 20000 in
set_option maxHeartbeats 400000 in
theorem exMe {B1 B2 B3 B4 B5 B6 B7 : List Int32} {b1 b2 b3 b4 r v : Int32} (e : r = v) (h : MJ (B1, B2, B3, B4, B5, B6, B7, b1, b2, b3, b4)) : ∃ Mz : Hs, some (B1, B2, B3, B4, B5, B6, B7, b1, b2, b3, b4, r) = some (Mz.1, Mz.2.1, Mz.2.2.1, Mz.2.2.2.1, Mz.2.2.2.2.1, Mz.2.2.2.2.2.1, Mz.2.2.2.2.2.2.1, Mz.2.2.2.2.2.2.2.1, Mz.2.2.2.2.2.2.2.2.1, Mz.2.2.2.2.2.2.2.2.2.1, Mz.2.2.2.2.2.2.2.2.2.2, v) ∧ MJ Mz := by
  subst e
  exact exM h
set_option maxRecDepth 20000 in
set_option maxHeartbeats 400000 in
theorem s_loss2 {A1 A2 A3 A4 A5 A6 A7 : List Int32} {a1 a2 a3 a4 : Int32} {u hd k f g l t i : Nat → Nat} {sh co d : Nat} {a b N kk : Nat} (hM : MJ (A1, A2, A3, A4, A5, A6, A7, a1, a2, a3, a4)) (hE : OkE (u, hd, k, f, g, l)) (hhd : ∀ j, hd j ≤ 99) (hsh : sh ≤ 7) (hX : OkX 1000 (t, i, co, d)) (ha : a < 6) (hb : b < 6) (hN : N ≤ 60) (hk : kk < 4) : ∃ Mz : Hs, X4_loss A1 A2 A3 A4 A5 A6 A7 (rn 6 t) (rn 6 u) (rn 6 hd) (rn 7 k) (rn 7 f) (rn 7 g) (rn 7 l) a1 a2 a3 a4 (iI sh) (iI (mk i)) (iI co) (iI d) 2 (iI (a : Int)) (iI (b : Int)) (iI (N : Int)) (iI (kk : Int)) = some (Mz.1, Mz.2.1, Mz.2.2.1, Mz.2.2.2.1, Mz.2.2.2.2.1, Mz.2.2.2.2.2.1, Mz.2.2.2.2.2.2.1, Mz.2.2.2.2.2.2.2.1, Mz.2.2.2.2.2.2.2.2.1, Mz.2.2.2.2.2.2.2.2.2.1, Mz.2.2.2.2.2.2.2.2.2.2, iI (cA (u, hd, k, f, g, l) sh a b N (t, i, co, d) kk : Int)) ∧ MJ Mz := by
  have ht := xT hX
  have hE2 : OkE (u, hK t hd a b kk, k, f, g, l) := hE.hd1 (hK_le hhd)
  have hX2 : OkX 1500 (tK t a b kk, i, co, d) := (hX.mono (by omega)).t1 (tK_le ht)
  have hz := daysX_ok (e := (u, hK t hd a b kk, k, f, g, l)) (sh := sh) (b := 0) (fr := 6) N 1500 _ hX2
  have w0 := s_X0_passDays (N := N) hE2 hsh (by omega) hX2
  have w1 := s_X0_lackOf (a := (a : Int)) (oU hE) hz.1 (by omega) (by omega)
  rw [Int.toNat_natCast] at w1
  have ec : cA (u, hd, k, f, g, l) sh a b N (t, i, co, d) kk = lk 6 u (daysX (u, hK t hd a b kk, k, f, g, l) sh 0 6 N (tK t a b kk, i, co, d)).1 a + 5 * (kk / 2) := rfl
  rw [ec]
  generalize hD : daysX (u, hK t hd a b kk, k, f, g, l) sh 0 6 N (tK t a b kk, i, co, d) = D at w0 w1 ⊢
  obtain ⟨a1, a2⟩ : (iI (kk : Int) &&& (2 : Int32)) = iI ((2 * (kk / 2) : Nat) : Int) ∧ (iI (kk : Int) &&& (1 : Int32)) = iI ((kk % 2 : Nat) : Int) := by
    rcases (by omega : kk = 0 ∨ kk = 1 ∨ kk = 2 ∨ kk = 3) with rfl | rfl | rfl | rfl <;> exact ⟨by decide, by decide⟩
  unfold X4_loss
  rw [s_X4_fromNow hM, Option.bind_some]
  by_cases x0 : kk / 2 = 0
  · have q1 : (iI (kk : Int) &&& (2 : Int32)) = 0 := by rw [a1, x0]; decide
    by_cases y0 : kk % 2 = 0
    · have q2 : (iI (kk : Int) &&& (1 : Int32)) = 0 := by rw [a2, y0]; decide
      have eT : tK t a b kk = t := by unfold tK tH; rw [if_pos y0, if_pos x0]
      have eH : hK t hd a b kk = hd := by unfold hK hH; rw [if_pos y0, if_pos x0]
      rw [eT, eH] at w0
      rw [if_pos q1, if_pos q2, w0, Option.bind_some, if_pos (show (2 : Int32) = 2 from rfl), w1, Option.bind_some, if_pos q1]
      exact exMe (iI_c (by omega)) ⟨rn_len, rn_len, rn_len, rn_len, rn_len, rn_len, rn_len⟩
    · have q2 : ¬ (iI (kk : Int) &&& (1 : Int32)) = 0 := by rw [a2]; exact ne0 (by omega) (by omega)
      have eT : tK t a b kk = upN t b (t b - min 10 (t b)) := by unfold tK tH; rw [if_neg y0, if_pos x0]
      have eH : hK t hd a b kk = upN hd b (hd b + min 10 (t b)) := by unfold hK hH tH; rw [if_neg y0, if_pos x0, if_pos x0]
      rw [eT, eH] at w0
      rw [if_pos q1, if_neg q2, rd_rn (by omega) (by omega) (by omega), Option.bind_some, Int.toNat_natCast, s_hideTen hb (ht b), Option.bind_some, w0, Option.bind_some, if_pos (show (2 : Int32) = 2 from rfl), w1, Option.bind_some, if_pos q1]
      exact exMe (iI_c (by omega)) ⟨rn_len, rn_len, rn_len, rn_len, rn_len, rn_len, rn_len⟩
  · have q1 : ¬ (iI (kk : Int) &&& (2 : Int32)) = 0 := by rw [a1]; exact ne0 (by omega) (by omega)
    have ht1 : ∀ j, upN t a (t a - min 10 (t a)) j ≤ 99 := fun j => upN_le ht (by have := ht a; omega) j
    by_cases y0 : kk % 2 = 0
    · have q2 : (iI (kk : Int) &&& (1 : Int32)) = 0 := by rw [a2, y0]; decide
      have eT : tK t a b kk = upN t a (t a - min 10 (t a)) := by unfold tK tH; rw [if_pos y0, if_neg x0]
      have eH : hK t hd a b kk = upN hd a (hd a + min 10 (t a)) := by unfold hK hH; rw [if_pos y0, if_neg x0]
      rw [eT, eH] at w0
      rw [if_neg q1, rd_rn (by omega) (by omega) (by omega), Option.bind_some, Int.toNat_natCast, s_hideTen ha (ht a), Option.bind_some, if_pos q2, w0, Option.bind_some, if_pos (show (2 : Int32) = 2 from rfl), w1, Option.bind_some, if_neg q1]
      exact exMe (by rw [L5, iI_add]; exact iI_c (by omega)) ⟨rn_len, rn_len, rn_len, rn_len, rn_len, rn_len, rn_len⟩
    · have q2 : ¬ (iI (kk : Int) &&& (1 : Int32)) = 0 := by rw [a2]; exact ne0 (by omega) (by omega)
      have eT : tK t a b kk = upN (upN t a (t a - min 10 (t a))) b (upN t a (t a - min 10 (t a)) b - min 10 (upN t a (t a - min 10 (t a)) b)) := by unfold tK tH; rw [if_neg y0, if_neg x0]
      have eH : hK t hd a b kk = upN (upN hd a (hd a + min 10 (t a))) b (upN hd a (hd a + min 10 (t a)) b + min 10 (upN t a (t a - min 10 (t a)) b)) := by unfold hK hH tH; rw [if_neg y0, if_neg x0, if_neg x0]
      rw [eT, eH] at w0
      rw [if_neg q1, rd_rn (by omega) (by omega) (by omega), Option.bind_some, Int.toNat_natCast, s_hideTen ha (ht a), Option.bind_some, if_neg q2, rd_rn (by omega) (by omega) (by omega), Option.bind_some, Int.toNat_natCast, s_hideTen hb (ht1 b), Option.bind_some, w0, Option.bind_some, if_pos (show (2 : Int32) = 2 from rfl), w1, Option.bind_some, if_neg q1]
      exact exMe (by rw [L5, iI_add]; exact iI_c (by omega)) ⟨rn_len, rn_len, rn_len, rn_len, rn_len, rn_len, rn_len⟩
set_option maxRecDepth 20000 in
set_option maxHeartbeats 400000 in
theorem s_loss1 {A1 A2 A3 A4 A5 A6 A7 : List Int32} {a1 a2 a3 a4 : Int32} {u hd k f g l t i : Nat → Nat} {sh co d : Nat} {a b N kk : Nat} (hM : MJ (A1, A2, A3, A4, A5, A6, A7, a1, a2, a3, a4)) (hE : OkE (u, hd, k, f, g, l)) (hhd : ∀ j, hd j ≤ 99) (hsh : sh ≤ 7) (hX : OkX 1000 (t, i, co, d)) (ha : a < 6) (hb : b < 6) (hN : N ≤ 60) (hk : kk < 4) : ∃ Mz : Hs, X4_loss A1 A2 A3 A4 A5 A6 A7 (rn 6 t) (rn 6 u) (rn 6 hd) (rn 7 k) (rn 7 f) (rn 7 g) (rn 7 l) a1 a2 a3 a4 (iI sh) (iI (mk i)) (iI co) (iI d) 1 (iI (a : Int)) (iI (b : Int)) (iI (N : Int)) (iI (kk : Int)) = some (Mz.1, Mz.2.1, Mz.2.2.1, Mz.2.2.2.1, Mz.2.2.2.2.1, Mz.2.2.2.2.2.1, Mz.2.2.2.2.2.2.1, Mz.2.2.2.2.2.2.2.1, Mz.2.2.2.2.2.2.2.2.1, Mz.2.2.2.2.2.2.2.2.2.1, Mz.2.2.2.2.2.2.2.2.2.2, iI (cB (u, hd, k, f, g, l) sh a b N (t, i, co, d) kk : Int)) ∧ MJ Mz := by
  have ht := xT hX
  have hE2 : OkE (u, hK t hd a b kk, k, f, g, l) := hE.hd1 (hK_le hhd)
  have hX2 : OkX 1500 (tK t a b kk, i, co, d) := (hX.mono (by omega)).t1 (tK_le ht)
  have hz := daysX_ok (e := (u, hK t hd a b kk, k, f, g, l)) (sh := sh) (b := 0) (fr := 6) N 1500 _ hX2
  have w0 := s_X0_passDays (N := N) hE2 hsh (by omega) hX2
  have w1 := s_X0_lackOf (a := (b : Int)) (oU hE) hz.1 (by omega) (by omega)
  rw [Int.toNat_natCast] at w1
  have ec : cB (u, hd, k, f, g, l) sh a b N (t, i, co, d) kk = lk 6 u (daysX (u, hK t hd a b kk, k, f, g, l) sh 0 6 N (tK t a b kk, i, co, d)).1 b + 5 * (kk % 2) := rfl
  rw [ec]
  generalize hD : daysX (u, hK t hd a b kk, k, f, g, l) sh 0 6 N (tK t a b kk, i, co, d) = D at w0 w1 ⊢
  obtain ⟨a1, a2⟩ : (iI (kk : Int) &&& (2 : Int32)) = iI ((2 * (kk / 2) : Nat) : Int) ∧ (iI (kk : Int) &&& (1 : Int32)) = iI ((kk % 2 : Nat) : Int) := by
    rcases (by omega : kk = 0 ∨ kk = 1 ∨ kk = 2 ∨ kk = 3) with rfl | rfl | rfl | rfl <;> exact ⟨by decide, by decide⟩
  unfold X4_loss
  rw [s_X4_fromNow hM, Option.bind_some]
  by_cases x0 : kk / 2 = 0
  · have q1 : (iI (kk : Int) &&& (2 : Int32)) = 0 := by rw [a1, x0]; decide
    by_cases y0 : kk % 2 = 0
    · have q2 : (iI (kk : Int) &&& (1 : Int32)) = 0 := by rw [a2, y0]; decide
      have eT : tK t a b kk = t := by unfold tK tH; rw [if_pos y0, if_pos x0]
      have eH : hK t hd a b kk = hd := by unfold hK hH; rw [if_pos y0, if_pos x0]
      rw [eT, eH] at w0
      rw [if_pos q1, if_pos q2, w0, Option.bind_some, if_neg (show ¬ (1 : Int32) = 2 by decide), w1, Option.bind_some, if_pos q2]
      exact exMe (iI_c (by omega)) ⟨rn_len, rn_len, rn_len, rn_len, rn_len, rn_len, rn_len⟩
    · have q2 : ¬ (iI (kk : Int) &&& (1 : Int32)) = 0 := by rw [a2]; exact ne0 (by omega) (by omega)
      have eT : tK t a b kk = upN t b (t b - min 10 (t b)) := by unfold tK tH; rw [if_neg y0, if_pos x0]
      have eH : hK t hd a b kk = upN hd b (hd b + min 10 (t b)) := by unfold hK hH tH; rw [if_neg y0, if_pos x0, if_pos x0]
      rw [eT, eH] at w0
      rw [if_pos q1, if_neg q2, rd_rn (by omega) (by omega) (by omega), Option.bind_some, Int.toNat_natCast, s_hideTen hb (ht b), Option.bind_some, w0, Option.bind_some, if_neg (show ¬ (1 : Int32) = 2 by decide), w1, Option.bind_some, if_neg q2]
      exact exMe (by rw [L5, iI_add]; exact iI_c (by omega)) ⟨rn_len, rn_len, rn_len, rn_len, rn_len, rn_len, rn_len⟩
  · have q1 : ¬ (iI (kk : Int) &&& (2 : Int32)) = 0 := by rw [a1]; exact ne0 (by omega) (by omega)
    have ht1 : ∀ j, upN t a (t a - min 10 (t a)) j ≤ 99 := fun j => upN_le ht (by have := ht a; omega) j
    by_cases y0 : kk % 2 = 0
    · have q2 : (iI (kk : Int) &&& (1 : Int32)) = 0 := by rw [a2, y0]; decide
      have eT : tK t a b kk = upN t a (t a - min 10 (t a)) := by unfold tK tH; rw [if_pos y0, if_neg x0]
      have eH : hK t hd a b kk = upN hd a (hd a + min 10 (t a)) := by unfold hK hH; rw [if_pos y0, if_neg x0]
      rw [eT, eH] at w0
      rw [if_neg q1, rd_rn (by omega) (by omega) (by omega), Option.bind_some, Int.toNat_natCast, s_hideTen ha (ht a), Option.bind_some, if_pos q2, w0, Option.bind_some, if_neg (show ¬ (1 : Int32) = 2 by decide), w1, Option.bind_some, if_pos q2]
      exact exMe (iI_c (by omega)) ⟨rn_len, rn_len, rn_len, rn_len, rn_len, rn_len, rn_len⟩
    · have q2 : ¬ (iI (kk : Int) &&& (1 : Int32)) = 0 := by rw [a2]; exact ne0 (by omega) (by omega)
      have eT : tK t a b kk = upN (upN t a (t a - min 10 (t a))) b (upN t a (t a - min 10 (t a)) b - min 10 (upN t a (t a - min 10 (t a)) b)) := by unfold tK tH; rw [if_neg y0, if_neg x0]
      have eH : hK t hd a b kk = upN (upN hd a (hd a + min 10 (t a))) b (upN hd a (hd a + min 10 (t a)) b + min 10 (upN t a (t a - min 10 (t a)) b)) := by unfold hK hH tH; rw [if_neg y0, if_neg x0, if_neg x0]
      rw [eT, eH] at w0
      rw [if_neg q1, rd_rn (by omega) (by omega) (by omega), Option.bind_some, Int.toNat_natCast, s_hideTen ha (ht a), Option.bind_some, if_neg q2, rd_rn (by omega) (by omega) (by omega), Option.bind_some, Int.toNat_natCast, s_hideTen hb (ht1 b), Option.bind_some, w0, Option.bind_some, if_neg (show ¬ (1 : Int32) = 2 by decide), w1, Option.bind_some, if_neg q2]
      exact exMe (by rw [L5, iI_add]; exact iI_c (by omega)) ⟨rn_len, rn_len, rn_len, rn_len, rn_len, rn_len, rn_len⟩
set_option maxRecDepth 20000 in
set_option maxHeartbeats 400000 in
theorem s_X5_hidesTen {t hd : Nat → Nat} {a x : Nat} (ha : a < 6) (ht : t a ≤ 99) (hx : x ≤ 1) : X5_hidesTen (rn 6 t) (rn 6 hd) (iI (a : Int)) (iI (x : Int)) = some (rn 6 (tH t a x), rn 6 (hH t hd a x)) := by
  have h0 := (s_hideAway (t := t) (hd := hd) (a := a) (n := 0) ha (by omega) (by omega)).2
  rw [show ((t a : Int) - 0).toNat = t a by omega, show ((hd a : Int) + 0).toNat = hd a by omega, upN_id, upN_id, ← L0] at h0
  have h1 := (s_hideAway (t := t) (hd := hd) (a := a) (n := ((min 10 (t a) : Nat) : Int)) ha (by omega) (by omega)).2
  rw [show ((t a : Int) - ((min 10 (t a) : Nat) : Int)).toNat = t a - min 10 (t a) by omega, show ((hd a : Int) + ((min 10 (t a) : Nat) : Int)).toNat = hd a + min 10 (t a) by omega] at h1
  unfold X5_hidesTen tH hH
  rw [rd_rn (by omega) (by omega) (by omega), Option.bind_some, Int.toNat_natCast]
  by_cases c : 10 ≤ t a
  · rw [if_pos (show (10 : Int32) ≤ iI (t a : Int) by rw [L10]; exact tle (by omega) (by omega) (by omega))]
    by_cases x0 : x = 0
    · rw [if_pos (show iI (x : Int) = (0 : Int32) by rw [x0]; decide), h0, Option.bind_some, if_pos x0, if_pos x0]
    · rw [show ((min 10 (t a) : Nat) : Int) = 10 by omega, ← L10] at h1
      rw [if_neg (show ¬ iI (x : Int) = (0 : Int32) from ne0 (by omega) (by omega)), h1, Option.bind_some, if_neg x0, if_neg x0]
  · rw [if_neg (show ¬ (10 : Int32) ≤ iI (t a : Int) by rw [L10]; exact fle (by omega) (by omega) (by omega)), Option.bind_some]
    by_cases x0 : x = 0
    · rw [if_pos (show iI (x : Int) = (0 : Int32) by rw [x0]; decide), h0, Option.bind_some, if_pos x0, if_pos x0]
    · rw [show ((min 10 (t a) : Nat) : Int) = (t a : Int) by omega] at h1
      rw [if_neg (show ¬ iI (x : Int) = (0 : Int32) from ne0 (by omega) (by omega)), h1, Option.bind_some, if_neg x0, if_neg x0]
/-- the costs, one behind the other -/
def cC (e : Env) (sh a b N : Nat) (x : XX) : Nat → Int32 := fun j => if j % 2 = 0 then iI (cA e sh a b N x (j / 2) : Int) else iI (cB e sh a b N x (j / 2) : Int)
set_option maxRecDepth 20000 in
set_option maxHeartbeats 400000 in
theorem l_costs {u hd k f g l t i : Nat → Nat} {sh co d : Nat} {a b N : Nat} {F0 : Nat → Int32} (hE : OkE (u, hd, k, f, g, l)) (hhd : ∀ j, hd j ≤ 99) (hsh : sh ≤ 7) (hX : OkX 1000 (t, i, co, d)) (ha : a < 6) (hb : b < 6) (hN : N ≤ 60) : ∀ (r s n : Nat) {x z1 z2 : Int32} {F C : Nat → Int32}, x = iI (s : Int) → s + r = 4 → r < n → Kp F0 F → (∀ j, j < 2 * s → C j = cC (u, hd, k, f, g, l) sh a b N (t, i, co, d) j) →
    ∃ (F1 C1 : Nat → Int32) (y1 y2 : Int32), X5_findCosts_L3 (fun there_19 used_20 hidden_21 kind_22 figure_23 good_24 load_25 inn_26 kept_27 costs_28 ships_29 coughs_30 day_31 isKeeping_32 cursor_33 => some (there_19, used_20, hidden_21, kind_22, figure_23, good_24, load_25, inn_26, kept_27, costs_28, ships_29, coughs_30, day_31, isKeeping_32, cursor_33)) 0 (iI (fI 6)) (iI (a : Int)) (iI (b : Int)) (iI (N : Int)) n x (rn 6 t) (rn 6 u) (rn 6 hd) (rn 7 k) (rn 7 f) (rn 7 g) (rn 7 l) (rn 7 i) (rq 616 F) (rq 8 C) (iI sh) (iI co) (iI d) z1 z2 = some (rn 6 t, rn 6 u, rn 6 hd, rn 7 k, rn 7 f, rn 7 g, rn 7 l, rn 7 i, rq 616 F1, rq 8 C1, iI sh, iI co, iI d, y1, y2) ∧ Kp F0 F1 ∧ (∀ j, j < 8 → C1 j = cC (u, hd, k, f, g, l) sh a b N (t, i, co, d) j) := by
  have ht := xT hX
  intro r
  induction r with
  | zero =>
    intro s n x z1 z2 F C hx hs hn hkp hC
    obtain ⟨m, rfl⟩ : ∃ m, n = m + 1 := ⟨n - 1, by omega⟩
    subst hx
    obtain rfl : s = 4 := by omega
    rw [X5_findCosts_L3, if_pos (by decide)]
    exact ⟨F, C, z1, z2, rfl, hkp, hC⟩
  | succ r ih =>
    intro s n x z1 z2 F C hx hs hn hkp hC
    obtain ⟨m, rfl⟩ : ∃ m, n = m + 1 := ⟨n - 1, by omega⟩
    subst hx
    have hE2 : OkE (u, hK t hd a b s, k, f, g, l) := hE.hd1 (hK_le hhd)
    have hX2 : OkX 1500 (tK t a b s, i, co, d) := (hX.mono (by omega)).t1 (tK_le ht)
    have hz := daysX_ok (e := (u, hK t hd a b s, k, f, g, l)) (sh := sh) (b := 0) (fr := 6) N 1500 _ hX2
    have g0 := s_X5_goes (b := 0) (fr := 6) (N := N) (by omega) hE2 hsh (by omega) (by omega) hX2
    rw [z00] at g0
    have la := s_X5_lack (fr := 6) (a := (a : Int)) (by omega) (oU hE) hz.1 (by omega) (by omega)
    have lb := s_X5_lack (fr := 6) (a := (b : Int)) (by omega) (oU hE) hz.1 (by omega) (by omega)
    rw [Int.toNat_natCast] at la lb
    obtain ⟨d1, d2, d3⟩ : iI (s : Int) / (2 : Int32) = iI ((s / 2 : Nat) : Int) ∧ iI (s : Int) - iI ((s / 2 : Nat) : Int) * 2 = iI ((s % 2 : Nat) : Int) ∧ (2 : Int32) * iI (s : Int) = iI ((2 * s : Nat) : Int) := by
      rcases (by omega : s = 0 ∨ s = 1 ∨ s = 2 ∨ s = 3) with rfl | rfl | rfl | rfl <;> exact ⟨by decide, by decide, by decide⟩
    rw [X5_findCosts_L3, if_neg (show ¬ (4 : Int32) ≤ iI (s : Int) by rw [L4]; exact fle (by omega) (by omega) (by omega)), s_thinks, Option.bind_some, d1, d2, d3, s_X5_hidesTen ha (ht a) (by omega), Option.bind_some, s_X5_hidesTen hb (tH_le ht b) (by omega), Option.bind_some, show X5_goes (rn 6 (tH (tH t a (s / 2)) b (s % 2))) (rn 6 u) (rn 6 (hH (tH t a (s / 2)) (hH t hd a (s / 2)) b (s % 2))) (rn 7 k) (rn 7 f) (rn 7 g) (rn 7 l) (rn 7 i) (iI sh) (iI co) (iI d) 0 (iI (fI 6)) (iI (N : Int)) = _ from g0, Option.bind_some, la, Option.bind_some, wr_rq (by omega) (by omega) (by omega), Option.bind_some, lb, Option.bind_some, iI_s (2 * s), wr_rq (by omega) (by omega) (by omega), Option.bind_some, s_forgetsN, Option.bind_some, Int.toNat_natCast, Int.toNat_natCast]
    refine ih (s + 1) m (iI_s s) (by omega) (by omega) (hkp.tr Kp.put2) (fun j hj => ?_)
    unfold upF cC
    by_cases c1 : j = 2 * s + 1
    · rw [if_pos c1, if_neg (by omega), show j / 2 = s by omega, L5, iI_mul, iI_add]
      exact iI_c (by rw [show cB (u, hd, k, f, g, l) sh a b N (t, i, co, d) s = lk 6 u (daysX (u, hK t hd a b s, k, f, g, l) sh 0 6 N (tK t a b s, i, co, d)).1 b + 5 * (s % 2) from rfl]; omega)
    · rw [if_neg c1]
      by_cases c2 : j = 2 * s
      · rw [if_pos c2, if_pos (by omega), show j / 2 = s by omega, L5, iI_mul, iI_add]
        exact iI_c (by rw [show cA (u, hd, k, f, g, l) sh a b N (t, i, co, d) s = lk 6 u (daysX (u, hK t hd a b s, k, f, g, l) sh 0 6 N (tK t a b s, i, co, d)).1 a + 5 * (s / 2) from rfl]; omega)
      · rw [if_neg c2]
        exact hC j (by omega)
def kx (s v : Nat) : Nat := if v = 2 then (if s < 2 then s + 2 else s - 2) else (if s % 2 = 0 then s + 1 else s - 1)
set_option maxRecDepth 20000 in
set_option maxHeartbeats 400000 in
theorem exT {R B1 B2 B3 B4 B5 B6 B7 : List Int32} {b1 b2 b3 b4 v : Int32} (h : MJ (B1, B2, B3, B4, B5, B6, B7, b1, b2, b3, b4)) : ∃ (Mz : Hs) (r : Int32), some (R, B1, B2, B3, B4, B5, B6, B7, b1, b2, b3, b4, v) = some (R, Mz.1, Mz.2.1, Mz.2.2.1, Mz.2.2.2.1, Mz.2.2.2.2.1, Mz.2.2.2.2.2.1, Mz.2.2.2.2.2.2.1, Mz.2.2.2.2.2.2.2.1, Mz.2.2.2.2.2.2.2.2.1, Mz.2.2.2.2.2.2.2.2.2.1, Mz.2.2.2.2.2.2.2.2.2.2, r) ∧ MJ Mz := ⟨_, _, rfl, h⟩
set_option maxRecDepth 20000 in
set_option maxHeartbeats 400000 in
theorem l_two {u hd k f g l t i : Nat → Nat} {sh co d : Nat} {R : List Int32} {a b N : Nat} {F1 C1 : Nat → Int32} {y1 y2 : Int32} (hE : OkE (u, hd, k, f, g, l)) (hhd : ∀ j, hd j ≤ 99) (hsh : sh ≤ 7) (hX : OkX 1000 (t, i, co, d)) (ha : a < 6) (hb : b < 6) (hN : N ≤ 60) (hC : ∀ j, j < 8 → C1 j = cC (u, hd, k, f, g, l) sh a b N (t, i, co, d) j) : ∀ (r s n : Nat) {A1 A2 A3 A4 A5 A6 A7 : List Int32} {a1 a2 a3 a4 : Int32} {x : Int32}, x = iI (s : Int) → s + r = 4 → r < n → MJ (A1, A2, A3, A4, A5, A6, A7, a1, a2, a3, a4) →
    ∃ (Mz : Hs) (v : Int32), X4_two_L49 (fun (q1 q2 q3 q4 q5 q6 q7 : List Int32) (q8 q9 q10 q11 : Int32) => some (R, q1, q2, q3, q4, q5, q6, q7, q8, q9, q10, q11, (-9 : Int32))) R (rn 6 t) (rn 6 u) (rn 6 hd) (rn 7 k) (rn 7 f) (rn 7 g) (rn 7 l) (iI sh) (iI (mk i)) (iI co) (iI d) (iI (a : Int)) (iI (b : Int)) (iI (N : Int)) n x A1 A2 A3 A4 A5 A6 A7 a1 a2 a3 a4 = some (R, Mz.1, Mz.2.1, Mz.2.2.1, Mz.2.2.2.1, Mz.2.2.2.2.1, Mz.2.2.2.2.2.1, Mz.2.2.2.2.2.2.1, Mz.2.2.2.2.2.2.2.1, Mz.2.2.2.2.2.2.2.2.1, Mz.2.2.2.2.2.2.2.2.2.1, Mz.2.2.2.2.2.2.2.2.2.2, v) ∧ X5_two_L51 (fun _ => some (R, rn 6 t, rn 6 u, rn 6 hd, rn 7 k, rn 7 f, rn 7 g, rn 7 l, rn 7 i, rq 616 F1, rq 8 C1, iI (sh : Int), iI (co : Int), iI (d : Int), y1, y2, (-9 : Int32))) R (rn 6 t) (rn 6 u) (rn 6 hd) (rn 7 k) (rn 7 f) (rn 7 g) (rn 7 l) (rn 7 i) (rq 616 F1) (rq 8 C1) (iI sh) (iI co) (iI d) y1 y2 n x = some (R, rn 6 t, rn 6 u, rn 6 hd, rn 7 k, rn 7 f, rn 7 g, rn 7 l, rn 7 i, rq 616 F1, rq 8 C1, iI sh, iI co, iI d, y1, y2, v) ∧ MJ Mz := by
  intro r
  induction r with
  | zero =>
    intro s n A1 A2 A3 A4 A5 A6 A7 a1 a2 a3 a4 x hx hs hn hM
    obtain ⟨m, rfl⟩ : ∃ m, n = m + 1 := ⟨n - 1, by omega⟩
    subst hx
    have q : (4 : Int32) ≤ iI (s : Int) := by rw [L4]; exact tle (by omega) (by omega) (by omega)
    rw [X4_two_L49, X5_two_L51, if_pos q, if_pos q]
    exact ⟨(A1, A2, A3, A4, A5, A6, A7, a1, a2, a3, a4), _, rfl, rfl, hM⟩
  | succ r ih =>
    intro s n A1 A2 A3 A4 A5 A6 A7 a1 a2 a3 a4 x hx hs hn hM
    obtain ⟨m, rfl⟩ : ∃ m, n = m + 1 := ⟨n - 1, by omega⟩
    subst hx
    have q : ¬ (4 : Int32) ≤ iI (s : Int) := by rw [L4]; exact fle (by omega) (by omega) (by omega)
    obtain ⟨f1, f2, f3, f4, f5, f6, f7, f8, f9, f10⟩ : (iI (s : Int) ^^^ (2 : Int32)) = iI ((kx s 2 : Nat) : Int) ∧ (iI (s : Int) ^^^ (1 : Int32)) = iI ((kx s 1 : Nat) : Int) ∧ kx s 2 < 4 ∧ kx s 1 < 4 ∧ (2 : Int32) * iI ((kx s 2 : Nat) : Int) = iI ((2 * kx s 2 : Nat) : Int) ∧ (2 : Int32) * iI (s : Int) = iI ((2 * s : Nat) : Int) ∧ (2 : Int32) * iI ((kx s 1 : Nat) : Int) + 1 = iI ((2 * kx s 1 + 1 : Nat) : Int) ∧ iI ((2 * s : Nat) : Int) + 1 = iI ((2 * s + 1 : Nat) : Int) ∧ ((iI (s : Int) >>> ((1 : Int32) &&& 31)) * 10 + (iI (s : Int) &&& 1)) = ((10 : Int32) * (iI (s : Int) / 2) + (iI (s : Int) - iI (s : Int) / 2 * 2)) ∧ True := by
      rcases (by omega : s = 0 ∨ s = 1 ∨ s = 2 ∨ s = 3) with rfl | rfl | rfl | rfl <;> exact ⟨by decide, by decide, by decide, by decide, by decide, by decide, by decide, by decide, by decide, trivial⟩
    obtain ⟨M1, e1, k1⟩ := s_loss2 (kk := s) hM hE hhd hsh hX ha hb hN (by omega)
    obtain ⟨M2, e2, k2⟩ := s_loss2 (kk := kx s 2) k1 hE hhd hsh hX ha hb hN f3
    obtain ⟨M3, e3, k3⟩ := s_loss1 (kk := s) k2 hE hhd hsh hX ha hb hN (by omega)
    obtain ⟨M4, e4, k4⟩ := s_loss1 (kk := kx s 1) k3 hE hhd hsh hX ha hb hN f4
    have r1 : C1 (2 * kx s 2) = iI (cA (u, hd, k, f, g, l) sh a b N (t, i, co, d) (kx s 2) : Int) := by rw [hC _ (by omega)]; unfold cC; rw [if_pos (by omega), show 2 * kx s 2 / 2 = kx s 2 by omega]
    have r2 : C1 (2 * s) = iI (cA (u, hd, k, f, g, l) sh a b N (t, i, co, d) s : Int) := by rw [hC _ (by omega)]; unfold cC; rw [if_pos (by omega), show 2 * s / 2 = s by omega]
    have r3 : C1 (2 * kx s 1 + 1) = iI (cB (u, hd, k, f, g, l) sh a b N (t, i, co, d) (kx s 1) : Int) := by rw [hC _ (by omega)]; unfold cC; rw [if_neg (by omega), show (2 * kx s 1 + 1) / 2 = kx s 1 by omega]
    have r4 : C1 (2 * s + 1) = iI (cB (u, hd, k, f, g, l) sh a b N (t, i, co, d) s : Int) := by rw [hC _ (by omega)]; unfold cC; rw [if_neg (by omega), show (2 * s + 1) / 2 = s by omega]
    rw [X4_two_L49, X5_two_L51, if_neg q, if_neg q, e1, Option.bind_some, f1, e2, Option.bind_some, f5, f6, rd_rq (by omega) (by omega) (by omega), Option.bind_some, rd_rq (by omega) (by omega) (by omega), Option.bind_some, Int.toNat_natCast, Int.toNat_natCast, r1, r2]
    by_cases c1 : iI (cA (u, hd, k, f, g, l) sh a b N (t, i, co, d) (kx s 2) : Int) < iI (cA (u, hd, k, f, g, l) sh a b N (t, i, co, d) s : Int)
    · rw [if_pos c1, if_pos c1]
      exact ih (s + 1) m (iI_s s) (by omega) (by omega) k2
    · rw [if_neg c1, if_neg c1, e3, Option.bind_some, f2, e4, Option.bind_some, f7, f8, rd_rq (by omega) (by omega) (by omega), Option.bind_some, rd_rq (by omega) (by omega) (by omega), Option.bind_some, Int.toNat_natCast, Int.toNat_natCast, r3, r4]
      by_cases c2 : iI (cB (u, hd, k, f, g, l) sh a b N (t, i, co, d) (kx s 1) : Int) < iI (cB (u, hd, k, f, g, l) sh a b N (t, i, co, d) s : Int)
      · rw [if_pos c2, if_pos c2]
        exact ih (s + 1) m (iI_s s) (by omega) (by omega) k4
      · rw [if_neg c2, if_neg c2, f9]
        exact ⟨M4, _, rfl, rfl, k4⟩
set_option maxRecDepth 20000 in
set_option maxHeartbeats 400000 in
theorem exoC {u hd k f g l t i : Nat → Nat} {sh co d : Nat} {R B1 B2 B3 B4 B5 B6 B7 : List Int32} {b1 b2 b3 b4 v w1 w2 : Int32} {F F2 C : Nat → Int32} (h1 : MJ (B1, B2, B3, B4, B5, B6, B7, b1, b2, b3, b4)) (h2 : Kp F F2) (h3 : R.length = 7) :
    ∃ (R1 : List Int32) (Mz : Hs) (F1 C1 : Nat → Int32) (y1 y2 r : Int32), some (R, B1, B2, B3, B4, B5, B6, B7, b1, b2, b3, b4, v) = some (R1, Mz.1, Mz.2.1, Mz.2.2.1, Mz.2.2.2.1, Mz.2.2.2.2.1, Mz.2.2.2.2.2.1, Mz.2.2.2.2.2.2.1, Mz.2.2.2.2.2.2.2.1, Mz.2.2.2.2.2.2.2.2.1, Mz.2.2.2.2.2.2.2.2.2.1, Mz.2.2.2.2.2.2.2.2.2.2, r) ∧ some (R, rn 6 t, rn 6 u, rn 6 hd, rn 7 k, rn 7 f, rn 7 g, rn 7 l, rn 7 i, rq 616 F2, rq 8 C, iI sh, iI co, iI d, w1, w2, v) = some (R1, rn 6 t, rn 6 u, rn 6 hd, rn 7 k, rn 7 f, rn 7 g, rn 7 l, rn 7 i, rq 616 F1, rq 8 C1, iI sh, iI co, iI d, y1, y2, r) ∧ MJ Mz ∧ Kp F F1 ∧ R1.length = 7 :=
  ⟨R, (B1, B2, B3, B4, B5, B6, B7, b1, b2, b3, b4), F2, C, w1, w2, v, rfl, rfl, h1, h2, h3⟩
set_option maxRecDepth 20000 in
set_option maxHeartbeats 400000 in
theorem op_two {A1 A2 A3 A4 A5 A6 A7 : List Int32} {a1 a2 a3 a4 : Int32} {u hd k f g l t i : Nat → Nat} {sh co d : Nat} {R : List Int32} {F C : Nat → Int32} {z1 z2 p q v : Int32} (hM : MJ (A1, A2, A3, A4, A5, A6, A7, a1, a2, a3, a4)) (hE : OkE (u, hd, k, f, g, l)) (hhd : ∀ j, hd j ≤ 99) (hsh : sh ≤ 7) (hX : OkX 1000 (t, i, co, d)) (hR : R.length = 7) :
    ∃ (R1 : List Int32) (Mz : Hs) (F1 C1 : Nat → Int32) (y1 y2 r : Int32), X4_two R A1 A2 A3 A4 A5 A6 A7 (rn 6 t) (rn 6 u) (rn 6 hd) (rn 7 k) (rn 7 f) (rn 7 g) (rn 7 l) a1 a2 a3 a4 (iI sh) (iI (mk i)) (iI co) (iI d) p q v = some (R1, Mz.1, Mz.2.1, Mz.2.2.1, Mz.2.2.2.1, Mz.2.2.2.2.1, Mz.2.2.2.2.2.1, Mz.2.2.2.2.2.2.1, Mz.2.2.2.2.2.2.2.1, Mz.2.2.2.2.2.2.2.2.1, Mz.2.2.2.2.2.2.2.2.2.1, Mz.2.2.2.2.2.2.2.2.2.2, r) ∧ X5_two R (rn 6 t) (rn 6 u) (rn 6 hd) (rn 7 k) (rn 7 f) (rn 7 g) (rn 7 l) (rn 7 i) (rq 616 F) (rq 8 C) (iI sh) (iI co) (iI d) 0 z1 z2 (-9) p q v = some (R1, rn 6 t, rn 6 u, rn 6 hd, rn 7 k, rn 7 f, rn 7 g, rn 7 l, rn 7 i, rq 616 F1, rq 8 C1, iI sh, iI co, iI d, y1, y2, r) ∧ MJ Mz ∧ Kp F F1 ∧ R1.length = 7 := by
  have h1 := s_refuse (R := R) (c := 1) hR (by omega) (by omega)
  have h4 := s_refuse (R := R) (c := 4) hR (by omega) (by omega)
  have h6 := s_refuse (R := R) (c := 6) hR (by omega) (by omega)
  unfold X4_two X5_two
  rcases good_cases p with ⟨a, ha, rfl, g1, g2⟩ | ⟨g1, g2⟩
  · rw [g1, g2, Option.bind_some, Option.bind_some, if_neg c10, if_neg c10]
    rcases good_cases q with ⟨b, hb, rfl, g3, g4⟩ | ⟨g3, g4⟩
    · rw [g3, g4, Option.bind_some, Option.bind_some, if_neg c10, if_neg c10]
      by_cases ab : iI (a : Int) = iI (b : Int)
      · rw [if_pos ab, if_pos ab, m1, h1.1, h1.2, Option.bind_some, Option.bind_some]
        exact exoC hM Kp.rf (incR_len.trans hR)
      rw [if_neg ab, if_neg ab, n60]
      rcases fit_cases (lo := 0) (hi := 60) (by omega) (by omega) v with ⟨n, -, hn, rfl, e1, e2⟩ | ⟨e1, e2⟩ | ⟨e1, e2⟩
      · obtain ⟨F1, C1, y1, y2, w1, w2, w3⟩ := l_costs (F0 := F) (F := F) (C := C) (z1 := z1) (z2 := z2) hE hhd hsh hX ha hb hn 4 0 1000 (show (0 : Int32) = iI ((0 : Nat) : Int) by decide) (by omega) (by omega) Kp.rf (fun j hj => absurd hj (by omega))
        obtain ⟨Mz, r, k1, k2, k3⟩ := l_two (R := R) (F1 := F1) (C1 := C1) (y1 := y1) (y2 := y2) hE hhd hsh hX ha hb hn w3 4 0 1000 (show (0 : Int32) = iI ((0 : Nat) : Int) by decide) (by omega) (by omega) hM
        unfold X5_findCosts
        rw [s_X5_notDays e2, show X4_misfit (iI (n : Int)) 0 (iI ((60 : Nat) : Int)) = some 0 from e1, Option.bind_some, Option.bind_some, if_pos rfl, if_pos rfl, f9, w1, Option.bind_some]
        exact ⟨R, Mz, F1, C1, y1, y2, r, k1, k2, k3, w2, hR⟩
      · rw [s_X5_notDays e2, show X4_misfit v 0 (iI ((60 : Nat) : Int)) = some (-4) from e1, Option.bind_some, Option.bind_some, if_neg (by decide), if_neg (by decide), m4, h4.1, h4.2, Option.bind_some, Option.bind_some]
        exact exoC hM Kp.rf (incR_len.trans hR)
      · rw [s_X5_notDays e2, show X4_misfit v 0 (iI ((60 : Nat) : Int)) = some (-6) from e1, Option.bind_some, Option.bind_some, if_neg (by decide), if_neg (by decide), m6, h6.1, h6.2, Option.bind_some, Option.bind_some]
        exact exoC hM Kp.rf (incR_len.trans hR)
    · rw [g3, g4, Option.bind_some, Option.bind_some, if_pos rfl, if_pos rfl, m1, h1.1, h1.2, Option.bind_some, Option.bind_some]
      exact exoC hM Kp.rf (incR_len.trans hR)
  · rw [g1, g2, Option.bind_some, Option.bind_some, if_pos rfl, if_pos rfl, m1, h1.1, h1.2, Option.bind_some, Option.bind_some]
    exact exoC hM Kp.rf (incR_len.trans hR)
