/-! facts about days, bits and sums -/
set_option maxRecDepth 20000 in
set_option maxHeartbeats 400000 in
theorem upN_ne {f : Nat → Nat} {s v j : Nat} (h : ¬ j = s) : upN f s v j = f j := by
  unfold upN
  rw [if_neg h]
set_option maxRecDepth 20000 in
set_option maxHeartbeats 400000 in
theorem upN_at {f : Nat → Nat} {s v : Nat} : upN f s v s = v := by
  unfold upN
  rw [if_pos rfl]
set_option maxRecDepth 20000 in
set_option maxHeartbeats 400000 in
theorem stp_mono {e : Env} {b fr d s j : Nat} {y : Y3} (h : y.2.1 j = 1) : (stp e b fr d s y).2.1 j = 1 := by
  unfold stp
  split
  · show upN y.2.1 s 1 j = 1
    unfold upN
    split
    · rfl
    · exact h
  · exact h
set_option maxRecDepth 20000 in
set_option maxHeartbeats 400000 in
theorem shp_mono {e : Env} {b fr d j : Nat} : ∀ (r s : Nat) (y : Y3), y.2.1 j = 1 → (shp e b fr d r s y).2.1 j = 1 := by
  intro r
  induction r with
  | zero => intro s y h; exact h
  | succ r ih => intro s y h; exact ih (s + 1) _ (stp_mono h)
set_option maxRecDepth 20000 in
set_option maxHeartbeats 400000 in
theorem dayX_mono {e : Env} {sh b fr j : Nat} {x : XX} (h : x.2.1 j = 1) : (dayX e sh b fr x).2.1 j = 1 := shp_mono (e := e) (b := b) (fr := fr) (d := x.2.2.2) sh 0 (x.1, x.2.1, x.2.2.1) h
set_option maxRecDepth 20000 in
set_option maxHeartbeats 400000 in
theorem daysX_mono {e : Env} {sh b fr j : Nat} : ∀ (n : Nat) (x : XX), x.2.1 j = 1 → (daysX e sh b fr n x).2.1 j = 1 := by
  intro n
  induction n with
  | zero => intro x h; exact h
  | succ n ih => intro x h; exact ih _ (dayX_mono h)
set_option maxRecDepth 20000 in
set_option maxHeartbeats 400000 in
theorem daysX_add {e : Env} {sh b fr : Nat} : ∀ (n m : Nat) (x : XX), daysX e sh b fr (n + m) x = daysX e sh b fr m (daysX e sh b fr n x) := by
  intro n
  induction n with
  | zero => intro m x; rw [Nat.zero_add]; rfl
  | succ n ih =>
    intro m x
    rw [show n + 1 + m = (n + m) + 1 by omega]
    exact ih m _
set_option maxRecDepth 20000 in
set_option maxHeartbeats 400000 in
theorem daysX_mono2 {e : Env} {sh b fr j n m : Nat} {x : XX} (hnm : n ≤ m) (h : (daysX e sh b fr n x).2.1 j = 1) : (daysX e sh b fr m x).2.1 j = 1 := by
  rw [show m = n + (m - n) by omega, daysX_add]
  exact daysX_mono _ _ h
/-! bits -/
set_option maxRecDepth 20000 in
set_option maxHeartbeats 400000 in
theorem bitN {m s : Nat} (hm : m < 128) (hs : s < 7) : ((iI (m : Int) >>> (iI (s : Int) &&& (31 : Int32))) &&& (1 : Int32)) = iI ((m / 2 ^ s % 2 : Nat) : Int) := by
  rw [L31, L1, bit_rd hm (by omega) (by omega), Int.toNat_natCast]
set_option maxRecDepth 20000 in
set_option maxHeartbeats 400000 in
theorem bitI {i : Nat → Nat} {s : Nat} (hi : ∀ j, i j ≤ 1) (hs : s < 7) : ((iI (mk i : Int) >>> (iI (s : Int) &&& (31 : Int32))) &&& (1 : Int32)) = iI (i s : Int) := by
  rw [bitN (mk_lt hi) hs, mk_bit hi hs]
set_option maxRecDepth 20000 in
set_option maxHeartbeats 400000 in
theorem bitsV_bit {v : Nat → Nat} : ∀ (r s m : Nat), m < 2 ^ s → (∀ j, j < s → bitsV v r s m / 2 ^ j % 2 = m / 2 ^ j % 2) ∧ (∀ j, s ≤ j → j < s + r → bitsV v r s m / 2 ^ j % 2 = if v j = 0 then 0 else 1) := by
  intro r
  induction r with
  | zero => intro s m hm; exact ⟨fun j hj => rfl, fun j h1 h2 => absurd h2 (by omega)⟩
  | succ r ih =>
    intro s m hm
    unfold bitsV
    have hm1 : (if v s = 0 then m else m + 2 ^ s) < 2 ^ (s + 1) := by
      rw [Nat.pow_succ]
      split <;> omega
    obtain ⟨g1, g2⟩ := ih (s + 1) _ hm1
    have hlow : ∀ j, j < s → (if v s = 0 then m else m + 2 ^ s) / 2 ^ j % 2 = m / 2 ^ j % 2 := by
      intro j hj
      split
      · rfl
      · have e : 2 ^ s = 2 ^ j * (2 * 2 ^ (s - j - 1)) := by
          rw [← Nat.pow_succ', ← Nat.pow_add]
          exact congrArg (2 ^ ·) (by omega)
        rw [e, Nat.add_mul_div_left _ _ (Nat.two_pow_pos j)]
        omega
    have htop : (if v s = 0 then m else m + 2 ^ s) / 2 ^ s % 2 = if v s = 0 then 0 else 1 := by
      split
      · rw [Nat.div_eq_of_lt hm]
      · rw [Nat.add_div_right _ (Nat.two_pow_pos s), Nat.div_eq_of_lt hm]
    refine ⟨fun j hj => ?_, fun j h1 h2 => ?_⟩
    · rw [g1 j (by omega), hlow j hj]
    · by_cases c : j = s
      · subst c
        rw [g1 j (by omega), htop]
      · exact g2 j (by omega) (by omega)
set_option maxRecDepth 20000 in
set_option maxHeartbeats 400000 in
theorem bits0 {v : Nat → Nat} {r j : Nat} (hj : j < r) : bitsV v r 0 0 / 2 ^ j % 2 = if v j = 0 then 0 else 1 := (bitsV_bit (v := v) r 0 0 (by omega)).2 j (by omega) (by omega)
set_option maxRecDepth 20000 in
set_option maxHeartbeats 400000 in
theorem bits_lt {v : Nat → Nat} {r : Nat} (hr : r ≤ 7) : bitsV v r 0 0 < 128 := by
  have h := bitsV_lt (v := v) r 0 0 (by omega)
  have h2 : 2 ^ (0 + r) ≤ 2 ^ 7 := Nat.pow_le_pow_right (by omega) (by omega)
  omega
set_option maxRecDepth 20000 in
set_option maxHeartbeats 400000 in
theorem tb_and : (List.range 128).all (fun a => (List.range 128).all (fun b => decide ((iI (a : Int) &&& iI (b : Int)) = iI ((a &&& b : Nat) : Int) ∧ (iI (a : Int) &&& (iI (b : Int) ^^^ (-1 : Int32))) = iI ((a &&& (127 - b) : Nat) : Int)))) = true := by decide +kernel
set_option maxRecDepth 20000 in
set_option maxHeartbeats 400000 in
theorem tb_inv : (List.range 128).all (fun b => (List.range 7).all (fun s => decide ((127 - b) / 2 ^ s % 2 = 1 - b / 2 ^ s % 2))) = true := by decide +kernel
set_option maxRecDepth 20000 in
set_option maxHeartbeats 400000 in
theorem land0 {a b : Nat} (ha : a < 128) (h : ∀ s, s < 7 → a / 2 ^ s % 2 = 0 ∨ b / 2 ^ s % 2 = 0) : a &&& b = 0 := by
  apply Nat.eq_of_testBit_eq
  intro s
  rw [Nat.testBit_and, Nat.zero_testBit]
  by_cases hs : s < 7
  · rw [Nat.testBit_eq_decide_div_mod_eq, Nat.testBit_eq_decide_div_mod_eq]
    rcases h s hs with h1 | h1 <;> rw [h1] <;> simp
  · have h2 : 2 ^ 7 ≤ 2 ^ s := Nat.pow_le_pow_right (by omega) (by omega)
    rw [Nat.testBit_lt_two_pow (show a < 2 ^ s by omega)]
    rfl
set_option maxRecDepth 20000 in
set_option maxHeartbeats 400000 in
theorem and0 {a b : Nat} (ha : a < 128) (hb : b < 128) (h : ∀ s, s < 7 → a / 2 ^ s % 2 = 0 ∨ b / 2 ^ s % 2 = 0) : (iI (a : Int) &&& iI (b : Int)) = (0 : Int32) := by
  rw [(all2 tb_and ha hb).1, land0 ha h]
  rfl
set_option maxRecDepth 20000 in
set_option maxHeartbeats 400000 in
theorem andn {a b : Nat} (ha : a < 128) (hb : b < 128) (h : ∀ s, s < 7 → a / 2 ^ s % 2 = 1 → b / 2 ^ s % 2 = 1) : (iI (a : Int) &&& (iI (b : Int) ^^^ (-1 : Int32))) = (0 : Int32) := by
  rw [(all2 tb_and ha hb).2, land0 ha (fun s hs => ?_)]
  · rfl
  · rw [all2 tb_inv hb hs]
    by_cases c : a / 2 ^ s % 2 = 1
    · right
      rw [h s hs c]
    · left
      omega
set_option maxRecDepth 20000 in
set_option maxHeartbeats 400000 in
theorem andnI {i i1 : Nat → Nat} (hi : ∀ j, i j ≤ 1) (hi1 : ∀ j, i1 j ≤ 1) (h : ∀ j, i j = 1 → i1 j = 1) : (iI (mk i : Int) &&& (iI (mk i1 : Int) ^^^ (-1 : Int32))) = (0 : Int32) := by
  refine andn (mk_lt hi) (mk_lt hi1) (fun s hs h1 => ?_)
  rw [mk_bit hi hs] at h1
  rw [mk_bit hi1 hs]
  exact h s h1
/-! WANT -/
set_option maxRecDepth 20000 in
set_option maxHeartbeats 400000 in
theorem wnX_succ {e : Env} {sh b fr : Nat} : ∀ (n v : Nat) (x : XX), (wnX e sh b fr (n + 1) v x).1 = (wnX e sh b fr n v x).1 + allk (lk fr e.1 (daysX e sh b fr (n + 1) x).1) := by
  intro n
  induction n with
  | zero => intro v x; rfl
  | succ n ih =>
    intro v x
    have h := ih (v + allk (lk fr e.1 (dayX e sh b fr x).1)) (dayX e sh b fr x)
    exact h
set_option maxRecDepth 20000 in
set_option maxHeartbeats 400000 in
theorem wnX_le {e : Env} {sh b : Nat} (hu : ∀ j, e.1 j ≤ 9) : ∀ (n v : Nat) (x : XX), (wnX e sh b 6 n v x).1 ≤ v + 378 * n := by
  intro n
  induction n with
  | zero => intro v x; exact Nat.le_refl _
  | succ n ih =>
    intro v x
    have h := ih (v + allk (lk 6 e.1 (dayX e sh b 6 x).1)) (dayX e sh b 6 x)
    have h2 := allk_le (t := (dayX e sh b 6 x).1) hu
    unfold wnX
    omega
/-! COMES -/
set_option maxRecDepth 20000 in
set_option maxHeartbeats 400000 in
theorem cmC {e : Env} {sh s n D : Nat} {x : XX} (hX : OkX D x) : ((cmX e sh 0 6 s n 0 x).1 = -9 ∧ ∀ j, j ≤ n → (daysX e sh 0 6 j x).2.1 s = 0) ∨ (∃ j : Nat, j ≤ n ∧ (cmX e sh 0 6 s n 0 x).1 = (j : Int) ∧ (daysX e sh 0 6 j x).2.1 s = 1 ∧ ∀ j1, j1 < j → (daysX e sh 0 6 j1 x).2.1 s = 0) := by
  rcases cm_spec (e := e) (sh := sh) (b := 0) (fr := 6) (s := s) n 0 x with h | ⟨j, h1, h2, h3, h4⟩
  · exact Or.inl h
  · have b := (daysX_ok (e := e) (sh := sh) (b := 0) (fr := 6) j D x hX).2.1 s
    exact Or.inr ⟨j, h1, by rw [h2, Nat.zero_add], by omega, h4⟩
-- IN within n days: that is told by COMES of 60
set_option maxRecDepth 20000 in
set_option maxHeartbeats 400000 in
theorem cmR {e : Env} {sh s n D : Nat} {x : XX} (hX : OkX D x) (hn : n ≤ 60) : ((cmX e sh 0 6 s n 0 x).1 = -9) ↔ ((cmX e sh 0 6 s 60 0 x).1 = -9 ∨ (n : Int) < (cmX e sh 0 6 s 60 0 x).1) := by
  rcases cmC (e := e) (sh := sh) (s := s) (n := n) hX with ⟨h1, h2⟩ | ⟨j, h1, h2, h3, h4⟩ <;> rcases cmC (e := e) (sh := sh) (s := s) (n := 60) hX with ⟨g1, g2⟩ | ⟨w, g1, g2, g3, g4⟩
  · exact ⟨fun _ => Or.inl g1, fun _ => h1⟩
  · refine ⟨fun _ => Or.inr ?_, fun _ => h1⟩
    have : ¬ w ≤ n := fun z => by have := h2 w z; omega
    omega
  · have := g2 j (by omega)
    omega
  · have a1 : ¬ j < w := fun z => by have := g4 j z; omega
    have a2 : ¬ w < j := fun z => by have := h4 w z; omega
    omega
/-! BY WHOM -/
set_option maxRecDepth 20000 in
set_option maxHeartbeats 400000 in
theorem byV_spec {e : Env} {sh s0 : Nat} {x : XX} : ∀ (r s : Nat), byV e sh s0 x r s = -9 ∨ (∃ b : Nat, s ≤ b ∧ b < s + r ∧ byV e sh s0 x r s = (b : Int) ∧ ¬ (dayX e sh (2 ^ b) 6 x).2.1 s0 = 0) := by
  intro r
  induction r with
  | zero => intro s; exact Or.inl rfl
  | succ r ih =>
    intro s
    unfold byV
    by_cases c : (dayX e sh (2 ^ s) 6 x).2.1 s0 = 0
    · rw [if_pos c]
      rcases ih (s + 1) with h | ⟨b, h1, h2, h3, h4⟩
      · exact Or.inl h
      · exact Or.inr ⟨b, by omega, by omega, h3, h4⟩
    · rw [if_neg c]
      exact Or.inr ⟨s, Nat.le_refl _, by omega, rfl, c⟩
-- to bar one that is IN changes nothing
set_option maxRecDepth 20000 in
set_option maxHeartbeats 400000 in
theorem dayX_barIn {e : Env} {sh fr b : Nat} {x : XX} (hb : b < 7) (hsh : sh ≤ 7) (h : x.2.1 b = 1) : dayX e sh (2 ^ b) fr x = dayX e sh 0 fr x := by
  have key : ∀ (r j : Nat) (y : Y3), j + r ≤ 7 → y.2.1 b = 1 → shp e (2 ^ b) fr x.2.2.2 r j y = shp e 0 fr x.2.2.2 r j y := by
    intro r
    induction r with
    | zero => intro j y _ _; rfl
    | succ r ih =>
      intro j y hj hy
      unfold shp
      have e1 : stp e (2 ^ b) fr x.2.2.2 j y = stp e 0 fr x.2.2.2 j y := by
        unfold stp
        by_cases c : j = b
        · subst c
          rw [if_neg (fun z => by have := z.1; omega), if_neg (fun z => by have := z.1; omega)]
        · have h1 : 2 ^ b / 2 ^ j % 2 = 0 := by
            have := pw_bit hb (show j < 7 by omega)
            rw [if_neg c] at this
            exact this
          have h0 : 0 / 2 ^ j % 2 = 0 := by rw [Nat.zero_div]
          rw [h1, h0]
      rw [e1]
      exact ih (j + 1) _ (by omega) (stp_mono hy)
  unfold dayX
  rw [key sh 0 _ (by omega) h]
/-! a good that is not lacked -/
set_option maxRecDepth 20000 in
set_option maxHeartbeats 400000 in
theorem lk0_up {u t t1 : Nat → Nat} {a : Nat} (h : lk 6 u t a = 0) (ht : t a ≤ t1 a) (ha : a < 6) : lk 6 u t1 a = 0 := by
  unfold lk at h ⊢
  rw [if_neg (by omega)] at h ⊢
  omega
set_option maxRecDepth 20000 in
set_option maxHeartbeats 400000 in
theorem stp_up {e : Env} {b fr d s : Nat} {y : Y3} (hy : ∀ j, y.1 j ≤ 99) (j : Nat) : y.1 j ≤ (stp e b fr d s y).1 j := by
  unfold stp
  split
  · show y.1 j ≤ tin y.1 _ _ _ j
    have := hy j
    unfold tin
    omega
  · exact Nat.le_refl _
set_option maxRecDepth 20000 in
set_option maxHeartbeats 400000 in
theorem dayX_unl {u hd k f g l : Nat → Nat} {sh a D : Nat} {x : XX} (hg : ∀ j, g j ≤ 5) (hX : OkX D x) (ha : a < 6) (h : lk 6 u x.1 a = 0) (s : Nat) : (dayX (upN u a 0, hd, k, f, g, l) sh 0 6 x).2.1 s = (dayX (u, hd, k, f, g, l) sh 0 6 x).2.1 s := by
  have key : ∀ (r j : Nat) (y : Y3), OkY y → lk 6 u y.1 a = 0 → shp (upN u a 0, hd, k, f, g, l) 0 6 x.2.2.2 r j y = shp (u, hd, k, f, g, l) 0 6 x.2.2.2 r j y := by
    intro r
    induction r with
    | zero => intro j y _ _; rfl
    | succ r ih =>
      intro j y hY hy
      unfold shp
      have e0 : ∀ z, z ≤ 5 → lk 6 (upN u a 0) y.1 z = lk 6 u y.1 z := by
        intro z hz
        by_cases c : z = a
        · subst c
          rw [hy]
          unfold lk
          rw [if_neg (by omega), upN_at]
          omega
        · unfold lk
          rw [upN_ne c]
      have e1 : stp (upN u a 0, hd, k, f, g, l) 0 6 x.2.2.2 j y = stp (u, hd, k, f, g, l) 0 6 x.2.2.2 j y := by
        unfold stp
        dsimp only
        rw [sk_congr (L := lk 6 (upN u a 0) y.1) (L' := lk 6 u y.1) e0 (hg j)]
      rw [e1]
      exact ih (j + 1) _ (stp_ok hY) (lk0_up hy (stp_up hY.1 a) ha)
  show (shp (upN u a 0, hd, k, f, g, l) 0 6 x.2.2.2 sh 0 (x.1, x.2.1, x.2.2.1)).2.1 s = (shp (u, hd, k, f, g, l) 0 6 x.2.2.2 sh 0 (x.1, x.2.1, x.2.2.1)).2.1 s
  rw [key sh 0 _ ⟨hX.1, hX.2.1, hX.2.2.1⟩ h]
/-! HIDE of none, FEWEST of none -/
set_option maxRecDepth 20000 in
set_option maxHeartbeats 400000 in
theorem PH0 {e : Env} {sh s n a : Nat} {x : XX} : PH e sh s n a x 0 = (cmX e sh 0 6 s n 0 x).1 := by
  unfold PH
  rw [Nat.add_zero, Nat.sub_zero, upN_id, upN_id]
set_option maxRecDepth 20000 in
set_option maxHeartbeats 400000 in
theorem PW0 {e : Env} {sh s n : Nat} {x : XX} : PW e sh s n x 0 = (cmX e sh 0 6 s n 0 x).1 := by
  have h1 : tS x.1 0 = x.1 := by
    funext j
    unfold tS
    rw [if_pos (by rw [Nat.zero_div])]
  have h2 : hS x.1 e.2.1 0 = e.2.1 := by
    funext j
    unfold hS
    rw [if_pos (by rw [Nat.zero_div])]
  unfold PW
  rw [h1, h2]
set_option maxRecDepth 20000 in
set_option maxHeartbeats 400000 in
theorem fsize0 {P : Nat → Int} : (fsize P 7 0 = 0 ↔ ¬ P 0 = -9) ∧ -9 ≤ fsize P 7 0 ∧ fsize P 7 0 ≤ 64 := by
  rcases fsize_spec (P := P) 7 0 with ⟨h1, h2⟩ | ⟨b, h1, h2, h3, h4⟩
  · have h0 := h2 0 (by omega) (by omega) (by decide)
    exact ⟨⟨fun z => by omega, fun z => absurd h0 z⟩, by omega, by omega⟩
  · refine ⟨⟨fun z => ?_, fun z => ?_⟩, by omega, by omega⟩
    · rw [show b = 0 by omega] at h3
      exact h3
    · have g := h4 0 (by omega) (by omega) z
      have p0 : pc 0 = 0 := by decide
      have := g.2 (by omega)
      omega
set_option maxRecDepth 20000 in
set_option maxHeartbeats 400000 in
theorem lk_eq {u t : Nat → Nat} {a : Nat} (ha : a < 6) : lk 6 u t a = 7 * u a - t a := by
  unfold lk
  rw [if_neg (by omega)]
set_option maxRecDepth 20000 in
set_option maxHeartbeats 400000 in
theorem allk_up {u t t1 : Nat → Nat} (h : ∀ j, t1 j ≤ t j) : allk (lk 6 u t) ≤ allk (lk 6 u t1) := by
  have q : ∀ j, j < 6 → lk 6 u t j ≤ lk 6 u t1 j := by
    intro j hj
    have := h j
    rw [lk_eq hj, lk_eq hj]
    omega
  have q0 := q 0 (by omega)
  have q1 := q 1 (by omega)
  have q2 := q 2 (by omega)
  have q3 := q 3 (by omega)
  have q4 := q 4 (by omega)
  have q5 := q 5 (by omega)
  unfold allk
  omega
set_option maxRecDepth 20000 in
set_option maxHeartbeats 400000 in
theorem td_eight {d : Nat} : td (d + 8) = td d := by
  unfold td
  rw [Nat.add_mod_right]
/-- LACK of goods 0 .. g - 1 -/
def sumL (L : Nat → Nat) : Nat → Nat
  | 0 => 0
  | g + 1 => sumL L g + L g
set_option maxRecDepth 20000 in
set_option maxHeartbeats 400000 in
theorem sumL6 {L : Nat → Nat} : sumL L 6 = allk L := by
  unfold allk
  simp only [sumL]
  omega
set_option maxRecDepth 20000 in
set_option maxHeartbeats 400000 in
theorem sumL_le {L : Nat → Nat} (h : ∀ j, L j ≤ 63) : ∀ g, sumL L g ≤ 63 * g := by
  intro g
  induction g with
  | zero => exact Nat.le_refl _
  | succ g ih =>
    have := h g
    unfold sumL
    omega
