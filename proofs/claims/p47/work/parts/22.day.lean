/-! a DAY -/
abbrev Env : Type := (Nat → Nat) × (Nat → Nat) × (Nat → Nat) × (Nat → Nat) × (Nat → Nat) × (Nat → Nat)
abbrev Y3 : Type := (Nat → Nat) × (Nat → Nat) × Nat
abbrev XX : Type := (Nat → Nat) × (Nat → Nat) × Nat × Nat
/-- u hd k f g l -/
def OkE (e : Env) : Prop := (∀ j, e.1 j ≤ 9) ∧ (∀ j, e.2.1 j ≤ 1000) ∧ (∀ j, e.2.2.1 j ≤ 5) ∧ (∀ j, e.2.2.2.1 j ≤ 9) ∧ (∀ j, e.2.2.2.2.1 j ≤ 5) ∧ (∀ j, e.2.2.2.2.2 j ≤ 99)
def OkY (y : Y3) : Prop := (∀ j, y.1 j ≤ 99) ∧ (∀ j, y.2.1 j ≤ 1) ∧ y.2.2 ≤ 99
/-- t i co d -/
def OkX (D : Nat) (x : XX) : Prop := (∀ j, x.1 j ≤ 99) ∧ (∀ j, x.2.1 j ≤ 1) ∧ x.2.2.1 ≤ 99 ∧ x.2.2.2 ≤ D
set_option maxHeartbeats 200000 in
theorem oU {u hd k f g l : Nat → Nat} (h : OkE (u, hd, k, f, g, l)) : ∀ j, u j ≤ 9 := h.1
set_option maxHeartbeats 200000 in
theorem oH {u hd k f g l : Nat → Nat} (h : OkE (u, hd, k, f, g, l)) : ∀ j, hd j ≤ 1000 := h.2.1
set_option maxHeartbeats 200000 in
theorem oK {u hd k f g l : Nat → Nat} (h : OkE (u, hd, k, f, g, l)) : ∀ j, k j ≤ 5 := h.2.2.1
set_option maxHeartbeats 200000 in
theorem oF {u hd k f g l : Nat → Nat} (h : OkE (u, hd, k, f, g, l)) : ∀ j, f j ≤ 9 := h.2.2.2.1
set_option maxHeartbeats 200000 in
theorem oG {u hd k f g l : Nat → Nat} (h : OkE (u, hd, k, f, g, l)) : ∀ j, g j ≤ 5 := h.2.2.2.2.1
set_option maxHeartbeats 200000 in
theorem oL {u hd k f g l : Nat → Nat} (h : OkE (u, hd, k, f, g, l)) : ∀ j, l j ≤ 99 := h.2.2.2.2.2
set_option maxHeartbeats 200000 in
theorem yT {t i : Nat → Nat} {co : Nat} (h : OkY (t, i, co)) : ∀ j, t j ≤ 99 := h.1
set_option maxHeartbeats 200000 in
theorem yI {t i : Nat → Nat} {co : Nat} (h : OkY (t, i, co)) : ∀ j, i j ≤ 1 := h.2.1
set_option maxHeartbeats 200000 in
theorem yC {t i : Nat → Nat} {co : Nat} (h : OkY (t, i, co)) : co ≤ 99 := h.2.2
set_option maxHeartbeats 200000 in
theorem xT {D : Nat} {t i : Nat → Nat} {co d : Nat} (h : OkX D (t, i, co, d)) : ∀ j, t j ≤ 99 := h.1
set_option maxHeartbeats 200000 in
theorem xI {D : Nat} {t i : Nat → Nat} {co d : Nat} (h : OkX D (t, i, co, d)) : ∀ j, i j ≤ 1 := h.2.1
set_option maxHeartbeats 200000 in
theorem xC {D : Nat} {t i : Nat → Nat} {co d : Nat} (h : OkX D (t, i, co, d)) : co ≤ 99 := h.2.2.1
set_option maxHeartbeats 200000 in
theorem xD {D : Nat} {t i : Nat → Nat} {co d : Nat} (h : OkX D (t, i, co, d)) : d ≤ D := h.2.2.2
def stp (e : Env) (b fr d s : Nat) (y : Y3) : Y3 :=
  if y.2.1 s = 0 ∧ b / 2 ^ s % 2 = 0 ∧ dr (e.2.2.1 s) (e.2.2.2.1 s) ≤ td d + sk (lk fr e.1 y.1) e.2.1 y.2.2 (e.2.2.1 s) (e.2.2.2.2.1 s) then (tin y.1 (e.2.2.1 s) (e.2.2.2.2.1 s) (e.2.2.2.2.2 s), upN y.2.1 s 1, if e.2.2.1 s = 3 then y.2.2 - 9 else y.2.2) else y
def shp (e : Env) (b fr d : Nat) : Nat → Nat → Y3 → Y3
  | 0, _, y => y
  | r + 1, s, y => shp e b fr d r (s + 1) (stp e b fr d s y)
/-- what is behind the SHIPS: what is USED goes, a COUGH comes, DAY is 1 more -/
def eve (e : Env) (fr d : Nat) (y : Y3) : XX := (fun j => y.1 j - e.1 j, y.2.1, if lk fr e.1 (fun j => y.1 j - e.1 j) 0 = 0 then y.2.2 else min 99 (y.2.2 + 1), d + 1)
def dayX (e : Env) (sh b fr : Nat) (x : XX) : XX := eve e fr x.2.2.2 (shp e b fr x.2.2.2 sh 0 (x.1, x.2.1, x.2.2.1))
set_option maxHeartbeats 200000 in
theorem tin_le {t : Nat → Nat} {k g l j : Nat} : tin t k g l j ≤ 99 := by unfold tin; omega
set_option maxHeartbeats 200000 in
theorem upN_le {f : Nat → Nat} {s v m : Nat} (h : ∀ j, f j ≤ m) (hv : v ≤ m) (j : Nat) : upN f s v j ≤ m := by
  unfold upN
  split
  · exact hv
  · exact h j
set_option maxHeartbeats 200000 in
theorem ite_le {c : Prop} [Decidable c] {a b m : Nat} (h1 : a ≤ m) (h2 : b ≤ m) : (if c then a else b) ≤ m := by split <;> assumption
set_option maxHeartbeats 200000 in
theorem stp_ok {e : Env} {b fr d s : Nat} {y : Y3} (h : OkY y) : OkY (stp e b fr d s y) := by
  unfold stp
  split
  · exact ⟨fun j => tin_le, fun j => upN_le h.2.1 (Nat.le_refl _) j, ite_le (Nat.le_trans (Nat.sub_le _ _) h.2.2) h.2.2⟩
  · exact h
set_option maxHeartbeats 200000 in
theorem shp_ok {e : Env} {b fr d : Nat} : ∀ (r s : Nat) (y : Y3), OkY y → OkY (shp e b fr d r s y) := by
  intro r
  induction r with
  | zero => intro s y h; exact h
  | succ r ih => intro s y h; exact ih (s + 1) _ (stp_ok h)
set_option maxHeartbeats 200000 in
theorem eve_ok {e : Env} {fr d : Nat} {y : Y3} (h : OkY y) : OkX (d + 1) (eve e fr d y) :=
  ⟨fun j => Nat.le_trans (Nat.sub_le _ _) (h.1 j), h.2.1, ite_le h.2.2 (Nat.min_le_left _ _), Nat.le_refl _⟩
set_option maxHeartbeats 200000 in
theorem dayX_ok {e : Env} {sh b fr D : Nat} {x : XX} (h : OkX D x) : OkX (D + 1) (dayX e sh b fr x) := by
  have h1 := eve_ok (e := e) (fr := fr) (d := x.2.2.2) (shp_ok (e := e) (b := b) (fr := fr) (d := x.2.2.2) sh 0 (x.1, x.2.1, x.2.2.1) ⟨h.1, h.2.1, h.2.2.1⟩)
  have := h.2.2.2
  exact ⟨h1.1, h1.2.1, h1.2.2.1, by have := h1.2.2.2; show (dayX e sh b fr x).2.2.2 ≤ D + 1; unfold dayX; omega⟩
set_option maxHeartbeats 200000 in
theorem sk_le {L hd : Nat → Nat} {co k g : Nat} (hL : ∀ j, L j ≤ 63) (hh : hd g ≤ 1000) (hco : co ≤ 99) : sk L hd co k g ≤ 142 := by
  have h1 := hL g
  have h2 := hL (nx g)
  have h3 := nlk_le L
  unfold sk
  repeat' split
  all_goals omega
set_option maxHeartbeats 200000 in
theorem dr_le {k f : Nat} (hf : f ≤ 9) : dr k f ≤ 13 := by
  unfold dr
  repeat' split
  all_goals omega
set_option maxHeartbeats 200000 in
theorem iI_s (s : Nat) : iI (s : Int) + 1 = iI ((s + 1 : Nat) : Int) := by rw [L1, iI_add]; rfl
set_option maxHeartbeats 200000 in
theorem l_ships {u hd k f g l : Nat → Nat} {sh b d : Nat} (hE : OkE (u, hd, k, f, g, l)) (hsh : sh ≤ 7) (hb : b < 128) (hd2 : d < 2100) (K : List Int32 → Int32 → Int32 → Option (List Int32 × Int32 × Int32 × Int32)) : ∀ (r s n : Nat) (x : Int32) (t i : Nat → Nat) (co : Nat), x = iI (s : Int) → s + r = sh → r < n → OkY (t, i, co) →
    X0_passDay_L10 K (rn 6 u) (rn 6 hd) (rn 7 k) (rn 7 f) (rn 7 g) (rn 7 l) (iI sh) (iI b) (iI (td d)) n x (rn 6 t) (iI (mk i)) (iI co) = K (rn 6 (shp (u, hd, k, f, g, l) b 6 d r s (t, i, co)).1) (iI (mk (shp (u, hd, k, f, g, l) b 6 d r s (t, i, co)).2.1)) (iI (shp (u, hd, k, f, g, l) b 6 d r s (t, i, co)).2.2) := by
  have hu := oU hE; have hh := oH hE; have hk := oK hE; have hf := oF hE; have hg := oG hE; have hl := oL hE
  intro r
  induction r with
  | zero =>
    intro s n x t i co hx hs hn hy
    obtain ⟨n, rfl⟩ : ∃ m, n = m + 1 := ⟨n - 1, by omega⟩
    subst hx
    rw [X0_passDay_L10]
    simp (disch := omega) only [L0, L1, L2, L3, L4, L5, L6, L7, L8, L9, L10, L12, L16, L20, L31, L40, L48, L56, L57, L59, L60, L63, L96, L98, L99, L100, L101, L103, L104, L111, L115, L116, L117, L127, L168, L192, L255, L560, L616, L999, L1000, L2000, iI_add, iI_sub, iI_mul, iI_neg, iI_lt, iI_le, iI_eq, rd_rn, wr_rn, rd_rq, wr_rq, Option.bind_some, not_false_eq_true, not_true_eq_false, ↓reduceIte, leT, leF, ltT, ltF, eqT, eqF, Int.toNat_natCast, Int.reduceAdd, Int.reduceSub, Int.reduceMul, Int.reduceToNat]
    rfl
  | succ r ih =>
    intro s n x t i co hx hs hn hy
    obtain ⟨n, rfl⟩ : ∃ m, n = m + 1 := ⟨n - 1, by omega⟩
    subst hx
    have ht := yT hy; have hi := yI hy; have hco := yC hy
    have b1 := hi s
    have b2 := sk_le (L := lk 6 u t) (k := k s) (fun j => lk_le hu j) (hh (g s)) hco
    have b3 := dr_le (k := k s) (hf s)
    have b4 := td_le d
    have nop : stp (u, hd, k, f, g, l) b 6 d s (t, i, co) = (t, i, co) → X0_passDay_L10 K (rn 6 u) (rn 6 hd) (rn 7 k) (rn 7 f) (rn 7 g) (rn 7 l) (iI sh) (iI b) (iI (td d)) n (iI (s : Int) + 1) (rn 6 t) (iI (mk i)) (iI co) = K (rn 6 (shp (u, hd, k, f, g, l) b 6 d (r + 1) s (t, i, co)).1) (iI (mk (shp (u, hd, k, f, g, l) b 6 d (r + 1) s (t, i, co)).2.1)) (iI (shp (u, hd, k, f, g, l) b 6 d (r + 1) s (t, i, co)).2.2) := by
      intro e
      unfold shp
      rw [e, ih (s + 1) n _ _ _ _ (iI_s s) (by omega) (by omega) hy]
    rw [X0_passDay_L10, if_neg (by simp (disch := omega) only [L0, L1, L2, L3, L4, L5, L6, L7, L8, L9, L10, L12, L16, L20, L31, L40, L48, L56, L57, L59, L60, L63, L96, L98, L99, L100, L101, L103, L104, L111, L115, L116, L117, L127, L168, L192, L255, L560, L616, L999, L1000, L2000, iI_add, iI_sub, iI_mul, iI_neg, iI_lt, iI_le, iI_eq, rd_rn, wr_rn, rd_rq, wr_rq, Option.bind_some, not_false_eq_true, not_true_eq_false, ↓reduceIte, leT, leF, ltT, ltF, eqT, eqF, Int.toNat_natCast, Int.reduceAdd, Int.reduceSub, Int.reduceMul, Int.reduceToNat]), s_X0_isIn hi (by omega) (by omega), Option.bind_some, Int.toNat_natCast]
    by_cases h1 : i s = 0
    · rw [if_pos (by rw [h1]; rfl), L31, L1, bit_rd hb (by omega) (by omega), Int.toNat_natCast]
      by_cases h2 : b / 2 ^ s % 2 = 0
      · rw [if_pos (by rw [h2]; rfl), s_X0_sinks hu ht hh hk hg hco (by omega) (by omega), Option.bind_some, s_X0_draws hk hf (by omega) (by omega), Option.bind_some, Int.toNat_natCast, iI_add]
        by_cases h3 : dr (k s) (f s) ≤ td d + sk (lk 6 u t) hd co (k s) (g s)
        · rw [if_neg (by simp (disch := omega) only [L0, L1, L2, L3, L4, L5, L6, L7, L8, L9, L10, L12, L16, L20, L31, L40, L48, L56, L57, L59, L60, L63, L96, L98, L99, L100, L101, L103, L104, L111, L115, L116, L117, L127, L168, L192, L255, L560, L616, L999, L1000, L2000, iI_add, iI_sub, iI_mul, iI_neg, iI_lt, iI_le, iI_eq, rd_rn, wr_rn, rd_rq, wr_rq, Option.bind_some, not_false_eq_true, not_true_eq_false, ↓reduceIte, leT, leF, ltT, ltF, eqT, eqF, Int.toNat_natCast, Int.reduceAdd, Int.reduceSub, Int.reduceMul, Int.reduceToNat]), s_X0_letIn ht hk hg hl hi hco (by omega) (by omega) (by rw [Int.toNat_natCast]; exact h1), Option.bind_some, Int.toNat_natCast]
          have e : stp (u, hd, k, f, g, l) b 6 d s (t, i, co) = (tin t (k s) (g s) (l s), upN i s 1, if k s = 3 then co - 9 else co) := by
            unfold stp
            rw [if_pos ⟨h1, h2, h3⟩]
          unfold shp
          rw [e]
          exact ih (s + 1) n _ _ _ _ (iI_s s) (by omega) (by omega) (by rw [← e]; exact stp_ok hy)
        · rw [if_pos (by simp (disch := omega) only [L0, L1, L2, L3, L4, L5, L6, L7, L8, L9, L10, L12, L16, L20, L31, L40, L48, L56, L57, L59, L60, L63, L96, L98, L99, L100, L101, L103, L104, L111, L115, L116, L117, L127, L168, L192, L255, L560, L616, L999, L1000, L2000, iI_add, iI_sub, iI_mul, iI_neg, iI_lt, iI_le, iI_eq, rd_rn, wr_rn, rd_rq, wr_rq, Option.bind_some, not_false_eq_true, not_true_eq_false, ↓reduceIte, leT, leF, ltT, ltF, eqT, eqF, Int.toNat_natCast, Int.reduceAdd, Int.reduceSub, Int.reduceMul, Int.reduceToNat])]
          exact nop (by unfold stp; rw [if_neg (fun z => h3 z.2.2)])
      · have h2' : b / 2 ^ s % 2 = 1 := by omega
        rw [if_neg (by rw [h2']; decide)]
        exact nop (by unfold stp; rw [if_neg (fun z => h2 z.2.1)])
    · have h1' : i s = 1 := by omega
      rw [if_neg (by rw [h1']; decide)]
      exact nop (by unfold stp; rw [if_neg (fun z => h1 z.1)])
set_option maxHeartbeats 200000 in
theorem l_goes {u t : Nat → Nat} (hu : ∀ j, u j ≤ 9) (ht : ∀ j, t j ≤ 99) (K : List Int32 → Option (List Int32 × Int32 × Int32 × Int32)) : ∀ (r s n : Nat) (x : Int32) (w : Nat → Nat), x = iI (s : Int) → s + r = 6 → r < n → (∀ j, w j = if j < s then t j - u j else t j) → X0_passDay_L62 K (rn 6 u) n x (rn 6 w) = K (rn 6 (fun j => t j - u j)) := by
  intro r
  induction r with
  | zero =>
    intro s n x w hx hs hn hw
    obtain ⟨n, rfl⟩ : ∃ m, n = m + 1 := ⟨n - 1, by omega⟩
    subst hx
    rw [X0_passDay_L62]
    simp (disch := omega) only [L0, L1, L2, L3, L4, L5, L6, L7, L8, L9, L10, L12, L16, L20, L31, L40, L48, L56, L57, L59, L60, L63, L96, L98, L99, L100, L101, L103, L104, L111, L115, L116, L117, L127, L168, L192, L255, L560, L616, L999, L1000, L2000, iI_add, iI_sub, iI_mul, iI_neg, iI_lt, iI_le, iI_eq, rd_rn, wr_rn, rd_rq, wr_rq, Option.bind_some, not_false_eq_true, not_true_eq_false, ↓reduceIte, leT, leF, ltT, ltF, eqT, eqF, Int.toNat_natCast, Int.reduceAdd, Int.reduceSub, Int.reduceMul, Int.reduceToNat]
    rw [show s = 6 by omega] at hw
    rw [endW (f := fun j => t j - u j) hw]
  | succ r ih =>
    intro s n x w hx hs hn hw
    obtain ⟨n, rfl⟩ : ∃ m, n = m + 1 := ⟨n - 1, by omega⟩
    subst hx
    have b0 := hu s
    have b1 := ht s
    have b2 : w s = t s := by rw [hw s, if_neg (by omega)]
    rw [X0_passDay_L62]
    simp (disch := omega) only [L0, L1, L2, L3, L4, L5, L6, L7, L8, L9, L10, L12, L16, L20, L31, L40, L48, L56, L57, L59, L60, L63, L96, L98, L99, L100, L101, L103, L104, L111, L115, L116, L117, L127, L168, L192, L255, L560, L616, L999, L1000, L2000, iI_add, iI_sub, iI_mul, iI_neg, iI_lt, iI_le, iI_eq, rd_rn, wr_rn, rd_rq, wr_rq, Option.bind_some, not_false_eq_true, not_true_eq_false, ↓reduceIte, leT, leF, ltT, ltF, eqT, eqF, Int.toNat_natCast, Int.reduceAdd, Int.reduceSub, Int.reduceMul, Int.reduceToNat, mmax_iI]
    exact ih (s + 1) n _ _ (iI_c (by omega)) (by omega) (by omega) (stepW (f := fun j => t j - u j) hw (by omega))
set_option maxHeartbeats 200000 in
theorem s_X0_passDay {u hd k f g l t i : Nat → Nat} {sh b co d : Nat} (hE : OkE (u, hd, k, f, g, l)) (hsh : sh ≤ 7) (hb : b < 128) (hX : OkX 2000 (t, i, co, d)) :
    X0_passDay (rn 6 t) (rn 6 u) (rn 6 hd) (rn 7 k) (rn 7 f) (rn 7 g) (rn 7 l) (iI sh) (iI (mk i)) (iI co) (iI d) (iI b) = some (rn 6 (dayX (u, hd, k, f, g, l) sh b 6 (t, i, co, d)).1, iI (mk (dayX (u, hd, k, f, g, l) sh b 6 (t, i, co, d)).2.1), iI (dayX (u, hd, k, f, g, l) sh b 6 (t, i, co, d)).2.2.1, iI (dayX (u, hd, k, f, g, l) sh b 6 (t, i, co, d)).2.2.2) := by
  have hd2 := xD hX
  have hy : OkY (t, i, co) := ⟨hX.1, hX.2.1, hX.2.2.1⟩
  have hz := shp_ok (e := (u, hd, k, f, g, l)) (b := b) (fr := 6) (d := d) sh 0 _ hy
  have htd : X4_tideOf (iI (d : Int)) = some (iI (td d : Int)) := s_X4_tideOf (a := (d : Int)) (by omega) (by omega)
  unfold X0_passDay dayX eve
  rw [htd, Option.bind_some]
  rw [l_ships hE hsh hb (by omega) _ sh 0 1000 0 t i co (by decide) (by omega) (by omega) hy]
  generalize shp (u, hd, k, f, g, l) b 6 d sh 0 (t, i, co) = y at hz ⊢
  obtain ⟨t1, i1, c1⟩ := y
  have z1 := yT hz; have z2 := yI hz; have z3 := yC hz
  have hu := oU hE
  dsimp only
  have z4 := lk_le (fr := 6) (t := fun j => t1 j - u j) hu 0
  rw [l_goes hu z1 _ 6 0 1000 0 t1 (by decide) (by omega) (by omega) (fun j => by rw [if_neg (by omega)])]
  rw [iI_s d, L0, s_X0_lackOf hu (fun j => Nat.le_trans (Nat.sub_le _ _) (z1 j)) (by omega) (by omega), Option.bind_some]
  simp only [Int.reduceToNat]
  by_cases h : lk 6 u (fun j => t1 j - u j) 0 = 0
  · rw [if_pos h, if_pos (show iI ((lk 6 u (fun j => t1 j - u j) 0 : Nat) : Int) ≤ iI 0 by rw [h]; decide)]
  · rw [if_neg h, if_neg (show ¬ iI ((lk 6 u (fun j => t1 j - u j) 0 : Nat) : Int) ≤ iI 0 by rw [iI_le (by omega) (by omega) (by omega) (by omega)]; omega), iI_s c1, L99, mmin_iI (by omega) (by omega) (by omega) (by omega), show (min 99 ((c1 + 1 : Nat) : Int)) = ((min 99 (c1 + 1) : Nat) : Int) by omega]
