/-! what was: pictures of the harbour, kept -/
abbrev SS : Type := Env × Nat × XX
/-- a harbour as it can be -/
def OkS (S : SS) : Prop := OkE S.1 ∧ (∀ j, S.1.2.1 j ≤ 99) ∧ S.2.1 ≤ 7 ∧ OkX 999 S.2.2 ∧ OutI S.2.1 S.2.2.2.1
def picH (S : SS) : Hs := (rn 6 S.2.2.1, rn 6 S.1.1, rn 6 S.1.2.1, rn 7 S.1.2.2.1, rn 7 S.1.2.2.2.1, rn 7 S.1.2.2.2.2.1, rn 7 S.1.2.2.2.2.2, iI S.2.1, iI (mk S.2.2.2.1), iI S.2.2.2.2.1, iI S.2.2.2.2.2)
set_option maxRecDepth 20000 in
set_option maxHeartbeats 400000 in
theorem picMJ {S : SS} : MJ (picH S) := ⟨rn_len, rn_len, rn_len, rn_len, rn_len, rn_len, rn_len⟩
set_option maxRecDepth 20000 in
set_option maxHeartbeats 400000 in
theorem sE {S : SS} (h : OkS S) : OkE S.1 := h.1
set_option maxRecDepth 20000 in
set_option maxHeartbeats 400000 in
theorem sSh {S : SS} (h : OkS S) : S.2.1 ≤ 7 := h.2.2.1
set_option maxRecDepth 20000 in
set_option maxHeartbeats 400000 in
theorem sX {S : SS} (h : OkS S) : OkX 999 S.2.2 := h.2.2.2.1
set_option maxRecDepth 20000 in
set_option maxHeartbeats 400000 in
theorem sO {S : SS} (h : OkS S) : OutI S.2.1 S.2.2.2.1 := h.2.2.2.2
set_option maxRecDepth 20000 in
set_option maxHeartbeats 400000 in
theorem OkS.mk1 {u hd k f g l t i : Nat → Nat} {sh co d : Nat} (hE : OkE (u, hd, k, f, g, l)) (hh : ∀ j, hd j ≤ 99) (hsh : sh ≤ 7) (hX : OkX 999 (t, i, co, d)) (hO : OutI sh i) : OkS ((u, hd, k, f, g, l), sh, (t, i, co, d)) := ⟨hE, hh, hsh, hX, hO⟩
/-- slot w of the kept row is as S was -/
def slot (F : Nat → Int32) (w : Nat) (S : SS) : Prop := ∀ c, c < 56 → F (56 * w + c) = flat S.1 S.2.1 S.2.2 c
set_option maxRecDepth 20000 in
set_option maxHeartbeats 400000 in
theorem slot_put {F : Nat → Int32} {w : Nat} {S : SS} : slot (put F (56 * w) 56 (flat S.1 S.2.1 S.2.2)) w S := by
  intro c hc
  unfold put
  rw [if_pos (by omega), show 56 * w + c - 56 * w = c by omega]
set_option maxRecDepth 20000 in
set_option maxHeartbeats 400000 in
theorem slot_put2 {F G : Nat → Int32} {w v : Nat} {S : SS} (hw : ¬ w = v) (h : slot F w S) : slot (put F (56 * v) 56 G) w S := by
  intro c hc
  unfold put
  rw [if_neg (by omega)]
  exact h c hc
set_option maxRecDepth 20000 in
set_option maxHeartbeats 400000 in
theorem slot_kp {F F1 : Nat → Int32} {w : Nat} {S : SS} (hw : w = 0 ∨ 3 ≤ w) (hk : Kp F F1) (h : slot F w S) : slot F1 w S := by
  intro c hc
  rw [hk _ (by omega)]
  exact h c hc
def HI (b : Nat) (perm : Nat → Nat) (hist : Nat → Hs) (F : Nat → Int32) : Prop := b ≤ 8 ∧ (∀ j, j < 8 → perm j < 8) ∧ (∀ i j, i < 8 → j < 8 → perm i = perm j → i = j) ∧ (∀ j, j < 8 → MJ (hist j)) ∧ ∃ Sf : Nat → SS, ∀ j, j < b → OkS (Sf j) ∧ hist (perm j) = picH (Sf j) ∧ slot F (3 + j) (Sf j)
set_option maxRecDepth 20000 in
set_option maxHeartbeats 400000 in
theorem HI.kp {b : Nat} {perm : Nat → Nat} {hist : Nat → Hs} {F F1 : Nat → Int32} (h : HI b perm hist F) (hk : Kp F F1) : HI b perm hist F1 := by
  obtain ⟨h1, h2, h3, h4, Sf, h5⟩ := h
  exact ⟨h1, h2, h3, h4, Sf, fun j hj => ⟨(h5 j hj).1, (h5 j hj).2.1, slot_kp (by omega) hk (h5 j hj).2.2⟩⟩
set_option maxRecDepth 20000 in
set_option maxHeartbeats 400000 in
theorem HI.zero {b : Nat} {perm : Nat → Nat} {hist : Nat → Hs} {F F1 : Nat → Int32} (h : HI b perm hist F) : HI 0 perm hist F1 := by
  obtain ⟨h1, h2, h3, h4, Sf, h5⟩ := h
  exact ⟨by omega, h2, h3, h4, Sf, fun j hj => absurd hj (by omega)⟩
set_option maxRecDepth 20000 in
set_option maxHeartbeats 400000 in
theorem pok_ok {perm : Nat → Nat} (h : ∀ j, j < 8 → perm j < 8) : pok perm = true := by
  unfold pok
  rw [List.all_eq_true]
  intro j hj
  exact decide_eq_true (h j (List.mem_range.mp hj))
-- one is kept more, there is room
set_option maxRecDepth 20000 in
set_option maxHeartbeats 400000 in
theorem s_keep2 {S : SS} {b : Nat} {perm : Nat → Nat} {hist : Nat → Hs} {n1 n2 n3 n4 n5 n6 n7 : List Int32} {m1 m2 m3 m4 : Int32} (hb : b < 8) (hm : MJ (hist (perm b))) (hn : MJ (n1, n2, n3, n4, n5, n6, n7, m1, m2, m3, m4)) : keep2 n1 n2 n3 n4 n5 n6 n7 m1 m2 m3 m4 (iI (b : Int)) perm hist = some (iI ((b + 1 : Nat) : Int), perm, uph hist (perm b) (n1, n2, n3, n4, n5, n6, n7, m1, m2, m3, m4)) := by
  have e : (iI (b : Int)).toNatClampNeg = b := by
    rw [iI_nat (by omega) (by omega)]; omega
  unfold keep2
  rw [e, if_pos ⟨by rw [L0]; exact tle (by omega) (by omega) (by omega), hb⟩, s_copy hm hn, Option.bind_some, iI_s]
set_option maxRecDepth 20000 in
set_option maxHeartbeats 400000 in
theorem HI.more {b : Nat} {perm : Nat → Nat} {hist : Nat → Hs} {F : Nat → Int32} {S : SS} (h : HI b perm hist F) (hb : b < 8) (hS : OkS S) : HI (b + 1) perm (uph hist (perm b) (picH S)) (put F (56 * (3 + b)) 56 (flat S.1 S.2.1 S.2.2)) := by
  obtain ⟨h1, h2, h3, h4, Sf, h5⟩ := h
  refine ⟨by omega, h2, h3, fun j hj => ?_, fun j => if j = b then S else Sf j, fun j hj => ?_⟩
  · unfold uph
    by_cases c : j = perm b
    · rw [if_pos c]; exact picMJ
    · rw [if_neg c]; exact h4 j hj
  · by_cases c : j = b
    · subst c
      dsimp only
      rw [if_pos rfl]
      refine ⟨hS, ?_, slot_put⟩
      unfold uph
      rw [if_pos rfl]
    · dsimp only
      rw [if_neg c]
      obtain ⟨k1, k2, k3⟩ := h5 j (by omega)
      refine ⟨k1, ?_, slot_put2 (by omega) k3⟩
      unfold uph
      rw [if_neg (fun z => c (h3 j b (by omega) hb z))]
      exact k2
/-- the oldest is forgotten -/
def shF (F : Nat → Int32) (m : Nat) : Nat → Int32 := fun j => if 168 ≤ j ∧ j < 168 + m then F (j + 56) else F j
set_option maxRecDepth 20000 in
set_option maxHeartbeats 400000 in
theorem l_shift {F : Nat → Int32} (K : List Int32 → Option (List Int32 × List Int32 × List Int32 × List Int32 × List Int32 × List Int32 × List Int32 × List Int32 × List Int32 × Int32 × Int32 × Int32 × Int32 × Int32 × Int32)) : ∀ (r s n : Nat), s + r = 392 → r < n → X5_keepsBack_L13 K n (iI ((168 + s : Nat) : Int)) (rq 616 (shF F s)) = K (rq 616 (shF F 392)) := by
  intro r
  induction r with
  | zero =>
    intro s n hs hn
    obtain ⟨n, rfl⟩ : ∃ m, n = m + 1 := ⟨n - 1, by omega⟩
    rw [X5_keepsBack_L13, L560, if_pos (tle (by omega) (by omega) (by omega)), show s = 392 by omega]
  | succ r ih =>
    intro s n hs hn
    obtain ⟨n, rfl⟩ : ∃ m, n = m + 1 := ⟨n - 1, by omega⟩
    rw [X5_keepsBack_L13, L560, if_neg (fle (by omega) (by omega) (by omega)), show (56 : Int32) = iI 56 by decide, iI_add, rd_rq (by omega) (by omega) (by omega), Option.bind_some, wr_rq (by omega) (by omega) (by omega), Option.bind_some, iI_s, show (((168 + s : Nat) : Int) + 56).toNat = 168 + s + 56 by omega, Int.toNat_natCast]
    have e : upF (shF F s) (168 + s) (shF F s (168 + s + 56)) = shF F (s + 1) := by
      funext j
      unfold upF shF
      by_cases a : j = 168 + s
      · subst a
        rw [if_pos rfl, if_neg (by omega), if_pos (by omega)]
      · rw [if_neg a]
        by_cases b : 168 ≤ j ∧ j < 168 + s
        · rw [if_pos b, if_pos (by omega)]
        · rw [if_neg b, if_neg (by omega)]
    rw [e]
    exact ih (s + 1) n (by omega) (by omega)
set_option maxRecDepth 20000 in
set_option maxHeartbeats 400000 in
theorem HI.shift {perm : Nat → Nat} {hist : Nat → Hs} {F : Nat → Int32} (h : HI 8 perm hist F) : HI 7 (rotp perm) hist (shF F 392) := by
  obtain ⟨h1, h2, h3, h4, Sf, h5⟩ := h
  have r7 : ∀ j, j < 7 → rotp perm j = perm (j + 1) := fun j hj => by unfold rotp; rw [if_pos hj]
  have r8 : rotp perm 7 = perm 0 := by unfold rotp; rw [if_neg (by omega), if_pos rfl]
  refine ⟨by omega, fun j hj => ?_, fun i j hi hj e => ?_, h4, fun j => Sf (j + 1), fun j hj => ?_⟩
  · by_cases c : j < 7
    · rw [r7 j c]; exact h2 _ (by omega)
    · rw [show j = 7 by omega, r8]; exact h2 0 (by omega)
  · by_cases ci : i < 7 <;> by_cases cj : j < 7
    · rw [r7 i ci, r7 j cj] at e
      have := h3 _ _ (by omega) (by omega) e
      omega
    · rw [r7 i ci, show j = 7 by omega, r8] at e
      have := h3 _ _ (by omega) (by omega) e
      omega
    · rw [r7 j cj, show i = 7 by omega, r8] at e
      have := h3 _ _ (by omega) (by omega) e
      omega
    · omega
  · obtain ⟨k1, k2, k3⟩ := h5 (j + 1) (by omega)
    refine ⟨k1, by rw [r7 j hj]; exact k2, fun c hc => ?_⟩
    unfold shF
    rw [if_pos (by omega), show 56 * (3 + j) + c + 56 = 56 * (3 + (j + 1)) + c by omega]
    exact k3 c hc
set_option maxRecDepth 20000 in
set_option maxHeartbeats 400000 in
theorem s_keep {u hd k f g l t i : Nat → Nat} {sh co d : Nat} {b : Nat} {perm : Nat → Nat} {hist : Nat → Hs} {F : Nat → Int32} {z1 z2 : Int32} (hS : OkS ((u, hd, k, f, g, l), sh, (t, i, co, d))) (hH : HI b perm hist F) : ∃ (b1 : Nat) (perm1 : Nat → Nat) (hist1 : Nat → Hs) (F1 : Nat → Int32) (y : Int32), X2_keep (rn 6 t) (rn 6 u) (rn 6 hd) (rn 7 k) (rn 7 f) (rn 7 g) (rn 7 l) (iI sh) (iI (mk i)) (iI co) (iI d) (iI (b : Int)) perm hist = some (iI (b1 : Int), perm1, hist1) ∧ X5_keepsBack (rn 6 t) (rn 6 u) (rn 6 hd) (rn 7 k) (rn 7 f) (rn 7 g) (rn 7 l) (rn 7 i) (rq 616 F) (iI sh) (iI co) (iI d) z1 z2 (iI (b : Int)) = some (rn 6 t, rn 6 u, rn 6 hd, rn 7 k, rn 7 f, rn 7 g, rn 7 l, rn 7 i, rq 616 F1, iI sh, iI co, iI d, 1, y, iI (b1 : Int)) ∧ HI b1 perm1 hist1 F1 ∧ (∀ c, c < 56 → F1 c = F c) := by
  have h8 : b ≤ 8 := hH.1
  have hp := pok_ok hH.2.1
  have hn : MJ (rn 6 t, rn 6 u, rn 6 hd, rn 7 k, rn 7 f, rn 7 g, rn 7 l, iI sh, iI (mk i), iI co, iI d) := ⟨rn_len, rn_len, rn_len, rn_len, rn_len, rn_len, rn_len⟩
  unfold X2_keep X5_keepsBack
  rw [if_pos hp, show (8 : Int32) = iI 8 by decide]
  by_cases c : b = 8
  · subst c
    have hH7 := hH.shift
    have hm : MJ (hist (rotp perm 7)) := hH.2.2.2.1 _ (by unfold rotp; rw [if_neg (by omega), if_pos rfl]; exact hH.2.1 0 (by omega))
    have e := l_shift (F := F) (fun kept_7 => (X5_passesAll (rn 6 t) (rn 6 u) (rn 6 hd) (rn 7 k) (rn 7 f) (rn 7 g) (rn 7 l) (rn 7 i) kept_7 (iI sh) (iI co) (iI d) z1 z2 (3 + (iI ((8 : Nat) : Int) - 1)) 1).bind fun u_8 => some (u_8.1, u_8.2.1, u_8.2.2.1, u_8.2.2.2.1, u_8.2.2.2.2.1, u_8.2.2.2.2.2.1, u_8.2.2.2.2.2.2.1, u_8.2.2.2.2.2.2.2.1, u_8.2.2.2.2.2.2.2.2.1, u_8.2.2.2.2.2.2.2.2.2.1, u_8.2.2.2.2.2.2.2.2.2.2.1, u_8.2.2.2.2.2.2.2.2.2.2.2.1, u_8.2.2.2.2.2.2.2.2.2.2.2.2.1, u_8.2.2.2.2.2.2.2.2.2.2.2.2.2, ((iI ((8 : Nat) : Int) - 1) + 1))) 392 0 1000 (by omega) (by omega)
    rw [show shF F 0 = F by funext j; unfold shF; rw [if_neg (by omega)], show iI ((168 + 0 : Nat) : Int) = (168 : Int32) by decide] at e
    rw [if_neg (by decide), if_pos (show iI ((8 : Nat) : Int) = iI 8 from rfl), e, show (3 : Int32) + (iI ((8 : Nat) : Int) - 1) = iI ((10 : Nat) : Int) by decide, s_keepAll (by omega), Option.bind_some, show (7 : Int32) = iI ((7 : Nat) : Int) by decide, s_keep2 (S := ((u, hd, k, f, g, l), sh, (t, i, co, d))) (by omega) hm hn]
    exact ⟨8, _, _, _, _, rfl, rfl, hH7.more (by omega) hS, fun c hc => by unfold put shF; rw [if_neg (by omega), if_neg (by omega)]⟩
  · have hm : MJ (hist (perm b)) := hH.2.2.2.1 _ (hH.2.1 _ (by omega))
    rw [if_pos (tlt (by omega) (by omega) (by omega)), if_neg (feq (by omega) (by omega) (by omega) (by omega) (by omega)), s_keep2 (S := ((u, hd, k, f, g, l), sh, (t, i, co, d))) (by omega) hm hn, show (3 : Int32) + iI (b : Int) = iI ((3 + b : Nat) : Int) by rw [L3, iI_add]; rfl, s_keepAll (by omega), Option.bind_some, iI_s]
    exact ⟨b + 1, _, _, _, _, rfl, rfl, hH.more (by omega) hS, fun c hc => by unfold put; rw [if_neg (by omega)]⟩
