/-! JUDGED -/
set_option maxRecDepth 20000 in
set_option maxHeartbeats 400000 in
theorem s_isShip {sh s : Nat} (hsh : sh ≤ 7) (hs : s ≤ 1000) : X0_isShip (iI sh) (iI (s : Int)) = some (if s < sh then 1 else 0) ∧ X5_isShip (iI sh) (iI (s : Int)) = some (if s < sh then 1 else 0) := by
  unfold X0_isShip X5_isShip
  rw [L0, L7, if_neg (flt (by omega) (by omega) (by omega)), if_neg (flt (by omega) (by omega) (by omega))]
  by_cases h : s < sh
  · rw [if_neg (fle (by omega) (by omega) (by omega)), if_neg (fle (by omega) (by omega) (by omega)), if_pos h]
    exact ⟨rfl, if_neg (fle (by omega) (by omega) (by omega))⟩
  · rw [if_pos (tle (by omega) (by omega) (by omega)), if_neg h]
    exact ⟨rfl, if_pos (tle (by omega) (by omega) (by omega))⟩
set_option maxRecDepth 20000 in
set_option maxHeartbeats 400000 in
theorem s_X1_at {G : Nat → Int32} {m n s : Nat} (hn : n ≤ m) (hm : m ≤ 1000) (hs : s < n) : X1_at (rq m G) (iI n) (iI (s : Int)) = some (G s) := by
  unfold X1_at
  rw [rq_len, iI_len, L0, if_neg (flt (by omega) (by omega) (by omega)), if_neg (fle (by omega) (by omega) (by omega)), if_neg (fle (by omega) (by omega) (by omega)), rd_rq (by omega) (by omega) (by omega), Option.bind_some]
  rfl
set_option maxRecDepth 20000 in
set_option maxHeartbeats 400000 in
theorem x_judge {C T U Hd K1 G1 : List Int32} {tl S co d : Int32} {m : Nat} {w : Int32} {x : Int32} (K : Int32 → Option (Int32 × Int32)) (hw : ¬ w = (-9 : Int32)) : X4_judge_L5 K C T U Hd K1 G1 tl S co d (m + 1) w x = K w := by
  rw [X4_judge_L5, X1_length, Option.bind_some, if_neg hw]
  split <;> rfl
set_option maxRecDepth 20000 in
set_option maxHeartbeats 400000 in
theorem l_judge {u hd k f g l t i : Nat → Nat} {sh co d : Nat} {G : Nat → Int32} {n : Nat} (hE : OkE (u, hd, k, f, g, l)) (hsh : sh ≤ 7) (hX : OkX 1000 (t, i, co, d)) (hn : n ≤ 12) : ∀ (r s m : Nat), s + r = n → r + 1 < m → ∃ v, X4_judge_L5 (fun y1_9 => (X1_drop (iI n)).bind fun u_10 => some (u_10, y1_9)) (rq 12 G) (rn 6 t) (rn 6 u) (rn 6 hd) (rn 7 k) (rn 7 g) (iI n) (iI sh) (iI co) (iI d) m (-9) (iI (s : Int)) = some (0, v) ∧ X5_judge_L12 (fun _ => some ((0 : Int32), (-9 : Int32))) (rn 6 t) (rn 6 u) (rn 6 hd) (rn 7 k) (rn 7 g) (rq 12 G) (iI sh) (iI co) (iI d) (iI (fI 6)) 0 (iI n) m (iI (s : Int)) = some (0, v) := by
  have hd1 := xD hX
  intro r
  induction r with
  | zero =>
    intro s m hs hm
    obtain ⟨m, rfl⟩ : ∃ j, m = j + 1 := ⟨m - 1, by omega⟩
    have q : iI (n : Int) ≤ iI (s : Int) := tle (by omega) (by omega) (by omega)
    rw [X4_judge_L5, X5_judge_L12, X1_length, Option.bind_some, if_pos q, if_pos q, X1_drop, Option.bind_some]
    exact ⟨_, rfl, rfl⟩
  | succ r ih =>
    intro s m hs hm
    obtain ⟨m, rfl⟩ : ∃ j, m = j + 1 := ⟨m - 1, by omega⟩
    obtain ⟨m, rfl⟩ : ∃ j, m = j + 1 := ⟨m - 1, by omega⟩
    have q : ¬ iI (n : Int) ≤ iI (s : Int) := fle (by omega) (by omega) (by omega)
    rw [X4_judge_L5, X5_judge_L12, X1_length, Option.bind_some, if_neg q, if_neg q, if_pos rfl, (s_isShip hsh (by omega)).1, Option.bind_some]
    have hx : ∀ x, X4_judge_L5 (fun y1_9 => (X1_drop (iI n)).bind fun u_10 => some (u_10, y1_9)) (rq 12 G) (rn 6 t) (rn 6 u) (rn 6 hd) (rn 7 k) (rn 7 g) (iI n) (iI sh) (iI co) (iI d) (m + 1) (iI (s : Int)) x = some (0, iI (s : Int)) := fun x => by
      rw [x_judge _ (n9 (by omega) (by omega)), X1_drop, Option.bind_some]
    by_cases h : s < sh
    · rw [if_pos h, if_neg c10, if_neg (fle (by omega) (by omega) (by omega)), s_X0_depth (oU hE) (xT hX) (oH hE) (oK hE) (oG hE) (xC hX) (by omega) (by omega) (by omega), s_X5_depth (by omega) (oU hE) (xT hX) (oH hE) (oK hE) (oG hE) (xC hX) (by omega) (by omega) (by omega), Option.bind_some, Option.bind_some, s_X1_at hn (by omega) (by omega), rd_rq (by omega) (by omega) (by omega), Option.bind_some, Option.bind_some, Int.toNat_natCast]
      by_cases c : iI ((td d + sk (lk 6 u t) hd co (k s) (g s) : Nat) : Int) = G s
      · rw [if_pos c, if_pos c, iI_s s]
        exact ih (s + 1) (m + 1) (by omega) (by omega)
      · rw [if_neg c, if_neg c, hx]
        exact ⟨_, rfl, rfl⟩
    · rw [if_neg h, if_pos rfl, if_pos (tle (by omega) (by omega) (by omega)), hx]
      exact ⟨_, rfl, rfl⟩
set_option maxRecDepth 20000 in
set_option maxHeartbeats 400000 in
theorem op_judge {u hd k f g l t i : Nat → Nat} {sh co d : Nat} {G : Nat → Int32} {n : Nat} (hE : OkE (u, hd, k, f, g, l)) (hsh : sh ≤ 7) (hX : OkX 1000 (t, i, co, d)) (hn : n ≤ 12) : ∃ r : Int32, X4_judge (rq 12 G) (rn 6 t) (rn 6 u) (rn 6 hd) (rn 7 k) (rn 7 g) (iI n) (iI sh) (iI co) (iI d) = some (0, r) ∧ X5_judge (rn 6 t) (rn 6 u) (rn 6 hd) (rn 7 k) (rn 7 g) (rq 12 G) (iI sh) (iI co) (iI d) (-9) (iI n) = some (0, r) := by
  unfold X4_judge X5_judge
  rw [f9]
  have h := l_judge (G := G) hE hsh hX hn n 0 1000 (by omega) (by omega)
  rw [f9, z00] at h
  exact h
/-! DEEPEST, SHORTEST, PLENTY, TWINS -/
set_option maxRecDepth 20000 in
set_option maxHeartbeats 400000 in
theorem dr_ge {k f : Nat} : 1 ≤ dr k f := by
  unfold dr
  repeat' split
  all_goals omega
set_option maxRecDepth 20000 in
set_option maxHeartbeats 400000 in
theorem l_deepest {k f : Nat → Nat} {sh : Nat} (hk : ∀ j, k j ≤ 5) (hf : ∀ j, f j ≤ 9) (hsh : sh ≤ 7) : ∀ (r s n b : Nat), s + r = sh → r < n → b < s → ∃ v, X0_deepestShip_L7 (fun y1_5 => some y1_5) (rn 7 k) (rn 7 f) (iI sh) n (iI (b : Int)) (iI (dr (k b) (f b) : Int)) (iI (s : Int)) = some v ∧ X5_deepestOne_L5 (fun y1_5 => some y1_5) (rn 7 k) (rn 7 f) (iI sh) n (iI (b : Int)) (iI (s : Int)) = some v := by
  intro r
  induction r with
  | zero =>
    intro s n b hs hn hb
    obtain ⟨m, rfl⟩ : ∃ m, n = m + 1 := ⟨n - 1, by omega⟩
    have q : iI (sh : Int) ≤ iI (s : Int) := tle (by omega) (by omega) (by omega)
    rw [X0_deepestShip_L7, X5_deepestOne_L5, if_pos q, if_pos q]
    exact ⟨_, rfl, rfl⟩
  | succ r ih =>
    intro s n b hs hn hb
    obtain ⟨m, rfl⟩ : ∃ m, n = m + 1 := ⟨n - 1, by omega⟩
    have q : ¬ iI (sh : Int) ≤ iI (s : Int) := fle (by omega) (by omega) (by omega)
    rw [X0_deepestShip_L7, X5_deepestOne_L5, if_neg q, if_neg q, if_neg (m9 (by omega) (by omega)), s_X0_draws hk hf (by omega) (by omega), s_X5_draws hk hf (by omega) (by omega), s_X5_draws hk hf (by omega) (by omega), Option.bind_some, Option.bind_some, Option.bind_some, Option.bind_some, Int.toNat_natCast, Int.toNat_natCast]
    by_cases c : iI (dr (k s) (f s) : Int) ≤ iI (dr (k b) (f b) : Int)
    · rw [if_pos c, if_pos c, iI_s s]
      exact ih (s + 1) m b (by omega) (by omega) (by omega)
    · rw [if_neg c, if_neg c, iI_s s]
      exact ih (s + 1) m s (by omega) (by omega) (by omega)
set_option maxRecDepth 20000 in
set_option maxHeartbeats 400000 in
theorem s_deepest {k f : Nat → Nat} {sh : Nat} (hk : ∀ j, k j ≤ 5) (hf : ∀ j, f j ≤ 9) (hsh : sh ≤ 7) : ∃ v, X0_deepestShip (rn 7 k) (rn 7 f) (iI sh) = some v ∧ X5_deepestOne (rn 7 k) (rn 7 f) (iI sh) = some v := by
  unfold X0_deepestShip X5_deepestOne
  have b1 := dr_ge (k := k 0) (f := f 0)
  have b2 := dr_le (k := k 0) (hf 0)
  rw [X0_deepestShip_L7, X5_deepestOne_L5]
  by_cases c : sh = 0
  · have q : iI (sh : Int) ≤ (0 : Int32) := by rw [L0]; exact tle (by omega) (by omega) (by omega)
    rw [if_pos q, if_pos q]
    exact ⟨_, rfl, rfl⟩
  · have q : ¬ iI (sh : Int) ≤ (0 : Int32) := by rw [L0]; exact fle (by omega) (by omega) (by omega)
    rw [if_neg q, if_neg q, if_pos nl9, i0, s_X0_draws hk hf (by omega) (by omega), Option.bind_some, Int.toNat_natCast, if_neg (fle (by omega) (by omega) (by omega)), Option.bind_some, iI_s 0]
    exact l_deepest hk hf hsh (sh - 1) 1 999 0 (by omega) (by omega) (by omega)
set_option maxRecDepth 20000 in
set_option maxHeartbeats 400000 in
theorem l_shortest {t u : Nat → Nat} (ht : ∀ j, t j ≤ 99) (hu : ∀ j, u j ≤ 9) : ∀ (r s n b : Nat), s + r = 6 → r < n → b < 6 → ∃ v : Nat, v < 6 ∧ X0_shortestGood_L4 (fun y1_5 => some y1_5) (rn 6 t) (rn 6 u) n (iI (b : Int)) (iI (s : Int)) = some (iI (v : Int)) ∧ X5_shortest_L4 (fun y1_5 => some y1_5) (rn 6 t) (rn 6 u) (iI (fI 6)) n (iI (b : Int)) (iI (s : Int)) = some (iI (v : Int)) := by
  intro r
  induction r with
  | zero =>
    intro s n b hs hn hb
    obtain ⟨m, rfl⟩ : ∃ m, n = m + 1 := ⟨n - 1, by omega⟩
    have q : (6 : Int32) ≤ iI (s : Int) := by rw [L6]; exact tle (by omega) (by omega) (by omega)
    rw [X0_shortestGood_L4, X5_shortest_L4, if_pos q, if_pos q]
    exact ⟨b, hb, rfl, rfl⟩
  | succ r ih =>
    intro s n b hs hn hb
    obtain ⟨m, rfl⟩ : ∃ m, n = m + 1 := ⟨n - 1, by omega⟩
    have q : ¬ (6 : Int32) ≤ iI (s : Int) := by rw [L6]; exact fle (by omega) (by omega) (by omega)
    rw [X0_shortestGood_L4, X5_shortest_L4, if_neg q, if_neg q, s_X0_lackOf hu ht (by omega) (by omega), s_X0_lackOf hu ht (by omega) (by omega), s_X5_lack (by omega) hu ht (by omega) (by omega), s_X5_lack (by omega) hu ht (by omega) (by omega), Option.bind_some, Option.bind_some, Option.bind_some, Option.bind_some, Int.toNat_natCast, Int.toNat_natCast]
    by_cases c : iI (lk 6 u t s : Int) ≤ iI (lk 6 u t b : Int)
    · rw [if_pos c, if_pos c, iI_s s]
      exact ih (s + 1) m b (by omega) (by omega) (by omega)
    · rw [if_neg c, if_neg c, iI_s s]
      exact ih (s + 1) m s (by omega) (by omega) (by omega)
set_option maxRecDepth 20000 in
set_option maxHeartbeats 400000 in
theorem s_shortest {t u : Nat → Nat} (ht : ∀ j, t j ≤ 99) (hu : ∀ j, u j ≤ 9) : ∃ v : Nat, v < 6 ∧ X0_shortestGood (rn 6 t) (rn 6 u) = some (iI (v : Int)) ∧ X5_shortest (rn 6 t) (rn 6 u) (iI (fI 6)) = some (iI (v : Int)) := by
  unfold X0_shortestGood X5_shortest
  have h := l_shortest ht hu 5 1 1000 0 (by omega) (by omega) (by omega)
  rw [z00, z11] at h
  exact h
set_option maxRecDepth 20000 in
set_option maxHeartbeats 400000 in
theorem l_plentiful {t u : Nat → Nat} : ∀ (r s n : Nat) (x : Int32), s + r = 6 → r < n → ∃ v, X0_plenty_L4 (fun y1_5 => some y1_5) (rn 6 t) (rn 6 u) n x (iI (s : Int)) = some v ∧ X5_plentiful_L4 (fun y1_5 => some y1_5) (rn 6 t) (rn 6 u) n x (iI (s : Int)) = some v := by
  intro r
  induction r with
  | zero =>
    intro s n x hs hn
    obtain ⟨m, rfl⟩ : ∃ m, n = m + 1 := ⟨n - 1, by omega⟩
    have q : (6 : Int32) ≤ iI (s : Int) := by rw [L6]; exact tle (by omega) (by omega) (by omega)
    rw [X0_plenty_L4, X5_plentiful_L4, if_pos q, if_pos q]
    exact ⟨_, rfl, rfl⟩
  | succ r ih =>
    intro s n x hs hn
    obtain ⟨m, rfl⟩ : ∃ m, n = m + 1 := ⟨n - 1, by omega⟩
    have q : ¬ (6 : Int32) ≤ iI (s : Int) := by rw [L6]; exact fle (by omega) (by omega) (by omega)
    rw [X0_plenty_L4, X5_plentiful_L4, if_neg q, if_neg q, rd_rn (by omega) (by omega) (by omega), rd_rn (by omega) (by omega) (by omega), Option.bind_some, Option.bind_some, Option.bind_some, Option.bind_some, Int.toNat_natCast]
    by_cases c : iI (t s : Int) ≤ (7 : Int32) * iI (u s : Int)
    · rw [if_pos c, if_pos c, iI_s s, show x ||| 0 = x by simp]
      exact ih (s + 1) m _ (by omega) (by omega)
    · rw [if_neg c, if_neg c, iI_s s]
      exact ih (s + 1) m _ (by omega) (by omega)
def eqv (g : Nat → Nat) (a b : Nat) : Nat := if g a = g b then 1 else 0
def si (g : Nat → Nat) (a : Nat) : Nat → Nat → Nat
  | 0, _ => 0
  | r + 1, s => eqv g a s + si g a r (s + 1)
def so4 (g : Nat → Nat) : Nat → Nat → Nat
  | 0, _ => 0
  | r + 1, s => si g s s 0 + so4 g r (s + 1)
def so5 (g : Nat → Nat) (sh : Nat) : Nat → Nat → Nat
  | 0, _ => 0
  | r + 1, s => si g s (sh - (s + 1)) (s + 1) + so5 g sh r (s + 1)
set_option maxRecDepth 20000 in
set_option maxHeartbeats 400000 in
theorem eqv_c {g : Nat → Nat} (a b : Nat) : eqv g a b = eqv g b a := by
  unfold eqv
  by_cases h : g a = g b
  · rw [if_pos h, if_pos h.symm]
  · rw [if_neg h, if_neg (fun z => h z.symm)]
set_option maxRecDepth 20000 in
set_option maxHeartbeats 400000 in
theorem l_tw4 {g : Nat → Nat} {a : Nat} (hg : ∀ j, g j ≤ 5) (ha : a < 7) (K : Int32 → Option Int32) : ∀ (r s n c : Nat), s + r = a → r < n → X0_twins_L14 K (rn 7 g) (iI (a : Int)) n (iI (c : Int)) (iI (s : Int)) = K (iI ((c + si g a r s : Nat) : Int)) := by
  intro r
  induction r with
  | zero =>
    intro s n c hs hn
    obtain ⟨m, rfl⟩ : ∃ m, n = m + 1 := ⟨n - 1, by omega⟩
    rw [X0_twins_L14, if_pos (tle (by omega) (by omega) (by omega))]
    rfl
  | succ r ih =>
    intro s n c hs hn
    obtain ⟨m, rfl⟩ : ∃ m, n = m + 1 := ⟨n - 1, by omega⟩
    have b1 := hg a
    have b2 := hg s
    rw [X0_twins_L14, if_neg (fle (by omega) (by omega) (by omega)), rd_rn (by omega) (by omega) (by omega), rd_rn (by omega) (by omega) (by omega), Option.bind_some, Option.bind_some, Int.toNat_natCast, Int.toNat_natCast]
    unfold si eqv
    by_cases h : g a = g s
    · rw [if_pos (by rw [h]), if_pos h, iI_s s, iI_s c, ih (s + 1) m (c + 1) (by omega) (by omega), Nat.add_assoc]
    · rw [if_neg (feq (by omega) (by omega) (by omega) (by omega) (by omega)), if_neg h, iI_s s, ih (s + 1) m c (by omega) (by omega), Nat.zero_add]
set_option maxRecDepth 20000 in
set_option maxHeartbeats 400000 in
theorem l_tw5 {g : Nat → Nat} {a sh : Nat} (hg : ∀ j, g j ≤ 5) (hsh : sh ≤ 7) (ha : a < 7) (K : Int32 → Option Int32) : ∀ (r s n c : Nat), s + r = sh → r < n → X5_twins_L16 K (rn 7 g) (iI sh) (iI (a : Int)) n (iI (c : Int)) (iI (s : Int)) = K (iI ((c + si g a r s : Nat) : Int)) := by
  intro r
  induction r with
  | zero =>
    intro s n c hs hn
    obtain ⟨m, rfl⟩ : ∃ m, n = m + 1 := ⟨n - 1, by omega⟩
    rw [X5_twins_L16, if_pos (tle (by omega) (by omega) (by omega))]
    rfl
  | succ r ih =>
    intro s n c hs hn
    obtain ⟨m, rfl⟩ : ∃ m, n = m + 1 := ⟨n - 1, by omega⟩
    have b1 := hg a
    have b2 := hg s
    rw [X5_twins_L16, if_neg (fle (by omega) (by omega) (by omega)), rd_rn (by omega) (by omega) (by omega), rd_rn (by omega) (by omega) (by omega), Option.bind_some, Option.bind_some, Int.toNat_natCast, Int.toNat_natCast]
    unfold si eqv
    by_cases h : g a = g s
    · rw [if_pos (by rw [h]), if_pos h, iI_s s, iI_s c, ih (s + 1) m (c + 1) (by omega) (by omega), Nat.add_assoc]
    · rw [if_neg (feq (by omega) (by omega) (by omega) (by omega) (by omega)), if_neg h, iI_s s, show iI (c : Int) + 0 = iI (c : Int) by simp, ih (s + 1) m c (by omega) (by omega), Nat.zero_add]
set_option maxRecDepth 20000 in
set_option maxHeartbeats 400000 in
theorem l_two4 {g : Nat → Nat} {sh : Nat} (hg : ∀ j, g j ≤ 5) (hsh : sh ≤ 7) : ∀ (r s n c : Nat), s + r = sh → r < n → X0_twins_L4 (fun y1_6 => some y1_6) (rn 7 g) (iI sh) n (iI (c : Int)) (iI (s : Int)) = some (iI ((c + so4 g r s : Nat) : Int)) := by
  intro r
  induction r with
  | zero =>
    intro s n c hs hn
    obtain ⟨m, rfl⟩ : ∃ m, n = m + 1 := ⟨n - 1, by omega⟩
    rw [X0_twins_L4, if_pos (tle (by omega) (by omega) (by omega))]
    rfl
  | succ r ih =>
    intro s n c hs hn
    obtain ⟨m, rfl⟩ : ∃ m, n = m + 1 := ⟨n - 1, by omega⟩
    rw [X0_twins_L4, if_neg (fle (by omega) (by omega) (by omega)), i0, l_tw4 hg (by omega) _ s 0 1000 c (by omega) (by omega), iI_s s, ih (s + 1) m _ (by omega) (by omega), Nat.add_assoc]
    rfl
set_option maxRecDepth 20000 in
set_option maxHeartbeats 400000 in
theorem l_two5 {g : Nat → Nat} {sh : Nat} (hg : ∀ j, g j ≤ 5) (hsh : sh ≤ 7) : ∀ (r s n c : Nat), s + r = sh → r < n → X5_twins_L4 (fun y1_6 => some y1_6) (rn 7 g) (iI sh) n (iI (c : Int)) (iI (s : Int)) = some (iI ((c + so5 g sh r s : Nat) : Int)) := by
  intro r
  induction r with
  | zero =>
    intro s n c hs hn
    obtain ⟨m, rfl⟩ : ∃ m, n = m + 1 := ⟨n - 1, by omega⟩
    rw [X5_twins_L4, if_pos (tle (by omega) (by omega) (by omega))]
    rfl
  | succ r ih =>
    intro s n c hs hn
    obtain ⟨m, rfl⟩ : ∃ m, n = m + 1 := ⟨n - 1, by omega⟩
    rw [X5_twins_L4, if_neg (fle (by omega) (by omega) (by omega)), iI_s s, l_tw5 hg hsh (by omega) _ (sh - (s + 1)) (s + 1) 1000 c (by omega) (by omega), ih (s + 1) m _ (by omega) (by omega), Nat.add_assoc]
    rfl
set_option maxRecDepth 20000 in
set_option maxHeartbeats 400000 in
theorem tw_eq {g : Nat → Nat} {sh : Nat} (hsh : sh ≤ 7) : so4 g sh 0 = so5 g sh sh 0 := by
  rcases (by omega : sh = 0 ∨ sh = 1 ∨ sh = 2 ∨ sh = 3 ∨ sh = 4 ∨ sh = 5 ∨ sh = 6 ∨ sh = 7) with rfl | rfl | rfl | rfl | rfl | rfl | rfl | rfl <;>
    simp only [so4, so5, si, Nat.reduceSub, Nat.reduceAdd, eqv_c 1 0, eqv_c 2 0, eqv_c 3 0, eqv_c 4 0, eqv_c 5 0, eqv_c 6 0, eqv_c 2 1, eqv_c 3 1, eqv_c 4 1, eqv_c 5 1, eqv_c 6 1, eqv_c 3 2, eqv_c 4 2, eqv_c 5 2, eqv_c 6 2, eqv_c 4 3, eqv_c 5 3, eqv_c 6 3, eqv_c 5 4, eqv_c 6 4, eqv_c 6 5] <;> omega
set_option maxRecDepth 20000 in
set_option maxHeartbeats 400000 in
theorem op_deepest {t u k f g : Nat → Nat} {sh : Nat} {R : List Int32} {p : Int32} (ht : ∀ j, t j ≤ 99) (hu : ∀ j, u j ≤ 9) (hk : ∀ j, k j ≤ 5) (hf : ∀ j, f j ≤ 9) (hg : ∀ j, g j ≤ 5) (hsh : sh ≤ 7) (hR : R.length = 7) : ∃ (R1 : List Int32) (r : Int32), X4_deepest R (rn 6 t) (rn 6 u) (rn 7 k) (rn 7 f) (rn 7 g) (iI sh) p = some (R1, r) ∧ X5_deepest R (rn 6 t) (rn 6 u) (rn 7 k) (rn 7 f) (rn 7 g) (iI sh) (-9) p = some (R1, r) ∧ R1.length = 7 := by
  have h2 := s_refuse (R := R) (c := 2) hR (by omega) (by omega)
  unfold X4_deepest X5_deepest
  rw [f9]
  obtain ⟨b, hb, s1, s2⟩ := s_shortest ht hu
  by_cases c0 : p = (0 : Int32)
  · obtain ⟨v, d1, d2⟩ := s_deepest hk hf hsh
    rw [if_pos c0, if_pos c0, d1, d2, Option.bind_some]
    exact exr hR
  rw [if_neg c0, if_neg c0]
  by_cases c1 : p = (1 : Int32)
  · rw [if_pos c1, if_pos c1, s1, s2, Option.bind_some]
    exact exr hR
  rw [if_neg c1, if_neg c1]
  by_cases c2 : p = (2 : Int32)
  · rw [if_pos c2, if_pos c2, s1, s2, Option.bind_some, Option.bind_some, s_X0_lackOf hu ht (by omega) (by omega), s_X5_lack (by omega) hu ht (by omega) (by omega), Option.bind_some]
    exact exr hR
  rw [if_neg c2, if_neg c2]
  by_cases c3 : p = (3 : Int32)
  · have h := l_plentiful (t := t) (u := u) 6 0 1000 0 (by omega) (by omega)
    rw [z00] at h
    obtain ⟨v, d1, d2⟩ := h
    unfold X0_plenty X5_plentiful
    rw [if_pos c3, if_pos c3, d1, d2, Option.bind_some]
    exact exr hR
  rw [if_neg c3, if_neg c3]
  by_cases c4 : p = (4 : Int32)
  · have d1 := l_two4 hg hsh sh 0 1000 0 (by omega) (by omega)
    have d2 := l_two5 hg hsh sh 0 1000 0 (by omega) (by omega)
    rw [z00, tw_eq hsh] at d1
    rw [z00] at d2
    unfold X0_twins X5_twins
    rw [if_pos c4, if_pos c4, d1, d2, Option.bind_some]
    exact exr hR
  rw [if_neg c4, if_neg c4, m2, h2.1, h2.2, Option.bind_some]
  exact exr (incR_len.trans hR)
