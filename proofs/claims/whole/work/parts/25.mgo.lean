/-! the reference's DAY goes by -/
set_option maxHeartbeats 200000 in
theorem l_mships {u hd k f g l : Nat → Nat} {sh b fr d : Nat} (hf : fr ≤ 6) (hE : OkE (u, hd, k, f, g, l)) (hsh : sh ≤ 7) (hb : b < 128) (hd2 : d < 2100) (K : List Int32 → List Int32 → Int32 → Option (List Int32 × List Int32 × Int32 × Int32)) : ∀ (r s n : Nat) (x : Int32) (t i : Nat → Nat) (co : Nat), x = iI (s : Int) → s + r = sh → r < n → OkY (t, i, co) →
    X5_goesDay_L2 K (rn 6 u) (rn 6 hd) (rn 7 k) (rn 7 f) (rn 7 g) (rn 7 l) (iI sh) (iI d) (iI b) (iI (fI fr)) 0 n x (rn 6 t) (rn 7 i) (iI co) = K (rn 6 (shp (u, hd, k, f, g, l) b fr d r s (t, i, co)).1) (rn 7 (shp (u, hd, k, f, g, l) b fr d r s (t, i, co)).2.1) (iI (shp (u, hd, k, f, g, l) b fr d r s (t, i, co)).2.2) := by
  have hu := oU hE; have hh := oH hE; have hk := oK hE; have hg := oG hE; have hl := oL hE
  intro r
  induction r with
  | zero =>
    intro s n x t i co hx hs hn hy
    obtain ⟨n, rfl⟩ : ∃ m, n = m + 1 := ⟨n - 1, by omega⟩
    subst hx
    rw [X5_goesDay_L2, if_pos (tle (by omega) (by omega) (by omega))]
    rfl
  | succ r ih =>
    intro s n x t i co hx hs hn hy
    obtain ⟨n, rfl⟩ : ∃ m, n = m + 1 := ⟨n - 1, by omega⟩
    subst hx
    have ht := yT hy; have hi := yI hy; have hco := yC hy
    rw [X5_goesDay_L2, if_neg (fle (by omega) (by omega) (by omega)), if_pos (by decide), s_X5_canCome hf hE hb hd2 (by omega) hy, Option.bind_some, iI_s s]
    unfold shp
    by_cases h : i s = 0 ∧ b / 2 ^ s % 2 = 0 ∧ dr (k s) (f s) ≤ td d + sk (lk fr u t) hd co (k s) (g s)
    · have e : stp (u, hd, k, f, g, l) b fr d s (t, i, co) = (tin t (k s) (g s) (l s), upN i s 1, if k s = 3 then co - 9 else co) := by
        unfold stp
        rw [if_pos h]
      rw [if_pos h, if_neg (by decide), L1, wr_rn (by omega) (by omega) (by omega) (by omega), Option.bind_some, s_X5_bringsAll ht hk hg hl hco (by omega) (by omega), Option.bind_some, Int.toNat_natCast, e]
      have z := stp_ok (e := (u, hd, k, f, g, l)) (b := b) (fr := fr) (d := d) (s := s) hy
      rw [e] at z
      exact ih (s + 1) n _ _ _ _ rfl (by omega) (by omega) z
    · have e : stp (u, hd, k, f, g, l) b fr d s (t, i, co) = (t, i, co) := by
        unfold stp
        rw [if_neg h]
      rw [if_neg h, if_pos (by decide), e]
      exact ih (s + 1) n _ _ _ _ rfl (by omega) (by omega) hy
set_option maxHeartbeats 200000 in
theorem l_mgoes {u t : Nat → Nat} (hu : ∀ j, u j ≤ 9) (ht : ∀ j, t j ≤ 99) (K : List Int32 → Option (List Int32 × List Int32 × Int32 × Int32)) : ∀ (r s n : Nat) (x : Int32) (w : Nat → Nat), x = iI (s : Int) → s + r = 6 → r < n → (∀ j, w j = if j < s then t j - u j else t j) → X5_goesDay_L45 K (rn 6 u) n x (rn 6 w) = K (rn 6 (fun j => t j - u j)) := by
  intro r
  induction r with
  | zero =>
    intro s n x w hx hs hn hw
    obtain ⟨n, rfl⟩ : ∃ m, n = m + 1 := ⟨n - 1, by omega⟩
    subst hx
    rw [X5_goesDay_L45, if_pos (by rw [L6]; exact tle (by omega) (by omega) (by omega))]
    rw [show s = 6 by omega] at hw
    rw [endW (f := fun j => t j - u j) hw]
  | succ r ih =>
    intro s n x w hx hs hn hw
    obtain ⟨n, rfl⟩ : ∃ m, n = m + 1 := ⟨n - 1, by omega⟩
    subst hx
    have b0 := hu s
    have b1 := ht s
    have b2 : w s = t s := by rw [hw s, if_neg (by omega)]
    rw [X5_goesDay_L45, if_neg (by rw [L6]; exact fle (by omega) (by omega) (by omega)), rd_rn (by omega) (by omega) (by omega), Option.bind_some, rd_rn (by omega) (by omega) (by omega), Option.bind_some, Int.toNat_natCast, iI_sub, L0, L99, s_X5_held (by omega) (by omega) (by omega) (by omega) (by omega), Option.bind_some, wr_rn (by omega) (by omega) (by omega) (by omega), Option.bind_some, Int.toNat_natCast, iI_s s]
    exact ih (s + 1) n _ _ rfl (by omega) (by omega) (stepW (f := fun j => t j - u j) hw (by omega))
-- the evening of either DAY, stormy or not
set_option maxHeartbeats 200000 in
theorem l_meve {u hd k f g l t1 i1 : Nat → Nat} {fr d c1 : Nat} (hf : fr ≤ 6) (hu : ∀ j, u j ≤ 9) (hy : OkY (t1, i1, c1)) : X5_goesDay_L45 (fun there_18 => (X5_lack there_18 (rn 6 u) (iI (fI fr)) (0 : Int32)).bind fun u_19 => if u_19 ≤ (0 : Int32) then some (there_18, rn 7 i1, iI c1, (iI d + (1 : Int32))) else (X5_held (iI c1 + (1 : Int32)) (0 : Int32) (99 : Int32)).bind fun u_21 => some (there_18, rn 7 i1, u_21, (iI d + (1 : Int32)))) (rn 6 u) 1000 (0 : Int32) (rn 6 t1)
    = some (rn 6 (eve (u, hd, k, f, g, l) fr d (t1, i1, c1)).1, rn 7 (eve (u, hd, k, f, g, l) fr d (t1, i1, c1)).2.1, iI (eve (u, hd, k, f, g, l) fr d (t1, i1, c1)).2.2.1, iI (eve (u, hd, k, f, g, l) fr d (t1, i1, c1)).2.2.2) := by
  have z1 := yT hy; have z2 := yI hy; have z3 := yC hy
  have z4 := lk_le (fr := fr) (t := fun j => t1 j - u j) hu 0
  unfold eve
  rw [l_mgoes hu z1 _ 6 0 1000 0 t1 (by decide) (by omega) (by omega) (fun j => by rw [if_neg (by omega)])]
  rw [iI_s d, iI_s c1, L0, L99, s_X5_lack hf hu (fun j => Nat.le_trans (Nat.sub_le _ _) (z1 j)) (by omega) (by omega), Option.bind_some]
  simp only [Int.reduceToNat]
  by_cases h : lk fr u (fun j => t1 j - u j) 0 = 0
  · rw [if_pos h, if_pos (show iI ((lk fr u (fun j => t1 j - u j) 0 : Nat) : Int) ≤ iI 0 by rw [h]; decide)]
  · rw [if_neg h, if_neg (show ¬ iI ((lk fr u (fun j => t1 j - u j) 0 : Nat) : Int) ≤ iI 0 by rw [iI_le (by omega) (by omega) (by omega) (by omega)]; omega), s_X5_held (by omega) (by omega) (by omega) (by omega) (by omega), Option.bind_some, show (max 0 (min ((c1 + 1 : Nat) : Int) 99)) = ((min 99 (c1 + 1) : Nat) : Int) by omega]
set_option maxHeartbeats 200000 in
theorem s_X5_goesDay {u hd k f g l t i : Nat → Nat} {sh b fr co d : Nat} (hf : fr ≤ 6) (hE : OkE (u, hd, k, f, g, l)) (hsh : sh ≤ 7) (hb : b < 128) (hX : OkX 2000 (t, i, co, d)) :
    X5_goesDay (rn 6 t) (rn 6 u) (rn 6 hd) (rn 7 k) (rn 7 f) (rn 7 g) (rn 7 l) (rn 7 i) (iI sh) (iI co) (iI d) (iI b) (iI (fI fr)) 0 = some (rn 6 (dayX (u, hd, k, f, g, l) sh b fr (t, i, co, d)).1, rn 7 (dayX (u, hd, k, f, g, l) sh b fr (t, i, co, d)).2.1, iI (dayX (u, hd, k, f, g, l) sh b fr (t, i, co, d)).2.2.1, iI (dayX (u, hd, k, f, g, l) sh b fr (t, i, co, d)).2.2.2) := by
  have hd2 := xD hX
  have hy : OkY (t, i, co) := ⟨hX.1, hX.2.1, hX.2.2.1⟩
  have hz := shp_ok (e := (u, hd, k, f, g, l)) (b := b) (fr := fr) (d := d) sh 0 _ hy
  unfold X5_goesDay dayX
  rw [l_mships hf hE hsh hb (by omega) _ sh 0 1000 0 t i co (by decide) (by omega) (by omega) hy]
  generalize shp (u, hd, k, f, g, l) b fr d sh 0 (t, i, co) = y at hz ⊢
  obtain ⟨t1, i1, c1⟩ := y
  exact l_meve hf (oU hE) hz
set_option maxHeartbeats 200000 in
theorem s_X5_goesDay1 {u hd k f g l t i : Nat → Nat} {sh b fr co d : Nat} (hf : fr ≤ 6) (hE : OkE (u, hd, k, f, g, l)) (hsh : sh ≤ 7) (hX : OkX 2000 (t, i, co, d)) :
    X5_goesDay (rn 6 t) (rn 6 u) (rn 6 hd) (rn 7 k) (rn 7 f) (rn 7 g) (rn 7 l) (rn 7 i) (iI sh) (iI co) (iI d) (iI b) (iI (fI fr)) 1 = some (rn 6 (dayX (u, hd, k, f, g, l) 0 b fr (t, i, co, d)).1, rn 7 (dayX (u, hd, k, f, g, l) 0 b fr (t, i, co, d)).2.1, iI (dayX (u, hd, k, f, g, l) 0 b fr (t, i, co, d)).2.2.1, iI (dayX (u, hd, k, f, g, l) 0 b fr (t, i, co, d)).2.2.2) := by
  have hy : OkY (t, i, co) := ⟨hX.1, hX.2.1, hX.2.2.1⟩
  unfold X5_goesDay
  rw [X5_goesDay_L2]
  by_cases h : sh = 0
  · subst h
    rw [if_pos (by decide)]
    exact l_meve hf (oU hE) hy
  · rw [if_neg (by rw [L0]; exact fle (by omega) (by omega) (by omega)), if_neg (by decide)]
    exact l_meve hf (oU hE) hy
set_option maxHeartbeats 200000 in
theorem l_mdays {u hd k f g l : Nat → Nat} {sh N b fr : Nat} (hf : fr ≤ 6) (hE : OkE (u, hd, k, f, g, l)) (hsh : sh ≤ 7) (hb : b < 128) (hN : N ≤ 100) (K : List Int32 → List Int32 → Int32 → Int32 → Option (List Int32 × List Int32 × Int32 × Int32)) : ∀ (r s n D : Nat) (x : Int32) (t i : Nat → Nat) (co d : Nat), x = iI (s : Int) → s + r = N → r < n → OkX D (t, i, co, d) → D + r ≤ 2000 →
    X5_goes_L2 K (rn 6 u) (rn 6 hd) (rn 7 k) (rn 7 f) (rn 7 g) (rn 7 l) (iI sh) (iI b) (iI (fI fr)) (iI N) n x (rn 6 t) (rn 7 i) (iI co) (iI d) = K (rn 6 (daysX (u, hd, k, f, g, l) sh b fr r (t, i, co, d)).1) (rn 7 (daysX (u, hd, k, f, g, l) sh b fr r (t, i, co, d)).2.1) (iI (daysX (u, hd, k, f, g, l) sh b fr r (t, i, co, d)).2.2.1) (iI (daysX (u, hd, k, f, g, l) sh b fr r (t, i, co, d)).2.2.2) := by
  intro r
  induction r with
  | zero =>
    intro s n D x t i co d hx hs hn hX hD
    obtain ⟨n, rfl⟩ : ∃ m, n = m + 1 := ⟨n - 1, by omega⟩
    subst hx
    rw [X5_goes_L2, if_pos (tle (by omega) (by omega) (by omega))]
    rfl
  | succ r ih =>
    intro s n D x t i co d hx hs hn hX hD
    obtain ⟨n, rfl⟩ : ∃ m, n = m + 1 := ⟨n - 1, by omega⟩
    subst hx
    rw [X5_goes_L2, if_neg (fle (by omega) (by omega) (by omega)), iI_s s, s_X5_goesDay hf hE hsh hb (hX.mono (by omega)), Option.bind_some]
    exact ih (s + 1) n (D + 1) _ _ _ _ _ rfl (by omega) (by omega) (dayX_ok hX) (by omega)
set_option maxHeartbeats 200000 in
theorem s_X5_goes {u hd k f g l t i : Nat → Nat} {sh N b fr co d : Nat} (hf : fr ≤ 6) (hE : OkE (u, hd, k, f, g, l)) (hsh : sh ≤ 7) (hb : b < 128) (hN : N ≤ 100) (hX : OkX 1500 (t, i, co, d)) :
    X5_goes (rn 6 t) (rn 6 u) (rn 6 hd) (rn 7 k) (rn 7 f) (rn 7 g) (rn 7 l) (rn 7 i) (iI sh) (iI co) (iI d) (iI b) (iI (fI fr)) (iI N) = some (rn 6 (daysX (u, hd, k, f, g, l) sh b fr N (t, i, co, d)).1, rn 7 (daysX (u, hd, k, f, g, l) sh b fr N (t, i, co, d)).2.1, iI (daysX (u, hd, k, f, g, l) sh b fr N (t, i, co, d)).2.2.1, iI (daysX (u, hd, k, f, g, l) sh b fr N (t, i, co, d)).2.2.2) := by
  unfold X5_goes
  rw [l_mdays hf hE hsh hb hN _ N 0 1000 1500 0 t i co d (by decide) (by omega) (by omega) hX (by omega)]
/-! snapshots -/
def flat (e : Env) (sh : Nat) (x : XX) : Nat → Int32 := fun j =>
  if j < 6 then iI (x.1 j) else if j < 12 then iI (e.1 (j - 6)) else if j < 18 then iI (e.2.1 (j - 12)) else if j < 25 then iI (e.2.2.1 (j - 18)) else if j < 32 then iI (e.2.2.2.1 (j - 25)) else if j < 39 then iI (e.2.2.2.2.1 (j - 32)) else if j < 46 then iI (e.2.2.2.2.2 (j - 39)) else if j < 53 then iI (x.2.1 (j - 46)) else if j = 53 then iI sh else if j = 54 then iI x.2.2.1 else iI x.2.2.2
/-- F, with n cells from c on as G has them -/
def put (F : Nat → Int32) (c n : Nat) (G : Nat → Int32) : Nat → Int32 := fun j => if c ≤ j ∧ j < c + n then G (j - c) else F j
set_option maxHeartbeats 200000 in
theorem put_put {F : Nat → Int32} {c n m : Nat} {G G1 G2 : Nat → Int32} (h1 : ∀ j, j < n → G1 j = G j) (h2 : ∀ j, j < m → G2 j = G (n + j)) : put (put F c n G1) (c + n) m G2 = put F c (n + m) G := by
  funext j
  unfold put
  by_cases a : c + n ≤ j ∧ j < c + n + m
  · rw [if_pos a, if_pos (by omega), h2 _ (by omega)]
    exact congrArg G (by omega)
  · rw [if_neg a]
    by_cases b : c ≤ j ∧ j < c + n
    · rw [if_pos b, if_pos (by omega), h1 _ (by omega)]
    · rw [if_neg b, if_neg (by omega)]
set_option maxHeartbeats 200000 in
theorem put_0 {F G : Nat → Int32} {c : Nat} : put F c 0 G = F := by
  funext j
  unfold put
  rw [if_neg (by omega)]
set_option maxHeartbeats 200000 in
theorem l_keep {m c n0 : Nat} {F H : Nat → Int32} (hm : m ≤ 10) (hc : c + m ≤ 616) (K : List Int32 → List Int32 → Int32 → Option (List Int32 × List Int32 × Int32)) : ∀ (r s n : Nat) (x : Int32), x = iI (s : Int) → s + r = m → r < n →
    X5_passes_L2 K 1 n x (rq m H) (rq 616 (put F c s H)) (iI ((c + s : Nat) : Int)) = K (rq m H) (rq 616 (put F c m H)) (iI ((c + m : Nat) : Int)) := by
  intro r
  induction r with
  | zero =>
    intro s n x hx hs hn
    obtain ⟨n, rfl⟩ : ∃ m, n = m + 1 := ⟨n - 1, by omega⟩
    subst hx
    rw [X5_passes_L2, rq_len, iI_len, if_pos (tle (by omega) (by omega) (by omega)), show s = m by omega]
  | succ r ih =>
    intro s n x hx hs hn
    obtain ⟨n, rfl⟩ : ∃ m, n = m + 1 := ⟨n - 1, by omega⟩
    subst hx
    rw [X5_passes_L2, rq_len, iI_len, if_neg (fle (by omega) (by omega) (by omega)), if_neg (by decide), rd_rq (by omega) (by omega) (by omega), Option.bind_some, wr_rq (by omega) (by omega) (by omega), Option.bind_some, iI_s s, iI_s (c + s), Int.toNat_natCast, Int.toNat_natCast]
    have e : upF (put F c s H) (c + s) (H s) = put F c (s + 1) H := by
      funext j
      unfold upF put
      by_cases a : j = c + s
      · subst a
        rw [if_pos rfl, if_pos (by omega), show c + s - c = s by omega]
      · rw [if_neg a]
        by_cases b : c ≤ j ∧ j < c + s
        · rw [if_pos b, if_pos (by omega)]
        · rw [if_neg b, if_neg (by omega)]
    rw [e]
    exact ih (s + 1) n _ rfl (by omega) (by omega)
set_option maxHeartbeats 200000 in
theorem l_back {m c : Nat} {F H : Nat → Int32} (hm : m ≤ 10) (hc : c + m ≤ 616) (K : List Int32 → List Int32 → Int32 → Option (List Int32 × List Int32 × Int32)) : ∀ (r s n : Nat) (x : Int32), x = iI (s : Int) → s + r = m → r < n →
    X5_passes_L2 K 0 n x (rq m (put H 0 s (fun j => F (c + j)))) (rq 616 F) (iI ((c + s : Nat) : Int)) = K (rq m (fun j => F (c + j))) (rq 616 F) (iI ((c + m : Nat) : Int)) := by
  intro r
  induction r with
  | zero =>
    intro s n x hx hs hn
    obtain ⟨n, rfl⟩ : ∃ m, n = m + 1 := ⟨n - 1, by omega⟩
    subst hx
    rw [X5_passes_L2, rq_len, iI_len, if_pos (tle (by omega) (by omega) (by omega)), show s = m by omega, rq_congr (F := put H 0 m fun j => F (c + j)) (F1 := fun j => F (c + j)) (fun j hj => by unfold put; rw [if_pos (by omega)]; rfl)]
  | succ r ih =>
    intro s n x hx hs hn
    obtain ⟨n, rfl⟩ : ∃ m, n = m + 1 := ⟨n - 1, by omega⟩
    subst hx
    rw [X5_passes_L2, rq_len, iI_len, if_neg (fle (by omega) (by omega) (by omega)), if_pos (by decide), rd_rq (by omega) (by omega) (by omega), Option.bind_some, wr_rq (by omega) (by omega) (by omega), Option.bind_some, iI_s s, iI_s (c + s), Int.toNat_natCast, Int.toNat_natCast]
    have e : upF (put H 0 s fun j => F (c + j)) s (F (c + s)) = put H 0 (s + 1) fun j => F (c + j) := by
      funext j
      unfold upF put
      by_cases a : j = s
      · subst a
        rw [if_pos rfl, if_pos (by omega)]; rfl
      · rw [if_neg a]
        by_cases b : 0 ≤ j ∧ j < 0 + s
        · rw [if_pos b, if_pos (by omega)]
        · rw [if_neg b, if_neg (by omega)]
    rw [e]
    exact ih (s + 1) n _ rfl (by omega) (by omega)
