/-! the reference reads statements -/
/-- what is told of the statement whose letters behind the first begin at p -/
def TV (T : Nat → Nat) (n : Nat) (W : Nat → Int32) (q p : Nat) (c : Int) : Prop :=
  (c = 115 → W q = iI (dT T n p) ∧ W (q + 1) = iI (dT T n (p + 1)) ∧ W (q + 2) = iI (dT T n (p + 2)) ∧ W (q + 3) = iI (10 * dT T n (p + 3) + dT T n (p + 4))) ∧
  ((c = 116 ∨ c = 104) → W q = iI (dT T n p) ∧ W (q + 1) = iI (10 * dT T n (p + 1) + dT T n (p + 2))) ∧
  (c = 117 → W q = iI (dT T n p) ∧ W (q + 1) = iI (dT T n (p + 1))) ∧
  (c = 111 → W q = iI (dT T n p)) ∧
  ((c = 99 ∨ c = 100) → W q = iI (10 * dT T n p + dT T n (p + 1)))
def RA (T : Nat → Nat) (n : Nat) (W : Nat → Int32) (q p r : Nat) (c : Int) (o : Option (List Int32 × Int32 × Int32)) : Prop := ∃ W1 : Nat → Int32, o = some (rq 192 W1, iI (if fd T n r p < 0 then ((p + r : Nat) : Int) else fd T n r p), if fd T n r p < 0 then 1 else 0) ∧ (∀ j, j < q ∨ q + 4 ≤ j → W1 j = W j) ∧ (fd T n r p < 0 → TV T n W1 q p c)
set_option maxRecDepth 20000 in
set_option maxHeartbeats 400000 in
theorem RA.no {T : Nat → Nat} {n q p r f : Nat} {W W1 : Nat → Int32} {c : Int} (h : fd T n r p = (f : Int)) (hW : ∀ j, j < q ∨ q + 4 ≤ j → W1 j = W j) : RA T n W q p r c (some (rq 192 W1, iI (f : Int), 0)) :=
  ⟨W1, by rw [h, if_neg (by omega), if_neg (by omega)], hW, fun z => absurd z (by omega)⟩
set_option maxRecDepth 20000 in
set_option maxHeartbeats 400000 in
theorem RA.yes {T : Nat → Nat} {n q p r f : Nat} {W W1 : Nat → Int32} {c : Int} (h : fd T n r p = -1) (hf : f = p + r) (hW : ∀ j, j < q ∨ q + 4 ≤ j → W1 j = W j) (hT : TV T n W1 q p c) : RA T n W q p r c (some (rq 192 W1, iI (f : Int), 1)) :=
  ⟨W1, by rw [h, if_pos (by omega), if_pos (by omega), hf], hW, fun _ => hT⟩
set_option maxRecDepth 20000 in
set_option maxHeartbeats 400000 in
theorem upW {W W0 : Nat → Int32} {q k : Nat} {x : Int32} (h1 : q ≤ k) (h2 : k < q + 4) (hW : ∀ j, j < q ∨ q + 4 ≤ j → W j = W0 j) : ∀ j, j < q ∨ q + 4 ≤ j → upF W k x j = W0 j := by
  intro j hj
  unfold upF
  rw [if_neg (by omega)]
  exact hW j hj
set_option maxRecDepth 20000 in
set_option maxHeartbeats 400000 in
theorem upA {W : Nat → Int32} {k : Nat} {x : Int32} : upF W k x k = x := by unfold upF; rw [if_pos rfl]
set_option maxRecDepth 20000 in
set_option maxHeartbeats 400000 in
theorem upB {W : Nat → Int32} {k j : Nat} {x : Int32} (h : ¬ j = k) : upF W k x j = W j := by unfold upF; rw [if_neg h]
set_option maxRecDepth 20000 in
set_option maxHeartbeats 400000 in
theorem ra_s {T : Nat → Nat} {W : Nat → Int32} {n p q : Nat} (hT : ∀ j, T j ≤ 255) (hn : n ≤ 96) (hp : p ≤ 100) (hq : q + 4 ≤ 192) : RA T n W q p 5 115 (X5_readsAll (rn 96 T) (rq 192 W) (iI n) (iI (p : Int)) (iI 115) (iI (q : Int))) := by
  have w0 : ∀ j, j < q ∨ q + 4 ≤ j → W j = W j := fun _ _ => rfl
  have q1 : iI (q : Int) + 1 = iI ((q + 1 : Nat) : Int) := iI_s q
  have q2 : iI (q : Int) + 2 = iI ((q + 2 : Nat) : Int) := by rw [L2, iI_add]; exact iI_c (by omega)
  have q3 : iI (q : Int) + 3 = iI ((q + 3 : Nat) : Int) := by rw [L3, iI_add]; exact iI_c (by omega)
  have tv : ∀ W1 : Nat → Int32, (W1 q = iI (dT T n p) ∧ W1 (q + 1) = iI (dT T n (p + 1)) ∧ W1 (q + 2) = iI (dT T n (p + 2)) ∧ W1 (q + 3) = iI (10 * dT T n (p + 3) + dT T n (p + 4))) → TV T n W1 q p 115 := fun W1 h => ⟨fun _ => h, fun z => absurd z (by decide), fun z => absurd z (by decide), fun z => absurd z (by decide), fun z => absurd z (by decide)⟩
  unfold X5_readsAll
  rw [if_neg (show ¬ iI 115 = (104 : Int32) by decide), if_neg (show ¬ iI 115 = (111 : Int32) by decide), if_pos (show iI 115 = (115 : Int32) by decide), s_rd1 (p := p) (q := q) hT hn (by omega) (by omega)]
  by_cases d1 : 0 ≤ dT T n p
  · rw [if_pos d1, Option.bind_some, if_neg c10, q1, s_rd1 (p := p + 1) (q := q + 1) hT hn (by omega) (by omega)]
    have w1 := upW (x := iI (dT T n p)) (Nat.le_refl q) (by omega) w0
    by_cases d2 : 0 ≤ dT T n (p + 1)
    · rw [if_pos d2, Option.bind_some, if_neg c10, q2, s_rd1 (p := p + 1 + 1) (q := q + 2) hT hn (by omega) (by omega)]
      have w2 := upW (x := iI (dT T n (p + 1))) (k := q + 1) (by omega) (by omega) w1
      by_cases d3 : 0 ≤ dT T n (p + 1 + 1)
      · rw [if_pos d3, Option.bind_some, if_neg c10, q3, s_rd2 (p := p + 1 + 1 + 1) (q := q + 3) hT hn (by omega) (by omega)]
        have w3 := upW (x := iI (dT T n (p + 1 + 1))) (k := q + 2) (by omega) (by omega) w2
        by_cases d4 : 0 ≤ dT T n (p + 1 + 1 + 1)
        · rw [if_pos d4]
          by_cases d5 : 0 ≤ dT T n (p + 1 + 1 + 1 + 1)
          · rw [if_pos d5, Option.bind_some, if_neg c10]
            refine RA.yes (by rw [fd, if_pos d1, fd, if_pos d2, fd, if_pos d3, fd, if_pos d4, fd, if_pos d5, fd]) (by omega) (upW (k := q + 3) (by omega) (by omega) w3) (tv _ ⟨?_, ?_, ?_, ?_⟩)
            · rw [upB (by omega), upB (by omega), upB (by omega), upA]
            · rw [upB (by omega), upB (by omega), upA]
            · rw [upB (by omega), upA]
            · rw [upA]
          · rw [if_neg d5, Option.bind_some, if_pos (show (0 : Int32) = 0 from rfl)]
            exact RA.no (by rw [fd, if_pos d1, fd, if_pos d2, fd, if_pos d3, fd, if_pos d4, fd, if_neg d5]) w3
        · rw [if_neg d4, Option.bind_some, if_pos (show (0 : Int32) = 0 from rfl)]
          exact RA.no (by rw [fd, if_pos d1, fd, if_pos d2, fd, if_pos d3, fd, if_neg d4]) w3
      · rw [if_neg d3, Option.bind_some, if_pos (show (0 : Int32) = 0 from rfl)]
        exact RA.no (by rw [fd, if_pos d1, fd, if_pos d2, fd, if_neg d3]) w2
    · rw [if_neg d2, Option.bind_some, if_pos (show (0 : Int32) = 0 from rfl)]
      exact RA.no (by rw [fd, if_pos d1, fd, if_neg d2]) w1
  · rw [if_neg d1, Option.bind_some, if_pos (show (0 : Int32) = 0 from rfl)]
    exact RA.no (by rw [fd, if_neg d1]) w0
set_option maxRecDepth 20000 in
set_option maxHeartbeats 400000 in
theorem ra_t {T : Nat → Nat} {W : Nat → Int32} {n p q : Nat} (hT : ∀ j, T j ≤ 255) (hn : n ≤ 96) (hp : p ≤ 100) (hq : q + 4 ≤ 192) : RA T n W q p 3 116 (X5_readsAll (rn 96 T) (rq 192 W) (iI n) (iI (p : Int)) (iI 116) (iI (q : Int))) := by
  have w0 : ∀ j, j < q ∨ q + 4 ≤ j → W j = W j := fun _ _ => rfl
  have q1 : iI (q : Int) + 1 = iI ((q + 1 : Nat) : Int) := iI_s q
  have q2 : iI (q : Int) + 2 = iI ((q + 2 : Nat) : Int) := by rw [L2, iI_add]; exact iI_c (by omega)
  have q3 : iI (q : Int) + 3 = iI ((q + 3 : Nat) : Int) := by rw [L3, iI_add]; exact iI_c (by omega)
  have tv : ∀ W1 : Nat → Int32, (W1 q = iI (dT T n p) ∧ W1 (q + 1) = iI (10 * dT T n (p + 1) + dT T n (p + 2))) → TV T n W1 q p 116 := fun W1 h => ⟨fun z => absurd z (by decide), fun _ => h, fun z => absurd z (by decide), fun z => absurd z (by decide), fun z => absurd z (by decide)⟩
  unfold X5_readsAll
  rw [if_neg (show ¬ iI 116 = (104 : Int32) by decide), if_neg (show ¬ iI 116 = (111 : Int32) by decide), if_neg (show ¬ iI 116 = (115 : Int32) by decide), if_pos (show iI 116 = (116 : Int32) by decide), s_rd1 (p := p) (q := q) hT hn (by omega) (by omega)]
  by_cases d1 : 0 ≤ dT T n p
  · rw [if_pos d1, Option.bind_some, if_neg c10, q1, s_rd2 (p := p + 1) (q := q + 1) hT hn (by omega) (by omega)]
    have w1 := upW (x := iI (dT T n p)) (Nat.le_refl q) (by omega) w0
    by_cases d2 : 0 ≤ dT T n (p + 1)
    · rw [if_pos d2]
      by_cases d3 : 0 ≤ dT T n (p + 1 + 1)
      · rw [if_pos d3, Option.bind_some, if_neg c10]
        refine RA.yes (by rw [fd, if_pos d1, fd, if_pos d2, fd, if_pos d3, fd]) (by omega) (upW (k := q + 1) (by omega) (by omega) w1) (tv _ ⟨?_, ?_⟩)
        · rw [upB (by omega), upA]
        · rw [upA]
      · rw [if_neg d3, Option.bind_some, if_pos (show (0 : Int32) = 0 from rfl)]
        exact RA.no (by rw [fd, if_pos d1, fd, if_pos d2, fd, if_neg d3]) w1
    · rw [if_neg d2, Option.bind_some, if_pos (show (0 : Int32) = 0 from rfl)]
      exact RA.no (by rw [fd, if_pos d1, fd, if_neg d2]) w1
  · rw [if_neg d1, Option.bind_some, if_pos (show (0 : Int32) = 0 from rfl)]
    exact RA.no (by rw [fd, if_neg d1]) w0
set_option maxRecDepth 20000 in
set_option maxHeartbeats 400000 in
theorem ra_h {T : Nat → Nat} {W : Nat → Int32} {n p q : Nat} (hT : ∀ j, T j ≤ 255) (hn : n ≤ 96) (hp : p ≤ 100) (hq : q + 4 ≤ 192) : RA T n W q p 3 104 (X5_readsAll (rn 96 T) (rq 192 W) (iI n) (iI (p : Int)) (iI 104) (iI (q : Int))) := by
  have w0 : ∀ j, j < q ∨ q + 4 ≤ j → W j = W j := fun _ _ => rfl
  have q1 : iI (q : Int) + 1 = iI ((q + 1 : Nat) : Int) := iI_s q
  have q2 : iI (q : Int) + 2 = iI ((q + 2 : Nat) : Int) := by rw [L2, iI_add]; exact iI_c (by omega)
  have q3 : iI (q : Int) + 3 = iI ((q + 3 : Nat) : Int) := by rw [L3, iI_add]; exact iI_c (by omega)
  have tv : ∀ W1 : Nat → Int32, (W1 q = iI (dT T n p) ∧ W1 (q + 1) = iI (10 * dT T n (p + 1) + dT T n (p + 2))) → TV T n W1 q p 104 := fun W1 h => ⟨fun z => absurd z (by decide), fun _ => h, fun z => absurd z (by decide), fun z => absurd z (by decide), fun z => absurd z (by decide)⟩
  unfold X5_readsAll
  rw [if_pos (show iI 104 = (104 : Int32) by decide), s_rd1 (p := p) (q := q) hT hn (by omega) (by omega)]
  by_cases d1 : 0 ≤ dT T n p
  · rw [if_pos d1, Option.bind_some, if_neg c10, q1, s_rd2 (p := p + 1) (q := q + 1) hT hn (by omega) (by omega)]
    have w1 := upW (x := iI (dT T n p)) (Nat.le_refl q) (by omega) w0
    by_cases d2 : 0 ≤ dT T n (p + 1)
    · rw [if_pos d2]
      by_cases d3 : 0 ≤ dT T n (p + 1 + 1)
      · rw [if_pos d3, Option.bind_some, if_neg c10]
        refine RA.yes (by rw [fd, if_pos d1, fd, if_pos d2, fd, if_pos d3, fd]) (by omega) (upW (k := q + 1) (by omega) (by omega) w1) (tv _ ⟨?_, ?_⟩)
        · rw [upB (by omega), upA]
        · rw [upA]
      · rw [if_neg d3, Option.bind_some, if_pos (show (0 : Int32) = 0 from rfl)]
        exact RA.no (by rw [fd, if_pos d1, fd, if_pos d2, fd, if_neg d3]) w1
    · rw [if_neg d2, Option.bind_some, if_pos (show (0 : Int32) = 0 from rfl)]
      exact RA.no (by rw [fd, if_pos d1, fd, if_neg d2]) w1
  · rw [if_neg d1, Option.bind_some, if_pos (show (0 : Int32) = 0 from rfl)]
    exact RA.no (by rw [fd, if_neg d1]) w0
set_option maxRecDepth 20000 in
set_option maxHeartbeats 400000 in
theorem ra_u {T : Nat → Nat} {W : Nat → Int32} {n p q : Nat} (hT : ∀ j, T j ≤ 255) (hn : n ≤ 96) (hp : p ≤ 100) (hq : q + 4 ≤ 192) : RA T n W q p 2 117 (X5_readsAll (rn 96 T) (rq 192 W) (iI n) (iI (p : Int)) (iI 117) (iI (q : Int))) := by
  have w0 : ∀ j, j < q ∨ q + 4 ≤ j → W j = W j := fun _ _ => rfl
  have q1 : iI (q : Int) + 1 = iI ((q + 1 : Nat) : Int) := iI_s q
  have q2 : iI (q : Int) + 2 = iI ((q + 2 : Nat) : Int) := by rw [L2, iI_add]; exact iI_c (by omega)
  have q3 : iI (q : Int) + 3 = iI ((q + 3 : Nat) : Int) := by rw [L3, iI_add]; exact iI_c (by omega)
  have tv : ∀ W1 : Nat → Int32, (W1 q = iI (dT T n p) ∧ W1 (q + 1) = iI (dT T n (p + 1))) → TV T n W1 q p 117 := fun W1 h => ⟨fun z => absurd z (by decide), fun z => absurd z (by decide), fun _ => h, fun z => absurd z (by decide), fun z => absurd z (by decide)⟩
  unfold X5_readsAll
  rw [if_neg (show ¬ iI 117 = (104 : Int32) by decide), if_neg (show ¬ iI 117 = (111 : Int32) by decide), if_neg (show ¬ iI 117 = (115 : Int32) by decide), if_neg (show ¬ iI 117 = (116 : Int32) by decide), if_pos (show iI 117 = (117 : Int32) by decide), s_rd1 (p := p) (q := q) hT hn (by omega) (by omega)]
  by_cases d1 : 0 ≤ dT T n p
  · rw [if_pos d1, Option.bind_some, if_neg c10, q1, s_rd1 (p := p + 1) (q := q + 1) hT hn (by omega) (by omega)]
    have w1 := upW (x := iI (dT T n p)) (Nat.le_refl q) (by omega) w0
    by_cases d2 : 0 ≤ dT T n (p + 1)
    · rw [if_pos d2, Option.bind_some, if_neg c10]
      refine RA.yes (by rw [fd, if_pos d1, fd, if_pos d2, fd]) (by omega) (upW (k := q + 1) (by omega) (by omega) w1) (tv _ ⟨?_, ?_⟩)
      · rw [upB (by omega), upA]
      · rw [upA]
    · rw [if_neg d2, Option.bind_some, if_pos (show (0 : Int32) = 0 from rfl)]
      exact RA.no (by rw [fd, if_pos d1, fd, if_neg d2]) w1
  · rw [if_neg d1, Option.bind_some, if_pos (show (0 : Int32) = 0 from rfl)]
    exact RA.no (by rw [fd, if_neg d1]) w0
set_option maxRecDepth 20000 in
set_option maxHeartbeats 400000 in
theorem ra_o {T : Nat → Nat} {W : Nat → Int32} {n p q : Nat} (hT : ∀ j, T j ≤ 255) (hn : n ≤ 96) (hp : p ≤ 100) (hq : q + 4 ≤ 192) : RA T n W q p 1 111 (X5_readsAll (rn 96 T) (rq 192 W) (iI n) (iI (p : Int)) (iI 111) (iI (q : Int))) := by
  have w0 : ∀ j, j < q ∨ q + 4 ≤ j → W j = W j := fun _ _ => rfl
  have q1 : iI (q : Int) + 1 = iI ((q + 1 : Nat) : Int) := iI_s q
  have q2 : iI (q : Int) + 2 = iI ((q + 2 : Nat) : Int) := by rw [L2, iI_add]; exact iI_c (by omega)
  have q3 : iI (q : Int) + 3 = iI ((q + 3 : Nat) : Int) := by rw [L3, iI_add]; exact iI_c (by omega)
  have tv : ∀ W1 : Nat → Int32, (W1 q = iI (dT T n p)) → TV T n W1 q p 111 := fun W1 h => ⟨fun z => absurd z (by decide), fun z => absurd z (by decide), fun z => absurd z (by decide), fun _ => h, fun z => absurd z (by decide)⟩
  unfold X5_readsAll
  rw [if_neg (show ¬ iI 111 = (104 : Int32) by decide), if_pos (show iI 111 = (111 : Int32) by decide), s_rd1 (p := p) (q := q) hT hn (by omega) (by omega)]
  by_cases d1 : 0 ≤ dT T n p
  · rw [if_pos d1, Option.bind_some, show c01 1 = some 1 by decide, Option.bind_some]
    exact RA.yes (by rw [fd, if_pos d1, fd]) (by omega) (upW (Nat.le_refl q) (by omega) w0) (tv _ upA)
  · rw [if_neg d1, Option.bind_some, show c01 0 = some 0 by decide, Option.bind_some]
    exact RA.no (by rw [fd, if_neg d1]) w0
set_option maxRecDepth 20000 in
set_option maxHeartbeats 400000 in
theorem ra_c {T : Nat → Nat} {W : Nat → Int32} {n p q : Nat} (hT : ∀ j, T j ≤ 255) (hn : n ≤ 96) (hp : p ≤ 100) (hq : q + 4 ≤ 192) : RA T n W q p 2 99 (X5_readsAll (rn 96 T) (rq 192 W) (iI n) (iI (p : Int)) (iI 99) (iI (q : Int))) := by
  have w0 : ∀ j, j < q ∨ q + 4 ≤ j → W j = W j := fun _ _ => rfl
  have q1 : iI (q : Int) + 1 = iI ((q + 1 : Nat) : Int) := iI_s q
  have q2 : iI (q : Int) + 2 = iI ((q + 2 : Nat) : Int) := by rw [L2, iI_add]; exact iI_c (by omega)
  have q3 : iI (q : Int) + 3 = iI ((q + 3 : Nat) : Int) := by rw [L3, iI_add]; exact iI_c (by omega)
  have tv : ∀ W1 : Nat → Int32, (W1 q = iI (10 * dT T n p + dT T n (p + 1))) → TV T n W1 q p 99 := fun W1 h => ⟨fun z => absurd z (by decide), fun z => absurd z (by decide), fun z => absurd z (by decide), fun z => absurd z (by decide), fun _ => h⟩
  unfold X5_readsAll
  rw [if_neg (show ¬ iI 99 = (104 : Int32) by decide), if_neg (show ¬ iI 99 = (111 : Int32) by decide), if_neg (show ¬ iI 99 = (115 : Int32) by decide), if_neg (show ¬ iI 99 = (116 : Int32) by decide), if_neg (show ¬ iI 99 = (117 : Int32) by decide), s_rd2 (p := p) (q := q) hT hn (by omega) (by omega)]
  by_cases d1 : 0 ≤ dT T n p
  · rw [if_pos d1]
    by_cases d2 : 0 ≤ dT T n (p + 1)
    · rw [if_pos d2, Option.bind_some, show c01 1 = some 1 by decide, Option.bind_some]
      exact RA.yes (by rw [fd, if_pos d1, fd, if_pos d2, fd]) (by omega) (upW (Nat.le_refl q) (by omega) w0) (tv _ upA)
    · rw [if_neg d2, Option.bind_some, show c01 0 = some 0 by decide, Option.bind_some]
      exact RA.no (by rw [fd, if_pos d1, fd, if_neg d2]) w0
  · rw [if_neg d1, Option.bind_some, show c01 0 = some 0 by decide, Option.bind_some]
    exact RA.no (by rw [fd, if_neg d1]) w0
set_option maxRecDepth 20000 in
set_option maxHeartbeats 400000 in
theorem ra_d {T : Nat → Nat} {W : Nat → Int32} {n p q : Nat} (hT : ∀ j, T j ≤ 255) (hn : n ≤ 96) (hp : p ≤ 100) (hq : q + 4 ≤ 192) : RA T n W q p 2 100 (X5_readsAll (rn 96 T) (rq 192 W) (iI n) (iI (p : Int)) (iI 100) (iI (q : Int))) := by
  have w0 : ∀ j, j < q ∨ q + 4 ≤ j → W j = W j := fun _ _ => rfl
  have q1 : iI (q : Int) + 1 = iI ((q + 1 : Nat) : Int) := iI_s q
  have q2 : iI (q : Int) + 2 = iI ((q + 2 : Nat) : Int) := by rw [L2, iI_add]; exact iI_c (by omega)
  have q3 : iI (q : Int) + 3 = iI ((q + 3 : Nat) : Int) := by rw [L3, iI_add]; exact iI_c (by omega)
  have tv : ∀ W1 : Nat → Int32, (W1 q = iI (10 * dT T n p + dT T n (p + 1))) → TV T n W1 q p 100 := fun W1 h => ⟨fun z => absurd z (by decide), fun z => absurd z (by decide), fun z => absurd z (by decide), fun z => absurd z (by decide), fun _ => h⟩
  unfold X5_readsAll
  rw [if_neg (show ¬ iI 100 = (104 : Int32) by decide), if_neg (show ¬ iI 100 = (111 : Int32) by decide), if_neg (show ¬ iI 100 = (115 : Int32) by decide), if_neg (show ¬ iI 100 = (116 : Int32) by decide), if_neg (show ¬ iI 100 = (117 : Int32) by decide), s_rd2 (p := p) (q := q) hT hn (by omega) (by omega)]
  by_cases d1 : 0 ≤ dT T n p
  · rw [if_pos d1]
    by_cases d2 : 0 ≤ dT T n (p + 1)
    · rw [if_pos d2, Option.bind_some, show c01 1 = some 1 by decide, Option.bind_some]
      exact RA.yes (by rw [fd, if_pos d1, fd, if_pos d2, fd]) (by omega) (upW (Nat.le_refl q) (by omega) w0) (tv _ upA)
    · rw [if_neg d2, Option.bind_some, show c01 0 = some 0 by decide, Option.bind_some]
      exact RA.no (by rw [fd, if_pos d1, fd, if_neg d2]) w0
  · rw [if_neg d1, Option.bind_some, show c01 0 = some 0 by decide, Option.bind_some]
    exact RA.no (by rw [fd, if_neg d1]) w0
def STm (T : Nat → Nat) (n : Nat) (L A W : Nat → Int32) (p k : Nat) (o : Option (List Int32 × List Int32 × List Int32 × Int32 × Int32)) : Prop := ∃ L1 A1 W1 : Nat → Int32, o = some (rq 48 L1, rq 48 A1, rq 192 W1, iI (if flt1 T n p < 0 then ((p + szI (aT T n p) : Nat) : Int) else flt1 T n p), if flt1 T n p < 0 then 1 else 0) ∧ (∀ j, ¬ j = k → L1 j = L j ∧ A1 j = A j) ∧ (∀ j, j < 4 * k ∨ 4 * k + 4 ≤ j → W1 j = W j) ∧ (flt1 T n p < 0 → L1 k = iI (aT T n p) ∧ A1 k = iI (p : Int) ∧ TV T n W1 (4 * k) (p + 1) (aT T n p))
set_option maxRecDepth 20000 in
set_option maxHeartbeats 400000 in
theorem st_common {T : Nat → Nat} {n p k : Nat} {L A W : Nat → Int32} {c : Int} (hT : ∀ j, T j ≤ 255) (hn : n ≤ 96) (hp : p ≤ 96) (hk : k ≤ 40) (hc : aT T n p = c) (hz : ¬ szI c = 0) (hr : RA T n W (4 * k) (p + 1) (szI c - 2) c (X5_readsAll (rn 96 T) (rq 192 W) (iI n) (iI ((p + 1 : Nat) : Int)) (iI c) (iI ((4 * k : Nat) : Int)))) :
    STm T n L A W p k ((wr (rq 48 L) (iI (k : Int)) (iI c)).bind fun letter_3 => (wr (rq 48 A) (iI (k : Int)) (iI (p : Int))).bind fun letterAt_5 => (X5_readsAll (rn 96 T) (rq 192 W) (iI n) (iI (p : Int) + (1 : Int32)) (iI c) ((4 : Int32) * iI (k : Int))).bind fun u_7 => if u_7.2.2 = (0 : Int32) then some (letter_3, letterAt_5, u_7.1, u_7.2.1, (0 : Int32)) else (X5_next (rn 96 T) (iI n) u_7.2.1).bind fun u_9 => if u_9 = (59 : Int32) then some (letter_3, letterAt_5, u_7.1, (u_7.2.1 + (1 : Int32)), (1 : Int32)) else some (letter_3, letterAt_5, u_7.1, u_7.2.1, (0 : Int32))) := by
  obtain ⟨W1, r1, r2, r3⟩ := hr
  have b2 := szI_b (c := c)
  have b3 := fd_b (T := T) (n := n) (szI c - 2) (p + 1)
  have ef : flt1 T n p = if fd T n (szI c - 2) (p + 1) < 0 then (if aT T n (p + szI c - 1) = 59 then -1 else ((p + szI c - 1 : Nat) : Int)) else fd T n (szI c - 2) (p + 1) := by
    unfold flt1
    rw [hc, if_neg hz]
  rw [wr_rq (by omega) (by omega) (by omega), Option.bind_some, wr_rq (by omega) (by omega) (by omega), Option.bind_some, iI_s p, show (4 : Int32) * iI (k : Int) = iI ((4 * k : Nat) : Int) by rw [L4, iI_mul]; rfl, r1, Option.bind_some, Int.toNat_natCast]
  by_cases f0 : fd T n (szI c - 2) (p + 1) < 0
  · have b4 := aT_b (n := n) (p := p + szI c - 1) hT
    have e3 : ((p + 1 + (szI c - 2) : Nat) : Int) = ((p + szI c - 1 : Nat) : Int) := by omega
    rw [if_pos f0] at ef
    rw [if_pos f0, if_pos f0, if_neg c10, e3, s_next hn (by omega), Option.bind_some]
    by_cases c59 : aT T n (p + szI c - 1) = 59
    · rw [if_pos c59] at ef
      rw [if_pos (show iI (aT T n (p + szI c - 1)) = (59 : Int32) by rw [c59]; decide), iI_s]
      refine ⟨upF L k (iI c), upF A k (iI (p : Int)), W1, ?_, fun j hj => ⟨upB hj, upB hj⟩, r2, fun _ => ⟨by rw [upA, hc], upA, by rw [hc]; exact r3 f0⟩⟩
      rw [ef, if_pos (show (-1 : Int) < 0 by decide), if_pos (show (-1 : Int) < 0 by decide), hc, show p + szI c - 1 + 1 = p + szI c by omega]
    · rw [if_neg c59] at ef
      rw [if_neg (show ¬ iI (aT T n (p + szI c - 1)) = (59 : Int32) by rw [L59]; exact feq c59 (by omega) (by omega) (by omega) (by omega))]
      refine ⟨upF L k (iI c), upF A k (iI (p : Int)), W1, ?_, fun j hj => ⟨upB hj, upB hj⟩, r2, fun z => absurd z (by omega)⟩
      rw [ef, if_neg (by omega), if_neg (by omega)]
  · rw [if_neg f0] at ef
    rw [if_neg f0, if_neg f0, if_pos (show (0 : Int32) = 0 from rfl)]
    refine ⟨upF L k (iI c), upF A k (iI (p : Int)), W1, ?_, fun j hj => ⟨upB hj, upB hj⟩, r2, fun z => absurd z (by omega)⟩
    rw [ef, if_neg f0, if_neg f0]
set_option maxRecDepth 20000 in
set_option maxHeartbeats 400000 in
theorem s_statement {T : Nat → Nat} {n p k : Nat} {L A W : Nat → Int32} (hT : ∀ j, T j ≤ 255) (hn : n ≤ 96) (hp : p ≤ 96) (hk : k ≤ 40) : STm T n L A W p k (X5_statement (rn 96 T) (rq 48 L) (rq 48 A) (rq 192 W) (iI n) (iI (p : Int)) (iI (k : Int))) := by
  have b := aT_b (n := n) (p := p) hT
  have hpp : ∀ {c : Int}, ¬ c = -1 → aT T n p = c → p ≤ 96 := fun _ _ => hp
  unfold X5_statement
  rw [s_next hn (by omega), Option.bind_some]
  by_cases e115 : aT T n p = 115
  · rw [e115, if_pos (show iI 115 = (115 : Int32) by decide)]
    exact st_common hT hn hp hk e115 (by decide) (ra_s hT hn (by omega) (by omega))
  by_cases e116 : aT T n p = 116
  · rw [e116, if_neg (show ¬ iI 116 = (115 : Int32) by decide), if_pos (show iI 116 = (116 : Int32) by decide)]
    exact st_common hT hn hp hk e116 (by decide) (ra_t hT hn (by omega) (by omega))
  by_cases e117 : aT T n p = 117
  · rw [e117, if_neg (show ¬ iI 117 = (115 : Int32) by decide), if_neg (show ¬ iI 117 = (116 : Int32) by decide), if_pos (show iI 117 = (117 : Int32) by decide)]
    exact st_common hT hn hp hk e117 (by decide) (ra_u hT hn (by omega) (by omega))
  by_cases e104 : aT T n p = 104
  · rw [e104, if_neg (show ¬ iI 104 = (115 : Int32) by decide), if_neg (show ¬ iI 104 = (116 : Int32) by decide), if_neg (show ¬ iI 104 = (117 : Int32) by decide), if_pos (show iI 104 = (104 : Int32) by decide)]
    exact st_common hT hn hp hk e104 (by decide) (ra_h hT hn (by omega) (by omega))
  by_cases e111 : aT T n p = 111
  · rw [e111, if_neg (show ¬ iI 111 = (115 : Int32) by decide), if_neg (show ¬ iI 111 = (116 : Int32) by decide), if_neg (show ¬ iI 111 = (117 : Int32) by decide), if_neg (show ¬ iI 111 = (104 : Int32) by decide), if_pos (show iI 111 = (111 : Int32) by decide)]
    exact st_common hT hn hp hk e111 (by decide) (ra_o hT hn (by omega) (by omega))
  by_cases e99 : aT T n p = 99
  · rw [e99, if_neg (show ¬ iI 99 = (115 : Int32) by decide), if_neg (show ¬ iI 99 = (116 : Int32) by decide), if_neg (show ¬ iI 99 = (117 : Int32) by decide), if_neg (show ¬ iI 99 = (104 : Int32) by decide), if_neg (show ¬ iI 99 = (111 : Int32) by decide), if_pos (show iI 99 = (99 : Int32) by decide)]
    exact st_common hT hn hp hk e99 (by decide) (ra_c hT hn (by omega) (by omega))
  by_cases e100 : aT T n p = 100
  · rw [e100, if_neg (show ¬ iI 100 = (115 : Int32) by decide), if_neg (show ¬ iI 100 = (116 : Int32) by decide), if_neg (show ¬ iI 100 = (117 : Int32) by decide), if_neg (show ¬ iI 100 = (104 : Int32) by decide), if_neg (show ¬ iI 100 = (111 : Int32) by decide), if_neg (show ¬ iI 100 = (99 : Int32) by decide), if_pos (show iI 100 = (100 : Int32) by decide)]
    exact st_common hT hn hp hk e100 (by decide) (ra_d hT hn (by omega) (by omega))
  have q : ∀ a : Int, 0 ≤ a → a ≤ 255 → ¬ aT T n p = a → ¬ iI (aT T n p) = iI a := fun a g1 g2 g3 => feq g3 (by omega) (by omega) (by omega) (by omega)
  rw [if_neg (show ¬ iI (aT T n p) = (115 : Int32) by rw [L115]; exact q 115 (by omega) (by omega) e115), if_neg (show ¬ iI (aT T n p) = (116 : Int32) by rw [L116]; exact q 116 (by omega) (by omega) e116), if_neg (show ¬ iI (aT T n p) = (117 : Int32) by rw [L117]; exact q 117 (by omega) (by omega) e117), if_neg (show ¬ iI (aT T n p) = (104 : Int32) by rw [L104]; exact q 104 (by omega) (by omega) e104), if_neg (show ¬ iI (aT T n p) = (111 : Int32) by rw [L111]; exact q 111 (by omega) (by omega) e111), if_neg (show ¬ iI (aT T n p) = (99 : Int32) by rw [L99]; exact q 99 (by omega) (by omega) e99), if_neg (show ¬ iI (aT T n p) = (100 : Int32) by rw [L100]; exact q 100 (by omega) (by omega) e100)]
  have ez : szI (aT T n p) = 0 := by
    unfold szI
    rw [if_neg e99, if_neg e100, if_neg e104, if_neg e111, if_neg e115, if_neg e116, if_neg e117]
  have ef : flt1 T n p = (p : Int) := by unfold flt1; rw [if_pos ez]
  refine ⟨L, A, W, ?_, fun _ _ => ⟨rfl, rfl⟩, fun _ _ => rfl, fun z => absurd z (by omega)⟩
  rw [ef, if_neg (by omega), if_neg (by omega)]
