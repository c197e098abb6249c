/-! snapshots: all of it is kept, or put back -/
set_option maxHeartbeats 200000 in
theorem s_keepF {m c n : Nat} {F G H : Nat → Int32} (hm : m ≤ 10) (hc : c + n + m ≤ 616) (hG : ∀ j, j < m → H j = G (n + j)) : X5_passes (rq m H) (rq 616 (put F c n G)) 1 (iI ((c + n : Nat) : Int)) = some (rq m H, rq 616 (put F c (n + m) G), iI ((c + (n + m) : Nat) : Int)) := by
  unfold X5_passes
  have h := l_keep (n0 := 0) (F := put F c n G) (H := H) hm (c := c + n) (by omega) (fun there_9 kept_10 cursor_11 => some (there_9, kept_10, cursor_11)) m 0 1000 0 (by decide) (by omega) (by omega)
  rw [put_0, Nat.add_zero] at h
  rw [h, put_put (G := G) (fun _ _ => rfl) hG, Nat.add_assoc]
set_option maxHeartbeats 200000 in
theorem s_backF {m c : Nat} {F H : Nat → Int32} (hm : m ≤ 10) (hc : c + m ≤ 616) : X5_passes (rq m H) (rq 616 F) 0 (iI ((c : Nat) : Int)) = some (rq m (fun j => F (c + j)), rq 616 F, iI ((c + m : Nat) : Int)) := by
  unfold X5_passes
  have h := l_back (F := F) (H := H) hm (c := c) (by omega) (fun there_9 kept_10 cursor_11 => some (there_9, kept_10, cursor_11)) m 0 1000 0 (by decide) (by omega) (by omega)
  rw [put_0, Nat.add_zero] at h
  exact h
set_option maxHeartbeats 200000 in
theorem s_keep1 {c n : Nat} {F G : Nat → Int32} {v : Int32} (hc : c + n < 616) (hG : v = G n) : X5_passOne (rq 616 (put F c n G)) 1 (iI ((c + n : Nat) : Int)) v = some (rq 616 (put F c (n + 1) G), iI ((c + (n + 1) : Nat) : Int), v) := by
  subst hG
  unfold X5_passOne
  rw [if_neg (by decide), if_neg (by decide), wr_rq (by omega) (by omega) (by omega), Option.bind_some, iI_s, Int.toNat_natCast, Nat.add_assoc]
  have e : upF (put F c n G) (c + n) (G n) = put F c (n + 1) G := by
    funext j
    unfold upF put
    by_cases a : j = c + n
    · subst a
      rw [if_pos rfl, if_pos (by omega), show c + n - c = n by omega]
    · rw [if_neg a]
      by_cases b : c ≤ j ∧ j < c + n
      · rw [if_pos b, if_pos (by omega)]
      · rw [if_neg b, if_neg (by omega)]
  rw [e]
set_option maxHeartbeats 200000 in
theorem s_back1 {c : Nat} {F : Nat → Int32} {v : Int32} (hc : c < 616) : X5_passOne (rq 616 F) 0 (iI ((c : Nat) : Int)) v = some (rq 616 F, iI ((c + 1 : Nat) : Int), F c) := by
  unfold X5_passOne
  rw [if_pos (by decide), rd_rq (by omega) (by omega) (by omega), Option.bind_some, if_pos (by decide), iI_s, Int.toNat_natCast]
set_option maxHeartbeats 200000 in
theorem fl0 {e : Env} {sh : Nat} {x : XX} {j : Nat} (h : j < 6) : iI (x.1 j) = flat e sh x (0 + j) := by
  unfold flat; rw [if_pos (by omega), Nat.zero_add]
set_option maxHeartbeats 200000 in
theorem fl1 {e : Env} {sh : Nat} {x : XX} {j : Nat} (h : j < 6) : iI (e.1 j) = flat e sh x (6 + j) := by
  unfold flat; rw [if_neg (by omega), if_pos (by omega), show 6 + j - 6 = j by omega]
set_option maxHeartbeats 200000 in
theorem fl2 {e : Env} {sh : Nat} {x : XX} {j : Nat} (h : j < 6) : iI (e.2.1 j) = flat e sh x (12 + j) := by
  unfold flat; rw [if_neg (by omega), if_neg (by omega), if_pos (by omega), show 12 + j - 12 = j by omega]
set_option maxHeartbeats 200000 in
theorem fl3 {e : Env} {sh : Nat} {x : XX} {j : Nat} (h : j < 7) : iI (e.2.2.1 j) = flat e sh x (18 + j) := by
  unfold flat; rw [if_neg (by omega), if_neg (by omega), if_neg (by omega), if_pos (by omega), show 18 + j - 18 = j by omega]
set_option maxHeartbeats 200000 in
theorem fl4 {e : Env} {sh : Nat} {x : XX} {j : Nat} (h : j < 7) : iI (e.2.2.2.1 j) = flat e sh x (25 + j) := by
  unfold flat; rw [if_neg (by omega), if_neg (by omega), if_neg (by omega), if_neg (by omega), if_pos (by omega), show 25 + j - 25 = j by omega]
set_option maxHeartbeats 200000 in
theorem fl5 {e : Env} {sh : Nat} {x : XX} {j : Nat} (h : j < 7) : iI (e.2.2.2.2.1 j) = flat e sh x (32 + j) := by
  unfold flat; rw [if_neg (by omega), if_neg (by omega), if_neg (by omega), if_neg (by omega), if_neg (by omega), if_pos (by omega), show 32 + j - 32 = j by omega]
set_option maxHeartbeats 200000 in
theorem fl6 {e : Env} {sh : Nat} {x : XX} {j : Nat} (h : j < 7) : iI (e.2.2.2.2.2 j) = flat e sh x (39 + j) := by
  unfold flat; rw [if_neg (by omega), if_neg (by omega), if_neg (by omega), if_neg (by omega), if_neg (by omega), if_neg (by omega), if_pos (by omega), show 39 + j - 39 = j by omega]
set_option maxHeartbeats 200000 in
theorem fl7 {e : Env} {sh : Nat} {x : XX} {j : Nat} (h : j < 7) : iI (x.2.1 j) = flat e sh x (46 + j) := by
  unfold flat; rw [if_neg (by omega), if_neg (by omega), if_neg (by omega), if_neg (by omega), if_neg (by omega), if_neg (by omega), if_neg (by omega), if_pos (by omega), show 46 + j - 46 = j by omega]
set_option maxHeartbeats 200000 in
theorem s_keepAll {u hd k f g l t i : Nat → Nat} {sh co d w : Nat} {F : Nat → Int32} {z1 z2 : Int32} (hw : w ≤ 10) :
    X5_passesAll (rn 6 t) (rn 6 u) (rn 6 hd) (rn 7 k) (rn 7 f) (rn 7 g) (rn 7 l) (rn 7 i) (rq 616 F) (iI sh) (iI co) (iI d) z1 z2 (iI w) 1 = some (rn 6 t, rn 6 u, rn 6 hd, rn 7 k, rn 7 f, rn 7 g, rn 7 l, rn 7 i, rq 616 (put F (56 * w) 56 (flat (u, hd, k, f, g, l) sh (t, i, co, d))), iI sh, iI co, iI d, 1, iI ((56 * w + 56 : Nat) : Int)) := by
  unfold X5_passesAll rn
  rw [show c01 1 = some 1 by decide, Option.bind_some, show (56 : Int32) * iI w = iI ((56 * w + 0 : Nat) : Int) by rw [L56, iI_mul]; exact iI_c (by omega)]
  rw [show rq 616 F = rq 616 (put F (56 * w) 0 (flat (u, hd, k, f, g, l) sh (t, i, co, d))) by rw [put_0]]
  rw [s_keepF (H := fun j => iI (t j)) (G := flat (u, hd, k, f, g, l) sh (t, i, co, d)) (by omega) (by omega) (fun j h => fl0 (e := (u, hd, k, f, g, l)) (sh := sh) (x := (t, i, co, d)) h), Option.bind_some]
  rw [s_keepF (H := fun j => iI (u j)) (G := flat (u, hd, k, f, g, l) sh (t, i, co, d)) (by omega) (by omega) (fun j h => fl1 (e := (u, hd, k, f, g, l)) (sh := sh) (x := (t, i, co, d)) h), Option.bind_some]
  rw [s_keepF (H := fun j => iI (hd j)) (G := flat (u, hd, k, f, g, l) sh (t, i, co, d)) (by omega) (by omega) (fun j h => fl2 (e := (u, hd, k, f, g, l)) (sh := sh) (x := (t, i, co, d)) h), Option.bind_some]
  rw [s_keepF (H := fun j => iI (k j)) (G := flat (u, hd, k, f, g, l) sh (t, i, co, d)) (by omega) (by omega) (fun j h => fl3 (e := (u, hd, k, f, g, l)) (sh := sh) (x := (t, i, co, d)) h), Option.bind_some]
  rw [s_keepF (H := fun j => iI (f j)) (G := flat (u, hd, k, f, g, l) sh (t, i, co, d)) (by omega) (by omega) (fun j h => fl4 (e := (u, hd, k, f, g, l)) (sh := sh) (x := (t, i, co, d)) h), Option.bind_some]
  rw [s_keepF (H := fun j => iI (g j)) (G := flat (u, hd, k, f, g, l) sh (t, i, co, d)) (by omega) (by omega) (fun j h => fl5 (e := (u, hd, k, f, g, l)) (sh := sh) (x := (t, i, co, d)) h), Option.bind_some]
  rw [s_keepF (H := fun j => iI (l j)) (G := flat (u, hd, k, f, g, l) sh (t, i, co, d)) (by omega) (by omega) (fun j h => fl6 (e := (u, hd, k, f, g, l)) (sh := sh) (x := (t, i, co, d)) h), Option.bind_some]
  rw [s_keepF (H := fun j => iI (i j)) (G := flat (u, hd, k, f, g, l) sh (t, i, co, d)) (by omega) (by omega) (fun j h => fl7 (e := (u, hd, k, f, g, l)) (sh := sh) (x := (t, i, co, d)) h), Option.bind_some]
  rw [s_keep1 (n := 46 + 7) (v := iI sh) (G := flat (u, hd, k, f, g, l) sh (t, i, co, d)) (by omega) rfl, Option.bind_some, s_keep1 (n := 46 + 7 + 1) (v := iI co) (G := flat (u, hd, k, f, g, l) sh (t, i, co, d)) (by omega) rfl, Option.bind_some, s_keep1 (n := 46 + 7 + 1 + 1) (v := iI d) (G := flat (u, hd, k, f, g, l) sh (t, i, co, d)) (by omega) rfl, Option.bind_some]
set_option maxHeartbeats 200000 in
theorem s_backAll {u hd k f g l t i : Nat → Nat} {sh co d w : Nat} {F H1 H2 H3 H4 H5 H6 H7 H8 : Nat → Int32} {z1 z2 z3 z4 z5 : Int32} (hw : w ≤ 10) (hF : ∀ j, j < 56 → F (56 * w + j) = flat (u, hd, k, f, g, l) sh (t, i, co, d) j) :
    X5_passesAll (rq 6 H1) (rq 6 H2) (rq 6 H3) (rq 7 H4) (rq 7 H5) (rq 7 H6) (rq 7 H7) (rq 7 H8) (rq 616 F) z3 z4 z5 z1 z2 (iI w) 0 = some (rn 6 t, rn 6 u, rn 6 hd, rn 7 k, rn 7 f, rn 7 g, rn 7 l, rn 7 i, rq 616 F, iI sh, iI co, iI d, 0, iI ((56 * w + 56 : Nat) : Int)) := by
  unfold X5_passesAll rn
  rw [show c01 0 = some 0 by decide, Option.bind_some, show (56 : Int32) * iI w = iI ((56 * w : Nat) : Int) by rw [L56, iI_mul]; exact iI_c (by omega)]
  rw [s_backF (by omega) (by omega), Option.bind_some, s_backF (by omega) (by omega), Option.bind_some, s_backF (by omega) (by omega), Option.bind_some, s_backF (by omega) (by omega), Option.bind_some, s_backF (by omega) (by omega), Option.bind_some, s_backF (by omega) (by omega), Option.bind_some, s_backF (by omega) (by omega), Option.bind_some, s_backF (by omega) (by omega), Option.bind_some]
  rw [s_back1 (by omega), Option.bind_some, s_back1 (by omega), Option.bind_some, s_back1 (by omega), Option.bind_some]
  rw [rq_congr (n := 6) (F := fun j => F (56 * w + j)) (F1 := fun j => iI (t j)) (fun j hj => by rw [hF j (by omega)]; exact ((fl0 (e := (u, hd, k, f, g, l)) (sh := sh) (x := (t, i, co, d)) hj).trans (by rw [Nat.zero_add])).symm)]
  rw [rq_congr (n := 6) (F := fun j => F (56 * w + 6 + j)) (F1 := fun j => iI (u j)) (fun j hj => by rw [Nat.add_assoc, hF _ (by omega)]; exact (fl1 (e := (u, hd, k, f, g, l)) (sh := sh) (x := (t, i, co, d)) hj).symm)]
  rw [rq_congr (n := 6) (F := fun j => F (56 * w + 6 + 6 + j)) (F1 := fun j => iI (hd j)) (fun j hj => by rw [Nat.add_assoc, Nat.add_assoc, hF _ (by omega), show 6 + (6 + j) = 12 + j by omega]; exact (fl2 (e := (u, hd, k, f, g, l)) (sh := sh) (x := (t, i, co, d)) hj).symm)]
  rw [rq_congr (n := 7) (F := fun j => F (56 * w + 6 + 6 + 6 + j)) (F1 := fun j => iI (k j)) (fun j hj => by rw [show 56 * w + 6 + 6 + 6 + j = 56 * w + (18 + j) by omega, hF _ (by omega)]; exact (fl3 (e := (u, hd, k, f, g, l)) (sh := sh) (x := (t, i, co, d)) hj).symm)]
  rw [rq_congr (n := 7) (F := fun j => F (56 * w + 6 + 6 + 6 + 7 + j)) (F1 := fun j => iI (f j)) (fun j hj => by rw [show 56 * w + 6 + 6 + 6 + 7 + j = 56 * w + (25 + j) by omega, hF _ (by omega)]; exact (fl4 (e := (u, hd, k, f, g, l)) (sh := sh) (x := (t, i, co, d)) hj).symm)]
  rw [rq_congr (n := 7) (F := fun j => F (56 * w + 6 + 6 + 6 + 7 + 7 + j)) (F1 := fun j => iI (g j)) (fun j hj => by rw [show 56 * w + 6 + 6 + 6 + 7 + 7 + j = 56 * w + (32 + j) by omega, hF _ (by omega)]; exact (fl5 (e := (u, hd, k, f, g, l)) (sh := sh) (x := (t, i, co, d)) hj).symm)]
  rw [rq_congr (n := 7) (F := fun j => F (56 * w + 6 + 6 + 6 + 7 + 7 + 7 + j)) (F1 := fun j => iI (l j)) (fun j hj => by rw [show 56 * w + 6 + 6 + 6 + 7 + 7 + 7 + j = 56 * w + (39 + j) by omega, hF _ (by omega)]; exact (fl6 (e := (u, hd, k, f, g, l)) (sh := sh) (x := (t, i, co, d)) hj).symm)]
  rw [rq_congr (n := 7) (F := fun j => F (56 * w + 6 + 6 + 6 + 7 + 7 + 7 + 7 + j)) (F1 := fun j => iI (i j)) (fun j hj => by rw [show 56 * w + 6 + 6 + 6 + 7 + 7 + 7 + 7 + j = 56 * w + (46 + j) by omega, hF _ (by omega)]; exact (fl7 (e := (u, hd, k, f, g, l)) (sh := sh) (x := (t, i, co, d)) hj).symm)]
  rw [show F (56 * w + 6 + 6 + 6 + 7 + 7 + 7 + 7 + 7) = iI sh by rw [show 56 * w + 6 + 6 + 6 + 7 + 7 + 7 + 7 + 7 = 56 * w + 53 by omega, hF _ (by omega)]; rfl]
  rw [show F (56 * w + 6 + 6 + 6 + 7 + 7 + 7 + 7 + 7 + 1) = iI co by rw [show 56 * w + 6 + 6 + 6 + 7 + 7 + 7 + 7 + 7 + 1 = 56 * w + 54 by omega, hF _ (by omega)]; rfl]
  rw [show F (56 * w + 6 + 6 + 6 + 7 + 7 + 7 + 7 + 7 + 1 + 1) = iI d by rw [show 56 * w + 6 + 6 + 6 + 7 + 7 + 7 + 7 + 7 + 1 + 1 = 56 * w + 55 by omega, hF _ (by omega)]; rfl]
set_option maxHeartbeats 200000 in
theorem s_thinks {u hd k f g l t i : Nat → Nat} {sh co d : Nat} {F : Nat → Int32} {z1 z2 : Int32} :
    X5_thinks (rn 6 t) (rn 6 u) (rn 6 hd) (rn 7 k) (rn 7 f) (rn 7 g) (rn 7 l) (rn 7 i) (rq 616 F) (iI sh) (iI co) (iI d) z1 z2 = some (rn 6 t, rn 6 u, rn 6 hd, rn 7 k, rn 7 f, rn 7 g, rn 7 l, rn 7 i, rq 616 (put F 112 56 (flat (u, hd, k, f, g, l) sh (t, i, co, d))), iI sh, iI co, iI d, 1, iI 168) := by
  have h := s_keepAll (u := u) (hd := hd) (k := k) (f := f) (g := g) (l := l) (t := t) (i := i) (sh := sh) (co := co) (d := d) (F := F) (z1 := z1) (z2 := z2) (w := 2) (by omega)
  rw [show iI ((2 : Nat) : Int) = (2 : Int32) by decide, show 56 * 2 = 112 from rfl, show iI ((112 + 56 : Nat) : Int) = iI 168 by decide] at h
  unfold X5_thinks
  rw [h, Option.bind_some]
set_option maxHeartbeats 200000 in
theorem s_forgets {u hd k f g l t i : Nat → Nat} {sh co d : Nat} {F H1 H2 H3 H4 H5 H6 H7 H8 : Nat → Int32} {z1 z2 z3 z4 z5 : Int32} :
    X5_forgets (rq 6 H1) (rq 6 H2) (rq 6 H3) (rq 7 H4) (rq 7 H5) (rq 7 H6) (rq 7 H7) (rq 7 H8) (rq 616 (put F 112 56 (flat (u, hd, k, f, g, l) sh (t, i, co, d)))) z3 z4 z5 z1 z2 = some (rn 6 t, rn 6 u, rn 6 hd, rn 7 k, rn 7 f, rn 7 g, rn 7 l, rn 7 i, rq 616 (put F 112 56 (flat (u, hd, k, f, g, l) sh (t, i, co, d))), iI sh, iI co, iI d, 0, iI 168) := by
  have h := s_backAll (u := u) (hd := hd) (k := k) (f := f) (g := g) (l := l) (t := t) (i := i) (sh := sh) (co := co) (d := d) (F := put F 112 56 (flat (u, hd, k, f, g, l) sh (t, i, co, d))) (H1 := H1) (H2 := H2) (H3 := H3) (H4 := H4) (H5 := H5) (H6 := H6) (H7 := H7) (H8 := H8) (z1 := z1) (z2 := z2) (z3 := z3) (z4 := z4) (z5 := z5) (w := 2) (by omega) (fun j hj => by unfold put; rw [if_pos (by omega), show 56 * 2 + j - 112 = j by omega])
  rw [show iI ((2 : Nat) : Int) = (2 : Int32) by decide, show iI ((56 * 2 + 56 : Nat) : Int) = iI 168 by decide] at h
  unfold X5_forgets
  rw [h, Option.bind_some]
