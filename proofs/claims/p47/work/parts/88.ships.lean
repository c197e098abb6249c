/-! the loop over SHIPS -/
set_option maxRecDepth 20000 in
set_option maxHeartbeats 400000 in
theorem hid_env {Z : SS} {a : Nat} {n : Nat} (h : n ≤ Z.2.2.1 a) : hidZ Z a (n : Int) = ((Z.1.1, upN Z.1.2.1 a (Z.1.2.1 a + n), Z.1.2.2), Z.2.1, (upN Z.2.2.1 a (Z.2.2.1 a - n), Z.2.2.2)) := by
  unfold hidZ
  rw [show ((Z.1.2.1 a : Int) + (n : Int)).toNat = Z.1.2.1 a + n by omega, show ((Z.2.2.1 a : Int) - (n : Int)).toNat = Z.2.2.1 a - n by omega]
def HidV (Z : SS) (y m g : Nat) (v : Int) : Prop := (v = -9 ∧ ∀ j, j ≤ Z.2.2.1 g → PH Z.1 Z.2.1 y m g Z.2.2 j = -9) ∨ (∃ w : Nat, w ≤ Z.2.2.1 g ∧ v = (w : Int) ∧ ¬ PH Z.1 Z.2.1 y m g Z.2.2 w = -9 ∧ ∀ j, j < w → PH Z.1 Z.2.1 y m g Z.2.2 j = -9)
-- HIDE of some: it can be hidden, and then the SHIP comes in time
set_option maxRecDepth 20000 in
set_option maxHeartbeats 400000 in
theorem w866 {Z : SS} {S : Rw} {y g m : Nat} {v : Int} {a4 a5 a6 a8 a11 a14 : Int32} {k : Rw → Option Int32} {r : Int32 → Rw → Option Int32} (hZ : OkS Z) (hm : m ≤ 60) (hr : ∀ S : Rw, Gp Z Z Tr S → r (iI ((g + 1 : Nat) : Int)) S = some 1) (hy : y < Z.2.1) (hg : g < 6) (hv : HidV Z y m g v) (h : Gp Z Z Tr S) : X_L_law_J866 k r (iI (Z.2.1 : Int)) (iI (Z.2.2.2.2.2 : Int)) a4 a5 a6 (iI (m : Int)) a8 (iI (y : Int)) a11 a14 (iI (g : Int)) (iI v) S = some 1 := by
  have ht : ∀ j, Z.2.2.1 j ≤ 99 := xT (sX hZ)
  have hh : ∀ j, Z.1.2.1 j ≤ 99 := hZ.2.1
  have t1 := ht g
  have h1 := hh g
  have hvb : -9 ≤ v ∧ v ≤ 99 := by
    rcases hv with ⟨q, -⟩ | ⟨w, q1, q2, -⟩ <;> omega
  unfold X_L_law_J866
  by_cases c0 : v ≤ 0
  · rw [if_pos (show iI v ≤ (0 : Int32) by rw [L0]; exact tle c0 (by omega) (by omega)), iI_s]
    exact hr S h
  · rw [if_neg (show ¬ iI v ≤ (0 : Int32) by rw [L0]; exact fle (by omega) (by omega) (by omega))]
    rcases hv with ⟨rfl, -⟩ | ⟨w, w1, rfl, w2, w3⟩
    · exact absurd (show (-9 : Int) ≤ 0 by decide) c0
    · obtain ⟨S1, e, k1⟩ := t_good2 hg h hZ
      rw [e, Option.bind_some, L99, iI_add]
      by_cases c1 : 99 < (Z.1.2.1 g : Int) + (w : Int)
      · rw [if_pos (show iI 99 < iI ((Z.1.2.1 g : Int) + (w : Int)) from tlt c1 (by omega) (by omega)), iI_s]
        exact hr S1 k1
      · rw [if_neg (show ¬ iI 99 < iI ((Z.1.2.1 g : Int) + (w : Int)) from flt (by omega) (by omega) (by omega))]
        obtain ⟨S2, e, k2, hZ2⟩ := t_hides (n := (w : Int)) hg (by omega) (by omega) (by omega) (by omega) k1 hZ
        have eZ := hid_env (Z := Z) (a := g) (n := w) w1
        rw [e, Option.bind_some, if_neg (show ¬ iI ((Z.2.2.1 g : Int) - (w : Int)) < (0 : Int32) from m9 (by omega) (by omega))]
        have hP : PH Z.1 Z.2.1 y m g Z.2.2 w = (cmX (hidZ Z g (w : Int)).1 (hidZ Z g (w : Int)).2.1 0 6 y m 0 (hidZ Z g (w : Int)).2.2).1 := by
          rw [eZ]
          rfl
        have cr := cmR (e := (hidZ Z g (w : Int)).1) (sh := (hidZ Z g (w : Int)).2.1) (s := y) (n := m) (sX hZ2) hm
        have cb := cmX_b (e := (hidZ Z g (w : Int)).1) (sh := (hidZ Z g (w : Int)).2.1) (b := 0) (fr := 6) (s := y) 60 0 (hidZ Z g (w : Int)).2.2
        rw [hP] at w2
        obtain ⟨S3, e, k3⟩ := t_comes (s := y) (show y < (hidZ Z g (w : Int)).2.1 from hy) k2 hZ2
        rw [e, Option.bind_some, if_neg (show ¬ iI (cmX (hidZ Z g (w : Int)).1 (hidZ Z g (w : Int)).2.1 0 6 y 60 0 (hidZ Z g (w : Int)).2.2).1 < (0 : Int32) from m9 (by omega) (by omega))]
        obtain ⟨S4, e, k4⟩ := t_comes (s := y) (show y < (hidZ Z g (w : Int)).2.1 from hy) k3 hZ2
        rw [e, Option.bind_some, if_neg (show ¬ iI (m : Int) < iI (cmX (hidZ Z g (w : Int)).1 (hidZ Z g (w : Int)).2.1 0 6 y 60 0 (hidZ Z g (w : Int)).2.2).1 from flt (by omega) (by omega) (by omega))]
        obtain ⟨S5, e, k5⟩ := t_restore k4
        rw [e, Option.bind_some, if_pos rfl, iI_s]
        exact hr S5 k5
set_option maxRecDepth 20000 in
set_option maxHeartbeats 400000 in
theorem w806 {Z : SS} {S : Rw} {y g m : Nat} {a4 a5 a6 a8 a14 : Int32} {k : Rw → Option Int32} {r : Int32 → Rw → Option Int32} (hZ : OkS Z) (hm1 : 1 ≤ m) (hm : m ≤ 60) (hr : ∀ S : Rw, Gp Z Z Tr S → r (iI ((g + 1 : Nat) : Int)) S = some 1) (hy : y < Z.2.1) (hg : g < 6) (h : Gp Z Z Tr S) : X_L_law_J806 k r (iI (Z.2.1 : Int)) (iI (Z.2.2.2.2.2 : Int)) a4 a5 a6 (iI (m : Int)) a8 (iI (y : Int)) (iI (cmX Z.1 Z.2.1 0 6 y 60 0 Z.2.2).1) a14 (iI (g : Int)) S = some 1 := by
  have ht : ∀ j, Z.2.2.1 j ≤ 99 := xT (sX hZ)
  have t1 := ht g
  have cb := cmX_b (e := Z.1) (sh := Z.2.1) (b := 0) (fr := 6) (s := y) 60 0 Z.2.2
  have cr := cmR (e := Z.1) (sh := Z.2.1) (s := y) (n := m) (sX hZ) hm
  unfold X_L_law_J806
  obtain ⟨S1, v, e, k1, hv⟩ := t_hide (n := m) hg hy hm1 hm h hZ
  have hv0 : v = 0 ↔ ¬ (cmX Z.1 Z.2.1 0 6 y m 0 Z.2.2).1 = -9 := by
    rw [← PH0 (a := g)]
    rcases hv with ⟨q1, q2⟩ | ⟨w, q1, q2, q3, q4⟩
    · have := q2 0 (by omega)
      exact ⟨fun z => by omega, fun z => absurd this z⟩
    · refine ⟨fun z => ?_, fun z => ?_⟩
      · rw [show w = 0 by omega] at q3
        exact q3
      · by_cases c : w = 0
        · omega
        · exact absurd (q4 0 (by omega)) z
  have hvb : -9 ≤ v ∧ v ≤ (Z.2.2.1 g : Int) := by
    rcases hv with ⟨q1, q2⟩ | ⟨w, q1, q2, q3, q4⟩ <;> omega
  have hV : HidV Z y m g v := hv
  clear hv
  rw [e, Option.bind_some]
  obtain ⟨S2, e, k2⟩ := t_good0 hg k1 hZ
  rw [e, Option.bind_some, if_neg (show ¬ iI (Z.2.2.1 g : Int) < iI v from flt hvb.2 (by omega) (by omega))]
  have key : X_L_law_J847 k r (iI (Z.2.1 : Int)) (iI (Z.2.2.2.2.2 : Int)) a4 a5 a6 (iI (m : Int)) a8 (iI (y : Int)) (iI (cmX Z.1 Z.2.1 0 6 y 60 0 Z.2.2).1) a14 (iI (g : Int)) (iI v) S2 = some 1 := by
    unfold X_L_law_J847
    by_cases c : v = 0
    · have c1 := hv0.mp c
      rw [if_pos (show iI v = (0 : Int32) by rw [c]; decide), if_neg (show ¬ iI (cmX Z.1 Z.2.1 0 6 y 60 0 Z.2.2).1 < (0 : Int32) from m9 (by omega) (by omega)), if_pos (show iI (cmX Z.1 Z.2.1 0 6 y 60 0 Z.2.2).1 ≤ iI (m : Int) from tle (by omega) (by omega) (by omega))]
      exact w866 hZ hm hr hy hg hV k2
    · rw [if_neg (show ¬ iI v = (0 : Int32) by rw [L0]; exact feq c (by omega) (by omega) (by omega) (by omega))]
      exact w866 hZ hm hr hy hg hV k2
  unfold X_L_law_J830
  by_cases c1 : (cmX Z.1 Z.2.1 0 6 y 60 0 Z.2.2).1 < 0
  · rw [if_pos (show iI (cmX Z.1 Z.2.1 0 6 y 60 0 Z.2.2).1 < (0 : Int32) by rw [L0]; exact tlt c1 (by omega) (by omega))]
    exact key
  · rw [if_neg (show ¬ iI (cmX Z.1 Z.2.1 0 6 y 60 0 Z.2.2).1 < (0 : Int32) from m9 (by omega) (by omega))]
    by_cases c2 : (m : Int) < (cmX Z.1 Z.2.1 0 6 y 60 0 Z.2.2).1
    · rw [if_pos (show iI (m : Int) < iI (cmX Z.1 Z.2.1 0 6 y 60 0 Z.2.2).1 from tlt c2 (by omega) (by omega))]
      exact key
    · have c3 : v = 0 := hv0.mpr (fun z => by have := cr.mp z; omega)
      rw [if_neg (show ¬ iI (m : Int) < iI (cmX Z.1 Z.2.1 0 6 y 60 0 Z.2.2).1 from flt (by omega) (by omega) (by omega)), if_pos (show iI v = (0 : Int32) by rw [c3]; decide)]
      exact key
-- FOR's bits: 0, or such as are lacked
set_option maxRecDepth 20000 in
set_option maxHeartbeats 400000 in
theorem w776 {Z : SS} {y m b : Nat} {a4 a5 a6 a8 : Int32} {k : Rw → Option Int32} (hZ : OkS Z) (hm1 : 1 ≤ m) (hm : m ≤ 60) (hk : ∀ S : Rw, Gp Z Z Tr S → k S = some 1) (hy : y < Z.2.1) (hb : b < 128) (hbl : ∀ g, g < 6 → b / 2 ^ g % 2 = 1 → ¬ lk 6 Z.1.1 Z.2.2.1 g = 0) : ∀ (r g n : Nat) (x : Int32) (S : Rw), x = iI (g : Int) → g + r = 6 → r < n → Gp Z Z Tr S → X_L_law_L776 k (iI (Z.2.1 : Int)) (iI (Z.2.2.2.2.2 : Int)) a4 a5 a6 (iI (m : Int)) a8 (iI (y : Int)) (iI (cmX Z.1 Z.2.1 0 6 y 60 0 Z.2.2).1) (iI (b : Int)) n x S = some 1 := by
  have hL : ∀ j, lk 6 Z.1.1 Z.2.2.1 j ≤ 63 := fun j => lk_le (oU (sE hZ)) j
  intro r
  induction r with
  | zero =>
    intro g n x S hx hg hn h
    obtain ⟨n, rfl⟩ : ∃ m, n = m + 1 := ⟨n - 1, by omega⟩
    subst hx
    rw [X_L_law_L776, if_pos (show (6 : Int32) ≤ iI (g : Int) by rw [L6]; exact tle (by omega) (by omega) (by omega))]
    exact hk S h
  | succ r ih =>
    intro g n x S hx hg hn h
    obtain ⟨n, rfl⟩ : ∃ m, n = m + 1 := ⟨n - 1, by omega⟩
    subst hx
    have hr : ∀ S : Rw, Gp Z Z Tr S → X_L_law_L776 k (iI (Z.2.1 : Int)) (iI (Z.2.2.2.2.2 : Int)) a4 a5 a6 (iI (m : Int)) a8 (iI (y : Int)) (iI (cmX Z.1 Z.2.1 0 6 y 60 0 Z.2.2).1) (iI (b : Int)) n (iI ((g + 1 : Nat) : Int)) S = some 1 := fun S h => ih (g + 1) n _ S rfl (by omega) (by omega) h
    rw [X_L_law_L776, if_neg (show ¬ (6 : Int32) ≤ iI (g : Int) by rw [L6]; exact fle (by omega) (by omega) (by omega)), bitN hb (by omega)]
    by_cases c : b / 2 ^ g % 2 = 1
    · have l1 := hbl g (by omega) c
      have l2 := hL g
      rw [if_pos (show iI ((b / 2 ^ g % 2 : Nat) : Int) = (1 : Int32) by rw [c]; decide)]
      obtain ⟨S1, e, k1⟩ := t_good3 (a := g) (by omega) h hZ
      rw [e, Option.bind_some, if_neg (show ¬ iI (lk 6 Z.1.1 Z.2.2.1 g : Int) = (0 : Int32) from ne0 (by omega) (by omega))]
      exact w806 hZ hm1 hm hr hy (by omega) k1
    · rw [if_neg (show ¬ iI ((b / 2 ^ g % 2 : Nat) : Int) = (1 : Int32) by rw [show b / 2 ^ g % 2 = 0 by omega]; decide)]
      exact w806 hZ hm1 hm hr hy (by omega) h
set_option maxRecDepth 20000 in
set_option maxHeartbeats 400000 in
theorem w933 {Z : SS} {S : Rw} {y m : Nat} {a3 a4 a5 a6 a8 : Int32} {k : Rw → Option Int32} {r : Int32 → Rw → Option Int32} (hZ : OkS Z) (hm1 : 1 ≤ m) (hm : m ≤ 60) (hr : ∀ S : Rw, Gp Z Z Tr S → r (iI ((y + 1 : Nat) : Int)) S = some 1) (hy : y < Z.2.1) (h : Gp Z Z Tr S) : X_L_law_J933 k r (iI (Z.2.1 : Int)) a3 a4 a5 a6 (iI (m : Int)) a8 (iI (y : Int)) (iI (cmX Z.1 Z.2.1 0 6 y 60 0 Z.2.2).1) S = some 1 := by
  have cb := cmX_b (e := Z.1) (sh := Z.2.1) (b := 0) (fr := 6) (s := y) 60 0 Z.2.2
  have cr := cmR (e := Z.1) (sh := Z.2.1) (s := y) (n := m) (sX hZ) hm
  obtain ⟨f1, f2, f3⟩ := fsize0 (P := PW Z.1 Z.2.1 y m Z.2.2)
  rw [PW0] at f1
  unfold X_L_law_J933
  obtain ⟨S1, e, k1⟩ := t_fewest (n := m) hy hm1 hm h hZ
  rw [e, Option.bind_some]
  unfold X_L_law_J943
  by_cases c : fsize (PW Z.1 Z.2.1 y m Z.2.2) 7 0 = 0
  · have c1 := f1.mp c
    rw [if_pos (show iI (fsize (PW Z.1 Z.2.1 y m Z.2.2) 7 0) = (0 : Int32) by rw [c]; decide), if_neg (show ¬ iI (cmX Z.1 Z.2.1 0 6 y 60 0 Z.2.2).1 < (0 : Int32) from m9 (by omega) (by omega)), if_neg (show ¬ iI (m : Int) < iI (cmX Z.1 Z.2.1 0 6 y 60 0 Z.2.2).1 from flt (by omega) (by omega) (by omega)), iI_s]
    exact hr S1 k1
  · rw [if_neg (show ¬ iI (fsize (PW Z.1 Z.2.1 y m Z.2.2) 7 0) = (0 : Int32) by rw [L0]; exact feq c (by omega) (by omega) (by omega) (by omega))]
    by_cases c1 : (cmX Z.1 Z.2.1 0 6 y 60 0 Z.2.2).1 < 0
    · rw [if_pos (show iI (cmX Z.1 Z.2.1 0 6 y 60 0 Z.2.2).1 < (0 : Int32) by rw [L0]; exact tlt c1 (by omega) (by omega)), iI_s]
      exact hr S1 k1
    · rw [if_neg (show ¬ iI (cmX Z.1 Z.2.1 0 6 y 60 0 Z.2.2).1 < (0 : Int32) from m9 (by omega) (by omega))]
      by_cases c2 : (m : Int) < (cmX Z.1 Z.2.1 0 6 y 60 0 Z.2.2).1
      · rw [if_pos (show iI (m : Int) < iI (cmX Z.1 Z.2.1 0 6 y 60 0 Z.2.2).1 from tlt c2 (by omega) (by omega)), iI_s]
        exact hr S1 k1
      · exact absurd (f1.mpr (fun z => by have := cr.mp z; omega)) c
set_option maxRecDepth 20000 in
set_option maxHeartbeats 400000 in
theorem w748 {Z : SS} {S : Rw} {y m : Nat} {a4 a5 a6 : Int32} {k : Rw → Option Int32} {r : Int32 → Rw → Option Int32} (hZ : OkS Z) (hm1 : 1 ≤ m) (hm : m ≤ 60) (hr : ∀ S : Rw, Gp Z Z Tr S → r (iI ((y + 1 : Nat) : Int)) S = some 1) (hy : y < Z.2.1) (hi0 : Z.2.2.2.1 y = 0) (h : Gp Z Z Tr S) : X_L_law_J748 k r (iI (Z.2.1 : Int)) (iI (Z.2.2.2.2.2 : Int)) a4 a5 a6 (iI (m : Int)) (iI (mk (daysX Z.1 Z.2.1 0 6 1 Z.2.2).2.1 : Int)) (iI (y : Int)) (iI (cmX Z.1 Z.2.1 0 6 y 60 0 Z.2.2).1) S = some 1 := by
  have hsh := sSh hZ
  have hn : ∀ j, (daysX Z.1 Z.2.1 0 6 1 Z.2.2).2.1 j ≤ 1 := dI (sX hZ)
  have b1 := hn y
  have end1 : ∀ (b : Nat) {S : Rw}, b < 128 → (∀ g, g < 6 → b / 2 ^ g % 2 = 1 → ¬ lk 6 Z.1.1 Z.2.2.1 g = 0) → Gp Z Z Tr S → X_L_law_J773 k r (iI (Z.2.1 : Int)) (iI (Z.2.2.2.2.2 : Int)) a4 a5 a6 (iI (m : Int)) (iI (mk (daysX Z.1 Z.2.1 0 6 1 Z.2.2).2.1 : Int)) (iI (y : Int)) (iI (cmX Z.1 Z.2.1 0 6 y 60 0 Z.2.2).1) (iI (b : Int)) S = some 1 := by
    intro b S hb hbl h
    unfold X_L_law_J773
    exact w776 hZ hm1 hm (fun S h => w933 hZ hm1 hm hr hy h) hy hb hbl 6 0 1000 0 S (by decide) (by omega) (by omega) h
  unfold X_L_law_J748
  obtain ⟨S1, e, k1⟩ := t_forWhat hy hi0 h hZ
  rw [e, Option.bind_some, bitI hn (by omega)]
  by_cases c : (dayX Z.1 Z.2.1 0 6 Z.2.2).2.1 y = 0
  · have c1 : (daysX Z.1 Z.2.1 0 6 1 Z.2.2).2.1 y = 0 := c
    rw [if_pos (show iI ((daysX Z.1 Z.2.1 0 6 1 Z.2.2).2.1 y : Int) = (0 : Int32) by rw [c1]; decide), if_pos c, if_pos z00]
    exact end1 0 (by omega) (fun g _ z => by rw [Nat.zero_div] at z; exact absurd z (by decide)) k1
  · have c1 : ¬ (daysX Z.1 Z.2.1 0 6 1 Z.2.2).2.1 y = 0 := c
    rw [if_neg (show ¬ iI ((daysX Z.1 Z.2.1 0 6 1 Z.2.2).2.1 y : Int) = (0 : Int32) from ne0 (by omega) (by omega)), if_neg c]
    refine end1 _ (bits_lt (by omega)) (fun g hg z l0 => ?_) k1
    rw [bits0 hg] at z
    have u1 := dayX_unl (u := Z.1.1) (hd := Z.1.2.1) (k := Z.1.2.2.1) (f := Z.1.2.2.2.1) (g := Z.1.2.2.2.2.1) (l := Z.1.2.2.2.2.2) (sh := Z.2.1) (x := Z.2.2) (oG (sE hZ)) (sX hZ) hg l0 y
    have u2 : uV Z.1 Z.2.1 Z.2.2 y g = 0 := by
      unfold uV
      rw [if_neg (fun q => c (u1.symm.trans q))]
    rw [u2] at z
    exact absurd z (by decide)
set_option maxRecDepth 20000 in
set_option maxHeartbeats 400000 in
theorem w702 {Z : SS} {S : Rw} {y m : Nat} {a4 a6 : Int32} {k : Rw → Option Int32} {r : Int32 → Rw → Option Int32} (hZ : OkS Z) (hm1 : 1 ≤ m) (hm : m ≤ 60) (hr : ∀ S : Rw, Gp Z Z Tr S → r (iI ((y + 1 : Nat) : Int)) S = some 1) (hy : y < Z.2.1) (hi0 : Z.2.2.2.1 y = 0) (h : Gp Z Z Tr S) : X_L_law_J702 k r (iI (Z.2.1 : Int)) (iI (Z.2.2.2.2.2 : Int)) a4 (iI (mk Z.2.2.2.1 : Int)) a6 (iI (m : Int)) (iI (mk (daysX Z.1 Z.2.1 0 6 1 Z.2.2).2.1 : Int)) (iI (y : Int)) (iI (cmX Z.1 Z.2.1 0 6 y 60 0 Z.2.2).1) S = some 1 := by
  have hsh := sSh hZ
  have hi : ∀ j, Z.2.2.2.1 j ≤ 1 := xI (sX hZ)
  unfold X_L_law_J702
  obtain ⟨S1, e, k1⟩ := t_byWhom hy h hZ
  rw [e, Option.bind_some]
  by_cases c : shV Z.1 Z.2.1 Z.2.2 y = 0
  · rw [if_pos c, if_pos (show iI (-9) < (0 : Int32) by decide)]
    exact w748 hZ hm1 hm hr hy hi0 k1
  · rw [if_neg c]
    have hsv : (dayX Z.1 Z.2.1 0 6 Z.2.2).2.1 y = 0 := by
      unfold shV at c
      by_cases q : Z.2.2.2.1 y = 0 ∧ (dayX Z.1 Z.2.1 0 6 Z.2.2).2.1 y = 0 ∧ (dayX Z.1 Z.2.1 (127 - 2 ^ y) 6 Z.2.2).2.1 y = 1
      · exact q.2.1
      · rw [if_neg q] at c
        exact absurd rfl c
    rcases byV_spec (e := Z.1) (sh := Z.2.1) (s0 := y) (x := Z.2.2) Z.2.1 0 with q | ⟨b, q1, q2, q3, q4⟩
    · rw [q, if_pos (show iI (-9) < (0 : Int32) by decide)]
      exact w748 hZ hm1 hm hr hy hi0 k1
    · rw [q3, if_neg (show ¬ iI (b : Int) < (0 : Int32) from m9 (by omega) (by omega))]
      obtain ⟨S2, e, k2⟩ := t_shut k1 hZ
      have bb := bits0 (v := shV Z.1 Z.2.1 Z.2.2) (r := Z.2.1) hy
      rw [if_neg c] at bb
      have c1 : ¬ b = y := fun z => by
        rw [z] at q4
        exact q4 (dayX_self (by omega) hsh hi0)
      have c2 : Z.2.2.2.1 b = 0 := by
        by_cases z : Z.2.2.2.1 b = 1
        · rw [dayX_barIn (show b < 7 by omega) hsh z] at q4
          exact absurd hsv q4
        · have := hi b
          omega
      rw [e, Option.bind_some, bitN (bits_lt hsh) (by omega), bb, if_pos z11, if_neg (show ¬ iI (b : Int) = iI (y : Int) from feq (by omega) (by omega) (by omega) (by omega) (by omega)), bitI hi (by omega), c2, if_neg (show ¬ iI ((0 : Nat) : Int) = (1 : Int32) by decide)]
      exact w748 hZ hm1 hm hr hy hi0 k2
set_option maxRecDepth 20000 in
set_option maxHeartbeats 400000 in
theorem w654 {Z : SS} {S : Rw} {y m : Nat} {a4 a6 : Int32} {k : Rw → Option Int32} {r : Int32 → Rw → Option Int32} (hZ : OkS Z) (hm1 : 1 ≤ m) (hm : m ≤ 60) (hr : ∀ S : Rw, Gp Z Z Tr S → r (iI ((y + 1 : Nat) : Int)) S = some 1) (hy : y < Z.2.1) (hi0 : Z.2.2.2.1 y = 0) (h : Gp Z Z Tr S) : X_L_law_J654 k r (iI (Z.2.1 : Int)) (iI (Z.2.2.2.2.2 : Int)) a4 (iI (mk Z.2.2.2.1 : Int)) a6 (iI (m : Int)) (iI (mk (daysX Z.1 Z.2.1 0 6 1 Z.2.2).2.1 : Int)) (iI (y : Int)) (iI (cmX Z.1 Z.2.1 0 6 y 60 0 Z.2.2).1) S = some 1 := by
  have cb := cmX_b (e := Z.1) (sh := Z.2.1) (b := 0) (fr := 6) (s := y) 60 0 Z.2.2
  unfold X_L_law_J654
  obtain ⟨S1, e, k1⟩ := t_sendsOut (n := 5) hy (by omega) hi0 h hZ
  rw [show A_sends S (iI (y : Int)) 5 = A_sends S (iI (y : Int)) (iI ((5 : Nat) : Int)) from rfl, e, Option.bind_some, if_pos rfl]
  have key : ∀ {S : Rw}, Gp Z Z Tr S → X_L_law_J683 k r (iI (Z.2.1 : Int)) (iI (Z.2.2.2.2.2 : Int)) a4 (iI (mk Z.2.2.2.1 : Int)) a6 (iI (m : Int)) (iI (mk (daysX Z.1 Z.2.1 0 6 1 Z.2.2).2.1 : Int)) (iI (y : Int)) (iI (cmX Z.1 Z.2.1 0 6 y 60 0 Z.2.2).1) S = some 1 := by
    intro S h
    unfold X_L_law_J683
    by_cases c : (cmX Z.1 Z.2.1 0 6 y 60 0 Z.2.2).1 < 0
    · rw [if_pos (show iI (cmX Z.1 Z.2.1 0 6 y 60 0 Z.2.2).1 < (0 : Int32) by rw [L0]; exact tlt c (by omega) (by omega))]
      exact w702 hZ hm1 hm hr hy hi0 h
    · rw [if_neg (show ¬ iI (cmX Z.1 Z.2.1 0 6 y 60 0 Z.2.2).1 < (0 : Int32) from m9 (by omega) (by omega))]
      obtain ⟨S2, v, e, k2, v1, v2, v3⟩ := t_loaded1 hy hi0 h hZ
      have v4 := v3 (by omega)
      rw [e, Option.bind_some, if_pos (show iI v ≤ iI (cmX Z.1 Z.2.1 0 6 y 60 0 Z.2.2).1 from tle v4 (by omega) (by omega))]
      exact w702 hZ hm1 hm hr hy hi0 k2
  unfold X_L_law_J666
  by_cases c : 0 ≤ (cmX Z.1 Z.2.1 0 6 y 60 0 Z.2.2).1
  · rw [if_pos (show (0 : Int32) ≤ iI (cmX Z.1 Z.2.1 0 6 y 60 0 Z.2.2).1 from p9 c (by omega))]
    exact key k1
  · rw [if_neg (show ¬ (0 : Int32) ≤ iI (cmX Z.1 Z.2.1 0 6 y 60 0 Z.2.2).1 by rw [L0]; exact fle (by omega) (by omega) (by omega))]
    obtain ⟨S2, v, e, k2, v1, v2, v3⟩ := t_loaded1 hy hi0 k1 hZ
    rw [e, Option.bind_some, if_neg (show ¬ iI v < (-9 : Int32) by rw [← e9]; exact flt v1 (by omega) (by omega))]
    exact key k2
set_option maxRecDepth 20000 in
set_option maxHeartbeats 400000 in
theorem w567 {Z : SS} {S : Rw} {y m : Nat} {a4 a6 : Int32} {k : Rw → Option Int32} {r : Int32 → Rw → Option Int32} (hZ : OkS Z) (hm1 : 1 ≤ m) (hm : m ≤ 60) (hr : ∀ S : Rw, Gp Z Z Tr S → r (iI ((y + 1 : Nat) : Int)) S = some 1) (hy : y < Z.2.1) (h : Gp Z Z Tr S) : X_L_law_J567 k r (iI (Z.2.1 : Int)) (iI (Z.2.2.2.2.2 : Int)) a4 (iI (mk Z.2.2.2.1 : Int)) a6 (iI (m : Int)) (iI (mk (daysX Z.1 Z.2.1 0 6 1 Z.2.2).2.1 : Int)) (iI (y : Int)) (iI (cmX Z.1 Z.2.1 0 6 y 60 0 Z.2.2).1) (iI (Z.2.2.2.1 y : Int)) S = some 1 := by
  have hi : ∀ j, Z.2.2.2.1 j ≤ 1 := xI (sX hZ)
  have b := hi y
  unfold X_L_law_J567
  by_cases c : Z.2.2.2.1 y = 0
  · rw [if_pos (show iI (Z.2.2.2.1 y : Int) = (0 : Int32) by rw [c]; decide)]
    exact w654 hZ hm1 hm hr hy c h
  · have c1 : Z.2.2.2.1 y = 1 := by omega
    rw [if_neg (show ¬ iI (Z.2.2.2.1 y : Int) = (0 : Int32) from ne0 (by omega) (by omega))]
    obtain ⟨S1, e, k1⟩ := t_forWhatIn hy c1 h hZ
    rw [e, Option.bind_some, if_pos rfl]
    obtain ⟨S2, e, k2⟩ := t_loadedIn hy c1 k1 hZ
    rw [e, Option.bind_some, if_pos rfl]
    have hl : ∀ j, Z.1.2.2.2.2.2 j ≤ 99 := oL (sE hZ)
    have l1 := hl y
    obtain ⟨S3, e, k3, hZ3⟩ := t_sends (n := 5) hy (by omega) c1 k2 hZ
    rw [show A_sends S2 (iI (y : Int)) 5 = A_sends S2 (iI (y : Int)) (iI ((5 : Nat) : Int)) from rfl, e, Option.bind_some, if_neg (show ¬ iI (Z.1.2.2.2.2.2 y : Int) < (0 : Int32) from m9 (by omega) (by omega))]
    obtain ⟨S4, e, k4⟩ := t_ship4 (s := y) (show y < (senZ Z y 5).2.1 from hy) k3 hZ3
    rw [e, Option.bind_some, if_pos (show iI ((senZ Z y 5).2.2.2.1 y : Int) = (0 : Int32) by rw [show (senZ Z y 5).2.2.2.1 y = 0 from upN_at]; decide)]
    obtain ⟨S5, e, k5⟩ := t_ship3 (s := y) (show y < (senZ Z y 5).2.1 from hy) k4 hZ3
    rw [e, Option.bind_some, if_pos (show iI ((senZ Z y 5).1.2.2.2.2.2 y : Int) = (5 : Int32) by rw [show (senZ Z y 5).1.2.2.2.2.2 y = 5 from upN_at]; decide)]
    obtain ⟨S6, v, e, hv, k6⟩ := t_back k5
    rw [e, Option.bind_some, if_neg (show ¬ iI (v : Int) < (0 : Int32) from m9 (by omega) (by omega))]
    obtain ⟨S7, e, k7⟩ := t_ship4 (s := y) hy k6 hZ
    rw [e, Option.bind_some, if_pos (show iI (Z.2.2.2.1 y : Int) = (1 : Int32) by rw [c1]; decide)]
    obtain ⟨S8, e, k8⟩ := t_restore k7
    rw [e, Option.bind_some, if_pos rfl, iI_s]
    exact hr S8 k8
set_option maxRecDepth 20000 in
set_option maxHeartbeats 400000 in
theorem w502 {Z : SS} {S : Rw} {y m : Nat} {a4 a6 : Int32} {k : Rw → Option Int32} {r : Int32 → Rw → Option Int32} (hZ : OkS Z) (hm1 : 1 ≤ m) (hm : m ≤ 60) (hr : ∀ S : Rw, Gp Z Z Tr S → r (iI ((y + 1 : Nat) : Int)) S = some 1) (hy : y < Z.2.1) (h : Gp Z Z Tr S) : X_L_law_J502 k r (iI (Z.2.1 : Int)) (iI (Z.2.2.2.2.2 : Int)) a4 (iI (mk Z.2.2.2.1 : Int)) a6 (iI (m : Int)) (iI (mk (daysX Z.1 Z.2.1 0 6 1 Z.2.2).2.1 : Int)) (iI (y : Int)) (iI (cmX Z.1 Z.2.1 0 6 y 60 0 Z.2.2).1) (iI (Z.2.2.2.1 y : Int)) S = some 1 := by
  have hsh := sSh hZ
  unfold X_L_law_J502
  obtain ⟨S1, e, k1⟩ := t_ship7 hy h hZ
  rw [e, Option.bind_some]
  obtain ⟨S2, e, k2⟩ := t_tide (n := 0) (by omega) k1 hZ
  rw [show A_tide S1 0 = A_tide S1 (iI ((0 : Nat) : Int)) from rfl, e, Option.bind_some]
  obtain ⟨S3, e, k3⟩ := t_ship6 hy k2 hZ
  rw [e, Option.bind_some, if_pos (show iI ((td Z.2.2.2.2.2 + sk (lk 6 Z.1.1 Z.2.2.1) Z.1.2.1 Z.2.2.2.2.1 (Z.1.2.2.1 y) (Z.1.2.2.2.2.1 y) : Nat) : Int) = iI (td (Z.2.2.2.2.2 + 0) : Int) + iI (sk (lk 6 Z.1.1 Z.2.2.1) Z.1.2.1 Z.2.2.2.2.1 (Z.1.2.2.1 y) (Z.1.2.2.2.2.1 y) : Int) by rw [iI_add, Nat.add_zero]; rfl)]
  unfold X_L_law_J527
  rcases cmC (e := Z.1) (sh := Z.2.1) (s := y) (n := 60) (sX hZ) with ⟨g1, g2⟩ | ⟨j, g1, g2, g3, g4⟩
  · rw [if_pos (show iI (cmX Z.1 Z.2.1 0 6 y 60 0 Z.2.2).1 ≤ (0 : Int32) by rw [g1]; decide)]
    exact w567 hZ hm1 hm hr hy k3
  · by_cases c : j = 0
    · rw [if_pos (show iI (cmX Z.1 Z.2.1 0 6 y 60 0 Z.2.2).1 ≤ (0 : Int32) by rw [g2, c]; decide)]
      exact w567 hZ hm1 hm hr hy k3
    · have g5 := g4 (j - 1) (by omega)
      rw [if_neg (show ¬ iI (cmX Z.1 Z.2.1 0 6 y 60 0 Z.2.2).1 ≤ (0 : Int32) by rw [g2, L0]; exact fle (by omega) (by omega) (by omega))]
      obtain ⟨S4, e, k4⟩ := t_then1 (n := j) g1 k3 hZ
      rw [show A_then S3 (iI (cmX Z.1 Z.2.1 0 6 y 60 0 Z.2.2).1) 1 = A_then S3 (iI (j : Int)) 1 by rw [g2], e, Option.bind_some, bitI (dI (sX hZ)) (show y < 7 by omega), g3, if_pos z11]
      obtain ⟨S5, e, k5⟩ := t_then1 (n := j - 1) (by omega) k4 hZ
      rw [show A_then S4 (iI (cmX Z.1 Z.2.1 0 6 y 60 0 Z.2.2).1 - 1) 1 = A_then S4 (iI ((j - 1 : Nat) : Int)) 1 by rw [g2, L1, iI_sub, show (j : Int) - 1 = ((j - 1 : Nat) : Int) by omega], e, Option.bind_some, bitI (dI (sX hZ)) (show y < 7 by omega), g5, if_pos z00]
      exact w567 hZ hm1 hm hr hy k5
set_option maxRecDepth 20000 in
set_option maxHeartbeats 400000 in
theorem w434 {Z : SS} {S : Rw} {y m : Nat} {a4 a6 : Int32} {k : Rw → Option Int32} {r : Int32 → Rw → Option Int32} (hZ : OkS Z) (hm1 : 1 ≤ m) (hm : m ≤ 60) (hr : ∀ S : Rw, Gp Z Z Tr S → r (iI ((y + 1 : Nat) : Int)) S = some 1) (hy : y < Z.2.1) (h : Gp Z Z Tr S) : X_L_law_J434 k r (iI (Z.2.1 : Int)) (iI (Z.2.2.2.2.2 : Int)) a4 (iI (mk Z.2.2.2.1 : Int)) a6 (iI (m : Int)) (iI (mk (daysX Z.1 Z.2.1 0 6 1 Z.2.2).2.1 : Int)) (iI (y : Int)) (iI (cmX Z.1 Z.2.1 0 6 y 60 0 Z.2.2).1) S = some 1 := by
  have hsh := sSh hZ
  have hi : ∀ j, Z.2.2.2.1 j ≤ 1 := xI (sX hZ)
  have hn : ∀ j, (daysX Z.1 Z.2.1 0 6 1 Z.2.2).2.1 j ≤ 1 := dI (sX hZ)
  have b := hi y
  have b2 := hn y
  have cb := cmX_b (e := Z.1) (sh := Z.2.1) (b := 0) (fr := 6) (s := y) 60 0 Z.2.2
  have key : X_L_law_J467 k r (iI (Z.2.1 : Int)) (iI (Z.2.2.2.2.2 : Int)) a4 (iI (mk Z.2.2.2.1 : Int)) a6 (iI (m : Int)) (iI (mk (daysX Z.1 Z.2.1 0 6 1 Z.2.2).2.1 : Int)) (iI (y : Int)) (iI (cmX Z.1 Z.2.1 0 6 y 60 0 Z.2.2).1) (iI (Z.2.2.2.1 y : Int)) S = some 1 := by
    have go := w502 (a4 := a4) (a6 := a6) (k := k) (S := S) hZ hm1 hm hr hy h
    unfold X_L_law_J467
    rw [bitI hn (show y < 7 by omega)]
    rcases cmC (e := Z.1) (sh := Z.2.1) (s := y) (n := 60) (sX hZ) with ⟨g1, g2⟩ | ⟨j, g1, g2, g3, g4⟩
    · have g3 := g2 1 (by omega)
      rw [if_neg (show ¬ iI (cmX Z.1 Z.2.1 0 6 y 60 0 Z.2.2).1 = (0 : Int32) by rw [g1]; decide), if_neg (show ¬ iI (cmX Z.1 Z.2.1 0 6 y 60 0 Z.2.2).1 = (1 : Int32) by rw [g1]; decide), if_neg (show ¬ iI ((daysX Z.1 Z.2.1 0 6 1 Z.2.2).2.1 y : Int) = (1 : Int32) by rw [g3]; decide)]
      exact go
    · by_cases c0 : j = 0
      · subst c0
        have g5 : (daysX Z.1 Z.2.1 0 6 1 Z.2.2).2.1 y = 1 := daysX_mono2 (by omega) g3
        rw [if_pos (show iI (cmX Z.1 Z.2.1 0 6 y 60 0 Z.2.2).1 = (0 : Int32) by rw [g2]; decide), if_pos (show iI ((daysX Z.1 Z.2.1 0 6 1 Z.2.2).2.1 y : Int) = (1 : Int32) by rw [g5]; decide)]
        exact go
      · rw [if_neg (show ¬ iI (cmX Z.1 Z.2.1 0 6 y 60 0 Z.2.2).1 = (0 : Int32) by rw [g2]; exact ne0 (by omega) (by omega))]
        by_cases c1 : j = 1
        · subst c1
          rw [if_pos (show iI (cmX Z.1 Z.2.1 0 6 y 60 0 Z.2.2).1 = (1 : Int32) by rw [g2]; decide), if_pos (show iI ((daysX Z.1 Z.2.1 0 6 1 Z.2.2).2.1 y : Int) = (1 : Int32) by rw [g3]; decide)]
          exact go
        · have g5 := g4 1 (by omega)
          rw [if_neg (show ¬ iI (cmX Z.1 Z.2.1 0 6 y 60 0 Z.2.2).1 = (1 : Int32) by rw [g2, L1]; exact feq (by omega) (by omega) (by omega) (by omega) (by omega)), if_neg (show ¬ iI ((daysX Z.1 Z.2.1 0 6 1 Z.2.2).2.1 y : Int) = (1 : Int32) by rw [g5]; decide)]
          exact go
  have key2 : X_L_law_J452 k r (iI (Z.2.1 : Int)) (iI (Z.2.2.2.2.2 : Int)) a4 (iI (mk Z.2.2.2.1 : Int)) a6 (iI (m : Int)) (iI (mk (daysX Z.1 Z.2.1 0 6 1 Z.2.2).2.1 : Int)) (iI (y : Int)) (iI (cmX Z.1 Z.2.1 0 6 y 60 0 Z.2.2).1) (iI (Z.2.2.2.1 y : Int)) S = some 1 := by
    unfold X_L_law_J452
    rcases cmC (e := Z.1) (sh := Z.2.1) (s := y) (n := 60) (sX hZ) with ⟨g1, g2⟩ | ⟨j, g1, g2, g3, g4⟩
    · have g3 : Z.2.2.2.1 y = 0 := g2 0 (by omega)
      rw [if_neg (show ¬ iI (cmX Z.1 Z.2.1 0 6 y 60 0 Z.2.2).1 = (0 : Int32) by rw [g1]; decide), if_pos (show (0 : Int32) = iI (Z.2.2.2.1 y : Int) by rw [g3]; decide)]
      exact key
    · by_cases c0 : j = 0
      · subst c0
        have g5 : Z.2.2.2.1 y = 1 := g3
        rw [if_pos (show iI (cmX Z.1 Z.2.1 0 6 y 60 0 Z.2.2).1 = (0 : Int32) by rw [g2]; decide), if_pos (show (1 : Int32) = iI (Z.2.2.2.1 y : Int) by rw [g5]; decide)]
        exact key
      · have g5 : Z.2.2.2.1 y = 0 := g4 0 (by omega)
        rw [if_neg (show ¬ iI (cmX Z.1 Z.2.1 0 6 y 60 0 Z.2.2).1 = (0 : Int32) by rw [g2]; exact ne0 (by omega) (by omega)), if_pos (show (0 : Int32) = iI (Z.2.2.2.1 y : Int) by rw [g5]; decide)]
        exact key
  unfold X_L_law_J434
  rw [bitI hi (show y < 7 by omega)]
  by_cases c : Z.2.2.2.1 y = 1
  · rw [c] at key2 ⊢
    rw [if_pos z11, ← z11]
    exact key2
  · have c0 : Z.2.2.2.1 y = 0 := by omega
    rw [c0] at key2 ⊢
    rw [if_neg (show ¬ iI ((0 : Nat) : Int) = (1 : Int32) by decide), ← z00]
    exact key2
set_option maxRecDepth 20000 in
set_option maxHeartbeats 400000 in
theorem w420 {Z : SS} {m : Nat} {a4 a6 : Int32} {k : Rw → Option Int32} (hZ : OkS Z) (hm1 : 1 ≤ m) (hm : m ≤ 60) (hk : ∀ S : Rw, Gp Z Z Tr S → k S = some 1) : ∀ (r y n : Nat) (x : Int32) (S : Rw), x = iI (y : Int) → y + r = Z.2.1 → r < n → Gp Z Z Tr S → X_L_law_L420 k (iI (Z.2.1 : Int)) (iI (Z.2.2.2.2.2 : Int)) a4 (iI (mk Z.2.2.2.1 : Int)) a6 (iI (m : Int)) (iI (mk (daysX Z.1 Z.2.1 0 6 1 Z.2.2).2.1 : Int)) n x S = some 1 := by
  have hsh := sSh hZ
  intro r
  induction r with
  | zero =>
    intro y n x S hx hy hn h
    obtain ⟨n, rfl⟩ : ∃ m, n = m + 1 := ⟨n - 1, by omega⟩
    subst hx
    rw [X_L_law_L420, if_pos (show iI (Z.2.1 : Int) ≤ iI (y : Int) from tle (by omega) (by omega) (by omega))]
    exact hk S h
  | succ r ih =>
    intro y n x S hx hy hn h
    obtain ⟨n, rfl⟩ : ∃ m, n = m + 1 := ⟨n - 1, by omega⟩
    subst hx
    have hr : ∀ S : Rw, Gp Z Z Tr S → X_L_law_L420 k (iI (Z.2.1 : Int)) (iI (Z.2.2.2.2.2 : Int)) a4 (iI (mk Z.2.2.2.1 : Int)) a6 (iI (m : Int)) (iI (mk (daysX Z.1 Z.2.1 0 6 1 Z.2.2).2.1 : Int)) n (iI ((y + 1 : Nat) : Int)) S = some 1 := fun S h => ih (y + 1) n _ S rfl (by omega) (by omega) h
    obtain ⟨S1, e, k1⟩ := t_comes (s := y) (by omega) h hZ
    rw [X_L_law_L420, if_neg (show ¬ iI (Z.2.1 : Int) ≤ iI (y : Int) from fle (by omega) (by omega) (by omega)), e, Option.bind_some]
    exact w434 hZ hm1 hm hr (by omega) k1
set_option maxRecDepth 20000 in
set_option maxHeartbeats 400000 in
theorem w417 {Z : SS} {S : Rw} {m : Nat} (hZ : OkS Z) (hm1 : 1 ≤ m) (hm : m ≤ 60) (h : Gp Z Z Tr S) : X_L_law_J417 (iI (Z.2.1 : Int)) (iI (Z.2.2.2.2.2 : Int)) (iI (Z.2.2.2.2.1 : Int)) (iI (mk Z.2.2.2.1 : Int)) (iI (allk (lk 6 Z.1.1 Z.2.2.1) : Int)) (iI (m : Int)) (iI (mk (daysX Z.1 Z.2.1 0 6 1 Z.2.2).2.1 : Int)) S = some 1 := by
  have hsh := sSh hZ
  unfold X_L_law_J417
  exact w420 hZ hm1 hm (fun S h => w981 hZ hm1 hm h) Z.2.1 0 1000 0 S (by decide) (by omega) (by omega) h
