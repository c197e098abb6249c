/-! DAYS, TAKEN BACK, a SHIP more, THE IMAGE, letters -/
def pc (m : Nat) : Nat := m % 2 + m / 2 % 2 + m / 4 % 2 + m / 8 % 2 + m / 16 % 2 + m / 32 % 2 + m / 64 % 2
set_option maxRecDepth 20000 in
set_option maxHeartbeats 400000 in
theorem tb_bits : (List.range 128).all (fun m => decide (J6_bitCount_0f7a4 (iI (m : Int)) = some (iI (pc m : Int))) && decide (X5_bits (iI (m : Int)) = some (iI (pc m : Int)))) = true := by decide +kernel
set_option maxRecDepth 20000 in
set_option maxHeartbeats 400000 in
theorem s_bits {m : Nat} (hm : m < 128) : J6_bitCount_0f7a4 (iI (m : Int)) = some (iI (pc m : Int)) ∧ X5_bits (iI (m : Int)) = some (iI (pc m : Int)) := by
  have h := List.all_eq_true.mp tb_bits m (List.mem_range.mpr hm)
  rw [Bool.and_eq_true] at h
  exact ⟨of_decide_eq_true h.1, of_decide_eq_true h.2⟩
set_option maxRecDepth 20000 in
set_option maxHeartbeats 400000 in
theorem nn1 : (1 : Int32) = iI ((1 : Nat) : Int) := by decide
set_option maxRecDepth 20000 in
set_option maxHeartbeats 400000 in
theorem op_days {u hd k f g l t i : Nat → Nat} {sh co d : Nat} {R : List Int32} {b : Nat} {perm : Nat → Nat} {hist : Nat → Hs} {F : Nat → Int32} {z1 z2 p : Int32} (hS : OkS ((u, hd, k, f, g, l), sh, (t, i, co, d))) (hH : HI b perm hist F) (hR : R.length = 7) :
    ∃ (R1 : List Int32) (t1 i1 : Nat → Nat) (co1 d1 : Nat) (b1 : Nat) (perm1 : Nat → Nat) (hist1 : Nat → Hs) (F1 : Nat → Int32) (y1 y2 r : Int32), X4_days R (rn 6 t) (rn 6 u) (rn 6 hd) (rn 7 k) (rn 7 f) (rn 7 g) (rn 7 l) (iI sh) (iI (mk i)) (iI co) (iI d) (iI (b : Int)) perm hist p = some (R1, rn 6 t1, iI (mk i1), iI co1, iI d1, iI (b1 : Int), perm1, hist1, r) ∧ X5_days R (rn 6 t) (rn 6 u) (rn 6 hd) (rn 7 k) (rn 7 f) (rn 7 g) (rn 7 l) (rn 7 i) (rq 616 F) (iI sh) (iI co) (iI d) 0 z1 z2 (iI (b : Int)) (-9) p = some (R1, rn 6 t1, rn 6 u, rn 6 hd, rn 7 k, rn 7 f, rn 7 g, rn 7 l, rn 7 i1, rq 616 F1, iI sh, iI co1, iI d1, y1, y2, iI (b1 : Int), r) ∧ OkS ((u, hd, k, f, g, l), sh, (t1, i1, co1, d1)) ∧ HI b1 perm1 hist1 F1 ∧ (∀ c, c < 56 → F1 c = F c) ∧ R1.length = 7 := by
  have h4 := s_refuse (R := R) (c := 4) hR (by omega) (by omega)
  have h6 := s_refuse (R := R) (c := 6) hR (by omega) (by omega)
  have hE : OkE (u, hd, k, f, g, l) := sE hS
  have hhd : ∀ j, hd j ≤ 99 := hS.2.1
  have hsh : sh ≤ 7 := sSh hS
  have hX : OkX 999 (t, i, co, d) := sX hS
  have hO : OutI sh i := sO hS
  have hd1 := xD hX
  unfold X4_days X5_days
  rw [nn1, n60]
  rcases fit_cases (lo := 1) (hi := 60) (by omega) (by omega) p with ⟨n, hn1, hn, rfl, e1, e2⟩ | ⟨e1, e2⟩ | ⟨e1, e2⟩
  · rw [e1, e2, Option.bind_some, Option.bind_some, if_pos rfl, if_pos rfl, iI_add, L999]
    by_cases c : (d : Int) + (n : Int) ≤ 999
    · have q : iI ((d : Int) + (n : Int)) ≤ iI 999 := tle c (by omega) (by omega)
      obtain ⟨b1, perm1, hist1, F1, y, k1, k2, k3, k4⟩ := s_keep (z1 := z1) (z2 := z2) hS hH
      have hz := daysX_ok (e := (u, hd, k, f, g, l)) (sh := sh) (b := 0) (fr := 6) n d (t, i, co, d) ⟨hX.1, hX.2.1, hX.2.2.1, Nat.le_refl _⟩
      have hw := daysX_out (e := (u, hd, k, f, g, l)) (sh := sh) (b := 0) (fr := 6) n (t, i, co, d) hO
      have hm := s_bits (mk_lt hz.2.1)
      rw [if_pos q, if_pos q, if_pos rfl, k1, k2, Option.bind_some, Option.bind_some, s_X0_passDays hE hsh (by omega) (hX.mono (by omega)), Option.bind_some, hm.1, Option.bind_some, f9, i0, s_X5_goes (by omega) hE hsh (by omega) (by omega) (hX.mono (by omega)), Option.bind_some, s_X5_inOnes hsh hz.2.1 hw, Option.bind_some, hm.2, Option.bind_some]
      exact ⟨R, _, _, _, _, b1, perm1, hist1, F1, _, _, _, rfl, rfl, ⟨hE, hhd, hsh, hz.mono (by omega), hw⟩, k3, k4, hR⟩
    · have q : ¬ iI ((d : Int) + (n : Int)) ≤ iI 999 := fle (by omega) (by omega) (by omega)
      rw [if_neg q, if_neg q, m6, h6.1, h6.2, Option.bind_some, Option.bind_some]
      exact ⟨_, t, i, co, d, b, perm, hist, F, _, _, _, rfl, rfl, hS, hH, fun _ _ => rfl, incR_len.trans hR⟩
  · rw [e1, e2, Option.bind_some, Option.bind_some, if_neg (by decide), if_neg (by decide), if_neg (by decide), m4, h4.1, h4.2, Option.bind_some, Option.bind_some]
    exact ⟨_, t, i, co, d, b, perm, hist, F, _, _, _, rfl, rfl, hS, hH, fun _ _ => rfl, incR_len.trans hR⟩
  · rw [e1, e2, Option.bind_some, Option.bind_some, if_neg (by decide), if_neg (by decide), if_neg (by decide), m6, h6.1, h6.2, Option.bind_some, Option.bind_some]
    exact ⟨_, t, i, co, d, b, perm, hist, F, _, _, _, rfl, rfl, hS, hH, fun _ _ => rfl, incR_len.trans hR⟩
set_option maxRecDepth 20000 in
set_option maxHeartbeats 400000 in
theorem s_backAllN {u1 hd1 k1 f1 g1 l1 t1 i1 : Nat → Nat} {u hd k f g l t i : Nat → Nat} {sh co d : Nat} {w : Nat} {F : Nat → Int32} {z1 z2 z3 z4 z5 : Int32} (hw : w ≤ 10) (hF : ∀ j, j < 56 → F (56 * w + j) = flat (u, hd, k, f, g, l) sh (t, i, co, d) j) :
    X5_passesAll (rn 6 t1) (rn 6 u1) (rn 6 hd1) (rn 7 k1) (rn 7 f1) (rn 7 g1) (rn 7 l1) (rn 7 i1) (rq 616 F) z3 z4 z5 z1 z2 (iI w) 0 = some (rn 6 t, rn 6 u, rn 6 hd, rn 7 k, rn 7 f, rn 7 g, rn 7 l, rn 7 i, rq 616 F, iI sh, iI co, iI d, 0, iI ((56 * w + 56 : Nat) : Int)) := s_backAll hw hF
set_option maxRecDepth 20000 in
set_option maxHeartbeats 400000 in
theorem op_back {u hd k f g l t i : Nat → Nat} {sh co d : Nat} {R : List Int32} {b : Nat} {perm : Nat → Nat} {hist : Nat → Hs} {F : Nat → Int32} {z1 z2 : Int32} (hS : OkS ((u, hd, k, f, g, l), sh, (t, i, co, d))) (hH : HI b perm hist F) (hR : R.length = 7) :
    ∃ (R1 : List Int32) (S : SS) (b1 : Nat) (y1 y2 r : Int32), X4_back R (rn 6 t) (rn 6 u) (rn 6 hd) (rn 7 k) (rn 7 f) (rn 7 g) (rn 7 l) (iI sh) (iI (mk i)) (iI co) (iI d) (iI (b : Int)) perm hist = some (R1, rn 6 S.2.2.1, rn 6 S.1.1, rn 6 S.1.2.1, rn 7 S.1.2.2.1, rn 7 S.1.2.2.2.1, rn 7 S.1.2.2.2.2.1, rn 7 S.1.2.2.2.2.2, iI S.2.1, iI (mk S.2.2.2.1), iI S.2.2.2.2.1, iI S.2.2.2.2.2, iI (b1 : Int), r) ∧ X5_back R (rn 6 t) (rn 6 u) (rn 6 hd) (rn 7 k) (rn 7 f) (rn 7 g) (rn 7 l) (rn 7 i) (rq 616 F) (iI sh) (iI co) (iI d) z1 z2 (iI (b : Int)) = some (R1, rn 6 S.2.2.1, rn 6 S.1.1, rn 6 S.1.2.1, rn 7 S.1.2.2.1, rn 7 S.1.2.2.2.1, rn 7 S.1.2.2.2.2.1, rn 7 S.1.2.2.2.2.2, rn 7 S.2.2.2.1, rq 616 F, iI S.2.1, iI S.2.2.2.2.1, iI S.2.2.2.2.2, y1, y2, iI (b1 : Int), r) ∧ OkS S ∧ HI b1 perm hist F ∧ R1.length = 7 := by
  have h3 := s_refuse (R := R) (c := 3) hR (by omega) (by omega)
  have hb := hH.1
  unfold X4_back X5_back
  rw [X2_held, Option.bind_some]
  by_cases c : b = 0
  · subst c
    rw [if_pos z00, if_pos z00, m3, h3.1, h3.2, Option.bind_some, Option.bind_some]
    exact ⟨_, ((u, hd, k, f, g, l), sh, (t, i, co, d)), 0, _, _, _, rfl, rfl, hS, hH, incR_len.trans hR⟩
  · have q : ¬ iI (b : Int) = (0 : Int32) := ne0 (by omega) (by omega)
    have hp := pok_ok hH.2.1
    obtain ⟨g1, g2, g3, g4, Sf, g5⟩ := hH
    obtain ⟨k1, k2, k3⟩ := g5 (b - 1) (by omega)
    have hH1 : HI (b - 1) perm hist F := ⟨by omega, g2, g3, g4, Sf, fun j hj => g5 j (by omega)⟩
    generalize Sf (b - 1) = S at k1 k2 k3
    obtain ⟨⟨u1, hd1, kk1, f1, g1, l1⟩, sh1, t1, i1, co1, d1⟩ := S
    have hn : MJ (rn 6 t, rn 6 u, rn 6 hd, rn 7 k, rn 7 f, rn 7 g, rn 7 l, iI sh, iI (mk i), iI co, iI d) := ⟨rn_len, rn_len, rn_len, rn_len, rn_len, rn_len, rn_len⟩
    have hm : MJ (rn 6 t1, rn 6 u1, rn 6 hd1, rn 7 kk1, rn 7 f1, rn 7 g1, rn 7 l1, iI sh1, iI (mk i1), iI co1, iI d1) := ⟨rn_len, rn_len, rn_len, rn_len, rn_len, rn_len, rn_len⟩
    have e0 : hist (perm (b - 1)) = (rn 6 t1, rn 6 u1, rn 6 hd1, rn 7 kk1, rn 7 f1, rn 7 g1, rn 7 l1, iI sh1, iI (mk i1), iI co1, iI d1) := k2
    have e1 : iI (b : Int) - 1 = iI ((b - 1 : Nat) : Int) := by rw [L1, iI_sub]; exact iI_c (by omega)
    have e2 : (iI ((b - 1 : Nat) : Int)).toNatClampNeg = b - 1 := by rw [iI_nat (by omega) (by omega)]; omega
    have e3 : (3 : Int32) + iI ((b - 1 : Nat) : Int) = iI ((3 + (b - 1) : Nat) : Int) := by rw [L3, iI_add]; rfl
    unfold X2_takeBack
    rw [if_neg q, if_neg q, if_pos hp, e1, e2, if_pos ⟨by rw [L0]; exact tle (by omega) (by omega) (by omega), by omega⟩, e0, s_copy hn hm, Option.bind_some, Option.bind_some, X2_held, Option.bind_some, e3, s_backAllN (u := u1) (hd := hd1) (k := kk1) (f := f1) (g := g1) (l := l1) (t := t1) (i := i1) (sh := sh1) (co := co1) (d := d1) (by omega) k3, Option.bind_some]
    exact ⟨R, ((u1, hd1, kk1, f1, g1, l1), sh1, t1, i1, co1, d1), b - 1, _, _, _, rfl, rfl, k1, hH1, hR⟩
/-- the image: none, or as S was -/
def KI (kk : Int32) (M : Hs) (F : Nat → Int32) : Prop := MJ M ∧ (kk = 0 ∨ (kk = 1 ∧ ∃ S : SS, OkS S ∧ M = picH S ∧ slot F 0 S))
set_option maxRecDepth 20000 in
set_option maxHeartbeats 400000 in
theorem KI.kp {kk : Int32} {M : Hs} {F F1 : Nat → Int32} (h : KI kk M F) (hk : ∀ c, c < 56 → F1 c = F c) : KI kk M F1 := by
  obtain ⟨h1, h2 | ⟨h2, S, h3, h4, h5⟩⟩ := h
  · exact ⟨h1, Or.inl h2⟩
  · exact ⟨h1, Or.inr ⟨h2, S, h3, h4, fun c hc => by rw [hk _ (by omega)]; exact h5 c hc⟩⟩
set_option maxRecDepth 20000 in
set_option maxHeartbeats 400000 in
theorem KI.kp2 {kk : Int32} {M : Hs} {F F1 : Nat → Int32} (h : KI kk M F) (hk : Kp F F1) : KI kk M F1 := h.kp (fun c hc => hk c (Or.inl hc))
set_option maxRecDepth 20000 in
set_option maxHeartbeats 400000 in
theorem op_image {A1 A2 A3 A4 A5 A6 A7 : List Int32} {a1 a2 a3 a4 : Int32} {u hd k f g l t i : Nat → Nat} {sh co d : Nat} {kk : Int32} {b : Nat} {perm : Nat → Nat} {hist : Nat → Hs} {F : Nat → Int32} {z1 z2 : Int32} (hS : OkS ((u, hd, k, f, g, l), sh, (t, i, co, d))) (hK : MJ (A1, A2, A3, A4, A5, A6, A7, a1, a2, a3, a4)) (hH : HI b perm hist F) :
    ∃ (M1 : Hs) (F1 : Nat → Int32) (y1 y2 r : Int32), X4_image (rn 6 t) (rn 6 u) (rn 6 hd) (rn 7 k) (rn 7 f) (rn 7 g) (rn 7 l) A1 A2 A3 A4 A5 A6 A7 kk (iI sh) (iI (mk i)) (iI co) (iI d) a1 a2 a3 a4 = some (M1.1, M1.2.1, M1.2.2.1, M1.2.2.2.1, M1.2.2.2.2.1, M1.2.2.2.2.2.1, M1.2.2.2.2.2.2.1, 1, M1.2.2.2.2.2.2.2.1, M1.2.2.2.2.2.2.2.2.1, M1.2.2.2.2.2.2.2.2.2.1, M1.2.2.2.2.2.2.2.2.2.2, r) ∧ X5_image (rn 6 t) (rn 6 u) (rn 6 hd) (rn 7 k) (rn 7 f) (rn 7 g) (rn 7 l) (rn 7 i) (rq 616 F) (iI sh) (iI co) (iI d) kk z1 z2 = some (rn 6 t, rn 6 u, rn 6 hd, rn 7 k, rn 7 f, rn 7 g, rn 7 l, rn 7 i, rq 616 F1, iI sh, iI co, iI d, 1, y1, y2, r) ∧ KI 1 M1 F1 ∧ HI b perm hist F1 := by
  have hn : MJ (rn 6 t, rn 6 u, rn 6 hd, rn 7 k, rn 7 f, rn 7 g, rn 7 l, iI sh, iI (mk i), iI co, iI d) := ⟨rn_len, rn_len, rn_len, rn_len, rn_len, rn_len, rn_len⟩
  unfold X4_image X5_image
  rw [s_copy hK hn, Option.bind_some, i0, s_keepAll (by omega), Option.bind_some]
  refine ⟨(rn 6 t, rn 6 u, rn 6 hd, rn 7 k, rn 7 f, rn 7 g, rn 7 l, iI sh, iI (mk i), iI co, iI d), _, _, _, _, rfl, rfl, ⟨hn, Or.inr ⟨rfl, ((u, hd, k, f, g, l), sh, (t, i, co, d)), hS, rfl, slot_put (F := F) (w := 0) (S := ((u, hd, k, f, g, l), sh, (t, i, co, d)))⟩⟩, ?_⟩
  obtain ⟨h1, h2, h3, h4, Sf, h5⟩ := hH
  exact ⟨h1, h2, h3, h4, Sf, fun j hj => ⟨(h5 j hj).1, (h5 j hj).2.1, slot_put2 (by omega) (h5 j hj).2.2⟩⟩
set_option maxRecDepth 20000 in
set_option maxHeartbeats 400000 in
theorem op_restore {A1 A2 A3 A4 A5 A6 A7 : List Int32} {a1 a2 a3 a4 : Int32} {u hd k f g l t i : Nat → Nat} {sh co d : Nat} {R : List Int32} {kk : Int32} {b : Nat} {perm : Nat → Nat} {hist : Nat → Hs} {F : Nat → Int32} {z1 z2 : Int32} (hS : OkS ((u, hd, k, f, g, l), sh, (t, i, co, d))) (hK : KI kk (A1, A2, A3, A4, A5, A6, A7, a1, a2, a3, a4) F) (hH : HI b perm hist F) (hR : R.length = 7) :
    ∃ (R1 : List Int32) (S : SS) (b1 : Nat) (y1 y2 r : Int32), X4_restore R (rn 6 t) (rn 6 u) (rn 6 hd) (rn 7 k) (rn 7 f) (rn 7 g) (rn 7 l) A1 A2 A3 A4 A5 A6 A7 kk (iI sh) (iI (mk i)) (iI co) (iI d) a1 a2 a3 a4 (iI (b : Int)) = some (R1, rn 6 S.2.2.1, rn 6 S.1.1, rn 6 S.1.2.1, rn 7 S.1.2.2.1, rn 7 S.1.2.2.2.1, rn 7 S.1.2.2.2.2.1, rn 7 S.1.2.2.2.2.2, iI S.2.1, iI (mk S.2.2.2.1), iI S.2.2.2.2.1, iI S.2.2.2.2.2, iI (b1 : Int), r) ∧ X5_restore R (rn 6 t) (rn 6 u) (rn 6 hd) (rn 7 k) (rn 7 f) (rn 7 g) (rn 7 l) (rn 7 i) (rq 616 F) (iI sh) (iI co) (iI d) kk z1 z2 (iI (b : Int)) = some (R1, rn 6 S.2.2.1, rn 6 S.1.1, rn 6 S.1.2.1, rn 7 S.1.2.2.1, rn 7 S.1.2.2.2.1, rn 7 S.1.2.2.2.2.1, rn 7 S.1.2.2.2.2.2, rn 7 S.2.2.2.1, rq 616 F, iI S.2.1, iI S.2.2.2.2.1, iI S.2.2.2.2.2, y1, y2, iI (b1 : Int), r) ∧ OkS S ∧ HI b1 perm hist F ∧ R1.length = 7 := by
  have h3 := s_refuse (R := R) (c := 3) hR (by omega) (by omega)
  have hn : MJ (rn 6 t, rn 6 u, rn 6 hd, rn 7 k, rn 7 f, rn 7 g, rn 7 l, iI sh, iI (mk i), iI co, iI d) := ⟨rn_len, rn_len, rn_len, rn_len, rn_len, rn_len, rn_len⟩
  unfold X4_restore X5_restore
  obtain ⟨hM, rfl | ⟨rfl, S, hS1, hM1, hF⟩⟩ := hK
  · rw [if_pos rfl, if_pos rfl, m3, h3.1, h3.2, Option.bind_some, Option.bind_some]
    exact ⟨_, ((u, hd, k, f, g, l), sh, (t, i, co, d)), b, _, _, _, rfl, rfl, hS, hH, incR_len.trans hR⟩
  · obtain ⟨⟨u1, hd1, kk1, f1, g1, l1⟩, sh1, t1, i1, co1, d1⟩ := S
    unfold picH at hM1
    simp only [Prod.mk.injEq] at hM1
    obtain ⟨rfl, rfl, rfl, rfl, rfl, rfl, rfl, rfl, rfl, rfl, rfl⟩ := hM1
    have hF1 : ∀ c, c < 56 → F (56 * 0 + c) = flat (u1, hd1, kk1, f1, g1, l1) sh1 (t1, i1, co1, d1) c := hF
    have hb := s_backAllN (u1 := u) (hd1 := hd) (k1 := k) (f1 := f) (g1 := g) (l1 := l) (t1 := t) (i1 := i) (u := u1) (hd := hd1) (k := kk1) (f := f1) (g := g1) (l := l1) (t := t1) (i := i1) (sh := sh1) (co := co1) (d := d1) (w := 0) (z1 := z1) (z2 := z2) (z3 := iI sh) (z4 := iI co) (z5 := iI d) (by omega) hF1
    rw [z00] at hb
    rw [if_neg c10, if_neg c10, s_copy hn hM, Option.bind_some, X2_drop, Option.bind_some, hb, Option.bind_some, ← z00]
    exact ⟨R, ((u1, hd1, kk1, f1, g1, l1), sh1, t1, i1, co1, d1), 0, _, _, _, rfl, rfl, hS1, hH.zero, hR⟩
/-! letters -/
set_option maxRecDepth 20000 in
set_option maxHeartbeats 400000 in
theorem op_feed {R : List Int32} {T : Nat → Nat} {n : Nat} {p : Int32} (hT : ∀ j, T j ≤ 255) (hn : n ≤ 96) (hR : R.length = 7) : ∃ (R1 : List Int32) (T1 : Nat → Nat) (n1 : Nat) (r : Int32), X4_feed R (rn 96 T) (iI n) p = some (R1, rn 96 T1, iI n1, r) ∧ X5_feed R (rn 96 T) (iI n) p = some (R1, rn 96 T1, iI n1, r) ∧ n1 ≤ 96 ∧ (∀ j, T1 j ≤ 255) ∧ R1.length = 7 := by
  have h4 := s_refuse (R := R) (c := 4) hR (by omega) (by omega)
  have h6 := s_refuse (R := R) (c := 6) hR (by omega) (by omega)
  have hb1 := Int32.le_toInt p
  have hb2 := Int32.toInt_lt p
  have e : p = iI p.toInt := (iI_of p).symm
  generalize p.toInt = m at *
  subst e
  unfold X4_feed X5_feed X5_bound
  rw [L0, L255, L96]
  by_cases c0 : 0 ≤ m
  · rw [if_pos (tle c0 (by omega) (by omega))]
    by_cases c1 : m ≤ 255
    · obtain ⟨v, rfl⟩ := Int.eq_ofNat_of_zero_le c0
      rw [if_neg (flt c1 (by omega) (by omega)), if_pos (tle c0 (by omega) (by omega)), if_pos (tle c1 (by omega) (by omega)), Option.bind_some, if_pos (by decide), X1_isFull, rn_len, iI_len]
      by_cases c : n = 96
      · subst c
        rw [if_neg (flt (by omega) (by omega) (by omega)), Option.bind_some, if_neg (by decide), if_pos (show iI ((96 : Nat) : Int) = iI 96 from rfl), m6, h6.1, h6.2, Option.bind_some]
        exact ⟨_, T, 96, _, rfl, rfl, by omega, hT, incR_len.trans hR⟩
      · rw [if_pos (tlt (by omega) (by omega) (by omega)), Option.bind_some, if_pos (by decide), if_neg (feq (by omega) (by omega) (by omega) (by omega) (by omega)), if_pos (by decide), X1_add, L0, if_neg (flt (by omega) (by omega) (by omega)), rn_len, iI_len, if_neg (fle (by omega) (by omega) (by omega)), wr_rn (by omega) (by omega) (by omega) (by omega), Option.bind_some, Option.bind_some, Option.bind_some, X1_length, Option.bind_some, iI_s]
        exact ⟨R, _, n + 1, _, rfl, rfl, by omega, fun j => upN_le hT (by omega) j, hR⟩
    · rw [if_pos (tlt (by omega) (by omega) (by omega)), if_pos (tle c0 (by omega) (by omega)), if_neg (fle (by omega) (by omega) (by omega)), Option.bind_some, if_neg (by decide), if_neg (by decide), m6, h6.1, h6.2, Option.bind_some]
      exact ⟨_, T, n, _, rfl, rfl, hn, hT, incR_len.trans hR⟩
  · rw [if_neg (fle (by omega) (by omega) (by omega)), if_neg (fle (by omega) (by omega) (by omega)), Option.bind_some, if_neg (by decide), if_neg (by decide), m4, h4.1, h4.2, Option.bind_some]
    exact ⟨_, T, n, _, rfl, rfl, hn, hT, incR_len.trans hR⟩
