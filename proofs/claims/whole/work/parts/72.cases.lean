/-! the law's cases -/
theorem cmp_self (r : Int64) : lg_cmp r r = 0 := by
  unfold lg_cmp
  simp
set_option maxRecDepth 100000 in
set_option maxHeartbeats 4000000 in
theorem lc_feed {p : Program} {l : Launch} {e : Jvm.Env} {s : State} {m : MethodId} {below : List Frame} {meth : Method} {c : Code} {H : Heap} {locs : List Loc} {Q : State → Prop} {G : Gx} {A : Nat → Prop} {a : Ax} {S : Lx} {b L : Nat} {xs : Nat → Int32} {x : Int32} {ls : Array Slot} (C : Cx p s m #[.ref b] meth c cL_law RL 4 (some .boolean) G) (hX : va_X b L xs s s.heap) (hbl : b < s.heap.size) (hbA : ¬ A b) (hr : vp_in x L ∧ vp_in (x + 1) L ∧ vp_in (x + 2) L ∧ vp_in (x + 3) L ∧ vp_in (x + 4) L) (hI : Inv S) (hs : St G A s.heap H locs (wL G a S)) (hl : lv_has ls 4 [(0, .ref b), (1, .ref (a.1 0)), (2, .ref (a.2.2.2.2.2.2.2.2.2 0)), (3, .int x)]) (kk : ∀ (S1 : Lx) (H : Heap) (locs : List Loc), Inv S1 → St G A s.heap H locs (wL G a S1) → W p l e room_1 s m #[.ref b] below meth c H locs 114 1879 Q (F0 m 1388 ls [])) : W p l e room_1 s m #[.ref b] below meth c H locs 114 1879 Q (F0 m 224 ls []) := by
  obtain ⟨hx, hb, hml, hown, hts, hK, hret, hlk⟩ := id C
  obtain ⟨r, w1, S1, h4, ⟨fs, h97⟩, h5, hI1⟩ := st_feed (lc := l) (G := G) (a := a) hI (xs (x + (1 : Int32)).toNatClampNeg)
  refine lv_aload_n hx hb (dk hL_law_0 22 rfl) rfl (lv_at hl 1 rfl) ?_
  refine lv_aload_n hx hb (dk hL_law_0 23 rfl) rfl (lv_at hl 0 rfl) ?_
  refine lv_iload_n hx hb (dk hL_law_0 24 rfl) rfl (lv_at hl 3 rfl) ?_
  refine lv_iconst (v := (1 : Int32)) hx hb (dk hL_law_0 25 rfl) (by decide) ?_
  refine lv_iadd hx hb (dk hL_law_0 26 rfl) ?_
  refine va_sld hx hb hX hbl hbA hs.2.2.1 hr.2.1 (dk hL_law_0 27 rfl) ?_
  refine Ct.V (As := [.int (xs (x + (1 : Int32)).toNatClampNeg)]) (rest := []) (st1 := [.int r]) (w1 := w1) C hs h4 tw_222 tw_223 tw_224 tw_79 tw_225 nq_X4_feed ⟨Nat.le_of_ble_eq_true rfl, Nat.le_of_ble_eq_true rfl⟩ 0 4 rfl rfl rfl rfl hl.1 rfl (Nat.le_of_ble_eq_true rfl) (dk hL_law_0 28 rfl) ⟨Nat.le_of_ble_eq_true rfl, Nat.le_of_ble_eq_true rfl⟩ rfl (fun H locs hs => ?_)
  refine lv_aload_n hx hb (dk hL_law_0 29 rfl) rfl (lv_at hl 2 rfl) ?_
  refine lv_aload_n hx hb (dk hL_law_0 30 rfl) rfl (lv_at hl 0 rfl) ?_
  refine lv_iload_n hx hb (dk hL_law_0 31 rfl) rfl (lv_at hl 3 rfl) ?_
  refine lv_iconst (v := (1 : Int32)) hx hb (dk hL_law_0 32 rfl) (by decide) ?_
  refine lv_iadd hx hb (dk hL_law_0 33 rfl) ?_
  refine va_sld hx hb hX hbl hbA hs.2.2.1 hr.2.1 (dk hL_law_0 34 rfl) ?_
  refine Ct.V (As := [.int (xs (x + (1 : Int32)).toNatClampNeg)]) (rest := [.int r]) (st1 := [.int r, .int r]) (w1 := (wL G a S1)) C hs h5 tw_793 tw_794 tw_795 tw_85 tw_796 nq_X5_feed ⟨Nat.le_of_ble_eq_true rfl, Nat.le_of_ble_eq_true rfl⟩ 97 5 rfl rfl h97 rfl hl.1 rfl (Nat.le_of_ble_eq_true rfl) (dk hL_law_0 35 rfl) ⟨Nat.le_of_ble_eq_true rfl, Nat.le_of_ble_eq_true rfl⟩ rfl (fun H locs hs => ?_)
  refine lv_icmp_eq (tgt := 1388) hx hb (dk hL_law_0 36 rfl) (by decide) (fun hc => ?_) (fun hc => absurd rfl hc)
  exact kk S1 H locs hI1 hs
set_option maxRecDepth 100000 in
set_option maxHeartbeats 4000000 in
theorem lc_harbour {p : Program} {l : Launch} {e : Jvm.Env} {s : State} {m : MethodId} {below : List Frame} {meth : Method} {c : Code} {H : Heap} {locs : List Loc} {Q : State → Prop} {G : Gx} {A : Nat → Prop} {a : Ax} {S : Lx} {b L : Nat} {xs : Nat → Int32} {x : Int32} {ls : Array Slot} (C : Cx p s m #[.ref b] meth c cL_law RL 4 (some .boolean) G) (hX : va_X b L xs s s.heap) (hbl : b < s.heap.size) (hbA : ¬ A b) (hr : vp_in x L ∧ vp_in (x + 1) L ∧ vp_in (x + 2) L ∧ vp_in (x + 3) L ∧ vp_in (x + 4) L) (hI : Inv S) (hs : St G A s.heap H locs (wL G a S)) (hl : lv_has ls 4 [(0, .ref b), (1, .ref (a.1 0)), (2, .ref (a.2.2.2.2.2.2.2.2.2 0)), (3, .int x)]) (kk : ∀ (S1 : Lx) (H : Heap) (locs : List Loc), Inv S1 → St G A s.heap H locs (wL G a S1) → W p l e room_1 s m #[.ref b] below meth c H locs 114 1879 Q (F0 m 1388 ls [])) : W p l e room_1 s m #[.ref b] below meth c H locs 114 1879 Q (F0 m 247 ls []) := by
  obtain ⟨hx, hb, hml, hown, hts, hK, hret, hlk⟩ := id C
  obtain ⟨r, w1, S1, h4, ⟨fs, h97⟩, h5, hI1⟩ := st_harbour (lc := l) (G := G) (a := a) hI 
  refine lv_aload_n hx hb (dk hL_law_0 39 rfl) rfl (lv_at hl 1 rfl) ?_
  refine Ct.V (As := []) (rest := []) (st1 := [.int r]) (w1 := w1) C hs h4 tw_242 tw_243 tw_244 tw_79 tw_245 nq_X4_harbour ⟨Nat.le_of_ble_eq_true rfl, Nat.le_of_ble_eq_true rfl⟩ 0 4 rfl rfl rfl rfl hl.1 rfl (Nat.le_of_ble_eq_true rfl) (dk hL_law_1 0 rfl) ⟨Nat.le_of_ble_eq_true rfl, Nat.le_of_ble_eq_true rfl⟩ rfl (fun H locs hs => ?_)
  refine lv_aload_n hx hb (dk hL_law_1 1 rfl) rfl (lv_at hl 2 rfl) ?_
  refine Ct.V (As := []) (rest := [.int r]) (st1 := [.int r, .int r]) (w1 := (wL G a S1)) C hs h5 tw_804 tw_805 tw_806 tw_85 tw_807 nq_X5_harbour ⟨Nat.le_of_ble_eq_true rfl, Nat.le_of_ble_eq_true rfl⟩ 97 5 rfl rfl h97 rfl hl.1 rfl (Nat.le_of_ble_eq_true rfl) (dk hL_law_1 2 rfl) ⟨Nat.le_of_ble_eq_true rfl, Nat.le_of_ble_eq_true rfl⟩ rfl (fun H locs hs => ?_)
  refine lv_icmp_eq (tgt := 1388) hx hb (dk hL_law_1 3 rfl) (by decide) (fun hc => ?_) (fun hc => absurd rfl hc)
  exact kk S1 H locs hI1 hs
set_option maxRecDepth 100000 in
set_option maxHeartbeats 4000000 in
theorem lc_good {p : Program} {l : Launch} {e : Jvm.Env} {s : State} {m : MethodId} {below : List Frame} {meth : Method} {c : Code} {H : Heap} {locs : List Loc} {Q : State → Prop} {G : Gx} {A : Nat → Prop} {a : Ax} {S : Lx} {b L : Nat} {xs : Nat → Int32} {x : Int32} {ls : Array Slot} (C : Cx p s m #[.ref b] meth c cL_law RL 4 (some .boolean) G) (hX : va_X b L xs s s.heap) (hbl : b < s.heap.size) (hbA : ¬ A b) (hr : vp_in x L ∧ vp_in (x + 1) L ∧ vp_in (x + 2) L ∧ vp_in (x + 3) L ∧ vp_in (x + 4) L) (hI : Inv S) (hs : St G A s.heap H locs (wL G a S)) (hl : lv_has ls 4 [(0, .ref b), (1, .ref (a.1 0)), (2, .ref (a.2.2.2.2.2.2.2.2.2 0)), (3, .int x)]) (kk : ∀ (S1 : Lx) (H : Heap) (locs : List Loc), Inv S1 → St G A s.heap H locs (wL G a S1) → W p l e room_1 s m #[.ref b] below meth c H locs 114 1879 Q (F0 m 1388 ls [])) : W p l e room_1 s m #[.ref b] below meth c H locs 114 1879 Q (F0 m 260 ls []) := by
  obtain ⟨hx, hb, hml, hown, hts, hK, hret, hlk⟩ := id C
  obtain ⟨r, w1, S1, h4, ⟨fs, h97⟩, h5, hI1⟩ := st_good (lc := l) (G := G) (a := a) hI (xs (x + (1 : Int32)).toNatClampNeg) (xs (x + (2 : Int32)).toNatClampNeg)
  refine lv_aload_n hx hb (dk hL_law_1 6 rfl) rfl (lv_at hl 1 rfl) ?_
  refine lv_aload_n hx hb (dk hL_law_1 7 rfl) rfl (lv_at hl 0 rfl) ?_
  refine lv_iload_n hx hb (dk hL_law_1 8 rfl) rfl (lv_at hl 3 rfl) ?_
  refine lv_iconst (v := (1 : Int32)) hx hb (dk hL_law_1 9 rfl) (by decide) ?_
  refine lv_iadd hx hb (dk hL_law_1 10 rfl) ?_
  refine va_sld hx hb hX hbl hbA hs.2.2.1 hr.2.1 (dk hL_law_1 11 rfl) ?_
  refine lv_aload_n hx hb (dk hL_law_1 12 rfl) rfl (lv_at hl 0 rfl) ?_
  refine lv_iload_n hx hb (dk hL_law_1 13 rfl) rfl (lv_at hl 3 rfl) ?_
  refine lv_iconst (v := (2 : Int32)) hx hb (dk hL_law_1 14 rfl) (by decide) ?_
  refine lv_iadd hx hb (dk hL_law_1 15 rfl) ?_
  refine va_sld hx hb hX hbl hbA hs.2.2.1 hr.2.2.1 (dk hL_law_1 16 rfl) ?_
  refine Ct.V (As := [.int (xs (x + (1 : Int32)).toNatClampNeg), .int (xs (x + (2 : Int32)).toNatClampNeg)]) (rest := []) (st1 := [.int r]) (w1 := w1) C hs h4 tw_383 tw_384 tw_385 tw_79 tw_386 nq_X4_good ⟨Nat.le_of_ble_eq_true rfl, Nat.le_of_ble_eq_true rfl⟩ 0 4 rfl rfl rfl rfl hl.1 rfl (Nat.le_of_ble_eq_true rfl) (dk hL_law_1 17 rfl) ⟨Nat.le_of_ble_eq_true rfl, Nat.le_of_ble_eq_true rfl⟩ rfl (fun H locs hs => ?_)
  refine lv_aload_n hx hb (dk hL_law_1 18 rfl) rfl (lv_at hl 2 rfl) ?_
  refine lv_aload_n hx hb (dk hL_law_1 19 rfl) rfl (lv_at hl 0 rfl) ?_
  refine lv_iload_n hx hb (dk hL_law_1 20 rfl) rfl (lv_at hl 3 rfl) ?_
  refine lv_iconst (v := (1 : Int32)) hx hb (dk hL_law_1 21 rfl) (by decide) ?_
  refine lv_iadd hx hb (dk hL_law_1 22 rfl) ?_
  refine va_sld hx hb hX hbl hbA hs.2.2.1 hr.2.1 (dk hL_law_1 23 rfl) ?_
  refine lv_aload_n hx hb (dk hL_law_1 24 rfl) rfl (lv_at hl 0 rfl) ?_
  refine lv_iload_n hx hb (dk hL_law_1 25 rfl) rfl (lv_at hl 3 rfl) ?_
  refine lv_iconst (v := (2 : Int32)) hx hb (dk hL_law_1 26 rfl) (by decide) ?_
  refine lv_iadd hx hb (dk hL_law_1 27 rfl) ?_
  refine va_sld hx hb hX hbl hbA hs.2.2.1 hr.2.2.1 (dk hL_law_1 28 rfl) ?_
  refine Ct.V (As := [.int (xs (x + (1 : Int32)).toNatClampNeg), .int (xs (x + (2 : Int32)).toNatClampNeg)]) (rest := [.int r]) (st1 := [.int r, .int r]) (w1 := (wL G a S1)) C hs h5 tw_943 tw_944 tw_945 tw_85 tw_946 nq_X5_good ⟨Nat.le_of_ble_eq_true rfl, Nat.le_of_ble_eq_true rfl⟩ 97 5 rfl rfl h97 rfl hl.1 rfl (Nat.le_of_ble_eq_true rfl) (dk hL_law_1 29 rfl) ⟨Nat.le_of_ble_eq_true rfl, Nat.le_of_ble_eq_true rfl⟩ rfl (fun H locs hs => ?_)
  refine lv_icmp_eq (tgt := 1388) hx hb (dk hL_law_1 30 rfl) (by decide) (fun hc => ?_) (fun hc => absurd rfl hc)
  exact kk S1 H locs hI1 hs
set_option maxRecDepth 100000 in
set_option maxHeartbeats 4000000 in
theorem lc_shipOf {p : Program} {l : Launch} {e : Jvm.Env} {s : State} {m : MethodId} {below : List Frame} {meth : Method} {c : Code} {H : Heap} {locs : List Loc} {Q : State → Prop} {G : Gx} {A : Nat → Prop} {a : Ax} {S : Lx} {b L : Nat} {xs : Nat → Int32} {x : Int32} {ls : Array Slot} (C : Cx p s m #[.ref b] meth c cL_law RL 4 (some .boolean) G) (hX : va_X b L xs s s.heap) (hbl : b < s.heap.size) (hbA : ¬ A b) (hr : vp_in x L ∧ vp_in (x + 1) L ∧ vp_in (x + 2) L ∧ vp_in (x + 3) L ∧ vp_in (x + 4) L) (hI : Inv S) (hs : St G A s.heap H locs (wL G a S)) (hl : lv_has ls 4 [(0, .ref b), (1, .ref (a.1 0)), (2, .ref (a.2.2.2.2.2.2.2.2.2 0)), (3, .int x)]) (kk : ∀ (S1 : Lx) (H : Heap) (locs : List Loc), Inv S1 → St G A s.heap H locs (wL G a S1) → W p l e room_1 s m #[.ref b] below meth c H locs 114 1879 Q (F0 m 1388 ls [])) : W p l e room_1 s m #[.ref b] below meth c H locs 114 1879 Q (F0 m 293 ls []) := by
  obtain ⟨hx, hb, hml, hown, hts, hK, hret, hlk⟩ := id C
  obtain ⟨r, w1, S1, h4, ⟨fs, h97⟩, h5, hI1⟩ := st_shipOf (lc := l) (G := G) (a := a) hI (xs (x + (1 : Int32)).toNatClampNeg) (xs (x + (2 : Int32)).toNatClampNeg)
  refine lv_aload_n hx hb (dk hL_law_1 33 rfl) rfl (lv_at hl 1 rfl) ?_
  refine lv_aload_n hx hb (dk hL_law_1 34 rfl) rfl (lv_at hl 0 rfl) ?_
  refine lv_iload_n hx hb (dk hL_law_1 35 rfl) rfl (lv_at hl 3 rfl) ?_
  refine lv_iconst (v := (1 : Int32)) hx hb (dk hL_law_1 36 rfl) (by decide) ?_
  refine lv_iadd hx hb (dk hL_law_1 37 rfl) ?_
  refine va_sld hx hb hX hbl hbA hs.2.2.1 hr.2.1 (dk hL_law_1 38 rfl) ?_
  refine lv_aload_n hx hb (dk hL_law_1 39 rfl) rfl (lv_at hl 0 rfl) ?_
  refine lv_iload_n hx hb (dk hL_law_2 0 rfl) rfl (lv_at hl 3 rfl) ?_
  refine lv_iconst (v := (2 : Int32)) hx hb (dk hL_law_2 1 rfl) (by decide) ?_
  refine lv_iadd hx hb (dk hL_law_2 2 rfl) ?_
  refine va_sld hx hb hX hbl hbA hs.2.2.1 hr.2.2.1 (dk hL_law_2 3 rfl) ?_
  refine Ct.V (As := [.int (xs (x + (1 : Int32)).toNatClampNeg), .int (xs (x + (2 : Int32)).toNatClampNeg)]) (rest := []) (st1 := [.int r]) (w1 := w1) C hs h4 tw_389 tw_390 tw_391 tw_79 tw_392 nq_X4_shipOf ⟨Nat.le_of_ble_eq_true rfl, Nat.le_of_ble_eq_true rfl⟩ 0 4 rfl rfl rfl rfl hl.1 rfl (Nat.le_of_ble_eq_true rfl) (dk hL_law_2 4 rfl) ⟨Nat.le_of_ble_eq_true rfl, Nat.le_of_ble_eq_true rfl⟩ rfl (fun H locs hs => ?_)
  refine lv_aload_n hx hb (dk hL_law_2 5 rfl) rfl (lv_at hl 2 rfl) ?_
  refine lv_aload_n hx hb (dk hL_law_2 6 rfl) rfl (lv_at hl 0 rfl) ?_
  refine lv_iload_n hx hb (dk hL_law_2 7 rfl) rfl (lv_at hl 3 rfl) ?_
  refine lv_iconst (v := (1 : Int32)) hx hb (dk hL_law_2 8 rfl) (by decide) ?_
  refine lv_iadd hx hb (dk hL_law_2 9 rfl) ?_
  refine va_sld hx hb hX hbl hbA hs.2.2.1 hr.2.1 (dk hL_law_2 10 rfl) ?_
  refine lv_aload_n hx hb (dk hL_law_2 11 rfl) rfl (lv_at hl 0 rfl) ?_
  refine lv_iload_n hx hb (dk hL_law_2 12 rfl) rfl (lv_at hl 3 rfl) ?_
  refine lv_iconst (v := (2 : Int32)) hx hb (dk hL_law_2 13 rfl) (by decide) ?_
  refine lv_iadd hx hb (dk hL_law_2 14 rfl) ?_
  refine va_sld hx hb hX hbl hbA hs.2.2.1 hr.2.2.1 (dk hL_law_2 15 rfl) ?_
  refine Ct.V (As := [.int (xs (x + (1 : Int32)).toNatClampNeg), .int (xs (x + (2 : Int32)).toNatClampNeg)]) (rest := [.int r]) (st1 := [.int r, .int r]) (w1 := (wL G a S1)) C hs h5 tw_947 tw_948 tw_949 tw_85 tw_950 nq_X5_shipOf ⟨Nat.le_of_ble_eq_true rfl, Nat.le_of_ble_eq_true rfl⟩ 97 5 rfl rfl h97 rfl hl.1 rfl (Nat.le_of_ble_eq_true rfl) (dk hL_law_2 16 rfl) ⟨Nat.le_of_ble_eq_true rfl, Nat.le_of_ble_eq_true rfl⟩ rfl (fun H locs hs => ?_)
  refine lv_icmp_eq (tgt := 1388) hx hb (dk hL_law_2 17 rfl) (by decide) (fun hc => ?_) (fun hc => absurd rfl hc)
  exact kk S1 H locs hI1 hs
set_option maxRecDepth 100000 in
set_option maxHeartbeats 4000000 in
theorem lc_tide {p : Program} {l : Launch} {e : Jvm.Env} {s : State} {m : MethodId} {below : List Frame} {meth : Method} {c : Code} {H : Heap} {locs : List Loc} {Q : State → Prop} {G : Gx} {A : Nat → Prop} {a : Ax} {S : Lx} {b L : Nat} {xs : Nat → Int32} {x : Int32} {ls : Array Slot} (C : Cx p s m #[.ref b] meth c cL_law RL 4 (some .boolean) G) (hX : va_X b L xs s s.heap) (hbl : b < s.heap.size) (hbA : ¬ A b) (hr : vp_in x L ∧ vp_in (x + 1) L ∧ vp_in (x + 2) L ∧ vp_in (x + 3) L ∧ vp_in (x + 4) L) (hI : Inv S) (hs : St G A s.heap H locs (wL G a S)) (hl : lv_has ls 4 [(0, .ref b), (1, .ref (a.1 0)), (2, .ref (a.2.2.2.2.2.2.2.2.2 0)), (3, .int x)]) (kk : ∀ (S1 : Lx) (H : Heap) (locs : List Loc), Inv S1 → St G A s.heap H locs (wL G a S1) → W p l e room_1 s m #[.ref b] below meth c H locs 114 1879 Q (F0 m 1388 ls [])) : W p l e room_1 s m #[.ref b] below meth c H locs 114 1879 Q (F0 m 326 ls []) := by
  obtain ⟨hx, hb, hml, hown, hts, hK, hret, hlk⟩ := id C
  obtain ⟨r, w1, S1, h4, ⟨fs, h97⟩, h5, hI1⟩ := st_tide (lc := l) (G := G) (a := a) hI (xs (x + (1 : Int32)).toNatClampNeg)
  refine lv_aload_n hx hb (dk hL_law_2 20 rfl) rfl (lv_at hl 1 rfl) ?_
  refine lv_aload_n hx hb (dk hL_law_2 21 rfl) rfl (lv_at hl 0 rfl) ?_
  refine lv_iload_n hx hb (dk hL_law_2 22 rfl) rfl (lv_at hl 3 rfl) ?_
  refine lv_iconst (v := (1 : Int32)) hx hb (dk hL_law_2 23 rfl) (by decide) ?_
  refine lv_iadd hx hb (dk hL_law_2 24 rfl) ?_
  refine va_sld hx hb hX hbl hbA hs.2.2.1 hr.2.1 (dk hL_law_2 25 rfl) ?_
  refine Ct.V (As := [.int (xs (x + (1 : Int32)).toNatClampNeg)]) (rest := []) (st1 := [.int r]) (w1 := w1) C hs h4 tw_401 tw_402 tw_403 tw_79 tw_404 nq_X4_tide ⟨Nat.le_of_ble_eq_true rfl, Nat.le_of_ble_eq_true rfl⟩ 0 4 rfl rfl rfl rfl hl.1 rfl (Nat.le_of_ble_eq_true rfl) (dk hL_law_2 26 rfl) ⟨Nat.le_of_ble_eq_true rfl, Nat.le_of_ble_eq_true rfl⟩ rfl (fun H locs hs => ?_)
  refine lv_aload_n hx hb (dk hL_law_2 27 rfl) rfl (lv_at hl 2 rfl) ?_
  refine lv_aload_n hx hb (dk hL_law_2 28 rfl) rfl (lv_at hl 0 rfl) ?_
  refine lv_iload_n hx hb (dk hL_law_2 29 rfl) rfl (lv_at hl 3 rfl) ?_
  refine lv_iconst (v := (1 : Int32)) hx hb (dk hL_law_2 30 rfl) (by decide) ?_
  refine lv_iadd hx hb (dk hL_law_2 31 rfl) ?_
  refine va_sld hx hb hX hbl hbA hs.2.2.1 hr.2.1 (dk hL_law_2 32 rfl) ?_
  refine Ct.V (As := [.int (xs (x + (1 : Int32)).toNatClampNeg)]) (rest := [.int r]) (st1 := [.int r, .int r]) (w1 := (wL G a S1)) C hs h5 tw_951 tw_952 tw_953 tw_85 tw_954 nq_X5_tide ⟨Nat.le_of_ble_eq_true rfl, Nat.le_of_ble_eq_true rfl⟩ 97 5 rfl rfl h97 rfl hl.1 rfl (Nat.le_of_ble_eq_true rfl) (dk hL_law_2 33 rfl) ⟨Nat.le_of_ble_eq_true rfl, Nat.le_of_ble_eq_true rfl⟩ rfl (fun H locs hs => ?_)
  refine lv_icmp_eq (tgt := 1388) hx hb (dk hL_law_2 34 rfl) (by decide) (fun hc => ?_) (fun hc => absurd rfl hc)
  exact kk S1 H locs hI1 hs
set_option maxRecDepth 100000 in
set_option maxHeartbeats 4000000 in
theorem lc_ship {p : Program} {l : Launch} {e : Jvm.Env} {s : State} {m : MethodId} {below : List Frame} {meth : Method} {c : Code} {H : Heap} {locs : List Loc} {Q : State → Prop} {G : Gx} {A : Nat → Prop} {a : Ax} {S : Lx} {b L : Nat} {xs : Nat → Int32} {x : Int32} {ls : Array Slot} (C : Cx p s m #[.ref b] meth c cL_law RL 4 (some .boolean) G) (hX : va_X b L xs s s.heap) (hbl : b < s.heap.size) (hbA : ¬ A b) (hr : vp_in x L ∧ vp_in (x + 1) L ∧ vp_in (x + 2) L ∧ vp_in (x + 3) L ∧ vp_in (x + 4) L) (hI : Inv S) (hs : St G A s.heap H locs (wL G a S)) (hl : lv_has ls 4 [(0, .ref b), (1, .ref (a.1 0)), (2, .ref (a.2.2.2.2.2.2.2.2.2 0)), (3, .int x)]) (kk : ∀ (S1 : Lx) (H : Heap) (locs : List Loc), Inv S1 → St G A s.heap H locs (wL G a S1) → W p l e room_1 s m #[.ref b] below meth c H locs 114 1879 Q (F0 m 1388 ls [])) : W p l e room_1 s m #[.ref b] below meth c H locs 114 1879 Q (F0 m 349 ls []) := by
  obtain ⟨hx, hb, hml, hown, hts, hK, hret, hlk⟩ := id C
  obtain ⟨r, w1, S1, h4, ⟨fs, h97⟩, h5, hI1⟩ := st_ship (lc := l) (G := G) (a := a) hI (xs (x + (1 : Int32)).toNatClampNeg) (xs (x + (2 : Int32)).toNatClampNeg) (xs (x + (3 : Int32)).toNatClampNeg) (xs (x + (4 : Int32)).toNatClampNeg)
  refine lv_aload_n hx hb (dk hL_law_2 37 rfl) rfl (lv_at hl 1 rfl) ?_
  refine lv_aload_n hx hb (dk hL_law_2 38 rfl) rfl (lv_at hl 0 rfl) ?_
  refine lv_iload_n hx hb (dk hL_law_2 39 rfl) rfl (lv_at hl 3 rfl) ?_
  refine lv_iconst (v := (1 : Int32)) hx hb (dk hL_law_3 0 rfl) (by decide) ?_
  refine lv_iadd hx hb (dk hL_law_3 1 rfl) ?_
  refine va_sld hx hb hX hbl hbA hs.2.2.1 hr.2.1 (dk hL_law_3 2 rfl) ?_
  refine lv_aload_n hx hb (dk hL_law_3 3 rfl) rfl (lv_at hl 0 rfl) ?_
  refine lv_iload_n hx hb (dk hL_law_3 4 rfl) rfl (lv_at hl 3 rfl) ?_
  refine lv_iconst (v := (2 : Int32)) hx hb (dk hL_law_3 5 rfl) (by decide) ?_
  refine lv_iadd hx hb (dk hL_law_3 6 rfl) ?_
  refine va_sld hx hb hX hbl hbA hs.2.2.1 hr.2.2.1 (dk hL_law_3 7 rfl) ?_
  refine lv_aload_n hx hb (dk hL_law_3 8 rfl) rfl (lv_at hl 0 rfl) ?_
  refine lv_iload_n hx hb (dk hL_law_3 9 rfl) rfl (lv_at hl 3 rfl) ?_
  refine lv_iconst (v := (3 : Int32)) hx hb (dk hL_law_3 10 rfl) (by decide) ?_
  refine lv_iadd hx hb (dk hL_law_3 11 rfl) ?_
  refine va_sld hx hb hX hbl hbA hs.2.2.1 hr.2.2.2.1 (dk hL_law_3 12 rfl) ?_
  refine lv_aload_n hx hb (dk hL_law_3 13 rfl) rfl (lv_at hl 0 rfl) ?_
  refine lv_iload_n hx hb (dk hL_law_3 14 rfl) rfl (lv_at hl 3 rfl) ?_
  refine lv_iconst (v := (4 : Int32)) hx hb (dk hL_law_3 15 rfl) (by decide) ?_
  refine lv_iadd hx hb (dk hL_law_3 16 rfl) ?_
  refine va_sld hx hb hX hbl hbA hs.2.2.1 hr.2.2.2.2 (dk hL_law_3 17 rfl) ?_
  refine Ct.V (As := [.int (xs (x + (1 : Int32)).toNatClampNeg), .int (xs (x + (2 : Int32)).toNatClampNeg), .int (xs (x + (3 : Int32)).toNatClampNeg), .int (xs (x + (4 : Int32)).toNatClampNeg)]) (rest := []) (st1 := [.int r]) (w1 := w1) C hs h4 tw_407 tw_408 tw_409 tw_79 tw_410 nq_X4_ship ⟨Nat.le_of_ble_eq_true rfl, Nat.le_of_ble_eq_true rfl⟩ 0 4 rfl rfl rfl rfl hl.1 rfl (Nat.le_of_ble_eq_true rfl) (dk hL_law_3 18 rfl) ⟨Nat.le_of_ble_eq_true rfl, Nat.le_of_ble_eq_true rfl⟩ rfl (fun H locs hs => ?_)
  refine lv_aload_n hx hb (dk hL_law_3 19 rfl) rfl (lv_at hl 2 rfl) ?_
  refine lv_aload_n hx hb (dk hL_law_3 20 rfl) rfl (lv_at hl 0 rfl) ?_
  refine lv_iload_n hx hb (dk hL_law_3 21 rfl) rfl (lv_at hl 3 rfl) ?_
  refine lv_iconst (v := (1 : Int32)) hx hb (dk hL_law_3 22 rfl) (by decide) ?_
  refine lv_iadd hx hb (dk hL_law_3 23 rfl) ?_
  refine va_sld hx hb hX hbl hbA hs.2.2.1 hr.2.1 (dk hL_law_3 24 rfl) ?_
  refine lv_aload_n hx hb (dk hL_law_3 25 rfl) rfl (lv_at hl 0 rfl) ?_
  refine lv_iload_n hx hb (dk hL_law_3 26 rfl) rfl (lv_at hl 3 rfl) ?_
  refine lv_iconst (v := (2 : Int32)) hx hb (dk hL_law_3 27 rfl) (by decide) ?_
  refine lv_iadd hx hb (dk hL_law_3 28 rfl) ?_
  refine va_sld hx hb hX hbl hbA hs.2.2.1 hr.2.2.1 (dk hL_law_3 29 rfl) ?_
  refine lv_aload_n hx hb (dk hL_law_3 30 rfl) rfl (lv_at hl 0 rfl) ?_
  refine lv_iload_n hx hb (dk hL_law_3 31 rfl) rfl (lv_at hl 3 rfl) ?_
  refine lv_iconst (v := (3 : Int32)) hx hb (dk hL_law_3 32 rfl) (by decide) ?_
  refine lv_iadd hx hb (dk hL_law_3 33 rfl) ?_
  refine va_sld hx hb hX hbl hbA hs.2.2.1 hr.2.2.2.1 (dk hL_law_3 34 rfl) ?_
  refine lv_aload_n hx hb (dk hL_law_3 35 rfl) rfl (lv_at hl 0 rfl) ?_
  refine lv_iload_n hx hb (dk hL_law_3 36 rfl) rfl (lv_at hl 3 rfl) ?_
  refine lv_iconst (v := (4 : Int32)) hx hb (dk hL_law_3 37 rfl) (by decide) ?_
  refine lv_iadd hx hb (dk hL_law_3 38 rfl) ?_
  refine va_sld hx hb hX hbl hbA hs.2.2.1 hr.2.2.2.2 (dk hL_law_3 39 rfl) ?_
  refine Ct.V (As := [.int (xs (x + (1 : Int32)).toNatClampNeg), .int (xs (x + (2 : Int32)).toNatClampNeg), .int (xs (x + (3 : Int32)).toNatClampNeg), .int (xs (x + (4 : Int32)).toNatClampNeg)]) (rest := [.int r]) (st1 := [.int r, .int r]) (w1 := (wL G a S1)) C hs h5 tw_955 tw_956 tw_957 tw_85 tw_958 nq_X5_ship ⟨Nat.le_of_ble_eq_true rfl, Nat.le_of_ble_eq_true rfl⟩ 97 5 rfl rfl h97 rfl hl.1 rfl (Nat.le_of_ble_eq_true rfl) (dk hL_law_4 0 rfl) ⟨Nat.le_of_ble_eq_true rfl, Nat.le_of_ble_eq_true rfl⟩ rfl (fun H locs hs => ?_)
  refine lv_icmp_eq (tgt := 1388) hx hb (dk hL_law_4 1 rfl) (by decide) (fun hc => ?_) (fun hc => absurd rfl hc)
  exact kk S1 H locs hI1 hs
set_option maxRecDepth 100000 in
set_option maxHeartbeats 4000000 in
theorem lc_hides {p : Program} {l : Launch} {e : Jvm.Env} {s : State} {m : MethodId} {below : List Frame} {meth : Method} {c : Code} {H : Heap} {locs : List Loc} {Q : State → Prop} {G : Gx} {A : Nat → Prop} {a : Ax} {S : Lx} {b L : Nat} {xs : Nat → Int32} {x : Int32} {ls : Array Slot} (C : Cx p s m #[.ref b] meth c cL_law RL 4 (some .boolean) G) (hX : va_X b L xs s s.heap) (hbl : b < s.heap.size) (hbA : ¬ A b) (hr : vp_in x L ∧ vp_in (x + 1) L ∧ vp_in (x + 2) L ∧ vp_in (x + 3) L ∧ vp_in (x + 4) L) (hI : Inv S) (hs : St G A s.heap H locs (wL G a S)) (hl : lv_has ls 4 [(0, .ref b), (1, .ref (a.1 0)), (2, .ref (a.2.2.2.2.2.2.2.2.2 0)), (3, .int x)]) (kk : ∀ (S1 : Lx) (H : Heap) (locs : List Loc), Inv S1 → St G A s.heap H locs (wL G a S1) → W p l e room_1 s m #[.ref b] below meth c H locs 114 1879 Q (F0 m 1388 ls [])) : W p l e room_1 s m #[.ref b] below meth c H locs 114 1879 Q (F0 m 402 ls []) := by
  obtain ⟨hx, hb, hml, hown, hts, hK, hret, hlk⟩ := id C
  obtain ⟨r, w1, S1, h4, ⟨fs, h97⟩, h5, hI1⟩ := st_hides (lc := l) (G := G) (a := a) hI (xs (x + (1 : Int32)).toNatClampNeg) (xs (x + (2 : Int32)).toNatClampNeg)
  refine lv_aload_n hx hb (dk hL_law_4 4 rfl) rfl (lv_at hl 1 rfl) ?_
  refine lv_aload_n hx hb (dk hL_law_4 5 rfl) rfl (lv_at hl 0 rfl) ?_
  refine lv_iload_n hx hb (dk hL_law_4 6 rfl) rfl (lv_at hl 3 rfl) ?_
  refine lv_iconst (v := (1 : Int32)) hx hb (dk hL_law_4 7 rfl) (by decide) ?_
  refine lv_iadd hx hb (dk hL_law_4 8 rfl) ?_
  refine va_sld hx hb hX hbl hbA hs.2.2.1 hr.2.1 (dk hL_law_4 9 rfl) ?_
  refine lv_aload_n hx hb (dk hL_law_4 10 rfl) rfl (lv_at hl 0 rfl) ?_
  refine lv_iload_n hx hb (dk hL_law_4 11 rfl) rfl (lv_at hl 3 rfl) ?_
  refine lv_iconst (v := (2 : Int32)) hx hb (dk hL_law_4 12 rfl) (by decide) ?_
  refine lv_iadd hx hb (dk hL_law_4 13 rfl) ?_
  refine va_sld hx hb hX hbl hbA hs.2.2.1 hr.2.2.1 (dk hL_law_4 14 rfl) ?_
  refine Ct.V (As := [.int (xs (x + (1 : Int32)).toNatClampNeg), .int (xs (x + (2 : Int32)).toNatClampNeg)]) (rest := []) (st1 := [.int r]) (w1 := w1) C hs h4 tw_412 tw_413 tw_414 tw_79 tw_415 nq_X4_hides ⟨Nat.le_of_ble_eq_true rfl, Nat.le_of_ble_eq_true rfl⟩ 0 4 rfl rfl rfl rfl hl.1 rfl (Nat.le_of_ble_eq_true rfl) (dk hL_law_4 15 rfl) ⟨Nat.le_of_ble_eq_true rfl, Nat.le_of_ble_eq_true rfl⟩ rfl (fun H locs hs => ?_)
  refine lv_aload_n hx hb (dk hL_law_4 16 rfl) rfl (lv_at hl 2 rfl) ?_
  refine lv_aload_n hx hb (dk hL_law_4 17 rfl) rfl (lv_at hl 0 rfl) ?_
  refine lv_iload_n hx hb (dk hL_law_4 18 rfl) rfl (lv_at hl 3 rfl) ?_
  refine lv_iconst (v := (1 : Int32)) hx hb (dk hL_law_4 19 rfl) (by decide) ?_
  refine lv_iadd hx hb (dk hL_law_4 20 rfl) ?_
  refine va_sld hx hb hX hbl hbA hs.2.2.1 hr.2.1 (dk hL_law_4 21 rfl) ?_
  refine lv_aload_n hx hb (dk hL_law_4 22 rfl) rfl (lv_at hl 0 rfl) ?_
  refine lv_iload_n hx hb (dk hL_law_4 23 rfl) rfl (lv_at hl 3 rfl) ?_
  refine lv_iconst (v := (2 : Int32)) hx hb (dk hL_law_4 24 rfl) (by decide) ?_
  refine lv_iadd hx hb (dk hL_law_4 25 rfl) ?_
  refine va_sld hx hb hX hbl hbA hs.2.2.1 hr.2.2.1 (dk hL_law_4 26 rfl) ?_
  refine Ct.V (As := [.int (xs (x + (1 : Int32)).toNatClampNeg), .int (xs (x + (2 : Int32)).toNatClampNeg)]) (rest := [.int r]) (st1 := [.int r, .int r]) (w1 := (wL G a S1)) C hs h5 tw_959 tw_960 tw_961 tw_85 tw_962 nq_X5_hides ⟨Nat.le_of_ble_eq_true rfl, Nat.le_of_ble_eq_true rfl⟩ 97 5 rfl rfl h97 rfl hl.1 rfl (Nat.le_of_ble_eq_true rfl) (dk hL_law_4 27 rfl) ⟨Nat.le_of_ble_eq_true rfl, Nat.le_of_ble_eq_true rfl⟩ rfl (fun H locs hs => ?_)
  refine lv_icmp_eq (tgt := 1388) hx hb (dk hL_law_4 28 rfl) (by decide) (fun hc => ?_) (fun hc => absurd rfl hc)
  exact kk S1 H locs hI1 hs
set_option maxRecDepth 100000 in
set_option maxHeartbeats 4000000 in
theorem lc_uses {p : Program} {l : Launch} {e : Jvm.Env} {s : State} {m : MethodId} {below : List Frame} {meth : Method} {c : Code} {H : Heap} {locs : List Loc} {Q : State → Prop} {G : Gx} {A : Nat → Prop} {a : Ax} {S : Lx} {b L : Nat} {xs : Nat → Int32} {x : Int32} {ls : Array Slot} (C : Cx p s m #[.ref b] meth c cL_law RL 4 (some .boolean) G) (hX : va_X b L xs s s.heap) (hbl : b < s.heap.size) (hbA : ¬ A b) (hr : vp_in x L ∧ vp_in (x + 1) L ∧ vp_in (x + 2) L ∧ vp_in (x + 3) L ∧ vp_in (x + 4) L) (hI : Inv S) (hs : St G A s.heap H locs (wL G a S)) (hl : lv_has ls 4 [(0, .ref b), (1, .ref (a.1 0)), (2, .ref (a.2.2.2.2.2.2.2.2.2 0)), (3, .int x)]) (kk : ∀ (S1 : Lx) (H : Heap) (locs : List Loc), Inv S1 → St G A s.heap H locs (wL G a S1) → W p l e room_1 s m #[.ref b] below meth c H locs 114 1879 Q (F0 m 1388 ls [])) : W p l e room_1 s m #[.ref b] below meth c H locs 114 1879 Q (F0 m 435 ls []) := by
  obtain ⟨hx, hb, hml, hown, hts, hK, hret, hlk⟩ := id C
  obtain ⟨r, w1, S1, h4, ⟨fs, h97⟩, h5, hI1⟩ := st_uses (lc := l) (G := G) (a := a) hI (xs (x + (1 : Int32)).toNatClampNeg) (xs (x + (2 : Int32)).toNatClampNeg)
  refine lv_aload_n hx hb (dk hL_law_4 31 rfl) rfl (lv_at hl 1 rfl) ?_
  refine lv_aload_n hx hb (dk hL_law_4 32 rfl) rfl (lv_at hl 0 rfl) ?_
  refine lv_iload_n hx hb (dk hL_law_4 33 rfl) rfl (lv_at hl 3 rfl) ?_
  refine lv_iconst (v := (1 : Int32)) hx hb (dk hL_law_4 34 rfl) (by decide) ?_
  refine lv_iadd hx hb (dk hL_law_4 35 rfl) ?_
  refine va_sld hx hb hX hbl hbA hs.2.2.1 hr.2.1 (dk hL_law_4 36 rfl) ?_
  refine lv_aload_n hx hb (dk hL_law_4 37 rfl) rfl (lv_at hl 0 rfl) ?_
  refine lv_iload_n hx hb (dk hL_law_4 38 rfl) rfl (lv_at hl 3 rfl) ?_
  refine lv_iconst (v := (2 : Int32)) hx hb (dk hL_law_4 39 rfl) (by decide) ?_
  refine lv_iadd hx hb (dk hL_law_5 0 rfl) ?_
  refine va_sld hx hb hX hbl hbA hs.2.2.1 hr.2.2.1 (dk hL_law_5 1 rfl) ?_
  refine Ct.V (As := [.int (xs (x + (1 : Int32)).toNatClampNeg), .int (xs (x + (2 : Int32)).toNatClampNeg)]) (rest := []) (st1 := [.int r]) (w1 := w1) C hs h4 tw_431 tw_432 tw_433 tw_79 tw_434 nq_X4_uses ⟨Nat.le_of_ble_eq_true rfl, Nat.le_of_ble_eq_true rfl⟩ 0 4 rfl rfl rfl rfl hl.1 rfl (Nat.le_of_ble_eq_true rfl) (dk hL_law_5 2 rfl) ⟨Nat.le_of_ble_eq_true rfl, Nat.le_of_ble_eq_true rfl⟩ rfl (fun H locs hs => ?_)
  refine lv_aload_n hx hb (dk hL_law_5 3 rfl) rfl (lv_at hl 2 rfl) ?_
  refine lv_aload_n hx hb (dk hL_law_5 4 rfl) rfl (lv_at hl 0 rfl) ?_
  refine lv_iload_n hx hb (dk hL_law_5 5 rfl) rfl (lv_at hl 3 rfl) ?_
  refine lv_iconst (v := (1 : Int32)) hx hb (dk hL_law_5 6 rfl) (by decide) ?_
  refine lv_iadd hx hb (dk hL_law_5 7 rfl) ?_
  refine va_sld hx hb hX hbl hbA hs.2.2.1 hr.2.1 (dk hL_law_5 8 rfl) ?_
  refine lv_aload_n hx hb (dk hL_law_5 9 rfl) rfl (lv_at hl 0 rfl) ?_
  refine lv_iload_n hx hb (dk hL_law_5 10 rfl) rfl (lv_at hl 3 rfl) ?_
  refine lv_iconst (v := (2 : Int32)) hx hb (dk hL_law_5 11 rfl) (by decide) ?_
  refine lv_iadd hx hb (dk hL_law_5 12 rfl) ?_
  refine va_sld hx hb hX hbl hbA hs.2.2.1 hr.2.2.1 (dk hL_law_5 13 rfl) ?_
  refine Ct.V (As := [.int (xs (x + (1 : Int32)).toNatClampNeg), .int (xs (x + (2 : Int32)).toNatClampNeg)]) (rest := [.int r]) (st1 := [.int r, .int r]) (w1 := (wL G a S1)) C hs h5 tw_967 tw_968 tw_969 tw_85 tw_970 nq_X5_uses ⟨Nat.le_of_ble_eq_true rfl, Nat.le_of_ble_eq_true rfl⟩ 97 5 rfl rfl h97 rfl hl.1 rfl (Nat.le_of_ble_eq_true rfl) (dk hL_law_5 14 rfl) ⟨Nat.le_of_ble_eq_true rfl, Nat.le_of_ble_eq_true rfl⟩ rfl (fun H locs hs => ?_)
  refine lv_icmp_eq (tgt := 1388) hx hb (dk hL_law_5 15 rfl) (by decide) (fun hc => ?_) (fun hc => absurd rfl hc)
  exact kk S1 H locs hI1 hs
set_option maxRecDepth 100000 in
set_option maxHeartbeats 4000000 in
theorem lc_sends {p : Program} {l : Launch} {e : Jvm.Env} {s : State} {m : MethodId} {below : List Frame} {meth : Method} {c : Code} {H : Heap} {locs : List Loc} {Q : State → Prop} {G : Gx} {A : Nat → Prop} {a : Ax} {S : Lx} {b L : Nat} {xs : Nat → Int32} {x : Int32} {ls : Array Slot} (C : Cx p s m #[.ref b] meth c cL_law RL 4 (some .boolean) G) (hX : va_X b L xs s s.heap) (hbl : b < s.heap.size) (hbA : ¬ A b) (hr : vp_in x L ∧ vp_in (x + 1) L ∧ vp_in (x + 2) L ∧ vp_in (x + 3) L ∧ vp_in (x + 4) L) (hI : Inv S) (hs : St G A s.heap H locs (wL G a S)) (hl : lv_has ls 4 [(0, .ref b), (1, .ref (a.1 0)), (2, .ref (a.2.2.2.2.2.2.2.2.2 0)), (3, .int x)]) (kk : ∀ (S1 : Lx) (H : Heap) (locs : List Loc), Inv S1 → St G A s.heap H locs (wL G a S1) → W p l e room_1 s m #[.ref b] below meth c H locs 114 1879 Q (F0 m 1388 ls [])) : W p l e room_1 s m #[.ref b] below meth c H locs 114 1879 Q (F0 m 468 ls []) := by
  obtain ⟨hx, hb, hml, hown, hts, hK, hret, hlk⟩ := id C
  obtain ⟨r, w1, S1, h4, ⟨fs, h97⟩, h5, hI1⟩ := st_sends (lc := l) (G := G) (a := a) hI (xs (x + (1 : Int32)).toNatClampNeg) (xs (x + (2 : Int32)).toNatClampNeg)
  refine lv_aload_n hx hb (dk hL_law_5 18 rfl) rfl (lv_at hl 1 rfl) ?_
  refine lv_aload_n hx hb (dk hL_law_5 19 rfl) rfl (lv_at hl 0 rfl) ?_
  refine lv_iload_n hx hb (dk hL_law_5 20 rfl) rfl (lv_at hl 3 rfl) ?_
  refine lv_iconst (v := (1 : Int32)) hx hb (dk hL_law_5 21 rfl) (by decide) ?_
  refine lv_iadd hx hb (dk hL_law_5 22 rfl) ?_
  refine va_sld hx hb hX hbl hbA hs.2.2.1 hr.2.1 (dk hL_law_5 23 rfl) ?_
  refine lv_aload_n hx hb (dk hL_law_5 24 rfl) rfl (lv_at hl 0 rfl) ?_
  refine lv_iload_n hx hb (dk hL_law_5 25 rfl) rfl (lv_at hl 3 rfl) ?_
  refine lv_iconst (v := (2 : Int32)) hx hb (dk hL_law_5 26 rfl) (by decide) ?_
  refine lv_iadd hx hb (dk hL_law_5 27 rfl) ?_
  refine va_sld hx hb hX hbl hbA hs.2.2.1 hr.2.2.1 (dk hL_law_5 28 rfl) ?_
  refine Ct.V (As := [.int (xs (x + (1 : Int32)).toNatClampNeg), .int (xs (x + (2 : Int32)).toNatClampNeg)]) (rest := []) (st1 := [.int r]) (w1 := w1) C hs h4 tw_435 tw_436 tw_437 tw_79 tw_438 nq_X4_sends ⟨Nat.le_of_ble_eq_true rfl, Nat.le_of_ble_eq_true rfl⟩ 0 4 rfl rfl rfl rfl hl.1 rfl (Nat.le_of_ble_eq_true rfl) (dk hL_law_5 29 rfl) ⟨Nat.le_of_ble_eq_true rfl, Nat.le_of_ble_eq_true rfl⟩ rfl (fun H locs hs => ?_)
  refine lv_aload_n hx hb (dk hL_law_5 30 rfl) rfl (lv_at hl 2 rfl) ?_
  refine lv_aload_n hx hb (dk hL_law_5 31 rfl) rfl (lv_at hl 0 rfl) ?_
  refine lv_iload_n hx hb (dk hL_law_5 32 rfl) rfl (lv_at hl 3 rfl) ?_
  refine lv_iconst (v := (1 : Int32)) hx hb (dk hL_law_5 33 rfl) (by decide) ?_
  refine lv_iadd hx hb (dk hL_law_5 34 rfl) ?_
  refine va_sld hx hb hX hbl hbA hs.2.2.1 hr.2.1 (dk hL_law_5 35 rfl) ?_
  refine lv_aload_n hx hb (dk hL_law_5 36 rfl) rfl (lv_at hl 0 rfl) ?_
  refine lv_iload_n hx hb (dk hL_law_5 37 rfl) rfl (lv_at hl 3 rfl) ?_
  refine lv_iconst (v := (2 : Int32)) hx hb (dk hL_law_5 38 rfl) (by decide) ?_
  refine lv_iadd hx hb (dk hL_law_5 39 rfl) ?_
  refine va_sld hx hb hX hbl hbA hs.2.2.1 hr.2.2.1 (dk hL_law_6 0 rfl) ?_
  refine Ct.V (As := [.int (xs (x + (1 : Int32)).toNatClampNeg), .int (xs (x + (2 : Int32)).toNatClampNeg)]) (rest := [.int r]) (st1 := [.int r, .int r]) (w1 := (wL G a S1)) C hs h5 tw_971 tw_972 tw_973 tw_85 tw_974 nq_X5_sends ⟨Nat.le_of_ble_eq_true rfl, Nat.le_of_ble_eq_true rfl⟩ 97 5 rfl rfl h97 rfl hl.1 rfl (Nat.le_of_ble_eq_true rfl) (dk hL_law_6 1 rfl) ⟨Nat.le_of_ble_eq_true rfl, Nat.le_of_ble_eq_true rfl⟩ rfl (fun H locs hs => ?_)
  refine lv_icmp_eq (tgt := 1388) hx hb (dk hL_law_6 2 rfl) (by decide) (fun hc => ?_) (fun hc => absurd rfl hc)
  exact kk S1 H locs hI1 hs
set_option maxRecDepth 100000 in
set_option maxHeartbeats 4000000 in
theorem lc_days {p : Program} {l : Launch} {e : Jvm.Env} {s : State} {m : MethodId} {below : List Frame} {meth : Method} {c : Code} {H : Heap} {locs : List Loc} {Q : State → Prop} {G : Gx} {A : Nat → Prop} {a : Ax} {S : Lx} {b L : Nat} {xs : Nat → Int32} {x : Int32} {ls : Array Slot} (C : Cx p s m #[.ref b] meth c cL_law RL 4 (some .boolean) G) (hX : va_X b L xs s s.heap) (hbl : b < s.heap.size) (hbA : ¬ A b) (hr : vp_in x L ∧ vp_in (x + 1) L ∧ vp_in (x + 2) L ∧ vp_in (x + 3) L ∧ vp_in (x + 4) L) (hI : Inv S) (hs : St G A s.heap H locs (wL G a S)) (hl : lv_has ls 4 [(0, .ref b), (1, .ref (a.1 0)), (2, .ref (a.2.2.2.2.2.2.2.2.2 0)), (3, .int x)]) (kk : ∀ (S1 : Lx) (H : Heap) (locs : List Loc), Inv S1 → St G A s.heap H locs (wL G a S1) → W p l e room_1 s m #[.ref b] below meth c H locs 114 1879 Q (F0 m 1388 ls [])) : W p l e room_1 s m #[.ref b] below meth c H locs 114 1879 Q (F0 m 501 ls []) := by
  obtain ⟨hx, hb, hml, hown, hts, hK, hret, hlk⟩ := id C
  obtain ⟨r, w1, S1, h4, ⟨fs, h97⟩, h5, hI1⟩ := st_days (lc := l) (G := G) (a := a) hI (xs (x + (1 : Int32)).toNatClampNeg)
  refine lv_aload_n hx hb (dk hL_law_6 5 rfl) rfl (lv_at hl 1 rfl) ?_
  refine lv_aload_n hx hb (dk hL_law_6 6 rfl) rfl (lv_at hl 0 rfl) ?_
  refine lv_iload_n hx hb (dk hL_law_6 7 rfl) rfl (lv_at hl 3 rfl) ?_
  refine lv_iconst (v := (1 : Int32)) hx hb (dk hL_law_6 8 rfl) (by decide) ?_
  refine lv_iadd hx hb (dk hL_law_6 9 rfl) ?_
  refine va_sld hx hb hX hbl hbA hs.2.2.1 hr.2.1 (dk hL_law_6 10 rfl) ?_
  refine Ct.V (As := [.int (xs (x + (1 : Int32)).toNatClampNeg)]) (rest := []) (st1 := [.int r]) (w1 := w1) C hs h4 tw_440 tw_441 tw_442 tw_79 tw_443 nq_X4_days ⟨Nat.le_of_ble_eq_true rfl, Nat.le_of_ble_eq_true rfl⟩ 0 4 rfl rfl rfl rfl hl.1 rfl (Nat.le_of_ble_eq_true rfl) (dk hL_law_6 11 rfl) ⟨Nat.le_of_ble_eq_true rfl, Nat.le_of_ble_eq_true rfl⟩ rfl (fun H locs hs => ?_)
  refine lv_aload_n hx hb (dk hL_law_6 12 rfl) rfl (lv_at hl 2 rfl) ?_
  refine lv_aload_n hx hb (dk hL_law_6 13 rfl) rfl (lv_at hl 0 rfl) ?_
  refine lv_iload_n hx hb (dk hL_law_6 14 rfl) rfl (lv_at hl 3 rfl) ?_
  refine lv_iconst (v := (1 : Int32)) hx hb (dk hL_law_6 15 rfl) (by decide) ?_
  refine lv_iadd hx hb (dk hL_law_6 16 rfl) ?_
  refine va_sld hx hb hX hbl hbA hs.2.2.1 hr.2.1 (dk hL_law_6 17 rfl) ?_
  refine Ct.V (As := [.int (xs (x + (1 : Int32)).toNatClampNeg)]) (rest := [.int r]) (st1 := [.int r, .int r]) (w1 := (wL G a S1)) C hs h5 tw_975 tw_976 tw_977 tw_85 tw_978 nq_X5_days ⟨Nat.le_of_ble_eq_true rfl, Nat.le_of_ble_eq_true rfl⟩ 97 5 rfl rfl h97 rfl hl.1 rfl (Nat.le_of_ble_eq_true rfl) (dk hL_law_6 18 rfl) ⟨Nat.le_of_ble_eq_true rfl, Nat.le_of_ble_eq_true rfl⟩ rfl (fun H locs hs => ?_)
  refine lv_icmp_eq (tgt := 1388) hx hb (dk hL_law_6 19 rfl) (by decide) (fun hc => ?_) (fun hc => absurd rfl hc)
  exact kk S1 H locs hI1 hs
set_option maxRecDepth 100000 in
set_option maxHeartbeats 4000000 in
theorem lc_back {p : Program} {l : Launch} {e : Jvm.Env} {s : State} {m : MethodId} {below : List Frame} {meth : Method} {c : Code} {H : Heap} {locs : List Loc} {Q : State → Prop} {G : Gx} {A : Nat → Prop} {a : Ax} {S : Lx} {b L : Nat} {xs : Nat → Int32} {x : Int32} {ls : Array Slot} (C : Cx p s m #[.ref b] meth c cL_law RL 4 (some .boolean) G) (hX : va_X b L xs s s.heap) (hbl : b < s.heap.size) (hbA : ¬ A b) (hr : vp_in x L ∧ vp_in (x + 1) L ∧ vp_in (x + 2) L ∧ vp_in (x + 3) L ∧ vp_in (x + 4) L) (hI : Inv S) (hs : St G A s.heap H locs (wL G a S)) (hl : lv_has ls 4 [(0, .ref b), (1, .ref (a.1 0)), (2, .ref (a.2.2.2.2.2.2.2.2.2 0)), (3, .int x)]) (kk : ∀ (S1 : Lx) (H : Heap) (locs : List Loc), Inv S1 → St G A s.heap H locs (wL G a S1) → W p l e room_1 s m #[.ref b] below meth c H locs 114 1879 Q (F0 m 1388 ls [])) : W p l e room_1 s m #[.ref b] below meth c H locs 114 1879 Q (F0 m 524 ls []) := by
  obtain ⟨hx, hb, hml, hown, hts, hK, hret, hlk⟩ := id C
  obtain ⟨r, w1, S1, h4, ⟨fs, h97⟩, h5, hI1⟩ := st_back (lc := l) (G := G) (a := a) hI 
  refine lv_aload_n hx hb (dk hL_law_6 22 rfl) rfl (lv_at hl 1 rfl) ?_
  refine Ct.V (As := []) (rest := []) (st1 := [.int r]) (w1 := w1) C hs h4 tw_451 tw_452 tw_453 tw_79 tw_454 nq_X4_back ⟨Nat.le_of_ble_eq_true rfl, Nat.le_of_ble_eq_true rfl⟩ 0 4 rfl rfl rfl rfl hl.1 rfl (Nat.le_of_ble_eq_true rfl) (dk hL_law_6 23 rfl) ⟨Nat.le_of_ble_eq_true rfl, Nat.le_of_ble_eq_true rfl⟩ rfl (fun H locs hs => ?_)
  refine lv_aload_n hx hb (dk hL_law_6 24 rfl) rfl (lv_at hl 2 rfl) ?_
  refine Ct.V (As := []) (rest := [.int r]) (st1 := [.int r, .int r]) (w1 := (wL G a S1)) C hs h5 tw_931 tw_932 tw_933 tw_85 tw_934 nq_X5_back ⟨Nat.le_of_ble_eq_true rfl, Nat.le_of_ble_eq_true rfl⟩ 97 5 rfl rfl h97 rfl hl.1 rfl (Nat.le_of_ble_eq_true rfl) (dk hL_law_6 25 rfl) ⟨Nat.le_of_ble_eq_true rfl, Nat.le_of_ble_eq_true rfl⟩ rfl (fun H locs hs => ?_)
  refine lv_icmp_eq (tgt := 1388) hx hb (dk hL_law_6 26 rfl) (by decide) (fun hc => ?_) (fun hc => absurd rfl hc)
  exact kk S1 H locs hI1 hs
set_option maxRecDepth 100000 in
set_option maxHeartbeats 4000000 in
theorem lc_thereIn {p : Program} {l : Launch} {e : Jvm.Env} {s : State} {m : MethodId} {below : List Frame} {meth : Method} {c : Code} {H : Heap} {locs : List Loc} {Q : State → Prop} {G : Gx} {A : Nat → Prop} {a : Ax} {S : Lx} {b L : Nat} {xs : Nat → Int32} {x : Int32} {ls : Array Slot} (C : Cx p s m #[.ref b] meth c cL_law RL 4 (some .boolean) G) (hX : va_X b L xs s s.heap) (hbl : b < s.heap.size) (hbA : ¬ A b) (hr : vp_in x L ∧ vp_in (x + 1) L ∧ vp_in (x + 2) L ∧ vp_in (x + 3) L ∧ vp_in (x + 4) L) (hI : Inv S) (hs : St G A s.heap H locs (wL G a S)) (hl : lv_has ls 4 [(0, .ref b), (1, .ref (a.1 0)), (2, .ref (a.2.2.2.2.2.2.2.2.2 0)), (3, .int x)]) (kk : ∀ (S1 : Lx) (H : Heap) (locs : List Loc), Inv S1 → St G A s.heap H locs (wL G a S1) → W p l e room_1 s m #[.ref b] below meth c H locs 114 1879 Q (F0 m 1388 ls [])) : W p l e room_1 s m #[.ref b] below meth c H locs 114 1879 Q (F0 m 537 ls []) := by
  obtain ⟨hx, hb, hml, hown, hts, hK, hret, hlk⟩ := id C
  obtain ⟨r, w1, S1, h4, ⟨fs, h97⟩, h5, hI1⟩ := st_thereIn (lc := l) (G := G) (a := a) hI (xs (x + (1 : Int32)).toNatClampNeg) (xs (x + (2 : Int32)).toNatClampNeg)
  refine lv_aload_n hx hb (dk hL_law_6 29 rfl) rfl (lv_at hl 1 rfl) ?_
  refine lv_aload_n hx hb (dk hL_law_6 30 rfl) rfl (lv_at hl 0 rfl) ?_
  refine lv_iload_n hx hb (dk hL_law_6 31 rfl) rfl (lv_at hl 3 rfl) ?_
  refine lv_iconst (v := (1 : Int32)) hx hb (dk hL_law_6 32 rfl) (by decide) ?_
  refine lv_iadd hx hb (dk hL_law_6 33 rfl) ?_
  refine va_sld hx hb hX hbl hbA hs.2.2.1 hr.2.1 (dk hL_law_6 34 rfl) ?_
  refine lv_aload_n hx hb (dk hL_law_6 35 rfl) rfl (lv_at hl 0 rfl) ?_
  refine lv_iload_n hx hb (dk hL_law_6 36 rfl) rfl (lv_at hl 3 rfl) ?_
  refine lv_iconst (v := (2 : Int32)) hx hb (dk hL_law_6 37 rfl) (by decide) ?_
  refine lv_iadd hx hb (dk hL_law_6 38 rfl) ?_
  refine va_sld hx hb hX hbl hbA hs.2.2.1 hr.2.2.1 (dk hL_law_6 39 rfl) ?_
  refine Ct.V (As := [.int (xs (x + (1 : Int32)).toNatClampNeg), .int (xs (x + (2 : Int32)).toNatClampNeg)]) (rest := []) (st1 := [.int r]) (w1 := w1) C hs h4 tw_463 tw_464 tw_465 tw_79 tw_466 nq_X4_thereIn ⟨Nat.le_of_ble_eq_true rfl, Nat.le_of_ble_eq_true rfl⟩ 0 4 rfl rfl rfl rfl hl.1 rfl (Nat.le_of_ble_eq_true rfl) (dk hL_law_7 0 rfl) ⟨Nat.le_of_ble_eq_true rfl, Nat.le_of_ble_eq_true rfl⟩ rfl (fun H locs hs => ?_)
  refine lv_aload_n hx hb (dk hL_law_7 1 rfl) rfl (lv_at hl 2 rfl) ?_
  refine lv_aload_n hx hb (dk hL_law_7 2 rfl) rfl (lv_at hl 0 rfl) ?_
  refine lv_iload_n hx hb (dk hL_law_7 3 rfl) rfl (lv_at hl 3 rfl) ?_
  refine lv_iconst (v := (1 : Int32)) hx hb (dk hL_law_7 4 rfl) (by decide) ?_
  refine lv_iadd hx hb (dk hL_law_7 5 rfl) ?_
  refine va_sld hx hb hX hbl hbA hs.2.2.1 hr.2.1 (dk hL_law_7 6 rfl) ?_
  refine lv_aload_n hx hb (dk hL_law_7 7 rfl) rfl (lv_at hl 0 rfl) ?_
  refine lv_iload_n hx hb (dk hL_law_7 8 rfl) rfl (lv_at hl 3 rfl) ?_
  refine lv_iconst (v := (2 : Int32)) hx hb (dk hL_law_7 9 rfl) (by decide) ?_
  refine lv_iadd hx hb (dk hL_law_7 10 rfl) ?_
  refine va_sld hx hb hX hbl hbA hs.2.2.1 hr.2.2.1 (dk hL_law_7 11 rfl) ?_
  refine Ct.V (As := [.int (xs (x + (1 : Int32)).toNatClampNeg), .int (xs (x + (2 : Int32)).toNatClampNeg)]) (rest := [.int r]) (st1 := [.int r, .int r]) (w1 := (wL G a S1)) C hs h5 tw_986 tw_987 tw_988 tw_85 tw_989 nq_X5_thereIn ⟨Nat.le_of_ble_eq_true rfl, Nat.le_of_ble_eq_true rfl⟩ 97 5 rfl rfl h97 rfl hl.1 rfl (Nat.le_of_ble_eq_true rfl) (dk hL_law_7 12 rfl) ⟨Nat.le_of_ble_eq_true rfl, Nat.le_of_ble_eq_true rfl⟩ rfl (fun H locs hs => ?_)
  refine lv_icmp_eq (tgt := 1388) hx hb (dk hL_law_7 13 rfl) (by decide) (fun hc => ?_) (fun hc => absurd rfl hc)
  exact kk S1 H locs hI1 hs
set_option maxRecDepth 100000 in
set_option maxHeartbeats 4000000 in
theorem lc_then {p : Program} {l : Launch} {e : Jvm.Env} {s : State} {m : MethodId} {below : List Frame} {meth : Method} {c : Code} {H : Heap} {locs : List Loc} {Q : State → Prop} {G : Gx} {A : Nat → Prop} {a : Ax} {S : Lx} {b L : Nat} {xs : Nat → Int32} {x : Int32} {ls : Array Slot} (C : Cx p s m #[.ref b] meth c cL_law RL 4 (some .boolean) G) (hX : va_X b L xs s s.heap) (hbl : b < s.heap.size) (hbA : ¬ A b) (hr : vp_in x L ∧ vp_in (x + 1) L ∧ vp_in (x + 2) L ∧ vp_in (x + 3) L ∧ vp_in (x + 4) L) (hI : Inv S) (hs : St G A s.heap H locs (wL G a S)) (hl : lv_has ls 4 [(0, .ref b), (1, .ref (a.1 0)), (2, .ref (a.2.2.2.2.2.2.2.2.2 0)), (3, .int x)]) (kk : ∀ (S1 : Lx) (H : Heap) (locs : List Loc), Inv S1 → St G A s.heap H locs (wL G a S1) → W p l e room_1 s m #[.ref b] below meth c H locs 114 1879 Q (F0 m 1388 ls [])) : W p l e room_1 s m #[.ref b] below meth c H locs 114 1879 Q (F0 m 570 ls []) := by
  obtain ⟨hx, hb, hml, hown, hts, hK, hret, hlk⟩ := id C
  obtain ⟨r, w1, S1, h4, ⟨fs, h97⟩, h5, hI1⟩ := st_then (lc := l) (G := G) (a := a) hI (xs (x + (1 : Int32)).toNatClampNeg) (xs (x + (2 : Int32)).toNatClampNeg)
  refine lv_aload_n hx hb (dk hL_law_7 16 rfl) rfl (lv_at hl 1 rfl) ?_
  refine lv_aload_n hx hb (dk hL_law_7 17 rfl) rfl (lv_at hl 0 rfl) ?_
  refine lv_iload_n hx hb (dk hL_law_7 18 rfl) rfl (lv_at hl 3 rfl) ?_
  refine lv_iconst (v := (1 : Int32)) hx hb (dk hL_law_7 19 rfl) (by decide) ?_
  refine lv_iadd hx hb (dk hL_law_7 20 rfl) ?_
  refine va_sld hx hb hX hbl hbA hs.2.2.1 hr.2.1 (dk hL_law_7 21 rfl) ?_
  refine lv_aload_n hx hb (dk hL_law_7 22 rfl) rfl (lv_at hl 0 rfl) ?_
  refine lv_iload_n hx hb (dk hL_law_7 23 rfl) rfl (lv_at hl 3 rfl) ?_
  refine lv_iconst (v := (2 : Int32)) hx hb (dk hL_law_7 24 rfl) (by decide) ?_
  refine lv_iadd hx hb (dk hL_law_7 25 rfl) ?_
  refine va_sld hx hb hX hbl hbA hs.2.2.1 hr.2.2.1 (dk hL_law_7 26 rfl) ?_
  refine Ct.V (As := [.int (xs (x + (1 : Int32)).toNatClampNeg), .int (xs (x + (2 : Int32)).toNatClampNeg)]) (rest := []) (st1 := [.int r]) (w1 := w1) C hs h4 tw_467 tw_468 tw_469 tw_79 tw_470 nq_X4_then ⟨Nat.le_of_ble_eq_true rfl, Nat.le_of_ble_eq_true rfl⟩ 0 4 rfl rfl rfl rfl hl.1 rfl (Nat.le_of_ble_eq_true rfl) (dk hL_law_7 27 rfl) ⟨Nat.le_of_ble_eq_true rfl, Nat.le_of_ble_eq_true rfl⟩ rfl (fun H locs hs => ?_)
  refine lv_aload_n hx hb (dk hL_law_7 28 rfl) rfl (lv_at hl 2 rfl) ?_
  refine lv_aload_n hx hb (dk hL_law_7 29 rfl) rfl (lv_at hl 0 rfl) ?_
  refine lv_iload_n hx hb (dk hL_law_7 30 rfl) rfl (lv_at hl 3 rfl) ?_
  refine lv_iconst (v := (1 : Int32)) hx hb (dk hL_law_7 31 rfl) (by decide) ?_
  refine lv_iadd hx hb (dk hL_law_7 32 rfl) ?_
  refine va_sld hx hb hX hbl hbA hs.2.2.1 hr.2.1 (dk hL_law_7 33 rfl) ?_
  refine lv_aload_n hx hb (dk hL_law_7 34 rfl) rfl (lv_at hl 0 rfl) ?_
  refine lv_iload_n hx hb (dk hL_law_7 35 rfl) rfl (lv_at hl 3 rfl) ?_
  refine lv_iconst (v := (2 : Int32)) hx hb (dk hL_law_7 36 rfl) (by decide) ?_
  refine lv_iadd hx hb (dk hL_law_7 37 rfl) ?_
  refine va_sld hx hb hX hbl hbA hs.2.2.1 hr.2.2.1 (dk hL_law_7 38 rfl) ?_
  refine Ct.V (As := [.int (xs (x + (1 : Int32)).toNatClampNeg), .int (xs (x + (2 : Int32)).toNatClampNeg)]) (rest := [.int r]) (st1 := [.int r, .int r]) (w1 := (wL G a S1)) C hs h5 tw_1001 tw_1002 tw_1003 tw_85 tw_1004 nq_X5_then ⟨Nat.le_of_ble_eq_true rfl, Nat.le_of_ble_eq_true rfl⟩ 97 5 rfl rfl h97 rfl hl.1 rfl (Nat.le_of_ble_eq_true rfl) (dk hL_law_7 39 rfl) ⟨Nat.le_of_ble_eq_true rfl, Nat.le_of_ble_eq_true rfl⟩ rfl (fun H locs hs => ?_)
  refine lv_icmp_eq (tgt := 1388) hx hb (dk hL_law_8 0 rfl) (by decide) (fun hc => ?_) (fun hc => absurd rfl hc)
  exact kk S1 H locs hI1 hs
set_option maxRecDepth 100000 in
set_option maxHeartbeats 4000000 in
theorem lc_comes {p : Program} {l : Launch} {e : Jvm.Env} {s : State} {m : MethodId} {below : List Frame} {meth : Method} {c : Code} {H : Heap} {locs : List Loc} {Q : State → Prop} {G : Gx} {A : Nat → Prop} {a : Ax} {S : Lx} {b L : Nat} {xs : Nat → Int32} {x : Int32} {ls : Array Slot} (C : Cx p s m #[.ref b] meth c cL_law RL 4 (some .boolean) G) (hX : va_X b L xs s s.heap) (hbl : b < s.heap.size) (hbA : ¬ A b) (hr : vp_in x L ∧ vp_in (x + 1) L ∧ vp_in (x + 2) L ∧ vp_in (x + 3) L ∧ vp_in (x + 4) L) (hI : Inv S) (hs : St G A s.heap H locs (wL G a S)) (hl : lv_has ls 4 [(0, .ref b), (1, .ref (a.1 0)), (2, .ref (a.2.2.2.2.2.2.2.2.2 0)), (3, .int x)]) (kk : ∀ (S1 : Lx) (H : Heap) (locs : List Loc), Inv S1 → St G A s.heap H locs (wL G a S1) → W p l e room_1 s m #[.ref b] below meth c H locs 114 1879 Q (F0 m 1388 ls [])) : W p l e room_1 s m #[.ref b] below meth c H locs 114 1879 Q (F0 m 603 ls []) := by
  obtain ⟨hx, hb, hml, hown, hts, hK, hret, hlk⟩ := id C
  obtain ⟨r, w1, S1, h4, ⟨fs, h97⟩, h5, hI1⟩ := st_comes (lc := l) (G := G) (a := a) hI (xs (x + (1 : Int32)).toNatClampNeg)
  refine lv_aload_n hx hb (dk hL_law_8 3 rfl) rfl (lv_at hl 1 rfl) ?_
  refine lv_aload_n hx hb (dk hL_law_8 4 rfl) rfl (lv_at hl 0 rfl) ?_
  refine lv_iload_n hx hb (dk hL_law_8 5 rfl) rfl (lv_at hl 3 rfl) ?_
  refine lv_iconst (v := (1 : Int32)) hx hb (dk hL_law_8 6 rfl) (by decide) ?_
  refine lv_iadd hx hb (dk hL_law_8 7 rfl) ?_
  refine va_sld hx hb hX hbl hbA hs.2.2.1 hr.2.1 (dk hL_law_8 8 rfl) ?_
  refine Ct.V (As := [.int (xs (x + (1 : Int32)).toNatClampNeg)]) (rest := []) (st1 := [.int r]) (w1 := w1) C hs h4 tw_471 tw_472 tw_473 tw_79 tw_474 nq_X4_comes ⟨Nat.le_of_ble_eq_true rfl, Nat.le_of_ble_eq_true rfl⟩ 0 4 rfl rfl rfl rfl hl.1 rfl (Nat.le_of_ble_eq_true rfl) (dk hL_law_8 9 rfl) ⟨Nat.le_of_ble_eq_true rfl, Nat.le_of_ble_eq_true rfl⟩ rfl (fun H locs hs => ?_)
  refine lv_aload_n hx hb (dk hL_law_8 10 rfl) rfl (lv_at hl 2 rfl) ?_
  refine lv_aload_n hx hb (dk hL_law_8 11 rfl) rfl (lv_at hl 0 rfl) ?_
  refine lv_iload_n hx hb (dk hL_law_8 12 rfl) rfl (lv_at hl 3 rfl) ?_
  refine lv_iconst (v := (1 : Int32)) hx hb (dk hL_law_8 13 rfl) (by decide) ?_
  refine lv_iadd hx hb (dk hL_law_8 14 rfl) ?_
  refine va_sld hx hb hX hbl hbA hs.2.2.1 hr.2.1 (dk hL_law_8 15 rfl) ?_
  refine Ct.V (As := [.int (xs (x + (1 : Int32)).toNatClampNeg)]) (rest := [.int r]) (st1 := [.int r, .int r]) (w1 := (wL G a S1)) C hs h5 tw_1005 tw_1006 tw_1007 tw_85 tw_1008 nq_X5_comes ⟨Nat.le_of_ble_eq_true rfl, Nat.le_of_ble_eq_true rfl⟩ 97 5 rfl rfl h97 rfl hl.1 rfl (Nat.le_of_ble_eq_true rfl) (dk hL_law_8 16 rfl) ⟨Nat.le_of_ble_eq_true rfl, Nat.le_of_ble_eq_true rfl⟩ rfl (fun H locs hs => ?_)
  refine lv_icmp_eq (tgt := 1388) hx hb (dk hL_law_8 17 rfl) (by decide) (fun hc => ?_) (fun hc => absurd rfl hc)
  exact kk S1 H locs hI1 hs
set_option maxRecDepth 100000 in
set_option maxHeartbeats 4000000 in
theorem lc_shut {p : Program} {l : Launch} {e : Jvm.Env} {s : State} {m : MethodId} {below : List Frame} {meth : Method} {c : Code} {H : Heap} {locs : List Loc} {Q : State → Prop} {G : Gx} {A : Nat → Prop} {a : Ax} {S : Lx} {b L : Nat} {xs : Nat → Int32} {x : Int32} {ls : Array Slot} (C : Cx p s m #[.ref b] meth c cL_law RL 4 (some .boolean) G) (hX : va_X b L xs s s.heap) (hbl : b < s.heap.size) (hbA : ¬ A b) (hr : vp_in x L ∧ vp_in (x + 1) L ∧ vp_in (x + 2) L ∧ vp_in (x + 3) L ∧ vp_in (x + 4) L) (hI : Inv S) (hs : St G A s.heap H locs (wL G a S)) (hl : lv_has ls 4 [(0, .ref b), (1, .ref (a.1 0)), (2, .ref (a.2.2.2.2.2.2.2.2.2 0)), (3, .int x)]) (kk : ∀ (S1 : Lx) (H : Heap) (locs : List Loc), Inv S1 → St G A s.heap H locs (wL G a S1) → W p l e room_1 s m #[.ref b] below meth c H locs 114 1879 Q (F0 m 1388 ls [])) : W p l e room_1 s m #[.ref b] below meth c H locs 114 1879 Q (F0 m 626 ls []) := by
  obtain ⟨hx, hb, hml, hown, hts, hK, hret, hlk⟩ := id C
  obtain ⟨r, w1, S1, h4, ⟨fs, h97⟩, h5, hI1⟩ := st_shut (lc := l) (G := G) (a := a) hI 
  refine lv_aload_n hx hb (dk hL_law_8 20 rfl) rfl (lv_at hl 1 rfl) ?_
  refine Ct.V (As := []) (rest := []) (st1 := [.int r]) (w1 := w1) C hs h4 tw_484 tw_485 tw_486 tw_79 tw_487 nq_X4_shut ⟨Nat.le_of_ble_eq_true rfl, Nat.le_of_ble_eq_true rfl⟩ 0 4 rfl rfl rfl rfl hl.1 rfl (Nat.le_of_ble_eq_true rfl) (dk hL_law_8 21 rfl) ⟨Nat.le_of_ble_eq_true rfl, Nat.le_of_ble_eq_true rfl⟩ rfl (fun H locs hs => ?_)
  refine lv_aload_n hx hb (dk hL_law_8 22 rfl) rfl (lv_at hl 2 rfl) ?_
  refine Ct.V (As := []) (rest := [.int r]) (st1 := [.int r, .int r]) (w1 := (wL G a S1)) C hs h5 tw_1017 tw_1018 tw_1019 tw_85 tw_1020 nq_X5_shut ⟨Nat.le_of_ble_eq_true rfl, Nat.le_of_ble_eq_true rfl⟩ 97 5 rfl rfl h97 rfl hl.1 rfl (Nat.le_of_ble_eq_true rfl) (dk hL_law_8 23 rfl) ⟨Nat.le_of_ble_eq_true rfl, Nat.le_of_ble_eq_true rfl⟩ rfl (fun H locs hs => ?_)
  refine lv_icmp_eq (tgt := 1388) hx hb (dk hL_law_8 24 rfl) (by decide) (fun hc => ?_) (fun hc => absurd rfl hc)
  exact kk S1 H locs hI1 hs
set_option maxRecDepth 100000 in
set_option maxHeartbeats 4000000 in
theorem lc_byWhom {p : Program} {l : Launch} {e : Jvm.Env} {s : State} {m : MethodId} {below : List Frame} {meth : Method} {c : Code} {H : Heap} {locs : List Loc} {Q : State → Prop} {G : Gx} {A : Nat → Prop} {a : Ax} {S : Lx} {b L : Nat} {xs : Nat → Int32} {x : Int32} {ls : Array Slot} (C : Cx p s m #[.ref b] meth c cL_law RL 4 (some .boolean) G) (hX : va_X b L xs s s.heap) (hbl : b < s.heap.size) (hbA : ¬ A b) (hr : vp_in x L ∧ vp_in (x + 1) L ∧ vp_in (x + 2) L ∧ vp_in (x + 3) L ∧ vp_in (x + 4) L) (hI : Inv S) (hs : St G A s.heap H locs (wL G a S)) (hl : lv_has ls 4 [(0, .ref b), (1, .ref (a.1 0)), (2, .ref (a.2.2.2.2.2.2.2.2.2 0)), (3, .int x)]) (kk : ∀ (S1 : Lx) (H : Heap) (locs : List Loc), Inv S1 → St G A s.heap H locs (wL G a S1) → W p l e room_1 s m #[.ref b] below meth c H locs 114 1879 Q (F0 m 1388 ls [])) : W p l e room_1 s m #[.ref b] below meth c H locs 114 1879 Q (F0 m 639 ls []) := by
  obtain ⟨hx, hb, hml, hown, hts, hK, hret, hlk⟩ := id C
  obtain ⟨r, w1, S1, h4, ⟨fs, h97⟩, h5, hI1⟩ := st_byWhom (lc := l) (G := G) (a := a) hI (xs (x + (1 : Int32)).toNatClampNeg)
  refine lv_aload_n hx hb (dk hL_law_8 27 rfl) rfl (lv_at hl 1 rfl) ?_
  refine lv_aload_n hx hb (dk hL_law_8 28 rfl) rfl (lv_at hl 0 rfl) ?_
  refine lv_iload_n hx hb (dk hL_law_8 29 rfl) rfl (lv_at hl 3 rfl) ?_
  refine lv_iconst (v := (1 : Int32)) hx hb (dk hL_law_8 30 rfl) (by decide) ?_
  refine lv_iadd hx hb (dk hL_law_8 31 rfl) ?_
  refine va_sld hx hb hX hbl hbA hs.2.2.1 hr.2.1 (dk hL_law_8 32 rfl) ?_
  refine Ct.V (As := [.int (xs (x + (1 : Int32)).toNatClampNeg)]) (rest := []) (st1 := [.int r]) (w1 := w1) C hs h4 tw_496 tw_497 tw_498 tw_79 tw_499 nq_X4_byWhom ⟨Nat.le_of_ble_eq_true rfl, Nat.le_of_ble_eq_true rfl⟩ 0 4 rfl rfl rfl rfl hl.1 rfl (Nat.le_of_ble_eq_true rfl) (dk hL_law_8 33 rfl) ⟨Nat.le_of_ble_eq_true rfl, Nat.le_of_ble_eq_true rfl⟩ rfl (fun H locs hs => ?_)
  refine lv_aload_n hx hb (dk hL_law_8 34 rfl) rfl (lv_at hl 2 rfl) ?_
  refine lv_aload_n hx hb (dk hL_law_8 35 rfl) rfl (lv_at hl 0 rfl) ?_
  refine lv_iload_n hx hb (dk hL_law_8 36 rfl) rfl (lv_at hl 3 rfl) ?_
  refine lv_iconst (v := (1 : Int32)) hx hb (dk hL_law_8 37 rfl) (by decide) ?_
  refine lv_iadd hx hb (dk hL_law_8 38 rfl) ?_
  refine va_sld hx hb hX hbl hbA hs.2.2.1 hr.2.1 (dk hL_law_8 39 rfl) ?_
  refine Ct.V (As := [.int (xs (x + (1 : Int32)).toNatClampNeg)]) (rest := [.int r]) (st1 := [.int r, .int r]) (w1 := (wL G a S1)) C hs h5 tw_1029 tw_1030 tw_1031 tw_85 tw_1032 nq_X5_byWhom ⟨Nat.le_of_ble_eq_true rfl, Nat.le_of_ble_eq_true rfl⟩ 97 5 rfl rfl h97 rfl hl.1 rfl (Nat.le_of_ble_eq_true rfl) (dk hL_law_9 0 rfl) ⟨Nat.le_of_ble_eq_true rfl, Nat.le_of_ble_eq_true rfl⟩ rfl (fun H locs hs => ?_)
  refine lv_icmp_eq (tgt := 1388) hx hb (dk hL_law_9 1 rfl) (by decide) (fun hc => ?_) (fun hc => absurd rfl hc)
  exact kk S1 H locs hI1 hs
set_option maxRecDepth 100000 in
set_option maxHeartbeats 4000000 in
theorem lc_loaded {p : Program} {l : Launch} {e : Jvm.Env} {s : State} {m : MethodId} {below : List Frame} {meth : Method} {c : Code} {H : Heap} {locs : List Loc} {Q : State → Prop} {G : Gx} {A : Nat → Prop} {a : Ax} {S : Lx} {b L : Nat} {xs : Nat → Int32} {x : Int32} {ls : Array Slot} (C : Cx p s m #[.ref b] meth c cL_law RL 4 (some .boolean) G) (hX : va_X b L xs s s.heap) (hbl : b < s.heap.size) (hbA : ¬ A b) (hr : vp_in x L ∧ vp_in (x + 1) L ∧ vp_in (x + 2) L ∧ vp_in (x + 3) L ∧ vp_in (x + 4) L) (hI : Inv S) (hs : St G A s.heap H locs (wL G a S)) (hl : lv_has ls 4 [(0, .ref b), (1, .ref (a.1 0)), (2, .ref (a.2.2.2.2.2.2.2.2.2 0)), (3, .int x)]) (kk : ∀ (S1 : Lx) (H : Heap) (locs : List Loc), Inv S1 → St G A s.heap H locs (wL G a S1) → W p l e room_1 s m #[.ref b] below meth c H locs 114 1879 Q (F0 m 1388 ls [])) : W p l e room_1 s m #[.ref b] below meth c H locs 114 1879 Q (F0 m 662 ls []) := by
  obtain ⟨hx, hb, hml, hown, hts, hK, hret, hlk⟩ := id C
  obtain ⟨r, w1, S1, h4, ⟨fs, h97⟩, h5, hI1⟩ := st_loaded (lc := l) (G := G) (a := a) hI (xs (x + (1 : Int32)).toNatClampNeg) (xs (x + (2 : Int32)).toNatClampNeg)
  refine lv_aload_n hx hb (dk hL_law_9 4 rfl) rfl (lv_at hl 1 rfl) ?_
  refine lv_aload_n hx hb (dk hL_law_9 5 rfl) rfl (lv_at hl 0 rfl) ?_
  refine lv_iload_n hx hb (dk hL_law_9 6 rfl) rfl (lv_at hl 3 rfl) ?_
  refine lv_iconst (v := (1 : Int32)) hx hb (dk hL_law_9 7 rfl) (by decide) ?_
  refine lv_iadd hx hb (dk hL_law_9 8 rfl) ?_
  refine va_sld hx hb hX hbl hbA hs.2.2.1 hr.2.1 (dk hL_law_9 9 rfl) ?_
  refine lv_aload_n hx hb (dk hL_law_9 10 rfl) rfl (lv_at hl 0 rfl) ?_
  refine lv_iload_n hx hb (dk hL_law_9 11 rfl) rfl (lv_at hl 3 rfl) ?_
  refine lv_iconst (v := (2 : Int32)) hx hb (dk hL_law_9 12 rfl) (by decide) ?_
  refine lv_iadd hx hb (dk hL_law_9 13 rfl) ?_
  refine va_sld hx hb hX hbl hbA hs.2.2.1 hr.2.2.1 (dk hL_law_9 14 rfl) ?_
  refine Ct.V (As := [.int (xs (x + (1 : Int32)).toNatClampNeg), .int (xs (x + (2 : Int32)).toNatClampNeg)]) (rest := []) (st1 := [.int r]) (w1 := w1) C hs h4 tw_500 tw_501 tw_502 tw_79 tw_503 nq_X4_loaded ⟨Nat.le_of_ble_eq_true rfl, Nat.le_of_ble_eq_true rfl⟩ 0 4 rfl rfl rfl rfl hl.1 rfl (Nat.le_of_ble_eq_true rfl) (dk hL_law_9 15 rfl) ⟨Nat.le_of_ble_eq_true rfl, Nat.le_of_ble_eq_true rfl⟩ rfl (fun H locs hs => ?_)
  refine lv_aload_n hx hb (dk hL_law_9 16 rfl) rfl (lv_at hl 2 rfl) ?_
  refine lv_aload_n hx hb (dk hL_law_9 17 rfl) rfl (lv_at hl 0 rfl) ?_
  refine lv_iload_n hx hb (dk hL_law_9 18 rfl) rfl (lv_at hl 3 rfl) ?_
  refine lv_iconst (v := (1 : Int32)) hx hb (dk hL_law_9 19 rfl) (by decide) ?_
  refine lv_iadd hx hb (dk hL_law_9 20 rfl) ?_
  refine va_sld hx hb hX hbl hbA hs.2.2.1 hr.2.1 (dk hL_law_9 21 rfl) ?_
  refine lv_aload_n hx hb (dk hL_law_9 22 rfl) rfl (lv_at hl 0 rfl) ?_
  refine lv_iload_n hx hb (dk hL_law_9 23 rfl) rfl (lv_at hl 3 rfl) ?_
  refine lv_iconst (v := (2 : Int32)) hx hb (dk hL_law_9 24 rfl) (by decide) ?_
  refine lv_iadd hx hb (dk hL_law_9 25 rfl) ?_
  refine va_sld hx hb hX hbl hbA hs.2.2.1 hr.2.2.1 (dk hL_law_9 26 rfl) ?_
  refine Ct.V (As := [.int (xs (x + (1 : Int32)).toNatClampNeg), .int (xs (x + (2 : Int32)).toNatClampNeg)]) (rest := [.int r]) (st1 := [.int r, .int r]) (w1 := (wL G a S1)) C hs h5 tw_1033 tw_1034 tw_1035 tw_85 tw_1036 nq_X5_loaded ⟨Nat.le_of_ble_eq_true rfl, Nat.le_of_ble_eq_true rfl⟩ 97 5 rfl rfl h97 rfl hl.1 rfl (Nat.le_of_ble_eq_true rfl) (dk hL_law_9 27 rfl) ⟨Nat.le_of_ble_eq_true rfl, Nat.le_of_ble_eq_true rfl⟩ rfl (fun H locs hs => ?_)
  refine lv_icmp_eq (tgt := 1388) hx hb (dk hL_law_9 28 rfl) (by decide) (fun hc => ?_) (fun hc => absurd rfl hc)
  exact kk S1 H locs hI1 hs
set_option maxRecDepth 100000 in
set_option maxHeartbeats 4000000 in
theorem lc_hide {p : Program} {l : Launch} {e : Jvm.Env} {s : State} {m : MethodId} {below : List Frame} {meth : Method} {c : Code} {H : Heap} {locs : List Loc} {Q : State → Prop} {G : Gx} {A : Nat → Prop} {a : Ax} {S : Lx} {b L : Nat} {xs : Nat → Int32} {x : Int32} {ls : Array Slot} (C : Cx p s m #[.ref b] meth c cL_law RL 4 (some .boolean) G) (hX : va_X b L xs s s.heap) (hbl : b < s.heap.size) (hbA : ¬ A b) (hr : vp_in x L ∧ vp_in (x + 1) L ∧ vp_in (x + 2) L ∧ vp_in (x + 3) L ∧ vp_in (x + 4) L) (hI : Inv S) (hs : St G A s.heap H locs (wL G a S)) (hl : lv_has ls 4 [(0, .ref b), (1, .ref (a.1 0)), (2, .ref (a.2.2.2.2.2.2.2.2.2 0)), (3, .int x)]) (kk : ∀ (S1 : Lx) (H : Heap) (locs : List Loc), Inv S1 → St G A s.heap H locs (wL G a S1) → W p l e room_1 s m #[.ref b] below meth c H locs 114 1879 Q (F0 m 1388 ls [])) : W p l e room_1 s m #[.ref b] below meth c H locs 114 1879 Q (F0 m 695 ls []) := by
  obtain ⟨hx, hb, hml, hown, hts, hK, hret, hlk⟩ := id C
  obtain ⟨r, w1, S1, h4, ⟨fs, h97⟩, h5, hI1⟩ := st_hide (lc := l) (G := G) (a := a) hI (xs (x + (1 : Int32)).toNatClampNeg) (xs (x + (2 : Int32)).toNatClampNeg) (xs (x + (3 : Int32)).toNatClampNeg)
  refine lv_aload_n hx hb (dk hL_law_9 31 rfl) rfl (lv_at hl 1 rfl) ?_
  refine lv_aload_n hx hb (dk hL_law_9 32 rfl) rfl (lv_at hl 0 rfl) ?_
  refine lv_iload_n hx hb (dk hL_law_9 33 rfl) rfl (lv_at hl 3 rfl) ?_
  refine lv_iconst (v := (1 : Int32)) hx hb (dk hL_law_9 34 rfl) (by decide) ?_
  refine lv_iadd hx hb (dk hL_law_9 35 rfl) ?_
  refine va_sld hx hb hX hbl hbA hs.2.2.1 hr.2.1 (dk hL_law_9 36 rfl) ?_
  refine lv_aload_n hx hb (dk hL_law_9 37 rfl) rfl (lv_at hl 0 rfl) ?_
  refine lv_iload_n hx hb (dk hL_law_9 38 rfl) rfl (lv_at hl 3 rfl) ?_
  refine lv_iconst (v := (2 : Int32)) hx hb (dk hL_law_9 39 rfl) (by decide) ?_
  refine lv_iadd hx hb (dk hL_law_10 0 rfl) ?_
  refine va_sld hx hb hX hbl hbA hs.2.2.1 hr.2.2.1 (dk hL_law_10 1 rfl) ?_
  refine lv_aload_n hx hb (dk hL_law_10 2 rfl) rfl (lv_at hl 0 rfl) ?_
  refine lv_iload_n hx hb (dk hL_law_10 3 rfl) rfl (lv_at hl 3 rfl) ?_
  refine lv_iconst (v := (3 : Int32)) hx hb (dk hL_law_10 4 rfl) (by decide) ?_
  refine lv_iadd hx hb (dk hL_law_10 5 rfl) ?_
  refine va_sld hx hb hX hbl hbA hs.2.2.1 hr.2.2.2.1 (dk hL_law_10 6 rfl) ?_
  refine Ct.V (As := [.int (xs (x + (1 : Int32)).toNatClampNeg), .int (xs (x + (2 : Int32)).toNatClampNeg), .int (xs (x + (3 : Int32)).toNatClampNeg)]) (rest := []) (st1 := [.int r]) (w1 := w1) C hs h4 tw_504 tw_505 tw_506 tw_79 tw_507 nq_X4_hide ⟨Nat.le_of_ble_eq_true rfl, Nat.le_of_ble_eq_true rfl⟩ 0 4 rfl rfl rfl rfl hl.1 rfl (Nat.le_of_ble_eq_true rfl) (dk hL_law_10 7 rfl) ⟨Nat.le_of_ble_eq_true rfl, Nat.le_of_ble_eq_true rfl⟩ rfl (fun H locs hs => ?_)
  refine lv_aload_n hx hb (dk hL_law_10 8 rfl) rfl (lv_at hl 2 rfl) ?_
  refine lv_aload_n hx hb (dk hL_law_10 9 rfl) rfl (lv_at hl 0 rfl) ?_
  refine lv_iload_n hx hb (dk hL_law_10 10 rfl) rfl (lv_at hl 3 rfl) ?_
  refine lv_iconst (v := (1 : Int32)) hx hb (dk hL_law_10 11 rfl) (by decide) ?_
  refine lv_iadd hx hb (dk hL_law_10 12 rfl) ?_
  refine va_sld hx hb hX hbl hbA hs.2.2.1 hr.2.1 (dk hL_law_10 13 rfl) ?_
  refine lv_aload_n hx hb (dk hL_law_10 14 rfl) rfl (lv_at hl 0 rfl) ?_
  refine lv_iload_n hx hb (dk hL_law_10 15 rfl) rfl (lv_at hl 3 rfl) ?_
  refine lv_iconst (v := (2 : Int32)) hx hb (dk hL_law_10 16 rfl) (by decide) ?_
  refine lv_iadd hx hb (dk hL_law_10 17 rfl) ?_
  refine va_sld hx hb hX hbl hbA hs.2.2.1 hr.2.2.1 (dk hL_law_10 18 rfl) ?_
  refine lv_aload_n hx hb (dk hL_law_10 19 rfl) rfl (lv_at hl 0 rfl) ?_
  refine lv_iload_n hx hb (dk hL_law_10 20 rfl) rfl (lv_at hl 3 rfl) ?_
  refine lv_iconst (v := (3 : Int32)) hx hb (dk hL_law_10 21 rfl) (by decide) ?_
  refine lv_iadd hx hb (dk hL_law_10 22 rfl) ?_
  refine va_sld hx hb hX hbl hbA hs.2.2.1 hr.2.2.2.1 (dk hL_law_10 23 rfl) ?_
  refine Ct.V (As := [.int (xs (x + (1 : Int32)).toNatClampNeg), .int (xs (x + (2 : Int32)).toNatClampNeg), .int (xs (x + (3 : Int32)).toNatClampNeg)]) (rest := [.int r]) (st1 := [.int r, .int r]) (w1 := (wL G a S1)) C hs h5 tw_1041 tw_1042 tw_1043 tw_85 tw_1044 nq_X5_hide ⟨Nat.le_of_ble_eq_true rfl, Nat.le_of_ble_eq_true rfl⟩ 97 5 rfl rfl h97 rfl hl.1 rfl (Nat.le_of_ble_eq_true rfl) (dk hL_law_10 24 rfl) ⟨Nat.le_of_ble_eq_true rfl, Nat.le_of_ble_eq_true rfl⟩ rfl (fun H locs hs => ?_)
  refine lv_icmp_eq (tgt := 1388) hx hb (dk hL_law_10 25 rfl) (by decide) (fun hc => ?_) (fun hc => absurd rfl hc)
  exact kk S1 H locs hI1 hs
set_option maxRecDepth 100000 in
set_option maxHeartbeats 4000000 in
theorem lc_fewest {p : Program} {l : Launch} {e : Jvm.Env} {s : State} {m : MethodId} {below : List Frame} {meth : Method} {c : Code} {H : Heap} {locs : List Loc} {Q : State → Prop} {G : Gx} {A : Nat → Prop} {a : Ax} {S : Lx} {b L : Nat} {xs : Nat → Int32} {x : Int32} {ls : Array Slot} (C : Cx p s m #[.ref b] meth c cL_law RL 4 (some .boolean) G) (hX : va_X b L xs s s.heap) (hbl : b < s.heap.size) (hbA : ¬ A b) (hr : vp_in x L ∧ vp_in (x + 1) L ∧ vp_in (x + 2) L ∧ vp_in (x + 3) L ∧ vp_in (x + 4) L) (hI : Inv S) (hs : St G A s.heap H locs (wL G a S)) (hl : lv_has ls 4 [(0, .ref b), (1, .ref (a.1 0)), (2, .ref (a.2.2.2.2.2.2.2.2.2 0)), (3, .int x)]) (kk : ∀ (S1 : Lx) (H : Heap) (locs : List Loc), Inv S1 → St G A s.heap H locs (wL G a S1) → W p l e room_1 s m #[.ref b] below meth c H locs 114 1879 Q (F0 m 1388 ls [])) : W p l e room_1 s m #[.ref b] below meth c H locs 114 1879 Q (F0 m 738 ls []) := by
  obtain ⟨hx, hb, hml, hown, hts, hK, hret, hlk⟩ := id C
  obtain ⟨r, w1, S1, h4, ⟨fs, h97⟩, h5, hI1⟩ := st_fewest (lc := l) (G := G) (a := a) hI (xs (x + (1 : Int32)).toNatClampNeg) (xs (x + (2 : Int32)).toNatClampNeg)
  refine lv_aload_n hx hb (dk hL_law_10 28 rfl) rfl (lv_at hl 1 rfl) ?_
  refine lv_aload_n hx hb (dk hL_law_10 29 rfl) rfl (lv_at hl 0 rfl) ?_
  refine lv_iload_n hx hb (dk hL_law_10 30 rfl) rfl (lv_at hl 3 rfl) ?_
  refine lv_iconst (v := (1 : Int32)) hx hb (dk hL_law_10 31 rfl) (by decide) ?_
  refine lv_iadd hx hb (dk hL_law_10 32 rfl) ?_
  refine va_sld hx hb hX hbl hbA hs.2.2.1 hr.2.1 (dk hL_law_10 33 rfl) ?_
  refine lv_aload_n hx hb (dk hL_law_10 34 rfl) rfl (lv_at hl 0 rfl) ?_
  refine lv_iload_n hx hb (dk hL_law_10 35 rfl) rfl (lv_at hl 3 rfl) ?_
  refine lv_iconst (v := (2 : Int32)) hx hb (dk hL_law_10 36 rfl) (by decide) ?_
  refine lv_iadd hx hb (dk hL_law_10 37 rfl) ?_
  refine va_sld hx hb hX hbl hbA hs.2.2.1 hr.2.2.1 (dk hL_law_10 38 rfl) ?_
  refine Ct.V (As := [.int (xs (x + (1 : Int32)).toNatClampNeg), .int (xs (x + (2 : Int32)).toNatClampNeg)]) (rest := []) (st1 := [.int r]) (w1 := w1) C hs h4 tw_508 tw_509 tw_510 tw_79 tw_511 nq_X4_fewest ⟨Nat.le_of_ble_eq_true rfl, Nat.le_of_ble_eq_true rfl⟩ 0 4 rfl rfl rfl rfl hl.1 rfl (Nat.le_of_ble_eq_true rfl) (dk hL_law_10 39 rfl) ⟨Nat.le_of_ble_eq_true rfl, Nat.le_of_ble_eq_true rfl⟩ rfl (fun H locs hs => ?_)
  refine lv_aload_n hx hb (dk hL_law_11 0 rfl) rfl (lv_at hl 2 rfl) ?_
  refine lv_aload_n hx hb (dk hL_law_11 1 rfl) rfl (lv_at hl 0 rfl) ?_
  refine lv_iload_n hx hb (dk hL_law_11 2 rfl) rfl (lv_at hl 3 rfl) ?_
  refine lv_iconst (v := (1 : Int32)) hx hb (dk hL_law_11 3 rfl) (by decide) ?_
  refine lv_iadd hx hb (dk hL_law_11 4 rfl) ?_
  refine va_sld hx hb hX hbl hbA hs.2.2.1 hr.2.1 (dk hL_law_11 5 rfl) ?_
  refine lv_aload_n hx hb (dk hL_law_11 6 rfl) rfl (lv_at hl 0 rfl) ?_
  refine lv_iload_n hx hb (dk hL_law_11 7 rfl) rfl (lv_at hl 3 rfl) ?_
  refine lv_iconst (v := (2 : Int32)) hx hb (dk hL_law_11 8 rfl) (by decide) ?_
  refine lv_iadd hx hb (dk hL_law_11 9 rfl) ?_
  refine va_sld hx hb hX hbl hbA hs.2.2.1 hr.2.2.1 (dk hL_law_11 10 rfl) ?_
  refine Ct.V (As := [.int (xs (x + (1 : Int32)).toNatClampNeg), .int (xs (x + (2 : Int32)).toNatClampNeg)]) (rest := [.int r]) (st1 := [.int r, .int r]) (w1 := (wL G a S1)) C hs h5 tw_1049 tw_1050 tw_1051 tw_85 tw_1052 nq_X5_fewest ⟨Nat.le_of_ble_eq_true rfl, Nat.le_of_ble_eq_true rfl⟩ 97 5 rfl rfl h97 rfl hl.1 rfl (Nat.le_of_ble_eq_true rfl) (dk hL_law_11 11 rfl) ⟨Nat.le_of_ble_eq_true rfl, Nat.le_of_ble_eq_true rfl⟩ rfl (fun H locs hs => ?_)
  refine lv_icmp_eq (tgt := 1388) hx hb (dk hL_law_11 12 rfl) (by decide) (fun hc => ?_) (fun hc => absurd rfl hc)
  exact kk S1 H locs hI1 hs
set_option maxRecDepth 100000 in
set_option maxHeartbeats 4000000 in
theorem lc_forWhat {p : Program} {l : Launch} {e : Jvm.Env} {s : State} {m : MethodId} {below : List Frame} {meth : Method} {c : Code} {H : Heap} {locs : List Loc} {Q : State → Prop} {G : Gx} {A : Nat → Prop} {a : Ax} {S : Lx} {b L : Nat} {xs : Nat → Int32} {x : Int32} {ls : Array Slot} (C : Cx p s m #[.ref b] meth c cL_law RL 4 (some .boolean) G) (hX : va_X b L xs s s.heap) (hbl : b < s.heap.size) (hbA : ¬ A b) (hr : vp_in x L ∧ vp_in (x + 1) L ∧ vp_in (x + 2) L ∧ vp_in (x + 3) L ∧ vp_in (x + 4) L) (hI : Inv S) (hs : St G A s.heap H locs (wL G a S)) (hl : lv_has ls 4 [(0, .ref b), (1, .ref (a.1 0)), (2, .ref (a.2.2.2.2.2.2.2.2.2 0)), (3, .int x)]) (kk : ∀ (S1 : Lx) (H : Heap) (locs : List Loc), Inv S1 → St G A s.heap H locs (wL G a S1) → W p l e room_1 s m #[.ref b] below meth c H locs 114 1879 Q (F0 m 1388 ls [])) : W p l e room_1 s m #[.ref b] below meth c H locs 114 1879 Q (F0 m 771 ls []) := by
  obtain ⟨hx, hb, hml, hown, hts, hK, hret, hlk⟩ := id C
  obtain ⟨r, w1, S1, h4, ⟨fs, h97⟩, h5, hI1⟩ := st_forWhat (lc := l) (G := G) (a := a) hI (xs (x + (1 : Int32)).toNatClampNeg)
  refine lv_aload_n hx hb (dk hL_law_11 15 rfl) rfl (lv_at hl 1 rfl) ?_
  refine lv_aload_n hx hb (dk hL_law_11 16 rfl) rfl (lv_at hl 0 rfl) ?_
  refine lv_iload_n hx hb (dk hL_law_11 17 rfl) rfl (lv_at hl 3 rfl) ?_
  refine lv_iconst (v := (1 : Int32)) hx hb (dk hL_law_11 18 rfl) (by decide) ?_
  refine lv_iadd hx hb (dk hL_law_11 19 rfl) ?_
  refine va_sld hx hb hX hbl hbA hs.2.2.1 hr.2.1 (dk hL_law_11 20 rfl) ?_
  refine Ct.V (As := [.int (xs (x + (1 : Int32)).toNatClampNeg)]) (rest := []) (st1 := [.int r]) (w1 := w1) C hs h4 tw_516 tw_517 tw_518 tw_79 tw_519 nq_X4_forWhat ⟨Nat.le_of_ble_eq_true rfl, Nat.le_of_ble_eq_true rfl⟩ 0 4 rfl rfl rfl rfl hl.1 rfl (Nat.le_of_ble_eq_true rfl) (dk hL_law_11 21 rfl) ⟨Nat.le_of_ble_eq_true rfl, Nat.le_of_ble_eq_true rfl⟩ rfl (fun H locs hs => ?_)
  refine lv_aload_n hx hb (dk hL_law_11 22 rfl) rfl (lv_at hl 2 rfl) ?_
  refine lv_aload_n hx hb (dk hL_law_11 23 rfl) rfl (lv_at hl 0 rfl) ?_
  refine lv_iload_n hx hb (dk hL_law_11 24 rfl) rfl (lv_at hl 3 rfl) ?_
  refine lv_iconst (v := (1 : Int32)) hx hb (dk hL_law_11 25 rfl) (by decide) ?_
  refine lv_iadd hx hb (dk hL_law_11 26 rfl) ?_
  refine va_sld hx hb hX hbl hbA hs.2.2.1 hr.2.1 (dk hL_law_11 27 rfl) ?_
  refine Ct.V (As := [.int (xs (x + (1 : Int32)).toNatClampNeg)]) (rest := [.int r]) (st1 := [.int r, .int r]) (w1 := (wL G a S1)) C hs h5 tw_1065 tw_1066 tw_1067 tw_85 tw_1068 nq_X5_forWhat ⟨Nat.le_of_ble_eq_true rfl, Nat.le_of_ble_eq_true rfl⟩ 97 5 rfl rfl h97 rfl hl.1 rfl (Nat.le_of_ble_eq_true rfl) (dk hL_law_11 28 rfl) ⟨Nat.le_of_ble_eq_true rfl, Nat.le_of_ble_eq_true rfl⟩ rfl (fun H locs hs => ?_)
  refine lv_icmp_eq (tgt := 1388) hx hb (dk hL_law_11 29 rfl) (by decide) (fun hc => ?_) (fun hc => absurd rfl hc)
  exact kk S1 H locs hI1 hs
set_option maxRecDepth 100000 in
set_option maxHeartbeats 4000000 in
theorem lc_want {p : Program} {l : Launch} {e : Jvm.Env} {s : State} {m : MethodId} {below : List Frame} {meth : Method} {c : Code} {H : Heap} {locs : List Loc} {Q : State → Prop} {G : Gx} {A : Nat → Prop} {a : Ax} {S : Lx} {b L : Nat} {xs : Nat → Int32} {x : Int32} {ls : Array Slot} (C : Cx p s m #[.ref b] meth c cL_law RL 4 (some .boolean) G) (hX : va_X b L xs s s.heap) (hbl : b < s.heap.size) (hbA : ¬ A b) (hr : vp_in x L ∧ vp_in (x + 1) L ∧ vp_in (x + 2) L ∧ vp_in (x + 3) L ∧ vp_in (x + 4) L) (hI : Inv S) (hs : St G A s.heap H locs (wL G a S)) (hl : lv_has ls 4 [(0, .ref b), (1, .ref (a.1 0)), (2, .ref (a.2.2.2.2.2.2.2.2.2 0)), (3, .int x)]) (kk : ∀ (S1 : Lx) (H : Heap) (locs : List Loc), Inv S1 → St G A s.heap H locs (wL G a S1) → W p l e room_1 s m #[.ref b] below meth c H locs 114 1879 Q (F0 m 1388 ls [])) : W p l e room_1 s m #[.ref b] below meth c H locs 114 1879 Q (F0 m 794 ls []) := by
  obtain ⟨hx, hb, hml, hown, hts, hK, hret, hlk⟩ := id C
  obtain ⟨r, w1, S1, h4, ⟨fs, h97⟩, h5, hI1⟩ := st_want (lc := l) (G := G) (a := a) hI (xs (x + (1 : Int32)).toNatClampNeg)
  refine lv_aload_n hx hb (dk hL_law_11 32 rfl) rfl (lv_at hl 1 rfl) ?_
  refine lv_aload_n hx hb (dk hL_law_11 33 rfl) rfl (lv_at hl 0 rfl) ?_
  refine lv_iload_n hx hb (dk hL_law_11 34 rfl) rfl (lv_at hl 3 rfl) ?_
  refine lv_iconst (v := (1 : Int32)) hx hb (dk hL_law_11 35 rfl) (by decide) ?_
  refine lv_iadd hx hb (dk hL_law_11 36 rfl) ?_
  refine va_sld hx hb hX hbl hbA hs.2.2.1 hr.2.1 (dk hL_law_11 37 rfl) ?_
  refine Ct.V (As := [.int (xs (x + (1 : Int32)).toNatClampNeg)]) (rest := []) (st1 := [.int r]) (w1 := w1) C hs h4 tw_524 tw_525 tw_526 tw_79 tw_527 nq_X4_want ⟨Nat.le_of_ble_eq_true rfl, Nat.le_of_ble_eq_true rfl⟩ 0 4 rfl rfl rfl rfl hl.1 rfl (Nat.le_of_ble_eq_true rfl) (dk hL_law_11 38 rfl) ⟨Nat.le_of_ble_eq_true rfl, Nat.le_of_ble_eq_true rfl⟩ rfl (fun H locs hs => ?_)
  refine lv_aload_n hx hb (dk hL_law_11 39 rfl) rfl (lv_at hl 2 rfl) ?_
  refine lv_aload_n hx hb (dk hL_law_12 0 rfl) rfl (lv_at hl 0 rfl) ?_
  refine lv_iload_n hx hb (dk hL_law_12 1 rfl) rfl (lv_at hl 3 rfl) ?_
  refine lv_iconst (v := (1 : Int32)) hx hb (dk hL_law_12 2 rfl) (by decide) ?_
  refine lv_iadd hx hb (dk hL_law_12 3 rfl) ?_
  refine va_sld hx hb hX hbl hbA hs.2.2.1 hr.2.1 (dk hL_law_12 4 rfl) ?_
  refine Ct.V (As := [.int (xs (x + (1 : Int32)).toNatClampNeg)]) (rest := [.int r]) (st1 := [.int r, .int r]) (w1 := (wL G a S1)) C hs h5 tw_1073 tw_1074 tw_1075 tw_85 tw_1076 nq_X5_want ⟨Nat.le_of_ble_eq_true rfl, Nat.le_of_ble_eq_true rfl⟩ 97 5 rfl rfl h97 rfl hl.1 rfl (Nat.le_of_ble_eq_true rfl) (dk hL_law_12 5 rfl) ⟨Nat.le_of_ble_eq_true rfl, Nat.le_of_ble_eq_true rfl⟩ rfl (fun H locs hs => ?_)
  refine lv_icmp_eq (tgt := 1388) hx hb (dk hL_law_12 6 rfl) (by decide) (fun hc => ?_) (fun hc => absurd rfl hc)
  exact kk S1 H locs hI1 hs
set_option maxRecDepth 100000 in
set_option maxHeartbeats 4000000 in
theorem lc_bare {p : Program} {l : Launch} {e : Jvm.Env} {s : State} {m : MethodId} {below : List Frame} {meth : Method} {c : Code} {H : Heap} {locs : List Loc} {Q : State → Prop} {G : Gx} {A : Nat → Prop} {a : Ax} {S : Lx} {b L : Nat} {xs : Nat → Int32} {x : Int32} {ls : Array Slot} (C : Cx p s m #[.ref b] meth c cL_law RL 4 (some .boolean) G) (hX : va_X b L xs s s.heap) (hbl : b < s.heap.size) (hbA : ¬ A b) (hr : vp_in x L ∧ vp_in (x + 1) L ∧ vp_in (x + 2) L ∧ vp_in (x + 3) L ∧ vp_in (x + 4) L) (hI : Inv S) (hs : St G A s.heap H locs (wL G a S)) (hl : lv_has ls 4 [(0, .ref b), (1, .ref (a.1 0)), (2, .ref (a.2.2.2.2.2.2.2.2.2 0)), (3, .int x)]) (kk : ∀ (S1 : Lx) (H : Heap) (locs : List Loc), Inv S1 → St G A s.heap H locs (wL G a S1) → W p l e room_1 s m #[.ref b] below meth c H locs 114 1879 Q (F0 m 1388 ls [])) : W p l e room_1 s m #[.ref b] below meth c H locs 114 1879 Q (F0 m 817 ls []) := by
  obtain ⟨hx, hb, hml, hown, hts, hK, hret, hlk⟩ := id C
  obtain ⟨r, w1, S1, h4, ⟨fs, h97⟩, h5, hI1⟩ := st_bare (lc := l) (G := G) (a := a) hI (xs (x + (1 : Int32)).toNatClampNeg)
  refine lv_aload_n hx hb (dk hL_law_12 9 rfl) rfl (lv_at hl 1 rfl) ?_
  refine lv_aload_n hx hb (dk hL_law_12 10 rfl) rfl (lv_at hl 0 rfl) ?_
  refine lv_iload_n hx hb (dk hL_law_12 11 rfl) rfl (lv_at hl 3 rfl) ?_
  refine lv_iconst (v := (1 : Int32)) hx hb (dk hL_law_12 12 rfl) (by decide) ?_
  refine lv_iadd hx hb (dk hL_law_12 13 rfl) ?_
  refine va_sld hx hb hX hbl hbA hs.2.2.1 hr.2.1 (dk hL_law_12 14 rfl) ?_
  refine Ct.V (As := [.int (xs (x + (1 : Int32)).toNatClampNeg)]) (rest := []) (st1 := [.int r]) (w1 := w1) C hs h4 tw_536 tw_537 tw_538 tw_79 tw_539 nq_X4_bare ⟨Nat.le_of_ble_eq_true rfl, Nat.le_of_ble_eq_true rfl⟩ 0 4 rfl rfl rfl rfl hl.1 rfl (Nat.le_of_ble_eq_true rfl) (dk hL_law_12 15 rfl) ⟨Nat.le_of_ble_eq_true rfl, Nat.le_of_ble_eq_true rfl⟩ rfl (fun H locs hs => ?_)
  refine lv_aload_n hx hb (dk hL_law_12 16 rfl) rfl (lv_at hl 2 rfl) ?_
  refine lv_aload_n hx hb (dk hL_law_12 17 rfl) rfl (lv_at hl 0 rfl) ?_
  refine lv_iload_n hx hb (dk hL_law_12 18 rfl) rfl (lv_at hl 3 rfl) ?_
  refine lv_iconst (v := (1 : Int32)) hx hb (dk hL_law_12 19 rfl) (by decide) ?_
  refine lv_iadd hx hb (dk hL_law_12 20 rfl) ?_
  refine va_sld hx hb hX hbl hbA hs.2.2.1 hr.2.1 (dk hL_law_12 21 rfl) ?_
  refine Ct.V (As := [.int (xs (x + (1 : Int32)).toNatClampNeg)]) (rest := [.int r]) (st1 := [.int r, .int r]) (w1 := (wL G a S1)) C hs h5 tw_1085 tw_1086 tw_1087 tw_85 tw_1088 nq_X5_bare ⟨Nat.le_of_ble_eq_true rfl, Nat.le_of_ble_eq_true rfl⟩ 97 5 rfl rfl h97 rfl hl.1 rfl (Nat.le_of_ble_eq_true rfl) (dk hL_law_12 22 rfl) ⟨Nat.le_of_ble_eq_true rfl, Nat.le_of_ble_eq_true rfl⟩ rfl (fun H locs hs => ?_)
  refine lv_icmp_eq (tgt := 1388) hx hb (dk hL_law_12 23 rfl) (by decide) (fun hc => ?_) (fun hc => absurd rfl hc)
  exact kk S1 H locs hI1 hs
set_option maxRecDepth 100000 in
set_option maxHeartbeats 4000000 in
theorem lc_lasts {p : Program} {l : Launch} {e : Jvm.Env} {s : State} {m : MethodId} {below : List Frame} {meth : Method} {c : Code} {H : Heap} {locs : List Loc} {Q : State → Prop} {G : Gx} {A : Nat → Prop} {a : Ax} {S : Lx} {b L : Nat} {xs : Nat → Int32} {x : Int32} {ls : Array Slot} (C : Cx p s m #[.ref b] meth c cL_law RL 4 (some .boolean) G) (hX : va_X b L xs s s.heap) (hbl : b < s.heap.size) (hbA : ¬ A b) (hr : vp_in x L ∧ vp_in (x + 1) L ∧ vp_in (x + 2) L ∧ vp_in (x + 3) L ∧ vp_in (x + 4) L) (hI : Inv S) (hs : St G A s.heap H locs (wL G a S)) (hl : lv_has ls 4 [(0, .ref b), (1, .ref (a.1 0)), (2, .ref (a.2.2.2.2.2.2.2.2.2 0)), (3, .int x)]) (kk : ∀ (S1 : Lx) (H : Heap) (locs : List Loc), Inv S1 → St G A s.heap H locs (wL G a S1) → W p l e room_1 s m #[.ref b] below meth c H locs 114 1879 Q (F0 m 1388 ls [])) : W p l e room_1 s m #[.ref b] below meth c H locs 114 1879 Q (F0 m 840 ls []) := by
  obtain ⟨hx, hb, hml, hown, hts, hK, hret, hlk⟩ := id C
  obtain ⟨r, w1, S1, h4, ⟨fs, h97⟩, h5, hI1⟩ := st_lasts (lc := l) (G := G) (a := a) hI (xs (x + (1 : Int32)).toNatClampNeg)
  refine lv_aload_n hx hb (dk hL_law_12 26 rfl) rfl (lv_at hl 1 rfl) ?_
  refine lv_aload_n hx hb (dk hL_law_12 27 rfl) rfl (lv_at hl 0 rfl) ?_
  refine lv_iload_n hx hb (dk hL_law_12 28 rfl) rfl (lv_at hl 3 rfl) ?_
  refine lv_iconst (v := (1 : Int32)) hx hb (dk hL_law_12 29 rfl) (by decide) ?_
  refine lv_iadd hx hb (dk hL_law_12 30 rfl) ?_
  refine va_sld hx hb hX hbl hbA hs.2.2.1 hr.2.1 (dk hL_law_12 31 rfl) ?_
  refine Ct.V (As := [.int (xs (x + (1 : Int32)).toNatClampNeg)]) (rest := []) (st1 := [.int r]) (w1 := w1) C hs h4 tw_544 tw_545 tw_546 tw_79 tw_547 nq_X4_lasts ⟨Nat.le_of_ble_eq_true rfl, Nat.le_of_ble_eq_true rfl⟩ 0 4 rfl rfl rfl rfl hl.1 rfl (Nat.le_of_ble_eq_true rfl) (dk hL_law_12 32 rfl) ⟨Nat.le_of_ble_eq_true rfl, Nat.le_of_ble_eq_true rfl⟩ rfl (fun H locs hs => ?_)
  refine lv_aload_n hx hb (dk hL_law_12 33 rfl) rfl (lv_at hl 2 rfl) ?_
  refine lv_aload_n hx hb (dk hL_law_12 34 rfl) rfl (lv_at hl 0 rfl) ?_
  refine lv_iload_n hx hb (dk hL_law_12 35 rfl) rfl (lv_at hl 3 rfl) ?_
  refine lv_iconst (v := (1 : Int32)) hx hb (dk hL_law_12 36 rfl) (by decide) ?_
  refine lv_iadd hx hb (dk hL_law_12 37 rfl) ?_
  refine va_sld hx hb hX hbl hbA hs.2.2.1 hr.2.1 (dk hL_law_12 38 rfl) ?_
  refine Ct.V (As := [.int (xs (x + (1 : Int32)).toNatClampNeg)]) (rest := [.int r]) (st1 := [.int r, .int r]) (w1 := (wL G a S1)) C hs h5 tw_1093 tw_1094 tw_1095 tw_85 tw_1096 nq_X5_lasts ⟨Nat.le_of_ble_eq_true rfl, Nat.le_of_ble_eq_true rfl⟩ 97 5 rfl rfl h97 rfl hl.1 rfl (Nat.le_of_ble_eq_true rfl) (dk hL_law_12 39 rfl) ⟨Nat.le_of_ble_eq_true rfl, Nat.le_of_ble_eq_true rfl⟩ rfl (fun H locs hs => ?_)
  refine lv_icmp_eq (tgt := 1388) hx hb (dk hL_law_13 0 rfl) (by decide) (fun hc => ?_) (fun hc => absurd rfl hc)
  exact kk S1 H locs hI1 hs
set_option maxRecDepth 100000 in
set_option maxHeartbeats 4000000 in
theorem lc_best {p : Program} {l : Launch} {e : Jvm.Env} {s : State} {m : MethodId} {below : List Frame} {meth : Method} {c : Code} {H : Heap} {locs : List Loc} {Q : State → Prop} {G : Gx} {A : Nat → Prop} {a : Ax} {S : Lx} {b L : Nat} {xs : Nat → Int32} {x : Int32} {ls : Array Slot} (C : Cx p s m #[.ref b] meth c cL_law RL 4 (some .boolean) G) (hX : va_X b L xs s s.heap) (hbl : b < s.heap.size) (hbA : ¬ A b) (hr : vp_in x L ∧ vp_in (x + 1) L ∧ vp_in (x + 2) L ∧ vp_in (x + 3) L ∧ vp_in (x + 4) L) (hI : Inv S) (hs : St G A s.heap H locs (wL G a S)) (hl : lv_has ls 4 [(0, .ref b), (1, .ref (a.1 0)), (2, .ref (a.2.2.2.2.2.2.2.2.2 0)), (3, .int x)]) (kk : ∀ (S1 : Lx) (H : Heap) (locs : List Loc), Inv S1 → St G A s.heap H locs (wL G a S1) → W p l e room_1 s m #[.ref b] below meth c H locs 114 1879 Q (F0 m 1388 ls [])) : W p l e room_1 s m #[.ref b] below meth c H locs 114 1879 Q (F0 m 863 ls []) := by
  obtain ⟨hx, hb, hml, hown, hts, hK, hret, hlk⟩ := id C
  obtain ⟨r, w1, S1, h4, ⟨fs, h97⟩, h5, hI1⟩ := st_best (lc := l) (G := G) (a := a) hI (xs (x + (1 : Int32)).toNatClampNeg)
  refine lv_aload_n hx hb (dk hL_law_13 3 rfl) rfl (lv_at hl 1 rfl) ?_
  refine lv_aload_n hx hb (dk hL_law_13 4 rfl) rfl (lv_at hl 0 rfl) ?_
  refine lv_iload_n hx hb (dk hL_law_13 5 rfl) rfl (lv_at hl 3 rfl) ?_
  refine lv_iconst (v := (1 : Int32)) hx hb (dk hL_law_13 6 rfl) (by decide) ?_
  refine lv_iadd hx hb (dk hL_law_13 7 rfl) ?_
  refine va_sld hx hb hX hbl hbA hs.2.2.1 hr.2.1 (dk hL_law_13 8 rfl) ?_
  refine Ct.V (As := [.int (xs (x + (1 : Int32)).toNatClampNeg)]) (rest := []) (st1 := [.int r]) (w1 := w1) C hs h4 tw_549 tw_550 tw_551 tw_79 tw_552 nq_X4_best ⟨Nat.le_of_ble_eq_true rfl, Nat.le_of_ble_eq_true rfl⟩ 0 4 rfl rfl rfl rfl hl.1 rfl (Nat.le_of_ble_eq_true rfl) (dk hL_law_13 9 rfl) ⟨Nat.le_of_ble_eq_true rfl, Nat.le_of_ble_eq_true rfl⟩ rfl (fun H locs hs => ?_)
  refine lv_aload_n hx hb (dk hL_law_13 10 rfl) rfl (lv_at hl 2 rfl) ?_
  refine lv_aload_n hx hb (dk hL_law_13 11 rfl) rfl (lv_at hl 0 rfl) ?_
  refine lv_iload_n hx hb (dk hL_law_13 12 rfl) rfl (lv_at hl 3 rfl) ?_
  refine lv_iconst (v := (1 : Int32)) hx hb (dk hL_law_13 13 rfl) (by decide) ?_
  refine lv_iadd hx hb (dk hL_law_13 14 rfl) ?_
  refine va_sld hx hb hX hbl hbA hs.2.2.1 hr.2.1 (dk hL_law_13 15 rfl) ?_
  refine Ct.V (As := [.int (xs (x + (1 : Int32)).toNatClampNeg)]) (rest := [.int r]) (st1 := [.int r, .int r]) (w1 := (wL G a S1)) C hs h5 tw_1097 tw_1098 tw_1099 tw_85 tw_1100 nq_X5_best ⟨Nat.le_of_ble_eq_true rfl, Nat.le_of_ble_eq_true rfl⟩ 97 5 rfl rfl h97 rfl hl.1 rfl (Nat.le_of_ble_eq_true rfl) (dk hL_law_13 16 rfl) ⟨Nat.le_of_ble_eq_true rfl, Nat.le_of_ble_eq_true rfl⟩ rfl (fun H locs hs => ?_)
  refine lv_icmp_eq (tgt := 1388) hx hb (dk hL_law_13 17 rfl) (by decide) (fun hc => ?_) (fun hc => absurd rfl hc)
  exact kk S1 H locs hI1 hs
set_option maxRecDepth 100000 in
set_option maxHeartbeats 4000000 in
theorem lc_whichTown {p : Program} {l : Launch} {e : Jvm.Env} {s : State} {m : MethodId} {below : List Frame} {meth : Method} {c : Code} {H : Heap} {locs : List Loc} {Q : State → Prop} {G : Gx} {A : Nat → Prop} {a : Ax} {S : Lx} {b L : Nat} {xs : Nat → Int32} {x : Int32} {ls : Array Slot} (C : Cx p s m #[.ref b] meth c cL_law RL 4 (some .boolean) G) (hX : va_X b L xs s s.heap) (hbl : b < s.heap.size) (hbA : ¬ A b) (hr : vp_in x L ∧ vp_in (x + 1) L ∧ vp_in (x + 2) L ∧ vp_in (x + 3) L ∧ vp_in (x + 4) L) (hI : Inv S) (hs : St G A s.heap H locs (wL G a S)) (hl : lv_has ls 4 [(0, .ref b), (1, .ref (a.1 0)), (2, .ref (a.2.2.2.2.2.2.2.2.2 0)), (3, .int x)]) (kk : ∀ (S1 : Lx) (H : Heap) (locs : List Loc), Inv S1 → St G A s.heap H locs (wL G a S1) → W p l e room_1 s m #[.ref b] below meth c H locs 114 1879 Q (F0 m 1388 ls [])) : W p l e room_1 s m #[.ref b] below meth c H locs 114 1879 Q (F0 m 886 ls []) := by
  obtain ⟨hx, hb, hml, hown, hts, hK, hret, hlk⟩ := id C
  obtain ⟨r, w1, S1, h4, ⟨fs, h97⟩, h5, hI1⟩ := st_whichTown (lc := l) (G := G) (a := a) hI (xs (x + (1 : Int32)).toNatClampNeg) (xs (x + (2 : Int32)).toNatClampNeg)
  refine lv_aload_n hx hb (dk hL_law_13 20 rfl) rfl (lv_at hl 1 rfl) ?_
  refine lv_aload_n hx hb (dk hL_law_13 21 rfl) rfl (lv_at hl 0 rfl) ?_
  refine lv_iload_n hx hb (dk hL_law_13 22 rfl) rfl (lv_at hl 3 rfl) ?_
  refine lv_iconst (v := (1 : Int32)) hx hb (dk hL_law_13 23 rfl) (by decide) ?_
  refine lv_iadd hx hb (dk hL_law_13 24 rfl) ?_
  refine va_sld hx hb hX hbl hbA hs.2.2.1 hr.2.1 (dk hL_law_13 25 rfl) ?_
  refine lv_aload_n hx hb (dk hL_law_13 26 rfl) rfl (lv_at hl 0 rfl) ?_
  refine lv_iload_n hx hb (dk hL_law_13 27 rfl) rfl (lv_at hl 3 rfl) ?_
  refine lv_iconst (v := (2 : Int32)) hx hb (dk hL_law_13 28 rfl) (by decide) ?_
  refine lv_iadd hx hb (dk hL_law_13 29 rfl) ?_
  refine va_sld hx hb hX hbl hbA hs.2.2.1 hr.2.2.1 (dk hL_law_13 30 rfl) ?_
  refine Ct.V (As := [.int (xs (x + (1 : Int32)).toNatClampNeg), .int (xs (x + (2 : Int32)).toNatClampNeg)]) (rest := []) (st1 := [.int r]) (w1 := w1) C hs h4 tw_553 tw_554 tw_555 tw_79 tw_556 nq_X4_whichTown ⟨Nat.le_of_ble_eq_true rfl, Nat.le_of_ble_eq_true rfl⟩ 0 4 rfl rfl rfl rfl hl.1 rfl (Nat.le_of_ble_eq_true rfl) (dk hL_law_13 31 rfl) ⟨Nat.le_of_ble_eq_true rfl, Nat.le_of_ble_eq_true rfl⟩ rfl (fun H locs hs => ?_)
  refine lv_aload_n hx hb (dk hL_law_13 32 rfl) rfl (lv_at hl 2 rfl) ?_
  refine lv_aload_n hx hb (dk hL_law_13 33 rfl) rfl (lv_at hl 0 rfl) ?_
  refine lv_iload_n hx hb (dk hL_law_13 34 rfl) rfl (lv_at hl 3 rfl) ?_
  refine lv_iconst (v := (1 : Int32)) hx hb (dk hL_law_13 35 rfl) (by decide) ?_
  refine lv_iadd hx hb (dk hL_law_13 36 rfl) ?_
  refine va_sld hx hb hX hbl hbA hs.2.2.1 hr.2.1 (dk hL_law_13 37 rfl) ?_
  refine lv_aload_n hx hb (dk hL_law_13 38 rfl) rfl (lv_at hl 0 rfl) ?_
  refine lv_iload_n hx hb (dk hL_law_13 39 rfl) rfl (lv_at hl 3 rfl) ?_
  refine lv_iconst (v := (2 : Int32)) hx hb (dk hL_law_14 0 rfl) (by decide) ?_
  refine lv_iadd hx hb (dk hL_law_14 1 rfl) ?_
  refine va_sld hx hb hX hbl hbA hs.2.2.1 hr.2.2.1 (dk hL_law_14 2 rfl) ?_
  refine Ct.V (As := [.int (xs (x + (1 : Int32)).toNatClampNeg), .int (xs (x + (2 : Int32)).toNatClampNeg)]) (rest := [.int r]) (st1 := [.int r, .int r]) (w1 := (wL G a S1)) C hs h5 tw_1101 tw_1102 tw_1103 tw_85 tw_1104 nq_X5_whichTown ⟨Nat.le_of_ble_eq_true rfl, Nat.le_of_ble_eq_true rfl⟩ 97 5 rfl rfl h97 rfl hl.1 rfl (Nat.le_of_ble_eq_true rfl) (dk hL_law_14 3 rfl) ⟨Nat.le_of_ble_eq_true rfl, Nat.le_of_ble_eq_true rfl⟩ rfl (fun H locs hs => ?_)
  refine lv_icmp_eq (tgt := 1388) hx hb (dk hL_law_14 4 rfl) (by decide) (fun hc => ?_) (fun hc => absurd rfl hc)
  exact kk S1 H locs hI1 hs
set_option maxRecDepth 100000 in
set_option maxHeartbeats 4000000 in
theorem lc_whatKind {p : Program} {l : Launch} {e : Jvm.Env} {s : State} {m : MethodId} {below : List Frame} {meth : Method} {c : Code} {H : Heap} {locs : List Loc} {Q : State → Prop} {G : Gx} {A : Nat → Prop} {a : Ax} {S : Lx} {b L : Nat} {xs : Nat → Int32} {x : Int32} {ls : Array Slot} (C : Cx p s m #[.ref b] meth c cL_law RL 4 (some .boolean) G) (hX : va_X b L xs s s.heap) (hbl : b < s.heap.size) (hbA : ¬ A b) (hr : vp_in x L ∧ vp_in (x + 1) L ∧ vp_in (x + 2) L ∧ vp_in (x + 3) L ∧ vp_in (x + 4) L) (hI : Inv S) (hs : St G A s.heap H locs (wL G a S)) (hl : lv_has ls 4 [(0, .ref b), (1, .ref (a.1 0)), (2, .ref (a.2.2.2.2.2.2.2.2.2 0)), (3, .int x)]) (kk : ∀ (S1 : Lx) (H : Heap) (locs : List Loc), Inv S1 → St G A s.heap H locs (wL G a S1) → W p l e room_1 s m #[.ref b] below meth c H locs 114 1879 Q (F0 m 1388 ls [])) : W p l e room_1 s m #[.ref b] below meth c H locs 114 1879 Q (F0 m 919 ls []) := by
  obtain ⟨hx, hb, hml, hown, hts, hK, hret, hlk⟩ := id C
  obtain ⟨r, w1, S1, h4, ⟨fs, h97⟩, h5, hI1⟩ := st_whatKind (lc := l) (G := G) (a := a) hI (xs (x + (1 : Int32)).toNatClampNeg) (xs (x + (2 : Int32)).toNatClampNeg)
  refine lv_aload_n hx hb (dk hL_law_14 7 rfl) rfl (lv_at hl 1 rfl) ?_
  refine lv_aload_n hx hb (dk hL_law_14 8 rfl) rfl (lv_at hl 0 rfl) ?_
  refine lv_iload_n hx hb (dk hL_law_14 9 rfl) rfl (lv_at hl 3 rfl) ?_
  refine lv_iconst (v := (1 : Int32)) hx hb (dk hL_law_14 10 rfl) (by decide) ?_
  refine lv_iadd hx hb (dk hL_law_14 11 rfl) ?_
  refine va_sld hx hb hX hbl hbA hs.2.2.1 hr.2.1 (dk hL_law_14 12 rfl) ?_
  refine lv_aload_n hx hb (dk hL_law_14 13 rfl) rfl (lv_at hl 0 rfl) ?_
  refine lv_iload_n hx hb (dk hL_law_14 14 rfl) rfl (lv_at hl 3 rfl) ?_
  refine lv_iconst (v := (2 : Int32)) hx hb (dk hL_law_14 15 rfl) (by decide) ?_
  refine lv_iadd hx hb (dk hL_law_14 16 rfl) ?_
  refine va_sld hx hb hX hbl hbA hs.2.2.1 hr.2.2.1 (dk hL_law_14 17 rfl) ?_
  refine Ct.V (As := [.int (xs (x + (1 : Int32)).toNatClampNeg), .int (xs (x + (2 : Int32)).toNatClampNeg)]) (rest := []) (st1 := [.int r]) (w1 := w1) C hs h4 tw_562 tw_563 tw_564 tw_79 tw_565 nq_X4_whatKind ⟨Nat.le_of_ble_eq_true rfl, Nat.le_of_ble_eq_true rfl⟩ 0 4 rfl rfl rfl rfl hl.1 rfl (Nat.le_of_ble_eq_true rfl) (dk hL_law_14 18 rfl) ⟨Nat.le_of_ble_eq_true rfl, Nat.le_of_ble_eq_true rfl⟩ rfl (fun H locs hs => ?_)
  refine lv_aload_n hx hb (dk hL_law_14 19 rfl) rfl (lv_at hl 2 rfl) ?_
  refine lv_aload_n hx hb (dk hL_law_14 20 rfl) rfl (lv_at hl 0 rfl) ?_
  refine lv_iload_n hx hb (dk hL_law_14 21 rfl) rfl (lv_at hl 3 rfl) ?_
  refine lv_iconst (v := (1 : Int32)) hx hb (dk hL_law_14 22 rfl) (by decide) ?_
  refine lv_iadd hx hb (dk hL_law_14 23 rfl) ?_
  refine va_sld hx hb hX hbl hbA hs.2.2.1 hr.2.1 (dk hL_law_14 24 rfl) ?_
  refine lv_aload_n hx hb (dk hL_law_14 25 rfl) rfl (lv_at hl 0 rfl) ?_
  refine lv_iload_n hx hb (dk hL_law_14 26 rfl) rfl (lv_at hl 3 rfl) ?_
  refine lv_iconst (v := (2 : Int32)) hx hb (dk hL_law_14 27 rfl) (by decide) ?_
  refine lv_iadd hx hb (dk hL_law_14 28 rfl) ?_
  refine va_sld hx hb hX hbl hbA hs.2.2.1 hr.2.2.1 (dk hL_law_14 29 rfl) ?_
  refine Ct.V (As := [.int (xs (x + (1 : Int32)).toNatClampNeg), .int (xs (x + (2 : Int32)).toNatClampNeg)]) (rest := [.int r]) (st1 := [.int r, .int r]) (w1 := (wL G a S1)) C hs h5 tw_1109 tw_1110 tw_1111 tw_85 tw_1112 nq_X5_whatKind ⟨Nat.le_of_ble_eq_true rfl, Nat.le_of_ble_eq_true rfl⟩ 97 5 rfl rfl h97 rfl hl.1 rfl (Nat.le_of_ble_eq_true rfl) (dk hL_law_14 30 rfl) ⟨Nat.le_of_ble_eq_true rfl, Nat.le_of_ble_eq_true rfl⟩ rfl (fun H locs hs => ?_)
  refine lv_icmp_eq (tgt := 1388) hx hb (dk hL_law_14 31 rfl) (by decide) (fun hc => ?_) (fun hc => absurd rfl hc)
  exact kk S1 H locs hI1 hs
set_option maxRecDepth 100000 in
set_option maxHeartbeats 4000000 in
theorem lc_two {p : Program} {l : Launch} {e : Jvm.Env} {s : State} {m : MethodId} {below : List Frame} {meth : Method} {c : Code} {H : Heap} {locs : List Loc} {Q : State → Prop} {G : Gx} {A : Nat → Prop} {a : Ax} {S : Lx} {b L : Nat} {xs : Nat → Int32} {x : Int32} {ls : Array Slot} (C : Cx p s m #[.ref b] meth c cL_law RL 4 (some .boolean) G) (hX : va_X b L xs s s.heap) (hbl : b < s.heap.size) (hbA : ¬ A b) (hr : vp_in x L ∧ vp_in (x + 1) L ∧ vp_in (x + 2) L ∧ vp_in (x + 3) L ∧ vp_in (x + 4) L) (hI : Inv S) (hs : St G A s.heap H locs (wL G a S)) (hl : lv_has ls 4 [(0, .ref b), (1, .ref (a.1 0)), (2, .ref (a.2.2.2.2.2.2.2.2.2 0)), (3, .int x)]) (kk : ∀ (S1 : Lx) (H : Heap) (locs : List Loc), Inv S1 → St G A s.heap H locs (wL G a S1) → W p l e room_1 s m #[.ref b] below meth c H locs 114 1879 Q (F0 m 1388 ls [])) : W p l e room_1 s m #[.ref b] below meth c H locs 114 1879 Q (F0 m 952 ls []) := by
  obtain ⟨hx, hb, hml, hown, hts, hK, hret, hlk⟩ := id C
  obtain ⟨r, w1, S1, h4, ⟨fs, h97⟩, h5, hI1⟩ := st_two (lc := l) (G := G) (a := a) hI (xs (x + (1 : Int32)).toNatClampNeg) (xs (x + (2 : Int32)).toNatClampNeg) (xs (x + (3 : Int32)).toNatClampNeg)
  refine lv_aload_n hx hb (dk hL_law_14 34 rfl) rfl (lv_at hl 1 rfl) ?_
  refine lv_aload_n hx hb (dk hL_law_14 35 rfl) rfl (lv_at hl 0 rfl) ?_
  refine lv_iload_n hx hb (dk hL_law_14 36 rfl) rfl (lv_at hl 3 rfl) ?_
  refine lv_iconst (v := (1 : Int32)) hx hb (dk hL_law_14 37 rfl) (by decide) ?_
  refine lv_iadd hx hb (dk hL_law_14 38 rfl) ?_
  refine va_sld hx hb hX hbl hbA hs.2.2.1 hr.2.1 (dk hL_law_14 39 rfl) ?_
  refine lv_aload_n hx hb (dk hL_law_15 0 rfl) rfl (lv_at hl 0 rfl) ?_
  refine lv_iload_n hx hb (dk hL_law_15 1 rfl) rfl (lv_at hl 3 rfl) ?_
  refine lv_iconst (v := (2 : Int32)) hx hb (dk hL_law_15 2 rfl) (by decide) ?_
  refine lv_iadd hx hb (dk hL_law_15 3 rfl) ?_
  refine va_sld hx hb hX hbl hbA hs.2.2.1 hr.2.2.1 (dk hL_law_15 4 rfl) ?_
  refine lv_aload_n hx hb (dk hL_law_15 5 rfl) rfl (lv_at hl 0 rfl) ?_
  refine lv_iload_n hx hb (dk hL_law_15 6 rfl) rfl (lv_at hl 3 rfl) ?_
  refine lv_iconst (v := (3 : Int32)) hx hb (dk hL_law_15 7 rfl) (by decide) ?_
  refine lv_iadd hx hb (dk hL_law_15 8 rfl) ?_
  refine va_sld hx hb hX hbl hbA hs.2.2.1 hr.2.2.2.1 (dk hL_law_15 9 rfl) ?_
  refine Ct.V (As := [.int (xs (x + (1 : Int32)).toNatClampNeg), .int (xs (x + (2 : Int32)).toNatClampNeg), .int (xs (x + (3 : Int32)).toNatClampNeg)]) (rest := []) (st1 := [.int r]) (w1 := w1) C hs h4 tw_570 tw_571 tw_572 tw_79 tw_573 nq_X4_two ⟨Nat.le_of_ble_eq_true rfl, Nat.le_of_ble_eq_true rfl⟩ 0 4 rfl rfl rfl rfl hl.1 rfl (Nat.le_of_ble_eq_true rfl) (dk hL_law_15 10 rfl) ⟨Nat.le_of_ble_eq_true rfl, Nat.le_of_ble_eq_true rfl⟩ rfl (fun H locs hs => ?_)
  refine lv_aload_n hx hb (dk hL_law_15 11 rfl) rfl (lv_at hl 2 rfl) ?_
  refine lv_aload_n hx hb (dk hL_law_15 12 rfl) rfl (lv_at hl 0 rfl) ?_
  refine lv_iload_n hx hb (dk hL_law_15 13 rfl) rfl (lv_at hl 3 rfl) ?_
  refine lv_iconst (v := (1 : Int32)) hx hb (dk hL_law_15 14 rfl) (by decide) ?_
  refine lv_iadd hx hb (dk hL_law_15 15 rfl) ?_
  refine va_sld hx hb hX hbl hbA hs.2.2.1 hr.2.1 (dk hL_law_15 16 rfl) ?_
  refine lv_aload_n hx hb (dk hL_law_15 17 rfl) rfl (lv_at hl 0 rfl) ?_
  refine lv_iload_n hx hb (dk hL_law_15 18 rfl) rfl (lv_at hl 3 rfl) ?_
  refine lv_iconst (v := (2 : Int32)) hx hb (dk hL_law_15 19 rfl) (by decide) ?_
  refine lv_iadd hx hb (dk hL_law_15 20 rfl) ?_
  refine va_sld hx hb hX hbl hbA hs.2.2.1 hr.2.2.1 (dk hL_law_15 21 rfl) ?_
  refine lv_aload_n hx hb (dk hL_law_15 22 rfl) rfl (lv_at hl 0 rfl) ?_
  refine lv_iload_n hx hb (dk hL_law_15 23 rfl) rfl (lv_at hl 3 rfl) ?_
  refine lv_iconst (v := (3 : Int32)) hx hb (dk hL_law_15 24 rfl) (by decide) ?_
  refine lv_iadd hx hb (dk hL_law_15 25 rfl) ?_
  refine va_sld hx hb hX hbl hbA hs.2.2.1 hr.2.2.2.1 (dk hL_law_15 26 rfl) ?_
  refine Ct.V (As := [.int (xs (x + (1 : Int32)).toNatClampNeg), .int (xs (x + (2 : Int32)).toNatClampNeg), .int (xs (x + (3 : Int32)).toNatClampNeg)]) (rest := [.int r]) (st1 := [.int r, .int r]) (w1 := (wL G a S1)) C hs h5 tw_1121 tw_1122 tw_1123 tw_85 tw_1124 nq_X5_two ⟨Nat.le_of_ble_eq_true rfl, Nat.le_of_ble_eq_true rfl⟩ 97 5 rfl rfl h97 rfl hl.1 rfl (Nat.le_of_ble_eq_true rfl) (dk hL_law_15 27 rfl) ⟨Nat.le_of_ble_eq_true rfl, Nat.le_of_ble_eq_true rfl⟩ rfl (fun H locs hs => ?_)
  refine lv_icmp_eq (tgt := 1388) hx hb (dk hL_law_15 28 rfl) (by decide) (fun hc => ?_) (fun hc => absurd rfl hc)
  exact kk S1 H locs hI1 hs
set_option maxRecDepth 100000 in
set_option maxHeartbeats 4000000 in
theorem lc_storms {p : Program} {l : Launch} {e : Jvm.Env} {s : State} {m : MethodId} {below : List Frame} {meth : Method} {c : Code} {H : Heap} {locs : List Loc} {Q : State → Prop} {G : Gx} {A : Nat → Prop} {a : Ax} {S : Lx} {b L : Nat} {xs : Nat → Int32} {x : Int32} {ls : Array Slot} (C : Cx p s m #[.ref b] meth c cL_law RL 4 (some .boolean) G) (hX : va_X b L xs s s.heap) (hbl : b < s.heap.size) (hbA : ¬ A b) (hr : vp_in x L ∧ vp_in (x + 1) L ∧ vp_in (x + 2) L ∧ vp_in (x + 3) L ∧ vp_in (x + 4) L) (hI : Inv S) (hs : St G A s.heap H locs (wL G a S)) (hl : lv_has ls 4 [(0, .ref b), (1, .ref (a.1 0)), (2, .ref (a.2.2.2.2.2.2.2.2.2 0)), (3, .int x)]) (kk : ∀ (S1 : Lx) (H : Heap) (locs : List Loc), Inv S1 → St G A s.heap H locs (wL G a S1) → W p l e room_1 s m #[.ref b] below meth c H locs 114 1879 Q (F0 m 1388 ls [])) : W p l e room_1 s m #[.ref b] below meth c H locs 114 1879 Q (F0 m 995 ls []) := by
  obtain ⟨hx, hb, hml, hown, hts, hK, hret, hlk⟩ := id C
  obtain ⟨r, w1, S1, h4, ⟨fs, h97⟩, h5, hI1⟩ := st_storms (lc := l) (G := G) (a := a) hI (xs (x + (1 : Int32)).toNatClampNeg) (xs (x + (2 : Int32)).toNatClampNeg) (xs (x + (3 : Int32)).toNatClampNeg) (xs (x + (4 : Int32)).toNatClampNeg)
  refine lv_aload_n hx hb (dk hL_law_15 31 rfl) rfl (lv_at hl 1 rfl) ?_
  refine lv_aload_n hx hb (dk hL_law_15 32 rfl) rfl (lv_at hl 0 rfl) ?_
  refine lv_iload_n hx hb (dk hL_law_15 33 rfl) rfl (lv_at hl 3 rfl) ?_
  refine lv_iconst (v := (1 : Int32)) hx hb (dk hL_law_15 34 rfl) (by decide) ?_
  refine lv_iadd hx hb (dk hL_law_15 35 rfl) ?_
  refine va_sld hx hb hX hbl hbA hs.2.2.1 hr.2.1 (dk hL_law_15 36 rfl) ?_
  refine lv_aload_n hx hb (dk hL_law_15 37 rfl) rfl (lv_at hl 0 rfl) ?_
  refine lv_iload_n hx hb (dk hL_law_15 38 rfl) rfl (lv_at hl 3 rfl) ?_
  refine lv_iconst (v := (2 : Int32)) hx hb (dk hL_law_15 39 rfl) (by decide) ?_
  refine lv_iadd hx hb (dk hL_law_16 0 rfl) ?_
  refine va_sld hx hb hX hbl hbA hs.2.2.1 hr.2.2.1 (dk hL_law_16 1 rfl) ?_
  refine lv_aload_n hx hb (dk hL_law_16 2 rfl) rfl (lv_at hl 0 rfl) ?_
  refine lv_iload_n hx hb (dk hL_law_16 3 rfl) rfl (lv_at hl 3 rfl) ?_
  refine lv_iconst (v := (3 : Int32)) hx hb (dk hL_law_16 4 rfl) (by decide) ?_
  refine lv_iadd hx hb (dk hL_law_16 5 rfl) ?_
  refine va_sld hx hb hX hbl hbA hs.2.2.1 hr.2.2.2.1 (dk hL_law_16 6 rfl) ?_
  refine lv_aload_n hx hb (dk hL_law_16 7 rfl) rfl (lv_at hl 0 rfl) ?_
  refine lv_iload_n hx hb (dk hL_law_16 8 rfl) rfl (lv_at hl 3 rfl) ?_
  refine lv_iconst (v := (4 : Int32)) hx hb (dk hL_law_16 9 rfl) (by decide) ?_
  refine lv_iadd hx hb (dk hL_law_16 10 rfl) ?_
  refine va_sld hx hb hX hbl hbA hs.2.2.1 hr.2.2.2.2 (dk hL_law_16 11 rfl) ?_
  refine Ct.V (As := [.int (xs (x + (1 : Int32)).toNatClampNeg), .int (xs (x + (2 : Int32)).toNatClampNeg), .int (xs (x + (3 : Int32)).toNatClampNeg), .int (xs (x + (4 : Int32)).toNatClampNeg)]) (rest := []) (st1 := [.long r]) (w1 := w1) C hs h4 tw_578 tw_579 tw_580 tw_79 tw_581 nq_X4_storms ⟨Nat.le_of_ble_eq_true rfl, Nat.le_of_ble_eq_true rfl⟩ 0 4 rfl rfl rfl rfl hl.1 rfl (Nat.le_of_ble_eq_true rfl) (dk hL_law_16 12 rfl) ⟨Nat.le_of_ble_eq_true rfl, Nat.le_of_ble_eq_true rfl⟩ rfl (fun H locs hs => ?_)
  refine lv_aload_n hx hb (dk hL_law_16 13 rfl) rfl (lv_at hl 2 rfl) ?_
  refine lv_aload_n hx hb (dk hL_law_16 14 rfl) rfl (lv_at hl 0 rfl) ?_
  refine lv_iload_n hx hb (dk hL_law_16 15 rfl) rfl (lv_at hl 3 rfl) ?_
  refine lv_iconst (v := (1 : Int32)) hx hb (dk hL_law_16 16 rfl) (by decide) ?_
  refine lv_iadd hx hb (dk hL_law_16 17 rfl) ?_
  refine va_sld hx hb hX hbl hbA hs.2.2.1 hr.2.1 (dk hL_law_16 18 rfl) ?_
  refine lv_aload_n hx hb (dk hL_law_16 19 rfl) rfl (lv_at hl 0 rfl) ?_
  refine lv_iload_n hx hb (dk hL_law_16 20 rfl) rfl (lv_at hl 3 rfl) ?_
  refine lv_iconst (v := (2 : Int32)) hx hb (dk hL_law_16 21 rfl) (by decide) ?_
  refine lv_iadd hx hb (dk hL_law_16 22 rfl) ?_
  refine va_sld hx hb hX hbl hbA hs.2.2.1 hr.2.2.1 (dk hL_law_16 23 rfl) ?_
  refine lv_aload_n hx hb (dk hL_law_16 24 rfl) rfl (lv_at hl 0 rfl) ?_
  refine lv_iload_n hx hb (dk hL_law_16 25 rfl) rfl (lv_at hl 3 rfl) ?_
  refine lv_iconst (v := (3 : Int32)) hx hb (dk hL_law_16 26 rfl) (by decide) ?_
  refine lv_iadd hx hb (dk hL_law_16 27 rfl) ?_
  refine va_sld hx hb hX hbl hbA hs.2.2.1 hr.2.2.2.1 (dk hL_law_16 28 rfl) ?_
  refine lv_aload_n hx hb (dk hL_law_16 29 rfl) rfl (lv_at hl 0 rfl) ?_
  refine lv_iload_n hx hb (dk hL_law_16 30 rfl) rfl (lv_at hl 3 rfl) ?_
  refine lv_iconst (v := (4 : Int32)) hx hb (dk hL_law_16 31 rfl) (by decide) ?_
  refine lv_iadd hx hb (dk hL_law_16 32 rfl) ?_
  refine va_sld hx hb hX hbl hbA hs.2.2.1 hr.2.2.2.2 (dk hL_law_16 33 rfl) ?_
  refine Ct.V (As := [.int (xs (x + (1 : Int32)).toNatClampNeg), .int (xs (x + (2 : Int32)).toNatClampNeg), .int (xs (x + (3 : Int32)).toNatClampNeg), .int (xs (x + (4 : Int32)).toNatClampNeg)]) (rest := [.long r]) (st1 := [.long r, .long r]) (w1 := (wL G a S1)) C hs h5 tw_1133 tw_1134 tw_1135 tw_85 tw_1136 nq_X5_storms ⟨Nat.le_of_ble_eq_true rfl, Nat.le_of_ble_eq_true rfl⟩ 97 5 rfl rfl h97 rfl hl.1 rfl (Nat.le_of_ble_eq_true rfl) (dk hL_law_16 34 rfl) ⟨Nat.le_of_ble_eq_true rfl, Nat.le_of_ble_eq_true rfl⟩ rfl (fun H locs hs => ?_)
  refine W.lcmp hx hb (dk hL_law_16 35 rfl) ?_
  refine lv_if_eq (tgt := 1388) hx hb (dk hL_law_16 36 rfl) (by decide) (fun hc => ?_) (fun hc => absurd (cmp_self r) hc)
  exact kk S1 H locs hI1 hs
set_option maxRecDepth 100000 in
set_option maxHeartbeats 4000000 in
theorem lc_deepest {p : Program} {l : Launch} {e : Jvm.Env} {s : State} {m : MethodId} {below : List Frame} {meth : Method} {c : Code} {H : Heap} {locs : List Loc} {Q : State → Prop} {G : Gx} {A : Nat → Prop} {a : Ax} {S : Lx} {b L : Nat} {xs : Nat → Int32} {x : Int32} {ls : Array Slot} (C : Cx p s m #[.ref b] meth c cL_law RL 4 (some .boolean) G) (hX : va_X b L xs s s.heap) (hbl : b < s.heap.size) (hbA : ¬ A b) (hr : vp_in x L ∧ vp_in (x + 1) L ∧ vp_in (x + 2) L ∧ vp_in (x + 3) L ∧ vp_in (x + 4) L) (hI : Inv S) (hs : St G A s.heap H locs (wL G a S)) (hl : lv_has ls 4 [(0, .ref b), (1, .ref (a.1 0)), (2, .ref (a.2.2.2.2.2.2.2.2.2 0)), (3, .int x)]) (kk : ∀ (S1 : Lx) (H : Heap) (locs : List Loc), Inv S1 → St G A s.heap H locs (wL G a S1) → W p l e room_1 s m #[.ref b] below meth c H locs 114 1879 Q (F0 m 1388 ls [])) : W p l e room_1 s m #[.ref b] below meth c H locs 114 1879 Q (F0 m 1049 ls []) := by
  obtain ⟨hx, hb, hml, hown, hts, hK, hret, hlk⟩ := id C
  obtain ⟨r, w1, S1, h4, ⟨fs, h97⟩, h5, hI1⟩ := st_deepest (lc := l) (G := G) (a := a) hI (xs (x + (1 : Int32)).toNatClampNeg)
  refine lv_aload_n hx hb (dk hL_law_16 39 rfl) rfl (lv_at hl 1 rfl) ?_
  refine lv_aload_n hx hb (dk hL_law_17 0 rfl) rfl (lv_at hl 0 rfl) ?_
  refine lv_iload_n hx hb (dk hL_law_17 1 rfl) rfl (lv_at hl 3 rfl) ?_
  refine lv_iconst (v := (1 : Int32)) hx hb (dk hL_law_17 2 rfl) (by decide) ?_
  refine lv_iadd hx hb (dk hL_law_17 3 rfl) ?_
  refine va_sld hx hb hX hbl hbA hs.2.2.1 hr.2.1 (dk hL_law_17 4 rfl) ?_
  refine Ct.V (As := [.int (xs (x + (1 : Int32)).toNatClampNeg)]) (rest := []) (st1 := [.int r]) (w1 := w1) C hs h4 tw_604 tw_605 tw_606 tw_79 tw_607 nq_X4_deepest ⟨Nat.le_of_ble_eq_true rfl, Nat.le_of_ble_eq_true rfl⟩ 0 4 rfl rfl rfl rfl hl.1 rfl (Nat.le_of_ble_eq_true rfl) (dk hL_law_17 5 rfl) ⟨Nat.le_of_ble_eq_true rfl, Nat.le_of_ble_eq_true rfl⟩ rfl (fun H locs hs => ?_)
  refine lv_aload_n hx hb (dk hL_law_17 6 rfl) rfl (lv_at hl 2 rfl) ?_
  refine lv_aload_n hx hb (dk hL_law_17 7 rfl) rfl (lv_at hl 0 rfl) ?_
  refine lv_iload_n hx hb (dk hL_law_17 8 rfl) rfl (lv_at hl 3 rfl) ?_
  refine lv_iconst (v := (1 : Int32)) hx hb (dk hL_law_17 9 rfl) (by decide) ?_
  refine lv_iadd hx hb (dk hL_law_17 10 rfl) ?_
  refine va_sld hx hb hX hbl hbA hs.2.2.1 hr.2.1 (dk hL_law_17 11 rfl) ?_
  refine Ct.V (As := [.int (xs (x + (1 : Int32)).toNatClampNeg)]) (rest := [.int r]) (st1 := [.int r, .int r]) (w1 := (wL G a S1)) C hs h5 tw_1148 tw_1149 tw_1150 tw_85 tw_1151 nq_X5_deepest ⟨Nat.le_of_ble_eq_true rfl, Nat.le_of_ble_eq_true rfl⟩ 97 5 rfl rfl h97 rfl hl.1 rfl (Nat.le_of_ble_eq_true rfl) (dk hL_law_17 12 rfl) ⟨Nat.le_of_ble_eq_true rfl, Nat.le_of_ble_eq_true rfl⟩ rfl (fun H locs hs => ?_)
  refine lv_icmp_eq (tgt := 1388) hx hb (dk hL_law_17 13 rfl) (by decide) (fun hc => ?_) (fun hc => absurd rfl hc)
  exact kk S1 H locs hI1 hs
set_option maxRecDepth 100000 in
set_option maxHeartbeats 4000000 in
theorem lc_mean {p : Program} {l : Launch} {e : Jvm.Env} {s : State} {m : MethodId} {below : List Frame} {meth : Method} {c : Code} {H : Heap} {locs : List Loc} {Q : State → Prop} {G : Gx} {A : Nat → Prop} {a : Ax} {S : Lx} {b L : Nat} {xs : Nat → Int32} {x : Int32} {ls : Array Slot} (C : Cx p s m #[.ref b] meth c cL_law RL 4 (some .boolean) G) (hX : va_X b L xs s s.heap) (hbl : b < s.heap.size) (hbA : ¬ A b) (hr : vp_in x L ∧ vp_in (x + 1) L ∧ vp_in (x + 2) L ∧ vp_in (x + 3) L ∧ vp_in (x + 4) L) (hI : Inv S) (hs : St G A s.heap H locs (wL G a S)) (hl : lv_has ls 4 [(0, .ref b), (1, .ref (a.1 0)), (2, .ref (a.2.2.2.2.2.2.2.2.2 0)), (3, .int x)]) (kk : ∀ (S1 : Lx) (H : Heap) (locs : List Loc), Inv S1 → St G A s.heap H locs (wL G a S1) → W p l e room_1 s m #[.ref b] below meth c H locs 114 1879 Q (F0 m 1388 ls [])) : W p l e room_1 s m #[.ref b] below meth c H locs 114 1879 Q (F0 m 1072 ls []) := by
  obtain ⟨hx, hb, hml, hown, hts, hK, hret, hlk⟩ := id C
  obtain ⟨r, w1, S1, h4, ⟨fs, h97⟩, h5, hI1⟩ := st_mean (lc := l) (G := G) (a := a) hI (xs (x + (1 : Int32)).toNatClampNeg)
  refine lv_aload_n hx hb (dk hL_law_17 16 rfl) rfl (lv_at hl 1 rfl) ?_
  refine lv_aload_n hx hb (dk hL_law_17 17 rfl) rfl (lv_at hl 0 rfl) ?_
  refine lv_iload_n hx hb (dk hL_law_17 18 rfl) rfl (lv_at hl 3 rfl) ?_
  refine lv_iconst (v := (1 : Int32)) hx hb (dk hL_law_17 19 rfl) (by decide) ?_
  refine lv_iadd hx hb (dk hL_law_17 20 rfl) ?_
  refine va_sld hx hb hX hbl hbA hs.2.2.1 hr.2.1 (dk hL_law_17 21 rfl) ?_
  refine Ct.V (As := [.int (xs (x + (1 : Int32)).toNatClampNeg)]) (rest := []) (st1 := [.long r]) (w1 := w1) C hs h4 tw_624 tw_625 tw_626 tw_79 tw_627 nq_X4_mean ⟨Nat.le_of_ble_eq_true rfl, Nat.le_of_ble_eq_true rfl⟩ 0 4 rfl rfl rfl rfl hl.1 rfl (Nat.le_of_ble_eq_true rfl) (dk hL_law_17 22 rfl) ⟨Nat.le_of_ble_eq_true rfl, Nat.le_of_ble_eq_true rfl⟩ rfl (fun H locs hs => ?_)
  refine lv_aload_n hx hb (dk hL_law_17 23 rfl) rfl (lv_at hl 2 rfl) ?_
  refine lv_aload_n hx hb (dk hL_law_17 24 rfl) rfl (lv_at hl 0 rfl) ?_
  refine lv_iload_n hx hb (dk hL_law_17 25 rfl) rfl (lv_at hl 3 rfl) ?_
  refine lv_iconst (v := (1 : Int32)) hx hb (dk hL_law_17 26 rfl) (by decide) ?_
  refine lv_iadd hx hb (dk hL_law_17 27 rfl) ?_
  refine va_sld hx hb hX hbl hbA hs.2.2.1 hr.2.1 (dk hL_law_17 28 rfl) ?_
  refine Ct.V (As := [.int (xs (x + (1 : Int32)).toNatClampNeg)]) (rest := [.long r]) (st1 := [.long r, .long r]) (w1 := (wL G a S1)) C hs h5 tw_1168 tw_1169 tw_1170 tw_85 tw_1171 nq_X5_mean ⟨Nat.le_of_ble_eq_true rfl, Nat.le_of_ble_eq_true rfl⟩ 97 5 rfl rfl h97 rfl hl.1 rfl (Nat.le_of_ble_eq_true rfl) (dk hL_law_17 29 rfl) ⟨Nat.le_of_ble_eq_true rfl, Nat.le_of_ble_eq_true rfl⟩ rfl (fun H locs hs => ?_)
  refine W.lcmp hx hb (dk hL_law_17 30 rfl) ?_
  refine lv_if_eq (tgt := 1388) hx hb (dk hL_law_17 31 rfl) (by decide) (fun hc => ?_) (fun hc => absurd (cmp_self r) hc)
  exact kk S1 H locs hI1 hs
set_option maxRecDepth 100000 in
set_option maxHeartbeats 4000000 in
theorem lc_hidden {p : Program} {l : Launch} {e : Jvm.Env} {s : State} {m : MethodId} {below : List Frame} {meth : Method} {c : Code} {H : Heap} {locs : List Loc} {Q : State → Prop} {G : Gx} {A : Nat → Prop} {a : Ax} {S : Lx} {b L : Nat} {xs : Nat → Int32} {x : Int32} {ls : Array Slot} (C : Cx p s m #[.ref b] meth c cL_law RL 4 (some .boolean) G) (hX : va_X b L xs s s.heap) (hbl : b < s.heap.size) (hbA : ¬ A b) (hr : vp_in x L ∧ vp_in (x + 1) L ∧ vp_in (x + 2) L ∧ vp_in (x + 3) L ∧ vp_in (x + 4) L) (hI : Inv S) (hs : St G A s.heap H locs (wL G a S)) (hl : lv_has ls 4 [(0, .ref b), (1, .ref (a.1 0)), (2, .ref (a.2.2.2.2.2.2.2.2.2 0)), (3, .int x)]) (kk : ∀ (S1 : Lx) (H : Heap) (locs : List Loc), Inv S1 → St G A s.heap H locs (wL G a S1) → W p l e room_1 s m #[.ref b] below meth c H locs 114 1879 Q (F0 m 1388 ls [])) : W p l e room_1 s m #[.ref b] below meth c H locs 114 1879 Q (F0 m 1096 ls []) := by
  obtain ⟨hx, hb, hml, hown, hts, hK, hret, hlk⟩ := id C
  obtain ⟨r, w1, S1, h4, ⟨fs, h97⟩, h5, hI1⟩ := st_hidden (lc := l) (G := G) (a := a) hI 
  refine lv_aload_n hx hb (dk hL_law_17 34 rfl) rfl (lv_at hl 1 rfl) ?_
  refine Ct.V (As := []) (rest := []) (st1 := [.int r]) (w1 := w1) C hs h4 tw_629 tw_630 tw_631 tw_79 tw_632 nq_X4_hidden ⟨Nat.le_of_ble_eq_true rfl, Nat.le_of_ble_eq_true rfl⟩ 0 4 rfl rfl rfl rfl hl.1 rfl (Nat.le_of_ble_eq_true rfl) (dk hL_law_17 35 rfl) ⟨Nat.le_of_ble_eq_true rfl, Nat.le_of_ble_eq_true rfl⟩ rfl (fun H locs hs => ?_)
  refine lv_aload_n hx hb (dk hL_law_17 36 rfl) rfl (lv_at hl 2 rfl) ?_
  refine Ct.V (As := []) (rest := [.int r]) (st1 := [.int r, .int r]) (w1 := (wL G a S1)) C hs h5 tw_1172 tw_1173 tw_1174 tw_85 tw_1175 nq_X5_hidden ⟨Nat.le_of_ble_eq_true rfl, Nat.le_of_ble_eq_true rfl⟩ 97 5 rfl rfl h97 rfl hl.1 rfl (Nat.le_of_ble_eq_true rfl) (dk hL_law_17 37 rfl) ⟨Nat.le_of_ble_eq_true rfl, Nat.le_of_ble_eq_true rfl⟩ rfl (fun H locs hs => ?_)
  refine lv_icmp_eq (tgt := 1388) hx hb (dk hL_law_17 38 rfl) (by decide) (fun hc => ?_) (fun hc => absurd rfl hc)
  exact kk S1 H locs hI1 hs
set_option maxRecDepth 100000 in
set_option maxHeartbeats 4000000 in
theorem lc_nextTide {p : Program} {l : Launch} {e : Jvm.Env} {s : State} {m : MethodId} {below : List Frame} {meth : Method} {c : Code} {H : Heap} {locs : List Loc} {Q : State → Prop} {G : Gx} {A : Nat → Prop} {a : Ax} {S : Lx} {b L : Nat} {xs : Nat → Int32} {x : Int32} {ls : Array Slot} (C : Cx p s m #[.ref b] meth c cL_law RL 4 (some .boolean) G) (hX : va_X b L xs s s.heap) (hbl : b < s.heap.size) (hbA : ¬ A b) (hr : vp_in x L ∧ vp_in (x + 1) L ∧ vp_in (x + 2) L ∧ vp_in (x + 3) L ∧ vp_in (x + 4) L) (hI : Inv S) (hs : St G A s.heap H locs (wL G a S)) (hl : lv_has ls 4 [(0, .ref b), (1, .ref (a.1 0)), (2, .ref (a.2.2.2.2.2.2.2.2.2 0)), (3, .int x)]) (kk : ∀ (S1 : Lx) (H : Heap) (locs : List Loc), Inv S1 → St G A s.heap H locs (wL G a S1) → W p l e room_1 s m #[.ref b] below meth c H locs 114 1879 Q (F0 m 1388 ls [])) : W p l e room_1 s m #[.ref b] below meth c H locs 114 1879 Q (F0 m 1109 ls []) := by
  obtain ⟨hx, hb, hml, hown, hts, hK, hret, hlk⟩ := id C
  obtain ⟨r, w1, S1, h4, ⟨fs, h97⟩, h5, hI1⟩ := st_nextTide (lc := l) (G := G) (a := a) hI (xs (x + (1 : Int32)).toNatClampNeg)
  refine lv_aload_n hx hb (dk hL_law_18 1 rfl) rfl (lv_at hl 1 rfl) ?_
  refine lv_aload_n hx hb (dk hL_law_18 2 rfl) rfl (lv_at hl 0 rfl) ?_
  refine lv_iload_n hx hb (dk hL_law_18 3 rfl) rfl (lv_at hl 3 rfl) ?_
  refine lv_iconst (v := (1 : Int32)) hx hb (dk hL_law_18 4 rfl) (by decide) ?_
  refine lv_iadd hx hb (dk hL_law_18 5 rfl) ?_
  refine va_sld hx hb hX hbl hbA hs.2.2.1 hr.2.1 (dk hL_law_18 6 rfl) ?_
  refine Ct.V (As := [.int (xs (x + (1 : Int32)).toNatClampNeg)]) (rest := []) (st1 := [.int r]) (w1 := w1) C hs h4 tw_633 tw_634 tw_635 tw_79 tw_636 nq_X4_nextTide ⟨Nat.le_of_ble_eq_true rfl, Nat.le_of_ble_eq_true rfl⟩ 0 4 rfl rfl rfl rfl hl.1 rfl (Nat.le_of_ble_eq_true rfl) (dk hL_law_18 7 rfl) ⟨Nat.le_of_ble_eq_true rfl, Nat.le_of_ble_eq_true rfl⟩ rfl (fun H locs hs => ?_)
  refine lv_aload_n hx hb (dk hL_law_18 8 rfl) rfl (lv_at hl 2 rfl) ?_
  refine lv_aload_n hx hb (dk hL_law_18 9 rfl) rfl (lv_at hl 0 rfl) ?_
  refine lv_iload_n hx hb (dk hL_law_18 10 rfl) rfl (lv_at hl 3 rfl) ?_
  refine lv_iconst (v := (1 : Int32)) hx hb (dk hL_law_18 11 rfl) (by decide) ?_
  refine lv_iadd hx hb (dk hL_law_18 12 rfl) ?_
  refine va_sld hx hb hX hbl hbA hs.2.2.1 hr.2.1 (dk hL_law_18 13 rfl) ?_
  refine Ct.V (As := [.int (xs (x + (1 : Int32)).toNatClampNeg)]) (rest := [.int r]) (st1 := [.int r, .int r]) (w1 := (wL G a S1)) C hs h5 tw_1176 tw_1177 tw_1178 tw_85 tw_1179 nq_X5_nextTide ⟨Nat.le_of_ble_eq_true rfl, Nat.le_of_ble_eq_true rfl⟩ 97 5 rfl rfl h97 rfl hl.1 rfl (Nat.le_of_ble_eq_true rfl) (dk hL_law_18 14 rfl) ⟨Nat.le_of_ble_eq_true rfl, Nat.le_of_ble_eq_true rfl⟩ rfl (fun H locs hs => ?_)
  refine lv_icmp_eq (tgt := 1388) hx hb (dk hL_law_18 15 rfl) (by decide) (fun hc => ?_) (fun hc => absurd rfl hc)
  exact kk S1 H locs hI1 hs
set_option maxRecDepth 100000 in
set_option maxHeartbeats 4000000 in
theorem lc_empty {p : Program} {l : Launch} {e : Jvm.Env} {s : State} {m : MethodId} {below : List Frame} {meth : Method} {c : Code} {H : Heap} {locs : List Loc} {Q : State → Prop} {G : Gx} {A : Nat → Prop} {a : Ax} {S : Lx} {b L : Nat} {xs : Nat → Int32} {x : Int32} {ls : Array Slot} (C : Cx p s m #[.ref b] meth c cL_law RL 4 (some .boolean) G) (hX : va_X b L xs s s.heap) (hbl : b < s.heap.size) (hbA : ¬ A b) (hr : vp_in x L ∧ vp_in (x + 1) L ∧ vp_in (x + 2) L ∧ vp_in (x + 3) L ∧ vp_in (x + 4) L) (hI : Inv S) (hs : St G A s.heap H locs (wL G a S)) (hl : lv_has ls 4 [(0, .ref b), (1, .ref (a.1 0)), (2, .ref (a.2.2.2.2.2.2.2.2.2 0)), (3, .int x)]) (kk : ∀ (S1 : Lx) (H : Heap) (locs : List Loc), Inv S1 → St G A s.heap H locs (wL G a S1) → W p l e room_1 s m #[.ref b] below meth c H locs 114 1879 Q (F0 m 1388 ls [])) : W p l e room_1 s m #[.ref b] below meth c H locs 114 1879 Q (F0 m 1132 ls []) := by
  obtain ⟨hx, hb, hml, hown, hts, hK, hret, hlk⟩ := id C
  obtain ⟨r, w1, S1, h4, ⟨fs, h97⟩, h5, hI1⟩ := st_empty (lc := l) (G := G) (a := a) hI 
  refine lv_aload_n hx hb (dk hL_law_18 18 rfl) rfl (lv_at hl 1 rfl) ?_
  refine Ct.V (As := []) (rest := []) (st1 := [.int r]) (w1 := w1) C hs h4 tw_637 tw_638 tw_639 tw_79 tw_640 nq_X4_empty ⟨Nat.le_of_ble_eq_true rfl, Nat.le_of_ble_eq_true rfl⟩ 0 4 rfl rfl rfl rfl hl.1 rfl (Nat.le_of_ble_eq_true rfl) (dk hL_law_18 19 rfl) ⟨Nat.le_of_ble_eq_true rfl, Nat.le_of_ble_eq_true rfl⟩ rfl (fun H locs hs => ?_)
  refine lv_aload_n hx hb (dk hL_law_18 20 rfl) rfl (lv_at hl 2 rfl) ?_
  refine Ct.V (As := []) (rest := [.int r]) (st1 := [.int r, .int r]) (w1 := (wL G a S1)) C hs h5 tw_1180 tw_1181 tw_1182 tw_85 tw_1183 nq_X5_empty ⟨Nat.le_of_ble_eq_true rfl, Nat.le_of_ble_eq_true rfl⟩ 97 5 rfl rfl h97 rfl hl.1 rfl (Nat.le_of_ble_eq_true rfl) (dk hL_law_18 21 rfl) ⟨Nat.le_of_ble_eq_true rfl, Nat.le_of_ble_eq_true rfl⟩ rfl (fun H locs hs => ?_)
  refine lv_icmp_eq (tgt := 1388) hx hb (dk hL_law_18 22 rfl) (by decide) (fun hc => ?_) (fun hc => absurd rfl hc)
  exact kk S1 H locs hI1 hs
set_option maxRecDepth 100000 in
set_option maxHeartbeats 4000000 in
theorem lc_carried {p : Program} {l : Launch} {e : Jvm.Env} {s : State} {m : MethodId} {below : List Frame} {meth : Method} {c : Code} {H : Heap} {locs : List Loc} {Q : State → Prop} {G : Gx} {A : Nat → Prop} {a : Ax} {S : Lx} {b L : Nat} {xs : Nat → Int32} {x : Int32} {ls : Array Slot} (C : Cx p s m #[.ref b] meth c cL_law RL 4 (some .boolean) G) (hX : va_X b L xs s s.heap) (hbl : b < s.heap.size) (hbA : ¬ A b) (hr : vp_in x L ∧ vp_in (x + 1) L ∧ vp_in (x + 2) L ∧ vp_in (x + 3) L ∧ vp_in (x + 4) L) (hI : Inv S) (hs : St G A s.heap H locs (wL G a S)) (hl : lv_has ls 4 [(0, .ref b), (1, .ref (a.1 0)), (2, .ref (a.2.2.2.2.2.2.2.2.2 0)), (3, .int x)]) (kk : ∀ (S1 : Lx) (H : Heap) (locs : List Loc), Inv S1 → St G A s.heap H locs (wL G a S1) → W p l e room_1 s m #[.ref b] below meth c H locs 114 1879 Q (F0 m 1388 ls [])) : W p l e room_1 s m #[.ref b] below meth c H locs 114 1879 Q (F0 m 1145 ls []) := by
  obtain ⟨hx, hb, hml, hown, hts, hK, hret, hlk⟩ := id C
  obtain ⟨r, w1, S1, h4, ⟨fs, h97⟩, h5, hI1⟩ := st_carried (lc := l) (G := G) (a := a) hI (xs (x + (1 : Int32)).toNatClampNeg)
  refine lv_aload_n hx hb (dk hL_law_18 25 rfl) rfl (lv_at hl 1 rfl) ?_
  refine lv_aload_n hx hb (dk hL_law_18 26 rfl) rfl (lv_at hl 0 rfl) ?_
  refine lv_iload_n hx hb (dk hL_law_18 27 rfl) rfl (lv_at hl 3 rfl) ?_
  refine lv_iconst (v := (1 : Int32)) hx hb (dk hL_law_18 28 rfl) (by decide) ?_
  refine lv_iadd hx hb (dk hL_law_18 29 rfl) ?_
  refine va_sld hx hb hX hbl hbA hs.2.2.1 hr.2.1 (dk hL_law_18 30 rfl) ?_
  refine Ct.V (As := [.int (xs (x + (1 : Int32)).toNatClampNeg)]) (rest := []) (st1 := [.int r]) (w1 := w1) C hs h4 tw_641 tw_642 tw_643 tw_79 tw_644 nq_X4_carried ⟨Nat.le_of_ble_eq_true rfl, Nat.le_of_ble_eq_true rfl⟩ 0 4 rfl rfl rfl rfl hl.1 rfl (Nat.le_of_ble_eq_true rfl) (dk hL_law_18 31 rfl) ⟨Nat.le_of_ble_eq_true rfl, Nat.le_of_ble_eq_true rfl⟩ rfl (fun H locs hs => ?_)
  refine lv_aload_n hx hb (dk hL_law_18 32 rfl) rfl (lv_at hl 2 rfl) ?_
  refine lv_aload_n hx hb (dk hL_law_18 33 rfl) rfl (lv_at hl 0 rfl) ?_
  refine lv_iload_n hx hb (dk hL_law_18 34 rfl) rfl (lv_at hl 3 rfl) ?_
  refine lv_iconst (v := (1 : Int32)) hx hb (dk hL_law_18 35 rfl) (by decide) ?_
  refine lv_iadd hx hb (dk hL_law_18 36 rfl) ?_
  refine va_sld hx hb hX hbl hbA hs.2.2.1 hr.2.1 (dk hL_law_18 37 rfl) ?_
  refine Ct.V (As := [.int (xs (x + (1 : Int32)).toNatClampNeg)]) (rest := [.int r]) (st1 := [.int r, .int r]) (w1 := (wL G a S1)) C hs h5 tw_1184 tw_1185 tw_1186 tw_85 tw_1187 nq_X5_carried ⟨Nat.le_of_ble_eq_true rfl, Nat.le_of_ble_eq_true rfl⟩ 97 5 rfl rfl h97 rfl hl.1 rfl (Nat.le_of_ble_eq_true rfl) (dk hL_law_18 38 rfl) ⟨Nat.le_of_ble_eq_true rfl, Nat.le_of_ble_eq_true rfl⟩ rfl (fun H locs hs => ?_)
  refine lv_icmp_eq (tgt := 1388) hx hb (dk hL_law_18 39 rfl) (by decide) (fun hc => ?_) (fun hc => absurd rfl hc)
  exact kk S1 H locs hI1 hs
set_option maxRecDepth 100000 in
set_option maxHeartbeats 4000000 in
theorem lc_filled {p : Program} {l : Launch} {e : Jvm.Env} {s : State} {m : MethodId} {below : List Frame} {meth : Method} {c : Code} {H : Heap} {locs : List Loc} {Q : State → Prop} {G : Gx} {A : Nat → Prop} {a : Ax} {S : Lx} {b L : Nat} {xs : Nat → Int32} {x : Int32} {ls : Array Slot} (C : Cx p s m #[.ref b] meth c cL_law RL 4 (some .boolean) G) (hX : va_X b L xs s s.heap) (hbl : b < s.heap.size) (hbA : ¬ A b) (hr : vp_in x L ∧ vp_in (x + 1) L ∧ vp_in (x + 2) L ∧ vp_in (x + 3) L ∧ vp_in (x + 4) L) (hI : Inv S) (hs : St G A s.heap H locs (wL G a S)) (hl : lv_has ls 4 [(0, .ref b), (1, .ref (a.1 0)), (2, .ref (a.2.2.2.2.2.2.2.2.2 0)), (3, .int x)]) (kk : ∀ (S1 : Lx) (H : Heap) (locs : List Loc), Inv S1 → St G A s.heap H locs (wL G a S1) → W p l e room_1 s m #[.ref b] below meth c H locs 114 1879 Q (F0 m 1388 ls [])) : W p l e room_1 s m #[.ref b] below meth c H locs 114 1879 Q (F0 m 1168 ls []) := by
  obtain ⟨hx, hb, hml, hown, hts, hK, hret, hlk⟩ := id C
  obtain ⟨r, w1, S1, h4, ⟨fs, h97⟩, h5, hI1⟩ := st_filled (lc := l) (G := G) (a := a) hI 
  refine lv_aload_n hx hb (dk hL_law_19 2 rfl) rfl (lv_at hl 1 rfl) ?_
  refine Ct.V (As := []) (rest := []) (st1 := [.int r]) (w1 := w1) C hs h4 tw_646 tw_647 tw_648 tw_79 tw_649 nq_X4_filled ⟨Nat.le_of_ble_eq_true rfl, Nat.le_of_ble_eq_true rfl⟩ 0 4 rfl rfl rfl rfl hl.1 rfl (Nat.le_of_ble_eq_true rfl) (dk hL_law_19 3 rfl) ⟨Nat.le_of_ble_eq_true rfl, Nat.le_of_ble_eq_true rfl⟩ rfl (fun H locs hs => ?_)
  refine lv_aload_n hx hb (dk hL_law_19 4 rfl) rfl (lv_at hl 2 rfl) ?_
  refine Ct.V (As := []) (rest := [.int r]) (st1 := [.int r, .int r]) (w1 := (wL G a S1)) C hs h5 tw_1188 tw_1189 tw_1190 tw_85 tw_1191 nq_X5_filled ⟨Nat.le_of_ble_eq_true rfl, Nat.le_of_ble_eq_true rfl⟩ 97 5 rfl rfl h97 rfl hl.1 rfl (Nat.le_of_ble_eq_true rfl) (dk hL_law_19 5 rfl) ⟨Nat.le_of_ble_eq_true rfl, Nat.le_of_ble_eq_true rfl⟩ rfl (fun H locs hs => ?_)
  refine lv_icmp_eq (tgt := 1388) hx hb (dk hL_law_19 6 rfl) (by decide) (fun hc => ?_) (fun hc => absurd rfl hc)
  exact kk S1 H locs hI1 hs
set_option maxRecDepth 100000 in
set_option maxHeartbeats 4000000 in
theorem lc_spared {p : Program} {l : Launch} {e : Jvm.Env} {s : State} {m : MethodId} {below : List Frame} {meth : Method} {c : Code} {H : Heap} {locs : List Loc} {Q : State → Prop} {G : Gx} {A : Nat → Prop} {a : Ax} {S : Lx} {b L : Nat} {xs : Nat → Int32} {x : Int32} {ls : Array Slot} (C : Cx p s m #[.ref b] meth c cL_law RL 4 (some .boolean) G) (hX : va_X b L xs s s.heap) (hbl : b < s.heap.size) (hbA : ¬ A b) (hr : vp_in x L ∧ vp_in (x + 1) L ∧ vp_in (x + 2) L ∧ vp_in (x + 3) L ∧ vp_in (x + 4) L) (hI : Inv S) (hs : St G A s.heap H locs (wL G a S)) (hl : lv_has ls 4 [(0, .ref b), (1, .ref (a.1 0)), (2, .ref (a.2.2.2.2.2.2.2.2.2 0)), (3, .int x)]) (kk : ∀ (S1 : Lx) (H : Heap) (locs : List Loc), Inv S1 → St G A s.heap H locs (wL G a S1) → W p l e room_1 s m #[.ref b] below meth c H locs 114 1879 Q (F0 m 1388 ls [])) : W p l e room_1 s m #[.ref b] below meth c H locs 114 1879 Q (F0 m 1181 ls []) := by
  obtain ⟨hx, hb, hml, hown, hts, hK, hret, hlk⟩ := id C
  obtain ⟨r, w1, S1, h4, ⟨fs, h97⟩, h5, hI1⟩ := st_spared (lc := l) (G := G) (a := a) hI (xs (x + (1 : Int32)).toNatClampNeg) (xs (x + (2 : Int32)).toNatClampNeg)
  refine lv_aload_n hx hb (dk hL_law_19 9 rfl) rfl (lv_at hl 1 rfl) ?_
  refine lv_aload_n hx hb (dk hL_law_19 10 rfl) rfl (lv_at hl 0 rfl) ?_
  refine lv_iload_n hx hb (dk hL_law_19 11 rfl) rfl (lv_at hl 3 rfl) ?_
  refine lv_iconst (v := (1 : Int32)) hx hb (dk hL_law_19 12 rfl) (by decide) ?_
  refine lv_iadd hx hb (dk hL_law_19 13 rfl) ?_
  refine va_sld hx hb hX hbl hbA hs.2.2.1 hr.2.1 (dk hL_law_19 14 rfl) ?_
  refine lv_aload_n hx hb (dk hL_law_19 15 rfl) rfl (lv_at hl 0 rfl) ?_
  refine lv_iload_n hx hb (dk hL_law_19 16 rfl) rfl (lv_at hl 3 rfl) ?_
  refine lv_iconst (v := (2 : Int32)) hx hb (dk hL_law_19 17 rfl) (by decide) ?_
  refine lv_iadd hx hb (dk hL_law_19 18 rfl) ?_
  refine va_sld hx hb hX hbl hbA hs.2.2.1 hr.2.2.1 (dk hL_law_19 19 rfl) ?_
  refine Ct.V (As := [.int (xs (x + (1 : Int32)).toNatClampNeg), .int (xs (x + (2 : Int32)).toNatClampNeg)]) (rest := []) (st1 := [.int r]) (w1 := w1) C hs h4 tw_651 tw_652 tw_653 tw_79 tw_654 nq_X4_spared ⟨Nat.le_of_ble_eq_true rfl, Nat.le_of_ble_eq_true rfl⟩ 0 4 rfl rfl rfl rfl hl.1 rfl (Nat.le_of_ble_eq_true rfl) (dk hL_law_19 20 rfl) ⟨Nat.le_of_ble_eq_true rfl, Nat.le_of_ble_eq_true rfl⟩ rfl (fun H locs hs => ?_)
  refine lv_aload_n hx hb (dk hL_law_19 21 rfl) rfl (lv_at hl 2 rfl) ?_
  refine lv_aload_n hx hb (dk hL_law_19 22 rfl) rfl (lv_at hl 0 rfl) ?_
  refine lv_iload_n hx hb (dk hL_law_19 23 rfl) rfl (lv_at hl 3 rfl) ?_
  refine lv_iconst (v := (1 : Int32)) hx hb (dk hL_law_19 24 rfl) (by decide) ?_
  refine lv_iadd hx hb (dk hL_law_19 25 rfl) ?_
  refine va_sld hx hb hX hbl hbA hs.2.2.1 hr.2.1 (dk hL_law_19 26 rfl) ?_
  refine lv_aload_n hx hb (dk hL_law_19 27 rfl) rfl (lv_at hl 0 rfl) ?_
  refine lv_iload_n hx hb (dk hL_law_19 28 rfl) rfl (lv_at hl 3 rfl) ?_
  refine lv_iconst (v := (2 : Int32)) hx hb (dk hL_law_19 29 rfl) (by decide) ?_
  refine lv_iadd hx hb (dk hL_law_19 30 rfl) ?_
  refine va_sld hx hb hX hbl hbA hs.2.2.1 hr.2.2.1 (dk hL_law_19 31 rfl) ?_
  refine Ct.V (As := [.int (xs (x + (1 : Int32)).toNatClampNeg), .int (xs (x + (2 : Int32)).toNatClampNeg)]) (rest := [.int r]) (st1 := [.int r, .int r]) (w1 := (wL G a S1)) C hs h5 tw_1192 tw_1193 tw_1194 tw_85 tw_1195 nq_X5_spared ⟨Nat.le_of_ble_eq_true rfl, Nat.le_of_ble_eq_true rfl⟩ 97 5 rfl rfl h97 rfl hl.1 rfl (Nat.le_of_ble_eq_true rfl) (dk hL_law_19 32 rfl) ⟨Nat.le_of_ble_eq_true rfl, Nat.le_of_ble_eq_true rfl⟩ rfl (fun H locs hs => ?_)
  refine lv_icmp_eq (tgt := 1388) hx hb (dk hL_law_19 33 rfl) (by decide) (fun hc => ?_) (fun hc => absurd rfl hc)
  exact kk S1 H locs hI1 hs
set_option maxRecDepth 100000 in
set_option maxHeartbeats 4000000 in
theorem lc_race {p : Program} {l : Launch} {e : Jvm.Env} {s : State} {m : MethodId} {below : List Frame} {meth : Method} {c : Code} {H : Heap} {locs : List Loc} {Q : State → Prop} {G : Gx} {A : Nat → Prop} {a : Ax} {S : Lx} {b L : Nat} {xs : Nat → Int32} {x : Int32} {ls : Array Slot} (C : Cx p s m #[.ref b] meth c cL_law RL 4 (some .boolean) G) (hX : va_X b L xs s s.heap) (hbl : b < s.heap.size) (hbA : ¬ A b) (hr : vp_in x L ∧ vp_in (x + 1) L ∧ vp_in (x + 2) L ∧ vp_in (x + 3) L ∧ vp_in (x + 4) L) (hI : Inv S) (hs : St G A s.heap H locs (wL G a S)) (hl : lv_has ls 4 [(0, .ref b), (1, .ref (a.1 0)), (2, .ref (a.2.2.2.2.2.2.2.2.2 0)), (3, .int x)]) (kk : ∀ (S1 : Lx) (H : Heap) (locs : List Loc), Inv S1 → St G A s.heap H locs (wL G a S1) → W p l e room_1 s m #[.ref b] below meth c H locs 114 1879 Q (F0 m 1388 ls [])) : W p l e room_1 s m #[.ref b] below meth c H locs 114 1879 Q (F0 m 1214 ls []) := by
  obtain ⟨hx, hb, hml, hown, hts, hK, hret, hlk⟩ := id C
  obtain ⟨r, w1, S1, h4, ⟨fs, h97⟩, h5, hI1⟩ := st_race (lc := l) (G := G) (a := a) hI (xs (x + (1 : Int32)).toNatClampNeg) (xs (x + (2 : Int32)).toNatClampNeg)
  refine lv_aload_n hx hb (dk hL_law_19 36 rfl) rfl (lv_at hl 1 rfl) ?_
  refine lv_aload_n hx hb (dk hL_law_19 37 rfl) rfl (lv_at hl 0 rfl) ?_
  refine lv_iload_n hx hb (dk hL_law_19 38 rfl) rfl (lv_at hl 3 rfl) ?_
  refine lv_iconst (v := (1 : Int32)) hx hb (dk hL_law_19 39 rfl) (by decide) ?_
  refine lv_iadd hx hb (dk hL_law_20 0 rfl) ?_
  refine va_sld hx hb hX hbl hbA hs.2.2.1 hr.2.1 (dk hL_law_20 1 rfl) ?_
  refine lv_aload_n hx hb (dk hL_law_20 2 rfl) rfl (lv_at hl 0 rfl) ?_
  refine lv_iload_n hx hb (dk hL_law_20 3 rfl) rfl (lv_at hl 3 rfl) ?_
  refine lv_iconst (v := (2 : Int32)) hx hb (dk hL_law_20 4 rfl) (by decide) ?_
  refine lv_iadd hx hb (dk hL_law_20 5 rfl) ?_
  refine va_sld hx hb hX hbl hbA hs.2.2.1 hr.2.2.1 (dk hL_law_20 6 rfl) ?_
  refine Ct.V (As := [.int (xs (x + (1 : Int32)).toNatClampNeg), .int (xs (x + (2 : Int32)).toNatClampNeg)]) (rest := []) (st1 := [.int r]) (w1 := w1) C hs h4 tw_656 tw_657 tw_658 tw_79 tw_659 nq_X4_race ⟨Nat.le_of_ble_eq_true rfl, Nat.le_of_ble_eq_true rfl⟩ 0 4 rfl rfl rfl rfl hl.1 rfl (Nat.le_of_ble_eq_true rfl) (dk hL_law_20 7 rfl) ⟨Nat.le_of_ble_eq_true rfl, Nat.le_of_ble_eq_true rfl⟩ rfl (fun H locs hs => ?_)
  refine lv_aload_n hx hb (dk hL_law_20 8 rfl) rfl (lv_at hl 2 rfl) ?_
  refine lv_aload_n hx hb (dk hL_law_20 9 rfl) rfl (lv_at hl 0 rfl) ?_
  refine lv_iload_n hx hb (dk hL_law_20 10 rfl) rfl (lv_at hl 3 rfl) ?_
  refine lv_iconst (v := (1 : Int32)) hx hb (dk hL_law_20 11 rfl) (by decide) ?_
  refine lv_iadd hx hb (dk hL_law_20 12 rfl) ?_
  refine va_sld hx hb hX hbl hbA hs.2.2.1 hr.2.1 (dk hL_law_20 13 rfl) ?_
  refine lv_aload_n hx hb (dk hL_law_20 14 rfl) rfl (lv_at hl 0 rfl) ?_
  refine lv_iload_n hx hb (dk hL_law_20 15 rfl) rfl (lv_at hl 3 rfl) ?_
  refine lv_iconst (v := (2 : Int32)) hx hb (dk hL_law_20 16 rfl) (by decide) ?_
  refine lv_iadd hx hb (dk hL_law_20 17 rfl) ?_
  refine va_sld hx hb hX hbl hbA hs.2.2.1 hr.2.2.1 (dk hL_law_20 18 rfl) ?_
  refine Ct.V (As := [.int (xs (x + (1 : Int32)).toNatClampNeg), .int (xs (x + (2 : Int32)).toNatClampNeg)]) (rest := [.int r]) (st1 := [.int r, .int r]) (w1 := (wL G a S1)) C hs h5 tw_1201 tw_1202 tw_1203 tw_85 tw_1204 nq_X5_race ⟨Nat.le_of_ble_eq_true rfl, Nat.le_of_ble_eq_true rfl⟩ 97 5 rfl rfl h97 rfl hl.1 rfl (Nat.le_of_ble_eq_true rfl) (dk hL_law_20 19 rfl) ⟨Nat.le_of_ble_eq_true rfl, Nat.le_of_ble_eq_true rfl⟩ rfl (fun H locs hs => ?_)
  refine lv_icmp_eq (tgt := 1388) hx hb (dk hL_law_20 20 rfl) (by decide) (fun hc => ?_) (fun hc => absurd rfl hc)
  exact kk S1 H locs hI1 hs
set_option maxRecDepth 100000 in
set_option maxHeartbeats 4000000 in
theorem lc_row {p : Program} {l : Launch} {e : Jvm.Env} {s : State} {m : MethodId} {below : List Frame} {meth : Method} {c : Code} {H : Heap} {locs : List Loc} {Q : State → Prop} {G : Gx} {A : Nat → Prop} {a : Ax} {S : Lx} {b L : Nat} {xs : Nat → Int32} {x : Int32} {ls : Array Slot} (C : Cx p s m #[.ref b] meth c cL_law RL 4 (some .boolean) G) (hX : va_X b L xs s s.heap) (hbl : b < s.heap.size) (hbA : ¬ A b) (hr : vp_in x L ∧ vp_in (x + 1) L ∧ vp_in (x + 2) L ∧ vp_in (x + 3) L ∧ vp_in (x + 4) L) (hI : Inv S) (hs : St G A s.heap H locs (wL G a S)) (hl : lv_has ls 4 [(0, .ref b), (1, .ref (a.1 0)), (2, .ref (a.2.2.2.2.2.2.2.2.2 0)), (3, .int x)]) (kk : ∀ (S1 : Lx) (H : Heap) (locs : List Loc), Inv S1 → St G A s.heap H locs (wL G a S1) → W p l e room_1 s m #[.ref b] below meth c H locs 114 1879 Q (F0 m 1388 ls [])) : W p l e room_1 s m #[.ref b] below meth c H locs 114 1879 Q (F0 m 1247 ls []) := by
  obtain ⟨hx, hb, hml, hown, hts, hK, hret, hlk⟩ := id C
  obtain ⟨r, w1, S1, h4, ⟨fs, h97⟩, h5, hI1⟩ := st_row (lc := l) (G := G) (a := a) hI (xs (x + (1 : Int32)).toNatClampNeg)
  refine lv_aload_n hx hb (dk hL_law_20 23 rfl) rfl (lv_at hl 1 rfl) ?_
  refine lv_aload_n hx hb (dk hL_law_20 24 rfl) rfl (lv_at hl 0 rfl) ?_
  refine lv_iload_n hx hb (dk hL_law_20 25 rfl) rfl (lv_at hl 3 rfl) ?_
  refine lv_iconst (v := (1 : Int32)) hx hb (dk hL_law_20 26 rfl) (by decide) ?_
  refine lv_iadd hx hb (dk hL_law_20 27 rfl) ?_
  refine va_sld hx hb hX hbl hbA hs.2.2.1 hr.2.1 (dk hL_law_20 28 rfl) ?_
  refine Ct.V (As := [.int (xs (x + (1 : Int32)).toNatClampNeg)]) (rest := []) (st1 := [.int r]) (w1 := w1) C hs h4 tw_660 tw_661 tw_662 tw_79 tw_663 nq_X4_row ⟨Nat.le_of_ble_eq_true rfl, Nat.le_of_ble_eq_true rfl⟩ 0 4 rfl rfl rfl rfl hl.1 rfl (Nat.le_of_ble_eq_true rfl) (dk hL_law_20 29 rfl) ⟨Nat.le_of_ble_eq_true rfl, Nat.le_of_ble_eq_true rfl⟩ rfl (fun H locs hs => ?_)
  refine lv_aload_n hx hb (dk hL_law_20 30 rfl) rfl (lv_at hl 2 rfl) ?_
  refine lv_aload_n hx hb (dk hL_law_20 31 rfl) rfl (lv_at hl 0 rfl) ?_
  refine lv_iload_n hx hb (dk hL_law_20 32 rfl) rfl (lv_at hl 3 rfl) ?_
  refine lv_iconst (v := (1 : Int32)) hx hb (dk hL_law_20 33 rfl) (by decide) ?_
  refine lv_iadd hx hb (dk hL_law_20 34 rfl) ?_
  refine va_sld hx hb hX hbl hbA hs.2.2.1 hr.2.1 (dk hL_law_20 35 rfl) ?_
  refine Ct.V (As := [.int (xs (x + (1 : Int32)).toNatClampNeg)]) (rest := [.int r]) (st1 := [.int r, .int r]) (w1 := (wL G a S1)) C hs h5 tw_1205 tw_1206 tw_1207 tw_85 tw_1208 nq_X5_row ⟨Nat.le_of_ble_eq_true rfl, Nat.le_of_ble_eq_true rfl⟩ 97 5 rfl rfl h97 rfl hl.1 rfl (Nat.le_of_ble_eq_true rfl) (dk hL_law_20 36 rfl) ⟨Nat.le_of_ble_eq_true rfl, Nat.le_of_ble_eq_true rfl⟩ rfl (fun H locs hs => ?_)
  refine lv_icmp_eq (tgt := 1388) hx hb (dk hL_law_20 37 rfl) (by decide) (fun hc => ?_) (fun hc => absurd rfl hc)
  exact kk S1 H locs hI1 hs
set_option maxRecDepth 100000 in
set_option maxHeartbeats 4000000 in
theorem lc_judge {p : Program} {l : Launch} {e : Jvm.Env} {s : State} {m : MethodId} {below : List Frame} {meth : Method} {c : Code} {H : Heap} {locs : List Loc} {Q : State → Prop} {G : Gx} {A : Nat → Prop} {a : Ax} {S : Lx} {b L : Nat} {xs : Nat → Int32} {x : Int32} {ls : Array Slot} (C : Cx p s m #[.ref b] meth c cL_law RL 4 (some .boolean) G) (hX : va_X b L xs s s.heap) (hbl : b < s.heap.size) (hbA : ¬ A b) (hr : vp_in x L ∧ vp_in (x + 1) L ∧ vp_in (x + 2) L ∧ vp_in (x + 3) L ∧ vp_in (x + 4) L) (hI : Inv S) (hs : St G A s.heap H locs (wL G a S)) (hl : lv_has ls 4 [(0, .ref b), (1, .ref (a.1 0)), (2, .ref (a.2.2.2.2.2.2.2.2.2 0)), (3, .int x)]) (kk : ∀ (S1 : Lx) (H : Heap) (locs : List Loc), Inv S1 → St G A s.heap H locs (wL G a S1) → W p l e room_1 s m #[.ref b] below meth c H locs 114 1879 Q (F0 m 1388 ls [])) : W p l e room_1 s m #[.ref b] below meth c H locs 114 1879 Q (F0 m 1270 ls []) := by
  obtain ⟨hx, hb, hml, hown, hts, hK, hret, hlk⟩ := id C
  obtain ⟨r, w1, S1, h4, ⟨fs, h97⟩, h5, hI1⟩ := st_judge (lc := l) (G := G) (a := a) hI 
  refine lv_aload_n hx hb (dk hL_law_21 0 rfl) rfl (lv_at hl 1 rfl) ?_
  refine Ct.V (As := []) (rest := []) (st1 := [.int r]) (w1 := w1) C hs h4 tw_664 tw_665 tw_666 tw_79 tw_667 nq_X4_judge ⟨Nat.le_of_ble_eq_true rfl, Nat.le_of_ble_eq_true rfl⟩ 0 4 rfl rfl rfl rfl hl.1 rfl (Nat.le_of_ble_eq_true rfl) (dk hL_law_21 1 rfl) ⟨Nat.le_of_ble_eq_true rfl, Nat.le_of_ble_eq_true rfl⟩ rfl (fun H locs hs => ?_)
  refine lv_aload_n hx hb (dk hL_law_21 2 rfl) rfl (lv_at hl 2 rfl) ?_
  refine Ct.V (As := []) (rest := [.int r]) (st1 := [.int r, .int r]) (w1 := (wL G a S1)) C hs h5 tw_1209 tw_1210 tw_1211 tw_85 tw_1212 nq_X5_judge ⟨Nat.le_of_ble_eq_true rfl, Nat.le_of_ble_eq_true rfl⟩ 97 5 rfl rfl h97 rfl hl.1 rfl (Nat.le_of_ble_eq_true rfl) (dk hL_law_21 3 rfl) ⟨Nat.le_of_ble_eq_true rfl, Nat.le_of_ble_eq_true rfl⟩ rfl (fun H locs hs => ?_)
  refine lv_icmp_eq (tgt := 1388) hx hb (dk hL_law_21 4 rfl) (by decide) (fun hc => ?_) (fun hc => absurd rfl hc)
  exact kk S1 H locs hI1 hs
set_option maxRecDepth 100000 in
set_option maxHeartbeats 4000000 in
theorem lc_clear {p : Program} {l : Launch} {e : Jvm.Env} {s : State} {m : MethodId} {below : List Frame} {meth : Method} {c : Code} {H : Heap} {locs : List Loc} {Q : State → Prop} {G : Gx} {A : Nat → Prop} {a : Ax} {S : Lx} {b L : Nat} {xs : Nat → Int32} {x : Int32} {ls : Array Slot} (C : Cx p s m #[.ref b] meth c cL_law RL 4 (some .boolean) G) (hX : va_X b L xs s s.heap) (hbl : b < s.heap.size) (hbA : ¬ A b) (hr : vp_in x L ∧ vp_in (x + 1) L ∧ vp_in (x + 2) L ∧ vp_in (x + 3) L ∧ vp_in (x + 4) L) (hI : Inv S) (hs : St G A s.heap H locs (wL G a S)) (hl : lv_has ls 4 [(0, .ref b), (1, .ref (a.1 0)), (2, .ref (a.2.2.2.2.2.2.2.2.2 0)), (3, .int x)]) (kk : ∀ (S1 : Lx) (H : Heap) (locs : List Loc), Inv S1 → St G A s.heap H locs (wL G a S1) → W p l e room_1 s m #[.ref b] below meth c H locs 114 1879 Q (F0 m 1388 ls [])) : W p l e room_1 s m #[.ref b] below meth c H locs 114 1879 Q (F0 m 1283 ls []) := by
  obtain ⟨hx, hb, hml, hown, hts, hK, hret, hlk⟩ := id C
  obtain ⟨r, w1, S1, h4, ⟨fs, h97⟩, h5, hI1⟩ := st_clear (lc := l) (G := G) (a := a) hI 
  refine lv_aload_n hx hb (dk hL_law_21 7 rfl) rfl (lv_at hl 1 rfl) ?_
  refine Ct.V (As := []) (rest := []) (st1 := [.int r]) (w1 := w1) C hs h4 tw_668 tw_669 tw_670 tw_79 tw_671 nq_X4_clear ⟨Nat.le_of_ble_eq_true rfl, Nat.le_of_ble_eq_true rfl⟩ 0 4 rfl rfl rfl rfl hl.1 rfl (Nat.le_of_ble_eq_true rfl) (dk hL_law_21 8 rfl) ⟨Nat.le_of_ble_eq_true rfl, Nat.le_of_ble_eq_true rfl⟩ rfl (fun H locs hs => ?_)
  refine lv_aload_n hx hb (dk hL_law_21 9 rfl) rfl (lv_at hl 2 rfl) ?_
  refine Ct.V (As := []) (rest := [.int r]) (st1 := [.int r, .int r]) (w1 := (wL G a S1)) C hs h5 tw_1213 tw_1214 tw_1215 tw_85 tw_1216 nq_X5_clear ⟨Nat.le_of_ble_eq_true rfl, Nat.le_of_ble_eq_true rfl⟩ 97 5 rfl rfl h97 rfl hl.1 rfl (Nat.le_of_ble_eq_true rfl) (dk hL_law_21 10 rfl) ⟨Nat.le_of_ble_eq_true rfl, Nat.le_of_ble_eq_true rfl⟩ rfl (fun H locs hs => ?_)
  refine lv_icmp_eq (tgt := 1388) hx hb (dk hL_law_21 11 rfl) (by decide) (fun hc => ?_) (fun hc => absurd rfl hc)
  exact kk S1 H locs hI1 hs
set_option maxRecDepth 100000 in
set_option maxHeartbeats 4000000 in
theorem lc_lots {p : Program} {l : Launch} {e : Jvm.Env} {s : State} {m : MethodId} {below : List Frame} {meth : Method} {c : Code} {H : Heap} {locs : List Loc} {Q : State → Prop} {G : Gx} {A : Nat → Prop} {a : Ax} {S : Lx} {b L : Nat} {xs : Nat → Int32} {x : Int32} {ls : Array Slot} (C : Cx p s m #[.ref b] meth c cL_law RL 4 (some .boolean) G) (hX : va_X b L xs s s.heap) (hbl : b < s.heap.size) (hbA : ¬ A b) (hr : vp_in x L ∧ vp_in (x + 1) L ∧ vp_in (x + 2) L ∧ vp_in (x + 3) L ∧ vp_in (x + 4) L) (hI : Inv S) (hs : St G A s.heap H locs (wL G a S)) (hl : lv_has ls 4 [(0, .ref b), (1, .ref (a.1 0)), (2, .ref (a.2.2.2.2.2.2.2.2.2 0)), (3, .int x)]) (kk : ∀ (S1 : Lx) (H : Heap) (locs : List Loc), Inv S1 → St G A s.heap H locs (wL G a S1) → W p l e room_1 s m #[.ref b] below meth c H locs 114 1879 Q (F0 m 1388 ls [])) : W p l e room_1 s m #[.ref b] below meth c H locs 114 1879 Q (F0 m 1296 ls []) := by
  obtain ⟨hx, hb, hml, hown, hts, hK, hret, hlk⟩ := id C
  obtain ⟨r, w1, S1, h4, ⟨fs, h97⟩, h5, hI1⟩ := st_lots (lc := l) (G := G) (a := a) hI (xs (x + (1 : Int32)).toNatClampNeg) (xs (x + (2 : Int32)).toNatClampNeg) (xs (x + (3 : Int32)).toNatClampNeg)
  refine lv_aload_n hx hb (dk hL_law_21 14 rfl) rfl (lv_at hl 1 rfl) ?_
  refine lv_aload_n hx hb (dk hL_law_21 15 rfl) rfl (lv_at hl 0 rfl) ?_
  refine lv_iload_n hx hb (dk hL_law_21 16 rfl) rfl (lv_at hl 3 rfl) ?_
  refine lv_iconst (v := (1 : Int32)) hx hb (dk hL_law_21 17 rfl) (by decide) ?_
  refine lv_iadd hx hb (dk hL_law_21 18 rfl) ?_
  refine va_sld hx hb hX hbl hbA hs.2.2.1 hr.2.1 (dk hL_law_21 19 rfl) ?_
  refine lv_aload_n hx hb (dk hL_law_21 20 rfl) rfl (lv_at hl 0 rfl) ?_
  refine lv_iload_n hx hb (dk hL_law_21 21 rfl) rfl (lv_at hl 3 rfl) ?_
  refine lv_iconst (v := (2 : Int32)) hx hb (dk hL_law_21 22 rfl) (by decide) ?_
  refine lv_iadd hx hb (dk hL_law_21 23 rfl) ?_
  refine va_sld hx hb hX hbl hbA hs.2.2.1 hr.2.2.1 (dk hL_law_21 24 rfl) ?_
  refine lv_aload_n hx hb (dk hL_law_21 25 rfl) rfl (lv_at hl 0 rfl) ?_
  refine lv_iload_n hx hb (dk hL_law_21 26 rfl) rfl (lv_at hl 3 rfl) ?_
  refine lv_iconst (v := (3 : Int32)) hx hb (dk hL_law_21 27 rfl) (by decide) ?_
  refine lv_iadd hx hb (dk hL_law_21 28 rfl) ?_
  refine va_sld hx hb hX hbl hbA hs.2.2.1 hr.2.2.2.1 (dk hL_law_21 29 rfl) ?_
  refine Ct.V (As := [.int (xs (x + (1 : Int32)).toNatClampNeg), .int (xs (x + (2 : Int32)).toNatClampNeg), .int (xs (x + (3 : Int32)).toNatClampNeg)]) (rest := []) (st1 := [.int r]) (w1 := w1) C hs h4 tw_597 tw_598 tw_599 tw_79 tw_600 nq_X4_lots ⟨Nat.le_of_ble_eq_true rfl, Nat.le_of_ble_eq_true rfl⟩ 0 4 rfl rfl rfl rfl hl.1 rfl (Nat.le_of_ble_eq_true rfl) (dk hL_law_21 30 rfl) ⟨Nat.le_of_ble_eq_true rfl, Nat.le_of_ble_eq_true rfl⟩ rfl (fun H locs hs => ?_)
  refine lv_aload_n hx hb (dk hL_law_21 31 rfl) rfl (lv_at hl 2 rfl) ?_
  refine lv_aload_n hx hb (dk hL_law_21 32 rfl) rfl (lv_at hl 0 rfl) ?_
  refine lv_iload_n hx hb (dk hL_law_21 33 rfl) rfl (lv_at hl 3 rfl) ?_
  refine lv_iconst (v := (1 : Int32)) hx hb (dk hL_law_21 34 rfl) (by decide) ?_
  refine lv_iadd hx hb (dk hL_law_21 35 rfl) ?_
  refine va_sld hx hb hX hbl hbA hs.2.2.1 hr.2.1 (dk hL_law_21 36 rfl) ?_
  refine lv_aload_n hx hb (dk hL_law_21 37 rfl) rfl (lv_at hl 0 rfl) ?_
  refine lv_iload_n hx hb (dk hL_law_21 38 rfl) rfl (lv_at hl 3 rfl) ?_
  refine lv_iconst (v := (2 : Int32)) hx hb (dk hL_law_21 39 rfl) (by decide) ?_
  refine lv_iadd hx hb (dk hL_law_22 0 rfl) ?_
  refine va_sld hx hb hX hbl hbA hs.2.2.1 hr.2.2.1 (dk hL_law_22 1 rfl) ?_
  refine lv_aload_n hx hb (dk hL_law_22 2 rfl) rfl (lv_at hl 0 rfl) ?_
  refine lv_iload_n hx hb (dk hL_law_22 3 rfl) rfl (lv_at hl 3 rfl) ?_
  refine lv_iconst (v := (3 : Int32)) hx hb (dk hL_law_22 4 rfl) (by decide) ?_
  refine lv_iadd hx hb (dk hL_law_22 5 rfl) ?_
  refine va_sld hx hb hX hbl hbA hs.2.2.1 hr.2.2.2.1 (dk hL_law_22 6 rfl) ?_
  refine Ct.V (As := [.int (xs (x + (1 : Int32)).toNatClampNeg), .int (xs (x + (2 : Int32)).toNatClampNeg), .int (xs (x + (3 : Int32)).toNatClampNeg)]) (rest := [.int r]) (st1 := [.int r, .int r]) (w1 := (wL G a S1)) C hs h5 tw_1217 tw_1218 tw_1219 tw_85 tw_1220 nq_X5_lots ⟨Nat.le_of_ble_eq_true rfl, Nat.le_of_ble_eq_true rfl⟩ 97 5 rfl rfl h97 rfl hl.1 rfl (Nat.le_of_ble_eq_true rfl) (dk hL_law_22 7 rfl) ⟨Nat.le_of_ble_eq_true rfl, Nat.le_of_ble_eq_true rfl⟩ rfl (fun H locs hs => ?_)
  refine lv_icmp_eq (tgt := 1388) hx hb (dk hL_law_22 8 rfl) (by decide) (fun hc => ?_) (fun hc => absurd rfl hc)
  exact kk S1 H locs hI1 hs
set_option maxRecDepth 100000 in
set_option maxHeartbeats 4000000 in
theorem lc_image {p : Program} {l : Launch} {e : Jvm.Env} {s : State} {m : MethodId} {below : List Frame} {meth : Method} {c : Code} {H : Heap} {locs : List Loc} {Q : State → Prop} {G : Gx} {A : Nat → Prop} {a : Ax} {S : Lx} {b L : Nat} {xs : Nat → Int32} {x : Int32} {ls : Array Slot} (C : Cx p s m #[.ref b] meth c cL_law RL 4 (some .boolean) G) (hX : va_X b L xs s s.heap) (hbl : b < s.heap.size) (hbA : ¬ A b) (hr : vp_in x L ∧ vp_in (x + 1) L ∧ vp_in (x + 2) L ∧ vp_in (x + 3) L ∧ vp_in (x + 4) L) (hI : Inv S) (hs : St G A s.heap H locs (wL G a S)) (hl : lv_has ls 4 [(0, .ref b), (1, .ref (a.1 0)), (2, .ref (a.2.2.2.2.2.2.2.2.2 0)), (3, .int x)]) (kk : ∀ (S1 : Lx) (H : Heap) (locs : List Loc), Inv S1 → St G A s.heap H locs (wL G a S1) → W p l e room_1 s m #[.ref b] below meth c H locs 114 1879 Q (F0 m 1388 ls [])) : W p l e room_1 s m #[.ref b] below meth c H locs 114 1879 Q (F0 m 1339 ls []) := by
  obtain ⟨hx, hb, hml, hown, hts, hK, hret, hlk⟩ := id C
  obtain ⟨r, w1, S1, h4, ⟨fs, h97⟩, h5, hI1⟩ := st_image (lc := l) (G := G) (a := a) hI 
  refine lv_aload_n hx hb (dk hL_law_22 11 rfl) rfl (lv_at hl 1 rfl) ?_
  refine Ct.V (As := []) (rest := []) (st1 := [.int r]) (w1 := w1) C hs h4 tw_672 tw_673 tw_674 tw_79 tw_675 nq_X4_image ⟨Nat.le_of_ble_eq_true rfl, Nat.le_of_ble_eq_true rfl⟩ 0 4 rfl rfl rfl rfl hl.1 rfl (Nat.le_of_ble_eq_true rfl) (dk hL_law_22 12 rfl) ⟨Nat.le_of_ble_eq_true rfl, Nat.le_of_ble_eq_true rfl⟩ rfl (fun H locs hs => ?_)
  refine lv_aload_n hx hb (dk hL_law_22 13 rfl) rfl (lv_at hl 2 rfl) ?_
  refine Ct.V (As := []) (rest := [.int r]) (st1 := [.int r, .int r]) (w1 := (wL G a S1)) C hs h5 tw_935 tw_936 tw_937 tw_85 tw_938 nq_X5_image ⟨Nat.le_of_ble_eq_true rfl, Nat.le_of_ble_eq_true rfl⟩ 97 5 rfl rfl h97 rfl hl.1 rfl (Nat.le_of_ble_eq_true rfl) (dk hL_law_22 14 rfl) ⟨Nat.le_of_ble_eq_true rfl, Nat.le_of_ble_eq_true rfl⟩ rfl (fun H locs hs => ?_)
  refine lv_icmp_eq (tgt := 1388) hx hb (dk hL_law_22 15 rfl) (by decide) (fun hc => ?_) (fun hc => absurd rfl hc)
  exact kk S1 H locs hI1 hs
set_option maxRecDepth 100000 in
set_option maxHeartbeats 4000000 in
theorem lc_restore {p : Program} {l : Launch} {e : Jvm.Env} {s : State} {m : MethodId} {below : List Frame} {meth : Method} {c : Code} {H : Heap} {locs : List Loc} {Q : State → Prop} {G : Gx} {A : Nat → Prop} {a : Ax} {S : Lx} {b L : Nat} {xs : Nat → Int32} {x : Int32} {ls : Array Slot} (C : Cx p s m #[.ref b] meth c cL_law RL 4 (some .boolean) G) (hX : va_X b L xs s s.heap) (hbl : b < s.heap.size) (hbA : ¬ A b) (hr : vp_in x L ∧ vp_in (x + 1) L ∧ vp_in (x + 2) L ∧ vp_in (x + 3) L ∧ vp_in (x + 4) L) (hI : Inv S) (hs : St G A s.heap H locs (wL G a S)) (hl : lv_has ls 4 [(0, .ref b), (1, .ref (a.1 0)), (2, .ref (a.2.2.2.2.2.2.2.2.2 0)), (3, .int x)]) (kk : ∀ (S1 : Lx) (H : Heap) (locs : List Loc), Inv S1 → St G A s.heap H locs (wL G a S1) → W p l e room_1 s m #[.ref b] below meth c H locs 114 1879 Q (F0 m 1388 ls [])) : W p l e room_1 s m #[.ref b] below meth c H locs 114 1879 Q (F0 m 1352 ls []) := by
  obtain ⟨hx, hb, hml, hown, hts, hK, hret, hlk⟩ := id C
  obtain ⟨r, w1, S1, h4, ⟨fs, h97⟩, h5, hI1⟩ := st_restore (lc := l) (G := G) (a := a) hI 
  refine lv_aload_n hx hb (dk hL_law_22 18 rfl) rfl (lv_at hl 1 rfl) ?_
  refine Ct.V (As := []) (rest := []) (st1 := [.int r]) (w1 := w1) C hs h4 tw_676 tw_677 tw_678 tw_79 tw_679 nq_X4_restore ⟨Nat.le_of_ble_eq_true rfl, Nat.le_of_ble_eq_true rfl⟩ 0 4 rfl rfl rfl rfl hl.1 rfl (Nat.le_of_ble_eq_true rfl) (dk hL_law_22 19 rfl) ⟨Nat.le_of_ble_eq_true rfl, Nat.le_of_ble_eq_true rfl⟩ rfl (fun H locs hs => ?_)
  refine lv_aload_n hx hb (dk hL_law_22 20 rfl) rfl (lv_at hl 2 rfl) ?_
  refine Ct.V (As := []) (rest := [.int r]) (st1 := [.int r, .int r]) (w1 := (wL G a S1)) C hs h5 tw_939 tw_940 tw_941 tw_85 tw_942 nq_X5_restore ⟨Nat.le_of_ble_eq_true rfl, Nat.le_of_ble_eq_true rfl⟩ 97 5 rfl rfl h97 rfl hl.1 rfl (Nat.le_of_ble_eq_true rfl) (dk hL_law_22 21 rfl) ⟨Nat.le_of_ble_eq_true rfl, Nat.le_of_ble_eq_true rfl⟩ rfl (fun H locs hs => ?_)
  refine lv_icmp_eq (tgt := 1388) hx hb (dk hL_law_22 22 rfl) (by decide) (fun hc => ?_) (fun hc => absurd rfl hc)
  exact kk S1 H locs hI1 hs
set_option maxRecDepth 100000 in
set_option maxHeartbeats 4000000 in
theorem lc_count {p : Program} {l : Launch} {e : Jvm.Env} {s : State} {m : MethodId} {below : List Frame} {meth : Method} {c : Code} {H : Heap} {locs : List Loc} {Q : State → Prop} {G : Gx} {A : Nat → Prop} {a : Ax} {S : Lx} {b L : Nat} {xs : Nat → Int32} {x : Int32} {ls : Array Slot} (C : Cx p s m #[.ref b] meth c cL_law RL 4 (some .boolean) G) (hX : va_X b L xs s s.heap) (hbl : b < s.heap.size) (hbA : ¬ A b) (hr : vp_in x L ∧ vp_in (x + 1) L ∧ vp_in (x + 2) L ∧ vp_in (x + 3) L ∧ vp_in (x + 4) L) (hI : Inv S) (hs : St G A s.heap H locs (wL G a S)) (hl : lv_has ls 4 [(0, .ref b), (1, .ref (a.1 0)), (2, .ref (a.2.2.2.2.2.2.2.2.2 0)), (3, .int x)]) (kk : ∀ (S1 : Lx) (H : Heap) (locs : List Loc), Inv S1 → St G A s.heap H locs (wL G a S1) → W p l e room_1 s m #[.ref b] below meth c H locs 114 1879 Q (F0 m 1388 ls [])) : W p l e room_1 s m #[.ref b] below meth c H locs 114 1879 Q (F0 m 1365 ls []) := by
  obtain ⟨hx, hb, hml, hown, hts, hK, hret, hlk⟩ := id C
  obtain ⟨r, w1, S1, h4, ⟨fs, h97⟩, h5, hI1⟩ := st_count (lc := l) (G := G) (a := a) hI (xs (x + (1 : Int32)).toNatClampNeg)
  refine lv_aload_n hx hb (dk hL_law_22 25 rfl) rfl (lv_at hl 1 rfl) ?_
  refine lv_aload_n hx hb (dk hL_law_22 26 rfl) rfl (lv_at hl 0 rfl) ?_
  refine lv_iload_n hx hb (dk hL_law_22 27 rfl) rfl (lv_at hl 3 rfl) ?_
  refine lv_iconst (v := (1 : Int32)) hx hb (dk hL_law_22 28 rfl) (by decide) ?_
  refine lv_iadd hx hb (dk hL_law_22 29 rfl) ?_
  refine va_sld hx hb hX hbl hbA hs.2.2.1 hr.2.1 (dk hL_law_22 30 rfl) ?_
  refine Ct.V (As := [.int (xs (x + (1 : Int32)).toNatClampNeg)]) (rest := []) (st1 := [.int r]) (w1 := w1) C hs h4 tw_680 tw_681 tw_682 tw_79 tw_683 nq_X4_count ⟨Nat.le_of_ble_eq_true rfl, Nat.le_of_ble_eq_true rfl⟩ 0 4 rfl rfl rfl rfl hl.1 rfl (Nat.le_of_ble_eq_true rfl) (dk hL_law_22 31 rfl) ⟨Nat.le_of_ble_eq_true rfl, Nat.le_of_ble_eq_true rfl⟩ rfl (fun H locs hs => ?_)
  refine lv_aload_n hx hb (dk hL_law_22 32 rfl) rfl (lv_at hl 2 rfl) ?_
  refine lv_aload_n hx hb (dk hL_law_22 33 rfl) rfl (lv_at hl 0 rfl) ?_
  refine lv_iload_n hx hb (dk hL_law_22 34 rfl) rfl (lv_at hl 3 rfl) ?_
  refine lv_iconst (v := (1 : Int32)) hx hb (dk hL_law_22 35 rfl) (by decide) ?_
  refine lv_iadd hx hb (dk hL_law_22 36 rfl) ?_
  refine va_sld hx hb hX hbl hbA hs.2.2.1 hr.2.1 (dk hL_law_22 37 rfl) ?_
  refine Ct.V (As := [.int (xs (x + (1 : Int32)).toNatClampNeg)]) (rest := [.int r]) (st1 := [.int r, .int r]) (w1 := (wL G a S1)) C hs h5 tw_1228 tw_1229 tw_1230 tw_85 tw_1231 nq_X5_count ⟨Nat.le_of_ble_eq_true rfl, Nat.le_of_ble_eq_true rfl⟩ 97 5 rfl rfl h97 rfl hl.1 rfl (Nat.le_of_ble_eq_true rfl) (dk hL_law_22 38 rfl) ⟨Nat.le_of_ble_eq_true rfl, Nat.le_of_ble_eq_true rfl⟩ rfl (fun H locs hs => ?_)
  refine lv_icmp_eq (tgt := 1388) hx hb (dk hL_law_22 39 rfl) (by decide) (fun hc => ?_) (fun hc => absurd rfl hc)
  exact kk S1 H locs hI1 hs
