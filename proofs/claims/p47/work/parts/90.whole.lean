/-! the law's start, and its whole -/
set_option maxRecDepth 100000 in
set_option maxHeartbeats 4000000 in
theorem law_K {s : State} {args : Array Value} (hts : ∀ w ∈ lw_tbl, w.before args s = true) : ∃ G : Gx, wdK G s := by
  have htg : ∀ w ∈ lw_g, w.before args s = true := fun w h => hts w (lw_gt h)
  obtain ⟨c0, i0, k0⟩ := u_known (C := RX0) (T := TX0) (N := 11) (n := 11) htg ui0 (htg _ tw_33)
  obtain ⟨c1, i1, k1⟩ := u_known (C := RX1) (T := TX1) (N := 2) (n := 2) htg ui1 (htg _ tw_112)
  obtain ⟨c2, i2, k2⟩ := u_known (C := RX2) (T := TX2) (N := 2) (n := 2) htg ui2 (htg _ tw_90)
  obtain ⟨c3, i3, k3⟩ := u_known (C := RX3) (T := TX3) (N := 1) (n := 1) htg ui3 (htg _ tw_106)
  obtain ⟨c4, i4, k4⟩ := u_known (C := RX4) (T := TX4) (N := 8) (n := 8) htg ui4 (htg _ tw_25)
  obtain ⟨cI, kI, compI, f1, f2, f3⟩ := Cond.arrayClass_spec (htg _ tw_88)
  obtain ⟨comp, cA, kA, g1, g2, g3, g4, g5⟩ := Cond.arrayOver_spec (hts _ tw_96)
  refine ⟨((fun k => match k with | 0 => c0 | 1 => c1 | 2 => c2 | 3 => c3 | _ => c4, fun k => match k with | 0 => i0 | 1 => i1 | 2 => i2 | 3 => i3 | _ => i4), cI, cA), ⟨fun k q hq => ?_, fun k q hq => ?_⟩, va_Nw.of rfl (hts _ tw_107), va_Nw.of rfl (hts _ tw_503), va_Nw.of rfl (hts _ tw_512), va_Nw.of rfl (hts _ tw_210), va_AO.of (hts _ tw_96)⟩
  · match k, hq with
    | 0, hq => (obtain rfl : (RX0, TX0, 11) = q := Option.some.inj hq; exact k0)
    | 1, hq => (obtain rfl : (RX1, TX1, 2) = q := Option.some.inj hq; exact k1)
    | 2, hq => (obtain rfl : (RX2, TX2, 2) = q := Option.some.inj hq; exact k2)
    | 3, hq => (obtain rfl : (RX3, TX3, 1) = q := Option.some.inj hq; exact k3)
    | 4, hq => (obtain rfl : (RX4, TX4, 8) = q := Option.some.inj hq; exact k4)
    | _ + 5, hq => cases hq
  · match k, hq with
    | 0, hq => (obtain rfl : (cI, FieldType.int) = q := Option.some.inj hq; exact ⟨fun N z => ⟨(fun k h => by cases h), kI, f2, compI, f3⟩, f1⟩)
    | 1, hq => (obtain rfl : (cA, FieldType.object RX0) = q := Option.some.inj hq; exact ⟨fun N z => ⟨(fun k h => by cases h), kA, g3, comp, g4⟩, kA, comp, g3, g4, g1, g5⟩)
    | _ + 2, hq => cases hq
def S0r : Rw := (List.replicate 7 0, hs0, hs0, hs0, 0, List.replicate 12 0, 0, List.replicate 96 0, 0, 0, id, fun _ => hs0)
theorem rq_c (n : Nat) (x : Int32) : rq n (fun _ => x) = List.replicate n x := by simp [rq, List.map_const']
theorem rn_c (n : Nat) : rn n (fun _ => 0) = List.replicate n 0 := rq_c n _
theorem mj0 : MJ hs0 := ⟨rfl, rfl, rfl, rfl, rfl, rfl, rfl⟩
def Z0 : SS := ((fun _ => 2, fun _ => 0, fun _ => 0, fun _ => 0, fun _ => 0, fun _ => 0), 0, (fun _ => 20, fun _ => 0, 0, 0))
theorem pic0 : picH Z0 = hs0 := by
  have e1 : rn 6 (fun _ => 20) = hs0.1 := by decide
  have e2 : rn 6 (fun _ => 2) = hs0.2.1 := by decide
  have e3 : iI (mk (fun _ => 0) : Int) = 0 := by decide
  have e4 : iI ((0 : Nat) : Int) = 0 := by decide
  unfold picH Z0
  dsimp only
  rw [e1, e2, rn_c, rn_c, e3, e4]
  rfl
theorem pz_start : Pz S0r := by
  refine ⟨Z0, ⟨List.replicate 7 0, hs0, hs0, 0, List.replicate 12 0, 0, fun _ => 0, 0, 0, id, fun _ => hs0, ?_, rfl, mj0, mj0, ?_, Nat.zero_le _, fun _ => Nat.zero_le _⟩, ?_⟩
  · rw [pic0, rn_c, show iI ((0 : Nat) : Int) = (0 : Int32) by decide]
    rfl
  · exact ⟨Nat.zero_le _, fun j hj => hj, fun i j _ _ h => h, fun j _ => mj0, fun _ => Z0, fun j hj => absurd hj (Nat.not_lt_zero _)⟩
  · refine ⟨⟨fun j => ?_, fun j => ?_, fun j => ?_, fun j => ?_, fun j => ?_, fun j => ?_⟩, fun j => ?_, ?_, ⟨fun j => ?_, fun j => ?_, ?_, ?_⟩, ?_⟩
    all_goals first | exact Nat.le_of_ble_eq_true rfl | exact fun j _ => rfl
set_option maxRecDepth 100000 in
set_option maxHeartbeats 4000000 in
theorem whole_start {p : Program} {e : Jvm.Env} {s : State} {m : MethodId} {below : List Frame} {meth : Method} {c : Code} (l : Launch) (hflags : l.flags = flags0) {b L : Nat} {xs : Nat → Int32} (hL : L ≤ 260) (C0 : lw_At p s m meth c b L xs) : W p l e room_1 s m #[Value.ref b] below meth c s.heap [] 0 0 (lw_Z below #[Value.ref b] s) (entryFrame m ([Value.ref b] : List Value).toArray 17) := by
  obtain ⟨hx, hb, hr, hml, hown, hts, hX, hbl, hlocks, hgv⟩ := C0
  obtain ⟨G, hK⟩ := law_K hts
  have C : Cx p s m #[.ref b] meth c cL_law RL 17 (some .boolean) G := ⟨hx, hb, hml, hown, fun w h => hts w (lw_gt h), hK, hr, hlocks⟩
  have hbA : ¬ (fun q : Nat => s.heap.size ≤ q) b := Nat.not_le.mpr hbl
  obtain ⟨S1, e1, hP⟩ := p_port (xs := xs) hL pz_start
  have hl := lv_entry [Value.ref b] (n := 17) (Nat.le_of_ble_eq_true rfl)
  rw [lg_entry_eq]
  generalize (lg_sl [Value.ref b] ++ List.replicate (17 - (lg_sl [Value.ref b]).length) Slot.unset).toArray = ls at hl ⊢
  have hl : lv_has ls 17 [(0, .ref b)] := hl
  have hs : St G (fun q : Nat => s.heap.size ≤ q) s.heap s.heap [] [] := ⟨fun k q hk => by simp at hk, ⟨fun i j p q hi => by simp at hi, fun k q hk => by simp at hk⟩, va_S.rf, fun q h => h⟩
  refine rno (ci := 4) (cells1 := 1) (slots1 := 8) (fs := [.null, .null, .null, .null, .null, .null, .null, .int 0]) tyX4 tyX4_ok ui4 rfl C hs tw_24 tw_25 tw_17 df4 rfl rfl ⟨Nat.le_of_ble_eq_true rfl, Nat.le_of_ble_eq_true rfl⟩ (dk hL_law_0 0 rfl) (fun q1 H hs => ?_)
  refine lv_dup hx hb (dk hL_law_0 1 rfl) rfl ?_
  refine Cc.I (wr := []) (As := []) (rest := [.ref q1]) (cells1 := 97) (slots1 := 765) C hs c_X4_init rfl tw_26 tw_27 tw_17 tw_28 nq_X4_init (by decide) rfl hl.1 rfl (Nat.le_of_ble_eq_true rfl) (dk hL_law_0 2 rfl) rfl rfl ⟨Nat.le_of_ble_eq_true rfl, Nat.le_of_ble_eq_true rfl⟩ (fun z H locs hs => ?_)
  refine lv_astore_n (lv' := [(1, .ref q1), (0, .ref b)]) hx hb (dk hL_law_0 3 rfl) rfl hl (by decide) rfl (fun ls hl => ?_)
  have hs : St G (fun q : Nat => s.heap.size ≤ q) s.heap H locs (wR G (cz q1 z.1, z.2.1, z.2.2.1, z.2.2.2.1, z.2.2.2.2.1, z.2.2.2.2.2.1, z.2.2.2.2.2.2.1, z.2.2.2.2.2.2.2.1, z.2.2.2.2.2.2.2.2) S0r) := hs
  have hl : lv_has ls 17 [(1, .ref (((cz q1 z.1, z.2.1, z.2.2.1, z.2.2.2.1, z.2.2.2.2.1, z.2.2.2.2.2.1, z.2.2.2.2.2.2.1, z.2.2.2.2.2.2.2.1, z.2.2.2.2.2.2.2.2) : Aw).1 0)), (0, .ref b)] := hl
  generalize ((cz q1 z.1, z.2.1, z.2.2.1, z.2.2.2.1, z.2.2.2.2.1, z.2.2.2.2.2.1, z.2.2.2.2.2.2.1, z.2.2.2.2.2.2.2.1, z.2.2.2.2.2.2.2.2) : Aw) = a at hs hl
  refine lv_aload_n hx hb (dk hL_law_0 4 rfl) rfl (lv_at hl 0 rfl) ?_
  refine lv_aload_n hx hb (dk hL_law_0 5 rfl) rfl (lv_at hl 1 rfl) ?_
  refine lv_bipush (v := (6 : Int32)) hx hb (dk hL_law_0 6 rfl) (by decide) ?_
  refine Cg.S (As := [.ref (a.1 0), .ref b, .int (6 : Int32)]) (rest := []) (st1 := []) (w1 := wR G a S1) (cells1 := 2098) (slots1 := 16769) C hX hbl hbA hs (c_L_port e1) tw_453 tw_454 tw_16 tw_455 nq_L_port (by decide) rfl hl.1 rfl (Nat.le_of_ble_eq_true rfl) (dk hL_law_0 7 rfl) rfl rfl ⟨by show 2098 ≤ 600000; omega, by show 16769 ≤ 7302250; omega⟩ rfl (fun H locs hs => ?_)
  refine W.widen (k := 5000) (n := 50000) (Nat.le_of_ble_eq_true rfl) (Nat.le_of_ble_eq_true rfl) ?_
  obtain ⟨Z, hP, hZ⟩ := hP
  exact j_L_law_J15 C hX hbl hbA S1 (w15 hL hZ hP) H locs hs ls (lv_sub hl [1, 0] rfl)
