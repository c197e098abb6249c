/-! the law's walk -/
set_option maxRecDepth 100000 in
set_option maxHeartbeats 4000000 in
theorem law_loop {p : Program} {l : Launch} {e : Jvm.Env} {s : State} {m : MethodId} {below : List Frame} {meth : Method} {c : Code} {G : Gx} {a : Ax} {b L : Nat} {xs : Nat → Int32} (hL : L ≤ 2560) (C : Cx p s m #[.ref b] meth c cL_law RL 4 (some .boolean) G) (hX : va_X b L xs s s.heap) (hbl : b < s.heap.size) :
    ∀ (n i : Nat) (x : Int32) (S : Lx), i ≤ L → L < i + n → x = iI (i : Int) → Inv S → ∀ (H : Heap) (locs : List Loc), St G (fun q : Nat => s.heap.size ≤ q) s.heap H locs (wL G a S) → ∀ ls : Array Slot, lv_has ls 4 [(0, .ref b), (1, .ref (a.1 0)), (2, .ref (a.2.2.2.2.2.2.2.2.2 0)), (3, .int x)] →
      W p l e room_1 s m #[.ref b] below meth c H locs 114 1879 (lw_Z below #[Value.ref b] s) (F0 m 18 ls []) := by
  obtain ⟨hx, hb, hml, hown, hts, hK, hret, hlk⟩ := id C
  have hbA : ¬ (fun q : Nat => s.heap.size ≤ q) b := Nat.not_le.mpr hbl
  intro n
  induction n with
  | zero => intro i x S h1 h2; exact absurd h2 (by omega)
  | succ n ih =>
    intro i x S hi hin ex hI H locs hs ls hl
    refine lv_iload_n hx hb (dk hL_law_0 10 rfl) rfl (lv_at hl 3 rfl) ?_
    refine lv_aload_n hx hb (dk hL_law_0 11 rfl) rfl (lv_at hl 0 rfl) ?_
    refine va_slen hx hb hX hbl hbA hs.2.2.1 (dk hL_law_0 12 rfl) ?_
    refine lv_iconst (v := (5 : Int32)) hx hb (dk hL_law_0 13 rfl) (by decide) ?_
    refine lv_isub hx hb (dk hL_law_0 14 rfl) ?_
    refine lv_icmp_gt (tgt := 1394) hx hb (dk hL_law_0 15 rfl) (by decide) (fun hc => ?_) (fun hc => ?_)
    · refine lv_iconst (v := 1) hx hb (dk hL_law_23 4 rfl) (by decide) ?_
      refine va_forget (fun q hq => hs.2.2.1.2.2 q hq) ?_
      refine W.widen (k := 600000) (n := 7302250) (Nat.le_of_ble_eq_true rfl) (Nat.le_of_ble_eq_true rfl) ?_
      exact lw_ret hx hb hret hlk (dk hL_law_23 5 rfl)
    · have h5 : i + 5 ≤ L := by
        rcases Nat.lt_or_ge L (i + 5) with q | q
        · refine absurd ?_ hc
          rw [ex, iI_len, show (5 : Int32) = iI ((5 : Nat) : Int) by decide, iI_sub, iI_lt (by omega) (by omega) (by omega) (by omega)]
          omega
        · exact q
      have hin : ∀ j : Nat, j ≤ 4 → vp_in (iI ((i + j : Nat) : Int)) L := by
        intro j hj
        refine vp_inL ?_ ?_
        · rw [show (0 : Int32) = iI ((0 : Nat) : Int) by decide, iI_le (by omega) (by omega) (by omega) (by omega)]
          omega
        · rw [iI_nat (by omega) (by omega)]
          omega
      have ad : ∀ (j : Nat) (y : Int32), y = iI (j : Int) → x + y = iI ((i + j : Nat) : Int) := by
        intro j y hy
        rw [ex, hy, iI_add]
        rfl
      have hr : vp_in x L ∧ vp_in (x + 1) L ∧ vp_in (x + 2) L ∧ vp_in (x + 3) L ∧ vp_in (x + 4) L := by
        refine ⟨?_, ?_, ?_, ?_, ?_⟩
        · rw [ex]; exact hin 0 (by omega)
        · rw [ad 1 1 (by decide)]; exact hin 1 (by omega)
        · rw [ad 2 2 (by decide)]; exact hin 2 (by omega)
        · rw [ad 3 3 (by decide)]; exact hin 3 (by omega)
        · rw [ad 4 4 (by decide)]; exact hin 4 (by omega)
      have kk : ∀ (S1 : Lx) (H : Heap) (locs : List Loc), Inv S1 → St G (fun q : Nat => s.heap.size ≤ q) s.heap H locs (wL G a S1) → W p l e room_1 s m #[.ref b] below meth c H locs 114 1879 (lw_Z below #[Value.ref b] s) (F0 m 1388 ls []) := by
        intro S1 H locs hI1 hs1
        refine lv_iinc (v := (x + (5 : Int32))) (lv' := [(3, .int (x + (5 : Int32))), (0, .ref b), (1, .ref (a.1 0)), (2, .ref (a.2.2.2.2.2.2.2.2.2 0))]) hx hb (dk hL_law_23 2 rfl) hl (k := 3) rfl (by first | rfl | decide) (by decide) rfl (fun ls hl => ?_)
        refine lv_goto (tgt := 18) hx hb (dk hL_law_23 3 rfl) (by decide) ?_
        exact ih (i + 5) _ S1 h5 (by omega) (ad 5 5 (by decide)) hI1 H locs hs1 ls (lv_sub hl [1, 2, 3, 0] rfl)
      refine lv_aload_n hx hb (dk hL_law_0 16 rfl) rfl (lv_at hl 0 rfl) ?_
      refine lv_iload_n hx hb (dk hL_law_0 17 rfl) rfl (lv_at hl 3 rfl) ?_
      refine va_sld hx hb hX hbl hbA hs.2.2.1 hr.1 (dk hL_law_0 18 rfl) ?_
      refine lv_bipush (v := (63 : Int32)) hx hb (dk hL_law_0 19 rfl) (by decide) ?_
      refine lv_iand hx hb (dk hL_law_0 20 rfl) ?_
      generalize (xs x.toNatClampNeg &&& (63 : Int32)) = v
      by_cases hv : ∃ j : Nat, j < 44 ∧ v = iI (j : Int)
      · obtain ⟨j, hj, hv⟩ := hv
        match j, hj, hv with
        | 0, _, hv => exact rts (v := (0 : Int32)) (tgt := 224) hx hb (dk hL_law_0 21 rfl) (hv.trans (by decide)) (by decide) (by decide) rfl (by decide) (lc_feed C hX hbl hbA hr hI hs hl kk)
        | 1, _, hv => exact rts (v := (1 : Int32)) (tgt := 247) hx hb (dk hL_law_0 21 rfl) (hv.trans (by decide)) (by decide) (by decide) rfl (by decide) (lc_harbour C hX hbl hbA hr hI hs hl kk)
        | 2, _, hv => exact rts (v := (2 : Int32)) (tgt := 260) hx hb (dk hL_law_0 21 rfl) (hv.trans (by decide)) (by decide) (by decide) rfl (by decide) (lc_good C hX hbl hbA hr hI hs hl kk)
        | 3, _, hv => exact rts (v := (3 : Int32)) (tgt := 293) hx hb (dk hL_law_0 21 rfl) (hv.trans (by decide)) (by decide) (by decide) rfl (by decide) (lc_shipOf C hX hbl hbA hr hI hs hl kk)
        | 4, _, hv => exact rts (v := (4 : Int32)) (tgt := 326) hx hb (dk hL_law_0 21 rfl) (hv.trans (by decide)) (by decide) (by decide) rfl (by decide) (lc_tide C hX hbl hbA hr hI hs hl kk)
        | 5, _, hv => exact rts (v := (5 : Int32)) (tgt := 349) hx hb (dk hL_law_0 21 rfl) (hv.trans (by decide)) (by decide) (by decide) rfl (by decide) (lc_ship C hX hbl hbA hr hI hs hl kk)
        | 6, _, hv => exact rts (v := (6 : Int32)) (tgt := 402) hx hb (dk hL_law_0 21 rfl) (hv.trans (by decide)) (by decide) (by decide) rfl (by decide) (lc_hides C hX hbl hbA hr hI hs hl kk)
        | 7, _, hv => exact rts (v := (7 : Int32)) (tgt := 435) hx hb (dk hL_law_0 21 rfl) (hv.trans (by decide)) (by decide) (by decide) rfl (by decide) (lc_uses C hX hbl hbA hr hI hs hl kk)
        | 8, _, hv => exact rts (v := (8 : Int32)) (tgt := 468) hx hb (dk hL_law_0 21 rfl) (hv.trans (by decide)) (by decide) (by decide) rfl (by decide) (lc_sends C hX hbl hbA hr hI hs hl kk)
        | 9, _, hv => exact rts (v := (9 : Int32)) (tgt := 501) hx hb (dk hL_law_0 21 rfl) (hv.trans (by decide)) (by decide) (by decide) rfl (by decide) (lc_days C hX hbl hbA hr hI hs hl kk)
        | 10, _, hv => exact rts (v := (10 : Int32)) (tgt := 524) hx hb (dk hL_law_0 21 rfl) (hv.trans (by decide)) (by decide) (by decide) rfl (by decide) (lc_back C hX hbl hbA hr hI hs hl kk)
        | 11, _, hv => exact rts (v := (11 : Int32)) (tgt := 537) hx hb (dk hL_law_0 21 rfl) (hv.trans (by decide)) (by decide) (by decide) rfl (by decide) (lc_thereIn C hX hbl hbA hr hI hs hl kk)
        | 12, _, hv => exact rts (v := (12 : Int32)) (tgt := 570) hx hb (dk hL_law_0 21 rfl) (hv.trans (by decide)) (by decide) (by decide) rfl (by decide) (lc_then C hX hbl hbA hr hI hs hl kk)
        | 13, _, hv => exact rts (v := (13 : Int32)) (tgt := 603) hx hb (dk hL_law_0 21 rfl) (hv.trans (by decide)) (by decide) (by decide) rfl (by decide) (lc_comes C hX hbl hbA hr hI hs hl kk)
        | 14, _, hv => exact rts (v := (14 : Int32)) (tgt := 626) hx hb (dk hL_law_0 21 rfl) (hv.trans (by decide)) (by decide) (by decide) rfl (by decide) (lc_shut C hX hbl hbA hr hI hs hl kk)
        | 15, _, hv => exact rts (v := (15 : Int32)) (tgt := 639) hx hb (dk hL_law_0 21 rfl) (hv.trans (by decide)) (by decide) (by decide) rfl (by decide) (lc_byWhom C hX hbl hbA hr hI hs hl kk)
        | 16, _, hv => exact rts (v := (16 : Int32)) (tgt := 662) hx hb (dk hL_law_0 21 rfl) (hv.trans (by decide)) (by decide) (by decide) rfl (by decide) (lc_loaded C hX hbl hbA hr hI hs hl kk)
        | 17, _, hv => exact rts (v := (17 : Int32)) (tgt := 695) hx hb (dk hL_law_0 21 rfl) (hv.trans (by decide)) (by decide) (by decide) rfl (by decide) (lc_hide C hX hbl hbA hr hI hs hl kk)
        | 18, _, hv => exact rts (v := (18 : Int32)) (tgt := 738) hx hb (dk hL_law_0 21 rfl) (hv.trans (by decide)) (by decide) (by decide) rfl (by decide) (lc_fewest C hX hbl hbA hr hI hs hl kk)
        | 19, _, hv => exact rts (v := (19 : Int32)) (tgt := 771) hx hb (dk hL_law_0 21 rfl) (hv.trans (by decide)) (by decide) (by decide) rfl (by decide) (lc_forWhat C hX hbl hbA hr hI hs hl kk)
        | 20, _, hv => exact rts (v := (20 : Int32)) (tgt := 794) hx hb (dk hL_law_0 21 rfl) (hv.trans (by decide)) (by decide) (by decide) rfl (by decide) (lc_want C hX hbl hbA hr hI hs hl kk)
        | 21, _, hv => exact rts (v := (21 : Int32)) (tgt := 817) hx hb (dk hL_law_0 21 rfl) (hv.trans (by decide)) (by decide) (by decide) rfl (by decide) (lc_bare C hX hbl hbA hr hI hs hl kk)
        | 22, _, hv => exact rts (v := (22 : Int32)) (tgt := 840) hx hb (dk hL_law_0 21 rfl) (hv.trans (by decide)) (by decide) (by decide) rfl (by decide) (lc_lasts C hX hbl hbA hr hI hs hl kk)
        | 23, _, hv => exact rts (v := (23 : Int32)) (tgt := 863) hx hb (dk hL_law_0 21 rfl) (hv.trans (by decide)) (by decide) (by decide) rfl (by decide) (lc_best C hX hbl hbA hr hI hs hl kk)
        | 24, _, hv => exact rts (v := (24 : Int32)) (tgt := 886) hx hb (dk hL_law_0 21 rfl) (hv.trans (by decide)) (by decide) (by decide) rfl (by decide) (lc_whichTown C hX hbl hbA hr hI hs hl kk)
        | 25, _, hv => exact rts (v := (25 : Int32)) (tgt := 919) hx hb (dk hL_law_0 21 rfl) (hv.trans (by decide)) (by decide) (by decide) rfl (by decide) (lc_whatKind C hX hbl hbA hr hI hs hl kk)
        | 26, _, hv => exact rts (v := (26 : Int32)) (tgt := 952) hx hb (dk hL_law_0 21 rfl) (hv.trans (by decide)) (by decide) (by decide) rfl (by decide) (lc_two C hX hbl hbA hr hI hs hl kk)
        | 27, _, hv => exact rts (v := (27 : Int32)) (tgt := 995) hx hb (dk hL_law_0 21 rfl) (hv.trans (by decide)) (by decide) (by decide) rfl (by decide) (lc_storms C hX hbl hbA hr hI hs hl kk)
        | 28, _, hv => exact rts (v := (28 : Int32)) (tgt := 1049) hx hb (dk hL_law_0 21 rfl) (hv.trans (by decide)) (by decide) (by decide) rfl (by decide) (lc_deepest C hX hbl hbA hr hI hs hl kk)
        | 29, _, hv => exact rts (v := (29 : Int32)) (tgt := 1072) hx hb (dk hL_law_0 21 rfl) (hv.trans (by decide)) (by decide) (by decide) rfl (by decide) (lc_mean C hX hbl hbA hr hI hs hl kk)
        | 30, _, hv => exact rts (v := (30 : Int32)) (tgt := 1096) hx hb (dk hL_law_0 21 rfl) (hv.trans (by decide)) (by decide) (by decide) rfl (by decide) (lc_hidden C hX hbl hbA hr hI hs hl kk)
        | 31, _, hv => exact rts (v := (31 : Int32)) (tgt := 1109) hx hb (dk hL_law_0 21 rfl) (hv.trans (by decide)) (by decide) (by decide) rfl (by decide) (lc_nextTide C hX hbl hbA hr hI hs hl kk)
        | 32, _, hv => exact rts (v := (32 : Int32)) (tgt := 1132) hx hb (dk hL_law_0 21 rfl) (hv.trans (by decide)) (by decide) (by decide) rfl (by decide) (lc_empty C hX hbl hbA hr hI hs hl kk)
        | 33, _, hv => exact rts (v := (33 : Int32)) (tgt := 1145) hx hb (dk hL_law_0 21 rfl) (hv.trans (by decide)) (by decide) (by decide) rfl (by decide) (lc_carried C hX hbl hbA hr hI hs hl kk)
        | 34, _, hv => exact rts (v := (34 : Int32)) (tgt := 1168) hx hb (dk hL_law_0 21 rfl) (hv.trans (by decide)) (by decide) (by decide) rfl (by decide) (lc_filled C hX hbl hbA hr hI hs hl kk)
        | 35, _, hv => exact rts (v := (35 : Int32)) (tgt := 1181) hx hb (dk hL_law_0 21 rfl) (hv.trans (by decide)) (by decide) (by decide) rfl (by decide) (lc_spared C hX hbl hbA hr hI hs hl kk)
        | 36, _, hv => exact rts (v := (36 : Int32)) (tgt := 1214) hx hb (dk hL_law_0 21 rfl) (hv.trans (by decide)) (by decide) (by decide) rfl (by decide) (lc_race C hX hbl hbA hr hI hs hl kk)
        | 37, _, hv => exact rts (v := (37 : Int32)) (tgt := 1247) hx hb (dk hL_law_0 21 rfl) (hv.trans (by decide)) (by decide) (by decide) rfl (by decide) (lc_row C hX hbl hbA hr hI hs hl kk)
        | 38, _, hv => exact rts (v := (38 : Int32)) (tgt := 1270) hx hb (dk hL_law_0 21 rfl) (hv.trans (by decide)) (by decide) (by decide) rfl (by decide) (lc_judge C hX hbl hbA hr hI hs hl kk)
        | 39, _, hv => exact rts (v := (39 : Int32)) (tgt := 1283) hx hb (dk hL_law_0 21 rfl) (hv.trans (by decide)) (by decide) (by decide) rfl (by decide) (lc_clear C hX hbl hbA hr hI hs hl kk)
        | 40, _, hv => exact rts (v := (40 : Int32)) (tgt := 1296) hx hb (dk hL_law_0 21 rfl) (hv.trans (by decide)) (by decide) (by decide) rfl (by decide) (lc_lots C hX hbl hbA hr hI hs hl kk)
        | 41, _, hv => exact rts (v := (41 : Int32)) (tgt := 1339) hx hb (dk hL_law_0 21 rfl) (hv.trans (by decide)) (by decide) (by decide) rfl (by decide) (lc_image C hX hbl hbA hr hI hs hl kk)
        | 42, _, hv => exact rts (v := (42 : Int32)) (tgt := 1352) hx hb (dk hL_law_0 21 rfl) (hv.trans (by decide)) (by decide) (by decide) rfl (by decide) (lc_restore C hX hbl hbA hr hI hs hl kk)
        | 43, _, hv => exact rts (v := (43 : Int32)) (tgt := 1365) hx hb (dk hL_law_0 21 rfl) (hv.trans (by decide)) (by decide) (by decide) rfl (by decide) (lc_count C hX hbl hbA hr hI hs hl kk)
        | _ + 44, hj, _ => exact absurd hj (by omega)
      · refine rtd (tgt := 1388) hx hb (dk hL_law_0 21 rfl) (List.range 44) (by decide) (by decide) (fun j hj hv1 => hv ⟨j, List.mem_range.mp hj, ?_⟩) (by decide) (kk S H locs hI hs)
        rw [← iI_of v, hv1]
        exact iI_c (by omega)

set_option maxRecDepth 100000 in
set_option maxHeartbeats 4000000 in
theorem law_K {s : State} {args : Array Value} (hts : ∀ w ∈ lw_tbl, w.before args s = true) : ∃ G : Gx, wdK G s := by
  have htg : ∀ w ∈ lw_g, w.before args s = true := fun w h => hts w (lw_gt h)
  obtain ⟨c0, i0, k0⟩ := u_known (C := RX0) (T := TX0) (N := 11) (n := 11) htg ui0 (htg _ tw_96)
  obtain ⟨c1, i1, k1⟩ := u_known (C := RX1) (T := TX1) (N := 2) (n := 2) htg ui1 (htg _ tw_175)
  obtain ⟨c2, i2, k2⟩ := u_known (C := RX2) (T := TX2) (N := 2) (n := 2) htg ui2 (htg _ tw_153)
  obtain ⟨c3, i3, k3⟩ := u_known (C := RX3) (T := TX3) (N := 1) (n := 1) htg ui3 (htg _ tw_169)
  obtain ⟨c4, i4, k4⟩ := u_known (C := RX4) (T := TX4) (N := 8) (n := 8) htg ui4 (htg _ tw_88)
  obtain ⟨c5, i5, k5⟩ := u_known (C := RX5) (T := TX5) (N := 34) (n := 34) htg ui5 (htg _ tw_685)
  obtain ⟨cI, kI, compI, f1, f2, f3⟩ := Cond.arrayClass_spec (htg _ tw_151)
  obtain ⟨comp, cA, kA, g1, g2, g3, g4, g5⟩ := Cond.arrayOver_spec (hts _ tw_159)
  refine ⟨((fun k => match k with | 0 => c0 | 1 => c1 | 2 => c2 | 3 => c3 | 4 => c4 | _ => c5, fun k => match k with | 0 => i0 | 1 => i1 | 2 => i2 | 3 => i3 | 4 => i4 | _ => i5), cI, cA), ⟨fun k q hq => ?_, fun k q hq => ?_⟩, va_Nw.of rfl (hts _ tw_170), va_Nw.of rfl (hts _ tw_282), va_Nw.of rfl (hts _ tw_304), va_Nw.of rfl (hts _ tw_332), va_AO.of (hts _ tw_159)⟩
  · match k, hq with
    | 0, hq => (obtain rfl : (RX0, TX0, 11) = q := Option.some.inj hq; exact k0)
    | 1, hq => (obtain rfl : (RX1, TX1, 2) = q := Option.some.inj hq; exact k1)
    | 2, hq => (obtain rfl : (RX2, TX2, 2) = q := Option.some.inj hq; exact k2)
    | 3, hq => (obtain rfl : (RX3, TX3, 1) = q := Option.some.inj hq; exact k3)
    | 4, hq => (obtain rfl : (RX4, TX4, 8) = q := Option.some.inj hq; exact k4)
    | 5, hq => (obtain rfl : (RX5, TX5, 34) = q := Option.some.inj hq; exact k5)
    | _ + 6, hq => cases hq
  · match k, hq with
    | 0, hq => (obtain rfl : (cI, FieldType.int) = q := Option.some.inj hq; exact ⟨fun N z => ⟨(fun k h => by cases h), kI, f2, compI, f3⟩, f1⟩)
    | 1, hq => (obtain rfl : (cA, FieldType.object RX0) = q := Option.some.inj hq; exact ⟨fun N z => ⟨(fun k h => by cases h), kA, g3, comp, g4⟩, kA, comp, g3, g4, g1, g5⟩)
    | _ + 2, hq => cases hq

def S0 : Lx := (List.replicate 7 0, hs0, hs0, 0, ((fun _ => 2, fun _ => 0, fun _ => 0, fun _ => 0, fun _ => 0, fun _ => 0), 0, (fun _ => 20, fun _ => 0, 0, 0)), fun _ => 0, 0, fun _ => 0, 0, 0, id, fun _ => hs0, fun _ => 0, fun _ => 0, fun _ => 0, fun _ => 0, fun _ => 0, 0, 0, 0, 0, 0, 0, 0, 0, 0)
theorem rq_c (n : Nat) (x : Int32) : rq n (fun _ => x) = List.replicate n x := by simp [rq, List.map_const']
theorem rn_c (n : Nat) : rn n (fun _ => 0) = List.replicate n 0 := rq_c n _
set_option maxRecDepth 100000 in
set_option maxHeartbeats 4000000 in
theorem w_start {G : Gx} {a : Ax} : wL G a S0 = wT G a.1 a.2.1 a.2.2.1 a.2.2.2.1 a.2.2.2.2.1 a.2.2.2.2.2.1 a.2.2.2.2.2.2.1 a.2.2.2.2.2.2.2.1 a.2.2.2.2.2.2.2.2.1 (List.replicate 7 0) (List.replicate 12 0) (List.replicate 96 0) hs0.1 hs0.2.1 hs0.2.2.1 hs0.2.2.2.1 hs0.2.2.2.2.1 hs0.2.2.2.2.2.1 hs0.2.2.2.2.2.2.1 hs0.1 hs0.2.1 hs0.2.2.1 hs0.2.2.2.1 hs0.2.2.2.2.1 hs0.2.2.2.2.2.1 hs0.2.2.2.2.2.2.1 hs0.1 hs0.2.1 hs0.2.2.1 hs0.2.2.2.1 hs0.2.2.2.2.1 hs0.2.2.2.2.2.1 hs0.2.2.2.2.2.2.1 0 0 0 hs0.2.2.2.2.2.2.2.1 hs0.2.2.2.2.2.2.2.2.1 hs0.2.2.2.2.2.2.2.2.2.1 hs0.2.2.2.2.2.2.2.2.2.2 hs0.2.2.2.2.2.2.2.1 hs0.2.2.2.2.2.2.2.2.1 hs0.2.2.2.2.2.2.2.2.2.1 hs0.2.2.2.2.2.2.2.2.2.2 hs0.2.2.2.2.2.2.2.1 hs0.2.2.2.2.2.2.2.2.1 hs0.2.2.2.2.2.2.2.2.2.1 hs0.2.2.2.2.2.2.2.2.2.2 0 id (fun _ => hs0) ++ wM G a.2.2.2.2.2.2.2.2.2 (List.replicate 7 0) [20, 20, 20, 20, 20, 20] [2, 2, 2, 2, 2, 2] (List.replicate 6 0) (List.replicate 7 0) (List.replicate 7 0) (List.replicate 7 0) (List.replicate 7 0) (List.replicate 7 0) (List.replicate 96 0) (List.replicate 48 0) (List.replicate 48 0) (List.replicate 192 0) (List.replicate 616 0) (List.replicate 12 0) (List.replicate 8 0) 0 0 0 0 0 0 0 0 0 0 0 (-9) 0 0 0 0 0 0 := by
  have e1 : rn 6 (fun _ => 20) = hs0.1 := by decide
  have e2 : rn 6 (fun _ => 2) = hs0.2.1 := by decide
  have e3 : iI (mk (fun _ => 0)) = 0 := by decide
  have e4 : iI ((0 : Nat) : Int) = 0 := by decide
  unfold wL wLT wLM
  unfold S0
  dsimp only
  rw [rq_c, rq_c, rq_c, rq_c, rq_c, rn_c, rn_c, rn_c, e1, e2, e3, e4]
  rfl
theorem mj0 : MJ hs0 := ⟨rfl, rfl, rfl, rfl, rfl, rfl, rfl⟩
theorem inv_start : Inv S0 := by
  refine ⟨by decide, mj0, ⟨mj0, Or.inl rfl⟩, ?_, ?_, by decide, by decide, fun j => Nat.zero_le _⟩
  · refine ⟨⟨fun j => ?_, fun j => ?_, fun j => ?_, fun j => ?_, fun j => ?_, fun j => ?_⟩, fun j => ?_, ?_, ⟨fun j => ?_, fun j => ?_, ?_, ?_⟩, ?_⟩
    all_goals first | exact Nat.le_of_ble_eq_true rfl | exact fun j _ => rfl
  · refine ⟨Nat.zero_le _, fun j hj => hj, fun i j _ _ h => h, fun j _ => mj0, fun _ => S0.2.2.2.2.1, fun j hj => absurd hj (Nat.not_lt_zero _)⟩

set_option maxRecDepth 100000 in
set_option maxHeartbeats 4000000 in
theorem whole_start {p : Program} {e : Jvm.Env} {s : State} {m : MethodId} {below : List Frame} {meth : Method} {c : Code} (l : Launch) (hflags : l.flags = flags0) {b L : Nat} {xs : Nat → Int32} (hL : L ≤ 2560) (C0 : lw_At p s m meth c b L xs) : W p l e room_1 s m #[Value.ref b] below meth c s.heap [] 0 0 (lw_Z below #[Value.ref b] s) (entryFrame m ([Value.ref b] : List Value).toArray 4) := by
  obtain ⟨hx, hb, hr, hml, hown, hts, hX, hbl, hlocks, hgv⟩ := C0
  obtain ⟨G, hK⟩ := law_K hts
  have C : Cx p s m #[.ref b] meth c cL_law RL 4 (some .boolean) G := ⟨hx, hb, hml, hown, fun w h => hts w (lw_gt h), hK, hr, hlocks⟩
  have hl := lv_entry [Value.ref b] (n := 4) (Nat.le_of_ble_eq_true rfl)
  rw [lg_entry_eq]
  generalize (lg_sl [Value.ref b] ++ List.replicate (4 - (lg_sl [Value.ref b]).length) Slot.unset).toArray = ls at hl ⊢
  have hl : lv_has ls 4 [(0, .ref b)] := hl
  have hs : St G (fun q : Nat => s.heap.size ≤ q) s.heap s.heap [] [] := ⟨fun k q hk => by simp at hk, ⟨fun i j p q hi => by simp at hi, fun k q hk => by simp at hk⟩, va_S.rf, fun q h => h⟩
  refine rno (ci := 4) (cells1 := 1) (slots1 := 8) (fs := [.null, .null, .null, .null, .null, .null, .null, .int 0]) tyX4 tyX4_ok ui4 rfl C hs tw_87 tw_88 tw_79 df4 rfl rfl ⟨Nat.le_of_ble_eq_true rfl, Nat.le_of_ble_eq_true rfl⟩ (dk hL_law_0 0 rfl) (fun q1 H hs => ?_)
  refine lv_dup hx hb (dk hL_law_0 1 rfl) rfl ?_
  refine Cc.I (wr := []) (As := []) (rest := [.ref q1]) (cells1 := 97) (slots1 := 765) C hs c_X4_init rfl tw_89 tw_90 tw_79 tw_91 nq_X4_init (by decide) rfl hl.1 rfl (Nat.le_of_ble_eq_true rfl) (dk hL_law_0 2 rfl) rfl rfl ⟨Nat.le_of_ble_eq_true rfl, Nat.le_of_ble_eq_true rfl⟩ (fun z H locs hs => ?_)
  refine lv_astore_n (lv' := [(1, .ref q1), (0, .ref b)]) hx hb (dk hL_law_0 3 rfl) rfl hl (by decide) rfl (fun ls hl => ?_)
  refine rno (ci := 5) (cells1 := 98) (slots1 := 799) tyX5 tyX5_ok ui5 rfl C hs tw_684 tw_685 tw_85 df5 rfl rfl ⟨Nat.le_of_ble_eq_true rfl, Nat.le_of_ble_eq_true rfl⟩ (dk hL_law_0 4 rfl) (fun q2 H hs => ?_)
  refine lv_dup hx hb (dk hL_law_0 5 rfl) rfl ?_
  refine Cc.I (As := []) (rest := [.ref q2]) (cells1 := 114) (slots1 := 1879) C hs c_X5_init rfl tw_686 tw_687 tw_85 tw_688 nq_X5_init (by decide) rfl hl.1 rfl (Nat.le_of_ble_eq_true rfl) (dk hL_law_0 6 rfl) rfl rfl ⟨Nat.le_of_ble_eq_true rfl, Nat.le_of_ble_eq_true rfl⟩ (fun y H locs hs => ?_)
  refine lv_astore_n (lv' := [(2, .ref q2), (1, .ref q1), (0, .ref b)]) hx hb (dk hL_law_0 7 rfl) rfl hl (by decide) rfl (fun ls hl => ?_)
  refine lv_iconst (v := (0 : Int32)) hx hb (dk hL_law_0 8 rfl) (by decide) ?_
  refine lv_istore_n (lv' := [(3, .int (0 : Int32)), (2, .ref q2), (1, .ref q1), (0, .ref b)]) hx hb (dk hL_law_0 9 rfl) rfl hl (by decide) rfl (fun ls hl => ?_)
  have hs : St G (fun q : Nat => s.heap.size ≤ q) s.heap H locs (wL G (cz q1 z.1, z.2.1, z.2.2.1, z.2.2.2.1, z.2.2.2.2.1, z.2.2.2.2.2.1, z.2.2.2.2.2.2.1, z.2.2.2.2.2.2.2.1, z.2.2.2.2.2.2.2.2, cz q2 y) S0) := by
    rw [w_start]
    exact hs
  exact law_loop hL C hX hbl (L + 1) 0 0 S0 (Nat.zero_le _) (by omega) (by decide) inv_start H locs hs ls (lv_sub hl [3, 2, 1, 0] rfl)

