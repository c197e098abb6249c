/-! the law's small methods -/
theorem nq_L_cell : yL_cell.cls ≠ "java/lang/invoke/MethodHandle" ∧ yL_cell.cls ≠ "java/lang/invoke/VarHandle" ∧ (parseMethodDescriptor yL_cell.desc).map (fun d => d.parameters.length) = some 2 := by decide +kernel
theorem nq_L_pick : yL_pick.cls ≠ "java/lang/invoke/MethodHandle" ∧ yL_pick.cls ≠ "java/lang/invoke/VarHandle" ∧ (parseMethodDescriptor yL_pick.desc).map (fun d => d.parameters.length) = some 2 := by decide +kernel
theorem nq_L_tell : yL_tell.cls ≠ "java/lang/invoke/MethodHandle" ∧ yL_tell.cls ≠ "java/lang/invoke/VarHandle" ∧ (parseMethodDescriptor yL_tell.desc).map (fun d => d.parameters.length) = some 2 := by decide +kernel
theorem nq_L_ship : yL_ship.cls ≠ "java/lang/invoke/MethodHandle" ∧ yL_ship.cls ≠ "java/lang/invoke/VarHandle" ∧ (parseMethodDescriptor yL_ship.desc).map (fun d => d.parameters.length) = some 5 := by decide +kernel
theorem nq_L_port : yL_port.cls ≠ "java/lang/invoke/MethodHandle" ∧ yL_port.cls ≠ "java/lang/invoke/VarHandle" ∧ (parseMethodDescriptor yL_port.desc).map (fun d => d.parameters.length) = some 3 := by decide +kernel
def L_pick (p0 : Int32) (p1 : Int32) : Option (Int32) :=
  if p1 = 0 then none else
  some ((p0 &&& (2147483647 : Int32)) - (p0 &&& (2147483647 : Int32)) / p1 * p1)
set_option maxRecDepth 100000 in
set_option maxHeartbeats 4000000 in
theorem c_L_pick {l : Launch} {G : Gx} {w : va_W} {p0 : Int32} {p1 : Int32} {out : Int32} (hf : L_pick p0 p1 = some out) : Ct l G yL_pick cL_pick 2 (some .int) 0 0 [.int p0, .int p1] w (some (.int out)) w := by
  refine Ct.intro RL rfl (plainFor_of_name (by decide)) (Nat.le_of_ble_eq_true rfl) rfl ?_
  intro p e s m args below meth c A C H locs hs ls hl
  obtain ⟨hx, hb, hml, hown, hts, hK, hret, hlk⟩ := id C
  have hl : lv_has ls 2 [(0, .int p0), (1, .int p1)] := hl
  unfold L_pick at hf
  refine lv_iload_n hx hb (dk hL_pick_0 0 rfl) rfl (lv_at hl 0 rfl) ?_
  refine lv_ldc (v := (2147483647 : Int32)) hx hb hown (hts _ tw_452) (dk hL_pick_0 1 rfl) ?_
  refine lv_iand hx hb (dk hL_pick_0 2 rfl) ?_
  refine lv_iload_n hx hb (dk hL_pick_0 3 rfl) rfl (lv_at hl 1 rfl) ?_
  obtain ⟨hne, hf⟩ := idn hf
  refine lv_irem hx hb (dk hL_pick_0 4 rfl) hne ?_
  cases hf
  exact ri C hs (dk hL_pick_0 5 rfl)

def X_L_cell (L : Nat) (xs : Nat → Int32) (k : Int32) : Option Int32 :=
  if Int32.ofNat L ≤ k then some ((7919 * k) + 12) else (if 0 ≤ k ∧ k.toNatClampNeg < L then some (xs k.toNatClampNeg) else none)
set_option maxRecDepth 100000 in
set_option maxHeartbeats 4000000 in
theorem c_L_cell {l : Launch} {G : Gx} {bs L : Nat} {xs : Nat → Int32} {k : Int32} {w : va_W} {out : Int32} (hf : X_L_cell L xs k = some out) : Cg l G bs L xs yL_cell cL_cell 2 (some .int) 0 0 0 0 [.ref bs, .int k] w (some (.int out)) w := by
  refine Cg.intro RL rfl (plainFor_of_name (by decide)) (Nat.le_of_ble_eq_true rfl) rfl ?_
  intro p e s m args below meth c A C hX hbl hbA H locs hs ls hl
  obtain ⟨hx, hb, hml, hown, hts, hK, hret, hlk⟩ := id C
  have hl : lv_has ls 2 [(0, .ref bs), (1, .int k)] := hl
  unfold X_L_cell at hf
  refine lv_iload_n hx hb (dk hL_cell_0 0 rfl) rfl (lv_at hl 1 rfl) ?_
  refine lv_aload_n hx hb (dk hL_cell_0 1 rfl) rfl (lv_at hl 0 rfl) ?_
  refine va_slen hx hb hX hbl hbA hs.2.2.1 (dk hL_cell_0 2 rfl) ?_
  refine lv_icmp_ge (tgt := 12) hx hb (dk hL_cell_0 3 rfl) (by decide) (fun hc => ?_) (fun hc => ?_)
  · replace hf := ip hf hc
    refine lv_sipush (v := (7919 : Int32)) hx hb (dk hL_cell_0 8 rfl) (by decide) ?_
    refine lv_iload_n hx hb (dk hL_cell_0 9 rfl) rfl (lv_at hl 1 rfl) ?_
    refine lv_imul hx hb (dk hL_cell_0 10 rfl) ?_
    refine lv_bipush (v := (12 : Int32)) hx hb (dk hL_cell_0 11 rfl) (by decide) ?_
    refine lv_iadd hx hb (dk hL_cell_0 12 rfl) ?_
    cases hf
    exact riN C hs (dk hL_cell_0 13 rfl)
  · replace hf := in_ hf hc
    by_cases hi : 0 ≤ k ∧ k.toNatClampNeg < L
    · rw [if_pos hi] at hf
      refine lv_aload_n hx hb (dk hL_cell_0 4 rfl) rfl (lv_at hl 0 rfl) ?_
      refine lv_iload_n hx hb (dk hL_cell_0 5 rfl) rfl (lv_at hl 1 rfl) ?_
      refine va_sld hx hb hX hbl hbA hs.2.2.1 (vp_inL hi.1 hi.2) (dk hL_cell_0 6 rfl) ?_
      refine lv_goto (tgt := 20) hx hb (dk hL_cell_0 7 rfl) (by decide) ?_
      cases hf
      exact riN C hs (dk hL_cell_0 13 rfl)
    · rw [if_neg hi] at hf
      cases hf

def X_L_tell_L8 (k : Rw → Option (Rw × Int32)) (x3 : Int32) (t : List Int32) : Nat → Int32 → Rw → Option (Rw × Int32)
  | 0, _, _ => none
  | n + 1, x4, S =>
  if x3 ≤ x4 then
  k S
  else
  (rd t x4).bind fun v_1 =>
  (A_feed S v_1).bind fun u_3 =>
  X_L_tell_L8 k x3 t n (x4 + (1 : Int32)) u_3.1
def X_L_tell (S : Rw) (t : List Int32) : Option (Rw × Int32) :=
  X_L_tell_L8 (fun S_5 =>
  (A_harbour S_5).bind fun u_6 =>
  some (u_6.1, u_6.2)) (Int32.ofNat t.length) t 1000 (0 : Int32) S
set_option maxRecDepth 100000 in
set_option maxHeartbeats 4000000 in
theorem l_L_tell_L8 {p : Program} {l : Launch} {e : Jvm.Env} {s : State} {m : MethodId} {args : Array Value} {below : List Frame} {meth : Method} {c : Code} {A : Nat → Prop} {G : Gx} {a : Aw} {bs L : Nat} {xs : Nat → Int32} {x3 : Int32} {z : Nat} {t : List Int32} {out : Rw × Int32} (C : Cx p s m args meth c cL_tell RL 6 (some .int) G) (hX : va_X bs L xs s s.heap) (hbl : bs < s.heap.size) (hbA : ¬ A bs) {k : Rw → Option (Rw × Int32)} (hk : ∀ (S : Rw), k S = some out → ∀ (H : Heap) (locs : List Loc), St G A s.heap H locs (wR G a S ++ [(z, ar G t)]) → ∀ ls : Array Slot, lv_has ls 6 [(0, .ref (a.1 0))] → W p l e (rmN 8 179 0 0) s m args below meth c H locs 0 0 (MQ below (Qof G A (some (.int out.2)) (wR G a out.1 ++ [(z, ar G t)])) args s 0 0 A) (F0 m 33 ls [])) : ∀ (n : Nat) (x4 : Int32) (S : Rw), X_L_tell_L8 k x3 t n x4 S = some out → ∀ (H : Heap) (locs : List Loc), St G A s.heap H locs (wR G a S ++ [(z, ar G t)]) → ∀ ls : Array Slot, lv_has ls 6 [(0, .ref (a.1 0)), (2, .ref z), (3, .int x3), (4, .int x4)] → W p l e (rmN 8 179 0 0) s m args below meth c H locs 0 0 (MQ below (Qof G A (some (.int out.2)) (wR G a out.1 ++ [(z, ar G t)])) args s 0 0 A) (F0 m 8 ls []) := by
  obtain ⟨hx, hb, hml, hown, hts, hK, hret, hlk⟩ := id C
  intro n
  induction n with
  | zero => intro x4 S hf; cases hf
  | succ n ih =>
    intro x4 S hf H locs hs ls hl
    rw [X_L_tell_L8] at hf
    refine lv_iload hx hb (dk hL_tell_0 7 rfl) (lv_at hl 3 rfl) ?_
    refine lv_iload_n hx hb (dk hL_tell_0 8 rfl) rfl (lv_at hl 2 rfl) ?_
    refine lv_icmp_ge (tgt := 33) hx hb (dk hL_tell_0 9 rfl) (by decide) (fun hc => ?_) (fun hc => ?_)
    · replace hf := ip hf hc
      exact hk _ hf _ _ hs _ (lv_sub hl [0] rfl)
    · replace hf := in_ hf hc
      refine lv_aload_n hx hb (dk hL_tell_0 10 rfl) rfl (lv_at hl 1 rfl) ?_
      refine lv_iload hx hb (dk hL_tell_0 11 rfl) (lv_at hl 3 rfl) ?_
      obtain ⟨v_1, e_2, hf⟩ := Option.bind_eq_some_iff.mp hf
      refine rild C hs 97 rfl e_2 (dk hL_tell_0 12 rfl) ?_
      refine lv_istore (lv' := [(5, .int v_1), (0, .ref (a.1 0)), (2, .ref z), (3, .int x3), (4, .int x4)]) hx hb (dk hL_tell_0 13 rfl) hl (by decide) rfl (fun ls hl => ?_)
      refine lv_aload_n hx hb (dk hL_tell_0 14 rfl) rfl (lv_at hl 1 rfl) ?_
      refine lv_iload hx hb (dk hL_tell_0 15 rfl) (lv_at hl 0 rfl) ?_
      obtain ⟨u_3, e_4, hf⟩ := Option.bind_eq_some_iff.mp hf
      refine Ct.V (As := [.int v_1]) (rest := []) (st1 := [.int u_3.2]) (w1 := (wR G a u_3.1 ++ [(z, ar G t)])) C hs (Ct.post (a_feed e_4)) tw_459 tw_460 tw_461 tw_17 tw_462 nq_X4_feed (by decide) 0 4 rfl rfl rfl rfl hl.1 rfl (Nat.le_of_ble_eq_true rfl) (dk hL_tell_0 16 rfl) ⟨by show 0 ≤ 0; omega, by show 0 ≤ 0; omega⟩ rfl (fun H locs hs => ?_)
      refine lv_pop hx hb (dk hL_tell_0 17 rfl) rfl ?_
      refine lv_iinc (v := (x4 + (1 : Int32))) (lv' := [(4, .int (x4 + (1 : Int32))), (5, .int v_1), (0, .ref (a.1 0)), (2, .ref z), (3, .int x3)]) hx hb (dk hL_tell_0 18 rfl) hl (k := 4) rfl (by first | rfl | decide) (by decide) rfl (fun ls hl => ?_)
      refine lv_goto (tgt := 8) hx hb (dk hL_tell_0 19 rfl) (by decide) ?_
      exact ih _ _ hf _ _ hs _ (lv_sub hl [2, 3, 4, 0] rfl)
set_option maxRecDepth 100000 in
set_option maxHeartbeats 4000000 in
theorem c_L_tell {l : Launch} {G : Gx} {a : Aw} {bs L : Nat} {xs : Nat → Int32} {S : Rw} {z : Nat} {t : List Int32} {out : Rw × Int32} (hf : X_L_tell S t = some out) : Cg l G bs L xs yL_tell cL_tell 6 (some .int) 8 179 0 0 [.ref (a.1 0), .ref z] (wR G a S ++ [(z, ar G t)]) (some (.int out.2)) (wR G a out.1 ++ [(z, ar G t)]) := by
  refine Cg.intro RL rfl (plainFor_of_name (by decide)) (Nat.le_of_ble_eq_true rfl) rfl ?_
  intro p e s m args below meth c A C hX hbl hbA H locs hs ls hl
  obtain ⟨hx, hb, hml, hown, hts, hK, hret, hlk⟩ := id C
  have hl : lv_has ls 6 [(0, .ref (a.1 0)), (1, .ref z)] := hl
  unfold X_L_tell at hf
  refine lv_aload_n hx hb (dk hL_tell_0 0 rfl) rfl (lv_at hl 1 rfl) ?_
  refine lv_astore_n (lv' := [(2, .ref z), (0, .ref (a.1 0)), (1, .ref z)]) hx hb (dk hL_tell_0 1 rfl) rfl hl (by decide) rfl (fun ls hl => ?_)
  refine lv_aload_n hx hb (dk hL_tell_0 2 rfl) rfl (lv_at hl 0 rfl) ?_
  refine rlen C hs 97 rfl (dk hL_tell_0 3 rfl) ?_
  refine lv_istore_n (lv' := [(3, .int (Int32.ofNat t.length)), (2, .ref z), (0, .ref (a.1 0)), (1, .ref z)]) hx hb (dk hL_tell_0 4 rfl) rfl hl (by decide) rfl (fun ls hl => ?_)
  refine lv_iconst (v := (0 : Int32)) hx hb (dk hL_tell_0 5 rfl) (by decide) ?_
  refine lv_istore (lv' := [(4, .int (0 : Int32)), (3, .int (Int32.ofNat t.length)), (2, .ref z), (0, .ref (a.1 0)), (1, .ref z)]) hx hb (dk hL_tell_0 6 rfl) hl (by decide) rfl (fun ls hl => ?_)
  refine l_L_tell_L8 C hX hbl hbA (fun S_5 hf H locs hs ls hl => ?_) 1000 _ _ hf _ _ hs _ (lv_sub hl [3, 2, 1, 0] rfl)
  refine lv_aload_n hx hb (dk hL_tell_0 20 rfl) rfl (lv_at hl 0 rfl) ?_
  obtain ⟨u_6, e_7, hf⟩ := Option.bind_eq_some_iff.mp hf
  refine Ct.V (As := []) (rest := []) (st1 := [.int u_6.2]) (w1 := (wR G a u_6.1 ++ [(z, ar G t)])) C hs (Ct.post (a_harbour e_7)) tw_471 tw_472 tw_473 tw_17 tw_474 nq_X4_harbour (by decide) 0 4 rfl rfl rfl rfl hl.1 rfl (Nat.le_of_ble_eq_true rfl) (dk hL_tell_0 21 rfl) ⟨by show 0 ≤ 0; omega, by show 0 ≤ 0; omega⟩ rfl (fun H locs hs => ?_)
  cases hf
  exact riN C hs (dk hL_tell_0 22 rfl)

def X_L_ship (p1 : Int32) (p2 : Int32) (p3 : Int32) (p4 : Int32) (S : Rw) : Option (Rw × Int32) :=
  (wr (List.replicate 7 (0 : Int32)) (0 : Int32) (115 : Int32)).bind fun t_2 =>
  (wr t_2 (1 : Int32) ((48 : Int32) + p1)).bind fun t_4 =>
  (wr t_4 (2 : Int32) ((48 : Int32) + p2)).bind fun t_6 =>
  (wr t_6 (3 : Int32) ((48 : Int32) + p3)).bind fun t_8 =>
  (wr t_8 (4 : Int32) ((48 : Int32) + (p4 / (10 : Int32)))).bind fun t_10 =>
  (wr t_10 (5 : Int32) ((48 : Int32) + (p4 - p4 / (10 : Int32) * (10 : Int32)))).bind fun t_12 =>
  (wr t_12 (6 : Int32) (59 : Int32)).bind fun t_14 =>
  (X_L_tell S t_14).bind fun u_16 =>
  some (u_16.1, u_16.2)
set_option maxRecDepth 100000 in
set_option maxHeartbeats 4000000 in
theorem c_L_ship {l : Launch} {G : Gx} {a : Aw} {bs L : Nat} {xs : Nat → Int32} {p1 : Int32} {p2 : Int32} {p3 : Int32} {p4 : Int32} {S : Rw} {out : Rw × Int32} (hf : X_L_ship p1 p2 p3 p4 S = some out) : Cg l G bs L xs yL_ship cL_ship 5 (some .int) 9 204 1 7 [.ref (a.1 0), .int p1, .int p2, .int p3, .int p4] (wR G a S) (some (.int out.2)) (wR G a out.1) := by
  refine Cg.intro RL rfl (plainFor_of_name (by decide)) (Nat.le_of_ble_eq_true rfl) rfl ?_
  intro p e s m args below meth c A C hX hbl hbA H locs hs ls hl
  obtain ⟨hx, hb, hml, hown, hts, hK, hret, hlk⟩ := id C
  have hl : lv_has ls 5 [(0, .ref (a.1 0)), (1, .int p1), (2, .int p2), (3, .int p3), (4, .int p4)] := hl
  unfold X_L_ship at hf
  refine lv_aload_n hx hb (dk hL_ship_0 0 rfl) rfl (lv_at hl 0 rfl) ?_
  refine lv_bipush (v := (7 : Int32)) hx hb (dk hL_ship_0 1 rfl) (by decide) ?_
  refine rna (N' := 7) (cells1 := 1) (slots1 := 7) C hs (by decide) (by decide) (Nat.le_of_ble_eq_true rfl) rfl rfl ⟨by show 1 ≤ 1; omega, by show 7 ≤ 7; omega⟩ (dk hL_ship_0 2 rfl) (fun z_1 H hs => ?_)
  refine lv_dup hx hb (dk hL_ship_0 3 rfl) rfl ?_
  refine lv_iconst (v := (0 : Int32)) hx hb (dk hL_ship_0 4 rfl) (by decide) ?_
  refine lv_bipush (v := (115 : Int32)) hx hb (dk hL_ship_0 5 rfl) (by decide) ?_
  obtain ⟨t_2, e_3, hf⟩ := Option.bind_eq_some_iff.mp hf
  refine rist (w1 := (wR G a S ++ [(z_1, ar G t_2)])) C hs 97 rfl e_3 rfl (dk hL_ship_0 6 rfl) (fun H locs hs => ?_)
  refine lv_dup hx hb (dk hL_ship_0 7 rfl) rfl ?_
  refine lv_iconst (v := (1 : Int32)) hx hb (dk hL_ship_0 8 rfl) (by decide) ?_
  refine lv_bipush (v := (48 : Int32)) hx hb (dk hL_ship_0 9 rfl) (by decide) ?_
  refine lv_iload_n hx hb (dk hL_ship_0 10 rfl) rfl (lv_at hl 1 rfl) ?_
  refine lv_iadd hx hb (dk hL_ship_0 11 rfl) ?_
  obtain ⟨t_4, e_5, hf⟩ := Option.bind_eq_some_iff.mp hf
  refine rist (w1 := (wR G a S ++ [(z_1, ar G t_4)])) C hs 97 rfl e_5 rfl (dk hL_ship_0 12 rfl) (fun H locs hs => ?_)
  refine lv_dup hx hb (dk hL_ship_0 13 rfl) rfl ?_
  refine lv_iconst (v := (2 : Int32)) hx hb (dk hL_ship_0 14 rfl) (by decide) ?_
  refine lv_bipush (v := (48 : Int32)) hx hb (dk hL_ship_0 15 rfl) (by decide) ?_
  refine lv_iload_n hx hb (dk hL_ship_0 16 rfl) rfl (lv_at hl 2 rfl) ?_
  refine lv_iadd hx hb (dk hL_ship_0 17 rfl) ?_
  obtain ⟨t_6, e_7, hf⟩ := Option.bind_eq_some_iff.mp hf
  refine rist (w1 := (wR G a S ++ [(z_1, ar G t_6)])) C hs 97 rfl e_7 rfl (dk hL_ship_0 18 rfl) (fun H locs hs => ?_)
  refine lv_dup hx hb (dk hL_ship_0 19 rfl) rfl ?_
  refine lv_iconst (v := (3 : Int32)) hx hb (dk hL_ship_0 20 rfl) (by decide) ?_
  refine lv_bipush (v := (48 : Int32)) hx hb (dk hL_ship_0 21 rfl) (by decide) ?_
  refine lv_iload_n hx hb (dk hL_ship_0 22 rfl) rfl (lv_at hl 3 rfl) ?_
  refine lv_iadd hx hb (dk hL_ship_0 23 rfl) ?_
  obtain ⟨t_8, e_9, hf⟩ := Option.bind_eq_some_iff.mp hf
  refine rist (w1 := (wR G a S ++ [(z_1, ar G t_8)])) C hs 97 rfl e_9 rfl (dk hL_ship_0 24 rfl) (fun H locs hs => ?_)
  refine lv_dup hx hb (dk hL_ship_0 25 rfl) rfl ?_
  refine lv_iconst (v := (4 : Int32)) hx hb (dk hL_ship_0 26 rfl) (by decide) ?_
  refine lv_bipush (v := (48 : Int32)) hx hb (dk hL_ship_0 27 rfl) (by decide) ?_
  refine lv_iload hx hb (dk hL_ship_0 28 rfl) (lv_at hl 4 rfl) ?_
  refine lv_bipush (v := (10 : Int32)) hx hb (dk hL_ship_0 29 rfl) (by decide) ?_
  refine lv_idiv hx hb (dk hL_ship_0 30 rfl) (by decide) ?_
  refine lv_iadd hx hb (dk hL_ship_0 31 rfl) ?_
  obtain ⟨t_10, e_11, hf⟩ := Option.bind_eq_some_iff.mp hf
  refine rist (w1 := (wR G a S ++ [(z_1, ar G t_10)])) C hs 97 rfl e_11 rfl (dk hL_ship_0 32 rfl) (fun H locs hs => ?_)
  refine lv_dup hx hb (dk hL_ship_0 33 rfl) rfl ?_
  refine lv_iconst (v := (5 : Int32)) hx hb (dk hL_ship_0 34 rfl) (by decide) ?_
  refine lv_bipush (v := (48 : Int32)) hx hb (dk hL_ship_0 35 rfl) (by decide) ?_
  refine lv_iload hx hb (dk hL_ship_0 36 rfl) (lv_at hl 4 rfl) ?_
  refine lv_bipush (v := (10 : Int32)) hx hb (dk hL_ship_0 37 rfl) (by decide) ?_
  refine lv_irem hx hb (dk hL_ship_0 38 rfl) (by decide) ?_
  refine lv_iadd hx hb (dk hL_ship_0 39 rfl) ?_
  obtain ⟨t_12, e_13, hf⟩ := Option.bind_eq_some_iff.mp hf
  refine rist (w1 := (wR G a S ++ [(z_1, ar G t_12)])) C hs 97 rfl e_13 rfl (dk hL_ship_1 0 rfl) (fun H locs hs => ?_)
  refine lv_dup hx hb (dk hL_ship_1 1 rfl) rfl ?_
  refine lv_bipush (v := (6 : Int32)) hx hb (dk hL_ship_1 2 rfl) (by decide) ?_
  refine lv_bipush (v := (59 : Int32)) hx hb (dk hL_ship_1 3 rfl) (by decide) ?_
  obtain ⟨t_14, e_15, hf⟩ := Option.bind_eq_some_iff.mp hf
  refine rist (w1 := (wR G a S ++ [(z_1, ar G t_14)])) C hs 97 rfl e_15 rfl (dk hL_ship_1 4 rfl) (fun H locs hs => ?_)
  obtain ⟨u_16, e_17, hf⟩ := Option.bind_eq_some_iff.mp hf
  refine Cg.S (As := [.ref (a.1 0), .ref z_1]) (rest := []) (st1 := [.int u_16.2]) (w1 := (wR G a u_16.1 ++ [(z_1, ar G t_14)])) (cells1 := 1) (slots1 := 7) C hX hbl hbA hs (c_L_tell e_17) tw_456 tw_457 tw_16 tw_458 nq_L_tell (by decide) rfl hl.1 rfl (Nat.le_of_ble_eq_true rfl) (dk hL_ship_1 5 rfl) rfl rfl ⟨by show 1 ≤ 1; omega, by show 7 ≤ 7; omega⟩ rfl (fun H locs hs => ?_)
  replace hs := St.pop hs
  cases hf
  exact riN C hs (dk hL_ship_1 6 rfl)

def X_L_port_L2 (k : Rw → Option (Rw)) (L : Nat) (xs : Nat → Int32) (x2 : Int32) : Nat → Int32 → Rw → Option (Rw)
  | 0, _, _ => none
  | n + 1, x3, S =>
  if (6 : Int32) ≤ x3 then
  k S
  else
  (X_L_cell L xs x3).bind fun u_1 =>
  (wr (List.replicate 9 (0 : Int32)) (0 : Int32) (116 : Int32)).bind fun t_4 =>
  (wr t_4 (1 : Int32) ((48 : Int32) + x3)).bind fun t_6 =>
  (X_L_cell L xs (6 : Int32)).bind fun u_8 =>
  (L_pick u_8 (2 : Int32)).bind fun u_10 =>
  if u_10 = (0 : Int32) then
  (L_pick u_1 (3 : Int32)).bind fun u_42 =>
  (wr t_6 (2 : Int32) ((48 : Int32) + u_42)).bind fun t_44 =>
  (L_pick (u_1 >>> ((4 : Int32) &&& 31)) (10 : Int32)).bind fun u_46 =>
  (wr t_44 (3 : Int32) ((48 : Int32) + u_46)).bind fun t_48 =>
  (wr t_48 (4 : Int32) (59 : Int32)).bind fun t_50 =>
  (wr t_50 (5 : Int32) (117 : Int32)).bind fun t_52 =>
  (wr t_52 (6 : Int32) ((48 : Int32) + x3)).bind fun t_54 =>
  (L_pick (u_1 >>> ((8 : Int32) &&& 31)) (6 : Int32)).bind fun u_56 =>
  (wr t_54 (7 : Int32) ((48 : Int32) + u_56)).bind fun t_58 =>
  (wr t_58 (8 : Int32) (59 : Int32)).bind fun t_60 =>
  (X_L_tell S t_60).bind fun u_62 =>
  (L_pick (u_1 >>> ((12 : Int32) &&& 31)) (3 : Int32)).bind fun u_64 =>
  if u_64 = (0 : Int32) then
  (A_good u_62.1 x3 (0 : Int32)).bind fun u_66 =>
  (L_pick (u_1 >>> ((14 : Int32) &&& 31)) (u_66.2 + (1 : Int32))).bind fun u_68 =>
  (A_hides u_66.1 x3 u_68).bind fun u_70 =>
  X_L_port_L2 k L xs x2 n (x3 + (1 : Int32)) u_70.1
  else
  X_L_port_L2 k L xs x2 n (x3 + (1 : Int32)) u_62.1
  else
  (L_pick u_1 (6 : Int32)).bind fun u_12 =>
  (wr t_6 (2 : Int32) ((48 : Int32) + u_12)).bind fun t_14 =>
  (L_pick (u_1 >>> ((4 : Int32) &&& 31)) (10 : Int32)).bind fun u_16 =>
  (wr t_14 (3 : Int32) ((48 : Int32) + u_16)).bind fun t_18 =>
  (wr t_18 (4 : Int32) (59 : Int32)).bind fun t_20 =>
  (wr t_20 (5 : Int32) (117 : Int32)).bind fun t_22 =>
  (wr t_22 (6 : Int32) ((48 : Int32) + x3)).bind fun t_24 =>
  (L_pick (u_1 >>> ((8 : Int32) &&& 31)) (6 : Int32)).bind fun u_26 =>
  (wr t_24 (7 : Int32) ((48 : Int32) + u_26)).bind fun t_28 =>
  (wr t_28 (8 : Int32) (59 : Int32)).bind fun t_30 =>
  (X_L_tell S t_30).bind fun u_32 =>
  (L_pick (u_1 >>> ((12 : Int32) &&& 31)) (3 : Int32)).bind fun u_34 =>
  if u_34 = (0 : Int32) then
  (A_good u_32.1 x3 (0 : Int32)).bind fun u_36 =>
  (L_pick (u_1 >>> ((14 : Int32) &&& 31)) (u_36.2 + (1 : Int32))).bind fun u_38 =>
  (A_hides u_36.1 x3 u_38).bind fun u_40 =>
  X_L_port_L2 k L xs x2 n (x3 + (1 : Int32)) u_40.1
  else
  X_L_port_L2 k L xs x2 n (x3 + (1 : Int32)) u_32.1
def X_L_port_L175 (k : Rw → Option (Rw)) (L : Nat) (xs : Nat → Int32) : Nat → Int32 → Rw → Option (Rw)
  | 0, _, _ => none
  | n + 1, x3, S =>
  if x3 ≤ (0 : Int32) then
  k S
  else
  (X_L_cell L xs ((7 : Int32) + x3)).bind fun u_77 =>
  (L_pick u_77 (6 : Int32)).bind fun u_79 =>
  (X_L_cell L xs ((7 : Int32) + x3)).bind fun u_81 =>
  (L_pick (u_81 >>> ((3 : Int32) &&& 31)) (10 : Int32)).bind fun u_83 =>
  (X_L_cell L xs ((7 : Int32) + x3)).bind fun u_85 =>
  (L_pick (u_85 >>> ((7 : Int32) &&& 31)) (6 : Int32)).bind fun u_87 =>
  (X_L_cell L xs ((7 : Int32) + x3)).bind fun u_89 =>
  (L_pick (u_89 >>> ((10 : Int32) &&& 31)) (100 : Int32)).bind fun u_91 =>
  (X_L_ship u_79 u_83 u_87 u_91 S).bind fun u_93 =>
  X_L_port_L175 k L xs n (x3 + (-1 : Int32)) u_93.1
def X_L_port (L : Nat) (xs : Nat → Int32) (p2 : Int32) (S : Rw) : Option (Rw) :=
  X_L_port_L2 (fun S_72 =>
  (X_L_cell L xs (7 : Int32)).bind fun u_73 =>
  (L_pick u_73 (p2 + (1 : Int32))).bind fun u_75 =>
  X_L_port_L175 (fun S_95 =>
  (wr (List.replicate 4 (0 : Int32)) (0 : Int32) (99 : Int32)).bind fun t_97 =>
  (X_L_cell L xs (15 : Int32)).bind fun u_99 =>
  (L_pick u_99 (5 : Int32)).bind fun u_101 =>
  (wr t_97 (1 : Int32) ((48 : Int32) + u_101)).bind fun t_103 =>
  (wr t_103 (2 : Int32) (48 : Int32)).bind fun t_105 =>
  (wr t_105 (3 : Int32) (59 : Int32)).bind fun t_107 =>
  (X_L_tell S_95 t_107).bind fun u_109 =>
  (X_L_cell L xs (16 : Int32)).bind fun u_111 =>
  (L_pick u_111 (2 : Int32)).bind fun u_113 =>
  if u_113 = (0 : Int32) then
  (X_L_cell L xs (16 : Int32)).bind fun u_115 =>
  (L_pick (u_115 >>> ((2 : Int32) &&& 31)) (9 : Int32)).bind fun u_117 =>
  (A_days u_109.1 ((1 : Int32) + u_117)).bind fun u_119 =>
  some u_119.1
  else
  some u_109.1) L xs 1000 u_75 S_72) L xs p2 1000 (0 : Int32) S
set_option maxRecDepth 100000 in
set_option maxHeartbeats 4000000 in
theorem l_L_port_L2 {p : Program} {l : Launch} {e : Jvm.Env} {s : State} {m : MethodId} {args : Array Value} {below : List Frame} {meth : Method} {c : Code} {A : Nat → Prop} {G : Gx} {a : Aw} {bs L : Nat} {xs : Nat → Int32} {x2 : Int32} {out : Rw} (C : Cx p s m args meth c cL_port RL 5 none G) (hX : va_X bs L xs s s.heap) (hbl : bs < s.heap.size) (hbA : ¬ A bs) {k : Rw → Option (Rw)} (hk : ∀ (S : Rw), k S = some out → ∀ (H : Heap) (locs : List Loc), St G A s.heap H locs (wR G a S) → ∀ ls : Array Slot, lv_has ls 5 [(0, .ref (a.1 0)), (1, .ref bs), (2, .int x2)] → W p l e (rmN 10 228 2001 16004) s m args below meth c H locs 1000 9000 (MQ below (Qof G A none (wR G a out)) args s 2001 16004 A) (F0 m 162 ls [])) : ∀ (n : Nat) (x3 : Int32) (S : Rw), X_L_port_L2 k L xs x2 n x3 S = some out → ∀ (ca sl : Nat), ca + 1 * n ≤ 1000 → sl + 9 * n ≤ 9000 → ∀ (H : Heap) (locs : List Loc), St G A s.heap H locs (wR G a S) → ∀ ls : Array Slot, lv_has ls 5 [(0, .ref (a.1 0)), (1, .ref bs), (2, .int x2), (3, .int x3)] → W p l e (rmN 10 228 2001 16004) s m args below meth c H locs ca sl (MQ below (Qof G A none (wR G a out)) args s 2001 16004 A) (F0 m 2 ls []) := by
  obtain ⟨hx, hb, hml, hown, hts, hK, hret, hlk⟩ := id C
  intro n
  induction n with
  | zero => intro x3 S hf; cases hf
  | succ n ih =>
    intro x3 S hf ca sl hca hsl H locs hs ls hl
    rw [X_L_port_L2] at hf
    refine lv_iload_n hx hb (dk hL_port_0 2 rfl) rfl (lv_at hl 3 rfl) ?_
    refine lv_bipush (v := (6 : Int32)) hx hb (dk hL_port_0 3 rfl) (by decide) ?_
    refine lv_icmp_ge (tgt := 162) hx hb (dk hL_port_0 4 rfl) (by decide) (fun hc => ?_) (fun hc => ?_)
    · replace hf := ip hf hc
      refine W.widen (k := 1000) (n := 9000) (by omega) (by omega) ?_
      exact hk _ hf _ _ hs _ (lv_sub hl [0, 1, 2] rfl)
    · replace hf := in_ hf hc
      refine lv_aload_n hx hb (dk hL_port_0 5 rfl) rfl (lv_at hl 1 rfl) ?_
      refine lv_iload_n hx hb (dk hL_port_0 6 rfl) rfl (lv_at hl 3 rfl) ?_
      obtain ⟨u_1, e_2, hf⟩ := Option.bind_eq_some_iff.mp hf
      refine Cg.S (As := [.ref bs, .int x3]) (rest := []) (st1 := [.int u_1]) (w1 := (wR G a S)) (cells1 := ca) (slots1 := sl) C hX hbl hbA hs (c_L_cell e_2) tw_446 tw_447 tw_16 tw_448 nq_L_cell (by decide) rfl hl.1 rfl (Nat.le_of_ble_eq_true rfl) (dk hL_port_0 7 rfl) rfl rfl ⟨by show ca ≤ 2001; omega, by show sl ≤ 16004; omega⟩ rfl (fun H locs hs => ?_)
      refine lv_istore (lv' := [(4, .int u_1), (0, .ref (a.1 0)), (1, .ref bs), (2, .int x2), (3, .int x3)]) hx hb (dk hL_port_0 8 rfl) hl (by decide) rfl (fun ls hl => ?_)
      refine lv_aload_n hx hb (dk hL_port_0 9 rfl) rfl (lv_at hl 1 rfl) ?_
      refine lv_bipush (v := (9 : Int32)) hx hb (dk hL_port_0 10 rfl) (by decide) ?_
      refine rna (N' := 9) (cells1 := (ca + 1)) (slots1 := (sl + 9)) C hs (by decide) (by decide) (Nat.le_of_ble_eq_true rfl) rfl rfl ⟨by show (ca + 1) ≤ 2001; omega, by show (sl + 9) ≤ 16004; omega⟩ (dk hL_port_0 11 rfl) (fun z_3 H hs => ?_)
      refine lv_dup hx hb (dk hL_port_0 12 rfl) rfl ?_
      refine lv_iconst (v := (0 : Int32)) hx hb (dk hL_port_0 13 rfl) (by decide) ?_
      refine lv_bipush (v := (116 : Int32)) hx hb (dk hL_port_0 14 rfl) (by decide) ?_
      obtain ⟨t_4, e_5, hf⟩ := Option.bind_eq_some_iff.mp hf
      refine rist (w1 := (wR G a S ++ [(z_3, ar G t_4)])) C hs 97 rfl e_5 rfl (dk hL_port_0 15 rfl) (fun H locs hs => ?_)
      refine lv_dup hx hb (dk hL_port_0 16 rfl) rfl ?_
      refine lv_iconst (v := (1 : Int32)) hx hb (dk hL_port_0 17 rfl) (by decide) ?_
      refine lv_bipush (v := (48 : Int32)) hx hb (dk hL_port_0 18 rfl) (by decide) ?_
      refine lv_iload_n hx hb (dk hL_port_0 19 rfl) rfl (lv_at hl 4 rfl) ?_
      refine lv_iadd hx hb (dk hL_port_0 20 rfl) ?_
      obtain ⟨t_6, e_7, hf⟩ := Option.bind_eq_some_iff.mp hf
      refine rist (w1 := (wR G a S ++ [(z_3, ar G t_6)])) C hs 97 rfl e_7 rfl (dk hL_port_0 21 rfl) (fun H locs hs => ?_)
      refine lv_dup hx hb (dk hL_port_0 22 rfl) rfl ?_
      refine lv_iconst (v := (2 : Int32)) hx hb (dk hL_port_0 23 rfl) (by decide) ?_
      refine lv_bipush (v := (48 : Int32)) hx hb (dk hL_port_0 24 rfl) (by decide) ?_
      refine lv_iload hx hb (dk hL_port_0 25 rfl) (lv_at hl 0 rfl) ?_
      refine lv_aload_n hx hb (dk hL_port_0 26 rfl) rfl (lv_at hl 2 rfl) ?_
      refine lv_bipush (v := (6 : Int32)) hx hb (dk hL_port_0 27 rfl) (by decide) ?_
      obtain ⟨u_8, e_9, hf⟩ := Option.bind_eq_some_iff.mp hf
      refine Cg.S (As := [.ref bs, .int (6 : Int32)]) (rest := [.int u_1, .int (48 : Int32), .int (2 : Int32), .ref z_3, .ref z_3, .ref (a.1 0)]) (st1 := [.int u_8, .int u_1, .int (48 : Int32), .int (2 : Int32), .ref z_3, .ref z_3, .ref (a.1 0)]) (w1 := (wR G a S ++ [(z_3, ar G t_6)])) (cells1 := (ca + 1)) (slots1 := (sl + 9)) C hX hbl hbA hs (c_L_cell e_9) tw_446 tw_447 tw_16 tw_448 nq_L_cell (by decide) rfl hl.1 rfl (Nat.le_of_ble_eq_true rfl) (dk hL_port_0 28 rfl) rfl rfl ⟨by show (ca + 1) ≤ 2001; omega, by show (sl + 9) ≤ 16004; omega⟩ rfl (fun H locs hs => ?_)
      refine lv_iconst (v := (2 : Int32)) hx hb (dk hL_port_0 29 rfl) (by decide) ?_
      obtain ⟨u_10, e_11, hf⟩ := Option.bind_eq_some_iff.mp hf
      refine Ct.S (As := [.int u_8, .int (2 : Int32)]) (rest := [.int u_1, .int (48 : Int32), .int (2 : Int32), .ref z_3, .ref z_3, .ref (a.1 0)]) (st1 := [.int u_10, .int u_1, .int (48 : Int32), .int (2 : Int32), .ref z_3, .ref z_3, .ref (a.1 0)]) (w1 := (wR G a S ++ [(z_3, ar G t_6)])) C hs (c_L_pick e_11) tw_449 tw_450 tw_16 tw_451 nq_L_pick (by decide) rfl hl.1 rfl (Nat.le_of_ble_eq_true rfl) (dk hL_port_0 30 rfl) ⟨by show (ca + 1) ≤ 2001; omega, by show (sl + 9) ≤ 16004; omega⟩ rfl (fun H locs hs => ?_)
      refine lv_if_ne (tgt := 55) hx hb (dk hL_port_0 31 rfl) (by decide) (fun hc => ?_) (fun hc => ?_)
      · replace hf := in_ hf hc
        refine lv_bipush (v := (6 : Int32)) hx hb (dk hL_port_0 34 rfl) (by decide) ?_
        obtain ⟨u_12, e_13, hf⟩ := Option.bind_eq_some_iff.mp hf
        refine Ct.S (As := [.int u_1, .int (6 : Int32)]) (rest := [.int (48 : Int32), .int (2 : Int32), .ref z_3, .ref z_3, .ref (a.1 0)]) (st1 := [.int u_12, .int (48 : Int32), .int (2 : Int32), .ref z_3, .ref z_3, .ref (a.1 0)]) (w1 := (wR G a S ++ [(z_3, ar G t_6)])) C hs (c_L_pick e_13) tw_449 tw_450 tw_16 tw_451 nq_L_pick (by decide) rfl hl.1 rfl (Nat.le_of_ble_eq_true rfl) (dk hL_port_0 35 rfl) ⟨by show (ca + 1) ≤ 2001; omega, by show (sl + 9) ≤ 16004; omega⟩ rfl (fun H locs hs => ?_)
        refine lv_iadd hx hb (dk hL_port_0 36 rfl) ?_
        obtain ⟨t_14, e_15, hf⟩ := Option.bind_eq_some_iff.mp hf
        refine rist (w1 := (wR G a S ++ [(z_3, ar G t_14)])) C hs 97 rfl e_15 rfl (dk hL_port_0 37 rfl) (fun H locs hs => ?_)
        refine lv_dup hx hb (dk hL_port_0 38 rfl) rfl ?_
        refine lv_iconst (v := (3 : Int32)) hx hb (dk hL_port_0 39 rfl) (by decide) ?_
        refine lv_bipush (v := (48 : Int32)) hx hb (dk hL_port_1 0 rfl) (by decide) ?_
        refine lv_iload hx hb (dk hL_port_1 1 rfl) (lv_at hl 0 rfl) ?_
        refine lv_iconst (v := (4 : Int32)) hx hb (dk hL_port_1 2 rfl) (by decide) ?_
        refine lv_ishr hx hb (dk hL_port_1 3 rfl) ?_
        refine lv_bipush (v := (10 : Int32)) hx hb (dk hL_port_1 4 rfl) (by decide) ?_
        obtain ⟨u_16, e_17, hf⟩ := Option.bind_eq_some_iff.mp hf
        refine Ct.S (As := [.int (u_1 >>> ((4 : Int32) &&& 31)), .int (10 : Int32)]) (rest := [.int (48 : Int32), .int (3 : Int32), .ref z_3, .ref z_3, .ref (a.1 0)]) (st1 := [.int u_16, .int (48 : Int32), .int (3 : Int32), .ref z_3, .ref z_3, .ref (a.1 0)]) (w1 := (wR G a S ++ [(z_3, ar G t_14)])) C hs (c_L_pick e_17) tw_449 tw_450 tw_16 tw_451 nq_L_pick (by decide) rfl hl.1 rfl (Nat.le_of_ble_eq_true rfl) (dk hL_port_1 5 rfl) ⟨by show (ca + 1) ≤ 2001; omega, by show (sl + 9) ≤ 16004; omega⟩ rfl (fun H locs hs => ?_)
        refine lv_iadd hx hb (dk hL_port_1 6 rfl) ?_
        obtain ⟨t_18, e_19, hf⟩ := Option.bind_eq_some_iff.mp hf
        refine rist (w1 := (wR G a S ++ [(z_3, ar G t_18)])) C hs 97 rfl e_19 rfl (dk hL_port_1 7 rfl) (fun H locs hs => ?_)
        refine lv_dup hx hb (dk hL_port_1 8 rfl) rfl ?_
        refine lv_iconst (v := (4 : Int32)) hx hb (dk hL_port_1 9 rfl) (by decide) ?_
        refine lv_bipush (v := (59 : Int32)) hx hb (dk hL_port_1 10 rfl) (by decide) ?_
        obtain ⟨t_20, e_21, hf⟩ := Option.bind_eq_some_iff.mp hf
        refine rist (w1 := (wR G a S ++ [(z_3, ar G t_20)])) C hs 97 rfl e_21 rfl (dk hL_port_1 11 rfl) (fun H locs hs => ?_)
        refine lv_dup hx hb (dk hL_port_1 12 rfl) rfl ?_
        refine lv_iconst (v := (5 : Int32)) hx hb (dk hL_port_1 13 rfl) (by decide) ?_
        refine lv_bipush (v := (117 : Int32)) hx hb (dk hL_port_1 14 rfl) (by decide) ?_
        obtain ⟨t_22, e_23, hf⟩ := Option.bind_eq_some_iff.mp hf
        refine rist (w1 := (wR G a S ++ [(z_3, ar G t_22)])) C hs 97 rfl e_23 rfl (dk hL_port_1 15 rfl) (fun H locs hs => ?_)
        refine lv_dup hx hb (dk hL_port_1 16 rfl) rfl ?_
        refine lv_bipush (v := (6 : Int32)) hx hb (dk hL_port_1 17 rfl) (by decide) ?_
        refine lv_bipush (v := (48 : Int32)) hx hb (dk hL_port_1 18 rfl) (by decide) ?_
        refine lv_iload_n hx hb (dk hL_port_1 19 rfl) rfl (lv_at hl 4 rfl) ?_
        refine lv_iadd hx hb (dk hL_port_1 20 rfl) ?_
        obtain ⟨t_24, e_25, hf⟩ := Option.bind_eq_some_iff.mp hf
        refine rist (w1 := (wR G a S ++ [(z_3, ar G t_24)])) C hs 97 rfl e_25 rfl (dk hL_port_1 21 rfl) (fun H locs hs => ?_)
        refine lv_dup hx hb (dk hL_port_1 22 rfl) rfl ?_
        refine lv_bipush (v := (7 : Int32)) hx hb (dk hL_port_1 23 rfl) (by decide) ?_
        refine lv_bipush (v := (48 : Int32)) hx hb (dk hL_port_1 24 rfl) (by decide) ?_
        refine lv_iload hx hb (dk hL_port_1 25 rfl) (lv_at hl 0 rfl) ?_
        refine lv_bipush (v := (8 : Int32)) hx hb (dk hL_port_1 26 rfl) (by decide) ?_
        refine lv_ishr hx hb (dk hL_port_1 27 rfl) ?_
        refine lv_bipush (v := (6 : Int32)) hx hb (dk hL_port_1 28 rfl) (by decide) ?_
        obtain ⟨u_26, e_27, hf⟩ := Option.bind_eq_some_iff.mp hf
        refine Ct.S (As := [.int (u_1 >>> ((8 : Int32) &&& 31)), .int (6 : Int32)]) (rest := [.int (48 : Int32), .int (7 : Int32), .ref z_3, .ref z_3, .ref (a.1 0)]) (st1 := [.int u_26, .int (48 : Int32), .int (7 : Int32), .ref z_3, .ref z_3, .ref (a.1 0)]) (w1 := (wR G a S ++ [(z_3, ar G t_24)])) C hs (c_L_pick e_27) tw_449 tw_450 tw_16 tw_451 nq_L_pick (by decide) rfl hl.1 rfl (Nat.le_of_ble_eq_true rfl) (dk hL_port_1 29 rfl) ⟨by show (ca + 1) ≤ 2001; omega, by show (sl + 9) ≤ 16004; omega⟩ rfl (fun H locs hs => ?_)
        refine lv_iadd hx hb (dk hL_port_1 30 rfl) ?_
        obtain ⟨t_28, e_29, hf⟩ := Option.bind_eq_some_iff.mp hf
        refine rist (w1 := (wR G a S ++ [(z_3, ar G t_28)])) C hs 97 rfl e_29 rfl (dk hL_port_1 31 rfl) (fun H locs hs => ?_)
        refine lv_dup hx hb (dk hL_port_1 32 rfl) rfl ?_
        refine lv_bipush (v := (8 : Int32)) hx hb (dk hL_port_1 33 rfl) (by decide) ?_
        refine lv_bipush (v := (59 : Int32)) hx hb (dk hL_port_1 34 rfl) (by decide) ?_
        obtain ⟨t_30, e_31, hf⟩ := Option.bind_eq_some_iff.mp hf
        refine rist (w1 := (wR G a S ++ [(z_3, ar G t_30)])) C hs 97 rfl e_31 rfl (dk hL_port_1 35 rfl) (fun H locs hs => ?_)
        obtain ⟨u_32, e_33, hf⟩ := Option.bind_eq_some_iff.mp hf
        refine Cg.S (As := [.ref (a.1 0), .ref z_3]) (rest := []) (st1 := [.int u_32.2]) (w1 := (wR G a u_32.1 ++ [(z_3, ar G t_30)])) (cells1 := (ca + 1)) (slots1 := (sl + 9)) C hX hbl hbA hs (c_L_tell e_33) tw_456 tw_457 tw_16 tw_458 nq_L_tell (by decide) rfl hl.1 rfl (Nat.le_of_ble_eq_true rfl) (dk hL_port_1 36 rfl) rfl rfl ⟨by show (ca + 1) ≤ 2001; omega, by show (sl + 9) ≤ 16004; omega⟩ rfl (fun H locs hs => ?_)
        replace hs := St.pop hs
        refine lv_pop hx hb (dk hL_port_1 37 rfl) rfl ?_
        refine lv_iload hx hb (dk hL_port_1 38 rfl) (lv_at hl 0 rfl) ?_
        refine lv_bipush (v := (12 : Int32)) hx hb (dk hL_port_1 39 rfl) (by decide) ?_
        refine lv_ishr hx hb (dk hL_port_2 0 rfl) ?_
        refine lv_iconst (v := (3 : Int32)) hx hb (dk hL_port_2 1 rfl) (by decide) ?_
        obtain ⟨u_34, e_35, hf⟩ := Option.bind_eq_some_iff.mp hf
        refine Ct.S (As := [.int (u_1 >>> ((12 : Int32) &&& 31)), .int (3 : Int32)]) (rest := []) (st1 := [.int u_34]) (w1 := (wR G a u_32.1)) C hs (c_L_pick e_35) tw_449 tw_450 tw_16 tw_451 nq_L_pick (by decide) rfl hl.1 rfl (Nat.le_of_ble_eq_true rfl) (dk hL_port_2 2 rfl) ⟨by show (ca + 1) ≤ 2001; omega, by show (sl + 9) ≤ 16004; omega⟩ rfl (fun H locs hs => ?_)
        refine lv_if_ne (tgt := 156) hx hb (dk hL_port_2 3 rfl) (by decide) (fun hc => ?_) (fun hc => ?_)
        · replace hf := in_ hf hc
          refine lv_iinc (v := (x3 + (1 : Int32))) (lv' := [(3, .int (x3 + (1 : Int32))), (4, .int u_1), (0, .ref (a.1 0)), (1, .ref bs), (2, .int x2)]) hx hb (dk hL_port_2 18 rfl) hl (k := 4) rfl (by first | rfl | decide) (by decide) rfl (fun ls hl => ?_)
          refine lv_goto (tgt := 2) hx hb (dk hL_port_2 19 rfl) (by decide) ?_
          exact ih _ _ hf _ _ (by omega) (by omega) _ _ hs _ (lv_sub hl [2, 3, 4, 0] rfl)
        · replace hf := ip hf hc
          refine lv_aload_n hx hb (dk hL_port_2 4 rfl) rfl (lv_at hl 1 rfl) ?_
          refine lv_iload_n hx hb (dk hL_port_2 5 rfl) rfl (lv_at hl 4 rfl) ?_
          refine lv_iload hx hb (dk hL_port_2 6 rfl) (lv_at hl 0 rfl) ?_
          refine lv_bipush (v := (14 : Int32)) hx hb (dk hL_port_2 7 rfl) (by decide) ?_
          refine lv_ishr hx hb (dk hL_port_2 8 rfl) ?_
          refine lv_aload_n hx hb (dk hL_port_2 9 rfl) rfl (lv_at hl 1 rfl) ?_
          refine lv_iload_n hx hb (dk hL_port_2 10 rfl) rfl (lv_at hl 4 rfl) ?_
          refine lv_iconst (v := (0 : Int32)) hx hb (dk hL_port_2 11 rfl) (by decide) ?_
          obtain ⟨u_36, e_37, hf⟩ := Option.bind_eq_some_iff.mp hf
          refine Ct.V (As := [.int x3, .int (0 : Int32)]) (rest := [.int (u_1 >>> ((14 : Int32) &&& 31)), .int x3, .ref (a.1 0)]) (st1 := [.int u_36.2, .int (u_1 >>> ((14 : Int32) &&& 31)), .int x3, .ref (a.1 0)]) (w1 := (wR G a u_36.1)) C hs (a_good e_37) tw_159 tw_160 tw_161 tw_17 tw_162 nq_X4_good (by decide) 0 4 rfl rfl rfl rfl hl.1 rfl (Nat.le_of_ble_eq_true rfl) (dk hL_port_2 12 rfl) ⟨by show (ca + 1) ≤ 2001; omega, by show (sl + 9) ≤ 16004; omega⟩ rfl (fun H locs hs => ?_)
          refine lv_iconst (v := (1 : Int32)) hx hb (dk hL_port_2 13 rfl) (by decide) ?_
          refine lv_iadd hx hb (dk hL_port_2 14 rfl) ?_
          obtain ⟨u_38, e_39, hf⟩ := Option.bind_eq_some_iff.mp hf
          refine Ct.S (As := [.int (u_1 >>> ((14 : Int32) &&& 31)), .int (u_36.2 + (1 : Int32))]) (rest := [.int x3, .ref (a.1 0)]) (st1 := [.int u_38, .int x3, .ref (a.1 0)]) (w1 := (wR G a u_36.1)) C hs (c_L_pick e_39) tw_449 tw_450 tw_16 tw_451 nq_L_pick (by decide) rfl hl.1 rfl (Nat.le_of_ble_eq_true rfl) (dk hL_port_2 15 rfl) ⟨by show (ca + 1) ≤ 2001; omega, by show (sl + 9) ≤ 16004; omega⟩ rfl (fun H locs hs => ?_)
          obtain ⟨u_40, e_41, hf⟩ := Option.bind_eq_some_iff.mp hf
          refine Ct.V (As := [.int x3, .int u_38]) (rest := []) (st1 := [.int u_40.2]) (w1 := (wR G a u_40.1)) C hs (a_hides e_41) tw_228 tw_229 tw_230 tw_17 tw_231 nq_X4_hides (by decide) 0 4 rfl rfl rfl rfl hl.1 rfl (Nat.le_of_ble_eq_true rfl) (dk hL_port_2 16 rfl) ⟨by show (ca + 1) ≤ 2001; omega, by show (sl + 9) ≤ 16004; omega⟩ rfl (fun H locs hs => ?_)
          refine lv_pop hx hb (dk hL_port_2 17 rfl) rfl ?_
          refine lv_iinc (v := (x3 + (1 : Int32))) (lv' := [(3, .int (x3 + (1 : Int32))), (4, .int u_1), (0, .ref (a.1 0)), (1, .ref bs), (2, .int x2)]) hx hb (dk hL_port_2 18 rfl) hl (k := 4) rfl (by first | rfl | decide) (by decide) rfl (fun ls hl => ?_)
          refine lv_goto (tgt := 2) hx hb (dk hL_port_2 19 rfl) (by decide) ?_
          exact ih _ _ hf _ _ (by omega) (by omega) _ _ hs _ (lv_sub hl [2, 3, 4, 0] rfl)
      · replace hf := ip hf hc
        refine lv_iconst (v := (3 : Int32)) hx hb (dk hL_port_0 32 rfl) (by decide) ?_
        refine lv_goto (tgt := 57) hx hb (dk hL_port_0 33 rfl) (by decide) ?_
        obtain ⟨u_42, e_43, hf⟩ := Option.bind_eq_some_iff.mp hf
        refine Ct.S (As := [.int u_1, .int (3 : Int32)]) (rest := [.int (48 : Int32), .int (2 : Int32), .ref z_3, .ref z_3, .ref (a.1 0)]) (st1 := [.int u_42, .int (48 : Int32), .int (2 : Int32), .ref z_3, .ref z_3, .ref (a.1 0)]) (w1 := (wR G a S ++ [(z_3, ar G t_6)])) C hs (c_L_pick e_43) tw_449 tw_450 tw_16 tw_451 nq_L_pick (by decide) rfl hl.1 rfl (Nat.le_of_ble_eq_true rfl) (dk hL_port_0 35 rfl) ⟨by show (ca + 1) ≤ 2001; omega, by show (sl + 9) ≤ 16004; omega⟩ rfl (fun H locs hs => ?_)
        refine lv_iadd hx hb (dk hL_port_0 36 rfl) ?_
        obtain ⟨t_44, e_45, hf⟩ := Option.bind_eq_some_iff.mp hf
        refine rist (w1 := (wR G a S ++ [(z_3, ar G t_44)])) C hs 97 rfl e_45 rfl (dk hL_port_0 37 rfl) (fun H locs hs => ?_)
        refine lv_dup hx hb (dk hL_port_0 38 rfl) rfl ?_
        refine lv_iconst (v := (3 : Int32)) hx hb (dk hL_port_0 39 rfl) (by decide) ?_
        refine lv_bipush (v := (48 : Int32)) hx hb (dk hL_port_1 0 rfl) (by decide) ?_
        refine lv_iload hx hb (dk hL_port_1 1 rfl) (lv_at hl 0 rfl) ?_
        refine lv_iconst (v := (4 : Int32)) hx hb (dk hL_port_1 2 rfl) (by decide) ?_
        refine lv_ishr hx hb (dk hL_port_1 3 rfl) ?_
        refine lv_bipush (v := (10 : Int32)) hx hb (dk hL_port_1 4 rfl) (by decide) ?_
        obtain ⟨u_46, e_47, hf⟩ := Option.bind_eq_some_iff.mp hf
        refine Ct.S (As := [.int (u_1 >>> ((4 : Int32) &&& 31)), .int (10 : Int32)]) (rest := [.int (48 : Int32), .int (3 : Int32), .ref z_3, .ref z_3, .ref (a.1 0)]) (st1 := [.int u_46, .int (48 : Int32), .int (3 : Int32), .ref z_3, .ref z_3, .ref (a.1 0)]) (w1 := (wR G a S ++ [(z_3, ar G t_44)])) C hs (c_L_pick e_47) tw_449 tw_450 tw_16 tw_451 nq_L_pick (by decide) rfl hl.1 rfl (Nat.le_of_ble_eq_true rfl) (dk hL_port_1 5 rfl) ⟨by show (ca + 1) ≤ 2001; omega, by show (sl + 9) ≤ 16004; omega⟩ rfl (fun H locs hs => ?_)
        refine lv_iadd hx hb (dk hL_port_1 6 rfl) ?_
        obtain ⟨t_48, e_49, hf⟩ := Option.bind_eq_some_iff.mp hf
        refine rist (w1 := (wR G a S ++ [(z_3, ar G t_48)])) C hs 97 rfl e_49 rfl (dk hL_port_1 7 rfl) (fun H locs hs => ?_)
        refine lv_dup hx hb (dk hL_port_1 8 rfl) rfl ?_
        refine lv_iconst (v := (4 : Int32)) hx hb (dk hL_port_1 9 rfl) (by decide) ?_
        refine lv_bipush (v := (59 : Int32)) hx hb (dk hL_port_1 10 rfl) (by decide) ?_
        obtain ⟨t_50, e_51, hf⟩ := Option.bind_eq_some_iff.mp hf
        refine rist (w1 := (wR G a S ++ [(z_3, ar G t_50)])) C hs 97 rfl e_51 rfl (dk hL_port_1 11 rfl) (fun H locs hs => ?_)
        refine lv_dup hx hb (dk hL_port_1 12 rfl) rfl ?_
        refine lv_iconst (v := (5 : Int32)) hx hb (dk hL_port_1 13 rfl) (by decide) ?_
        refine lv_bipush (v := (117 : Int32)) hx hb (dk hL_port_1 14 rfl) (by decide) ?_
        obtain ⟨t_52, e_53, hf⟩ := Option.bind_eq_some_iff.mp hf
        refine rist (w1 := (wR G a S ++ [(z_3, ar G t_52)])) C hs 97 rfl e_53 rfl (dk hL_port_1 15 rfl) (fun H locs hs => ?_)
        refine lv_dup hx hb (dk hL_port_1 16 rfl) rfl ?_
        refine lv_bipush (v := (6 : Int32)) hx hb (dk hL_port_1 17 rfl) (by decide) ?_
        refine lv_bipush (v := (48 : Int32)) hx hb (dk hL_port_1 18 rfl) (by decide) ?_
        refine lv_iload_n hx hb (dk hL_port_1 19 rfl) rfl (lv_at hl 4 rfl) ?_
        refine lv_iadd hx hb (dk hL_port_1 20 rfl) ?_
        obtain ⟨t_54, e_55, hf⟩ := Option.bind_eq_some_iff.mp hf
        refine rist (w1 := (wR G a S ++ [(z_3, ar G t_54)])) C hs 97 rfl e_55 rfl (dk hL_port_1 21 rfl) (fun H locs hs => ?_)
        refine lv_dup hx hb (dk hL_port_1 22 rfl) rfl ?_
        refine lv_bipush (v := (7 : Int32)) hx hb (dk hL_port_1 23 rfl) (by decide) ?_
        refine lv_bipush (v := (48 : Int32)) hx hb (dk hL_port_1 24 rfl) (by decide) ?_
        refine lv_iload hx hb (dk hL_port_1 25 rfl) (lv_at hl 0 rfl) ?_
        refine lv_bipush (v := (8 : Int32)) hx hb (dk hL_port_1 26 rfl) (by decide) ?_
        refine lv_ishr hx hb (dk hL_port_1 27 rfl) ?_
        refine lv_bipush (v := (6 : Int32)) hx hb (dk hL_port_1 28 rfl) (by decide) ?_
        obtain ⟨u_56, e_57, hf⟩ := Option.bind_eq_some_iff.mp hf
        refine Ct.S (As := [.int (u_1 >>> ((8 : Int32) &&& 31)), .int (6 : Int32)]) (rest := [.int (48 : Int32), .int (7 : Int32), .ref z_3, .ref z_3, .ref (a.1 0)]) (st1 := [.int u_56, .int (48 : Int32), .int (7 : Int32), .ref z_3, .ref z_3, .ref (a.1 0)]) (w1 := (wR G a S ++ [(z_3, ar G t_54)])) C hs (c_L_pick e_57) tw_449 tw_450 tw_16 tw_451 nq_L_pick (by decide) rfl hl.1 rfl (Nat.le_of_ble_eq_true rfl) (dk hL_port_1 29 rfl) ⟨by show (ca + 1) ≤ 2001; omega, by show (sl + 9) ≤ 16004; omega⟩ rfl (fun H locs hs => ?_)
        refine lv_iadd hx hb (dk hL_port_1 30 rfl) ?_
        obtain ⟨t_58, e_59, hf⟩ := Option.bind_eq_some_iff.mp hf
        refine rist (w1 := (wR G a S ++ [(z_3, ar G t_58)])) C hs 97 rfl e_59 rfl (dk hL_port_1 31 rfl) (fun H locs hs => ?_)
        refine lv_dup hx hb (dk hL_port_1 32 rfl) rfl ?_
        refine lv_bipush (v := (8 : Int32)) hx hb (dk hL_port_1 33 rfl) (by decide) ?_
        refine lv_bipush (v := (59 : Int32)) hx hb (dk hL_port_1 34 rfl) (by decide) ?_
        obtain ⟨t_60, e_61, hf⟩ := Option.bind_eq_some_iff.mp hf
        refine rist (w1 := (wR G a S ++ [(z_3, ar G t_60)])) C hs 97 rfl e_61 rfl (dk hL_port_1 35 rfl) (fun H locs hs => ?_)
        obtain ⟨u_62, e_63, hf⟩ := Option.bind_eq_some_iff.mp hf
        refine Cg.S (As := [.ref (a.1 0), .ref z_3]) (rest := []) (st1 := [.int u_62.2]) (w1 := (wR G a u_62.1 ++ [(z_3, ar G t_60)])) (cells1 := (ca + 1)) (slots1 := (sl + 9)) C hX hbl hbA hs (c_L_tell e_63) tw_456 tw_457 tw_16 tw_458 nq_L_tell (by decide) rfl hl.1 rfl (Nat.le_of_ble_eq_true rfl) (dk hL_port_1 36 rfl) rfl rfl ⟨by show (ca + 1) ≤ 2001; omega, by show (sl + 9) ≤ 16004; omega⟩ rfl (fun H locs hs => ?_)
        replace hs := St.pop hs
        refine lv_pop hx hb (dk hL_port_1 37 rfl) rfl ?_
        refine lv_iload hx hb (dk hL_port_1 38 rfl) (lv_at hl 0 rfl) ?_
        refine lv_bipush (v := (12 : Int32)) hx hb (dk hL_port_1 39 rfl) (by decide) ?_
        refine lv_ishr hx hb (dk hL_port_2 0 rfl) ?_
        refine lv_iconst (v := (3 : Int32)) hx hb (dk hL_port_2 1 rfl) (by decide) ?_
        obtain ⟨u_64, e_65, hf⟩ := Option.bind_eq_some_iff.mp hf
        refine Ct.S (As := [.int (u_1 >>> ((12 : Int32) &&& 31)), .int (3 : Int32)]) (rest := []) (st1 := [.int u_64]) (w1 := (wR G a u_62.1)) C hs (c_L_pick e_65) tw_449 tw_450 tw_16 tw_451 nq_L_pick (by decide) rfl hl.1 rfl (Nat.le_of_ble_eq_true rfl) (dk hL_port_2 2 rfl) ⟨by show (ca + 1) ≤ 2001; omega, by show (sl + 9) ≤ 16004; omega⟩ rfl (fun H locs hs => ?_)
        refine lv_if_ne (tgt := 156) hx hb (dk hL_port_2 3 rfl) (by decide) (fun hc => ?_) (fun hc => ?_)
        · replace hf := in_ hf hc
          refine lv_iinc (v := (x3 + (1 : Int32))) (lv' := [(3, .int (x3 + (1 : Int32))), (4, .int u_1), (0, .ref (a.1 0)), (1, .ref bs), (2, .int x2)]) hx hb (dk hL_port_2 18 rfl) hl (k := 4) rfl (by first | rfl | decide) (by decide) rfl (fun ls hl => ?_)
          refine lv_goto (tgt := 2) hx hb (dk hL_port_2 19 rfl) (by decide) ?_
          exact ih _ _ hf _ _ (by omega) (by omega) _ _ hs _ (lv_sub hl [2, 3, 4, 0] rfl)
        · replace hf := ip hf hc
          refine lv_aload_n hx hb (dk hL_port_2 4 rfl) rfl (lv_at hl 1 rfl) ?_
          refine lv_iload_n hx hb (dk hL_port_2 5 rfl) rfl (lv_at hl 4 rfl) ?_
          refine lv_iload hx hb (dk hL_port_2 6 rfl) (lv_at hl 0 rfl) ?_
          refine lv_bipush (v := (14 : Int32)) hx hb (dk hL_port_2 7 rfl) (by decide) ?_
          refine lv_ishr hx hb (dk hL_port_2 8 rfl) ?_
          refine lv_aload_n hx hb (dk hL_port_2 9 rfl) rfl (lv_at hl 1 rfl) ?_
          refine lv_iload_n hx hb (dk hL_port_2 10 rfl) rfl (lv_at hl 4 rfl) ?_
          refine lv_iconst (v := (0 : Int32)) hx hb (dk hL_port_2 11 rfl) (by decide) ?_
          obtain ⟨u_66, e_67, hf⟩ := Option.bind_eq_some_iff.mp hf
          refine Ct.V (As := [.int x3, .int (0 : Int32)]) (rest := [.int (u_1 >>> ((14 : Int32) &&& 31)), .int x3, .ref (a.1 0)]) (st1 := [.int u_66.2, .int (u_1 >>> ((14 : Int32) &&& 31)), .int x3, .ref (a.1 0)]) (w1 := (wR G a u_66.1)) C hs (a_good e_67) tw_159 tw_160 tw_161 tw_17 tw_162 nq_X4_good (by decide) 0 4 rfl rfl rfl rfl hl.1 rfl (Nat.le_of_ble_eq_true rfl) (dk hL_port_2 12 rfl) ⟨by show (ca + 1) ≤ 2001; omega, by show (sl + 9) ≤ 16004; omega⟩ rfl (fun H locs hs => ?_)
          refine lv_iconst (v := (1 : Int32)) hx hb (dk hL_port_2 13 rfl) (by decide) ?_
          refine lv_iadd hx hb (dk hL_port_2 14 rfl) ?_
          obtain ⟨u_68, e_69, hf⟩ := Option.bind_eq_some_iff.mp hf
          refine Ct.S (As := [.int (u_1 >>> ((14 : Int32) &&& 31)), .int (u_66.2 + (1 : Int32))]) (rest := [.int x3, .ref (a.1 0)]) (st1 := [.int u_68, .int x3, .ref (a.1 0)]) (w1 := (wR G a u_66.1)) C hs (c_L_pick e_69) tw_449 tw_450 tw_16 tw_451 nq_L_pick (by decide) rfl hl.1 rfl (Nat.le_of_ble_eq_true rfl) (dk hL_port_2 15 rfl) ⟨by show (ca + 1) ≤ 2001; omega, by show (sl + 9) ≤ 16004; omega⟩ rfl (fun H locs hs => ?_)
          obtain ⟨u_70, e_71, hf⟩ := Option.bind_eq_some_iff.mp hf
          refine Ct.V (As := [.int x3, .int u_68]) (rest := []) (st1 := [.int u_70.2]) (w1 := (wR G a u_70.1)) C hs (a_hides e_71) tw_228 tw_229 tw_230 tw_17 tw_231 nq_X4_hides (by decide) 0 4 rfl rfl rfl rfl hl.1 rfl (Nat.le_of_ble_eq_true rfl) (dk hL_port_2 16 rfl) ⟨by show (ca + 1) ≤ 2001; omega, by show (sl + 9) ≤ 16004; omega⟩ rfl (fun H locs hs => ?_)
          refine lv_pop hx hb (dk hL_port_2 17 rfl) rfl ?_
          refine lv_iinc (v := (x3 + (1 : Int32))) (lv' := [(3, .int (x3 + (1 : Int32))), (4, .int u_1), (0, .ref (a.1 0)), (1, .ref bs), (2, .int x2)]) hx hb (dk hL_port_2 18 rfl) hl (k := 4) rfl (by first | rfl | decide) (by decide) rfl (fun ls hl => ?_)
          refine lv_goto (tgt := 2) hx hb (dk hL_port_2 19 rfl) (by decide) ?_
          exact ih _ _ hf _ _ (by omega) (by omega) _ _ hs _ (lv_sub hl [2, 3, 4, 0] rfl)
set_option maxRecDepth 100000 in
set_option maxHeartbeats 4000000 in
theorem l_L_port_L175 {p : Program} {l : Launch} {e : Jvm.Env} {s : State} {m : MethodId} {args : Array Value} {below : List Frame} {meth : Method} {c : Code} {A : Nat → Prop} {G : Gx} {a : Aw} {bs L : Nat} {xs : Nat → Int32} {out : Rw} (C : Cx p s m args meth c cL_port RL 5 none G) (hX : va_X bs L xs s s.heap) (hbl : bs < s.heap.size) (hbA : ¬ A bs) {k : Rw → Option (Rw)} (hk : ∀ (S : Rw), k S = some out → ∀ (H : Heap) (locs : List Loc), St G A s.heap H locs (wR G a S) → ∀ ls : Array Slot, lv_has ls 5 [(0, .ref (a.1 0)), (1, .ref bs)] → W p l e (rmN 10 228 2001 16004) s m args below meth c H locs 2000 16000 (MQ below (Qof G A none (wR G a out)) args s 2001 16004 A) (F0 m 250 ls [])) : ∀ (n : Nat) (x3 : Int32) (S : Rw), X_L_port_L175 k L xs n x3 S = some out → ∀ (ca sl : Nat), ca + 1 * n ≤ 2000 → sl + 7 * n ≤ 16000 → ∀ (H : Heap) (locs : List Loc), St G A s.heap H locs (wR G a S) → ∀ ls : Array Slot, lv_has ls 5 [(0, .ref (a.1 0)), (1, .ref bs), (3, .int x3)] → W p l e (rmN 10 228 2001 16004) s m args below meth c H locs ca sl (MQ below (Qof G A none (wR G a out)) args s 2001 16004 A) (F0 m 175 ls []) := by
  obtain ⟨hx, hb, hml, hown, hts, hK, hret, hlk⟩ := id C
  intro n
  induction n with
  | zero => intro x3 S hf; cases hf
  | succ n ih =>
    intro x3 S hf ca sl hca hsl H locs hs ls hl
    rw [X_L_port_L175] at hf
    refine lv_iload_n hx hb (dk hL_port_2 28 rfl) rfl (lv_at hl 2 rfl) ?_
    refine lv_if_le (tgt := 250) hx hb (dk hL_port_2 29 rfl) (by decide) (fun hc => ?_) (fun hc => ?_)
    · replace hf := ip hf hc
      refine W.widen (k := 2000) (n := 16000) (by omega) (by omega) ?_
      exact hk _ hf _ _ hs _ (lv_sub hl [0, 1] rfl)
    · replace hf := in_ hf hc
      refine lv_aload_n hx hb (dk hL_port_2 30 rfl) rfl (lv_at hl 0 rfl) ?_
      refine lv_aload_n hx hb (dk hL_port_2 31 rfl) rfl (lv_at hl 1 rfl) ?_
      refine lv_bipush (v := (7 : Int32)) hx hb (dk hL_port_2 32 rfl) (by decide) ?_
      refine lv_iload_n hx hb (dk hL_port_2 33 rfl) rfl (lv_at hl 2 rfl) ?_
      refine lv_iadd hx hb (dk hL_port_2 34 rfl) ?_
      obtain ⟨u_77, e_78, hf⟩ := Option.bind_eq_some_iff.mp hf
      refine Cg.S (As := [.ref bs, .int ((7 : Int32) + x3)]) (rest := [.ref (a.1 0)]) (st1 := [.int u_77, .ref (a.1 0)]) (w1 := (wR G a S)) (cells1 := ca) (slots1 := sl) C hX hbl hbA hs (c_L_cell e_78) tw_446 tw_447 tw_16 tw_448 nq_L_cell (by decide) rfl hl.1 rfl (Nat.le_of_ble_eq_true rfl) (dk hL_port_2 35 rfl) rfl rfl ⟨by show ca ≤ 2001; omega, by show sl ≤ 16004; omega⟩ rfl (fun H locs hs => ?_)
      refine lv_bipush (v := (6 : Int32)) hx hb (dk hL_port_2 36 rfl) (by decide) ?_
      obtain ⟨u_79, e_80, hf⟩ := Option.bind_eq_some_iff.mp hf
      refine Ct.S (As := [.int u_77, .int (6 : Int32)]) (rest := [.ref (a.1 0)]) (st1 := [.int u_79, .ref (a.1 0)]) (w1 := (wR G a S)) C hs (c_L_pick e_80) tw_449 tw_450 tw_16 tw_451 nq_L_pick (by decide) rfl hl.1 rfl (Nat.le_of_ble_eq_true rfl) (dk hL_port_2 37 rfl) ⟨by show ca ≤ 2001; omega, by show sl ≤ 16004; omega⟩ rfl (fun H locs hs => ?_)
      refine lv_aload_n hx hb (dk hL_port_2 38 rfl) rfl (lv_at hl 1 rfl) ?_
      refine lv_bipush (v := (7 : Int32)) hx hb (dk hL_port_2 39 rfl) (by decide) ?_
      refine lv_iload_n hx hb (dk hL_port_3 0 rfl) rfl (lv_at hl 2 rfl) ?_
      refine lv_iadd hx hb (dk hL_port_3 1 rfl) ?_
      obtain ⟨u_81, e_82, hf⟩ := Option.bind_eq_some_iff.mp hf
      refine Cg.S (As := [.ref bs, .int ((7 : Int32) + x3)]) (rest := [.int u_79, .ref (a.1 0)]) (st1 := [.int u_81, .int u_79, .ref (a.1 0)]) (w1 := (wR G a S)) (cells1 := ca) (slots1 := sl) C hX hbl hbA hs (c_L_cell e_82) tw_446 tw_447 tw_16 tw_448 nq_L_cell (by decide) rfl hl.1 rfl (Nat.le_of_ble_eq_true rfl) (dk hL_port_3 2 rfl) rfl rfl ⟨by show ca ≤ 2001; omega, by show sl ≤ 16004; omega⟩ rfl (fun H locs hs => ?_)
      refine lv_iconst (v := (3 : Int32)) hx hb (dk hL_port_3 3 rfl) (by decide) ?_
      refine lv_ishr hx hb (dk hL_port_3 4 rfl) ?_
      refine lv_bipush (v := (10 : Int32)) hx hb (dk hL_port_3 5 rfl) (by decide) ?_
      obtain ⟨u_83, e_84, hf⟩ := Option.bind_eq_some_iff.mp hf
      refine Ct.S (As := [.int (u_81 >>> ((3 : Int32) &&& 31)), .int (10 : Int32)]) (rest := [.int u_79, .ref (a.1 0)]) (st1 := [.int u_83, .int u_79, .ref (a.1 0)]) (w1 := (wR G a S)) C hs (c_L_pick e_84) tw_449 tw_450 tw_16 tw_451 nq_L_pick (by decide) rfl hl.1 rfl (Nat.le_of_ble_eq_true rfl) (dk hL_port_3 6 rfl) ⟨by show ca ≤ 2001; omega, by show sl ≤ 16004; omega⟩ rfl (fun H locs hs => ?_)
      refine lv_aload_n hx hb (dk hL_port_3 7 rfl) rfl (lv_at hl 1 rfl) ?_
      refine lv_bipush (v := (7 : Int32)) hx hb (dk hL_port_3 8 rfl) (by decide) ?_
      refine lv_iload_n hx hb (dk hL_port_3 9 rfl) rfl (lv_at hl 2 rfl) ?_
      refine lv_iadd hx hb (dk hL_port_3 10 rfl) ?_
      obtain ⟨u_85, e_86, hf⟩ := Option.bind_eq_some_iff.mp hf
      refine Cg.S (As := [.ref bs, .int ((7 : Int32) + x3)]) (rest := [.int u_83, .int u_79, .ref (a.1 0)]) (st1 := [.int u_85, .int u_83, .int u_79, .ref (a.1 0)]) (w1 := (wR G a S)) (cells1 := ca) (slots1 := sl) C hX hbl hbA hs (c_L_cell e_86) tw_446 tw_447 tw_16 tw_448 nq_L_cell (by decide) rfl hl.1 rfl (Nat.le_of_ble_eq_true rfl) (dk hL_port_3 11 rfl) rfl rfl ⟨by show ca ≤ 2001; omega, by show sl ≤ 16004; omega⟩ rfl (fun H locs hs => ?_)
      refine lv_bipush (v := (7 : Int32)) hx hb (dk hL_port_3 12 rfl) (by decide) ?_
      refine lv_ishr hx hb (dk hL_port_3 13 rfl) ?_
      refine lv_bipush (v := (6 : Int32)) hx hb (dk hL_port_3 14 rfl) (by decide) ?_
      obtain ⟨u_87, e_88, hf⟩ := Option.bind_eq_some_iff.mp hf
      refine Ct.S (As := [.int (u_85 >>> ((7 : Int32) &&& 31)), .int (6 : Int32)]) (rest := [.int u_83, .int u_79, .ref (a.1 0)]) (st1 := [.int u_87, .int u_83, .int u_79, .ref (a.1 0)]) (w1 := (wR G a S)) C hs (c_L_pick e_88) tw_449 tw_450 tw_16 tw_451 nq_L_pick (by decide) rfl hl.1 rfl (Nat.le_of_ble_eq_true rfl) (dk hL_port_3 15 rfl) ⟨by show ca ≤ 2001; omega, by show sl ≤ 16004; omega⟩ rfl (fun H locs hs => ?_)
      refine lv_aload_n hx hb (dk hL_port_3 16 rfl) rfl (lv_at hl 1 rfl) ?_
      refine lv_bipush (v := (7 : Int32)) hx hb (dk hL_port_3 17 rfl) (by decide) ?_
      refine lv_iload_n hx hb (dk hL_port_3 18 rfl) rfl (lv_at hl 2 rfl) ?_
      refine lv_iadd hx hb (dk hL_port_3 19 rfl) ?_
      obtain ⟨u_89, e_90, hf⟩ := Option.bind_eq_some_iff.mp hf
      refine Cg.S (As := [.ref bs, .int ((7 : Int32) + x3)]) (rest := [.int u_87, .int u_83, .int u_79, .ref (a.1 0)]) (st1 := [.int u_89, .int u_87, .int u_83, .int u_79, .ref (a.1 0)]) (w1 := (wR G a S)) (cells1 := ca) (slots1 := sl) C hX hbl hbA hs (c_L_cell e_90) tw_446 tw_447 tw_16 tw_448 nq_L_cell (by decide) rfl hl.1 rfl (Nat.le_of_ble_eq_true rfl) (dk hL_port_3 20 rfl) rfl rfl ⟨by show ca ≤ 2001; omega, by show sl ≤ 16004; omega⟩ rfl (fun H locs hs => ?_)
      refine lv_bipush (v := (10 : Int32)) hx hb (dk hL_port_3 21 rfl) (by decide) ?_
      refine lv_ishr hx hb (dk hL_port_3 22 rfl) ?_
      refine lv_bipush (v := (100 : Int32)) hx hb (dk hL_port_3 23 rfl) (by decide) ?_
      obtain ⟨u_91, e_92, hf⟩ := Option.bind_eq_some_iff.mp hf
      refine Ct.S (As := [.int (u_89 >>> ((10 : Int32) &&& 31)), .int (100 : Int32)]) (rest := [.int u_87, .int u_83, .int u_79, .ref (a.1 0)]) (st1 := [.int u_91, .int u_87, .int u_83, .int u_79, .ref (a.1 0)]) (w1 := (wR G a S)) C hs (c_L_pick e_92) tw_449 tw_450 tw_16 tw_451 nq_L_pick (by decide) rfl hl.1 rfl (Nat.le_of_ble_eq_true rfl) (dk hL_port_3 24 rfl) ⟨by show ca ≤ 2001; omega, by show sl ≤ 16004; omega⟩ rfl (fun H locs hs => ?_)
      obtain ⟨u_93, e_94, hf⟩ := Option.bind_eq_some_iff.mp hf
      refine Cg.S (As := [.ref (a.1 0), .int u_79, .int u_83, .int u_87, .int u_91]) (rest := []) (st1 := [.int u_93.2]) (w1 := (wR G a u_93.1)) (cells1 := (ca + 1)) (slots1 := (sl + 7)) C hX hbl hbA hs (c_L_ship e_94) tw_529 tw_530 tw_16 tw_531 nq_L_ship (by decide) rfl hl.1 rfl (Nat.le_of_ble_eq_true rfl) (dk hL_port_3 25 rfl) rfl rfl ⟨by show (ca + 1) ≤ 2001; omega, by show (sl + 7) ≤ 16004; omega⟩ rfl (fun H locs hs => ?_)
      refine lv_pop hx hb (dk hL_port_3 26 rfl) rfl ?_
      refine lv_iinc (v := (x3 + (-1 : Int32))) (lv' := [(3, .int (x3 + (-1 : Int32))), (0, .ref (a.1 0)), (1, .ref bs)]) hx hb (dk hL_port_3 27 rfl) hl (k := 2) rfl (by first | rfl | decide) (by decide) rfl (fun ls hl => ?_)
      refine lv_goto (tgt := 175) hx hb (dk hL_port_3 28 rfl) (by decide) ?_
      exact ih _ _ hf _ _ (by omega) (by omega) _ _ hs _ (lv_sub hl [1, 2, 0] rfl)
set_option maxRecDepth 100000 in
set_option maxHeartbeats 4000000 in
theorem c_L_port {l : Launch} {G : Gx} {a : Aw} {bs L : Nat} {xs : Nat → Int32} {p2 : Int32} {S : Rw} {out : Rw} (hf : X_L_port L xs p2 S = some out) : Cg l G bs L xs yL_port cL_port 5 none 10 228 2001 16004 [.ref (a.1 0), .ref bs, .int p2] (wR G a S) none (wR G a out) := by
  refine Cg.intro RL rfl (plainFor_of_name (by decide)) (Nat.le_of_ble_eq_true rfl) rfl ?_
  intro p e s m args below meth c A C hX hbl hbA H locs hs ls hl
  obtain ⟨hx, hb, hml, hown, hts, hK, hret, hlk⟩ := id C
  have hl : lv_has ls 5 [(0, .ref (a.1 0)), (1, .ref bs), (2, .int p2)] := hl
  unfold X_L_port at hf
  refine lv_iconst (v := (0 : Int32)) hx hb (dk hL_port_0 0 rfl) (by decide) ?_
  refine lv_istore_n (lv' := [(3, .int (0 : Int32)), (0, .ref (a.1 0)), (1, .ref bs), (2, .int p2)]) hx hb (dk hL_port_0 1 rfl) rfl hl (by decide) rfl (fun ls hl => ?_)
  refine l_L_port_L2 C hX hbl hbA (fun S_72 hf H locs hs ls hl => ?_) 1000 _ _ hf _ _ (by omega) (by omega) _ _ hs _ (lv_sub hl [1, 2, 3, 0] rfl)
  refine lv_aload_n hx hb (dk hL_port_2 20 rfl) rfl (lv_at hl 1 rfl) ?_
  refine lv_bipush (v := (7 : Int32)) hx hb (dk hL_port_2 21 rfl) (by decide) ?_
  obtain ⟨u_73, e_74, hf⟩ := Option.bind_eq_some_iff.mp hf
  refine Cg.S (As := [.ref bs, .int (7 : Int32)]) (rest := []) (st1 := [.int u_73]) (w1 := (wR G a S_72)) (cells1 := 1000) (slots1 := 9000) C hX hbl hbA hs (c_L_cell e_74) tw_446 tw_447 tw_16 tw_448 nq_L_cell (by decide) rfl hl.1 rfl (Nat.le_of_ble_eq_true rfl) (dk hL_port_2 22 rfl) rfl rfl ⟨by show 1000 ≤ 2001; omega, by show 9000 ≤ 16004; omega⟩ rfl (fun H locs hs => ?_)
  refine lv_iload_n hx hb (dk hL_port_2 23 rfl) rfl (lv_at hl 2 rfl) ?_
  refine lv_iconst (v := (1 : Int32)) hx hb (dk hL_port_2 24 rfl) (by decide) ?_
  refine lv_iadd hx hb (dk hL_port_2 25 rfl) ?_
  obtain ⟨u_75, e_76, hf⟩ := Option.bind_eq_some_iff.mp hf
  refine Ct.S (As := [.int u_73, .int (p2 + (1 : Int32))]) (rest := []) (st1 := [.int u_75]) (w1 := (wR G a S_72)) C hs (c_L_pick e_76) tw_449 tw_450 tw_16 tw_451 nq_L_pick (by decide) rfl hl.1 rfl (Nat.le_of_ble_eq_true rfl) (dk hL_port_2 26 rfl) ⟨by show 1000 ≤ 2001; omega, by show 9000 ≤ 16004; omega⟩ rfl (fun H locs hs => ?_)
  refine lv_istore_n (lv' := [(3, .int u_75), (0, .ref (a.1 0)), (1, .ref bs), (2, .int p2)]) hx hb (dk hL_port_2 27 rfl) rfl hl (by decide) rfl (fun ls hl => ?_)
  refine l_L_port_L175 C hX hbl hbA (fun S_95 hf H locs hs ls hl => ?_) 1000 _ _ hf _ _ (by omega) (by omega) _ _ hs _ (lv_sub hl [1, 2, 0] rfl)
  refine lv_aload_n hx hb (dk hL_port_3 29 rfl) rfl (lv_at hl 0 rfl) ?_
  refine lv_iconst (v := (4 : Int32)) hx hb (dk hL_port_3 30 rfl) (by decide) ?_
  refine rna (N' := 4) (cells1 := 2001) (slots1 := 16004) C hs (by decide) (by decide) (Nat.le_of_ble_eq_true rfl) rfl rfl ⟨by show 2001 ≤ 2001; omega, by show 16004 ≤ 16004; omega⟩ (dk hL_port_3 31 rfl) (fun z_96 H hs => ?_)
  refine lv_dup hx hb (dk hL_port_3 32 rfl) rfl ?_
  refine lv_iconst (v := (0 : Int32)) hx hb (dk hL_port_3 33 rfl) (by decide) ?_
  refine lv_bipush (v := (99 : Int32)) hx hb (dk hL_port_3 34 rfl) (by decide) ?_
  obtain ⟨t_97, e_98, hf⟩ := Option.bind_eq_some_iff.mp hf
  refine rist (w1 := (wR G a S_95 ++ [(z_96, ar G t_97)])) C hs 97 rfl e_98 rfl (dk hL_port_3 35 rfl) (fun H locs hs => ?_)
  refine lv_dup hx hb (dk hL_port_3 36 rfl) rfl ?_
  refine lv_iconst (v := (1 : Int32)) hx hb (dk hL_port_3 37 rfl) (by decide) ?_
  refine lv_bipush (v := (48 : Int32)) hx hb (dk hL_port_3 38 rfl) (by decide) ?_
  refine lv_aload_n hx hb (dk hL_port_3 39 rfl) rfl (lv_at hl 1 rfl) ?_
  refine lv_bipush (v := (15 : Int32)) hx hb (dk hL_port_4 0 rfl) (by decide) ?_
  obtain ⟨u_99, e_100, hf⟩ := Option.bind_eq_some_iff.mp hf
  refine Cg.S (As := [.ref bs, .int (15 : Int32)]) (rest := [.int (48 : Int32), .int (1 : Int32), .ref z_96, .ref z_96, .ref (a.1 0)]) (st1 := [.int u_99, .int (48 : Int32), .int (1 : Int32), .ref z_96, .ref z_96, .ref (a.1 0)]) (w1 := (wR G a S_95 ++ [(z_96, ar G t_97)])) (cells1 := 2001) (slots1 := 16004) C hX hbl hbA hs (c_L_cell e_100) tw_446 tw_447 tw_16 tw_448 nq_L_cell (by decide) rfl hl.1 rfl (Nat.le_of_ble_eq_true rfl) (dk hL_port_4 1 rfl) rfl rfl ⟨by show 2001 ≤ 2001; omega, by show 16004 ≤ 16004; omega⟩ rfl (fun H locs hs => ?_)
  refine lv_iconst (v := (5 : Int32)) hx hb (dk hL_port_4 2 rfl) (by decide) ?_
  obtain ⟨u_101, e_102, hf⟩ := Option.bind_eq_some_iff.mp hf
  refine Ct.S (As := [.int u_99, .int (5 : Int32)]) (rest := [.int (48 : Int32), .int (1 : Int32), .ref z_96, .ref z_96, .ref (a.1 0)]) (st1 := [.int u_101, .int (48 : Int32), .int (1 : Int32), .ref z_96, .ref z_96, .ref (a.1 0)]) (w1 := (wR G a S_95 ++ [(z_96, ar G t_97)])) C hs (c_L_pick e_102) tw_449 tw_450 tw_16 tw_451 nq_L_pick (by decide) rfl hl.1 rfl (Nat.le_of_ble_eq_true rfl) (dk hL_port_4 3 rfl) ⟨by show 2001 ≤ 2001; omega, by show 16004 ≤ 16004; omega⟩ rfl (fun H locs hs => ?_)
  refine lv_iadd hx hb (dk hL_port_4 4 rfl) ?_
  obtain ⟨t_103, e_104, hf⟩ := Option.bind_eq_some_iff.mp hf
  refine rist (w1 := (wR G a S_95 ++ [(z_96, ar G t_103)])) C hs 97 rfl e_104 rfl (dk hL_port_4 5 rfl) (fun H locs hs => ?_)
  refine lv_dup hx hb (dk hL_port_4 6 rfl) rfl ?_
  refine lv_iconst (v := (2 : Int32)) hx hb (dk hL_port_4 7 rfl) (by decide) ?_
  refine lv_bipush (v := (48 : Int32)) hx hb (dk hL_port_4 8 rfl) (by decide) ?_
  obtain ⟨t_105, e_106, hf⟩ := Option.bind_eq_some_iff.mp hf
  refine rist (w1 := (wR G a S_95 ++ [(z_96, ar G t_105)])) C hs 97 rfl e_106 rfl (dk hL_port_4 9 rfl) (fun H locs hs => ?_)
  refine lv_dup hx hb (dk hL_port_4 10 rfl) rfl ?_
  refine lv_iconst (v := (3 : Int32)) hx hb (dk hL_port_4 11 rfl) (by decide) ?_
  refine lv_bipush (v := (59 : Int32)) hx hb (dk hL_port_4 12 rfl) (by decide) ?_
  obtain ⟨t_107, e_108, hf⟩ := Option.bind_eq_some_iff.mp hf
  refine rist (w1 := (wR G a S_95 ++ [(z_96, ar G t_107)])) C hs 97 rfl e_108 rfl (dk hL_port_4 13 rfl) (fun H locs hs => ?_)
  obtain ⟨u_109, e_110, hf⟩ := Option.bind_eq_some_iff.mp hf
  refine Cg.S (As := [.ref (a.1 0), .ref z_96]) (rest := []) (st1 := [.int u_109.2]) (w1 := (wR G a u_109.1 ++ [(z_96, ar G t_107)])) (cells1 := 2001) (slots1 := 16004) C hX hbl hbA hs (c_L_tell e_110) tw_456 tw_457 tw_16 tw_458 nq_L_tell (by decide) rfl hl.1 rfl (Nat.le_of_ble_eq_true rfl) (dk hL_port_4 14 rfl) rfl rfl ⟨by show 2001 ≤ 2001; omega, by show 16004 ≤ 16004; omega⟩ rfl (fun H locs hs => ?_)
  replace hs := St.pop hs
  refine lv_pop hx hb (dk hL_port_4 15 rfl) rfl ?_
  refine lv_aload_n hx hb (dk hL_port_4 16 rfl) rfl (lv_at hl 1 rfl) ?_
  refine lv_bipush (v := (16 : Int32)) hx hb (dk hL_port_4 17 rfl) (by decide) ?_
  obtain ⟨u_111, e_112, hf⟩ := Option.bind_eq_some_iff.mp hf
  refine Cg.S (As := [.ref bs, .int (16 : Int32)]) (rest := []) (st1 := [.int u_111]) (w1 := (wR G a u_109.1)) (cells1 := 2001) (slots1 := 16004) C hX hbl hbA hs (c_L_cell e_112) tw_446 tw_447 tw_16 tw_448 nq_L_cell (by decide) rfl hl.1 rfl (Nat.le_of_ble_eq_true rfl) (dk hL_port_4 18 rfl) rfl rfl ⟨by show 2001 ≤ 2001; omega, by show 16004 ≤ 16004; omega⟩ rfl (fun H locs hs => ?_)
  refine lv_iconst (v := (2 : Int32)) hx hb (dk hL_port_4 19 rfl) (by decide) ?_
  obtain ⟨u_113, e_114, hf⟩ := Option.bind_eq_some_iff.mp hf
  refine Ct.S (As := [.int u_111, .int (2 : Int32)]) (rest := []) (st1 := [.int u_113]) (w1 := (wR G a u_109.1)) C hs (c_L_pick e_114) tw_449 tw_450 tw_16 tw_451 nq_L_pick (by decide) rfl hl.1 rfl (Nat.le_of_ble_eq_true rfl) (dk hL_port_4 20 rfl) ⟨by show 2001 ≤ 2001; omega, by show 16004 ≤ 16004; omega⟩ rfl (fun H locs hs => ?_)
  refine lv_if_ne (tgt := 322) hx hb (dk hL_port_4 21 rfl) (by decide) (fun hc => ?_) (fun hc => ?_)
  · replace hf := in_ hf hc
    cases hf
    exact rvG C hs (dk hL_port_4 34 rfl)
  · replace hf := ip hf hc
    refine lv_aload_n hx hb (dk hL_port_4 22 rfl) rfl (lv_at hl 0 rfl) ?_
    refine lv_iconst (v := (1 : Int32)) hx hb (dk hL_port_4 23 rfl) (by decide) ?_
    refine lv_aload_n hx hb (dk hL_port_4 24 rfl) rfl (lv_at hl 1 rfl) ?_
    refine lv_bipush (v := (16 : Int32)) hx hb (dk hL_port_4 25 rfl) (by decide) ?_
    obtain ⟨u_115, e_116, hf⟩ := Option.bind_eq_some_iff.mp hf
    refine Cg.S (As := [.ref bs, .int (16 : Int32)]) (rest := [.int (1 : Int32), .ref (a.1 0)]) (st1 := [.int u_115, .int (1 : Int32), .ref (a.1 0)]) (w1 := (wR G a u_109.1)) (cells1 := 2001) (slots1 := 16004) C hX hbl hbA hs (c_L_cell e_116) tw_446 tw_447 tw_16 tw_448 nq_L_cell (by decide) rfl hl.1 rfl (Nat.le_of_ble_eq_true rfl) (dk hL_port_4 26 rfl) rfl rfl ⟨by show 2001 ≤ 2001; omega, by show 16004 ≤ 16004; omega⟩ rfl (fun H locs hs => ?_)
    refine lv_iconst (v := (2 : Int32)) hx hb (dk hL_port_4 27 rfl) (by decide) ?_
    refine lv_ishr hx hb (dk hL_port_4 28 rfl) ?_
    refine lv_bipush (v := (9 : Int32)) hx hb (dk hL_port_4 29 rfl) (by decide) ?_
    obtain ⟨u_117, e_118, hf⟩ := Option.bind_eq_some_iff.mp hf
    refine Ct.S (As := [.int (u_115 >>> ((2 : Int32) &&& 31)), .int (9 : Int32)]) (rest := [.int (1 : Int32), .ref (a.1 0)]) (st1 := [.int u_117, .int (1 : Int32), .ref (a.1 0)]) (w1 := (wR G a u_109.1)) C hs (c_L_pick e_118) tw_449 tw_450 tw_16 tw_451 nq_L_pick (by decide) rfl hl.1 rfl (Nat.le_of_ble_eq_true rfl) (dk hL_port_4 30 rfl) ⟨by show 2001 ≤ 2001; omega, by show 16004 ≤ 16004; omega⟩ rfl (fun H locs hs => ?_)
    refine lv_iadd hx hb (dk hL_port_4 31 rfl) ?_
    obtain ⟨u_119, e_120, hf⟩ := Option.bind_eq_some_iff.mp hf
    refine Ct.V (As := [.int ((1 : Int32) + u_117)]) (rest := []) (st1 := [.int u_119.2]) (w1 := (wR G a u_119.1)) C hs (a_days e_120) tw_264 tw_265 tw_266 tw_17 tw_267 nq_X4_days (by decide) 0 4 rfl rfl rfl rfl hl.1 rfl (Nat.le_of_ble_eq_true rfl) (dk hL_port_4 32 rfl) ⟨by show 2001 ≤ 2001; omega, by show 16004 ≤ 16004; omega⟩ rfl (fun H locs hs => ?_)
    refine lv_pop hx hb (dk hL_port_4 33 rfl) rfl ?_
    cases hf
    exact rvG C hs (dk hL_port_4 34 rfl)

