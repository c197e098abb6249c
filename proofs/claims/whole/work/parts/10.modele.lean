def X5_storms_L82 (k : Int64 → Option (List Int32 × List Int32 × List Int32 × List Int32 × List Int32 × List Int32 × List Int32 × List Int32 × List Int32 × List Int32 × Int32 × Int32 × Int32 × Int32 × Int32 × Int64)) (x2 : Int32) (x3 : Int32) : Nat → Int64 → Int32 → Option (List Int32 × List Int32 × List Int32 × List Int32 × List Int32 × List Int32 × List Int32 × List Int32 × List Int32 × List Int32 × Int32 × Int32 × Int32 × Int32 × Int32 × Int64)
  | 0, _, _ => none
  | n + 1, x8, x10 =>
  if x2 ≤ x10 then
  k x8
  else
  X5_storms_L82 k x2 x3 n (x8 * (Int32.toInt64 x3)) (x10 + (1 : Int32))
def X5_storms_L122 (k : Int64 → List Int32 → List Int32 → Int32 → Int32 → Option (List Int32 × List Int32 × List Int32 × List Int32 × List Int32 × List Int32 × List Int32 × List Int32 × List Int32 × List Int32 × Int32 × Int32 × Int32 × Int32 × Int32 × Int64)) (used : List Int32) (hidden : List Int32) (kind : List Int32) (figure : List Int32) (good : List Int32) (load : List Int32) (ships : Int32) (away : Int32) (free : Int32) (x2 : Int32) (x3 : Int32) (x10 : Int32) : Nat → Int64 → Int32 → List Int32 → List Int32 → Int32 → Int32 → Option (List Int32 × List Int32 × List Int32 × List Int32 × List Int32 × List Int32 × List Int32 × List Int32 × List Int32 × List Int32 × Int32 × Int32 × Int32 × Int32 × Int32 × Int64)
  | 0, _, _, _, _, _, _ => none
  | n + 1, x11, x13, there, inn, coughs, day =>
  if x2 ≤ x13 then
  k x11 there inn coughs day
  else
  (X5_has x10 x13).bind fun u_12 =>
  if u_12 = (0 : Int32) then
  (X5_has x10 x13).bind fun u_14 =>
  (X5_goesDay there used hidden kind figure good load inn ships coughs day away free u_14).bind fun u_16 =>
  X5_storms_L122 k used hidden kind figure good load ships away free x2 x3 x10 n (x11 * (Int32.toInt64 (x3 - (1 : Int32)))) (x13 + (1 : Int32)) u_16.1 u_16.2.1 u_16.2.2.1 u_16.2.2.2
  else
  (X5_has x10 x13).bind fun u_18 =>
  (X5_goesDay there used hidden kind figure good load inn ships coughs day away free u_18).bind fun u_20 =>
  X5_storms_L122 k used hidden kind figure good load ships away free x2 x3 x10 n (x11 * (1 : Int64)) (x13 + (1 : Int32)) u_20.1 u_20.2.1 u_20.2.2.1 u_20.2.2.2
def X5_storms_L104 (k : Int64 → List Int32 → List Int32 → List Int32 → List Int32 → List Int32 → List Int32 → List Int32 → List Int32 → List Int32 → Int32 → Int32 → Int32 → Int32 → Int32 → Option (List Int32 × List Int32 × List Int32 × List Int32 × List Int32 × List Int32 × List Int32 × List Int32 × List Int32 × List Int32 × Int32 × Int32 × Int32 × Int32 × Int32 × Int64)) (away : Int32) (free : Int32) (x1 : Int32) (x2 : Int32) (x3 : Int32) : Nat → Int64 → Int32 → List Int32 → List Int32 → List Int32 → List Int32 → List Int32 → List Int32 → List Int32 → List Int32 → List Int32 → Int32 → Int32 → Int32 → Int32 → Int32 → Option (List Int32 × List Int32 × List Int32 × List Int32 × List Int32 × List Int32 × List Int32 × List Int32 × List Int32 × List Int32 × Int32 × Int32 × Int32 × Int32 × Int32 × Int64)
  | 0, _, _, _, _, _, _, _, _, _, _, _, _, _, _, _, _ => none
  | n + 1, x6, x10, there, used, hidden, kind, figure, good, load, inn, kept, ships, coughs, day, isKeeping, cursor =>
  if ((1 : Int32) <<< (x2 &&& 31)) ≤ x10 then
  k x6 there used hidden kind figure good load inn kept ships coughs day isKeeping cursor
  else
  (X5_thinks there used hidden kind figure good load inn kept ships coughs day isKeeping cursor).bind fun u_10 =>
  X5_storms_L122 (fun y11_22 there_23 inn_24 coughs_25 day_26 =>
  (rd inn_24 x1).bind fun v_27 =>
  if v_27 = (1 : Int32) then
  (X5_forgets there_23 u_10.2.1 u_10.2.2.1 u_10.2.2.2.1 u_10.2.2.2.2.1 u_10.2.2.2.2.2.1 u_10.2.2.2.2.2.2.1 inn_24 u_10.2.2.2.2.2.2.2.2.1 u_10.2.2.2.2.2.2.2.2.2.1 coughs_25 day_26 u_10.2.2.2.2.2.2.2.2.2.2.2.2.1 u_10.2.2.2.2.2.2.2.2.2.2.2.2.2).bind fun u_31 =>
  X5_storms_L104 k away free x1 x2 x3 n (x6 + y11_22) (x10 + (1 : Int32)) u_31.1 u_31.2.1 u_31.2.2.1 u_31.2.2.2.1 u_31.2.2.2.2.1 u_31.2.2.2.2.2.1 u_31.2.2.2.2.2.2.1 u_31.2.2.2.2.2.2.2.1 u_31.2.2.2.2.2.2.2.2.1 u_31.2.2.2.2.2.2.2.2.2.1 u_31.2.2.2.2.2.2.2.2.2.2.1 u_31.2.2.2.2.2.2.2.2.2.2.2.1 u_31.2.2.2.2.2.2.2.2.2.2.2.2.1 u_31.2.2.2.2.2.2.2.2.2.2.2.2.2
  else
  (X5_forgets there_23 u_10.2.1 u_10.2.2.1 u_10.2.2.2.1 u_10.2.2.2.2.1 u_10.2.2.2.2.2.1 u_10.2.2.2.2.2.2.1 inn_24 u_10.2.2.2.2.2.2.2.2.1 u_10.2.2.2.2.2.2.2.2.2.1 coughs_25 day_26 u_10.2.2.2.2.2.2.2.2.2.2.2.2.1 u_10.2.2.2.2.2.2.2.2.2.2.2.2.2).bind fun u_29 =>
  X5_storms_L104 k away free x1 x2 x3 n (x6 + (0 : Int64)) (x10 + (1 : Int32)) u_29.1 u_29.2.1 u_29.2.2.1 u_29.2.2.2.1 u_29.2.2.2.2.1 u_29.2.2.2.2.2.1 u_29.2.2.2.2.2.2.1 u_29.2.2.2.2.2.2.2.1 u_29.2.2.2.2.2.2.2.2.1 u_29.2.2.2.2.2.2.2.2.2.1 u_29.2.2.2.2.2.2.2.2.2.2.1 u_29.2.2.2.2.2.2.2.2.2.2.2.1 u_29.2.2.2.2.2.2.2.2.2.2.2.2.1 u_29.2.2.2.2.2.2.2.2.2.2.2.2.2) u_10.2.1 u_10.2.2.1 u_10.2.2.2.1 u_10.2.2.2.2.1 u_10.2.2.2.2.2.1 u_10.2.2.2.2.2.2.1 u_10.2.2.2.2.2.2.2.2.2.1 away free x2 x3 x10 1000 (1 : Int64) (0 : Int32) u_10.1 u_10.2.2.2.2.2.2.2.1 u_10.2.2.2.2.2.2.2.2.2.2.1 u_10.2.2.2.2.2.2.2.2.2.2.2.1
def X5_storms (refused : List Int32) (there : List Int32) (used : List Int32) (hidden : List Int32) (kind : List Int32) (figure : List Int32) (good : List Int32) (load : List Int32) (inn : List Int32) (kept : List Int32) (ships : Int32) (coughs : Int32) (day : Int32) (away : Int32) (isKeeping : Int32) (cursor : Int32) (free : Int32) (p0 : Int32) (p1 : Int32) (p2 : Int32) (p3 : Int32) : Option (List Int32 × List Int32 × List Int32 × List Int32 × List Int32 × List Int32 × List Int32 × List Int32 × List Int32 × List Int32 × Int32 × Int32 × Int32 × Int32 × Int32 × Int64) :=
  (X5_isShip ships p0).bind fun u_1 =>
  if u_1 = (0 : Int32) then
  (X5_lowestOf refused (-1 : Int32)).bind fun u_56 =>
  some (u_56.1, there, used, hidden, kind, figure, good, load, inn, kept, ships, coughs, day, isKeeping, cursor, u_56.2)
  else
  if p1 < (0 : Int32) then
  (X5_lowestOf refused (-4 : Int32)).bind fun u_3 =>
  some (u_3.1, there, used, hidden, kind, figure, good, load, inn, kept, ships, coughs, day, isKeeping, cursor, u_3.2)
  else
  if (2 : Int32) ≤ p2 then
  if (7 : Int32) < p1 then
  (X5_lowestOf refused (-6 : Int32)).bind fun u_5 =>
  some (u_5.1, there, used, hidden, kind, figure, good, load, inn, kept, ships, coughs, day, isKeeping, cursor, u_5.2)
  else
  if p2 ≤ (20 : Int32) then
  (X5_isIn p3 (0 : Int32) (1 : Int32)).bind fun u_7 =>
  if u_7 = (0 : Int32) then
  (X5_lowestOf refused (-2 : Int32)).bind fun u_50 =>
  some (u_50.1, there, used, hidden, kind, figure, good, load, inn, kept, ships, coughs, day, isKeeping, cursor, u_50.2)
  else
  X5_storms_L82 (fun y8_9 =>
  X5_storms_L104 (fun y6_33 there_34 used_35 hidden_36 kind_37 figure_38 good_39 load_40 inn_41 kept_42 ships_43 coughs_44 day_45 isKeeping_46 cursor_47 =>
  (X5_partOf y6_33 y8_9 p3).bind fun u_48 =>
  some (refused, there_34, used_35, hidden_36, kind_37, figure_38, good_39, load_40, inn_41, kept_42, ships_43, coughs_44, day_45, isKeeping_46, cursor_47, u_48)) away free p0 p1 p2 1000 (0 : Int64) (0 : Int32) there used hidden kind figure good load inn kept ships coughs day isKeeping cursor) p1 p2 1000 (1 : Int64) (0 : Int32)
  else
  (X5_lowestOf refused (-6 : Int32)).bind fun u_52 =>
  some (u_52.1, there, used, hidden, kind, figure, good, load, inn, kept, ships, coughs, day, isKeeping, cursor, u_52.2)
  else
  (X5_lowestOf refused (-4 : Int32)).bind fun u_54 =>
  some (u_54.1, there, used, hidden, kind, figure, good, load, inn, kept, ships, coughs, day, isKeeping, cursor, u_54.2)
set_option maxRecDepth 100000 in
set_option maxHeartbeats 4000000 in
theorem l_X5_storms_L82 {l : Launch} {p : Program} {e : Env} {s : State} {m : MethodId} {args : Array Value} {below : List Frame} {meth : Method} {c : Code} {A : Nat → Prop} {G : Gx} {ad : Nat → Nat} {refused there used hidden kind figure good load inn tape letter letterAt told kept row costs : List Int32} {ships coughs day away taped reading statements hasImage isKeeping cursor backs free goodFor loadedWhen bareGood bareWhen rowMany lots : Int32} {x1 : Int32} {x2 : Int32} {x3 : Int32} {x4 : Int32} {x6 : Int64} {k : Int64 → Option (List Int32 × List Int32 × List Int32 × List Int32 × List Int32 × List Int32 × List Int32 × List Int32 × List Int32 × List Int32 × Int32 × Int32 × Int32 × Int32 × Int32 × Int64)} {out : List Int32 × List Int32 × List Int32 × List Int32 × List Int32 × List Int32 × List Int32 × List Int32 × List Int32 × List Int32 × Int32 × Int32 × Int32 × Int32 × Int32 × Int64} (C : Cx p s m args meth c cX5_storms RX5 14 (some .long) G) : ∀ (n : Nat) (x8 : Int64) (x10 : Int32), X5_storms_L82 k x2 x3 n x8 x10 = some out → ∀ (H : Heap) (locs : List Loc), St G A s.heap H locs (wM G ad refused there used hidden kind figure good load inn tape letter letterAt told kept row costs ships coughs day away taped reading statements hasImage isKeeping cursor backs free goodFor loadedWhen bareGood bareWhen rowMany lots) → ∀ ls : Array Slot, lv_has ls 14 [(0, .ref (ad 0)), (1, .int x1), (2, .int x2), (3, .int x3), (4, .int x4), (6, .long x6), (8, .long x8), (10, .int x10)] → (∀ (y8 : Int64), k y8 = some out → ∀ (H : Heap) (locs : List Loc), St G A s.heap H locs (wM G ad refused there used hidden kind figure good load inn tape letter letterAt told kept row costs ships coughs day away taped reading statements hasImage isKeeping cursor backs free goodFor loadedWhen bareGood bareWhen rowMany lots) → ∀ ls : Array Slot, lv_has ls 14 [(0, .ref (ad 0)), (1, .int x1), (2, .int x2), (3, .int x3), (4, .int x4), (6, .long x6), (8, .long y8)] → W p l e (rmOf 6 129) s m args below meth c H locs 0 0 (MQ below (Qof G A (some (.long out.2.2.2.2.2.2.2.2.2.2.2.2.2.2.2)) (wM G ad out.1 out.2.1 out.2.2.1 out.2.2.2.1 out.2.2.2.2.1 out.2.2.2.2.2.1 out.2.2.2.2.2.2.1 out.2.2.2.2.2.2.2.1 out.2.2.2.2.2.2.2.2.1 tape letter letterAt told out.2.2.2.2.2.2.2.2.2.1 row costs out.2.2.2.2.2.2.2.2.2.2.1 out.2.2.2.2.2.2.2.2.2.2.2.1 out.2.2.2.2.2.2.2.2.2.2.2.2.1 away taped reading statements hasImage out.2.2.2.2.2.2.2.2.2.2.2.2.2.1 out.2.2.2.2.2.2.2.2.2.2.2.2.2.2.1 backs free goodFor loadedWhen bareGood bareWhen rowMany lots)) args s 0 0 A) (F0 m 101 ls [])) → W p l e (rmOf 6 129) s m args below meth c H locs 0 0 (MQ below (Qof G A (some (.long out.2.2.2.2.2.2.2.2.2.2.2.2.2.2.2)) (wM G ad out.1 out.2.1 out.2.2.1 out.2.2.2.1 out.2.2.2.2.1 out.2.2.2.2.2.1 out.2.2.2.2.2.2.1 out.2.2.2.2.2.2.2.1 out.2.2.2.2.2.2.2.2.1 tape letter letterAt told out.2.2.2.2.2.2.2.2.2.1 row costs out.2.2.2.2.2.2.2.2.2.2.1 out.2.2.2.2.2.2.2.2.2.2.2.1 out.2.2.2.2.2.2.2.2.2.2.2.2.1 away taped reading statements hasImage out.2.2.2.2.2.2.2.2.2.2.2.2.2.1 out.2.2.2.2.2.2.2.2.2.2.2.2.2.2.1 backs free goodFor loadedWhen bareGood bareWhen rowMany lots)) args s 0 0 A) (F0 m 82 ls []) := by
  obtain ⟨hx, hb, hml, hown, hts, hK, hret, hlk⟩ := id C
  intro n
  induction n with
  | zero => intro x8 x10 hf; cases hf
  | succ n ih =>
    intro x8 x10 hf H locs hs ls hl hk
    rw [X5_storms_L82] at hf
    refine lv_iload hx hb (dk hX5_storms_1 2 rfl) (lv_at hl 7 rfl) ?_
    refine lv_iload_n hx hb (dk hX5_storms_1 3 rfl) rfl (lv_at hl 2 rfl) ?_
    refine lv_icmp_ge (tgt := 101) hx hb (dk hX5_storms_1 4 rfl) (by decide) (fun hc => ?_) (fun hc => ?_)
    · replace hf := ip hf hc
      exact hk _ hf _ _ hs _ (lv_sub hl [0, 1, 2, 3, 4, 5, 6] rfl)
    · replace hf := in_ hf hc
      refine lv_lload hx hb (dk hX5_storms_1 5 rfl) (lv_at hl 6 rfl) ?_
      refine lv_iload_n hx hb (dk hX5_storms_1 6 rfl) rfl (lv_at hl 3 rfl) ?_
      refine lv_i2l (v := (Int32.toInt64 x3)) hx hb (dk hX5_storms_1 7 rfl) rfl ?_
      refine lv_lmul hx hb (dk hX5_storms_1 8 rfl) ?_
      refine lv_lstore (lv' := [(8, .long (x8 * (Int32.toInt64 x3))), (0, .ref (ad 0)), (1, .int x1), (2, .int x2), (3, .int x3), (4, .int x4), (6, .long x6), (10, .int x10)]) hx hb (dk hX5_storms_1 9 rfl) hl (by decide) rfl (fun ls hl => ?_)
      refine lv_iinc (v := (x10 + (1 : Int32))) (lv' := [(10, .int (x10 + (1 : Int32))), (8, .long (x8 * (Int32.toInt64 x3))), (0, .ref (ad 0)), (1, .int x1), (2, .int x2), (3, .int x3), (4, .int x4), (6, .long x6)]) hx hb (dk hX5_storms_1 10 rfl) hl (k := 7) rfl (by first | rfl | decide) (by decide) rfl (fun ls hl => ?_)
      refine lv_goto (tgt := 82) hx hb (dk hX5_storms_1 11 rfl) (by decide) ?_
      exact ih _ _ hf _ _ hs _ (lv_sub hl [2, 3, 4, 5, 6, 7, 1, 0] rfl) hk
set_option maxRecDepth 100000 in
set_option maxHeartbeats 4000000 in
theorem l_X5_storms_L122 {l : Launch} {p : Program} {e : Env} {s : State} {m : MethodId} {args : Array Value} {below : List Frame} {meth : Method} {c : Code} {A : Nat → Prop} {G : Gx} {ad : Nat → Nat} {refused used hidden kind figure good load tape letter letterAt told kept row costs : List Int32} {ships away taped reading statements hasImage isKeeping cursor backs free goodFor loadedWhen bareGood bareWhen rowMany lots : Int32} {x1 : Int32} {x2 : Int32} {x3 : Int32} {x4 : Int32} {x6 : Int64} {x8 : Int64} {x10 : Int32} {k : Int64 → List Int32 → List Int32 → Int32 → Int32 → Option (List Int32 × List Int32 × List Int32 × List Int32 × List Int32 × List Int32 × List Int32 × List Int32 × List Int32 × List Int32 × Int32 × Int32 × Int32 × Int32 × Int32 × Int64)} {out : List Int32 × List Int32 × List Int32 × List Int32 × List Int32 × List Int32 × List Int32 × List Int32 × List Int32 × List Int32 × Int32 × Int32 × Int32 × Int32 × Int32 × Int64} (C : Cx p s m args meth c cX5_storms RX5 14 (some .long) G) : ∀ (n : Nat) (x11 : Int64) (x13 : Int32) (there : List Int32) (inn : List Int32) (coughs : Int32) (day : Int32), X5_storms_L122 k used hidden kind figure good load ships away free x2 x3 x10 n x11 x13 there inn coughs day = some out → ∀ (H : Heap) (locs : List Loc), St G A s.heap H locs (wM G ad refused there used hidden kind figure good load inn tape letter letterAt told kept row costs ships coughs day away taped reading statements hasImage isKeeping cursor backs free goodFor loadedWhen bareGood bareWhen rowMany lots) → ∀ ls : Array Slot, lv_has ls 14 [(0, .ref (ad 0)), (1, .int x1), (2, .int x2), (3, .int x3), (4, .int x4), (6, .long x6), (8, .long x8), (10, .int x10), (11, .long x11), (13, .int x13)] → (∀ (y11 : Int64) (z_there : List Int32) (z_inn : List Int32) (z_coughs : Int32) (z_day : Int32), k y11 z_there z_inn z_coughs z_day = some out → ∀ (H : Heap) (locs : List Loc), St G A s.heap H locs (wM G ad refused z_there used hidden kind figure good load z_inn tape letter letterAt told kept row costs ships z_coughs z_day away taped reading statements hasImage isKeeping cursor backs free goodFor loadedWhen bareGood bareWhen rowMany lots) → ∀ ls : Array Slot, lv_has ls 14 [(0, .ref (ad 0)), (1, .int x1), (2, .int x2), (3, .int x3), (4, .int x4), (6, .long x6), (8, .long x8), (10, .int x10), (11, .long y11)] → W p l e (rmOf 6 129) s m args below meth c H locs 0 0 (MQ below (Qof G A (some (.long out.2.2.2.2.2.2.2.2.2.2.2.2.2.2.2)) (wM G ad out.1 out.2.1 out.2.2.1 out.2.2.2.1 out.2.2.2.2.1 out.2.2.2.2.2.1 out.2.2.2.2.2.2.1 out.2.2.2.2.2.2.2.1 out.2.2.2.2.2.2.2.2.1 tape letter letterAt told out.2.2.2.2.2.2.2.2.2.1 row costs out.2.2.2.2.2.2.2.2.2.2.1 out.2.2.2.2.2.2.2.2.2.2.2.1 out.2.2.2.2.2.2.2.2.2.2.2.2.1 away taped reading statements hasImage out.2.2.2.2.2.2.2.2.2.2.2.2.2.1 out.2.2.2.2.2.2.2.2.2.2.2.2.2.2.1 backs free goodFor loadedWhen bareGood bareWhen rowMany lots)) args s 0 0 A) (F0 m 168 ls [])) → W p l e (rmOf 6 129) s m args below meth c H locs 0 0 (MQ below (Qof G A (some (.long out.2.2.2.2.2.2.2.2.2.2.2.2.2.2.2)) (wM G ad out.1 out.2.1 out.2.2.1 out.2.2.2.1 out.2.2.2.2.1 out.2.2.2.2.2.1 out.2.2.2.2.2.2.1 out.2.2.2.2.2.2.2.1 out.2.2.2.2.2.2.2.2.1 tape letter letterAt told out.2.2.2.2.2.2.2.2.2.1 row costs out.2.2.2.2.2.2.2.2.2.2.1 out.2.2.2.2.2.2.2.2.2.2.2.1 out.2.2.2.2.2.2.2.2.2.2.2.2.1 away taped reading statements hasImage out.2.2.2.2.2.2.2.2.2.2.2.2.2.1 out.2.2.2.2.2.2.2.2.2.2.2.2.2.2.1 backs free goodFor loadedWhen bareGood bareWhen rowMany lots)) args s 0 0 A) (F0 m 122 ls []) := by
  obtain ⟨hx, hb, hml, hown, hts, hK, hret, hlk⟩ := id C
  intro n
  induction n with
  | zero => intro x11 x13 there inn coughs day hf; cases hf
  | succ n ih =>
    intro x11 x13 there inn coughs day hf H locs hs ls hl hk
    rw [X5_storms_L122] at hf
    refine lv_iload hx hb (dk hX5_storms_1 25 rfl) (lv_at hl 9 rfl) ?_
    refine lv_iload_n hx hb (dk hX5_storms_1 26 rfl) rfl (lv_at hl 2 rfl) ?_
    refine lv_icmp_ge (tgt := 168) hx hb (dk hX5_storms_1 27 rfl) (by decide) (fun hc => ?_) (fun hc => ?_)
    · replace hf := ip hf hc
      exact hk _ _ _ _ _ hf _ _ hs _ (lv_sub hl [0, 1, 2, 3, 4, 5, 6, 7, 8] rfl)
    · replace hf := in_ hf hc
      refine lv_lload hx hb (dk hX5_storms_1 28 rfl) (lv_at hl 8 rfl) ?_
      refine lv_iload hx hb (dk hX5_storms_1 29 rfl) (lv_at hl 7 rfl) ?_
      refine lv_iload hx hb (dk hX5_storms_1 30 rfl) (lv_at hl 9 rfl) ?_
      obtain ⟨u_12, e_13, hf⟩ := Option.bind_eq_some_iff.mp hf
      refine Ct.S (As := [.int x10, .int x13]) (rest := [.long x11]) (st1 := [.int u_12, .long x11]) (w1 := (wM G ad refused there used hidden kind figure good load inn tape letter letterAt told kept row costs ships coughs day away taped reading statements hasImage isKeeping cursor backs free goodFor loadedWhen bareGood bareWhen rowMany lots)) C hs (c_X5_has e_13) tw_874 tw_875 tw_85 tw_876 nq_X5_has (by decide) rfl hl.1 rfl (Nat.le_of_ble_eq_true rfl) (dk hX5_storms_1 31 rfl) ⟨Nat.zero_le _, Nat.zero_le _⟩ rfl (fun H locs hs => ?_)
      refine lv_if_eq (tgt := 144) hx hb (dk hX5_storms_1 32 rfl) (by decide) (fun hc => ?_) (fun hc => ?_)
      · replace hf := ip hf hc
        refine lv_iload_n hx hb (dk hX5_storms_1 35 rfl) rfl (lv_at hl 3 rfl) ?_
        refine lv_iconst (v := (1 : Int32)) hx hb (dk hX5_storms_1 36 rfl) (by decide) ?_
        refine lv_isub hx hb (dk hX5_storms_1 37 rfl) ?_
        refine lv_i2l (v := (Int32.toInt64 (x3 - (1 : Int32)))) hx hb (dk hX5_storms_1 38 rfl) rfl ?_
        refine lv_lmul hx hb (dk hX5_storms_1 39 rfl) ?_
        refine lv_lstore (lv' := [(11, .long (x11 * (Int32.toInt64 (x3 - (1 : Int32))))), (0, .ref (ad 0)), (1, .int x1), (2, .int x2), (3, .int x3), (4, .int x4), (6, .long x6), (8, .long x8), (10, .int x10), (13, .int x13)]) hx hb (dk hX5_storms_2 0 rfl) hl (by decide) rfl (fun ls hl => ?_)
        refine lv_aload_n hx hb (dk hX5_storms_2 1 rfl) rfl (lv_at hl 1 rfl) ?_
        refine lv_iload hx hb (dk hX5_storms_2 2 rfl) (lv_at hl 8 rfl) ?_
        refine lv_iload hx hb (dk hX5_storms_2 3 rfl) (lv_at hl 9 rfl) ?_
        obtain ⟨u_14, e_15, hf⟩ := Option.bind_eq_some_iff.mp hf
        refine Ct.S (As := [.int x10, .int x13]) (rest := [.ref (ad 0)]) (st1 := [.int u_14, .ref (ad 0)]) (w1 := (wM G ad refused there used hidden kind figure good load inn tape letter letterAt told kept row costs ships coughs day away taped reading statements hasImage isKeeping cursor backs free goodFor loadedWhen bareGood bareWhen rowMany lots)) C hs (c_X5_has e_15) tw_874 tw_875 tw_85 tw_876 nq_X5_has (by decide) rfl hl.1 rfl (Nat.le_of_ble_eq_true rfl) (dk hX5_storms_2 4 rfl) ⟨Nat.zero_le _, Nat.zero_le _⟩ rfl (fun H locs hs => ?_)
        obtain ⟨u_16, e_17, hf⟩ := Option.bind_eq_some_iff.mp hf
        refine Ct.V (As := [.int u_14]) (rest := []) (st1 := []) (w1 := (wM G ad refused u_16.1 used hidden kind figure good load u_16.2.1 tape letter letterAt told kept row costs ships u_16.2.2.1 u_16.2.2.2 away taped reading statements hasImage isKeeping cursor backs free goodFor loadedWhen bareGood bareWhen rowMany lots)) C hs (c_X5_goesDay e_17) tw_866 tw_868 tw_35 tw_85 tw_869 nq_X5_goesDay (by decide) 0 5 rfl rfl rfl rfl hl.1 rfl (Nat.le_of_ble_eq_true rfl) (dk hX5_storms_2 5 rfl) ⟨Nat.zero_le _, Nat.zero_le _⟩ rfl (fun H locs hs => ?_)
        refine lv_iinc (v := (x13 + (1 : Int32))) (lv' := [(13, .int (x13 + (1 : Int32))), (11, .long (x11 * (Int32.toInt64 (x3 - (1 : Int32))))), (0, .ref (ad 0)), (1, .int x1), (2, .int x2), (3, .int x3), (4, .int x4), (6, .long x6), (8, .long x8), (10, .int x10)]) hx hb (dk hX5_storms_2 6 rfl) hl (k := 9) rfl (by first | rfl | decide) (by decide) rfl (fun ls hl => ?_)
        refine lv_goto (tgt := 122) hx hb (dk hX5_storms_2 7 rfl) (by decide) ?_
        exact ih _ _ _ _ _ _ hf _ _ hs _ (lv_sub hl [2, 3, 4, 5, 6, 7, 8, 9, 1, 0] rfl) hk
      · replace hf := in_ hf hc
        refine lv_lconst (v := (1 : Int64)) hx hb (dk hX5_storms_1 33 rfl) (by decide) ?_
        refine lv_goto (tgt := 148) hx hb (dk hX5_storms_1 34 rfl) (by decide) ?_
        refine lv_lmul hx hb (dk hX5_storms_1 39 rfl) ?_
        refine lv_lstore (lv' := [(11, .long (x11 * (1 : Int64))), (0, .ref (ad 0)), (1, .int x1), (2, .int x2), (3, .int x3), (4, .int x4), (6, .long x6), (8, .long x8), (10, .int x10), (13, .int x13)]) hx hb (dk hX5_storms_2 0 rfl) hl (by decide) rfl (fun ls hl => ?_)
        refine lv_aload_n hx hb (dk hX5_storms_2 1 rfl) rfl (lv_at hl 1 rfl) ?_
        refine lv_iload hx hb (dk hX5_storms_2 2 rfl) (lv_at hl 8 rfl) ?_
        refine lv_iload hx hb (dk hX5_storms_2 3 rfl) (lv_at hl 9 rfl) ?_
        obtain ⟨u_18, e_19, hf⟩ := Option.bind_eq_some_iff.mp hf
        refine Ct.S (As := [.int x10, .int x13]) (rest := [.ref (ad 0)]) (st1 := [.int u_18, .ref (ad 0)]) (w1 := (wM G ad refused there used hidden kind figure good load inn tape letter letterAt told kept row costs ships coughs day away taped reading statements hasImage isKeeping cursor backs free goodFor loadedWhen bareGood bareWhen rowMany lots)) C hs (c_X5_has e_19) tw_874 tw_875 tw_85 tw_876 nq_X5_has (by decide) rfl hl.1 rfl (Nat.le_of_ble_eq_true rfl) (dk hX5_storms_2 4 rfl) ⟨Nat.zero_le _, Nat.zero_le _⟩ rfl (fun H locs hs => ?_)
        obtain ⟨u_20, e_21, hf⟩ := Option.bind_eq_some_iff.mp hf
        refine Ct.V (As := [.int u_18]) (rest := []) (st1 := []) (w1 := (wM G ad refused u_20.1 used hidden kind figure good load u_20.2.1 tape letter letterAt told kept row costs ships u_20.2.2.1 u_20.2.2.2 away taped reading statements hasImage isKeeping cursor backs free goodFor loadedWhen bareGood bareWhen rowMany lots)) C hs (c_X5_goesDay e_21) tw_866 tw_868 tw_35 tw_85 tw_869 nq_X5_goesDay (by decide) 0 5 rfl rfl rfl rfl hl.1 rfl (Nat.le_of_ble_eq_true rfl) (dk hX5_storms_2 5 rfl) ⟨Nat.zero_le _, Nat.zero_le _⟩ rfl (fun H locs hs => ?_)
        refine lv_iinc (v := (x13 + (1 : Int32))) (lv' := [(13, .int (x13 + (1 : Int32))), (11, .long (x11 * (1 : Int64))), (0, .ref (ad 0)), (1, .int x1), (2, .int x2), (3, .int x3), (4, .int x4), (6, .long x6), (8, .long x8), (10, .int x10)]) hx hb (dk hX5_storms_2 6 rfl) hl (k := 9) rfl (by first | rfl | decide) (by decide) rfl (fun ls hl => ?_)
        refine lv_goto (tgt := 122) hx hb (dk hX5_storms_2 7 rfl) (by decide) ?_
        exact ih _ _ _ _ _ _ hf _ _ hs _ (lv_sub hl [2, 3, 4, 5, 6, 7, 8, 9, 1, 0] rfl) hk
set_option maxRecDepth 100000 in
set_option maxHeartbeats 4000000 in
theorem l_X5_storms_L104 {l : Launch} {p : Program} {e : Env} {s : State} {m : MethodId} {args : Array Value} {below : List Frame} {meth : Method} {c : Code} {A : Nat → Prop} {G : Gx} {ad : Nat → Nat} {refused tape letter letterAt told row costs : List Int32} {away taped reading statements hasImage backs free goodFor loadedWhen bareGood bareWhen rowMany lots : Int32} {x1 : Int32} {x2 : Int32} {x3 : Int32} {x4 : Int32} {x8 : Int64} {k : Int64 → List Int32 → List Int32 → List Int32 → List Int32 → List Int32 → List Int32 → List Int32 → List Int32 → List Int32 → Int32 → Int32 → Int32 → Int32 → Int32 → Option (List Int32 × List Int32 × List Int32 × List Int32 × List Int32 × List Int32 × List Int32 × List Int32 × List Int32 × List Int32 × Int32 × Int32 × Int32 × Int32 × Int32 × Int64)} {out : List Int32 × List Int32 × List Int32 × List Int32 × List Int32 × List Int32 × List Int32 × List Int32 × List Int32 × List Int32 × Int32 × Int32 × Int32 × Int32 × Int32 × Int64} (C : Cx p s m args meth c cX5_storms RX5 14 (some .long) G) : ∀ (n : Nat) (x6 : Int64) (x10 : Int32) (there : List Int32) (used : List Int32) (hidden : List Int32) (kind : List Int32) (figure : List Int32) (good : List Int32) (load : List Int32) (inn : List Int32) (kept : List Int32) (ships : Int32) (coughs : Int32) (day : Int32) (isKeeping : Int32) (cursor : Int32), X5_storms_L104 k away free x1 x2 x3 n x6 x10 there used hidden kind figure good load inn kept ships coughs day isKeeping cursor = some out → ∀ (H : Heap) (locs : List Loc), St G A s.heap H locs (wM G ad refused there used hidden kind figure good load inn tape letter letterAt told kept row costs ships coughs day away taped reading statements hasImage isKeeping cursor backs free goodFor loadedWhen bareGood bareWhen rowMany lots) → ∀ ls : Array Slot, lv_has ls 14 [(0, .ref (ad 0)), (1, .int x1), (2, .int x2), (3, .int x3), (4, .int x4), (6, .long x6), (8, .long x8), (10, .int x10)] → (∀ (y6 : Int64) (z_there : List Int32) (z_used : List Int32) (z_hidden : List Int32) (z_kind : List Int32) (z_figure : List Int32) (z_good : List Int32) (z_load : List Int32) (z_inn : List Int32) (z_kept : List Int32) (z_ships : Int32) (z_coughs : Int32) (z_day : Int32) (z_isKeeping : Int32) (z_cursor : Int32), k y6 z_there z_used z_hidden z_kind z_figure z_good z_load z_inn z_kept z_ships z_coughs z_day z_isKeeping z_cursor = some out → ∀ (H : Heap) (locs : List Loc), St G A s.heap H locs (wM G ad refused z_there z_used z_hidden z_kind z_figure z_good z_load z_inn tape letter letterAt told z_kept row costs z_ships z_coughs z_day away taped reading statements hasImage z_isKeeping z_cursor backs free goodFor loadedWhen bareGood bareWhen rowMany lots) → ∀ ls : Array Slot, lv_has ls 14 [(4, .int x4), (6, .long y6), (8, .long x8)] → W p l e (rmOf 6 129) s m args below meth c H locs 0 0 (MQ below (Qof G A (some (.long out.2.2.2.2.2.2.2.2.2.2.2.2.2.2.2)) (wM G ad out.1 out.2.1 out.2.2.1 out.2.2.2.1 out.2.2.2.2.1 out.2.2.2.2.2.1 out.2.2.2.2.2.2.1 out.2.2.2.2.2.2.2.1 out.2.2.2.2.2.2.2.2.1 tape letter letterAt told out.2.2.2.2.2.2.2.2.2.1 row costs out.2.2.2.2.2.2.2.2.2.2.1 out.2.2.2.2.2.2.2.2.2.2.2.1 out.2.2.2.2.2.2.2.2.2.2.2.2.1 away taped reading statements hasImage out.2.2.2.2.2.2.2.2.2.2.2.2.2.1 out.2.2.2.2.2.2.2.2.2.2.2.2.2.2.1 backs free goodFor loadedWhen bareGood bareWhen rowMany lots)) args s 0 0 A) (F0 m 199 ls [])) → W p l e (rmOf 6 129) s m args below meth c H locs 0 0 (MQ below (Qof G A (some (.long out.2.2.2.2.2.2.2.2.2.2.2.2.2.2.2)) (wM G ad out.1 out.2.1 out.2.2.1 out.2.2.2.1 out.2.2.2.2.1 out.2.2.2.2.2.1 out.2.2.2.2.2.2.1 out.2.2.2.2.2.2.2.1 out.2.2.2.2.2.2.2.2.1 tape letter letterAt told out.2.2.2.2.2.2.2.2.2.1 row costs out.2.2.2.2.2.2.2.2.2.2.1 out.2.2.2.2.2.2.2.2.2.2.2.1 out.2.2.2.2.2.2.2.2.2.2.2.2.1 away taped reading statements hasImage out.2.2.2.2.2.2.2.2.2.2.2.2.2.1 out.2.2.2.2.2.2.2.2.2.2.2.2.2.2.1 backs free goodFor loadedWhen bareGood bareWhen rowMany lots)) args s 0 0 A) (F0 m 104 ls []) := by
  obtain ⟨hx, hb, hml, hown, hts, hK, hret, hlk⟩ := id C
  intro n
  induction n with
  | zero => intro x6 x10 there used hidden kind figure good load inn kept ships coughs day isKeeping cursor hf; cases hf
  | succ n ih =>
    intro x6 x10 there used hidden kind figure good load inn kept ships coughs day isKeeping cursor hf H locs hs ls hl hk
    rw [X5_storms_L104] at hf
    refine lv_iload hx hb (dk hX5_storms_1 14 rfl) (lv_at hl 7 rfl) ?_
    refine lv_iconst (v := (1 : Int32)) hx hb (dk hX5_storms_1 15 rfl) (by decide) ?_
    refine lv_iload_n hx hb (dk hX5_storms_1 16 rfl) rfl (lv_at hl 2 rfl) ?_
    refine lv_ishl hx hb (dk hX5_storms_1 17 rfl) ?_
    refine lv_icmp_ge (tgt := 199) hx hb (dk hX5_storms_1 18 rfl) (by decide) (fun hc => ?_) (fun hc => ?_)
    · replace hf := ip hf hc
      exact hk _ _ _ _ _ _ _ _ _ _ _ _ _ _ _ hf _ _ hs _ (lv_sub hl [4, 5, 6] rfl)
    · replace hf := in_ hf hc
      refine lv_aload_n hx hb (dk hX5_storms_1 19 rfl) rfl (lv_at hl 0 rfl) ?_
      obtain ⟨u_10, e_11, hf⟩ := Option.bind_eq_some_iff.mp hf
      refine Ct.V (As := []) (rest := []) (st1 := []) (w1 := (wM G ad refused u_10.1 u_10.2.1 u_10.2.2.1 u_10.2.2.2.1 u_10.2.2.2.2.1 u_10.2.2.2.2.2.1 u_10.2.2.2.2.2.2.1 u_10.2.2.2.2.2.2.2.1 tape letter letterAt told u_10.2.2.2.2.2.2.2.2.1 row costs u_10.2.2.2.2.2.2.2.2.2.1 u_10.2.2.2.2.2.2.2.2.2.2.1 u_10.2.2.2.2.2.2.2.2.2.2.2.1 away taped reading statements hasImage u_10.2.2.2.2.2.2.2.2.2.2.2.2.1 u_10.2.2.2.2.2.2.2.2.2.2.2.2.2 backs free goodFor loadedWhen bareGood bareWhen rowMany lots)) C hs (c_X5_thinks e_11) tw_993 tw_995 tw_51 tw_85 tw_996 nq_X5_thinks (by decide) 0 5 rfl rfl rfl rfl hl.1 rfl (Nat.le_of_ble_eq_true rfl) (dk hX5_storms_1 20 rfl) ⟨Nat.zero_le _, Nat.zero_le _⟩ rfl (fun H locs hs => ?_)
      refine lv_lconst (v := (1 : Int64)) hx hb (dk hX5_storms_1 21 rfl) (by decide) ?_
      refine lv_lstore (lv' := [(11, .long (1 : Int64)), (0, .ref (ad 0)), (1, .int x1), (2, .int x2), (3, .int x3), (4, .int x4), (6, .long x6), (8, .long x8), (10, .int x10)]) hx hb (dk hX5_storms_1 22 rfl) hl (by decide) rfl (fun ls hl => ?_)
      refine lv_iconst (v := (0 : Int32)) hx hb (dk hX5_storms_1 23 rfl) (by decide) ?_
      refine lv_istore (lv' := [(13, .int (0 : Int32)), (11, .long (1 : Int64)), (0, .ref (ad 0)), (1, .int x1), (2, .int x2), (3, .int x3), (4, .int x4), (6, .long x6), (8, .long x8), (10, .int x10)]) hx hb (dk hX5_storms_1 24 rfl) hl (by decide) rfl (fun ls hl => ?_)
      refine l_X5_storms_L122 C 1000 _ _ _ _ _ _ hf _ _ hs _ (lv_sub hl [2, 3, 4, 5, 6, 7, 8, 9, 1, 0] rfl) (fun y11_22 there_23 inn_24 coughs_25 day_26 hf H locs hs ls hl => ?_)
      refine lv_lload hx hb (dk hX5_storms_2 8 rfl) (lv_at hl 5 rfl) ?_
      refine lv_aload_n hx hb (dk hX5_storms_2 9 rfl) rfl (lv_at hl 0 rfl) ?_
      refine rg ui5 rfl C hs 0 rfl 8 (by decide) tw_698 rfl rfl (dk hX5_storms_2 10 rfl) ?_
      refine lv_iload_n hx hb (dk hX5_storms_2 11 rfl) rfl (lv_at hl 1 rfl) ?_
      obtain ⟨v_27, e_28, hf⟩ := Option.bind_eq_some_iff.mp hf
      refine rild C hs 9 rfl e_28 (dk hX5_storms_2 12 rfl) ?_
      refine lv_iconst (v := (1 : Int32)) hx hb (dk hX5_storms_2 13 rfl) (by decide) ?_
      refine lv_icmp_ne (tgt := 185) hx hb (dk hX5_storms_2 14 rfl) (by decide) (fun hc => ?_) (fun hc => ?_)
      · replace hf := in_ hf hc
        refine lv_lconst (v := (0 : Int64)) hx hb (dk hX5_storms_2 17 rfl) (by decide) ?_
        refine lv_ladd hx hb (dk hX5_storms_2 18 rfl) ?_
        refine lv_lstore (lv' := [(6, .long (x6 + (0 : Int64))), (0, .ref (ad 0)), (1, .int x1), (2, .int x2), (3, .int x3), (4, .int x4), (8, .long x8), (10, .int x10), (11, .long y11_22)]) hx hb (dk hX5_storms_2 19 rfl) hl (by decide) rfl (fun ls hl => ?_)
        refine lv_aload_n hx hb (dk hX5_storms_2 20 rfl) rfl (lv_at hl 1 rfl) ?_
        obtain ⟨u_29, e_30, hf⟩ := Option.bind_eq_some_iff.mp hf
        refine Ct.V (As := []) (rest := []) (st1 := []) (w1 := (wM G ad refused u_29.1 u_29.2.1 u_29.2.2.1 u_29.2.2.2.1 u_29.2.2.2.2.1 u_29.2.2.2.2.2.1 u_29.2.2.2.2.2.2.1 u_29.2.2.2.2.2.2.2.1 tape letter letterAt told u_29.2.2.2.2.2.2.2.2.1 row costs u_29.2.2.2.2.2.2.2.2.2.1 u_29.2.2.2.2.2.2.2.2.2.2.1 u_29.2.2.2.2.2.2.2.2.2.2.2.1 away taped reading statements hasImage u_29.2.2.2.2.2.2.2.2.2.2.2.2.1 u_29.2.2.2.2.2.2.2.2.2.2.2.2.2 backs free goodFor loadedWhen bareGood bareWhen rowMany lots)) C hs (c_X5_forgets e_30) tw_997 tw_999 tw_52 tw_85 tw_1000 nq_X5_forgets (by decide) 0 5 rfl rfl rfl rfl hl.1 rfl (Nat.le_of_ble_eq_true rfl) (dk hX5_storms_2 21 rfl) ⟨Nat.zero_le _, Nat.zero_le _⟩ rfl (fun H locs hs => ?_)
        refine lv_iinc (v := (x10 + (1 : Int32))) (lv' := [(10, .int (x10 + (1 : Int32))), (6, .long (x6 + (0 : Int64))), (0, .ref (ad 0)), (1, .int x1), (2, .int x2), (3, .int x3), (4, .int x4), (8, .long x8), (11, .long y11_22)]) hx hb (dk hX5_storms_2 22 rfl) hl (k := 7) rfl (by first | rfl | decide) (by decide) rfl (fun ls hl => ?_)
        refine lv_goto (tgt := 104) hx hb (dk hX5_storms_2 23 rfl) (by decide) ?_
        exact ih _ _ _ _ _ _ _ _ _ _ _ _ _ _ _ _ hf _ _ hs _ (lv_sub hl [2, 3, 4, 5, 6, 1, 7, 0] rfl) hk
      · replace hf := ip hf hc
        refine lv_lload hx hb (dk hX5_storms_2 15 rfl) (lv_at hl 8 rfl) ?_
        refine lv_goto (tgt := 186) hx hb (dk hX5_storms_2 16 rfl) (by decide) ?_
        refine lv_ladd hx hb (dk hX5_storms_2 18 rfl) ?_
        refine lv_lstore (lv' := [(6, .long (x6 + y11_22)), (0, .ref (ad 0)), (1, .int x1), (2, .int x2), (3, .int x3), (4, .int x4), (8, .long x8), (10, .int x10), (11, .long y11_22)]) hx hb (dk hX5_storms_2 19 rfl) hl (by decide) rfl (fun ls hl => ?_)
        refine lv_aload_n hx hb (dk hX5_storms_2 20 rfl) rfl (lv_at hl 1 rfl) ?_
        obtain ⟨u_31, e_32, hf⟩ := Option.bind_eq_some_iff.mp hf
        refine Ct.V (As := []) (rest := []) (st1 := []) (w1 := (wM G ad refused u_31.1 u_31.2.1 u_31.2.2.1 u_31.2.2.2.1 u_31.2.2.2.2.1 u_31.2.2.2.2.2.1 u_31.2.2.2.2.2.2.1 u_31.2.2.2.2.2.2.2.1 tape letter letterAt told u_31.2.2.2.2.2.2.2.2.1 row costs u_31.2.2.2.2.2.2.2.2.2.1 u_31.2.2.2.2.2.2.2.2.2.2.1 u_31.2.2.2.2.2.2.2.2.2.2.2.1 away taped reading statements hasImage u_31.2.2.2.2.2.2.2.2.2.2.2.2.1 u_31.2.2.2.2.2.2.2.2.2.2.2.2.2 backs free goodFor loadedWhen bareGood bareWhen rowMany lots)) C hs (c_X5_forgets e_32) tw_997 tw_999 tw_52 tw_85 tw_1000 nq_X5_forgets (by decide) 0 5 rfl rfl rfl rfl hl.1 rfl (Nat.le_of_ble_eq_true rfl) (dk hX5_storms_2 21 rfl) ⟨Nat.zero_le _, Nat.zero_le _⟩ rfl (fun H locs hs => ?_)
        refine lv_iinc (v := (x10 + (1 : Int32))) (lv' := [(10, .int (x10 + (1 : Int32))), (6, .long (x6 + y11_22)), (0, .ref (ad 0)), (1, .int x1), (2, .int x2), (3, .int x3), (4, .int x4), (8, .long x8), (11, .long y11_22)]) hx hb (dk hX5_storms_2 22 rfl) hl (k := 7) rfl (by first | rfl | decide) (by decide) rfl (fun ls hl => ?_)
        refine lv_goto (tgt := 104) hx hb (dk hX5_storms_2 23 rfl) (by decide) ?_
        exact ih _ _ _ _ _ _ _ _ _ _ _ _ _ _ _ _ hf _ _ hs _ (lv_sub hl [2, 3, 4, 5, 6, 1, 7, 0] rfl) hk
set_option maxRecDepth 100000 in
set_option maxHeartbeats 4000000 in
theorem c_X5_storms {l : Launch} {G : Gx} {ad : Nat → Nat} {refused there used hidden kind figure good load inn tape letter letterAt told kept row costs : List Int32} {ships coughs day away taped reading statements hasImage isKeeping cursor backs free goodFor loadedWhen bareGood bareWhen rowMany lots : Int32} {p0 : Int32} {p1 : Int32} {p2 : Int32} {p3 : Int32} {out : List Int32 × List Int32 × List Int32 × List Int32 × List Int32 × List Int32 × List Int32 × List Int32 × List Int32 × List Int32 × Int32 × Int32 × Int32 × Int32 × Int32 × Int64} (hf : X5_storms refused there used hidden kind figure good load inn kept ships coughs day away isKeeping cursor free p0 p1 p2 p3 = some out) : Ct l G yX5_storms cX5_storms 14 (some .long) 6 129 [.ref (ad 0), .int p0, .int p1, .int p2, .int p3] (wM G ad refused there used hidden kind figure good load inn tape letter letterAt told kept row costs ships coughs day away taped reading statements hasImage isKeeping cursor backs free goodFor loadedWhen bareGood bareWhen rowMany lots) (some (.long out.2.2.2.2.2.2.2.2.2.2.2.2.2.2.2)) (wM G ad out.1 out.2.1 out.2.2.1 out.2.2.2.1 out.2.2.2.2.1 out.2.2.2.2.2.1 out.2.2.2.2.2.2.1 out.2.2.2.2.2.2.2.1 out.2.2.2.2.2.2.2.2.1 tape letter letterAt told out.2.2.2.2.2.2.2.2.2.1 row costs out.2.2.2.2.2.2.2.2.2.2.1 out.2.2.2.2.2.2.2.2.2.2.2.1 out.2.2.2.2.2.2.2.2.2.2.2.2.1 away taped reading statements hasImage out.2.2.2.2.2.2.2.2.2.2.2.2.2.1 out.2.2.2.2.2.2.2.2.2.2.2.2.2.2.1 backs free goodFor loadedWhen bareGood bareWhen rowMany lots) := by
  refine Ct.intro RX5 rfl (plainFor_of_name (by decide)) (Nat.le_of_ble_eq_true rfl) rfl ?_
  intro p e s m args below meth c A C H locs hs ls hl
  obtain ⟨hx, hb, hml, hown, hts, hK, hret, hlk⟩ := id C
  have hl : lv_has ls 14 [(0, .ref (ad 0)), (1, .int p0), (2, .int p1), (3, .int p2), (4, .int p3)] := hl
  unfold X5_storms at hf
  refine lv_aload_n hx hb (dk hX5_storms_0 0 rfl) rfl (lv_at hl 0 rfl) ?_
  refine lv_iload_n hx hb (dk hX5_storms_0 1 rfl) rfl (lv_at hl 1 rfl) ?_
  obtain ⟨u_1, e_2, hf⟩ := Option.bind_eq_some_iff.mp hf
  refine Ct.V (As := [.int p0]) (rest := []) (st1 := [.int u_1]) (w1 := (wM G ad refused there used hidden kind figure good load inn tape letter letterAt told kept row costs ships coughs day away taped reading statements hasImage isKeeping cursor backs free goodFor loadedWhen bareGood bareWhen rowMany lots)) C hs (c_X5_isShip e_2) tw_854 tw_856 tw_32 tw_85 tw_857 nq_X5_isShip (by decide) 0 5 rfl rfl rfl rfl hl.1 rfl (Nat.le_of_ble_eq_true rfl) (dk hX5_storms_0 2 rfl) ⟨Nat.zero_le _, Nat.zero_le _⟩ rfl (fun H locs hs => ?_)
  refine lv_if_ne (tgt := 12) hx hb (dk hX5_storms_0 3 rfl) (by decide) (fun hc => ?_) (fun hc => ?_)
  · replace hf := in_ hf hc
    refine lv_iload_n hx hb (dk hX5_storms_0 6 rfl) rfl (lv_at hl 2 rfl) ?_
    refine lv_if_lt (tgt := 21) hx hb (dk hX5_storms_0 7 rfl) (by decide) (fun hc => ?_) (fun hc => ?_)
    · replace hf := ip hf hc
      refine lv_bipush (v := (-4 : Int32)) hx hb (dk hX5_storms_0 11 rfl) (by decide) ?_
      refine lv_goto (tgt := 59) hx hb (dk hX5_storms_0 12 rfl) (by decide) ?_
      refine lv_istore (lv' := [(5, .int (-4 : Int32)), (0, .ref (ad 0)), (1, .int p0), (2, .int p1), (3, .int p2), (4, .int p3)]) hx hb (dk hX5_storms_0 29 rfl) hl (by decide) rfl (fun ls hl => ?_)
      refine lv_iload hx hb (dk hX5_storms_0 30 rfl) (lv_at hl 0 rfl) ?_
      refine lv_if_eq (tgt := 73) hx hb (dk hX5_storms_0 31 rfl) (by decide) (fun hc => ?_) (fun hc => ?_)
      · exact absurd hc (by decide)
      · refine lv_aload_n hx hb (dk hX5_storms_0 32 rfl) rfl (lv_at hl 1 rfl) ?_
        refine lv_iload hx hb (dk hX5_storms_0 33 rfl) (lv_at hl 0 rfl) ?_
        obtain ⟨u_3, e_4, hf⟩ := Option.bind_eq_some_iff.mp hf
        refine Ct.V (As := [.int (-4 : Int32)]) (rest := []) (st1 := [.long u_3.2]) (w1 := (wM G ad u_3.1 there used hidden kind figure good load inn tape letter letterAt told kept row costs ships coughs day away taped reading statements hasImage isKeeping cursor backs free goodFor loadedWhen bareGood bareWhen rowMany lots)) C hs (c_X5_lowestOf e_4) tw_1137 tw_1139 tw_71 tw_85 tw_1140 nq_X5_lowestOf (by decide) 0 5 rfl rfl rfl rfl hl.1 rfl (Nat.le_of_ble_eq_true rfl) (dk hX5_storms_0 34 rfl) ⟨Nat.zero_le _, Nat.zero_le _⟩ rfl (fun H locs hs => ?_)
        cases hf
        exact rl C hs (dk hX5_storms_0 35 rfl)
    · replace hf := in_ hf hc
      refine lv_iload_n hx hb (dk hX5_storms_0 8 rfl) rfl (lv_at hl 3 rfl) ?_
      refine lv_iconst (v := (2 : Int32)) hx hb (dk hX5_storms_0 9 rfl) (by decide) ?_
      refine lv_icmp_ge (tgt := 26) hx hb (dk hX5_storms_0 10 rfl) (by decide) (fun hc => ?_) (fun hc => ?_)
      · replace hf := ip hf hc
        refine lv_iload_n hx hb (dk hX5_storms_0 13 rfl) rfl (lv_at hl 2 rfl) ?_
        refine lv_bipush (v := (7 : Int32)) hx hb (dk hX5_storms_0 14 rfl) (by decide) ?_
        refine lv_icmp_gt (tgt := 38) hx hb (dk hX5_storms_0 15 rfl) (by decide) (fun hc => ?_) (fun hc => ?_)
        · replace hf := ip hf hc
          refine lv_bipush (v := (-6 : Int32)) hx hb (dk hX5_storms_0 19 rfl) (by decide) ?_
          refine lv_goto (tgt := 59) hx hb (dk hX5_storms_0 20 rfl) (by decide) ?_
          refine lv_istore (lv' := [(5, .int (-6 : Int32)), (0, .ref (ad 0)), (1, .int p0), (2, .int p1), (3, .int p2), (4, .int p3)]) hx hb (dk hX5_storms_0 29 rfl) hl (by decide) rfl (fun ls hl => ?_)
          refine lv_iload hx hb (dk hX5_storms_0 30 rfl) (lv_at hl 0 rfl) ?_
          refine lv_if_eq (tgt := 73) hx hb (dk hX5_storms_0 31 rfl) (by decide) (fun hc => ?_) (fun hc => ?_)
          · exact absurd hc (by decide)
          · refine lv_aload_n hx hb (dk hX5_storms_0 32 rfl) rfl (lv_at hl 1 rfl) ?_
            refine lv_iload hx hb (dk hX5_storms_0 33 rfl) (lv_at hl 0 rfl) ?_
            obtain ⟨u_5, e_6, hf⟩ := Option.bind_eq_some_iff.mp hf
            refine Ct.V (As := [.int (-6 : Int32)]) (rest := []) (st1 := [.long u_5.2]) (w1 := (wM G ad u_5.1 there used hidden kind figure good load inn tape letter letterAt told kept row costs ships coughs day away taped reading statements hasImage isKeeping cursor backs free goodFor loadedWhen bareGood bareWhen rowMany lots)) C hs (c_X5_lowestOf e_6) tw_1137 tw_1139 tw_71 tw_85 tw_1140 nq_X5_lowestOf (by decide) 0 5 rfl rfl rfl rfl hl.1 rfl (Nat.le_of_ble_eq_true rfl) (dk hX5_storms_0 34 rfl) ⟨Nat.zero_le _, Nat.zero_le _⟩ rfl (fun H locs hs => ?_)
            cases hf
            exact rl C hs (dk hX5_storms_0 35 rfl)
        · replace hf := in_ hf hc
          refine lv_iload_n hx hb (dk hX5_storms_0 16 rfl) rfl (lv_at hl 3 rfl) ?_
          refine lv_bipush (v := (20 : Int32)) hx hb (dk hX5_storms_0 17 rfl) (by decide) ?_
          refine lv_icmp_le (tgt := 43) hx hb (dk hX5_storms_0 18 rfl) (by decide) (fun hc => ?_) (fun hc => ?_)
          · replace hf := ip hf hc
            refine lv_iload hx hb (dk hX5_storms_0 21 rfl) (lv_at hl 4 rfl) ?_
            refine lv_iconst (v := (0 : Int32)) hx hb (dk hX5_storms_0 22 rfl) (by decide) ?_
            refine lv_iconst (v := (1 : Int32)) hx hb (dk hX5_storms_0 23 rfl) (by decide) ?_
            obtain ⟨u_7, e_8, hf⟩ := Option.bind_eq_some_iff.mp hf
            refine Ct.S (As := [.int p3, .int (0 : Int32), .int (1 : Int32)]) (rest := []) (st1 := [.int u_7]) (w1 := (wM G ad refused there used hidden kind figure good load inn tape letter letterAt told kept row costs ships coughs day away taped reading statements hasImage isKeeping cursor backs free goodFor loadedWhen bareGood bareWhen rowMany lots)) C hs (c_X5_isIn e_8) tw_824 tw_825 tw_85 tw_826 nq_X5_isIn (by decide) rfl hl.1 rfl (Nat.le_of_ble_eq_true rfl) (dk hX5_storms_0 24 rfl) ⟨Nat.zero_le _, Nat.zero_le _⟩ rfl (fun H locs hs => ?_)
            refine lv_if_ne (tgt := 58) hx hb (dk hX5_storms_0 25 rfl) (by decide) (fun hc => ?_) (fun hc => ?_)
            · replace hf := in_ hf hc
              refine lv_iconst (v := (0 : Int32)) hx hb (dk hX5_storms_0 28 rfl) (by decide) ?_
              refine lv_istore (lv' := [(5, .int (0 : Int32)), (0, .ref (ad 0)), (1, .int p0), (2, .int p1), (3, .int p2), (4, .int p3)]) hx hb (dk hX5_storms_0 29 rfl) hl (by decide) rfl (fun ls hl => ?_)
              refine lv_iload hx hb (dk hX5_storms_0 30 rfl) (lv_at hl 0 rfl) ?_
              refine lv_if_eq (tgt := 73) hx hb (dk hX5_storms_0 31 rfl) (by decide) (fun hc => ?_) (fun hc => ?_)
              · refine lv_lconst (v := (0 : Int64)) hx hb (dk hX5_storms_0 36 rfl) (by decide) ?_
                refine lv_lstore (lv' := [(6, .long (0 : Int64)), (5, .int (0 : Int32)), (0, .ref (ad 0)), (1, .int p0), (2, .int p1), (3, .int p2), (4, .int p3)]) hx hb (dk hX5_storms_0 37 rfl) hl (by decide) rfl (fun ls hl => ?_)
                refine lv_lconst (v := (1 : Int64)) hx hb (dk hX5_storms_0 38 rfl) (by decide) ?_
                refine lv_lstore (lv' := [(8, .long (1 : Int64)), (6, .long (0 : Int64)), (5, .int (0 : Int32)), (0, .ref (ad 0)), (1, .int p0), (2, .int p1), (3, .int p2), (4, .int p3)]) hx hb (dk hX5_storms_0 39 rfl) hl (by decide) rfl (fun ls hl => ?_)
                refine lv_iconst (v := (0 : Int32)) hx hb (dk hX5_storms_1 0 rfl) (by decide) ?_
                refine lv_istore (lv' := [(10, .int (0 : Int32)), (8, .long (1 : Int64)), (6, .long (0 : Int64)), (5, .int (0 : Int32)), (0, .ref (ad 0)), (1, .int p0), (2, .int p1), (3, .int p2), (4, .int p3)]) hx hb (dk hX5_storms_1 1 rfl) hl (by decide) rfl (fun ls hl => ?_)
                refine l_X5_storms_L82 C 1000 _ _ hf _ _ hs _ (lv_sub hl [4, 5, 6, 7, 8, 2, 1, 0] rfl) (fun y8_9 hf H locs hs ls hl => ?_)
                refine lv_iconst (v := (0 : Int32)) hx hb (dk hX5_storms_1 12 rfl) (by decide) ?_
                refine lv_istore (lv' := [(10, .int (0 : Int32)), (0, .ref (ad 0)), (1, .int p0), (2, .int p1), (3, .int p2), (4, .int p3), (6, .long (0 : Int64)), (8, .long y8_9)]) hx hb (dk hX5_storms_1 13 rfl) hl (by decide) rfl (fun ls hl => ?_)
                refine l_X5_storms_L104 C 1000 _ _ _ _ _ _ _ _ _ _ _ _ _ _ _ _ hf _ _ hs _ (lv_sub hl [1, 2, 3, 4, 5, 6, 7, 0] rfl) (fun y6_33 there_34 used_35 hidden_36 kind_37 figure_38 good_39 load_40 inn_41 kept_42 ships_43 coughs_44 day_45 isKeeping_46 cursor_47 hf H locs hs ls hl => ?_)
                refine lv_lload hx hb (dk hX5_storms_2 24 rfl) (lv_at hl 1 rfl) ?_
                refine lv_lload hx hb (dk hX5_storms_2 25 rfl) (lv_at hl 2 rfl) ?_
                refine lv_iload hx hb (dk hX5_storms_2 26 rfl) (lv_at hl 0 rfl) ?_
                obtain ⟨u_48, e_49, hf⟩ := Option.bind_eq_some_iff.mp hf
                refine Ct.S (As := [.long y6_33, .long y8_9, .int p3]) (rest := []) (st1 := [.long u_48]) (w1 := (wM G ad refused there_34 used_35 hidden_36 kind_37 figure_38 good_39 load_40 inn_41 tape letter letterAt told kept_42 row costs ships_43 coughs_44 day_45 away taped reading statements hasImage isKeeping_46 cursor_47 backs free goodFor loadedWhen bareGood bareWhen rowMany lots)) C hs (c_X5_partOf e_49) tw_1142 tw_1143 tw_85 tw_1144 nq_X5_partOf (by decide) rfl hl.1 rfl (Nat.le_of_ble_eq_true rfl) (dk hX5_storms_2 27 rfl) ⟨Nat.zero_le _, Nat.zero_le _⟩ rfl (fun H locs hs => ?_)
                cases hf
                exact rl C hs (dk hX5_storms_2 28 rfl)
              · exact absurd hc (by decide)
            · replace hf := ip hf hc
              refine lv_bipush (v := (-2 : Int32)) hx hb (dk hX5_storms_0 26 rfl) (by decide) ?_
              refine lv_goto (tgt := 59) hx hb (dk hX5_storms_0 27 rfl) (by decide) ?_
              refine lv_istore (lv' := [(5, .int (-2 : Int32)), (0, .ref (ad 0)), (1, .int p0), (2, .int p1), (3, .int p2), (4, .int p3)]) hx hb (dk hX5_storms_0 29 rfl) hl (by decide) rfl (fun ls hl => ?_)
              refine lv_iload hx hb (dk hX5_storms_0 30 rfl) (lv_at hl 0 rfl) ?_
              refine lv_if_eq (tgt := 73) hx hb (dk hX5_storms_0 31 rfl) (by decide) (fun hc => ?_) (fun hc => ?_)
              · exact absurd hc (by decide)
              · refine lv_aload_n hx hb (dk hX5_storms_0 32 rfl) rfl (lv_at hl 1 rfl) ?_
                refine lv_iload hx hb (dk hX5_storms_0 33 rfl) (lv_at hl 0 rfl) ?_
                obtain ⟨u_50, e_51, hf⟩ := Option.bind_eq_some_iff.mp hf
                refine Ct.V (As := [.int (-2 : Int32)]) (rest := []) (st1 := [.long u_50.2]) (w1 := (wM G ad u_50.1 there used hidden kind figure good load inn tape letter letterAt told kept row costs ships coughs day away taped reading statements hasImage isKeeping cursor backs free goodFor loadedWhen bareGood bareWhen rowMany lots)) C hs (c_X5_lowestOf e_51) tw_1137 tw_1139 tw_71 tw_85 tw_1140 nq_X5_lowestOf (by decide) 0 5 rfl rfl rfl rfl hl.1 rfl (Nat.le_of_ble_eq_true rfl) (dk hX5_storms_0 34 rfl) ⟨Nat.zero_le _, Nat.zero_le _⟩ rfl (fun H locs hs => ?_)
                cases hf
                exact rl C hs (dk hX5_storms_0 35 rfl)
          · replace hf := in_ hf hc
            refine lv_bipush (v := (-6 : Int32)) hx hb (dk hX5_storms_0 19 rfl) (by decide) ?_
            refine lv_goto (tgt := 59) hx hb (dk hX5_storms_0 20 rfl) (by decide) ?_
            refine lv_istore (lv' := [(5, .int (-6 : Int32)), (0, .ref (ad 0)), (1, .int p0), (2, .int p1), (3, .int p2), (4, .int p3)]) hx hb (dk hX5_storms_0 29 rfl) hl (by decide) rfl (fun ls hl => ?_)
            refine lv_iload hx hb (dk hX5_storms_0 30 rfl) (lv_at hl 0 rfl) ?_
            refine lv_if_eq (tgt := 73) hx hb (dk hX5_storms_0 31 rfl) (by decide) (fun hc => ?_) (fun hc => ?_)
            · exact absurd hc (by decide)
            · refine lv_aload_n hx hb (dk hX5_storms_0 32 rfl) rfl (lv_at hl 1 rfl) ?_
              refine lv_iload hx hb (dk hX5_storms_0 33 rfl) (lv_at hl 0 rfl) ?_
              obtain ⟨u_52, e_53, hf⟩ := Option.bind_eq_some_iff.mp hf
              refine Ct.V (As := [.int (-6 : Int32)]) (rest := []) (st1 := [.long u_52.2]) (w1 := (wM G ad u_52.1 there used hidden kind figure good load inn tape letter letterAt told kept row costs ships coughs day away taped reading statements hasImage isKeeping cursor backs free goodFor loadedWhen bareGood bareWhen rowMany lots)) C hs (c_X5_lowestOf e_53) tw_1137 tw_1139 tw_71 tw_85 tw_1140 nq_X5_lowestOf (by decide) 0 5 rfl rfl rfl rfl hl.1 rfl (Nat.le_of_ble_eq_true rfl) (dk hX5_storms_0 34 rfl) ⟨Nat.zero_le _, Nat.zero_le _⟩ rfl (fun H locs hs => ?_)
              cases hf
              exact rl C hs (dk hX5_storms_0 35 rfl)
      · replace hf := in_ hf hc
        refine lv_bipush (v := (-4 : Int32)) hx hb (dk hX5_storms_0 11 rfl) (by decide) ?_
        refine lv_goto (tgt := 59) hx hb (dk hX5_storms_0 12 rfl) (by decide) ?_
        refine lv_istore (lv' := [(5, .int (-4 : Int32)), (0, .ref (ad 0)), (1, .int p0), (2, .int p1), (3, .int p2), (4, .int p3)]) hx hb (dk hX5_storms_0 29 rfl) hl (by decide) rfl (fun ls hl => ?_)
        refine lv_iload hx hb (dk hX5_storms_0 30 rfl) (lv_at hl 0 rfl) ?_
        refine lv_if_eq (tgt := 73) hx hb (dk hX5_storms_0 31 rfl) (by decide) (fun hc => ?_) (fun hc => ?_)
        · exact absurd hc (by decide)
        · refine lv_aload_n hx hb (dk hX5_storms_0 32 rfl) rfl (lv_at hl 1 rfl) ?_
          refine lv_iload hx hb (dk hX5_storms_0 33 rfl) (lv_at hl 0 rfl) ?_
          obtain ⟨u_54, e_55, hf⟩ := Option.bind_eq_some_iff.mp hf
          refine Ct.V (As := [.int (-4 : Int32)]) (rest := []) (st1 := [.long u_54.2]) (w1 := (wM G ad u_54.1 there used hidden kind figure good load inn tape letter letterAt told kept row costs ships coughs day away taped reading statements hasImage isKeeping cursor backs free goodFor loadedWhen bareGood bareWhen rowMany lots)) C hs (c_X5_lowestOf e_55) tw_1137 tw_1139 tw_71 tw_85 tw_1140 nq_X5_lowestOf (by decide) 0 5 rfl rfl rfl rfl hl.1 rfl (Nat.le_of_ble_eq_true rfl) (dk hX5_storms_0 34 rfl) ⟨Nat.zero_le _, Nat.zero_le _⟩ rfl (fun H locs hs => ?_)
          cases hf
          exact rl C hs (dk hX5_storms_0 35 rfl)
  · replace hf := ip hf hc
    refine lv_iconst (v := (-1 : Int32)) hx hb (dk hX5_storms_0 4 rfl) (by decide) ?_
    refine lv_goto (tgt := 59) hx hb (dk hX5_storms_0 5 rfl) (by decide) ?_
    refine lv_istore (lv' := [(5, .int (-1 : Int32)), (0, .ref (ad 0)), (1, .int p0), (2, .int p1), (3, .int p2), (4, .int p3)]) hx hb (dk hX5_storms_0 29 rfl) hl (by decide) rfl (fun ls hl => ?_)
    refine lv_iload hx hb (dk hX5_storms_0 30 rfl) (lv_at hl 0 rfl) ?_
    refine lv_if_eq (tgt := 73) hx hb (dk hX5_storms_0 31 rfl) (by decide) (fun hc => ?_) (fun hc => ?_)
    · exact absurd hc (by decide)
    · refine lv_aload_n hx hb (dk hX5_storms_0 32 rfl) rfl (lv_at hl 1 rfl) ?_
      refine lv_iload hx hb (dk hX5_storms_0 33 rfl) (lv_at hl 0 rfl) ?_
      obtain ⟨u_56, e_57, hf⟩ := Option.bind_eq_some_iff.mp hf
      refine Ct.V (As := [.int (-1 : Int32)]) (rest := []) (st1 := [.long u_56.2]) (w1 := (wM G ad u_56.1 there used hidden kind figure good load inn tape letter letterAt told kept row costs ships coughs day away taped reading statements hasImage isKeeping cursor backs free goodFor loadedWhen bareGood bareWhen rowMany lots)) C hs (c_X5_lowestOf e_57) tw_1137 tw_1139 tw_71 tw_85 tw_1140 nq_X5_lowestOf (by decide) 0 5 rfl rfl rfl rfl hl.1 rfl (Nat.le_of_ble_eq_true rfl) (dk hX5_storms_0 34 rfl) ⟨Nat.zero_le _, Nat.zero_le _⟩ rfl (fun H locs hs => ?_)
      cases hf
      exact rl C hs (dk hX5_storms_0 35 rfl)

def X5_deepestOne_L5 (k : Int32 → Option (Int32)) (kind : List Int32) (figure : List Int32) (ships : Int32) : Nat → Int32 → Int32 → Option (Int32)
  | 0, _, _ => none
  | n + 1, x1, x2 =>
  if ships ≤ x2 then
  k x1
  else
  if x1 < (0 : Int32) then
  X5_deepestOne_L5 k kind figure ships n x2 (x2 + (1 : Int32))
  else
  (X5_draws kind figure x2).bind fun u_1 =>
  (X5_draws kind figure x1).bind fun u_3 =>
  if u_1 ≤ u_3 then
  X5_deepestOne_L5 k kind figure ships n x1 (x2 + (1 : Int32))
  else
  X5_deepestOne_L5 k kind figure ships n x2 (x2 + (1 : Int32))
def X5_deepestOne (kind : List Int32) (figure : List Int32) (ships : Int32) : Option (Int32) :=
  X5_deepestOne_L5 (fun y1_5 =>
  some y1_5) kind figure ships 1000 (-9 : Int32) (0 : Int32)
set_option maxRecDepth 100000 in
set_option maxHeartbeats 4000000 in
theorem l_X5_deepestOne_L5 {l : Launch} {p : Program} {e : Env} {s : State} {m : MethodId} {args : Array Value} {below : List Frame} {meth : Method} {c : Code} {A : Nat → Prop} {G : Gx} {ad : Nat → Nat} {refused there used hidden kind figure good load inn tape letter letterAt told kept row costs : List Int32} {ships coughs day away taped reading statements hasImage isKeeping cursor backs free goodFor loadedWhen bareGood bareWhen rowMany lots : Int32} {k : Int32 → Option (Int32)} {out : Int32} (C : Cx p s m args meth c cX5_deepestOne RX5 3 (some .int) G) : ∀ (n : Nat) (x1 : Int32) (x2 : Int32), X5_deepestOne_L5 k kind figure ships n x1 x2 = some out → ∀ (H : Heap) (locs : List Loc), St G A s.heap H locs (wM G ad refused there used hidden kind figure good load inn tape letter letterAt told kept row costs ships coughs day away taped reading statements hasImage isKeeping cursor backs free goodFor loadedWhen bareGood bareWhen rowMany lots) → ∀ ls : Array Slot, lv_has ls 3 [(0, .ref (ad 0)), (1, .int x1), (2, .int x2)] → (∀ (y1 : Int32), k y1 = some out → ∀ (H : Heap) (locs : List Loc), St G A s.heap H locs (wM G ad refused there used hidden kind figure good load inn tape letter letterAt told kept row costs ships coughs day away taped reading statements hasImage isKeeping cursor backs free goodFor loadedWhen bareGood bareWhen rowMany lots) → ∀ ls : Array Slot, lv_has ls 3 [(1, .int y1)] → W p l e (rmOf 1 21) s m args below meth c H locs 0 0 (MQ below (Qof G A (some (.int out)) (wM G ad refused there used hidden kind figure good load inn tape letter letterAt told kept row costs ships coughs day away taped reading statements hasImage isKeeping cursor backs free goodFor loadedWhen bareGood bareWhen rowMany lots)) args s 0 0 A) (F0 m 42 ls [])) → W p l e (rmOf 1 21) s m args below meth c H locs 0 0 (MQ below (Qof G A (some (.int out)) (wM G ad refused there used hidden kind figure good load inn tape letter letterAt told kept row costs ships coughs day away taped reading statements hasImage isKeeping cursor backs free goodFor loadedWhen bareGood bareWhen rowMany lots)) args s 0 0 A) (F0 m 5 ls []) := by
  obtain ⟨hx, hb, hml, hown, hts, hK, hret, hlk⟩ := id C
  intro n
  induction n with
  | zero => intro x1 x2 hf; cases hf
  | succ n ih =>
    intro x1 x2 hf H locs hs ls hl hk
    rw [X5_deepestOne_L5] at hf
    refine lv_iload_n hx hb (dk hX5_deepestOne_0 4 rfl) rfl (lv_at hl 2 rfl) ?_
    refine lv_aload_n hx hb (dk hX5_deepestOne_0 5 rfl) rfl (lv_at hl 0 rfl) ?_
    refine rg ui5 rfl C hs 0 rfl 9 (by decide) tw_699 rfl rfl (dk hX5_deepestOne_0 6 rfl) ?_
    refine lv_icmp_ge (tgt := 42) hx hb (dk hX5_deepestOne_0 7 rfl) (by decide) (fun hc => ?_) (fun hc => ?_)
    · replace hf := ip hf hc
      exact hk _ hf _ _ hs _ (lv_sub hl [1] rfl)
    · replace hf := in_ hf hc
      refine lv_iload_n hx hb (dk hX5_deepestOne_0 8 rfl) rfl (lv_at hl 1 rfl) ?_
      refine lv_if_lt (tgt := 30) hx hb (dk hX5_deepestOne_0 9 rfl) (by decide) (fun hc => ?_) (fun hc => ?_)
      · replace hf := ip hf hc
        refine lv_iload_n hx hb (dk hX5_deepestOne_0 17 rfl) rfl (lv_at hl 2 rfl) ?_
        refine lv_goto (tgt := 35) hx hb (dk hX5_deepestOne_0 18 rfl) (by decide) ?_
        refine lv_istore_n (lv' := [(1, .int x2), (0, .ref (ad 0)), (2, .int x2)]) hx hb (dk hX5_deepestOne_0 20 rfl) rfl hl (by decide) rfl (fun ls hl => ?_)
        refine lv_iinc (v := (x2 + (1 : Int32))) (lv' := [(2, .int (x2 + (1 : Int32))), (1, .int x2), (0, .ref (ad 0))]) hx hb (dk hX5_deepestOne_0 21 rfl) hl (k := 2) rfl (by first | rfl | decide) (by decide) rfl (fun ls hl => ?_)
        refine lv_goto (tgt := 5) hx hb (dk hX5_deepestOne_0 22 rfl) (by decide) ?_
        exact ih _ _ hf _ _ hs _ (lv_sub hl [2, 1, 0] rfl) hk
      · replace hf := in_ hf hc
        refine lv_aload_n hx hb (dk hX5_deepestOne_0 10 rfl) rfl (lv_at hl 0 rfl) ?_
        refine lv_iload_n hx hb (dk hX5_deepestOne_0 11 rfl) rfl (lv_at hl 2 rfl) ?_
        obtain ⟨u_1, e_2, hf⟩ := Option.bind_eq_some_iff.mp hf
        refine Ct.V (As := [.int x2]) (rest := []) (st1 := [.int u_1]) (w1 := (wM G ad refused there used hidden kind figure good load inn tape letter letterAt told kept row costs ships coughs day away taped reading statements hasImage isKeeping cursor backs free goodFor loadedWhen bareGood bareWhen rowMany lots)) C hs (c_X5_draws e_2) tw_900 tw_902 tw_42 tw_85 tw_903 nq_X5_draws (by decide) 0 5 rfl rfl rfl rfl hl.1 rfl (Nat.le_of_ble_eq_true rfl) (dk hX5_deepestOne_0 12 rfl) ⟨Nat.zero_le _, Nat.zero_le _⟩ rfl (fun H locs hs => ?_)
        refine lv_aload_n hx hb (dk hX5_deepestOne_0 13 rfl) rfl (lv_at hl 0 rfl) ?_
        refine lv_iload_n hx hb (dk hX5_deepestOne_0 14 rfl) rfl (lv_at hl 1 rfl) ?_
        obtain ⟨u_3, e_4, hf⟩ := Option.bind_eq_some_iff.mp hf
        refine Ct.V (As := [.int x1]) (rest := [.int u_1]) (st1 := [.int u_3, .int u_1]) (w1 := (wM G ad refused there used hidden kind figure good load inn tape letter letterAt told kept row costs ships coughs day away taped reading statements hasImage isKeeping cursor backs free goodFor loadedWhen bareGood bareWhen rowMany lots)) C hs (c_X5_draws e_4) tw_900 tw_902 tw_42 tw_85 tw_903 nq_X5_draws (by decide) 0 5 rfl rfl rfl rfl hl.1 rfl (Nat.le_of_ble_eq_true rfl) (dk hX5_deepestOne_0 15 rfl) ⟨Nat.zero_le _, Nat.zero_le _⟩ rfl (fun H locs hs => ?_)
        refine lv_icmp_le (tgt := 34) hx hb (dk hX5_deepestOne_0 16 rfl) (by decide) (fun hc => ?_) (fun hc => ?_)
        · replace hf := ip hf hc
          refine lv_iload_n hx hb (dk hX5_deepestOne_0 19 rfl) rfl (lv_at hl 1 rfl) ?_
          refine lv_istore_n (lv' := [(1, .int x1), (0, .ref (ad 0)), (2, .int x2)]) hx hb (dk hX5_deepestOne_0 20 rfl) rfl hl (by decide) rfl (fun ls hl => ?_)
          refine lv_iinc (v := (x2 + (1 : Int32))) (lv' := [(2, .int (x2 + (1 : Int32))), (1, .int x1), (0, .ref (ad 0))]) hx hb (dk hX5_deepestOne_0 21 rfl) hl (k := 2) rfl (by first | rfl | decide) (by decide) rfl (fun ls hl => ?_)
          refine lv_goto (tgt := 5) hx hb (dk hX5_deepestOne_0 22 rfl) (by decide) ?_
          exact ih _ _ hf _ _ hs _ (lv_sub hl [2, 1, 0] rfl) hk
        · replace hf := in_ hf hc
          refine lv_iload_n hx hb (dk hX5_deepestOne_0 17 rfl) rfl (lv_at hl 2 rfl) ?_
          refine lv_goto (tgt := 35) hx hb (dk hX5_deepestOne_0 18 rfl) (by decide) ?_
          refine lv_istore_n (lv' := [(1, .int x2), (0, .ref (ad 0)), (2, .int x2)]) hx hb (dk hX5_deepestOne_0 20 rfl) rfl hl (by decide) rfl (fun ls hl => ?_)
          refine lv_iinc (v := (x2 + (1 : Int32))) (lv' := [(2, .int (x2 + (1 : Int32))), (1, .int x2), (0, .ref (ad 0))]) hx hb (dk hX5_deepestOne_0 21 rfl) hl (k := 2) rfl (by first | rfl | decide) (by decide) rfl (fun ls hl => ?_)
          refine lv_goto (tgt := 5) hx hb (dk hX5_deepestOne_0 22 rfl) (by decide) ?_
          exact ih _ _ hf _ _ hs _ (lv_sub hl [2, 1, 0] rfl) hk
set_option maxRecDepth 100000 in
set_option maxHeartbeats 4000000 in
theorem c_X5_deepestOne {l : Launch} {G : Gx} {ad : Nat → Nat} {refused there used hidden kind figure good load inn tape letter letterAt told kept row costs : List Int32} {ships coughs day away taped reading statements hasImage isKeeping cursor backs free goodFor loadedWhen bareGood bareWhen rowMany lots : Int32}  {out : Int32} (hf : X5_deepestOne kind figure ships = some out) : Ct l G yX5_deepestOne cX5_deepestOne 3 (some .int) 1 21 [.ref (ad 0)] (wM G ad refused there used hidden kind figure good load inn tape letter letterAt told kept row costs ships coughs day away taped reading statements hasImage isKeeping cursor backs free goodFor loadedWhen bareGood bareWhen rowMany lots) (some (.int out)) (wM G ad refused there used hidden kind figure good load inn tape letter letterAt told kept row costs ships coughs day away taped reading statements hasImage isKeeping cursor backs free goodFor loadedWhen bareGood bareWhen rowMany lots) := by
  refine Ct.intro RX5 rfl (plainFor_of_name (by decide)) (Nat.le_of_ble_eq_true rfl) rfl ?_
  intro p e s m args below meth c A C H locs hs ls hl
  obtain ⟨hx, hb, hml, hown, hts, hK, hret, hlk⟩ := id C
  have hl : lv_has ls 3 [(0, .ref (ad 0))] := hl
  unfold X5_deepestOne at hf
  refine lv_bipush (v := (-9 : Int32)) hx hb (dk hX5_deepestOne_0 0 rfl) (by decide) ?_
  refine lv_istore_n (lv' := [(1, .int (-9 : Int32)), (0, .ref (ad 0))]) hx hb (dk hX5_deepestOne_0 1 rfl) rfl hl (by decide) rfl (fun ls hl => ?_)
  refine lv_iconst (v := (0 : Int32)) hx hb (dk hX5_deepestOne_0 2 rfl) (by decide) ?_
  refine lv_istore_n (lv' := [(2, .int (0 : Int32)), (1, .int (-9 : Int32)), (0, .ref (ad 0))]) hx hb (dk hX5_deepestOne_0 3 rfl) rfl hl (by decide) rfl (fun ls hl => ?_)
  refine l_X5_deepestOne_L5 C 1000 _ _ hf _ _ hs _ (lv_sub hl [2, 1, 0] rfl) (fun y1_5 hf H locs hs ls hl => ?_)
  refine lv_iload_n hx hb (dk hX5_deepestOne_0 23 rfl) rfl (lv_at hl 0 rfl) ?_
  cases hf
  exact ri C hs (dk hX5_deepestOne_0 24 rfl)

def X5_shortest_L4 (k : Int32 → Option (Int32)) (there : List Int32) (used : List Int32) (free : Int32) : Nat → Int32 → Int32 → Option (Int32)
  | 0, _, _ => none
  | n + 1, x1, x2 =>
  if (6 : Int32) ≤ x2 then
  k x1
  else
  (X5_lack there used free x2).bind fun u_1 =>
  (X5_lack there used free x1).bind fun u_3 =>
  if u_1 ≤ u_3 then
  X5_shortest_L4 k there used free n x1 (x2 + (1 : Int32))
  else
  X5_shortest_L4 k there used free n x2 (x2 + (1 : Int32))
def X5_shortest (there : List Int32) (used : List Int32) (free : Int32) : Option (Int32) :=
  X5_shortest_L4 (fun y1_5 =>
  some y1_5) there used free 1000 (0 : Int32) (1 : Int32)
set_option maxRecDepth 100000 in
set_option maxHeartbeats 4000000 in
theorem l_X5_shortest_L4 {l : Launch} {p : Program} {e : Env} {s : State} {m : MethodId} {args : Array Value} {below : List Frame} {meth : Method} {c : Code} {A : Nat → Prop} {G : Gx} {ad : Nat → Nat} {refused there used hidden kind figure good load inn tape letter letterAt told kept row costs : List Int32} {ships coughs day away taped reading statements hasImage isKeeping cursor backs free goodFor loadedWhen bareGood bareWhen rowMany lots : Int32} {k : Int32 → Option (Int32)} {out : Int32} (C : Cx p s m args meth c cX5_shortest RX5 3 (some .int) G) : ∀ (n : Nat) (x1 : Int32) (x2 : Int32), X5_shortest_L4 k there used free n x1 x2 = some out → ∀ (H : Heap) (locs : List Loc), St G A s.heap H locs (wM G ad refused there used hidden kind figure good load inn tape letter letterAt told kept row costs ships coughs day away taped reading statements hasImage isKeeping cursor backs free goodFor loadedWhen bareGood bareWhen rowMany lots) → ∀ ls : Array Slot, lv_has ls 3 [(0, .ref (ad 0)), (1, .int x1), (2, .int x2)] → (∀ (y1 : Int32), k y1 = some out → ∀ (H : Heap) (locs : List Loc), St G A s.heap H locs (wM G ad refused there used hidden kind figure good load inn tape letter letterAt told kept row costs ships coughs day away taped reading statements hasImage isKeeping cursor backs free goodFor loadedWhen bareGood bareWhen rowMany lots) → ∀ ls : Array Slot, lv_has ls 3 [(1, .int y1)] → W p l e (rmOf 1 21) s m args below meth c H locs 0 0 (MQ below (Qof G A (some (.int out)) (wM G ad refused there used hidden kind figure good load inn tape letter letterAt told kept row costs ships coughs day away taped reading statements hasImage isKeeping cursor backs free goodFor loadedWhen bareGood bareWhen rowMany lots)) args s 0 0 A) (F0 m 35 ls [])) → W p l e (rmOf 1 21) s m args below meth c H locs 0 0 (MQ below (Qof G A (some (.int out)) (wM G ad refused there used hidden kind figure good load inn tape letter letterAt told kept row costs ships coughs day away taped reading statements hasImage isKeeping cursor backs free goodFor loadedWhen bareGood bareWhen rowMany lots)) args s 0 0 A) (F0 m 4 ls []) := by
  obtain ⟨hx, hb, hml, hown, hts, hK, hret, hlk⟩ := id C
  intro n
  induction n with
  | zero => intro x1 x2 hf; cases hf
  | succ n ih =>
    intro x1 x2 hf H locs hs ls hl hk
    rw [X5_shortest_L4] at hf
    refine lv_iload_n hx hb (dk hX5_shortest_0 4 rfl) rfl (lv_at hl 2 rfl) ?_
    refine lv_bipush (v := (6 : Int32)) hx hb (dk hX5_shortest_0 5 rfl) (by decide) ?_
    refine lv_icmp_ge (tgt := 35) hx hb (dk hX5_shortest_0 6 rfl) (by decide) (fun hc => ?_) (fun hc => ?_)
    · replace hf := ip hf hc
      exact hk _ hf _ _ hs _ (lv_sub hl [1] rfl)
    · replace hf := in_ hf hc
      refine lv_aload_n hx hb (dk hX5_shortest_0 7 rfl) rfl (lv_at hl 0 rfl) ?_
      refine lv_iload_n hx hb (dk hX5_shortest_0 8 rfl) rfl (lv_at hl 2 rfl) ?_
      obtain ⟨u_1, e_2, hf⟩ := Option.bind_eq_some_iff.mp hf
      refine Ct.V (As := [.int x2]) (rest := []) (st1 := [.int u_1]) (w1 := (wM G ad refused there used hidden kind figure good load inn tape letter letterAt told kept row costs ships coughs day away taped reading statements hasImage isKeeping cursor backs free goodFor loadedWhen bareGood bareWhen rowMany lots)) C hs (c_X5_lack e_2) tw_888 tw_890 tw_39 tw_85 tw_891 nq_X5_lack (by decide) 0 5 rfl rfl rfl rfl hl.1 rfl (Nat.le_of_ble_eq_true rfl) (dk hX5_shortest_0 9 rfl) ⟨Nat.zero_le _, Nat.zero_le _⟩ rfl (fun H locs hs => ?_)
      refine lv_aload_n hx hb (dk hX5_shortest_0 10 rfl) rfl (lv_at hl 0 rfl) ?_
      refine lv_iload_n hx hb (dk hX5_shortest_0 11 rfl) rfl (lv_at hl 1 rfl) ?_
      obtain ⟨u_3, e_4, hf⟩ := Option.bind_eq_some_iff.mp hf
      refine Ct.V (As := [.int x1]) (rest := [.int u_1]) (st1 := [.int u_3, .int u_1]) (w1 := (wM G ad refused there used hidden kind figure good load inn tape letter letterAt told kept row costs ships coughs day away taped reading statements hasImage isKeeping cursor backs free goodFor loadedWhen bareGood bareWhen rowMany lots)) C hs (c_X5_lack e_4) tw_888 tw_890 tw_39 tw_85 tw_891 nq_X5_lack (by decide) 0 5 rfl rfl rfl rfl hl.1 rfl (Nat.le_of_ble_eq_true rfl) (dk hX5_shortest_0 12 rfl) ⟨Nat.zero_le _, Nat.zero_le _⟩ rfl (fun H locs hs => ?_)
      refine lv_icmp_le (tgt := 27) hx hb (dk hX5_shortest_0 13 rfl) (by decide) (fun hc => ?_) (fun hc => ?_)
      · replace hf := ip hf hc
        refine lv_iload_n hx hb (dk hX5_shortest_0 16 rfl) rfl (lv_at hl 1 rfl) ?_
        refine lv_istore_n (lv' := [(1, .int x1), (0, .ref (ad 0)), (2, .int x2)]) hx hb (dk hX5_shortest_0 17 rfl) rfl hl (by decide) rfl (fun ls hl => ?_)
        refine lv_iinc (v := (x2 + (1 : Int32))) (lv' := [(2, .int (x2 + (1 : Int32))), (1, .int x1), (0, .ref (ad 0))]) hx hb (dk hX5_shortest_0 18 rfl) hl (k := 2) rfl (by first | rfl | decide) (by decide) rfl (fun ls hl => ?_)
        refine lv_goto (tgt := 4) hx hb (dk hX5_shortest_0 19 rfl) (by decide) ?_
        exact ih _ _ hf _ _ hs _ (lv_sub hl [2, 1, 0] rfl) hk
      · replace hf := in_ hf hc
        refine lv_iload_n hx hb (dk hX5_shortest_0 14 rfl) rfl (lv_at hl 2 rfl) ?_
        refine lv_goto (tgt := 28) hx hb (dk hX5_shortest_0 15 rfl) (by decide) ?_
        refine lv_istore_n (lv' := [(1, .int x2), (0, .ref (ad 0)), (2, .int x2)]) hx hb (dk hX5_shortest_0 17 rfl) rfl hl (by decide) rfl (fun ls hl => ?_)
        refine lv_iinc (v := (x2 + (1 : Int32))) (lv' := [(2, .int (x2 + (1 : Int32))), (1, .int x2), (0, .ref (ad 0))]) hx hb (dk hX5_shortest_0 18 rfl) hl (k := 2) rfl (by first | rfl | decide) (by decide) rfl (fun ls hl => ?_)
        refine lv_goto (tgt := 4) hx hb (dk hX5_shortest_0 19 rfl) (by decide) ?_
        exact ih _ _ hf _ _ hs _ (lv_sub hl [2, 1, 0] rfl) hk
set_option maxRecDepth 100000 in
set_option maxHeartbeats 4000000 in
theorem c_X5_shortest {l : Launch} {G : Gx} {ad : Nat → Nat} {refused there used hidden kind figure good load inn tape letter letterAt told kept row costs : List Int32} {ships coughs day away taped reading statements hasImage isKeeping cursor backs free goodFor loadedWhen bareGood bareWhen rowMany lots : Int32}  {out : Int32} (hf : X5_shortest there used free = some out) : Ct l G yX5_shortest cX5_shortest 3 (some .int) 1 21 [.ref (ad 0)] (wM G ad refused there used hidden kind figure good load inn tape letter letterAt told kept row costs ships coughs day away taped reading statements hasImage isKeeping cursor backs free goodFor loadedWhen bareGood bareWhen rowMany lots) (some (.int out)) (wM G ad refused there used hidden kind figure good load inn tape letter letterAt told kept row costs ships coughs day away taped reading statements hasImage isKeeping cursor backs free goodFor loadedWhen bareGood bareWhen rowMany lots) := by
  refine Ct.intro RX5 rfl (plainFor_of_name (by decide)) (Nat.le_of_ble_eq_true rfl) rfl ?_
  intro p e s m args below meth c A C H locs hs ls hl
  obtain ⟨hx, hb, hml, hown, hts, hK, hret, hlk⟩ := id C
  have hl : lv_has ls 3 [(0, .ref (ad 0))] := hl
  unfold X5_shortest at hf
  refine lv_iconst (v := (0 : Int32)) hx hb (dk hX5_shortest_0 0 rfl) (by decide) ?_
  refine lv_istore_n (lv' := [(1, .int (0 : Int32)), (0, .ref (ad 0))]) hx hb (dk hX5_shortest_0 1 rfl) rfl hl (by decide) rfl (fun ls hl => ?_)
  refine lv_iconst (v := (1 : Int32)) hx hb (dk hX5_shortest_0 2 rfl) (by decide) ?_
  refine lv_istore_n (lv' := [(2, .int (1 : Int32)), (1, .int (0 : Int32)), (0, .ref (ad 0))]) hx hb (dk hX5_shortest_0 3 rfl) rfl hl (by decide) rfl (fun ls hl => ?_)
  refine l_X5_shortest_L4 C 1000 _ _ hf _ _ hs _ (lv_sub hl [2, 1, 0] rfl) (fun y1_5 hf H locs hs ls hl => ?_)
  refine lv_iload_n hx hb (dk hX5_shortest_0 20 rfl) rfl (lv_at hl 0 rfl) ?_
  cases hf
  exact ri C hs (dk hX5_shortest_0 21 rfl)

def X5_plentiful_L4 (k : Int32 → Option (Int32)) (there : List Int32) (used : List Int32) : Nat → Int32 → Int32 → Option (Int32)
  | 0, _, _ => none
  | n + 1, x1, x2 =>
  if (6 : Int32) ≤ x2 then
  k x1
  else
  (rd there x2).bind fun v_1 =>
  (rd used x2).bind fun v_3 =>
  if v_1 ≤ ((7 : Int32) * v_3) then
  X5_plentiful_L4 k there used n (x1 ||| (0 : Int32)) (x2 + (1 : Int32))
  else
  X5_plentiful_L4 k there used n (x1 ||| ((1 : Int32) <<< (x2 &&& 31))) (x2 + (1 : Int32))
def X5_plentiful (there : List Int32) (used : List Int32) : Option (Int32) :=
  X5_plentiful_L4 (fun y1_5 =>
  some y1_5) there used 1000 (0 : Int32) (0 : Int32)
set_option maxRecDepth 100000 in
set_option maxHeartbeats 4000000 in
theorem l_X5_plentiful_L4 {l : Launch} {p : Program} {e : Env} {s : State} {m : MethodId} {args : Array Value} {below : List Frame} {meth : Method} {c : Code} {A : Nat → Prop} {G : Gx} {ad : Nat → Nat} {refused there used hidden kind figure good load inn tape letter letterAt told kept row costs : List Int32} {ships coughs day away taped reading statements hasImage isKeeping cursor backs free goodFor loadedWhen bareGood bareWhen rowMany lots : Int32} {k : Int32 → Option (Int32)} {out : Int32} (C : Cx p s m args meth c cX5_plentiful RX5 3 (some .int) G) : ∀ (n : Nat) (x1 : Int32) (x2 : Int32), X5_plentiful_L4 k there used n x1 x2 = some out → ∀ (H : Heap) (locs : List Loc), St G A s.heap H locs (wM G ad refused there used hidden kind figure good load inn tape letter letterAt told kept row costs ships coughs day away taped reading statements hasImage isKeeping cursor backs free goodFor loadedWhen bareGood bareWhen rowMany lots) → ∀ ls : Array Slot, lv_has ls 3 [(0, .ref (ad 0)), (1, .int x1), (2, .int x2)] → (∀ (y1 : Int32), k y1 = some out → ∀ (H : Heap) (locs : List Loc), St G A s.heap H locs (wM G ad refused there used hidden kind figure good load inn tape letter letterAt told kept row costs ships coughs day away taped reading statements hasImage isKeeping cursor backs free goodFor loadedWhen bareGood bareWhen rowMany lots) → ∀ ls : Array Slot, lv_has ls 3 [(1, .int y1)] → W p l e (rmOf 0 0) s m args below meth c H locs 0 0 (MQ below (Qof G A (some (.int out)) (wM G ad refused there used hidden kind figure good load inn tape letter letterAt told kept row costs ships coughs day away taped reading statements hasImage isKeeping cursor backs free goodFor loadedWhen bareGood bareWhen rowMany lots)) args s 0 0 A) (F0 m 44 ls [])) → W p l e (rmOf 0 0) s m args below meth c H locs 0 0 (MQ below (Qof G A (some (.int out)) (wM G ad refused there used hidden kind figure good load inn tape letter letterAt told kept row costs ships coughs day away taped reading statements hasImage isKeeping cursor backs free goodFor loadedWhen bareGood bareWhen rowMany lots)) args s 0 0 A) (F0 m 4 ls []) := by
  obtain ⟨hx, hb, hml, hown, hts, hK, hret, hlk⟩ := id C
  intro n
  induction n with
  | zero => intro x1 x2 hf; cases hf
  | succ n ih =>
    intro x1 x2 hf H locs hs ls hl hk
    rw [X5_plentiful_L4] at hf
    refine lv_iload_n hx hb (dk hX5_plentiful_0 4 rfl) rfl (lv_at hl 2 rfl) ?_
    refine lv_bipush (v := (6 : Int32)) hx hb (dk hX5_plentiful_0 5 rfl) (by decide) ?_
    refine lv_icmp_ge (tgt := 44) hx hb (dk hX5_plentiful_0 6 rfl) (by decide) (fun hc => ?_) (fun hc => ?_)
    · replace hf := ip hf hc
      exact hk _ hf _ _ hs _ (lv_sub hl [1] rfl)
    · replace hf := in_ hf hc
      refine lv_iload_n hx hb (dk hX5_plentiful_0 7 rfl) rfl (lv_at hl 1 rfl) ?_
      refine lv_aload_n hx hb (dk hX5_plentiful_0 8 rfl) rfl (lv_at hl 0 rfl) ?_
      refine rg ui5 rfl C hs 0 rfl 1 (by decide) tw_691 rfl rfl (dk hX5_plentiful_0 9 rfl) ?_
      refine lv_iload_n hx hb (dk hX5_plentiful_0 10 rfl) rfl (lv_at hl 2 rfl) ?_
      obtain ⟨v_1, e_2, hf⟩ := Option.bind_eq_some_iff.mp hf
      refine rild C hs 2 rfl e_2 (dk hX5_plentiful_0 11 rfl) ?_
      refine lv_bipush (v := (7 : Int32)) hx hb (dk hX5_plentiful_0 12 rfl) (by decide) ?_
      refine lv_aload_n hx hb (dk hX5_plentiful_0 13 rfl) rfl (lv_at hl 0 rfl) ?_
      refine rg ui5 rfl C hs 0 rfl 2 (by decide) tw_692 rfl rfl (dk hX5_plentiful_0 14 rfl) ?_
      refine lv_iload_n hx hb (dk hX5_plentiful_0 15 rfl) rfl (lv_at hl 2 rfl) ?_
      obtain ⟨v_3, e_4, hf⟩ := Option.bind_eq_some_iff.mp hf
      refine rild C hs 3 rfl e_4 (dk hX5_plentiful_0 16 rfl) ?_
      refine lv_imul hx hb (dk hX5_plentiful_0 17 rfl) ?_
      refine lv_icmp_le (tgt := 35) hx hb (dk hX5_plentiful_0 18 rfl) (by decide) (fun hc => ?_) (fun hc => ?_)
      · replace hf := ip hf hc
        refine lv_iconst (v := (0 : Int32)) hx hb (dk hX5_plentiful_0 23 rfl) (by decide) ?_
        refine lv_ior hx hb (dk hX5_plentiful_0 24 rfl) ?_
        refine lv_istore_n (lv' := [(1, .int (x1 ||| (0 : Int32))), (0, .ref (ad 0)), (2, .int x2)]) hx hb (dk hX5_plentiful_0 25 rfl) rfl hl (by decide) rfl (fun ls hl => ?_)
        refine lv_iinc (v := (x2 + (1 : Int32))) (lv' := [(2, .int (x2 + (1 : Int32))), (1, .int (x1 ||| (0 : Int32))), (0, .ref (ad 0))]) hx hb (dk hX5_plentiful_0 26 rfl) hl (k := 2) rfl (by first | rfl | decide) (by decide) rfl (fun ls hl => ?_)
        refine lv_goto (tgt := 4) hx hb (dk hX5_plentiful_0 27 rfl) (by decide) ?_
        exact ih _ _ hf _ _ hs _ (lv_sub hl [2, 1, 0] rfl) hk
      · replace hf := in_ hf hc
        refine lv_iconst (v := (1 : Int32)) hx hb (dk hX5_plentiful_0 19 rfl) (by decide) ?_
        refine lv_iload_n hx hb (dk hX5_plentiful_0 20 rfl) rfl (lv_at hl 2 rfl) ?_
        refine lv_ishl hx hb (dk hX5_plentiful_0 21 rfl) ?_
        refine lv_goto (tgt := 36) hx hb (dk hX5_plentiful_0 22 rfl) (by decide) ?_
        refine lv_ior hx hb (dk hX5_plentiful_0 24 rfl) ?_
        refine lv_istore_n (lv' := [(1, .int (x1 ||| ((1 : Int32) <<< (x2 &&& 31)))), (0, .ref (ad 0)), (2, .int x2)]) hx hb (dk hX5_plentiful_0 25 rfl) rfl hl (by decide) rfl (fun ls hl => ?_)
        refine lv_iinc (v := (x2 + (1 : Int32))) (lv' := [(2, .int (x2 + (1 : Int32))), (1, .int (x1 ||| ((1 : Int32) <<< (x2 &&& 31)))), (0, .ref (ad 0))]) hx hb (dk hX5_plentiful_0 26 rfl) hl (k := 2) rfl (by first | rfl | decide) (by decide) rfl (fun ls hl => ?_)
        refine lv_goto (tgt := 4) hx hb (dk hX5_plentiful_0 27 rfl) (by decide) ?_
        exact ih _ _ hf _ _ hs _ (lv_sub hl [2, 1, 0] rfl) hk
set_option maxRecDepth 100000 in
set_option maxHeartbeats 4000000 in
theorem c_X5_plentiful {l : Launch} {G : Gx} {ad : Nat → Nat} {refused there used hidden kind figure good load inn tape letter letterAt told kept row costs : List Int32} {ships coughs day away taped reading statements hasImage isKeeping cursor backs free goodFor loadedWhen bareGood bareWhen rowMany lots : Int32}  {out : Int32} (hf : X5_plentiful there used = some out) : Ct l G yX5_plentiful cX5_plentiful 3 (some .int) 0 0 [.ref (ad 0)] (wM G ad refused there used hidden kind figure good load inn tape letter letterAt told kept row costs ships coughs day away taped reading statements hasImage isKeeping cursor backs free goodFor loadedWhen bareGood bareWhen rowMany lots) (some (.int out)) (wM G ad refused there used hidden kind figure good load inn tape letter letterAt told kept row costs ships coughs day away taped reading statements hasImage isKeeping cursor backs free goodFor loadedWhen bareGood bareWhen rowMany lots) := by
  refine Ct.intro RX5 rfl (plainFor_of_name (by decide)) (Nat.le_of_ble_eq_true rfl) rfl ?_
  intro p e s m args below meth c A C H locs hs ls hl
  obtain ⟨hx, hb, hml, hown, hts, hK, hret, hlk⟩ := id C
  have hl : lv_has ls 3 [(0, .ref (ad 0))] := hl
  unfold X5_plentiful at hf
  refine lv_iconst (v := (0 : Int32)) hx hb (dk hX5_plentiful_0 0 rfl) (by decide) ?_
  refine lv_istore_n (lv' := [(1, .int (0 : Int32)), (0, .ref (ad 0))]) hx hb (dk hX5_plentiful_0 1 rfl) rfl hl (by decide) rfl (fun ls hl => ?_)
  refine lv_iconst (v := (0 : Int32)) hx hb (dk hX5_plentiful_0 2 rfl) (by decide) ?_
  refine lv_istore_n (lv' := [(2, .int (0 : Int32)), (1, .int (0 : Int32)), (0, .ref (ad 0))]) hx hb (dk hX5_plentiful_0 3 rfl) rfl hl (by decide) rfl (fun ls hl => ?_)
  refine l_X5_plentiful_L4 C 1000 _ _ hf _ _ hs _ (lv_sub hl [2, 1, 0] rfl) (fun y1_5 hf H locs hs ls hl => ?_)
  refine lv_iload_n hx hb (dk hX5_plentiful_0 28 rfl) rfl (lv_at hl 0 rfl) ?_
  cases hf
  exact ri C hs (dk hX5_plentiful_0 29 rfl)

def X5_twins_L16 (k : Int32 → Option (Int32)) (good : List Int32) (ships : Int32) (x2 : Int32) : Nat → Int32 → Int32 → Option (Int32)
  | 0, _, _ => none
  | n + 1, x1, x3 =>
  if ships ≤ x3 then
  k x1
  else
  (rd good x2).bind fun v_1 =>
  (rd good x3).bind fun v_3 =>
  if v_1 = v_3 then
  X5_twins_L16 k good ships x2 n (x1 + (1 : Int32)) (x3 + (1 : Int32))
  else
  X5_twins_L16 k good ships x2 n (x1 + (0 : Int32)) (x3 + (1 : Int32))
def X5_twins_L4 (k : Int32 → Option (Int32)) (good : List Int32) (ships : Int32) : Nat → Int32 → Int32 → Option (Int32)
  | 0, _, _ => none
  | n + 1, x1, x2 =>
  if ships ≤ x2 then
  k x1
  else
  X5_twins_L16 (fun y1_5 =>
  X5_twins_L4 k good ships n y1_5 (x2 + (1 : Int32))) good ships x2 1000 x1 (x2 + (1 : Int32))
def X5_twins (good : List Int32) (ships : Int32) : Option (Int32) :=
  X5_twins_L4 (fun y1_6 =>
  some y1_6) good ships 1000 (0 : Int32) (0 : Int32)
set_option maxRecDepth 100000 in
set_option maxHeartbeats 4000000 in
theorem l_X5_twins_L16 {l : Launch} {p : Program} {e : Env} {s : State} {m : MethodId} {args : Array Value} {below : List Frame} {meth : Method} {c : Code} {A : Nat → Prop} {G : Gx} {ad : Nat → Nat} {refused there used hidden kind figure good load inn tape letter letterAt told kept row costs : List Int32} {ships coughs day away taped reading statements hasImage isKeeping cursor backs free goodFor loadedWhen bareGood bareWhen rowMany lots : Int32} {x2 : Int32} {k : Int32 → Option (Int32)} {out : Int32} (C : Cx p s m args meth c cX5_twins RX5 4 (some .int) G) : ∀ (n : Nat) (x1 : Int32) (x3 : Int32), X5_twins_L16 k good ships x2 n x1 x3 = some out → ∀ (H : Heap) (locs : List Loc), St G A s.heap H locs (wM G ad refused there used hidden kind figure good load inn tape letter letterAt told kept row costs ships coughs day away taped reading statements hasImage isKeeping cursor backs free goodFor loadedWhen bareGood bareWhen rowMany lots) → ∀ ls : Array Slot, lv_has ls 4 [(0, .ref (ad 0)), (1, .int x1), (2, .int x2), (3, .int x3)] → (∀ (y1 : Int32), k y1 = some out → ∀ (H : Heap) (locs : List Loc), St G A s.heap H locs (wM G ad refused there used hidden kind figure good load inn tape letter letterAt told kept row costs ships coughs day away taped reading statements hasImage isKeeping cursor backs free goodFor loadedWhen bareGood bareWhen rowMany lots) → ∀ ls : Array Slot, lv_has ls 4 [(0, .ref (ad 0)), (1, .int y1), (2, .int x2)] → W p l e (rmOf 0 0) s m args below meth c H locs 0 0 (MQ below (Qof G A (some (.int out)) (wM G ad refused there used hidden kind figure good load inn tape letter letterAt told kept row costs ships coughs day away taped reading statements hasImage isKeeping cursor backs free goodFor loadedWhen bareGood bareWhen rowMany lots)) args s 0 0 A) (F0 m 53 ls [])) → W p l e (rmOf 0 0) s m args below meth c H locs 0 0 (MQ below (Qof G A (some (.int out)) (wM G ad refused there used hidden kind figure good load inn tape letter letterAt told kept row costs ships coughs day away taped reading statements hasImage isKeeping cursor backs free goodFor loadedWhen bareGood bareWhen rowMany lots)) args s 0 0 A) (F0 m 16 ls []) := by
  obtain ⟨hx, hb, hml, hown, hts, hK, hret, hlk⟩ := id C
  intro n
  induction n with
  | zero => intro x1 x3 hf; cases hf
  | succ n ih =>
    intro x1 x3 hf H locs hs ls hl hk
    rw [X5_twins_L16] at hf
    refine lv_iload_n hx hb (dk hX5_twins_0 12 rfl) rfl (lv_at hl 3 rfl) ?_
    refine lv_aload_n hx hb (dk hX5_twins_0 13 rfl) rfl (lv_at hl 0 rfl) ?_
    refine rg ui5 rfl C hs 0 rfl 9 (by decide) tw_699 rfl rfl (dk hX5_twins_0 14 rfl) ?_
    refine lv_icmp_ge (tgt := 53) hx hb (dk hX5_twins_0 15 rfl) (by decide) (fun hc => ?_) (fun hc => ?_)
    · replace hf := ip hf hc
      exact hk _ hf _ _ hs _ (lv_sub hl [0, 1, 2] rfl)
    · replace hf := in_ hf hc
      refine lv_iload_n hx hb (dk hX5_twins_0 16 rfl) rfl (lv_at hl 1 rfl) ?_
      refine lv_aload_n hx hb (dk hX5_twins_0 17 rfl) rfl (lv_at hl 0 rfl) ?_
      refine rg ui5 rfl C hs 0 rfl 6 (by decide) tw_696 rfl rfl (dk hX5_twins_0 18 rfl) ?_
      refine lv_iload_n hx hb (dk hX5_twins_0 19 rfl) rfl (lv_at hl 2 rfl) ?_
      obtain ⟨v_1, e_2, hf⟩ := Option.bind_eq_some_iff.mp hf
      refine rild C hs 7 rfl e_2 (dk hX5_twins_0 20 rfl) ?_
      refine lv_aload_n hx hb (dk hX5_twins_0 21 rfl) rfl (lv_at hl 0 rfl) ?_
      refine rg ui5 rfl C hs 0 rfl 6 (by decide) tw_696 rfl rfl (dk hX5_twins_0 22 rfl) ?_
      refine lv_iload_n hx hb (dk hX5_twins_0 23 rfl) rfl (lv_at hl 3 rfl) ?_
      obtain ⟨v_3, e_4, hf⟩ := Option.bind_eq_some_iff.mp hf
      refine rild C hs 7 rfl e_4 (dk hX5_twins_0 24 rfl) ?_
      refine lv_icmp_ne (tgt := 44) hx hb (dk hX5_twins_0 25 rfl) (by decide) (fun hc => ?_) (fun hc => ?_)
      · replace hf := in_ hf hc
        refine lv_iconst (v := (0 : Int32)) hx hb (dk hX5_twins_0 28 rfl) (by decide) ?_
        refine lv_iadd hx hb (dk hX5_twins_0 29 rfl) ?_
        refine lv_istore_n (lv' := [(1, .int (x1 + (0 : Int32))), (0, .ref (ad 0)), (2, .int x2), (3, .int x3)]) hx hb (dk hX5_twins_0 30 rfl) rfl hl (by decide) rfl (fun ls hl => ?_)
        refine lv_iinc (v := (x3 + (1 : Int32))) (lv' := [(3, .int (x3 + (1 : Int32))), (1, .int (x1 + (0 : Int32))), (0, .ref (ad 0)), (2, .int x2)]) hx hb (dk hX5_twins_0 31 rfl) hl (k := 3) rfl (by first | rfl | decide) (by decide) rfl (fun ls hl => ?_)
        refine lv_goto (tgt := 16) hx hb (dk hX5_twins_0 32 rfl) (by decide) ?_
        exact ih _ _ hf _ _ hs _ (lv_sub hl [2, 1, 3, 0] rfl) hk
      · replace hf := ip hf hc
        refine lv_iconst (v := (1 : Int32)) hx hb (dk hX5_twins_0 26 rfl) (by decide) ?_
        refine lv_goto (tgt := 45) hx hb (dk hX5_twins_0 27 rfl) (by decide) ?_
        refine lv_iadd hx hb (dk hX5_twins_0 29 rfl) ?_
        refine lv_istore_n (lv' := [(1, .int (x1 + (1 : Int32))), (0, .ref (ad 0)), (2, .int x2), (3, .int x3)]) hx hb (dk hX5_twins_0 30 rfl) rfl hl (by decide) rfl (fun ls hl => ?_)
        refine lv_iinc (v := (x3 + (1 : Int32))) (lv' := [(3, .int (x3 + (1 : Int32))), (1, .int (x1 + (1 : Int32))), (0, .ref (ad 0)), (2, .int x2)]) hx hb (dk hX5_twins_0 31 rfl) hl (k := 3) rfl (by first | rfl | decide) (by decide) rfl (fun ls hl => ?_)
        refine lv_goto (tgt := 16) hx hb (dk hX5_twins_0 32 rfl) (by decide) ?_
        exact ih _ _ hf _ _ hs _ (lv_sub hl [2, 1, 3, 0] rfl) hk
set_option maxRecDepth 100000 in
set_option maxHeartbeats 4000000 in
theorem l_X5_twins_L4 {l : Launch} {p : Program} {e : Env} {s : State} {m : MethodId} {args : Array Value} {below : List Frame} {meth : Method} {c : Code} {A : Nat → Prop} {G : Gx} {ad : Nat → Nat} {refused there used hidden kind figure good load inn tape letter letterAt told kept row costs : List Int32} {ships coughs day away taped reading statements hasImage isKeeping cursor backs free goodFor loadedWhen bareGood bareWhen rowMany lots : Int32} {k : Int32 → Option (Int32)} {out : Int32} (C : Cx p s m args meth c cX5_twins RX5 4 (some .int) G) : ∀ (n : Nat) (x1 : Int32) (x2 : Int32), X5_twins_L4 k good ships n x1 x2 = some out → ∀ (H : Heap) (locs : List Loc), St G A s.heap H locs (wM G ad refused there used hidden kind figure good load inn tape letter letterAt told kept row costs ships coughs day away taped reading statements hasImage isKeeping cursor backs free goodFor loadedWhen bareGood bareWhen rowMany lots) → ∀ ls : Array Slot, lv_has ls 4 [(0, .ref (ad 0)), (1, .int x1), (2, .int x2)] → (∀ (y1 : Int32), k y1 = some out → ∀ (H : Heap) (locs : List Loc), St G A s.heap H locs (wM G ad refused there used hidden kind figure good load inn tape letter letterAt told kept row costs ships coughs day away taped reading statements hasImage isKeeping cursor backs free goodFor loadedWhen bareGood bareWhen rowMany lots) → ∀ ls : Array Slot, lv_has ls 4 [(1, .int y1)] → W p l e (rmOf 0 0) s m args below meth c H locs 0 0 (MQ below (Qof G A (some (.int out)) (wM G ad refused there used hidden kind figure good load inn tape letter letterAt told kept row costs ships coughs day away taped reading statements hasImage isKeeping cursor backs free goodFor loadedWhen bareGood bareWhen rowMany lots)) args s 0 0 A) (F0 m 59 ls [])) → W p l e (rmOf 0 0) s m args below meth c H locs 0 0 (MQ below (Qof G A (some (.int out)) (wM G ad refused there used hidden kind figure good load inn tape letter letterAt told kept row costs ships coughs day away taped reading statements hasImage isKeeping cursor backs free goodFor loadedWhen bareGood bareWhen rowMany lots)) args s 0 0 A) (F0 m 4 ls []) := by
  obtain ⟨hx, hb, hml, hown, hts, hK, hret, hlk⟩ := id C
  intro n
  induction n with
  | zero => intro x1 x2 hf; cases hf
  | succ n ih =>
    intro x1 x2 hf H locs hs ls hl hk
    rw [X5_twins_L4] at hf
    refine lv_iload_n hx hb (dk hX5_twins_0 4 rfl) rfl (lv_at hl 2 rfl) ?_
    refine lv_aload_n hx hb (dk hX5_twins_0 5 rfl) rfl (lv_at hl 0 rfl) ?_
    refine rg ui5 rfl C hs 0 rfl 9 (by decide) tw_699 rfl rfl (dk hX5_twins_0 6 rfl) ?_
    refine lv_icmp_ge (tgt := 59) hx hb (dk hX5_twins_0 7 rfl) (by decide) (fun hc => ?_) (fun hc => ?_)
    · replace hf := ip hf hc
      exact hk _ hf _ _ hs _ (lv_sub hl [1] rfl)
    · replace hf := in_ hf hc
      refine lv_iload_n hx hb (dk hX5_twins_0 8 rfl) rfl (lv_at hl 2 rfl) ?_
      refine lv_iconst (v := (1 : Int32)) hx hb (dk hX5_twins_0 9 rfl) (by decide) ?_
      refine lv_iadd hx hb (dk hX5_twins_0 10 rfl) ?_
      refine lv_istore_n (lv' := [(3, .int (x2 + (1 : Int32))), (0, .ref (ad 0)), (1, .int x1), (2, .int x2)]) hx hb (dk hX5_twins_0 11 rfl) rfl hl (by decide) rfl (fun ls hl => ?_)
      refine l_X5_twins_L16 C 1000 _ _ hf _ _ hs _ (lv_sub hl [1, 2, 3, 0] rfl) (fun y1_5 hf H locs hs ls hl => ?_)
      refine lv_iinc (v := (x2 + (1 : Int32))) (lv' := [(2, .int (x2 + (1 : Int32))), (0, .ref (ad 0)), (1, .int y1_5)]) hx hb (dk hX5_twins_0 33 rfl) hl (k := 2) rfl (by first | rfl | decide) (by decide) rfl (fun ls hl => ?_)
      refine lv_goto (tgt := 4) hx hb (dk hX5_twins_0 34 rfl) (by decide) ?_
      exact ih _ _ hf _ _ hs _ (lv_sub hl [1, 2, 0] rfl) hk
set_option maxRecDepth 100000 in
set_option maxHeartbeats 4000000 in
theorem c_X5_twins {l : Launch} {G : Gx} {ad : Nat → Nat} {refused there used hidden kind figure good load inn tape letter letterAt told kept row costs : List Int32} {ships coughs day away taped reading statements hasImage isKeeping cursor backs free goodFor loadedWhen bareGood bareWhen rowMany lots : Int32}  {out : Int32} (hf : X5_twins good ships = some out) : Ct l G yX5_twins cX5_twins 4 (some .int) 0 0 [.ref (ad 0)] (wM G ad refused there used hidden kind figure good load inn tape letter letterAt told kept row costs ships coughs day away taped reading statements hasImage isKeeping cursor backs free goodFor loadedWhen bareGood bareWhen rowMany lots) (some (.int out)) (wM G ad refused there used hidden kind figure good load inn tape letter letterAt told kept row costs ships coughs day away taped reading statements hasImage isKeeping cursor backs free goodFor loadedWhen bareGood bareWhen rowMany lots) := by
  refine Ct.intro RX5 rfl (plainFor_of_name (by decide)) (Nat.le_of_ble_eq_true rfl) rfl ?_
  intro p e s m args below meth c A C H locs hs ls hl
  obtain ⟨hx, hb, hml, hown, hts, hK, hret, hlk⟩ := id C
  have hl : lv_has ls 4 [(0, .ref (ad 0))] := hl
  unfold X5_twins at hf
  refine lv_iconst (v := (0 : Int32)) hx hb (dk hX5_twins_0 0 rfl) (by decide) ?_
  refine lv_istore_n (lv' := [(1, .int (0 : Int32)), (0, .ref (ad 0))]) hx hb (dk hX5_twins_0 1 rfl) rfl hl (by decide) rfl (fun ls hl => ?_)
  refine lv_iconst (v := (0 : Int32)) hx hb (dk hX5_twins_0 2 rfl) (by decide) ?_
  refine lv_istore_n (lv' := [(2, .int (0 : Int32)), (1, .int (0 : Int32)), (0, .ref (ad 0))]) hx hb (dk hX5_twins_0 3 rfl) rfl hl (by decide) rfl (fun ls hl => ?_)
  refine l_X5_twins_L4 C 1000 _ _ hf _ _ hs _ (lv_sub hl [2, 1, 0] rfl) (fun y1_6 hf H locs hs ls hl => ?_)
  refine lv_iload_n hx hb (dk hX5_twins_0 35 rfl) rfl (lv_at hl 0 rfl) ?_
  cases hf
  exact ri C hs (dk hX5_twins_0 36 rfl)

def X5_deepest (refused : List Int32) (there : List Int32) (used : List Int32) (kind : List Int32) (figure : List Int32) (good : List Int32) (ships : Int32) (free : Int32) (p0 : Int32) : Option (List Int32 × Int32) :=
  if p0 = (0 : Int32) then
  (X5_deepestOne kind figure ships).bind fun u_1 =>
  some (refused, u_1)
  else
  if p0 = (1 : Int32) then
  (X5_shortest there used free).bind fun u_4 =>
  some (refused, u_4)
  else
  if p0 = (2 : Int32) then
  (X5_shortest there used free).bind fun u_7 =>
  (X5_lack there used free u_7).bind fun u_9 =>
  some (refused, u_9)
  else
  if p0 = (3 : Int32) then
  (X5_plentiful there used).bind fun u_12 =>
  some (refused, u_12)
  else
  if p0 = (4 : Int32) then
  (X5_twins good ships).bind fun u_15 =>
  some (refused, u_15)
  else
  (X5_no refused (-2 : Int32)).bind fun u_18 =>
  some (u_18.1, u_18.2)
set_option maxRecDepth 100000 in
set_option maxHeartbeats 4000000 in
theorem c_X5_deepest {l : Launch} {G : Gx} {ad : Nat → Nat} {refused there used hidden kind figure good load inn tape letter letterAt told kept row costs : List Int32} {ships coughs day away taped reading statements hasImage isKeeping cursor backs free goodFor loadedWhen bareGood bareWhen rowMany lots : Int32} {p0 : Int32} {out : List Int32 × Int32} (hf : X5_deepest refused there used kind figure good ships free p0 = some out) : Ct l G yX5_deepest cX5_deepest 2 (some .int) 2 43 [.ref (ad 0), .int p0] (wM G ad refused there used hidden kind figure good load inn tape letter letterAt told kept row costs ships coughs day away taped reading statements hasImage isKeeping cursor backs free goodFor loadedWhen bareGood bareWhen rowMany lots) (some (.int out.2)) (wM G ad out.1 there used hidden kind figure good load inn tape letter letterAt told kept row costs ships coughs day away taped reading statements hasImage isKeeping cursor backs free goodFor loadedWhen bareGood bareWhen rowMany lots) := by
  refine Ct.intro RX5 rfl (plainFor_of_name (by decide)) (Nat.le_of_ble_eq_true rfl) rfl ?_
  intro p e s m args below meth c A C H locs hs ls hl
  obtain ⟨hx, hb, hml, hown, hts, hK, hret, hlk⟩ := id C
  have hl : lv_has ls 2 [(0, .ref (ad 0)), (1, .int p0)] := hl
  unfold X5_deepest at hf
  refine lv_iload_n hx hb (dk hX5_deepest_0 0 rfl) rfl (lv_at hl 1 rfl) ?_
  by_cases hc_3 : p0 = (0 : Int32)
  · replace hf := ip hf hc_3
    refine rts (tgt := 36) (off := 35) hx hb (dk hX5_deepest_0 1 rfl) hc_3 (by decide) (by decide) (by decide) (by decide) ?_
    refine lv_aload_n hx hb (dk hX5_deepest_0 2 rfl) rfl (lv_at hl 0 rfl) ?_
    obtain ⟨u_1, e_2, hf⟩ := Option.bind_eq_some_iff.mp hf
    refine Ct.V (As := []) (rest := []) (st1 := [.int u_1]) (w1 := (wM G ad refused there used hidden kind figure good load inn tape letter letterAt told kept row costs ships coughs day away taped reading statements hasImage isKeeping cursor backs free goodFor loadedWhen bareGood bareWhen rowMany lots)) C hs (c_X5_deepestOne e_2) tw_1152 tw_1154 tw_72 tw_85 tw_1155 nq_X5_deepestOne (by decide) 0 5 rfl rfl rfl rfl hl.1 rfl (Nat.le_of_ble_eq_true rfl) (dk hX5_deepest_0 3 rfl) ⟨Nat.zero_le _, Nat.zero_le _⟩ rfl (fun H locs hs => ?_)
    cases hf
    exact ri C hs (dk hX5_deepest_0 4 rfl)
  · replace hf := in_ hf hc_3
    by_cases hc_6 : p0 = (1 : Int32)
    · replace hf := ip hf hc_6
      refine rts (tgt := 41) (off := 40) hx hb (dk hX5_deepest_0 1 rfl) hc_6 (by decide) (by decide) (by decide) (by decide) ?_
      refine lv_aload_n hx hb (dk hX5_deepest_0 5 rfl) rfl (lv_at hl 0 rfl) ?_
      obtain ⟨u_4, e_5, hf⟩ := Option.bind_eq_some_iff.mp hf
      refine Ct.V (As := []) (rest := []) (st1 := [.int u_4]) (w1 := (wM G ad refused there used hidden kind figure good load inn tape letter letterAt told kept row costs ships coughs day away taped reading statements hasImage isKeeping cursor backs free goodFor loadedWhen bareGood bareWhen rowMany lots)) C hs (c_X5_shortest e_5) tw_1156 tw_1158 tw_73 tw_85 tw_1159 nq_X5_shortest (by decide) 0 5 rfl rfl rfl rfl hl.1 rfl (Nat.le_of_ble_eq_true rfl) (dk hX5_deepest_0 6 rfl) ⟨Nat.zero_le _, Nat.zero_le _⟩ rfl (fun H locs hs => ?_)
      cases hf
      exact ri C hs (dk hX5_deepest_0 7 rfl)
    · replace hf := in_ hf hc_6
      by_cases hc_11 : p0 = (2 : Int32)
      · replace hf := ip hf hc_11
        refine rts (tgt := 46) (off := 45) hx hb (dk hX5_deepest_0 1 rfl) hc_11 (by decide) (by decide) (by decide) (by decide) ?_
        refine lv_aload_n hx hb (dk hX5_deepest_0 8 rfl) rfl (lv_at hl 0 rfl) ?_
        refine lv_aload_n hx hb (dk hX5_deepest_0 9 rfl) rfl (lv_at hl 0 rfl) ?_
        obtain ⟨u_7, e_8, hf⟩ := Option.bind_eq_some_iff.mp hf
        refine Ct.V (As := []) (rest := [.ref (ad 0)]) (st1 := [.int u_7, .ref (ad 0)]) (w1 := (wM G ad refused there used hidden kind figure good load inn tape letter letterAt told kept row costs ships coughs day away taped reading statements hasImage isKeeping cursor backs free goodFor loadedWhen bareGood bareWhen rowMany lots)) C hs (c_X5_shortest e_8) tw_1156 tw_1158 tw_73 tw_85 tw_1159 nq_X5_shortest (by decide) 0 5 rfl rfl rfl rfl hl.1 rfl (Nat.le_of_ble_eq_true rfl) (dk hX5_deepest_0 10 rfl) ⟨Nat.zero_le _, Nat.zero_le _⟩ rfl (fun H locs hs => ?_)
        obtain ⟨u_9, e_10, hf⟩ := Option.bind_eq_some_iff.mp hf
        refine Ct.V (As := [.int u_7]) (rest := []) (st1 := [.int u_9]) (w1 := (wM G ad refused there used hidden kind figure good load inn tape letter letterAt told kept row costs ships coughs day away taped reading statements hasImage isKeeping cursor backs free goodFor loadedWhen bareGood bareWhen rowMany lots)) C hs (c_X5_lack e_10) tw_888 tw_890 tw_39 tw_85 tw_891 nq_X5_lack (by decide) 0 5 rfl rfl rfl rfl hl.1 rfl (Nat.le_of_ble_eq_true rfl) (dk hX5_deepest_0 11 rfl) ⟨Nat.zero_le _, Nat.zero_le _⟩ rfl (fun H locs hs => ?_)
        cases hf
        exact ri C hs (dk hX5_deepest_0 12 rfl)
      · replace hf := in_ hf hc_11
        by_cases hc_14 : p0 = (3 : Int32)
        · replace hf := ip hf hc_14
          refine rts (tgt := 55) (off := 54) hx hb (dk hX5_deepest_0 1 rfl) hc_14 (by decide) (by decide) (by decide) (by decide) ?_
          refine lv_aload_n hx hb (dk hX5_deepest_0 13 rfl) rfl (lv_at hl 0 rfl) ?_
          obtain ⟨u_12, e_13, hf⟩ := Option.bind_eq_some_iff.mp hf
          refine Ct.V (As := []) (rest := []) (st1 := [.int u_12]) (w1 := (wM G ad refused there used hidden kind figure good load inn tape letter letterAt told kept row costs ships coughs day away taped reading statements hasImage isKeeping cursor backs free goodFor loadedWhen bareGood bareWhen rowMany lots)) C hs (c_X5_plentiful e_13) tw_1160 tw_1162 tw_74 tw_85 tw_1163 nq_X5_plentiful (by decide) 0 5 rfl rfl rfl rfl hl.1 rfl (Nat.le_of_ble_eq_true rfl) (dk hX5_deepest_0 14 rfl) ⟨Nat.zero_le _, Nat.zero_le _⟩ rfl (fun H locs hs => ?_)
          cases hf
          exact ri C hs (dk hX5_deepest_0 15 rfl)
        · replace hf := in_ hf hc_14
          by_cases hc_17 : p0 = (4 : Int32)
          · replace hf := ip hf hc_17
            refine rts (tgt := 60) (off := 59) hx hb (dk hX5_deepest_0 1 rfl) hc_17 (by decide) (by decide) (by decide) (by decide) ?_
            refine lv_aload_n hx hb (dk hX5_deepest_0 16 rfl) rfl (lv_at hl 0 rfl) ?_
            obtain ⟨u_15, e_16, hf⟩ := Option.bind_eq_some_iff.mp hf
            refine Ct.V (As := []) (rest := []) (st1 := [.int u_15]) (w1 := (wM G ad refused there used hidden kind figure good load inn tape letter letterAt told kept row costs ships coughs day away taped reading statements hasImage isKeeping cursor backs free goodFor loadedWhen bareGood bareWhen rowMany lots)) C hs (c_X5_twins e_16) tw_1164 tw_1166 tw_75 tw_85 tw_1167 nq_X5_twins (by decide) 0 5 rfl rfl rfl rfl hl.1 rfl (Nat.le_of_ble_eq_true rfl) (dk hX5_deepest_0 17 rfl) ⟨Nat.zero_le _, Nat.zero_le _⟩ rfl (fun H locs hs => ?_)
            cases hf
            exact ri C hs (dk hX5_deepest_0 18 rfl)
          · replace hf := in_ hf hc_17
            refine rtd (tgt := 65) hx hb (dk hX5_deepest_0 1 rfl) [0, 1, 2, 3, 4] (by decide) (by decide) (List.forall_mem_cons.mpr ⟨ti hc_3 (by decide), List.forall_mem_cons.mpr ⟨ti hc_6 (by decide), List.forall_mem_cons.mpr ⟨ti hc_11 (by decide), List.forall_mem_cons.mpr ⟨ti hc_14 (by decide), List.forall_mem_cons.mpr ⟨ti hc_17 (by decide), fun _ h => absurd h List.not_mem_nil⟩⟩⟩⟩⟩) (by decide) ?_
            refine lv_aload_n hx hb (dk hX5_deepest_0 19 rfl) rfl (lv_at hl 0 rfl) ?_
            refine lv_bipush (v := (-2 : Int32)) hx hb (dk hX5_deepest_0 20 rfl) (by decide) ?_
            obtain ⟨u_18, e_19, hf⟩ := Option.bind_eq_some_iff.mp hf
            refine Ct.V (As := [.int (-2 : Int32)]) (rest := []) (st1 := [.int u_18.2]) (w1 := (wM G ad u_18.1 there used hidden kind figure good load inn tape letter letterAt told kept row costs ships coughs day away taped reading statements hasImage isKeeping cursor backs free goodFor loadedWhen bareGood bareWhen rowMany lots)) C hs (c_X5_no e_19) tw_800 tw_802 tw_21 tw_85 tw_803 nq_X5_no (by decide) 0 5 rfl rfl rfl rfl hl.1 rfl (Nat.le_of_ble_eq_true rfl) (dk hX5_deepest_0 21 rfl) ⟨Nat.zero_le _, Nat.zero_le _⟩ rfl (fun H locs hs => ?_)
            cases hf
            exact ri C hs (dk hX5_deepest_0 22 rfl)

def X5_mean_L21 (k : Int64 → Option (List Int32 × Int64)) (load : List Int32) (ships : Int32) : Nat → Int64 → Int32 → Option (List Int32 × Int64)
  | 0, _, _ => none
  | n + 1, x2, x4 =>
  if ships ≤ x4 then
  k x2
  else
  (rd load x4).bind fun v_3 =>
  X5_mean_L21 k load ships n (x2 + (Int32.toInt64 v_3)) (x4 + (1 : Int32))
def X5_mean (refused : List Int32) (load : List Int32) (ships : Int32) (p0 : Int32) : Option (List Int32 × Int64) :=
  (X5_isIn p0 (0 : Int32) (1 : Int32)).bind fun u_1 =>
  if u_1 = (0 : Int32) then
  (X5_lowestOf refused (-2 : Int32)).bind fun u_8 =>
  some (u_8.1, u_8.2)
  else
  X5_mean_L21 (fun y2_5 =>
  if ships = (0 : Int32) then
  some (refused, (Int32.toInt64 p0))
  else
  (X5_partOf y2_5 (Int32.toInt64 ships) p0).bind fun u_6 =>
  some (refused, u_6)) load ships 1000 (0 : Int64) (0 : Int32)
set_option maxRecDepth 100000 in
set_option maxHeartbeats 4000000 in
theorem l_X5_mean_L21 {l : Launch} {p : Program} {e : Env} {s : State} {m : MethodId} {args : Array Value} {below : List Frame} {meth : Method} {c : Code} {A : Nat → Prop} {G : Gx} {ad : Nat → Nat} {refused there used hidden kind figure good load inn tape letter letterAt told kept row costs : List Int32} {ships coughs day away taped reading statements hasImage isKeeping cursor backs free goodFor loadedWhen bareGood bareWhen rowMany lots : Int32} {x1 : Int32} {k : Int64 → Option (List Int32 × Int64)} {out : List Int32 × Int64} (C : Cx p s m args meth c cX5_mean RX5 5 (some .long) G) : ∀ (n : Nat) (x2 : Int64) (x4 : Int32), X5_mean_L21 k load ships n x2 x4 = some out → ∀ (H : Heap) (locs : List Loc), St G A s.heap H locs (wM G ad refused there used hidden kind figure good load inn tape letter letterAt told kept row costs ships coughs day away taped reading statements hasImage isKeeping cursor backs free goodFor loadedWhen bareGood bareWhen rowMany lots) → ∀ ls : Array Slot, lv_has ls 5 [(0, .ref (ad 0)), (1, .int x1), (2, .long x2), (4, .int x4)] → (∀ (y2 : Int64), k y2 = some out → ∀ (H : Heap) (locs : List Loc), St G A s.heap H locs (wM G ad refused there used hidden kind figure good load inn tape letter letterAt told kept row costs ships coughs day away taped reading statements hasImage isKeeping cursor backs free goodFor loadedWhen bareGood bareWhen rowMany lots) → ∀ ls : Array Slot, lv_has ls 5 [(0, .ref (ad 0)), (1, .int x1), (2, .long y2)] → W p l e (rmOf 2 53) s m args below meth c H locs 0 0 (MQ below (Qof G A (some (.long out.2)) (wM G ad out.1 there used hidden kind figure good load inn tape letter letterAt told kept row costs ships coughs day away taped reading statements hasImage isKeeping cursor backs free goodFor loadedWhen bareGood bareWhen rowMany lots)) args s 0 0 A) (F0 m 47 ls [])) → W p l e (rmOf 2 53) s m args below meth c H locs 0 0 (MQ below (Qof G A (some (.long out.2)) (wM G ad out.1 there used hidden kind figure good load inn tape letter letterAt told kept row costs ships coughs day away taped reading statements hasImage isKeeping cursor backs free goodFor loadedWhen bareGood bareWhen rowMany lots)) args s 0 0 A) (F0 m 21 ls []) := by
  obtain ⟨hx, hb, hml, hown, hts, hK, hret, hlk⟩ := id C
  intro n
  induction n with
  | zero => intro x2 x4 hf; cases hf
  | succ n ih =>
    intro x2 x4 hf H locs hs ls hl hk
    rw [X5_mean_L21] at hf
    refine lv_iload hx hb (dk hX5_mean_0 13 rfl) (lv_at hl 3 rfl) ?_
    refine lv_aload_n hx hb (dk hX5_mean_0 14 rfl) rfl (lv_at hl 0 rfl) ?_
    refine rg ui5 rfl C hs 0 rfl 9 (by decide) tw_699 rfl rfl (dk hX5_mean_0 15 rfl) ?_
    refine lv_icmp_ge (tgt := 47) hx hb (dk hX5_mean_0 16 rfl) (by decide) (fun hc => ?_) (fun hc => ?_)
    · replace hf := ip hf hc
      exact hk _ hf _ _ hs _ (lv_sub hl [0, 1, 2] rfl)
    · replace hf := in_ hf hc
      refine lv_lload_n hx hb (dk hX5_mean_0 17 rfl) rfl (lv_at hl 2 rfl) ?_
      refine lv_aload_n hx hb (dk hX5_mean_0 18 rfl) rfl (lv_at hl 0 rfl) ?_
      refine rg ui5 rfl C hs 0 rfl 7 (by decide) tw_697 rfl rfl (dk hX5_mean_0 19 rfl) ?_
      refine lv_iload hx hb (dk hX5_mean_0 20 rfl) (lv_at hl 3 rfl) ?_
      obtain ⟨v_3, e_4, hf⟩ := Option.bind_eq_some_iff.mp hf
      refine rild C hs 8 rfl e_4 (dk hX5_mean_0 21 rfl) ?_
      refine lv_i2l (v := (Int32.toInt64 v_3)) hx hb (dk hX5_mean_0 22 rfl) rfl ?_
      refine lv_ladd hx hb (dk hX5_mean_0 23 rfl) ?_
      refine lv_lstore_n (lv' := [(2, .long (x2 + (Int32.toInt64 v_3))), (0, .ref (ad 0)), (1, .int x1), (4, .int x4)]) hx hb (dk hX5_mean_0 24 rfl) rfl hl (by decide) rfl (fun ls hl => ?_)
      refine lv_iinc (v := (x4 + (1 : Int32))) (lv' := [(4, .int (x4 + (1 : Int32))), (2, .long (x2 + (Int32.toInt64 v_3))), (0, .ref (ad 0)), (1, .int x1)]) hx hb (dk hX5_mean_0 25 rfl) hl (k := 3) rfl (by first | rfl | decide) (by decide) rfl (fun ls hl => ?_)
      refine lv_goto (tgt := 21) hx hb (dk hX5_mean_0 26 rfl) (by decide) ?_
      exact ih _ _ hf _ _ hs _ (lv_sub hl [2, 3, 1, 0] rfl) hk
set_option maxRecDepth 100000 in
set_option maxHeartbeats 4000000 in
theorem c_X5_mean {l : Launch} {G : Gx} {ad : Nat → Nat} {refused there used hidden kind figure good load inn tape letter letterAt told kept row costs : List Int32} {ships coughs day away taped reading statements hasImage isKeeping cursor backs free goodFor loadedWhen bareGood bareWhen rowMany lots : Int32} {p0 : Int32} {out : List Int32 × Int64} (hf : X5_mean refused load ships p0 = some out) : Ct l G yX5_mean cX5_mean 5 (some .long) 2 53 [.ref (ad 0), .int p0] (wM G ad refused there used hidden kind figure good load inn tape letter letterAt told kept row costs ships coughs day away taped reading statements hasImage isKeeping cursor backs free goodFor loadedWhen bareGood bareWhen rowMany lots) (some (.long out.2)) (wM G ad out.1 there used hidden kind figure good load inn tape letter letterAt told kept row costs ships coughs day away taped reading statements hasImage isKeeping cursor backs free goodFor loadedWhen bareGood bareWhen rowMany lots) := by
  refine Ct.intro RX5 rfl (plainFor_of_name (by decide)) (Nat.le_of_ble_eq_true rfl) rfl ?_
  intro p e s m args below meth c A C H locs hs ls hl
  obtain ⟨hx, hb, hml, hown, hts, hK, hret, hlk⟩ := id C
  have hl : lv_has ls 5 [(0, .ref (ad 0)), (1, .int p0)] := hl
  unfold X5_mean at hf
  refine lv_iload_n hx hb (dk hX5_mean_0 0 rfl) rfl (lv_at hl 1 rfl) ?_
  refine lv_iconst (v := (0 : Int32)) hx hb (dk hX5_mean_0 1 rfl) (by decide) ?_
  refine lv_iconst (v := (1 : Int32)) hx hb (dk hX5_mean_0 2 rfl) (by decide) ?_
  obtain ⟨u_1, e_2, hf⟩ := Option.bind_eq_some_iff.mp hf
  refine Ct.S (As := [.int p0, .int (0 : Int32), .int (1 : Int32)]) (rest := []) (st1 := [.int u_1]) (w1 := (wM G ad refused there used hidden kind figure good load inn tape letter letterAt told kept row costs ships coughs day away taped reading statements hasImage isKeeping cursor backs free goodFor loadedWhen bareGood bareWhen rowMany lots)) C hs (c_X5_isIn e_2) tw_824 tw_825 tw_85 tw_826 nq_X5_isIn (by decide) rfl hl.1 rfl (Nat.le_of_ble_eq_true rfl) (dk hX5_mean_0 3 rfl) ⟨Nat.zero_le _, Nat.zero_le _⟩ rfl (fun H locs hs => ?_)
  refine lv_if_ne (tgt := 16) hx hb (dk hX5_mean_0 4 rfl) (by decide) (fun hc => ?_) (fun hc => ?_)
  · replace hf := in_ hf hc
    refine lv_lconst (v := (0 : Int64)) hx hb (dk hX5_mean_0 9 rfl) (by decide) ?_
    refine lv_lstore_n (lv' := [(2, .long (0 : Int64)), (0, .ref (ad 0)), (1, .int p0)]) hx hb (dk hX5_mean_0 10 rfl) rfl hl (by decide) rfl (fun ls hl => ?_)
    refine lv_iconst (v := (0 : Int32)) hx hb (dk hX5_mean_0 11 rfl) (by decide) ?_
    refine lv_istore (lv' := [(4, .int (0 : Int32)), (2, .long (0 : Int64)), (0, .ref (ad 0)), (1, .int p0)]) hx hb (dk hX5_mean_0 12 rfl) hl (by decide) rfl (fun ls hl => ?_)
    refine l_X5_mean_L21 C 1000 _ _ hf _ _ hs _ (lv_sub hl [2, 3, 1, 0] rfl) (fun y2_5 hf H locs hs ls hl => ?_)
    refine lv_aload_n hx hb (dk hX5_mean_0 27 rfl) rfl (lv_at hl 0 rfl) ?_
    refine rg ui5 rfl C hs 0 rfl 9 (by decide) tw_699 rfl rfl (dk hX5_mean_0 28 rfl) ?_
    refine lv_if_ne (tgt := 59) hx hb (dk hX5_mean_0 29 rfl) (by decide) (fun hc => ?_) (fun hc => ?_)
    · replace hf := in_ hf hc
      refine lv_lload_n hx hb (dk hX5_mean_0 33 rfl) rfl (lv_at hl 2 rfl) ?_
      refine lv_aload_n hx hb (dk hX5_mean_0 34 rfl) rfl (lv_at hl 0 rfl) ?_
      refine rg ui5 rfl C hs 0 rfl 9 (by decide) tw_699 rfl rfl (dk hX5_mean_0 35 rfl) ?_
      refine lv_i2l (v := (Int32.toInt64 ships)) hx hb (dk hX5_mean_0 36 rfl) rfl ?_
      refine lv_iload_n hx hb (dk hX5_mean_0 37 rfl) rfl (lv_at hl 1 rfl) ?_
      obtain ⟨u_6, e_7, hf⟩ := Option.bind_eq_some_iff.mp hf
      refine Ct.S (As := [.long y2_5, .long (Int32.toInt64 ships), .int p0]) (rest := []) (st1 := [.long u_6]) (w1 := (wM G ad refused there used hidden kind figure good load inn tape letter letterAt told kept row costs ships coughs day away taped reading statements hasImage isKeeping cursor backs free goodFor loadedWhen bareGood bareWhen rowMany lots)) C hs (c_X5_partOf e_7) tw_1142 tw_1143 tw_85 tw_1144 nq_X5_partOf (by decide) rfl hl.1 rfl (Nat.le_of_ble_eq_true rfl) (dk hX5_mean_0 38 rfl) ⟨Nat.zero_le _, Nat.zero_le _⟩ rfl (fun H locs hs => ?_)
      cases hf
      exact rl C hs (dk hX5_mean_0 39 rfl)
    · replace hf := ip hf hc
      refine lv_iload_n hx hb (dk hX5_mean_0 30 rfl) rfl (lv_at hl 1 rfl) ?_
      refine lv_i2l (v := (Int32.toInt64 p0)) hx hb (dk hX5_mean_0 31 rfl) rfl ?_
      refine lv_goto (tgt := 69) hx hb (dk hX5_mean_0 32 rfl) (by decide) ?_
      cases hf
      exact rl C hs (dk hX5_mean_0 39 rfl)
  · replace hf := ip hf hc
    refine lv_aload_n hx hb (dk hX5_mean_0 5 rfl) rfl (lv_at hl 0 rfl) ?_
    refine lv_bipush (v := (-2 : Int32)) hx hb (dk hX5_mean_0 6 rfl) (by decide) ?_
    obtain ⟨u_8, e_9, hf⟩ := Option.bind_eq_some_iff.mp hf
    refine Ct.V (As := [.int (-2 : Int32)]) (rest := []) (st1 := [.long u_8.2]) (w1 := (wM G ad u_8.1 there used hidden kind figure good load inn tape letter letterAt told kept row costs ships coughs day away taped reading statements hasImage isKeeping cursor backs free goodFor loadedWhen bareGood bareWhen rowMany lots)) C hs (c_X5_lowestOf e_9) tw_1137 tw_1139 tw_71 tw_85 tw_1140 nq_X5_lowestOf (by decide) 0 5 rfl rfl rfl rfl hl.1 rfl (Nat.le_of_ble_eq_true rfl) (dk hX5_mean_0 7 rfl) ⟨Nat.zero_le _, Nat.zero_le _⟩ rfl (fun H locs hs => ?_)
    cases hf
    exact rl C hs (dk hX5_mean_0 8 rfl)

def X5_hidden_L4 (k : Int32 → Option (Int32)) (hidden : List Int32) : Nat → Int32 → Int32 → Option (Int32)
  | 0, _, _ => none
  | n + 1, x1, x2 =>
  if (6 : Int32) ≤ x2 then
  k x1
  else
  (rd hidden x2).bind fun v_1 =>
  X5_hidden_L4 k hidden n (x1 + v_1) (x2 + (1 : Int32))
def X5_hidden (hidden : List Int32) : Option (Int32) :=
  X5_hidden_L4 (fun y1_3 =>
  some y1_3) hidden 1000 (0 : Int32) (0 : Int32)
set_option maxRecDepth 100000 in
set_option maxHeartbeats 4000000 in
theorem l_X5_hidden_L4 {l : Launch} {p : Program} {e : Env} {s : State} {m : MethodId} {args : Array Value} {below : List Frame} {meth : Method} {c : Code} {A : Nat → Prop} {G : Gx} {ad : Nat → Nat} {refused there used hidden kind figure good load inn tape letter letterAt told kept row costs : List Int32} {ships coughs day away taped reading statements hasImage isKeeping cursor backs free goodFor loadedWhen bareGood bareWhen rowMany lots : Int32} {k : Int32 → Option (Int32)} {out : Int32} (C : Cx p s m args meth c cX5_hidden RX5 3 (some .int) G) : ∀ (n : Nat) (x1 : Int32) (x2 : Int32), X5_hidden_L4 k hidden n x1 x2 = some out → ∀ (H : Heap) (locs : List Loc), St G A s.heap H locs (wM G ad refused there used hidden kind figure good load inn tape letter letterAt told kept row costs ships coughs day away taped reading statements hasImage isKeeping cursor backs free goodFor loadedWhen bareGood bareWhen rowMany lots) → ∀ ls : Array Slot, lv_has ls 3 [(0, .ref (ad 0)), (1, .int x1), (2, .int x2)] → (∀ (y1 : Int32), k y1 = some out → ∀ (H : Heap) (locs : List Loc), St G A s.heap H locs (wM G ad refused there used hidden kind figure good load inn tape letter letterAt told kept row costs ships coughs day away taped reading statements hasImage isKeeping cursor backs free goodFor loadedWhen bareGood bareWhen rowMany lots) → ∀ ls : Array Slot, lv_has ls 3 [(1, .int y1)] → W p l e (rmOf 0 0) s m args below meth c H locs 0 0 (MQ below (Qof G A (some (.int out)) (wM G ad refused there used hidden kind figure good load inn tape letter letterAt told kept row costs ships coughs day away taped reading statements hasImage isKeeping cursor backs free goodFor loadedWhen bareGood bareWhen rowMany lots)) args s 0 0 A) (F0 m 25 ls [])) → W p l e (rmOf 0 0) s m args below meth c H locs 0 0 (MQ below (Qof G A (some (.int out)) (wM G ad refused there used hidden kind figure good load inn tape letter letterAt told kept row costs ships coughs day away taped reading statements hasImage isKeeping cursor backs free goodFor loadedWhen bareGood bareWhen rowMany lots)) args s 0 0 A) (F0 m 4 ls []) := by
  obtain ⟨hx, hb, hml, hown, hts, hK, hret, hlk⟩ := id C
  intro n
  induction n with
  | zero => intro x1 x2 hf; cases hf
  | succ n ih =>
    intro x1 x2 hf H locs hs ls hl hk
    rw [X5_hidden_L4] at hf
    refine lv_iload_n hx hb (dk hX5_hidden_0 4 rfl) rfl (lv_at hl 2 rfl) ?_
    refine lv_bipush (v := (6 : Int32)) hx hb (dk hX5_hidden_0 5 rfl) (by decide) ?_
    refine lv_icmp_ge (tgt := 25) hx hb (dk hX5_hidden_0 6 rfl) (by decide) (fun hc => ?_) (fun hc => ?_)
    · replace hf := ip hf hc
      exact hk _ hf _ _ hs _ (lv_sub hl [1] rfl)
    · replace hf := in_ hf hc
      refine lv_iload_n hx hb (dk hX5_hidden_0 7 rfl) rfl (lv_at hl 1 rfl) ?_
      refine lv_aload_n hx hb (dk hX5_hidden_0 8 rfl) rfl (lv_at hl 0 rfl) ?_
      refine rg ui5 rfl C hs 0 rfl 3 (by decide) tw_693 rfl rfl (dk hX5_hidden_0 9 rfl) ?_
      refine lv_iload_n hx hb (dk hX5_hidden_0 10 rfl) rfl (lv_at hl 2 rfl) ?_
      obtain ⟨v_1, e_2, hf⟩ := Option.bind_eq_some_iff.mp hf
      refine rild C hs 4 rfl e_2 (dk hX5_hidden_0 11 rfl) ?_
      refine lv_iadd hx hb (dk hX5_hidden_0 12 rfl) ?_
      refine lv_istore_n (lv' := [(1, .int (x1 + v_1)), (0, .ref (ad 0)), (2, .int x2)]) hx hb (dk hX5_hidden_0 13 rfl) rfl hl (by decide) rfl (fun ls hl => ?_)
      refine lv_iinc (v := (x2 + (1 : Int32))) (lv' := [(2, .int (x2 + (1 : Int32))), (1, .int (x1 + v_1)), (0, .ref (ad 0))]) hx hb (dk hX5_hidden_0 14 rfl) hl (k := 2) rfl (by first | rfl | decide) (by decide) rfl (fun ls hl => ?_)
      refine lv_goto (tgt := 4) hx hb (dk hX5_hidden_0 15 rfl) (by decide) ?_
      exact ih _ _ hf _ _ hs _ (lv_sub hl [2, 1, 0] rfl) hk
set_option maxRecDepth 100000 in
set_option maxHeartbeats 4000000 in
theorem c_X5_hidden {l : Launch} {G : Gx} {ad : Nat → Nat} {refused there used hidden kind figure good load inn tape letter letterAt told kept row costs : List Int32} {ships coughs day away taped reading statements hasImage isKeeping cursor backs free goodFor loadedWhen bareGood bareWhen rowMany lots : Int32}  {out : Int32} (hf : X5_hidden hidden = some out) : Ct l G yX5_hidden cX5_hidden 3 (some .int) 0 0 [.ref (ad 0)] (wM G ad refused there used hidden kind figure good load inn tape letter letterAt told kept row costs ships coughs day away taped reading statements hasImage isKeeping cursor backs free goodFor loadedWhen bareGood bareWhen rowMany lots) (some (.int out)) (wM G ad refused there used hidden kind figure good load inn tape letter letterAt told kept row costs ships coughs day away taped reading statements hasImage isKeeping cursor backs free goodFor loadedWhen bareGood bareWhen rowMany lots) := by
  refine Ct.intro RX5 rfl (plainFor_of_name (by decide)) (Nat.le_of_ble_eq_true rfl) rfl ?_
  intro p e s m args below meth c A C H locs hs ls hl
  obtain ⟨hx, hb, hml, hown, hts, hK, hret, hlk⟩ := id C
  have hl : lv_has ls 3 [(0, .ref (ad 0))] := hl
  unfold X5_hidden at hf
  refine lv_iconst (v := (0 : Int32)) hx hb (dk hX5_hidden_0 0 rfl) (by decide) ?_
  refine lv_istore_n (lv' := [(1, .int (0 : Int32)), (0, .ref (ad 0))]) hx hb (dk hX5_hidden_0 1 rfl) rfl hl (by decide) rfl (fun ls hl => ?_)
  refine lv_iconst (v := (0 : Int32)) hx hb (dk hX5_hidden_0 2 rfl) (by decide) ?_
  refine lv_istore_n (lv' := [(2, .int (0 : Int32)), (1, .int (0 : Int32)), (0, .ref (ad 0))]) hx hb (dk hX5_hidden_0 3 rfl) rfl hl (by decide) rfl (fun ls hl => ?_)
  refine l_X5_hidden_L4 C 1000 _ _ hf _ _ hs _ (lv_sub hl [2, 1, 0] rfl) (fun y1_3 hf H locs hs ls hl => ?_)
  refine lv_iload_n hx hb (dk hX5_hidden_0 16 rfl) rfl (lv_at hl 0 rfl) ?_
  cases hf
  exact ri C hs (dk hX5_hidden_0 17 rfl)

def X5_nextTide_L19 (k : Int32 → Option (List Int32 × Int32)) (day : Int32) (x1 : Int32) : Nat → Int32 → Option (List Int32 × Int32)
  | 0, _ => none
  | n + 1, x3 =>
  (X5_tideOf (day + x3)).bind fun u_3 =>
  if x1 ≤ u_3 then
  k x3
  else
  X5_nextTide_L19 k day x1 n (x3 + (1 : Int32))
def X5_nextTide (refused : List Int32) (day : Int32) (p0 : Int32) : Option (List Int32 × Int32) :=
  (X5_bound p0 (0 : Int32) (4 : Int32)).bind fun u_1 =>
  if u_1 = (0 : Int32) then
  X5_nextTide_L19 (fun y3_5 =>
  some (refused, y3_5)) day p0 1000 (0 : Int32)
  else
  (X5_no refused u_1).bind fun u_6 =>
  some (u_6.1, u_6.2)
set_option maxRecDepth 100000 in
set_option maxHeartbeats 4000000 in
theorem l_X5_nextTide_L19 {l : Launch} {p : Program} {e : Env} {s : State} {m : MethodId} {args : Array Value} {below : List Frame} {meth : Method} {c : Code} {A : Nat → Prop} {G : Gx} {ad : Nat → Nat} {refused there used hidden kind figure good load inn tape letter letterAt told kept row costs : List Int32} {ships coughs day away taped reading statements hasImage isKeeping cursor backs free goodFor loadedWhen bareGood bareWhen rowMany lots : Int32} {x1 : Int32} {k : Int32 → Option (List Int32 × Int32)} {out : List Int32 × Int32} (C : Cx p s m args meth c cX5_nextTide RX5 4 (some .int) G) : ∀ (n : Nat) (x3 : Int32), X5_nextTide_L19 k day x1 n x3 = some out → ∀ (H : Heap) (locs : List Loc), St G A s.heap H locs (wM G ad refused there used hidden kind figure good load inn tape letter letterAt told kept row costs ships coughs day away taped reading statements hasImage isKeeping cursor backs free goodFor loadedWhen bareGood bareWhen rowMany lots) → ∀ ls : Array Slot, lv_has ls 4 [(0, .ref (ad 0)), (1, .int x1), (3, .int x3)] → (∀ (y3 : Int32), k y3 = some out → ∀ (H : Heap) (locs : List Loc), St G A s.heap H locs (wM G ad refused there used hidden kind figure good load inn tape letter letterAt told kept row costs ships coughs day away taped reading statements hasImage isKeeping cursor backs free goodFor loadedWhen bareGood bareWhen rowMany lots) → ∀ ls : Array Slot, lv_has ls 4 [(3, .int y3)] → W p l e (rmOf 1 22) s m args below meth c H locs 0 0 (MQ below (Qof G A (some (.int out.2)) (wM G ad out.1 there used hidden kind figure good load inn tape letter letterAt told kept row costs ships coughs day away taped reading statements hasImage isKeeping cursor backs free goodFor loadedWhen bareGood bareWhen rowMany lots)) args s 0 0 A) (F0 m 38 ls [])) → W p l e (rmOf 1 22) s m args below meth c H locs 0 0 (MQ below (Qof G A (some (.int out.2)) (wM G ad out.1 there used hidden kind figure good load inn tape letter letterAt told kept row costs ships coughs day away taped reading statements hasImage isKeeping cursor backs free goodFor loadedWhen bareGood bareWhen rowMany lots)) args s 0 0 A) (F0 m 19 ls []) := by
  obtain ⟨hx, hb, hml, hown, hts, hK, hret, hlk⟩ := id C
  intro n
  induction n with
  | zero => intro x3 hf; cases hf
  | succ n ih =>
    intro x3 hf H locs hs ls hl hk
    rw [X5_nextTide_L19] at hf
    refine lv_aload_n hx hb (dk hX5_nextTide_0 13 rfl) rfl (lv_at hl 0 rfl) ?_
    refine rg ui5 rfl C hs 0 rfl 11 (by decide) tw_701 rfl rfl (dk hX5_nextTide_0 14 rfl) ?_
    refine lv_iload_n hx hb (dk hX5_nextTide_0 15 rfl) rfl (lv_at hl 2 rfl) ?_
    refine lv_iadd hx hb (dk hX5_nextTide_0 16 rfl) ?_
    obtain ⟨u_3, e_4, hf⟩ := Option.bind_eq_some_iff.mp hf
    refine Ct.S (As := [.int (day + x3)]) (rest := []) (st1 := [.int u_3]) (w1 := (wM G ad refused there used hidden kind figure good load inn tape letter letterAt told kept row costs ships coughs day away taped reading statements hasImage isKeeping cursor backs free goodFor loadedWhen bareGood bareWhen rowMany lots)) C hs (c_X5_tideOf e_4) tw_881 tw_882 tw_85 tw_883 nq_X5_tideOf (by decide) rfl hl.1 rfl (Nat.le_of_ble_eq_true rfl) (dk hX5_nextTide_0 17 rfl) ⟨Nat.zero_le _, Nat.zero_le _⟩ rfl (fun H locs hs => ?_)
    refine lv_iload_n hx hb (dk hX5_nextTide_0 18 rfl) rfl (lv_at hl 1 rfl) ?_
    refine lv_icmp_ge (tgt := 38) hx hb (dk hX5_nextTide_0 19 rfl) (by decide) (fun hc => ?_) (fun hc => ?_)
    · replace hf := ip hf hc
      exact hk _ hf _ _ hs _ (lv_sub hl [2] rfl)
    · replace hf := in_ hf hc
      refine lv_iinc (v := (x3 + (1 : Int32))) (lv' := [(3, .int (x3 + (1 : Int32))), (0, .ref (ad 0)), (1, .int x1)]) hx hb (dk hX5_nextTide_0 20 rfl) hl (k := 2) rfl (by first | rfl | decide) (by decide) rfl (fun ls hl => ?_)
      refine lv_goto (tgt := 19) hx hb (dk hX5_nextTide_0 21 rfl) (by decide) ?_
      exact ih _ hf _ _ hs _ (lv_sub hl [1, 2, 0] rfl) hk
set_option maxRecDepth 100000 in
set_option maxHeartbeats 4000000 in
theorem c_X5_nextTide {l : Launch} {G : Gx} {ad : Nat → Nat} {refused there used hidden kind figure good load inn tape letter letterAt told kept row costs : List Int32} {ships coughs day away taped reading statements hasImage isKeeping cursor backs free goodFor loadedWhen bareGood bareWhen rowMany lots : Int32} {p0 : Int32} {out : List Int32 × Int32} (hf : X5_nextTide refused day p0 = some out) : Ct l G yX5_nextTide cX5_nextTide 4 (some .int) 1 22 [.ref (ad 0), .int p0] (wM G ad refused there used hidden kind figure good load inn tape letter letterAt told kept row costs ships coughs day away taped reading statements hasImage isKeeping cursor backs free goodFor loadedWhen bareGood bareWhen rowMany lots) (some (.int out.2)) (wM G ad out.1 there used hidden kind figure good load inn tape letter letterAt told kept row costs ships coughs day away taped reading statements hasImage isKeeping cursor backs free goodFor loadedWhen bareGood bareWhen rowMany lots) := by
  refine Ct.intro RX5 rfl (plainFor_of_name (by decide)) (Nat.le_of_ble_eq_true rfl) rfl ?_
  intro p e s m args below meth c A C H locs hs ls hl
  obtain ⟨hx, hb, hml, hown, hts, hK, hret, hlk⟩ := id C
  have hl : lv_has ls 4 [(0, .ref (ad 0)), (1, .int p0)] := hl
  unfold X5_nextTide at hf
  refine lv_iload_n hx hb (dk hX5_nextTide_0 0 rfl) rfl (lv_at hl 1 rfl) ?_
  refine lv_iconst (v := (0 : Int32)) hx hb (dk hX5_nextTide_0 1 rfl) (by decide) ?_
  refine lv_iconst (v := (4 : Int32)) hx hb (dk hX5_nextTide_0 2 rfl) (by decide) ?_
  obtain ⟨u_1, e_2, hf⟩ := Option.bind_eq_some_iff.mp hf
  refine Ct.S (As := [.int p0, .int (0 : Int32), .int (4 : Int32)]) (rest := []) (st1 := [.int u_1]) (w1 := (wM G ad refused there used hidden kind figure good load inn tape letter letterAt told kept row costs ships coughs day away taped reading statements hasImage isKeeping cursor backs free goodFor loadedWhen bareGood bareWhen rowMany lots)) C hs (c_X5_bound e_2) tw_797 tw_798 tw_85 tw_799 nq_X5_bound (by decide) rfl hl.1 rfl (Nat.le_of_ble_eq_true rfl) (dk hX5_nextTide_0 3 rfl) ⟨Nat.zero_le _, Nat.zero_le _⟩ rfl (fun H locs hs => ?_)
  refine lv_istore_n (lv' := [(2, .int u_1), (0, .ref (ad 0)), (1, .int p0)]) hx hb (dk hX5_nextTide_0 4 rfl) rfl hl (by decide) rfl (fun ls hl => ?_)
  refine lv_iload_n hx hb (dk hX5_nextTide_0 5 rfl) rfl (lv_at hl 0 rfl) ?_
  refine lv_if_eq (tgt := 17) hx hb (dk hX5_nextTide_0 6 rfl) (by decide) (fun hc => ?_) (fun hc => ?_)
  · replace hf := ip hf hc
    refine lv_iconst (v := (0 : Int32)) hx hb (dk hX5_nextTide_0 11 rfl) (by decide) ?_
    refine lv_istore_n (lv' := [(3, .int (0 : Int32)), (2, .int u_1), (0, .ref (ad 0)), (1, .int p0)]) hx hb (dk hX5_nextTide_0 12 rfl) rfl hl (by decide) rfl (fun ls hl => ?_)
    refine l_X5_nextTide_L19 C 1000 _ hf _ _ hs _ (lv_sub hl [2, 3, 0] rfl) (fun y3_5 hf H locs hs ls hl => ?_)
    refine lv_iload_n hx hb (dk hX5_nextTide_0 22 rfl) rfl (lv_at hl 0 rfl) ?_
    cases hf
    exact ri C hs (dk hX5_nextTide_0 23 rfl)
  · replace hf := in_ hf hc
    refine lv_aload_n hx hb (dk hX5_nextTide_0 7 rfl) rfl (lv_at hl 1 rfl) ?_
    refine lv_iload_n hx hb (dk hX5_nextTide_0 8 rfl) rfl (lv_at hl 0 rfl) ?_
    obtain ⟨u_6, e_7, hf⟩ := Option.bind_eq_some_iff.mp hf
    refine Ct.V (As := [.int u_1]) (rest := []) (st1 := [.int u_6.2]) (w1 := (wM G ad u_6.1 there used hidden kind figure good load inn tape letter letterAt told kept row costs ships coughs day away taped reading statements hasImage isKeeping cursor backs free goodFor loadedWhen bareGood bareWhen rowMany lots)) C hs (c_X5_no e_7) tw_800 tw_802 tw_21 tw_85 tw_803 nq_X5_no (by decide) 0 5 rfl rfl rfl rfl hl.1 rfl (Nat.le_of_ble_eq_true rfl) (dk hX5_nextTide_0 9 rfl) ⟨Nat.zero_le _, Nat.zero_le _⟩ rfl (fun H locs hs => ?_)
    cases hf
    exact ri C hs (dk hX5_nextTide_0 10 rfl)

def X5_empty_L4 (k : Int32 → Option (Int32)) (there : List Int32) (used : List Int32) (hidden : List Int32) (kind : List Int32) (good : List Int32) (ships : Int32) (coughs : Int32) (free : Int32) : Nat → Int32 → Int32 → Option (Int32)
  | 0, _, _ => none
  | n + 1, x1, x2 =>
  if ships ≤ x2 then
  k x1
  else
  (X5_sinks there used hidden kind good coughs free x2).bind fun u_1 =>
  if u_1 = (0 : Int32) then
  X5_empty_L4 k there used hidden kind good ships coughs free n (x1 ||| ((1 : Int32) <<< (x2 &&& 31))) (x2 + (1 : Int32))
  else
  X5_empty_L4 k there used hidden kind good ships coughs free n (x1 ||| (0 : Int32)) (x2 + (1 : Int32))
def X5_empty (there : List Int32) (used : List Int32) (hidden : List Int32) (kind : List Int32) (good : List Int32) (ships : Int32) (coughs : Int32) (free : Int32) : Option (Int32) :=
  X5_empty_L4 (fun y1_3 =>
  some y1_3) there used hidden kind good ships coughs free 1000 (0 : Int32) (0 : Int32)
set_option maxRecDepth 100000 in
set_option maxHeartbeats 4000000 in
theorem l_X5_empty_L4 {l : Launch} {p : Program} {e : Env} {s : State} {m : MethodId} {args : Array Value} {below : List Frame} {meth : Method} {c : Code} {A : Nat → Prop} {G : Gx} {ad : Nat → Nat} {refused there used hidden kind figure good load inn tape letter letterAt told kept row costs : List Int32} {ships coughs day away taped reading statements hasImage isKeeping cursor backs free goodFor loadedWhen bareGood bareWhen rowMany lots : Int32} {k : Int32 → Option (Int32)} {out : Int32} (C : Cx p s m args meth c cX5_empty RX5 3 (some .int) G) : ∀ (n : Nat) (x1 : Int32) (x2 : Int32), X5_empty_L4 k there used hidden kind good ships coughs free n x1 x2 = some out → ∀ (H : Heap) (locs : List Loc), St G A s.heap H locs (wM G ad refused there used hidden kind figure good load inn tape letter letterAt told kept row costs ships coughs day away taped reading statements hasImage isKeeping cursor backs free goodFor loadedWhen bareGood bareWhen rowMany lots) → ∀ ls : Array Slot, lv_has ls 3 [(0, .ref (ad 0)), (1, .int x1), (2, .int x2)] → (∀ (y1 : Int32), k y1 = some out → ∀ (H : Heap) (locs : List Loc), St G A s.heap H locs (wM G ad refused there used hidden kind figure good load inn tape letter letterAt told kept row costs ships coughs day away taped reading statements hasImage isKeeping cursor backs free goodFor loadedWhen bareGood bareWhen rowMany lots) → ∀ ls : Array Slot, lv_has ls 3 [(1, .int y1)] → W p l e (rmOf 3 65) s m args below meth c H locs 0 0 (MQ below (Qof G A (some (.int out)) (wM G ad refused there used hidden kind figure good load inn tape letter letterAt told kept row costs ships coughs day away taped reading statements hasImage isKeeping cursor backs free goodFor loadedWhen bareGood bareWhen rowMany lots)) args s 0 0 A) (F0 m 36 ls [])) → W p l e (rmOf 3 65) s m args below meth c H locs 0 0 (MQ below (Qof G A (some (.int out)) (wM G ad refused there used hidden kind figure good load inn tape letter letterAt told kept row costs ships coughs day away taped reading statements hasImage isKeeping cursor backs free goodFor loadedWhen bareGood bareWhen rowMany lots)) args s 0 0 A) (F0 m 4 ls []) := by
  obtain ⟨hx, hb, hml, hown, hts, hK, hret, hlk⟩ := id C
  intro n
  induction n with
  | zero => intro x1 x2 hf; cases hf
  | succ n ih =>
    intro x1 x2 hf H locs hs ls hl hk
    rw [X5_empty_L4] at hf
    refine lv_iload_n hx hb (dk hX5_empty_0 4 rfl) rfl (lv_at hl 2 rfl) ?_
    refine lv_aload_n hx hb (dk hX5_empty_0 5 rfl) rfl (lv_at hl 0 rfl) ?_
    refine rg ui5 rfl C hs 0 rfl 9 (by decide) tw_699 rfl rfl (dk hX5_empty_0 6 rfl) ?_
    refine lv_icmp_ge (tgt := 36) hx hb (dk hX5_empty_0 7 rfl) (by decide) (fun hc => ?_) (fun hc => ?_)
    · replace hf := ip hf hc
      exact hk _ hf _ _ hs _ (lv_sub hl [1] rfl)
    · replace hf := in_ hf hc
      refine lv_iload_n hx hb (dk hX5_empty_0 8 rfl) rfl (lv_at hl 1 rfl) ?_
      refine lv_aload_n hx hb (dk hX5_empty_0 9 rfl) rfl (lv_at hl 0 rfl) ?_
      refine lv_iload_n hx hb (dk hX5_empty_0 10 rfl) rfl (lv_at hl 2 rfl) ?_
      obtain ⟨u_1, e_2, hf⟩ := Option.bind_eq_some_iff.mp hf
      refine Ct.V (As := [.int x2]) (rest := [.int x1]) (st1 := [.int u_1, .int x1]) (w1 := (wM G ad refused there used hidden kind figure good load inn tape letter letterAt told kept row costs ships coughs day away taped reading statements hasImage isKeeping cursor backs free goodFor loadedWhen bareGood bareWhen rowMany lots)) C hs (c_X5_sinks e_2) tw_884 tw_886 tw_38 tw_85 tw_887 nq_X5_sinks (by decide) 0 5 rfl rfl rfl rfl hl.1 rfl (Nat.le_of_ble_eq_true rfl) (dk hX5_empty_0 11 rfl) ⟨Nat.zero_le _, Nat.zero_le _⟩ rfl (fun H locs hs => ?_)
      refine lv_if_ne (tgt := 27) hx hb (dk hX5_empty_0 12 rfl) (by decide) (fun hc => ?_) (fun hc => ?_)
      · replace hf := in_ hf hc
        refine lv_iconst (v := (0 : Int32)) hx hb (dk hX5_empty_0 17 rfl) (by decide) ?_
        refine lv_ior hx hb (dk hX5_empty_0 18 rfl) ?_
        refine lv_istore_n (lv' := [(1, .int (x1 ||| (0 : Int32))), (0, .ref (ad 0)), (2, .int x2)]) hx hb (dk hX5_empty_0 19 rfl) rfl hl (by decide) rfl (fun ls hl => ?_)
        refine lv_iinc (v := (x2 + (1 : Int32))) (lv' := [(2, .int (x2 + (1 : Int32))), (1, .int (x1 ||| (0 : Int32))), (0, .ref (ad 0))]) hx hb (dk hX5_empty_0 20 rfl) hl (k := 2) rfl (by first | rfl | decide) (by decide) rfl (fun ls hl => ?_)
        refine lv_goto (tgt := 4) hx hb (dk hX5_empty_0 21 rfl) (by decide) ?_
        exact ih _ _ hf _ _ hs _ (lv_sub hl [2, 1, 0] rfl) hk
      · replace hf := ip hf hc
        refine lv_iconst (v := (1 : Int32)) hx hb (dk hX5_empty_0 13 rfl) (by decide) ?_
        refine lv_iload_n hx hb (dk hX5_empty_0 14 rfl) rfl (lv_at hl 2 rfl) ?_
        refine lv_ishl hx hb (dk hX5_empty_0 15 rfl) ?_
        refine lv_goto (tgt := 28) hx hb (dk hX5_empty_0 16 rfl) (by decide) ?_
        refine lv_ior hx hb (dk hX5_empty_0 18 rfl) ?_
        refine lv_istore_n (lv' := [(1, .int (x1 ||| ((1 : Int32) <<< (x2 &&& 31)))), (0, .ref (ad 0)), (2, .int x2)]) hx hb (dk hX5_empty_0 19 rfl) rfl hl (by decide) rfl (fun ls hl => ?_)
        refine lv_iinc (v := (x2 + (1 : Int32))) (lv' := [(2, .int (x2 + (1 : Int32))), (1, .int (x1 ||| ((1 : Int32) <<< (x2 &&& 31)))), (0, .ref (ad 0))]) hx hb (dk hX5_empty_0 20 rfl) hl (k := 2) rfl (by first | rfl | decide) (by decide) rfl (fun ls hl => ?_)
        refine lv_goto (tgt := 4) hx hb (dk hX5_empty_0 21 rfl) (by decide) ?_
        exact ih _ _ hf _ _ hs _ (lv_sub hl [2, 1, 0] rfl) hk
set_option maxRecDepth 100000 in
set_option maxHeartbeats 4000000 in
theorem c_X5_empty {l : Launch} {G : Gx} {ad : Nat → Nat} {refused there used hidden kind figure good load inn tape letter letterAt told kept row costs : List Int32} {ships coughs day away taped reading statements hasImage isKeeping cursor backs free goodFor loadedWhen bareGood bareWhen rowMany lots : Int32}  {out : Int32} (hf : X5_empty there used hidden kind good ships coughs free = some out) : Ct l G yX5_empty cX5_empty 3 (some .int) 3 65 [.ref (ad 0)] (wM G ad refused there used hidden kind figure good load inn tape letter letterAt told kept row costs ships coughs day away taped reading statements hasImage isKeeping cursor backs free goodFor loadedWhen bareGood bareWhen rowMany lots) (some (.int out)) (wM G ad refused there used hidden kind figure good load inn tape letter letterAt told kept row costs ships coughs day away taped reading statements hasImage isKeeping cursor backs free goodFor loadedWhen bareGood bareWhen rowMany lots) := by
  refine Ct.intro RX5 rfl (plainFor_of_name (by decide)) (Nat.le_of_ble_eq_true rfl) rfl ?_
  intro p e s m args below meth c A C H locs hs ls hl
  obtain ⟨hx, hb, hml, hown, hts, hK, hret, hlk⟩ := id C
  have hl : lv_has ls 3 [(0, .ref (ad 0))] := hl
  unfold X5_empty at hf
  refine lv_iconst (v := (0 : Int32)) hx hb (dk hX5_empty_0 0 rfl) (by decide) ?_
  refine lv_istore_n (lv' := [(1, .int (0 : Int32)), (0, .ref (ad 0))]) hx hb (dk hX5_empty_0 1 rfl) rfl hl (by decide) rfl (fun ls hl => ?_)
  refine lv_iconst (v := (0 : Int32)) hx hb (dk hX5_empty_0 2 rfl) (by decide) ?_
  refine lv_istore_n (lv' := [(2, .int (0 : Int32)), (1, .int (0 : Int32)), (0, .ref (ad 0))]) hx hb (dk hX5_empty_0 3 rfl) rfl hl (by decide) rfl (fun ls hl => ?_)
  refine l_X5_empty_L4 C 1000 _ _ hf _ _ hs _ (lv_sub hl [2, 1, 0] rfl) (fun y1_3 hf H locs hs ls hl => ?_)
  refine lv_iload_n hx hb (dk hX5_empty_0 22 rfl) rfl (lv_at hl 0 rfl) ?_
  cases hf
  exact ri C hs (dk hX5_empty_0 23 rfl)

def X5_carried_L17 (k : Int32 → Option (List Int32 × Int32)) (kind : List Int32) (good : List Int32) (load : List Int32) (inn : List Int32) (ships : Int32) (x1 : Int32) : Nat → Int32 → Int32 → Option (List Int32 × Int32)
  | 0, _, _ => none
  | n + 1, x2, x3 =>
  if ships ≤ x3 then
  k x2
  else
  (rd inn x3).bind fun v_3 =>
  if v_3 = (0 : Int32) then
  (X5_brings kind good load x3 x1).bind fun u_5 =>
  X5_carried_L17 k kind good load inn ships x1 n (x2 + u_5) (x3 + (1 : Int32))
  else
  X5_carried_L17 k kind good load inn ships x1 n (x2 + (0 : Int32)) (x3 + (1 : Int32))
def X5_carried (refused : List Int32) (kind : List Int32) (good : List Int32) (load : List Int32) (inn : List Int32) (ships : Int32) (p0 : Int32) : Option (List Int32 × Int32) :=
  (X5_isGood p0).bind fun u_1 =>
  if u_1 = (0 : Int32) then
  (X5_no refused (-1 : Int32)).bind fun u_8 =>
  some (u_8.1, u_8.2)
  else
  X5_carried_L17 (fun y2_7 =>
  some (refused, y2_7)) kind good load inn ships p0 1000 (0 : Int32) (0 : Int32)
set_option maxRecDepth 100000 in
set_option maxHeartbeats 4000000 in
theorem l_X5_carried_L17 {l : Launch} {p : Program} {e : Env} {s : State} {m : MethodId} {args : Array Value} {below : List Frame} {meth : Method} {c : Code} {A : Nat → Prop} {G : Gx} {ad : Nat → Nat} {refused there used hidden kind figure good load inn tape letter letterAt told kept row costs : List Int32} {ships coughs day away taped reading statements hasImage isKeeping cursor backs free goodFor loadedWhen bareGood bareWhen rowMany lots : Int32} {x1 : Int32} {k : Int32 → Option (List Int32 × Int32)} {out : List Int32 × Int32} (C : Cx p s m args meth c cX5_carried RX5 4 (some .int) G) : ∀ (n : Nat) (x2 : Int32) (x3 : Int32), X5_carried_L17 k kind good load inn ships x1 n x2 x3 = some out → ∀ (H : Heap) (locs : List Loc), St G A s.heap H locs (wM G ad refused there used hidden kind figure good load inn tape letter letterAt told kept row costs ships coughs day away taped reading statements hasImage isKeeping cursor backs free goodFor loadedWhen bareGood bareWhen rowMany lots) → ∀ ls : Array Slot, lv_has ls 4 [(0, .ref (ad 0)), (1, .int x1), (2, .int x2), (3, .int x3)] → (∀ (y2 : Int32), k y2 = some out → ∀ (H : Heap) (locs : List Loc), St G A s.heap H locs (wM G ad refused there used hidden kind figure good load inn tape letter letterAt told kept row costs ships coughs day away taped reading statements hasImage isKeeping cursor backs free goodFor loadedWhen bareGood bareWhen rowMany lots) → ∀ ls : Array Slot, lv_has ls 4 [(2, .int y2)] → W p l e (rmOf 2 44) s m args below meth c H locs 0 0 (MQ below (Qof G A (some (.int out.2)) (wM G ad out.1 there used hidden kind figure good load inn tape letter letterAt told kept row costs ships coughs day away taped reading statements hasImage isKeeping cursor backs free goodFor loadedWhen bareGood bareWhen rowMany lots)) args s 0 0 A) (F0 m 53 ls [])) → W p l e (rmOf 2 44) s m args below meth c H locs 0 0 (MQ below (Qof G A (some (.int out.2)) (wM G ad out.1 there used hidden kind figure good load inn tape letter letterAt told kept row costs ships coughs day away taped reading statements hasImage isKeeping cursor backs free goodFor loadedWhen bareGood bareWhen rowMany lots)) args s 0 0 A) (F0 m 17 ls []) := by
  obtain ⟨hx, hb, hml, hown, hts, hK, hret, hlk⟩ := id C
  intro n
  induction n with
  | zero => intro x2 x3 hf; cases hf
  | succ n ih =>
    intro x2 x3 hf H locs hs ls hl hk
    rw [X5_carried_L17] at hf
    refine lv_iload_n hx hb (dk hX5_carried_0 11 rfl) rfl (lv_at hl 3 rfl) ?_
    refine lv_aload_n hx hb (dk hX5_carried_0 12 rfl) rfl (lv_at hl 0 rfl) ?_
    refine rg ui5 rfl C hs 0 rfl 9 (by decide) tw_699 rfl rfl (dk hX5_carried_0 13 rfl) ?_
    refine lv_icmp_ge (tgt := 53) hx hb (dk hX5_carried_0 14 rfl) (by decide) (fun hc => ?_) (fun hc => ?_)
    · replace hf := ip hf hc
      exact hk _ hf _ _ hs _ (lv_sub hl [2] rfl)
    · replace hf := in_ hf hc
      refine lv_iload_n hx hb (dk hX5_carried_0 15 rfl) rfl (lv_at hl 2 rfl) ?_
      refine lv_aload_n hx hb (dk hX5_carried_0 16 rfl) rfl (lv_at hl 0 rfl) ?_
      refine rg ui5 rfl C hs 0 rfl 8 (by decide) tw_698 rfl rfl (dk hX5_carried_0 17 rfl) ?_
      refine lv_iload_n hx hb (dk hX5_carried_0 18 rfl) rfl (lv_at hl 3 rfl) ?_
      obtain ⟨v_3, e_4, hf⟩ := Option.bind_eq_some_iff.mp hf
      refine rild C hs 9 rfl e_4 (dk hX5_carried_0 19 rfl) ?_
      refine lv_if_ne (tgt := 44) hx hb (dk hX5_carried_0 20 rfl) (by decide) (fun hc => ?_) (fun hc => ?_)
      · replace hf := in_ hf hc
        refine lv_iconst (v := (0 : Int32)) hx hb (dk hX5_carried_0 26 rfl) (by decide) ?_
        refine lv_iadd hx hb (dk hX5_carried_0 27 rfl) ?_
        refine lv_istore_n (lv' := [(2, .int (x2 + (0 : Int32))), (0, .ref (ad 0)), (1, .int x1), (3, .int x3)]) hx hb (dk hX5_carried_0 28 rfl) rfl hl (by decide) rfl (fun ls hl => ?_)
        refine lv_iinc (v := (x3 + (1 : Int32))) (lv' := [(3, .int (x3 + (1 : Int32))), (2, .int (x2 + (0 : Int32))), (0, .ref (ad 0)), (1, .int x1)]) hx hb (dk hX5_carried_0 29 rfl) hl (k := 3) rfl (by first | rfl | decide) (by decide) rfl (fun ls hl => ?_)
        refine lv_goto (tgt := 17) hx hb (dk hX5_carried_0 30 rfl) (by decide) ?_
        exact ih _ _ hf _ _ hs _ (lv_sub hl [2, 3, 1, 0] rfl) hk
      · replace hf := ip hf hc
        refine lv_aload_n hx hb (dk hX5_carried_0 21 rfl) rfl (lv_at hl 0 rfl) ?_
        refine lv_iload_n hx hb (dk hX5_carried_0 22 rfl) rfl (lv_at hl 3 rfl) ?_
        refine lv_iload_n hx hb (dk hX5_carried_0 23 rfl) rfl (lv_at hl 1 rfl) ?_
        obtain ⟨u_5, e_6, hf⟩ := Option.bind_eq_some_iff.mp hf
        refine Ct.V (As := [.int x3, .int x1]) (rest := [.int x2]) (st1 := [.int u_5, .int x2]) (w1 := (wM G ad refused there used hidden kind figure good load inn tape letter letterAt told kept row costs ships coughs day away taped reading statements hasImage isKeeping cursor backs free goodFor loadedWhen bareGood bareWhen rowMany lots)) C hs (c_X5_brings e_6) tw_908 tw_910 tw_44 tw_85 tw_911 nq_X5_brings (by decide) 0 5 rfl rfl rfl rfl hl.1 rfl (Nat.le_of_ble_eq_true rfl) (dk hX5_carried_0 24 rfl) ⟨Nat.zero_le _, Nat.zero_le _⟩ rfl (fun H locs hs => ?_)
        refine lv_goto (tgt := 45) hx hb (dk hX5_carried_0 25 rfl) (by decide) ?_
        refine lv_iadd hx hb (dk hX5_carried_0 27 rfl) ?_
        refine lv_istore_n (lv' := [(2, .int (x2 + u_5)), (0, .ref (ad 0)), (1, .int x1), (3, .int x3)]) hx hb (dk hX5_carried_0 28 rfl) rfl hl (by decide) rfl (fun ls hl => ?_)
        refine lv_iinc (v := (x3 + (1 : Int32))) (lv' := [(3, .int (x3 + (1 : Int32))), (2, .int (x2 + u_5)), (0, .ref (ad 0)), (1, .int x1)]) hx hb (dk hX5_carried_0 29 rfl) hl (k := 3) rfl (by first | rfl | decide) (by decide) rfl (fun ls hl => ?_)
        refine lv_goto (tgt := 17) hx hb (dk hX5_carried_0 30 rfl) (by decide) ?_
        exact ih _ _ hf _ _ hs _ (lv_sub hl [2, 3, 1, 0] rfl) hk
set_option maxRecDepth 100000 in
set_option maxHeartbeats 4000000 in
theorem c_X5_carried {l : Launch} {G : Gx} {ad : Nat → Nat} {refused there used hidden kind figure good load inn tape letter letterAt told kept row costs : List Int32} {ships coughs day away taped reading statements hasImage isKeeping cursor backs free goodFor loadedWhen bareGood bareWhen rowMany lots : Int32} {p0 : Int32} {out : List Int32 × Int32} (hf : X5_carried refused kind good load inn ships p0 = some out) : Ct l G yX5_carried cX5_carried 4 (some .int) 2 44 [.ref (ad 0), .int p0] (wM G ad refused there used hidden kind figure good load inn tape letter letterAt told kept row costs ships coughs day away taped reading statements hasImage isKeeping cursor backs free goodFor loadedWhen bareGood bareWhen rowMany lots) (some (.int out.2)) (wM G ad out.1 there used hidden kind figure good load inn tape letter letterAt told kept row costs ships coughs day away taped reading statements hasImage isKeeping cursor backs free goodFor loadedWhen bareGood bareWhen rowMany lots) := by
  refine Ct.intro RX5 rfl (plainFor_of_name (by decide)) (Nat.le_of_ble_eq_true rfl) rfl ?_
  intro p e s m args below meth c A C H locs hs ls hl
  obtain ⟨hx, hb, hml, hown, hts, hK, hret, hlk⟩ := id C
  have hl : lv_has ls 4 [(0, .ref (ad 0)), (1, .int p0)] := hl
  unfold X5_carried at hf
  refine lv_iload_n hx hb (dk hX5_carried_0 0 rfl) rfl (lv_at hl 1 rfl) ?_
  obtain ⟨u_1, e_2, hf⟩ := Option.bind_eq_some_iff.mp hf
  refine Ct.S (As := [.int p0]) (rest := []) (st1 := [.int u_1]) (w1 := (wM G ad refused there used hidden kind figure good load inn tape letter letterAt told kept row costs ships coughs day away taped reading statements hasImage isKeeping cursor backs free goodFor loadedWhen bareGood bareWhen rowMany lots)) C hs (c_X5_isGood e_2) tw_847 tw_848 tw_85 tw_849 nq_X5_isGood (by decide) rfl hl.1 rfl (Nat.le_of_ble_eq_true rfl) (dk hX5_carried_0 1 rfl) ⟨Nat.zero_le _, Nat.zero_le _⟩ rfl (fun H locs hs => ?_)
  refine lv_if_ne (tgt := 13) hx hb (dk hX5_carried_0 2 rfl) (by decide) (fun hc => ?_) (fun hc => ?_)
  · replace hf := in_ hf hc
    refine lv_iconst (v := (0 : Int32)) hx hb (dk hX5_carried_0 7 rfl) (by decide) ?_
    refine lv_istore_n (lv' := [(2, .int (0 : Int32)), (0, .ref (ad 0)), (1, .int p0)]) hx hb (dk hX5_carried_0 8 rfl) rfl hl (by decide) rfl (fun ls hl => ?_)
    refine lv_iconst (v := (0 : Int32)) hx hb (dk hX5_carried_0 9 rfl) (by decide) ?_
    refine lv_istore_n (lv' := [(3, .int (0 : Int32)), (2, .int (0 : Int32)), (0, .ref (ad 0)), (1, .int p0)]) hx hb (dk hX5_carried_0 10 rfl) rfl hl (by decide) rfl (fun ls hl => ?_)
    refine l_X5_carried_L17 C 1000 _ _ hf _ _ hs _ (lv_sub hl [2, 3, 1, 0] rfl) (fun y2_7 hf H locs hs ls hl => ?_)
    refine lv_iload_n hx hb (dk hX5_carried_0 31 rfl) rfl (lv_at hl 0 rfl) ?_
    cases hf
    exact ri C hs (dk hX5_carried_0 32 rfl)
  · replace hf := ip hf hc
    refine lv_aload_n hx hb (dk hX5_carried_0 3 rfl) rfl (lv_at hl 0 rfl) ?_
    refine lv_iconst (v := (-1 : Int32)) hx hb (dk hX5_carried_0 4 rfl) (by decide) ?_
    obtain ⟨u_8, e_9, hf⟩ := Option.bind_eq_some_iff.mp hf
    refine Ct.V (As := [.int (-1 : Int32)]) (rest := []) (st1 := [.int u_8.2]) (w1 := (wM G ad u_8.1 there used hidden kind figure good load inn tape letter letterAt told kept row costs ships coughs day away taped reading statements hasImage isKeeping cursor backs free goodFor loadedWhen bareGood bareWhen rowMany lots)) C hs (c_X5_no e_9) tw_800 tw_802 tw_21 tw_85 tw_803 nq_X5_no (by decide) 0 5 rfl rfl rfl rfl hl.1 rfl (Nat.le_of_ble_eq_true rfl) (dk hX5_carried_0 5 rfl) ⟨Nat.zero_le _, Nat.zero_le _⟩ rfl (fun H locs hs => ?_)
    cases hf
    exact ri C hs (dk hX5_carried_0 6 rfl)

def X5_filled_L22 (k : Int32 → List Int32 → Int32 → Option (List Int32 × List Int32 × List Int32 × List Int32 × List Int32 × List Int32 × List Int32 × List Int32 × List Int32 × Int32 × Int32 × Int32 × Int32 × Int32 × Int32)) (used : List Int32) (kind : List Int32) (good : List Int32) (load : List Int32) (inn : List Int32) (ships : Int32) (free : Int32) : Nat → Int32 → Int32 → Int32 → List Int32 → Int32 → Option (List Int32 × List Int32 × List Int32 × List Int32 × List Int32 × List Int32 × List Int32 × List Int32 × List Int32 × Int32 × Int32 × Int32 × Int32 × Int32 × Int32)
  | 0, _, _, _, _, _ => none
  | n + 1, x1, x2, x3, there, coughs =>
  if ships ≤ x3 then
  k x2 there coughs
  else
  if (0 : Int32) ≤ x2 then
  k x2 there coughs
  else
  (rd inn x3).bind fun v_5 =>
  if v_5 = (1 : Int32) then
  X5_filled_L22 k used kind good load inn ships free n x1 x2 (x3 + (1 : Int32)) there coughs
  else
  (X5_bringsAll there kind good load coughs x3).bind fun u_7 =>
  (X5_allLack u_7.1 used free).bind fun u_9 =>
  if u_9 = (0 : Int32) then
  X5_filled_L22 k used kind good load inn ships free n (x1 + (1 : Int32)) (x1 + (1 : Int32)) (x3 + (1 : Int32)) u_7.1 u_7.2
  else
  X5_filled_L22 k used kind good load inn ships free n (x1 + (1 : Int32)) (-9 : Int32) (x3 + (1 : Int32)) u_7.1 u_7.2
def X5_filled (there : List Int32) (used : List Int32) (hidden : List Int32) (kind : List Int32) (figure : List Int32) (good : List Int32) (load : List Int32) (inn : List Int32) (kept : List Int32) (ships : Int32) (coughs : Int32) (day : Int32) (isKeeping : Int32) (cursor : Int32) (free : Int32) : Option (List Int32 × List Int32 × List Int32 × List Int32 × List Int32 × List Int32 × List Int32 × List Int32 × List Int32 × Int32 × Int32 × Int32 × Int32 × Int32 × Int32) :=
  (X5_thinks there used hidden kind figure good load inn kept ships coughs day isKeeping cursor).bind fun u_1 =>
  (X5_allLack u_1.1 u_1.2.1 free).bind fun u_3 =>
  if u_3 = (0 : Int32) then
  X5_filled_L22 (fun y2_16 there_17 coughs_18 =>
  (X5_forgets there_17 u_1.2.1 u_1.2.2.1 u_1.2.2.2.1 u_1.2.2.2.2.1 u_1.2.2.2.2.2.1 u_1.2.2.2.2.2.2.1 u_1.2.2.2.2.2.2.2.1 u_1.2.2.2.2.2.2.2.2.1 u_1.2.2.2.2.2.2.2.2.2.1 coughs_18 u_1.2.2.2.2.2.2.2.2.2.2.2.1 u_1.2.2.2.2.2.2.2.2.2.2.2.2.1 u_1.2.2.2.2.2.2.2.2.2.2.2.2.2).bind fun u_19 =>
  some (u_19.1, u_19.2.1, u_19.2.2.1, u_19.2.2.2.1, u_19.2.2.2.2.1, u_19.2.2.2.2.2.1, u_19.2.2.2.2.2.2.1, u_19.2.2.2.2.2.2.2.1, u_19.2.2.2.2.2.2.2.2.1, u_19.2.2.2.2.2.2.2.2.2.1, u_19.2.2.2.2.2.2.2.2.2.2.1, u_19.2.2.2.2.2.2.2.2.2.2.2.1, u_19.2.2.2.2.2.2.2.2.2.2.2.2.1, u_19.2.2.2.2.2.2.2.2.2.2.2.2.2, y2_16)) u_1.2.1 u_1.2.2.2.1 u_1.2.2.2.2.2.1 u_1.2.2.2.2.2.2.1 u_1.2.2.2.2.2.2.2.1 u_1.2.2.2.2.2.2.2.2.2.1 free 1000 (0 : Int32) (0 : Int32) (0 : Int32) u_1.1 u_1.2.2.2.2.2.2.2.2.2.2.1
  else
  X5_filled_L22 (fun y2_11 there_12 coughs_13 =>
  (X5_forgets there_12 u_1.2.1 u_1.2.2.1 u_1.2.2.2.1 u_1.2.2.2.2.1 u_1.2.2.2.2.2.1 u_1.2.2.2.2.2.2.1 u_1.2.2.2.2.2.2.2.1 u_1.2.2.2.2.2.2.2.2.1 u_1.2.2.2.2.2.2.2.2.2.1 coughs_13 u_1.2.2.2.2.2.2.2.2.2.2.2.1 u_1.2.2.2.2.2.2.2.2.2.2.2.2.1 u_1.2.2.2.2.2.2.2.2.2.2.2.2.2).bind fun u_14 =>
  some (u_14.1, u_14.2.1, u_14.2.2.1, u_14.2.2.2.1, u_14.2.2.2.2.1, u_14.2.2.2.2.2.1, u_14.2.2.2.2.2.2.1, u_14.2.2.2.2.2.2.2.1, u_14.2.2.2.2.2.2.2.2.1, u_14.2.2.2.2.2.2.2.2.2.1, u_14.2.2.2.2.2.2.2.2.2.2.1, u_14.2.2.2.2.2.2.2.2.2.2.2.1, u_14.2.2.2.2.2.2.2.2.2.2.2.2.1, u_14.2.2.2.2.2.2.2.2.2.2.2.2.2, y2_11)) u_1.2.1 u_1.2.2.2.1 u_1.2.2.2.2.2.1 u_1.2.2.2.2.2.2.1 u_1.2.2.2.2.2.2.2.1 u_1.2.2.2.2.2.2.2.2.2.1 free 1000 (0 : Int32) (-9 : Int32) (0 : Int32) u_1.1 u_1.2.2.2.2.2.2.2.2.2.2.1
set_option maxRecDepth 100000 in
set_option maxHeartbeats 4000000 in
theorem l_X5_filled_L22 {l : Launch} {p : Program} {e : Env} {s : State} {m : MethodId} {args : Array Value} {below : List Frame} {meth : Method} {c : Code} {A : Nat → Prop} {G : Gx} {ad : Nat → Nat} {refused used hidden kind figure good load inn tape letter letterAt told kept row costs : List Int32} {ships day away taped reading statements hasImage isKeeping cursor backs free goodFor loadedWhen bareGood bareWhen rowMany lots : Int32} {k : Int32 → List Int32 → Int32 → Option (List Int32 × List Int32 × List Int32 × List Int32 × List Int32 × List Int32 × List Int32 × List Int32 × List Int32 × Int32 × Int32 × Int32 × Int32 × Int32 × Int32)} {out : List Int32 × List Int32 × List Int32 × List Int32 × List Int32 × List Int32 × List Int32 × List Int32 × List Int32 × Int32 × Int32 × Int32 × Int32 × Int32 × Int32} (C : Cx p s m args meth c cX5_filled RX5 4 (some .int) G) : ∀ (n : Nat) (x1 : Int32) (x2 : Int32) (x3 : Int32) (there : List Int32) (coughs : Int32), X5_filled_L22 k used kind good load inn ships free n x1 x2 x3 there coughs = some out → ∀ (H : Heap) (locs : List Loc), St G A s.heap H locs (wM G ad refused there used hidden kind figure good load inn tape letter letterAt told kept row costs ships coughs day away taped reading statements hasImage isKeeping cursor backs free goodFor loadedWhen bareGood bareWhen rowMany lots) → ∀ ls : Array Slot, lv_has ls 4 [(0, .ref (ad 0)), (1, .int x1), (2, .int x2), (3, .int x3)] → (∀ (y2 : Int32) (z_there : List Int32) (z_coughs : Int32), k y2 z_there z_coughs = some out → ∀ (H : Heap) (locs : List Loc), St G A s.heap H locs (wM G ad refused z_there used hidden kind figure good load inn tape letter letterAt told kept row costs ships z_coughs day away taped reading statements hasImage isKeeping cursor backs free goodFor loadedWhen bareGood bareWhen rowMany lots) → ∀ ls : Array Slot, lv_has ls 4 [(0, .ref (ad 0)), (2, .int y2)] → W p l e (rmOf 3 66) s m args below meth c H locs 0 0 (MQ below (Qof G A (some (.int out.2.2.2.2.2.2.2.2.2.2.2.2.2.2)) (wM G ad refused out.1 out.2.1 out.2.2.1 out.2.2.2.1 out.2.2.2.2.1 out.2.2.2.2.2.1 out.2.2.2.2.2.2.1 out.2.2.2.2.2.2.2.1 tape letter letterAt told out.2.2.2.2.2.2.2.2.1 row costs out.2.2.2.2.2.2.2.2.2.1 out.2.2.2.2.2.2.2.2.2.2.1 out.2.2.2.2.2.2.2.2.2.2.2.1 away taped reading statements hasImage out.2.2.2.2.2.2.2.2.2.2.2.2.1 out.2.2.2.2.2.2.2.2.2.2.2.2.2.1 backs free goodFor loadedWhen bareGood bareWhen rowMany lots)) args s 0 0 A) (F0 m 75 ls [])) → W p l e (rmOf 3 66) s m args below meth c H locs 0 0 (MQ below (Qof G A (some (.int out.2.2.2.2.2.2.2.2.2.2.2.2.2.2)) (wM G ad refused out.1 out.2.1 out.2.2.1 out.2.2.2.1 out.2.2.2.2.1 out.2.2.2.2.2.1 out.2.2.2.2.2.2.1 out.2.2.2.2.2.2.2.1 tape letter letterAt told out.2.2.2.2.2.2.2.2.1 row costs out.2.2.2.2.2.2.2.2.2.1 out.2.2.2.2.2.2.2.2.2.2.1 out.2.2.2.2.2.2.2.2.2.2.2.1 away taped reading statements hasImage out.2.2.2.2.2.2.2.2.2.2.2.2.1 out.2.2.2.2.2.2.2.2.2.2.2.2.2.1 backs free goodFor loadedWhen bareGood bareWhen rowMany lots)) args s 0 0 A) (F0 m 22 ls []) := by
  obtain ⟨hx, hb, hml, hown, hts, hK, hret, hlk⟩ := id C
  intro n
  induction n with
  | zero => intro x1 x2 x3 there coughs hf; cases hf
  | succ n ih =>
    intro x1 x2 x3 there coughs hf H locs hs ls hl hk
    rw [X5_filled_L22] at hf
    refine lv_iload_n hx hb (dk hX5_filled_0 13 rfl) rfl (lv_at hl 3 rfl) ?_
    refine lv_aload_n hx hb (dk hX5_filled_0 14 rfl) rfl (lv_at hl 0 rfl) ?_
    refine rg ui5 rfl C hs 0 rfl 9 (by decide) tw_699 rfl rfl (dk hX5_filled_0 15 rfl) ?_
    refine lv_icmp_ge (tgt := 75) hx hb (dk hX5_filled_0 16 rfl) (by decide) (fun hc => ?_) (fun hc => ?_)
    · replace hf := ip hf hc
      exact hk _ _ _ hf _ _ hs _ (lv_sub hl [0, 2] rfl)
    · replace hf := in_ hf hc
      refine lv_iload_n hx hb (dk hX5_filled_0 17 rfl) rfl (lv_at hl 2 rfl) ?_
      refine lv_if_ge (tgt := 75) hx hb (dk hX5_filled_0 18 rfl) (by decide) (fun hc => ?_) (fun hc => ?_)
      · replace hf := ip hf hc
        exact hk _ _ _ hf _ _ hs _ (lv_sub hl [0, 2] rfl)
      · replace hf := in_ hf hc
        refine lv_aload_n hx hb (dk hX5_filled_0 19 rfl) rfl (lv_at hl 0 rfl) ?_
        refine rg ui5 rfl C hs 0 rfl 8 (by decide) tw_698 rfl rfl (dk hX5_filled_0 20 rfl) ?_
        refine lv_iload_n hx hb (dk hX5_filled_0 21 rfl) rfl (lv_at hl 3 rfl) ?_
        obtain ⟨v_5, e_6, hf⟩ := Option.bind_eq_some_iff.mp hf
        refine rild C hs 9 rfl e_6 (dk hX5_filled_0 22 rfl) ?_
        refine lv_iconst (v := (1 : Int32)) hx hb (dk hX5_filled_0 23 rfl) (by decide) ?_
        refine lv_icmp_ne (tgt := 47) hx hb (dk hX5_filled_0 24 rfl) (by decide) (fun hc => ?_) (fun hc => ?_)
        · replace hf := in_ hf hc
          refine lv_aload_n hx hb (dk hX5_filled_0 26 rfl) rfl (lv_at hl 0 rfl) ?_
          refine lv_iload_n hx hb (dk hX5_filled_0 27 rfl) rfl (lv_at hl 3 rfl) ?_
          obtain ⟨u_7, e_8, hf⟩ := Option.bind_eq_some_iff.mp hf
          refine Ct.V (As := [.int x3]) (rest := []) (st1 := []) (w1 := (wM G ad refused u_7.1 used hidden kind figure good load inn tape letter letterAt told kept row costs ships u_7.2 day away taped reading statements hasImage isKeeping cursor backs free goodFor loadedWhen bareGood bareWhen rowMany lots)) C hs (c_X5_bringsAll e_8) tw_904 tw_906 tw_43 tw_85 tw_907 nq_X5_bringsAll (by decide) 0 5 rfl rfl rfl rfl hl.1 rfl (Nat.le_of_ble_eq_true rfl) (dk hX5_filled_0 28 rfl) ⟨Nat.zero_le _, Nat.zero_le _⟩ rfl (fun H locs hs => ?_)
          refine lv_iinc (v := (x1 + (1 : Int32))) (lv' := [(1, .int (x1 + (1 : Int32))), (0, .ref (ad 0)), (2, .int x2), (3, .int x3)]) hx hb (dk hX5_filled_0 29 rfl) hl (k := 1) rfl (by first | rfl | decide) (by decide) rfl (fun ls hl => ?_)
          refine lv_aload_n hx hb (dk hX5_filled_0 30 rfl) rfl (lv_at hl 1 rfl) ?_
          obtain ⟨u_9, e_10, hf⟩ := Option.bind_eq_some_iff.mp hf
          refine Ct.V (As := []) (rest := []) (st1 := [.int u_9]) (w1 := (wM G ad refused u_7.1 used hidden kind figure good load inn tape letter letterAt told kept row costs ships u_7.2 day away taped reading statements hasImage isKeeping cursor backs free goodFor loadedWhen bareGood bareWhen rowMany lots)) C hs (c_X5_allLack e_10) tw_1081 tw_1083 tw_64 tw_85 tw_1084 nq_X5_allLack (by decide) 0 5 rfl rfl rfl rfl hl.1 rfl (Nat.le_of_ble_eq_true rfl) (dk hX5_filled_0 31 rfl) ⟨Nat.zero_le _, Nat.zero_le _⟩ rfl (fun H locs hs => ?_)
          refine lv_if_ne (tgt := 66) hx hb (dk hX5_filled_0 32 rfl) (by decide) (fun hc => ?_) (fun hc => ?_)
          · replace hf := in_ hf hc
            refine lv_bipush (v := (-9 : Int32)) hx hb (dk hX5_filled_0 35 rfl) (by decide) ?_
            refine lv_istore_n (lv' := [(2, .int (-9 : Int32)), (1, .int (x1 + (1 : Int32))), (0, .ref (ad 0)), (3, .int x3)]) hx hb (dk hX5_filled_0 36 rfl) rfl hl (by decide) rfl (fun ls hl => ?_)
            refine lv_iinc (v := (x3 + (1 : Int32))) (lv' := [(3, .int (x3 + (1 : Int32))), (2, .int (-9 : Int32)), (1, .int (x1 + (1 : Int32))), (0, .ref (ad 0))]) hx hb (dk hX5_filled_0 37 rfl) hl (k := 3) rfl (by first | rfl | decide) (by decide) rfl (fun ls hl => ?_)
            refine lv_goto (tgt := 22) hx hb (dk hX5_filled_0 38 rfl) (by decide) ?_
            exact ih _ _ _ _ _ hf _ _ hs _ (lv_sub hl [3, 2, 1, 0] rfl) hk
          · replace hf := ip hf hc
            refine lv_iload_n hx hb (dk hX5_filled_0 33 rfl) rfl (lv_at hl 0 rfl) ?_
            refine lv_goto (tgt := 68) hx hb (dk hX5_filled_0 34 rfl) (by decide) ?_
            refine lv_istore_n (lv' := [(2, .int (x1 + (1 : Int32))), (1, .int (x1 + (1 : Int32))), (0, .ref (ad 0)), (3, .int x3)]) hx hb (dk hX5_filled_0 36 rfl) rfl hl (by decide) rfl (fun ls hl => ?_)
            refine lv_iinc (v := (x3 + (1 : Int32))) (lv' := [(3, .int (x3 + (1 : Int32))), (2, .int (x1 + (1 : Int32))), (1, .int (x1 + (1 : Int32))), (0, .ref (ad 0))]) hx hb (dk hX5_filled_0 37 rfl) hl (k := 3) rfl (by first | rfl | decide) (by decide) rfl (fun ls hl => ?_)
            refine lv_goto (tgt := 22) hx hb (dk hX5_filled_0 38 rfl) (by decide) ?_
            exact ih _ _ _ _ _ hf _ _ hs _ (lv_sub hl [3, 2, 1, 0] rfl) hk
        · replace hf := ip hf hc
          refine lv_goto (tgt := 69) hx hb (dk hX5_filled_0 25 rfl) (by decide) ?_
          refine lv_iinc (v := (x3 + (1 : Int32))) (lv' := [(3, .int (x3 + (1 : Int32))), (0, .ref (ad 0)), (1, .int x1), (2, .int x2)]) hx hb (dk hX5_filled_0 37 rfl) hl (k := 3) rfl (by first | rfl | decide) (by decide) rfl (fun ls hl => ?_)
          refine lv_goto (tgt := 22) hx hb (dk hX5_filled_0 38 rfl) (by decide) ?_
          exact ih _ _ _ _ _ hf _ _ hs _ (lv_sub hl [1, 2, 3, 0] rfl) hk
set_option maxRecDepth 100000 in
set_option maxHeartbeats 4000000 in
theorem c_X5_filled {l : Launch} {G : Gx} {ad : Nat → Nat} {refused there used hidden kind figure good load inn tape letter letterAt told kept row costs : List Int32} {ships coughs day away taped reading statements hasImage isKeeping cursor backs free goodFor loadedWhen bareGood bareWhen rowMany lots : Int32}  {out : List Int32 × List Int32 × List Int32 × List Int32 × List Int32 × List Int32 × List Int32 × List Int32 × List Int32 × Int32 × Int32 × Int32 × Int32 × Int32 × Int32} (hf : X5_filled there used hidden kind figure good load inn kept ships coughs day isKeeping cursor free = some out) : Ct l G yX5_filled cX5_filled 4 (some .int) 3 66 [.ref (ad 0)] (wM G ad refused there used hidden kind figure good load inn tape letter letterAt told kept row costs ships coughs day away taped reading statements hasImage isKeeping cursor backs free goodFor loadedWhen bareGood bareWhen rowMany lots) (some (.int out.2.2.2.2.2.2.2.2.2.2.2.2.2.2)) (wM G ad refused out.1 out.2.1 out.2.2.1 out.2.2.2.1 out.2.2.2.2.1 out.2.2.2.2.2.1 out.2.2.2.2.2.2.1 out.2.2.2.2.2.2.2.1 tape letter letterAt told out.2.2.2.2.2.2.2.2.1 row costs out.2.2.2.2.2.2.2.2.2.1 out.2.2.2.2.2.2.2.2.2.2.1 out.2.2.2.2.2.2.2.2.2.2.2.1 away taped reading statements hasImage out.2.2.2.2.2.2.2.2.2.2.2.2.1 out.2.2.2.2.2.2.2.2.2.2.2.2.2.1 backs free goodFor loadedWhen bareGood bareWhen rowMany lots) := by
  refine Ct.intro RX5 rfl (plainFor_of_name (by decide)) (Nat.le_of_ble_eq_true rfl) rfl ?_
  intro p e s m args below meth c A C H locs hs ls hl
  obtain ⟨hx, hb, hml, hown, hts, hK, hret, hlk⟩ := id C
  have hl : lv_has ls 4 [(0, .ref (ad 0))] := hl
  unfold X5_filled at hf
  refine lv_aload_n hx hb (dk hX5_filled_0 0 rfl) rfl (lv_at hl 0 rfl) ?_
  obtain ⟨u_1, e_2, hf⟩ := Option.bind_eq_some_iff.mp hf
  refine Ct.V (As := []) (rest := []) (st1 := []) (w1 := (wM G ad refused u_1.1 u_1.2.1 u_1.2.2.1 u_1.2.2.2.1 u_1.2.2.2.2.1 u_1.2.2.2.2.2.1 u_1.2.2.2.2.2.2.1 u_1.2.2.2.2.2.2.2.1 tape letter letterAt told u_1.2.2.2.2.2.2.2.2.1 row costs u_1.2.2.2.2.2.2.2.2.2.1 u_1.2.2.2.2.2.2.2.2.2.2.1 u_1.2.2.2.2.2.2.2.2.2.2.2.1 away taped reading statements hasImage u_1.2.2.2.2.2.2.2.2.2.2.2.2.1 u_1.2.2.2.2.2.2.2.2.2.2.2.2.2 backs free goodFor loadedWhen bareGood bareWhen rowMany lots)) C hs (c_X5_thinks e_2) tw_993 tw_995 tw_51 tw_85 tw_996 nq_X5_thinks (by decide) 0 5 rfl rfl rfl rfl hl.1 rfl (Nat.le_of_ble_eq_true rfl) (dk hX5_filled_0 1 rfl) ⟨Nat.zero_le _, Nat.zero_le _⟩ rfl (fun H locs hs => ?_)
  refine lv_iconst (v := (0 : Int32)) hx hb (dk hX5_filled_0 2 rfl) (by decide) ?_
  refine lv_istore_n (lv' := [(1, .int (0 : Int32)), (0, .ref (ad 0))]) hx hb (dk hX5_filled_0 3 rfl) rfl hl (by decide) rfl (fun ls hl => ?_)
  refine lv_aload_n hx hb (dk hX5_filled_0 4 rfl) rfl (lv_at hl 1 rfl) ?_
  obtain ⟨u_3, e_4, hf⟩ := Option.bind_eq_some_iff.mp hf
  refine Ct.V (As := []) (rest := []) (st1 := [.int u_3]) (w1 := (wM G ad refused u_1.1 u_1.2.1 u_1.2.2.1 u_1.2.2.2.1 u_1.2.2.2.2.1 u_1.2.2.2.2.2.1 u_1.2.2.2.2.2.2.1 u_1.2.2.2.2.2.2.2.1 tape letter letterAt told u_1.2.2.2.2.2.2.2.2.1 row costs u_1.2.2.2.2.2.2.2.2.2.1 u_1.2.2.2.2.2.2.2.2.2.2.1 u_1.2.2.2.2.2.2.2.2.2.2.2.1 away taped reading statements hasImage u_1.2.2.2.2.2.2.2.2.2.2.2.2.1 u_1.2.2.2.2.2.2.2.2.2.2.2.2.2 backs free goodFor loadedWhen bareGood bareWhen rowMany lots)) C hs (c_X5_allLack e_4) tw_1081 tw_1083 tw_64 tw_85 tw_1084 nq_X5_allLack (by decide) 0 5 rfl rfl rfl rfl hl.1 rfl (Nat.le_of_ble_eq_true rfl) (dk hX5_filled_0 5 rfl) ⟨Nat.zero_le _, Nat.zero_le _⟩ rfl (fun H locs hs => ?_)
  refine lv_if_ne (tgt := 17) hx hb (dk hX5_filled_0 6 rfl) (by decide) (fun hc => ?_) (fun hc => ?_)
  · replace hf := in_ hf hc
    refine lv_bipush (v := (-9 : Int32)) hx hb (dk hX5_filled_0 9 rfl) (by decide) ?_
    refine lv_istore_n (lv' := [(2, .int (-9 : Int32)), (1, .int (0 : Int32)), (0, .ref (ad 0))]) hx hb (dk hX5_filled_0 10 rfl) rfl hl (by decide) rfl (fun ls hl => ?_)
    refine lv_iconst (v := (0 : Int32)) hx hb (dk hX5_filled_0 11 rfl) (by decide) ?_
    refine lv_istore_n (lv' := [(3, .int (0 : Int32)), (2, .int (-9 : Int32)), (1, .int (0 : Int32)), (0, .ref (ad 0))]) hx hb (dk hX5_filled_0 12 rfl) rfl hl (by decide) rfl (fun ls hl => ?_)
    refine l_X5_filled_L22 C 1000 _ _ _ _ _ hf _ _ hs _ (lv_sub hl [3, 2, 1, 0] rfl) (fun y2_11 there_12 coughs_13 hf H locs hs ls hl => ?_)
    refine lv_aload_n hx hb (dk hX5_filled_0 39 rfl) rfl (lv_at hl 0 rfl) ?_
    obtain ⟨u_14, e_15, hf⟩ := Option.bind_eq_some_iff.mp hf
    refine Ct.V (As := []) (rest := []) (st1 := []) (w1 := (wM G ad refused u_14.1 u_14.2.1 u_14.2.2.1 u_14.2.2.2.1 u_14.2.2.2.2.1 u_14.2.2.2.2.2.1 u_14.2.2.2.2.2.2.1 u_14.2.2.2.2.2.2.2.1 tape letter letterAt told u_14.2.2.2.2.2.2.2.2.1 row costs u_14.2.2.2.2.2.2.2.2.2.1 u_14.2.2.2.2.2.2.2.2.2.2.1 u_14.2.2.2.2.2.2.2.2.2.2.2.1 away taped reading statements hasImage u_14.2.2.2.2.2.2.2.2.2.2.2.2.1 u_14.2.2.2.2.2.2.2.2.2.2.2.2.2 backs free goodFor loadedWhen bareGood bareWhen rowMany lots)) C hs (c_X5_forgets e_15) tw_997 tw_999 tw_52 tw_85 tw_1000 nq_X5_forgets (by decide) 0 5 rfl rfl rfl rfl hl.1 rfl (Nat.le_of_ble_eq_true rfl) (dk hX5_filled_1 0 rfl) ⟨Nat.zero_le _, Nat.zero_le _⟩ rfl (fun H locs hs => ?_)
    refine lv_iload_n hx hb (dk hX5_filled_1 1 rfl) rfl (lv_at hl 1 rfl) ?_
    cases hf
    exact ri C hs (dk hX5_filled_1 2 rfl)
  · replace hf := ip hf hc
    refine lv_iconst (v := (0 : Int32)) hx hb (dk hX5_filled_0 7 rfl) (by decide) ?_
    refine lv_goto (tgt := 19) hx hb (dk hX5_filled_0 8 rfl) (by decide) ?_
    refine lv_istore_n (lv' := [(2, .int (0 : Int32)), (1, .int (0 : Int32)), (0, .ref (ad 0))]) hx hb (dk hX5_filled_0 10 rfl) rfl hl (by decide) rfl (fun ls hl => ?_)
    refine lv_iconst (v := (0 : Int32)) hx hb (dk hX5_filled_0 11 rfl) (by decide) ?_
    refine lv_istore_n (lv' := [(3, .int (0 : Int32)), (2, .int (0 : Int32)), (1, .int (0 : Int32)), (0, .ref (ad 0))]) hx hb (dk hX5_filled_0 12 rfl) rfl hl (by decide) rfl (fun ls hl => ?_)
    refine l_X5_filled_L22 C 1000 _ _ _ _ _ hf _ _ hs _ (lv_sub hl [3, 2, 1, 0] rfl) (fun y2_16 there_17 coughs_18 hf H locs hs ls hl => ?_)
    refine lv_aload_n hx hb (dk hX5_filled_0 39 rfl) rfl (lv_at hl 0 rfl) ?_
    obtain ⟨u_19, e_20, hf⟩ := Option.bind_eq_some_iff.mp hf
    refine Ct.V (As := []) (rest := []) (st1 := []) (w1 := (wM G ad refused u_19.1 u_19.2.1 u_19.2.2.1 u_19.2.2.2.1 u_19.2.2.2.2.1 u_19.2.2.2.2.2.1 u_19.2.2.2.2.2.2.1 u_19.2.2.2.2.2.2.2.1 tape letter letterAt told u_19.2.2.2.2.2.2.2.2.1 row costs u_19.2.2.2.2.2.2.2.2.2.1 u_19.2.2.2.2.2.2.2.2.2.2.1 u_19.2.2.2.2.2.2.2.2.2.2.2.1 away taped reading statements hasImage u_19.2.2.2.2.2.2.2.2.2.2.2.2.1 u_19.2.2.2.2.2.2.2.2.2.2.2.2.2 backs free goodFor loadedWhen bareGood bareWhen rowMany lots)) C hs (c_X5_forgets e_20) tw_997 tw_999 tw_52 tw_85 tw_1000 nq_X5_forgets (by decide) 0 5 rfl rfl rfl rfl hl.1 rfl (Nat.le_of_ble_eq_true rfl) (dk hX5_filled_1 0 rfl) ⟨Nat.zero_le _, Nat.zero_le _⟩ rfl (fun H locs hs => ?_)
    refine lv_iload_n hx hb (dk hX5_filled_1 1 rfl) rfl (lv_at hl 1 rfl) ?_
    cases hf
    exact ri C hs (dk hX5_filled_1 2 rfl)

def X5_spared (refused : List Int32) (there : List Int32) (used : List Int32) (hidden : List Int32) (kind : List Int32) (figure : List Int32) (good : List Int32) (load : List Int32) (inn : List Int32) (kept : List Int32) (ships : Int32) (coughs : Int32) (day : Int32) (away : Int32) (isKeeping : Int32) (cursor : Int32) (free : Int32) (p0 : Int32) (p1 : Int32) : Option (List Int32 × List Int32 × List Int32 × List Int32 × List Int32 × List Int32 × List Int32 × List Int32 × List Int32 × List Int32 × Int32 × Int32 × Int32 × Int32 × Int32 × Int32) :=
  (X5_isGood p0).bind fun u_1 =>
  if u_1 = (0 : Int32) then
  (X5_lower refused (-1 : Int32)).bind fun u_27 =>
  some (u_27.1, there, used, hidden, kind, figure, good, load, inn, kept, ships, coughs, day, isKeeping, cursor, u_27.2)
  else
  (X5_notDays p1).bind fun u_3 =>
  if u_3 = (0 : Int32) then
  (X5_wantIn there used hidden kind figure good load inn kept ships coughs day away isKeeping cursor free p1).bind fun u_5 =>
  (rd u_5.1 p0).bind fun v_7 =>
  (rd u_5.2.2.1 p0).bind fun v_9 =>
  (X5_held (v_7 + v_9) (0 : Int32) (99 : Int32)).bind fun u_11 =>
  (wr u_5.1 p0 u_11).bind fun there_13 =>
  (rd u_5.2.2.1 p0).bind fun v_15 =>
  (wr u_5.2.2.1 p0 (0 : Int32)).bind fun hidden_17 =>
  (X5_wantIn there_13 u_5.2.1 hidden_17 u_5.2.2.2.1 u_5.2.2.2.2.1 u_5.2.2.2.2.2.1 u_5.2.2.2.2.2.2.1 u_5.2.2.2.2.2.2.2.1 u_5.2.2.2.2.2.2.2.2.1 u_5.2.2.2.2.2.2.2.2.2.1 u_5.2.2.2.2.2.2.2.2.2.2.1 u_5.2.2.2.2.2.2.2.2.2.2.2.1 away u_5.2.2.2.2.2.2.2.2.2.2.2.2.1 u_5.2.2.2.2.2.2.2.2.2.2.2.2.2.1 free p1).bind fun u_19 =>
  (wr u_19.2.2.1 p0 v_15).bind fun hidden_21 =>
  (wr u_19.1 p0 v_7).bind fun there_23 =>
  some (refused, there_23, u_19.2.1, hidden_21, u_19.2.2.2.1, u_19.2.2.2.2.1, u_19.2.2.2.2.2.1, u_19.2.2.2.2.2.2.1, u_19.2.2.2.2.2.2.2.1, u_19.2.2.2.2.2.2.2.2.1, u_19.2.2.2.2.2.2.2.2.2.1, u_19.2.2.2.2.2.2.2.2.2.2.1, u_19.2.2.2.2.2.2.2.2.2.2.2.1, u_19.2.2.2.2.2.2.2.2.2.2.2.2.1, u_19.2.2.2.2.2.2.2.2.2.2.2.2.2.1, (u_5.2.2.2.2.2.2.2.2.2.2.2.2.2.2 - u_19.2.2.2.2.2.2.2.2.2.2.2.2.2.2))
  else
  (X5_lower refused u_3).bind fun u_25 =>
  some (u_25.1, there, used, hidden, kind, figure, good, load, inn, kept, ships, coughs, day, isKeeping, cursor, u_25.2)
set_option maxRecDepth 100000 in
set_option maxHeartbeats 4000000 in
theorem c_X5_spared {l : Launch} {G : Gx} {ad : Nat → Nat} {refused there used hidden kind figure good load inn tape letter letterAt told kept row costs : List Int32} {ships coughs day away taped reading statements hasImage isKeeping cursor backs free goodFor loadedWhen bareGood bareWhen rowMany lots : Int32} {p0 : Int32} {p1 : Int32} {out : List Int32 × List Int32 × List Int32 × List Int32 × List Int32 × List Int32 × List Int32 × List Int32 × List Int32 × List Int32 × Int32 × Int32 × Int32 × Int32 × Int32 × Int32} (hf : X5_spared refused there used hidden kind figure good load inn kept ships coughs day away isKeeping cursor free p0 p1 = some out) : Ct l G yX5_spared cX5_spared 8 (some .int) 7 152 [.ref (ad 0), .int p0, .int p1] (wM G ad refused there used hidden kind figure good load inn tape letter letterAt told kept row costs ships coughs day away taped reading statements hasImage isKeeping cursor backs free goodFor loadedWhen bareGood bareWhen rowMany lots) (some (.int out.2.2.2.2.2.2.2.2.2.2.2.2.2.2.2)) (wM G ad out.1 out.2.1 out.2.2.1 out.2.2.2.1 out.2.2.2.2.1 out.2.2.2.2.2.1 out.2.2.2.2.2.2.1 out.2.2.2.2.2.2.2.1 out.2.2.2.2.2.2.2.2.1 tape letter letterAt told out.2.2.2.2.2.2.2.2.2.1 row costs out.2.2.2.2.2.2.2.2.2.2.1 out.2.2.2.2.2.2.2.2.2.2.2.1 out.2.2.2.2.2.2.2.2.2.2.2.2.1 away taped reading statements hasImage out.2.2.2.2.2.2.2.2.2.2.2.2.2.1 out.2.2.2.2.2.2.2.2.2.2.2.2.2.2.1 backs free goodFor loadedWhen bareGood bareWhen rowMany lots) := by
  refine Ct.intro RX5 rfl (plainFor_of_name (by decide)) (Nat.le_of_ble_eq_true rfl) rfl ?_
  intro p e s m args below meth c A C H locs hs ls hl
  obtain ⟨hx, hb, hml, hown, hts, hK, hret, hlk⟩ := id C
  have hl : lv_has ls 8 [(0, .ref (ad 0)), (1, .int p0), (2, .int p1)] := hl
  unfold X5_spared at hf
  refine lv_iload_n hx hb (dk hX5_spared_0 0 rfl) rfl (lv_at hl 1 rfl) ?_
  obtain ⟨u_1, e_2, hf⟩ := Option.bind_eq_some_iff.mp hf
  refine Ct.S (As := [.int p0]) (rest := []) (st1 := [.int u_1]) (w1 := (wM G ad refused there used hidden kind figure good load inn tape letter letterAt told kept row costs ships coughs day away taped reading statements hasImage isKeeping cursor backs free goodFor loadedWhen bareGood bareWhen rowMany lots)) C hs (c_X5_isGood e_2) tw_847 tw_848 tw_85 tw_849 nq_X5_isGood (by decide) rfl hl.1 rfl (Nat.le_of_ble_eq_true rfl) (dk hX5_spared_0 1 rfl) ⟨Nat.zero_le _, Nat.zero_le _⟩ rfl (fun H locs hs => ?_)
  refine lv_if_ne (tgt := 11) hx hb (dk hX5_spared_0 2 rfl) (by decide) (fun hc => ?_) (fun hc => ?_)
  · replace hf := in_ hf hc
    refine lv_iload_n hx hb (dk hX5_spared_0 5 rfl) rfl (lv_at hl 2 rfl) ?_
    obtain ⟨u_3, e_4, hf⟩ := Option.bind_eq_some_iff.mp hf
    refine Ct.S (As := [.int p1]) (rest := []) (st1 := [.int u_3]) (w1 := (wM G ad refused there used hidden kind figure good load inn tape letter letterAt told kept row costs ships coughs day away taped reading statements hasImage isKeeping cursor backs free goodFor loadedWhen bareGood bareWhen rowMany lots)) C hs (c_X5_notDays e_4) tw_990 tw_991 tw_85 tw_992 nq_X5_notDays (by decide) rfl hl.1 rfl (Nat.le_of_ble_eq_true rfl) (dk hX5_spared_0 6 rfl) ⟨Nat.zero_le _, Nat.zero_le _⟩ rfl (fun H locs hs => ?_)
    refine lv_istore_n (lv' := [(3, .int u_3), (0, .ref (ad 0)), (1, .int p0), (2, .int p1)]) hx hb (dk hX5_spared_0 7 rfl) rfl hl (by decide) rfl (fun ls hl => ?_)
    refine lv_iload_n hx hb (dk hX5_spared_0 8 rfl) rfl (lv_at hl 0 rfl) ?_
    refine lv_if_eq (tgt := 26) hx hb (dk hX5_spared_0 9 rfl) (by decide) (fun hc => ?_) (fun hc => ?_)
    · replace hf := ip hf hc
      refine lv_aload_n hx hb (dk hX5_spared_0 14 rfl) rfl (lv_at hl 1 rfl) ?_
      refine lv_iload_n hx hb (dk hX5_spared_0 15 rfl) rfl (lv_at hl 3 rfl) ?_
      obtain ⟨u_5, e_6, hf⟩ := Option.bind_eq_some_iff.mp hf
      refine Ct.V (As := [.int p1]) (rest := []) (st1 := [.int u_5.2.2.2.2.2.2.2.2.2.2.2.2.2.2]) (w1 := (wM G ad refused u_5.1 u_5.2.1 u_5.2.2.1 u_5.2.2.2.1 u_5.2.2.2.2.1 u_5.2.2.2.2.2.1 u_5.2.2.2.2.2.2.1 u_5.2.2.2.2.2.2.2.1 tape letter letterAt told u_5.2.2.2.2.2.2.2.2.1 row costs u_5.2.2.2.2.2.2.2.2.2.1 u_5.2.2.2.2.2.2.2.2.2.2.1 u_5.2.2.2.2.2.2.2.2.2.2.2.1 away taped reading statements hasImage u_5.2.2.2.2.2.2.2.2.2.2.2.2.1 u_5.2.2.2.2.2.2.2.2.2.2.2.2.2.1 backs free goodFor loadedWhen bareGood bareWhen rowMany lots)) C hs (c_X5_wantIn e_6) tw_1077 tw_1079 tw_63 tw_85 tw_1080 nq_X5_wantIn (by decide) 0 5 rfl rfl rfl rfl hl.1 rfl (Nat.le_of_ble_eq_true rfl) (dk hX5_spared_0 16 rfl) ⟨Nat.zero_le _, Nat.zero_le _⟩ rfl (fun H locs hs => ?_)
      refine lv_istore (lv' := [(4, .int u_5.2.2.2.2.2.2.2.2.2.2.2.2.2.2), (3, .int u_3), (0, .ref (ad 0)), (1, .int p0), (2, .int p1)]) hx hb (dk hX5_spared_0 17 rfl) hl (by decide) rfl (fun ls hl => ?_)
      refine lv_aload_n hx hb (dk hX5_spared_0 18 rfl) rfl (lv_at hl 2 rfl) ?_
      refine rg ui5 rfl C hs 0 rfl 1 (by decide) tw_691 rfl rfl (dk hX5_spared_0 19 rfl) ?_
      refine lv_iload_n hx hb (dk hX5_spared_0 20 rfl) rfl (lv_at hl 3 rfl) ?_
      obtain ⟨v_7, e_8, hf⟩ := Option.bind_eq_some_iff.mp hf
      refine rild C hs 2 rfl e_8 (dk hX5_spared_0 21 rfl) ?_
      refine lv_istore (lv' := [(5, .int v_7), (4, .int u_5.2.2.2.2.2.2.2.2.2.2.2.2.2.2), (3, .int u_3), (0, .ref (ad 0)), (1, .int p0), (2, .int p1)]) hx hb (dk hX5_spared_0 22 rfl) hl (by decide) rfl (fun ls hl => ?_)
      refine lv_aload_n hx hb (dk hX5_spared_0 23 rfl) rfl (lv_at hl 3 rfl) ?_
      refine rg ui5 rfl C hs 0 rfl 1 (by decide) tw_691 rfl rfl (dk hX5_spared_0 24 rfl) ?_
      refine lv_iload_n hx hb (dk hX5_spared_0 25 rfl) rfl (lv_at hl 4 rfl) ?_
      refine lv_iload hx hb (dk hX5_spared_0 26 rfl) (lv_at hl 0 rfl) ?_
      refine lv_aload_n hx hb (dk hX5_spared_0 27 rfl) rfl (lv_at hl 3 rfl) ?_
      refine rg ui5 rfl C hs 0 rfl 3 (by decide) tw_693 rfl rfl (dk hX5_spared_0 28 rfl) ?_
      refine lv_iload_n hx hb (dk hX5_spared_0 29 rfl) rfl (lv_at hl 4 rfl) ?_
      obtain ⟨v_9, e_10, hf⟩ := Option.bind_eq_some_iff.mp hf
      refine rild C hs 4 rfl e_10 (dk hX5_spared_0 30 rfl) ?_
      refine lv_iadd hx hb (dk hX5_spared_0 31 rfl) ?_
      refine lv_iconst (v := (0 : Int32)) hx hb (dk hX5_spared_0 32 rfl) (by decide) ?_
      refine lv_bipush (v := (99 : Int32)) hx hb (dk hX5_spared_0 33 rfl) (by decide) ?_
      obtain ⟨u_11, e_12, hf⟩ := Option.bind_eq_some_iff.mp hf
      refine Ct.S (As := [.int (v_7 + v_9), .int (0 : Int32), .int (99 : Int32)]) (rest := [.int p0, .ref (ad 2)]) (st1 := [.int u_11, .int p0, .ref (ad 2)]) (w1 := (wM G ad refused u_5.1 u_5.2.1 u_5.2.2.1 u_5.2.2.2.1 u_5.2.2.2.2.1 u_5.2.2.2.2.2.1 u_5.2.2.2.2.2.2.1 u_5.2.2.2.2.2.2.2.1 tape letter letterAt told u_5.2.2.2.2.2.2.2.2.1 row costs u_5.2.2.2.2.2.2.2.2.2.1 u_5.2.2.2.2.2.2.2.2.2.2.1 u_5.2.2.2.2.2.2.2.2.2.2.2.1 away taped reading statements hasImage u_5.2.2.2.2.2.2.2.2.2.2.2.2.1 u_5.2.2.2.2.2.2.2.2.2.2.2.2.2.1 backs free goodFor loadedWhen bareGood bareWhen rowMany lots)) C hs (c_X5_held e_12) tw_912 tw_913 tw_85 tw_914 nq_X5_held (by decide) rfl hl.1 rfl (Nat.le_of_ble_eq_true rfl) (dk hX5_spared_0 34 rfl) ⟨Nat.zero_le _, Nat.zero_le _⟩ rfl (fun H locs hs => ?_)
      obtain ⟨there_13, e_14, hf⟩ := Option.bind_eq_some_iff.mp hf
      refine rist (w1 := (wM G ad refused there_13 u_5.2.1 u_5.2.2.1 u_5.2.2.2.1 u_5.2.2.2.2.1 u_5.2.2.2.2.2.1 u_5.2.2.2.2.2.2.1 u_5.2.2.2.2.2.2.2.1 tape letter letterAt told u_5.2.2.2.2.2.2.2.2.1 row costs u_5.2.2.2.2.2.2.2.2.2.1 u_5.2.2.2.2.2.2.2.2.2.2.1 u_5.2.2.2.2.2.2.2.2.2.2.2.1 away taped reading statements hasImage u_5.2.2.2.2.2.2.2.2.2.2.2.2.1 u_5.2.2.2.2.2.2.2.2.2.2.2.2.2.1 backs free goodFor loadedWhen bareGood bareWhen rowMany lots)) C hs 2 rfl e_14 rfl (dk hX5_spared_0 35 rfl) (fun H locs hs => ?_)
      refine lv_aload_n hx hb (dk hX5_spared_0 36 rfl) rfl (lv_at hl 3 rfl) ?_
      refine rg ui5 rfl C hs 0 rfl 3 (by decide) tw_693 rfl rfl (dk hX5_spared_0 37 rfl) ?_
      refine lv_iload_n hx hb (dk hX5_spared_0 38 rfl) rfl (lv_at hl 4 rfl) ?_
      obtain ⟨v_15, e_16, hf⟩ := Option.bind_eq_some_iff.mp hf
      refine rild C hs 4 rfl e_16 (dk hX5_spared_0 39 rfl) ?_
      refine lv_istore (lv' := [(6, .int v_15), (5, .int v_7), (4, .int u_5.2.2.2.2.2.2.2.2.2.2.2.2.2.2), (3, .int u_3), (0, .ref (ad 0)), (1, .int p0), (2, .int p1)]) hx hb (dk hX5_spared_1 0 rfl) hl (by decide) rfl (fun ls hl => ?_)
      refine lv_aload_n hx hb (dk hX5_spared_1 1 rfl) rfl (lv_at hl 4 rfl) ?_
      refine rg ui5 rfl C hs 0 rfl 3 (by decide) tw_693 rfl rfl (dk hX5_spared_1 2 rfl) ?_
      refine lv_iload_n hx hb (dk hX5_spared_1 3 rfl) rfl (lv_at hl 5 rfl) ?_
      refine lv_iconst (v := (0 : Int32)) hx hb (dk hX5_spared_1 4 rfl) (by decide) ?_
      obtain ⟨hidden_17, e_18, hf⟩ := Option.bind_eq_some_iff.mp hf
      refine rist (w1 := (wM G ad refused there_13 u_5.2.1 hidden_17 u_5.2.2.2.1 u_5.2.2.2.2.1 u_5.2.2.2.2.2.1 u_5.2.2.2.2.2.2.1 u_5.2.2.2.2.2.2.2.1 tape letter letterAt told u_5.2.2.2.2.2.2.2.2.1 row costs u_5.2.2.2.2.2.2.2.2.2.1 u_5.2.2.2.2.2.2.2.2.2.2.1 u_5.2.2.2.2.2.2.2.2.2.2.2.1 away taped reading statements hasImage u_5.2.2.2.2.2.2.2.2.2.2.2.2.1 u_5.2.2.2.2.2.2.2.2.2.2.2.2.2.1 backs free goodFor loadedWhen bareGood bareWhen rowMany lots)) C hs 4 rfl e_18 rfl (dk hX5_spared_1 5 rfl) (fun H locs hs => ?_)
      refine lv_iload hx hb (dk hX5_spared_1 6 rfl) (lv_at hl 2 rfl) ?_
      refine lv_aload_n hx hb (dk hX5_spared_1 7 rfl) rfl (lv_at hl 4 rfl) ?_
      refine lv_iload_n hx hb (dk hX5_spared_1 8 rfl) rfl (lv_at hl 6 rfl) ?_
      obtain ⟨u_19, e_20, hf⟩ := Option.bind_eq_some_iff.mp hf
      refine Ct.V (As := [.int p1]) (rest := [.int u_5.2.2.2.2.2.2.2.2.2.2.2.2.2.2]) (st1 := [.int u_19.2.2.2.2.2.2.2.2.2.2.2.2.2.2, .int u_5.2.2.2.2.2.2.2.2.2.2.2.2.2.2]) (w1 := (wM G ad refused u_19.1 u_19.2.1 u_19.2.2.1 u_19.2.2.2.1 u_19.2.2.2.2.1 u_19.2.2.2.2.2.1 u_19.2.2.2.2.2.2.1 u_19.2.2.2.2.2.2.2.1 tape letter letterAt told u_19.2.2.2.2.2.2.2.2.1 row costs u_19.2.2.2.2.2.2.2.2.2.1 u_19.2.2.2.2.2.2.2.2.2.2.1 u_19.2.2.2.2.2.2.2.2.2.2.2.1 away taped reading statements hasImage u_19.2.2.2.2.2.2.2.2.2.2.2.2.1 u_19.2.2.2.2.2.2.2.2.2.2.2.2.2.1 backs free goodFor loadedWhen bareGood bareWhen rowMany lots)) C hs (c_X5_wantIn e_20) tw_1077 tw_1079 tw_63 tw_85 tw_1080 nq_X5_wantIn (by decide) 0 5 rfl rfl rfl rfl hl.1 rfl (Nat.le_of_ble_eq_true rfl) (dk hX5_spared_1 9 rfl) ⟨Nat.zero_le _, Nat.zero_le _⟩ rfl (fun H locs hs => ?_)
      refine lv_isub hx hb (dk hX5_spared_1 10 rfl) ?_
      refine lv_istore (lv' := [(7, .int (u_5.2.2.2.2.2.2.2.2.2.2.2.2.2.2 - u_19.2.2.2.2.2.2.2.2.2.2.2.2.2.2)), (6, .int v_15), (5, .int v_7), (4, .int u_5.2.2.2.2.2.2.2.2.2.2.2.2.2.2), (3, .int u_3), (0, .ref (ad 0)), (1, .int p0), (2, .int p1)]) hx hb (dk hX5_spared_1 11 rfl) hl (by decide) rfl (fun ls hl => ?_)
      refine lv_aload_n hx hb (dk hX5_spared_1 12 rfl) rfl (lv_at hl 5 rfl) ?_
      refine rg ui5 rfl C hs 0 rfl 3 (by decide) tw_693 rfl rfl (dk hX5_spared_1 13 rfl) ?_
      refine lv_iload_n hx hb (dk hX5_spared_1 14 rfl) rfl (lv_at hl 6 rfl) ?_
      refine lv_iload hx hb (dk hX5_spared_1 15 rfl) (lv_at hl 1 rfl) ?_
      obtain ⟨hidden_21, e_22, hf⟩ := Option.bind_eq_some_iff.mp hf
      refine rist (w1 := (wM G ad refused u_19.1 u_19.2.1 hidden_21 u_19.2.2.2.1 u_19.2.2.2.2.1 u_19.2.2.2.2.2.1 u_19.2.2.2.2.2.2.1 u_19.2.2.2.2.2.2.2.1 tape letter letterAt told u_19.2.2.2.2.2.2.2.2.1 row costs u_19.2.2.2.2.2.2.2.2.2.1 u_19.2.2.2.2.2.2.2.2.2.2.1 u_19.2.2.2.2.2.2.2.2.2.2.2.1 away taped reading statements hasImage u_19.2.2.2.2.2.2.2.2.2.2.2.2.1 u_19.2.2.2.2.2.2.2.2.2.2.2.2.2.1 backs free goodFor loadedWhen bareGood bareWhen rowMany lots)) C hs 4 rfl e_22 rfl (dk hX5_spared_1 16 rfl) (fun H locs hs => ?_)
      refine lv_aload_n hx hb (dk hX5_spared_1 17 rfl) rfl (lv_at hl 5 rfl) ?_
      refine rg ui5 rfl C hs 0 rfl 1 (by decide) tw_691 rfl rfl (dk hX5_spared_1 18 rfl) ?_
      refine lv_iload_n hx hb (dk hX5_spared_1 19 rfl) rfl (lv_at hl 6 rfl) ?_
      refine lv_iload hx hb (dk hX5_spared_1 20 rfl) (lv_at hl 2 rfl) ?_
      obtain ⟨there_23, e_24, hf⟩ := Option.bind_eq_some_iff.mp hf
      refine rist (w1 := (wM G ad refused there_23 u_19.2.1 hidden_21 u_19.2.2.2.1 u_19.2.2.2.2.1 u_19.2.2.2.2.2.1 u_19.2.2.2.2.2.2.1 u_19.2.2.2.2.2.2.2.1 tape letter letterAt told u_19.2.2.2.2.2.2.2.2.1 row costs u_19.2.2.2.2.2.2.2.2.2.1 u_19.2.2.2.2.2.2.2.2.2.2.1 u_19.2.2.2.2.2.2.2.2.2.2.2.1 away taped reading statements hasImage u_19.2.2.2.2.2.2.2.2.2.2.2.2.1 u_19.2.2.2.2.2.2.2.2.2.2.2.2.2.1 backs free goodFor loadedWhen bareGood bareWhen rowMany lots)) C hs 2 rfl e_24 rfl (dk hX5_spared_1 21 rfl) (fun H locs hs => ?_)
      refine lv_iload hx hb (dk hX5_spared_1 22 rfl) (lv_at hl 0 rfl) ?_
      cases hf
      exact ri C hs (dk hX5_spared_1 23 rfl)
    · replace hf := in_ hf hc
      refine lv_aload_n hx hb (dk hX5_spared_0 10 rfl) rfl (lv_at hl 1 rfl) ?_
      refine lv_iload_n hx hb (dk hX5_spared_0 11 rfl) rfl (lv_at hl 0 rfl) ?_
      obtain ⟨u_25, e_26, hf⟩ := Option.bind_eq_some_iff.mp hf
      refine Ct.V (As := [.int u_3]) (rest := []) (st1 := [.int u_25.2]) (w1 := (wM G ad u_25.1 there used hidden kind figure good load inn tape letter letterAt told kept row costs ships coughs day away taped reading statements hasImage isKeeping cursor backs free goodFor loadedWhen bareGood bareWhen rowMany lots)) C hs (c_X5_lower e_26) tw_1196 tw_1198 tw_76 tw_85 tw_1199 nq_X5_lower (by decide) 0 5 rfl rfl rfl rfl hl.1 rfl (Nat.le_of_ble_eq_true rfl) (dk hX5_spared_0 12 rfl) ⟨Nat.zero_le _, Nat.zero_le _⟩ rfl (fun H locs hs => ?_)
      cases hf
      exact ri C hs (dk hX5_spared_0 13 rfl)
  · replace hf := ip hf hc
    refine lv_iconst (v := (-1 : Int32)) hx hb (dk hX5_spared_0 3 rfl) (by decide) ?_
    refine lv_goto (tgt := 15) hx hb (dk hX5_spared_0 4 rfl) (by decide) ?_
    refine lv_istore_n (lv' := [(3, .int (-1 : Int32)), (0, .ref (ad 0)), (1, .int p0), (2, .int p1)]) hx hb (dk hX5_spared_0 7 rfl) rfl hl (by decide) rfl (fun ls hl => ?_)
    refine lv_iload_n hx hb (dk hX5_spared_0 8 rfl) rfl (lv_at hl 0 rfl) ?_
    refine lv_if_eq (tgt := 26) hx hb (dk hX5_spared_0 9 rfl) (by decide) (fun hc => ?_) (fun hc => ?_)
    · exact absurd hc (by decide)
    · refine lv_aload_n hx hb (dk hX5_spared_0 10 rfl) rfl (lv_at hl 1 rfl) ?_
      refine lv_iload_n hx hb (dk hX5_spared_0 11 rfl) rfl (lv_at hl 0 rfl) ?_
      obtain ⟨u_27, e_28, hf⟩ := Option.bind_eq_some_iff.mp hf
      refine Ct.V (As := [.int (-1 : Int32)]) (rest := []) (st1 := [.int u_27.2]) (w1 := (wM G ad u_27.1 there used hidden kind figure good load inn tape letter letterAt told kept row costs ships coughs day away taped reading statements hasImage isKeeping cursor backs free goodFor loadedWhen bareGood bareWhen rowMany lots)) C hs (c_X5_lower e_28) tw_1196 tw_1198 tw_76 tw_85 tw_1199 nq_X5_lower (by decide) 0 5 rfl rfl rfl rfl hl.1 rfl (Nat.le_of_ble_eq_true rfl) (dk hX5_spared_0 12 rfl) ⟨Nat.zero_le _, Nat.zero_le _⟩ rfl (fun H locs hs => ?_)
      cases hf
      exact ri C hs (dk hX5_spared_0 13 rfl)

def X5_race (refused : List Int32) (there : List Int32) (used : List Int32) (hidden : List Int32) (kind : List Int32) (figure : List Int32) (good : List Int32) (load : List Int32) (inn : List Int32) (kept : List Int32) (ships : Int32) (coughs : Int32) (day : Int32) (away : Int32) (isKeeping : Int32) (cursor : Int32) (free : Int32) (p0 : Int32) (p1 : Int32) : Option (List Int32 × List Int32 × List Int32 × List Int32 × List Int32 × List Int32 × List Int32 × List Int32 × List Int32 × List Int32 × Int32 × Int32 × Int32 × Int32 × Int32 × Int32) :=
  (X5_isShip ships p0).bind fun u_1 =>
  if u_1 = (0 : Int32) then
  (X5_no refused (-1 : Int32)).bind fun u_3 =>
  some (u_3.1, there, used, hidden, kind, figure, good, load, inn, kept, ships, coughs, day, isKeeping, cursor, u_3.2)
  else
  (X5_isShip ships p1).bind fun u_5 =>
  if u_5 = (0 : Int32) then
  (X5_no refused (-1 : Int32)).bind fun u_7 =>
  some (u_7.1, there, used, hidden, kind, figure, good, load, inn, kept, ships, coughs, day, isKeeping, cursor, u_7.2)
  else
  if p0 = p1 then
  (X5_no refused (-1 : Int32)).bind fun u_25 =>
  some (u_25.1, there, used, hidden, kind, figure, good, load, inn, kept, ships, coughs, day, isKeeping, cursor, u_25.2)
  else
  if p1 ≤ p0 then
  if p1 ≤ p0 then
  (X5_comesIn there used hidden kind figure good load inn kept ships coughs day away isKeeping cursor free p1 (60 : Int32)).bind fun u_9 =>
  (X5_comesIn u_9.1 u_9.2.1 u_9.2.2.1 u_9.2.2.2.1 u_9.2.2.2.2.1 u_9.2.2.2.2.2.1 u_9.2.2.2.2.2.2.1 u_9.2.2.2.2.2.2.2.1 u_9.2.2.2.2.2.2.2.2.1 u_9.2.2.2.2.2.2.2.2.2.1 u_9.2.2.2.2.2.2.2.2.2.2.1 u_9.2.2.2.2.2.2.2.2.2.2.2.1 away u_9.2.2.2.2.2.2.2.2.2.2.2.2.1 u_9.2.2.2.2.2.2.2.2.2.2.2.2.2.1 free p0 (60 : Int32)).bind fun u_11 =>
  if (0 : Int32) ≤ u_9.2.2.2.2.2.2.2.2.2.2.2.2.2.2 then
  if u_11.2.2.2.2.2.2.2.2.2.2.2.2.2.2 < (0 : Int32) then
  some (refused, u_11.1, u_11.2.1, u_11.2.2.1, u_11.2.2.2.1, u_11.2.2.2.2.1, u_11.2.2.2.2.2.1, u_11.2.2.2.2.2.2.1, u_11.2.2.2.2.2.2.2.1, u_11.2.2.2.2.2.2.2.2.1, u_11.2.2.2.2.2.2.2.2.2.1, u_11.2.2.2.2.2.2.2.2.2.2.1, u_11.2.2.2.2.2.2.2.2.2.2.2.1, u_11.2.2.2.2.2.2.2.2.2.2.2.2.1, u_11.2.2.2.2.2.2.2.2.2.2.2.2.2.1, p1)
  else
  if u_9.2.2.2.2.2.2.2.2.2.2.2.2.2.2 ≤ u_11.2.2.2.2.2.2.2.2.2.2.2.2.2.2 then
  some (refused, u_11.1, u_11.2.1, u_11.2.2.1, u_11.2.2.2.1, u_11.2.2.2.2.1, u_11.2.2.2.2.2.1, u_11.2.2.2.2.2.2.1, u_11.2.2.2.2.2.2.2.1, u_11.2.2.2.2.2.2.2.2.1, u_11.2.2.2.2.2.2.2.2.2.1, u_11.2.2.2.2.2.2.2.2.2.2.1, u_11.2.2.2.2.2.2.2.2.2.2.2.1, u_11.2.2.2.2.2.2.2.2.2.2.2.2.1, u_11.2.2.2.2.2.2.2.2.2.2.2.2.2.1, p1)
  else
  some (refused, u_11.1, u_11.2.1, u_11.2.2.1, u_11.2.2.2.1, u_11.2.2.2.2.1, u_11.2.2.2.2.2.1, u_11.2.2.2.2.2.2.1, u_11.2.2.2.2.2.2.2.1, u_11.2.2.2.2.2.2.2.2.1, u_11.2.2.2.2.2.2.2.2.2.1, u_11.2.2.2.2.2.2.2.2.2.2.1, u_11.2.2.2.2.2.2.2.2.2.2.2.1, u_11.2.2.2.2.2.2.2.2.2.2.2.2.1, u_11.2.2.2.2.2.2.2.2.2.2.2.2.2.1, p0)
  else
  if (0 : Int32) ≤ u_11.2.2.2.2.2.2.2.2.2.2.2.2.2.2 then
  some (refused, u_11.1, u_11.2.1, u_11.2.2.1, u_11.2.2.2.1, u_11.2.2.2.2.1, u_11.2.2.2.2.2.1, u_11.2.2.2.2.2.2.1, u_11.2.2.2.2.2.2.2.1, u_11.2.2.2.2.2.2.2.2.1, u_11.2.2.2.2.2.2.2.2.2.1, u_11.2.2.2.2.2.2.2.2.2.2.1, u_11.2.2.2.2.2.2.2.2.2.2.2.1, u_11.2.2.2.2.2.2.2.2.2.2.2.2.1, u_11.2.2.2.2.2.2.2.2.2.2.2.2.2.1, p0)
  else
  some (refused, u_11.1, u_11.2.1, u_11.2.2.1, u_11.2.2.2.1, u_11.2.2.2.2.1, u_11.2.2.2.2.2.1, u_11.2.2.2.2.2.2.1, u_11.2.2.2.2.2.2.2.1, u_11.2.2.2.2.2.2.2.2.1, u_11.2.2.2.2.2.2.2.2.2.1, u_11.2.2.2.2.2.2.2.2.2.2.1, u_11.2.2.2.2.2.2.2.2.2.2.2.1, u_11.2.2.2.2.2.2.2.2.2.2.2.2.1, u_11.2.2.2.2.2.2.2.2.2.2.2.2.2.1, (-9 : Int32))
  else
  (X5_comesIn there used hidden kind figure good load inn kept ships coughs day away isKeeping cursor free p1 (60 : Int32)).bind fun u_13 =>
  (X5_comesIn u_13.1 u_13.2.1 u_13.2.2.1 u_13.2.2.2.1 u_13.2.2.2.2.1 u_13.2.2.2.2.2.1 u_13.2.2.2.2.2.2.1 u_13.2.2.2.2.2.2.2.1 u_13.2.2.2.2.2.2.2.2.1 u_13.2.2.2.2.2.2.2.2.2.1 u_13.2.2.2.2.2.2.2.2.2.2.1 u_13.2.2.2.2.2.2.2.2.2.2.2.1 away u_13.2.2.2.2.2.2.2.2.2.2.2.2.1 u_13.2.2.2.2.2.2.2.2.2.2.2.2.2.1 free p1 (60 : Int32)).bind fun u_15 =>
  if (0 : Int32) ≤ u_13.2.2.2.2.2.2.2.2.2.2.2.2.2.2 then
  if u_15.2.2.2.2.2.2.2.2.2.2.2.2.2.2 < (0 : Int32) then
  some (refused, u_15.1, u_15.2.1, u_15.2.2.1, u_15.2.2.2.1, u_15.2.2.2.2.1, u_15.2.2.2.2.2.1, u_15.2.2.2.2.2.2.1, u_15.2.2.2.2.2.2.2.1, u_15.2.2.2.2.2.2.2.2.1, u_15.2.2.2.2.2.2.2.2.2.1, u_15.2.2.2.2.2.2.2.2.2.2.1, u_15.2.2.2.2.2.2.2.2.2.2.2.1, u_15.2.2.2.2.2.2.2.2.2.2.2.2.1, u_15.2.2.2.2.2.2.2.2.2.2.2.2.2.1, p1)
  else
  if u_13.2.2.2.2.2.2.2.2.2.2.2.2.2.2 ≤ u_15.2.2.2.2.2.2.2.2.2.2.2.2.2.2 then
  some (refused, u_15.1, u_15.2.1, u_15.2.2.1, u_15.2.2.2.1, u_15.2.2.2.2.1, u_15.2.2.2.2.2.1, u_15.2.2.2.2.2.2.1, u_15.2.2.2.2.2.2.2.1, u_15.2.2.2.2.2.2.2.2.1, u_15.2.2.2.2.2.2.2.2.2.1, u_15.2.2.2.2.2.2.2.2.2.2.1, u_15.2.2.2.2.2.2.2.2.2.2.2.1, u_15.2.2.2.2.2.2.2.2.2.2.2.2.1, u_15.2.2.2.2.2.2.2.2.2.2.2.2.2.1, p1)
  else
  some (refused, u_15.1, u_15.2.1, u_15.2.2.1, u_15.2.2.2.1, u_15.2.2.2.2.1, u_15.2.2.2.2.2.1, u_15.2.2.2.2.2.2.1, u_15.2.2.2.2.2.2.2.1, u_15.2.2.2.2.2.2.2.2.1, u_15.2.2.2.2.2.2.2.2.2.1, u_15.2.2.2.2.2.2.2.2.2.2.1, u_15.2.2.2.2.2.2.2.2.2.2.2.1, u_15.2.2.2.2.2.2.2.2.2.2.2.2.1, u_15.2.2.2.2.2.2.2.2.2.2.2.2.2.1, p1)
  else
  if (0 : Int32) ≤ u_15.2.2.2.2.2.2.2.2.2.2.2.2.2.2 then
  some (refused, u_15.1, u_15.2.1, u_15.2.2.1, u_15.2.2.2.1, u_15.2.2.2.2.1, u_15.2.2.2.2.2.1, u_15.2.2.2.2.2.2.1, u_15.2.2.2.2.2.2.2.1, u_15.2.2.2.2.2.2.2.2.1, u_15.2.2.2.2.2.2.2.2.2.1, u_15.2.2.2.2.2.2.2.2.2.2.1, u_15.2.2.2.2.2.2.2.2.2.2.2.1, u_15.2.2.2.2.2.2.2.2.2.2.2.2.1, u_15.2.2.2.2.2.2.2.2.2.2.2.2.2.1, p1)
  else
  some (refused, u_15.1, u_15.2.1, u_15.2.2.1, u_15.2.2.2.1, u_15.2.2.2.2.1, u_15.2.2.2.2.2.1, u_15.2.2.2.2.2.2.1, u_15.2.2.2.2.2.2.2.1, u_15.2.2.2.2.2.2.2.2.1, u_15.2.2.2.2.2.2.2.2.2.1, u_15.2.2.2.2.2.2.2.2.2.2.1, u_15.2.2.2.2.2.2.2.2.2.2.2.1, u_15.2.2.2.2.2.2.2.2.2.2.2.2.1, u_15.2.2.2.2.2.2.2.2.2.2.2.2.2.1, (-9 : Int32))
  else
  if p1 ≤ p0 then
  (X5_comesIn there used hidden kind figure good load inn kept ships coughs day away isKeeping cursor free p0 (60 : Int32)).bind fun u_17 =>
  (X5_comesIn u_17.1 u_17.2.1 u_17.2.2.1 u_17.2.2.2.1 u_17.2.2.2.2.1 u_17.2.2.2.2.2.1 u_17.2.2.2.2.2.2.1 u_17.2.2.2.2.2.2.2.1 u_17.2.2.2.2.2.2.2.2.1 u_17.2.2.2.2.2.2.2.2.2.1 u_17.2.2.2.2.2.2.2.2.2.2.1 u_17.2.2.2.2.2.2.2.2.2.2.2.1 away u_17.2.2.2.2.2.2.2.2.2.2.2.2.1 u_17.2.2.2.2.2.2.2.2.2.2.2.2.2.1 free p0 (60 : Int32)).bind fun u_19 =>
  if (0 : Int32) ≤ u_17.2.2.2.2.2.2.2.2.2.2.2.2.2.2 then
  if u_19.2.2.2.2.2.2.2.2.2.2.2.2.2.2 < (0 : Int32) then
  some (refused, u_19.1, u_19.2.1, u_19.2.2.1, u_19.2.2.2.1, u_19.2.2.2.2.1, u_19.2.2.2.2.2.1, u_19.2.2.2.2.2.2.1, u_19.2.2.2.2.2.2.2.1, u_19.2.2.2.2.2.2.2.2.1, u_19.2.2.2.2.2.2.2.2.2.1, u_19.2.2.2.2.2.2.2.2.2.2.1, u_19.2.2.2.2.2.2.2.2.2.2.2.1, u_19.2.2.2.2.2.2.2.2.2.2.2.2.1, u_19.2.2.2.2.2.2.2.2.2.2.2.2.2.1, p0)
  else
  if u_17.2.2.2.2.2.2.2.2.2.2.2.2.2.2 ≤ u_19.2.2.2.2.2.2.2.2.2.2.2.2.2.2 then
  some (refused, u_19.1, u_19.2.1, u_19.2.2.1, u_19.2.2.2.1, u_19.2.2.2.2.1, u_19.2.2.2.2.2.1, u_19.2.2.2.2.2.2.1, u_19.2.2.2.2.2.2.2.1, u_19.2.2.2.2.2.2.2.2.1, u_19.2.2.2.2.2.2.2.2.2.1, u_19.2.2.2.2.2.2.2.2.2.2.1, u_19.2.2.2.2.2.2.2.2.2.2.2.1, u_19.2.2.2.2.2.2.2.2.2.2.2.2.1, u_19.2.2.2.2.2.2.2.2.2.2.2.2.2.1, p0)
  else
  some (refused, u_19.1, u_19.2.1, u_19.2.2.1, u_19.2.2.2.1, u_19.2.2.2.2.1, u_19.2.2.2.2.2.1, u_19.2.2.2.2.2.2.1, u_19.2.2.2.2.2.2.2.1, u_19.2.2.2.2.2.2.2.2.1, u_19.2.2.2.2.2.2.2.2.2.1, u_19.2.2.2.2.2.2.2.2.2.2.1, u_19.2.2.2.2.2.2.2.2.2.2.2.1, u_19.2.2.2.2.2.2.2.2.2.2.2.2.1, u_19.2.2.2.2.2.2.2.2.2.2.2.2.2.1, p0)
  else
  if (0 : Int32) ≤ u_19.2.2.2.2.2.2.2.2.2.2.2.2.2.2 then
  some (refused, u_19.1, u_19.2.1, u_19.2.2.1, u_19.2.2.2.1, u_19.2.2.2.2.1, u_19.2.2.2.2.2.1, u_19.2.2.2.2.2.2.1, u_19.2.2.2.2.2.2.2.1, u_19.2.2.2.2.2.2.2.2.1, u_19.2.2.2.2.2.2.2.2.2.1, u_19.2.2.2.2.2.2.2.2.2.2.1, u_19.2.2.2.2.2.2.2.2.2.2.2.1, u_19.2.2.2.2.2.2.2.2.2.2.2.2.1, u_19.2.2.2.2.2.2.2.2.2.2.2.2.2.1, p0)
  else
  some (refused, u_19.1, u_19.2.1, u_19.2.2.1, u_19.2.2.2.1, u_19.2.2.2.2.1, u_19.2.2.2.2.2.1, u_19.2.2.2.2.2.2.1, u_19.2.2.2.2.2.2.2.1, u_19.2.2.2.2.2.2.2.2.1, u_19.2.2.2.2.2.2.2.2.2.1, u_19.2.2.2.2.2.2.2.2.2.2.1, u_19.2.2.2.2.2.2.2.2.2.2.2.1, u_19.2.2.2.2.2.2.2.2.2.2.2.2.1, u_19.2.2.2.2.2.2.2.2.2.2.2.2.2.1, (-9 : Int32))
  else
  (X5_comesIn there used hidden kind figure good load inn kept ships coughs day away isKeeping cursor free p0 (60 : Int32)).bind fun u_21 =>
  (X5_comesIn u_21.1 u_21.2.1 u_21.2.2.1 u_21.2.2.2.1 u_21.2.2.2.2.1 u_21.2.2.2.2.2.1 u_21.2.2.2.2.2.2.1 u_21.2.2.2.2.2.2.2.1 u_21.2.2.2.2.2.2.2.2.1 u_21.2.2.2.2.2.2.2.2.2.1 u_21.2.2.2.2.2.2.2.2.2.2.1 u_21.2.2.2.2.2.2.2.2.2.2.2.1 away u_21.2.2.2.2.2.2.2.2.2.2.2.2.1 u_21.2.2.2.2.2.2.2.2.2.2.2.2.2.1 free p1 (60 : Int32)).bind fun u_23 =>
  if (0 : Int32) ≤ u_21.2.2.2.2.2.2.2.2.2.2.2.2.2.2 then
  if u_23.2.2.2.2.2.2.2.2.2.2.2.2.2.2 < (0 : Int32) then
  some (refused, u_23.1, u_23.2.1, u_23.2.2.1, u_23.2.2.2.1, u_23.2.2.2.2.1, u_23.2.2.2.2.2.1, u_23.2.2.2.2.2.2.1, u_23.2.2.2.2.2.2.2.1, u_23.2.2.2.2.2.2.2.2.1, u_23.2.2.2.2.2.2.2.2.2.1, u_23.2.2.2.2.2.2.2.2.2.2.1, u_23.2.2.2.2.2.2.2.2.2.2.2.1, u_23.2.2.2.2.2.2.2.2.2.2.2.2.1, u_23.2.2.2.2.2.2.2.2.2.2.2.2.2.1, p0)
  else
  if u_21.2.2.2.2.2.2.2.2.2.2.2.2.2.2 ≤ u_23.2.2.2.2.2.2.2.2.2.2.2.2.2.2 then
  some (refused, u_23.1, u_23.2.1, u_23.2.2.1, u_23.2.2.2.1, u_23.2.2.2.2.1, u_23.2.2.2.2.2.1, u_23.2.2.2.2.2.2.1, u_23.2.2.2.2.2.2.2.1, u_23.2.2.2.2.2.2.2.2.1, u_23.2.2.2.2.2.2.2.2.2.1, u_23.2.2.2.2.2.2.2.2.2.2.1, u_23.2.2.2.2.2.2.2.2.2.2.2.1, u_23.2.2.2.2.2.2.2.2.2.2.2.2.1, u_23.2.2.2.2.2.2.2.2.2.2.2.2.2.1, p0)
  else
  some (refused, u_23.1, u_23.2.1, u_23.2.2.1, u_23.2.2.2.1, u_23.2.2.2.2.1, u_23.2.2.2.2.2.1, u_23.2.2.2.2.2.2.1, u_23.2.2.2.2.2.2.2.1, u_23.2.2.2.2.2.2.2.2.1, u_23.2.2.2.2.2.2.2.2.2.1, u_23.2.2.2.2.2.2.2.2.2.2.1, u_23.2.2.2.2.2.2.2.2.2.2.2.1, u_23.2.2.2.2.2.2.2.2.2.2.2.2.1, u_23.2.2.2.2.2.2.2.2.2.2.2.2.2.1, p1)
  else
  if (0 : Int32) ≤ u_23.2.2.2.2.2.2.2.2.2.2.2.2.2.2 then
  some (refused, u_23.1, u_23.2.1, u_23.2.2.1, u_23.2.2.2.1, u_23.2.2.2.2.1, u_23.2.2.2.2.2.1, u_23.2.2.2.2.2.2.1, u_23.2.2.2.2.2.2.2.1, u_23.2.2.2.2.2.2.2.2.1, u_23.2.2.2.2.2.2.2.2.2.1, u_23.2.2.2.2.2.2.2.2.2.2.1, u_23.2.2.2.2.2.2.2.2.2.2.2.1, u_23.2.2.2.2.2.2.2.2.2.2.2.2.1, u_23.2.2.2.2.2.2.2.2.2.2.2.2.2.1, p1)
  else
  some (refused, u_23.1, u_23.2.1, u_23.2.2.1, u_23.2.2.2.1, u_23.2.2.2.2.1, u_23.2.2.2.2.2.1, u_23.2.2.2.2.2.2.1, u_23.2.2.2.2.2.2.2.1, u_23.2.2.2.2.2.2.2.2.1, u_23.2.2.2.2.2.2.2.2.2.1, u_23.2.2.2.2.2.2.2.2.2.2.1, u_23.2.2.2.2.2.2.2.2.2.2.2.1, u_23.2.2.2.2.2.2.2.2.2.2.2.2.1, u_23.2.2.2.2.2.2.2.2.2.2.2.2.2.1, (-9 : Int32))
set_option maxRecDepth 100000 in
set_option maxHeartbeats 4000000 in
theorem c_X5_race {l : Launch} {G : Gx} {ad : Nat → Nat} {refused there used hidden kind figure good load inn tape letter letterAt told kept row costs : List Int32} {ships coughs day away taped reading statements hasImage isKeeping cursor backs free goodFor loadedWhen bareGood bareWhen rowMany lots : Int32} {p0 : Int32} {p1 : Int32} {out : List Int32 × List Int32 × List Int32 × List Int32 × List Int32 × List Int32 × List Int32 × List Int32 × List Int32 × List Int32 × Int32 × Int32 × Int32 × Int32 × Int32 × Int32} (hf : X5_race refused there used hidden kind figure good load inn kept ships coughs day away isKeeping cursor free p0 p1 = some out) : Ct l G yX5_race cX5_race 7 (some .int) 7 153 [.ref (ad 0), .int p0, .int p1] (wM G ad refused there used hidden kind figure good load inn tape letter letterAt told kept row costs ships coughs day away taped reading statements hasImage isKeeping cursor backs free goodFor loadedWhen bareGood bareWhen rowMany lots) (some (.int out.2.2.2.2.2.2.2.2.2.2.2.2.2.2.2)) (wM G ad out.1 out.2.1 out.2.2.1 out.2.2.2.1 out.2.2.2.2.1 out.2.2.2.2.2.1 out.2.2.2.2.2.2.1 out.2.2.2.2.2.2.2.1 out.2.2.2.2.2.2.2.2.1 tape letter letterAt told out.2.2.2.2.2.2.2.2.2.1 row costs out.2.2.2.2.2.2.2.2.2.2.1 out.2.2.2.2.2.2.2.2.2.2.2.1 out.2.2.2.2.2.2.2.2.2.2.2.2.1 away taped reading statements hasImage out.2.2.2.2.2.2.2.2.2.2.2.2.2.1 out.2.2.2.2.2.2.2.2.2.2.2.2.2.2.1 backs free goodFor loadedWhen bareGood bareWhen rowMany lots) := by
  refine Ct.intro RX5 rfl (plainFor_of_name (by decide)) (Nat.le_of_ble_eq_true rfl) rfl ?_
  intro p e s m args below meth c A C H locs hs ls hl
  obtain ⟨hx, hb, hml, hown, hts, hK, hret, hlk⟩ := id C
  have hl : lv_has ls 7 [(0, .ref (ad 0)), (1, .int p0), (2, .int p1)] := hl
  unfold X5_race at hf
  refine lv_aload_n hx hb (dk hX5_race_0 0 rfl) rfl (lv_at hl 0 rfl) ?_
  refine lv_iload_n hx hb (dk hX5_race_0 1 rfl) rfl (lv_at hl 1 rfl) ?_
  obtain ⟨u_1, e_2, hf⟩ := Option.bind_eq_some_iff.mp hf
  refine Ct.V (As := [.int p0]) (rest := []) (st1 := [.int u_1]) (w1 := (wM G ad refused there used hidden kind figure good load inn tape letter letterAt told kept row costs ships coughs day away taped reading statements hasImage isKeeping cursor backs free goodFor loadedWhen bareGood bareWhen rowMany lots)) C hs (c_X5_isShip e_2) tw_854 tw_856 tw_32 tw_85 tw_857 nq_X5_isShip (by decide) 0 5 rfl rfl rfl rfl hl.1 rfl (Nat.le_of_ble_eq_true rfl) (dk hX5_race_0 2 rfl) ⟨Nat.zero_le _, Nat.zero_le _⟩ rfl (fun H locs hs => ?_)
  refine lv_if_eq (tgt := 21) hx hb (dk hX5_race_0 3 rfl) (by decide) (fun hc => ?_) (fun hc => ?_)
  · replace hf := ip hf hc
    refine lv_aload_n hx hb (dk hX5_race_0 11 rfl) rfl (lv_at hl 0 rfl) ?_
    refine lv_iconst (v := (-1 : Int32)) hx hb (dk hX5_race_0 12 rfl) (by decide) ?_
    obtain ⟨u_3, e_4, hf⟩ := Option.bind_eq_some_iff.mp hf
    refine Ct.V (As := [.int (-1 : Int32)]) (rest := []) (st1 := [.int u_3.2]) (w1 := (wM G ad u_3.1 there used hidden kind figure good load inn tape letter letterAt told kept row costs ships coughs day away taped reading statements hasImage isKeeping cursor backs free goodFor loadedWhen bareGood bareWhen rowMany lots)) C hs (c_X5_no e_4) tw_800 tw_802 tw_21 tw_85 tw_803 nq_X5_no (by decide) 0 5 rfl rfl rfl rfl hl.1 rfl (Nat.le_of_ble_eq_true rfl) (dk hX5_race_0 13 rfl) ⟨Nat.zero_le _, Nat.zero_le _⟩ rfl (fun H locs hs => ?_)
    cases hf
    exact ri C hs (dk hX5_race_0 14 rfl)
  · replace hf := in_ hf hc
    refine lv_aload_n hx hb (dk hX5_race_0 4 rfl) rfl (lv_at hl 0 rfl) ?_
    refine lv_iload_n hx hb (dk hX5_race_0 5 rfl) rfl (lv_at hl 2 rfl) ?_
    obtain ⟨u_5, e_6, hf⟩ := Option.bind_eq_some_iff.mp hf
    refine Ct.V (As := [.int p1]) (rest := []) (st1 := [.int u_5]) (w1 := (wM G ad refused there used hidden kind figure good load inn tape letter letterAt told kept row costs ships coughs day away taped reading statements hasImage isKeeping cursor backs free goodFor loadedWhen bareGood bareWhen rowMany lots)) C hs (c_X5_isShip e_6) tw_854 tw_856 tw_32 tw_85 tw_857 nq_X5_isShip (by decide) 0 5 rfl rfl rfl rfl hl.1 rfl (Nat.le_of_ble_eq_true rfl) (dk hX5_race_0 6 rfl) ⟨Nat.zero_le _, Nat.zero_le _⟩ rfl (fun H locs hs => ?_)
    refine lv_if_eq (tgt := 21) hx hb (dk hX5_race_0 7 rfl) (by decide) (fun hc => ?_) (fun hc => ?_)
    · replace hf := ip hf hc
      refine lv_aload_n hx hb (dk hX5_race_0 11 rfl) rfl (lv_at hl 0 rfl) ?_
      refine lv_iconst (v := (-1 : Int32)) hx hb (dk hX5_race_0 12 rfl) (by decide) ?_
      obtain ⟨u_7, e_8, hf⟩ := Option.bind_eq_some_iff.mp hf
      refine Ct.V (As := [.int (-1 : Int32)]) (rest := []) (st1 := [.int u_7.2]) (w1 := (wM G ad u_7.1 there used hidden kind figure good load inn tape letter letterAt told kept row costs ships coughs day away taped reading statements hasImage isKeeping cursor backs free goodFor loadedWhen bareGood bareWhen rowMany lots)) C hs (c_X5_no e_8) tw_800 tw_802 tw_21 tw_85 tw_803 nq_X5_no (by decide) 0 5 rfl rfl rfl rfl hl.1 rfl (Nat.le_of_ble_eq_true rfl) (dk hX5_race_0 13 rfl) ⟨Nat.zero_le _, Nat.zero_le _⟩ rfl (fun H locs hs => ?_)
      cases hf
      exact ri C hs (dk hX5_race_0 14 rfl)
    · replace hf := in_ hf hc
      refine lv_iload_n hx hb (dk hX5_race_0 8 rfl) rfl (lv_at hl 1 rfl) ?_
      refine lv_iload_n hx hb (dk hX5_race_0 9 rfl) rfl (lv_at hl 2 rfl) ?_
      refine lv_icmp_ne (tgt := 27) hx hb (dk hX5_race_0 10 rfl) (by decide) (fun hc => ?_) (fun hc => ?_)
      · replace hf := in_ hf hc
        refine lv_iload_n hx hb (dk hX5_race_0 15 rfl) rfl (lv_at hl 1 rfl) ?_
        refine lv_iload_n hx hb (dk hX5_race_0 16 rfl) rfl (lv_at hl 2 rfl) ?_
        refine lv_icmp_ge (tgt := 36) hx hb (dk hX5_race_0 17 rfl) (by decide) (fun hc => ?_) (fun hc => ?_)
        · replace hf := ip hf hc
          refine lv_iload_n hx hb (dk hX5_race_0 20 rfl) rfl (lv_at hl 2 rfl) ?_
          refine lv_istore_n (lv' := [(3, .int p1), (0, .ref (ad 0)), (1, .int p0), (2, .int p1)]) hx hb (dk hX5_race_0 21 rfl) rfl hl (by decide) rfl (fun ls hl => ?_)
          refine lv_iload_n hx hb (dk hX5_race_0 22 rfl) rfl (lv_at hl 2 rfl) ?_
          refine lv_iload_n hx hb (dk hX5_race_0 23 rfl) rfl (lv_at hl 3 rfl) ?_
          refine lv_icmp_ge (tgt := 47) hx hb (dk hX5_race_0 24 rfl) (by decide) (fun hc => ?_) (fun hc => ?_)
          · replace hf := ip hf hc
            refine lv_iload_n hx hb (dk hX5_race_0 27 rfl) rfl (lv_at hl 2 rfl) ?_
            refine lv_istore (lv' := [(4, .int p0), (3, .int p1), (0, .ref (ad 0)), (1, .int p0), (2, .int p1)]) hx hb (dk hX5_race_0 28 rfl) hl (by decide) rfl (fun ls hl => ?_)
            refine lv_aload_n hx hb (dk hX5_race_0 29 rfl) rfl (lv_at hl 2 rfl) ?_
            refine lv_iload_n hx hb (dk hX5_race_0 30 rfl) rfl (lv_at hl 1 rfl) ?_
            refine lv_bipush (v := (60 : Int32)) hx hb (dk hX5_race_0 31 rfl) (by decide) ?_
            obtain ⟨u_9, e_10, hf⟩ := Option.bind_eq_some_iff.mp hf
            refine Ct.V (As := [.int p1, .int (60 : Int32)]) (rest := []) (st1 := [.int u_9.2.2.2.2.2.2.2.2.2.2.2.2.2.2]) (w1 := (wM G ad refused u_9.1 u_9.2.1 u_9.2.2.1 u_9.2.2.2.1 u_9.2.2.2.2.1 u_9.2.2.2.2.2.1 u_9.2.2.2.2.2.2.1 u_9.2.2.2.2.2.2.2.1 tape letter letterAt told u_9.2.2.2.2.2.2.2.2.1 row costs u_9.2.2.2.2.2.2.2.2.2.1 u_9.2.2.2.2.2.2.2.2.2.2.1 u_9.2.2.2.2.2.2.2.2.2.2.2.1 away taped reading statements hasImage u_9.2.2.2.2.2.2.2.2.2.2.2.2.1 u_9.2.2.2.2.2.2.2.2.2.2.2.2.2.1 backs free goodFor loadedWhen bareGood bareWhen rowMany lots)) C hs (c_X5_comesIn e_10) tw_1013 tw_1015 tw_54 tw_85 tw_1016 nq_X5_comesIn (by decide) 0 5 rfl rfl rfl rfl hl.1 rfl (Nat.le_of_ble_eq_true rfl) (dk hX5_race_0 32 rfl) ⟨Nat.zero_le _, Nat.zero_le _⟩ rfl (fun H locs hs => ?_)
            refine lv_istore (lv' := [(5, .int u_9.2.2.2.2.2.2.2.2.2.2.2.2.2.2), (4, .int p0), (3, .int p1), (0, .ref (ad 0)), (1, .int p0), (2, .int p1)]) hx hb (dk hX5_race_0 33 rfl) hl (by decide) rfl (fun ls hl => ?_)
            refine lv_aload_n hx hb (dk hX5_race_0 34 rfl) rfl (lv_at hl 3 rfl) ?_
            refine lv_iload hx hb (dk hX5_race_0 35 rfl) (lv_at hl 1 rfl) ?_
            refine lv_bipush (v := (60 : Int32)) hx hb (dk hX5_race_0 36 rfl) (by decide) ?_
            obtain ⟨u_11, e_12, hf⟩ := Option.bind_eq_some_iff.mp hf
            refine Ct.V (As := [.int p0, .int (60 : Int32)]) (rest := []) (st1 := [.int u_11.2.2.2.2.2.2.2.2.2.2.2.2.2.2]) (w1 := (wM G ad refused u_11.1 u_11.2.1 u_11.2.2.1 u_11.2.2.2.1 u_11.2.2.2.2.1 u_11.2.2.2.2.2.1 u_11.2.2.2.2.2.2.1 u_11.2.2.2.2.2.2.2.1 tape letter letterAt told u_11.2.2.2.2.2.2.2.2.1 row costs u_11.2.2.2.2.2.2.2.2.2.1 u_11.2.2.2.2.2.2.2.2.2.2.1 u_11.2.2.2.2.2.2.2.2.2.2.2.1 away taped reading statements hasImage u_11.2.2.2.2.2.2.2.2.2.2.2.2.1 u_11.2.2.2.2.2.2.2.2.2.2.2.2.2.1 backs free goodFor loadedWhen bareGood bareWhen rowMany lots)) C hs (c_X5_comesIn e_12) tw_1013 tw_1015 tw_54 tw_85 tw_1016 nq_X5_comesIn (by decide) 0 5 rfl rfl rfl rfl hl.1 rfl (Nat.le_of_ble_eq_true rfl) (dk hX5_race_0 37 rfl) ⟨Nat.zero_le _, Nat.zero_le _⟩ rfl (fun H locs hs => ?_)
            refine lv_istore (lv' := [(6, .int u_11.2.2.2.2.2.2.2.2.2.2.2.2.2.2), (5, .int u_9.2.2.2.2.2.2.2.2.2.2.2.2.2.2), (4, .int p0), (3, .int p1), (0, .ref (ad 0)), (1, .int p0), (2, .int p1)]) hx hb (dk hX5_race_0 38 rfl) hl (by decide) rfl (fun ls hl => ?_)
            refine lv_iload hx hb (dk hX5_race_0 39 rfl) (lv_at hl 1 rfl) ?_
            refine lv_if_ge (tgt := 89) hx hb (dk hX5_race_1 0 rfl) (by decide) (fun hc => ?_) (fun hc => ?_)
            · replace hf := ip hf hc
              refine lv_iload hx hb (dk hX5_race_1 7 rfl) (lv_at hl 0 rfl) ?_
              refine lv_if_lt (tgt := 106) hx hb (dk hX5_race_1 8 rfl) (by decide) (fun hc => ?_) (fun hc => ?_)
              · replace hf := ip hf hc
                refine lv_iload_n hx hb (dk hX5_race_1 14 rfl) rfl (lv_at hl 3 rfl) ?_
                cases hf
                exact ri C hs (dk hX5_race_1 15 rfl)
              · replace hf := in_ hf hc
                refine lv_iload hx hb (dk hX5_race_1 9 rfl) (lv_at hl 0 rfl) ?_
                refine lv_iload hx hb (dk hX5_race_1 10 rfl) (lv_at hl 1 rfl) ?_
                refine lv_icmp_ge (tgt := 106) hx hb (dk hX5_race_1 11 rfl) (by decide) (fun hc => ?_) (fun hc => ?_)
                · replace hf := ip hf hc
                  refine lv_iload_n hx hb (dk hX5_race_1 14 rfl) rfl (lv_at hl 3 rfl) ?_
                  cases hf
                  exact ri C hs (dk hX5_race_1 15 rfl)
                · replace hf := in_ hf hc
                  refine lv_iload hx hb (dk hX5_race_1 12 rfl) (lv_at hl 2 rfl) ?_
                  refine lv_goto (tgt := 107) hx hb (dk hX5_race_1 13 rfl) (by decide) ?_
                  cases hf
                  exact ri C hs (dk hX5_race_1 15 rfl)
            · replace hf := in_ hf hc
              refine lv_iload hx hb (dk hX5_race_1 1 rfl) (lv_at hl 0 rfl) ?_
              refine lv_if_ge (tgt := 84) hx hb (dk hX5_race_1 2 rfl) (by decide) (fun hc => ?_) (fun hc => ?_)
              · replace hf := ip hf hc
                refine lv_iload hx hb (dk hX5_race_1 5 rfl) (lv_at hl 2 rfl) ?_
                refine lv_goto (tgt := 107) hx hb (dk hX5_race_1 6 rfl) (by decide) ?_
                cases hf
                exact ri C hs (dk hX5_race_1 15 rfl)
              · replace hf := in_ hf hc
                refine lv_bipush (v := (-9 : Int32)) hx hb (dk hX5_race_1 3 rfl) (by decide) ?_
                refine lv_goto (tgt := 107) hx hb (dk hX5_race_1 4 rfl) (by decide) ?_
                cases hf
                exact ri C hs (dk hX5_race_1 15 rfl)
          · replace hf := in_ hf hc
            refine lv_iload_n hx hb (dk hX5_race_0 25 rfl) rfl (lv_at hl 3 rfl) ?_
            refine lv_goto (tgt := 48) hx hb (dk hX5_race_0 26 rfl) (by decide) ?_
            refine lv_istore (lv' := [(4, .int p1), (3, .int p1), (0, .ref (ad 0)), (1, .int p0), (2, .int p1)]) hx hb (dk hX5_race_0 28 rfl) hl (by decide) rfl (fun ls hl => ?_)
            refine lv_aload_n hx hb (dk hX5_race_0 29 rfl) rfl (lv_at hl 2 rfl) ?_
            refine lv_iload_n hx hb (dk hX5_race_0 30 rfl) rfl (lv_at hl 1 rfl) ?_
            refine lv_bipush (v := (60 : Int32)) hx hb (dk hX5_race_0 31 rfl) (by decide) ?_
            obtain ⟨u_13, e_14, hf⟩ := Option.bind_eq_some_iff.mp hf
            refine Ct.V (As := [.int p1, .int (60 : Int32)]) (rest := []) (st1 := [.int u_13.2.2.2.2.2.2.2.2.2.2.2.2.2.2]) (w1 := (wM G ad refused u_13.1 u_13.2.1 u_13.2.2.1 u_13.2.2.2.1 u_13.2.2.2.2.1 u_13.2.2.2.2.2.1 u_13.2.2.2.2.2.2.1 u_13.2.2.2.2.2.2.2.1 tape letter letterAt told u_13.2.2.2.2.2.2.2.2.1 row costs u_13.2.2.2.2.2.2.2.2.2.1 u_13.2.2.2.2.2.2.2.2.2.2.1 u_13.2.2.2.2.2.2.2.2.2.2.2.1 away taped reading statements hasImage u_13.2.2.2.2.2.2.2.2.2.2.2.2.1 u_13.2.2.2.2.2.2.2.2.2.2.2.2.2.1 backs free goodFor loadedWhen bareGood bareWhen rowMany lots)) C hs (c_X5_comesIn e_14) tw_1013 tw_1015 tw_54 tw_85 tw_1016 nq_X5_comesIn (by decide) 0 5 rfl rfl rfl rfl hl.1 rfl (Nat.le_of_ble_eq_true rfl) (dk hX5_race_0 32 rfl) ⟨Nat.zero_le _, Nat.zero_le _⟩ rfl (fun H locs hs => ?_)
            refine lv_istore (lv' := [(5, .int u_13.2.2.2.2.2.2.2.2.2.2.2.2.2.2), (4, .int p1), (3, .int p1), (0, .ref (ad 0)), (1, .int p0), (2, .int p1)]) hx hb (dk hX5_race_0 33 rfl) hl (by decide) rfl (fun ls hl => ?_)
            refine lv_aload_n hx hb (dk hX5_race_0 34 rfl) rfl (lv_at hl 3 rfl) ?_
            refine lv_iload hx hb (dk hX5_race_0 35 rfl) (lv_at hl 1 rfl) ?_
            refine lv_bipush (v := (60 : Int32)) hx hb (dk hX5_race_0 36 rfl) (by decide) ?_
            obtain ⟨u_15, e_16, hf⟩ := Option.bind_eq_some_iff.mp hf
            refine Ct.V (As := [.int p1, .int (60 : Int32)]) (rest := []) (st1 := [.int u_15.2.2.2.2.2.2.2.2.2.2.2.2.2.2]) (w1 := (wM G ad refused u_15.1 u_15.2.1 u_15.2.2.1 u_15.2.2.2.1 u_15.2.2.2.2.1 u_15.2.2.2.2.2.1 u_15.2.2.2.2.2.2.1 u_15.2.2.2.2.2.2.2.1 tape letter letterAt told u_15.2.2.2.2.2.2.2.2.1 row costs u_15.2.2.2.2.2.2.2.2.2.1 u_15.2.2.2.2.2.2.2.2.2.2.1 u_15.2.2.2.2.2.2.2.2.2.2.2.1 away taped reading statements hasImage u_15.2.2.2.2.2.2.2.2.2.2.2.2.1 u_15.2.2.2.2.2.2.2.2.2.2.2.2.2.1 backs free goodFor loadedWhen bareGood bareWhen rowMany lots)) C hs (c_X5_comesIn e_16) tw_1013 tw_1015 tw_54 tw_85 tw_1016 nq_X5_comesIn (by decide) 0 5 rfl rfl rfl rfl hl.1 rfl (Nat.le_of_ble_eq_true rfl) (dk hX5_race_0 37 rfl) ⟨Nat.zero_le _, Nat.zero_le _⟩ rfl (fun H locs hs => ?_)
            refine lv_istore (lv' := [(6, .int u_15.2.2.2.2.2.2.2.2.2.2.2.2.2.2), (5, .int u_13.2.2.2.2.2.2.2.2.2.2.2.2.2.2), (4, .int p1), (3, .int p1), (0, .ref (ad 0)), (1, .int p0), (2, .int p1)]) hx hb (dk hX5_race_0 38 rfl) hl (by decide) rfl (fun ls hl => ?_)
            refine lv_iload hx hb (dk hX5_race_0 39 rfl) (lv_at hl 1 rfl) ?_
            refine lv_if_ge (tgt := 89) hx hb (dk hX5_race_1 0 rfl) (by decide) (fun hc => ?_) (fun hc => ?_)
            · replace hf := ip hf hc
              refine lv_iload hx hb (dk hX5_race_1 7 rfl) (lv_at hl 0 rfl) ?_
              refine lv_if_lt (tgt := 106) hx hb (dk hX5_race_1 8 rfl) (by decide) (fun hc => ?_) (fun hc => ?_)
              · replace hf := ip hf hc
                refine lv_iload_n hx hb (dk hX5_race_1 14 rfl) rfl (lv_at hl 3 rfl) ?_
                cases hf
                exact ri C hs (dk hX5_race_1 15 rfl)
              · replace hf := in_ hf hc
                refine lv_iload hx hb (dk hX5_race_1 9 rfl) (lv_at hl 0 rfl) ?_
                refine lv_iload hx hb (dk hX5_race_1 10 rfl) (lv_at hl 1 rfl) ?_
                refine lv_icmp_ge (tgt := 106) hx hb (dk hX5_race_1 11 rfl) (by decide) (fun hc => ?_) (fun hc => ?_)
                · replace hf := ip hf hc
                  refine lv_iload_n hx hb (dk hX5_race_1 14 rfl) rfl (lv_at hl 3 rfl) ?_
                  cases hf
                  exact ri C hs (dk hX5_race_1 15 rfl)
                · replace hf := in_ hf hc
                  refine lv_iload hx hb (dk hX5_race_1 12 rfl) (lv_at hl 2 rfl) ?_
                  refine lv_goto (tgt := 107) hx hb (dk hX5_race_1 13 rfl) (by decide) ?_
                  cases hf
                  exact ri C hs (dk hX5_race_1 15 rfl)
            · replace hf := in_ hf hc
              refine lv_iload hx hb (dk hX5_race_1 1 rfl) (lv_at hl 0 rfl) ?_
              refine lv_if_ge (tgt := 84) hx hb (dk hX5_race_1 2 rfl) (by decide) (fun hc => ?_) (fun hc => ?_)
              · replace hf := ip hf hc
                refine lv_iload hx hb (dk hX5_race_1 5 rfl) (lv_at hl 2 rfl) ?_
                refine lv_goto (tgt := 107) hx hb (dk hX5_race_1 6 rfl) (by decide) ?_
                cases hf
                exact ri C hs (dk hX5_race_1 15 rfl)
              · replace hf := in_ hf hc
                refine lv_bipush (v := (-9 : Int32)) hx hb (dk hX5_race_1 3 rfl) (by decide) ?_
                refine lv_goto (tgt := 107) hx hb (dk hX5_race_1 4 rfl) (by decide) ?_
                cases hf
                exact ri C hs (dk hX5_race_1 15 rfl)
        · replace hf := in_ hf hc
          refine lv_iload_n hx hb (dk hX5_race_0 18 rfl) rfl (lv_at hl 1 rfl) ?_
          refine lv_goto (tgt := 37) hx hb (dk hX5_race_0 19 rfl) (by decide) ?_
          refine lv_istore_n (lv' := [(3, .int p0), (0, .ref (ad 0)), (1, .int p0), (2, .int p1)]) hx hb (dk hX5_race_0 21 rfl) rfl hl (by decide) rfl (fun ls hl => ?_)
          refine lv_iload_n hx hb (dk hX5_race_0 22 rfl) rfl (lv_at hl 2 rfl) ?_
          refine lv_iload_n hx hb (dk hX5_race_0 23 rfl) rfl (lv_at hl 3 rfl) ?_
          refine lv_icmp_ge (tgt := 47) hx hb (dk hX5_race_0 24 rfl) (by decide) (fun hc => ?_) (fun hc => ?_)
          · replace hf := ip hf hc
            refine lv_iload_n hx hb (dk hX5_race_0 27 rfl) rfl (lv_at hl 2 rfl) ?_
            refine lv_istore (lv' := [(4, .int p0), (3, .int p0), (0, .ref (ad 0)), (1, .int p0), (2, .int p1)]) hx hb (dk hX5_race_0 28 rfl) hl (by decide) rfl (fun ls hl => ?_)
            refine lv_aload_n hx hb (dk hX5_race_0 29 rfl) rfl (lv_at hl 2 rfl) ?_
            refine lv_iload_n hx hb (dk hX5_race_0 30 rfl) rfl (lv_at hl 1 rfl) ?_
            refine lv_bipush (v := (60 : Int32)) hx hb (dk hX5_race_0 31 rfl) (by decide) ?_
            obtain ⟨u_17, e_18, hf⟩ := Option.bind_eq_some_iff.mp hf
            refine Ct.V (As := [.int p0, .int (60 : Int32)]) (rest := []) (st1 := [.int u_17.2.2.2.2.2.2.2.2.2.2.2.2.2.2]) (w1 := (wM G ad refused u_17.1 u_17.2.1 u_17.2.2.1 u_17.2.2.2.1 u_17.2.2.2.2.1 u_17.2.2.2.2.2.1 u_17.2.2.2.2.2.2.1 u_17.2.2.2.2.2.2.2.1 tape letter letterAt told u_17.2.2.2.2.2.2.2.2.1 row costs u_17.2.2.2.2.2.2.2.2.2.1 u_17.2.2.2.2.2.2.2.2.2.2.1 u_17.2.2.2.2.2.2.2.2.2.2.2.1 away taped reading statements hasImage u_17.2.2.2.2.2.2.2.2.2.2.2.2.1 u_17.2.2.2.2.2.2.2.2.2.2.2.2.2.1 backs free goodFor loadedWhen bareGood bareWhen rowMany lots)) C hs (c_X5_comesIn e_18) tw_1013 tw_1015 tw_54 tw_85 tw_1016 nq_X5_comesIn (by decide) 0 5 rfl rfl rfl rfl hl.1 rfl (Nat.le_of_ble_eq_true rfl) (dk hX5_race_0 32 rfl) ⟨Nat.zero_le _, Nat.zero_le _⟩ rfl (fun H locs hs => ?_)
            refine lv_istore (lv' := [(5, .int u_17.2.2.2.2.2.2.2.2.2.2.2.2.2.2), (4, .int p0), (3, .int p0), (0, .ref (ad 0)), (1, .int p0), (2, .int p1)]) hx hb (dk hX5_race_0 33 rfl) hl (by decide) rfl (fun ls hl => ?_)
            refine lv_aload_n hx hb (dk hX5_race_0 34 rfl) rfl (lv_at hl 3 rfl) ?_
            refine lv_iload hx hb (dk hX5_race_0 35 rfl) (lv_at hl 1 rfl) ?_
            refine lv_bipush (v := (60 : Int32)) hx hb (dk hX5_race_0 36 rfl) (by decide) ?_
            obtain ⟨u_19, e_20, hf⟩ := Option.bind_eq_some_iff.mp hf
            refine Ct.V (As := [.int p0, .int (60 : Int32)]) (rest := []) (st1 := [.int u_19.2.2.2.2.2.2.2.2.2.2.2.2.2.2]) (w1 := (wM G ad refused u_19.1 u_19.2.1 u_19.2.2.1 u_19.2.2.2.1 u_19.2.2.2.2.1 u_19.2.2.2.2.2.1 u_19.2.2.2.2.2.2.1 u_19.2.2.2.2.2.2.2.1 tape letter letterAt told u_19.2.2.2.2.2.2.2.2.1 row costs u_19.2.2.2.2.2.2.2.2.2.1 u_19.2.2.2.2.2.2.2.2.2.2.1 u_19.2.2.2.2.2.2.2.2.2.2.2.1 away taped reading statements hasImage u_19.2.2.2.2.2.2.2.2.2.2.2.2.1 u_19.2.2.2.2.2.2.2.2.2.2.2.2.2.1 backs free goodFor loadedWhen bareGood bareWhen rowMany lots)) C hs (c_X5_comesIn e_20) tw_1013 tw_1015 tw_54 tw_85 tw_1016 nq_X5_comesIn (by decide) 0 5 rfl rfl rfl rfl hl.1 rfl (Nat.le_of_ble_eq_true rfl) (dk hX5_race_0 37 rfl) ⟨Nat.zero_le _, Nat.zero_le _⟩ rfl (fun H locs hs => ?_)
            refine lv_istore (lv' := [(6, .int u_19.2.2.2.2.2.2.2.2.2.2.2.2.2.2), (5, .int u_17.2.2.2.2.2.2.2.2.2.2.2.2.2.2), (4, .int p0), (3, .int p0), (0, .ref (ad 0)), (1, .int p0), (2, .int p1)]) hx hb (dk hX5_race_0 38 rfl) hl (by decide) rfl (fun ls hl => ?_)
            refine lv_iload hx hb (dk hX5_race_0 39 rfl) (lv_at hl 1 rfl) ?_
            refine lv_if_ge (tgt := 89) hx hb (dk hX5_race_1 0 rfl) (by decide) (fun hc => ?_) (fun hc => ?_)
            · replace hf := ip hf hc
              refine lv_iload hx hb (dk hX5_race_1 7 rfl) (lv_at hl 0 rfl) ?_
              refine lv_if_lt (tgt := 106) hx hb (dk hX5_race_1 8 rfl) (by decide) (fun hc => ?_) (fun hc => ?_)
              · replace hf := ip hf hc
                refine lv_iload_n hx hb (dk hX5_race_1 14 rfl) rfl (lv_at hl 3 rfl) ?_
                cases hf
                exact ri C hs (dk hX5_race_1 15 rfl)
              · replace hf := in_ hf hc
                refine lv_iload hx hb (dk hX5_race_1 9 rfl) (lv_at hl 0 rfl) ?_
                refine lv_iload hx hb (dk hX5_race_1 10 rfl) (lv_at hl 1 rfl) ?_
                refine lv_icmp_ge (tgt := 106) hx hb (dk hX5_race_1 11 rfl) (by decide) (fun hc => ?_) (fun hc => ?_)
                · replace hf := ip hf hc
                  refine lv_iload_n hx hb (dk hX5_race_1 14 rfl) rfl (lv_at hl 3 rfl) ?_
                  cases hf
                  exact ri C hs (dk hX5_race_1 15 rfl)
                · replace hf := in_ hf hc
                  refine lv_iload hx hb (dk hX5_race_1 12 rfl) (lv_at hl 2 rfl) ?_
                  refine lv_goto (tgt := 107) hx hb (dk hX5_race_1 13 rfl) (by decide) ?_
                  cases hf
                  exact ri C hs (dk hX5_race_1 15 rfl)
            · replace hf := in_ hf hc
              refine lv_iload hx hb (dk hX5_race_1 1 rfl) (lv_at hl 0 rfl) ?_
              refine lv_if_ge (tgt := 84) hx hb (dk hX5_race_1 2 rfl) (by decide) (fun hc => ?_) (fun hc => ?_)
              · replace hf := ip hf hc
                refine lv_iload hx hb (dk hX5_race_1 5 rfl) (lv_at hl 2 rfl) ?_
                refine lv_goto (tgt := 107) hx hb (dk hX5_race_1 6 rfl) (by decide) ?_
                cases hf
                exact ri C hs (dk hX5_race_1 15 rfl)
              · replace hf := in_ hf hc
                refine lv_bipush (v := (-9 : Int32)) hx hb (dk hX5_race_1 3 rfl) (by decide) ?_
                refine lv_goto (tgt := 107) hx hb (dk hX5_race_1 4 rfl) (by decide) ?_
                cases hf
                exact ri C hs (dk hX5_race_1 15 rfl)
          · replace hf := in_ hf hc
            refine lv_iload_n hx hb (dk hX5_race_0 25 rfl) rfl (lv_at hl 3 rfl) ?_
            refine lv_goto (tgt := 48) hx hb (dk hX5_race_0 26 rfl) (by decide) ?_
            refine lv_istore (lv' := [(4, .int p1), (3, .int p0), (0, .ref (ad 0)), (1, .int p0), (2, .int p1)]) hx hb (dk hX5_race_0 28 rfl) hl (by decide) rfl (fun ls hl => ?_)
            refine lv_aload_n hx hb (dk hX5_race_0 29 rfl) rfl (lv_at hl 2 rfl) ?_
            refine lv_iload_n hx hb (dk hX5_race_0 30 rfl) rfl (lv_at hl 1 rfl) ?_
            refine lv_bipush (v := (60 : Int32)) hx hb (dk hX5_race_0 31 rfl) (by decide) ?_
            obtain ⟨u_21, e_22, hf⟩ := Option.bind_eq_some_iff.mp hf
            refine Ct.V (As := [.int p0, .int (60 : Int32)]) (rest := []) (st1 := [.int u_21.2.2.2.2.2.2.2.2.2.2.2.2.2.2]) (w1 := (wM G ad refused u_21.1 u_21.2.1 u_21.2.2.1 u_21.2.2.2.1 u_21.2.2.2.2.1 u_21.2.2.2.2.2.1 u_21.2.2.2.2.2.2.1 u_21.2.2.2.2.2.2.2.1 tape letter letterAt told u_21.2.2.2.2.2.2.2.2.1 row costs u_21.2.2.2.2.2.2.2.2.2.1 u_21.2.2.2.2.2.2.2.2.2.2.1 u_21.2.2.2.2.2.2.2.2.2.2.2.1 away taped reading statements hasImage u_21.2.2.2.2.2.2.2.2.2.2.2.2.1 u_21.2.2.2.2.2.2.2.2.2.2.2.2.2.1 backs free goodFor loadedWhen bareGood bareWhen rowMany lots)) C hs (c_X5_comesIn e_22) tw_1013 tw_1015 tw_54 tw_85 tw_1016 nq_X5_comesIn (by decide) 0 5 rfl rfl rfl rfl hl.1 rfl (Nat.le_of_ble_eq_true rfl) (dk hX5_race_0 32 rfl) ⟨Nat.zero_le _, Nat.zero_le _⟩ rfl (fun H locs hs => ?_)
            refine lv_istore (lv' := [(5, .int u_21.2.2.2.2.2.2.2.2.2.2.2.2.2.2), (4, .int p1), (3, .int p0), (0, .ref (ad 0)), (1, .int p0), (2, .int p1)]) hx hb (dk hX5_race_0 33 rfl) hl (by decide) rfl (fun ls hl => ?_)
            refine lv_aload_n hx hb (dk hX5_race_0 34 rfl) rfl (lv_at hl 3 rfl) ?_
            refine lv_iload hx hb (dk hX5_race_0 35 rfl) (lv_at hl 1 rfl) ?_
            refine lv_bipush (v := (60 : Int32)) hx hb (dk hX5_race_0 36 rfl) (by decide) ?_
            obtain ⟨u_23, e_24, hf⟩ := Option.bind_eq_some_iff.mp hf
            refine Ct.V (As := [.int p1, .int (60 : Int32)]) (rest := []) (st1 := [.int u_23.2.2.2.2.2.2.2.2.2.2.2.2.2.2]) (w1 := (wM G ad refused u_23.1 u_23.2.1 u_23.2.2.1 u_23.2.2.2.1 u_23.2.2.2.2.1 u_23.2.2.2.2.2.1 u_23.2.2.2.2.2.2.1 u_23.2.2.2.2.2.2.2.1 tape letter letterAt told u_23.2.2.2.2.2.2.2.2.1 row costs u_23.2.2.2.2.2.2.2.2.2.1 u_23.2.2.2.2.2.2.2.2.2.2.1 u_23.2.2.2.2.2.2.2.2.2.2.2.1 away taped reading statements hasImage u_23.2.2.2.2.2.2.2.2.2.2.2.2.1 u_23.2.2.2.2.2.2.2.2.2.2.2.2.2.1 backs free goodFor loadedWhen bareGood bareWhen rowMany lots)) C hs (c_X5_comesIn e_24) tw_1013 tw_1015 tw_54 tw_85 tw_1016 nq_X5_comesIn (by decide) 0 5 rfl rfl rfl rfl hl.1 rfl (Nat.le_of_ble_eq_true rfl) (dk hX5_race_0 37 rfl) ⟨Nat.zero_le _, Nat.zero_le _⟩ rfl (fun H locs hs => ?_)
            refine lv_istore (lv' := [(6, .int u_23.2.2.2.2.2.2.2.2.2.2.2.2.2.2), (5, .int u_21.2.2.2.2.2.2.2.2.2.2.2.2.2.2), (4, .int p1), (3, .int p0), (0, .ref (ad 0)), (1, .int p0), (2, .int p1)]) hx hb (dk hX5_race_0 38 rfl) hl (by decide) rfl (fun ls hl => ?_)
            refine lv_iload hx hb (dk hX5_race_0 39 rfl) (lv_at hl 1 rfl) ?_
            refine lv_if_ge (tgt := 89) hx hb (dk hX5_race_1 0 rfl) (by decide) (fun hc => ?_) (fun hc => ?_)
            · replace hf := ip hf hc
              refine lv_iload hx hb (dk hX5_race_1 7 rfl) (lv_at hl 0 rfl) ?_
              refine lv_if_lt (tgt := 106) hx hb (dk hX5_race_1 8 rfl) (by decide) (fun hc => ?_) (fun hc => ?_)
              · replace hf := ip hf hc
                refine lv_iload_n hx hb (dk hX5_race_1 14 rfl) rfl (lv_at hl 3 rfl) ?_
                cases hf
                exact ri C hs (dk hX5_race_1 15 rfl)
              · replace hf := in_ hf hc
                refine lv_iload hx hb (dk hX5_race_1 9 rfl) (lv_at hl 0 rfl) ?_
                refine lv_iload hx hb (dk hX5_race_1 10 rfl) (lv_at hl 1 rfl) ?_
                refine lv_icmp_ge (tgt := 106) hx hb (dk hX5_race_1 11 rfl) (by decide) (fun hc => ?_) (fun hc => ?_)
                · replace hf := ip hf hc
                  refine lv_iload_n hx hb (dk hX5_race_1 14 rfl) rfl (lv_at hl 3 rfl) ?_
                  cases hf
                  exact ri C hs (dk hX5_race_1 15 rfl)
                · replace hf := in_ hf hc
                  refine lv_iload hx hb (dk hX5_race_1 12 rfl) (lv_at hl 2 rfl) ?_
                  refine lv_goto (tgt := 107) hx hb (dk hX5_race_1 13 rfl) (by decide) ?_
                  cases hf
                  exact ri C hs (dk hX5_race_1 15 rfl)
            · replace hf := in_ hf hc
              refine lv_iload hx hb (dk hX5_race_1 1 rfl) (lv_at hl 0 rfl) ?_
              refine lv_if_ge (tgt := 84) hx hb (dk hX5_race_1 2 rfl) (by decide) (fun hc => ?_) (fun hc => ?_)
              · replace hf := ip hf hc
                refine lv_iload hx hb (dk hX5_race_1 5 rfl) (lv_at hl 2 rfl) ?_
                refine lv_goto (tgt := 107) hx hb (dk hX5_race_1 6 rfl) (by decide) ?_
                cases hf
                exact ri C hs (dk hX5_race_1 15 rfl)
              · replace hf := in_ hf hc
                refine lv_bipush (v := (-9 : Int32)) hx hb (dk hX5_race_1 3 rfl) (by decide) ?_
                refine lv_goto (tgt := 107) hx hb (dk hX5_race_1 4 rfl) (by decide) ?_
                cases hf
                exact ri C hs (dk hX5_race_1 15 rfl)
      · replace hf := ip hf hc
        refine lv_aload_n hx hb (dk hX5_race_0 11 rfl) rfl (lv_at hl 0 rfl) ?_
        refine lv_iconst (v := (-1 : Int32)) hx hb (dk hX5_race_0 12 rfl) (by decide) ?_
        obtain ⟨u_25, e_26, hf⟩ := Option.bind_eq_some_iff.mp hf
        refine Ct.V (As := [.int (-1 : Int32)]) (rest := []) (st1 := [.int u_25.2]) (w1 := (wM G ad u_25.1 there used hidden kind figure good load inn tape letter letterAt told kept row costs ships coughs day away taped reading statements hasImage isKeeping cursor backs free goodFor loadedWhen bareGood bareWhen rowMany lots)) C hs (c_X5_no e_26) tw_800 tw_802 tw_21 tw_85 tw_803 nq_X5_no (by decide) 0 5 rfl rfl rfl rfl hl.1 rfl (Nat.le_of_ble_eq_true rfl) (dk hX5_race_0 13 rfl) ⟨Nat.zero_le _, Nat.zero_le _⟩ rfl (fun H locs hs => ?_)
        cases hf
        exact ri C hs (dk hX5_race_0 14 rfl)

def X5_row (refused : List Int32) (row : List Int32) (rowMany : Int32) (p0 : Int32) : Option (List Int32 × List Int32 × Int32 × Int32) :=
  (X5_bound p0 (0 : Int32) (99 : Int32)).bind fun u_1 =>
  if u_1 = (0 : Int32) then
  if rowMany = (12 : Int32) then
  (X5_no refused (-6 : Int32)).bind fun u_11 =>
  some (u_11.1, row, rowMany, u_11.2)
  else
  if u_1 = (0 : Int32) then
  (wr row rowMany p0).bind fun row_7 =>
  some (refused, row_7, (rowMany + (1 : Int32)), (rowMany + (1 : Int32)))
  else
  (X5_no refused u_1).bind fun u_9 =>
  some (u_9.1, row, rowMany, u_9.2)
  else
  if u_1 = (0 : Int32) then
  (wr row rowMany p0).bind fun row_3 =>
  some (refused, row_3, (rowMany + (1 : Int32)), (rowMany + (1 : Int32)))
  else
  (X5_no refused u_1).bind fun u_5 =>
  some (u_5.1, row, rowMany, u_5.2)
set_option maxRecDepth 100000 in
set_option maxHeartbeats 4000000 in
theorem c_X5_row {l : Launch} {G : Gx} {ad : Nat → Nat} {refused there used hidden kind figure good load inn tape letter letterAt told kept row costs : List Int32} {ships coughs day away taped reading statements hasImage isKeeping cursor backs free goodFor loadedWhen bareGood bareWhen rowMany lots : Int32} {p0 : Int32} {out : List Int32 × List Int32 × Int32 × Int32} (hf : X5_row refused row rowMany p0 = some out) : Ct l G yX5_row cX5_row 3 (some .int) 1 22 [.ref (ad 0), .int p0] (wM G ad refused there used hidden kind figure good load inn tape letter letterAt told kept row costs ships coughs day away taped reading statements hasImage isKeeping cursor backs free goodFor loadedWhen bareGood bareWhen rowMany lots) (some (.int out.2.2.2)) (wM G ad out.1 there used hidden kind figure good load inn tape letter letterAt told kept out.2.1 costs ships coughs day away taped reading statements hasImage isKeeping cursor backs free goodFor loadedWhen bareGood bareWhen out.2.2.1 lots) := by
  refine Ct.intro RX5 rfl (plainFor_of_name (by decide)) (Nat.le_of_ble_eq_true rfl) rfl ?_
  intro p e s m args below meth c A C H locs hs ls hl
  obtain ⟨hx, hb, hml, hown, hts, hK, hret, hlk⟩ := id C
  have hl : lv_has ls 3 [(0, .ref (ad 0)), (1, .int p0)] := hl
  unfold X5_row at hf
  refine lv_iload_n hx hb (dk hX5_row_0 0 rfl) rfl (lv_at hl 1 rfl) ?_
  refine lv_iconst (v := (0 : Int32)) hx hb (dk hX5_row_0 1 rfl) (by decide) ?_
  refine lv_bipush (v := (99 : Int32)) hx hb (dk hX5_row_0 2 rfl) (by decide) ?_
  obtain ⟨u_1, e_2, hf⟩ := Option.bind_eq_some_iff.mp hf
  refine Ct.S (As := [.int p0, .int (0 : Int32), .int (99 : Int32)]) (rest := []) (st1 := [.int u_1]) (w1 := (wM G ad refused there used hidden kind figure good load inn tape letter letterAt told kept row costs ships coughs day away taped reading statements hasImage isKeeping cursor backs free goodFor loadedWhen bareGood bareWhen rowMany lots)) C hs (c_X5_bound e_2) tw_797 tw_798 tw_85 tw_799 nq_X5_bound (by decide) rfl hl.1 rfl (Nat.le_of_ble_eq_true rfl) (dk hX5_row_0 3 rfl) ⟨Nat.zero_le _, Nat.zero_le _⟩ rfl (fun H locs hs => ?_)
  refine lv_istore_n (lv' := [(2, .int u_1), (0, .ref (ad 0)), (1, .int p0)]) hx hb (dk hX5_row_0 4 rfl) rfl hl (by decide) rfl (fun ls hl => ?_)
  refine lv_iload_n hx hb (dk hX5_row_0 5 rfl) rfl (lv_at hl 0 rfl) ?_
  refine lv_if_ne (tgt := 24) hx hb (dk hX5_row_0 6 rfl) (by decide) (fun hc => ?_) (fun hc => ?_)
  · replace hf := in_ hf hc
    refine lv_iload_n hx hb (dk hX5_row_0 13 rfl) rfl (lv_at hl 0 rfl) ?_
    refine lv_if_eq (tgt := 34) hx hb (dk hX5_row_0 14 rfl) (by decide) (fun hc => ?_) (fun hc => ?_)
    · replace hf := ip hf hc
      refine lv_aload_n hx hb (dk hX5_row_0 19 rfl) rfl (lv_at hl 1 rfl) ?_
      refine rg ui5 rfl C hs 0 rfl 30 (by decide) tw_720 rfl rfl (dk hX5_row_0 20 rfl) ?_
      refine lv_aload_n hx hb (dk hX5_row_0 21 rfl) rfl (lv_at hl 1 rfl) ?_
      refine rg ui5 rfl C hs 0 rfl 31 (by decide) tw_721 rfl rfl (dk hX5_row_0 22 rfl) ?_
      refine lv_iload_n hx hb (dk hX5_row_0 23 rfl) rfl (lv_at hl 2 rfl) ?_
      obtain ⟨row_3, e_4, hf⟩ := Option.bind_eq_some_iff.mp hf
      refine rist (w1 := (wM G ad refused there used hidden kind figure good load inn tape letter letterAt told kept row_3 costs ships coughs day away taped reading statements hasImage isKeeping cursor backs free goodFor loadedWhen bareGood bareWhen rowMany lots)) C hs 15 rfl e_4 rfl (dk hX5_row_0 24 rfl) (fun H locs hs => ?_)
      refine lv_aload_n hx hb (dk hX5_row_0 25 rfl) rfl (lv_at hl 1 rfl) ?_
      refine lv_dup hx hb (dk hX5_row_0 26 rfl) rfl ?_
      refine rg ui5 rfl C hs 0 rfl 31 (by decide) tw_721 rfl rfl (dk hX5_row_0 27 rfl) ?_
      refine lv_iconst (v := (1 : Int32)) hx hb (dk hX5_row_0 28 rfl) (by decide) ?_
      refine lv_iadd hx hb (dk hX5_row_0 29 rfl) ?_
      refine rp (w1 := (wM G ad refused there used hidden kind figure good load inn tape letter letterAt told kept row_3 costs ships coughs day away taped reading statements hasImage isKeeping cursor backs free goodFor loadedWhen bareGood bareWhen (rowMany + (1 : Int32)) lots)) tyX5 tyX5_ok nmX5 ui5 rfl C hs 0 rfl 31 (by decide) tw_721 rfl rfl rfl rfl (Nat.le_of_ble_eq_true rfl) rfl (dk hX5_row_0 30 rfl) (fun H locs hs => ?_)
      refine lv_aload_n hx hb (dk hX5_row_0 31 rfl) rfl (lv_at hl 1 rfl) ?_
      refine rg ui5 rfl C hs 0 rfl 31 (by decide) tw_721 rfl rfl (dk hX5_row_0 32 rfl) ?_
      cases hf
      exact ri C hs (dk hX5_row_0 33 rfl)
    · replace hf := in_ hf hc
      refine lv_aload_n hx hb (dk hX5_row_0 15 rfl) rfl (lv_at hl 1 rfl) ?_
      refine lv_iload_n hx hb (dk hX5_row_0 16 rfl) rfl (lv_at hl 0 rfl) ?_
      obtain ⟨u_5, e_6, hf⟩ := Option.bind_eq_some_iff.mp hf
      refine Ct.V (As := [.int u_1]) (rest := []) (st1 := [.int u_5.2]) (w1 := (wM G ad u_5.1 there used hidden kind figure good load inn tape letter letterAt told kept row costs ships coughs day away taped reading statements hasImage isKeeping cursor backs free goodFor loadedWhen bareGood bareWhen rowMany lots)) C hs (c_X5_no e_6) tw_800 tw_802 tw_21 tw_85 tw_803 nq_X5_no (by decide) 0 5 rfl rfl rfl rfl hl.1 rfl (Nat.le_of_ble_eq_true rfl) (dk hX5_row_0 17 rfl) ⟨Nat.zero_le _, Nat.zero_le _⟩ rfl (fun H locs hs => ?_)
      cases hf
      exact ri C hs (dk hX5_row_0 18 rfl)
  · replace hf := ip hf hc
    refine lv_aload_n hx hb (dk hX5_row_0 7 rfl) rfl (lv_at hl 1 rfl) ?_
    refine rg ui5 rfl C hs 0 rfl 31 (by decide) tw_721 rfl rfl (dk hX5_row_0 8 rfl) ?_
    refine lv_bipush (v := (12 : Int32)) hx hb (dk hX5_row_0 9 rfl) (by decide) ?_
    refine lv_icmp_ne (tgt := 24) hx hb (dk hX5_row_0 10 rfl) (by decide) (fun hc => ?_) (fun hc => ?_)
    · replace hf := in_ hf hc
      refine lv_iload_n hx hb (dk hX5_row_0 13 rfl) rfl (lv_at hl 0 rfl) ?_
      refine lv_if_eq (tgt := 34) hx hb (dk hX5_row_0 14 rfl) (by decide) (fun hc => ?_) (fun hc => ?_)
      · replace hf := ip hf hc
        refine lv_aload_n hx hb (dk hX5_row_0 19 rfl) rfl (lv_at hl 1 rfl) ?_
        refine rg ui5 rfl C hs 0 rfl 30 (by decide) tw_720 rfl rfl (dk hX5_row_0 20 rfl) ?_
        refine lv_aload_n hx hb (dk hX5_row_0 21 rfl) rfl (lv_at hl 1 rfl) ?_
        refine rg ui5 rfl C hs 0 rfl 31 (by decide) tw_721 rfl rfl (dk hX5_row_0 22 rfl) ?_
        refine lv_iload_n hx hb (dk hX5_row_0 23 rfl) rfl (lv_at hl 2 rfl) ?_
        obtain ⟨row_7, e_8, hf⟩ := Option.bind_eq_some_iff.mp hf
        refine rist (w1 := (wM G ad refused there used hidden kind figure good load inn tape letter letterAt told kept row_7 costs ships coughs day away taped reading statements hasImage isKeeping cursor backs free goodFor loadedWhen bareGood bareWhen rowMany lots)) C hs 15 rfl e_8 rfl (dk hX5_row_0 24 rfl) (fun H locs hs => ?_)
        refine lv_aload_n hx hb (dk hX5_row_0 25 rfl) rfl (lv_at hl 1 rfl) ?_
        refine lv_dup hx hb (dk hX5_row_0 26 rfl) rfl ?_
        refine rg ui5 rfl C hs 0 rfl 31 (by decide) tw_721 rfl rfl (dk hX5_row_0 27 rfl) ?_
        refine lv_iconst (v := (1 : Int32)) hx hb (dk hX5_row_0 28 rfl) (by decide) ?_
        refine lv_iadd hx hb (dk hX5_row_0 29 rfl) ?_
        refine rp (w1 := (wM G ad refused there used hidden kind figure good load inn tape letter letterAt told kept row_7 costs ships coughs day away taped reading statements hasImage isKeeping cursor backs free goodFor loadedWhen bareGood bareWhen (rowMany + (1 : Int32)) lots)) tyX5 tyX5_ok nmX5 ui5 rfl C hs 0 rfl 31 (by decide) tw_721 rfl rfl rfl rfl (Nat.le_of_ble_eq_true rfl) rfl (dk hX5_row_0 30 rfl) (fun H locs hs => ?_)
        refine lv_aload_n hx hb (dk hX5_row_0 31 rfl) rfl (lv_at hl 1 rfl) ?_
        refine rg ui5 rfl C hs 0 rfl 31 (by decide) tw_721 rfl rfl (dk hX5_row_0 32 rfl) ?_
        cases hf
        exact ri C hs (dk hX5_row_0 33 rfl)
      · replace hf := in_ hf hc
        refine lv_aload_n hx hb (dk hX5_row_0 15 rfl) rfl (lv_at hl 1 rfl) ?_
        refine lv_iload_n hx hb (dk hX5_row_0 16 rfl) rfl (lv_at hl 0 rfl) ?_
        obtain ⟨u_9, e_10, hf⟩ := Option.bind_eq_some_iff.mp hf
        refine Ct.V (As := [.int u_1]) (rest := []) (st1 := [.int u_9.2]) (w1 := (wM G ad u_9.1 there used hidden kind figure good load inn tape letter letterAt told kept row costs ships coughs day away taped reading statements hasImage isKeeping cursor backs free goodFor loadedWhen bareGood bareWhen rowMany lots)) C hs (c_X5_no e_10) tw_800 tw_802 tw_21 tw_85 tw_803 nq_X5_no (by decide) 0 5 rfl rfl rfl rfl hl.1 rfl (Nat.le_of_ble_eq_true rfl) (dk hX5_row_0 17 rfl) ⟨Nat.zero_le _, Nat.zero_le _⟩ rfl (fun H locs hs => ?_)
        cases hf
        exact ri C hs (dk hX5_row_0 18 rfl)
    · replace hf := ip hf hc
      refine lv_bipush (v := (-6 : Int32)) hx hb (dk hX5_row_0 11 rfl) (by decide) ?_
      refine lv_istore_n (lv' := [(2, .int (-6 : Int32)), (0, .ref (ad 0)), (1, .int p0)]) hx hb (dk hX5_row_0 12 rfl) rfl hl (by decide) rfl (fun ls hl => ?_)
      refine lv_iload_n hx hb (dk hX5_row_0 13 rfl) rfl (lv_at hl 0 rfl) ?_
      refine lv_if_eq (tgt := 34) hx hb (dk hX5_row_0 14 rfl) (by decide) (fun hc => ?_) (fun hc => ?_)
      · exact absurd hc (by decide)
      · refine lv_aload_n hx hb (dk hX5_row_0 15 rfl) rfl (lv_at hl 1 rfl) ?_
        refine lv_iload_n hx hb (dk hX5_row_0 16 rfl) rfl (lv_at hl 0 rfl) ?_
        obtain ⟨u_11, e_12, hf⟩ := Option.bind_eq_some_iff.mp hf
        refine Ct.V (As := [.int (-6 : Int32)]) (rest := []) (st1 := [.int u_11.2]) (w1 := (wM G ad u_11.1 there used hidden kind figure good load inn tape letter letterAt told kept row costs ships coughs day away taped reading statements hasImage isKeeping cursor backs free goodFor loadedWhen bareGood bareWhen rowMany lots)) C hs (c_X5_no e_12) tw_800 tw_802 tw_21 tw_85 tw_803 nq_X5_no (by decide) 0 5 rfl rfl rfl rfl hl.1 rfl (Nat.le_of_ble_eq_true rfl) (dk hX5_row_0 17 rfl) ⟨Nat.zero_le _, Nat.zero_le _⟩ rfl (fun H locs hs => ?_)
        cases hf
        exact ri C hs (dk hX5_row_0 18 rfl)

def X5_judge_L12 (k : Unit → Option (Int32 × Int32)) (there : List Int32) (used : List Int32) (hidden : List Int32) (kind : List Int32) (good : List Int32) (row : List Int32) (ships : Int32) (coughs : Int32) (day : Int32) (free : Int32) (rowMany : Int32) (x1 : Int32) : Nat → Int32 → Option (Int32 × Int32)
  | 0, _ => none
  | n + 1, x2 =>
  if x1 ≤ x2 then
  k ()
  else
  if ships ≤ x2 then
  some (rowMany, x2)
  else
  (X5_depth there used hidden kind good coughs day free x2).bind fun u_1 =>
  (rd row x2).bind fun v_3 =>
  if u_1 = v_3 then
  X5_judge_L12 k there used hidden kind good row ships coughs day free rowMany x1 n (x2 + (1 : Int32))
  else
  some (rowMany, x2)
def X5_judge (there : List Int32) (used : List Int32) (hidden : List Int32) (kind : List Int32) (good : List Int32) (row : List Int32) (ships : Int32) (coughs : Int32) (day : Int32) (free : Int32) (rowMany : Int32) : Option (Int32 × Int32) :=
  X5_judge_L12 (fun _ =>
  some ((0 : Int32), (-9 : Int32))) there used hidden kind good row ships coughs day free (0 : Int32) rowMany 1000 (0 : Int32)
set_option maxRecDepth 100000 in
set_option maxHeartbeats 4000000 in
theorem l_X5_judge_L12 {l : Launch} {p : Program} {e : Env} {s : State} {m : MethodId} {args : Array Value} {below : List Frame} {meth : Method} {c : Code} {A : Nat → Prop} {G : Gx} {ad : Nat → Nat} {refused there used hidden kind figure good load inn tape letter letterAt told kept row costs : List Int32} {ships coughs day away taped reading statements hasImage isKeeping cursor backs free goodFor loadedWhen bareGood bareWhen rowMany lots : Int32} {x1 : Int32} {k : Unit → Option (Int32 × Int32)} {out : Int32 × Int32} (C : Cx p s m args meth c cX5_judge RX5 3 (some .int) G) : ∀ (n : Nat) (x2 : Int32), X5_judge_L12 k there used hidden kind good row ships coughs day free rowMany x1 n x2 = some out → ∀ (H : Heap) (locs : List Loc), St G A s.heap H locs (wM G ad refused there used hidden kind figure good load inn tape letter letterAt told kept row costs ships coughs day away taped reading statements hasImage isKeeping cursor backs free goodFor loadedWhen bareGood bareWhen rowMany lots) → ∀ ls : Array Slot, lv_has ls 3 [(0, .ref (ad 0)), (1, .int x1), (2, .int x2)] → (∀ (_ : Unit), k () = some out → ∀ (H : Heap) (locs : List Loc), St G A s.heap H locs (wM G ad refused there used hidden kind figure good load inn tape letter letterAt told kept row costs ships coughs day away taped reading statements hasImage isKeeping cursor backs free goodFor loadedWhen bareGood bareWhen rowMany lots) → ∀ ls : Array Slot, lv_has ls 3 [] → W p l e (rmOf 4 86) s m args below meth c H locs 0 0 (MQ below (Qof G A (some (.int out.2)) (wM G ad refused there used hidden kind figure good load inn tape letter letterAt told kept row costs ships coughs day away taped reading statements hasImage isKeeping cursor backs free goodFor loadedWhen bareGood bareWhen out.1 lots)) args s 0 0 A) (F0 m 47 ls [])) → W p l e (rmOf 4 86) s m args below meth c H locs 0 0 (MQ below (Qof G A (some (.int out.2)) (wM G ad refused there used hidden kind figure good load inn tape letter letterAt told kept row costs ships coughs day away taped reading statements hasImage isKeeping cursor backs free goodFor loadedWhen bareGood bareWhen out.1 lots)) args s 0 0 A) (F0 m 12 ls []) := by
  obtain ⟨hx, hb, hml, hown, hts, hK, hret, hlk⟩ := id C
  intro n
  induction n with
  | zero => intro x2 hf; cases hf
  | succ n ih =>
    intro x2 hf H locs hs ls hl hk
    rw [X5_judge_L12] at hf
    refine lv_iload_n hx hb (dk hX5_judge_0 8 rfl) rfl (lv_at hl 2 rfl) ?_
    refine lv_iload_n hx hb (dk hX5_judge_0 9 rfl) rfl (lv_at hl 1 rfl) ?_
    refine lv_icmp_ge (tgt := 47) hx hb (dk hX5_judge_0 10 rfl) (by decide) (fun hc => ?_) (fun hc => ?_)
    · replace hf := ip hf hc
      exact hk () hf _ _ hs _ (lv_sub hl [] rfl)
    · replace hf := in_ hf hc
      refine lv_iload_n hx hb (dk hX5_judge_0 11 rfl) rfl (lv_at hl 2 rfl) ?_
      refine lv_aload_n hx hb (dk hX5_judge_0 12 rfl) rfl (lv_at hl 0 rfl) ?_
      refine rg ui5 rfl C hs 0 rfl 9 (by decide) tw_699 rfl rfl (dk hX5_judge_0 13 rfl) ?_
      refine lv_icmp_ge (tgt := 39) hx hb (dk hX5_judge_0 14 rfl) (by decide) (fun hc => ?_) (fun hc => ?_)
      · replace hf := ip hf hc
        refine lv_iload_n hx hb (dk hX5_judge_0 23 rfl) rfl (lv_at hl 2 rfl) ?_
        cases hf
        exact ri C hs (dk hX5_judge_0 24 rfl)
      · replace hf := in_ hf hc
        refine lv_aload_n hx hb (dk hX5_judge_0 15 rfl) rfl (lv_at hl 0 rfl) ?_
        refine lv_iload_n hx hb (dk hX5_judge_0 16 rfl) rfl (lv_at hl 2 rfl) ?_
        obtain ⟨u_1, e_2, hf⟩ := Option.bind_eq_some_iff.mp hf
        refine Ct.V (As := [.int x2]) (rest := []) (st1 := [.int u_1]) (w1 := (wM G ad refused there used hidden kind figure good load inn tape letter letterAt told kept row costs ships coughs day away taped reading statements hasImage isKeeping cursor backs free goodFor loadedWhen bareGood bareWhen rowMany lots)) C hs (c_X5_depth e_2) tw_877 tw_879 tw_37 tw_85 tw_880 nq_X5_depth (by decide) 0 5 rfl rfl rfl rfl hl.1 rfl (Nat.le_of_ble_eq_true rfl) (dk hX5_judge_0 17 rfl) ⟨Nat.zero_le _, Nat.zero_le _⟩ rfl (fun H locs hs => ?_)
        refine lv_aload_n hx hb (dk hX5_judge_0 18 rfl) rfl (lv_at hl 0 rfl) ?_
        refine rg ui5 rfl C hs 0 rfl 30 (by decide) tw_720 rfl rfl (dk hX5_judge_0 19 rfl) ?_
        refine lv_iload_n hx hb (dk hX5_judge_0 20 rfl) rfl (lv_at hl 2 rfl) ?_
        obtain ⟨v_3, e_4, hf⟩ := Option.bind_eq_some_iff.mp hf
        refine rild C hs 15 rfl e_4 (dk hX5_judge_0 21 rfl) ?_
        refine lv_icmp_eq (tgt := 41) hx hb (dk hX5_judge_0 22 rfl) (by decide) (fun hc => ?_) (fun hc => ?_)
        · replace hf := ip hf hc
          refine lv_iinc (v := (x2 + (1 : Int32))) (lv' := [(2, .int (x2 + (1 : Int32))), (0, .ref (ad 0)), (1, .int x1)]) hx hb (dk hX5_judge_0 25 rfl) hl (k := 2) rfl (by first | rfl | decide) (by decide) rfl (fun ls hl => ?_)
          refine lv_goto (tgt := 12) hx hb (dk hX5_judge_0 26 rfl) (by decide) ?_
          exact ih _ hf _ _ hs _ (lv_sub hl [1, 2, 0] rfl) hk
        · replace hf := in_ hf hc
          refine lv_iload_n hx hb (dk hX5_judge_0 23 rfl) rfl (lv_at hl 2 rfl) ?_
          cases hf
          exact ri C hs (dk hX5_judge_0 24 rfl)
set_option maxRecDepth 100000 in
set_option maxHeartbeats 4000000 in
theorem c_X5_judge {l : Launch} {G : Gx} {ad : Nat → Nat} {refused there used hidden kind figure good load inn tape letter letterAt told kept row costs : List Int32} {ships coughs day away taped reading statements hasImage isKeeping cursor backs free goodFor loadedWhen bareGood bareWhen rowMany lots : Int32}  {out : Int32 × Int32} (hf : X5_judge there used hidden kind good row ships coughs day free rowMany = some out) : Ct l G yX5_judge cX5_judge 3 (some .int) 4 86 [.ref (ad 0)] (wM G ad refused there used hidden kind figure good load inn tape letter letterAt told kept row costs ships coughs day away taped reading statements hasImage isKeeping cursor backs free goodFor loadedWhen bareGood bareWhen rowMany lots) (some (.int out.2)) (wM G ad refused there used hidden kind figure good load inn tape letter letterAt told kept row costs ships coughs day away taped reading statements hasImage isKeeping cursor backs free goodFor loadedWhen bareGood bareWhen out.1 lots) := by
  refine Ct.intro RX5 rfl (plainFor_of_name (by decide)) (Nat.le_of_ble_eq_true rfl) rfl ?_
  intro p e s m args below meth c A C H locs hs ls hl
  obtain ⟨hx, hb, hml, hown, hts, hK, hret, hlk⟩ := id C
  have hl : lv_has ls 3 [(0, .ref (ad 0))] := hl
  unfold X5_judge at hf
  refine lv_aload_n hx hb (dk hX5_judge_0 0 rfl) rfl (lv_at hl 0 rfl) ?_
  refine rg ui5 rfl C hs 0 rfl 31 (by decide) tw_721 rfl rfl (dk hX5_judge_0 1 rfl) ?_
  refine lv_istore_n (lv' := [(1, .int rowMany), (0, .ref (ad 0))]) hx hb (dk hX5_judge_0 2 rfl) rfl hl (by decide) rfl (fun ls hl => ?_)
  refine lv_aload_n hx hb (dk hX5_judge_0 3 rfl) rfl (lv_at hl 1 rfl) ?_
  refine lv_iconst (v := (0 : Int32)) hx hb (dk hX5_judge_0 4 rfl) (by decide) ?_
  refine rp (w1 := (wM G ad refused there used hidden kind figure good load inn tape letter letterAt told kept row costs ships coughs day away taped reading statements hasImage isKeeping cursor backs free goodFor loadedWhen bareGood bareWhen (0 : Int32) lots)) tyX5 tyX5_ok nmX5 ui5 rfl C hs 0 rfl 31 (by decide) tw_721 rfl rfl rfl rfl (Nat.le_of_ble_eq_true rfl) rfl (dk hX5_judge_0 5 rfl) (fun H locs hs => ?_)
  refine lv_iconst (v := (0 : Int32)) hx hb (dk hX5_judge_0 6 rfl) (by decide) ?_
  refine lv_istore_n (lv' := [(2, .int (0 : Int32)), (1, .int rowMany), (0, .ref (ad 0))]) hx hb (dk hX5_judge_0 7 rfl) rfl hl (by decide) rfl (fun ls hl => ?_)
  refine l_X5_judge_L12 C 1000 _ hf _ _ hs _ (lv_sub hl [2, 1, 0] rfl) (fun _ hf H locs hs ls hl => ?_)
  refine lv_bipush (v := (-9 : Int32)) hx hb (dk hX5_judge_0 27 rfl) (by decide) ?_
  cases hf
  exact ri C hs (dk hX5_judge_0 28 rfl)

def X5_clear (rowMany : Int32) : Option (Int32 × Int32) :=
  some ((0 : Int32), rowMany)
set_option maxRecDepth 100000 in
set_option maxHeartbeats 4000000 in
theorem c_X5_clear {l : Launch} {G : Gx} {ad : Nat → Nat} {refused there used hidden kind figure good load inn tape letter letterAt told kept row costs : List Int32} {ships coughs day away taped reading statements hasImage isKeeping cursor backs free goodFor loadedWhen bareGood bareWhen rowMany lots : Int32}  {out : Int32 × Int32} (hf : X5_clear rowMany = some out) : Ct l G yX5_clear cX5_clear 2 (some .int) 0 0 [.ref (ad 0)] (wM G ad refused there used hidden kind figure good load inn tape letter letterAt told kept row costs ships coughs day away taped reading statements hasImage isKeeping cursor backs free goodFor loadedWhen bareGood bareWhen rowMany lots) (some (.int out.2)) (wM G ad refused there used hidden kind figure good load inn tape letter letterAt told kept row costs ships coughs day away taped reading statements hasImage isKeeping cursor backs free goodFor loadedWhen bareGood bareWhen out.1 lots) := by
  refine Ct.intro RX5 rfl (plainFor_of_name (by decide)) (Nat.le_of_ble_eq_true rfl) rfl ?_
  intro p e s m args below meth c A C H locs hs ls hl
  obtain ⟨hx, hb, hml, hown, hts, hK, hret, hlk⟩ := id C
  have hl : lv_has ls 2 [(0, .ref (ad 0))] := hl
  unfold X5_clear at hf
  refine lv_aload_n hx hb (dk hX5_clear_0 0 rfl) rfl (lv_at hl 0 rfl) ?_
  refine rg ui5 rfl C hs 0 rfl 31 (by decide) tw_721 rfl rfl (dk hX5_clear_0 1 rfl) ?_
  refine lv_istore_n (lv' := [(1, .int rowMany), (0, .ref (ad 0))]) hx hb (dk hX5_clear_0 2 rfl) rfl hl (by decide) rfl (fun ls hl => ?_)
  refine lv_aload_n hx hb (dk hX5_clear_0 3 rfl) rfl (lv_at hl 1 rfl) ?_
  refine lv_iconst (v := (0 : Int32)) hx hb (dk hX5_clear_0 4 rfl) (by decide) ?_
  refine rp (w1 := (wM G ad refused there used hidden kind figure good load inn tape letter letterAt told kept row costs ships coughs day away taped reading statements hasImage isKeeping cursor backs free goodFor loadedWhen bareGood bareWhen (0 : Int32) lots)) tyX5 tyX5_ok nmX5 ui5 rfl C hs 0 rfl 31 (by decide) tw_721 rfl rfl rfl rfl (Nat.le_of_ble_eq_true rfl) rfl (dk hX5_clear_0 5 rfl) (fun H locs hs => ?_)
  refine lv_iload_n hx hb (dk hX5_clear_0 6 rfl) rfl (lv_at hl 0 rfl) ?_
  cases hf
  exact ri C hs (dk hX5_clear_0 7 rfl)

def X5_draw (lots : Int32) (p0 : Int32) : Option (Int32 × Int32) :=
  if p0 = 0 then none else
  some (((lots * (1103515245 : Int32)) + (12345 : Int32)), (((((lots * (1103515245 : Int32)) + (12345 : Int32)) &&& (2147483647 : Int32)) / (65536 : Int32)) - ((((lots * (1103515245 : Int32)) + (12345 : Int32)) &&& (2147483647 : Int32)) / (65536 : Int32)) / p0 * p0))
set_option maxRecDepth 100000 in
set_option maxHeartbeats 4000000 in
theorem c_X5_draw {l : Launch} {G : Gx} {ad : Nat → Nat} {refused there used hidden kind figure good load inn tape letter letterAt told kept row costs : List Int32} {ships coughs day away taped reading statements hasImage isKeeping cursor backs free goodFor loadedWhen bareGood bareWhen rowMany lots : Int32} {p0 : Int32} {out : Int32 × Int32} (hf : X5_draw lots p0 = some out) : Ct l G yX5_draw cX5_draw 2 (some .int) 0 0 [.ref (ad 0), .int p0] (wM G ad refused there used hidden kind figure good load inn tape letter letterAt told kept row costs ships coughs day away taped reading statements hasImage isKeeping cursor backs free goodFor loadedWhen bareGood bareWhen rowMany lots) (some (.int out.2)) (wM G ad refused there used hidden kind figure good load inn tape letter letterAt told kept row costs ships coughs day away taped reading statements hasImage isKeeping cursor backs free goodFor loadedWhen bareGood bareWhen rowMany out.1) := by
  refine Ct.intro RX5 rfl (plainFor_of_name (by decide)) (Nat.le_of_ble_eq_true rfl) rfl ?_
  intro p e s m args below meth c A C H locs hs ls hl
  obtain ⟨hx, hb, hml, hown, hts, hK, hret, hlk⟩ := id C
  have hl : lv_has ls 2 [(0, .ref (ad 0)), (1, .int p0)] := hl
  unfold X5_draw at hf
  refine lv_aload_n hx hb (dk hX5_draw_0 0 rfl) rfl (lv_at hl 0 rfl) ?_
  refine lv_aload_n hx hb (dk hX5_draw_0 1 rfl) rfl (lv_at hl 0 rfl) ?_
  refine rg ui5 rfl C hs 0 rfl 33 (by decide) tw_723 rfl rfl (dk hX5_draw_0 2 rfl) ?_
  refine lv_ldcw (v := (1103515245 : Int32)) hx hb hown (hts _ tw_1225) (dk hX5_draw_0 3 rfl) ?_
  refine lv_imul hx hb (dk hX5_draw_0 4 rfl) ?_
  refine lv_sipush (v := (12345 : Int32)) hx hb (dk hX5_draw_0 5 rfl) (by decide) ?_
  refine lv_iadd hx hb (dk hX5_draw_0 6 rfl) ?_
  refine rp (w1 := (wM G ad refused there used hidden kind figure good load inn tape letter letterAt told kept row costs ships coughs day away taped reading statements hasImage isKeeping cursor backs free goodFor loadedWhen bareGood bareWhen rowMany ((lots * (1103515245 : Int32)) + (12345 : Int32)))) tyX5 tyX5_ok nmX5 ui5 rfl C hs 0 rfl 33 (by decide) tw_723 rfl rfl rfl rfl (Nat.le_of_ble_eq_true rfl) rfl (dk hX5_draw_0 7 rfl) (fun H locs hs => ?_)
  refine lv_aload_n hx hb (dk hX5_draw_0 8 rfl) rfl (lv_at hl 0 rfl) ?_
  refine rg ui5 rfl C hs 0 rfl 33 (by decide) tw_723 rfl rfl (dk hX5_draw_0 9 rfl) ?_
  refine lv_ldcw (v := (2147483647 : Int32)) hx hb hown (hts _ tw_1226) (dk hX5_draw_0 10 rfl) ?_
  refine lv_iand hx hb (dk hX5_draw_0 11 rfl) ?_
  refine lv_ldcw (v := (65536 : Int32)) hx hb hown (hts _ tw_1227) (dk hX5_draw_0 12 rfl) ?_
  refine lv_idiv hx hb (dk hX5_draw_0 13 rfl) (by decide) ?_
  refine lv_iload_n hx hb (dk hX5_draw_0 14 rfl) rfl (lv_at hl 1 rfl) ?_
  obtain ⟨hne, hf⟩ := idn hf
  refine lv_irem hx hb (dk hX5_draw_0 15 rfl) hne ?_
  cases hf
  exact ri C hs (dk hX5_draw_0 16 rfl)

def X5_lots_L63 (k : List Int32 → Int32 → Option (List Int32 × List Int32 × List Int32 × List Int32 × List Int32 × List Int32 × List Int32 × List Int32 × List Int32 × List Int32 × Int32 × Int32 × Int32 × Int32 × Int32 × Int32 × Int32)) : Nat → Int32 → List Int32 → Int32 → Option (List Int32 × List Int32 × List Int32 × List Int32 × List Int32 × List Int32 × List Int32 × List Int32 × List Int32 × List Int32 × Int32 × Int32 × Int32 × Int32 × Int32 × Int32 × Int32)
  | 0, _, _, _ => none
  | n + 1, x7, there, lots =>
  if (6 : Int32) ≤ x7 then
  k there lots
  else
  (X5_draw lots (40 : Int32)).bind fun u_5 =>
  (wr there x7 u_5.2).bind fun there_7 =>
  X5_lots_L63 k n (x7 + (1 : Int32)) there_7 u_5.1
def X5_lots_L50 (k : Int32 → List Int32 → List Int32 → List Int32 → List Int32 → List Int32 → List Int32 → List Int32 → List Int32 → List Int32 → Int32 → Int32 → Int32 → Int32 → Int32 → Int32 → Option (List Int32 × List Int32 × List Int32 × List Int32 × List Int32 × List Int32 × List Int32 × List Int32 × List Int32 × List Int32 × Int32 × Int32 × Int32 × Int32 × Int32 × Int32 × Int32)) (away : Int32) (free : Int32) (x1 : Int32) (x3 : Int32) : Nat → Int32 → Int32 → List Int32 → List Int32 → List Int32 → List Int32 → List Int32 → List Int32 → List Int32 → List Int32 → List Int32 → Int32 → Int32 → Int32 → Int32 → Int32 → Int32 → Option (List Int32 × List Int32 × List Int32 × List Int32 × List Int32 × List Int32 × List Int32 × List Int32 × List Int32 × List Int32 × Int32 × Int32 × Int32 × Int32 × Int32 × Int32 × Int32)
  | 0, _, _, _, _, _, _, _, _, _, _, _, _, _, _, _, _, _ => none
  | n + 1, x5, x6, there, used, hidden, kind, figure, good, load, inn, kept, ships, coughs, day, isKeeping, cursor, lots =>
  if x1 ≤ x6 then
  k x5 there used hidden kind figure good load inn kept ships coughs day isKeeping cursor lots
  else
  (X5_thinks there used hidden kind figure good load inn kept ships coughs day isKeeping cursor).bind fun u_3 =>
  X5_lots_L63 (fun there_9 lots_10 =>
  (X5_goes there_9 u_3.2.1 u_3.2.2.1 u_3.2.2.2.1 u_3.2.2.2.2.1 u_3.2.2.2.2.2.1 u_3.2.2.2.2.2.2.1 u_3.2.2.2.2.2.2.2.1 u_3.2.2.2.2.2.2.2.2.2.1 u_3.2.2.2.2.2.2.2.2.2.2.1 u_3.2.2.2.2.2.2.2.2.2.2.2.1 away free (10 : Int32)).bind fun u_11 =>
  if x3 = (0 : Int32) then
  (X5_inOnes u_11.2.1 u_3.2.2.2.2.2.2.2.2.2.1).bind fun u_17 =>
  (X5_bits u_17).bind fun u_19 =>
  (X5_forgets u_11.1 u_3.2.1 u_3.2.2.1 u_3.2.2.2.1 u_3.2.2.2.2.1 u_3.2.2.2.2.2.1 u_3.2.2.2.2.2.2.1 u_11.2.1 u_3.2.2.2.2.2.2.2.2.1 u_3.2.2.2.2.2.2.2.2.2.1 u_11.2.2.1 u_11.2.2.2 u_3.2.2.2.2.2.2.2.2.2.2.2.2.1 u_3.2.2.2.2.2.2.2.2.2.2.2.2.2).bind fun u_21 =>
  X5_lots_L50 k away free x1 x3 n (x5 + u_19) (x6 + (1 : Int32)) u_21.1 u_21.2.1 u_21.2.2.1 u_21.2.2.2.1 u_21.2.2.2.2.1 u_21.2.2.2.2.2.1 u_21.2.2.2.2.2.2.1 u_21.2.2.2.2.2.2.2.1 u_21.2.2.2.2.2.2.2.2.1 u_21.2.2.2.2.2.2.2.2.2.1 u_21.2.2.2.2.2.2.2.2.2.2.1 u_21.2.2.2.2.2.2.2.2.2.2.2.1 u_21.2.2.2.2.2.2.2.2.2.2.2.2.1 u_21.2.2.2.2.2.2.2.2.2.2.2.2.2 lots_10
  else
  (X5_allLack u_11.1 u_3.2.1 free).bind fun u_13 =>
  (X5_forgets u_11.1 u_3.2.1 u_3.2.2.1 u_3.2.2.2.1 u_3.2.2.2.2.1 u_3.2.2.2.2.2.1 u_3.2.2.2.2.2.2.1 u_11.2.1 u_3.2.2.2.2.2.2.2.2.1 u_3.2.2.2.2.2.2.2.2.2.1 u_11.2.2.1 u_11.2.2.2 u_3.2.2.2.2.2.2.2.2.2.2.2.2.1 u_3.2.2.2.2.2.2.2.2.2.2.2.2.2).bind fun u_15 =>
  X5_lots_L50 k away free x1 x3 n (x5 + u_13) (x6 + (1 : Int32)) u_15.1 u_15.2.1 u_15.2.2.1 u_15.2.2.2.1 u_15.2.2.2.2.1 u_15.2.2.2.2.2.1 u_15.2.2.2.2.2.2.1 u_15.2.2.2.2.2.2.2.1 u_15.2.2.2.2.2.2.2.2.1 u_15.2.2.2.2.2.2.2.2.2.1 u_15.2.2.2.2.2.2.2.2.2.2.1 u_15.2.2.2.2.2.2.2.2.2.2.2.1 u_15.2.2.2.2.2.2.2.2.2.2.2.2.1 u_15.2.2.2.2.2.2.2.2.2.2.2.2.2 lots_10) 1000 (0 : Int32) u_3.1 lots
def X5_lots (refused : List Int32) (there : List Int32) (used : List Int32) (hidden : List Int32) (kind : List Int32) (figure : List Int32) (good : List Int32) (load : List Int32) (inn : List Int32) (kept : List Int32) (ships : Int32) (coughs : Int32) (day : Int32) (away : Int32) (isKeeping : Int32) (cursor : Int32) (free : Int32) (lots : Int32) (p0 : Int32) (p1 : Int32) (p2 : Int32) : Option (List Int32 × List Int32 × List Int32 × List Int32 × List Int32 × List Int32 × List Int32 × List Int32 × List Int32 × List Int32 × Int32 × Int32 × Int32 × Int32 × Int32 × Int32 × Int32) :=
  (X5_bound p0 (1 : Int32) (20 : Int32)).bind fun u_1 =>
  if u_1 = (0 : Int32) then
  (X5_isIn p2 (0 : Int32) (1 : Int32)).bind fun u_41 =>
  if u_41 = (0 : Int32) then
  (X5_no refused (-2 : Int32)).bind fun u_61 =>
  some (u_61.1, there, used, hidden, kind, figure, good, load, inn, kept, ships, coughs, day, isKeeping, cursor, lots, u_61.2)
  else
  if u_1 = (0 : Int32) then
  X5_lots_L50 (fun y5_43 there_44 used_45 hidden_46 kind_47 figure_48 good_49 load_50 inn_51 kept_52 ships_53 coughs_54 day_55 isKeeping_56 cursor_57 lots_58 =>
  some (refused, there_44, used_45, hidden_46, kind_47, figure_48, good_49, load_50, inn_51, kept_52, ships_53, coughs_54, day_55, isKeeping_56, cursor_57, lots_58, y5_43)) away free p0 p2 1000 (0 : Int32) (0 : Int32) there used hidden kind figure good load inn kept ships coughs day isKeeping cursor p1
  else
  (X5_no refused u_1).bind fun u_59 =>
  some (u_59.1, there, used, hidden, kind, figure, good, load, inn, kept, ships, coughs, day, isKeeping, cursor, lots, u_59.2)
  else
  if u_1 = (0 : Int32) then
  X5_lots_L50 (fun y5_23 there_24 used_25 hidden_26 kind_27 figure_28 good_29 load_30 inn_31 kept_32 ships_33 coughs_34 day_35 isKeeping_36 cursor_37 lots_38 =>
  some (refused, there_24, used_25, hidden_26, kind_27, figure_28, good_29, load_30, inn_31, kept_32, ships_33, coughs_34, day_35, isKeeping_36, cursor_37, lots_38, y5_23)) away free p0 p2 1000 (0 : Int32) (0 : Int32) there used hidden kind figure good load inn kept ships coughs day isKeeping cursor p1
  else
  (X5_no refused u_1).bind fun u_39 =>
  some (u_39.1, there, used, hidden, kind, figure, good, load, inn, kept, ships, coughs, day, isKeeping, cursor, lots, u_39.2)
set_option maxRecDepth 100000 in
set_option maxHeartbeats 4000000 in
theorem l_X5_lots_L63 {l : Launch} {p : Program} {e : Env} {s : State} {m : MethodId} {args : Array Value} {below : List Frame} {meth : Method} {c : Code} {A : Nat → Prop} {G : Gx} {ad : Nat → Nat} {refused used hidden kind figure good load inn tape letter letterAt told kept row costs : List Int32} {ships coughs day away taped reading statements hasImage isKeeping cursor backs free goodFor loadedWhen bareGood bareWhen rowMany : Int32} {x1 : Int32} {x3 : Int32} {x5 : Int32} {x6 : Int32} {k : List Int32 → Int32 → Option (List Int32 × List Int32 × List Int32 × List Int32 × List Int32 × List Int32 × List Int32 × List Int32 × List Int32 × List Int32 × Int32 × Int32 × Int32 × Int32 × Int32 × Int32 × Int32)} {out : List Int32 × List Int32 × List Int32 × List Int32 × List Int32 × List Int32 × List Int32 × List Int32 × List Int32 × List Int32 × Int32 × Int32 × Int32 × Int32 × Int32 × Int32 × Int32} (C : Cx p s m args meth c cX5_lots RX5 8 (some .int) G) : ∀ (n : Nat) (x7 : Int32) (there : List Int32) (lots : Int32), X5_lots_L63 k n x7 there lots = some out → ∀ (H : Heap) (locs : List Loc), St G A s.heap H locs (wM G ad refused there used hidden kind figure good load inn tape letter letterAt told kept row costs ships coughs day away taped reading statements hasImage isKeeping cursor backs free goodFor loadedWhen bareGood bareWhen rowMany lots) → ∀ ls : Array Slot, lv_has ls 8 [(0, .ref (ad 0)), (1, .int x1), (3, .int x3), (5, .int x5), (6, .int x6), (7, .int x7)] → (∀ (z_there : List Int32) (z_lots : Int32), k z_there z_lots = some out → ∀ (H : Heap) (locs : List Loc), St G A s.heap H locs (wM G ad refused z_there used hidden kind figure good load inn tape letter letterAt told kept row costs ships coughs day away taped reading statements hasImage isKeeping cursor backs free goodFor loadedWhen bareGood bareWhen rowMany z_lots) → ∀ ls : Array Slot, lv_has ls 8 [(0, .ref (ad 0)), (1, .int x1), (3, .int x3), (5, .int x5), (6, .int x6)] → W p l e (rmOf 7 151) s m args below meth c H locs 0 0 (MQ below (Qof G A (some (.int out.2.2.2.2.2.2.2.2.2.2.2.2.2.2.2.2)) (wM G ad out.1 out.2.1 out.2.2.1 out.2.2.2.1 out.2.2.2.2.1 out.2.2.2.2.2.1 out.2.2.2.2.2.2.1 out.2.2.2.2.2.2.2.1 out.2.2.2.2.2.2.2.2.1 tape letter letterAt told out.2.2.2.2.2.2.2.2.2.1 row costs out.2.2.2.2.2.2.2.2.2.2.1 out.2.2.2.2.2.2.2.2.2.2.2.1 out.2.2.2.2.2.2.2.2.2.2.2.2.1 away taped reading statements hasImage out.2.2.2.2.2.2.2.2.2.2.2.2.2.1 out.2.2.2.2.2.2.2.2.2.2.2.2.2.2.1 backs free goodFor loadedWhen bareGood bareWhen rowMany out.2.2.2.2.2.2.2.2.2.2.2.2.2.2.2.1)) args s 0 0 A) (F0 m 89 ls [])) → W p l e (rmOf 7 151) s m args below meth c H locs 0 0 (MQ below (Qof G A (some (.int out.2.2.2.2.2.2.2.2.2.2.2.2.2.2.2.2)) (wM G ad out.1 out.2.1 out.2.2.1 out.2.2.2.1 out.2.2.2.2.1 out.2.2.2.2.2.1 out.2.2.2.2.2.2.1 out.2.2.2.2.2.2.2.1 out.2.2.2.2.2.2.2.2.1 tape letter letterAt told out.2.2.2.2.2.2.2.2.2.1 row costs out.2.2.2.2.2.2.2.2.2.2.1 out.2.2.2.2.2.2.2.2.2.2.2.1 out.2.2.2.2.2.2.2.2.2.2.2.2.1 away taped reading statements hasImage out.2.2.2.2.2.2.2.2.2.2.2.2.2.1 out.2.2.2.2.2.2.2.2.2.2.2.2.2.2.1 backs free goodFor loadedWhen bareGood bareWhen rowMany out.2.2.2.2.2.2.2.2.2.2.2.2.2.2.2.1)) args s 0 0 A) (F0 m 63 ls []) := by
  obtain ⟨hx, hb, hml, hown, hts, hK, hret, hlk⟩ := id C
  intro n
  induction n with
  | zero => intro x7 there lots hf; cases hf
  | succ n ih =>
    intro x7 there lots hf H locs hs ls hl hk
    rw [X5_lots_L63] at hf
    refine lv_iload hx hb (dk hX5_lots_0 34 rfl) (lv_at hl 5 rfl) ?_
    refine lv_bipush (v := (6 : Int32)) hx hb (dk hX5_lots_0 35 rfl) (by decide) ?_
    refine lv_icmp_ge (tgt := 89) hx hb (dk hX5_lots_0 36 rfl) (by decide) (fun hc => ?_) (fun hc => ?_)
    · replace hf := ip hf hc
      exact hk _ _ hf _ _ hs _ (lv_sub hl [0, 1, 2, 3, 4] rfl)
    · replace hf := in_ hf hc
      refine lv_aload_n hx hb (dk hX5_lots_0 37 rfl) rfl (lv_at hl 0 rfl) ?_
      refine rg ui5 rfl C hs 0 rfl 1 (by decide) tw_691 rfl rfl (dk hX5_lots_0 38 rfl) ?_
      refine lv_iload hx hb (dk hX5_lots_0 39 rfl) (lv_at hl 5 rfl) ?_
      refine lv_aload_n hx hb (dk hX5_lots_1 0 rfl) rfl (lv_at hl 0 rfl) ?_
      refine lv_bipush (v := (40 : Int32)) hx hb (dk hX5_lots_1 1 rfl) (by decide) ?_
      obtain ⟨u_5, e_6, hf⟩ := Option.bind_eq_some_iff.mp hf
      refine Ct.V (As := [.int (40 : Int32)]) (rest := [.int x7, .ref (ad 2)]) (st1 := [.int u_5.2, .int x7, .ref (ad 2)]) (w1 := (wM G ad refused there used hidden kind figure good load inn tape letter letterAt told kept row costs ships coughs day away taped reading statements hasImage isKeeping cursor backs free goodFor loadedWhen bareGood bareWhen rowMany u_5.1)) C hs (c_X5_draw e_6) tw_1221 tw_1223 tw_77 tw_85 tw_1224 nq_X5_draw (by decide) 0 5 rfl rfl rfl rfl hl.1 rfl (Nat.le_of_ble_eq_true rfl) (dk hX5_lots_1 2 rfl) ⟨Nat.zero_le _, Nat.zero_le _⟩ rfl (fun H locs hs => ?_)
      obtain ⟨there_7, e_8, hf⟩ := Option.bind_eq_some_iff.mp hf
      refine rist (w1 := (wM G ad refused there_7 used hidden kind figure good load inn tape letter letterAt told kept row costs ships coughs day away taped reading statements hasImage isKeeping cursor backs free goodFor loadedWhen bareGood bareWhen rowMany u_5.1)) C hs 2 rfl e_8 rfl (dk hX5_lots_1 3 rfl) (fun H locs hs => ?_)
      refine lv_iinc (v := (x7 + (1 : Int32))) (lv' := [(7, .int (x7 + (1 : Int32))), (0, .ref (ad 0)), (1, .int x1), (3, .int x3), (5, .int x5), (6, .int x6)]) hx hb (dk hX5_lots_1 4 rfl) hl (k := 5) rfl (by first | rfl | decide) (by decide) rfl (fun ls hl => ?_)
      refine lv_goto (tgt := 63) hx hb (dk hX5_lots_1 5 rfl) (by decide) ?_
      exact ih _ _ _ hf _ _ hs _ (lv_sub hl [1, 2, 3, 4, 5, 0] rfl) hk
set_option maxRecDepth 100000 in
set_option maxHeartbeats 4000000 in
theorem l_X5_lots_L50 {l : Launch} {p : Program} {e : Env} {s : State} {m : MethodId} {args : Array Value} {below : List Frame} {meth : Method} {c : Code} {A : Nat → Prop} {G : Gx} {ad : Nat → Nat} {refused tape letter letterAt told row costs : List Int32} {away taped reading statements hasImage backs free goodFor loadedWhen bareGood bareWhen rowMany : Int32} {x1 : Int32} {x3 : Int32} {k : Int32 → List Int32 → List Int32 → List Int32 → List Int32 → List Int32 → List Int32 → List Int32 → List Int32 → List Int32 → Int32 → Int32 → Int32 → Int32 → Int32 → Int32 → Option (List Int32 × List Int32 × List Int32 × List Int32 × List Int32 × List Int32 × List Int32 × List Int32 × List Int32 × List Int32 × Int32 × Int32 × Int32 × Int32 × Int32 × Int32 × Int32)} {out : List Int32 × List Int32 × List Int32 × List Int32 × List Int32 × List Int32 × List Int32 × List Int32 × List Int32 × List Int32 × Int32 × Int32 × Int32 × Int32 × Int32 × Int32 × Int32} (C : Cx p s m args meth c cX5_lots RX5 8 (some .int) G) : ∀ (n : Nat) (x5 : Int32) (x6 : Int32) (there : List Int32) (used : List Int32) (hidden : List Int32) (kind : List Int32) (figure : List Int32) (good : List Int32) (load : List Int32) (inn : List Int32) (kept : List Int32) (ships : Int32) (coughs : Int32) (day : Int32) (isKeeping : Int32) (cursor : Int32) (lots : Int32), X5_lots_L50 k away free x1 x3 n x5 x6 there used hidden kind figure good load inn kept ships coughs day isKeeping cursor lots = some out → ∀ (H : Heap) (locs : List Loc), St G A s.heap H locs (wM G ad refused there used hidden kind figure good load inn tape letter letterAt told kept row costs ships coughs day away taped reading statements hasImage isKeeping cursor backs free goodFor loadedWhen bareGood bareWhen rowMany lots) → ∀ ls : Array Slot, lv_has ls 8 [(0, .ref (ad 0)), (1, .int x1), (3, .int x3), (5, .int x5), (6, .int x6)] → (∀ (y5 : Int32) (z_there : List Int32) (z_used : List Int32) (z_hidden : List Int32) (z_kind : List Int32) (z_figure : List Int32) (z_good : List Int32) (z_load : List Int32) (z_inn : List Int32) (z_kept : List Int32) (z_ships : Int32) (z_coughs : Int32) (z_day : Int32) (z_isKeeping : Int32) (z_cursor : Int32) (z_lots : Int32), k y5 z_there z_used z_hidden z_kind z_figure z_good z_load z_inn z_kept z_ships z_coughs z_day z_isKeeping z_cursor z_lots = some out → ∀ (H : Heap) (locs : List Loc), St G A s.heap H locs (wM G ad refused z_there z_used z_hidden z_kind z_figure z_good z_load z_inn tape letter letterAt told z_kept row costs z_ships z_coughs z_day away taped reading statements hasImage z_isKeeping z_cursor backs free goodFor loadedWhen bareGood bareWhen rowMany z_lots) → ∀ ls : Array Slot, lv_has ls 8 [(5, .int y5)] → W p l e (rmOf 7 151) s m args below meth c H locs 0 0 (MQ below (Qof G A (some (.int out.2.2.2.2.2.2.2.2.2.2.2.2.2.2.2.2)) (wM G ad out.1 out.2.1 out.2.2.1 out.2.2.2.1 out.2.2.2.2.1 out.2.2.2.2.2.1 out.2.2.2.2.2.2.1 out.2.2.2.2.2.2.2.1 out.2.2.2.2.2.2.2.2.1 tape letter letterAt told out.2.2.2.2.2.2.2.2.2.1 row costs out.2.2.2.2.2.2.2.2.2.2.1 out.2.2.2.2.2.2.2.2.2.2.2.1 out.2.2.2.2.2.2.2.2.2.2.2.2.1 away taped reading statements hasImage out.2.2.2.2.2.2.2.2.2.2.2.2.2.1 out.2.2.2.2.2.2.2.2.2.2.2.2.2.2.1 backs free goodFor loadedWhen bareGood bareWhen rowMany out.2.2.2.2.2.2.2.2.2.2.2.2.2.2.2.1)) args s 0 0 A) (F0 m 128 ls [])) → W p l e (rmOf 7 151) s m args below meth c H locs 0 0 (MQ below (Qof G A (some (.int out.2.2.2.2.2.2.2.2.2.2.2.2.2.2.2.2)) (wM G ad out.1 out.2.1 out.2.2.1 out.2.2.2.1 out.2.2.2.2.1 out.2.2.2.2.2.1 out.2.2.2.2.2.2.1 out.2.2.2.2.2.2.2.1 out.2.2.2.2.2.2.2.2.1 tape letter letterAt told out.2.2.2.2.2.2.2.2.2.1 row costs out.2.2.2.2.2.2.2.2.2.2.1 out.2.2.2.2.2.2.2.2.2.2.2.1 out.2.2.2.2.2.2.2.2.2.2.2.2.1 away taped reading statements hasImage out.2.2.2.2.2.2.2.2.2.2.2.2.2.1 out.2.2.2.2.2.2.2.2.2.2.2.2.2.2.1 backs free goodFor loadedWhen bareGood bareWhen rowMany out.2.2.2.2.2.2.2.2.2.2.2.2.2.2.2.1)) args s 0 0 A) (F0 m 50 ls []) := by
  obtain ⟨hx, hb, hml, hown, hts, hK, hret, hlk⟩ := id C
  intro n
  induction n with
  | zero => intro x5 x6 there used hidden kind figure good load inn kept ships coughs day isKeeping cursor lots hf; cases hf
  | succ n ih =>
    intro x5 x6 there used hidden kind figure good load inn kept ships coughs day isKeeping cursor lots hf H locs hs ls hl hk
    rw [X5_lots_L50] at hf
    refine lv_iload hx hb (dk hX5_lots_0 27 rfl) (lv_at hl 4 rfl) ?_
    refine lv_iload_n hx hb (dk hX5_lots_0 28 rfl) rfl (lv_at hl 1 rfl) ?_
    refine lv_icmp_ge (tgt := 128) hx hb (dk hX5_lots_0 29 rfl) (by decide) (fun hc => ?_) (fun hc => ?_)
    · replace hf := ip hf hc
      exact hk _ _ _ _ _ _ _ _ _ _ _ _ _ _ _ _ hf _ _ hs _ (lv_sub hl [3] rfl)
    · replace hf := in_ hf hc
      refine lv_aload_n hx hb (dk hX5_lots_0 30 rfl) rfl (lv_at hl 0 rfl) ?_
      obtain ⟨u_3, e_4, hf⟩ := Option.bind_eq_some_iff.mp hf
      refine Ct.V (As := []) (rest := []) (st1 := []) (w1 := (wM G ad refused u_3.1 u_3.2.1 u_3.2.2.1 u_3.2.2.2.1 u_3.2.2.2.2.1 u_3.2.2.2.2.2.1 u_3.2.2.2.2.2.2.1 u_3.2.2.2.2.2.2.2.1 tape letter letterAt told u_3.2.2.2.2.2.2.2.2.1 row costs u_3.2.2.2.2.2.2.2.2.2.1 u_3.2.2.2.2.2.2.2.2.2.2.1 u_3.2.2.2.2.2.2.2.2.2.2.2.1 away taped reading statements hasImage u_3.2.2.2.2.2.2.2.2.2.2.2.2.1 u_3.2.2.2.2.2.2.2.2.2.2.2.2.2 backs free goodFor loadedWhen bareGood bareWhen rowMany lots)) C hs (c_X5_thinks e_4) tw_993 tw_995 tw_51 tw_85 tw_996 nq_X5_thinks (by decide) 0 5 rfl rfl rfl rfl hl.1 rfl (Nat.le_of_ble_eq_true rfl) (dk hX5_lots_0 31 rfl) ⟨Nat.zero_le _, Nat.zero_le _⟩ rfl (fun H locs hs => ?_)
      refine lv_iconst (v := (0 : Int32)) hx hb (dk hX5_lots_0 32 rfl) (by decide) ?_
      refine lv_istore (lv' := [(7, .int (0 : Int32)), (0, .ref (ad 0)), (1, .int x1), (3, .int x3), (5, .int x5), (6, .int x6)]) hx hb (dk hX5_lots_0 33 rfl) hl (by decide) rfl (fun ls hl => ?_)
      refine l_X5_lots_L63 C 1000 _ _ _ hf _ _ hs _ (lv_sub hl [1, 2, 3, 4, 5, 0] rfl) (fun there_9 lots_10 hf H locs hs ls hl => ?_)
      refine lv_aload_n hx hb (dk hX5_lots_1 6 rfl) rfl (lv_at hl 0 rfl) ?_
      refine lv_bipush (v := (10 : Int32)) hx hb (dk hX5_lots_1 7 rfl) (by decide) ?_
      obtain ⟨u_11, e_12, hf⟩ := Option.bind_eq_some_iff.mp hf
      refine Ct.V (As := [.int (10 : Int32)]) (rest := []) (st1 := []) (w1 := (wM G ad refused u_11.1 u_3.2.1 u_3.2.2.1 u_3.2.2.2.1 u_3.2.2.2.2.1 u_3.2.2.2.2.2.1 u_3.2.2.2.2.2.2.1 u_11.2.1 tape letter letterAt told u_3.2.2.2.2.2.2.2.2.1 row costs u_3.2.2.2.2.2.2.2.2.2.1 u_11.2.2.1 u_11.2.2.2 away taped reading statements hasImage u_3.2.2.2.2.2.2.2.2.2.2.2.2.1 u_3.2.2.2.2.2.2.2.2.2.2.2.2.2 backs free goodFor loadedWhen bareGood bareWhen rowMany lots_10)) C hs (c_X5_goes e_12) tw_862 tw_864 tw_34 tw_85 tw_865 nq_X5_goes (by decide) 0 5 rfl rfl rfl rfl hl.1 rfl (Nat.le_of_ble_eq_true rfl) (dk hX5_lots_1 8 rfl) ⟨Nat.zero_le _, Nat.zero_le _⟩ rfl (fun H locs hs => ?_)
      refine lv_iload hx hb (dk hX5_lots_1 9 rfl) (lv_at hl 3 rfl) ?_
      refine lv_iload_n hx hb (dk hX5_lots_1 10 rfl) rfl (lv_at hl 2 rfl) ?_
      refine lv_if_ne (tgt := 111) hx hb (dk hX5_lots_1 11 rfl) (by decide) (fun hc => ?_) (fun hc => ?_)
      · replace hf := in_ hf hc
        refine lv_aload_n hx hb (dk hX5_lots_1 16 rfl) rfl (lv_at hl 0 rfl) ?_
        obtain ⟨u_13, e_14, hf⟩ := Option.bind_eq_some_iff.mp hf
        refine Ct.V (As := []) (rest := [.int x5]) (st1 := [.int u_13, .int x5]) (w1 := (wM G ad refused u_11.1 u_3.2.1 u_3.2.2.1 u_3.2.2.2.1 u_3.2.2.2.2.1 u_3.2.2.2.2.2.1 u_3.2.2.2.2.2.2.1 u_11.2.1 tape letter letterAt told u_3.2.2.2.2.2.2.2.2.1 row costs u_3.2.2.2.2.2.2.2.2.2.1 u_11.2.2.1 u_11.2.2.2 away taped reading statements hasImage u_3.2.2.2.2.2.2.2.2.2.2.2.2.1 u_3.2.2.2.2.2.2.2.2.2.2.2.2.2 backs free goodFor loadedWhen bareGood bareWhen rowMany lots_10)) C hs (c_X5_allLack e_14) tw_1081 tw_1083 tw_64 tw_85 tw_1084 nq_X5_allLack (by decide) 0 5 rfl rfl rfl rfl hl.1 rfl (Nat.le_of_ble_eq_true rfl) (dk hX5_lots_1 17 rfl) ⟨Nat.zero_le _, Nat.zero_le _⟩ rfl (fun H locs hs => ?_)
        refine lv_iadd hx hb (dk hX5_lots_1 18 rfl) ?_
        refine lv_istore (lv' := [(5, .int (x5 + u_13)), (0, .ref (ad 0)), (1, .int x1), (3, .int x3), (6, .int x6)]) hx hb (dk hX5_lots_1 19 rfl) hl (by decide) rfl (fun ls hl => ?_)
        refine lv_aload_n hx hb (dk hX5_lots_1 20 rfl) rfl (lv_at hl 1 rfl) ?_
        obtain ⟨u_15, e_16, hf⟩ := Option.bind_eq_some_iff.mp hf
        refine Ct.V (As := []) (rest := []) (st1 := []) (w1 := (wM G ad refused u_15.1 u_15.2.1 u_15.2.2.1 u_15.2.2.2.1 u_15.2.2.2.2.1 u_15.2.2.2.2.2.1 u_15.2.2.2.2.2.2.1 u_15.2.2.2.2.2.2.2.1 tape letter letterAt told u_15.2.2.2.2.2.2.2.2.1 row costs u_15.2.2.2.2.2.2.2.2.2.1 u_15.2.2.2.2.2.2.2.2.2.2.1 u_15.2.2.2.2.2.2.2.2.2.2.2.1 away taped reading statements hasImage u_15.2.2.2.2.2.2.2.2.2.2.2.2.1 u_15.2.2.2.2.2.2.2.2.2.2.2.2.2 backs free goodFor loadedWhen bareGood bareWhen rowMany lots_10)) C hs (c_X5_forgets e_16) tw_997 tw_999 tw_52 tw_85 tw_1000 nq_X5_forgets (by decide) 0 5 rfl rfl rfl rfl hl.1 rfl (Nat.le_of_ble_eq_true rfl) (dk hX5_lots_1 21 rfl) ⟨Nat.zero_le _, Nat.zero_le _⟩ rfl (fun H locs hs => ?_)
        refine lv_iinc (v := (x6 + (1 : Int32))) (lv' := [(6, .int (x6 + (1 : Int32))), (5, .int (x5 + u_13)), (0, .ref (ad 0)), (1, .int x1), (3, .int x3)]) hx hb (dk hX5_lots_1 22 rfl) hl (k := 4) rfl (by first | rfl | decide) (by decide) rfl (fun ls hl => ?_)
        refine lv_goto (tgt := 50) hx hb (dk hX5_lots_1 23 rfl) (by decide) ?_
        exact ih _ _ _ _ _ _ _ _ _ _ _ _ _ _ _ _ _ hf _ _ hs _ (lv_sub hl [2, 3, 4, 1, 0] rfl) hk
      · replace hf := ip hf hc
        refine lv_aload_n hx hb (dk hX5_lots_1 12 rfl) rfl (lv_at hl 0 rfl) ?_
        obtain ⟨u_17, e_18, hf⟩ := Option.bind_eq_some_iff.mp hf
        refine Ct.V (As := []) (rest := [.int x5]) (st1 := [.int u_17, .int x5]) (w1 := (wM G ad refused u_11.1 u_3.2.1 u_3.2.2.1 u_3.2.2.2.1 u_3.2.2.2.2.1 u_3.2.2.2.2.2.1 u_3.2.2.2.2.2.2.1 u_11.2.1 tape letter letterAt told u_3.2.2.2.2.2.2.2.2.1 row costs u_3.2.2.2.2.2.2.2.2.2.1 u_11.2.2.1 u_11.2.2.2 away taped reading statements hasImage u_3.2.2.2.2.2.2.2.2.2.2.2.2.1 u_3.2.2.2.2.2.2.2.2.2.2.2.2.2 backs free goodFor loadedWhen bareGood bareWhen rowMany lots_10)) C hs (c_X5_inOnes e_18) tw_979 tw_981 tw_50 tw_85 tw_982 nq_X5_inOnes (by decide) 0 5 rfl rfl rfl rfl hl.1 rfl (Nat.le_of_ble_eq_true rfl) (dk hX5_lots_1 13 rfl) ⟨Nat.zero_le _, Nat.zero_le _⟩ rfl (fun H locs hs => ?_)
        obtain ⟨u_19, e_20, hf⟩ := Option.bind_eq_some_iff.mp hf
        refine Ct.S (As := [.int u_17]) (rest := [.int x5]) (st1 := [.int u_19, .int x5]) (w1 := (wM G ad refused u_11.1 u_3.2.1 u_3.2.2.1 u_3.2.2.2.1 u_3.2.2.2.2.1 u_3.2.2.2.2.2.1 u_3.2.2.2.2.2.2.1 u_11.2.1 tape letter letterAt told u_3.2.2.2.2.2.2.2.2.1 row costs u_3.2.2.2.2.2.2.2.2.2.1 u_11.2.2.1 u_11.2.2.2 away taped reading statements hasImage u_3.2.2.2.2.2.2.2.2.2.2.2.2.1 u_3.2.2.2.2.2.2.2.2.2.2.2.2.2 backs free goodFor loadedWhen bareGood bareWhen rowMany lots_10)) C hs (c_X5_bits e_20) tw_983 tw_984 tw_85 tw_985 nq_X5_bits (by decide) rfl hl.1 rfl (Nat.le_of_ble_eq_true rfl) (dk hX5_lots_1 14 rfl) ⟨Nat.zero_le _, Nat.zero_le _⟩ rfl (fun H locs hs => ?_)
        refine lv_goto (tgt := 115) hx hb (dk hX5_lots_1 15 rfl) (by decide) ?_
        refine lv_iadd hx hb (dk hX5_lots_1 18 rfl) ?_
        refine lv_istore (lv' := [(5, .int (x5 + u_19)), (0, .ref (ad 0)), (1, .int x1), (3, .int x3), (6, .int x6)]) hx hb (dk hX5_lots_1 19 rfl) hl (by decide) rfl (fun ls hl => ?_)
        refine lv_aload_n hx hb (dk hX5_lots_1 20 rfl) rfl (lv_at hl 1 rfl) ?_
        obtain ⟨u_21, e_22, hf⟩ := Option.bind_eq_some_iff.mp hf
        refine Ct.V (As := []) (rest := []) (st1 := []) (w1 := (wM G ad refused u_21.1 u_21.2.1 u_21.2.2.1 u_21.2.2.2.1 u_21.2.2.2.2.1 u_21.2.2.2.2.2.1 u_21.2.2.2.2.2.2.1 u_21.2.2.2.2.2.2.2.1 tape letter letterAt told u_21.2.2.2.2.2.2.2.2.1 row costs u_21.2.2.2.2.2.2.2.2.2.1 u_21.2.2.2.2.2.2.2.2.2.2.1 u_21.2.2.2.2.2.2.2.2.2.2.2.1 away taped reading statements hasImage u_21.2.2.2.2.2.2.2.2.2.2.2.2.1 u_21.2.2.2.2.2.2.2.2.2.2.2.2.2 backs free goodFor loadedWhen bareGood bareWhen rowMany lots_10)) C hs (c_X5_forgets e_22) tw_997 tw_999 tw_52 tw_85 tw_1000 nq_X5_forgets (by decide) 0 5 rfl rfl rfl rfl hl.1 rfl (Nat.le_of_ble_eq_true rfl) (dk hX5_lots_1 21 rfl) ⟨Nat.zero_le _, Nat.zero_le _⟩ rfl (fun H locs hs => ?_)
        refine lv_iinc (v := (x6 + (1 : Int32))) (lv' := [(6, .int (x6 + (1 : Int32))), (5, .int (x5 + u_19)), (0, .ref (ad 0)), (1, .int x1), (3, .int x3)]) hx hb (dk hX5_lots_1 22 rfl) hl (k := 4) rfl (by first | rfl | decide) (by decide) rfl (fun ls hl => ?_)
        refine lv_goto (tgt := 50) hx hb (dk hX5_lots_1 23 rfl) (by decide) ?_
        exact ih _ _ _ _ _ _ _ _ _ _ _ _ _ _ _ _ _ hf _ _ hs _ (lv_sub hl [2, 3, 4, 1, 0] rfl) hk
set_option maxRecDepth 100000 in
set_option maxHeartbeats 4000000 in
theorem c_X5_lots {l : Launch} {G : Gx} {ad : Nat → Nat} {refused there used hidden kind figure good load inn tape letter letterAt told kept row costs : List Int32} {ships coughs day away taped reading statements hasImage isKeeping cursor backs free goodFor loadedWhen bareGood bareWhen rowMany lots : Int32} {p0 : Int32} {p1 : Int32} {p2 : Int32} {out : List Int32 × List Int32 × List Int32 × List Int32 × List Int32 × List Int32 × List Int32 × List Int32 × List Int32 × List Int32 × Int32 × Int32 × Int32 × Int32 × Int32 × Int32 × Int32} (hf : X5_lots refused there used hidden kind figure good load inn kept ships coughs day away isKeeping cursor free lots p0 p1 p2 = some out) : Ct l G yX5_lots cX5_lots 8 (some .int) 7 151 [.ref (ad 0), .int p0, .int p1, .int p2] (wM G ad refused there used hidden kind figure good load inn tape letter letterAt told kept row costs ships coughs day away taped reading statements hasImage isKeeping cursor backs free goodFor loadedWhen bareGood bareWhen rowMany lots) (some (.int out.2.2.2.2.2.2.2.2.2.2.2.2.2.2.2.2)) (wM G ad out.1 out.2.1 out.2.2.1 out.2.2.2.1 out.2.2.2.2.1 out.2.2.2.2.2.1 out.2.2.2.2.2.2.1 out.2.2.2.2.2.2.2.1 out.2.2.2.2.2.2.2.2.1 tape letter letterAt told out.2.2.2.2.2.2.2.2.2.1 row costs out.2.2.2.2.2.2.2.2.2.2.1 out.2.2.2.2.2.2.2.2.2.2.2.1 out.2.2.2.2.2.2.2.2.2.2.2.2.1 away taped reading statements hasImage out.2.2.2.2.2.2.2.2.2.2.2.2.2.1 out.2.2.2.2.2.2.2.2.2.2.2.2.2.2.1 backs free goodFor loadedWhen bareGood bareWhen rowMany out.2.2.2.2.2.2.2.2.2.2.2.2.2.2.2.1) := by
  refine Ct.intro RX5 rfl (plainFor_of_name (by decide)) (Nat.le_of_ble_eq_true rfl) rfl ?_
  intro p e s m args below meth c A C H locs hs ls hl
  obtain ⟨hx, hb, hml, hown, hts, hK, hret, hlk⟩ := id C
  have hl : lv_has ls 8 [(0, .ref (ad 0)), (1, .int p0), (2, .int p1), (3, .int p2)] := hl
  unfold X5_lots at hf
  refine lv_iload_n hx hb (dk hX5_lots_0 0 rfl) rfl (lv_at hl 1 rfl) ?_
  refine lv_iconst (v := (1 : Int32)) hx hb (dk hX5_lots_0 1 rfl) (by decide) ?_
  refine lv_bipush (v := (20 : Int32)) hx hb (dk hX5_lots_0 2 rfl) (by decide) ?_
  obtain ⟨u_1, e_2, hf⟩ := Option.bind_eq_some_iff.mp hf
  refine Ct.S (As := [.int p0, .int (1 : Int32), .int (20 : Int32)]) (rest := []) (st1 := [.int u_1]) (w1 := (wM G ad refused there used hidden kind figure good load inn tape letter letterAt told kept row costs ships coughs day away taped reading statements hasImage isKeeping cursor backs free goodFor loadedWhen bareGood bareWhen rowMany lots)) C hs (c_X5_bound e_2) tw_797 tw_798 tw_85 tw_799 nq_X5_bound (by decide) rfl hl.1 rfl (Nat.le_of_ble_eq_true rfl) (dk hX5_lots_0 3 rfl) ⟨Nat.zero_le _, Nat.zero_le _⟩ rfl (fun H locs hs => ?_)
  refine lv_istore (lv' := [(4, .int u_1), (0, .ref (ad 0)), (1, .int p0), (2, .int p1), (3, .int p2)]) hx hb (dk hX5_lots_0 4 rfl) hl (by decide) rfl (fun ls hl => ?_)
  refine lv_iload hx hb (dk hX5_lots_0 5 rfl) (lv_at hl 0 rfl) ?_
  refine lv_if_ne (tgt := 27) hx hb (dk hX5_lots_0 6 rfl) (by decide) (fun hc => ?_) (fun hc => ?_)
  · replace hf := in_ hf hc
    refine lv_iload hx hb (dk hX5_lots_0 14 rfl) (lv_at hl 0 rfl) ?_
    refine lv_if_eq (tgt := 39) hx hb (dk hX5_lots_0 15 rfl) (by decide) (fun hc => ?_) (fun hc => ?_)
    · replace hf := ip hf hc
      refine lv_aload_n hx hb (dk hX5_lots_0 20 rfl) rfl (lv_at hl 1 rfl) ?_
      refine lv_iload_n hx hb (dk hX5_lots_0 21 rfl) rfl (lv_at hl 3 rfl) ?_
      refine rp (w1 := (wM G ad refused there used hidden kind figure good load inn tape letter letterAt told kept row costs ships coughs day away taped reading statements hasImage isKeeping cursor backs free goodFor loadedWhen bareGood bareWhen rowMany p1)) tyX5 tyX5_ok nmX5 ui5 rfl C hs 0 rfl 33 (by decide) tw_723 rfl rfl rfl rfl (Nat.le_of_ble_eq_true rfl) rfl (dk hX5_lots_0 22 rfl) (fun H locs hs => ?_)
      refine lv_iconst (v := (0 : Int32)) hx hb (dk hX5_lots_0 23 rfl) (by decide) ?_
      refine lv_istore (lv' := [(5, .int (0 : Int32)), (4, .int u_1), (0, .ref (ad 0)), (1, .int p0), (2, .int p1), (3, .int p2)]) hx hb (dk hX5_lots_0 24 rfl) hl (by decide) rfl (fun ls hl => ?_)
      refine lv_iconst (v := (0 : Int32)) hx hb (dk hX5_lots_0 25 rfl) (by decide) ?_
      refine lv_istore (lv' := [(6, .int (0 : Int32)), (5, .int (0 : Int32)), (4, .int u_1), (0, .ref (ad 0)), (1, .int p0), (2, .int p1), (3, .int p2)]) hx hb (dk hX5_lots_0 26 rfl) hl (by decide) rfl (fun ls hl => ?_)
      refine l_X5_lots_L50 C 1000 _ _ _ _ _ _ _ _ _ _ _ _ _ _ _ _ _ hf _ _ hs _ (lv_sub hl [3, 4, 6, 1, 0] rfl) (fun y5_23 there_24 used_25 hidden_26 kind_27 figure_28 good_29 load_30 inn_31 kept_32 ships_33 coughs_34 day_35 isKeeping_36 cursor_37 lots_38 hf H locs hs ls hl => ?_)
      refine lv_iload hx hb (dk hX5_lots_1 24 rfl) (lv_at hl 0 rfl) ?_
      cases hf
      exact ri C hs (dk hX5_lots_1 25 rfl)
    · replace hf := in_ hf hc
      refine lv_aload_n hx hb (dk hX5_lots_0 16 rfl) rfl (lv_at hl 1 rfl) ?_
      refine lv_iload hx hb (dk hX5_lots_0 17 rfl) (lv_at hl 0 rfl) ?_
      obtain ⟨u_39, e_40, hf⟩ := Option.bind_eq_some_iff.mp hf
      refine Ct.V (As := [.int u_1]) (rest := []) (st1 := [.int u_39.2]) (w1 := (wM G ad u_39.1 there used hidden kind figure good load inn tape letter letterAt told kept row costs ships coughs day away taped reading statements hasImage isKeeping cursor backs free goodFor loadedWhen bareGood bareWhen rowMany lots)) C hs (c_X5_no e_40) tw_800 tw_802 tw_21 tw_85 tw_803 nq_X5_no (by decide) 0 5 rfl rfl rfl rfl hl.1 rfl (Nat.le_of_ble_eq_true rfl) (dk hX5_lots_0 18 rfl) ⟨Nat.zero_le _, Nat.zero_le _⟩ rfl (fun H locs hs => ?_)
      cases hf
      exact ri C hs (dk hX5_lots_0 19 rfl)
  · replace hf := ip hf hc
    refine lv_iload_n hx hb (dk hX5_lots_0 7 rfl) rfl (lv_at hl 4 rfl) ?_
    refine lv_iconst (v := (0 : Int32)) hx hb (dk hX5_lots_0 8 rfl) (by decide) ?_
    refine lv_iconst (v := (1 : Int32)) hx hb (dk hX5_lots_0 9 rfl) (by decide) ?_
    obtain ⟨u_41, e_42, hf⟩ := Option.bind_eq_some_iff.mp hf
    refine Ct.S (As := [.int p2, .int (0 : Int32), .int (1 : Int32)]) (rest := []) (st1 := [.int u_41]) (w1 := (wM G ad refused there used hidden kind figure good load inn tape letter letterAt told kept row costs ships coughs day away taped reading statements hasImage isKeeping cursor backs free goodFor loadedWhen bareGood bareWhen rowMany lots)) C hs (c_X5_isIn e_42) tw_824 tw_825 tw_85 tw_826 nq_X5_isIn (by decide) rfl hl.1 rfl (Nat.le_of_ble_eq_true rfl) (dk hX5_lots_0 10 rfl) ⟨Nat.zero_le _, Nat.zero_le _⟩ rfl (fun H locs hs => ?_)
    refine lv_if_ne (tgt := 27) hx hb (dk hX5_lots_0 11 rfl) (by decide) (fun hc => ?_) (fun hc => ?_)
    · replace hf := in_ hf hc
      refine lv_iload hx hb (dk hX5_lots_0 14 rfl) (lv_at hl 0 rfl) ?_
      refine lv_if_eq (tgt := 39) hx hb (dk hX5_lots_0 15 rfl) (by decide) (fun hc => ?_) (fun hc => ?_)
      · replace hf := ip hf hc
        refine lv_aload_n hx hb (dk hX5_lots_0 20 rfl) rfl (lv_at hl 1 rfl) ?_
        refine lv_iload_n hx hb (dk hX5_lots_0 21 rfl) rfl (lv_at hl 3 rfl) ?_
        refine rp (w1 := (wM G ad refused there used hidden kind figure good load inn tape letter letterAt told kept row costs ships coughs day away taped reading statements hasImage isKeeping cursor backs free goodFor loadedWhen bareGood bareWhen rowMany p1)) tyX5 tyX5_ok nmX5 ui5 rfl C hs 0 rfl 33 (by decide) tw_723 rfl rfl rfl rfl (Nat.le_of_ble_eq_true rfl) rfl (dk hX5_lots_0 22 rfl) (fun H locs hs => ?_)
        refine lv_iconst (v := (0 : Int32)) hx hb (dk hX5_lots_0 23 rfl) (by decide) ?_
        refine lv_istore (lv' := [(5, .int (0 : Int32)), (4, .int u_1), (0, .ref (ad 0)), (1, .int p0), (2, .int p1), (3, .int p2)]) hx hb (dk hX5_lots_0 24 rfl) hl (by decide) rfl (fun ls hl => ?_)
        refine lv_iconst (v := (0 : Int32)) hx hb (dk hX5_lots_0 25 rfl) (by decide) ?_
        refine lv_istore (lv' := [(6, .int (0 : Int32)), (5, .int (0 : Int32)), (4, .int u_1), (0, .ref (ad 0)), (1, .int p0), (2, .int p1), (3, .int p2)]) hx hb (dk hX5_lots_0 26 rfl) hl (by decide) rfl (fun ls hl => ?_)
        refine l_X5_lots_L50 C 1000 _ _ _ _ _ _ _ _ _ _ _ _ _ _ _ _ _ hf _ _ hs _ (lv_sub hl [3, 4, 6, 1, 0] rfl) (fun y5_43 there_44 used_45 hidden_46 kind_47 figure_48 good_49 load_50 inn_51 kept_52 ships_53 coughs_54 day_55 isKeeping_56 cursor_57 lots_58 hf H locs hs ls hl => ?_)
        refine lv_iload hx hb (dk hX5_lots_1 24 rfl) (lv_at hl 0 rfl) ?_
        cases hf
        exact ri C hs (dk hX5_lots_1 25 rfl)
      · replace hf := in_ hf hc
        refine lv_aload_n hx hb (dk hX5_lots_0 16 rfl) rfl (lv_at hl 1 rfl) ?_
        refine lv_iload hx hb (dk hX5_lots_0 17 rfl) (lv_at hl 0 rfl) ?_
        obtain ⟨u_59, e_60, hf⟩ := Option.bind_eq_some_iff.mp hf
        refine Ct.V (As := [.int u_1]) (rest := []) (st1 := [.int u_59.2]) (w1 := (wM G ad u_59.1 there used hidden kind figure good load inn tape letter letterAt told kept row costs ships coughs day away taped reading statements hasImage isKeeping cursor backs free goodFor loadedWhen bareGood bareWhen rowMany lots)) C hs (c_X5_no e_60) tw_800 tw_802 tw_21 tw_85 tw_803 nq_X5_no (by decide) 0 5 rfl rfl rfl rfl hl.1 rfl (Nat.le_of_ble_eq_true rfl) (dk hX5_lots_0 18 rfl) ⟨Nat.zero_le _, Nat.zero_le _⟩ rfl (fun H locs hs => ?_)
        cases hf
        exact ri C hs (dk hX5_lots_0 19 rfl)
    · replace hf := ip hf hc
      refine lv_bipush (v := (-2 : Int32)) hx hb (dk hX5_lots_0 12 rfl) (by decide) ?_
      refine lv_istore (lv' := [(4, .int (-2 : Int32)), (0, .ref (ad 0)), (1, .int p0), (2, .int p1), (3, .int p2)]) hx hb (dk hX5_lots_0 13 rfl) hl (by decide) rfl (fun ls hl => ?_)
      refine lv_iload hx hb (dk hX5_lots_0 14 rfl) (lv_at hl 0 rfl) ?_
      refine lv_if_eq (tgt := 39) hx hb (dk hX5_lots_0 15 rfl) (by decide) (fun hc => ?_) (fun hc => ?_)
      · exact absurd hc (by decide)
      · refine lv_aload_n hx hb (dk hX5_lots_0 16 rfl) rfl (lv_at hl 1 rfl) ?_
        refine lv_iload hx hb (dk hX5_lots_0 17 rfl) (lv_at hl 0 rfl) ?_
        obtain ⟨u_61, e_62, hf⟩ := Option.bind_eq_some_iff.mp hf
        refine Ct.V (As := [.int (-2 : Int32)]) (rest := []) (st1 := [.int u_61.2]) (w1 := (wM G ad u_61.1 there used hidden kind figure good load inn tape letter letterAt told kept row costs ships coughs day away taped reading statements hasImage isKeeping cursor backs free goodFor loadedWhen bareGood bareWhen rowMany lots)) C hs (c_X5_no e_62) tw_800 tw_802 tw_21 tw_85 tw_803 nq_X5_no (by decide) 0 5 rfl rfl rfl rfl hl.1 rfl (Nat.le_of_ble_eq_true rfl) (dk hX5_lots_0 18 rfl) ⟨Nat.zero_le _, Nat.zero_le _⟩ rfl (fun H locs hs => ?_)
        cases hf
        exact ri C hs (dk hX5_lots_0 19 rfl)

