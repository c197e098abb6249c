def X5_forWhat_L44 (k : Int32 → List Int32 → List Int32 → List Int32 → List Int32 → List Int32 → List Int32 → List Int32 → List Int32 → List Int32 → Int32 → Int32 → Int32 → Int32 → Int32 → Int32 → Int32 → Option (List Int32 × List Int32 × List Int32 × List Int32 × List Int32 × List Int32 × List Int32 × List Int32 × List Int32 × List Int32 × Int32 × Int32 × Int32 × Int32 × Int32 × Int32 × Int32 × Int32)) (x1 : Int32) : Nat → Int32 → Int32 → List Int32 → List Int32 → List Int32 → List Int32 → List Int32 → List Int32 → List Int32 → List Int32 → List Int32 → Int32 → Int32 → Int32 → Int32 → Int32 → Int32 → Int32 → Option (List Int32 × List Int32 × List Int32 × List Int32 × List Int32 × List Int32 × List Int32 × List Int32 × List Int32 × List Int32 × Int32 × Int32 × Int32 × Int32 × Int32 × Int32 × Int32 × Int32)
  | 0, _, _, _, _, _, _, _, _, _, _, _, _, _, _, _, _, _, _ => none
  | n + 1, x3, x4, there, used, hidden, kind, figure, good, load, inn, kept, ships, coughs, day, away, isKeeping, cursor, free =>
  if (6 : Int32) ≤ x4 then
  k x3 there used hidden kind figure good load inn kept ships coughs day away isKeeping cursor free
  else
  (X5_isInNext there used hidden kind figure good load inn kept ships coughs day away isKeeping cursor free x1 (0 : Int32)).bind fun u_5 =>
  if u_5.2.2.2.2.2.2.2.2.2.2.2.2.2.2.2 = (0 : Int32) then
  k x3 u_5.1 u_5.2.1 u_5.2.2.1 u_5.2.2.2.1 u_5.2.2.2.2.1 u_5.2.2.2.2.2.1 u_5.2.2.2.2.2.2.1 u_5.2.2.2.2.2.2.2.1 u_5.2.2.2.2.2.2.2.2.1 u_5.2.2.2.2.2.2.2.2.2.1 u_5.2.2.2.2.2.2.2.2.2.2.1 u_5.2.2.2.2.2.2.2.2.2.2.2.1 u_5.2.2.2.2.2.2.2.2.2.2.2.2.1 u_5.2.2.2.2.2.2.2.2.2.2.2.2.2.1 u_5.2.2.2.2.2.2.2.2.2.2.2.2.2.2.1 free
  else
  (X5_comesWithout u_5.1 u_5.2.1 u_5.2.2.1 u_5.2.2.2.1 u_5.2.2.2.2.1 u_5.2.2.2.2.2.1 u_5.2.2.2.2.2.2.1 u_5.2.2.2.2.2.2.2.1 u_5.2.2.2.2.2.2.2.2.1 u_5.2.2.2.2.2.2.2.2.2.1 u_5.2.2.2.2.2.2.2.2.2.2.1 u_5.2.2.2.2.2.2.2.2.2.2.2.1 u_5.2.2.2.2.2.2.2.2.2.2.2.2.1 u_5.2.2.2.2.2.2.2.2.2.2.2.2.2.1 u_5.2.2.2.2.2.2.2.2.2.2.2.2.2.2.1 free x4 x1).bind fun u_7 =>
  if u_7.2.2.2.2.2.2.2.2.2.2.2.2.2.2.2.2 = (0 : Int32) then
  X5_forWhat_L44 k x1 n (x3 ||| ((1 : Int32) <<< (x4 &&& 31))) (x4 + (1 : Int32)) u_7.1 u_7.2.1 u_7.2.2.1 u_7.2.2.2.1 u_7.2.2.2.2.1 u_7.2.2.2.2.2.1 u_7.2.2.2.2.2.2.1 u_7.2.2.2.2.2.2.2.1 u_7.2.2.2.2.2.2.2.2.1 u_7.2.2.2.2.2.2.2.2.2.1 u_7.2.2.2.2.2.2.2.2.2.2.1 u_7.2.2.2.2.2.2.2.2.2.2.2.1 u_7.2.2.2.2.2.2.2.2.2.2.2.2.1 u_7.2.2.2.2.2.2.2.2.2.2.2.2.2.1 u_7.2.2.2.2.2.2.2.2.2.2.2.2.2.2.1 u_7.2.2.2.2.2.2.2.2.2.2.2.2.2.2.2.1
  else
  X5_forWhat_L44 k x1 n (x3 ||| (0 : Int32)) (x4 + (1 : Int32)) u_7.1 u_7.2.1 u_7.2.2.1 u_7.2.2.2.1 u_7.2.2.2.2.1 u_7.2.2.2.2.2.1 u_7.2.2.2.2.2.2.1 u_7.2.2.2.2.2.2.2.1 u_7.2.2.2.2.2.2.2.2.1 u_7.2.2.2.2.2.2.2.2.2.1 u_7.2.2.2.2.2.2.2.2.2.2.1 u_7.2.2.2.2.2.2.2.2.2.2.2.1 u_7.2.2.2.2.2.2.2.2.2.2.2.2.1 u_7.2.2.2.2.2.2.2.2.2.2.2.2.2.1 u_7.2.2.2.2.2.2.2.2.2.2.2.2.2.2.1 u_7.2.2.2.2.2.2.2.2.2.2.2.2.2.2.2.1
def X5_forWhat (refused : List Int32) (there : List Int32) (used : List Int32) (hidden : List Int32) (kind : List Int32) (figure : List Int32) (good : List Int32) (load : List Int32) (inn : List Int32) (kept : List Int32) (ships : Int32) (coughs : Int32) (day : Int32) (away : Int32) (isKeeping : Int32) (cursor : Int32) (free : Int32) (p0 : Int32) : Option (List Int32 × List Int32 × List Int32 × List Int32 × List Int32 × List Int32 × List Int32 × List Int32 × List Int32 × List Int32 × Int32 × Int32 × Int32 × Int32 × Int32 × Int32 × Int32 × Int32) :=
  (X5_isShip ships p0).bind fun u_1 =>
  if u_1 = (0 : Int32) then
  (X5_no refused (-1 : Int32)).bind fun u_28 =>
  some (u_28.1, there, used, hidden, kind, figure, good, load, inn, kept, ships, coughs, day, away, isKeeping, cursor, free, u_28.2)
  else
  (rd inn p0).bind fun v_3 =>
  if v_3 = (1 : Int32) then
  (X5_no refused (-3 : Int32)).bind fun u_26 =>
  some (u_26.1, there, used, hidden, kind, figure, good, load, inn, kept, ships, coughs, day, away, isKeeping, cursor, free, u_26.2)
  else
  X5_forWhat_L44 (fun y3_9 there_10 used_11 hidden_12 kind_13 figure_14 good_15 load_16 inn_17 kept_18 ships_19 coughs_20 day_21 away_22 isKeeping_23 cursor_24 free_25 =>
  some (refused, there_10, used_11, hidden_12, kind_13, figure_14, good_15, load_16, inn_17, kept_18, ships_19, coughs_20, day_21, away_22, isKeeping_23, cursor_24, free_25, y3_9)) p0 1000 (0 : Int32) (0 : Int32) there used hidden kind figure good load inn kept ships coughs day away isKeeping cursor free
set_option maxRecDepth 100000 in
set_option maxHeartbeats 4000000 in
theorem l_X5_forWhat_L44 {l : Launch} {p : Program} {e : Env} {s : State} {m : MethodId} {args : Array Value} {below : List Frame} {meth : Method} {c : Code} {A : Nat → Prop} {G : Gx} {ad : Nat → Nat} {refused tape letter letterAt told row costs : List Int32} {taped reading statements hasImage backs goodFor loadedWhen bareGood bareWhen rowMany lots : Int32} {x1 : Int32} {k : Int32 → List Int32 → List Int32 → List Int32 → List Int32 → List Int32 → List Int32 → List Int32 → List Int32 → List Int32 → Int32 → Int32 → Int32 → Int32 → Int32 → Int32 → Int32 → Option (List Int32 × List Int32 × List Int32 × List Int32 × List Int32 × List Int32 × List Int32 × List Int32 × List Int32 × List Int32 × Int32 × Int32 × Int32 × Int32 × Int32 × Int32 × Int32 × Int32)} {out : List Int32 × List Int32 × List Int32 × List Int32 × List Int32 × List Int32 × List Int32 × List Int32 × List Int32 × List Int32 × Int32 × Int32 × Int32 × Int32 × Int32 × Int32 × Int32 × Int32} (C : Cx p s m args meth c cX5_forWhat RX5 5 (some .int) G) : ∀ (n : Nat) (x3 : Int32) (x4 : Int32) (there : List Int32) (used : List Int32) (hidden : List Int32) (kind : List Int32) (figure : List Int32) (good : List Int32) (load : List Int32) (inn : List Int32) (kept : List Int32) (ships : Int32) (coughs : Int32) (day : Int32) (away : Int32) (isKeeping : Int32) (cursor : Int32) (free : Int32), X5_forWhat_L44 k x1 n x3 x4 there used hidden kind figure good load inn kept ships coughs day away isKeeping cursor free = some out → ∀ (H : Heap) (locs : List Loc), St G A s.heap H locs (wM G ad refused there used hidden kind figure good load inn tape letter letterAt told kept row costs ships coughs day away taped reading statements hasImage isKeeping cursor backs free goodFor loadedWhen bareGood bareWhen rowMany lots) → ∀ ls : Array Slot, lv_has ls 5 [(0, .ref (ad 0)), (1, .int x1), (3, .int x3), (4, .int x4)] → (∀ (y3 : Int32) (z_there : List Int32) (z_used : List Int32) (z_hidden : List Int32) (z_kind : List Int32) (z_figure : List Int32) (z_good : List Int32) (z_load : List Int32) (z_inn : List Int32) (z_kept : List Int32) (z_ships : Int32) (z_coughs : Int32) (z_day : Int32) (z_away : Int32) (z_isKeeping : Int32) (z_cursor : Int32) (z_free : Int32), k y3 z_there z_used z_hidden z_kind z_figure z_good z_load z_inn z_kept z_ships z_coughs z_day z_away z_isKeeping z_cursor z_free = some out → ∀ (H : Heap) (locs : List Loc), St G A s.heap H locs (wM G ad refused z_there z_used z_hidden z_kind z_figure z_good z_load z_inn tape letter letterAt told z_kept row costs z_ships z_coughs z_day z_away taped reading statements hasImage z_isKeeping z_cursor backs z_free goodFor loadedWhen bareGood bareWhen rowMany lots) → ∀ ls : Array Slot, lv_has ls 5 [(3, .int y3)] → W p l e (rmOf 9 200) s m args below meth c H locs 0 0 (MQ below (Qof G A (some (.int out.2.2.2.2.2.2.2.2.2.2.2.2.2.2.2.2.2)) (wM G ad out.1 out.2.1 out.2.2.1 out.2.2.2.1 out.2.2.2.2.1 out.2.2.2.2.2.1 out.2.2.2.2.2.2.1 out.2.2.2.2.2.2.2.1 out.2.2.2.2.2.2.2.2.1 tape letter letterAt told out.2.2.2.2.2.2.2.2.2.1 row costs out.2.2.2.2.2.2.2.2.2.2.1 out.2.2.2.2.2.2.2.2.2.2.2.1 out.2.2.2.2.2.2.2.2.2.2.2.2.1 out.2.2.2.2.2.2.2.2.2.2.2.2.2.1 taped reading statements hasImage out.2.2.2.2.2.2.2.2.2.2.2.2.2.2.1 out.2.2.2.2.2.2.2.2.2.2.2.2.2.2.2.1 backs out.2.2.2.2.2.2.2.2.2.2.2.2.2.2.2.2.1 goodFor loadedWhen bareGood bareWhen rowMany lots)) args s 0 0 A) (F0 m 87 ls [])) → W p l e (rmOf 9 200) s m args below meth c H locs 0 0 (MQ below (Qof G A (some (.int out.2.2.2.2.2.2.2.2.2.2.2.2.2.2.2.2.2)) (wM G ad out.1 out.2.1 out.2.2.1 out.2.2.2.1 out.2.2.2.2.1 out.2.2.2.2.2.1 out.2.2.2.2.2.2.1 out.2.2.2.2.2.2.2.1 out.2.2.2.2.2.2.2.2.1 tape letter letterAt told out.2.2.2.2.2.2.2.2.2.1 row costs out.2.2.2.2.2.2.2.2.2.2.1 out.2.2.2.2.2.2.2.2.2.2.2.1 out.2.2.2.2.2.2.2.2.2.2.2.2.1 out.2.2.2.2.2.2.2.2.2.2.2.2.2.1 taped reading statements hasImage out.2.2.2.2.2.2.2.2.2.2.2.2.2.2.1 out.2.2.2.2.2.2.2.2.2.2.2.2.2.2.2.1 backs out.2.2.2.2.2.2.2.2.2.2.2.2.2.2.2.2.1 goodFor loadedWhen bareGood bareWhen rowMany lots)) args s 0 0 A) (F0 m 44 ls []) := by
  obtain ⟨hx, hb, hml, hown, hts, hK, hret, hlk⟩ := id C
  intro n
  induction n with
  | zero => intro x3 x4 there used hidden kind figure good load inn kept ships coughs day away isKeeping cursor free hf; cases hf
  | succ n ih =>
    intro x3 x4 there used hidden kind figure good load inn kept ships coughs day away isKeeping cursor free hf H locs hs ls hl hk
    rw [X5_forWhat_L44] at hf
    refine lv_iload hx hb (dk hX5_forWhat_0 26 rfl) (lv_at hl 3 rfl) ?_
    refine lv_bipush (v := (6 : Int32)) hx hb (dk hX5_forWhat_0 27 rfl) (by decide) ?_
    refine lv_icmp_ge (tgt := 87) hx hb (dk hX5_forWhat_0 28 rfl) (by decide) (fun hc => ?_) (fun hc => ?_)
    · replace hf := ip hf hc
      exact hk _ _ _ _ _ _ _ _ _ _ _ _ _ _ _ _ _ hf _ _ hs _ (lv_sub hl [2] rfl)
    · replace hf := in_ hf hc
      refine lv_aload_n hx hb (dk hX5_forWhat_0 29 rfl) rfl (lv_at hl 0 rfl) ?_
      refine lv_iload_n hx hb (dk hX5_forWhat_0 30 rfl) rfl (lv_at hl 1 rfl) ?_
      refine lv_iconst (v := (0 : Int32)) hx hb (dk hX5_forWhat_0 31 rfl) (by decide) ?_
      obtain ⟨u_5, e_6, hf⟩ := Option.bind_eq_some_iff.mp hf
      refine Ct.V (As := [.int x1, .int (0 : Int32)]) (rest := []) (st1 := [.int u_5.2.2.2.2.2.2.2.2.2.2.2.2.2.2.2]) (w1 := (wM G ad refused u_5.1 u_5.2.1 u_5.2.2.1 u_5.2.2.2.1 u_5.2.2.2.2.1 u_5.2.2.2.2.2.1 u_5.2.2.2.2.2.2.1 u_5.2.2.2.2.2.2.2.1 tape letter letterAt told u_5.2.2.2.2.2.2.2.2.1 row costs u_5.2.2.2.2.2.2.2.2.2.1 u_5.2.2.2.2.2.2.2.2.2.2.1 u_5.2.2.2.2.2.2.2.2.2.2.2.1 u_5.2.2.2.2.2.2.2.2.2.2.2.2.1 taped reading statements hasImage u_5.2.2.2.2.2.2.2.2.2.2.2.2.2.1 u_5.2.2.2.2.2.2.2.2.2.2.2.2.2.2.1 backs free goodFor loadedWhen bareGood bareWhen rowMany lots)) C hs (c_X5_isInNext e_6) tw_1025 tw_1027 tw_56 tw_85 tw_1028 nq_X5_isInNext (by decide) 0 5 rfl rfl rfl rfl hl.1 rfl (Nat.le_of_ble_eq_true rfl) (dk hX5_forWhat_0 32 rfl) ⟨Nat.zero_le _, Nat.zero_le _⟩ rfl (fun H locs hs => ?_)
      refine lv_if_eq (tgt := 87) hx hb (dk hX5_forWhat_0 33 rfl) (by decide) (fun hc => ?_) (fun hc => ?_)
      · replace hf := ip hf hc
        exact hk _ _ _ _ _ _ _ _ _ _ _ _ _ _ _ _ _ hf _ _ hs _ (lv_sub hl [2] rfl)
      · replace hf := in_ hf hc
        refine lv_iload_n hx hb (dk hX5_forWhat_0 34 rfl) rfl (lv_at hl 2 rfl) ?_
        refine lv_aload_n hx hb (dk hX5_forWhat_0 35 rfl) rfl (lv_at hl 0 rfl) ?_
        refine lv_iload hx hb (dk hX5_forWhat_0 36 rfl) (lv_at hl 3 rfl) ?_
        refine lv_iload_n hx hb (dk hX5_forWhat_0 37 rfl) rfl (lv_at hl 1 rfl) ?_
        obtain ⟨u_7, e_8, hf⟩ := Option.bind_eq_some_iff.mp hf
        refine Ct.V (As := [.int x4, .int x1]) (rest := [.int x3]) (st1 := [.int u_7.2.2.2.2.2.2.2.2.2.2.2.2.2.2.2.2, .int x3]) (w1 := (wM G ad refused u_7.1 u_7.2.1 u_7.2.2.1 u_7.2.2.2.1 u_7.2.2.2.2.1 u_7.2.2.2.2.2.1 u_7.2.2.2.2.2.2.1 u_7.2.2.2.2.2.2.2.1 tape letter letterAt told u_7.2.2.2.2.2.2.2.2.1 row costs u_7.2.2.2.2.2.2.2.2.2.1 u_7.2.2.2.2.2.2.2.2.2.2.1 u_7.2.2.2.2.2.2.2.2.2.2.2.1 u_7.2.2.2.2.2.2.2.2.2.2.2.2.1 taped reading statements hasImage u_7.2.2.2.2.2.2.2.2.2.2.2.2.2.1 u_7.2.2.2.2.2.2.2.2.2.2.2.2.2.2.1 backs u_7.2.2.2.2.2.2.2.2.2.2.2.2.2.2.2.1 goodFor loadedWhen bareGood bareWhen rowMany lots)) C hs (c_X5_comesWithout e_8) tw_1069 tw_1071 tw_62 tw_85 tw_1072 nq_X5_comesWithout (by decide) 0 5 rfl rfl rfl rfl hl.1 rfl (Nat.le_of_ble_eq_true rfl) (dk hX5_forWhat_0 38 rfl) ⟨Nat.zero_le _, Nat.zero_le _⟩ rfl (fun H locs hs => ?_)
        refine lv_if_eq (tgt := 75) hx hb (dk hX5_forWhat_0 39 rfl) (by decide) (fun hc => ?_) (fun hc => ?_)
        · replace hf := ip hf hc
          refine lv_iconst (v := (1 : Int32)) hx hb (dk hX5_forWhat_1 2 rfl) (by decide) ?_
          refine lv_iload hx hb (dk hX5_forWhat_1 3 rfl) (lv_at hl 3 rfl) ?_
          refine lv_ishl hx hb (dk hX5_forWhat_1 4 rfl) ?_
          refine lv_ior hx hb (dk hX5_forWhat_1 5 rfl) ?_
          refine lv_istore_n (lv' := [(3, .int (x3 ||| ((1 : Int32) <<< (x4 &&& 31)))), (0, .ref (ad 0)), (1, .int x1), (4, .int x4)]) hx hb (dk hX5_forWhat_1 6 rfl) rfl hl (by decide) rfl (fun ls hl => ?_)
          refine lv_iinc (v := (x4 + (1 : Int32))) (lv' := [(4, .int (x4 + (1 : Int32))), (3, .int (x3 ||| ((1 : Int32) <<< (x4 &&& 31)))), (0, .ref (ad 0)), (1, .int x1)]) hx hb (dk hX5_forWhat_1 7 rfl) hl (k := 3) rfl (by first | rfl | decide) (by decide) rfl (fun ls hl => ?_)
          refine lv_goto (tgt := 44) hx hb (dk hX5_forWhat_1 8 rfl) (by decide) ?_
          exact ih _ _ _ _ _ _ _ _ _ _ _ _ _ _ _ _ _ _ hf _ _ hs _ (lv_sub hl [2, 3, 1, 0] rfl) hk
        · replace hf := in_ hf hc
          refine lv_iconst (v := (0 : Int32)) hx hb (dk hX5_forWhat_1 0 rfl) (by decide) ?_
          refine lv_goto (tgt := 79) hx hb (dk hX5_forWhat_1 1 rfl) (by decide) ?_
          refine lv_ior hx hb (dk hX5_forWhat_1 5 rfl) ?_
          refine lv_istore_n (lv' := [(3, .int (x3 ||| (0 : Int32))), (0, .ref (ad 0)), (1, .int x1), (4, .int x4)]) hx hb (dk hX5_forWhat_1 6 rfl) rfl hl (by decide) rfl (fun ls hl => ?_)
          refine lv_iinc (v := (x4 + (1 : Int32))) (lv' := [(4, .int (x4 + (1 : Int32))), (3, .int (x3 ||| (0 : Int32))), (0, .ref (ad 0)), (1, .int x1)]) hx hb (dk hX5_forWhat_1 7 rfl) hl (k := 3) rfl (by first | rfl | decide) (by decide) rfl (fun ls hl => ?_)
          refine lv_goto (tgt := 44) hx hb (dk hX5_forWhat_1 8 rfl) (by decide) ?_
          exact ih _ _ _ _ _ _ _ _ _ _ _ _ _ _ _ _ _ _ hf _ _ hs _ (lv_sub hl [2, 3, 1, 0] rfl) hk
set_option maxRecDepth 100000 in
set_option maxHeartbeats 4000000 in
theorem c_X5_forWhat {l : Launch} {G : Gx} {ad : Nat → Nat} {refused there used hidden kind figure good load inn tape letter letterAt told kept row costs : List Int32} {ships coughs day away taped reading statements hasImage isKeeping cursor backs free goodFor loadedWhen bareGood bareWhen rowMany lots : Int32} {p0 : Int32} {out : List Int32 × List Int32 × List Int32 × List Int32 × List Int32 × List Int32 × List Int32 × List Int32 × List Int32 × List Int32 × Int32 × Int32 × Int32 × Int32 × Int32 × Int32 × Int32 × Int32} (hf : X5_forWhat refused there used hidden kind figure good load inn kept ships coughs day away isKeeping cursor free p0 = some out) : Ct l G yX5_forWhat cX5_forWhat 5 (some .int) 9 200 [.ref (ad 0), .int p0] (wM G ad refused there used hidden kind figure good load inn tape letter letterAt told kept row costs ships coughs day away taped reading statements hasImage isKeeping cursor backs free goodFor loadedWhen bareGood bareWhen rowMany lots) (some (.int out.2.2.2.2.2.2.2.2.2.2.2.2.2.2.2.2.2)) (wM G ad out.1 out.2.1 out.2.2.1 out.2.2.2.1 out.2.2.2.2.1 out.2.2.2.2.2.1 out.2.2.2.2.2.2.1 out.2.2.2.2.2.2.2.1 out.2.2.2.2.2.2.2.2.1 tape letter letterAt told out.2.2.2.2.2.2.2.2.2.1 row costs out.2.2.2.2.2.2.2.2.2.2.1 out.2.2.2.2.2.2.2.2.2.2.2.1 out.2.2.2.2.2.2.2.2.2.2.2.2.1 out.2.2.2.2.2.2.2.2.2.2.2.2.2.1 taped reading statements hasImage out.2.2.2.2.2.2.2.2.2.2.2.2.2.2.1 out.2.2.2.2.2.2.2.2.2.2.2.2.2.2.2.1 backs out.2.2.2.2.2.2.2.2.2.2.2.2.2.2.2.2.1 goodFor loadedWhen bareGood bareWhen rowMany lots) := by
  refine Ct.intro RX5 rfl (plainFor_of_name (by decide)) (Nat.le_of_ble_eq_true rfl) rfl ?_
  intro p e s m args below meth c A C H locs hs ls hl
  obtain ⟨hx, hb, hml, hown, hts, hK, hret, hlk⟩ := id C
  have hl : lv_has ls 5 [(0, .ref (ad 0)), (1, .int p0)] := hl
  unfold X5_forWhat at hf
  refine lv_aload_n hx hb (dk hX5_forWhat_0 0 rfl) rfl (lv_at hl 0 rfl) ?_
  refine lv_iload_n hx hb (dk hX5_forWhat_0 1 rfl) rfl (lv_at hl 1 rfl) ?_
  obtain ⟨u_1, e_2, hf⟩ := Option.bind_eq_some_iff.mp hf
  refine Ct.V (As := [.int p0]) (rest := []) (st1 := [.int u_1]) (w1 := (wM G ad refused there used hidden kind figure good load inn tape letter letterAt told kept row costs ships coughs day away taped reading statements hasImage isKeeping cursor backs free goodFor loadedWhen bareGood bareWhen rowMany lots)) C hs (c_X5_isShip e_2) tw_854 tw_856 tw_32 tw_85 tw_857 nq_X5_isShip (by decide) 0 5 rfl rfl rfl rfl hl.1 rfl (Nat.le_of_ble_eq_true rfl) (dk hX5_forWhat_0 2 rfl) ⟨Nat.zero_le _, Nat.zero_le _⟩ rfl (fun H locs hs => ?_)
  refine lv_if_ne (tgt := 12) hx hb (dk hX5_forWhat_0 3 rfl) (by decide) (fun hc => ?_) (fun hc => ?_)
  · replace hf := in_ hf hc
    refine lv_aload_n hx hb (dk hX5_forWhat_0 6 rfl) rfl (lv_at hl 0 rfl) ?_
    refine rg ui5 rfl C hs 0 rfl 8 (by decide) tw_698 rfl rfl (dk hX5_forWhat_0 7 rfl) ?_
    refine lv_iload_n hx hb (dk hX5_forWhat_0 8 rfl) rfl (lv_at hl 1 rfl) ?_
    obtain ⟨v_3, e_4, hf⟩ := Option.bind_eq_some_iff.mp hf
    refine rild C hs 9 rfl e_4 (dk hX5_forWhat_0 9 rfl) ?_
    refine lv_iconst (v := (1 : Int32)) hx hb (dk hX5_forWhat_0 10 rfl) (by decide) ?_
    refine lv_icmp_ne (tgt := 27) hx hb (dk hX5_forWhat_0 11 rfl) (by decide) (fun hc => ?_) (fun hc => ?_)
    · replace hf := in_ hf hc
      refine lv_iconst (v := (0 : Int32)) hx hb (dk hX5_forWhat_0 14 rfl) (by decide) ?_
      refine lv_istore_n (lv' := [(2, .int (0 : Int32)), (0, .ref (ad 0)), (1, .int p0)]) hx hb (dk hX5_forWhat_0 15 rfl) rfl hl (by decide) rfl (fun ls hl => ?_)
      refine lv_iload_n hx hb (dk hX5_forWhat_0 16 rfl) rfl (lv_at hl 0 rfl) ?_
      refine lv_if_eq (tgt := 39) hx hb (dk hX5_forWhat_0 17 rfl) (by decide) (fun hc => ?_) (fun hc => ?_)
      · refine lv_iconst (v := (0 : Int32)) hx hb (dk hX5_forWhat_0 22 rfl) (by decide) ?_
        refine lv_istore_n (lv' := [(3, .int (0 : Int32)), (2, .int (0 : Int32)), (0, .ref (ad 0)), (1, .int p0)]) hx hb (dk hX5_forWhat_0 23 rfl) rfl hl (by decide) rfl (fun ls hl => ?_)
        refine lv_iconst (v := (0 : Int32)) hx hb (dk hX5_forWhat_0 24 rfl) (by decide) ?_
        refine lv_istore (lv' := [(4, .int (0 : Int32)), (3, .int (0 : Int32)), (2, .int (0 : Int32)), (0, .ref (ad 0)), (1, .int p0)]) hx hb (dk hX5_forWhat_0 25 rfl) hl (by decide) rfl (fun ls hl => ?_)
        refine l_X5_forWhat_L44 C 1000 _ _ _ _ _ _ _ _ _ _ _ _ _ _ _ _ _ _ hf _ _ hs _ (lv_sub hl [3, 4, 1, 0] rfl) (fun y3_9 there_10 used_11 hidden_12 kind_13 figure_14 good_15 load_16 inn_17 kept_18 ships_19 coughs_20 day_21 away_22 isKeeping_23 cursor_24 free_25 hf H locs hs ls hl => ?_)
        refine lv_iload_n hx hb (dk hX5_forWhat_1 9 rfl) rfl (lv_at hl 0 rfl) ?_
        cases hf
        exact ri C hs (dk hX5_forWhat_1 10 rfl)
      · exact absurd hc (by decide)
    · replace hf := ip hf hc
      refine lv_bipush (v := (-3 : Int32)) hx hb (dk hX5_forWhat_0 12 rfl) (by decide) ?_
      refine lv_goto (tgt := 28) hx hb (dk hX5_forWhat_0 13 rfl) (by decide) ?_
      refine lv_istore_n (lv' := [(2, .int (-3 : Int32)), (0, .ref (ad 0)), (1, .int p0)]) hx hb (dk hX5_forWhat_0 15 rfl) rfl hl (by decide) rfl (fun ls hl => ?_)
      refine lv_iload_n hx hb (dk hX5_forWhat_0 16 rfl) rfl (lv_at hl 0 rfl) ?_
      refine lv_if_eq (tgt := 39) hx hb (dk hX5_forWhat_0 17 rfl) (by decide) (fun hc => ?_) (fun hc => ?_)
      · exact absurd hc (by decide)
      · refine lv_aload_n hx hb (dk hX5_forWhat_0 18 rfl) rfl (lv_at hl 1 rfl) ?_
        refine lv_iload_n hx hb (dk hX5_forWhat_0 19 rfl) rfl (lv_at hl 0 rfl) ?_
        obtain ⟨u_26, e_27, hf⟩ := Option.bind_eq_some_iff.mp hf
        refine Ct.V (As := [.int (-3 : Int32)]) (rest := []) (st1 := [.int u_26.2]) (w1 := (wM G ad u_26.1 there used hidden kind figure good load inn tape letter letterAt told kept row costs ships coughs day away taped reading statements hasImage isKeeping cursor backs free goodFor loadedWhen bareGood bareWhen rowMany lots)) C hs (c_X5_no e_27) tw_800 tw_802 tw_21 tw_85 tw_803 nq_X5_no (by decide) 0 5 rfl rfl rfl rfl hl.1 rfl (Nat.le_of_ble_eq_true rfl) (dk hX5_forWhat_0 20 rfl) ⟨Nat.zero_le _, Nat.zero_le _⟩ rfl (fun H locs hs => ?_)
        cases hf
        exact ri C hs (dk hX5_forWhat_0 21 rfl)
  · replace hf := ip hf hc
    refine lv_iconst (v := (-1 : Int32)) hx hb (dk hX5_forWhat_0 4 rfl) (by decide) ?_
    refine lv_goto (tgt := 28) hx hb (dk hX5_forWhat_0 5 rfl) (by decide) ?_
    refine lv_istore_n (lv' := [(2, .int (-1 : Int32)), (0, .ref (ad 0)), (1, .int p0)]) hx hb (dk hX5_forWhat_0 15 rfl) rfl hl (by decide) rfl (fun ls hl => ?_)
    refine lv_iload_n hx hb (dk hX5_forWhat_0 16 rfl) rfl (lv_at hl 0 rfl) ?_
    refine lv_if_eq (tgt := 39) hx hb (dk hX5_forWhat_0 17 rfl) (by decide) (fun hc => ?_) (fun hc => ?_)
    · exact absurd hc (by decide)
    · refine lv_aload_n hx hb (dk hX5_forWhat_0 18 rfl) rfl (lv_at hl 1 rfl) ?_
      refine lv_iload_n hx hb (dk hX5_forWhat_0 19 rfl) rfl (lv_at hl 0 rfl) ?_
      obtain ⟨u_28, e_29, hf⟩ := Option.bind_eq_some_iff.mp hf
      refine Ct.V (As := [.int (-1 : Int32)]) (rest := []) (st1 := [.int u_28.2]) (w1 := (wM G ad u_28.1 there used hidden kind figure good load inn tape letter letterAt told kept row costs ships coughs day away taped reading statements hasImage isKeeping cursor backs free goodFor loadedWhen bareGood bareWhen rowMany lots)) C hs (c_X5_no e_29) tw_800 tw_802 tw_21 tw_85 tw_803 nq_X5_no (by decide) 0 5 rfl rfl rfl rfl hl.1 rfl (Nat.le_of_ble_eq_true rfl) (dk hX5_forWhat_0 20 rfl) ⟨Nat.zero_le _, Nat.zero_le _⟩ rfl (fun H locs hs => ?_)
      cases hf
      exact ri C hs (dk hX5_forWhat_0 21 rfl)

def X5_wantIn_L11 (k : Int32 → List Int32 → List Int32 → Int32 → Int32 → Option (List Int32 × List Int32 × List Int32 × List Int32 × List Int32 × List Int32 × List Int32 × List Int32 × List Int32 × Int32 × Int32 × Int32 × Int32 × Int32 × Int32)) (used : List Int32) (hidden : List Int32) (kind : List Int32) (figure : List Int32) (good : List Int32) (load : List Int32) (ships : Int32) (away : Int32) (free : Int32) (x1 : Int32) : Nat → Int32 → Int32 → List Int32 → List Int32 → Int32 → Int32 → Option (List Int32 × List Int32 × List Int32 × List Int32 × List Int32 × List Int32 × List Int32 × List Int32 × List Int32 × Int32 × Int32 × Int32 × Int32 × Int32 × Int32)
  | 0, _, _, _, _, _, _ => none
  | n + 1, x2, x3, there, inn, coughs, day =>
  if x1 ≤ x3 then
  k x2 there inn coughs day
  else
  (X5_goesDay there used hidden kind figure good load inn ships coughs day away free (0 : Int32)).bind fun u_5 =>
  (X5_allLack u_5.1 used free).bind fun u_7 =>
  X5_wantIn_L11 k used hidden kind figure good load ships away free x1 n (x2 + u_7) (x3 + (1 : Int32)) u_5.1 u_5.2.1 u_5.2.2.1 u_5.2.2.2
def X5_wantIn (there : List Int32) (used : List Int32) (hidden : List Int32) (kind : List Int32) (figure : List Int32) (good : List Int32) (load : List Int32) (inn : List Int32) (kept : List Int32) (ships : Int32) (coughs : Int32) (day : Int32) (away : Int32) (isKeeping : Int32) (cursor : Int32) (free : Int32) (p0 : Int32) : Option (List Int32 × List Int32 × List Int32 × List Int32 × List Int32 × List Int32 × List Int32 × List Int32 × List Int32 × Int32 × Int32 × Int32 × Int32 × Int32 × Int32) :=
  (X5_thinks there used hidden kind figure good load inn kept ships coughs day isKeeping cursor).bind fun u_1 =>
  (X5_allLack u_1.1 u_1.2.1 free).bind fun u_3 =>
  X5_wantIn_L11 (fun y2_9 there_10 inn_11 coughs_12 day_13 =>
  (X5_forgets there_10 u_1.2.1 u_1.2.2.1 u_1.2.2.2.1 u_1.2.2.2.2.1 u_1.2.2.2.2.2.1 u_1.2.2.2.2.2.2.1 inn_11 u_1.2.2.2.2.2.2.2.2.1 u_1.2.2.2.2.2.2.2.2.2.1 coughs_12 day_13 u_1.2.2.2.2.2.2.2.2.2.2.2.2.1 u_1.2.2.2.2.2.2.2.2.2.2.2.2.2).bind fun u_14 =>
  some (u_14.1, u_14.2.1, u_14.2.2.1, u_14.2.2.2.1, u_14.2.2.2.2.1, u_14.2.2.2.2.2.1, u_14.2.2.2.2.2.2.1, u_14.2.2.2.2.2.2.2.1, u_14.2.2.2.2.2.2.2.2.1, u_14.2.2.2.2.2.2.2.2.2.1, u_14.2.2.2.2.2.2.2.2.2.2.1, u_14.2.2.2.2.2.2.2.2.2.2.2.1, u_14.2.2.2.2.2.2.2.2.2.2.2.2.1, u_14.2.2.2.2.2.2.2.2.2.2.2.2.2, y2_9)) u_1.2.1 u_1.2.2.1 u_1.2.2.2.1 u_1.2.2.2.2.1 u_1.2.2.2.2.2.1 u_1.2.2.2.2.2.2.1 u_1.2.2.2.2.2.2.2.2.2.1 away free p0 1000 u_3 (0 : Int32) u_1.1 u_1.2.2.2.2.2.2.2.1 u_1.2.2.2.2.2.2.2.2.2.2.1 u_1.2.2.2.2.2.2.2.2.2.2.2.1
set_option maxRecDepth 100000 in
set_option maxHeartbeats 4000000 in
theorem l_X5_wantIn_L11 {l : Launch} {p : Program} {e : Env} {s : State} {m : MethodId} {args : Array Value} {below : List Frame} {meth : Method} {c : Code} {A : Nat → Prop} {G : Gx} {ad : Nat → Nat} {refused used hidden kind figure good load tape letter letterAt told kept row costs : List Int32} {ships away taped reading statements hasImage isKeeping cursor backs free goodFor loadedWhen bareGood bareWhen rowMany lots : Int32} {x1 : Int32} {k : Int32 → List Int32 → List Int32 → Int32 → Int32 → Option (List Int32 × List Int32 × List Int32 × List Int32 × List Int32 × List Int32 × List Int32 × List Int32 × List Int32 × Int32 × Int32 × Int32 × Int32 × Int32 × Int32)} {out : List Int32 × List Int32 × List Int32 × List Int32 × List Int32 × List Int32 × List Int32 × List Int32 × List Int32 × Int32 × Int32 × Int32 × Int32 × Int32 × Int32} (C : Cx p s m args meth c cX5_wantIn RX5 4 (some .int) G) : ∀ (n : Nat) (x2 : Int32) (x3 : Int32) (there : List Int32) (inn : List Int32) (coughs : Int32) (day : Int32), X5_wantIn_L11 k used hidden kind figure good load ships away free x1 n x2 x3 there inn coughs day = some out → ∀ (H : Heap) (locs : List Loc), St G A s.heap H locs (wM G ad refused there used hidden kind figure good load inn tape letter letterAt told kept row costs ships coughs day away taped reading statements hasImage isKeeping cursor backs free goodFor loadedWhen bareGood bareWhen rowMany lots) → ∀ ls : Array Slot, lv_has ls 4 [(0, .ref (ad 0)), (1, .int x1), (2, .int x2), (3, .int x3)] → (∀ (y2 : Int32) (z_there : List Int32) (z_inn : List Int32) (z_coughs : Int32) (z_day : Int32), k y2 z_there z_inn z_coughs z_day = some out → ∀ (H : Heap) (locs : List Loc), St G A s.heap H locs (wM G ad refused z_there used hidden kind figure good load z_inn tape letter letterAt told kept row costs ships z_coughs z_day away taped reading statements hasImage isKeeping cursor backs free goodFor loadedWhen bareGood bareWhen rowMany lots) → ∀ ls : Array Slot, lv_has ls 4 [(0, .ref (ad 0)), (2, .int y2)] → W p l e (rmOf 6 129) s m args below meth c H locs 0 0 (MQ below (Qof G A (some (.int out.2.2.2.2.2.2.2.2.2.2.2.2.2.2)) (wM G ad refused out.1 out.2.1 out.2.2.1 out.2.2.2.1 out.2.2.2.2.1 out.2.2.2.2.2.1 out.2.2.2.2.2.2.1 out.2.2.2.2.2.2.2.1 tape letter letterAt told out.2.2.2.2.2.2.2.2.1 row costs out.2.2.2.2.2.2.2.2.2.1 out.2.2.2.2.2.2.2.2.2.2.1 out.2.2.2.2.2.2.2.2.2.2.2.1 away taped reading statements hasImage out.2.2.2.2.2.2.2.2.2.2.2.2.1 out.2.2.2.2.2.2.2.2.2.2.2.2.2.1 backs free goodFor loadedWhen bareGood bareWhen rowMany lots)) args s 0 0 A) (F0 m 34 ls [])) → W p l e (rmOf 6 129) s m args below meth c H locs 0 0 (MQ below (Qof G A (some (.int out.2.2.2.2.2.2.2.2.2.2.2.2.2.2)) (wM G ad refused out.1 out.2.1 out.2.2.1 out.2.2.2.1 out.2.2.2.2.1 out.2.2.2.2.2.1 out.2.2.2.2.2.2.1 out.2.2.2.2.2.2.2.1 tape letter letterAt told out.2.2.2.2.2.2.2.2.1 row costs out.2.2.2.2.2.2.2.2.2.1 out.2.2.2.2.2.2.2.2.2.2.1 out.2.2.2.2.2.2.2.2.2.2.2.1 away taped reading statements hasImage out.2.2.2.2.2.2.2.2.2.2.2.2.1 out.2.2.2.2.2.2.2.2.2.2.2.2.2.1 backs free goodFor loadedWhen bareGood bareWhen rowMany lots)) args s 0 0 A) (F0 m 11 ls []) := by
  obtain ⟨hx, hb, hml, hown, hts, hK, hret, hlk⟩ := id C
  intro n
  induction n with
  | zero => intro x2 x3 there inn coughs day hf; cases hf
  | succ n ih =>
    intro x2 x3 there inn coughs day hf H locs hs ls hl hk
    rw [X5_wantIn_L11] at hf
    refine lv_iload_n hx hb (dk hX5_wantIn_0 7 rfl) rfl (lv_at hl 3 rfl) ?_
    refine lv_iload_n hx hb (dk hX5_wantIn_0 8 rfl) rfl (lv_at hl 1 rfl) ?_
    refine lv_icmp_ge (tgt := 34) hx hb (dk hX5_wantIn_0 9 rfl) (by decide) (fun hc => ?_) (fun hc => ?_)
    · replace hf := ip hf hc
      exact hk _ _ _ _ _ hf _ _ hs _ (lv_sub hl [0, 2] rfl)
    · replace hf := in_ hf hc
      refine lv_aload_n hx hb (dk hX5_wantIn_0 10 rfl) rfl (lv_at hl 0 rfl) ?_
      refine lv_iconst (v := (0 : Int32)) hx hb (dk hX5_wantIn_0 11 rfl) (by decide) ?_
      obtain ⟨u_5, e_6, hf⟩ := Option.bind_eq_some_iff.mp hf
      refine Ct.V (As := [.int (0 : Int32)]) (rest := []) (st1 := []) (w1 := (wM G ad refused u_5.1 used hidden kind figure good load u_5.2.1 tape letter letterAt told kept row costs ships u_5.2.2.1 u_5.2.2.2 away taped reading statements hasImage isKeeping cursor backs free goodFor loadedWhen bareGood bareWhen rowMany lots)) C hs (c_X5_goesDay e_6) tw_866 tw_868 tw_35 tw_85 tw_869 nq_X5_goesDay (by decide) 0 5 rfl rfl rfl rfl hl.1 rfl (Nat.le_of_ble_eq_true rfl) (dk hX5_wantIn_0 12 rfl) ⟨Nat.zero_le _, Nat.zero_le _⟩ rfl (fun H locs hs => ?_)
      refine lv_iload_n hx hb (dk hX5_wantIn_0 13 rfl) rfl (lv_at hl 2 rfl) ?_
      refine lv_aload_n hx hb (dk hX5_wantIn_0 14 rfl) rfl (lv_at hl 0 rfl) ?_
      obtain ⟨u_7, e_8, hf⟩ := Option.bind_eq_some_iff.mp hf
      refine Ct.V (As := []) (rest := [.int x2]) (st1 := [.int u_7, .int x2]) (w1 := (wM G ad refused u_5.1 used hidden kind figure good load u_5.2.1 tape letter letterAt told kept row costs ships u_5.2.2.1 u_5.2.2.2 away taped reading statements hasImage isKeeping cursor backs free goodFor loadedWhen bareGood bareWhen rowMany lots)) C hs (c_X5_allLack e_8) tw_1081 tw_1083 tw_64 tw_85 tw_1084 nq_X5_allLack (by decide) 0 5 rfl rfl rfl rfl hl.1 rfl (Nat.le_of_ble_eq_true rfl) (dk hX5_wantIn_0 15 rfl) ⟨Nat.zero_le _, Nat.zero_le _⟩ rfl (fun H locs hs => ?_)
      refine lv_iadd hx hb (dk hX5_wantIn_0 16 rfl) ?_
      refine lv_istore_n (lv' := [(2, .int (x2 + u_7)), (0, .ref (ad 0)), (1, .int x1), (3, .int x3)]) hx hb (dk hX5_wantIn_0 17 rfl) rfl hl (by decide) rfl (fun ls hl => ?_)
      refine lv_iinc (v := (x3 + (1 : Int32))) (lv' := [(3, .int (x3 + (1 : Int32))), (2, .int (x2 + u_7)), (0, .ref (ad 0)), (1, .int x1)]) hx hb (dk hX5_wantIn_0 18 rfl) hl (k := 3) rfl (by first | rfl | decide) (by decide) rfl (fun ls hl => ?_)
      refine lv_goto (tgt := 11) hx hb (dk hX5_wantIn_0 19 rfl) (by decide) ?_
      exact ih _ _ _ _ _ _ hf _ _ hs _ (lv_sub hl [2, 3, 1, 0] rfl) hk
set_option maxRecDepth 100000 in
set_option maxHeartbeats 4000000 in
theorem c_X5_wantIn {l : Launch} {G : Gx} {ad : Nat → Nat} {refused there used hidden kind figure good load inn tape letter letterAt told kept row costs : List Int32} {ships coughs day away taped reading statements hasImage isKeeping cursor backs free goodFor loadedWhen bareGood bareWhen rowMany lots : Int32} {p0 : Int32} {out : List Int32 × List Int32 × List Int32 × List Int32 × List Int32 × List Int32 × List Int32 × List Int32 × List Int32 × Int32 × Int32 × Int32 × Int32 × Int32 × Int32} (hf : X5_wantIn there used hidden kind figure good load inn kept ships coughs day away isKeeping cursor free p0 = some out) : Ct l G yX5_wantIn cX5_wantIn 4 (some .int) 6 129 [.ref (ad 0), .int p0] (wM G ad refused there used hidden kind figure good load inn tape letter letterAt told kept row costs ships coughs day away taped reading statements hasImage isKeeping cursor backs free goodFor loadedWhen bareGood bareWhen rowMany lots) (some (.int out.2.2.2.2.2.2.2.2.2.2.2.2.2.2)) (wM G ad refused out.1 out.2.1 out.2.2.1 out.2.2.2.1 out.2.2.2.2.1 out.2.2.2.2.2.1 out.2.2.2.2.2.2.1 out.2.2.2.2.2.2.2.1 tape letter letterAt told out.2.2.2.2.2.2.2.2.1 row costs out.2.2.2.2.2.2.2.2.2.1 out.2.2.2.2.2.2.2.2.2.2.1 out.2.2.2.2.2.2.2.2.2.2.2.1 away taped reading statements hasImage out.2.2.2.2.2.2.2.2.2.2.2.2.1 out.2.2.2.2.2.2.2.2.2.2.2.2.2.1 backs free goodFor loadedWhen bareGood bareWhen rowMany lots) := by
  refine Ct.intro RX5 rfl (plainFor_of_name (by decide)) (Nat.le_of_ble_eq_true rfl) rfl ?_
  intro p e s m args below meth c A C H locs hs ls hl
  obtain ⟨hx, hb, hml, hown, hts, hK, hret, hlk⟩ := id C
  have hl : lv_has ls 4 [(0, .ref (ad 0)), (1, .int p0)] := hl
  unfold X5_wantIn at hf
  refine lv_aload_n hx hb (dk hX5_wantIn_0 0 rfl) rfl (lv_at hl 0 rfl) ?_
  obtain ⟨u_1, e_2, hf⟩ := Option.bind_eq_some_iff.mp hf
  refine Ct.V (As := []) (rest := []) (st1 := []) (w1 := (wM G ad refused u_1.1 u_1.2.1 u_1.2.2.1 u_1.2.2.2.1 u_1.2.2.2.2.1 u_1.2.2.2.2.2.1 u_1.2.2.2.2.2.2.1 u_1.2.2.2.2.2.2.2.1 tape letter letterAt told u_1.2.2.2.2.2.2.2.2.1 row costs u_1.2.2.2.2.2.2.2.2.2.1 u_1.2.2.2.2.2.2.2.2.2.2.1 u_1.2.2.2.2.2.2.2.2.2.2.2.1 away taped reading statements hasImage u_1.2.2.2.2.2.2.2.2.2.2.2.2.1 u_1.2.2.2.2.2.2.2.2.2.2.2.2.2 backs free goodFor loadedWhen bareGood bareWhen rowMany lots)) C hs (c_X5_thinks e_2) tw_993 tw_995 tw_51 tw_85 tw_996 nq_X5_thinks (by decide) 0 5 rfl rfl rfl rfl hl.1 rfl (Nat.le_of_ble_eq_true rfl) (dk hX5_wantIn_0 1 rfl) ⟨Nat.zero_le _, Nat.zero_le _⟩ rfl (fun H locs hs => ?_)
  refine lv_aload_n hx hb (dk hX5_wantIn_0 2 rfl) rfl (lv_at hl 0 rfl) ?_
  obtain ⟨u_3, e_4, hf⟩ := Option.bind_eq_some_iff.mp hf
  refine Ct.V (As := []) (rest := []) (st1 := [.int u_3]) (w1 := (wM G ad refused u_1.1 u_1.2.1 u_1.2.2.1 u_1.2.2.2.1 u_1.2.2.2.2.1 u_1.2.2.2.2.2.1 u_1.2.2.2.2.2.2.1 u_1.2.2.2.2.2.2.2.1 tape letter letterAt told u_1.2.2.2.2.2.2.2.2.1 row costs u_1.2.2.2.2.2.2.2.2.2.1 u_1.2.2.2.2.2.2.2.2.2.2.1 u_1.2.2.2.2.2.2.2.2.2.2.2.1 away taped reading statements hasImage u_1.2.2.2.2.2.2.2.2.2.2.2.2.1 u_1.2.2.2.2.2.2.2.2.2.2.2.2.2 backs free goodFor loadedWhen bareGood bareWhen rowMany lots)) C hs (c_X5_allLack e_4) tw_1081 tw_1083 tw_64 tw_85 tw_1084 nq_X5_allLack (by decide) 0 5 rfl rfl rfl rfl hl.1 rfl (Nat.le_of_ble_eq_true rfl) (dk hX5_wantIn_0 3 rfl) ⟨Nat.zero_le _, Nat.zero_le _⟩ rfl (fun H locs hs => ?_)
  refine lv_istore_n (lv' := [(2, .int u_3), (0, .ref (ad 0)), (1, .int p0)]) hx hb (dk hX5_wantIn_0 4 rfl) rfl hl (by decide) rfl (fun ls hl => ?_)
  refine lv_iconst (v := (0 : Int32)) hx hb (dk hX5_wantIn_0 5 rfl) (by decide) ?_
  refine lv_istore_n (lv' := [(3, .int (0 : Int32)), (2, .int u_3), (0, .ref (ad 0)), (1, .int p0)]) hx hb (dk hX5_wantIn_0 6 rfl) rfl hl (by decide) rfl (fun ls hl => ?_)
  refine l_X5_wantIn_L11 C 1000 _ _ _ _ _ _ hf _ _ hs _ (lv_sub hl [2, 3, 1, 0] rfl) (fun y2_9 there_10 inn_11 coughs_12 day_13 hf H locs hs ls hl => ?_)
  refine lv_aload_n hx hb (dk hX5_wantIn_0 20 rfl) rfl (lv_at hl 0 rfl) ?_
  obtain ⟨u_14, e_15, hf⟩ := Option.bind_eq_some_iff.mp hf
  refine Ct.V (As := []) (rest := []) (st1 := []) (w1 := (wM G ad refused u_14.1 u_14.2.1 u_14.2.2.1 u_14.2.2.2.1 u_14.2.2.2.2.1 u_14.2.2.2.2.2.1 u_14.2.2.2.2.2.2.1 u_14.2.2.2.2.2.2.2.1 tape letter letterAt told u_14.2.2.2.2.2.2.2.2.1 row costs u_14.2.2.2.2.2.2.2.2.2.1 u_14.2.2.2.2.2.2.2.2.2.2.1 u_14.2.2.2.2.2.2.2.2.2.2.2.1 away taped reading statements hasImage u_14.2.2.2.2.2.2.2.2.2.2.2.2.1 u_14.2.2.2.2.2.2.2.2.2.2.2.2.2 backs free goodFor loadedWhen bareGood bareWhen rowMany lots)) C hs (c_X5_forgets e_15) tw_997 tw_999 tw_52 tw_85 tw_1000 nq_X5_forgets (by decide) 0 5 rfl rfl rfl rfl hl.1 rfl (Nat.le_of_ble_eq_true rfl) (dk hX5_wantIn_0 21 rfl) ⟨Nat.zero_le _, Nat.zero_le _⟩ rfl (fun H locs hs => ?_)
  refine lv_iload_n hx hb (dk hX5_wantIn_0 22 rfl) rfl (lv_at hl 1 rfl) ?_
  cases hf
  exact ri C hs (dk hX5_wantIn_0 23 rfl)

def X5_want (refused : List Int32) (there : List Int32) (used : List Int32) (hidden : List Int32) (kind : List Int32) (figure : List Int32) (good : List Int32) (load : List Int32) (inn : List Int32) (kept : List Int32) (ships : Int32) (coughs : Int32) (day : Int32) (away : Int32) (isKeeping : Int32) (cursor : Int32) (free : Int32) (p0 : Int32) : Option (List Int32 × List Int32 × List Int32 × List Int32 × List Int32 × List Int32 × List Int32 × List Int32 × List Int32 × List Int32 × Int32 × Int32 × Int32 × Int32 × Int32 × Int32) :=
  (X5_notDays p0).bind fun u_1 =>
  if u_1 = (0 : Int32) then
  (X5_wantIn there used hidden kind figure good load inn kept ships coughs day away isKeeping cursor free p0).bind fun u_3 =>
  some (refused, u_3.1, u_3.2.1, u_3.2.2.1, u_3.2.2.2.1, u_3.2.2.2.2.1, u_3.2.2.2.2.2.1, u_3.2.2.2.2.2.2.1, u_3.2.2.2.2.2.2.2.1, u_3.2.2.2.2.2.2.2.2.1, u_3.2.2.2.2.2.2.2.2.2.1, u_3.2.2.2.2.2.2.2.2.2.2.1, u_3.2.2.2.2.2.2.2.2.2.2.2.1, u_3.2.2.2.2.2.2.2.2.2.2.2.2.1, u_3.2.2.2.2.2.2.2.2.2.2.2.2.2.1, u_3.2.2.2.2.2.2.2.2.2.2.2.2.2.2)
  else
  (X5_no refused u_1).bind fun u_5 =>
  some (u_5.1, there, used, hidden, kind, figure, good, load, inn, kept, ships, coughs, day, isKeeping, cursor, u_5.2)
set_option maxRecDepth 100000 in
set_option maxHeartbeats 4000000 in
theorem c_X5_want {l : Launch} {G : Gx} {ad : Nat → Nat} {refused there used hidden kind figure good load inn tape letter letterAt told kept row costs : List Int32} {ships coughs day away taped reading statements hasImage isKeeping cursor backs free goodFor loadedWhen bareGood bareWhen rowMany lots : Int32} {p0 : Int32} {out : List Int32 × List Int32 × List Int32 × List Int32 × List Int32 × List Int32 × List Int32 × List Int32 × List Int32 × List Int32 × Int32 × Int32 × Int32 × Int32 × Int32 × Int32} (hf : X5_want refused there used hidden kind figure good load inn kept ships coughs day away isKeeping cursor free p0 = some out) : Ct l G yX5_want cX5_want 3 (some .int) 7 152 [.ref (ad 0), .int p0] (wM G ad refused there used hidden kind figure good load inn tape letter letterAt told kept row costs ships coughs day away taped reading statements hasImage isKeeping cursor backs free goodFor loadedWhen bareGood bareWhen rowMany lots) (some (.int out.2.2.2.2.2.2.2.2.2.2.2.2.2.2.2)) (wM G ad out.1 out.2.1 out.2.2.1 out.2.2.2.1 out.2.2.2.2.1 out.2.2.2.2.2.1 out.2.2.2.2.2.2.1 out.2.2.2.2.2.2.2.1 out.2.2.2.2.2.2.2.2.1 tape letter letterAt told out.2.2.2.2.2.2.2.2.2.1 row costs out.2.2.2.2.2.2.2.2.2.2.1 out.2.2.2.2.2.2.2.2.2.2.2.1 out.2.2.2.2.2.2.2.2.2.2.2.2.1 away taped reading statements hasImage out.2.2.2.2.2.2.2.2.2.2.2.2.2.1 out.2.2.2.2.2.2.2.2.2.2.2.2.2.2.1 backs free goodFor loadedWhen bareGood bareWhen rowMany lots) := by
  refine Ct.intro RX5 rfl (plainFor_of_name (by decide)) (Nat.le_of_ble_eq_true rfl) rfl ?_
  intro p e s m args below meth c A C H locs hs ls hl
  obtain ⟨hx, hb, hml, hown, hts, hK, hret, hlk⟩ := id C
  have hl : lv_has ls 3 [(0, .ref (ad 0)), (1, .int p0)] := hl
  unfold X5_want at hf
  refine lv_iload_n hx hb (dk hX5_want_0 0 rfl) rfl (lv_at hl 1 rfl) ?_
  obtain ⟨u_1, e_2, hf⟩ := Option.bind_eq_some_iff.mp hf
  refine Ct.S (As := [.int p0]) (rest := []) (st1 := [.int u_1]) (w1 := (wM G ad refused there used hidden kind figure good load inn tape letter letterAt told kept row costs ships coughs day away taped reading statements hasImage isKeeping cursor backs free goodFor loadedWhen bareGood bareWhen rowMany lots)) C hs (c_X5_notDays e_2) tw_990 tw_991 tw_85 tw_992 nq_X5_notDays (by decide) rfl hl.1 rfl (Nat.le_of_ble_eq_true rfl) (dk hX5_want_0 1 rfl) ⟨Nat.zero_le _, Nat.zero_le _⟩ rfl (fun H locs hs => ?_)
  refine lv_istore_n (lv' := [(2, .int u_1), (0, .ref (ad 0)), (1, .int p0)]) hx hb (dk hX5_want_0 2 rfl) rfl hl (by decide) rfl (fun ls hl => ?_)
  refine lv_iload_n hx hb (dk hX5_want_0 3 rfl) rfl (lv_at hl 0 rfl) ?_
  refine lv_if_eq (tgt := 17) hx hb (dk hX5_want_0 4 rfl) (by decide) (fun hc => ?_) (fun hc => ?_)
  · replace hf := ip hf hc
    refine lv_aload_n hx hb (dk hX5_want_0 9 rfl) rfl (lv_at hl 1 rfl) ?_
    refine lv_iload_n hx hb (dk hX5_want_0 10 rfl) rfl (lv_at hl 2 rfl) ?_
    obtain ⟨u_3, e_4, hf⟩ := Option.bind_eq_some_iff.mp hf
    refine Ct.V (As := [.int p0]) (rest := []) (st1 := [.int u_3.2.2.2.2.2.2.2.2.2.2.2.2.2.2]) (w1 := (wM G ad refused u_3.1 u_3.2.1 u_3.2.2.1 u_3.2.2.2.1 u_3.2.2.2.2.1 u_3.2.2.2.2.2.1 u_3.2.2.2.2.2.2.1 u_3.2.2.2.2.2.2.2.1 tape letter letterAt told u_3.2.2.2.2.2.2.2.2.1 row costs u_3.2.2.2.2.2.2.2.2.2.1 u_3.2.2.2.2.2.2.2.2.2.2.1 u_3.2.2.2.2.2.2.2.2.2.2.2.1 away taped reading statements hasImage u_3.2.2.2.2.2.2.2.2.2.2.2.2.1 u_3.2.2.2.2.2.2.2.2.2.2.2.2.2.1 backs free goodFor loadedWhen bareGood bareWhen rowMany lots)) C hs (c_X5_wantIn e_4) tw_1077 tw_1079 tw_63 tw_85 tw_1080 nq_X5_wantIn (by decide) 0 5 rfl rfl rfl rfl hl.1 rfl (Nat.le_of_ble_eq_true rfl) (dk hX5_want_0 11 rfl) ⟨Nat.zero_le _, Nat.zero_le _⟩ rfl (fun H locs hs => ?_)
    cases hf
    exact ri C hs (dk hX5_want_0 12 rfl)
  · replace hf := in_ hf hc
    refine lv_aload_n hx hb (dk hX5_want_0 5 rfl) rfl (lv_at hl 1 rfl) ?_
    refine lv_iload_n hx hb (dk hX5_want_0 6 rfl) rfl (lv_at hl 0 rfl) ?_
    obtain ⟨u_5, e_6, hf⟩ := Option.bind_eq_some_iff.mp hf
    refine Ct.V (As := [.int u_1]) (rest := []) (st1 := [.int u_5.2]) (w1 := (wM G ad u_5.1 there used hidden kind figure good load inn tape letter letterAt told kept row costs ships coughs day away taped reading statements hasImage isKeeping cursor backs free goodFor loadedWhen bareGood bareWhen rowMany lots)) C hs (c_X5_no e_6) tw_800 tw_802 tw_21 tw_85 tw_803 nq_X5_no (by decide) 0 5 rfl rfl rfl rfl hl.1 rfl (Nat.le_of_ble_eq_true rfl) (dk hX5_want_0 7 rfl) ⟨Nat.zero_le _, Nat.zero_le _⟩ rfl (fun H locs hs => ?_)
    refine lv_goto (tgt := 22) hx hb (dk hX5_want_0 8 rfl) (by decide) ?_
    cases hf
    exact ri C hs (dk hX5_want_0 12 rfl)

def X5_findBare_L33 (k : Int32 → Option (List Int32 × List Int32 × List Int32 × List Int32 × List Int32 × List Int32 × List Int32 × List Int32 × List Int32 × Int32 × Int32 × Int32 × Int32 × Int32 × Int32 × Int32)) (there : List Int32) : Nat → Int32 → Int32 → Option (List Int32 × List Int32 × List Int32 × List Int32 × List Int32 × List Int32 × List Int32 × List Int32 × List Int32 × Int32 × Int32 × Int32 × Int32 × Int32 × Int32 × Int32)
  | 0, _, _ => none
  | n + 1, x2, bareGood =>
  if x2 < (0 : Int32) then
  k bareGood
  else
  (rd there x2).bind fun v_3 =>
  if v_3 = (0 : Int32) then
  X5_findBare_L33 k there n (x2 + (-1 : Int32)) x2
  else
  X5_findBare_L33 k there n (x2 + (-1 : Int32)) bareGood
def X5_findBare_L18 (k : List Int32 → List Int32 → Int32 → Int32 → Int32 → Int32 → Option (List Int32 × List Int32 × List Int32 × List Int32 × List Int32 × List Int32 × List Int32 × List Int32 × List Int32 × Int32 × Int32 × Int32 × Int32 × Int32 × Int32 × Int32)) (used : List Int32) (hidden : List Int32) (kind : List Int32) (figure : List Int32) (good : List Int32) (load : List Int32) (ships : Int32) (away : Int32) (free : Int32) : Nat → Int32 → List Int32 → List Int32 → Int32 → Int32 → Int32 → Int32 → Option (List Int32 × List Int32 × List Int32 × List Int32 × List Int32 × List Int32 × List Int32 × List Int32 × List Int32 × Int32 × Int32 × Int32 × Int32 × Int32 × Int32 × Int32)
  | 0, _, _, _, _, _, _, _ => none
  | n + 1, x1, there, inn, coughs, day, bareGood, bareWhen =>
  if (60 : Int32) < x1 then
  k there inn coughs day bareGood bareWhen
  else
  if (0 : Int32) ≤ bareGood then
  k there inn coughs day bareGood bareWhen
  else
  X5_findBare_L33 (fun bareGood_5 =>
  if bareGood_5 < (0 : Int32) then
  (X5_goesDay there used hidden kind figure good load inn ships coughs day away free (0 : Int32)).bind fun u_6 =>
  X5_findBare_L18 k used hidden kind figure good load ships away free n (x1 + (1 : Int32)) u_6.1 u_6.2.1 u_6.2.2.1 u_6.2.2.2 bareGood_5 (-9 : Int32)
  else
  (X5_goesDay there used hidden kind figure good load inn ships coughs day away free (0 : Int32)).bind fun u_8 =>
  X5_findBare_L18 k used hidden kind figure good load ships away free n (x1 + (1 : Int32)) u_8.1 u_8.2.1 u_8.2.2.1 u_8.2.2.2 bareGood_5 x1) there 1000 (5 : Int32) bareGood
def X5_findBare (there : List Int32) (used : List Int32) (hidden : List Int32) (kind : List Int32) (figure : List Int32) (good : List Int32) (load : List Int32) (inn : List Int32) (kept : List Int32) (ships : Int32) (coughs : Int32) (day : Int32) (away : Int32) (isKeeping : Int32) (cursor : Int32) (free : Int32) (bareGood : Int32) (bareWhen : Int32) : Option (List Int32 × List Int32 × List Int32 × List Int32 × List Int32 × List Int32 × List Int32 × List Int32 × List Int32 × Int32 × Int32 × Int32 × Int32 × Int32 × Int32 × Int32) :=
  (X5_thinks there used hidden kind figure good load inn kept ships coughs day isKeeping cursor).bind fun u_1 =>
  X5_findBare_L18 (fun there_10 inn_11 coughs_12 day_13 bareGood_14 bareWhen_15 =>
  (X5_forgets there_10 u_1.2.1 u_1.2.2.1 u_1.2.2.2.1 u_1.2.2.2.2.1 u_1.2.2.2.2.2.1 u_1.2.2.2.2.2.2.1 inn_11 u_1.2.2.2.2.2.2.2.2.1 u_1.2.2.2.2.2.2.2.2.2.1 coughs_12 day_13 u_1.2.2.2.2.2.2.2.2.2.2.2.2.1 u_1.2.2.2.2.2.2.2.2.2.2.2.2.2).bind fun u_16 =>
  some (u_16.1, u_16.2.1, u_16.2.2.1, u_16.2.2.2.1, u_16.2.2.2.2.1, u_16.2.2.2.2.2.1, u_16.2.2.2.2.2.2.1, u_16.2.2.2.2.2.2.2.1, u_16.2.2.2.2.2.2.2.2.1, u_16.2.2.2.2.2.2.2.2.2.1, u_16.2.2.2.2.2.2.2.2.2.2.1, u_16.2.2.2.2.2.2.2.2.2.2.2.1, u_16.2.2.2.2.2.2.2.2.2.2.2.2.1, u_16.2.2.2.2.2.2.2.2.2.2.2.2.2, bareGood_14, bareWhen_15)) u_1.2.1 u_1.2.2.1 u_1.2.2.2.1 u_1.2.2.2.2.1 u_1.2.2.2.2.2.1 u_1.2.2.2.2.2.2.1 u_1.2.2.2.2.2.2.2.2.2.1 away free 1000 (0 : Int32) u_1.1 u_1.2.2.2.2.2.2.2.1 u_1.2.2.2.2.2.2.2.2.2.2.1 u_1.2.2.2.2.2.2.2.2.2.2.2.1 (-9 : Int32) (-9 : Int32)
set_option maxRecDepth 100000 in
set_option maxHeartbeats 4000000 in
theorem l_X5_findBare_L33 {l : Launch} {p : Program} {e : Env} {s : State} {m : MethodId} {args : Array Value} {below : List Frame} {meth : Method} {c : Code} {A : Nat → Prop} {G : Gx} {ad : Nat → Nat} {refused there used hidden kind figure good load inn tape letter letterAt told kept row costs : List Int32} {ships coughs day away taped reading statements hasImage isKeeping cursor backs free goodFor loadedWhen bareWhen rowMany lots : Int32} {x1 : Int32} {k : Int32 → Option (List Int32 × List Int32 × List Int32 × List Int32 × List Int32 × List Int32 × List Int32 × List Int32 × List Int32 × Int32 × Int32 × Int32 × Int32 × Int32 × Int32 × Int32)} {out : List Int32 × List Int32 × List Int32 × List Int32 × List Int32 × List Int32 × List Int32 × List Int32 × List Int32 × Int32 × Int32 × Int32 × Int32 × Int32 × Int32 × Int32} (C : Cx p s m args meth c cX5_findBare RX5 3 (none) G) : ∀ (n : Nat) (x2 : Int32) (bareGood : Int32), X5_findBare_L33 k there n x2 bareGood = some out → ∀ (H : Heap) (locs : List Loc), St G A s.heap H locs (wM G ad refused there used hidden kind figure good load inn tape letter letterAt told kept row costs ships coughs day away taped reading statements hasImage isKeeping cursor backs free goodFor loadedWhen bareGood bareWhen rowMany lots) → ∀ ls : Array Slot, lv_has ls 3 [(0, .ref (ad 0)), (1, .int x1), (2, .int x2)] → (∀ (z_bareGood : Int32), k z_bareGood = some out → ∀ (H : Heap) (locs : List Loc), St G A s.heap H locs (wM G ad refused there used hidden kind figure good load inn tape letter letterAt told kept row costs ships coughs day away taped reading statements hasImage isKeeping cursor backs free goodFor loadedWhen z_bareGood bareWhen rowMany lots) → ∀ ls : Array Slot, lv_has ls 3 [(0, .ref (ad 0)), (1, .int x1)] → W p l e (rmOf 6 129) s m args below meth c H locs 0 0 (MQ below (Qof G A (none) (wM G ad refused out.1 out.2.1 out.2.2.1 out.2.2.2.1 out.2.2.2.2.1 out.2.2.2.2.2.1 out.2.2.2.2.2.2.1 out.2.2.2.2.2.2.2.1 tape letter letterAt told out.2.2.2.2.2.2.2.2.1 row costs out.2.2.2.2.2.2.2.2.2.1 out.2.2.2.2.2.2.2.2.2.2.1 out.2.2.2.2.2.2.2.2.2.2.2.1 away taped reading statements hasImage out.2.2.2.2.2.2.2.2.2.2.2.2.1 out.2.2.2.2.2.2.2.2.2.2.2.2.2.1 backs free goodFor loadedWhen out.2.2.2.2.2.2.2.2.2.2.2.2.2.2.1 out.2.2.2.2.2.2.2.2.2.2.2.2.2.2.2 rowMany lots)) args s 0 0 A) (F0 m 64 ls [])) → W p l e (rmOf 6 129) s m args below meth c H locs 0 0 (MQ below (Qof G A (none) (wM G ad refused out.1 out.2.1 out.2.2.1 out.2.2.2.1 out.2.2.2.2.1 out.2.2.2.2.2.1 out.2.2.2.2.2.2.1 out.2.2.2.2.2.2.2.1 tape letter letterAt told out.2.2.2.2.2.2.2.2.1 row costs out.2.2.2.2.2.2.2.2.2.1 out.2.2.2.2.2.2.2.2.2.2.1 out.2.2.2.2.2.2.2.2.2.2.2.1 away taped reading statements hasImage out.2.2.2.2.2.2.2.2.2.2.2.2.1 out.2.2.2.2.2.2.2.2.2.2.2.2.2.1 backs free goodFor loadedWhen out.2.2.2.2.2.2.2.2.2.2.2.2.2.2.1 out.2.2.2.2.2.2.2.2.2.2.2.2.2.2.2 rowMany lots)) args s 0 0 A) (F0 m 33 ls []) := by
  obtain ⟨hx, hb, hml, hown, hts, hK, hret, hlk⟩ := id C
  intro n
  induction n with
  | zero => intro x2 bareGood hf; cases hf
  | succ n ih =>
    intro x2 bareGood hf H locs hs ls hl hk
    rw [X5_findBare_L33] at hf
    refine lv_iload_n hx hb (dk hX5_findBare_0 18 rfl) rfl (lv_at hl 2 rfl) ?_
    refine lv_if_lt (tgt := 64) hx hb (dk hX5_findBare_0 19 rfl) (by decide) (fun hc => ?_) (fun hc => ?_)
    · replace hf := ip hf hc
      exact hk _ hf _ _ hs _ (lv_sub hl [0, 1] rfl)
    · replace hf := in_ hf hc
      refine lv_aload_n hx hb (dk hX5_findBare_0 20 rfl) rfl (lv_at hl 0 rfl) ?_
      refine lv_aload_n hx hb (dk hX5_findBare_0 21 rfl) rfl (lv_at hl 0 rfl) ?_
      refine rg ui5 rfl C hs 0 rfl 1 (by decide) tw_691 rfl rfl (dk hX5_findBare_0 22 rfl) ?_
      refine lv_iload_n hx hb (dk hX5_findBare_0 23 rfl) rfl (lv_at hl 2 rfl) ?_
      obtain ⟨v_3, e_4, hf⟩ := Option.bind_eq_some_iff.mp hf
      refine rild C hs 2 rfl e_4 (dk hX5_findBare_0 24 rfl) ?_
      refine lv_if_ne (tgt := 51) hx hb (dk hX5_findBare_0 25 rfl) (by decide) (fun hc => ?_) (fun hc => ?_)
      · replace hf := in_ hf hc
        refine lv_aload_n hx hb (dk hX5_findBare_0 28 rfl) rfl (lv_at hl 0 rfl) ?_
        refine rg ui5 rfl C hs 0 rfl 28 (by decide) tw_718 rfl rfl (dk hX5_findBare_0 29 rfl) ?_
        refine rp (w1 := (wM G ad refused there used hidden kind figure good load inn tape letter letterAt told kept row costs ships coughs day away taped reading statements hasImage isKeeping cursor backs free goodFor loadedWhen bareGood bareWhen rowMany lots)) tyX5 tyX5_ok nmX5 ui5 rfl C hs 0 rfl 28 (by decide) tw_718 rfl rfl rfl rfl (Nat.le_of_ble_eq_true rfl) rfl (dk hX5_findBare_0 30 rfl) (fun H locs hs => ?_)
        refine lv_iinc (v := (x2 + (-1 : Int32))) (lv' := [(2, .int (x2 + (-1 : Int32))), (0, .ref (ad 0)), (1, .int x1)]) hx hb (dk hX5_findBare_0 31 rfl) hl (k := 2) rfl (by first | rfl | decide) (by decide) rfl (fun ls hl => ?_)
        refine lv_goto (tgt := 33) hx hb (dk hX5_findBare_0 32 rfl) (by decide) ?_
        exact ih _ _ hf _ _ hs _ (lv_sub hl [1, 2, 0] rfl) hk
      · replace hf := ip hf hc
        refine lv_iload_n hx hb (dk hX5_findBare_0 26 rfl) rfl (lv_at hl 2 rfl) ?_
        refine lv_goto (tgt := 55) hx hb (dk hX5_findBare_0 27 rfl) (by decide) ?_
        refine rp (w1 := (wM G ad refused there used hidden kind figure good load inn tape letter letterAt told kept row costs ships coughs day away taped reading statements hasImage isKeeping cursor backs free goodFor loadedWhen x2 bareWhen rowMany lots)) tyX5 tyX5_ok nmX5 ui5 rfl C hs 0 rfl 28 (by decide) tw_718 rfl rfl rfl rfl (Nat.le_of_ble_eq_true rfl) rfl (dk hX5_findBare_0 30 rfl) (fun H locs hs => ?_)
        refine lv_iinc (v := (x2 + (-1 : Int32))) (lv' := [(2, .int (x2 + (-1 : Int32))), (0, .ref (ad 0)), (1, .int x1)]) hx hb (dk hX5_findBare_0 31 rfl) hl (k := 2) rfl (by first | rfl | decide) (by decide) rfl (fun ls hl => ?_)
        refine lv_goto (tgt := 33) hx hb (dk hX5_findBare_0 32 rfl) (by decide) ?_
        exact ih _ _ hf _ _ hs _ (lv_sub hl [1, 2, 0] rfl) hk
set_option maxRecDepth 100000 in
set_option maxHeartbeats 4000000 in
theorem l_X5_findBare_L18 {l : Launch} {p : Program} {e : Env} {s : State} {m : MethodId} {args : Array Value} {below : List Frame} {meth : Method} {c : Code} {A : Nat → Prop} {G : Gx} {ad : Nat → Nat} {refused used hidden kind figure good load tape letter letterAt told kept row costs : List Int32} {ships away taped reading statements hasImage isKeeping cursor backs free goodFor loadedWhen rowMany lots : Int32} {k : List Int32 → List Int32 → Int32 → Int32 → Int32 → Int32 → Option (List Int32 × List Int32 × List Int32 × List Int32 × List Int32 × List Int32 × List Int32 × List Int32 × List Int32 × Int32 × Int32 × Int32 × Int32 × Int32 × Int32 × Int32)} {out : List Int32 × List Int32 × List Int32 × List Int32 × List Int32 × List Int32 × List Int32 × List Int32 × List Int32 × Int32 × Int32 × Int32 × Int32 × Int32 × Int32 × Int32} (C : Cx p s m args meth c cX5_findBare RX5 3 (none) G) : ∀ (n : Nat) (x1 : Int32) (there : List Int32) (inn : List Int32) (coughs : Int32) (day : Int32) (bareGood : Int32) (bareWhen : Int32), X5_findBare_L18 k used hidden kind figure good load ships away free n x1 there inn coughs day bareGood bareWhen = some out → ∀ (H : Heap) (locs : List Loc), St G A s.heap H locs (wM G ad refused there used hidden kind figure good load inn tape letter letterAt told kept row costs ships coughs day away taped reading statements hasImage isKeeping cursor backs free goodFor loadedWhen bareGood bareWhen rowMany lots) → ∀ ls : Array Slot, lv_has ls 3 [(0, .ref (ad 0)), (1, .int x1)] → (∀ (z_there : List Int32) (z_inn : List Int32) (z_coughs : Int32) (z_day : Int32) (z_bareGood : Int32) (z_bareWhen : Int32), k z_there z_inn z_coughs z_day z_bareGood z_bareWhen = some out → ∀ (H : Heap) (locs : List Loc), St G A s.heap H locs (wM G ad refused z_there used hidden kind figure good load z_inn tape letter letterAt told kept row costs ships z_coughs z_day away taped reading statements hasImage isKeeping cursor backs free goodFor loadedWhen z_bareGood z_bareWhen rowMany lots) → ∀ ls : Array Slot, lv_has ls 3 [(0, .ref (ad 0))] → W p l e (rmOf 6 129) s m args below meth c H locs 0 0 (MQ below (Qof G A (none) (wM G ad refused out.1 out.2.1 out.2.2.1 out.2.2.2.1 out.2.2.2.2.1 out.2.2.2.2.2.1 out.2.2.2.2.2.2.1 out.2.2.2.2.2.2.2.1 tape letter letterAt told out.2.2.2.2.2.2.2.2.1 row costs out.2.2.2.2.2.2.2.2.2.1 out.2.2.2.2.2.2.2.2.2.2.1 out.2.2.2.2.2.2.2.2.2.2.2.1 away taped reading statements hasImage out.2.2.2.2.2.2.2.2.2.2.2.2.1 out.2.2.2.2.2.2.2.2.2.2.2.2.2.1 backs free goodFor loadedWhen out.2.2.2.2.2.2.2.2.2.2.2.2.2.2.1 out.2.2.2.2.2.2.2.2.2.2.2.2.2.2.2 rowMany lots)) args s 0 0 A) (F0 m 92 ls [])) → W p l e (rmOf 6 129) s m args below meth c H locs 0 0 (MQ below (Qof G A (none) (wM G ad refused out.1 out.2.1 out.2.2.1 out.2.2.2.1 out.2.2.2.2.1 out.2.2.2.2.2.1 out.2.2.2.2.2.2.1 out.2.2.2.2.2.2.2.1 tape letter letterAt told out.2.2.2.2.2.2.2.2.1 row costs out.2.2.2.2.2.2.2.2.2.1 out.2.2.2.2.2.2.2.2.2.2.1 out.2.2.2.2.2.2.2.2.2.2.2.1 away taped reading statements hasImage out.2.2.2.2.2.2.2.2.2.2.2.2.1 out.2.2.2.2.2.2.2.2.2.2.2.2.2.1 backs free goodFor loadedWhen out.2.2.2.2.2.2.2.2.2.2.2.2.2.2.1 out.2.2.2.2.2.2.2.2.2.2.2.2.2.2.2 rowMany lots)) args s 0 0 A) (F0 m 18 ls []) := by
  obtain ⟨hx, hb, hml, hown, hts, hK, hret, hlk⟩ := id C
  intro n
  induction n with
  | zero => intro x1 there inn coughs day bareGood bareWhen hf; cases hf
  | succ n ih =>
    intro x1 there inn coughs day bareGood bareWhen hf H locs hs ls hl hk
    rw [X5_findBare_L18] at hf
    refine lv_iload_n hx hb (dk hX5_findBare_0 10 rfl) rfl (lv_at hl 1 rfl) ?_
    refine lv_bipush (v := (60 : Int32)) hx hb (dk hX5_findBare_0 11 rfl) (by decide) ?_
    refine lv_icmp_gt (tgt := 92) hx hb (dk hX5_findBare_0 12 rfl) (by decide) (fun hc => ?_) (fun hc => ?_)
    · replace hf := ip hf hc
      exact hk _ _ _ _ _ _ hf _ _ hs _ (lv_sub hl [0] rfl)
    · replace hf := in_ hf hc
      refine lv_aload_n hx hb (dk hX5_findBare_0 13 rfl) rfl (lv_at hl 0 rfl) ?_
      refine rg ui5 rfl C hs 0 rfl 28 (by decide) tw_718 rfl rfl (dk hX5_findBare_0 14 rfl) ?_
      refine lv_if_ge (tgt := 92) hx hb (dk hX5_findBare_0 15 rfl) (by decide) (fun hc => ?_) (fun hc => ?_)
      · replace hf := ip hf hc
        exact hk _ _ _ _ _ _ hf _ _ hs _ (lv_sub hl [0] rfl)
      · replace hf := in_ hf hc
        refine lv_iconst (v := (5 : Int32)) hx hb (dk hX5_findBare_0 16 rfl) (by decide) ?_
        refine lv_istore_n (lv' := [(2, .int (5 : Int32)), (0, .ref (ad 0)), (1, .int x1)]) hx hb (dk hX5_findBare_0 17 rfl) rfl hl (by decide) rfl (fun ls hl => ?_)
        refine l_X5_findBare_L33 C 1000 _ _ hf _ _ hs _ (lv_sub hl [1, 2, 0] rfl) (fun bareGood_5 hf H locs hs ls hl => ?_)
        refine lv_aload_n hx hb (dk hX5_findBare_0 33 rfl) rfl (lv_at hl 0 rfl) ?_
        refine lv_aload_n hx hb (dk hX5_findBare_0 34 rfl) rfl (lv_at hl 0 rfl) ?_
        refine rg ui5 rfl C hs 0 rfl 28 (by decide) tw_718 rfl rfl (dk hX5_findBare_0 35 rfl) ?_
        refine lv_if_lt (tgt := 76) hx hb (dk hX5_findBare_0 36 rfl) (by decide) (fun hc => ?_) (fun hc => ?_)
        · replace hf := ip hf hc
          refine lv_bipush (v := (-9 : Int32)) hx hb (dk hX5_findBare_0 39 rfl) (by decide) ?_
          refine rp (w1 := (wM G ad refused there used hidden kind figure good load inn tape letter letterAt told kept row costs ships coughs day away taped reading statements hasImage isKeeping cursor backs free goodFor loadedWhen bareGood_5 (-9 : Int32) rowMany lots)) tyX5 tyX5_ok nmX5 ui5 rfl C hs 0 rfl 29 (by decide) tw_719 rfl rfl rfl rfl (Nat.le_of_ble_eq_true rfl) rfl (dk hX5_findBare_1 0 rfl) (fun H locs hs => ?_)
          refine lv_aload_n hx hb (dk hX5_findBare_1 1 rfl) rfl (lv_at hl 0 rfl) ?_
          refine lv_iconst (v := (0 : Int32)) hx hb (dk hX5_findBare_1 2 rfl) (by decide) ?_
          obtain ⟨u_6, e_7, hf⟩ := Option.bind_eq_some_iff.mp hf
          refine Ct.V (As := [.int (0 : Int32)]) (rest := []) (st1 := []) (w1 := (wM G ad refused u_6.1 used hidden kind figure good load u_6.2.1 tape letter letterAt told kept row costs ships u_6.2.2.1 u_6.2.2.2 away taped reading statements hasImage isKeeping cursor backs free goodFor loadedWhen bareGood_5 (-9 : Int32) rowMany lots)) C hs (c_X5_goesDay e_7) tw_866 tw_868 tw_35 tw_85 tw_869 nq_X5_goesDay (by decide) 0 5 rfl rfl rfl rfl hl.1 rfl (Nat.le_of_ble_eq_true rfl) (dk hX5_findBare_1 3 rfl) ⟨Nat.zero_le _, Nat.zero_le _⟩ rfl (fun H locs hs => ?_)
          refine lv_iinc (v := (x1 + (1 : Int32))) (lv' := [(1, .int (x1 + (1 : Int32))), (0, .ref (ad 0))]) hx hb (dk hX5_findBare_1 4 rfl) hl (k := 1) rfl (by first | rfl | decide) (by decide) rfl (fun ls hl => ?_)
          refine lv_goto (tgt := 18) hx hb (dk hX5_findBare_1 5 rfl) (by decide) ?_
          exact ih _ _ _ _ _ _ _ hf _ _ hs _ (lv_sub hl [1, 0] rfl) hk
        · replace hf := in_ hf hc
          refine lv_iload_n hx hb (dk hX5_findBare_0 37 rfl) rfl (lv_at hl 1 rfl) ?_
          refine lv_goto (tgt := 78) hx hb (dk hX5_findBare_0 38 rfl) (by decide) ?_
          refine rp (w1 := (wM G ad refused there used hidden kind figure good load inn tape letter letterAt told kept row costs ships coughs day away taped reading statements hasImage isKeeping cursor backs free goodFor loadedWhen bareGood_5 x1 rowMany lots)) tyX5 tyX5_ok nmX5 ui5 rfl C hs 0 rfl 29 (by decide) tw_719 rfl rfl rfl rfl (Nat.le_of_ble_eq_true rfl) rfl (dk hX5_findBare_1 0 rfl) (fun H locs hs => ?_)
          refine lv_aload_n hx hb (dk hX5_findBare_1 1 rfl) rfl (lv_at hl 0 rfl) ?_
          refine lv_iconst (v := (0 : Int32)) hx hb (dk hX5_findBare_1 2 rfl) (by decide) ?_
          obtain ⟨u_8, e_9, hf⟩ := Option.bind_eq_some_iff.mp hf
          refine Ct.V (As := [.int (0 : Int32)]) (rest := []) (st1 := []) (w1 := (wM G ad refused u_8.1 used hidden kind figure good load u_8.2.1 tape letter letterAt told kept row costs ships u_8.2.2.1 u_8.2.2.2 away taped reading statements hasImage isKeeping cursor backs free goodFor loadedWhen bareGood_5 x1 rowMany lots)) C hs (c_X5_goesDay e_9) tw_866 tw_868 tw_35 tw_85 tw_869 nq_X5_goesDay (by decide) 0 5 rfl rfl rfl rfl hl.1 rfl (Nat.le_of_ble_eq_true rfl) (dk hX5_findBare_1 3 rfl) ⟨Nat.zero_le _, Nat.zero_le _⟩ rfl (fun H locs hs => ?_)
          refine lv_iinc (v := (x1 + (1 : Int32))) (lv' := [(1, .int (x1 + (1 : Int32))), (0, .ref (ad 0))]) hx hb (dk hX5_findBare_1 4 rfl) hl (k := 1) rfl (by first | rfl | decide) (by decide) rfl (fun ls hl => ?_)
          refine lv_goto (tgt := 18) hx hb (dk hX5_findBare_1 5 rfl) (by decide) ?_
          exact ih _ _ _ _ _ _ _ hf _ _ hs _ (lv_sub hl [1, 0] rfl) hk
set_option maxRecDepth 100000 in
set_option maxHeartbeats 4000000 in
theorem c_X5_findBare {l : Launch} {G : Gx} {ad : Nat → Nat} {refused there used hidden kind figure good load inn tape letter letterAt told kept row costs : List Int32} {ships coughs day away taped reading statements hasImage isKeeping cursor backs free goodFor loadedWhen bareGood bareWhen rowMany lots : Int32}  {out : List Int32 × List Int32 × List Int32 × List Int32 × List Int32 × List Int32 × List Int32 × List Int32 × List Int32 × Int32 × Int32 × Int32 × Int32 × Int32 × Int32 × Int32} (hf : X5_findBare there used hidden kind figure good load inn kept ships coughs day away isKeeping cursor free bareGood bareWhen = some out) : Ct l G yX5_findBare cX5_findBare 3 (none) 6 129 [.ref (ad 0)] (wM G ad refused there used hidden kind figure good load inn tape letter letterAt told kept row costs ships coughs day away taped reading statements hasImage isKeeping cursor backs free goodFor loadedWhen bareGood bareWhen rowMany lots) (none) (wM G ad refused out.1 out.2.1 out.2.2.1 out.2.2.2.1 out.2.2.2.2.1 out.2.2.2.2.2.1 out.2.2.2.2.2.2.1 out.2.2.2.2.2.2.2.1 tape letter letterAt told out.2.2.2.2.2.2.2.2.1 row costs out.2.2.2.2.2.2.2.2.2.1 out.2.2.2.2.2.2.2.2.2.2.1 out.2.2.2.2.2.2.2.2.2.2.2.1 away taped reading statements hasImage out.2.2.2.2.2.2.2.2.2.2.2.2.1 out.2.2.2.2.2.2.2.2.2.2.2.2.2.1 backs free goodFor loadedWhen out.2.2.2.2.2.2.2.2.2.2.2.2.2.2.1 out.2.2.2.2.2.2.2.2.2.2.2.2.2.2.2 rowMany lots) := by
  refine Ct.intro RX5 rfl (plainFor_of_name (by decide)) (Nat.le_of_ble_eq_true rfl) rfl ?_
  intro p e s m args below meth c A C H locs hs ls hl
  obtain ⟨hx, hb, hml, hown, hts, hK, hret, hlk⟩ := id C
  have hl : lv_has ls 3 [(0, .ref (ad 0))] := hl
  unfold X5_findBare at hf
  refine lv_aload_n hx hb (dk hX5_findBare_0 0 rfl) rfl (lv_at hl 0 rfl) ?_
  refine lv_bipush (v := (-9 : Int32)) hx hb (dk hX5_findBare_0 1 rfl) (by decide) ?_
  refine rp (w1 := (wM G ad refused there used hidden kind figure good load inn tape letter letterAt told kept row costs ships coughs day away taped reading statements hasImage isKeeping cursor backs free goodFor loadedWhen (-9 : Int32) bareWhen rowMany lots)) tyX5 tyX5_ok nmX5 ui5 rfl C hs 0 rfl 28 (by decide) tw_718 rfl rfl rfl rfl (Nat.le_of_ble_eq_true rfl) rfl (dk hX5_findBare_0 2 rfl) (fun H locs hs => ?_)
  refine lv_aload_n hx hb (dk hX5_findBare_0 3 rfl) rfl (lv_at hl 0 rfl) ?_
  refine lv_bipush (v := (-9 : Int32)) hx hb (dk hX5_findBare_0 4 rfl) (by decide) ?_
  refine rp (w1 := (wM G ad refused there used hidden kind figure good load inn tape letter letterAt told kept row costs ships coughs day away taped reading statements hasImage isKeeping cursor backs free goodFor loadedWhen (-9 : Int32) (-9 : Int32) rowMany lots)) tyX5 tyX5_ok nmX5 ui5 rfl C hs 0 rfl 29 (by decide) tw_719 rfl rfl rfl rfl (Nat.le_of_ble_eq_true rfl) rfl (dk hX5_findBare_0 5 rfl) (fun H locs hs => ?_)
  refine lv_aload_n hx hb (dk hX5_findBare_0 6 rfl) rfl (lv_at hl 0 rfl) ?_
  obtain ⟨u_1, e_2, hf⟩ := Option.bind_eq_some_iff.mp hf
  refine Ct.V (As := []) (rest := []) (st1 := []) (w1 := (wM G ad refused u_1.1 u_1.2.1 u_1.2.2.1 u_1.2.2.2.1 u_1.2.2.2.2.1 u_1.2.2.2.2.2.1 u_1.2.2.2.2.2.2.1 u_1.2.2.2.2.2.2.2.1 tape letter letterAt told u_1.2.2.2.2.2.2.2.2.1 row costs u_1.2.2.2.2.2.2.2.2.2.1 u_1.2.2.2.2.2.2.2.2.2.2.1 u_1.2.2.2.2.2.2.2.2.2.2.2.1 away taped reading statements hasImage u_1.2.2.2.2.2.2.2.2.2.2.2.2.1 u_1.2.2.2.2.2.2.2.2.2.2.2.2.2 backs free goodFor loadedWhen (-9 : Int32) (-9 : Int32) rowMany lots)) C hs (c_X5_thinks e_2) tw_993 tw_995 tw_51 tw_85 tw_996 nq_X5_thinks (by decide) 0 5 rfl rfl rfl rfl hl.1 rfl (Nat.le_of_ble_eq_true rfl) (dk hX5_findBare_0 7 rfl) ⟨Nat.zero_le _, Nat.zero_le _⟩ rfl (fun H locs hs => ?_)
  refine lv_iconst (v := (0 : Int32)) hx hb (dk hX5_findBare_0 8 rfl) (by decide) ?_
  refine lv_istore_n (lv' := [(1, .int (0 : Int32)), (0, .ref (ad 0))]) hx hb (dk hX5_findBare_0 9 rfl) rfl hl (by decide) rfl (fun ls hl => ?_)
  refine l_X5_findBare_L18 C 1000 _ _ _ _ _ _ _ hf _ _ hs _ (lv_sub hl [1, 0] rfl) (fun there_10 inn_11 coughs_12 day_13 bareGood_14 bareWhen_15 hf H locs hs ls hl => ?_)
  refine lv_aload_n hx hb (dk hX5_findBare_1 6 rfl) rfl (lv_at hl 0 rfl) ?_
  obtain ⟨u_16, e_17, hf⟩ := Option.bind_eq_some_iff.mp hf
  refine Ct.V (As := []) (rest := []) (st1 := []) (w1 := (wM G ad refused u_16.1 u_16.2.1 u_16.2.2.1 u_16.2.2.2.1 u_16.2.2.2.2.1 u_16.2.2.2.2.2.1 u_16.2.2.2.2.2.2.1 u_16.2.2.2.2.2.2.2.1 tape letter letterAt told u_16.2.2.2.2.2.2.2.2.1 row costs u_16.2.2.2.2.2.2.2.2.2.1 u_16.2.2.2.2.2.2.2.2.2.2.1 u_16.2.2.2.2.2.2.2.2.2.2.2.1 away taped reading statements hasImage u_16.2.2.2.2.2.2.2.2.2.2.2.2.1 u_16.2.2.2.2.2.2.2.2.2.2.2.2.2 backs free goodFor loadedWhen bareGood_14 bareWhen_15 rowMany lots)) C hs (c_X5_forgets e_17) tw_997 tw_999 tw_52 tw_85 tw_1000 nq_X5_forgets (by decide) 0 5 rfl rfl rfl rfl hl.1 rfl (Nat.le_of_ble_eq_true rfl) (dk hX5_findBare_1 7 rfl) ⟨Nat.zero_le _, Nat.zero_le _⟩ rfl (fun H locs hs => ?_)
  cases hf
  exact rv C hs (dk hX5_findBare_1 8 rfl)

def X5_bare (refused : List Int32) (there : List Int32) (used : List Int32) (hidden : List Int32) (kind : List Int32) (figure : List Int32) (good : List Int32) (load : List Int32) (inn : List Int32) (kept : List Int32) (ships : Int32) (coughs : Int32) (day : Int32) (away : Int32) (isKeeping : Int32) (cursor : Int32) (free : Int32) (bareGood : Int32) (bareWhen : Int32) (p0 : Int32) : Option (List Int32 × List Int32 × List Int32 × List Int32 × List Int32 × List Int32 × List Int32 × List Int32 × List Int32 × List Int32 × Int32 × Int32 × Int32 × Int32 × Int32 × Int32 × Int32 × Int32) :=
  (X5_isIn p0 (0 : Int32) (1 : Int32)).bind fun u_1 =>
  if u_1 = (0 : Int32) then
  (X5_no refused (-2 : Int32)).bind fun u_5 =>
  some (u_5.1, there, used, hidden, kind, figure, good, load, inn, kept, ships, coughs, day, isKeeping, cursor, bareGood, bareWhen, u_5.2)
  else
  (X5_findBare there used hidden kind figure good load inn kept ships coughs day away isKeeping cursor free bareGood bareWhen).bind fun u_3 =>
  if p0 = (0 : Int32) then
  some (refused, u_3.1, u_3.2.1, u_3.2.2.1, u_3.2.2.2.1, u_3.2.2.2.2.1, u_3.2.2.2.2.2.1, u_3.2.2.2.2.2.2.1, u_3.2.2.2.2.2.2.2.1, u_3.2.2.2.2.2.2.2.2.1, u_3.2.2.2.2.2.2.2.2.2.1, u_3.2.2.2.2.2.2.2.2.2.2.1, u_3.2.2.2.2.2.2.2.2.2.2.2.1, u_3.2.2.2.2.2.2.2.2.2.2.2.2.1, u_3.2.2.2.2.2.2.2.2.2.2.2.2.2.1, u_3.2.2.2.2.2.2.2.2.2.2.2.2.2.2.1, u_3.2.2.2.2.2.2.2.2.2.2.2.2.2.2.2, u_3.2.2.2.2.2.2.2.2.2.2.2.2.2.2.1)
  else
  some (refused, u_3.1, u_3.2.1, u_3.2.2.1, u_3.2.2.2.1, u_3.2.2.2.2.1, u_3.2.2.2.2.2.1, u_3.2.2.2.2.2.2.1, u_3.2.2.2.2.2.2.2.1, u_3.2.2.2.2.2.2.2.2.1, u_3.2.2.2.2.2.2.2.2.2.1, u_3.2.2.2.2.2.2.2.2.2.2.1, u_3.2.2.2.2.2.2.2.2.2.2.2.1, u_3.2.2.2.2.2.2.2.2.2.2.2.2.1, u_3.2.2.2.2.2.2.2.2.2.2.2.2.2.1, u_3.2.2.2.2.2.2.2.2.2.2.2.2.2.2.1, u_3.2.2.2.2.2.2.2.2.2.2.2.2.2.2.2, u_3.2.2.2.2.2.2.2.2.2.2.2.2.2.2.2)
set_option maxRecDepth 100000 in
set_option maxHeartbeats 4000000 in
theorem c_X5_bare {l : Launch} {G : Gx} {ad : Nat → Nat} {refused there used hidden kind figure good load inn tape letter letterAt told kept row costs : List Int32} {ships coughs day away taped reading statements hasImage isKeeping cursor backs free goodFor loadedWhen bareGood bareWhen rowMany lots : Int32} {p0 : Int32} {out : List Int32 × List Int32 × List Int32 × List Int32 × List Int32 × List Int32 × List Int32 × List Int32 × List Int32 × List Int32 × Int32 × Int32 × Int32 × Int32 × Int32 × Int32 × Int32 × Int32} (hf : X5_bare refused there used hidden kind figure good load inn kept ships coughs day away isKeeping cursor free bareGood bareWhen p0 = some out) : Ct l G yX5_bare cX5_bare 2 (some .int) 7 151 [.ref (ad 0), .int p0] (wM G ad refused there used hidden kind figure good load inn tape letter letterAt told kept row costs ships coughs day away taped reading statements hasImage isKeeping cursor backs free goodFor loadedWhen bareGood bareWhen rowMany lots) (some (.int out.2.2.2.2.2.2.2.2.2.2.2.2.2.2.2.2.2)) (wM G ad out.1 out.2.1 out.2.2.1 out.2.2.2.1 out.2.2.2.2.1 out.2.2.2.2.2.1 out.2.2.2.2.2.2.1 out.2.2.2.2.2.2.2.1 out.2.2.2.2.2.2.2.2.1 tape letter letterAt told out.2.2.2.2.2.2.2.2.2.1 row costs out.2.2.2.2.2.2.2.2.2.2.1 out.2.2.2.2.2.2.2.2.2.2.2.1 out.2.2.2.2.2.2.2.2.2.2.2.2.1 away taped reading statements hasImage out.2.2.2.2.2.2.2.2.2.2.2.2.2.1 out.2.2.2.2.2.2.2.2.2.2.2.2.2.2.1 backs free goodFor loadedWhen out.2.2.2.2.2.2.2.2.2.2.2.2.2.2.2.1 out.2.2.2.2.2.2.2.2.2.2.2.2.2.2.2.2.1 rowMany lots) := by
  refine Ct.intro RX5 rfl (plainFor_of_name (by decide)) (Nat.le_of_ble_eq_true rfl) rfl ?_
  intro p e s m args below meth c A C H locs hs ls hl
  obtain ⟨hx, hb, hml, hown, hts, hK, hret, hlk⟩ := id C
  have hl : lv_has ls 2 [(0, .ref (ad 0)), (1, .int p0)] := hl
  unfold X5_bare at hf
  refine lv_iload_n hx hb (dk hX5_bare_0 0 rfl) rfl (lv_at hl 1 rfl) ?_
  refine lv_iconst (v := (0 : Int32)) hx hb (dk hX5_bare_0 1 rfl) (by decide) ?_
  refine lv_iconst (v := (1 : Int32)) hx hb (dk hX5_bare_0 2 rfl) (by decide) ?_
  obtain ⟨u_1, e_2, hf⟩ := Option.bind_eq_some_iff.mp hf
  refine Ct.S (As := [.int p0, .int (0 : Int32), .int (1 : Int32)]) (rest := []) (st1 := [.int u_1]) (w1 := (wM G ad refused there used hidden kind figure good load inn tape letter letterAt told kept row costs ships coughs day away taped reading statements hasImage isKeeping cursor backs free goodFor loadedWhen bareGood bareWhen rowMany lots)) C hs (c_X5_isIn e_2) tw_824 tw_825 tw_85 tw_826 nq_X5_isIn (by decide) rfl hl.1 rfl (Nat.le_of_ble_eq_true rfl) (dk hX5_bare_0 3 rfl) ⟨Nat.zero_le _, Nat.zero_le _⟩ rfl (fun H locs hs => ?_)
  refine lv_if_ne (tgt := 16) hx hb (dk hX5_bare_0 4 rfl) (by decide) (fun hc => ?_) (fun hc => ?_)
  · replace hf := in_ hf hc
    refine lv_aload_n hx hb (dk hX5_bare_0 9 rfl) rfl (lv_at hl 0 rfl) ?_
    obtain ⟨u_3, e_4, hf⟩ := Option.bind_eq_some_iff.mp hf
    refine Ct.V (As := []) (rest := []) (st1 := []) (w1 := (wM G ad refused u_3.1 u_3.2.1 u_3.2.2.1 u_3.2.2.2.1 u_3.2.2.2.2.1 u_3.2.2.2.2.2.1 u_3.2.2.2.2.2.2.1 u_3.2.2.2.2.2.2.2.1 tape letter letterAt told u_3.2.2.2.2.2.2.2.2.1 row costs u_3.2.2.2.2.2.2.2.2.2.1 u_3.2.2.2.2.2.2.2.2.2.2.1 u_3.2.2.2.2.2.2.2.2.2.2.2.1 away taped reading statements hasImage u_3.2.2.2.2.2.2.2.2.2.2.2.2.1 u_3.2.2.2.2.2.2.2.2.2.2.2.2.2.1 backs free goodFor loadedWhen u_3.2.2.2.2.2.2.2.2.2.2.2.2.2.2.1 u_3.2.2.2.2.2.2.2.2.2.2.2.2.2.2.2 rowMany lots)) C hs (c_X5_findBare e_4) tw_1089 tw_1091 tw_65 tw_85 tw_1092 nq_X5_findBare (by decide) 0 5 rfl rfl rfl rfl hl.1 rfl (Nat.le_of_ble_eq_true rfl) (dk hX5_bare_0 10 rfl) ⟨Nat.zero_le _, Nat.zero_le _⟩ rfl (fun H locs hs => ?_)
    refine lv_iload_n hx hb (dk hX5_bare_0 11 rfl) rfl (lv_at hl 1 rfl) ?_
    refine lv_if_ne (tgt := 31) hx hb (dk hX5_bare_0 12 rfl) (by decide) (fun hc => ?_) (fun hc => ?_)
    · replace hf := in_ hf hc
      refine lv_aload_n hx hb (dk hX5_bare_0 16 rfl) rfl (lv_at hl 0 rfl) ?_
      refine rg ui5 rfl C hs 0 rfl 29 (by decide) tw_719 rfl rfl (dk hX5_bare_0 17 rfl) ?_
      cases hf
      exact ri C hs (dk hX5_bare_0 18 rfl)
    · replace hf := ip hf hc
      refine lv_aload_n hx hb (dk hX5_bare_0 13 rfl) rfl (lv_at hl 0 rfl) ?_
      refine rg ui5 rfl C hs 0 rfl 28 (by decide) tw_718 rfl rfl (dk hX5_bare_0 14 rfl) ?_
      refine lv_goto (tgt := 35) hx hb (dk hX5_bare_0 15 rfl) (by decide) ?_
      cases hf
      exact ri C hs (dk hX5_bare_0 18 rfl)
  · replace hf := ip hf hc
    refine lv_aload_n hx hb (dk hX5_bare_0 5 rfl) rfl (lv_at hl 0 rfl) ?_
    refine lv_bipush (v := (-2 : Int32)) hx hb (dk hX5_bare_0 6 rfl) (by decide) ?_
    obtain ⟨u_5, e_6, hf⟩ := Option.bind_eq_some_iff.mp hf
    refine Ct.V (As := [.int (-2 : Int32)]) (rest := []) (st1 := [.int u_5.2]) (w1 := (wM G ad u_5.1 there used hidden kind figure good load inn tape letter letterAt told kept row costs ships coughs day away taped reading statements hasImage isKeeping cursor backs free goodFor loadedWhen bareGood bareWhen rowMany lots)) C hs (c_X5_no e_6) tw_800 tw_802 tw_21 tw_85 tw_803 nq_X5_no (by decide) 0 5 rfl rfl rfl rfl hl.1 rfl (Nat.le_of_ble_eq_true rfl) (dk hX5_bare_0 7 rfl) ⟨Nat.zero_le _, Nat.zero_le _⟩ rfl (fun H locs hs => ?_)
    cases hf
    exact ri C hs (dk hX5_bare_0 8 rfl)

def X5_lasts (refused : List Int32) (there : List Int32) (used : List Int32) (p0 : Int32) : Option (List Int32 × Int32) :=
  (X5_isGood p0).bind fun u_1 =>
  if u_1 = (0 : Int32) then
  (X5_no refused (-1 : Int32)).bind fun u_13 =>
  some (u_13.1, u_13.2)
  else
  (rd used p0).bind fun v_3 =>
  if v_3 = (0 : Int32) then
  some (refused, (99 : Int32))
  else
  (rd there p0).bind fun v_5 =>
  (rd used p0).bind fun v_7 =>
  (rd used p0).bind fun v_9 =>
  if v_9 = 0 then none else
  (X5_held (((v_5 + v_7) - (1 : Int32)) / v_9) (0 : Int32) (99 : Int32)).bind fun u_11 =>
  some (refused, u_11)
set_option maxRecDepth 100000 in
set_option maxHeartbeats 4000000 in
theorem c_X5_lasts {l : Launch} {G : Gx} {ad : Nat → Nat} {refused there used hidden kind figure good load inn tape letter letterAt told kept row costs : List Int32} {ships coughs day away taped reading statements hasImage isKeeping cursor backs free goodFor loadedWhen bareGood bareWhen rowMany lots : Int32} {p0 : Int32} {out : List Int32 × Int32} (hf : X5_lasts refused there used p0 = some out) : Ct l G yX5_lasts cX5_lasts 2 (some .int) 1 22 [.ref (ad 0), .int p0] (wM G ad refused there used hidden kind figure good load inn tape letter letterAt told kept row costs ships coughs day away taped reading statements hasImage isKeeping cursor backs free goodFor loadedWhen bareGood bareWhen rowMany lots) (some (.int out.2)) (wM G ad out.1 there used hidden kind figure good load inn tape letter letterAt told kept row costs ships coughs day away taped reading statements hasImage isKeeping cursor backs free goodFor loadedWhen bareGood bareWhen rowMany lots) := by
  refine Ct.intro RX5 rfl (plainFor_of_name (by decide)) (Nat.le_of_ble_eq_true rfl) rfl ?_
  intro p e s m args below meth c A C H locs hs ls hl
  obtain ⟨hx, hb, hml, hown, hts, hK, hret, hlk⟩ := id C
  have hl : lv_has ls 2 [(0, .ref (ad 0)), (1, .int p0)] := hl
  unfold X5_lasts at hf
  refine lv_iload_n hx hb (dk hX5_lasts_0 0 rfl) rfl (lv_at hl 1 rfl) ?_
  obtain ⟨u_1, e_2, hf⟩ := Option.bind_eq_some_iff.mp hf
  refine Ct.S (As := [.int p0]) (rest := []) (st1 := [.int u_1]) (w1 := (wM G ad refused there used hidden kind figure good load inn tape letter letterAt told kept row costs ships coughs day away taped reading statements hasImage isKeeping cursor backs free goodFor loadedWhen bareGood bareWhen rowMany lots)) C hs (c_X5_isGood e_2) tw_847 tw_848 tw_85 tw_849 nq_X5_isGood (by decide) rfl hl.1 rfl (Nat.le_of_ble_eq_true rfl) (dk hX5_lasts_0 1 rfl) ⟨Nat.zero_le _, Nat.zero_le _⟩ rfl (fun H locs hs => ?_)
  refine lv_if_ne (tgt := 13) hx hb (dk hX5_lasts_0 2 rfl) (by decide) (fun hc => ?_) (fun hc => ?_)
  · replace hf := in_ hf hc
    refine lv_aload_n hx hb (dk hX5_lasts_0 7 rfl) rfl (lv_at hl 0 rfl) ?_
    refine rg ui5 rfl C hs 0 rfl 2 (by decide) tw_692 rfl rfl (dk hX5_lasts_0 8 rfl) ?_
    refine lv_iload_n hx hb (dk hX5_lasts_0 9 rfl) rfl (lv_at hl 1 rfl) ?_
    obtain ⟨v_3, e_4, hf⟩ := Option.bind_eq_some_iff.mp hf
    refine rild C hs 3 rfl e_4 (dk hX5_lasts_0 10 rfl) ?_
    refine lv_if_ne (tgt := 27) hx hb (dk hX5_lasts_0 11 rfl) (by decide) (fun hc => ?_) (fun hc => ?_)
    · replace hf := in_ hf hc
      refine lv_aload_n hx hb (dk hX5_lasts_0 14 rfl) rfl (lv_at hl 0 rfl) ?_
      refine rg ui5 rfl C hs 0 rfl 1 (by decide) tw_691 rfl rfl (dk hX5_lasts_0 15 rfl) ?_
      refine lv_iload_n hx hb (dk hX5_lasts_0 16 rfl) rfl (lv_at hl 1 rfl) ?_
      obtain ⟨v_5, e_6, hf⟩ := Option.bind_eq_some_iff.mp hf
      refine rild C hs 2 rfl e_6 (dk hX5_lasts_0 17 rfl) ?_
      refine lv_aload_n hx hb (dk hX5_lasts_0 18 rfl) rfl (lv_at hl 0 rfl) ?_
      refine rg ui5 rfl C hs 0 rfl 2 (by decide) tw_692 rfl rfl (dk hX5_lasts_0 19 rfl) ?_
      refine lv_iload_n hx hb (dk hX5_lasts_0 20 rfl) rfl (lv_at hl 1 rfl) ?_
      obtain ⟨v_7, e_8, hf⟩ := Option.bind_eq_some_iff.mp hf
      refine rild C hs 3 rfl e_8 (dk hX5_lasts_0 21 rfl) ?_
      refine lv_iadd hx hb (dk hX5_lasts_0 22 rfl) ?_
      refine lv_iconst (v := (1 : Int32)) hx hb (dk hX5_lasts_0 23 rfl) (by decide) ?_
      refine lv_isub hx hb (dk hX5_lasts_0 24 rfl) ?_
      refine lv_aload_n hx hb (dk hX5_lasts_0 25 rfl) rfl (lv_at hl 0 rfl) ?_
      refine rg ui5 rfl C hs 0 rfl 2 (by decide) tw_692 rfl rfl (dk hX5_lasts_0 26 rfl) ?_
      refine lv_iload_n hx hb (dk hX5_lasts_0 27 rfl) rfl (lv_at hl 1 rfl) ?_
      obtain ⟨v_9, e_10, hf⟩ := Option.bind_eq_some_iff.mp hf
      refine rild C hs 3 rfl e_10 (dk hX5_lasts_0 28 rfl) ?_
      obtain ⟨hne, hf⟩ := idn hf
      refine lv_idiv hx hb (dk hX5_lasts_0 29 rfl) hne ?_
      refine lv_iconst (v := (0 : Int32)) hx hb (dk hX5_lasts_0 30 rfl) (by decide) ?_
      refine lv_bipush (v := (99 : Int32)) hx hb (dk hX5_lasts_0 31 rfl) (by decide) ?_
      obtain ⟨u_11, e_12, hf⟩ := Option.bind_eq_some_iff.mp hf
      refine Ct.S (As := [.int (((v_5 + v_7) - (1 : Int32)) / v_9), .int (0 : Int32), .int (99 : Int32)]) (rest := []) (st1 := [.int u_11]) (w1 := (wM G ad refused there used hidden kind figure good load inn tape letter letterAt told kept row costs ships coughs day away taped reading statements hasImage isKeeping cursor backs free goodFor loadedWhen bareGood bareWhen rowMany lots)) C hs (c_X5_held e_12) tw_912 tw_913 tw_85 tw_914 nq_X5_held (by decide) rfl hl.1 rfl (Nat.le_of_ble_eq_true rfl) (dk hX5_lasts_0 32 rfl) ⟨Nat.zero_le _, Nat.zero_le _⟩ rfl (fun H locs hs => ?_)
      cases hf
      exact ri C hs (dk hX5_lasts_0 33 rfl)
    · replace hf := ip hf hc
      refine lv_bipush (v := (99 : Int32)) hx hb (dk hX5_lasts_0 12 rfl) (by decide) ?_
      refine lv_goto (tgt := 55) hx hb (dk hX5_lasts_0 13 rfl) (by decide) ?_
      cases hf
      exact ri C hs (dk hX5_lasts_0 33 rfl)
  · replace hf := ip hf hc
    refine lv_aload_n hx hb (dk hX5_lasts_0 3 rfl) rfl (lv_at hl 0 rfl) ?_
    refine lv_iconst (v := (-1 : Int32)) hx hb (dk hX5_lasts_0 4 rfl) (by decide) ?_
    obtain ⟨u_13, e_14, hf⟩ := Option.bind_eq_some_iff.mp hf
    refine Ct.V (As := [.int (-1 : Int32)]) (rest := []) (st1 := [.int u_13.2]) (w1 := (wM G ad u_13.1 there used hidden kind figure good load inn tape letter letterAt told kept row costs ships coughs day away taped reading statements hasImage isKeeping cursor backs free goodFor loadedWhen bareGood bareWhen rowMany lots)) C hs (c_X5_no e_14) tw_800 tw_802 tw_21 tw_85 tw_803 nq_X5_no (by decide) 0 5 rfl rfl rfl rfl hl.1 rfl (Nat.le_of_ble_eq_true rfl) (dk hX5_lasts_0 5 rfl) ⟨Nat.zero_le _, Nat.zero_le _⟩ rfl (fun H locs hs => ?_)
    cases hf
    exact ri C hs (dk hX5_lasts_0 6 rfl)

def X5_best_L28 (k : Int32 → List Int32 → List Int32 → List Int32 → List Int32 → List Int32 → List Int32 → List Int32 → List Int32 → List Int32 → Int32 → Int32 → Int32 → Int32 → Int32 → Int32 → Option (List Int32 × List Int32 × List Int32 × List Int32 × List Int32 × List Int32 × List Int32 × List Int32 × List Int32 × List Int32 × Int32 × Int32 × Int32 × Int32 × Int32 × Int32 × Int32)) (free : Int32) (x1 : Int32) : Nat → Int32 → Int32 → Int32 → List Int32 → List Int32 → List Int32 → List Int32 → List Int32 → List Int32 → List Int32 → List Int32 → List Int32 → Int32 → Int32 → Int32 → Int32 → Int32 → Int32 → Option (List Int32 × List Int32 × List Int32 × List Int32 × List Int32 × List Int32 × List Int32 × List Int32 × List Int32 × List Int32 × Int32 × Int32 × Int32 × Int32 × Int32 × Int32 × Int32)
  | 0, _, _, _, _, _, _, _, _, _, _, _, _, _, _, _, _, _, _ => none
  | n + 1, x3, x4, x5, there, used, hidden, kind, figure, good, load, inn, kept, ships, coughs, day, away, isKeeping, cursor =>
  if ships ≤ x5 then
  k x3 there used hidden kind figure good load inn kept ships coughs day away isKeeping cursor
  else
  (rd inn x5).bind fun v_5 =>
  if v_5 = (0 : Int32) then
  (X5_wantIn there used hidden kind figure good load inn kept ships coughs day ((1 : Int32) <<< (x5 &&& 31)) isKeeping cursor free x1).bind fun u_9 =>
  if x4 < u_9.2.2.2.2.2.2.2.2.2.2.2.2.2.2 then
  X5_best_L28 k free x1 n x5 u_9.2.2.2.2.2.2.2.2.2.2.2.2.2.2 (x5 + (1 : Int32)) u_9.1 u_9.2.1 u_9.2.2.1 u_9.2.2.2.1 u_9.2.2.2.2.1 u_9.2.2.2.2.2.1 u_9.2.2.2.2.2.2.1 u_9.2.2.2.2.2.2.2.1 u_9.2.2.2.2.2.2.2.2.1 u_9.2.2.2.2.2.2.2.2.2.1 u_9.2.2.2.2.2.2.2.2.2.2.1 u_9.2.2.2.2.2.2.2.2.2.2.2.1 (0 : Int32) u_9.2.2.2.2.2.2.2.2.2.2.2.2.1 u_9.2.2.2.2.2.2.2.2.2.2.2.2.2.1
  else
  X5_best_L28 k free x1 n x3 x4 (x5 + (1 : Int32)) u_9.1 u_9.2.1 u_9.2.2.1 u_9.2.2.2.1 u_9.2.2.2.2.1 u_9.2.2.2.2.2.1 u_9.2.2.2.2.2.2.1 u_9.2.2.2.2.2.2.2.1 u_9.2.2.2.2.2.2.2.2.1 u_9.2.2.2.2.2.2.2.2.2.1 u_9.2.2.2.2.2.2.2.2.2.2.1 u_9.2.2.2.2.2.2.2.2.2.2.2.1 (0 : Int32) u_9.2.2.2.2.2.2.2.2.2.2.2.2.1 u_9.2.2.2.2.2.2.2.2.2.2.2.2.2.1
  else
  (X5_wantIn there used hidden kind figure good load inn kept ships coughs day (0 : Int32) isKeeping cursor free x1).bind fun u_7 =>
  if x4 < u_7.2.2.2.2.2.2.2.2.2.2.2.2.2.2 then
  X5_best_L28 k free x1 n x5 u_7.2.2.2.2.2.2.2.2.2.2.2.2.2.2 (x5 + (1 : Int32)) u_7.1 u_7.2.1 u_7.2.2.1 u_7.2.2.2.1 u_7.2.2.2.2.1 u_7.2.2.2.2.2.1 u_7.2.2.2.2.2.2.1 u_7.2.2.2.2.2.2.2.1 u_7.2.2.2.2.2.2.2.2.1 u_7.2.2.2.2.2.2.2.2.2.1 u_7.2.2.2.2.2.2.2.2.2.2.1 u_7.2.2.2.2.2.2.2.2.2.2.2.1 (0 : Int32) u_7.2.2.2.2.2.2.2.2.2.2.2.2.1 u_7.2.2.2.2.2.2.2.2.2.2.2.2.2.1
  else
  X5_best_L28 k free x1 n x3 x4 (x5 + (1 : Int32)) u_7.1 u_7.2.1 u_7.2.2.1 u_7.2.2.2.1 u_7.2.2.2.2.1 u_7.2.2.2.2.2.1 u_7.2.2.2.2.2.2.1 u_7.2.2.2.2.2.2.2.1 u_7.2.2.2.2.2.2.2.2.1 u_7.2.2.2.2.2.2.2.2.2.1 u_7.2.2.2.2.2.2.2.2.2.2.1 u_7.2.2.2.2.2.2.2.2.2.2.2.1 (0 : Int32) u_7.2.2.2.2.2.2.2.2.2.2.2.2.1 u_7.2.2.2.2.2.2.2.2.2.2.2.2.2.1
def X5_best (refused : List Int32) (there : List Int32) (used : List Int32) (hidden : List Int32) (kind : List Int32) (figure : List Int32) (good : List Int32) (load : List Int32) (inn : List Int32) (kept : List Int32) (ships : Int32) (coughs : Int32) (day : Int32) (away : Int32) (isKeeping : Int32) (cursor : Int32) (free : Int32) (p0 : Int32) : Option (List Int32 × List Int32 × List Int32 × List Int32 × List Int32 × List Int32 × List Int32 × List Int32 × List Int32 × List Int32 × Int32 × Int32 × Int32 × Int32 × Int32 × Int32 × Int32) :=
  (X5_notDays p0).bind fun u_1 =>
  if u_1 = (0 : Int32) then
  (X5_wantIn there used hidden kind figure good load inn kept ships coughs day away isKeeping cursor free p0).bind fun u_3 =>
  X5_best_L28 (fun y3_11 there_12 used_13 hidden_14 kind_15 figure_16 good_17 load_18 inn_19 kept_20 ships_21 coughs_22 day_23 away_24 isKeeping_25 cursor_26 =>
  some (refused, there_12, used_13, hidden_14, kind_15, figure_16, good_17, load_18, inn_19, kept_20, ships_21, coughs_22, day_23, away_24, isKeeping_25, cursor_26, y3_11)) free p0 1000 (-9 : Int32) u_3.2.2.2.2.2.2.2.2.2.2.2.2.2.2 (0 : Int32) u_3.1 u_3.2.1 u_3.2.2.1 u_3.2.2.2.1 u_3.2.2.2.2.1 u_3.2.2.2.2.2.1 u_3.2.2.2.2.2.2.1 u_3.2.2.2.2.2.2.2.1 u_3.2.2.2.2.2.2.2.2.1 u_3.2.2.2.2.2.2.2.2.2.1 u_3.2.2.2.2.2.2.2.2.2.2.1 u_3.2.2.2.2.2.2.2.2.2.2.2.1 away u_3.2.2.2.2.2.2.2.2.2.2.2.2.1 u_3.2.2.2.2.2.2.2.2.2.2.2.2.2.1
  else
  (X5_no refused u_1).bind fun u_27 =>
  some (u_27.1, there, used, hidden, kind, figure, good, load, inn, kept, ships, coughs, day, away, isKeeping, cursor, u_27.2)
set_option maxRecDepth 100000 in
set_option maxHeartbeats 4000000 in
theorem l_X5_best_L28 {l : Launch} {p : Program} {e : Env} {s : State} {m : MethodId} {args : Array Value} {below : List Frame} {meth : Method} {c : Code} {A : Nat → Prop} {G : Gx} {ad : Nat → Nat} {refused tape letter letterAt told row costs : List Int32} {taped reading statements hasImage backs free goodFor loadedWhen bareGood bareWhen rowMany lots : Int32} {x1 : Int32} {k : Int32 → List Int32 → List Int32 → List Int32 → List Int32 → List Int32 → List Int32 → List Int32 → List Int32 → List Int32 → Int32 → Int32 → Int32 → Int32 → Int32 → Int32 → Option (List Int32 × List Int32 × List Int32 × List Int32 × List Int32 × List Int32 × List Int32 × List Int32 × List Int32 × List Int32 × Int32 × Int32 × Int32 × Int32 × Int32 × Int32 × Int32)} {out : List Int32 × List Int32 × List Int32 × List Int32 × List Int32 × List Int32 × List Int32 × List Int32 × List Int32 × List Int32 × Int32 × Int32 × Int32 × Int32 × Int32 × Int32 × Int32} (C : Cx p s m args meth c cX5_best RX5 7 (some .int) G) : ∀ (n : Nat) (x3 : Int32) (x4 : Int32) (x5 : Int32) (there : List Int32) (used : List Int32) (hidden : List Int32) (kind : List Int32) (figure : List Int32) (good : List Int32) (load : List Int32) (inn : List Int32) (kept : List Int32) (ships : Int32) (coughs : Int32) (day : Int32) (away : Int32) (isKeeping : Int32) (cursor : Int32), X5_best_L28 k free x1 n x3 x4 x5 there used hidden kind figure good load inn kept ships coughs day away isKeeping cursor = some out → ∀ (H : Heap) (locs : List Loc), St G A s.heap H locs (wM G ad refused there used hidden kind figure good load inn tape letter letterAt told kept row costs ships coughs day away taped reading statements hasImage isKeeping cursor backs free goodFor loadedWhen bareGood bareWhen rowMany lots) → ∀ ls : Array Slot, lv_has ls 7 [(0, .ref (ad 0)), (1, .int x1), (3, .int x3), (4, .int x4), (5, .int x5)] → (∀ (y3 : Int32) (z_there : List Int32) (z_used : List Int32) (z_hidden : List Int32) (z_kind : List Int32) (z_figure : List Int32) (z_good : List Int32) (z_load : List Int32) (z_inn : List Int32) (z_kept : List Int32) (z_ships : Int32) (z_coughs : Int32) (z_day : Int32) (z_away : Int32) (z_isKeeping : Int32) (z_cursor : Int32), k y3 z_there z_used z_hidden z_kind z_figure z_good z_load z_inn z_kept z_ships z_coughs z_day z_away z_isKeeping z_cursor = some out → ∀ (H : Heap) (locs : List Loc), St G A s.heap H locs (wM G ad refused z_there z_used z_hidden z_kind z_figure z_good z_load z_inn tape letter letterAt told z_kept row costs z_ships z_coughs z_day z_away taped reading statements hasImage z_isKeeping z_cursor backs free goodFor loadedWhen bareGood bareWhen rowMany lots) → ∀ ls : Array Slot, lv_has ls 7 [(3, .int y3)] → W p l e (rmOf 7 152) s m args below meth c H locs 0 0 (MQ below (Qof G A (some (.int out.2.2.2.2.2.2.2.2.2.2.2.2.2.2.2.2)) (wM G ad out.1 out.2.1 out.2.2.1 out.2.2.2.1 out.2.2.2.2.1 out.2.2.2.2.2.1 out.2.2.2.2.2.2.1 out.2.2.2.2.2.2.2.1 out.2.2.2.2.2.2.2.2.1 tape letter letterAt told out.2.2.2.2.2.2.2.2.2.1 row costs out.2.2.2.2.2.2.2.2.2.2.1 out.2.2.2.2.2.2.2.2.2.2.2.1 out.2.2.2.2.2.2.2.2.2.2.2.2.1 out.2.2.2.2.2.2.2.2.2.2.2.2.2.1 taped reading statements hasImage out.2.2.2.2.2.2.2.2.2.2.2.2.2.2.1 out.2.2.2.2.2.2.2.2.2.2.2.2.2.2.2.1 backs free goodFor loadedWhen bareGood bareWhen rowMany lots)) args s 0 0 A) (F0 m 94 ls [])) → W p l e (rmOf 7 152) s m args below meth c H locs 0 0 (MQ below (Qof G A (some (.int out.2.2.2.2.2.2.2.2.2.2.2.2.2.2.2.2)) (wM G ad out.1 out.2.1 out.2.2.1 out.2.2.2.1 out.2.2.2.2.1 out.2.2.2.2.2.1 out.2.2.2.2.2.2.1 out.2.2.2.2.2.2.2.1 out.2.2.2.2.2.2.2.2.1 tape letter letterAt told out.2.2.2.2.2.2.2.2.2.1 row costs out.2.2.2.2.2.2.2.2.2.2.1 out.2.2.2.2.2.2.2.2.2.2.2.1 out.2.2.2.2.2.2.2.2.2.2.2.2.1 out.2.2.2.2.2.2.2.2.2.2.2.2.2.1 taped reading statements hasImage out.2.2.2.2.2.2.2.2.2.2.2.2.2.2.1 out.2.2.2.2.2.2.2.2.2.2.2.2.2.2.2.1 backs free goodFor loadedWhen bareGood bareWhen rowMany lots)) args s 0 0 A) (F0 m 28 ls []) := by
  obtain ⟨hx, hb, hml, hown, hts, hK, hret, hlk⟩ := id C
  intro n
  induction n with
  | zero => intro x3 x4 x5 there used hidden kind figure good load inn kept ships coughs day away isKeeping cursor hf; cases hf
  | succ n ih =>
    intro x3 x4 x5 there used hidden kind figure good load inn kept ships coughs day away isKeeping cursor hf H locs hs ls hl hk
    rw [X5_best_L28] at hf
    refine lv_iload hx hb (dk hX5_best_0 17 rfl) (lv_at hl 4 rfl) ?_
    refine lv_aload_n hx hb (dk hX5_best_0 18 rfl) rfl (lv_at hl 0 rfl) ?_
    refine rg ui5 rfl C hs 0 rfl 9 (by decide) tw_699 rfl rfl (dk hX5_best_0 19 rfl) ?_
    refine lv_icmp_ge (tgt := 94) hx hb (dk hX5_best_0 20 rfl) (by decide) (fun hc => ?_) (fun hc => ?_)
    · replace hf := ip hf hc
      exact hk _ _ _ _ _ _ _ _ _ _ _ _ _ _ _ _ hf _ _ hs _ (lv_sub hl [2] rfl)
    · replace hf := in_ hf hc
      refine lv_aload_n hx hb (dk hX5_best_0 21 rfl) rfl (lv_at hl 0 rfl) ?_
      refine lv_aload_n hx hb (dk hX5_best_0 22 rfl) rfl (lv_at hl 0 rfl) ?_
      refine rg ui5 rfl C hs 0 rfl 8 (by decide) tw_698 rfl rfl (dk hX5_best_0 23 rfl) ?_
      refine lv_iload hx hb (dk hX5_best_0 24 rfl) (lv_at hl 4 rfl) ?_
      obtain ⟨v_5, e_6, hf⟩ := Option.bind_eq_some_iff.mp hf
      refine rild C hs 9 rfl e_6 (dk hX5_best_0 25 rfl) ?_
      refine lv_if_ne (tgt := 55) hx hb (dk hX5_best_0 26 rfl) (by decide) (fun hc => ?_) (fun hc => ?_)
      · replace hf := in_ hf hc
        refine lv_iconst (v := (0 : Int32)) hx hb (dk hX5_best_0 31 rfl) (by decide) ?_
        refine rp (w1 := (wM G ad refused there used hidden kind figure good load inn tape letter letterAt told kept row costs ships coughs day (0 : Int32) taped reading statements hasImage isKeeping cursor backs free goodFor loadedWhen bareGood bareWhen rowMany lots)) tyX5 tyX5_ok nmX5 ui5 rfl C hs 0 rfl 12 (by decide) tw_702 rfl rfl rfl rfl (Nat.le_of_ble_eq_true rfl) rfl (dk hX5_best_0 32 rfl) (fun H locs hs => ?_)
        refine lv_aload_n hx hb (dk hX5_best_0 33 rfl) rfl (lv_at hl 0 rfl) ?_
        refine lv_iload_n hx hb (dk hX5_best_0 34 rfl) rfl (lv_at hl 1 rfl) ?_
        obtain ⟨u_7, e_8, hf⟩ := Option.bind_eq_some_iff.mp hf
        refine Ct.V (As := [.int x1]) (rest := []) (st1 := [.int u_7.2.2.2.2.2.2.2.2.2.2.2.2.2.2]) (w1 := (wM G ad refused u_7.1 u_7.2.1 u_7.2.2.1 u_7.2.2.2.1 u_7.2.2.2.2.1 u_7.2.2.2.2.2.1 u_7.2.2.2.2.2.2.1 u_7.2.2.2.2.2.2.2.1 tape letter letterAt told u_7.2.2.2.2.2.2.2.2.1 row costs u_7.2.2.2.2.2.2.2.2.2.1 u_7.2.2.2.2.2.2.2.2.2.2.1 u_7.2.2.2.2.2.2.2.2.2.2.2.1 (0 : Int32) taped reading statements hasImage u_7.2.2.2.2.2.2.2.2.2.2.2.2.1 u_7.2.2.2.2.2.2.2.2.2.2.2.2.2.1 backs free goodFor loadedWhen bareGood bareWhen rowMany lots)) C hs (c_X5_wantIn e_8) tw_1077 tw_1079 tw_63 tw_85 tw_1080 nq_X5_wantIn (by decide) 0 5 rfl rfl rfl rfl hl.1 rfl (Nat.le_of_ble_eq_true rfl) (dk hX5_best_0 35 rfl) ⟨Nat.zero_le _, Nat.zero_le _⟩ rfl (fun H locs hs => ?_)
        refine lv_istore (lv' := [(6, .int u_7.2.2.2.2.2.2.2.2.2.2.2.2.2.2), (0, .ref (ad 0)), (1, .int x1), (3, .int x3), (4, .int x4), (5, .int x5)]) hx hb (dk hX5_best_0 36 rfl) hl (by decide) rfl (fun ls hl => ?_)
        refine lv_aload_n hx hb (dk hX5_best_0 37 rfl) rfl (lv_at hl 1 rfl) ?_
        refine lv_iconst (v := (0 : Int32)) hx hb (dk hX5_best_0 38 rfl) (by decide) ?_
        refine rp (w1 := (wM G ad refused u_7.1 u_7.2.1 u_7.2.2.1 u_7.2.2.2.1 u_7.2.2.2.2.1 u_7.2.2.2.2.2.1 u_7.2.2.2.2.2.2.1 u_7.2.2.2.2.2.2.2.1 tape letter letterAt told u_7.2.2.2.2.2.2.2.2.1 row costs u_7.2.2.2.2.2.2.2.2.2.1 u_7.2.2.2.2.2.2.2.2.2.2.1 u_7.2.2.2.2.2.2.2.2.2.2.2.1 (0 : Int32) taped reading statements hasImage u_7.2.2.2.2.2.2.2.2.2.2.2.2.1 u_7.2.2.2.2.2.2.2.2.2.2.2.2.2.1 backs free goodFor loadedWhen bareGood bareWhen rowMany lots)) tyX5 tyX5_ok nmX5 ui5 rfl C hs 0 rfl 12 (by decide) tw_702 rfl rfl rfl rfl (Nat.le_of_ble_eq_true rfl) rfl (dk hX5_best_0 39 rfl) (fun H locs hs => ?_)
        refine lv_iload hx hb (dk hX5_best_1 0 rfl) (lv_at hl 0 rfl) ?_
        refine lv_iload hx hb (dk hX5_best_1 1 rfl) (lv_at hl 4 rfl) ?_
        refine lv_icmp_gt (tgt := 81) hx hb (dk hX5_best_1 2 rfl) (by decide) (fun hc => ?_) (fun hc => ?_)
        · replace hf := ip hf hc
          refine lv_iload hx hb (dk hX5_best_1 4 rfl) (lv_at hl 5 rfl) ?_
          refine lv_istore_n (lv' := [(3, .int x5), (6, .int u_7.2.2.2.2.2.2.2.2.2.2.2.2.2.2), (0, .ref (ad 0)), (1, .int x1), (4, .int x4), (5, .int x5)]) hx hb (dk hX5_best_1 5 rfl) rfl hl (by decide) rfl (fun ls hl => ?_)
          refine lv_iload hx hb (dk hX5_best_1 6 rfl) (lv_at hl 1 rfl) ?_
          refine lv_istore (lv' := [(4, .int u_7.2.2.2.2.2.2.2.2.2.2.2.2.2.2), (3, .int x5), (6, .int u_7.2.2.2.2.2.2.2.2.2.2.2.2.2.2), (0, .ref (ad 0)), (1, .int x1), (5, .int x5)]) hx hb (dk hX5_best_1 7 rfl) hl (by decide) rfl (fun ls hl => ?_)
          refine lv_iinc (v := (x5 + (1 : Int32))) (lv' := [(5, .int (x5 + (1 : Int32))), (4, .int u_7.2.2.2.2.2.2.2.2.2.2.2.2.2.2), (3, .int x5), (6, .int u_7.2.2.2.2.2.2.2.2.2.2.2.2.2.2), (0, .ref (ad 0)), (1, .int x1)]) hx hb (dk hX5_best_1 8 rfl) hl (k := 5) rfl (by first | rfl | decide) (by decide) rfl (fun ls hl => ?_)
          refine lv_goto (tgt := 28) hx hb (dk hX5_best_1 9 rfl) (by decide) ?_
          exact ih _ _ _ _ _ _ _ _ _ _ _ _ _ _ _ _ _ _ hf _ _ hs _ (lv_sub hl [4, 5, 2, 1, 0] rfl) hk
        · replace hf := in_ hf hc
          refine lv_goto (tgt := 88) hx hb (dk hX5_best_1 3 rfl) (by decide) ?_
          refine lv_iinc (v := (x5 + (1 : Int32))) (lv' := [(5, .int (x5 + (1 : Int32))), (6, .int u_7.2.2.2.2.2.2.2.2.2.2.2.2.2.2), (0, .ref (ad 0)), (1, .int x1), (3, .int x3), (4, .int x4)]) hx hb (dk hX5_best_1 8 rfl) hl (k := 5) rfl (by first | rfl | decide) (by decide) rfl (fun ls hl => ?_)
          refine lv_goto (tgt := 28) hx hb (dk hX5_best_1 9 rfl) (by decide) ?_
          exact ih _ _ _ _ _ _ _ _ _ _ _ _ _ _ _ _ _ _ hf _ _ hs _ (lv_sub hl [2, 3, 4, 5, 0] rfl) hk
      · replace hf := ip hf hc
        refine lv_iconst (v := (1 : Int32)) hx hb (dk hX5_best_0 27 rfl) (by decide) ?_
        refine lv_iload hx hb (dk hX5_best_0 28 rfl) (lv_at hl 4 rfl) ?_
        refine lv_ishl hx hb (dk hX5_best_0 29 rfl) ?_
        refine lv_goto (tgt := 56) hx hb (dk hX5_best_0 30 rfl) (by decide) ?_
        refine rp (w1 := (wM G ad refused there used hidden kind figure good load inn tape letter letterAt told kept row costs ships coughs day ((1 : Int32) <<< (x5 &&& 31)) taped reading statements hasImage isKeeping cursor backs free goodFor loadedWhen bareGood bareWhen rowMany lots)) tyX5 tyX5_ok nmX5 ui5 rfl C hs 0 rfl 12 (by decide) tw_702 rfl rfl rfl rfl (Nat.le_of_ble_eq_true rfl) rfl (dk hX5_best_0 32 rfl) (fun H locs hs => ?_)
        refine lv_aload_n hx hb (dk hX5_best_0 33 rfl) rfl (lv_at hl 0 rfl) ?_
        refine lv_iload_n hx hb (dk hX5_best_0 34 rfl) rfl (lv_at hl 1 rfl) ?_
        obtain ⟨u_9, e_10, hf⟩ := Option.bind_eq_some_iff.mp hf
        refine Ct.V (As := [.int x1]) (rest := []) (st1 := [.int u_9.2.2.2.2.2.2.2.2.2.2.2.2.2.2]) (w1 := (wM G ad refused u_9.1 u_9.2.1 u_9.2.2.1 u_9.2.2.2.1 u_9.2.2.2.2.1 u_9.2.2.2.2.2.1 u_9.2.2.2.2.2.2.1 u_9.2.2.2.2.2.2.2.1 tape letter letterAt told u_9.2.2.2.2.2.2.2.2.1 row costs u_9.2.2.2.2.2.2.2.2.2.1 u_9.2.2.2.2.2.2.2.2.2.2.1 u_9.2.2.2.2.2.2.2.2.2.2.2.1 ((1 : Int32) <<< (x5 &&& 31)) taped reading statements hasImage u_9.2.2.2.2.2.2.2.2.2.2.2.2.1 u_9.2.2.2.2.2.2.2.2.2.2.2.2.2.1 backs free goodFor loadedWhen bareGood bareWhen rowMany lots)) C hs (c_X5_wantIn e_10) tw_1077 tw_1079 tw_63 tw_85 tw_1080 nq_X5_wantIn (by decide) 0 5 rfl rfl rfl rfl hl.1 rfl (Nat.le_of_ble_eq_true rfl) (dk hX5_best_0 35 rfl) ⟨Nat.zero_le _, Nat.zero_le _⟩ rfl (fun H locs hs => ?_)
        refine lv_istore (lv' := [(6, .int u_9.2.2.2.2.2.2.2.2.2.2.2.2.2.2), (0, .ref (ad 0)), (1, .int x1), (3, .int x3), (4, .int x4), (5, .int x5)]) hx hb (dk hX5_best_0 36 rfl) hl (by decide) rfl (fun ls hl => ?_)
        refine lv_aload_n hx hb (dk hX5_best_0 37 rfl) rfl (lv_at hl 1 rfl) ?_
        refine lv_iconst (v := (0 : Int32)) hx hb (dk hX5_best_0 38 rfl) (by decide) ?_
        refine rp (w1 := (wM G ad refused u_9.1 u_9.2.1 u_9.2.2.1 u_9.2.2.2.1 u_9.2.2.2.2.1 u_9.2.2.2.2.2.1 u_9.2.2.2.2.2.2.1 u_9.2.2.2.2.2.2.2.1 tape letter letterAt told u_9.2.2.2.2.2.2.2.2.1 row costs u_9.2.2.2.2.2.2.2.2.2.1 u_9.2.2.2.2.2.2.2.2.2.2.1 u_9.2.2.2.2.2.2.2.2.2.2.2.1 (0 : Int32) taped reading statements hasImage u_9.2.2.2.2.2.2.2.2.2.2.2.2.1 u_9.2.2.2.2.2.2.2.2.2.2.2.2.2.1 backs free goodFor loadedWhen bareGood bareWhen rowMany lots)) tyX5 tyX5_ok nmX5 ui5 rfl C hs 0 rfl 12 (by decide) tw_702 rfl rfl rfl rfl (Nat.le_of_ble_eq_true rfl) rfl (dk hX5_best_0 39 rfl) (fun H locs hs => ?_)
        refine lv_iload hx hb (dk hX5_best_1 0 rfl) (lv_at hl 0 rfl) ?_
        refine lv_iload hx hb (dk hX5_best_1 1 rfl) (lv_at hl 4 rfl) ?_
        refine lv_icmp_gt (tgt := 81) hx hb (dk hX5_best_1 2 rfl) (by decide) (fun hc => ?_) (fun hc => ?_)
        · replace hf := ip hf hc
          refine lv_iload hx hb (dk hX5_best_1 4 rfl) (lv_at hl 5 rfl) ?_
          refine lv_istore_n (lv' := [(3, .int x5), (6, .int u_9.2.2.2.2.2.2.2.2.2.2.2.2.2.2), (0, .ref (ad 0)), (1, .int x1), (4, .int x4), (5, .int x5)]) hx hb (dk hX5_best_1 5 rfl) rfl hl (by decide) rfl (fun ls hl => ?_)
          refine lv_iload hx hb (dk hX5_best_1 6 rfl) (lv_at hl 1 rfl) ?_
          refine lv_istore (lv' := [(4, .int u_9.2.2.2.2.2.2.2.2.2.2.2.2.2.2), (3, .int x5), (6, .int u_9.2.2.2.2.2.2.2.2.2.2.2.2.2.2), (0, .ref (ad 0)), (1, .int x1), (5, .int x5)]) hx hb (dk hX5_best_1 7 rfl) hl (by decide) rfl (fun ls hl => ?_)
          refine lv_iinc (v := (x5 + (1 : Int32))) (lv' := [(5, .int (x5 + (1 : Int32))), (4, .int u_9.2.2.2.2.2.2.2.2.2.2.2.2.2.2), (3, .int x5), (6, .int u_9.2.2.2.2.2.2.2.2.2.2.2.2.2.2), (0, .ref (ad 0)), (1, .int x1)]) hx hb (dk hX5_best_1 8 rfl) hl (k := 5) rfl (by first | rfl | decide) (by decide) rfl (fun ls hl => ?_)
          refine lv_goto (tgt := 28) hx hb (dk hX5_best_1 9 rfl) (by decide) ?_
          exact ih _ _ _ _ _ _ _ _ _ _ _ _ _ _ _ _ _ _ hf _ _ hs _ (lv_sub hl [4, 5, 2, 1, 0] rfl) hk
        · replace hf := in_ hf hc
          refine lv_goto (tgt := 88) hx hb (dk hX5_best_1 3 rfl) (by decide) ?_
          refine lv_iinc (v := (x5 + (1 : Int32))) (lv' := [(5, .int (x5 + (1 : Int32))), (6, .int u_9.2.2.2.2.2.2.2.2.2.2.2.2.2.2), (0, .ref (ad 0)), (1, .int x1), (3, .int x3), (4, .int x4)]) hx hb (dk hX5_best_1 8 rfl) hl (k := 5) rfl (by first | rfl | decide) (by decide) rfl (fun ls hl => ?_)
          refine lv_goto (tgt := 28) hx hb (dk hX5_best_1 9 rfl) (by decide) ?_
          exact ih _ _ _ _ _ _ _ _ _ _ _ _ _ _ _ _ _ _ hf _ _ hs _ (lv_sub hl [2, 3, 4, 5, 0] rfl) hk
set_option maxRecDepth 100000 in
set_option maxHeartbeats 4000000 in
theorem c_X5_best {l : Launch} {G : Gx} {ad : Nat → Nat} {refused there used hidden kind figure good load inn tape letter letterAt told kept row costs : List Int32} {ships coughs day away taped reading statements hasImage isKeeping cursor backs free goodFor loadedWhen bareGood bareWhen rowMany lots : Int32} {p0 : Int32} {out : List Int32 × List Int32 × List Int32 × List Int32 × List Int32 × List Int32 × List Int32 × List Int32 × List Int32 × List Int32 × Int32 × Int32 × Int32 × Int32 × Int32 × Int32 × Int32} (hf : X5_best refused there used hidden kind figure good load inn kept ships coughs day away isKeeping cursor free p0 = some out) : Ct l G yX5_best cX5_best 7 (some .int) 7 152 [.ref (ad 0), .int p0] (wM G ad refused there used hidden kind figure good load inn tape letter letterAt told kept row costs ships coughs day away taped reading statements hasImage isKeeping cursor backs free goodFor loadedWhen bareGood bareWhen rowMany lots) (some (.int out.2.2.2.2.2.2.2.2.2.2.2.2.2.2.2.2)) (wM G ad out.1 out.2.1 out.2.2.1 out.2.2.2.1 out.2.2.2.2.1 out.2.2.2.2.2.1 out.2.2.2.2.2.2.1 out.2.2.2.2.2.2.2.1 out.2.2.2.2.2.2.2.2.1 tape letter letterAt told out.2.2.2.2.2.2.2.2.2.1 row costs out.2.2.2.2.2.2.2.2.2.2.1 out.2.2.2.2.2.2.2.2.2.2.2.1 out.2.2.2.2.2.2.2.2.2.2.2.2.1 out.2.2.2.2.2.2.2.2.2.2.2.2.2.1 taped reading statements hasImage out.2.2.2.2.2.2.2.2.2.2.2.2.2.2.1 out.2.2.2.2.2.2.2.2.2.2.2.2.2.2.2.1 backs free goodFor loadedWhen bareGood bareWhen rowMany lots) := by
  refine Ct.intro RX5 rfl (plainFor_of_name (by decide)) (Nat.le_of_ble_eq_true rfl) rfl ?_
  intro p e s m args below meth c A C H locs hs ls hl
  obtain ⟨hx, hb, hml, hown, hts, hK, hret, hlk⟩ := id C
  have hl : lv_has ls 7 [(0, .ref (ad 0)), (1, .int p0)] := hl
  unfold X5_best at hf
  refine lv_iload_n hx hb (dk hX5_best_0 0 rfl) rfl (lv_at hl 1 rfl) ?_
  obtain ⟨u_1, e_2, hf⟩ := Option.bind_eq_some_iff.mp hf
  refine Ct.S (As := [.int p0]) (rest := []) (st1 := [.int u_1]) (w1 := (wM G ad refused there used hidden kind figure good load inn tape letter letterAt told kept row costs ships coughs day away taped reading statements hasImage isKeeping cursor backs free goodFor loadedWhen bareGood bareWhen rowMany lots)) C hs (c_X5_notDays e_2) tw_990 tw_991 tw_85 tw_992 nq_X5_notDays (by decide) rfl hl.1 rfl (Nat.le_of_ble_eq_true rfl) (dk hX5_best_0 1 rfl) ⟨Nat.zero_le _, Nat.zero_le _⟩ rfl (fun H locs hs => ?_)
  refine lv_istore_n (lv' := [(2, .int u_1), (0, .ref (ad 0)), (1, .int p0)]) hx hb (dk hX5_best_0 2 rfl) rfl hl (by decide) rfl (fun ls hl => ?_)
  refine lv_iload_n hx hb (dk hX5_best_0 3 rfl) rfl (lv_at hl 0 rfl) ?_
  refine lv_if_eq (tgt := 15) hx hb (dk hX5_best_0 4 rfl) (by decide) (fun hc => ?_) (fun hc => ?_)
  · replace hf := ip hf hc
    refine lv_bipush (v := (-9 : Int32)) hx hb (dk hX5_best_0 9 rfl) (by decide) ?_
    refine lv_istore_n (lv' := [(3, .int (-9 : Int32)), (2, .int u_1), (0, .ref (ad 0)), (1, .int p0)]) hx hb (dk hX5_best_0 10 rfl) rfl hl (by decide) rfl (fun ls hl => ?_)
    refine lv_aload_n hx hb (dk hX5_best_0 11 rfl) rfl (lv_at hl 2 rfl) ?_
    refine lv_iload_n hx hb (dk hX5_best_0 12 rfl) rfl (lv_at hl 3 rfl) ?_
    obtain ⟨u_3, e_4, hf⟩ := Option.bind_eq_some_iff.mp hf
    refine Ct.V (As := [.int p0]) (rest := []) (st1 := [.int u_3.2.2.2.2.2.2.2.2.2.2.2.2.2.2]) (w1 := (wM G ad refused u_3.1 u_3.2.1 u_3.2.2.1 u_3.2.2.2.1 u_3.2.2.2.2.1 u_3.2.2.2.2.2.1 u_3.2.2.2.2.2.2.1 u_3.2.2.2.2.2.2.2.1 tape letter letterAt told u_3.2.2.2.2.2.2.2.2.1 row costs u_3.2.2.2.2.2.2.2.2.2.1 u_3.2.2.2.2.2.2.2.2.2.2.1 u_3.2.2.2.2.2.2.2.2.2.2.2.1 away taped reading statements hasImage u_3.2.2.2.2.2.2.2.2.2.2.2.2.1 u_3.2.2.2.2.2.2.2.2.2.2.2.2.2.1 backs free goodFor loadedWhen bareGood bareWhen rowMany lots)) C hs (c_X5_wantIn e_4) tw_1077 tw_1079 tw_63 tw_85 tw_1080 nq_X5_wantIn (by decide) 0 5 rfl rfl rfl rfl hl.1 rfl (Nat.le_of_ble_eq_true rfl) (dk hX5_best_0 13 rfl) ⟨Nat.zero_le _, Nat.zero_le _⟩ rfl (fun H locs hs => ?_)
    refine lv_istore (lv' := [(4, .int u_3.2.2.2.2.2.2.2.2.2.2.2.2.2.2), (3, .int (-9 : Int32)), (2, .int u_1), (0, .ref (ad 0)), (1, .int p0)]) hx hb (dk hX5_best_0 14 rfl) hl (by decide) rfl (fun ls hl => ?_)
    refine lv_iconst (v := (0 : Int32)) hx hb (dk hX5_best_0 15 rfl) (by decide) ?_
    refine lv_istore (lv' := [(5, .int (0 : Int32)), (4, .int u_3.2.2.2.2.2.2.2.2.2.2.2.2.2.2), (3, .int (-9 : Int32)), (2, .int u_1), (0, .ref (ad 0)), (1, .int p0)]) hx hb (dk hX5_best_0 16 rfl) hl (by decide) rfl (fun ls hl => ?_)
    refine l_X5_best_L28 C 1000 _ _ _ _ _ _ _ _ _ _ _ _ _ _ _ _ _ _ hf _ _ hs _ (lv_sub hl [4, 5, 2, 1, 0] rfl) (fun y3_11 there_12 used_13 hidden_14 kind_15 figure_16 good_17 load_18 inn_19 kept_20 ships_21 coughs_22 day_23 away_24 isKeeping_25 cursor_26 hf H locs hs ls hl => ?_)
    refine lv_iload_n hx hb (dk hX5_best_1 10 rfl) rfl (lv_at hl 0 rfl) ?_
    cases hf
    exact ri C hs (dk hX5_best_1 11 rfl)
  · replace hf := in_ hf hc
    refine lv_aload_n hx hb (dk hX5_best_0 5 rfl) rfl (lv_at hl 1 rfl) ?_
    refine lv_iload_n hx hb (dk hX5_best_0 6 rfl) rfl (lv_at hl 0 rfl) ?_
    obtain ⟨u_27, e_28, hf⟩ := Option.bind_eq_some_iff.mp hf
    refine Ct.V (As := [.int u_1]) (rest := []) (st1 := [.int u_27.2]) (w1 := (wM G ad u_27.1 there used hidden kind figure good load inn tape letter letterAt told kept row costs ships coughs day away taped reading statements hasImage isKeeping cursor backs free goodFor loadedWhen bareGood bareWhen rowMany lots)) C hs (c_X5_no e_28) tw_800 tw_802 tw_21 tw_85 tw_803 nq_X5_no (by decide) 0 5 rfl rfl rfl rfl hl.1 rfl (Nat.le_of_ble_eq_true rfl) (dk hX5_best_0 7 rfl) ⟨Nat.zero_le _, Nat.zero_le _⟩ rfl (fun H locs hs => ?_)
    cases hf
    exact ri C hs (dk hX5_best_0 8 rfl)

def X5_isTownSo_L8 (k : Int32 → List Int32 → List Int32 → Int32 → Int32 → Option (List Int32 × List Int32 × List Int32 × List Int32 × List Int32 × List Int32 × List Int32 × List Int32 × List Int32 × Int32 × Int32 × Int32 × Int32 × Int32 × Int32)) (used : List Int32) (hidden : List Int32) (kind : List Int32) (figure : List Int32) (good : List Int32) (load : List Int32) (row : List Int32) (ships : Int32) (away : Int32) (free : Int32) (rowMany : Int32) : Nat → Int32 → Int32 → List Int32 → List Int32 → Int32 → Int32 → Option (List Int32 × List Int32 × List Int32 × List Int32 × List Int32 × List Int32 × List Int32 × List Int32 × List Int32 × Int32 × Int32 × Int32 × Int32 × Int32 × Int32)
  | 0, _, _, _, _, _, _ => none
  | n + 1, x1, x2, there, inn, coughs, day =>
  if rowMany ≤ x2 then
  k x1 there inn coughs day
  else
  if x1 = (0 : Int32) then
  k x1 there inn coughs day
  else
  (X5_inOnes inn ships).bind fun u_3 =>
  (X5_bits u_3).bind fun u_5 =>
  (rd row x2).bind fun v_7 =>
  if u_5 = v_7 then
  (X5_goesDay there used hidden kind figure good load inn ships coughs day away free (0 : Int32)).bind fun u_11 =>
  X5_isTownSo_L8 k used hidden kind figure good load row ships away free rowMany n (1 : Int32) (x2 + (1 : Int32)) u_11.1 u_11.2.1 u_11.2.2.1 u_11.2.2.2
  else
  (X5_goesDay there used hidden kind figure good load inn ships coughs day away free (0 : Int32)).bind fun u_9 =>
  X5_isTownSo_L8 k used hidden kind figure good load row ships away free rowMany n (0 : Int32) (x2 + (1 : Int32)) u_9.1 u_9.2.1 u_9.2.2.1 u_9.2.2.2
def X5_isTownSo (there : List Int32) (used : List Int32) (hidden : List Int32) (kind : List Int32) (figure : List Int32) (good : List Int32) (load : List Int32) (inn : List Int32) (kept : List Int32) (row : List Int32) (ships : Int32) (coughs : Int32) (day : Int32) (away : Int32) (isKeeping : Int32) (cursor : Int32) (free : Int32) (rowMany : Int32) : Option (List Int32 × List Int32 × List Int32 × List Int32 × List Int32 × List Int32 × List Int32 × List Int32 × List Int32 × Int32 × Int32 × Int32 × Int32 × Int32 × Int32) :=
  (X5_thinks there used hidden kind figure good load inn kept ships coughs day isKeeping cursor).bind fun u_1 =>
  X5_isTownSo_L8 (fun y1_13 there_14 inn_15 coughs_16 day_17 =>
  (X5_forgets there_14 u_1.2.1 u_1.2.2.1 u_1.2.2.2.1 u_1.2.2.2.2.1 u_1.2.2.2.2.2.1 u_1.2.2.2.2.2.2.1 inn_15 u_1.2.2.2.2.2.2.2.2.1 u_1.2.2.2.2.2.2.2.2.2.1 coughs_16 day_17 u_1.2.2.2.2.2.2.2.2.2.2.2.2.1 u_1.2.2.2.2.2.2.2.2.2.2.2.2.2).bind fun u_18 =>
  (c01 y1_13).bind fun b_20 =>
  some (u_18.1, u_18.2.1, u_18.2.2.1, u_18.2.2.2.1, u_18.2.2.2.2.1, u_18.2.2.2.2.2.1, u_18.2.2.2.2.2.2.1, u_18.2.2.2.2.2.2.2.1, u_18.2.2.2.2.2.2.2.2.1, u_18.2.2.2.2.2.2.2.2.2.1, u_18.2.2.2.2.2.2.2.2.2.2.1, u_18.2.2.2.2.2.2.2.2.2.2.2.1, u_18.2.2.2.2.2.2.2.2.2.2.2.2.1, u_18.2.2.2.2.2.2.2.2.2.2.2.2.2, b_20)) u_1.2.1 u_1.2.2.1 u_1.2.2.2.1 u_1.2.2.2.2.1 u_1.2.2.2.2.2.1 u_1.2.2.2.2.2.2.1 row u_1.2.2.2.2.2.2.2.2.2.1 away free rowMany 1000 (1 : Int32) (0 : Int32) u_1.1 u_1.2.2.2.2.2.2.2.1 u_1.2.2.2.2.2.2.2.2.2.2.1 u_1.2.2.2.2.2.2.2.2.2.2.2.1
set_option maxRecDepth 100000 in
set_option maxHeartbeats 4000000 in
theorem l_X5_isTownSo_L8 {l : Launch} {p : Program} {e : Env} {s : State} {m : MethodId} {args : Array Value} {below : List Frame} {meth : Method} {c : Code} {A : Nat → Prop} {G : Gx} {ad : Nat → Nat} {refused used hidden kind figure good load tape letter letterAt told kept row costs : List Int32} {ships away taped reading statements hasImage isKeeping cursor backs free goodFor loadedWhen bareGood bareWhen rowMany lots : Int32} {k : Int32 → List Int32 → List Int32 → Int32 → Int32 → Option (List Int32 × List Int32 × List Int32 × List Int32 × List Int32 × List Int32 × List Int32 × List Int32 × List Int32 × Int32 × Int32 × Int32 × Int32 × Int32 × Int32)} {out : List Int32 × List Int32 × List Int32 × List Int32 × List Int32 × List Int32 × List Int32 × List Int32 × List Int32 × Int32 × Int32 × Int32 × Int32 × Int32 × Int32} (C : Cx p s m args meth c cX5_isTownSo RX5 3 (some .boolean) G) : ∀ (n : Nat) (x1 : Int32) (x2 : Int32) (there : List Int32) (inn : List Int32) (coughs : Int32) (day : Int32), X5_isTownSo_L8 k used hidden kind figure good load row ships away free rowMany n x1 x2 there inn coughs day = some out → ∀ (H : Heap) (locs : List Loc), St G A s.heap H locs (wM G ad refused there used hidden kind figure good load inn tape letter letterAt told kept row costs ships coughs day away taped reading statements hasImage isKeeping cursor backs free goodFor loadedWhen bareGood bareWhen rowMany lots) → ∀ ls : Array Slot, lv_has ls 3 [(0, .ref (ad 0)), (1, .int x1), (2, .int x2)] → (∀ (y1 : Int32) (z_there : List Int32) (z_inn : List Int32) (z_coughs : Int32) (z_day : Int32), k y1 z_there z_inn z_coughs z_day = some out → ∀ (H : Heap) (locs : List Loc), St G A s.heap H locs (wM G ad refused z_there used hidden kind figure good load z_inn tape letter letterAt told kept row costs ships z_coughs z_day away taped reading statements hasImage isKeeping cursor backs free goodFor loadedWhen bareGood bareWhen rowMany lots) → ∀ ls : Array Slot, lv_has ls 3 [(0, .ref (ad 0)), (1, .int y1)] → W p l e (rmOf 6 129) s m args below meth c H locs 0 0 (MQ below (Qof G A (some (.int out.2.2.2.2.2.2.2.2.2.2.2.2.2.2)) (wM G ad refused out.1 out.2.1 out.2.2.1 out.2.2.2.1 out.2.2.2.2.1 out.2.2.2.2.2.1 out.2.2.2.2.2.2.1 out.2.2.2.2.2.2.2.1 tape letter letterAt told out.2.2.2.2.2.2.2.2.1 row costs out.2.2.2.2.2.2.2.2.2.1 out.2.2.2.2.2.2.2.2.2.2.1 out.2.2.2.2.2.2.2.2.2.2.2.1 away taped reading statements hasImage out.2.2.2.2.2.2.2.2.2.2.2.2.1 out.2.2.2.2.2.2.2.2.2.2.2.2.2.1 backs free goodFor loadedWhen bareGood bareWhen rowMany lots)) args s 0 0 A) (F0 m 53 ls [])) → W p l e (rmOf 6 129) s m args below meth c H locs 0 0 (MQ below (Qof G A (some (.int out.2.2.2.2.2.2.2.2.2.2.2.2.2.2)) (wM G ad refused out.1 out.2.1 out.2.2.1 out.2.2.2.1 out.2.2.2.2.1 out.2.2.2.2.2.1 out.2.2.2.2.2.2.1 out.2.2.2.2.2.2.2.1 tape letter letterAt told out.2.2.2.2.2.2.2.2.1 row costs out.2.2.2.2.2.2.2.2.2.1 out.2.2.2.2.2.2.2.2.2.2.1 out.2.2.2.2.2.2.2.2.2.2.2.1 away taped reading statements hasImage out.2.2.2.2.2.2.2.2.2.2.2.2.1 out.2.2.2.2.2.2.2.2.2.2.2.2.2.1 backs free goodFor loadedWhen bareGood bareWhen rowMany lots)) args s 0 0 A) (F0 m 8 ls []) := by
  obtain ⟨hx, hb, hml, hown, hts, hK, hret, hlk⟩ := id C
  intro n
  induction n with
  | zero => intro x1 x2 there inn coughs day hf; cases hf
  | succ n ih =>
    intro x1 x2 there inn coughs day hf H locs hs ls hl hk
    rw [X5_isTownSo_L8] at hf
    refine lv_iload_n hx hb (dk hX5_isTownSo_0 6 rfl) rfl (lv_at hl 2 rfl) ?_
    refine lv_aload_n hx hb (dk hX5_isTownSo_0 7 rfl) rfl (lv_at hl 0 rfl) ?_
    refine rg ui5 rfl C hs 0 rfl 31 (by decide) tw_721 rfl rfl (dk hX5_isTownSo_0 8 rfl) ?_
    refine lv_icmp_ge (tgt := 53) hx hb (dk hX5_isTownSo_0 9 rfl) (by decide) (fun hc => ?_) (fun hc => ?_)
    · replace hf := ip hf hc
      exact hk _ _ _ _ _ hf _ _ hs _ (lv_sub hl [0, 1] rfl)
    · replace hf := in_ hf hc
      refine lv_iload_n hx hb (dk hX5_isTownSo_0 10 rfl) rfl (lv_at hl 1 rfl) ?_
      refine lv_if_eq (tgt := 53) hx hb (dk hX5_isTownSo_0 11 rfl) (by decide) (fun hc => ?_) (fun hc => ?_)
      · replace hf := ip hf hc
        exact hk _ _ _ _ _ hf _ _ hs _ (lv_sub hl [0, 1] rfl)
      · replace hf := in_ hf hc
        refine lv_aload_n hx hb (dk hX5_isTownSo_0 12 rfl) rfl (lv_at hl 0 rfl) ?_
        obtain ⟨u_3, e_4, hf⟩ := Option.bind_eq_some_iff.mp hf
        refine Ct.V (As := []) (rest := []) (st1 := [.int u_3]) (w1 := (wM G ad refused there used hidden kind figure good load inn tape letter letterAt told kept row costs ships coughs day away taped reading statements hasImage isKeeping cursor backs free goodFor loadedWhen bareGood bareWhen rowMany lots)) C hs (c_X5_inOnes e_4) tw_979 tw_981 tw_50 tw_85 tw_982 nq_X5_inOnes (by decide) 0 5 rfl rfl rfl rfl hl.1 rfl (Nat.le_of_ble_eq_true rfl) (dk hX5_isTownSo_0 13 rfl) ⟨Nat.zero_le _, Nat.zero_le _⟩ rfl (fun H locs hs => ?_)
        obtain ⟨u_5, e_6, hf⟩ := Option.bind_eq_some_iff.mp hf
        refine Ct.S (As := [.int u_3]) (rest := []) (st1 := [.int u_5]) (w1 := (wM G ad refused there used hidden kind figure good load inn tape letter letterAt told kept row costs ships coughs day away taped reading statements hasImage isKeeping cursor backs free goodFor loadedWhen bareGood bareWhen rowMany lots)) C hs (c_X5_bits e_6) tw_983 tw_984 tw_85 tw_985 nq_X5_bits (by decide) rfl hl.1 rfl (Nat.le_of_ble_eq_true rfl) (dk hX5_isTownSo_0 14 rfl) ⟨Nat.zero_le _, Nat.zero_le _⟩ rfl (fun H locs hs => ?_)
        refine lv_aload_n hx hb (dk hX5_isTownSo_0 15 rfl) rfl (lv_at hl 0 rfl) ?_
        refine rg ui5 rfl C hs 0 rfl 30 (by decide) tw_720 rfl rfl (dk hX5_isTownSo_0 16 rfl) ?_
        refine lv_iload_n hx hb (dk hX5_isTownSo_0 17 rfl) rfl (lv_at hl 2 rfl) ?_
        obtain ⟨v_7, e_8, hf⟩ := Option.bind_eq_some_iff.mp hf
        refine rild C hs 15 rfl e_8 (dk hX5_isTownSo_0 18 rfl) ?_
        refine lv_icmp_ne (tgt := 40) hx hb (dk hX5_isTownSo_0 19 rfl) (by decide) (fun hc => ?_) (fun hc => ?_)
        · replace hf := in_ hf hc
          refine lv_iconst (v := (0 : Int32)) hx hb (dk hX5_isTownSo_0 22 rfl) (by decide) ?_
          refine lv_istore_n (lv' := [(1, .int (0 : Int32)), (0, .ref (ad 0)), (2, .int x2)]) hx hb (dk hX5_isTownSo_0 23 rfl) rfl hl (by decide) rfl (fun ls hl => ?_)
          refine lv_aload_n hx hb (dk hX5_isTownSo_0 24 rfl) rfl (lv_at hl 1 rfl) ?_
          refine lv_iconst (v := (0 : Int32)) hx hb (dk hX5_isTownSo_0 25 rfl) (by decide) ?_
          obtain ⟨u_9, e_10, hf⟩ := Option.bind_eq_some_iff.mp hf
          refine Ct.V (As := [.int (0 : Int32)]) (rest := []) (st1 := []) (w1 := (wM G ad refused u_9.1 used hidden kind figure good load u_9.2.1 tape letter letterAt told kept row costs ships u_9.2.2.1 u_9.2.2.2 away taped reading statements hasImage isKeeping cursor backs free goodFor loadedWhen bareGood bareWhen rowMany lots)) C hs (c_X5_goesDay e_10) tw_866 tw_868 tw_35 tw_85 tw_869 nq_X5_goesDay (by decide) 0 5 rfl rfl rfl rfl hl.1 rfl (Nat.le_of_ble_eq_true rfl) (dk hX5_isTownSo_0 26 rfl) ⟨Nat.zero_le _, Nat.zero_le _⟩ rfl (fun H locs hs => ?_)
          refine lv_iinc (v := (x2 + (1 : Int32))) (lv' := [(2, .int (x2 + (1 : Int32))), (1, .int (0 : Int32)), (0, .ref (ad 0))]) hx hb (dk hX5_isTownSo_0 27 rfl) hl (k := 2) rfl (by first | rfl | decide) (by decide) rfl (fun ls hl => ?_)
          refine lv_goto (tgt := 8) hx hb (dk hX5_isTownSo_0 28 rfl) (by decide) ?_
          exact ih _ _ _ _ _ _ hf _ _ hs _ (lv_sub hl [2, 1, 0] rfl) hk
        · replace hf := ip hf hc
          refine lv_iconst (v := (1 : Int32)) hx hb (dk hX5_isTownSo_0 20 rfl) (by decide) ?_
          refine lv_goto (tgt := 41) hx hb (dk hX5_isTownSo_0 21 rfl) (by decide) ?_
          refine lv_istore_n (lv' := [(1, .int (1 : Int32)), (0, .ref (ad 0)), (2, .int x2)]) hx hb (dk hX5_isTownSo_0 23 rfl) rfl hl (by decide) rfl (fun ls hl => ?_)
          refine lv_aload_n hx hb (dk hX5_isTownSo_0 24 rfl) rfl (lv_at hl 1 rfl) ?_
          refine lv_iconst (v := (0 : Int32)) hx hb (dk hX5_isTownSo_0 25 rfl) (by decide) ?_
          obtain ⟨u_11, e_12, hf⟩ := Option.bind_eq_some_iff.mp hf
          refine Ct.V (As := [.int (0 : Int32)]) (rest := []) (st1 := []) (w1 := (wM G ad refused u_11.1 used hidden kind figure good load u_11.2.1 tape letter letterAt told kept row costs ships u_11.2.2.1 u_11.2.2.2 away taped reading statements hasImage isKeeping cursor backs free goodFor loadedWhen bareGood bareWhen rowMany lots)) C hs (c_X5_goesDay e_12) tw_866 tw_868 tw_35 tw_85 tw_869 nq_X5_goesDay (by decide) 0 5 rfl rfl rfl rfl hl.1 rfl (Nat.le_of_ble_eq_true rfl) (dk hX5_isTownSo_0 26 rfl) ⟨Nat.zero_le _, Nat.zero_le _⟩ rfl (fun H locs hs => ?_)
          refine lv_iinc (v := (x2 + (1 : Int32))) (lv' := [(2, .int (x2 + (1 : Int32))), (1, .int (1 : Int32)), (0, .ref (ad 0))]) hx hb (dk hX5_isTownSo_0 27 rfl) hl (k := 2) rfl (by first | rfl | decide) (by decide) rfl (fun ls hl => ?_)
          refine lv_goto (tgt := 8) hx hb (dk hX5_isTownSo_0 28 rfl) (by decide) ?_
          exact ih _ _ _ _ _ _ hf _ _ hs _ (lv_sub hl [2, 1, 0] rfl) hk
set_option maxRecDepth 100000 in
set_option maxHeartbeats 4000000 in
theorem c_X5_isTownSo {l : Launch} {G : Gx} {ad : Nat → Nat} {refused there used hidden kind figure good load inn tape letter letterAt told kept row costs : List Int32} {ships coughs day away taped reading statements hasImage isKeeping cursor backs free goodFor loadedWhen bareGood bareWhen rowMany lots : Int32}  {out : List Int32 × List Int32 × List Int32 × List Int32 × List Int32 × List Int32 × List Int32 × List Int32 × List Int32 × Int32 × Int32 × Int32 × Int32 × Int32 × Int32} (hf : X5_isTownSo there used hidden kind figure good load inn kept row ships coughs day away isKeeping cursor free rowMany = some out) : Ct l G yX5_isTownSo cX5_isTownSo 3 (some .boolean) 6 129 [.ref (ad 0)] (wM G ad refused there used hidden kind figure good load inn tape letter letterAt told kept row costs ships coughs day away taped reading statements hasImage isKeeping cursor backs free goodFor loadedWhen bareGood bareWhen rowMany lots) (some (.int out.2.2.2.2.2.2.2.2.2.2.2.2.2.2)) (wM G ad refused out.1 out.2.1 out.2.2.1 out.2.2.2.1 out.2.2.2.2.1 out.2.2.2.2.2.1 out.2.2.2.2.2.2.1 out.2.2.2.2.2.2.2.1 tape letter letterAt told out.2.2.2.2.2.2.2.2.1 row costs out.2.2.2.2.2.2.2.2.2.1 out.2.2.2.2.2.2.2.2.2.2.1 out.2.2.2.2.2.2.2.2.2.2.2.1 away taped reading statements hasImage out.2.2.2.2.2.2.2.2.2.2.2.2.1 out.2.2.2.2.2.2.2.2.2.2.2.2.2.1 backs free goodFor loadedWhen bareGood bareWhen rowMany lots) := by
  refine Ct.intro RX5 rfl (plainFor_of_name (by decide)) (Nat.le_of_ble_eq_true rfl) rfl ?_
  intro p e s m args below meth c A C H locs hs ls hl
  obtain ⟨hx, hb, hml, hown, hts, hK, hret, hlk⟩ := id C
  have hl : lv_has ls 3 [(0, .ref (ad 0))] := hl
  unfold X5_isTownSo at hf
  refine lv_aload_n hx hb (dk hX5_isTownSo_0 0 rfl) rfl (lv_at hl 0 rfl) ?_
  obtain ⟨u_1, e_2, hf⟩ := Option.bind_eq_some_iff.mp hf
  refine Ct.V (As := []) (rest := []) (st1 := []) (w1 := (wM G ad refused u_1.1 u_1.2.1 u_1.2.2.1 u_1.2.2.2.1 u_1.2.2.2.2.1 u_1.2.2.2.2.2.1 u_1.2.2.2.2.2.2.1 u_1.2.2.2.2.2.2.2.1 tape letter letterAt told u_1.2.2.2.2.2.2.2.2.1 row costs u_1.2.2.2.2.2.2.2.2.2.1 u_1.2.2.2.2.2.2.2.2.2.2.1 u_1.2.2.2.2.2.2.2.2.2.2.2.1 away taped reading statements hasImage u_1.2.2.2.2.2.2.2.2.2.2.2.2.1 u_1.2.2.2.2.2.2.2.2.2.2.2.2.2 backs free goodFor loadedWhen bareGood bareWhen rowMany lots)) C hs (c_X5_thinks e_2) tw_993 tw_995 tw_51 tw_85 tw_996 nq_X5_thinks (by decide) 0 5 rfl rfl rfl rfl hl.1 rfl (Nat.le_of_ble_eq_true rfl) (dk hX5_isTownSo_0 1 rfl) ⟨Nat.zero_le _, Nat.zero_le _⟩ rfl (fun H locs hs => ?_)
  refine lv_iconst (v := (1 : Int32)) hx hb (dk hX5_isTownSo_0 2 rfl) (by decide) ?_
  refine lv_istore_n (lv' := [(1, .int (1 : Int32)), (0, .ref (ad 0))]) hx hb (dk hX5_isTownSo_0 3 rfl) rfl hl (by decide) rfl (fun ls hl => ?_)
  refine lv_iconst (v := (0 : Int32)) hx hb (dk hX5_isTownSo_0 4 rfl) (by decide) ?_
  refine lv_istore_n (lv' := [(2, .int (0 : Int32)), (1, .int (1 : Int32)), (0, .ref (ad 0))]) hx hb (dk hX5_isTownSo_0 5 rfl) rfl hl (by decide) rfl (fun ls hl => ?_)
  refine l_X5_isTownSo_L8 C 1000 _ _ _ _ _ _ hf _ _ hs _ (lv_sub hl [2, 1, 0] rfl) (fun y1_13 there_14 inn_15 coughs_16 day_17 hf H locs hs ls hl => ?_)
  refine lv_aload_n hx hb (dk hX5_isTownSo_0 29 rfl) rfl (lv_at hl 0 rfl) ?_
  obtain ⟨u_18, e_19, hf⟩ := Option.bind_eq_some_iff.mp hf
  refine Ct.V (As := []) (rest := []) (st1 := []) (w1 := (wM G ad refused u_18.1 u_18.2.1 u_18.2.2.1 u_18.2.2.2.1 u_18.2.2.2.2.1 u_18.2.2.2.2.2.1 u_18.2.2.2.2.2.2.1 u_18.2.2.2.2.2.2.2.1 tape letter letterAt told u_18.2.2.2.2.2.2.2.2.1 row costs u_18.2.2.2.2.2.2.2.2.2.1 u_18.2.2.2.2.2.2.2.2.2.2.1 u_18.2.2.2.2.2.2.2.2.2.2.2.1 away taped reading statements hasImage u_18.2.2.2.2.2.2.2.2.2.2.2.2.1 u_18.2.2.2.2.2.2.2.2.2.2.2.2.2 backs free goodFor loadedWhen bareGood bareWhen rowMany lots)) C hs (c_X5_forgets e_19) tw_997 tw_999 tw_52 tw_85 tw_1000 nq_X5_forgets (by decide) 0 5 rfl rfl rfl rfl hl.1 rfl (Nat.le_of_ble_eq_true rfl) (dk hX5_isTownSo_0 30 rfl) ⟨Nat.zero_le _, Nat.zero_le _⟩ rfl (fun H locs hs => ?_)
  refine lv_iload_n hx hb (dk hX5_isTownSo_0 31 rfl) rfl (lv_at hl 1 rfl) ?_
  obtain ⟨b_20, hz_21, hf⟩ := Option.bind_eq_some_iff.mp hf
  obtain ⟨hxe, hz⟩ := c01_z hz_21
  replace hxe := hxe.symm
  subst hxe
  cases hf
  exact rz hz C hs (dk hX5_isTownSo_0 32 rfl)

def X5_whichTown_L59 (k : Int32 → Int32 → Int32 → List Int32 → List Int32 → List Int32 → List Int32 → List Int32 → List Int32 → List Int32 → List Int32 → List Int32 → Int32 → Int32 → Int32 → Int32 → Int32 → Option (List Int32 × List Int32 × List Int32 × List Int32 × List Int32 × List Int32 × List Int32 × List Int32 × List Int32 × List Int32 × Int32 × Int32 × Int32 × Int32 × Int32 × Int32)) (row : List Int32) (away : Int32) (free : Int32) (rowMany : Int32) (x1 : Int32) : Nat → Int32 → Int32 → Int32 → Int32 → List Int32 → List Int32 → List Int32 → List Int32 → List Int32 → List Int32 → List Int32 → List Int32 → List Int32 → Int32 → Int32 → Int32 → Int32 → Int32 → Option (List Int32 × List Int32 × List Int32 × List Int32 × List Int32 × List Int32 × List Int32 × List Int32 × List Int32 × List Int32 × Int32 × Int32 × Int32 × Int32 × Int32 × Int32)
  | 0, _, _, _, _, _, _, _, _, _, _, _, _, _, _, _, _, _, _ => none
  | n + 1, x5, x6, x7, x8, there, used, hidden, kind, figure, good, load, inn, kept, ships, coughs, day, isKeeping, cursor =>
  if (99 : Int32) < x8 then
  k x5 x6 x7 there used hidden kind figure good load inn kept ships coughs day isKeeping cursor
  else
  (wr there x1 x8).bind fun there_7 =>
  (X5_isTownSo there_7 used hidden kind figure good load inn kept row ships coughs day away isKeeping cursor free rowMany).bind fun u_9 =>
  if u_9.2.2.2.2.2.2.2.2.2.2.2.2.2.2 = (0 : Int32) then
  X5_whichTown_L59 k row away free rowMany x1 n x5 x6 x7 (x8 + (1 : Int32)) u_9.1 u_9.2.1 u_9.2.2.1 u_9.2.2.2.1 u_9.2.2.2.2.1 u_9.2.2.2.2.2.1 u_9.2.2.2.2.2.2.1 u_9.2.2.2.2.2.2.2.1 u_9.2.2.2.2.2.2.2.2.1 u_9.2.2.2.2.2.2.2.2.2.1 u_9.2.2.2.2.2.2.2.2.2.2.1 u_9.2.2.2.2.2.2.2.2.2.2.2.1 u_9.2.2.2.2.2.2.2.2.2.2.2.2.1 u_9.2.2.2.2.2.2.2.2.2.2.2.2.2.1
  else
  if (0 : Int32) ≤ x6 then
  X5_whichTown_L59 k row away free rowMany x1 n (x5 + (1 : Int32)) x6 x8 (x8 + (1 : Int32)) u_9.1 u_9.2.1 u_9.2.2.1 u_9.2.2.2.1 u_9.2.2.2.2.1 u_9.2.2.2.2.2.1 u_9.2.2.2.2.2.2.1 u_9.2.2.2.2.2.2.2.1 u_9.2.2.2.2.2.2.2.2.1 u_9.2.2.2.2.2.2.2.2.2.1 u_9.2.2.2.2.2.2.2.2.2.2.1 u_9.2.2.2.2.2.2.2.2.2.2.2.1 u_9.2.2.2.2.2.2.2.2.2.2.2.2.1 u_9.2.2.2.2.2.2.2.2.2.2.2.2.2.1
  else
  X5_whichTown_L59 k row away free rowMany x1 n (x5 + (1 : Int32)) x8 x8 (x8 + (1 : Int32)) u_9.1 u_9.2.1 u_9.2.2.1 u_9.2.2.2.1 u_9.2.2.2.2.1 u_9.2.2.2.2.2.1 u_9.2.2.2.2.2.2.1 u_9.2.2.2.2.2.2.2.1 u_9.2.2.2.2.2.2.2.2.1 u_9.2.2.2.2.2.2.2.2.2.1 u_9.2.2.2.2.2.2.2.2.2.2.1 u_9.2.2.2.2.2.2.2.2.2.2.2.1 u_9.2.2.2.2.2.2.2.2.2.2.2.2.1 u_9.2.2.2.2.2.2.2.2.2.2.2.2.2.1
def X5_whichTown (refused : List Int32) (there : List Int32) (used : List Int32) (hidden : List Int32) (kind : List Int32) (figure : List Int32) (good : List Int32) (load : List Int32) (inn : List Int32) (kept : List Int32) (row : List Int32) (ships : Int32) (coughs : Int32) (day : Int32) (away : Int32) (isKeeping : Int32) (cursor : Int32) (free : Int32) (rowMany : Int32) (p0 : Int32) (p1 : Int32) : Option (List Int32 × List Int32 × List Int32 × List Int32 × List Int32 × List Int32 × List Int32 × List Int32 × List Int32 × List Int32 × Int32 × Int32 × Int32 × Int32 × Int32 × Int32) :=
  (X5_isGood p0).bind fun u_1 =>
  if u_1 = (0 : Int32) then
  (X5_no refused (-1 : Int32)).bind fun u_32 =>
  some (u_32.1, there, used, hidden, kind, figure, good, load, inn, kept, ships, coughs, day, isKeeping, cursor, u_32.2)
  else
  (X5_isIn p1 (0 : Int32) (2 : Int32)).bind fun u_3 =>
  if u_3 = (0 : Int32) then
  (X5_no refused (-2 : Int32)).bind fun u_30 =>
  some (u_30.1, there, used, hidden, kind, figure, good, load, inn, kept, ships, coughs, day, isKeeping, cursor, u_30.2)
  else
  (rd there p0).bind fun v_5 =>
  X5_whichTown_L59 (fun y5_11 y6_12 y7_13 there_14 used_15 hidden_16 kind_17 figure_18 good_19 load_20 inn_21 kept_22 ships_23 coughs_24 day_25 isKeeping_26 cursor_27 =>
  (wr there_14 p0 v_5).bind fun there_28 =>
  if p1 = (0 : Int32) then
  some (refused, there_28, used_15, hidden_16, kind_17, figure_18, good_19, load_20, inn_21, kept_22, ships_23, coughs_24, day_25, isKeeping_26, cursor_27, y5_11)
  else
  if p1 = (1 : Int32) then
  some (refused, there_28, used_15, hidden_16, kind_17, figure_18, good_19, load_20, inn_21, kept_22, ships_23, coughs_24, day_25, isKeeping_26, cursor_27, y6_12)
  else
  some (refused, there_28, used_15, hidden_16, kind_17, figure_18, good_19, load_20, inn_21, kept_22, ships_23, coughs_24, day_25, isKeeping_26, cursor_27, y7_13)) row away free rowMany p0 1000 (0 : Int32) (-9 : Int32) (-9 : Int32) (0 : Int32) there used hidden kind figure good load inn kept ships coughs day isKeeping cursor
set_option maxRecDepth 100000 in
set_option maxHeartbeats 4000000 in
theorem l_X5_whichTown_L59 {l : Launch} {p : Program} {e : Env} {s : State} {m : MethodId} {args : Array Value} {below : List Frame} {meth : Method} {c : Code} {A : Nat → Prop} {G : Gx} {ad : Nat → Nat} {refused tape letter letterAt told row costs : List Int32} {away taped reading statements hasImage backs free goodFor loadedWhen bareGood bareWhen rowMany lots : Int32} {x1 : Int32} {x2 : Int32} {x4 : Int32} {k : Int32 → Int32 → Int32 → List Int32 → List Int32 → List Int32 → List Int32 → List Int32 → List Int32 → List Int32 → List Int32 → List Int32 → Int32 → Int32 → Int32 → Int32 → Int32 → Option (List Int32 × List Int32 × List Int32 × List Int32 × List Int32 × List Int32 × List Int32 × List Int32 × List Int32 × List Int32 × Int32 × Int32 × Int32 × Int32 × Int32 × Int32)} {out : List Int32 × List Int32 × List Int32 × List Int32 × List Int32 × List Int32 × List Int32 × List Int32 × List Int32 × List Int32 × Int32 × Int32 × Int32 × Int32 × Int32 × Int32} (C : Cx p s m args meth c cX5_whichTown RX5 9 (some .int) G) : ∀ (n : Nat) (x5 : Int32) (x6 : Int32) (x7 : Int32) (x8 : Int32) (there : List Int32) (used : List Int32) (hidden : List Int32) (kind : List Int32) (figure : List Int32) (good : List Int32) (load : List Int32) (inn : List Int32) (kept : List Int32) (ships : Int32) (coughs : Int32) (day : Int32) (isKeeping : Int32) (cursor : Int32), X5_whichTown_L59 k row away free rowMany x1 n x5 x6 x7 x8 there used hidden kind figure good load inn kept ships coughs day isKeeping cursor = some out → ∀ (H : Heap) (locs : List Loc), St G A s.heap H locs (wM G ad refused there used hidden kind figure good load inn tape letter letterAt told kept row costs ships coughs day away taped reading statements hasImage isKeeping cursor backs free goodFor loadedWhen bareGood bareWhen rowMany lots) → ∀ ls : Array Slot, lv_has ls 9 [(0, .ref (ad 0)), (1, .int x1), (2, .int x2), (4, .int x4), (5, .int x5), (6, .int x6), (7, .int x7), (8, .int x8)] → (∀ (y5 : Int32) (y6 : Int32) (y7 : Int32) (z_there : List Int32) (z_used : List Int32) (z_hidden : List Int32) (z_kind : List Int32) (z_figure : List Int32) (z_good : List Int32) (z_load : List Int32) (z_inn : List Int32) (z_kept : List Int32) (z_ships : Int32) (z_coughs : Int32) (z_day : Int32) (z_isKeeping : Int32) (z_cursor : Int32), k y5 y6 y7 z_there z_used z_hidden z_kind z_figure z_good z_load z_inn z_kept z_ships z_coughs z_day z_isKeeping z_cursor = some out → ∀ (H : Heap) (locs : List Loc), St G A s.heap H locs (wM G ad refused z_there z_used z_hidden z_kind z_figure z_good z_load z_inn tape letter letterAt told z_kept row costs z_ships z_coughs z_day away taped reading statements hasImage z_isKeeping z_cursor backs free goodFor loadedWhen bareGood bareWhen rowMany lots) → ∀ ls : Array Slot, lv_has ls 9 [(0, .ref (ad 0)), (1, .int x1), (2, .int x2), (4, .int x4), (5, .int y5), (6, .int y6), (7, .int y7)] → W p l e (rmOf 7 151) s m args below meth c H locs 0 0 (MQ below (Qof G A (some (.int out.2.2.2.2.2.2.2.2.2.2.2.2.2.2.2)) (wM G ad out.1 out.2.1 out.2.2.1 out.2.2.2.1 out.2.2.2.2.1 out.2.2.2.2.2.1 out.2.2.2.2.2.2.1 out.2.2.2.2.2.2.2.1 out.2.2.2.2.2.2.2.2.1 tape letter letterAt told out.2.2.2.2.2.2.2.2.2.1 row costs out.2.2.2.2.2.2.2.2.2.2.1 out.2.2.2.2.2.2.2.2.2.2.2.1 out.2.2.2.2.2.2.2.2.2.2.2.2.1 away taped reading statements hasImage out.2.2.2.2.2.2.2.2.2.2.2.2.2.1 out.2.2.2.2.2.2.2.2.2.2.2.2.2.2.1 backs free goodFor loadedWhen bareGood bareWhen rowMany lots)) args s 0 0 A) (F0 m 111 ls [])) → W p l e (rmOf 7 151) s m args below meth c H locs 0 0 (MQ below (Qof G A (some (.int out.2.2.2.2.2.2.2.2.2.2.2.2.2.2.2)) (wM G ad out.1 out.2.1 out.2.2.1 out.2.2.2.1 out.2.2.2.2.1 out.2.2.2.2.2.1 out.2.2.2.2.2.2.1 out.2.2.2.2.2.2.2.1 out.2.2.2.2.2.2.2.2.1 tape letter letterAt told out.2.2.2.2.2.2.2.2.2.1 row costs out.2.2.2.2.2.2.2.2.2.2.1 out.2.2.2.2.2.2.2.2.2.2.2.1 out.2.2.2.2.2.2.2.2.2.2.2.2.1 away taped reading statements hasImage out.2.2.2.2.2.2.2.2.2.2.2.2.2.1 out.2.2.2.2.2.2.2.2.2.2.2.2.2.2.1 backs free goodFor loadedWhen bareGood bareWhen rowMany lots)) args s 0 0 A) (F0 m 59 ls []) := by
  obtain ⟨hx, hb, hml, hown, hts, hK, hret, hlk⟩ := id C
  intro n
  induction n with
  | zero => intro x5 x6 x7 x8 there used hidden kind figure good load inn kept ships coughs day isKeeping cursor hf; cases hf
  | succ n ih =>
    intro x5 x6 x7 x8 there used hidden kind figure good load inn kept ships coughs day isKeeping cursor hf H locs hs ls hl hk
    rw [X5_whichTown_L59] at hf
    refine lv_iload hx hb (dk hX5_whichTown_0 33 rfl) (lv_at hl 7 rfl) ?_
    refine lv_bipush (v := (99 : Int32)) hx hb (dk hX5_whichTown_0 34 rfl) (by decide) ?_
    refine lv_icmp_gt (tgt := 111) hx hb (dk hX5_whichTown_0 35 rfl) (by decide) (fun hc => ?_) (fun hc => ?_)
    · replace hf := ip hf hc
      exact hk _ _ _ _ _ _ _ _ _ _ _ _ _ _ _ _ _ hf _ _ hs _ (lv_sub hl [0, 1, 2, 3, 4, 5, 6] rfl)
    · replace hf := in_ hf hc
      refine lv_aload_n hx hb (dk hX5_whichTown_0 36 rfl) rfl (lv_at hl 0 rfl) ?_
      refine rg ui5 rfl C hs 0 rfl 1 (by decide) tw_691 rfl rfl (dk hX5_whichTown_0 37 rfl) ?_
      refine lv_iload_n hx hb (dk hX5_whichTown_0 38 rfl) rfl (lv_at hl 1 rfl) ?_
      refine lv_iload hx hb (dk hX5_whichTown_0 39 rfl) (lv_at hl 7 rfl) ?_
      obtain ⟨there_7, e_8, hf⟩ := Option.bind_eq_some_iff.mp hf
      refine rist (w1 := (wM G ad refused there_7 used hidden kind figure good load inn tape letter letterAt told kept row costs ships coughs day away taped reading statements hasImage isKeeping cursor backs free goodFor loadedWhen bareGood bareWhen rowMany lots)) C hs 2 rfl e_8 rfl (dk hX5_whichTown_1 0 rfl) (fun H locs hs => ?_)
      refine lv_aload_n hx hb (dk hX5_whichTown_1 1 rfl) rfl (lv_at hl 0 rfl) ?_
      obtain ⟨u_9, e_10, hf⟩ := Option.bind_eq_some_iff.mp hf
      refine Ct.V (As := []) (rest := []) (st1 := [.int u_9.2.2.2.2.2.2.2.2.2.2.2.2.2.2]) (w1 := (wM G ad refused u_9.1 u_9.2.1 u_9.2.2.1 u_9.2.2.2.1 u_9.2.2.2.2.1 u_9.2.2.2.2.2.1 u_9.2.2.2.2.2.2.1 u_9.2.2.2.2.2.2.2.1 tape letter letterAt told u_9.2.2.2.2.2.2.2.2.1 row costs u_9.2.2.2.2.2.2.2.2.2.1 u_9.2.2.2.2.2.2.2.2.2.2.1 u_9.2.2.2.2.2.2.2.2.2.2.2.1 away taped reading statements hasImage u_9.2.2.2.2.2.2.2.2.2.2.2.2.1 u_9.2.2.2.2.2.2.2.2.2.2.2.2.2.1 backs free goodFor loadedWhen bareGood bareWhen rowMany lots)) C hs (c_X5_isTownSo e_10) tw_1105 tw_1107 tw_66 tw_85 tw_1108 nq_X5_isTownSo (by decide) 0 5 rfl rfl rfl rfl hl.1 rfl (Nat.le_of_ble_eq_true rfl) (dk hX5_whichTown_1 2 rfl) ⟨Nat.zero_le _, Nat.zero_le _⟩ rfl (fun H locs hs => ?_)
      refine lv_if_ne (tgt := 84) hx hb (dk hX5_whichTown_1 3 rfl) (by decide) (fun hc => ?_) (fun hc => ?_)
      · replace hf := in_ hf hc
        refine lv_iinc (v := (x5 + (1 : Int32))) (lv' := [(5, .int (x5 + (1 : Int32))), (0, .ref (ad 0)), (1, .int x1), (2, .int x2), (4, .int x4), (6, .int x6), (7, .int x7), (8, .int x8)]) hx hb (dk hX5_whichTown_1 5 rfl) hl (k := 4) rfl (by first | rfl | decide) (by decide) rfl (fun ls hl => ?_)
        refine lv_iload hx hb (dk hX5_whichTown_1 6 rfl) (lv_at hl 5 rfl) ?_
        refine lv_if_ge (tgt := 97) hx hb (dk hX5_whichTown_1 7 rfl) (by decide) (fun hc => ?_) (fun hc => ?_)
        · replace hf := ip hf hc
          refine lv_iload hx hb (dk hX5_whichTown_1 10 rfl) (lv_at hl 5 rfl) ?_
          refine lv_istore (lv' := [(6, .int x6), (5, .int (x5 + (1 : Int32))), (0, .ref (ad 0)), (1, .int x1), (2, .int x2), (4, .int x4), (7, .int x7), (8, .int x8)]) hx hb (dk hX5_whichTown_1 11 rfl) hl (by decide) rfl (fun ls hl => ?_)
          refine lv_iload hx hb (dk hX5_whichTown_1 12 rfl) (lv_at hl 7 rfl) ?_
          refine lv_istore (lv' := [(7, .int x8), (6, .int x6), (5, .int (x5 + (1 : Int32))), (0, .ref (ad 0)), (1, .int x1), (2, .int x2), (4, .int x4), (8, .int x8)]) hx hb (dk hX5_whichTown_1 13 rfl) hl (by decide) rfl (fun ls hl => ?_)
          refine lv_iinc (v := (x8 + (1 : Int32))) (lv' := [(8, .int (x8 + (1 : Int32))), (7, .int x8), (6, .int x6), (5, .int (x5 + (1 : Int32))), (0, .ref (ad 0)), (1, .int x1), (2, .int x2), (4, .int x4)]) hx hb (dk hX5_whichTown_1 14 rfl) hl (k := 7) rfl (by first | rfl | decide) (by decide) rfl (fun ls hl => ?_)
          refine lv_goto (tgt := 59) hx hb (dk hX5_whichTown_1 15 rfl) (by decide) ?_
          exact ih _ _ _ _ _ _ _ _ _ _ _ _ _ _ _ _ _ _ hf _ _ hs _ (lv_sub hl [4, 5, 6, 7, 3, 2, 1, 0] rfl) hk
        · replace hf := in_ hf hc
          refine lv_iload hx hb (dk hX5_whichTown_1 8 rfl) (lv_at hl 7 rfl) ?_
          refine lv_goto (tgt := 99) hx hb (dk hX5_whichTown_1 9 rfl) (by decide) ?_
          refine lv_istore (lv' := [(6, .int x8), (5, .int (x5 + (1 : Int32))), (0, .ref (ad 0)), (1, .int x1), (2, .int x2), (4, .int x4), (7, .int x7), (8, .int x8)]) hx hb (dk hX5_whichTown_1 11 rfl) hl (by decide) rfl (fun ls hl => ?_)
          refine lv_iload hx hb (dk hX5_whichTown_1 12 rfl) (lv_at hl 7 rfl) ?_
          refine lv_istore (lv' := [(7, .int x8), (6, .int x8), (5, .int (x5 + (1 : Int32))), (0, .ref (ad 0)), (1, .int x1), (2, .int x2), (4, .int x4), (8, .int x8)]) hx hb (dk hX5_whichTown_1 13 rfl) hl (by decide) rfl (fun ls hl => ?_)
          refine lv_iinc (v := (x8 + (1 : Int32))) (lv' := [(8, .int (x8 + (1 : Int32))), (7, .int x8), (6, .int x8), (5, .int (x5 + (1 : Int32))), (0, .ref (ad 0)), (1, .int x1), (2, .int x2), (4, .int x4)]) hx hb (dk hX5_whichTown_1 14 rfl) hl (k := 7) rfl (by first | rfl | decide) (by decide) rfl (fun ls hl => ?_)
          refine lv_goto (tgt := 59) hx hb (dk hX5_whichTown_1 15 rfl) (by decide) ?_
          exact ih _ _ _ _ _ _ _ _ _ _ _ _ _ _ _ _ _ _ hf _ _ hs _ (lv_sub hl [4, 5, 6, 7, 3, 2, 1, 0] rfl) hk
      · replace hf := ip hf hc
        refine lv_goto (tgt := 105) hx hb (dk hX5_whichTown_1 4 rfl) (by decide) ?_
        refine lv_iinc (v := (x8 + (1 : Int32))) (lv' := [(8, .int (x8 + (1 : Int32))), (0, .ref (ad 0)), (1, .int x1), (2, .int x2), (4, .int x4), (5, .int x5), (6, .int x6), (7, .int x7)]) hx hb (dk hX5_whichTown_1 14 rfl) hl (k := 7) rfl (by first | rfl | decide) (by decide) rfl (fun ls hl => ?_)
        refine lv_goto (tgt := 59) hx hb (dk hX5_whichTown_1 15 rfl) (by decide) ?_
        exact ih _ _ _ _ _ _ _ _ _ _ _ _ _ _ _ _ _ _ hf _ _ hs _ (lv_sub hl [1, 2, 3, 4, 5, 6, 7, 0] rfl) hk
set_option maxRecDepth 100000 in
set_option maxHeartbeats 4000000 in
theorem c_X5_whichTown {l : Launch} {G : Gx} {ad : Nat → Nat} {refused there used hidden kind figure good load inn tape letter letterAt told kept row costs : List Int32} {ships coughs day away taped reading statements hasImage isKeeping cursor backs free goodFor loadedWhen bareGood bareWhen rowMany lots : Int32} {p0 : Int32} {p1 : Int32} {out : List Int32 × List Int32 × List Int32 × List Int32 × List Int32 × List Int32 × List Int32 × List Int32 × List Int32 × List Int32 × Int32 × Int32 × Int32 × Int32 × Int32 × Int32} (hf : X5_whichTown refused there used hidden kind figure good load inn kept row ships coughs day away isKeeping cursor free rowMany p0 p1 = some out) : Ct l G yX5_whichTown cX5_whichTown 9 (some .int) 7 151 [.ref (ad 0), .int p0, .int p1] (wM G ad refused there used hidden kind figure good load inn tape letter letterAt told kept row costs ships coughs day away taped reading statements hasImage isKeeping cursor backs free goodFor loadedWhen bareGood bareWhen rowMany lots) (some (.int out.2.2.2.2.2.2.2.2.2.2.2.2.2.2.2)) (wM G ad out.1 out.2.1 out.2.2.1 out.2.2.2.1 out.2.2.2.2.1 out.2.2.2.2.2.1 out.2.2.2.2.2.2.1 out.2.2.2.2.2.2.2.1 out.2.2.2.2.2.2.2.2.1 tape letter letterAt told out.2.2.2.2.2.2.2.2.2.1 row costs out.2.2.2.2.2.2.2.2.2.2.1 out.2.2.2.2.2.2.2.2.2.2.2.1 out.2.2.2.2.2.2.2.2.2.2.2.2.1 away taped reading statements hasImage out.2.2.2.2.2.2.2.2.2.2.2.2.2.1 out.2.2.2.2.2.2.2.2.2.2.2.2.2.2.1 backs free goodFor loadedWhen bareGood bareWhen rowMany lots) := by
  refine Ct.intro RX5 rfl (plainFor_of_name (by decide)) (Nat.le_of_ble_eq_true rfl) rfl ?_
  intro p e s m args below meth c A C H locs hs ls hl
  obtain ⟨hx, hb, hml, hown, hts, hK, hret, hlk⟩ := id C
  have hl : lv_has ls 9 [(0, .ref (ad 0)), (1, .int p0), (2, .int p1)] := hl
  unfold X5_whichTown at hf
  refine lv_iload_n hx hb (dk hX5_whichTown_0 0 rfl) rfl (lv_at hl 1 rfl) ?_
  obtain ⟨u_1, e_2, hf⟩ := Option.bind_eq_some_iff.mp hf
  refine Ct.S (As := [.int p0]) (rest := []) (st1 := [.int u_1]) (w1 := (wM G ad refused there used hidden kind figure good load inn tape letter letterAt told kept row costs ships coughs day away taped reading statements hasImage isKeeping cursor backs free goodFor loadedWhen bareGood bareWhen rowMany lots)) C hs (c_X5_isGood e_2) tw_847 tw_848 tw_85 tw_849 nq_X5_isGood (by decide) rfl hl.1 rfl (Nat.le_of_ble_eq_true rfl) (dk hX5_whichTown_0 1 rfl) ⟨Nat.zero_le _, Nat.zero_le _⟩ rfl (fun H locs hs => ?_)
  refine lv_if_ne (tgt := 11) hx hb (dk hX5_whichTown_0 2 rfl) (by decide) (fun hc => ?_) (fun hc => ?_)
  · replace hf := in_ hf hc
    refine lv_iload_n hx hb (dk hX5_whichTown_0 5 rfl) rfl (lv_at hl 2 rfl) ?_
    refine lv_iconst (v := (0 : Int32)) hx hb (dk hX5_whichTown_0 6 rfl) (by decide) ?_
    refine lv_iconst (v := (2 : Int32)) hx hb (dk hX5_whichTown_0 7 rfl) (by decide) ?_
    obtain ⟨u_3, e_4, hf⟩ := Option.bind_eq_some_iff.mp hf
    refine Ct.S (As := [.int p1, .int (0 : Int32), .int (2 : Int32)]) (rest := []) (st1 := [.int u_3]) (w1 := (wM G ad refused there used hidden kind figure good load inn tape letter letterAt told kept row costs ships coughs day away taped reading statements hasImage isKeeping cursor backs free goodFor loadedWhen bareGood bareWhen rowMany lots)) C hs (c_X5_isIn e_4) tw_824 tw_825 tw_85 tw_826 nq_X5_isIn (by decide) rfl hl.1 rfl (Nat.le_of_ble_eq_true rfl) (dk hX5_whichTown_0 8 rfl) ⟨Nat.zero_le _, Nat.zero_le _⟩ rfl (fun H locs hs => ?_)
    refine lv_if_ne (tgt := 25) hx hb (dk hX5_whichTown_0 9 rfl) (by decide) (fun hc => ?_) (fun hc => ?_)
    · replace hf := in_ hf hc
      refine lv_iconst (v := (0 : Int32)) hx hb (dk hX5_whichTown_0 12 rfl) (by decide) ?_
      refine lv_istore_n (lv' := [(3, .int (0 : Int32)), (0, .ref (ad 0)), (1, .int p0), (2, .int p1)]) hx hb (dk hX5_whichTown_0 13 rfl) rfl hl (by decide) rfl (fun ls hl => ?_)
      refine lv_iload_n hx hb (dk hX5_whichTown_0 14 rfl) rfl (lv_at hl 0 rfl) ?_
      refine lv_if_eq (tgt := 37) hx hb (dk hX5_whichTown_0 15 rfl) (by decide) (fun hc => ?_) (fun hc => ?_)
      · refine lv_aload_n hx hb (dk hX5_whichTown_0 20 rfl) rfl (lv_at hl 1 rfl) ?_
        refine rg ui5 rfl C hs 0 rfl 1 (by decide) tw_691 rfl rfl (dk hX5_whichTown_0 21 rfl) ?_
        refine lv_iload_n hx hb (dk hX5_whichTown_0 22 rfl) rfl (lv_at hl 2 rfl) ?_
        obtain ⟨v_5, e_6, hf⟩ := Option.bind_eq_some_iff.mp hf
        refine rild C hs 2 rfl e_6 (dk hX5_whichTown_0 23 rfl) ?_
        refine lv_istore (lv' := [(4, .int v_5), (3, .int (0 : Int32)), (0, .ref (ad 0)), (1, .int p0), (2, .int p1)]) hx hb (dk hX5_whichTown_0 24 rfl) hl (by decide) rfl (fun ls hl => ?_)
        refine lv_iconst (v := (0 : Int32)) hx hb (dk hX5_whichTown_0 25 rfl) (by decide) ?_
        refine lv_istore (lv' := [(5, .int (0 : Int32)), (4, .int v_5), (3, .int (0 : Int32)), (0, .ref (ad 0)), (1, .int p0), (2, .int p1)]) hx hb (dk hX5_whichTown_0 26 rfl) hl (by decide) rfl (fun ls hl => ?_)
        refine lv_bipush (v := (-9 : Int32)) hx hb (dk hX5_whichTown_0 27 rfl) (by decide) ?_
        refine lv_istore (lv' := [(6, .int (-9 : Int32)), (5, .int (0 : Int32)), (4, .int v_5), (3, .int (0 : Int32)), (0, .ref (ad 0)), (1, .int p0), (2, .int p1)]) hx hb (dk hX5_whichTown_0 28 rfl) hl (by decide) rfl (fun ls hl => ?_)
        refine lv_bipush (v := (-9 : Int32)) hx hb (dk hX5_whichTown_0 29 rfl) (by decide) ?_
        refine lv_istore (lv' := [(7, .int (-9 : Int32)), (6, .int (-9 : Int32)), (5, .int (0 : Int32)), (4, .int v_5), (3, .int (0 : Int32)), (0, .ref (ad 0)), (1, .int p0), (2, .int p1)]) hx hb (dk hX5_whichTown_0 30 rfl) hl (by decide) rfl (fun ls hl => ?_)
        refine lv_iconst (v := (0 : Int32)) hx hb (dk hX5_whichTown_0 31 rfl) (by decide) ?_
        refine lv_istore (lv' := [(8, .int (0 : Int32)), (7, .int (-9 : Int32)), (6, .int (-9 : Int32)), (5, .int (0 : Int32)), (4, .int v_5), (3, .int (0 : Int32)), (0, .ref (ad 0)), (1, .int p0), (2, .int p1)]) hx hb (dk hX5_whichTown_0 32 rfl) hl (by decide) rfl (fun ls hl => ?_)
        refine l_X5_whichTown_L59 C 1000 _ _ _ _ _ _ _ _ _ _ _ _ _ _ _ _ _ _ hf _ _ hs _ (lv_sub hl [6, 7, 8, 4, 3, 2, 1, 0] rfl) (fun y5_11 y6_12 y7_13 there_14 used_15 hidden_16 kind_17 figure_18 good_19 load_20 inn_21 kept_22 ships_23 coughs_24 day_25 isKeeping_26 cursor_27 hf H locs hs ls hl => ?_)
        refine lv_aload_n hx hb (dk hX5_whichTown_1 16 rfl) rfl (lv_at hl 0 rfl) ?_
        refine rg ui5 rfl C hs 0 rfl 1 (by decide) tw_691 rfl rfl (dk hX5_whichTown_1 17 rfl) ?_
        refine lv_iload_n hx hb (dk hX5_whichTown_1 18 rfl) rfl (lv_at hl 1 rfl) ?_
        refine lv_iload hx hb (dk hX5_whichTown_1 19 rfl) (lv_at hl 3 rfl) ?_
        obtain ⟨there_28, e_29, hf⟩ := Option.bind_eq_some_iff.mp hf
        refine rist (w1 := (wM G ad refused there_28 used_15 hidden_16 kind_17 figure_18 good_19 load_20 inn_21 tape letter letterAt told kept_22 row costs ships_23 coughs_24 day_25 away taped reading statements hasImage isKeeping_26 cursor_27 backs free goodFor loadedWhen bareGood bareWhen rowMany lots)) C hs 2 rfl e_29 rfl (dk hX5_whichTown_1 20 rfl) (fun H locs hs => ?_)
        refine lv_iload_n hx hb (dk hX5_whichTown_1 21 rfl) rfl (lv_at hl 2 rfl) ?_
        refine lv_if_ne (tgt := 128) hx hb (dk hX5_whichTown_1 22 rfl) (by decide) (fun hc => ?_) (fun hc => ?_)
        · replace hf := in_ hf hc
          refine lv_iload_n hx hb (dk hX5_whichTown_1 25 rfl) rfl (lv_at hl 2 rfl) ?_
          refine lv_iconst (v := (1 : Int32)) hx hb (dk hX5_whichTown_1 26 rfl) (by decide) ?_
          refine lv_icmp_ne (tgt := 138) hx hb (dk hX5_whichTown_1 27 rfl) (by decide) (fun hc => ?_) (fun hc => ?_)
          · replace hf := in_ hf hc
            refine lv_iload hx hb (dk hX5_whichTown_1 30 rfl) (lv_at hl 6 rfl) ?_
            cases hf
            exact ri C hs (dk hX5_whichTown_1 31 rfl)
          · replace hf := ip hf hc
            refine lv_iload hx hb (dk hX5_whichTown_1 28 rfl) (lv_at hl 5 rfl) ?_
            refine lv_goto (tgt := 140) hx hb (dk hX5_whichTown_1 29 rfl) (by decide) ?_
            cases hf
            exact ri C hs (dk hX5_whichTown_1 31 rfl)
        · replace hf := ip hf hc
          refine lv_iload hx hb (dk hX5_whichTown_1 23 rfl) (lv_at hl 4 rfl) ?_
          refine lv_goto (tgt := 140) hx hb (dk hX5_whichTown_1 24 rfl) (by decide) ?_
          cases hf
          exact ri C hs (dk hX5_whichTown_1 31 rfl)
      · exact absurd hc (by decide)
    · replace hf := ip hf hc
      refine lv_bipush (v := (-2 : Int32)) hx hb (dk hX5_whichTown_0 10 rfl) (by decide) ?_
      refine lv_goto (tgt := 26) hx hb (dk hX5_whichTown_0 11 rfl) (by decide) ?_
      refine lv_istore_n (lv' := [(3, .int (-2 : Int32)), (0, .ref (ad 0)), (1, .int p0), (2, .int p1)]) hx hb (dk hX5_whichTown_0 13 rfl) rfl hl (by decide) rfl (fun ls hl => ?_)
      refine lv_iload_n hx hb (dk hX5_whichTown_0 14 rfl) rfl (lv_at hl 0 rfl) ?_
      refine lv_if_eq (tgt := 37) hx hb (dk hX5_whichTown_0 15 rfl) (by decide) (fun hc => ?_) (fun hc => ?_)
      · exact absurd hc (by decide)
      · refine lv_aload_n hx hb (dk hX5_whichTown_0 16 rfl) rfl (lv_at hl 1 rfl) ?_
        refine lv_iload_n hx hb (dk hX5_whichTown_0 17 rfl) rfl (lv_at hl 0 rfl) ?_
        obtain ⟨u_30, e_31, hf⟩ := Option.bind_eq_some_iff.mp hf
        refine Ct.V (As := [.int (-2 : Int32)]) (rest := []) (st1 := [.int u_30.2]) (w1 := (wM G ad u_30.1 there used hidden kind figure good load inn tape letter letterAt told kept row costs ships coughs day away taped reading statements hasImage isKeeping cursor backs free goodFor loadedWhen bareGood bareWhen rowMany lots)) C hs (c_X5_no e_31) tw_800 tw_802 tw_21 tw_85 tw_803 nq_X5_no (by decide) 0 5 rfl rfl rfl rfl hl.1 rfl (Nat.le_of_ble_eq_true rfl) (dk hX5_whichTown_0 18 rfl) ⟨Nat.zero_le _, Nat.zero_le _⟩ rfl (fun H locs hs => ?_)
        cases hf
        exact ri C hs (dk hX5_whichTown_0 19 rfl)
  · replace hf := ip hf hc
    refine lv_iconst (v := (-1 : Int32)) hx hb (dk hX5_whichTown_0 3 rfl) (by decide) ?_
    refine lv_goto (tgt := 26) hx hb (dk hX5_whichTown_0 4 rfl) (by decide) ?_
    refine lv_istore_n (lv' := [(3, .int (-1 : Int32)), (0, .ref (ad 0)), (1, .int p0), (2, .int p1)]) hx hb (dk hX5_whichTown_0 13 rfl) rfl hl (by decide) rfl (fun ls hl => ?_)
    refine lv_iload_n hx hb (dk hX5_whichTown_0 14 rfl) rfl (lv_at hl 0 rfl) ?_
    refine lv_if_eq (tgt := 37) hx hb (dk hX5_whichTown_0 15 rfl) (by decide) (fun hc => ?_) (fun hc => ?_)
    · exact absurd hc (by decide)
    · refine lv_aload_n hx hb (dk hX5_whichTown_0 16 rfl) rfl (lv_at hl 1 rfl) ?_
      refine lv_iload_n hx hb (dk hX5_whichTown_0 17 rfl) rfl (lv_at hl 0 rfl) ?_
      obtain ⟨u_32, e_33, hf⟩ := Option.bind_eq_some_iff.mp hf
      refine Ct.V (As := [.int (-1 : Int32)]) (rest := []) (st1 := [.int u_32.2]) (w1 := (wM G ad u_32.1 there used hidden kind figure good load inn tape letter letterAt told kept row costs ships coughs day away taped reading statements hasImage isKeeping cursor backs free goodFor loadedWhen bareGood bareWhen rowMany lots)) C hs (c_X5_no e_33) tw_800 tw_802 tw_21 tw_85 tw_803 nq_X5_no (by decide) 0 5 rfl rfl rfl rfl hl.1 rfl (Nat.le_of_ble_eq_true rfl) (dk hX5_whichTown_0 18 rfl) ⟨Nat.zero_le _, Nat.zero_le _⟩ rfl (fun H locs hs => ?_)
      cases hf
      exact ri C hs (dk hX5_whichTown_0 19 rfl)

def X5_isDeepSo_L8 (k : Int32 → List Int32 → List Int32 → Int32 → Int32 → Option (List Int32 × List Int32 × List Int32 × List Int32 × List Int32 × List Int32 × List Int32 × List Int32 × List Int32 × Int32 × Int32 × Int32 × Int32 × Int32 × Int32)) (used : List Int32) (hidden : List Int32) (kind : List Int32) (figure : List Int32) (good : List Int32) (load : List Int32) (row : List Int32) (ships : Int32) (away : Int32) (free : Int32) (rowMany : Int32) (x1 : Int32) : Nat → Int32 → Int32 → List Int32 → List Int32 → Int32 → Int32 → Option (List Int32 × List Int32 × List Int32 × List Int32 × List Int32 × List Int32 × List Int32 × List Int32 × List Int32 × Int32 × Int32 × Int32 × Int32 × Int32 × Int32)
  | 0, _, _, _, _, _, _ => none
  | n + 1, x2, x3, there, inn, coughs, day =>
  if rowMany ≤ x3 then
  k x2 there inn coughs day
  else
  if x2 = (0 : Int32) then
  k x2 there inn coughs day
  else
  (X5_depth there used hidden kind good coughs day free x1).bind fun u_3 =>
  (rd row x3).bind fun v_5 =>
  if u_3 = v_5 then
  (X5_goesDay there used hidden kind figure good load inn ships coughs day away free (0 : Int32)).bind fun u_9 =>
  X5_isDeepSo_L8 k used hidden kind figure good load row ships away free rowMany x1 n (1 : Int32) (x3 + (1 : Int32)) u_9.1 u_9.2.1 u_9.2.2.1 u_9.2.2.2
  else
  (X5_goesDay there used hidden kind figure good load inn ships coughs day away free (0 : Int32)).bind fun u_7 =>
  X5_isDeepSo_L8 k used hidden kind figure good load row ships away free rowMany x1 n (0 : Int32) (x3 + (1 : Int32)) u_7.1 u_7.2.1 u_7.2.2.1 u_7.2.2.2
def X5_isDeepSo (there : List Int32) (used : List Int32) (hidden : List Int32) (kind : List Int32) (figure : List Int32) (good : List Int32) (load : List Int32) (inn : List Int32) (kept : List Int32) (row : List Int32) (ships : Int32) (coughs : Int32) (day : Int32) (away : Int32) (isKeeping : Int32) (cursor : Int32) (free : Int32) (rowMany : Int32) (p0 : Int32) : Option (List Int32 × List Int32 × List Int32 × List Int32 × List Int32 × List Int32 × List Int32 × List Int32 × List Int32 × Int32 × Int32 × Int32 × Int32 × Int32 × Int32) :=
  (X5_thinks there used hidden kind figure good load inn kept ships coughs day isKeeping cursor).bind fun u_1 =>
  X5_isDeepSo_L8 (fun y2_11 there_12 inn_13 coughs_14 day_15 =>
  (X5_forgets there_12 u_1.2.1 u_1.2.2.1 u_1.2.2.2.1 u_1.2.2.2.2.1 u_1.2.2.2.2.2.1 u_1.2.2.2.2.2.2.1 inn_13 u_1.2.2.2.2.2.2.2.2.1 u_1.2.2.2.2.2.2.2.2.2.1 coughs_14 day_15 u_1.2.2.2.2.2.2.2.2.2.2.2.2.1 u_1.2.2.2.2.2.2.2.2.2.2.2.2.2).bind fun u_16 =>
  (c01 y2_11).bind fun b_18 =>
  some (u_16.1, u_16.2.1, u_16.2.2.1, u_16.2.2.2.1, u_16.2.2.2.2.1, u_16.2.2.2.2.2.1, u_16.2.2.2.2.2.2.1, u_16.2.2.2.2.2.2.2.1, u_16.2.2.2.2.2.2.2.2.1, u_16.2.2.2.2.2.2.2.2.2.1, u_16.2.2.2.2.2.2.2.2.2.2.1, u_16.2.2.2.2.2.2.2.2.2.2.2.1, u_16.2.2.2.2.2.2.2.2.2.2.2.2.1, u_16.2.2.2.2.2.2.2.2.2.2.2.2.2, b_18)) u_1.2.1 u_1.2.2.1 u_1.2.2.2.1 u_1.2.2.2.2.1 u_1.2.2.2.2.2.1 u_1.2.2.2.2.2.2.1 row u_1.2.2.2.2.2.2.2.2.2.1 away free rowMany p0 1000 (1 : Int32) (0 : Int32) u_1.1 u_1.2.2.2.2.2.2.2.1 u_1.2.2.2.2.2.2.2.2.2.2.1 u_1.2.2.2.2.2.2.2.2.2.2.2.1
set_option maxRecDepth 100000 in
set_option maxHeartbeats 4000000 in
theorem l_X5_isDeepSo_L8 {l : Launch} {p : Program} {e : Env} {s : State} {m : MethodId} {args : Array Value} {below : List Frame} {meth : Method} {c : Code} {A : Nat → Prop} {G : Gx} {ad : Nat → Nat} {refused used hidden kind figure good load tape letter letterAt told kept row costs : List Int32} {ships away taped reading statements hasImage isKeeping cursor backs free goodFor loadedWhen bareGood bareWhen rowMany lots : Int32} {x1 : Int32} {k : Int32 → List Int32 → List Int32 → Int32 → Int32 → Option (List Int32 × List Int32 × List Int32 × List Int32 × List Int32 × List Int32 × List Int32 × List Int32 × List Int32 × Int32 × Int32 × Int32 × Int32 × Int32 × Int32)} {out : List Int32 × List Int32 × List Int32 × List Int32 × List Int32 × List Int32 × List Int32 × List Int32 × List Int32 × Int32 × Int32 × Int32 × Int32 × Int32 × Int32} (C : Cx p s m args meth c cX5_isDeepSo RX5 4 (some .boolean) G) : ∀ (n : Nat) (x2 : Int32) (x3 : Int32) (there : List Int32) (inn : List Int32) (coughs : Int32) (day : Int32), X5_isDeepSo_L8 k used hidden kind figure good load row ships away free rowMany x1 n x2 x3 there inn coughs day = some out → ∀ (H : Heap) (locs : List Loc), St G A s.heap H locs (wM G ad refused there used hidden kind figure good load inn tape letter letterAt told kept row costs ships coughs day away taped reading statements hasImage isKeeping cursor backs free goodFor loadedWhen bareGood bareWhen rowMany lots) → ∀ ls : Array Slot, lv_has ls 4 [(0, .ref (ad 0)), (1, .int x1), (2, .int x2), (3, .int x3)] → (∀ (y2 : Int32) (z_there : List Int32) (z_inn : List Int32) (z_coughs : Int32) (z_day : Int32), k y2 z_there z_inn z_coughs z_day = some out → ∀ (H : Heap) (locs : List Loc), St G A s.heap H locs (wM G ad refused z_there used hidden kind figure good load z_inn tape letter letterAt told kept row costs ships z_coughs z_day away taped reading statements hasImage isKeeping cursor backs free goodFor loadedWhen bareGood bareWhen rowMany lots) → ∀ ls : Array Slot, lv_has ls 4 [(0, .ref (ad 0)), (2, .int y2)] → W p l e (rmOf 6 129) s m args below meth c H locs 0 0 (MQ below (Qof G A (some (.int out.2.2.2.2.2.2.2.2.2.2.2.2.2.2)) (wM G ad refused out.1 out.2.1 out.2.2.1 out.2.2.2.1 out.2.2.2.2.1 out.2.2.2.2.2.1 out.2.2.2.2.2.2.1 out.2.2.2.2.2.2.2.1 tape letter letterAt told out.2.2.2.2.2.2.2.2.1 row costs out.2.2.2.2.2.2.2.2.2.1 out.2.2.2.2.2.2.2.2.2.2.1 out.2.2.2.2.2.2.2.2.2.2.2.1 away taped reading statements hasImage out.2.2.2.2.2.2.2.2.2.2.2.2.1 out.2.2.2.2.2.2.2.2.2.2.2.2.2.1 backs free goodFor loadedWhen bareGood bareWhen rowMany lots)) args s 0 0 A) (F0 m 51 ls [])) → W p l e (rmOf 6 129) s m args below meth c H locs 0 0 (MQ below (Qof G A (some (.int out.2.2.2.2.2.2.2.2.2.2.2.2.2.2)) (wM G ad refused out.1 out.2.1 out.2.2.1 out.2.2.2.1 out.2.2.2.2.1 out.2.2.2.2.2.1 out.2.2.2.2.2.2.1 out.2.2.2.2.2.2.2.1 tape letter letterAt told out.2.2.2.2.2.2.2.2.1 row costs out.2.2.2.2.2.2.2.2.2.1 out.2.2.2.2.2.2.2.2.2.2.1 out.2.2.2.2.2.2.2.2.2.2.2.1 away taped reading statements hasImage out.2.2.2.2.2.2.2.2.2.2.2.2.1 out.2.2.2.2.2.2.2.2.2.2.2.2.2.1 backs free goodFor loadedWhen bareGood bareWhen rowMany lots)) args s 0 0 A) (F0 m 8 ls []) := by
  obtain ⟨hx, hb, hml, hown, hts, hK, hret, hlk⟩ := id C
  intro n
  induction n with
  | zero => intro x2 x3 there inn coughs day hf; cases hf
  | succ n ih =>
    intro x2 x3 there inn coughs day hf H locs hs ls hl hk
    rw [X5_isDeepSo_L8] at hf
    refine lv_iload_n hx hb (dk hX5_isDeepSo_0 6 rfl) rfl (lv_at hl 3 rfl) ?_
    refine lv_aload_n hx hb (dk hX5_isDeepSo_0 7 rfl) rfl (lv_at hl 0 rfl) ?_
    refine rg ui5 rfl C hs 0 rfl 31 (by decide) tw_721 rfl rfl (dk hX5_isDeepSo_0 8 rfl) ?_
    refine lv_icmp_ge (tgt := 51) hx hb (dk hX5_isDeepSo_0 9 rfl) (by decide) (fun hc => ?_) (fun hc => ?_)
    · replace hf := ip hf hc
      exact hk _ _ _ _ _ hf _ _ hs _ (lv_sub hl [0, 2] rfl)
    · replace hf := in_ hf hc
      refine lv_iload_n hx hb (dk hX5_isDeepSo_0 10 rfl) rfl (lv_at hl 2 rfl) ?_
      refine lv_if_eq (tgt := 51) hx hb (dk hX5_isDeepSo_0 11 rfl) (by decide) (fun hc => ?_) (fun hc => ?_)
      · replace hf := ip hf hc
        exact hk _ _ _ _ _ hf _ _ hs _ (lv_sub hl [0, 2] rfl)
      · replace hf := in_ hf hc
        refine lv_aload_n hx hb (dk hX5_isDeepSo_0 12 rfl) rfl (lv_at hl 0 rfl) ?_
        refine lv_iload_n hx hb (dk hX5_isDeepSo_0 13 rfl) rfl (lv_at hl 1 rfl) ?_
        obtain ⟨u_3, e_4, hf⟩ := Option.bind_eq_some_iff.mp hf
        refine Ct.V (As := [.int x1]) (rest := []) (st1 := [.int u_3]) (w1 := (wM G ad refused there used hidden kind figure good load inn tape letter letterAt told kept row costs ships coughs day away taped reading statements hasImage isKeeping cursor backs free goodFor loadedWhen bareGood bareWhen rowMany lots)) C hs (c_X5_depth e_4) tw_877 tw_879 tw_37 tw_85 tw_880 nq_X5_depth (by decide) 0 5 rfl rfl rfl rfl hl.1 rfl (Nat.le_of_ble_eq_true rfl) (dk hX5_isDeepSo_0 14 rfl) ⟨Nat.zero_le _, Nat.zero_le _⟩ rfl (fun H locs hs => ?_)
        refine lv_aload_n hx hb (dk hX5_isDeepSo_0 15 rfl) rfl (lv_at hl 0 rfl) ?_
        refine rg ui5 rfl C hs 0 rfl 30 (by decide) tw_720 rfl rfl (dk hX5_isDeepSo_0 16 rfl) ?_
        refine lv_iload_n hx hb (dk hX5_isDeepSo_0 17 rfl) rfl (lv_at hl 3 rfl) ?_
        obtain ⟨v_5, e_6, hf⟩ := Option.bind_eq_some_iff.mp hf
        refine rild C hs 15 rfl e_6 (dk hX5_isDeepSo_0 18 rfl) ?_
        refine lv_icmp_ne (tgt := 38) hx hb (dk hX5_isDeepSo_0 19 rfl) (by decide) (fun hc => ?_) (fun hc => ?_)
        · replace hf := in_ hf hc
          refine lv_iconst (v := (0 : Int32)) hx hb (dk hX5_isDeepSo_0 22 rfl) (by decide) ?_
          refine lv_istore_n (lv' := [(2, .int (0 : Int32)), (0, .ref (ad 0)), (1, .int x1), (3, .int x3)]) hx hb (dk hX5_isDeepSo_0 23 rfl) rfl hl (by decide) rfl (fun ls hl => ?_)
          refine lv_aload_n hx hb (dk hX5_isDeepSo_0 24 rfl) rfl (lv_at hl 1 rfl) ?_
          refine lv_iconst (v := (0 : Int32)) hx hb (dk hX5_isDeepSo_0 25 rfl) (by decide) ?_
          obtain ⟨u_7, e_8, hf⟩ := Option.bind_eq_some_iff.mp hf
          refine Ct.V (As := [.int (0 : Int32)]) (rest := []) (st1 := []) (w1 := (wM G ad refused u_7.1 used hidden kind figure good load u_7.2.1 tape letter letterAt told kept row costs ships u_7.2.2.1 u_7.2.2.2 away taped reading statements hasImage isKeeping cursor backs free goodFor loadedWhen bareGood bareWhen rowMany lots)) C hs (c_X5_goesDay e_8) tw_866 tw_868 tw_35 tw_85 tw_869 nq_X5_goesDay (by decide) 0 5 rfl rfl rfl rfl hl.1 rfl (Nat.le_of_ble_eq_true rfl) (dk hX5_isDeepSo_0 26 rfl) ⟨Nat.zero_le _, Nat.zero_le _⟩ rfl (fun H locs hs => ?_)
          refine lv_iinc (v := (x3 + (1 : Int32))) (lv' := [(3, .int (x3 + (1 : Int32))), (2, .int (0 : Int32)), (0, .ref (ad 0)), (1, .int x1)]) hx hb (dk hX5_isDeepSo_0 27 rfl) hl (k := 3) rfl (by first | rfl | decide) (by decide) rfl (fun ls hl => ?_)
          refine lv_goto (tgt := 8) hx hb (dk hX5_isDeepSo_0 28 rfl) (by decide) ?_
          exact ih _ _ _ _ _ _ hf _ _ hs _ (lv_sub hl [2, 3, 1, 0] rfl) hk
        · replace hf := ip hf hc
          refine lv_iconst (v := (1 : Int32)) hx hb (dk hX5_isDeepSo_0 20 rfl) (by decide) ?_
          refine lv_goto (tgt := 39) hx hb (dk hX5_isDeepSo_0 21 rfl) (by decide) ?_
          refine lv_istore_n (lv' := [(2, .int (1 : Int32)), (0, .ref (ad 0)), (1, .int x1), (3, .int x3)]) hx hb (dk hX5_isDeepSo_0 23 rfl) rfl hl (by decide) rfl (fun ls hl => ?_)
          refine lv_aload_n hx hb (dk hX5_isDeepSo_0 24 rfl) rfl (lv_at hl 1 rfl) ?_
          refine lv_iconst (v := (0 : Int32)) hx hb (dk hX5_isDeepSo_0 25 rfl) (by decide) ?_
          obtain ⟨u_9, e_10, hf⟩ := Option.bind_eq_some_iff.mp hf
          refine Ct.V (As := [.int (0 : Int32)]) (rest := []) (st1 := []) (w1 := (wM G ad refused u_9.1 used hidden kind figure good load u_9.2.1 tape letter letterAt told kept row costs ships u_9.2.2.1 u_9.2.2.2 away taped reading statements hasImage isKeeping cursor backs free goodFor loadedWhen bareGood bareWhen rowMany lots)) C hs (c_X5_goesDay e_10) tw_866 tw_868 tw_35 tw_85 tw_869 nq_X5_goesDay (by decide) 0 5 rfl rfl rfl rfl hl.1 rfl (Nat.le_of_ble_eq_true rfl) (dk hX5_isDeepSo_0 26 rfl) ⟨Nat.zero_le _, Nat.zero_le _⟩ rfl (fun H locs hs => ?_)
          refine lv_iinc (v := (x3 + (1 : Int32))) (lv' := [(3, .int (x3 + (1 : Int32))), (2, .int (1 : Int32)), (0, .ref (ad 0)), (1, .int x1)]) hx hb (dk hX5_isDeepSo_0 27 rfl) hl (k := 3) rfl (by first | rfl | decide) (by decide) rfl (fun ls hl => ?_)
          refine lv_goto (tgt := 8) hx hb (dk hX5_isDeepSo_0 28 rfl) (by decide) ?_
          exact ih _ _ _ _ _ _ hf _ _ hs _ (lv_sub hl [2, 3, 1, 0] rfl) hk
set_option maxRecDepth 100000 in
set_option maxHeartbeats 4000000 in
theorem c_X5_isDeepSo {l : Launch} {G : Gx} {ad : Nat → Nat} {refused there used hidden kind figure good load inn tape letter letterAt told kept row costs : List Int32} {ships coughs day away taped reading statements hasImage isKeeping cursor backs free goodFor loadedWhen bareGood bareWhen rowMany lots : Int32} {p0 : Int32} {out : List Int32 × List Int32 × List Int32 × List Int32 × List Int32 × List Int32 × List Int32 × List Int32 × List Int32 × Int32 × Int32 × Int32 × Int32 × Int32 × Int32} (hf : X5_isDeepSo there used hidden kind figure good load inn kept row ships coughs day away isKeeping cursor free rowMany p0 = some out) : Ct l G yX5_isDeepSo cX5_isDeepSo 4 (some .boolean) 6 129 [.ref (ad 0), .int p0] (wM G ad refused there used hidden kind figure good load inn tape letter letterAt told kept row costs ships coughs day away taped reading statements hasImage isKeeping cursor backs free goodFor loadedWhen bareGood bareWhen rowMany lots) (some (.int out.2.2.2.2.2.2.2.2.2.2.2.2.2.2)) (wM G ad refused out.1 out.2.1 out.2.2.1 out.2.2.2.1 out.2.2.2.2.1 out.2.2.2.2.2.1 out.2.2.2.2.2.2.1 out.2.2.2.2.2.2.2.1 tape letter letterAt told out.2.2.2.2.2.2.2.2.1 row costs out.2.2.2.2.2.2.2.2.2.1 out.2.2.2.2.2.2.2.2.2.2.1 out.2.2.2.2.2.2.2.2.2.2.2.1 away taped reading statements hasImage out.2.2.2.2.2.2.2.2.2.2.2.2.1 out.2.2.2.2.2.2.2.2.2.2.2.2.2.1 backs free goodFor loadedWhen bareGood bareWhen rowMany lots) := by
  refine Ct.intro RX5 rfl (plainFor_of_name (by decide)) (Nat.le_of_ble_eq_true rfl) rfl ?_
  intro p e s m args below meth c A C H locs hs ls hl
  obtain ⟨hx, hb, hml, hown, hts, hK, hret, hlk⟩ := id C
  have hl : lv_has ls 4 [(0, .ref (ad 0)), (1, .int p0)] := hl
  unfold X5_isDeepSo at hf
  refine lv_aload_n hx hb (dk hX5_isDeepSo_0 0 rfl) rfl (lv_at hl 0 rfl) ?_
  obtain ⟨u_1, e_2, hf⟩ := Option.bind_eq_some_iff.mp hf
  refine Ct.V (As := []) (rest := []) (st1 := []) (w1 := (wM G ad refused u_1.1 u_1.2.1 u_1.2.2.1 u_1.2.2.2.1 u_1.2.2.2.2.1 u_1.2.2.2.2.2.1 u_1.2.2.2.2.2.2.1 u_1.2.2.2.2.2.2.2.1 tape letter letterAt told u_1.2.2.2.2.2.2.2.2.1 row costs u_1.2.2.2.2.2.2.2.2.2.1 u_1.2.2.2.2.2.2.2.2.2.2.1 u_1.2.2.2.2.2.2.2.2.2.2.2.1 away taped reading statements hasImage u_1.2.2.2.2.2.2.2.2.2.2.2.2.1 u_1.2.2.2.2.2.2.2.2.2.2.2.2.2 backs free goodFor loadedWhen bareGood bareWhen rowMany lots)) C hs (c_X5_thinks e_2) tw_993 tw_995 tw_51 tw_85 tw_996 nq_X5_thinks (by decide) 0 5 rfl rfl rfl rfl hl.1 rfl (Nat.le_of_ble_eq_true rfl) (dk hX5_isDeepSo_0 1 rfl) ⟨Nat.zero_le _, Nat.zero_le _⟩ rfl (fun H locs hs => ?_)
  refine lv_iconst (v := (1 : Int32)) hx hb (dk hX5_isDeepSo_0 2 rfl) (by decide) ?_
  refine lv_istore_n (lv' := [(2, .int (1 : Int32)), (0, .ref (ad 0)), (1, .int p0)]) hx hb (dk hX5_isDeepSo_0 3 rfl) rfl hl (by decide) rfl (fun ls hl => ?_)
  refine lv_iconst (v := (0 : Int32)) hx hb (dk hX5_isDeepSo_0 4 rfl) (by decide) ?_
  refine lv_istore_n (lv' := [(3, .int (0 : Int32)), (2, .int (1 : Int32)), (0, .ref (ad 0)), (1, .int p0)]) hx hb (dk hX5_isDeepSo_0 5 rfl) rfl hl (by decide) rfl (fun ls hl => ?_)
  refine l_X5_isDeepSo_L8 C 1000 _ _ _ _ _ _ hf _ _ hs _ (lv_sub hl [2, 3, 1, 0] rfl) (fun y2_11 there_12 inn_13 coughs_14 day_15 hf H locs hs ls hl => ?_)
  refine lv_aload_n hx hb (dk hX5_isDeepSo_0 29 rfl) rfl (lv_at hl 0 rfl) ?_
  obtain ⟨u_16, e_17, hf⟩ := Option.bind_eq_some_iff.mp hf
  refine Ct.V (As := []) (rest := []) (st1 := []) (w1 := (wM G ad refused u_16.1 u_16.2.1 u_16.2.2.1 u_16.2.2.2.1 u_16.2.2.2.2.1 u_16.2.2.2.2.2.1 u_16.2.2.2.2.2.2.1 u_16.2.2.2.2.2.2.2.1 tape letter letterAt told u_16.2.2.2.2.2.2.2.2.1 row costs u_16.2.2.2.2.2.2.2.2.2.1 u_16.2.2.2.2.2.2.2.2.2.2.1 u_16.2.2.2.2.2.2.2.2.2.2.2.1 away taped reading statements hasImage u_16.2.2.2.2.2.2.2.2.2.2.2.2.1 u_16.2.2.2.2.2.2.2.2.2.2.2.2.2 backs free goodFor loadedWhen bareGood bareWhen rowMany lots)) C hs (c_X5_forgets e_17) tw_997 tw_999 tw_52 tw_85 tw_1000 nq_X5_forgets (by decide) 0 5 rfl rfl rfl rfl hl.1 rfl (Nat.le_of_ble_eq_true rfl) (dk hX5_isDeepSo_0 30 rfl) ⟨Nat.zero_le _, Nat.zero_le _⟩ rfl (fun H locs hs => ?_)
  refine lv_iload_n hx hb (dk hX5_isDeepSo_0 31 rfl) rfl (lv_at hl 1 rfl) ?_
  obtain ⟨b_18, hz_19, hf⟩ := Option.bind_eq_some_iff.mp hf
  obtain ⟨hxe, hz⟩ := c01_z hz_19
  replace hxe := hxe.symm
  subst hxe
  cases hf
  exact rz hz C hs (dk hX5_isDeepSo_0 32 rfl)

def X5_bitsFor__figure_L11 (k : Int32 → List Int32 → List Int32 → List Int32 → List Int32 → List Int32 → List Int32 → List Int32 → List Int32 → List Int32 → Int32 → Int32 → Int32 → Int32 → Int32 → Option (List Int32 × List Int32 × List Int32 × List Int32 × List Int32 × List Int32 × List Int32 × List Int32 × List Int32 × Int32 × Int32 × Int32 × Int32 × Int32 × Int32)) (row : List Int32) (away : Int32) (free : Int32) (rowMany : Int32) (x2 : Int32) (x3 : Int32) : Nat → Int32 → Int32 → List Int32 → List Int32 → List Int32 → List Int32 → List Int32 → List Int32 → List Int32 → List Int32 → List Int32 → Int32 → Int32 → Int32 → Int32 → Int32 → Option (List Int32 × List Int32 × List Int32 × List Int32 × List Int32 × List Int32 × List Int32 × List Int32 × List Int32 × Int32 × Int32 × Int32 × Int32 × Int32 × Int32)
  | 0, _, _, _, _, _, _, _, _, _, _, _, _, _, _, _, _ => none
  | n + 1, x5, x6, there, used, hidden, kind, figure, good, load, inn, kept, ships, coughs, day, isKeeping, cursor =>
  if x3 ≤ x6 then
  k x5 there used hidden kind figure good load inn kept ships coughs day isKeeping cursor
  else
  (wr figure x2 x6).bind fun figure_3 =>
  (X5_isDeepSo there used hidden kind figure_3 good load inn kept row ships coughs day away isKeeping cursor free rowMany x2).bind fun u_5 =>
  if u_5.2.2.2.2.2.2.2.2.2.2.2.2.2.2 = (0 : Int32) then
  X5_bitsFor__figure_L11 k row away free rowMany x2 x3 n (x5 ||| (0 : Int32)) (x6 + (1 : Int32)) u_5.1 u_5.2.1 u_5.2.2.1 u_5.2.2.2.1 u_5.2.2.2.2.1 u_5.2.2.2.2.2.1 u_5.2.2.2.2.2.2.1 u_5.2.2.2.2.2.2.2.1 u_5.2.2.2.2.2.2.2.2.1 u_5.2.2.2.2.2.2.2.2.2.1 u_5.2.2.2.2.2.2.2.2.2.2.1 u_5.2.2.2.2.2.2.2.2.2.2.2.1 u_5.2.2.2.2.2.2.2.2.2.2.2.2.1 u_5.2.2.2.2.2.2.2.2.2.2.2.2.2.1
  else
  X5_bitsFor__figure_L11 k row away free rowMany x2 x3 n (x5 ||| ((1 : Int32) <<< (x6 &&& 31))) (x6 + (1 : Int32)) u_5.1 u_5.2.1 u_5.2.2.1 u_5.2.2.2.1 u_5.2.2.2.2.1 u_5.2.2.2.2.2.1 u_5.2.2.2.2.2.2.1 u_5.2.2.2.2.2.2.2.1 u_5.2.2.2.2.2.2.2.2.1 u_5.2.2.2.2.2.2.2.2.2.1 u_5.2.2.2.2.2.2.2.2.2.2.1 u_5.2.2.2.2.2.2.2.2.2.2.2.1 u_5.2.2.2.2.2.2.2.2.2.2.2.2.1 u_5.2.2.2.2.2.2.2.2.2.2.2.2.2.1
def X5_bitsFor__figure (there : List Int32) (used : List Int32) (hidden : List Int32) (kind : List Int32) (figure : List Int32) (good : List Int32) (load : List Int32) (inn : List Int32) (kept : List Int32) (row : List Int32) (ships : Int32) (coughs : Int32) (day : Int32) (away : Int32) (isKeeping : Int32) (cursor : Int32) (free : Int32) (rowMany : Int32) (p1 : Int32) (p2 : Int32) : Option (List Int32 × List Int32 × List Int32 × List Int32 × List Int32 × List Int32 × List Int32 × List Int32 × List Int32 × Int32 × Int32 × Int32 × Int32 × Int32 × Int32) :=
  (rd figure p1).bind fun v_1 =>
  X5_bitsFor__figure_L11 (fun y5_7 there_8 used_9 hidden_10 kind_11 figure_12 good_13 load_14 inn_15 kept_16 ships_17 coughs_18 day_19 isKeeping_20 cursor_21 =>
  (wr figure_12 p1 v_1).bind fun figure_22 =>
  some (there_8, used_9, hidden_10, kind_11, figure_22, good_13, load_14, inn_15, kept_16, ships_17, coughs_18, day_19, isKeeping_20, cursor_21, y5_7)) row away free rowMany p1 p2 1000 (0 : Int32) (0 : Int32) there used hidden kind figure good load inn kept ships coughs day isKeeping cursor
set_option maxRecDepth 100000 in
set_option maxHeartbeats 4000000 in
theorem l_X5_bitsFor__figure_L11 {l : Launch} {p : Program} {e : Env} {s : State} {m : MethodId} {args : Array Value} {below : List Frame} {meth : Method} {c : Code} {A : Nat → Prop} {G : Gx} {ad : Nat → Nat} {refused tape letter letterAt told row costs : List Int32} {away taped reading statements hasImage backs free goodFor loadedWhen bareGood bareWhen rowMany lots : Int32} {x2 : Int32} {x3 : Int32} {x4 : Int32} {k : Int32 → List Int32 → List Int32 → List Int32 → List Int32 → List Int32 → List Int32 → List Int32 → List Int32 → List Int32 → Int32 → Int32 → Int32 → Int32 → Int32 → Option (List Int32 × List Int32 × List Int32 × List Int32 × List Int32 × List Int32 × List Int32 × List Int32 × List Int32 × Int32 × Int32 × Int32 × Int32 × Int32 × Int32)} {out : List Int32 × List Int32 × List Int32 × List Int32 × List Int32 × List Int32 × List Int32 × List Int32 × List Int32 × Int32 × Int32 × Int32 × Int32 × Int32 × Int32} (C : Cx p s m args meth c cX5_bitsFor RX5 7 (some .int) G) : ∀ (n : Nat) (x5 : Int32) (x6 : Int32) (there : List Int32) (used : List Int32) (hidden : List Int32) (kind : List Int32) (figure : List Int32) (good : List Int32) (load : List Int32) (inn : List Int32) (kept : List Int32) (ships : Int32) (coughs : Int32) (day : Int32) (isKeeping : Int32) (cursor : Int32), X5_bitsFor__figure_L11 k row away free rowMany x2 x3 n x5 x6 there used hidden kind figure good load inn kept ships coughs day isKeeping cursor = some out → ∀ (H : Heap) (locs : List Loc), St G A s.heap H locs (wM G ad refused there used hidden kind figure good load inn tape letter letterAt told kept row costs ships coughs day away taped reading statements hasImage isKeeping cursor backs free goodFor loadedWhen bareGood bareWhen rowMany lots) → ∀ ls : Array Slot, lv_has ls 7 [(0, .ref (ad 0)), (1, .ref (ad 6)), (2, .int x2), (3, .int x3), (4, .int x4), (5, .int x5), (6, .int x6)] → (∀ (y5 : Int32) (z_there : List Int32) (z_used : List Int32) (z_hidden : List Int32) (z_kind : List Int32) (z_figure : List Int32) (z_good : List Int32) (z_load : List Int32) (z_inn : List Int32) (z_kept : List Int32) (z_ships : Int32) (z_coughs : Int32) (z_day : Int32) (z_isKeeping : Int32) (z_cursor : Int32), k y5 z_there z_used z_hidden z_kind z_figure z_good z_load z_inn z_kept z_ships z_coughs z_day z_isKeeping z_cursor = some out → ∀ (H : Heap) (locs : List Loc), St G A s.heap H locs (wM G ad refused z_there z_used z_hidden z_kind z_figure z_good z_load z_inn tape letter letterAt told z_kept row costs z_ships z_coughs z_day away taped reading statements hasImage z_isKeeping z_cursor backs free goodFor loadedWhen bareGood bareWhen rowMany lots) → ∀ ls : Array Slot, lv_has ls 7 [(1, .ref (ad 6)), (2, .int x2), (4, .int x4), (5, .int y5)] → W p l e (rmOf 7 152) s m args below meth c H locs 0 0 (MQ below (Qof G A (some (.int out.2.2.2.2.2.2.2.2.2.2.2.2.2.2)) (wM G ad refused out.1 out.2.1 out.2.2.1 out.2.2.2.1 out.2.2.2.2.1 out.2.2.2.2.2.1 out.2.2.2.2.2.2.1 out.2.2.2.2.2.2.2.1 tape letter letterAt told out.2.2.2.2.2.2.2.2.1 row costs out.2.2.2.2.2.2.2.2.2.1 out.2.2.2.2.2.2.2.2.2.2.1 out.2.2.2.2.2.2.2.2.2.2.2.1 away taped reading statements hasImage out.2.2.2.2.2.2.2.2.2.2.2.2.1 out.2.2.2.2.2.2.2.2.2.2.2.2.2.1 backs free goodFor loadedWhen bareGood bareWhen rowMany lots)) args s 0 0 A) (F0 m 49 ls [])) → W p l e (rmOf 7 152) s m args below meth c H locs 0 0 (MQ below (Qof G A (some (.int out.2.2.2.2.2.2.2.2.2.2.2.2.2.2)) (wM G ad refused out.1 out.2.1 out.2.2.1 out.2.2.2.1 out.2.2.2.2.1 out.2.2.2.2.2.1 out.2.2.2.2.2.2.1 out.2.2.2.2.2.2.2.1 tape letter letterAt told out.2.2.2.2.2.2.2.2.1 row costs out.2.2.2.2.2.2.2.2.2.1 out.2.2.2.2.2.2.2.2.2.2.1 out.2.2.2.2.2.2.2.2.2.2.2.1 away taped reading statements hasImage out.2.2.2.2.2.2.2.2.2.2.2.2.1 out.2.2.2.2.2.2.2.2.2.2.2.2.2.1 backs free goodFor loadedWhen bareGood bareWhen rowMany lots)) args s 0 0 A) (F0 m 11 ls []) := by
  obtain ⟨hx, hb, hml, hown, hts, hK, hret, hlk⟩ := id C
  intro n
  induction n with
  | zero => intro x5 x6 there used hidden kind figure good load inn kept ships coughs day isKeeping cursor hf; cases hf
  | succ n ih =>
    intro x5 x6 there used hidden kind figure good load inn kept ships coughs day isKeeping cursor hf H locs hs ls hl hk
    rw [X5_bitsFor__figure_L11] at hf
    refine lv_iload hx hb (dk hX5_bitsFor_0 8 rfl) (lv_at hl 6 rfl) ?_
    refine lv_iload_n hx hb (dk hX5_bitsFor_0 9 rfl) rfl (lv_at hl 3 rfl) ?_
    refine lv_icmp_ge (tgt := 49) hx hb (dk hX5_bitsFor_0 10 rfl) (by decide) (fun hc => ?_) (fun hc => ?_)
    · replace hf := ip hf hc
      exact hk _ _ _ _ _ _ _ _ _ _ _ _ _ _ _ hf _ _ hs _ (lv_sub hl [1, 2, 4, 5] rfl)
    · replace hf := in_ hf hc
      refine lv_aload_n hx hb (dk hX5_bitsFor_0 11 rfl) rfl (lv_at hl 1 rfl) ?_
      refine lv_iload_n hx hb (dk hX5_bitsFor_0 12 rfl) rfl (lv_at hl 2 rfl) ?_
      refine lv_iload hx hb (dk hX5_bitsFor_0 13 rfl) (lv_at hl 6 rfl) ?_
      obtain ⟨figure_3, e_4, hf⟩ := Option.bind_eq_some_iff.mp hf
      refine rist (w1 := (wM G ad refused there used hidden kind figure_3 good load inn tape letter letterAt told kept row costs ships coughs day away taped reading statements hasImage isKeeping cursor backs free goodFor loadedWhen bareGood bareWhen rowMany lots)) C hs 6 rfl e_4 rfl (dk hX5_bitsFor_0 14 rfl) (fun H locs hs => ?_)
      refine lv_iload hx hb (dk hX5_bitsFor_0 15 rfl) (lv_at hl 5 rfl) ?_
      refine lv_aload_n hx hb (dk hX5_bitsFor_0 16 rfl) rfl (lv_at hl 0 rfl) ?_
      refine lv_iload_n hx hb (dk hX5_bitsFor_0 17 rfl) rfl (lv_at hl 2 rfl) ?_
      obtain ⟨u_5, e_6, hf⟩ := Option.bind_eq_some_iff.mp hf
      refine Ct.V (As := [.int x2]) (rest := [.int x5]) (st1 := [.int u_5.2.2.2.2.2.2.2.2.2.2.2.2.2.2, .int x5]) (w1 := (wM G ad refused u_5.1 u_5.2.1 u_5.2.2.1 u_5.2.2.2.1 u_5.2.2.2.2.1 u_5.2.2.2.2.2.1 u_5.2.2.2.2.2.2.1 u_5.2.2.2.2.2.2.2.1 tape letter letterAt told u_5.2.2.2.2.2.2.2.2.1 row costs u_5.2.2.2.2.2.2.2.2.2.1 u_5.2.2.2.2.2.2.2.2.2.2.1 u_5.2.2.2.2.2.2.2.2.2.2.2.1 away taped reading statements hasImage u_5.2.2.2.2.2.2.2.2.2.2.2.2.1 u_5.2.2.2.2.2.2.2.2.2.2.2.2.2.1 backs free goodFor loadedWhen bareGood bareWhen rowMany lots)) C hs (c_X5_isDeepSo e_6) tw_1117 tw_1119 tw_68 tw_85 tw_1120 nq_X5_isDeepSo (by decide) 0 5 rfl rfl rfl rfl hl.1 rfl (Nat.le_of_ble_eq_true rfl) (dk hX5_bitsFor_0 18 rfl) ⟨Nat.zero_le _, Nat.zero_le _⟩ rfl (fun H locs hs => ?_)
      refine lv_if_eq (tgt := 39) hx hb (dk hX5_bitsFor_0 19 rfl) (by decide) (fun hc => ?_) (fun hc => ?_)
      · replace hf := ip hf hc
        refine lv_iconst (v := (0 : Int32)) hx hb (dk hX5_bitsFor_0 24 rfl) (by decide) ?_
        refine lv_ior hx hb (dk hX5_bitsFor_0 25 rfl) ?_
        refine lv_istore (lv' := [(5, .int (x5 ||| (0 : Int32))), (0, .ref (ad 0)), (1, .ref (ad 6)), (2, .int x2), (3, .int x3), (4, .int x4), (6, .int x6)]) hx hb (dk hX5_bitsFor_0 26 rfl) hl (by decide) rfl (fun ls hl => ?_)
        refine lv_iinc (v := (x6 + (1 : Int32))) (lv' := [(6, .int (x6 + (1 : Int32))), (5, .int (x5 ||| (0 : Int32))), (0, .ref (ad 0)), (1, .ref (ad 6)), (2, .int x2), (3, .int x3), (4, .int x4)]) hx hb (dk hX5_bitsFor_0 27 rfl) hl (k := 6) rfl (by first | rfl | decide) (by decide) rfl (fun ls hl => ?_)
        refine lv_goto (tgt := 11) hx hb (dk hX5_bitsFor_0 28 rfl) (by decide) ?_
        exact ih _ _ _ _ _ _ _ _ _ _ _ _ _ _ _ _ hf _ _ hs _ (lv_sub hl [2, 3, 4, 5, 6, 1, 0] rfl) hk
      · replace hf := in_ hf hc
        refine lv_iconst (v := (1 : Int32)) hx hb (dk hX5_bitsFor_0 20 rfl) (by decide) ?_
        refine lv_iload hx hb (dk hX5_bitsFor_0 21 rfl) (lv_at hl 6 rfl) ?_
        refine lv_ishl hx hb (dk hX5_bitsFor_0 22 rfl) ?_
        refine lv_goto (tgt := 40) hx hb (dk hX5_bitsFor_0 23 rfl) (by decide) ?_
        refine lv_ior hx hb (dk hX5_bitsFor_0 25 rfl) ?_
        refine lv_istore (lv' := [(5, .int (x5 ||| ((1 : Int32) <<< (x6 &&& 31)))), (0, .ref (ad 0)), (1, .ref (ad 6)), (2, .int x2), (3, .int x3), (4, .int x4), (6, .int x6)]) hx hb (dk hX5_bitsFor_0 26 rfl) hl (by decide) rfl (fun ls hl => ?_)
        refine lv_iinc (v := (x6 + (1 : Int32))) (lv' := [(6, .int (x6 + (1 : Int32))), (5, .int (x5 ||| ((1 : Int32) <<< (x6 &&& 31)))), (0, .ref (ad 0)), (1, .ref (ad 6)), (2, .int x2), (3, .int x3), (4, .int x4)]) hx hb (dk hX5_bitsFor_0 27 rfl) hl (k := 6) rfl (by first | rfl | decide) (by decide) rfl (fun ls hl => ?_)
        refine lv_goto (tgt := 11) hx hb (dk hX5_bitsFor_0 28 rfl) (by decide) ?_
        exact ih _ _ _ _ _ _ _ _ _ _ _ _ _ _ _ _ hf _ _ hs _ (lv_sub hl [2, 3, 4, 5, 6, 1, 0] rfl) hk
set_option maxRecDepth 100000 in
set_option maxHeartbeats 4000000 in
theorem c_X5_bitsFor__figure {l : Launch} {G : Gx} {ad : Nat → Nat} {refused there used hidden kind figure good load inn tape letter letterAt told kept row costs : List Int32} {ships coughs day away taped reading statements hasImage isKeeping cursor backs free goodFor loadedWhen bareGood bareWhen rowMany lots : Int32} {p1 : Int32} {p2 : Int32} {out : List Int32 × List Int32 × List Int32 × List Int32 × List Int32 × List Int32 × List Int32 × List Int32 × List Int32 × Int32 × Int32 × Int32 × Int32 × Int32 × Int32} (hf : X5_bitsFor__figure there used hidden kind figure good load inn kept row ships coughs day away isKeeping cursor free rowMany p1 p2 = some out) : Ct l G yX5_bitsFor cX5_bitsFor 7 (some .int) 7 152 [.ref (ad 0), .ref (ad 6), .int p1, .int p2] (wM G ad refused there used hidden kind figure good load inn tape letter letterAt told kept row costs ships coughs day away taped reading statements hasImage isKeeping cursor backs free goodFor loadedWhen bareGood bareWhen rowMany lots) (some (.int out.2.2.2.2.2.2.2.2.2.2.2.2.2.2)) (wM G ad refused out.1 out.2.1 out.2.2.1 out.2.2.2.1 out.2.2.2.2.1 out.2.2.2.2.2.1 out.2.2.2.2.2.2.1 out.2.2.2.2.2.2.2.1 tape letter letterAt told out.2.2.2.2.2.2.2.2.1 row costs out.2.2.2.2.2.2.2.2.2.1 out.2.2.2.2.2.2.2.2.2.2.1 out.2.2.2.2.2.2.2.2.2.2.2.1 away taped reading statements hasImage out.2.2.2.2.2.2.2.2.2.2.2.2.1 out.2.2.2.2.2.2.2.2.2.2.2.2.2.1 backs free goodFor loadedWhen bareGood bareWhen rowMany lots) := by
  refine Ct.intro RX5 rfl (plainFor_of_name (by decide)) (Nat.le_of_ble_eq_true rfl) rfl ?_
  intro p e s m args below meth c A C H locs hs ls hl
  obtain ⟨hx, hb, hml, hown, hts, hK, hret, hlk⟩ := id C
  have hl : lv_has ls 7 [(0, .ref (ad 0)), (1, .ref (ad 6)), (2, .int p1), (3, .int p2)] := hl
  unfold X5_bitsFor__figure at hf
  refine lv_aload_n hx hb (dk hX5_bitsFor_0 0 rfl) rfl (lv_at hl 1 rfl) ?_
  refine lv_iload_n hx hb (dk hX5_bitsFor_0 1 rfl) rfl (lv_at hl 2 rfl) ?_
  obtain ⟨v_1, e_2, hf⟩ := Option.bind_eq_some_iff.mp hf
  refine rild C hs 6 rfl e_2 (dk hX5_bitsFor_0 2 rfl) ?_
  refine lv_istore (lv' := [(4, .int v_1), (0, .ref (ad 0)), (1, .ref (ad 6)), (2, .int p1), (3, .int p2)]) hx hb (dk hX5_bitsFor_0 3 rfl) hl (by decide) rfl (fun ls hl => ?_)
  refine lv_iconst (v := (0 : Int32)) hx hb (dk hX5_bitsFor_0 4 rfl) (by decide) ?_
  refine lv_istore (lv' := [(5, .int (0 : Int32)), (4, .int v_1), (0, .ref (ad 0)), (1, .ref (ad 6)), (2, .int p1), (3, .int p2)]) hx hb (dk hX5_bitsFor_0 5 rfl) hl (by decide) rfl (fun ls hl => ?_)
  refine lv_iconst (v := (0 : Int32)) hx hb (dk hX5_bitsFor_0 6 rfl) (by decide) ?_
  refine lv_istore (lv' := [(6, .int (0 : Int32)), (5, .int (0 : Int32)), (4, .int v_1), (0, .ref (ad 0)), (1, .ref (ad 6)), (2, .int p1), (3, .int p2)]) hx hb (dk hX5_bitsFor_0 7 rfl) hl (by decide) rfl (fun ls hl => ?_)
  refine l_X5_bitsFor__figure_L11 C 1000 _ _ _ _ _ _ _ _ _ _ _ _ _ _ _ _ hf _ _ hs _ (lv_sub hl [3, 4, 5, 6, 2, 1, 0] rfl) (fun y5_7 there_8 used_9 hidden_10 kind_11 figure_12 good_13 load_14 inn_15 kept_16 ships_17 coughs_18 day_19 isKeeping_20 cursor_21 hf H locs hs ls hl => ?_)
  refine lv_aload_n hx hb (dk hX5_bitsFor_0 29 rfl) rfl (lv_at hl 0 rfl) ?_
  refine lv_iload_n hx hb (dk hX5_bitsFor_0 30 rfl) rfl (lv_at hl 1 rfl) ?_
  refine lv_iload hx hb (dk hX5_bitsFor_0 31 rfl) (lv_at hl 2 rfl) ?_
  obtain ⟨figure_22, e_23, hf⟩ := Option.bind_eq_some_iff.mp hf
  refine rist (w1 := (wM G ad refused there_8 used_9 hidden_10 kind_11 figure_22 good_13 load_14 inn_15 tape letter letterAt told kept_16 row costs ships_17 coughs_18 day_19 away taped reading statements hasImage isKeeping_20 cursor_21 backs free goodFor loadedWhen bareGood bareWhen rowMany lots)) C hs 6 rfl e_23 rfl (dk hX5_bitsFor_0 32 rfl) (fun H locs hs => ?_)
  refine lv_iload hx hb (dk hX5_bitsFor_0 33 rfl) (lv_at hl 3 rfl) ?_
  cases hf
  exact ri C hs (dk hX5_bitsFor_0 34 rfl)

def X5_bitsFor__kind_L11 (k : Int32 → List Int32 → List Int32 → List Int32 → List Int32 → List Int32 → List Int32 → List Int32 → List Int32 → List Int32 → Int32 → Int32 → Int32 → Int32 → Int32 → Option (List Int32 × List Int32 × List Int32 × List Int32 × List Int32 × List Int32 × List Int32 × List Int32 × List Int32 × Int32 × Int32 × Int32 × Int32 × Int32 × Int32)) (row : List Int32) (away : Int32) (free : Int32) (rowMany : Int32) (x2 : Int32) (x3 : Int32) : Nat → Int32 → Int32 → List Int32 → List Int32 → List Int32 → List Int32 → List Int32 → List Int32 → List Int32 → List Int32 → List Int32 → Int32 → Int32 → Int32 → Int32 → Int32 → Option (List Int32 × List Int32 × List Int32 × List Int32 × List Int32 × List Int32 × List Int32 × List Int32 × List Int32 × Int32 × Int32 × Int32 × Int32 × Int32 × Int32)
  | 0, _, _, _, _, _, _, _, _, _, _, _, _, _, _, _, _ => none
  | n + 1, x5, x6, there, used, hidden, kind, figure, good, load, inn, kept, ships, coughs, day, isKeeping, cursor =>
  if x3 ≤ x6 then
  k x5 there used hidden kind figure good load inn kept ships coughs day isKeeping cursor
  else
  (wr kind x2 x6).bind fun kind_3 =>
  (X5_isDeepSo there used hidden kind_3 figure good load inn kept row ships coughs day away isKeeping cursor free rowMany x2).bind fun u_5 =>
  if u_5.2.2.2.2.2.2.2.2.2.2.2.2.2.2 = (0 : Int32) then
  X5_bitsFor__kind_L11 k row away free rowMany x2 x3 n (x5 ||| (0 : Int32)) (x6 + (1 : Int32)) u_5.1 u_5.2.1 u_5.2.2.1 u_5.2.2.2.1 u_5.2.2.2.2.1 u_5.2.2.2.2.2.1 u_5.2.2.2.2.2.2.1 u_5.2.2.2.2.2.2.2.1 u_5.2.2.2.2.2.2.2.2.1 u_5.2.2.2.2.2.2.2.2.2.1 u_5.2.2.2.2.2.2.2.2.2.2.1 u_5.2.2.2.2.2.2.2.2.2.2.2.1 u_5.2.2.2.2.2.2.2.2.2.2.2.2.1 u_5.2.2.2.2.2.2.2.2.2.2.2.2.2.1
  else
  X5_bitsFor__kind_L11 k row away free rowMany x2 x3 n (x5 ||| ((1 : Int32) <<< (x6 &&& 31))) (x6 + (1 : Int32)) u_5.1 u_5.2.1 u_5.2.2.1 u_5.2.2.2.1 u_5.2.2.2.2.1 u_5.2.2.2.2.2.1 u_5.2.2.2.2.2.2.1 u_5.2.2.2.2.2.2.2.1 u_5.2.2.2.2.2.2.2.2.1 u_5.2.2.2.2.2.2.2.2.2.1 u_5.2.2.2.2.2.2.2.2.2.2.1 u_5.2.2.2.2.2.2.2.2.2.2.2.1 u_5.2.2.2.2.2.2.2.2.2.2.2.2.1 u_5.2.2.2.2.2.2.2.2.2.2.2.2.2.1
def X5_bitsFor__kind (there : List Int32) (used : List Int32) (hidden : List Int32) (kind : List Int32) (figure : List Int32) (good : List Int32) (load : List Int32) (inn : List Int32) (kept : List Int32) (row : List Int32) (ships : Int32) (coughs : Int32) (day : Int32) (away : Int32) (isKeeping : Int32) (cursor : Int32) (free : Int32) (rowMany : Int32) (p1 : Int32) (p2 : Int32) : Option (List Int32 × List Int32 × List Int32 × List Int32 × List Int32 × List Int32 × List Int32 × List Int32 × List Int32 × Int32 × Int32 × Int32 × Int32 × Int32 × Int32) :=
  (rd kind p1).bind fun v_1 =>
  X5_bitsFor__kind_L11 (fun y5_7 there_8 used_9 hidden_10 kind_11 figure_12 good_13 load_14 inn_15 kept_16 ships_17 coughs_18 day_19 isKeeping_20 cursor_21 =>
  (wr kind_11 p1 v_1).bind fun kind_22 =>
  some (there_8, used_9, hidden_10, kind_22, figure_12, good_13, load_14, inn_15, kept_16, ships_17, coughs_18, day_19, isKeeping_20, cursor_21, y5_7)) row away free rowMany p1 p2 1000 (0 : Int32) (0 : Int32) there used hidden kind figure good load inn kept ships coughs day isKeeping cursor
set_option maxRecDepth 100000 in
set_option maxHeartbeats 4000000 in
theorem l_X5_bitsFor__kind_L11 {l : Launch} {p : Program} {e : Env} {s : State} {m : MethodId} {args : Array Value} {below : List Frame} {meth : Method} {c : Code} {A : Nat → Prop} {G : Gx} {ad : Nat → Nat} {refused tape letter letterAt told row costs : List Int32} {away taped reading statements hasImage backs free goodFor loadedWhen bareGood bareWhen rowMany lots : Int32} {x2 : Int32} {x3 : Int32} {x4 : Int32} {k : Int32 → List Int32 → List Int32 → List Int32 → List Int32 → List Int32 → List Int32 → List Int32 → List Int32 → List Int32 → Int32 → Int32 → Int32 → Int32 → Int32 → Option (List Int32 × List Int32 × List Int32 × List Int32 × List Int32 × List Int32 × List Int32 × List Int32 × List Int32 × Int32 × Int32 × Int32 × Int32 × Int32 × Int32)} {out : List Int32 × List Int32 × List Int32 × List Int32 × List Int32 × List Int32 × List Int32 × List Int32 × List Int32 × Int32 × Int32 × Int32 × Int32 × Int32 × Int32} (C : Cx p s m args meth c cX5_bitsFor RX5 7 (some .int) G) : ∀ (n : Nat) (x5 : Int32) (x6 : Int32) (there : List Int32) (used : List Int32) (hidden : List Int32) (kind : List Int32) (figure : List Int32) (good : List Int32) (load : List Int32) (inn : List Int32) (kept : List Int32) (ships : Int32) (coughs : Int32) (day : Int32) (isKeeping : Int32) (cursor : Int32), X5_bitsFor__kind_L11 k row away free rowMany x2 x3 n x5 x6 there used hidden kind figure good load inn kept ships coughs day isKeeping cursor = some out → ∀ (H : Heap) (locs : List Loc), St G A s.heap H locs (wM G ad refused there used hidden kind figure good load inn tape letter letterAt told kept row costs ships coughs day away taped reading statements hasImage isKeeping cursor backs free goodFor loadedWhen bareGood bareWhen rowMany lots) → ∀ ls : Array Slot, lv_has ls 7 [(0, .ref (ad 0)), (1, .ref (ad 5)), (2, .int x2), (3, .int x3), (4, .int x4), (5, .int x5), (6, .int x6)] → (∀ (y5 : Int32) (z_there : List Int32) (z_used : List Int32) (z_hidden : List Int32) (z_kind : List Int32) (z_figure : List Int32) (z_good : List Int32) (z_load : List Int32) (z_inn : List Int32) (z_kept : List Int32) (z_ships : Int32) (z_coughs : Int32) (z_day : Int32) (z_isKeeping : Int32) (z_cursor : Int32), k y5 z_there z_used z_hidden z_kind z_figure z_good z_load z_inn z_kept z_ships z_coughs z_day z_isKeeping z_cursor = some out → ∀ (H : Heap) (locs : List Loc), St G A s.heap H locs (wM G ad refused z_there z_used z_hidden z_kind z_figure z_good z_load z_inn tape letter letterAt told z_kept row costs z_ships z_coughs z_day away taped reading statements hasImage z_isKeeping z_cursor backs free goodFor loadedWhen bareGood bareWhen rowMany lots) → ∀ ls : Array Slot, lv_has ls 7 [(1, .ref (ad 5)), (2, .int x2), (4, .int x4), (5, .int y5)] → W p l e (rmOf 7 152) s m args below meth c H locs 0 0 (MQ below (Qof G A (some (.int out.2.2.2.2.2.2.2.2.2.2.2.2.2.2)) (wM G ad refused out.1 out.2.1 out.2.2.1 out.2.2.2.1 out.2.2.2.2.1 out.2.2.2.2.2.1 out.2.2.2.2.2.2.1 out.2.2.2.2.2.2.2.1 tape letter letterAt told out.2.2.2.2.2.2.2.2.1 row costs out.2.2.2.2.2.2.2.2.2.1 out.2.2.2.2.2.2.2.2.2.2.1 out.2.2.2.2.2.2.2.2.2.2.2.1 away taped reading statements hasImage out.2.2.2.2.2.2.2.2.2.2.2.2.1 out.2.2.2.2.2.2.2.2.2.2.2.2.2.1 backs free goodFor loadedWhen bareGood bareWhen rowMany lots)) args s 0 0 A) (F0 m 49 ls [])) → W p l e (rmOf 7 152) s m args below meth c H locs 0 0 (MQ below (Qof G A (some (.int out.2.2.2.2.2.2.2.2.2.2.2.2.2.2)) (wM G ad refused out.1 out.2.1 out.2.2.1 out.2.2.2.1 out.2.2.2.2.1 out.2.2.2.2.2.1 out.2.2.2.2.2.2.1 out.2.2.2.2.2.2.2.1 tape letter letterAt told out.2.2.2.2.2.2.2.2.1 row costs out.2.2.2.2.2.2.2.2.2.1 out.2.2.2.2.2.2.2.2.2.2.1 out.2.2.2.2.2.2.2.2.2.2.2.1 away taped reading statements hasImage out.2.2.2.2.2.2.2.2.2.2.2.2.1 out.2.2.2.2.2.2.2.2.2.2.2.2.2.1 backs free goodFor loadedWhen bareGood bareWhen rowMany lots)) args s 0 0 A) (F0 m 11 ls []) := by
  obtain ⟨hx, hb, hml, hown, hts, hK, hret, hlk⟩ := id C
  intro n
  induction n with
  | zero => intro x5 x6 there used hidden kind figure good load inn kept ships coughs day isKeeping cursor hf; cases hf
  | succ n ih =>
    intro x5 x6 there used hidden kind figure good load inn kept ships coughs day isKeeping cursor hf H locs hs ls hl hk
    rw [X5_bitsFor__kind_L11] at hf
    refine lv_iload hx hb (dk hX5_bitsFor_0 8 rfl) (lv_at hl 6 rfl) ?_
    refine lv_iload_n hx hb (dk hX5_bitsFor_0 9 rfl) rfl (lv_at hl 3 rfl) ?_
    refine lv_icmp_ge (tgt := 49) hx hb (dk hX5_bitsFor_0 10 rfl) (by decide) (fun hc => ?_) (fun hc => ?_)
    · replace hf := ip hf hc
      exact hk _ _ _ _ _ _ _ _ _ _ _ _ _ _ _ hf _ _ hs _ (lv_sub hl [1, 2, 4, 5] rfl)
    · replace hf := in_ hf hc
      refine lv_aload_n hx hb (dk hX5_bitsFor_0 11 rfl) rfl (lv_at hl 1 rfl) ?_
      refine lv_iload_n hx hb (dk hX5_bitsFor_0 12 rfl) rfl (lv_at hl 2 rfl) ?_
      refine lv_iload hx hb (dk hX5_bitsFor_0 13 rfl) (lv_at hl 6 rfl) ?_
      obtain ⟨kind_3, e_4, hf⟩ := Option.bind_eq_some_iff.mp hf
      refine rist (w1 := (wM G ad refused there used hidden kind_3 figure good load inn tape letter letterAt told kept row costs ships coughs day away taped reading statements hasImage isKeeping cursor backs free goodFor loadedWhen bareGood bareWhen rowMany lots)) C hs 5 rfl e_4 rfl (dk hX5_bitsFor_0 14 rfl) (fun H locs hs => ?_)
      refine lv_iload hx hb (dk hX5_bitsFor_0 15 rfl) (lv_at hl 5 rfl) ?_
      refine lv_aload_n hx hb (dk hX5_bitsFor_0 16 rfl) rfl (lv_at hl 0 rfl) ?_
      refine lv_iload_n hx hb (dk hX5_bitsFor_0 17 rfl) rfl (lv_at hl 2 rfl) ?_
      obtain ⟨u_5, e_6, hf⟩ := Option.bind_eq_some_iff.mp hf
      refine Ct.V (As := [.int x2]) (rest := [.int x5]) (st1 := [.int u_5.2.2.2.2.2.2.2.2.2.2.2.2.2.2, .int x5]) (w1 := (wM G ad refused u_5.1 u_5.2.1 u_5.2.2.1 u_5.2.2.2.1 u_5.2.2.2.2.1 u_5.2.2.2.2.2.1 u_5.2.2.2.2.2.2.1 u_5.2.2.2.2.2.2.2.1 tape letter letterAt told u_5.2.2.2.2.2.2.2.2.1 row costs u_5.2.2.2.2.2.2.2.2.2.1 u_5.2.2.2.2.2.2.2.2.2.2.1 u_5.2.2.2.2.2.2.2.2.2.2.2.1 away taped reading statements hasImage u_5.2.2.2.2.2.2.2.2.2.2.2.2.1 u_5.2.2.2.2.2.2.2.2.2.2.2.2.2.1 backs free goodFor loadedWhen bareGood bareWhen rowMany lots)) C hs (c_X5_isDeepSo e_6) tw_1117 tw_1119 tw_68 tw_85 tw_1120 nq_X5_isDeepSo (by decide) 0 5 rfl rfl rfl rfl hl.1 rfl (Nat.le_of_ble_eq_true rfl) (dk hX5_bitsFor_0 18 rfl) ⟨Nat.zero_le _, Nat.zero_le _⟩ rfl (fun H locs hs => ?_)
      refine lv_if_eq (tgt := 39) hx hb (dk hX5_bitsFor_0 19 rfl) (by decide) (fun hc => ?_) (fun hc => ?_)
      · replace hf := ip hf hc
        refine lv_iconst (v := (0 : Int32)) hx hb (dk hX5_bitsFor_0 24 rfl) (by decide) ?_
        refine lv_ior hx hb (dk hX5_bitsFor_0 25 rfl) ?_
        refine lv_istore (lv' := [(5, .int (x5 ||| (0 : Int32))), (0, .ref (ad 0)), (1, .ref (ad 5)), (2, .int x2), (3, .int x3), (4, .int x4), (6, .int x6)]) hx hb (dk hX5_bitsFor_0 26 rfl) hl (by decide) rfl (fun ls hl => ?_)
        refine lv_iinc (v := (x6 + (1 : Int32))) (lv' := [(6, .int (x6 + (1 : Int32))), (5, .int (x5 ||| (0 : Int32))), (0, .ref (ad 0)), (1, .ref (ad 5)), (2, .int x2), (3, .int x3), (4, .int x4)]) hx hb (dk hX5_bitsFor_0 27 rfl) hl (k := 6) rfl (by first | rfl | decide) (by decide) rfl (fun ls hl => ?_)
        refine lv_goto (tgt := 11) hx hb (dk hX5_bitsFor_0 28 rfl) (by decide) ?_
        exact ih _ _ _ _ _ _ _ _ _ _ _ _ _ _ _ _ hf _ _ hs _ (lv_sub hl [2, 3, 4, 5, 6, 1, 0] rfl) hk
      · replace hf := in_ hf hc
        refine lv_iconst (v := (1 : Int32)) hx hb (dk hX5_bitsFor_0 20 rfl) (by decide) ?_
        refine lv_iload hx hb (dk hX5_bitsFor_0 21 rfl) (lv_at hl 6 rfl) ?_
        refine lv_ishl hx hb (dk hX5_bitsFor_0 22 rfl) ?_
        refine lv_goto (tgt := 40) hx hb (dk hX5_bitsFor_0 23 rfl) (by decide) ?_
        refine lv_ior hx hb (dk hX5_bitsFor_0 25 rfl) ?_
        refine lv_istore (lv' := [(5, .int (x5 ||| ((1 : Int32) <<< (x6 &&& 31)))), (0, .ref (ad 0)), (1, .ref (ad 5)), (2, .int x2), (3, .int x3), (4, .int x4), (6, .int x6)]) hx hb (dk hX5_bitsFor_0 26 rfl) hl (by decide) rfl (fun ls hl => ?_)
        refine lv_iinc (v := (x6 + (1 : Int32))) (lv' := [(6, .int (x6 + (1 : Int32))), (5, .int (x5 ||| ((1 : Int32) <<< (x6 &&& 31)))), (0, .ref (ad 0)), (1, .ref (ad 5)), (2, .int x2), (3, .int x3), (4, .int x4)]) hx hb (dk hX5_bitsFor_0 27 rfl) hl (k := 6) rfl (by first | rfl | decide) (by decide) rfl (fun ls hl => ?_)
        refine lv_goto (tgt := 11) hx hb (dk hX5_bitsFor_0 28 rfl) (by decide) ?_
        exact ih _ _ _ _ _ _ _ _ _ _ _ _ _ _ _ _ hf _ _ hs _ (lv_sub hl [2, 3, 4, 5, 6, 1, 0] rfl) hk
set_option maxRecDepth 100000 in
set_option maxHeartbeats 4000000 in
theorem c_X5_bitsFor__kind {l : Launch} {G : Gx} {ad : Nat → Nat} {refused there used hidden kind figure good load inn tape letter letterAt told kept row costs : List Int32} {ships coughs day away taped reading statements hasImage isKeeping cursor backs free goodFor loadedWhen bareGood bareWhen rowMany lots : Int32} {p1 : Int32} {p2 : Int32} {out : List Int32 × List Int32 × List Int32 × List Int32 × List Int32 × List Int32 × List Int32 × List Int32 × List Int32 × Int32 × Int32 × Int32 × Int32 × Int32 × Int32} (hf : X5_bitsFor__kind there used hidden kind figure good load inn kept row ships coughs day away isKeeping cursor free rowMany p1 p2 = some out) : Ct l G yX5_bitsFor cX5_bitsFor 7 (some .int) 7 152 [.ref (ad 0), .ref (ad 5), .int p1, .int p2] (wM G ad refused there used hidden kind figure good load inn tape letter letterAt told kept row costs ships coughs day away taped reading statements hasImage isKeeping cursor backs free goodFor loadedWhen bareGood bareWhen rowMany lots) (some (.int out.2.2.2.2.2.2.2.2.2.2.2.2.2.2)) (wM G ad refused out.1 out.2.1 out.2.2.1 out.2.2.2.1 out.2.2.2.2.1 out.2.2.2.2.2.1 out.2.2.2.2.2.2.1 out.2.2.2.2.2.2.2.1 tape letter letterAt told out.2.2.2.2.2.2.2.2.1 row costs out.2.2.2.2.2.2.2.2.2.1 out.2.2.2.2.2.2.2.2.2.2.1 out.2.2.2.2.2.2.2.2.2.2.2.1 away taped reading statements hasImage out.2.2.2.2.2.2.2.2.2.2.2.2.1 out.2.2.2.2.2.2.2.2.2.2.2.2.2.1 backs free goodFor loadedWhen bareGood bareWhen rowMany lots) := by
  refine Ct.intro RX5 rfl (plainFor_of_name (by decide)) (Nat.le_of_ble_eq_true rfl) rfl ?_
  intro p e s m args below meth c A C H locs hs ls hl
  obtain ⟨hx, hb, hml, hown, hts, hK, hret, hlk⟩ := id C
  have hl : lv_has ls 7 [(0, .ref (ad 0)), (1, .ref (ad 5)), (2, .int p1), (3, .int p2)] := hl
  unfold X5_bitsFor__kind at hf
  refine lv_aload_n hx hb (dk hX5_bitsFor_0 0 rfl) rfl (lv_at hl 1 rfl) ?_
  refine lv_iload_n hx hb (dk hX5_bitsFor_0 1 rfl) rfl (lv_at hl 2 rfl) ?_
  obtain ⟨v_1, e_2, hf⟩ := Option.bind_eq_some_iff.mp hf
  refine rild C hs 5 rfl e_2 (dk hX5_bitsFor_0 2 rfl) ?_
  refine lv_istore (lv' := [(4, .int v_1), (0, .ref (ad 0)), (1, .ref (ad 5)), (2, .int p1), (3, .int p2)]) hx hb (dk hX5_bitsFor_0 3 rfl) hl (by decide) rfl (fun ls hl => ?_)
  refine lv_iconst (v := (0 : Int32)) hx hb (dk hX5_bitsFor_0 4 rfl) (by decide) ?_
  refine lv_istore (lv' := [(5, .int (0 : Int32)), (4, .int v_1), (0, .ref (ad 0)), (1, .ref (ad 5)), (2, .int p1), (3, .int p2)]) hx hb (dk hX5_bitsFor_0 5 rfl) hl (by decide) rfl (fun ls hl => ?_)
  refine lv_iconst (v := (0 : Int32)) hx hb (dk hX5_bitsFor_0 6 rfl) (by decide) ?_
  refine lv_istore (lv' := [(6, .int (0 : Int32)), (5, .int (0 : Int32)), (4, .int v_1), (0, .ref (ad 0)), (1, .ref (ad 5)), (2, .int p1), (3, .int p2)]) hx hb (dk hX5_bitsFor_0 7 rfl) hl (by decide) rfl (fun ls hl => ?_)
  refine l_X5_bitsFor__kind_L11 C 1000 _ _ _ _ _ _ _ _ _ _ _ _ _ _ _ _ hf _ _ hs _ (lv_sub hl [3, 4, 5, 6, 2, 1, 0] rfl) (fun y5_7 there_8 used_9 hidden_10 kind_11 figure_12 good_13 load_14 inn_15 kept_16 ships_17 coughs_18 day_19 isKeeping_20 cursor_21 hf H locs hs ls hl => ?_)
  refine lv_aload_n hx hb (dk hX5_bitsFor_0 29 rfl) rfl (lv_at hl 0 rfl) ?_
  refine lv_iload_n hx hb (dk hX5_bitsFor_0 30 rfl) rfl (lv_at hl 1 rfl) ?_
  refine lv_iload hx hb (dk hX5_bitsFor_0 31 rfl) (lv_at hl 2 rfl) ?_
  obtain ⟨kind_22, e_23, hf⟩ := Option.bind_eq_some_iff.mp hf
  refine rist (w1 := (wM G ad refused there_8 used_9 hidden_10 kind_22 figure_12 good_13 load_14 inn_15 tape letter letterAt told kept_16 row costs ships_17 coughs_18 day_19 away taped reading statements hasImage isKeeping_20 cursor_21 backs free goodFor loadedWhen bareGood bareWhen rowMany lots)) C hs 5 rfl e_23 rfl (dk hX5_bitsFor_0 32 rfl) (fun H locs hs => ?_)
  refine lv_iload hx hb (dk hX5_bitsFor_0 33 rfl) (lv_at hl 3 rfl) ?_
  cases hf
  exact ri C hs (dk hX5_bitsFor_0 34 rfl)

def X5_whatKind (refused : List Int32) (there : List Int32) (used : List Int32) (hidden : List Int32) (kind : List Int32) (figure : List Int32) (good : List Int32) (load : List Int32) (inn : List Int32) (kept : List Int32) (row : List Int32) (ships : Int32) (coughs : Int32) (day : Int32) (away : Int32) (isKeeping : Int32) (cursor : Int32) (free : Int32) (rowMany : Int32) (p0 : Int32) (p1 : Int32) : Option (List Int32 × List Int32 × List Int32 × List Int32 × List Int32 × List Int32 × List Int32 × List Int32 × List Int32 × List Int32 × Int32 × Int32 × Int32 × Int32 × Int32 × Int32) :=
  (X5_isShip ships p0).bind fun u_1 =>
  if u_1 = (0 : Int32) then
  (X5_no refused (-1 : Int32)).bind fun u_11 =>
  some (u_11.1, there, used, hidden, kind, figure, good, load, inn, kept, ships, coughs, day, isKeeping, cursor, u_11.2)
  else
  (X5_isIn p1 (0 : Int32) (1 : Int32)).bind fun u_3 =>
  if u_3 = (0 : Int32) then
  (X5_no refused (-2 : Int32)).bind fun u_9 =>
  some (u_9.1, there, used, hidden, kind, figure, good, load, inn, kept, ships, coughs, day, isKeeping, cursor, u_9.2)
  else
  if p1 = (0 : Int32) then
  (X5_bitsFor__kind there used hidden kind figure good load inn kept row ships coughs day away isKeeping cursor free rowMany p0 (6 : Int32)).bind fun u_7 =>
  some (refused, u_7.1, u_7.2.1, u_7.2.2.1, u_7.2.2.2.1, u_7.2.2.2.2.1, u_7.2.2.2.2.2.1, u_7.2.2.2.2.2.2.1, u_7.2.2.2.2.2.2.2.1, u_7.2.2.2.2.2.2.2.2.1, u_7.2.2.2.2.2.2.2.2.2.1, u_7.2.2.2.2.2.2.2.2.2.2.1, u_7.2.2.2.2.2.2.2.2.2.2.2.1, u_7.2.2.2.2.2.2.2.2.2.2.2.2.1, u_7.2.2.2.2.2.2.2.2.2.2.2.2.2.1, u_7.2.2.2.2.2.2.2.2.2.2.2.2.2.2)
  else
  (X5_bitsFor__figure there used hidden kind figure good load inn kept row ships coughs day away isKeeping cursor free rowMany p0 (10 : Int32)).bind fun u_5 =>
  some (refused, u_5.1, u_5.2.1, u_5.2.2.1, u_5.2.2.2.1, u_5.2.2.2.2.1, u_5.2.2.2.2.2.1, u_5.2.2.2.2.2.2.1, u_5.2.2.2.2.2.2.2.1, u_5.2.2.2.2.2.2.2.2.1, u_5.2.2.2.2.2.2.2.2.2.1, u_5.2.2.2.2.2.2.2.2.2.2.1, u_5.2.2.2.2.2.2.2.2.2.2.2.1, u_5.2.2.2.2.2.2.2.2.2.2.2.2.1, u_5.2.2.2.2.2.2.2.2.2.2.2.2.2.1, u_5.2.2.2.2.2.2.2.2.2.2.2.2.2.2)
set_option maxRecDepth 100000 in
set_option maxHeartbeats 4000000 in
theorem c_X5_whatKind {l : Launch} {G : Gx} {ad : Nat → Nat} {refused there used hidden kind figure good load inn tape letter letterAt told kept row costs : List Int32} {ships coughs day away taped reading statements hasImage isKeeping cursor backs free goodFor loadedWhen bareGood bareWhen rowMany lots : Int32} {p0 : Int32} {p1 : Int32} {out : List Int32 × List Int32 × List Int32 × List Int32 × List Int32 × List Int32 × List Int32 × List Int32 × List Int32 × List Int32 × Int32 × Int32 × Int32 × Int32 × Int32 × Int32} (hf : X5_whatKind refused there used hidden kind figure good load inn kept row ships coughs day away isKeeping cursor free rowMany p0 p1 = some out) : Ct l G yX5_whatKind cX5_whatKind 4 (some .int) 8 178 [.ref (ad 0), .int p0, .int p1] (wM G ad refused there used hidden kind figure good load inn tape letter letterAt told kept row costs ships coughs day away taped reading statements hasImage isKeeping cursor backs free goodFor loadedWhen bareGood bareWhen rowMany lots) (some (.int out.2.2.2.2.2.2.2.2.2.2.2.2.2.2.2)) (wM G ad out.1 out.2.1 out.2.2.1 out.2.2.2.1 out.2.2.2.2.1 out.2.2.2.2.2.1 out.2.2.2.2.2.2.1 out.2.2.2.2.2.2.2.1 out.2.2.2.2.2.2.2.2.1 tape letter letterAt told out.2.2.2.2.2.2.2.2.2.1 row costs out.2.2.2.2.2.2.2.2.2.2.1 out.2.2.2.2.2.2.2.2.2.2.2.1 out.2.2.2.2.2.2.2.2.2.2.2.2.1 away taped reading statements hasImage out.2.2.2.2.2.2.2.2.2.2.2.2.2.1 out.2.2.2.2.2.2.2.2.2.2.2.2.2.2.1 backs free goodFor loadedWhen bareGood bareWhen rowMany lots) := by
  refine Ct.intro RX5 rfl (plainFor_of_name (by decide)) (Nat.le_of_ble_eq_true rfl) rfl ?_
  intro p e s m args below meth c A C H locs hs ls hl
  obtain ⟨hx, hb, hml, hown, hts, hK, hret, hlk⟩ := id C
  have hl : lv_has ls 4 [(0, .ref (ad 0)), (1, .int p0), (2, .int p1)] := hl
  unfold X5_whatKind at hf
  refine lv_aload_n hx hb (dk hX5_whatKind_0 0 rfl) rfl (lv_at hl 0 rfl) ?_
  refine lv_iload_n hx hb (dk hX5_whatKind_0 1 rfl) rfl (lv_at hl 1 rfl) ?_
  obtain ⟨u_1, e_2, hf⟩ := Option.bind_eq_some_iff.mp hf
  refine Ct.V (As := [.int p0]) (rest := []) (st1 := [.int u_1]) (w1 := (wM G ad refused there used hidden kind figure good load inn tape letter letterAt told kept row costs ships coughs day away taped reading statements hasImage isKeeping cursor backs free goodFor loadedWhen bareGood bareWhen rowMany lots)) C hs (c_X5_isShip e_2) tw_854 tw_856 tw_32 tw_85 tw_857 nq_X5_isShip (by decide) 0 5 rfl rfl rfl rfl hl.1 rfl (Nat.le_of_ble_eq_true rfl) (dk hX5_whatKind_0 2 rfl) ⟨Nat.zero_le _, Nat.zero_le _⟩ rfl (fun H locs hs => ?_)
  refine lv_if_ne (tgt := 12) hx hb (dk hX5_whatKind_0 3 rfl) (by decide) (fun hc => ?_) (fun hc => ?_)
  · replace hf := in_ hf hc
    refine lv_iload_n hx hb (dk hX5_whatKind_0 6 rfl) rfl (lv_at hl 2 rfl) ?_
    refine lv_iconst (v := (0 : Int32)) hx hb (dk hX5_whatKind_0 7 rfl) (by decide) ?_
    refine lv_iconst (v := (1 : Int32)) hx hb (dk hX5_whatKind_0 8 rfl) (by decide) ?_
    obtain ⟨u_3, e_4, hf⟩ := Option.bind_eq_some_iff.mp hf
    refine Ct.S (As := [.int p1, .int (0 : Int32), .int (1 : Int32)]) (rest := []) (st1 := [.int u_3]) (w1 := (wM G ad refused there used hidden kind figure good load inn tape letter letterAt told kept row costs ships coughs day away taped reading statements hasImage isKeeping cursor backs free goodFor loadedWhen bareGood bareWhen rowMany lots)) C hs (c_X5_isIn e_4) tw_824 tw_825 tw_85 tw_826 nq_X5_isIn (by decide) rfl hl.1 rfl (Nat.le_of_ble_eq_true rfl) (dk hX5_whatKind_0 9 rfl) ⟨Nat.zero_le _, Nat.zero_le _⟩ rfl (fun H locs hs => ?_)
    refine lv_if_ne (tgt := 26) hx hb (dk hX5_whatKind_0 10 rfl) (by decide) (fun hc => ?_) (fun hc => ?_)
    · replace hf := in_ hf hc
      refine lv_iconst (v := (0 : Int32)) hx hb (dk hX5_whatKind_0 13 rfl) (by decide) ?_
      refine lv_istore_n (lv' := [(3, .int (0 : Int32)), (0, .ref (ad 0)), (1, .int p0), (2, .int p1)]) hx hb (dk hX5_whatKind_0 14 rfl) rfl hl (by decide) rfl (fun ls hl => ?_)
      refine lv_iload_n hx hb (dk hX5_whatKind_0 15 rfl) rfl (lv_at hl 0 rfl) ?_
      refine lv_if_eq (tgt := 38) hx hb (dk hX5_whatKind_0 16 rfl) (by decide) (fun hc => ?_) (fun hc => ?_)
      · refine lv_iload_n hx hb (dk hX5_whatKind_0 21 rfl) rfl (lv_at hl 3 rfl) ?_
        refine lv_if_ne (tgt := 56) hx hb (dk hX5_whatKind_0 22 rfl) (by decide) (fun hc => ?_) (fun hc => ?_)
        · replace hf := in_ hf hc
          refine lv_aload_n hx hb (dk hX5_whatKind_0 30 rfl) rfl (lv_at hl 1 rfl) ?_
          refine lv_aload_n hx hb (dk hX5_whatKind_0 31 rfl) rfl (lv_at hl 1 rfl) ?_
          refine rg ui5 rfl C hs 0 rfl 5 (by decide) tw_695 rfl rfl (dk hX5_whatKind_0 32 rfl) ?_
          refine lv_iload_n hx hb (dk hX5_whatKind_0 33 rfl) rfl (lv_at hl 2 rfl) ?_
          refine lv_bipush (v := (10 : Int32)) hx hb (dk hX5_whatKind_0 34 rfl) (by decide) ?_
          obtain ⟨u_5, e_6, hf⟩ := Option.bind_eq_some_iff.mp hf
          refine Ct.V (As := [.ref (ad 6), .int p0, .int (10 : Int32)]) (rest := []) (st1 := [.int u_5.2.2.2.2.2.2.2.2.2.2.2.2.2.2]) (w1 := (wM G ad refused u_5.1 u_5.2.1 u_5.2.2.1 u_5.2.2.2.1 u_5.2.2.2.2.1 u_5.2.2.2.2.2.1 u_5.2.2.2.2.2.2.1 u_5.2.2.2.2.2.2.2.1 tape letter letterAt told u_5.2.2.2.2.2.2.2.2.1 row costs u_5.2.2.2.2.2.2.2.2.2.1 u_5.2.2.2.2.2.2.2.2.2.2.1 u_5.2.2.2.2.2.2.2.2.2.2.2.1 away taped reading statements hasImage u_5.2.2.2.2.2.2.2.2.2.2.2.2.1 u_5.2.2.2.2.2.2.2.2.2.2.2.2.2.1 backs free goodFor loadedWhen bareGood bareWhen rowMany lots)) C hs (c_X5_bitsFor__figure e_6) tw_1113 tw_1115 tw_67 tw_85 tw_1116 nq_X5_bitsFor (by decide) 0 5 rfl rfl rfl rfl hl.1 rfl (Nat.le_of_ble_eq_true rfl) (dk hX5_whatKind_0 35 rfl) ⟨Nat.zero_le _, Nat.zero_le _⟩ rfl (fun H locs hs => ?_)
          cases hf
          exact ri C hs (dk hX5_whatKind_0 36 rfl)
        · replace hf := ip hf hc
          refine lv_aload_n hx hb (dk hX5_whatKind_0 23 rfl) rfl (lv_at hl 1 rfl) ?_
          refine lv_aload_n hx hb (dk hX5_whatKind_0 24 rfl) rfl (lv_at hl 1 rfl) ?_
          refine rg ui5 rfl C hs 0 rfl 4 (by decide) tw_694 rfl rfl (dk hX5_whatKind_0 25 rfl) ?_
          refine lv_iload_n hx hb (dk hX5_whatKind_0 26 rfl) rfl (lv_at hl 2 rfl) ?_
          refine lv_bipush (v := (6 : Int32)) hx hb (dk hX5_whatKind_0 27 rfl) (by decide) ?_
          obtain ⟨u_7, e_8, hf⟩ := Option.bind_eq_some_iff.mp hf
          refine Ct.V (As := [.ref (ad 5), .int p0, .int (6 : Int32)]) (rest := []) (st1 := [.int u_7.2.2.2.2.2.2.2.2.2.2.2.2.2.2]) (w1 := (wM G ad refused u_7.1 u_7.2.1 u_7.2.2.1 u_7.2.2.2.1 u_7.2.2.2.2.1 u_7.2.2.2.2.2.1 u_7.2.2.2.2.2.2.1 u_7.2.2.2.2.2.2.2.1 tape letter letterAt told u_7.2.2.2.2.2.2.2.2.1 row costs u_7.2.2.2.2.2.2.2.2.2.1 u_7.2.2.2.2.2.2.2.2.2.2.1 u_7.2.2.2.2.2.2.2.2.2.2.2.1 away taped reading statements hasImage u_7.2.2.2.2.2.2.2.2.2.2.2.2.1 u_7.2.2.2.2.2.2.2.2.2.2.2.2.2.1 backs free goodFor loadedWhen bareGood bareWhen rowMany lots)) C hs (c_X5_bitsFor__kind e_8) tw_1113 tw_1115 tw_67 tw_85 tw_1116 nq_X5_bitsFor (by decide) 0 5 rfl rfl rfl rfl hl.1 rfl (Nat.le_of_ble_eq_true rfl) (dk hX5_whatKind_0 28 rfl) ⟨Nat.zero_le _, Nat.zero_le _⟩ rfl (fun H locs hs => ?_)
          refine lv_goto (tgt := 67) hx hb (dk hX5_whatKind_0 29 rfl) (by decide) ?_
          cases hf
          exact ri C hs (dk hX5_whatKind_0 36 rfl)
      · exact absurd hc (by decide)
    · replace hf := ip hf hc
      refine lv_bipush (v := (-2 : Int32)) hx hb (dk hX5_whatKind_0 11 rfl) (by decide) ?_
      refine lv_goto (tgt := 27) hx hb (dk hX5_whatKind_0 12 rfl) (by decide) ?_
      refine lv_istore_n (lv' := [(3, .int (-2 : Int32)), (0, .ref (ad 0)), (1, .int p0), (2, .int p1)]) hx hb (dk hX5_whatKind_0 14 rfl) rfl hl (by decide) rfl (fun ls hl => ?_)
      refine lv_iload_n hx hb (dk hX5_whatKind_0 15 rfl) rfl (lv_at hl 0 rfl) ?_
      refine lv_if_eq (tgt := 38) hx hb (dk hX5_whatKind_0 16 rfl) (by decide) (fun hc => ?_) (fun hc => ?_)
      · exact absurd hc (by decide)
      · refine lv_aload_n hx hb (dk hX5_whatKind_0 17 rfl) rfl (lv_at hl 1 rfl) ?_
        refine lv_iload_n hx hb (dk hX5_whatKind_0 18 rfl) rfl (lv_at hl 0 rfl) ?_
        obtain ⟨u_9, e_10, hf⟩ := Option.bind_eq_some_iff.mp hf
        refine Ct.V (As := [.int (-2 : Int32)]) (rest := []) (st1 := [.int u_9.2]) (w1 := (wM G ad u_9.1 there used hidden kind figure good load inn tape letter letterAt told kept row costs ships coughs day away taped reading statements hasImage isKeeping cursor backs free goodFor loadedWhen bareGood bareWhen rowMany lots)) C hs (c_X5_no e_10) tw_800 tw_802 tw_21 tw_85 tw_803 nq_X5_no (by decide) 0 5 rfl rfl rfl rfl hl.1 rfl (Nat.le_of_ble_eq_true rfl) (dk hX5_whatKind_0 19 rfl) ⟨Nat.zero_le _, Nat.zero_le _⟩ rfl (fun H locs hs => ?_)
        cases hf
        exact ri C hs (dk hX5_whatKind_0 20 rfl)
  · replace hf := ip hf hc
    refine lv_iconst (v := (-1 : Int32)) hx hb (dk hX5_whatKind_0 4 rfl) (by decide) ?_
    refine lv_goto (tgt := 27) hx hb (dk hX5_whatKind_0 5 rfl) (by decide) ?_
    refine lv_istore_n (lv' := [(3, .int (-1 : Int32)), (0, .ref (ad 0)), (1, .int p0), (2, .int p1)]) hx hb (dk hX5_whatKind_0 14 rfl) rfl hl (by decide) rfl (fun ls hl => ?_)
    refine lv_iload_n hx hb (dk hX5_whatKind_0 15 rfl) rfl (lv_at hl 0 rfl) ?_
    refine lv_if_eq (tgt := 38) hx hb (dk hX5_whatKind_0 16 rfl) (by decide) (fun hc => ?_) (fun hc => ?_)
    · exact absurd hc (by decide)
    · refine lv_aload_n hx hb (dk hX5_whatKind_0 17 rfl) rfl (lv_at hl 1 rfl) ?_
      refine lv_iload_n hx hb (dk hX5_whatKind_0 18 rfl) rfl (lv_at hl 0 rfl) ?_
      obtain ⟨u_11, e_12, hf⟩ := Option.bind_eq_some_iff.mp hf
      refine Ct.V (As := [.int (-1 : Int32)]) (rest := []) (st1 := [.int u_11.2]) (w1 := (wM G ad u_11.1 there used hidden kind figure good load inn tape letter letterAt told kept row costs ships coughs day away taped reading statements hasImage isKeeping cursor backs free goodFor loadedWhen bareGood bareWhen rowMany lots)) C hs (c_X5_no e_12) tw_800 tw_802 tw_21 tw_85 tw_803 nq_X5_no (by decide) 0 5 rfl rfl rfl rfl hl.1 rfl (Nat.le_of_ble_eq_true rfl) (dk hX5_whatKind_0 19 rfl) ⟨Nat.zero_le _, Nat.zero_le _⟩ rfl (fun H locs hs => ?_)
      cases hf
      exact ri C hs (dk hX5_whatKind_0 20 rfl)

def X5_hidesTen (there : List Int32) (hidden : List Int32) (p0 : Int32) (p1 : Int32) : Option (List Int32 × List Int32) :=
  (rd there p0).bind fun v_1 =>
  if (10 : Int32) ≤ v_1 then
  if p1 = (0 : Int32) then
  (X5_hidesOf there hidden p0 (0 : Int32)).bind fun u_5 =>
  some (u_5.1, u_5.2)
  else
  (X5_hidesOf there hidden p0 (10 : Int32)).bind fun u_3 =>
  some (u_3.1, u_3.2)
  else
  (rd there p0).bind fun v_7 =>
  if p1 = (0 : Int32) then
  (X5_hidesOf there hidden p0 (0 : Int32)).bind fun u_11 =>
  some (u_11.1, u_11.2)
  else
  (X5_hidesOf there hidden p0 v_7).bind fun u_9 =>
  some (u_9.1, u_9.2)
set_option maxRecDepth 100000 in
set_option maxHeartbeats 4000000 in
theorem c_X5_hidesTen {l : Launch} {G : Gx} {ad : Nat → Nat} {refused there used hidden kind figure good load inn tape letter letterAt told kept row costs : List Int32} {ships coughs day away taped reading statements hasImage isKeeping cursor backs free goodFor loadedWhen bareGood bareWhen rowMany lots : Int32} {p0 : Int32} {p1 : Int32} {out : List Int32 × List Int32} (hf : X5_hidesTen there hidden p0 p1 = some out) : Ct l G yX5_hidesTen cX5_hidesTen 4 (none) 1 22 [.ref (ad 0), .int p0, .int p1] (wM G ad refused there used hidden kind figure good load inn tape letter letterAt told kept row costs ships coughs day away taped reading statements hasImage isKeeping cursor backs free goodFor loadedWhen bareGood bareWhen rowMany lots) (none) (wM G ad refused out.1 used out.2 kind figure good load inn tape letter letterAt told kept row costs ships coughs day away taped reading statements hasImage isKeeping cursor backs free goodFor loadedWhen bareGood bareWhen rowMany lots) := by
  refine Ct.intro RX5 rfl (plainFor_of_name (by decide)) (Nat.le_of_ble_eq_true rfl) rfl ?_
  intro p e s m args below meth c A C H locs hs ls hl
  obtain ⟨hx, hb, hml, hown, hts, hK, hret, hlk⟩ := id C
  have hl : lv_has ls 4 [(0, .ref (ad 0)), (1, .int p0), (2, .int p1)] := hl
  unfold X5_hidesTen at hf
  refine lv_aload_n hx hb (dk hX5_hidesTen_0 0 rfl) rfl (lv_at hl 0 rfl) ?_
  refine rg ui5 rfl C hs 0 rfl 1 (by decide) tw_691 rfl rfl (dk hX5_hidesTen_0 1 rfl) ?_
  refine lv_iload_n hx hb (dk hX5_hidesTen_0 2 rfl) rfl (lv_at hl 1 rfl) ?_
  obtain ⟨v_1, e_2, hf⟩ := Option.bind_eq_some_iff.mp hf
  refine rild C hs 2 rfl e_2 (dk hX5_hidesTen_0 3 rfl) ?_
  refine lv_bipush (v := (10 : Int32)) hx hb (dk hX5_hidesTen_0 4 rfl) (by decide) ?_
  refine lv_icmp_ge (tgt := 20) hx hb (dk hX5_hidesTen_0 5 rfl) (by decide) (fun hc => ?_) (fun hc => ?_)
  · replace hf := ip hf hc
    refine lv_bipush (v := (10 : Int32)) hx hb (dk hX5_hidesTen_0 11 rfl) (by decide) ?_
    refine lv_istore_n (lv' := [(3, .int (10 : Int32)), (0, .ref (ad 0)), (1, .int p0), (2, .int p1)]) hx hb (dk hX5_hidesTen_0 12 rfl) rfl hl (by decide) rfl (fun ls hl => ?_)
    refine lv_aload_n hx hb (dk hX5_hidesTen_0 13 rfl) rfl (lv_at hl 1 rfl) ?_
    refine lv_iload_n hx hb (dk hX5_hidesTen_0 14 rfl) rfl (lv_at hl 2 rfl) ?_
    refine lv_iload_n hx hb (dk hX5_hidesTen_0 15 rfl) rfl (lv_at hl 3 rfl) ?_
    refine lv_if_ne (tgt := 33) hx hb (dk hX5_hidesTen_0 16 rfl) (by decide) (fun hc => ?_) (fun hc => ?_)
    · replace hf := in_ hf hc
      refine lv_iload_n hx hb (dk hX5_hidesTen_0 19 rfl) rfl (lv_at hl 0 rfl) ?_
      obtain ⟨u_3, e_4, hf⟩ := Option.bind_eq_some_iff.mp hf
      refine Ct.V (As := [.int p0, .int (10 : Int32)]) (rest := []) (st1 := []) (w1 := (wM G ad refused u_3.1 used u_3.2 kind figure good load inn tape letter letterAt told kept row costs ships coughs day away taped reading statements hasImage isKeeping cursor backs free goodFor loadedWhen bareGood bareWhen rowMany lots)) C hs (c_X5_hidesOf e_4) tw_927 tw_929 tw_48 tw_85 tw_930 nq_X5_hidesOf (by decide) 0 5 rfl rfl rfl rfl hl.1 rfl (Nat.le_of_ble_eq_true rfl) (dk hX5_hidesTen_0 20 rfl) ⟨Nat.zero_le _, Nat.zero_le _⟩ rfl (fun H locs hs => ?_)
      cases hf
      exact rv C hs (dk hX5_hidesTen_0 21 rfl)
    · replace hf := ip hf hc
      refine lv_iconst (v := (0 : Int32)) hx hb (dk hX5_hidesTen_0 17 rfl) (by decide) ?_
      refine lv_goto (tgt := 34) hx hb (dk hX5_hidesTen_0 18 rfl) (by decide) ?_
      obtain ⟨u_5, e_6, hf⟩ := Option.bind_eq_some_iff.mp hf
      refine Ct.V (As := [.int p0, .int (0 : Int32)]) (rest := []) (st1 := []) (w1 := (wM G ad refused u_5.1 used u_5.2 kind figure good load inn tape letter letterAt told kept row costs ships coughs day away taped reading statements hasImage isKeeping cursor backs free goodFor loadedWhen bareGood bareWhen rowMany lots)) C hs (c_X5_hidesOf e_6) tw_927 tw_929 tw_48 tw_85 tw_930 nq_X5_hidesOf (by decide) 0 5 rfl rfl rfl rfl hl.1 rfl (Nat.le_of_ble_eq_true rfl) (dk hX5_hidesTen_0 20 rfl) ⟨Nat.zero_le _, Nat.zero_le _⟩ rfl (fun H locs hs => ?_)
      cases hf
      exact rv C hs (dk hX5_hidesTen_0 21 rfl)
  · replace hf := in_ hf hc
    refine lv_aload_n hx hb (dk hX5_hidesTen_0 6 rfl) rfl (lv_at hl 0 rfl) ?_
    refine rg ui5 rfl C hs 0 rfl 1 (by decide) tw_691 rfl rfl (dk hX5_hidesTen_0 7 rfl) ?_
    refine lv_iload_n hx hb (dk hX5_hidesTen_0 8 rfl) rfl (lv_at hl 1 rfl) ?_
    obtain ⟨v_7, e_8, hf⟩ := Option.bind_eq_some_iff.mp hf
    refine rild C hs 2 rfl e_8 (dk hX5_hidesTen_0 9 rfl) ?_
    refine lv_goto (tgt := 22) hx hb (dk hX5_hidesTen_0 10 rfl) (by decide) ?_
    refine lv_istore_n (lv' := [(3, .int v_7), (0, .ref (ad 0)), (1, .int p0), (2, .int p1)]) hx hb (dk hX5_hidesTen_0 12 rfl) rfl hl (by decide) rfl (fun ls hl => ?_)
    refine lv_aload_n hx hb (dk hX5_hidesTen_0 13 rfl) rfl (lv_at hl 1 rfl) ?_
    refine lv_iload_n hx hb (dk hX5_hidesTen_0 14 rfl) rfl (lv_at hl 2 rfl) ?_
    refine lv_iload_n hx hb (dk hX5_hidesTen_0 15 rfl) rfl (lv_at hl 3 rfl) ?_
    refine lv_if_ne (tgt := 33) hx hb (dk hX5_hidesTen_0 16 rfl) (by decide) (fun hc => ?_) (fun hc => ?_)
    · replace hf := in_ hf hc
      refine lv_iload_n hx hb (dk hX5_hidesTen_0 19 rfl) rfl (lv_at hl 0 rfl) ?_
      obtain ⟨u_9, e_10, hf⟩ := Option.bind_eq_some_iff.mp hf
      refine Ct.V (As := [.int p0, .int v_7]) (rest := []) (st1 := []) (w1 := (wM G ad refused u_9.1 used u_9.2 kind figure good load inn tape letter letterAt told kept row costs ships coughs day away taped reading statements hasImage isKeeping cursor backs free goodFor loadedWhen bareGood bareWhen rowMany lots)) C hs (c_X5_hidesOf e_10) tw_927 tw_929 tw_48 tw_85 tw_930 nq_X5_hidesOf (by decide) 0 5 rfl rfl rfl rfl hl.1 rfl (Nat.le_of_ble_eq_true rfl) (dk hX5_hidesTen_0 20 rfl) ⟨Nat.zero_le _, Nat.zero_le _⟩ rfl (fun H locs hs => ?_)
      cases hf
      exact rv C hs (dk hX5_hidesTen_0 21 rfl)
    · replace hf := ip hf hc
      refine lv_iconst (v := (0 : Int32)) hx hb (dk hX5_hidesTen_0 17 rfl) (by decide) ?_
      refine lv_goto (tgt := 34) hx hb (dk hX5_hidesTen_0 18 rfl) (by decide) ?_
      obtain ⟨u_11, e_12, hf⟩ := Option.bind_eq_some_iff.mp hf
      refine Ct.V (As := [.int p0, .int (0 : Int32)]) (rest := []) (st1 := []) (w1 := (wM G ad refused u_11.1 used u_11.2 kind figure good load inn tape letter letterAt told kept row costs ships coughs day away taped reading statements hasImage isKeeping cursor backs free goodFor loadedWhen bareGood bareWhen rowMany lots)) C hs (c_X5_hidesOf e_12) tw_927 tw_929 tw_48 tw_85 tw_930 nq_X5_hidesOf (by decide) 0 5 rfl rfl rfl rfl hl.1 rfl (Nat.le_of_ble_eq_true rfl) (dk hX5_hidesTen_0 20 rfl) ⟨Nat.zero_le _, Nat.zero_le _⟩ rfl (fun H locs hs => ?_)
      cases hf
      exact rv C hs (dk hX5_hidesTen_0 21 rfl)

def X5_findCosts_L3 (k : List Int32 → List Int32 → List Int32 → List Int32 → List Int32 → List Int32 → List Int32 → List Int32 → List Int32 → List Int32 → Int32 → Int32 → Int32 → Int32 → Int32 → Option (List Int32 × List Int32 × List Int32 × List Int32 × List Int32 × List Int32 × List Int32 × List Int32 × List Int32 × List Int32 × Int32 × Int32 × Int32 × Int32 × Int32)) (away : Int32) (free : Int32) (x1 : Int32) (x2 : Int32) (x3 : Int32) : Nat → Int32 → List Int32 → List Int32 → List Int32 → List Int32 → List Int32 → List Int32 → List Int32 → List Int32 → List Int32 → List Int32 → Int32 → Int32 → Int32 → Int32 → Int32 → Option (List Int32 × List Int32 × List Int32 × List Int32 × List Int32 × List Int32 × List Int32 × List Int32 × List Int32 × List Int32 × Int32 × Int32 × Int32 × Int32 × Int32)
  | 0, _, _, _, _, _, _, _, _, _, _, _, _, _, _, _, _ => none
  | n + 1, x4, there, used, hidden, kind, figure, good, load, inn, kept, costs, ships, coughs, day, isKeeping, cursor =>
  if (4 : Int32) ≤ x4 then
  k there used hidden kind figure good load inn kept costs ships coughs day isKeeping cursor
  else
  (X5_thinks there used hidden kind figure good load inn kept ships coughs day isKeeping cursor).bind fun u_1 =>
  (X5_hidesTen u_1.1 u_1.2.2.1 x1 (x4 / (2 : Int32))).bind fun u_3 =>
  (X5_hidesTen u_3.1 u_3.2 x2 (x4 - x4 / (2 : Int32) * (2 : Int32))).bind fun u_5 =>
  (X5_goes u_5.1 u_1.2.1 u_5.2 u_1.2.2.2.1 u_1.2.2.2.2.1 u_1.2.2.2.2.2.1 u_1.2.2.2.2.2.2.1 u_1.2.2.2.2.2.2.2.1 u_1.2.2.2.2.2.2.2.2.2.1 u_1.2.2.2.2.2.2.2.2.2.2.1 u_1.2.2.2.2.2.2.2.2.2.2.2.1 away free x3).bind fun u_7 =>
  (X5_lack u_7.1 u_1.2.1 free x1).bind fun u_9 =>
  (wr costs ((2 : Int32) * x4) (u_9 + ((5 : Int32) * (x4 / (2 : Int32))))).bind fun costs_11 =>
  (X5_lack u_7.1 u_1.2.1 free x2).bind fun u_13 =>
  (wr costs_11 (((2 : Int32) * x4) + (1 : Int32)) (u_13 + ((5 : Int32) * (x4 - x4 / (2 : Int32) * (2 : Int32))))).bind fun costs_15 =>
  (X5_forgets u_7.1 u_1.2.1 u_5.2 u_1.2.2.2.1 u_1.2.2.2.2.1 u_1.2.2.2.2.2.1 u_1.2.2.2.2.2.2.1 u_7.2.1 u_1.2.2.2.2.2.2.2.2.1 u_1.2.2.2.2.2.2.2.2.2.1 u_7.2.2.1 u_7.2.2.2 u_1.2.2.2.2.2.2.2.2.2.2.2.2.1 u_1.2.2.2.2.2.2.2.2.2.2.2.2.2).bind fun u_17 =>
  X5_findCosts_L3 k away free x1 x2 x3 n (x4 + (1 : Int32)) u_17.1 u_17.2.1 u_17.2.2.1 u_17.2.2.2.1 u_17.2.2.2.2.1 u_17.2.2.2.2.2.1 u_17.2.2.2.2.2.2.1 u_17.2.2.2.2.2.2.2.1 u_17.2.2.2.2.2.2.2.2.1 costs_15 u_17.2.2.2.2.2.2.2.2.2.1 u_17.2.2.2.2.2.2.2.2.2.2.1 u_17.2.2.2.2.2.2.2.2.2.2.2.1 u_17.2.2.2.2.2.2.2.2.2.2.2.2.1 u_17.2.2.2.2.2.2.2.2.2.2.2.2.2
def X5_findCosts (there : List Int32) (used : List Int32) (hidden : List Int32) (kind : List Int32) (figure : List Int32) (good : List Int32) (load : List Int32) (inn : List Int32) (kept : List Int32) (costs : List Int32) (ships : Int32) (coughs : Int32) (day : Int32) (away : Int32) (isKeeping : Int32) (cursor : Int32) (free : Int32) (p0 : Int32) (p1 : Int32) (p2 : Int32) : Option (List Int32 × List Int32 × List Int32 × List Int32 × List Int32 × List Int32 × List Int32 × List Int32 × List Int32 × List Int32 × Int32 × Int32 × Int32 × Int32 × Int32) :=
  X5_findCosts_L3 (fun there_19 used_20 hidden_21 kind_22 figure_23 good_24 load_25 inn_26 kept_27 costs_28 ships_29 coughs_30 day_31 isKeeping_32 cursor_33 =>
  some (there_19, used_20, hidden_21, kind_22, figure_23, good_24, load_25, inn_26, kept_27, costs_28, ships_29, coughs_30, day_31, isKeeping_32, cursor_33)) away free p0 p1 p2 1000 (0 : Int32) there used hidden kind figure good load inn kept costs ships coughs day isKeeping cursor
set_option maxRecDepth 100000 in
set_option maxHeartbeats 4000000 in
theorem l_X5_findCosts_L3 {l : Launch} {p : Program} {e : Env} {s : State} {m : MethodId} {args : Array Value} {below : List Frame} {meth : Method} {c : Code} {A : Nat → Prop} {G : Gx} {ad : Nat → Nat} {refused tape letter letterAt told row : List Int32} {away taped reading statements hasImage backs free goodFor loadedWhen bareGood bareWhen rowMany lots : Int32} {x1 : Int32} {x2 : Int32} {x3 : Int32} {k : List Int32 → List Int32 → List Int32 → List Int32 → List Int32 → List Int32 → List Int32 → List Int32 → List Int32 → List Int32 → Int32 → Int32 → Int32 → Int32 → Int32 → Option (List Int32 × List Int32 × List Int32 × List Int32 × List Int32 × List Int32 × List Int32 × List Int32 × List Int32 × List Int32 × Int32 × Int32 × Int32 × Int32 × Int32)} {out : List Int32 × List Int32 × List Int32 × List Int32 × List Int32 × List Int32 × List Int32 × List Int32 × List Int32 × List Int32 × Int32 × Int32 × Int32 × Int32 × Int32} (C : Cx p s m args meth c cX5_findCosts RX5 5 (none) G) : ∀ (n : Nat) (x4 : Int32) (there : List Int32) (used : List Int32) (hidden : List Int32) (kind : List Int32) (figure : List Int32) (good : List Int32) (load : List Int32) (inn : List Int32) (kept : List Int32) (costs : List Int32) (ships : Int32) (coughs : Int32) (day : Int32) (isKeeping : Int32) (cursor : Int32), X5_findCosts_L3 k away free x1 x2 x3 n x4 there used hidden kind figure good load inn kept costs ships coughs day isKeeping cursor = some out → ∀ (H : Heap) (locs : List Loc), St G A s.heap H locs (wM G ad refused there used hidden kind figure good load inn tape letter letterAt told kept row costs ships coughs day away taped reading statements hasImage isKeeping cursor backs free goodFor loadedWhen bareGood bareWhen rowMany lots) → ∀ ls : Array Slot, lv_has ls 5 [(0, .ref (ad 0)), (1, .int x1), (2, .int x2), (3, .int x3), (4, .int x4)] → (∀ (z_there : List Int32) (z_used : List Int32) (z_hidden : List Int32) (z_kind : List Int32) (z_figure : List Int32) (z_good : List Int32) (z_load : List Int32) (z_inn : List Int32) (z_kept : List Int32) (z_costs : List Int32) (z_ships : Int32) (z_coughs : Int32) (z_day : Int32) (z_isKeeping : Int32) (z_cursor : Int32), k z_there z_used z_hidden z_kind z_figure z_good z_load z_inn z_kept z_costs z_ships z_coughs z_day z_isKeeping z_cursor = some out → ∀ (H : Heap) (locs : List Loc), St G A s.heap H locs (wM G ad refused z_there z_used z_hidden z_kind z_figure z_good z_load z_inn tape letter letterAt told z_kept row z_costs z_ships z_coughs z_day away taped reading statements hasImage z_isKeeping z_cursor backs free goodFor loadedWhen bareGood bareWhen rowMany lots) → ∀ ls : Array Slot, lv_has ls 5 [] → W p l e (rmOf 7 151) s m args below meth c H locs 0 0 (MQ below (Qof G A (none) (wM G ad refused out.1 out.2.1 out.2.2.1 out.2.2.2.1 out.2.2.2.2.1 out.2.2.2.2.2.1 out.2.2.2.2.2.2.1 out.2.2.2.2.2.2.2.1 tape letter letterAt told out.2.2.2.2.2.2.2.2.1 row out.2.2.2.2.2.2.2.2.2.1 out.2.2.2.2.2.2.2.2.2.2.1 out.2.2.2.2.2.2.2.2.2.2.2.1 out.2.2.2.2.2.2.2.2.2.2.2.2.1 away taped reading statements hasImage out.2.2.2.2.2.2.2.2.2.2.2.2.2.1 out.2.2.2.2.2.2.2.2.2.2.2.2.2.2 backs free goodFor loadedWhen bareGood bareWhen rowMany lots)) args s 0 0 A) (F0 m 90 ls [])) → W p l e (rmOf 7 151) s m args below meth c H locs 0 0 (MQ below (Qof G A (none) (wM G ad refused out.1 out.2.1 out.2.2.1 out.2.2.2.1 out.2.2.2.2.1 out.2.2.2.2.2.1 out.2.2.2.2.2.2.1 out.2.2.2.2.2.2.2.1 tape letter letterAt told out.2.2.2.2.2.2.2.2.1 row out.2.2.2.2.2.2.2.2.2.1 out.2.2.2.2.2.2.2.2.2.2.1 out.2.2.2.2.2.2.2.2.2.2.2.1 out.2.2.2.2.2.2.2.2.2.2.2.2.1 away taped reading statements hasImage out.2.2.2.2.2.2.2.2.2.2.2.2.2.1 out.2.2.2.2.2.2.2.2.2.2.2.2.2.2 backs free goodFor loadedWhen bareGood bareWhen rowMany lots)) args s 0 0 A) (F0 m 3 ls []) := by
  obtain ⟨hx, hb, hml, hown, hts, hK, hret, hlk⟩ := id C
  intro n
  induction n with
  | zero => intro x4 there used hidden kind figure good load inn kept costs ships coughs day isKeeping cursor hf; cases hf
  | succ n ih =>
    intro x4 there used hidden kind figure good load inn kept costs ships coughs day isKeeping cursor hf H locs hs ls hl hk
    rw [X5_findCosts_L3] at hf
    refine lv_iload hx hb (dk hX5_findCosts_0 2 rfl) (lv_at hl 4 rfl) ?_
    refine lv_iconst (v := (4 : Int32)) hx hb (dk hX5_findCosts_0 3 rfl) (by decide) ?_
    refine lv_icmp_ge (tgt := 90) hx hb (dk hX5_findCosts_0 4 rfl) (by decide) (fun hc => ?_) (fun hc => ?_)
    · replace hf := ip hf hc
      exact hk _ _ _ _ _ _ _ _ _ _ _ _ _ _ _ hf _ _ hs _ (lv_sub hl [] rfl)
    · replace hf := in_ hf hc
      refine lv_aload_n hx hb (dk hX5_findCosts_0 5 rfl) rfl (lv_at hl 0 rfl) ?_
      obtain ⟨u_1, e_2, hf⟩ := Option.bind_eq_some_iff.mp hf
      refine Ct.V (As := []) (rest := []) (st1 := []) (w1 := (wM G ad refused u_1.1 u_1.2.1 u_1.2.2.1 u_1.2.2.2.1 u_1.2.2.2.2.1 u_1.2.2.2.2.2.1 u_1.2.2.2.2.2.2.1 u_1.2.2.2.2.2.2.2.1 tape letter letterAt told u_1.2.2.2.2.2.2.2.2.1 row costs u_1.2.2.2.2.2.2.2.2.2.1 u_1.2.2.2.2.2.2.2.2.2.2.1 u_1.2.2.2.2.2.2.2.2.2.2.2.1 away taped reading statements hasImage u_1.2.2.2.2.2.2.2.2.2.2.2.2.1 u_1.2.2.2.2.2.2.2.2.2.2.2.2.2 backs free goodFor loadedWhen bareGood bareWhen rowMany lots)) C hs (c_X5_thinks e_2) tw_993 tw_995 tw_51 tw_85 tw_996 nq_X5_thinks (by decide) 0 5 rfl rfl rfl rfl hl.1 rfl (Nat.le_of_ble_eq_true rfl) (dk hX5_findCosts_0 6 rfl) ⟨Nat.zero_le _, Nat.zero_le _⟩ rfl (fun H locs hs => ?_)
      refine lv_aload_n hx hb (dk hX5_findCosts_0 7 rfl) rfl (lv_at hl 0 rfl) ?_
      refine lv_iload_n hx hb (dk hX5_findCosts_0 8 rfl) rfl (lv_at hl 1 rfl) ?_
      refine lv_iload hx hb (dk hX5_findCosts_0 9 rfl) (lv_at hl 4 rfl) ?_
      refine lv_iconst (v := (2 : Int32)) hx hb (dk hX5_findCosts_0 10 rfl) (by decide) ?_
      refine lv_idiv hx hb (dk hX5_findCosts_0 11 rfl) (by decide) ?_
      obtain ⟨u_3, e_4, hf⟩ := Option.bind_eq_some_iff.mp hf
      refine Ct.V (As := [.int x1, .int (x4 / (2 : Int32))]) (rest := []) (st1 := []) (w1 := (wM G ad refused u_3.1 u_1.2.1 u_3.2 u_1.2.2.2.1 u_1.2.2.2.2.1 u_1.2.2.2.2.2.1 u_1.2.2.2.2.2.2.1 u_1.2.2.2.2.2.2.2.1 tape letter letterAt told u_1.2.2.2.2.2.2.2.2.1 row costs u_1.2.2.2.2.2.2.2.2.2.1 u_1.2.2.2.2.2.2.2.2.2.2.1 u_1.2.2.2.2.2.2.2.2.2.2.2.1 away taped reading statements hasImage u_1.2.2.2.2.2.2.2.2.2.2.2.2.1 u_1.2.2.2.2.2.2.2.2.2.2.2.2.2 backs free goodFor loadedWhen bareGood bareWhen rowMany lots)) C hs (c_X5_hidesTen e_4) tw_1129 tw_1131 tw_70 tw_85 tw_1132 nq_X5_hidesTen (by decide) 0 5 rfl rfl rfl rfl hl.1 rfl (Nat.le_of_ble_eq_true rfl) (dk hX5_findCosts_0 12 rfl) ⟨Nat.zero_le _, Nat.zero_le _⟩ rfl (fun H locs hs => ?_)
      refine lv_aload_n hx hb (dk hX5_findCosts_0 13 rfl) rfl (lv_at hl 0 rfl) ?_
      refine lv_iload_n hx hb (dk hX5_findCosts_0 14 rfl) rfl (lv_at hl 2 rfl) ?_
      refine lv_iload hx hb (dk hX5_findCosts_0 15 rfl) (lv_at hl 4 rfl) ?_
      refine lv_iconst (v := (2 : Int32)) hx hb (dk hX5_findCosts_0 16 rfl) (by decide) ?_
      refine lv_irem hx hb (dk hX5_findCosts_0 17 rfl) (by decide) ?_
      obtain ⟨u_5, e_6, hf⟩ := Option.bind_eq_some_iff.mp hf
      refine Ct.V (As := [.int x2, .int (x4 - x4 / (2 : Int32) * (2 : Int32))]) (rest := []) (st1 := []) (w1 := (wM G ad refused u_5.1 u_1.2.1 u_5.2 u_1.2.2.2.1 u_1.2.2.2.2.1 u_1.2.2.2.2.2.1 u_1.2.2.2.2.2.2.1 u_1.2.2.2.2.2.2.2.1 tape letter letterAt told u_1.2.2.2.2.2.2.2.2.1 row costs u_1.2.2.2.2.2.2.2.2.2.1 u_1.2.2.2.2.2.2.2.2.2.2.1 u_1.2.2.2.2.2.2.2.2.2.2.2.1 away taped reading statements hasImage u_1.2.2.2.2.2.2.2.2.2.2.2.2.1 u_1.2.2.2.2.2.2.2.2.2.2.2.2.2 backs free goodFor loadedWhen bareGood bareWhen rowMany lots)) C hs (c_X5_hidesTen e_6) tw_1129 tw_1131 tw_70 tw_85 tw_1132 nq_X5_hidesTen (by decide) 0 5 rfl rfl rfl rfl hl.1 rfl (Nat.le_of_ble_eq_true rfl) (dk hX5_findCosts_0 18 rfl) ⟨Nat.zero_le _, Nat.zero_le _⟩ rfl (fun H locs hs => ?_)
      refine lv_aload_n hx hb (dk hX5_findCosts_0 19 rfl) rfl (lv_at hl 0 rfl) ?_
      refine lv_iload_n hx hb (dk hX5_findCosts_0 20 rfl) rfl (lv_at hl 3 rfl) ?_
      obtain ⟨u_7, e_8, hf⟩ := Option.bind_eq_some_iff.mp hf
      refine Ct.V (As := [.int x3]) (rest := []) (st1 := []) (w1 := (wM G ad refused u_7.1 u_1.2.1 u_5.2 u_1.2.2.2.1 u_1.2.2.2.2.1 u_1.2.2.2.2.2.1 u_1.2.2.2.2.2.2.1 u_7.2.1 tape letter letterAt told u_1.2.2.2.2.2.2.2.2.1 row costs u_1.2.2.2.2.2.2.2.2.2.1 u_7.2.2.1 u_7.2.2.2 away taped reading statements hasImage u_1.2.2.2.2.2.2.2.2.2.2.2.2.1 u_1.2.2.2.2.2.2.2.2.2.2.2.2.2 backs free goodFor loadedWhen bareGood bareWhen rowMany lots)) C hs (c_X5_goes e_8) tw_862 tw_864 tw_34 tw_85 tw_865 nq_X5_goes (by decide) 0 5 rfl rfl rfl rfl hl.1 rfl (Nat.le_of_ble_eq_true rfl) (dk hX5_findCosts_0 21 rfl) ⟨Nat.zero_le _, Nat.zero_le _⟩ rfl (fun H locs hs => ?_)
      refine lv_aload_n hx hb (dk hX5_findCosts_0 22 rfl) rfl (lv_at hl 0 rfl) ?_
      refine rg ui5 rfl C hs 0 rfl 32 (by decide) tw_722 rfl rfl (dk hX5_findCosts_0 23 rfl) ?_
      refine lv_iconst (v := (2 : Int32)) hx hb (dk hX5_findCosts_0 24 rfl) (by decide) ?_
      refine lv_iload hx hb (dk hX5_findCosts_0 25 rfl) (lv_at hl 4 rfl) ?_
      refine lv_imul hx hb (dk hX5_findCosts_0 26 rfl) ?_
      refine lv_aload_n hx hb (dk hX5_findCosts_0 27 rfl) rfl (lv_at hl 0 rfl) ?_
      refine lv_iload_n hx hb (dk hX5_findCosts_0 28 rfl) rfl (lv_at hl 1 rfl) ?_
      obtain ⟨u_9, e_10, hf⟩ := Option.bind_eq_some_iff.mp hf
      refine Ct.V (As := [.int x1]) (rest := [.int ((2 : Int32) * x4), .ref (ad 16)]) (st1 := [.int u_9, .int ((2 : Int32) * x4), .ref (ad 16)]) (w1 := (wM G ad refused u_7.1 u_1.2.1 u_5.2 u_1.2.2.2.1 u_1.2.2.2.2.1 u_1.2.2.2.2.2.1 u_1.2.2.2.2.2.2.1 u_7.2.1 tape letter letterAt told u_1.2.2.2.2.2.2.2.2.1 row costs u_1.2.2.2.2.2.2.2.2.2.1 u_7.2.2.1 u_7.2.2.2 away taped reading statements hasImage u_1.2.2.2.2.2.2.2.2.2.2.2.2.1 u_1.2.2.2.2.2.2.2.2.2.2.2.2.2 backs free goodFor loadedWhen bareGood bareWhen rowMany lots)) C hs (c_X5_lack e_10) tw_888 tw_890 tw_39 tw_85 tw_891 nq_X5_lack (by decide) 0 5 rfl rfl rfl rfl hl.1 rfl (Nat.le_of_ble_eq_true rfl) (dk hX5_findCosts_0 29 rfl) ⟨Nat.zero_le _, Nat.zero_le _⟩ rfl (fun H locs hs => ?_)
      refine lv_iconst (v := (5 : Int32)) hx hb (dk hX5_findCosts_0 30 rfl) (by decide) ?_
      refine lv_iload hx hb (dk hX5_findCosts_0 31 rfl) (lv_at hl 4 rfl) ?_
      refine lv_iconst (v := (2 : Int32)) hx hb (dk hX5_findCosts_0 32 rfl) (by decide) ?_
      refine lv_idiv hx hb (dk hX5_findCosts_0 33 rfl) (by decide) ?_
      refine lv_imul hx hb (dk hX5_findCosts_0 34 rfl) ?_
      refine lv_iadd hx hb (dk hX5_findCosts_0 35 rfl) ?_
      obtain ⟨costs_11, e_12, hf⟩ := Option.bind_eq_some_iff.mp hf
      refine rist (w1 := (wM G ad refused u_7.1 u_1.2.1 u_5.2 u_1.2.2.2.1 u_1.2.2.2.2.1 u_1.2.2.2.2.2.1 u_1.2.2.2.2.2.2.1 u_7.2.1 tape letter letterAt told u_1.2.2.2.2.2.2.2.2.1 row costs_11 u_1.2.2.2.2.2.2.2.2.2.1 u_7.2.2.1 u_7.2.2.2 away taped reading statements hasImage u_1.2.2.2.2.2.2.2.2.2.2.2.2.1 u_1.2.2.2.2.2.2.2.2.2.2.2.2.2 backs free goodFor loadedWhen bareGood bareWhen rowMany lots)) C hs 16 rfl e_12 rfl (dk hX5_findCosts_0 36 rfl) (fun H locs hs => ?_)
      refine lv_aload_n hx hb (dk hX5_findCosts_0 37 rfl) rfl (lv_at hl 0 rfl) ?_
      refine rg ui5 rfl C hs 0 rfl 32 (by decide) tw_722 rfl rfl (dk hX5_findCosts_0 38 rfl) ?_
      refine lv_iconst (v := (2 : Int32)) hx hb (dk hX5_findCosts_0 39 rfl) (by decide) ?_
      refine lv_iload hx hb (dk hX5_findCosts_1 0 rfl) (lv_at hl 4 rfl) ?_
      refine lv_imul hx hb (dk hX5_findCosts_1 1 rfl) ?_
      refine lv_iconst (v := (1 : Int32)) hx hb (dk hX5_findCosts_1 2 rfl) (by decide) ?_
      refine lv_iadd hx hb (dk hX5_findCosts_1 3 rfl) ?_
      refine lv_aload_n hx hb (dk hX5_findCosts_1 4 rfl) rfl (lv_at hl 0 rfl) ?_
      refine lv_iload_n hx hb (dk hX5_findCosts_1 5 rfl) rfl (lv_at hl 2 rfl) ?_
      obtain ⟨u_13, e_14, hf⟩ := Option.bind_eq_some_iff.mp hf
      refine Ct.V (As := [.int x2]) (rest := [.int (((2 : Int32) * x4) + (1 : Int32)), .ref (ad 16)]) (st1 := [.int u_13, .int (((2 : Int32) * x4) + (1 : Int32)), .ref (ad 16)]) (w1 := (wM G ad refused u_7.1 u_1.2.1 u_5.2 u_1.2.2.2.1 u_1.2.2.2.2.1 u_1.2.2.2.2.2.1 u_1.2.2.2.2.2.2.1 u_7.2.1 tape letter letterAt told u_1.2.2.2.2.2.2.2.2.1 row costs_11 u_1.2.2.2.2.2.2.2.2.2.1 u_7.2.2.1 u_7.2.2.2 away taped reading statements hasImage u_1.2.2.2.2.2.2.2.2.2.2.2.2.1 u_1.2.2.2.2.2.2.2.2.2.2.2.2.2 backs free goodFor loadedWhen bareGood bareWhen rowMany lots)) C hs (c_X5_lack e_14) tw_888 tw_890 tw_39 tw_85 tw_891 nq_X5_lack (by decide) 0 5 rfl rfl rfl rfl hl.1 rfl (Nat.le_of_ble_eq_true rfl) (dk hX5_findCosts_1 6 rfl) ⟨Nat.zero_le _, Nat.zero_le _⟩ rfl (fun H locs hs => ?_)
      refine lv_iconst (v := (5 : Int32)) hx hb (dk hX5_findCosts_1 7 rfl) (by decide) ?_
      refine lv_iload hx hb (dk hX5_findCosts_1 8 rfl) (lv_at hl 4 rfl) ?_
      refine lv_iconst (v := (2 : Int32)) hx hb (dk hX5_findCosts_1 9 rfl) (by decide) ?_
      refine lv_irem hx hb (dk hX5_findCosts_1 10 rfl) (by decide) ?_
      refine lv_imul hx hb (dk hX5_findCosts_1 11 rfl) ?_
      refine lv_iadd hx hb (dk hX5_findCosts_1 12 rfl) ?_
      obtain ⟨costs_15, e_16, hf⟩ := Option.bind_eq_some_iff.mp hf
      refine rist (w1 := (wM G ad refused u_7.1 u_1.2.1 u_5.2 u_1.2.2.2.1 u_1.2.2.2.2.1 u_1.2.2.2.2.2.1 u_1.2.2.2.2.2.2.1 u_7.2.1 tape letter letterAt told u_1.2.2.2.2.2.2.2.2.1 row costs_15 u_1.2.2.2.2.2.2.2.2.2.1 u_7.2.2.1 u_7.2.2.2 away taped reading statements hasImage u_1.2.2.2.2.2.2.2.2.2.2.2.2.1 u_1.2.2.2.2.2.2.2.2.2.2.2.2.2 backs free goodFor loadedWhen bareGood bareWhen rowMany lots)) C hs 16 rfl e_16 rfl (dk hX5_findCosts_1 13 rfl) (fun H locs hs => ?_)
      refine lv_aload_n hx hb (dk hX5_findCosts_1 14 rfl) rfl (lv_at hl 0 rfl) ?_
      obtain ⟨u_17, e_18, hf⟩ := Option.bind_eq_some_iff.mp hf
      refine Ct.V (As := []) (rest := []) (st1 := []) (w1 := (wM G ad refused u_17.1 u_17.2.1 u_17.2.2.1 u_17.2.2.2.1 u_17.2.2.2.2.1 u_17.2.2.2.2.2.1 u_17.2.2.2.2.2.2.1 u_17.2.2.2.2.2.2.2.1 tape letter letterAt told u_17.2.2.2.2.2.2.2.2.1 row costs_15 u_17.2.2.2.2.2.2.2.2.2.1 u_17.2.2.2.2.2.2.2.2.2.2.1 u_17.2.2.2.2.2.2.2.2.2.2.2.1 away taped reading statements hasImage u_17.2.2.2.2.2.2.2.2.2.2.2.2.1 u_17.2.2.2.2.2.2.2.2.2.2.2.2.2 backs free goodFor loadedWhen bareGood bareWhen rowMany lots)) C hs (c_X5_forgets e_18) tw_997 tw_999 tw_52 tw_85 tw_1000 nq_X5_forgets (by decide) 0 5 rfl rfl rfl rfl hl.1 rfl (Nat.le_of_ble_eq_true rfl) (dk hX5_findCosts_1 15 rfl) ⟨Nat.zero_le _, Nat.zero_le _⟩ rfl (fun H locs hs => ?_)
      refine lv_iinc (v := (x4 + (1 : Int32))) (lv' := [(4, .int (x4 + (1 : Int32))), (0, .ref (ad 0)), (1, .int x1), (2, .int x2), (3, .int x3)]) hx hb (dk hX5_findCosts_1 16 rfl) hl (k := 4) rfl (by first | rfl | decide) (by decide) rfl (fun ls hl => ?_)
      refine lv_goto (tgt := 3) hx hb (dk hX5_findCosts_1 17 rfl) (by decide) ?_
      exact ih _ _ _ _ _ _ _ _ _ _ _ _ _ _ _ _ hf _ _ hs _ (lv_sub hl [1, 2, 3, 4, 0] rfl) hk
set_option maxRecDepth 100000 in
set_option maxHeartbeats 4000000 in
theorem c_X5_findCosts {l : Launch} {G : Gx} {ad : Nat → Nat} {refused there used hidden kind figure good load inn tape letter letterAt told kept row costs : List Int32} {ships coughs day away taped reading statements hasImage isKeeping cursor backs free goodFor loadedWhen bareGood bareWhen rowMany lots : Int32} {p0 : Int32} {p1 : Int32} {p2 : Int32} {out : List Int32 × List Int32 × List Int32 × List Int32 × List Int32 × List Int32 × List Int32 × List Int32 × List Int32 × List Int32 × Int32 × Int32 × Int32 × Int32 × Int32} (hf : X5_findCosts there used hidden kind figure good load inn kept costs ships coughs day away isKeeping cursor free p0 p1 p2 = some out) : Ct l G yX5_findCosts cX5_findCosts 5 (none) 7 151 [.ref (ad 0), .int p0, .int p1, .int p2] (wM G ad refused there used hidden kind figure good load inn tape letter letterAt told kept row costs ships coughs day away taped reading statements hasImage isKeeping cursor backs free goodFor loadedWhen bareGood bareWhen rowMany lots) (none) (wM G ad refused out.1 out.2.1 out.2.2.1 out.2.2.2.1 out.2.2.2.2.1 out.2.2.2.2.2.1 out.2.2.2.2.2.2.1 out.2.2.2.2.2.2.2.1 tape letter letterAt told out.2.2.2.2.2.2.2.2.1 row out.2.2.2.2.2.2.2.2.2.1 out.2.2.2.2.2.2.2.2.2.2.1 out.2.2.2.2.2.2.2.2.2.2.2.1 out.2.2.2.2.2.2.2.2.2.2.2.2.1 away taped reading statements hasImage out.2.2.2.2.2.2.2.2.2.2.2.2.2.1 out.2.2.2.2.2.2.2.2.2.2.2.2.2.2 backs free goodFor loadedWhen bareGood bareWhen rowMany lots) := by
  refine Ct.intro RX5 rfl (plainFor_of_name (by decide)) (Nat.le_of_ble_eq_true rfl) rfl ?_
  intro p e s m args below meth c A C H locs hs ls hl
  obtain ⟨hx, hb, hml, hown, hts, hK, hret, hlk⟩ := id C
  have hl : lv_has ls 5 [(0, .ref (ad 0)), (1, .int p0), (2, .int p1), (3, .int p2)] := hl
  unfold X5_findCosts at hf
  refine lv_iconst (v := (0 : Int32)) hx hb (dk hX5_findCosts_0 0 rfl) (by decide) ?_
  refine lv_istore (lv' := [(4, .int (0 : Int32)), (0, .ref (ad 0)), (1, .int p0), (2, .int p1), (3, .int p2)]) hx hb (dk hX5_findCosts_0 1 rfl) hl (by decide) rfl (fun ls hl => ?_)
  refine l_X5_findCosts_L3 C 1000 _ _ _ _ _ _ _ _ _ _ _ _ _ _ _ _ hf _ _ hs _ (lv_sub hl [1, 2, 3, 4, 0] rfl) (fun there_19 used_20 hidden_21 kind_22 figure_23 good_24 load_25 inn_26 kept_27 costs_28 ships_29 coughs_30 day_31 isKeeping_32 cursor_33 hf H locs hs ls hl => ?_)
  cases hf
  exact rv C hs (dk hX5_findCosts_1 18 rfl)

def X5_two_L51 (k : Unit → Option (List Int32 × List Int32 × List Int32 × List Int32 × List Int32 × List Int32 × List Int32 × List Int32 × List Int32 × List Int32 × List Int32 × Int32 × Int32 × Int32 × Int32 × Int32 × Int32)) (refused : List Int32) (there : List Int32) (used : List Int32) (hidden : List Int32) (kind : List Int32) (figure : List Int32) (good : List Int32) (load : List Int32) (inn : List Int32) (kept : List Int32) (costs : List Int32) (ships : Int32) (coughs : Int32) (day : Int32) (isKeeping : Int32) (cursor : Int32) : Nat → Int32 → Option (List Int32 × List Int32 × List Int32 × List Int32 × List Int32 × List Int32 × List Int32 × List Int32 × List Int32 × List Int32 × List Int32 × Int32 × Int32 × Int32 × Int32 × Int32 × Int32)
  | 0, _ => none
  | n + 1, x5 =>
  if (4 : Int32) ≤ x5 then
  k ()
  else
  (rd costs ((2 : Int32) * (x5 ^^^ (2 : Int32)))).bind fun v_13 =>
  (rd costs ((2 : Int32) * x5)).bind fun v_15 =>
  if v_13 < v_15 then
  X5_two_L51 k refused there used hidden kind figure good load inn kept costs ships coughs day isKeeping cursor n (x5 + (1 : Int32))
  else
  (rd costs (((2 : Int32) * (x5 ^^^ (1 : Int32))) + (1 : Int32))).bind fun v_17 =>
  (rd costs (((2 : Int32) * x5) + (1 : Int32))).bind fun v_19 =>
  if v_17 < v_19 then
  X5_two_L51 k refused there used hidden kind figure good load inn kept costs ships coughs day isKeeping cursor n (x5 + (1 : Int32))
  else
  some (refused, there, used, hidden, kind, figure, good, load, inn, kept, costs, ships, coughs, day, isKeeping, cursor, (((10 : Int32) * (x5 / (2 : Int32))) + (x5 - x5 / (2 : Int32) * (2 : Int32))))
def X5_two (refused : List Int32) (there : List Int32) (used : List Int32) (hidden : List Int32) (kind : List Int32) (figure : List Int32) (good : List Int32) (load : List Int32) (inn : List Int32) (kept : List Int32) (costs : List Int32) (ships : Int32) (coughs : Int32) (day : Int32) (away : Int32) (isKeeping : Int32) (cursor : Int32) (free : Int32) (p0 : Int32) (p1 : Int32) (p2 : Int32) : Option (List Int32 × List Int32 × List Int32 × List Int32 × List Int32 × List Int32 × List Int32 × List Int32 × List Int32 × List Int32 × List Int32 × Int32 × Int32 × Int32 × Int32 × Int32 × Int32) :=
  (X5_isGood p0).bind fun u_1 =>
  if u_1 = (0 : Int32) then
  (X5_no refused (-1 : Int32)).bind fun u_3 =>
  some (u_3.1, there, used, hidden, kind, figure, good, load, inn, kept, costs, ships, coughs, day, isKeeping, cursor, u_3.2)
  else
  (X5_isGood p1).bind fun u_5 =>
  if u_5 = (0 : Int32) then
  (X5_no refused (-1 : Int32)).bind fun u_7 =>
  some (u_7.1, there, used, hidden, kind, figure, good, load, inn, kept, costs, ships, coughs, day, isKeeping, cursor, u_7.2)
  else
  if p0 = p1 then
  (X5_no refused (-1 : Int32)).bind fun u_23 =>
  some (u_23.1, there, used, hidden, kind, figure, good, load, inn, kept, costs, ships, coughs, day, isKeeping, cursor, u_23.2)
  else
  (X5_notDays p2).bind fun u_9 =>
  if u_9 = (0 : Int32) then
  (X5_findCosts there used hidden kind figure good load inn kept costs ships coughs day away isKeeping cursor free p0 p1 p2).bind fun u_11 =>
  X5_two_L51 (fun _ =>
  some (refused, u_11.1, u_11.2.1, u_11.2.2.1, u_11.2.2.2.1, u_11.2.2.2.2.1, u_11.2.2.2.2.2.1, u_11.2.2.2.2.2.2.1, u_11.2.2.2.2.2.2.2.1, u_11.2.2.2.2.2.2.2.2.1, u_11.2.2.2.2.2.2.2.2.2.1, u_11.2.2.2.2.2.2.2.2.2.2.1, u_11.2.2.2.2.2.2.2.2.2.2.2.1, u_11.2.2.2.2.2.2.2.2.2.2.2.2.1, u_11.2.2.2.2.2.2.2.2.2.2.2.2.2.1, u_11.2.2.2.2.2.2.2.2.2.2.2.2.2.2, (-9 : Int32))) refused u_11.1 u_11.2.1 u_11.2.2.1 u_11.2.2.2.1 u_11.2.2.2.2.1 u_11.2.2.2.2.2.1 u_11.2.2.2.2.2.2.1 u_11.2.2.2.2.2.2.2.1 u_11.2.2.2.2.2.2.2.2.1 u_11.2.2.2.2.2.2.2.2.2.1 u_11.2.2.2.2.2.2.2.2.2.2.1 u_11.2.2.2.2.2.2.2.2.2.2.2.1 u_11.2.2.2.2.2.2.2.2.2.2.2.2.1 u_11.2.2.2.2.2.2.2.2.2.2.2.2.2.1 u_11.2.2.2.2.2.2.2.2.2.2.2.2.2.2 1000 (0 : Int32)
  else
  (X5_no refused u_9).bind fun u_21 =>
  some (u_21.1, there, used, hidden, kind, figure, good, load, inn, kept, costs, ships, coughs, day, isKeeping, cursor, u_21.2)
set_option maxRecDepth 100000 in
set_option maxHeartbeats 4000000 in
theorem l_X5_two_L51 {l : Launch} {p : Program} {e : Env} {s : State} {m : MethodId} {args : Array Value} {below : List Frame} {meth : Method} {c : Code} {A : Nat → Prop} {G : Gx} {ad : Nat → Nat} {refused there used hidden kind figure good load inn tape letter letterAt told kept row costs : List Int32} {ships coughs day away taped reading statements hasImage isKeeping cursor backs free goodFor loadedWhen bareGood bareWhen rowMany lots : Int32} {k : Unit → Option (List Int32 × List Int32 × List Int32 × List Int32 × List Int32 × List Int32 × List Int32 × List Int32 × List Int32 × List Int32 × List Int32 × Int32 × Int32 × Int32 × Int32 × Int32 × Int32)} {out : List Int32 × List Int32 × List Int32 × List Int32 × List Int32 × List Int32 × List Int32 × List Int32 × List Int32 × List Int32 × List Int32 × Int32 × Int32 × Int32 × Int32 × Int32 × Int32} (C : Cx p s m args meth c cX5_two RX5 6 (some .int) G) : ∀ (n : Nat) (x5 : Int32), X5_two_L51 k refused there used hidden kind figure good load inn kept costs ships coughs day isKeeping cursor n x5 = some out → ∀ (H : Heap) (locs : List Loc), St G A s.heap H locs (wM G ad refused there used hidden kind figure good load inn tape letter letterAt told kept row costs ships coughs day away taped reading statements hasImage isKeeping cursor backs free goodFor loadedWhen bareGood bareWhen rowMany lots) → ∀ ls : Array Slot, lv_has ls 6 [(0, .ref (ad 0)), (5, .int x5)] → (∀ (_ : Unit), k () = some out → ∀ (H : Heap) (locs : List Loc), St G A s.heap H locs (wM G ad refused there used hidden kind figure good load inn tape letter letterAt told kept row costs ships coughs day away taped reading statements hasImage isKeeping cursor backs free goodFor loadedWhen bareGood bareWhen rowMany lots) → ∀ ls : Array Slot, lv_has ls 6 [] → W p l e (rmOf 8 175) s m args below meth c H locs 0 0 (MQ below (Qof G A (some (.int out.2.2.2.2.2.2.2.2.2.2.2.2.2.2.2.2)) (wM G ad out.1 out.2.1 out.2.2.1 out.2.2.2.1 out.2.2.2.2.1 out.2.2.2.2.2.1 out.2.2.2.2.2.2.1 out.2.2.2.2.2.2.2.1 out.2.2.2.2.2.2.2.2.1 tape letter letterAt told out.2.2.2.2.2.2.2.2.2.1 row out.2.2.2.2.2.2.2.2.2.2.1 out.2.2.2.2.2.2.2.2.2.2.2.1 out.2.2.2.2.2.2.2.2.2.2.2.2.1 out.2.2.2.2.2.2.2.2.2.2.2.2.2.1 away taped reading statements hasImage out.2.2.2.2.2.2.2.2.2.2.2.2.2.2.1 out.2.2.2.2.2.2.2.2.2.2.2.2.2.2.2.1 backs free goodFor loadedWhen bareGood bareWhen rowMany lots)) args s 0 0 A) (F0 m 126 ls [])) → W p l e (rmOf 8 175) s m args below meth c H locs 0 0 (MQ below (Qof G A (some (.int out.2.2.2.2.2.2.2.2.2.2.2.2.2.2.2.2)) (wM G ad out.1 out.2.1 out.2.2.1 out.2.2.2.1 out.2.2.2.2.1 out.2.2.2.2.2.1 out.2.2.2.2.2.2.1 out.2.2.2.2.2.2.2.1 out.2.2.2.2.2.2.2.2.1 tape letter letterAt told out.2.2.2.2.2.2.2.2.2.1 row out.2.2.2.2.2.2.2.2.2.2.1 out.2.2.2.2.2.2.2.2.2.2.2.1 out.2.2.2.2.2.2.2.2.2.2.2.2.1 out.2.2.2.2.2.2.2.2.2.2.2.2.2.1 away taped reading statements hasImage out.2.2.2.2.2.2.2.2.2.2.2.2.2.2.1 out.2.2.2.2.2.2.2.2.2.2.2.2.2.2.2.1 backs free goodFor loadedWhen bareGood bareWhen rowMany lots)) args s 0 0 A) (F0 m 51 ls []) := by
  obtain ⟨hx, hb, hml, hown, hts, hK, hret, hlk⟩ := id C
  intro n
  induction n with
  | zero => intro x5 hf; cases hf
  | succ n ih =>
    intro x5 hf H locs hs ls hl hk
    rw [X5_two_L51] at hf
    refine lv_iload hx hb (dk hX5_two_0 27 rfl) (lv_at hl 1 rfl) ?_
    refine lv_iconst (v := (4 : Int32)) hx hb (dk hX5_two_0 28 rfl) (by decide) ?_
    refine lv_icmp_ge (tgt := 126) hx hb (dk hX5_two_0 29 rfl) (by decide) (fun hc => ?_) (fun hc => ?_)
    · replace hf := ip hf hc
      exact hk () hf _ _ hs _ (lv_sub hl [] rfl)
    · replace hf := in_ hf hc
      refine lv_aload_n hx hb (dk hX5_two_0 30 rfl) rfl (lv_at hl 0 rfl) ?_
      refine rg ui5 rfl C hs 0 rfl 32 (by decide) tw_722 rfl rfl (dk hX5_two_0 31 rfl) ?_
      refine lv_iconst (v := (2 : Int32)) hx hb (dk hX5_two_0 32 rfl) (by decide) ?_
      refine lv_iload hx hb (dk hX5_two_0 33 rfl) (lv_at hl 1 rfl) ?_
      refine lv_iconst (v := (2 : Int32)) hx hb (dk hX5_two_0 34 rfl) (by decide) ?_
      refine lv_ixor hx hb (dk hX5_two_0 35 rfl) ?_
      refine lv_imul hx hb (dk hX5_two_0 36 rfl) ?_
      obtain ⟨v_13, e_14, hf⟩ := Option.bind_eq_some_iff.mp hf
      refine rild C hs 16 rfl e_14 (dk hX5_two_0 37 rfl) ?_
      refine lv_aload_n hx hb (dk hX5_two_0 38 rfl) rfl (lv_at hl 0 rfl) ?_
      refine rg ui5 rfl C hs 0 rfl 32 (by decide) tw_722 rfl rfl (dk hX5_two_0 39 rfl) ?_
      refine lv_iconst (v := (2 : Int32)) hx hb (dk hX5_two_1 0 rfl) (by decide) ?_
      refine lv_iload hx hb (dk hX5_two_1 1 rfl) (lv_at hl 1 rfl) ?_
      refine lv_imul hx hb (dk hX5_two_1 2 rfl) ?_
      obtain ⟨v_15, e_16, hf⟩ := Option.bind_eq_some_iff.mp hf
      refine rild C hs 16 rfl e_16 (dk hX5_two_1 3 rfl) ?_
      refine lv_icmp_lt (tgt := 120) hx hb (dk hX5_two_1 4 rfl) (by decide) (fun hc => ?_) (fun hc => ?_)
      · replace hf := ip hf hc
        refine lv_iinc (v := (x5 + (1 : Int32))) (lv' := [(5, .int (x5 + (1 : Int32))), (0, .ref (ad 0))]) hx hb (dk hX5_two_1 34 rfl) hl (k := 1) rfl (by first | rfl | decide) (by decide) rfl (fun ls hl => ?_)
        refine lv_goto (tgt := 51) hx hb (dk hX5_two_1 35 rfl) (by decide) ?_
        exact ih _ hf _ _ hs _ (lv_sub hl [1, 0] rfl) hk
      · replace hf := in_ hf hc
        refine lv_aload_n hx hb (dk hX5_two_1 5 rfl) rfl (lv_at hl 0 rfl) ?_
        refine rg ui5 rfl C hs 0 rfl 32 (by decide) tw_722 rfl rfl (dk hX5_two_1 6 rfl) ?_
        refine lv_iconst (v := (2 : Int32)) hx hb (dk hX5_two_1 7 rfl) (by decide) ?_
        refine lv_iload hx hb (dk hX5_two_1 8 rfl) (lv_at hl 1 rfl) ?_
        refine lv_iconst (v := (1 : Int32)) hx hb (dk hX5_two_1 9 rfl) (by decide) ?_
        refine lv_ixor hx hb (dk hX5_two_1 10 rfl) ?_
        refine lv_imul hx hb (dk hX5_two_1 11 rfl) ?_
        refine lv_iconst (v := (1 : Int32)) hx hb (dk hX5_two_1 12 rfl) (by decide) ?_
        refine lv_iadd hx hb (dk hX5_two_1 13 rfl) ?_
        obtain ⟨v_17, e_18, hf⟩ := Option.bind_eq_some_iff.mp hf
        refine rild C hs 16 rfl e_18 (dk hX5_two_1 14 rfl) ?_
        refine lv_aload_n hx hb (dk hX5_two_1 15 rfl) rfl (lv_at hl 0 rfl) ?_
        refine rg ui5 rfl C hs 0 rfl 32 (by decide) tw_722 rfl rfl (dk hX5_two_1 16 rfl) ?_
        refine lv_iconst (v := (2 : Int32)) hx hb (dk hX5_two_1 17 rfl) (by decide) ?_
        refine lv_iload hx hb (dk hX5_two_1 18 rfl) (lv_at hl 1 rfl) ?_
        refine lv_imul hx hb (dk hX5_two_1 19 rfl) ?_
        refine lv_iconst (v := (1 : Int32)) hx hb (dk hX5_two_1 20 rfl) (by decide) ?_
        refine lv_iadd hx hb (dk hX5_two_1 21 rfl) ?_
        obtain ⟨v_19, e_20, hf⟩ := Option.bind_eq_some_iff.mp hf
        refine rild C hs 16 rfl e_20 (dk hX5_two_1 22 rfl) ?_
        refine lv_icmp_lt (tgt := 120) hx hb (dk hX5_two_1 23 rfl) (by decide) (fun hc => ?_) (fun hc => ?_)
        · replace hf := ip hf hc
          refine lv_iinc (v := (x5 + (1 : Int32))) (lv' := [(5, .int (x5 + (1 : Int32))), (0, .ref (ad 0))]) hx hb (dk hX5_two_1 34 rfl) hl (k := 1) rfl (by first | rfl | decide) (by decide) rfl (fun ls hl => ?_)
          refine lv_goto (tgt := 51) hx hb (dk hX5_two_1 35 rfl) (by decide) ?_
          exact ih _ hf _ _ hs _ (lv_sub hl [1, 0] rfl) hk
        · replace hf := in_ hf hc
          refine lv_bipush (v := (10 : Int32)) hx hb (dk hX5_two_1 24 rfl) (by decide) ?_
          refine lv_iload hx hb (dk hX5_two_1 25 rfl) (lv_at hl 1 rfl) ?_
          refine lv_iconst (v := (2 : Int32)) hx hb (dk hX5_two_1 26 rfl) (by decide) ?_
          refine lv_idiv hx hb (dk hX5_two_1 27 rfl) (by decide) ?_
          refine lv_imul hx hb (dk hX5_two_1 28 rfl) ?_
          refine lv_iload hx hb (dk hX5_two_1 29 rfl) (lv_at hl 1 rfl) ?_
          refine lv_iconst (v := (2 : Int32)) hx hb (dk hX5_two_1 30 rfl) (by decide) ?_
          refine lv_irem hx hb (dk hX5_two_1 31 rfl) (by decide) ?_
          refine lv_iadd hx hb (dk hX5_two_1 32 rfl) ?_
          cases hf
          exact ri C hs (dk hX5_two_1 33 rfl)
set_option maxRecDepth 100000 in
set_option maxHeartbeats 4000000 in
theorem c_X5_two {l : Launch} {G : Gx} {ad : Nat → Nat} {refused there used hidden kind figure good load inn tape letter letterAt told kept row costs : List Int32} {ships coughs day away taped reading statements hasImage isKeeping cursor backs free goodFor loadedWhen bareGood bareWhen rowMany lots : Int32} {p0 : Int32} {p1 : Int32} {p2 : Int32} {out : List Int32 × List Int32 × List Int32 × List Int32 × List Int32 × List Int32 × List Int32 × List Int32 × List Int32 × List Int32 × List Int32 × Int32 × Int32 × Int32 × Int32 × Int32 × Int32} (hf : X5_two refused there used hidden kind figure good load inn kept costs ships coughs day away isKeeping cursor free p0 p1 p2 = some out) : Ct l G yX5_two cX5_two 6 (some .int) 8 175 [.ref (ad 0), .int p0, .int p1, .int p2] (wM G ad refused there used hidden kind figure good load inn tape letter letterAt told kept row costs ships coughs day away taped reading statements hasImage isKeeping cursor backs free goodFor loadedWhen bareGood bareWhen rowMany lots) (some (.int out.2.2.2.2.2.2.2.2.2.2.2.2.2.2.2.2)) (wM G ad out.1 out.2.1 out.2.2.1 out.2.2.2.1 out.2.2.2.2.1 out.2.2.2.2.2.1 out.2.2.2.2.2.2.1 out.2.2.2.2.2.2.2.1 out.2.2.2.2.2.2.2.2.1 tape letter letterAt told out.2.2.2.2.2.2.2.2.2.1 row out.2.2.2.2.2.2.2.2.2.2.1 out.2.2.2.2.2.2.2.2.2.2.2.1 out.2.2.2.2.2.2.2.2.2.2.2.2.1 out.2.2.2.2.2.2.2.2.2.2.2.2.2.1 away taped reading statements hasImage out.2.2.2.2.2.2.2.2.2.2.2.2.2.2.1 out.2.2.2.2.2.2.2.2.2.2.2.2.2.2.2.1 backs free goodFor loadedWhen bareGood bareWhen rowMany lots) := by
  refine Ct.intro RX5 rfl (plainFor_of_name (by decide)) (Nat.le_of_ble_eq_true rfl) rfl ?_
  intro p e s m args below meth c A C H locs hs ls hl
  obtain ⟨hx, hb, hml, hown, hts, hK, hret, hlk⟩ := id C
  have hl : lv_has ls 6 [(0, .ref (ad 0)), (1, .int p0), (2, .int p1), (3, .int p2)] := hl
  unfold X5_two at hf
  refine lv_iload_n hx hb (dk hX5_two_0 0 rfl) rfl (lv_at hl 1 rfl) ?_
  obtain ⟨u_1, e_2, hf⟩ := Option.bind_eq_some_iff.mp hf
  refine Ct.S (As := [.int p0]) (rest := []) (st1 := [.int u_1]) (w1 := (wM G ad refused there used hidden kind figure good load inn tape letter letterAt told kept row costs ships coughs day away taped reading statements hasImage isKeeping cursor backs free goodFor loadedWhen bareGood bareWhen rowMany lots)) C hs (c_X5_isGood e_2) tw_847 tw_848 tw_85 tw_849 nq_X5_isGood (by decide) rfl hl.1 rfl (Nat.le_of_ble_eq_true rfl) (dk hX5_two_0 1 rfl) ⟨Nat.zero_le _, Nat.zero_le _⟩ rfl (fun H locs hs => ?_)
  refine lv_if_eq (tgt := 19) hx hb (dk hX5_two_0 2 rfl) (by decide) (fun hc => ?_) (fun hc => ?_)
  · replace hf := ip hf hc
    refine lv_iconst (v := (-1 : Int32)) hx hb (dk hX5_two_0 9 rfl) (by decide) ?_
    refine lv_goto (tgt := 27) hx hb (dk hX5_two_0 10 rfl) (by decide) ?_
    refine lv_istore (lv' := [(4, .int (-1 : Int32)), (0, .ref (ad 0)), (1, .int p0), (2, .int p1), (3, .int p2)]) hx hb (dk hX5_two_0 13 rfl) hl (by decide) rfl (fun ls hl => ?_)
    refine lv_iload hx hb (dk hX5_two_0 14 rfl) (lv_at hl 0 rfl) ?_
    refine lv_if_eq (tgt := 41) hx hb (dk hX5_two_0 15 rfl) (by decide) (fun hc => ?_) (fun hc => ?_)
    · exact absurd hc (by decide)
    · refine lv_aload_n hx hb (dk hX5_two_0 16 rfl) rfl (lv_at hl 1 rfl) ?_
      refine lv_iload hx hb (dk hX5_two_0 17 rfl) (lv_at hl 0 rfl) ?_
      obtain ⟨u_3, e_4, hf⟩ := Option.bind_eq_some_iff.mp hf
      refine Ct.V (As := [.int (-1 : Int32)]) (rest := []) (st1 := [.int u_3.2]) (w1 := (wM G ad u_3.1 there used hidden kind figure good load inn tape letter letterAt told kept row costs ships coughs day away taped reading statements hasImage isKeeping cursor backs free goodFor loadedWhen bareGood bareWhen rowMany lots)) C hs (c_X5_no e_4) tw_800 tw_802 tw_21 tw_85 tw_803 nq_X5_no (by decide) 0 5 rfl rfl rfl rfl hl.1 rfl (Nat.le_of_ble_eq_true rfl) (dk hX5_two_0 18 rfl) ⟨Nat.zero_le _, Nat.zero_le _⟩ rfl (fun H locs hs => ?_)
      cases hf
      exact ri C hs (dk hX5_two_0 19 rfl)
  · replace hf := in_ hf hc
    refine lv_iload_n hx hb (dk hX5_two_0 3 rfl) rfl (lv_at hl 2 rfl) ?_
    obtain ⟨u_5, e_6, hf⟩ := Option.bind_eq_some_iff.mp hf
    refine Ct.S (As := [.int p1]) (rest := []) (st1 := [.int u_5]) (w1 := (wM G ad refused there used hidden kind figure good load inn tape letter letterAt told kept row costs ships coughs day away taped reading statements hasImage isKeeping cursor backs free goodFor loadedWhen bareGood bareWhen rowMany lots)) C hs (c_X5_isGood e_6) tw_847 tw_848 tw_85 tw_849 nq_X5_isGood (by decide) rfl hl.1 rfl (Nat.le_of_ble_eq_true rfl) (dk hX5_two_0 4 rfl) ⟨Nat.zero_le _, Nat.zero_le _⟩ rfl (fun H locs hs => ?_)
    refine lv_if_eq (tgt := 19) hx hb (dk hX5_two_0 5 rfl) (by decide) (fun hc => ?_) (fun hc => ?_)
    · replace hf := ip hf hc
      refine lv_iconst (v := (-1 : Int32)) hx hb (dk hX5_two_0 9 rfl) (by decide) ?_
      refine lv_goto (tgt := 27) hx hb (dk hX5_two_0 10 rfl) (by decide) ?_
      refine lv_istore (lv' := [(4, .int (-1 : Int32)), (0, .ref (ad 0)), (1, .int p0), (2, .int p1), (3, .int p2)]) hx hb (dk hX5_two_0 13 rfl) hl (by decide) rfl (fun ls hl => ?_)
      refine lv_iload hx hb (dk hX5_two_0 14 rfl) (lv_at hl 0 rfl) ?_
      refine lv_if_eq (tgt := 41) hx hb (dk hX5_two_0 15 rfl) (by decide) (fun hc => ?_) (fun hc => ?_)
      · exact absurd hc (by decide)
      · refine lv_aload_n hx hb (dk hX5_two_0 16 rfl) rfl (lv_at hl 1 rfl) ?_
        refine lv_iload hx hb (dk hX5_two_0 17 rfl) (lv_at hl 0 rfl) ?_
        obtain ⟨u_7, e_8, hf⟩ := Option.bind_eq_some_iff.mp hf
        refine Ct.V (As := [.int (-1 : Int32)]) (rest := []) (st1 := [.int u_7.2]) (w1 := (wM G ad u_7.1 there used hidden kind figure good load inn tape letter letterAt told kept row costs ships coughs day away taped reading statements hasImage isKeeping cursor backs free goodFor loadedWhen bareGood bareWhen rowMany lots)) C hs (c_X5_no e_8) tw_800 tw_802 tw_21 tw_85 tw_803 nq_X5_no (by decide) 0 5 rfl rfl rfl rfl hl.1 rfl (Nat.le_of_ble_eq_true rfl) (dk hX5_two_0 18 rfl) ⟨Nat.zero_le _, Nat.zero_le _⟩ rfl (fun H locs hs => ?_)
        cases hf
        exact ri C hs (dk hX5_two_0 19 rfl)
    · replace hf := in_ hf hc
      refine lv_iload_n hx hb (dk hX5_two_0 6 rfl) rfl (lv_at hl 1 rfl) ?_
      refine lv_iload_n hx hb (dk hX5_two_0 7 rfl) rfl (lv_at hl 2 rfl) ?_
      refine lv_icmp_ne (tgt := 23) hx hb (dk hX5_two_0 8 rfl) (by decide) (fun hc => ?_) (fun hc => ?_)
      · replace hf := in_ hf hc
        refine lv_iload_n hx hb (dk hX5_two_0 11 rfl) rfl (lv_at hl 3 rfl) ?_
        obtain ⟨u_9, e_10, hf⟩ := Option.bind_eq_some_iff.mp hf
        refine Ct.S (As := [.int p2]) (rest := []) (st1 := [.int u_9]) (w1 := (wM G ad refused there used hidden kind figure good load inn tape letter letterAt told kept row costs ships coughs day away taped reading statements hasImage isKeeping cursor backs free goodFor loadedWhen bareGood bareWhen rowMany lots)) C hs (c_X5_notDays e_10) tw_990 tw_991 tw_85 tw_992 nq_X5_notDays (by decide) rfl hl.1 rfl (Nat.le_of_ble_eq_true rfl) (dk hX5_two_0 12 rfl) ⟨Nat.zero_le _, Nat.zero_le _⟩ rfl (fun H locs hs => ?_)
        refine lv_istore (lv' := [(4, .int u_9), (0, .ref (ad 0)), (1, .int p0), (2, .int p1), (3, .int p2)]) hx hb (dk hX5_two_0 13 rfl) hl (by decide) rfl (fun ls hl => ?_)
        refine lv_iload hx hb (dk hX5_two_0 14 rfl) (lv_at hl 0 rfl) ?_
        refine lv_if_eq (tgt := 41) hx hb (dk hX5_two_0 15 rfl) (by decide) (fun hc => ?_) (fun hc => ?_)
        · replace hf := ip hf hc
          refine lv_aload_n hx hb (dk hX5_two_0 20 rfl) rfl (lv_at hl 1 rfl) ?_
          refine lv_iload_n hx hb (dk hX5_two_0 21 rfl) rfl (lv_at hl 2 rfl) ?_
          refine lv_iload_n hx hb (dk hX5_two_0 22 rfl) rfl (lv_at hl 3 rfl) ?_
          refine lv_iload_n hx hb (dk hX5_two_0 23 rfl) rfl (lv_at hl 4 rfl) ?_
          obtain ⟨u_11, e_12, hf⟩ := Option.bind_eq_some_iff.mp hf
          refine Ct.V (As := [.int p0, .int p1, .int p2]) (rest := []) (st1 := []) (w1 := (wM G ad refused u_11.1 u_11.2.1 u_11.2.2.1 u_11.2.2.2.1 u_11.2.2.2.2.1 u_11.2.2.2.2.2.1 u_11.2.2.2.2.2.2.1 u_11.2.2.2.2.2.2.2.1 tape letter letterAt told u_11.2.2.2.2.2.2.2.2.1 row u_11.2.2.2.2.2.2.2.2.2.1 u_11.2.2.2.2.2.2.2.2.2.2.1 u_11.2.2.2.2.2.2.2.2.2.2.2.1 u_11.2.2.2.2.2.2.2.2.2.2.2.2.1 away taped reading statements hasImage u_11.2.2.2.2.2.2.2.2.2.2.2.2.2.1 u_11.2.2.2.2.2.2.2.2.2.2.2.2.2.2 backs free goodFor loadedWhen bareGood bareWhen rowMany lots)) C hs (c_X5_findCosts e_12) tw_1125 tw_1127 tw_69 tw_85 tw_1128 nq_X5_findCosts (by decide) 0 5 rfl rfl rfl rfl hl.1 rfl (Nat.le_of_ble_eq_true rfl) (dk hX5_two_0 24 rfl) ⟨Nat.zero_le _, Nat.zero_le _⟩ rfl (fun H locs hs => ?_)
          refine lv_iconst (v := (0 : Int32)) hx hb (dk hX5_two_0 25 rfl) (by decide) ?_
          refine lv_istore (lv' := [(5, .int (0 : Int32)), (4, .int u_9), (0, .ref (ad 0)), (1, .int p0), (2, .int p1), (3, .int p2)]) hx hb (dk hX5_two_0 26 rfl) hl (by decide) rfl (fun ls hl => ?_)
          refine l_X5_two_L51 C 1000 _ hf _ _ hs _ (lv_sub hl [2, 0] rfl) (fun _ hf H locs hs ls hl => ?_)
          refine lv_bipush (v := (-9 : Int32)) hx hb (dk hX5_two_1 36 rfl) (by decide) ?_
          cases hf
          exact ri C hs (dk hX5_two_1 37 rfl)
        · replace hf := in_ hf hc
          refine lv_aload_n hx hb (dk hX5_two_0 16 rfl) rfl (lv_at hl 1 rfl) ?_
          refine lv_iload hx hb (dk hX5_two_0 17 rfl) (lv_at hl 0 rfl) ?_
          obtain ⟨u_21, e_22, hf⟩ := Option.bind_eq_some_iff.mp hf
          refine Ct.V (As := [.int u_9]) (rest := []) (st1 := [.int u_21.2]) (w1 := (wM G ad u_21.1 there used hidden kind figure good load inn tape letter letterAt told kept row costs ships coughs day away taped reading statements hasImage isKeeping cursor backs free goodFor loadedWhen bareGood bareWhen rowMany lots)) C hs (c_X5_no e_22) tw_800 tw_802 tw_21 tw_85 tw_803 nq_X5_no (by decide) 0 5 rfl rfl rfl rfl hl.1 rfl (Nat.le_of_ble_eq_true rfl) (dk hX5_two_0 18 rfl) ⟨Nat.zero_le _, Nat.zero_le _⟩ rfl (fun H locs hs => ?_)
          cases hf
          exact ri C hs (dk hX5_two_0 19 rfl)
      · replace hf := ip hf hc
        refine lv_iconst (v := (-1 : Int32)) hx hb (dk hX5_two_0 9 rfl) (by decide) ?_
        refine lv_goto (tgt := 27) hx hb (dk hX5_two_0 10 rfl) (by decide) ?_
        refine lv_istore (lv' := [(4, .int (-1 : Int32)), (0, .ref (ad 0)), (1, .int p0), (2, .int p1), (3, .int p2)]) hx hb (dk hX5_two_0 13 rfl) hl (by decide) rfl (fun ls hl => ?_)
        refine lv_iload hx hb (dk hX5_two_0 14 rfl) (lv_at hl 0 rfl) ?_
        refine lv_if_eq (tgt := 41) hx hb (dk hX5_two_0 15 rfl) (by decide) (fun hc => ?_) (fun hc => ?_)
        · exact absurd hc (by decide)
        · refine lv_aload_n hx hb (dk hX5_two_0 16 rfl) rfl (lv_at hl 1 rfl) ?_
          refine lv_iload hx hb (dk hX5_two_0 17 rfl) (lv_at hl 0 rfl) ?_
          obtain ⟨u_23, e_24, hf⟩ := Option.bind_eq_some_iff.mp hf
          refine Ct.V (As := [.int (-1 : Int32)]) (rest := []) (st1 := [.int u_23.2]) (w1 := (wM G ad u_23.1 there used hidden kind figure good load inn tape letter letterAt told kept row costs ships coughs day away taped reading statements hasImage isKeeping cursor backs free goodFor loadedWhen bareGood bareWhen rowMany lots)) C hs (c_X5_no e_24) tw_800 tw_802 tw_21 tw_85 tw_803 nq_X5_no (by decide) 0 5 rfl rfl rfl rfl hl.1 rfl (Nat.le_of_ble_eq_true rfl) (dk hX5_two_0 18 rfl) ⟨Nat.zero_le _, Nat.zero_le _⟩ rfl (fun H locs hs => ?_)
          cases hf
          exact ri C hs (dk hX5_two_0 19 rfl)

def X5_divisor_L6 (k : Int64 → Option (Int64)) : Nat → Int64 → Int64 → Option (Int64)
  | 0, _, _ => none
  | n + 1, x4, x6 =>
  if (lg_cmp x6 (0 : Int64)) = (0 : Int32) then
  k x4
  else
  if x6 = 0 then none else
  X5_divisor_L6 k n x6 (x4 - x4 / x6 * x6)
def X5_divisor (p0 : Int64) (p1 : Int64) : Option (Int64) :=
  X5_divisor_L6 (fun y4_1 =>
  some y4_1) 1000 p0 p1
set_option maxRecDepth 100000 in
set_option maxHeartbeats 4000000 in
theorem l_X5_divisor_L6 {l : Launch} {p : Program} {e : Env} {s : State} {m : MethodId} {args : Array Value} {below : List Frame} {meth : Method} {c : Code} {A : Nat → Prop} {G : Gx} {w : va_W} {k : Int64 → Option (Int64)} {out : Int64} (C : Cx p s m args meth c cX5_divisor RX5 10 (some .long) G) : ∀ (n : Nat) (x4 : Int64) (x6 : Int64), X5_divisor_L6 k n x4 x6 = some out → ∀ (H : Heap) (locs : List Loc), St G A s.heap H locs w → ∀ ls : Array Slot, lv_has ls 10 [(4, .long x4), (6, .long x6)] → (∀ (y4 : Int64), k y4 = some out → ∀ (H : Heap) (locs : List Loc), St G A s.heap H locs w → ∀ ls : Array Slot, lv_has ls 10 [(4, .long y4)] → W p l e (rmOf 0 0) s m args below meth c H locs 0 0 (MQ below (Qof G A (some (.long out)) w) args s 0 0 A) (F0 m 31 ls [])) → W p l e (rmOf 0 0) s m args below meth c H locs 0 0 (MQ below (Qof G A (some (.long out)) w) args s 0 0 A) (F0 m 6 ls []) := by
  obtain ⟨hx, hb, hml, hown, hts, hK, hret, hlk⟩ := id C
  intro n
  induction n with
  | zero => intro x4 x6 hf; cases hf
  | succ n ih =>
    intro x4 x6 hf H locs hs ls hl hk
    rw [X5_divisor_L6] at hf
    refine lv_lload hx hb (dk hX5_divisor_0 4 rfl) (lv_at hl 1 rfl) ?_
    refine lv_lconst (v := (0 : Int64)) hx hb (dk hX5_divisor_0 5 rfl) (by decide) ?_
    refine W.lcmp hx hb (dk hX5_divisor_0 6 rfl) ?_
    refine lv_if_eq (tgt := 31) hx hb (dk hX5_divisor_0 7 rfl) (by decide) (fun hc => ?_) (fun hc => ?_)
    · replace hf := ip hf hc
      exact hk _ hf _ _ hs _ (lv_sub hl [0] rfl)
    · replace hf := in_ hf hc
      refine lv_lload hx hb (dk hX5_divisor_0 8 rfl) (lv_at hl 0 rfl) ?_
      refine lv_lload hx hb (dk hX5_divisor_0 9 rfl) (lv_at hl 1 rfl) ?_
      obtain ⟨hne, hf⟩ := idn hf
      refine lv_lrem hx hb (dk hX5_divisor_0 10 rfl) hne ?_
      refine lv_lstore (lv' := [(8, .long (x4 - x4 / x6 * x6)), (4, .long x4), (6, .long x6)]) hx hb (dk hX5_divisor_0 11 rfl) hl (by decide) rfl (fun ls hl => ?_)
      refine lv_lload hx hb (dk hX5_divisor_0 12 rfl) (lv_at hl 2 rfl) ?_
      refine lv_lstore (lv' := [(4, .long x6), (8, .long (x4 - x4 / x6 * x6)), (6, .long x6)]) hx hb (dk hX5_divisor_0 13 rfl) hl (by decide) rfl (fun ls hl => ?_)
      refine lv_lload hx hb (dk hX5_divisor_0 14 rfl) (lv_at hl 1 rfl) ?_
      refine lv_lstore (lv' := [(6, .long (x4 - x4 / x6 * x6)), (4, .long x6), (8, .long (x4 - x4 / x6 * x6))]) hx hb (dk hX5_divisor_0 15 rfl) hl (by decide) rfl (fun ls hl => ?_)
      refine lv_goto (tgt := 6) hx hb (dk hX5_divisor_0 16 rfl) (by decide) ?_
      exact ih _ _ hf _ _ hs _ (lv_sub hl [1, 0] rfl) hk
set_option maxRecDepth 100000 in
set_option maxHeartbeats 4000000 in
theorem c_X5_divisor {l : Launch} {G : Gx} {w : va_W} {p0 : Int64} {p1 : Int64} {out : Int64} (hf : X5_divisor p0 p1 = some out) : Ct l G yX5_divisor cX5_divisor 10 (some .long) 0 0 [.long p0, .long p1] w (some (.long out)) w := by
  refine Ct.intro RX5 rfl (plainFor_of_name (by decide)) (Nat.le_of_ble_eq_true rfl) rfl ?_
  intro p e s m args below meth c A C H locs hs ls hl
  obtain ⟨hx, hb, hml, hown, hts, hK, hret, hlk⟩ := id C
  have hl : lv_has ls 10 [(0, .long p0), (2, .long p1)] := hl
  unfold X5_divisor at hf
  refine lv_lload_n hx hb (dk hX5_divisor_0 0 rfl) rfl (lv_at hl 0 rfl) ?_
  refine lv_lstore (lv' := [(4, .long p0), (0, .long p0), (2, .long p1)]) hx hb (dk hX5_divisor_0 1 rfl) hl (by decide) rfl (fun ls hl => ?_)
  refine lv_lload_n hx hb (dk hX5_divisor_0 2 rfl) rfl (lv_at hl 2 rfl) ?_
  refine lv_lstore (lv' := [(6, .long p1), (4, .long p0), (0, .long p0), (2, .long p1)]) hx hb (dk hX5_divisor_0 3 rfl) hl (by decide) rfl (fun ls hl => ?_)
  refine l_X5_divisor_L6 C 1000 _ _ hf _ _ hs _ (lv_sub hl [1, 0] rfl) (fun y4_1 hf H locs hs ls hl => ?_)
  refine lv_lload hx hb (dk hX5_divisor_0 17 rfl) (lv_at hl 0 rfl) ?_
  cases hf
  exact rl C hs (dk hX5_divisor_0 18 rfl)

def X5_partOf (p0 : Int64) (p1 : Int64) (p2 : Int32) : Option (Int64) :=
  if p2 = (0 : Int32) then
  (X5_divisor p0 p1).bind fun u_3 =>
  if u_3 = 0 then none else
  some (p0 / u_3)
  else
  (X5_divisor p0 p1).bind fun u_1 =>
  if u_1 = 0 then none else
  some (p1 / u_1)
set_option maxRecDepth 100000 in
set_option maxHeartbeats 4000000 in
theorem c_X5_partOf {l : Launch} {G : Gx} {w : va_W} {p0 : Int64} {p1 : Int64} {p2 : Int32} {out : Int64} (hf : X5_partOf p0 p1 p2 = some out) : Ct l G yX5_partOf cX5_partOf 5 (some .long) 1 29 [.long p0, .long p1, .int p2] w (some (.long out)) w := by
  refine Ct.intro RX5 rfl (plainFor_of_name (by decide)) (Nat.le_of_ble_eq_true rfl) rfl ?_
  intro p e s m args below meth c A C H locs hs ls hl
  obtain ⟨hx, hb, hml, hown, hts, hK, hret, hlk⟩ := id C
  have hl : lv_has ls 5 [(0, .long p0), (2, .long p1), (4, .int p2)] := hl
  unfold X5_partOf at hf
  refine lv_iload hx hb (dk hX5_partOf_0 0 rfl) (lv_at hl 2 rfl) ?_
  refine lv_if_ne (tgt := 9) hx hb (dk hX5_partOf_0 1 rfl) (by decide) (fun hc => ?_) (fun hc => ?_)
  · replace hf := in_ hf hc
    refine lv_lload_n hx hb (dk hX5_partOf_0 4 rfl) rfl (lv_at hl 1 rfl) ?_
    refine lv_lload_n hx hb (dk hX5_partOf_0 5 rfl) rfl (lv_at hl 0 rfl) ?_
    refine lv_lload_n hx hb (dk hX5_partOf_0 6 rfl) rfl (lv_at hl 1 rfl) ?_
    obtain ⟨u_1, e_2, hf⟩ := Option.bind_eq_some_iff.mp hf
    refine Ct.S (As := [.long p0, .long p1]) (rest := [.long p1]) (st1 := [.long u_1, .long p1]) C hs (c_X5_divisor e_2) tw_1145 tw_1146 tw_85 tw_1147 nq_X5_divisor (by decide) rfl hl.1 rfl (Nat.le_of_ble_eq_true rfl) (dk hX5_partOf_0 7 rfl) ⟨Nat.zero_le _, Nat.zero_le _⟩ rfl (fun H locs hs => ?_)
    obtain ⟨hne, hf⟩ := idn hf
    refine lv_ldiv hx hb (dk hX5_partOf_0 8 rfl) hne ?_
    cases hf
    exact rl C hs (dk hX5_partOf_0 9 rfl)
  · replace hf := ip hf hc
    refine lv_lload_n hx hb (dk hX5_partOf_0 2 rfl) rfl (lv_at hl 0 rfl) ?_
    refine lv_goto (tgt := 10) hx hb (dk hX5_partOf_0 3 rfl) (by decide) ?_
    refine lv_lload_n hx hb (dk hX5_partOf_0 5 rfl) rfl (lv_at hl 0 rfl) ?_
    refine lv_lload_n hx hb (dk hX5_partOf_0 6 rfl) rfl (lv_at hl 1 rfl) ?_
    obtain ⟨u_3, e_4, hf⟩ := Option.bind_eq_some_iff.mp hf
    refine Ct.S (As := [.long p0, .long p1]) (rest := [.long p0]) (st1 := [.long u_3, .long p0]) C hs (c_X5_divisor e_4) tw_1145 tw_1146 tw_85 tw_1147 nq_X5_divisor (by decide) rfl hl.1 rfl (Nat.le_of_ble_eq_true rfl) (dk hX5_partOf_0 7 rfl) ⟨Nat.zero_le _, Nat.zero_le _⟩ rfl (fun H locs hs => ?_)
    obtain ⟨hne, hf⟩ := idn hf
    refine lv_ldiv hx hb (dk hX5_partOf_0 8 rfl) hne ?_
    cases hf
    exact rl C hs (dk hX5_partOf_0 9 rfl)

