def X5_sends (refused : List Int32) (there : List Int32) (used : List Int32) (hidden : List Int32) (kind : List Int32) (figure : List Int32) (good : List Int32) (load : List Int32) (inn : List Int32) (kept : List Int32) (ships : Int32) (coughs : Int32) (day : Int32) (isKeeping : Int32) (cursor : Int32) (backs : Int32) (p0 : Int32) (p1 : Int32) : Option (List Int32 × List Int32 × List Int32 × List Int32 × List Int32 × List Int32 × List Int32 × List Int32 × List Int32 × List Int32 × Int32 × Int32 × Int32 × Int32 × Int32 × Int32 × Int32) :=
  (X5_isShip ships p0).bind fun u_1 =>
  if u_1 = (0 : Int32) then
  (X5_no refused (-1 : Int32)).bind fun u_29 =>
  some (u_29.1, there, used, hidden, kind, figure, good, load, inn, kept, ships, coughs, day, isKeeping, cursor, backs, u_29.2)
  else
  (X5_bound p1 (0 : Int32) (99 : Int32)).bind fun u_3 =>
  if u_3 = (0 : Int32) then
  (rd inn p0).bind fun v_15 =>
  if v_15 = (0 : Int32) then
  (X5_no refused (-3 : Int32)).bind fun u_27 =>
  some (u_27.1, there, used, hidden, kind, figure, good, load, inn, kept, ships, coughs, day, isKeeping, cursor, backs, u_27.2)
  else
  if u_3 = (0 : Int32) then
  (X5_keepsBack there used hidden kind figure good load inn kept ships coughs day isKeeping cursor backs).bind fun u_17 =>
  (rd u_17.2.2.2.2.2.2.1 p0).bind fun v_19 =>
  (wr u_17.2.2.2.2.2.2.1 p0 p1).bind fun load_21 =>
  (wr u_17.2.2.2.2.2.2.2.1 p0 (0 : Int32)).bind fun inn_23 =>
  some (refused, u_17.1, u_17.2.1, u_17.2.2.1, u_17.2.2.2.1, u_17.2.2.2.2.1, u_17.2.2.2.2.2.1, load_21, inn_23, u_17.2.2.2.2.2.2.2.2.1, u_17.2.2.2.2.2.2.2.2.2.1, u_17.2.2.2.2.2.2.2.2.2.2.1, u_17.2.2.2.2.2.2.2.2.2.2.2.1, u_17.2.2.2.2.2.2.2.2.2.2.2.2.1, u_17.2.2.2.2.2.2.2.2.2.2.2.2.2.1, u_17.2.2.2.2.2.2.2.2.2.2.2.2.2.2, v_19)
  else
  (X5_no refused u_3).bind fun u_25 =>
  some (u_25.1, there, used, hidden, kind, figure, good, load, inn, kept, ships, coughs, day, isKeeping, cursor, backs, u_25.2)
  else
  if u_3 = (0 : Int32) then
  (X5_keepsBack there used hidden kind figure good load inn kept ships coughs day isKeeping cursor backs).bind fun u_5 =>
  (rd u_5.2.2.2.2.2.2.1 p0).bind fun v_7 =>
  (wr u_5.2.2.2.2.2.2.1 p0 p1).bind fun load_9 =>
  (wr u_5.2.2.2.2.2.2.2.1 p0 (0 : Int32)).bind fun inn_11 =>
  some (refused, u_5.1, u_5.2.1, u_5.2.2.1, u_5.2.2.2.1, u_5.2.2.2.2.1, u_5.2.2.2.2.2.1, load_9, inn_11, u_5.2.2.2.2.2.2.2.2.1, u_5.2.2.2.2.2.2.2.2.2.1, u_5.2.2.2.2.2.2.2.2.2.2.1, u_5.2.2.2.2.2.2.2.2.2.2.2.1, u_5.2.2.2.2.2.2.2.2.2.2.2.2.1, u_5.2.2.2.2.2.2.2.2.2.2.2.2.2.1, u_5.2.2.2.2.2.2.2.2.2.2.2.2.2.2, v_7)
  else
  (X5_no refused u_3).bind fun u_13 =>
  some (u_13.1, there, used, hidden, kind, figure, good, load, inn, kept, ships, coughs, day, isKeeping, cursor, backs, u_13.2)
set_option maxRecDepth 100000 in
set_option maxHeartbeats 4000000 in
theorem c_X5_sends {l : Launch} {G : Gx} {ad : Nat → Nat} {refused there used hidden kind figure good load inn tape letter letterAt told kept row costs : List Int32} {ships coughs day away taped reading statements hasImage isKeeping cursor backs free goodFor loadedWhen bareGood bareWhen rowMany lots : Int32} {p0 : Int32} {p1 : Int32} {out : List Int32 × List Int32 × List Int32 × List Int32 × List Int32 × List Int32 × List Int32 × List Int32 × List Int32 × List Int32 × Int32 × Int32 × Int32 × Int32 × Int32 × Int32 × Int32} (hf : X5_sends refused there used hidden kind figure good load inn kept ships coughs day isKeeping cursor backs p0 p1 = some out) : Ct l G yX5_sends cX5_sends 5 (some .int) 3 65 [.ref (ad 0), .int p0, .int p1] (wM G ad refused there used hidden kind figure good load inn tape letter letterAt told kept row costs ships coughs day away taped reading statements hasImage isKeeping cursor backs free goodFor loadedWhen bareGood bareWhen rowMany lots) (some (.int out.2.2.2.2.2.2.2.2.2.2.2.2.2.2.2.2)) (wM G ad out.1 out.2.1 out.2.2.1 out.2.2.2.1 out.2.2.2.2.1 out.2.2.2.2.2.1 out.2.2.2.2.2.2.1 out.2.2.2.2.2.2.2.1 out.2.2.2.2.2.2.2.2.1 tape letter letterAt told out.2.2.2.2.2.2.2.2.2.1 row costs out.2.2.2.2.2.2.2.2.2.2.1 out.2.2.2.2.2.2.2.2.2.2.2.1 out.2.2.2.2.2.2.2.2.2.2.2.2.1 away taped reading statements hasImage out.2.2.2.2.2.2.2.2.2.2.2.2.2.1 out.2.2.2.2.2.2.2.2.2.2.2.2.2.2.1 out.2.2.2.2.2.2.2.2.2.2.2.2.2.2.2.1 free goodFor loadedWhen bareGood bareWhen rowMany lots) := by
  refine Ct.intro RX5 rfl (plainFor_of_name (by decide)) (Nat.le_of_ble_eq_true rfl) rfl ?_
  intro p e s m args below meth c A C H locs hs ls hl
  obtain ⟨hx, hb, hml, hown, hts, hK, hret, hlk⟩ := id C
  have hl : lv_has ls 5 [(0, .ref (ad 0)), (1, .int p0), (2, .int p1)] := hl
  unfold X5_sends at hf
  refine lv_aload_n hx hb (dk hX5_sends_0 0 rfl) rfl (lv_at hl 0 rfl) ?_
  refine lv_iload_n hx hb (dk hX5_sends_0 1 rfl) rfl (lv_at hl 1 rfl) ?_
  obtain ⟨u_1, e_2, hf⟩ := Option.bind_eq_some_iff.mp hf
  refine Ct.V (As := [.int p0]) (rest := []) (st1 := [.int u_1]) (w1 := (wM G ad refused there used hidden kind figure good load inn tape letter letterAt told kept row costs ships coughs day away taped reading statements hasImage isKeeping cursor backs free goodFor loadedWhen bareGood bareWhen rowMany lots)) C hs (c_X5_isShip e_2) tw_854 tw_856 tw_32 tw_85 tw_857 nq_X5_isShip (by decide) 0 5 rfl rfl rfl rfl hl.1 rfl (Nat.le_of_ble_eq_true rfl) (dk hX5_sends_0 2 rfl) ⟨Nat.zero_le _, Nat.zero_le _⟩ rfl (fun H locs hs => ?_)
  refine lv_if_ne (tgt := 12) hx hb (dk hX5_sends_0 3 rfl) (by decide) (fun hc => ?_) (fun hc => ?_)
  · replace hf := in_ hf hc
    refine lv_iload_n hx hb (dk hX5_sends_0 6 rfl) rfl (lv_at hl 2 rfl) ?_
    refine lv_iconst (v := (0 : Int32)) hx hb (dk hX5_sends_0 7 rfl) (by decide) ?_
    refine lv_bipush (v := (99 : Int32)) hx hb (dk hX5_sends_0 8 rfl) (by decide) ?_
    obtain ⟨u_3, e_4, hf⟩ := Option.bind_eq_some_iff.mp hf
    refine Ct.S (As := [.int p1, .int (0 : Int32), .int (99 : Int32)]) (rest := []) (st1 := [.int u_3]) (w1 := (wM G ad refused there used hidden kind figure good load inn tape letter letterAt told kept row costs ships coughs day away taped reading statements hasImage isKeeping cursor backs free goodFor loadedWhen bareGood bareWhen rowMany lots)) C hs (c_X5_bound e_4) tw_797 tw_798 tw_85 tw_799 nq_X5_bound (by decide) rfl hl.1 rfl (Nat.le_of_ble_eq_true rfl) (dk hX5_sends_0 9 rfl) ⟨Nat.zero_le _, Nat.zero_le _⟩ rfl (fun H locs hs => ?_)
    refine lv_istore_n (lv' := [(3, .int u_3), (0, .ref (ad 0)), (1, .int p0), (2, .int p1)]) hx hb (dk hX5_sends_0 10 rfl) rfl hl (by decide) rfl (fun ls hl => ?_)
    refine lv_iload_n hx hb (dk hX5_sends_0 11 rfl) rfl (lv_at hl 0 rfl) ?_
    refine lv_if_ne (tgt := 36) hx hb (dk hX5_sends_0 12 rfl) (by decide) (fun hc => ?_) (fun hc => ?_)
    · replace hf := in_ hf hc
      refine lv_iload_n hx hb (dk hX5_sends_0 20 rfl) rfl (lv_at hl 0 rfl) ?_
      refine lv_if_eq (tgt := 46) hx hb (dk hX5_sends_0 21 rfl) (by decide) (fun hc => ?_) (fun hc => ?_)
      · replace hf := ip hf hc
        refine lv_aload_n hx hb (dk hX5_sends_0 26 rfl) rfl (lv_at hl 1 rfl) ?_
        obtain ⟨u_5, e_6, hf⟩ := Option.bind_eq_some_iff.mp hf
        refine Ct.V (As := []) (rest := []) (st1 := []) (w1 := (wM G ad refused u_5.1 u_5.2.1 u_5.2.2.1 u_5.2.2.2.1 u_5.2.2.2.2.1 u_5.2.2.2.2.2.1 u_5.2.2.2.2.2.2.1 u_5.2.2.2.2.2.2.2.1 tape letter letterAt told u_5.2.2.2.2.2.2.2.2.1 row costs u_5.2.2.2.2.2.2.2.2.2.1 u_5.2.2.2.2.2.2.2.2.2.2.1 u_5.2.2.2.2.2.2.2.2.2.2.2.1 away taped reading statements hasImage u_5.2.2.2.2.2.2.2.2.2.2.2.2.1 u_5.2.2.2.2.2.2.2.2.2.2.2.2.2.1 u_5.2.2.2.2.2.2.2.2.2.2.2.2.2.2 free goodFor loadedWhen bareGood bareWhen rowMany lots)) C hs (c_X5_keepsBack e_6) tw_963 tw_965 tw_49 tw_85 tw_966 nq_X5_keepsBack (by decide) 0 5 rfl rfl rfl rfl hl.1 rfl (Nat.le_of_ble_eq_true rfl) (dk hX5_sends_0 27 rfl) ⟨Nat.zero_le _, Nat.zero_le _⟩ rfl (fun H locs hs => ?_)
        refine lv_aload_n hx hb (dk hX5_sends_0 28 rfl) rfl (lv_at hl 1 rfl) ?_
        refine rg ui5 rfl C hs 0 rfl 7 (by decide) tw_697 rfl rfl (dk hX5_sends_0 29 rfl) ?_
        refine lv_iload_n hx hb (dk hX5_sends_0 30 rfl) rfl (lv_at hl 2 rfl) ?_
        obtain ⟨v_7, e_8, hf⟩ := Option.bind_eq_some_iff.mp hf
        refine rild C hs 8 rfl e_8 (dk hX5_sends_0 31 rfl) ?_
        refine lv_istore (lv' := [(4, .int v_7), (3, .int u_3), (0, .ref (ad 0)), (1, .int p0), (2, .int p1)]) hx hb (dk hX5_sends_0 32 rfl) hl (by decide) rfl (fun ls hl => ?_)
        refine lv_aload_n hx hb (dk hX5_sends_0 33 rfl) rfl (lv_at hl 2 rfl) ?_
        refine rg ui5 rfl C hs 0 rfl 7 (by decide) tw_697 rfl rfl (dk hX5_sends_0 34 rfl) ?_
        refine lv_iload_n hx hb (dk hX5_sends_0 35 rfl) rfl (lv_at hl 3 rfl) ?_
        refine lv_iload_n hx hb (dk hX5_sends_0 36 rfl) rfl (lv_at hl 4 rfl) ?_
        obtain ⟨load_9, e_10, hf⟩ := Option.bind_eq_some_iff.mp hf
        refine rist (w1 := (wM G ad refused u_5.1 u_5.2.1 u_5.2.2.1 u_5.2.2.2.1 u_5.2.2.2.2.1 u_5.2.2.2.2.2.1 load_9 u_5.2.2.2.2.2.2.2.1 tape letter letterAt told u_5.2.2.2.2.2.2.2.2.1 row costs u_5.2.2.2.2.2.2.2.2.2.1 u_5.2.2.2.2.2.2.2.2.2.2.1 u_5.2.2.2.2.2.2.2.2.2.2.2.1 away taped reading statements hasImage u_5.2.2.2.2.2.2.2.2.2.2.2.2.1 u_5.2.2.2.2.2.2.2.2.2.2.2.2.2.1 u_5.2.2.2.2.2.2.2.2.2.2.2.2.2.2 free goodFor loadedWhen bareGood bareWhen rowMany lots)) C hs 8 rfl e_10 rfl (dk hX5_sends_0 37 rfl) (fun H locs hs => ?_)
        refine lv_aload_n hx hb (dk hX5_sends_0 38 rfl) rfl (lv_at hl 2 rfl) ?_
        refine rg ui5 rfl C hs 0 rfl 8 (by decide) tw_698 rfl rfl (dk hX5_sends_0 39 rfl) ?_
        refine lv_iload_n hx hb (dk hX5_sends_1 0 rfl) rfl (lv_at hl 3 rfl) ?_
        refine lv_iconst (v := (0 : Int32)) hx hb (dk hX5_sends_1 1 rfl) (by decide) ?_
        obtain ⟨inn_11, e_12, hf⟩ := Option.bind_eq_some_iff.mp hf
        refine rist (w1 := (wM G ad refused u_5.1 u_5.2.1 u_5.2.2.1 u_5.2.2.2.1 u_5.2.2.2.2.1 u_5.2.2.2.2.2.1 load_9 inn_11 tape letter letterAt told u_5.2.2.2.2.2.2.2.2.1 row costs u_5.2.2.2.2.2.2.2.2.2.1 u_5.2.2.2.2.2.2.2.2.2.2.1 u_5.2.2.2.2.2.2.2.2.2.2.2.1 away taped reading statements hasImage u_5.2.2.2.2.2.2.2.2.2.2.2.2.1 u_5.2.2.2.2.2.2.2.2.2.2.2.2.2.1 u_5.2.2.2.2.2.2.2.2.2.2.2.2.2.2 free goodFor loadedWhen bareGood bareWhen rowMany lots)) C hs 9 rfl e_12 rfl (dk hX5_sends_1 2 rfl) (fun H locs hs => ?_)
        refine lv_iload hx hb (dk hX5_sends_1 3 rfl) (lv_at hl 0 rfl) ?_
        cases hf
        exact ri C hs (dk hX5_sends_1 4 rfl)
      · replace hf := in_ hf hc
        refine lv_aload_n hx hb (dk hX5_sends_0 22 rfl) rfl (lv_at hl 1 rfl) ?_
        refine lv_iload_n hx hb (dk hX5_sends_0 23 rfl) rfl (lv_at hl 0 rfl) ?_
        obtain ⟨u_13, e_14, hf⟩ := Option.bind_eq_some_iff.mp hf
        refine Ct.V (As := [.int u_3]) (rest := []) (st1 := [.int u_13.2]) (w1 := (wM G ad u_13.1 there used hidden kind figure good load inn tape letter letterAt told kept row costs ships coughs day away taped reading statements hasImage isKeeping cursor backs free goodFor loadedWhen bareGood bareWhen rowMany lots)) C hs (c_X5_no e_14) tw_800 tw_802 tw_21 tw_85 tw_803 nq_X5_no (by decide) 0 5 rfl rfl rfl rfl hl.1 rfl (Nat.le_of_ble_eq_true rfl) (dk hX5_sends_0 24 rfl) ⟨Nat.zero_le _, Nat.zero_le _⟩ rfl (fun H locs hs => ?_)
        cases hf
        exact ri C hs (dk hX5_sends_0 25 rfl)
    · replace hf := ip hf hc
      refine lv_aload_n hx hb (dk hX5_sends_0 13 rfl) rfl (lv_at hl 1 rfl) ?_
      refine rg ui5 rfl C hs 0 rfl 8 (by decide) tw_698 rfl rfl (dk hX5_sends_0 14 rfl) ?_
      refine lv_iload_n hx hb (dk hX5_sends_0 15 rfl) rfl (lv_at hl 2 rfl) ?_
      obtain ⟨v_15, e_16, hf⟩ := Option.bind_eq_some_iff.mp hf
      refine rild C hs 9 rfl e_16 (dk hX5_sends_0 16 rfl) ?_
      refine lv_if_ne (tgt := 36) hx hb (dk hX5_sends_0 17 rfl) (by decide) (fun hc => ?_) (fun hc => ?_)
      · replace hf := in_ hf hc
        refine lv_iload_n hx hb (dk hX5_sends_0 20 rfl) rfl (lv_at hl 0 rfl) ?_
        refine lv_if_eq (tgt := 46) hx hb (dk hX5_sends_0 21 rfl) (by decide) (fun hc => ?_) (fun hc => ?_)
        · replace hf := ip hf hc
          refine lv_aload_n hx hb (dk hX5_sends_0 26 rfl) rfl (lv_at hl 1 rfl) ?_
          obtain ⟨u_17, e_18, hf⟩ := Option.bind_eq_some_iff.mp hf
          refine Ct.V (As := []) (rest := []) (st1 := []) (w1 := (wM G ad refused u_17.1 u_17.2.1 u_17.2.2.1 u_17.2.2.2.1 u_17.2.2.2.2.1 u_17.2.2.2.2.2.1 u_17.2.2.2.2.2.2.1 u_17.2.2.2.2.2.2.2.1 tape letter letterAt told u_17.2.2.2.2.2.2.2.2.1 row costs u_17.2.2.2.2.2.2.2.2.2.1 u_17.2.2.2.2.2.2.2.2.2.2.1 u_17.2.2.2.2.2.2.2.2.2.2.2.1 away taped reading statements hasImage u_17.2.2.2.2.2.2.2.2.2.2.2.2.1 u_17.2.2.2.2.2.2.2.2.2.2.2.2.2.1 u_17.2.2.2.2.2.2.2.2.2.2.2.2.2.2 free goodFor loadedWhen bareGood bareWhen rowMany lots)) C hs (c_X5_keepsBack e_18) tw_963 tw_965 tw_49 tw_85 tw_966 nq_X5_keepsBack (by decide) 0 5 rfl rfl rfl rfl hl.1 rfl (Nat.le_of_ble_eq_true rfl) (dk hX5_sends_0 27 rfl) ⟨Nat.zero_le _, Nat.zero_le _⟩ rfl (fun H locs hs => ?_)
          refine lv_aload_n hx hb (dk hX5_sends_0 28 rfl) rfl (lv_at hl 1 rfl) ?_
          refine rg ui5 rfl C hs 0 rfl 7 (by decide) tw_697 rfl rfl (dk hX5_sends_0 29 rfl) ?_
          refine lv_iload_n hx hb (dk hX5_sends_0 30 rfl) rfl (lv_at hl 2 rfl) ?_
          obtain ⟨v_19, e_20, hf⟩ := Option.bind_eq_some_iff.mp hf
          refine rild C hs 8 rfl e_20 (dk hX5_sends_0 31 rfl) ?_
          refine lv_istore (lv' := [(4, .int v_19), (3, .int u_3), (0, .ref (ad 0)), (1, .int p0), (2, .int p1)]) hx hb (dk hX5_sends_0 32 rfl) hl (by decide) rfl (fun ls hl => ?_)
          refine lv_aload_n hx hb (dk hX5_sends_0 33 rfl) rfl (lv_at hl 2 rfl) ?_
          refine rg ui5 rfl C hs 0 rfl 7 (by decide) tw_697 rfl rfl (dk hX5_sends_0 34 rfl) ?_
          refine lv_iload_n hx hb (dk hX5_sends_0 35 rfl) rfl (lv_at hl 3 rfl) ?_
          refine lv_iload_n hx hb (dk hX5_sends_0 36 rfl) rfl (lv_at hl 4 rfl) ?_
          obtain ⟨load_21, e_22, hf⟩ := Option.bind_eq_some_iff.mp hf
          refine rist (w1 := (wM G ad refused u_17.1 u_17.2.1 u_17.2.2.1 u_17.2.2.2.1 u_17.2.2.2.2.1 u_17.2.2.2.2.2.1 load_21 u_17.2.2.2.2.2.2.2.1 tape letter letterAt told u_17.2.2.2.2.2.2.2.2.1 row costs u_17.2.2.2.2.2.2.2.2.2.1 u_17.2.2.2.2.2.2.2.2.2.2.1 u_17.2.2.2.2.2.2.2.2.2.2.2.1 away taped reading statements hasImage u_17.2.2.2.2.2.2.2.2.2.2.2.2.1 u_17.2.2.2.2.2.2.2.2.2.2.2.2.2.1 u_17.2.2.2.2.2.2.2.2.2.2.2.2.2.2 free goodFor loadedWhen bareGood bareWhen rowMany lots)) C hs 8 rfl e_22 rfl (dk hX5_sends_0 37 rfl) (fun H locs hs => ?_)
          refine lv_aload_n hx hb (dk hX5_sends_0 38 rfl) rfl (lv_at hl 2 rfl) ?_
          refine rg ui5 rfl C hs 0 rfl 8 (by decide) tw_698 rfl rfl (dk hX5_sends_0 39 rfl) ?_
          refine lv_iload_n hx hb (dk hX5_sends_1 0 rfl) rfl (lv_at hl 3 rfl) ?_
          refine lv_iconst (v := (0 : Int32)) hx hb (dk hX5_sends_1 1 rfl) (by decide) ?_
          obtain ⟨inn_23, e_24, hf⟩ := Option.bind_eq_some_iff.mp hf
          refine rist (w1 := (wM G ad refused u_17.1 u_17.2.1 u_17.2.2.1 u_17.2.2.2.1 u_17.2.2.2.2.1 u_17.2.2.2.2.2.1 load_21 inn_23 tape letter letterAt told u_17.2.2.2.2.2.2.2.2.1 row costs u_17.2.2.2.2.2.2.2.2.2.1 u_17.2.2.2.2.2.2.2.2.2.2.1 u_17.2.2.2.2.2.2.2.2.2.2.2.1 away taped reading statements hasImage u_17.2.2.2.2.2.2.2.2.2.2.2.2.1 u_17.2.2.2.2.2.2.2.2.2.2.2.2.2.1 u_17.2.2.2.2.2.2.2.2.2.2.2.2.2.2 free goodFor loadedWhen bareGood bareWhen rowMany lots)) C hs 9 rfl e_24 rfl (dk hX5_sends_1 2 rfl) (fun H locs hs => ?_)
          refine lv_iload hx hb (dk hX5_sends_1 3 rfl) (lv_at hl 0 rfl) ?_
          cases hf
          exact ri C hs (dk hX5_sends_1 4 rfl)
        · replace hf := in_ hf hc
          refine lv_aload_n hx hb (dk hX5_sends_0 22 rfl) rfl (lv_at hl 1 rfl) ?_
          refine lv_iload_n hx hb (dk hX5_sends_0 23 rfl) rfl (lv_at hl 0 rfl) ?_
          obtain ⟨u_25, e_26, hf⟩ := Option.bind_eq_some_iff.mp hf
          refine Ct.V (As := [.int u_3]) (rest := []) (st1 := [.int u_25.2]) (w1 := (wM G ad u_25.1 there used hidden kind figure good load inn tape letter letterAt told kept row costs ships coughs day away taped reading statements hasImage isKeeping cursor backs free goodFor loadedWhen bareGood bareWhen rowMany lots)) C hs (c_X5_no e_26) tw_800 tw_802 tw_21 tw_85 tw_803 nq_X5_no (by decide) 0 5 rfl rfl rfl rfl hl.1 rfl (Nat.le_of_ble_eq_true rfl) (dk hX5_sends_0 24 rfl) ⟨Nat.zero_le _, Nat.zero_le _⟩ rfl (fun H locs hs => ?_)
          cases hf
          exact ri C hs (dk hX5_sends_0 25 rfl)
      · replace hf := ip hf hc
        refine lv_bipush (v := (-3 : Int32)) hx hb (dk hX5_sends_0 18 rfl) (by decide) ?_
        refine lv_istore_n (lv' := [(3, .int (-3 : Int32)), (0, .ref (ad 0)), (1, .int p0), (2, .int p1)]) hx hb (dk hX5_sends_0 19 rfl) rfl hl (by decide) rfl (fun ls hl => ?_)
        refine lv_iload_n hx hb (dk hX5_sends_0 20 rfl) rfl (lv_at hl 0 rfl) ?_
        refine lv_if_eq (tgt := 46) hx hb (dk hX5_sends_0 21 rfl) (by decide) (fun hc => ?_) (fun hc => ?_)
        · exact absurd hc (by decide)
        · refine lv_aload_n hx hb (dk hX5_sends_0 22 rfl) rfl (lv_at hl 1 rfl) ?_
          refine lv_iload_n hx hb (dk hX5_sends_0 23 rfl) rfl (lv_at hl 0 rfl) ?_
          obtain ⟨u_27, e_28, hf⟩ := Option.bind_eq_some_iff.mp hf
          refine Ct.V (As := [.int (-3 : Int32)]) (rest := []) (st1 := [.int u_27.2]) (w1 := (wM G ad u_27.1 there used hidden kind figure good load inn tape letter letterAt told kept row costs ships coughs day away taped reading statements hasImage isKeeping cursor backs free goodFor loadedWhen bareGood bareWhen rowMany lots)) C hs (c_X5_no e_28) tw_800 tw_802 tw_21 tw_85 tw_803 nq_X5_no (by decide) 0 5 rfl rfl rfl rfl hl.1 rfl (Nat.le_of_ble_eq_true rfl) (dk hX5_sends_0 24 rfl) ⟨Nat.zero_le _, Nat.zero_le _⟩ rfl (fun H locs hs => ?_)
          cases hf
          exact ri C hs (dk hX5_sends_0 25 rfl)
  · replace hf := ip hf hc
    refine lv_iconst (v := (-1 : Int32)) hx hb (dk hX5_sends_0 4 rfl) (by decide) ?_
    refine lv_goto (tgt := 19) hx hb (dk hX5_sends_0 5 rfl) (by decide) ?_
    refine lv_istore_n (lv' := [(3, .int (-1 : Int32)), (0, .ref (ad 0)), (1, .int p0), (2, .int p1)]) hx hb (dk hX5_sends_0 10 rfl) rfl hl (by decide) rfl (fun ls hl => ?_)
    refine lv_iload_n hx hb (dk hX5_sends_0 11 rfl) rfl (lv_at hl 0 rfl) ?_
    refine lv_if_ne (tgt := 36) hx hb (dk hX5_sends_0 12 rfl) (by decide) (fun hc => ?_) (fun hc => ?_)
    · refine lv_iload_n hx hb (dk hX5_sends_0 20 rfl) rfl (lv_at hl 0 rfl) ?_
      refine lv_if_eq (tgt := 46) hx hb (dk hX5_sends_0 21 rfl) (by decide) (fun hc => ?_) (fun hc => ?_)
      · exact absurd hc (by decide)
      · refine lv_aload_n hx hb (dk hX5_sends_0 22 rfl) rfl (lv_at hl 1 rfl) ?_
        refine lv_iload_n hx hb (dk hX5_sends_0 23 rfl) rfl (lv_at hl 0 rfl) ?_
        obtain ⟨u_29, e_30, hf⟩ := Option.bind_eq_some_iff.mp hf
        refine Ct.V (As := [.int (-1 : Int32)]) (rest := []) (st1 := [.int u_29.2]) (w1 := (wM G ad u_29.1 there used hidden kind figure good load inn tape letter letterAt told kept row costs ships coughs day away taped reading statements hasImage isKeeping cursor backs free goodFor loadedWhen bareGood bareWhen rowMany lots)) C hs (c_X5_no e_30) tw_800 tw_802 tw_21 tw_85 tw_803 nq_X5_no (by decide) 0 5 rfl rfl rfl rfl hl.1 rfl (Nat.le_of_ble_eq_true rfl) (dk hX5_sends_0 24 rfl) ⟨Nat.zero_le _, Nat.zero_le _⟩ rfl (fun H locs hs => ?_)
        cases hf
        exact ri C hs (dk hX5_sends_0 25 rfl)
    · exact absurd hc (by decide)

def X5_days (refused : List Int32) (there : List Int32) (used : List Int32) (hidden : List Int32) (kind : List Int32) (figure : List Int32) (good : List Int32) (load : List Int32) (inn : List Int32) (kept : List Int32) (ships : Int32) (coughs : Int32) (day : Int32) (away : Int32) (isKeeping : Int32) (cursor : Int32) (backs : Int32) (free : Int32) (p0 : Int32) : Option (List Int32 × List Int32 × List Int32 × List Int32 × List Int32 × List Int32 × List Int32 × List Int32 × List Int32 × List Int32 × Int32 × Int32 × Int32 × Int32 × Int32 × Int32 × Int32) :=
  (X5_bound p0 (1 : Int32) (60 : Int32)).bind fun u_1 =>
  if u_1 = (0 : Int32) then
  if (day + p0) ≤ (999 : Int32) then
  if u_1 = (0 : Int32) then
  (X5_keepsBack there used hidden kind figure good load inn kept ships coughs day isKeeping cursor backs).bind fun u_13 =>
  (X5_goes u_13.1 u_13.2.1 u_13.2.2.1 u_13.2.2.2.1 u_13.2.2.2.2.1 u_13.2.2.2.2.2.1 u_13.2.2.2.2.2.2.1 u_13.2.2.2.2.2.2.2.1 u_13.2.2.2.2.2.2.2.2.2.1 u_13.2.2.2.2.2.2.2.2.2.2.1 u_13.2.2.2.2.2.2.2.2.2.2.2.1 away free p0).bind fun u_15 =>
  (X5_inOnes u_15.2.1 u_13.2.2.2.2.2.2.2.2.2.1).bind fun u_17 =>
  (X5_bits u_17).bind fun u_19 =>
  some (refused, u_15.1, u_13.2.1, u_13.2.2.1, u_13.2.2.2.1, u_13.2.2.2.2.1, u_13.2.2.2.2.2.1, u_13.2.2.2.2.2.2.1, u_15.2.1, u_13.2.2.2.2.2.2.2.2.1, u_13.2.2.2.2.2.2.2.2.2.1, u_15.2.2.1, u_15.2.2.2, u_13.2.2.2.2.2.2.2.2.2.2.2.2.1, u_13.2.2.2.2.2.2.2.2.2.2.2.2.2.1, u_13.2.2.2.2.2.2.2.2.2.2.2.2.2.2, u_19)
  else
  (X5_no refused u_1).bind fun u_21 =>
  some (u_21.1, there, used, hidden, kind, figure, good, load, inn, kept, ships, coughs, day, isKeeping, cursor, backs, u_21.2)
  else
  (X5_no refused (-6 : Int32)).bind fun u_23 =>
  some (u_23.1, there, used, hidden, kind, figure, good, load, inn, kept, ships, coughs, day, isKeeping, cursor, backs, u_23.2)
  else
  if u_1 = (0 : Int32) then
  (X5_keepsBack there used hidden kind figure good load inn kept ships coughs day isKeeping cursor backs).bind fun u_3 =>
  (X5_goes u_3.1 u_3.2.1 u_3.2.2.1 u_3.2.2.2.1 u_3.2.2.2.2.1 u_3.2.2.2.2.2.1 u_3.2.2.2.2.2.2.1 u_3.2.2.2.2.2.2.2.1 u_3.2.2.2.2.2.2.2.2.2.1 u_3.2.2.2.2.2.2.2.2.2.2.1 u_3.2.2.2.2.2.2.2.2.2.2.2.1 away free p0).bind fun u_5 =>
  (X5_inOnes u_5.2.1 u_3.2.2.2.2.2.2.2.2.2.1).bind fun u_7 =>
  (X5_bits u_7).bind fun u_9 =>
  some (refused, u_5.1, u_3.2.1, u_3.2.2.1, u_3.2.2.2.1, u_3.2.2.2.2.1, u_3.2.2.2.2.2.1, u_3.2.2.2.2.2.2.1, u_5.2.1, u_3.2.2.2.2.2.2.2.2.1, u_3.2.2.2.2.2.2.2.2.2.1, u_5.2.2.1, u_5.2.2.2, u_3.2.2.2.2.2.2.2.2.2.2.2.2.1, u_3.2.2.2.2.2.2.2.2.2.2.2.2.2.1, u_3.2.2.2.2.2.2.2.2.2.2.2.2.2.2, u_9)
  else
  (X5_no refused u_1).bind fun u_11 =>
  some (u_11.1, there, used, hidden, kind, figure, good, load, inn, kept, ships, coughs, day, isKeeping, cursor, backs, u_11.2)
set_option maxRecDepth 100000 in
set_option maxHeartbeats 4000000 in
theorem c_X5_days {l : Launch} {G : Gx} {ad : Nat → Nat} {refused there used hidden kind figure good load inn tape letter letterAt told kept row costs : List Int32} {ships coughs day away taped reading statements hasImage isKeeping cursor backs free goodFor loadedWhen bareGood bareWhen rowMany lots : Int32} {p0 : Int32} {out : List Int32 × List Int32 × List Int32 × List Int32 × List Int32 × List Int32 × List Int32 × List Int32 × List Int32 × List Int32 × Int32 × Int32 × Int32 × Int32 × Int32 × Int32 × Int32} (hf : X5_days refused there used hidden kind figure good load inn kept ships coughs day away isKeeping cursor backs free p0 = some out) : Ct l G yX5_days cX5_days 3 (some .int) 7 151 [.ref (ad 0), .int p0] (wM G ad refused there used hidden kind figure good load inn tape letter letterAt told kept row costs ships coughs day away taped reading statements hasImage isKeeping cursor backs free goodFor loadedWhen bareGood bareWhen rowMany lots) (some (.int out.2.2.2.2.2.2.2.2.2.2.2.2.2.2.2.2)) (wM G ad out.1 out.2.1 out.2.2.1 out.2.2.2.1 out.2.2.2.2.1 out.2.2.2.2.2.1 out.2.2.2.2.2.2.1 out.2.2.2.2.2.2.2.1 out.2.2.2.2.2.2.2.2.1 tape letter letterAt told out.2.2.2.2.2.2.2.2.2.1 row costs out.2.2.2.2.2.2.2.2.2.2.1 out.2.2.2.2.2.2.2.2.2.2.2.1 out.2.2.2.2.2.2.2.2.2.2.2.2.1 away taped reading statements hasImage out.2.2.2.2.2.2.2.2.2.2.2.2.2.1 out.2.2.2.2.2.2.2.2.2.2.2.2.2.2.1 out.2.2.2.2.2.2.2.2.2.2.2.2.2.2.2.1 free goodFor loadedWhen bareGood bareWhen rowMany lots) := by
  refine Ct.intro RX5 rfl (plainFor_of_name (by decide)) (Nat.le_of_ble_eq_true rfl) rfl ?_
  intro p e s m args below meth c A C H locs hs ls hl
  obtain ⟨hx, hb, hml, hown, hts, hK, hret, hlk⟩ := id C
  have hl : lv_has ls 3 [(0, .ref (ad 0)), (1, .int p0)] := hl
  unfold X5_days at hf
  refine lv_iload_n hx hb (dk hX5_days_0 0 rfl) rfl (lv_at hl 1 rfl) ?_
  refine lv_iconst (v := (1 : Int32)) hx hb (dk hX5_days_0 1 rfl) (by decide) ?_
  refine lv_bipush (v := (60 : Int32)) hx hb (dk hX5_days_0 2 rfl) (by decide) ?_
  obtain ⟨u_1, e_2, hf⟩ := Option.bind_eq_some_iff.mp hf
  refine Ct.S (As := [.int p0, .int (1 : Int32), .int (60 : Int32)]) (rest := []) (st1 := [.int u_1]) (w1 := (wM G ad refused there used hidden kind figure good load inn tape letter letterAt told kept row costs ships coughs day away taped reading statements hasImage isKeeping cursor backs free goodFor loadedWhen bareGood bareWhen rowMany lots)) C hs (c_X5_bound e_2) tw_797 tw_798 tw_85 tw_799 nq_X5_bound (by decide) rfl hl.1 rfl (Nat.le_of_ble_eq_true rfl) (dk hX5_days_0 3 rfl) ⟨Nat.zero_le _, Nat.zero_le _⟩ rfl (fun H locs hs => ?_)
  refine lv_istore_n (lv' := [(2, .int u_1), (0, .ref (ad 0)), (1, .int p0)]) hx hb (dk hX5_days_0 4 rfl) rfl hl (by decide) rfl (fun ls hl => ?_)
  refine lv_iload_n hx hb (dk hX5_days_0 5 rfl) rfl (lv_at hl 0 rfl) ?_
  refine lv_if_ne (tgt := 27) hx hb (dk hX5_days_0 6 rfl) (by decide) (fun hc => ?_) (fun hc => ?_)
  · replace hf := in_ hf hc
    refine lv_iload_n hx hb (dk hX5_days_0 15 rfl) rfl (lv_at hl 0 rfl) ?_
    refine lv_if_eq (tgt := 37) hx hb (dk hX5_days_0 16 rfl) (by decide) (fun hc => ?_) (fun hc => ?_)
    · replace hf := ip hf hc
      refine lv_aload_n hx hb (dk hX5_days_0 21 rfl) rfl (lv_at hl 1 rfl) ?_
      obtain ⟨u_3, e_4, hf⟩ := Option.bind_eq_some_iff.mp hf
      refine Ct.V (As := []) (rest := []) (st1 := []) (w1 := (wM G ad refused u_3.1 u_3.2.1 u_3.2.2.1 u_3.2.2.2.1 u_3.2.2.2.2.1 u_3.2.2.2.2.2.1 u_3.2.2.2.2.2.2.1 u_3.2.2.2.2.2.2.2.1 tape letter letterAt told u_3.2.2.2.2.2.2.2.2.1 row costs u_3.2.2.2.2.2.2.2.2.2.1 u_3.2.2.2.2.2.2.2.2.2.2.1 u_3.2.2.2.2.2.2.2.2.2.2.2.1 away taped reading statements hasImage u_3.2.2.2.2.2.2.2.2.2.2.2.2.1 u_3.2.2.2.2.2.2.2.2.2.2.2.2.2.1 u_3.2.2.2.2.2.2.2.2.2.2.2.2.2.2 free goodFor loadedWhen bareGood bareWhen rowMany lots)) C hs (c_X5_keepsBack e_4) tw_963 tw_965 tw_49 tw_85 tw_966 nq_X5_keepsBack (by decide) 0 5 rfl rfl rfl rfl hl.1 rfl (Nat.le_of_ble_eq_true rfl) (dk hX5_days_0 22 rfl) ⟨Nat.zero_le _, Nat.zero_le _⟩ rfl (fun H locs hs => ?_)
      refine lv_aload_n hx hb (dk hX5_days_0 23 rfl) rfl (lv_at hl 1 rfl) ?_
      refine lv_iload_n hx hb (dk hX5_days_0 24 rfl) rfl (lv_at hl 2 rfl) ?_
      obtain ⟨u_5, e_6, hf⟩ := Option.bind_eq_some_iff.mp hf
      refine Ct.V (As := [.int p0]) (rest := []) (st1 := []) (w1 := (wM G ad refused u_5.1 u_3.2.1 u_3.2.2.1 u_3.2.2.2.1 u_3.2.2.2.2.1 u_3.2.2.2.2.2.1 u_3.2.2.2.2.2.2.1 u_5.2.1 tape letter letterAt told u_3.2.2.2.2.2.2.2.2.1 row costs u_3.2.2.2.2.2.2.2.2.2.1 u_5.2.2.1 u_5.2.2.2 away taped reading statements hasImage u_3.2.2.2.2.2.2.2.2.2.2.2.2.1 u_3.2.2.2.2.2.2.2.2.2.2.2.2.2.1 u_3.2.2.2.2.2.2.2.2.2.2.2.2.2.2 free goodFor loadedWhen bareGood bareWhen rowMany lots)) C hs (c_X5_goes e_6) tw_862 tw_864 tw_34 tw_85 tw_865 nq_X5_goes (by decide) 0 5 rfl rfl rfl rfl hl.1 rfl (Nat.le_of_ble_eq_true rfl) (dk hX5_days_0 25 rfl) ⟨Nat.zero_le _, Nat.zero_le _⟩ rfl (fun H locs hs => ?_)
      refine lv_aload_n hx hb (dk hX5_days_0 26 rfl) rfl (lv_at hl 1 rfl) ?_
      obtain ⟨u_7, e_8, hf⟩ := Option.bind_eq_some_iff.mp hf
      refine Ct.V (As := []) (rest := []) (st1 := [.int u_7]) (w1 := (wM G ad refused u_5.1 u_3.2.1 u_3.2.2.1 u_3.2.2.2.1 u_3.2.2.2.2.1 u_3.2.2.2.2.2.1 u_3.2.2.2.2.2.2.1 u_5.2.1 tape letter letterAt told u_3.2.2.2.2.2.2.2.2.1 row costs u_3.2.2.2.2.2.2.2.2.2.1 u_5.2.2.1 u_5.2.2.2 away taped reading statements hasImage u_3.2.2.2.2.2.2.2.2.2.2.2.2.1 u_3.2.2.2.2.2.2.2.2.2.2.2.2.2.1 u_3.2.2.2.2.2.2.2.2.2.2.2.2.2.2 free goodFor loadedWhen bareGood bareWhen rowMany lots)) C hs (c_X5_inOnes e_8) tw_979 tw_981 tw_50 tw_85 tw_982 nq_X5_inOnes (by decide) 0 5 rfl rfl rfl rfl hl.1 rfl (Nat.le_of_ble_eq_true rfl) (dk hX5_days_0 27 rfl) ⟨Nat.zero_le _, Nat.zero_le _⟩ rfl (fun H locs hs => ?_)
      obtain ⟨u_9, e_10, hf⟩ := Option.bind_eq_some_iff.mp hf
      refine Ct.S (As := [.int u_7]) (rest := []) (st1 := [.int u_9]) (w1 := (wM G ad refused u_5.1 u_3.2.1 u_3.2.2.1 u_3.2.2.2.1 u_3.2.2.2.2.1 u_3.2.2.2.2.2.1 u_3.2.2.2.2.2.2.1 u_5.2.1 tape letter letterAt told u_3.2.2.2.2.2.2.2.2.1 row costs u_3.2.2.2.2.2.2.2.2.2.1 u_5.2.2.1 u_5.2.2.2 away taped reading statements hasImage u_3.2.2.2.2.2.2.2.2.2.2.2.2.1 u_3.2.2.2.2.2.2.2.2.2.2.2.2.2.1 u_3.2.2.2.2.2.2.2.2.2.2.2.2.2.2 free goodFor loadedWhen bareGood bareWhen rowMany lots)) C hs (c_X5_bits e_10) tw_983 tw_984 tw_85 tw_985 nq_X5_bits (by decide) rfl hl.1 rfl (Nat.le_of_ble_eq_true rfl) (dk hX5_days_0 28 rfl) ⟨Nat.zero_le _, Nat.zero_le _⟩ rfl (fun H locs hs => ?_)
      cases hf
      exact ri C hs (dk hX5_days_0 29 rfl)
    · replace hf := in_ hf hc
      refine lv_aload_n hx hb (dk hX5_days_0 17 rfl) rfl (lv_at hl 1 rfl) ?_
      refine lv_iload_n hx hb (dk hX5_days_0 18 rfl) rfl (lv_at hl 0 rfl) ?_
      obtain ⟨u_11, e_12, hf⟩ := Option.bind_eq_some_iff.mp hf
      refine Ct.V (As := [.int u_1]) (rest := []) (st1 := [.int u_11.2]) (w1 := (wM G ad u_11.1 there used hidden kind figure good load inn tape letter letterAt told kept row costs ships coughs day away taped reading statements hasImage isKeeping cursor backs free goodFor loadedWhen bareGood bareWhen rowMany lots)) C hs (c_X5_no e_12) tw_800 tw_802 tw_21 tw_85 tw_803 nq_X5_no (by decide) 0 5 rfl rfl rfl rfl hl.1 rfl (Nat.le_of_ble_eq_true rfl) (dk hX5_days_0 19 rfl) ⟨Nat.zero_le _, Nat.zero_le _⟩ rfl (fun H locs hs => ?_)
      cases hf
      exact ri C hs (dk hX5_days_0 20 rfl)
  · replace hf := ip hf hc
    refine lv_aload_n hx hb (dk hX5_days_0 7 rfl) rfl (lv_at hl 1 rfl) ?_
    refine rg ui5 rfl C hs 0 rfl 11 (by decide) tw_701 rfl rfl (dk hX5_days_0 8 rfl) ?_
    refine lv_iload_n hx hb (dk hX5_days_0 9 rfl) rfl (lv_at hl 2 rfl) ?_
    refine lv_iadd hx hb (dk hX5_days_0 10 rfl) ?_
    refine lv_sipush (v := (999 : Int32)) hx hb (dk hX5_days_0 11 rfl) (by decide) ?_
    refine lv_icmp_le (tgt := 27) hx hb (dk hX5_days_0 12 rfl) (by decide) (fun hc => ?_) (fun hc => ?_)
    · replace hf := ip hf hc
      refine lv_iload_n hx hb (dk hX5_days_0 15 rfl) rfl (lv_at hl 0 rfl) ?_
      refine lv_if_eq (tgt := 37) hx hb (dk hX5_days_0 16 rfl) (by decide) (fun hc => ?_) (fun hc => ?_)
      · replace hf := ip hf hc
        refine lv_aload_n hx hb (dk hX5_days_0 21 rfl) rfl (lv_at hl 1 rfl) ?_
        obtain ⟨u_13, e_14, hf⟩ := Option.bind_eq_some_iff.mp hf
        refine Ct.V (As := []) (rest := []) (st1 := []) (w1 := (wM G ad refused u_13.1 u_13.2.1 u_13.2.2.1 u_13.2.2.2.1 u_13.2.2.2.2.1 u_13.2.2.2.2.2.1 u_13.2.2.2.2.2.2.1 u_13.2.2.2.2.2.2.2.1 tape letter letterAt told u_13.2.2.2.2.2.2.2.2.1 row costs u_13.2.2.2.2.2.2.2.2.2.1 u_13.2.2.2.2.2.2.2.2.2.2.1 u_13.2.2.2.2.2.2.2.2.2.2.2.1 away taped reading statements hasImage u_13.2.2.2.2.2.2.2.2.2.2.2.2.1 u_13.2.2.2.2.2.2.2.2.2.2.2.2.2.1 u_13.2.2.2.2.2.2.2.2.2.2.2.2.2.2 free goodFor loadedWhen bareGood bareWhen rowMany lots)) C hs (c_X5_keepsBack e_14) tw_963 tw_965 tw_49 tw_85 tw_966 nq_X5_keepsBack (by decide) 0 5 rfl rfl rfl rfl hl.1 rfl (Nat.le_of_ble_eq_true rfl) (dk hX5_days_0 22 rfl) ⟨Nat.zero_le _, Nat.zero_le _⟩ rfl (fun H locs hs => ?_)
        refine lv_aload_n hx hb (dk hX5_days_0 23 rfl) rfl (lv_at hl 1 rfl) ?_
        refine lv_iload_n hx hb (dk hX5_days_0 24 rfl) rfl (lv_at hl 2 rfl) ?_
        obtain ⟨u_15, e_16, hf⟩ := Option.bind_eq_some_iff.mp hf
        refine Ct.V (As := [.int p0]) (rest := []) (st1 := []) (w1 := (wM G ad refused u_15.1 u_13.2.1 u_13.2.2.1 u_13.2.2.2.1 u_13.2.2.2.2.1 u_13.2.2.2.2.2.1 u_13.2.2.2.2.2.2.1 u_15.2.1 tape letter letterAt told u_13.2.2.2.2.2.2.2.2.1 row costs u_13.2.2.2.2.2.2.2.2.2.1 u_15.2.2.1 u_15.2.2.2 away taped reading statements hasImage u_13.2.2.2.2.2.2.2.2.2.2.2.2.1 u_13.2.2.2.2.2.2.2.2.2.2.2.2.2.1 u_13.2.2.2.2.2.2.2.2.2.2.2.2.2.2 free goodFor loadedWhen bareGood bareWhen rowMany lots)) C hs (c_X5_goes e_16) tw_862 tw_864 tw_34 tw_85 tw_865 nq_X5_goes (by decide) 0 5 rfl rfl rfl rfl hl.1 rfl (Nat.le_of_ble_eq_true rfl) (dk hX5_days_0 25 rfl) ⟨Nat.zero_le _, Nat.zero_le _⟩ rfl (fun H locs hs => ?_)
        refine lv_aload_n hx hb (dk hX5_days_0 26 rfl) rfl (lv_at hl 1 rfl) ?_
        obtain ⟨u_17, e_18, hf⟩ := Option.bind_eq_some_iff.mp hf
        refine Ct.V (As := []) (rest := []) (st1 := [.int u_17]) (w1 := (wM G ad refused u_15.1 u_13.2.1 u_13.2.2.1 u_13.2.2.2.1 u_13.2.2.2.2.1 u_13.2.2.2.2.2.1 u_13.2.2.2.2.2.2.1 u_15.2.1 tape letter letterAt told u_13.2.2.2.2.2.2.2.2.1 row costs u_13.2.2.2.2.2.2.2.2.2.1 u_15.2.2.1 u_15.2.2.2 away taped reading statements hasImage u_13.2.2.2.2.2.2.2.2.2.2.2.2.1 u_13.2.2.2.2.2.2.2.2.2.2.2.2.2.1 u_13.2.2.2.2.2.2.2.2.2.2.2.2.2.2 free goodFor loadedWhen bareGood bareWhen rowMany lots)) C hs (c_X5_inOnes e_18) tw_979 tw_981 tw_50 tw_85 tw_982 nq_X5_inOnes (by decide) 0 5 rfl rfl rfl rfl hl.1 rfl (Nat.le_of_ble_eq_true rfl) (dk hX5_days_0 27 rfl) ⟨Nat.zero_le _, Nat.zero_le _⟩ rfl (fun H locs hs => ?_)
        obtain ⟨u_19, e_20, hf⟩ := Option.bind_eq_some_iff.mp hf
        refine Ct.S (As := [.int u_17]) (rest := []) (st1 := [.int u_19]) (w1 := (wM G ad refused u_15.1 u_13.2.1 u_13.2.2.1 u_13.2.2.2.1 u_13.2.2.2.2.1 u_13.2.2.2.2.2.1 u_13.2.2.2.2.2.2.1 u_15.2.1 tape letter letterAt told u_13.2.2.2.2.2.2.2.2.1 row costs u_13.2.2.2.2.2.2.2.2.2.1 u_15.2.2.1 u_15.2.2.2 away taped reading statements hasImage u_13.2.2.2.2.2.2.2.2.2.2.2.2.1 u_13.2.2.2.2.2.2.2.2.2.2.2.2.2.1 u_13.2.2.2.2.2.2.2.2.2.2.2.2.2.2 free goodFor loadedWhen bareGood bareWhen rowMany lots)) C hs (c_X5_bits e_20) tw_983 tw_984 tw_85 tw_985 nq_X5_bits (by decide) rfl hl.1 rfl (Nat.le_of_ble_eq_true rfl) (dk hX5_days_0 28 rfl) ⟨Nat.zero_le _, Nat.zero_le _⟩ rfl (fun H locs hs => ?_)
        cases hf
        exact ri C hs (dk hX5_days_0 29 rfl)
      · replace hf := in_ hf hc
        refine lv_aload_n hx hb (dk hX5_days_0 17 rfl) rfl (lv_at hl 1 rfl) ?_
        refine lv_iload_n hx hb (dk hX5_days_0 18 rfl) rfl (lv_at hl 0 rfl) ?_
        obtain ⟨u_21, e_22, hf⟩ := Option.bind_eq_some_iff.mp hf
        refine Ct.V (As := [.int u_1]) (rest := []) (st1 := [.int u_21.2]) (w1 := (wM G ad u_21.1 there used hidden kind figure good load inn tape letter letterAt told kept row costs ships coughs day away taped reading statements hasImage isKeeping cursor backs free goodFor loadedWhen bareGood bareWhen rowMany lots)) C hs (c_X5_no e_22) tw_800 tw_802 tw_21 tw_85 tw_803 nq_X5_no (by decide) 0 5 rfl rfl rfl rfl hl.1 rfl (Nat.le_of_ble_eq_true rfl) (dk hX5_days_0 19 rfl) ⟨Nat.zero_le _, Nat.zero_le _⟩ rfl (fun H locs hs => ?_)
        cases hf
        exact ri C hs (dk hX5_days_0 20 rfl)
    · replace hf := in_ hf hc
      refine lv_bipush (v := (-6 : Int32)) hx hb (dk hX5_days_0 13 rfl) (by decide) ?_
      refine lv_istore_n (lv' := [(2, .int (-6 : Int32)), (0, .ref (ad 0)), (1, .int p0)]) hx hb (dk hX5_days_0 14 rfl) rfl hl (by decide) rfl (fun ls hl => ?_)
      refine lv_iload_n hx hb (dk hX5_days_0 15 rfl) rfl (lv_at hl 0 rfl) ?_
      refine lv_if_eq (tgt := 37) hx hb (dk hX5_days_0 16 rfl) (by decide) (fun hc => ?_) (fun hc => ?_)
      · exact absurd hc (by decide)
      · refine lv_aload_n hx hb (dk hX5_days_0 17 rfl) rfl (lv_at hl 1 rfl) ?_
        refine lv_iload_n hx hb (dk hX5_days_0 18 rfl) rfl (lv_at hl 0 rfl) ?_
        obtain ⟨u_23, e_24, hf⟩ := Option.bind_eq_some_iff.mp hf
        refine Ct.V (As := [.int (-6 : Int32)]) (rest := []) (st1 := [.int u_23.2]) (w1 := (wM G ad u_23.1 there used hidden kind figure good load inn tape letter letterAt told kept row costs ships coughs day away taped reading statements hasImage isKeeping cursor backs free goodFor loadedWhen bareGood bareWhen rowMany lots)) C hs (c_X5_no e_24) tw_800 tw_802 tw_21 tw_85 tw_803 nq_X5_no (by decide) 0 5 rfl rfl rfl rfl hl.1 rfl (Nat.le_of_ble_eq_true rfl) (dk hX5_days_0 19 rfl) ⟨Nat.zero_le _, Nat.zero_le _⟩ rfl (fun H locs hs => ?_)
        cases hf
        exact ri C hs (dk hX5_days_0 20 rfl)

def X5_notDays (p0 : Int32) : Option (Int32) :=
  (X5_bound p0 (0 : Int32) (60 : Int32)).bind fun u_1 =>
  some u_1
set_option maxRecDepth 100000 in
set_option maxHeartbeats 4000000 in
theorem c_X5_notDays {l : Launch} {G : Gx} {w : va_W} {p0 : Int32} {out : Int32} (hf : X5_notDays p0 = some out) : Ct l G yX5_notDays cX5_notDays 1 (some .int) 1 22 [.int p0] w (some (.int out)) w := by
  refine Ct.intro RX5 rfl (plainFor_of_name (by decide)) (Nat.le_of_ble_eq_true rfl) rfl ?_
  intro p e s m args below meth c A C H locs hs ls hl
  obtain ⟨hx, hb, hml, hown, hts, hK, hret, hlk⟩ := id C
  have hl : lv_has ls 1 [(0, .int p0)] := hl
  unfold X5_notDays at hf
  refine lv_iload_n hx hb (dk hX5_notDays_0 0 rfl) rfl (lv_at hl 0 rfl) ?_
  refine lv_iconst (v := (0 : Int32)) hx hb (dk hX5_notDays_0 1 rfl) (by decide) ?_
  refine lv_bipush (v := (60 : Int32)) hx hb (dk hX5_notDays_0 2 rfl) (by decide) ?_
  obtain ⟨u_1, e_2, hf⟩ := Option.bind_eq_some_iff.mp hf
  refine Ct.S (As := [.int p0, .int (0 : Int32), .int (60 : Int32)]) (rest := []) (st1 := [.int u_1]) C hs (c_X5_bound e_2) tw_797 tw_798 tw_85 tw_799 nq_X5_bound (by decide) rfl hl.1 rfl (Nat.le_of_ble_eq_true rfl) (dk hX5_notDays_0 3 rfl) ⟨Nat.zero_le _, Nat.zero_le _⟩ rfl (fun H locs hs => ?_)
  cases hf
  exact ri C hs (dk hX5_notDays_0 4 rfl)

def X5_thereIn (refused : List Int32) (there : List Int32) (used : List Int32) (hidden : List Int32) (kind : List Int32) (figure : List Int32) (good : List Int32) (load : List Int32) (inn : List Int32) (kept : List Int32) (ships : Int32) (coughs : Int32) (day : Int32) (away : Int32) (isKeeping : Int32) (cursor : Int32) (free : Int32) (p0 : Int32) (p1 : Int32) : Option (List Int32 × List Int32 × List Int32 × List Int32 × List Int32 × List Int32 × List Int32 × List Int32 × List Int32 × List Int32 × Int32 × Int32 × Int32 × Int32 × Int32 × Int32) :=
  (X5_isGood p0).bind fun u_1 =>
  if u_1 = (0 : Int32) then
  (X5_no refused (-1 : Int32)).bind fun u_15 =>
  some (u_15.1, there, used, hidden, kind, figure, good, load, inn, kept, ships, coughs, day, isKeeping, cursor, u_15.2)
  else
  (X5_notDays p1).bind fun u_3 =>
  if u_3 = (0 : Int32) then
  (X5_thinks there used hidden kind figure good load inn kept ships coughs day isKeeping cursor).bind fun u_5 =>
  (X5_goes u_5.1 u_5.2.1 u_5.2.2.1 u_5.2.2.2.1 u_5.2.2.2.2.1 u_5.2.2.2.2.2.1 u_5.2.2.2.2.2.2.1 u_5.2.2.2.2.2.2.2.1 u_5.2.2.2.2.2.2.2.2.2.1 u_5.2.2.2.2.2.2.2.2.2.2.1 u_5.2.2.2.2.2.2.2.2.2.2.2.1 away free p1).bind fun u_7 =>
  (rd u_7.1 p0).bind fun v_9 =>
  (X5_forgets u_7.1 u_5.2.1 u_5.2.2.1 u_5.2.2.2.1 u_5.2.2.2.2.1 u_5.2.2.2.2.2.1 u_5.2.2.2.2.2.2.1 u_7.2.1 u_5.2.2.2.2.2.2.2.2.1 u_5.2.2.2.2.2.2.2.2.2.1 u_7.2.2.1 u_7.2.2.2 u_5.2.2.2.2.2.2.2.2.2.2.2.2.1 u_5.2.2.2.2.2.2.2.2.2.2.2.2.2).bind fun u_11 =>
  some (refused, u_11.1, u_11.2.1, u_11.2.2.1, u_11.2.2.2.1, u_11.2.2.2.2.1, u_11.2.2.2.2.2.1, u_11.2.2.2.2.2.2.1, u_11.2.2.2.2.2.2.2.1, u_11.2.2.2.2.2.2.2.2.1, u_11.2.2.2.2.2.2.2.2.2.1, u_11.2.2.2.2.2.2.2.2.2.2.1, u_11.2.2.2.2.2.2.2.2.2.2.2.1, u_11.2.2.2.2.2.2.2.2.2.2.2.2.1, u_11.2.2.2.2.2.2.2.2.2.2.2.2.2, v_9)
  else
  (X5_no refused u_3).bind fun u_13 =>
  some (u_13.1, there, used, hidden, kind, figure, good, load, inn, kept, ships, coughs, day, isKeeping, cursor, u_13.2)
set_option maxRecDepth 100000 in
set_option maxHeartbeats 4000000 in
theorem c_X5_thereIn {l : Launch} {G : Gx} {ad : Nat → Nat} {refused there used hidden kind figure good load inn tape letter letterAt told kept row costs : List Int32} {ships coughs day away taped reading statements hasImage isKeeping cursor backs free goodFor loadedWhen bareGood bareWhen rowMany lots : Int32} {p0 : Int32} {p1 : Int32} {out : List Int32 × List Int32 × List Int32 × List Int32 × List Int32 × List Int32 × List Int32 × List Int32 × List Int32 × List Int32 × Int32 × Int32 × Int32 × Int32 × Int32 × Int32} (hf : X5_thereIn refused there used hidden kind figure good load inn kept ships coughs day away isKeeping cursor free p0 p1 = some out) : Ct l G yX5_thereIn cX5_thereIn 5 (some .int) 7 151 [.ref (ad 0), .int p0, .int p1] (wM G ad refused there used hidden kind figure good load inn tape letter letterAt told kept row costs ships coughs day away taped reading statements hasImage isKeeping cursor backs free goodFor loadedWhen bareGood bareWhen rowMany lots) (some (.int out.2.2.2.2.2.2.2.2.2.2.2.2.2.2.2)) (wM G ad out.1 out.2.1 out.2.2.1 out.2.2.2.1 out.2.2.2.2.1 out.2.2.2.2.2.1 out.2.2.2.2.2.2.1 out.2.2.2.2.2.2.2.1 out.2.2.2.2.2.2.2.2.1 tape letter letterAt told out.2.2.2.2.2.2.2.2.2.1 row costs out.2.2.2.2.2.2.2.2.2.2.1 out.2.2.2.2.2.2.2.2.2.2.2.1 out.2.2.2.2.2.2.2.2.2.2.2.2.1 away taped reading statements hasImage out.2.2.2.2.2.2.2.2.2.2.2.2.2.1 out.2.2.2.2.2.2.2.2.2.2.2.2.2.2.1 backs free goodFor loadedWhen bareGood bareWhen rowMany lots) := by
  refine Ct.intro RX5 rfl (plainFor_of_name (by decide)) (Nat.le_of_ble_eq_true rfl) rfl ?_
  intro p e s m args below meth c A C H locs hs ls hl
  obtain ⟨hx, hb, hml, hown, hts, hK, hret, hlk⟩ := id C
  have hl : lv_has ls 5 [(0, .ref (ad 0)), (1, .int p0), (2, .int p1)] := hl
  unfold X5_thereIn at hf
  refine lv_iload_n hx hb (dk hX5_thereIn_0 0 rfl) rfl (lv_at hl 1 rfl) ?_
  obtain ⟨u_1, e_2, hf⟩ := Option.bind_eq_some_iff.mp hf
  refine Ct.S (As := [.int p0]) (rest := []) (st1 := [.int u_1]) (w1 := (wM G ad refused there used hidden kind figure good load inn tape letter letterAt told kept row costs ships coughs day away taped reading statements hasImage isKeeping cursor backs free goodFor loadedWhen bareGood bareWhen rowMany lots)) C hs (c_X5_isGood e_2) tw_847 tw_848 tw_85 tw_849 nq_X5_isGood (by decide) rfl hl.1 rfl (Nat.le_of_ble_eq_true rfl) (dk hX5_thereIn_0 1 rfl) ⟨Nat.zero_le _, Nat.zero_le _⟩ rfl (fun H locs hs => ?_)
  refine lv_if_ne (tgt := 11) hx hb (dk hX5_thereIn_0 2 rfl) (by decide) (fun hc => ?_) (fun hc => ?_)
  · replace hf := in_ hf hc
    refine lv_iload_n hx hb (dk hX5_thereIn_0 5 rfl) rfl (lv_at hl 2 rfl) ?_
    obtain ⟨u_3, e_4, hf⟩ := Option.bind_eq_some_iff.mp hf
    refine Ct.S (As := [.int p1]) (rest := []) (st1 := [.int u_3]) (w1 := (wM G ad refused there used hidden kind figure good load inn tape letter letterAt told kept row costs ships coughs day away taped reading statements hasImage isKeeping cursor backs free goodFor loadedWhen bareGood bareWhen rowMany lots)) C hs (c_X5_notDays e_4) tw_990 tw_991 tw_85 tw_992 nq_X5_notDays (by decide) rfl hl.1 rfl (Nat.le_of_ble_eq_true rfl) (dk hX5_thereIn_0 6 rfl) ⟨Nat.zero_le _, Nat.zero_le _⟩ rfl (fun H locs hs => ?_)
    refine lv_istore_n (lv' := [(3, .int u_3), (0, .ref (ad 0)), (1, .int p0), (2, .int p1)]) hx hb (dk hX5_thereIn_0 7 rfl) rfl hl (by decide) rfl (fun ls hl => ?_)
    refine lv_iload_n hx hb (dk hX5_thereIn_0 8 rfl) rfl (lv_at hl 0 rfl) ?_
    refine lv_if_eq (tgt := 26) hx hb (dk hX5_thereIn_0 9 rfl) (by decide) (fun hc => ?_) (fun hc => ?_)
    · replace hf := ip hf hc
      refine lv_aload_n hx hb (dk hX5_thereIn_0 14 rfl) rfl (lv_at hl 1 rfl) ?_
      obtain ⟨u_5, e_6, hf⟩ := Option.bind_eq_some_iff.mp hf
      refine Ct.V (As := []) (rest := []) (st1 := []) (w1 := (wM G ad refused u_5.1 u_5.2.1 u_5.2.2.1 u_5.2.2.2.1 u_5.2.2.2.2.1 u_5.2.2.2.2.2.1 u_5.2.2.2.2.2.2.1 u_5.2.2.2.2.2.2.2.1 tape letter letterAt told u_5.2.2.2.2.2.2.2.2.1 row costs u_5.2.2.2.2.2.2.2.2.2.1 u_5.2.2.2.2.2.2.2.2.2.2.1 u_5.2.2.2.2.2.2.2.2.2.2.2.1 away taped reading statements hasImage u_5.2.2.2.2.2.2.2.2.2.2.2.2.1 u_5.2.2.2.2.2.2.2.2.2.2.2.2.2 backs free goodFor loadedWhen bareGood bareWhen rowMany lots)) C hs (c_X5_thinks e_6) tw_993 tw_995 tw_51 tw_85 tw_996 nq_X5_thinks (by decide) 0 5 rfl rfl rfl rfl hl.1 rfl (Nat.le_of_ble_eq_true rfl) (dk hX5_thereIn_0 15 rfl) ⟨Nat.zero_le _, Nat.zero_le _⟩ rfl (fun H locs hs => ?_)
      refine lv_aload_n hx hb (dk hX5_thereIn_0 16 rfl) rfl (lv_at hl 1 rfl) ?_
      refine lv_iload_n hx hb (dk hX5_thereIn_0 17 rfl) rfl (lv_at hl 3 rfl) ?_
      obtain ⟨u_7, e_8, hf⟩ := Option.bind_eq_some_iff.mp hf
      refine Ct.V (As := [.int p1]) (rest := []) (st1 := []) (w1 := (wM G ad refused u_7.1 u_5.2.1 u_5.2.2.1 u_5.2.2.2.1 u_5.2.2.2.2.1 u_5.2.2.2.2.2.1 u_5.2.2.2.2.2.2.1 u_7.2.1 tape letter letterAt told u_5.2.2.2.2.2.2.2.2.1 row costs u_5.2.2.2.2.2.2.2.2.2.1 u_7.2.2.1 u_7.2.2.2 away taped reading statements hasImage u_5.2.2.2.2.2.2.2.2.2.2.2.2.1 u_5.2.2.2.2.2.2.2.2.2.2.2.2.2 backs free goodFor loadedWhen bareGood bareWhen rowMany lots)) C hs (c_X5_goes e_8) tw_862 tw_864 tw_34 tw_85 tw_865 nq_X5_goes (by decide) 0 5 rfl rfl rfl rfl hl.1 rfl (Nat.le_of_ble_eq_true rfl) (dk hX5_thereIn_0 18 rfl) ⟨Nat.zero_le _, Nat.zero_le _⟩ rfl (fun H locs hs => ?_)
      refine lv_aload_n hx hb (dk hX5_thereIn_0 19 rfl) rfl (lv_at hl 1 rfl) ?_
      refine rg ui5 rfl C hs 0 rfl 1 (by decide) tw_691 rfl rfl (dk hX5_thereIn_0 20 rfl) ?_
      refine lv_iload_n hx hb (dk hX5_thereIn_0 21 rfl) rfl (lv_at hl 2 rfl) ?_
      obtain ⟨v_9, e_10, hf⟩ := Option.bind_eq_some_iff.mp hf
      refine rild C hs 2 rfl e_10 (dk hX5_thereIn_0 22 rfl) ?_
      refine lv_istore (lv' := [(4, .int v_9), (3, .int u_3), (0, .ref (ad 0)), (1, .int p0), (2, .int p1)]) hx hb (dk hX5_thereIn_0 23 rfl) hl (by decide) rfl (fun ls hl => ?_)
      refine lv_aload_n hx hb (dk hX5_thereIn_0 24 rfl) rfl (lv_at hl 2 rfl) ?_
      obtain ⟨u_11, e_12, hf⟩ := Option.bind_eq_some_iff.mp hf
      refine Ct.V (As := []) (rest := []) (st1 := []) (w1 := (wM G ad refused u_11.1 u_11.2.1 u_11.2.2.1 u_11.2.2.2.1 u_11.2.2.2.2.1 u_11.2.2.2.2.2.1 u_11.2.2.2.2.2.2.1 u_11.2.2.2.2.2.2.2.1 tape letter letterAt told u_11.2.2.2.2.2.2.2.2.1 row costs u_11.2.2.2.2.2.2.2.2.2.1 u_11.2.2.2.2.2.2.2.2.2.2.1 u_11.2.2.2.2.2.2.2.2.2.2.2.1 away taped reading statements hasImage u_11.2.2.2.2.2.2.2.2.2.2.2.2.1 u_11.2.2.2.2.2.2.2.2.2.2.2.2.2 backs free goodFor loadedWhen bareGood bareWhen rowMany lots)) C hs (c_X5_forgets e_12) tw_997 tw_999 tw_52 tw_85 tw_1000 nq_X5_forgets (by decide) 0 5 rfl rfl rfl rfl hl.1 rfl (Nat.le_of_ble_eq_true rfl) (dk hX5_thereIn_0 25 rfl) ⟨Nat.zero_le _, Nat.zero_le _⟩ rfl (fun H locs hs => ?_)
      refine lv_iload hx hb (dk hX5_thereIn_0 26 rfl) (lv_at hl 0 rfl) ?_
      cases hf
      exact ri C hs (dk hX5_thereIn_0 27 rfl)
    · replace hf := in_ hf hc
      refine lv_aload_n hx hb (dk hX5_thereIn_0 10 rfl) rfl (lv_at hl 1 rfl) ?_
      refine lv_iload_n hx hb (dk hX5_thereIn_0 11 rfl) rfl (lv_at hl 0 rfl) ?_
      obtain ⟨u_13, e_14, hf⟩ := Option.bind_eq_some_iff.mp hf
      refine Ct.V (As := [.int u_3]) (rest := []) (st1 := [.int u_13.2]) (w1 := (wM G ad u_13.1 there used hidden kind figure good load inn tape letter letterAt told kept row costs ships coughs day away taped reading statements hasImage isKeeping cursor backs free goodFor loadedWhen bareGood bareWhen rowMany lots)) C hs (c_X5_no e_14) tw_800 tw_802 tw_21 tw_85 tw_803 nq_X5_no (by decide) 0 5 rfl rfl rfl rfl hl.1 rfl (Nat.le_of_ble_eq_true rfl) (dk hX5_thereIn_0 12 rfl) ⟨Nat.zero_le _, Nat.zero_le _⟩ rfl (fun H locs hs => ?_)
      cases hf
      exact ri C hs (dk hX5_thereIn_0 13 rfl)
  · replace hf := ip hf hc
    refine lv_iconst (v := (-1 : Int32)) hx hb (dk hX5_thereIn_0 3 rfl) (by decide) ?_
    refine lv_goto (tgt := 15) hx hb (dk hX5_thereIn_0 4 rfl) (by decide) ?_
    refine lv_istore_n (lv' := [(3, .int (-1 : Int32)), (0, .ref (ad 0)), (1, .int p0), (2, .int p1)]) hx hb (dk hX5_thereIn_0 7 rfl) rfl hl (by decide) rfl (fun ls hl => ?_)
    refine lv_iload_n hx hb (dk hX5_thereIn_0 8 rfl) rfl (lv_at hl 0 rfl) ?_
    refine lv_if_eq (tgt := 26) hx hb (dk hX5_thereIn_0 9 rfl) (by decide) (fun hc => ?_) (fun hc => ?_)
    · exact absurd hc (by decide)
    · refine lv_aload_n hx hb (dk hX5_thereIn_0 10 rfl) rfl (lv_at hl 1 rfl) ?_
      refine lv_iload_n hx hb (dk hX5_thereIn_0 11 rfl) rfl (lv_at hl 0 rfl) ?_
      obtain ⟨u_15, e_16, hf⟩ := Option.bind_eq_some_iff.mp hf
      refine Ct.V (As := [.int (-1 : Int32)]) (rest := []) (st1 := [.int u_15.2]) (w1 := (wM G ad u_15.1 there used hidden kind figure good load inn tape letter letterAt told kept row costs ships coughs day away taped reading statements hasImage isKeeping cursor backs free goodFor loadedWhen bareGood bareWhen rowMany lots)) C hs (c_X5_no e_16) tw_800 tw_802 tw_21 tw_85 tw_803 nq_X5_no (by decide) 0 5 rfl rfl rfl rfl hl.1 rfl (Nat.le_of_ble_eq_true rfl) (dk hX5_thereIn_0 12 rfl) ⟨Nat.zero_le _, Nat.zero_le _⟩ rfl (fun H locs hs => ?_)
      cases hf
      exact ri C hs (dk hX5_thereIn_0 13 rfl)

def X5_then (refused : List Int32) (there : List Int32) (used : List Int32) (hidden : List Int32) (kind : List Int32) (figure : List Int32) (good : List Int32) (load : List Int32) (inn : List Int32) (kept : List Int32) (ships : Int32) (coughs : Int32) (day : Int32) (away : Int32) (isKeeping : Int32) (cursor : Int32) (free : Int32) (p0 : Int32) (p1 : Int32) : Option (List Int32 × List Int32 × List Int32 × List Int32 × List Int32 × List Int32 × List Int32 × List Int32 × List Int32 × List Int32 × Int32 × Int32 × Int32 × Int32 × Int32 × Int32) :=
  (X5_notDays p0).bind fun u_1 =>
  if u_1 = (0 : Int32) then
  (X5_isIn p1 (0 : Int32) (1 : Int32)).bind fun u_15 =>
  if u_15 = (0 : Int32) then
  (X5_no refused (-2 : Int32)).bind fun u_29 =>
  some (u_29.1, there, used, hidden, kind, figure, good, load, inn, kept, ships, coughs, day, isKeeping, cursor, u_29.2)
  else
  if u_1 = (0 : Int32) then
  (X5_thinks there used hidden kind figure good load inn kept ships coughs day isKeeping cursor).bind fun u_17 =>
  (X5_goes u_17.1 u_17.2.1 u_17.2.2.1 u_17.2.2.2.1 u_17.2.2.2.2.1 u_17.2.2.2.2.2.1 u_17.2.2.2.2.2.2.1 u_17.2.2.2.2.2.2.2.1 u_17.2.2.2.2.2.2.2.2.2.1 u_17.2.2.2.2.2.2.2.2.2.2.1 u_17.2.2.2.2.2.2.2.2.2.2.2.1 away free p0).bind fun u_19 =>
  if p1 = (0 : Int32) then
  (X5_forgets u_19.1 u_17.2.1 u_17.2.2.1 u_17.2.2.2.1 u_17.2.2.2.2.1 u_17.2.2.2.2.2.1 u_17.2.2.2.2.2.2.1 u_19.2.1 u_17.2.2.2.2.2.2.2.2.1 u_17.2.2.2.2.2.2.2.2.2.1 u_19.2.2.1 u_19.2.2.2 u_17.2.2.2.2.2.2.2.2.2.2.2.2.1 u_17.2.2.2.2.2.2.2.2.2.2.2.2.2).bind fun u_25 =>
  some (refused, u_25.1, u_25.2.1, u_25.2.2.1, u_25.2.2.2.1, u_25.2.2.2.2.1, u_25.2.2.2.2.2.1, u_25.2.2.2.2.2.2.1, u_25.2.2.2.2.2.2.2.1, u_25.2.2.2.2.2.2.2.2.1, u_25.2.2.2.2.2.2.2.2.2.1, u_25.2.2.2.2.2.2.2.2.2.2.1, u_25.2.2.2.2.2.2.2.2.2.2.2.1, u_25.2.2.2.2.2.2.2.2.2.2.2.2.1, u_25.2.2.2.2.2.2.2.2.2.2.2.2.2, u_19.2.2.1)
  else
  (X5_inOnes u_19.2.1 u_17.2.2.2.2.2.2.2.2.2.1).bind fun u_21 =>
  (X5_forgets u_19.1 u_17.2.1 u_17.2.2.1 u_17.2.2.2.1 u_17.2.2.2.2.1 u_17.2.2.2.2.2.1 u_17.2.2.2.2.2.2.1 u_19.2.1 u_17.2.2.2.2.2.2.2.2.1 u_17.2.2.2.2.2.2.2.2.2.1 u_19.2.2.1 u_19.2.2.2 u_17.2.2.2.2.2.2.2.2.2.2.2.2.1 u_17.2.2.2.2.2.2.2.2.2.2.2.2.2).bind fun u_23 =>
  some (refused, u_23.1, u_23.2.1, u_23.2.2.1, u_23.2.2.2.1, u_23.2.2.2.2.1, u_23.2.2.2.2.2.1, u_23.2.2.2.2.2.2.1, u_23.2.2.2.2.2.2.2.1, u_23.2.2.2.2.2.2.2.2.1, u_23.2.2.2.2.2.2.2.2.2.1, u_23.2.2.2.2.2.2.2.2.2.2.1, u_23.2.2.2.2.2.2.2.2.2.2.2.1, u_23.2.2.2.2.2.2.2.2.2.2.2.2.1, u_23.2.2.2.2.2.2.2.2.2.2.2.2.2, u_21)
  else
  (X5_no refused u_1).bind fun u_27 =>
  some (u_27.1, there, used, hidden, kind, figure, good, load, inn, kept, ships, coughs, day, isKeeping, cursor, u_27.2)
  else
  if u_1 = (0 : Int32) then
  (X5_thinks there used hidden kind figure good load inn kept ships coughs day isKeeping cursor).bind fun u_3 =>
  (X5_goes u_3.1 u_3.2.1 u_3.2.2.1 u_3.2.2.2.1 u_3.2.2.2.2.1 u_3.2.2.2.2.2.1 u_3.2.2.2.2.2.2.1 u_3.2.2.2.2.2.2.2.1 u_3.2.2.2.2.2.2.2.2.2.1 u_3.2.2.2.2.2.2.2.2.2.2.1 u_3.2.2.2.2.2.2.2.2.2.2.2.1 away free p0).bind fun u_5 =>
  if p1 = (0 : Int32) then
  (X5_forgets u_5.1 u_3.2.1 u_3.2.2.1 u_3.2.2.2.1 u_3.2.2.2.2.1 u_3.2.2.2.2.2.1 u_3.2.2.2.2.2.2.1 u_5.2.1 u_3.2.2.2.2.2.2.2.2.1 u_3.2.2.2.2.2.2.2.2.2.1 u_5.2.2.1 u_5.2.2.2 u_3.2.2.2.2.2.2.2.2.2.2.2.2.1 u_3.2.2.2.2.2.2.2.2.2.2.2.2.2).bind fun u_11 =>
  some (refused, u_11.1, u_11.2.1, u_11.2.2.1, u_11.2.2.2.1, u_11.2.2.2.2.1, u_11.2.2.2.2.2.1, u_11.2.2.2.2.2.2.1, u_11.2.2.2.2.2.2.2.1, u_11.2.2.2.2.2.2.2.2.1, u_11.2.2.2.2.2.2.2.2.2.1, u_11.2.2.2.2.2.2.2.2.2.2.1, u_11.2.2.2.2.2.2.2.2.2.2.2.1, u_11.2.2.2.2.2.2.2.2.2.2.2.2.1, u_11.2.2.2.2.2.2.2.2.2.2.2.2.2, u_5.2.2.1)
  else
  (X5_inOnes u_5.2.1 u_3.2.2.2.2.2.2.2.2.2.1).bind fun u_7 =>
  (X5_forgets u_5.1 u_3.2.1 u_3.2.2.1 u_3.2.2.2.1 u_3.2.2.2.2.1 u_3.2.2.2.2.2.1 u_3.2.2.2.2.2.2.1 u_5.2.1 u_3.2.2.2.2.2.2.2.2.1 u_3.2.2.2.2.2.2.2.2.2.1 u_5.2.2.1 u_5.2.2.2 u_3.2.2.2.2.2.2.2.2.2.2.2.2.1 u_3.2.2.2.2.2.2.2.2.2.2.2.2.2).bind fun u_9 =>
  some (refused, u_9.1, u_9.2.1, u_9.2.2.1, u_9.2.2.2.1, u_9.2.2.2.2.1, u_9.2.2.2.2.2.1, u_9.2.2.2.2.2.2.1, u_9.2.2.2.2.2.2.2.1, u_9.2.2.2.2.2.2.2.2.1, u_9.2.2.2.2.2.2.2.2.2.1, u_9.2.2.2.2.2.2.2.2.2.2.1, u_9.2.2.2.2.2.2.2.2.2.2.2.1, u_9.2.2.2.2.2.2.2.2.2.2.2.2.1, u_9.2.2.2.2.2.2.2.2.2.2.2.2.2, u_7)
  else
  (X5_no refused u_1).bind fun u_13 =>
  some (u_13.1, there, used, hidden, kind, figure, good, load, inn, kept, ships, coughs, day, isKeeping, cursor, u_13.2)
set_option maxRecDepth 100000 in
set_option maxHeartbeats 4000000 in
theorem c_X5_then {l : Launch} {G : Gx} {ad : Nat → Nat} {refused there used hidden kind figure good load inn tape letter letterAt told kept row costs : List Int32} {ships coughs day away taped reading statements hasImage isKeeping cursor backs free goodFor loadedWhen bareGood bareWhen rowMany lots : Int32} {p0 : Int32} {p1 : Int32} {out : List Int32 × List Int32 × List Int32 × List Int32 × List Int32 × List Int32 × List Int32 × List Int32 × List Int32 × List Int32 × Int32 × Int32 × Int32 × Int32 × Int32 × Int32} (hf : X5_then refused there used hidden kind figure good load inn kept ships coughs day away isKeeping cursor free p0 p1 = some out) : Ct l G yX5_then cX5_then 5 (some .int) 7 151 [.ref (ad 0), .int p0, .int p1] (wM G ad refused there used hidden kind figure good load inn tape letter letterAt told kept row costs ships coughs day away taped reading statements hasImage isKeeping cursor backs free goodFor loadedWhen bareGood bareWhen rowMany lots) (some (.int out.2.2.2.2.2.2.2.2.2.2.2.2.2.2.2)) (wM G ad out.1 out.2.1 out.2.2.1 out.2.2.2.1 out.2.2.2.2.1 out.2.2.2.2.2.1 out.2.2.2.2.2.2.1 out.2.2.2.2.2.2.2.1 out.2.2.2.2.2.2.2.2.1 tape letter letterAt told out.2.2.2.2.2.2.2.2.2.1 row costs out.2.2.2.2.2.2.2.2.2.2.1 out.2.2.2.2.2.2.2.2.2.2.2.1 out.2.2.2.2.2.2.2.2.2.2.2.2.1 away taped reading statements hasImage out.2.2.2.2.2.2.2.2.2.2.2.2.2.1 out.2.2.2.2.2.2.2.2.2.2.2.2.2.2.1 backs free goodFor loadedWhen bareGood bareWhen rowMany lots) := by
  refine Ct.intro RX5 rfl (plainFor_of_name (by decide)) (Nat.le_of_ble_eq_true rfl) rfl ?_
  intro p e s m args below meth c A C H locs hs ls hl
  obtain ⟨hx, hb, hml, hown, hts, hK, hret, hlk⟩ := id C
  have hl : lv_has ls 5 [(0, .ref (ad 0)), (1, .int p0), (2, .int p1)] := hl
  unfold X5_then at hf
  refine lv_iload_n hx hb (dk hX5_then_0 0 rfl) rfl (lv_at hl 1 rfl) ?_
  obtain ⟨u_1, e_2, hf⟩ := Option.bind_eq_some_iff.mp hf
  refine Ct.S (As := [.int p0]) (rest := []) (st1 := [.int u_1]) (w1 := (wM G ad refused there used hidden kind figure good load inn tape letter letterAt told kept row costs ships coughs day away taped reading statements hasImage isKeeping cursor backs free goodFor loadedWhen bareGood bareWhen rowMany lots)) C hs (c_X5_notDays e_2) tw_990 tw_991 tw_85 tw_992 nq_X5_notDays (by decide) rfl hl.1 rfl (Nat.le_of_ble_eq_true rfl) (dk hX5_then_0 1 rfl) ⟨Nat.zero_le _, Nat.zero_le _⟩ rfl (fun H locs hs => ?_)
  refine lv_istore_n (lv' := [(3, .int u_1), (0, .ref (ad 0)), (1, .int p0), (2, .int p1)]) hx hb (dk hX5_then_0 2 rfl) rfl hl (by decide) rfl (fun ls hl => ?_)
  refine lv_iload_n hx hb (dk hX5_then_0 3 rfl) rfl (lv_at hl 0 rfl) ?_
  refine lv_if_ne (tgt := 21) hx hb (dk hX5_then_0 4 rfl) (by decide) (fun hc => ?_) (fun hc => ?_)
  · replace hf := in_ hf hc
    refine lv_iload_n hx hb (dk hX5_then_0 12 rfl) rfl (lv_at hl 0 rfl) ?_
    refine lv_if_eq (tgt := 31) hx hb (dk hX5_then_0 13 rfl) (by decide) (fun hc => ?_) (fun hc => ?_)
    · replace hf := ip hf hc
      refine lv_aload_n hx hb (dk hX5_then_0 18 rfl) rfl (lv_at hl 1 rfl) ?_
      obtain ⟨u_3, e_4, hf⟩ := Option.bind_eq_some_iff.mp hf
      refine Ct.V (As := []) (rest := []) (st1 := []) (w1 := (wM G ad refused u_3.1 u_3.2.1 u_3.2.2.1 u_3.2.2.2.1 u_3.2.2.2.2.1 u_3.2.2.2.2.2.1 u_3.2.2.2.2.2.2.1 u_3.2.2.2.2.2.2.2.1 tape letter letterAt told u_3.2.2.2.2.2.2.2.2.1 row costs u_3.2.2.2.2.2.2.2.2.2.1 u_3.2.2.2.2.2.2.2.2.2.2.1 u_3.2.2.2.2.2.2.2.2.2.2.2.1 away taped reading statements hasImage u_3.2.2.2.2.2.2.2.2.2.2.2.2.1 u_3.2.2.2.2.2.2.2.2.2.2.2.2.2 backs free goodFor loadedWhen bareGood bareWhen rowMany lots)) C hs (c_X5_thinks e_4) tw_993 tw_995 tw_51 tw_85 tw_996 nq_X5_thinks (by decide) 0 5 rfl rfl rfl rfl hl.1 rfl (Nat.le_of_ble_eq_true rfl) (dk hX5_then_0 19 rfl) ⟨Nat.zero_le _, Nat.zero_le _⟩ rfl (fun H locs hs => ?_)
      refine lv_aload_n hx hb (dk hX5_then_0 20 rfl) rfl (lv_at hl 1 rfl) ?_
      refine lv_iload_n hx hb (dk hX5_then_0 21 rfl) rfl (lv_at hl 2 rfl) ?_
      obtain ⟨u_5, e_6, hf⟩ := Option.bind_eq_some_iff.mp hf
      refine Ct.V (As := [.int p0]) (rest := []) (st1 := []) (w1 := (wM G ad refused u_5.1 u_3.2.1 u_3.2.2.1 u_3.2.2.2.1 u_3.2.2.2.2.1 u_3.2.2.2.2.2.1 u_3.2.2.2.2.2.2.1 u_5.2.1 tape letter letterAt told u_3.2.2.2.2.2.2.2.2.1 row costs u_3.2.2.2.2.2.2.2.2.2.1 u_5.2.2.1 u_5.2.2.2 away taped reading statements hasImage u_3.2.2.2.2.2.2.2.2.2.2.2.2.1 u_3.2.2.2.2.2.2.2.2.2.2.2.2.2 backs free goodFor loadedWhen bareGood bareWhen rowMany lots)) C hs (c_X5_goes e_6) tw_862 tw_864 tw_34 tw_85 tw_865 nq_X5_goes (by decide) 0 5 rfl rfl rfl rfl hl.1 rfl (Nat.le_of_ble_eq_true rfl) (dk hX5_then_0 22 rfl) ⟨Nat.zero_le _, Nat.zero_le _⟩ rfl (fun H locs hs => ?_)
      refine lv_iload_n hx hb (dk hX5_then_0 23 rfl) rfl (lv_at hl 3 rfl) ?_
      refine lv_if_ne (tgt := 51) hx hb (dk hX5_then_0 24 rfl) (by decide) (fun hc => ?_) (fun hc => ?_)
      · replace hf := in_ hf hc
        refine lv_aload_n hx hb (dk hX5_then_0 28 rfl) rfl (lv_at hl 1 rfl) ?_
        obtain ⟨u_7, e_8, hf⟩ := Option.bind_eq_some_iff.mp hf
        refine Ct.V (As := []) (rest := []) (st1 := [.int u_7]) (w1 := (wM G ad refused u_5.1 u_3.2.1 u_3.2.2.1 u_3.2.2.2.1 u_3.2.2.2.2.1 u_3.2.2.2.2.2.1 u_3.2.2.2.2.2.2.1 u_5.2.1 tape letter letterAt told u_3.2.2.2.2.2.2.2.2.1 row costs u_3.2.2.2.2.2.2.2.2.2.1 u_5.2.2.1 u_5.2.2.2 away taped reading statements hasImage u_3.2.2.2.2.2.2.2.2.2.2.2.2.1 u_3.2.2.2.2.2.2.2.2.2.2.2.2.2 backs free goodFor loadedWhen bareGood bareWhen rowMany lots)) C hs (c_X5_inOnes e_8) tw_979 tw_981 tw_50 tw_85 tw_982 nq_X5_inOnes (by decide) 0 5 rfl rfl rfl rfl hl.1 rfl (Nat.le_of_ble_eq_true rfl) (dk hX5_then_0 29 rfl) ⟨Nat.zero_le _, Nat.zero_le _⟩ rfl (fun H locs hs => ?_)
        refine lv_istore (lv' := [(4, .int u_7), (3, .int u_1), (0, .ref (ad 0)), (1, .int p0), (2, .int p1)]) hx hb (dk hX5_then_0 30 rfl) hl (by decide) rfl (fun ls hl => ?_)
        refine lv_aload_n hx hb (dk hX5_then_0 31 rfl) rfl (lv_at hl 2 rfl) ?_
        obtain ⟨u_9, e_10, hf⟩ := Option.bind_eq_some_iff.mp hf
        refine Ct.V (As := []) (rest := []) (st1 := []) (w1 := (wM G ad refused u_9.1 u_9.2.1 u_9.2.2.1 u_9.2.2.2.1 u_9.2.2.2.2.1 u_9.2.2.2.2.2.1 u_9.2.2.2.2.2.2.1 u_9.2.2.2.2.2.2.2.1 tape letter letterAt told u_9.2.2.2.2.2.2.2.2.1 row costs u_9.2.2.2.2.2.2.2.2.2.1 u_9.2.2.2.2.2.2.2.2.2.2.1 u_9.2.2.2.2.2.2.2.2.2.2.2.1 away taped reading statements hasImage u_9.2.2.2.2.2.2.2.2.2.2.2.2.1 u_9.2.2.2.2.2.2.2.2.2.2.2.2.2 backs free goodFor loadedWhen bareGood bareWhen rowMany lots)) C hs (c_X5_forgets e_10) tw_997 tw_999 tw_52 tw_85 tw_1000 nq_X5_forgets (by decide) 0 5 rfl rfl rfl rfl hl.1 rfl (Nat.le_of_ble_eq_true rfl) (dk hX5_then_0 32 rfl) ⟨Nat.zero_le _, Nat.zero_le _⟩ rfl (fun H locs hs => ?_)
        refine lv_iload hx hb (dk hX5_then_0 33 rfl) (lv_at hl 0 rfl) ?_
        cases hf
        exact ri C hs (dk hX5_then_0 34 rfl)
      · replace hf := ip hf hc
        refine lv_aload_n hx hb (dk hX5_then_0 25 rfl) rfl (lv_at hl 1 rfl) ?_
        refine rg ui5 rfl C hs 0 rfl 10 (by decide) tw_700 rfl rfl (dk hX5_then_0 26 rfl) ?_
        refine lv_goto (tgt := 55) hx hb (dk hX5_then_0 27 rfl) (by decide) ?_
        refine lv_istore (lv' := [(4, .int u_5.2.2.1), (3, .int u_1), (0, .ref (ad 0)), (1, .int p0), (2, .int p1)]) hx hb (dk hX5_then_0 30 rfl) hl (by decide) rfl (fun ls hl => ?_)
        refine lv_aload_n hx hb (dk hX5_then_0 31 rfl) rfl (lv_at hl 2 rfl) ?_
        obtain ⟨u_11, e_12, hf⟩ := Option.bind_eq_some_iff.mp hf
        refine Ct.V (As := []) (rest := []) (st1 := []) (w1 := (wM G ad refused u_11.1 u_11.2.1 u_11.2.2.1 u_11.2.2.2.1 u_11.2.2.2.2.1 u_11.2.2.2.2.2.1 u_11.2.2.2.2.2.2.1 u_11.2.2.2.2.2.2.2.1 tape letter letterAt told u_11.2.2.2.2.2.2.2.2.1 row costs u_11.2.2.2.2.2.2.2.2.2.1 u_11.2.2.2.2.2.2.2.2.2.2.1 u_11.2.2.2.2.2.2.2.2.2.2.2.1 away taped reading statements hasImage u_11.2.2.2.2.2.2.2.2.2.2.2.2.1 u_11.2.2.2.2.2.2.2.2.2.2.2.2.2 backs free goodFor loadedWhen bareGood bareWhen rowMany lots)) C hs (c_X5_forgets e_12) tw_997 tw_999 tw_52 tw_85 tw_1000 nq_X5_forgets (by decide) 0 5 rfl rfl rfl rfl hl.1 rfl (Nat.le_of_ble_eq_true rfl) (dk hX5_then_0 32 rfl) ⟨Nat.zero_le _, Nat.zero_le _⟩ rfl (fun H locs hs => ?_)
        refine lv_iload hx hb (dk hX5_then_0 33 rfl) (lv_at hl 0 rfl) ?_
        cases hf
        exact ri C hs (dk hX5_then_0 34 rfl)
    · replace hf := in_ hf hc
      refine lv_aload_n hx hb (dk hX5_then_0 14 rfl) rfl (lv_at hl 1 rfl) ?_
      refine lv_iload_n hx hb (dk hX5_then_0 15 rfl) rfl (lv_at hl 0 rfl) ?_
      obtain ⟨u_13, e_14, hf⟩ := Option.bind_eq_some_iff.mp hf
      refine Ct.V (As := [.int u_1]) (rest := []) (st1 := [.int u_13.2]) (w1 := (wM G ad u_13.1 there used hidden kind figure good load inn tape letter letterAt told kept row costs ships coughs day away taped reading statements hasImage isKeeping cursor backs free goodFor loadedWhen bareGood bareWhen rowMany lots)) C hs (c_X5_no e_14) tw_800 tw_802 tw_21 tw_85 tw_803 nq_X5_no (by decide) 0 5 rfl rfl rfl rfl hl.1 rfl (Nat.le_of_ble_eq_true rfl) (dk hX5_then_0 16 rfl) ⟨Nat.zero_le _, Nat.zero_le _⟩ rfl (fun H locs hs => ?_)
      cases hf
      exact ri C hs (dk hX5_then_0 17 rfl)
  · replace hf := ip hf hc
    refine lv_iload_n hx hb (dk hX5_then_0 5 rfl) rfl (lv_at hl 3 rfl) ?_
    refine lv_iconst (v := (0 : Int32)) hx hb (dk hX5_then_0 6 rfl) (by decide) ?_
    refine lv_iconst (v := (1 : Int32)) hx hb (dk hX5_then_0 7 rfl) (by decide) ?_
    obtain ⟨u_15, e_16, hf⟩ := Option.bind_eq_some_iff.mp hf
    refine Ct.S (As := [.int p1, .int (0 : Int32), .int (1 : Int32)]) (rest := []) (st1 := [.int u_15]) (w1 := (wM G ad refused there used hidden kind figure good load inn tape letter letterAt told kept row costs ships coughs day away taped reading statements hasImage isKeeping cursor backs free goodFor loadedWhen bareGood bareWhen rowMany lots)) C hs (c_X5_isIn e_16) tw_824 tw_825 tw_85 tw_826 nq_X5_isIn (by decide) rfl hl.1 rfl (Nat.le_of_ble_eq_true rfl) (dk hX5_then_0 8 rfl) ⟨Nat.zero_le _, Nat.zero_le _⟩ rfl (fun H locs hs => ?_)
    refine lv_if_ne (tgt := 21) hx hb (dk hX5_then_0 9 rfl) (by decide) (fun hc => ?_) (fun hc => ?_)
    · replace hf := in_ hf hc
      refine lv_iload_n hx hb (dk hX5_then_0 12 rfl) rfl (lv_at hl 0 rfl) ?_
      refine lv_if_eq (tgt := 31) hx hb (dk hX5_then_0 13 rfl) (by decide) (fun hc => ?_) (fun hc => ?_)
      · replace hf := ip hf hc
        refine lv_aload_n hx hb (dk hX5_then_0 18 rfl) rfl (lv_at hl 1 rfl) ?_
        obtain ⟨u_17, e_18, hf⟩ := Option.bind_eq_some_iff.mp hf
        refine Ct.V (As := []) (rest := []) (st1 := []) (w1 := (wM G ad refused u_17.1 u_17.2.1 u_17.2.2.1 u_17.2.2.2.1 u_17.2.2.2.2.1 u_17.2.2.2.2.2.1 u_17.2.2.2.2.2.2.1 u_17.2.2.2.2.2.2.2.1 tape letter letterAt told u_17.2.2.2.2.2.2.2.2.1 row costs u_17.2.2.2.2.2.2.2.2.2.1 u_17.2.2.2.2.2.2.2.2.2.2.1 u_17.2.2.2.2.2.2.2.2.2.2.2.1 away taped reading statements hasImage u_17.2.2.2.2.2.2.2.2.2.2.2.2.1 u_17.2.2.2.2.2.2.2.2.2.2.2.2.2 backs free goodFor loadedWhen bareGood bareWhen rowMany lots)) C hs (c_X5_thinks e_18) tw_993 tw_995 tw_51 tw_85 tw_996 nq_X5_thinks (by decide) 0 5 rfl rfl rfl rfl hl.1 rfl (Nat.le_of_ble_eq_true rfl) (dk hX5_then_0 19 rfl) ⟨Nat.zero_le _, Nat.zero_le _⟩ rfl (fun H locs hs => ?_)
        refine lv_aload_n hx hb (dk hX5_then_0 20 rfl) rfl (lv_at hl 1 rfl) ?_
        refine lv_iload_n hx hb (dk hX5_then_0 21 rfl) rfl (lv_at hl 2 rfl) ?_
        obtain ⟨u_19, e_20, hf⟩ := Option.bind_eq_some_iff.mp hf
        refine Ct.V (As := [.int p0]) (rest := []) (st1 := []) (w1 := (wM G ad refused u_19.1 u_17.2.1 u_17.2.2.1 u_17.2.2.2.1 u_17.2.2.2.2.1 u_17.2.2.2.2.2.1 u_17.2.2.2.2.2.2.1 u_19.2.1 tape letter letterAt told u_17.2.2.2.2.2.2.2.2.1 row costs u_17.2.2.2.2.2.2.2.2.2.1 u_19.2.2.1 u_19.2.2.2 away taped reading statements hasImage u_17.2.2.2.2.2.2.2.2.2.2.2.2.1 u_17.2.2.2.2.2.2.2.2.2.2.2.2.2 backs free goodFor loadedWhen bareGood bareWhen rowMany lots)) C hs (c_X5_goes e_20) tw_862 tw_864 tw_34 tw_85 tw_865 nq_X5_goes (by decide) 0 5 rfl rfl rfl rfl hl.1 rfl (Nat.le_of_ble_eq_true rfl) (dk hX5_then_0 22 rfl) ⟨Nat.zero_le _, Nat.zero_le _⟩ rfl (fun H locs hs => ?_)
        refine lv_iload_n hx hb (dk hX5_then_0 23 rfl) rfl (lv_at hl 3 rfl) ?_
        refine lv_if_ne (tgt := 51) hx hb (dk hX5_then_0 24 rfl) (by decide) (fun hc => ?_) (fun hc => ?_)
        · replace hf := in_ hf hc
          refine lv_aload_n hx hb (dk hX5_then_0 28 rfl) rfl (lv_at hl 1 rfl) ?_
          obtain ⟨u_21, e_22, hf⟩ := Option.bind_eq_some_iff.mp hf
          refine Ct.V (As := []) (rest := []) (st1 := [.int u_21]) (w1 := (wM G ad refused u_19.1 u_17.2.1 u_17.2.2.1 u_17.2.2.2.1 u_17.2.2.2.2.1 u_17.2.2.2.2.2.1 u_17.2.2.2.2.2.2.1 u_19.2.1 tape letter letterAt told u_17.2.2.2.2.2.2.2.2.1 row costs u_17.2.2.2.2.2.2.2.2.2.1 u_19.2.2.1 u_19.2.2.2 away taped reading statements hasImage u_17.2.2.2.2.2.2.2.2.2.2.2.2.1 u_17.2.2.2.2.2.2.2.2.2.2.2.2.2 backs free goodFor loadedWhen bareGood bareWhen rowMany lots)) C hs (c_X5_inOnes e_22) tw_979 tw_981 tw_50 tw_85 tw_982 nq_X5_inOnes (by decide) 0 5 rfl rfl rfl rfl hl.1 rfl (Nat.le_of_ble_eq_true rfl) (dk hX5_then_0 29 rfl) ⟨Nat.zero_le _, Nat.zero_le _⟩ rfl (fun H locs hs => ?_)
          refine lv_istore (lv' := [(4, .int u_21), (3, .int u_1), (0, .ref (ad 0)), (1, .int p0), (2, .int p1)]) hx hb (dk hX5_then_0 30 rfl) hl (by decide) rfl (fun ls hl => ?_)
          refine lv_aload_n hx hb (dk hX5_then_0 31 rfl) rfl (lv_at hl 2 rfl) ?_
          obtain ⟨u_23, e_24, hf⟩ := Option.bind_eq_some_iff.mp hf
          refine Ct.V (As := []) (rest := []) (st1 := []) (w1 := (wM G ad refused u_23.1 u_23.2.1 u_23.2.2.1 u_23.2.2.2.1 u_23.2.2.2.2.1 u_23.2.2.2.2.2.1 u_23.2.2.2.2.2.2.1 u_23.2.2.2.2.2.2.2.1 tape letter letterAt told u_23.2.2.2.2.2.2.2.2.1 row costs u_23.2.2.2.2.2.2.2.2.2.1 u_23.2.2.2.2.2.2.2.2.2.2.1 u_23.2.2.2.2.2.2.2.2.2.2.2.1 away taped reading statements hasImage u_23.2.2.2.2.2.2.2.2.2.2.2.2.1 u_23.2.2.2.2.2.2.2.2.2.2.2.2.2 backs free goodFor loadedWhen bareGood bareWhen rowMany lots)) C hs (c_X5_forgets e_24) tw_997 tw_999 tw_52 tw_85 tw_1000 nq_X5_forgets (by decide) 0 5 rfl rfl rfl rfl hl.1 rfl (Nat.le_of_ble_eq_true rfl) (dk hX5_then_0 32 rfl) ⟨Nat.zero_le _, Nat.zero_le _⟩ rfl (fun H locs hs => ?_)
          refine lv_iload hx hb (dk hX5_then_0 33 rfl) (lv_at hl 0 rfl) ?_
          cases hf
          exact ri C hs (dk hX5_then_0 34 rfl)
        · replace hf := ip hf hc
          refine lv_aload_n hx hb (dk hX5_then_0 25 rfl) rfl (lv_at hl 1 rfl) ?_
          refine rg ui5 rfl C hs 0 rfl 10 (by decide) tw_700 rfl rfl (dk hX5_then_0 26 rfl) ?_
          refine lv_goto (tgt := 55) hx hb (dk hX5_then_0 27 rfl) (by decide) ?_
          refine lv_istore (lv' := [(4, .int u_19.2.2.1), (3, .int u_1), (0, .ref (ad 0)), (1, .int p0), (2, .int p1)]) hx hb (dk hX5_then_0 30 rfl) hl (by decide) rfl (fun ls hl => ?_)
          refine lv_aload_n hx hb (dk hX5_then_0 31 rfl) rfl (lv_at hl 2 rfl) ?_
          obtain ⟨u_25, e_26, hf⟩ := Option.bind_eq_some_iff.mp hf
          refine Ct.V (As := []) (rest := []) (st1 := []) (w1 := (wM G ad refused u_25.1 u_25.2.1 u_25.2.2.1 u_25.2.2.2.1 u_25.2.2.2.2.1 u_25.2.2.2.2.2.1 u_25.2.2.2.2.2.2.1 u_25.2.2.2.2.2.2.2.1 tape letter letterAt told u_25.2.2.2.2.2.2.2.2.1 row costs u_25.2.2.2.2.2.2.2.2.2.1 u_25.2.2.2.2.2.2.2.2.2.2.1 u_25.2.2.2.2.2.2.2.2.2.2.2.1 away taped reading statements hasImage u_25.2.2.2.2.2.2.2.2.2.2.2.2.1 u_25.2.2.2.2.2.2.2.2.2.2.2.2.2 backs free goodFor loadedWhen bareGood bareWhen rowMany lots)) C hs (c_X5_forgets e_26) tw_997 tw_999 tw_52 tw_85 tw_1000 nq_X5_forgets (by decide) 0 5 rfl rfl rfl rfl hl.1 rfl (Nat.le_of_ble_eq_true rfl) (dk hX5_then_0 32 rfl) ⟨Nat.zero_le _, Nat.zero_le _⟩ rfl (fun H locs hs => ?_)
          refine lv_iload hx hb (dk hX5_then_0 33 rfl) (lv_at hl 0 rfl) ?_
          cases hf
          exact ri C hs (dk hX5_then_0 34 rfl)
      · replace hf := in_ hf hc
        refine lv_aload_n hx hb (dk hX5_then_0 14 rfl) rfl (lv_at hl 1 rfl) ?_
        refine lv_iload_n hx hb (dk hX5_then_0 15 rfl) rfl (lv_at hl 0 rfl) ?_
        obtain ⟨u_27, e_28, hf⟩ := Option.bind_eq_some_iff.mp hf
        refine Ct.V (As := [.int u_1]) (rest := []) (st1 := [.int u_27.2]) (w1 := (wM G ad u_27.1 there used hidden kind figure good load inn tape letter letterAt told kept row costs ships coughs day away taped reading statements hasImage isKeeping cursor backs free goodFor loadedWhen bareGood bareWhen rowMany lots)) C hs (c_X5_no e_28) tw_800 tw_802 tw_21 tw_85 tw_803 nq_X5_no (by decide) 0 5 rfl rfl rfl rfl hl.1 rfl (Nat.le_of_ble_eq_true rfl) (dk hX5_then_0 16 rfl) ⟨Nat.zero_le _, Nat.zero_le _⟩ rfl (fun H locs hs => ?_)
        cases hf
        exact ri C hs (dk hX5_then_0 17 rfl)
    · replace hf := ip hf hc
      refine lv_bipush (v := (-2 : Int32)) hx hb (dk hX5_then_0 10 rfl) (by decide) ?_
      refine lv_istore_n (lv' := [(3, .int (-2 : Int32)), (0, .ref (ad 0)), (1, .int p0), (2, .int p1)]) hx hb (dk hX5_then_0 11 rfl) rfl hl (by decide) rfl (fun ls hl => ?_)
      refine lv_iload_n hx hb (dk hX5_then_0 12 rfl) rfl (lv_at hl 0 rfl) ?_
      refine lv_if_eq (tgt := 31) hx hb (dk hX5_then_0 13 rfl) (by decide) (fun hc => ?_) (fun hc => ?_)
      · exact absurd hc (by decide)
      · refine lv_aload_n hx hb (dk hX5_then_0 14 rfl) rfl (lv_at hl 1 rfl) ?_
        refine lv_iload_n hx hb (dk hX5_then_0 15 rfl) rfl (lv_at hl 0 rfl) ?_
        obtain ⟨u_29, e_30, hf⟩ := Option.bind_eq_some_iff.mp hf
        refine Ct.V (As := [.int (-2 : Int32)]) (rest := []) (st1 := [.int u_29.2]) (w1 := (wM G ad u_29.1 there used hidden kind figure good load inn tape letter letterAt told kept row costs ships coughs day away taped reading statements hasImage isKeeping cursor backs free goodFor loadedWhen bareGood bareWhen rowMany lots)) C hs (c_X5_no e_30) tw_800 tw_802 tw_21 tw_85 tw_803 nq_X5_no (by decide) 0 5 rfl rfl rfl rfl hl.1 rfl (Nat.le_of_ble_eq_true rfl) (dk hX5_then_0 16 rfl) ⟨Nat.zero_le _, Nat.zero_le _⟩ rfl (fun H locs hs => ?_)
        cases hf
        exact ri C hs (dk hX5_then_0 17 rfl)

def X5_comesIn_L10 (k : Int32 → List Int32 → List Int32 → Int32 → Int32 → Option (List Int32 × List Int32 × List Int32 × List Int32 × List Int32 × List Int32 × List Int32 × List Int32 × List Int32 × Int32 × Int32 × Int32 × Int32 × Int32 × Int32)) (used : List Int32) (hidden : List Int32) (kind : List Int32) (figure : List Int32) (good : List Int32) (load : List Int32) (ships : Int32) (away : Int32) (free : Int32) (x1 : Int32) (x2 : Int32) : Nat → Int32 → Int32 → List Int32 → List Int32 → Int32 → Int32 → Option (List Int32 × List Int32 × List Int32 × List Int32 × List Int32 × List Int32 × List Int32 × List Int32 × List Int32 × Int32 × Int32 × Int32 × Int32 × Int32 × Int32)
  | 0, _, _, _, _, _, _ => none
  | n + 1, x3, x4, there, inn, coughs, day =>
  if x2 < x4 then
  k x3 there inn coughs day
  else
  if (0 : Int32) ≤ x3 then
  k x3 there inn coughs day
  else
  (rd inn x1).bind fun v_3 =>
  if v_3 = (1 : Int32) then
  (X5_goesDay there used hidden kind figure good load inn ships coughs day away free (0 : Int32)).bind fun u_7 =>
  X5_comesIn_L10 k used hidden kind figure good load ships away free x1 x2 n x4 (x4 + (1 : Int32)) u_7.1 u_7.2.1 u_7.2.2.1 u_7.2.2.2
  else
  (X5_goesDay there used hidden kind figure good load inn ships coughs day away free (0 : Int32)).bind fun u_5 =>
  X5_comesIn_L10 k used hidden kind figure good load ships away free x1 x2 n (-9 : Int32) (x4 + (1 : Int32)) u_5.1 u_5.2.1 u_5.2.2.1 u_5.2.2.2
def X5_comesIn (there : List Int32) (used : List Int32) (hidden : List Int32) (kind : List Int32) (figure : List Int32) (good : List Int32) (load : List Int32) (inn : List Int32) (kept : List Int32) (ships : Int32) (coughs : Int32) (day : Int32) (away : Int32) (isKeeping : Int32) (cursor : Int32) (free : Int32) (p0 : Int32) (p1 : Int32) : Option (List Int32 × List Int32 × List Int32 × List Int32 × List Int32 × List Int32 × List Int32 × List Int32 × List Int32 × Int32 × Int32 × Int32 × Int32 × Int32 × Int32) :=
  (X5_thinks there used hidden kind figure good load inn kept ships coughs day isKeeping cursor).bind fun u_1 =>
  X5_comesIn_L10 (fun y3_9 there_10 inn_11 coughs_12 day_13 =>
  (X5_forgets there_10 u_1.2.1 u_1.2.2.1 u_1.2.2.2.1 u_1.2.2.2.2.1 u_1.2.2.2.2.2.1 u_1.2.2.2.2.2.2.1 inn_11 u_1.2.2.2.2.2.2.2.2.1 u_1.2.2.2.2.2.2.2.2.2.1 coughs_12 day_13 u_1.2.2.2.2.2.2.2.2.2.2.2.2.1 u_1.2.2.2.2.2.2.2.2.2.2.2.2.2).bind fun u_14 =>
  some (u_14.1, u_14.2.1, u_14.2.2.1, u_14.2.2.2.1, u_14.2.2.2.2.1, u_14.2.2.2.2.2.1, u_14.2.2.2.2.2.2.1, u_14.2.2.2.2.2.2.2.1, u_14.2.2.2.2.2.2.2.2.1, u_14.2.2.2.2.2.2.2.2.2.1, u_14.2.2.2.2.2.2.2.2.2.2.1, u_14.2.2.2.2.2.2.2.2.2.2.2.1, u_14.2.2.2.2.2.2.2.2.2.2.2.2.1, u_14.2.2.2.2.2.2.2.2.2.2.2.2.2, y3_9)) u_1.2.1 u_1.2.2.1 u_1.2.2.2.1 u_1.2.2.2.2.1 u_1.2.2.2.2.2.1 u_1.2.2.2.2.2.2.1 u_1.2.2.2.2.2.2.2.2.2.1 away free p0 p1 1000 (-9 : Int32) (0 : Int32) u_1.1 u_1.2.2.2.2.2.2.2.1 u_1.2.2.2.2.2.2.2.2.2.2.1 u_1.2.2.2.2.2.2.2.2.2.2.2.1
set_option maxRecDepth 100000 in
set_option maxHeartbeats 4000000 in
theorem l_X5_comesIn_L10 {l : Launch} {p : Program} {e : Env} {s : State} {m : MethodId} {args : Array Value} {below : List Frame} {meth : Method} {c : Code} {A : Nat → Prop} {G : Gx} {ad : Nat → Nat} {refused used hidden kind figure good load tape letter letterAt told kept row costs : List Int32} {ships away taped reading statements hasImage isKeeping cursor backs free goodFor loadedWhen bareGood bareWhen rowMany lots : Int32} {x1 : Int32} {x2 : Int32} {k : Int32 → List Int32 → List Int32 → Int32 → Int32 → Option (List Int32 × List Int32 × List Int32 × List Int32 × List Int32 × List Int32 × List Int32 × List Int32 × List Int32 × Int32 × Int32 × Int32 × Int32 × Int32 × Int32)} {out : List Int32 × List Int32 × List Int32 × List Int32 × List Int32 × List Int32 × List Int32 × List Int32 × List Int32 × Int32 × Int32 × Int32 × Int32 × Int32 × Int32} (C : Cx p s m args meth c cX5_comesIn RX5 5 (some .int) G) : ∀ (n : Nat) (x3 : Int32) (x4 : Int32) (there : List Int32) (inn : List Int32) (coughs : Int32) (day : Int32), X5_comesIn_L10 k used hidden kind figure good load ships away free x1 x2 n x3 x4 there inn coughs day = some out → ∀ (H : Heap) (locs : List Loc), St G A s.heap H locs (wM G ad refused there used hidden kind figure good load inn tape letter letterAt told kept row costs ships coughs day away taped reading statements hasImage isKeeping cursor backs free goodFor loadedWhen bareGood bareWhen rowMany lots) → ∀ ls : Array Slot, lv_has ls 5 [(0, .ref (ad 0)), (1, .int x1), (2, .int x2), (3, .int x3), (4, .int x4)] → (∀ (y3 : Int32) (z_there : List Int32) (z_inn : List Int32) (z_coughs : Int32) (z_day : Int32), k y3 z_there z_inn z_coughs z_day = some out → ∀ (H : Heap) (locs : List Loc), St G A s.heap H locs (wM G ad refused z_there used hidden kind figure good load z_inn tape letter letterAt told kept row costs ships z_coughs z_day away taped reading statements hasImage isKeeping cursor backs free goodFor loadedWhen bareGood bareWhen rowMany lots) → ∀ ls : Array Slot, lv_has ls 5 [(0, .ref (ad 0)), (3, .int y3)] → W p l e (rmOf 6 129) s m args below meth c H locs 0 0 (MQ below (Qof G A (some (.int out.2.2.2.2.2.2.2.2.2.2.2.2.2.2)) (wM G ad refused out.1 out.2.1 out.2.2.1 out.2.2.2.1 out.2.2.2.2.1 out.2.2.2.2.2.1 out.2.2.2.2.2.2.1 out.2.2.2.2.2.2.2.1 tape letter letterAt told out.2.2.2.2.2.2.2.2.1 row costs out.2.2.2.2.2.2.2.2.2.1 out.2.2.2.2.2.2.2.2.2.2.1 out.2.2.2.2.2.2.2.2.2.2.2.1 away taped reading statements hasImage out.2.2.2.2.2.2.2.2.2.2.2.2.1 out.2.2.2.2.2.2.2.2.2.2.2.2.2.1 backs free goodFor loadedWhen bareGood bareWhen rowMany lots)) args s 0 0 A) (F0 m 49 ls [])) → W p l e (rmOf 6 129) s m args below meth c H locs 0 0 (MQ below (Qof G A (some (.int out.2.2.2.2.2.2.2.2.2.2.2.2.2.2)) (wM G ad refused out.1 out.2.1 out.2.2.1 out.2.2.2.1 out.2.2.2.2.1 out.2.2.2.2.2.1 out.2.2.2.2.2.2.1 out.2.2.2.2.2.2.2.1 tape letter letterAt told out.2.2.2.2.2.2.2.2.1 row costs out.2.2.2.2.2.2.2.2.2.1 out.2.2.2.2.2.2.2.2.2.2.1 out.2.2.2.2.2.2.2.2.2.2.2.1 away taped reading statements hasImage out.2.2.2.2.2.2.2.2.2.2.2.2.1 out.2.2.2.2.2.2.2.2.2.2.2.2.2.1 backs free goodFor loadedWhen bareGood bareWhen rowMany lots)) args s 0 0 A) (F0 m 10 ls []) := by
  obtain ⟨hx, hb, hml, hown, hts, hK, hret, hlk⟩ := id C
  intro n
  induction n with
  | zero => intro x3 x4 there inn coughs day hf; cases hf
  | succ n ih =>
    intro x3 x4 there inn coughs day hf H locs hs ls hl hk
    rw [X5_comesIn_L10] at hf
    refine lv_iload hx hb (dk hX5_comesIn_0 6 rfl) (lv_at hl 4 rfl) ?_
    refine lv_iload_n hx hb (dk hX5_comesIn_0 7 rfl) rfl (lv_at hl 2 rfl) ?_
    refine lv_icmp_gt (tgt := 49) hx hb (dk hX5_comesIn_0 8 rfl) (by decide) (fun hc => ?_) (fun hc => ?_)
    · replace hf := ip hf hc
      exact hk _ _ _ _ _ hf _ _ hs _ (lv_sub hl [0, 3] rfl)
    · replace hf := in_ hf hc
      refine lv_iload_n hx hb (dk hX5_comesIn_0 9 rfl) rfl (lv_at hl 3 rfl) ?_
      refine lv_if_ge (tgt := 49) hx hb (dk hX5_comesIn_0 10 rfl) (by decide) (fun hc => ?_) (fun hc => ?_)
      · replace hf := ip hf hc
        exact hk _ _ _ _ _ hf _ _ hs _ (lv_sub hl [0, 3] rfl)
      · replace hf := in_ hf hc
        refine lv_aload_n hx hb (dk hX5_comesIn_0 11 rfl) rfl (lv_at hl 0 rfl) ?_
        refine rg ui5 rfl C hs 0 rfl 8 (by decide) tw_698 rfl rfl (dk hX5_comesIn_0 12 rfl) ?_
        refine lv_iload_n hx hb (dk hX5_comesIn_0 13 rfl) rfl (lv_at hl 1 rfl) ?_
        obtain ⟨v_3, e_4, hf⟩ := Option.bind_eq_some_iff.mp hf
        refine rild C hs 9 rfl e_4 (dk hX5_comesIn_0 14 rfl) ?_
        refine lv_iconst (v := (1 : Int32)) hx hb (dk hX5_comesIn_0 15 rfl) (by decide) ?_
        refine lv_icmp_ne (tgt := 35) hx hb (dk hX5_comesIn_0 16 rfl) (by decide) (fun hc => ?_) (fun hc => ?_)
        · replace hf := in_ hf hc
          refine lv_bipush (v := (-9 : Int32)) hx hb (dk hX5_comesIn_0 19 rfl) (by decide) ?_
          refine lv_istore_n (lv' := [(3, .int (-9 : Int32)), (0, .ref (ad 0)), (1, .int x1), (2, .int x2), (4, .int x4)]) hx hb (dk hX5_comesIn_0 20 rfl) rfl hl (by decide) rfl (fun ls hl => ?_)
          refine lv_aload_n hx hb (dk hX5_comesIn_0 21 rfl) rfl (lv_at hl 1 rfl) ?_
          refine lv_iconst (v := (0 : Int32)) hx hb (dk hX5_comesIn_0 22 rfl) (by decide) ?_
          obtain ⟨u_5, e_6, hf⟩ := Option.bind_eq_some_iff.mp hf
          refine Ct.V (As := [.int (0 : Int32)]) (rest := []) (st1 := []) (w1 := (wM G ad refused u_5.1 used hidden kind figure good load u_5.2.1 tape letter letterAt told kept row costs ships u_5.2.2.1 u_5.2.2.2 away taped reading statements hasImage isKeeping cursor backs free goodFor loadedWhen bareGood bareWhen rowMany lots)) C hs (c_X5_goesDay e_6) tw_866 tw_868 tw_35 tw_85 tw_869 nq_X5_goesDay (by decide) 0 5 rfl rfl rfl rfl hl.1 rfl (Nat.le_of_ble_eq_true rfl) (dk hX5_comesIn_0 23 rfl) ⟨Nat.zero_le _, Nat.zero_le _⟩ rfl (fun H locs hs => ?_)
          refine lv_iinc (v := (x4 + (1 : Int32))) (lv' := [(4, .int (x4 + (1 : Int32))), (3, .int (-9 : Int32)), (0, .ref (ad 0)), (1, .int x1), (2, .int x2)]) hx hb (dk hX5_comesIn_0 24 rfl) hl (k := 4) rfl (by first | rfl | decide) (by decide) rfl (fun ls hl => ?_)
          refine lv_goto (tgt := 10) hx hb (dk hX5_comesIn_0 25 rfl) (by decide) ?_
          exact ih _ _ _ _ _ _ hf _ _ hs _ (lv_sub hl [2, 3, 4, 1, 0] rfl) hk
        · replace hf := ip hf hc
          refine lv_iload hx hb (dk hX5_comesIn_0 17 rfl) (lv_at hl 4 rfl) ?_
          refine lv_goto (tgt := 37) hx hb (dk hX5_comesIn_0 18 rfl) (by decide) ?_
          refine lv_istore_n (lv' := [(3, .int x4), (0, .ref (ad 0)), (1, .int x1), (2, .int x2), (4, .int x4)]) hx hb (dk hX5_comesIn_0 20 rfl) rfl hl (by decide) rfl (fun ls hl => ?_)
          refine lv_aload_n hx hb (dk hX5_comesIn_0 21 rfl) rfl (lv_at hl 1 rfl) ?_
          refine lv_iconst (v := (0 : Int32)) hx hb (dk hX5_comesIn_0 22 rfl) (by decide) ?_
          obtain ⟨u_7, e_8, hf⟩ := Option.bind_eq_some_iff.mp hf
          refine Ct.V (As := [.int (0 : Int32)]) (rest := []) (st1 := []) (w1 := (wM G ad refused u_7.1 used hidden kind figure good load u_7.2.1 tape letter letterAt told kept row costs ships u_7.2.2.1 u_7.2.2.2 away taped reading statements hasImage isKeeping cursor backs free goodFor loadedWhen bareGood bareWhen rowMany lots)) C hs (c_X5_goesDay e_8) tw_866 tw_868 tw_35 tw_85 tw_869 nq_X5_goesDay (by decide) 0 5 rfl rfl rfl rfl hl.1 rfl (Nat.le_of_ble_eq_true rfl) (dk hX5_comesIn_0 23 rfl) ⟨Nat.zero_le _, Nat.zero_le _⟩ rfl (fun H locs hs => ?_)
          refine lv_iinc (v := (x4 + (1 : Int32))) (lv' := [(4, .int (x4 + (1 : Int32))), (3, .int x4), (0, .ref (ad 0)), (1, .int x1), (2, .int x2)]) hx hb (dk hX5_comesIn_0 24 rfl) hl (k := 4) rfl (by first | rfl | decide) (by decide) rfl (fun ls hl => ?_)
          refine lv_goto (tgt := 10) hx hb (dk hX5_comesIn_0 25 rfl) (by decide) ?_
          exact ih _ _ _ _ _ _ hf _ _ hs _ (lv_sub hl [2, 3, 4, 1, 0] rfl) hk
set_option maxRecDepth 100000 in
set_option maxHeartbeats 4000000 in
theorem c_X5_comesIn {l : Launch} {G : Gx} {ad : Nat → Nat} {refused there used hidden kind figure good load inn tape letter letterAt told kept row costs : List Int32} {ships coughs day away taped reading statements hasImage isKeeping cursor backs free goodFor loadedWhen bareGood bareWhen rowMany lots : Int32} {p0 : Int32} {p1 : Int32} {out : List Int32 × List Int32 × List Int32 × List Int32 × List Int32 × List Int32 × List Int32 × List Int32 × List Int32 × Int32 × Int32 × Int32 × Int32 × Int32 × Int32} (hf : X5_comesIn there used hidden kind figure good load inn kept ships coughs day away isKeeping cursor free p0 p1 = some out) : Ct l G yX5_comesIn cX5_comesIn 5 (some .int) 6 129 [.ref (ad 0), .int p0, .int p1] (wM G ad refused there used hidden kind figure good load inn tape letter letterAt told kept row costs ships coughs day away taped reading statements hasImage isKeeping cursor backs free goodFor loadedWhen bareGood bareWhen rowMany lots) (some (.int out.2.2.2.2.2.2.2.2.2.2.2.2.2.2)) (wM G ad refused out.1 out.2.1 out.2.2.1 out.2.2.2.1 out.2.2.2.2.1 out.2.2.2.2.2.1 out.2.2.2.2.2.2.1 out.2.2.2.2.2.2.2.1 tape letter letterAt told out.2.2.2.2.2.2.2.2.1 row costs out.2.2.2.2.2.2.2.2.2.1 out.2.2.2.2.2.2.2.2.2.2.1 out.2.2.2.2.2.2.2.2.2.2.2.1 away taped reading statements hasImage out.2.2.2.2.2.2.2.2.2.2.2.2.1 out.2.2.2.2.2.2.2.2.2.2.2.2.2.1 backs free goodFor loadedWhen bareGood bareWhen rowMany lots) := by
  refine Ct.intro RX5 rfl (plainFor_of_name (by decide)) (Nat.le_of_ble_eq_true rfl) rfl ?_
  intro p e s m args below meth c A C H locs hs ls hl
  obtain ⟨hx, hb, hml, hown, hts, hK, hret, hlk⟩ := id C
  have hl : lv_has ls 5 [(0, .ref (ad 0)), (1, .int p0), (2, .int p1)] := hl
  unfold X5_comesIn at hf
  refine lv_aload_n hx hb (dk hX5_comesIn_0 0 rfl) rfl (lv_at hl 0 rfl) ?_
  obtain ⟨u_1, e_2, hf⟩ := Option.bind_eq_some_iff.mp hf
  refine Ct.V (As := []) (rest := []) (st1 := []) (w1 := (wM G ad refused u_1.1 u_1.2.1 u_1.2.2.1 u_1.2.2.2.1 u_1.2.2.2.2.1 u_1.2.2.2.2.2.1 u_1.2.2.2.2.2.2.1 u_1.2.2.2.2.2.2.2.1 tape letter letterAt told u_1.2.2.2.2.2.2.2.2.1 row costs u_1.2.2.2.2.2.2.2.2.2.1 u_1.2.2.2.2.2.2.2.2.2.2.1 u_1.2.2.2.2.2.2.2.2.2.2.2.1 away taped reading statements hasImage u_1.2.2.2.2.2.2.2.2.2.2.2.2.1 u_1.2.2.2.2.2.2.2.2.2.2.2.2.2 backs free goodFor loadedWhen bareGood bareWhen rowMany lots)) C hs (c_X5_thinks e_2) tw_993 tw_995 tw_51 tw_85 tw_996 nq_X5_thinks (by decide) 0 5 rfl rfl rfl rfl hl.1 rfl (Nat.le_of_ble_eq_true rfl) (dk hX5_comesIn_0 1 rfl) ⟨Nat.zero_le _, Nat.zero_le _⟩ rfl (fun H locs hs => ?_)
  refine lv_bipush (v := (-9 : Int32)) hx hb (dk hX5_comesIn_0 2 rfl) (by decide) ?_
  refine lv_istore_n (lv' := [(3, .int (-9 : Int32)), (0, .ref (ad 0)), (1, .int p0), (2, .int p1)]) hx hb (dk hX5_comesIn_0 3 rfl) rfl hl (by decide) rfl (fun ls hl => ?_)
  refine lv_iconst (v := (0 : Int32)) hx hb (dk hX5_comesIn_0 4 rfl) (by decide) ?_
  refine lv_istore (lv' := [(4, .int (0 : Int32)), (3, .int (-9 : Int32)), (0, .ref (ad 0)), (1, .int p0), (2, .int p1)]) hx hb (dk hX5_comesIn_0 5 rfl) hl (by decide) rfl (fun ls hl => ?_)
  refine l_X5_comesIn_L10 C 1000 _ _ _ _ _ _ hf _ _ hs _ (lv_sub hl [2, 3, 4, 1, 0] rfl) (fun y3_9 there_10 inn_11 coughs_12 day_13 hf H locs hs ls hl => ?_)
  refine lv_aload_n hx hb (dk hX5_comesIn_0 26 rfl) rfl (lv_at hl 0 rfl) ?_
  obtain ⟨u_14, e_15, hf⟩ := Option.bind_eq_some_iff.mp hf
  refine Ct.V (As := []) (rest := []) (st1 := []) (w1 := (wM G ad refused u_14.1 u_14.2.1 u_14.2.2.1 u_14.2.2.2.1 u_14.2.2.2.2.1 u_14.2.2.2.2.2.1 u_14.2.2.2.2.2.2.1 u_14.2.2.2.2.2.2.2.1 tape letter letterAt told u_14.2.2.2.2.2.2.2.2.1 row costs u_14.2.2.2.2.2.2.2.2.2.1 u_14.2.2.2.2.2.2.2.2.2.2.1 u_14.2.2.2.2.2.2.2.2.2.2.2.1 away taped reading statements hasImage u_14.2.2.2.2.2.2.2.2.2.2.2.2.1 u_14.2.2.2.2.2.2.2.2.2.2.2.2.2 backs free goodFor loadedWhen bareGood bareWhen rowMany lots)) C hs (c_X5_forgets e_15) tw_997 tw_999 tw_52 tw_85 tw_1000 nq_X5_forgets (by decide) 0 5 rfl rfl rfl rfl hl.1 rfl (Nat.le_of_ble_eq_true rfl) (dk hX5_comesIn_0 27 rfl) ⟨Nat.zero_le _, Nat.zero_le _⟩ rfl (fun H locs hs => ?_)
  refine lv_iload_n hx hb (dk hX5_comesIn_0 28 rfl) rfl (lv_at hl 1 rfl) ?_
  cases hf
  exact ri C hs (dk hX5_comesIn_0 29 rfl)

def X5_firstOne_L8 (k : Int32 → List Int32 → List Int32 → List Int32 → List Int32 → List Int32 → List Int32 → List Int32 → List Int32 → List Int32 → Int32 → Int32 → Int32 → Int32 → Int32 → Option (List Int32 × List Int32 × List Int32 × List Int32 × List Int32 × List Int32 × List Int32 × List Int32 × List Int32 × Int32 × Int32 × Int32 × Int32 × Int32 × Int32)) (away : Int32) (free : Int32) : Nat → Int32 → Int32 → Int32 → List Int32 → List Int32 → List Int32 → List Int32 → List Int32 → List Int32 → List Int32 → List Int32 → List Int32 → Int32 → Int32 → Int32 → Int32 → Int32 → Option (List Int32 × List Int32 × List Int32 × List Int32 × List Int32 × List Int32 × List Int32 × List Int32 × List Int32 × Int32 × Int32 × Int32 × Int32 × Int32 × Int32)
  | 0, _, _, _, _, _, _, _, _, _, _, _, _, _, _, _, _, _ => none
  | n + 1, x1, x2, x3, there, used, hidden, kind, figure, good, load, inn, kept, ships, coughs, day, isKeeping, cursor =>
  if ships ≤ x3 then
  k x1 there used hidden kind figure good load inn kept ships coughs day isKeeping cursor
  else
  (X5_comesIn there used hidden kind figure good load inn kept ships coughs day away isKeeping cursor free x3 (60 : Int32)).bind fun u_1 =>
  if u_1.2.2.2.2.2.2.2.2.2.2.2.2.2.2 ≤ (0 : Int32) then
  X5_firstOne_L8 k away free n x1 x2 (x3 + (1 : Int32)) u_1.1 u_1.2.1 u_1.2.2.1 u_1.2.2.2.1 u_1.2.2.2.2.1 u_1.2.2.2.2.2.1 u_1.2.2.2.2.2.2.1 u_1.2.2.2.2.2.2.2.1 u_1.2.2.2.2.2.2.2.2.1 u_1.2.2.2.2.2.2.2.2.2.1 u_1.2.2.2.2.2.2.2.2.2.2.1 u_1.2.2.2.2.2.2.2.2.2.2.2.1 u_1.2.2.2.2.2.2.2.2.2.2.2.2.1 u_1.2.2.2.2.2.2.2.2.2.2.2.2.2.1
  else
  if u_1.2.2.2.2.2.2.2.2.2.2.2.2.2.2 < x2 then
  X5_firstOne_L8 k away free n x3 u_1.2.2.2.2.2.2.2.2.2.2.2.2.2.2 (x3 + (1 : Int32)) u_1.1 u_1.2.1 u_1.2.2.1 u_1.2.2.2.1 u_1.2.2.2.2.1 u_1.2.2.2.2.2.1 u_1.2.2.2.2.2.2.1 u_1.2.2.2.2.2.2.2.1 u_1.2.2.2.2.2.2.2.2.1 u_1.2.2.2.2.2.2.2.2.2.1 u_1.2.2.2.2.2.2.2.2.2.2.1 u_1.2.2.2.2.2.2.2.2.2.2.2.1 u_1.2.2.2.2.2.2.2.2.2.2.2.2.1 u_1.2.2.2.2.2.2.2.2.2.2.2.2.2.1
  else
  X5_firstOne_L8 k away free n x1 x2 (x3 + (1 : Int32)) u_1.1 u_1.2.1 u_1.2.2.1 u_1.2.2.2.1 u_1.2.2.2.2.1 u_1.2.2.2.2.2.1 u_1.2.2.2.2.2.2.1 u_1.2.2.2.2.2.2.2.1 u_1.2.2.2.2.2.2.2.2.1 u_1.2.2.2.2.2.2.2.2.2.1 u_1.2.2.2.2.2.2.2.2.2.2.1 u_1.2.2.2.2.2.2.2.2.2.2.2.1 u_1.2.2.2.2.2.2.2.2.2.2.2.2.1 u_1.2.2.2.2.2.2.2.2.2.2.2.2.2.1
def X5_firstOne (there : List Int32) (used : List Int32) (hidden : List Int32) (kind : List Int32) (figure : List Int32) (good : List Int32) (load : List Int32) (inn : List Int32) (kept : List Int32) (ships : Int32) (coughs : Int32) (day : Int32) (away : Int32) (isKeeping : Int32) (cursor : Int32) (free : Int32) : Option (List Int32 × List Int32 × List Int32 × List Int32 × List Int32 × List Int32 × List Int32 × List Int32 × List Int32 × Int32 × Int32 × Int32 × Int32 × Int32 × Int32) :=
  X5_firstOne_L8 (fun y1_3 there_4 used_5 hidden_6 kind_7 figure_8 good_9 load_10 inn_11 kept_12 ships_13 coughs_14 day_15 isKeeping_16 cursor_17 =>
  some (there_4, used_5, hidden_6, kind_7, figure_8, good_9, load_10, inn_11, kept_12, ships_13, coughs_14, day_15, isKeeping_16, cursor_17, y1_3)) away free 1000 (-9 : Int32) (61 : Int32) (0 : Int32) there used hidden kind figure good load inn kept ships coughs day isKeeping cursor
set_option maxRecDepth 100000 in
set_option maxHeartbeats 4000000 in
theorem l_X5_firstOne_L8 {l : Launch} {p : Program} {e : Env} {s : State} {m : MethodId} {args : Array Value} {below : List Frame} {meth : Method} {c : Code} {A : Nat → Prop} {G : Gx} {ad : Nat → Nat} {refused tape letter letterAt told row costs : List Int32} {away taped reading statements hasImage backs free goodFor loadedWhen bareGood bareWhen rowMany lots : Int32} {k : Int32 → List Int32 → List Int32 → List Int32 → List Int32 → List Int32 → List Int32 → List Int32 → List Int32 → List Int32 → Int32 → Int32 → Int32 → Int32 → Int32 → Option (List Int32 × List Int32 × List Int32 × List Int32 × List Int32 × List Int32 × List Int32 × List Int32 × List Int32 × Int32 × Int32 × Int32 × Int32 × Int32 × Int32)} {out : List Int32 × List Int32 × List Int32 × List Int32 × List Int32 × List Int32 × List Int32 × List Int32 × List Int32 × Int32 × Int32 × Int32 × Int32 × Int32 × Int32} (C : Cx p s m args meth c cX5_firstOne RX5 5 (some .int) G) : ∀ (n : Nat) (x1 : Int32) (x2 : Int32) (x3 : Int32) (there : List Int32) (used : List Int32) (hidden : List Int32) (kind : List Int32) (figure : List Int32) (good : List Int32) (load : List Int32) (inn : List Int32) (kept : List Int32) (ships : Int32) (coughs : Int32) (day : Int32) (isKeeping : Int32) (cursor : Int32), X5_firstOne_L8 k away free n x1 x2 x3 there used hidden kind figure good load inn kept ships coughs day isKeeping cursor = some out → ∀ (H : Heap) (locs : List Loc), St G A s.heap H locs (wM G ad refused there used hidden kind figure good load inn tape letter letterAt told kept row costs ships coughs day away taped reading statements hasImage isKeeping cursor backs free goodFor loadedWhen bareGood bareWhen rowMany lots) → ∀ ls : Array Slot, lv_has ls 5 [(0, .ref (ad 0)), (1, .int x1), (2, .int x2), (3, .int x3)] → (∀ (y1 : Int32) (z_there : List Int32) (z_used : List Int32) (z_hidden : List Int32) (z_kind : List Int32) (z_figure : List Int32) (z_good : List Int32) (z_load : List Int32) (z_inn : List Int32) (z_kept : List Int32) (z_ships : Int32) (z_coughs : Int32) (z_day : Int32) (z_isKeeping : Int32) (z_cursor : Int32), k y1 z_there z_used z_hidden z_kind z_figure z_good z_load z_inn z_kept z_ships z_coughs z_day z_isKeeping z_cursor = some out → ∀ (H : Heap) (locs : List Loc), St G A s.heap H locs (wM G ad refused z_there z_used z_hidden z_kind z_figure z_good z_load z_inn tape letter letterAt told z_kept row costs z_ships z_coughs z_day away taped reading statements hasImage z_isKeeping z_cursor backs free goodFor loadedWhen bareGood bareWhen rowMany lots) → ∀ ls : Array Slot, lv_has ls 5 [(1, .int y1)] → W p l e (rmOf 7 153) s m args below meth c H locs 0 0 (MQ below (Qof G A (some (.int out.2.2.2.2.2.2.2.2.2.2.2.2.2.2)) (wM G ad refused out.1 out.2.1 out.2.2.1 out.2.2.2.1 out.2.2.2.2.1 out.2.2.2.2.2.1 out.2.2.2.2.2.2.1 out.2.2.2.2.2.2.2.1 tape letter letterAt told out.2.2.2.2.2.2.2.2.1 row costs out.2.2.2.2.2.2.2.2.2.1 out.2.2.2.2.2.2.2.2.2.2.1 out.2.2.2.2.2.2.2.2.2.2.2.1 away taped reading statements hasImage out.2.2.2.2.2.2.2.2.2.2.2.2.1 out.2.2.2.2.2.2.2.2.2.2.2.2.2.1 backs free goodFor loadedWhen bareGood bareWhen rowMany lots)) args s 0 0 A) (F0 m 50 ls [])) → W p l e (rmOf 7 153) s m args below meth c H locs 0 0 (MQ below (Qof G A (some (.int out.2.2.2.2.2.2.2.2.2.2.2.2.2.2)) (wM G ad refused out.1 out.2.1 out.2.2.1 out.2.2.2.1 out.2.2.2.2.1 out.2.2.2.2.2.1 out.2.2.2.2.2.2.1 out.2.2.2.2.2.2.2.1 tape letter letterAt told out.2.2.2.2.2.2.2.2.1 row costs out.2.2.2.2.2.2.2.2.2.1 out.2.2.2.2.2.2.2.2.2.2.1 out.2.2.2.2.2.2.2.2.2.2.2.1 away taped reading statements hasImage out.2.2.2.2.2.2.2.2.2.2.2.2.1 out.2.2.2.2.2.2.2.2.2.2.2.2.2.1 backs free goodFor loadedWhen bareGood bareWhen rowMany lots)) args s 0 0 A) (F0 m 8 ls []) := by
  obtain ⟨hx, hb, hml, hown, hts, hK, hret, hlk⟩ := id C
  intro n
  induction n with
  | zero => intro x1 x2 x3 there used hidden kind figure good load inn kept ships coughs day isKeeping cursor hf; cases hf
  | succ n ih =>
    intro x1 x2 x3 there used hidden kind figure good load inn kept ships coughs day isKeeping cursor hf H locs hs ls hl hk
    rw [X5_firstOne_L8] at hf
    refine lv_iload_n hx hb (dk hX5_firstOne_0 6 rfl) rfl (lv_at hl 3 rfl) ?_
    refine lv_aload_n hx hb (dk hX5_firstOne_0 7 rfl) rfl (lv_at hl 0 rfl) ?_
    refine rg ui5 rfl C hs 0 rfl 9 (by decide) tw_699 rfl rfl (dk hX5_firstOne_0 8 rfl) ?_
    refine lv_icmp_ge (tgt := 50) hx hb (dk hX5_firstOne_0 9 rfl) (by decide) (fun hc => ?_) (fun hc => ?_)
    · replace hf := ip hf hc
      exact hk _ _ _ _ _ _ _ _ _ _ _ _ _ _ _ hf _ _ hs _ (lv_sub hl [1] rfl)
    · replace hf := in_ hf hc
      refine lv_aload_n hx hb (dk hX5_firstOne_0 10 rfl) rfl (lv_at hl 0 rfl) ?_
      refine lv_iload_n hx hb (dk hX5_firstOne_0 11 rfl) rfl (lv_at hl 3 rfl) ?_
      refine lv_bipush (v := (60 : Int32)) hx hb (dk hX5_firstOne_0 12 rfl) (by decide) ?_
      obtain ⟨u_1, e_2, hf⟩ := Option.bind_eq_some_iff.mp hf
      refine Ct.V (As := [.int x3, .int (60 : Int32)]) (rest := []) (st1 := [.int u_1.2.2.2.2.2.2.2.2.2.2.2.2.2.2]) (w1 := (wM G ad refused u_1.1 u_1.2.1 u_1.2.2.1 u_1.2.2.2.1 u_1.2.2.2.2.1 u_1.2.2.2.2.2.1 u_1.2.2.2.2.2.2.1 u_1.2.2.2.2.2.2.2.1 tape letter letterAt told u_1.2.2.2.2.2.2.2.2.1 row costs u_1.2.2.2.2.2.2.2.2.2.1 u_1.2.2.2.2.2.2.2.2.2.2.1 u_1.2.2.2.2.2.2.2.2.2.2.2.1 away taped reading statements hasImage u_1.2.2.2.2.2.2.2.2.2.2.2.2.1 u_1.2.2.2.2.2.2.2.2.2.2.2.2.2.1 backs free goodFor loadedWhen bareGood bareWhen rowMany lots)) C hs (c_X5_comesIn e_2) tw_1013 tw_1015 tw_54 tw_85 tw_1016 nq_X5_comesIn (by decide) 0 5 rfl rfl rfl rfl hl.1 rfl (Nat.le_of_ble_eq_true rfl) (dk hX5_firstOne_0 13 rfl) ⟨Nat.zero_le _, Nat.zero_le _⟩ rfl (fun H locs hs => ?_)
      refine lv_istore (lv' := [(4, .int u_1.2.2.2.2.2.2.2.2.2.2.2.2.2.2), (0, .ref (ad 0)), (1, .int x1), (2, .int x2), (3, .int x3)]) hx hb (dk hX5_firstOne_0 14 rfl) hl (by decide) rfl (fun ls hl => ?_)
      refine lv_iload hx hb (dk hX5_firstOne_0 15 rfl) (lv_at hl 0 rfl) ?_
      refine lv_if_le (tgt := 44) hx hb (dk hX5_firstOne_0 16 rfl) (by decide) (fun hc => ?_) (fun hc => ?_)
      · replace hf := ip hf hc
        refine lv_iinc (v := (x3 + (1 : Int32))) (lv' := [(3, .int (x3 + (1 : Int32))), (4, .int u_1.2.2.2.2.2.2.2.2.2.2.2.2.2.2), (0, .ref (ad 0)), (1, .int x1), (2, .int x2)]) hx hb (dk hX5_firstOne_0 25 rfl) hl (k := 4) rfl (by first | rfl | decide) (by decide) rfl (fun ls hl => ?_)
        refine lv_goto (tgt := 8) hx hb (dk hX5_firstOne_0 26 rfl) (by decide) ?_
        exact ih _ _ _ _ _ _ _ _ _ _ _ _ _ _ _ _ _ hf _ _ hs _ (lv_sub hl [2, 3, 4, 0] rfl) hk
      · replace hf := in_ hf hc
        refine lv_iload hx hb (dk hX5_firstOne_0 17 rfl) (lv_at hl 0 rfl) ?_
        refine lv_iload_n hx hb (dk hX5_firstOne_0 18 rfl) rfl (lv_at hl 3 rfl) ?_
        refine lv_icmp_lt (tgt := 39) hx hb (dk hX5_firstOne_0 19 rfl) (by decide) (fun hc => ?_) (fun hc => ?_)
        · replace hf := ip hf hc
          refine lv_iload_n hx hb (dk hX5_firstOne_0 21 rfl) rfl (lv_at hl 4 rfl) ?_
          refine lv_istore_n (lv' := [(1, .int x3), (4, .int u_1.2.2.2.2.2.2.2.2.2.2.2.2.2.2), (0, .ref (ad 0)), (2, .int x2), (3, .int x3)]) hx hb (dk hX5_firstOne_0 22 rfl) rfl hl (by decide) rfl (fun ls hl => ?_)
          refine lv_iload hx hb (dk hX5_firstOne_0 23 rfl) (lv_at hl 1 rfl) ?_
          refine lv_istore_n (lv' := [(2, .int u_1.2.2.2.2.2.2.2.2.2.2.2.2.2.2), (1, .int x3), (4, .int u_1.2.2.2.2.2.2.2.2.2.2.2.2.2.2), (0, .ref (ad 0)), (3, .int x3)]) hx hb (dk hX5_firstOne_0 24 rfl) rfl hl (by decide) rfl (fun ls hl => ?_)
          refine lv_iinc (v := (x3 + (1 : Int32))) (lv' := [(3, .int (x3 + (1 : Int32))), (2, .int u_1.2.2.2.2.2.2.2.2.2.2.2.2.2.2), (1, .int x3), (4, .int u_1.2.2.2.2.2.2.2.2.2.2.2.2.2.2), (0, .ref (ad 0))]) hx hb (dk hX5_firstOne_0 25 rfl) hl (k := 4) rfl (by first | rfl | decide) (by decide) rfl (fun ls hl => ?_)
          refine lv_goto (tgt := 8) hx hb (dk hX5_firstOne_0 26 rfl) (by decide) ?_
          exact ih _ _ _ _ _ _ _ _ _ _ _ _ _ _ _ _ _ hf _ _ hs _ (lv_sub hl [4, 2, 1, 0] rfl) hk
        · replace hf := in_ hf hc
          refine lv_goto (tgt := 44) hx hb (dk hX5_firstOne_0 20 rfl) (by decide) ?_
          refine lv_iinc (v := (x3 + (1 : Int32))) (lv' := [(3, .int (x3 + (1 : Int32))), (4, .int u_1.2.2.2.2.2.2.2.2.2.2.2.2.2.2), (0, .ref (ad 0)), (1, .int x1), (2, .int x2)]) hx hb (dk hX5_firstOne_0 25 rfl) hl (k := 4) rfl (by first | rfl | decide) (by decide) rfl (fun ls hl => ?_)
          refine lv_goto (tgt := 8) hx hb (dk hX5_firstOne_0 26 rfl) (by decide) ?_
          exact ih _ _ _ _ _ _ _ _ _ _ _ _ _ _ _ _ _ hf _ _ hs _ (lv_sub hl [2, 3, 4, 0] rfl) hk
set_option maxRecDepth 100000 in
set_option maxHeartbeats 4000000 in
theorem c_X5_firstOne {l : Launch} {G : Gx} {ad : Nat → Nat} {refused there used hidden kind figure good load inn tape letter letterAt told kept row costs : List Int32} {ships coughs day away taped reading statements hasImage isKeeping cursor backs free goodFor loadedWhen bareGood bareWhen rowMany lots : Int32}  {out : List Int32 × List Int32 × List Int32 × List Int32 × List Int32 × List Int32 × List Int32 × List Int32 × List Int32 × Int32 × Int32 × Int32 × Int32 × Int32 × Int32} (hf : X5_firstOne there used hidden kind figure good load inn kept ships coughs day away isKeeping cursor free = some out) : Ct l G yX5_firstOne cX5_firstOne 5 (some .int) 7 153 [.ref (ad 0)] (wM G ad refused there used hidden kind figure good load inn tape letter letterAt told kept row costs ships coughs day away taped reading statements hasImage isKeeping cursor backs free goodFor loadedWhen bareGood bareWhen rowMany lots) (some (.int out.2.2.2.2.2.2.2.2.2.2.2.2.2.2)) (wM G ad refused out.1 out.2.1 out.2.2.1 out.2.2.2.1 out.2.2.2.2.1 out.2.2.2.2.2.1 out.2.2.2.2.2.2.1 out.2.2.2.2.2.2.2.1 tape letter letterAt told out.2.2.2.2.2.2.2.2.1 row costs out.2.2.2.2.2.2.2.2.2.1 out.2.2.2.2.2.2.2.2.2.2.1 out.2.2.2.2.2.2.2.2.2.2.2.1 away taped reading statements hasImage out.2.2.2.2.2.2.2.2.2.2.2.2.1 out.2.2.2.2.2.2.2.2.2.2.2.2.2.1 backs free goodFor loadedWhen bareGood bareWhen rowMany lots) := by
  refine Ct.intro RX5 rfl (plainFor_of_name (by decide)) (Nat.le_of_ble_eq_true rfl) rfl ?_
  intro p e s m args below meth c A C H locs hs ls hl
  obtain ⟨hx, hb, hml, hown, hts, hK, hret, hlk⟩ := id C
  have hl : lv_has ls 5 [(0, .ref (ad 0))] := hl
  unfold X5_firstOne at hf
  refine lv_bipush (v := (-9 : Int32)) hx hb (dk hX5_firstOne_0 0 rfl) (by decide) ?_
  refine lv_istore_n (lv' := [(1, .int (-9 : Int32)), (0, .ref (ad 0))]) hx hb (dk hX5_firstOne_0 1 rfl) rfl hl (by decide) rfl (fun ls hl => ?_)
  refine lv_bipush (v := (61 : Int32)) hx hb (dk hX5_firstOne_0 2 rfl) (by decide) ?_
  refine lv_istore_n (lv' := [(2, .int (61 : Int32)), (1, .int (-9 : Int32)), (0, .ref (ad 0))]) hx hb (dk hX5_firstOne_0 3 rfl) rfl hl (by decide) rfl (fun ls hl => ?_)
  refine lv_iconst (v := (0 : Int32)) hx hb (dk hX5_firstOne_0 4 rfl) (by decide) ?_
  refine lv_istore_n (lv' := [(3, .int (0 : Int32)), (2, .int (61 : Int32)), (1, .int (-9 : Int32)), (0, .ref (ad 0))]) hx hb (dk hX5_firstOne_0 5 rfl) rfl hl (by decide) rfl (fun ls hl => ?_)
  refine l_X5_firstOne_L8 C 1000 _ _ _ _ _ _ _ _ _ _ _ _ _ _ _ _ _ hf _ _ hs _ (lv_sub hl [3, 2, 1, 0] rfl) (fun y1_3 there_4 used_5 hidden_6 kind_7 figure_8 good_9 load_10 inn_11 kept_12 ships_13 coughs_14 day_15 isKeeping_16 cursor_17 hf H locs hs ls hl => ?_)
  refine lv_iload_n hx hb (dk hX5_firstOne_0 27 rfl) rfl (lv_at hl 0 rfl) ?_
  cases hf
  exact ri C hs (dk hX5_firstOne_0 28 rfl)

def X5_comes (refused : List Int32) (there : List Int32) (used : List Int32) (hidden : List Int32) (kind : List Int32) (figure : List Int32) (good : List Int32) (load : List Int32) (inn : List Int32) (kept : List Int32) (ships : Int32) (coughs : Int32) (day : Int32) (away : Int32) (isKeeping : Int32) (cursor : Int32) (free : Int32) (p0 : Int32) : Option (List Int32 × List Int32 × List Int32 × List Int32 × List Int32 × List Int32 × List Int32 × List Int32 × List Int32 × List Int32 × Int32 × Int32 × Int32 × Int32 × Int32 × Int32) :=
  if p0 = (-1 : Int32) then
  if (0 : Int32) ≤ p0 then
  (X5_comesIn there used hidden kind figure good load inn kept ships coughs day away isKeeping cursor free p0 (60 : Int32)).bind fun u_1 =>
  some (refused, u_1.1, u_1.2.1, u_1.2.2.1, u_1.2.2.2.1, u_1.2.2.2.2.1, u_1.2.2.2.2.2.1, u_1.2.2.2.2.2.2.1, u_1.2.2.2.2.2.2.2.1, u_1.2.2.2.2.2.2.2.2.1, u_1.2.2.2.2.2.2.2.2.2.1, u_1.2.2.2.2.2.2.2.2.2.2.1, u_1.2.2.2.2.2.2.2.2.2.2.2.1, u_1.2.2.2.2.2.2.2.2.2.2.2.2.1, u_1.2.2.2.2.2.2.2.2.2.2.2.2.2.1, u_1.2.2.2.2.2.2.2.2.2.2.2.2.2.2)
  else
  (X5_firstOne there used hidden kind figure good load inn kept ships coughs day away isKeeping cursor free).bind fun u_3 =>
  some (refused, u_3.1, u_3.2.1, u_3.2.2.1, u_3.2.2.2.1, u_3.2.2.2.2.1, u_3.2.2.2.2.2.1, u_3.2.2.2.2.2.2.1, u_3.2.2.2.2.2.2.2.1, u_3.2.2.2.2.2.2.2.2.1, u_3.2.2.2.2.2.2.2.2.2.1, u_3.2.2.2.2.2.2.2.2.2.2.1, u_3.2.2.2.2.2.2.2.2.2.2.2.1, u_3.2.2.2.2.2.2.2.2.2.2.2.2.1, u_3.2.2.2.2.2.2.2.2.2.2.2.2.2.1, u_3.2.2.2.2.2.2.2.2.2.2.2.2.2.2)
  else
  (X5_isShip ships p0).bind fun u_5 =>
  if u_5 = (0 : Int32) then
  (X5_no refused (-1 : Int32)).bind fun u_11 =>
  some (u_11.1, there, used, hidden, kind, figure, good, load, inn, kept, ships, coughs, day, isKeeping, cursor, u_11.2)
  else
  if (0 : Int32) ≤ p0 then
  (X5_comesIn there used hidden kind figure good load inn kept ships coughs day away isKeeping cursor free p0 (60 : Int32)).bind fun u_7 =>
  some (refused, u_7.1, u_7.2.1, u_7.2.2.1, u_7.2.2.2.1, u_7.2.2.2.2.1, u_7.2.2.2.2.2.1, u_7.2.2.2.2.2.2.1, u_7.2.2.2.2.2.2.2.1, u_7.2.2.2.2.2.2.2.2.1, u_7.2.2.2.2.2.2.2.2.2.1, u_7.2.2.2.2.2.2.2.2.2.2.1, u_7.2.2.2.2.2.2.2.2.2.2.2.1, u_7.2.2.2.2.2.2.2.2.2.2.2.2.1, u_7.2.2.2.2.2.2.2.2.2.2.2.2.2.1, u_7.2.2.2.2.2.2.2.2.2.2.2.2.2.2)
  else
  (X5_firstOne there used hidden kind figure good load inn kept ships coughs day away isKeeping cursor free).bind fun u_9 =>
  some (refused, u_9.1, u_9.2.1, u_9.2.2.1, u_9.2.2.2.1, u_9.2.2.2.2.1, u_9.2.2.2.2.2.1, u_9.2.2.2.2.2.2.1, u_9.2.2.2.2.2.2.2.1, u_9.2.2.2.2.2.2.2.2.1, u_9.2.2.2.2.2.2.2.2.2.1, u_9.2.2.2.2.2.2.2.2.2.2.1, u_9.2.2.2.2.2.2.2.2.2.2.2.1, u_9.2.2.2.2.2.2.2.2.2.2.2.2.1, u_9.2.2.2.2.2.2.2.2.2.2.2.2.2.1, u_9.2.2.2.2.2.2.2.2.2.2.2.2.2.2)
set_option maxRecDepth 100000 in
set_option maxHeartbeats 4000000 in
theorem c_X5_comes {l : Launch} {G : Gx} {ad : Nat → Nat} {refused there used hidden kind figure good load inn tape letter letterAt told kept row costs : List Int32} {ships coughs day away taped reading statements hasImage isKeeping cursor backs free goodFor loadedWhen bareGood bareWhen rowMany lots : Int32} {p0 : Int32} {out : List Int32 × List Int32 × List Int32 × List Int32 × List Int32 × List Int32 × List Int32 × List Int32 × List Int32 × List Int32 × Int32 × Int32 × Int32 × Int32 × Int32 × Int32} (hf : X5_comes refused there used hidden kind figure good load inn kept ships coughs day away isKeeping cursor free p0 = some out) : Ct l G yX5_comes cX5_comes 2 (some .int) 8 177 [.ref (ad 0), .int p0] (wM G ad refused there used hidden kind figure good load inn tape letter letterAt told kept row costs ships coughs day away taped reading statements hasImage isKeeping cursor backs free goodFor loadedWhen bareGood bareWhen rowMany lots) (some (.int out.2.2.2.2.2.2.2.2.2.2.2.2.2.2.2)) (wM G ad out.1 out.2.1 out.2.2.1 out.2.2.2.1 out.2.2.2.2.1 out.2.2.2.2.2.1 out.2.2.2.2.2.2.1 out.2.2.2.2.2.2.2.1 out.2.2.2.2.2.2.2.2.1 tape letter letterAt told out.2.2.2.2.2.2.2.2.2.1 row costs out.2.2.2.2.2.2.2.2.2.2.1 out.2.2.2.2.2.2.2.2.2.2.2.1 out.2.2.2.2.2.2.2.2.2.2.2.2.1 away taped reading statements hasImage out.2.2.2.2.2.2.2.2.2.2.2.2.2.1 out.2.2.2.2.2.2.2.2.2.2.2.2.2.2.1 backs free goodFor loadedWhen bareGood bareWhen rowMany lots) := by
  refine Ct.intro RX5 rfl (plainFor_of_name (by decide)) (Nat.le_of_ble_eq_true rfl) rfl ?_
  intro p e s m args below meth c A C H locs hs ls hl
  obtain ⟨hx, hb, hml, hown, hts, hK, hret, hlk⟩ := id C
  have hl : lv_has ls 2 [(0, .ref (ad 0)), (1, .int p0)] := hl
  unfold X5_comes at hf
  refine lv_iload_n hx hb (dk hX5_comes_0 0 rfl) rfl (lv_at hl 1 rfl) ?_
  refine lv_iconst (v := (-1 : Int32)) hx hb (dk hX5_comes_0 1 rfl) (by decide) ?_
  refine lv_icmp_eq (tgt := 19) hx hb (dk hX5_comes_0 2 rfl) (by decide) (fun hc => ?_) (fun hc => ?_)
  · replace hf := ip hf hc
    refine lv_iload_n hx hb (dk hX5_comes_0 11 rfl) rfl (lv_at hl 1 rfl) ?_
    refine lv_if_ge (tgt := 30) hx hb (dk hX5_comes_0 12 rfl) (by decide) (fun hc => ?_) (fun hc => ?_)
    · replace hf := ip hf hc
      refine lv_aload_n hx hb (dk hX5_comes_0 16 rfl) rfl (lv_at hl 0 rfl) ?_
      refine lv_iload_n hx hb (dk hX5_comes_0 17 rfl) rfl (lv_at hl 1 rfl) ?_
      refine lv_bipush (v := (60 : Int32)) hx hb (dk hX5_comes_0 18 rfl) (by decide) ?_
      obtain ⟨u_1, e_2, hf⟩ := Option.bind_eq_some_iff.mp hf
      refine Ct.V (As := [.int p0, .int (60 : Int32)]) (rest := []) (st1 := [.int u_1.2.2.2.2.2.2.2.2.2.2.2.2.2.2]) (w1 := (wM G ad refused u_1.1 u_1.2.1 u_1.2.2.1 u_1.2.2.2.1 u_1.2.2.2.2.1 u_1.2.2.2.2.2.1 u_1.2.2.2.2.2.2.1 u_1.2.2.2.2.2.2.2.1 tape letter letterAt told u_1.2.2.2.2.2.2.2.2.1 row costs u_1.2.2.2.2.2.2.2.2.2.1 u_1.2.2.2.2.2.2.2.2.2.2.1 u_1.2.2.2.2.2.2.2.2.2.2.2.1 away taped reading statements hasImage u_1.2.2.2.2.2.2.2.2.2.2.2.2.1 u_1.2.2.2.2.2.2.2.2.2.2.2.2.2.1 backs free goodFor loadedWhen bareGood bareWhen rowMany lots)) C hs (c_X5_comesIn e_2) tw_1013 tw_1015 tw_54 tw_85 tw_1016 nq_X5_comesIn (by decide) 0 5 rfl rfl rfl rfl hl.1 rfl (Nat.le_of_ble_eq_true rfl) (dk hX5_comes_0 19 rfl) ⟨Nat.zero_le _, Nat.zero_le _⟩ rfl (fun H locs hs => ?_)
      cases hf
      exact ri C hs (dk hX5_comes_0 20 rfl)
    · replace hf := in_ hf hc
      refine lv_aload_n hx hb (dk hX5_comes_0 13 rfl) rfl (lv_at hl 0 rfl) ?_
      obtain ⟨u_3, e_4, hf⟩ := Option.bind_eq_some_iff.mp hf
      refine Ct.V (As := []) (rest := []) (st1 := [.int u_3.2.2.2.2.2.2.2.2.2.2.2.2.2.2]) (w1 := (wM G ad refused u_3.1 u_3.2.1 u_3.2.2.1 u_3.2.2.2.1 u_3.2.2.2.2.1 u_3.2.2.2.2.2.1 u_3.2.2.2.2.2.2.1 u_3.2.2.2.2.2.2.2.1 tape letter letterAt told u_3.2.2.2.2.2.2.2.2.1 row costs u_3.2.2.2.2.2.2.2.2.2.1 u_3.2.2.2.2.2.2.2.2.2.2.1 u_3.2.2.2.2.2.2.2.2.2.2.2.1 away taped reading statements hasImage u_3.2.2.2.2.2.2.2.2.2.2.2.2.1 u_3.2.2.2.2.2.2.2.2.2.2.2.2.2.1 backs free goodFor loadedWhen bareGood bareWhen rowMany lots)) C hs (c_X5_firstOne e_4) tw_1009 tw_1011 tw_53 tw_85 tw_1012 nq_X5_firstOne (by decide) 0 5 rfl rfl rfl rfl hl.1 rfl (Nat.le_of_ble_eq_true rfl) (dk hX5_comes_0 14 rfl) ⟨Nat.zero_le _, Nat.zero_le _⟩ rfl (fun H locs hs => ?_)
      refine lv_goto (tgt := 37) hx hb (dk hX5_comes_0 15 rfl) (by decide) ?_
      cases hf
      exact ri C hs (dk hX5_comes_0 20 rfl)
  · replace hf := in_ hf hc
    refine lv_aload_n hx hb (dk hX5_comes_0 3 rfl) rfl (lv_at hl 0 rfl) ?_
    refine lv_iload_n hx hb (dk hX5_comes_0 4 rfl) rfl (lv_at hl 1 rfl) ?_
    obtain ⟨u_5, e_6, hf⟩ := Option.bind_eq_some_iff.mp hf
    refine Ct.V (As := [.int p0]) (rest := []) (st1 := [.int u_5]) (w1 := (wM G ad refused there used hidden kind figure good load inn tape letter letterAt told kept row costs ships coughs day away taped reading statements hasImage isKeeping cursor backs free goodFor loadedWhen bareGood bareWhen rowMany lots)) C hs (c_X5_isShip e_6) tw_854 tw_856 tw_32 tw_85 tw_857 nq_X5_isShip (by decide) 0 5 rfl rfl rfl rfl hl.1 rfl (Nat.le_of_ble_eq_true rfl) (dk hX5_comes_0 5 rfl) ⟨Nat.zero_le _, Nat.zero_le _⟩ rfl (fun H locs hs => ?_)
    refine lv_if_ne (tgt := 19) hx hb (dk hX5_comes_0 6 rfl) (by decide) (fun hc => ?_) (fun hc => ?_)
    · replace hf := in_ hf hc
      refine lv_iload_n hx hb (dk hX5_comes_0 11 rfl) rfl (lv_at hl 1 rfl) ?_
      refine lv_if_ge (tgt := 30) hx hb (dk hX5_comes_0 12 rfl) (by decide) (fun hc => ?_) (fun hc => ?_)
      · replace hf := ip hf hc
        refine lv_aload_n hx hb (dk hX5_comes_0 16 rfl) rfl (lv_at hl 0 rfl) ?_
        refine lv_iload_n hx hb (dk hX5_comes_0 17 rfl) rfl (lv_at hl 1 rfl) ?_
        refine lv_bipush (v := (60 : Int32)) hx hb (dk hX5_comes_0 18 rfl) (by decide) ?_
        obtain ⟨u_7, e_8, hf⟩ := Option.bind_eq_some_iff.mp hf
        refine Ct.V (As := [.int p0, .int (60 : Int32)]) (rest := []) (st1 := [.int u_7.2.2.2.2.2.2.2.2.2.2.2.2.2.2]) (w1 := (wM G ad refused u_7.1 u_7.2.1 u_7.2.2.1 u_7.2.2.2.1 u_7.2.2.2.2.1 u_7.2.2.2.2.2.1 u_7.2.2.2.2.2.2.1 u_7.2.2.2.2.2.2.2.1 tape letter letterAt told u_7.2.2.2.2.2.2.2.2.1 row costs u_7.2.2.2.2.2.2.2.2.2.1 u_7.2.2.2.2.2.2.2.2.2.2.1 u_7.2.2.2.2.2.2.2.2.2.2.2.1 away taped reading statements hasImage u_7.2.2.2.2.2.2.2.2.2.2.2.2.1 u_7.2.2.2.2.2.2.2.2.2.2.2.2.2.1 backs free goodFor loadedWhen bareGood bareWhen rowMany lots)) C hs (c_X5_comesIn e_8) tw_1013 tw_1015 tw_54 tw_85 tw_1016 nq_X5_comesIn (by decide) 0 5 rfl rfl rfl rfl hl.1 rfl (Nat.le_of_ble_eq_true rfl) (dk hX5_comes_0 19 rfl) ⟨Nat.zero_le _, Nat.zero_le _⟩ rfl (fun H locs hs => ?_)
        cases hf
        exact ri C hs (dk hX5_comes_0 20 rfl)
      · replace hf := in_ hf hc
        refine lv_aload_n hx hb (dk hX5_comes_0 13 rfl) rfl (lv_at hl 0 rfl) ?_
        obtain ⟨u_9, e_10, hf⟩ := Option.bind_eq_some_iff.mp hf
        refine Ct.V (As := []) (rest := []) (st1 := [.int u_9.2.2.2.2.2.2.2.2.2.2.2.2.2.2]) (w1 := (wM G ad refused u_9.1 u_9.2.1 u_9.2.2.1 u_9.2.2.2.1 u_9.2.2.2.2.1 u_9.2.2.2.2.2.1 u_9.2.2.2.2.2.2.1 u_9.2.2.2.2.2.2.2.1 tape letter letterAt told u_9.2.2.2.2.2.2.2.2.1 row costs u_9.2.2.2.2.2.2.2.2.2.1 u_9.2.2.2.2.2.2.2.2.2.2.1 u_9.2.2.2.2.2.2.2.2.2.2.2.1 away taped reading statements hasImage u_9.2.2.2.2.2.2.2.2.2.2.2.2.1 u_9.2.2.2.2.2.2.2.2.2.2.2.2.2.1 backs free goodFor loadedWhen bareGood bareWhen rowMany lots)) C hs (c_X5_firstOne e_10) tw_1009 tw_1011 tw_53 tw_85 tw_1012 nq_X5_firstOne (by decide) 0 5 rfl rfl rfl rfl hl.1 rfl (Nat.le_of_ble_eq_true rfl) (dk hX5_comes_0 14 rfl) ⟨Nat.zero_le _, Nat.zero_le _⟩ rfl (fun H locs hs => ?_)
        refine lv_goto (tgt := 37) hx hb (dk hX5_comes_0 15 rfl) (by decide) ?_
        cases hf
        exact ri C hs (dk hX5_comes_0 20 rfl)
    · replace hf := ip hf hc
      refine lv_aload_n hx hb (dk hX5_comes_0 7 rfl) rfl (lv_at hl 0 rfl) ?_
      refine lv_iconst (v := (-1 : Int32)) hx hb (dk hX5_comes_0 8 rfl) (by decide) ?_
      obtain ⟨u_11, e_12, hf⟩ := Option.bind_eq_some_iff.mp hf
      refine Ct.V (As := [.int (-1 : Int32)]) (rest := []) (st1 := [.int u_11.2]) (w1 := (wM G ad u_11.1 there used hidden kind figure good load inn tape letter letterAt told kept row costs ships coughs day away taped reading statements hasImage isKeeping cursor backs free goodFor loadedWhen bareGood bareWhen rowMany lots)) C hs (c_X5_no e_12) tw_800 tw_802 tw_21 tw_85 tw_803 nq_X5_no (by decide) 0 5 rfl rfl rfl rfl hl.1 rfl (Nat.le_of_ble_eq_true rfl) (dk hX5_comes_0 9 rfl) ⟨Nat.zero_le _, Nat.zero_le _⟩ rfl (fun H locs hs => ?_)
      cases hf
      exact ri C hs (dk hX5_comes_0 10 rfl)

def X5_isInNext (there : List Int32) (used : List Int32) (hidden : List Int32) (kind : List Int32) (figure : List Int32) (good : List Int32) (load : List Int32) (inn : List Int32) (kept : List Int32) (ships : Int32) (coughs : Int32) (day : Int32) (away : Int32) (isKeeping : Int32) (cursor : Int32) (free : Int32) (p0 : Int32) (p1 : Int32) : Option (List Int32 × List Int32 × List Int32 × List Int32 × List Int32 × List Int32 × List Int32 × List Int32 × List Int32 × Int32 × Int32 × Int32 × Int32 × Int32 × Int32 × Int32) :=
  (X5_comesIn there used hidden kind figure good load inn kept ships coughs day (away ||| p1) isKeeping cursor free p0 (1 : Int32)).bind fun u_1 =>
  if u_1.2.2.2.2.2.2.2.2.2.2.2.2.2.2 < (0 : Int32) then
  some (u_1.1, u_1.2.1, u_1.2.2.1, u_1.2.2.2.1, u_1.2.2.2.2.1, u_1.2.2.2.2.2.1, u_1.2.2.2.2.2.2.1, u_1.2.2.2.2.2.2.2.1, u_1.2.2.2.2.2.2.2.2.1, u_1.2.2.2.2.2.2.2.2.2.1, u_1.2.2.2.2.2.2.2.2.2.2.1, u_1.2.2.2.2.2.2.2.2.2.2.2.1, away, u_1.2.2.2.2.2.2.2.2.2.2.2.2.1, u_1.2.2.2.2.2.2.2.2.2.2.2.2.2.1, (0 : Int32))
  else
  some (u_1.1, u_1.2.1, u_1.2.2.1, u_1.2.2.2.1, u_1.2.2.2.2.1, u_1.2.2.2.2.2.1, u_1.2.2.2.2.2.2.1, u_1.2.2.2.2.2.2.2.1, u_1.2.2.2.2.2.2.2.2.1, u_1.2.2.2.2.2.2.2.2.2.1, u_1.2.2.2.2.2.2.2.2.2.2.1, u_1.2.2.2.2.2.2.2.2.2.2.2.1, away, u_1.2.2.2.2.2.2.2.2.2.2.2.2.1, u_1.2.2.2.2.2.2.2.2.2.2.2.2.2.1, (1 : Int32))
set_option maxRecDepth 100000 in
set_option maxHeartbeats 4000000 in
theorem c_X5_isInNext {l : Launch} {G : Gx} {ad : Nat → Nat} {refused there used hidden kind figure good load inn tape letter letterAt told kept row costs : List Int32} {ships coughs day away taped reading statements hasImage isKeeping cursor backs free goodFor loadedWhen bareGood bareWhen rowMany lots : Int32} {p0 : Int32} {p1 : Int32} {out : List Int32 × List Int32 × List Int32 × List Int32 × List Int32 × List Int32 × List Int32 × List Int32 × List Int32 × Int32 × Int32 × Int32 × Int32 × Int32 × Int32 × Int32} (hf : X5_isInNext there used hidden kind figure good load inn kept ships coughs day away isKeeping cursor free p0 p1 = some out) : Ct l G yX5_isInNext cX5_isInNext 5 (some .boolean) 7 153 [.ref (ad 0), .int p0, .int p1] (wM G ad refused there used hidden kind figure good load inn tape letter letterAt told kept row costs ships coughs day away taped reading statements hasImage isKeeping cursor backs free goodFor loadedWhen bareGood bareWhen rowMany lots) (some (.int out.2.2.2.2.2.2.2.2.2.2.2.2.2.2.2)) (wM G ad refused out.1 out.2.1 out.2.2.1 out.2.2.2.1 out.2.2.2.2.1 out.2.2.2.2.2.1 out.2.2.2.2.2.2.1 out.2.2.2.2.2.2.2.1 tape letter letterAt told out.2.2.2.2.2.2.2.2.1 row costs out.2.2.2.2.2.2.2.2.2.1 out.2.2.2.2.2.2.2.2.2.2.1 out.2.2.2.2.2.2.2.2.2.2.2.1 out.2.2.2.2.2.2.2.2.2.2.2.2.1 taped reading statements hasImage out.2.2.2.2.2.2.2.2.2.2.2.2.2.1 out.2.2.2.2.2.2.2.2.2.2.2.2.2.2.1 backs free goodFor loadedWhen bareGood bareWhen rowMany lots) := by
  refine Ct.intro RX5 rfl (plainFor_of_name (by decide)) (Nat.le_of_ble_eq_true rfl) rfl ?_
  intro p e s m args below meth c A C H locs hs ls hl
  obtain ⟨hx, hb, hml, hown, hts, hK, hret, hlk⟩ := id C
  have hl : lv_has ls 5 [(0, .ref (ad 0)), (1, .int p0), (2, .int p1)] := hl
  unfold X5_isInNext at hf
  refine lv_aload_n hx hb (dk hX5_isInNext_0 0 rfl) rfl (lv_at hl 0 rfl) ?_
  refine rg ui5 rfl C hs 0 rfl 12 (by decide) tw_702 rfl rfl (dk hX5_isInNext_0 1 rfl) ?_
  refine lv_istore_n (lv' := [(3, .int away), (0, .ref (ad 0)), (1, .int p0), (2, .int p1)]) hx hb (dk hX5_isInNext_0 2 rfl) rfl hl (by decide) rfl (fun ls hl => ?_)
  refine lv_aload_n hx hb (dk hX5_isInNext_0 3 rfl) rfl (lv_at hl 1 rfl) ?_
  refine lv_dup hx hb (dk hX5_isInNext_0 4 rfl) rfl ?_
  refine rg ui5 rfl C hs 0 rfl 12 (by decide) tw_702 rfl rfl (dk hX5_isInNext_0 5 rfl) ?_
  refine lv_iload_n hx hb (dk hX5_isInNext_0 6 rfl) rfl (lv_at hl 3 rfl) ?_
  refine lv_ior hx hb (dk hX5_isInNext_0 7 rfl) ?_
  refine rp (w1 := (wM G ad refused there used hidden kind figure good load inn tape letter letterAt told kept row costs ships coughs day (away ||| p1) taped reading statements hasImage isKeeping cursor backs free goodFor loadedWhen bareGood bareWhen rowMany lots)) tyX5 tyX5_ok nmX5 ui5 rfl C hs 0 rfl 12 (by decide) tw_702 rfl rfl rfl rfl (Nat.le_of_ble_eq_true rfl) rfl (dk hX5_isInNext_0 8 rfl) (fun H locs hs => ?_)
  refine lv_aload_n hx hb (dk hX5_isInNext_0 9 rfl) rfl (lv_at hl 1 rfl) ?_
  refine lv_iload_n hx hb (dk hX5_isInNext_0 10 rfl) rfl (lv_at hl 2 rfl) ?_
  refine lv_iconst (v := (1 : Int32)) hx hb (dk hX5_isInNext_0 11 rfl) (by decide) ?_
  obtain ⟨u_1, e_2, hf⟩ := Option.bind_eq_some_iff.mp hf
  refine Ct.V (As := [.int p0, .int (1 : Int32)]) (rest := []) (st1 := [.int u_1.2.2.2.2.2.2.2.2.2.2.2.2.2.2]) (w1 := (wM G ad refused u_1.1 u_1.2.1 u_1.2.2.1 u_1.2.2.2.1 u_1.2.2.2.2.1 u_1.2.2.2.2.2.1 u_1.2.2.2.2.2.2.1 u_1.2.2.2.2.2.2.2.1 tape letter letterAt told u_1.2.2.2.2.2.2.2.2.1 row costs u_1.2.2.2.2.2.2.2.2.2.1 u_1.2.2.2.2.2.2.2.2.2.2.1 u_1.2.2.2.2.2.2.2.2.2.2.2.1 (away ||| p1) taped reading statements hasImage u_1.2.2.2.2.2.2.2.2.2.2.2.2.1 u_1.2.2.2.2.2.2.2.2.2.2.2.2.2.1 backs free goodFor loadedWhen bareGood bareWhen rowMany lots)) C hs (c_X5_comesIn e_2) tw_1013 tw_1015 tw_54 tw_85 tw_1016 nq_X5_comesIn (by decide) 0 5 rfl rfl rfl rfl hl.1 rfl (Nat.le_of_ble_eq_true rfl) (dk hX5_isInNext_0 12 rfl) ⟨Nat.zero_le _, Nat.zero_le _⟩ rfl (fun H locs hs => ?_)
  refine lv_if_lt (tgt := 28) hx hb (dk hX5_isInNext_0 13 rfl) (by decide) (fun hc => ?_) (fun hc => ?_)
  · replace hf := ip hf hc
    refine lv_iconst (v := (0 : Int32)) hx hb (dk hX5_isInNext_0 16 rfl) (by decide) ?_
    refine lv_istore (lv' := [(4, .int (0 : Int32)), (3, .int away), (0, .ref (ad 0)), (1, .int p0), (2, .int p1)]) hx hb (dk hX5_isInNext_0 17 rfl) hl (by decide) rfl (fun ls hl => ?_)
    refine lv_aload_n hx hb (dk hX5_isInNext_0 18 rfl) rfl (lv_at hl 2 rfl) ?_
    refine lv_iload_n hx hb (dk hX5_isInNext_0 19 rfl) rfl (lv_at hl 1 rfl) ?_
    refine rp (w1 := (wM G ad refused u_1.1 u_1.2.1 u_1.2.2.1 u_1.2.2.2.1 u_1.2.2.2.2.1 u_1.2.2.2.2.2.1 u_1.2.2.2.2.2.2.1 u_1.2.2.2.2.2.2.2.1 tape letter letterAt told u_1.2.2.2.2.2.2.2.2.1 row costs u_1.2.2.2.2.2.2.2.2.2.1 u_1.2.2.2.2.2.2.2.2.2.2.1 u_1.2.2.2.2.2.2.2.2.2.2.2.1 away taped reading statements hasImage u_1.2.2.2.2.2.2.2.2.2.2.2.2.1 u_1.2.2.2.2.2.2.2.2.2.2.2.2.2.1 backs free goodFor loadedWhen bareGood bareWhen rowMany lots)) tyX5 tyX5_ok nmX5 ui5 rfl C hs 0 rfl 12 (by decide) tw_702 rfl rfl rfl rfl (Nat.le_of_ble_eq_true rfl) rfl (dk hX5_isInNext_0 20 rfl) (fun H locs hs => ?_)
    refine lv_iload hx hb (dk hX5_isInNext_0 21 rfl) (lv_at hl 0 rfl) ?_
    cases hf
    exact rz (x := (0 : Int32)) rfl C hs (dk hX5_isInNext_0 22 rfl)
  · replace hf := in_ hf hc
    refine lv_iconst (v := (1 : Int32)) hx hb (dk hX5_isInNext_0 14 rfl) (by decide) ?_
    refine lv_goto (tgt := 29) hx hb (dk hX5_isInNext_0 15 rfl) (by decide) ?_
    refine lv_istore (lv' := [(4, .int (1 : Int32)), (3, .int away), (0, .ref (ad 0)), (1, .int p0), (2, .int p1)]) hx hb (dk hX5_isInNext_0 17 rfl) hl (by decide) rfl (fun ls hl => ?_)
    refine lv_aload_n hx hb (dk hX5_isInNext_0 18 rfl) rfl (lv_at hl 2 rfl) ?_
    refine lv_iload_n hx hb (dk hX5_isInNext_0 19 rfl) rfl (lv_at hl 1 rfl) ?_
    refine rp (w1 := (wM G ad refused u_1.1 u_1.2.1 u_1.2.2.1 u_1.2.2.2.1 u_1.2.2.2.2.1 u_1.2.2.2.2.2.1 u_1.2.2.2.2.2.2.1 u_1.2.2.2.2.2.2.2.1 tape letter letterAt told u_1.2.2.2.2.2.2.2.2.1 row costs u_1.2.2.2.2.2.2.2.2.2.1 u_1.2.2.2.2.2.2.2.2.2.2.1 u_1.2.2.2.2.2.2.2.2.2.2.2.1 away taped reading statements hasImage u_1.2.2.2.2.2.2.2.2.2.2.2.2.1 u_1.2.2.2.2.2.2.2.2.2.2.2.2.2.1 backs free goodFor loadedWhen bareGood bareWhen rowMany lots)) tyX5 tyX5_ok nmX5 ui5 rfl C hs 0 rfl 12 (by decide) tw_702 rfl rfl rfl rfl (Nat.le_of_ble_eq_true rfl) rfl (dk hX5_isInNext_0 20 rfl) (fun H locs hs => ?_)
    refine lv_iload hx hb (dk hX5_isInNext_0 21 rfl) (lv_at hl 0 rfl) ?_
    cases hf
    exact rz (x := (1 : Int32)) rfl C hs (dk hX5_isInNext_0 22 rfl)

def X5_isShut (there : List Int32) (used : List Int32) (hidden : List Int32) (kind : List Int32) (figure : List Int32) (good : List Int32) (load : List Int32) (inn : List Int32) (kept : List Int32) (ships : Int32) (coughs : Int32) (day : Int32) (away : Int32) (isKeeping : Int32) (cursor : Int32) (free : Int32) (p0 : Int32) : Option (List Int32 × List Int32 × List Int32 × List Int32 × List Int32 × List Int32 × List Int32 × List Int32 × List Int32 × Int32 × Int32 × Int32 × Int32 × Int32 × Int32 × Int32) :=
  (rd inn p0).bind fun v_1 =>
  if v_1 = (0 : Int32) then
  (X5_isInNext there used hidden kind figure good load inn kept ships coughs day away isKeeping cursor free p0 (0 : Int32)).bind fun u_3 =>
  if u_3.2.2.2.2.2.2.2.2.2.2.2.2.2.2.2 = (0 : Int32) then
  (X5_isInNext u_3.1 u_3.2.1 u_3.2.2.1 u_3.2.2.2.1 u_3.2.2.2.2.1 u_3.2.2.2.2.2.1 u_3.2.2.2.2.2.2.1 u_3.2.2.2.2.2.2.2.1 u_3.2.2.2.2.2.2.2.2.1 u_3.2.2.2.2.2.2.2.2.2.1 u_3.2.2.2.2.2.2.2.2.2.2.1 u_3.2.2.2.2.2.2.2.2.2.2.2.1 u_3.2.2.2.2.2.2.2.2.2.2.2.2.1 u_3.2.2.2.2.2.2.2.2.2.2.2.2.2.1 u_3.2.2.2.2.2.2.2.2.2.2.2.2.2.2.1 free p0 ((127 : Int32) &&& (((1 : Int32) <<< (p0 &&& 31)) ^^^ (-1 : Int32)))).bind fun u_5 =>
  if u_5.2.2.2.2.2.2.2.2.2.2.2.2.2.2.2 = (0 : Int32) then
  some (u_5.1, u_5.2.1, u_5.2.2.1, u_5.2.2.2.1, u_5.2.2.2.2.1, u_5.2.2.2.2.2.1, u_5.2.2.2.2.2.2.1, u_5.2.2.2.2.2.2.2.1, u_5.2.2.2.2.2.2.2.2.1, u_5.2.2.2.2.2.2.2.2.2.1, u_5.2.2.2.2.2.2.2.2.2.2.1, u_5.2.2.2.2.2.2.2.2.2.2.2.1, u_5.2.2.2.2.2.2.2.2.2.2.2.2.1, u_5.2.2.2.2.2.2.2.2.2.2.2.2.2.1, u_5.2.2.2.2.2.2.2.2.2.2.2.2.2.2.1, (0 : Int32))
  else
  some (u_5.1, u_5.2.1, u_5.2.2.1, u_5.2.2.2.1, u_5.2.2.2.2.1, u_5.2.2.2.2.2.1, u_5.2.2.2.2.2.2.1, u_5.2.2.2.2.2.2.2.1, u_5.2.2.2.2.2.2.2.2.1, u_5.2.2.2.2.2.2.2.2.2.1, u_5.2.2.2.2.2.2.2.2.2.2.1, u_5.2.2.2.2.2.2.2.2.2.2.2.1, u_5.2.2.2.2.2.2.2.2.2.2.2.2.1, u_5.2.2.2.2.2.2.2.2.2.2.2.2.2.1, u_5.2.2.2.2.2.2.2.2.2.2.2.2.2.2.1, (1 : Int32))
  else
  some (u_3.1, u_3.2.1, u_3.2.2.1, u_3.2.2.2.1, u_3.2.2.2.2.1, u_3.2.2.2.2.2.1, u_3.2.2.2.2.2.2.1, u_3.2.2.2.2.2.2.2.1, u_3.2.2.2.2.2.2.2.2.1, u_3.2.2.2.2.2.2.2.2.2.1, u_3.2.2.2.2.2.2.2.2.2.2.1, u_3.2.2.2.2.2.2.2.2.2.2.2.1, u_3.2.2.2.2.2.2.2.2.2.2.2.2.1, u_3.2.2.2.2.2.2.2.2.2.2.2.2.2.1, u_3.2.2.2.2.2.2.2.2.2.2.2.2.2.2.1, (0 : Int32))
  else
  some (there, used, hidden, kind, figure, good, load, inn, kept, ships, coughs, day, away, isKeeping, cursor, (0 : Int32))
set_option maxRecDepth 100000 in
set_option maxHeartbeats 4000000 in
theorem c_X5_isShut {l : Launch} {G : Gx} {ad : Nat → Nat} {refused there used hidden kind figure good load inn tape letter letterAt told kept row costs : List Int32} {ships coughs day away taped reading statements hasImage isKeeping cursor backs free goodFor loadedWhen bareGood bareWhen rowMany lots : Int32} {p0 : Int32} {out : List Int32 × List Int32 × List Int32 × List Int32 × List Int32 × List Int32 × List Int32 × List Int32 × List Int32 × Int32 × Int32 × Int32 × Int32 × Int32 × Int32 × Int32} (hf : X5_isShut there used hidden kind figure good load inn kept ships coughs day away isKeeping cursor free p0 = some out) : Ct l G yX5_isShut cX5_isShut 2 (some .boolean) 8 177 [.ref (ad 0), .int p0] (wM G ad refused there used hidden kind figure good load inn tape letter letterAt told kept row costs ships coughs day away taped reading statements hasImage isKeeping cursor backs free goodFor loadedWhen bareGood bareWhen rowMany lots) (some (.int out.2.2.2.2.2.2.2.2.2.2.2.2.2.2.2)) (wM G ad refused out.1 out.2.1 out.2.2.1 out.2.2.2.1 out.2.2.2.2.1 out.2.2.2.2.2.1 out.2.2.2.2.2.2.1 out.2.2.2.2.2.2.2.1 tape letter letterAt told out.2.2.2.2.2.2.2.2.1 row costs out.2.2.2.2.2.2.2.2.2.1 out.2.2.2.2.2.2.2.2.2.2.1 out.2.2.2.2.2.2.2.2.2.2.2.1 out.2.2.2.2.2.2.2.2.2.2.2.2.1 taped reading statements hasImage out.2.2.2.2.2.2.2.2.2.2.2.2.2.1 out.2.2.2.2.2.2.2.2.2.2.2.2.2.2.1 backs free goodFor loadedWhen bareGood bareWhen rowMany lots) := by
  refine Ct.intro RX5 rfl (plainFor_of_name (by decide)) (Nat.le_of_ble_eq_true rfl) rfl ?_
  intro p e s m args below meth c A C H locs hs ls hl
  obtain ⟨hx, hb, hml, hown, hts, hK, hret, hlk⟩ := id C
  have hl : lv_has ls 2 [(0, .ref (ad 0)), (1, .int p0)] := hl
  unfold X5_isShut at hf
  refine lv_aload_n hx hb (dk hX5_isShut_0 0 rfl) rfl (lv_at hl 0 rfl) ?_
  refine rg ui5 rfl C hs 0 rfl 8 (by decide) tw_698 rfl rfl (dk hX5_isShut_0 1 rfl) ?_
  refine lv_iload_n hx hb (dk hX5_isShut_0 2 rfl) rfl (lv_at hl 1 rfl) ?_
  obtain ⟨v_1, e_2, hf⟩ := Option.bind_eq_some_iff.mp hf
  refine rild C hs 9 rfl e_2 (dk hX5_isShut_0 3 rfl) ?_
  refine lv_if_ne (tgt := 38) hx hb (dk hX5_isShut_0 4 rfl) (by decide) (fun hc => ?_) (fun hc => ?_)
  · replace hf := in_ hf hc
    refine lv_iconst (v := (0 : Int32)) hx hb (dk hX5_isShut_0 23 rfl) (by decide) ?_
    cases hf
    exact rz (x := (0 : Int32)) rfl C hs (dk hX5_isShut_0 24 rfl)
  · replace hf := ip hf hc
    refine lv_aload_n hx hb (dk hX5_isShut_0 5 rfl) rfl (lv_at hl 0 rfl) ?_
    refine lv_iload_n hx hb (dk hX5_isShut_0 6 rfl) rfl (lv_at hl 1 rfl) ?_
    refine lv_iconst (v := (0 : Int32)) hx hb (dk hX5_isShut_0 7 rfl) (by decide) ?_
    obtain ⟨u_3, e_4, hf⟩ := Option.bind_eq_some_iff.mp hf
    refine Ct.V (As := [.int p0, .int (0 : Int32)]) (rest := []) (st1 := [.int u_3.2.2.2.2.2.2.2.2.2.2.2.2.2.2.2]) (w1 := (wM G ad refused u_3.1 u_3.2.1 u_3.2.2.1 u_3.2.2.2.1 u_3.2.2.2.2.1 u_3.2.2.2.2.2.1 u_3.2.2.2.2.2.2.1 u_3.2.2.2.2.2.2.2.1 tape letter letterAt told u_3.2.2.2.2.2.2.2.2.1 row costs u_3.2.2.2.2.2.2.2.2.2.1 u_3.2.2.2.2.2.2.2.2.2.2.1 u_3.2.2.2.2.2.2.2.2.2.2.2.1 u_3.2.2.2.2.2.2.2.2.2.2.2.2.1 taped reading statements hasImage u_3.2.2.2.2.2.2.2.2.2.2.2.2.2.1 u_3.2.2.2.2.2.2.2.2.2.2.2.2.2.2.1 backs free goodFor loadedWhen bareGood bareWhen rowMany lots)) C hs (c_X5_isInNext e_4) tw_1025 tw_1027 tw_56 tw_85 tw_1028 nq_X5_isInNext (by decide) 0 5 rfl rfl rfl rfl hl.1 rfl (Nat.le_of_ble_eq_true rfl) (dk hX5_isShut_0 8 rfl) ⟨Nat.zero_le _, Nat.zero_le _⟩ rfl (fun H locs hs => ?_)
    refine lv_if_ne (tgt := 38) hx hb (dk hX5_isShut_0 9 rfl) (by decide) (fun hc => ?_) (fun hc => ?_)
    · replace hf := in_ hf hc
      refine lv_iconst (v := (0 : Int32)) hx hb (dk hX5_isShut_0 23 rfl) (by decide) ?_
      cases hf
      exact rz (x := (0 : Int32)) rfl C hs (dk hX5_isShut_0 24 rfl)
    · replace hf := ip hf hc
      refine lv_aload_n hx hb (dk hX5_isShut_0 10 rfl) rfl (lv_at hl 0 rfl) ?_
      refine lv_iload_n hx hb (dk hX5_isShut_0 11 rfl) rfl (lv_at hl 1 rfl) ?_
      refine lv_bipush (v := (127 : Int32)) hx hb (dk hX5_isShut_0 12 rfl) (by decide) ?_
      refine lv_iconst (v := (1 : Int32)) hx hb (dk hX5_isShut_0 13 rfl) (by decide) ?_
      refine lv_iload_n hx hb (dk hX5_isShut_0 14 rfl) rfl (lv_at hl 1 rfl) ?_
      refine lv_ishl hx hb (dk hX5_isShut_0 15 rfl) ?_
      refine lv_iconst (v := (-1 : Int32)) hx hb (dk hX5_isShut_0 16 rfl) (by decide) ?_
      refine lv_ixor hx hb (dk hX5_isShut_0 17 rfl) ?_
      refine lv_iand hx hb (dk hX5_isShut_0 18 rfl) ?_
      obtain ⟨u_5, e_6, hf⟩ := Option.bind_eq_some_iff.mp hf
      refine Ct.V (As := [.int p0, .int ((127 : Int32) &&& (((1 : Int32) <<< (p0 &&& 31)) ^^^ (-1 : Int32)))]) (rest := []) (st1 := [.int u_5.2.2.2.2.2.2.2.2.2.2.2.2.2.2.2]) (w1 := (wM G ad refused u_5.1 u_5.2.1 u_5.2.2.1 u_5.2.2.2.1 u_5.2.2.2.2.1 u_5.2.2.2.2.2.1 u_5.2.2.2.2.2.2.1 u_5.2.2.2.2.2.2.2.1 tape letter letterAt told u_5.2.2.2.2.2.2.2.2.1 row costs u_5.2.2.2.2.2.2.2.2.2.1 u_5.2.2.2.2.2.2.2.2.2.2.1 u_5.2.2.2.2.2.2.2.2.2.2.2.1 u_5.2.2.2.2.2.2.2.2.2.2.2.2.1 taped reading statements hasImage u_5.2.2.2.2.2.2.2.2.2.2.2.2.2.1 u_5.2.2.2.2.2.2.2.2.2.2.2.2.2.2.1 backs free goodFor loadedWhen bareGood bareWhen rowMany lots)) C hs (c_X5_isInNext e_6) tw_1025 tw_1027 tw_56 tw_85 tw_1028 nq_X5_isInNext (by decide) 0 5 rfl rfl rfl rfl hl.1 rfl (Nat.le_of_ble_eq_true rfl) (dk hX5_isShut_0 19 rfl) ⟨Nat.zero_le _, Nat.zero_le _⟩ rfl (fun H locs hs => ?_)
      refine lv_if_eq (tgt := 38) hx hb (dk hX5_isShut_0 20 rfl) (by decide) (fun hc => ?_) (fun hc => ?_)
      · replace hf := ip hf hc
        refine lv_iconst (v := (0 : Int32)) hx hb (dk hX5_isShut_0 23 rfl) (by decide) ?_
        cases hf
        exact rz (x := (0 : Int32)) rfl C hs (dk hX5_isShut_0 24 rfl)
      · replace hf := in_ hf hc
        refine lv_iconst (v := (1 : Int32)) hx hb (dk hX5_isShut_0 21 rfl) (by decide) ?_
        refine lv_goto (tgt := 39) hx hb (dk hX5_isShut_0 22 rfl) (by decide) ?_
        cases hf
        exact rz (x := (1 : Int32)) rfl C hs (dk hX5_isShut_0 24 rfl)

def X5_shut_L4 (k : Int32 → List Int32 → List Int32 → List Int32 → List Int32 → List Int32 → List Int32 → List Int32 → List Int32 → List Int32 → Int32 → Int32 → Int32 → Int32 → Int32 → Int32 → Option (List Int32 × List Int32 × List Int32 × List Int32 × List Int32 × List Int32 × List Int32 × List Int32 × List Int32 × Int32 × Int32 × Int32 × Int32 × Int32 × Int32 × Int32)) (free : Int32) : Nat → Int32 → Int32 → List Int32 → List Int32 → List Int32 → List Int32 → List Int32 → List Int32 → List Int32 → List Int32 → List Int32 → Int32 → Int32 → Int32 → Int32 → Int32 → Int32 → Option (List Int32 × List Int32 × List Int32 × List Int32 × List Int32 × List Int32 × List Int32 × List Int32 × List Int32 × Int32 × Int32 × Int32 × Int32 × Int32 × Int32 × Int32)
  | 0, _, _, _, _, _, _, _, _, _, _, _, _, _, _, _, _, _ => none
  | n + 1, x1, x2, there, used, hidden, kind, figure, good, load, inn, kept, ships, coughs, day, away, isKeeping, cursor =>
  if ships ≤ x2 then
  k x1 there used hidden kind figure good load inn kept ships coughs day away isKeeping cursor
  else
  (X5_isShut there used hidden kind figure good load inn kept ships coughs day away isKeeping cursor free x2).bind fun u_1 =>
  if u_1.2.2.2.2.2.2.2.2.2.2.2.2.2.2.2 = (0 : Int32) then
  X5_shut_L4 k free n (x1 ||| (0 : Int32)) (x2 + (1 : Int32)) u_1.1 u_1.2.1 u_1.2.2.1 u_1.2.2.2.1 u_1.2.2.2.2.1 u_1.2.2.2.2.2.1 u_1.2.2.2.2.2.2.1 u_1.2.2.2.2.2.2.2.1 u_1.2.2.2.2.2.2.2.2.1 u_1.2.2.2.2.2.2.2.2.2.1 u_1.2.2.2.2.2.2.2.2.2.2.1 u_1.2.2.2.2.2.2.2.2.2.2.2.1 u_1.2.2.2.2.2.2.2.2.2.2.2.2.1 u_1.2.2.2.2.2.2.2.2.2.2.2.2.2.1 u_1.2.2.2.2.2.2.2.2.2.2.2.2.2.2.1
  else
  X5_shut_L4 k free n (x1 ||| ((1 : Int32) <<< (x2 &&& 31))) (x2 + (1 : Int32)) u_1.1 u_1.2.1 u_1.2.2.1 u_1.2.2.2.1 u_1.2.2.2.2.1 u_1.2.2.2.2.2.1 u_1.2.2.2.2.2.2.1 u_1.2.2.2.2.2.2.2.1 u_1.2.2.2.2.2.2.2.2.1 u_1.2.2.2.2.2.2.2.2.2.1 u_1.2.2.2.2.2.2.2.2.2.2.1 u_1.2.2.2.2.2.2.2.2.2.2.2.1 u_1.2.2.2.2.2.2.2.2.2.2.2.2.1 u_1.2.2.2.2.2.2.2.2.2.2.2.2.2.1 u_1.2.2.2.2.2.2.2.2.2.2.2.2.2.2.1
def X5_shut (there : List Int32) (used : List Int32) (hidden : List Int32) (kind : List Int32) (figure : List Int32) (good : List Int32) (load : List Int32) (inn : List Int32) (kept : List Int32) (ships : Int32) (coughs : Int32) (day : Int32) (away : Int32) (isKeeping : Int32) (cursor : Int32) (free : Int32) : Option (List Int32 × List Int32 × List Int32 × List Int32 × List Int32 × List Int32 × List Int32 × List Int32 × List Int32 × Int32 × Int32 × Int32 × Int32 × Int32 × Int32 × Int32) :=
  X5_shut_L4 (fun y1_3 there_4 used_5 hidden_6 kind_7 figure_8 good_9 load_10 inn_11 kept_12 ships_13 coughs_14 day_15 away_16 isKeeping_17 cursor_18 =>
  some (there_4, used_5, hidden_6, kind_7, figure_8, good_9, load_10, inn_11, kept_12, ships_13, coughs_14, day_15, away_16, isKeeping_17, cursor_18, y1_3)) free 1000 (0 : Int32) (0 : Int32) there used hidden kind figure good load inn kept ships coughs day away isKeeping cursor
set_option maxRecDepth 100000 in
set_option maxHeartbeats 4000000 in
theorem l_X5_shut_L4 {l : Launch} {p : Program} {e : Env} {s : State} {m : MethodId} {args : Array Value} {below : List Frame} {meth : Method} {c : Code} {A : Nat → Prop} {G : Gx} {ad : Nat → Nat} {refused tape letter letterAt told row costs : List Int32} {taped reading statements hasImage backs free goodFor loadedWhen bareGood bareWhen rowMany lots : Int32} {k : Int32 → List Int32 → List Int32 → List Int32 → List Int32 → List Int32 → List Int32 → List Int32 → List Int32 → List Int32 → Int32 → Int32 → Int32 → Int32 → Int32 → Int32 → Option (List Int32 × List Int32 × List Int32 × List Int32 × List Int32 × List Int32 × List Int32 × List Int32 × List Int32 × Int32 × Int32 × Int32 × Int32 × Int32 × Int32 × Int32)} {out : List Int32 × List Int32 × List Int32 × List Int32 × List Int32 × List Int32 × List Int32 × List Int32 × List Int32 × Int32 × Int32 × Int32 × Int32 × Int32 × Int32 × Int32} (C : Cx p s m args meth c cX5_shut RX5 3 (some .int) G) : ∀ (n : Nat) (x1 : Int32) (x2 : Int32) (there : List Int32) (used : List Int32) (hidden : List Int32) (kind : List Int32) (figure : List Int32) (good : List Int32) (load : List Int32) (inn : List Int32) (kept : List Int32) (ships : Int32) (coughs : Int32) (day : Int32) (away : Int32) (isKeeping : Int32) (cursor : Int32), X5_shut_L4 k free n x1 x2 there used hidden kind figure good load inn kept ships coughs day away isKeeping cursor = some out → ∀ (H : Heap) (locs : List Loc), St G A s.heap H locs (wM G ad refused there used hidden kind figure good load inn tape letter letterAt told kept row costs ships coughs day away taped reading statements hasImage isKeeping cursor backs free goodFor loadedWhen bareGood bareWhen rowMany lots) → ∀ ls : Array Slot, lv_has ls 3 [(0, .ref (ad 0)), (1, .int x1), (2, .int x2)] → (∀ (y1 : Int32) (z_there : List Int32) (z_used : List Int32) (z_hidden : List Int32) (z_kind : List Int32) (z_figure : List Int32) (z_good : List Int32) (z_load : List Int32) (z_inn : List Int32) (z_kept : List Int32) (z_ships : Int32) (z_coughs : Int32) (z_day : Int32) (z_away : Int32) (z_isKeeping : Int32) (z_cursor : Int32), k y1 z_there z_used z_hidden z_kind z_figure z_good z_load z_inn z_kept z_ships z_coughs z_day z_away z_isKeeping z_cursor = some out → ∀ (H : Heap) (locs : List Loc), St G A s.heap H locs (wM G ad refused z_there z_used z_hidden z_kind z_figure z_good z_load z_inn tape letter letterAt told z_kept row costs z_ships z_coughs z_day z_away taped reading statements hasImage z_isKeeping z_cursor backs free goodFor loadedWhen bareGood bareWhen rowMany lots) → ∀ ls : Array Slot, lv_has ls 3 [(1, .int y1)] → W p l e (rmOf 9 198) s m args below meth c H locs 0 0 (MQ below (Qof G A (some (.int out.2.2.2.2.2.2.2.2.2.2.2.2.2.2.2)) (wM G ad refused out.1 out.2.1 out.2.2.1 out.2.2.2.1 out.2.2.2.2.1 out.2.2.2.2.2.1 out.2.2.2.2.2.2.1 out.2.2.2.2.2.2.2.1 tape letter letterAt told out.2.2.2.2.2.2.2.2.1 row costs out.2.2.2.2.2.2.2.2.2.1 out.2.2.2.2.2.2.2.2.2.2.1 out.2.2.2.2.2.2.2.2.2.2.2.1 out.2.2.2.2.2.2.2.2.2.2.2.2.1 taped reading statements hasImage out.2.2.2.2.2.2.2.2.2.2.2.2.2.1 out.2.2.2.2.2.2.2.2.2.2.2.2.2.2.1 backs free goodFor loadedWhen bareGood bareWhen rowMany lots)) args s 0 0 A) (F0 m 36 ls [])) → W p l e (rmOf 9 198) s m args below meth c H locs 0 0 (MQ below (Qof G A (some (.int out.2.2.2.2.2.2.2.2.2.2.2.2.2.2.2)) (wM G ad refused out.1 out.2.1 out.2.2.1 out.2.2.2.1 out.2.2.2.2.1 out.2.2.2.2.2.1 out.2.2.2.2.2.2.1 out.2.2.2.2.2.2.2.1 tape letter letterAt told out.2.2.2.2.2.2.2.2.1 row costs out.2.2.2.2.2.2.2.2.2.1 out.2.2.2.2.2.2.2.2.2.2.1 out.2.2.2.2.2.2.2.2.2.2.2.1 out.2.2.2.2.2.2.2.2.2.2.2.2.1 taped reading statements hasImage out.2.2.2.2.2.2.2.2.2.2.2.2.2.1 out.2.2.2.2.2.2.2.2.2.2.2.2.2.2.1 backs free goodFor loadedWhen bareGood bareWhen rowMany lots)) args s 0 0 A) (F0 m 4 ls []) := by
  obtain ⟨hx, hb, hml, hown, hts, hK, hret, hlk⟩ := id C
  intro n
  induction n with
  | zero => intro x1 x2 there used hidden kind figure good load inn kept ships coughs day away isKeeping cursor hf; cases hf
  | succ n ih =>
    intro x1 x2 there used hidden kind figure good load inn kept ships coughs day away isKeeping cursor hf H locs hs ls hl hk
    rw [X5_shut_L4] at hf
    refine lv_iload_n hx hb (dk hX5_shut_0 4 rfl) rfl (lv_at hl 2 rfl) ?_
    refine lv_aload_n hx hb (dk hX5_shut_0 5 rfl) rfl (lv_at hl 0 rfl) ?_
    refine rg ui5 rfl C hs 0 rfl 9 (by decide) tw_699 rfl rfl (dk hX5_shut_0 6 rfl) ?_
    refine lv_icmp_ge (tgt := 36) hx hb (dk hX5_shut_0 7 rfl) (by decide) (fun hc => ?_) (fun hc => ?_)
    · replace hf := ip hf hc
      exact hk _ _ _ _ _ _ _ _ _ _ _ _ _ _ _ _ hf _ _ hs _ (lv_sub hl [1] rfl)
    · replace hf := in_ hf hc
      refine lv_iload_n hx hb (dk hX5_shut_0 8 rfl) rfl (lv_at hl 1 rfl) ?_
      refine lv_aload_n hx hb (dk hX5_shut_0 9 rfl) rfl (lv_at hl 0 rfl) ?_
      refine lv_iload_n hx hb (dk hX5_shut_0 10 rfl) rfl (lv_at hl 2 rfl) ?_
      obtain ⟨u_1, e_2, hf⟩ := Option.bind_eq_some_iff.mp hf
      refine Ct.V (As := [.int x2]) (rest := [.int x1]) (st1 := [.int u_1.2.2.2.2.2.2.2.2.2.2.2.2.2.2.2, .int x1]) (w1 := (wM G ad refused u_1.1 u_1.2.1 u_1.2.2.1 u_1.2.2.2.1 u_1.2.2.2.2.1 u_1.2.2.2.2.2.1 u_1.2.2.2.2.2.2.1 u_1.2.2.2.2.2.2.2.1 tape letter letterAt told u_1.2.2.2.2.2.2.2.2.1 row costs u_1.2.2.2.2.2.2.2.2.2.1 u_1.2.2.2.2.2.2.2.2.2.2.1 u_1.2.2.2.2.2.2.2.2.2.2.2.1 u_1.2.2.2.2.2.2.2.2.2.2.2.2.1 taped reading statements hasImage u_1.2.2.2.2.2.2.2.2.2.2.2.2.2.1 u_1.2.2.2.2.2.2.2.2.2.2.2.2.2.2.1 backs free goodFor loadedWhen bareGood bareWhen rowMany lots)) C hs (c_X5_isShut e_2) tw_1021 tw_1023 tw_55 tw_85 tw_1024 nq_X5_isShut (by decide) 0 5 rfl rfl rfl rfl hl.1 rfl (Nat.le_of_ble_eq_true rfl) (dk hX5_shut_0 11 rfl) ⟨Nat.zero_le _, Nat.zero_le _⟩ rfl (fun H locs hs => ?_)
      refine lv_if_eq (tgt := 27) hx hb (dk hX5_shut_0 12 rfl) (by decide) (fun hc => ?_) (fun hc => ?_)
      · replace hf := ip hf hc
        refine lv_iconst (v := (0 : Int32)) hx hb (dk hX5_shut_0 17 rfl) (by decide) ?_
        refine lv_ior hx hb (dk hX5_shut_0 18 rfl) ?_
        refine lv_istore_n (lv' := [(1, .int (x1 ||| (0 : Int32))), (0, .ref (ad 0)), (2, .int x2)]) hx hb (dk hX5_shut_0 19 rfl) rfl hl (by decide) rfl (fun ls hl => ?_)
        refine lv_iinc (v := (x2 + (1 : Int32))) (lv' := [(2, .int (x2 + (1 : Int32))), (1, .int (x1 ||| (0 : Int32))), (0, .ref (ad 0))]) hx hb (dk hX5_shut_0 20 rfl) hl (k := 2) rfl (by first | rfl | decide) (by decide) rfl (fun ls hl => ?_)
        refine lv_goto (tgt := 4) hx hb (dk hX5_shut_0 21 rfl) (by decide) ?_
        exact ih _ _ _ _ _ _ _ _ _ _ _ _ _ _ _ _ _ hf _ _ hs _ (lv_sub hl [2, 1, 0] rfl) hk
      · replace hf := in_ hf hc
        refine lv_iconst (v := (1 : Int32)) hx hb (dk hX5_shut_0 13 rfl) (by decide) ?_
        refine lv_iload_n hx hb (dk hX5_shut_0 14 rfl) rfl (lv_at hl 2 rfl) ?_
        refine lv_ishl hx hb (dk hX5_shut_0 15 rfl) ?_
        refine lv_goto (tgt := 28) hx hb (dk hX5_shut_0 16 rfl) (by decide) ?_
        refine lv_ior hx hb (dk hX5_shut_0 18 rfl) ?_
        refine lv_istore_n (lv' := [(1, .int (x1 ||| ((1 : Int32) <<< (x2 &&& 31)))), (0, .ref (ad 0)), (2, .int x2)]) hx hb (dk hX5_shut_0 19 rfl) rfl hl (by decide) rfl (fun ls hl => ?_)
        refine lv_iinc (v := (x2 + (1 : Int32))) (lv' := [(2, .int (x2 + (1 : Int32))), (1, .int (x1 ||| ((1 : Int32) <<< (x2 &&& 31)))), (0, .ref (ad 0))]) hx hb (dk hX5_shut_0 20 rfl) hl (k := 2) rfl (by first | rfl | decide) (by decide) rfl (fun ls hl => ?_)
        refine lv_goto (tgt := 4) hx hb (dk hX5_shut_0 21 rfl) (by decide) ?_
        exact ih _ _ _ _ _ _ _ _ _ _ _ _ _ _ _ _ _ hf _ _ hs _ (lv_sub hl [2, 1, 0] rfl) hk
set_option maxRecDepth 100000 in
set_option maxHeartbeats 4000000 in
theorem c_X5_shut {l : Launch} {G : Gx} {ad : Nat → Nat} {refused there used hidden kind figure good load inn tape letter letterAt told kept row costs : List Int32} {ships coughs day away taped reading statements hasImage isKeeping cursor backs free goodFor loadedWhen bareGood bareWhen rowMany lots : Int32}  {out : List Int32 × List Int32 × List Int32 × List Int32 × List Int32 × List Int32 × List Int32 × List Int32 × List Int32 × Int32 × Int32 × Int32 × Int32 × Int32 × Int32 × Int32} (hf : X5_shut there used hidden kind figure good load inn kept ships coughs day away isKeeping cursor free = some out) : Ct l G yX5_shut cX5_shut 3 (some .int) 9 198 [.ref (ad 0)] (wM G ad refused there used hidden kind figure good load inn tape letter letterAt told kept row costs ships coughs day away taped reading statements hasImage isKeeping cursor backs free goodFor loadedWhen bareGood bareWhen rowMany lots) (some (.int out.2.2.2.2.2.2.2.2.2.2.2.2.2.2.2)) (wM G ad refused out.1 out.2.1 out.2.2.1 out.2.2.2.1 out.2.2.2.2.1 out.2.2.2.2.2.1 out.2.2.2.2.2.2.1 out.2.2.2.2.2.2.2.1 tape letter letterAt told out.2.2.2.2.2.2.2.2.1 row costs out.2.2.2.2.2.2.2.2.2.1 out.2.2.2.2.2.2.2.2.2.2.1 out.2.2.2.2.2.2.2.2.2.2.2.1 out.2.2.2.2.2.2.2.2.2.2.2.2.1 taped reading statements hasImage out.2.2.2.2.2.2.2.2.2.2.2.2.2.1 out.2.2.2.2.2.2.2.2.2.2.2.2.2.2.1 backs free goodFor loadedWhen bareGood bareWhen rowMany lots) := by
  refine Ct.intro RX5 rfl (plainFor_of_name (by decide)) (Nat.le_of_ble_eq_true rfl) rfl ?_
  intro p e s m args below meth c A C H locs hs ls hl
  obtain ⟨hx, hb, hml, hown, hts, hK, hret, hlk⟩ := id C
  have hl : lv_has ls 3 [(0, .ref (ad 0))] := hl
  unfold X5_shut at hf
  refine lv_iconst (v := (0 : Int32)) hx hb (dk hX5_shut_0 0 rfl) (by decide) ?_
  refine lv_istore_n (lv' := [(1, .int (0 : Int32)), (0, .ref (ad 0))]) hx hb (dk hX5_shut_0 1 rfl) rfl hl (by decide) rfl (fun ls hl => ?_)
  refine lv_iconst (v := (0 : Int32)) hx hb (dk hX5_shut_0 2 rfl) (by decide) ?_
  refine lv_istore_n (lv' := [(2, .int (0 : Int32)), (1, .int (0 : Int32)), (0, .ref (ad 0))]) hx hb (dk hX5_shut_0 3 rfl) rfl hl (by decide) rfl (fun ls hl => ?_)
  refine l_X5_shut_L4 C 1000 _ _ _ _ _ _ _ _ _ _ _ _ _ _ _ _ _ hf _ _ hs _ (lv_sub hl [2, 1, 0] rfl) (fun y1_3 there_4 used_5 hidden_6 kind_7 figure_8 good_9 load_10 inn_11 kept_12 ships_13 coughs_14 day_15 away_16 isKeeping_17 cursor_18 hf H locs hs ls hl => ?_)
  refine lv_iload_n hx hb (dk hX5_shut_0 22 rfl) rfl (lv_at hl 0 rfl) ?_
  cases hf
  exact ri C hs (dk hX5_shut_0 23 rfl)

def X5_byWhom_L16 (k : List Int32 → List Int32 → List Int32 → List Int32 → List Int32 → List Int32 → List Int32 → List Int32 → List Int32 → Int32 → Int32 → Int32 → Int32 → Int32 → Int32 → Option (List Int32 × List Int32 × List Int32 × List Int32 × List Int32 × List Int32 × List Int32 × List Int32 × List Int32 × List Int32 × Int32 × Int32 × Int32 × Int32 × Int32 × Int32 × Int32)) (refused : List Int32) (free : Int32) (x1 : Int32) : Nat → Int32 → List Int32 → List Int32 → List Int32 → List Int32 → List Int32 → List Int32 → List Int32 → List Int32 → List Int32 → Int32 → Int32 → Int32 → Int32 → Int32 → Int32 → Option (List Int32 × List Int32 × List Int32 × List Int32 × List Int32 × List Int32 × List Int32 × List Int32 × List Int32 × List Int32 × Int32 × Int32 × Int32 × Int32 × Int32 × Int32 × Int32)
  | 0, _, _, _, _, _, _, _, _, _, _, _, _, _, _, _, _ => none
  | n + 1, x2, there, used, hidden, kind, figure, good, load, inn, kept, ships, coughs, day, away, isKeeping, cursor =>
  if ships ≤ x2 then
  k there used hidden kind figure good load inn kept ships coughs day away isKeeping cursor
  else
  (X5_isShut there used hidden kind figure good load inn kept ships coughs day away isKeeping cursor free x1).bind fun u_3 =>
  if u_3.2.2.2.2.2.2.2.2.2.2.2.2.2.2.2 = (0 : Int32) then
  k u_3.1 u_3.2.1 u_3.2.2.1 u_3.2.2.2.1 u_3.2.2.2.2.1 u_3.2.2.2.2.2.1 u_3.2.2.2.2.2.2.1 u_3.2.2.2.2.2.2.2.1 u_3.2.2.2.2.2.2.2.2.1 u_3.2.2.2.2.2.2.2.2.2.1 u_3.2.2.2.2.2.2.2.2.2.2.1 u_3.2.2.2.2.2.2.2.2.2.2.2.1 u_3.2.2.2.2.2.2.2.2.2.2.2.2.1 u_3.2.2.2.2.2.2.2.2.2.2.2.2.2.1 u_3.2.2.2.2.2.2.2.2.2.2.2.2.2.2.1
  else
  if x2 = x1 then
  X5_byWhom_L16 k refused free x1 n (x2 + (1 : Int32)) u_3.1 u_3.2.1 u_3.2.2.1 u_3.2.2.2.1 u_3.2.2.2.2.1 u_3.2.2.2.2.2.1 u_3.2.2.2.2.2.2.1 u_3.2.2.2.2.2.2.2.1 u_3.2.2.2.2.2.2.2.2.1 u_3.2.2.2.2.2.2.2.2.2.1 u_3.2.2.2.2.2.2.2.2.2.2.1 u_3.2.2.2.2.2.2.2.2.2.2.2.1 u_3.2.2.2.2.2.2.2.2.2.2.2.2.1 u_3.2.2.2.2.2.2.2.2.2.2.2.2.2.1 u_3.2.2.2.2.2.2.2.2.2.2.2.2.2.2.1
  else
  (X5_isInNext u_3.1 u_3.2.1 u_3.2.2.1 u_3.2.2.2.1 u_3.2.2.2.2.1 u_3.2.2.2.2.2.1 u_3.2.2.2.2.2.2.1 u_3.2.2.2.2.2.2.2.1 u_3.2.2.2.2.2.2.2.2.1 u_3.2.2.2.2.2.2.2.2.2.1 u_3.2.2.2.2.2.2.2.2.2.2.1 u_3.2.2.2.2.2.2.2.2.2.2.2.1 u_3.2.2.2.2.2.2.2.2.2.2.2.2.1 u_3.2.2.2.2.2.2.2.2.2.2.2.2.2.1 u_3.2.2.2.2.2.2.2.2.2.2.2.2.2.2.1 free x1 ((1 : Int32) <<< (x2 &&& 31))).bind fun u_5 =>
  if u_5.2.2.2.2.2.2.2.2.2.2.2.2.2.2.2 = (0 : Int32) then
  X5_byWhom_L16 k refused free x1 n (x2 + (1 : Int32)) u_5.1 u_5.2.1 u_5.2.2.1 u_5.2.2.2.1 u_5.2.2.2.2.1 u_5.2.2.2.2.2.1 u_5.2.2.2.2.2.2.1 u_5.2.2.2.2.2.2.2.1 u_5.2.2.2.2.2.2.2.2.1 u_5.2.2.2.2.2.2.2.2.2.1 u_5.2.2.2.2.2.2.2.2.2.2.1 u_5.2.2.2.2.2.2.2.2.2.2.2.1 u_5.2.2.2.2.2.2.2.2.2.2.2.2.1 u_5.2.2.2.2.2.2.2.2.2.2.2.2.2.1 u_5.2.2.2.2.2.2.2.2.2.2.2.2.2.2.1
  else
  some (refused, u_5.1, u_5.2.1, u_5.2.2.1, u_5.2.2.2.1, u_5.2.2.2.2.1, u_5.2.2.2.2.2.1, u_5.2.2.2.2.2.2.1, u_5.2.2.2.2.2.2.2.1, u_5.2.2.2.2.2.2.2.2.1, u_5.2.2.2.2.2.2.2.2.2.1, u_5.2.2.2.2.2.2.2.2.2.2.1, u_5.2.2.2.2.2.2.2.2.2.2.2.1, u_5.2.2.2.2.2.2.2.2.2.2.2.2.1, u_5.2.2.2.2.2.2.2.2.2.2.2.2.2.1, u_5.2.2.2.2.2.2.2.2.2.2.2.2.2.2.1, x2)
def X5_byWhom (refused : List Int32) (there : List Int32) (used : List Int32) (hidden : List Int32) (kind : List Int32) (figure : List Int32) (good : List Int32) (load : List Int32) (inn : List Int32) (kept : List Int32) (ships : Int32) (coughs : Int32) (day : Int32) (away : Int32) (isKeeping : Int32) (cursor : Int32) (free : Int32) (p0 : Int32) : Option (List Int32 × List Int32 × List Int32 × List Int32 × List Int32 × List Int32 × List Int32 × List Int32 × List Int32 × List Int32 × Int32 × Int32 × Int32 × Int32 × Int32 × Int32 × Int32) :=
  (X5_isShip ships p0).bind fun u_1 =>
  if u_1 = (0 : Int32) then
  (X5_no refused (-1 : Int32)).bind fun u_22 =>
  some (u_22.1, there, used, hidden, kind, figure, good, load, inn, kept, ships, coughs, day, away, isKeeping, cursor, u_22.2)
  else
  X5_byWhom_L16 (fun there_7 used_8 hidden_9 kind_10 figure_11 good_12 load_13 inn_14 kept_15 ships_16 coughs_17 day_18 away_19 isKeeping_20 cursor_21 =>
  some (refused, there_7, used_8, hidden_9, kind_10, figure_11, good_12, load_13, inn_14, kept_15, ships_16, coughs_17, day_18, away_19, isKeeping_20, cursor_21, (-9 : Int32))) refused free p0 1000 (0 : Int32) there used hidden kind figure good load inn kept ships coughs day away isKeeping cursor
set_option maxRecDepth 100000 in
set_option maxHeartbeats 4000000 in
theorem l_X5_byWhom_L16 {l : Launch} {p : Program} {e : Env} {s : State} {m : MethodId} {args : Array Value} {below : List Frame} {meth : Method} {c : Code} {A : Nat → Prop} {G : Gx} {ad : Nat → Nat} {refused tape letter letterAt told row costs : List Int32} {taped reading statements hasImage backs free goodFor loadedWhen bareGood bareWhen rowMany lots : Int32} {x1 : Int32} {k : List Int32 → List Int32 → List Int32 → List Int32 → List Int32 → List Int32 → List Int32 → List Int32 → List Int32 → Int32 → Int32 → Int32 → Int32 → Int32 → Int32 → Option (List Int32 × List Int32 × List Int32 × List Int32 × List Int32 × List Int32 × List Int32 × List Int32 × List Int32 × List Int32 × Int32 × Int32 × Int32 × Int32 × Int32 × Int32 × Int32)} {out : List Int32 × List Int32 × List Int32 × List Int32 × List Int32 × List Int32 × List Int32 × List Int32 × List Int32 × List Int32 × Int32 × Int32 × Int32 × Int32 × Int32 × Int32 × Int32} (C : Cx p s m args meth c cX5_byWhom RX5 3 (some .int) G) : ∀ (n : Nat) (x2 : Int32) (there : List Int32) (used : List Int32) (hidden : List Int32) (kind : List Int32) (figure : List Int32) (good : List Int32) (load : List Int32) (inn : List Int32) (kept : List Int32) (ships : Int32) (coughs : Int32) (day : Int32) (away : Int32) (isKeeping : Int32) (cursor : Int32), X5_byWhom_L16 k refused free x1 n x2 there used hidden kind figure good load inn kept ships coughs day away isKeeping cursor = some out → ∀ (H : Heap) (locs : List Loc), St G A s.heap H locs (wM G ad refused there used hidden kind figure good load inn tape letter letterAt told kept row costs ships coughs day away taped reading statements hasImage isKeeping cursor backs free goodFor loadedWhen bareGood bareWhen rowMany lots) → ∀ ls : Array Slot, lv_has ls 3 [(0, .ref (ad 0)), (1, .int x1), (2, .int x2)] → (∀ (z_there : List Int32) (z_used : List Int32) (z_hidden : List Int32) (z_kind : List Int32) (z_figure : List Int32) (z_good : List Int32) (z_load : List Int32) (z_inn : List Int32) (z_kept : List Int32) (z_ships : Int32) (z_coughs : Int32) (z_day : Int32) (z_away : Int32) (z_isKeeping : Int32) (z_cursor : Int32), k z_there z_used z_hidden z_kind z_figure z_good z_load z_inn z_kept z_ships z_coughs z_day z_away z_isKeeping z_cursor = some out → ∀ (H : Heap) (locs : List Loc), St G A s.heap H locs (wM G ad refused z_there z_used z_hidden z_kind z_figure z_good z_load z_inn tape letter letterAt told z_kept row costs z_ships z_coughs z_day z_away taped reading statements hasImage z_isKeeping z_cursor backs free goodFor loadedWhen bareGood bareWhen rowMany lots) → ∀ ls : Array Slot, lv_has ls 3 [] → W p l e (rmOf 9 198) s m args below meth c H locs 0 0 (MQ below (Qof G A (some (.int out.2.2.2.2.2.2.2.2.2.2.2.2.2.2.2.2)) (wM G ad out.1 out.2.1 out.2.2.1 out.2.2.2.1 out.2.2.2.2.1 out.2.2.2.2.2.1 out.2.2.2.2.2.2.1 out.2.2.2.2.2.2.2.1 out.2.2.2.2.2.2.2.2.1 tape letter letterAt told out.2.2.2.2.2.2.2.2.2.1 row costs out.2.2.2.2.2.2.2.2.2.2.1 out.2.2.2.2.2.2.2.2.2.2.2.1 out.2.2.2.2.2.2.2.2.2.2.2.2.1 out.2.2.2.2.2.2.2.2.2.2.2.2.2.1 taped reading statements hasImage out.2.2.2.2.2.2.2.2.2.2.2.2.2.2.1 out.2.2.2.2.2.2.2.2.2.2.2.2.2.2.2.1 backs free goodFor loadedWhen bareGood bareWhen rowMany lots)) args s 0 0 A) (F0 m 56 ls [])) → W p l e (rmOf 9 198) s m args below meth c H locs 0 0 (MQ below (Qof G A (some (.int out.2.2.2.2.2.2.2.2.2.2.2.2.2.2.2.2)) (wM G ad out.1 out.2.1 out.2.2.1 out.2.2.2.1 out.2.2.2.2.1 out.2.2.2.2.2.1 out.2.2.2.2.2.2.1 out.2.2.2.2.2.2.2.1 out.2.2.2.2.2.2.2.2.1 tape letter letterAt told out.2.2.2.2.2.2.2.2.2.1 row costs out.2.2.2.2.2.2.2.2.2.2.1 out.2.2.2.2.2.2.2.2.2.2.2.1 out.2.2.2.2.2.2.2.2.2.2.2.2.1 out.2.2.2.2.2.2.2.2.2.2.2.2.2.1 taped reading statements hasImage out.2.2.2.2.2.2.2.2.2.2.2.2.2.2.1 out.2.2.2.2.2.2.2.2.2.2.2.2.2.2.2.1 backs free goodFor loadedWhen bareGood bareWhen rowMany lots)) args s 0 0 A) (F0 m 16 ls []) := by
  obtain ⟨hx, hb, hml, hown, hts, hK, hret, hlk⟩ := id C
  intro n
  induction n with
  | zero => intro x2 there used hidden kind figure good load inn kept ships coughs day away isKeeping cursor hf; cases hf
  | succ n ih =>
    intro x2 there used hidden kind figure good load inn kept ships coughs day away isKeeping cursor hf H locs hs ls hl hk
    rw [X5_byWhom_L16] at hf
    refine lv_iload_n hx hb (dk hX5_byWhom_0 10 rfl) rfl (lv_at hl 2 rfl) ?_
    refine lv_aload_n hx hb (dk hX5_byWhom_0 11 rfl) rfl (lv_at hl 0 rfl) ?_
    refine rg ui5 rfl C hs 0 rfl 9 (by decide) tw_699 rfl rfl (dk hX5_byWhom_0 12 rfl) ?_
    refine lv_icmp_ge (tgt := 56) hx hb (dk hX5_byWhom_0 13 rfl) (by decide) (fun hc => ?_) (fun hc => ?_)
    · replace hf := ip hf hc
      exact hk _ _ _ _ _ _ _ _ _ _ _ _ _ _ _ hf _ _ hs _ (lv_sub hl [] rfl)
    · replace hf := in_ hf hc
      refine lv_aload_n hx hb (dk hX5_byWhom_0 14 rfl) rfl (lv_at hl 0 rfl) ?_
      refine lv_iload_n hx hb (dk hX5_byWhom_0 15 rfl) rfl (lv_at hl 1 rfl) ?_
      obtain ⟨u_3, e_4, hf⟩ := Option.bind_eq_some_iff.mp hf
      refine Ct.V (As := [.int x1]) (rest := []) (st1 := [.int u_3.2.2.2.2.2.2.2.2.2.2.2.2.2.2.2]) (w1 := (wM G ad refused u_3.1 u_3.2.1 u_3.2.2.1 u_3.2.2.2.1 u_3.2.2.2.2.1 u_3.2.2.2.2.2.1 u_3.2.2.2.2.2.2.1 u_3.2.2.2.2.2.2.2.1 tape letter letterAt told u_3.2.2.2.2.2.2.2.2.1 row costs u_3.2.2.2.2.2.2.2.2.2.1 u_3.2.2.2.2.2.2.2.2.2.2.1 u_3.2.2.2.2.2.2.2.2.2.2.2.1 u_3.2.2.2.2.2.2.2.2.2.2.2.2.1 taped reading statements hasImage u_3.2.2.2.2.2.2.2.2.2.2.2.2.2.1 u_3.2.2.2.2.2.2.2.2.2.2.2.2.2.2.1 backs free goodFor loadedWhen bareGood bareWhen rowMany lots)) C hs (c_X5_isShut e_4) tw_1021 tw_1023 tw_55 tw_85 tw_1024 nq_X5_isShut (by decide) 0 5 rfl rfl rfl rfl hl.1 rfl (Nat.le_of_ble_eq_true rfl) (dk hX5_byWhom_0 16 rfl) ⟨Nat.zero_le _, Nat.zero_le _⟩ rfl (fun H locs hs => ?_)
      refine lv_if_eq (tgt := 56) hx hb (dk hX5_byWhom_0 17 rfl) (by decide) (fun hc => ?_) (fun hc => ?_)
      · replace hf := ip hf hc
        exact hk _ _ _ _ _ _ _ _ _ _ _ _ _ _ _ hf _ _ hs _ (lv_sub hl [] rfl)
      · replace hf := in_ hf hc
        refine lv_iload_n hx hb (dk hX5_byWhom_0 18 rfl) rfl (lv_at hl 2 rfl) ?_
        refine lv_iload_n hx hb (dk hX5_byWhom_0 19 rfl) rfl (lv_at hl 1 rfl) ?_
        refine lv_icmp_eq (tgt := 50) hx hb (dk hX5_byWhom_0 20 rfl) (by decide) (fun hc => ?_) (fun hc => ?_)
        · replace hf := ip hf hc
          refine lv_iinc (v := (x2 + (1 : Int32))) (lv' := [(2, .int (x2 + (1 : Int32))), (0, .ref (ad 0)), (1, .int x1)]) hx hb (dk hX5_byWhom_0 30 rfl) hl (k := 2) rfl (by first | rfl | decide) (by decide) rfl (fun ls hl => ?_)
          refine lv_goto (tgt := 16) hx hb (dk hX5_byWhom_0 31 rfl) (by decide) ?_
          exact ih _ _ _ _ _ _ _ _ _ _ _ _ _ _ _ _ hf _ _ hs _ (lv_sub hl [1, 2, 0] rfl) hk
        · replace hf := in_ hf hc
          refine lv_aload_n hx hb (dk hX5_byWhom_0 21 rfl) rfl (lv_at hl 0 rfl) ?_
          refine lv_iload_n hx hb (dk hX5_byWhom_0 22 rfl) rfl (lv_at hl 1 rfl) ?_
          refine lv_iconst (v := (1 : Int32)) hx hb (dk hX5_byWhom_0 23 rfl) (by decide) ?_
          refine lv_iload_n hx hb (dk hX5_byWhom_0 24 rfl) rfl (lv_at hl 2 rfl) ?_
          refine lv_ishl hx hb (dk hX5_byWhom_0 25 rfl) ?_
          obtain ⟨u_5, e_6, hf⟩ := Option.bind_eq_some_iff.mp hf
          refine Ct.V (As := [.int x1, .int ((1 : Int32) <<< (x2 &&& 31))]) (rest := []) (st1 := [.int u_5.2.2.2.2.2.2.2.2.2.2.2.2.2.2.2]) (w1 := (wM G ad refused u_5.1 u_5.2.1 u_5.2.2.1 u_5.2.2.2.1 u_5.2.2.2.2.1 u_5.2.2.2.2.2.1 u_5.2.2.2.2.2.2.1 u_5.2.2.2.2.2.2.2.1 tape letter letterAt told u_5.2.2.2.2.2.2.2.2.1 row costs u_5.2.2.2.2.2.2.2.2.2.1 u_5.2.2.2.2.2.2.2.2.2.2.1 u_5.2.2.2.2.2.2.2.2.2.2.2.1 u_5.2.2.2.2.2.2.2.2.2.2.2.2.1 taped reading statements hasImage u_5.2.2.2.2.2.2.2.2.2.2.2.2.2.1 u_5.2.2.2.2.2.2.2.2.2.2.2.2.2.2.1 backs free goodFor loadedWhen bareGood bareWhen rowMany lots)) C hs (c_X5_isInNext e_6) tw_1025 tw_1027 tw_56 tw_85 tw_1028 nq_X5_isInNext (by decide) 0 5 rfl rfl rfl rfl hl.1 rfl (Nat.le_of_ble_eq_true rfl) (dk hX5_byWhom_0 26 rfl) ⟨Nat.zero_le _, Nat.zero_le _⟩ rfl (fun H locs hs => ?_)
          refine lv_if_eq (tgt := 50) hx hb (dk hX5_byWhom_0 27 rfl) (by decide) (fun hc => ?_) (fun hc => ?_)
          · replace hf := ip hf hc
            refine lv_iinc (v := (x2 + (1 : Int32))) (lv' := [(2, .int (x2 + (1 : Int32))), (0, .ref (ad 0)), (1, .int x1)]) hx hb (dk hX5_byWhom_0 30 rfl) hl (k := 2) rfl (by first | rfl | decide) (by decide) rfl (fun ls hl => ?_)
            refine lv_goto (tgt := 16) hx hb (dk hX5_byWhom_0 31 rfl) (by decide) ?_
            exact ih _ _ _ _ _ _ _ _ _ _ _ _ _ _ _ _ hf _ _ hs _ (lv_sub hl [1, 2, 0] rfl) hk
          · replace hf := in_ hf hc
            refine lv_iload_n hx hb (dk hX5_byWhom_0 28 rfl) rfl (lv_at hl 2 rfl) ?_
            cases hf
            exact ri C hs (dk hX5_byWhom_0 29 rfl)
set_option maxRecDepth 100000 in
set_option maxHeartbeats 4000000 in
theorem c_X5_byWhom {l : Launch} {G : Gx} {ad : Nat → Nat} {refused there used hidden kind figure good load inn tape letter letterAt told kept row costs : List Int32} {ships coughs day away taped reading statements hasImage isKeeping cursor backs free goodFor loadedWhen bareGood bareWhen rowMany lots : Int32} {p0 : Int32} {out : List Int32 × List Int32 × List Int32 × List Int32 × List Int32 × List Int32 × List Int32 × List Int32 × List Int32 × List Int32 × Int32 × Int32 × Int32 × Int32 × Int32 × Int32 × Int32} (hf : X5_byWhom refused there used hidden kind figure good load inn kept ships coughs day away isKeeping cursor free p0 = some out) : Ct l G yX5_byWhom cX5_byWhom 3 (some .int) 9 198 [.ref (ad 0), .int p0] (wM G ad refused there used hidden kind figure good load inn tape letter letterAt told kept row costs ships coughs day away taped reading statements hasImage isKeeping cursor backs free goodFor loadedWhen bareGood bareWhen rowMany lots) (some (.int out.2.2.2.2.2.2.2.2.2.2.2.2.2.2.2.2)) (wM G ad out.1 out.2.1 out.2.2.1 out.2.2.2.1 out.2.2.2.2.1 out.2.2.2.2.2.1 out.2.2.2.2.2.2.1 out.2.2.2.2.2.2.2.1 out.2.2.2.2.2.2.2.2.1 tape letter letterAt told out.2.2.2.2.2.2.2.2.2.1 row costs out.2.2.2.2.2.2.2.2.2.2.1 out.2.2.2.2.2.2.2.2.2.2.2.1 out.2.2.2.2.2.2.2.2.2.2.2.2.1 out.2.2.2.2.2.2.2.2.2.2.2.2.2.1 taped reading statements hasImage out.2.2.2.2.2.2.2.2.2.2.2.2.2.2.1 out.2.2.2.2.2.2.2.2.2.2.2.2.2.2.2.1 backs free goodFor loadedWhen bareGood bareWhen rowMany lots) := by
  refine Ct.intro RX5 rfl (plainFor_of_name (by decide)) (Nat.le_of_ble_eq_true rfl) rfl ?_
  intro p e s m args below meth c A C H locs hs ls hl
  obtain ⟨hx, hb, hml, hown, hts, hK, hret, hlk⟩ := id C
  have hl : lv_has ls 3 [(0, .ref (ad 0)), (1, .int p0)] := hl
  unfold X5_byWhom at hf
  refine lv_aload_n hx hb (dk hX5_byWhom_0 0 rfl) rfl (lv_at hl 0 rfl) ?_
  refine lv_iload_n hx hb (dk hX5_byWhom_0 1 rfl) rfl (lv_at hl 1 rfl) ?_
  obtain ⟨u_1, e_2, hf⟩ := Option.bind_eq_some_iff.mp hf
  refine Ct.V (As := [.int p0]) (rest := []) (st1 := [.int u_1]) (w1 := (wM G ad refused there used hidden kind figure good load inn tape letter letterAt told kept row costs ships coughs day away taped reading statements hasImage isKeeping cursor backs free goodFor loadedWhen bareGood bareWhen rowMany lots)) C hs (c_X5_isShip e_2) tw_854 tw_856 tw_32 tw_85 tw_857 nq_X5_isShip (by decide) 0 5 rfl rfl rfl rfl hl.1 rfl (Nat.le_of_ble_eq_true rfl) (dk hX5_byWhom_0 2 rfl) ⟨Nat.zero_le _, Nat.zero_le _⟩ rfl (fun H locs hs => ?_)
  refine lv_if_ne (tgt := 14) hx hb (dk hX5_byWhom_0 3 rfl) (by decide) (fun hc => ?_) (fun hc => ?_)
  · replace hf := in_ hf hc
    refine lv_iconst (v := (0 : Int32)) hx hb (dk hX5_byWhom_0 8 rfl) (by decide) ?_
    refine lv_istore_n (lv' := [(2, .int (0 : Int32)), (0, .ref (ad 0)), (1, .int p0)]) hx hb (dk hX5_byWhom_0 9 rfl) rfl hl (by decide) rfl (fun ls hl => ?_)
    refine l_X5_byWhom_L16 C 1000 _ _ _ _ _ _ _ _ _ _ _ _ _ _ _ _ hf _ _ hs _ (lv_sub hl [1, 2, 0] rfl) (fun there_7 used_8 hidden_9 kind_10 figure_11 good_12 load_13 inn_14 kept_15 ships_16 coughs_17 day_18 away_19 isKeeping_20 cursor_21 hf H locs hs ls hl => ?_)
    refine lv_bipush (v := (-9 : Int32)) hx hb (dk hX5_byWhom_0 32 rfl) (by decide) ?_
    cases hf
    exact ri C hs (dk hX5_byWhom_0 33 rfl)
  · replace hf := ip hf hc
    refine lv_aload_n hx hb (dk hX5_byWhom_0 4 rfl) rfl (lv_at hl 0 rfl) ?_
    refine lv_iconst (v := (-1 : Int32)) hx hb (dk hX5_byWhom_0 5 rfl) (by decide) ?_
    obtain ⟨u_22, e_23, hf⟩ := Option.bind_eq_some_iff.mp hf
    refine Ct.V (As := [.int (-1 : Int32)]) (rest := []) (st1 := [.int u_22.2]) (w1 := (wM G ad u_22.1 there used hidden kind figure good load inn tape letter letterAt told kept row costs ships coughs day away taped reading statements hasImage isKeeping cursor backs free goodFor loadedWhen bareGood bareWhen rowMany lots)) C hs (c_X5_no e_23) tw_800 tw_802 tw_21 tw_85 tw_803 nq_X5_no (by decide) 0 5 rfl rfl rfl rfl hl.1 rfl (Nat.le_of_ble_eq_true rfl) (dk hX5_byWhom_0 6 rfl) ⟨Nat.zero_le _, Nat.zero_le _⟩ rfl (fun H locs hs => ?_)
    cases hf
    exact ri C hs (dk hX5_byWhom_0 7 rfl)

def X5_findLoaded_L21 (k : List Int32 → List Int32 → List Int32 → List Int32 → List Int32 → List Int32 → List Int32 → List Int32 → List Int32 → Int32 → Int32 → Int32 → Int32 → Int32 → Int32 → Int32 → Option (List Int32 × List Int32 × List Int32 × List Int32 × List Int32 × List Int32 × List Int32 × List Int32 × List Int32 × Int32 × Int32 × Int32 × Int32 × Int32 × Int32 × Int32)) (away : Int32) (free : Int32) (x1 : Int32) : Nat → Int32 → List Int32 → List Int32 → List Int32 → List Int32 → List Int32 → List Int32 → List Int32 → List Int32 → List Int32 → Int32 → Int32 → Int32 → Int32 → Int32 → Int32 → Int32 → Option (List Int32 × List Int32 × List Int32 × List Int32 × List Int32 × List Int32 × List Int32 × List Int32 × List Int32 × Int32 × Int32 × Int32 × Int32 × Int32 × Int32 × Int32)
  | 0, _, _, _, _, _, _, _, _, _, _, _, _, _, _, _, _, _ => none
  | n + 1, x3, there, used, hidden, kind, figure, good, load, inn, kept, ships, coughs, day, isKeeping, cursor, goodFor, loadedWhen =>
  if (6 : Int32) ≤ x3 then
  k there used hidden kind figure good load inn kept ships coughs day isKeeping cursor goodFor loadedWhen
  else
  (wr good x1 x3).bind fun good_3 =>
  (X5_comesIn there used hidden kind figure good_3 load inn kept ships coughs day away isKeeping cursor free x1 (60 : Int32)).bind fun u_5 =>
  if u_5.2.2.2.2.2.2.2.2.2.2.2.2.2.2 < (0 : Int32) then
  X5_findLoaded_L21 k away free x1 n (x3 + (1 : Int32)) u_5.1 u_5.2.1 u_5.2.2.1 u_5.2.2.2.1 u_5.2.2.2.2.1 u_5.2.2.2.2.2.1 u_5.2.2.2.2.2.2.1 u_5.2.2.2.2.2.2.2.1 u_5.2.2.2.2.2.2.2.2.1 u_5.2.2.2.2.2.2.2.2.2.1 u_5.2.2.2.2.2.2.2.2.2.2.1 u_5.2.2.2.2.2.2.2.2.2.2.2.1 u_5.2.2.2.2.2.2.2.2.2.2.2.2.1 u_5.2.2.2.2.2.2.2.2.2.2.2.2.2.1 goodFor loadedWhen
  else
  if goodFor < (0 : Int32) then
  X5_findLoaded_L21 k away free x1 n (x3 + (1 : Int32)) u_5.1 u_5.2.1 u_5.2.2.1 u_5.2.2.2.1 u_5.2.2.2.2.1 u_5.2.2.2.2.2.1 u_5.2.2.2.2.2.2.1 u_5.2.2.2.2.2.2.2.1 u_5.2.2.2.2.2.2.2.2.1 u_5.2.2.2.2.2.2.2.2.2.1 u_5.2.2.2.2.2.2.2.2.2.2.1 u_5.2.2.2.2.2.2.2.2.2.2.2.1 u_5.2.2.2.2.2.2.2.2.2.2.2.2.1 u_5.2.2.2.2.2.2.2.2.2.2.2.2.2.1 x3 u_5.2.2.2.2.2.2.2.2.2.2.2.2.2.2
  else
  if u_5.2.2.2.2.2.2.2.2.2.2.2.2.2.2 < loadedWhen then
  X5_findLoaded_L21 k away free x1 n (x3 + (1 : Int32)) u_5.1 u_5.2.1 u_5.2.2.1 u_5.2.2.2.1 u_5.2.2.2.2.1 u_5.2.2.2.2.2.1 u_5.2.2.2.2.2.2.1 u_5.2.2.2.2.2.2.2.1 u_5.2.2.2.2.2.2.2.2.1 u_5.2.2.2.2.2.2.2.2.2.1 u_5.2.2.2.2.2.2.2.2.2.2.1 u_5.2.2.2.2.2.2.2.2.2.2.2.1 u_5.2.2.2.2.2.2.2.2.2.2.2.2.1 u_5.2.2.2.2.2.2.2.2.2.2.2.2.2.1 x3 u_5.2.2.2.2.2.2.2.2.2.2.2.2.2.2
  else
  X5_findLoaded_L21 k away free x1 n (x3 + (1 : Int32)) u_5.1 u_5.2.1 u_5.2.2.1 u_5.2.2.2.1 u_5.2.2.2.2.1 u_5.2.2.2.2.2.1 u_5.2.2.2.2.2.2.1 u_5.2.2.2.2.2.2.2.1 u_5.2.2.2.2.2.2.2.2.1 u_5.2.2.2.2.2.2.2.2.2.1 u_5.2.2.2.2.2.2.2.2.2.2.1 u_5.2.2.2.2.2.2.2.2.2.2.2.1 u_5.2.2.2.2.2.2.2.2.2.2.2.2.1 u_5.2.2.2.2.2.2.2.2.2.2.2.2.2.1 goodFor loadedWhen
def X5_findLoaded (there : List Int32) (used : List Int32) (hidden : List Int32) (kind : List Int32) (figure : List Int32) (good : List Int32) (load : List Int32) (inn : List Int32) (kept : List Int32) (ships : Int32) (coughs : Int32) (day : Int32) (away : Int32) (isKeeping : Int32) (cursor : Int32) (free : Int32) (goodFor : Int32) (loadedWhen : Int32) (p0 : Int32) : Option (List Int32 × List Int32 × List Int32 × List Int32 × List Int32 × List Int32 × List Int32 × List Int32 × List Int32 × Int32 × Int32 × Int32 × Int32 × Int32 × Int32 × Int32) :=
  (rd good p0).bind fun v_1 =>
  X5_findLoaded_L21 (fun there_7 used_8 hidden_9 kind_10 figure_11 good_12 load_13 inn_14 kept_15 ships_16 coughs_17 day_18 isKeeping_19 cursor_20 goodFor_21 loadedWhen_22 =>
  (wr good_12 p0 v_1).bind fun good_23 =>
  some (there_7, used_8, hidden_9, kind_10, figure_11, good_23, load_13, inn_14, kept_15, ships_16, coughs_17, day_18, isKeeping_19, cursor_20, goodFor_21, loadedWhen_22)) away free p0 1000 (0 : Int32) there used hidden kind figure good load inn kept ships coughs day isKeeping cursor (-9 : Int32) (-9 : Int32)
set_option maxRecDepth 100000 in
set_option maxHeartbeats 4000000 in
theorem l_X5_findLoaded_L21 {l : Launch} {p : Program} {e : Env} {s : State} {m : MethodId} {args : Array Value} {below : List Frame} {meth : Method} {c : Code} {A : Nat → Prop} {G : Gx} {ad : Nat → Nat} {refused tape letter letterAt told row costs : List Int32} {away taped reading statements hasImage backs free bareGood bareWhen rowMany lots : Int32} {x1 : Int32} {x2 : Int32} {k : List Int32 → List Int32 → List Int32 → List Int32 → List Int32 → List Int32 → List Int32 → List Int32 → List Int32 → Int32 → Int32 → Int32 → Int32 → Int32 → Int32 → Int32 → Option (List Int32 × List Int32 × List Int32 × List Int32 × List Int32 × List Int32 × List Int32 × List Int32 × List Int32 × Int32 × Int32 × Int32 × Int32 × Int32 × Int32 × Int32)} {out : List Int32 × List Int32 × List Int32 × List Int32 × List Int32 × List Int32 × List Int32 × List Int32 × List Int32 × Int32 × Int32 × Int32 × Int32 × Int32 × Int32 × Int32} (C : Cx p s m args meth c cX5_findLoaded RX5 5 (none) G) : ∀ (n : Nat) (x3 : Int32) (there : List Int32) (used : List Int32) (hidden : List Int32) (kind : List Int32) (figure : List Int32) (good : List Int32) (load : List Int32) (inn : List Int32) (kept : List Int32) (ships : Int32) (coughs : Int32) (day : Int32) (isKeeping : Int32) (cursor : Int32) (goodFor : Int32) (loadedWhen : Int32), X5_findLoaded_L21 k away free x1 n x3 there used hidden kind figure good load inn kept ships coughs day isKeeping cursor goodFor loadedWhen = some out → ∀ (H : Heap) (locs : List Loc), St G A s.heap H locs (wM G ad refused there used hidden kind figure good load inn tape letter letterAt told kept row costs ships coughs day away taped reading statements hasImage isKeeping cursor backs free goodFor loadedWhen bareGood bareWhen rowMany lots) → ∀ ls : Array Slot, lv_has ls 5 [(0, .ref (ad 0)), (1, .int x1), (2, .int x2), (3, .int x3)] → (∀ (z_there : List Int32) (z_used : List Int32) (z_hidden : List Int32) (z_kind : List Int32) (z_figure : List Int32) (z_good : List Int32) (z_load : List Int32) (z_inn : List Int32) (z_kept : List Int32) (z_ships : Int32) (z_coughs : Int32) (z_day : Int32) (z_isKeeping : Int32) (z_cursor : Int32) (z_goodFor : Int32) (z_loadedWhen : Int32), k z_there z_used z_hidden z_kind z_figure z_good z_load z_inn z_kept z_ships z_coughs z_day z_isKeeping z_cursor z_goodFor z_loadedWhen = some out → ∀ (H : Heap) (locs : List Loc), St G A s.heap H locs (wM G ad refused z_there z_used z_hidden z_kind z_figure z_good z_load z_inn tape letter letterAt told z_kept row costs z_ships z_coughs z_day away taped reading statements hasImage z_isKeeping z_cursor backs free z_goodFor z_loadedWhen bareGood bareWhen rowMany lots) → ∀ ls : Array Slot, lv_has ls 5 [(0, .ref (ad 0)), (1, .int x1), (2, .int x2)] → W p l e (rmOf 7 153) s m args below meth c H locs 0 0 (MQ below (Qof G A (none) (wM G ad refused out.1 out.2.1 out.2.2.1 out.2.2.2.1 out.2.2.2.2.1 out.2.2.2.2.2.1 out.2.2.2.2.2.2.1 out.2.2.2.2.2.2.2.1 tape letter letterAt told out.2.2.2.2.2.2.2.2.1 row costs out.2.2.2.2.2.2.2.2.2.1 out.2.2.2.2.2.2.2.2.2.2.1 out.2.2.2.2.2.2.2.2.2.2.2.1 away taped reading statements hasImage out.2.2.2.2.2.2.2.2.2.2.2.2.1 out.2.2.2.2.2.2.2.2.2.2.2.2.2.1 backs free out.2.2.2.2.2.2.2.2.2.2.2.2.2.2.1 out.2.2.2.2.2.2.2.2.2.2.2.2.2.2.2 bareGood bareWhen rowMany lots)) args s 0 0 A) (F0 m 84 ls [])) → W p l e (rmOf 7 153) s m args below meth c H locs 0 0 (MQ below (Qof G A (none) (wM G ad refused out.1 out.2.1 out.2.2.1 out.2.2.2.1 out.2.2.2.2.1 out.2.2.2.2.2.1 out.2.2.2.2.2.2.1 out.2.2.2.2.2.2.2.1 tape letter letterAt told out.2.2.2.2.2.2.2.2.1 row costs out.2.2.2.2.2.2.2.2.2.1 out.2.2.2.2.2.2.2.2.2.2.1 out.2.2.2.2.2.2.2.2.2.2.2.1 away taped reading statements hasImage out.2.2.2.2.2.2.2.2.2.2.2.2.1 out.2.2.2.2.2.2.2.2.2.2.2.2.2.1 backs free out.2.2.2.2.2.2.2.2.2.2.2.2.2.2.1 out.2.2.2.2.2.2.2.2.2.2.2.2.2.2.2 bareGood bareWhen rowMany lots)) args s 0 0 A) (F0 m 21 ls []) := by
  obtain ⟨hx, hb, hml, hown, hts, hK, hret, hlk⟩ := id C
  intro n
  induction n with
  | zero => intro x3 there used hidden kind figure good load inn kept ships coughs day isKeeping cursor goodFor loadedWhen hf; cases hf
  | succ n ih =>
    intro x3 there used hidden kind figure good load inn kept ships coughs day isKeeping cursor goodFor loadedWhen hf H locs hs ls hl hk
    rw [X5_findLoaded_L21] at hf
    refine lv_iload_n hx hb (dk hX5_findLoaded_0 13 rfl) rfl (lv_at hl 3 rfl) ?_
    refine lv_bipush (v := (6 : Int32)) hx hb (dk hX5_findLoaded_0 14 rfl) (by decide) ?_
    refine lv_icmp_ge (tgt := 84) hx hb (dk hX5_findLoaded_0 15 rfl) (by decide) (fun hc => ?_) (fun hc => ?_)
    · replace hf := ip hf hc
      exact hk _ _ _ _ _ _ _ _ _ _ _ _ _ _ _ _ hf _ _ hs _ (lv_sub hl [0, 1, 2] rfl)
    · replace hf := in_ hf hc
      refine lv_aload_n hx hb (dk hX5_findLoaded_0 16 rfl) rfl (lv_at hl 0 rfl) ?_
      refine rg ui5 rfl C hs 0 rfl 6 (by decide) tw_696 rfl rfl (dk hX5_findLoaded_0 17 rfl) ?_
      refine lv_iload_n hx hb (dk hX5_findLoaded_0 18 rfl) rfl (lv_at hl 1 rfl) ?_
      refine lv_iload_n hx hb (dk hX5_findLoaded_0 19 rfl) rfl (lv_at hl 3 rfl) ?_
      obtain ⟨good_3, e_4, hf⟩ := Option.bind_eq_some_iff.mp hf
      refine rist (w1 := (wM G ad refused there used hidden kind figure good_3 load inn tape letter letterAt told kept row costs ships coughs day away taped reading statements hasImage isKeeping cursor backs free goodFor loadedWhen bareGood bareWhen rowMany lots)) C hs 7 rfl e_4 rfl (dk hX5_findLoaded_0 20 rfl) (fun H locs hs => ?_)
      refine lv_aload_n hx hb (dk hX5_findLoaded_0 21 rfl) rfl (lv_at hl 0 rfl) ?_
      refine lv_iload_n hx hb (dk hX5_findLoaded_0 22 rfl) rfl (lv_at hl 1 rfl) ?_
      refine lv_bipush (v := (60 : Int32)) hx hb (dk hX5_findLoaded_0 23 rfl) (by decide) ?_
      obtain ⟨u_5, e_6, hf⟩ := Option.bind_eq_some_iff.mp hf
      refine Ct.V (As := [.int x1, .int (60 : Int32)]) (rest := []) (st1 := [.int u_5.2.2.2.2.2.2.2.2.2.2.2.2.2.2]) (w1 := (wM G ad refused u_5.1 u_5.2.1 u_5.2.2.1 u_5.2.2.2.1 u_5.2.2.2.2.1 u_5.2.2.2.2.2.1 u_5.2.2.2.2.2.2.1 u_5.2.2.2.2.2.2.2.1 tape letter letterAt told u_5.2.2.2.2.2.2.2.2.1 row costs u_5.2.2.2.2.2.2.2.2.2.1 u_5.2.2.2.2.2.2.2.2.2.2.1 u_5.2.2.2.2.2.2.2.2.2.2.2.1 away taped reading statements hasImage u_5.2.2.2.2.2.2.2.2.2.2.2.2.1 u_5.2.2.2.2.2.2.2.2.2.2.2.2.2.1 backs free goodFor loadedWhen bareGood bareWhen rowMany lots)) C hs (c_X5_comesIn e_6) tw_1013 tw_1015 tw_54 tw_85 tw_1016 nq_X5_comesIn (by decide) 0 5 rfl rfl rfl rfl hl.1 rfl (Nat.le_of_ble_eq_true rfl) (dk hX5_findLoaded_0 24 rfl) ⟨Nat.zero_le _, Nat.zero_le _⟩ rfl (fun H locs hs => ?_)
      refine lv_istore (lv' := [(4, .int u_5.2.2.2.2.2.2.2.2.2.2.2.2.2.2), (0, .ref (ad 0)), (1, .int x1), (2, .int x2), (3, .int x3)]) hx hb (dk hX5_findLoaded_0 25 rfl) hl (by decide) rfl (fun ls hl => ?_)
      refine lv_iload hx hb (dk hX5_findLoaded_0 26 rfl) (lv_at hl 0 rfl) ?_
      refine lv_if_lt (tgt := 78) hx hb (dk hX5_findLoaded_0 27 rfl) (by decide) (fun hc => ?_) (fun hc => ?_)
      · replace hf := ip hf hc
        refine lv_iinc (v := (x3 + (1 : Int32))) (lv' := [(3, .int (x3 + (1 : Int32))), (4, .int u_5.2.2.2.2.2.2.2.2.2.2.2.2.2.2), (0, .ref (ad 0)), (1, .int x1), (2, .int x2)]) hx hb (dk hX5_findLoaded_1 2 rfl) hl (k := 4) rfl (by first | rfl | decide) (by decide) rfl (fun ls hl => ?_)
        refine lv_goto (tgt := 21) hx hb (dk hX5_findLoaded_1 3 rfl) (by decide) ?_
        exact ih _ _ _ _ _ _ _ _ _ _ _ _ _ _ _ _ _ hf _ _ hs _ (lv_sub hl [2, 3, 4, 0] rfl) hk
      · replace hf := in_ hf hc
        refine lv_aload_n hx hb (dk hX5_findLoaded_0 28 rfl) rfl (lv_at hl 1 rfl) ?_
        refine rg ui5 rfl C hs 0 rfl 26 (by decide) tw_716 rfl rfl (dk hX5_findLoaded_0 29 rfl) ?_
        refine lv_if_lt (tgt := 67) hx hb (dk hX5_findLoaded_0 30 rfl) (by decide) (fun hc => ?_) (fun hc => ?_)
        · replace hf := ip hf hc
          refine lv_aload_n hx hb (dk hX5_findLoaded_0 36 rfl) rfl (lv_at hl 1 rfl) ?_
          refine lv_iload_n hx hb (dk hX5_findLoaded_0 37 rfl) rfl (lv_at hl 4 rfl) ?_
          refine rp (w1 := (wM G ad refused u_5.1 u_5.2.1 u_5.2.2.1 u_5.2.2.2.1 u_5.2.2.2.2.1 u_5.2.2.2.2.2.1 u_5.2.2.2.2.2.2.1 u_5.2.2.2.2.2.2.2.1 tape letter letterAt told u_5.2.2.2.2.2.2.2.2.1 row costs u_5.2.2.2.2.2.2.2.2.2.1 u_5.2.2.2.2.2.2.2.2.2.2.1 u_5.2.2.2.2.2.2.2.2.2.2.2.1 away taped reading statements hasImage u_5.2.2.2.2.2.2.2.2.2.2.2.2.1 u_5.2.2.2.2.2.2.2.2.2.2.2.2.2.1 backs free x3 loadedWhen bareGood bareWhen rowMany lots)) tyX5 tyX5_ok nmX5 ui5 rfl C hs 0 rfl 26 (by decide) tw_716 rfl rfl rfl rfl (Nat.le_of_ble_eq_true rfl) rfl (dk hX5_findLoaded_0 38 rfl) (fun H locs hs => ?_)
          refine lv_aload_n hx hb (dk hX5_findLoaded_0 39 rfl) rfl (lv_at hl 1 rfl) ?_
          refine lv_iload hx hb (dk hX5_findLoaded_1 0 rfl) (lv_at hl 0 rfl) ?_
          refine rp (w1 := (wM G ad refused u_5.1 u_5.2.1 u_5.2.2.1 u_5.2.2.2.1 u_5.2.2.2.2.1 u_5.2.2.2.2.2.1 u_5.2.2.2.2.2.2.1 u_5.2.2.2.2.2.2.2.1 tape letter letterAt told u_5.2.2.2.2.2.2.2.2.1 row costs u_5.2.2.2.2.2.2.2.2.2.1 u_5.2.2.2.2.2.2.2.2.2.2.1 u_5.2.2.2.2.2.2.2.2.2.2.2.1 away taped reading statements hasImage u_5.2.2.2.2.2.2.2.2.2.2.2.2.1 u_5.2.2.2.2.2.2.2.2.2.2.2.2.2.1 backs free x3 u_5.2.2.2.2.2.2.2.2.2.2.2.2.2.2 bareGood bareWhen rowMany lots)) tyX5 tyX5_ok nmX5 ui5 rfl C hs 0 rfl 27 (by decide) tw_717 rfl rfl rfl rfl (Nat.le_of_ble_eq_true rfl) rfl (dk hX5_findLoaded_1 1 rfl) (fun H locs hs => ?_)
          refine lv_iinc (v := (x3 + (1 : Int32))) (lv' := [(3, .int (x3 + (1 : Int32))), (4, .int u_5.2.2.2.2.2.2.2.2.2.2.2.2.2.2), (0, .ref (ad 0)), (1, .int x1), (2, .int x2)]) hx hb (dk hX5_findLoaded_1 2 rfl) hl (k := 4) rfl (by first | rfl | decide) (by decide) rfl (fun ls hl => ?_)
          refine lv_goto (tgt := 21) hx hb (dk hX5_findLoaded_1 3 rfl) (by decide) ?_
          exact ih _ _ _ _ _ _ _ _ _ _ _ _ _ _ _ _ _ hf _ _ hs _ (lv_sub hl [2, 3, 4, 0] rfl) hk
        · replace hf := in_ hf hc
          refine lv_iload hx hb (dk hX5_findLoaded_0 31 rfl) (lv_at hl 0 rfl) ?_
          refine lv_aload_n hx hb (dk hX5_findLoaded_0 32 rfl) rfl (lv_at hl 1 rfl) ?_
          refine rg ui5 rfl C hs 0 rfl 27 (by decide) tw_717 rfl rfl (dk hX5_findLoaded_0 33 rfl) ?_
          refine lv_icmp_lt (tgt := 67) hx hb (dk hX5_findLoaded_0 34 rfl) (by decide) (fun hc => ?_) (fun hc => ?_)
          · replace hf := ip hf hc
            refine lv_aload_n hx hb (dk hX5_findLoaded_0 36 rfl) rfl (lv_at hl 1 rfl) ?_
            refine lv_iload_n hx hb (dk hX5_findLoaded_0 37 rfl) rfl (lv_at hl 4 rfl) ?_
            refine rp (w1 := (wM G ad refused u_5.1 u_5.2.1 u_5.2.2.1 u_5.2.2.2.1 u_5.2.2.2.2.1 u_5.2.2.2.2.2.1 u_5.2.2.2.2.2.2.1 u_5.2.2.2.2.2.2.2.1 tape letter letterAt told u_5.2.2.2.2.2.2.2.2.1 row costs u_5.2.2.2.2.2.2.2.2.2.1 u_5.2.2.2.2.2.2.2.2.2.2.1 u_5.2.2.2.2.2.2.2.2.2.2.2.1 away taped reading statements hasImage u_5.2.2.2.2.2.2.2.2.2.2.2.2.1 u_5.2.2.2.2.2.2.2.2.2.2.2.2.2.1 backs free x3 loadedWhen bareGood bareWhen rowMany lots)) tyX5 tyX5_ok nmX5 ui5 rfl C hs 0 rfl 26 (by decide) tw_716 rfl rfl rfl rfl (Nat.le_of_ble_eq_true rfl) rfl (dk hX5_findLoaded_0 38 rfl) (fun H locs hs => ?_)
            refine lv_aload_n hx hb (dk hX5_findLoaded_0 39 rfl) rfl (lv_at hl 1 rfl) ?_
            refine lv_iload hx hb (dk hX5_findLoaded_1 0 rfl) (lv_at hl 0 rfl) ?_
            refine rp (w1 := (wM G ad refused u_5.1 u_5.2.1 u_5.2.2.1 u_5.2.2.2.1 u_5.2.2.2.2.1 u_5.2.2.2.2.2.1 u_5.2.2.2.2.2.2.1 u_5.2.2.2.2.2.2.2.1 tape letter letterAt told u_5.2.2.2.2.2.2.2.2.1 row costs u_5.2.2.2.2.2.2.2.2.2.1 u_5.2.2.2.2.2.2.2.2.2.2.1 u_5.2.2.2.2.2.2.2.2.2.2.2.1 away taped reading statements hasImage u_5.2.2.2.2.2.2.2.2.2.2.2.2.1 u_5.2.2.2.2.2.2.2.2.2.2.2.2.2.1 backs free x3 u_5.2.2.2.2.2.2.2.2.2.2.2.2.2.2 bareGood bareWhen rowMany lots)) tyX5 tyX5_ok nmX5 ui5 rfl C hs 0 rfl 27 (by decide) tw_717 rfl rfl rfl rfl (Nat.le_of_ble_eq_true rfl) rfl (dk hX5_findLoaded_1 1 rfl) (fun H locs hs => ?_)
            refine lv_iinc (v := (x3 + (1 : Int32))) (lv' := [(3, .int (x3 + (1 : Int32))), (4, .int u_5.2.2.2.2.2.2.2.2.2.2.2.2.2.2), (0, .ref (ad 0)), (1, .int x1), (2, .int x2)]) hx hb (dk hX5_findLoaded_1 2 rfl) hl (k := 4) rfl (by first | rfl | decide) (by decide) rfl (fun ls hl => ?_)
            refine lv_goto (tgt := 21) hx hb (dk hX5_findLoaded_1 3 rfl) (by decide) ?_
            exact ih _ _ _ _ _ _ _ _ _ _ _ _ _ _ _ _ _ hf _ _ hs _ (lv_sub hl [2, 3, 4, 0] rfl) hk
          · replace hf := in_ hf hc
            refine lv_goto (tgt := 78) hx hb (dk hX5_findLoaded_0 35 rfl) (by decide) ?_
            refine lv_iinc (v := (x3 + (1 : Int32))) (lv' := [(3, .int (x3 + (1 : Int32))), (4, .int u_5.2.2.2.2.2.2.2.2.2.2.2.2.2.2), (0, .ref (ad 0)), (1, .int x1), (2, .int x2)]) hx hb (dk hX5_findLoaded_1 2 rfl) hl (k := 4) rfl (by first | rfl | decide) (by decide) rfl (fun ls hl => ?_)
            refine lv_goto (tgt := 21) hx hb (dk hX5_findLoaded_1 3 rfl) (by decide) ?_
            exact ih _ _ _ _ _ _ _ _ _ _ _ _ _ _ _ _ _ hf _ _ hs _ (lv_sub hl [2, 3, 4, 0] rfl) hk
set_option maxRecDepth 100000 in
set_option maxHeartbeats 4000000 in
theorem c_X5_findLoaded {l : Launch} {G : Gx} {ad : Nat → Nat} {refused there used hidden kind figure good load inn tape letter letterAt told kept row costs : List Int32} {ships coughs day away taped reading statements hasImage isKeeping cursor backs free goodFor loadedWhen bareGood bareWhen rowMany lots : Int32} {p0 : Int32} {out : List Int32 × List Int32 × List Int32 × List Int32 × List Int32 × List Int32 × List Int32 × List Int32 × List Int32 × Int32 × Int32 × Int32 × Int32 × Int32 × Int32 × Int32} (hf : X5_findLoaded there used hidden kind figure good load inn kept ships coughs day away isKeeping cursor free goodFor loadedWhen p0 = some out) : Ct l G yX5_findLoaded cX5_findLoaded 5 (none) 7 153 [.ref (ad 0), .int p0] (wM G ad refused there used hidden kind figure good load inn tape letter letterAt told kept row costs ships coughs day away taped reading statements hasImage isKeeping cursor backs free goodFor loadedWhen bareGood bareWhen rowMany lots) (none) (wM G ad refused out.1 out.2.1 out.2.2.1 out.2.2.2.1 out.2.2.2.2.1 out.2.2.2.2.2.1 out.2.2.2.2.2.2.1 out.2.2.2.2.2.2.2.1 tape letter letterAt told out.2.2.2.2.2.2.2.2.1 row costs out.2.2.2.2.2.2.2.2.2.1 out.2.2.2.2.2.2.2.2.2.2.1 out.2.2.2.2.2.2.2.2.2.2.2.1 away taped reading statements hasImage out.2.2.2.2.2.2.2.2.2.2.2.2.1 out.2.2.2.2.2.2.2.2.2.2.2.2.2.1 backs free out.2.2.2.2.2.2.2.2.2.2.2.2.2.2.1 out.2.2.2.2.2.2.2.2.2.2.2.2.2.2.2 bareGood bareWhen rowMany lots) := by
  refine Ct.intro RX5 rfl (plainFor_of_name (by decide)) (Nat.le_of_ble_eq_true rfl) rfl ?_
  intro p e s m args below meth c A C H locs hs ls hl
  obtain ⟨hx, hb, hml, hown, hts, hK, hret, hlk⟩ := id C
  have hl : lv_has ls 5 [(0, .ref (ad 0)), (1, .int p0)] := hl
  unfold X5_findLoaded at hf
  refine lv_aload_n hx hb (dk hX5_findLoaded_0 0 rfl) rfl (lv_at hl 0 rfl) ?_
  refine rg ui5 rfl C hs 0 rfl 6 (by decide) tw_696 rfl rfl (dk hX5_findLoaded_0 1 rfl) ?_
  refine lv_iload_n hx hb (dk hX5_findLoaded_0 2 rfl) rfl (lv_at hl 1 rfl) ?_
  obtain ⟨v_1, e_2, hf⟩ := Option.bind_eq_some_iff.mp hf
  refine rild C hs 7 rfl e_2 (dk hX5_findLoaded_0 3 rfl) ?_
  refine lv_istore_n (lv' := [(2, .int v_1), (0, .ref (ad 0)), (1, .int p0)]) hx hb (dk hX5_findLoaded_0 4 rfl) rfl hl (by decide) rfl (fun ls hl => ?_)
  refine lv_aload_n hx hb (dk hX5_findLoaded_0 5 rfl) rfl (lv_at hl 1 rfl) ?_
  refine lv_bipush (v := (-9 : Int32)) hx hb (dk hX5_findLoaded_0 6 rfl) (by decide) ?_
  refine rp (w1 := (wM G ad refused there used hidden kind figure good load inn tape letter letterAt told kept row costs ships coughs day away taped reading statements hasImage isKeeping cursor backs free (-9 : Int32) loadedWhen bareGood bareWhen rowMany lots)) tyX5 tyX5_ok nmX5 ui5 rfl C hs 0 rfl 26 (by decide) tw_716 rfl rfl rfl rfl (Nat.le_of_ble_eq_true rfl) rfl (dk hX5_findLoaded_0 7 rfl) (fun H locs hs => ?_)
  refine lv_aload_n hx hb (dk hX5_findLoaded_0 8 rfl) rfl (lv_at hl 1 rfl) ?_
  refine lv_bipush (v := (-9 : Int32)) hx hb (dk hX5_findLoaded_0 9 rfl) (by decide) ?_
  refine rp (w1 := (wM G ad refused there used hidden kind figure good load inn tape letter letterAt told kept row costs ships coughs day away taped reading statements hasImage isKeeping cursor backs free (-9 : Int32) (-9 : Int32) bareGood bareWhen rowMany lots)) tyX5 tyX5_ok nmX5 ui5 rfl C hs 0 rfl 27 (by decide) tw_717 rfl rfl rfl rfl (Nat.le_of_ble_eq_true rfl) rfl (dk hX5_findLoaded_0 10 rfl) (fun H locs hs => ?_)
  refine lv_iconst (v := (0 : Int32)) hx hb (dk hX5_findLoaded_0 11 rfl) (by decide) ?_
  refine lv_istore_n (lv' := [(3, .int (0 : Int32)), (2, .int v_1), (0, .ref (ad 0)), (1, .int p0)]) hx hb (dk hX5_findLoaded_0 12 rfl) rfl hl (by decide) rfl (fun ls hl => ?_)
  refine l_X5_findLoaded_L21 C 1000 _ _ _ _ _ _ _ _ _ _ _ _ _ _ _ _ _ hf _ _ hs _ (lv_sub hl [2, 3, 1, 0] rfl) (fun there_7 used_8 hidden_9 kind_10 figure_11 good_12 load_13 inn_14 kept_15 ships_16 coughs_17 day_18 isKeeping_19 cursor_20 goodFor_21 loadedWhen_22 hf H locs hs ls hl => ?_)
  refine lv_aload_n hx hb (dk hX5_findLoaded_1 4 rfl) rfl (lv_at hl 0 rfl) ?_
  refine rg ui5 rfl C hs 0 rfl 6 (by decide) tw_696 rfl rfl (dk hX5_findLoaded_1 5 rfl) ?_
  refine lv_iload_n hx hb (dk hX5_findLoaded_1 6 rfl) rfl (lv_at hl 1 rfl) ?_
  refine lv_iload_n hx hb (dk hX5_findLoaded_1 7 rfl) rfl (lv_at hl 2 rfl) ?_
  obtain ⟨good_23, e_24, hf⟩ := Option.bind_eq_some_iff.mp hf
  refine rist (w1 := (wM G ad refused there_7 used_8 hidden_9 kind_10 figure_11 good_23 load_13 inn_14 tape letter letterAt told kept_15 row costs ships_16 coughs_17 day_18 away taped reading statements hasImage isKeeping_19 cursor_20 backs free goodFor_21 loadedWhen_22 bareGood bareWhen rowMany lots)) C hs 7 rfl e_24 rfl (dk hX5_findLoaded_1 8 rfl) (fun H locs hs => ?_)
  cases hf
  exact rv C hs (dk hX5_findLoaded_1 9 rfl)

def X5_loaded (refused : List Int32) (there : List Int32) (used : List Int32) (hidden : List Int32) (kind : List Int32) (figure : List Int32) (good : List Int32) (load : List Int32) (inn : List Int32) (kept : List Int32) (ships : Int32) (coughs : Int32) (day : Int32) (away : Int32) (isKeeping : Int32) (cursor : Int32) (free : Int32) (goodFor : Int32) (loadedWhen : Int32) (p0 : Int32) (p1 : Int32) : Option (List Int32 × List Int32 × List Int32 × List Int32 × List Int32 × List Int32 × List Int32 × List Int32 × List Int32 × List Int32 × Int32 × Int32 × Int32 × Int32 × Int32 × Int32 × Int32 × Int32) :=
  (X5_isShip ships p0).bind fun u_1 =>
  if u_1 = (0 : Int32) then
  (X5_no refused (-1 : Int32)).bind fun u_13 =>
  some (u_13.1, there, used, hidden, kind, figure, good, load, inn, kept, ships, coughs, day, isKeeping, cursor, goodFor, loadedWhen, u_13.2)
  else
  (X5_isIn p1 (0 : Int32) (1 : Int32)).bind fun u_3 =>
  if u_3 = (0 : Int32) then
  (X5_no refused (-2 : Int32)).bind fun u_11 =>
  some (u_11.1, there, used, hidden, kind, figure, good, load, inn, kept, ships, coughs, day, isKeeping, cursor, goodFor, loadedWhen, u_11.2)
  else
  (rd inn p0).bind fun v_5 =>
  if v_5 = (1 : Int32) then
  (X5_no refused (-3 : Int32)).bind fun u_9 =>
  some (u_9.1, there, used, hidden, kind, figure, good, load, inn, kept, ships, coughs, day, isKeeping, cursor, goodFor, loadedWhen, u_9.2)
  else
  (X5_findLoaded there used hidden kind figure good load inn kept ships coughs day away isKeeping cursor free goodFor loadedWhen p0).bind fun u_7 =>
  if p1 = (0 : Int32) then
  some (refused, u_7.1, u_7.2.1, u_7.2.2.1, u_7.2.2.2.1, u_7.2.2.2.2.1, u_7.2.2.2.2.2.1, u_7.2.2.2.2.2.2.1, u_7.2.2.2.2.2.2.2.1, u_7.2.2.2.2.2.2.2.2.1, u_7.2.2.2.2.2.2.2.2.2.1, u_7.2.2.2.2.2.2.2.2.2.2.1, u_7.2.2.2.2.2.2.2.2.2.2.2.1, u_7.2.2.2.2.2.2.2.2.2.2.2.2.1, u_7.2.2.2.2.2.2.2.2.2.2.2.2.2.1, u_7.2.2.2.2.2.2.2.2.2.2.2.2.2.2.1, u_7.2.2.2.2.2.2.2.2.2.2.2.2.2.2.2, u_7.2.2.2.2.2.2.2.2.2.2.2.2.2.2.1)
  else
  some (refused, u_7.1, u_7.2.1, u_7.2.2.1, u_7.2.2.2.1, u_7.2.2.2.2.1, u_7.2.2.2.2.2.1, u_7.2.2.2.2.2.2.1, u_7.2.2.2.2.2.2.2.1, u_7.2.2.2.2.2.2.2.2.1, u_7.2.2.2.2.2.2.2.2.2.1, u_7.2.2.2.2.2.2.2.2.2.2.1, u_7.2.2.2.2.2.2.2.2.2.2.2.1, u_7.2.2.2.2.2.2.2.2.2.2.2.2.1, u_7.2.2.2.2.2.2.2.2.2.2.2.2.2.1, u_7.2.2.2.2.2.2.2.2.2.2.2.2.2.2.1, u_7.2.2.2.2.2.2.2.2.2.2.2.2.2.2.2, u_7.2.2.2.2.2.2.2.2.2.2.2.2.2.2.2)
set_option maxRecDepth 100000 in
set_option maxHeartbeats 4000000 in
theorem c_X5_loaded {l : Launch} {G : Gx} {ad : Nat → Nat} {refused there used hidden kind figure good load inn tape letter letterAt told kept row costs : List Int32} {ships coughs day away taped reading statements hasImage isKeeping cursor backs free goodFor loadedWhen bareGood bareWhen rowMany lots : Int32} {p0 : Int32} {p1 : Int32} {out : List Int32 × List Int32 × List Int32 × List Int32 × List Int32 × List Int32 × List Int32 × List Int32 × List Int32 × List Int32 × Int32 × Int32 × Int32 × Int32 × Int32 × Int32 × Int32 × Int32} (hf : X5_loaded refused there used hidden kind figure good load inn kept ships coughs day away isKeeping cursor free goodFor loadedWhen p0 p1 = some out) : Ct l G yX5_loaded cX5_loaded 4 (some .int) 8 177 [.ref (ad 0), .int p0, .int p1] (wM G ad refused there used hidden kind figure good load inn tape letter letterAt told kept row costs ships coughs day away taped reading statements hasImage isKeeping cursor backs free goodFor loadedWhen bareGood bareWhen rowMany lots) (some (.int out.2.2.2.2.2.2.2.2.2.2.2.2.2.2.2.2.2)) (wM G ad out.1 out.2.1 out.2.2.1 out.2.2.2.1 out.2.2.2.2.1 out.2.2.2.2.2.1 out.2.2.2.2.2.2.1 out.2.2.2.2.2.2.2.1 out.2.2.2.2.2.2.2.2.1 tape letter letterAt told out.2.2.2.2.2.2.2.2.2.1 row costs out.2.2.2.2.2.2.2.2.2.2.1 out.2.2.2.2.2.2.2.2.2.2.2.1 out.2.2.2.2.2.2.2.2.2.2.2.2.1 away taped reading statements hasImage out.2.2.2.2.2.2.2.2.2.2.2.2.2.1 out.2.2.2.2.2.2.2.2.2.2.2.2.2.2.1 backs free out.2.2.2.2.2.2.2.2.2.2.2.2.2.2.2.1 out.2.2.2.2.2.2.2.2.2.2.2.2.2.2.2.2.1 bareGood bareWhen rowMany lots) := by
  refine Ct.intro RX5 rfl (plainFor_of_name (by decide)) (Nat.le_of_ble_eq_true rfl) rfl ?_
  intro p e s m args below meth c A C H locs hs ls hl
  obtain ⟨hx, hb, hml, hown, hts, hK, hret, hlk⟩ := id C
  have hl : lv_has ls 4 [(0, .ref (ad 0)), (1, .int p0), (2, .int p1)] := hl
  unfold X5_loaded at hf
  refine lv_aload_n hx hb (dk hX5_loaded_0 0 rfl) rfl (lv_at hl 0 rfl) ?_
  refine lv_iload_n hx hb (dk hX5_loaded_0 1 rfl) rfl (lv_at hl 1 rfl) ?_
  obtain ⟨u_1, e_2, hf⟩ := Option.bind_eq_some_iff.mp hf
  refine Ct.V (As := [.int p0]) (rest := []) (st1 := [.int u_1]) (w1 := (wM G ad refused there used hidden kind figure good load inn tape letter letterAt told kept row costs ships coughs day away taped reading statements hasImage isKeeping cursor backs free goodFor loadedWhen bareGood bareWhen rowMany lots)) C hs (c_X5_isShip e_2) tw_854 tw_856 tw_32 tw_85 tw_857 nq_X5_isShip (by decide) 0 5 rfl rfl rfl rfl hl.1 rfl (Nat.le_of_ble_eq_true rfl) (dk hX5_loaded_0 2 rfl) ⟨Nat.zero_le _, Nat.zero_le _⟩ rfl (fun H locs hs => ?_)
  refine lv_if_ne (tgt := 12) hx hb (dk hX5_loaded_0 3 rfl) (by decide) (fun hc => ?_) (fun hc => ?_)
  · replace hf := in_ hf hc
    refine lv_iload_n hx hb (dk hX5_loaded_0 6 rfl) rfl (lv_at hl 2 rfl) ?_
    refine lv_iconst (v := (0 : Int32)) hx hb (dk hX5_loaded_0 7 rfl) (by decide) ?_
    refine lv_iconst (v := (1 : Int32)) hx hb (dk hX5_loaded_0 8 rfl) (by decide) ?_
    obtain ⟨u_3, e_4, hf⟩ := Option.bind_eq_some_iff.mp hf
    refine Ct.S (As := [.int p1, .int (0 : Int32), .int (1 : Int32)]) (rest := []) (st1 := [.int u_3]) (w1 := (wM G ad refused there used hidden kind figure good load inn tape letter letterAt told kept row costs ships coughs day away taped reading statements hasImage isKeeping cursor backs free goodFor loadedWhen bareGood bareWhen rowMany lots)) C hs (c_X5_isIn e_4) tw_824 tw_825 tw_85 tw_826 nq_X5_isIn (by decide) rfl hl.1 rfl (Nat.le_of_ble_eq_true rfl) (dk hX5_loaded_0 9 rfl) ⟨Nat.zero_le _, Nat.zero_le _⟩ rfl (fun H locs hs => ?_)
    refine lv_if_ne (tgt := 26) hx hb (dk hX5_loaded_0 10 rfl) (by decide) (fun hc => ?_) (fun hc => ?_)
    · replace hf := in_ hf hc
      refine lv_aload_n hx hb (dk hX5_loaded_0 13 rfl) rfl (lv_at hl 0 rfl) ?_
      refine rg ui5 rfl C hs 0 rfl 8 (by decide) tw_698 rfl rfl (dk hX5_loaded_0 14 rfl) ?_
      refine lv_iload_n hx hb (dk hX5_loaded_0 15 rfl) rfl (lv_at hl 1 rfl) ?_
      obtain ⟨v_5, e_6, hf⟩ := Option.bind_eq_some_iff.mp hf
      refine rild C hs 9 rfl e_6 (dk hX5_loaded_0 16 rfl) ?_
      refine lv_iconst (v := (1 : Int32)) hx hb (dk hX5_loaded_0 17 rfl) (by decide) ?_
      refine lv_icmp_ne (tgt := 41) hx hb (dk hX5_loaded_0 18 rfl) (by decide) (fun hc => ?_) (fun hc => ?_)
      · replace hf := in_ hf hc
        refine lv_iconst (v := (0 : Int32)) hx hb (dk hX5_loaded_0 21 rfl) (by decide) ?_
        refine lv_istore_n (lv' := [(3, .int (0 : Int32)), (0, .ref (ad 0)), (1, .int p0), (2, .int p1)]) hx hb (dk hX5_loaded_0 22 rfl) rfl hl (by decide) rfl (fun ls hl => ?_)
        refine lv_iload_n hx hb (dk hX5_loaded_0 23 rfl) rfl (lv_at hl 0 rfl) ?_
        refine lv_if_eq (tgt := 53) hx hb (dk hX5_loaded_0 24 rfl) (by decide) (fun hc => ?_) (fun hc => ?_)
        · refine lv_aload_n hx hb (dk hX5_loaded_0 29 rfl) rfl (lv_at hl 1 rfl) ?_
          refine lv_iload_n hx hb (dk hX5_loaded_0 30 rfl) rfl (lv_at hl 2 rfl) ?_
          obtain ⟨u_7, e_8, hf⟩ := Option.bind_eq_some_iff.mp hf
          refine Ct.V (As := [.int p0]) (rest := []) (st1 := []) (w1 := (wM G ad refused u_7.1 u_7.2.1 u_7.2.2.1 u_7.2.2.2.1 u_7.2.2.2.2.1 u_7.2.2.2.2.2.1 u_7.2.2.2.2.2.2.1 u_7.2.2.2.2.2.2.2.1 tape letter letterAt told u_7.2.2.2.2.2.2.2.2.1 row costs u_7.2.2.2.2.2.2.2.2.2.1 u_7.2.2.2.2.2.2.2.2.2.2.1 u_7.2.2.2.2.2.2.2.2.2.2.2.1 away taped reading statements hasImage u_7.2.2.2.2.2.2.2.2.2.2.2.2.1 u_7.2.2.2.2.2.2.2.2.2.2.2.2.2.1 backs free u_7.2.2.2.2.2.2.2.2.2.2.2.2.2.2.1 u_7.2.2.2.2.2.2.2.2.2.2.2.2.2.2.2 bareGood bareWhen rowMany lots)) C hs (c_X5_findLoaded e_8) tw_1037 tw_1039 tw_57 tw_85 tw_1040 nq_X5_findLoaded (by decide) 0 5 rfl rfl rfl rfl hl.1 rfl (Nat.le_of_ble_eq_true rfl) (dk hX5_loaded_0 31 rfl) ⟨Nat.zero_le _, Nat.zero_le _⟩ rfl (fun H locs hs => ?_)
          refine lv_iload_n hx hb (dk hX5_loaded_0 32 rfl) rfl (lv_at hl 3 rfl) ?_
          refine lv_if_ne (tgt := 69) hx hb (dk hX5_loaded_0 33 rfl) (by decide) (fun hc => ?_) (fun hc => ?_)
          · replace hf := in_ hf hc
            refine lv_aload_n hx hb (dk hX5_loaded_0 37 rfl) rfl (lv_at hl 1 rfl) ?_
            refine rg ui5 rfl C hs 0 rfl 27 (by decide) tw_717 rfl rfl (dk hX5_loaded_0 38 rfl) ?_
            cases hf
            exact ri C hs (dk hX5_loaded_0 39 rfl)
          · replace hf := ip hf hc
            refine lv_aload_n hx hb (dk hX5_loaded_0 34 rfl) rfl (lv_at hl 1 rfl) ?_
            refine rg ui5 rfl C hs 0 rfl 26 (by decide) tw_716 rfl rfl (dk hX5_loaded_0 35 rfl) ?_
            refine lv_goto (tgt := 73) hx hb (dk hX5_loaded_0 36 rfl) (by decide) ?_
            cases hf
            exact ri C hs (dk hX5_loaded_0 39 rfl)
        · exact absurd hc (by decide)
      · replace hf := ip hf hc
        refine lv_bipush (v := (-3 : Int32)) hx hb (dk hX5_loaded_0 19 rfl) (by decide) ?_
        refine lv_goto (tgt := 42) hx hb (dk hX5_loaded_0 20 rfl) (by decide) ?_
        refine lv_istore_n (lv' := [(3, .int (-3 : Int32)), (0, .ref (ad 0)), (1, .int p0), (2, .int p1)]) hx hb (dk hX5_loaded_0 22 rfl) rfl hl (by decide) rfl (fun ls hl => ?_)
        refine lv_iload_n hx hb (dk hX5_loaded_0 23 rfl) rfl (lv_at hl 0 rfl) ?_
        refine lv_if_eq (tgt := 53) hx hb (dk hX5_loaded_0 24 rfl) (by decide) (fun hc => ?_) (fun hc => ?_)
        · exact absurd hc (by decide)
        · refine lv_aload_n hx hb (dk hX5_loaded_0 25 rfl) rfl (lv_at hl 1 rfl) ?_
          refine lv_iload_n hx hb (dk hX5_loaded_0 26 rfl) rfl (lv_at hl 0 rfl) ?_
          obtain ⟨u_9, e_10, hf⟩ := Option.bind_eq_some_iff.mp hf
          refine Ct.V (As := [.int (-3 : Int32)]) (rest := []) (st1 := [.int u_9.2]) (w1 := (wM G ad u_9.1 there used hidden kind figure good load inn tape letter letterAt told kept row costs ships coughs day away taped reading statements hasImage isKeeping cursor backs free goodFor loadedWhen bareGood bareWhen rowMany lots)) C hs (c_X5_no e_10) tw_800 tw_802 tw_21 tw_85 tw_803 nq_X5_no (by decide) 0 5 rfl rfl rfl rfl hl.1 rfl (Nat.le_of_ble_eq_true rfl) (dk hX5_loaded_0 27 rfl) ⟨Nat.zero_le _, Nat.zero_le _⟩ rfl (fun H locs hs => ?_)
          cases hf
          exact ri C hs (dk hX5_loaded_0 28 rfl)
    · replace hf := ip hf hc
      refine lv_bipush (v := (-2 : Int32)) hx hb (dk hX5_loaded_0 11 rfl) (by decide) ?_
      refine lv_goto (tgt := 42) hx hb (dk hX5_loaded_0 12 rfl) (by decide) ?_
      refine lv_istore_n (lv' := [(3, .int (-2 : Int32)), (0, .ref (ad 0)), (1, .int p0), (2, .int p1)]) hx hb (dk hX5_loaded_0 22 rfl) rfl hl (by decide) rfl (fun ls hl => ?_)
      refine lv_iload_n hx hb (dk hX5_loaded_0 23 rfl) rfl (lv_at hl 0 rfl) ?_
      refine lv_if_eq (tgt := 53) hx hb (dk hX5_loaded_0 24 rfl) (by decide) (fun hc => ?_) (fun hc => ?_)
      · exact absurd hc (by decide)
      · refine lv_aload_n hx hb (dk hX5_loaded_0 25 rfl) rfl (lv_at hl 1 rfl) ?_
        refine lv_iload_n hx hb (dk hX5_loaded_0 26 rfl) rfl (lv_at hl 0 rfl) ?_
        obtain ⟨u_11, e_12, hf⟩ := Option.bind_eq_some_iff.mp hf
        refine Ct.V (As := [.int (-2 : Int32)]) (rest := []) (st1 := [.int u_11.2]) (w1 := (wM G ad u_11.1 there used hidden kind figure good load inn tape letter letterAt told kept row costs ships coughs day away taped reading statements hasImage isKeeping cursor backs free goodFor loadedWhen bareGood bareWhen rowMany lots)) C hs (c_X5_no e_12) tw_800 tw_802 tw_21 tw_85 tw_803 nq_X5_no (by decide) 0 5 rfl rfl rfl rfl hl.1 rfl (Nat.le_of_ble_eq_true rfl) (dk hX5_loaded_0 27 rfl) ⟨Nat.zero_le _, Nat.zero_le _⟩ rfl (fun H locs hs => ?_)
        cases hf
        exact ri C hs (dk hX5_loaded_0 28 rfl)
  · replace hf := ip hf hc
    refine lv_iconst (v := (-1 : Int32)) hx hb (dk hX5_loaded_0 4 rfl) (by decide) ?_
    refine lv_goto (tgt := 42) hx hb (dk hX5_loaded_0 5 rfl) (by decide) ?_
    refine lv_istore_n (lv' := [(3, .int (-1 : Int32)), (0, .ref (ad 0)), (1, .int p0), (2, .int p1)]) hx hb (dk hX5_loaded_0 22 rfl) rfl hl (by decide) rfl (fun ls hl => ?_)
    refine lv_iload_n hx hb (dk hX5_loaded_0 23 rfl) rfl (lv_at hl 0 rfl) ?_
    refine lv_if_eq (tgt := 53) hx hb (dk hX5_loaded_0 24 rfl) (by decide) (fun hc => ?_) (fun hc => ?_)
    · exact absurd hc (by decide)
    · refine lv_aload_n hx hb (dk hX5_loaded_0 25 rfl) rfl (lv_at hl 1 rfl) ?_
      refine lv_iload_n hx hb (dk hX5_loaded_0 26 rfl) rfl (lv_at hl 0 rfl) ?_
      obtain ⟨u_13, e_14, hf⟩ := Option.bind_eq_some_iff.mp hf
      refine Ct.V (As := [.int (-1 : Int32)]) (rest := []) (st1 := [.int u_13.2]) (w1 := (wM G ad u_13.1 there used hidden kind figure good load inn tape letter letterAt told kept row costs ships coughs day away taped reading statements hasImage isKeeping cursor backs free goodFor loadedWhen bareGood bareWhen rowMany lots)) C hs (c_X5_no e_14) tw_800 tw_802 tw_21 tw_85 tw_803 nq_X5_no (by decide) 0 5 rfl rfl rfl rfl hl.1 rfl (Nat.le_of_ble_eq_true rfl) (dk hX5_loaded_0 27 rfl) ⟨Nat.zero_le _, Nat.zero_le _⟩ rfl (fun H locs hs => ?_)
      cases hf
      exact ri C hs (dk hX5_loaded_0 28 rfl)

def X5_comesHiding (there : List Int32) (used : List Int32) (hidden : List Int32) (kind : List Int32) (figure : List Int32) (good : List Int32) (load : List Int32) (inn : List Int32) (kept : List Int32) (ships : Int32) (coughs : Int32) (day : Int32) (away : Int32) (isKeeping : Int32) (cursor : Int32) (free : Int32) (p0 : Int32) (p1 : Int32) (p2 : Int32) (p3 : Int32) : Option (List Int32 × List Int32 × List Int32 × List Int32 × List Int32 × List Int32 × List Int32 × List Int32 × List Int32 × Int32 × Int32 × Int32 × Int32 × Int32 × Int32) :=
  (X5_hidesOf there hidden p0 p1).bind fun u_1 =>
  (X5_comesIn u_1.1 used u_1.2 kind figure good load inn kept ships coughs day away isKeeping cursor free p2 p3).bind fun u_3 =>
  if u_3.2.2.2.2.2.2.2.2.2.2.2.2.2.2 < (0 : Int32) then
  (X5_hidesOf u_3.1 u_3.2.2.1 p0 (-p1)).bind fun u_5 =>
  some (u_5.1, u_3.2.1, u_5.2, u_3.2.2.2.1, u_3.2.2.2.2.1, u_3.2.2.2.2.2.1, u_3.2.2.2.2.2.2.1, u_3.2.2.2.2.2.2.2.1, u_3.2.2.2.2.2.2.2.2.1, u_3.2.2.2.2.2.2.2.2.2.1, u_3.2.2.2.2.2.2.2.2.2.2.1, u_3.2.2.2.2.2.2.2.2.2.2.2.1, u_3.2.2.2.2.2.2.2.2.2.2.2.2.1, u_3.2.2.2.2.2.2.2.2.2.2.2.2.2.1, (0 : Int32))
  else
  (X5_hidesOf u_3.1 u_3.2.2.1 p0 (-p1)).bind fun u_7 =>
  some (u_7.1, u_3.2.1, u_7.2, u_3.2.2.2.1, u_3.2.2.2.2.1, u_3.2.2.2.2.2.1, u_3.2.2.2.2.2.2.1, u_3.2.2.2.2.2.2.2.1, u_3.2.2.2.2.2.2.2.2.1, u_3.2.2.2.2.2.2.2.2.2.1, u_3.2.2.2.2.2.2.2.2.2.2.1, u_3.2.2.2.2.2.2.2.2.2.2.2.1, u_3.2.2.2.2.2.2.2.2.2.2.2.2.1, u_3.2.2.2.2.2.2.2.2.2.2.2.2.2.1, (1 : Int32))
set_option maxRecDepth 100000 in
set_option maxHeartbeats 4000000 in
theorem c_X5_comesHiding {l : Launch} {G : Gx} {ad : Nat → Nat} {refused there used hidden kind figure good load inn tape letter letterAt told kept row costs : List Int32} {ships coughs day away taped reading statements hasImage isKeeping cursor backs free goodFor loadedWhen bareGood bareWhen rowMany lots : Int32} {p0 : Int32} {p1 : Int32} {p2 : Int32} {p3 : Int32} {out : List Int32 × List Int32 × List Int32 × List Int32 × List Int32 × List Int32 × List Int32 × List Int32 × List Int32 × Int32 × Int32 × Int32 × Int32 × Int32 × Int32} (hf : X5_comesHiding there used hidden kind figure good load inn kept ships coughs day away isKeeping cursor free p0 p1 p2 p3 = some out) : Ct l G yX5_comesHiding cX5_comesHiding 6 (some .boolean) 7 153 [.ref (ad 0), .int p0, .int p1, .int p2, .int p3] (wM G ad refused there used hidden kind figure good load inn tape letter letterAt told kept row costs ships coughs day away taped reading statements hasImage isKeeping cursor backs free goodFor loadedWhen bareGood bareWhen rowMany lots) (some (.int out.2.2.2.2.2.2.2.2.2.2.2.2.2.2)) (wM G ad refused out.1 out.2.1 out.2.2.1 out.2.2.2.1 out.2.2.2.2.1 out.2.2.2.2.2.1 out.2.2.2.2.2.2.1 out.2.2.2.2.2.2.2.1 tape letter letterAt told out.2.2.2.2.2.2.2.2.1 row costs out.2.2.2.2.2.2.2.2.2.1 out.2.2.2.2.2.2.2.2.2.2.1 out.2.2.2.2.2.2.2.2.2.2.2.1 away taped reading statements hasImage out.2.2.2.2.2.2.2.2.2.2.2.2.1 out.2.2.2.2.2.2.2.2.2.2.2.2.2.1 backs free goodFor loadedWhen bareGood bareWhen rowMany lots) := by
  refine Ct.intro RX5 rfl (plainFor_of_name (by decide)) (Nat.le_of_ble_eq_true rfl) rfl ?_
  intro p e s m args below meth c A C H locs hs ls hl
  obtain ⟨hx, hb, hml, hown, hts, hK, hret, hlk⟩ := id C
  have hl : lv_has ls 6 [(0, .ref (ad 0)), (1, .int p0), (2, .int p1), (3, .int p2), (4, .int p3)] := hl
  unfold X5_comesHiding at hf
  refine lv_aload_n hx hb (dk hX5_comesHiding_0 0 rfl) rfl (lv_at hl 0 rfl) ?_
  refine lv_iload_n hx hb (dk hX5_comesHiding_0 1 rfl) rfl (lv_at hl 1 rfl) ?_
  refine lv_iload_n hx hb (dk hX5_comesHiding_0 2 rfl) rfl (lv_at hl 2 rfl) ?_
  obtain ⟨u_1, e_2, hf⟩ := Option.bind_eq_some_iff.mp hf
  refine Ct.V (As := [.int p0, .int p1]) (rest := []) (st1 := []) (w1 := (wM G ad refused u_1.1 used u_1.2 kind figure good load inn tape letter letterAt told kept row costs ships coughs day away taped reading statements hasImage isKeeping cursor backs free goodFor loadedWhen bareGood bareWhen rowMany lots)) C hs (c_X5_hidesOf e_2) tw_927 tw_929 tw_48 tw_85 tw_930 nq_X5_hidesOf (by decide) 0 5 rfl rfl rfl rfl hl.1 rfl (Nat.le_of_ble_eq_true rfl) (dk hX5_comesHiding_0 3 rfl) ⟨Nat.zero_le _, Nat.zero_le _⟩ rfl (fun H locs hs => ?_)
  refine lv_aload_n hx hb (dk hX5_comesHiding_0 4 rfl) rfl (lv_at hl 0 rfl) ?_
  refine lv_iload_n hx hb (dk hX5_comesHiding_0 5 rfl) rfl (lv_at hl 3 rfl) ?_
  refine lv_iload hx hb (dk hX5_comesHiding_0 6 rfl) (lv_at hl 4 rfl) ?_
  obtain ⟨u_3, e_4, hf⟩ := Option.bind_eq_some_iff.mp hf
  refine Ct.V (As := [.int p2, .int p3]) (rest := []) (st1 := [.int u_3.2.2.2.2.2.2.2.2.2.2.2.2.2.2]) (w1 := (wM G ad refused u_3.1 u_3.2.1 u_3.2.2.1 u_3.2.2.2.1 u_3.2.2.2.2.1 u_3.2.2.2.2.2.1 u_3.2.2.2.2.2.2.1 u_3.2.2.2.2.2.2.2.1 tape letter letterAt told u_3.2.2.2.2.2.2.2.2.1 row costs u_3.2.2.2.2.2.2.2.2.2.1 u_3.2.2.2.2.2.2.2.2.2.2.1 u_3.2.2.2.2.2.2.2.2.2.2.2.1 away taped reading statements hasImage u_3.2.2.2.2.2.2.2.2.2.2.2.2.1 u_3.2.2.2.2.2.2.2.2.2.2.2.2.2.1 backs free goodFor loadedWhen bareGood bareWhen rowMany lots)) C hs (c_X5_comesIn e_4) tw_1013 tw_1015 tw_54 tw_85 tw_1016 nq_X5_comesIn (by decide) 0 5 rfl rfl rfl rfl hl.1 rfl (Nat.le_of_ble_eq_true rfl) (dk hX5_comesHiding_0 7 rfl) ⟨Nat.zero_le _, Nat.zero_le _⟩ rfl (fun H locs hs => ?_)
  refine lv_if_lt (tgt := 20) hx hb (dk hX5_comesHiding_0 8 rfl) (by decide) (fun hc => ?_) (fun hc => ?_)
  · replace hf := ip hf hc
    refine lv_iconst (v := (0 : Int32)) hx hb (dk hX5_comesHiding_0 11 rfl) (by decide) ?_
    refine lv_istore (lv' := [(5, .int (0 : Int32)), (0, .ref (ad 0)), (1, .int p0), (2, .int p1), (3, .int p2), (4, .int p3)]) hx hb (dk hX5_comesHiding_0 12 rfl) hl (by decide) rfl (fun ls hl => ?_)
    refine lv_aload_n hx hb (dk hX5_comesHiding_0 13 rfl) rfl (lv_at hl 1 rfl) ?_
    refine lv_iload_n hx hb (dk hX5_comesHiding_0 14 rfl) rfl (lv_at hl 2 rfl) ?_
    refine lv_iload_n hx hb (dk hX5_comesHiding_0 15 rfl) rfl (lv_at hl 3 rfl) ?_
    refine lv_ineg hx hb (dk hX5_comesHiding_0 16 rfl) ?_
    obtain ⟨u_5, e_6, hf⟩ := Option.bind_eq_some_iff.mp hf
    refine Ct.V (As := [.int p0, .int (-p1)]) (rest := []) (st1 := []) (w1 := (wM G ad refused u_5.1 u_3.2.1 u_5.2 u_3.2.2.2.1 u_3.2.2.2.2.1 u_3.2.2.2.2.2.1 u_3.2.2.2.2.2.2.1 u_3.2.2.2.2.2.2.2.1 tape letter letterAt told u_3.2.2.2.2.2.2.2.2.1 row costs u_3.2.2.2.2.2.2.2.2.2.1 u_3.2.2.2.2.2.2.2.2.2.2.1 u_3.2.2.2.2.2.2.2.2.2.2.2.1 away taped reading statements hasImage u_3.2.2.2.2.2.2.2.2.2.2.2.2.1 u_3.2.2.2.2.2.2.2.2.2.2.2.2.2.1 backs free goodFor loadedWhen bareGood bareWhen rowMany lots)) C hs (c_X5_hidesOf e_6) tw_927 tw_929 tw_48 tw_85 tw_930 nq_X5_hidesOf (by decide) 0 5 rfl rfl rfl rfl hl.1 rfl (Nat.le_of_ble_eq_true rfl) (dk hX5_comesHiding_0 17 rfl) ⟨Nat.zero_le _, Nat.zero_le _⟩ rfl (fun H locs hs => ?_)
    refine lv_iload hx hb (dk hX5_comesHiding_0 18 rfl) (lv_at hl 0 rfl) ?_
    cases hf
    exact rz (x := (0 : Int32)) rfl C hs (dk hX5_comesHiding_0 19 rfl)
  · replace hf := in_ hf hc
    refine lv_iconst (v := (1 : Int32)) hx hb (dk hX5_comesHiding_0 9 rfl) (by decide) ?_
    refine lv_goto (tgt := 21) hx hb (dk hX5_comesHiding_0 10 rfl) (by decide) ?_
    refine lv_istore (lv' := [(5, .int (1 : Int32)), (0, .ref (ad 0)), (1, .int p0), (2, .int p1), (3, .int p2), (4, .int p3)]) hx hb (dk hX5_comesHiding_0 12 rfl) hl (by decide) rfl (fun ls hl => ?_)
    refine lv_aload_n hx hb (dk hX5_comesHiding_0 13 rfl) rfl (lv_at hl 1 rfl) ?_
    refine lv_iload_n hx hb (dk hX5_comesHiding_0 14 rfl) rfl (lv_at hl 2 rfl) ?_
    refine lv_iload_n hx hb (dk hX5_comesHiding_0 15 rfl) rfl (lv_at hl 3 rfl) ?_
    refine lv_ineg hx hb (dk hX5_comesHiding_0 16 rfl) ?_
    obtain ⟨u_7, e_8, hf⟩ := Option.bind_eq_some_iff.mp hf
    refine Ct.V (As := [.int p0, .int (-p1)]) (rest := []) (st1 := []) (w1 := (wM G ad refused u_7.1 u_3.2.1 u_7.2 u_3.2.2.2.1 u_3.2.2.2.2.1 u_3.2.2.2.2.2.1 u_3.2.2.2.2.2.2.1 u_3.2.2.2.2.2.2.2.1 tape letter letterAt told u_3.2.2.2.2.2.2.2.2.1 row costs u_3.2.2.2.2.2.2.2.2.2.1 u_3.2.2.2.2.2.2.2.2.2.2.1 u_3.2.2.2.2.2.2.2.2.2.2.2.1 away taped reading statements hasImage u_3.2.2.2.2.2.2.2.2.2.2.2.2.1 u_3.2.2.2.2.2.2.2.2.2.2.2.2.2.1 backs free goodFor loadedWhen bareGood bareWhen rowMany lots)) C hs (c_X5_hidesOf e_8) tw_927 tw_929 tw_48 tw_85 tw_930 nq_X5_hidesOf (by decide) 0 5 rfl rfl rfl rfl hl.1 rfl (Nat.le_of_ble_eq_true rfl) (dk hX5_comesHiding_0 17 rfl) ⟨Nat.zero_le _, Nat.zero_le _⟩ rfl (fun H locs hs => ?_)
    refine lv_iload hx hb (dk hX5_comesHiding_0 18 rfl) (lv_at hl 0 rfl) ?_
    cases hf
    exact rz (x := (1 : Int32)) rfl C hs (dk hX5_comesHiding_0 19 rfl)

def X5_hide_L43 (k : List Int32 → List Int32 → List Int32 → List Int32 → List Int32 → List Int32 → List Int32 → List Int32 → List Int32 → Int32 → Int32 → Int32 → Int32 → Int32 → Option (List Int32 × List Int32 × List Int32 × List Int32 × List Int32 × List Int32 × List Int32 × List Int32 × List Int32 × List Int32 × Int32 × Int32 × Int32 × Int32 × Int32 × Int32)) (refused : List Int32) (away : Int32) (free : Int32) (x1 : Int32) (x2 : Int32) (x3 : Int32) : Nat → Int32 → List Int32 → List Int32 → List Int32 → List Int32 → List Int32 → List Int32 → List Int32 → List Int32 → List Int32 → Int32 → Int32 → Int32 → Int32 → Int32 → Option (List Int32 × List Int32 × List Int32 × List Int32 × List Int32 × List Int32 × List Int32 × List Int32 × List Int32 × List Int32 × Int32 × Int32 × Int32 × Int32 × Int32 × Int32)
  | 0, _, _, _, _, _, _, _, _, _, _, _, _, _, _, _ => none
  | n + 1, x5, there, used, hidden, kind, figure, good, load, inn, kept, ships, coughs, day, isKeeping, cursor =>
  (rd there x1).bind fun v_9 =>
  if v_9 < x5 then
  k there used hidden kind figure good load inn kept ships coughs day isKeeping cursor
  else
  (X5_comesHiding there used hidden kind figure good load inn kept ships coughs day away isKeeping cursor free x1 x5 x2 x3).bind fun u_11 =>
  if u_11.2.2.2.2.2.2.2.2.2.2.2.2.2.2 = (0 : Int32) then
  X5_hide_L43 k refused away free x1 x2 x3 n (x5 + (1 : Int32)) u_11.1 u_11.2.1 u_11.2.2.1 u_11.2.2.2.1 u_11.2.2.2.2.1 u_11.2.2.2.2.2.1 u_11.2.2.2.2.2.2.1 u_11.2.2.2.2.2.2.2.1 u_11.2.2.2.2.2.2.2.2.1 u_11.2.2.2.2.2.2.2.2.2.1 u_11.2.2.2.2.2.2.2.2.2.2.1 u_11.2.2.2.2.2.2.2.2.2.2.2.1 u_11.2.2.2.2.2.2.2.2.2.2.2.2.1 u_11.2.2.2.2.2.2.2.2.2.2.2.2.2.1
  else
  some (refused, u_11.1, u_11.2.1, u_11.2.2.1, u_11.2.2.2.1, u_11.2.2.2.2.1, u_11.2.2.2.2.2.1, u_11.2.2.2.2.2.2.1, u_11.2.2.2.2.2.2.2.1, u_11.2.2.2.2.2.2.2.2.1, u_11.2.2.2.2.2.2.2.2.2.1, u_11.2.2.2.2.2.2.2.2.2.2.1, u_11.2.2.2.2.2.2.2.2.2.2.2.1, u_11.2.2.2.2.2.2.2.2.2.2.2.2.1, u_11.2.2.2.2.2.2.2.2.2.2.2.2.2.1, x5)
def X5_hide (refused : List Int32) (there : List Int32) (used : List Int32) (hidden : List Int32) (kind : List Int32) (figure : List Int32) (good : List Int32) (load : List Int32) (inn : List Int32) (kept : List Int32) (ships : Int32) (coughs : Int32) (day : Int32) (away : Int32) (isKeeping : Int32) (cursor : Int32) (free : Int32) (p0 : Int32) (p1 : Int32) (p2 : Int32) : Option (List Int32 × List Int32 × List Int32 × List Int32 × List Int32 × List Int32 × List Int32 × List Int32 × List Int32 × List Int32 × Int32 × Int32 × Int32 × Int32 × Int32 × Int32) :=
  (X5_isGood p0).bind fun u_1 =>
  if u_1 = (0 : Int32) then
  (X5_no refused (-1 : Int32)).bind fun u_3 =>
  some (u_3.1, there, used, hidden, kind, figure, good, load, inn, kept, ships, coughs, day, isKeeping, cursor, u_3.2)
  else
  (X5_isShip ships p1).bind fun u_5 =>
  if u_5 = (0 : Int32) then
  (X5_no refused (-1 : Int32)).bind fun u_29 =>
  some (u_29.1, there, used, hidden, kind, figure, good, load, inn, kept, ships, coughs, day, isKeeping, cursor, u_29.2)
  else
  (X5_bound p2 (1 : Int32) (60 : Int32)).bind fun u_7 =>
  if u_7 = (0 : Int32) then
  X5_hide_L43 (fun there_13 used_14 hidden_15 kind_16 figure_17 good_18 load_19 inn_20 kept_21 ships_22 coughs_23 day_24 isKeeping_25 cursor_26 =>
  some (refused, there_13, used_14, hidden_15, kind_16, figure_17, good_18, load_19, inn_20, kept_21, ships_22, coughs_23, day_24, isKeeping_25, cursor_26, (-9 : Int32))) refused away free p0 p1 p2 1000 (0 : Int32) there used hidden kind figure good load inn kept ships coughs day isKeeping cursor
  else
  (X5_no refused u_7).bind fun u_27 =>
  some (u_27.1, there, used, hidden, kind, figure, good, load, inn, kept, ships, coughs, day, isKeeping, cursor, u_27.2)
set_option maxRecDepth 100000 in
set_option maxHeartbeats 4000000 in
theorem l_X5_hide_L43 {l : Launch} {p : Program} {e : Env} {s : State} {m : MethodId} {args : Array Value} {below : List Frame} {meth : Method} {c : Code} {A : Nat → Prop} {G : Gx} {ad : Nat → Nat} {refused tape letter letterAt told row costs : List Int32} {away taped reading statements hasImage backs free goodFor loadedWhen bareGood bareWhen rowMany lots : Int32} {x1 : Int32} {x2 : Int32} {x3 : Int32} {k : List Int32 → List Int32 → List Int32 → List Int32 → List Int32 → List Int32 → List Int32 → List Int32 → List Int32 → Int32 → Int32 → Int32 → Int32 → Int32 → Option (List Int32 × List Int32 × List Int32 × List Int32 × List Int32 × List Int32 × List Int32 × List Int32 × List Int32 × List Int32 × Int32 × Int32 × Int32 × Int32 × Int32 × Int32)} {out : List Int32 × List Int32 × List Int32 × List Int32 × List Int32 × List Int32 × List Int32 × List Int32 × List Int32 × List Int32 × Int32 × Int32 × Int32 × Int32 × Int32 × Int32} (C : Cx p s m args meth c cX5_hide RX5 6 (some .int) G) : ∀ (n : Nat) (x5 : Int32) (there : List Int32) (used : List Int32) (hidden : List Int32) (kind : List Int32) (figure : List Int32) (good : List Int32) (load : List Int32) (inn : List Int32) (kept : List Int32) (ships : Int32) (coughs : Int32) (day : Int32) (isKeeping : Int32) (cursor : Int32), X5_hide_L43 k refused away free x1 x2 x3 n x5 there used hidden kind figure good load inn kept ships coughs day isKeeping cursor = some out → ∀ (H : Heap) (locs : List Loc), St G A s.heap H locs (wM G ad refused there used hidden kind figure good load inn tape letter letterAt told kept row costs ships coughs day away taped reading statements hasImage isKeeping cursor backs free goodFor loadedWhen bareGood bareWhen rowMany lots) → ∀ ls : Array Slot, lv_has ls 6 [(0, .ref (ad 0)), (1, .int x1), (2, .int x2), (3, .int x3), (5, .int x5)] → (∀ (z_there : List Int32) (z_used : List Int32) (z_hidden : List Int32) (z_kind : List Int32) (z_figure : List Int32) (z_good : List Int32) (z_load : List Int32) (z_inn : List Int32) (z_kept : List Int32) (z_ships : Int32) (z_coughs : Int32) (z_day : Int32) (z_isKeeping : Int32) (z_cursor : Int32), k z_there z_used z_hidden z_kind z_figure z_good z_load z_inn z_kept z_ships z_coughs z_day z_isKeeping z_cursor = some out → ∀ (H : Heap) (locs : List Loc), St G A s.heap H locs (wM G ad refused z_there z_used z_hidden z_kind z_figure z_good z_load z_inn tape letter letterAt told z_kept row costs z_ships z_coughs z_day away taped reading statements hasImage z_isKeeping z_cursor backs free goodFor loadedWhen bareGood bareWhen rowMany lots) → ∀ ls : Array Slot, lv_has ls 6 [] → W p l e (rmOf 8 178) s m args below meth c H locs 0 0 (MQ below (Qof G A (some (.int out.2.2.2.2.2.2.2.2.2.2.2.2.2.2.2)) (wM G ad out.1 out.2.1 out.2.2.1 out.2.2.2.1 out.2.2.2.2.1 out.2.2.2.2.2.1 out.2.2.2.2.2.2.1 out.2.2.2.2.2.2.2.1 out.2.2.2.2.2.2.2.2.1 tape letter letterAt told out.2.2.2.2.2.2.2.2.2.1 row costs out.2.2.2.2.2.2.2.2.2.2.1 out.2.2.2.2.2.2.2.2.2.2.2.1 out.2.2.2.2.2.2.2.2.2.2.2.2.1 away taped reading statements hasImage out.2.2.2.2.2.2.2.2.2.2.2.2.2.1 out.2.2.2.2.2.2.2.2.2.2.2.2.2.2.1 backs free goodFor loadedWhen bareGood bareWhen rowMany lots)) args s 0 0 A) (F0 m 75 ls [])) → W p l e (rmOf 8 178) s m args below meth c H locs 0 0 (MQ below (Qof G A (some (.int out.2.2.2.2.2.2.2.2.2.2.2.2.2.2.2)) (wM G ad out.1 out.2.1 out.2.2.1 out.2.2.2.1 out.2.2.2.2.1 out.2.2.2.2.2.1 out.2.2.2.2.2.2.1 out.2.2.2.2.2.2.2.1 out.2.2.2.2.2.2.2.2.1 tape letter letterAt told out.2.2.2.2.2.2.2.2.2.1 row costs out.2.2.2.2.2.2.2.2.2.2.1 out.2.2.2.2.2.2.2.2.2.2.2.1 out.2.2.2.2.2.2.2.2.2.2.2.2.1 away taped reading statements hasImage out.2.2.2.2.2.2.2.2.2.2.2.2.2.1 out.2.2.2.2.2.2.2.2.2.2.2.2.2.2.1 backs free goodFor loadedWhen bareGood bareWhen rowMany lots)) args s 0 0 A) (F0 m 43 ls []) := by
  obtain ⟨hx, hb, hml, hown, hts, hK, hret, hlk⟩ := id C
  intro n
  induction n with
  | zero => intro x5 there used hidden kind figure good load inn kept ships coughs day isKeeping cursor hf; cases hf
  | succ n ih =>
    intro x5 there used hidden kind figure good load inn kept ships coughs day isKeeping cursor hf H locs hs ls hl hk
    rw [X5_hide_L43] at hf
    refine lv_iload hx hb (dk hX5_hide_0 22 rfl) (lv_at hl 4 rfl) ?_
    refine lv_aload_n hx hb (dk hX5_hide_0 23 rfl) rfl (lv_at hl 0 rfl) ?_
    refine rg ui5 rfl C hs 0 rfl 1 (by decide) tw_691 rfl rfl (dk hX5_hide_0 24 rfl) ?_
    refine lv_iload_n hx hb (dk hX5_hide_0 25 rfl) rfl (lv_at hl 1 rfl) ?_
    obtain ⟨v_9, e_10, hf⟩ := Option.bind_eq_some_iff.mp hf
    refine rild C hs 2 rfl e_10 (dk hX5_hide_0 26 rfl) ?_
    refine lv_icmp_gt (tgt := 75) hx hb (dk hX5_hide_0 27 rfl) (by decide) (fun hc => ?_) (fun hc => ?_)
    · replace hf := ip hf hc
      exact hk _ _ _ _ _ _ _ _ _ _ _ _ _ _ hf _ _ hs _ (lv_sub hl [] rfl)
    · replace hf := in_ hf hc
      refine lv_aload_n hx hb (dk hX5_hide_0 28 rfl) rfl (lv_at hl 0 rfl) ?_
      refine lv_iload_n hx hb (dk hX5_hide_0 29 rfl) rfl (lv_at hl 1 rfl) ?_
      refine lv_iload hx hb (dk hX5_hide_0 30 rfl) (lv_at hl 4 rfl) ?_
      refine lv_iload_n hx hb (dk hX5_hide_0 31 rfl) rfl (lv_at hl 2 rfl) ?_
      refine lv_iload_n hx hb (dk hX5_hide_0 32 rfl) rfl (lv_at hl 3 rfl) ?_
      obtain ⟨u_11, e_12, hf⟩ := Option.bind_eq_some_iff.mp hf
      refine Ct.V (As := [.int x1, .int x5, .int x2, .int x3]) (rest := []) (st1 := [.int u_11.2.2.2.2.2.2.2.2.2.2.2.2.2.2]) (w1 := (wM G ad refused u_11.1 u_11.2.1 u_11.2.2.1 u_11.2.2.2.1 u_11.2.2.2.2.1 u_11.2.2.2.2.2.1 u_11.2.2.2.2.2.2.1 u_11.2.2.2.2.2.2.2.1 tape letter letterAt told u_11.2.2.2.2.2.2.2.2.1 row costs u_11.2.2.2.2.2.2.2.2.2.1 u_11.2.2.2.2.2.2.2.2.2.2.1 u_11.2.2.2.2.2.2.2.2.2.2.2.1 away taped reading statements hasImage u_11.2.2.2.2.2.2.2.2.2.2.2.2.1 u_11.2.2.2.2.2.2.2.2.2.2.2.2.2.1 backs free goodFor loadedWhen bareGood bareWhen rowMany lots)) C hs (c_X5_comesHiding e_12) tw_1045 tw_1047 tw_58 tw_85 tw_1048 nq_X5_comesHiding (by decide) 0 5 rfl rfl rfl rfl hl.1 rfl (Nat.le_of_ble_eq_true rfl) (dk hX5_hide_0 33 rfl) ⟨Nat.zero_le _, Nat.zero_le _⟩ rfl (fun H locs hs => ?_)
      refine lv_if_eq (tgt := 69) hx hb (dk hX5_hide_0 34 rfl) (by decide) (fun hc => ?_) (fun hc => ?_)
      · replace hf := ip hf hc
        refine lv_iinc (v := (x5 + (1 : Int32))) (lv' := [(5, .int (x5 + (1 : Int32))), (0, .ref (ad 0)), (1, .int x1), (2, .int x2), (3, .int x3)]) hx hb (dk hX5_hide_0 37 rfl) hl (k := 4) rfl (by first | rfl | decide) (by decide) rfl (fun ls hl => ?_)
        refine lv_goto (tgt := 43) hx hb (dk hX5_hide_0 38 rfl) (by decide) ?_
        exact ih _ _ _ _ _ _ _ _ _ _ _ _ _ _ _ hf _ _ hs _ (lv_sub hl [1, 2, 3, 4, 0] rfl) hk
      · replace hf := in_ hf hc
        refine lv_iload hx hb (dk hX5_hide_0 35 rfl) (lv_at hl 4 rfl) ?_
        cases hf
        exact ri C hs (dk hX5_hide_0 36 rfl)
set_option maxRecDepth 100000 in
set_option maxHeartbeats 4000000 in
theorem c_X5_hide {l : Launch} {G : Gx} {ad : Nat → Nat} {refused there used hidden kind figure good load inn tape letter letterAt told kept row costs : List Int32} {ships coughs day away taped reading statements hasImage isKeeping cursor backs free goodFor loadedWhen bareGood bareWhen rowMany lots : Int32} {p0 : Int32} {p1 : Int32} {p2 : Int32} {out : List Int32 × List Int32 × List Int32 × List Int32 × List Int32 × List Int32 × List Int32 × List Int32 × List Int32 × List Int32 × Int32 × Int32 × Int32 × Int32 × Int32 × Int32} (hf : X5_hide refused there used hidden kind figure good load inn kept ships coughs day away isKeeping cursor free p0 p1 p2 = some out) : Ct l G yX5_hide cX5_hide 6 (some .int) 8 178 [.ref (ad 0), .int p0, .int p1, .int p2] (wM G ad refused there used hidden kind figure good load inn tape letter letterAt told kept row costs ships coughs day away taped reading statements hasImage isKeeping cursor backs free goodFor loadedWhen bareGood bareWhen rowMany lots) (some (.int out.2.2.2.2.2.2.2.2.2.2.2.2.2.2.2)) (wM G ad out.1 out.2.1 out.2.2.1 out.2.2.2.1 out.2.2.2.2.1 out.2.2.2.2.2.1 out.2.2.2.2.2.2.1 out.2.2.2.2.2.2.2.1 out.2.2.2.2.2.2.2.2.1 tape letter letterAt told out.2.2.2.2.2.2.2.2.2.1 row costs out.2.2.2.2.2.2.2.2.2.2.1 out.2.2.2.2.2.2.2.2.2.2.2.1 out.2.2.2.2.2.2.2.2.2.2.2.2.1 away taped reading statements hasImage out.2.2.2.2.2.2.2.2.2.2.2.2.2.1 out.2.2.2.2.2.2.2.2.2.2.2.2.2.2.1 backs free goodFor loadedWhen bareGood bareWhen rowMany lots) := by
  refine Ct.intro RX5 rfl (plainFor_of_name (by decide)) (Nat.le_of_ble_eq_true rfl) rfl ?_
  intro p e s m args below meth c A C H locs hs ls hl
  obtain ⟨hx, hb, hml, hown, hts, hK, hret, hlk⟩ := id C
  have hl : lv_has ls 6 [(0, .ref (ad 0)), (1, .int p0), (2, .int p1), (3, .int p2)] := hl
  unfold X5_hide at hf
  refine lv_iload_n hx hb (dk hX5_hide_0 0 rfl) rfl (lv_at hl 1 rfl) ?_
  obtain ⟨u_1, e_2, hf⟩ := Option.bind_eq_some_iff.mp hf
  refine Ct.S (As := [.int p0]) (rest := []) (st1 := [.int u_1]) (w1 := (wM G ad refused there used hidden kind figure good load inn tape letter letterAt told kept row costs ships coughs day away taped reading statements hasImage isKeeping cursor backs free goodFor loadedWhen bareGood bareWhen rowMany lots)) C hs (c_X5_isGood e_2) tw_847 tw_848 tw_85 tw_849 nq_X5_isGood (by decide) rfl hl.1 rfl (Nat.le_of_ble_eq_true rfl) (dk hX5_hide_0 1 rfl) ⟨Nat.zero_le _, Nat.zero_le _⟩ rfl (fun H locs hs => ?_)
  refine lv_if_eq (tgt := 15) hx hb (dk hX5_hide_0 2 rfl) (by decide) (fun hc => ?_) (fun hc => ?_)
  · replace hf := ip hf hc
    refine lv_iconst (v := (-1 : Int32)) hx hb (dk hX5_hide_0 7 rfl) (by decide) ?_
    refine lv_goto (tgt := 26) hx hb (dk hX5_hide_0 8 rfl) (by decide) ?_
    refine lv_istore (lv' := [(4, .int (-1 : Int32)), (0, .ref (ad 0)), (1, .int p0), (2, .int p1), (3, .int p2)]) hx hb (dk hX5_hide_0 13 rfl) hl (by decide) rfl (fun ls hl => ?_)
    refine lv_iload hx hb (dk hX5_hide_0 14 rfl) (lv_at hl 0 rfl) ?_
    refine lv_if_eq (tgt := 40) hx hb (dk hX5_hide_0 15 rfl) (by decide) (fun hc => ?_) (fun hc => ?_)
    · exact absurd hc (by decide)
    · refine lv_aload_n hx hb (dk hX5_hide_0 16 rfl) rfl (lv_at hl 1 rfl) ?_
      refine lv_iload hx hb (dk hX5_hide_0 17 rfl) (lv_at hl 0 rfl) ?_
      obtain ⟨u_3, e_4, hf⟩ := Option.bind_eq_some_iff.mp hf
      refine Ct.V (As := [.int (-1 : Int32)]) (rest := []) (st1 := [.int u_3.2]) (w1 := (wM G ad u_3.1 there used hidden kind figure good load inn tape letter letterAt told kept row costs ships coughs day away taped reading statements hasImage isKeeping cursor backs free goodFor loadedWhen bareGood bareWhen rowMany lots)) C hs (c_X5_no e_4) tw_800 tw_802 tw_21 tw_85 tw_803 nq_X5_no (by decide) 0 5 rfl rfl rfl rfl hl.1 rfl (Nat.le_of_ble_eq_true rfl) (dk hX5_hide_0 18 rfl) ⟨Nat.zero_le _, Nat.zero_le _⟩ rfl (fun H locs hs => ?_)
      cases hf
      exact ri C hs (dk hX5_hide_0 19 rfl)
  · replace hf := in_ hf hc
    refine lv_aload_n hx hb (dk hX5_hide_0 3 rfl) rfl (lv_at hl 0 rfl) ?_
    refine lv_iload_n hx hb (dk hX5_hide_0 4 rfl) rfl (lv_at hl 2 rfl) ?_
    obtain ⟨u_5, e_6, hf⟩ := Option.bind_eq_some_iff.mp hf
    refine Ct.V (As := [.int p1]) (rest := []) (st1 := [.int u_5]) (w1 := (wM G ad refused there used hidden kind figure good load inn tape letter letterAt told kept row costs ships coughs day away taped reading statements hasImage isKeeping cursor backs free goodFor loadedWhen bareGood bareWhen rowMany lots)) C hs (c_X5_isShip e_6) tw_854 tw_856 tw_32 tw_85 tw_857 nq_X5_isShip (by decide) 0 5 rfl rfl rfl rfl hl.1 rfl (Nat.le_of_ble_eq_true rfl) (dk hX5_hide_0 5 rfl) ⟨Nat.zero_le _, Nat.zero_le _⟩ rfl (fun H locs hs => ?_)
    refine lv_if_ne (tgt := 19) hx hb (dk hX5_hide_0 6 rfl) (by decide) (fun hc => ?_) (fun hc => ?_)
    · replace hf := in_ hf hc
      refine lv_iload_n hx hb (dk hX5_hide_0 9 rfl) rfl (lv_at hl 3 rfl) ?_
      refine lv_iconst (v := (1 : Int32)) hx hb (dk hX5_hide_0 10 rfl) (by decide) ?_
      refine lv_bipush (v := (60 : Int32)) hx hb (dk hX5_hide_0 11 rfl) (by decide) ?_
      obtain ⟨u_7, e_8, hf⟩ := Option.bind_eq_some_iff.mp hf
      refine Ct.S (As := [.int p2, .int (1 : Int32), .int (60 : Int32)]) (rest := []) (st1 := [.int u_7]) (w1 := (wM G ad refused there used hidden kind figure good load inn tape letter letterAt told kept row costs ships coughs day away taped reading statements hasImage isKeeping cursor backs free goodFor loadedWhen bareGood bareWhen rowMany lots)) C hs (c_X5_bound e_8) tw_797 tw_798 tw_85 tw_799 nq_X5_bound (by decide) rfl hl.1 rfl (Nat.le_of_ble_eq_true rfl) (dk hX5_hide_0 12 rfl) ⟨Nat.zero_le _, Nat.zero_le _⟩ rfl (fun H locs hs => ?_)
      refine lv_istore (lv' := [(4, .int u_7), (0, .ref (ad 0)), (1, .int p0), (2, .int p1), (3, .int p2)]) hx hb (dk hX5_hide_0 13 rfl) hl (by decide) rfl (fun ls hl => ?_)
      refine lv_iload hx hb (dk hX5_hide_0 14 rfl) (lv_at hl 0 rfl) ?_
      refine lv_if_eq (tgt := 40) hx hb (dk hX5_hide_0 15 rfl) (by decide) (fun hc => ?_) (fun hc => ?_)
      · replace hf := ip hf hc
        refine lv_iconst (v := (0 : Int32)) hx hb (dk hX5_hide_0 20 rfl) (by decide) ?_
        refine lv_istore (lv' := [(5, .int (0 : Int32)), (4, .int u_7), (0, .ref (ad 0)), (1, .int p0), (2, .int p1), (3, .int p2)]) hx hb (dk hX5_hide_0 21 rfl) hl (by decide) rfl (fun ls hl => ?_)
        refine l_X5_hide_L43 C 1000 _ _ _ _ _ _ _ _ _ _ _ _ _ _ _ hf _ _ hs _ (lv_sub hl [2, 3, 4, 5, 0] rfl) (fun there_13 used_14 hidden_15 kind_16 figure_17 good_18 load_19 inn_20 kept_21 ships_22 coughs_23 day_24 isKeeping_25 cursor_26 hf H locs hs ls hl => ?_)
        refine lv_bipush (v := (-9 : Int32)) hx hb (dk hX5_hide_0 39 rfl) (by decide) ?_
        cases hf
        exact ri C hs (dk hX5_hide_1 0 rfl)
      · replace hf := in_ hf hc
        refine lv_aload_n hx hb (dk hX5_hide_0 16 rfl) rfl (lv_at hl 1 rfl) ?_
        refine lv_iload hx hb (dk hX5_hide_0 17 rfl) (lv_at hl 0 rfl) ?_
        obtain ⟨u_27, e_28, hf⟩ := Option.bind_eq_some_iff.mp hf
        refine Ct.V (As := [.int u_7]) (rest := []) (st1 := [.int u_27.2]) (w1 := (wM G ad u_27.1 there used hidden kind figure good load inn tape letter letterAt told kept row costs ships coughs day away taped reading statements hasImage isKeeping cursor backs free goodFor loadedWhen bareGood bareWhen rowMany lots)) C hs (c_X5_no e_28) tw_800 tw_802 tw_21 tw_85 tw_803 nq_X5_no (by decide) 0 5 rfl rfl rfl rfl hl.1 rfl (Nat.le_of_ble_eq_true rfl) (dk hX5_hide_0 18 rfl) ⟨Nat.zero_le _, Nat.zero_le _⟩ rfl (fun H locs hs => ?_)
        cases hf
        exact ri C hs (dk hX5_hide_0 19 rfl)
    · replace hf := ip hf hc
      refine lv_iconst (v := (-1 : Int32)) hx hb (dk hX5_hide_0 7 rfl) (by decide) ?_
      refine lv_goto (tgt := 26) hx hb (dk hX5_hide_0 8 rfl) (by decide) ?_
      refine lv_istore (lv' := [(4, .int (-1 : Int32)), (0, .ref (ad 0)), (1, .int p0), (2, .int p1), (3, .int p2)]) hx hb (dk hX5_hide_0 13 rfl) hl (by decide) rfl (fun ls hl => ?_)
      refine lv_iload hx hb (dk hX5_hide_0 14 rfl) (lv_at hl 0 rfl) ?_
      refine lv_if_eq (tgt := 40) hx hb (dk hX5_hide_0 15 rfl) (by decide) (fun hc => ?_) (fun hc => ?_)
      · exact absurd hc (by decide)
      · refine lv_aload_n hx hb (dk hX5_hide_0 16 rfl) rfl (lv_at hl 1 rfl) ?_
        refine lv_iload hx hb (dk hX5_hide_0 17 rfl) (lv_at hl 0 rfl) ?_
        obtain ⟨u_29, e_30, hf⟩ := Option.bind_eq_some_iff.mp hf
        refine Ct.V (As := [.int (-1 : Int32)]) (rest := []) (st1 := [.int u_29.2]) (w1 := (wM G ad u_29.1 there used hidden kind figure good load inn tape letter letterAt told kept row costs ships coughs day away taped reading statements hasImage isKeeping cursor backs free goodFor loadedWhen bareGood bareWhen rowMany lots)) C hs (c_X5_no e_30) tw_800 tw_802 tw_21 tw_85 tw_803 nq_X5_no (by decide) 0 5 rfl rfl rfl rfl hl.1 rfl (Nat.le_of_ble_eq_true rfl) (dk hX5_hide_0 18 rfl) ⟨Nat.zero_le _, Nat.zero_le _⟩ rfl (fun H locs hs => ?_)
        cases hf
        exact ri C hs (dk hX5_hide_0 19 rfl)

def X5_comesShort_L7 (k : List Int32 → List Int32 → Option (List Int32 × List Int32 × List Int32 × List Int32 × List Int32 × List Int32 × List Int32 × List Int32 × List Int32 × Int32 × Int32 × Int32 × Int32 × Int32 × Int32)) (x1 : Int32) : Nat → Int32 → List Int32 → List Int32 → Option (List Int32 × List Int32 × List Int32 × List Int32 × List Int32 × List Int32 × List Int32 × List Int32 × List Int32 × Int32 × Int32 × Int32 × Int32 × Int32 × Int32)
  | 0, _, _, _ => none
  | n + 1, x4, there, hidden =>
  if (6 : Int32) ≤ x4 then
  k there hidden
  else
  (X5_has x1 x4).bind fun u_3 =>
  if u_3 = (0 : Int32) then
  (X5_hidesOf there hidden x4 (0 : Int32)).bind fun u_5 =>
  X5_comesShort_L7 k x1 n (x4 + (1 : Int32)) u_5.1 u_5.2
  else
  (rd there x4).bind fun v_7 =>
  (X5_hidesOf there hidden x4 v_7).bind fun u_9 =>
  X5_comesShort_L7 k x1 n (x4 + (1 : Int32)) u_9.1 u_9.2
def X5_comesShort (there : List Int32) (used : List Int32) (hidden : List Int32) (kind : List Int32) (figure : List Int32) (good : List Int32) (load : List Int32) (inn : List Int32) (kept : List Int32) (ships : Int32) (coughs : Int32) (day : Int32) (away : Int32) (isKeeping : Int32) (cursor : Int32) (free : Int32) (p0 : Int32) (p1 : Int32) (p2 : Int32) : Option (List Int32 × List Int32 × List Int32 × List Int32 × List Int32 × List Int32 × List Int32 × List Int32 × List Int32 × Int32 × Int32 × Int32 × Int32 × Int32 × Int32) :=
  (X5_changes there used hidden kind figure good load inn kept ships coughs day isKeeping cursor).bind fun u_1 =>
  X5_comesShort_L7 (fun there_11 hidden_12 =>
  (X5_comesIn there_11 u_1.2.1 hidden_12 u_1.2.2.2.1 u_1.2.2.2.2.1 u_1.2.2.2.2.2.1 u_1.2.2.2.2.2.2.1 u_1.2.2.2.2.2.2.2.1 u_1.2.2.2.2.2.2.2.2.1 u_1.2.2.2.2.2.2.2.2.2.1 u_1.2.2.2.2.2.2.2.2.2.2.1 u_1.2.2.2.2.2.2.2.2.2.2.2.1 away u_1.2.2.2.2.2.2.2.2.2.2.2.2.1 u_1.2.2.2.2.2.2.2.2.2.2.2.2.2 free p1 p2).bind fun u_13 =>
  if u_13.2.2.2.2.2.2.2.2.2.2.2.2.2.2 < (0 : Int32) then
  (X5_changesBack u_13.1 u_13.2.1 u_13.2.2.1 u_13.2.2.2.1 u_13.2.2.2.2.1 u_13.2.2.2.2.2.1 u_13.2.2.2.2.2.2.1 u_13.2.2.2.2.2.2.2.1 u_13.2.2.2.2.2.2.2.2.1 u_13.2.2.2.2.2.2.2.2.2.1 u_13.2.2.2.2.2.2.2.2.2.2.1 u_13.2.2.2.2.2.2.2.2.2.2.2.1 u_13.2.2.2.2.2.2.2.2.2.2.2.2.1 u_13.2.2.2.2.2.2.2.2.2.2.2.2.2.1).bind fun u_15 =>
  some (u_15.1, u_15.2.1, u_15.2.2.1, u_15.2.2.2.1, u_15.2.2.2.2.1, u_15.2.2.2.2.2.1, u_15.2.2.2.2.2.2.1, u_15.2.2.2.2.2.2.2.1, u_15.2.2.2.2.2.2.2.2.1, u_15.2.2.2.2.2.2.2.2.2.1, u_15.2.2.2.2.2.2.2.2.2.2.1, u_15.2.2.2.2.2.2.2.2.2.2.2.1, u_15.2.2.2.2.2.2.2.2.2.2.2.2.1, u_15.2.2.2.2.2.2.2.2.2.2.2.2.2, (0 : Int32))
  else
  (X5_changesBack u_13.1 u_13.2.1 u_13.2.2.1 u_13.2.2.2.1 u_13.2.2.2.2.1 u_13.2.2.2.2.2.1 u_13.2.2.2.2.2.2.1 u_13.2.2.2.2.2.2.2.1 u_13.2.2.2.2.2.2.2.2.1 u_13.2.2.2.2.2.2.2.2.2.1 u_13.2.2.2.2.2.2.2.2.2.2.1 u_13.2.2.2.2.2.2.2.2.2.2.2.1 u_13.2.2.2.2.2.2.2.2.2.2.2.2.1 u_13.2.2.2.2.2.2.2.2.2.2.2.2.2.1).bind fun u_17 =>
  some (u_17.1, u_17.2.1, u_17.2.2.1, u_17.2.2.2.1, u_17.2.2.2.2.1, u_17.2.2.2.2.2.1, u_17.2.2.2.2.2.2.1, u_17.2.2.2.2.2.2.2.1, u_17.2.2.2.2.2.2.2.2.1, u_17.2.2.2.2.2.2.2.2.2.1, u_17.2.2.2.2.2.2.2.2.2.2.1, u_17.2.2.2.2.2.2.2.2.2.2.2.1, u_17.2.2.2.2.2.2.2.2.2.2.2.2.1, u_17.2.2.2.2.2.2.2.2.2.2.2.2.2, (1 : Int32))) p0 1000 (0 : Int32) u_1.1 u_1.2.2.1
set_option maxRecDepth 100000 in
set_option maxHeartbeats 4000000 in
theorem l_X5_comesShort_L7 {l : Launch} {p : Program} {e : Env} {s : State} {m : MethodId} {args : Array Value} {below : List Frame} {meth : Method} {c : Code} {A : Nat → Prop} {G : Gx} {ad : Nat → Nat} {refused used kind figure good load inn tape letter letterAt told kept row costs : List Int32} {ships coughs day away taped reading statements hasImage isKeeping cursor backs free goodFor loadedWhen bareGood bareWhen rowMany lots : Int32} {x1 : Int32} {x2 : Int32} {x3 : Int32} {k : List Int32 → List Int32 → Option (List Int32 × List Int32 × List Int32 × List Int32 × List Int32 × List Int32 × List Int32 × List Int32 × List Int32 × Int32 × Int32 × Int32 × Int32 × Int32 × Int32)} {out : List Int32 × List Int32 × List Int32 × List Int32 × List Int32 × List Int32 × List Int32 × List Int32 × List Int32 × Int32 × Int32 × Int32 × Int32 × Int32 × Int32} (C : Cx p s m args meth c cX5_comesShort RX5 5 (some .boolean) G) : ∀ (n : Nat) (x4 : Int32) (there : List Int32) (hidden : List Int32), X5_comesShort_L7 k x1 n x4 there hidden = some out → ∀ (H : Heap) (locs : List Loc), St G A s.heap H locs (wM G ad refused there used hidden kind figure good load inn tape letter letterAt told kept row costs ships coughs day away taped reading statements hasImage isKeeping cursor backs free goodFor loadedWhen bareGood bareWhen rowMany lots) → ∀ ls : Array Slot, lv_has ls 5 [(0, .ref (ad 0)), (1, .int x1), (2, .int x2), (3, .int x3), (4, .int x4)] → (∀ (z_there : List Int32) (z_hidden : List Int32), k z_there z_hidden = some out → ∀ (H : Heap) (locs : List Loc), St G A s.heap H locs (wM G ad refused z_there used z_hidden kind figure good load inn tape letter letterAt told kept row costs ships coughs day away taped reading statements hasImage isKeeping cursor backs free goodFor loadedWhen bareGood bareWhen rowMany lots) → ∀ ls : Array Slot, lv_has ls 5 [(0, .ref (ad 0)), (2, .int x2), (3, .int x3)] → W p l e (rmOf 7 153) s m args below meth c H locs 0 0 (MQ below (Qof G A (some (.int out.2.2.2.2.2.2.2.2.2.2.2.2.2.2)) (wM G ad refused out.1 out.2.1 out.2.2.1 out.2.2.2.1 out.2.2.2.2.1 out.2.2.2.2.2.1 out.2.2.2.2.2.2.1 out.2.2.2.2.2.2.2.1 tape letter letterAt told out.2.2.2.2.2.2.2.2.1 row costs out.2.2.2.2.2.2.2.2.2.1 out.2.2.2.2.2.2.2.2.2.2.1 out.2.2.2.2.2.2.2.2.2.2.2.1 away taped reading statements hasImage out.2.2.2.2.2.2.2.2.2.2.2.2.1 out.2.2.2.2.2.2.2.2.2.2.2.2.2.1 backs free goodFor loadedWhen bareGood bareWhen rowMany lots)) args s 0 0 A) (F0 m 46 ls [])) → W p l e (rmOf 7 153) s m args below meth c H locs 0 0 (MQ below (Qof G A (some (.int out.2.2.2.2.2.2.2.2.2.2.2.2.2.2)) (wM G ad refused out.1 out.2.1 out.2.2.1 out.2.2.2.1 out.2.2.2.2.1 out.2.2.2.2.2.1 out.2.2.2.2.2.2.1 out.2.2.2.2.2.2.2.1 tape letter letterAt told out.2.2.2.2.2.2.2.2.1 row costs out.2.2.2.2.2.2.2.2.2.1 out.2.2.2.2.2.2.2.2.2.2.1 out.2.2.2.2.2.2.2.2.2.2.2.1 away taped reading statements hasImage out.2.2.2.2.2.2.2.2.2.2.2.2.1 out.2.2.2.2.2.2.2.2.2.2.2.2.2.1 backs free goodFor loadedWhen bareGood bareWhen rowMany lots)) args s 0 0 A) (F0 m 7 ls []) := by
  obtain ⟨hx, hb, hml, hown, hts, hK, hret, hlk⟩ := id C
  intro n
  induction n with
  | zero => intro x4 there hidden hf; cases hf
  | succ n ih =>
    intro x4 there hidden hf H locs hs ls hl hk
    rw [X5_comesShort_L7] at hf
    refine lv_iload hx hb (dk hX5_comesShort_0 4 rfl) (lv_at hl 4 rfl) ?_
    refine lv_bipush (v := (6 : Int32)) hx hb (dk hX5_comesShort_0 5 rfl) (by decide) ?_
    refine lv_icmp_ge (tgt := 46) hx hb (dk hX5_comesShort_0 6 rfl) (by decide) (fun hc => ?_) (fun hc => ?_)
    · replace hf := ip hf hc
      exact hk _ _ hf _ _ hs _ (lv_sub hl [0, 2, 3] rfl)
    · replace hf := in_ hf hc
      refine lv_aload_n hx hb (dk hX5_comesShort_0 7 rfl) rfl (lv_at hl 0 rfl) ?_
      refine lv_iload hx hb (dk hX5_comesShort_0 8 rfl) (lv_at hl 4 rfl) ?_
      refine lv_iload_n hx hb (dk hX5_comesShort_0 9 rfl) rfl (lv_at hl 1 rfl) ?_
      refine lv_iload hx hb (dk hX5_comesShort_0 10 rfl) (lv_at hl 4 rfl) ?_
      obtain ⟨u_3, e_4, hf⟩ := Option.bind_eq_some_iff.mp hf
      refine Ct.S (As := [.int x1, .int x4]) (rest := [.int x4, .ref (ad 0)]) (st1 := [.int u_3, .int x4, .ref (ad 0)]) (w1 := (wM G ad refused there used hidden kind figure good load inn tape letter letterAt told kept row costs ships coughs day away taped reading statements hasImage isKeeping cursor backs free goodFor loadedWhen bareGood bareWhen rowMany lots)) C hs (c_X5_has e_4) tw_874 tw_875 tw_85 tw_876 nq_X5_has (by decide) rfl hl.1 rfl (Nat.le_of_ble_eq_true rfl) (dk hX5_comesShort_0 11 rfl) ⟨Nat.zero_le _, Nat.zero_le _⟩ rfl (fun H locs hs => ?_)
      refine lv_if_eq (tgt := 36) hx hb (dk hX5_comesShort_0 12 rfl) (by decide) (fun hc => ?_) (fun hc => ?_)
      · replace hf := ip hf hc
        refine lv_iconst (v := (0 : Int32)) hx hb (dk hX5_comesShort_0 18 rfl) (by decide) ?_
        obtain ⟨u_5, e_6, hf⟩ := Option.bind_eq_some_iff.mp hf
        refine Ct.V (As := [.int x4, .int (0 : Int32)]) (rest := []) (st1 := []) (w1 := (wM G ad refused u_5.1 used u_5.2 kind figure good load inn tape letter letterAt told kept row costs ships coughs day away taped reading statements hasImage isKeeping cursor backs free goodFor loadedWhen bareGood bareWhen rowMany lots)) C hs (c_X5_hidesOf e_6) tw_927 tw_929 tw_48 tw_85 tw_930 nq_X5_hidesOf (by decide) 0 5 rfl rfl rfl rfl hl.1 rfl (Nat.le_of_ble_eq_true rfl) (dk hX5_comesShort_0 19 rfl) ⟨Nat.zero_le _, Nat.zero_le _⟩ rfl (fun H locs hs => ?_)
        refine lv_iinc (v := (x4 + (1 : Int32))) (lv' := [(4, .int (x4 + (1 : Int32))), (0, .ref (ad 0)), (1, .int x1), (2, .int x2), (3, .int x3)]) hx hb (dk hX5_comesShort_0 20 rfl) hl (k := 4) rfl (by first | rfl | decide) (by decide) rfl (fun ls hl => ?_)
        refine lv_goto (tgt := 7) hx hb (dk hX5_comesShort_0 21 rfl) (by decide) ?_
        exact ih _ _ _ hf _ _ hs _ (lv_sub hl [1, 2, 3, 4, 0] rfl) hk
      · replace hf := in_ hf hc
        refine lv_aload_n hx hb (dk hX5_comesShort_0 13 rfl) rfl (lv_at hl 0 rfl) ?_
        refine rg ui5 rfl C hs 0 rfl 1 (by decide) tw_691 rfl rfl (dk hX5_comesShort_0 14 rfl) ?_
        refine lv_iload hx hb (dk hX5_comesShort_0 15 rfl) (lv_at hl 4 rfl) ?_
        obtain ⟨v_7, e_8, hf⟩ := Option.bind_eq_some_iff.mp hf
        refine rild C hs 2 rfl e_8 (dk hX5_comesShort_0 16 rfl) ?_
        refine lv_goto (tgt := 37) hx hb (dk hX5_comesShort_0 17 rfl) (by decide) ?_
        obtain ⟨u_9, e_10, hf⟩ := Option.bind_eq_some_iff.mp hf
        refine Ct.V (As := [.int x4, .int v_7]) (rest := []) (st1 := []) (w1 := (wM G ad refused u_9.1 used u_9.2 kind figure good load inn tape letter letterAt told kept row costs ships coughs day away taped reading statements hasImage isKeeping cursor backs free goodFor loadedWhen bareGood bareWhen rowMany lots)) C hs (c_X5_hidesOf e_10) tw_927 tw_929 tw_48 tw_85 tw_930 nq_X5_hidesOf (by decide) 0 5 rfl rfl rfl rfl hl.1 rfl (Nat.le_of_ble_eq_true rfl) (dk hX5_comesShort_0 19 rfl) ⟨Nat.zero_le _, Nat.zero_le _⟩ rfl (fun H locs hs => ?_)
        refine lv_iinc (v := (x4 + (1 : Int32))) (lv' := [(4, .int (x4 + (1 : Int32))), (0, .ref (ad 0)), (1, .int x1), (2, .int x2), (3, .int x3)]) hx hb (dk hX5_comesShort_0 20 rfl) hl (k := 4) rfl (by first | rfl | decide) (by decide) rfl (fun ls hl => ?_)
        refine lv_goto (tgt := 7) hx hb (dk hX5_comesShort_0 21 rfl) (by decide) ?_
        exact ih _ _ _ hf _ _ hs _ (lv_sub hl [1, 2, 3, 4, 0] rfl) hk
set_option maxRecDepth 100000 in
set_option maxHeartbeats 4000000 in
theorem c_X5_comesShort {l : Launch} {G : Gx} {ad : Nat → Nat} {refused there used hidden kind figure good load inn tape letter letterAt told kept row costs : List Int32} {ships coughs day away taped reading statements hasImage isKeeping cursor backs free goodFor loadedWhen bareGood bareWhen rowMany lots : Int32} {p0 : Int32} {p1 : Int32} {p2 : Int32} {out : List Int32 × List Int32 × List Int32 × List Int32 × List Int32 × List Int32 × List Int32 × List Int32 × List Int32 × Int32 × Int32 × Int32 × Int32 × Int32 × Int32} (hf : X5_comesShort there used hidden kind figure good load inn kept ships coughs day away isKeeping cursor free p0 p1 p2 = some out) : Ct l G yX5_comesShort cX5_comesShort 5 (some .boolean) 7 153 [.ref (ad 0), .int p0, .int p1, .int p2] (wM G ad refused there used hidden kind figure good load inn tape letter letterAt told kept row costs ships coughs day away taped reading statements hasImage isKeeping cursor backs free goodFor loadedWhen bareGood bareWhen rowMany lots) (some (.int out.2.2.2.2.2.2.2.2.2.2.2.2.2.2)) (wM G ad refused out.1 out.2.1 out.2.2.1 out.2.2.2.1 out.2.2.2.2.1 out.2.2.2.2.2.1 out.2.2.2.2.2.2.1 out.2.2.2.2.2.2.2.1 tape letter letterAt told out.2.2.2.2.2.2.2.2.1 row costs out.2.2.2.2.2.2.2.2.2.1 out.2.2.2.2.2.2.2.2.2.2.1 out.2.2.2.2.2.2.2.2.2.2.2.1 away taped reading statements hasImage out.2.2.2.2.2.2.2.2.2.2.2.2.1 out.2.2.2.2.2.2.2.2.2.2.2.2.2.1 backs free goodFor loadedWhen bareGood bareWhen rowMany lots) := by
  refine Ct.intro RX5 rfl (plainFor_of_name (by decide)) (Nat.le_of_ble_eq_true rfl) rfl ?_
  intro p e s m args below meth c A C H locs hs ls hl
  obtain ⟨hx, hb, hml, hown, hts, hK, hret, hlk⟩ := id C
  have hl : lv_has ls 5 [(0, .ref (ad 0)), (1, .int p0), (2, .int p1), (3, .int p2)] := hl
  unfold X5_comesShort at hf
  refine lv_aload_n hx hb (dk hX5_comesShort_0 0 rfl) rfl (lv_at hl 0 rfl) ?_
  obtain ⟨u_1, e_2, hf⟩ := Option.bind_eq_some_iff.mp hf
  refine Ct.V (As := []) (rest := []) (st1 := []) (w1 := (wM G ad refused u_1.1 u_1.2.1 u_1.2.2.1 u_1.2.2.2.1 u_1.2.2.2.2.1 u_1.2.2.2.2.2.1 u_1.2.2.2.2.2.2.1 u_1.2.2.2.2.2.2.2.1 tape letter letterAt told u_1.2.2.2.2.2.2.2.2.1 row costs u_1.2.2.2.2.2.2.2.2.2.1 u_1.2.2.2.2.2.2.2.2.2.2.1 u_1.2.2.2.2.2.2.2.2.2.2.2.1 away taped reading statements hasImage u_1.2.2.2.2.2.2.2.2.2.2.2.2.1 u_1.2.2.2.2.2.2.2.2.2.2.2.2.2 backs free goodFor loadedWhen bareGood bareWhen rowMany lots)) C hs (c_X5_changes e_2) tw_1057 tw_1059 tw_60 tw_85 tw_1060 nq_X5_changes (by decide) 0 5 rfl rfl rfl rfl hl.1 rfl (Nat.le_of_ble_eq_true rfl) (dk hX5_comesShort_0 1 rfl) ⟨Nat.zero_le _, Nat.zero_le _⟩ rfl (fun H locs hs => ?_)
  refine lv_iconst (v := (0 : Int32)) hx hb (dk hX5_comesShort_0 2 rfl) (by decide) ?_
  refine lv_istore (lv' := [(4, .int (0 : Int32)), (0, .ref (ad 0)), (1, .int p0), (2, .int p1), (3, .int p2)]) hx hb (dk hX5_comesShort_0 3 rfl) hl (by decide) rfl (fun ls hl => ?_)
  refine l_X5_comesShort_L7 C 1000 _ _ _ hf _ _ hs _ (lv_sub hl [1, 2, 3, 4, 0] rfl) (fun there_11 hidden_12 hf H locs hs ls hl => ?_)
  refine lv_aload_n hx hb (dk hX5_comesShort_0 22 rfl) rfl (lv_at hl 0 rfl) ?_
  refine lv_iload_n hx hb (dk hX5_comesShort_0 23 rfl) rfl (lv_at hl 1 rfl) ?_
  refine lv_iload_n hx hb (dk hX5_comesShort_0 24 rfl) rfl (lv_at hl 2 rfl) ?_
  obtain ⟨u_13, e_14, hf⟩ := Option.bind_eq_some_iff.mp hf
  refine Ct.V (As := [.int p1, .int p2]) (rest := []) (st1 := [.int u_13.2.2.2.2.2.2.2.2.2.2.2.2.2.2]) (w1 := (wM G ad refused u_13.1 u_13.2.1 u_13.2.2.1 u_13.2.2.2.1 u_13.2.2.2.2.1 u_13.2.2.2.2.2.1 u_13.2.2.2.2.2.2.1 u_13.2.2.2.2.2.2.2.1 tape letter letterAt told u_13.2.2.2.2.2.2.2.2.1 row costs u_13.2.2.2.2.2.2.2.2.2.1 u_13.2.2.2.2.2.2.2.2.2.2.1 u_13.2.2.2.2.2.2.2.2.2.2.2.1 away taped reading statements hasImage u_13.2.2.2.2.2.2.2.2.2.2.2.2.1 u_13.2.2.2.2.2.2.2.2.2.2.2.2.2.1 backs free goodFor loadedWhen bareGood bareWhen rowMany lots)) C hs (c_X5_comesIn e_14) tw_1013 tw_1015 tw_54 tw_85 tw_1016 nq_X5_comesIn (by decide) 0 5 rfl rfl rfl rfl hl.1 rfl (Nat.le_of_ble_eq_true rfl) (dk hX5_comesShort_0 25 rfl) ⟨Nat.zero_le _, Nat.zero_le _⟩ rfl (fun H locs hs => ?_)
  refine lv_if_lt (tgt := 59) hx hb (dk hX5_comesShort_0 26 rfl) (by decide) (fun hc => ?_) (fun hc => ?_)
  · replace hf := ip hf hc
    refine lv_iconst (v := (0 : Int32)) hx hb (dk hX5_comesShort_0 29 rfl) (by decide) ?_
    refine lv_istore (lv' := [(4, .int (0 : Int32)), (0, .ref (ad 0)), (2, .int p1), (3, .int p2)]) hx hb (dk hX5_comesShort_0 30 rfl) hl (by decide) rfl (fun ls hl => ?_)
    refine lv_aload_n hx hb (dk hX5_comesShort_0 31 rfl) rfl (lv_at hl 1 rfl) ?_
    obtain ⟨u_15, e_16, hf⟩ := Option.bind_eq_some_iff.mp hf
    refine Ct.V (As := []) (rest := []) (st1 := []) (w1 := (wM G ad refused u_15.1 u_15.2.1 u_15.2.2.1 u_15.2.2.2.1 u_15.2.2.2.2.1 u_15.2.2.2.2.2.1 u_15.2.2.2.2.2.2.1 u_15.2.2.2.2.2.2.2.1 tape letter letterAt told u_15.2.2.2.2.2.2.2.2.1 row costs u_15.2.2.2.2.2.2.2.2.2.1 u_15.2.2.2.2.2.2.2.2.2.2.1 u_15.2.2.2.2.2.2.2.2.2.2.2.1 away taped reading statements hasImage u_15.2.2.2.2.2.2.2.2.2.2.2.2.1 u_15.2.2.2.2.2.2.2.2.2.2.2.2.2 backs free goodFor loadedWhen bareGood bareWhen rowMany lots)) C hs (c_X5_changesBack e_16) tw_1061 tw_1063 tw_61 tw_85 tw_1064 nq_X5_changesBack (by decide) 0 5 rfl rfl rfl rfl hl.1 rfl (Nat.le_of_ble_eq_true rfl) (dk hX5_comesShort_0 32 rfl) ⟨Nat.zero_le _, Nat.zero_le _⟩ rfl (fun H locs hs => ?_)
    refine lv_iload hx hb (dk hX5_comesShort_0 33 rfl) (lv_at hl 0 rfl) ?_
    cases hf
    exact rz (x := (0 : Int32)) rfl C hs (dk hX5_comesShort_0 34 rfl)
  · replace hf := in_ hf hc
    refine lv_iconst (v := (1 : Int32)) hx hb (dk hX5_comesShort_0 27 rfl) (by decide) ?_
    refine lv_goto (tgt := 60) hx hb (dk hX5_comesShort_0 28 rfl) (by decide) ?_
    refine lv_istore (lv' := [(4, .int (1 : Int32)), (0, .ref (ad 0)), (2, .int p1), (3, .int p2)]) hx hb (dk hX5_comesShort_0 30 rfl) hl (by decide) rfl (fun ls hl => ?_)
    refine lv_aload_n hx hb (dk hX5_comesShort_0 31 rfl) rfl (lv_at hl 1 rfl) ?_
    obtain ⟨u_17, e_18, hf⟩ := Option.bind_eq_some_iff.mp hf
    refine Ct.V (As := []) (rest := []) (st1 := []) (w1 := (wM G ad refused u_17.1 u_17.2.1 u_17.2.2.1 u_17.2.2.2.1 u_17.2.2.2.2.1 u_17.2.2.2.2.2.1 u_17.2.2.2.2.2.2.1 u_17.2.2.2.2.2.2.2.1 tape letter letterAt told u_17.2.2.2.2.2.2.2.2.1 row costs u_17.2.2.2.2.2.2.2.2.2.1 u_17.2.2.2.2.2.2.2.2.2.2.1 u_17.2.2.2.2.2.2.2.2.2.2.2.1 away taped reading statements hasImage u_17.2.2.2.2.2.2.2.2.2.2.2.2.1 u_17.2.2.2.2.2.2.2.2.2.2.2.2.2 backs free goodFor loadedWhen bareGood bareWhen rowMany lots)) C hs (c_X5_changesBack e_18) tw_1061 tw_1063 tw_61 tw_85 tw_1064 nq_X5_changesBack (by decide) 0 5 rfl rfl rfl rfl hl.1 rfl (Nat.le_of_ble_eq_true rfl) (dk hX5_comesShort_0 32 rfl) ⟨Nat.zero_le _, Nat.zero_le _⟩ rfl (fun H locs hs => ?_)
    refine lv_iload hx hb (dk hX5_comesShort_0 33 rfl) (lv_at hl 0 rfl) ?_
    cases hf
    exact rz (x := (1 : Int32)) rfl C hs (dk hX5_comesShort_0 34 rfl)

def X5_fewest_L37 (k : Int32 → List Int32 → List Int32 → List Int32 → List Int32 → List Int32 → List Int32 → List Int32 → List Int32 → List Int32 → Int32 → Int32 → Int32 → Int32 → Int32 → Option (List Int32 × List Int32 × List Int32 × List Int32 × List Int32 × List Int32 × List Int32 × List Int32 × List Int32 × List Int32 × Int32 × Int32 × Int32 × Int32 × Int32 × Int32)) (away : Int32) (free : Int32) (x1 : Int32) (x2 : Int32) : Nat → Int32 → Int32 → List Int32 → List Int32 → List Int32 → List Int32 → List Int32 → List Int32 → List Int32 → List Int32 → List Int32 → Int32 → Int32 → Int32 → Int32 → Int32 → Option (List Int32 × List Int32 × List Int32 × List Int32 × List Int32 × List Int32 × List Int32 × List Int32 × List Int32 × List Int32 × Int32 × Int32 × Int32 × Int32 × Int32 × Int32)
  | 0, _, _, _, _, _, _, _, _, _, _, _, _, _, _, _, _ => none
  | n + 1, x4, x5, there, used, hidden, kind, figure, good, load, inn, kept, ships, coughs, day, isKeeping, cursor =>
  if (63 : Int32) < x5 then
  k x4 there used hidden kind figure good load inn kept ships coughs day isKeeping cursor
  else
  if x4 < (0 : Int32) then
  (X5_comesShort there used hidden kind figure good load inn kept ships coughs day away isKeeping cursor free x5 x1 x2).bind fun u_5 =>
  if u_5.2.2.2.2.2.2.2.2.2.2.2.2.2.2 = (0 : Int32) then
  X5_fewest_L37 k away free x1 x2 n x4 (x5 + (1 : Int32)) u_5.1 u_5.2.1 u_5.2.2.1 u_5.2.2.2.1 u_5.2.2.2.2.1 u_5.2.2.2.2.2.1 u_5.2.2.2.2.2.2.1 u_5.2.2.2.2.2.2.2.1 u_5.2.2.2.2.2.2.2.2.1 u_5.2.2.2.2.2.2.2.2.2.1 u_5.2.2.2.2.2.2.2.2.2.2.1 u_5.2.2.2.2.2.2.2.2.2.2.2.1 u_5.2.2.2.2.2.2.2.2.2.2.2.2.1 u_5.2.2.2.2.2.2.2.2.2.2.2.2.2.1
  else
  X5_fewest_L37 k away free x1 x2 n x5 (x5 + (1 : Int32)) u_5.1 u_5.2.1 u_5.2.2.1 u_5.2.2.2.1 u_5.2.2.2.2.1 u_5.2.2.2.2.2.1 u_5.2.2.2.2.2.2.1 u_5.2.2.2.2.2.2.2.1 u_5.2.2.2.2.2.2.2.2.1 u_5.2.2.2.2.2.2.2.2.2.1 u_5.2.2.2.2.2.2.2.2.2.2.1 u_5.2.2.2.2.2.2.2.2.2.2.2.1 u_5.2.2.2.2.2.2.2.2.2.2.2.2.1 u_5.2.2.2.2.2.2.2.2.2.2.2.2.2.1
  else
  (X5_bits x5).bind fun u_7 =>
  (X5_bits x4).bind fun u_9 =>
  if u_9 ≤ u_7 then
  X5_fewest_L37 k away free x1 x2 n x4 (x5 + (1 : Int32)) there used hidden kind figure good load inn kept ships coughs day isKeeping cursor
  else
  (X5_comesShort there used hidden kind figure good load inn kept ships coughs day away isKeeping cursor free x5 x1 x2).bind fun u_11 =>
  if u_11.2.2.2.2.2.2.2.2.2.2.2.2.2.2 = (0 : Int32) then
  X5_fewest_L37 k away free x1 x2 n x4 (x5 + (1 : Int32)) u_11.1 u_11.2.1 u_11.2.2.1 u_11.2.2.2.1 u_11.2.2.2.2.1 u_11.2.2.2.2.2.1 u_11.2.2.2.2.2.2.1 u_11.2.2.2.2.2.2.2.1 u_11.2.2.2.2.2.2.2.2.1 u_11.2.2.2.2.2.2.2.2.2.1 u_11.2.2.2.2.2.2.2.2.2.2.1 u_11.2.2.2.2.2.2.2.2.2.2.2.1 u_11.2.2.2.2.2.2.2.2.2.2.2.2.1 u_11.2.2.2.2.2.2.2.2.2.2.2.2.2.1
  else
  X5_fewest_L37 k away free x1 x2 n x5 (x5 + (1 : Int32)) u_11.1 u_11.2.1 u_11.2.2.1 u_11.2.2.2.1 u_11.2.2.2.2.1 u_11.2.2.2.2.2.1 u_11.2.2.2.2.2.2.1 u_11.2.2.2.2.2.2.2.1 u_11.2.2.2.2.2.2.2.2.1 u_11.2.2.2.2.2.2.2.2.2.1 u_11.2.2.2.2.2.2.2.2.2.2.1 u_11.2.2.2.2.2.2.2.2.2.2.2.1 u_11.2.2.2.2.2.2.2.2.2.2.2.2.1 u_11.2.2.2.2.2.2.2.2.2.2.2.2.2.1
def X5_fewest (refused : List Int32) (there : List Int32) (used : List Int32) (hidden : List Int32) (kind : List Int32) (figure : List Int32) (good : List Int32) (load : List Int32) (inn : List Int32) (kept : List Int32) (ships : Int32) (coughs : Int32) (day : Int32) (away : Int32) (isKeeping : Int32) (cursor : Int32) (free : Int32) (p0 : Int32) (p1 : Int32) : Option (List Int32 × List Int32 × List Int32 × List Int32 × List Int32 × List Int32 × List Int32 × List Int32 × List Int32 × List Int32 × Int32 × Int32 × Int32 × Int32 × Int32 × Int32) :=
  (X5_isShip ships p0).bind fun u_1 =>
  if u_1 = (0 : Int32) then
  (X5_no refused (-1 : Int32)).bind fun u_30 =>
  some (u_30.1, there, used, hidden, kind, figure, good, load, inn, kept, ships, coughs, day, isKeeping, cursor, u_30.2)
  else
  (X5_bound p1 (1 : Int32) (60 : Int32)).bind fun u_3 =>
  if u_3 = (0 : Int32) then
  X5_fewest_L37 (fun y4_13 there_14 used_15 hidden_16 kind_17 figure_18 good_19 load_20 inn_21 kept_22 ships_23 coughs_24 day_25 isKeeping_26 cursor_27 =>
  some (refused, there_14, used_15, hidden_16, kind_17, figure_18, good_19, load_20, inn_21, kept_22, ships_23, coughs_24, day_25, isKeeping_26, cursor_27, y4_13)) away free p0 p1 1000 (-9 : Int32) (0 : Int32) there used hidden kind figure good load inn kept ships coughs day isKeeping cursor
  else
  (X5_no refused u_3).bind fun u_28 =>
  some (u_28.1, there, used, hidden, kind, figure, good, load, inn, kept, ships, coughs, day, isKeeping, cursor, u_28.2)
set_option maxRecDepth 100000 in
set_option maxHeartbeats 4000000 in
theorem l_X5_fewest_L37 {l : Launch} {p : Program} {e : Env} {s : State} {m : MethodId} {args : Array Value} {below : List Frame} {meth : Method} {c : Code} {A : Nat → Prop} {G : Gx} {ad : Nat → Nat} {refused tape letter letterAt told row costs : List Int32} {away taped reading statements hasImage backs free goodFor loadedWhen bareGood bareWhen rowMany lots : Int32} {x1 : Int32} {x2 : Int32} {k : Int32 → List Int32 → List Int32 → List Int32 → List Int32 → List Int32 → List Int32 → List Int32 → List Int32 → List Int32 → Int32 → Int32 → Int32 → Int32 → Int32 → Option (List Int32 × List Int32 × List Int32 × List Int32 × List Int32 × List Int32 × List Int32 × List Int32 × List Int32 × List Int32 × Int32 × Int32 × Int32 × Int32 × Int32 × Int32)} {out : List Int32 × List Int32 × List Int32 × List Int32 × List Int32 × List Int32 × List Int32 × List Int32 × List Int32 × List Int32 × Int32 × Int32 × Int32 × Int32 × Int32 × Int32} (C : Cx p s m args meth c cX5_fewest RX5 6 (some .int) G) : ∀ (n : Nat) (x4 : Int32) (x5 : Int32) (there : List Int32) (used : List Int32) (hidden : List Int32) (kind : List Int32) (figure : List Int32) (good : List Int32) (load : List Int32) (inn : List Int32) (kept : List Int32) (ships : Int32) (coughs : Int32) (day : Int32) (isKeeping : Int32) (cursor : Int32), X5_fewest_L37 k away free x1 x2 n x4 x5 there used hidden kind figure good load inn kept ships coughs day isKeeping cursor = some out → ∀ (H : Heap) (locs : List Loc), St G A s.heap H locs (wM G ad refused there used hidden kind figure good load inn tape letter letterAt told kept row costs ships coughs day away taped reading statements hasImage isKeeping cursor backs free goodFor loadedWhen bareGood bareWhen rowMany lots) → ∀ ls : Array Slot, lv_has ls 6 [(0, .ref (ad 0)), (1, .int x1), (2, .int x2), (4, .int x4), (5, .int x5)] → (∀ (y4 : Int32) (z_there : List Int32) (z_used : List Int32) (z_hidden : List Int32) (z_kind : List Int32) (z_figure : List Int32) (z_good : List Int32) (z_load : List Int32) (z_inn : List Int32) (z_kept : List Int32) (z_ships : Int32) (z_coughs : Int32) (z_day : Int32) (z_isKeeping : Int32) (z_cursor : Int32), k y4 z_there z_used z_hidden z_kind z_figure z_good z_load z_inn z_kept z_ships z_coughs z_day z_isKeeping z_cursor = some out → ∀ (H : Heap) (locs : List Loc), St G A s.heap H locs (wM G ad refused z_there z_used z_hidden z_kind z_figure z_good z_load z_inn tape letter letterAt told z_kept row costs z_ships z_coughs z_day away taped reading statements hasImage z_isKeeping z_cursor backs free goodFor loadedWhen bareGood bareWhen rowMany lots) → ∀ ls : Array Slot, lv_has ls 6 [(4, .int y4)] → W p l e (rmOf 8 177) s m args below meth c H locs 0 0 (MQ below (Qof G A (some (.int out.2.2.2.2.2.2.2.2.2.2.2.2.2.2.2)) (wM G ad out.1 out.2.1 out.2.2.1 out.2.2.2.1 out.2.2.2.2.1 out.2.2.2.2.2.1 out.2.2.2.2.2.2.1 out.2.2.2.2.2.2.2.1 out.2.2.2.2.2.2.2.2.1 tape letter letterAt told out.2.2.2.2.2.2.2.2.2.1 row costs out.2.2.2.2.2.2.2.2.2.2.1 out.2.2.2.2.2.2.2.2.2.2.2.1 out.2.2.2.2.2.2.2.2.2.2.2.2.1 away taped reading statements hasImage out.2.2.2.2.2.2.2.2.2.2.2.2.2.1 out.2.2.2.2.2.2.2.2.2.2.2.2.2.2.1 backs free goodFor loadedWhen bareGood bareWhen rowMany lots)) args s 0 0 A) (F0 m 83 ls [])) → W p l e (rmOf 8 177) s m args below meth c H locs 0 0 (MQ below (Qof G A (some (.int out.2.2.2.2.2.2.2.2.2.2.2.2.2.2.2)) (wM G ad out.1 out.2.1 out.2.2.1 out.2.2.2.1 out.2.2.2.2.1 out.2.2.2.2.2.1 out.2.2.2.2.2.2.1 out.2.2.2.2.2.2.2.1 out.2.2.2.2.2.2.2.2.1 tape letter letterAt told out.2.2.2.2.2.2.2.2.2.1 row costs out.2.2.2.2.2.2.2.2.2.2.1 out.2.2.2.2.2.2.2.2.2.2.2.1 out.2.2.2.2.2.2.2.2.2.2.2.2.1 away taped reading statements hasImage out.2.2.2.2.2.2.2.2.2.2.2.2.2.1 out.2.2.2.2.2.2.2.2.2.2.2.2.2.2.1 backs free goodFor loadedWhen bareGood bareWhen rowMany lots)) args s 0 0 A) (F0 m 37 ls []) := by
  obtain ⟨hx, hb, hml, hown, hts, hK, hret, hlk⟩ := id C
  intro n
  induction n with
  | zero => intro x4 x5 there used hidden kind figure good load inn kept ships coughs day isKeeping cursor hf; cases hf
  | succ n ih =>
    intro x4 x5 there used hidden kind figure good load inn kept ships coughs day isKeeping cursor hf H locs hs ls hl hk
    rw [X5_fewest_L37] at hf
    refine lv_iload hx hb (dk hX5_fewest_0 21 rfl) (lv_at hl 4 rfl) ?_
    refine lv_bipush (v := (63 : Int32)) hx hb (dk hX5_fewest_0 22 rfl) (by decide) ?_
    refine lv_icmp_gt (tgt := 83) hx hb (dk hX5_fewest_0 23 rfl) (by decide) (fun hc => ?_) (fun hc => ?_)
    · replace hf := ip hf hc
      exact hk _ _ _ _ _ _ _ _ _ _ _ _ _ _ _ hf _ _ hs _ (lv_sub hl [3] rfl)
    · replace hf := in_ hf hc
      refine lv_iload hx hb (dk hX5_fewest_0 24 rfl) (lv_at hl 3 rfl) ?_
      refine lv_if_lt (tgt := 62) hx hb (dk hX5_fewest_0 25 rfl) (by decide) (fun hc => ?_) (fun hc => ?_)
      · replace hf := ip hf hc
        refine lv_aload_n hx hb (dk hX5_fewest_0 31 rfl) rfl (lv_at hl 0 rfl) ?_
        refine lv_iload hx hb (dk hX5_fewest_0 32 rfl) (lv_at hl 4 rfl) ?_
        refine lv_iload_n hx hb (dk hX5_fewest_0 33 rfl) rfl (lv_at hl 1 rfl) ?_
        refine lv_iload_n hx hb (dk hX5_fewest_0 34 rfl) rfl (lv_at hl 2 rfl) ?_
        obtain ⟨u_5, e_6, hf⟩ := Option.bind_eq_some_iff.mp hf
        refine Ct.V (As := [.int x5, .int x1, .int x2]) (rest := []) (st1 := [.int u_5.2.2.2.2.2.2.2.2.2.2.2.2.2.2]) (w1 := (wM G ad refused u_5.1 u_5.2.1 u_5.2.2.1 u_5.2.2.2.1 u_5.2.2.2.2.1 u_5.2.2.2.2.2.1 u_5.2.2.2.2.2.2.1 u_5.2.2.2.2.2.2.2.1 tape letter letterAt told u_5.2.2.2.2.2.2.2.2.1 row costs u_5.2.2.2.2.2.2.2.2.2.1 u_5.2.2.2.2.2.2.2.2.2.2.1 u_5.2.2.2.2.2.2.2.2.2.2.2.1 away taped reading statements hasImage u_5.2.2.2.2.2.2.2.2.2.2.2.2.1 u_5.2.2.2.2.2.2.2.2.2.2.2.2.2.1 backs free goodFor loadedWhen bareGood bareWhen rowMany lots)) C hs (c_X5_comesShort e_6) tw_1053 tw_1055 tw_59 tw_85 tw_1056 nq_X5_comesShort (by decide) 0 5 rfl rfl rfl rfl hl.1 rfl (Nat.le_of_ble_eq_true rfl) (dk hX5_fewest_0 35 rfl) ⟨Nat.zero_le _, Nat.zero_le _⟩ rfl (fun H locs hs => ?_)
        refine lv_if_eq (tgt := 77) hx hb (dk hX5_fewest_0 36 rfl) (by decide) (fun hc => ?_) (fun hc => ?_)
        · replace hf := ip hf hc
          refine lv_iinc (v := (x5 + (1 : Int32))) (lv' := [(5, .int (x5 + (1 : Int32))), (0, .ref (ad 0)), (1, .int x1), (2, .int x2), (4, .int x4)]) hx hb (dk hX5_fewest_0 39 rfl) hl (k := 4) rfl (by first | rfl | decide) (by decide) rfl (fun ls hl => ?_)
          refine lv_goto (tgt := 37) hx hb (dk hX5_fewest_1 0 rfl) (by decide) ?_
          exact ih _ _ _ _ _ _ _ _ _ _ _ _ _ _ _ _ hf _ _ hs _ (lv_sub hl [1, 2, 3, 4, 0] rfl) hk
        · replace hf := in_ hf hc
          refine lv_iload hx hb (dk hX5_fewest_0 37 rfl) (lv_at hl 4 rfl) ?_
          refine lv_istore (lv' := [(4, .int x5), (0, .ref (ad 0)), (1, .int x1), (2, .int x2), (5, .int x5)]) hx hb (dk hX5_fewest_0 38 rfl) hl (by decide) rfl (fun ls hl => ?_)
          refine lv_iinc (v := (x5 + (1 : Int32))) (lv' := [(5, .int (x5 + (1 : Int32))), (4, .int x5), (0, .ref (ad 0)), (1, .int x1), (2, .int x2)]) hx hb (dk hX5_fewest_0 39 rfl) hl (k := 4) rfl (by first | rfl | decide) (by decide) rfl (fun ls hl => ?_)
          refine lv_goto (tgt := 37) hx hb (dk hX5_fewest_1 0 rfl) (by decide) ?_
          exact ih _ _ _ _ _ _ _ _ _ _ _ _ _ _ _ _ hf _ _ hs _ (lv_sub hl [2, 3, 4, 1, 0] rfl) hk
      · replace hf := in_ hf hc
        refine lv_iload hx hb (dk hX5_fewest_0 26 rfl) (lv_at hl 4 rfl) ?_
        obtain ⟨u_7, e_8, hf⟩ := Option.bind_eq_some_iff.mp hf
        refine Ct.S (As := [.int x5]) (rest := []) (st1 := [.int u_7]) (w1 := (wM G ad refused there used hidden kind figure good load inn tape letter letterAt told kept row costs ships coughs day away taped reading statements hasImage isKeeping cursor backs free goodFor loadedWhen bareGood bareWhen rowMany lots)) C hs (c_X5_bits e_8) tw_983 tw_984 tw_85 tw_985 nq_X5_bits (by decide) rfl hl.1 rfl (Nat.le_of_ble_eq_true rfl) (dk hX5_fewest_0 27 rfl) ⟨Nat.zero_le _, Nat.zero_le _⟩ rfl (fun H locs hs => ?_)
        refine lv_iload hx hb (dk hX5_fewest_0 28 rfl) (lv_at hl 3 rfl) ?_
        obtain ⟨u_9, e_10, hf⟩ := Option.bind_eq_some_iff.mp hf
        refine Ct.S (As := [.int x4]) (rest := [.int u_7]) (st1 := [.int u_9, .int u_7]) (w1 := (wM G ad refused there used hidden kind figure good load inn tape letter letterAt told kept row costs ships coughs day away taped reading statements hasImage isKeeping cursor backs free goodFor loadedWhen bareGood bareWhen rowMany lots)) C hs (c_X5_bits e_10) tw_983 tw_984 tw_85 tw_985 nq_X5_bits (by decide) rfl hl.1 rfl (Nat.le_of_ble_eq_true rfl) (dk hX5_fewest_0 29 rfl) ⟨Nat.zero_le _, Nat.zero_le _⟩ rfl (fun H locs hs => ?_)
        refine lv_icmp_ge (tgt := 77) hx hb (dk hX5_fewest_0 30 rfl) (by decide) (fun hc => ?_) (fun hc => ?_)
        · replace hf := ip hf hc
          refine lv_iinc (v := (x5 + (1 : Int32))) (lv' := [(5, .int (x5 + (1 : Int32))), (0, .ref (ad 0)), (1, .int x1), (2, .int x2), (4, .int x4)]) hx hb (dk hX5_fewest_0 39 rfl) hl (k := 4) rfl (by first | rfl | decide) (by decide) rfl (fun ls hl => ?_)
          refine lv_goto (tgt := 37) hx hb (dk hX5_fewest_1 0 rfl) (by decide) ?_
          exact ih _ _ _ _ _ _ _ _ _ _ _ _ _ _ _ _ hf _ _ hs _ (lv_sub hl [1, 2, 3, 4, 0] rfl) hk
        · replace hf := in_ hf hc
          refine lv_aload_n hx hb (dk hX5_fewest_0 31 rfl) rfl (lv_at hl 0 rfl) ?_
          refine lv_iload hx hb (dk hX5_fewest_0 32 rfl) (lv_at hl 4 rfl) ?_
          refine lv_iload_n hx hb (dk hX5_fewest_0 33 rfl) rfl (lv_at hl 1 rfl) ?_
          refine lv_iload_n hx hb (dk hX5_fewest_0 34 rfl) rfl (lv_at hl 2 rfl) ?_
          obtain ⟨u_11, e_12, hf⟩ := Option.bind_eq_some_iff.mp hf
          refine Ct.V (As := [.int x5, .int x1, .int x2]) (rest := []) (st1 := [.int u_11.2.2.2.2.2.2.2.2.2.2.2.2.2.2]) (w1 := (wM G ad refused u_11.1 u_11.2.1 u_11.2.2.1 u_11.2.2.2.1 u_11.2.2.2.2.1 u_11.2.2.2.2.2.1 u_11.2.2.2.2.2.2.1 u_11.2.2.2.2.2.2.2.1 tape letter letterAt told u_11.2.2.2.2.2.2.2.2.1 row costs u_11.2.2.2.2.2.2.2.2.2.1 u_11.2.2.2.2.2.2.2.2.2.2.1 u_11.2.2.2.2.2.2.2.2.2.2.2.1 away taped reading statements hasImage u_11.2.2.2.2.2.2.2.2.2.2.2.2.1 u_11.2.2.2.2.2.2.2.2.2.2.2.2.2.1 backs free goodFor loadedWhen bareGood bareWhen rowMany lots)) C hs (c_X5_comesShort e_12) tw_1053 tw_1055 tw_59 tw_85 tw_1056 nq_X5_comesShort (by decide) 0 5 rfl rfl rfl rfl hl.1 rfl (Nat.le_of_ble_eq_true rfl) (dk hX5_fewest_0 35 rfl) ⟨Nat.zero_le _, Nat.zero_le _⟩ rfl (fun H locs hs => ?_)
          refine lv_if_eq (tgt := 77) hx hb (dk hX5_fewest_0 36 rfl) (by decide) (fun hc => ?_) (fun hc => ?_)
          · replace hf := ip hf hc
            refine lv_iinc (v := (x5 + (1 : Int32))) (lv' := [(5, .int (x5 + (1 : Int32))), (0, .ref (ad 0)), (1, .int x1), (2, .int x2), (4, .int x4)]) hx hb (dk hX5_fewest_0 39 rfl) hl (k := 4) rfl (by first | rfl | decide) (by decide) rfl (fun ls hl => ?_)
            refine lv_goto (tgt := 37) hx hb (dk hX5_fewest_1 0 rfl) (by decide) ?_
            exact ih _ _ _ _ _ _ _ _ _ _ _ _ _ _ _ _ hf _ _ hs _ (lv_sub hl [1, 2, 3, 4, 0] rfl) hk
          · replace hf := in_ hf hc
            refine lv_iload hx hb (dk hX5_fewest_0 37 rfl) (lv_at hl 4 rfl) ?_
            refine lv_istore (lv' := [(4, .int x5), (0, .ref (ad 0)), (1, .int x1), (2, .int x2), (5, .int x5)]) hx hb (dk hX5_fewest_0 38 rfl) hl (by decide) rfl (fun ls hl => ?_)
            refine lv_iinc (v := (x5 + (1 : Int32))) (lv' := [(5, .int (x5 + (1 : Int32))), (4, .int x5), (0, .ref (ad 0)), (1, .int x1), (2, .int x2)]) hx hb (dk hX5_fewest_0 39 rfl) hl (k := 4) rfl (by first | rfl | decide) (by decide) rfl (fun ls hl => ?_)
            refine lv_goto (tgt := 37) hx hb (dk hX5_fewest_1 0 rfl) (by decide) ?_
            exact ih _ _ _ _ _ _ _ _ _ _ _ _ _ _ _ _ hf _ _ hs _ (lv_sub hl [2, 3, 4, 1, 0] rfl) hk
set_option maxRecDepth 100000 in
set_option maxHeartbeats 4000000 in
theorem c_X5_fewest {l : Launch} {G : Gx} {ad : Nat → Nat} {refused there used hidden kind figure good load inn tape letter letterAt told kept row costs : List Int32} {ships coughs day away taped reading statements hasImage isKeeping cursor backs free goodFor loadedWhen bareGood bareWhen rowMany lots : Int32} {p0 : Int32} {p1 : Int32} {out : List Int32 × List Int32 × List Int32 × List Int32 × List Int32 × List Int32 × List Int32 × List Int32 × List Int32 × List Int32 × Int32 × Int32 × Int32 × Int32 × Int32 × Int32} (hf : X5_fewest refused there used hidden kind figure good load inn kept ships coughs day away isKeeping cursor free p0 p1 = some out) : Ct l G yX5_fewest cX5_fewest 6 (some .int) 8 177 [.ref (ad 0), .int p0, .int p1] (wM G ad refused there used hidden kind figure good load inn tape letter letterAt told kept row costs ships coughs day away taped reading statements hasImage isKeeping cursor backs free goodFor loadedWhen bareGood bareWhen rowMany lots) (some (.int out.2.2.2.2.2.2.2.2.2.2.2.2.2.2.2)) (wM G ad out.1 out.2.1 out.2.2.1 out.2.2.2.1 out.2.2.2.2.1 out.2.2.2.2.2.1 out.2.2.2.2.2.2.1 out.2.2.2.2.2.2.2.1 out.2.2.2.2.2.2.2.2.1 tape letter letterAt told out.2.2.2.2.2.2.2.2.2.1 row costs out.2.2.2.2.2.2.2.2.2.2.1 out.2.2.2.2.2.2.2.2.2.2.2.1 out.2.2.2.2.2.2.2.2.2.2.2.2.1 away taped reading statements hasImage out.2.2.2.2.2.2.2.2.2.2.2.2.2.1 out.2.2.2.2.2.2.2.2.2.2.2.2.2.2.1 backs free goodFor loadedWhen bareGood bareWhen rowMany lots) := by
  refine Ct.intro RX5 rfl (plainFor_of_name (by decide)) (Nat.le_of_ble_eq_true rfl) rfl ?_
  intro p e s m args below meth c A C H locs hs ls hl
  obtain ⟨hx, hb, hml, hown, hts, hK, hret, hlk⟩ := id C
  have hl : lv_has ls 6 [(0, .ref (ad 0)), (1, .int p0), (2, .int p1)] := hl
  unfold X5_fewest at hf
  refine lv_aload_n hx hb (dk hX5_fewest_0 0 rfl) rfl (lv_at hl 0 rfl) ?_
  refine lv_iload_n hx hb (dk hX5_fewest_0 1 rfl) rfl (lv_at hl 1 rfl) ?_
  obtain ⟨u_1, e_2, hf⟩ := Option.bind_eq_some_iff.mp hf
  refine Ct.V (As := [.int p0]) (rest := []) (st1 := [.int u_1]) (w1 := (wM G ad refused there used hidden kind figure good load inn tape letter letterAt told kept row costs ships coughs day away taped reading statements hasImage isKeeping cursor backs free goodFor loadedWhen bareGood bareWhen rowMany lots)) C hs (c_X5_isShip e_2) tw_854 tw_856 tw_32 tw_85 tw_857 nq_X5_isShip (by decide) 0 5 rfl rfl rfl rfl hl.1 rfl (Nat.le_of_ble_eq_true rfl) (dk hX5_fewest_0 2 rfl) ⟨Nat.zero_le _, Nat.zero_le _⟩ rfl (fun H locs hs => ?_)
  refine lv_if_ne (tgt := 12) hx hb (dk hX5_fewest_0 3 rfl) (by decide) (fun hc => ?_) (fun hc => ?_)
  · replace hf := in_ hf hc
    refine lv_iload_n hx hb (dk hX5_fewest_0 6 rfl) rfl (lv_at hl 2 rfl) ?_
    refine lv_iconst (v := (1 : Int32)) hx hb (dk hX5_fewest_0 7 rfl) (by decide) ?_
    refine lv_bipush (v := (60 : Int32)) hx hb (dk hX5_fewest_0 8 rfl) (by decide) ?_
    obtain ⟨u_3, e_4, hf⟩ := Option.bind_eq_some_iff.mp hf
    refine Ct.S (As := [.int p1, .int (1 : Int32), .int (60 : Int32)]) (rest := []) (st1 := [.int u_3]) (w1 := (wM G ad refused there used hidden kind figure good load inn tape letter letterAt told kept row costs ships coughs day away taped reading statements hasImage isKeeping cursor backs free goodFor loadedWhen bareGood bareWhen rowMany lots)) C hs (c_X5_bound e_4) tw_797 tw_798 tw_85 tw_799 nq_X5_bound (by decide) rfl hl.1 rfl (Nat.le_of_ble_eq_true rfl) (dk hX5_fewest_0 9 rfl) ⟨Nat.zero_le _, Nat.zero_le _⟩ rfl (fun H locs hs => ?_)
    refine lv_istore_n (lv' := [(3, .int u_3), (0, .ref (ad 0)), (1, .int p0), (2, .int p1)]) hx hb (dk hX5_fewest_0 10 rfl) rfl hl (by decide) rfl (fun ls hl => ?_)
    refine lv_iload_n hx hb (dk hX5_fewest_0 11 rfl) rfl (lv_at hl 0 rfl) ?_
    refine lv_if_eq (tgt := 30) hx hb (dk hX5_fewest_0 12 rfl) (by decide) (fun hc => ?_) (fun hc => ?_)
    · replace hf := ip hf hc
      refine lv_bipush (v := (-9 : Int32)) hx hb (dk hX5_fewest_0 17 rfl) (by decide) ?_
      refine lv_istore (lv' := [(4, .int (-9 : Int32)), (3, .int u_3), (0, .ref (ad 0)), (1, .int p0), (2, .int p1)]) hx hb (dk hX5_fewest_0 18 rfl) hl (by decide) rfl (fun ls hl => ?_)
      refine lv_iconst (v := (0 : Int32)) hx hb (dk hX5_fewest_0 19 rfl) (by decide) ?_
      refine lv_istore (lv' := [(5, .int (0 : Int32)), (4, .int (-9 : Int32)), (3, .int u_3), (0, .ref (ad 0)), (1, .int p0), (2, .int p1)]) hx hb (dk hX5_fewest_0 20 rfl) hl (by decide) rfl (fun ls hl => ?_)
      refine l_X5_fewest_L37 C 1000 _ _ _ _ _ _ _ _ _ _ _ _ _ _ _ _ hf _ _ hs _ (lv_sub hl [3, 4, 5, 1, 0] rfl) (fun y4_13 there_14 used_15 hidden_16 kind_17 figure_18 good_19 load_20 inn_21 kept_22 ships_23 coughs_24 day_25 isKeeping_26 cursor_27 hf H locs hs ls hl => ?_)
      refine lv_iload hx hb (dk hX5_fewest_1 1 rfl) (lv_at hl 0 rfl) ?_
      cases hf
      exact ri C hs (dk hX5_fewest_1 2 rfl)
    · replace hf := in_ hf hc
      refine lv_aload_n hx hb (dk hX5_fewest_0 13 rfl) rfl (lv_at hl 1 rfl) ?_
      refine lv_iload_n hx hb (dk hX5_fewest_0 14 rfl) rfl (lv_at hl 0 rfl) ?_
      obtain ⟨u_28, e_29, hf⟩ := Option.bind_eq_some_iff.mp hf
      refine Ct.V (As := [.int u_3]) (rest := []) (st1 := [.int u_28.2]) (w1 := (wM G ad u_28.1 there used hidden kind figure good load inn tape letter letterAt told kept row costs ships coughs day away taped reading statements hasImage isKeeping cursor backs free goodFor loadedWhen bareGood bareWhen rowMany lots)) C hs (c_X5_no e_29) tw_800 tw_802 tw_21 tw_85 tw_803 nq_X5_no (by decide) 0 5 rfl rfl rfl rfl hl.1 rfl (Nat.le_of_ble_eq_true rfl) (dk hX5_fewest_0 15 rfl) ⟨Nat.zero_le _, Nat.zero_le _⟩ rfl (fun H locs hs => ?_)
      cases hf
      exact ri C hs (dk hX5_fewest_0 16 rfl)
  · replace hf := ip hf hc
    refine lv_iconst (v := (-1 : Int32)) hx hb (dk hX5_fewest_0 4 rfl) (by decide) ?_
    refine lv_goto (tgt := 19) hx hb (dk hX5_fewest_0 5 rfl) (by decide) ?_
    refine lv_istore_n (lv' := [(3, .int (-1 : Int32)), (0, .ref (ad 0)), (1, .int p0), (2, .int p1)]) hx hb (dk hX5_fewest_0 10 rfl) rfl hl (by decide) rfl (fun ls hl => ?_)
    refine lv_iload_n hx hb (dk hX5_fewest_0 11 rfl) rfl (lv_at hl 0 rfl) ?_
    refine lv_if_eq (tgt := 30) hx hb (dk hX5_fewest_0 12 rfl) (by decide) (fun hc => ?_) (fun hc => ?_)
    · exact absurd hc (by decide)
    · refine lv_aload_n hx hb (dk hX5_fewest_0 13 rfl) rfl (lv_at hl 1 rfl) ?_
      refine lv_iload_n hx hb (dk hX5_fewest_0 14 rfl) rfl (lv_at hl 0 rfl) ?_
      obtain ⟨u_30, e_31, hf⟩ := Option.bind_eq_some_iff.mp hf
      refine Ct.V (As := [.int (-1 : Int32)]) (rest := []) (st1 := [.int u_30.2]) (w1 := (wM G ad u_30.1 there used hidden kind figure good load inn tape letter letterAt told kept row costs ships coughs day away taped reading statements hasImage isKeeping cursor backs free goodFor loadedWhen bareGood bareWhen rowMany lots)) C hs (c_X5_no e_31) tw_800 tw_802 tw_21 tw_85 tw_803 nq_X5_no (by decide) 0 5 rfl rfl rfl rfl hl.1 rfl (Nat.le_of_ble_eq_true rfl) (dk hX5_fewest_0 15 rfl) ⟨Nat.zero_le _, Nat.zero_le _⟩ rfl (fun H locs hs => ?_)
      cases hf
      exact ri C hs (dk hX5_fewest_0 16 rfl)

def X5_comesWithout (there : List Int32) (used : List Int32) (hidden : List Int32) (kind : List Int32) (figure : List Int32) (good : List Int32) (load : List Int32) (inn : List Int32) (kept : List Int32) (ships : Int32) (coughs : Int32) (day : Int32) (away : Int32) (isKeeping : Int32) (cursor : Int32) (free : Int32) (p0 : Int32) (p1 : Int32) : Option (List Int32 × List Int32 × List Int32 × List Int32 × List Int32 × List Int32 × List Int32 × List Int32 × List Int32 × Int32 × Int32 × Int32 × Int32 × Int32 × Int32 × Int32 × Int32) :=
  (X5_isInNext there used hidden kind figure good load inn kept ships coughs day away isKeeping cursor p0 p1 (0 : Int32)).bind fun u_1 =>
  (c01 u_1.2.2.2.2.2.2.2.2.2.2.2.2.2.2.2).bind fun b_3 =>
  some (u_1.1, u_1.2.1, u_1.2.2.1, u_1.2.2.2.1, u_1.2.2.2.2.1, u_1.2.2.2.2.2.1, u_1.2.2.2.2.2.2.1, u_1.2.2.2.2.2.2.2.1, u_1.2.2.2.2.2.2.2.2.1, u_1.2.2.2.2.2.2.2.2.2.1, u_1.2.2.2.2.2.2.2.2.2.2.1, u_1.2.2.2.2.2.2.2.2.2.2.2.1, u_1.2.2.2.2.2.2.2.2.2.2.2.2.1, u_1.2.2.2.2.2.2.2.2.2.2.2.2.2.1, u_1.2.2.2.2.2.2.2.2.2.2.2.2.2.2.1, (-9 : Int32), b_3)
set_option maxRecDepth 100000 in
set_option maxHeartbeats 4000000 in
theorem c_X5_comesWithout {l : Launch} {G : Gx} {ad : Nat → Nat} {refused there used hidden kind figure good load inn tape letter letterAt told kept row costs : List Int32} {ships coughs day away taped reading statements hasImage isKeeping cursor backs free goodFor loadedWhen bareGood bareWhen rowMany lots : Int32} {p0 : Int32} {p1 : Int32} {out : List Int32 × List Int32 × List Int32 × List Int32 × List Int32 × List Int32 × List Int32 × List Int32 × List Int32 × Int32 × Int32 × Int32 × Int32 × Int32 × Int32 × Int32 × Int32} (hf : X5_comesWithout there used hidden kind figure good load inn kept ships coughs day away isKeeping cursor free p0 p1 = some out) : Ct l G yX5_comesWithout cX5_comesWithout 4 (some .boolean) 8 177 [.ref (ad 0), .int p0, .int p1] (wM G ad refused there used hidden kind figure good load inn tape letter letterAt told kept row costs ships coughs day away taped reading statements hasImage isKeeping cursor backs free goodFor loadedWhen bareGood bareWhen rowMany lots) (some (.int out.2.2.2.2.2.2.2.2.2.2.2.2.2.2.2.2)) (wM G ad refused out.1 out.2.1 out.2.2.1 out.2.2.2.1 out.2.2.2.2.1 out.2.2.2.2.2.1 out.2.2.2.2.2.2.1 out.2.2.2.2.2.2.2.1 tape letter letterAt told out.2.2.2.2.2.2.2.2.1 row costs out.2.2.2.2.2.2.2.2.2.1 out.2.2.2.2.2.2.2.2.2.2.1 out.2.2.2.2.2.2.2.2.2.2.2.1 out.2.2.2.2.2.2.2.2.2.2.2.2.1 taped reading statements hasImage out.2.2.2.2.2.2.2.2.2.2.2.2.2.1 out.2.2.2.2.2.2.2.2.2.2.2.2.2.2.1 backs out.2.2.2.2.2.2.2.2.2.2.2.2.2.2.2.1 goodFor loadedWhen bareGood bareWhen rowMany lots) := by
  refine Ct.intro RX5 rfl (plainFor_of_name (by decide)) (Nat.le_of_ble_eq_true rfl) rfl ?_
  intro p e s m args below meth c A C H locs hs ls hl
  obtain ⟨hx, hb, hml, hown, hts, hK, hret, hlk⟩ := id C
  have hl : lv_has ls 4 [(0, .ref (ad 0)), (1, .int p0), (2, .int p1)] := hl
  unfold X5_comesWithout at hf
  refine lv_aload_n hx hb (dk hX5_comesWithout_0 0 rfl) rfl (lv_at hl 0 rfl) ?_
  refine lv_iload_n hx hb (dk hX5_comesWithout_0 1 rfl) rfl (lv_at hl 1 rfl) ?_
  refine rp (w1 := (wM G ad refused there used hidden kind figure good load inn tape letter letterAt told kept row costs ships coughs day away taped reading statements hasImage isKeeping cursor backs p0 goodFor loadedWhen bareGood bareWhen rowMany lots)) tyX5 tyX5_ok nmX5 ui5 rfl C hs 0 rfl 25 (by decide) tw_715 rfl rfl rfl rfl (Nat.le_of_ble_eq_true rfl) rfl (dk hX5_comesWithout_0 2 rfl) (fun H locs hs => ?_)
  refine lv_aload_n hx hb (dk hX5_comesWithout_0 3 rfl) rfl (lv_at hl 0 rfl) ?_
  refine lv_iload_n hx hb (dk hX5_comesWithout_0 4 rfl) rfl (lv_at hl 2 rfl) ?_
  refine lv_iconst (v := (0 : Int32)) hx hb (dk hX5_comesWithout_0 5 rfl) (by decide) ?_
  obtain ⟨u_1, e_2, hf⟩ := Option.bind_eq_some_iff.mp hf
  refine Ct.V (As := [.int p1, .int (0 : Int32)]) (rest := []) (st1 := [.int u_1.2.2.2.2.2.2.2.2.2.2.2.2.2.2.2]) (w1 := (wM G ad refused u_1.1 u_1.2.1 u_1.2.2.1 u_1.2.2.2.1 u_1.2.2.2.2.1 u_1.2.2.2.2.2.1 u_1.2.2.2.2.2.2.1 u_1.2.2.2.2.2.2.2.1 tape letter letterAt told u_1.2.2.2.2.2.2.2.2.1 row costs u_1.2.2.2.2.2.2.2.2.2.1 u_1.2.2.2.2.2.2.2.2.2.2.1 u_1.2.2.2.2.2.2.2.2.2.2.2.1 u_1.2.2.2.2.2.2.2.2.2.2.2.2.1 taped reading statements hasImage u_1.2.2.2.2.2.2.2.2.2.2.2.2.2.1 u_1.2.2.2.2.2.2.2.2.2.2.2.2.2.2.1 backs p0 goodFor loadedWhen bareGood bareWhen rowMany lots)) C hs (c_X5_isInNext e_2) tw_1025 tw_1027 tw_56 tw_85 tw_1028 nq_X5_isInNext (by decide) 0 5 rfl rfl rfl rfl hl.1 rfl (Nat.le_of_ble_eq_true rfl) (dk hX5_comesWithout_0 6 rfl) ⟨Nat.zero_le _, Nat.zero_le _⟩ rfl (fun H locs hs => ?_)
  refine lv_istore_n (lv' := [(3, .int u_1.2.2.2.2.2.2.2.2.2.2.2.2.2.2.2), (0, .ref (ad 0)), (1, .int p0), (2, .int p1)]) hx hb (dk hX5_comesWithout_0 7 rfl) rfl hl (by decide) rfl (fun ls hl => ?_)
  refine lv_aload_n hx hb (dk hX5_comesWithout_0 8 rfl) rfl (lv_at hl 1 rfl) ?_
  refine lv_bipush (v := (-9 : Int32)) hx hb (dk hX5_comesWithout_0 9 rfl) (by decide) ?_
  refine rp (w1 := (wM G ad refused u_1.1 u_1.2.1 u_1.2.2.1 u_1.2.2.2.1 u_1.2.2.2.2.1 u_1.2.2.2.2.2.1 u_1.2.2.2.2.2.2.1 u_1.2.2.2.2.2.2.2.1 tape letter letterAt told u_1.2.2.2.2.2.2.2.2.1 row costs u_1.2.2.2.2.2.2.2.2.2.1 u_1.2.2.2.2.2.2.2.2.2.2.1 u_1.2.2.2.2.2.2.2.2.2.2.2.1 u_1.2.2.2.2.2.2.2.2.2.2.2.2.1 taped reading statements hasImage u_1.2.2.2.2.2.2.2.2.2.2.2.2.2.1 u_1.2.2.2.2.2.2.2.2.2.2.2.2.2.2.1 backs (-9 : Int32) goodFor loadedWhen bareGood bareWhen rowMany lots)) tyX5 tyX5_ok nmX5 ui5 rfl C hs 0 rfl 25 (by decide) tw_715 rfl rfl rfl rfl (Nat.le_of_ble_eq_true rfl) rfl (dk hX5_comesWithout_0 10 rfl) (fun H locs hs => ?_)
  refine lv_iload_n hx hb (dk hX5_comesWithout_0 11 rfl) rfl (lv_at hl 0 rfl) ?_
  obtain ⟨b_3, hz_4, hf⟩ := Option.bind_eq_some_iff.mp hf
  obtain ⟨hxe, hz⟩ := c01_z hz_4
  replace hxe := hxe.symm
  subst hxe
  cases hf
  exact rz hz C hs (dk hX5_comesWithout_0 12 rfl)

