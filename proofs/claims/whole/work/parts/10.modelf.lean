def X5_count (refused : List Int32) (there : List Int32) (used : List Int32) (inn : List Int32) (ships : Int32) (coughs : Int32) (day : Int32) (taped : Int32) (backs : Int32) (free : Int32) (rowMany : Int32) (p0 : Int32) : Option (Int32) :=
  (X5_isIn p0 (11 : Int32) (16 : Int32)).bind fun u_1 =>
  if u_1 = (0 : Int32) then
  if p0 = (0 : Int32) then
  some ships
  else
  if p0 = (1 : Int32) then
  some day
  else
  if p0 = (2 : Int32) then
  some coughs
  else
  if p0 = (3 : Int32) then
  (X5_inOnes inn ships).bind fun u_6 =>
  some u_6
  else
  if p0 = (4 : Int32) then
  (X5_allLack there used free).bind fun u_9 =>
  some u_9
  else
  if p0 = (5 : Int32) then
  some taped
  else
  if p0 = (6 : Int32) then
  some rowMany
  else
  if p0 = (7 : Int32) then
  some backs
  else
  some (-9 : Int32)
  else
  (rd refused (p0 - (10 : Int32))).bind fun v_15 =>
  some v_15
set_option maxRecDepth 100000 in
set_option maxHeartbeats 4000000 in
theorem c_X5_count {l : Launch} {G : Gx} {ad : Nat → Nat} {refused there used hidden kind figure good load inn tape letter letterAt told kept row costs : List Int32} {ships coughs day away taped reading statements hasImage isKeeping cursor backs free goodFor loadedWhen bareGood bareWhen rowMany lots : Int32} {p0 : Int32} {out : Int32} (hf : X5_count refused there used inn ships coughs day taped backs free rowMany p0 = some out) : Ct l G yX5_count cX5_count 2 (some .int) 2 43 [.ref (ad 0), .int p0] (wM G ad refused there used hidden kind figure good load inn tape letter letterAt told kept row costs ships coughs day away taped reading statements hasImage isKeeping cursor backs free goodFor loadedWhen bareGood bareWhen rowMany lots) (some (.int out)) (wM G ad refused there used hidden kind figure good load inn tape letter letterAt told kept row costs ships coughs day away taped reading statements hasImage isKeeping cursor backs free goodFor loadedWhen bareGood bareWhen rowMany lots) := by
  refine Ct.intro RX5 rfl (plainFor_of_name (by decide)) (Nat.le_of_ble_eq_true rfl) rfl ?_
  intro p e s m args below meth c A C H locs hs ls hl
  obtain ⟨hx, hb, hml, hown, hts, hK, hret, hlk⟩ := id C
  have hl : lv_has ls 2 [(0, .ref (ad 0)), (1, .int p0)] := hl
  unfold X5_count at hf
  refine lv_iload_n hx hb (dk hX5_count_0 0 rfl) rfl (lv_at hl 1 rfl) ?_
  refine lv_bipush (v := (11 : Int32)) hx hb (dk hX5_count_0 1 rfl) (by decide) ?_
  refine lv_bipush (v := (16 : Int32)) hx hb (dk hX5_count_0 2 rfl) (by decide) ?_
  obtain ⟨u_1, e_2, hf⟩ := Option.bind_eq_some_iff.mp hf
  refine Ct.S (As := [.int p0, .int (11 : Int32), .int (16 : Int32)]) (rest := []) (st1 := [.int u_1]) (w1 := (wM G ad refused there used hidden kind figure good load inn tape letter letterAt told kept row costs ships coughs day away taped reading statements hasImage isKeeping cursor backs free goodFor loadedWhen bareGood bareWhen rowMany lots)) C hs (c_X5_isIn e_2) tw_824 tw_825 tw_85 tw_826 nq_X5_isIn (by decide) rfl hl.1 rfl (Nat.le_of_ble_eq_true rfl) (dk hX5_count_0 3 rfl) ⟨Nat.zero_le _, Nat.zero_le _⟩ rfl (fun H locs hs => ?_)
  refine lv_if_eq (tgt := 21) hx hb (dk hX5_count_0 4 rfl) (by decide) (fun hc => ?_) (fun hc => ?_)
  · replace hf := ip hf hc
    refine lv_iload_n hx hb (dk hX5_count_0 12 rfl) rfl (lv_at hl 1 rfl) ?_
    by_cases hc_3 : p0 = (0 : Int32)
    · replace hf := ip hf hc_3
      refine rts (tgt := 68) (off := 46) hx hb (dk hX5_count_0 13 rfl) hc_3 (by decide) (by decide) (by decide) (by decide) ?_
      refine lv_aload_n hx hb (dk hX5_count_0 14 rfl) rfl (lv_at hl 0 rfl) ?_
      refine rg ui5 rfl C hs 0 rfl 9 (by decide) tw_699 rfl rfl (dk hX5_count_0 15 rfl) ?_
      cases hf
      exact ri C hs (dk hX5_count_0 16 rfl)
    · replace hf := in_ hf hc_3
      by_cases hc_4 : p0 = (1 : Int32)
      · replace hf := ip hf hc_4
        refine rts (tgt := 73) (off := 51) hx hb (dk hX5_count_0 13 rfl) hc_4 (by decide) (by decide) (by decide) (by decide) ?_
        refine lv_aload_n hx hb (dk hX5_count_0 17 rfl) rfl (lv_at hl 0 rfl) ?_
        refine rg ui5 rfl C hs 0 rfl 11 (by decide) tw_701 rfl rfl (dk hX5_count_0 18 rfl) ?_
        cases hf
        exact ri C hs (dk hX5_count_0 19 rfl)
      · replace hf := in_ hf hc_4
        by_cases hc_5 : p0 = (2 : Int32)
        · replace hf := ip hf hc_5
          refine rts (tgt := 78) (off := 56) hx hb (dk hX5_count_0 13 rfl) hc_5 (by decide) (by decide) (by decide) (by decide) ?_
          refine lv_aload_n hx hb (dk hX5_count_0 20 rfl) rfl (lv_at hl 0 rfl) ?_
          refine rg ui5 rfl C hs 0 rfl 10 (by decide) tw_700 rfl rfl (dk hX5_count_0 21 rfl) ?_
          cases hf
          exact ri C hs (dk hX5_count_0 22 rfl)
        · replace hf := in_ hf hc_5
          by_cases hc_8 : p0 = (3 : Int32)
          · replace hf := ip hf hc_8
            refine rts (tgt := 83) (off := 61) hx hb (dk hX5_count_0 13 rfl) hc_8 (by decide) (by decide) (by decide) (by decide) ?_
            refine lv_aload_n hx hb (dk hX5_count_0 23 rfl) rfl (lv_at hl 0 rfl) ?_
            obtain ⟨u_6, e_7, hf⟩ := Option.bind_eq_some_iff.mp hf
            refine Ct.V (As := []) (rest := []) (st1 := [.int u_6]) (w1 := (wM G ad refused there used hidden kind figure good load inn tape letter letterAt told kept row costs ships coughs day away taped reading statements hasImage isKeeping cursor backs free goodFor loadedWhen bareGood bareWhen rowMany lots)) C hs (c_X5_inOnes e_7) tw_979 tw_981 tw_50 tw_85 tw_982 nq_X5_inOnes (by decide) 0 5 rfl rfl rfl rfl hl.1 rfl (Nat.le_of_ble_eq_true rfl) (dk hX5_count_0 24 rfl) ⟨Nat.zero_le _, Nat.zero_le _⟩ rfl (fun H locs hs => ?_)
            cases hf
            exact ri C hs (dk hX5_count_0 25 rfl)
          · replace hf := in_ hf hc_8
            by_cases hc_11 : p0 = (4 : Int32)
            · replace hf := ip hf hc_11
              refine rts (tgt := 88) (off := 66) hx hb (dk hX5_count_0 13 rfl) hc_11 (by decide) (by decide) (by decide) (by decide) ?_
              refine lv_aload_n hx hb (dk hX5_count_0 26 rfl) rfl (lv_at hl 0 rfl) ?_
              obtain ⟨u_9, e_10, hf⟩ := Option.bind_eq_some_iff.mp hf
              refine Ct.V (As := []) (rest := []) (st1 := [.int u_9]) (w1 := (wM G ad refused there used hidden kind figure good load inn tape letter letterAt told kept row costs ships coughs day away taped reading statements hasImage isKeeping cursor backs free goodFor loadedWhen bareGood bareWhen rowMany lots)) C hs (c_X5_allLack e_10) tw_1081 tw_1083 tw_64 tw_85 tw_1084 nq_X5_allLack (by decide) 0 5 rfl rfl rfl rfl hl.1 rfl (Nat.le_of_ble_eq_true rfl) (dk hX5_count_0 27 rfl) ⟨Nat.zero_le _, Nat.zero_le _⟩ rfl (fun H locs hs => ?_)
              cases hf
              exact ri C hs (dk hX5_count_0 28 rfl)
            · replace hf := in_ hf hc_11
              by_cases hc_12 : p0 = (5 : Int32)
              · replace hf := ip hf hc_12
                refine rts (tgt := 93) (off := 71) hx hb (dk hX5_count_0 13 rfl) hc_12 (by decide) (by decide) (by decide) (by decide) ?_
                refine lv_aload_n hx hb (dk hX5_count_0 29 rfl) rfl (lv_at hl 0 rfl) ?_
                refine rg ui5 rfl C hs 0 rfl 17 (by decide) tw_707 rfl rfl (dk hX5_count_0 30 rfl) ?_
                cases hf
                exact ri C hs (dk hX5_count_0 31 rfl)
              · replace hf := in_ hf hc_12
                by_cases hc_13 : p0 = (6 : Int32)
                · replace hf := ip hf hc_13
                  refine rts (tgt := 98) (off := 76) hx hb (dk hX5_count_0 13 rfl) hc_13 (by decide) (by decide) (by decide) (by decide) ?_
                  refine lv_aload_n hx hb (dk hX5_count_0 32 rfl) rfl (lv_at hl 0 rfl) ?_
                  refine rg ui5 rfl C hs 0 rfl 31 (by decide) tw_721 rfl rfl (dk hX5_count_0 33 rfl) ?_
                  cases hf
                  exact ri C hs (dk hX5_count_0 34 rfl)
                · replace hf := in_ hf hc_13
                  by_cases hc_14 : p0 = (7 : Int32)
                  · replace hf := ip hf hc_14
                    refine rts (tgt := 103) (off := 81) hx hb (dk hX5_count_0 13 rfl) hc_14 (by decide) (by decide) (by decide) (by decide) ?_
                    refine lv_aload_n hx hb (dk hX5_count_0 35 rfl) rfl (lv_at hl 0 rfl) ?_
                    refine rg ui5 rfl C hs 0 rfl 24 (by decide) tw_714 rfl rfl (dk hX5_count_0 36 rfl) ?_
                    cases hf
                    exact ri C hs (dk hX5_count_0 37 rfl)
                  · replace hf := in_ hf hc_14
                    refine rtd (tgt := 108) hx hb (dk hX5_count_0 13 rfl) [0, 1, 2, 3, 4, 5, 6, 7] (by decide) (by decide) (List.forall_mem_cons.mpr ⟨ti hc_3 (by decide), List.forall_mem_cons.mpr ⟨ti hc_4 (by decide), List.forall_mem_cons.mpr ⟨ti hc_5 (by decide), List.forall_mem_cons.mpr ⟨ti hc_8 (by decide), List.forall_mem_cons.mpr ⟨ti hc_11 (by decide), List.forall_mem_cons.mpr ⟨ti hc_12 (by decide), List.forall_mem_cons.mpr ⟨ti hc_13 (by decide), List.forall_mem_cons.mpr ⟨ti hc_14 (by decide), fun _ h => absurd h List.not_mem_nil⟩⟩⟩⟩⟩⟩⟩⟩) (by decide) ?_
                    refine lv_bipush (v := (-9 : Int32)) hx hb (dk hX5_count_0 38 rfl) (by decide) ?_
                    cases hf
                    exact ri C hs (dk hX5_count_0 39 rfl)
  · replace hf := in_ hf hc
    refine lv_aload_n hx hb (dk hX5_count_0 5 rfl) rfl (lv_at hl 0 rfl) ?_
    refine rg ui5 rfl C hs 0 rfl 0 (by decide) tw_690 rfl rfl (dk hX5_count_0 6 rfl) ?_
    refine lv_iload_n hx hb (dk hX5_count_0 7 rfl) rfl (lv_at hl 1 rfl) ?_
    refine lv_bipush (v := (10 : Int32)) hx hb (dk hX5_count_0 8 rfl) (by decide) ?_
    refine lv_isub hx hb (dk hX5_count_0 9 rfl) ?_
    obtain ⟨v_15, e_16, hf⟩ := Option.bind_eq_some_iff.mp hf
    refine rild C hs 1 rfl e_16 (dk hX5_count_0 10 rfl) ?_
    cases hf
    exact ri C hs (dk hX5_count_0 11 rfl)

