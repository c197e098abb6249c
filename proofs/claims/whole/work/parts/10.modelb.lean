def X5_comesTold (there : List Int32) (used : List Int32) (hidden : List Int32) (kind : List Int32) (figure : List Int32) (good : List Int32) (load : List Int32) (inn : List Int32) (letter : List Int32) (told : List Int32) (ships : Int32) (coughs : Int32) (day : Int32) (away : Int32) (free : Int32) (p0 : Int32) : Option (List Int32 × List Int32 × List Int32 × List Int32 × List Int32 × List Int32 × List Int32 × List Int32 × Int32 × Int32 × Int32 × Int32) :=
  (rd letter p0).bind fun v_1 =>
  if v_1 = (99 : Int32) then
  (rd told ((4 : Int32) * p0)).bind fun v_3 =>
  some (there, used, hidden, kind, figure, good, load, inn, ships, v_3, day, (1 : Int32))
  else
  if v_1 = (100 : Int32) then
  (rd told ((4 : Int32) * p0)).bind fun v_6 =>
  (X5_comesDays there used hidden kind figure good load inn ships coughs day away free v_6).bind fun u_8 =>
  (c01 u_8.2.2.2.2).bind fun b_10 =>
  some (u_8.1, used, hidden, kind, figure, good, load, u_8.2.1, ships, u_8.2.2.1, u_8.2.2.2.1, b_10)
  else
  if v_1 = (111 : Int32) then
  (rd told ((4 : Int32) * p0)).bind fun v_13 =>
  (X5_isShip ships v_13).bind fun u_15 =>
  if u_15 = (0 : Int32) then
  some (there, used, hidden, kind, figure, good, load, inn, ships, coughs, day, (0 : Int32))
  else
  (rd told ((4 : Int32) * p0)).bind fun v_17 =>
  (rd inn v_17).bind fun v_19 =>
  if v_19 = (0 : Int32) then
  some (there, used, hidden, kind, figure, good, load, inn, ships, coughs, day, (0 : Int32))
  else
  (rd told ((4 : Int32) * p0)).bind fun v_21 =>
  (wr inn v_21 (0 : Int32)).bind fun inn_23 =>
  some (there, used, hidden, kind, figure, good, load, inn_23, ships, coughs, day, (1 : Int32))
  else
  if v_1 = (115 : Int32) then
  (X5_comesShip kind figure good load inn told ships ((4 : Int32) * p0)).bind fun u_26 =>
  (c01 u_26.2.2.2.2.2.2).bind fun b_28 =>
  some (there, used, hidden, u_26.1, u_26.2.1, u_26.2.2.1, u_26.2.2.2.1, u_26.2.2.2.2.1, u_26.2.2.2.2.2.1, coughs, day, b_28)
  else
  (rd letter p0).bind fun v_31 =>
  (rd told ((4 : Int32) * p0)).bind fun v_33 =>
  (rd told (((4 : Int32) * p0) + (1 : Int32))).bind fun v_35 =>
  (X5_comesGood there used hidden v_31 v_33 v_35).bind fun u_37 =>
  (c01 u_37.2.2.2).bind fun b_39 =>
  some (u_37.1, u_37.2.1, u_37.2.2.1, kind, figure, good, load, inn, ships, coughs, day, b_39)
set_option maxRecDepth 100000 in
set_option maxHeartbeats 4000000 in
theorem c_X5_comesTold {l : Launch} {G : Gx} {ad : Nat → Nat} {refused there used hidden kind figure good load inn tape letter letterAt told kept row costs : List Int32} {ships coughs day away taped reading statements hasImage isKeeping cursor backs free goodFor loadedWhen bareGood bareWhen rowMany lots : Int32} {p0 : Int32} {out : List Int32 × List Int32 × List Int32 × List Int32 × List Int32 × List Int32 × List Int32 × List Int32 × Int32 × Int32 × Int32 × Int32} (hf : X5_comesTold there used hidden kind figure good load inn letter told ships coughs day away free p0 = some out) : Ct l G yX5_comesTold cX5_comesTold 3 (some .boolean) 8 172 [.ref (ad 0), .int p0] (wM G ad refused there used hidden kind figure good load inn tape letter letterAt told kept row costs ships coughs day away taped reading statements hasImage isKeeping cursor backs free goodFor loadedWhen bareGood bareWhen rowMany lots) (some (.int out.2.2.2.2.2.2.2.2.2.2.2)) (wM G ad refused out.1 out.2.1 out.2.2.1 out.2.2.2.1 out.2.2.2.2.1 out.2.2.2.2.2.1 out.2.2.2.2.2.2.1 out.2.2.2.2.2.2.2.1 tape letter letterAt told kept row costs out.2.2.2.2.2.2.2.2.1 out.2.2.2.2.2.2.2.2.2.1 out.2.2.2.2.2.2.2.2.2.2.1 away taped reading statements hasImage isKeeping cursor backs free goodFor loadedWhen bareGood bareWhen rowMany lots) := by
  refine Ct.intro RX5 rfl (plainFor_of_name (by decide)) (Nat.le_of_ble_eq_true rfl) rfl ?_
  intro p e s m args below meth c A C H locs hs ls hl
  obtain ⟨hx, hb, hml, hown, hts, hK, hret, hlk⟩ := id C
  have hl : lv_has ls 3 [(0, .ref (ad 0)), (1, .int p0)] := hl
  unfold X5_comesTold at hf
  refine lv_iconst (v := (4 : Int32)) hx hb (dk hX5_comesTold_0 0 rfl) (by decide) ?_
  refine lv_iload_n hx hb (dk hX5_comesTold_0 1 rfl) rfl (lv_at hl 1 rfl) ?_
  refine lv_imul hx hb (dk hX5_comesTold_0 2 rfl) ?_
  refine lv_istore_n (lv' := [(2, .int ((4 : Int32) * p0)), (0, .ref (ad 0)), (1, .int p0)]) hx hb (dk hX5_comesTold_0 3 rfl) rfl hl (by decide) rfl (fun ls hl => ?_)
  refine lv_aload_n hx hb (dk hX5_comesTold_0 4 rfl) rfl (lv_at hl 1 rfl) ?_
  refine rg ui5 rfl C hs 0 rfl 14 (by decide) tw_704 rfl rfl (dk hX5_comesTold_0 5 rfl) ?_
  refine lv_iload_n hx hb (dk hX5_comesTold_0 6 rfl) rfl (lv_at hl 2 rfl) ?_
  obtain ⟨v_1, e_2, hf⟩ := Option.bind_eq_some_iff.mp hf
  refine rild C hs 11 rfl e_2 (dk hX5_comesTold_0 7 rfl) ?_
  by_cases hc_5 : v_1 = (99 : Int32)
  · replace hf := ip hf hc_5
    refine lv_lookup (tgt := 101) (off := 91) hx hb (dk hX5_comesTold_0 8 rfl) (by decide) (by rw [hc_5]; decide) (by decide) ?_
    refine lv_aload_n hx hb (dk hX5_comesTold_1 0 rfl) rfl (lv_at hl 1 rfl) ?_
    refine lv_aload_n hx hb (dk hX5_comesTold_1 1 rfl) rfl (lv_at hl 1 rfl) ?_
    refine rg ui5 rfl C hs 0 rfl 16 (by decide) tw_706 rfl rfl (dk hX5_comesTold_1 2 rfl) ?_
    refine lv_iload_n hx hb (dk hX5_comesTold_1 3 rfl) rfl (lv_at hl 0 rfl) ?_
    obtain ⟨v_3, e_4, hf⟩ := Option.bind_eq_some_iff.mp hf
    refine rild C hs 13 rfl e_4 (dk hX5_comesTold_1 4 rfl) ?_
    refine rp (w1 := (wM G ad refused there used hidden kind figure good load inn tape letter letterAt told kept row costs ships v_3 day away taped reading statements hasImage isKeeping cursor backs free goodFor loadedWhen bareGood bareWhen rowMany lots)) tyX5 tyX5_ok nmX5 ui5 rfl C hs 0 rfl 10 (by decide) tw_700 rfl rfl rfl rfl (Nat.le_of_ble_eq_true rfl) rfl (dk hX5_comesTold_1 5 rfl) (fun H locs hs => ?_)
    refine lv_iconst (v := (1 : Int32)) hx hb (dk hX5_comesTold_1 6 rfl) (by decide) ?_
    cases hf
    exact rz (x := (1 : Int32)) rfl C hs (dk hX5_comesTold_1 7 rfl)
  · replace hf := in_ hf hc_5
    by_cases hc_12 : v_1 = (100 : Int32)
    · replace hf := ip hf hc_12
      refine lv_lookup (tgt := 113) (off := 103) hx hb (dk hX5_comesTold_0 8 rfl) (by decide) (by rw [hc_12]; decide) (by decide) ?_
      refine lv_aload_n hx hb (dk hX5_comesTold_1 8 rfl) rfl (lv_at hl 1 rfl) ?_
      refine lv_aload_n hx hb (dk hX5_comesTold_1 9 rfl) rfl (lv_at hl 1 rfl) ?_
      refine rg ui5 rfl C hs 0 rfl 16 (by decide) tw_706 rfl rfl (dk hX5_comesTold_1 10 rfl) ?_
      refine lv_iload_n hx hb (dk hX5_comesTold_1 11 rfl) rfl (lv_at hl 0 rfl) ?_
      obtain ⟨v_6, e_7, hf⟩ := Option.bind_eq_some_iff.mp hf
      refine rild C hs 13 rfl e_7 (dk hX5_comesTold_1 12 rfl) ?_
      obtain ⟨u_8, e_9, hf⟩ := Option.bind_eq_some_iff.mp hf
      refine Ct.V (As := [.int v_6]) (rest := []) (st1 := [.int u_8.2.2.2.2]) (w1 := (wM G ad refused u_8.1 used hidden kind figure good load u_8.2.1 tape letter letterAt told kept row costs ships u_8.2.2.1 u_8.2.2.2.1 away taped reading statements hasImage isKeeping cursor backs free goodFor loadedWhen bareGood bareWhen rowMany lots)) C hs (c_X5_comesDays e_9) tw_858 tw_860 tw_33 tw_85 tw_861 nq_X5_comesDays (by decide) 0 5 rfl rfl rfl rfl hl.1 rfl (Nat.le_of_ble_eq_true rfl) (dk hX5_comesTold_1 13 rfl) ⟨Nat.zero_le _, Nat.zero_le _⟩ rfl (fun H locs hs => ?_)
      obtain ⟨b_10, hz_11, hf⟩ := Option.bind_eq_some_iff.mp hf
      obtain ⟨hxe, hz⟩ := c01_z hz_11
      replace hxe := hxe.symm
      subst hxe
      cases hf
      exact rz hz C hs (dk hX5_comesTold_1 14 rfl)
    · replace hf := in_ hf hc_12
      by_cases hc_25 : v_1 = (111 : Int32)
      · replace hf := ip hf hc_25
        refine lv_lookup (tgt := 58) (off := 48) hx hb (dk hX5_comesTold_0 8 rfl) (by decide) (by rw [hc_25]; decide) (by decide) ?_
        refine lv_aload_n hx hb (dk hX5_comesTold_0 13 rfl) rfl (lv_at hl 1 rfl) ?_
        refine lv_aload_n hx hb (dk hX5_comesTold_0 14 rfl) rfl (lv_at hl 1 rfl) ?_
        refine rg ui5 rfl C hs 0 rfl 16 (by decide) tw_706 rfl rfl (dk hX5_comesTold_0 15 rfl) ?_
        refine lv_iload_n hx hb (dk hX5_comesTold_0 16 rfl) rfl (lv_at hl 0 rfl) ?_
        obtain ⟨v_13, e_14, hf⟩ := Option.bind_eq_some_iff.mp hf
        refine rild C hs 13 rfl e_14 (dk hX5_comesTold_0 17 rfl) ?_
        obtain ⟨u_15, e_16, hf⟩ := Option.bind_eq_some_iff.mp hf
        refine Ct.V (As := [.int v_13]) (rest := []) (st1 := [.int u_15]) (w1 := (wM G ad refused there used hidden kind figure good load inn tape letter letterAt told kept row costs ships coughs day away taped reading statements hasImage isKeeping cursor backs free goodFor loadedWhen bareGood bareWhen rowMany lots)) C hs (c_X5_isShip e_16) tw_854 tw_856 tw_32 tw_85 tw_857 nq_X5_isShip (by decide) 0 5 rfl rfl rfl rfl hl.1 rfl (Nat.le_of_ble_eq_true rfl) (dk hX5_comesTold_0 18 rfl) ⟨Nat.zero_le _, Nat.zero_le _⟩ rfl (fun H locs hs => ?_)
        refine lv_if_eq (tgt := 85) hx hb (dk hX5_comesTold_0 19 rfl) (by decide) (fun hc => ?_) (fun hc => ?_)
        · replace hf := ip hf hc
          refine lv_iconst (v := (0 : Int32)) hx hb (dk hX5_comesTold_0 28 rfl) (by decide) ?_
          cases hf
          exact rz (x := (0 : Int32)) rfl C hs (dk hX5_comesTold_0 29 rfl)
        · replace hf := in_ hf hc
          refine lv_aload_n hx hb (dk hX5_comesTold_0 20 rfl) rfl (lv_at hl 1 rfl) ?_
          refine rg ui5 rfl C hs 0 rfl 8 (by decide) tw_698 rfl rfl (dk hX5_comesTold_0 21 rfl) ?_
          refine lv_aload_n hx hb (dk hX5_comesTold_0 22 rfl) rfl (lv_at hl 1 rfl) ?_
          refine rg ui5 rfl C hs 0 rfl 16 (by decide) tw_706 rfl rfl (dk hX5_comesTold_0 23 rfl) ?_
          refine lv_iload_n hx hb (dk hX5_comesTold_0 24 rfl) rfl (lv_at hl 0 rfl) ?_
          obtain ⟨v_17, e_18, hf⟩ := Option.bind_eq_some_iff.mp hf
          refine rild C hs 13 rfl e_18 (dk hX5_comesTold_0 25 rfl) ?_
          obtain ⟨v_19, e_20, hf⟩ := Option.bind_eq_some_iff.mp hf
          refine rild C hs 9 rfl e_20 (dk hX5_comesTold_0 26 rfl) ?_
          refine lv_if_ne (tgt := 87) hx hb (dk hX5_comesTold_0 27 rfl) (by decide) (fun hc => ?_) (fun hc => ?_)
          · replace hf := in_ hf hc
            refine lv_aload_n hx hb (dk hX5_comesTold_0 30 rfl) rfl (lv_at hl 1 rfl) ?_
            refine rg ui5 rfl C hs 0 rfl 8 (by decide) tw_698 rfl rfl (dk hX5_comesTold_0 31 rfl) ?_
            refine lv_aload_n hx hb (dk hX5_comesTold_0 32 rfl) rfl (lv_at hl 1 rfl) ?_
            refine rg ui5 rfl C hs 0 rfl 16 (by decide) tw_706 rfl rfl (dk hX5_comesTold_0 33 rfl) ?_
            refine lv_iload_n hx hb (dk hX5_comesTold_0 34 rfl) rfl (lv_at hl 0 rfl) ?_
            obtain ⟨v_21, e_22, hf⟩ := Option.bind_eq_some_iff.mp hf
            refine rild C hs 13 rfl e_22 (dk hX5_comesTold_0 35 rfl) ?_
            refine lv_iconst (v := (0 : Int32)) hx hb (dk hX5_comesTold_0 36 rfl) (by decide) ?_
            obtain ⟨inn_23, e_24, hf⟩ := Option.bind_eq_some_iff.mp hf
            refine rist (w1 := (wM G ad refused there used hidden kind figure good load inn_23 tape letter letterAt told kept row costs ships coughs day away taped reading statements hasImage isKeeping cursor backs free goodFor loadedWhen bareGood bareWhen rowMany lots)) C hs 9 rfl e_24 rfl (dk hX5_comesTold_0 37 rfl) (fun H locs hs => ?_)
            refine lv_iconst (v := (1 : Int32)) hx hb (dk hX5_comesTold_0 38 rfl) (by decide) ?_
            cases hf
            exact rz (x := (1 : Int32)) rfl C hs (dk hX5_comesTold_0 39 rfl)
          · replace hf := ip hf hc
            refine lv_iconst (v := (0 : Int32)) hx hb (dk hX5_comesTold_0 28 rfl) (by decide) ?_
            cases hf
            exact rz (x := (0 : Int32)) rfl C hs (dk hX5_comesTold_0 29 rfl)
      · replace hf := in_ hf hc_25
        by_cases hc_30 : v_1 = (115 : Int32)
        · replace hf := ip hf hc_30
          refine lv_lookup (tgt := 52) (off := 42) hx hb (dk hX5_comesTold_0 8 rfl) (by decide) (by rw [hc_30]; decide) (by decide) ?_
          refine lv_aload_n hx hb (dk hX5_comesTold_0 9 rfl) rfl (lv_at hl 1 rfl) ?_
          refine lv_iload_n hx hb (dk hX5_comesTold_0 10 rfl) rfl (lv_at hl 0 rfl) ?_
          obtain ⟨u_26, e_27, hf⟩ := Option.bind_eq_some_iff.mp hf
          refine Ct.V (As := [.int ((4 : Int32) * p0)]) (rest := []) (st1 := [.int u_26.2.2.2.2.2.2]) (w1 := (wM G ad refused there used hidden u_26.1 u_26.2.1 u_26.2.2.1 u_26.2.2.2.1 u_26.2.2.2.2.1 tape letter letterAt told kept row costs u_26.2.2.2.2.2.1 coughs day away taped reading statements hasImage isKeeping cursor backs free goodFor loadedWhen bareGood bareWhen rowMany lots)) C hs (c_X5_comesShip e_27) tw_843 tw_845 tw_30 tw_85 tw_846 nq_X5_comesShip (by decide) 0 5 rfl rfl rfl rfl hl.1 rfl (Nat.le_of_ble_eq_true rfl) (dk hX5_comesTold_0 11 rfl) ⟨Nat.zero_le _, Nat.zero_le _⟩ rfl (fun H locs hs => ?_)
          obtain ⟨b_28, hz_29, hf⟩ := Option.bind_eq_some_iff.mp hf
          obtain ⟨hxe, hz⟩ := c01_z hz_29
          replace hxe := hxe.symm
          subst hxe
          cases hf
          exact rz hz C hs (dk hX5_comesTold_0 12 rfl)
        · replace hf := in_ hf hc_30
          refine lv_lookup (tgt := 124) (off := 114) hx hb (dk hX5_comesTold_0 8 rfl) (by decide) (by simp [Op.lookupswitch.offset, Ne.symm (ti hc_5 (show _ = 99 by decide)), Ne.symm (ti hc_12 (show _ = 100 by decide)), Ne.symm (ti hc_25 (show _ = 111 by decide)), Ne.symm (ti hc_30 (show _ = 115 by decide))]) (by decide) ?_
          refine lv_aload_n hx hb (dk hX5_comesTold_1 15 rfl) rfl (lv_at hl 1 rfl) ?_
          refine lv_aload_n hx hb (dk hX5_comesTold_1 16 rfl) rfl (lv_at hl 1 rfl) ?_
          refine rg ui5 rfl C hs 0 rfl 14 (by decide) tw_704 rfl rfl (dk hX5_comesTold_1 17 rfl) ?_
          refine lv_iload_n hx hb (dk hX5_comesTold_1 18 rfl) rfl (lv_at hl 2 rfl) ?_
          obtain ⟨v_31, e_32, hf⟩ := Option.bind_eq_some_iff.mp hf
          refine rild C hs 11 rfl e_32 (dk hX5_comesTold_1 19 rfl) ?_
          refine lv_aload_n hx hb (dk hX5_comesTold_1 20 rfl) rfl (lv_at hl 1 rfl) ?_
          refine rg ui5 rfl C hs 0 rfl 16 (by decide) tw_706 rfl rfl (dk hX5_comesTold_1 21 rfl) ?_
          refine lv_iload_n hx hb (dk hX5_comesTold_1 22 rfl) rfl (lv_at hl 0 rfl) ?_
          obtain ⟨v_33, e_34, hf⟩ := Option.bind_eq_some_iff.mp hf
          refine rild C hs 13 rfl e_34 (dk hX5_comesTold_1 23 rfl) ?_
          refine lv_aload_n hx hb (dk hX5_comesTold_1 24 rfl) rfl (lv_at hl 1 rfl) ?_
          refine rg ui5 rfl C hs 0 rfl 16 (by decide) tw_706 rfl rfl (dk hX5_comesTold_1 25 rfl) ?_
          refine lv_iload_n hx hb (dk hX5_comesTold_1 26 rfl) rfl (lv_at hl 0 rfl) ?_
          refine lv_iconst (v := (1 : Int32)) hx hb (dk hX5_comesTold_1 27 rfl) (by decide) ?_
          refine lv_iadd hx hb (dk hX5_comesTold_1 28 rfl) ?_
          obtain ⟨v_35, e_36, hf⟩ := Option.bind_eq_some_iff.mp hf
          refine rild C hs 13 rfl e_36 (dk hX5_comesTold_1 29 rfl) ?_
          obtain ⟨u_37, e_38, hf⟩ := Option.bind_eq_some_iff.mp hf
          refine Ct.V (As := [.int v_31, .int v_33, .int v_35]) (rest := []) (st1 := [.int u_37.2.2.2]) (w1 := (wM G ad refused u_37.1 u_37.2.1 u_37.2.2.1 kind figure good load inn tape letter letterAt told kept row costs ships coughs day away taped reading statements hasImage isKeeping cursor backs free goodFor loadedWhen bareGood bareWhen rowMany lots)) C hs (c_X5_comesGood e_38) tw_915 tw_917 tw_45 tw_85 tw_918 nq_X5_comesGood (by decide) 0 5 rfl rfl rfl rfl hl.1 rfl (Nat.le_of_ble_eq_true rfl) (dk hX5_comesTold_1 30 rfl) ⟨Nat.zero_le _, Nat.zero_le _⟩ rfl (fun H locs hs => ?_)
          obtain ⟨b_39, hz_40, hf⟩ := Option.bind_eq_some_iff.mp hf
          obtain ⟨hxe, hz⟩ := c01_z hz_40
          replace hxe := hxe.symm
          subst hxe
          cases hf
          exact rz hz C hs (dk hX5_comesTold_1 31 rfl)

def X5_passes_L2 (k : List Int32 → List Int32 → Int32 → Option (List Int32 × List Int32 × Int32)) (isKeeping : Int32) : Nat → Int32 → List Int32 → List Int32 → Int32 → Option (List Int32 × List Int32 × Int32)
  | 0, _, _, _, _ => none
  | n + 1, x2, there, kept, cursor =>
  if (Int32.ofNat there.length) ≤ x2 then
  k there kept cursor
  else
  if isKeeping = (0 : Int32) then
  (rd kept cursor).bind fun v_1 =>
  (wr there x2 v_1).bind fun there_3 =>
  X5_passes_L2 k isKeeping n (x2 + (1 : Int32)) there_3 kept (cursor + (1 : Int32))
  else
  (rd there x2).bind fun v_5 =>
  (wr kept cursor v_5).bind fun kept_7 =>
  X5_passes_L2 k isKeeping n (x2 + (1 : Int32)) there kept_7 (cursor + (1 : Int32))
def X5_passes (there : List Int32) (kept : List Int32) (isKeeping : Int32) (cursor : Int32) : Option (List Int32 × List Int32 × Int32) :=
  X5_passes_L2 (fun there_9 kept_10 cursor_11 =>
  some (there_9, kept_10, cursor_11)) isKeeping 1000 (0 : Int32) there kept cursor
set_option maxRecDepth 100000 in
set_option maxHeartbeats 4000000 in
theorem l_X5_passes_L2 {l : Launch} {p : Program} {e : Env} {s : State} {m : MethodId} {args : Array Value} {below : List Frame} {meth : Method} {c : Code} {A : Nat → Prop} {G : Gx} {ad : Nat → Nat} {refused used hidden kind figure good load inn tape letter letterAt told row costs : List Int32} {ships coughs day away taped reading statements hasImage isKeeping backs free goodFor loadedWhen bareGood bareWhen rowMany lots : Int32} {k : List Int32 → List Int32 → Int32 → Option (List Int32 × List Int32 × Int32)} {out : List Int32 × List Int32 × Int32} (C : Cx p s m args meth c cX5_passes RX5 3 (none) G) : ∀ (n : Nat) (x2 : Int32) (there : List Int32) (kept : List Int32) (cursor : Int32), X5_passes_L2 k isKeeping n x2 there kept cursor = some out → ∀ (H : Heap) (locs : List Loc), St G A s.heap H locs (wM G ad refused there used hidden kind figure good load inn tape letter letterAt told kept row costs ships coughs day away taped reading statements hasImage isKeeping cursor backs free goodFor loadedWhen bareGood bareWhen rowMany lots) → ∀ ls : Array Slot, lv_has ls 3 [(0, .ref (ad 0)), (1, .ref (ad 2)), (2, .int x2)] → (∀ (z_there : List Int32) (z_kept : List Int32) (z_cursor : Int32), k z_there z_kept z_cursor = some out → ∀ (H : Heap) (locs : List Loc), St G A s.heap H locs (wM G ad refused z_there used hidden kind figure good load inn tape letter letterAt told z_kept row costs ships coughs day away taped reading statements hasImage isKeeping z_cursor backs free goodFor loadedWhen bareGood bareWhen rowMany lots) → ∀ ls : Array Slot, lv_has ls 3 [] → W p l e (rmOf 0 0) s m args below meth c H locs 0 0 (MQ below (Qof G A (none) (wM G ad refused out.1 used hidden kind figure good load inn tape letter letterAt told out.2.1 row costs ships coughs day away taped reading statements hasImage isKeeping out.2.2 backs free goodFor loadedWhen bareGood bareWhen rowMany lots)) args s 0 0 A) (F0 m 58 ls [])) → W p l e (rmOf 0 0) s m args below meth c H locs 0 0 (MQ below (Qof G A (none) (wM G ad refused out.1 used hidden kind figure good load inn tape letter letterAt told out.2.1 row costs ships coughs day away taped reading statements hasImage isKeeping out.2.2 backs free goodFor loadedWhen bareGood bareWhen rowMany lots)) args s 0 0 A) (F0 m 2 ls []) := by
  obtain ⟨hx, hb, hml, hown, hts, hK, hret, hlk⟩ := id C
  intro n
  induction n with
  | zero => intro x2 there kept cursor hf; cases hf
  | succ n ih =>
    intro x2 there kept cursor hf H locs hs ls hl hk
    rw [X5_passes_L2] at hf
    refine lv_iload_n hx hb (dk hX5_passes_0 2 rfl) rfl (lv_at hl 2 rfl) ?_
    refine lv_aload_n hx hb (dk hX5_passes_0 3 rfl) rfl (lv_at hl 1 rfl) ?_
    refine rlen C hs 2 rfl (dk hX5_passes_0 4 rfl) ?_
    refine lv_icmp_ge (tgt := 58) hx hb (dk hX5_passes_0 5 rfl) (by decide) (fun hc => ?_) (fun hc => ?_)
    · replace hf := ip hf hc
      exact hk _ _ _ hf _ _ hs _ (lv_sub hl [] rfl)
    · replace hf := in_ hf hc
      refine lv_aload_n hx hb (dk hX5_passes_0 6 rfl) rfl (lv_at hl 0 rfl) ?_
      refine rg ui5 rfl C hs 0 rfl 22 (by decide) tw_712 rfl rfl (dk hX5_passes_0 7 rfl) ?_
      refine lv_if_eq (tgt := 30) hx hb (dk hX5_passes_0 8 rfl) (by decide) (fun hc => ?_) (fun hc => ?_)
      · replace hf := ip hf hc
        refine lv_aload_n hx hb (dk hX5_passes_0 18 rfl) rfl (lv_at hl 1 rfl) ?_
        refine lv_iload_n hx hb (dk hX5_passes_0 19 rfl) rfl (lv_at hl 2 rfl) ?_
        refine lv_aload_n hx hb (dk hX5_passes_0 20 rfl) rfl (lv_at hl 0 rfl) ?_
        refine rg ui5 rfl C hs 0 rfl 20 (by decide) tw_710 rfl rfl (dk hX5_passes_0 21 rfl) ?_
        refine lv_aload_n hx hb (dk hX5_passes_0 22 rfl) rfl (lv_at hl 0 rfl) ?_
        refine rg ui5 rfl C hs 0 rfl 23 (by decide) tw_713 rfl rfl (dk hX5_passes_0 23 rfl) ?_
        obtain ⟨v_1, e_2, hf⟩ := Option.bind_eq_some_iff.mp hf
        refine rild C hs 14 rfl e_2 (dk hX5_passes_0 24 rfl) ?_
        obtain ⟨there_3, e_4, hf⟩ := Option.bind_eq_some_iff.mp hf
        refine rist (w1 := (wM G ad refused there_3 used hidden kind figure good load inn tape letter letterAt told kept row costs ships coughs day away taped reading statements hasImage isKeeping cursor backs free goodFor loadedWhen bareGood bareWhen rowMany lots)) C hs 2 rfl e_4 rfl (dk hX5_passes_0 25 rfl) (fun H locs hs => ?_)
        refine lv_aload_n hx hb (dk hX5_passes_0 26 rfl) rfl (lv_at hl 0 rfl) ?_
        refine lv_dup hx hb (dk hX5_passes_0 27 rfl) rfl ?_
        refine rg ui5 rfl C hs 0 rfl 23 (by decide) tw_713 rfl rfl (dk hX5_passes_0 28 rfl) ?_
        refine lv_iconst (v := (1 : Int32)) hx hb (dk hX5_passes_0 29 rfl) (by decide) ?_
        refine lv_iadd hx hb (dk hX5_passes_0 30 rfl) ?_
        refine rp (w1 := (wM G ad refused there_3 used hidden kind figure good load inn tape letter letterAt told kept row costs ships coughs day away taped reading statements hasImage isKeeping (cursor + (1 : Int32)) backs free goodFor loadedWhen bareGood bareWhen rowMany lots)) tyX5 tyX5_ok nmX5 ui5 rfl C hs 0 rfl 23 (by decide) tw_713 rfl rfl rfl rfl (Nat.le_of_ble_eq_true rfl) rfl (dk hX5_passes_0 31 rfl) (fun H locs hs => ?_)
        refine lv_iinc (v := (x2 + (1 : Int32))) (lv' := [(2, .int (x2 + (1 : Int32))), (0, .ref (ad 0)), (1, .ref (ad 2))]) hx hb (dk hX5_passes_0 32 rfl) hl (k := 2) rfl (by first | rfl | decide) (by decide) rfl (fun ls hl => ?_)
        refine lv_goto (tgt := 2) hx hb (dk hX5_passes_0 33 rfl) (by decide) ?_
        exact ih _ _ _ _ hf _ _ hs _ (lv_sub hl [1, 2, 0] rfl) hk
      · replace hf := in_ hf hc
        refine lv_aload_n hx hb (dk hX5_passes_0 9 rfl) rfl (lv_at hl 0 rfl) ?_
        refine rg ui5 rfl C hs 0 rfl 20 (by decide) tw_710 rfl rfl (dk hX5_passes_0 10 rfl) ?_
        refine lv_aload_n hx hb (dk hX5_passes_0 11 rfl) rfl (lv_at hl 0 rfl) ?_
        refine rg ui5 rfl C hs 0 rfl 23 (by decide) tw_713 rfl rfl (dk hX5_passes_0 12 rfl) ?_
        refine lv_aload_n hx hb (dk hX5_passes_0 13 rfl) rfl (lv_at hl 1 rfl) ?_
        refine lv_iload_n hx hb (dk hX5_passes_0 14 rfl) rfl (lv_at hl 2 rfl) ?_
        obtain ⟨v_5, e_6, hf⟩ := Option.bind_eq_some_iff.mp hf
        refine rild C hs 2 rfl e_6 (dk hX5_passes_0 15 rfl) ?_
        obtain ⟨kept_7, e_8, hf⟩ := Option.bind_eq_some_iff.mp hf
        refine rist (w1 := (wM G ad refused there used hidden kind figure good load inn tape letter letterAt told kept_7 row costs ships coughs day away taped reading statements hasImage isKeeping cursor backs free goodFor loadedWhen bareGood bareWhen rowMany lots)) C hs 14 rfl e_8 rfl (dk hX5_passes_0 16 rfl) (fun H locs hs => ?_)
        refine lv_goto (tgt := 42) hx hb (dk hX5_passes_0 17 rfl) (by decide) ?_
        refine lv_aload_n hx hb (dk hX5_passes_0 26 rfl) rfl (lv_at hl 0 rfl) ?_
        refine lv_dup hx hb (dk hX5_passes_0 27 rfl) rfl ?_
        refine rg ui5 rfl C hs 0 rfl 23 (by decide) tw_713 rfl rfl (dk hX5_passes_0 28 rfl) ?_
        refine lv_iconst (v := (1 : Int32)) hx hb (dk hX5_passes_0 29 rfl) (by decide) ?_
        refine lv_iadd hx hb (dk hX5_passes_0 30 rfl) ?_
        refine rp (w1 := (wM G ad refused there used hidden kind figure good load inn tape letter letterAt told kept_7 row costs ships coughs day away taped reading statements hasImage isKeeping (cursor + (1 : Int32)) backs free goodFor loadedWhen bareGood bareWhen rowMany lots)) tyX5 tyX5_ok nmX5 ui5 rfl C hs 0 rfl 23 (by decide) tw_713 rfl rfl rfl rfl (Nat.le_of_ble_eq_true rfl) rfl (dk hX5_passes_0 31 rfl) (fun H locs hs => ?_)
        refine lv_iinc (v := (x2 + (1 : Int32))) (lv' := [(2, .int (x2 + (1 : Int32))), (0, .ref (ad 0)), (1, .ref (ad 2))]) hx hb (dk hX5_passes_0 32 rfl) hl (k := 2) rfl (by first | rfl | decide) (by decide) rfl (fun ls hl => ?_)
        refine lv_goto (tgt := 2) hx hb (dk hX5_passes_0 33 rfl) (by decide) ?_
        exact ih _ _ _ _ hf _ _ hs _ (lv_sub hl [1, 2, 0] rfl) hk
set_option maxRecDepth 100000 in
set_option maxHeartbeats 4000000 in
theorem c_X5_passes {l : Launch} {G : Gx} {ad : Nat → Nat} {refused there used hidden kind figure good load inn tape letter letterAt told kept row costs : List Int32} {ships coughs day away taped reading statements hasImage isKeeping cursor backs free goodFor loadedWhen bareGood bareWhen rowMany lots : Int32}  {out : List Int32 × List Int32 × Int32} (hf : X5_passes there kept isKeeping cursor = some out) : Ct l G yX5_passes cX5_passes 3 (none) 0 0 [.ref (ad 0), .ref (ad 2)] (wM G ad refused there used hidden kind figure good load inn tape letter letterAt told kept row costs ships coughs day away taped reading statements hasImage isKeeping cursor backs free goodFor loadedWhen bareGood bareWhen rowMany lots) (none) (wM G ad refused out.1 used hidden kind figure good load inn tape letter letterAt told out.2.1 row costs ships coughs day away taped reading statements hasImage isKeeping out.2.2 backs free goodFor loadedWhen bareGood bareWhen rowMany lots) := by
  refine Ct.intro RX5 rfl (plainFor_of_name (by decide)) (Nat.le_of_ble_eq_true rfl) rfl ?_
  intro p e s m args below meth c A C H locs hs ls hl
  obtain ⟨hx, hb, hml, hown, hts, hK, hret, hlk⟩ := id C
  have hl : lv_has ls 3 [(0, .ref (ad 0)), (1, .ref (ad 2))] := hl
  unfold X5_passes at hf
  refine lv_iconst (v := (0 : Int32)) hx hb (dk hX5_passes_0 0 rfl) (by decide) ?_
  refine lv_istore_n (lv' := [(2, .int (0 : Int32)), (0, .ref (ad 0)), (1, .ref (ad 2))]) hx hb (dk hX5_passes_0 1 rfl) rfl hl (by decide) rfl (fun ls hl => ?_)
  refine l_X5_passes_L2 C 1000 _ _ _ _ hf _ _ hs _ (lv_sub hl [1, 2, 0] rfl) (fun there_9 kept_10 cursor_11 hf H locs hs ls hl => ?_)
  cases hf
  exact rv C hs (dk hX5_passes_0 34 rfl)

set_option maxRecDepth 100000 in
set_option maxHeartbeats 4000000 in
theorem l_X5_passes__used_L2 {l : Launch} {p : Program} {e : Env} {s : State} {m : MethodId} {args : Array Value} {below : List Frame} {meth : Method} {c : Code} {A : Nat → Prop} {G : Gx} {ad : Nat → Nat} {refused there hidden kind figure good load inn tape letter letterAt told row costs : List Int32} {ships coughs day away taped reading statements hasImage isKeeping backs free goodFor loadedWhen bareGood bareWhen rowMany lots : Int32} {k : List Int32 → List Int32 → Int32 → Option (List Int32 × List Int32 × Int32)} {out : List Int32 × List Int32 × Int32} (C : Cx p s m args meth c cX5_passes RX5 3 (none) G) : ∀ (n : Nat) (x2 : Int32) (used : List Int32) (kept : List Int32) (cursor : Int32), X5_passes_L2 k isKeeping n x2 used kept cursor = some out → ∀ (H : Heap) (locs : List Loc), St G A s.heap H locs (wM G ad refused there used hidden kind figure good load inn tape letter letterAt told kept row costs ships coughs day away taped reading statements hasImage isKeeping cursor backs free goodFor loadedWhen bareGood bareWhen rowMany lots) → ∀ ls : Array Slot, lv_has ls 3 [(0, .ref (ad 0)), (1, .ref (ad 3)), (2, .int x2)] → (∀ (z_used : List Int32) (z_kept : List Int32) (z_cursor : Int32), k z_used z_kept z_cursor = some out → ∀ (H : Heap) (locs : List Loc), St G A s.heap H locs (wM G ad refused there z_used hidden kind figure good load inn tape letter letterAt told z_kept row costs ships coughs day away taped reading statements hasImage isKeeping z_cursor backs free goodFor loadedWhen bareGood bareWhen rowMany lots) → ∀ ls : Array Slot, lv_has ls 3 [] → W p l e (rmOf 0 0) s m args below meth c H locs 0 0 (MQ below (Qof G A (none) (wM G ad refused there out.1 hidden kind figure good load inn tape letter letterAt told out.2.1 row costs ships coughs day away taped reading statements hasImage isKeeping out.2.2 backs free goodFor loadedWhen bareGood bareWhen rowMany lots)) args s 0 0 A) (F0 m 58 ls [])) → W p l e (rmOf 0 0) s m args below meth c H locs 0 0 (MQ below (Qof G A (none) (wM G ad refused there out.1 hidden kind figure good load inn tape letter letterAt told out.2.1 row costs ships coughs day away taped reading statements hasImage isKeeping out.2.2 backs free goodFor loadedWhen bareGood bareWhen rowMany lots)) args s 0 0 A) (F0 m 2 ls []) := by
  obtain ⟨hx, hb, hml, hown, hts, hK, hret, hlk⟩ := id C
  intro n
  induction n with
  | zero => intro x2 used kept cursor hf; cases hf
  | succ n ih =>
    intro x2 used kept cursor hf H locs hs ls hl hk
    rw [X5_passes_L2] at hf
    refine lv_iload_n hx hb (dk hX5_passes_0 2 rfl) rfl (lv_at hl 2 rfl) ?_
    refine lv_aload_n hx hb (dk hX5_passes_0 3 rfl) rfl (lv_at hl 1 rfl) ?_
    refine rlen C hs 3 rfl (dk hX5_passes_0 4 rfl) ?_
    refine lv_icmp_ge (tgt := 58) hx hb (dk hX5_passes_0 5 rfl) (by decide) (fun hc => ?_) (fun hc => ?_)
    · replace hf := ip hf hc
      exact hk _ _ _ hf _ _ hs _ (lv_sub hl [] rfl)
    · replace hf := in_ hf hc
      refine lv_aload_n hx hb (dk hX5_passes_0 6 rfl) rfl (lv_at hl 0 rfl) ?_
      refine rg ui5 rfl C hs 0 rfl 22 (by decide) tw_712 rfl rfl (dk hX5_passes_0 7 rfl) ?_
      refine lv_if_eq (tgt := 30) hx hb (dk hX5_passes_0 8 rfl) (by decide) (fun hc => ?_) (fun hc => ?_)
      · replace hf := ip hf hc
        refine lv_aload_n hx hb (dk hX5_passes_0 18 rfl) rfl (lv_at hl 1 rfl) ?_
        refine lv_iload_n hx hb (dk hX5_passes_0 19 rfl) rfl (lv_at hl 2 rfl) ?_
        refine lv_aload_n hx hb (dk hX5_passes_0 20 rfl) rfl (lv_at hl 0 rfl) ?_
        refine rg ui5 rfl C hs 0 rfl 20 (by decide) tw_710 rfl rfl (dk hX5_passes_0 21 rfl) ?_
        refine lv_aload_n hx hb (dk hX5_passes_0 22 rfl) rfl (lv_at hl 0 rfl) ?_
        refine rg ui5 rfl C hs 0 rfl 23 (by decide) tw_713 rfl rfl (dk hX5_passes_0 23 rfl) ?_
        obtain ⟨v_1, e_2, hf⟩ := Option.bind_eq_some_iff.mp hf
        refine rild C hs 14 rfl e_2 (dk hX5_passes_0 24 rfl) ?_
        obtain ⟨used_3, e_4, hf⟩ := Option.bind_eq_some_iff.mp hf
        refine rist (w1 := (wM G ad refused there used_3 hidden kind figure good load inn tape letter letterAt told kept row costs ships coughs day away taped reading statements hasImage isKeeping cursor backs free goodFor loadedWhen bareGood bareWhen rowMany lots)) C hs 3 rfl e_4 rfl (dk hX5_passes_0 25 rfl) (fun H locs hs => ?_)
        refine lv_aload_n hx hb (dk hX5_passes_0 26 rfl) rfl (lv_at hl 0 rfl) ?_
        refine lv_dup hx hb (dk hX5_passes_0 27 rfl) rfl ?_
        refine rg ui5 rfl C hs 0 rfl 23 (by decide) tw_713 rfl rfl (dk hX5_passes_0 28 rfl) ?_
        refine lv_iconst (v := (1 : Int32)) hx hb (dk hX5_passes_0 29 rfl) (by decide) ?_
        refine lv_iadd hx hb (dk hX5_passes_0 30 rfl) ?_
        refine rp (w1 := (wM G ad refused there used_3 hidden kind figure good load inn tape letter letterAt told kept row costs ships coughs day away taped reading statements hasImage isKeeping (cursor + (1 : Int32)) backs free goodFor loadedWhen bareGood bareWhen rowMany lots)) tyX5 tyX5_ok nmX5 ui5 rfl C hs 0 rfl 23 (by decide) tw_713 rfl rfl rfl rfl (Nat.le_of_ble_eq_true rfl) rfl (dk hX5_passes_0 31 rfl) (fun H locs hs => ?_)
        refine lv_iinc (v := (x2 + (1 : Int32))) (lv' := [(2, .int (x2 + (1 : Int32))), (0, .ref (ad 0)), (1, .ref (ad 3))]) hx hb (dk hX5_passes_0 32 rfl) hl (k := 2) rfl (by first | rfl | decide) (by decide) rfl (fun ls hl => ?_)
        refine lv_goto (tgt := 2) hx hb (dk hX5_passes_0 33 rfl) (by decide) ?_
        exact ih _ _ _ _ hf _ _ hs _ (lv_sub hl [1, 2, 0] rfl) hk
      · replace hf := in_ hf hc
        refine lv_aload_n hx hb (dk hX5_passes_0 9 rfl) rfl (lv_at hl 0 rfl) ?_
        refine rg ui5 rfl C hs 0 rfl 20 (by decide) tw_710 rfl rfl (dk hX5_passes_0 10 rfl) ?_
        refine lv_aload_n hx hb (dk hX5_passes_0 11 rfl) rfl (lv_at hl 0 rfl) ?_
        refine rg ui5 rfl C hs 0 rfl 23 (by decide) tw_713 rfl rfl (dk hX5_passes_0 12 rfl) ?_
        refine lv_aload_n hx hb (dk hX5_passes_0 13 rfl) rfl (lv_at hl 1 rfl) ?_
        refine lv_iload_n hx hb (dk hX5_passes_0 14 rfl) rfl (lv_at hl 2 rfl) ?_
        obtain ⟨v_5, e_6, hf⟩ := Option.bind_eq_some_iff.mp hf
        refine rild C hs 3 rfl e_6 (dk hX5_passes_0 15 rfl) ?_
        obtain ⟨kept_7, e_8, hf⟩ := Option.bind_eq_some_iff.mp hf
        refine rist (w1 := (wM G ad refused there used hidden kind figure good load inn tape letter letterAt told kept_7 row costs ships coughs day away taped reading statements hasImage isKeeping cursor backs free goodFor loadedWhen bareGood bareWhen rowMany lots)) C hs 14 rfl e_8 rfl (dk hX5_passes_0 16 rfl) (fun H locs hs => ?_)
        refine lv_goto (tgt := 42) hx hb (dk hX5_passes_0 17 rfl) (by decide) ?_
        refine lv_aload_n hx hb (dk hX5_passes_0 26 rfl) rfl (lv_at hl 0 rfl) ?_
        refine lv_dup hx hb (dk hX5_passes_0 27 rfl) rfl ?_
        refine rg ui5 rfl C hs 0 rfl 23 (by decide) tw_713 rfl rfl (dk hX5_passes_0 28 rfl) ?_
        refine lv_iconst (v := (1 : Int32)) hx hb (dk hX5_passes_0 29 rfl) (by decide) ?_
        refine lv_iadd hx hb (dk hX5_passes_0 30 rfl) ?_
        refine rp (w1 := (wM G ad refused there used hidden kind figure good load inn tape letter letterAt told kept_7 row costs ships coughs day away taped reading statements hasImage isKeeping (cursor + (1 : Int32)) backs free goodFor loadedWhen bareGood bareWhen rowMany lots)) tyX5 tyX5_ok nmX5 ui5 rfl C hs 0 rfl 23 (by decide) tw_713 rfl rfl rfl rfl (Nat.le_of_ble_eq_true rfl) rfl (dk hX5_passes_0 31 rfl) (fun H locs hs => ?_)
        refine lv_iinc (v := (x2 + (1 : Int32))) (lv' := [(2, .int (x2 + (1 : Int32))), (0, .ref (ad 0)), (1, .ref (ad 3))]) hx hb (dk hX5_passes_0 32 rfl) hl (k := 2) rfl (by first | rfl | decide) (by decide) rfl (fun ls hl => ?_)
        refine lv_goto (tgt := 2) hx hb (dk hX5_passes_0 33 rfl) (by decide) ?_
        exact ih _ _ _ _ hf _ _ hs _ (lv_sub hl [1, 2, 0] rfl) hk
set_option maxRecDepth 100000 in
set_option maxHeartbeats 4000000 in
theorem c_X5_passes__used {l : Launch} {G : Gx} {ad : Nat → Nat} {refused there used hidden kind figure good load inn tape letter letterAt told kept row costs : List Int32} {ships coughs day away taped reading statements hasImage isKeeping cursor backs free goodFor loadedWhen bareGood bareWhen rowMany lots : Int32}  {out : List Int32 × List Int32 × Int32} (hf : X5_passes used kept isKeeping cursor = some out) : Ct l G yX5_passes cX5_passes 3 (none) 0 0 [.ref (ad 0), .ref (ad 3)] (wM G ad refused there used hidden kind figure good load inn tape letter letterAt told kept row costs ships coughs day away taped reading statements hasImage isKeeping cursor backs free goodFor loadedWhen bareGood bareWhen rowMany lots) (none) (wM G ad refused there out.1 hidden kind figure good load inn tape letter letterAt told out.2.1 row costs ships coughs day away taped reading statements hasImage isKeeping out.2.2 backs free goodFor loadedWhen bareGood bareWhen rowMany lots) := by
  refine Ct.intro RX5 rfl (plainFor_of_name (by decide)) (Nat.le_of_ble_eq_true rfl) rfl ?_
  intro p e s m args below meth c A C H locs hs ls hl
  obtain ⟨hx, hb, hml, hown, hts, hK, hret, hlk⟩ := id C
  have hl : lv_has ls 3 [(0, .ref (ad 0)), (1, .ref (ad 3))] := hl
  unfold X5_passes at hf
  refine lv_iconst (v := (0 : Int32)) hx hb (dk hX5_passes_0 0 rfl) (by decide) ?_
  refine lv_istore_n (lv' := [(2, .int (0 : Int32)), (0, .ref (ad 0)), (1, .ref (ad 3))]) hx hb (dk hX5_passes_0 1 rfl) rfl hl (by decide) rfl (fun ls hl => ?_)
  refine l_X5_passes__used_L2 C 1000 _ _ _ _ hf _ _ hs _ (lv_sub hl [1, 2, 0] rfl) (fun used_9 kept_10 cursor_11 hf H locs hs ls hl => ?_)
  cases hf
  exact rv C hs (dk hX5_passes_0 34 rfl)

set_option maxRecDepth 100000 in
set_option maxHeartbeats 4000000 in
theorem l_X5_passes__hidden_L2 {l : Launch} {p : Program} {e : Env} {s : State} {m : MethodId} {args : Array Value} {below : List Frame} {meth : Method} {c : Code} {A : Nat → Prop} {G : Gx} {ad : Nat → Nat} {refused there used kind figure good load inn tape letter letterAt told row costs : List Int32} {ships coughs day away taped reading statements hasImage isKeeping backs free goodFor loadedWhen bareGood bareWhen rowMany lots : Int32} {k : List Int32 → List Int32 → Int32 → Option (List Int32 × List Int32 × Int32)} {out : List Int32 × List Int32 × Int32} (C : Cx p s m args meth c cX5_passes RX5 3 (none) G) : ∀ (n : Nat) (x2 : Int32) (hidden : List Int32) (kept : List Int32) (cursor : Int32), X5_passes_L2 k isKeeping n x2 hidden kept cursor = some out → ∀ (H : Heap) (locs : List Loc), St G A s.heap H locs (wM G ad refused there used hidden kind figure good load inn tape letter letterAt told kept row costs ships coughs day away taped reading statements hasImage isKeeping cursor backs free goodFor loadedWhen bareGood bareWhen rowMany lots) → ∀ ls : Array Slot, lv_has ls 3 [(0, .ref (ad 0)), (1, .ref (ad 4)), (2, .int x2)] → (∀ (z_hidden : List Int32) (z_kept : List Int32) (z_cursor : Int32), k z_hidden z_kept z_cursor = some out → ∀ (H : Heap) (locs : List Loc), St G A s.heap H locs (wM G ad refused there used z_hidden kind figure good load inn tape letter letterAt told z_kept row costs ships coughs day away taped reading statements hasImage isKeeping z_cursor backs free goodFor loadedWhen bareGood bareWhen rowMany lots) → ∀ ls : Array Slot, lv_has ls 3 [] → W p l e (rmOf 0 0) s m args below meth c H locs 0 0 (MQ below (Qof G A (none) (wM G ad refused there used out.1 kind figure good load inn tape letter letterAt told out.2.1 row costs ships coughs day away taped reading statements hasImage isKeeping out.2.2 backs free goodFor loadedWhen bareGood bareWhen rowMany lots)) args s 0 0 A) (F0 m 58 ls [])) → W p l e (rmOf 0 0) s m args below meth c H locs 0 0 (MQ below (Qof G A (none) (wM G ad refused there used out.1 kind figure good load inn tape letter letterAt told out.2.1 row costs ships coughs day away taped reading statements hasImage isKeeping out.2.2 backs free goodFor loadedWhen bareGood bareWhen rowMany lots)) args s 0 0 A) (F0 m 2 ls []) := by
  obtain ⟨hx, hb, hml, hown, hts, hK, hret, hlk⟩ := id C
  intro n
  induction n with
  | zero => intro x2 hidden kept cursor hf; cases hf
  | succ n ih =>
    intro x2 hidden kept cursor hf H locs hs ls hl hk
    rw [X5_passes_L2] at hf
    refine lv_iload_n hx hb (dk hX5_passes_0 2 rfl) rfl (lv_at hl 2 rfl) ?_
    refine lv_aload_n hx hb (dk hX5_passes_0 3 rfl) rfl (lv_at hl 1 rfl) ?_
    refine rlen C hs 4 rfl (dk hX5_passes_0 4 rfl) ?_
    refine lv_icmp_ge (tgt := 58) hx hb (dk hX5_passes_0 5 rfl) (by decide) (fun hc => ?_) (fun hc => ?_)
    · replace hf := ip hf hc
      exact hk _ _ _ hf _ _ hs _ (lv_sub hl [] rfl)
    · replace hf := in_ hf hc
      refine lv_aload_n hx hb (dk hX5_passes_0 6 rfl) rfl (lv_at hl 0 rfl) ?_
      refine rg ui5 rfl C hs 0 rfl 22 (by decide) tw_712 rfl rfl (dk hX5_passes_0 7 rfl) ?_
      refine lv_if_eq (tgt := 30) hx hb (dk hX5_passes_0 8 rfl) (by decide) (fun hc => ?_) (fun hc => ?_)
      · replace hf := ip hf hc
        refine lv_aload_n hx hb (dk hX5_passes_0 18 rfl) rfl (lv_at hl 1 rfl) ?_
        refine lv_iload_n hx hb (dk hX5_passes_0 19 rfl) rfl (lv_at hl 2 rfl) ?_
        refine lv_aload_n hx hb (dk hX5_passes_0 20 rfl) rfl (lv_at hl 0 rfl) ?_
        refine rg ui5 rfl C hs 0 rfl 20 (by decide) tw_710 rfl rfl (dk hX5_passes_0 21 rfl) ?_
        refine lv_aload_n hx hb (dk hX5_passes_0 22 rfl) rfl (lv_at hl 0 rfl) ?_
        refine rg ui5 rfl C hs 0 rfl 23 (by decide) tw_713 rfl rfl (dk hX5_passes_0 23 rfl) ?_
        obtain ⟨v_1, e_2, hf⟩ := Option.bind_eq_some_iff.mp hf
        refine rild C hs 14 rfl e_2 (dk hX5_passes_0 24 rfl) ?_
        obtain ⟨hidden_3, e_4, hf⟩ := Option.bind_eq_some_iff.mp hf
        refine rist (w1 := (wM G ad refused there used hidden_3 kind figure good load inn tape letter letterAt told kept row costs ships coughs day away taped reading statements hasImage isKeeping cursor backs free goodFor loadedWhen bareGood bareWhen rowMany lots)) C hs 4 rfl e_4 rfl (dk hX5_passes_0 25 rfl) (fun H locs hs => ?_)
        refine lv_aload_n hx hb (dk hX5_passes_0 26 rfl) rfl (lv_at hl 0 rfl) ?_
        refine lv_dup hx hb (dk hX5_passes_0 27 rfl) rfl ?_
        refine rg ui5 rfl C hs 0 rfl 23 (by decide) tw_713 rfl rfl (dk hX5_passes_0 28 rfl) ?_
        refine lv_iconst (v := (1 : Int32)) hx hb (dk hX5_passes_0 29 rfl) (by decide) ?_
        refine lv_iadd hx hb (dk hX5_passes_0 30 rfl) ?_
        refine rp (w1 := (wM G ad refused there used hidden_3 kind figure good load inn tape letter letterAt told kept row costs ships coughs day away taped reading statements hasImage isKeeping (cursor + (1 : Int32)) backs free goodFor loadedWhen bareGood bareWhen rowMany lots)) tyX5 tyX5_ok nmX5 ui5 rfl C hs 0 rfl 23 (by decide) tw_713 rfl rfl rfl rfl (Nat.le_of_ble_eq_true rfl) rfl (dk hX5_passes_0 31 rfl) (fun H locs hs => ?_)
        refine lv_iinc (v := (x2 + (1 : Int32))) (lv' := [(2, .int (x2 + (1 : Int32))), (0, .ref (ad 0)), (1, .ref (ad 4))]) hx hb (dk hX5_passes_0 32 rfl) hl (k := 2) rfl (by first | rfl | decide) (by decide) rfl (fun ls hl => ?_)
        refine lv_goto (tgt := 2) hx hb (dk hX5_passes_0 33 rfl) (by decide) ?_
        exact ih _ _ _ _ hf _ _ hs _ (lv_sub hl [1, 2, 0] rfl) hk
      · replace hf := in_ hf hc
        refine lv_aload_n hx hb (dk hX5_passes_0 9 rfl) rfl (lv_at hl 0 rfl) ?_
        refine rg ui5 rfl C hs 0 rfl 20 (by decide) tw_710 rfl rfl (dk hX5_passes_0 10 rfl) ?_
        refine lv_aload_n hx hb (dk hX5_passes_0 11 rfl) rfl (lv_at hl 0 rfl) ?_
        refine rg ui5 rfl C hs 0 rfl 23 (by decide) tw_713 rfl rfl (dk hX5_passes_0 12 rfl) ?_
        refine lv_aload_n hx hb (dk hX5_passes_0 13 rfl) rfl (lv_at hl 1 rfl) ?_
        refine lv_iload_n hx hb (dk hX5_passes_0 14 rfl) rfl (lv_at hl 2 rfl) ?_
        obtain ⟨v_5, e_6, hf⟩ := Option.bind_eq_some_iff.mp hf
        refine rild C hs 4 rfl e_6 (dk hX5_passes_0 15 rfl) ?_
        obtain ⟨kept_7, e_8, hf⟩ := Option.bind_eq_some_iff.mp hf
        refine rist (w1 := (wM G ad refused there used hidden kind figure good load inn tape letter letterAt told kept_7 row costs ships coughs day away taped reading statements hasImage isKeeping cursor backs free goodFor loadedWhen bareGood bareWhen rowMany lots)) C hs 14 rfl e_8 rfl (dk hX5_passes_0 16 rfl) (fun H locs hs => ?_)
        refine lv_goto (tgt := 42) hx hb (dk hX5_passes_0 17 rfl) (by decide) ?_
        refine lv_aload_n hx hb (dk hX5_passes_0 26 rfl) rfl (lv_at hl 0 rfl) ?_
        refine lv_dup hx hb (dk hX5_passes_0 27 rfl) rfl ?_
        refine rg ui5 rfl C hs 0 rfl 23 (by decide) tw_713 rfl rfl (dk hX5_passes_0 28 rfl) ?_
        refine lv_iconst (v := (1 : Int32)) hx hb (dk hX5_passes_0 29 rfl) (by decide) ?_
        refine lv_iadd hx hb (dk hX5_passes_0 30 rfl) ?_
        refine rp (w1 := (wM G ad refused there used hidden kind figure good load inn tape letter letterAt told kept_7 row costs ships coughs day away taped reading statements hasImage isKeeping (cursor + (1 : Int32)) backs free goodFor loadedWhen bareGood bareWhen rowMany lots)) tyX5 tyX5_ok nmX5 ui5 rfl C hs 0 rfl 23 (by decide) tw_713 rfl rfl rfl rfl (Nat.le_of_ble_eq_true rfl) rfl (dk hX5_passes_0 31 rfl) (fun H locs hs => ?_)
        refine lv_iinc (v := (x2 + (1 : Int32))) (lv' := [(2, .int (x2 + (1 : Int32))), (0, .ref (ad 0)), (1, .ref (ad 4))]) hx hb (dk hX5_passes_0 32 rfl) hl (k := 2) rfl (by first | rfl | decide) (by decide) rfl (fun ls hl => ?_)
        refine lv_goto (tgt := 2) hx hb (dk hX5_passes_0 33 rfl) (by decide) ?_
        exact ih _ _ _ _ hf _ _ hs _ (lv_sub hl [1, 2, 0] rfl) hk
set_option maxRecDepth 100000 in
set_option maxHeartbeats 4000000 in
theorem c_X5_passes__hidden {l : Launch} {G : Gx} {ad : Nat → Nat} {refused there used hidden kind figure good load inn tape letter letterAt told kept row costs : List Int32} {ships coughs day away taped reading statements hasImage isKeeping cursor backs free goodFor loadedWhen bareGood bareWhen rowMany lots : Int32}  {out : List Int32 × List Int32 × Int32} (hf : X5_passes hidden kept isKeeping cursor = some out) : Ct l G yX5_passes cX5_passes 3 (none) 0 0 [.ref (ad 0), .ref (ad 4)] (wM G ad refused there used hidden kind figure good load inn tape letter letterAt told kept row costs ships coughs day away taped reading statements hasImage isKeeping cursor backs free goodFor loadedWhen bareGood bareWhen rowMany lots) (none) (wM G ad refused there used out.1 kind figure good load inn tape letter letterAt told out.2.1 row costs ships coughs day away taped reading statements hasImage isKeeping out.2.2 backs free goodFor loadedWhen bareGood bareWhen rowMany lots) := by
  refine Ct.intro RX5 rfl (plainFor_of_name (by decide)) (Nat.le_of_ble_eq_true rfl) rfl ?_
  intro p e s m args below meth c A C H locs hs ls hl
  obtain ⟨hx, hb, hml, hown, hts, hK, hret, hlk⟩ := id C
  have hl : lv_has ls 3 [(0, .ref (ad 0)), (1, .ref (ad 4))] := hl
  unfold X5_passes at hf
  refine lv_iconst (v := (0 : Int32)) hx hb (dk hX5_passes_0 0 rfl) (by decide) ?_
  refine lv_istore_n (lv' := [(2, .int (0 : Int32)), (0, .ref (ad 0)), (1, .ref (ad 4))]) hx hb (dk hX5_passes_0 1 rfl) rfl hl (by decide) rfl (fun ls hl => ?_)
  refine l_X5_passes__hidden_L2 C 1000 _ _ _ _ hf _ _ hs _ (lv_sub hl [1, 2, 0] rfl) (fun hidden_9 kept_10 cursor_11 hf H locs hs ls hl => ?_)
  cases hf
  exact rv C hs (dk hX5_passes_0 34 rfl)

set_option maxRecDepth 100000 in
set_option maxHeartbeats 4000000 in
theorem l_X5_passes__kind_L2 {l : Launch} {p : Program} {e : Env} {s : State} {m : MethodId} {args : Array Value} {below : List Frame} {meth : Method} {c : Code} {A : Nat → Prop} {G : Gx} {ad : Nat → Nat} {refused there used hidden figure good load inn tape letter letterAt told row costs : List Int32} {ships coughs day away taped reading statements hasImage isKeeping backs free goodFor loadedWhen bareGood bareWhen rowMany lots : Int32} {k : List Int32 → List Int32 → Int32 → Option (List Int32 × List Int32 × Int32)} {out : List Int32 × List Int32 × Int32} (C : Cx p s m args meth c cX5_passes RX5 3 (none) G) : ∀ (n : Nat) (x2 : Int32) (kind : List Int32) (kept : List Int32) (cursor : Int32), X5_passes_L2 k isKeeping n x2 kind kept cursor = some out → ∀ (H : Heap) (locs : List Loc), St G A s.heap H locs (wM G ad refused there used hidden kind figure good load inn tape letter letterAt told kept row costs ships coughs day away taped reading statements hasImage isKeeping cursor backs free goodFor loadedWhen bareGood bareWhen rowMany lots) → ∀ ls : Array Slot, lv_has ls 3 [(0, .ref (ad 0)), (1, .ref (ad 5)), (2, .int x2)] → (∀ (z_kind : List Int32) (z_kept : List Int32) (z_cursor : Int32), k z_kind z_kept z_cursor = some out → ∀ (H : Heap) (locs : List Loc), St G A s.heap H locs (wM G ad refused there used hidden z_kind figure good load inn tape letter letterAt told z_kept row costs ships coughs day away taped reading statements hasImage isKeeping z_cursor backs free goodFor loadedWhen bareGood bareWhen rowMany lots) → ∀ ls : Array Slot, lv_has ls 3 [] → W p l e (rmOf 0 0) s m args below meth c H locs 0 0 (MQ below (Qof G A (none) (wM G ad refused there used hidden out.1 figure good load inn tape letter letterAt told out.2.1 row costs ships coughs day away taped reading statements hasImage isKeeping out.2.2 backs free goodFor loadedWhen bareGood bareWhen rowMany lots)) args s 0 0 A) (F0 m 58 ls [])) → W p l e (rmOf 0 0) s m args below meth c H locs 0 0 (MQ below (Qof G A (none) (wM G ad refused there used hidden out.1 figure good load inn tape letter letterAt told out.2.1 row costs ships coughs day away taped reading statements hasImage isKeeping out.2.2 backs free goodFor loadedWhen bareGood bareWhen rowMany lots)) args s 0 0 A) (F0 m 2 ls []) := by
  obtain ⟨hx, hb, hml, hown, hts, hK, hret, hlk⟩ := id C
  intro n
  induction n with
  | zero => intro x2 kind kept cursor hf; cases hf
  | succ n ih =>
    intro x2 kind kept cursor hf H locs hs ls hl hk
    rw [X5_passes_L2] at hf
    refine lv_iload_n hx hb (dk hX5_passes_0 2 rfl) rfl (lv_at hl 2 rfl) ?_
    refine lv_aload_n hx hb (dk hX5_passes_0 3 rfl) rfl (lv_at hl 1 rfl) ?_
    refine rlen C hs 5 rfl (dk hX5_passes_0 4 rfl) ?_
    refine lv_icmp_ge (tgt := 58) hx hb (dk hX5_passes_0 5 rfl) (by decide) (fun hc => ?_) (fun hc => ?_)
    · replace hf := ip hf hc
      exact hk _ _ _ hf _ _ hs _ (lv_sub hl [] rfl)
    · replace hf := in_ hf hc
      refine lv_aload_n hx hb (dk hX5_passes_0 6 rfl) rfl (lv_at hl 0 rfl) ?_
      refine rg ui5 rfl C hs 0 rfl 22 (by decide) tw_712 rfl rfl (dk hX5_passes_0 7 rfl) ?_
      refine lv_if_eq (tgt := 30) hx hb (dk hX5_passes_0 8 rfl) (by decide) (fun hc => ?_) (fun hc => ?_)
      · replace hf := ip hf hc
        refine lv_aload_n hx hb (dk hX5_passes_0 18 rfl) rfl (lv_at hl 1 rfl) ?_
        refine lv_iload_n hx hb (dk hX5_passes_0 19 rfl) rfl (lv_at hl 2 rfl) ?_
        refine lv_aload_n hx hb (dk hX5_passes_0 20 rfl) rfl (lv_at hl 0 rfl) ?_
        refine rg ui5 rfl C hs 0 rfl 20 (by decide) tw_710 rfl rfl (dk hX5_passes_0 21 rfl) ?_
        refine lv_aload_n hx hb (dk hX5_passes_0 22 rfl) rfl (lv_at hl 0 rfl) ?_
        refine rg ui5 rfl C hs 0 rfl 23 (by decide) tw_713 rfl rfl (dk hX5_passes_0 23 rfl) ?_
        obtain ⟨v_1, e_2, hf⟩ := Option.bind_eq_some_iff.mp hf
        refine rild C hs 14 rfl e_2 (dk hX5_passes_0 24 rfl) ?_
        obtain ⟨kind_3, e_4, hf⟩ := Option.bind_eq_some_iff.mp hf
        refine rist (w1 := (wM G ad refused there used hidden kind_3 figure good load inn tape letter letterAt told kept row costs ships coughs day away taped reading statements hasImage isKeeping cursor backs free goodFor loadedWhen bareGood bareWhen rowMany lots)) C hs 5 rfl e_4 rfl (dk hX5_passes_0 25 rfl) (fun H locs hs => ?_)
        refine lv_aload_n hx hb (dk hX5_passes_0 26 rfl) rfl (lv_at hl 0 rfl) ?_
        refine lv_dup hx hb (dk hX5_passes_0 27 rfl) rfl ?_
        refine rg ui5 rfl C hs 0 rfl 23 (by decide) tw_713 rfl rfl (dk hX5_passes_0 28 rfl) ?_
        refine lv_iconst (v := (1 : Int32)) hx hb (dk hX5_passes_0 29 rfl) (by decide) ?_
        refine lv_iadd hx hb (dk hX5_passes_0 30 rfl) ?_
        refine rp (w1 := (wM G ad refused there used hidden kind_3 figure good load inn tape letter letterAt told kept row costs ships coughs day away taped reading statements hasImage isKeeping (cursor + (1 : Int32)) backs free goodFor loadedWhen bareGood bareWhen rowMany lots)) tyX5 tyX5_ok nmX5 ui5 rfl C hs 0 rfl 23 (by decide) tw_713 rfl rfl rfl rfl (Nat.le_of_ble_eq_true rfl) rfl (dk hX5_passes_0 31 rfl) (fun H locs hs => ?_)
        refine lv_iinc (v := (x2 + (1 : Int32))) (lv' := [(2, .int (x2 + (1 : Int32))), (0, .ref (ad 0)), (1, .ref (ad 5))]) hx hb (dk hX5_passes_0 32 rfl) hl (k := 2) rfl (by first | rfl | decide) (by decide) rfl (fun ls hl => ?_)
        refine lv_goto (tgt := 2) hx hb (dk hX5_passes_0 33 rfl) (by decide) ?_
        exact ih _ _ _ _ hf _ _ hs _ (lv_sub hl [1, 2, 0] rfl) hk
      · replace hf := in_ hf hc
        refine lv_aload_n hx hb (dk hX5_passes_0 9 rfl) rfl (lv_at hl 0 rfl) ?_
        refine rg ui5 rfl C hs 0 rfl 20 (by decide) tw_710 rfl rfl (dk hX5_passes_0 10 rfl) ?_
        refine lv_aload_n hx hb (dk hX5_passes_0 11 rfl) rfl (lv_at hl 0 rfl) ?_
        refine rg ui5 rfl C hs 0 rfl 23 (by decide) tw_713 rfl rfl (dk hX5_passes_0 12 rfl) ?_
        refine lv_aload_n hx hb (dk hX5_passes_0 13 rfl) rfl (lv_at hl 1 rfl) ?_
        refine lv_iload_n hx hb (dk hX5_passes_0 14 rfl) rfl (lv_at hl 2 rfl) ?_
        obtain ⟨v_5, e_6, hf⟩ := Option.bind_eq_some_iff.mp hf
        refine rild C hs 5 rfl e_6 (dk hX5_passes_0 15 rfl) ?_
        obtain ⟨kept_7, e_8, hf⟩ := Option.bind_eq_some_iff.mp hf
        refine rist (w1 := (wM G ad refused there used hidden kind figure good load inn tape letter letterAt told kept_7 row costs ships coughs day away taped reading statements hasImage isKeeping cursor backs free goodFor loadedWhen bareGood bareWhen rowMany lots)) C hs 14 rfl e_8 rfl (dk hX5_passes_0 16 rfl) (fun H locs hs => ?_)
        refine lv_goto (tgt := 42) hx hb (dk hX5_passes_0 17 rfl) (by decide) ?_
        refine lv_aload_n hx hb (dk hX5_passes_0 26 rfl) rfl (lv_at hl 0 rfl) ?_
        refine lv_dup hx hb (dk hX5_passes_0 27 rfl) rfl ?_
        refine rg ui5 rfl C hs 0 rfl 23 (by decide) tw_713 rfl rfl (dk hX5_passes_0 28 rfl) ?_
        refine lv_iconst (v := (1 : Int32)) hx hb (dk hX5_passes_0 29 rfl) (by decide) ?_
        refine lv_iadd hx hb (dk hX5_passes_0 30 rfl) ?_
        refine rp (w1 := (wM G ad refused there used hidden kind figure good load inn tape letter letterAt told kept_7 row costs ships coughs day away taped reading statements hasImage isKeeping (cursor + (1 : Int32)) backs free goodFor loadedWhen bareGood bareWhen rowMany lots)) tyX5 tyX5_ok nmX5 ui5 rfl C hs 0 rfl 23 (by decide) tw_713 rfl rfl rfl rfl (Nat.le_of_ble_eq_true rfl) rfl (dk hX5_passes_0 31 rfl) (fun H locs hs => ?_)
        refine lv_iinc (v := (x2 + (1 : Int32))) (lv' := [(2, .int (x2 + (1 : Int32))), (0, .ref (ad 0)), (1, .ref (ad 5))]) hx hb (dk hX5_passes_0 32 rfl) hl (k := 2) rfl (by first | rfl | decide) (by decide) rfl (fun ls hl => ?_)
        refine lv_goto (tgt := 2) hx hb (dk hX5_passes_0 33 rfl) (by decide) ?_
        exact ih _ _ _ _ hf _ _ hs _ (lv_sub hl [1, 2, 0] rfl) hk
set_option maxRecDepth 100000 in
set_option maxHeartbeats 4000000 in
theorem c_X5_passes__kind {l : Launch} {G : Gx} {ad : Nat → Nat} {refused there used hidden kind figure good load inn tape letter letterAt told kept row costs : List Int32} {ships coughs day away taped reading statements hasImage isKeeping cursor backs free goodFor loadedWhen bareGood bareWhen rowMany lots : Int32}  {out : List Int32 × List Int32 × Int32} (hf : X5_passes kind kept isKeeping cursor = some out) : Ct l G yX5_passes cX5_passes 3 (none) 0 0 [.ref (ad 0), .ref (ad 5)] (wM G ad refused there used hidden kind figure good load inn tape letter letterAt told kept row costs ships coughs day away taped reading statements hasImage isKeeping cursor backs free goodFor loadedWhen bareGood bareWhen rowMany lots) (none) (wM G ad refused there used hidden out.1 figure good load inn tape letter letterAt told out.2.1 row costs ships coughs day away taped reading statements hasImage isKeeping out.2.2 backs free goodFor loadedWhen bareGood bareWhen rowMany lots) := by
  refine Ct.intro RX5 rfl (plainFor_of_name (by decide)) (Nat.le_of_ble_eq_true rfl) rfl ?_
  intro p e s m args below meth c A C H locs hs ls hl
  obtain ⟨hx, hb, hml, hown, hts, hK, hret, hlk⟩ := id C
  have hl : lv_has ls 3 [(0, .ref (ad 0)), (1, .ref (ad 5))] := hl
  unfold X5_passes at hf
  refine lv_iconst (v := (0 : Int32)) hx hb (dk hX5_passes_0 0 rfl) (by decide) ?_
  refine lv_istore_n (lv' := [(2, .int (0 : Int32)), (0, .ref (ad 0)), (1, .ref (ad 5))]) hx hb (dk hX5_passes_0 1 rfl) rfl hl (by decide) rfl (fun ls hl => ?_)
  refine l_X5_passes__kind_L2 C 1000 _ _ _ _ hf _ _ hs _ (lv_sub hl [1, 2, 0] rfl) (fun kind_9 kept_10 cursor_11 hf H locs hs ls hl => ?_)
  cases hf
  exact rv C hs (dk hX5_passes_0 34 rfl)

set_option maxRecDepth 100000 in
set_option maxHeartbeats 4000000 in
theorem l_X5_passes__figure_L2 {l : Launch} {p : Program} {e : Env} {s : State} {m : MethodId} {args : Array Value} {below : List Frame} {meth : Method} {c : Code} {A : Nat → Prop} {G : Gx} {ad : Nat → Nat} {refused there used hidden kind good load inn tape letter letterAt told row costs : List Int32} {ships coughs day away taped reading statements hasImage isKeeping backs free goodFor loadedWhen bareGood bareWhen rowMany lots : Int32} {k : List Int32 → List Int32 → Int32 → Option (List Int32 × List Int32 × Int32)} {out : List Int32 × List Int32 × Int32} (C : Cx p s m args meth c cX5_passes RX5 3 (none) G) : ∀ (n : Nat) (x2 : Int32) (figure : List Int32) (kept : List Int32) (cursor : Int32), X5_passes_L2 k isKeeping n x2 figure kept cursor = some out → ∀ (H : Heap) (locs : List Loc), St G A s.heap H locs (wM G ad refused there used hidden kind figure good load inn tape letter letterAt told kept row costs ships coughs day away taped reading statements hasImage isKeeping cursor backs free goodFor loadedWhen bareGood bareWhen rowMany lots) → ∀ ls : Array Slot, lv_has ls 3 [(0, .ref (ad 0)), (1, .ref (ad 6)), (2, .int x2)] → (∀ (z_figure : List Int32) (z_kept : List Int32) (z_cursor : Int32), k z_figure z_kept z_cursor = some out → ∀ (H : Heap) (locs : List Loc), St G A s.heap H locs (wM G ad refused there used hidden kind z_figure good load inn tape letter letterAt told z_kept row costs ships coughs day away taped reading statements hasImage isKeeping z_cursor backs free goodFor loadedWhen bareGood bareWhen rowMany lots) → ∀ ls : Array Slot, lv_has ls 3 [] → W p l e (rmOf 0 0) s m args below meth c H locs 0 0 (MQ below (Qof G A (none) (wM G ad refused there used hidden kind out.1 good load inn tape letter letterAt told out.2.1 row costs ships coughs day away taped reading statements hasImage isKeeping out.2.2 backs free goodFor loadedWhen bareGood bareWhen rowMany lots)) args s 0 0 A) (F0 m 58 ls [])) → W p l e (rmOf 0 0) s m args below meth c H locs 0 0 (MQ below (Qof G A (none) (wM G ad refused there used hidden kind out.1 good load inn tape letter letterAt told out.2.1 row costs ships coughs day away taped reading statements hasImage isKeeping out.2.2 backs free goodFor loadedWhen bareGood bareWhen rowMany lots)) args s 0 0 A) (F0 m 2 ls []) := by
  obtain ⟨hx, hb, hml, hown, hts, hK, hret, hlk⟩ := id C
  intro n
  induction n with
  | zero => intro x2 figure kept cursor hf; cases hf
  | succ n ih =>
    intro x2 figure kept cursor hf H locs hs ls hl hk
    rw [X5_passes_L2] at hf
    refine lv_iload_n hx hb (dk hX5_passes_0 2 rfl) rfl (lv_at hl 2 rfl) ?_
    refine lv_aload_n hx hb (dk hX5_passes_0 3 rfl) rfl (lv_at hl 1 rfl) ?_
    refine rlen C hs 6 rfl (dk hX5_passes_0 4 rfl) ?_
    refine lv_icmp_ge (tgt := 58) hx hb (dk hX5_passes_0 5 rfl) (by decide) (fun hc => ?_) (fun hc => ?_)
    · replace hf := ip hf hc
      exact hk _ _ _ hf _ _ hs _ (lv_sub hl [] rfl)
    · replace hf := in_ hf hc
      refine lv_aload_n hx hb (dk hX5_passes_0 6 rfl) rfl (lv_at hl 0 rfl) ?_
      refine rg ui5 rfl C hs 0 rfl 22 (by decide) tw_712 rfl rfl (dk hX5_passes_0 7 rfl) ?_
      refine lv_if_eq (tgt := 30) hx hb (dk hX5_passes_0 8 rfl) (by decide) (fun hc => ?_) (fun hc => ?_)
      · replace hf := ip hf hc
        refine lv_aload_n hx hb (dk hX5_passes_0 18 rfl) rfl (lv_at hl 1 rfl) ?_
        refine lv_iload_n hx hb (dk hX5_passes_0 19 rfl) rfl (lv_at hl 2 rfl) ?_
        refine lv_aload_n hx hb (dk hX5_passes_0 20 rfl) rfl (lv_at hl 0 rfl) ?_
        refine rg ui5 rfl C hs 0 rfl 20 (by decide) tw_710 rfl rfl (dk hX5_passes_0 21 rfl) ?_
        refine lv_aload_n hx hb (dk hX5_passes_0 22 rfl) rfl (lv_at hl 0 rfl) ?_
        refine rg ui5 rfl C hs 0 rfl 23 (by decide) tw_713 rfl rfl (dk hX5_passes_0 23 rfl) ?_
        obtain ⟨v_1, e_2, hf⟩ := Option.bind_eq_some_iff.mp hf
        refine rild C hs 14 rfl e_2 (dk hX5_passes_0 24 rfl) ?_
        obtain ⟨figure_3, e_4, hf⟩ := Option.bind_eq_some_iff.mp hf
        refine rist (w1 := (wM G ad refused there used hidden kind figure_3 good load inn tape letter letterAt told kept row costs ships coughs day away taped reading statements hasImage isKeeping cursor backs free goodFor loadedWhen bareGood bareWhen rowMany lots)) C hs 6 rfl e_4 rfl (dk hX5_passes_0 25 rfl) (fun H locs hs => ?_)
        refine lv_aload_n hx hb (dk hX5_passes_0 26 rfl) rfl (lv_at hl 0 rfl) ?_
        refine lv_dup hx hb (dk hX5_passes_0 27 rfl) rfl ?_
        refine rg ui5 rfl C hs 0 rfl 23 (by decide) tw_713 rfl rfl (dk hX5_passes_0 28 rfl) ?_
        refine lv_iconst (v := (1 : Int32)) hx hb (dk hX5_passes_0 29 rfl) (by decide) ?_
        refine lv_iadd hx hb (dk hX5_passes_0 30 rfl) ?_
        refine rp (w1 := (wM G ad refused there used hidden kind figure_3 good load inn tape letter letterAt told kept row costs ships coughs day away taped reading statements hasImage isKeeping (cursor + (1 : Int32)) backs free goodFor loadedWhen bareGood bareWhen rowMany lots)) tyX5 tyX5_ok nmX5 ui5 rfl C hs 0 rfl 23 (by decide) tw_713 rfl rfl rfl rfl (Nat.le_of_ble_eq_true rfl) rfl (dk hX5_passes_0 31 rfl) (fun H locs hs => ?_)
        refine lv_iinc (v := (x2 + (1 : Int32))) (lv' := [(2, .int (x2 + (1 : Int32))), (0, .ref (ad 0)), (1, .ref (ad 6))]) hx hb (dk hX5_passes_0 32 rfl) hl (k := 2) rfl (by first | rfl | decide) (by decide) rfl (fun ls hl => ?_)
        refine lv_goto (tgt := 2) hx hb (dk hX5_passes_0 33 rfl) (by decide) ?_
        exact ih _ _ _ _ hf _ _ hs _ (lv_sub hl [1, 2, 0] rfl) hk
      · replace hf := in_ hf hc
        refine lv_aload_n hx hb (dk hX5_passes_0 9 rfl) rfl (lv_at hl 0 rfl) ?_
        refine rg ui5 rfl C hs 0 rfl 20 (by decide) tw_710 rfl rfl (dk hX5_passes_0 10 rfl) ?_
        refine lv_aload_n hx hb (dk hX5_passes_0 11 rfl) rfl (lv_at hl 0 rfl) ?_
        refine rg ui5 rfl C hs 0 rfl 23 (by decide) tw_713 rfl rfl (dk hX5_passes_0 12 rfl) ?_
        refine lv_aload_n hx hb (dk hX5_passes_0 13 rfl) rfl (lv_at hl 1 rfl) ?_
        refine lv_iload_n hx hb (dk hX5_passes_0 14 rfl) rfl (lv_at hl 2 rfl) ?_
        obtain ⟨v_5, e_6, hf⟩ := Option.bind_eq_some_iff.mp hf
        refine rild C hs 6 rfl e_6 (dk hX5_passes_0 15 rfl) ?_
        obtain ⟨kept_7, e_8, hf⟩ := Option.bind_eq_some_iff.mp hf
        refine rist (w1 := (wM G ad refused there used hidden kind figure good load inn tape letter letterAt told kept_7 row costs ships coughs day away taped reading statements hasImage isKeeping cursor backs free goodFor loadedWhen bareGood bareWhen rowMany lots)) C hs 14 rfl e_8 rfl (dk hX5_passes_0 16 rfl) (fun H locs hs => ?_)
        refine lv_goto (tgt := 42) hx hb (dk hX5_passes_0 17 rfl) (by decide) ?_
        refine lv_aload_n hx hb (dk hX5_passes_0 26 rfl) rfl (lv_at hl 0 rfl) ?_
        refine lv_dup hx hb (dk hX5_passes_0 27 rfl) rfl ?_
        refine rg ui5 rfl C hs 0 rfl 23 (by decide) tw_713 rfl rfl (dk hX5_passes_0 28 rfl) ?_
        refine lv_iconst (v := (1 : Int32)) hx hb (dk hX5_passes_0 29 rfl) (by decide) ?_
        refine lv_iadd hx hb (dk hX5_passes_0 30 rfl) ?_
        refine rp (w1 := (wM G ad refused there used hidden kind figure good load inn tape letter letterAt told kept_7 row costs ships coughs day away taped reading statements hasImage isKeeping (cursor + (1 : Int32)) backs free goodFor loadedWhen bareGood bareWhen rowMany lots)) tyX5 tyX5_ok nmX5 ui5 rfl C hs 0 rfl 23 (by decide) tw_713 rfl rfl rfl rfl (Nat.le_of_ble_eq_true rfl) rfl (dk hX5_passes_0 31 rfl) (fun H locs hs => ?_)
        refine lv_iinc (v := (x2 + (1 : Int32))) (lv' := [(2, .int (x2 + (1 : Int32))), (0, .ref (ad 0)), (1, .ref (ad 6))]) hx hb (dk hX5_passes_0 32 rfl) hl (k := 2) rfl (by first | rfl | decide) (by decide) rfl (fun ls hl => ?_)
        refine lv_goto (tgt := 2) hx hb (dk hX5_passes_0 33 rfl) (by decide) ?_
        exact ih _ _ _ _ hf _ _ hs _ (lv_sub hl [1, 2, 0] rfl) hk
set_option maxRecDepth 100000 in
set_option maxHeartbeats 4000000 in
theorem c_X5_passes__figure {l : Launch} {G : Gx} {ad : Nat → Nat} {refused there used hidden kind figure good load inn tape letter letterAt told kept row costs : List Int32} {ships coughs day away taped reading statements hasImage isKeeping cursor backs free goodFor loadedWhen bareGood bareWhen rowMany lots : Int32}  {out : List Int32 × List Int32 × Int32} (hf : X5_passes figure kept isKeeping cursor = some out) : Ct l G yX5_passes cX5_passes 3 (none) 0 0 [.ref (ad 0), .ref (ad 6)] (wM G ad refused there used hidden kind figure good load inn tape letter letterAt told kept row costs ships coughs day away taped reading statements hasImage isKeeping cursor backs free goodFor loadedWhen bareGood bareWhen rowMany lots) (none) (wM G ad refused there used hidden kind out.1 good load inn tape letter letterAt told out.2.1 row costs ships coughs day away taped reading statements hasImage isKeeping out.2.2 backs free goodFor loadedWhen bareGood bareWhen rowMany lots) := by
  refine Ct.intro RX5 rfl (plainFor_of_name (by decide)) (Nat.le_of_ble_eq_true rfl) rfl ?_
  intro p e s m args below meth c A C H locs hs ls hl
  obtain ⟨hx, hb, hml, hown, hts, hK, hret, hlk⟩ := id C
  have hl : lv_has ls 3 [(0, .ref (ad 0)), (1, .ref (ad 6))] := hl
  unfold X5_passes at hf
  refine lv_iconst (v := (0 : Int32)) hx hb (dk hX5_passes_0 0 rfl) (by decide) ?_
  refine lv_istore_n (lv' := [(2, .int (0 : Int32)), (0, .ref (ad 0)), (1, .ref (ad 6))]) hx hb (dk hX5_passes_0 1 rfl) rfl hl (by decide) rfl (fun ls hl => ?_)
  refine l_X5_passes__figure_L2 C 1000 _ _ _ _ hf _ _ hs _ (lv_sub hl [1, 2, 0] rfl) (fun figure_9 kept_10 cursor_11 hf H locs hs ls hl => ?_)
  cases hf
  exact rv C hs (dk hX5_passes_0 34 rfl)

set_option maxRecDepth 100000 in
set_option maxHeartbeats 4000000 in
theorem l_X5_passes__good_L2 {l : Launch} {p : Program} {e : Env} {s : State} {m : MethodId} {args : Array Value} {below : List Frame} {meth : Method} {c : Code} {A : Nat → Prop} {G : Gx} {ad : Nat → Nat} {refused there used hidden kind figure load inn tape letter letterAt told row costs : List Int32} {ships coughs day away taped reading statements hasImage isKeeping backs free goodFor loadedWhen bareGood bareWhen rowMany lots : Int32} {k : List Int32 → List Int32 → Int32 → Option (List Int32 × List Int32 × Int32)} {out : List Int32 × List Int32 × Int32} (C : Cx p s m args meth c cX5_passes RX5 3 (none) G) : ∀ (n : Nat) (x2 : Int32) (good : List Int32) (kept : List Int32) (cursor : Int32), X5_passes_L2 k isKeeping n x2 good kept cursor = some out → ∀ (H : Heap) (locs : List Loc), St G A s.heap H locs (wM G ad refused there used hidden kind figure good load inn tape letter letterAt told kept row costs ships coughs day away taped reading statements hasImage isKeeping cursor backs free goodFor loadedWhen bareGood bareWhen rowMany lots) → ∀ ls : Array Slot, lv_has ls 3 [(0, .ref (ad 0)), (1, .ref (ad 7)), (2, .int x2)] → (∀ (z_good : List Int32) (z_kept : List Int32) (z_cursor : Int32), k z_good z_kept z_cursor = some out → ∀ (H : Heap) (locs : List Loc), St G A s.heap H locs (wM G ad refused there used hidden kind figure z_good load inn tape letter letterAt told z_kept row costs ships coughs day away taped reading statements hasImage isKeeping z_cursor backs free goodFor loadedWhen bareGood bareWhen rowMany lots) → ∀ ls : Array Slot, lv_has ls 3 [] → W p l e (rmOf 0 0) s m args below meth c H locs 0 0 (MQ below (Qof G A (none) (wM G ad refused there used hidden kind figure out.1 load inn tape letter letterAt told out.2.1 row costs ships coughs day away taped reading statements hasImage isKeeping out.2.2 backs free goodFor loadedWhen bareGood bareWhen rowMany lots)) args s 0 0 A) (F0 m 58 ls [])) → W p l e (rmOf 0 0) s m args below meth c H locs 0 0 (MQ below (Qof G A (none) (wM G ad refused there used hidden kind figure out.1 load inn tape letter letterAt told out.2.1 row costs ships coughs day away taped reading statements hasImage isKeeping out.2.2 backs free goodFor loadedWhen bareGood bareWhen rowMany lots)) args s 0 0 A) (F0 m 2 ls []) := by
  obtain ⟨hx, hb, hml, hown, hts, hK, hret, hlk⟩ := id C
  intro n
  induction n with
  | zero => intro x2 good kept cursor hf; cases hf
  | succ n ih =>
    intro x2 good kept cursor hf H locs hs ls hl hk
    rw [X5_passes_L2] at hf
    refine lv_iload_n hx hb (dk hX5_passes_0 2 rfl) rfl (lv_at hl 2 rfl) ?_
    refine lv_aload_n hx hb (dk hX5_passes_0 3 rfl) rfl (lv_at hl 1 rfl) ?_
    refine rlen C hs 7 rfl (dk hX5_passes_0 4 rfl) ?_
    refine lv_icmp_ge (tgt := 58) hx hb (dk hX5_passes_0 5 rfl) (by decide) (fun hc => ?_) (fun hc => ?_)
    · replace hf := ip hf hc
      exact hk _ _ _ hf _ _ hs _ (lv_sub hl [] rfl)
    · replace hf := in_ hf hc
      refine lv_aload_n hx hb (dk hX5_passes_0 6 rfl) rfl (lv_at hl 0 rfl) ?_
      refine rg ui5 rfl C hs 0 rfl 22 (by decide) tw_712 rfl rfl (dk hX5_passes_0 7 rfl) ?_
      refine lv_if_eq (tgt := 30) hx hb (dk hX5_passes_0 8 rfl) (by decide) (fun hc => ?_) (fun hc => ?_)
      · replace hf := ip hf hc
        refine lv_aload_n hx hb (dk hX5_passes_0 18 rfl) rfl (lv_at hl 1 rfl) ?_
        refine lv_iload_n hx hb (dk hX5_passes_0 19 rfl) rfl (lv_at hl 2 rfl) ?_
        refine lv_aload_n hx hb (dk hX5_passes_0 20 rfl) rfl (lv_at hl 0 rfl) ?_
        refine rg ui5 rfl C hs 0 rfl 20 (by decide) tw_710 rfl rfl (dk hX5_passes_0 21 rfl) ?_
        refine lv_aload_n hx hb (dk hX5_passes_0 22 rfl) rfl (lv_at hl 0 rfl) ?_
        refine rg ui5 rfl C hs 0 rfl 23 (by decide) tw_713 rfl rfl (dk hX5_passes_0 23 rfl) ?_
        obtain ⟨v_1, e_2, hf⟩ := Option.bind_eq_some_iff.mp hf
        refine rild C hs 14 rfl e_2 (dk hX5_passes_0 24 rfl) ?_
        obtain ⟨good_3, e_4, hf⟩ := Option.bind_eq_some_iff.mp hf
        refine rist (w1 := (wM G ad refused there used hidden kind figure good_3 load inn tape letter letterAt told kept row costs ships coughs day away taped reading statements hasImage isKeeping cursor backs free goodFor loadedWhen bareGood bareWhen rowMany lots)) C hs 7 rfl e_4 rfl (dk hX5_passes_0 25 rfl) (fun H locs hs => ?_)
        refine lv_aload_n hx hb (dk hX5_passes_0 26 rfl) rfl (lv_at hl 0 rfl) ?_
        refine lv_dup hx hb (dk hX5_passes_0 27 rfl) rfl ?_
        refine rg ui5 rfl C hs 0 rfl 23 (by decide) tw_713 rfl rfl (dk hX5_passes_0 28 rfl) ?_
        refine lv_iconst (v := (1 : Int32)) hx hb (dk hX5_passes_0 29 rfl) (by decide) ?_
        refine lv_iadd hx hb (dk hX5_passes_0 30 rfl) ?_
        refine rp (w1 := (wM G ad refused there used hidden kind figure good_3 load inn tape letter letterAt told kept row costs ships coughs day away taped reading statements hasImage isKeeping (cursor + (1 : Int32)) backs free goodFor loadedWhen bareGood bareWhen rowMany lots)) tyX5 tyX5_ok nmX5 ui5 rfl C hs 0 rfl 23 (by decide) tw_713 rfl rfl rfl rfl (Nat.le_of_ble_eq_true rfl) rfl (dk hX5_passes_0 31 rfl) (fun H locs hs => ?_)
        refine lv_iinc (v := (x2 + (1 : Int32))) (lv' := [(2, .int (x2 + (1 : Int32))), (0, .ref (ad 0)), (1, .ref (ad 7))]) hx hb (dk hX5_passes_0 32 rfl) hl (k := 2) rfl (by first | rfl | decide) (by decide) rfl (fun ls hl => ?_)
        refine lv_goto (tgt := 2) hx hb (dk hX5_passes_0 33 rfl) (by decide) ?_
        exact ih _ _ _ _ hf _ _ hs _ (lv_sub hl [1, 2, 0] rfl) hk
      · replace hf := in_ hf hc
        refine lv_aload_n hx hb (dk hX5_passes_0 9 rfl) rfl (lv_at hl 0 rfl) ?_
        refine rg ui5 rfl C hs 0 rfl 20 (by decide) tw_710 rfl rfl (dk hX5_passes_0 10 rfl) ?_
        refine lv_aload_n hx hb (dk hX5_passes_0 11 rfl) rfl (lv_at hl 0 rfl) ?_
        refine rg ui5 rfl C hs 0 rfl 23 (by decide) tw_713 rfl rfl (dk hX5_passes_0 12 rfl) ?_
        refine lv_aload_n hx hb (dk hX5_passes_0 13 rfl) rfl (lv_at hl 1 rfl) ?_
        refine lv_iload_n hx hb (dk hX5_passes_0 14 rfl) rfl (lv_at hl 2 rfl) ?_
        obtain ⟨v_5, e_6, hf⟩ := Option.bind_eq_some_iff.mp hf
        refine rild C hs 7 rfl e_6 (dk hX5_passes_0 15 rfl) ?_
        obtain ⟨kept_7, e_8, hf⟩ := Option.bind_eq_some_iff.mp hf
        refine rist (w1 := (wM G ad refused there used hidden kind figure good load inn tape letter letterAt told kept_7 row costs ships coughs day away taped reading statements hasImage isKeeping cursor backs free goodFor loadedWhen bareGood bareWhen rowMany lots)) C hs 14 rfl e_8 rfl (dk hX5_passes_0 16 rfl) (fun H locs hs => ?_)
        refine lv_goto (tgt := 42) hx hb (dk hX5_passes_0 17 rfl) (by decide) ?_
        refine lv_aload_n hx hb (dk hX5_passes_0 26 rfl) rfl (lv_at hl 0 rfl) ?_
        refine lv_dup hx hb (dk hX5_passes_0 27 rfl) rfl ?_
        refine rg ui5 rfl C hs 0 rfl 23 (by decide) tw_713 rfl rfl (dk hX5_passes_0 28 rfl) ?_
        refine lv_iconst (v := (1 : Int32)) hx hb (dk hX5_passes_0 29 rfl) (by decide) ?_
        refine lv_iadd hx hb (dk hX5_passes_0 30 rfl) ?_
        refine rp (w1 := (wM G ad refused there used hidden kind figure good load inn tape letter letterAt told kept_7 row costs ships coughs day away taped reading statements hasImage isKeeping (cursor + (1 : Int32)) backs free goodFor loadedWhen bareGood bareWhen rowMany lots)) tyX5 tyX5_ok nmX5 ui5 rfl C hs 0 rfl 23 (by decide) tw_713 rfl rfl rfl rfl (Nat.le_of_ble_eq_true rfl) rfl (dk hX5_passes_0 31 rfl) (fun H locs hs => ?_)
        refine lv_iinc (v := (x2 + (1 : Int32))) (lv' := [(2, .int (x2 + (1 : Int32))), (0, .ref (ad 0)), (1, .ref (ad 7))]) hx hb (dk hX5_passes_0 32 rfl) hl (k := 2) rfl (by first | rfl | decide) (by decide) rfl (fun ls hl => ?_)
        refine lv_goto (tgt := 2) hx hb (dk hX5_passes_0 33 rfl) (by decide) ?_
        exact ih _ _ _ _ hf _ _ hs _ (lv_sub hl [1, 2, 0] rfl) hk
set_option maxRecDepth 100000 in
set_option maxHeartbeats 4000000 in
theorem c_X5_passes__good {l : Launch} {G : Gx} {ad : Nat → Nat} {refused there used hidden kind figure good load inn tape letter letterAt told kept row costs : List Int32} {ships coughs day away taped reading statements hasImage isKeeping cursor backs free goodFor loadedWhen bareGood bareWhen rowMany lots : Int32}  {out : List Int32 × List Int32 × Int32} (hf : X5_passes good kept isKeeping cursor = some out) : Ct l G yX5_passes cX5_passes 3 (none) 0 0 [.ref (ad 0), .ref (ad 7)] (wM G ad refused there used hidden kind figure good load inn tape letter letterAt told kept row costs ships coughs day away taped reading statements hasImage isKeeping cursor backs free goodFor loadedWhen bareGood bareWhen rowMany lots) (none) (wM G ad refused there used hidden kind figure out.1 load inn tape letter letterAt told out.2.1 row costs ships coughs day away taped reading statements hasImage isKeeping out.2.2 backs free goodFor loadedWhen bareGood bareWhen rowMany lots) := by
  refine Ct.intro RX5 rfl (plainFor_of_name (by decide)) (Nat.le_of_ble_eq_true rfl) rfl ?_
  intro p e s m args below meth c A C H locs hs ls hl
  obtain ⟨hx, hb, hml, hown, hts, hK, hret, hlk⟩ := id C
  have hl : lv_has ls 3 [(0, .ref (ad 0)), (1, .ref (ad 7))] := hl
  unfold X5_passes at hf
  refine lv_iconst (v := (0 : Int32)) hx hb (dk hX5_passes_0 0 rfl) (by decide) ?_
  refine lv_istore_n (lv' := [(2, .int (0 : Int32)), (0, .ref (ad 0)), (1, .ref (ad 7))]) hx hb (dk hX5_passes_0 1 rfl) rfl hl (by decide) rfl (fun ls hl => ?_)
  refine l_X5_passes__good_L2 C 1000 _ _ _ _ hf _ _ hs _ (lv_sub hl [1, 2, 0] rfl) (fun good_9 kept_10 cursor_11 hf H locs hs ls hl => ?_)
  cases hf
  exact rv C hs (dk hX5_passes_0 34 rfl)

set_option maxRecDepth 100000 in
set_option maxHeartbeats 4000000 in
theorem l_X5_passes__load_L2 {l : Launch} {p : Program} {e : Env} {s : State} {m : MethodId} {args : Array Value} {below : List Frame} {meth : Method} {c : Code} {A : Nat → Prop} {G : Gx} {ad : Nat → Nat} {refused there used hidden kind figure good inn tape letter letterAt told row costs : List Int32} {ships coughs day away taped reading statements hasImage isKeeping backs free goodFor loadedWhen bareGood bareWhen rowMany lots : Int32} {k : List Int32 → List Int32 → Int32 → Option (List Int32 × List Int32 × Int32)} {out : List Int32 × List Int32 × Int32} (C : Cx p s m args meth c cX5_passes RX5 3 (none) G) : ∀ (n : Nat) (x2 : Int32) (load : List Int32) (kept : List Int32) (cursor : Int32), X5_passes_L2 k isKeeping n x2 load kept cursor = some out → ∀ (H : Heap) (locs : List Loc), St G A s.heap H locs (wM G ad refused there used hidden kind figure good load inn tape letter letterAt told kept row costs ships coughs day away taped reading statements hasImage isKeeping cursor backs free goodFor loadedWhen bareGood bareWhen rowMany lots) → ∀ ls : Array Slot, lv_has ls 3 [(0, .ref (ad 0)), (1, .ref (ad 8)), (2, .int x2)] → (∀ (z_load : List Int32) (z_kept : List Int32) (z_cursor : Int32), k z_load z_kept z_cursor = some out → ∀ (H : Heap) (locs : List Loc), St G A s.heap H locs (wM G ad refused there used hidden kind figure good z_load inn tape letter letterAt told z_kept row costs ships coughs day away taped reading statements hasImage isKeeping z_cursor backs free goodFor loadedWhen bareGood bareWhen rowMany lots) → ∀ ls : Array Slot, lv_has ls 3 [] → W p l e (rmOf 0 0) s m args below meth c H locs 0 0 (MQ below (Qof G A (none) (wM G ad refused there used hidden kind figure good out.1 inn tape letter letterAt told out.2.1 row costs ships coughs day away taped reading statements hasImage isKeeping out.2.2 backs free goodFor loadedWhen bareGood bareWhen rowMany lots)) args s 0 0 A) (F0 m 58 ls [])) → W p l e (rmOf 0 0) s m args below meth c H locs 0 0 (MQ below (Qof G A (none) (wM G ad refused there used hidden kind figure good out.1 inn tape letter letterAt told out.2.1 row costs ships coughs day away taped reading statements hasImage isKeeping out.2.2 backs free goodFor loadedWhen bareGood bareWhen rowMany lots)) args s 0 0 A) (F0 m 2 ls []) := by
  obtain ⟨hx, hb, hml, hown, hts, hK, hret, hlk⟩ := id C
  intro n
  induction n with
  | zero => intro x2 load kept cursor hf; cases hf
  | succ n ih =>
    intro x2 load kept cursor hf H locs hs ls hl hk
    rw [X5_passes_L2] at hf
    refine lv_iload_n hx hb (dk hX5_passes_0 2 rfl) rfl (lv_at hl 2 rfl) ?_
    refine lv_aload_n hx hb (dk hX5_passes_0 3 rfl) rfl (lv_at hl 1 rfl) ?_
    refine rlen C hs 8 rfl (dk hX5_passes_0 4 rfl) ?_
    refine lv_icmp_ge (tgt := 58) hx hb (dk hX5_passes_0 5 rfl) (by decide) (fun hc => ?_) (fun hc => ?_)
    · replace hf := ip hf hc
      exact hk _ _ _ hf _ _ hs _ (lv_sub hl [] rfl)
    · replace hf := in_ hf hc
      refine lv_aload_n hx hb (dk hX5_passes_0 6 rfl) rfl (lv_at hl 0 rfl) ?_
      refine rg ui5 rfl C hs 0 rfl 22 (by decide) tw_712 rfl rfl (dk hX5_passes_0 7 rfl) ?_
      refine lv_if_eq (tgt := 30) hx hb (dk hX5_passes_0 8 rfl) (by decide) (fun hc => ?_) (fun hc => ?_)
      · replace hf := ip hf hc
        refine lv_aload_n hx hb (dk hX5_passes_0 18 rfl) rfl (lv_at hl 1 rfl) ?_
        refine lv_iload_n hx hb (dk hX5_passes_0 19 rfl) rfl (lv_at hl 2 rfl) ?_
        refine lv_aload_n hx hb (dk hX5_passes_0 20 rfl) rfl (lv_at hl 0 rfl) ?_
        refine rg ui5 rfl C hs 0 rfl 20 (by decide) tw_710 rfl rfl (dk hX5_passes_0 21 rfl) ?_
        refine lv_aload_n hx hb (dk hX5_passes_0 22 rfl) rfl (lv_at hl 0 rfl) ?_
        refine rg ui5 rfl C hs 0 rfl 23 (by decide) tw_713 rfl rfl (dk hX5_passes_0 23 rfl) ?_
        obtain ⟨v_1, e_2, hf⟩ := Option.bind_eq_some_iff.mp hf
        refine rild C hs 14 rfl e_2 (dk hX5_passes_0 24 rfl) ?_
        obtain ⟨load_3, e_4, hf⟩ := Option.bind_eq_some_iff.mp hf
        refine rist (w1 := (wM G ad refused there used hidden kind figure good load_3 inn tape letter letterAt told kept row costs ships coughs day away taped reading statements hasImage isKeeping cursor backs free goodFor loadedWhen bareGood bareWhen rowMany lots)) C hs 8 rfl e_4 rfl (dk hX5_passes_0 25 rfl) (fun H locs hs => ?_)
        refine lv_aload_n hx hb (dk hX5_passes_0 26 rfl) rfl (lv_at hl 0 rfl) ?_
        refine lv_dup hx hb (dk hX5_passes_0 27 rfl) rfl ?_
        refine rg ui5 rfl C hs 0 rfl 23 (by decide) tw_713 rfl rfl (dk hX5_passes_0 28 rfl) ?_
        refine lv_iconst (v := (1 : Int32)) hx hb (dk hX5_passes_0 29 rfl) (by decide) ?_
        refine lv_iadd hx hb (dk hX5_passes_0 30 rfl) ?_
        refine rp (w1 := (wM G ad refused there used hidden kind figure good load_3 inn tape letter letterAt told kept row costs ships coughs day away taped reading statements hasImage isKeeping (cursor + (1 : Int32)) backs free goodFor loadedWhen bareGood bareWhen rowMany lots)) tyX5 tyX5_ok nmX5 ui5 rfl C hs 0 rfl 23 (by decide) tw_713 rfl rfl rfl rfl (Nat.le_of_ble_eq_true rfl) rfl (dk hX5_passes_0 31 rfl) (fun H locs hs => ?_)
        refine lv_iinc (v := (x2 + (1 : Int32))) (lv' := [(2, .int (x2 + (1 : Int32))), (0, .ref (ad 0)), (1, .ref (ad 8))]) hx hb (dk hX5_passes_0 32 rfl) hl (k := 2) rfl (by first | rfl | decide) (by decide) rfl (fun ls hl => ?_)
        refine lv_goto (tgt := 2) hx hb (dk hX5_passes_0 33 rfl) (by decide) ?_
        exact ih _ _ _ _ hf _ _ hs _ (lv_sub hl [1, 2, 0] rfl) hk
      · replace hf := in_ hf hc
        refine lv_aload_n hx hb (dk hX5_passes_0 9 rfl) rfl (lv_at hl 0 rfl) ?_
        refine rg ui5 rfl C hs 0 rfl 20 (by decide) tw_710 rfl rfl (dk hX5_passes_0 10 rfl) ?_
        refine lv_aload_n hx hb (dk hX5_passes_0 11 rfl) rfl (lv_at hl 0 rfl) ?_
        refine rg ui5 rfl C hs 0 rfl 23 (by decide) tw_713 rfl rfl (dk hX5_passes_0 12 rfl) ?_
        refine lv_aload_n hx hb (dk hX5_passes_0 13 rfl) rfl (lv_at hl 1 rfl) ?_
        refine lv_iload_n hx hb (dk hX5_passes_0 14 rfl) rfl (lv_at hl 2 rfl) ?_
        obtain ⟨v_5, e_6, hf⟩ := Option.bind_eq_some_iff.mp hf
        refine rild C hs 8 rfl e_6 (dk hX5_passes_0 15 rfl) ?_
        obtain ⟨kept_7, e_8, hf⟩ := Option.bind_eq_some_iff.mp hf
        refine rist (w1 := (wM G ad refused there used hidden kind figure good load inn tape letter letterAt told kept_7 row costs ships coughs day away taped reading statements hasImage isKeeping cursor backs free goodFor loadedWhen bareGood bareWhen rowMany lots)) C hs 14 rfl e_8 rfl (dk hX5_passes_0 16 rfl) (fun H locs hs => ?_)
        refine lv_goto (tgt := 42) hx hb (dk hX5_passes_0 17 rfl) (by decide) ?_
        refine lv_aload_n hx hb (dk hX5_passes_0 26 rfl) rfl (lv_at hl 0 rfl) ?_
        refine lv_dup hx hb (dk hX5_passes_0 27 rfl) rfl ?_
        refine rg ui5 rfl C hs 0 rfl 23 (by decide) tw_713 rfl rfl (dk hX5_passes_0 28 rfl) ?_
        refine lv_iconst (v := (1 : Int32)) hx hb (dk hX5_passes_0 29 rfl) (by decide) ?_
        refine lv_iadd hx hb (dk hX5_passes_0 30 rfl) ?_
        refine rp (w1 := (wM G ad refused there used hidden kind figure good load inn tape letter letterAt told kept_7 row costs ships coughs day away taped reading statements hasImage isKeeping (cursor + (1 : Int32)) backs free goodFor loadedWhen bareGood bareWhen rowMany lots)) tyX5 tyX5_ok nmX5 ui5 rfl C hs 0 rfl 23 (by decide) tw_713 rfl rfl rfl rfl (Nat.le_of_ble_eq_true rfl) rfl (dk hX5_passes_0 31 rfl) (fun H locs hs => ?_)
        refine lv_iinc (v := (x2 + (1 : Int32))) (lv' := [(2, .int (x2 + (1 : Int32))), (0, .ref (ad 0)), (1, .ref (ad 8))]) hx hb (dk hX5_passes_0 32 rfl) hl (k := 2) rfl (by first | rfl | decide) (by decide) rfl (fun ls hl => ?_)
        refine lv_goto (tgt := 2) hx hb (dk hX5_passes_0 33 rfl) (by decide) ?_
        exact ih _ _ _ _ hf _ _ hs _ (lv_sub hl [1, 2, 0] rfl) hk
set_option maxRecDepth 100000 in
set_option maxHeartbeats 4000000 in
theorem c_X5_passes__load {l : Launch} {G : Gx} {ad : Nat → Nat} {refused there used hidden kind figure good load inn tape letter letterAt told kept row costs : List Int32} {ships coughs day away taped reading statements hasImage isKeeping cursor backs free goodFor loadedWhen bareGood bareWhen rowMany lots : Int32}  {out : List Int32 × List Int32 × Int32} (hf : X5_passes load kept isKeeping cursor = some out) : Ct l G yX5_passes cX5_passes 3 (none) 0 0 [.ref (ad 0), .ref (ad 8)] (wM G ad refused there used hidden kind figure good load inn tape letter letterAt told kept row costs ships coughs day away taped reading statements hasImage isKeeping cursor backs free goodFor loadedWhen bareGood bareWhen rowMany lots) (none) (wM G ad refused there used hidden kind figure good out.1 inn tape letter letterAt told out.2.1 row costs ships coughs day away taped reading statements hasImage isKeeping out.2.2 backs free goodFor loadedWhen bareGood bareWhen rowMany lots) := by
  refine Ct.intro RX5 rfl (plainFor_of_name (by decide)) (Nat.le_of_ble_eq_true rfl) rfl ?_
  intro p e s m args below meth c A C H locs hs ls hl
  obtain ⟨hx, hb, hml, hown, hts, hK, hret, hlk⟩ := id C
  have hl : lv_has ls 3 [(0, .ref (ad 0)), (1, .ref (ad 8))] := hl
  unfold X5_passes at hf
  refine lv_iconst (v := (0 : Int32)) hx hb (dk hX5_passes_0 0 rfl) (by decide) ?_
  refine lv_istore_n (lv' := [(2, .int (0 : Int32)), (0, .ref (ad 0)), (1, .ref (ad 8))]) hx hb (dk hX5_passes_0 1 rfl) rfl hl (by decide) rfl (fun ls hl => ?_)
  refine l_X5_passes__load_L2 C 1000 _ _ _ _ hf _ _ hs _ (lv_sub hl [1, 2, 0] rfl) (fun load_9 kept_10 cursor_11 hf H locs hs ls hl => ?_)
  cases hf
  exact rv C hs (dk hX5_passes_0 34 rfl)

set_option maxRecDepth 100000 in
set_option maxHeartbeats 4000000 in
theorem l_X5_passes__inn_L2 {l : Launch} {p : Program} {e : Env} {s : State} {m : MethodId} {args : Array Value} {below : List Frame} {meth : Method} {c : Code} {A : Nat → Prop} {G : Gx} {ad : Nat → Nat} {refused there used hidden kind figure good load tape letter letterAt told row costs : List Int32} {ships coughs day away taped reading statements hasImage isKeeping backs free goodFor loadedWhen bareGood bareWhen rowMany lots : Int32} {k : List Int32 → List Int32 → Int32 → Option (List Int32 × List Int32 × Int32)} {out : List Int32 × List Int32 × Int32} (C : Cx p s m args meth c cX5_passes RX5 3 (none) G) : ∀ (n : Nat) (x2 : Int32) (inn : List Int32) (kept : List Int32) (cursor : Int32), X5_passes_L2 k isKeeping n x2 inn kept cursor = some out → ∀ (H : Heap) (locs : List Loc), St G A s.heap H locs (wM G ad refused there used hidden kind figure good load inn tape letter letterAt told kept row costs ships coughs day away taped reading statements hasImage isKeeping cursor backs free goodFor loadedWhen bareGood bareWhen rowMany lots) → ∀ ls : Array Slot, lv_has ls 3 [(0, .ref (ad 0)), (1, .ref (ad 9)), (2, .int x2)] → (∀ (z_inn : List Int32) (z_kept : List Int32) (z_cursor : Int32), k z_inn z_kept z_cursor = some out → ∀ (H : Heap) (locs : List Loc), St G A s.heap H locs (wM G ad refused there used hidden kind figure good load z_inn tape letter letterAt told z_kept row costs ships coughs day away taped reading statements hasImage isKeeping z_cursor backs free goodFor loadedWhen bareGood bareWhen rowMany lots) → ∀ ls : Array Slot, lv_has ls 3 [] → W p l e (rmOf 0 0) s m args below meth c H locs 0 0 (MQ below (Qof G A (none) (wM G ad refused there used hidden kind figure good load out.1 tape letter letterAt told out.2.1 row costs ships coughs day away taped reading statements hasImage isKeeping out.2.2 backs free goodFor loadedWhen bareGood bareWhen rowMany lots)) args s 0 0 A) (F0 m 58 ls [])) → W p l e (rmOf 0 0) s m args below meth c H locs 0 0 (MQ below (Qof G A (none) (wM G ad refused there used hidden kind figure good load out.1 tape letter letterAt told out.2.1 row costs ships coughs day away taped reading statements hasImage isKeeping out.2.2 backs free goodFor loadedWhen bareGood bareWhen rowMany lots)) args s 0 0 A) (F0 m 2 ls []) := by
  obtain ⟨hx, hb, hml, hown, hts, hK, hret, hlk⟩ := id C
  intro n
  induction n with
  | zero => intro x2 inn kept cursor hf; cases hf
  | succ n ih =>
    intro x2 inn kept cursor hf H locs hs ls hl hk
    rw [X5_passes_L2] at hf
    refine lv_iload_n hx hb (dk hX5_passes_0 2 rfl) rfl (lv_at hl 2 rfl) ?_
    refine lv_aload_n hx hb (dk hX5_passes_0 3 rfl) rfl (lv_at hl 1 rfl) ?_
    refine rlen C hs 9 rfl (dk hX5_passes_0 4 rfl) ?_
    refine lv_icmp_ge (tgt := 58) hx hb (dk hX5_passes_0 5 rfl) (by decide) (fun hc => ?_) (fun hc => ?_)
    · replace hf := ip hf hc
      exact hk _ _ _ hf _ _ hs _ (lv_sub hl [] rfl)
    · replace hf := in_ hf hc
      refine lv_aload_n hx hb (dk hX5_passes_0 6 rfl) rfl (lv_at hl 0 rfl) ?_
      refine rg ui5 rfl C hs 0 rfl 22 (by decide) tw_712 rfl rfl (dk hX5_passes_0 7 rfl) ?_
      refine lv_if_eq (tgt := 30) hx hb (dk hX5_passes_0 8 rfl) (by decide) (fun hc => ?_) (fun hc => ?_)
      · replace hf := ip hf hc
        refine lv_aload_n hx hb (dk hX5_passes_0 18 rfl) rfl (lv_at hl 1 rfl) ?_
        refine lv_iload_n hx hb (dk hX5_passes_0 19 rfl) rfl (lv_at hl 2 rfl) ?_
        refine lv_aload_n hx hb (dk hX5_passes_0 20 rfl) rfl (lv_at hl 0 rfl) ?_
        refine rg ui5 rfl C hs 0 rfl 20 (by decide) tw_710 rfl rfl (dk hX5_passes_0 21 rfl) ?_
        refine lv_aload_n hx hb (dk hX5_passes_0 22 rfl) rfl (lv_at hl 0 rfl) ?_
        refine rg ui5 rfl C hs 0 rfl 23 (by decide) tw_713 rfl rfl (dk hX5_passes_0 23 rfl) ?_
        obtain ⟨v_1, e_2, hf⟩ := Option.bind_eq_some_iff.mp hf
        refine rild C hs 14 rfl e_2 (dk hX5_passes_0 24 rfl) ?_
        obtain ⟨inn_3, e_4, hf⟩ := Option.bind_eq_some_iff.mp hf
        refine rist (w1 := (wM G ad refused there used hidden kind figure good load inn_3 tape letter letterAt told kept row costs ships coughs day away taped reading statements hasImage isKeeping cursor backs free goodFor loadedWhen bareGood bareWhen rowMany lots)) C hs 9 rfl e_4 rfl (dk hX5_passes_0 25 rfl) (fun H locs hs => ?_)
        refine lv_aload_n hx hb (dk hX5_passes_0 26 rfl) rfl (lv_at hl 0 rfl) ?_
        refine lv_dup hx hb (dk hX5_passes_0 27 rfl) rfl ?_
        refine rg ui5 rfl C hs 0 rfl 23 (by decide) tw_713 rfl rfl (dk hX5_passes_0 28 rfl) ?_
        refine lv_iconst (v := (1 : Int32)) hx hb (dk hX5_passes_0 29 rfl) (by decide) ?_
        refine lv_iadd hx hb (dk hX5_passes_0 30 rfl) ?_
        refine rp (w1 := (wM G ad refused there used hidden kind figure good load inn_3 tape letter letterAt told kept row costs ships coughs day away taped reading statements hasImage isKeeping (cursor + (1 : Int32)) backs free goodFor loadedWhen bareGood bareWhen rowMany lots)) tyX5 tyX5_ok nmX5 ui5 rfl C hs 0 rfl 23 (by decide) tw_713 rfl rfl rfl rfl (Nat.le_of_ble_eq_true rfl) rfl (dk hX5_passes_0 31 rfl) (fun H locs hs => ?_)
        refine lv_iinc (v := (x2 + (1 : Int32))) (lv' := [(2, .int (x2 + (1 : Int32))), (0, .ref (ad 0)), (1, .ref (ad 9))]) hx hb (dk hX5_passes_0 32 rfl) hl (k := 2) rfl (by first | rfl | decide) (by decide) rfl (fun ls hl => ?_)
        refine lv_goto (tgt := 2) hx hb (dk hX5_passes_0 33 rfl) (by decide) ?_
        exact ih _ _ _ _ hf _ _ hs _ (lv_sub hl [1, 2, 0] rfl) hk
      · replace hf := in_ hf hc
        refine lv_aload_n hx hb (dk hX5_passes_0 9 rfl) rfl (lv_at hl 0 rfl) ?_
        refine rg ui5 rfl C hs 0 rfl 20 (by decide) tw_710 rfl rfl (dk hX5_passes_0 10 rfl) ?_
        refine lv_aload_n hx hb (dk hX5_passes_0 11 rfl) rfl (lv_at hl 0 rfl) ?_
        refine rg ui5 rfl C hs 0 rfl 23 (by decide) tw_713 rfl rfl (dk hX5_passes_0 12 rfl) ?_
        refine lv_aload_n hx hb (dk hX5_passes_0 13 rfl) rfl (lv_at hl 1 rfl) ?_
        refine lv_iload_n hx hb (dk hX5_passes_0 14 rfl) rfl (lv_at hl 2 rfl) ?_
        obtain ⟨v_5, e_6, hf⟩ := Option.bind_eq_some_iff.mp hf
        refine rild C hs 9 rfl e_6 (dk hX5_passes_0 15 rfl) ?_
        obtain ⟨kept_7, e_8, hf⟩ := Option.bind_eq_some_iff.mp hf
        refine rist (w1 := (wM G ad refused there used hidden kind figure good load inn tape letter letterAt told kept_7 row costs ships coughs day away taped reading statements hasImage isKeeping cursor backs free goodFor loadedWhen bareGood bareWhen rowMany lots)) C hs 14 rfl e_8 rfl (dk hX5_passes_0 16 rfl) (fun H locs hs => ?_)
        refine lv_goto (tgt := 42) hx hb (dk hX5_passes_0 17 rfl) (by decide) ?_
        refine lv_aload_n hx hb (dk hX5_passes_0 26 rfl) rfl (lv_at hl 0 rfl) ?_
        refine lv_dup hx hb (dk hX5_passes_0 27 rfl) rfl ?_
        refine rg ui5 rfl C hs 0 rfl 23 (by decide) tw_713 rfl rfl (dk hX5_passes_0 28 rfl) ?_
        refine lv_iconst (v := (1 : Int32)) hx hb (dk hX5_passes_0 29 rfl) (by decide) ?_
        refine lv_iadd hx hb (dk hX5_passes_0 30 rfl) ?_
        refine rp (w1 := (wM G ad refused there used hidden kind figure good load inn tape letter letterAt told kept_7 row costs ships coughs day away taped reading statements hasImage isKeeping (cursor + (1 : Int32)) backs free goodFor loadedWhen bareGood bareWhen rowMany lots)) tyX5 tyX5_ok nmX5 ui5 rfl C hs 0 rfl 23 (by decide) tw_713 rfl rfl rfl rfl (Nat.le_of_ble_eq_true rfl) rfl (dk hX5_passes_0 31 rfl) (fun H locs hs => ?_)
        refine lv_iinc (v := (x2 + (1 : Int32))) (lv' := [(2, .int (x2 + (1 : Int32))), (0, .ref (ad 0)), (1, .ref (ad 9))]) hx hb (dk hX5_passes_0 32 rfl) hl (k := 2) rfl (by first | rfl | decide) (by decide) rfl (fun ls hl => ?_)
        refine lv_goto (tgt := 2) hx hb (dk hX5_passes_0 33 rfl) (by decide) ?_
        exact ih _ _ _ _ hf _ _ hs _ (lv_sub hl [1, 2, 0] rfl) hk
set_option maxRecDepth 100000 in
set_option maxHeartbeats 4000000 in
theorem c_X5_passes__inn {l : Launch} {G : Gx} {ad : Nat → Nat} {refused there used hidden kind figure good load inn tape letter letterAt told kept row costs : List Int32} {ships coughs day away taped reading statements hasImage isKeeping cursor backs free goodFor loadedWhen bareGood bareWhen rowMany lots : Int32}  {out : List Int32 × List Int32 × Int32} (hf : X5_passes inn kept isKeeping cursor = some out) : Ct l G yX5_passes cX5_passes 3 (none) 0 0 [.ref (ad 0), .ref (ad 9)] (wM G ad refused there used hidden kind figure good load inn tape letter letterAt told kept row costs ships coughs day away taped reading statements hasImage isKeeping cursor backs free goodFor loadedWhen bareGood bareWhen rowMany lots) (none) (wM G ad refused there used hidden kind figure good load out.1 tape letter letterAt told out.2.1 row costs ships coughs day away taped reading statements hasImage isKeeping out.2.2 backs free goodFor loadedWhen bareGood bareWhen rowMany lots) := by
  refine Ct.intro RX5 rfl (plainFor_of_name (by decide)) (Nat.le_of_ble_eq_true rfl) rfl ?_
  intro p e s m args below meth c A C H locs hs ls hl
  obtain ⟨hx, hb, hml, hown, hts, hK, hret, hlk⟩ := id C
  have hl : lv_has ls 3 [(0, .ref (ad 0)), (1, .ref (ad 9))] := hl
  unfold X5_passes at hf
  refine lv_iconst (v := (0 : Int32)) hx hb (dk hX5_passes_0 0 rfl) (by decide) ?_
  refine lv_istore_n (lv' := [(2, .int (0 : Int32)), (0, .ref (ad 0)), (1, .ref (ad 9))]) hx hb (dk hX5_passes_0 1 rfl) rfl hl (by decide) rfl (fun ls hl => ?_)
  refine l_X5_passes__inn_L2 C 1000 _ _ _ _ hf _ _ hs _ (lv_sub hl [1, 2, 0] rfl) (fun inn_9 kept_10 cursor_11 hf H locs hs ls hl => ?_)
  cases hf
  exact rv C hs (dk hX5_passes_0 34 rfl)

def X5_passOne (kept : List Int32) (isKeeping : Int32) (cursor : Int32) (p0 : Int32) : Option (List Int32 × Int32 × Int32) :=
  if isKeeping = (0 : Int32) then
  (rd kept cursor).bind fun v_1 =>
  if isKeeping = (0 : Int32) then
  some (kept, (cursor + (1 : Int32)), v_1)
  else
  (wr kept cursor p0).bind fun kept_3 =>
  some (kept_3, (cursor + (1 : Int32)), v_1)
  else
  if isKeeping = (0 : Int32) then
  some (kept, (cursor + (1 : Int32)), p0)
  else
  (wr kept cursor p0).bind fun kept_5 =>
  some (kept_5, (cursor + (1 : Int32)), p0)
set_option maxRecDepth 100000 in
set_option maxHeartbeats 4000000 in
theorem c_X5_passOne {l : Launch} {G : Gx} {ad : Nat → Nat} {refused there used hidden kind figure good load inn tape letter letterAt told kept row costs : List Int32} {ships coughs day away taped reading statements hasImage isKeeping cursor backs free goodFor loadedWhen bareGood bareWhen rowMany lots : Int32} {p0 : Int32} {out : List Int32 × Int32 × Int32} (hf : X5_passOne kept isKeeping cursor p0 = some out) : Ct l G yX5_passOne cX5_passOne 3 (some .int) 0 0 [.ref (ad 0), .int p0] (wM G ad refused there used hidden kind figure good load inn tape letter letterAt told kept row costs ships coughs day away taped reading statements hasImage isKeeping cursor backs free goodFor loadedWhen bareGood bareWhen rowMany lots) (some (.int out.2.2)) (wM G ad refused there used hidden kind figure good load inn tape letter letterAt told out.1 row costs ships coughs day away taped reading statements hasImage isKeeping out.2.1 backs free goodFor loadedWhen bareGood bareWhen rowMany lots) := by
  refine Ct.intro RX5 rfl (plainFor_of_name (by decide)) (Nat.le_of_ble_eq_true rfl) rfl ?_
  intro p e s m args below meth c A C H locs hs ls hl
  obtain ⟨hx, hb, hml, hown, hts, hK, hret, hlk⟩ := id C
  have hl : lv_has ls 3 [(0, .ref (ad 0)), (1, .int p0)] := hl
  unfold X5_passOne at hf
  refine lv_aload_n hx hb (dk hX5_passOne_0 0 rfl) rfl (lv_at hl 0 rfl) ?_
  refine rg ui5 rfl C hs 0 rfl 22 (by decide) tw_712 rfl rfl (dk hX5_passOne_0 1 rfl) ?_
  refine lv_if_eq (tgt := 11) hx hb (dk hX5_passOne_0 2 rfl) (by decide) (fun hc => ?_) (fun hc => ?_)
  · replace hf := ip hf hc
    refine lv_aload_n hx hb (dk hX5_passOne_0 5 rfl) rfl (lv_at hl 0 rfl) ?_
    refine rg ui5 rfl C hs 0 rfl 20 (by decide) tw_710 rfl rfl (dk hX5_passOne_0 6 rfl) ?_
    refine lv_aload_n hx hb (dk hX5_passOne_0 7 rfl) rfl (lv_at hl 0 rfl) ?_
    refine rg ui5 rfl C hs 0 rfl 23 (by decide) tw_713 rfl rfl (dk hX5_passOne_0 8 rfl) ?_
    obtain ⟨v_1, e_2, hf⟩ := Option.bind_eq_some_iff.mp hf
    refine rild C hs 14 rfl e_2 (dk hX5_passOne_0 9 rfl) ?_
    refine lv_istore_n (lv' := [(2, .int v_1), (0, .ref (ad 0)), (1, .int p0)]) hx hb (dk hX5_passOne_0 10 rfl) rfl hl (by decide) rfl (fun ls hl => ?_)
    refine lv_aload_n hx hb (dk hX5_passOne_0 11 rfl) rfl (lv_at hl 1 rfl) ?_
    refine rg ui5 rfl C hs 0 rfl 22 (by decide) tw_712 rfl rfl (dk hX5_passOne_0 12 rfl) ?_
    refine lv_if_eq (tgt := 38) hx hb (dk hX5_passOne_0 13 rfl) (by decide) (fun hc => ?_) (fun hc => ?_)
    · replace hf := ip hf hc
      refine lv_aload_n hx hb (dk hX5_passOne_0 20 rfl) rfl (lv_at hl 1 rfl) ?_
      refine lv_dup hx hb (dk hX5_passOne_0 21 rfl) rfl ?_
      refine rg ui5 rfl C hs 0 rfl 23 (by decide) tw_713 rfl rfl (dk hX5_passOne_0 22 rfl) ?_
      refine lv_iconst (v := (1 : Int32)) hx hb (dk hX5_passOne_0 23 rfl) (by decide) ?_
      refine lv_iadd hx hb (dk hX5_passOne_0 24 rfl) ?_
      refine rp (w1 := (wM G ad refused there used hidden kind figure good load inn tape letter letterAt told kept row costs ships coughs day away taped reading statements hasImage isKeeping (cursor + (1 : Int32)) backs free goodFor loadedWhen bareGood bareWhen rowMany lots)) tyX5 tyX5_ok nmX5 ui5 rfl C hs 0 rfl 23 (by decide) tw_713 rfl rfl rfl rfl (Nat.le_of_ble_eq_true rfl) rfl (dk hX5_passOne_0 25 rfl) (fun H locs hs => ?_)
      refine lv_iload_n hx hb (dk hX5_passOne_0 26 rfl) rfl (lv_at hl 0 rfl) ?_
      cases hf
      exact ri C hs (dk hX5_passOne_0 27 rfl)
    · replace hf := in_ hf hc
      refine lv_aload_n hx hb (dk hX5_passOne_0 14 rfl) rfl (lv_at hl 1 rfl) ?_
      refine rg ui5 rfl C hs 0 rfl 20 (by decide) tw_710 rfl rfl (dk hX5_passOne_0 15 rfl) ?_
      refine lv_aload_n hx hb (dk hX5_passOne_0 16 rfl) rfl (lv_at hl 1 rfl) ?_
      refine rg ui5 rfl C hs 0 rfl 23 (by decide) tw_713 rfl rfl (dk hX5_passOne_0 17 rfl) ?_
      refine lv_iload_n hx hb (dk hX5_passOne_0 18 rfl) rfl (lv_at hl 2 rfl) ?_
      obtain ⟨kept_3, e_4, hf⟩ := Option.bind_eq_some_iff.mp hf
      refine rist (w1 := (wM G ad refused there used hidden kind figure good load inn tape letter letterAt told kept_3 row costs ships coughs day away taped reading statements hasImage isKeeping cursor backs free goodFor loadedWhen bareGood bareWhen rowMany lots)) C hs 14 rfl e_4 rfl (dk hX5_passOne_0 19 rfl) (fun H locs hs => ?_)
      refine lv_aload_n hx hb (dk hX5_passOne_0 20 rfl) rfl (lv_at hl 1 rfl) ?_
      refine lv_dup hx hb (dk hX5_passOne_0 21 rfl) rfl ?_
      refine rg ui5 rfl C hs 0 rfl 23 (by decide) tw_713 rfl rfl (dk hX5_passOne_0 22 rfl) ?_
      refine lv_iconst (v := (1 : Int32)) hx hb (dk hX5_passOne_0 23 rfl) (by decide) ?_
      refine lv_iadd hx hb (dk hX5_passOne_0 24 rfl) ?_
      refine rp (w1 := (wM G ad refused there used hidden kind figure good load inn tape letter letterAt told kept_3 row costs ships coughs day away taped reading statements hasImage isKeeping (cursor + (1 : Int32)) backs free goodFor loadedWhen bareGood bareWhen rowMany lots)) tyX5 tyX5_ok nmX5 ui5 rfl C hs 0 rfl 23 (by decide) tw_713 rfl rfl rfl rfl (Nat.le_of_ble_eq_true rfl) rfl (dk hX5_passOne_0 25 rfl) (fun H locs hs => ?_)
      refine lv_iload_n hx hb (dk hX5_passOne_0 26 rfl) rfl (lv_at hl 0 rfl) ?_
      cases hf
      exact ri C hs (dk hX5_passOne_0 27 rfl)
  · replace hf := in_ hf hc
    refine lv_iload_n hx hb (dk hX5_passOne_0 3 rfl) rfl (lv_at hl 1 rfl) ?_
    refine lv_goto (tgt := 20) hx hb (dk hX5_passOne_0 4 rfl) (by decide) ?_
    refine lv_istore_n (lv' := [(2, .int p0), (0, .ref (ad 0)), (1, .int p0)]) hx hb (dk hX5_passOne_0 10 rfl) rfl hl (by decide) rfl (fun ls hl => ?_)
    refine lv_aload_n hx hb (dk hX5_passOne_0 11 rfl) rfl (lv_at hl 1 rfl) ?_
    refine rg ui5 rfl C hs 0 rfl 22 (by decide) tw_712 rfl rfl (dk hX5_passOne_0 12 rfl) ?_
    refine lv_if_eq (tgt := 38) hx hb (dk hX5_passOne_0 13 rfl) (by decide) (fun hc => ?_) (fun hc => ?_)
    · replace hf := ip hf hc
      refine lv_aload_n hx hb (dk hX5_passOne_0 20 rfl) rfl (lv_at hl 1 rfl) ?_
      refine lv_dup hx hb (dk hX5_passOne_0 21 rfl) rfl ?_
      refine rg ui5 rfl C hs 0 rfl 23 (by decide) tw_713 rfl rfl (dk hX5_passOne_0 22 rfl) ?_
      refine lv_iconst (v := (1 : Int32)) hx hb (dk hX5_passOne_0 23 rfl) (by decide) ?_
      refine lv_iadd hx hb (dk hX5_passOne_0 24 rfl) ?_
      refine rp (w1 := (wM G ad refused there used hidden kind figure good load inn tape letter letterAt told kept row costs ships coughs day away taped reading statements hasImage isKeeping (cursor + (1 : Int32)) backs free goodFor loadedWhen bareGood bareWhen rowMany lots)) tyX5 tyX5_ok nmX5 ui5 rfl C hs 0 rfl 23 (by decide) tw_713 rfl rfl rfl rfl (Nat.le_of_ble_eq_true rfl) rfl (dk hX5_passOne_0 25 rfl) (fun H locs hs => ?_)
      refine lv_iload_n hx hb (dk hX5_passOne_0 26 rfl) rfl (lv_at hl 0 rfl) ?_
      cases hf
      exact ri C hs (dk hX5_passOne_0 27 rfl)
    · replace hf := in_ hf hc
      refine lv_aload_n hx hb (dk hX5_passOne_0 14 rfl) rfl (lv_at hl 1 rfl) ?_
      refine rg ui5 rfl C hs 0 rfl 20 (by decide) tw_710 rfl rfl (dk hX5_passOne_0 15 rfl) ?_
      refine lv_aload_n hx hb (dk hX5_passOne_0 16 rfl) rfl (lv_at hl 1 rfl) ?_
      refine rg ui5 rfl C hs 0 rfl 23 (by decide) tw_713 rfl rfl (dk hX5_passOne_0 17 rfl) ?_
      refine lv_iload_n hx hb (dk hX5_passOne_0 18 rfl) rfl (lv_at hl 2 rfl) ?_
      obtain ⟨kept_5, e_6, hf⟩ := Option.bind_eq_some_iff.mp hf
      refine rist (w1 := (wM G ad refused there used hidden kind figure good load inn tape letter letterAt told kept_5 row costs ships coughs day away taped reading statements hasImage isKeeping cursor backs free goodFor loadedWhen bareGood bareWhen rowMany lots)) C hs 14 rfl e_6 rfl (dk hX5_passOne_0 19 rfl) (fun H locs hs => ?_)
      refine lv_aload_n hx hb (dk hX5_passOne_0 20 rfl) rfl (lv_at hl 1 rfl) ?_
      refine lv_dup hx hb (dk hX5_passOne_0 21 rfl) rfl ?_
      refine rg ui5 rfl C hs 0 rfl 23 (by decide) tw_713 rfl rfl (dk hX5_passOne_0 22 rfl) ?_
      refine lv_iconst (v := (1 : Int32)) hx hb (dk hX5_passOne_0 23 rfl) (by decide) ?_
      refine lv_iadd hx hb (dk hX5_passOne_0 24 rfl) ?_
      refine rp (w1 := (wM G ad refused there used hidden kind figure good load inn tape letter letterAt told kept_5 row costs ships coughs day away taped reading statements hasImage isKeeping (cursor + (1 : Int32)) backs free goodFor loadedWhen bareGood bareWhen rowMany lots)) tyX5 tyX5_ok nmX5 ui5 rfl C hs 0 rfl 23 (by decide) tw_713 rfl rfl rfl rfl (Nat.le_of_ble_eq_true rfl) rfl (dk hX5_passOne_0 25 rfl) (fun H locs hs => ?_)
      refine lv_iload_n hx hb (dk hX5_passOne_0 26 rfl) rfl (lv_at hl 0 rfl) ?_
      cases hf
      exact ri C hs (dk hX5_passOne_0 27 rfl)

def X5_passesAll (there : List Int32) (used : List Int32) (hidden : List Int32) (kind : List Int32) (figure : List Int32) (good : List Int32) (load : List Int32) (inn : List Int32) (kept : List Int32) (ships : Int32) (coughs : Int32) (day : Int32) (isKeeping : Int32) (cursor : Int32) (p0 : Int32) (p1 : Int32) : Option (List Int32 × List Int32 × List Int32 × List Int32 × List Int32 × List Int32 × List Int32 × List Int32 × List Int32 × Int32 × Int32 × Int32 × Int32 × Int32) :=
  (c01 p1).bind fun b_1 =>
  (X5_passes there kept p1 ((56 : Int32) * p0)).bind fun u_3 =>
  (X5_passes used u_3.2.1 p1 u_3.2.2).bind fun u_5 =>
  (X5_passes hidden u_5.2.1 p1 u_5.2.2).bind fun u_7 =>
  (X5_passes kind u_7.2.1 p1 u_7.2.2).bind fun u_9 =>
  (X5_passes figure u_9.2.1 p1 u_9.2.2).bind fun u_11 =>
  (X5_passes good u_11.2.1 p1 u_11.2.2).bind fun u_13 =>
  (X5_passes load u_13.2.1 p1 u_13.2.2).bind fun u_15 =>
  (X5_passes inn u_15.2.1 p1 u_15.2.2).bind fun u_17 =>
  (X5_passOne u_17.2.1 p1 u_17.2.2 ships).bind fun u_19 =>
  (X5_passOne u_19.1 p1 u_19.2.1 coughs).bind fun u_21 =>
  (X5_passOne u_21.1 p1 u_21.2.1 day).bind fun u_23 =>
  some (u_3.1, u_5.1, u_7.1, u_9.1, u_11.1, u_13.1, u_15.1, u_17.1, u_23.1, u_19.2.2, u_21.2.2, u_23.2.2, p1, u_23.2.1)
set_option maxRecDepth 100000 in
set_option maxHeartbeats 4000000 in
theorem c_X5_passesAll {l : Launch} {G : Gx} {ad : Nat → Nat} {refused there used hidden kind figure good load inn tape letter letterAt told kept row costs : List Int32} {ships coughs day away taped reading statements hasImage isKeeping cursor backs free goodFor loadedWhen bareGood bareWhen rowMany lots : Int32} {p0 : Int32} {p1 : Int32} {out : List Int32 × List Int32 × List Int32 × List Int32 × List Int32 × List Int32 × List Int32 × List Int32 × List Int32 × Int32 × Int32 × Int32 × Int32 × Int32} (hf : X5_passesAll there used hidden kind figure good load inn kept ships coughs day isKeeping cursor p0 p1 = some out) : Ct l G yX5_passesAll cX5_passesAll 3 (none) 1 22 [.ref (ad 0), .int p0, .int p1] (wM G ad refused there used hidden kind figure good load inn tape letter letterAt told kept row costs ships coughs day away taped reading statements hasImage isKeeping cursor backs free goodFor loadedWhen bareGood bareWhen rowMany lots) (none) (wM G ad refused out.1 out.2.1 out.2.2.1 out.2.2.2.1 out.2.2.2.2.1 out.2.2.2.2.2.1 out.2.2.2.2.2.2.1 out.2.2.2.2.2.2.2.1 tape letter letterAt told out.2.2.2.2.2.2.2.2.1 row costs out.2.2.2.2.2.2.2.2.2.1 out.2.2.2.2.2.2.2.2.2.2.1 out.2.2.2.2.2.2.2.2.2.2.2.1 away taped reading statements hasImage out.2.2.2.2.2.2.2.2.2.2.2.2.1 out.2.2.2.2.2.2.2.2.2.2.2.2.2 backs free goodFor loadedWhen bareGood bareWhen rowMany lots) := by
  refine Ct.intro RX5 rfl (plainFor_of_name (by decide)) (Nat.le_of_ble_eq_true rfl) rfl ?_
  intro p e s m args below meth c A C H locs hs ls hl
  obtain ⟨hx, hb, hml, hown, hts, hK, hret, hlk⟩ := id C
  have hl : lv_has ls 3 [(0, .ref (ad 0)), (1, .int p0), (2, .int p1)] := hl
  unfold X5_passesAll at hf
  refine lv_aload_n hx hb (dk hX5_passesAll_0 0 rfl) rfl (lv_at hl 0 rfl) ?_
  refine lv_bipush (v := (56 : Int32)) hx hb (dk hX5_passesAll_0 1 rfl) (by decide) ?_
  refine lv_iload_n hx hb (dk hX5_passesAll_0 2 rfl) rfl (lv_at hl 1 rfl) ?_
  refine lv_imul hx hb (dk hX5_passesAll_0 3 rfl) ?_
  refine rp (w1 := (wM G ad refused there used hidden kind figure good load inn tape letter letterAt told kept row costs ships coughs day away taped reading statements hasImage isKeeping ((56 : Int32) * p0) backs free goodFor loadedWhen bareGood bareWhen rowMany lots)) tyX5 tyX5_ok nmX5 ui5 rfl C hs 0 rfl 23 (by decide) tw_713 rfl rfl rfl rfl (Nat.le_of_ble_eq_true rfl) rfl (dk hX5_passesAll_0 4 rfl) (fun H locs hs => ?_)
  refine lv_aload_n hx hb (dk hX5_passesAll_0 5 rfl) rfl (lv_at hl 0 rfl) ?_
  refine lv_iload_n hx hb (dk hX5_passesAll_0 6 rfl) rfl (lv_at hl 2 rfl) ?_
  obtain ⟨b_1, hz_2, hf⟩ := Option.bind_eq_some_iff.mp hf
  refine rp (w1 := (wM G ad refused there used hidden kind figure good load inn tape letter letterAt told kept row costs ships coughs day away taped reading statements hasImage p1 ((56 : Int32) * p0) backs free goodFor loadedWhen bareGood bareWhen rowMany lots)) tyX5 tyX5_ok nmX5 ui5 rfl C hs 0 rfl 22 (by decide) tw_712 rfl rfl (c01_z hz_2).2 (c01_f hz_2) (Nat.le_of_ble_eq_true rfl) rfl (dk hX5_passesAll_0 7 rfl) (fun H locs hs => ?_)
  refine lv_aload_n hx hb (dk hX5_passesAll_0 8 rfl) rfl (lv_at hl 0 rfl) ?_
  refine lv_aload_n hx hb (dk hX5_passesAll_0 9 rfl) rfl (lv_at hl 0 rfl) ?_
  refine rg ui5 rfl C hs 0 rfl 1 (by decide) tw_691 rfl rfl (dk hX5_passesAll_0 10 rfl) ?_
  obtain ⟨u_3, e_4, hf⟩ := Option.bind_eq_some_iff.mp hf
  refine Ct.V (As := [.ref (ad 2)]) (rest := []) (st1 := []) (w1 := (wM G ad refused u_3.1 used hidden kind figure good load inn tape letter letterAt told u_3.2.1 row costs ships coughs day away taped reading statements hasImage p1 u_3.2.2 backs free goodFor loadedWhen bareGood bareWhen rowMany lots)) C hs (c_X5_passes e_4) tw_831 tw_833 tw_27 tw_85 tw_834 nq_X5_passes (by decide) 0 5 rfl rfl rfl rfl hl.1 rfl (Nat.le_of_ble_eq_true rfl) (dk hX5_passesAll_0 11 rfl) ⟨Nat.zero_le _, Nat.zero_le _⟩ rfl (fun H locs hs => ?_)
  refine lv_aload_n hx hb (dk hX5_passesAll_0 12 rfl) rfl (lv_at hl 0 rfl) ?_
  refine lv_aload_n hx hb (dk hX5_passesAll_0 13 rfl) rfl (lv_at hl 0 rfl) ?_
  refine rg ui5 rfl C hs 0 rfl 2 (by decide) tw_692 rfl rfl (dk hX5_passesAll_0 14 rfl) ?_
  obtain ⟨u_5, e_6, hf⟩ := Option.bind_eq_some_iff.mp hf
  refine Ct.V (As := [.ref (ad 3)]) (rest := []) (st1 := []) (w1 := (wM G ad refused u_3.1 u_5.1 hidden kind figure good load inn tape letter letterAt told u_5.2.1 row costs ships coughs day away taped reading statements hasImage p1 u_5.2.2 backs free goodFor loadedWhen bareGood bareWhen rowMany lots)) C hs (c_X5_passes__used e_6) tw_831 tw_833 tw_27 tw_85 tw_834 nq_X5_passes (by decide) 0 5 rfl rfl rfl rfl hl.1 rfl (Nat.le_of_ble_eq_true rfl) (dk hX5_passesAll_0 15 rfl) ⟨Nat.zero_le _, Nat.zero_le _⟩ rfl (fun H locs hs => ?_)
  refine lv_aload_n hx hb (dk hX5_passesAll_0 16 rfl) rfl (lv_at hl 0 rfl) ?_
  refine lv_aload_n hx hb (dk hX5_passesAll_0 17 rfl) rfl (lv_at hl 0 rfl) ?_
  refine rg ui5 rfl C hs 0 rfl 3 (by decide) tw_693 rfl rfl (dk hX5_passesAll_0 18 rfl) ?_
  obtain ⟨u_7, e_8, hf⟩ := Option.bind_eq_some_iff.mp hf
  refine Ct.V (As := [.ref (ad 4)]) (rest := []) (st1 := []) (w1 := (wM G ad refused u_3.1 u_5.1 u_7.1 kind figure good load inn tape letter letterAt told u_7.2.1 row costs ships coughs day away taped reading statements hasImage p1 u_7.2.2 backs free goodFor loadedWhen bareGood bareWhen rowMany lots)) C hs (c_X5_passes__hidden e_8) tw_831 tw_833 tw_27 tw_85 tw_834 nq_X5_passes (by decide) 0 5 rfl rfl rfl rfl hl.1 rfl (Nat.le_of_ble_eq_true rfl) (dk hX5_passesAll_0 19 rfl) ⟨Nat.zero_le _, Nat.zero_le _⟩ rfl (fun H locs hs => ?_)
  refine lv_aload_n hx hb (dk hX5_passesAll_0 20 rfl) rfl (lv_at hl 0 rfl) ?_
  refine lv_aload_n hx hb (dk hX5_passesAll_0 21 rfl) rfl (lv_at hl 0 rfl) ?_
  refine rg ui5 rfl C hs 0 rfl 4 (by decide) tw_694 rfl rfl (dk hX5_passesAll_0 22 rfl) ?_
  obtain ⟨u_9, e_10, hf⟩ := Option.bind_eq_some_iff.mp hf
  refine Ct.V (As := [.ref (ad 5)]) (rest := []) (st1 := []) (w1 := (wM G ad refused u_3.1 u_5.1 u_7.1 u_9.1 figure good load inn tape letter letterAt told u_9.2.1 row costs ships coughs day away taped reading statements hasImage p1 u_9.2.2 backs free goodFor loadedWhen bareGood bareWhen rowMany lots)) C hs (c_X5_passes__kind e_10) tw_831 tw_833 tw_27 tw_85 tw_834 nq_X5_passes (by decide) 0 5 rfl rfl rfl rfl hl.1 rfl (Nat.le_of_ble_eq_true rfl) (dk hX5_passesAll_0 23 rfl) ⟨Nat.zero_le _, Nat.zero_le _⟩ rfl (fun H locs hs => ?_)
  refine lv_aload_n hx hb (dk hX5_passesAll_0 24 rfl) rfl (lv_at hl 0 rfl) ?_
  refine lv_aload_n hx hb (dk hX5_passesAll_0 25 rfl) rfl (lv_at hl 0 rfl) ?_
  refine rg ui5 rfl C hs 0 rfl 5 (by decide) tw_695 rfl rfl (dk hX5_passesAll_0 26 rfl) ?_
  obtain ⟨u_11, e_12, hf⟩ := Option.bind_eq_some_iff.mp hf
  refine Ct.V (As := [.ref (ad 6)]) (rest := []) (st1 := []) (w1 := (wM G ad refused u_3.1 u_5.1 u_7.1 u_9.1 u_11.1 good load inn tape letter letterAt told u_11.2.1 row costs ships coughs day away taped reading statements hasImage p1 u_11.2.2 backs free goodFor loadedWhen bareGood bareWhen rowMany lots)) C hs (c_X5_passes__figure e_12) tw_831 tw_833 tw_27 tw_85 tw_834 nq_X5_passes (by decide) 0 5 rfl rfl rfl rfl hl.1 rfl (Nat.le_of_ble_eq_true rfl) (dk hX5_passesAll_0 27 rfl) ⟨Nat.zero_le _, Nat.zero_le _⟩ rfl (fun H locs hs => ?_)
  refine lv_aload_n hx hb (dk hX5_passesAll_0 28 rfl) rfl (lv_at hl 0 rfl) ?_
  refine lv_aload_n hx hb (dk hX5_passesAll_0 29 rfl) rfl (lv_at hl 0 rfl) ?_
  refine rg ui5 rfl C hs 0 rfl 6 (by decide) tw_696 rfl rfl (dk hX5_passesAll_0 30 rfl) ?_
  obtain ⟨u_13, e_14, hf⟩ := Option.bind_eq_some_iff.mp hf
  refine Ct.V (As := [.ref (ad 7)]) (rest := []) (st1 := []) (w1 := (wM G ad refused u_3.1 u_5.1 u_7.1 u_9.1 u_11.1 u_13.1 load inn tape letter letterAt told u_13.2.1 row costs ships coughs day away taped reading statements hasImage p1 u_13.2.2 backs free goodFor loadedWhen bareGood bareWhen rowMany lots)) C hs (c_X5_passes__good e_14) tw_831 tw_833 tw_27 tw_85 tw_834 nq_X5_passes (by decide) 0 5 rfl rfl rfl rfl hl.1 rfl (Nat.le_of_ble_eq_true rfl) (dk hX5_passesAll_0 31 rfl) ⟨Nat.zero_le _, Nat.zero_le _⟩ rfl (fun H locs hs => ?_)
  refine lv_aload_n hx hb (dk hX5_passesAll_0 32 rfl) rfl (lv_at hl 0 rfl) ?_
  refine lv_aload_n hx hb (dk hX5_passesAll_0 33 rfl) rfl (lv_at hl 0 rfl) ?_
  refine rg ui5 rfl C hs 0 rfl 7 (by decide) tw_697 rfl rfl (dk hX5_passesAll_0 34 rfl) ?_
  obtain ⟨u_15, e_16, hf⟩ := Option.bind_eq_some_iff.mp hf
  refine Ct.V (As := [.ref (ad 8)]) (rest := []) (st1 := []) (w1 := (wM G ad refused u_3.1 u_5.1 u_7.1 u_9.1 u_11.1 u_13.1 u_15.1 inn tape letter letterAt told u_15.2.1 row costs ships coughs day away taped reading statements hasImage p1 u_15.2.2 backs free goodFor loadedWhen bareGood bareWhen rowMany lots)) C hs (c_X5_passes__load e_16) tw_831 tw_833 tw_27 tw_85 tw_834 nq_X5_passes (by decide) 0 5 rfl rfl rfl rfl hl.1 rfl (Nat.le_of_ble_eq_true rfl) (dk hX5_passesAll_0 35 rfl) ⟨Nat.zero_le _, Nat.zero_le _⟩ rfl (fun H locs hs => ?_)
  refine lv_aload_n hx hb (dk hX5_passesAll_0 36 rfl) rfl (lv_at hl 0 rfl) ?_
  refine lv_aload_n hx hb (dk hX5_passesAll_0 37 rfl) rfl (lv_at hl 0 rfl) ?_
  refine rg ui5 rfl C hs 0 rfl 8 (by decide) tw_698 rfl rfl (dk hX5_passesAll_0 38 rfl) ?_
  obtain ⟨u_17, e_18, hf⟩ := Option.bind_eq_some_iff.mp hf
  refine Ct.V (As := [.ref (ad 9)]) (rest := []) (st1 := []) (w1 := (wM G ad refused u_3.1 u_5.1 u_7.1 u_9.1 u_11.1 u_13.1 u_15.1 u_17.1 tape letter letterAt told u_17.2.1 row costs ships coughs day away taped reading statements hasImage p1 u_17.2.2 backs free goodFor loadedWhen bareGood bareWhen rowMany lots)) C hs (c_X5_passes__inn e_18) tw_831 tw_833 tw_27 tw_85 tw_834 nq_X5_passes (by decide) 0 5 rfl rfl rfl rfl hl.1 rfl (Nat.le_of_ble_eq_true rfl) (dk hX5_passesAll_0 39 rfl) ⟨Nat.zero_le _, Nat.zero_le _⟩ rfl (fun H locs hs => ?_)
  refine lv_aload_n hx hb (dk hX5_passesAll_1 0 rfl) rfl (lv_at hl 0 rfl) ?_
  refine lv_aload_n hx hb (dk hX5_passesAll_1 1 rfl) rfl (lv_at hl 0 rfl) ?_
  refine lv_aload_n hx hb (dk hX5_passesAll_1 2 rfl) rfl (lv_at hl 0 rfl) ?_
  refine rg ui5 rfl C hs 0 rfl 9 (by decide) tw_699 rfl rfl (dk hX5_passesAll_1 3 rfl) ?_
  obtain ⟨u_19, e_20, hf⟩ := Option.bind_eq_some_iff.mp hf
  refine Ct.V (As := [.int ships]) (rest := [.ref (ad 0)]) (st1 := [.int u_19.2.2, .ref (ad 0)]) (w1 := (wM G ad refused u_3.1 u_5.1 u_7.1 u_9.1 u_11.1 u_13.1 u_15.1 u_17.1 tape letter letterAt told u_19.1 row costs ships coughs day away taped reading statements hasImage p1 u_19.2.1 backs free goodFor loadedWhen bareGood bareWhen rowMany lots)) C hs (c_X5_passOne e_20) tw_835 tw_837 tw_28 tw_85 tw_838 nq_X5_passOne (by decide) 0 5 rfl rfl rfl rfl hl.1 rfl (Nat.le_of_ble_eq_true rfl) (dk hX5_passesAll_1 4 rfl) ⟨Nat.zero_le _, Nat.zero_le _⟩ rfl (fun H locs hs => ?_)
  refine rp (w1 := (wM G ad refused u_3.1 u_5.1 u_7.1 u_9.1 u_11.1 u_13.1 u_15.1 u_17.1 tape letter letterAt told u_19.1 row costs u_19.2.2 coughs day away taped reading statements hasImage p1 u_19.2.1 backs free goodFor loadedWhen bareGood bareWhen rowMany lots)) tyX5 tyX5_ok nmX5 ui5 rfl C hs 0 rfl 9 (by decide) tw_699 rfl rfl rfl rfl (Nat.le_of_ble_eq_true rfl) rfl (dk hX5_passesAll_1 5 rfl) (fun H locs hs => ?_)
  refine lv_aload_n hx hb (dk hX5_passesAll_1 6 rfl) rfl (lv_at hl 0 rfl) ?_
  refine lv_aload_n hx hb (dk hX5_passesAll_1 7 rfl) rfl (lv_at hl 0 rfl) ?_
  refine lv_aload_n hx hb (dk hX5_passesAll_1 8 rfl) rfl (lv_at hl 0 rfl) ?_
  refine rg ui5 rfl C hs 0 rfl 10 (by decide) tw_700 rfl rfl (dk hX5_passesAll_1 9 rfl) ?_
  obtain ⟨u_21, e_22, hf⟩ := Option.bind_eq_some_iff.mp hf
  refine Ct.V (As := [.int coughs]) (rest := [.ref (ad 0)]) (st1 := [.int u_21.2.2, .ref (ad 0)]) (w1 := (wM G ad refused u_3.1 u_5.1 u_7.1 u_9.1 u_11.1 u_13.1 u_15.1 u_17.1 tape letter letterAt told u_21.1 row costs u_19.2.2 coughs day away taped reading statements hasImage p1 u_21.2.1 backs free goodFor loadedWhen bareGood bareWhen rowMany lots)) C hs (c_X5_passOne e_22) tw_835 tw_837 tw_28 tw_85 tw_838 nq_X5_passOne (by decide) 0 5 rfl rfl rfl rfl hl.1 rfl (Nat.le_of_ble_eq_true rfl) (dk hX5_passesAll_1 10 rfl) ⟨Nat.zero_le _, Nat.zero_le _⟩ rfl (fun H locs hs => ?_)
  refine rp (w1 := (wM G ad refused u_3.1 u_5.1 u_7.1 u_9.1 u_11.1 u_13.1 u_15.1 u_17.1 tape letter letterAt told u_21.1 row costs u_19.2.2 u_21.2.2 day away taped reading statements hasImage p1 u_21.2.1 backs free goodFor loadedWhen bareGood bareWhen rowMany lots)) tyX5 tyX5_ok nmX5 ui5 rfl C hs 0 rfl 10 (by decide) tw_700 rfl rfl rfl rfl (Nat.le_of_ble_eq_true rfl) rfl (dk hX5_passesAll_1 11 rfl) (fun H locs hs => ?_)
  refine lv_aload_n hx hb (dk hX5_passesAll_1 12 rfl) rfl (lv_at hl 0 rfl) ?_
  refine lv_aload_n hx hb (dk hX5_passesAll_1 13 rfl) rfl (lv_at hl 0 rfl) ?_
  refine lv_aload_n hx hb (dk hX5_passesAll_1 14 rfl) rfl (lv_at hl 0 rfl) ?_
  refine rg ui5 rfl C hs 0 rfl 11 (by decide) tw_701 rfl rfl (dk hX5_passesAll_1 15 rfl) ?_
  obtain ⟨u_23, e_24, hf⟩ := Option.bind_eq_some_iff.mp hf
  refine Ct.V (As := [.int day]) (rest := [.ref (ad 0)]) (st1 := [.int u_23.2.2, .ref (ad 0)]) (w1 := (wM G ad refused u_3.1 u_5.1 u_7.1 u_9.1 u_11.1 u_13.1 u_15.1 u_17.1 tape letter letterAt told u_23.1 row costs u_19.2.2 u_21.2.2 day away taped reading statements hasImage p1 u_23.2.1 backs free goodFor loadedWhen bareGood bareWhen rowMany lots)) C hs (c_X5_passOne e_24) tw_835 tw_837 tw_28 tw_85 tw_838 nq_X5_passOne (by decide) 0 5 rfl rfl rfl rfl hl.1 rfl (Nat.le_of_ble_eq_true rfl) (dk hX5_passesAll_1 16 rfl) ⟨Nat.zero_le _, Nat.zero_le _⟩ rfl (fun H locs hs => ?_)
  refine rp (w1 := (wM G ad refused u_3.1 u_5.1 u_7.1 u_9.1 u_11.1 u_13.1 u_15.1 u_17.1 tape letter letterAt told u_23.1 row costs u_19.2.2 u_21.2.2 u_23.2.2 away taped reading statements hasImage p1 u_23.2.1 backs free goodFor loadedWhen bareGood bareWhen rowMany lots)) tyX5 tyX5_ok nmX5 ui5 rfl C hs 0 rfl 11 (by decide) tw_701 rfl rfl rfl rfl (Nat.le_of_ble_eq_true rfl) rfl (dk hX5_passesAll_1 17 rfl) (fun H locs hs => ?_)
  cases hf
  exact rv C hs (dk hX5_passesAll_1 18 rfl)

def X5_harbour_L12 (k : Int32 → List Int32 → List Int32 → List Int32 → Int32 → Int32 → Option (List Int32 × List Int32 × List Int32 × List Int32 × List Int32 × List Int32 × List Int32 × List Int32 × List Int32 × List Int32 × List Int32 × List Int32 × Int32 × Int32 × Int32 × Int32 × Int32 × Int32 × Int32 × Int32 × Int32 × Int32)) (tape : List Int32) (taped : Int32) : Nat → Int32 → List Int32 → List Int32 → List Int32 → Int32 → Int32 → Option (List Int32 × List Int32 × List Int32 × List Int32 × List Int32 × List Int32 × List Int32 × List Int32 × List Int32 × List Int32 × List Int32 × List Int32 × Int32 × Int32 × Int32 × Int32 × Int32 × Int32 × Int32 × Int32 × Int32 × Int32)
  | 0, _, _, _, _, _, _ => none
  | n + 1, x1, letter, letterAt, told, reading, statements =>
  if x1 = (0 : Int32) then
  k x1 letter letterAt told reading statements
  else
  if reading < taped then
  (X5_statement tape letter letterAt told taped reading statements).bind fun u_1 =>
  if u_1.2.2.2.2 = (0 : Int32) then
  X5_harbour_L12 k tape taped n u_1.2.2.2.2 u_1.1 u_1.2.1 u_1.2.2.1 u_1.2.2.2.1 (statements + (0 : Int32))
  else
  X5_harbour_L12 k tape taped n u_1.2.2.2.2 u_1.1 u_1.2.1 u_1.2.2.1 u_1.2.2.2.1 (statements + (1 : Int32))
  else
  if statements = (0 : Int32) then
  (X5_statement tape letter letterAt told taped reading statements).bind fun u_3 =>
  if u_3.2.2.2.2 = (0 : Int32) then
  X5_harbour_L12 k tape taped n u_3.2.2.2.2 u_3.1 u_3.2.1 u_3.2.2.1 u_3.2.2.2.1 (statements + (0 : Int32))
  else
  X5_harbour_L12 k tape taped n u_3.2.2.2.2 u_3.1 u_3.2.1 u_3.2.2.1 u_3.2.2.2.1 (statements + (1 : Int32))
  else
  k x1 letter letterAt told reading statements
def X5_harbour_L86 (k : List Int32 → List Int32 → List Int32 → List Int32 → List Int32 → List Int32 → List Int32 → List Int32 → List Int32 → Int32 → Int32 → Int32 → Int32 → Int32 → Option (List Int32 × List Int32 × List Int32 × List Int32 × List Int32 × List Int32 × List Int32 × List Int32 × List Int32 × List Int32 × List Int32 × List Int32 × Int32 × Int32 × Int32 × Int32 × Int32 × Int32 × Int32 × Int32 × Int32 × Int32)) (letter : List Int32) (letterAt : List Int32) (told : List Int32) (away : Int32) (taped : Int32) (reading : Int32) (statements : Int32) (backs : Int32) (free : Int32) : Nat → Int32 → List Int32 → List Int32 → List Int32 → List Int32 → List Int32 → List Int32 → List Int32 → List Int32 → List Int32 → Int32 → Int32 → Int32 → Int32 → Int32 → Option (List Int32 × List Int32 × List Int32 × List Int32 × List Int32 × List Int32 × List Int32 × List Int32 × List Int32 × List Int32 × List Int32 × List Int32 × Int32 × Int32 × Int32 × Int32 × Int32 × Int32 × Int32 × Int32 × Int32 × Int32)
  | 0, _, _, _, _, _, _, _, _, _, _, _, _, _, _, _ => none
  | n + 1, x2, there, used, hidden, kind, figure, good, load, inn, kept, ships, coughs, day, isKeeping, cursor =>
  if statements ≤ x2 then
  k there used hidden kind figure good load inn kept ships coughs day isKeeping cursor
  else
  (X5_comesTold there used hidden kind figure good load inn letter told ships coughs day away free x2).bind fun u_13 =>
  if u_13.2.2.2.2.2.2.2.2.2.2.2 = (0 : Int32) then
  (X5_passesAll u_13.1 u_13.2.1 u_13.2.2.1 u_13.2.2.2.1 u_13.2.2.2.2.1 u_13.2.2.2.2.2.1 u_13.2.2.2.2.2.2.1 u_13.2.2.2.2.2.2.2.1 kept u_13.2.2.2.2.2.2.2.2.1 u_13.2.2.2.2.2.2.2.2.2.1 u_13.2.2.2.2.2.2.2.2.2.2.1 isKeeping cursor (1 : Int32) (0 : Int32)).bind fun u_15 =>
  (rd letterAt x2).bind fun v_17 =>
  some (u_15.1, u_15.2.1, u_15.2.2.1, u_15.2.2.2.1, u_15.2.2.2.2.1, u_15.2.2.2.2.2.1, u_15.2.2.2.2.2.2.1, u_15.2.2.2.2.2.2.2.1, letter, letterAt, told, u_15.2.2.2.2.2.2.2.2.1, u_15.2.2.2.2.2.2.2.2.2.1, u_15.2.2.2.2.2.2.2.2.2.2.1, u_15.2.2.2.2.2.2.2.2.2.2.2.1, taped, reading, statements, u_15.2.2.2.2.2.2.2.2.2.2.2.2.1, u_15.2.2.2.2.2.2.2.2.2.2.2.2.2, backs, ((-2000 : Int32) - v_17))
  else
  X5_harbour_L86 k letter letterAt told away taped reading statements backs free n (x2 + (1 : Int32)) u_13.1 u_13.2.1 u_13.2.2.1 u_13.2.2.2.1 u_13.2.2.2.2.1 u_13.2.2.2.2.2.1 u_13.2.2.2.2.2.2.1 u_13.2.2.2.2.2.2.2.1 kept u_13.2.2.2.2.2.2.2.2.1 u_13.2.2.2.2.2.2.2.2.2.1 u_13.2.2.2.2.2.2.2.2.2.2.1 isKeeping cursor
def X5_harbour (there : List Int32) (used : List Int32) (hidden : List Int32) (kind : List Int32) (figure : List Int32) (good : List Int32) (load : List Int32) (inn : List Int32) (tape : List Int32) (letter : List Int32) (letterAt : List Int32) (told : List Int32) (kept : List Int32) (ships : Int32) (coughs : Int32) (day : Int32) (away : Int32) (taped : Int32) (reading : Int32) (statements : Int32) (isKeeping : Int32) (cursor : Int32) (backs : Int32) (free : Int32) : Option (List Int32 × List Int32 × List Int32 × List Int32 × List Int32 × List Int32 × List Int32 × List Int32 × List Int32 × List Int32 × List Int32 × List Int32 × Int32 × Int32 × Int32 × Int32 × Int32 × Int32 × Int32 × Int32 × Int32 × Int32) :=
  X5_harbour_L12 (fun y1_5 letter_6 letterAt_7 told_8 reading_9 statements_10 =>
  if y1_5 = (0 : Int32) then
  some (there, used, hidden, kind, figure, good, load, inn, letter_6, letterAt_7, told_8, kept, ships, coughs, day, (0 : Int32), reading_9, statements_10, isKeeping, cursor, backs, ((-1000 : Int32) - reading_9))
  else
  (X5_passesAll there used hidden kind figure good load inn kept ships coughs day isKeeping cursor (1 : Int32) (1 : Int32)).bind fun u_11 =>
  X5_harbour_L86 (fun there_19 used_20 hidden_21 kind_22 figure_23 good_24 load_25 inn_26 kept_27 ships_28 coughs_29 day_30 isKeeping_31 cursor_32 =>
  some (there_19, used_20, hidden_21, kind_22, figure_23, good_24, load_25, inn_26, letter_6, letterAt_7, told_8, kept_27, ships_28, coughs_29, day_30, (0 : Int32), reading_9, statements_10, isKeeping_31, cursor_32, (0 : Int32), statements_10)) letter_6 letterAt_7 told_8 away (0 : Int32) reading_9 statements_10 backs free 1000 (0 : Int32) u_11.1 u_11.2.1 u_11.2.2.1 u_11.2.2.2.1 u_11.2.2.2.2.1 u_11.2.2.2.2.2.1 u_11.2.2.2.2.2.2.1 u_11.2.2.2.2.2.2.2.1 u_11.2.2.2.2.2.2.2.2.1 u_11.2.2.2.2.2.2.2.2.2.1 u_11.2.2.2.2.2.2.2.2.2.2.1 u_11.2.2.2.2.2.2.2.2.2.2.2.1 u_11.2.2.2.2.2.2.2.2.2.2.2.2.1 u_11.2.2.2.2.2.2.2.2.2.2.2.2.2) tape taped 1000 (1 : Int32) letter letterAt told (0 : Int32) (0 : Int32)
set_option maxRecDepth 100000 in
set_option maxHeartbeats 4000000 in
theorem l_X5_harbour_L12 {l : Launch} {p : Program} {e : Env} {s : State} {m : MethodId} {args : Array Value} {below : List Frame} {meth : Method} {c : Code} {A : Nat → Prop} {G : Gx} {ad : Nat → Nat} {refused there used hidden kind figure good load inn tape kept row costs : List Int32} {ships coughs day away taped hasImage isKeeping cursor backs free goodFor loadedWhen bareGood bareWhen rowMany lots : Int32} {k : Int32 → List Int32 → List Int32 → List Int32 → Int32 → Int32 → Option (List Int32 × List Int32 × List Int32 × List Int32 × List Int32 × List Int32 × List Int32 × List Int32 × List Int32 × List Int32 × List Int32 × List Int32 × Int32 × Int32 × Int32 × Int32 × Int32 × Int32 × Int32 × Int32 × Int32 × Int32)} {out : List Int32 × List Int32 × List Int32 × List Int32 × List Int32 × List Int32 × List Int32 × List Int32 × List Int32 × List Int32 × List Int32 × List Int32 × Int32 × Int32 × Int32 × Int32 × Int32 × Int32 × Int32 × Int32 × Int32 × Int32} (C : Cx p s m args meth c cX5_harbour RX5 3 (some .int) G) : ∀ (n : Nat) (x1 : Int32) (letter : List Int32) (letterAt : List Int32) (told : List Int32) (reading : Int32) (statements : Int32), X5_harbour_L12 k tape taped n x1 letter letterAt told reading statements = some out → ∀ (H : Heap) (locs : List Loc), St G A s.heap H locs (wM G ad refused there used hidden kind figure good load inn tape letter letterAt told kept row costs ships coughs day away taped reading statements hasImage isKeeping cursor backs free goodFor loadedWhen bareGood bareWhen rowMany lots) → ∀ ls : Array Slot, lv_has ls 3 [(0, .ref (ad 0)), (1, .int x1)] → (∀ (y1 : Int32) (z_letter : List Int32) (z_letterAt : List Int32) (z_told : List Int32) (z_reading : Int32) (z_statements : Int32), k y1 z_letter z_letterAt z_told z_reading z_statements = some out → ∀ (H : Heap) (locs : List Loc), St G A s.heap H locs (wM G ad refused there used hidden kind figure good load inn tape z_letter z_letterAt z_told kept row costs ships coughs day away taped z_reading z_statements hasImage isKeeping cursor backs free goodFor loadedWhen bareGood bareWhen rowMany lots) → ∀ ls : Array Slot, lv_has ls 3 [(0, .ref (ad 0)), (1, .int y1)] → W p l e (rmOf 9 194) s m args below meth c H locs 0 0 (MQ below (Qof G A (some (.int out.2.2.2.2.2.2.2.2.2.2.2.2.2.2.2.2.2.2.2.2.2)) (wM G ad refused out.1 out.2.1 out.2.2.1 out.2.2.2.1 out.2.2.2.2.1 out.2.2.2.2.2.1 out.2.2.2.2.2.2.1 out.2.2.2.2.2.2.2.1 tape out.2.2.2.2.2.2.2.2.1 out.2.2.2.2.2.2.2.2.2.1 out.2.2.2.2.2.2.2.2.2.2.1 out.2.2.2.2.2.2.2.2.2.2.2.1 row costs out.2.2.2.2.2.2.2.2.2.2.2.2.1 out.2.2.2.2.2.2.2.2.2.2.2.2.2.1 out.2.2.2.2.2.2.2.2.2.2.2.2.2.2.1 away out.2.2.2.2.2.2.2.2.2.2.2.2.2.2.2.1 out.2.2.2.2.2.2.2.2.2.2.2.2.2.2.2.2.1 out.2.2.2.2.2.2.2.2.2.2.2.2.2.2.2.2.2.1 hasImage out.2.2.2.2.2.2.2.2.2.2.2.2.2.2.2.2.2.2.1 out.2.2.2.2.2.2.2.2.2.2.2.2.2.2.2.2.2.2.2.1 out.2.2.2.2.2.2.2.2.2.2.2.2.2.2.2.2.2.2.2.2.1 free goodFor loadedWhen bareGood bareWhen rowMany lots)) args s 0 0 A) (F0 m 60 ls [])) → W p l e (rmOf 9 194) s m args below meth c H locs 0 0 (MQ below (Qof G A (some (.int out.2.2.2.2.2.2.2.2.2.2.2.2.2.2.2.2.2.2.2.2.2)) (wM G ad refused out.1 out.2.1 out.2.2.1 out.2.2.2.1 out.2.2.2.2.1 out.2.2.2.2.2.1 out.2.2.2.2.2.2.1 out.2.2.2.2.2.2.2.1 tape out.2.2.2.2.2.2.2.2.1 out.2.2.2.2.2.2.2.2.2.1 out.2.2.2.2.2.2.2.2.2.2.1 out.2.2.2.2.2.2.2.2.2.2.2.1 row costs out.2.2.2.2.2.2.2.2.2.2.2.2.1 out.2.2.2.2.2.2.2.2.2.2.2.2.2.1 out.2.2.2.2.2.2.2.2.2.2.2.2.2.2.1 away out.2.2.2.2.2.2.2.2.2.2.2.2.2.2.2.1 out.2.2.2.2.2.2.2.2.2.2.2.2.2.2.2.2.1 out.2.2.2.2.2.2.2.2.2.2.2.2.2.2.2.2.2.1 hasImage out.2.2.2.2.2.2.2.2.2.2.2.2.2.2.2.2.2.2.1 out.2.2.2.2.2.2.2.2.2.2.2.2.2.2.2.2.2.2.2.1 out.2.2.2.2.2.2.2.2.2.2.2.2.2.2.2.2.2.2.2.2.1 free goodFor loadedWhen bareGood bareWhen rowMany lots)) args s 0 0 A) (F0 m 12 ls []) := by
  obtain ⟨hx, hb, hml, hown, hts, hK, hret, hlk⟩ := id C
  intro n
  induction n with
  | zero => intro x1 letter letterAt told reading statements hf; cases hf
  | succ n ih =>
    intro x1 letter letterAt told reading statements hf H locs hs ls hl hk
    rw [X5_harbour_L12] at hf
    refine lv_iload_n hx hb (dk hX5_harbour_0 8 rfl) rfl (lv_at hl 1 rfl) ?_
    refine lv_if_eq (tgt := 60) hx hb (dk hX5_harbour_0 9 rfl) (by decide) (fun hc => ?_) (fun hc => ?_)
    · replace hf := ip hf hc
      exact hk _ _ _ _ _ _ hf _ _ hs _ (lv_sub hl [0, 1] rfl)
    · replace hf := in_ hf hc
      refine lv_aload_n hx hb (dk hX5_harbour_0 10 rfl) rfl (lv_at hl 0 rfl) ?_
      refine rg ui5 rfl C hs 0 rfl 18 (by decide) tw_708 rfl rfl (dk hX5_harbour_0 11 rfl) ?_
      refine lv_aload_n hx hb (dk hX5_harbour_0 12 rfl) rfl (lv_at hl 0 rfl) ?_
      refine rg ui5 rfl C hs 0 rfl 17 (by decide) tw_707 rfl rfl (dk hX5_harbour_0 13 rfl) ?_
      refine lv_icmp_lt (tgt := 34) hx hb (dk hX5_harbour_0 14 rfl) (by decide) (fun hc => ?_) (fun hc => ?_)
      · replace hf := ip hf hc
        refine lv_aload_n hx hb (dk hX5_harbour_0 18 rfl) rfl (lv_at hl 0 rfl) ?_
        obtain ⟨u_1, e_2, hf⟩ := Option.bind_eq_some_iff.mp hf
        refine Ct.V (As := []) (rest := []) (st1 := [.int u_1.2.2.2.2]) (w1 := (wM G ad refused there used hidden kind figure good load inn tape u_1.1 u_1.2.1 u_1.2.2.1 kept row costs ships coughs day away taped u_1.2.2.2.1 statements hasImage isKeeping cursor backs free goodFor loadedWhen bareGood bareWhen rowMany lots)) C hs (c_X5_statement e_2) tw_808 tw_810 tw_22 tw_85 tw_811 nq_X5_statement (by decide) 0 5 rfl rfl rfl rfl hl.1 rfl (Nat.le_of_ble_eq_true rfl) (dk hX5_harbour_0 19 rfl) ⟨Nat.zero_le _, Nat.zero_le _⟩ rfl (fun H locs hs => ?_)
        refine lv_istore_n (lv' := [(1, .int u_1.2.2.2.2), (0, .ref (ad 0))]) hx hb (dk hX5_harbour_0 20 rfl) rfl hl (by decide) rfl (fun ls hl => ?_)
        refine lv_aload_n hx hb (dk hX5_harbour_0 21 rfl) rfl (lv_at hl 1 rfl) ?_
        refine lv_dup hx hb (dk hX5_harbour_0 22 rfl) rfl ?_
        refine rg ui5 rfl C hs 0 rfl 19 (by decide) tw_709 rfl rfl (dk hX5_harbour_0 23 rfl) ?_
        refine lv_iload_n hx hb (dk hX5_harbour_0 24 rfl) rfl (lv_at hl 0 rfl) ?_
        refine lv_if_eq (tgt := 52) hx hb (dk hX5_harbour_0 25 rfl) (by decide) (fun hc => ?_) (fun hc => ?_)
        · replace hf := ip hf hc
          refine lv_iconst (v := (0 : Int32)) hx hb (dk hX5_harbour_0 28 rfl) (by decide) ?_
          refine lv_iadd hx hb (dk hX5_harbour_0 29 rfl) ?_
          refine rp (w1 := (wM G ad refused there used hidden kind figure good load inn tape u_1.1 u_1.2.1 u_1.2.2.1 kept row costs ships coughs day away taped u_1.2.2.2.1 (statements + (0 : Int32)) hasImage isKeeping cursor backs free goodFor loadedWhen bareGood bareWhen rowMany lots)) tyX5 tyX5_ok nmX5 ui5 rfl C hs 0 rfl 19 (by decide) tw_709 rfl rfl rfl rfl (Nat.le_of_ble_eq_true rfl) rfl (dk hX5_harbour_0 30 rfl) (fun H locs hs => ?_)
          refine lv_goto (tgt := 12) hx hb (dk hX5_harbour_0 31 rfl) (by decide) ?_
          exact ih _ _ _ _ _ _ hf _ _ hs _ (lv_sub hl [1, 0] rfl) hk
        · replace hf := in_ hf hc
          refine lv_iconst (v := (1 : Int32)) hx hb (dk hX5_harbour_0 26 rfl) (by decide) ?_
          refine lv_goto (tgt := 53) hx hb (dk hX5_harbour_0 27 rfl) (by decide) ?_
          refine lv_iadd hx hb (dk hX5_harbour_0 29 rfl) ?_
          refine rp (w1 := (wM G ad refused there used hidden kind figure good load inn tape u_1.1 u_1.2.1 u_1.2.2.1 kept row costs ships coughs day away taped u_1.2.2.2.1 (statements + (1 : Int32)) hasImage isKeeping cursor backs free goodFor loadedWhen bareGood bareWhen rowMany lots)) tyX5 tyX5_ok nmX5 ui5 rfl C hs 0 rfl 19 (by decide) tw_709 rfl rfl rfl rfl (Nat.le_of_ble_eq_true rfl) rfl (dk hX5_harbour_0 30 rfl) (fun H locs hs => ?_)
          refine lv_goto (tgt := 12) hx hb (dk hX5_harbour_0 31 rfl) (by decide) ?_
          exact ih _ _ _ _ _ _ hf _ _ hs _ (lv_sub hl [1, 0] rfl) hk
      · replace hf := in_ hf hc
        refine lv_aload_n hx hb (dk hX5_harbour_0 15 rfl) rfl (lv_at hl 0 rfl) ?_
        refine rg ui5 rfl C hs 0 rfl 19 (by decide) tw_709 rfl rfl (dk hX5_harbour_0 16 rfl) ?_
        refine lv_if_ne (tgt := 60) hx hb (dk hX5_harbour_0 17 rfl) (by decide) (fun hc => ?_) (fun hc => ?_)
        · replace hf := in_ hf hc
          exact hk _ _ _ _ _ _ hf _ _ hs _ (lv_sub hl [0, 1] rfl)
        · replace hf := ip hf hc
          refine lv_aload_n hx hb (dk hX5_harbour_0 18 rfl) rfl (lv_at hl 0 rfl) ?_
          obtain ⟨u_3, e_4, hf⟩ := Option.bind_eq_some_iff.mp hf
          refine Ct.V (As := []) (rest := []) (st1 := [.int u_3.2.2.2.2]) (w1 := (wM G ad refused there used hidden kind figure good load inn tape u_3.1 u_3.2.1 u_3.2.2.1 kept row costs ships coughs day away taped u_3.2.2.2.1 statements hasImage isKeeping cursor backs free goodFor loadedWhen bareGood bareWhen rowMany lots)) C hs (c_X5_statement e_4) tw_808 tw_810 tw_22 tw_85 tw_811 nq_X5_statement (by decide) 0 5 rfl rfl rfl rfl hl.1 rfl (Nat.le_of_ble_eq_true rfl) (dk hX5_harbour_0 19 rfl) ⟨Nat.zero_le _, Nat.zero_le _⟩ rfl (fun H locs hs => ?_)
          refine lv_istore_n (lv' := [(1, .int u_3.2.2.2.2), (0, .ref (ad 0))]) hx hb (dk hX5_harbour_0 20 rfl) rfl hl (by decide) rfl (fun ls hl => ?_)
          refine lv_aload_n hx hb (dk hX5_harbour_0 21 rfl) rfl (lv_at hl 1 rfl) ?_
          refine lv_dup hx hb (dk hX5_harbour_0 22 rfl) rfl ?_
          refine rg ui5 rfl C hs 0 rfl 19 (by decide) tw_709 rfl rfl (dk hX5_harbour_0 23 rfl) ?_
          refine lv_iload_n hx hb (dk hX5_harbour_0 24 rfl) rfl (lv_at hl 0 rfl) ?_
          refine lv_if_eq (tgt := 52) hx hb (dk hX5_harbour_0 25 rfl) (by decide) (fun hc => ?_) (fun hc => ?_)
          · replace hf := ip hf hc
            refine lv_iconst (v := (0 : Int32)) hx hb (dk hX5_harbour_0 28 rfl) (by decide) ?_
            refine lv_iadd hx hb (dk hX5_harbour_0 29 rfl) ?_
            refine rp (w1 := (wM G ad refused there used hidden kind figure good load inn tape u_3.1 u_3.2.1 u_3.2.2.1 kept row costs ships coughs day away taped u_3.2.2.2.1 (statements + (0 : Int32)) hasImage isKeeping cursor backs free goodFor loadedWhen bareGood bareWhen rowMany lots)) tyX5 tyX5_ok nmX5 ui5 rfl C hs 0 rfl 19 (by decide) tw_709 rfl rfl rfl rfl (Nat.le_of_ble_eq_true rfl) rfl (dk hX5_harbour_0 30 rfl) (fun H locs hs => ?_)
            refine lv_goto (tgt := 12) hx hb (dk hX5_harbour_0 31 rfl) (by decide) ?_
            exact ih _ _ _ _ _ _ hf _ _ hs _ (lv_sub hl [1, 0] rfl) hk
          · replace hf := in_ hf hc
            refine lv_iconst (v := (1 : Int32)) hx hb (dk hX5_harbour_0 26 rfl) (by decide) ?_
            refine lv_goto (tgt := 53) hx hb (dk hX5_harbour_0 27 rfl) (by decide) ?_
            refine lv_iadd hx hb (dk hX5_harbour_0 29 rfl) ?_
            refine rp (w1 := (wM G ad refused there used hidden kind figure good load inn tape u_3.1 u_3.2.1 u_3.2.2.1 kept row costs ships coughs day away taped u_3.2.2.2.1 (statements + (1 : Int32)) hasImage isKeeping cursor backs free goodFor loadedWhen bareGood bareWhen rowMany lots)) tyX5 tyX5_ok nmX5 ui5 rfl C hs 0 rfl 19 (by decide) tw_709 rfl rfl rfl rfl (Nat.le_of_ble_eq_true rfl) rfl (dk hX5_harbour_0 30 rfl) (fun H locs hs => ?_)
            refine lv_goto (tgt := 12) hx hb (dk hX5_harbour_0 31 rfl) (by decide) ?_
            exact ih _ _ _ _ _ _ hf _ _ hs _ (lv_sub hl [1, 0] rfl) hk
set_option maxRecDepth 100000 in
set_option maxHeartbeats 4000000 in
theorem l_X5_harbour_L86 {l : Launch} {p : Program} {e : Env} {s : State} {m : MethodId} {args : Array Value} {below : List Frame} {meth : Method} {c : Code} {A : Nat → Prop} {G : Gx} {ad : Nat → Nat} {refused tape letter letterAt told row costs : List Int32} {away taped reading statements hasImage backs free goodFor loadedWhen bareGood bareWhen rowMany lots : Int32} {k : List Int32 → List Int32 → List Int32 → List Int32 → List Int32 → List Int32 → List Int32 → List Int32 → List Int32 → Int32 → Int32 → Int32 → Int32 → Int32 → Option (List Int32 × List Int32 × List Int32 × List Int32 × List Int32 × List Int32 × List Int32 × List Int32 × List Int32 × List Int32 × List Int32 × List Int32 × Int32 × Int32 × Int32 × Int32 × Int32 × Int32 × Int32 × Int32 × Int32 × Int32)} {out : List Int32 × List Int32 × List Int32 × List Int32 × List Int32 × List Int32 × List Int32 × List Int32 × List Int32 × List Int32 × List Int32 × List Int32 × Int32 × Int32 × Int32 × Int32 × Int32 × Int32 × Int32 × Int32 × Int32 × Int32} (C : Cx p s m args meth c cX5_harbour RX5 3 (some .int) G) : ∀ (n : Nat) (x2 : Int32) (there : List Int32) (used : List Int32) (hidden : List Int32) (kind : List Int32) (figure : List Int32) (good : List Int32) (load : List Int32) (inn : List Int32) (kept : List Int32) (ships : Int32) (coughs : Int32) (day : Int32) (isKeeping : Int32) (cursor : Int32), X5_harbour_L86 k letter letterAt told away taped reading statements backs free n x2 there used hidden kind figure good load inn kept ships coughs day isKeeping cursor = some out → ∀ (H : Heap) (locs : List Loc), St G A s.heap H locs (wM G ad refused there used hidden kind figure good load inn tape letter letterAt told kept row costs ships coughs day away taped reading statements hasImage isKeeping cursor backs free goodFor loadedWhen bareGood bareWhen rowMany lots) → ∀ ls : Array Slot, lv_has ls 3 [(0, .ref (ad 0)), (2, .int x2)] → (∀ (z_there : List Int32) (z_used : List Int32) (z_hidden : List Int32) (z_kind : List Int32) (z_figure : List Int32) (z_good : List Int32) (z_load : List Int32) (z_inn : List Int32) (z_kept : List Int32) (z_ships : Int32) (z_coughs : Int32) (z_day : Int32) (z_isKeeping : Int32) (z_cursor : Int32), k z_there z_used z_hidden z_kind z_figure z_good z_load z_inn z_kept z_ships z_coughs z_day z_isKeeping z_cursor = some out → ∀ (H : Heap) (locs : List Loc), St G A s.heap H locs (wM G ad refused z_there z_used z_hidden z_kind z_figure z_good z_load z_inn tape letter letterAt told z_kept row costs z_ships z_coughs z_day away taped reading statements hasImage z_isKeeping z_cursor backs free goodFor loadedWhen bareGood bareWhen rowMany lots) → ∀ ls : Array Slot, lv_has ls 3 [(0, .ref (ad 0))] → W p l e (rmOf 9 194) s m args below meth c H locs 0 0 (MQ below (Qof G A (some (.int out.2.2.2.2.2.2.2.2.2.2.2.2.2.2.2.2.2.2.2.2.2)) (wM G ad refused out.1 out.2.1 out.2.2.1 out.2.2.2.1 out.2.2.2.2.1 out.2.2.2.2.2.1 out.2.2.2.2.2.2.1 out.2.2.2.2.2.2.2.1 tape out.2.2.2.2.2.2.2.2.1 out.2.2.2.2.2.2.2.2.2.1 out.2.2.2.2.2.2.2.2.2.2.1 out.2.2.2.2.2.2.2.2.2.2.2.1 row costs out.2.2.2.2.2.2.2.2.2.2.2.2.1 out.2.2.2.2.2.2.2.2.2.2.2.2.2.1 out.2.2.2.2.2.2.2.2.2.2.2.2.2.2.1 away out.2.2.2.2.2.2.2.2.2.2.2.2.2.2.2.1 out.2.2.2.2.2.2.2.2.2.2.2.2.2.2.2.2.1 out.2.2.2.2.2.2.2.2.2.2.2.2.2.2.2.2.2.1 hasImage out.2.2.2.2.2.2.2.2.2.2.2.2.2.2.2.2.2.2.1 out.2.2.2.2.2.2.2.2.2.2.2.2.2.2.2.2.2.2.2.1 out.2.2.2.2.2.2.2.2.2.2.2.2.2.2.2.2.2.2.2.2.1 free goodFor loadedWhen bareGood bareWhen rowMany lots)) args s 0 0 A) (F0 m 128 ls [])) → W p l e (rmOf 9 194) s m args below meth c H locs 0 0 (MQ below (Qof G A (some (.int out.2.2.2.2.2.2.2.2.2.2.2.2.2.2.2.2.2.2.2.2.2)) (wM G ad refused out.1 out.2.1 out.2.2.1 out.2.2.2.1 out.2.2.2.2.1 out.2.2.2.2.2.1 out.2.2.2.2.2.2.1 out.2.2.2.2.2.2.2.1 tape out.2.2.2.2.2.2.2.2.1 out.2.2.2.2.2.2.2.2.2.1 out.2.2.2.2.2.2.2.2.2.2.1 out.2.2.2.2.2.2.2.2.2.2.2.1 row costs out.2.2.2.2.2.2.2.2.2.2.2.2.1 out.2.2.2.2.2.2.2.2.2.2.2.2.2.1 out.2.2.2.2.2.2.2.2.2.2.2.2.2.2.1 away out.2.2.2.2.2.2.2.2.2.2.2.2.2.2.2.1 out.2.2.2.2.2.2.2.2.2.2.2.2.2.2.2.2.1 out.2.2.2.2.2.2.2.2.2.2.2.2.2.2.2.2.2.1 hasImage out.2.2.2.2.2.2.2.2.2.2.2.2.2.2.2.2.2.2.1 out.2.2.2.2.2.2.2.2.2.2.2.2.2.2.2.2.2.2.2.1 out.2.2.2.2.2.2.2.2.2.2.2.2.2.2.2.2.2.2.2.2.1 free goodFor loadedWhen bareGood bareWhen rowMany lots)) args s 0 0 A) (F0 m 86 ls []) := by
  obtain ⟨hx, hb, hml, hown, hts, hK, hret, hlk⟩ := id C
  intro n
  induction n with
  | zero => intro x2 there used hidden kind figure good load inn kept ships coughs day isKeeping cursor hf; cases hf
  | succ n ih =>
    intro x2 there used hidden kind figure good load inn kept ships coughs day isKeeping cursor hf H locs hs ls hl hk
    rw [X5_harbour_L86] at hf
    refine lv_iload_n hx hb (dk hX5_harbour_1 8 rfl) rfl (lv_at hl 1 rfl) ?_
    refine lv_aload_n hx hb (dk hX5_harbour_1 9 rfl) rfl (lv_at hl 0 rfl) ?_
    refine rg ui5 rfl C hs 0 rfl 19 (by decide) tw_709 rfl rfl (dk hX5_harbour_1 10 rfl) ?_
    refine lv_icmp_ge (tgt := 128) hx hb (dk hX5_harbour_1 11 rfl) (by decide) (fun hc => ?_) (fun hc => ?_)
    · replace hf := ip hf hc
      exact hk _ _ _ _ _ _ _ _ _ _ _ _ _ _ hf _ _ hs _ (lv_sub hl [0] rfl)
    · replace hf := in_ hf hc
      refine lv_aload_n hx hb (dk hX5_harbour_1 12 rfl) rfl (lv_at hl 0 rfl) ?_
      refine lv_iload_n hx hb (dk hX5_harbour_1 13 rfl) rfl (lv_at hl 1 rfl) ?_
      obtain ⟨u_13, e_14, hf⟩ := Option.bind_eq_some_iff.mp hf
      refine Ct.V (As := [.int x2]) (rest := []) (st1 := [.int u_13.2.2.2.2.2.2.2.2.2.2.2]) (w1 := (wM G ad refused u_13.1 u_13.2.1 u_13.2.2.1 u_13.2.2.2.1 u_13.2.2.2.2.1 u_13.2.2.2.2.2.1 u_13.2.2.2.2.2.2.1 u_13.2.2.2.2.2.2.2.1 tape letter letterAt told kept row costs u_13.2.2.2.2.2.2.2.2.1 u_13.2.2.2.2.2.2.2.2.2.1 u_13.2.2.2.2.2.2.2.2.2.2.1 away taped reading statements hasImage isKeeping cursor backs free goodFor loadedWhen bareGood bareWhen rowMany lots)) C hs (c_X5_comesTold e_14) tw_839 tw_841 tw_29 tw_85 tw_842 nq_X5_comesTold (by decide) 0 5 rfl rfl rfl rfl hl.1 rfl (Nat.le_of_ble_eq_true rfl) (dk hX5_harbour_1 14 rfl) ⟨Nat.zero_le _, Nat.zero_le _⟩ rfl (fun H locs hs => ?_)
      refine lv_if_eq (tgt := 105) hx hb (dk hX5_harbour_1 15 rfl) (by decide) (fun hc => ?_) (fun hc => ?_)
      · replace hf := ip hf hc
        refine lv_aload_n hx hb (dk hX5_harbour_1 17 rfl) rfl (lv_at hl 0 rfl) ?_
        refine lv_iconst (v := (1 : Int32)) hx hb (dk hX5_harbour_1 18 rfl) (by decide) ?_
        refine lv_iconst (v := (0 : Int32)) hx hb (dk hX5_harbour_1 19 rfl) (by decide) ?_
        obtain ⟨u_15, e_16, hf⟩ := Option.bind_eq_some_iff.mp hf
        refine Ct.V (As := [.int (1 : Int32), .int (0 : Int32)]) (rest := []) (st1 := []) (w1 := (wM G ad refused u_15.1 u_15.2.1 u_15.2.2.1 u_15.2.2.2.1 u_15.2.2.2.2.1 u_15.2.2.2.2.2.1 u_15.2.2.2.2.2.2.1 u_15.2.2.2.2.2.2.2.1 tape letter letterAt told u_15.2.2.2.2.2.2.2.2.1 row costs u_15.2.2.2.2.2.2.2.2.2.1 u_15.2.2.2.2.2.2.2.2.2.2.1 u_15.2.2.2.2.2.2.2.2.2.2.2.1 away taped reading statements hasImage u_15.2.2.2.2.2.2.2.2.2.2.2.2.1 u_15.2.2.2.2.2.2.2.2.2.2.2.2.2 backs free goodFor loadedWhen bareGood bareWhen rowMany lots)) C hs (c_X5_passesAll e_16) tw_827 tw_829 tw_26 tw_85 tw_830 nq_X5_passesAll (by decide) 0 5 rfl rfl rfl rfl hl.1 rfl (Nat.le_of_ble_eq_true rfl) (dk hX5_harbour_1 20 rfl) ⟨Nat.zero_le _, Nat.zero_le _⟩ rfl (fun H locs hs => ?_)
        refine lv_sipush (v := (-2000 : Int32)) hx hb (dk hX5_harbour_1 21 rfl) (by decide) ?_
        refine lv_aload_n hx hb (dk hX5_harbour_1 22 rfl) rfl (lv_at hl 0 rfl) ?_
        refine rg ui5 rfl C hs 0 rfl 15 (by decide) tw_705 rfl rfl (dk hX5_harbour_1 23 rfl) ?_
        refine lv_iload_n hx hb (dk hX5_harbour_1 24 rfl) rfl (lv_at hl 1 rfl) ?_
        obtain ⟨v_17, e_18, hf⟩ := Option.bind_eq_some_iff.mp hf
        refine rild C hs 12 rfl e_18 (dk hX5_harbour_1 25 rfl) ?_
        refine lv_isub hx hb (dk hX5_harbour_1 26 rfl) ?_
        cases hf
        exact ri C hs (dk hX5_harbour_1 27 rfl)
      · replace hf := in_ hf hc
        refine lv_goto (tgt := 122) hx hb (dk hX5_harbour_1 16 rfl) (by decide) ?_
        refine lv_iinc (v := (x2 + (1 : Int32))) (lv' := [(2, .int (x2 + (1 : Int32))), (0, .ref (ad 0))]) hx hb (dk hX5_harbour_1 28 rfl) hl (k := 1) rfl (by first | rfl | decide) (by decide) rfl (fun ls hl => ?_)
        refine lv_goto (tgt := 86) hx hb (dk hX5_harbour_1 29 rfl) (by decide) ?_
        exact ih _ _ _ _ _ _ _ _ _ _ _ _ _ _ _ hf _ _ hs _ (lv_sub hl [1, 0] rfl) hk
set_option maxRecDepth 100000 in
set_option maxHeartbeats 4000000 in
theorem c_X5_harbour {l : Launch} {G : Gx} {ad : Nat → Nat} {refused there used hidden kind figure good load inn tape letter letterAt told kept row costs : List Int32} {ships coughs day away taped reading statements hasImage isKeeping cursor backs free goodFor loadedWhen bareGood bareWhen rowMany lots : Int32}  {out : List Int32 × List Int32 × List Int32 × List Int32 × List Int32 × List Int32 × List Int32 × List Int32 × List Int32 × List Int32 × List Int32 × List Int32 × Int32 × Int32 × Int32 × Int32 × Int32 × Int32 × Int32 × Int32 × Int32 × Int32} (hf : X5_harbour there used hidden kind figure good load inn tape letter letterAt told kept ships coughs day away taped reading statements isKeeping cursor backs free = some out) : Ct l G yX5_harbour cX5_harbour 3 (some .int) 9 194 [.ref (ad 0)] (wM G ad refused there used hidden kind figure good load inn tape letter letterAt told kept row costs ships coughs day away taped reading statements hasImage isKeeping cursor backs free goodFor loadedWhen bareGood bareWhen rowMany lots) (some (.int out.2.2.2.2.2.2.2.2.2.2.2.2.2.2.2.2.2.2.2.2.2)) (wM G ad refused out.1 out.2.1 out.2.2.1 out.2.2.2.1 out.2.2.2.2.1 out.2.2.2.2.2.1 out.2.2.2.2.2.2.1 out.2.2.2.2.2.2.2.1 tape out.2.2.2.2.2.2.2.2.1 out.2.2.2.2.2.2.2.2.2.1 out.2.2.2.2.2.2.2.2.2.2.1 out.2.2.2.2.2.2.2.2.2.2.2.1 row costs out.2.2.2.2.2.2.2.2.2.2.2.2.1 out.2.2.2.2.2.2.2.2.2.2.2.2.2.1 out.2.2.2.2.2.2.2.2.2.2.2.2.2.2.1 away out.2.2.2.2.2.2.2.2.2.2.2.2.2.2.2.1 out.2.2.2.2.2.2.2.2.2.2.2.2.2.2.2.2.1 out.2.2.2.2.2.2.2.2.2.2.2.2.2.2.2.2.2.1 hasImage out.2.2.2.2.2.2.2.2.2.2.2.2.2.2.2.2.2.2.1 out.2.2.2.2.2.2.2.2.2.2.2.2.2.2.2.2.2.2.2.1 out.2.2.2.2.2.2.2.2.2.2.2.2.2.2.2.2.2.2.2.2.1 free goodFor loadedWhen bareGood bareWhen rowMany lots) := by
  refine Ct.intro RX5 rfl (plainFor_of_name (by decide)) (Nat.le_of_ble_eq_true rfl) rfl ?_
  intro p e s m args below meth c A C H locs hs ls hl
  obtain ⟨hx, hb, hml, hown, hts, hK, hret, hlk⟩ := id C
  have hl : lv_has ls 3 [(0, .ref (ad 0))] := hl
  unfold X5_harbour at hf
  refine lv_aload_n hx hb (dk hX5_harbour_0 0 rfl) rfl (lv_at hl 0 rfl) ?_
  refine lv_iconst (v := (0 : Int32)) hx hb (dk hX5_harbour_0 1 rfl) (by decide) ?_
  refine rp (w1 := (wM G ad refused there used hidden kind figure good load inn tape letter letterAt told kept row costs ships coughs day away taped (0 : Int32) statements hasImage isKeeping cursor backs free goodFor loadedWhen bareGood bareWhen rowMany lots)) tyX5 tyX5_ok nmX5 ui5 rfl C hs 0 rfl 18 (by decide) tw_708 rfl rfl rfl rfl (Nat.le_of_ble_eq_true rfl) rfl (dk hX5_harbour_0 2 rfl) (fun H locs hs => ?_)
  refine lv_aload_n hx hb (dk hX5_harbour_0 3 rfl) rfl (lv_at hl 0 rfl) ?_
  refine lv_iconst (v := (0 : Int32)) hx hb (dk hX5_harbour_0 4 rfl) (by decide) ?_
  refine rp (w1 := (wM G ad refused there used hidden kind figure good load inn tape letter letterAt told kept row costs ships coughs day away taped (0 : Int32) (0 : Int32) hasImage isKeeping cursor backs free goodFor loadedWhen bareGood bareWhen rowMany lots)) tyX5 tyX5_ok nmX5 ui5 rfl C hs 0 rfl 19 (by decide) tw_709 rfl rfl rfl rfl (Nat.le_of_ble_eq_true rfl) rfl (dk hX5_harbour_0 5 rfl) (fun H locs hs => ?_)
  refine lv_iconst (v := (1 : Int32)) hx hb (dk hX5_harbour_0 6 rfl) (by decide) ?_
  refine lv_istore_n (lv' := [(1, .int (1 : Int32)), (0, .ref (ad 0))]) hx hb (dk hX5_harbour_0 7 rfl) rfl hl (by decide) rfl (fun ls hl => ?_)
  refine l_X5_harbour_L12 C 1000 _ _ _ _ _ _ hf _ _ hs _ (lv_sub hl [1, 0] rfl) (fun y1_5 letter_6 letterAt_7 told_8 reading_9 statements_10 hf H locs hs ls hl => ?_)
  refine lv_aload_n hx hb (dk hX5_harbour_0 32 rfl) rfl (lv_at hl 0 rfl) ?_
  refine lv_iconst (v := (0 : Int32)) hx hb (dk hX5_harbour_0 33 rfl) (by decide) ?_
  refine rp (w1 := (wM G ad refused there used hidden kind figure good load inn tape letter_6 letterAt_7 told_8 kept row costs ships coughs day away (0 : Int32) reading_9 statements_10 hasImage isKeeping cursor backs free goodFor loadedWhen bareGood bareWhen rowMany lots)) tyX5 tyX5_ok nmX5 ui5 rfl C hs 0 rfl 17 (by decide) tw_707 rfl rfl rfl rfl (Nat.le_of_ble_eq_true rfl) rfl (dk hX5_harbour_0 34 rfl) (fun H locs hs => ?_)
  refine lv_iload_n hx hb (dk hX5_harbour_0 35 rfl) rfl (lv_at hl 1 rfl) ?_
  refine lv_if_ne (tgt := 78) hx hb (dk hX5_harbour_0 36 rfl) (by decide) (fun hc => ?_) (fun hc => ?_)
  · replace hf := in_ hf hc
    refine lv_aload_n hx hb (dk hX5_harbour_1 2 rfl) rfl (lv_at hl 0 rfl) ?_
    refine lv_iconst (v := (1 : Int32)) hx hb (dk hX5_harbour_1 3 rfl) (by decide) ?_
    refine lv_iconst (v := (1 : Int32)) hx hb (dk hX5_harbour_1 4 rfl) (by decide) ?_
    obtain ⟨u_11, e_12, hf⟩ := Option.bind_eq_some_iff.mp hf
    refine Ct.V (As := [.int (1 : Int32), .int (1 : Int32)]) (rest := []) (st1 := []) (w1 := (wM G ad refused u_11.1 u_11.2.1 u_11.2.2.1 u_11.2.2.2.1 u_11.2.2.2.2.1 u_11.2.2.2.2.2.1 u_11.2.2.2.2.2.2.1 u_11.2.2.2.2.2.2.2.1 tape letter_6 letterAt_7 told_8 u_11.2.2.2.2.2.2.2.2.1 row costs u_11.2.2.2.2.2.2.2.2.2.1 u_11.2.2.2.2.2.2.2.2.2.2.1 u_11.2.2.2.2.2.2.2.2.2.2.2.1 away (0 : Int32) reading_9 statements_10 hasImage u_11.2.2.2.2.2.2.2.2.2.2.2.2.1 u_11.2.2.2.2.2.2.2.2.2.2.2.2.2 backs free goodFor loadedWhen bareGood bareWhen rowMany lots)) C hs (c_X5_passesAll e_12) tw_827 tw_829 tw_26 tw_85 tw_830 nq_X5_passesAll (by decide) 0 5 rfl rfl rfl rfl hl.1 rfl (Nat.le_of_ble_eq_true rfl) (dk hX5_harbour_1 5 rfl) ⟨Nat.zero_le _, Nat.zero_le _⟩ rfl (fun H locs hs => ?_)
    refine lv_iconst (v := (0 : Int32)) hx hb (dk hX5_harbour_1 6 rfl) (by decide) ?_
    refine lv_istore_n (lv' := [(2, .int (0 : Int32)), (0, .ref (ad 0)), (1, .int y1_5)]) hx hb (dk hX5_harbour_1 7 rfl) rfl hl (by decide) rfl (fun ls hl => ?_)
    refine l_X5_harbour_L86 C 1000 _ _ _ _ _ _ _ _ _ _ _ _ _ _ _ hf _ _ hs _ (lv_sub hl [1, 0] rfl) (fun there_19 used_20 hidden_21 kind_22 figure_23 good_24 load_25 inn_26 kept_27 ships_28 coughs_29 day_30 isKeeping_31 cursor_32 hf H locs hs ls hl => ?_)
    refine lv_aload_n hx hb (dk hX5_harbour_1 30 rfl) rfl (lv_at hl 0 rfl) ?_
    refine lv_iconst (v := (0 : Int32)) hx hb (dk hX5_harbour_1 31 rfl) (by decide) ?_
    refine rp (w1 := (wM G ad refused there_19 used_20 hidden_21 kind_22 figure_23 good_24 load_25 inn_26 tape letter_6 letterAt_7 told_8 kept_27 row costs ships_28 coughs_29 day_30 away (0 : Int32) reading_9 statements_10 hasImage isKeeping_31 cursor_32 (0 : Int32) free goodFor loadedWhen bareGood bareWhen rowMany lots)) tyX5 tyX5_ok nmX5 ui5 rfl C hs 0 rfl 24 (by decide) tw_714 rfl rfl rfl rfl (Nat.le_of_ble_eq_true rfl) rfl (dk hX5_harbour_1 32 rfl) (fun H locs hs => ?_)
    refine lv_aload_n hx hb (dk hX5_harbour_1 33 rfl) rfl (lv_at hl 0 rfl) ?_
    refine rg ui5 rfl C hs 0 rfl 19 (by decide) tw_709 rfl rfl (dk hX5_harbour_1 34 rfl) ?_
    cases hf
    exact ri C hs (dk hX5_harbour_1 35 rfl)
  · replace hf := ip hf hc
    refine lv_sipush (v := (-1000 : Int32)) hx hb (dk hX5_harbour_0 37 rfl) (by decide) ?_
    refine lv_aload_n hx hb (dk hX5_harbour_0 38 rfl) rfl (lv_at hl 0 rfl) ?_
    refine rg ui5 rfl C hs 0 rfl 18 (by decide) tw_708 rfl rfl (dk hX5_harbour_0 39 rfl) ?_
    refine lv_isub hx hb (dk hX5_harbour_1 0 rfl) ?_
    cases hf
    exact ri C hs (dk hX5_harbour_1 1 rfl)

def X5_thinks (there : List Int32) (used : List Int32) (hidden : List Int32) (kind : List Int32) (figure : List Int32) (good : List Int32) (load : List Int32) (inn : List Int32) (kept : List Int32) (ships : Int32) (coughs : Int32) (day : Int32) (isKeeping : Int32) (cursor : Int32) : Option (List Int32 × List Int32 × List Int32 × List Int32 × List Int32 × List Int32 × List Int32 × List Int32 × List Int32 × Int32 × Int32 × Int32 × Int32 × Int32) :=
  (X5_passesAll there used hidden kind figure good load inn kept ships coughs day isKeeping cursor (2 : Int32) (1 : Int32)).bind fun u_1 =>
  some (u_1.1, u_1.2.1, u_1.2.2.1, u_1.2.2.2.1, u_1.2.2.2.2.1, u_1.2.2.2.2.2.1, u_1.2.2.2.2.2.2.1, u_1.2.2.2.2.2.2.2.1, u_1.2.2.2.2.2.2.2.2.1, u_1.2.2.2.2.2.2.2.2.2.1, u_1.2.2.2.2.2.2.2.2.2.2.1, u_1.2.2.2.2.2.2.2.2.2.2.2.1, u_1.2.2.2.2.2.2.2.2.2.2.2.2.1, u_1.2.2.2.2.2.2.2.2.2.2.2.2.2)
set_option maxRecDepth 100000 in
set_option maxHeartbeats 4000000 in
theorem c_X5_thinks {l : Launch} {G : Gx} {ad : Nat → Nat} {refused there used hidden kind figure good load inn tape letter letterAt told kept row costs : List Int32} {ships coughs day away taped reading statements hasImage isKeeping cursor backs free goodFor loadedWhen bareGood bareWhen rowMany lots : Int32}  {out : List Int32 × List Int32 × List Int32 × List Int32 × List Int32 × List Int32 × List Int32 × List Int32 × List Int32 × Int32 × Int32 × Int32 × Int32 × Int32} (hf : X5_thinks there used hidden kind figure good load inn kept ships coughs day isKeeping cursor = some out) : Ct l G yX5_thinks cX5_thinks 1 (none) 2 44 [.ref (ad 0)] (wM G ad refused there used hidden kind figure good load inn tape letter letterAt told kept row costs ships coughs day away taped reading statements hasImage isKeeping cursor backs free goodFor loadedWhen bareGood bareWhen rowMany lots) (none) (wM G ad refused out.1 out.2.1 out.2.2.1 out.2.2.2.1 out.2.2.2.2.1 out.2.2.2.2.2.1 out.2.2.2.2.2.2.1 out.2.2.2.2.2.2.2.1 tape letter letterAt told out.2.2.2.2.2.2.2.2.1 row costs out.2.2.2.2.2.2.2.2.2.1 out.2.2.2.2.2.2.2.2.2.2.1 out.2.2.2.2.2.2.2.2.2.2.2.1 away taped reading statements hasImage out.2.2.2.2.2.2.2.2.2.2.2.2.1 out.2.2.2.2.2.2.2.2.2.2.2.2.2 backs free goodFor loadedWhen bareGood bareWhen rowMany lots) := by
  refine Ct.intro RX5 rfl (plainFor_of_name (by decide)) (Nat.le_of_ble_eq_true rfl) rfl ?_
  intro p e s m args below meth c A C H locs hs ls hl
  obtain ⟨hx, hb, hml, hown, hts, hK, hret, hlk⟩ := id C
  have hl : lv_has ls 1 [(0, .ref (ad 0))] := hl
  unfold X5_thinks at hf
  refine lv_aload_n hx hb (dk hX5_thinks_0 0 rfl) rfl (lv_at hl 0 rfl) ?_
  refine lv_iconst (v := (2 : Int32)) hx hb (dk hX5_thinks_0 1 rfl) (by decide) ?_
  refine lv_iconst (v := (1 : Int32)) hx hb (dk hX5_thinks_0 2 rfl) (by decide) ?_
  obtain ⟨u_1, e_2, hf⟩ := Option.bind_eq_some_iff.mp hf
  refine Ct.V (As := [.int (2 : Int32), .int (1 : Int32)]) (rest := []) (st1 := []) (w1 := (wM G ad refused u_1.1 u_1.2.1 u_1.2.2.1 u_1.2.2.2.1 u_1.2.2.2.2.1 u_1.2.2.2.2.2.1 u_1.2.2.2.2.2.2.1 u_1.2.2.2.2.2.2.2.1 tape letter letterAt told u_1.2.2.2.2.2.2.2.2.1 row costs u_1.2.2.2.2.2.2.2.2.2.1 u_1.2.2.2.2.2.2.2.2.2.2.1 u_1.2.2.2.2.2.2.2.2.2.2.2.1 away taped reading statements hasImage u_1.2.2.2.2.2.2.2.2.2.2.2.2.1 u_1.2.2.2.2.2.2.2.2.2.2.2.2.2 backs free goodFor loadedWhen bareGood bareWhen rowMany lots)) C hs (c_X5_passesAll e_2) tw_827 tw_829 tw_26 tw_85 tw_830 nq_X5_passesAll (by decide) 0 5 rfl rfl rfl rfl hl.1 rfl (Nat.le_of_ble_eq_true rfl) (dk hX5_thinks_0 3 rfl) ⟨Nat.zero_le _, Nat.zero_le _⟩ rfl (fun H locs hs => ?_)
  cases hf
  exact rv C hs (dk hX5_thinks_0 4 rfl)

def X5_forgets (there : List Int32) (used : List Int32) (hidden : List Int32) (kind : List Int32) (figure : List Int32) (good : List Int32) (load : List Int32) (inn : List Int32) (kept : List Int32) (ships : Int32) (coughs : Int32) (day : Int32) (isKeeping : Int32) (cursor : Int32) : Option (List Int32 × List Int32 × List Int32 × List Int32 × List Int32 × List Int32 × List Int32 × List Int32 × List Int32 × Int32 × Int32 × Int32 × Int32 × Int32) :=
  (X5_passesAll there used hidden kind figure good load inn kept ships coughs day isKeeping cursor (2 : Int32) (0 : Int32)).bind fun u_1 =>
  some (u_1.1, u_1.2.1, u_1.2.2.1, u_1.2.2.2.1, u_1.2.2.2.2.1, u_1.2.2.2.2.2.1, u_1.2.2.2.2.2.2.1, u_1.2.2.2.2.2.2.2.1, u_1.2.2.2.2.2.2.2.2.1, u_1.2.2.2.2.2.2.2.2.2.1, u_1.2.2.2.2.2.2.2.2.2.2.1, u_1.2.2.2.2.2.2.2.2.2.2.2.1, u_1.2.2.2.2.2.2.2.2.2.2.2.2.1, u_1.2.2.2.2.2.2.2.2.2.2.2.2.2)
set_option maxRecDepth 100000 in
set_option maxHeartbeats 4000000 in
theorem c_X5_forgets {l : Launch} {G : Gx} {ad : Nat → Nat} {refused there used hidden kind figure good load inn tape letter letterAt told kept row costs : List Int32} {ships coughs day away taped reading statements hasImage isKeeping cursor backs free goodFor loadedWhen bareGood bareWhen rowMany lots : Int32}  {out : List Int32 × List Int32 × List Int32 × List Int32 × List Int32 × List Int32 × List Int32 × List Int32 × List Int32 × Int32 × Int32 × Int32 × Int32 × Int32} (hf : X5_forgets there used hidden kind figure good load inn kept ships coughs day isKeeping cursor = some out) : Ct l G yX5_forgets cX5_forgets 1 (none) 2 44 [.ref (ad 0)] (wM G ad refused there used hidden kind figure good load inn tape letter letterAt told kept row costs ships coughs day away taped reading statements hasImage isKeeping cursor backs free goodFor loadedWhen bareGood bareWhen rowMany lots) (none) (wM G ad refused out.1 out.2.1 out.2.2.1 out.2.2.2.1 out.2.2.2.2.1 out.2.2.2.2.2.1 out.2.2.2.2.2.2.1 out.2.2.2.2.2.2.2.1 tape letter letterAt told out.2.2.2.2.2.2.2.2.1 row costs out.2.2.2.2.2.2.2.2.2.1 out.2.2.2.2.2.2.2.2.2.2.1 out.2.2.2.2.2.2.2.2.2.2.2.1 away taped reading statements hasImage out.2.2.2.2.2.2.2.2.2.2.2.2.1 out.2.2.2.2.2.2.2.2.2.2.2.2.2 backs free goodFor loadedWhen bareGood bareWhen rowMany lots) := by
  refine Ct.intro RX5 rfl (plainFor_of_name (by decide)) (Nat.le_of_ble_eq_true rfl) rfl ?_
  intro p e s m args below meth c A C H locs hs ls hl
  obtain ⟨hx, hb, hml, hown, hts, hK, hret, hlk⟩ := id C
  have hl : lv_has ls 1 [(0, .ref (ad 0))] := hl
  unfold X5_forgets at hf
  refine lv_aload_n hx hb (dk hX5_forgets_0 0 rfl) rfl (lv_at hl 0 rfl) ?_
  refine lv_iconst (v := (2 : Int32)) hx hb (dk hX5_forgets_0 1 rfl) (by decide) ?_
  refine lv_iconst (v := (0 : Int32)) hx hb (dk hX5_forgets_0 2 rfl) (by decide) ?_
  obtain ⟨u_1, e_2, hf⟩ := Option.bind_eq_some_iff.mp hf
  refine Ct.V (As := [.int (2 : Int32), .int (0 : Int32)]) (rest := []) (st1 := []) (w1 := (wM G ad refused u_1.1 u_1.2.1 u_1.2.2.1 u_1.2.2.2.1 u_1.2.2.2.2.1 u_1.2.2.2.2.2.1 u_1.2.2.2.2.2.2.1 u_1.2.2.2.2.2.2.2.1 tape letter letterAt told u_1.2.2.2.2.2.2.2.2.1 row costs u_1.2.2.2.2.2.2.2.2.2.1 u_1.2.2.2.2.2.2.2.2.2.2.1 u_1.2.2.2.2.2.2.2.2.2.2.2.1 away taped reading statements hasImage u_1.2.2.2.2.2.2.2.2.2.2.2.2.1 u_1.2.2.2.2.2.2.2.2.2.2.2.2.2 backs free goodFor loadedWhen bareGood bareWhen rowMany lots)) C hs (c_X5_passesAll e_2) tw_827 tw_829 tw_26 tw_85 tw_830 nq_X5_passesAll (by decide) 0 5 rfl rfl rfl rfl hl.1 rfl (Nat.le_of_ble_eq_true rfl) (dk hX5_forgets_0 3 rfl) ⟨Nat.zero_le _, Nat.zero_le _⟩ rfl (fun H locs hs => ?_)
  cases hf
  exact rv C hs (dk hX5_forgets_0 4 rfl)

def X5_changes (there : List Int32) (used : List Int32) (hidden : List Int32) (kind : List Int32) (figure : List Int32) (good : List Int32) (load : List Int32) (inn : List Int32) (kept : List Int32) (ships : Int32) (coughs : Int32) (day : Int32) (isKeeping : Int32) (cursor : Int32) : Option (List Int32 × List Int32 × List Int32 × List Int32 × List Int32 × List Int32 × List Int32 × List Int32 × List Int32 × Int32 × Int32 × Int32 × Int32 × Int32) :=
  (X5_passesAll there used hidden kind figure good load inn kept ships coughs day isKeeping cursor (1 : Int32) (1 : Int32)).bind fun u_1 =>
  some (u_1.1, u_1.2.1, u_1.2.2.1, u_1.2.2.2.1, u_1.2.2.2.2.1, u_1.2.2.2.2.2.1, u_1.2.2.2.2.2.2.1, u_1.2.2.2.2.2.2.2.1, u_1.2.2.2.2.2.2.2.2.1, u_1.2.2.2.2.2.2.2.2.2.1, u_1.2.2.2.2.2.2.2.2.2.2.1, u_1.2.2.2.2.2.2.2.2.2.2.2.1, u_1.2.2.2.2.2.2.2.2.2.2.2.2.1, u_1.2.2.2.2.2.2.2.2.2.2.2.2.2)
set_option maxRecDepth 100000 in
set_option maxHeartbeats 4000000 in
theorem c_X5_changes {l : Launch} {G : Gx} {ad : Nat → Nat} {refused there used hidden kind figure good load inn tape letter letterAt told kept row costs : List Int32} {ships coughs day away taped reading statements hasImage isKeeping cursor backs free goodFor loadedWhen bareGood bareWhen rowMany lots : Int32}  {out : List Int32 × List Int32 × List Int32 × List Int32 × List Int32 × List Int32 × List Int32 × List Int32 × List Int32 × Int32 × Int32 × Int32 × Int32 × Int32} (hf : X5_changes there used hidden kind figure good load inn kept ships coughs day isKeeping cursor = some out) : Ct l G yX5_changes cX5_changes 1 (none) 2 44 [.ref (ad 0)] (wM G ad refused there used hidden kind figure good load inn tape letter letterAt told kept row costs ships coughs day away taped reading statements hasImage isKeeping cursor backs free goodFor loadedWhen bareGood bareWhen rowMany lots) (none) (wM G ad refused out.1 out.2.1 out.2.2.1 out.2.2.2.1 out.2.2.2.2.1 out.2.2.2.2.2.1 out.2.2.2.2.2.2.1 out.2.2.2.2.2.2.2.1 tape letter letterAt told out.2.2.2.2.2.2.2.2.1 row costs out.2.2.2.2.2.2.2.2.2.1 out.2.2.2.2.2.2.2.2.2.2.1 out.2.2.2.2.2.2.2.2.2.2.2.1 away taped reading statements hasImage out.2.2.2.2.2.2.2.2.2.2.2.2.1 out.2.2.2.2.2.2.2.2.2.2.2.2.2 backs free goodFor loadedWhen bareGood bareWhen rowMany lots) := by
  refine Ct.intro RX5 rfl (plainFor_of_name (by decide)) (Nat.le_of_ble_eq_true rfl) rfl ?_
  intro p e s m args below meth c A C H locs hs ls hl
  obtain ⟨hx, hb, hml, hown, hts, hK, hret, hlk⟩ := id C
  have hl : lv_has ls 1 [(0, .ref (ad 0))] := hl
  unfold X5_changes at hf
  refine lv_aload_n hx hb (dk hX5_changes_0 0 rfl) rfl (lv_at hl 0 rfl) ?_
  refine lv_iconst (v := (1 : Int32)) hx hb (dk hX5_changes_0 1 rfl) (by decide) ?_
  refine lv_iconst (v := (1 : Int32)) hx hb (dk hX5_changes_0 2 rfl) (by decide) ?_
  obtain ⟨u_1, e_2, hf⟩ := Option.bind_eq_some_iff.mp hf
  refine Ct.V (As := [.int (1 : Int32), .int (1 : Int32)]) (rest := []) (st1 := []) (w1 := (wM G ad refused u_1.1 u_1.2.1 u_1.2.2.1 u_1.2.2.2.1 u_1.2.2.2.2.1 u_1.2.2.2.2.2.1 u_1.2.2.2.2.2.2.1 u_1.2.2.2.2.2.2.2.1 tape letter letterAt told u_1.2.2.2.2.2.2.2.2.1 row costs u_1.2.2.2.2.2.2.2.2.2.1 u_1.2.2.2.2.2.2.2.2.2.2.1 u_1.2.2.2.2.2.2.2.2.2.2.2.1 away taped reading statements hasImage u_1.2.2.2.2.2.2.2.2.2.2.2.2.1 u_1.2.2.2.2.2.2.2.2.2.2.2.2.2 backs free goodFor loadedWhen bareGood bareWhen rowMany lots)) C hs (c_X5_passesAll e_2) tw_827 tw_829 tw_26 tw_85 tw_830 nq_X5_passesAll (by decide) 0 5 rfl rfl rfl rfl hl.1 rfl (Nat.le_of_ble_eq_true rfl) (dk hX5_changes_0 3 rfl) ⟨Nat.zero_le _, Nat.zero_le _⟩ rfl (fun H locs hs => ?_)
  cases hf
  exact rv C hs (dk hX5_changes_0 4 rfl)

def X5_changesBack (there : List Int32) (used : List Int32) (hidden : List Int32) (kind : List Int32) (figure : List Int32) (good : List Int32) (load : List Int32) (inn : List Int32) (kept : List Int32) (ships : Int32) (coughs : Int32) (day : Int32) (isKeeping : Int32) (cursor : Int32) : Option (List Int32 × List Int32 × List Int32 × List Int32 × List Int32 × List Int32 × List Int32 × List Int32 × List Int32 × Int32 × Int32 × Int32 × Int32 × Int32) :=
  (X5_passesAll there used hidden kind figure good load inn kept ships coughs day isKeeping cursor (1 : Int32) (0 : Int32)).bind fun u_1 =>
  some (u_1.1, u_1.2.1, u_1.2.2.1, u_1.2.2.2.1, u_1.2.2.2.2.1, u_1.2.2.2.2.2.1, u_1.2.2.2.2.2.2.1, u_1.2.2.2.2.2.2.2.1, u_1.2.2.2.2.2.2.2.2.1, u_1.2.2.2.2.2.2.2.2.2.1, u_1.2.2.2.2.2.2.2.2.2.2.1, u_1.2.2.2.2.2.2.2.2.2.2.2.1, u_1.2.2.2.2.2.2.2.2.2.2.2.2.1, u_1.2.2.2.2.2.2.2.2.2.2.2.2.2)
set_option maxRecDepth 100000 in
set_option maxHeartbeats 4000000 in
theorem c_X5_changesBack {l : Launch} {G : Gx} {ad : Nat → Nat} {refused there used hidden kind figure good load inn tape letter letterAt told kept row costs : List Int32} {ships coughs day away taped reading statements hasImage isKeeping cursor backs free goodFor loadedWhen bareGood bareWhen rowMany lots : Int32}  {out : List Int32 × List Int32 × List Int32 × List Int32 × List Int32 × List Int32 × List Int32 × List Int32 × List Int32 × Int32 × Int32 × Int32 × Int32 × Int32} (hf : X5_changesBack there used hidden kind figure good load inn kept ships coughs day isKeeping cursor = some out) : Ct l G yX5_changesBack cX5_changesBack 1 (none) 2 44 [.ref (ad 0)] (wM G ad refused there used hidden kind figure good load inn tape letter letterAt told kept row costs ships coughs day away taped reading statements hasImage isKeeping cursor backs free goodFor loadedWhen bareGood bareWhen rowMany lots) (none) (wM G ad refused out.1 out.2.1 out.2.2.1 out.2.2.2.1 out.2.2.2.2.1 out.2.2.2.2.2.1 out.2.2.2.2.2.2.1 out.2.2.2.2.2.2.2.1 tape letter letterAt told out.2.2.2.2.2.2.2.2.1 row costs out.2.2.2.2.2.2.2.2.2.1 out.2.2.2.2.2.2.2.2.2.2.1 out.2.2.2.2.2.2.2.2.2.2.2.1 away taped reading statements hasImage out.2.2.2.2.2.2.2.2.2.2.2.2.1 out.2.2.2.2.2.2.2.2.2.2.2.2.2 backs free goodFor loadedWhen bareGood bareWhen rowMany lots) := by
  refine Ct.intro RX5 rfl (plainFor_of_name (by decide)) (Nat.le_of_ble_eq_true rfl) rfl ?_
  intro p e s m args below meth c A C H locs hs ls hl
  obtain ⟨hx, hb, hml, hown, hts, hK, hret, hlk⟩ := id C
  have hl : lv_has ls 1 [(0, .ref (ad 0))] := hl
  unfold X5_changesBack at hf
  refine lv_aload_n hx hb (dk hX5_changesBack_0 0 rfl) rfl (lv_at hl 0 rfl) ?_
  refine lv_iconst (v := (1 : Int32)) hx hb (dk hX5_changesBack_0 1 rfl) (by decide) ?_
  refine lv_iconst (v := (0 : Int32)) hx hb (dk hX5_changesBack_0 2 rfl) (by decide) ?_
  obtain ⟨u_1, e_2, hf⟩ := Option.bind_eq_some_iff.mp hf
  refine Ct.V (As := [.int (1 : Int32), .int (0 : Int32)]) (rest := []) (st1 := []) (w1 := (wM G ad refused u_1.1 u_1.2.1 u_1.2.2.1 u_1.2.2.2.1 u_1.2.2.2.2.1 u_1.2.2.2.2.2.1 u_1.2.2.2.2.2.2.1 u_1.2.2.2.2.2.2.2.1 tape letter letterAt told u_1.2.2.2.2.2.2.2.2.1 row costs u_1.2.2.2.2.2.2.2.2.2.1 u_1.2.2.2.2.2.2.2.2.2.2.1 u_1.2.2.2.2.2.2.2.2.2.2.2.1 away taped reading statements hasImage u_1.2.2.2.2.2.2.2.2.2.2.2.2.1 u_1.2.2.2.2.2.2.2.2.2.2.2.2.2 backs free goodFor loadedWhen bareGood bareWhen rowMany lots)) C hs (c_X5_passesAll e_2) tw_827 tw_829 tw_26 tw_85 tw_830 nq_X5_passesAll (by decide) 0 5 rfl rfl rfl rfl hl.1 rfl (Nat.le_of_ble_eq_true rfl) (dk hX5_changesBack_0 3 rfl) ⟨Nat.zero_le _, Nat.zero_le _⟩ rfl (fun H locs hs => ?_)
  cases hf
  exact rv C hs (dk hX5_changesBack_0 4 rfl)

def X5_keepsBack_L13 (k : List Int32 → Option (List Int32 × List Int32 × List Int32 × List Int32 × List Int32 × List Int32 × List Int32 × List Int32 × List Int32 × Int32 × Int32 × Int32 × Int32 × Int32 × Int32)) : Nat → Int32 → List Int32 → Option (List Int32 × List Int32 × List Int32 × List Int32 × List Int32 × List Int32 × List Int32 × List Int32 × List Int32 × Int32 × Int32 × Int32 × Int32 × Int32 × Int32)
  | 0, _, _ => none
  | n + 1, x1, kept =>
  if (560 : Int32) ≤ x1 then
  k kept
  else
  (rd kept (x1 + (56 : Int32))).bind fun v_3 =>
  (wr kept x1 v_3).bind fun kept_5 =>
  X5_keepsBack_L13 k n (x1 + (1 : Int32)) kept_5
def X5_keepsBack (there : List Int32) (used : List Int32) (hidden : List Int32) (kind : List Int32) (figure : List Int32) (good : List Int32) (load : List Int32) (inn : List Int32) (kept : List Int32) (ships : Int32) (coughs : Int32) (day : Int32) (isKeeping : Int32) (cursor : Int32) (backs : Int32) : Option (List Int32 × List Int32 × List Int32 × List Int32 × List Int32 × List Int32 × List Int32 × List Int32 × List Int32 × Int32 × Int32 × Int32 × Int32 × Int32 × Int32) :=
  if backs = (8 : Int32) then
  X5_keepsBack_L13 (fun kept_7 =>
  (X5_passesAll there used hidden kind figure good load inn kept_7 ships coughs day isKeeping cursor ((3 : Int32) + (backs - (1 : Int32))) (1 : Int32)).bind fun u_8 =>
  some (u_8.1, u_8.2.1, u_8.2.2.1, u_8.2.2.2.1, u_8.2.2.2.2.1, u_8.2.2.2.2.2.1, u_8.2.2.2.2.2.2.1, u_8.2.2.2.2.2.2.2.1, u_8.2.2.2.2.2.2.2.2.1, u_8.2.2.2.2.2.2.2.2.2.1, u_8.2.2.2.2.2.2.2.2.2.2.1, u_8.2.2.2.2.2.2.2.2.2.2.2.1, u_8.2.2.2.2.2.2.2.2.2.2.2.2.1, u_8.2.2.2.2.2.2.2.2.2.2.2.2.2, ((backs - (1 : Int32)) + (1 : Int32)))) 1000 (168 : Int32) kept
  else
  (X5_passesAll there used hidden kind figure good load inn kept ships coughs day isKeeping cursor ((3 : Int32) + backs) (1 : Int32)).bind fun u_1 =>
  some (u_1.1, u_1.2.1, u_1.2.2.1, u_1.2.2.2.1, u_1.2.2.2.2.1, u_1.2.2.2.2.2.1, u_1.2.2.2.2.2.2.1, u_1.2.2.2.2.2.2.2.1, u_1.2.2.2.2.2.2.2.2.1, u_1.2.2.2.2.2.2.2.2.2.1, u_1.2.2.2.2.2.2.2.2.2.2.1, u_1.2.2.2.2.2.2.2.2.2.2.2.1, u_1.2.2.2.2.2.2.2.2.2.2.2.2.1, u_1.2.2.2.2.2.2.2.2.2.2.2.2.2, (backs + (1 : Int32)))
set_option maxRecDepth 100000 in
set_option maxHeartbeats 4000000 in
theorem l_X5_keepsBack_L13 {l : Launch} {p : Program} {e : Env} {s : State} {m : MethodId} {args : Array Value} {below : List Frame} {meth : Method} {c : Code} {A : Nat → Prop} {G : Gx} {ad : Nat → Nat} {refused there used hidden kind figure good load inn tape letter letterAt told row costs : List Int32} {ships coughs day away taped reading statements hasImage isKeeping cursor backs free goodFor loadedWhen bareGood bareWhen rowMany lots : Int32} {k : List Int32 → Option (List Int32 × List Int32 × List Int32 × List Int32 × List Int32 × List Int32 × List Int32 × List Int32 × List Int32 × Int32 × Int32 × Int32 × Int32 × Int32 × Int32)} {out : List Int32 × List Int32 × List Int32 × List Int32 × List Int32 × List Int32 × List Int32 × List Int32 × List Int32 × Int32 × Int32 × Int32 × Int32 × Int32 × Int32} (C : Cx p s m args meth c cX5_keepsBack RX5 2 (none) G) : ∀ (n : Nat) (x1 : Int32) (kept : List Int32), X5_keepsBack_L13 k n x1 kept = some out → ∀ (H : Heap) (locs : List Loc), St G A s.heap H locs (wM G ad refused there used hidden kind figure good load inn tape letter letterAt told kept row costs ships coughs day away taped reading statements hasImage isKeeping cursor backs free goodFor loadedWhen bareGood bareWhen rowMany lots) → ∀ ls : Array Slot, lv_has ls 2 [(0, .ref (ad 0)), (1, .int x1)] → (∀ (z_kept : List Int32), k z_kept = some out → ∀ (H : Heap) (locs : List Loc), St G A s.heap H locs (wM G ad refused there used hidden kind figure good load inn tape letter letterAt told z_kept row costs ships coughs day away taped reading statements hasImage isKeeping cursor backs free goodFor loadedWhen bareGood bareWhen rowMany lots) → ∀ ls : Array Slot, lv_has ls 2 [(0, .ref (ad 0))] → W p l e (rmOf 2 44) s m args below meth c H locs 0 0 (MQ below (Qof G A (none) (wM G ad refused out.1 out.2.1 out.2.2.1 out.2.2.2.1 out.2.2.2.2.1 out.2.2.2.2.2.1 out.2.2.2.2.2.2.1 out.2.2.2.2.2.2.2.1 tape letter letterAt told out.2.2.2.2.2.2.2.2.1 row costs out.2.2.2.2.2.2.2.2.2.1 out.2.2.2.2.2.2.2.2.2.2.1 out.2.2.2.2.2.2.2.2.2.2.2.1 away taped reading statements hasImage out.2.2.2.2.2.2.2.2.2.2.2.2.1 out.2.2.2.2.2.2.2.2.2.2.2.2.2.1 out.2.2.2.2.2.2.2.2.2.2.2.2.2.2 free goodFor loadedWhen bareGood bareWhen rowMany lots)) args s 0 0 A) (F0 m 41 ls [])) → W p l e (rmOf 2 44) s m args below meth c H locs 0 0 (MQ below (Qof G A (none) (wM G ad refused out.1 out.2.1 out.2.2.1 out.2.2.2.1 out.2.2.2.2.1 out.2.2.2.2.2.1 out.2.2.2.2.2.2.1 out.2.2.2.2.2.2.2.1 tape letter letterAt told out.2.2.2.2.2.2.2.2.1 row costs out.2.2.2.2.2.2.2.2.2.1 out.2.2.2.2.2.2.2.2.2.2.1 out.2.2.2.2.2.2.2.2.2.2.2.1 away taped reading statements hasImage out.2.2.2.2.2.2.2.2.2.2.2.2.1 out.2.2.2.2.2.2.2.2.2.2.2.2.2.1 out.2.2.2.2.2.2.2.2.2.2.2.2.2.2 free goodFor loadedWhen bareGood bareWhen rowMany lots)) args s 0 0 A) (F0 m 13 ls []) := by
  obtain ⟨hx, hb, hml, hown, hts, hK, hret, hlk⟩ := id C
  intro n
  induction n with
  | zero => intro x1 kept hf; cases hf
  | succ n ih =>
    intro x1 kept hf H locs hs ls hl hk
    rw [X5_keepsBack_L13] at hf
    refine lv_iload_n hx hb (dk hX5_keepsBack_0 6 rfl) rfl (lv_at hl 1 rfl) ?_
    refine lv_sipush (v := (560 : Int32)) hx hb (dk hX5_keepsBack_0 7 rfl) (by decide) ?_
    refine lv_icmp_ge (tgt := 41) hx hb (dk hX5_keepsBack_0 8 rfl) (by decide) (fun hc => ?_) (fun hc => ?_)
    · replace hf := ip hf hc
      exact hk _ hf _ _ hs _ (lv_sub hl [0] rfl)
    · replace hf := in_ hf hc
      refine lv_aload_n hx hb (dk hX5_keepsBack_0 9 rfl) rfl (lv_at hl 0 rfl) ?_
      refine rg ui5 rfl C hs 0 rfl 20 (by decide) tw_710 rfl rfl (dk hX5_keepsBack_0 10 rfl) ?_
      refine lv_iload_n hx hb (dk hX5_keepsBack_0 11 rfl) rfl (lv_at hl 1 rfl) ?_
      refine lv_aload_n hx hb (dk hX5_keepsBack_0 12 rfl) rfl (lv_at hl 0 rfl) ?_
      refine rg ui5 rfl C hs 0 rfl 20 (by decide) tw_710 rfl rfl (dk hX5_keepsBack_0 13 rfl) ?_
      refine lv_iload_n hx hb (dk hX5_keepsBack_0 14 rfl) rfl (lv_at hl 1 rfl) ?_
      refine lv_bipush (v := (56 : Int32)) hx hb (dk hX5_keepsBack_0 15 rfl) (by decide) ?_
      refine lv_iadd hx hb (dk hX5_keepsBack_0 16 rfl) ?_
      obtain ⟨v_3, e_4, hf⟩ := Option.bind_eq_some_iff.mp hf
      refine rild C hs 14 rfl e_4 (dk hX5_keepsBack_0 17 rfl) ?_
      obtain ⟨kept_5, e_6, hf⟩ := Option.bind_eq_some_iff.mp hf
      refine rist (w1 := (wM G ad refused there used hidden kind figure good load inn tape letter letterAt told kept_5 row costs ships coughs day away taped reading statements hasImage isKeeping cursor backs free goodFor loadedWhen bareGood bareWhen rowMany lots)) C hs 14 rfl e_6 rfl (dk hX5_keepsBack_0 18 rfl) (fun H locs hs => ?_)
      refine lv_iinc (v := (x1 + (1 : Int32))) (lv' := [(1, .int (x1 + (1 : Int32))), (0, .ref (ad 0))]) hx hb (dk hX5_keepsBack_0 19 rfl) hl (k := 1) rfl (by first | rfl | decide) (by decide) rfl (fun ls hl => ?_)
      refine lv_goto (tgt := 13) hx hb (dk hX5_keepsBack_0 20 rfl) (by decide) ?_
      exact ih _ _ hf _ _ hs _ (lv_sub hl [1, 0] rfl) hk
set_option maxRecDepth 100000 in
set_option maxHeartbeats 4000000 in
theorem c_X5_keepsBack {l : Launch} {G : Gx} {ad : Nat → Nat} {refused there used hidden kind figure good load inn tape letter letterAt told kept row costs : List Int32} {ships coughs day away taped reading statements hasImage isKeeping cursor backs free goodFor loadedWhen bareGood bareWhen rowMany lots : Int32}  {out : List Int32 × List Int32 × List Int32 × List Int32 × List Int32 × List Int32 × List Int32 × List Int32 × List Int32 × Int32 × Int32 × Int32 × Int32 × Int32 × Int32} (hf : X5_keepsBack there used hidden kind figure good load inn kept ships coughs day isKeeping cursor backs = some out) : Ct l G yX5_keepsBack cX5_keepsBack 2 (none) 2 44 [.ref (ad 0)] (wM G ad refused there used hidden kind figure good load inn tape letter letterAt told kept row costs ships coughs day away taped reading statements hasImage isKeeping cursor backs free goodFor loadedWhen bareGood bareWhen rowMany lots) (none) (wM G ad refused out.1 out.2.1 out.2.2.1 out.2.2.2.1 out.2.2.2.2.1 out.2.2.2.2.2.1 out.2.2.2.2.2.2.1 out.2.2.2.2.2.2.2.1 tape letter letterAt told out.2.2.2.2.2.2.2.2.1 row costs out.2.2.2.2.2.2.2.2.2.1 out.2.2.2.2.2.2.2.2.2.2.1 out.2.2.2.2.2.2.2.2.2.2.2.1 away taped reading statements hasImage out.2.2.2.2.2.2.2.2.2.2.2.2.1 out.2.2.2.2.2.2.2.2.2.2.2.2.2.1 out.2.2.2.2.2.2.2.2.2.2.2.2.2.2 free goodFor loadedWhen bareGood bareWhen rowMany lots) := by
  refine Ct.intro RX5 rfl (plainFor_of_name (by decide)) (Nat.le_of_ble_eq_true rfl) rfl ?_
  intro p e s m args below meth c A C H locs hs ls hl
  obtain ⟨hx, hb, hml, hown, hts, hK, hret, hlk⟩ := id C
  have hl : lv_has ls 2 [(0, .ref (ad 0))] := hl
  unfold X5_keepsBack at hf
  refine lv_aload_n hx hb (dk hX5_keepsBack_0 0 rfl) rfl (lv_at hl 0 rfl) ?_
  refine rg ui5 rfl C hs 0 rfl 24 (by decide) tw_714 rfl rfl (dk hX5_keepsBack_0 1 rfl) ?_
  refine lv_bipush (v := (8 : Int32)) hx hb (dk hX5_keepsBack_0 2 rfl) (by decide) ?_
  refine lv_icmp_ne (tgt := 51) hx hb (dk hX5_keepsBack_0 3 rfl) (by decide) (fun hc => ?_) (fun hc => ?_)
  · replace hf := in_ hf hc
    refine lv_aload_n hx hb (dk hX5_keepsBack_0 27 rfl) rfl (lv_at hl 0 rfl) ?_
    refine lv_iconst (v := (3 : Int32)) hx hb (dk hX5_keepsBack_0 28 rfl) (by decide) ?_
    refine lv_aload_n hx hb (dk hX5_keepsBack_0 29 rfl) rfl (lv_at hl 0 rfl) ?_
    refine rg ui5 rfl C hs 0 rfl 24 (by decide) tw_714 rfl rfl (dk hX5_keepsBack_0 30 rfl) ?_
    refine lv_iadd hx hb (dk hX5_keepsBack_0 31 rfl) ?_
    refine lv_iconst (v := (1 : Int32)) hx hb (dk hX5_keepsBack_0 32 rfl) (by decide) ?_
    obtain ⟨u_1, e_2, hf⟩ := Option.bind_eq_some_iff.mp hf
    refine Ct.V (As := [.int ((3 : Int32) + backs), .int (1 : Int32)]) (rest := []) (st1 := []) (w1 := (wM G ad refused u_1.1 u_1.2.1 u_1.2.2.1 u_1.2.2.2.1 u_1.2.2.2.2.1 u_1.2.2.2.2.2.1 u_1.2.2.2.2.2.2.1 u_1.2.2.2.2.2.2.2.1 tape letter letterAt told u_1.2.2.2.2.2.2.2.2.1 row costs u_1.2.2.2.2.2.2.2.2.2.1 u_1.2.2.2.2.2.2.2.2.2.2.1 u_1.2.2.2.2.2.2.2.2.2.2.2.1 away taped reading statements hasImage u_1.2.2.2.2.2.2.2.2.2.2.2.2.1 u_1.2.2.2.2.2.2.2.2.2.2.2.2.2 backs free goodFor loadedWhen bareGood bareWhen rowMany lots)) C hs (c_X5_passesAll e_2) tw_827 tw_829 tw_26 tw_85 tw_830 nq_X5_passesAll (by decide) 0 5 rfl rfl rfl rfl hl.1 rfl (Nat.le_of_ble_eq_true rfl) (dk hX5_keepsBack_0 33 rfl) ⟨Nat.zero_le _, Nat.zero_le _⟩ rfl (fun H locs hs => ?_)
    refine lv_aload_n hx hb (dk hX5_keepsBack_0 34 rfl) rfl (lv_at hl 0 rfl) ?_
    refine lv_dup hx hb (dk hX5_keepsBack_0 35 rfl) rfl ?_
    refine rg ui5 rfl C hs 0 rfl 24 (by decide) tw_714 rfl rfl (dk hX5_keepsBack_0 36 rfl) ?_
    refine lv_iconst (v := (1 : Int32)) hx hb (dk hX5_keepsBack_0 37 rfl) (by decide) ?_
    refine lv_iadd hx hb (dk hX5_keepsBack_0 38 rfl) ?_
    refine rp (w1 := (wM G ad refused u_1.1 u_1.2.1 u_1.2.2.1 u_1.2.2.2.1 u_1.2.2.2.2.1 u_1.2.2.2.2.2.1 u_1.2.2.2.2.2.2.1 u_1.2.2.2.2.2.2.2.1 tape letter letterAt told u_1.2.2.2.2.2.2.2.2.1 row costs u_1.2.2.2.2.2.2.2.2.2.1 u_1.2.2.2.2.2.2.2.2.2.2.1 u_1.2.2.2.2.2.2.2.2.2.2.2.1 away taped reading statements hasImage u_1.2.2.2.2.2.2.2.2.2.2.2.2.1 u_1.2.2.2.2.2.2.2.2.2.2.2.2.2 (backs + (1 : Int32)) free goodFor loadedWhen bareGood bareWhen rowMany lots)) tyX5 tyX5_ok nmX5 ui5 rfl C hs 0 rfl 24 (by decide) tw_714 rfl rfl rfl rfl (Nat.le_of_ble_eq_true rfl) rfl (dk hX5_keepsBack_0 39 rfl) (fun H locs hs => ?_)
    cases hf
    exact rv C hs (dk hX5_keepsBack_1 0 rfl)
  · replace hf := ip hf hc
    refine lv_sipush (v := (168 : Int32)) hx hb (dk hX5_keepsBack_0 4 rfl) (by decide) ?_
    refine lv_istore_n (lv' := [(1, .int (168 : Int32)), (0, .ref (ad 0))]) hx hb (dk hX5_keepsBack_0 5 rfl) rfl hl (by decide) rfl (fun ls hl => ?_)
    refine l_X5_keepsBack_L13 C 1000 _ _ hf _ _ hs _ (lv_sub hl [1, 0] rfl) (fun kept_7 hf H locs hs ls hl => ?_)
    refine lv_aload_n hx hb (dk hX5_keepsBack_0 21 rfl) rfl (lv_at hl 0 rfl) ?_
    refine lv_dup hx hb (dk hX5_keepsBack_0 22 rfl) rfl ?_
    refine rg ui5 rfl C hs 0 rfl 24 (by decide) tw_714 rfl rfl (dk hX5_keepsBack_0 23 rfl) ?_
    refine lv_iconst (v := (1 : Int32)) hx hb (dk hX5_keepsBack_0 24 rfl) (by decide) ?_
    refine lv_isub hx hb (dk hX5_keepsBack_0 25 rfl) ?_
    refine rp (w1 := (wM G ad refused there used hidden kind figure good load inn tape letter letterAt told kept_7 row costs ships coughs day away taped reading statements hasImage isKeeping cursor (backs - (1 : Int32)) free goodFor loadedWhen bareGood bareWhen rowMany lots)) tyX5 tyX5_ok nmX5 ui5 rfl C hs 0 rfl 24 (by decide) tw_714 rfl rfl rfl rfl (Nat.le_of_ble_eq_true rfl) rfl (dk hX5_keepsBack_0 26 rfl) (fun H locs hs => ?_)
    refine lv_aload_n hx hb (dk hX5_keepsBack_0 27 rfl) rfl (lv_at hl 0 rfl) ?_
    refine lv_iconst (v := (3 : Int32)) hx hb (dk hX5_keepsBack_0 28 rfl) (by decide) ?_
    refine lv_aload_n hx hb (dk hX5_keepsBack_0 29 rfl) rfl (lv_at hl 0 rfl) ?_
    refine rg ui5 rfl C hs 0 rfl 24 (by decide) tw_714 rfl rfl (dk hX5_keepsBack_0 30 rfl) ?_
    refine lv_iadd hx hb (dk hX5_keepsBack_0 31 rfl) ?_
    refine lv_iconst (v := (1 : Int32)) hx hb (dk hX5_keepsBack_0 32 rfl) (by decide) ?_
    obtain ⟨u_8, e_9, hf⟩ := Option.bind_eq_some_iff.mp hf
    refine Ct.V (As := [.int ((3 : Int32) + (backs - (1 : Int32))), .int (1 : Int32)]) (rest := []) (st1 := []) (w1 := (wM G ad refused u_8.1 u_8.2.1 u_8.2.2.1 u_8.2.2.2.1 u_8.2.2.2.2.1 u_8.2.2.2.2.2.1 u_8.2.2.2.2.2.2.1 u_8.2.2.2.2.2.2.2.1 tape letter letterAt told u_8.2.2.2.2.2.2.2.2.1 row costs u_8.2.2.2.2.2.2.2.2.2.1 u_8.2.2.2.2.2.2.2.2.2.2.1 u_8.2.2.2.2.2.2.2.2.2.2.2.1 away taped reading statements hasImage u_8.2.2.2.2.2.2.2.2.2.2.2.2.1 u_8.2.2.2.2.2.2.2.2.2.2.2.2.2 (backs - (1 : Int32)) free goodFor loadedWhen bareGood bareWhen rowMany lots)) C hs (c_X5_passesAll e_9) tw_827 tw_829 tw_26 tw_85 tw_830 nq_X5_passesAll (by decide) 0 5 rfl rfl rfl rfl hl.1 rfl (Nat.le_of_ble_eq_true rfl) (dk hX5_keepsBack_0 33 rfl) ⟨Nat.zero_le _, Nat.zero_le _⟩ rfl (fun H locs hs => ?_)
    refine lv_aload_n hx hb (dk hX5_keepsBack_0 34 rfl) rfl (lv_at hl 0 rfl) ?_
    refine lv_dup hx hb (dk hX5_keepsBack_0 35 rfl) rfl ?_
    refine rg ui5 rfl C hs 0 rfl 24 (by decide) tw_714 rfl rfl (dk hX5_keepsBack_0 36 rfl) ?_
    refine lv_iconst (v := (1 : Int32)) hx hb (dk hX5_keepsBack_0 37 rfl) (by decide) ?_
    refine lv_iadd hx hb (dk hX5_keepsBack_0 38 rfl) ?_
    refine rp (w1 := (wM G ad refused u_8.1 u_8.2.1 u_8.2.2.1 u_8.2.2.2.1 u_8.2.2.2.2.1 u_8.2.2.2.2.2.1 u_8.2.2.2.2.2.2.1 u_8.2.2.2.2.2.2.2.1 tape letter letterAt told u_8.2.2.2.2.2.2.2.2.1 row costs u_8.2.2.2.2.2.2.2.2.2.1 u_8.2.2.2.2.2.2.2.2.2.2.1 u_8.2.2.2.2.2.2.2.2.2.2.2.1 away taped reading statements hasImage u_8.2.2.2.2.2.2.2.2.2.2.2.2.1 u_8.2.2.2.2.2.2.2.2.2.2.2.2.2 ((backs - (1 : Int32)) + (1 : Int32)) free goodFor loadedWhen bareGood bareWhen rowMany lots)) tyX5 tyX5_ok nmX5 ui5 rfl C hs 0 rfl 24 (by decide) tw_714 rfl rfl rfl rfl (Nat.le_of_ble_eq_true rfl) rfl (dk hX5_keepsBack_0 39 rfl) (fun H locs hs => ?_)
    cases hf
    exact rv C hs (dk hX5_keepsBack_1 0 rfl)

def X5_back (refused : List Int32) (there : List Int32) (used : List Int32) (hidden : List Int32) (kind : List Int32) (figure : List Int32) (good : List Int32) (load : List Int32) (inn : List Int32) (kept : List Int32) (ships : Int32) (coughs : Int32) (day : Int32) (isKeeping : Int32) (cursor : Int32) (backs : Int32) : Option (List Int32 × List Int32 × List Int32 × List Int32 × List Int32 × List Int32 × List Int32 × List Int32 × List Int32 × List Int32 × Int32 × Int32 × Int32 × Int32 × Int32 × Int32 × Int32) :=
  if backs = (0 : Int32) then
  (X5_no refused (-3 : Int32)).bind fun u_3 =>
  some (u_3.1, there, used, hidden, kind, figure, good, load, inn, kept, ships, coughs, day, isKeeping, cursor, backs, u_3.2)
  else
  (X5_passesAll there used hidden kind figure good load inn kept ships coughs day isKeeping cursor ((3 : Int32) + (backs - (1 : Int32))) (0 : Int32)).bind fun u_1 =>
  some (refused, u_1.1, u_1.2.1, u_1.2.2.1, u_1.2.2.2.1, u_1.2.2.2.2.1, u_1.2.2.2.2.2.1, u_1.2.2.2.2.2.2.1, u_1.2.2.2.2.2.2.2.1, u_1.2.2.2.2.2.2.2.2.1, u_1.2.2.2.2.2.2.2.2.2.1, u_1.2.2.2.2.2.2.2.2.2.2.1, u_1.2.2.2.2.2.2.2.2.2.2.2.1, u_1.2.2.2.2.2.2.2.2.2.2.2.2.1, u_1.2.2.2.2.2.2.2.2.2.2.2.2.2, (backs - (1 : Int32)), (backs - (1 : Int32)))
set_option maxRecDepth 100000 in
set_option maxHeartbeats 4000000 in
theorem c_X5_back {l : Launch} {G : Gx} {ad : Nat → Nat} {refused there used hidden kind figure good load inn tape letter letterAt told kept row costs : List Int32} {ships coughs day away taped reading statements hasImage isKeeping cursor backs free goodFor loadedWhen bareGood bareWhen rowMany lots : Int32}  {out : List Int32 × List Int32 × List Int32 × List Int32 × List Int32 × List Int32 × List Int32 × List Int32 × List Int32 × List Int32 × Int32 × Int32 × Int32 × Int32 × Int32 × Int32 × Int32} (hf : X5_back refused there used hidden kind figure good load inn kept ships coughs day isKeeping cursor backs = some out) : Ct l G yX5_back cX5_back 1 (some .int) 2 44 [.ref (ad 0)] (wM G ad refused there used hidden kind figure good load inn tape letter letterAt told kept row costs ships coughs day away taped reading statements hasImage isKeeping cursor backs free goodFor loadedWhen bareGood bareWhen rowMany lots) (some (.int out.2.2.2.2.2.2.2.2.2.2.2.2.2.2.2.2)) (wM G ad out.1 out.2.1 out.2.2.1 out.2.2.2.1 out.2.2.2.2.1 out.2.2.2.2.2.1 out.2.2.2.2.2.2.1 out.2.2.2.2.2.2.2.1 out.2.2.2.2.2.2.2.2.1 tape letter letterAt told out.2.2.2.2.2.2.2.2.2.1 row costs out.2.2.2.2.2.2.2.2.2.2.1 out.2.2.2.2.2.2.2.2.2.2.2.1 out.2.2.2.2.2.2.2.2.2.2.2.2.1 away taped reading statements hasImage out.2.2.2.2.2.2.2.2.2.2.2.2.2.1 out.2.2.2.2.2.2.2.2.2.2.2.2.2.2.1 out.2.2.2.2.2.2.2.2.2.2.2.2.2.2.2.1 free goodFor loadedWhen bareGood bareWhen rowMany lots) := by
  refine Ct.intro RX5 rfl (plainFor_of_name (by decide)) (Nat.le_of_ble_eq_true rfl) rfl ?_
  intro p e s m args below meth c A C H locs hs ls hl
  obtain ⟨hx, hb, hml, hown, hts, hK, hret, hlk⟩ := id C
  have hl : lv_has ls 1 [(0, .ref (ad 0))] := hl
  unfold X5_back at hf
  refine lv_aload_n hx hb (dk hX5_back_0 0 rfl) rfl (lv_at hl 0 rfl) ?_
  refine rg ui5 rfl C hs 0 rfl 24 (by decide) tw_714 rfl rfl (dk hX5_back_0 1 rfl) ?_
  refine lv_if_ne (tgt := 14) hx hb (dk hX5_back_0 2 rfl) (by decide) (fun hc => ?_) (fun hc => ?_)
  · replace hf := in_ hf hc
    refine lv_aload_n hx hb (dk hX5_back_0 7 rfl) rfl (lv_at hl 0 rfl) ?_
    refine lv_dup hx hb (dk hX5_back_0 8 rfl) rfl ?_
    refine rg ui5 rfl C hs 0 rfl 24 (by decide) tw_714 rfl rfl (dk hX5_back_0 9 rfl) ?_
    refine lv_iconst (v := (1 : Int32)) hx hb (dk hX5_back_0 10 rfl) (by decide) ?_
    refine lv_isub hx hb (dk hX5_back_0 11 rfl) ?_
    refine rp (w1 := (wM G ad refused there used hidden kind figure good load inn tape letter letterAt told kept row costs ships coughs day away taped reading statements hasImage isKeeping cursor (backs - (1 : Int32)) free goodFor loadedWhen bareGood bareWhen rowMany lots)) tyX5 tyX5_ok nmX5 ui5 rfl C hs 0 rfl 24 (by decide) tw_714 rfl rfl rfl rfl (Nat.le_of_ble_eq_true rfl) rfl (dk hX5_back_0 12 rfl) (fun H locs hs => ?_)
    refine lv_aload_n hx hb (dk hX5_back_0 13 rfl) rfl (lv_at hl 0 rfl) ?_
    refine lv_iconst (v := (3 : Int32)) hx hb (dk hX5_back_0 14 rfl) (by decide) ?_
    refine lv_aload_n hx hb (dk hX5_back_0 15 rfl) rfl (lv_at hl 0 rfl) ?_
    refine rg ui5 rfl C hs 0 rfl 24 (by decide) tw_714 rfl rfl (dk hX5_back_0 16 rfl) ?_
    refine lv_iadd hx hb (dk hX5_back_0 17 rfl) ?_
    refine lv_iconst (v := (0 : Int32)) hx hb (dk hX5_back_0 18 rfl) (by decide) ?_
    obtain ⟨u_1, e_2, hf⟩ := Option.bind_eq_some_iff.mp hf
    refine Ct.V (As := [.int ((3 : Int32) + (backs - (1 : Int32))), .int (0 : Int32)]) (rest := []) (st1 := []) (w1 := (wM G ad refused u_1.1 u_1.2.1 u_1.2.2.1 u_1.2.2.2.1 u_1.2.2.2.2.1 u_1.2.2.2.2.2.1 u_1.2.2.2.2.2.2.1 u_1.2.2.2.2.2.2.2.1 tape letter letterAt told u_1.2.2.2.2.2.2.2.2.1 row costs u_1.2.2.2.2.2.2.2.2.2.1 u_1.2.2.2.2.2.2.2.2.2.2.1 u_1.2.2.2.2.2.2.2.2.2.2.2.1 away taped reading statements hasImage u_1.2.2.2.2.2.2.2.2.2.2.2.2.1 u_1.2.2.2.2.2.2.2.2.2.2.2.2.2 (backs - (1 : Int32)) free goodFor loadedWhen bareGood bareWhen rowMany lots)) C hs (c_X5_passesAll e_2) tw_827 tw_829 tw_26 tw_85 tw_830 nq_X5_passesAll (by decide) 0 5 rfl rfl rfl rfl hl.1 rfl (Nat.le_of_ble_eq_true rfl) (dk hX5_back_0 19 rfl) ⟨Nat.zero_le _, Nat.zero_le _⟩ rfl (fun H locs hs => ?_)
    refine lv_aload_n hx hb (dk hX5_back_0 20 rfl) rfl (lv_at hl 0 rfl) ?_
    refine rg ui5 rfl C hs 0 rfl 24 (by decide) tw_714 rfl rfl (dk hX5_back_0 21 rfl) ?_
    cases hf
    exact ri C hs (dk hX5_back_0 22 rfl)
  · replace hf := ip hf hc
    refine lv_aload_n hx hb (dk hX5_back_0 3 rfl) rfl (lv_at hl 0 rfl) ?_
    refine lv_bipush (v := (-3 : Int32)) hx hb (dk hX5_back_0 4 rfl) (by decide) ?_
    obtain ⟨u_3, e_4, hf⟩ := Option.bind_eq_some_iff.mp hf
    refine Ct.V (As := [.int (-3 : Int32)]) (rest := []) (st1 := [.int u_3.2]) (w1 := (wM G ad u_3.1 there used hidden kind figure good load inn tape letter letterAt told kept row costs ships coughs day away taped reading statements hasImage isKeeping cursor backs free goodFor loadedWhen bareGood bareWhen rowMany lots)) C hs (c_X5_no e_4) tw_800 tw_802 tw_21 tw_85 tw_803 nq_X5_no (by decide) 0 5 rfl rfl rfl rfl hl.1 rfl (Nat.le_of_ble_eq_true rfl) (dk hX5_back_0 5 rfl) ⟨Nat.zero_le _, Nat.zero_le _⟩ rfl (fun H locs hs => ?_)
    cases hf
    exact ri C hs (dk hX5_back_0 6 rfl)

def X5_image (there : List Int32) (used : List Int32) (hidden : List Int32) (kind : List Int32) (figure : List Int32) (good : List Int32) (load : List Int32) (inn : List Int32) (kept : List Int32) (ships : Int32) (coughs : Int32) (day : Int32) (hasImage : Int32) (isKeeping : Int32) (cursor : Int32) : Option (List Int32 × List Int32 × List Int32 × List Int32 × List Int32 × List Int32 × List Int32 × List Int32 × List Int32 × Int32 × Int32 × Int32 × Int32 × Int32 × Int32 × Int32) :=
  (X5_passesAll there used hidden kind figure good load inn kept ships coughs day isKeeping cursor (0 : Int32) (1 : Int32)).bind fun u_1 =>
  some (u_1.1, u_1.2.1, u_1.2.2.1, u_1.2.2.2.1, u_1.2.2.2.2.1, u_1.2.2.2.2.2.1, u_1.2.2.2.2.2.2.1, u_1.2.2.2.2.2.2.2.1, u_1.2.2.2.2.2.2.2.2.1, u_1.2.2.2.2.2.2.2.2.2.1, u_1.2.2.2.2.2.2.2.2.2.2.1, u_1.2.2.2.2.2.2.2.2.2.2.2.1, (1 : Int32), u_1.2.2.2.2.2.2.2.2.2.2.2.2.1, u_1.2.2.2.2.2.2.2.2.2.2.2.2.2, u_1.2.2.2.2.2.2.2.2.2.2.2.1)
set_option maxRecDepth 100000 in
set_option maxHeartbeats 4000000 in
theorem c_X5_image {l : Launch} {G : Gx} {ad : Nat → Nat} {refused there used hidden kind figure good load inn tape letter letterAt told kept row costs : List Int32} {ships coughs day away taped reading statements hasImage isKeeping cursor backs free goodFor loadedWhen bareGood bareWhen rowMany lots : Int32}  {out : List Int32 × List Int32 × List Int32 × List Int32 × List Int32 × List Int32 × List Int32 × List Int32 × List Int32 × Int32 × Int32 × Int32 × Int32 × Int32 × Int32 × Int32} (hf : X5_image there used hidden kind figure good load inn kept ships coughs day hasImage isKeeping cursor = some out) : Ct l G yX5_image cX5_image 1 (some .int) 2 44 [.ref (ad 0)] (wM G ad refused there used hidden kind figure good load inn tape letter letterAt told kept row costs ships coughs day away taped reading statements hasImage isKeeping cursor backs free goodFor loadedWhen bareGood bareWhen rowMany lots) (some (.int out.2.2.2.2.2.2.2.2.2.2.2.2.2.2.2)) (wM G ad refused out.1 out.2.1 out.2.2.1 out.2.2.2.1 out.2.2.2.2.1 out.2.2.2.2.2.1 out.2.2.2.2.2.2.1 out.2.2.2.2.2.2.2.1 tape letter letterAt told out.2.2.2.2.2.2.2.2.1 row costs out.2.2.2.2.2.2.2.2.2.1 out.2.2.2.2.2.2.2.2.2.2.1 out.2.2.2.2.2.2.2.2.2.2.2.1 away taped reading statements out.2.2.2.2.2.2.2.2.2.2.2.2.1 out.2.2.2.2.2.2.2.2.2.2.2.2.2.1 out.2.2.2.2.2.2.2.2.2.2.2.2.2.2.1 backs free goodFor loadedWhen bareGood bareWhen rowMany lots) := by
  refine Ct.intro RX5 rfl (plainFor_of_name (by decide)) (Nat.le_of_ble_eq_true rfl) rfl ?_
  intro p e s m args below meth c A C H locs hs ls hl
  obtain ⟨hx, hb, hml, hown, hts, hK, hret, hlk⟩ := id C
  have hl : lv_has ls 1 [(0, .ref (ad 0))] := hl
  unfold X5_image at hf
  refine lv_aload_n hx hb (dk hX5_image_0 0 rfl) rfl (lv_at hl 0 rfl) ?_
  refine lv_iconst (v := (1 : Int32)) hx hb (dk hX5_image_0 1 rfl) (by decide) ?_
  refine rp (w1 := (wM G ad refused there used hidden kind figure good load inn tape letter letterAt told kept row costs ships coughs day away taped reading statements (1 : Int32) isKeeping cursor backs free goodFor loadedWhen bareGood bareWhen rowMany lots)) tyX5 tyX5_ok nmX5 ui5 rfl C hs 0 rfl 21 (by decide) tw_711 rfl rfl rfl rfl (Nat.le_of_ble_eq_true rfl) rfl (dk hX5_image_0 2 rfl) (fun H locs hs => ?_)
  refine lv_aload_n hx hb (dk hX5_image_0 3 rfl) rfl (lv_at hl 0 rfl) ?_
  refine lv_iconst (v := (0 : Int32)) hx hb (dk hX5_image_0 4 rfl) (by decide) ?_
  refine lv_iconst (v := (1 : Int32)) hx hb (dk hX5_image_0 5 rfl) (by decide) ?_
  obtain ⟨u_1, e_2, hf⟩ := Option.bind_eq_some_iff.mp hf
  refine Ct.V (As := [.int (0 : Int32), .int (1 : Int32)]) (rest := []) (st1 := []) (w1 := (wM G ad refused u_1.1 u_1.2.1 u_1.2.2.1 u_1.2.2.2.1 u_1.2.2.2.2.1 u_1.2.2.2.2.2.1 u_1.2.2.2.2.2.2.1 u_1.2.2.2.2.2.2.2.1 tape letter letterAt told u_1.2.2.2.2.2.2.2.2.1 row costs u_1.2.2.2.2.2.2.2.2.2.1 u_1.2.2.2.2.2.2.2.2.2.2.1 u_1.2.2.2.2.2.2.2.2.2.2.2.1 away taped reading statements (1 : Int32) u_1.2.2.2.2.2.2.2.2.2.2.2.2.1 u_1.2.2.2.2.2.2.2.2.2.2.2.2.2 backs free goodFor loadedWhen bareGood bareWhen rowMany lots)) C hs (c_X5_passesAll e_2) tw_827 tw_829 tw_26 tw_85 tw_830 nq_X5_passesAll (by decide) 0 5 rfl rfl rfl rfl hl.1 rfl (Nat.le_of_ble_eq_true rfl) (dk hX5_image_0 6 rfl) ⟨Nat.zero_le _, Nat.zero_le _⟩ rfl (fun H locs hs => ?_)
  refine lv_aload_n hx hb (dk hX5_image_0 7 rfl) rfl (lv_at hl 0 rfl) ?_
  refine rg ui5 rfl C hs 0 rfl 11 (by decide) tw_701 rfl rfl (dk hX5_image_0 8 rfl) ?_
  cases hf
  exact ri C hs (dk hX5_image_0 9 rfl)

def X5_restore (refused : List Int32) (there : List Int32) (used : List Int32) (hidden : List Int32) (kind : List Int32) (figure : List Int32) (good : List Int32) (load : List Int32) (inn : List Int32) (kept : List Int32) (ships : Int32) (coughs : Int32) (day : Int32) (hasImage : Int32) (isKeeping : Int32) (cursor : Int32) (backs : Int32) : Option (List Int32 × List Int32 × List Int32 × List Int32 × List Int32 × List Int32 × List Int32 × List Int32 × List Int32 × List Int32 × Int32 × Int32 × Int32 × Int32 × Int32 × Int32 × Int32) :=
  if hasImage = (0 : Int32) then
  (X5_no refused (-3 : Int32)).bind fun u_3 =>
  some (u_3.1, there, used, hidden, kind, figure, good, load, inn, kept, ships, coughs, day, isKeeping, cursor, backs, u_3.2)
  else
  (X5_passesAll there used hidden kind figure good load inn kept ships coughs day isKeeping cursor (0 : Int32) (0 : Int32)).bind fun u_1 =>
  some (refused, u_1.1, u_1.2.1, u_1.2.2.1, u_1.2.2.2.1, u_1.2.2.2.2.1, u_1.2.2.2.2.2.1, u_1.2.2.2.2.2.2.1, u_1.2.2.2.2.2.2.2.1, u_1.2.2.2.2.2.2.2.2.1, u_1.2.2.2.2.2.2.2.2.2.1, u_1.2.2.2.2.2.2.2.2.2.2.1, u_1.2.2.2.2.2.2.2.2.2.2.2.1, u_1.2.2.2.2.2.2.2.2.2.2.2.2.1, u_1.2.2.2.2.2.2.2.2.2.2.2.2.2, (0 : Int32), u_1.2.2.2.2.2.2.2.2.2.2.2.1)
set_option maxRecDepth 100000 in
set_option maxHeartbeats 4000000 in
theorem c_X5_restore {l : Launch} {G : Gx} {ad : Nat → Nat} {refused there used hidden kind figure good load inn tape letter letterAt told kept row costs : List Int32} {ships coughs day away taped reading statements hasImage isKeeping cursor backs free goodFor loadedWhen bareGood bareWhen rowMany lots : Int32}  {out : List Int32 × List Int32 × List Int32 × List Int32 × List Int32 × List Int32 × List Int32 × List Int32 × List Int32 × List Int32 × Int32 × Int32 × Int32 × Int32 × Int32 × Int32 × Int32} (hf : X5_restore refused there used hidden kind figure good load inn kept ships coughs day hasImage isKeeping cursor backs = some out) : Ct l G yX5_restore cX5_restore 1 (some .int) 2 44 [.ref (ad 0)] (wM G ad refused there used hidden kind figure good load inn tape letter letterAt told kept row costs ships coughs day away taped reading statements hasImage isKeeping cursor backs free goodFor loadedWhen bareGood bareWhen rowMany lots) (some (.int out.2.2.2.2.2.2.2.2.2.2.2.2.2.2.2.2)) (wM G ad out.1 out.2.1 out.2.2.1 out.2.2.2.1 out.2.2.2.2.1 out.2.2.2.2.2.1 out.2.2.2.2.2.2.1 out.2.2.2.2.2.2.2.1 out.2.2.2.2.2.2.2.2.1 tape letter letterAt told out.2.2.2.2.2.2.2.2.2.1 row costs out.2.2.2.2.2.2.2.2.2.2.1 out.2.2.2.2.2.2.2.2.2.2.2.1 out.2.2.2.2.2.2.2.2.2.2.2.2.1 away taped reading statements hasImage out.2.2.2.2.2.2.2.2.2.2.2.2.2.1 out.2.2.2.2.2.2.2.2.2.2.2.2.2.2.1 out.2.2.2.2.2.2.2.2.2.2.2.2.2.2.2.1 free goodFor loadedWhen bareGood bareWhen rowMany lots) := by
  refine Ct.intro RX5 rfl (plainFor_of_name (by decide)) (Nat.le_of_ble_eq_true rfl) rfl ?_
  intro p e s m args below meth c A C H locs hs ls hl
  obtain ⟨hx, hb, hml, hown, hts, hK, hret, hlk⟩ := id C
  have hl : lv_has ls 1 [(0, .ref (ad 0))] := hl
  unfold X5_restore at hf
  refine lv_aload_n hx hb (dk hX5_restore_0 0 rfl) rfl (lv_at hl 0 rfl) ?_
  refine rg ui5 rfl C hs 0 rfl 21 (by decide) tw_711 rfl rfl (dk hX5_restore_0 1 rfl) ?_
  refine lv_if_ne (tgt := 14) hx hb (dk hX5_restore_0 2 rfl) (by decide) (fun hc => ?_) (fun hc => ?_)
  · replace hf := in_ hf hc
    refine lv_aload_n hx hb (dk hX5_restore_0 7 rfl) rfl (lv_at hl 0 rfl) ?_
    refine lv_iconst (v := (0 : Int32)) hx hb (dk hX5_restore_0 8 rfl) (by decide) ?_
    refine lv_iconst (v := (0 : Int32)) hx hb (dk hX5_restore_0 9 rfl) (by decide) ?_
    obtain ⟨u_1, e_2, hf⟩ := Option.bind_eq_some_iff.mp hf
    refine Ct.V (As := [.int (0 : Int32), .int (0 : Int32)]) (rest := []) (st1 := []) (w1 := (wM G ad refused u_1.1 u_1.2.1 u_1.2.2.1 u_1.2.2.2.1 u_1.2.2.2.2.1 u_1.2.2.2.2.2.1 u_1.2.2.2.2.2.2.1 u_1.2.2.2.2.2.2.2.1 tape letter letterAt told u_1.2.2.2.2.2.2.2.2.1 row costs u_1.2.2.2.2.2.2.2.2.2.1 u_1.2.2.2.2.2.2.2.2.2.2.1 u_1.2.2.2.2.2.2.2.2.2.2.2.1 away taped reading statements hasImage u_1.2.2.2.2.2.2.2.2.2.2.2.2.1 u_1.2.2.2.2.2.2.2.2.2.2.2.2.2 backs free goodFor loadedWhen bareGood bareWhen rowMany lots)) C hs (c_X5_passesAll e_2) tw_827 tw_829 tw_26 tw_85 tw_830 nq_X5_passesAll (by decide) 0 5 rfl rfl rfl rfl hl.1 rfl (Nat.le_of_ble_eq_true rfl) (dk hX5_restore_0 10 rfl) ⟨Nat.zero_le _, Nat.zero_le _⟩ rfl (fun H locs hs => ?_)
    refine lv_aload_n hx hb (dk hX5_restore_0 11 rfl) rfl (lv_at hl 0 rfl) ?_
    refine lv_iconst (v := (0 : Int32)) hx hb (dk hX5_restore_0 12 rfl) (by decide) ?_
    refine rp (w1 := (wM G ad refused u_1.1 u_1.2.1 u_1.2.2.1 u_1.2.2.2.1 u_1.2.2.2.2.1 u_1.2.2.2.2.2.1 u_1.2.2.2.2.2.2.1 u_1.2.2.2.2.2.2.2.1 tape letter letterAt told u_1.2.2.2.2.2.2.2.2.1 row costs u_1.2.2.2.2.2.2.2.2.2.1 u_1.2.2.2.2.2.2.2.2.2.2.1 u_1.2.2.2.2.2.2.2.2.2.2.2.1 away taped reading statements hasImage u_1.2.2.2.2.2.2.2.2.2.2.2.2.1 u_1.2.2.2.2.2.2.2.2.2.2.2.2.2 (0 : Int32) free goodFor loadedWhen bareGood bareWhen rowMany lots)) tyX5 tyX5_ok nmX5 ui5 rfl C hs 0 rfl 24 (by decide) tw_714 rfl rfl rfl rfl (Nat.le_of_ble_eq_true rfl) rfl (dk hX5_restore_0 13 rfl) (fun H locs hs => ?_)
    refine lv_aload_n hx hb (dk hX5_restore_0 14 rfl) rfl (lv_at hl 0 rfl) ?_
    refine rg ui5 rfl C hs 0 rfl 11 (by decide) tw_701 rfl rfl (dk hX5_restore_0 15 rfl) ?_
    cases hf
    exact ri C hs (dk hX5_restore_0 16 rfl)
  · replace hf := ip hf hc
    refine lv_aload_n hx hb (dk hX5_restore_0 3 rfl) rfl (lv_at hl 0 rfl) ?_
    refine lv_bipush (v := (-3 : Int32)) hx hb (dk hX5_restore_0 4 rfl) (by decide) ?_
    obtain ⟨u_3, e_4, hf⟩ := Option.bind_eq_some_iff.mp hf
    refine Ct.V (As := [.int (-3 : Int32)]) (rest := []) (st1 := [.int u_3.2]) (w1 := (wM G ad u_3.1 there used hidden kind figure good load inn tape letter letterAt told kept row costs ships coughs day away taped reading statements hasImage isKeeping cursor backs free goodFor loadedWhen bareGood bareWhen rowMany lots)) C hs (c_X5_no e_4) tw_800 tw_802 tw_21 tw_85 tw_803 nq_X5_no (by decide) 0 5 rfl rfl rfl rfl hl.1 rfl (Nat.le_of_ble_eq_true rfl) (dk hX5_restore_0 5 rfl) ⟨Nat.zero_le _, Nat.zero_le _⟩ rfl (fun H locs hs => ?_)
    cases hf
    exact ri C hs (dk hX5_restore_0 6 rfl)

def X5_allLack_L4 (k : Int32 → Option (Int32)) (there : List Int32) (used : List Int32) (free : Int32) : Nat → Int32 → Int32 → Option (Int32)
  | 0, _, _ => none
  | n + 1, x1, x2 =>
  if (6 : Int32) ≤ x2 then
  k x1
  else
  (X5_lack there used free x2).bind fun u_1 =>
  X5_allLack_L4 k there used free n (x1 + u_1) (x2 + (1 : Int32))
def X5_allLack (there : List Int32) (used : List Int32) (free : Int32) : Option (Int32) :=
  X5_allLack_L4 (fun y1_3 =>
  some y1_3) there used free 1000 (0 : Int32) (0 : Int32)
set_option maxRecDepth 100000 in
set_option maxHeartbeats 4000000 in
theorem l_X5_allLack_L4 {l : Launch} {p : Program} {e : Env} {s : State} {m : MethodId} {args : Array Value} {below : List Frame} {meth : Method} {c : Code} {A : Nat → Prop} {G : Gx} {ad : Nat → Nat} {refused there used hidden kind figure good load inn tape letter letterAt told kept row costs : List Int32} {ships coughs day away taped reading statements hasImage isKeeping cursor backs free goodFor loadedWhen bareGood bareWhen rowMany lots : Int32} {k : Int32 → Option (Int32)} {out : Int32} (C : Cx p s m args meth c cX5_allLack RX5 3 (some .int) G) : ∀ (n : Nat) (x1 : Int32) (x2 : Int32), X5_allLack_L4 k there used free n x1 x2 = some out → ∀ (H : Heap) (locs : List Loc), St G A s.heap H locs (wM G ad refused there used hidden kind figure good load inn tape letter letterAt told kept row costs ships coughs day away taped reading statements hasImage isKeeping cursor backs free goodFor loadedWhen bareGood bareWhen rowMany lots) → ∀ ls : Array Slot, lv_has ls 3 [(0, .ref (ad 0)), (1, .int x1), (2, .int x2)] → (∀ (y1 : Int32), k y1 = some out → ∀ (H : Heap) (locs : List Loc), St G A s.heap H locs (wM G ad refused there used hidden kind figure good load inn tape letter letterAt told kept row costs ships coughs day away taped reading statements hasImage isKeeping cursor backs free goodFor loadedWhen bareGood bareWhen rowMany lots) → ∀ ls : Array Slot, lv_has ls 3 [(1, .int y1)] → W p l e (rmOf 1 21) s m args below meth c H locs 0 0 (MQ below (Qof G A (some (.int out)) (wM G ad refused there used hidden kind figure good load inn tape letter letterAt told kept row costs ships coughs day away taped reading statements hasImage isKeeping cursor backs free goodFor loadedWhen bareGood bareWhen rowMany lots)) args s 0 0 A) (F0 m 24 ls [])) → W p l e (rmOf 1 21) s m args below meth c H locs 0 0 (MQ below (Qof G A (some (.int out)) (wM G ad refused there used hidden kind figure good load inn tape letter letterAt told kept row costs ships coughs day away taped reading statements hasImage isKeeping cursor backs free goodFor loadedWhen bareGood bareWhen rowMany lots)) args s 0 0 A) (F0 m 4 ls []) := by
  obtain ⟨hx, hb, hml, hown, hts, hK, hret, hlk⟩ := id C
  intro n
  induction n with
  | zero => intro x1 x2 hf; cases hf
  | succ n ih =>
    intro x1 x2 hf H locs hs ls hl hk
    rw [X5_allLack_L4] at hf
    refine lv_iload_n hx hb (dk hX5_allLack_0 4 rfl) rfl (lv_at hl 2 rfl) ?_
    refine lv_bipush (v := (6 : Int32)) hx hb (dk hX5_allLack_0 5 rfl) (by decide) ?_
    refine lv_icmp_ge (tgt := 24) hx hb (dk hX5_allLack_0 6 rfl) (by decide) (fun hc => ?_) (fun hc => ?_)
    · replace hf := ip hf hc
      exact hk _ hf _ _ hs _ (lv_sub hl [1] rfl)
    · replace hf := in_ hf hc
      refine lv_iload_n hx hb (dk hX5_allLack_0 7 rfl) rfl (lv_at hl 1 rfl) ?_
      refine lv_aload_n hx hb (dk hX5_allLack_0 8 rfl) rfl (lv_at hl 0 rfl) ?_
      refine lv_iload_n hx hb (dk hX5_allLack_0 9 rfl) rfl (lv_at hl 2 rfl) ?_
      obtain ⟨u_1, e_2, hf⟩ := Option.bind_eq_some_iff.mp hf
      refine Ct.V (As := [.int x2]) (rest := [.int x1]) (st1 := [.int u_1, .int x1]) (w1 := (wM G ad refused there used hidden kind figure good load inn tape letter letterAt told kept row costs ships coughs day away taped reading statements hasImage isKeeping cursor backs free goodFor loadedWhen bareGood bareWhen rowMany lots)) C hs (c_X5_lack e_2) tw_888 tw_890 tw_39 tw_85 tw_891 nq_X5_lack (by decide) 0 5 rfl rfl rfl rfl hl.1 rfl (Nat.le_of_ble_eq_true rfl) (dk hX5_allLack_0 10 rfl) ⟨Nat.zero_le _, Nat.zero_le _⟩ rfl (fun H locs hs => ?_)
      refine lv_iadd hx hb (dk hX5_allLack_0 11 rfl) ?_
      refine lv_istore_n (lv' := [(1, .int (x1 + u_1)), (0, .ref (ad 0)), (2, .int x2)]) hx hb (dk hX5_allLack_0 12 rfl) rfl hl (by decide) rfl (fun ls hl => ?_)
      refine lv_iinc (v := (x2 + (1 : Int32))) (lv' := [(2, .int (x2 + (1 : Int32))), (1, .int (x1 + u_1)), (0, .ref (ad 0))]) hx hb (dk hX5_allLack_0 13 rfl) hl (k := 2) rfl (by first | rfl | decide) (by decide) rfl (fun ls hl => ?_)
      refine lv_goto (tgt := 4) hx hb (dk hX5_allLack_0 14 rfl) (by decide) ?_
      exact ih _ _ hf _ _ hs _ (lv_sub hl [2, 1, 0] rfl) hk
set_option maxRecDepth 100000 in
set_option maxHeartbeats 4000000 in
theorem c_X5_allLack {l : Launch} {G : Gx} {ad : Nat → Nat} {refused there used hidden kind figure good load inn tape letter letterAt told kept row costs : List Int32} {ships coughs day away taped reading statements hasImage isKeeping cursor backs free goodFor loadedWhen bareGood bareWhen rowMany lots : Int32}  {out : Int32} (hf : X5_allLack there used free = some out) : Ct l G yX5_allLack cX5_allLack 3 (some .int) 1 21 [.ref (ad 0)] (wM G ad refused there used hidden kind figure good load inn tape letter letterAt told kept row costs ships coughs day away taped reading statements hasImage isKeeping cursor backs free goodFor loadedWhen bareGood bareWhen rowMany lots) (some (.int out)) (wM G ad refused there used hidden kind figure good load inn tape letter letterAt told kept row costs ships coughs day away taped reading statements hasImage isKeeping cursor backs free goodFor loadedWhen bareGood bareWhen rowMany lots) := by
  refine Ct.intro RX5 rfl (plainFor_of_name (by decide)) (Nat.le_of_ble_eq_true rfl) rfl ?_
  intro p e s m args below meth c A C H locs hs ls hl
  obtain ⟨hx, hb, hml, hown, hts, hK, hret, hlk⟩ := id C
  have hl : lv_has ls 3 [(0, .ref (ad 0))] := hl
  unfold X5_allLack at hf
  refine lv_iconst (v := (0 : Int32)) hx hb (dk hX5_allLack_0 0 rfl) (by decide) ?_
  refine lv_istore_n (lv' := [(1, .int (0 : Int32)), (0, .ref (ad 0))]) hx hb (dk hX5_allLack_0 1 rfl) rfl hl (by decide) rfl (fun ls hl => ?_)
  refine lv_iconst (v := (0 : Int32)) hx hb (dk hX5_allLack_0 2 rfl) (by decide) ?_
  refine lv_istore_n (lv' := [(2, .int (0 : Int32)), (1, .int (0 : Int32)), (0, .ref (ad 0))]) hx hb (dk hX5_allLack_0 3 rfl) rfl hl (by decide) rfl (fun ls hl => ?_)
  refine l_X5_allLack_L4 C 1000 _ _ hf _ _ hs _ (lv_sub hl [2, 1, 0] rfl) (fun y1_3 hf H locs hs ls hl => ?_)
  refine lv_iload_n hx hb (dk hX5_allLack_0 15 rfl) rfl (lv_at hl 0 rfl) ?_
  cases hf
  exact ri C hs (dk hX5_allLack_0 16 rfl)

def X5_inOnes_L4 (k : Int32 → Option (Int32)) (inn : List Int32) (ships : Int32) : Nat → Int32 → Int32 → Option (Int32)
  | 0, _, _ => none
  | n + 1, x1, x2 =>
  if ships ≤ x2 then
  k x1
  else
  (rd inn x2).bind fun v_1 =>
  X5_inOnes_L4 k inn ships n (x1 ||| (v_1 <<< (x2 &&& 31))) (x2 + (1 : Int32))
def X5_inOnes (inn : List Int32) (ships : Int32) : Option (Int32) :=
  X5_inOnes_L4 (fun y1_3 =>
  some y1_3) inn ships 1000 (0 : Int32) (0 : Int32)
set_option maxRecDepth 100000 in
set_option maxHeartbeats 4000000 in
theorem l_X5_inOnes_L4 {l : Launch} {p : Program} {e : Env} {s : State} {m : MethodId} {args : Array Value} {below : List Frame} {meth : Method} {c : Code} {A : Nat → Prop} {G : Gx} {ad : Nat → Nat} {refused there used hidden kind figure good load inn tape letter letterAt told kept row costs : List Int32} {ships coughs day away taped reading statements hasImage isKeeping cursor backs free goodFor loadedWhen bareGood bareWhen rowMany lots : Int32} {k : Int32 → Option (Int32)} {out : Int32} (C : Cx p s m args meth c cX5_inOnes RX5 3 (some .int) G) : ∀ (n : Nat) (x1 : Int32) (x2 : Int32), X5_inOnes_L4 k inn ships n x1 x2 = some out → ∀ (H : Heap) (locs : List Loc), St G A s.heap H locs (wM G ad refused there used hidden kind figure good load inn tape letter letterAt told kept row costs ships coughs day away taped reading statements hasImage isKeeping cursor backs free goodFor loadedWhen bareGood bareWhen rowMany lots) → ∀ ls : Array Slot, lv_has ls 3 [(0, .ref (ad 0)), (1, .int x1), (2, .int x2)] → (∀ (y1 : Int32), k y1 = some out → ∀ (H : Heap) (locs : List Loc), St G A s.heap H locs (wM G ad refused there used hidden kind figure good load inn tape letter letterAt told kept row costs ships coughs day away taped reading statements hasImage isKeeping cursor backs free goodFor loadedWhen bareGood bareWhen rowMany lots) → ∀ ls : Array Slot, lv_has ls 3 [(1, .int y1)] → W p l e (rmOf 0 0) s m args below meth c H locs 0 0 (MQ below (Qof G A (some (.int out)) (wM G ad refused there used hidden kind figure good load inn tape letter letterAt told kept row costs ships coughs day away taped reading statements hasImage isKeeping cursor backs free goodFor loadedWhen bareGood bareWhen rowMany lots)) args s 0 0 A) (F0 m 29 ls [])) → W p l e (rmOf 0 0) s m args below meth c H locs 0 0 (MQ below (Qof G A (some (.int out)) (wM G ad refused there used hidden kind figure good load inn tape letter letterAt told kept row costs ships coughs day away taped reading statements hasImage isKeeping cursor backs free goodFor loadedWhen bareGood bareWhen rowMany lots)) args s 0 0 A) (F0 m 4 ls []) := by
  obtain ⟨hx, hb, hml, hown, hts, hK, hret, hlk⟩ := id C
  intro n
  induction n with
  | zero => intro x1 x2 hf; cases hf
  | succ n ih =>
    intro x1 x2 hf H locs hs ls hl hk
    rw [X5_inOnes_L4] at hf
    refine lv_iload_n hx hb (dk hX5_inOnes_0 4 rfl) rfl (lv_at hl 2 rfl) ?_
    refine lv_aload_n hx hb (dk hX5_inOnes_0 5 rfl) rfl (lv_at hl 0 rfl) ?_
    refine rg ui5 rfl C hs 0 rfl 9 (by decide) tw_699 rfl rfl (dk hX5_inOnes_0 6 rfl) ?_
    refine lv_icmp_ge (tgt := 29) hx hb (dk hX5_inOnes_0 7 rfl) (by decide) (fun hc => ?_) (fun hc => ?_)
    · replace hf := ip hf hc
      exact hk _ hf _ _ hs _ (lv_sub hl [1] rfl)
    · replace hf := in_ hf hc
      refine lv_iload_n hx hb (dk hX5_inOnes_0 8 rfl) rfl (lv_at hl 1 rfl) ?_
      refine lv_aload_n hx hb (dk hX5_inOnes_0 9 rfl) rfl (lv_at hl 0 rfl) ?_
      refine rg ui5 rfl C hs 0 rfl 8 (by decide) tw_698 rfl rfl (dk hX5_inOnes_0 10 rfl) ?_
      refine lv_iload_n hx hb (dk hX5_inOnes_0 11 rfl) rfl (lv_at hl 2 rfl) ?_
      obtain ⟨v_1, e_2, hf⟩ := Option.bind_eq_some_iff.mp hf
      refine rild C hs 9 rfl e_2 (dk hX5_inOnes_0 12 rfl) ?_
      refine lv_iload_n hx hb (dk hX5_inOnes_0 13 rfl) rfl (lv_at hl 2 rfl) ?_
      refine lv_ishl hx hb (dk hX5_inOnes_0 14 rfl) ?_
      refine lv_ior hx hb (dk hX5_inOnes_0 15 rfl) ?_
      refine lv_istore_n (lv' := [(1, .int (x1 ||| (v_1 <<< (x2 &&& 31)))), (0, .ref (ad 0)), (2, .int x2)]) hx hb (dk hX5_inOnes_0 16 rfl) rfl hl (by decide) rfl (fun ls hl => ?_)
      refine lv_iinc (v := (x2 + (1 : Int32))) (lv' := [(2, .int (x2 + (1 : Int32))), (1, .int (x1 ||| (v_1 <<< (x2 &&& 31)))), (0, .ref (ad 0))]) hx hb (dk hX5_inOnes_0 17 rfl) hl (k := 2) rfl (by first | rfl | decide) (by decide) rfl (fun ls hl => ?_)
      refine lv_goto (tgt := 4) hx hb (dk hX5_inOnes_0 18 rfl) (by decide) ?_
      exact ih _ _ hf _ _ hs _ (lv_sub hl [2, 1, 0] rfl) hk
set_option maxRecDepth 100000 in
set_option maxHeartbeats 4000000 in
theorem c_X5_inOnes {l : Launch} {G : Gx} {ad : Nat → Nat} {refused there used hidden kind figure good load inn tape letter letterAt told kept row costs : List Int32} {ships coughs day away taped reading statements hasImage isKeeping cursor backs free goodFor loadedWhen bareGood bareWhen rowMany lots : Int32}  {out : Int32} (hf : X5_inOnes inn ships = some out) : Ct l G yX5_inOnes cX5_inOnes 3 (some .int) 0 0 [.ref (ad 0)] (wM G ad refused there used hidden kind figure good load inn tape letter letterAt told kept row costs ships coughs day away taped reading statements hasImage isKeeping cursor backs free goodFor loadedWhen bareGood bareWhen rowMany lots) (some (.int out)) (wM G ad refused there used hidden kind figure good load inn tape letter letterAt told kept row costs ships coughs day away taped reading statements hasImage isKeeping cursor backs free goodFor loadedWhen bareGood bareWhen rowMany lots) := by
  refine Ct.intro RX5 rfl (plainFor_of_name (by decide)) (Nat.le_of_ble_eq_true rfl) rfl ?_
  intro p e s m args below meth c A C H locs hs ls hl
  obtain ⟨hx, hb, hml, hown, hts, hK, hret, hlk⟩ := id C
  have hl : lv_has ls 3 [(0, .ref (ad 0))] := hl
  unfold X5_inOnes at hf
  refine lv_iconst (v := (0 : Int32)) hx hb (dk hX5_inOnes_0 0 rfl) (by decide) ?_
  refine lv_istore_n (lv' := [(1, .int (0 : Int32)), (0, .ref (ad 0))]) hx hb (dk hX5_inOnes_0 1 rfl) rfl hl (by decide) rfl (fun ls hl => ?_)
  refine lv_iconst (v := (0 : Int32)) hx hb (dk hX5_inOnes_0 2 rfl) (by decide) ?_
  refine lv_istore_n (lv' := [(2, .int (0 : Int32)), (1, .int (0 : Int32)), (0, .ref (ad 0))]) hx hb (dk hX5_inOnes_0 3 rfl) rfl hl (by decide) rfl (fun ls hl => ?_)
  refine l_X5_inOnes_L4 C 1000 _ _ hf _ _ hs _ (lv_sub hl [2, 1, 0] rfl) (fun y1_3 hf H locs hs ls hl => ?_)
  refine lv_iload_n hx hb (dk hX5_inOnes_0 19 rfl) rfl (lv_at hl 0 rfl) ?_
  cases hf
  exact ri C hs (dk hX5_inOnes_0 20 rfl)

def X5_good (refused : List Int32) (there : List Int32) (used : List Int32) (hidden : List Int32) (free : Int32) (p0 : Int32) (p1 : Int32) : Option (List Int32 × Int32) :=
  (X5_isGood p0).bind fun u_1 =>
  if u_1 = (0 : Int32) then
  (X5_no refused (-1 : Int32)).bind fun u_17 =>
  some (u_17.1, u_17.2)
  else
  if p1 = (0 : Int32) then
  (rd there p0).bind fun v_3 =>
  some (refused, v_3)
  else
  if p1 = (1 : Int32) then
  (rd used p0).bind fun v_6 =>
  some (refused, v_6)
  else
  if p1 = (2 : Int32) then
  (rd hidden p0).bind fun v_9 =>
  some (refused, v_9)
  else
  if p1 = (3 : Int32) then
  (X5_lack there used free p0).bind fun u_12 =>
  some (refused, u_12)
  else
  (X5_no refused (-2 : Int32)).bind fun u_15 =>
  some (u_15.1, u_15.2)
set_option maxRecDepth 100000 in
set_option maxHeartbeats 4000000 in
theorem c_X5_good {l : Launch} {G : Gx} {ad : Nat → Nat} {refused there used hidden kind figure good load inn tape letter letterAt told kept row costs : List Int32} {ships coughs day away taped reading statements hasImage isKeeping cursor backs free goodFor loadedWhen bareGood bareWhen rowMany lots : Int32} {p0 : Int32} {p1 : Int32} {out : List Int32 × Int32} (hf : X5_good refused there used hidden free p0 p1 = some out) : Ct l G yX5_good cX5_good 3 (some .int) 1 21 [.ref (ad 0), .int p0, .int p1] (wM G ad refused there used hidden kind figure good load inn tape letter letterAt told kept row costs ships coughs day away taped reading statements hasImage isKeeping cursor backs free goodFor loadedWhen bareGood bareWhen rowMany lots) (some (.int out.2)) (wM G ad out.1 there used hidden kind figure good load inn tape letter letterAt told kept row costs ships coughs day away taped reading statements hasImage isKeeping cursor backs free goodFor loadedWhen bareGood bareWhen rowMany lots) := by
  refine Ct.intro RX5 rfl (plainFor_of_name (by decide)) (Nat.le_of_ble_eq_true rfl) rfl ?_
  intro p e s m args below meth c A C H locs hs ls hl
  obtain ⟨hx, hb, hml, hown, hts, hK, hret, hlk⟩ := id C
  have hl : lv_has ls 3 [(0, .ref (ad 0)), (1, .int p0), (2, .int p1)] := hl
  unfold X5_good at hf
  refine lv_iload_n hx hb (dk hX5_good_0 0 rfl) rfl (lv_at hl 1 rfl) ?_
  obtain ⟨u_1, e_2, hf⟩ := Option.bind_eq_some_iff.mp hf
  refine Ct.S (As := [.int p0]) (rest := []) (st1 := [.int u_1]) (w1 := (wM G ad refused there used hidden kind figure good load inn tape letter letterAt told kept row costs ships coughs day away taped reading statements hasImage isKeeping cursor backs free goodFor loadedWhen bareGood bareWhen rowMany lots)) C hs (c_X5_isGood e_2) tw_847 tw_848 tw_85 tw_849 nq_X5_isGood (by decide) rfl hl.1 rfl (Nat.le_of_ble_eq_true rfl) (dk hX5_good_0 1 rfl) ⟨Nat.zero_le _, Nat.zero_le _⟩ rfl (fun H locs hs => ?_)
  refine lv_if_ne (tgt := 13) hx hb (dk hX5_good_0 2 rfl) (by decide) (fun hc => ?_) (fun hc => ?_)
  · replace hf := in_ hf hc
    refine lv_iload_n hx hb (dk hX5_good_0 7 rfl) rfl (lv_at hl 2 rfl) ?_
    by_cases hc_5 : p1 = (0 : Int32)
    · replace hf := ip hf hc_5
      refine rts (tgt := 44) (off := 30) hx hb (dk hX5_good_0 8 rfl) hc_5 (by decide) (by decide) (by decide) (by decide) ?_
      refine lv_aload_n hx hb (dk hX5_good_0 9 rfl) rfl (lv_at hl 0 rfl) ?_
      refine rg ui5 rfl C hs 0 rfl 1 (by decide) tw_691 rfl rfl (dk hX5_good_0 10 rfl) ?_
      refine lv_iload_n hx hb (dk hX5_good_0 11 rfl) rfl (lv_at hl 1 rfl) ?_
      obtain ⟨v_3, e_4, hf⟩ := Option.bind_eq_some_iff.mp hf
      refine rild C hs 2 rfl e_4 (dk hX5_good_0 12 rfl) ?_
      cases hf
      exact ri C hs (dk hX5_good_0 13 rfl)
    · replace hf := in_ hf hc_5
      by_cases hc_8 : p1 = (1 : Int32)
      · replace hf := ip hf hc_8
        refine rts (tgt := 51) (off := 37) hx hb (dk hX5_good_0 8 rfl) hc_8 (by decide) (by decide) (by decide) (by decide) ?_
        refine lv_aload_n hx hb (dk hX5_good_0 14 rfl) rfl (lv_at hl 0 rfl) ?_
        refine rg ui5 rfl C hs 0 rfl 2 (by decide) tw_692 rfl rfl (dk hX5_good_0 15 rfl) ?_
        refine lv_iload_n hx hb (dk hX5_good_0 16 rfl) rfl (lv_at hl 1 rfl) ?_
        obtain ⟨v_6, e_7, hf⟩ := Option.bind_eq_some_iff.mp hf
        refine rild C hs 3 rfl e_7 (dk hX5_good_0 17 rfl) ?_
        cases hf
        exact ri C hs (dk hX5_good_0 18 rfl)
      · replace hf := in_ hf hc_8
        by_cases hc_11 : p1 = (2 : Int32)
        · replace hf := ip hf hc_11
          refine rts (tgt := 58) (off := 44) hx hb (dk hX5_good_0 8 rfl) hc_11 (by decide) (by decide) (by decide) (by decide) ?_
          refine lv_aload_n hx hb (dk hX5_good_0 19 rfl) rfl (lv_at hl 0 rfl) ?_
          refine rg ui5 rfl C hs 0 rfl 3 (by decide) tw_693 rfl rfl (dk hX5_good_0 20 rfl) ?_
          refine lv_iload_n hx hb (dk hX5_good_0 21 rfl) rfl (lv_at hl 1 rfl) ?_
          obtain ⟨v_9, e_10, hf⟩ := Option.bind_eq_some_iff.mp hf
          refine rild C hs 4 rfl e_10 (dk hX5_good_0 22 rfl) ?_
          cases hf
          exact ri C hs (dk hX5_good_0 23 rfl)
        · replace hf := in_ hf hc_11
          by_cases hc_14 : p1 = (3 : Int32)
          · replace hf := ip hf hc_14
            refine rts (tgt := 65) (off := 51) hx hb (dk hX5_good_0 8 rfl) hc_14 (by decide) (by decide) (by decide) (by decide) ?_
            refine lv_aload_n hx hb (dk hX5_good_0 24 rfl) rfl (lv_at hl 0 rfl) ?_
            refine lv_iload_n hx hb (dk hX5_good_0 25 rfl) rfl (lv_at hl 1 rfl) ?_
            obtain ⟨u_12, e_13, hf⟩ := Option.bind_eq_some_iff.mp hf
            refine Ct.V (As := [.int p0]) (rest := []) (st1 := [.int u_12]) (w1 := (wM G ad refused there used hidden kind figure good load inn tape letter letterAt told kept row costs ships coughs day away taped reading statements hasImage isKeeping cursor backs free goodFor loadedWhen bareGood bareWhen rowMany lots)) C hs (c_X5_lack e_13) tw_888 tw_890 tw_39 tw_85 tw_891 nq_X5_lack (by decide) 0 5 rfl rfl rfl rfl hl.1 rfl (Nat.le_of_ble_eq_true rfl) (dk hX5_good_0 26 rfl) ⟨Nat.zero_le _, Nat.zero_le _⟩ rfl (fun H locs hs => ?_)
            cases hf
            exact ri C hs (dk hX5_good_0 27 rfl)
          · replace hf := in_ hf hc_14
            refine rtd (tgt := 71) hx hb (dk hX5_good_0 8 rfl) [0, 1, 2, 3] (by decide) (by decide) (List.forall_mem_cons.mpr ⟨ti hc_5 (by decide), List.forall_mem_cons.mpr ⟨ti hc_8 (by decide), List.forall_mem_cons.mpr ⟨ti hc_11 (by decide), List.forall_mem_cons.mpr ⟨ti hc_14 (by decide), fun _ h => absurd h List.not_mem_nil⟩⟩⟩⟩) (by decide) ?_
            refine lv_aload_n hx hb (dk hX5_good_0 28 rfl) rfl (lv_at hl 0 rfl) ?_
            refine lv_bipush (v := (-2 : Int32)) hx hb (dk hX5_good_0 29 rfl) (by decide) ?_
            obtain ⟨u_15, e_16, hf⟩ := Option.bind_eq_some_iff.mp hf
            refine Ct.V (As := [.int (-2 : Int32)]) (rest := []) (st1 := [.int u_15.2]) (w1 := (wM G ad u_15.1 there used hidden kind figure good load inn tape letter letterAt told kept row costs ships coughs day away taped reading statements hasImage isKeeping cursor backs free goodFor loadedWhen bareGood bareWhen rowMany lots)) C hs (c_X5_no e_16) tw_800 tw_802 tw_21 tw_85 tw_803 nq_X5_no (by decide) 0 5 rfl rfl rfl rfl hl.1 rfl (Nat.le_of_ble_eq_true rfl) (dk hX5_good_0 30 rfl) ⟨Nat.zero_le _, Nat.zero_le _⟩ rfl (fun H locs hs => ?_)
            cases hf
            exact ri C hs (dk hX5_good_0 31 rfl)
  · replace hf := ip hf hc
    refine lv_aload_n hx hb (dk hX5_good_0 3 rfl) rfl (lv_at hl 0 rfl) ?_
    refine lv_iconst (v := (-1 : Int32)) hx hb (dk hX5_good_0 4 rfl) (by decide) ?_
    obtain ⟨u_17, e_18, hf⟩ := Option.bind_eq_some_iff.mp hf
    refine Ct.V (As := [.int (-1 : Int32)]) (rest := []) (st1 := [.int u_17.2]) (w1 := (wM G ad u_17.1 there used hidden kind figure good load inn tape letter letterAt told kept row costs ships coughs day away taped reading statements hasImage isKeeping cursor backs free goodFor loadedWhen bareGood bareWhen rowMany lots)) C hs (c_X5_no e_18) tw_800 tw_802 tw_21 tw_85 tw_803 nq_X5_no (by decide) 0 5 rfl rfl rfl rfl hl.1 rfl (Nat.le_of_ble_eq_true rfl) (dk hX5_good_0 5 rfl) ⟨Nat.zero_le _, Nat.zero_le _⟩ rfl (fun H locs hs => ?_)
    cases hf
    exact ri C hs (dk hX5_good_0 6 rfl)

def X5_shipOf (refused : List Int32) (there : List Int32) (used : List Int32) (hidden : List Int32) (kind : List Int32) (figure : List Int32) (good : List Int32) (load : List Int32) (inn : List Int32) (ships : Int32) (coughs : Int32) (day : Int32) (free : Int32) (p0 : Int32) (p1 : Int32) : Option (List Int32 × Int32) :=
  (X5_isShip ships p0).bind fun u_1 =>
  if u_1 = (0 : Int32) then
  (X5_no refused (-1 : Int32)).bind fun u_29 =>
  some (u_29.1, u_29.2)
  else
  if p1 = (0 : Int32) then
  (rd kind p0).bind fun v_3 =>
  some (refused, v_3)
  else
  if p1 = (1 : Int32) then
  (rd figure p0).bind fun v_6 =>
  some (refused, v_6)
  else
  if p1 = (2 : Int32) then
  (rd good p0).bind fun v_9 =>
  some (refused, v_9)
  else
  if p1 = (3 : Int32) then
  (rd load p0).bind fun v_12 =>
  some (refused, v_12)
  else
  if p1 = (4 : Int32) then
  (rd inn p0).bind fun v_15 =>
  some (refused, v_15)
  else
  if p1 = (5 : Int32) then
  (X5_draws kind figure p0).bind fun u_18 =>
  some (refused, u_18)
  else
  if p1 = (6 : Int32) then
  (X5_sinks there used hidden kind good coughs free p0).bind fun u_21 =>
  some (refused, u_21)
  else
  if p1 = (7 : Int32) then
  (X5_depth there used hidden kind good coughs day free p0).bind fun u_24 =>
  some (refused, u_24)
  else
  (X5_no refused (-2 : Int32)).bind fun u_27 =>
  some (u_27.1, u_27.2)
set_option maxRecDepth 100000 in
set_option maxHeartbeats 4000000 in
theorem c_X5_shipOf {l : Launch} {G : Gx} {ad : Nat → Nat} {refused there used hidden kind figure good load inn tape letter letterAt told kept row costs : List Int32} {ships coughs day away taped reading statements hasImage isKeeping cursor backs free goodFor loadedWhen bareGood bareWhen rowMany lots : Int32} {p0 : Int32} {p1 : Int32} {out : List Int32 × Int32} (hf : X5_shipOf refused there used hidden kind figure good load inn ships coughs day free p0 p1 = some out) : Ct l G yX5_shipOf cX5_shipOf 3 (some .int) 4 86 [.ref (ad 0), .int p0, .int p1] (wM G ad refused there used hidden kind figure good load inn tape letter letterAt told kept row costs ships coughs day away taped reading statements hasImage isKeeping cursor backs free goodFor loadedWhen bareGood bareWhen rowMany lots) (some (.int out.2)) (wM G ad out.1 there used hidden kind figure good load inn tape letter letterAt told kept row costs ships coughs day away taped reading statements hasImage isKeeping cursor backs free goodFor loadedWhen bareGood bareWhen rowMany lots) := by
  refine Ct.intro RX5 rfl (plainFor_of_name (by decide)) (Nat.le_of_ble_eq_true rfl) rfl ?_
  intro p e s m args below meth c A C H locs hs ls hl
  obtain ⟨hx, hb, hml, hown, hts, hK, hret, hlk⟩ := id C
  have hl : lv_has ls 3 [(0, .ref (ad 0)), (1, .int p0), (2, .int p1)] := hl
  unfold X5_shipOf at hf
  refine lv_aload_n hx hb (dk hX5_shipOf_0 0 rfl) rfl (lv_at hl 0 rfl) ?_
  refine lv_iload_n hx hb (dk hX5_shipOf_0 1 rfl) rfl (lv_at hl 1 rfl) ?_
  obtain ⟨u_1, e_2, hf⟩ := Option.bind_eq_some_iff.mp hf
  refine Ct.V (As := [.int p0]) (rest := []) (st1 := [.int u_1]) (w1 := (wM G ad refused there used hidden kind figure good load inn tape letter letterAt told kept row costs ships coughs day away taped reading statements hasImage isKeeping cursor backs free goodFor loadedWhen bareGood bareWhen rowMany lots)) C hs (c_X5_isShip e_2) tw_854 tw_856 tw_32 tw_85 tw_857 nq_X5_isShip (by decide) 0 5 rfl rfl rfl rfl hl.1 rfl (Nat.le_of_ble_eq_true rfl) (dk hX5_shipOf_0 2 rfl) ⟨Nat.zero_le _, Nat.zero_le _⟩ rfl (fun H locs hs => ?_)
  refine lv_if_ne (tgt := 14) hx hb (dk hX5_shipOf_0 3 rfl) (by decide) (fun hc => ?_) (fun hc => ?_)
  · replace hf := in_ hf hc
    refine lv_iload_n hx hb (dk hX5_shipOf_0 8 rfl) rfl (lv_at hl 2 rfl) ?_
    by_cases hc_5 : p1 = (0 : Int32)
    · replace hf := ip hf hc_5
      refine rts (tgt := 60) (off := 45) hx hb (dk hX5_shipOf_0 9 rfl) hc_5 (by decide) (by decide) (by decide) (by decide) ?_
      refine lv_aload_n hx hb (dk hX5_shipOf_0 10 rfl) rfl (lv_at hl 0 rfl) ?_
      refine rg ui5 rfl C hs 0 rfl 4 (by decide) tw_694 rfl rfl (dk hX5_shipOf_0 11 rfl) ?_
      refine lv_iload_n hx hb (dk hX5_shipOf_0 12 rfl) rfl (lv_at hl 1 rfl) ?_
      obtain ⟨v_3, e_4, hf⟩ := Option.bind_eq_some_iff.mp hf
      refine rild C hs 5 rfl e_4 (dk hX5_shipOf_0 13 rfl) ?_
      cases hf
      exact ri C hs (dk hX5_shipOf_0 14 rfl)
    · replace hf := in_ hf hc_5
      by_cases hc_8 : p1 = (1 : Int32)
      · replace hf := ip hf hc_8
        refine rts (tgt := 67) (off := 52) hx hb (dk hX5_shipOf_0 9 rfl) hc_8 (by decide) (by decide) (by decide) (by decide) ?_
        refine lv_aload_n hx hb (dk hX5_shipOf_0 15 rfl) rfl (lv_at hl 0 rfl) ?_
        refine rg ui5 rfl C hs 0 rfl 5 (by decide) tw_695 rfl rfl (dk hX5_shipOf_0 16 rfl) ?_
        refine lv_iload_n hx hb (dk hX5_shipOf_0 17 rfl) rfl (lv_at hl 1 rfl) ?_
        obtain ⟨v_6, e_7, hf⟩ := Option.bind_eq_some_iff.mp hf
        refine rild C hs 6 rfl e_7 (dk hX5_shipOf_0 18 rfl) ?_
        cases hf
        exact ri C hs (dk hX5_shipOf_0 19 rfl)
      · replace hf := in_ hf hc_8
        by_cases hc_11 : p1 = (2 : Int32)
        · replace hf := ip hf hc_11
          refine rts (tgt := 74) (off := 59) hx hb (dk hX5_shipOf_0 9 rfl) hc_11 (by decide) (by decide) (by decide) (by decide) ?_
          refine lv_aload_n hx hb (dk hX5_shipOf_0 20 rfl) rfl (lv_at hl 0 rfl) ?_
          refine rg ui5 rfl C hs 0 rfl 6 (by decide) tw_696 rfl rfl (dk hX5_shipOf_0 21 rfl) ?_
          refine lv_iload_n hx hb (dk hX5_shipOf_0 22 rfl) rfl (lv_at hl 1 rfl) ?_
          obtain ⟨v_9, e_10, hf⟩ := Option.bind_eq_some_iff.mp hf
          refine rild C hs 7 rfl e_10 (dk hX5_shipOf_0 23 rfl) ?_
          cases hf
          exact ri C hs (dk hX5_shipOf_0 24 rfl)
        · replace hf := in_ hf hc_11
          by_cases hc_14 : p1 = (3 : Int32)
          · replace hf := ip hf hc_14
            refine rts (tgt := 81) (off := 66) hx hb (dk hX5_shipOf_0 9 rfl) hc_14 (by decide) (by decide) (by decide) (by decide) ?_
            refine lv_aload_n hx hb (dk hX5_shipOf_0 25 rfl) rfl (lv_at hl 0 rfl) ?_
            refine rg ui5 rfl C hs 0 rfl 7 (by decide) tw_697 rfl rfl (dk hX5_shipOf_0 26 rfl) ?_
            refine lv_iload_n hx hb (dk hX5_shipOf_0 27 rfl) rfl (lv_at hl 1 rfl) ?_
            obtain ⟨v_12, e_13, hf⟩ := Option.bind_eq_some_iff.mp hf
            refine rild C hs 8 rfl e_13 (dk hX5_shipOf_0 28 rfl) ?_
            cases hf
            exact ri C hs (dk hX5_shipOf_0 29 rfl)
          · replace hf := in_ hf hc_14
            by_cases hc_17 : p1 = (4 : Int32)
            · replace hf := ip hf hc_17
              refine rts (tgt := 88) (off := 73) hx hb (dk hX5_shipOf_0 9 rfl) hc_17 (by decide) (by decide) (by decide) (by decide) ?_
              refine lv_aload_n hx hb (dk hX5_shipOf_0 30 rfl) rfl (lv_at hl 0 rfl) ?_
              refine rg ui5 rfl C hs 0 rfl 8 (by decide) tw_698 rfl rfl (dk hX5_shipOf_0 31 rfl) ?_
              refine lv_iload_n hx hb (dk hX5_shipOf_0 32 rfl) rfl (lv_at hl 1 rfl) ?_
              obtain ⟨v_15, e_16, hf⟩ := Option.bind_eq_some_iff.mp hf
              refine rild C hs 9 rfl e_16 (dk hX5_shipOf_0 33 rfl) ?_
              cases hf
              exact ri C hs (dk hX5_shipOf_0 34 rfl)
            · replace hf := in_ hf hc_17
              by_cases hc_20 : p1 = (5 : Int32)
              · replace hf := ip hf hc_20
                refine rts (tgt := 95) (off := 80) hx hb (dk hX5_shipOf_0 9 rfl) hc_20 (by decide) (by decide) (by decide) (by decide) ?_
                refine lv_aload_n hx hb (dk hX5_shipOf_0 35 rfl) rfl (lv_at hl 0 rfl) ?_
                refine lv_iload_n hx hb (dk hX5_shipOf_0 36 rfl) rfl (lv_at hl 1 rfl) ?_
                obtain ⟨u_18, e_19, hf⟩ := Option.bind_eq_some_iff.mp hf
                refine Ct.V (As := [.int p0]) (rest := []) (st1 := [.int u_18]) (w1 := (wM G ad refused there used hidden kind figure good load inn tape letter letterAt told kept row costs ships coughs day away taped reading statements hasImage isKeeping cursor backs free goodFor loadedWhen bareGood bareWhen rowMany lots)) C hs (c_X5_draws e_19) tw_900 tw_902 tw_42 tw_85 tw_903 nq_X5_draws (by decide) 0 5 rfl rfl rfl rfl hl.1 rfl (Nat.le_of_ble_eq_true rfl) (dk hX5_shipOf_0 37 rfl) ⟨Nat.zero_le _, Nat.zero_le _⟩ rfl (fun H locs hs => ?_)
                cases hf
                exact ri C hs (dk hX5_shipOf_0 38 rfl)
              · replace hf := in_ hf hc_20
                by_cases hc_23 : p1 = (6 : Int32)
                · replace hf := ip hf hc_23
                  refine rts (tgt := 101) (off := 86) hx hb (dk hX5_shipOf_0 9 rfl) hc_23 (by decide) (by decide) (by decide) (by decide) ?_
                  refine lv_aload_n hx hb (dk hX5_shipOf_0 39 rfl) rfl (lv_at hl 0 rfl) ?_
                  refine lv_iload_n hx hb (dk hX5_shipOf_1 0 rfl) rfl (lv_at hl 1 rfl) ?_
                  obtain ⟨u_21, e_22, hf⟩ := Option.bind_eq_some_iff.mp hf
                  refine Ct.V (As := [.int p0]) (rest := []) (st1 := [.int u_21]) (w1 := (wM G ad refused there used hidden kind figure good load inn tape letter letterAt told kept row costs ships coughs day away taped reading statements hasImage isKeeping cursor backs free goodFor loadedWhen bareGood bareWhen rowMany lots)) C hs (c_X5_sinks e_22) tw_884 tw_886 tw_38 tw_85 tw_887 nq_X5_sinks (by decide) 0 5 rfl rfl rfl rfl hl.1 rfl (Nat.le_of_ble_eq_true rfl) (dk hX5_shipOf_1 1 rfl) ⟨Nat.zero_le _, Nat.zero_le _⟩ rfl (fun H locs hs => ?_)
                  cases hf
                  exact ri C hs (dk hX5_shipOf_1 2 rfl)
                · replace hf := in_ hf hc_23
                  by_cases hc_26 : p1 = (7 : Int32)
                  · replace hf := ip hf hc_26
                    refine rts (tgt := 107) (off := 92) hx hb (dk hX5_shipOf_0 9 rfl) hc_26 (by decide) (by decide) (by decide) (by decide) ?_
                    refine lv_aload_n hx hb (dk hX5_shipOf_1 3 rfl) rfl (lv_at hl 0 rfl) ?_
                    refine lv_iload_n hx hb (dk hX5_shipOf_1 4 rfl) rfl (lv_at hl 1 rfl) ?_
                    obtain ⟨u_24, e_25, hf⟩ := Option.bind_eq_some_iff.mp hf
                    refine Ct.V (As := [.int p0]) (rest := []) (st1 := [.int u_24]) (w1 := (wM G ad refused there used hidden kind figure good load inn tape letter letterAt told kept row costs ships coughs day away taped reading statements hasImage isKeeping cursor backs free goodFor loadedWhen bareGood bareWhen rowMany lots)) C hs (c_X5_depth e_25) tw_877 tw_879 tw_37 tw_85 tw_880 nq_X5_depth (by decide) 0 5 rfl rfl rfl rfl hl.1 rfl (Nat.le_of_ble_eq_true rfl) (dk hX5_shipOf_1 5 rfl) ⟨Nat.zero_le _, Nat.zero_le _⟩ rfl (fun H locs hs => ?_)
                    cases hf
                    exact ri C hs (dk hX5_shipOf_1 6 rfl)
                  · replace hf := in_ hf hc_26
                    refine rtd (tgt := 113) hx hb (dk hX5_shipOf_0 9 rfl) [0, 1, 2, 3, 4, 5, 6, 7] (by decide) (by decide) (List.forall_mem_cons.mpr ⟨ti hc_5 (by decide), List.forall_mem_cons.mpr ⟨ti hc_8 (by decide), List.forall_mem_cons.mpr ⟨ti hc_11 (by decide), List.forall_mem_cons.mpr ⟨ti hc_14 (by decide), List.forall_mem_cons.mpr ⟨ti hc_17 (by decide), List.forall_mem_cons.mpr ⟨ti hc_20 (by decide), List.forall_mem_cons.mpr ⟨ti hc_23 (by decide), List.forall_mem_cons.mpr ⟨ti hc_26 (by decide), fun _ h => absurd h List.not_mem_nil⟩⟩⟩⟩⟩⟩⟩⟩) (by decide) ?_
                    refine lv_aload_n hx hb (dk hX5_shipOf_1 7 rfl) rfl (lv_at hl 0 rfl) ?_
                    refine lv_bipush (v := (-2 : Int32)) hx hb (dk hX5_shipOf_1 8 rfl) (by decide) ?_
                    obtain ⟨u_27, e_28, hf⟩ := Option.bind_eq_some_iff.mp hf
                    refine Ct.V (As := [.int (-2 : Int32)]) (rest := []) (st1 := [.int u_27.2]) (w1 := (wM G ad u_27.1 there used hidden kind figure good load inn tape letter letterAt told kept row costs ships coughs day away taped reading statements hasImage isKeeping cursor backs free goodFor loadedWhen bareGood bareWhen rowMany lots)) C hs (c_X5_no e_28) tw_800 tw_802 tw_21 tw_85 tw_803 nq_X5_no (by decide) 0 5 rfl rfl rfl rfl hl.1 rfl (Nat.le_of_ble_eq_true rfl) (dk hX5_shipOf_1 9 rfl) ⟨Nat.zero_le _, Nat.zero_le _⟩ rfl (fun H locs hs => ?_)
                    cases hf
                    exact ri C hs (dk hX5_shipOf_1 10 rfl)
  · replace hf := ip hf hc
    refine lv_aload_n hx hb (dk hX5_shipOf_0 4 rfl) rfl (lv_at hl 0 rfl) ?_
    refine lv_iconst (v := (-1 : Int32)) hx hb (dk hX5_shipOf_0 5 rfl) (by decide) ?_
    obtain ⟨u_29, e_30, hf⟩ := Option.bind_eq_some_iff.mp hf
    refine Ct.V (As := [.int (-1 : Int32)]) (rest := []) (st1 := [.int u_29.2]) (w1 := (wM G ad u_29.1 there used hidden kind figure good load inn tape letter letterAt told kept row costs ships coughs day away taped reading statements hasImage isKeeping cursor backs free goodFor loadedWhen bareGood bareWhen rowMany lots)) C hs (c_X5_no e_30) tw_800 tw_802 tw_21 tw_85 tw_803 nq_X5_no (by decide) 0 5 rfl rfl rfl rfl hl.1 rfl (Nat.le_of_ble_eq_true rfl) (dk hX5_shipOf_0 6 rfl) ⟨Nat.zero_le _, Nat.zero_le _⟩ rfl (fun H locs hs => ?_)
    cases hf
    exact ri C hs (dk hX5_shipOf_0 7 rfl)

def X5_tide (refused : List Int32) (day : Int32) (p0 : Int32) : Option (List Int32 × Int32) :=
  (X5_bound p0 (0 : Int32) (60 : Int32)).bind fun u_1 =>
  if u_1 = (0 : Int32) then
  (X5_tideOf (day + p0)).bind fun u_3 =>
  some (refused, u_3)
  else
  (X5_no refused u_1).bind fun u_5 =>
  some (u_5.1, u_5.2)
set_option maxRecDepth 100000 in
set_option maxHeartbeats 4000000 in
theorem c_X5_tide {l : Launch} {G : Gx} {ad : Nat → Nat} {refused there used hidden kind figure good load inn tape letter letterAt told kept row costs : List Int32} {ships coughs day away taped reading statements hasImage isKeeping cursor backs free goodFor loadedWhen bareGood bareWhen rowMany lots : Int32} {p0 : Int32} {out : List Int32 × Int32} (hf : X5_tide refused day p0 = some out) : Ct l G yX5_tide cX5_tide 3 (some .int) 1 22 [.ref (ad 0), .int p0] (wM G ad refused there used hidden kind figure good load inn tape letter letterAt told kept row costs ships coughs day away taped reading statements hasImage isKeeping cursor backs free goodFor loadedWhen bareGood bareWhen rowMany lots) (some (.int out.2)) (wM G ad out.1 there used hidden kind figure good load inn tape letter letterAt told kept row costs ships coughs day away taped reading statements hasImage isKeeping cursor backs free goodFor loadedWhen bareGood bareWhen rowMany lots) := by
  refine Ct.intro RX5 rfl (plainFor_of_name (by decide)) (Nat.le_of_ble_eq_true rfl) rfl ?_
  intro p e s m args below meth c A C H locs hs ls hl
  obtain ⟨hx, hb, hml, hown, hts, hK, hret, hlk⟩ := id C
  have hl : lv_has ls 3 [(0, .ref (ad 0)), (1, .int p0)] := hl
  unfold X5_tide at hf
  refine lv_iload_n hx hb (dk hX5_tide_0 0 rfl) rfl (lv_at hl 1 rfl) ?_
  refine lv_iconst (v := (0 : Int32)) hx hb (dk hX5_tide_0 1 rfl) (by decide) ?_
  refine lv_bipush (v := (60 : Int32)) hx hb (dk hX5_tide_0 2 rfl) (by decide) ?_
  obtain ⟨u_1, e_2, hf⟩ := Option.bind_eq_some_iff.mp hf
  refine Ct.S (As := [.int p0, .int (0 : Int32), .int (60 : Int32)]) (rest := []) (st1 := [.int u_1]) (w1 := (wM G ad refused there used hidden kind figure good load inn tape letter letterAt told kept row costs ships coughs day away taped reading statements hasImage isKeeping cursor backs free goodFor loadedWhen bareGood bareWhen rowMany lots)) C hs (c_X5_bound e_2) tw_797 tw_798 tw_85 tw_799 nq_X5_bound (by decide) rfl hl.1 rfl (Nat.le_of_ble_eq_true rfl) (dk hX5_tide_0 3 rfl) ⟨Nat.zero_le _, Nat.zero_le _⟩ rfl (fun H locs hs => ?_)
  refine lv_istore_n (lv' := [(2, .int u_1), (0, .ref (ad 0)), (1, .int p0)]) hx hb (dk hX5_tide_0 4 rfl) rfl hl (by decide) rfl (fun ls hl => ?_)
  refine lv_iload_n hx hb (dk hX5_tide_0 5 rfl) rfl (lv_at hl 0 rfl) ?_
  refine lv_if_eq (tgt := 20) hx hb (dk hX5_tide_0 6 rfl) (by decide) (fun hc => ?_) (fun hc => ?_)
  · replace hf := ip hf hc
    refine lv_aload_n hx hb (dk hX5_tide_0 11 rfl) rfl (lv_at hl 1 rfl) ?_
    refine rg ui5 rfl C hs 0 rfl 11 (by decide) tw_701 rfl rfl (dk hX5_tide_0 12 rfl) ?_
    refine lv_iload_n hx hb (dk hX5_tide_0 13 rfl) rfl (lv_at hl 2 rfl) ?_
    refine lv_iadd hx hb (dk hX5_tide_0 14 rfl) ?_
    obtain ⟨u_3, e_4, hf⟩ := Option.bind_eq_some_iff.mp hf
    refine Ct.S (As := [.int (day + p0)]) (rest := []) (st1 := [.int u_3]) (w1 := (wM G ad refused there used hidden kind figure good load inn tape letter letterAt told kept row costs ships coughs day away taped reading statements hasImage isKeeping cursor backs free goodFor loadedWhen bareGood bareWhen rowMany lots)) C hs (c_X5_tideOf e_4) tw_881 tw_882 tw_85 tw_883 nq_X5_tideOf (by decide) rfl hl.1 rfl (Nat.le_of_ble_eq_true rfl) (dk hX5_tide_0 15 rfl) ⟨Nat.zero_le _, Nat.zero_le _⟩ rfl (fun H locs hs => ?_)
    cases hf
    exact ri C hs (dk hX5_tide_0 16 rfl)
  · replace hf := in_ hf hc
    refine lv_aload_n hx hb (dk hX5_tide_0 7 rfl) rfl (lv_at hl 1 rfl) ?_
    refine lv_iload_n hx hb (dk hX5_tide_0 8 rfl) rfl (lv_at hl 0 rfl) ?_
    obtain ⟨u_5, e_6, hf⟩ := Option.bind_eq_some_iff.mp hf
    refine Ct.V (As := [.int u_1]) (rest := []) (st1 := [.int u_5.2]) (w1 := (wM G ad u_5.1 there used hidden kind figure good load inn tape letter letterAt told kept row costs ships coughs day away taped reading statements hasImage isKeeping cursor backs free goodFor loadedWhen bareGood bareWhen rowMany lots)) C hs (c_X5_no e_6) tw_800 tw_802 tw_21 tw_85 tw_803 nq_X5_no (by decide) 0 5 rfl rfl rfl rfl hl.1 rfl (Nat.le_of_ble_eq_true rfl) (dk hX5_tide_0 9 rfl) ⟨Nat.zero_le _, Nat.zero_le _⟩ rfl (fun H locs hs => ?_)
    refine lv_goto (tgt := 29) hx hb (dk hX5_tide_0 10 rfl) (by decide) ?_
    cases hf
    exact ri C hs (dk hX5_tide_0 16 rfl)

def X5_ship (refused : List Int32) (kind : List Int32) (figure : List Int32) (good : List Int32) (load : List Int32) (inn : List Int32) (ships : Int32) (backs : Int32) (p0 : Int32) (p1 : Int32) (p2 : Int32) (p3 : Int32) : Option (List Int32 × List Int32 × List Int32 × List Int32 × List Int32 × List Int32 × Int32 × Int32 × Int32) :=
  (X5_isIn p0 (0 : Int32) (5 : Int32)).bind fun u_1 =>
  if u_1 = (0 : Int32) then
  (X5_no refused (-2 : Int32)).bind fun u_19 =>
  some (u_19.1, kind, figure, good, load, inn, ships, backs, u_19.2)
  else
  if p1 < (0 : Int32) then
  (X5_no refused (-4 : Int32)).bind fun u_3 =>
  some (u_3.1, kind, figure, good, load, inn, ships, backs, u_3.2)
  else
  if (0 : Int32) ≤ p3 then
  if (9 : Int32) < p1 then
  (X5_no refused (-6 : Int32)).bind fun u_5 =>
  some (u_5.1, kind, figure, good, load, inn, ships, backs, u_5.2)
  else
  if (99 : Int32) < p3 then
  (X5_no refused (-6 : Int32)).bind fun u_7 =>
  some (u_7.1, kind, figure, good, load, inn, ships, backs, u_7.2)
  else
  if ships = (7 : Int32) then
  (X5_no refused (-6 : Int32)).bind fun u_15 =>
  some (u_15.1, kind, figure, good, load, inn, ships, backs, u_15.2)
  else
  (X5_isGood p2).bind fun u_9 =>
  if u_9 = (0 : Int32) then
  (X5_no refused (-1 : Int32)).bind fun u_13 =>
  some (u_13.1, kind, figure, good, load, inn, ships, backs, u_13.2)
  else
  (X5_adds kind figure good load inn ships p0 p1 p2 p3).bind fun u_11 =>
  some (refused, u_11.1, u_11.2.1, u_11.2.2.1, u_11.2.2.2.1, u_11.2.2.2.2.1, u_11.2.2.2.2.2, (0 : Int32), (u_11.2.2.2.2.2 - (1 : Int32)))
  else
  (X5_no refused (-4 : Int32)).bind fun u_17 =>
  some (u_17.1, kind, figure, good, load, inn, ships, backs, u_17.2)
set_option maxRecDepth 100000 in
set_option maxHeartbeats 4000000 in
theorem c_X5_ship {l : Launch} {G : Gx} {ad : Nat → Nat} {refused there used hidden kind figure good load inn tape letter letterAt told kept row costs : List Int32} {ships coughs day away taped reading statements hasImage isKeeping cursor backs free goodFor loadedWhen bareGood bareWhen rowMany lots : Int32} {p0 : Int32} {p1 : Int32} {p2 : Int32} {p3 : Int32} {out : List Int32 × List Int32 × List Int32 × List Int32 × List Int32 × List Int32 × Int32 × Int32 × Int32} (hf : X5_ship refused kind figure good load inn ships backs p0 p1 p2 p3 = some out) : Ct l G yX5_ship cX5_ship 6 (some .int) 1 24 [.ref (ad 0), .int p0, .int p1, .int p2, .int p3] (wM G ad refused there used hidden kind figure good load inn tape letter letterAt told kept row costs ships coughs day away taped reading statements hasImage isKeeping cursor backs free goodFor loadedWhen bareGood bareWhen rowMany lots) (some (.int out.2.2.2.2.2.2.2.2)) (wM G ad out.1 there used hidden out.2.1 out.2.2.1 out.2.2.2.1 out.2.2.2.2.1 out.2.2.2.2.2.1 tape letter letterAt told kept row costs out.2.2.2.2.2.2.1 coughs day away taped reading statements hasImage isKeeping cursor out.2.2.2.2.2.2.2.1 free goodFor loadedWhen bareGood bareWhen rowMany lots) := by
  refine Ct.intro RX5 rfl (plainFor_of_name (by decide)) (Nat.le_of_ble_eq_true rfl) rfl ?_
  intro p e s m args below meth c A C H locs hs ls hl
  obtain ⟨hx, hb, hml, hown, hts, hK, hret, hlk⟩ := id C
  have hl : lv_has ls 6 [(0, .ref (ad 0)), (1, .int p0), (2, .int p1), (3, .int p2), (4, .int p3)] := hl
  unfold X5_ship at hf
  refine lv_iload_n hx hb (dk hX5_ship_0 0 rfl) rfl (lv_at hl 1 rfl) ?_
  refine lv_iconst (v := (0 : Int32)) hx hb (dk hX5_ship_0 1 rfl) (by decide) ?_
  refine lv_iconst (v := (5 : Int32)) hx hb (dk hX5_ship_0 2 rfl) (by decide) ?_
  obtain ⟨u_1, e_2, hf⟩ := Option.bind_eq_some_iff.mp hf
  refine Ct.S (As := [.int p0, .int (0 : Int32), .int (5 : Int32)]) (rest := []) (st1 := [.int u_1]) (w1 := (wM G ad refused there used hidden kind figure good load inn tape letter letterAt told kept row costs ships coughs day away taped reading statements hasImage isKeeping cursor backs free goodFor loadedWhen bareGood bareWhen rowMany lots)) C hs (c_X5_isIn e_2) tw_824 tw_825 tw_85 tw_826 nq_X5_isIn (by decide) rfl hl.1 rfl (Nat.le_of_ble_eq_true rfl) (dk hX5_ship_0 3 rfl) ⟨Nat.zero_le _, Nat.zero_le _⟩ rfl (fun H locs hs => ?_)
  refine lv_if_ne (tgt := 14) hx hb (dk hX5_ship_0 4 rfl) (by decide) (fun hc => ?_) (fun hc => ?_)
  · replace hf := in_ hf hc
    refine lv_iload_n hx hb (dk hX5_ship_0 7 rfl) rfl (lv_at hl 2 rfl) ?_
    refine lv_if_lt (tgt := 23) hx hb (dk hX5_ship_0 8 rfl) (by decide) (fun hc => ?_) (fun hc => ?_)
    · replace hf := ip hf hc
      refine lv_bipush (v := (-4 : Int32)) hx hb (dk hX5_ship_0 11 rfl) (by decide) ?_
      refine lv_goto (tgt := 67) hx hb (dk hX5_ship_0 12 rfl) (by decide) ?_
      refine lv_istore (lv' := [(5, .int (-4 : Int32)), (0, .ref (ad 0)), (1, .int p0), (2, .int p1), (3, .int p2), (4, .int p3)]) hx hb (dk hX5_ship_0 31 rfl) hl (by decide) rfl (fun ls hl => ?_)
      refine lv_iload hx hb (dk hX5_ship_0 32 rfl) (lv_at hl 0 rfl) ?_
      refine lv_if_eq (tgt := 81) hx hb (dk hX5_ship_0 33 rfl) (by decide) (fun hc => ?_) (fun hc => ?_)
      · exact absurd hc (by decide)
      · refine lv_aload_n hx hb (dk hX5_ship_0 34 rfl) rfl (lv_at hl 1 rfl) ?_
        refine lv_iload hx hb (dk hX5_ship_0 35 rfl) (lv_at hl 0 rfl) ?_
        obtain ⟨u_3, e_4, hf⟩ := Option.bind_eq_some_iff.mp hf
        refine Ct.V (As := [.int (-4 : Int32)]) (rest := []) (st1 := [.int u_3.2]) (w1 := (wM G ad u_3.1 there used hidden kind figure good load inn tape letter letterAt told kept row costs ships coughs day away taped reading statements hasImage isKeeping cursor backs free goodFor loadedWhen bareGood bareWhen rowMany lots)) C hs (c_X5_no e_4) tw_800 tw_802 tw_21 tw_85 tw_803 nq_X5_no (by decide) 0 5 rfl rfl rfl rfl hl.1 rfl (Nat.le_of_ble_eq_true rfl) (dk hX5_ship_0 36 rfl) ⟨Nat.zero_le _, Nat.zero_le _⟩ rfl (fun H locs hs => ?_)
        cases hf
        exact ri C hs (dk hX5_ship_0 37 rfl)
    · replace hf := in_ hf hc
      refine lv_iload hx hb (dk hX5_ship_0 9 rfl) (lv_at hl 4 rfl) ?_
      refine lv_if_ge (tgt := 28) hx hb (dk hX5_ship_0 10 rfl) (by decide) (fun hc => ?_) (fun hc => ?_)
      · replace hf := ip hf hc
        refine lv_iload_n hx hb (dk hX5_ship_0 13 rfl) rfl (lv_at hl 2 rfl) ?_
        refine lv_bipush (v := (9 : Int32)) hx hb (dk hX5_ship_0 14 rfl) (by decide) ?_
        refine lv_icmp_gt (tgt := 50) hx hb (dk hX5_ship_0 15 rfl) (by decide) (fun hc => ?_) (fun hc => ?_)
        · replace hf := ip hf hc
          refine lv_bipush (v := (-6 : Int32)) hx hb (dk hX5_ship_0 23 rfl) (by decide) ?_
          refine lv_goto (tgt := 67) hx hb (dk hX5_ship_0 24 rfl) (by decide) ?_
          refine lv_istore (lv' := [(5, .int (-6 : Int32)), (0, .ref (ad 0)), (1, .int p0), (2, .int p1), (3, .int p2), (4, .int p3)]) hx hb (dk hX5_ship_0 31 rfl) hl (by decide) rfl (fun ls hl => ?_)
          refine lv_iload hx hb (dk hX5_ship_0 32 rfl) (lv_at hl 0 rfl) ?_
          refine lv_if_eq (tgt := 81) hx hb (dk hX5_ship_0 33 rfl) (by decide) (fun hc => ?_) (fun hc => ?_)
          · exact absurd hc (by decide)
          · refine lv_aload_n hx hb (dk hX5_ship_0 34 rfl) rfl (lv_at hl 1 rfl) ?_
            refine lv_iload hx hb (dk hX5_ship_0 35 rfl) (lv_at hl 0 rfl) ?_
            obtain ⟨u_5, e_6, hf⟩ := Option.bind_eq_some_iff.mp hf
            refine Ct.V (As := [.int (-6 : Int32)]) (rest := []) (st1 := [.int u_5.2]) (w1 := (wM G ad u_5.1 there used hidden kind figure good load inn tape letter letterAt told kept row costs ships coughs day away taped reading statements hasImage isKeeping cursor backs free goodFor loadedWhen bareGood bareWhen rowMany lots)) C hs (c_X5_no e_6) tw_800 tw_802 tw_21 tw_85 tw_803 nq_X5_no (by decide) 0 5 rfl rfl rfl rfl hl.1 rfl (Nat.le_of_ble_eq_true rfl) (dk hX5_ship_0 36 rfl) ⟨Nat.zero_le _, Nat.zero_le _⟩ rfl (fun H locs hs => ?_)
            cases hf
            exact ri C hs (dk hX5_ship_0 37 rfl)
        · replace hf := in_ hf hc
          refine lv_iload hx hb (dk hX5_ship_0 16 rfl) (lv_at hl 4 rfl) ?_
          refine lv_bipush (v := (99 : Int32)) hx hb (dk hX5_ship_0 17 rfl) (by decide) ?_
          refine lv_icmp_gt (tgt := 50) hx hb (dk hX5_ship_0 18 rfl) (by decide) (fun hc => ?_) (fun hc => ?_)
          · replace hf := ip hf hc
            refine lv_bipush (v := (-6 : Int32)) hx hb (dk hX5_ship_0 23 rfl) (by decide) ?_
            refine lv_goto (tgt := 67) hx hb (dk hX5_ship_0 24 rfl) (by decide) ?_
            refine lv_istore (lv' := [(5, .int (-6 : Int32)), (0, .ref (ad 0)), (1, .int p0), (2, .int p1), (3, .int p2), (4, .int p3)]) hx hb (dk hX5_ship_0 31 rfl) hl (by decide) rfl (fun ls hl => ?_)
            refine lv_iload hx hb (dk hX5_ship_0 32 rfl) (lv_at hl 0 rfl) ?_
            refine lv_if_eq (tgt := 81) hx hb (dk hX5_ship_0 33 rfl) (by decide) (fun hc => ?_) (fun hc => ?_)
            · exact absurd hc (by decide)
            · refine lv_aload_n hx hb (dk hX5_ship_0 34 rfl) rfl (lv_at hl 1 rfl) ?_
              refine lv_iload hx hb (dk hX5_ship_0 35 rfl) (lv_at hl 0 rfl) ?_
              obtain ⟨u_7, e_8, hf⟩ := Option.bind_eq_some_iff.mp hf
              refine Ct.V (As := [.int (-6 : Int32)]) (rest := []) (st1 := [.int u_7.2]) (w1 := (wM G ad u_7.1 there used hidden kind figure good load inn tape letter letterAt told kept row costs ships coughs day away taped reading statements hasImage isKeeping cursor backs free goodFor loadedWhen bareGood bareWhen rowMany lots)) C hs (c_X5_no e_8) tw_800 tw_802 tw_21 tw_85 tw_803 nq_X5_no (by decide) 0 5 rfl rfl rfl rfl hl.1 rfl (Nat.le_of_ble_eq_true rfl) (dk hX5_ship_0 36 rfl) ⟨Nat.zero_le _, Nat.zero_le _⟩ rfl (fun H locs hs => ?_)
              cases hf
              exact ri C hs (dk hX5_ship_0 37 rfl)
          · replace hf := in_ hf hc
            refine lv_aload_n hx hb (dk hX5_ship_0 19 rfl) rfl (lv_at hl 0 rfl) ?_
            refine rg ui5 rfl C hs 0 rfl 9 (by decide) tw_699 rfl rfl (dk hX5_ship_0 20 rfl) ?_
            refine lv_bipush (v := (7 : Int32)) hx hb (dk hX5_ship_0 21 rfl) (by decide) ?_
            refine lv_icmp_ne (tgt := 55) hx hb (dk hX5_ship_0 22 rfl) (by decide) (fun hc => ?_) (fun hc => ?_)
            · replace hf := in_ hf hc
              refine lv_iload_n hx hb (dk hX5_ship_0 25 rfl) rfl (lv_at hl 3 rfl) ?_
              obtain ⟨u_9, e_10, hf⟩ := Option.bind_eq_some_iff.mp hf
              refine Ct.S (As := [.int p2]) (rest := []) (st1 := [.int u_9]) (w1 := (wM G ad refused there used hidden kind figure good load inn tape letter letterAt told kept row costs ships coughs day away taped reading statements hasImage isKeeping cursor backs free goodFor loadedWhen bareGood bareWhen rowMany lots)) C hs (c_X5_isGood e_10) tw_847 tw_848 tw_85 tw_849 nq_X5_isGood (by decide) rfl hl.1 rfl (Nat.le_of_ble_eq_true rfl) (dk hX5_ship_0 26 rfl) ⟨Nat.zero_le _, Nat.zero_le _⟩ rfl (fun H locs hs => ?_)
              refine lv_if_ne (tgt := 66) hx hb (dk hX5_ship_0 27 rfl) (by decide) (fun hc => ?_) (fun hc => ?_)
              · replace hf := in_ hf hc
                refine lv_iconst (v := (0 : Int32)) hx hb (dk hX5_ship_0 30 rfl) (by decide) ?_
                refine lv_istore (lv' := [(5, .int (0 : Int32)), (0, .ref (ad 0)), (1, .int p0), (2, .int p1), (3, .int p2), (4, .int p3)]) hx hb (dk hX5_ship_0 31 rfl) hl (by decide) rfl (fun ls hl => ?_)
                refine lv_iload hx hb (dk hX5_ship_0 32 rfl) (lv_at hl 0 rfl) ?_
                refine lv_if_eq (tgt := 81) hx hb (dk hX5_ship_0 33 rfl) (by decide) (fun hc => ?_) (fun hc => ?_)
                · refine lv_aload_n hx hb (dk hX5_ship_0 38 rfl) rfl (lv_at hl 1 rfl) ?_
                  refine lv_iconst (v := (0 : Int32)) hx hb (dk hX5_ship_0 39 rfl) (by decide) ?_
                  refine rp (w1 := (wM G ad refused there used hidden kind figure good load inn tape letter letterAt told kept row costs ships coughs day away taped reading statements hasImage isKeeping cursor (0 : Int32) free goodFor loadedWhen bareGood bareWhen rowMany lots)) tyX5 tyX5_ok nmX5 ui5 rfl C hs 0 rfl 24 (by decide) tw_714 rfl rfl rfl rfl (Nat.le_of_ble_eq_true rfl) rfl (dk hX5_ship_1 0 rfl) (fun H locs hs => ?_)
                  refine lv_aload_n hx hb (dk hX5_ship_1 1 rfl) rfl (lv_at hl 1 rfl) ?_
                  refine lv_iload_n hx hb (dk hX5_ship_1 2 rfl) rfl (lv_at hl 2 rfl) ?_
                  refine lv_iload_n hx hb (dk hX5_ship_1 3 rfl) rfl (lv_at hl 3 rfl) ?_
                  refine lv_iload_n hx hb (dk hX5_ship_1 4 rfl) rfl (lv_at hl 4 rfl) ?_
                  refine lv_iload hx hb (dk hX5_ship_1 5 rfl) (lv_at hl 5 rfl) ?_
                  obtain ⟨u_11, e_12, hf⟩ := Option.bind_eq_some_iff.mp hf
                  refine Ct.V (As := [.int p0, .int p1, .int p2, .int p3]) (rest := []) (st1 := []) (w1 := (wM G ad refused there used hidden u_11.1 u_11.2.1 u_11.2.2.1 u_11.2.2.2.1 u_11.2.2.2.2.1 tape letter letterAt told kept row costs u_11.2.2.2.2.2 coughs day away taped reading statements hasImage isKeeping cursor (0 : Int32) free goodFor loadedWhen bareGood bareWhen rowMany lots)) C hs (c_X5_adds e_12) tw_850 tw_852 tw_31 tw_85 tw_853 nq_X5_adds (by decide) 0 5 rfl rfl rfl rfl hl.1 rfl (Nat.le_of_ble_eq_true rfl) (dk hX5_ship_1 6 rfl) ⟨Nat.zero_le _, Nat.zero_le _⟩ rfl (fun H locs hs => ?_)
                  refine lv_aload_n hx hb (dk hX5_ship_1 7 rfl) rfl (lv_at hl 1 rfl) ?_
                  refine rg ui5 rfl C hs 0 rfl 9 (by decide) tw_699 rfl rfl (dk hX5_ship_1 8 rfl) ?_
                  refine lv_iconst (v := (1 : Int32)) hx hb (dk hX5_ship_1 9 rfl) (by decide) ?_
                  refine lv_isub hx hb (dk hX5_ship_1 10 rfl) ?_
                  cases hf
                  exact ri C hs (dk hX5_ship_1 11 rfl)
                · exact absurd hc (by decide)
              · replace hf := ip hf hc
                refine lv_iconst (v := (-1 : Int32)) hx hb (dk hX5_ship_0 28 rfl) (by decide) ?_
                refine lv_goto (tgt := 67) hx hb (dk hX5_ship_0 29 rfl) (by decide) ?_
                refine lv_istore (lv' := [(5, .int (-1 : Int32)), (0, .ref (ad 0)), (1, .int p0), (2, .int p1), (3, .int p2), (4, .int p3)]) hx hb (dk hX5_ship_0 31 rfl) hl (by decide) rfl (fun ls hl => ?_)
                refine lv_iload hx hb (dk hX5_ship_0 32 rfl) (lv_at hl 0 rfl) ?_
                refine lv_if_eq (tgt := 81) hx hb (dk hX5_ship_0 33 rfl) (by decide) (fun hc => ?_) (fun hc => ?_)
                · exact absurd hc (by decide)
                · refine lv_aload_n hx hb (dk hX5_ship_0 34 rfl) rfl (lv_at hl 1 rfl) ?_
                  refine lv_iload hx hb (dk hX5_ship_0 35 rfl) (lv_at hl 0 rfl) ?_
                  obtain ⟨u_13, e_14, hf⟩ := Option.bind_eq_some_iff.mp hf
                  refine Ct.V (As := [.int (-1 : Int32)]) (rest := []) (st1 := [.int u_13.2]) (w1 := (wM G ad u_13.1 there used hidden kind figure good load inn tape letter letterAt told kept row costs ships coughs day away taped reading statements hasImage isKeeping cursor backs free goodFor loadedWhen bareGood bareWhen rowMany lots)) C hs (c_X5_no e_14) tw_800 tw_802 tw_21 tw_85 tw_803 nq_X5_no (by decide) 0 5 rfl rfl rfl rfl hl.1 rfl (Nat.le_of_ble_eq_true rfl) (dk hX5_ship_0 36 rfl) ⟨Nat.zero_le _, Nat.zero_le _⟩ rfl (fun H locs hs => ?_)
                  cases hf
                  exact ri C hs (dk hX5_ship_0 37 rfl)
            · replace hf := ip hf hc
              refine lv_bipush (v := (-6 : Int32)) hx hb (dk hX5_ship_0 23 rfl) (by decide) ?_
              refine lv_goto (tgt := 67) hx hb (dk hX5_ship_0 24 rfl) (by decide) ?_
              refine lv_istore (lv' := [(5, .int (-6 : Int32)), (0, .ref (ad 0)), (1, .int p0), (2, .int p1), (3, .int p2), (4, .int p3)]) hx hb (dk hX5_ship_0 31 rfl) hl (by decide) rfl (fun ls hl => ?_)
              refine lv_iload hx hb (dk hX5_ship_0 32 rfl) (lv_at hl 0 rfl) ?_
              refine lv_if_eq (tgt := 81) hx hb (dk hX5_ship_0 33 rfl) (by decide) (fun hc => ?_) (fun hc => ?_)
              · exact absurd hc (by decide)
              · refine lv_aload_n hx hb (dk hX5_ship_0 34 rfl) rfl (lv_at hl 1 rfl) ?_
                refine lv_iload hx hb (dk hX5_ship_0 35 rfl) (lv_at hl 0 rfl) ?_
                obtain ⟨u_15, e_16, hf⟩ := Option.bind_eq_some_iff.mp hf
                refine Ct.V (As := [.int (-6 : Int32)]) (rest := []) (st1 := [.int u_15.2]) (w1 := (wM G ad u_15.1 there used hidden kind figure good load inn tape letter letterAt told kept row costs ships coughs day away taped reading statements hasImage isKeeping cursor backs free goodFor loadedWhen bareGood bareWhen rowMany lots)) C hs (c_X5_no e_16) tw_800 tw_802 tw_21 tw_85 tw_803 nq_X5_no (by decide) 0 5 rfl rfl rfl rfl hl.1 rfl (Nat.le_of_ble_eq_true rfl) (dk hX5_ship_0 36 rfl) ⟨Nat.zero_le _, Nat.zero_le _⟩ rfl (fun H locs hs => ?_)
                cases hf
                exact ri C hs (dk hX5_ship_0 37 rfl)
      · replace hf := in_ hf hc
        refine lv_bipush (v := (-4 : Int32)) hx hb (dk hX5_ship_0 11 rfl) (by decide) ?_
        refine lv_goto (tgt := 67) hx hb (dk hX5_ship_0 12 rfl) (by decide) ?_
        refine lv_istore (lv' := [(5, .int (-4 : Int32)), (0, .ref (ad 0)), (1, .int p0), (2, .int p1), (3, .int p2), (4, .int p3)]) hx hb (dk hX5_ship_0 31 rfl) hl (by decide) rfl (fun ls hl => ?_)
        refine lv_iload hx hb (dk hX5_ship_0 32 rfl) (lv_at hl 0 rfl) ?_
        refine lv_if_eq (tgt := 81) hx hb (dk hX5_ship_0 33 rfl) (by decide) (fun hc => ?_) (fun hc => ?_)
        · exact absurd hc (by decide)
        · refine lv_aload_n hx hb (dk hX5_ship_0 34 rfl) rfl (lv_at hl 1 rfl) ?_
          refine lv_iload hx hb (dk hX5_ship_0 35 rfl) (lv_at hl 0 rfl) ?_
          obtain ⟨u_17, e_18, hf⟩ := Option.bind_eq_some_iff.mp hf
          refine Ct.V (As := [.int (-4 : Int32)]) (rest := []) (st1 := [.int u_17.2]) (w1 := (wM G ad u_17.1 there used hidden kind figure good load inn tape letter letterAt told kept row costs ships coughs day away taped reading statements hasImage isKeeping cursor backs free goodFor loadedWhen bareGood bareWhen rowMany lots)) C hs (c_X5_no e_18) tw_800 tw_802 tw_21 tw_85 tw_803 nq_X5_no (by decide) 0 5 rfl rfl rfl rfl hl.1 rfl (Nat.le_of_ble_eq_true rfl) (dk hX5_ship_0 36 rfl) ⟨Nat.zero_le _, Nat.zero_le _⟩ rfl (fun H locs hs => ?_)
          cases hf
          exact ri C hs (dk hX5_ship_0 37 rfl)
  · replace hf := ip hf hc
    refine lv_bipush (v := (-2 : Int32)) hx hb (dk hX5_ship_0 5 rfl) (by decide) ?_
    refine lv_goto (tgt := 67) hx hb (dk hX5_ship_0 6 rfl) (by decide) ?_
    refine lv_istore (lv' := [(5, .int (-2 : Int32)), (0, .ref (ad 0)), (1, .int p0), (2, .int p1), (3, .int p2), (4, .int p3)]) hx hb (dk hX5_ship_0 31 rfl) hl (by decide) rfl (fun ls hl => ?_)
    refine lv_iload hx hb (dk hX5_ship_0 32 rfl) (lv_at hl 0 rfl) ?_
    refine lv_if_eq (tgt := 81) hx hb (dk hX5_ship_0 33 rfl) (by decide) (fun hc => ?_) (fun hc => ?_)
    · exact absurd hc (by decide)
    · refine lv_aload_n hx hb (dk hX5_ship_0 34 rfl) rfl (lv_at hl 1 rfl) ?_
      refine lv_iload hx hb (dk hX5_ship_0 35 rfl) (lv_at hl 0 rfl) ?_
      obtain ⟨u_19, e_20, hf⟩ := Option.bind_eq_some_iff.mp hf
      refine Ct.V (As := [.int (-2 : Int32)]) (rest := []) (st1 := [.int u_19.2]) (w1 := (wM G ad u_19.1 there used hidden kind figure good load inn tape letter letterAt told kept row costs ships coughs day away taped reading statements hasImage isKeeping cursor backs free goodFor loadedWhen bareGood bareWhen rowMany lots)) C hs (c_X5_no e_20) tw_800 tw_802 tw_21 tw_85 tw_803 nq_X5_no (by decide) 0 5 rfl rfl rfl rfl hl.1 rfl (Nat.le_of_ble_eq_true rfl) (dk hX5_ship_0 36 rfl) ⟨Nat.zero_le _, Nat.zero_le _⟩ rfl (fun H locs hs => ?_)
      cases hf
      exact ri C hs (dk hX5_ship_0 37 rfl)

def X5_hides (refused : List Int32) (there : List Int32) (used : List Int32) (hidden : List Int32) (kind : List Int32) (figure : List Int32) (good : List Int32) (load : List Int32) (inn : List Int32) (kept : List Int32) (ships : Int32) (coughs : Int32) (day : Int32) (isKeeping : Int32) (cursor : Int32) (backs : Int32) (p0 : Int32) (p1 : Int32) : Option (List Int32 × List Int32 × List Int32 × List Int32 × List Int32 × List Int32 × List Int32 × List Int32 × List Int32 × List Int32 × Int32 × Int32 × Int32 × Int32 × Int32 × Int32 × Int32) :=
  (X5_isGood p0).bind fun u_1 =>
  if u_1 = (0 : Int32) then
  (X5_no refused (-1 : Int32)).bind fun u_13 =>
  some (u_13.1, there, used, hidden, kind, figure, good, load, inn, kept, ships, coughs, day, isKeeping, cursor, backs, u_13.2)
  else
  (X5_canHide there hidden p0 p1).bind fun u_3 =>
  if u_3 = (0 : Int32) then
  (X5_no refused (-3 : Int32)).bind fun u_11 =>
  some (u_11.1, there, used, hidden, kind, figure, good, load, inn, kept, ships, coughs, day, isKeeping, cursor, backs, u_11.2)
  else
  (X5_keepsBack there used hidden kind figure good load inn kept ships coughs day isKeeping cursor backs).bind fun u_5 =>
  (X5_hidesOf u_5.1 u_5.2.2.1 p0 p1).bind fun u_7 =>
  (rd u_7.1 p0).bind fun v_9 =>
  some (refused, u_7.1, u_5.2.1, u_7.2, u_5.2.2.2.1, u_5.2.2.2.2.1, u_5.2.2.2.2.2.1, u_5.2.2.2.2.2.2.1, u_5.2.2.2.2.2.2.2.1, u_5.2.2.2.2.2.2.2.2.1, u_5.2.2.2.2.2.2.2.2.2.1, u_5.2.2.2.2.2.2.2.2.2.2.1, u_5.2.2.2.2.2.2.2.2.2.2.2.1, u_5.2.2.2.2.2.2.2.2.2.2.2.2.1, u_5.2.2.2.2.2.2.2.2.2.2.2.2.2.1, u_5.2.2.2.2.2.2.2.2.2.2.2.2.2.2, v_9)
set_option maxRecDepth 100000 in
set_option maxHeartbeats 4000000 in
theorem c_X5_hides {l : Launch} {G : Gx} {ad : Nat → Nat} {refused there used hidden kind figure good load inn tape letter letterAt told kept row costs : List Int32} {ships coughs day away taped reading statements hasImage isKeeping cursor backs free goodFor loadedWhen bareGood bareWhen rowMany lots : Int32} {p0 : Int32} {p1 : Int32} {out : List Int32 × List Int32 × List Int32 × List Int32 × List Int32 × List Int32 × List Int32 × List Int32 × List Int32 × List Int32 × Int32 × Int32 × Int32 × Int32 × Int32 × Int32 × Int32} (hf : X5_hides refused there used hidden kind figure good load inn kept ships coughs day isKeeping cursor backs p0 p1 = some out) : Ct l G yX5_hides cX5_hides 4 (some .int) 3 65 [.ref (ad 0), .int p0, .int p1] (wM G ad refused there used hidden kind figure good load inn tape letter letterAt told kept row costs ships coughs day away taped reading statements hasImage isKeeping cursor backs free goodFor loadedWhen bareGood bareWhen rowMany lots) (some (.int out.2.2.2.2.2.2.2.2.2.2.2.2.2.2.2.2)) (wM G ad out.1 out.2.1 out.2.2.1 out.2.2.2.1 out.2.2.2.2.1 out.2.2.2.2.2.1 out.2.2.2.2.2.2.1 out.2.2.2.2.2.2.2.1 out.2.2.2.2.2.2.2.2.1 tape letter letterAt told out.2.2.2.2.2.2.2.2.2.1 row costs out.2.2.2.2.2.2.2.2.2.2.1 out.2.2.2.2.2.2.2.2.2.2.2.1 out.2.2.2.2.2.2.2.2.2.2.2.2.1 away taped reading statements hasImage out.2.2.2.2.2.2.2.2.2.2.2.2.2.1 out.2.2.2.2.2.2.2.2.2.2.2.2.2.2.1 out.2.2.2.2.2.2.2.2.2.2.2.2.2.2.2.1 free goodFor loadedWhen bareGood bareWhen rowMany lots) := by
  refine Ct.intro RX5 rfl (plainFor_of_name (by decide)) (Nat.le_of_ble_eq_true rfl) rfl ?_
  intro p e s m args below meth c A C H locs hs ls hl
  obtain ⟨hx, hb, hml, hown, hts, hK, hret, hlk⟩ := id C
  have hl : lv_has ls 4 [(0, .ref (ad 0)), (1, .int p0), (2, .int p1)] := hl
  unfold X5_hides at hf
  refine lv_iload_n hx hb (dk hX5_hides_0 0 rfl) rfl (lv_at hl 1 rfl) ?_
  obtain ⟨u_1, e_2, hf⟩ := Option.bind_eq_some_iff.mp hf
  refine Ct.S (As := [.int p0]) (rest := []) (st1 := [.int u_1]) (w1 := (wM G ad refused there used hidden kind figure good load inn tape letter letterAt told kept row costs ships coughs day away taped reading statements hasImage isKeeping cursor backs free goodFor loadedWhen bareGood bareWhen rowMany lots)) C hs (c_X5_isGood e_2) tw_847 tw_848 tw_85 tw_849 nq_X5_isGood (by decide) rfl hl.1 rfl (Nat.le_of_ble_eq_true rfl) (dk hX5_hides_0 1 rfl) ⟨Nat.zero_le _, Nat.zero_le _⟩ rfl (fun H locs hs => ?_)
  refine lv_if_ne (tgt := 11) hx hb (dk hX5_hides_0 2 rfl) (by decide) (fun hc => ?_) (fun hc => ?_)
  · replace hf := in_ hf hc
    refine lv_aload_n hx hb (dk hX5_hides_0 5 rfl) rfl (lv_at hl 0 rfl) ?_
    refine lv_iload_n hx hb (dk hX5_hides_0 6 rfl) rfl (lv_at hl 1 rfl) ?_
    refine lv_iload_n hx hb (dk hX5_hides_0 7 rfl) rfl (lv_at hl 2 rfl) ?_
    obtain ⟨u_3, e_4, hf⟩ := Option.bind_eq_some_iff.mp hf
    refine Ct.V (As := [.int p0, .int p1]) (rest := []) (st1 := [.int u_3]) (w1 := (wM G ad refused there used hidden kind figure good load inn tape letter letterAt told kept row costs ships coughs day away taped reading statements hasImage isKeeping cursor backs free goodFor loadedWhen bareGood bareWhen rowMany lots)) C hs (c_X5_canHide e_4) tw_923 tw_925 tw_47 tw_85 tw_926 nq_X5_canHide (by decide) 0 5 rfl rfl rfl rfl hl.1 rfl (Nat.le_of_ble_eq_true rfl) (dk hX5_hides_0 8 rfl) ⟨Nat.zero_le _, Nat.zero_le _⟩ rfl (fun H locs hs => ?_)
    refine lv_if_ne (tgt := 25) hx hb (dk hX5_hides_0 9 rfl) (by decide) (fun hc => ?_) (fun hc => ?_)
    · replace hf := in_ hf hc
      refine lv_iconst (v := (0 : Int32)) hx hb (dk hX5_hides_0 12 rfl) (by decide) ?_
      refine lv_istore_n (lv' := [(3, .int (0 : Int32)), (0, .ref (ad 0)), (1, .int p0), (2, .int p1)]) hx hb (dk hX5_hides_0 13 rfl) rfl hl (by decide) rfl (fun ls hl => ?_)
      refine lv_iload_n hx hb (dk hX5_hides_0 14 rfl) rfl (lv_at hl 0 rfl) ?_
      refine lv_if_eq (tgt := 37) hx hb (dk hX5_hides_0 15 rfl) (by decide) (fun hc => ?_) (fun hc => ?_)
      · refine lv_aload_n hx hb (dk hX5_hides_0 20 rfl) rfl (lv_at hl 1 rfl) ?_
        obtain ⟨u_5, e_6, hf⟩ := Option.bind_eq_some_iff.mp hf
        refine Ct.V (As := []) (rest := []) (st1 := []) (w1 := (wM G ad refused u_5.1 u_5.2.1 u_5.2.2.1 u_5.2.2.2.1 u_5.2.2.2.2.1 u_5.2.2.2.2.2.1 u_5.2.2.2.2.2.2.1 u_5.2.2.2.2.2.2.2.1 tape letter letterAt told u_5.2.2.2.2.2.2.2.2.1 row costs u_5.2.2.2.2.2.2.2.2.2.1 u_5.2.2.2.2.2.2.2.2.2.2.1 u_5.2.2.2.2.2.2.2.2.2.2.2.1 away taped reading statements hasImage u_5.2.2.2.2.2.2.2.2.2.2.2.2.1 u_5.2.2.2.2.2.2.2.2.2.2.2.2.2.1 u_5.2.2.2.2.2.2.2.2.2.2.2.2.2.2 free goodFor loadedWhen bareGood bareWhen rowMany lots)) C hs (c_X5_keepsBack e_6) tw_963 tw_965 tw_49 tw_85 tw_966 nq_X5_keepsBack (by decide) 0 5 rfl rfl rfl rfl hl.1 rfl (Nat.le_of_ble_eq_true rfl) (dk hX5_hides_0 21 rfl) ⟨Nat.zero_le _, Nat.zero_le _⟩ rfl (fun H locs hs => ?_)
        refine lv_aload_n hx hb (dk hX5_hides_0 22 rfl) rfl (lv_at hl 1 rfl) ?_
        refine lv_iload_n hx hb (dk hX5_hides_0 23 rfl) rfl (lv_at hl 2 rfl) ?_
        refine lv_iload_n hx hb (dk hX5_hides_0 24 rfl) rfl (lv_at hl 3 rfl) ?_
        obtain ⟨u_7, e_8, hf⟩ := Option.bind_eq_some_iff.mp hf
        refine Ct.V (As := [.int p0, .int p1]) (rest := []) (st1 := []) (w1 := (wM G ad refused u_7.1 u_5.2.1 u_7.2 u_5.2.2.2.1 u_5.2.2.2.2.1 u_5.2.2.2.2.2.1 u_5.2.2.2.2.2.2.1 u_5.2.2.2.2.2.2.2.1 tape letter letterAt told u_5.2.2.2.2.2.2.2.2.1 row costs u_5.2.2.2.2.2.2.2.2.2.1 u_5.2.2.2.2.2.2.2.2.2.2.1 u_5.2.2.2.2.2.2.2.2.2.2.2.1 away taped reading statements hasImage u_5.2.2.2.2.2.2.2.2.2.2.2.2.1 u_5.2.2.2.2.2.2.2.2.2.2.2.2.2.1 u_5.2.2.2.2.2.2.2.2.2.2.2.2.2.2 free goodFor loadedWhen bareGood bareWhen rowMany lots)) C hs (c_X5_hidesOf e_8) tw_927 tw_929 tw_48 tw_85 tw_930 nq_X5_hidesOf (by decide) 0 5 rfl rfl rfl rfl hl.1 rfl (Nat.le_of_ble_eq_true rfl) (dk hX5_hides_0 25 rfl) ⟨Nat.zero_le _, Nat.zero_le _⟩ rfl (fun H locs hs => ?_)
        refine lv_aload_n hx hb (dk hX5_hides_0 26 rfl) rfl (lv_at hl 1 rfl) ?_
        refine rg ui5 rfl C hs 0 rfl 1 (by decide) tw_691 rfl rfl (dk hX5_hides_0 27 rfl) ?_
        refine lv_iload_n hx hb (dk hX5_hides_0 28 rfl) rfl (lv_at hl 2 rfl) ?_
        obtain ⟨v_9, e_10, hf⟩ := Option.bind_eq_some_iff.mp hf
        refine rild C hs 2 rfl e_10 (dk hX5_hides_0 29 rfl) ?_
        cases hf
        exact ri C hs (dk hX5_hides_0 30 rfl)
      · exact absurd hc (by decide)
    · replace hf := ip hf hc
      refine lv_bipush (v := (-3 : Int32)) hx hb (dk hX5_hides_0 10 rfl) (by decide) ?_
      refine lv_goto (tgt := 26) hx hb (dk hX5_hides_0 11 rfl) (by decide) ?_
      refine lv_istore_n (lv' := [(3, .int (-3 : Int32)), (0, .ref (ad 0)), (1, .int p0), (2, .int p1)]) hx hb (dk hX5_hides_0 13 rfl) rfl hl (by decide) rfl (fun ls hl => ?_)
      refine lv_iload_n hx hb (dk hX5_hides_0 14 rfl) rfl (lv_at hl 0 rfl) ?_
      refine lv_if_eq (tgt := 37) hx hb (dk hX5_hides_0 15 rfl) (by decide) (fun hc => ?_) (fun hc => ?_)
      · exact absurd hc (by decide)
      · refine lv_aload_n hx hb (dk hX5_hides_0 16 rfl) rfl (lv_at hl 1 rfl) ?_
        refine lv_iload_n hx hb (dk hX5_hides_0 17 rfl) rfl (lv_at hl 0 rfl) ?_
        obtain ⟨u_11, e_12, hf⟩ := Option.bind_eq_some_iff.mp hf
        refine Ct.V (As := [.int (-3 : Int32)]) (rest := []) (st1 := [.int u_11.2]) (w1 := (wM G ad u_11.1 there used hidden kind figure good load inn tape letter letterAt told kept row costs ships coughs day away taped reading statements hasImage isKeeping cursor backs free goodFor loadedWhen bareGood bareWhen rowMany lots)) C hs (c_X5_no e_12) tw_800 tw_802 tw_21 tw_85 tw_803 nq_X5_no (by decide) 0 5 rfl rfl rfl rfl hl.1 rfl (Nat.le_of_ble_eq_true rfl) (dk hX5_hides_0 18 rfl) ⟨Nat.zero_le _, Nat.zero_le _⟩ rfl (fun H locs hs => ?_)
        cases hf
        exact ri C hs (dk hX5_hides_0 19 rfl)
  · replace hf := ip hf hc
    refine lv_iconst (v := (-1 : Int32)) hx hb (dk hX5_hides_0 3 rfl) (by decide) ?_
    refine lv_goto (tgt := 26) hx hb (dk hX5_hides_0 4 rfl) (by decide) ?_
    refine lv_istore_n (lv' := [(3, .int (-1 : Int32)), (0, .ref (ad 0)), (1, .int p0), (2, .int p1)]) hx hb (dk hX5_hides_0 13 rfl) rfl hl (by decide) rfl (fun ls hl => ?_)
    refine lv_iload_n hx hb (dk hX5_hides_0 14 rfl) rfl (lv_at hl 0 rfl) ?_
    refine lv_if_eq (tgt := 37) hx hb (dk hX5_hides_0 15 rfl) (by decide) (fun hc => ?_) (fun hc => ?_)
    · exact absurd hc (by decide)
    · refine lv_aload_n hx hb (dk hX5_hides_0 16 rfl) rfl (lv_at hl 1 rfl) ?_
      refine lv_iload_n hx hb (dk hX5_hides_0 17 rfl) rfl (lv_at hl 0 rfl) ?_
      obtain ⟨u_13, e_14, hf⟩ := Option.bind_eq_some_iff.mp hf
      refine Ct.V (As := [.int (-1 : Int32)]) (rest := []) (st1 := [.int u_13.2]) (w1 := (wM G ad u_13.1 there used hidden kind figure good load inn tape letter letterAt told kept row costs ships coughs day away taped reading statements hasImage isKeeping cursor backs free goodFor loadedWhen bareGood bareWhen rowMany lots)) C hs (c_X5_no e_14) tw_800 tw_802 tw_21 tw_85 tw_803 nq_X5_no (by decide) 0 5 rfl rfl rfl rfl hl.1 rfl (Nat.le_of_ble_eq_true rfl) (dk hX5_hides_0 18 rfl) ⟨Nat.zero_le _, Nat.zero_le _⟩ rfl (fun H locs hs => ?_)
      cases hf
      exact ri C hs (dk hX5_hides_0 19 rfl)

def X5_uses (refused : List Int32) (there : List Int32) (used : List Int32) (hidden : List Int32) (kind : List Int32) (figure : List Int32) (good : List Int32) (load : List Int32) (inn : List Int32) (kept : List Int32) (ships : Int32) (coughs : Int32) (day : Int32) (isKeeping : Int32) (cursor : Int32) (backs : Int32) (p0 : Int32) (p1 : Int32) : Option (List Int32 × List Int32 × List Int32 × List Int32 × List Int32 × List Int32 × List Int32 × List Int32 × List Int32 × List Int32 × Int32 × Int32 × Int32 × Int32 × Int32 × Int32 × Int32) :=
  (X5_isGood p0).bind fun u_1 =>
  if u_1 = (0 : Int32) then
  (X5_no refused (-1 : Int32)).bind fun u_13 =>
  some (u_13.1, there, used, hidden, kind, figure, good, load, inn, kept, ships, coughs, day, isKeeping, cursor, backs, u_13.2)
  else
  (X5_bound p1 (0 : Int32) (9 : Int32)).bind fun u_3 =>
  if u_3 = (0 : Int32) then
  (X5_keepsBack there used hidden kind figure good load inn kept ships coughs day isKeeping cursor backs).bind fun u_5 =>
  (rd u_5.2.1 p0).bind fun v_7 =>
  (wr u_5.2.1 p0 p1).bind fun used_9 =>
  some (refused, u_5.1, used_9, u_5.2.2.1, u_5.2.2.2.1, u_5.2.2.2.2.1, u_5.2.2.2.2.2.1, u_5.2.2.2.2.2.2.1, u_5.2.2.2.2.2.2.2.1, u_5.2.2.2.2.2.2.2.2.1, u_5.2.2.2.2.2.2.2.2.2.1, u_5.2.2.2.2.2.2.2.2.2.2.1, u_5.2.2.2.2.2.2.2.2.2.2.2.1, u_5.2.2.2.2.2.2.2.2.2.2.2.2.1, u_5.2.2.2.2.2.2.2.2.2.2.2.2.2.1, u_5.2.2.2.2.2.2.2.2.2.2.2.2.2.2, v_7)
  else
  (X5_no refused u_3).bind fun u_11 =>
  some (u_11.1, there, used, hidden, kind, figure, good, load, inn, kept, ships, coughs, day, isKeeping, cursor, backs, u_11.2)
set_option maxRecDepth 100000 in
set_option maxHeartbeats 4000000 in
theorem c_X5_uses {l : Launch} {G : Gx} {ad : Nat → Nat} {refused there used hidden kind figure good load inn tape letter letterAt told kept row costs : List Int32} {ships coughs day away taped reading statements hasImage isKeeping cursor backs free goodFor loadedWhen bareGood bareWhen rowMany lots : Int32} {p0 : Int32} {p1 : Int32} {out : List Int32 × List Int32 × List Int32 × List Int32 × List Int32 × List Int32 × List Int32 × List Int32 × List Int32 × List Int32 × Int32 × Int32 × Int32 × Int32 × Int32 × Int32 × Int32} (hf : X5_uses refused there used hidden kind figure good load inn kept ships coughs day isKeeping cursor backs p0 p1 = some out) : Ct l G yX5_uses cX5_uses 5 (some .int) 3 65 [.ref (ad 0), .int p0, .int p1] (wM G ad refused there used hidden kind figure good load inn tape letter letterAt told kept row costs ships coughs day away taped reading statements hasImage isKeeping cursor backs free goodFor loadedWhen bareGood bareWhen rowMany lots) (some (.int out.2.2.2.2.2.2.2.2.2.2.2.2.2.2.2.2)) (wM G ad out.1 out.2.1 out.2.2.1 out.2.2.2.1 out.2.2.2.2.1 out.2.2.2.2.2.1 out.2.2.2.2.2.2.1 out.2.2.2.2.2.2.2.1 out.2.2.2.2.2.2.2.2.1 tape letter letterAt told out.2.2.2.2.2.2.2.2.2.1 row costs out.2.2.2.2.2.2.2.2.2.2.1 out.2.2.2.2.2.2.2.2.2.2.2.1 out.2.2.2.2.2.2.2.2.2.2.2.2.1 away taped reading statements hasImage out.2.2.2.2.2.2.2.2.2.2.2.2.2.1 out.2.2.2.2.2.2.2.2.2.2.2.2.2.2.1 out.2.2.2.2.2.2.2.2.2.2.2.2.2.2.2.1 free goodFor loadedWhen bareGood bareWhen rowMany lots) := by
  refine Ct.intro RX5 rfl (plainFor_of_name (by decide)) (Nat.le_of_ble_eq_true rfl) rfl ?_
  intro p e s m args below meth c A C H locs hs ls hl
  obtain ⟨hx, hb, hml, hown, hts, hK, hret, hlk⟩ := id C
  have hl : lv_has ls 5 [(0, .ref (ad 0)), (1, .int p0), (2, .int p1)] := hl
  unfold X5_uses at hf
  refine lv_iload_n hx hb (dk hX5_uses_0 0 rfl) rfl (lv_at hl 1 rfl) ?_
  obtain ⟨u_1, e_2, hf⟩ := Option.bind_eq_some_iff.mp hf
  refine Ct.S (As := [.int p0]) (rest := []) (st1 := [.int u_1]) (w1 := (wM G ad refused there used hidden kind figure good load inn tape letter letterAt told kept row costs ships coughs day away taped reading statements hasImage isKeeping cursor backs free goodFor loadedWhen bareGood bareWhen rowMany lots)) C hs (c_X5_isGood e_2) tw_847 tw_848 tw_85 tw_849 nq_X5_isGood (by decide) rfl hl.1 rfl (Nat.le_of_ble_eq_true rfl) (dk hX5_uses_0 1 rfl) ⟨Nat.zero_le _, Nat.zero_le _⟩ rfl (fun H locs hs => ?_)
  refine lv_if_ne (tgt := 11) hx hb (dk hX5_uses_0 2 rfl) (by decide) (fun hc => ?_) (fun hc => ?_)
  · replace hf := in_ hf hc
    refine lv_iload_n hx hb (dk hX5_uses_0 5 rfl) rfl (lv_at hl 2 rfl) ?_
    refine lv_iconst (v := (0 : Int32)) hx hb (dk hX5_uses_0 6 rfl) (by decide) ?_
    refine lv_bipush (v := (9 : Int32)) hx hb (dk hX5_uses_0 7 rfl) (by decide) ?_
    obtain ⟨u_3, e_4, hf⟩ := Option.bind_eq_some_iff.mp hf
    refine Ct.S (As := [.int p1, .int (0 : Int32), .int (9 : Int32)]) (rest := []) (st1 := [.int u_3]) (w1 := (wM G ad refused there used hidden kind figure good load inn tape letter letterAt told kept row costs ships coughs day away taped reading statements hasImage isKeeping cursor backs free goodFor loadedWhen bareGood bareWhen rowMany lots)) C hs (c_X5_bound e_4) tw_797 tw_798 tw_85 tw_799 nq_X5_bound (by decide) rfl hl.1 rfl (Nat.le_of_ble_eq_true rfl) (dk hX5_uses_0 8 rfl) ⟨Nat.zero_le _, Nat.zero_le _⟩ rfl (fun H locs hs => ?_)
    refine lv_istore_n (lv' := [(3, .int u_3), (0, .ref (ad 0)), (1, .int p0), (2, .int p1)]) hx hb (dk hX5_uses_0 9 rfl) rfl hl (by decide) rfl (fun ls hl => ?_)
    refine lv_iload_n hx hb (dk hX5_uses_0 10 rfl) rfl (lv_at hl 0 rfl) ?_
    refine lv_if_eq (tgt := 29) hx hb (dk hX5_uses_0 11 rfl) (by decide) (fun hc => ?_) (fun hc => ?_)
    · replace hf := ip hf hc
      refine lv_aload_n hx hb (dk hX5_uses_0 16 rfl) rfl (lv_at hl 1 rfl) ?_
      obtain ⟨u_5, e_6, hf⟩ := Option.bind_eq_some_iff.mp hf
      refine Ct.V (As := []) (rest := []) (st1 := []) (w1 := (wM G ad refused u_5.1 u_5.2.1 u_5.2.2.1 u_5.2.2.2.1 u_5.2.2.2.2.1 u_5.2.2.2.2.2.1 u_5.2.2.2.2.2.2.1 u_5.2.2.2.2.2.2.2.1 tape letter letterAt told u_5.2.2.2.2.2.2.2.2.1 row costs u_5.2.2.2.2.2.2.2.2.2.1 u_5.2.2.2.2.2.2.2.2.2.2.1 u_5.2.2.2.2.2.2.2.2.2.2.2.1 away taped reading statements hasImage u_5.2.2.2.2.2.2.2.2.2.2.2.2.1 u_5.2.2.2.2.2.2.2.2.2.2.2.2.2.1 u_5.2.2.2.2.2.2.2.2.2.2.2.2.2.2 free goodFor loadedWhen bareGood bareWhen rowMany lots)) C hs (c_X5_keepsBack e_6) tw_963 tw_965 tw_49 tw_85 tw_966 nq_X5_keepsBack (by decide) 0 5 rfl rfl rfl rfl hl.1 rfl (Nat.le_of_ble_eq_true rfl) (dk hX5_uses_0 17 rfl) ⟨Nat.zero_le _, Nat.zero_le _⟩ rfl (fun H locs hs => ?_)
      refine lv_aload_n hx hb (dk hX5_uses_0 18 rfl) rfl (lv_at hl 1 rfl) ?_
      refine rg ui5 rfl C hs 0 rfl 2 (by decide) tw_692 rfl rfl (dk hX5_uses_0 19 rfl) ?_
      refine lv_iload_n hx hb (dk hX5_uses_0 20 rfl) rfl (lv_at hl 2 rfl) ?_
      obtain ⟨v_7, e_8, hf⟩ := Option.bind_eq_some_iff.mp hf
      refine rild C hs 3 rfl e_8 (dk hX5_uses_0 21 rfl) ?_
      refine lv_istore (lv' := [(4, .int v_7), (3, .int u_3), (0, .ref (ad 0)), (1, .int p0), (2, .int p1)]) hx hb (dk hX5_uses_0 22 rfl) hl (by decide) rfl (fun ls hl => ?_)
      refine lv_aload_n hx hb (dk hX5_uses_0 23 rfl) rfl (lv_at hl 2 rfl) ?_
      refine rg ui5 rfl C hs 0 rfl 2 (by decide) tw_692 rfl rfl (dk hX5_uses_0 24 rfl) ?_
      refine lv_iload_n hx hb (dk hX5_uses_0 25 rfl) rfl (lv_at hl 3 rfl) ?_
      refine lv_iload_n hx hb (dk hX5_uses_0 26 rfl) rfl (lv_at hl 4 rfl) ?_
      obtain ⟨used_9, e_10, hf⟩ := Option.bind_eq_some_iff.mp hf
      refine rist (w1 := (wM G ad refused u_5.1 used_9 u_5.2.2.1 u_5.2.2.2.1 u_5.2.2.2.2.1 u_5.2.2.2.2.2.1 u_5.2.2.2.2.2.2.1 u_5.2.2.2.2.2.2.2.1 tape letter letterAt told u_5.2.2.2.2.2.2.2.2.1 row costs u_5.2.2.2.2.2.2.2.2.2.1 u_5.2.2.2.2.2.2.2.2.2.2.1 u_5.2.2.2.2.2.2.2.2.2.2.2.1 away taped reading statements hasImage u_5.2.2.2.2.2.2.2.2.2.2.2.2.1 u_5.2.2.2.2.2.2.2.2.2.2.2.2.2.1 u_5.2.2.2.2.2.2.2.2.2.2.2.2.2.2 free goodFor loadedWhen bareGood bareWhen rowMany lots)) C hs 3 rfl e_10 rfl (dk hX5_uses_0 27 rfl) (fun H locs hs => ?_)
      refine lv_iload hx hb (dk hX5_uses_0 28 rfl) (lv_at hl 0 rfl) ?_
      cases hf
      exact ri C hs (dk hX5_uses_0 29 rfl)
    · replace hf := in_ hf hc
      refine lv_aload_n hx hb (dk hX5_uses_0 12 rfl) rfl (lv_at hl 1 rfl) ?_
      refine lv_iload_n hx hb (dk hX5_uses_0 13 rfl) rfl (lv_at hl 0 rfl) ?_
      obtain ⟨u_11, e_12, hf⟩ := Option.bind_eq_some_iff.mp hf
      refine Ct.V (As := [.int u_3]) (rest := []) (st1 := [.int u_11.2]) (w1 := (wM G ad u_11.1 there used hidden kind figure good load inn tape letter letterAt told kept row costs ships coughs day away taped reading statements hasImage isKeeping cursor backs free goodFor loadedWhen bareGood bareWhen rowMany lots)) C hs (c_X5_no e_12) tw_800 tw_802 tw_21 tw_85 tw_803 nq_X5_no (by decide) 0 5 rfl rfl rfl rfl hl.1 rfl (Nat.le_of_ble_eq_true rfl) (dk hX5_uses_0 14 rfl) ⟨Nat.zero_le _, Nat.zero_le _⟩ rfl (fun H locs hs => ?_)
      cases hf
      exact ri C hs (dk hX5_uses_0 15 rfl)
  · replace hf := ip hf hc
    refine lv_iconst (v := (-1 : Int32)) hx hb (dk hX5_uses_0 3 rfl) (by decide) ?_
    refine lv_goto (tgt := 18) hx hb (dk hX5_uses_0 4 rfl) (by decide) ?_
    refine lv_istore_n (lv' := [(3, .int (-1 : Int32)), (0, .ref (ad 0)), (1, .int p0), (2, .int p1)]) hx hb (dk hX5_uses_0 9 rfl) rfl hl (by decide) rfl (fun ls hl => ?_)
    refine lv_iload_n hx hb (dk hX5_uses_0 10 rfl) rfl (lv_at hl 0 rfl) ?_
    refine lv_if_eq (tgt := 29) hx hb (dk hX5_uses_0 11 rfl) (by decide) (fun hc => ?_) (fun hc => ?_)
    · exact absurd hc (by decide)
    · refine lv_aload_n hx hb (dk hX5_uses_0 12 rfl) rfl (lv_at hl 1 rfl) ?_
      refine lv_iload_n hx hb (dk hX5_uses_0 13 rfl) rfl (lv_at hl 0 rfl) ?_
      obtain ⟨u_13, e_14, hf⟩ := Option.bind_eq_some_iff.mp hf
      refine Ct.V (As := [.int (-1 : Int32)]) (rest := []) (st1 := [.int u_13.2]) (w1 := (wM G ad u_13.1 there used hidden kind figure good load inn tape letter letterAt told kept row costs ships coughs day away taped reading statements hasImage isKeeping cursor backs free goodFor loadedWhen bareGood bareWhen rowMany lots)) C hs (c_X5_no e_14) tw_800 tw_802 tw_21 tw_85 tw_803 nq_X5_no (by decide) 0 5 rfl rfl rfl rfl hl.1 rfl (Nat.le_of_ble_eq_true rfl) (dk hX5_uses_0 14 rfl) ⟨Nat.zero_le _, Nat.zero_le _⟩ rfl (fun H locs hs => ?_)
      cases hf
      exact ri C hs (dk hX5_uses_0 15 rfl)

