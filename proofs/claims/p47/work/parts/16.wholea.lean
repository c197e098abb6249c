def X4_refuse (refusals : List Int32) (p0 : Int32) : Option (List Int32 × Int32) :=
  if (-p0) ≤ (0 : Int32) then
  some (refusals, p0)
  else
  if (Int32.ofNat refusals.length) ≤ (-p0) then
  some (refusals, p0)
  else
  (rd refusals (-p0)).bind fun v_1 =>
  (wr refusals (-p0) (v_1 + (1 : Int32))).bind fun refusals_3 =>
  some (refusals_3, p0)
set_option maxRecDepth 100000 in
set_option maxHeartbeats 4000000 in
theorem c_X4_refuse {l : Launch} {G : Gx} {ad adt adb ade adm adn adk adp : Nat → Nat} {adr : Nat → Nat → Nat} {refusals tcells lcells m_there m_used m_hidden m_kind m_figure m_cargo m_load n_there n_used n_hidden n_kind n_figure n_cargo n_load k_there k_used k_hidden k_kind k_figure k_cargo k_load : List Int32} {isKept tlen llen m_ships m_inn m_coughs m_day n_ships n_inn n_coughs n_day k_ships k_inn k_coughs k_day held : Int32} {perm : Nat → Nat} {hist : Nat → Hs} {p0 : Int32} {out : List Int32 × Int32} (hf : X4_refuse refusals p0 = some out) : Ct l G yX4_refuse cX4_refuse 3 (some .int) 0 0 [.ref (ad 0), .int p0] (wT G ad adt adb ade adm adn adk adp adr refusals tcells lcells m_there m_used m_hidden m_kind m_figure m_cargo m_load n_there n_used n_hidden n_kind n_figure n_cargo n_load k_there k_used k_hidden k_kind k_figure k_cargo k_load isKept tlen llen m_ships m_inn m_coughs m_day n_ships n_inn n_coughs n_day k_ships k_inn k_coughs k_day held perm hist) (some (.int out.2)) (wT G ad adt adb ade adm adn adk adp adr out.1 tcells lcells m_there m_used m_hidden m_kind m_figure m_cargo m_load n_there n_used n_hidden n_kind n_figure n_cargo n_load k_there k_used k_hidden k_kind k_figure k_cargo k_load isKept tlen llen m_ships m_inn m_coughs m_day n_ships n_inn n_coughs n_day k_ships k_inn k_coughs k_day held perm hist) := by
  refine Ct.intro RX4 rfl (plainFor_of_name (by decide)) (Nat.le_of_ble_eq_true rfl) rfl ?_
  intro p e s m args below meth c A C H locs hs ls hl
  obtain ⟨hx, hb, hml, hown, hts, hK, hret, hlk⟩ := id C
  have hl : lv_has ls 3 [(0, .ref (ad 0)), (1, .int p0)] := hl
  unfold X4_refuse at hf
  refine lv_iload_n hx hb (dk hX4_refuse_0 0 rfl) rfl (lv_at hl 1 rfl) ?_
  refine lv_ineg hx hb (dk hX4_refuse_0 1 rfl) ?_
  refine lv_istore_n (lv' := [(2, .int (-p0)), (0, .ref (ad 0)), (1, .int p0)]) hx hb (dk hX4_refuse_0 2 rfl) rfl hl (by decide) rfl (fun ls hl => ?_)
  refine lv_iload_n hx hb (dk hX4_refuse_0 3 rfl) rfl (lv_at hl 0 rfl) ?_
  refine lv_if_le (tgt := 26) hx hb (dk hX4_refuse_0 4 rfl) (by decide) (fun hc => ?_) (fun hc => ?_)
  · replace hf := ip hf hc
    refine lv_iload_n hx hb (dk hX4_refuse_0 18 rfl) rfl (lv_at hl 2 rfl) ?_
    cases hf
    exact ri C hs (dk hX4_refuse_0 19 rfl)
  · replace hf := in_ hf hc
    refine lv_iload_n hx hb (dk hX4_refuse_0 5 rfl) rfl (lv_at hl 0 rfl) ?_
    refine lv_aload_n hx hb (dk hX4_refuse_0 6 rfl) rfl (lv_at hl 1 rfl) ?_
    refine rg ui4 rfl C hs 0 rfl 6 (by decide) tw_140 rfl rfl (dk hX4_refuse_0 7 rfl) ?_
    refine rlen C hs 1 rfl (dk hX4_refuse_0 8 rfl) ?_
    refine lv_icmp_ge (tgt := 26) hx hb (dk hX4_refuse_0 9 rfl) (by decide) (fun hc => ?_) (fun hc => ?_)
    · replace hf := ip hf hc
      refine lv_iload_n hx hb (dk hX4_refuse_0 18 rfl) rfl (lv_at hl 2 rfl) ?_
      cases hf
      exact ri C hs (dk hX4_refuse_0 19 rfl)
    · replace hf := in_ hf hc
      refine lv_aload_n hx hb (dk hX4_refuse_0 10 rfl) rfl (lv_at hl 1 rfl) ?_
      refine rg ui4 rfl C hs 0 rfl 6 (by decide) tw_140 rfl rfl (dk hX4_refuse_0 11 rfl) ?_
      refine lv_iload_n hx hb (dk hX4_refuse_0 12 rfl) rfl (lv_at hl 0 rfl) ?_
      refine lv_dup2_11 hx hb (dk hX4_refuse_0 13 rfl) rfl rfl ?_
      obtain ⟨v_1, e_2, hf⟩ := Option.bind_eq_some_iff.mp hf
      refine rild C hs 1 rfl e_2 (dk hX4_refuse_0 14 rfl) ?_
      refine lv_iconst (v := (1 : Int32)) hx hb (dk hX4_refuse_0 15 rfl) (by decide) ?_
      refine lv_iadd hx hb (dk hX4_refuse_0 16 rfl) ?_
      obtain ⟨refusals_3, e_4, hf⟩ := Option.bind_eq_some_iff.mp hf
      refine rist (w1 := (wT G ad adt adb ade adm adn adk adp adr refusals_3 tcells lcells m_there m_used m_hidden m_kind m_figure m_cargo m_load n_there n_used n_hidden n_kind n_figure n_cargo n_load k_there k_used k_hidden k_kind k_figure k_cargo k_load isKept tlen llen m_ships m_inn m_coughs m_day n_ships n_inn n_coughs n_day k_ships k_inn k_coughs k_day held perm hist)) C hs 1 rfl e_4 rfl (dk hX4_refuse_0 17 rfl) (fun H locs hs => ?_)
      refine lv_iload_n hx hb (dk hX4_refuse_0 18 rfl) rfl (lv_at hl 2 rfl) ?_
      cases hf
      exact ri C hs (dk hX4_refuse_0 19 rfl)

def X4_feed (refusals : List Int32) (lcells : List Int32) (llen : Int32) (p0 : Int32) : Option (List Int32 × List Int32 × Int32 × Int32) :=
  if (0 : Int32) ≤ p0 then
  if (255 : Int32) < p0 then
  (X4_refuse refusals (-6 : Int32)).bind fun u_1 =>
  some (u_1.1, lcells, llen, u_1.2)
  else
  (X1_isFull lcells llen).bind fun u_3 =>
  if u_3 = (0 : Int32) then
  (X1_add lcells llen p0).bind fun u_5 =>
  (X1_length u_5.2).bind fun u_7 =>
  some (refusals, u_5.1, u_5.2, u_7)
  else
  (X4_refuse refusals (-6 : Int32)).bind fun u_9 =>
  some (u_9.1, lcells, llen, u_9.2)
  else
  (X4_refuse refusals (-4 : Int32)).bind fun u_11 =>
  some (u_11.1, lcells, llen, u_11.2)
set_option maxRecDepth 100000 in
set_option maxHeartbeats 4000000 in
theorem c_X4_feed {l : Launch} {G : Gx} {ad adt adb ade adm adn adk adp : Nat → Nat} {adr : Nat → Nat → Nat} {refusals tcells lcells m_there m_used m_hidden m_kind m_figure m_cargo m_load n_there n_used n_hidden n_kind n_figure n_cargo n_load k_there k_used k_hidden k_kind k_figure k_cargo k_load : List Int32} {isKept tlen llen m_ships m_inn m_coughs m_day n_ships n_inn n_coughs n_day k_ships k_inn k_coughs k_day held : Int32} {perm : Nat → Nat} {hist : Nat → Hs} {p0 : Int32} {out : List Int32 × List Int32 × Int32 × Int32} (hf : X4_feed refusals lcells llen p0 = some out) : Ct l G yX4_feed cX4_feed 2 (some .int) 1 22 [.ref (ad 0), .int p0] (wT G ad adt adb ade adm adn adk adp adr refusals tcells lcells m_there m_used m_hidden m_kind m_figure m_cargo m_load n_there n_used n_hidden n_kind n_figure n_cargo n_load k_there k_used k_hidden k_kind k_figure k_cargo k_load isKept tlen llen m_ships m_inn m_coughs m_day n_ships n_inn n_coughs n_day k_ships k_inn k_coughs k_day held perm hist) (some (.int out.2.2.2)) (wT G ad adt adb ade adm adn adk adp adr out.1 tcells out.2.1 m_there m_used m_hidden m_kind m_figure m_cargo m_load n_there n_used n_hidden n_kind n_figure n_cargo n_load k_there k_used k_hidden k_kind k_figure k_cargo k_load isKept tlen out.2.2.1 m_ships m_inn m_coughs m_day n_ships n_inn n_coughs n_day k_ships k_inn k_coughs k_day held perm hist) := by
  refine Ct.intro RX4 rfl (plainFor_of_name (by decide)) (Nat.le_of_ble_eq_true rfl) rfl ?_
  intro p e s m args below meth c A C H locs hs ls hl
  obtain ⟨hx, hb, hml, hown, hts, hK, hret, hlk⟩ := id C
  have hl : lv_has ls 2 [(0, .ref (ad 0)), (1, .int p0)] := hl
  unfold X4_feed at hf
  refine lv_iload_n hx hb (dk hX4_feed_0 0 rfl) rfl (lv_at hl 1 rfl) ?_
  refine lv_if_ge (tgt := 11) hx hb (dk hX4_feed_0 1 rfl) (by decide) (fun hc => ?_) (fun hc => ?_)
  · replace hf := ip hf hc
    refine lv_iload_n hx hb (dk hX4_feed_0 6 rfl) rfl (lv_at hl 1 rfl) ?_
    refine lv_sipush (v := (255 : Int32)) hx hb (dk hX4_feed_0 7 rfl) (by decide) ?_
    refine lv_icmp_gt (tgt := 31) hx hb (dk hX4_feed_0 8 rfl) (by decide) (fun hc => ?_) (fun hc => ?_)
    · replace hf := ip hf hc
      refine lv_aload_n hx hb (dk hX4_feed_0 14 rfl) rfl (lv_at hl 0 rfl) ?_
      refine lv_bipush (v := (-6 : Int32)) hx hb (dk hX4_feed_0 15 rfl) (by decide) ?_
      obtain ⟨u_1, e_2, hf⟩ := Option.bind_eq_some_iff.mp hf
      refine Ct.V (As := [.int (-6 : Int32)]) (rest := []) (st1 := [.int u_1.2]) (w1 := (wT G ad adt adb ade adm adn adk adp adr u_1.1 tcells lcells m_there m_used m_hidden m_kind m_figure m_cargo m_load n_there n_used n_hidden n_kind n_figure n_cargo n_load k_there k_used k_hidden k_kind k_figure k_cargo k_load isKept tlen llen m_ships m_inn m_coughs m_day n_ships n_inn n_coughs n_day k_ships k_inn k_coughs k_day held perm hist)) C hs (c_X4_refuse e_2) tw_166 tw_168 tw_0 tw_17 tw_169 nq_X4_refuse (by decide) 0 4 rfl rfl rfl rfl hl.1 rfl (Nat.le_of_ble_eq_true rfl) (dk hX4_feed_0 16 rfl) ⟨Nat.zero_le _, Nat.zero_le _⟩ rfl (fun H locs hs => ?_)
      cases hf
      exact ri C hs (dk hX4_feed_0 17 rfl)
    · replace hf := in_ hf hc
      refine lv_aload_n hx hb (dk hX4_feed_0 9 rfl) rfl (lv_at hl 0 rfl) ?_
      refine rg ui4 rfl C hs 0 rfl 4 (by decide) tw_138 rfl rfl (dk hX4_feed_0 10 rfl) ?_
      refine rg ui3 rfl C hs 4 rfl 0 (by decide) tw_128 rfl rfl (dk hX4_feed_0 11 rfl) ?_
      obtain ⟨u_3, e_4, hf⟩ := Option.bind_eq_some_iff.mp hf
      refine Ct.V (As := []) (rest := []) (st1 := [.int u_3]) (w1 := (wT G ad adt adb ade adm adn adk adp adr refusals tcells lcells m_there m_used m_hidden m_kind m_figure m_cargo m_load n_there n_used n_hidden n_kind n_figure n_cargo n_load k_there k_used k_hidden k_kind k_figure k_cargo k_load isKept tlen llen m_ships m_inn m_coughs m_day n_ships n_inn n_coughs n_day k_ships k_inn k_coughs k_day held perm hist)) C hs (c_X1_isFull__letters e_4) tw_463 tw_464 tw_465 tw_21 tw_466 nq_X1_isFull (by decide) 5 1 rfl rfl rfl rfl hl.1 rfl (Nat.le_of_ble_eq_true rfl) (dk hX4_feed_0 12 rfl) ⟨Nat.zero_le _, Nat.zero_le _⟩ rfl (fun H locs hs => ?_)
      refine lv_if_eq (tgt := 38) hx hb (dk hX4_feed_0 13 rfl) (by decide) (fun hc => ?_) (fun hc => ?_)
      · replace hf := ip hf hc
        refine lv_aload_n hx hb (dk hX4_feed_0 18 rfl) rfl (lv_at hl 0 rfl) ?_
        refine rg ui4 rfl C hs 0 rfl 4 (by decide) tw_138 rfl rfl (dk hX4_feed_0 19 rfl) ?_
        refine rg ui3 rfl C hs 4 rfl 0 (by decide) tw_128 rfl rfl (dk hX4_feed_0 20 rfl) ?_
        refine lv_iload_n hx hb (dk hX4_feed_0 21 rfl) rfl (lv_at hl 1 rfl) ?_
        obtain ⟨u_5, e_6, hf⟩ := Option.bind_eq_some_iff.mp hf
        refine Ct.V (As := [.int p0]) (rest := []) (st1 := []) (w1 := (wT G ad adt adb ade adm adn adk adp adr refusals tcells u_5.1 m_there m_used m_hidden m_kind m_figure m_cargo m_load n_there n_used n_hidden n_kind n_figure n_cargo n_load k_there k_used k_hidden k_kind k_figure k_cargo k_load isKept tlen u_5.2 m_ships m_inn m_coughs m_day n_ships n_inn n_coughs n_day k_ships k_inn k_coughs k_day held perm hist)) C hs (c_X1_add__letters e_6) tw_467 tw_468 tw_469 tw_21 tw_470 nq_X1_add (by decide) 5 1 rfl rfl rfl rfl hl.1 rfl (Nat.le_of_ble_eq_true rfl) (dk hX4_feed_0 22 rfl) ⟨Nat.zero_le _, Nat.zero_le _⟩ rfl (fun H locs hs => ?_)
        refine lv_aload_n hx hb (dk hX4_feed_0 23 rfl) rfl (lv_at hl 0 rfl) ?_
        refine rg ui4 rfl C hs 0 rfl 4 (by decide) tw_138 rfl rfl (dk hX4_feed_0 24 rfl) ?_
        refine rg ui3 rfl C hs 4 rfl 0 (by decide) tw_128 rfl rfl (dk hX4_feed_0 25 rfl) ?_
        obtain ⟨u_7, e_8, hf⟩ := Option.bind_eq_some_iff.mp hf
        refine Ct.V (As := []) (rest := []) (st1 := [.int u_7]) (w1 := (wT G ad adt adb ade adm adn adk adp adr refusals tcells u_5.1 m_there m_used m_hidden m_kind m_figure m_cargo m_load n_there n_used n_hidden n_kind n_figure n_cargo n_load k_there k_used k_hidden k_kind k_figure k_cargo k_load isKept tlen u_5.2 m_ships m_inn m_coughs m_day n_ships n_inn n_coughs n_day k_ships k_inn k_coughs k_day held perm hist)) C hs (c_X1_length__letters e_8) tw_442 tw_443 tw_444 tw_21 tw_445 nq_X1_length (by decide) 5 1 rfl rfl rfl rfl hl.1 rfl (Nat.le_of_ble_eq_true rfl) (dk hX4_feed_0 26 rfl) ⟨Nat.zero_le _, Nat.zero_le _⟩ rfl (fun H locs hs => ?_)
        cases hf
        exact ri C hs (dk hX4_feed_0 27 rfl)
      · replace hf := in_ hf hc
        refine lv_aload_n hx hb (dk hX4_feed_0 14 rfl) rfl (lv_at hl 0 rfl) ?_
        refine lv_bipush (v := (-6 : Int32)) hx hb (dk hX4_feed_0 15 rfl) (by decide) ?_
        obtain ⟨u_9, e_10, hf⟩ := Option.bind_eq_some_iff.mp hf
        refine Ct.V (As := [.int (-6 : Int32)]) (rest := []) (st1 := [.int u_9.2]) (w1 := (wT G ad adt adb ade adm adn adk adp adr u_9.1 tcells lcells m_there m_used m_hidden m_kind m_figure m_cargo m_load n_there n_used n_hidden n_kind n_figure n_cargo n_load k_there k_used k_hidden k_kind k_figure k_cargo k_load isKept tlen llen m_ships m_inn m_coughs m_day n_ships n_inn n_coughs n_day k_ships k_inn k_coughs k_day held perm hist)) C hs (c_X4_refuse e_10) tw_166 tw_168 tw_0 tw_17 tw_169 nq_X4_refuse (by decide) 0 4 rfl rfl rfl rfl hl.1 rfl (Nat.le_of_ble_eq_true rfl) (dk hX4_feed_0 16 rfl) ⟨Nat.zero_le _, Nat.zero_le _⟩ rfl (fun H locs hs => ?_)
        cases hf
        exact ri C hs (dk hX4_feed_0 17 rfl)
  · replace hf := in_ hf hc
    refine lv_aload_n hx hb (dk hX4_feed_0 2 rfl) rfl (lv_at hl 0 rfl) ?_
    refine lv_bipush (v := (-4 : Int32)) hx hb (dk hX4_feed_0 3 rfl) (by decide) ?_
    obtain ⟨u_11, e_12, hf⟩ := Option.bind_eq_some_iff.mp hf
    refine Ct.V (As := [.int (-4 : Int32)]) (rest := []) (st1 := [.int u_11.2]) (w1 := (wT G ad adt adb ade adm adn adk adp adr u_11.1 tcells lcells m_there m_used m_hidden m_kind m_figure m_cargo m_load n_there n_used n_hidden n_kind n_figure n_cargo n_load k_there k_used k_hidden k_kind k_figure k_cargo k_load isKept tlen llen m_ships m_inn m_coughs m_day n_ships n_inn n_coughs n_day k_ships k_inn k_coughs k_day held perm hist)) C hs (c_X4_refuse e_12) tw_166 tw_168 tw_0 tw_17 tw_169 nq_X4_refuse (by decide) 0 4 rfl rfl rfl rfl hl.1 rfl (Nat.le_of_ble_eq_true rfl) (dk hX4_feed_0 4 rfl) ⟨Nat.zero_le _, Nat.zero_le _⟩ rfl (fun H locs hs => ?_)
    cases hf
    exact ri C hs (dk hX4_feed_0 5 rfl)

def X4_fromNow (m_there : List Int32) (m_used : List Int32) (m_hidden : List Int32) (m_kind : List Int32) (m_figure : List Int32) (m_cargo : List Int32) (m_load : List Int32) (n_there : List Int32) (n_used : List Int32) (n_hidden : List Int32) (n_kind : List Int32) (n_figure : List Int32) (n_cargo : List Int32) (n_load : List Int32) (m_ships : Int32) (m_inn : Int32) (m_coughs : Int32) (m_day : Int32) (n_ships : Int32) (n_inn : Int32) (n_coughs : Int32) (n_day : Int32) : Option (List Int32 × List Int32 × List Int32 × List Int32 × List Int32 × List Int32 × List Int32 × Int32 × Int32 × Int32 × Int32) :=
  (X0_copyFrom m_there m_used m_hidden m_kind m_figure m_cargo m_load n_there n_used n_hidden n_kind n_figure n_cargo n_load m_ships m_inn m_coughs m_day n_ships n_inn n_coughs n_day).bind fun u_1 =>
  some (u_1.1, u_1.2.1, u_1.2.2.1, u_1.2.2.2.1, u_1.2.2.2.2.1, u_1.2.2.2.2.2.1, u_1.2.2.2.2.2.2.1, u_1.2.2.2.2.2.2.2.1, u_1.2.2.2.2.2.2.2.2.1, u_1.2.2.2.2.2.2.2.2.2.1, u_1.2.2.2.2.2.2.2.2.2.2)
set_option maxRecDepth 100000 in
set_option maxHeartbeats 4000000 in
theorem c_X4_fromNow {l : Launch} {G : Gx} {ad adt adb ade adm adn adk adp : Nat → Nat} {adr : Nat → Nat → Nat} {refusals tcells lcells m_there m_used m_hidden m_kind m_figure m_cargo m_load n_there n_used n_hidden n_kind n_figure n_cargo n_load k_there k_used k_hidden k_kind k_figure k_cargo k_load : List Int32} {isKept tlen llen m_ships m_inn m_coughs m_day n_ships n_inn n_coughs n_day k_ships k_inn k_coughs k_day held : Int32} {perm : Nat → Nat} {hist : Nat → Hs}  {out : List Int32 × List Int32 × List Int32 × List Int32 × List Int32 × List Int32 × List Int32 × Int32 × Int32 × Int32 × Int32} (hf : X4_fromNow m_there m_used m_hidden m_kind m_figure m_cargo m_load n_there n_used n_hidden n_kind n_figure n_cargo n_load m_ships m_inn m_coughs m_day n_ships n_inn n_coughs n_day = some out) : Ct l G yX4_fromNow cX4_fromNow 1 (some (.object "TakesWhatItLacks$Harbour")) 1 22 [.ref (ad 0)] (wT G ad adt adb ade adm adn adk adp adr refusals tcells lcells m_there m_used m_hidden m_kind m_figure m_cargo m_load n_there n_used n_hidden n_kind n_figure n_cargo n_load k_there k_used k_hidden k_kind k_figure k_cargo k_load isKept tlen llen m_ships m_inn m_coughs m_day n_ships n_inn n_coughs n_day k_ships k_inn k_coughs k_day held perm hist) (some (.ref (adm 0))) (wT G ad adt adb ade adm adn adk adp adr refusals tcells lcells out.1 out.2.1 out.2.2.1 out.2.2.2.1 out.2.2.2.2.1 out.2.2.2.2.2.1 out.2.2.2.2.2.2.1 n_there n_used n_hidden n_kind n_figure n_cargo n_load k_there k_used k_hidden k_kind k_figure k_cargo k_load isKept tlen llen out.2.2.2.2.2.2.2.1 out.2.2.2.2.2.2.2.2.1 out.2.2.2.2.2.2.2.2.2.1 out.2.2.2.2.2.2.2.2.2.2 n_ships n_inn n_coughs n_day k_ships k_inn k_coughs k_day held perm hist) := by
  refine Ct.intro RX4 rfl (plainFor_of_name (by decide)) (Nat.le_of_ble_eq_true rfl) rfl ?_
  intro p e s m args below meth c A C H locs hs ls hl
  obtain ⟨hx, hb, hml, hown, hts, hK, hret, hlk⟩ := id C
  have hl : lv_has ls 1 [(0, .ref (ad 0))] := hl
  unfold X4_fromNow at hf
  refine lv_aload_n hx hb (dk hX4_fromNow_0 0 rfl) rfl (lv_at hl 0 rfl) ?_
  refine rg ui4 rfl C hs 0 rfl 1 (by decide) tw_135 rfl rfl (dk hX4_fromNow_0 1 rfl) ?_
  refine lv_aload_n hx hb (dk hX4_fromNow_0 2 rfl) rfl (lv_at hl 0 rfl) ?_
  refine rg ui4 rfl C hs 0 rfl 0 (by decide) tw_134 rfl rfl (dk hX4_fromNow_0 3 rfl) ?_
  obtain ⟨u_1, e_2, hf⟩ := Option.bind_eq_some_iff.mp hf
  refine Ct.V (As := [.ref (adn 0)]) (rest := []) (st1 := []) (w1 := (wT G ad adt adb ade adm adn adk adp adr refusals tcells lcells u_1.1 u_1.2.1 u_1.2.2.1 u_1.2.2.2.1 u_1.2.2.2.2.1 u_1.2.2.2.2.2.1 u_1.2.2.2.2.2.2.1 n_there n_used n_hidden n_kind n_figure n_cargo n_load k_there k_used k_hidden k_kind k_figure k_cargo k_load isKept tlen llen u_1.2.2.2.2.2.2.2.1 u_1.2.2.2.2.2.2.2.2.1 u_1.2.2.2.2.2.2.2.2.2.1 u_1.2.2.2.2.2.2.2.2.2.2 n_ships n_inn n_coughs n_day k_ships k_inn k_coughs k_day held perm hist)) C hs (c_X0_copyFrom__mn e_2) tw_316 tw_249 tw_250 tw_18 tw_251 nq_X0_copyFrom (by decide) 7 0 rfl rfl rfl rfl hl.1 rfl (Nat.le_of_ble_eq_true rfl) (dk hX4_fromNow_0 4 rfl) ⟨Nat.zero_le _, Nat.zero_le _⟩ rfl (fun H locs hs => ?_)
  refine lv_aload_n hx hb (dk hX4_fromNow_0 5 rfl) rfl (lv_at hl 0 rfl) ?_
  refine rg ui4 rfl C hs 0 rfl 1 (by decide) tw_135 rfl rfl (dk hX4_fromNow_0 6 rfl) ?_
  cases hf
  exact ra C hs (dk hX4_fromNow_0 7 rfl)

def X4_harbour (lcells : List Int32) (m_there : List Int32) (m_used : List Int32) (m_hidden : List Int32) (m_kind : List Int32) (m_figure : List Int32) (m_cargo : List Int32) (m_load : List Int32) (n_there : List Int32) (n_used : List Int32) (n_hidden : List Int32) (n_kind : List Int32) (n_figure : List Int32) (n_cargo : List Int32) (n_load : List Int32) (llen : Int32) (m_ships : Int32) (m_inn : Int32) (m_coughs : Int32) (m_day : Int32) (n_ships : Int32) (n_inn : Int32) (n_coughs : Int32) (n_day : Int32) (held : Int32) : Option (List Int32 × List Int32 × List Int32 × List Int32 × List Int32 × List Int32 × List Int32 × List Int32 × List Int32 × List Int32 × List Int32 × List Int32 × List Int32 × List Int32 × Int32 × Int32 × Int32 × Int32 × Int32 × Int32 × Int32 × Int32 × Int32 × Int32 × Int32) :=
  (X4_fromNow m_there m_used m_hidden m_kind m_figure m_cargo m_load n_there n_used n_hidden n_kind n_figure n_cargo n_load m_ships m_inn m_coughs m_day n_ships n_inn n_coughs n_day).bind fun u_1 =>
  (X3_tell lcells u_1.1 u_1.2.1 u_1.2.2.1 u_1.2.2.2.1 u_1.2.2.2.2.1 u_1.2.2.2.2.2.1 u_1.2.2.2.2.2.2.1 llen u_1.2.2.2.2.2.2.2.1 u_1.2.2.2.2.2.2.2.2.1 u_1.2.2.2.2.2.2.2.2.2.1 u_1.2.2.2.2.2.2.2.2.2.2).bind fun u_3 =>
  (X1_drop llen).bind fun u_5 =>
  if u_3.2.2.2.2.2.2.2.2.2.2.2 < (0 : Int32) then
  some (u_3.1, u_3.2.1, u_3.2.2.1, u_3.2.2.2.1, u_3.2.2.2.2.1, u_3.2.2.2.2.2.1, u_3.2.2.2.2.2.2.1, n_there, n_used, n_hidden, n_kind, n_figure, n_cargo, n_load, u_5, u_3.2.2.2.2.2.2.2.1, u_3.2.2.2.2.2.2.2.2.1, u_3.2.2.2.2.2.2.2.2.2.1, u_3.2.2.2.2.2.2.2.2.2.2.1, n_ships, n_inn, n_coughs, n_day, held, u_3.2.2.2.2.2.2.2.2.2.2.2)
  else
  (X0_copyFrom n_there n_used n_hidden n_kind n_figure n_cargo n_load u_3.1 u_3.2.1 u_3.2.2.1 u_3.2.2.2.1 u_3.2.2.2.2.1 u_3.2.2.2.2.2.1 u_3.2.2.2.2.2.2.1 n_ships n_inn n_coughs n_day u_3.2.2.2.2.2.2.2.1 u_3.2.2.2.2.2.2.2.2.1 u_3.2.2.2.2.2.2.2.2.2.1 u_3.2.2.2.2.2.2.2.2.2.2.1).bind fun u_7 =>
  (X2_drop held).bind fun u_9 =>
  some (u_3.1, u_3.2.1, u_3.2.2.1, u_3.2.2.2.1, u_3.2.2.2.2.1, u_3.2.2.2.2.2.1, u_3.2.2.2.2.2.2.1, u_7.1, u_7.2.1, u_7.2.2.1, u_7.2.2.2.1, u_7.2.2.2.2.1, u_7.2.2.2.2.2.1, u_7.2.2.2.2.2.2.1, u_5, u_3.2.2.2.2.2.2.2.1, u_3.2.2.2.2.2.2.2.2.1, u_3.2.2.2.2.2.2.2.2.2.1, u_3.2.2.2.2.2.2.2.2.2.2.1, u_7.2.2.2.2.2.2.2.1, u_7.2.2.2.2.2.2.2.2.1, u_7.2.2.2.2.2.2.2.2.2.1, u_7.2.2.2.2.2.2.2.2.2.2, u_9, u_3.2.2.2.2.2.2.2.2.2.2.2)
set_option maxRecDepth 100000 in
set_option maxHeartbeats 4000000 in
theorem c_X4_harbour {l : Launch} {G : Gx} {ad adt adb ade adm adn adk adp : Nat → Nat} {adr : Nat → Nat → Nat} {refusals tcells lcells m_there m_used m_hidden m_kind m_figure m_cargo m_load n_there n_used n_hidden n_kind n_figure n_cargo n_load k_there k_used k_hidden k_kind k_figure k_cargo k_load : List Int32} {isKept tlen llen m_ships m_inn m_coughs m_day n_ships n_inn n_coughs n_day k_ships k_inn k_coughs k_day held : Int32} {perm : Nat → Nat} {hist : Nat → Hs}  {out : List Int32 × List Int32 × List Int32 × List Int32 × List Int32 × List Int32 × List Int32 × List Int32 × List Int32 × List Int32 × List Int32 × List Int32 × List Int32 × List Int32 × Int32 × Int32 × Int32 × Int32 × Int32 × Int32 × Int32 × Int32 × Int32 × Int32 × Int32} (hf : X4_harbour lcells m_there m_used m_hidden m_kind m_figure m_cargo m_load n_there n_used n_hidden n_kind n_figure n_cargo n_load llen m_ships m_inn m_coughs m_day n_ships n_inn n_coughs n_day held = some out) : Ct l G yX4_harbour cX4_harbour 2 (some .int) 7 158 [.ref (ad 0)] (wT G ad adt adb ade adm adn adk adp adr refusals tcells lcells m_there m_used m_hidden m_kind m_figure m_cargo m_load n_there n_used n_hidden n_kind n_figure n_cargo n_load k_there k_used k_hidden k_kind k_figure k_cargo k_load isKept tlen llen m_ships m_inn m_coughs m_day n_ships n_inn n_coughs n_day k_ships k_inn k_coughs k_day held perm hist) (some (.int out.2.2.2.2.2.2.2.2.2.2.2.2.2.2.2.2.2.2.2.2.2.2.2.2)) (wT G ad adt adb ade adm adn adk adp adr refusals tcells lcells out.1 out.2.1 out.2.2.1 out.2.2.2.1 out.2.2.2.2.1 out.2.2.2.2.2.1 out.2.2.2.2.2.2.1 out.2.2.2.2.2.2.2.1 out.2.2.2.2.2.2.2.2.1 out.2.2.2.2.2.2.2.2.2.1 out.2.2.2.2.2.2.2.2.2.2.1 out.2.2.2.2.2.2.2.2.2.2.2.1 out.2.2.2.2.2.2.2.2.2.2.2.2.1 out.2.2.2.2.2.2.2.2.2.2.2.2.2.1 k_there k_used k_hidden k_kind k_figure k_cargo k_load isKept tlen out.2.2.2.2.2.2.2.2.2.2.2.2.2.2.1 out.2.2.2.2.2.2.2.2.2.2.2.2.2.2.2.1 out.2.2.2.2.2.2.2.2.2.2.2.2.2.2.2.2.1 out.2.2.2.2.2.2.2.2.2.2.2.2.2.2.2.2.2.1 out.2.2.2.2.2.2.2.2.2.2.2.2.2.2.2.2.2.2.1 out.2.2.2.2.2.2.2.2.2.2.2.2.2.2.2.2.2.2.2.1 out.2.2.2.2.2.2.2.2.2.2.2.2.2.2.2.2.2.2.2.2.1 out.2.2.2.2.2.2.2.2.2.2.2.2.2.2.2.2.2.2.2.2.2.1 out.2.2.2.2.2.2.2.2.2.2.2.2.2.2.2.2.2.2.2.2.2.2.1 k_ships k_inn k_coughs k_day out.2.2.2.2.2.2.2.2.2.2.2.2.2.2.2.2.2.2.2.2.2.2.2.1 perm hist) := by
  refine Ct.intro RX4 rfl (plainFor_of_name (by decide)) (Nat.le_of_ble_eq_true rfl) rfl ?_
  intro p e s m args below meth c A C H locs hs ls hl
  obtain ⟨hx, hb, hml, hown, hts, hK, hret, hlk⟩ := id C
  have hl : lv_has ls 2 [(0, .ref (ad 0))] := hl
  unfold X4_harbour at hf
  refine lv_aload_n hx hb (dk hX4_harbour_0 0 rfl) rfl (lv_at hl 0 rfl) ?_
  refine rg ui4 rfl C hs 0 rfl 4 (by decide) tw_138 rfl rfl (dk hX4_harbour_0 1 rfl) ?_
  refine lv_aload_n hx hb (dk hX4_harbour_0 2 rfl) rfl (lv_at hl 0 rfl) ?_
  obtain ⟨u_1, e_2, hf⟩ := Option.bind_eq_some_iff.mp hf
  refine Ct.V (As := []) (rest := [.ref (adb 0)]) (st1 := [.ref (adm 0), .ref (adb 0)]) (w1 := (wT G ad adt adb ade adm adn adk adp adr refusals tcells lcells u_1.1 u_1.2.1 u_1.2.2.1 u_1.2.2.2.1 u_1.2.2.2.2.1 u_1.2.2.2.2.2.1 u_1.2.2.2.2.2.2.1 n_there n_used n_hidden n_kind n_figure n_cargo n_load k_there k_used k_hidden k_kind k_figure k_cargo k_load isKept tlen llen u_1.2.2.2.2.2.2.2.1 u_1.2.2.2.2.2.2.2.2.1 u_1.2.2.2.2.2.2.2.2.2.1 u_1.2.2.2.2.2.2.2.2.2.2 n_ships n_inn n_coughs n_day k_ships k_inn k_coughs k_day held perm hist)) C hs (c_X4_fromNow e_2) tw_312 tw_314 tw_4 tw_17 tw_315 nq_X4_fromNow (by decide) 0 4 rfl rfl rfl rfl hl.1 rfl (Nat.le_of_ble_eq_true rfl) (dk hX4_harbour_0 3 rfl) ⟨Nat.zero_le _, Nat.zero_le _⟩ rfl (fun H locs hs => ?_)
  obtain ⟨u_3, e_4, hf⟩ := Option.bind_eq_some_iff.mp hf
  refine Ct.V (As := [.ref (adm 0)]) (rest := []) (st1 := [.int u_3.2.2.2.2.2.2.2.2.2.2.2]) (w1 := (wT G ad adt adb ade adm adn adk adp adr refusals tcells lcells u_3.1 u_3.2.1 u_3.2.2.1 u_3.2.2.2.1 u_3.2.2.2.2.1 u_3.2.2.2.2.2.1 u_3.2.2.2.2.2.2.1 n_there n_used n_hidden n_kind n_figure n_cargo n_load k_there k_used k_hidden k_kind k_figure k_cargo k_load isKept tlen llen u_3.2.2.2.2.2.2.2.1 u_3.2.2.2.2.2.2.2.2.1 u_3.2.2.2.2.2.2.2.2.2.1 u_3.2.2.2.2.2.2.2.2.2.2.1 n_ships n_inn n_coughs n_day k_ships k_inn k_coughs k_day held perm hist)) C hs (c_X3_tell__T e_4) tw_475 tw_476 tw_477 tw_20 tw_478 nq_X3_tell (by decide) 4 3 rfl rfl rfl rfl hl.1 rfl (Nat.le_of_ble_eq_true rfl) (dk hX4_harbour_0 4 rfl) ⟨Nat.zero_le _, Nat.zero_le _⟩ rfl (fun H locs hs => ?_)
  refine lv_istore_n (lv' := [(1, .int u_3.2.2.2.2.2.2.2.2.2.2.2), (0, .ref (ad 0))]) hx hb (dk hX4_harbour_0 5 rfl) rfl hl (by decide) rfl (fun ls hl => ?_)
  refine lv_aload_n hx hb (dk hX4_harbour_0 6 rfl) rfl (lv_at hl 1 rfl) ?_
  refine rg ui4 rfl C hs 0 rfl 4 (by decide) tw_138 rfl rfl (dk hX4_harbour_0 7 rfl) ?_
  refine rg ui3 rfl C hs 4 rfl 0 (by decide) tw_128 rfl rfl (dk hX4_harbour_0 8 rfl) ?_
  obtain ⟨u_5, e_6, hf⟩ := Option.bind_eq_some_iff.mp hf
  refine Ct.V (As := []) (rest := []) (st1 := []) (w1 := (wT G ad adt adb ade adm adn adk adp adr refusals tcells lcells u_3.1 u_3.2.1 u_3.2.2.1 u_3.2.2.2.1 u_3.2.2.2.2.1 u_3.2.2.2.2.2.1 u_3.2.2.2.2.2.2.1 n_there n_used n_hidden n_kind n_figure n_cargo n_load k_there k_used k_hidden k_kind k_figure k_cargo k_load isKept tlen u_5 u_3.2.2.2.2.2.2.2.1 u_3.2.2.2.2.2.2.2.2.1 u_3.2.2.2.2.2.2.2.2.2.1 u_3.2.2.2.2.2.2.2.2.2.2.1 n_ships n_inn n_coughs n_day k_ships k_inn k_coughs k_day held perm hist)) C hs (c_X1_drop__letters e_6) tw_525 tw_526 tw_527 tw_21 tw_528 nq_X1_drop (by decide) 5 1 rfl rfl rfl rfl hl.1 rfl (Nat.le_of_ble_eq_true rfl) (dk hX4_harbour_0 9 rfl) ⟨Nat.zero_le _, Nat.zero_le _⟩ rfl (fun H locs hs => ?_)
  refine lv_iload_n hx hb (dk hX4_harbour_0 10 rfl) rfl (lv_at hl 0 rfl) ?_
  refine lv_if_lt (tgt := 44) hx hb (dk hX4_harbour_0 11 rfl) (by decide) (fun hc => ?_) (fun hc => ?_)
  · replace hf := ip hf hc
    refine lv_iload_n hx hb (dk hX4_harbour_0 20 rfl) rfl (lv_at hl 0 rfl) ?_
    cases hf
    exact ri C hs (dk hX4_harbour_0 21 rfl)
  · replace hf := in_ hf hc
    refine lv_aload_n hx hb (dk hX4_harbour_0 12 rfl) rfl (lv_at hl 1 rfl) ?_
    refine rg ui4 rfl C hs 0 rfl 0 (by decide) tw_134 rfl rfl (dk hX4_harbour_0 13 rfl) ?_
    refine lv_aload_n hx hb (dk hX4_harbour_0 14 rfl) rfl (lv_at hl 1 rfl) ?_
    refine rg ui4 rfl C hs 0 rfl 1 (by decide) tw_135 rfl rfl (dk hX4_harbour_0 15 rfl) ?_
    obtain ⟨u_7, e_8, hf⟩ := Option.bind_eq_some_iff.mp hf
    refine Ct.V (As := [.ref (adm 0)]) (rest := []) (st1 := []) (w1 := (wT G ad adt adb ade adm adn adk adp adr refusals tcells lcells u_3.1 u_3.2.1 u_3.2.2.1 u_3.2.2.2.1 u_3.2.2.2.2.1 u_3.2.2.2.2.2.1 u_3.2.2.2.2.2.2.1 u_7.1 u_7.2.1 u_7.2.2.1 u_7.2.2.2.1 u_7.2.2.2.2.1 u_7.2.2.2.2.2.1 u_7.2.2.2.2.2.2.1 k_there k_used k_hidden k_kind k_figure k_cargo k_load isKept tlen u_5 u_3.2.2.2.2.2.2.2.1 u_3.2.2.2.2.2.2.2.2.1 u_3.2.2.2.2.2.2.2.2.2.1 u_3.2.2.2.2.2.2.2.2.2.2.1 u_7.2.2.2.2.2.2.2.1 u_7.2.2.2.2.2.2.2.2.1 u_7.2.2.2.2.2.2.2.2.2.1 u_7.2.2.2.2.2.2.2.2.2.2 k_ships k_inn k_coughs k_day held perm hist)) C hs (c_X0_copyFrom__nm e_8) tw_316 tw_249 tw_250 tw_18 tw_251 nq_X0_copyFrom (by decide) 15 0 rfl rfl rfl rfl hl.1 rfl (Nat.le_of_ble_eq_true rfl) (dk hX4_harbour_0 16 rfl) ⟨Nat.zero_le _, Nat.zero_le _⟩ rfl (fun H locs hs => ?_)
    refine lv_aload_n hx hb (dk hX4_harbour_0 17 rfl) rfl (lv_at hl 1 rfl) ?_
    refine rg ui4 rfl C hs 0 rfl 3 (by decide) tw_137 rfl rfl (dk hX4_harbour_0 18 rfl) ?_
    obtain ⟨u_9, e_10, hf⟩ := Option.bind_eq_some_iff.mp hf
    refine Ct.V (As := []) (rest := []) (st1 := []) (w1 := (wT G ad adt adb ade adm adn adk adp adr refusals tcells lcells u_3.1 u_3.2.1 u_3.2.2.1 u_3.2.2.2.1 u_3.2.2.2.2.1 u_3.2.2.2.2.2.1 u_3.2.2.2.2.2.2.1 u_7.1 u_7.2.1 u_7.2.2.1 u_7.2.2.2.1 u_7.2.2.2.2.1 u_7.2.2.2.2.2.1 u_7.2.2.2.2.2.2.1 k_there k_used k_hidden k_kind k_figure k_cargo k_load isKept tlen u_5 u_3.2.2.2.2.2.2.2.1 u_3.2.2.2.2.2.2.2.2.1 u_3.2.2.2.2.2.2.2.2.2.1 u_3.2.2.2.2.2.2.2.2.2.2.1 u_7.2.2.2.2.2.2.2.1 u_7.2.2.2.2.2.2.2.2.1 u_7.2.2.2.2.2.2.2.2.2.1 u_7.2.2.2.2.2.2.2.2.2.2 k_ships k_inn k_coughs k_day u_9 perm hist)) C hs (c_X2_drop e_10) tw_434 tw_435 tw_436 tw_19 tw_437 nq_X2_drop (by decide) 31 2 rfl rfl rfl rfl hl.1 rfl (Nat.le_of_ble_eq_true rfl) (dk hX4_harbour_0 19 rfl) ⟨Nat.zero_le _, Nat.zero_le _⟩ rfl (fun H locs hs => ?_)
    refine lv_iload_n hx hb (dk hX4_harbour_0 20 rfl) rfl (lv_at hl 0 rfl) ?_
    cases hf
    exact ri C hs (dk hX4_harbour_0 21 rfl)

def X4_good (refusals : List Int32) (n_there : List Int32) (n_used : List Int32) (n_hidden : List Int32) (p0 : Int32) (p1 : Int32) : Option (List Int32 × Int32) :=
  (X4_isGood p0).bind fun u_1 =>
  if u_1 = (0 : Int32) then
  (X4_refuse refusals (-1 : Int32)).bind fun u_17 =>
  some (u_17.1, u_17.2)
  else
  if p1 = (0 : Int32) then
  (rd n_there p0).bind fun v_3 =>
  some (refusals, v_3)
  else
  if p1 = (1 : Int32) then
  (rd n_used p0).bind fun v_6 =>
  some (refusals, v_6)
  else
  if p1 = (2 : Int32) then
  (rd n_hidden p0).bind fun v_9 =>
  some (refusals, v_9)
  else
  if p1 = (3 : Int32) then
  (X0_lackOf n_there n_used p0).bind fun u_12 =>
  some (refusals, u_12)
  else
  (X4_refuse refusals (-2 : Int32)).bind fun u_15 =>
  some (u_15.1, u_15.2)
set_option maxRecDepth 100000 in
set_option maxHeartbeats 4000000 in
theorem c_X4_good {l : Launch} {G : Gx} {ad adt adb ade adm adn adk adp : Nat → Nat} {adr : Nat → Nat → Nat} {refusals tcells lcells m_there m_used m_hidden m_kind m_figure m_cargo m_load n_there n_used n_hidden n_kind n_figure n_cargo n_load k_there k_used k_hidden k_kind k_figure k_cargo k_load : List Int32} {isKept tlen llen m_ships m_inn m_coughs m_day n_ships n_inn n_coughs n_day k_ships k_inn k_coughs k_day held : Int32} {perm : Nat → Nat} {hist : Nat → Hs} {p0 : Int32} {p1 : Int32} {out : List Int32 × Int32} (hf : X4_good refusals n_there n_used n_hidden p0 p1 = some out) : Ct l G yX4_good cX4_good 3 (some .int) 1 22 [.ref (ad 0), .int p0, .int p1] (wT G ad adt adb ade adm adn adk adp adr refusals tcells lcells m_there m_used m_hidden m_kind m_figure m_cargo m_load n_there n_used n_hidden n_kind n_figure n_cargo n_load k_there k_used k_hidden k_kind k_figure k_cargo k_load isKept tlen llen m_ships m_inn m_coughs m_day n_ships n_inn n_coughs n_day k_ships k_inn k_coughs k_day held perm hist) (some (.int out.2)) (wT G ad adt adb ade adm adn adk adp adr out.1 tcells lcells m_there m_used m_hidden m_kind m_figure m_cargo m_load n_there n_used n_hidden n_kind n_figure n_cargo n_load k_there k_used k_hidden k_kind k_figure k_cargo k_load isKept tlen llen m_ships m_inn m_coughs m_day n_ships n_inn n_coughs n_day k_ships k_inn k_coughs k_day held perm hist) := by
  refine Ct.intro RX4 rfl (plainFor_of_name (by decide)) (Nat.le_of_ble_eq_true rfl) rfl ?_
  intro p e s m args below meth c A C H locs hs ls hl
  obtain ⟨hx, hb, hml, hown, hts, hK, hret, hlk⟩ := id C
  have hl : lv_has ls 3 [(0, .ref (ad 0)), (1, .int p0), (2, .int p1)] := hl
  unfold X4_good at hf
  refine lv_iload_n hx hb (dk hX4_good_0 0 rfl) rfl (lv_at hl 1 rfl) ?_
  obtain ⟨u_1, e_2, hf⟩ := Option.bind_eq_some_iff.mp hf
  refine Ct.S (As := [.int p0]) (rest := []) (st1 := [.int u_1]) (w1 := (wT G ad adt adb ade adm adn adk adp adr refusals tcells lcells m_there m_used m_hidden m_kind m_figure m_cargo m_load n_there n_used n_hidden n_kind n_figure n_cargo n_load k_there k_used k_hidden k_kind k_figure k_cargo k_load isKept tlen llen m_ships m_inn m_coughs m_day n_ships n_inn n_coughs n_day k_ships k_inn k_coughs k_day held perm hist)) C hs (c_X4_isGood e_2) tw_163 tw_164 tw_17 tw_165 nq_X4_isGood (by decide) rfl hl.1 rfl (Nat.le_of_ble_eq_true rfl) (dk hX4_good_0 1 rfl) ⟨Nat.zero_le _, Nat.zero_le _⟩ rfl (fun H locs hs => ?_)
  refine lv_if_ne (tgt := 13) hx hb (dk hX4_good_0 2 rfl) (by decide) (fun hc => ?_) (fun hc => ?_)
  · replace hf := in_ hf hc
    refine lv_iload_n hx hb (dk hX4_good_0 7 rfl) rfl (lv_at hl 2 rfl) ?_
    by_cases hc_5 : p1 = (0 : Int32)
    · replace hf := ip hf hc_5
      refine rts (tgt := 44) (off := 30) hx hb (dk hX4_good_0 8 rfl) hc_5 (by decide) (by decide) (by decide) (by decide) ?_
      refine lv_aload_n hx hb (dk hX4_good_0 9 rfl) rfl (lv_at hl 0 rfl) ?_
      refine rg ui4 rfl C hs 0 rfl 0 (by decide) tw_134 rfl rfl (dk hX4_good_0 10 rfl) ?_
      refine rg ui0 rfl C hs 15 rfl 0 (by decide) tw_39 rfl rfl (dk hX4_good_0 11 rfl) ?_
      refine lv_iload_n hx hb (dk hX4_good_0 12 rfl) rfl (lv_at hl 1 rfl) ?_
      obtain ⟨v_3, e_4, hf⟩ := Option.bind_eq_some_iff.mp hf
      refine rild C hs 16 rfl e_4 (dk hX4_good_0 13 rfl) ?_
      cases hf
      exact ri C hs (dk hX4_good_0 14 rfl)
    · replace hf := in_ hf hc_5
      by_cases hc_8 : p1 = (1 : Int32)
      · replace hf := ip hf hc_8
        refine rts (tgt := 54) (off := 40) hx hb (dk hX4_good_0 8 rfl) hc_8 (by decide) (by decide) (by decide) (by decide) ?_
        refine lv_aload_n hx hb (dk hX4_good_0 15 rfl) rfl (lv_at hl 0 rfl) ?_
        refine rg ui4 rfl C hs 0 rfl 0 (by decide) tw_134 rfl rfl (dk hX4_good_0 16 rfl) ?_
        refine rg ui0 rfl C hs 15 rfl 1 (by decide) tw_42 rfl rfl (dk hX4_good_0 17 rfl) ?_
        refine lv_iload_n hx hb (dk hX4_good_0 18 rfl) rfl (lv_at hl 1 rfl) ?_
        obtain ⟨v_6, e_7, hf⟩ := Option.bind_eq_some_iff.mp hf
        refine rild C hs 17 rfl e_7 (dk hX4_good_0 19 rfl) ?_
        cases hf
        exact ri C hs (dk hX4_good_0 20 rfl)
      · replace hf := in_ hf hc_8
        by_cases hc_11 : p1 = (2 : Int32)
        · replace hf := ip hf hc_11
          refine rts (tgt := 64) (off := 50) hx hb (dk hX4_good_0 8 rfl) hc_11 (by decide) (by decide) (by decide) (by decide) ?_
          refine lv_aload_n hx hb (dk hX4_good_0 21 rfl) rfl (lv_at hl 0 rfl) ?_
          refine rg ui4 rfl C hs 0 rfl 0 (by decide) tw_134 rfl rfl (dk hX4_good_0 22 rfl) ?_
          refine rg ui0 rfl C hs 15 rfl 2 (by decide) tw_45 rfl rfl (dk hX4_good_0 23 rfl) ?_
          refine lv_iload_n hx hb (dk hX4_good_0 24 rfl) rfl (lv_at hl 1 rfl) ?_
          obtain ⟨v_9, e_10, hf⟩ := Option.bind_eq_some_iff.mp hf
          refine rild C hs 18 rfl e_10 (dk hX4_good_0 25 rfl) ?_
          cases hf
          exact ri C hs (dk hX4_good_0 26 rfl)
        · replace hf := in_ hf hc_11
          by_cases hc_14 : p1 = (3 : Int32)
          · replace hf := ip hf hc_14
            refine rts (tgt := 74) (off := 60) hx hb (dk hX4_good_0 8 rfl) hc_14 (by decide) (by decide) (by decide) (by decide) ?_
            refine lv_aload_n hx hb (dk hX4_good_0 27 rfl) rfl (lv_at hl 0 rfl) ?_
            refine rg ui4 rfl C hs 0 rfl 0 (by decide) tw_134 rfl rfl (dk hX4_good_0 28 rfl) ?_
            refine lv_iload_n hx hb (dk hX4_good_0 29 rfl) rfl (lv_at hl 1 rfl) ?_
            obtain ⟨u_12, e_13, hf⟩ := Option.bind_eq_some_iff.mp hf
            refine Ct.V (As := [.int p0]) (rest := []) (st1 := [.int u_12]) (w1 := (wT G ad adt adb ade adm adn adk adp adr refusals tcells lcells m_there m_used m_hidden m_kind m_figure m_cargo m_load n_there n_used n_hidden n_kind n_figure n_cargo n_load k_there k_used k_hidden k_kind k_figure k_cargo k_load isKept tlen llen m_ships m_inn m_coughs m_day n_ships n_inn n_coughs n_day k_ships k_inn k_coughs k_day held perm hist)) C hs (c_X0_lackOf__now e_13) tw_170 tw_171 tw_172 tw_18 tw_173 nq_X0_lackOf (by decide) 15 0 rfl rfl rfl rfl hl.1 rfl (Nat.le_of_ble_eq_true rfl) (dk hX4_good_0 30 rfl) ⟨Nat.zero_le _, Nat.zero_le _⟩ rfl (fun H locs hs => ?_)
            cases hf
            exact ri C hs (dk hX4_good_0 31 rfl)
          · replace hf := in_ hf hc_14
            refine rtd (tgt := 83) hx hb (dk hX4_good_0 8 rfl) [0, 1, 2, 3] (by decide) (by decide) (List.forall_mem_cons.mpr ⟨ti hc_5 (by decide), List.forall_mem_cons.mpr ⟨ti hc_8 (by decide), List.forall_mem_cons.mpr ⟨ti hc_11 (by decide), List.forall_mem_cons.mpr ⟨ti hc_14 (by decide), fun _ h => absurd h List.not_mem_nil⟩⟩⟩⟩) (by decide) ?_
            refine lv_aload_n hx hb (dk hX4_good_0 32 rfl) rfl (lv_at hl 0 rfl) ?_
            refine lv_bipush (v := (-2 : Int32)) hx hb (dk hX4_good_0 33 rfl) (by decide) ?_
            obtain ⟨u_15, e_16, hf⟩ := Option.bind_eq_some_iff.mp hf
            refine Ct.V (As := [.int (-2 : Int32)]) (rest := []) (st1 := [.int u_15.2]) (w1 := (wT G ad adt adb ade adm adn adk adp adr u_15.1 tcells lcells m_there m_used m_hidden m_kind m_figure m_cargo m_load n_there n_used n_hidden n_kind n_figure n_cargo n_load k_there k_used k_hidden k_kind k_figure k_cargo k_load isKept tlen llen m_ships m_inn m_coughs m_day n_ships n_inn n_coughs n_day k_ships k_inn k_coughs k_day held perm hist)) C hs (c_X4_refuse e_16) tw_166 tw_168 tw_0 tw_17 tw_169 nq_X4_refuse (by decide) 0 4 rfl rfl rfl rfl hl.1 rfl (Nat.le_of_ble_eq_true rfl) (dk hX4_good_0 34 rfl) ⟨Nat.zero_le _, Nat.zero_le _⟩ rfl (fun H locs hs => ?_)
            cases hf
            exact ri C hs (dk hX4_good_0 35 rfl)
  · replace hf := ip hf hc
    refine lv_aload_n hx hb (dk hX4_good_0 3 rfl) rfl (lv_at hl 0 rfl) ?_
    refine lv_iconst (v := (-1 : Int32)) hx hb (dk hX4_good_0 4 rfl) (by decide) ?_
    obtain ⟨u_17, e_18, hf⟩ := Option.bind_eq_some_iff.mp hf
    refine Ct.V (As := [.int (-1 : Int32)]) (rest := []) (st1 := [.int u_17.2]) (w1 := (wT G ad adt adb ade adm adn adk adp adr u_17.1 tcells lcells m_there m_used m_hidden m_kind m_figure m_cargo m_load n_there n_used n_hidden n_kind n_figure n_cargo n_load k_there k_used k_hidden k_kind k_figure k_cargo k_load isKept tlen llen m_ships m_inn m_coughs m_day n_ships n_inn n_coughs n_day k_ships k_inn k_coughs k_day held perm hist)) C hs (c_X4_refuse e_18) tw_166 tw_168 tw_0 tw_17 tw_169 nq_X4_refuse (by decide) 0 4 rfl rfl rfl rfl hl.1 rfl (Nat.le_of_ble_eq_true rfl) (dk hX4_good_0 5 rfl) ⟨Nat.zero_le _, Nat.zero_le _⟩ rfl (fun H locs hs => ?_)
    cases hf
    exact ri C hs (dk hX4_good_0 6 rfl)

def X4_shipOf (refusals : List Int32) (n_there : List Int32) (n_used : List Int32) (n_hidden : List Int32) (n_kind : List Int32) (n_figure : List Int32) (n_cargo : List Int32) (n_load : List Int32) (n_ships : Int32) (n_inn : Int32) (n_coughs : Int32) (n_day : Int32) (p0 : Int32) (p1 : Int32) : Option (List Int32 × Int32) :=
  (X0_isShip n_ships p0).bind fun u_1 =>
  if u_1 = (0 : Int32) then
  (X4_refuse refusals (-1 : Int32)).bind fun u_29 =>
  some (u_29.1, u_29.2)
  else
  if p1 = (0 : Int32) then
  (rd n_kind p0).bind fun v_3 =>
  some (refusals, v_3)
  else
  if p1 = (1 : Int32) then
  (rd n_figure p0).bind fun v_6 =>
  some (refusals, v_6)
  else
  if p1 = (2 : Int32) then
  (rd n_cargo p0).bind fun v_9 =>
  some (refusals, v_9)
  else
  if p1 = (3 : Int32) then
  (rd n_load p0).bind fun v_12 =>
  some (refusals, v_12)
  else
  if p1 = (4 : Int32) then
  (X0_isIn n_inn p0).bind fun u_15 =>
  if u_15 = (0 : Int32) then
  some (refusals, (0 : Int32))
  else
  some (refusals, (1 : Int32))
  else
  if p1 = (5 : Int32) then
  (X0_draws n_kind n_figure p0).bind fun u_18 =>
  some (refusals, u_18)
  else
  if p1 = (6 : Int32) then
  (X0_sinks n_there n_used n_hidden n_kind n_cargo n_coughs p0).bind fun u_21 =>
  some (refusals, u_21)
  else
  if p1 = (7 : Int32) then
  (X0_depth n_there n_used n_hidden n_kind n_cargo n_coughs n_day p0).bind fun u_24 =>
  some (refusals, u_24)
  else
  (X4_refuse refusals (-2 : Int32)).bind fun u_27 =>
  some (u_27.1, u_27.2)
set_option maxRecDepth 100000 in
set_option maxHeartbeats 4000000 in
theorem c_X4_shipOf {l : Launch} {G : Gx} {ad adt adb ade adm adn adk adp : Nat → Nat} {adr : Nat → Nat → Nat} {refusals tcells lcells m_there m_used m_hidden m_kind m_figure m_cargo m_load n_there n_used n_hidden n_kind n_figure n_cargo n_load k_there k_used k_hidden k_kind k_figure k_cargo k_load : List Int32} {isKept tlen llen m_ships m_inn m_coughs m_day n_ships n_inn n_coughs n_day k_ships k_inn k_coughs k_day held : Int32} {perm : Nat → Nat} {hist : Nat → Hs} {p0 : Int32} {p1 : Int32} {out : List Int32 × Int32} (hf : X4_shipOf refusals n_there n_used n_hidden n_kind n_figure n_cargo n_load n_ships n_inn n_coughs n_day p0 p1 = some out) : Ct l G yX4_shipOf cX4_shipOf 3 (some .int) 4 87 [.ref (ad 0), .int p0, .int p1] (wT G ad adt adb ade adm adn adk adp adr refusals tcells lcells m_there m_used m_hidden m_kind m_figure m_cargo m_load n_there n_used n_hidden n_kind n_figure n_cargo n_load k_there k_used k_hidden k_kind k_figure k_cargo k_load isKept tlen llen m_ships m_inn m_coughs m_day n_ships n_inn n_coughs n_day k_ships k_inn k_coughs k_day held perm hist) (some (.int out.2)) (wT G ad adt adb ade adm adn adk adp adr out.1 tcells lcells m_there m_used m_hidden m_kind m_figure m_cargo m_load n_there n_used n_hidden n_kind n_figure n_cargo n_load k_there k_used k_hidden k_kind k_figure k_cargo k_load isKept tlen llen m_ships m_inn m_coughs m_day n_ships n_inn n_coughs n_day k_ships k_inn k_coughs k_day held perm hist) := by
  refine Ct.intro RX4 rfl (plainFor_of_name (by decide)) (Nat.le_of_ble_eq_true rfl) rfl ?_
  intro p e s m args below meth c A C H locs hs ls hl
  obtain ⟨hx, hb, hml, hown, hts, hK, hret, hlk⟩ := id C
  have hl : lv_has ls 3 [(0, .ref (ad 0)), (1, .int p0), (2, .int p1)] := hl
  unfold X4_shipOf at hf
  refine lv_aload_n hx hb (dk hX4_shipOf_0 0 rfl) rfl (lv_at hl 0 rfl) ?_
  refine rg ui4 rfl C hs 0 rfl 0 (by decide) tw_134 rfl rfl (dk hX4_shipOf_0 1 rfl) ?_
  refine lv_iload_n hx hb (dk hX4_shipOf_0 2 rfl) rfl (lv_at hl 1 rfl) ?_
  obtain ⟨u_1, e_2, hf⟩ := Option.bind_eq_some_iff.mp hf
  refine Ct.V (As := [.int p0]) (rest := []) (st1 := [.int u_1]) (w1 := (wT G ad adt adb ade adm adn adk adp adr refusals tcells lcells m_there m_used m_hidden m_kind m_figure m_cargo m_load n_there n_used n_hidden n_kind n_figure n_cargo n_load k_there k_used k_hidden k_kind k_figure k_cargo k_load isKept tlen llen m_ships m_inn m_coughs m_day n_ships n_inn n_coughs n_day k_ships k_inn k_coughs k_day held perm hist)) C hs (c_X0_isShip__now e_2) tw_178 tw_179 tw_180 tw_18 tw_181 nq_X0_isShip (by decide) 15 0 rfl rfl rfl rfl hl.1 rfl (Nat.le_of_ble_eq_true rfl) (dk hX4_shipOf_0 3 rfl) ⟨Nat.zero_le _, Nat.zero_le _⟩ rfl (fun H locs hs => ?_)
  refine lv_if_ne (tgt := 17) hx hb (dk hX4_shipOf_0 4 rfl) (by decide) (fun hc => ?_) (fun hc => ?_)
  · replace hf := in_ hf hc
    refine lv_iload_n hx hb (dk hX4_shipOf_0 9 rfl) rfl (lv_at hl 2 rfl) ?_
    by_cases hc_5 : p1 = (0 : Int32)
    · replace hf := ip hf hc_5
      refine rts (tgt := 64) (off := 46) hx hb (dk hX4_shipOf_0 10 rfl) hc_5 (by decide) (by decide) (by decide) (by decide) ?_
      refine lv_aload_n hx hb (dk hX4_shipOf_0 11 rfl) rfl (lv_at hl 0 rfl) ?_
      refine rg ui4 rfl C hs 0 rfl 0 (by decide) tw_134 rfl rfl (dk hX4_shipOf_0 12 rfl) ?_
      refine rg ui0 rfl C hs 15 rfl 3 (by decide) tw_47 rfl rfl (dk hX4_shipOf_0 13 rfl) ?_
      refine lv_iload_n hx hb (dk hX4_shipOf_0 14 rfl) rfl (lv_at hl 1 rfl) ?_
      obtain ⟨v_3, e_4, hf⟩ := Option.bind_eq_some_iff.mp hf
      refine rild C hs 19 rfl e_4 (dk hX4_shipOf_0 15 rfl) ?_
      cases hf
      exact ri C hs (dk hX4_shipOf_0 16 rfl)
    · replace hf := in_ hf hc_5
      by_cases hc_8 : p1 = (1 : Int32)
      · replace hf := ip hf hc_8
        refine rts (tgt := 74) (off := 56) hx hb (dk hX4_shipOf_0 10 rfl) hc_8 (by decide) (by decide) (by decide) (by decide) ?_
        refine lv_aload_n hx hb (dk hX4_shipOf_0 17 rfl) rfl (lv_at hl 0 rfl) ?_
        refine rg ui4 rfl C hs 0 rfl 0 (by decide) tw_134 rfl rfl (dk hX4_shipOf_0 18 rfl) ?_
        refine rg ui0 rfl C hs 15 rfl 4 (by decide) tw_49 rfl rfl (dk hX4_shipOf_0 19 rfl) ?_
        refine lv_iload_n hx hb (dk hX4_shipOf_0 20 rfl) rfl (lv_at hl 1 rfl) ?_
        obtain ⟨v_6, e_7, hf⟩ := Option.bind_eq_some_iff.mp hf
        refine rild C hs 20 rfl e_7 (dk hX4_shipOf_0 21 rfl) ?_
        cases hf
        exact ri C hs (dk hX4_shipOf_0 22 rfl)
      · replace hf := in_ hf hc_8
        by_cases hc_11 : p1 = (2 : Int32)
        · replace hf := ip hf hc_11
          refine rts (tgt := 84) (off := 66) hx hb (dk hX4_shipOf_0 10 rfl) hc_11 (by decide) (by decide) (by decide) (by decide) ?_
          refine lv_aload_n hx hb (dk hX4_shipOf_0 23 rfl) rfl (lv_at hl 0 rfl) ?_
          refine rg ui4 rfl C hs 0 rfl 0 (by decide) tw_134 rfl rfl (dk hX4_shipOf_0 24 rfl) ?_
          refine rg ui0 rfl C hs 15 rfl 5 (by decide) tw_51 rfl rfl (dk hX4_shipOf_0 25 rfl) ?_
          refine lv_iload_n hx hb (dk hX4_shipOf_0 26 rfl) rfl (lv_at hl 1 rfl) ?_
          obtain ⟨v_9, e_10, hf⟩ := Option.bind_eq_some_iff.mp hf
          refine rild C hs 21 rfl e_10 (dk hX4_shipOf_0 27 rfl) ?_
          cases hf
          exact ri C hs (dk hX4_shipOf_0 28 rfl)
        · replace hf := in_ hf hc_11
          by_cases hc_14 : p1 = (3 : Int32)
          · replace hf := ip hf hc_14
            refine rts (tgt := 94) (off := 76) hx hb (dk hX4_shipOf_0 10 rfl) hc_14 (by decide) (by decide) (by decide) (by decide) ?_
            refine lv_aload_n hx hb (dk hX4_shipOf_0 29 rfl) rfl (lv_at hl 0 rfl) ?_
            refine rg ui4 rfl C hs 0 rfl 0 (by decide) tw_134 rfl rfl (dk hX4_shipOf_0 30 rfl) ?_
            refine rg ui0 rfl C hs 15 rfl 6 (by decide) tw_53 rfl rfl (dk hX4_shipOf_0 31 rfl) ?_
            refine lv_iload_n hx hb (dk hX4_shipOf_0 32 rfl) rfl (lv_at hl 1 rfl) ?_
            obtain ⟨v_12, e_13, hf⟩ := Option.bind_eq_some_iff.mp hf
            refine rild C hs 22 rfl e_13 (dk hX4_shipOf_0 33 rfl) ?_
            cases hf
            exact ri C hs (dk hX4_shipOf_0 34 rfl)
          · replace hf := in_ hf hc_14
            by_cases hc_17 : p1 = (4 : Int32)
            · replace hf := ip hf hc_17
              refine rts (tgt := 104) (off := 86) hx hb (dk hX4_shipOf_0 10 rfl) hc_17 (by decide) (by decide) (by decide) (by decide) ?_
              refine lv_aload_n hx hb (dk hX4_shipOf_0 35 rfl) rfl (lv_at hl 0 rfl) ?_
              refine rg ui4 rfl C hs 0 rfl 0 (by decide) tw_134 rfl rfl (dk hX4_shipOf_0 36 rfl) ?_
              refine lv_iload_n hx hb (dk hX4_shipOf_0 37 rfl) rfl (lv_at hl 1 rfl) ?_
              obtain ⟨u_15, e_16, hf⟩ := Option.bind_eq_some_iff.mp hf
              refine Ct.V (As := [.int p0]) (rest := []) (st1 := [.int u_15]) (w1 := (wT G ad adt adb ade adm adn adk adp adr refusals tcells lcells m_there m_used m_hidden m_kind m_figure m_cargo m_load n_there n_used n_hidden n_kind n_figure n_cargo n_load k_there k_used k_hidden k_kind k_figure k_cargo k_load isKept tlen llen m_ships m_inn m_coughs m_day n_ships n_inn n_coughs n_day k_ships k_inn k_coughs k_day held perm hist)) C hs (c_X0_isIn__now e_16) tw_182 tw_183 tw_184 tw_18 tw_185 nq_X0_isIn (by decide) 15 0 rfl rfl rfl rfl hl.1 rfl (Nat.le_of_ble_eq_true rfl) (dk hX4_shipOf_0 38 rfl) ⟨Nat.zero_le _, Nat.zero_le _⟩ rfl (fun H locs hs => ?_)
              refine lv_if_eq (tgt := 119) hx hb (dk hX4_shipOf_0 39 rfl) (by decide) (fun hc => ?_) (fun hc => ?_)
              · replace hf := ip hf hc
                refine lv_iconst (v := (0 : Int32)) hx hb (dk hX4_shipOf_1 2 rfl) (by decide) ?_
                cases hf
                exact ri C hs (dk hX4_shipOf_1 3 rfl)
              · replace hf := in_ hf hc
                refine lv_iconst (v := (1 : Int32)) hx hb (dk hX4_shipOf_1 0 rfl) (by decide) ?_
                refine lv_goto (tgt := 120) hx hb (dk hX4_shipOf_1 1 rfl) (by decide) ?_
                cases hf
                exact ri C hs (dk hX4_shipOf_1 3 rfl)
            · replace hf := in_ hf hc_17
              by_cases hc_20 : p1 = (5 : Int32)
              · replace hf := ip hf hc_20
                refine rts (tgt := 121) (off := 103) hx hb (dk hX4_shipOf_0 10 rfl) hc_20 (by decide) (by decide) (by decide) (by decide) ?_
                refine lv_aload_n hx hb (dk hX4_shipOf_1 4 rfl) rfl (lv_at hl 0 rfl) ?_
                refine rg ui4 rfl C hs 0 rfl 0 (by decide) tw_134 rfl rfl (dk hX4_shipOf_1 5 rfl) ?_
                refine lv_iload_n hx hb (dk hX4_shipOf_1 6 rfl) rfl (lv_at hl 1 rfl) ?_
                obtain ⟨u_18, e_19, hf⟩ := Option.bind_eq_some_iff.mp hf
                refine Ct.V (As := [.int p0]) (rest := []) (st1 := [.int u_18]) (w1 := (wT G ad adt adb ade adm adn adk adp adr refusals tcells lcells m_there m_used m_hidden m_kind m_figure m_cargo m_load n_there n_used n_hidden n_kind n_figure n_cargo n_load k_there k_used k_hidden k_kind k_figure k_cargo k_load isKept tlen llen m_ships m_inn m_coughs m_day n_ships n_inn n_coughs n_day k_ships k_inn k_coughs k_day held perm hist)) C hs (c_X0_draws__now e_19) tw_186 tw_187 tw_188 tw_18 tw_189 nq_X0_draws (by decide) 15 0 rfl rfl rfl rfl hl.1 rfl (Nat.le_of_ble_eq_true rfl) (dk hX4_shipOf_1 7 rfl) ⟨Nat.zero_le _, Nat.zero_le _⟩ rfl (fun H locs hs => ?_)
                cases hf
                exact ri C hs (dk hX4_shipOf_1 8 rfl)
              · replace hf := in_ hf hc_20
                by_cases hc_23 : p1 = (6 : Int32)
                · replace hf := ip hf hc_23
                  refine rts (tgt := 130) (off := 112) hx hb (dk hX4_shipOf_0 10 rfl) hc_23 (by decide) (by decide) (by decide) (by decide) ?_
                  refine lv_aload_n hx hb (dk hX4_shipOf_1 9 rfl) rfl (lv_at hl 0 rfl) ?_
                  refine rg ui4 rfl C hs 0 rfl 0 (by decide) tw_134 rfl rfl (dk hX4_shipOf_1 10 rfl) ?_
                  refine lv_iload_n hx hb (dk hX4_shipOf_1 11 rfl) rfl (lv_at hl 1 rfl) ?_
                  obtain ⟨u_21, e_22, hf⟩ := Option.bind_eq_some_iff.mp hf
                  refine Ct.V (As := [.int p0]) (rest := []) (st1 := [.int u_21]) (w1 := (wT G ad adt adb ade adm adn adk adp adr refusals tcells lcells m_there m_used m_hidden m_kind m_figure m_cargo m_load n_there n_used n_hidden n_kind n_figure n_cargo n_load k_there k_used k_hidden k_kind k_figure k_cargo k_load isKept tlen llen m_ships m_inn m_coughs m_day n_ships n_inn n_coughs n_day k_ships k_inn k_coughs k_day held perm hist)) C hs (c_X0_sinks__now e_22) tw_190 tw_191 tw_192 tw_18 tw_193 nq_X0_sinks (by decide) 15 0 rfl rfl rfl rfl hl.1 rfl (Nat.le_of_ble_eq_true rfl) (dk hX4_shipOf_1 12 rfl) ⟨Nat.zero_le _, Nat.zero_le _⟩ rfl (fun H locs hs => ?_)
                  cases hf
                  exact ri C hs (dk hX4_shipOf_1 13 rfl)
                · replace hf := in_ hf hc_23
                  by_cases hc_26 : p1 = (7 : Int32)
                  · replace hf := ip hf hc_26
                    refine rts (tgt := 139) (off := 121) hx hb (dk hX4_shipOf_0 10 rfl) hc_26 (by decide) (by decide) (by decide) (by decide) ?_
                    refine lv_aload_n hx hb (dk hX4_shipOf_1 14 rfl) rfl (lv_at hl 0 rfl) ?_
                    refine rg ui4 rfl C hs 0 rfl 0 (by decide) tw_134 rfl rfl (dk hX4_shipOf_1 15 rfl) ?_
                    refine lv_iload_n hx hb (dk hX4_shipOf_1 16 rfl) rfl (lv_at hl 1 rfl) ?_
                    obtain ⟨u_24, e_25, hf⟩ := Option.bind_eq_some_iff.mp hf
                    refine Ct.V (As := [.int p0]) (rest := []) (st1 := [.int u_24]) (w1 := (wT G ad adt adb ade adm adn adk adp adr refusals tcells lcells m_there m_used m_hidden m_kind m_figure m_cargo m_load n_there n_used n_hidden n_kind n_figure n_cargo n_load k_there k_used k_hidden k_kind k_figure k_cargo k_load isKept tlen llen m_ships m_inn m_coughs m_day n_ships n_inn n_coughs n_day k_ships k_inn k_coughs k_day held perm hist)) C hs (c_X0_depth__now e_25) tw_206 tw_207 tw_208 tw_18 tw_209 nq_X0_depth (by decide) 15 0 rfl rfl rfl rfl hl.1 rfl (Nat.le_of_ble_eq_true rfl) (dk hX4_shipOf_1 17 rfl) ⟨Nat.zero_le _, Nat.zero_le _⟩ rfl (fun H locs hs => ?_)
                    cases hf
                    exact ri C hs (dk hX4_shipOf_1 18 rfl)
                  · replace hf := in_ hf hc_26
                    refine rtd (tgt := 148) hx hb (dk hX4_shipOf_0 10 rfl) [0, 1, 2, 3, 4, 5, 6, 7] (by decide) (by decide) (List.forall_mem_cons.mpr ⟨ti hc_5 (by decide), List.forall_mem_cons.mpr ⟨ti hc_8 (by decide), List.forall_mem_cons.mpr ⟨ti hc_11 (by decide), List.forall_mem_cons.mpr ⟨ti hc_14 (by decide), List.forall_mem_cons.mpr ⟨ti hc_17 (by decide), List.forall_mem_cons.mpr ⟨ti hc_20 (by decide), List.forall_mem_cons.mpr ⟨ti hc_23 (by decide), List.forall_mem_cons.mpr ⟨ti hc_26 (by decide), fun _ h => absurd h List.not_mem_nil⟩⟩⟩⟩⟩⟩⟩⟩) (by decide) ?_
                    refine lv_aload_n hx hb (dk hX4_shipOf_1 19 rfl) rfl (lv_at hl 0 rfl) ?_
                    refine lv_bipush (v := (-2 : Int32)) hx hb (dk hX4_shipOf_1 20 rfl) (by decide) ?_
                    obtain ⟨u_27, e_28, hf⟩ := Option.bind_eq_some_iff.mp hf
                    refine Ct.V (As := [.int (-2 : Int32)]) (rest := []) (st1 := [.int u_27.2]) (w1 := (wT G ad adt adb ade adm adn adk adp adr u_27.1 tcells lcells m_there m_used m_hidden m_kind m_figure m_cargo m_load n_there n_used n_hidden n_kind n_figure n_cargo n_load k_there k_used k_hidden k_kind k_figure k_cargo k_load isKept tlen llen m_ships m_inn m_coughs m_day n_ships n_inn n_coughs n_day k_ships k_inn k_coughs k_day held perm hist)) C hs (c_X4_refuse e_28) tw_166 tw_168 tw_0 tw_17 tw_169 nq_X4_refuse (by decide) 0 4 rfl rfl rfl rfl hl.1 rfl (Nat.le_of_ble_eq_true rfl) (dk hX4_shipOf_1 21 rfl) ⟨Nat.zero_le _, Nat.zero_le _⟩ rfl (fun H locs hs => ?_)
                    cases hf
                    exact ri C hs (dk hX4_shipOf_1 22 rfl)
  · replace hf := ip hf hc
    refine lv_aload_n hx hb (dk hX4_shipOf_0 5 rfl) rfl (lv_at hl 0 rfl) ?_
    refine lv_iconst (v := (-1 : Int32)) hx hb (dk hX4_shipOf_0 6 rfl) (by decide) ?_
    obtain ⟨u_29, e_30, hf⟩ := Option.bind_eq_some_iff.mp hf
    refine Ct.V (As := [.int (-1 : Int32)]) (rest := []) (st1 := [.int u_29.2]) (w1 := (wT G ad adt adb ade adm adn adk adp adr u_29.1 tcells lcells m_there m_used m_hidden m_kind m_figure m_cargo m_load n_there n_used n_hidden n_kind n_figure n_cargo n_load k_there k_used k_hidden k_kind k_figure k_cargo k_load isKept tlen llen m_ships m_inn m_coughs m_day n_ships n_inn n_coughs n_day k_ships k_inn k_coughs k_day held perm hist)) C hs (c_X4_refuse e_30) tw_166 tw_168 tw_0 tw_17 tw_169 nq_X4_refuse (by decide) 0 4 rfl rfl rfl rfl hl.1 rfl (Nat.le_of_ble_eq_true rfl) (dk hX4_shipOf_0 7 rfl) ⟨Nat.zero_le _, Nat.zero_le _⟩ rfl (fun H locs hs => ?_)
    cases hf
    exact ri C hs (dk hX4_shipOf_0 8 rfl)

def X4_tide (refusals : List Int32) (n_day : Int32) (p0 : Int32) : Option (List Int32 × Int32) :=
  (X4_misfit p0 (0 : Int32) (60 : Int32)).bind fun u_1 =>
  if u_1 = (0 : Int32) then
  (X4_tideOf (n_day + p0)).bind fun u_3 =>
  some (refusals, u_3)
  else
  (X4_refuse refusals u_1).bind fun u_5 =>
  some (u_5.1, u_5.2)
set_option maxRecDepth 100000 in
set_option maxHeartbeats 4000000 in
theorem c_X4_tide {l : Launch} {G : Gx} {ad adt adb ade adm adn adk adp : Nat → Nat} {adr : Nat → Nat → Nat} {refusals tcells lcells m_there m_used m_hidden m_kind m_figure m_cargo m_load n_there n_used n_hidden n_kind n_figure n_cargo n_load k_there k_used k_hidden k_kind k_figure k_cargo k_load : List Int32} {isKept tlen llen m_ships m_inn m_coughs m_day n_ships n_inn n_coughs n_day k_ships k_inn k_coughs k_day held : Int32} {perm : Nat → Nat} {hist : Nat → Hs} {p0 : Int32} {out : List Int32 × Int32} (hf : X4_tide refusals n_day p0 = some out) : Ct l G yX4_tide cX4_tide 3 (some .int) 2 44 [.ref (ad 0), .int p0] (wT G ad adt adb ade adm adn adk adp adr refusals tcells lcells m_there m_used m_hidden m_kind m_figure m_cargo m_load n_there n_used n_hidden n_kind n_figure n_cargo n_load k_there k_used k_hidden k_kind k_figure k_cargo k_load isKept tlen llen m_ships m_inn m_coughs m_day n_ships n_inn n_coughs n_day k_ships k_inn k_coughs k_day held perm hist) (some (.int out.2)) (wT G ad adt adb ade adm adn adk adp adr out.1 tcells lcells m_there m_used m_hidden m_kind m_figure m_cargo m_load n_there n_used n_hidden n_kind n_figure n_cargo n_load k_there k_used k_hidden k_kind k_figure k_cargo k_load isKept tlen llen m_ships m_inn m_coughs m_day n_ships n_inn n_coughs n_day k_ships k_inn k_coughs k_day held perm hist) := by
  refine Ct.intro RX4 rfl (plainFor_of_name (by decide)) (Nat.le_of_ble_eq_true rfl) rfl ?_
  intro p e s m args below meth c A C H locs hs ls hl
  obtain ⟨hx, hb, hml, hown, hts, hK, hret, hlk⟩ := id C
  have hl : lv_has ls 3 [(0, .ref (ad 0)), (1, .int p0)] := hl
  unfold X4_tide at hf
  refine lv_iload_n hx hb (dk hX4_tide_0 0 rfl) rfl (lv_at hl 1 rfl) ?_
  refine lv_iconst (v := (0 : Int32)) hx hb (dk hX4_tide_0 1 rfl) (by decide) ?_
  refine lv_bipush (v := (60 : Int32)) hx hb (dk hX4_tide_0 2 rfl) (by decide) ?_
  obtain ⟨u_1, e_2, hf⟩ := Option.bind_eq_some_iff.mp hf
  refine Ct.S (As := [.int p0, .int (0 : Int32), .int (60 : Int32)]) (rest := []) (st1 := [.int u_1]) (w1 := (wT G ad adt adb ade adm adn adk adp adr refusals tcells lcells m_there m_used m_hidden m_kind m_figure m_cargo m_load n_there n_used n_hidden n_kind n_figure n_cargo n_load k_there k_used k_hidden k_kind k_figure k_cargo k_load isKept tlen llen m_ships m_inn m_coughs m_day n_ships n_inn n_coughs n_day k_ships k_inn k_coughs k_day held perm hist)) C hs (c_X4_misfit e_2) tw_224 tw_225 tw_17 tw_226 nq_X4_misfit (by decide) rfl hl.1 rfl (Nat.le_of_ble_eq_true rfl) (dk hX4_tide_0 3 rfl) ⟨Nat.zero_le _, Nat.zero_le _⟩ rfl (fun H locs hs => ?_)
  refine lv_istore_n (lv' := [(2, .int u_1), (0, .ref (ad 0)), (1, .int p0)]) hx hb (dk hX4_tide_0 4 rfl) rfl hl (by decide) rfl (fun ls hl => ?_)
  refine lv_iload_n hx hb (dk hX4_tide_0 5 rfl) rfl (lv_at hl 0 rfl) ?_
  refine lv_if_eq (tgt := 20) hx hb (dk hX4_tide_0 6 rfl) (by decide) (fun hc => ?_) (fun hc => ?_)
  · replace hf := ip hf hc
    refine lv_aload_n hx hb (dk hX4_tide_0 11 rfl) rfl (lv_at hl 1 rfl) ?_
    refine rg ui4 rfl C hs 0 rfl 0 (by decide) tw_134 rfl rfl (dk hX4_tide_0 12 rfl) ?_
    refine rg ui0 rfl C hs 15 rfl 10 (by decide) tw_63 rfl rfl (dk hX4_tide_0 13 rfl) ?_
    refine lv_iload_n hx hb (dk hX4_tide_0 14 rfl) rfl (lv_at hl 2 rfl) ?_
    refine lv_iadd hx hb (dk hX4_tide_0 15 rfl) ?_
    obtain ⟨u_3, e_4, hf⟩ := Option.bind_eq_some_iff.mp hf
    refine Ct.S (As := [.int (n_day + p0)]) (rest := []) (st1 := [.int u_3]) (w1 := (wT G ad adt adb ade adm adn adk adp adr refusals tcells lcells m_there m_used m_hidden m_kind m_figure m_cargo m_load n_there n_used n_hidden n_kind n_figure n_cargo n_load k_there k_used k_hidden k_kind k_figure k_cargo k_load isKept tlen llen m_ships m_inn m_coughs m_day n_ships n_inn n_coughs n_day k_ships k_inn k_coughs k_day held perm hist)) C hs (c_X4_tideOf e_4) tw_227 tw_211 tw_17 tw_212 nq_X4_tideOf (by decide) rfl hl.1 rfl (Nat.le_of_ble_eq_true rfl) (dk hX4_tide_0 16 rfl) ⟨Nat.zero_le _, Nat.zero_le _⟩ rfl (fun H locs hs => ?_)
    cases hf
    exact ri C hs (dk hX4_tide_0 17 rfl)
  · replace hf := in_ hf hc
    refine lv_aload_n hx hb (dk hX4_tide_0 7 rfl) rfl (lv_at hl 1 rfl) ?_
    refine lv_iload_n hx hb (dk hX4_tide_0 8 rfl) rfl (lv_at hl 0 rfl) ?_
    obtain ⟨u_5, e_6, hf⟩ := Option.bind_eq_some_iff.mp hf
    refine Ct.V (As := [.int u_1]) (rest := []) (st1 := [.int u_5.2]) (w1 := (wT G ad adt adb ade adm adn adk adp adr u_5.1 tcells lcells m_there m_used m_hidden m_kind m_figure m_cargo m_load n_there n_used n_hidden n_kind n_figure n_cargo n_load k_there k_used k_hidden k_kind k_figure k_cargo k_load isKept tlen llen m_ships m_inn m_coughs m_day n_ships n_inn n_coughs n_day k_ships k_inn k_coughs k_day held perm hist)) C hs (c_X4_refuse e_6) tw_166 tw_168 tw_0 tw_17 tw_169 nq_X4_refuse (by decide) 0 4 rfl rfl rfl rfl hl.1 rfl (Nat.le_of_ble_eq_true rfl) (dk hX4_tide_0 9 rfl) ⟨Nat.zero_le _, Nat.zero_le _⟩ rfl (fun H locs hs => ?_)
    refine lv_goto (tgt := 32) hx hb (dk hX4_tide_0 10 rfl) (by decide) ?_
    cases hf
    exact ri C hs (dk hX4_tide_0 17 rfl)

def X4_hides (refusals : List Int32) (n_there : List Int32) (n_used : List Int32) (n_hidden : List Int32) (n_kind : List Int32) (n_figure : List Int32) (n_cargo : List Int32) (n_load : List Int32) (n_ships : Int32) (n_inn : Int32) (n_coughs : Int32) (n_day : Int32) (held : Int32) (perm : Nat → Nat) (hist : Nat → Hs) (p0 : Int32) (p1 : Int32) : Option (List Int32 × List Int32 × List Int32 × Int32 × (Nat → Nat) × (Nat → Hs) × Int32) :=
  (X4_isGood p0).bind fun u_1 =>
  if u_1 = (0 : Int32) then
  (X4_refuse refusals (-1 : Int32)).bind fun u_13 =>
  some (u_13.1, n_there, n_hidden, held, perm, hist, u_13.2)
  else
  (X0_canHide n_there n_hidden p0 p1).bind fun u_3 =>
  if u_3 = (0 : Int32) then
  (X4_refuse refusals (-3 : Int32)).bind fun u_11 =>
  some (u_11.1, n_there, n_hidden, held, perm, hist, u_11.2)
  else
  (X2_keep n_there n_used n_hidden n_kind n_figure n_cargo n_load n_ships n_inn n_coughs n_day held perm hist).bind fun u_5 =>
  (X0_hideAway n_there n_hidden p0 p1).bind fun u_7 =>
  (rd u_7.1 p0).bind fun v_9 =>
  some (refusals, u_7.1, u_7.2, u_5.1, u_5.2.1, u_5.2.2, v_9)
set_option maxRecDepth 100000 in
set_option maxHeartbeats 4000000 in
theorem c_X4_hides {l : Launch} {G : Gx} {ad adt adb ade adm adn adk adp : Nat → Nat} {adr : Nat → Nat → Nat} {refusals tcells lcells m_there m_used m_hidden m_kind m_figure m_cargo m_load n_there n_used n_hidden n_kind n_figure n_cargo n_load k_there k_used k_hidden k_kind k_figure k_cargo k_load : List Int32} {isKept tlen llen m_ships m_inn m_coughs m_day n_ships n_inn n_coughs n_day k_ships k_inn k_coughs k_day held : Int32} {perm : Nat → Nat} {hist : Nat → Hs} {p0 : Int32} {p1 : Int32} {out : List Int32 × List Int32 × List Int32 × Int32 × (Nat → Nat) × (Nat → Hs) × Int32} (hf : X4_hides refusals n_there n_used n_hidden n_kind n_figure n_cargo n_load n_ships n_inn n_coughs n_day held perm hist p0 p1 = some out) : Ct l G yX4_hides cX4_hides 3 (some .int) 2 44 [.ref (ad 0), .int p0, .int p1] (wT G ad adt adb ade adm adn adk adp adr refusals tcells lcells m_there m_used m_hidden m_kind m_figure m_cargo m_load n_there n_used n_hidden n_kind n_figure n_cargo n_load k_there k_used k_hidden k_kind k_figure k_cargo k_load isKept tlen llen m_ships m_inn m_coughs m_day n_ships n_inn n_coughs n_day k_ships k_inn k_coughs k_day held perm hist) (some (.int out.2.2.2.2.2.2)) (wT G ad adt adb ade adm adn adk adp adr out.1 tcells lcells m_there m_used m_hidden m_kind m_figure m_cargo m_load out.2.1 n_used out.2.2.1 n_kind n_figure n_cargo n_load k_there k_used k_hidden k_kind k_figure k_cargo k_load isKept tlen llen m_ships m_inn m_coughs m_day n_ships n_inn n_coughs n_day k_ships k_inn k_coughs k_day out.2.2.2.1 out.2.2.2.2.1 out.2.2.2.2.2.1) := by
  refine Ct.intro RX4 rfl (plainFor_of_name (by decide)) (Nat.le_of_ble_eq_true rfl) rfl ?_
  intro p e s m args below meth c A C H locs hs ls hl
  obtain ⟨hx, hb, hml, hown, hts, hK, hret, hlk⟩ := id C
  have hl : lv_has ls 3 [(0, .ref (ad 0)), (1, .int p0), (2, .int p1)] := hl
  unfold X4_hides at hf
  refine lv_iload_n hx hb (dk hX4_hides_0 0 rfl) rfl (lv_at hl 1 rfl) ?_
  obtain ⟨u_1, e_2, hf⟩ := Option.bind_eq_some_iff.mp hf
  refine Ct.S (As := [.int p0]) (rest := []) (st1 := [.int u_1]) (w1 := (wT G ad adt adb ade adm adn adk adp adr refusals tcells lcells m_there m_used m_hidden m_kind m_figure m_cargo m_load n_there n_used n_hidden n_kind n_figure n_cargo n_load k_there k_used k_hidden k_kind k_figure k_cargo k_load isKept tlen llen m_ships m_inn m_coughs m_day n_ships n_inn n_coughs n_day k_ships k_inn k_coughs k_day held perm hist)) C hs (c_X4_isGood e_2) tw_163 tw_164 tw_17 tw_165 nq_X4_isGood (by decide) rfl hl.1 rfl (Nat.le_of_ble_eq_true rfl) (dk hX4_hides_0 1 rfl) ⟨Nat.zero_le _, Nat.zero_le _⟩ rfl (fun H locs hs => ?_)
  refine lv_if_ne (tgt := 13) hx hb (dk hX4_hides_0 2 rfl) (by decide) (fun hc => ?_) (fun hc => ?_)
  · replace hf := in_ hf hc
    refine lv_aload_n hx hb (dk hX4_hides_0 7 rfl) rfl (lv_at hl 0 rfl) ?_
    refine rg ui4 rfl C hs 0 rfl 0 (by decide) tw_134 rfl rfl (dk hX4_hides_0 8 rfl) ?_
    refine lv_iload_n hx hb (dk hX4_hides_0 9 rfl) rfl (lv_at hl 1 rfl) ?_
    refine lv_iload_n hx hb (dk hX4_hides_0 10 rfl) rfl (lv_at hl 2 rfl) ?_
    obtain ⟨u_3, e_4, hf⟩ := Option.bind_eq_some_iff.mp hf
    refine Ct.V (As := [.int p0, .int p1]) (rest := []) (st1 := [.int u_3]) (w1 := (wT G ad adt adb ade adm adn adk adp adr refusals tcells lcells m_there m_used m_hidden m_kind m_figure m_cargo m_load n_there n_used n_hidden n_kind n_figure n_cargo n_load k_there k_used k_hidden k_kind k_figure k_cargo k_load isKept tlen llen m_ships m_inn m_coughs m_day n_ships n_inn n_coughs n_day k_ships k_inn k_coughs k_day held perm hist)) C hs (c_X0_canHide__now e_4) tw_232 tw_233 tw_234 tw_18 tw_235 nq_X0_canHide (by decide) 15 0 rfl rfl rfl rfl hl.1 rfl (Nat.le_of_ble_eq_true rfl) (dk hX4_hides_0 11 rfl) ⟨Nat.zero_le _, Nat.zero_le _⟩ rfl (fun H locs hs => ?_)
    refine lv_if_ne (tgt := 32) hx hb (dk hX4_hides_0 12 rfl) (by decide) (fun hc => ?_) (fun hc => ?_)
    · replace hf := in_ hf hc
      refine lv_aload_n hx hb (dk hX4_hides_0 17 rfl) rfl (lv_at hl 0 rfl) ?_
      refine rg ui4 rfl C hs 0 rfl 3 (by decide) tw_137 rfl rfl (dk hX4_hides_0 18 rfl) ?_
      refine lv_aload_n hx hb (dk hX4_hides_0 19 rfl) rfl (lv_at hl 0 rfl) ?_
      refine rg ui4 rfl C hs 0 rfl 0 (by decide) tw_134 rfl rfl (dk hX4_hides_0 20 rfl) ?_
      obtain ⟨u_5, e_6, hf⟩ := Option.bind_eq_some_iff.mp hf
      refine Ct.V (As := [.ref (adn 0)]) (rest := []) (st1 := []) (w1 := (wT G ad adt adb ade adm adn adk adp adr refusals tcells lcells m_there m_used m_hidden m_kind m_figure m_cargo m_load n_there n_used n_hidden n_kind n_figure n_cargo n_load k_there k_used k_hidden k_kind k_figure k_cargo k_load isKept tlen llen m_ships m_inn m_coughs m_day n_ships n_inn n_coughs n_day k_ships k_inn k_coughs k_day u_5.1 u_5.2.1 u_5.2.2)) C hs (c_X2_keep e_6) tw_236 tw_237 tw_238 tw_19 tw_239 nq_X2_keep (by decide) 31 2 rfl rfl rfl rfl hl.1 rfl (Nat.le_of_ble_eq_true rfl) (dk hX4_hides_0 21 rfl) ⟨Nat.zero_le _, Nat.zero_le _⟩ rfl (fun H locs hs => ?_)
      refine lv_aload_n hx hb (dk hX4_hides_0 22 rfl) rfl (lv_at hl 0 rfl) ?_
      refine rg ui4 rfl C hs 0 rfl 0 (by decide) tw_134 rfl rfl (dk hX4_hides_0 23 rfl) ?_
      refine lv_iload_n hx hb (dk hX4_hides_0 24 rfl) rfl (lv_at hl 1 rfl) ?_
      refine lv_iload_n hx hb (dk hX4_hides_0 25 rfl) rfl (lv_at hl 2 rfl) ?_
      obtain ⟨u_7, e_8, hf⟩ := Option.bind_eq_some_iff.mp hf
      refine Ct.V (As := [.int p0, .int p1]) (rest := []) (st1 := []) (w1 := (wT G ad adt adb ade adm adn adk adp adr refusals tcells lcells m_there m_used m_hidden m_kind m_figure m_cargo m_load u_7.1 n_used u_7.2 n_kind n_figure n_cargo n_load k_there k_used k_hidden k_kind k_figure k_cargo k_load isKept tlen llen m_ships m_inn m_coughs m_day n_ships n_inn n_coughs n_day k_ships k_inn k_coughs k_day u_5.1 u_5.2.1 u_5.2.2)) C hs (c_X0_hideAway__now e_8) tw_252 tw_253 tw_254 tw_18 tw_255 nq_X0_hideAway (by decide) 15 0 rfl rfl rfl rfl hl.1 rfl (Nat.le_of_ble_eq_true rfl) (dk hX4_hides_0 26 rfl) ⟨Nat.zero_le _, Nat.zero_le _⟩ rfl (fun H locs hs => ?_)
      refine lv_aload_n hx hb (dk hX4_hides_0 27 rfl) rfl (lv_at hl 0 rfl) ?_
      refine rg ui4 rfl C hs 0 rfl 0 (by decide) tw_134 rfl rfl (dk hX4_hides_0 28 rfl) ?_
      refine rg ui0 rfl C hs 15 rfl 0 (by decide) tw_39 rfl rfl (dk hX4_hides_0 29 rfl) ?_
      refine lv_iload_n hx hb (dk hX4_hides_0 30 rfl) rfl (lv_at hl 1 rfl) ?_
      obtain ⟨v_9, e_10, hf⟩ := Option.bind_eq_some_iff.mp hf
      refine rild C hs 16 rfl e_10 (dk hX4_hides_0 31 rfl) ?_
      cases hf
      exact ri C hs (dk hX4_hides_0 32 rfl)
    · replace hf := ip hf hc
      refine lv_aload_n hx hb (dk hX4_hides_0 13 rfl) rfl (lv_at hl 0 rfl) ?_
      refine lv_bipush (v := (-3 : Int32)) hx hb (dk hX4_hides_0 14 rfl) (by decide) ?_
      obtain ⟨u_11, e_12, hf⟩ := Option.bind_eq_some_iff.mp hf
      refine Ct.V (As := [.int (-3 : Int32)]) (rest := []) (st1 := [.int u_11.2]) (w1 := (wT G ad adt adb ade adm adn adk adp adr u_11.1 tcells lcells m_there m_used m_hidden m_kind m_figure m_cargo m_load n_there n_used n_hidden n_kind n_figure n_cargo n_load k_there k_used k_hidden k_kind k_figure k_cargo k_load isKept tlen llen m_ships m_inn m_coughs m_day n_ships n_inn n_coughs n_day k_ships k_inn k_coughs k_day held perm hist)) C hs (c_X4_refuse e_12) tw_166 tw_168 tw_0 tw_17 tw_169 nq_X4_refuse (by decide) 0 4 rfl rfl rfl rfl hl.1 rfl (Nat.le_of_ble_eq_true rfl) (dk hX4_hides_0 15 rfl) ⟨Nat.zero_le _, Nat.zero_le _⟩ rfl (fun H locs hs => ?_)
      cases hf
      exact ri C hs (dk hX4_hides_0 16 rfl)
  · replace hf := ip hf hc
    refine lv_aload_n hx hb (dk hX4_hides_0 3 rfl) rfl (lv_at hl 0 rfl) ?_
    refine lv_iconst (v := (-1 : Int32)) hx hb (dk hX4_hides_0 4 rfl) (by decide) ?_
    obtain ⟨u_13, e_14, hf⟩ := Option.bind_eq_some_iff.mp hf
    refine Ct.V (As := [.int (-1 : Int32)]) (rest := []) (st1 := [.int u_13.2]) (w1 := (wT G ad adt adb ade adm adn adk adp adr u_13.1 tcells lcells m_there m_used m_hidden m_kind m_figure m_cargo m_load n_there n_used n_hidden n_kind n_figure n_cargo n_load k_there k_used k_hidden k_kind k_figure k_cargo k_load isKept tlen llen m_ships m_inn m_coughs m_day n_ships n_inn n_coughs n_day k_ships k_inn k_coughs k_day held perm hist)) C hs (c_X4_refuse e_14) tw_166 tw_168 tw_0 tw_17 tw_169 nq_X4_refuse (by decide) 0 4 rfl rfl rfl rfl hl.1 rfl (Nat.le_of_ble_eq_true rfl) (dk hX4_hides_0 5 rfl) ⟨Nat.zero_le _, Nat.zero_le _⟩ rfl (fun H locs hs => ?_)
    cases hf
    exact ri C hs (dk hX4_hides_0 6 rfl)

def X4_sends (refusals : List Int32) (n_there : List Int32) (n_used : List Int32) (n_hidden : List Int32) (n_kind : List Int32) (n_figure : List Int32) (n_cargo : List Int32) (n_load : List Int32) (n_ships : Int32) (n_inn : Int32) (n_coughs : Int32) (n_day : Int32) (held : Int32) (perm : Nat → Nat) (hist : Nat → Hs) (p0 : Int32) (p1 : Int32) : Option (List Int32 × List Int32 × Int32 × Int32 × (Nat → Nat) × (Nat → Hs) × Int32) :=
  (X0_isShip n_ships p0).bind fun u_1 =>
  if u_1 = (0 : Int32) then
  (X4_refuse refusals (-1 : Int32)).bind fun u_19 =>
  some (u_19.1, n_load, n_inn, held, perm, hist, u_19.2)
  else
  (X4_misfit p1 (0 : Int32) (99 : Int32)).bind fun u_3 =>
  if u_3 = (0 : Int32) then
  (X0_isIn n_inn p0).bind fun u_5 =>
  if u_5 = (0 : Int32) then
  (X4_refuse refusals (-3 : Int32)).bind fun u_15 =>
  some (u_15.1, n_load, n_inn, held, perm, hist, u_15.2)
  else
  (X2_keep n_there n_used n_hidden n_kind n_figure n_cargo n_load n_ships n_inn n_coughs n_day held perm hist).bind fun u_7 =>
  (rd n_load p0).bind fun v_9 =>
  (wr n_load p0 p1).bind fun n_load_11 =>
  (X0_sendOut n_inn p0).bind fun u_13 =>
  some (refusals, n_load_11, u_13, u_7.1, u_7.2.1, u_7.2.2, v_9)
  else
  (X4_refuse refusals u_3).bind fun u_17 =>
  some (u_17.1, n_load, n_inn, held, perm, hist, u_17.2)
set_option maxRecDepth 100000 in
set_option maxHeartbeats 4000000 in
theorem c_X4_sends {l : Launch} {G : Gx} {ad adt adb ade adm adn adk adp : Nat → Nat} {adr : Nat → Nat → Nat} {refusals tcells lcells m_there m_used m_hidden m_kind m_figure m_cargo m_load n_there n_used n_hidden n_kind n_figure n_cargo n_load k_there k_used k_hidden k_kind k_figure k_cargo k_load : List Int32} {isKept tlen llen m_ships m_inn m_coughs m_day n_ships n_inn n_coughs n_day k_ships k_inn k_coughs k_day held : Int32} {perm : Nat → Nat} {hist : Nat → Hs} {p0 : Int32} {p1 : Int32} {out : List Int32 × List Int32 × Int32 × Int32 × (Nat → Nat) × (Nat → Hs) × Int32} (hf : X4_sends refusals n_there n_used n_hidden n_kind n_figure n_cargo n_load n_ships n_inn n_coughs n_day held perm hist p0 p1 = some out) : Ct l G yX4_sends cX4_sends 5 (some .int) 2 44 [.ref (ad 0), .int p0, .int p1] (wT G ad adt adb ade adm adn adk adp adr refusals tcells lcells m_there m_used m_hidden m_kind m_figure m_cargo m_load n_there n_used n_hidden n_kind n_figure n_cargo n_load k_there k_used k_hidden k_kind k_figure k_cargo k_load isKept tlen llen m_ships m_inn m_coughs m_day n_ships n_inn n_coughs n_day k_ships k_inn k_coughs k_day held perm hist) (some (.int out.2.2.2.2.2.2)) (wT G ad adt adb ade adm adn adk adp adr out.1 tcells lcells m_there m_used m_hidden m_kind m_figure m_cargo m_load n_there n_used n_hidden n_kind n_figure n_cargo out.2.1 k_there k_used k_hidden k_kind k_figure k_cargo k_load isKept tlen llen m_ships m_inn m_coughs m_day n_ships out.2.2.1 n_coughs n_day k_ships k_inn k_coughs k_day out.2.2.2.1 out.2.2.2.2.1 out.2.2.2.2.2.1) := by
  refine Ct.intro RX4 rfl (plainFor_of_name (by decide)) (Nat.le_of_ble_eq_true rfl) rfl ?_
  intro p e s m args below meth c A C H locs hs ls hl
  obtain ⟨hx, hb, hml, hown, hts, hK, hret, hlk⟩ := id C
  have hl : lv_has ls 5 [(0, .ref (ad 0)), (1, .int p0), (2, .int p1)] := hl
  unfold X4_sends at hf
  refine lv_aload_n hx hb (dk hX4_sends_0 0 rfl) rfl (lv_at hl 0 rfl) ?_
  refine rg ui4 rfl C hs 0 rfl 0 (by decide) tw_134 rfl rfl (dk hX4_sends_0 1 rfl) ?_
  refine lv_iload_n hx hb (dk hX4_sends_0 2 rfl) rfl (lv_at hl 1 rfl) ?_
  obtain ⟨u_1, e_2, hf⟩ := Option.bind_eq_some_iff.mp hf
  refine Ct.V (As := [.int p0]) (rest := []) (st1 := [.int u_1]) (w1 := (wT G ad adt adb ade adm adn adk adp adr refusals tcells lcells m_there m_used m_hidden m_kind m_figure m_cargo m_load n_there n_used n_hidden n_kind n_figure n_cargo n_load k_there k_used k_hidden k_kind k_figure k_cargo k_load isKept tlen llen m_ships m_inn m_coughs m_day n_ships n_inn n_coughs n_day k_ships k_inn k_coughs k_day held perm hist)) C hs (c_X0_isShip__now e_2) tw_178 tw_179 tw_180 tw_18 tw_181 nq_X0_isShip (by decide) 15 0 rfl rfl rfl rfl hl.1 rfl (Nat.le_of_ble_eq_true rfl) (dk hX4_sends_0 3 rfl) ⟨Nat.zero_le _, Nat.zero_le _⟩ rfl (fun H locs hs => ?_)
  refine lv_if_ne (tgt := 17) hx hb (dk hX4_sends_0 4 rfl) (by decide) (fun hc => ?_) (fun hc => ?_)
  · replace hf := in_ hf hc
    refine lv_iload_n hx hb (dk hX4_sends_0 9 rfl) rfl (lv_at hl 2 rfl) ?_
    refine lv_iconst (v := (0 : Int32)) hx hb (dk hX4_sends_0 10 rfl) (by decide) ?_
    refine lv_bipush (v := (99 : Int32)) hx hb (dk hX4_sends_0 11 rfl) (by decide) ?_
    obtain ⟨u_3, e_4, hf⟩ := Option.bind_eq_some_iff.mp hf
    refine Ct.S (As := [.int p1, .int (0 : Int32), .int (99 : Int32)]) (rest := []) (st1 := [.int u_3]) (w1 := (wT G ad adt adb ade adm adn adk adp adr refusals tcells lcells m_there m_used m_hidden m_kind m_figure m_cargo m_load n_there n_used n_hidden n_kind n_figure n_cargo n_load k_there k_used k_hidden k_kind k_figure k_cargo k_load isKept tlen llen m_ships m_inn m_coughs m_day n_ships n_inn n_coughs n_day k_ships k_inn k_coughs k_day held perm hist)) C hs (c_X4_misfit e_4) tw_224 tw_225 tw_17 tw_226 nq_X4_misfit (by decide) rfl hl.1 rfl (Nat.le_of_ble_eq_true rfl) (dk hX4_sends_0 12 rfl) ⟨Nat.zero_le _, Nat.zero_le _⟩ rfl (fun H locs hs => ?_)
    refine lv_istore_n (lv' := [(3, .int u_3), (0, .ref (ad 0)), (1, .int p0), (2, .int p1)]) hx hb (dk hX4_sends_0 13 rfl) rfl hl (by decide) rfl (fun ls hl => ?_)
    refine lv_iload_n hx hb (dk hX4_sends_0 14 rfl) rfl (lv_at hl 0 rfl) ?_
    refine lv_if_eq (tgt := 35) hx hb (dk hX4_sends_0 15 rfl) (by decide) (fun hc => ?_) (fun hc => ?_)
    · replace hf := ip hf hc
      refine lv_aload_n hx hb (dk hX4_sends_0 20 rfl) rfl (lv_at hl 1 rfl) ?_
      refine rg ui4 rfl C hs 0 rfl 0 (by decide) tw_134 rfl rfl (dk hX4_sends_0 21 rfl) ?_
      refine lv_iload_n hx hb (dk hX4_sends_0 22 rfl) rfl (lv_at hl 2 rfl) ?_
      obtain ⟨u_5, e_6, hf⟩ := Option.bind_eq_some_iff.mp hf
      refine Ct.V (As := [.int p0]) (rest := []) (st1 := [.int u_5]) (w1 := (wT G ad adt adb ade adm adn adk adp adr refusals tcells lcells m_there m_used m_hidden m_kind m_figure m_cargo m_load n_there n_used n_hidden n_kind n_figure n_cargo n_load k_there k_used k_hidden k_kind k_figure k_cargo k_load isKept tlen llen m_ships m_inn m_coughs m_day n_ships n_inn n_coughs n_day k_ships k_inn k_coughs k_day held perm hist)) C hs (c_X0_isIn__now e_6) tw_182 tw_183 tw_184 tw_18 tw_185 nq_X0_isIn (by decide) 15 0 rfl rfl rfl rfl hl.1 rfl (Nat.le_of_ble_eq_true rfl) (dk hX4_sends_0 23 rfl) ⟨Nat.zero_le _, Nat.zero_le _⟩ rfl (fun H locs hs => ?_)
      refine lv_if_ne (tgt := 53) hx hb (dk hX4_sends_0 24 rfl) (by decide) (fun hc => ?_) (fun hc => ?_)
      · replace hf := in_ hf hc
        refine lv_aload_n hx hb (dk hX4_sends_0 29 rfl) rfl (lv_at hl 1 rfl) ?_
        refine rg ui4 rfl C hs 0 rfl 3 (by decide) tw_137 rfl rfl (dk hX4_sends_0 30 rfl) ?_
        refine lv_aload_n hx hb (dk hX4_sends_0 31 rfl) rfl (lv_at hl 1 rfl) ?_
        refine rg ui4 rfl C hs 0 rfl 0 (by decide) tw_134 rfl rfl (dk hX4_sends_0 32 rfl) ?_
        obtain ⟨u_7, e_8, hf⟩ := Option.bind_eq_some_iff.mp hf
        refine Ct.V (As := [.ref (adn 0)]) (rest := []) (st1 := []) (w1 := (wT G ad adt adb ade adm adn adk adp adr refusals tcells lcells m_there m_used m_hidden m_kind m_figure m_cargo m_load n_there n_used n_hidden n_kind n_figure n_cargo n_load k_there k_used k_hidden k_kind k_figure k_cargo k_load isKept tlen llen m_ships m_inn m_coughs m_day n_ships n_inn n_coughs n_day k_ships k_inn k_coughs k_day u_7.1 u_7.2.1 u_7.2.2)) C hs (c_X2_keep e_8) tw_236 tw_237 tw_238 tw_19 tw_239 nq_X2_keep (by decide) 31 2 rfl rfl rfl rfl hl.1 rfl (Nat.le_of_ble_eq_true rfl) (dk hX4_sends_0 33 rfl) ⟨Nat.zero_le _, Nat.zero_le _⟩ rfl (fun H locs hs => ?_)
        refine lv_aload_n hx hb (dk hX4_sends_0 34 rfl) rfl (lv_at hl 1 rfl) ?_
        refine rg ui4 rfl C hs 0 rfl 0 (by decide) tw_134 rfl rfl (dk hX4_sends_0 35 rfl) ?_
        refine rg ui0 rfl C hs 15 rfl 6 (by decide) tw_53 rfl rfl (dk hX4_sends_0 36 rfl) ?_
        refine lv_iload_n hx hb (dk hX4_sends_0 37 rfl) rfl (lv_at hl 2 rfl) ?_
        obtain ⟨v_9, e_10, hf⟩ := Option.bind_eq_some_iff.mp hf
        refine rild C hs 22 rfl e_10 (dk hX4_sends_0 38 rfl) ?_
        refine lv_istore (lv' := [(4, .int v_9), (3, .int u_3), (0, .ref (ad 0)), (1, .int p0), (2, .int p1)]) hx hb (dk hX4_sends_0 39 rfl) hl (by decide) rfl (fun ls hl => ?_)
        refine lv_aload_n hx hb (dk hX4_sends_1 0 rfl) rfl (lv_at hl 2 rfl) ?_
        refine rg ui4 rfl C hs 0 rfl 0 (by decide) tw_134 rfl rfl (dk hX4_sends_1 1 rfl) ?_
        refine rg ui0 rfl C hs 15 rfl 6 (by decide) tw_53 rfl rfl (dk hX4_sends_1 2 rfl) ?_
        refine lv_iload_n hx hb (dk hX4_sends_1 3 rfl) rfl (lv_at hl 3 rfl) ?_
        refine lv_iload_n hx hb (dk hX4_sends_1 4 rfl) rfl (lv_at hl 4 rfl) ?_
        obtain ⟨n_load_11, e_12, hf⟩ := Option.bind_eq_some_iff.mp hf
        refine rist (w1 := (wT G ad adt adb ade adm adn adk adp adr refusals tcells lcells m_there m_used m_hidden m_kind m_figure m_cargo m_load n_there n_used n_hidden n_kind n_figure n_cargo n_load_11 k_there k_used k_hidden k_kind k_figure k_cargo k_load isKept tlen llen m_ships m_inn m_coughs m_day n_ships n_inn n_coughs n_day k_ships k_inn k_coughs k_day u_7.1 u_7.2.1 u_7.2.2)) C hs 22 rfl e_12 rfl (dk hX4_sends_1 5 rfl) (fun H locs hs => ?_)
        refine lv_aload_n hx hb (dk hX4_sends_1 6 rfl) rfl (lv_at hl 2 rfl) ?_
        refine rg ui4 rfl C hs 0 rfl 0 (by decide) tw_134 rfl rfl (dk hX4_sends_1 7 rfl) ?_
        refine lv_iload_n hx hb (dk hX4_sends_1 8 rfl) rfl (lv_at hl 3 rfl) ?_
        obtain ⟨u_13, e_14, hf⟩ := Option.bind_eq_some_iff.mp hf
        refine Ct.V (As := [.int p0]) (rest := []) (st1 := []) (w1 := (wT G ad adt adb ade adm adn adk adp adr refusals tcells lcells m_there m_used m_hidden m_kind m_figure m_cargo m_load n_there n_used n_hidden n_kind n_figure n_cargo n_load_11 k_there k_used k_hidden k_kind k_figure k_cargo k_load isKept tlen llen m_ships m_inn m_coughs m_day n_ships u_13 n_coughs n_day k_ships k_inn k_coughs k_day u_7.1 u_7.2.1 u_7.2.2)) C hs (c_X0_sendOut__now e_14) tw_260 tw_261 tw_262 tw_18 tw_263 nq_X0_sendOut (by decide) 15 0 rfl rfl rfl rfl hl.1 rfl (Nat.le_of_ble_eq_true rfl) (dk hX4_sends_1 9 rfl) ⟨Nat.zero_le _, Nat.zero_le _⟩ rfl (fun H locs hs => ?_)
        refine lv_iload hx hb (dk hX4_sends_1 10 rfl) (lv_at hl 0 rfl) ?_
        cases hf
        exact ri C hs (dk hX4_sends_1 11 rfl)
      · replace hf := ip hf hc
        refine lv_aload_n hx hb (dk hX4_sends_0 25 rfl) rfl (lv_at hl 1 rfl) ?_
        refine lv_bipush (v := (-3 : Int32)) hx hb (dk hX4_sends_0 26 rfl) (by decide) ?_
        obtain ⟨u_15, e_16, hf⟩ := Option.bind_eq_some_iff.mp hf
        refine Ct.V (As := [.int (-3 : Int32)]) (rest := []) (st1 := [.int u_15.2]) (w1 := (wT G ad adt adb ade adm adn adk adp adr u_15.1 tcells lcells m_there m_used m_hidden m_kind m_figure m_cargo m_load n_there n_used n_hidden n_kind n_figure n_cargo n_load k_there k_used k_hidden k_kind k_figure k_cargo k_load isKept tlen llen m_ships m_inn m_coughs m_day n_ships n_inn n_coughs n_day k_ships k_inn k_coughs k_day held perm hist)) C hs (c_X4_refuse e_16) tw_166 tw_168 tw_0 tw_17 tw_169 nq_X4_refuse (by decide) 0 4 rfl rfl rfl rfl hl.1 rfl (Nat.le_of_ble_eq_true rfl) (dk hX4_sends_0 27 rfl) ⟨Nat.zero_le _, Nat.zero_le _⟩ rfl (fun H locs hs => ?_)
        cases hf
        exact ri C hs (dk hX4_sends_0 28 rfl)
    · replace hf := in_ hf hc
      refine lv_aload_n hx hb (dk hX4_sends_0 16 rfl) rfl (lv_at hl 1 rfl) ?_
      refine lv_iload_n hx hb (dk hX4_sends_0 17 rfl) rfl (lv_at hl 0 rfl) ?_
      obtain ⟨u_17, e_18, hf⟩ := Option.bind_eq_some_iff.mp hf
      refine Ct.V (As := [.int u_3]) (rest := []) (st1 := [.int u_17.2]) (w1 := (wT G ad adt adb ade adm adn adk adp adr u_17.1 tcells lcells m_there m_used m_hidden m_kind m_figure m_cargo m_load n_there n_used n_hidden n_kind n_figure n_cargo n_load k_there k_used k_hidden k_kind k_figure k_cargo k_load isKept tlen llen m_ships m_inn m_coughs m_day n_ships n_inn n_coughs n_day k_ships k_inn k_coughs k_day held perm hist)) C hs (c_X4_refuse e_18) tw_166 tw_168 tw_0 tw_17 tw_169 nq_X4_refuse (by decide) 0 4 rfl rfl rfl rfl hl.1 rfl (Nat.le_of_ble_eq_true rfl) (dk hX4_sends_0 18 rfl) ⟨Nat.zero_le _, Nat.zero_le _⟩ rfl (fun H locs hs => ?_)
      cases hf
      exact ri C hs (dk hX4_sends_0 19 rfl)
  · replace hf := ip hf hc
    refine lv_aload_n hx hb (dk hX4_sends_0 5 rfl) rfl (lv_at hl 0 rfl) ?_
    refine lv_iconst (v := (-1 : Int32)) hx hb (dk hX4_sends_0 6 rfl) (by decide) ?_
    obtain ⟨u_19, e_20, hf⟩ := Option.bind_eq_some_iff.mp hf
    refine Ct.V (As := [.int (-1 : Int32)]) (rest := []) (st1 := [.int u_19.2]) (w1 := (wT G ad adt adb ade adm adn adk adp adr u_19.1 tcells lcells m_there m_used m_hidden m_kind m_figure m_cargo m_load n_there n_used n_hidden n_kind n_figure n_cargo n_load k_there k_used k_hidden k_kind k_figure k_cargo k_load isKept tlen llen m_ships m_inn m_coughs m_day n_ships n_inn n_coughs n_day k_ships k_inn k_coughs k_day held perm hist)) C hs (c_X4_refuse e_20) tw_166 tw_168 tw_0 tw_17 tw_169 nq_X4_refuse (by decide) 0 4 rfl rfl rfl rfl hl.1 rfl (Nat.le_of_ble_eq_true rfl) (dk hX4_sends_0 7 rfl) ⟨Nat.zero_le _, Nat.zero_le _⟩ rfl (fun H locs hs => ?_)
    cases hf
    exact ri C hs (dk hX4_sends_0 8 rfl)

def X4_days (refusals : List Int32) (n_there : List Int32) (n_used : List Int32) (n_hidden : List Int32) (n_kind : List Int32) (n_figure : List Int32) (n_cargo : List Int32) (n_load : List Int32) (n_ships : Int32) (n_inn : Int32) (n_coughs : Int32) (n_day : Int32) (held : Int32) (perm : Nat → Nat) (hist : Nat → Hs) (p0 : Int32) : Option (List Int32 × List Int32 × Int32 × Int32 × Int32 × Int32 × (Nat → Nat) × (Nat → Hs) × Int32) :=
  (X4_misfit p0 (1 : Int32) (60 : Int32)).bind fun u_1 =>
  if u_1 = (0 : Int32) then
  if (n_day + p0) ≤ (999 : Int32) then
  (X2_keep n_there n_used n_hidden n_kind n_figure n_cargo n_load n_ships n_inn n_coughs n_day held perm hist).bind fun u_3 =>
  (X0_passDays n_there n_used n_hidden n_kind n_figure n_cargo n_load n_ships n_inn n_coughs n_day p0).bind fun u_5 =>
  (J6_bitCount_0f7a4 u_5.2.1).bind fun u_7 =>
  some (refusals, u_5.1, u_5.2.1, u_5.2.2.1, u_5.2.2.2, u_3.1, u_3.2.1, u_3.2.2, u_7)
  else
  (X4_refuse refusals (-6 : Int32)).bind fun u_9 =>
  some (u_9.1, n_there, n_inn, n_coughs, n_day, held, perm, hist, u_9.2)
  else
  (X4_refuse refusals u_1).bind fun u_11 =>
  some (u_11.1, n_there, n_inn, n_coughs, n_day, held, perm, hist, u_11.2)
set_option maxRecDepth 100000 in
set_option maxHeartbeats 4000000 in
theorem c_X4_days {l : Launch} {G : Gx} {ad adt adb ade adm adn adk adp : Nat → Nat} {adr : Nat → Nat → Nat} {refusals tcells lcells m_there m_used m_hidden m_kind m_figure m_cargo m_load n_there n_used n_hidden n_kind n_figure n_cargo n_load k_there k_used k_hidden k_kind k_figure k_cargo k_load : List Int32} {isKept tlen llen m_ships m_inn m_coughs m_day n_ships n_inn n_coughs n_day k_ships k_inn k_coughs k_day held : Int32} {perm : Nat → Nat} {hist : Nat → Hs} {p0 : Int32} {out : List Int32 × List Int32 × Int32 × Int32 × Int32 × Int32 × (Nat → Nat) × (Nat → Hs) × Int32} (hf : X4_days refusals n_there n_used n_hidden n_kind n_figure n_cargo n_load n_ships n_inn n_coughs n_day held perm hist p0 = some out) : Ct l G yX4_days cX4_days 3 (some .int) 5 111 [.ref (ad 0), .int p0] (wT G ad adt adb ade adm adn adk adp adr refusals tcells lcells m_there m_used m_hidden m_kind m_figure m_cargo m_load n_there n_used n_hidden n_kind n_figure n_cargo n_load k_there k_used k_hidden k_kind k_figure k_cargo k_load isKept tlen llen m_ships m_inn m_coughs m_day n_ships n_inn n_coughs n_day k_ships k_inn k_coughs k_day held perm hist) (some (.int out.2.2.2.2.2.2.2.2)) (wT G ad adt adb ade adm adn adk adp adr out.1 tcells lcells m_there m_used m_hidden m_kind m_figure m_cargo m_load out.2.1 n_used n_hidden n_kind n_figure n_cargo n_load k_there k_used k_hidden k_kind k_figure k_cargo k_load isKept tlen llen m_ships m_inn m_coughs m_day n_ships out.2.2.1 out.2.2.2.1 out.2.2.2.2.1 k_ships k_inn k_coughs k_day out.2.2.2.2.2.1 out.2.2.2.2.2.2.1 out.2.2.2.2.2.2.2.1) := by
  refine Ct.intro RX4 rfl (plainFor_of_name (by decide)) (Nat.le_of_ble_eq_true rfl) rfl ?_
  intro p e s m args below meth c A C H locs hs ls hl
  obtain ⟨hx, hb, hml, hown, hts, hK, hret, hlk⟩ := id C
  have hl : lv_has ls 3 [(0, .ref (ad 0)), (1, .int p0)] := hl
  unfold X4_days at hf
  refine lv_iload_n hx hb (dk hX4_days_0 0 rfl) rfl (lv_at hl 1 rfl) ?_
  refine lv_iconst (v := (1 : Int32)) hx hb (dk hX4_days_0 1 rfl) (by decide) ?_
  refine lv_bipush (v := (60 : Int32)) hx hb (dk hX4_days_0 2 rfl) (by decide) ?_
  obtain ⟨u_1, e_2, hf⟩ := Option.bind_eq_some_iff.mp hf
  refine Ct.S (As := [.int p0, .int (1 : Int32), .int (60 : Int32)]) (rest := []) (st1 := [.int u_1]) (w1 := (wT G ad adt adb ade adm adn adk adp adr refusals tcells lcells m_there m_used m_hidden m_kind m_figure m_cargo m_load n_there n_used n_hidden n_kind n_figure n_cargo n_load k_there k_used k_hidden k_kind k_figure k_cargo k_load isKept tlen llen m_ships m_inn m_coughs m_day n_ships n_inn n_coughs n_day k_ships k_inn k_coughs k_day held perm hist)) C hs (c_X4_misfit e_2) tw_224 tw_225 tw_17 tw_226 nq_X4_misfit (by decide) rfl hl.1 rfl (Nat.le_of_ble_eq_true rfl) (dk hX4_days_0 3 rfl) ⟨Nat.zero_le _, Nat.zero_le _⟩ rfl (fun H locs hs => ?_)
  refine lv_istore_n (lv' := [(2, .int u_1), (0, .ref (ad 0)), (1, .int p0)]) hx hb (dk hX4_days_0 4 rfl) rfl hl (by decide) rfl (fun ls hl => ?_)
  refine lv_iload_n hx hb (dk hX4_days_0 5 rfl) rfl (lv_at hl 0 rfl) ?_
  refine lv_if_eq (tgt := 18) hx hb (dk hX4_days_0 6 rfl) (by decide) (fun hc => ?_) (fun hc => ?_)
  · replace hf := ip hf hc
    refine lv_aload_n hx hb (dk hX4_days_0 11 rfl) rfl (lv_at hl 1 rfl) ?_
    refine rg ui4 rfl C hs 0 rfl 0 (by decide) tw_134 rfl rfl (dk hX4_days_0 12 rfl) ?_
    refine rg ui0 rfl C hs 15 rfl 10 (by decide) tw_63 rfl rfl (dk hX4_days_0 13 rfl) ?_
    refine lv_iload_n hx hb (dk hX4_days_0 14 rfl) rfl (lv_at hl 2 rfl) ?_
    refine lv_iadd hx hb (dk hX4_days_0 15 rfl) ?_
    refine lv_sipush (v := (999 : Int32)) hx hb (dk hX4_days_0 16 rfl) (by decide) ?_
    refine lv_icmp_le (tgt := 40) hx hb (dk hX4_days_0 17 rfl) (by decide) (fun hc => ?_) (fun hc => ?_)
    · replace hf := ip hf hc
      refine lv_aload_n hx hb (dk hX4_days_0 22 rfl) rfl (lv_at hl 1 rfl) ?_
      refine rg ui4 rfl C hs 0 rfl 3 (by decide) tw_137 rfl rfl (dk hX4_days_0 23 rfl) ?_
      refine lv_aload_n hx hb (dk hX4_days_0 24 rfl) rfl (lv_at hl 1 rfl) ?_
      refine rg ui4 rfl C hs 0 rfl 0 (by decide) tw_134 rfl rfl (dk hX4_days_0 25 rfl) ?_
      obtain ⟨u_3, e_4, hf⟩ := Option.bind_eq_some_iff.mp hf
      refine Ct.V (As := [.ref (adn 0)]) (rest := []) (st1 := []) (w1 := (wT G ad adt adb ade adm adn adk adp adr refusals tcells lcells m_there m_used m_hidden m_kind m_figure m_cargo m_load n_there n_used n_hidden n_kind n_figure n_cargo n_load k_there k_used k_hidden k_kind k_figure k_cargo k_load isKept tlen llen m_ships m_inn m_coughs m_day n_ships n_inn n_coughs n_day k_ships k_inn k_coughs k_day u_3.1 u_3.2.1 u_3.2.2)) C hs (c_X2_keep e_4) tw_236 tw_237 tw_238 tw_19 tw_239 nq_X2_keep (by decide) 31 2 rfl rfl rfl rfl hl.1 rfl (Nat.le_of_ble_eq_true rfl) (dk hX4_days_0 26 rfl) ⟨Nat.zero_le _, Nat.zero_le _⟩ rfl (fun H locs hs => ?_)
      refine lv_aload_n hx hb (dk hX4_days_0 27 rfl) rfl (lv_at hl 1 rfl) ?_
      refine rg ui4 rfl C hs 0 rfl 0 (by decide) tw_134 rfl rfl (dk hX4_days_0 28 rfl) ?_
      refine lv_iload_n hx hb (dk hX4_days_0 29 rfl) rfl (lv_at hl 2 rfl) ?_
      obtain ⟨u_5, e_6, hf⟩ := Option.bind_eq_some_iff.mp hf
      refine Ct.V (As := [.int p0]) (rest := []) (st1 := []) (w1 := (wT G ad adt adb ade adm adn adk adp adr refusals tcells lcells m_there m_used m_hidden m_kind m_figure m_cargo m_load u_5.1 n_used n_hidden n_kind n_figure n_cargo n_load k_there k_used k_hidden k_kind k_figure k_cargo k_load isKept tlen llen m_ships m_inn m_coughs m_day n_ships u_5.2.1 u_5.2.2.1 u_5.2.2.2 k_ships k_inn k_coughs k_day u_3.1 u_3.2.1 u_3.2.2)) C hs (c_X0_passDays__now e_6) tw_268 tw_269 tw_270 tw_18 tw_271 nq_X0_passDays (by decide) 15 0 rfl rfl rfl rfl hl.1 rfl (Nat.le_of_ble_eq_true rfl) (dk hX4_days_0 30 rfl) ⟨Nat.zero_le _, Nat.zero_le _⟩ rfl (fun H locs hs => ?_)
      refine lv_aload_n hx hb (dk hX4_days_0 31 rfl) rfl (lv_at hl 1 rfl) ?_
      refine rg ui4 rfl C hs 0 rfl 0 (by decide) tw_134 rfl rfl (dk hX4_days_0 32 rfl) ?_
      refine rg ui0 rfl C hs 15 rfl 8 (by decide) tw_58 rfl rfl (dk hX4_days_0 33 rfl) ?_
      obtain ⟨u_7, e_8, hf⟩ := Option.bind_eq_some_iff.mp hf
      refine Ct.S (As := [.int u_5.2.1]) (rest := []) (st1 := [.int u_7]) (w1 := (wT G ad adt adb ade adm adn adk adp adr refusals tcells lcells m_there m_used m_hidden m_kind m_figure m_cargo m_load u_5.1 n_used n_hidden n_kind n_figure n_cargo n_load k_there k_used k_hidden k_kind k_figure k_cargo k_load isKept tlen llen m_ships m_inn m_coughs m_day n_ships u_5.2.1 u_5.2.2.1 u_5.2.2.2 k_ships k_inn k_coughs k_day u_3.1 u_3.2.1 u_3.2.2)) C hs (c_J6_bitCount_0f7a4 e_8) tw_290 tw_291 tw_23 tw_292 nq_J6_bitCount_0f7a4 (by decide) rfl hl.1 rfl (Nat.le_of_ble_eq_true rfl) (dk hX4_days_0 34 rfl) ⟨Nat.zero_le _, Nat.zero_le _⟩ rfl (fun H locs hs => ?_)
      cases hf
      exact ri C hs (dk hX4_days_0 35 rfl)
    · replace hf := in_ hf hc
      refine lv_aload_n hx hb (dk hX4_days_0 18 rfl) rfl (lv_at hl 1 rfl) ?_
      refine lv_bipush (v := (-6 : Int32)) hx hb (dk hX4_days_0 19 rfl) (by decide) ?_
      obtain ⟨u_9, e_10, hf⟩ := Option.bind_eq_some_iff.mp hf
      refine Ct.V (As := [.int (-6 : Int32)]) (rest := []) (st1 := [.int u_9.2]) (w1 := (wT G ad adt adb ade adm adn adk adp adr u_9.1 tcells lcells m_there m_used m_hidden m_kind m_figure m_cargo m_load n_there n_used n_hidden n_kind n_figure n_cargo n_load k_there k_used k_hidden k_kind k_figure k_cargo k_load isKept tlen llen m_ships m_inn m_coughs m_day n_ships n_inn n_coughs n_day k_ships k_inn k_coughs k_day held perm hist)) C hs (c_X4_refuse e_10) tw_166 tw_168 tw_0 tw_17 tw_169 nq_X4_refuse (by decide) 0 4 rfl rfl rfl rfl hl.1 rfl (Nat.le_of_ble_eq_true rfl) (dk hX4_days_0 20 rfl) ⟨Nat.zero_le _, Nat.zero_le _⟩ rfl (fun H locs hs => ?_)
      cases hf
      exact ri C hs (dk hX4_days_0 21 rfl)
  · replace hf := in_ hf hc
    refine lv_aload_n hx hb (dk hX4_days_0 7 rfl) rfl (lv_at hl 1 rfl) ?_
    refine lv_iload_n hx hb (dk hX4_days_0 8 rfl) rfl (lv_at hl 0 rfl) ?_
    obtain ⟨u_11, e_12, hf⟩ := Option.bind_eq_some_iff.mp hf
    refine Ct.V (As := [.int u_1]) (rest := []) (st1 := [.int u_11.2]) (w1 := (wT G ad adt adb ade adm adn adk adp adr u_11.1 tcells lcells m_there m_used m_hidden m_kind m_figure m_cargo m_load n_there n_used n_hidden n_kind n_figure n_cargo n_load k_there k_used k_hidden k_kind k_figure k_cargo k_load isKept tlen llen m_ships m_inn m_coughs m_day n_ships n_inn n_coughs n_day k_ships k_inn k_coughs k_day held perm hist)) C hs (c_X4_refuse e_12) tw_166 tw_168 tw_0 tw_17 tw_169 nq_X4_refuse (by decide) 0 4 rfl rfl rfl rfl hl.1 rfl (Nat.le_of_ble_eq_true rfl) (dk hX4_days_0 9 rfl) ⟨Nat.zero_le _, Nat.zero_le _⟩ rfl (fun H locs hs => ?_)
    cases hf
    exact ri C hs (dk hX4_days_0 10 rfl)

def X4_back (refusals : List Int32) (n_there : List Int32) (n_used : List Int32) (n_hidden : List Int32) (n_kind : List Int32) (n_figure : List Int32) (n_cargo : List Int32) (n_load : List Int32) (n_ships : Int32) (n_inn : Int32) (n_coughs : Int32) (n_day : Int32) (held : Int32) (perm : Nat → Nat) (hist : Nat → Hs) : Option (List Int32 × List Int32 × List Int32 × List Int32 × List Int32 × List Int32 × List Int32 × List Int32 × Int32 × Int32 × Int32 × Int32 × Int32 × Int32) :=
  (X2_held held).bind fun u_1 =>
  if u_1 = (0 : Int32) then
  (X4_refuse refusals (-3 : Int32)).bind fun u_7 =>
  some (u_7.1, n_there, n_used, n_hidden, n_kind, n_figure, n_cargo, n_load, n_ships, n_inn, n_coughs, n_day, held, u_7.2)
  else
  (X2_takeBack n_there n_used n_hidden n_kind n_figure n_cargo n_load n_ships n_inn n_coughs n_day held perm hist).bind fun u_3 =>
  (X2_held u_3.2.2.2.2.2.2.2.2.2.2.2).bind fun u_5 =>
  some (refusals, u_3.1, u_3.2.1, u_3.2.2.1, u_3.2.2.2.1, u_3.2.2.2.2.1, u_3.2.2.2.2.2.1, u_3.2.2.2.2.2.2.1, u_3.2.2.2.2.2.2.2.1, u_3.2.2.2.2.2.2.2.2.1, u_3.2.2.2.2.2.2.2.2.2.1, u_3.2.2.2.2.2.2.2.2.2.2.1, u_3.2.2.2.2.2.2.2.2.2.2.2, u_5)
set_option maxRecDepth 100000 in
set_option maxHeartbeats 4000000 in
theorem c_X4_back {l : Launch} {G : Gx} {ad adt adb ade adm adn adk adp : Nat → Nat} {adr : Nat → Nat → Nat} {refusals tcells lcells m_there m_used m_hidden m_kind m_figure m_cargo m_load n_there n_used n_hidden n_kind n_figure n_cargo n_load k_there k_used k_hidden k_kind k_figure k_cargo k_load : List Int32} {isKept tlen llen m_ships m_inn m_coughs m_day n_ships n_inn n_coughs n_day k_ships k_inn k_coughs k_day held : Int32} {perm : Nat → Nat} {hist : Nat → Hs}  {out : List Int32 × List Int32 × List Int32 × List Int32 × List Int32 × List Int32 × List Int32 × List Int32 × Int32 × Int32 × Int32 × Int32 × Int32 × Int32} (hf : X4_back refusals n_there n_used n_hidden n_kind n_figure n_cargo n_load n_ships n_inn n_coughs n_day held perm hist = some out) : Ct l G yX4_back cX4_back 1 (some .int) 2 44 [.ref (ad 0)] (wT G ad adt adb ade adm adn adk adp adr refusals tcells lcells m_there m_used m_hidden m_kind m_figure m_cargo m_load n_there n_used n_hidden n_kind n_figure n_cargo n_load k_there k_used k_hidden k_kind k_figure k_cargo k_load isKept tlen llen m_ships m_inn m_coughs m_day n_ships n_inn n_coughs n_day k_ships k_inn k_coughs k_day held perm hist) (some (.int out.2.2.2.2.2.2.2.2.2.2.2.2.2)) (wT G ad adt adb ade adm adn adk adp adr out.1 tcells lcells m_there m_used m_hidden m_kind m_figure m_cargo m_load out.2.1 out.2.2.1 out.2.2.2.1 out.2.2.2.2.1 out.2.2.2.2.2.1 out.2.2.2.2.2.2.1 out.2.2.2.2.2.2.2.1 k_there k_used k_hidden k_kind k_figure k_cargo k_load isKept tlen llen m_ships m_inn m_coughs m_day out.2.2.2.2.2.2.2.2.1 out.2.2.2.2.2.2.2.2.2.1 out.2.2.2.2.2.2.2.2.2.2.1 out.2.2.2.2.2.2.2.2.2.2.2.1 k_ships k_inn k_coughs k_day out.2.2.2.2.2.2.2.2.2.2.2.2.1 perm hist) := by
  refine Ct.intro RX4 rfl (plainFor_of_name (by decide)) (Nat.le_of_ble_eq_true rfl) rfl ?_
  intro p e s m args below meth c A C H locs hs ls hl
  obtain ⟨hx, hb, hml, hown, hts, hK, hret, hlk⟩ := id C
  have hl : lv_has ls 1 [(0, .ref (ad 0))] := hl
  unfold X4_back at hf
  refine lv_aload_n hx hb (dk hX4_back_0 0 rfl) rfl (lv_at hl 0 rfl) ?_
  refine rg ui4 rfl C hs 0 rfl 3 (by decide) tw_137 rfl rfl (dk hX4_back_0 1 rfl) ?_
  obtain ⟨u_1, e_2, hf⟩ := Option.bind_eq_some_iff.mp hf
  refine Ct.V (As := []) (rest := []) (st1 := [.int u_1]) (w1 := (wT G ad adt adb ade adm adn adk adp adr refusals tcells lcells m_there m_used m_hidden m_kind m_figure m_cargo m_load n_there n_used n_hidden n_kind n_figure n_cargo n_load k_there k_used k_hidden k_kind k_figure k_cargo k_load isKept tlen llen m_ships m_inn m_coughs m_day n_ships n_inn n_coughs n_day k_ships k_inn k_coughs k_day held perm hist)) C hs (c_X2_held e_2) tw_300 tw_301 tw_302 tw_19 tw_303 nq_X2_held (by decide) 31 2 rfl rfl rfl rfl hl.1 rfl (Nat.le_of_ble_eq_true rfl) (dk hX4_back_0 2 rfl) ⟨Nat.zero_le _, Nat.zero_le _⟩ rfl (fun H locs hs => ?_)
  refine lv_if_ne (tgt := 17) hx hb (dk hX4_back_0 3 rfl) (by decide) (fun hc => ?_) (fun hc => ?_)
  · replace hf := in_ hf hc
    refine lv_aload_n hx hb (dk hX4_back_0 8 rfl) rfl (lv_at hl 0 rfl) ?_
    refine rg ui4 rfl C hs 0 rfl 3 (by decide) tw_137 rfl rfl (dk hX4_back_0 9 rfl) ?_
    refine lv_aload_n hx hb (dk hX4_back_0 10 rfl) rfl (lv_at hl 0 rfl) ?_
    refine rg ui4 rfl C hs 0 rfl 0 (by decide) tw_134 rfl rfl (dk hX4_back_0 11 rfl) ?_
    obtain ⟨u_3, e_4, hf⟩ := Option.bind_eq_some_iff.mp hf
    refine Ct.V (As := [.ref (adn 0)]) (rest := []) (st1 := []) (w1 := (wT G ad adt adb ade adm adn adk adp adr refusals tcells lcells m_there m_used m_hidden m_kind m_figure m_cargo m_load u_3.1 u_3.2.1 u_3.2.2.1 u_3.2.2.2.1 u_3.2.2.2.2.1 u_3.2.2.2.2.2.1 u_3.2.2.2.2.2.2.1 k_there k_used k_hidden k_kind k_figure k_cargo k_load isKept tlen llen m_ships m_inn m_coughs m_day u_3.2.2.2.2.2.2.2.1 u_3.2.2.2.2.2.2.2.2.1 u_3.2.2.2.2.2.2.2.2.2.1 u_3.2.2.2.2.2.2.2.2.2.2.1 k_ships k_inn k_coughs k_day u_3.2.2.2.2.2.2.2.2.2.2.2 perm hist)) C hs (c_X2_takeBack e_4) tw_304 tw_305 tw_306 tw_19 tw_307 nq_X2_takeBack (by decide) 31 2 rfl rfl rfl rfl hl.1 rfl (Nat.le_of_ble_eq_true rfl) (dk hX4_back_0 12 rfl) ⟨Nat.zero_le _, Nat.zero_le _⟩ rfl (fun H locs hs => ?_)
    refine lv_aload_n hx hb (dk hX4_back_0 13 rfl) rfl (lv_at hl 0 rfl) ?_
    refine rg ui4 rfl C hs 0 rfl 3 (by decide) tw_137 rfl rfl (dk hX4_back_0 14 rfl) ?_
    obtain ⟨u_5, e_6, hf⟩ := Option.bind_eq_some_iff.mp hf
    refine Ct.V (As := []) (rest := []) (st1 := [.int u_5]) (w1 := (wT G ad adt adb ade adm adn adk adp adr refusals tcells lcells m_there m_used m_hidden m_kind m_figure m_cargo m_load u_3.1 u_3.2.1 u_3.2.2.1 u_3.2.2.2.1 u_3.2.2.2.2.1 u_3.2.2.2.2.2.1 u_3.2.2.2.2.2.2.1 k_there k_used k_hidden k_kind k_figure k_cargo k_load isKept tlen llen m_ships m_inn m_coughs m_day u_3.2.2.2.2.2.2.2.1 u_3.2.2.2.2.2.2.2.2.1 u_3.2.2.2.2.2.2.2.2.2.1 u_3.2.2.2.2.2.2.2.2.2.2.1 k_ships k_inn k_coughs k_day u_3.2.2.2.2.2.2.2.2.2.2.2 perm hist)) C hs (c_X2_held e_6) tw_300 tw_301 tw_302 tw_19 tw_303 nq_X2_held (by decide) 31 2 rfl rfl rfl rfl hl.1 rfl (Nat.le_of_ble_eq_true rfl) (dk hX4_back_0 15 rfl) ⟨Nat.zero_le _, Nat.zero_le _⟩ rfl (fun H locs hs => ?_)
    cases hf
    exact ri C hs (dk hX4_back_0 16 rfl)
  · replace hf := ip hf hc
    refine lv_aload_n hx hb (dk hX4_back_0 4 rfl) rfl (lv_at hl 0 rfl) ?_
    refine lv_bipush (v := (-3 : Int32)) hx hb (dk hX4_back_0 5 rfl) (by decide) ?_
    obtain ⟨u_7, e_8, hf⟩ := Option.bind_eq_some_iff.mp hf
    refine Ct.V (As := [.int (-3 : Int32)]) (rest := []) (st1 := [.int u_7.2]) (w1 := (wT G ad adt adb ade adm adn adk adp adr u_7.1 tcells lcells m_there m_used m_hidden m_kind m_figure m_cargo m_load n_there n_used n_hidden n_kind n_figure n_cargo n_load k_there k_used k_hidden k_kind k_figure k_cargo k_load isKept tlen llen m_ships m_inn m_coughs m_day n_ships n_inn n_coughs n_day k_ships k_inn k_coughs k_day held perm hist)) C hs (c_X4_refuse e_8) tw_166 tw_168 tw_0 tw_17 tw_169 nq_X4_refuse (by decide) 0 4 rfl rfl rfl rfl hl.1 rfl (Nat.le_of_ble_eq_true rfl) (dk hX4_back_0 6 rfl) ⟨Nat.zero_le _, Nat.zero_le _⟩ rfl (fun H locs hs => ?_)
    cases hf
    exact ri C hs (dk hX4_back_0 7 rfl)

def X4_thereIn (refusals : List Int32) (m_there : List Int32) (m_used : List Int32) (m_hidden : List Int32) (m_kind : List Int32) (m_figure : List Int32) (m_cargo : List Int32) (m_load : List Int32) (n_there : List Int32) (n_used : List Int32) (n_hidden : List Int32) (n_kind : List Int32) (n_figure : List Int32) (n_cargo : List Int32) (n_load : List Int32) (m_ships : Int32) (m_inn : Int32) (m_coughs : Int32) (m_day : Int32) (n_ships : Int32) (n_inn : Int32) (n_coughs : Int32) (n_day : Int32) (p0 : Int32) (p1 : Int32) : Option (List Int32 × List Int32 × List Int32 × List Int32 × List Int32 × List Int32 × List Int32 × List Int32 × Int32 × Int32 × Int32 × Int32 × Int32) :=
  (X4_isGood p0).bind fun u_1 =>
  if u_1 = (0 : Int32) then
  (X4_refuse refusals (-1 : Int32)).bind fun u_13 =>
  some (u_13.1, m_there, m_used, m_hidden, m_kind, m_figure, m_cargo, m_load, m_ships, m_inn, m_coughs, m_day, u_13.2)
  else
  (X4_misfit p1 (0 : Int32) (60 : Int32)).bind fun u_3 =>
  if u_3 = (0 : Int32) then
  (X4_fromNow m_there m_used m_hidden m_kind m_figure m_cargo m_load n_there n_used n_hidden n_kind n_figure n_cargo n_load m_ships m_inn m_coughs m_day n_ships n_inn n_coughs n_day).bind fun u_5 =>
  (X0_passDays u_5.1 u_5.2.1 u_5.2.2.1 u_5.2.2.2.1 u_5.2.2.2.2.1 u_5.2.2.2.2.2.1 u_5.2.2.2.2.2.2.1 u_5.2.2.2.2.2.2.2.1 u_5.2.2.2.2.2.2.2.2.1 u_5.2.2.2.2.2.2.2.2.2.1 u_5.2.2.2.2.2.2.2.2.2.2 p1).bind fun u_7 =>
  (rd u_7.1 p0).bind fun v_9 =>
  some (refusals, u_7.1, u_5.2.1, u_5.2.2.1, u_5.2.2.2.1, u_5.2.2.2.2.1, u_5.2.2.2.2.2.1, u_5.2.2.2.2.2.2.1, u_5.2.2.2.2.2.2.2.1, u_7.2.1, u_7.2.2.1, u_7.2.2.2, v_9)
  else
  (X4_refuse refusals u_3).bind fun u_11 =>
  some (u_11.1, m_there, m_used, m_hidden, m_kind, m_figure, m_cargo, m_load, m_ships, m_inn, m_coughs, m_day, u_11.2)
set_option maxRecDepth 100000 in
set_option maxHeartbeats 4000000 in
theorem c_X4_thereIn {l : Launch} {G : Gx} {ad adt adb ade adm adn adk adp : Nat → Nat} {adr : Nat → Nat → Nat} {refusals tcells lcells m_there m_used m_hidden m_kind m_figure m_cargo m_load n_there n_used n_hidden n_kind n_figure n_cargo n_load k_there k_used k_hidden k_kind k_figure k_cargo k_load : List Int32} {isKept tlen llen m_ships m_inn m_coughs m_day n_ships n_inn n_coughs n_day k_ships k_inn k_coughs k_day held : Int32} {perm : Nat → Nat} {hist : Nat → Hs} {p0 : Int32} {p1 : Int32} {out : List Int32 × List Int32 × List Int32 × List Int32 × List Int32 × List Int32 × List Int32 × List Int32 × Int32 × Int32 × Int32 × Int32 × Int32} (hf : X4_thereIn refusals m_there m_used m_hidden m_kind m_figure m_cargo m_load n_there n_used n_hidden n_kind n_figure n_cargo n_load m_ships m_inn m_coughs m_day n_ships n_inn n_coughs n_day p0 p1 = some out) : Ct l G yX4_thereIn cX4_thereIn 5 (some .int) 5 111 [.ref (ad 0), .int p0, .int p1] (wT G ad adt adb ade adm adn adk adp adr refusals tcells lcells m_there m_used m_hidden m_kind m_figure m_cargo m_load n_there n_used n_hidden n_kind n_figure n_cargo n_load k_there k_used k_hidden k_kind k_figure k_cargo k_load isKept tlen llen m_ships m_inn m_coughs m_day n_ships n_inn n_coughs n_day k_ships k_inn k_coughs k_day held perm hist) (some (.int out.2.2.2.2.2.2.2.2.2.2.2.2)) (wT G ad adt adb ade adm adn adk adp adr out.1 tcells lcells out.2.1 out.2.2.1 out.2.2.2.1 out.2.2.2.2.1 out.2.2.2.2.2.1 out.2.2.2.2.2.2.1 out.2.2.2.2.2.2.2.1 n_there n_used n_hidden n_kind n_figure n_cargo n_load k_there k_used k_hidden k_kind k_figure k_cargo k_load isKept tlen llen out.2.2.2.2.2.2.2.2.1 out.2.2.2.2.2.2.2.2.2.1 out.2.2.2.2.2.2.2.2.2.2.1 out.2.2.2.2.2.2.2.2.2.2.2.1 n_ships n_inn n_coughs n_day k_ships k_inn k_coughs k_day held perm hist) := by
  refine Ct.intro RX4 rfl (plainFor_of_name (by decide)) (Nat.le_of_ble_eq_true rfl) rfl ?_
  intro p e s m args below meth c A C H locs hs ls hl
  obtain ⟨hx, hb, hml, hown, hts, hK, hret, hlk⟩ := id C
  have hl : lv_has ls 5 [(0, .ref (ad 0)), (1, .int p0), (2, .int p1)] := hl
  unfold X4_thereIn at hf
  refine lv_iload_n hx hb (dk hX4_thereIn_0 0 rfl) rfl (lv_at hl 1 rfl) ?_
  obtain ⟨u_1, e_2, hf⟩ := Option.bind_eq_some_iff.mp hf
  refine Ct.S (As := [.int p0]) (rest := []) (st1 := [.int u_1]) (w1 := (wT G ad adt adb ade adm adn adk adp adr refusals tcells lcells m_there m_used m_hidden m_kind m_figure m_cargo m_load n_there n_used n_hidden n_kind n_figure n_cargo n_load k_there k_used k_hidden k_kind k_figure k_cargo k_load isKept tlen llen m_ships m_inn m_coughs m_day n_ships n_inn n_coughs n_day k_ships k_inn k_coughs k_day held perm hist)) C hs (c_X4_isGood e_2) tw_163 tw_164 tw_17 tw_165 nq_X4_isGood (by decide) rfl hl.1 rfl (Nat.le_of_ble_eq_true rfl) (dk hX4_thereIn_0 1 rfl) ⟨Nat.zero_le _, Nat.zero_le _⟩ rfl (fun H locs hs => ?_)
  refine lv_if_ne (tgt := 13) hx hb (dk hX4_thereIn_0 2 rfl) (by decide) (fun hc => ?_) (fun hc => ?_)
  · replace hf := in_ hf hc
    refine lv_iload_n hx hb (dk hX4_thereIn_0 7 rfl) rfl (lv_at hl 2 rfl) ?_
    refine lv_iconst (v := (0 : Int32)) hx hb (dk hX4_thereIn_0 8 rfl) (by decide) ?_
    refine lv_bipush (v := (60 : Int32)) hx hb (dk hX4_thereIn_0 9 rfl) (by decide) ?_
    obtain ⟨u_3, e_4, hf⟩ := Option.bind_eq_some_iff.mp hf
    refine Ct.S (As := [.int p1, .int (0 : Int32), .int (60 : Int32)]) (rest := []) (st1 := [.int u_3]) (w1 := (wT G ad adt adb ade adm adn adk adp adr refusals tcells lcells m_there m_used m_hidden m_kind m_figure m_cargo m_load n_there n_used n_hidden n_kind n_figure n_cargo n_load k_there k_used k_hidden k_kind k_figure k_cargo k_load isKept tlen llen m_ships m_inn m_coughs m_day n_ships n_inn n_coughs n_day k_ships k_inn k_coughs k_day held perm hist)) C hs (c_X4_misfit e_4) tw_224 tw_225 tw_17 tw_226 nq_X4_misfit (by decide) rfl hl.1 rfl (Nat.le_of_ble_eq_true rfl) (dk hX4_thereIn_0 10 rfl) ⟨Nat.zero_le _, Nat.zero_le _⟩ rfl (fun H locs hs => ?_)
    refine lv_istore_n (lv' := [(3, .int u_3), (0, .ref (ad 0)), (1, .int p0), (2, .int p1)]) hx hb (dk hX4_thereIn_0 11 rfl) rfl hl (by decide) rfl (fun ls hl => ?_)
    refine lv_iload_n hx hb (dk hX4_thereIn_0 12 rfl) rfl (lv_at hl 0 rfl) ?_
    refine lv_if_eq (tgt := 31) hx hb (dk hX4_thereIn_0 13 rfl) (by decide) (fun hc => ?_) (fun hc => ?_)
    · replace hf := ip hf hc
      refine lv_aload_n hx hb (dk hX4_thereIn_0 18 rfl) rfl (lv_at hl 1 rfl) ?_
      obtain ⟨u_5, e_6, hf⟩ := Option.bind_eq_some_iff.mp hf
      refine Ct.V (As := []) (rest := []) (st1 := [.ref (adm 0)]) (w1 := (wT G ad adt adb ade adm adn adk adp adr refusals tcells lcells u_5.1 u_5.2.1 u_5.2.2.1 u_5.2.2.2.1 u_5.2.2.2.2.1 u_5.2.2.2.2.2.1 u_5.2.2.2.2.2.2.1 n_there n_used n_hidden n_kind n_figure n_cargo n_load k_there k_used k_hidden k_kind k_figure k_cargo k_load isKept tlen llen u_5.2.2.2.2.2.2.2.1 u_5.2.2.2.2.2.2.2.2.1 u_5.2.2.2.2.2.2.2.2.2.1 u_5.2.2.2.2.2.2.2.2.2.2 n_ships n_inn n_coughs n_day k_ships k_inn k_coughs k_day held perm hist)) C hs (c_X4_fromNow e_6) tw_312 tw_314 tw_4 tw_17 tw_315 nq_X4_fromNow (by decide) 0 4 rfl rfl rfl rfl hl.1 rfl (Nat.le_of_ble_eq_true rfl) (dk hX4_thereIn_0 19 rfl) ⟨Nat.zero_le _, Nat.zero_le _⟩ rfl (fun H locs hs => ?_)
      refine lv_astore (lv' := [(4, .ref (adm 0)), (3, .int u_3), (0, .ref (ad 0)), (1, .int p0), (2, .int p1)]) hx hb (dk hX4_thereIn_0 20 rfl) hl (by decide) rfl (fun ls hl => ?_)
      refine lv_aload hx hb (dk hX4_thereIn_0 21 rfl) (lv_at hl 0 rfl) ?_
      refine lv_iload_n hx hb (dk hX4_thereIn_0 22 rfl) rfl (lv_at hl 4 rfl) ?_
      obtain ⟨u_7, e_8, hf⟩ := Option.bind_eq_some_iff.mp hf
      refine Ct.V (As := [.int p1]) (rest := []) (st1 := []) (w1 := (wT G ad adt adb ade adm adn adk adp adr refusals tcells lcells u_7.1 u_5.2.1 u_5.2.2.1 u_5.2.2.2.1 u_5.2.2.2.2.1 u_5.2.2.2.2.2.1 u_5.2.2.2.2.2.2.1 n_there n_used n_hidden n_kind n_figure n_cargo n_load k_there k_used k_hidden k_kind k_figure k_cargo k_load isKept tlen llen u_5.2.2.2.2.2.2.2.1 u_7.2.1 u_7.2.2.1 u_7.2.2.2 n_ships n_inn n_coughs n_day k_ships k_inn k_coughs k_day held perm hist)) C hs (c_X0_passDays__mind e_8) tw_268 tw_269 tw_270 tw_18 tw_271 nq_X0_passDays (by decide) 7 0 rfl rfl rfl rfl hl.1 rfl (Nat.le_of_ble_eq_true rfl) (dk hX4_thereIn_0 23 rfl) ⟨Nat.zero_le _, Nat.zero_le _⟩ rfl (fun H locs hs => ?_)
      refine lv_aload hx hb (dk hX4_thereIn_0 24 rfl) (lv_at hl 0 rfl) ?_
      refine rg ui0 rfl C hs 7 rfl 0 (by decide) tw_39 rfl rfl (dk hX4_thereIn_0 25 rfl) ?_
      refine lv_iload_n hx hb (dk hX4_thereIn_0 26 rfl) rfl (lv_at hl 3 rfl) ?_
      obtain ⟨v_9, e_10, hf⟩ := Option.bind_eq_some_iff.mp hf
      refine rild C hs 8 rfl e_10 (dk hX4_thereIn_0 27 rfl) ?_
      cases hf
      exact ri C hs (dk hX4_thereIn_0 28 rfl)
    · replace hf := in_ hf hc
      refine lv_aload_n hx hb (dk hX4_thereIn_0 14 rfl) rfl (lv_at hl 1 rfl) ?_
      refine lv_iload_n hx hb (dk hX4_thereIn_0 15 rfl) rfl (lv_at hl 0 rfl) ?_
      obtain ⟨u_11, e_12, hf⟩ := Option.bind_eq_some_iff.mp hf
      refine Ct.V (As := [.int u_3]) (rest := []) (st1 := [.int u_11.2]) (w1 := (wT G ad adt adb ade adm adn adk adp adr u_11.1 tcells lcells m_there m_used m_hidden m_kind m_figure m_cargo m_load n_there n_used n_hidden n_kind n_figure n_cargo n_load k_there k_used k_hidden k_kind k_figure k_cargo k_load isKept tlen llen m_ships m_inn m_coughs m_day n_ships n_inn n_coughs n_day k_ships k_inn k_coughs k_day held perm hist)) C hs (c_X4_refuse e_12) tw_166 tw_168 tw_0 tw_17 tw_169 nq_X4_refuse (by decide) 0 4 rfl rfl rfl rfl hl.1 rfl (Nat.le_of_ble_eq_true rfl) (dk hX4_thereIn_0 16 rfl) ⟨Nat.zero_le _, Nat.zero_le _⟩ rfl (fun H locs hs => ?_)
      cases hf
      exact ri C hs (dk hX4_thereIn_0 17 rfl)
  · replace hf := ip hf hc
    refine lv_aload_n hx hb (dk hX4_thereIn_0 3 rfl) rfl (lv_at hl 0 rfl) ?_
    refine lv_iconst (v := (-1 : Int32)) hx hb (dk hX4_thereIn_0 4 rfl) (by decide) ?_
    obtain ⟨u_13, e_14, hf⟩ := Option.bind_eq_some_iff.mp hf
    refine Ct.V (As := [.int (-1 : Int32)]) (rest := []) (st1 := [.int u_13.2]) (w1 := (wT G ad adt adb ade adm adn adk adp adr u_13.1 tcells lcells m_there m_used m_hidden m_kind m_figure m_cargo m_load n_there n_used n_hidden n_kind n_figure n_cargo n_load k_there k_used k_hidden k_kind k_figure k_cargo k_load isKept tlen llen m_ships m_inn m_coughs m_day n_ships n_inn n_coughs n_day k_ships k_inn k_coughs k_day held perm hist)) C hs (c_X4_refuse e_14) tw_166 tw_168 tw_0 tw_17 tw_169 nq_X4_refuse (by decide) 0 4 rfl rfl rfl rfl hl.1 rfl (Nat.le_of_ble_eq_true rfl) (dk hX4_thereIn_0 5 rfl) ⟨Nat.zero_le _, Nat.zero_le _⟩ rfl (fun H locs hs => ?_)
    cases hf
    exact ri C hs (dk hX4_thereIn_0 6 rfl)

def X4_then (refusals : List Int32) (m_there : List Int32) (m_used : List Int32) (m_hidden : List Int32) (m_kind : List Int32) (m_figure : List Int32) (m_cargo : List Int32) (m_load : List Int32) (n_there : List Int32) (n_used : List Int32) (n_hidden : List Int32) (n_kind : List Int32) (n_figure : List Int32) (n_cargo : List Int32) (n_load : List Int32) (m_ships : Int32) (m_inn : Int32) (m_coughs : Int32) (m_day : Int32) (n_ships : Int32) (n_inn : Int32) (n_coughs : Int32) (n_day : Int32) (p0 : Int32) (p1 : Int32) : Option (List Int32 × List Int32 × List Int32 × List Int32 × List Int32 × List Int32 × List Int32 × List Int32 × Int32 × Int32 × Int32 × Int32 × Int32) :=
  (X4_misfit p0 (0 : Int32) (60 : Int32)).bind fun u_1 =>
  if u_1 = (0 : Int32) then
  if p1 < (0 : Int32) then
  (X4_refuse refusals (-2 : Int32)).bind fun u_3 =>
  some (u_3.1, m_there, m_used, m_hidden, m_kind, m_figure, m_cargo, m_load, m_ships, m_inn, m_coughs, m_day, u_3.2)
  else
  if p1 ≤ (1 : Int32) then
  (X4_fromNow m_there m_used m_hidden m_kind m_figure m_cargo m_load n_there n_used n_hidden n_kind n_figure n_cargo n_load m_ships m_inn m_coughs m_day n_ships n_inn n_coughs n_day).bind fun u_5 =>
  (X0_passDays u_5.1 u_5.2.1 u_5.2.2.1 u_5.2.2.2.1 u_5.2.2.2.2.1 u_5.2.2.2.2.2.1 u_5.2.2.2.2.2.2.1 u_5.2.2.2.2.2.2.2.1 u_5.2.2.2.2.2.2.2.2.1 u_5.2.2.2.2.2.2.2.2.2.1 u_5.2.2.2.2.2.2.2.2.2.2 p0).bind fun u_7 =>
  if p1 = (0 : Int32) then
  some (refusals, u_7.1, u_5.2.1, u_5.2.2.1, u_5.2.2.2.1, u_5.2.2.2.2.1, u_5.2.2.2.2.2.1, u_5.2.2.2.2.2.2.1, u_5.2.2.2.2.2.2.2.1, u_7.2.1, u_7.2.2.1, u_7.2.2.2, u_7.2.2.1)
  else
  some (refusals, u_7.1, u_5.2.1, u_5.2.2.1, u_5.2.2.2.1, u_5.2.2.2.2.1, u_5.2.2.2.2.2.1, u_5.2.2.2.2.2.2.1, u_5.2.2.2.2.2.2.2.1, u_7.2.1, u_7.2.2.1, u_7.2.2.2, u_7.2.1)
  else
  (X4_refuse refusals (-2 : Int32)).bind fun u_9 =>
  some (u_9.1, m_there, m_used, m_hidden, m_kind, m_figure, m_cargo, m_load, m_ships, m_inn, m_coughs, m_day, u_9.2)
  else
  (X4_refuse refusals u_1).bind fun u_11 =>
  some (u_11.1, m_there, m_used, m_hidden, m_kind, m_figure, m_cargo, m_load, m_ships, m_inn, m_coughs, m_day, u_11.2)
set_option maxRecDepth 100000 in
set_option maxHeartbeats 4000000 in
theorem c_X4_then {l : Launch} {G : Gx} {ad adt adb ade adm adn adk adp : Nat → Nat} {adr : Nat → Nat → Nat} {refusals tcells lcells m_there m_used m_hidden m_kind m_figure m_cargo m_load n_there n_used n_hidden n_kind n_figure n_cargo n_load k_there k_used k_hidden k_kind k_figure k_cargo k_load : List Int32} {isKept tlen llen m_ships m_inn m_coughs m_day n_ships n_inn n_coughs n_day k_ships k_inn k_coughs k_day held : Int32} {perm : Nat → Nat} {hist : Nat → Hs} {p0 : Int32} {p1 : Int32} {out : List Int32 × List Int32 × List Int32 × List Int32 × List Int32 × List Int32 × List Int32 × List Int32 × Int32 × Int32 × Int32 × Int32 × Int32} (hf : X4_then refusals m_there m_used m_hidden m_kind m_figure m_cargo m_load n_there n_used n_hidden n_kind n_figure n_cargo n_load m_ships m_inn m_coughs m_day n_ships n_inn n_coughs n_day p0 p1 = some out) : Ct l G yX4_then cX4_then 5 (some .int) 5 111 [.ref (ad 0), .int p0, .int p1] (wT G ad adt adb ade adm adn adk adp adr refusals tcells lcells m_there m_used m_hidden m_kind m_figure m_cargo m_load n_there n_used n_hidden n_kind n_figure n_cargo n_load k_there k_used k_hidden k_kind k_figure k_cargo k_load isKept tlen llen m_ships m_inn m_coughs m_day n_ships n_inn n_coughs n_day k_ships k_inn k_coughs k_day held perm hist) (some (.int out.2.2.2.2.2.2.2.2.2.2.2.2)) (wT G ad adt adb ade adm adn adk adp adr out.1 tcells lcells out.2.1 out.2.2.1 out.2.2.2.1 out.2.2.2.2.1 out.2.2.2.2.2.1 out.2.2.2.2.2.2.1 out.2.2.2.2.2.2.2.1 n_there n_used n_hidden n_kind n_figure n_cargo n_load k_there k_used k_hidden k_kind k_figure k_cargo k_load isKept tlen llen out.2.2.2.2.2.2.2.2.1 out.2.2.2.2.2.2.2.2.2.1 out.2.2.2.2.2.2.2.2.2.2.1 out.2.2.2.2.2.2.2.2.2.2.2.1 n_ships n_inn n_coughs n_day k_ships k_inn k_coughs k_day held perm hist) := by
  refine Ct.intro RX4 rfl (plainFor_of_name (by decide)) (Nat.le_of_ble_eq_true rfl) rfl ?_
  intro p e s m args below meth c A C H locs hs ls hl
  obtain ⟨hx, hb, hml, hown, hts, hK, hret, hlk⟩ := id C
  have hl : lv_has ls 5 [(0, .ref (ad 0)), (1, .int p0), (2, .int p1)] := hl
  unfold X4_then at hf
  refine lv_iload_n hx hb (dk hX4_then_0 0 rfl) rfl (lv_at hl 1 rfl) ?_
  refine lv_iconst (v := (0 : Int32)) hx hb (dk hX4_then_0 1 rfl) (by decide) ?_
  refine lv_bipush (v := (60 : Int32)) hx hb (dk hX4_then_0 2 rfl) (by decide) ?_
  obtain ⟨u_1, e_2, hf⟩ := Option.bind_eq_some_iff.mp hf
  refine Ct.S (As := [.int p0, .int (0 : Int32), .int (60 : Int32)]) (rest := []) (st1 := [.int u_1]) (w1 := (wT G ad adt adb ade adm adn adk adp adr refusals tcells lcells m_there m_used m_hidden m_kind m_figure m_cargo m_load n_there n_used n_hidden n_kind n_figure n_cargo n_load k_there k_used k_hidden k_kind k_figure k_cargo k_load isKept tlen llen m_ships m_inn m_coughs m_day n_ships n_inn n_coughs n_day k_ships k_inn k_coughs k_day held perm hist)) C hs (c_X4_misfit e_2) tw_224 tw_225 tw_17 tw_226 nq_X4_misfit (by decide) rfl hl.1 rfl (Nat.le_of_ble_eq_true rfl) (dk hX4_then_0 3 rfl) ⟨Nat.zero_le _, Nat.zero_le _⟩ rfl (fun H locs hs => ?_)
  refine lv_istore_n (lv' := [(3, .int u_1), (0, .ref (ad 0)), (1, .int p0), (2, .int p1)]) hx hb (dk hX4_then_0 4 rfl) rfl hl (by decide) rfl (fun ls hl => ?_)
  refine lv_iload_n hx hb (dk hX4_then_0 5 rfl) rfl (lv_at hl 0 rfl) ?_
  refine lv_if_eq (tgt := 18) hx hb (dk hX4_then_0 6 rfl) (by decide) (fun hc => ?_) (fun hc => ?_)
  · replace hf := ip hf hc
    refine lv_iload_n hx hb (dk hX4_then_0 11 rfl) rfl (lv_at hl 3 rfl) ?_
    refine lv_if_lt (tgt := 27) hx hb (dk hX4_then_0 12 rfl) (by decide) (fun hc => ?_) (fun hc => ?_)
    · replace hf := ip hf hc
      refine lv_aload_n hx hb (dk hX4_then_0 16 rfl) rfl (lv_at hl 1 rfl) ?_
      refine lv_bipush (v := (-2 : Int32)) hx hb (dk hX4_then_0 17 rfl) (by decide) ?_
      obtain ⟨u_3, e_4, hf⟩ := Option.bind_eq_some_iff.mp hf
      refine Ct.V (As := [.int (-2 : Int32)]) (rest := []) (st1 := [.int u_3.2]) (w1 := (wT G ad adt adb ade adm adn adk adp adr u_3.1 tcells lcells m_there m_used m_hidden m_kind m_figure m_cargo m_load n_there n_used n_hidden n_kind n_figure n_cargo n_load k_there k_used k_hidden k_kind k_figure k_cargo k_load isKept tlen llen m_ships m_inn m_coughs m_day n_ships n_inn n_coughs n_day k_ships k_inn k_coughs k_day held perm hist)) C hs (c_X4_refuse e_4) tw_166 tw_168 tw_0 tw_17 tw_169 nq_X4_refuse (by decide) 0 4 rfl rfl rfl rfl hl.1 rfl (Nat.le_of_ble_eq_true rfl) (dk hX4_then_0 18 rfl) ⟨Nat.zero_le _, Nat.zero_le _⟩ rfl (fun H locs hs => ?_)
      cases hf
      exact ri C hs (dk hX4_then_0 19 rfl)
    · replace hf := in_ hf hc
      refine lv_iload_n hx hb (dk hX4_then_0 13 rfl) rfl (lv_at hl 3 rfl) ?_
      refine lv_iconst (v := (1 : Int32)) hx hb (dk hX4_then_0 14 rfl) (by decide) ?_
      refine lv_icmp_le (tgt := 34) hx hb (dk hX4_then_0 15 rfl) (by decide) (fun hc => ?_) (fun hc => ?_)
      · replace hf := ip hf hc
        refine lv_aload_n hx hb (dk hX4_then_0 20 rfl) rfl (lv_at hl 1 rfl) ?_
        obtain ⟨u_5, e_6, hf⟩ := Option.bind_eq_some_iff.mp hf
        refine Ct.V (As := []) (rest := []) (st1 := [.ref (adm 0)]) (w1 := (wT G ad adt adb ade adm adn adk adp adr refusals tcells lcells u_5.1 u_5.2.1 u_5.2.2.1 u_5.2.2.2.1 u_5.2.2.2.2.1 u_5.2.2.2.2.2.1 u_5.2.2.2.2.2.2.1 n_there n_used n_hidden n_kind n_figure n_cargo n_load k_there k_used k_hidden k_kind k_figure k_cargo k_load isKept tlen llen u_5.2.2.2.2.2.2.2.1 u_5.2.2.2.2.2.2.2.2.1 u_5.2.2.2.2.2.2.2.2.2.1 u_5.2.2.2.2.2.2.2.2.2.2 n_ships n_inn n_coughs n_day k_ships k_inn k_coughs k_day held perm hist)) C hs (c_X4_fromNow e_6) tw_312 tw_314 tw_4 tw_17 tw_315 nq_X4_fromNow (by decide) 0 4 rfl rfl rfl rfl hl.1 rfl (Nat.le_of_ble_eq_true rfl) (dk hX4_then_0 21 rfl) ⟨Nat.zero_le _, Nat.zero_le _⟩ rfl (fun H locs hs => ?_)
        refine lv_astore (lv' := [(4, .ref (adm 0)), (3, .int u_1), (0, .ref (ad 0)), (1, .int p0), (2, .int p1)]) hx hb (dk hX4_then_0 22 rfl) hl (by decide) rfl (fun ls hl => ?_)
        refine lv_aload hx hb (dk hX4_then_0 23 rfl) (lv_at hl 0 rfl) ?_
        refine lv_iload_n hx hb (dk hX4_then_0 24 rfl) rfl (lv_at hl 3 rfl) ?_
        obtain ⟨u_7, e_8, hf⟩ := Option.bind_eq_some_iff.mp hf
        refine Ct.V (As := [.int p0]) (rest := []) (st1 := []) (w1 := (wT G ad adt adb ade adm adn adk adp adr refusals tcells lcells u_7.1 u_5.2.1 u_5.2.2.1 u_5.2.2.2.1 u_5.2.2.2.2.1 u_5.2.2.2.2.2.1 u_5.2.2.2.2.2.2.1 n_there n_used n_hidden n_kind n_figure n_cargo n_load k_there k_used k_hidden k_kind k_figure k_cargo k_load isKept tlen llen u_5.2.2.2.2.2.2.2.1 u_7.2.1 u_7.2.2.1 u_7.2.2.2 n_ships n_inn n_coughs n_day k_ships k_inn k_coughs k_day held perm hist)) C hs (c_X0_passDays__mind e_8) tw_268 tw_269 tw_270 tw_18 tw_271 nq_X0_passDays (by decide) 7 0 rfl rfl rfl rfl hl.1 rfl (Nat.le_of_ble_eq_true rfl) (dk hX4_then_0 25 rfl) ⟨Nat.zero_le _, Nat.zero_le _⟩ rfl (fun H locs hs => ?_)
        refine lv_iload_n hx hb (dk hX4_then_0 26 rfl) rfl (lv_at hl 4 rfl) ?_
        refine lv_if_ne (tgt := 58) hx hb (dk hX4_then_0 27 rfl) (by decide) (fun hc => ?_) (fun hc => ?_)
        · replace hf := in_ hf hc
          refine lv_aload hx hb (dk hX4_then_0 31 rfl) (lv_at hl 0 rfl) ?_
          refine rg ui0 rfl C hs 7 rfl 8 (by decide) tw_58 rfl rfl (dk hX4_then_0 32 rfl) ?_
          cases hf
          exact ri C hs (dk hX4_then_0 33 rfl)
        · replace hf := ip hf hc
          refine lv_aload hx hb (dk hX4_then_0 28 rfl) (lv_at hl 0 rfl) ?_
          refine rg ui0 rfl C hs 7 rfl 9 (by decide) tw_61 rfl rfl (dk hX4_then_0 29 rfl) ?_
          refine lv_goto (tgt := 63) hx hb (dk hX4_then_0 30 rfl) (by decide) ?_
          cases hf
          exact ri C hs (dk hX4_then_0 33 rfl)
      · replace hf := in_ hf hc
        refine lv_aload_n hx hb (dk hX4_then_0 16 rfl) rfl (lv_at hl 1 rfl) ?_
        refine lv_bipush (v := (-2 : Int32)) hx hb (dk hX4_then_0 17 rfl) (by decide) ?_
        obtain ⟨u_9, e_10, hf⟩ := Option.bind_eq_some_iff.mp hf
        refine Ct.V (As := [.int (-2 : Int32)]) (rest := []) (st1 := [.int u_9.2]) (w1 := (wT G ad adt adb ade adm adn adk adp adr u_9.1 tcells lcells m_there m_used m_hidden m_kind m_figure m_cargo m_load n_there n_used n_hidden n_kind n_figure n_cargo n_load k_there k_used k_hidden k_kind k_figure k_cargo k_load isKept tlen llen m_ships m_inn m_coughs m_day n_ships n_inn n_coughs n_day k_ships k_inn k_coughs k_day held perm hist)) C hs (c_X4_refuse e_10) tw_166 tw_168 tw_0 tw_17 tw_169 nq_X4_refuse (by decide) 0 4 rfl rfl rfl rfl hl.1 rfl (Nat.le_of_ble_eq_true rfl) (dk hX4_then_0 18 rfl) ⟨Nat.zero_le _, Nat.zero_le _⟩ rfl (fun H locs hs => ?_)
        cases hf
        exact ri C hs (dk hX4_then_0 19 rfl)
  · replace hf := in_ hf hc
    refine lv_aload_n hx hb (dk hX4_then_0 7 rfl) rfl (lv_at hl 1 rfl) ?_
    refine lv_iload_n hx hb (dk hX4_then_0 8 rfl) rfl (lv_at hl 0 rfl) ?_
    obtain ⟨u_11, e_12, hf⟩ := Option.bind_eq_some_iff.mp hf
    refine Ct.V (As := [.int u_1]) (rest := []) (st1 := [.int u_11.2]) (w1 := (wT G ad adt adb ade adm adn adk adp adr u_11.1 tcells lcells m_there m_used m_hidden m_kind m_figure m_cargo m_load n_there n_used n_hidden n_kind n_figure n_cargo n_load k_there k_used k_hidden k_kind k_figure k_cargo k_load isKept tlen llen m_ships m_inn m_coughs m_day n_ships n_inn n_coughs n_day k_ships k_inn k_coughs k_day held perm hist)) C hs (c_X4_refuse e_12) tw_166 tw_168 tw_0 tw_17 tw_169 nq_X4_refuse (by decide) 0 4 rfl rfl rfl rfl hl.1 rfl (Nat.le_of_ble_eq_true rfl) (dk hX4_then_0 9 rfl) ⟨Nat.zero_le _, Nat.zero_le _⟩ rfl (fun H locs hs => ?_)
    cases hf
    exact ri C hs (dk hX4_then_0 10 rfl)

def X4_firstToComeIn_L20 (k : Unit → Option (List Int32 × List Int32 × List Int32 × List Int32 × List Int32 × List Int32 × List Int32 × Int32 × Int32 × Int32 × Int32 × Int32)) (m_there : List Int32) (m_used : List Int32) (m_hidden : List Int32) (m_kind : List Int32) (m_figure : List Int32) (m_cargo : List Int32) (m_load : List Int32) (m_ships : Int32) (m_inn : Int32) (m_coughs : Int32) (m_day : Int32) (n_inn : Int32) : Nat → Int32 → Option (List Int32 × List Int32 × List Int32 × List Int32 × List Int32 × List Int32 × List Int32 × Int32 × Int32 × Int32 × Int32 × Int32)
  | 0, _ => none
  | n + 1, x3 =>
  if m_ships ≤ x3 then
  k ()
  else
  (X0_isIn m_inn x3).bind fun u_5 =>
  if u_5 = (0 : Int32) then
  X4_firstToComeIn_L20 k m_there m_used m_hidden m_kind m_figure m_cargo m_load m_ships m_inn m_coughs m_day n_inn n (x3 + (1 : Int32))
  else
  (X0_isIn n_inn x3).bind fun u_7 =>
  if u_7 = (0 : Int32) then
  some (m_there, m_used, m_hidden, m_kind, m_figure, m_cargo, m_load, m_ships, m_inn, m_coughs, m_day, x3)
  else
  X4_firstToComeIn_L20 k m_there m_used m_hidden m_kind m_figure m_cargo m_load m_ships m_inn m_coughs m_day n_inn n (x3 + (1 : Int32))
def X4_firstToComeIn_L7 (k : List Int32 → Int32 → Int32 → Int32 → Option (List Int32 × List Int32 × List Int32 × List Int32 × List Int32 × List Int32 × List Int32 × Int32 × Int32 × Int32 × Int32 × Int32)) (m_used : List Int32) (m_hidden : List Int32) (m_kind : List Int32) (m_figure : List Int32) (m_cargo : List Int32) (m_load : List Int32) (m_ships : Int32) (n_inn : Int32) : Nat → Int32 → List Int32 → Int32 → Int32 → Int32 → Option (List Int32 × List Int32 × List Int32 × List Int32 × List Int32 × List Int32 × List Int32 × Int32 × Int32 × Int32 × Int32 × Int32)
  | 0, _, _, _, _, _ => none
  | n + 1, x2, m_there, m_inn, m_coughs, m_day =>
  if (60 : Int32) ≤ x2 then
  k m_there m_inn m_coughs m_day
  else
  (X0_passDay m_there m_used m_hidden m_kind m_figure m_cargo m_load m_ships m_inn m_coughs m_day (0 : Int32)).bind fun u_3 =>
  X4_firstToComeIn_L20 (fun _ =>
  X4_firstToComeIn_L7 k m_used m_hidden m_kind m_figure m_cargo m_load m_ships n_inn n (x2 + (1 : Int32)) u_3.1 u_3.2.1 u_3.2.2.1 u_3.2.2.2) u_3.1 m_used m_hidden m_kind m_figure m_cargo m_load m_ships u_3.2.1 u_3.2.2.1 u_3.2.2.2 n_inn 1000 (0 : Int32)
def X4_firstToComeIn (m_there : List Int32) (m_used : List Int32) (m_hidden : List Int32) (m_kind : List Int32) (m_figure : List Int32) (m_cargo : List Int32) (m_load : List Int32) (n_there : List Int32) (n_used : List Int32) (n_hidden : List Int32) (n_kind : List Int32) (n_figure : List Int32) (n_cargo : List Int32) (n_load : List Int32) (m_ships : Int32) (m_inn : Int32) (m_coughs : Int32) (m_day : Int32) (n_ships : Int32) (n_inn : Int32) (n_coughs : Int32) (n_day : Int32) : Option (List Int32 × List Int32 × List Int32 × List Int32 × List Int32 × List Int32 × List Int32 × Int32 × Int32 × Int32 × Int32 × Int32) :=
  (X4_fromNow m_there m_used m_hidden m_kind m_figure m_cargo m_load n_there n_used n_hidden n_kind n_figure n_cargo n_load m_ships m_inn m_coughs m_day n_ships n_inn n_coughs n_day).bind fun u_1 =>
  X4_firstToComeIn_L7 (fun m_there_9 m_inn_10 m_coughs_11 m_day_12 =>
  some (m_there_9, u_1.2.1, u_1.2.2.1, u_1.2.2.2.1, u_1.2.2.2.2.1, u_1.2.2.2.2.2.1, u_1.2.2.2.2.2.2.1, u_1.2.2.2.2.2.2.2.1, m_inn_10, m_coughs_11, m_day_12, (-9 : Int32))) u_1.2.1 u_1.2.2.1 u_1.2.2.2.1 u_1.2.2.2.2.1 u_1.2.2.2.2.2.1 u_1.2.2.2.2.2.2.1 u_1.2.2.2.2.2.2.2.1 n_inn 1000 (0 : Int32) u_1.1 u_1.2.2.2.2.2.2.2.2.1 u_1.2.2.2.2.2.2.2.2.2.1 u_1.2.2.2.2.2.2.2.2.2.2
set_option maxRecDepth 100000 in
set_option maxHeartbeats 4000000 in
theorem l_X4_firstToComeIn_L20 {l : Launch} {p : Program} {e : Env} {s : State} {m : MethodId} {args : Array Value} {below : List Frame} {meth : Method} {c : Code} {A : Nat → Prop} {G : Gx} {ad adt adb ade adm adn adk adp : Nat → Nat} {adr : Nat → Nat → Nat} {refusals tcells lcells m_there m_used m_hidden m_kind m_figure m_cargo m_load n_there n_used n_hidden n_kind n_figure n_cargo n_load k_there k_used k_hidden k_kind k_figure k_cargo k_load : List Int32} {isKept tlen llen m_ships m_inn m_coughs m_day n_ships n_inn n_coughs n_day k_ships k_inn k_coughs k_day held : Int32} {perm : Nat → Nat} {hist : Nat → Hs} {x2 : Int32} {k : Unit → Option (List Int32 × List Int32 × List Int32 × List Int32 × List Int32 × List Int32 × List Int32 × Int32 × Int32 × Int32 × Int32 × Int32)} {out : List Int32 × List Int32 × List Int32 × List Int32 × List Int32 × List Int32 × List Int32 × Int32 × Int32 × Int32 × Int32 × Int32} (C : Cx p s m args meth c cX4_firstToComeIn RX4 4 (some .int) G) : ∀ (n : Nat) (x3 : Int32), X4_firstToComeIn_L20 k m_there m_used m_hidden m_kind m_figure m_cargo m_load m_ships m_inn m_coughs m_day n_inn n x3 = some out → ∀ (H : Heap) (locs : List Loc), St G A s.heap H locs (wT G ad adt adb ade adm adn adk adp adr refusals tcells lcells m_there m_used m_hidden m_kind m_figure m_cargo m_load n_there n_used n_hidden n_kind n_figure n_cargo n_load k_there k_used k_hidden k_kind k_figure k_cargo k_load isKept tlen llen m_ships m_inn m_coughs m_day n_ships n_inn n_coughs n_day k_ships k_inn k_coughs k_day held perm hist) → ∀ ls : Array Slot, lv_has ls 4 [(0, .ref (ad 0)), (1, .ref (adm 0)), (2, .int x2), (3, .int x3)] → (∀ (_ : Unit), k () = some out → ∀ (H : Heap) (locs : List Loc), St G A s.heap H locs (wT G ad adt adb ade adm adn adk adp adr refusals tcells lcells m_there m_used m_hidden m_kind m_figure m_cargo m_load n_there n_used n_hidden n_kind n_figure n_cargo n_load k_there k_used k_hidden k_kind k_figure k_cargo k_load isKept tlen llen m_ships m_inn m_coughs m_day n_ships n_inn n_coughs n_day k_ships k_inn k_coughs k_day held perm hist) → ∀ ls : Array Slot, lv_has ls 4 [(0, .ref (ad 0)), (1, .ref (adm 0)), (2, .int x2)] → W p l e (rmOf 4 89) s m args below meth c H locs 0 0 (MQ below (Qof G A (some (.int out.2.2.2.2.2.2.2.2.2.2.2)) (wT G ad adt adb ade adm adn adk adp adr refusals tcells lcells out.1 out.2.1 out.2.2.1 out.2.2.2.1 out.2.2.2.2.1 out.2.2.2.2.2.1 out.2.2.2.2.2.2.1 n_there n_used n_hidden n_kind n_figure n_cargo n_load k_there k_used k_hidden k_kind k_figure k_cargo k_load isKept tlen llen out.2.2.2.2.2.2.2.1 out.2.2.2.2.2.2.2.2.1 out.2.2.2.2.2.2.2.2.2.1 out.2.2.2.2.2.2.2.2.2.2.1 n_ships n_inn n_coughs n_day k_ships k_inn k_coughs k_day held perm hist)) args s 0 0 A) (F0 m 55 ls [])) → W p l e (rmOf 4 89) s m args below meth c H locs 0 0 (MQ below (Qof G A (some (.int out.2.2.2.2.2.2.2.2.2.2.2)) (wT G ad adt adb ade adm adn adk adp adr refusals tcells lcells out.1 out.2.1 out.2.2.1 out.2.2.2.1 out.2.2.2.2.1 out.2.2.2.2.2.1 out.2.2.2.2.2.2.1 n_there n_used n_hidden n_kind n_figure n_cargo n_load k_there k_used k_hidden k_kind k_figure k_cargo k_load isKept tlen llen out.2.2.2.2.2.2.2.1 out.2.2.2.2.2.2.2.2.1 out.2.2.2.2.2.2.2.2.2.1 out.2.2.2.2.2.2.2.2.2.2.1 n_ships n_inn n_coughs n_day k_ships k_inn k_coughs k_day held perm hist)) args s 0 0 A) (F0 m 20 ls []) := by
  obtain ⟨hx, hb, hml, hown, hts, hK, hret, hlk⟩ := id C
  intro n
  induction n with
  | zero => intro x3 hf; cases hf
  | succ n ih =>
    intro x3 hf H locs hs ls hl hk
    rw [X4_firstToComeIn_L20] at hf
    refine lv_iload_n hx hb (dk hX4_firstToComeIn_0 13 rfl) rfl (lv_at hl 3 rfl) ?_
    refine lv_aload_n hx hb (dk hX4_firstToComeIn_0 14 rfl) rfl (lv_at hl 1 rfl) ?_
    refine rg ui0 rfl C hs 7 rfl 7 (by decide) tw_56 rfl rfl (dk hX4_firstToComeIn_0 15 rfl) ?_
    refine lv_icmp_ge (tgt := 55) hx hb (dk hX4_firstToComeIn_0 16 rfl) (by decide) (fun hc => ?_) (fun hc => ?_)
    · replace hf := ip hf hc
      exact hk () hf _ _ hs _ (lv_sub hl [0, 1, 2] rfl)
    · replace hf := in_ hf hc
      refine lv_aload_n hx hb (dk hX4_firstToComeIn_0 17 rfl) rfl (lv_at hl 1 rfl) ?_
      refine lv_iload_n hx hb (dk hX4_firstToComeIn_0 18 rfl) rfl (lv_at hl 3 rfl) ?_
      obtain ⟨u_5, e_6, hf⟩ := Option.bind_eq_some_iff.mp hf
      refine Ct.V (As := [.int x3]) (rest := []) (st1 := [.int u_5]) (w1 := (wT G ad adt adb ade adm adn adk adp adr refusals tcells lcells m_there m_used m_hidden m_kind m_figure m_cargo m_load n_there n_used n_hidden n_kind n_figure n_cargo n_load k_there k_used k_hidden k_kind k_figure k_cargo k_load isKept tlen llen m_ships m_inn m_coughs m_day n_ships n_inn n_coughs n_day k_ships k_inn k_coughs k_day held perm hist)) C hs (c_X0_isIn__mind e_6) tw_182 tw_183 tw_184 tw_18 tw_185 nq_X0_isIn (by decide) 7 0 rfl rfl rfl rfl hl.1 rfl (Nat.le_of_ble_eq_true rfl) (dk hX4_firstToComeIn_0 19 rfl) ⟨Nat.zero_le _, Nat.zero_le _⟩ rfl (fun H locs hs => ?_)
      refine lv_if_eq (tgt := 49) hx hb (dk hX4_firstToComeIn_0 20 rfl) (by decide) (fun hc => ?_) (fun hc => ?_)
      · replace hf := ip hf hc
        refine lv_iinc (v := (x3 + (1 : Int32))) (lv' := [(3, .int (x3 + (1 : Int32))), (0, .ref (ad 0)), (1, .ref (adm 0)), (2, .int x2)]) hx hb (dk hX4_firstToComeIn_0 28 rfl) hl (k := 3) rfl (by first | rfl | decide) (by decide) rfl (fun ls hl => ?_)
        refine lv_goto (tgt := 20) hx hb (dk hX4_firstToComeIn_0 29 rfl) (by decide) ?_
        exact ih _ hf _ _ hs _ (lv_sub hl [1, 2, 3, 0] rfl) hk
      · replace hf := in_ hf hc
        refine lv_aload_n hx hb (dk hX4_firstToComeIn_0 21 rfl) rfl (lv_at hl 0 rfl) ?_
        refine rg ui4 rfl C hs 0 rfl 0 (by decide) tw_134 rfl rfl (dk hX4_firstToComeIn_0 22 rfl) ?_
        refine lv_iload_n hx hb (dk hX4_firstToComeIn_0 23 rfl) rfl (lv_at hl 3 rfl) ?_
        obtain ⟨u_7, e_8, hf⟩ := Option.bind_eq_some_iff.mp hf
        refine Ct.V (As := [.int x3]) (rest := []) (st1 := [.int u_7]) (w1 := (wT G ad adt adb ade adm adn adk adp adr refusals tcells lcells m_there m_used m_hidden m_kind m_figure m_cargo m_load n_there n_used n_hidden n_kind n_figure n_cargo n_load k_there k_used k_hidden k_kind k_figure k_cargo k_load isKept tlen llen m_ships m_inn m_coughs m_day n_ships n_inn n_coughs n_day k_ships k_inn k_coughs k_day held perm hist)) C hs (c_X0_isIn__now e_8) tw_182 tw_183 tw_184 tw_18 tw_185 nq_X0_isIn (by decide) 15 0 rfl rfl rfl rfl hl.1 rfl (Nat.le_of_ble_eq_true rfl) (dk hX4_firstToComeIn_0 24 rfl) ⟨Nat.zero_le _, Nat.zero_le _⟩ rfl (fun H locs hs => ?_)
        refine lv_if_ne (tgt := 49) hx hb (dk hX4_firstToComeIn_0 25 rfl) (by decide) (fun hc => ?_) (fun hc => ?_)
        · replace hf := in_ hf hc
          refine lv_iinc (v := (x3 + (1 : Int32))) (lv' := [(3, .int (x3 + (1 : Int32))), (0, .ref (ad 0)), (1, .ref (adm 0)), (2, .int x2)]) hx hb (dk hX4_firstToComeIn_0 28 rfl) hl (k := 3) rfl (by first | rfl | decide) (by decide) rfl (fun ls hl => ?_)
          refine lv_goto (tgt := 20) hx hb (dk hX4_firstToComeIn_0 29 rfl) (by decide) ?_
          exact ih _ hf _ _ hs _ (lv_sub hl [1, 2, 3, 0] rfl) hk
        · replace hf := ip hf hc
          refine lv_iload_n hx hb (dk hX4_firstToComeIn_0 26 rfl) rfl (lv_at hl 3 rfl) ?_
          cases hf
          exact ri C hs (dk hX4_firstToComeIn_0 27 rfl)
set_option maxRecDepth 100000 in
set_option maxHeartbeats 4000000 in
theorem l_X4_firstToComeIn_L7 {l : Launch} {p : Program} {e : Env} {s : State} {m : MethodId} {args : Array Value} {below : List Frame} {meth : Method} {c : Code} {A : Nat → Prop} {G : Gx} {ad adt adb ade adm adn adk adp : Nat → Nat} {adr : Nat → Nat → Nat} {refusals tcells lcells m_used m_hidden m_kind m_figure m_cargo m_load n_there n_used n_hidden n_kind n_figure n_cargo n_load k_there k_used k_hidden k_kind k_figure k_cargo k_load : List Int32} {isKept tlen llen m_ships n_ships n_inn n_coughs n_day k_ships k_inn k_coughs k_day held : Int32} {perm : Nat → Nat} {hist : Nat → Hs} {k : List Int32 → Int32 → Int32 → Int32 → Option (List Int32 × List Int32 × List Int32 × List Int32 × List Int32 × List Int32 × List Int32 × Int32 × Int32 × Int32 × Int32 × Int32)} {out : List Int32 × List Int32 × List Int32 × List Int32 × List Int32 × List Int32 × List Int32 × Int32 × Int32 × Int32 × Int32 × Int32} (C : Cx p s m args meth c cX4_firstToComeIn RX4 4 (some .int) G) : ∀ (n : Nat) (x2 : Int32) (m_there : List Int32) (m_inn : Int32) (m_coughs : Int32) (m_day : Int32), X4_firstToComeIn_L7 k m_used m_hidden m_kind m_figure m_cargo m_load m_ships n_inn n x2 m_there m_inn m_coughs m_day = some out → ∀ (H : Heap) (locs : List Loc), St G A s.heap H locs (wT G ad adt adb ade adm adn adk adp adr refusals tcells lcells m_there m_used m_hidden m_kind m_figure m_cargo m_load n_there n_used n_hidden n_kind n_figure n_cargo n_load k_there k_used k_hidden k_kind k_figure k_cargo k_load isKept tlen llen m_ships m_inn m_coughs m_day n_ships n_inn n_coughs n_day k_ships k_inn k_coughs k_day held perm hist) → ∀ ls : Array Slot, lv_has ls 4 [(0, .ref (ad 0)), (1, .ref (adm 0)), (2, .int x2)] → (∀ (z_m_there : List Int32) (z_m_inn : Int32) (z_m_coughs : Int32) (z_m_day : Int32), k z_m_there z_m_inn z_m_coughs z_m_day = some out → ∀ (H : Heap) (locs : List Loc), St G A s.heap H locs (wT G ad adt adb ade adm adn adk adp adr refusals tcells lcells z_m_there m_used m_hidden m_kind m_figure m_cargo m_load n_there n_used n_hidden n_kind n_figure n_cargo n_load k_there k_used k_hidden k_kind k_figure k_cargo k_load isKept tlen llen m_ships z_m_inn z_m_coughs z_m_day n_ships n_inn n_coughs n_day k_ships k_inn k_coughs k_day held perm hist) → ∀ ls : Array Slot, lv_has ls 4 [] → W p l e (rmOf 4 89) s m args below meth c H locs 0 0 (MQ below (Qof G A (some (.int out.2.2.2.2.2.2.2.2.2.2.2)) (wT G ad adt adb ade adm adn adk adp adr refusals tcells lcells out.1 out.2.1 out.2.2.1 out.2.2.2.1 out.2.2.2.2.1 out.2.2.2.2.2.1 out.2.2.2.2.2.2.1 n_there n_used n_hidden n_kind n_figure n_cargo n_load k_there k_used k_hidden k_kind k_figure k_cargo k_load isKept tlen llen out.2.2.2.2.2.2.2.1 out.2.2.2.2.2.2.2.2.1 out.2.2.2.2.2.2.2.2.2.1 out.2.2.2.2.2.2.2.2.2.2.1 n_ships n_inn n_coughs n_day k_ships k_inn k_coughs k_day held perm hist)) args s 0 0 A) (F0 m 61 ls [])) → W p l e (rmOf 4 89) s m args below meth c H locs 0 0 (MQ below (Qof G A (some (.int out.2.2.2.2.2.2.2.2.2.2.2)) (wT G ad adt adb ade adm adn adk adp adr refusals tcells lcells out.1 out.2.1 out.2.2.1 out.2.2.2.1 out.2.2.2.2.1 out.2.2.2.2.2.1 out.2.2.2.2.2.2.1 n_there n_used n_hidden n_kind n_figure n_cargo n_load k_there k_used k_hidden k_kind k_figure k_cargo k_load isKept tlen llen out.2.2.2.2.2.2.2.1 out.2.2.2.2.2.2.2.2.1 out.2.2.2.2.2.2.2.2.2.1 out.2.2.2.2.2.2.2.2.2.2.1 n_ships n_inn n_coughs n_day k_ships k_inn k_coughs k_day held perm hist)) args s 0 0 A) (F0 m 7 ls []) := by
  obtain ⟨hx, hb, hml, hown, hts, hK, hret, hlk⟩ := id C
  intro n
  induction n with
  | zero => intro x2 m_there m_inn m_coughs m_day hf; cases hf
  | succ n ih =>
    intro x2 m_there m_inn m_coughs m_day hf H locs hs ls hl hk
    rw [X4_firstToComeIn_L7] at hf
    refine lv_iload_n hx hb (dk hX4_firstToComeIn_0 5 rfl) rfl (lv_at hl 2 rfl) ?_
    refine lv_bipush (v := (60 : Int32)) hx hb (dk hX4_firstToComeIn_0 6 rfl) (by decide) ?_
    refine lv_icmp_ge (tgt := 61) hx hb (dk hX4_firstToComeIn_0 7 rfl) (by decide) (fun hc => ?_) (fun hc => ?_)
    · replace hf := ip hf hc
      exact hk _ _ _ _ hf _ _ hs _ (lv_sub hl [] rfl)
    · replace hf := in_ hf hc
      refine lv_aload_n hx hb (dk hX4_firstToComeIn_0 8 rfl) rfl (lv_at hl 1 rfl) ?_
      refine lv_iconst (v := (0 : Int32)) hx hb (dk hX4_firstToComeIn_0 9 rfl) (by decide) ?_
      obtain ⟨u_3, e_4, hf⟩ := Option.bind_eq_some_iff.mp hf
      refine Ct.V (As := [.int (0 : Int32)]) (rest := []) (st1 := []) (w1 := (wT G ad adt adb ade adm adn adk adp adr refusals tcells lcells u_3.1 m_used m_hidden m_kind m_figure m_cargo m_load n_there n_used n_hidden n_kind n_figure n_cargo n_load k_there k_used k_hidden k_kind k_figure k_cargo k_load isKept tlen llen m_ships u_3.2.1 u_3.2.2.1 u_3.2.2.2 n_ships n_inn n_coughs n_day k_ships k_inn k_coughs k_day held perm hist)) C hs (c_X0_passDay__mind e_4) tw_329 tw_273 tw_274 tw_18 tw_275 nq_X0_passDay (by decide) 7 0 rfl rfl rfl rfl hl.1 rfl (Nat.le_of_ble_eq_true rfl) (dk hX4_firstToComeIn_0 10 rfl) ⟨Nat.zero_le _, Nat.zero_le _⟩ rfl (fun H locs hs => ?_)
      refine lv_iconst (v := (0 : Int32)) hx hb (dk hX4_firstToComeIn_0 11 rfl) (by decide) ?_
      refine lv_istore_n (lv' := [(3, .int (0 : Int32)), (0, .ref (ad 0)), (1, .ref (adm 0)), (2, .int x2)]) hx hb (dk hX4_firstToComeIn_0 12 rfl) rfl hl (by decide) rfl (fun ls hl => ?_)
      refine l_X4_firstToComeIn_L20 C 1000 _ hf _ _ hs _ (lv_sub hl [1, 2, 3, 0] rfl) (fun _ hf H locs hs ls hl => ?_)
      refine lv_iinc (v := (x2 + (1 : Int32))) (lv' := [(2, .int (x2 + (1 : Int32))), (0, .ref (ad 0)), (1, .ref (adm 0))]) hx hb (dk hX4_firstToComeIn_0 30 rfl) hl (k := 2) rfl (by first | rfl | decide) (by decide) rfl (fun ls hl => ?_)
      refine lv_goto (tgt := 7) hx hb (dk hX4_firstToComeIn_0 31 rfl) (by decide) ?_
      exact ih _ _ _ _ _ hf _ _ hs _ (lv_sub hl [1, 2, 0] rfl) hk
set_option maxRecDepth 100000 in
set_option maxHeartbeats 4000000 in
theorem c_X4_firstToComeIn {l : Launch} {G : Gx} {ad adt adb ade adm adn adk adp : Nat → Nat} {adr : Nat → Nat → Nat} {refusals tcells lcells m_there m_used m_hidden m_kind m_figure m_cargo m_load n_there n_used n_hidden n_kind n_figure n_cargo n_load k_there k_used k_hidden k_kind k_figure k_cargo k_load : List Int32} {isKept tlen llen m_ships m_inn m_coughs m_day n_ships n_inn n_coughs n_day k_ships k_inn k_coughs k_day held : Int32} {perm : Nat → Nat} {hist : Nat → Hs}  {out : List Int32 × List Int32 × List Int32 × List Int32 × List Int32 × List Int32 × List Int32 × Int32 × Int32 × Int32 × Int32 × Int32} (hf : X4_firstToComeIn m_there m_used m_hidden m_kind m_figure m_cargo m_load n_there n_used n_hidden n_kind n_figure n_cargo n_load m_ships m_inn m_coughs m_day n_ships n_inn n_coughs n_day = some out) : Ct l G yX4_firstToComeIn cX4_firstToComeIn 4 (some .int) 4 89 [.ref (ad 0)] (wT G ad adt adb ade adm adn adk adp adr refusals tcells lcells m_there m_used m_hidden m_kind m_figure m_cargo m_load n_there n_used n_hidden n_kind n_figure n_cargo n_load k_there k_used k_hidden k_kind k_figure k_cargo k_load isKept tlen llen m_ships m_inn m_coughs m_day n_ships n_inn n_coughs n_day k_ships k_inn k_coughs k_day held perm hist) (some (.int out.2.2.2.2.2.2.2.2.2.2.2)) (wT G ad adt adb ade adm adn adk adp adr refusals tcells lcells out.1 out.2.1 out.2.2.1 out.2.2.2.1 out.2.2.2.2.1 out.2.2.2.2.2.1 out.2.2.2.2.2.2.1 n_there n_used n_hidden n_kind n_figure n_cargo n_load k_there k_used k_hidden k_kind k_figure k_cargo k_load isKept tlen llen out.2.2.2.2.2.2.2.1 out.2.2.2.2.2.2.2.2.1 out.2.2.2.2.2.2.2.2.2.1 out.2.2.2.2.2.2.2.2.2.2.1 n_ships n_inn n_coughs n_day k_ships k_inn k_coughs k_day held perm hist) := by
  refine Ct.intro RX4 rfl (plainFor_of_name (by decide)) (Nat.le_of_ble_eq_true rfl) rfl ?_
  intro p e s m args below meth c A C H locs hs ls hl
  obtain ⟨hx, hb, hml, hown, hts, hK, hret, hlk⟩ := id C
  have hl : lv_has ls 4 [(0, .ref (ad 0))] := hl
  unfold X4_firstToComeIn at hf
  refine lv_aload_n hx hb (dk hX4_firstToComeIn_0 0 rfl) rfl (lv_at hl 0 rfl) ?_
  obtain ⟨u_1, e_2, hf⟩ := Option.bind_eq_some_iff.mp hf
  refine Ct.V (As := []) (rest := []) (st1 := [.ref (adm 0)]) (w1 := (wT G ad adt adb ade adm adn adk adp adr refusals tcells lcells u_1.1 u_1.2.1 u_1.2.2.1 u_1.2.2.2.1 u_1.2.2.2.2.1 u_1.2.2.2.2.2.1 u_1.2.2.2.2.2.2.1 n_there n_used n_hidden n_kind n_figure n_cargo n_load k_there k_used k_hidden k_kind k_figure k_cargo k_load isKept tlen llen u_1.2.2.2.2.2.2.2.1 u_1.2.2.2.2.2.2.2.2.1 u_1.2.2.2.2.2.2.2.2.2.1 u_1.2.2.2.2.2.2.2.2.2.2 n_ships n_inn n_coughs n_day k_ships k_inn k_coughs k_day held perm hist)) C hs (c_X4_fromNow e_2) tw_312 tw_314 tw_4 tw_17 tw_315 nq_X4_fromNow (by decide) 0 4 rfl rfl rfl rfl hl.1 rfl (Nat.le_of_ble_eq_true rfl) (dk hX4_firstToComeIn_0 1 rfl) ⟨Nat.zero_le _, Nat.zero_le _⟩ rfl (fun H locs hs => ?_)
  refine lv_astore_n (lv' := [(1, .ref (adm 0)), (0, .ref (ad 0))]) hx hb (dk hX4_firstToComeIn_0 2 rfl) rfl hl (by decide) rfl (fun ls hl => ?_)
  refine lv_iconst (v := (0 : Int32)) hx hb (dk hX4_firstToComeIn_0 3 rfl) (by decide) ?_
  refine lv_istore_n (lv' := [(2, .int (0 : Int32)), (1, .ref (adm 0)), (0, .ref (ad 0))]) hx hb (dk hX4_firstToComeIn_0 4 rfl) rfl hl (by decide) rfl (fun ls hl => ?_)
  refine l_X4_firstToComeIn_L7 C 1000 _ _ _ _ _ hf _ _ hs _ (lv_sub hl [2, 1, 0] rfl) (fun m_there_9 m_inn_10 m_coughs_11 m_day_12 hf H locs hs ls hl => ?_)
  refine lv_bipush (v := (-9 : Int32)) hx hb (dk hX4_firstToComeIn_0 32 rfl) (by decide) ?_
  cases hf
  exact ri C hs (dk hX4_firstToComeIn_0 33 rfl)

def X4_comes (refusals : List Int32) (m_there : List Int32) (m_used : List Int32) (m_hidden : List Int32) (m_kind : List Int32) (m_figure : List Int32) (m_cargo : List Int32) (m_load : List Int32) (n_there : List Int32) (n_used : List Int32) (n_hidden : List Int32) (n_kind : List Int32) (n_figure : List Int32) (n_cargo : List Int32) (n_load : List Int32) (m_ships : Int32) (m_inn : Int32) (m_coughs : Int32) (m_day : Int32) (n_ships : Int32) (n_inn : Int32) (n_coughs : Int32) (n_day : Int32) (p0 : Int32) : Option (List Int32 × List Int32 × List Int32 × List Int32 × List Int32 × List Int32 × List Int32 × List Int32 × Int32 × Int32 × Int32 × Int32 × Int32) :=
  if p0 = (-1 : Int32) then
  (X4_firstToComeIn m_there m_used m_hidden m_kind m_figure m_cargo m_load n_there n_used n_hidden n_kind n_figure n_cargo n_load m_ships m_inn m_coughs m_day n_ships n_inn n_coughs n_day).bind fun u_9 =>
  some (refusals, u_9.1, u_9.2.1, u_9.2.2.1, u_9.2.2.2.1, u_9.2.2.2.2.1, u_9.2.2.2.2.2.1, u_9.2.2.2.2.2.2.1, u_9.2.2.2.2.2.2.2.1, u_9.2.2.2.2.2.2.2.2.1, u_9.2.2.2.2.2.2.2.2.2.1, u_9.2.2.2.2.2.2.2.2.2.2.1, u_9.2.2.2.2.2.2.2.2.2.2.2)
  else
  (X0_isShip n_ships p0).bind fun u_1 =>
  if u_1 = (0 : Int32) then
  (X4_refuse refusals (-1 : Int32)).bind fun u_7 =>
  some (u_7.1, m_there, m_used, m_hidden, m_kind, m_figure, m_cargo, m_load, m_ships, m_inn, m_coughs, m_day, u_7.2)
  else
  (X4_fromNow m_there m_used m_hidden m_kind m_figure m_cargo m_load n_there n_used n_hidden n_kind n_figure n_cargo n_load m_ships m_inn m_coughs m_day n_ships n_inn n_coughs n_day).bind fun u_3 =>
  (X0_daysUntilIn u_3.1 u_3.2.1 u_3.2.2.1 u_3.2.2.2.1 u_3.2.2.2.2.1 u_3.2.2.2.2.2.1 u_3.2.2.2.2.2.2.1 u_3.2.2.2.2.2.2.2.1 u_3.2.2.2.2.2.2.2.2.1 u_3.2.2.2.2.2.2.2.2.2.1 u_3.2.2.2.2.2.2.2.2.2.2 p0 (60 : Int32)).bind fun u_5 =>
  some (refusals, u_5.1, u_3.2.1, u_3.2.2.1, u_3.2.2.2.1, u_3.2.2.2.2.1, u_3.2.2.2.2.2.1, u_3.2.2.2.2.2.2.1, u_3.2.2.2.2.2.2.2.1, u_5.2.1, u_5.2.2.1, u_5.2.2.2.1, u_5.2.2.2.2)
set_option maxRecDepth 100000 in
set_option maxHeartbeats 4000000 in
theorem c_X4_comes {l : Launch} {G : Gx} {ad adt adb ade adm adn adk adp : Nat → Nat} {adr : Nat → Nat → Nat} {refusals tcells lcells m_there m_used m_hidden m_kind m_figure m_cargo m_load n_there n_used n_hidden n_kind n_figure n_cargo n_load k_there k_used k_hidden k_kind k_figure k_cargo k_load : List Int32} {isKept tlen llen m_ships m_inn m_coughs m_day n_ships n_inn n_coughs n_day k_ships k_inn k_coughs k_day held : Int32} {perm : Nat → Nat} {hist : Nat → Hs} {p0 : Int32} {out : List Int32 × List Int32 × List Int32 × List Int32 × List Int32 × List Int32 × List Int32 × List Int32 × Int32 × Int32 × Int32 × Int32 × Int32} (hf : X4_comes refusals m_there m_used m_hidden m_kind m_figure m_cargo m_load n_there n_used n_hidden n_kind n_figure n_cargo n_load m_ships m_inn m_coughs m_day n_ships n_inn n_coughs n_day p0 = some out) : Ct l G yX4_comes cX4_comes 2 (some .int) 5 112 [.ref (ad 0), .int p0] (wT G ad adt adb ade adm adn adk adp adr refusals tcells lcells m_there m_used m_hidden m_kind m_figure m_cargo m_load n_there n_used n_hidden n_kind n_figure n_cargo n_load k_there k_used k_hidden k_kind k_figure k_cargo k_load isKept tlen llen m_ships m_inn m_coughs m_day n_ships n_inn n_coughs n_day k_ships k_inn k_coughs k_day held perm hist) (some (.int out.2.2.2.2.2.2.2.2.2.2.2.2)) (wT G ad adt adb ade adm adn adk adp adr out.1 tcells lcells out.2.1 out.2.2.1 out.2.2.2.1 out.2.2.2.2.1 out.2.2.2.2.2.1 out.2.2.2.2.2.2.1 out.2.2.2.2.2.2.2.1 n_there n_used n_hidden n_kind n_figure n_cargo n_load k_there k_used k_hidden k_kind k_figure k_cargo k_load isKept tlen llen out.2.2.2.2.2.2.2.2.1 out.2.2.2.2.2.2.2.2.2.1 out.2.2.2.2.2.2.2.2.2.2.1 out.2.2.2.2.2.2.2.2.2.2.2.1 n_ships n_inn n_coughs n_day k_ships k_inn k_coughs k_day held perm hist) := by
  refine Ct.intro RX4 rfl (plainFor_of_name (by decide)) (Nat.le_of_ble_eq_true rfl) rfl ?_
  intro p e s m args below meth c A C H locs hs ls hl
  obtain ⟨hx, hb, hml, hown, hts, hK, hret, hlk⟩ := id C
  have hl : lv_has ls 2 [(0, .ref (ad 0)), (1, .int p0)] := hl
  unfold X4_comes at hf
  refine lv_iload_n hx hb (dk hX4_comes_0 0 rfl) rfl (lv_at hl 1 rfl) ?_
  refine lv_iconst (v := (-1 : Int32)) hx hb (dk hX4_comes_0 1 rfl) (by decide) ?_
  refine lv_icmp_ne (tgt := 10) hx hb (dk hX4_comes_0 2 rfl) (by decide) (fun hc => ?_) (fun hc => ?_)
  · replace hf := in_ hf hc
    refine lv_aload_n hx hb (dk hX4_comes_0 6 rfl) rfl (lv_at hl 0 rfl) ?_
    refine rg ui4 rfl C hs 0 rfl 0 (by decide) tw_134 rfl rfl (dk hX4_comes_0 7 rfl) ?_
    refine lv_iload_n hx hb (dk hX4_comes_0 8 rfl) rfl (lv_at hl 1 rfl) ?_
    obtain ⟨u_1, e_2, hf⟩ := Option.bind_eq_some_iff.mp hf
    refine Ct.V (As := [.int p0]) (rest := []) (st1 := [.int u_1]) (w1 := (wT G ad adt adb ade adm adn adk adp adr refusals tcells lcells m_there m_used m_hidden m_kind m_figure m_cargo m_load n_there n_used n_hidden n_kind n_figure n_cargo n_load k_there k_used k_hidden k_kind k_figure k_cargo k_load isKept tlen llen m_ships m_inn m_coughs m_day n_ships n_inn n_coughs n_day k_ships k_inn k_coughs k_day held perm hist)) C hs (c_X0_isShip__now e_2) tw_178 tw_179 tw_180 tw_18 tw_181 nq_X0_isShip (by decide) 15 0 rfl rfl rfl rfl hl.1 rfl (Nat.le_of_ble_eq_true rfl) (dk hX4_comes_0 9 rfl) ⟨Nat.zero_le _, Nat.zero_le _⟩ rfl (fun H locs hs => ?_)
    refine lv_if_ne (tgt := 27) hx hb (dk hX4_comes_0 10 rfl) (by decide) (fun hc => ?_) (fun hc => ?_)
    · replace hf := in_ hf hc
      refine lv_aload_n hx hb (dk hX4_comes_0 15 rfl) rfl (lv_at hl 0 rfl) ?_
      obtain ⟨u_3, e_4, hf⟩ := Option.bind_eq_some_iff.mp hf
      refine Ct.V (As := []) (rest := []) (st1 := [.ref (adm 0)]) (w1 := (wT G ad adt adb ade adm adn adk adp adr refusals tcells lcells u_3.1 u_3.2.1 u_3.2.2.1 u_3.2.2.2.1 u_3.2.2.2.2.1 u_3.2.2.2.2.2.1 u_3.2.2.2.2.2.2.1 n_there n_used n_hidden n_kind n_figure n_cargo n_load k_there k_used k_hidden k_kind k_figure k_cargo k_load isKept tlen llen u_3.2.2.2.2.2.2.2.1 u_3.2.2.2.2.2.2.2.2.1 u_3.2.2.2.2.2.2.2.2.2.1 u_3.2.2.2.2.2.2.2.2.2.2 n_ships n_inn n_coughs n_day k_ships k_inn k_coughs k_day held perm hist)) C hs (c_X4_fromNow e_4) tw_312 tw_314 tw_4 tw_17 tw_315 nq_X4_fromNow (by decide) 0 4 rfl rfl rfl rfl hl.1 rfl (Nat.le_of_ble_eq_true rfl) (dk hX4_comes_0 16 rfl) ⟨Nat.zero_le _, Nat.zero_le _⟩ rfl (fun H locs hs => ?_)
      refine lv_iload_n hx hb (dk hX4_comes_0 17 rfl) rfl (lv_at hl 1 rfl) ?_
      refine lv_bipush (v := (60 : Int32)) hx hb (dk hX4_comes_0 18 rfl) (by decide) ?_
      obtain ⟨u_5, e_6, hf⟩ := Option.bind_eq_some_iff.mp hf
      refine Ct.V (As := [.int p0, .int (60 : Int32)]) (rest := []) (st1 := [.int u_5.2.2.2.2]) (w1 := (wT G ad adt adb ade adm adn adk adp adr refusals tcells lcells u_5.1 u_3.2.1 u_3.2.2.1 u_3.2.2.2.1 u_3.2.2.2.2.1 u_3.2.2.2.2.2.1 u_3.2.2.2.2.2.2.1 n_there n_used n_hidden n_kind n_figure n_cargo n_load k_there k_used k_hidden k_kind k_figure k_cargo k_load isKept tlen llen u_3.2.2.2.2.2.2.2.1 u_5.2.1 u_5.2.2.1 u_5.2.2.2.1 n_ships n_inn n_coughs n_day k_ships k_inn k_coughs k_day held perm hist)) C hs (c_X0_daysUntilIn__mind e_6) tw_330 tw_331 tw_332 tw_18 tw_333 nq_X0_daysUntilIn (by decide) 7 0 rfl rfl rfl rfl hl.1 rfl (Nat.le_of_ble_eq_true rfl) (dk hX4_comes_0 19 rfl) ⟨Nat.zero_le _, Nat.zero_le _⟩ rfl (fun H locs hs => ?_)
      cases hf
      exact ri C hs (dk hX4_comes_0 20 rfl)
    · replace hf := ip hf hc
      refine lv_aload_n hx hb (dk hX4_comes_0 11 rfl) rfl (lv_at hl 0 rfl) ?_
      refine lv_iconst (v := (-1 : Int32)) hx hb (dk hX4_comes_0 12 rfl) (by decide) ?_
      obtain ⟨u_7, e_8, hf⟩ := Option.bind_eq_some_iff.mp hf
      refine Ct.V (As := [.int (-1 : Int32)]) (rest := []) (st1 := [.int u_7.2]) (w1 := (wT G ad adt adb ade adm adn adk adp adr u_7.1 tcells lcells m_there m_used m_hidden m_kind m_figure m_cargo m_load n_there n_used n_hidden n_kind n_figure n_cargo n_load k_there k_used k_hidden k_kind k_figure k_cargo k_load isKept tlen llen m_ships m_inn m_coughs m_day n_ships n_inn n_coughs n_day k_ships k_inn k_coughs k_day held perm hist)) C hs (c_X4_refuse e_8) tw_166 tw_168 tw_0 tw_17 tw_169 nq_X4_refuse (by decide) 0 4 rfl rfl rfl rfl hl.1 rfl (Nat.le_of_ble_eq_true rfl) (dk hX4_comes_0 13 rfl) ⟨Nat.zero_le _, Nat.zero_le _⟩ rfl (fun H locs hs => ?_)
      cases hf
      exact ri C hs (dk hX4_comes_0 14 rfl)
  · replace hf := ip hf hc
    refine lv_aload_n hx hb (dk hX4_comes_0 3 rfl) rfl (lv_at hl 0 rfl) ?_
    obtain ⟨u_9, e_10, hf⟩ := Option.bind_eq_some_iff.mp hf
    refine Ct.V (As := []) (rest := []) (st1 := [.int u_9.2.2.2.2.2.2.2.2.2.2.2]) (w1 := (wT G ad adt adb ade adm adn adk adp adr refusals tcells lcells u_9.1 u_9.2.1 u_9.2.2.1 u_9.2.2.2.1 u_9.2.2.2.2.1 u_9.2.2.2.2.2.1 u_9.2.2.2.2.2.2.1 n_there n_used n_hidden n_kind n_figure n_cargo n_load k_there k_used k_hidden k_kind k_figure k_cargo k_load isKept tlen llen u_9.2.2.2.2.2.2.2.1 u_9.2.2.2.2.2.2.2.2.1 u_9.2.2.2.2.2.2.2.2.2.1 u_9.2.2.2.2.2.2.2.2.2.2.1 n_ships n_inn n_coughs n_day k_ships k_inn k_coughs k_day held perm hist)) C hs (c_X4_firstToComeIn e_10) tw_325 tw_327 tw_5 tw_17 tw_328 nq_X4_firstToComeIn (by decide) 0 4 rfl rfl rfl rfl hl.1 rfl (Nat.le_of_ble_eq_true rfl) (dk hX4_comes_0 4 rfl) ⟨Nat.zero_le _, Nat.zero_le _⟩ rfl (fun H locs hs => ?_)
    cases hf
    exact ri C hs (dk hX4_comes_0 5 rfl)

def X4_isInNextDay (m_there : List Int32) (m_used : List Int32) (m_hidden : List Int32) (m_kind : List Int32) (m_figure : List Int32) (m_cargo : List Int32) (m_load : List Int32) (n_there : List Int32) (n_used : List Int32) (n_hidden : List Int32) (n_kind : List Int32) (n_figure : List Int32) (n_cargo : List Int32) (n_load : List Int32) (m_ships : Int32) (m_inn : Int32) (m_coughs : Int32) (m_day : Int32) (n_ships : Int32) (n_inn : Int32) (n_coughs : Int32) (n_day : Int32) (p0 : Int32) (p1 : Int32) : Option (List Int32 × List Int32 × List Int32 × List Int32 × List Int32 × List Int32 × List Int32 × Int32 × Int32 × Int32 × Int32 × Int32) :=
  (X4_fromNow m_there m_used m_hidden m_kind m_figure m_cargo m_load n_there n_used n_hidden n_kind n_figure n_cargo n_load m_ships m_inn m_coughs m_day n_ships n_inn n_coughs n_day).bind fun u_1 =>
  (X0_passDay u_1.1 u_1.2.1 u_1.2.2.1 u_1.2.2.2.1 u_1.2.2.2.2.1 u_1.2.2.2.2.2.1 u_1.2.2.2.2.2.2.1 u_1.2.2.2.2.2.2.2.1 u_1.2.2.2.2.2.2.2.2.1 u_1.2.2.2.2.2.2.2.2.2.1 u_1.2.2.2.2.2.2.2.2.2.2 p1).bind fun u_3 =>
  (X0_isIn u_3.2.1 p0).bind fun u_5 =>
  (c01 u_5).bind fun b_7 =>
  some (u_3.1, u_1.2.1, u_1.2.2.1, u_1.2.2.2.1, u_1.2.2.2.2.1, u_1.2.2.2.2.2.1, u_1.2.2.2.2.2.2.1, u_1.2.2.2.2.2.2.2.1, u_3.2.1, u_3.2.2.1, u_3.2.2.2, b_7)
set_option maxRecDepth 100000 in
set_option maxHeartbeats 4000000 in
theorem c_X4_isInNextDay {l : Launch} {G : Gx} {ad adt adb ade adm adn adk adp : Nat → Nat} {adr : Nat → Nat → Nat} {refusals tcells lcells m_there m_used m_hidden m_kind m_figure m_cargo m_load n_there n_used n_hidden n_kind n_figure n_cargo n_load k_there k_used k_hidden k_kind k_figure k_cargo k_load : List Int32} {isKept tlen llen m_ships m_inn m_coughs m_day n_ships n_inn n_coughs n_day k_ships k_inn k_coughs k_day held : Int32} {perm : Nat → Nat} {hist : Nat → Hs} {p0 : Int32} {p1 : Int32} {out : List Int32 × List Int32 × List Int32 × List Int32 × List Int32 × List Int32 × List Int32 × Int32 × Int32 × Int32 × Int32 × Int32} (hf : X4_isInNextDay m_there m_used m_hidden m_kind m_figure m_cargo m_load n_there n_used n_hidden n_kind n_figure n_cargo n_load m_ships m_inn m_coughs m_day n_ships n_inn n_coughs n_day p0 p1 = some out) : Ct l G yX4_isInNextDay cX4_isInNextDay 4 (some .boolean) 4 89 [.ref (ad 0), .int p0, .int p1] (wT G ad adt adb ade adm adn adk adp adr refusals tcells lcells m_there m_used m_hidden m_kind m_figure m_cargo m_load n_there n_used n_hidden n_kind n_figure n_cargo n_load k_there k_used k_hidden k_kind k_figure k_cargo k_load isKept tlen llen m_ships m_inn m_coughs m_day n_ships n_inn n_coughs n_day k_ships k_inn k_coughs k_day held perm hist) (some (.int out.2.2.2.2.2.2.2.2.2.2.2)) (wT G ad adt adb ade adm adn adk adp adr refusals tcells lcells out.1 out.2.1 out.2.2.1 out.2.2.2.1 out.2.2.2.2.1 out.2.2.2.2.2.1 out.2.2.2.2.2.2.1 n_there n_used n_hidden n_kind n_figure n_cargo n_load k_there k_used k_hidden k_kind k_figure k_cargo k_load isKept tlen llen out.2.2.2.2.2.2.2.1 out.2.2.2.2.2.2.2.2.1 out.2.2.2.2.2.2.2.2.2.1 out.2.2.2.2.2.2.2.2.2.2.1 n_ships n_inn n_coughs n_day k_ships k_inn k_coughs k_day held perm hist) := by
  refine Ct.intro RX4 rfl (plainFor_of_name (by decide)) (Nat.le_of_ble_eq_true rfl) rfl ?_
  intro p e s m args below meth c A C H locs hs ls hl
  obtain ⟨hx, hb, hml, hown, hts, hK, hret, hlk⟩ := id C
  have hl : lv_has ls 4 [(0, .ref (ad 0)), (1, .int p0), (2, .int p1)] := hl
  unfold X4_isInNextDay at hf
  refine lv_aload_n hx hb (dk hX4_isInNextDay_0 0 rfl) rfl (lv_at hl 0 rfl) ?_
  obtain ⟨u_1, e_2, hf⟩ := Option.bind_eq_some_iff.mp hf
  refine Ct.V (As := []) (rest := []) (st1 := [.ref (adm 0)]) (w1 := (wT G ad adt adb ade adm adn adk adp adr refusals tcells lcells u_1.1 u_1.2.1 u_1.2.2.1 u_1.2.2.2.1 u_1.2.2.2.2.1 u_1.2.2.2.2.2.1 u_1.2.2.2.2.2.2.1 n_there n_used n_hidden n_kind n_figure n_cargo n_load k_there k_used k_hidden k_kind k_figure k_cargo k_load isKept tlen llen u_1.2.2.2.2.2.2.2.1 u_1.2.2.2.2.2.2.2.2.1 u_1.2.2.2.2.2.2.2.2.2.1 u_1.2.2.2.2.2.2.2.2.2.2 n_ships n_inn n_coughs n_day k_ships k_inn k_coughs k_day held perm hist)) C hs (c_X4_fromNow e_2) tw_312 tw_314 tw_4 tw_17 tw_315 nq_X4_fromNow (by decide) 0 4 rfl rfl rfl rfl hl.1 rfl (Nat.le_of_ble_eq_true rfl) (dk hX4_isInNextDay_0 1 rfl) ⟨Nat.zero_le _, Nat.zero_le _⟩ rfl (fun H locs hs => ?_)
  refine lv_astore_n (lv' := [(3, .ref (adm 0)), (0, .ref (ad 0)), (1, .int p0), (2, .int p1)]) hx hb (dk hX4_isInNextDay_0 2 rfl) rfl hl (by decide) rfl (fun ls hl => ?_)
  refine lv_aload_n hx hb (dk hX4_isInNextDay_0 3 rfl) rfl (lv_at hl 0 rfl) ?_
  refine lv_iload_n hx hb (dk hX4_isInNextDay_0 4 rfl) rfl (lv_at hl 3 rfl) ?_
  obtain ⟨u_3, e_4, hf⟩ := Option.bind_eq_some_iff.mp hf
  refine Ct.V (As := [.int p1]) (rest := []) (st1 := []) (w1 := (wT G ad adt adb ade adm adn adk adp adr refusals tcells lcells u_3.1 u_1.2.1 u_1.2.2.1 u_1.2.2.2.1 u_1.2.2.2.2.1 u_1.2.2.2.2.2.1 u_1.2.2.2.2.2.2.1 n_there n_used n_hidden n_kind n_figure n_cargo n_load k_there k_used k_hidden k_kind k_figure k_cargo k_load isKept tlen llen u_1.2.2.2.2.2.2.2.1 u_3.2.1 u_3.2.2.1 u_3.2.2.2 n_ships n_inn n_coughs n_day k_ships k_inn k_coughs k_day held perm hist)) C hs (c_X0_passDay__mind e_4) tw_329 tw_273 tw_274 tw_18 tw_275 nq_X0_passDay (by decide) 7 0 rfl rfl rfl rfl hl.1 rfl (Nat.le_of_ble_eq_true rfl) (dk hX4_isInNextDay_0 5 rfl) ⟨Nat.zero_le _, Nat.zero_le _⟩ rfl (fun H locs hs => ?_)
  refine lv_aload_n hx hb (dk hX4_isInNextDay_0 6 rfl) rfl (lv_at hl 0 rfl) ?_
  refine lv_iload_n hx hb (dk hX4_isInNextDay_0 7 rfl) rfl (lv_at hl 2 rfl) ?_
  obtain ⟨u_5, e_6, hf⟩ := Option.bind_eq_some_iff.mp hf
  refine Ct.V (As := [.int p0]) (rest := []) (st1 := [.int u_5]) (w1 := (wT G ad adt adb ade adm adn adk adp adr refusals tcells lcells u_3.1 u_1.2.1 u_1.2.2.1 u_1.2.2.2.1 u_1.2.2.2.2.1 u_1.2.2.2.2.2.1 u_1.2.2.2.2.2.2.1 n_there n_used n_hidden n_kind n_figure n_cargo n_load k_there k_used k_hidden k_kind k_figure k_cargo k_load isKept tlen llen u_1.2.2.2.2.2.2.2.1 u_3.2.1 u_3.2.2.1 u_3.2.2.2 n_ships n_inn n_coughs n_day k_ships k_inn k_coughs k_day held perm hist)) C hs (c_X0_isIn__mind e_6) tw_182 tw_183 tw_184 tw_18 tw_185 nq_X0_isIn (by decide) 7 0 rfl rfl rfl rfl hl.1 rfl (Nat.le_of_ble_eq_true rfl) (dk hX4_isInNextDay_0 8 rfl) ⟨Nat.zero_le _, Nat.zero_le _⟩ rfl (fun H locs hs => ?_)
  obtain ⟨b_7, hz_8, hf⟩ := Option.bind_eq_some_iff.mp hf
  obtain ⟨hxe, hz⟩ := c01_z hz_8
  replace hxe := hxe.symm
  subst hxe
  cases hf
  exact rz hz C hs (dk hX4_isInNextDay_0 9 rfl)

def X4_isShut (m_there : List Int32) (m_used : List Int32) (m_hidden : List Int32) (m_kind : List Int32) (m_figure : List Int32) (m_cargo : List Int32) (m_load : List Int32) (n_there : List Int32) (n_used : List Int32) (n_hidden : List Int32) (n_kind : List Int32) (n_figure : List Int32) (n_cargo : List Int32) (n_load : List Int32) (m_ships : Int32) (m_inn : Int32) (m_coughs : Int32) (m_day : Int32) (n_ships : Int32) (n_inn : Int32) (n_coughs : Int32) (n_day : Int32) (p0 : Int32) : Option (List Int32 × List Int32 × List Int32 × List Int32 × List Int32 × List Int32 × List Int32 × Int32 × Int32 × Int32 × Int32 × Int32) :=
  (X0_isIn n_inn p0).bind fun u_1 =>
  if u_1 = (0 : Int32) then
  (X4_isInNextDay m_there m_used m_hidden m_kind m_figure m_cargo m_load n_there n_used n_hidden n_kind n_figure n_cargo n_load m_ships m_inn m_coughs m_day n_ships n_inn n_coughs n_day p0 (0 : Int32)).bind fun u_3 =>
  if u_3.2.2.2.2.2.2.2.2.2.2.2 = (0 : Int32) then
  (X4_isInNextDay u_3.1 u_3.2.1 u_3.2.2.1 u_3.2.2.2.1 u_3.2.2.2.2.1 u_3.2.2.2.2.2.1 u_3.2.2.2.2.2.2.1 n_there n_used n_hidden n_kind n_figure n_cargo n_load u_3.2.2.2.2.2.2.2.1 u_3.2.2.2.2.2.2.2.2.1 u_3.2.2.2.2.2.2.2.2.2.1 u_3.2.2.2.2.2.2.2.2.2.2.1 n_ships n_inn n_coughs n_day p0 ((127 : Int32) ^^^ ((1 : Int32) <<< (p0 &&& 31)))).bind fun u_5 =>
  if u_5.2.2.2.2.2.2.2.2.2.2.2 = (0 : Int32) then
  some (u_5.1, u_5.2.1, u_5.2.2.1, u_5.2.2.2.1, u_5.2.2.2.2.1, u_5.2.2.2.2.2.1, u_5.2.2.2.2.2.2.1, u_5.2.2.2.2.2.2.2.1, u_5.2.2.2.2.2.2.2.2.1, u_5.2.2.2.2.2.2.2.2.2.1, u_5.2.2.2.2.2.2.2.2.2.2.1, (0 : Int32))
  else
  some (u_5.1, u_5.2.1, u_5.2.2.1, u_5.2.2.2.1, u_5.2.2.2.2.1, u_5.2.2.2.2.2.1, u_5.2.2.2.2.2.2.1, u_5.2.2.2.2.2.2.2.1, u_5.2.2.2.2.2.2.2.2.1, u_5.2.2.2.2.2.2.2.2.2.1, u_5.2.2.2.2.2.2.2.2.2.2.1, (1 : Int32))
  else
  some (u_3.1, u_3.2.1, u_3.2.2.1, u_3.2.2.2.1, u_3.2.2.2.2.1, u_3.2.2.2.2.2.1, u_3.2.2.2.2.2.2.1, u_3.2.2.2.2.2.2.2.1, u_3.2.2.2.2.2.2.2.2.1, u_3.2.2.2.2.2.2.2.2.2.1, u_3.2.2.2.2.2.2.2.2.2.2.1, (0 : Int32))
  else
  some (m_there, m_used, m_hidden, m_kind, m_figure, m_cargo, m_load, m_ships, m_inn, m_coughs, m_day, (0 : Int32))
set_option maxRecDepth 100000 in
set_option maxHeartbeats 4000000 in
theorem c_X4_isShut {l : Launch} {G : Gx} {ad adt adb ade adm adn adk adp : Nat → Nat} {adr : Nat → Nat → Nat} {refusals tcells lcells m_there m_used m_hidden m_kind m_figure m_cargo m_load n_there n_used n_hidden n_kind n_figure n_cargo n_load k_there k_used k_hidden k_kind k_figure k_cargo k_load : List Int32} {isKept tlen llen m_ships m_inn m_coughs m_day n_ships n_inn n_coughs n_day k_ships k_inn k_coughs k_day held : Int32} {perm : Nat → Nat} {hist : Nat → Hs} {p0 : Int32} {out : List Int32 × List Int32 × List Int32 × List Int32 × List Int32 × List Int32 × List Int32 × Int32 × Int32 × Int32 × Int32 × Int32} (hf : X4_isShut m_there m_used m_hidden m_kind m_figure m_cargo m_load n_there n_used n_hidden n_kind n_figure n_cargo n_load m_ships m_inn m_coughs m_day n_ships n_inn n_coughs n_day p0 = some out) : Ct l G yX4_isShut cX4_isShut 2 (some .boolean) 5 112 [.ref (ad 0), .int p0] (wT G ad adt adb ade adm adn adk adp adr refusals tcells lcells m_there m_used m_hidden m_kind m_figure m_cargo m_load n_there n_used n_hidden n_kind n_figure n_cargo n_load k_there k_used k_hidden k_kind k_figure k_cargo k_load isKept tlen llen m_ships m_inn m_coughs m_day n_ships n_inn n_coughs n_day k_ships k_inn k_coughs k_day held perm hist) (some (.int out.2.2.2.2.2.2.2.2.2.2.2)) (wT G ad adt adb ade adm adn adk adp adr refusals tcells lcells out.1 out.2.1 out.2.2.1 out.2.2.2.1 out.2.2.2.2.1 out.2.2.2.2.2.1 out.2.2.2.2.2.2.1 n_there n_used n_hidden n_kind n_figure n_cargo n_load k_there k_used k_hidden k_kind k_figure k_cargo k_load isKept tlen llen out.2.2.2.2.2.2.2.1 out.2.2.2.2.2.2.2.2.1 out.2.2.2.2.2.2.2.2.2.1 out.2.2.2.2.2.2.2.2.2.2.1 n_ships n_inn n_coughs n_day k_ships k_inn k_coughs k_day held perm hist) := by
  refine Ct.intro RX4 rfl (plainFor_of_name (by decide)) (Nat.le_of_ble_eq_true rfl) rfl ?_
  intro p e s m args below meth c A C H locs hs ls hl
  obtain ⟨hx, hb, hml, hown, hts, hK, hret, hlk⟩ := id C
  have hl : lv_has ls 2 [(0, .ref (ad 0)), (1, .int p0)] := hl
  unfold X4_isShut at hf
  refine lv_aload_n hx hb (dk hX4_isShut_0 0 rfl) rfl (lv_at hl 0 rfl) ?_
  refine rg ui4 rfl C hs 0 rfl 0 (by decide) tw_134 rfl rfl (dk hX4_isShut_0 1 rfl) ?_
  refine lv_iload_n hx hb (dk hX4_isShut_0 2 rfl) rfl (lv_at hl 1 rfl) ?_
  obtain ⟨u_1, e_2, hf⟩ := Option.bind_eq_some_iff.mp hf
  refine Ct.V (As := [.int p0]) (rest := []) (st1 := [.int u_1]) (w1 := (wT G ad adt adb ade adm adn adk adp adr refusals tcells lcells m_there m_used m_hidden m_kind m_figure m_cargo m_load n_there n_used n_hidden n_kind n_figure n_cargo n_load k_there k_used k_hidden k_kind k_figure k_cargo k_load isKept tlen llen m_ships m_inn m_coughs m_day n_ships n_inn n_coughs n_day k_ships k_inn k_coughs k_day held perm hist)) C hs (c_X0_isIn__now e_2) tw_182 tw_183 tw_184 tw_18 tw_185 nq_X0_isIn (by decide) 15 0 rfl rfl rfl rfl hl.1 rfl (Nat.le_of_ble_eq_true rfl) (dk hX4_isShut_0 3 rfl) ⟨Nat.zero_le _, Nat.zero_le _⟩ rfl (fun H locs hs => ?_)
  refine lv_if_ne (tgt := 38) hx hb (dk hX4_isShut_0 4 rfl) (by decide) (fun hc => ?_) (fun hc => ?_)
  · replace hf := in_ hf hc
    refine lv_iconst (v := (0 : Int32)) hx hb (dk hX4_isShut_0 21 rfl) (by decide) ?_
    cases hf
    exact rz (x := (0 : Int32)) rfl C hs (dk hX4_isShut_0 22 rfl)
  · replace hf := ip hf hc
    refine lv_aload_n hx hb (dk hX4_isShut_0 5 rfl) rfl (lv_at hl 0 rfl) ?_
    refine lv_iload_n hx hb (dk hX4_isShut_0 6 rfl) rfl (lv_at hl 1 rfl) ?_
    refine lv_iconst (v := (0 : Int32)) hx hb (dk hX4_isShut_0 7 rfl) (by decide) ?_
    obtain ⟨u_3, e_4, hf⟩ := Option.bind_eq_some_iff.mp hf
    refine Ct.V (As := [.int p0, .int (0 : Int32)]) (rest := []) (st1 := [.int u_3.2.2.2.2.2.2.2.2.2.2.2]) (w1 := (wT G ad adt adb ade adm adn adk adp adr refusals tcells lcells u_3.1 u_3.2.1 u_3.2.2.1 u_3.2.2.2.1 u_3.2.2.2.2.1 u_3.2.2.2.2.2.1 u_3.2.2.2.2.2.2.1 n_there n_used n_hidden n_kind n_figure n_cargo n_load k_there k_used k_hidden k_kind k_figure k_cargo k_load isKept tlen llen u_3.2.2.2.2.2.2.2.1 u_3.2.2.2.2.2.2.2.2.1 u_3.2.2.2.2.2.2.2.2.2.1 u_3.2.2.2.2.2.2.2.2.2.2.1 n_ships n_inn n_coughs n_day k_ships k_inn k_coughs k_day held perm hist)) C hs (c_X4_isInNextDay e_4) tw_342 tw_344 tw_7 tw_17 tw_345 nq_X4_isInNextDay (by decide) 0 4 rfl rfl rfl rfl hl.1 rfl (Nat.le_of_ble_eq_true rfl) (dk hX4_isShut_0 8 rfl) ⟨Nat.zero_le _, Nat.zero_le _⟩ rfl (fun H locs hs => ?_)
    refine lv_if_ne (tgt := 38) hx hb (dk hX4_isShut_0 9 rfl) (by decide) (fun hc => ?_) (fun hc => ?_)
    · replace hf := in_ hf hc
      refine lv_iconst (v := (0 : Int32)) hx hb (dk hX4_isShut_0 21 rfl) (by decide) ?_
      cases hf
      exact rz (x := (0 : Int32)) rfl C hs (dk hX4_isShut_0 22 rfl)
    · replace hf := ip hf hc
      refine lv_aload_n hx hb (dk hX4_isShut_0 10 rfl) rfl (lv_at hl 0 rfl) ?_
      refine lv_iload_n hx hb (dk hX4_isShut_0 11 rfl) rfl (lv_at hl 1 rfl) ?_
      refine lv_bipush (v := (127 : Int32)) hx hb (dk hX4_isShut_0 12 rfl) (by decide) ?_
      refine lv_iconst (v := (1 : Int32)) hx hb (dk hX4_isShut_0 13 rfl) (by decide) ?_
      refine lv_iload_n hx hb (dk hX4_isShut_0 14 rfl) rfl (lv_at hl 1 rfl) ?_
      refine lv_ishl hx hb (dk hX4_isShut_0 15 rfl) ?_
      refine lv_ixor hx hb (dk hX4_isShut_0 16 rfl) ?_
      obtain ⟨u_5, e_6, hf⟩ := Option.bind_eq_some_iff.mp hf
      refine Ct.V (As := [.int p0, .int ((127 : Int32) ^^^ ((1 : Int32) <<< (p0 &&& 31)))]) (rest := []) (st1 := [.int u_5.2.2.2.2.2.2.2.2.2.2.2]) (w1 := (wT G ad adt adb ade adm adn adk adp adr refusals tcells lcells u_5.1 u_5.2.1 u_5.2.2.1 u_5.2.2.2.1 u_5.2.2.2.2.1 u_5.2.2.2.2.2.1 u_5.2.2.2.2.2.2.1 n_there n_used n_hidden n_kind n_figure n_cargo n_load k_there k_used k_hidden k_kind k_figure k_cargo k_load isKept tlen llen u_5.2.2.2.2.2.2.2.1 u_5.2.2.2.2.2.2.2.2.1 u_5.2.2.2.2.2.2.2.2.2.1 u_5.2.2.2.2.2.2.2.2.2.2.1 n_ships n_inn n_coughs n_day k_ships k_inn k_coughs k_day held perm hist)) C hs (c_X4_isInNextDay e_6) tw_342 tw_344 tw_7 tw_17 tw_345 nq_X4_isInNextDay (by decide) 0 4 rfl rfl rfl rfl hl.1 rfl (Nat.le_of_ble_eq_true rfl) (dk hX4_isShut_0 17 rfl) ⟨Nat.zero_le _, Nat.zero_le _⟩ rfl (fun H locs hs => ?_)
      refine lv_if_eq (tgt := 38) hx hb (dk hX4_isShut_0 18 rfl) (by decide) (fun hc => ?_) (fun hc => ?_)
      · replace hf := ip hf hc
        refine lv_iconst (v := (0 : Int32)) hx hb (dk hX4_isShut_0 21 rfl) (by decide) ?_
        cases hf
        exact rz (x := (0 : Int32)) rfl C hs (dk hX4_isShut_0 22 rfl)
      · replace hf := in_ hf hc
        refine lv_iconst (v := (1 : Int32)) hx hb (dk hX4_isShut_0 19 rfl) (by decide) ?_
        refine lv_goto (tgt := 39) hx hb (dk hX4_isShut_0 20 rfl) (by decide) ?_
        cases hf
        exact rz (x := (1 : Int32)) rfl C hs (dk hX4_isShut_0 22 rfl)

def X4_shut_L4 (k : Int32 → List Int32 → List Int32 → List Int32 → List Int32 → List Int32 → List Int32 → List Int32 → Int32 → Int32 → Int32 → Int32 → Option (List Int32 × List Int32 × List Int32 × List Int32 × List Int32 × List Int32 × List Int32 × Int32 × Int32 × Int32 × Int32 × Int32)) (n_there : List Int32) (n_used : List Int32) (n_hidden : List Int32) (n_kind : List Int32) (n_figure : List Int32) (n_cargo : List Int32) (n_load : List Int32) (n_ships : Int32) (n_inn : Int32) (n_coughs : Int32) (n_day : Int32) : Nat → Int32 → Int32 → List Int32 → List Int32 → List Int32 → List Int32 → List Int32 → List Int32 → List Int32 → Int32 → Int32 → Int32 → Int32 → Option (List Int32 × List Int32 × List Int32 × List Int32 × List Int32 × List Int32 × List Int32 × Int32 × Int32 × Int32 × Int32 × Int32)
  | 0, _, _, _, _, _, _, _, _, _, _, _, _, _ => none
  | n + 1, x1, x2, m_there, m_used, m_hidden, m_kind, m_figure, m_cargo, m_load, m_ships, m_inn, m_coughs, m_day =>
  if n_ships ≤ x2 then
  k x1 m_there m_used m_hidden m_kind m_figure m_cargo m_load m_ships m_inn m_coughs m_day
  else
  (X4_isShut m_there m_used m_hidden m_kind m_figure m_cargo m_load n_there n_used n_hidden n_kind n_figure n_cargo n_load m_ships m_inn m_coughs m_day n_ships n_inn n_coughs n_day x2).bind fun u_1 =>
  if u_1.2.2.2.2.2.2.2.2.2.2.2 = (0 : Int32) then
  X4_shut_L4 k n_there n_used n_hidden n_kind n_figure n_cargo n_load n_ships n_inn n_coughs n_day n x1 (x2 + (1 : Int32)) u_1.1 u_1.2.1 u_1.2.2.1 u_1.2.2.2.1 u_1.2.2.2.2.1 u_1.2.2.2.2.2.1 u_1.2.2.2.2.2.2.1 u_1.2.2.2.2.2.2.2.1 u_1.2.2.2.2.2.2.2.2.1 u_1.2.2.2.2.2.2.2.2.2.1 u_1.2.2.2.2.2.2.2.2.2.2.1
  else
  X4_shut_L4 k n_there n_used n_hidden n_kind n_figure n_cargo n_load n_ships n_inn n_coughs n_day n (x1 ||| ((1 : Int32) <<< (x2 &&& 31))) (x2 + (1 : Int32)) u_1.1 u_1.2.1 u_1.2.2.1 u_1.2.2.2.1 u_1.2.2.2.2.1 u_1.2.2.2.2.2.1 u_1.2.2.2.2.2.2.1 u_1.2.2.2.2.2.2.2.1 u_1.2.2.2.2.2.2.2.2.1 u_1.2.2.2.2.2.2.2.2.2.1 u_1.2.2.2.2.2.2.2.2.2.2.1
def X4_shut (m_there : List Int32) (m_used : List Int32) (m_hidden : List Int32) (m_kind : List Int32) (m_figure : List Int32) (m_cargo : List Int32) (m_load : List Int32) (n_there : List Int32) (n_used : List Int32) (n_hidden : List Int32) (n_kind : List Int32) (n_figure : List Int32) (n_cargo : List Int32) (n_load : List Int32) (m_ships : Int32) (m_inn : Int32) (m_coughs : Int32) (m_day : Int32) (n_ships : Int32) (n_inn : Int32) (n_coughs : Int32) (n_day : Int32) : Option (List Int32 × List Int32 × List Int32 × List Int32 × List Int32 × List Int32 × List Int32 × Int32 × Int32 × Int32 × Int32 × Int32) :=
  X4_shut_L4 (fun y1_3 m_there_4 m_used_5 m_hidden_6 m_kind_7 m_figure_8 m_cargo_9 m_load_10 m_ships_11 m_inn_12 m_coughs_13 m_day_14 =>
  some (m_there_4, m_used_5, m_hidden_6, m_kind_7, m_figure_8, m_cargo_9, m_load_10, m_ships_11, m_inn_12, m_coughs_13, m_day_14, y1_3)) n_there n_used n_hidden n_kind n_figure n_cargo n_load n_ships n_inn n_coughs n_day 1000 (0 : Int32) (0 : Int32) m_there m_used m_hidden m_kind m_figure m_cargo m_load m_ships m_inn m_coughs m_day
set_option maxRecDepth 100000 in
set_option maxHeartbeats 4000000 in
theorem l_X4_shut_L4 {l : Launch} {p : Program} {e : Env} {s : State} {m : MethodId} {args : Array Value} {below : List Frame} {meth : Method} {c : Code} {A : Nat → Prop} {G : Gx} {ad adt adb ade adm adn adk adp : Nat → Nat} {adr : Nat → Nat → Nat} {refusals tcells lcells n_there n_used n_hidden n_kind n_figure n_cargo n_load k_there k_used k_hidden k_kind k_figure k_cargo k_load : List Int32} {isKept tlen llen n_ships n_inn n_coughs n_day k_ships k_inn k_coughs k_day held : Int32} {perm : Nat → Nat} {hist : Nat → Hs} {k : Int32 → List Int32 → List Int32 → List Int32 → List Int32 → List Int32 → List Int32 → List Int32 → Int32 → Int32 → Int32 → Int32 → Option (List Int32 × List Int32 × List Int32 × List Int32 × List Int32 × List Int32 × List Int32 × Int32 × Int32 × Int32 × Int32 × Int32)} {out : List Int32 × List Int32 × List Int32 × List Int32 × List Int32 × List Int32 × List Int32 × Int32 × Int32 × Int32 × Int32 × Int32} (C : Cx p s m args meth c cX4_shut RX4 3 (some .int) G) : ∀ (n : Nat) (x1 : Int32) (x2 : Int32) (m_there : List Int32) (m_used : List Int32) (m_hidden : List Int32) (m_kind : List Int32) (m_figure : List Int32) (m_cargo : List Int32) (m_load : List Int32) (m_ships : Int32) (m_inn : Int32) (m_coughs : Int32) (m_day : Int32), X4_shut_L4 k n_there n_used n_hidden n_kind n_figure n_cargo n_load n_ships n_inn n_coughs n_day n x1 x2 m_there m_used m_hidden m_kind m_figure m_cargo m_load m_ships m_inn m_coughs m_day = some out → ∀ (H : Heap) (locs : List Loc), St G A s.heap H locs (wT G ad adt adb ade adm adn adk adp adr refusals tcells lcells m_there m_used m_hidden m_kind m_figure m_cargo m_load n_there n_used n_hidden n_kind n_figure n_cargo n_load k_there k_used k_hidden k_kind k_figure k_cargo k_load isKept tlen llen m_ships m_inn m_coughs m_day n_ships n_inn n_coughs n_day k_ships k_inn k_coughs k_day held perm hist) → ∀ ls : Array Slot, lv_has ls 3 [(0, .ref (ad 0)), (1, .int x1), (2, .int x2)] → (∀ (y1 : Int32) (z_m_there : List Int32) (z_m_used : List Int32) (z_m_hidden : List Int32) (z_m_kind : List Int32) (z_m_figure : List Int32) (z_m_cargo : List Int32) (z_m_load : List Int32) (z_m_ships : Int32) (z_m_inn : Int32) (z_m_coughs : Int32) (z_m_day : Int32), k y1 z_m_there z_m_used z_m_hidden z_m_kind z_m_figure z_m_cargo z_m_load z_m_ships z_m_inn z_m_coughs z_m_day = some out → ∀ (H : Heap) (locs : List Loc), St G A s.heap H locs (wT G ad adt adb ade adm adn adk adp adr refusals tcells lcells z_m_there z_m_used z_m_hidden z_m_kind z_m_figure z_m_cargo z_m_load n_there n_used n_hidden n_kind n_figure n_cargo n_load k_there k_used k_hidden k_kind k_figure k_cargo k_load isKept tlen llen z_m_ships z_m_inn z_m_coughs z_m_day n_ships n_inn n_coughs n_day k_ships k_inn k_coughs k_day held perm hist) → ∀ ls : Array Slot, lv_has ls 3 [(1, .int y1)] → W p l e (rmOf 6 133) s m args below meth c H locs 0 0 (MQ below (Qof G A (some (.int out.2.2.2.2.2.2.2.2.2.2.2)) (wT G ad adt adb ade adm adn adk adp adr refusals tcells lcells out.1 out.2.1 out.2.2.1 out.2.2.2.1 out.2.2.2.2.1 out.2.2.2.2.2.1 out.2.2.2.2.2.2.1 n_there n_used n_hidden n_kind n_figure n_cargo n_load k_there k_used k_hidden k_kind k_figure k_cargo k_load isKept tlen llen out.2.2.2.2.2.2.2.1 out.2.2.2.2.2.2.2.2.1 out.2.2.2.2.2.2.2.2.2.1 out.2.2.2.2.2.2.2.2.2.2.1 n_ships n_inn n_coughs n_day k_ships k_inn k_coughs k_day held perm hist)) args s 0 0 A) (F0 m 35 ls [])) → W p l e (rmOf 6 133) s m args below meth c H locs 0 0 (MQ below (Qof G A (some (.int out.2.2.2.2.2.2.2.2.2.2.2)) (wT G ad adt adb ade adm adn adk adp adr refusals tcells lcells out.1 out.2.1 out.2.2.1 out.2.2.2.1 out.2.2.2.2.1 out.2.2.2.2.2.1 out.2.2.2.2.2.2.1 n_there n_used n_hidden n_kind n_figure n_cargo n_load k_there k_used k_hidden k_kind k_figure k_cargo k_load isKept tlen llen out.2.2.2.2.2.2.2.1 out.2.2.2.2.2.2.2.2.1 out.2.2.2.2.2.2.2.2.2.1 out.2.2.2.2.2.2.2.2.2.2.1 n_ships n_inn n_coughs n_day k_ships k_inn k_coughs k_day held perm hist)) args s 0 0 A) (F0 m 4 ls []) := by
  obtain ⟨hx, hb, hml, hown, hts, hK, hret, hlk⟩ := id C
  intro n
  induction n with
  | zero => intro x1 x2 m_there m_used m_hidden m_kind m_figure m_cargo m_load m_ships m_inn m_coughs m_day hf; cases hf
  | succ n ih =>
    intro x1 x2 m_there m_used m_hidden m_kind m_figure m_cargo m_load m_ships m_inn m_coughs m_day hf H locs hs ls hl hk
    rw [X4_shut_L4] at hf
    refine lv_iload_n hx hb (dk hX4_shut_0 4 rfl) rfl (lv_at hl 2 rfl) ?_
    refine lv_aload_n hx hb (dk hX4_shut_0 5 rfl) rfl (lv_at hl 0 rfl) ?_
    refine rg ui4 rfl C hs 0 rfl 0 (by decide) tw_134 rfl rfl (dk hX4_shut_0 6 rfl) ?_
    refine rg ui0 rfl C hs 15 rfl 7 (by decide) tw_56 rfl rfl (dk hX4_shut_0 7 rfl) ?_
    refine lv_icmp_ge (tgt := 35) hx hb (dk hX4_shut_0 8 rfl) (by decide) (fun hc => ?_) (fun hc => ?_)
    · replace hf := ip hf hc
      exact hk _ _ _ _ _ _ _ _ _ _ _ _ hf _ _ hs _ (lv_sub hl [1] rfl)
    · replace hf := in_ hf hc
      refine lv_aload_n hx hb (dk hX4_shut_0 9 rfl) rfl (lv_at hl 0 rfl) ?_
      refine lv_iload_n hx hb (dk hX4_shut_0 10 rfl) rfl (lv_at hl 2 rfl) ?_
      obtain ⟨u_1, e_2, hf⟩ := Option.bind_eq_some_iff.mp hf
      refine Ct.V (As := [.int x2]) (rest := []) (st1 := [.int u_1.2.2.2.2.2.2.2.2.2.2.2]) (w1 := (wT G ad adt adb ade adm adn adk adp adr refusals tcells lcells u_1.1 u_1.2.1 u_1.2.2.1 u_1.2.2.2.1 u_1.2.2.2.2.1 u_1.2.2.2.2.2.1 u_1.2.2.2.2.2.2.1 n_there n_used n_hidden n_kind n_figure n_cargo n_load k_there k_used k_hidden k_kind k_figure k_cargo k_load isKept tlen llen u_1.2.2.2.2.2.2.2.1 u_1.2.2.2.2.2.2.2.2.1 u_1.2.2.2.2.2.2.2.2.2.1 u_1.2.2.2.2.2.2.2.2.2.2.1 n_ships n_inn n_coughs n_day k_ships k_inn k_coughs k_day held perm hist)) C hs (c_X4_isShut e_2) tw_338 tw_340 tw_6 tw_17 tw_341 nq_X4_isShut (by decide) 0 4 rfl rfl rfl rfl hl.1 rfl (Nat.le_of_ble_eq_true rfl) (dk hX4_shut_0 11 rfl) ⟨Nat.zero_le _, Nat.zero_le _⟩ rfl (fun H locs hs => ?_)
      refine lv_if_eq (tgt := 29) hx hb (dk hX4_shut_0 12 rfl) (by decide) (fun hc => ?_) (fun hc => ?_)
      · replace hf := ip hf hc
        refine lv_iinc (v := (x2 + (1 : Int32))) (lv' := [(2, .int (x2 + (1 : Int32))), (0, .ref (ad 0)), (1, .int x1)]) hx hb (dk hX4_shut_0 19 rfl) hl (k := 2) rfl (by first | rfl | decide) (by decide) rfl (fun ls hl => ?_)
        refine lv_goto (tgt := 4) hx hb (dk hX4_shut_0 20 rfl) (by decide) ?_
        exact ih _ _ _ _ _ _ _ _ _ _ _ _ _ hf _ _ hs _ (lv_sub hl [1, 2, 0] rfl) hk
      · replace hf := in_ hf hc
        refine lv_iload_n hx hb (dk hX4_shut_0 13 rfl) rfl (lv_at hl 1 rfl) ?_
        refine lv_iconst (v := (1 : Int32)) hx hb (dk hX4_shut_0 14 rfl) (by decide) ?_
        refine lv_iload_n hx hb (dk hX4_shut_0 15 rfl) rfl (lv_at hl 2 rfl) ?_
        refine lv_ishl hx hb (dk hX4_shut_0 16 rfl) ?_
        refine lv_ior hx hb (dk hX4_shut_0 17 rfl) ?_
        refine lv_istore_n (lv' := [(1, .int (x1 ||| ((1 : Int32) <<< (x2 &&& 31)))), (0, .ref (ad 0)), (2, .int x2)]) hx hb (dk hX4_shut_0 18 rfl) rfl hl (by decide) rfl (fun ls hl => ?_)
        refine lv_iinc (v := (x2 + (1 : Int32))) (lv' := [(2, .int (x2 + (1 : Int32))), (1, .int (x1 ||| ((1 : Int32) <<< (x2 &&& 31)))), (0, .ref (ad 0))]) hx hb (dk hX4_shut_0 19 rfl) hl (k := 2) rfl (by first | rfl | decide) (by decide) rfl (fun ls hl => ?_)
        refine lv_goto (tgt := 4) hx hb (dk hX4_shut_0 20 rfl) (by decide) ?_
        exact ih _ _ _ _ _ _ _ _ _ _ _ _ _ hf _ _ hs _ (lv_sub hl [2, 1, 0] rfl) hk
set_option maxRecDepth 100000 in
set_option maxHeartbeats 4000000 in
theorem c_X4_shut {l : Launch} {G : Gx} {ad adt adb ade adm adn adk adp : Nat → Nat} {adr : Nat → Nat → Nat} {refusals tcells lcells m_there m_used m_hidden m_kind m_figure m_cargo m_load n_there n_used n_hidden n_kind n_figure n_cargo n_load k_there k_used k_hidden k_kind k_figure k_cargo k_load : List Int32} {isKept tlen llen m_ships m_inn m_coughs m_day n_ships n_inn n_coughs n_day k_ships k_inn k_coughs k_day held : Int32} {perm : Nat → Nat} {hist : Nat → Hs}  {out : List Int32 × List Int32 × List Int32 × List Int32 × List Int32 × List Int32 × List Int32 × Int32 × Int32 × Int32 × Int32 × Int32} (hf : X4_shut m_there m_used m_hidden m_kind m_figure m_cargo m_load n_there n_used n_hidden n_kind n_figure n_cargo n_load m_ships m_inn m_coughs m_day n_ships n_inn n_coughs n_day = some out) : Ct l G yX4_shut cX4_shut 3 (some .int) 6 133 [.ref (ad 0)] (wT G ad adt adb ade adm adn adk adp adr refusals tcells lcells m_there m_used m_hidden m_kind m_figure m_cargo m_load n_there n_used n_hidden n_kind n_figure n_cargo n_load k_there k_used k_hidden k_kind k_figure k_cargo k_load isKept tlen llen m_ships m_inn m_coughs m_day n_ships n_inn n_coughs n_day k_ships k_inn k_coughs k_day held perm hist) (some (.int out.2.2.2.2.2.2.2.2.2.2.2)) (wT G ad adt adb ade adm adn adk adp adr refusals tcells lcells out.1 out.2.1 out.2.2.1 out.2.2.2.1 out.2.2.2.2.1 out.2.2.2.2.2.1 out.2.2.2.2.2.2.1 n_there n_used n_hidden n_kind n_figure n_cargo n_load k_there k_used k_hidden k_kind k_figure k_cargo k_load isKept tlen llen out.2.2.2.2.2.2.2.1 out.2.2.2.2.2.2.2.2.1 out.2.2.2.2.2.2.2.2.2.1 out.2.2.2.2.2.2.2.2.2.2.1 n_ships n_inn n_coughs n_day k_ships k_inn k_coughs k_day held perm hist) := by
  refine Ct.intro RX4 rfl (plainFor_of_name (by decide)) (Nat.le_of_ble_eq_true rfl) rfl ?_
  intro p e s m args below meth c A C H locs hs ls hl
  obtain ⟨hx, hb, hml, hown, hts, hK, hret, hlk⟩ := id C
  have hl : lv_has ls 3 [(0, .ref (ad 0))] := hl
  unfold X4_shut at hf
  refine lv_iconst (v := (0 : Int32)) hx hb (dk hX4_shut_0 0 rfl) (by decide) ?_
  refine lv_istore_n (lv' := [(1, .int (0 : Int32)), (0, .ref (ad 0))]) hx hb (dk hX4_shut_0 1 rfl) rfl hl (by decide) rfl (fun ls hl => ?_)
  refine lv_iconst (v := (0 : Int32)) hx hb (dk hX4_shut_0 2 rfl) (by decide) ?_
  refine lv_istore_n (lv' := [(2, .int (0 : Int32)), (1, .int (0 : Int32)), (0, .ref (ad 0))]) hx hb (dk hX4_shut_0 3 rfl) rfl hl (by decide) rfl (fun ls hl => ?_)
  refine l_X4_shut_L4 C 1000 _ _ _ _ _ _ _ _ _ _ _ _ _ hf _ _ hs _ (lv_sub hl [2, 1, 0] rfl) (fun y1_3 m_there_4 m_used_5 m_hidden_6 m_kind_7 m_figure_8 m_cargo_9 m_load_10 m_ships_11 m_inn_12 m_coughs_13 m_day_14 hf H locs hs ls hl => ?_)
  refine lv_iload_n hx hb (dk hX4_shut_0 21 rfl) rfl (lv_at hl 0 rfl) ?_
  cases hf
  exact ri C hs (dk hX4_shut_0 22 rfl)

def X4_byWhom_L30 (k : List Int32 → List Int32 → List Int32 → List Int32 → List Int32 → List Int32 → List Int32 → Int32 → Int32 → Int32 → Int32 → Option (List Int32 × List Int32 × List Int32 × List Int32 × List Int32 × List Int32 × List Int32 × List Int32 × Int32 × Int32 × Int32 × Int32 × Int32)) (refusals : List Int32) (n_there : List Int32) (n_used : List Int32) (n_hidden : List Int32) (n_kind : List Int32) (n_figure : List Int32) (n_cargo : List Int32) (n_load : List Int32) (n_ships : Int32) (n_inn : Int32) (n_coughs : Int32) (n_day : Int32) (x1 : Int32) : Nat → Int32 → List Int32 → List Int32 → List Int32 → List Int32 → List Int32 → List Int32 → List Int32 → Int32 → Int32 → Int32 → Int32 → Option (List Int32 × List Int32 × List Int32 × List Int32 × List Int32 × List Int32 × List Int32 × List Int32 × Int32 × Int32 × Int32 × Int32 × Int32)
  | 0, _, _, _, _, _, _, _, _, _, _, _, _ => none
  | n + 1, x2, m_there, m_used, m_hidden, m_kind, m_figure, m_cargo, m_load, m_ships, m_inn, m_coughs, m_day =>
  if n_ships ≤ x2 then
  k m_there m_used m_hidden m_kind m_figure m_cargo m_load m_ships m_inn m_coughs m_day
  else
  (X4_isInNextDay m_there m_used m_hidden m_kind m_figure m_cargo m_load n_there n_used n_hidden n_kind n_figure n_cargo n_load m_ships m_inn m_coughs m_day n_ships n_inn n_coughs n_day x1 ((1 : Int32) <<< (x2 &&& 31))).bind fun u_5 =>
  if u_5.2.2.2.2.2.2.2.2.2.2.2 = (0 : Int32) then
  X4_byWhom_L30 k refusals n_there n_used n_hidden n_kind n_figure n_cargo n_load n_ships n_inn n_coughs n_day x1 n (x2 + (1 : Int32)) u_5.1 u_5.2.1 u_5.2.2.1 u_5.2.2.2.1 u_5.2.2.2.2.1 u_5.2.2.2.2.2.1 u_5.2.2.2.2.2.2.1 u_5.2.2.2.2.2.2.2.1 u_5.2.2.2.2.2.2.2.2.1 u_5.2.2.2.2.2.2.2.2.2.1 u_5.2.2.2.2.2.2.2.2.2.2.1
  else
  some (refusals, u_5.1, u_5.2.1, u_5.2.2.1, u_5.2.2.2.1, u_5.2.2.2.2.1, u_5.2.2.2.2.2.1, u_5.2.2.2.2.2.2.1, u_5.2.2.2.2.2.2.2.1, u_5.2.2.2.2.2.2.2.2.1, u_5.2.2.2.2.2.2.2.2.2.1, u_5.2.2.2.2.2.2.2.2.2.2.1, x2)
def X4_byWhom (refusals : List Int32) (m_there : List Int32) (m_used : List Int32) (m_hidden : List Int32) (m_kind : List Int32) (m_figure : List Int32) (m_cargo : List Int32) (m_load : List Int32) (n_there : List Int32) (n_used : List Int32) (n_hidden : List Int32) (n_kind : List Int32) (n_figure : List Int32) (n_cargo : List Int32) (n_load : List Int32) (m_ships : Int32) (m_inn : Int32) (m_coughs : Int32) (m_day : Int32) (n_ships : Int32) (n_inn : Int32) (n_coughs : Int32) (n_day : Int32) (p0 : Int32) : Option (List Int32 × List Int32 × List Int32 × List Int32 × List Int32 × List Int32 × List Int32 × List Int32 × Int32 × Int32 × Int32 × Int32 × Int32) :=
  (X0_isShip n_ships p0).bind fun u_1 =>
  if u_1 = (0 : Int32) then
  (X4_refuse refusals (-1 : Int32)).bind fun u_18 =>
  some (u_18.1, m_there, m_used, m_hidden, m_kind, m_figure, m_cargo, m_load, m_ships, m_inn, m_coughs, m_day, u_18.2)
  else
  (X4_isShut m_there m_used m_hidden m_kind m_figure m_cargo m_load n_there n_used n_hidden n_kind n_figure n_cargo n_load m_ships m_inn m_coughs m_day n_ships n_inn n_coughs n_day p0).bind fun u_3 =>
  if u_3.2.2.2.2.2.2.2.2.2.2.2 = (0 : Int32) then
  some (refusals, u_3.1, u_3.2.1, u_3.2.2.1, u_3.2.2.2.1, u_3.2.2.2.2.1, u_3.2.2.2.2.2.1, u_3.2.2.2.2.2.2.1, u_3.2.2.2.2.2.2.2.1, u_3.2.2.2.2.2.2.2.2.1, u_3.2.2.2.2.2.2.2.2.2.1, u_3.2.2.2.2.2.2.2.2.2.2.1, (-9 : Int32))
  else
  X4_byWhom_L30 (fun m_there_7 m_used_8 m_hidden_9 m_kind_10 m_figure_11 m_cargo_12 m_load_13 m_ships_14 m_inn_15 m_coughs_16 m_day_17 =>
  some (refusals, m_there_7, m_used_8, m_hidden_9, m_kind_10, m_figure_11, m_cargo_12, m_load_13, m_ships_14, m_inn_15, m_coughs_16, m_day_17, (-9 : Int32))) refusals n_there n_used n_hidden n_kind n_figure n_cargo n_load n_ships n_inn n_coughs n_day p0 1000 (0 : Int32) u_3.1 u_3.2.1 u_3.2.2.1 u_3.2.2.2.1 u_3.2.2.2.2.1 u_3.2.2.2.2.2.1 u_3.2.2.2.2.2.2.1 u_3.2.2.2.2.2.2.2.1 u_3.2.2.2.2.2.2.2.2.1 u_3.2.2.2.2.2.2.2.2.2.1 u_3.2.2.2.2.2.2.2.2.2.2.1
set_option maxRecDepth 100000 in
set_option maxHeartbeats 4000000 in
theorem l_X4_byWhom_L30 {l : Launch} {p : Program} {e : Env} {s : State} {m : MethodId} {args : Array Value} {below : List Frame} {meth : Method} {c : Code} {A : Nat → Prop} {G : Gx} {ad adt adb ade adm adn adk adp : Nat → Nat} {adr : Nat → Nat → Nat} {refusals tcells lcells n_there n_used n_hidden n_kind n_figure n_cargo n_load k_there k_used k_hidden k_kind k_figure k_cargo k_load : List Int32} {isKept tlen llen n_ships n_inn n_coughs n_day k_ships k_inn k_coughs k_day held : Int32} {perm : Nat → Nat} {hist : Nat → Hs} {x1 : Int32} {k : List Int32 → List Int32 → List Int32 → List Int32 → List Int32 → List Int32 → List Int32 → Int32 → Int32 → Int32 → Int32 → Option (List Int32 × List Int32 × List Int32 × List Int32 × List Int32 × List Int32 × List Int32 × List Int32 × Int32 × Int32 × Int32 × Int32 × Int32)} {out : List Int32 × List Int32 × List Int32 × List Int32 × List Int32 × List Int32 × List Int32 × List Int32 × Int32 × Int32 × Int32 × Int32 × Int32} (C : Cx p s m args meth c cX4_byWhom RX4 3 (some .int) G) : ∀ (n : Nat) (x2 : Int32) (m_there : List Int32) (m_used : List Int32) (m_hidden : List Int32) (m_kind : List Int32) (m_figure : List Int32) (m_cargo : List Int32) (m_load : List Int32) (m_ships : Int32) (m_inn : Int32) (m_coughs : Int32) (m_day : Int32), X4_byWhom_L30 k refusals n_there n_used n_hidden n_kind n_figure n_cargo n_load n_ships n_inn n_coughs n_day x1 n x2 m_there m_used m_hidden m_kind m_figure m_cargo m_load m_ships m_inn m_coughs m_day = some out → ∀ (H : Heap) (locs : List Loc), St G A s.heap H locs (wT G ad adt adb ade adm adn adk adp adr refusals tcells lcells m_there m_used m_hidden m_kind m_figure m_cargo m_load n_there n_used n_hidden n_kind n_figure n_cargo n_load k_there k_used k_hidden k_kind k_figure k_cargo k_load isKept tlen llen m_ships m_inn m_coughs m_day n_ships n_inn n_coughs n_day k_ships k_inn k_coughs k_day held perm hist) → ∀ ls : Array Slot, lv_has ls 3 [(0, .ref (ad 0)), (1, .int x1), (2, .int x2)] → (∀ (z_m_there : List Int32) (z_m_used : List Int32) (z_m_hidden : List Int32) (z_m_kind : List Int32) (z_m_figure : List Int32) (z_m_cargo : List Int32) (z_m_load : List Int32) (z_m_ships : Int32) (z_m_inn : Int32) (z_m_coughs : Int32) (z_m_day : Int32), k z_m_there z_m_used z_m_hidden z_m_kind z_m_figure z_m_cargo z_m_load z_m_ships z_m_inn z_m_coughs z_m_day = some out → ∀ (H : Heap) (locs : List Loc), St G A s.heap H locs (wT G ad adt adb ade adm adn adk adp adr refusals tcells lcells z_m_there z_m_used z_m_hidden z_m_kind z_m_figure z_m_cargo z_m_load n_there n_used n_hidden n_kind n_figure n_cargo n_load k_there k_used k_hidden k_kind k_figure k_cargo k_load isKept tlen llen z_m_ships z_m_inn z_m_coughs z_m_day n_ships n_inn n_coughs n_day k_ships k_inn k_coughs k_day held perm hist) → ∀ ls : Array Slot, lv_has ls 3 [] → W p l e (rmOf 6 133) s m args below meth c H locs 0 0 (MQ below (Qof G A (some (.int out.2.2.2.2.2.2.2.2.2.2.2.2)) (wT G ad adt adb ade adm adn adk adp adr out.1 tcells lcells out.2.1 out.2.2.1 out.2.2.2.1 out.2.2.2.2.1 out.2.2.2.2.2.1 out.2.2.2.2.2.2.1 out.2.2.2.2.2.2.2.1 n_there n_used n_hidden n_kind n_figure n_cargo n_load k_there k_used k_hidden k_kind k_figure k_cargo k_load isKept tlen llen out.2.2.2.2.2.2.2.2.1 out.2.2.2.2.2.2.2.2.2.1 out.2.2.2.2.2.2.2.2.2.2.1 out.2.2.2.2.2.2.2.2.2.2.2.1 n_ships n_inn n_coughs n_day k_ships k_inn k_coughs k_day held perm hist)) args s 0 0 A) (F0 m 60 ls [])) → W p l e (rmOf 6 133) s m args below meth c H locs 0 0 (MQ below (Qof G A (some (.int out.2.2.2.2.2.2.2.2.2.2.2.2)) (wT G ad adt adb ade adm adn adk adp adr out.1 tcells lcells out.2.1 out.2.2.1 out.2.2.2.1 out.2.2.2.2.1 out.2.2.2.2.2.1 out.2.2.2.2.2.2.1 out.2.2.2.2.2.2.2.1 n_there n_used n_hidden n_kind n_figure n_cargo n_load k_there k_used k_hidden k_kind k_figure k_cargo k_load isKept tlen llen out.2.2.2.2.2.2.2.2.1 out.2.2.2.2.2.2.2.2.2.1 out.2.2.2.2.2.2.2.2.2.2.1 out.2.2.2.2.2.2.2.2.2.2.2.1 n_ships n_inn n_coughs n_day k_ships k_inn k_coughs k_day held perm hist)) args s 0 0 A) (F0 m 30 ls []) := by
  obtain ⟨hx, hb, hml, hown, hts, hK, hret, hlk⟩ := id C
  intro n
  induction n with
  | zero => intro x2 m_there m_used m_hidden m_kind m_figure m_cargo m_load m_ships m_inn m_coughs m_day hf; cases hf
  | succ n ih =>
    intro x2 m_there m_used m_hidden m_kind m_figure m_cargo m_load m_ships m_inn m_coughs m_day hf H locs hs ls hl hk
    rw [X4_byWhom_L30] at hf
    refine lv_iload_n hx hb (dk hX4_byWhom_0 17 rfl) rfl (lv_at hl 2 rfl) ?_
    refine lv_aload_n hx hb (dk hX4_byWhom_0 18 rfl) rfl (lv_at hl 0 rfl) ?_
    refine rg ui4 rfl C hs 0 rfl 0 (by decide) tw_134 rfl rfl (dk hX4_byWhom_0 19 rfl) ?_
    refine rg ui0 rfl C hs 15 rfl 7 (by decide) tw_56 rfl rfl (dk hX4_byWhom_0 20 rfl) ?_
    refine lv_icmp_ge (tgt := 60) hx hb (dk hX4_byWhom_0 21 rfl) (by decide) (fun hc => ?_) (fun hc => ?_)
    · replace hf := ip hf hc
      exact hk _ _ _ _ _ _ _ _ _ _ _ hf _ _ hs _ (lv_sub hl [] rfl)
    · replace hf := in_ hf hc
      refine lv_aload_n hx hb (dk hX4_byWhom_0 22 rfl) rfl (lv_at hl 0 rfl) ?_
      refine lv_iload_n hx hb (dk hX4_byWhom_0 23 rfl) rfl (lv_at hl 1 rfl) ?_
      refine lv_iconst (v := (1 : Int32)) hx hb (dk hX4_byWhom_0 24 rfl) (by decide) ?_
      refine lv_iload_n hx hb (dk hX4_byWhom_0 25 rfl) rfl (lv_at hl 2 rfl) ?_
      refine lv_ishl hx hb (dk hX4_byWhom_0 26 rfl) ?_
      obtain ⟨u_5, e_6, hf⟩ := Option.bind_eq_some_iff.mp hf
      refine Ct.V (As := [.int x1, .int ((1 : Int32) <<< (x2 &&& 31))]) (rest := []) (st1 := [.int u_5.2.2.2.2.2.2.2.2.2.2.2]) (w1 := (wT G ad adt adb ade adm adn adk adp adr refusals tcells lcells u_5.1 u_5.2.1 u_5.2.2.1 u_5.2.2.2.1 u_5.2.2.2.2.1 u_5.2.2.2.2.2.1 u_5.2.2.2.2.2.2.1 n_there n_used n_hidden n_kind n_figure n_cargo n_load k_there k_used k_hidden k_kind k_figure k_cargo k_load isKept tlen llen u_5.2.2.2.2.2.2.2.1 u_5.2.2.2.2.2.2.2.2.1 u_5.2.2.2.2.2.2.2.2.2.1 u_5.2.2.2.2.2.2.2.2.2.2.1 n_ships n_inn n_coughs n_day k_ships k_inn k_coughs k_day held perm hist)) C hs (c_X4_isInNextDay e_6) tw_342 tw_344 tw_7 tw_17 tw_345 nq_X4_isInNextDay (by decide) 0 4 rfl rfl rfl rfl hl.1 rfl (Nat.le_of_ble_eq_true rfl) (dk hX4_byWhom_0 27 rfl) ⟨Nat.zero_le _, Nat.zero_le _⟩ rfl (fun H locs hs => ?_)
      refine lv_if_eq (tgt := 54) hx hb (dk hX4_byWhom_0 28 rfl) (by decide) (fun hc => ?_) (fun hc => ?_)
      · replace hf := ip hf hc
        refine lv_iinc (v := (x2 + (1 : Int32))) (lv' := [(2, .int (x2 + (1 : Int32))), (0, .ref (ad 0)), (1, .int x1)]) hx hb (dk hX4_byWhom_0 31 rfl) hl (k := 2) rfl (by first | rfl | decide) (by decide) rfl (fun ls hl => ?_)
        refine lv_goto (tgt := 30) hx hb (dk hX4_byWhom_0 32 rfl) (by decide) ?_
        exact ih _ _ _ _ _ _ _ _ _ _ _ _ hf _ _ hs _ (lv_sub hl [1, 2, 0] rfl) hk
      · replace hf := in_ hf hc
        refine lv_iload_n hx hb (dk hX4_byWhom_0 29 rfl) rfl (lv_at hl 2 rfl) ?_
        cases hf
        exact ri C hs (dk hX4_byWhom_0 30 rfl)
set_option maxRecDepth 100000 in
set_option maxHeartbeats 4000000 in
theorem c_X4_byWhom {l : Launch} {G : Gx} {ad adt adb ade adm adn adk adp : Nat → Nat} {adr : Nat → Nat → Nat} {refusals tcells lcells m_there m_used m_hidden m_kind m_figure m_cargo m_load n_there n_used n_hidden n_kind n_figure n_cargo n_load k_there k_used k_hidden k_kind k_figure k_cargo k_load : List Int32} {isKept tlen llen m_ships m_inn m_coughs m_day n_ships n_inn n_coughs n_day k_ships k_inn k_coughs k_day held : Int32} {perm : Nat → Nat} {hist : Nat → Hs} {p0 : Int32} {out : List Int32 × List Int32 × List Int32 × List Int32 × List Int32 × List Int32 × List Int32 × List Int32 × Int32 × Int32 × Int32 × Int32 × Int32} (hf : X4_byWhom refusals m_there m_used m_hidden m_kind m_figure m_cargo m_load n_there n_used n_hidden n_kind n_figure n_cargo n_load m_ships m_inn m_coughs m_day n_ships n_inn n_coughs n_day p0 = some out) : Ct l G yX4_byWhom cX4_byWhom 3 (some .int) 6 133 [.ref (ad 0), .int p0] (wT G ad adt adb ade adm adn adk adp adr refusals tcells lcells m_there m_used m_hidden m_kind m_figure m_cargo m_load n_there n_used n_hidden n_kind n_figure n_cargo n_load k_there k_used k_hidden k_kind k_figure k_cargo k_load isKept tlen llen m_ships m_inn m_coughs m_day n_ships n_inn n_coughs n_day k_ships k_inn k_coughs k_day held perm hist) (some (.int out.2.2.2.2.2.2.2.2.2.2.2.2)) (wT G ad adt adb ade adm adn adk adp adr out.1 tcells lcells out.2.1 out.2.2.1 out.2.2.2.1 out.2.2.2.2.1 out.2.2.2.2.2.1 out.2.2.2.2.2.2.1 out.2.2.2.2.2.2.2.1 n_there n_used n_hidden n_kind n_figure n_cargo n_load k_there k_used k_hidden k_kind k_figure k_cargo k_load isKept tlen llen out.2.2.2.2.2.2.2.2.1 out.2.2.2.2.2.2.2.2.2.1 out.2.2.2.2.2.2.2.2.2.2.1 out.2.2.2.2.2.2.2.2.2.2.2.1 n_ships n_inn n_coughs n_day k_ships k_inn k_coughs k_day held perm hist) := by
  refine Ct.intro RX4 rfl (plainFor_of_name (by decide)) (Nat.le_of_ble_eq_true rfl) rfl ?_
  intro p e s m args below meth c A C H locs hs ls hl
  obtain ⟨hx, hb, hml, hown, hts, hK, hret, hlk⟩ := id C
  have hl : lv_has ls 3 [(0, .ref (ad 0)), (1, .int p0)] := hl
  unfold X4_byWhom at hf
  refine lv_aload_n hx hb (dk hX4_byWhom_0 0 rfl) rfl (lv_at hl 0 rfl) ?_
  refine rg ui4 rfl C hs 0 rfl 0 (by decide) tw_134 rfl rfl (dk hX4_byWhom_0 1 rfl) ?_
  refine lv_iload_n hx hb (dk hX4_byWhom_0 2 rfl) rfl (lv_at hl 1 rfl) ?_
  obtain ⟨u_1, e_2, hf⟩ := Option.bind_eq_some_iff.mp hf
  refine Ct.V (As := [.int p0]) (rest := []) (st1 := [.int u_1]) (w1 := (wT G ad adt adb ade adm adn adk adp adr refusals tcells lcells m_there m_used m_hidden m_kind m_figure m_cargo m_load n_there n_used n_hidden n_kind n_figure n_cargo n_load k_there k_used k_hidden k_kind k_figure k_cargo k_load isKept tlen llen m_ships m_inn m_coughs m_day n_ships n_inn n_coughs n_day k_ships k_inn k_coughs k_day held perm hist)) C hs (c_X0_isShip__now e_2) tw_178 tw_179 tw_180 tw_18 tw_181 nq_X0_isShip (by decide) 15 0 rfl rfl rfl rfl hl.1 rfl (Nat.le_of_ble_eq_true rfl) (dk hX4_byWhom_0 3 rfl) ⟨Nat.zero_le _, Nat.zero_le _⟩ rfl (fun H locs hs => ?_)
  refine lv_if_ne (tgt := 17) hx hb (dk hX4_byWhom_0 4 rfl) (by decide) (fun hc => ?_) (fun hc => ?_)
  · replace hf := in_ hf hc
    refine lv_aload_n hx hb (dk hX4_byWhom_0 9 rfl) rfl (lv_at hl 0 rfl) ?_
    refine lv_iload_n hx hb (dk hX4_byWhom_0 10 rfl) rfl (lv_at hl 1 rfl) ?_
    obtain ⟨u_3, e_4, hf⟩ := Option.bind_eq_some_iff.mp hf
    refine Ct.V (As := [.int p0]) (rest := []) (st1 := [.int u_3.2.2.2.2.2.2.2.2.2.2.2]) (w1 := (wT G ad adt adb ade adm adn adk adp adr refusals tcells lcells u_3.1 u_3.2.1 u_3.2.2.1 u_3.2.2.2.1 u_3.2.2.2.2.1 u_3.2.2.2.2.2.1 u_3.2.2.2.2.2.2.1 n_there n_used n_hidden n_kind n_figure n_cargo n_load k_there k_used k_hidden k_kind k_figure k_cargo k_load isKept tlen llen u_3.2.2.2.2.2.2.2.1 u_3.2.2.2.2.2.2.2.2.1 u_3.2.2.2.2.2.2.2.2.2.1 u_3.2.2.2.2.2.2.2.2.2.2.1 n_ships n_inn n_coughs n_day k_ships k_inn k_coughs k_day held perm hist)) C hs (c_X4_isShut e_4) tw_338 tw_340 tw_6 tw_17 tw_341 nq_X4_isShut (by decide) 0 4 rfl rfl rfl rfl hl.1 rfl (Nat.le_of_ble_eq_true rfl) (dk hX4_byWhom_0 11 rfl) ⟨Nat.zero_le _, Nat.zero_le _⟩ rfl (fun H locs hs => ?_)
    refine lv_if_ne (tgt := 28) hx hb (dk hX4_byWhom_0 12 rfl) (by decide) (fun hc => ?_) (fun hc => ?_)
    · replace hf := in_ hf hc
      refine lv_iconst (v := (0 : Int32)) hx hb (dk hX4_byWhom_0 15 rfl) (by decide) ?_
      refine lv_istore_n (lv' := [(2, .int (0 : Int32)), (0, .ref (ad 0)), (1, .int p0)]) hx hb (dk hX4_byWhom_0 16 rfl) rfl hl (by decide) rfl (fun ls hl => ?_)
      refine l_X4_byWhom_L30 C 1000 _ _ _ _ _ _ _ _ _ _ _ _ hf _ _ hs _ (lv_sub hl [1, 2, 0] rfl) (fun m_there_7 m_used_8 m_hidden_9 m_kind_10 m_figure_11 m_cargo_12 m_load_13 m_ships_14 m_inn_15 m_coughs_16 m_day_17 hf H locs hs ls hl => ?_)
      refine lv_bipush (v := (-9 : Int32)) hx hb (dk hX4_byWhom_0 33 rfl) (by decide) ?_
      cases hf
      exact ri C hs (dk hX4_byWhom_0 34 rfl)
    · replace hf := ip hf hc
      refine lv_bipush (v := (-9 : Int32)) hx hb (dk hX4_byWhom_0 13 rfl) (by decide) ?_
      cases hf
      exact ri C hs (dk hX4_byWhom_0 14 rfl)
  · replace hf := ip hf hc
    refine lv_aload_n hx hb (dk hX4_byWhom_0 5 rfl) rfl (lv_at hl 0 rfl) ?_
    refine lv_iconst (v := (-1 : Int32)) hx hb (dk hX4_byWhom_0 6 rfl) (by decide) ?_
    obtain ⟨u_18, e_19, hf⟩ := Option.bind_eq_some_iff.mp hf
    refine Ct.V (As := [.int (-1 : Int32)]) (rest := []) (st1 := [.int u_18.2]) (w1 := (wT G ad adt adb ade adm adn adk adp adr u_18.1 tcells lcells m_there m_used m_hidden m_kind m_figure m_cargo m_load n_there n_used n_hidden n_kind n_figure n_cargo n_load k_there k_used k_hidden k_kind k_figure k_cargo k_load isKept tlen llen m_ships m_inn m_coughs m_day n_ships n_inn n_coughs n_day k_ships k_inn k_coughs k_day held perm hist)) C hs (c_X4_refuse e_19) tw_166 tw_168 tw_0 tw_17 tw_169 nq_X4_refuse (by decide) 0 4 rfl rfl rfl rfl hl.1 rfl (Nat.le_of_ble_eq_true rfl) (dk hX4_byWhom_0 7 rfl) ⟨Nat.zero_le _, Nat.zero_le _⟩ rfl (fun H locs hs => ?_)
    cases hf
    exact ri C hs (dk hX4_byWhom_0 8 rfl)

def X4_loaded_L61 (k : Int32 → Int32 → List Int32 → List Int32 → List Int32 → List Int32 → List Int32 → List Int32 → List Int32 → Int32 → Int32 → Int32 → Int32 → Option (List Int32 × List Int32 × List Int32 × List Int32 × List Int32 × List Int32 × List Int32 × List Int32 × Int32 × Int32 × Int32 × Int32 × Int32)) (n_there : List Int32) (n_used : List Int32) (n_hidden : List Int32) (n_kind : List Int32) (n_figure : List Int32) (n_cargo : List Int32) (n_load : List Int32) (n_ships : Int32) (n_inn : Int32) (n_coughs : Int32) (n_day : Int32) (x1 : Int32) : Nat → Int32 → Int32 → Int32 → List Int32 → List Int32 → List Int32 → List Int32 → List Int32 → List Int32 → List Int32 → Int32 → Int32 → Int32 → Int32 → Option (List Int32 × List Int32 × List Int32 × List Int32 × List Int32 × List Int32 × List Int32 × List Int32 × Int32 × Int32 × Int32 × Int32 × Int32)
  | 0, _, _, _, _, _, _, _, _, _, _, _, _, _, _ => none
  | n + 1, x3, x4, x5, m_there, m_used, m_hidden, m_kind, m_figure, m_cargo, m_load, m_ships, m_inn, m_coughs, m_day =>
  if (6 : Int32) ≤ x5 then
  k x3 x4 m_there m_used m_hidden m_kind m_figure m_cargo m_load m_ships m_inn m_coughs m_day
  else
  (X4_fromNow m_there m_used m_hidden m_kind m_figure m_cargo m_load n_there n_used n_hidden n_kind n_figure n_cargo n_load m_ships m_inn m_coughs m_day n_ships n_inn n_coughs n_day).bind fun u_7 =>
  (wr u_7.2.2.2.2.2.1 x1 x5).bind fun m_cargo_9 =>
  (X0_daysUntilIn u_7.1 u_7.2.1 u_7.2.2.1 u_7.2.2.2.1 u_7.2.2.2.2.1 m_cargo_9 u_7.2.2.2.2.2.2.1 u_7.2.2.2.2.2.2.2.1 u_7.2.2.2.2.2.2.2.2.1 u_7.2.2.2.2.2.2.2.2.2.1 u_7.2.2.2.2.2.2.2.2.2.2 x1 (60 : Int32)).bind fun u_11 =>
  if u_11.2.2.2.2 = (-9 : Int32) then
  X4_loaded_L61 k n_there n_used n_hidden n_kind n_figure n_cargo n_load n_ships n_inn n_coughs n_day x1 n x3 x4 (x5 + (1 : Int32)) u_11.1 u_7.2.1 u_7.2.2.1 u_7.2.2.2.1 u_7.2.2.2.2.1 m_cargo_9 u_7.2.2.2.2.2.2.1 u_7.2.2.2.2.2.2.2.1 u_11.2.1 u_11.2.2.1 u_11.2.2.2.1
  else
  if x4 = (-9 : Int32) then
  X4_loaded_L61 k n_there n_used n_hidden n_kind n_figure n_cargo n_load n_ships n_inn n_coughs n_day x1 n x5 u_11.2.2.2.2 (x5 + (1 : Int32)) u_11.1 u_7.2.1 u_7.2.2.1 u_7.2.2.2.1 u_7.2.2.2.2.1 m_cargo_9 u_7.2.2.2.2.2.2.1 u_7.2.2.2.2.2.2.2.1 u_11.2.1 u_11.2.2.1 u_11.2.2.2.1
  else
  if x4 ≤ u_11.2.2.2.2 then
  X4_loaded_L61 k n_there n_used n_hidden n_kind n_figure n_cargo n_load n_ships n_inn n_coughs n_day x1 n x3 x4 (x5 + (1 : Int32)) u_11.1 u_7.2.1 u_7.2.2.1 u_7.2.2.2.1 u_7.2.2.2.2.1 m_cargo_9 u_7.2.2.2.2.2.2.1 u_7.2.2.2.2.2.2.2.1 u_11.2.1 u_11.2.2.1 u_11.2.2.2.1
  else
  X4_loaded_L61 k n_there n_used n_hidden n_kind n_figure n_cargo n_load n_ships n_inn n_coughs n_day x1 n x5 u_11.2.2.2.2 (x5 + (1 : Int32)) u_11.1 u_7.2.1 u_7.2.2.1 u_7.2.2.2.1 u_7.2.2.2.2.1 m_cargo_9 u_7.2.2.2.2.2.2.1 u_7.2.2.2.2.2.2.2.1 u_11.2.1 u_11.2.2.1 u_11.2.2.2.1
def X4_loaded (refusals : List Int32) (m_there : List Int32) (m_used : List Int32) (m_hidden : List Int32) (m_kind : List Int32) (m_figure : List Int32) (m_cargo : List Int32) (m_load : List Int32) (n_there : List Int32) (n_used : List Int32) (n_hidden : List Int32) (n_kind : List Int32) (n_figure : List Int32) (n_cargo : List Int32) (n_load : List Int32) (m_ships : Int32) (m_inn : Int32) (m_coughs : Int32) (m_day : Int32) (n_ships : Int32) (n_inn : Int32) (n_coughs : Int32) (n_day : Int32) (p0 : Int32) (p1 : Int32) : Option (List Int32 × List Int32 × List Int32 × List Int32 × List Int32 × List Int32 × List Int32 × List Int32 × Int32 × Int32 × Int32 × Int32 × Int32) :=
  (X0_isShip n_ships p0).bind fun u_1 =>
  if u_1 = (0 : Int32) then
  (X4_refuse refusals (-1 : Int32)).bind fun u_30 =>
  some (u_30.1, m_there, m_used, m_hidden, m_kind, m_figure, m_cargo, m_load, m_ships, m_inn, m_coughs, m_day, u_30.2)
  else
  if p1 < (0 : Int32) then
  (X4_refuse refusals (-2 : Int32)).bind fun u_3 =>
  some (u_3.1, m_there, m_used, m_hidden, m_kind, m_figure, m_cargo, m_load, m_ships, m_inn, m_coughs, m_day, u_3.2)
  else
  if p1 ≤ (1 : Int32) then
  (X0_isIn n_inn p0).bind fun u_5 =>
  if u_5 = (0 : Int32) then
  X4_loaded_L61 (fun y3_13 y4_14 m_there_15 m_used_16 m_hidden_17 m_kind_18 m_figure_19 m_cargo_20 m_load_21 m_ships_22 m_inn_23 m_coughs_24 m_day_25 =>
  if p1 = (0 : Int32) then
  some (refusals, m_there_15, m_used_16, m_hidden_17, m_kind_18, m_figure_19, m_cargo_20, m_load_21, m_ships_22, m_inn_23, m_coughs_24, m_day_25, y3_13)
  else
  some (refusals, m_there_15, m_used_16, m_hidden_17, m_kind_18, m_figure_19, m_cargo_20, m_load_21, m_ships_22, m_inn_23, m_coughs_24, m_day_25, y4_14)) n_there n_used n_hidden n_kind n_figure n_cargo n_load n_ships n_inn n_coughs n_day p0 1000 (-9 : Int32) (-9 : Int32) (0 : Int32) m_there m_used m_hidden m_kind m_figure m_cargo m_load m_ships m_inn m_coughs m_day
  else
  (X4_refuse refusals (-3 : Int32)).bind fun u_26 =>
  some (u_26.1, m_there, m_used, m_hidden, m_kind, m_figure, m_cargo, m_load, m_ships, m_inn, m_coughs, m_day, u_26.2)
  else
  (X4_refuse refusals (-2 : Int32)).bind fun u_28 =>
  some (u_28.1, m_there, m_used, m_hidden, m_kind, m_figure, m_cargo, m_load, m_ships, m_inn, m_coughs, m_day, u_28.2)
set_option maxRecDepth 100000 in
set_option maxHeartbeats 4000000 in
theorem l_X4_loaded_L61 {l : Launch} {p : Program} {e : Env} {s : State} {m : MethodId} {args : Array Value} {below : List Frame} {meth : Method} {c : Code} {A : Nat → Prop} {G : Gx} {ad adt adb ade adm adn adk adp : Nat → Nat} {adr : Nat → Nat → Nat} {refusals tcells lcells n_there n_used n_hidden n_kind n_figure n_cargo n_load k_there k_used k_hidden k_kind k_figure k_cargo k_load : List Int32} {isKept tlen llen n_ships n_inn n_coughs n_day k_ships k_inn k_coughs k_day held : Int32} {perm : Nat → Nat} {hist : Nat → Hs} {x1 : Int32} {x2 : Int32} {k : Int32 → Int32 → List Int32 → List Int32 → List Int32 → List Int32 → List Int32 → List Int32 → List Int32 → Int32 → Int32 → Int32 → Int32 → Option (List Int32 × List Int32 × List Int32 × List Int32 × List Int32 × List Int32 × List Int32 × List Int32 × Int32 × Int32 × Int32 × Int32 × Int32)} {out : List Int32 × List Int32 × List Int32 × List Int32 × List Int32 × List Int32 × List Int32 × List Int32 × Int32 × Int32 × Int32 × Int32 × Int32} (C : Cx p s m args meth c cX4_loaded RX4 8 (some .int) G) : ∀ (n : Nat) (x3 : Int32) (x4 : Int32) (x5 : Int32) (m_there : List Int32) (m_used : List Int32) (m_hidden : List Int32) (m_kind : List Int32) (m_figure : List Int32) (m_cargo : List Int32) (m_load : List Int32) (m_ships : Int32) (m_inn : Int32) (m_coughs : Int32) (m_day : Int32), X4_loaded_L61 k n_there n_used n_hidden n_kind n_figure n_cargo n_load n_ships n_inn n_coughs n_day x1 n x3 x4 x5 m_there m_used m_hidden m_kind m_figure m_cargo m_load m_ships m_inn m_coughs m_day = some out → ∀ (H : Heap) (locs : List Loc), St G A s.heap H locs (wT G ad adt adb ade adm adn adk adp adr refusals tcells lcells m_there m_used m_hidden m_kind m_figure m_cargo m_load n_there n_used n_hidden n_kind n_figure n_cargo n_load k_there k_used k_hidden k_kind k_figure k_cargo k_load isKept tlen llen m_ships m_inn m_coughs m_day n_ships n_inn n_coughs n_day k_ships k_inn k_coughs k_day held perm hist) → ∀ ls : Array Slot, lv_has ls 8 [(0, .ref (ad 0)), (1, .int x1), (2, .int x2), (3, .int x3), (4, .int x4), (5, .int x5)] → (∀ (y3 : Int32) (y4 : Int32) (z_m_there : List Int32) (z_m_used : List Int32) (z_m_hidden : List Int32) (z_m_kind : List Int32) (z_m_figure : List Int32) (z_m_cargo : List Int32) (z_m_load : List Int32) (z_m_ships : Int32) (z_m_inn : Int32) (z_m_coughs : Int32) (z_m_day : Int32), k y3 y4 z_m_there z_m_used z_m_hidden z_m_kind z_m_figure z_m_cargo z_m_load z_m_ships z_m_inn z_m_coughs z_m_day = some out → ∀ (H : Heap) (locs : List Loc), St G A s.heap H locs (wT G ad adt adb ade adm adn adk adp adr refusals tcells lcells z_m_there z_m_used z_m_hidden z_m_kind z_m_figure z_m_cargo z_m_load n_there n_used n_hidden n_kind n_figure n_cargo n_load k_there k_used k_hidden k_kind k_figure k_cargo k_load isKept tlen llen z_m_ships z_m_inn z_m_coughs z_m_day n_ships n_inn n_coughs n_day k_ships k_inn k_coughs k_day held perm hist) → ∀ ls : Array Slot, lv_has ls 8 [(2, .int x2), (3, .int y3), (4, .int y4)] → W p l e (rmOf 5 112) s m args below meth c H locs 0 0 (MQ below (Qof G A (some (.int out.2.2.2.2.2.2.2.2.2.2.2.2)) (wT G ad adt adb ade adm adn adk adp adr out.1 tcells lcells out.2.1 out.2.2.1 out.2.2.2.1 out.2.2.2.2.1 out.2.2.2.2.2.1 out.2.2.2.2.2.2.1 out.2.2.2.2.2.2.2.1 n_there n_used n_hidden n_kind n_figure n_cargo n_load k_there k_used k_hidden k_kind k_figure k_cargo k_load isKept tlen llen out.2.2.2.2.2.2.2.2.1 out.2.2.2.2.2.2.2.2.2.1 out.2.2.2.2.2.2.2.2.2.2.1 out.2.2.2.2.2.2.2.2.2.2.2.1 n_ships n_inn n_coughs n_day k_ships k_inn k_coughs k_day held perm hist)) args s 0 0 A) (F0 m 127 ls [])) → W p l e (rmOf 5 112) s m args below meth c H locs 0 0 (MQ below (Qof G A (some (.int out.2.2.2.2.2.2.2.2.2.2.2.2)) (wT G ad adt adb ade adm adn adk adp adr out.1 tcells lcells out.2.1 out.2.2.1 out.2.2.2.1 out.2.2.2.2.1 out.2.2.2.2.2.1 out.2.2.2.2.2.2.1 out.2.2.2.2.2.2.2.1 n_there n_used n_hidden n_kind n_figure n_cargo n_load k_there k_used k_hidden k_kind k_figure k_cargo k_load isKept tlen llen out.2.2.2.2.2.2.2.2.1 out.2.2.2.2.2.2.2.2.2.1 out.2.2.2.2.2.2.2.2.2.2.1 out.2.2.2.2.2.2.2.2.2.2.2.1 n_ships n_inn n_coughs n_day k_ships k_inn k_coughs k_day held perm hist)) args s 0 0 A) (F0 m 61 ls []) := by
  obtain ⟨hx, hb, hml, hown, hts, hK, hret, hlk⟩ := id C
  intro n
  induction n with
  | zero => intro x3 x4 x5 m_there m_used m_hidden m_kind m_figure m_cargo m_load m_ships m_inn m_coughs m_day hf; cases hf
  | succ n ih =>
    intro x3 x4 x5 m_there m_used m_hidden m_kind m_figure m_cargo m_load m_ships m_inn m_coughs m_day hf H locs hs ls hl hk
    rw [X4_loaded_L61] at hf
    refine lv_iload hx hb (dk hX4_loaded_0 33 rfl) (lv_at hl 5 rfl) ?_
    refine lv_bipush (v := (6 : Int32)) hx hb (dk hX4_loaded_0 34 rfl) (by decide) ?_
    refine lv_icmp_ge (tgt := 127) hx hb (dk hX4_loaded_0 35 rfl) (by decide) (fun hc => ?_) (fun hc => ?_)
    · replace hf := ip hf hc
      exact hk _ _ _ _ _ _ _ _ _ _ _ _ _ hf _ _ hs _ (lv_sub hl [2, 3, 4] rfl)
    · replace hf := in_ hf hc
      refine lv_aload_n hx hb (dk hX4_loaded_0 36 rfl) rfl (lv_at hl 0 rfl) ?_
      obtain ⟨u_7, e_8, hf⟩ := Option.bind_eq_some_iff.mp hf
      refine Ct.V (As := []) (rest := []) (st1 := [.ref (adm 0)]) (w1 := (wT G ad adt adb ade adm adn adk adp adr refusals tcells lcells u_7.1 u_7.2.1 u_7.2.2.1 u_7.2.2.2.1 u_7.2.2.2.2.1 u_7.2.2.2.2.2.1 u_7.2.2.2.2.2.2.1 n_there n_used n_hidden n_kind n_figure n_cargo n_load k_there k_used k_hidden k_kind k_figure k_cargo k_load isKept tlen llen u_7.2.2.2.2.2.2.2.1 u_7.2.2.2.2.2.2.2.2.1 u_7.2.2.2.2.2.2.2.2.2.1 u_7.2.2.2.2.2.2.2.2.2.2 n_ships n_inn n_coughs n_day k_ships k_inn k_coughs k_day held perm hist)) C hs (c_X4_fromNow e_8) tw_312 tw_314 tw_4 tw_17 tw_315 nq_X4_fromNow (by decide) 0 4 rfl rfl rfl rfl hl.1 rfl (Nat.le_of_ble_eq_true rfl) (dk hX4_loaded_0 37 rfl) ⟨Nat.zero_le _, Nat.zero_le _⟩ rfl (fun H locs hs => ?_)
      refine lv_astore (lv' := [(6, .ref (adm 0)), (0, .ref (ad 0)), (1, .int x1), (2, .int x2), (3, .int x3), (4, .int x4), (5, .int x5)]) hx hb (dk hX4_loaded_0 38 rfl) hl (by decide) rfl (fun ls hl => ?_)
      refine lv_aload hx hb (dk hX4_loaded_0 39 rfl) (lv_at hl 0 rfl) ?_
      refine rg ui0 rfl C hs 7 rfl 5 (by decide) tw_51 rfl rfl (dk hX4_loaded_1 0 rfl) ?_
      refine lv_iload_n hx hb (dk hX4_loaded_1 1 rfl) rfl (lv_at hl 2 rfl) ?_
      refine lv_iload hx hb (dk hX4_loaded_1 2 rfl) (lv_at hl 6 rfl) ?_
      obtain ⟨m_cargo_9, e_10, hf⟩ := Option.bind_eq_some_iff.mp hf
      refine rist (w1 := (wT G ad adt adb ade adm adn adk adp adr refusals tcells lcells u_7.1 u_7.2.1 u_7.2.2.1 u_7.2.2.2.1 u_7.2.2.2.2.1 m_cargo_9 u_7.2.2.2.2.2.2.1 n_there n_used n_hidden n_kind n_figure n_cargo n_load k_there k_used k_hidden k_kind k_figure k_cargo k_load isKept tlen llen u_7.2.2.2.2.2.2.2.1 u_7.2.2.2.2.2.2.2.2.1 u_7.2.2.2.2.2.2.2.2.2.1 u_7.2.2.2.2.2.2.2.2.2.2 n_ships n_inn n_coughs n_day k_ships k_inn k_coughs k_day held perm hist)) C hs 13 rfl e_10 rfl (dk hX4_loaded_1 3 rfl) (fun H locs hs => ?_)
      refine lv_aload hx hb (dk hX4_loaded_1 4 rfl) (lv_at hl 0 rfl) ?_
      refine lv_iload_n hx hb (dk hX4_loaded_1 5 rfl) rfl (lv_at hl 2 rfl) ?_
      refine lv_bipush (v := (60 : Int32)) hx hb (dk hX4_loaded_1 6 rfl) (by decide) ?_
      obtain ⟨u_11, e_12, hf⟩ := Option.bind_eq_some_iff.mp hf
      refine Ct.V (As := [.int x1, .int (60 : Int32)]) (rest := []) (st1 := [.int u_11.2.2.2.2]) (w1 := (wT G ad adt adb ade adm adn adk adp adr refusals tcells lcells u_11.1 u_7.2.1 u_7.2.2.1 u_7.2.2.2.1 u_7.2.2.2.2.1 m_cargo_9 u_7.2.2.2.2.2.2.1 n_there n_used n_hidden n_kind n_figure n_cargo n_load k_there k_used k_hidden k_kind k_figure k_cargo k_load isKept tlen llen u_7.2.2.2.2.2.2.2.1 u_11.2.1 u_11.2.2.1 u_11.2.2.2.1 n_ships n_inn n_coughs n_day k_ships k_inn k_coughs k_day held perm hist)) C hs (c_X0_daysUntilIn__mind e_12) tw_330 tw_331 tw_332 tw_18 tw_333 nq_X0_daysUntilIn (by decide) 7 0 rfl rfl rfl rfl hl.1 rfl (Nat.le_of_ble_eq_true rfl) (dk hX4_loaded_1 7 rfl) ⟨Nat.zero_le _, Nat.zero_le _⟩ rfl (fun H locs hs => ?_)
      refine lv_istore (lv' := [(7, .int u_11.2.2.2.2), (6, .ref (adm 0)), (0, .ref (ad 0)), (1, .int x1), (2, .int x2), (3, .int x3), (4, .int x4), (5, .int x5)]) hx hb (dk hX4_loaded_1 8 rfl) hl (by decide) rfl (fun ls hl => ?_)
      refine lv_iload hx hb (dk hX4_loaded_1 9 rfl) (lv_at hl 0 rfl) ?_
      refine lv_bipush (v := (-9 : Int32)) hx hb (dk hX4_loaded_1 10 rfl) (by decide) ?_
      refine lv_icmp_eq (tgt := 121) hx hb (dk hX4_loaded_1 11 rfl) (by decide) (fun hc => ?_) (fun hc => ?_)
      · replace hf := ip hf hc
        refine lv_iinc (v := (x5 + (1 : Int32))) (lv' := [(5, .int (x5 + (1 : Int32))), (7, .int u_11.2.2.2.2), (6, .ref (adm 0)), (0, .ref (ad 0)), (1, .int x1), (2, .int x2), (3, .int x3), (4, .int x4)]) hx hb (dk hX4_loaded_1 22 rfl) hl (k := 7) rfl (by first | rfl | decide) (by decide) rfl (fun ls hl => ?_)
        refine lv_goto (tgt := 61) hx hb (dk hX4_loaded_1 23 rfl) (by decide) ?_
        exact ih _ _ _ _ _ _ _ _ _ _ _ _ _ _ hf _ _ hs _ (lv_sub hl [3, 4, 5, 6, 7, 0] rfl) hk
      · replace hf := in_ hf hc
        refine lv_iload hx hb (dk hX4_loaded_1 12 rfl) (lv_at hl 6 rfl) ?_
        refine lv_bipush (v := (-9 : Int32)) hx hb (dk hX4_loaded_1 13 rfl) (by decide) ?_
        refine lv_icmp_eq (tgt := 114) hx hb (dk hX4_loaded_1 14 rfl) (by decide) (fun hc => ?_) (fun hc => ?_)
        · replace hf := ip hf hc
          refine lv_iload hx hb (dk hX4_loaded_1 18 rfl) (lv_at hl 7 rfl) ?_
          refine lv_istore_n (lv' := [(3, .int x5), (7, .int u_11.2.2.2.2), (6, .ref (adm 0)), (0, .ref (ad 0)), (1, .int x1), (2, .int x2), (4, .int x4), (5, .int x5)]) hx hb (dk hX4_loaded_1 19 rfl) rfl hl (by decide) rfl (fun ls hl => ?_)
          refine lv_iload hx hb (dk hX4_loaded_1 20 rfl) (lv_at hl 1 rfl) ?_
          refine lv_istore (lv' := [(4, .int u_11.2.2.2.2), (3, .int x5), (7, .int u_11.2.2.2.2), (6, .ref (adm 0)), (0, .ref (ad 0)), (1, .int x1), (2, .int x2), (5, .int x5)]) hx hb (dk hX4_loaded_1 21 rfl) hl (by decide) rfl (fun ls hl => ?_)
          refine lv_iinc (v := (x5 + (1 : Int32))) (lv' := [(5, .int (x5 + (1 : Int32))), (4, .int u_11.2.2.2.2), (3, .int x5), (7, .int u_11.2.2.2.2), (6, .ref (adm 0)), (0, .ref (ad 0)), (1, .int x1), (2, .int x2)]) hx hb (dk hX4_loaded_1 22 rfl) hl (k := 7) rfl (by first | rfl | decide) (by decide) rfl (fun ls hl => ?_)
          refine lv_goto (tgt := 61) hx hb (dk hX4_loaded_1 23 rfl) (by decide) ?_
          exact ih _ _ _ _ _ _ _ _ _ _ _ _ _ _ hf _ _ hs _ (lv_sub hl [5, 6, 7, 2, 1, 0] rfl) hk
        · replace hf := in_ hf hc
          refine lv_iload hx hb (dk hX4_loaded_1 15 rfl) (lv_at hl 0 rfl) ?_
          refine lv_iload hx hb (dk hX4_loaded_1 16 rfl) (lv_at hl 6 rfl) ?_
          refine lv_icmp_ge (tgt := 121) hx hb (dk hX4_loaded_1 17 rfl) (by decide) (fun hc => ?_) (fun hc => ?_)
          · replace hf := ip hf hc
            refine lv_iinc (v := (x5 + (1 : Int32))) (lv' := [(5, .int (x5 + (1 : Int32))), (7, .int u_11.2.2.2.2), (6, .ref (adm 0)), (0, .ref (ad 0)), (1, .int x1), (2, .int x2), (3, .int x3), (4, .int x4)]) hx hb (dk hX4_loaded_1 22 rfl) hl (k := 7) rfl (by first | rfl | decide) (by decide) rfl (fun ls hl => ?_)
            refine lv_goto (tgt := 61) hx hb (dk hX4_loaded_1 23 rfl) (by decide) ?_
            exact ih _ _ _ _ _ _ _ _ _ _ _ _ _ _ hf _ _ hs _ (lv_sub hl [3, 4, 5, 6, 7, 0] rfl) hk
          · replace hf := in_ hf hc
            refine lv_iload hx hb (dk hX4_loaded_1 18 rfl) (lv_at hl 7 rfl) ?_
            refine lv_istore_n (lv' := [(3, .int x5), (7, .int u_11.2.2.2.2), (6, .ref (adm 0)), (0, .ref (ad 0)), (1, .int x1), (2, .int x2), (4, .int x4), (5, .int x5)]) hx hb (dk hX4_loaded_1 19 rfl) rfl hl (by decide) rfl (fun ls hl => ?_)
            refine lv_iload hx hb (dk hX4_loaded_1 20 rfl) (lv_at hl 1 rfl) ?_
            refine lv_istore (lv' := [(4, .int u_11.2.2.2.2), (3, .int x5), (7, .int u_11.2.2.2.2), (6, .ref (adm 0)), (0, .ref (ad 0)), (1, .int x1), (2, .int x2), (5, .int x5)]) hx hb (dk hX4_loaded_1 21 rfl) hl (by decide) rfl (fun ls hl => ?_)
            refine lv_iinc (v := (x5 + (1 : Int32))) (lv' := [(5, .int (x5 + (1 : Int32))), (4, .int u_11.2.2.2.2), (3, .int x5), (7, .int u_11.2.2.2.2), (6, .ref (adm 0)), (0, .ref (ad 0)), (1, .int x1), (2, .int x2)]) hx hb (dk hX4_loaded_1 22 rfl) hl (k := 7) rfl (by first | rfl | decide) (by decide) rfl (fun ls hl => ?_)
            refine lv_goto (tgt := 61) hx hb (dk hX4_loaded_1 23 rfl) (by decide) ?_
            exact ih _ _ _ _ _ _ _ _ _ _ _ _ _ _ hf _ _ hs _ (lv_sub hl [5, 6, 7, 2, 1, 0] rfl) hk
set_option maxRecDepth 100000 in
set_option maxHeartbeats 4000000 in
theorem c_X4_loaded {l : Launch} {G : Gx} {ad adt adb ade adm adn adk adp : Nat → Nat} {adr : Nat → Nat → Nat} {refusals tcells lcells m_there m_used m_hidden m_kind m_figure m_cargo m_load n_there n_used n_hidden n_kind n_figure n_cargo n_load k_there k_used k_hidden k_kind k_figure k_cargo k_load : List Int32} {isKept tlen llen m_ships m_inn m_coughs m_day n_ships n_inn n_coughs n_day k_ships k_inn k_coughs k_day held : Int32} {perm : Nat → Nat} {hist : Nat → Hs} {p0 : Int32} {p1 : Int32} {out : List Int32 × List Int32 × List Int32 × List Int32 × List Int32 × List Int32 × List Int32 × List Int32 × Int32 × Int32 × Int32 × Int32 × Int32} (hf : X4_loaded refusals m_there m_used m_hidden m_kind m_figure m_cargo m_load n_there n_used n_hidden n_kind n_figure n_cargo n_load m_ships m_inn m_coughs m_day n_ships n_inn n_coughs n_day p0 p1 = some out) : Ct l G yX4_loaded cX4_loaded 8 (some .int) 5 112 [.ref (ad 0), .int p0, .int p1] (wT G ad adt adb ade adm adn adk adp adr refusals tcells lcells m_there m_used m_hidden m_kind m_figure m_cargo m_load n_there n_used n_hidden n_kind n_figure n_cargo n_load k_there k_used k_hidden k_kind k_figure k_cargo k_load isKept tlen llen m_ships m_inn m_coughs m_day n_ships n_inn n_coughs n_day k_ships k_inn k_coughs k_day held perm hist) (some (.int out.2.2.2.2.2.2.2.2.2.2.2.2)) (wT G ad adt adb ade adm adn adk adp adr out.1 tcells lcells out.2.1 out.2.2.1 out.2.2.2.1 out.2.2.2.2.1 out.2.2.2.2.2.1 out.2.2.2.2.2.2.1 out.2.2.2.2.2.2.2.1 n_there n_used n_hidden n_kind n_figure n_cargo n_load k_there k_used k_hidden k_kind k_figure k_cargo k_load isKept tlen llen out.2.2.2.2.2.2.2.2.1 out.2.2.2.2.2.2.2.2.2.1 out.2.2.2.2.2.2.2.2.2.2.1 out.2.2.2.2.2.2.2.2.2.2.2.1 n_ships n_inn n_coughs n_day k_ships k_inn k_coughs k_day held perm hist) := by
  refine Ct.intro RX4 rfl (plainFor_of_name (by decide)) (Nat.le_of_ble_eq_true rfl) rfl ?_
  intro p e s m args below meth c A C H locs hs ls hl
  obtain ⟨hx, hb, hml, hown, hts, hK, hret, hlk⟩ := id C
  have hl : lv_has ls 8 [(0, .ref (ad 0)), (1, .int p0), (2, .int p1)] := hl
  unfold X4_loaded at hf
  refine lv_aload_n hx hb (dk hX4_loaded_0 0 rfl) rfl (lv_at hl 0 rfl) ?_
  refine rg ui4 rfl C hs 0 rfl 0 (by decide) tw_134 rfl rfl (dk hX4_loaded_0 1 rfl) ?_
  refine lv_iload_n hx hb (dk hX4_loaded_0 2 rfl) rfl (lv_at hl 1 rfl) ?_
  obtain ⟨u_1, e_2, hf⟩ := Option.bind_eq_some_iff.mp hf
  refine Ct.V (As := [.int p0]) (rest := []) (st1 := [.int u_1]) (w1 := (wT G ad adt adb ade adm adn adk adp adr refusals tcells lcells m_there m_used m_hidden m_kind m_figure m_cargo m_load n_there n_used n_hidden n_kind n_figure n_cargo n_load k_there k_used k_hidden k_kind k_figure k_cargo k_load isKept tlen llen m_ships m_inn m_coughs m_day n_ships n_inn n_coughs n_day k_ships k_inn k_coughs k_day held perm hist)) C hs (c_X0_isShip__now e_2) tw_178 tw_179 tw_180 tw_18 tw_181 nq_X0_isShip (by decide) 15 0 rfl rfl rfl rfl hl.1 rfl (Nat.le_of_ble_eq_true rfl) (dk hX4_loaded_0 3 rfl) ⟨Nat.zero_le _, Nat.zero_le _⟩ rfl (fun H locs hs => ?_)
  refine lv_if_ne (tgt := 17) hx hb (dk hX4_loaded_0 4 rfl) (by decide) (fun hc => ?_) (fun hc => ?_)
  · replace hf := in_ hf hc
    refine lv_iload_n hx hb (dk hX4_loaded_0 9 rfl) rfl (lv_at hl 2 rfl) ?_
    refine lv_if_lt (tgt := 26) hx hb (dk hX4_loaded_0 10 rfl) (by decide) (fun hc => ?_) (fun hc => ?_)
    · replace hf := ip hf hc
      refine lv_aload_n hx hb (dk hX4_loaded_0 14 rfl) rfl (lv_at hl 0 rfl) ?_
      refine lv_bipush (v := (-2 : Int32)) hx hb (dk hX4_loaded_0 15 rfl) (by decide) ?_
      obtain ⟨u_3, e_4, hf⟩ := Option.bind_eq_some_iff.mp hf
      refine Ct.V (As := [.int (-2 : Int32)]) (rest := []) (st1 := [.int u_3.2]) (w1 := (wT G ad adt adb ade adm adn adk adp adr u_3.1 tcells lcells m_there m_used m_hidden m_kind m_figure m_cargo m_load n_there n_used n_hidden n_kind n_figure n_cargo n_load k_there k_used k_hidden k_kind k_figure k_cargo k_load isKept tlen llen m_ships m_inn m_coughs m_day n_ships n_inn n_coughs n_day k_ships k_inn k_coughs k_day held perm hist)) C hs (c_X4_refuse e_4) tw_166 tw_168 tw_0 tw_17 tw_169 nq_X4_refuse (by decide) 0 4 rfl rfl rfl rfl hl.1 rfl (Nat.le_of_ble_eq_true rfl) (dk hX4_loaded_0 16 rfl) ⟨Nat.zero_le _, Nat.zero_le _⟩ rfl (fun H locs hs => ?_)
      cases hf
      exact ri C hs (dk hX4_loaded_0 17 rfl)
    · replace hf := in_ hf hc
      refine lv_iload_n hx hb (dk hX4_loaded_0 11 rfl) rfl (lv_at hl 2 rfl) ?_
      refine lv_iconst (v := (1 : Int32)) hx hb (dk hX4_loaded_0 12 rfl) (by decide) ?_
      refine lv_icmp_le (tgt := 33) hx hb (dk hX4_loaded_0 13 rfl) (by decide) (fun hc => ?_) (fun hc => ?_)
      · replace hf := ip hf hc
        refine lv_aload_n hx hb (dk hX4_loaded_0 18 rfl) rfl (lv_at hl 0 rfl) ?_
        refine rg ui4 rfl C hs 0 rfl 0 (by decide) tw_134 rfl rfl (dk hX4_loaded_0 19 rfl) ?_
        refine lv_iload_n hx hb (dk hX4_loaded_0 20 rfl) rfl (lv_at hl 1 rfl) ?_
        obtain ⟨u_5, e_6, hf⟩ := Option.bind_eq_some_iff.mp hf
        refine Ct.V (As := [.int p0]) (rest := []) (st1 := [.int u_5]) (w1 := (wT G ad adt adb ade adm adn adk adp adr refusals tcells lcells m_there m_used m_hidden m_kind m_figure m_cargo m_load n_there n_used n_hidden n_kind n_figure n_cargo n_load k_there k_used k_hidden k_kind k_figure k_cargo k_load isKept tlen llen m_ships m_inn m_coughs m_day n_ships n_inn n_coughs n_day k_ships k_inn k_coughs k_day held perm hist)) C hs (c_X0_isIn__now e_6) tw_182 tw_183 tw_184 tw_18 tw_185 nq_X0_isIn (by decide) 15 0 rfl rfl rfl rfl hl.1 rfl (Nat.le_of_ble_eq_true rfl) (dk hX4_loaded_0 21 rfl) ⟨Nat.zero_le _, Nat.zero_le _⟩ rfl (fun H locs hs => ?_)
        refine lv_if_eq (tgt := 51) hx hb (dk hX4_loaded_0 22 rfl) (by decide) (fun hc => ?_) (fun hc => ?_)
        · replace hf := ip hf hc
          refine lv_bipush (v := (-9 : Int32)) hx hb (dk hX4_loaded_0 27 rfl) (by decide) ?_
          refine lv_istore_n (lv' := [(3, .int (-9 : Int32)), (0, .ref (ad 0)), (1, .int p0), (2, .int p1)]) hx hb (dk hX4_loaded_0 28 rfl) rfl hl (by decide) rfl (fun ls hl => ?_)
          refine lv_bipush (v := (-9 : Int32)) hx hb (dk hX4_loaded_0 29 rfl) (by decide) ?_
          refine lv_istore (lv' := [(4, .int (-9 : Int32)), (3, .int (-9 : Int32)), (0, .ref (ad 0)), (1, .int p0), (2, .int p1)]) hx hb (dk hX4_loaded_0 30 rfl) hl (by decide) rfl (fun ls hl => ?_)
          refine lv_iconst (v := (0 : Int32)) hx hb (dk hX4_loaded_0 31 rfl) (by decide) ?_
          refine lv_istore (lv' := [(5, .int (0 : Int32)), (4, .int (-9 : Int32)), (3, .int (-9 : Int32)), (0, .ref (ad 0)), (1, .int p0), (2, .int p1)]) hx hb (dk hX4_loaded_0 32 rfl) hl (by decide) rfl (fun ls hl => ?_)
          refine l_X4_loaded_L61 C 1000 _ _ _ _ _ _ _ _ _ _ _ _ _ _ hf _ _ hs _ (lv_sub hl [3, 4, 5, 2, 1, 0] rfl) (fun y3_13 y4_14 m_there_15 m_used_16 m_hidden_17 m_kind_18 m_figure_19 m_cargo_20 m_load_21 m_ships_22 m_inn_23 m_coughs_24 m_day_25 hf H locs hs ls hl => ?_)
          refine lv_iload_n hx hb (dk hX4_loaded_1 24 rfl) rfl (lv_at hl 0 rfl) ?_
          refine lv_if_ne (tgt := 135) hx hb (dk hX4_loaded_1 25 rfl) (by decide) (fun hc => ?_) (fun hc => ?_)
          · replace hf := in_ hf hc
            refine lv_iload hx hb (dk hX4_loaded_1 28 rfl) (lv_at hl 2 rfl) ?_
            cases hf
            exact ri C hs (dk hX4_loaded_1 29 rfl)
          · replace hf := ip hf hc
            refine lv_iload_n hx hb (dk hX4_loaded_1 26 rfl) rfl (lv_at hl 1 rfl) ?_
            refine lv_goto (tgt := 137) hx hb (dk hX4_loaded_1 27 rfl) (by decide) ?_
            cases hf
            exact ri C hs (dk hX4_loaded_1 29 rfl)
        · replace hf := in_ hf hc
          refine lv_aload_n hx hb (dk hX4_loaded_0 23 rfl) rfl (lv_at hl 0 rfl) ?_
          refine lv_bipush (v := (-3 : Int32)) hx hb (dk hX4_loaded_0 24 rfl) (by decide) ?_
          obtain ⟨u_26, e_27, hf⟩ := Option.bind_eq_some_iff.mp hf
          refine Ct.V (As := [.int (-3 : Int32)]) (rest := []) (st1 := [.int u_26.2]) (w1 := (wT G ad adt adb ade adm adn adk adp adr u_26.1 tcells lcells m_there m_used m_hidden m_kind m_figure m_cargo m_load n_there n_used n_hidden n_kind n_figure n_cargo n_load k_there k_used k_hidden k_kind k_figure k_cargo k_load isKept tlen llen m_ships m_inn m_coughs m_day n_ships n_inn n_coughs n_day k_ships k_inn k_coughs k_day held perm hist)) C hs (c_X4_refuse e_27) tw_166 tw_168 tw_0 tw_17 tw_169 nq_X4_refuse (by decide) 0 4 rfl rfl rfl rfl hl.1 rfl (Nat.le_of_ble_eq_true rfl) (dk hX4_loaded_0 25 rfl) ⟨Nat.zero_le _, Nat.zero_le _⟩ rfl (fun H locs hs => ?_)
          cases hf
          exact ri C hs (dk hX4_loaded_0 26 rfl)
      · replace hf := in_ hf hc
        refine lv_aload_n hx hb (dk hX4_loaded_0 14 rfl) rfl (lv_at hl 0 rfl) ?_
        refine lv_bipush (v := (-2 : Int32)) hx hb (dk hX4_loaded_0 15 rfl) (by decide) ?_
        obtain ⟨u_28, e_29, hf⟩ := Option.bind_eq_some_iff.mp hf
        refine Ct.V (As := [.int (-2 : Int32)]) (rest := []) (st1 := [.int u_28.2]) (w1 := (wT G ad adt adb ade adm adn adk adp adr u_28.1 tcells lcells m_there m_used m_hidden m_kind m_figure m_cargo m_load n_there n_used n_hidden n_kind n_figure n_cargo n_load k_there k_used k_hidden k_kind k_figure k_cargo k_load isKept tlen llen m_ships m_inn m_coughs m_day n_ships n_inn n_coughs n_day k_ships k_inn k_coughs k_day held perm hist)) C hs (c_X4_refuse e_29) tw_166 tw_168 tw_0 tw_17 tw_169 nq_X4_refuse (by decide) 0 4 rfl rfl rfl rfl hl.1 rfl (Nat.le_of_ble_eq_true rfl) (dk hX4_loaded_0 16 rfl) ⟨Nat.zero_le _, Nat.zero_le _⟩ rfl (fun H locs hs => ?_)
        cases hf
        exact ri C hs (dk hX4_loaded_0 17 rfl)
  · replace hf := ip hf hc
    refine lv_aload_n hx hb (dk hX4_loaded_0 5 rfl) rfl (lv_at hl 0 rfl) ?_
    refine lv_iconst (v := (-1 : Int32)) hx hb (dk hX4_loaded_0 6 rfl) (by decide) ?_
    obtain ⟨u_30, e_31, hf⟩ := Option.bind_eq_some_iff.mp hf
    refine Ct.V (As := [.int (-1 : Int32)]) (rest := []) (st1 := [.int u_30.2]) (w1 := (wT G ad adt adb ade adm adn adk adp adr u_30.1 tcells lcells m_there m_used m_hidden m_kind m_figure m_cargo m_load n_there n_used n_hidden n_kind n_figure n_cargo n_load k_there k_used k_hidden k_kind k_figure k_cargo k_load isKept tlen llen m_ships m_inn m_coughs m_day n_ships n_inn n_coughs n_day k_ships k_inn k_coughs k_day held perm hist)) C hs (c_X4_refuse e_31) tw_166 tw_168 tw_0 tw_17 tw_169 nq_X4_refuse (by decide) 0 4 rfl rfl rfl rfl hl.1 rfl (Nat.le_of_ble_eq_true rfl) (dk hX4_loaded_0 7 rfl) ⟨Nat.zero_le _, Nat.zero_le _⟩ rfl (fun H locs hs => ?_)
    cases hf
    exact ri C hs (dk hX4_loaded_0 8 rfl)

def X4_hide_L48 (k : List Int32 → List Int32 → List Int32 → List Int32 → List Int32 → List Int32 → List Int32 → Int32 → Int32 → Int32 → Int32 → Option (List Int32 × List Int32 × List Int32 × List Int32 × List Int32 × List Int32 × List Int32 × List Int32 × Int32 × Int32 × Int32 × Int32 × Int32)) (refusals : List Int32) (n_there : List Int32) (n_used : List Int32) (n_hidden : List Int32) (n_kind : List Int32) (n_figure : List Int32) (n_cargo : List Int32) (n_load : List Int32) (n_ships : Int32) (n_inn : Int32) (n_coughs : Int32) (n_day : Int32) (x1 : Int32) (x2 : Int32) (x3 : Int32) : Nat → Int32 → List Int32 → List Int32 → List Int32 → List Int32 → List Int32 → List Int32 → List Int32 → Int32 → Int32 → Int32 → Int32 → Option (List Int32 × List Int32 × List Int32 × List Int32 × List Int32 × List Int32 × List Int32 × List Int32 × Int32 × Int32 × Int32 × Int32 × Int32)
  | 0, _, _, _, _, _, _, _, _, _, _, _, _ => none
  | n + 1, x5, m_there, m_used, m_hidden, m_kind, m_figure, m_cargo, m_load, m_ships, m_inn, m_coughs, m_day =>
  (rd n_there x1).bind fun v_9 =>
  if v_9 < x5 then
  k m_there m_used m_hidden m_kind m_figure m_cargo m_load m_ships m_inn m_coughs m_day
  else
  (X4_fromNow m_there m_used m_hidden m_kind m_figure m_cargo m_load n_there n_used n_hidden n_kind n_figure n_cargo n_load m_ships m_inn m_coughs m_day n_ships n_inn n_coughs n_day).bind fun u_11 =>
  (X0_hideAway u_11.1 u_11.2.2.1 x1 x5).bind fun u_13 =>
  (X0_daysUntilIn u_13.1 u_11.2.1 u_13.2 u_11.2.2.2.1 u_11.2.2.2.2.1 u_11.2.2.2.2.2.1 u_11.2.2.2.2.2.2.1 u_11.2.2.2.2.2.2.2.1 u_11.2.2.2.2.2.2.2.2.1 u_11.2.2.2.2.2.2.2.2.2.1 u_11.2.2.2.2.2.2.2.2.2.2 x2 x3).bind fun u_15 =>
  if u_15.2.2.2.2 = (-9 : Int32) then
  X4_hide_L48 k refusals n_there n_used n_hidden n_kind n_figure n_cargo n_load n_ships n_inn n_coughs n_day x1 x2 x3 n (x5 + (1 : Int32)) u_15.1 u_11.2.1 u_13.2 u_11.2.2.2.1 u_11.2.2.2.2.1 u_11.2.2.2.2.2.1 u_11.2.2.2.2.2.2.1 u_11.2.2.2.2.2.2.2.1 u_15.2.1 u_15.2.2.1 u_15.2.2.2.1
  else
  some (refusals, u_15.1, u_11.2.1, u_13.2, u_11.2.2.2.1, u_11.2.2.2.2.1, u_11.2.2.2.2.2.1, u_11.2.2.2.2.2.2.1, u_11.2.2.2.2.2.2.2.1, u_15.2.1, u_15.2.2.1, u_15.2.2.2.1, x5)
def X4_hide (refusals : List Int32) (m_there : List Int32) (m_used : List Int32) (m_hidden : List Int32) (m_kind : List Int32) (m_figure : List Int32) (m_cargo : List Int32) (m_load : List Int32) (n_there : List Int32) (n_used : List Int32) (n_hidden : List Int32) (n_kind : List Int32) (n_figure : List Int32) (n_cargo : List Int32) (n_load : List Int32) (m_ships : Int32) (m_inn : Int32) (m_coughs : Int32) (m_day : Int32) (n_ships : Int32) (n_inn : Int32) (n_coughs : Int32) (n_day : Int32) (p0 : Int32) (p1 : Int32) (p2 : Int32) : Option (List Int32 × List Int32 × List Int32 × List Int32 × List Int32 × List Int32 × List Int32 × List Int32 × Int32 × Int32 × Int32 × Int32 × Int32) :=
  (X4_isGood p0).bind fun u_1 =>
  if u_1 = (0 : Int32) then
  (X4_refuse refusals (-1 : Int32)).bind fun u_3 =>
  some (u_3.1, m_there, m_used, m_hidden, m_kind, m_figure, m_cargo, m_load, m_ships, m_inn, m_coughs, m_day, u_3.2)
  else
  (X0_isShip n_ships p1).bind fun u_5 =>
  if u_5 = (0 : Int32) then
  (X4_refuse refusals (-1 : Int32)).bind fun u_30 =>
  some (u_30.1, m_there, m_used, m_hidden, m_kind, m_figure, m_cargo, m_load, m_ships, m_inn, m_coughs, m_day, u_30.2)
  else
  (X4_misfit p2 (1 : Int32) (60 : Int32)).bind fun u_7 =>
  if u_7 = (0 : Int32) then
  X4_hide_L48 (fun m_there_17 m_used_18 m_hidden_19 m_kind_20 m_figure_21 m_cargo_22 m_load_23 m_ships_24 m_inn_25 m_coughs_26 m_day_27 =>
  some (refusals, m_there_17, m_used_18, m_hidden_19, m_kind_20, m_figure_21, m_cargo_22, m_load_23, m_ships_24, m_inn_25, m_coughs_26, m_day_27, (-9 : Int32))) refusals n_there n_used n_hidden n_kind n_figure n_cargo n_load n_ships n_inn n_coughs n_day p0 p1 p2 1000 (0 : Int32) m_there m_used m_hidden m_kind m_figure m_cargo m_load m_ships m_inn m_coughs m_day
  else
  (X4_refuse refusals u_7).bind fun u_28 =>
  some (u_28.1, m_there, m_used, m_hidden, m_kind, m_figure, m_cargo, m_load, m_ships, m_inn, m_coughs, m_day, u_28.2)
set_option maxRecDepth 100000 in
set_option maxHeartbeats 4000000 in
theorem l_X4_hide_L48 {l : Launch} {p : Program} {e : Env} {s : State} {m : MethodId} {args : Array Value} {below : List Frame} {meth : Method} {c : Code} {A : Nat → Prop} {G : Gx} {ad adt adb ade adm adn adk adp : Nat → Nat} {adr : Nat → Nat → Nat} {refusals tcells lcells n_there n_used n_hidden n_kind n_figure n_cargo n_load k_there k_used k_hidden k_kind k_figure k_cargo k_load : List Int32} {isKept tlen llen n_ships n_inn n_coughs n_day k_ships k_inn k_coughs k_day held : Int32} {perm : Nat → Nat} {hist : Nat → Hs} {x1 : Int32} {x2 : Int32} {x3 : Int32} {k : List Int32 → List Int32 → List Int32 → List Int32 → List Int32 → List Int32 → List Int32 → Int32 → Int32 → Int32 → Int32 → Option (List Int32 × List Int32 × List Int32 × List Int32 × List Int32 × List Int32 × List Int32 × List Int32 × Int32 × Int32 × Int32 × Int32 × Int32)} {out : List Int32 × List Int32 × List Int32 × List Int32 × List Int32 × List Int32 × List Int32 × List Int32 × Int32 × Int32 × Int32 × Int32 × Int32} (C : Cx p s m args meth c cX4_hide RX4 7 (some .int) G) : ∀ (n : Nat) (x5 : Int32) (m_there : List Int32) (m_used : List Int32) (m_hidden : List Int32) (m_kind : List Int32) (m_figure : List Int32) (m_cargo : List Int32) (m_load : List Int32) (m_ships : Int32) (m_inn : Int32) (m_coughs : Int32) (m_day : Int32), X4_hide_L48 k refusals n_there n_used n_hidden n_kind n_figure n_cargo n_load n_ships n_inn n_coughs n_day x1 x2 x3 n x5 m_there m_used m_hidden m_kind m_figure m_cargo m_load m_ships m_inn m_coughs m_day = some out → ∀ (H : Heap) (locs : List Loc), St G A s.heap H locs (wT G ad adt adb ade adm adn adk adp adr refusals tcells lcells m_there m_used m_hidden m_kind m_figure m_cargo m_load n_there n_used n_hidden n_kind n_figure n_cargo n_load k_there k_used k_hidden k_kind k_figure k_cargo k_load isKept tlen llen m_ships m_inn m_coughs m_day n_ships n_inn n_coughs n_day k_ships k_inn k_coughs k_day held perm hist) → ∀ ls : Array Slot, lv_has ls 7 [(0, .ref (ad 0)), (1, .int x1), (2, .int x2), (3, .int x3), (5, .int x5)] → (∀ (z_m_there : List Int32) (z_m_used : List Int32) (z_m_hidden : List Int32) (z_m_kind : List Int32) (z_m_figure : List Int32) (z_m_cargo : List Int32) (z_m_load : List Int32) (z_m_ships : Int32) (z_m_inn : Int32) (z_m_coughs : Int32) (z_m_day : Int32), k z_m_there z_m_used z_m_hidden z_m_kind z_m_figure z_m_cargo z_m_load z_m_ships z_m_inn z_m_coughs z_m_day = some out → ∀ (H : Heap) (locs : List Loc), St G A s.heap H locs (wT G ad adt adb ade adm adn adk adp adr refusals tcells lcells z_m_there z_m_used z_m_hidden z_m_kind z_m_figure z_m_cargo z_m_load n_there n_used n_hidden n_kind n_figure n_cargo n_load k_there k_used k_hidden k_kind k_figure k_cargo k_load isKept tlen llen z_m_ships z_m_inn z_m_coughs z_m_day n_ships n_inn n_coughs n_day k_ships k_inn k_coughs k_day held perm hist) → ∀ ls : Array Slot, lv_has ls 7 [] → W p l e (rmOf 5 112) s m args below meth c H locs 0 0 (MQ below (Qof G A (some (.int out.2.2.2.2.2.2.2.2.2.2.2.2)) (wT G ad adt adb ade adm adn adk adp adr out.1 tcells lcells out.2.1 out.2.2.1 out.2.2.2.1 out.2.2.2.2.1 out.2.2.2.2.2.1 out.2.2.2.2.2.2.1 out.2.2.2.2.2.2.2.1 n_there n_used n_hidden n_kind n_figure n_cargo n_load k_there k_used k_hidden k_kind k_figure k_cargo k_load isKept tlen llen out.2.2.2.2.2.2.2.2.1 out.2.2.2.2.2.2.2.2.2.1 out.2.2.2.2.2.2.2.2.2.2.1 out.2.2.2.2.2.2.2.2.2.2.2.1 n_ships n_inn n_coughs n_day k_ships k_inn k_coughs k_day held perm hist)) args s 0 0 A) (F0 m 97 ls [])) → W p l e (rmOf 5 112) s m args below meth c H locs 0 0 (MQ below (Qof G A (some (.int out.2.2.2.2.2.2.2.2.2.2.2.2)) (wT G ad adt adb ade adm adn adk adp adr out.1 tcells lcells out.2.1 out.2.2.1 out.2.2.2.1 out.2.2.2.2.1 out.2.2.2.2.2.1 out.2.2.2.2.2.2.1 out.2.2.2.2.2.2.2.1 n_there n_used n_hidden n_kind n_figure n_cargo n_load k_there k_used k_hidden k_kind k_figure k_cargo k_load isKept tlen llen out.2.2.2.2.2.2.2.2.1 out.2.2.2.2.2.2.2.2.2.1 out.2.2.2.2.2.2.2.2.2.2.1 out.2.2.2.2.2.2.2.2.2.2.2.1 n_ships n_inn n_coughs n_day k_ships k_inn k_coughs k_day held perm hist)) args s 0 0 A) (F0 m 48 ls []) := by
  obtain ⟨hx, hb, hml, hown, hts, hK, hret, hlk⟩ := id C
  intro n
  induction n with
  | zero => intro x5 m_there m_used m_hidden m_kind m_figure m_cargo m_load m_ships m_inn m_coughs m_day hf; cases hf
  | succ n ih =>
    intro x5 m_there m_used m_hidden m_kind m_figure m_cargo m_load m_ships m_inn m_coughs m_day hf H locs hs ls hl hk
    rw [X4_hide_L48] at hf
    refine lv_iload hx hb (dk hX4_hide_0 25 rfl) (lv_at hl 4 rfl) ?_
    refine lv_aload_n hx hb (dk hX4_hide_0 26 rfl) rfl (lv_at hl 0 rfl) ?_
    refine rg ui4 rfl C hs 0 rfl 0 (by decide) tw_134 rfl rfl (dk hX4_hide_0 27 rfl) ?_
    refine rg ui0 rfl C hs 15 rfl 0 (by decide) tw_39 rfl rfl (dk hX4_hide_0 28 rfl) ?_
    refine lv_iload_n hx hb (dk hX4_hide_0 29 rfl) rfl (lv_at hl 1 rfl) ?_
    obtain ⟨v_9, e_10, hf⟩ := Option.bind_eq_some_iff.mp hf
    refine rild C hs 16 rfl e_10 (dk hX4_hide_0 30 rfl) ?_
    refine lv_icmp_gt (tgt := 97) hx hb (dk hX4_hide_0 31 rfl) (by decide) (fun hc => ?_) (fun hc => ?_)
    · replace hf := ip hf hc
      exact hk _ _ _ _ _ _ _ _ _ _ _ hf _ _ hs _ (lv_sub hl [] rfl)
    · replace hf := in_ hf hc
      refine lv_aload_n hx hb (dk hX4_hide_0 32 rfl) rfl (lv_at hl 0 rfl) ?_
      obtain ⟨u_11, e_12, hf⟩ := Option.bind_eq_some_iff.mp hf
      refine Ct.V (As := []) (rest := []) (st1 := [.ref (adm 0)]) (w1 := (wT G ad adt adb ade adm adn adk adp adr refusals tcells lcells u_11.1 u_11.2.1 u_11.2.2.1 u_11.2.2.2.1 u_11.2.2.2.2.1 u_11.2.2.2.2.2.1 u_11.2.2.2.2.2.2.1 n_there n_used n_hidden n_kind n_figure n_cargo n_load k_there k_used k_hidden k_kind k_figure k_cargo k_load isKept tlen llen u_11.2.2.2.2.2.2.2.1 u_11.2.2.2.2.2.2.2.2.1 u_11.2.2.2.2.2.2.2.2.2.1 u_11.2.2.2.2.2.2.2.2.2.2 n_ships n_inn n_coughs n_day k_ships k_inn k_coughs k_day held perm hist)) C hs (c_X4_fromNow e_12) tw_312 tw_314 tw_4 tw_17 tw_315 nq_X4_fromNow (by decide) 0 4 rfl rfl rfl rfl hl.1 rfl (Nat.le_of_ble_eq_true rfl) (dk hX4_hide_0 33 rfl) ⟨Nat.zero_le _, Nat.zero_le _⟩ rfl (fun H locs hs => ?_)
      refine lv_astore (lv' := [(6, .ref (adm 0)), (0, .ref (ad 0)), (1, .int x1), (2, .int x2), (3, .int x3), (5, .int x5)]) hx hb (dk hX4_hide_0 34 rfl) hl (by decide) rfl (fun ls hl => ?_)
      refine lv_aload hx hb (dk hX4_hide_0 35 rfl) (lv_at hl 0 rfl) ?_
      refine lv_iload_n hx hb (dk hX4_hide_0 36 rfl) rfl (lv_at hl 2 rfl) ?_
      refine lv_iload hx hb (dk hX4_hide_0 37 rfl) (lv_at hl 5 rfl) ?_
      obtain ⟨u_13, e_14, hf⟩ := Option.bind_eq_some_iff.mp hf
      refine Ct.V (As := [.int x1, .int x5]) (rest := []) (st1 := []) (w1 := (wT G ad adt adb ade adm adn adk adp adr refusals tcells lcells u_13.1 u_11.2.1 u_13.2 u_11.2.2.2.1 u_11.2.2.2.2.1 u_11.2.2.2.2.2.1 u_11.2.2.2.2.2.2.1 n_there n_used n_hidden n_kind n_figure n_cargo n_load k_there k_used k_hidden k_kind k_figure k_cargo k_load isKept tlen llen u_11.2.2.2.2.2.2.2.1 u_11.2.2.2.2.2.2.2.2.1 u_11.2.2.2.2.2.2.2.2.2.1 u_11.2.2.2.2.2.2.2.2.2.2 n_ships n_inn n_coughs n_day k_ships k_inn k_coughs k_day held perm hist)) C hs (c_X0_hideAway__mind e_14) tw_252 tw_253 tw_254 tw_18 tw_255 nq_X0_hideAway (by decide) 7 0 rfl rfl rfl rfl hl.1 rfl (Nat.le_of_ble_eq_true rfl) (dk hX4_hide_0 38 rfl) ⟨Nat.zero_le _, Nat.zero_le _⟩ rfl (fun H locs hs => ?_)
      refine lv_aload hx hb (dk hX4_hide_0 39 rfl) (lv_at hl 0 rfl) ?_
      refine lv_iload_n hx hb (dk hX4_hide_1 0 rfl) rfl (lv_at hl 3 rfl) ?_
      refine lv_iload_n hx hb (dk hX4_hide_1 1 rfl) rfl (lv_at hl 4 rfl) ?_
      obtain ⟨u_15, e_16, hf⟩ := Option.bind_eq_some_iff.mp hf
      refine Ct.V (As := [.int x2, .int x3]) (rest := []) (st1 := [.int u_15.2.2.2.2]) (w1 := (wT G ad adt adb ade adm adn adk adp adr refusals tcells lcells u_15.1 u_11.2.1 u_13.2 u_11.2.2.2.1 u_11.2.2.2.2.1 u_11.2.2.2.2.2.1 u_11.2.2.2.2.2.2.1 n_there n_used n_hidden n_kind n_figure n_cargo n_load k_there k_used k_hidden k_kind k_figure k_cargo k_load isKept tlen llen u_11.2.2.2.2.2.2.2.1 u_15.2.1 u_15.2.2.1 u_15.2.2.2.1 n_ships n_inn n_coughs n_day k_ships k_inn k_coughs k_day held perm hist)) C hs (c_X0_daysUntilIn__mind e_16) tw_330 tw_331 tw_332 tw_18 tw_333 nq_X0_daysUntilIn (by decide) 7 0 rfl rfl rfl rfl hl.1 rfl (Nat.le_of_ble_eq_true rfl) (dk hX4_hide_1 2 rfl) ⟨Nat.zero_le _, Nat.zero_le _⟩ rfl (fun H locs hs => ?_)
      refine lv_bipush (v := (-9 : Int32)) hx hb (dk hX4_hide_1 3 rfl) (by decide) ?_
      refine lv_icmp_eq (tgt := 91) hx hb (dk hX4_hide_1 4 rfl) (by decide) (fun hc => ?_) (fun hc => ?_)
      · replace hf := ip hf hc
        refine lv_iinc (v := (x5 + (1 : Int32))) (lv' := [(5, .int (x5 + (1 : Int32))), (6, .ref (adm 0)), (0, .ref (ad 0)), (1, .int x1), (2, .int x2), (3, .int x3)]) hx hb (dk hX4_hide_1 7 rfl) hl (k := 5) rfl (by first | rfl | decide) (by decide) rfl (fun ls hl => ?_)
        refine lv_goto (tgt := 48) hx hb (dk hX4_hide_1 8 rfl) (by decide) ?_
        exact ih _ _ _ _ _ _ _ _ _ _ _ _ hf _ _ hs _ (lv_sub hl [2, 3, 4, 5, 0] rfl) hk
      · replace hf := in_ hf hc
        refine lv_iload hx hb (dk hX4_hide_1 5 rfl) (lv_at hl 5 rfl) ?_
        cases hf
        exact ri C hs (dk hX4_hide_1 6 rfl)
set_option maxRecDepth 100000 in
set_option maxHeartbeats 4000000 in
theorem c_X4_hide {l : Launch} {G : Gx} {ad adt adb ade adm adn adk adp : Nat → Nat} {adr : Nat → Nat → Nat} {refusals tcells lcells m_there m_used m_hidden m_kind m_figure m_cargo m_load n_there n_used n_hidden n_kind n_figure n_cargo n_load k_there k_used k_hidden k_kind k_figure k_cargo k_load : List Int32} {isKept tlen llen m_ships m_inn m_coughs m_day n_ships n_inn n_coughs n_day k_ships k_inn k_coughs k_day held : Int32} {perm : Nat → Nat} {hist : Nat → Hs} {p0 : Int32} {p1 : Int32} {p2 : Int32} {out : List Int32 × List Int32 × List Int32 × List Int32 × List Int32 × List Int32 × List Int32 × List Int32 × Int32 × Int32 × Int32 × Int32 × Int32} (hf : X4_hide refusals m_there m_used m_hidden m_kind m_figure m_cargo m_load n_there n_used n_hidden n_kind n_figure n_cargo n_load m_ships m_inn m_coughs m_day n_ships n_inn n_coughs n_day p0 p1 p2 = some out) : Ct l G yX4_hide cX4_hide 7 (some .int) 5 112 [.ref (ad 0), .int p0, .int p1, .int p2] (wT G ad adt adb ade adm adn adk adp adr refusals tcells lcells m_there m_used m_hidden m_kind m_figure m_cargo m_load n_there n_used n_hidden n_kind n_figure n_cargo n_load k_there k_used k_hidden k_kind k_figure k_cargo k_load isKept tlen llen m_ships m_inn m_coughs m_day n_ships n_inn n_coughs n_day k_ships k_inn k_coughs k_day held perm hist) (some (.int out.2.2.2.2.2.2.2.2.2.2.2.2)) (wT G ad adt adb ade adm adn adk adp adr out.1 tcells lcells out.2.1 out.2.2.1 out.2.2.2.1 out.2.2.2.2.1 out.2.2.2.2.2.1 out.2.2.2.2.2.2.1 out.2.2.2.2.2.2.2.1 n_there n_used n_hidden n_kind n_figure n_cargo n_load k_there k_used k_hidden k_kind k_figure k_cargo k_load isKept tlen llen out.2.2.2.2.2.2.2.2.1 out.2.2.2.2.2.2.2.2.2.1 out.2.2.2.2.2.2.2.2.2.2.1 out.2.2.2.2.2.2.2.2.2.2.2.1 n_ships n_inn n_coughs n_day k_ships k_inn k_coughs k_day held perm hist) := by
  refine Ct.intro RX4 rfl (plainFor_of_name (by decide)) (Nat.le_of_ble_eq_true rfl) rfl ?_
  intro p e s m args below meth c A C H locs hs ls hl
  obtain ⟨hx, hb, hml, hown, hts, hK, hret, hlk⟩ := id C
  have hl : lv_has ls 7 [(0, .ref (ad 0)), (1, .int p0), (2, .int p1), (3, .int p2)] := hl
  unfold X4_hide at hf
  refine lv_iload_n hx hb (dk hX4_hide_0 0 rfl) rfl (lv_at hl 1 rfl) ?_
  obtain ⟨u_1, e_2, hf⟩ := Option.bind_eq_some_iff.mp hf
  refine Ct.S (As := [.int p0]) (rest := []) (st1 := [.int u_1]) (w1 := (wT G ad adt adb ade adm adn adk adp adr refusals tcells lcells m_there m_used m_hidden m_kind m_figure m_cargo m_load n_there n_used n_hidden n_kind n_figure n_cargo n_load k_there k_used k_hidden k_kind k_figure k_cargo k_load isKept tlen llen m_ships m_inn m_coughs m_day n_ships n_inn n_coughs n_day k_ships k_inn k_coughs k_day held perm hist)) C hs (c_X4_isGood e_2) tw_163 tw_164 tw_17 tw_165 nq_X4_isGood (by decide) rfl hl.1 rfl (Nat.le_of_ble_eq_true rfl) (dk hX4_hide_0 1 rfl) ⟨Nat.zero_le _, Nat.zero_le _⟩ rfl (fun H locs hs => ?_)
  refine lv_if_eq (tgt := 18) hx hb (dk hX4_hide_0 2 rfl) (by decide) (fun hc => ?_) (fun hc => ?_)
  · replace hf := ip hf hc
    refine lv_aload_n hx hb (dk hX4_hide_0 8 rfl) rfl (lv_at hl 0 rfl) ?_
    refine lv_iconst (v := (-1 : Int32)) hx hb (dk hX4_hide_0 9 rfl) (by decide) ?_
    obtain ⟨u_3, e_4, hf⟩ := Option.bind_eq_some_iff.mp hf
    refine Ct.V (As := [.int (-1 : Int32)]) (rest := []) (st1 := [.int u_3.2]) (w1 := (wT G ad adt adb ade adm adn adk adp adr u_3.1 tcells lcells m_there m_used m_hidden m_kind m_figure m_cargo m_load n_there n_used n_hidden n_kind n_figure n_cargo n_load k_there k_used k_hidden k_kind k_figure k_cargo k_load isKept tlen llen m_ships m_inn m_coughs m_day n_ships n_inn n_coughs n_day k_ships k_inn k_coughs k_day held perm hist)) C hs (c_X4_refuse e_4) tw_166 tw_168 tw_0 tw_17 tw_169 nq_X4_refuse (by decide) 0 4 rfl rfl rfl rfl hl.1 rfl (Nat.le_of_ble_eq_true rfl) (dk hX4_hide_0 10 rfl) ⟨Nat.zero_le _, Nat.zero_le _⟩ rfl (fun H locs hs => ?_)
    cases hf
    exact ri C hs (dk hX4_hide_0 11 rfl)
  · replace hf := in_ hf hc
    refine lv_aload_n hx hb (dk hX4_hide_0 3 rfl) rfl (lv_at hl 0 rfl) ?_
    refine rg ui4 rfl C hs 0 rfl 0 (by decide) tw_134 rfl rfl (dk hX4_hide_0 4 rfl) ?_
    refine lv_iload_n hx hb (dk hX4_hide_0 5 rfl) rfl (lv_at hl 2 rfl) ?_
    obtain ⟨u_5, e_6, hf⟩ := Option.bind_eq_some_iff.mp hf
    refine Ct.V (As := [.int p1]) (rest := []) (st1 := [.int u_5]) (w1 := (wT G ad adt adb ade adm adn adk adp adr refusals tcells lcells m_there m_used m_hidden m_kind m_figure m_cargo m_load n_there n_used n_hidden n_kind n_figure n_cargo n_load k_there k_used k_hidden k_kind k_figure k_cargo k_load isKept tlen llen m_ships m_inn m_coughs m_day n_ships n_inn n_coughs n_day k_ships k_inn k_coughs k_day held perm hist)) C hs (c_X0_isShip__now e_6) tw_178 tw_179 tw_180 tw_18 tw_181 nq_X0_isShip (by decide) 15 0 rfl rfl rfl rfl hl.1 rfl (Nat.le_of_ble_eq_true rfl) (dk hX4_hide_0 6 rfl) ⟨Nat.zero_le _, Nat.zero_le _⟩ rfl (fun H locs hs => ?_)
    refine lv_if_ne (tgt := 24) hx hb (dk hX4_hide_0 7 rfl) (by decide) (fun hc => ?_) (fun hc => ?_)
    · replace hf := in_ hf hc
      refine lv_iload_n hx hb (dk hX4_hide_0 12 rfl) rfl (lv_at hl 3 rfl) ?_
      refine lv_iconst (v := (1 : Int32)) hx hb (dk hX4_hide_0 13 rfl) (by decide) ?_
      refine lv_bipush (v := (60 : Int32)) hx hb (dk hX4_hide_0 14 rfl) (by decide) ?_
      obtain ⟨u_7, e_8, hf⟩ := Option.bind_eq_some_iff.mp hf
      refine Ct.S (As := [.int p2, .int (1 : Int32), .int (60 : Int32)]) (rest := []) (st1 := [.int u_7]) (w1 := (wT G ad adt adb ade adm adn adk adp adr refusals tcells lcells m_there m_used m_hidden m_kind m_figure m_cargo m_load n_there n_used n_hidden n_kind n_figure n_cargo n_load k_there k_used k_hidden k_kind k_figure k_cargo k_load isKept tlen llen m_ships m_inn m_coughs m_day n_ships n_inn n_coughs n_day k_ships k_inn k_coughs k_day held perm hist)) C hs (c_X4_misfit e_8) tw_224 tw_225 tw_17 tw_226 nq_X4_misfit (by decide) rfl hl.1 rfl (Nat.le_of_ble_eq_true rfl) (dk hX4_hide_0 15 rfl) ⟨Nat.zero_le _, Nat.zero_le _⟩ rfl (fun H locs hs => ?_)
      refine lv_istore (lv' := [(4, .int u_7), (0, .ref (ad 0)), (1, .int p0), (2, .int p1), (3, .int p2)]) hx hb (dk hX4_hide_0 16 rfl) hl (by decide) rfl (fun ls hl => ?_)
      refine lv_iload hx hb (dk hX4_hide_0 17 rfl) (lv_at hl 0 rfl) ?_
      refine lv_if_eq (tgt := 45) hx hb (dk hX4_hide_0 18 rfl) (by decide) (fun hc => ?_) (fun hc => ?_)
      · replace hf := ip hf hc
        refine lv_iconst (v := (0 : Int32)) hx hb (dk hX4_hide_0 23 rfl) (by decide) ?_
        refine lv_istore (lv' := [(5, .int (0 : Int32)), (4, .int u_7), (0, .ref (ad 0)), (1, .int p0), (2, .int p1), (3, .int p2)]) hx hb (dk hX4_hide_0 24 rfl) hl (by decide) rfl (fun ls hl => ?_)
        refine l_X4_hide_L48 C 1000 _ _ _ _ _ _ _ _ _ _ _ _ hf _ _ hs _ (lv_sub hl [2, 3, 4, 5, 0] rfl) (fun m_there_17 m_used_18 m_hidden_19 m_kind_20 m_figure_21 m_cargo_22 m_load_23 m_ships_24 m_inn_25 m_coughs_26 m_day_27 hf H locs hs ls hl => ?_)
        refine lv_bipush (v := (-9 : Int32)) hx hb (dk hX4_hide_1 9 rfl) (by decide) ?_
        cases hf
        exact ri C hs (dk hX4_hide_1 10 rfl)
      · replace hf := in_ hf hc
        refine lv_aload_n hx hb (dk hX4_hide_0 19 rfl) rfl (lv_at hl 1 rfl) ?_
        refine lv_iload hx hb (dk hX4_hide_0 20 rfl) (lv_at hl 0 rfl) ?_
        obtain ⟨u_28, e_29, hf⟩ := Option.bind_eq_some_iff.mp hf
        refine Ct.V (As := [.int u_7]) (rest := []) (st1 := [.int u_28.2]) (w1 := (wT G ad adt adb ade adm adn adk adp adr u_28.1 tcells lcells m_there m_used m_hidden m_kind m_figure m_cargo m_load n_there n_used n_hidden n_kind n_figure n_cargo n_load k_there k_used k_hidden k_kind k_figure k_cargo k_load isKept tlen llen m_ships m_inn m_coughs m_day n_ships n_inn n_coughs n_day k_ships k_inn k_coughs k_day held perm hist)) C hs (c_X4_refuse e_29) tw_166 tw_168 tw_0 tw_17 tw_169 nq_X4_refuse (by decide) 0 4 rfl rfl rfl rfl hl.1 rfl (Nat.le_of_ble_eq_true rfl) (dk hX4_hide_0 21 rfl) ⟨Nat.zero_le _, Nat.zero_le _⟩ rfl (fun H locs hs => ?_)
        cases hf
        exact ri C hs (dk hX4_hide_0 22 rfl)
    · replace hf := ip hf hc
      refine lv_aload_n hx hb (dk hX4_hide_0 8 rfl) rfl (lv_at hl 0 rfl) ?_
      refine lv_iconst (v := (-1 : Int32)) hx hb (dk hX4_hide_0 9 rfl) (by decide) ?_
      obtain ⟨u_30, e_31, hf⟩ := Option.bind_eq_some_iff.mp hf
      refine Ct.V (As := [.int (-1 : Int32)]) (rest := []) (st1 := [.int u_30.2]) (w1 := (wT G ad adt adb ade adm adn adk adp adr u_30.1 tcells lcells m_there m_used m_hidden m_kind m_figure m_cargo m_load n_there n_used n_hidden n_kind n_figure n_cargo n_load k_there k_used k_hidden k_kind k_figure k_cargo k_load isKept tlen llen m_ships m_inn m_coughs m_day n_ships n_inn n_coughs n_day k_ships k_inn k_coughs k_day held perm hist)) C hs (c_X4_refuse e_31) tw_166 tw_168 tw_0 tw_17 tw_169 nq_X4_refuse (by decide) 0 4 rfl rfl rfl rfl hl.1 rfl (Nat.le_of_ble_eq_true rfl) (dk hX4_hide_0 10 rfl) ⟨Nat.zero_le _, Nat.zero_le _⟩ rfl (fun H locs hs => ?_)
      cases hf
      exact ri C hs (dk hX4_hide_0 11 rfl)

def X4_isInWithout_L9 (k : List Int32 → List Int32 → Option (List Int32 × List Int32 × List Int32 × List Int32 × List Int32 × List Int32 × List Int32 × Int32 × Int32 × Int32 × Int32 × Int32)) (x1 : Int32) : Nat → Int32 → List Int32 → List Int32 → Option (List Int32 × List Int32 × List Int32 × List Int32 × List Int32 × List Int32 × List Int32 × Int32 × Int32 × Int32 × Int32 × Int32)
  | 0, _, _, _ => none
  | n + 1, x5, m_there, m_hidden =>
  if (6 : Int32) ≤ x5 then
  k m_there m_hidden
  else
  if ((x1 >>> (x5 &&& 31)) &&& (1 : Int32)) = (0 : Int32) then
  X4_isInWithout_L9 k x1 n (x5 + (1 : Int32)) m_there m_hidden
  else
  (rd m_there x5).bind fun v_3 =>
  (X0_hideAway m_there m_hidden x5 v_3).bind fun u_5 =>
  X4_isInWithout_L9 k x1 n (x5 + (1 : Int32)) u_5.1 u_5.2
def X4_isInWithout (m_there : List Int32) (m_used : List Int32) (m_hidden : List Int32) (m_kind : List Int32) (m_figure : List Int32) (m_cargo : List Int32) (m_load : List Int32) (n_there : List Int32) (n_used : List Int32) (n_hidden : List Int32) (n_kind : List Int32) (n_figure : List Int32) (n_cargo : List Int32) (n_load : List Int32) (m_ships : Int32) (m_inn : Int32) (m_coughs : Int32) (m_day : Int32) (n_ships : Int32) (n_inn : Int32) (n_coughs : Int32) (n_day : Int32) (p0 : Int32) (p1 : Int32) (p2 : Int32) : Option (List Int32 × List Int32 × List Int32 × List Int32 × List Int32 × List Int32 × List Int32 × Int32 × Int32 × Int32 × Int32 × Int32) :=
  (X4_fromNow m_there m_used m_hidden m_kind m_figure m_cargo m_load n_there n_used n_hidden n_kind n_figure n_cargo n_load m_ships m_inn m_coughs m_day n_ships n_inn n_coughs n_day).bind fun u_1 =>
  X4_isInWithout_L9 (fun m_there_7 m_hidden_8 =>
  (X0_daysUntilIn m_there_7 u_1.2.1 m_hidden_8 u_1.2.2.2.1 u_1.2.2.2.2.1 u_1.2.2.2.2.2.1 u_1.2.2.2.2.2.2.1 u_1.2.2.2.2.2.2.2.1 u_1.2.2.2.2.2.2.2.2.1 u_1.2.2.2.2.2.2.2.2.2.1 u_1.2.2.2.2.2.2.2.2.2.2 p1 p2).bind fun u_9 =>
  if u_9.2.2.2.2 = (-9 : Int32) then
  some (u_9.1, u_1.2.1, m_hidden_8, u_1.2.2.2.1, u_1.2.2.2.2.1, u_1.2.2.2.2.2.1, u_1.2.2.2.2.2.2.1, u_1.2.2.2.2.2.2.2.1, u_9.2.1, u_9.2.2.1, u_9.2.2.2.1, (0 : Int32))
  else
  some (u_9.1, u_1.2.1, m_hidden_8, u_1.2.2.2.1, u_1.2.2.2.2.1, u_1.2.2.2.2.2.1, u_1.2.2.2.2.2.2.1, u_1.2.2.2.2.2.2.2.1, u_9.2.1, u_9.2.2.1, u_9.2.2.2.1, (1 : Int32))) p0 1000 (0 : Int32) u_1.1 u_1.2.2.1
set_option maxRecDepth 100000 in
set_option maxHeartbeats 4000000 in
theorem l_X4_isInWithout_L9 {l : Launch} {p : Program} {e : Env} {s : State} {m : MethodId} {args : Array Value} {below : List Frame} {meth : Method} {c : Code} {A : Nat → Prop} {G : Gx} {ad adt adb ade adm adn adk adp : Nat → Nat} {adr : Nat → Nat → Nat} {refusals tcells lcells m_used m_kind m_figure m_cargo m_load n_there n_used n_hidden n_kind n_figure n_cargo n_load k_there k_used k_hidden k_kind k_figure k_cargo k_load : List Int32} {isKept tlen llen m_ships m_inn m_coughs m_day n_ships n_inn n_coughs n_day k_ships k_inn k_coughs k_day held : Int32} {perm : Nat → Nat} {hist : Nat → Hs} {x1 : Int32} {x2 : Int32} {x3 : Int32} {k : List Int32 → List Int32 → Option (List Int32 × List Int32 × List Int32 × List Int32 × List Int32 × List Int32 × List Int32 × Int32 × Int32 × Int32 × Int32 × Int32)} {out : List Int32 × List Int32 × List Int32 × List Int32 × List Int32 × List Int32 × List Int32 × Int32 × Int32 × Int32 × Int32 × Int32} (C : Cx p s m args meth c cX4_isInWithout RX4 6 (some .boolean) G) : ∀ (n : Nat) (x5 : Int32) (m_there : List Int32) (m_hidden : List Int32), X4_isInWithout_L9 k x1 n x5 m_there m_hidden = some out → ∀ (H : Heap) (locs : List Loc), St G A s.heap H locs (wT G ad adt adb ade adm adn adk adp adr refusals tcells lcells m_there m_used m_hidden m_kind m_figure m_cargo m_load n_there n_used n_hidden n_kind n_figure n_cargo n_load k_there k_used k_hidden k_kind k_figure k_cargo k_load isKept tlen llen m_ships m_inn m_coughs m_day n_ships n_inn n_coughs n_day k_ships k_inn k_coughs k_day held perm hist) → ∀ ls : Array Slot, lv_has ls 6 [(1, .int x1), (2, .int x2), (3, .int x3), (4, .ref (adm 0)), (5, .int x5)] → (∀ (z_m_there : List Int32) (z_m_hidden : List Int32), k z_m_there z_m_hidden = some out → ∀ (H : Heap) (locs : List Loc), St G A s.heap H locs (wT G ad adt adb ade adm adn adk adp adr refusals tcells lcells z_m_there m_used z_m_hidden m_kind m_figure m_cargo m_load n_there n_used n_hidden n_kind n_figure n_cargo n_load k_there k_used k_hidden k_kind k_figure k_cargo k_load isKept tlen llen m_ships m_inn m_coughs m_day n_ships n_inn n_coughs n_day k_ships k_inn k_coughs k_day held perm hist) → ∀ ls : Array Slot, lv_has ls 6 [(2, .int x2), (3, .int x3), (4, .ref (adm 0))] → W p l e (rmOf 5 112) s m args below meth c H locs 0 0 (MQ below (Qof G A (some (.int out.2.2.2.2.2.2.2.2.2.2.2)) (wT G ad adt adb ade adm adn adk adp adr refusals tcells lcells out.1 out.2.1 out.2.2.1 out.2.2.2.1 out.2.2.2.2.1 out.2.2.2.2.2.1 out.2.2.2.2.2.2.1 n_there n_used n_hidden n_kind n_figure n_cargo n_load k_there k_used k_hidden k_kind k_figure k_cargo k_load isKept tlen llen out.2.2.2.2.2.2.2.1 out.2.2.2.2.2.2.2.2.1 out.2.2.2.2.2.2.2.2.2.1 out.2.2.2.2.2.2.2.2.2.2.1 n_ships n_inn n_coughs n_day k_ships k_inn k_coughs k_day held perm hist)) args s 0 0 A) (F0 m 46 ls [])) → W p l e (rmOf 5 112) s m args below meth c H locs 0 0 (MQ below (Qof G A (some (.int out.2.2.2.2.2.2.2.2.2.2.2)) (wT G ad adt adb ade adm adn adk adp adr refusals tcells lcells out.1 out.2.1 out.2.2.1 out.2.2.2.1 out.2.2.2.2.1 out.2.2.2.2.2.1 out.2.2.2.2.2.2.1 n_there n_used n_hidden n_kind n_figure n_cargo n_load k_there k_used k_hidden k_kind k_figure k_cargo k_load isKept tlen llen out.2.2.2.2.2.2.2.1 out.2.2.2.2.2.2.2.2.1 out.2.2.2.2.2.2.2.2.2.1 out.2.2.2.2.2.2.2.2.2.2.1 n_ships n_inn n_coughs n_day k_ships k_inn k_coughs k_day held perm hist)) args s 0 0 A) (F0 m 9 ls []) := by
  obtain ⟨hx, hb, hml, hown, hts, hK, hret, hlk⟩ := id C
  intro n
  induction n with
  | zero => intro x5 m_there m_hidden hf; cases hf
  | succ n ih =>
    intro x5 m_there m_hidden hf H locs hs ls hl hk
    rw [X4_isInWithout_L9] at hf
    refine lv_iload hx hb (dk hX4_isInWithout_0 5 rfl) (lv_at hl 4 rfl) ?_
    refine lv_bipush (v := (6 : Int32)) hx hb (dk hX4_isInWithout_0 6 rfl) (by decide) ?_
    refine lv_icmp_ge (tgt := 46) hx hb (dk hX4_isInWithout_0 7 rfl) (by decide) (fun hc => ?_) (fun hc => ?_)
    · replace hf := ip hf hc
      exact hk _ _ hf _ _ hs _ (lv_sub hl [1, 2, 3] rfl)
    · replace hf := in_ hf hc
      refine lv_iload_n hx hb (dk hX4_isInWithout_0 8 rfl) rfl (lv_at hl 0 rfl) ?_
      refine lv_iload hx hb (dk hX4_isInWithout_0 9 rfl) (lv_at hl 4 rfl) ?_
      refine lv_ishr hx hb (dk hX4_isInWithout_0 10 rfl) ?_
      refine lv_iconst (v := (1 : Int32)) hx hb (dk hX4_isInWithout_0 11 rfl) (by decide) ?_
      refine lv_iand hx hb (dk hX4_isInWithout_0 12 rfl) ?_
      refine lv_if_eq (tgt := 40) hx hb (dk hX4_isInWithout_0 13 rfl) (by decide) (fun hc => ?_) (fun hc => ?_)
      · replace hf := ip hf hc
        refine lv_iinc (v := (x5 + (1 : Int32))) (lv' := [(5, .int (x5 + (1 : Int32))), (1, .int x1), (2, .int x2), (3, .int x3), (4, .ref (adm 0))]) hx hb (dk hX4_isInWithout_0 21 rfl) hl (k := 4) rfl (by first | rfl | decide) (by decide) rfl (fun ls hl => ?_)
        refine lv_goto (tgt := 9) hx hb (dk hX4_isInWithout_0 22 rfl) (by decide) ?_
        exact ih _ _ _ hf _ _ hs _ (lv_sub hl [1, 2, 3, 4, 0] rfl) hk
      · replace hf := in_ hf hc
        refine lv_aload hx hb (dk hX4_isInWithout_0 14 rfl) (lv_at hl 3 rfl) ?_
        refine lv_iload hx hb (dk hX4_isInWithout_0 15 rfl) (lv_at hl 4 rfl) ?_
        refine lv_aload hx hb (dk hX4_isInWithout_0 16 rfl) (lv_at hl 3 rfl) ?_
        refine rg ui0 rfl C hs 7 rfl 0 (by decide) tw_39 rfl rfl (dk hX4_isInWithout_0 17 rfl) ?_
        refine lv_iload hx hb (dk hX4_isInWithout_0 18 rfl) (lv_at hl 4 rfl) ?_
        obtain ⟨v_3, e_4, hf⟩ := Option.bind_eq_some_iff.mp hf
        refine rild C hs 8 rfl e_4 (dk hX4_isInWithout_0 19 rfl) ?_
        obtain ⟨u_5, e_6, hf⟩ := Option.bind_eq_some_iff.mp hf
        refine Ct.V (As := [.int x5, .int v_3]) (rest := []) (st1 := []) (w1 := (wT G ad adt adb ade adm adn adk adp adr refusals tcells lcells u_5.1 m_used u_5.2 m_kind m_figure m_cargo m_load n_there n_used n_hidden n_kind n_figure n_cargo n_load k_there k_used k_hidden k_kind k_figure k_cargo k_load isKept tlen llen m_ships m_inn m_coughs m_day n_ships n_inn n_coughs n_day k_ships k_inn k_coughs k_day held perm hist)) C hs (c_X0_hideAway__mind e_6) tw_252 tw_253 tw_254 tw_18 tw_255 nq_X0_hideAway (by decide) 7 0 rfl rfl rfl rfl hl.1 rfl (Nat.le_of_ble_eq_true rfl) (dk hX4_isInWithout_0 20 rfl) ⟨Nat.zero_le _, Nat.zero_le _⟩ rfl (fun H locs hs => ?_)
        refine lv_iinc (v := (x5 + (1 : Int32))) (lv' := [(5, .int (x5 + (1 : Int32))), (1, .int x1), (2, .int x2), (3, .int x3), (4, .ref (adm 0))]) hx hb (dk hX4_isInWithout_0 21 rfl) hl (k := 4) rfl (by first | rfl | decide) (by decide) rfl (fun ls hl => ?_)
        refine lv_goto (tgt := 9) hx hb (dk hX4_isInWithout_0 22 rfl) (by decide) ?_
        exact ih _ _ _ hf _ _ hs _ (lv_sub hl [1, 2, 3, 4, 0] rfl) hk
set_option maxRecDepth 100000 in
set_option maxHeartbeats 4000000 in
theorem c_X4_isInWithout {l : Launch} {G : Gx} {ad adt adb ade adm adn adk adp : Nat → Nat} {adr : Nat → Nat → Nat} {refusals tcells lcells m_there m_used m_hidden m_kind m_figure m_cargo m_load n_there n_used n_hidden n_kind n_figure n_cargo n_load k_there k_used k_hidden k_kind k_figure k_cargo k_load : List Int32} {isKept tlen llen m_ships m_inn m_coughs m_day n_ships n_inn n_coughs n_day k_ships k_inn k_coughs k_day held : Int32} {perm : Nat → Nat} {hist : Nat → Hs} {p0 : Int32} {p1 : Int32} {p2 : Int32} {out : List Int32 × List Int32 × List Int32 × List Int32 × List Int32 × List Int32 × List Int32 × Int32 × Int32 × Int32 × Int32 × Int32} (hf : X4_isInWithout m_there m_used m_hidden m_kind m_figure m_cargo m_load n_there n_used n_hidden n_kind n_figure n_cargo n_load m_ships m_inn m_coughs m_day n_ships n_inn n_coughs n_day p0 p1 p2 = some out) : Ct l G yX4_isInWithout cX4_isInWithout 6 (some .boolean) 5 112 [.ref (ad 0), .int p0, .int p1, .int p2] (wT G ad adt adb ade adm adn adk adp adr refusals tcells lcells m_there m_used m_hidden m_kind m_figure m_cargo m_load n_there n_used n_hidden n_kind n_figure n_cargo n_load k_there k_used k_hidden k_kind k_figure k_cargo k_load isKept tlen llen m_ships m_inn m_coughs m_day n_ships n_inn n_coughs n_day k_ships k_inn k_coughs k_day held perm hist) (some (.int out.2.2.2.2.2.2.2.2.2.2.2)) (wT G ad adt adb ade adm adn adk adp adr refusals tcells lcells out.1 out.2.1 out.2.2.1 out.2.2.2.1 out.2.2.2.2.1 out.2.2.2.2.2.1 out.2.2.2.2.2.2.1 n_there n_used n_hidden n_kind n_figure n_cargo n_load k_there k_used k_hidden k_kind k_figure k_cargo k_load isKept tlen llen out.2.2.2.2.2.2.2.1 out.2.2.2.2.2.2.2.2.1 out.2.2.2.2.2.2.2.2.2.1 out.2.2.2.2.2.2.2.2.2.2.1 n_ships n_inn n_coughs n_day k_ships k_inn k_coughs k_day held perm hist) := by
  refine Ct.intro RX4 rfl (plainFor_of_name (by decide)) (Nat.le_of_ble_eq_true rfl) rfl ?_
  intro p e s m args below meth c A C H locs hs ls hl
  obtain ⟨hx, hb, hml, hown, hts, hK, hret, hlk⟩ := id C
  have hl : lv_has ls 6 [(0, .ref (ad 0)), (1, .int p0), (2, .int p1), (3, .int p2)] := hl
  unfold X4_isInWithout at hf
  refine lv_aload_n hx hb (dk hX4_isInWithout_0 0 rfl) rfl (lv_at hl 0 rfl) ?_
  obtain ⟨u_1, e_2, hf⟩ := Option.bind_eq_some_iff.mp hf
  refine Ct.V (As := []) (rest := []) (st1 := [.ref (adm 0)]) (w1 := (wT G ad adt adb ade adm adn adk adp adr refusals tcells lcells u_1.1 u_1.2.1 u_1.2.2.1 u_1.2.2.2.1 u_1.2.2.2.2.1 u_1.2.2.2.2.2.1 u_1.2.2.2.2.2.2.1 n_there n_used n_hidden n_kind n_figure n_cargo n_load k_there k_used k_hidden k_kind k_figure k_cargo k_load isKept tlen llen u_1.2.2.2.2.2.2.2.1 u_1.2.2.2.2.2.2.2.2.1 u_1.2.2.2.2.2.2.2.2.2.1 u_1.2.2.2.2.2.2.2.2.2.2 n_ships n_inn n_coughs n_day k_ships k_inn k_coughs k_day held perm hist)) C hs (c_X4_fromNow e_2) tw_312 tw_314 tw_4 tw_17 tw_315 nq_X4_fromNow (by decide) 0 4 rfl rfl rfl rfl hl.1 rfl (Nat.le_of_ble_eq_true rfl) (dk hX4_isInWithout_0 1 rfl) ⟨Nat.zero_le _, Nat.zero_le _⟩ rfl (fun H locs hs => ?_)
  refine lv_astore (lv' := [(4, .ref (adm 0)), (0, .ref (ad 0)), (1, .int p0), (2, .int p1), (3, .int p2)]) hx hb (dk hX4_isInWithout_0 2 rfl) hl (by decide) rfl (fun ls hl => ?_)
  refine lv_iconst (v := (0 : Int32)) hx hb (dk hX4_isInWithout_0 3 rfl) (by decide) ?_
  refine lv_istore (lv' := [(5, .int (0 : Int32)), (4, .ref (adm 0)), (0, .ref (ad 0)), (1, .int p0), (2, .int p1), (3, .int p2)]) hx hb (dk hX4_isInWithout_0 4 rfl) hl (by decide) rfl (fun ls hl => ?_)
  refine l_X4_isInWithout_L9 C 1000 _ _ _ hf _ _ hs _ (lv_sub hl [3, 4, 5, 1, 0] rfl) (fun m_there_7 m_hidden_8 hf H locs hs ls hl => ?_)
  refine lv_aload hx hb (dk hX4_isInWithout_0 23 rfl) (lv_at hl 2 rfl) ?_
  refine lv_iload_n hx hb (dk hX4_isInWithout_0 24 rfl) rfl (lv_at hl 0 rfl) ?_
  refine lv_iload_n hx hb (dk hX4_isInWithout_0 25 rfl) rfl (lv_at hl 1 rfl) ?_
  obtain ⟨u_9, e_10, hf⟩ := Option.bind_eq_some_iff.mp hf
  refine Ct.V (As := [.int p1, .int p2]) (rest := []) (st1 := [.int u_9.2.2.2.2]) (w1 := (wT G ad adt adb ade adm adn adk adp adr refusals tcells lcells u_9.1 u_1.2.1 m_hidden_8 u_1.2.2.2.1 u_1.2.2.2.2.1 u_1.2.2.2.2.2.1 u_1.2.2.2.2.2.2.1 n_there n_used n_hidden n_kind n_figure n_cargo n_load k_there k_used k_hidden k_kind k_figure k_cargo k_load isKept tlen llen u_1.2.2.2.2.2.2.2.1 u_9.2.1 u_9.2.2.1 u_9.2.2.2.1 n_ships n_inn n_coughs n_day k_ships k_inn k_coughs k_day held perm hist)) C hs (c_X0_daysUntilIn__mind e_10) tw_330 tw_331 tw_332 tw_18 tw_333 nq_X0_daysUntilIn (by decide) 7 0 rfl rfl rfl rfl hl.1 rfl (Nat.le_of_ble_eq_true rfl) (dk hX4_isInWithout_0 26 rfl) ⟨Nat.zero_le _, Nat.zero_le _⟩ rfl (fun H locs hs => ?_)
  refine lv_bipush (v := (-9 : Int32)) hx hb (dk hX4_isInWithout_0 27 rfl) (by decide) ?_
  refine lv_icmp_eq (tgt := 62) hx hb (dk hX4_isInWithout_0 28 rfl) (by decide) (fun hc => ?_) (fun hc => ?_)
  · replace hf := ip hf hc
    refine lv_iconst (v := (0 : Int32)) hx hb (dk hX4_isInWithout_0 31 rfl) (by decide) ?_
    cases hf
    exact rz (x := (0 : Int32)) rfl C hs (dk hX4_isInWithout_0 32 rfl)
  · replace hf := in_ hf hc
    refine lv_iconst (v := (1 : Int32)) hx hb (dk hX4_isInWithout_0 29 rfl) (by decide) ?_
    refine lv_goto (tgt := 63) hx hb (dk hX4_isInWithout_0 30 rfl) (by decide) ?_
    cases hf
    exact rz (x := (1 : Int32)) rfl C hs (dk hX4_isInWithout_0 32 rfl)

