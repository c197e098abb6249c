def wB (G : Gx) (ad ade : Nat → Nat) : va_W := [(ad 0, .inr (3, [.ref (ade 0)]))]
def wX (G : Gx) (adb ade adm : Nat → Nat) (lcells m_there m_used m_hidden m_kind m_figure m_cargo m_load : List Int32) (llen m_ships m_inn m_coughs m_day : Int32) : va_W := wB G adb ade ++ (wN G ade lcells llen ++ (wH G adm m_there m_used m_hidden m_kind m_figure m_cargo m_load m_ships m_inn m_coughs m_day))
abbrev Hs : Type := List Int32 × List Int32 × List Int32 × List Int32 × List Int32 × List Int32 × List Int32 × Int32 × Int32 × Int32 × Int32
def wHs (G : Gx) (ad : Nat → Nat) (x : Hs) : va_W := wH G ad x.1 x.2.1 x.2.2.1 x.2.2.2.1 x.2.2.2.2.1 x.2.2.2.2.2.1 x.2.2.2.2.2.2.1 x.2.2.2.2.2.2.2.1 x.2.2.2.2.2.2.2.2.1 x.2.2.2.2.2.2.2.2.2.1 x.2.2.2.2.2.2.2.2.2.2
def wP (G : Gx) (adp : Nat → Nat) (adr : Nat → Nat → Nat) (held : Int32) (perm : Nat → Nat) (hist : Nat → Hs) : va_W := [(adp 0, .inr (2, [.ref (adp 1), .int held])), (adp 1, .inl (G.2.2, 8, .inr (.inr (.inr (.inr (fun j => some (adr (perm j) 0)))))))] ++ (List.range 8).flatMap (fun r => wHs G (adr r) (hist r))
def wA (G : Gx) (ad adt adb adm adn adk adp : Nat → Nat) (refusals : List Int32) (isKept : Int32) : va_W := [(ad 0, .inr (4, [.ref (adn 0), .ref (adm 0), .ref (adk 0), .ref (adp 0), .ref (adb 0), .ref (adt 0), .ref (ad 1), .int isKept])), (ad 1, ar G refusals)]
def wT (G : Gx) (ad adt adb ade adm adn adk adp : Nat → Nat) (adr : Nat → Nat → Nat) (refusals tcells lcells m_there m_used m_hidden m_kind m_figure m_cargo m_load n_there n_used n_hidden n_kind n_figure n_cargo n_load k_there k_used k_hidden k_kind k_figure k_cargo k_load : List Int32) (isKept tlen llen m_ships m_inn m_coughs m_day n_ships n_inn n_coughs n_day k_ships k_inn k_coughs k_day held : Int32) (perm : Nat → Nat) (hist : Nat → Hs) : va_W := wA G ad adt adb adm adn adk adp refusals isKept ++ (wN G adt tcells tlen ++ (wB G adb ade ++ (wN G ade lcells llen ++ (wH G adm m_there m_used m_hidden m_kind m_figure m_cargo m_load m_ships m_inn m_coughs m_day ++ (wH G adn n_there n_used n_hidden n_kind n_figure n_cargo n_load n_ships n_inn n_coughs n_day ++ (wH G adk k_there k_used k_hidden k_kind k_figure k_cargo k_load k_ships k_inn k_coughs k_day ++ (wP G adp adr held perm hist)))))))
theorem c_X0_isShip__X {l : Launch} {G : Gx} {adb ade adm : Nat → Nat} {lcells m_there m_used m_hidden m_kind m_figure m_cargo m_load : List Int32} {llen m_ships m_inn m_coughs m_day : Int32} {p0 : Int32} {out : Int32} (hf : X0_isShip m_ships p0 = some out) : Ct l G yX0_isShip cX0_isShip 2 (some .boolean) 0 0 [.ref (adm 0), .int p0] (wX G adb ade adm lcells m_there m_used m_hidden m_kind m_figure m_cargo m_load llen m_ships m_inn m_coughs m_day) (some (.int out)) (wX G adb ade adm lcells m_there m_used m_hidden m_kind m_figure m_cargo m_load llen m_ships m_inn m_coughs m_day) :=
  (Ct.pre (Ct.pre (c_X0_isShip hf)))
theorem c_X0_isIn__X {l : Launch} {G : Gx} {adb ade adm : Nat → Nat} {lcells m_there m_used m_hidden m_kind m_figure m_cargo m_load : List Int32} {llen m_ships m_inn m_coughs m_day : Int32} {p0 : Int32} {out : Int32} (hf : X0_isIn m_inn p0 = some out) : Ct l G yX0_isIn cX0_isIn 2 (some .boolean) 0 0 [.ref (adm 0), .int p0] (wX G adb ade adm lcells m_there m_used m_hidden m_kind m_figure m_cargo m_load llen m_ships m_inn m_coughs m_day) (some (.int out)) (wX G adb ade adm lcells m_there m_used m_hidden m_kind m_figure m_cargo m_load llen m_ships m_inn m_coughs m_day) :=
  (Ct.pre (Ct.pre (c_X0_isIn hf)))
theorem c_X0_canHide__X {l : Launch} {G : Gx} {adb ade adm : Nat → Nat} {lcells m_there m_used m_hidden m_kind m_figure m_cargo m_load : List Int32} {llen m_ships m_inn m_coughs m_day : Int32} {p0 : Int32} {p1 : Int32} {out : Int32} (hf : X0_canHide m_there m_hidden p0 p1 = some out) : Ct l G yX0_canHide cX0_canHide 3 (some .boolean) 0 0 [.ref (adm 0), .int p0, .int p1] (wX G adb ade adm lcells m_there m_used m_hidden m_kind m_figure m_cargo m_load llen m_ships m_inn m_coughs m_day) (some (.int out)) (wX G adb ade adm lcells m_there m_used m_hidden m_kind m_figure m_cargo m_load llen m_ships m_inn m_coughs m_day) :=
  (Ct.pre (Ct.pre (c_X0_canHide hf)))
theorem c_X0_addShip__X {l : Launch} {G : Gx} {adb ade adm : Nat → Nat} {lcells m_there m_used m_hidden m_kind m_figure m_cargo m_load : List Int32} {llen m_ships m_inn m_coughs m_day : Int32} {p0 : Int32} {p1 : Int32} {p2 : Int32} {p3 : Int32} {out : List Int32 × List Int32 × List Int32 × List Int32 × Int32 × Int32} (hf : X0_addShip m_kind m_figure m_cargo m_load m_ships m_inn p0 p1 p2 p3 = some out) : Ct l G yX0_addShip cX0_addShip 5 (none) 1 21 [.ref (adm 0), .int p0, .int p1, .int p2, .int p3] (wX G adb ade adm lcells m_there m_used m_hidden m_kind m_figure m_cargo m_load llen m_ships m_inn m_coughs m_day) (none) (wX G adb ade adm lcells m_there m_used m_hidden out.1 out.2.1 out.2.2.1 out.2.2.2.1 llen out.2.2.2.2.1 out.2.2.2.2.2 m_coughs m_day) :=
  (Ct.pre (Ct.pre (c_X0_addShip hf)))
theorem c_X0_hideAway__X {l : Launch} {G : Gx} {adb ade adm : Nat → Nat} {lcells m_there m_used m_hidden m_kind m_figure m_cargo m_load : List Int32} {llen m_ships m_inn m_coughs m_day : Int32} {p0 : Int32} {p1 : Int32} {out : List Int32 × List Int32} (hf : X0_hideAway m_there m_hidden p0 p1 = some out) : Ct l G yX0_hideAway cX0_hideAway 3 (none) 0 0 [.ref (adm 0), .int p0, .int p1] (wX G adb ade adm lcells m_there m_used m_hidden m_kind m_figure m_cargo m_load llen m_ships m_inn m_coughs m_day) (none) (wX G adb ade adm lcells out.1 m_used out.2 m_kind m_figure m_cargo m_load llen m_ships m_inn m_coughs m_day) :=
  (Ct.pre (Ct.pre (c_X0_hideAway hf)))
theorem c_X0_sendOut__X {l : Launch} {G : Gx} {adb ade adm : Nat → Nat} {lcells m_there m_used m_hidden m_kind m_figure m_cargo m_load : List Int32} {llen m_ships m_inn m_coughs m_day : Int32} {p0 : Int32} {out : Int32} (hf : X0_sendOut m_inn p0 = some out) : Ct l G yX0_sendOut cX0_sendOut 2 (none) 0 0 [.ref (adm 0), .int p0] (wX G adb ade adm lcells m_there m_used m_hidden m_kind m_figure m_cargo m_load llen m_ships m_inn m_coughs m_day) (none) (wX G adb ade adm lcells m_there m_used m_hidden m_kind m_figure m_cargo m_load llen m_ships out m_coughs m_day) :=
  (Ct.pre (Ct.pre (c_X0_sendOut hf)))
theorem c_X0_passDays__X {l : Launch} {G : Gx} {adb ade adm : Nat → Nat} {lcells m_there m_used m_hidden m_kind m_figure m_cargo m_load : List Int32} {llen m_ships m_inn m_coughs m_day : Int32} {p0 : Int32} {out : List Int32 × Int32 × Int32 × Int32} (hf : X0_passDays m_there m_used m_hidden m_kind m_figure m_cargo m_load m_ships m_inn m_coughs m_day p0 = some out) : Ct l G yX0_passDays cX0_passDays 3 (none) 4 89 [.ref (adm 0), .int p0] (wX G adb ade adm lcells m_there m_used m_hidden m_kind m_figure m_cargo m_load llen m_ships m_inn m_coughs m_day) (none) (wX G adb ade adm lcells out.1 m_used m_hidden m_kind m_figure m_cargo m_load llen m_ships out.2.1 out.2.2.1 out.2.2.2) :=
  (Ct.pre (Ct.pre (c_X0_passDays hf)))
theorem c_X1_length__X {l : Launch} {G : Gx} {adb ade adm : Nat → Nat} {lcells m_there m_used m_hidden m_kind m_figure m_cargo m_load : List Int32} {llen m_ships m_inn m_coughs m_day : Int32} {out : Int32} (hf : X1_length llen = some out) : Ct l G yX1_length cX1_length 1 (some .int) 0 0 [.ref (ade 0)] (wX G adb ade adm lcells m_there m_used m_hidden m_kind m_figure m_cargo m_load llen m_ships m_inn m_coughs m_day) (some (.int out)) (wX G adb ade adm lcells m_there m_used m_hidden m_kind m_figure m_cargo m_load llen m_ships m_inn m_coughs m_day) :=
  (Ct.pre (Ct.post (c_X1_length hf)))
theorem c_X1_at__X {l : Launch} {G : Gx} {adb ade adm : Nat → Nat} {lcells m_there m_used m_hidden m_kind m_figure m_cargo m_load : List Int32} {llen m_ships m_inn m_coughs m_day : Int32} {p0 : Int32} {out : Int32} (hf : X1_at lcells llen p0 = some out) : Ct l G yX1_at cX1_at 2 (some .int) 0 0 [.ref (ade 0), .int p0] (wX G adb ade adm lcells m_there m_used m_hidden m_kind m_figure m_cargo m_load llen m_ships m_inn m_coughs m_day) (some (.int out)) (wX G adb ade adm lcells m_there m_used m_hidden m_kind m_figure m_cargo m_load llen m_ships m_inn m_coughs m_day) :=
  (Ct.pre (Ct.post (c_X1_at hf)))
def X3_sizeOf (p0 : Int32) : Option (Int32) :=
  if p0 = (99 : Int32) then
  some (4 : Int32)
  else
  if p0 = (100 : Int32) then
  some (4 : Int32)
  else
  if p0 = (104 : Int32) then
  some (5 : Int32)
  else
  if p0 = (111 : Int32) then
  some (3 : Int32)
  else
  if p0 = (115 : Int32) then
  some (7 : Int32)
  else
  if p0 = (116 : Int32) then
  some (5 : Int32)
  else
  if p0 = (117 : Int32) then
  some (4 : Int32)
  else
  some (0 : Int32)
set_option maxRecDepth 100000 in
set_option maxHeartbeats 4000000 in
theorem c_X3_sizeOf {l : Launch} {G : Gx} {w : va_W} {p0 : Int32} {out : Int32} (hf : X3_sizeOf p0 = some out) : Ct l G yX3_sizeOf cX3_sizeOf 1 (some .int) 0 0 [.int p0] w (some (.int out)) w := by
  refine Ct.intro RX3 rfl (plainFor_of_name (by decide)) (Nat.le_of_ble_eq_true rfl) rfl ?_
  intro p e s m args below meth c A C H locs hs ls hl
  obtain ⟨hx, hb, hml, hown, hts, hK, hret, hlk⟩ := id C
  have hl : lv_has ls 1 [(0, .int p0)] := hl
  unfold X3_sizeOf at hf
  refine lv_iload_n hx hb (dk hX3_sizeOf_0 0 rfl) rfl (lv_at hl 0 rfl) ?_
  by_cases hc_1 : p0 = (99 : Int32)
  · replace hf := ip hf hc_1
    refine rts (tgt := 103) (off := 102) hx hb (dk hX3_sizeOf_0 1 rfl) hc_1 (by decide) (by decide) (by decide) (by decide) ?_
    refine lv_iconst (v := (4 : Int32)) hx hb (dk hX3_sizeOf_0 12 rfl) (by decide) ?_
    cases hf
    exact ri C hs (dk hX3_sizeOf_0 13 rfl)
  · replace hf := in_ hf hc_1
    by_cases hc_2 : p0 = (100 : Int32)
    · replace hf := ip hf hc_2
      refine rts (tgt := 105) (off := 104) hx hb (dk hX3_sizeOf_0 1 rfl) hc_2 (by decide) (by decide) (by decide) (by decide) ?_
      refine lv_iconst (v := (4 : Int32)) hx hb (dk hX3_sizeOf_0 14 rfl) (by decide) ?_
      cases hf
      exact ri C hs (dk hX3_sizeOf_0 15 rfl)
    · replace hf := in_ hf hc_2
      by_cases hc_3 : p0 = (104 : Int32)
      · replace hf := ip hf hc_3
        refine rts (tgt := 99) (off := 98) hx hb (dk hX3_sizeOf_0 1 rfl) hc_3 (by decide) (by decide) (by decide) (by decide) ?_
        refine lv_iconst (v := (5 : Int32)) hx hb (dk hX3_sizeOf_0 8 rfl) (by decide) ?_
        cases hf
        exact ri C hs (dk hX3_sizeOf_0 9 rfl)
      · replace hf := in_ hf hc_3
        by_cases hc_4 : p0 = (111 : Int32)
        · replace hf := ip hf hc_4
          refine rts (tgt := 101) (off := 100) hx hb (dk hX3_sizeOf_0 1 rfl) hc_4 (by decide) (by decide) (by decide) (by decide) ?_
          refine lv_iconst (v := (3 : Int32)) hx hb (dk hX3_sizeOf_0 10 rfl) (by decide) ?_
          cases hf
          exact ri C hs (dk hX3_sizeOf_0 11 rfl)
        · replace hf := in_ hf hc_4
          by_cases hc_5 : p0 = (115 : Int32)
          · replace hf := ip hf hc_5
            refine rts (tgt := 92) (off := 91) hx hb (dk hX3_sizeOf_0 1 rfl) hc_5 (by decide) (by decide) (by decide) (by decide) ?_
            refine lv_bipush (v := (7 : Int32)) hx hb (dk hX3_sizeOf_0 2 rfl) (by decide) ?_
            cases hf
            exact ri C hs (dk hX3_sizeOf_0 3 rfl)
          · replace hf := in_ hf hc_5
            by_cases hc_6 : p0 = (116 : Int32)
            · replace hf := ip hf hc_6
              refine rts (tgt := 95) (off := 94) hx hb (dk hX3_sizeOf_0 1 rfl) hc_6 (by decide) (by decide) (by decide) (by decide) ?_
              refine lv_iconst (v := (5 : Int32)) hx hb (dk hX3_sizeOf_0 4 rfl) (by decide) ?_
              cases hf
              exact ri C hs (dk hX3_sizeOf_0 5 rfl)
            · replace hf := in_ hf hc_6
              by_cases hc_7 : p0 = (117 : Int32)
              · replace hf := ip hf hc_7
                refine rts (tgt := 97) (off := 96) hx hb (dk hX3_sizeOf_0 1 rfl) hc_7 (by decide) (by decide) (by decide) (by decide) ?_
                refine lv_iconst (v := (4 : Int32)) hx hb (dk hX3_sizeOf_0 6 rfl) (by decide) ?_
                cases hf
                exact ri C hs (dk hX3_sizeOf_0 7 rfl)
              · replace hf := in_ hf hc_7
                refine rtd (tgt := 107) hx hb (dk hX3_sizeOf_0 1 rfl) [0, 1, 5, 12, 16, 17, 18] (by decide) (by decide) (List.forall_mem_cons.mpr ⟨ti hc_1 (by decide), List.forall_mem_cons.mpr ⟨ti hc_2 (by decide), List.forall_mem_cons.mpr ⟨ti hc_3 (by decide), List.forall_mem_cons.mpr ⟨ti hc_4 (by decide), List.forall_mem_cons.mpr ⟨ti hc_5 (by decide), List.forall_mem_cons.mpr ⟨ti hc_6 (by decide), List.forall_mem_cons.mpr ⟨ti hc_7 (by decide), fun _ h => absurd h List.not_mem_nil⟩⟩⟩⟩⟩⟩⟩) (by decide) ?_
                refine lv_iconst (v := (0 : Int32)) hx hb (dk hX3_sizeOf_0 16 rfl) (by decide) ?_
                cases hf
                exact ri C hs (dk hX3_sizeOf_0 17 rfl)

def X3_digit (lcells : List Int32) (llen : Int32) (p0 : Int32) : Option (Int32) :=
  (X1_at lcells llen p0).bind fun u_1 =>
  if u_1 < (48 : Int32) then
  some (-1 : Int32)
  else
  if (57 : Int32) < u_1 then
  some (-1 : Int32)
  else
  some (u_1 - (48 : Int32))
set_option maxRecDepth 100000 in
set_option maxHeartbeats 4000000 in
theorem c_X3_digit {l : Launch} {G : Gx} {adb ade adm : Nat → Nat} {lcells m_there m_used m_hidden m_kind m_figure m_cargo m_load : List Int32} {llen m_ships m_inn m_coughs m_day : Int32} {p0 : Int32} {out : Int32} (hf : X3_digit lcells llen p0 = some out) : Ct l G yX3_digit cX3_digit 3 (some .int) 1 21 [.ref (adb 0), .int p0] (wX G adb ade adm lcells m_there m_used m_hidden m_kind m_figure m_cargo m_load llen m_ships m_inn m_coughs m_day) (some (.int out)) (wX G adb ade adm lcells m_there m_used m_hidden m_kind m_figure m_cargo m_load llen m_ships m_inn m_coughs m_day) := by
  refine Ct.intro RX3 rfl (plainFor_of_name (by decide)) (Nat.le_of_ble_eq_true rfl) rfl ?_
  intro p e s m args below meth c A C H locs hs ls hl
  obtain ⟨hx, hb, hml, hown, hts, hK, hret, hlk⟩ := id C
  have hl : lv_has ls 3 [(0, .ref (adb 0)), (1, .int p0)] := hl
  unfold X3_digit at hf
  refine lv_aload_n hx hb (dk hX3_digit_0 0 rfl) rfl (lv_at hl 0 rfl) ?_
  refine rg ui3 rfl C hs 0 rfl 0 (by decide) tw_127 rfl rfl (dk hX3_digit_0 1 rfl) ?_
  refine lv_iload_n hx hb (dk hX3_digit_0 2 rfl) rfl (lv_at hl 1 rfl) ?_
  obtain ⟨u_1, e_2, hf⟩ := Option.bind_eq_some_iff.mp hf
  refine Ct.V (As := [.int p0]) (rest := []) (st1 := [.int u_1]) (w1 := (wX G adb ade adm lcells m_there m_used m_hidden m_kind m_figure m_cargo m_load llen m_ships m_inn m_coughs m_day)) C hs (c_X1_at__X e_2) tw_488 tw_489 tw_490 tw_21 tw_491 nq_X1_at (by decide) 1 1 rfl rfl rfl rfl hl.1 rfl (Nat.le_of_ble_eq_true rfl) (dk hX3_digit_0 3 rfl) ⟨Nat.zero_le _, Nat.zero_le _⟩ rfl (fun H locs hs => ?_)
  refine lv_istore_n (lv' := [(2, .int u_1), (0, .ref (adb 0)), (1, .int p0)]) hx hb (dk hX3_digit_0 4 rfl) rfl hl (by decide) rfl (fun ls hl => ?_)
  refine lv_iload_n hx hb (dk hX3_digit_0 5 rfl) rfl (lv_at hl 0 rfl) ?_
  refine lv_bipush (v := (48 : Int32)) hx hb (dk hX3_digit_0 6 rfl) (by decide) ?_
  refine lv_icmp_lt (tgt := 28) hx hb (dk hX3_digit_0 7 rfl) (by decide) (fun hc => ?_) (fun hc => ?_)
  · replace hf := ip hf hc
    refine lv_iconst (v := (-1 : Int32)) hx hb (dk hX3_digit_0 15 rfl) (by decide) ?_
    cases hf
    exact ri C hs (dk hX3_digit_0 16 rfl)
  · replace hf := in_ hf hc
    refine lv_iload_n hx hb (dk hX3_digit_0 8 rfl) rfl (lv_at hl 0 rfl) ?_
    refine lv_bipush (v := (57 : Int32)) hx hb (dk hX3_digit_0 9 rfl) (by decide) ?_
    refine lv_icmp_gt (tgt := 28) hx hb (dk hX3_digit_0 10 rfl) (by decide) (fun hc => ?_) (fun hc => ?_)
    · replace hf := ip hf hc
      refine lv_iconst (v := (-1 : Int32)) hx hb (dk hX3_digit_0 15 rfl) (by decide) ?_
      cases hf
      exact ri C hs (dk hX3_digit_0 16 rfl)
    · replace hf := in_ hf hc
      refine lv_iload_n hx hb (dk hX3_digit_0 11 rfl) rfl (lv_at hl 0 rfl) ?_
      refine lv_bipush (v := (48 : Int32)) hx hb (dk hX3_digit_0 12 rfl) (by decide) ?_
      refine lv_isub hx hb (dk hX3_digit_0 13 rfl) ?_
      refine lv_goto (tgt := 29) hx hb (dk hX3_digit_0 14 rfl) (by decide) ?_
      cases hf
      exact ri C hs (dk hX3_digit_0 16 rfl)

def X3_faultyLetterFrom_L29 (k : Unit → Option (Int32)) (lcells : List Int32) (llen : Int32) (x3 : Int32) : Nat → Int32 → Option (Int32)
  | 0, _ => none
  | n + 1, x4 =>
  if x3 ≤ x4 then
  k ()
  else
  (X3_digit lcells llen x4).bind fun u_5 =>
  if (0 : Int32) ≤ u_5 then
  X3_faultyLetterFrom_L29 k lcells llen x3 n (x4 + (1 : Int32))
  else
  some x4
def X3_faultyLetterFrom (lcells : List Int32) (llen : Int32) (p0 : Int32) : Option (Int32) :=
  (X1_at lcells llen p0).bind fun u_1 =>
  (X3_sizeOf u_1).bind fun u_3 =>
  if u_3 = (0 : Int32) then
  some p0
  else
  X3_faultyLetterFrom_L29 (fun _ =>
  (X1_at lcells llen ((p0 + u_3) - (1 : Int32))).bind fun u_7 =>
  if u_7 = (59 : Int32) then
  some (-1 : Int32)
  else
  some ((p0 + u_3) - (1 : Int32))) lcells llen ((p0 + u_3) - (1 : Int32)) 1000 (p0 + (1 : Int32))
set_option maxRecDepth 100000 in
set_option maxHeartbeats 4000000 in
theorem l_X3_faultyLetterFrom_L29 {l : Launch} {p : Program} {e : Env} {s : State} {m : MethodId} {args : Array Value} {below : List Frame} {meth : Method} {c : Code} {A : Nat → Prop} {G : Gx} {adb ade adm : Nat → Nat} {lcells m_there m_used m_hidden m_kind m_figure m_cargo m_load : List Int32} {llen m_ships m_inn m_coughs m_day : Int32} {x3 : Int32} {k : Unit → Option (Int32)} {out : Int32} (C : Cx p s m args meth c cX3_faultyLetterFrom RX3 5 (some .int) G) : ∀ (n : Nat) (x4 : Int32), X3_faultyLetterFrom_L29 k lcells llen x3 n x4 = some out → ∀ (H : Heap) (locs : List Loc), St G A s.heap H locs (wX G adb ade adm lcells m_there m_used m_hidden m_kind m_figure m_cargo m_load llen m_ships m_inn m_coughs m_day) → ∀ ls : Array Slot, lv_has ls 5 [(0, .ref (adb 0)), (3, .int x3), (4, .int x4)] → (∀ (_ : Unit), k () = some out → ∀ (H : Heap) (locs : List Loc), St G A s.heap H locs (wX G adb ade adm lcells m_there m_used m_hidden m_kind m_figure m_cargo m_load llen m_ships m_inn m_coughs m_day) → ∀ ls : Array Slot, lv_has ls 5 [(0, .ref (adb 0)), (3, .int x3)] → W p l e (rmOf 2 43) s m args below meth c H locs 0 0 (MQ below (Qof G A (some (.int out)) (wX G adb ade adm lcells m_there m_used m_hidden m_kind m_figure m_cargo m_load llen m_ships m_inn m_coughs m_day)) args s 0 0 A) (F0 m 53 ls [])) → W p l e (rmOf 2 43) s m args below meth c H locs 0 0 (MQ below (Qof G A (some (.int out)) (wX G adb ade adm lcells m_there m_used m_hidden m_kind m_figure m_cargo m_load llen m_ships m_inn m_coughs m_day)) args s 0 0 A) (F0 m 29 ls []) := by
  obtain ⟨hx, hb, hml, hown, hts, hK, hret, hlk⟩ := id C
  intro n
  induction n with
  | zero => intro x4 hf; cases hf
  | succ n ih =>
    intro x4 hf H locs hs ls hl hk
    rw [X3_faultyLetterFrom_L29] at hf
    refine lv_iload hx hb (dk hX3_faultyLetterFrom_0 20 rfl) (lv_at hl 2 rfl) ?_
    refine lv_iload_n hx hb (dk hX3_faultyLetterFrom_0 21 rfl) rfl (lv_at hl 1 rfl) ?_
    refine lv_icmp_ge (tgt := 53) hx hb (dk hX3_faultyLetterFrom_0 22 rfl) (by decide) (fun hc => ?_) (fun hc => ?_)
    · replace hf := ip hf hc
      exact hk () hf _ _ hs _ (lv_sub hl [0, 1] rfl)
    · replace hf := in_ hf hc
      refine lv_aload_n hx hb (dk hX3_faultyLetterFrom_0 23 rfl) rfl (lv_at hl 0 rfl) ?_
      refine lv_iload hx hb (dk hX3_faultyLetterFrom_0 24 rfl) (lv_at hl 2 rfl) ?_
      obtain ⟨u_5, e_6, hf⟩ := Option.bind_eq_some_iff.mp hf
      refine Ct.V (As := [.int x4]) (rest := []) (st1 := [.int u_5]) (w1 := (wX G adb ade adm lcells m_there m_used m_hidden m_kind m_figure m_cargo m_load llen m_ships m_inn m_coughs m_day)) C hs (c_X3_digit e_6) tw_495 tw_497 tw_12 tw_20 tw_498 nq_X3_digit (by decide) 0 3 rfl rfl rfl rfl hl.1 rfl (Nat.le_of_ble_eq_true rfl) (dk hX3_faultyLetterFrom_0 25 rfl) ⟨Nat.zero_le _, Nat.zero_le _⟩ rfl (fun H locs hs => ?_)
      refine lv_if_ge (tgt := 47) hx hb (dk hX3_faultyLetterFrom_0 26 rfl) (by decide) (fun hc => ?_) (fun hc => ?_)
      · replace hf := ip hf hc
        refine lv_iinc (v := (x4 + (1 : Int32))) (lv' := [(4, .int (x4 + (1 : Int32))), (0, .ref (adb 0)), (3, .int x3)]) hx hb (dk hX3_faultyLetterFrom_0 29 rfl) hl (k := 2) rfl (by first | rfl | decide) (by decide) rfl (fun ls hl => ?_)
        refine lv_goto (tgt := 29) hx hb (dk hX3_faultyLetterFrom_0 30 rfl) (by decide) ?_
        exact ih _ hf _ _ hs _ (lv_sub hl [1, 2, 0] rfl) hk
      · replace hf := in_ hf hc
        refine lv_iload hx hb (dk hX3_faultyLetterFrom_0 27 rfl) (lv_at hl 2 rfl) ?_
        cases hf
        exact ri C hs (dk hX3_faultyLetterFrom_0 28 rfl)
set_option maxRecDepth 100000 in
set_option maxHeartbeats 4000000 in
theorem c_X3_faultyLetterFrom {l : Launch} {G : Gx} {adb ade adm : Nat → Nat} {lcells m_there m_used m_hidden m_kind m_figure m_cargo m_load : List Int32} {llen m_ships m_inn m_coughs m_day : Int32} {p0 : Int32} {out : Int32} (hf : X3_faultyLetterFrom lcells llen p0 = some out) : Ct l G yX3_faultyLetterFrom cX3_faultyLetterFrom 5 (some .int) 2 43 [.ref (adb 0), .int p0] (wX G adb ade adm lcells m_there m_used m_hidden m_kind m_figure m_cargo m_load llen m_ships m_inn m_coughs m_day) (some (.int out)) (wX G adb ade adm lcells m_there m_used m_hidden m_kind m_figure m_cargo m_load llen m_ships m_inn m_coughs m_day) := by
  refine Ct.intro RX3 rfl (plainFor_of_name (by decide)) (Nat.le_of_ble_eq_true rfl) rfl ?_
  intro p e s m args below meth c A C H locs hs ls hl
  obtain ⟨hx, hb, hml, hown, hts, hK, hret, hlk⟩ := id C
  have hl : lv_has ls 5 [(0, .ref (adb 0)), (1, .int p0)] := hl
  unfold X3_faultyLetterFrom at hf
  refine lv_aload_n hx hb (dk hX3_faultyLetterFrom_0 0 rfl) rfl (lv_at hl 0 rfl) ?_
  refine rg ui3 rfl C hs 0 rfl 0 (by decide) tw_127 rfl rfl (dk hX3_faultyLetterFrom_0 1 rfl) ?_
  refine lv_iload_n hx hb (dk hX3_faultyLetterFrom_0 2 rfl) rfl (lv_at hl 1 rfl) ?_
  obtain ⟨u_1, e_2, hf⟩ := Option.bind_eq_some_iff.mp hf
  refine Ct.V (As := [.int p0]) (rest := []) (st1 := [.int u_1]) (w1 := (wX G adb ade adm lcells m_there m_used m_hidden m_kind m_figure m_cargo m_load llen m_ships m_inn m_coughs m_day)) C hs (c_X1_at__X e_2) tw_488 tw_489 tw_490 tw_21 tw_491 nq_X1_at (by decide) 1 1 rfl rfl rfl rfl hl.1 rfl (Nat.le_of_ble_eq_true rfl) (dk hX3_faultyLetterFrom_0 3 rfl) ⟨Nat.zero_le _, Nat.zero_le _⟩ rfl (fun H locs hs => ?_)
  obtain ⟨u_3, e_4, hf⟩ := Option.bind_eq_some_iff.mp hf
  refine Ct.S (As := [.int u_1]) (rest := []) (st1 := [.int u_3]) (w1 := (wX G adb ade adm lcells m_there m_used m_hidden m_kind m_figure m_cargo m_load llen m_ships m_inn m_coughs m_day)) C hs (c_X3_sizeOf e_4) tw_492 tw_493 tw_20 tw_494 nq_X3_sizeOf (by decide) rfl hl.1 rfl (Nat.le_of_ble_eq_true rfl) (dk hX3_faultyLetterFrom_0 4 rfl) ⟨Nat.zero_le _, Nat.zero_le _⟩ rfl (fun H locs hs => ?_)
  refine lv_istore_n (lv' := [(2, .int u_3), (0, .ref (adb 0)), (1, .int p0)]) hx hb (dk hX3_faultyLetterFrom_0 5 rfl) rfl hl (by decide) rfl (fun ls hl => ?_)
  refine lv_iload_n hx hb (dk hX3_faultyLetterFrom_0 6 rfl) rfl (lv_at hl 0 rfl) ?_
  refine lv_if_ne (tgt := 18) hx hb (dk hX3_faultyLetterFrom_0 7 rfl) (by decide) (fun hc => ?_) (fun hc => ?_)
  · replace hf := in_ hf hc
    refine lv_iload_n hx hb (dk hX3_faultyLetterFrom_0 10 rfl) rfl (lv_at hl 2 rfl) ?_
    refine lv_iload_n hx hb (dk hX3_faultyLetterFrom_0 11 rfl) rfl (lv_at hl 0 rfl) ?_
    refine lv_iadd hx hb (dk hX3_faultyLetterFrom_0 12 rfl) ?_
    refine lv_iconst (v := (1 : Int32)) hx hb (dk hX3_faultyLetterFrom_0 13 rfl) (by decide) ?_
    refine lv_isub hx hb (dk hX3_faultyLetterFrom_0 14 rfl) ?_
    refine lv_istore_n (lv' := [(3, .int ((p0 + u_3) - (1 : Int32))), (2, .int u_3), (0, .ref (adb 0)), (1, .int p0)]) hx hb (dk hX3_faultyLetterFrom_0 15 rfl) rfl hl (by decide) rfl (fun ls hl => ?_)
    refine lv_iload_n hx hb (dk hX3_faultyLetterFrom_0 16 rfl) rfl (lv_at hl 3 rfl) ?_
    refine lv_iconst (v := (1 : Int32)) hx hb (dk hX3_faultyLetterFrom_0 17 rfl) (by decide) ?_
    refine lv_iadd hx hb (dk hX3_faultyLetterFrom_0 18 rfl) ?_
    refine lv_istore (lv' := [(4, .int (p0 + (1 : Int32))), (3, .int ((p0 + u_3) - (1 : Int32))), (2, .int u_3), (0, .ref (adb 0)), (1, .int p0)]) hx hb (dk hX3_faultyLetterFrom_0 19 rfl) hl (by decide) rfl (fun ls hl => ?_)
    refine l_X3_faultyLetterFrom_L29 C 1000 _ hf _ _ hs _ (lv_sub hl [3, 1, 0] rfl) (fun _ hf H locs hs ls hl => ?_)
    refine lv_aload_n hx hb (dk hX3_faultyLetterFrom_0 31 rfl) rfl (lv_at hl 0 rfl) ?_
    refine rg ui3 rfl C hs 0 rfl 0 (by decide) tw_127 rfl rfl (dk hX3_faultyLetterFrom_0 32 rfl) ?_
    refine lv_iload_n hx hb (dk hX3_faultyLetterFrom_0 33 rfl) rfl (lv_at hl 1 rfl) ?_
    obtain ⟨u_7, e_8, hf⟩ := Option.bind_eq_some_iff.mp hf
    refine Ct.V (As := [.int ((p0 + u_3) - (1 : Int32))]) (rest := []) (st1 := [.int u_7]) (w1 := (wX G adb ade adm lcells m_there m_used m_hidden m_kind m_figure m_cargo m_load llen m_ships m_inn m_coughs m_day)) C hs (c_X1_at__X e_8) tw_488 tw_489 tw_490 tw_21 tw_491 nq_X1_at (by decide) 1 1 rfl rfl rfl rfl hl.1 rfl (Nat.le_of_ble_eq_true rfl) (dk hX3_faultyLetterFrom_0 34 rfl) ⟨Nat.zero_le _, Nat.zero_le _⟩ rfl (fun H locs hs => ?_)
    refine lv_bipush (v := (59 : Int32)) hx hb (dk hX3_faultyLetterFrom_0 35 rfl) (by decide) ?_
    refine lv_icmp_ne (tgt := 70) hx hb (dk hX3_faultyLetterFrom_0 36 rfl) (by decide) (fun hc => ?_) (fun hc => ?_)
    · replace hf := in_ hf hc
      refine lv_iload_n hx hb (dk hX3_faultyLetterFrom_0 39 rfl) rfl (lv_at hl 1 rfl) ?_
      cases hf
      exact ri C hs (dk hX3_faultyLetterFrom_1 0 rfl)
    · replace hf := ip hf hc
      refine lv_iconst (v := (-1 : Int32)) hx hb (dk hX3_faultyLetterFrom_0 37 rfl) (by decide) ?_
      refine lv_goto (tgt := 71) hx hb (dk hX3_faultyLetterFrom_0 38 rfl) (by decide) ?_
      cases hf
      exact ri C hs (dk hX3_faultyLetterFrom_1 0 rfl)
  · replace hf := ip hf hc
    refine lv_iload_n hx hb (dk hX3_faultyLetterFrom_0 8 rfl) rfl (lv_at hl 2 rfl) ?_
    cases hf
    exact ri C hs (dk hX3_faultyLetterFrom_0 9 rfl)

def X3_faultyLetter_L4 (k : Unit → Option (Int32)) (lcells : List Int32) (llen : Int32) : Nat → Int32 → Int32 → Option (Int32)
  | 0, _, _ => none
  | n + 1, x1, x2 =>
  if (96 : Int32) ≤ x2 then
  k ()
  else
  if x2 = (0 : Int32) then
  (X3_faultyLetterFrom lcells llen x1).bind fun u_1 =>
  if u_1 < (0 : Int32) then
  (X1_at lcells llen x1).bind fun u_3 =>
  (X3_sizeOf u_3).bind fun u_5 =>
  X3_faultyLetter_L4 k lcells llen n (x1 + u_5) (x2 + (1 : Int32))
  else
  some u_1
  else
  (X1_length llen).bind fun u_7 =>
  if u_7 ≤ x1 then
  k ()
  else
  (X3_faultyLetterFrom lcells llen x1).bind fun u_9 =>
  if u_9 < (0 : Int32) then
  (X1_at lcells llen x1).bind fun u_11 =>
  (X3_sizeOf u_11).bind fun u_13 =>
  X3_faultyLetter_L4 k lcells llen n (x1 + u_13) (x2 + (1 : Int32))
  else
  some u_9
def X3_faultyLetter (lcells : List Int32) (llen : Int32) : Option (Int32) :=
  X3_faultyLetter_L4 (fun _ =>
  some (-1 : Int32)) lcells llen 1000 (0 : Int32) (0 : Int32)
set_option maxRecDepth 100000 in
set_option maxHeartbeats 4000000 in
theorem l_X3_faultyLetter_L4 {l : Launch} {p : Program} {e : Env} {s : State} {m : MethodId} {args : Array Value} {below : List Frame} {meth : Method} {c : Code} {A : Nat → Prop} {G : Gx} {adb ade adm : Nat → Nat} {lcells m_there m_used m_hidden m_kind m_figure m_cargo m_load : List Int32} {llen m_ships m_inn m_coughs m_day : Int32} {k : Unit → Option (Int32)} {out : Int32} (C : Cx p s m args meth c cX3_faultyLetter RX3 4 (some .int) G) : ∀ (n : Nat) (x1 : Int32) (x2 : Int32), X3_faultyLetter_L4 k lcells llen n x1 x2 = some out → ∀ (H : Heap) (locs : List Loc), St G A s.heap H locs (wX G adb ade adm lcells m_there m_used m_hidden m_kind m_figure m_cargo m_load llen m_ships m_inn m_coughs m_day) → ∀ ls : Array Slot, lv_has ls 4 [(0, .ref (adb 0)), (1, .int x1), (2, .int x2)] → (∀ (_ : Unit), k () = some out → ∀ (H : Heap) (locs : List Loc), St G A s.heap H locs (wX G adb ade adm lcells m_there m_used m_hidden m_kind m_figure m_cargo m_load llen m_ships m_inn m_coughs m_day) → ∀ ls : Array Slot, lv_has ls 4 [] → W p l e (rmOf 3 67) s m args below meth c H locs 0 0 (MQ below (Qof G A (some (.int out)) (wX G adb ade adm lcells m_there m_used m_hidden m_kind m_figure m_cargo m_load llen m_ships m_inn m_coughs m_day)) args s 0 0 A) (F0 m 57 ls [])) → W p l e (rmOf 3 67) s m args below meth c H locs 0 0 (MQ below (Qof G A (some (.int out)) (wX G adb ade adm lcells m_there m_used m_hidden m_kind m_figure m_cargo m_load llen m_ships m_inn m_coughs m_day)) args s 0 0 A) (F0 m 4 ls []) := by
  obtain ⟨hx, hb, hml, hown, hts, hK, hret, hlk⟩ := id C
  intro n
  induction n with
  | zero => intro x1 x2 hf; cases hf
  | succ n ih =>
    intro x1 x2 hf H locs hs ls hl hk
    rw [X3_faultyLetter_L4] at hf
    refine lv_iload_n hx hb (dk hX3_faultyLetter_0 4 rfl) rfl (lv_at hl 2 rfl) ?_
    refine lv_bipush (v := (96 : Int32)) hx hb (dk hX3_faultyLetter_0 5 rfl) (by decide) ?_
    refine lv_icmp_ge (tgt := 57) hx hb (dk hX3_faultyLetter_0 6 rfl) (by decide) (fun hc => ?_) (fun hc => ?_)
    · replace hf := ip hf hc
      exact hk () hf _ _ hs _ (lv_sub hl [] rfl)
    · replace hf := in_ hf hc
      refine lv_iload_n hx hb (dk hX3_faultyLetter_0 7 rfl) rfl (lv_at hl 2 rfl) ?_
      refine lv_if_eq (tgt := 25) hx hb (dk hX3_faultyLetter_0 8 rfl) (by decide) (fun hc => ?_) (fun hc => ?_)
      · replace hf := ip hf hc
        refine lv_aload_n hx hb (dk hX3_faultyLetter_0 14 rfl) rfl (lv_at hl 0 rfl) ?_
        refine lv_iload_n hx hb (dk hX3_faultyLetter_0 15 rfl) rfl (lv_at hl 1 rfl) ?_
        obtain ⟨u_1, e_2, hf⟩ := Option.bind_eq_some_iff.mp hf
        refine Ct.V (As := [.int x1]) (rest := []) (st1 := [.int u_1]) (w1 := (wX G adb ade adm lcells m_there m_used m_hidden m_kind m_figure m_cargo m_load llen m_ships m_inn m_coughs m_day)) C hs (c_X3_faultyLetterFrom e_2) tw_484 tw_486 tw_11 tw_20 tw_487 nq_X3_faultyLetterFrom (by decide) 0 3 rfl rfl rfl rfl hl.1 rfl (Nat.le_of_ble_eq_true rfl) (dk hX3_faultyLetter_0 16 rfl) ⟨Nat.zero_le _, Nat.zero_le _⟩ rfl (fun H locs hs => ?_)
        refine lv_istore_n (lv' := [(3, .int u_1), (0, .ref (adb 0)), (1, .int x1), (2, .int x2)]) hx hb (dk hX3_faultyLetter_0 17 rfl) rfl hl (by decide) rfl (fun ls hl => ?_)
        refine lv_iload_n hx hb (dk hX3_faultyLetter_0 18 rfl) rfl (lv_at hl 0 rfl) ?_
        refine lv_if_lt (tgt := 37) hx hb (dk hX3_faultyLetter_0 19 rfl) (by decide) (fun hc => ?_) (fun hc => ?_)
        · replace hf := ip hf hc
          refine lv_iload_n hx hb (dk hX3_faultyLetter_0 22 rfl) rfl (lv_at hl 2 rfl) ?_
          refine lv_aload_n hx hb (dk hX3_faultyLetter_0 23 rfl) rfl (lv_at hl 1 rfl) ?_
          refine rg ui3 rfl C hs 0 rfl 0 (by decide) tw_127 rfl rfl (dk hX3_faultyLetter_0 24 rfl) ?_
          refine lv_iload_n hx hb (dk hX3_faultyLetter_0 25 rfl) rfl (lv_at hl 2 rfl) ?_
          obtain ⟨u_3, e_4, hf⟩ := Option.bind_eq_some_iff.mp hf
          refine Ct.V (As := [.int x1]) (rest := [.int x1]) (st1 := [.int u_3, .int x1]) (w1 := (wX G adb ade adm lcells m_there m_used m_hidden m_kind m_figure m_cargo m_load llen m_ships m_inn m_coughs m_day)) C hs (c_X1_at__X e_4) tw_488 tw_489 tw_490 tw_21 tw_491 nq_X1_at (by decide) 1 1 rfl rfl rfl rfl hl.1 rfl (Nat.le_of_ble_eq_true rfl) (dk hX3_faultyLetter_0 26 rfl) ⟨Nat.zero_le _, Nat.zero_le _⟩ rfl (fun H locs hs => ?_)
          obtain ⟨u_5, e_6, hf⟩ := Option.bind_eq_some_iff.mp hf
          refine Ct.S (As := [.int u_3]) (rest := [.int x1]) (st1 := [.int u_5, .int x1]) (w1 := (wX G adb ade adm lcells m_there m_used m_hidden m_kind m_figure m_cargo m_load llen m_ships m_inn m_coughs m_day)) C hs (c_X3_sizeOf e_6) tw_492 tw_493 tw_20 tw_494 nq_X3_sizeOf (by decide) rfl hl.1 rfl (Nat.le_of_ble_eq_true rfl) (dk hX3_faultyLetter_0 27 rfl) ⟨Nat.zero_le _, Nat.zero_le _⟩ rfl (fun H locs hs => ?_)
          refine lv_iadd hx hb (dk hX3_faultyLetter_0 28 rfl) ?_
          refine lv_istore_n (lv' := [(1, .int (x1 + u_5)), (3, .int u_1), (0, .ref (adb 0)), (2, .int x2)]) hx hb (dk hX3_faultyLetter_0 29 rfl) rfl hl (by decide) rfl (fun ls hl => ?_)
          refine lv_iinc (v := (x2 + (1 : Int32))) (lv' := [(2, .int (x2 + (1 : Int32))), (1, .int (x1 + u_5)), (3, .int u_1), (0, .ref (adb 0))]) hx hb (dk hX3_faultyLetter_0 30 rfl) hl (k := 3) rfl (by first | rfl | decide) (by decide) rfl (fun ls hl => ?_)
          refine lv_goto (tgt := 4) hx hb (dk hX3_faultyLetter_0 31 rfl) (by decide) ?_
          exact ih _ _ hf _ _ hs _ (lv_sub hl [3, 1, 0] rfl) hk
        · replace hf := in_ hf hc
          refine lv_iload_n hx hb (dk hX3_faultyLetter_0 20 rfl) rfl (lv_at hl 0 rfl) ?_
          cases hf
          exact ri C hs (dk hX3_faultyLetter_0 21 rfl)
      · replace hf := in_ hf hc
        refine lv_iload_n hx hb (dk hX3_faultyLetter_0 9 rfl) rfl (lv_at hl 1 rfl) ?_
        refine lv_aload_n hx hb (dk hX3_faultyLetter_0 10 rfl) rfl (lv_at hl 0 rfl) ?_
        refine rg ui3 rfl C hs 0 rfl 0 (by decide) tw_127 rfl rfl (dk hX3_faultyLetter_0 11 rfl) ?_
        obtain ⟨u_7, e_8, hf⟩ := Option.bind_eq_some_iff.mp hf
        refine Ct.V (As := []) (rest := [.int x1]) (st1 := [.int u_7, .int x1]) (w1 := (wX G adb ade adm lcells m_there m_used m_hidden m_kind m_figure m_cargo m_load llen m_ships m_inn m_coughs m_day)) C hs (c_X1_length__X e_8) tw_483 tw_443 tw_444 tw_21 tw_445 nq_X1_length (by decide) 1 1 rfl rfl rfl rfl hl.1 rfl (Nat.le_of_ble_eq_true rfl) (dk hX3_faultyLetter_0 12 rfl) ⟨Nat.zero_le _, Nat.zero_le _⟩ rfl (fun H locs hs => ?_)
        refine lv_icmp_ge (tgt := 57) hx hb (dk hX3_faultyLetter_0 13 rfl) (by decide) (fun hc => ?_) (fun hc => ?_)
        · replace hf := ip hf hc
          exact hk () hf _ _ hs _ (lv_sub hl [] rfl)
        · replace hf := in_ hf hc
          refine lv_aload_n hx hb (dk hX3_faultyLetter_0 14 rfl) rfl (lv_at hl 0 rfl) ?_
          refine lv_iload_n hx hb (dk hX3_faultyLetter_0 15 rfl) rfl (lv_at hl 1 rfl) ?_
          obtain ⟨u_9, e_10, hf⟩ := Option.bind_eq_some_iff.mp hf
          refine Ct.V (As := [.int x1]) (rest := []) (st1 := [.int u_9]) (w1 := (wX G adb ade adm lcells m_there m_used m_hidden m_kind m_figure m_cargo m_load llen m_ships m_inn m_coughs m_day)) C hs (c_X3_faultyLetterFrom e_10) tw_484 tw_486 tw_11 tw_20 tw_487 nq_X3_faultyLetterFrom (by decide) 0 3 rfl rfl rfl rfl hl.1 rfl (Nat.le_of_ble_eq_true rfl) (dk hX3_faultyLetter_0 16 rfl) ⟨Nat.zero_le _, Nat.zero_le _⟩ rfl (fun H locs hs => ?_)
          refine lv_istore_n (lv' := [(3, .int u_9), (0, .ref (adb 0)), (1, .int x1), (2, .int x2)]) hx hb (dk hX3_faultyLetter_0 17 rfl) rfl hl (by decide) rfl (fun ls hl => ?_)
          refine lv_iload_n hx hb (dk hX3_faultyLetter_0 18 rfl) rfl (lv_at hl 0 rfl) ?_
          refine lv_if_lt (tgt := 37) hx hb (dk hX3_faultyLetter_0 19 rfl) (by decide) (fun hc => ?_) (fun hc => ?_)
          · replace hf := ip hf hc
            refine lv_iload_n hx hb (dk hX3_faultyLetter_0 22 rfl) rfl (lv_at hl 2 rfl) ?_
            refine lv_aload_n hx hb (dk hX3_faultyLetter_0 23 rfl) rfl (lv_at hl 1 rfl) ?_
            refine rg ui3 rfl C hs 0 rfl 0 (by decide) tw_127 rfl rfl (dk hX3_faultyLetter_0 24 rfl) ?_
            refine lv_iload_n hx hb (dk hX3_faultyLetter_0 25 rfl) rfl (lv_at hl 2 rfl) ?_
            obtain ⟨u_11, e_12, hf⟩ := Option.bind_eq_some_iff.mp hf
            refine Ct.V (As := [.int x1]) (rest := [.int x1]) (st1 := [.int u_11, .int x1]) (w1 := (wX G adb ade adm lcells m_there m_used m_hidden m_kind m_figure m_cargo m_load llen m_ships m_inn m_coughs m_day)) C hs (c_X1_at__X e_12) tw_488 tw_489 tw_490 tw_21 tw_491 nq_X1_at (by decide) 1 1 rfl rfl rfl rfl hl.1 rfl (Nat.le_of_ble_eq_true rfl) (dk hX3_faultyLetter_0 26 rfl) ⟨Nat.zero_le _, Nat.zero_le _⟩ rfl (fun H locs hs => ?_)
            obtain ⟨u_13, e_14, hf⟩ := Option.bind_eq_some_iff.mp hf
            refine Ct.S (As := [.int u_11]) (rest := [.int x1]) (st1 := [.int u_13, .int x1]) (w1 := (wX G adb ade adm lcells m_there m_used m_hidden m_kind m_figure m_cargo m_load llen m_ships m_inn m_coughs m_day)) C hs (c_X3_sizeOf e_14) tw_492 tw_493 tw_20 tw_494 nq_X3_sizeOf (by decide) rfl hl.1 rfl (Nat.le_of_ble_eq_true rfl) (dk hX3_faultyLetter_0 27 rfl) ⟨Nat.zero_le _, Nat.zero_le _⟩ rfl (fun H locs hs => ?_)
            refine lv_iadd hx hb (dk hX3_faultyLetter_0 28 rfl) ?_
            refine lv_istore_n (lv' := [(1, .int (x1 + u_13)), (3, .int u_9), (0, .ref (adb 0)), (2, .int x2)]) hx hb (dk hX3_faultyLetter_0 29 rfl) rfl hl (by decide) rfl (fun ls hl => ?_)
            refine lv_iinc (v := (x2 + (1 : Int32))) (lv' := [(2, .int (x2 + (1 : Int32))), (1, .int (x1 + u_13)), (3, .int u_9), (0, .ref (adb 0))]) hx hb (dk hX3_faultyLetter_0 30 rfl) hl (k := 3) rfl (by first | rfl | decide) (by decide) rfl (fun ls hl => ?_)
            refine lv_goto (tgt := 4) hx hb (dk hX3_faultyLetter_0 31 rfl) (by decide) ?_
            exact ih _ _ hf _ _ hs _ (lv_sub hl [3, 1, 0] rfl) hk
          · replace hf := in_ hf hc
            refine lv_iload_n hx hb (dk hX3_faultyLetter_0 20 rfl) rfl (lv_at hl 0 rfl) ?_
            cases hf
            exact ri C hs (dk hX3_faultyLetter_0 21 rfl)
set_option maxRecDepth 100000 in
set_option maxHeartbeats 4000000 in
theorem c_X3_faultyLetter {l : Launch} {G : Gx} {adb ade adm : Nat → Nat} {lcells m_there m_used m_hidden m_kind m_figure m_cargo m_load : List Int32} {llen m_ships m_inn m_coughs m_day : Int32}  {out : Int32} (hf : X3_faultyLetter lcells llen = some out) : Ct l G yX3_faultyLetter cX3_faultyLetter 4 (some .int) 3 67 [.ref (adb 0)] (wX G adb ade adm lcells m_there m_used m_hidden m_kind m_figure m_cargo m_load llen m_ships m_inn m_coughs m_day) (some (.int out)) (wX G adb ade adm lcells m_there m_used m_hidden m_kind m_figure m_cargo m_load llen m_ships m_inn m_coughs m_day) := by
  refine Ct.intro RX3 rfl (plainFor_of_name (by decide)) (Nat.le_of_ble_eq_true rfl) rfl ?_
  intro p e s m args below meth c A C H locs hs ls hl
  obtain ⟨hx, hb, hml, hown, hts, hK, hret, hlk⟩ := id C
  have hl : lv_has ls 4 [(0, .ref (adb 0))] := hl
  unfold X3_faultyLetter at hf
  refine lv_iconst (v := (0 : Int32)) hx hb (dk hX3_faultyLetter_0 0 rfl) (by decide) ?_
  refine lv_istore_n (lv' := [(1, .int (0 : Int32)), (0, .ref (adb 0))]) hx hb (dk hX3_faultyLetter_0 1 rfl) rfl hl (by decide) rfl (fun ls hl => ?_)
  refine lv_iconst (v := (0 : Int32)) hx hb (dk hX3_faultyLetter_0 2 rfl) (by decide) ?_
  refine lv_istore_n (lv' := [(2, .int (0 : Int32)), (1, .int (0 : Int32)), (0, .ref (adb 0))]) hx hb (dk hX3_faultyLetter_0 3 rfl) rfl hl (by decide) rfl (fun ls hl => ?_)
  refine l_X3_faultyLetter_L4 C 1000 _ _ hf _ _ hs _ (lv_sub hl [2, 1, 0] rfl) (fun _ hf H locs hs ls hl => ?_)
  refine lv_iconst (v := (-1 : Int32)) hx hb (dk hX3_faultyLetter_0 32 rfl) (by decide) ?_
  cases hf
  exact ri C hs (dk hX3_faultyLetter_0 33 rfl)

def X3_twoDigits (lcells : List Int32) (llen : Int32) (p0 : Int32) : Option (Int32) :=
  (X3_digit lcells llen p0).bind fun u_1 =>
  (X3_digit lcells llen (p0 + (1 : Int32))).bind fun u_3 =>
  some (((10 : Int32) * u_1) + u_3)
set_option maxRecDepth 100000 in
set_option maxHeartbeats 4000000 in
theorem c_X3_twoDigits {l : Launch} {G : Gx} {adb ade adm : Nat → Nat} {lcells m_there m_used m_hidden m_kind m_figure m_cargo m_load : List Int32} {llen m_ships m_inn m_coughs m_day : Int32} {p0 : Int32} {out : Int32} (hf : X3_twoDigits lcells llen p0 = some out) : Ct l G yX3_twoDigits cX3_twoDigits 2 (some .int) 2 43 [.ref (adb 0), .int p0] (wX G adb ade adm lcells m_there m_used m_hidden m_kind m_figure m_cargo m_load llen m_ships m_inn m_coughs m_day) (some (.int out)) (wX G adb ade adm lcells m_there m_used m_hidden m_kind m_figure m_cargo m_load llen m_ships m_inn m_coughs m_day) := by
  refine Ct.intro RX3 rfl (plainFor_of_name (by decide)) (Nat.le_of_ble_eq_true rfl) rfl ?_
  intro p e s m args below meth c A C H locs hs ls hl
  obtain ⟨hx, hb, hml, hown, hts, hK, hret, hlk⟩ := id C
  have hl : lv_has ls 2 [(0, .ref (adb 0)), (1, .int p0)] := hl
  unfold X3_twoDigits at hf
  refine lv_bipush (v := (10 : Int32)) hx hb (dk hX3_twoDigits_0 0 rfl) (by decide) ?_
  refine lv_aload_n hx hb (dk hX3_twoDigits_0 1 rfl) rfl (lv_at hl 0 rfl) ?_
  refine lv_iload_n hx hb (dk hX3_twoDigits_0 2 rfl) rfl (lv_at hl 1 rfl) ?_
  obtain ⟨u_1, e_2, hf⟩ := Option.bind_eq_some_iff.mp hf
  refine Ct.V (As := [.int p0]) (rest := [.int (10 : Int32)]) (st1 := [.int u_1, .int (10 : Int32)]) (w1 := (wX G adb ade adm lcells m_there m_used m_hidden m_kind m_figure m_cargo m_load llen m_ships m_inn m_coughs m_day)) C hs (c_X3_digit e_2) tw_495 tw_497 tw_12 tw_20 tw_498 nq_X3_digit (by decide) 0 3 rfl rfl rfl rfl hl.1 rfl (Nat.le_of_ble_eq_true rfl) (dk hX3_twoDigits_0 3 rfl) ⟨Nat.zero_le _, Nat.zero_le _⟩ rfl (fun H locs hs => ?_)
  refine lv_imul hx hb (dk hX3_twoDigits_0 4 rfl) ?_
  refine lv_aload_n hx hb (dk hX3_twoDigits_0 5 rfl) rfl (lv_at hl 0 rfl) ?_
  refine lv_iload_n hx hb (dk hX3_twoDigits_0 6 rfl) rfl (lv_at hl 1 rfl) ?_
  refine lv_iconst (v := (1 : Int32)) hx hb (dk hX3_twoDigits_0 7 rfl) (by decide) ?_
  refine lv_iadd hx hb (dk hX3_twoDigits_0 8 rfl) ?_
  obtain ⟨u_3, e_4, hf⟩ := Option.bind_eq_some_iff.mp hf
  refine Ct.V (As := [.int (p0 + (1 : Int32))]) (rest := [.int ((10 : Int32) * u_1)]) (st1 := [.int u_3, .int ((10 : Int32) * u_1)]) (w1 := (wX G adb ade adm lcells m_there m_used m_hidden m_kind m_figure m_cargo m_load llen m_ships m_inn m_coughs m_day)) C hs (c_X3_digit e_4) tw_495 tw_497 tw_12 tw_20 tw_498 nq_X3_digit (by decide) 0 3 rfl rfl rfl rfl hl.1 rfl (Nat.le_of_ble_eq_true rfl) (dk hX3_twoDigits_0 9 rfl) ⟨Nat.zero_le _, Nat.zero_le _⟩ rfl (fun H locs hs => ?_)
  refine lv_iadd hx hb (dk hX3_twoDigits_0 10 rfl) ?_
  cases hf
  exact ri C hs (dk hX3_twoDigits_0 11 rfl)

def X3_isAsItMustBe (lcells : List Int32) (m_there : List Int32) (m_hidden : List Int32) (llen : Int32) (m_ships : Int32) (m_inn : Int32) (m_day : Int32) (p1 : Int32) : Option (Int32) :=
  (X3_digit lcells llen (p1 + (1 : Int32))).bind fun u_1 =>
  (X1_at lcells llen p1).bind fun u_3 =>
  if u_3 = (100 : Int32) then
  (X3_twoDigits lcells llen (p1 + (1 : Int32))).bind fun u_5 =>
  (X4_misfit u_5 (1 : Int32) (mmin (60 : Int32) ((999 : Int32) - m_day))).bind fun u_7 =>
  if u_7 = (0 : Int32) then
  some (1 : Int32)
  else
  some (0 : Int32)
  else
  if u_3 = (104 : Int32) then
  (X4_isGood u_1).bind fun u_10 =>
  if u_10 = (0 : Int32) then
  some (0 : Int32)
  else
  (X3_twoDigits lcells llen (p1 + (2 : Int32))).bind fun u_12 =>
  (X0_canHide m_there m_hidden u_1 u_12).bind fun u_14 =>
  if u_14 = (0 : Int32) then
  some (0 : Int32)
  else
  some (1 : Int32)
  else
  if u_3 = (111 : Int32) then
  (X0_isShip m_ships u_1).bind fun u_17 =>
  if u_17 = (0 : Int32) then
  some (0 : Int32)
  else
  (X0_isIn m_inn u_1).bind fun u_19 =>
  if u_19 = (0 : Int32) then
  some (0 : Int32)
  else
  some (1 : Int32)
  else
  if u_3 = (115 : Int32) then
  if (6 : Int32) ≤ u_1 then
  some (0 : Int32)
  else
  (X3_digit lcells llen (p1 + (3 : Int32))).bind fun u_22 =>
  (X4_isGood u_22).bind fun u_24 =>
  if u_24 = (0 : Int32) then
  some (0 : Int32)
  else
  if (7 : Int32) ≤ m_ships then
  some (0 : Int32)
  else
  some (1 : Int32)
  else
  if u_3 = (116 : Int32) then
  (X4_isGood u_1).bind fun u_27 =>
  (c01 u_27).bind fun b_29 =>
  some b_29
  else
  if u_3 = (117 : Int32) then
  (X4_isGood u_1).bind fun u_32 =>
  (c01 u_32).bind fun b_34 =>
  some b_34
  else
  some (1 : Int32)
set_option maxRecDepth 100000 in
set_option maxHeartbeats 4000000 in
theorem c_X3_isAsItMustBe {l : Launch} {G : Gx} {adb ade adm : Nat → Nat} {lcells m_there m_used m_hidden m_kind m_figure m_cargo m_load : List Int32} {llen m_ships m_inn m_coughs m_day : Int32} {p1 : Int32} {out : Int32} (hf : X3_isAsItMustBe lcells m_there m_hidden llen m_ships m_inn m_day p1 = some out) : Ct l G yX3_isAsItMustBe cX3_isAsItMustBe 4 (some .boolean) 3 64 [.ref (adb 0), .ref (adm 0), .int p1] (wX G adb ade adm lcells m_there m_used m_hidden m_kind m_figure m_cargo m_load llen m_ships m_inn m_coughs m_day) (some (.int out)) (wX G adb ade adm lcells m_there m_used m_hidden m_kind m_figure m_cargo m_load llen m_ships m_inn m_coughs m_day) := by
  refine Ct.intro RX3 rfl (plainFor_of_name (by decide)) (Nat.le_of_ble_eq_true rfl) rfl ?_
  intro p e s m args below meth c A C H locs hs ls hl
  obtain ⟨hx, hb, hml, hown, hts, hK, hret, hlk⟩ := id C
  have hl : lv_has ls 4 [(0, .ref (adb 0)), (1, .ref (adm 0)), (2, .int p1)] := hl
  unfold X3_isAsItMustBe at hf
  refine lv_aload_n hx hb (dk hX3_isAsItMustBe_0 0 rfl) rfl (lv_at hl 0 rfl) ?_
  refine lv_iload_n hx hb (dk hX3_isAsItMustBe_0 1 rfl) rfl (lv_at hl 2 rfl) ?_
  refine lv_iconst (v := (1 : Int32)) hx hb (dk hX3_isAsItMustBe_0 2 rfl) (by decide) ?_
  refine lv_iadd hx hb (dk hX3_isAsItMustBe_0 3 rfl) ?_
  obtain ⟨u_1, e_2, hf⟩ := Option.bind_eq_some_iff.mp hf
  refine Ct.V (As := [.int (p1 + (1 : Int32))]) (rest := []) (st1 := [.int u_1]) (w1 := (wX G adb ade adm lcells m_there m_used m_hidden m_kind m_figure m_cargo m_load llen m_ships m_inn m_coughs m_day)) C hs (c_X3_digit e_2) tw_495 tw_497 tw_12 tw_20 tw_498 nq_X3_digit (by decide) 0 3 rfl rfl rfl rfl hl.1 rfl (Nat.le_of_ble_eq_true rfl) (dk hX3_isAsItMustBe_0 4 rfl) ⟨Nat.zero_le _, Nat.zero_le _⟩ rfl (fun H locs hs => ?_)
  refine lv_istore_n (lv' := [(3, .int u_1), (0, .ref (adb 0)), (1, .ref (adm 0)), (2, .int p1)]) hx hb (dk hX3_isAsItMustBe_0 5 rfl) rfl hl (by decide) rfl (fun ls hl => ?_)
  refine lv_aload_n hx hb (dk hX3_isAsItMustBe_0 6 rfl) rfl (lv_at hl 1 rfl) ?_
  refine rg ui3 rfl C hs 0 rfl 0 (by decide) tw_127 rfl rfl (dk hX3_isAsItMustBe_0 7 rfl) ?_
  refine lv_iload_n hx hb (dk hX3_isAsItMustBe_0 8 rfl) rfl (lv_at hl 3 rfl) ?_
  obtain ⟨u_3, e_4, hf⟩ := Option.bind_eq_some_iff.mp hf
  refine Ct.V (As := [.int p1]) (rest := []) (st1 := [.int u_3]) (w1 := (wX G adb ade adm lcells m_there m_used m_hidden m_kind m_figure m_cargo m_load llen m_ships m_inn m_coughs m_day)) C hs (c_X1_at__X e_4) tw_488 tw_489 tw_490 tw_21 tw_491 nq_X1_at (by decide) 1 1 rfl rfl rfl rfl hl.1 rfl (Nat.le_of_ble_eq_true rfl) (dk hX3_isAsItMustBe_0 9 rfl) ⟨Nat.zero_le _, Nat.zero_le _⟩ rfl (fun H locs hs => ?_)
  by_cases hc_9 : u_3 = (100 : Int32)
  · replace hf := ip hf hc_9
    refine rts (tgt := 198) (off := 182) hx hb (dk hX3_isAsItMustBe_0 10 rfl) hc_9 (by decide) (by decide) (by decide) (by decide) ?_
    refine lv_aload_n hx hb (dk hX3_isAsItMustBe_1 23 rfl) rfl (lv_at hl 1 rfl) ?_
    refine lv_iload_n hx hb (dk hX3_isAsItMustBe_1 24 rfl) rfl (lv_at hl 3 rfl) ?_
    refine lv_iconst (v := (1 : Int32)) hx hb (dk hX3_isAsItMustBe_1 25 rfl) (by decide) ?_
    refine lv_iadd hx hb (dk hX3_isAsItMustBe_1 26 rfl) ?_
    obtain ⟨u_5, e_6, hf⟩ := Option.bind_eq_some_iff.mp hf
    refine Ct.V (As := [.int (p1 + (1 : Int32))]) (rest := []) (st1 := [.int u_5]) (w1 := (wX G adb ade adm lcells m_there m_used m_hidden m_kind m_figure m_cargo m_load llen m_ships m_inn m_coughs m_day)) C hs (c_X3_twoDigits e_6) tw_504 tw_506 tw_14 tw_20 tw_507 nq_X3_twoDigits (by decide) 0 3 rfl rfl rfl rfl hl.1 rfl (Nat.le_of_ble_eq_true rfl) (dk hX3_isAsItMustBe_1 27 rfl) ⟨Nat.zero_le _, Nat.zero_le _⟩ rfl (fun H locs hs => ?_)
    refine lv_iconst (v := (1 : Int32)) hx hb (dk hX3_isAsItMustBe_1 28 rfl) (by decide) ?_
    refine lv_bipush (v := (60 : Int32)) hx hb (dk hX3_isAsItMustBe_1 29 rfl) (by decide) ?_
    refine lv_sipush (v := (999 : Int32)) hx hb (dk hX3_isAsItMustBe_1 30 rfl) (by decide) ?_
    refine lv_aload_n hx hb (dk hX3_isAsItMustBe_1 31 rfl) rfl (lv_at hl 2 rfl) ?_
    refine rg ui0 rfl C hs 3 rfl 10 (by decide) tw_64 rfl rfl (dk hX3_isAsItMustBe_1 32 rfl) ?_
    refine lv_isub hx hb (dk hX3_isAsItMustBe_1 33 rfl) ?_
    refine va_mmin hx hb (hml.trans hl.1.symm) hown (hts _ tw_511) (hts _ tw_287) (hts _ tw_22) (hts _ tw_288) (by decide) (Nat.le_of_ble_eq_true rfl) (Nat.zero_le _) (Nat.zero_le _) (dk hX3_isAsItMustBe_1 34 rfl) ?_
    obtain ⟨u_7, e_8, hf⟩ := Option.bind_eq_some_iff.mp hf
    refine Ct.SN (As := [.int u_5, .int (1 : Int32), .int (mmin (60 : Int32) ((999 : Int32) - m_day))]) (rest := []) (st1 := [.int u_7]) (w1 := (wX G adb ade adm lcells m_there m_used m_hidden m_kind m_figure m_cargo m_load llen m_ships m_inn m_coughs m_day)) (host := RX4) C hs (c_X4_misfit e_8) hK.2.2.2.1 tw_225 tw_17 tw_226 nq_X4_misfit (by decide) rfl hl.1 rfl (Nat.le_of_ble_eq_true rfl) (dk hX3_isAsItMustBe_1 35 rfl) ⟨Nat.zero_le _, Nat.zero_le _⟩ rfl (fun H locs hs => ?_)
    refine lv_if_ne (tgt := 229) hx hb (dk hX3_isAsItMustBe_1 36 rfl) (by decide) (fun hc => ?_) (fun hc => ?_)
    · replace hf := in_ hf hc
      refine lv_iconst (v := (0 : Int32)) hx hb (dk hX3_isAsItMustBe_1 39 rfl) (by decide) ?_
      cases hf
      exact rz (x := (0 : Int32)) rfl C hs (dk hX3_isAsItMustBe_2 0 rfl)
    · replace hf := ip hf hc
      refine lv_iconst (v := (1 : Int32)) hx hb (dk hX3_isAsItMustBe_1 37 rfl) (by decide) ?_
      refine lv_goto (tgt := 230) hx hb (dk hX3_isAsItMustBe_1 38 rfl) (by decide) ?_
      cases hf
      exact rz (x := (1 : Int32)) rfl C hs (dk hX3_isAsItMustBe_2 0 rfl)
  · replace hf := in_ hf hc_9
    by_cases hc_16 : u_3 = (104 : Int32)
    · replace hf := ip hf hc_16
      refine rts (tgt := 148) (off := 132) hx hb (dk hX3_isAsItMustBe_0 10 rfl) hc_16 (by decide) (by decide) (by decide) (by decide) ?_
      refine lv_iload_n hx hb (dk hX3_isAsItMustBe_0 35 rfl) rfl (lv_at hl 0 rfl) ?_
      obtain ⟨u_10, e_11, hf⟩ := Option.bind_eq_some_iff.mp hf
      refine Ct.SN (As := [.int u_1]) (rest := []) (st1 := [.int u_10]) (w1 := (wX G adb ade adm lcells m_there m_used m_hidden m_kind m_figure m_cargo m_load llen m_ships m_inn m_coughs m_day)) (host := RX4) C hs (c_X4_isGood e_11) hK.2.2.1 tw_164 tw_17 tw_165 nq_X4_isGood (by decide) rfl hl.1 rfl (Nat.le_of_ble_eq_true rfl) (dk hX3_isAsItMustBe_0 36 rfl) ⟨Nat.zero_le _, Nat.zero_le _⟩ rfl (fun H locs hs => ?_)
      refine lv_if_eq (tgt := 174) hx hb (dk hX3_isAsItMustBe_0 37 rfl) (by decide) (fun hc => ?_) (fun hc => ?_)
      · replace hf := ip hf hc
        refine lv_iconst (v := (0 : Int32)) hx hb (dk hX3_isAsItMustBe_1 9 rfl) (by decide) ?_
        cases hf
        exact rz (x := (0 : Int32)) rfl C hs (dk hX3_isAsItMustBe_1 10 rfl)
      · replace hf := in_ hf hc
        refine lv_aload_n hx hb (dk hX3_isAsItMustBe_0 38 rfl) rfl (lv_at hl 2 rfl) ?_
        refine lv_iload_n hx hb (dk hX3_isAsItMustBe_0 39 rfl) rfl (lv_at hl 0 rfl) ?_
        refine lv_aload_n hx hb (dk hX3_isAsItMustBe_1 0 rfl) rfl (lv_at hl 1 rfl) ?_
        refine lv_iload_n hx hb (dk hX3_isAsItMustBe_1 1 rfl) rfl (lv_at hl 3 rfl) ?_
        refine lv_iconst (v := (2 : Int32)) hx hb (dk hX3_isAsItMustBe_1 2 rfl) (by decide) ?_
        refine lv_iadd hx hb (dk hX3_isAsItMustBe_1 3 rfl) ?_
        obtain ⟨u_12, e_13, hf⟩ := Option.bind_eq_some_iff.mp hf
        refine Ct.V (As := [.int (p1 + (2 : Int32))]) (rest := [.int u_1, .ref (adm 0)]) (st1 := [.int u_12, .int u_1, .ref (adm 0)]) (w1 := (wX G adb ade adm lcells m_there m_used m_hidden m_kind m_figure m_cargo m_load llen m_ships m_inn m_coughs m_day)) C hs (c_X3_twoDigits e_13) tw_504 tw_506 tw_14 tw_20 tw_507 nq_X3_twoDigits (by decide) 0 3 rfl rfl rfl rfl hl.1 rfl (Nat.le_of_ble_eq_true rfl) (dk hX3_isAsItMustBe_1 4 rfl) ⟨Nat.zero_le _, Nat.zero_le _⟩ rfl (fun H locs hs => ?_)
        obtain ⟨u_14, e_15, hf⟩ := Option.bind_eq_some_iff.mp hf
        refine Ct.V (As := [.int u_1, .int u_12]) (rest := []) (st1 := [.int u_14]) (w1 := (wX G adb ade adm lcells m_there m_used m_hidden m_kind m_figure m_cargo m_load llen m_ships m_inn m_coughs m_day)) C hs (c_X0_canHide__X e_15) tw_508 tw_233 tw_234 tw_18 tw_235 nq_X0_canHide (by decide) 3 0 rfl rfl rfl rfl hl.1 rfl (Nat.le_of_ble_eq_true rfl) (dk hX3_isAsItMustBe_1 5 rfl) ⟨Nat.zero_le _, Nat.zero_le _⟩ rfl (fun H locs hs => ?_)
        refine lv_if_eq (tgt := 174) hx hb (dk hX3_isAsItMustBe_1 6 rfl) (by decide) (fun hc => ?_) (fun hc => ?_)
        · replace hf := ip hf hc
          refine lv_iconst (v := (0 : Int32)) hx hb (dk hX3_isAsItMustBe_1 9 rfl) (by decide) ?_
          cases hf
          exact rz (x := (0 : Int32)) rfl C hs (dk hX3_isAsItMustBe_1 10 rfl)
        · replace hf := in_ hf hc
          refine lv_iconst (v := (1 : Int32)) hx hb (dk hX3_isAsItMustBe_1 7 rfl) (by decide) ?_
          refine lv_goto (tgt := 175) hx hb (dk hX3_isAsItMustBe_1 8 rfl) (by decide) ?_
          cases hf
          exact rz (x := (1 : Int32)) rfl C hs (dk hX3_isAsItMustBe_1 10 rfl)
    · replace hf := in_ hf hc_16
      by_cases hc_21 : u_3 = (111 : Int32)
      · replace hf := ip hf hc_21
        refine rts (tgt := 176) (off := 160) hx hb (dk hX3_isAsItMustBe_0 10 rfl) hc_21 (by decide) (by decide) (by decide) (by decide) ?_
        refine lv_aload_n hx hb (dk hX3_isAsItMustBe_1 11 rfl) rfl (lv_at hl 2 rfl) ?_
        refine lv_iload_n hx hb (dk hX3_isAsItMustBe_1 12 rfl) rfl (lv_at hl 0 rfl) ?_
        obtain ⟨u_17, e_18, hf⟩ := Option.bind_eq_some_iff.mp hf
        refine Ct.V (As := [.int u_1]) (rest := []) (st1 := [.int u_17]) (w1 := (wX G adb ade adm lcells m_there m_used m_hidden m_kind m_figure m_cargo m_load llen m_ships m_inn m_coughs m_day)) C hs (c_X0_isShip__X e_18) tw_509 tw_179 tw_180 tw_18 tw_181 nq_X0_isShip (by decide) 3 0 rfl rfl rfl rfl hl.1 rfl (Nat.le_of_ble_eq_true rfl) (dk hX3_isAsItMustBe_1 13 rfl) ⟨Nat.zero_le _, Nat.zero_le _⟩ rfl (fun H locs hs => ?_)
        refine lv_if_eq (tgt := 196) hx hb (dk hX3_isAsItMustBe_1 14 rfl) (by decide) (fun hc => ?_) (fun hc => ?_)
        · replace hf := ip hf hc
          refine lv_iconst (v := (0 : Int32)) hx hb (dk hX3_isAsItMustBe_1 21 rfl) (by decide) ?_
          cases hf
          exact rz (x := (0 : Int32)) rfl C hs (dk hX3_isAsItMustBe_1 22 rfl)
        · replace hf := in_ hf hc
          refine lv_aload_n hx hb (dk hX3_isAsItMustBe_1 15 rfl) rfl (lv_at hl 2 rfl) ?_
          refine lv_iload_n hx hb (dk hX3_isAsItMustBe_1 16 rfl) rfl (lv_at hl 0 rfl) ?_
          obtain ⟨u_19, e_20, hf⟩ := Option.bind_eq_some_iff.mp hf
          refine Ct.V (As := [.int u_1]) (rest := []) (st1 := [.int u_19]) (w1 := (wX G adb ade adm lcells m_there m_used m_hidden m_kind m_figure m_cargo m_load llen m_ships m_inn m_coughs m_day)) C hs (c_X0_isIn__X e_20) tw_510 tw_183 tw_184 tw_18 tw_185 nq_X0_isIn (by decide) 3 0 rfl rfl rfl rfl hl.1 rfl (Nat.le_of_ble_eq_true rfl) (dk hX3_isAsItMustBe_1 17 rfl) ⟨Nat.zero_le _, Nat.zero_le _⟩ rfl (fun H locs hs => ?_)
          refine lv_if_eq (tgt := 196) hx hb (dk hX3_isAsItMustBe_1 18 rfl) (by decide) (fun hc => ?_) (fun hc => ?_)
          · replace hf := ip hf hc
            refine lv_iconst (v := (0 : Int32)) hx hb (dk hX3_isAsItMustBe_1 21 rfl) (by decide) ?_
            cases hf
            exact rz (x := (0 : Int32)) rfl C hs (dk hX3_isAsItMustBe_1 22 rfl)
          · replace hf := in_ hf hc
            refine lv_iconst (v := (1 : Int32)) hx hb (dk hX3_isAsItMustBe_1 19 rfl) (by decide) ?_
            refine lv_goto (tgt := 197) hx hb (dk hX3_isAsItMustBe_1 20 rfl) (by decide) ?_
            cases hf
            exact rz (x := (1 : Int32)) rfl C hs (dk hX3_isAsItMustBe_1 22 rfl)
      · replace hf := in_ hf hc_21
        by_cases hc_26 : u_3 = (115 : Int32)
        · replace hf := ip hf hc_26
          refine rts (tgt := 104) (off := 88) hx hb (dk hX3_isAsItMustBe_0 10 rfl) hc_26 (by decide) (by decide) (by decide) (by decide) ?_
          refine lv_iload_n hx hb (dk hX3_isAsItMustBe_0 11 rfl) rfl (lv_at hl 0 rfl) ?_
          refine lv_bipush (v := (6 : Int32)) hx hb (dk hX3_isAsItMustBe_0 12 rfl) (by decide) ?_
          refine lv_icmp_ge (tgt := 136) hx hb (dk hX3_isAsItMustBe_0 13 rfl) (by decide) (fun hc => ?_) (fun hc => ?_)
          · replace hf := ip hf hc
            refine lv_iconst (v := (0 : Int32)) hx hb (dk hX3_isAsItMustBe_0 27 rfl) (by decide) ?_
            cases hf
            exact rz (x := (0 : Int32)) rfl C hs (dk hX3_isAsItMustBe_0 28 rfl)
          · replace hf := in_ hf hc
            refine lv_aload_n hx hb (dk hX3_isAsItMustBe_0 14 rfl) rfl (lv_at hl 1 rfl) ?_
            refine lv_iload_n hx hb (dk hX3_isAsItMustBe_0 15 rfl) rfl (lv_at hl 3 rfl) ?_
            refine lv_iconst (v := (3 : Int32)) hx hb (dk hX3_isAsItMustBe_0 16 rfl) (by decide) ?_
            refine lv_iadd hx hb (dk hX3_isAsItMustBe_0 17 rfl) ?_
            obtain ⟨u_22, e_23, hf⟩ := Option.bind_eq_some_iff.mp hf
            refine Ct.V (As := [.int (p1 + (3 : Int32))]) (rest := []) (st1 := [.int u_22]) (w1 := (wX G adb ade adm lcells m_there m_used m_hidden m_kind m_figure m_cargo m_load llen m_ships m_inn m_coughs m_day)) C hs (c_X3_digit e_23) tw_495 tw_497 tw_12 tw_20 tw_498 nq_X3_digit (by decide) 0 3 rfl rfl rfl rfl hl.1 rfl (Nat.le_of_ble_eq_true rfl) (dk hX3_isAsItMustBe_0 18 rfl) ⟨Nat.zero_le _, Nat.zero_le _⟩ rfl (fun H locs hs => ?_)
            obtain ⟨u_24, e_25, hf⟩ := Option.bind_eq_some_iff.mp hf
            refine Ct.SN (As := [.int u_22]) (rest := []) (st1 := [.int u_24]) (w1 := (wX G adb ade adm lcells m_there m_used m_hidden m_kind m_figure m_cargo m_load llen m_ships m_inn m_coughs m_day)) (host := RX4) C hs (c_X4_isGood e_25) hK.2.2.1 tw_164 tw_17 tw_165 nq_X4_isGood (by decide) rfl hl.1 rfl (Nat.le_of_ble_eq_true rfl) (dk hX3_isAsItMustBe_0 19 rfl) ⟨Nat.zero_le _, Nat.zero_le _⟩ rfl (fun H locs hs => ?_)
            refine lv_if_eq (tgt := 136) hx hb (dk hX3_isAsItMustBe_0 20 rfl) (by decide) (fun hc => ?_) (fun hc => ?_)
            · replace hf := ip hf hc
              refine lv_iconst (v := (0 : Int32)) hx hb (dk hX3_isAsItMustBe_0 27 rfl) (by decide) ?_
              cases hf
              exact rz (x := (0 : Int32)) rfl C hs (dk hX3_isAsItMustBe_0 28 rfl)
            · replace hf := in_ hf hc
              refine lv_aload_n hx hb (dk hX3_isAsItMustBe_0 21 rfl) rfl (lv_at hl 2 rfl) ?_
              refine rg ui0 rfl C hs 3 rfl 7 (by decide) tw_55 rfl rfl (dk hX3_isAsItMustBe_0 22 rfl) ?_
              refine lv_bipush (v := (7 : Int32)) hx hb (dk hX3_isAsItMustBe_0 23 rfl) (by decide) ?_
              refine lv_icmp_ge (tgt := 136) hx hb (dk hX3_isAsItMustBe_0 24 rfl) (by decide) (fun hc => ?_) (fun hc => ?_)
              · replace hf := ip hf hc
                refine lv_iconst (v := (0 : Int32)) hx hb (dk hX3_isAsItMustBe_0 27 rfl) (by decide) ?_
                cases hf
                exact rz (x := (0 : Int32)) rfl C hs (dk hX3_isAsItMustBe_0 28 rfl)
              · replace hf := in_ hf hc
                refine lv_iconst (v := (1 : Int32)) hx hb (dk hX3_isAsItMustBe_0 25 rfl) (by decide) ?_
                refine lv_goto (tgt := 137) hx hb (dk hX3_isAsItMustBe_0 26 rfl) (by decide) ?_
                cases hf
                exact rz (x := (1 : Int32)) rfl C hs (dk hX3_isAsItMustBe_0 28 rfl)
        · replace hf := in_ hf hc_26
          by_cases hc_31 : u_3 = (116 : Int32)
          · replace hf := ip hf hc_31
            refine rts (tgt := 138) (off := 122) hx hb (dk hX3_isAsItMustBe_0 10 rfl) hc_31 (by decide) (by decide) (by decide) (by decide) ?_
            refine lv_iload_n hx hb (dk hX3_isAsItMustBe_0 29 rfl) rfl (lv_at hl 0 rfl) ?_
            obtain ⟨u_27, e_28, hf⟩ := Option.bind_eq_some_iff.mp hf
            refine Ct.SN (As := [.int u_1]) (rest := []) (st1 := [.int u_27]) (w1 := (wX G adb ade adm lcells m_there m_used m_hidden m_kind m_figure m_cargo m_load llen m_ships m_inn m_coughs m_day)) (host := RX4) C hs (c_X4_isGood e_28) hK.2.2.1 tw_164 tw_17 tw_165 nq_X4_isGood (by decide) rfl hl.1 rfl (Nat.le_of_ble_eq_true rfl) (dk hX3_isAsItMustBe_0 30 rfl) ⟨Nat.zero_le _, Nat.zero_le _⟩ rfl (fun H locs hs => ?_)
            obtain ⟨b_29, hz_30, hf⟩ := Option.bind_eq_some_iff.mp hf
            obtain ⟨hxe, hz⟩ := c01_z hz_30
            replace hxe := hxe.symm
            subst hxe
            cases hf
            exact rz hz C hs (dk hX3_isAsItMustBe_0 31 rfl)
          · replace hf := in_ hf hc_31
            by_cases hc_36 : u_3 = (117 : Int32)
            · replace hf := ip hf hc_36
              refine rts (tgt := 143) (off := 127) hx hb (dk hX3_isAsItMustBe_0 10 rfl) hc_36 (by decide) (by decide) (by decide) (by decide) ?_
              refine lv_iload_n hx hb (dk hX3_isAsItMustBe_0 32 rfl) rfl (lv_at hl 0 rfl) ?_
              obtain ⟨u_32, e_33, hf⟩ := Option.bind_eq_some_iff.mp hf
              refine Ct.SN (As := [.int u_1]) (rest := []) (st1 := [.int u_32]) (w1 := (wX G adb ade adm lcells m_there m_used m_hidden m_kind m_figure m_cargo m_load llen m_ships m_inn m_coughs m_day)) (host := RX4) C hs (c_X4_isGood e_33) hK.2.2.1 tw_164 tw_17 tw_165 nq_X4_isGood (by decide) rfl hl.1 rfl (Nat.le_of_ble_eq_true rfl) (dk hX3_isAsItMustBe_0 33 rfl) ⟨Nat.zero_le _, Nat.zero_le _⟩ rfl (fun H locs hs => ?_)
              obtain ⟨b_34, hz_35, hf⟩ := Option.bind_eq_some_iff.mp hf
              obtain ⟨hxe, hz⟩ := c01_z hz_35
              replace hxe := hxe.symm
              subst hxe
              cases hf
              exact rz hz C hs (dk hX3_isAsItMustBe_0 34 rfl)
            · replace hf := in_ hf hc_36
              refine rtd (tgt := 231) hx hb (dk hX3_isAsItMustBe_0 10 rfl) [0, 4, 11, 15, 16, 17] (by decide) (by decide) (List.forall_mem_cons.mpr ⟨ti hc_9 (by decide), List.forall_mem_cons.mpr ⟨ti hc_16 (by decide), List.forall_mem_cons.mpr ⟨ti hc_21 (by decide), List.forall_mem_cons.mpr ⟨ti hc_26 (by decide), List.forall_mem_cons.mpr ⟨ti hc_31 (by decide), List.forall_mem_cons.mpr ⟨ti hc_36 (by decide), fun _ h => absurd h List.not_mem_nil⟩⟩⟩⟩⟩⟩) (by decide) ?_
              refine lv_iconst (v := (1 : Int32)) hx hb (dk hX3_isAsItMustBe_2 1 rfl) (by decide) ?_
              cases hf
              exact rz (x := (1 : Int32)) rfl C hs (dk hX3_isAsItMustBe_2 2 rfl)

def X3_carryOut (lcells : List Int32) (m_there : List Int32) (m_used : List Int32) (m_hidden : List Int32) (m_kind : List Int32) (m_figure : List Int32) (m_cargo : List Int32) (m_load : List Int32) (llen : Int32) (m_ships : Int32) (m_inn : Int32) (m_coughs : Int32) (m_day : Int32) (p1 : Int32) : Option (List Int32 × List Int32 × List Int32 × List Int32 × List Int32 × List Int32 × List Int32 × Int32 × Int32 × Int32 × Int32) :=
  (X3_digit lcells llen (p1 + (1 : Int32))).bind fun u_1 =>
  (X1_at lcells llen p1).bind fun u_3 =>
  if u_3 = (99 : Int32) then
  (X3_twoDigits lcells llen (p1 + (1 : Int32))).bind fun u_5 =>
  some (m_there, m_used, m_hidden, m_kind, m_figure, m_cargo, m_load, m_ships, m_inn, u_5, m_day)
  else
  if u_3 = (100 : Int32) then
  (X3_twoDigits lcells llen (p1 + (1 : Int32))).bind fun u_8 =>
  (X0_passDays m_there m_used m_hidden m_kind m_figure m_cargo m_load m_ships m_inn m_coughs m_day u_8).bind fun u_10 =>
  some (u_10.1, m_used, m_hidden, m_kind, m_figure, m_cargo, m_load, m_ships, u_10.2.1, u_10.2.2.1, u_10.2.2.2)
  else
  if u_3 = (104 : Int32) then
  (X3_twoDigits lcells llen (p1 + (2 : Int32))).bind fun u_13 =>
  (X0_hideAway m_there m_hidden u_1 u_13).bind fun u_15 =>
  some (u_15.1, m_used, u_15.2, m_kind, m_figure, m_cargo, m_load, m_ships, m_inn, m_coughs, m_day)
  else
  if u_3 = (111 : Int32) then
  (X0_sendOut m_inn u_1).bind fun u_18 =>
  some (m_there, m_used, m_hidden, m_kind, m_figure, m_cargo, m_load, m_ships, u_18, m_coughs, m_day)
  else
  if u_3 = (115 : Int32) then
  (X3_digit lcells llen (p1 + (2 : Int32))).bind fun u_21 =>
  (X3_digit lcells llen (p1 + (3 : Int32))).bind fun u_23 =>
  (X3_twoDigits lcells llen (p1 + (4 : Int32))).bind fun u_25 =>
  (X0_addShip m_kind m_figure m_cargo m_load m_ships m_inn u_1 u_21 u_23 u_25).bind fun u_27 =>
  some (m_there, m_used, m_hidden, u_27.1, u_27.2.1, u_27.2.2.1, u_27.2.2.2.1, u_27.2.2.2.2.1, u_27.2.2.2.2.2, m_coughs, m_day)
  else
  if u_3 = (116 : Int32) then
  (X3_twoDigits lcells llen (p1 + (2 : Int32))).bind fun u_30 =>
  (wr m_there u_1 u_30).bind fun m_there_32 =>
  some (m_there_32, m_used, m_hidden, m_kind, m_figure, m_cargo, m_load, m_ships, m_inn, m_coughs, m_day)
  else
  if u_3 = (117 : Int32) then
  (X3_digit lcells llen (p1 + (2 : Int32))).bind fun u_35 =>
  (wr m_used u_1 u_35).bind fun m_used_37 =>
  some (m_there, m_used_37, m_hidden, m_kind, m_figure, m_cargo, m_load, m_ships, m_inn, m_coughs, m_day)
  else
  some (m_there, m_used, m_hidden, m_kind, m_figure, m_cargo, m_load, m_ships, m_inn, m_coughs, m_day)
set_option maxRecDepth 100000 in
set_option maxHeartbeats 4000000 in
theorem c_X3_carryOut {l : Launch} {G : Gx} {adb ade adm : Nat → Nat} {lcells m_there m_used m_hidden m_kind m_figure m_cargo m_load : List Int32} {llen m_ships m_inn m_coughs m_day : Int32} {p1 : Int32} {out : List Int32 × List Int32 × List Int32 × List Int32 × List Int32 × List Int32 × List Int32 × Int32 × Int32 × Int32 × Int32} (hf : X3_carryOut lcells m_there m_used m_hidden m_kind m_figure m_cargo m_load llen m_ships m_inn m_coughs m_day p1 = some out) : Ct l G yX3_carryOut cX3_carryOut 4 (none) 5 111 [.ref (adb 0), .ref (adm 0), .int p1] (wX G adb ade adm lcells m_there m_used m_hidden m_kind m_figure m_cargo m_load llen m_ships m_inn m_coughs m_day) (none) (wX G adb ade adm lcells out.1 out.2.1 out.2.2.1 out.2.2.2.1 out.2.2.2.2.1 out.2.2.2.2.2.1 out.2.2.2.2.2.2.1 llen out.2.2.2.2.2.2.2.1 out.2.2.2.2.2.2.2.2.1 out.2.2.2.2.2.2.2.2.2.1 out.2.2.2.2.2.2.2.2.2.2) := by
  refine Ct.intro RX3 rfl (plainFor_of_name (by decide)) (Nat.le_of_ble_eq_true rfl) rfl ?_
  intro p e s m args below meth c A C H locs hs ls hl
  obtain ⟨hx, hb, hml, hown, hts, hK, hret, hlk⟩ := id C
  have hl : lv_has ls 4 [(0, .ref (adb 0)), (1, .ref (adm 0)), (2, .int p1)] := hl
  unfold X3_carryOut at hf
  refine lv_aload_n hx hb (dk hX3_carryOut_0 0 rfl) rfl (lv_at hl 0 rfl) ?_
  refine lv_iload_n hx hb (dk hX3_carryOut_0 1 rfl) rfl (lv_at hl 2 rfl) ?_
  refine lv_iconst (v := (1 : Int32)) hx hb (dk hX3_carryOut_0 2 rfl) (by decide) ?_
  refine lv_iadd hx hb (dk hX3_carryOut_0 3 rfl) ?_
  obtain ⟨u_1, e_2, hf⟩ := Option.bind_eq_some_iff.mp hf
  refine Ct.V (As := [.int (p1 + (1 : Int32))]) (rest := []) (st1 := [.int u_1]) (w1 := (wX G adb ade adm lcells m_there m_used m_hidden m_kind m_figure m_cargo m_load llen m_ships m_inn m_coughs m_day)) C hs (c_X3_digit e_2) tw_495 tw_497 tw_12 tw_20 tw_498 nq_X3_digit (by decide) 0 3 rfl rfl rfl rfl hl.1 rfl (Nat.le_of_ble_eq_true rfl) (dk hX3_carryOut_0 4 rfl) ⟨Nat.zero_le _, Nat.zero_le _⟩ rfl (fun H locs hs => ?_)
  refine lv_istore_n (lv' := [(3, .int u_1), (0, .ref (adb 0)), (1, .ref (adm 0)), (2, .int p1)]) hx hb (dk hX3_carryOut_0 5 rfl) rfl hl (by decide) rfl (fun ls hl => ?_)
  refine lv_aload_n hx hb (dk hX3_carryOut_0 6 rfl) rfl (lv_at hl 1 rfl) ?_
  refine rg ui3 rfl C hs 0 rfl 0 (by decide) tw_127 rfl rfl (dk hX3_carryOut_0 7 rfl) ?_
  refine lv_iload_n hx hb (dk hX3_carryOut_0 8 rfl) rfl (lv_at hl 3 rfl) ?_
  obtain ⟨u_3, e_4, hf⟩ := Option.bind_eq_some_iff.mp hf
  refine Ct.V (As := [.int p1]) (rest := []) (st1 := [.int u_3]) (w1 := (wX G adb ade adm lcells m_there m_used m_hidden m_kind m_figure m_cargo m_load llen m_ships m_inn m_coughs m_day)) C hs (c_X1_at__X e_4) tw_488 tw_489 tw_490 tw_21 tw_491 nq_X1_at (by decide) 1 1 rfl rfl rfl rfl hl.1 rfl (Nat.le_of_ble_eq_true rfl) (dk hX3_carryOut_0 9 rfl) ⟨Nat.zero_le _, Nat.zero_le _⟩ rfl (fun H locs hs => ?_)
  by_cases hc_7 : u_3 = (99 : Int32)
  · replace hf := ip hf hc_7
    refine rts (tgt := 192) (off := 176) hx hb (dk hX3_carryOut_0 10 rfl) hc_7 (by decide) (by decide) (by decide) (by decide) ?_
    refine lv_aload_n hx hb (dk hX3_carryOut_1 23 rfl) rfl (lv_at hl 2 rfl) ?_
    refine lv_aload_n hx hb (dk hX3_carryOut_1 24 rfl) rfl (lv_at hl 1 rfl) ?_
    refine lv_iload_n hx hb (dk hX3_carryOut_1 25 rfl) rfl (lv_at hl 3 rfl) ?_
    refine lv_iconst (v := (1 : Int32)) hx hb (dk hX3_carryOut_1 26 rfl) (by decide) ?_
    refine lv_iadd hx hb (dk hX3_carryOut_1 27 rfl) ?_
    obtain ⟨u_5, e_6, hf⟩ := Option.bind_eq_some_iff.mp hf
    refine Ct.V (As := [.int (p1 + (1 : Int32))]) (rest := [.ref (adm 0)]) (st1 := [.int u_5, .ref (adm 0)]) (w1 := (wX G adb ade adm lcells m_there m_used m_hidden m_kind m_figure m_cargo m_load llen m_ships m_inn m_coughs m_day)) C hs (c_X3_twoDigits e_6) tw_504 tw_506 tw_14 tw_20 tw_507 nq_X3_twoDigits (by decide) 0 3 rfl rfl rfl rfl hl.1 rfl (Nat.le_of_ble_eq_true rfl) (dk hX3_carryOut_1 28 rfl) ⟨Nat.zero_le _, Nat.zero_le _⟩ rfl (fun H locs hs => ?_)
    refine rp (w1 := (wX G adb ade adm lcells m_there m_used m_hidden m_kind m_figure m_cargo m_load llen m_ships m_inn u_5 m_day)) tyX0 tyX0_ok nmX0 ui0 rfl C hs 3 rfl 9 (by decide) tw_60 rfl rfl rfl rfl (Nat.le_of_ble_eq_true rfl) rfl (dk hX3_carryOut_1 29 rfl) (fun H locs hs => ?_)
    refine lv_goto (tgt := 220) hx hb (dk hX3_carryOut_1 30 rfl) (by decide) ?_
    cases hf
    exact rv C hs (dk hX3_carryOut_1 39 rfl)
  · replace hf := in_ hf hc_7
    by_cases hc_12 : u_3 = (100 : Int32)
    · replace hf := ip hf hc_12
      refine rts (tgt := 206) (off := 190) hx hb (dk hX3_carryOut_0 10 rfl) hc_12 (by decide) (by decide) (by decide) (by decide) ?_
      refine lv_aload_n hx hb (dk hX3_carryOut_1 31 rfl) rfl (lv_at hl 2 rfl) ?_
      refine lv_aload_n hx hb (dk hX3_carryOut_1 32 rfl) rfl (lv_at hl 1 rfl) ?_
      refine lv_iload_n hx hb (dk hX3_carryOut_1 33 rfl) rfl (lv_at hl 3 rfl) ?_
      refine lv_iconst (v := (1 : Int32)) hx hb (dk hX3_carryOut_1 34 rfl) (by decide) ?_
      refine lv_iadd hx hb (dk hX3_carryOut_1 35 rfl) ?_
      obtain ⟨u_8, e_9, hf⟩ := Option.bind_eq_some_iff.mp hf
      refine Ct.V (As := [.int (p1 + (1 : Int32))]) (rest := [.ref (adm 0)]) (st1 := [.int u_8, .ref (adm 0)]) (w1 := (wX G adb ade adm lcells m_there m_used m_hidden m_kind m_figure m_cargo m_load llen m_ships m_inn m_coughs m_day)) C hs (c_X3_twoDigits e_9) tw_504 tw_506 tw_14 tw_20 tw_507 nq_X3_twoDigits (by decide) 0 3 rfl rfl rfl rfl hl.1 rfl (Nat.le_of_ble_eq_true rfl) (dk hX3_carryOut_1 36 rfl) ⟨Nat.zero_le _, Nat.zero_le _⟩ rfl (fun H locs hs => ?_)
      obtain ⟨u_10, e_11, hf⟩ := Option.bind_eq_some_iff.mp hf
      refine Ct.V (As := [.int u_8]) (rest := []) (st1 := []) (w1 := (wX G adb ade adm lcells u_10.1 m_used m_hidden m_kind m_figure m_cargo m_load llen m_ships u_10.2.1 u_10.2.2.1 u_10.2.2.2)) C hs (c_X0_passDays__X e_11) tw_524 tw_269 tw_270 tw_18 tw_271 nq_X0_passDays (by decide) 3 0 rfl rfl rfl rfl hl.1 rfl (Nat.le_of_ble_eq_true rfl) (dk hX3_carryOut_1 37 rfl) ⟨Nat.zero_le _, Nat.zero_le _⟩ rfl (fun H locs hs => ?_)
      refine lv_goto (tgt := 220) hx hb (dk hX3_carryOut_1 38 rfl) (by decide) ?_
      cases hf
      exact rv C hs (dk hX3_carryOut_1 39 rfl)
    · replace hf := in_ hf hc_12
      by_cases hc_17 : u_3 = (104 : Int32)
      · replace hf := ip hf hc_17
        refine rts (tgt := 169) (off := 153) hx hb (dk hX3_carryOut_0 10 rfl) hc_17 (by decide) (by decide) (by decide) (by decide) ?_
        refine lv_aload_n hx hb (dk hX3_carryOut_1 10 rfl) rfl (lv_at hl 2 rfl) ?_
        refine lv_iload_n hx hb (dk hX3_carryOut_1 11 rfl) rfl (lv_at hl 0 rfl) ?_
        refine lv_aload_n hx hb (dk hX3_carryOut_1 12 rfl) rfl (lv_at hl 1 rfl) ?_
        refine lv_iload_n hx hb (dk hX3_carryOut_1 13 rfl) rfl (lv_at hl 3 rfl) ?_
        refine lv_iconst (v := (2 : Int32)) hx hb (dk hX3_carryOut_1 14 rfl) (by decide) ?_
        refine lv_iadd hx hb (dk hX3_carryOut_1 15 rfl) ?_
        obtain ⟨u_13, e_14, hf⟩ := Option.bind_eq_some_iff.mp hf
        refine Ct.V (As := [.int (p1 + (2 : Int32))]) (rest := [.int u_1, .ref (adm 0)]) (st1 := [.int u_13, .int u_1, .ref (adm 0)]) (w1 := (wX G adb ade adm lcells m_there m_used m_hidden m_kind m_figure m_cargo m_load llen m_ships m_inn m_coughs m_day)) C hs (c_X3_twoDigits e_14) tw_504 tw_506 tw_14 tw_20 tw_507 nq_X3_twoDigits (by decide) 0 3 rfl rfl rfl rfl hl.1 rfl (Nat.le_of_ble_eq_true rfl) (dk hX3_carryOut_1 16 rfl) ⟨Nat.zero_le _, Nat.zero_le _⟩ rfl (fun H locs hs => ?_)
        obtain ⟨u_15, e_16, hf⟩ := Option.bind_eq_some_iff.mp hf
        refine Ct.V (As := [.int u_1, .int u_13]) (rest := []) (st1 := []) (w1 := (wX G adb ade adm lcells u_15.1 m_used u_15.2 m_kind m_figure m_cargo m_load llen m_ships m_inn m_coughs m_day)) C hs (c_X0_hideAway__X e_16) tw_522 tw_253 tw_254 tw_18 tw_255 nq_X0_hideAway (by decide) 3 0 rfl rfl rfl rfl hl.1 rfl (Nat.le_of_ble_eq_true rfl) (dk hX3_carryOut_1 17 rfl) ⟨Nat.zero_le _, Nat.zero_le _⟩ rfl (fun H locs hs => ?_)
        refine lv_goto (tgt := 220) hx hb (dk hX3_carryOut_1 18 rfl) (by decide) ?_
        cases hf
        exact rv C hs (dk hX3_carryOut_1 39 rfl)
      · replace hf := in_ hf hc_17
        by_cases hc_20 : u_3 = (111 : Int32)
        · replace hf := ip hf hc_20
          refine rts (tgt := 184) (off := 168) hx hb (dk hX3_carryOut_0 10 rfl) hc_20 (by decide) (by decide) (by decide) (by decide) ?_
          refine lv_aload_n hx hb (dk hX3_carryOut_1 19 rfl) rfl (lv_at hl 2 rfl) ?_
          refine lv_iload_n hx hb (dk hX3_carryOut_1 20 rfl) rfl (lv_at hl 0 rfl) ?_
          obtain ⟨u_18, e_19, hf⟩ := Option.bind_eq_some_iff.mp hf
          refine Ct.V (As := [.int u_1]) (rest := []) (st1 := []) (w1 := (wX G adb ade adm lcells m_there m_used m_hidden m_kind m_figure m_cargo m_load llen m_ships u_18 m_coughs m_day)) C hs (c_X0_sendOut__X e_19) tw_523 tw_261 tw_262 tw_18 tw_263 nq_X0_sendOut (by decide) 3 0 rfl rfl rfl rfl hl.1 rfl (Nat.le_of_ble_eq_true rfl) (dk hX3_carryOut_1 21 rfl) ⟨Nat.zero_le _, Nat.zero_le _⟩ rfl (fun H locs hs => ?_)
          refine lv_goto (tgt := 220) hx hb (dk hX3_carryOut_1 22 rfl) (by decide) ?_
          cases hf
          exact rv C hs (dk hX3_carryOut_1 39 rfl)
        · replace hf := in_ hf hc_20
          by_cases hc_29 : u_3 = (115 : Int32)
          · replace hf := ip hf hc_29
            refine rts (tgt := 108) (off := 92) hx hb (dk hX3_carryOut_0 10 rfl) hc_29 (by decide) (by decide) (by decide) (by decide) ?_
            refine lv_aload_n hx hb (dk hX3_carryOut_0 11 rfl) rfl (lv_at hl 2 rfl) ?_
            refine lv_iload_n hx hb (dk hX3_carryOut_0 12 rfl) rfl (lv_at hl 0 rfl) ?_
            refine lv_aload_n hx hb (dk hX3_carryOut_0 13 rfl) rfl (lv_at hl 1 rfl) ?_
            refine lv_iload_n hx hb (dk hX3_carryOut_0 14 rfl) rfl (lv_at hl 3 rfl) ?_
            refine lv_iconst (v := (2 : Int32)) hx hb (dk hX3_carryOut_0 15 rfl) (by decide) ?_
            refine lv_iadd hx hb (dk hX3_carryOut_0 16 rfl) ?_
            obtain ⟨u_21, e_22, hf⟩ := Option.bind_eq_some_iff.mp hf
            refine Ct.V (As := [.int (p1 + (2 : Int32))]) (rest := [.int u_1, .ref (adm 0)]) (st1 := [.int u_21, .int u_1, .ref (adm 0)]) (w1 := (wX G adb ade adm lcells m_there m_used m_hidden m_kind m_figure m_cargo m_load llen m_ships m_inn m_coughs m_day)) C hs (c_X3_digit e_22) tw_495 tw_497 tw_12 tw_20 tw_498 nq_X3_digit (by decide) 0 3 rfl rfl rfl rfl hl.1 rfl (Nat.le_of_ble_eq_true rfl) (dk hX3_carryOut_0 17 rfl) ⟨Nat.zero_le _, Nat.zero_le _⟩ rfl (fun H locs hs => ?_)
            refine lv_aload_n hx hb (dk hX3_carryOut_0 18 rfl) rfl (lv_at hl 1 rfl) ?_
            refine lv_iload_n hx hb (dk hX3_carryOut_0 19 rfl) rfl (lv_at hl 3 rfl) ?_
            refine lv_iconst (v := (3 : Int32)) hx hb (dk hX3_carryOut_0 20 rfl) (by decide) ?_
            refine lv_iadd hx hb (dk hX3_carryOut_0 21 rfl) ?_
            obtain ⟨u_23, e_24, hf⟩ := Option.bind_eq_some_iff.mp hf
            refine Ct.V (As := [.int (p1 + (3 : Int32))]) (rest := [.int u_21, .int u_1, .ref (adm 0)]) (st1 := [.int u_23, .int u_21, .int u_1, .ref (adm 0)]) (w1 := (wX G adb ade adm lcells m_there m_used m_hidden m_kind m_figure m_cargo m_load llen m_ships m_inn m_coughs m_day)) C hs (c_X3_digit e_24) tw_495 tw_497 tw_12 tw_20 tw_498 nq_X3_digit (by decide) 0 3 rfl rfl rfl rfl hl.1 rfl (Nat.le_of_ble_eq_true rfl) (dk hX3_carryOut_0 22 rfl) ⟨Nat.zero_le _, Nat.zero_le _⟩ rfl (fun H locs hs => ?_)
            refine lv_aload_n hx hb (dk hX3_carryOut_0 23 rfl) rfl (lv_at hl 1 rfl) ?_
            refine lv_iload_n hx hb (dk hX3_carryOut_0 24 rfl) rfl (lv_at hl 3 rfl) ?_
            refine lv_iconst (v := (4 : Int32)) hx hb (dk hX3_carryOut_0 25 rfl) (by decide) ?_
            refine lv_iadd hx hb (dk hX3_carryOut_0 26 rfl) ?_
            obtain ⟨u_25, e_26, hf⟩ := Option.bind_eq_some_iff.mp hf
            refine Ct.V (As := [.int (p1 + (4 : Int32))]) (rest := [.int u_23, .int u_21, .int u_1, .ref (adm 0)]) (st1 := [.int u_25, .int u_23, .int u_21, .int u_1, .ref (adm 0)]) (w1 := (wX G adb ade adm lcells m_there m_used m_hidden m_kind m_figure m_cargo m_load llen m_ships m_inn m_coughs m_day)) C hs (c_X3_twoDigits e_26) tw_504 tw_506 tw_14 tw_20 tw_507 nq_X3_twoDigits (by decide) 0 3 rfl rfl rfl rfl hl.1 rfl (Nat.le_of_ble_eq_true rfl) (dk hX3_carryOut_0 27 rfl) ⟨Nat.zero_le _, Nat.zero_le _⟩ rfl (fun H locs hs => ?_)
            obtain ⟨u_27, e_28, hf⟩ := Option.bind_eq_some_iff.mp hf
            refine Ct.V (As := [.int u_1, .int u_21, .int u_23, .int u_25]) (rest := []) (st1 := []) (w1 := (wX G adb ade adm lcells m_there m_used m_hidden u_27.1 u_27.2.1 u_27.2.2.1 u_27.2.2.2.1 llen u_27.2.2.2.2.1 u_27.2.2.2.2.2 m_coughs m_day)) C hs (c_X0_addShip__X e_28) tw_517 tw_518 tw_519 tw_18 tw_520 nq_X0_addShip (by decide) 3 0 rfl rfl rfl rfl hl.1 rfl (Nat.le_of_ble_eq_true rfl) (dk hX3_carryOut_0 28 rfl) ⟨Nat.zero_le _, Nat.zero_le _⟩ rfl (fun H locs hs => ?_)
            refine lv_goto (tgt := 220) hx hb (dk hX3_carryOut_0 29 rfl) (by decide) ?_
            cases hf
            exact rv C hs (dk hX3_carryOut_1 39 rfl)
          · replace hf := in_ hf hc_29
            by_cases hc_34 : u_3 = (116 : Int32)
            · replace hf := ip hf hc_34
              refine rts (tgt := 137) (off := 121) hx hb (dk hX3_carryOut_0 10 rfl) hc_34 (by decide) (by decide) (by decide) (by decide) ?_
              refine lv_aload_n hx hb (dk hX3_carryOut_0 30 rfl) rfl (lv_at hl 2 rfl) ?_
              refine rg ui0 rfl C hs 3 rfl 0 (by decide) tw_40 rfl rfl (dk hX3_carryOut_0 31 rfl) ?_
              refine lv_iload_n hx hb (dk hX3_carryOut_0 32 rfl) rfl (lv_at hl 0 rfl) ?_
              refine lv_aload_n hx hb (dk hX3_carryOut_0 33 rfl) rfl (lv_at hl 1 rfl) ?_
              refine lv_iload_n hx hb (dk hX3_carryOut_0 34 rfl) rfl (lv_at hl 3 rfl) ?_
              refine lv_iconst (v := (2 : Int32)) hx hb (dk hX3_carryOut_0 35 rfl) (by decide) ?_
              refine lv_iadd hx hb (dk hX3_carryOut_0 36 rfl) ?_
              obtain ⟨u_30, e_31, hf⟩ := Option.bind_eq_some_iff.mp hf
              refine Ct.V (As := [.int (p1 + (2 : Int32))]) (rest := [.int u_1, .ref (adm 1)]) (st1 := [.int u_30, .int u_1, .ref (adm 1)]) (w1 := (wX G adb ade adm lcells m_there m_used m_hidden m_kind m_figure m_cargo m_load llen m_ships m_inn m_coughs m_day)) C hs (c_X3_twoDigits e_31) tw_504 tw_506 tw_14 tw_20 tw_507 nq_X3_twoDigits (by decide) 0 3 rfl rfl rfl rfl hl.1 rfl (Nat.le_of_ble_eq_true rfl) (dk hX3_carryOut_0 37 rfl) ⟨Nat.zero_le _, Nat.zero_le _⟩ rfl (fun H locs hs => ?_)
              obtain ⟨m_there_32, e_33, hf⟩ := Option.bind_eq_some_iff.mp hf
              refine rist (w1 := (wX G adb ade adm lcells m_there_32 m_used m_hidden m_kind m_figure m_cargo m_load llen m_ships m_inn m_coughs m_day)) C hs 4 rfl e_33 rfl (dk hX3_carryOut_0 38 rfl) (fun H locs hs => ?_)
              refine lv_goto (tgt := 220) hx hb (dk hX3_carryOut_0 39 rfl) (by decide) ?_
              cases hf
              exact rv C hs (dk hX3_carryOut_1 39 rfl)
            · replace hf := in_ hf hc_34
              by_cases hc_39 : u_3 = (117 : Int32)
              · replace hf := ip hf hc_39
                refine rts (tgt := 153) (off := 137) hx hb (dk hX3_carryOut_0 10 rfl) hc_39 (by decide) (by decide) (by decide) (by decide) ?_
                refine lv_aload_n hx hb (dk hX3_carryOut_1 0 rfl) rfl (lv_at hl 2 rfl) ?_
                refine rg ui0 rfl C hs 3 rfl 1 (by decide) tw_43 rfl rfl (dk hX3_carryOut_1 1 rfl) ?_
                refine lv_iload_n hx hb (dk hX3_carryOut_1 2 rfl) rfl (lv_at hl 0 rfl) ?_
                refine lv_aload_n hx hb (dk hX3_carryOut_1 3 rfl) rfl (lv_at hl 1 rfl) ?_
                refine lv_iload_n hx hb (dk hX3_carryOut_1 4 rfl) rfl (lv_at hl 3 rfl) ?_
                refine lv_iconst (v := (2 : Int32)) hx hb (dk hX3_carryOut_1 5 rfl) (by decide) ?_
                refine lv_iadd hx hb (dk hX3_carryOut_1 6 rfl) ?_
                obtain ⟨u_35, e_36, hf⟩ := Option.bind_eq_some_iff.mp hf
                refine Ct.V (As := [.int (p1 + (2 : Int32))]) (rest := [.int u_1, .ref (adm 2)]) (st1 := [.int u_35, .int u_1, .ref (adm 2)]) (w1 := (wX G adb ade adm lcells m_there m_used m_hidden m_kind m_figure m_cargo m_load llen m_ships m_inn m_coughs m_day)) C hs (c_X3_digit e_36) tw_495 tw_497 tw_12 tw_20 tw_498 nq_X3_digit (by decide) 0 3 rfl rfl rfl rfl hl.1 rfl (Nat.le_of_ble_eq_true rfl) (dk hX3_carryOut_1 7 rfl) ⟨Nat.zero_le _, Nat.zero_le _⟩ rfl (fun H locs hs => ?_)
                obtain ⟨m_used_37, e_38, hf⟩ := Option.bind_eq_some_iff.mp hf
                refine rist (w1 := (wX G adb ade adm lcells m_there m_used_37 m_hidden m_kind m_figure m_cargo m_load llen m_ships m_inn m_coughs m_day)) C hs 5 rfl e_38 rfl (dk hX3_carryOut_1 8 rfl) (fun H locs hs => ?_)
                refine lv_goto (tgt := 220) hx hb (dk hX3_carryOut_1 9 rfl) (by decide) ?_
                cases hf
                exact rv C hs (dk hX3_carryOut_1 39 rfl)
              · replace hf := in_ hf hc_39
                refine rtd (tgt := 220) hx hb (dk hX3_carryOut_0 10 rfl) [0, 1, 5, 12, 16, 17, 18] (by decide) (by decide) (List.forall_mem_cons.mpr ⟨ti hc_7 (by decide), List.forall_mem_cons.mpr ⟨ti hc_12 (by decide), List.forall_mem_cons.mpr ⟨ti hc_17 (by decide), List.forall_mem_cons.mpr ⟨ti hc_20 (by decide), List.forall_mem_cons.mpr ⟨ti hc_29 (by decide), List.forall_mem_cons.mpr ⟨ti hc_34 (by decide), List.forall_mem_cons.mpr ⟨ti hc_39 (by decide), fun _ h => absurd h List.not_mem_nil⟩⟩⟩⟩⟩⟩⟩) (by decide) ?_
                cases hf
                exact rv C hs (dk hX3_carryOut_1 39 rfl)

def X3_tell_L20 (k : Int32 → List Int32 → List Int32 → List Int32 → List Int32 → List Int32 → List Int32 → List Int32 → Int32 → Int32 → Int32 → Int32 → Option (List Int32 × List Int32 × List Int32 × List Int32 × List Int32 × List Int32 × List Int32 × Int32 × Int32 × Int32 × Int32 × Int32)) (lcells : List Int32) (llen : Int32) : Nat → Int32 → Int32 → List Int32 → List Int32 → List Int32 → List Int32 → List Int32 → List Int32 → List Int32 → Int32 → Int32 → Int32 → Int32 → Option (List Int32 × List Int32 × List Int32 × List Int32 × List Int32 × List Int32 × List Int32 × Int32 × Int32 × Int32 × Int32 × Int32)
  | 0, _, _, _, _, _, _, _, _, _, _, _, _, _ => none
  | n + 1, x3, x4, m_there, m_used, m_hidden, m_kind, m_figure, m_cargo, m_load, m_ships, m_inn, m_coughs, m_day =>
  if (96 : Int32) ≤ x4 then
  k x4 m_there m_used m_hidden m_kind m_figure m_cargo m_load m_ships m_inn m_coughs m_day
  else
  (X1_length llen).bind fun u_3 =>
  if u_3 ≤ x3 then
  k x4 m_there m_used m_hidden m_kind m_figure m_cargo m_load m_ships m_inn m_coughs m_day
  else
  (X3_isAsItMustBe lcells m_there m_hidden llen m_ships m_inn m_day x3).bind fun u_5 =>
  if u_5 = (0 : Int32) then
  some (m_there, m_used, m_hidden, m_kind, m_figure, m_cargo, m_load, m_ships, m_inn, m_coughs, m_day, ((-2000 : Int32) - x3))
  else
  (X3_carryOut lcells m_there m_used m_hidden m_kind m_figure m_cargo m_load llen m_ships m_inn m_coughs m_day x3).bind fun u_7 =>
  (X1_at lcells llen x3).bind fun u_9 =>
  (X3_sizeOf u_9).bind fun u_11 =>
  X3_tell_L20 k lcells llen n (x3 + u_11) (x4 + (1 : Int32)) u_7.1 u_7.2.1 u_7.2.2.1 u_7.2.2.2.1 u_7.2.2.2.2.1 u_7.2.2.2.2.2.1 u_7.2.2.2.2.2.2.1 u_7.2.2.2.2.2.2.2.1 u_7.2.2.2.2.2.2.2.2.1 u_7.2.2.2.2.2.2.2.2.2.1 u_7.2.2.2.2.2.2.2.2.2.2
def X3_tell (lcells : List Int32) (m_there : List Int32) (m_used : List Int32) (m_hidden : List Int32) (m_kind : List Int32) (m_figure : List Int32) (m_cargo : List Int32) (m_load : List Int32) (llen : Int32) (m_ships : Int32) (m_inn : Int32) (m_coughs : Int32) (m_day : Int32) : Option (List Int32 × List Int32 × List Int32 × List Int32 × List Int32 × List Int32 × List Int32 × Int32 × Int32 × Int32 × Int32 × Int32) :=
  (X3_faultyLetter lcells llen).bind fun u_1 =>
  if u_1 < (0 : Int32) then
  X3_tell_L20 (fun y4_13 m_there_14 m_used_15 m_hidden_16 m_kind_17 m_figure_18 m_cargo_19 m_load_20 m_ships_21 m_inn_22 m_coughs_23 m_day_24 =>
  some (m_there_14, m_used_15, m_hidden_16, m_kind_17, m_figure_18, m_cargo_19, m_load_20, m_ships_21, m_inn_22, m_coughs_23, m_day_24, y4_13)) lcells llen 1000 (0 : Int32) (0 : Int32) m_there m_used m_hidden m_kind m_figure m_cargo m_load m_ships m_inn m_coughs m_day
  else
  some (m_there, m_used, m_hidden, m_kind, m_figure, m_cargo, m_load, m_ships, m_inn, m_coughs, m_day, ((-1000 : Int32) - u_1))
set_option maxRecDepth 100000 in
set_option maxHeartbeats 4000000 in
theorem l_X3_tell_L20 {l : Launch} {p : Program} {e : Env} {s : State} {m : MethodId} {args : Array Value} {below : List Frame} {meth : Method} {c : Code} {A : Nat → Prop} {G : Gx} {adb ade adm : Nat → Nat} {lcells : List Int32} {llen : Int32} {k : Int32 → List Int32 → List Int32 → List Int32 → List Int32 → List Int32 → List Int32 → List Int32 → Int32 → Int32 → Int32 → Int32 → Option (List Int32 × List Int32 × List Int32 × List Int32 × List Int32 × List Int32 × List Int32 × Int32 × Int32 × Int32 × Int32 × Int32)} {out : List Int32 × List Int32 × List Int32 × List Int32 × List Int32 × List Int32 × List Int32 × Int32 × Int32 × Int32 × Int32 × Int32} (C : Cx p s m args meth c cX3_tell RX3 5 (some .int) G) : ∀ (n : Nat) (x3 : Int32) (x4 : Int32) (m_there : List Int32) (m_used : List Int32) (m_hidden : List Int32) (m_kind : List Int32) (m_figure : List Int32) (m_cargo : List Int32) (m_load : List Int32) (m_ships : Int32) (m_inn : Int32) (m_coughs : Int32) (m_day : Int32), X3_tell_L20 k lcells llen n x3 x4 m_there m_used m_hidden m_kind m_figure m_cargo m_load m_ships m_inn m_coughs m_day = some out → ∀ (H : Heap) (locs : List Loc), St G A s.heap H locs (wX G adb ade adm lcells m_there m_used m_hidden m_kind m_figure m_cargo m_load llen m_ships m_inn m_coughs m_day) → ∀ ls : Array Slot, lv_has ls 5 [(0, .ref (adb 0)), (1, .ref (adm 0)), (3, .int x3), (4, .int x4)] → (∀ (y4 : Int32) (z_m_there : List Int32) (z_m_used : List Int32) (z_m_hidden : List Int32) (z_m_kind : List Int32) (z_m_figure : List Int32) (z_m_cargo : List Int32) (z_m_load : List Int32) (z_m_ships : Int32) (z_m_inn : Int32) (z_m_coughs : Int32) (z_m_day : Int32), k y4 z_m_there z_m_used z_m_hidden z_m_kind z_m_figure z_m_cargo z_m_load z_m_ships z_m_inn z_m_coughs z_m_day = some out → ∀ (H : Heap) (locs : List Loc), St G A s.heap H locs (wX G adb ade adm lcells z_m_there z_m_used z_m_hidden z_m_kind z_m_figure z_m_cargo z_m_load llen z_m_ships z_m_inn z_m_coughs z_m_day) → ∀ ls : Array Slot, lv_has ls 5 [(4, .int y4)] → W p l e (rmOf 6 134) s m args below meth c H locs 0 0 (MQ below (Qof G A (some (.int out.2.2.2.2.2.2.2.2.2.2.2)) (wX G adb ade adm lcells out.1 out.2.1 out.2.2.1 out.2.2.2.1 out.2.2.2.2.1 out.2.2.2.2.2.1 out.2.2.2.2.2.2.1 llen out.2.2.2.2.2.2.2.1 out.2.2.2.2.2.2.2.2.1 out.2.2.2.2.2.2.2.2.2.1 out.2.2.2.2.2.2.2.2.2.2.1)) args s 0 0 A) (F0 m 79 ls [])) → W p l e (rmOf 6 134) s m args below meth c H locs 0 0 (MQ below (Qof G A (some (.int out.2.2.2.2.2.2.2.2.2.2.2)) (wX G adb ade adm lcells out.1 out.2.1 out.2.2.1 out.2.2.2.1 out.2.2.2.2.1 out.2.2.2.2.2.1 out.2.2.2.2.2.2.1 llen out.2.2.2.2.2.2.2.1 out.2.2.2.2.2.2.2.2.1 out.2.2.2.2.2.2.2.2.2.1 out.2.2.2.2.2.2.2.2.2.2.1)) args s 0 0 A) (F0 m 20 ls []) := by
  obtain ⟨hx, hb, hml, hown, hts, hK, hret, hlk⟩ := id C
  intro n
  induction n with
  | zero => intro x3 x4 m_there m_used m_hidden m_kind m_figure m_cargo m_load m_ships m_inn m_coughs m_day hf; cases hf
  | succ n ih =>
    intro x3 x4 m_there m_used m_hidden m_kind m_figure m_cargo m_load m_ships m_inn m_coughs m_day hf H locs hs ls hl hk
    rw [X3_tell_L20] at hf
    refine lv_iload hx hb (dk hX3_tell_0 13 rfl) (lv_at hl 3 rfl) ?_
    refine lv_bipush (v := (96 : Int32)) hx hb (dk hX3_tell_0 14 rfl) (by decide) ?_
    refine lv_icmp_ge (tgt := 79) hx hb (dk hX3_tell_0 15 rfl) (by decide) (fun hc => ?_) (fun hc => ?_)
    · replace hf := ip hf hc
      exact hk _ _ _ _ _ _ _ _ _ _ _ _ hf _ _ hs _ (lv_sub hl [3] rfl)
    · replace hf := in_ hf hc
      refine lv_iload_n hx hb (dk hX3_tell_0 16 rfl) rfl (lv_at hl 2 rfl) ?_
      refine lv_aload_n hx hb (dk hX3_tell_0 17 rfl) rfl (lv_at hl 0 rfl) ?_
      refine rg ui3 rfl C hs 0 rfl 0 (by decide) tw_127 rfl rfl (dk hX3_tell_0 18 rfl) ?_
      obtain ⟨u_3, e_4, hf⟩ := Option.bind_eq_some_iff.mp hf
      refine Ct.V (As := []) (rest := [.int x3]) (st1 := [.int u_3, .int x3]) (w1 := (wX G adb ade adm lcells m_there m_used m_hidden m_kind m_figure m_cargo m_load llen m_ships m_inn m_coughs m_day)) C hs (c_X1_length__X e_4) tw_483 tw_443 tw_444 tw_21 tw_445 nq_X1_length (by decide) 1 1 rfl rfl rfl rfl hl.1 rfl (Nat.le_of_ble_eq_true rfl) (dk hX3_tell_0 19 rfl) ⟨Nat.zero_le _, Nat.zero_le _⟩ rfl (fun H locs hs => ?_)
      refine lv_icmp_ge (tgt := 79) hx hb (dk hX3_tell_0 20 rfl) (by decide) (fun hc => ?_) (fun hc => ?_)
      · replace hf := ip hf hc
        exact hk _ _ _ _ _ _ _ _ _ _ _ _ hf _ _ hs _ (lv_sub hl [3] rfl)
      · replace hf := in_ hf hc
        refine lv_aload_n hx hb (dk hX3_tell_0 21 rfl) rfl (lv_at hl 0 rfl) ?_
        refine lv_aload_n hx hb (dk hX3_tell_0 22 rfl) rfl (lv_at hl 1 rfl) ?_
        refine lv_iload_n hx hb (dk hX3_tell_0 23 rfl) rfl (lv_at hl 2 rfl) ?_
        obtain ⟨u_5, e_6, hf⟩ := Option.bind_eq_some_iff.mp hf
        refine Ct.V (As := [.ref (adm 0), .int x3]) (rest := []) (st1 := [.int u_5]) (w1 := (wX G adb ade adm lcells m_there m_used m_hidden m_kind m_figure m_cargo m_load llen m_ships m_inn m_coughs m_day)) C hs (c_X3_isAsItMustBe e_6) tw_499 tw_501 tw_13 tw_20 tw_502 nq_X3_isAsItMustBe (by decide) 0 3 rfl rfl rfl rfl hl.1 rfl (Nat.le_of_ble_eq_true rfl) (dk hX3_tell_0 24 rfl) ⟨Nat.zero_le _, Nat.zero_le _⟩ rfl (fun H locs hs => ?_)
        refine lv_if_ne (tgt := 53) hx hb (dk hX3_tell_0 25 rfl) (by decide) (fun hc => ?_) (fun hc => ?_)
        · replace hf := in_ hf hc
          refine lv_aload_n hx hb (dk hX3_tell_0 30 rfl) rfl (lv_at hl 0 rfl) ?_
          refine lv_aload_n hx hb (dk hX3_tell_0 31 rfl) rfl (lv_at hl 1 rfl) ?_
          refine lv_iload_n hx hb (dk hX3_tell_0 32 rfl) rfl (lv_at hl 2 rfl) ?_
          obtain ⟨u_7, e_8, hf⟩ := Option.bind_eq_some_iff.mp hf
          refine Ct.V (As := [.ref (adm 0), .int x3]) (rest := []) (st1 := []) (w1 := (wX G adb ade adm lcells u_7.1 u_7.2.1 u_7.2.2.1 u_7.2.2.2.1 u_7.2.2.2.2.1 u_7.2.2.2.2.2.1 u_7.2.2.2.2.2.2.1 llen u_7.2.2.2.2.2.2.2.1 u_7.2.2.2.2.2.2.2.2.1 u_7.2.2.2.2.2.2.2.2.2.1 u_7.2.2.2.2.2.2.2.2.2.2)) C hs (c_X3_carryOut e_8) tw_513 tw_515 tw_15 tw_20 tw_516 nq_X3_carryOut (by decide) 0 3 rfl rfl rfl rfl hl.1 rfl (Nat.le_of_ble_eq_true rfl) (dk hX3_tell_0 33 rfl) ⟨Nat.zero_le _, Nat.zero_le _⟩ rfl (fun H locs hs => ?_)
          refine lv_iload_n hx hb (dk hX3_tell_0 34 rfl) rfl (lv_at hl 2 rfl) ?_
          refine lv_aload_n hx hb (dk hX3_tell_0 35 rfl) rfl (lv_at hl 0 rfl) ?_
          refine rg ui3 rfl C hs 0 rfl 0 (by decide) tw_127 rfl rfl (dk hX3_tell_0 36 rfl) ?_
          refine lv_iload_n hx hb (dk hX3_tell_0 37 rfl) rfl (lv_at hl 2 rfl) ?_
          obtain ⟨u_9, e_10, hf⟩ := Option.bind_eq_some_iff.mp hf
          refine Ct.V (As := [.int x3]) (rest := [.int x3]) (st1 := [.int u_9, .int x3]) (w1 := (wX G adb ade adm lcells u_7.1 u_7.2.1 u_7.2.2.1 u_7.2.2.2.1 u_7.2.2.2.2.1 u_7.2.2.2.2.2.1 u_7.2.2.2.2.2.2.1 llen u_7.2.2.2.2.2.2.2.1 u_7.2.2.2.2.2.2.2.2.1 u_7.2.2.2.2.2.2.2.2.2.1 u_7.2.2.2.2.2.2.2.2.2.2)) C hs (c_X1_at__X e_10) tw_488 tw_489 tw_490 tw_21 tw_491 nq_X1_at (by decide) 1 1 rfl rfl rfl rfl hl.1 rfl (Nat.le_of_ble_eq_true rfl) (dk hX3_tell_0 38 rfl) ⟨Nat.zero_le _, Nat.zero_le _⟩ rfl (fun H locs hs => ?_)
          obtain ⟨u_11, e_12, hf⟩ := Option.bind_eq_some_iff.mp hf
          refine Ct.S (As := [.int u_9]) (rest := [.int x3]) (st1 := [.int u_11, .int x3]) (w1 := (wX G adb ade adm lcells u_7.1 u_7.2.1 u_7.2.2.1 u_7.2.2.2.1 u_7.2.2.2.2.1 u_7.2.2.2.2.2.1 u_7.2.2.2.2.2.2.1 llen u_7.2.2.2.2.2.2.2.1 u_7.2.2.2.2.2.2.2.2.1 u_7.2.2.2.2.2.2.2.2.2.1 u_7.2.2.2.2.2.2.2.2.2.2)) C hs (c_X3_sizeOf e_12) tw_492 tw_493 tw_20 tw_494 nq_X3_sizeOf (by decide) rfl hl.1 rfl (Nat.le_of_ble_eq_true rfl) (dk hX3_tell_0 39 rfl) ⟨Nat.zero_le _, Nat.zero_le _⟩ rfl (fun H locs hs => ?_)
          refine lv_iadd hx hb (dk hX3_tell_1 0 rfl) ?_
          refine lv_istore_n (lv' := [(3, .int (x3 + u_11)), (0, .ref (adb 0)), (1, .ref (adm 0)), (4, .int x4)]) hx hb (dk hX3_tell_1 1 rfl) rfl hl (by decide) rfl (fun ls hl => ?_)
          refine lv_iinc (v := (x4 + (1 : Int32))) (lv' := [(4, .int (x4 + (1 : Int32))), (3, .int (x3 + u_11)), (0, .ref (adb 0)), (1, .ref (adm 0))]) hx hb (dk hX3_tell_1 2 rfl) hl (k := 3) rfl (by first | rfl | decide) (by decide) rfl (fun ls hl => ?_)
          refine lv_goto (tgt := 20) hx hb (dk hX3_tell_1 3 rfl) (by decide) ?_
          exact ih _ _ _ _ _ _ _ _ _ _ _ _ _ hf _ _ hs _ (lv_sub hl [2, 3, 1, 0] rfl) hk
        · replace hf := ip hf hc
          refine lv_sipush (v := (-2000 : Int32)) hx hb (dk hX3_tell_0 26 rfl) (by decide) ?_
          refine lv_iload_n hx hb (dk hX3_tell_0 27 rfl) rfl (lv_at hl 2 rfl) ?_
          refine lv_isub hx hb (dk hX3_tell_0 28 rfl) ?_
          cases hf
          exact ri C hs (dk hX3_tell_0 29 rfl)
set_option maxRecDepth 100000 in
set_option maxHeartbeats 4000000 in
theorem c_X3_tell {l : Launch} {G : Gx} {adb ade adm : Nat → Nat} {lcells m_there m_used m_hidden m_kind m_figure m_cargo m_load : List Int32} {llen m_ships m_inn m_coughs m_day : Int32}  {out : List Int32 × List Int32 × List Int32 × List Int32 × List Int32 × List Int32 × List Int32 × Int32 × Int32 × Int32 × Int32 × Int32} (hf : X3_tell lcells m_there m_used m_hidden m_kind m_figure m_cargo m_load llen m_ships m_inn m_coughs m_day = some out) : Ct l G yX3_tell cX3_tell 5 (some .int) 6 134 [.ref (adb 0), .ref (adm 0)] (wX G adb ade adm lcells m_there m_used m_hidden m_kind m_figure m_cargo m_load llen m_ships m_inn m_coughs m_day) (some (.int out.2.2.2.2.2.2.2.2.2.2.2)) (wX G adb ade adm lcells out.1 out.2.1 out.2.2.1 out.2.2.2.1 out.2.2.2.2.1 out.2.2.2.2.2.1 out.2.2.2.2.2.2.1 llen out.2.2.2.2.2.2.2.1 out.2.2.2.2.2.2.2.2.1 out.2.2.2.2.2.2.2.2.2.1 out.2.2.2.2.2.2.2.2.2.2.1) := by
  refine Ct.intro RX3 rfl (plainFor_of_name (by decide)) (Nat.le_of_ble_eq_true rfl) rfl ?_
  intro p e s m args below meth c A C H locs hs ls hl
  obtain ⟨hx, hb, hml, hown, hts, hK, hret, hlk⟩ := id C
  have hl : lv_has ls 5 [(0, .ref (adb 0)), (1, .ref (adm 0))] := hl
  unfold X3_tell at hf
  refine lv_aload_n hx hb (dk hX3_tell_0 0 rfl) rfl (lv_at hl 0 rfl) ?_
  obtain ⟨u_1, e_2, hf⟩ := Option.bind_eq_some_iff.mp hf
  refine Ct.V (As := []) (rest := []) (st1 := [.int u_1]) (w1 := (wX G adb ade adm lcells m_there m_used m_hidden m_kind m_figure m_cargo m_load llen m_ships m_inn m_coughs m_day)) C hs (c_X3_faultyLetter e_2) tw_479 tw_481 tw_10 tw_20 tw_482 nq_X3_faultyLetter (by decide) 0 3 rfl rfl rfl rfl hl.1 rfl (Nat.le_of_ble_eq_true rfl) (dk hX3_tell_0 1 rfl) ⟨Nat.zero_le _, Nat.zero_le _⟩ rfl (fun H locs hs => ?_)
  refine lv_istore_n (lv' := [(2, .int u_1), (0, .ref (adb 0)), (1, .ref (adm 0))]) hx hb (dk hX3_tell_0 2 rfl) rfl hl (by decide) rfl (fun ls hl => ?_)
  refine lv_iload_n hx hb (dk hX3_tell_0 3 rfl) rfl (lv_at hl 0 rfl) ?_
  refine lv_if_lt (tgt := 15) hx hb (dk hX3_tell_0 4 rfl) (by decide) (fun hc => ?_) (fun hc => ?_)
  · replace hf := ip hf hc
    refine lv_iconst (v := (0 : Int32)) hx hb (dk hX3_tell_0 9 rfl) (by decide) ?_
    refine lv_istore_n (lv' := [(3, .int (0 : Int32)), (2, .int u_1), (0, .ref (adb 0)), (1, .ref (adm 0))]) hx hb (dk hX3_tell_0 10 rfl) rfl hl (by decide) rfl (fun ls hl => ?_)
    refine lv_iconst (v := (0 : Int32)) hx hb (dk hX3_tell_0 11 rfl) (by decide) ?_
    refine lv_istore (lv' := [(4, .int (0 : Int32)), (3, .int (0 : Int32)), (2, .int u_1), (0, .ref (adb 0)), (1, .ref (adm 0))]) hx hb (dk hX3_tell_0 12 rfl) hl (by decide) rfl (fun ls hl => ?_)
    refine l_X3_tell_L20 C 1000 _ _ _ _ _ _ _ _ _ _ _ _ _ hf _ _ hs _ (lv_sub hl [3, 4, 1, 0] rfl) (fun y4_13 m_there_14 m_used_15 m_hidden_16 m_kind_17 m_figure_18 m_cargo_19 m_load_20 m_ships_21 m_inn_22 m_coughs_23 m_day_24 hf H locs hs ls hl => ?_)
    refine lv_iload hx hb (dk hX3_tell_1 4 rfl) (lv_at hl 0 rfl) ?_
    cases hf
    exact ri C hs (dk hX3_tell_1 5 rfl)
  · replace hf := in_ hf hc
    refine lv_sipush (v := (-1000 : Int32)) hx hb (dk hX3_tell_0 5 rfl) (by decide) ?_
    refine lv_iload_n hx hb (dk hX3_tell_0 6 rfl) rfl (lv_at hl 0 rfl) ?_
    refine lv_isub hx hb (dk hX3_tell_0 7 rfl) ?_
    cases hf
    exact ri C hs (dk hX3_tell_0 8 rfl)

