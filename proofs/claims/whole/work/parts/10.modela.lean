def wM (G : Gx) (ad : Nat → Nat) (refused there used hidden kind figure good load inn tape letter letterAt told kept row costs : List Int32) (ships coughs day away taped reading statements hasImage isKeeping cursor backs free goodFor loadedWhen bareGood bareWhen rowMany lots : Int32) : va_W := [(ad 0, .inr (5, [.ref (ad 1), .ref (ad 2), .ref (ad 3), .ref (ad 4), .ref (ad 5), .ref (ad 6), .ref (ad 7), .ref (ad 8), .ref (ad 9), .int ships, .int coughs, .int day, .int away, .ref (ad 10), .ref (ad 11), .ref (ad 12), .ref (ad 13), .int taped, .int reading, .int statements, .ref (ad 14), .int hasImage, .int isKeeping, .int cursor, .int backs, .int free, .int goodFor, .int loadedWhen, .int bareGood, .int bareWhen, .ref (ad 15), .int rowMany, .ref (ad 16), .int lots])), (ad 1, ar G refused), (ad 2, ar G there), (ad 3, ar G used), (ad 4, ar G hidden), (ad 5, ar G kind), (ad 6, ar G figure), (ad 7, ar G good), (ad 8, ar G load), (ad 9, ar G inn), (ad 10, ar G tape), (ad 11, ar G letter), (ad 12, ar G letterAt), (ad 13, ar G told), (ad 14, ar G kept), (ad 15, ar G row), (ad 16, ar G costs)]
def X5_no (refused : List Int32) (p0 : Int32) : Option (List Int32 × Int32) :=
  (rd refused (-p0)).bind fun v_1 =>
  (wr refused (-p0) (v_1 + (1 : Int32))).bind fun refused_3 =>
  some (refused_3, p0)
set_option maxRecDepth 100000 in
set_option maxHeartbeats 4000000 in
theorem c_X5_no {l : Launch} {G : Gx} {ad : Nat → Nat} {refused there used hidden kind figure good load inn tape letter letterAt told kept row costs : List Int32} {ships coughs day away taped reading statements hasImage isKeeping cursor backs free goodFor loadedWhen bareGood bareWhen rowMany lots : Int32} {p0 : Int32} {out : List Int32 × Int32} (hf : X5_no refused p0 = some out) : Ct l G yX5_no cX5_no 2 (some .int) 0 0 [.ref (ad 0), .int p0] (wM G ad refused there used hidden kind figure good load inn tape letter letterAt told kept row costs ships coughs day away taped reading statements hasImage isKeeping cursor backs free goodFor loadedWhen bareGood bareWhen rowMany lots) (some (.int out.2)) (wM G ad out.1 there used hidden kind figure good load inn tape letter letterAt told kept row costs ships coughs day away taped reading statements hasImage isKeeping cursor backs free goodFor loadedWhen bareGood bareWhen rowMany lots) := by
  refine Ct.intro RX5 rfl (plainFor_of_name (by decide)) (Nat.le_of_ble_eq_true rfl) rfl ?_
  intro p e s m args below meth c A C H locs hs ls hl
  obtain ⟨hx, hb, hml, hown, hts, hK, hret, hlk⟩ := id C
  have hl : lv_has ls 2 [(0, .ref (ad 0)), (1, .int p0)] := hl
  unfold X5_no at hf
  refine lv_aload_n hx hb (dk hX5_no_0 0 rfl) rfl (lv_at hl 0 rfl) ?_
  refine rg ui5 rfl C hs 0 rfl 0 (by decide) tw_690 rfl rfl (dk hX5_no_0 1 rfl) ?_
  refine lv_iload_n hx hb (dk hX5_no_0 2 rfl) rfl (lv_at hl 1 rfl) ?_
  refine lv_ineg hx hb (dk hX5_no_0 3 rfl) ?_
  refine lv_dup2_11 hx hb (dk hX5_no_0 4 rfl) rfl rfl ?_
  obtain ⟨v_1, e_2, hf⟩ := Option.bind_eq_some_iff.mp hf
  refine rild C hs 1 rfl e_2 (dk hX5_no_0 5 rfl) ?_
  refine lv_iconst (v := (1 : Int32)) hx hb (dk hX5_no_0 6 rfl) (by decide) ?_
  refine lv_iadd hx hb (dk hX5_no_0 7 rfl) ?_
  obtain ⟨refused_3, e_4, hf⟩ := Option.bind_eq_some_iff.mp hf
  refine rist (w1 := (wM G ad refused_3 there used hidden kind figure good load inn tape letter letterAt told kept row costs ships coughs day away taped reading statements hasImage isKeeping cursor backs free goodFor loadedWhen bareGood bareWhen rowMany lots)) C hs 1 rfl e_4 rfl (dk hX5_no_0 8 rfl) (fun H locs hs => ?_)
  refine lv_iload_n hx hb (dk hX5_no_0 9 rfl) rfl (lv_at hl 1 rfl) ?_
  cases hf
  exact ri C hs (dk hX5_no_0 10 rfl)

def X5_lower (refused : List Int32) (p0 : Int32) : Option (List Int32 × Int32) :=
  (rd refused (-p0)).bind fun v_1 =>
  (wr refused (-p0) (v_1 + (1 : Int32))).bind fun refused_3 =>
  some (refused_3, ((1000000000 : Int32) - p0))
set_option maxRecDepth 100000 in
set_option maxHeartbeats 4000000 in
theorem c_X5_lower {l : Launch} {G : Gx} {ad : Nat → Nat} {refused there used hidden kind figure good load inn tape letter letterAt told kept row costs : List Int32} {ships coughs day away taped reading statements hasImage isKeeping cursor backs free goodFor loadedWhen bareGood bareWhen rowMany lots : Int32} {p0 : Int32} {out : List Int32 × Int32} (hf : X5_lower refused p0 = some out) : Ct l G yX5_lower cX5_lower 2 (some .int) 0 0 [.ref (ad 0), .int p0] (wM G ad refused there used hidden kind figure good load inn tape letter letterAt told kept row costs ships coughs day away taped reading statements hasImage isKeeping cursor backs free goodFor loadedWhen bareGood bareWhen rowMany lots) (some (.int out.2)) (wM G ad out.1 there used hidden kind figure good load inn tape letter letterAt told kept row costs ships coughs day away taped reading statements hasImage isKeeping cursor backs free goodFor loadedWhen bareGood bareWhen rowMany lots) := by
  refine Ct.intro RX5 rfl (plainFor_of_name (by decide)) (Nat.le_of_ble_eq_true rfl) rfl ?_
  intro p e s m args below meth c A C H locs hs ls hl
  obtain ⟨hx, hb, hml, hown, hts, hK, hret, hlk⟩ := id C
  have hl : lv_has ls 2 [(0, .ref (ad 0)), (1, .int p0)] := hl
  unfold X5_lower at hf
  refine lv_aload_n hx hb (dk hX5_lower_0 0 rfl) rfl (lv_at hl 0 rfl) ?_
  refine rg ui5 rfl C hs 0 rfl 0 (by decide) tw_690 rfl rfl (dk hX5_lower_0 1 rfl) ?_
  refine lv_iload_n hx hb (dk hX5_lower_0 2 rfl) rfl (lv_at hl 1 rfl) ?_
  refine lv_ineg hx hb (dk hX5_lower_0 3 rfl) ?_
  refine lv_dup2_11 hx hb (dk hX5_lower_0 4 rfl) rfl rfl ?_
  obtain ⟨v_1, e_2, hf⟩ := Option.bind_eq_some_iff.mp hf
  refine rild C hs 1 rfl e_2 (dk hX5_lower_0 5 rfl) ?_
  refine lv_iconst (v := (1 : Int32)) hx hb (dk hX5_lower_0 6 rfl) (by decide) ?_
  refine lv_iadd hx hb (dk hX5_lower_0 7 rfl) ?_
  obtain ⟨refused_3, e_4, hf⟩ := Option.bind_eq_some_iff.mp hf
  refine rist (w1 := (wM G ad refused_3 there used hidden kind figure good load inn tape letter letterAt told kept row costs ships coughs day away taped reading statements hasImage isKeeping cursor backs free goodFor loadedWhen bareGood bareWhen rowMany lots)) C hs 1 rfl e_4 rfl (dk hX5_lower_0 8 rfl) (fun H locs hs => ?_)
  refine lv_ldc (v := (1000000000 : Int32)) hx hb hown (hts _ tw_1200) (dk hX5_lower_0 9 rfl) ?_
  refine lv_iload_n hx hb (dk hX5_lower_0 10 rfl) rfl (lv_at hl 1 rfl) ?_
  refine lv_isub hx hb (dk hX5_lower_0 11 rfl) ?_
  cases hf
  exact ri C hs (dk hX5_lower_0 12 rfl)

def X5_lowestOf (refused : List Int32) (p0 : Int32) : Option (List Int32 × Int64) :=
  (rd refused (-p0)).bind fun v_1 =>
  (wr refused (-p0) (v_1 + (1 : Int32))).bind fun refused_3 =>
  some (refused_3, ((4000000000000000000 : Int64) - (Int32.toInt64 p0)))
set_option maxRecDepth 100000 in
set_option maxHeartbeats 4000000 in
theorem c_X5_lowestOf {l : Launch} {G : Gx} {ad : Nat → Nat} {refused there used hidden kind figure good load inn tape letter letterAt told kept row costs : List Int32} {ships coughs day away taped reading statements hasImage isKeeping cursor backs free goodFor loadedWhen bareGood bareWhen rowMany lots : Int32} {p0 : Int32} {out : List Int32 × Int64} (hf : X5_lowestOf refused p0 = some out) : Ct l G yX5_lowestOf cX5_lowestOf 2 (some .long) 0 0 [.ref (ad 0), .int p0] (wM G ad refused there used hidden kind figure good load inn tape letter letterAt told kept row costs ships coughs day away taped reading statements hasImage isKeeping cursor backs free goodFor loadedWhen bareGood bareWhen rowMany lots) (some (.long out.2)) (wM G ad out.1 there used hidden kind figure good load inn tape letter letterAt told kept row costs ships coughs day away taped reading statements hasImage isKeeping cursor backs free goodFor loadedWhen bareGood bareWhen rowMany lots) := by
  refine Ct.intro RX5 rfl (plainFor_of_name (by decide)) (Nat.le_of_ble_eq_true rfl) rfl ?_
  intro p e s m args below meth c A C H locs hs ls hl
  obtain ⟨hx, hb, hml, hown, hts, hK, hret, hlk⟩ := id C
  have hl : lv_has ls 2 [(0, .ref (ad 0)), (1, .int p0)] := hl
  unfold X5_lowestOf at hf
  refine lv_aload_n hx hb (dk hX5_lowestOf_0 0 rfl) rfl (lv_at hl 0 rfl) ?_
  refine rg ui5 rfl C hs 0 rfl 0 (by decide) tw_690 rfl rfl (dk hX5_lowestOf_0 1 rfl) ?_
  refine lv_iload_n hx hb (dk hX5_lowestOf_0 2 rfl) rfl (lv_at hl 1 rfl) ?_
  refine lv_ineg hx hb (dk hX5_lowestOf_0 3 rfl) ?_
  refine lv_dup2_11 hx hb (dk hX5_lowestOf_0 4 rfl) rfl rfl ?_
  obtain ⟨v_1, e_2, hf⟩ := Option.bind_eq_some_iff.mp hf
  refine rild C hs 1 rfl e_2 (dk hX5_lowestOf_0 5 rfl) ?_
  refine lv_iconst (v := (1 : Int32)) hx hb (dk hX5_lowestOf_0 6 rfl) (by decide) ?_
  refine lv_iadd hx hb (dk hX5_lowestOf_0 7 rfl) ?_
  obtain ⟨refused_3, e_4, hf⟩ := Option.bind_eq_some_iff.mp hf
  refine rist (w1 := (wM G ad refused_3 there used hidden kind figure good load inn tape letter letterAt told kept row costs ships coughs day away taped reading statements hasImage isKeeping cursor backs free goodFor loadedWhen bareGood bareWhen rowMany lots)) C hs 1 rfl e_4 rfl (dk hX5_lowestOf_0 8 rfl) (fun H locs hs => ?_)
  refine lv_ldc2 (v := (4000000000000000000 : Int64)) hx hb hown (hts _ tw_1141) (dk hX5_lowestOf_0 9 rfl) ?_
  refine lv_iload_n hx hb (dk hX5_lowestOf_0 10 rfl) rfl (lv_at hl 1 rfl) ?_
  refine lv_i2l (v := (Int32.toInt64 p0)) hx hb (dk hX5_lowestOf_0 11 rfl) rfl ?_
  refine lv_lsub hx hb (dk hX5_lowestOf_0 12 rfl) ?_
  cases hf
  exact rl C hs (dk hX5_lowestOf_0 13 rfl)

def X5_isIn (p0 : Int32) (p1 : Int32) (p2 : Int32) : Option (Int32) :=
  if p0 < p1 then
  some (0 : Int32)
  else
  if p2 < p0 then
  some (0 : Int32)
  else
  some (1 : Int32)
set_option maxRecDepth 100000 in
set_option maxHeartbeats 4000000 in
theorem c_X5_isIn {l : Launch} {G : Gx} {w : va_W} {p0 : Int32} {p1 : Int32} {p2 : Int32} {out : Int32} (hf : X5_isIn p0 p1 p2 = some out) : Ct l G yX5_isIn cX5_isIn 3 (some .boolean) 0 0 [.int p0, .int p1, .int p2] w (some (.int out)) w := by
  refine Ct.intro RX5 rfl (plainFor_of_name (by decide)) (Nat.le_of_ble_eq_true rfl) rfl ?_
  intro p e s m args below meth c A C H locs hs ls hl
  obtain ⟨hx, hb, hml, hown, hts, hK, hret, hlk⟩ := id C
  have hl : lv_has ls 3 [(0, .int p0), (1, .int p1), (2, .int p2)] := hl
  unfold X5_isIn at hf
  refine lv_iload_n hx hb (dk hX5_isIn_0 0 rfl) rfl (lv_at hl 0 rfl) ?_
  refine lv_iload_n hx hb (dk hX5_isIn_0 1 rfl) rfl (lv_at hl 1 rfl) ?_
  refine lv_icmp_lt (tgt := 14) hx hb (dk hX5_isIn_0 2 rfl) (by decide) (fun hc => ?_) (fun hc => ?_)
  · replace hf := ip hf hc
    refine lv_iconst (v := (0 : Int32)) hx hb (dk hX5_isIn_0 8 rfl) (by decide) ?_
    cases hf
    exact rz (x := (0 : Int32)) rfl C hs (dk hX5_isIn_0 9 rfl)
  · replace hf := in_ hf hc
    refine lv_iload_n hx hb (dk hX5_isIn_0 3 rfl) rfl (lv_at hl 0 rfl) ?_
    refine lv_iload_n hx hb (dk hX5_isIn_0 4 rfl) rfl (lv_at hl 2 rfl) ?_
    refine lv_icmp_gt (tgt := 14) hx hb (dk hX5_isIn_0 5 rfl) (by decide) (fun hc => ?_) (fun hc => ?_)
    · replace hf := ip hf hc
      refine lv_iconst (v := (0 : Int32)) hx hb (dk hX5_isIn_0 8 rfl) (by decide) ?_
      cases hf
      exact rz (x := (0 : Int32)) rfl C hs (dk hX5_isIn_0 9 rfl)
    · replace hf := in_ hf hc
      refine lv_iconst (v := (1 : Int32)) hx hb (dk hX5_isIn_0 6 rfl) (by decide) ?_
      refine lv_goto (tgt := 15) hx hb (dk hX5_isIn_0 7 rfl) (by decide) ?_
      cases hf
      exact rz (x := (1 : Int32)) rfl C hs (dk hX5_isIn_0 9 rfl)

def X5_bound (p0 : Int32) (p1 : Int32) (p2 : Int32) : Option (Int32) :=
  if p1 ≤ p0 then
  if p0 ≤ p2 then
  some (0 : Int32)
  else
  some (-6 : Int32)
  else
  some (-4 : Int32)
set_option maxRecDepth 100000 in
set_option maxHeartbeats 4000000 in
theorem c_X5_bound {l : Launch} {G : Gx} {w : va_W} {p0 : Int32} {p1 : Int32} {p2 : Int32} {out : Int32} (hf : X5_bound p0 p1 p2 = some out) : Ct l G yX5_bound cX5_bound 3 (some .int) 0 0 [.int p0, .int p1, .int p2] w (some (.int out)) w := by
  refine Ct.intro RX5 rfl (plainFor_of_name (by decide)) (Nat.le_of_ble_eq_true rfl) rfl ?_
  intro p e s m args below meth c A C H locs hs ls hl
  obtain ⟨hx, hb, hml, hown, hts, hK, hret, hlk⟩ := id C
  have hl : lv_has ls 3 [(0, .int p0), (1, .int p1), (2, .int p2)] := hl
  unfold X5_bound at hf
  refine lv_iload_n hx hb (dk hX5_bound_0 0 rfl) rfl (lv_at hl 0 rfl) ?_
  refine lv_iload_n hx hb (dk hX5_bound_0 1 rfl) rfl (lv_at hl 1 rfl) ?_
  refine lv_icmp_ge (tgt := 10) hx hb (dk hX5_bound_0 2 rfl) (by decide) (fun hc => ?_) (fun hc => ?_)
  · replace hf := ip hf hc
    refine lv_iload_n hx hb (dk hX5_bound_0 5 rfl) rfl (lv_at hl 0 rfl) ?_
    refine lv_iload_n hx hb (dk hX5_bound_0 6 rfl) rfl (lv_at hl 2 rfl) ?_
    refine lv_icmp_le (tgt := 20) hx hb (dk hX5_bound_0 7 rfl) (by decide) (fun hc => ?_) (fun hc => ?_)
    · replace hf := ip hf hc
      refine lv_iconst (v := (0 : Int32)) hx hb (dk hX5_bound_0 10 rfl) (by decide) ?_
      cases hf
      exact ri C hs (dk hX5_bound_0 11 rfl)
    · replace hf := in_ hf hc
      refine lv_bipush (v := (-6 : Int32)) hx hb (dk hX5_bound_0 8 rfl) (by decide) ?_
      refine lv_goto (tgt := 21) hx hb (dk hX5_bound_0 9 rfl) (by decide) ?_
      cases hf
      exact ri C hs (dk hX5_bound_0 11 rfl)
  · replace hf := in_ hf hc
    refine lv_bipush (v := (-4 : Int32)) hx hb (dk hX5_bound_0 3 rfl) (by decide) ?_
    refine lv_goto (tgt := 21) hx hb (dk hX5_bound_0 4 rfl) (by decide) ?_
    cases hf
    exact ri C hs (dk hX5_bound_0 11 rfl)

def X5_held (p0 : Int32) (p1 : Int32) (p2 : Int32) : Option (Int32) :=
  if p1 ≤ p0 then
  if p0 ≤ p2 then
  some p0
  else
  some p2
  else
  some p1
set_option maxRecDepth 100000 in
set_option maxHeartbeats 4000000 in
theorem c_X5_held {l : Launch} {G : Gx} {w : va_W} {p0 : Int32} {p1 : Int32} {p2 : Int32} {out : Int32} (hf : X5_held p0 p1 p2 = some out) : Ct l G yX5_held cX5_held 3 (some .int) 0 0 [.int p0, .int p1, .int p2] w (some (.int out)) w := by
  refine Ct.intro RX5 rfl (plainFor_of_name (by decide)) (Nat.le_of_ble_eq_true rfl) rfl ?_
  intro p e s m args below meth c A C H locs hs ls hl
  obtain ⟨hx, hb, hml, hown, hts, hK, hret, hlk⟩ := id C
  have hl : lv_has ls 3 [(0, .int p0), (1, .int p1), (2, .int p2)] := hl
  unfold X5_held at hf
  refine lv_iload_n hx hb (dk hX5_held_0 0 rfl) rfl (lv_at hl 0 rfl) ?_
  refine lv_iload_n hx hb (dk hX5_held_0 1 rfl) rfl (lv_at hl 1 rfl) ?_
  refine lv_icmp_ge (tgt := 9) hx hb (dk hX5_held_0 2 rfl) (by decide) (fun hc => ?_) (fun hc => ?_)
  · replace hf := ip hf hc
    refine lv_iload_n hx hb (dk hX5_held_0 5 rfl) rfl (lv_at hl 0 rfl) ?_
    refine lv_iload_n hx hb (dk hX5_held_0 6 rfl) rfl (lv_at hl 2 rfl) ?_
    refine lv_icmp_le (tgt := 18) hx hb (dk hX5_held_0 7 rfl) (by decide) (fun hc => ?_) (fun hc => ?_)
    · replace hf := ip hf hc
      refine lv_iload_n hx hb (dk hX5_held_0 10 rfl) rfl (lv_at hl 0 rfl) ?_
      cases hf
      exact ri C hs (dk hX5_held_0 11 rfl)
    · replace hf := in_ hf hc
      refine lv_iload_n hx hb (dk hX5_held_0 8 rfl) rfl (lv_at hl 2 rfl) ?_
      refine lv_goto (tgt := 19) hx hb (dk hX5_held_0 9 rfl) (by decide) ?_
      cases hf
      exact ri C hs (dk hX5_held_0 11 rfl)
  · replace hf := in_ hf hc
    refine lv_iload_n hx hb (dk hX5_held_0 3 rfl) rfl (lv_at hl 1 rfl) ?_
    refine lv_goto (tgt := 19) hx hb (dk hX5_held_0 4 rfl) (by decide) ?_
    cases hf
    exact ri C hs (dk hX5_held_0 11 rfl)

def X5_has (p0 : Int32) (p1 : Int32) : Option (Int32) :=
  if ((p0 >>> (p1 &&& 31)) &&& (1 : Int32)) = (1 : Int32) then
  some (1 : Int32)
  else
  some (0 : Int32)
set_option maxRecDepth 100000 in
set_option maxHeartbeats 4000000 in
theorem c_X5_has {l : Launch} {G : Gx} {w : va_W} {p0 : Int32} {p1 : Int32} {out : Int32} (hf : X5_has p0 p1 = some out) : Ct l G yX5_has cX5_has 2 (some .boolean) 0 0 [.int p0, .int p1] w (some (.int out)) w := by
  refine Ct.intro RX5 rfl (plainFor_of_name (by decide)) (Nat.le_of_ble_eq_true rfl) rfl ?_
  intro p e s m args below meth c A C H locs hs ls hl
  obtain ⟨hx, hb, hml, hown, hts, hK, hret, hlk⟩ := id C
  have hl : lv_has ls 2 [(0, .int p0), (1, .int p1)] := hl
  unfold X5_has at hf
  refine lv_iload_n hx hb (dk hX5_has_0 0 rfl) rfl (lv_at hl 0 rfl) ?_
  refine lv_iload_n hx hb (dk hX5_has_0 1 rfl) rfl (lv_at hl 1 rfl) ?_
  refine lv_ishr hx hb (dk hX5_has_0 2 rfl) ?_
  refine lv_iconst (v := (1 : Int32)) hx hb (dk hX5_has_0 3 rfl) (by decide) ?_
  refine lv_iand hx hb (dk hX5_has_0 4 rfl) ?_
  refine lv_iconst (v := (1 : Int32)) hx hb (dk hX5_has_0 5 rfl) (by decide) ?_
  refine lv_icmp_ne (tgt := 13) hx hb (dk hX5_has_0 6 rfl) (by decide) (fun hc => ?_) (fun hc => ?_)
  · replace hf := in_ hf hc
    refine lv_iconst (v := (0 : Int32)) hx hb (dk hX5_has_0 9 rfl) (by decide) ?_
    cases hf
    exact rz (x := (0 : Int32)) rfl C hs (dk hX5_has_0 10 rfl)
  · replace hf := ip hf hc
    refine lv_iconst (v := (1 : Int32)) hx hb (dk hX5_has_0 7 rfl) (by decide) ?_
    refine lv_goto (tgt := 14) hx hb (dk hX5_has_0 8 rfl) (by decide) ?_
    cases hf
    exact rz (x := (1 : Int32)) rfl C hs (dk hX5_has_0 10 rfl)

def X5_bits_L4 (k : Int32 → Option (Int32)) (x0 : Int32) : Nat → Int32 → Int32 → Option (Int32)
  | 0, _, _ => none
  | n + 1, x1, x2 =>
  if (31 : Int32) ≤ x2 then
  k x1
  else
  X5_bits_L4 k x0 n (x1 + ((x0 >>> (x2 &&& 31)) &&& (1 : Int32))) (x2 + (1 : Int32))
def X5_bits (p0 : Int32) : Option (Int32) :=
  X5_bits_L4 (fun y1_1 =>
  some y1_1) p0 1000 (0 : Int32) (0 : Int32)
set_option maxRecDepth 100000 in
set_option maxHeartbeats 4000000 in
theorem l_X5_bits_L4 {l : Launch} {p : Program} {e : Env} {s : State} {m : MethodId} {args : Array Value} {below : List Frame} {meth : Method} {c : Code} {A : Nat → Prop} {G : Gx} {w : va_W} {x0 : Int32} {k : Int32 → Option (Int32)} {out : Int32} (C : Cx p s m args meth c cX5_bits RX5 3 (some .int) G) : ∀ (n : Nat) (x1 : Int32) (x2 : Int32), X5_bits_L4 k x0 n x1 x2 = some out → ∀ (H : Heap) (locs : List Loc), St G A s.heap H locs w → ∀ ls : Array Slot, lv_has ls 3 [(0, .int x0), (1, .int x1), (2, .int x2)] → (∀ (y1 : Int32), k y1 = some out → ∀ (H : Heap) (locs : List Loc), St G A s.heap H locs w → ∀ ls : Array Slot, lv_has ls 3 [(1, .int y1)] → W p l e (rmOf 0 0) s m args below meth c H locs 0 0 (MQ below (Qof G A (some (.int out)) w) args s 0 0 A) (F0 m 24 ls [])) → W p l e (rmOf 0 0) s m args below meth c H locs 0 0 (MQ below (Qof G A (some (.int out)) w) args s 0 0 A) (F0 m 4 ls []) := by
  obtain ⟨hx, hb, hml, hown, hts, hK, hret, hlk⟩ := id C
  intro n
  induction n with
  | zero => intro x1 x2 hf; cases hf
  | succ n ih =>
    intro x1 x2 hf H locs hs ls hl hk
    rw [X5_bits_L4] at hf
    refine lv_iload_n hx hb (dk hX5_bits_0 4 rfl) rfl (lv_at hl 2 rfl) ?_
    refine lv_bipush (v := (31 : Int32)) hx hb (dk hX5_bits_0 5 rfl) (by decide) ?_
    refine lv_icmp_ge (tgt := 24) hx hb (dk hX5_bits_0 6 rfl) (by decide) (fun hc => ?_) (fun hc => ?_)
    · replace hf := ip hf hc
      exact hk _ hf _ _ hs _ (lv_sub hl [1] rfl)
    · replace hf := in_ hf hc
      refine lv_iload_n hx hb (dk hX5_bits_0 7 rfl) rfl (lv_at hl 1 rfl) ?_
      refine lv_iload_n hx hb (dk hX5_bits_0 8 rfl) rfl (lv_at hl 0 rfl) ?_
      refine lv_iload_n hx hb (dk hX5_bits_0 9 rfl) rfl (lv_at hl 2 rfl) ?_
      refine lv_ishr hx hb (dk hX5_bits_0 10 rfl) ?_
      refine lv_iconst (v := (1 : Int32)) hx hb (dk hX5_bits_0 11 rfl) (by decide) ?_
      refine lv_iand hx hb (dk hX5_bits_0 12 rfl) ?_
      refine lv_iadd hx hb (dk hX5_bits_0 13 rfl) ?_
      refine lv_istore_n (lv' := [(1, .int (x1 + ((x0 >>> (x2 &&& 31)) &&& (1 : Int32)))), (0, .int x0), (2, .int x2)]) hx hb (dk hX5_bits_0 14 rfl) rfl hl (by decide) rfl (fun ls hl => ?_)
      refine lv_iinc (v := (x2 + (1 : Int32))) (lv' := [(2, .int (x2 + (1 : Int32))), (1, .int (x1 + ((x0 >>> (x2 &&& 31)) &&& (1 : Int32)))), (0, .int x0)]) hx hb (dk hX5_bits_0 15 rfl) hl (k := 2) rfl (by first | rfl | decide) (by decide) rfl (fun ls hl => ?_)
      refine lv_goto (tgt := 4) hx hb (dk hX5_bits_0 16 rfl) (by decide) ?_
      exact ih _ _ hf _ _ hs _ (lv_sub hl [2, 1, 0] rfl) hk
set_option maxRecDepth 100000 in
set_option maxHeartbeats 4000000 in
theorem c_X5_bits {l : Launch} {G : Gx} {w : va_W} {p0 : Int32} {out : Int32} (hf : X5_bits p0 = some out) : Ct l G yX5_bits cX5_bits 3 (some .int) 0 0 [.int p0] w (some (.int out)) w := by
  refine Ct.intro RX5 rfl (plainFor_of_name (by decide)) (Nat.le_of_ble_eq_true rfl) rfl ?_
  intro p e s m args below meth c A C H locs hs ls hl
  obtain ⟨hx, hb, hml, hown, hts, hK, hret, hlk⟩ := id C
  have hl : lv_has ls 3 [(0, .int p0)] := hl
  unfold X5_bits at hf
  refine lv_iconst (v := (0 : Int32)) hx hb (dk hX5_bits_0 0 rfl) (by decide) ?_
  refine lv_istore_n (lv' := [(1, .int (0 : Int32)), (0, .int p0)]) hx hb (dk hX5_bits_0 1 rfl) rfl hl (by decide) rfl (fun ls hl => ?_)
  refine lv_iconst (v := (0 : Int32)) hx hb (dk hX5_bits_0 2 rfl) (by decide) ?_
  refine lv_istore_n (lv' := [(2, .int (0 : Int32)), (1, .int (0 : Int32)), (0, .int p0)]) hx hb (dk hX5_bits_0 3 rfl) rfl hl (by decide) rfl (fun ls hl => ?_)
  refine l_X5_bits_L4 C 1000 _ _ hf _ _ hs _ (lv_sub hl [2, 1, 0] rfl) (fun y1_1 hf H locs hs ls hl => ?_)
  refine lv_iload_n hx hb (dk hX5_bits_0 17 rfl) rfl (lv_at hl 0 rfl) ?_
  cases hf
  exact ri C hs (dk hX5_bits_0 18 rfl)

def X5_isGood (p0 : Int32) : Option (Int32) :=
  if p0 < (0 : Int32) then
  some (0 : Int32)
  else
  if (6 : Int32) ≤ p0 then
  some (0 : Int32)
  else
  some (1 : Int32)
set_option maxRecDepth 100000 in
set_option maxHeartbeats 4000000 in
theorem c_X5_isGood {l : Launch} {G : Gx} {w : va_W} {p0 : Int32} {out : Int32} (hf : X5_isGood p0 = some out) : Ct l G yX5_isGood cX5_isGood 1 (some .boolean) 0 0 [.int p0] w (some (.int out)) w := by
  refine Ct.intro RX5 rfl (plainFor_of_name (by decide)) (Nat.le_of_ble_eq_true rfl) rfl ?_
  intro p e s m args below meth c A C H locs hs ls hl
  obtain ⟨hx, hb, hml, hown, hts, hK, hret, hlk⟩ := id C
  have hl : lv_has ls 1 [(0, .int p0)] := hl
  unfold X5_isGood at hf
  refine lv_iload_n hx hb (dk hX5_isGood_0 0 rfl) rfl (lv_at hl 0 rfl) ?_
  refine lv_if_lt (tgt := 14) hx hb (dk hX5_isGood_0 1 rfl) (by decide) (fun hc => ?_) (fun hc => ?_)
  · replace hf := ip hf hc
    refine lv_iconst (v := (0 : Int32)) hx hb (dk hX5_isGood_0 7 rfl) (by decide) ?_
    cases hf
    exact rz (x := (0 : Int32)) rfl C hs (dk hX5_isGood_0 8 rfl)
  · replace hf := in_ hf hc
    refine lv_iload_n hx hb (dk hX5_isGood_0 2 rfl) rfl (lv_at hl 0 rfl) ?_
    refine lv_bipush (v := (6 : Int32)) hx hb (dk hX5_isGood_0 3 rfl) (by decide) ?_
    refine lv_icmp_ge (tgt := 14) hx hb (dk hX5_isGood_0 4 rfl) (by decide) (fun hc => ?_) (fun hc => ?_)
    · replace hf := ip hf hc
      refine lv_iconst (v := (0 : Int32)) hx hb (dk hX5_isGood_0 7 rfl) (by decide) ?_
      cases hf
      exact rz (x := (0 : Int32)) rfl C hs (dk hX5_isGood_0 8 rfl)
    · replace hf := in_ hf hc
      refine lv_iconst (v := (1 : Int32)) hx hb (dk hX5_isGood_0 5 rfl) (by decide) ?_
      refine lv_goto (tgt := 15) hx hb (dk hX5_isGood_0 6 rfl) (by decide) ?_
      cases hf
      exact rz (x := (1 : Int32)) rfl C hs (dk hX5_isGood_0 8 rfl)

def X5_isShip (ships : Int32) (p0 : Int32) : Option (Int32) :=
  if p0 < (0 : Int32) then
  some (0 : Int32)
  else
  if ships ≤ p0 then
  some (0 : Int32)
  else
  some (1 : Int32)
set_option maxRecDepth 100000 in
set_option maxHeartbeats 4000000 in
theorem c_X5_isShip {l : Launch} {G : Gx} {ad : Nat → Nat} {refused there used hidden kind figure good load inn tape letter letterAt told kept row costs : List Int32} {ships coughs day away taped reading statements hasImage isKeeping cursor backs free goodFor loadedWhen bareGood bareWhen rowMany lots : Int32} {p0 : Int32} {out : Int32} (hf : X5_isShip ships p0 = some out) : Ct l G yX5_isShip cX5_isShip 2 (some .boolean) 0 0 [.ref (ad 0), .int p0] (wM G ad refused there used hidden kind figure good load inn tape letter letterAt told kept row costs ships coughs day away taped reading statements hasImage isKeeping cursor backs free goodFor loadedWhen bareGood bareWhen rowMany lots) (some (.int out)) (wM G ad refused there used hidden kind figure good load inn tape letter letterAt told kept row costs ships coughs day away taped reading statements hasImage isKeeping cursor backs free goodFor loadedWhen bareGood bareWhen rowMany lots) := by
  refine Ct.intro RX5 rfl (plainFor_of_name (by decide)) (Nat.le_of_ble_eq_true rfl) rfl ?_
  intro p e s m args below meth c A C H locs hs ls hl
  obtain ⟨hx, hb, hml, hown, hts, hK, hret, hlk⟩ := id C
  have hl : lv_has ls 2 [(0, .ref (ad 0)), (1, .int p0)] := hl
  unfold X5_isShip at hf
  refine lv_iload_n hx hb (dk hX5_isShip_0 0 rfl) rfl (lv_at hl 1 rfl) ?_
  refine lv_if_lt (tgt := 16) hx hb (dk hX5_isShip_0 1 rfl) (by decide) (fun hc => ?_) (fun hc => ?_)
  · replace hf := ip hf hc
    refine lv_iconst (v := (0 : Int32)) hx hb (dk hX5_isShip_0 8 rfl) (by decide) ?_
    cases hf
    exact rz (x := (0 : Int32)) rfl C hs (dk hX5_isShip_0 9 rfl)
  · replace hf := in_ hf hc
    refine lv_iload_n hx hb (dk hX5_isShip_0 2 rfl) rfl (lv_at hl 1 rfl) ?_
    refine lv_aload_n hx hb (dk hX5_isShip_0 3 rfl) rfl (lv_at hl 0 rfl) ?_
    refine rg ui5 rfl C hs 0 rfl 9 (by decide) tw_699 rfl rfl (dk hX5_isShip_0 4 rfl) ?_
    refine lv_icmp_ge (tgt := 16) hx hb (dk hX5_isShip_0 5 rfl) (by decide) (fun hc => ?_) (fun hc => ?_)
    · replace hf := ip hf hc
      refine lv_iconst (v := (0 : Int32)) hx hb (dk hX5_isShip_0 8 rfl) (by decide) ?_
      cases hf
      exact rz (x := (0 : Int32)) rfl C hs (dk hX5_isShip_0 9 rfl)
    · replace hf := in_ hf hc
      refine lv_iconst (v := (1 : Int32)) hx hb (dk hX5_isShip_0 6 rfl) (by decide) ?_
      refine lv_goto (tgt := 17) hx hb (dk hX5_isShip_0 7 rfl) (by decide) ?_
      cases hf
      exact rz (x := (1 : Int32)) rfl C hs (dk hX5_isShip_0 9 rfl)

def X5_feed (refused : List Int32) (tape : List Int32) (taped : Int32) (p0 : Int32) : Option (List Int32 × List Int32 × Int32 × Int32) :=
  (X5_bound p0 (0 : Int32) (255 : Int32)).bind fun u_1 =>
  if u_1 = (0 : Int32) then
  if taped = (96 : Int32) then
  (X5_no refused (-6 : Int32)).bind fun u_11 =>
  some (u_11.1, tape, taped, u_11.2)
  else
  if u_1 = (0 : Int32) then
  (wr tape taped p0).bind fun tape_7 =>
  some (refused, tape_7, (taped + (1 : Int32)), (taped + (1 : Int32)))
  else
  (X5_no refused u_1).bind fun u_9 =>
  some (u_9.1, tape, taped, u_9.2)
  else
  if u_1 = (0 : Int32) then
  (wr tape taped p0).bind fun tape_3 =>
  some (refused, tape_3, (taped + (1 : Int32)), (taped + (1 : Int32)))
  else
  (X5_no refused u_1).bind fun u_5 =>
  some (u_5.1, tape, taped, u_5.2)
set_option maxRecDepth 100000 in
set_option maxHeartbeats 4000000 in
theorem c_X5_feed {l : Launch} {G : Gx} {ad : Nat → Nat} {refused there used hidden kind figure good load inn tape letter letterAt told kept row costs : List Int32} {ships coughs day away taped reading statements hasImage isKeeping cursor backs free goodFor loadedWhen bareGood bareWhen rowMany lots : Int32} {p0 : Int32} {out : List Int32 × List Int32 × Int32 × Int32} (hf : X5_feed refused tape taped p0 = some out) : Ct l G yX5_feed cX5_feed 3 (some .int) 1 22 [.ref (ad 0), .int p0] (wM G ad refused there used hidden kind figure good load inn tape letter letterAt told kept row costs ships coughs day away taped reading statements hasImage isKeeping cursor backs free goodFor loadedWhen bareGood bareWhen rowMany lots) (some (.int out.2.2.2)) (wM G ad out.1 there used hidden kind figure good load inn out.2.1 letter letterAt told kept row costs ships coughs day away out.2.2.1 reading statements hasImage isKeeping cursor backs free goodFor loadedWhen bareGood bareWhen rowMany lots) := by
  refine Ct.intro RX5 rfl (plainFor_of_name (by decide)) (Nat.le_of_ble_eq_true rfl) rfl ?_
  intro p e s m args below meth c A C H locs hs ls hl
  obtain ⟨hx, hb, hml, hown, hts, hK, hret, hlk⟩ := id C
  have hl : lv_has ls 3 [(0, .ref (ad 0)), (1, .int p0)] := hl
  unfold X5_feed at hf
  refine lv_iload_n hx hb (dk hX5_feed_0 0 rfl) rfl (lv_at hl 1 rfl) ?_
  refine lv_iconst (v := (0 : Int32)) hx hb (dk hX5_feed_0 1 rfl) (by decide) ?_
  refine lv_sipush (v := (255 : Int32)) hx hb (dk hX5_feed_0 2 rfl) (by decide) ?_
  obtain ⟨u_1, e_2, hf⟩ := Option.bind_eq_some_iff.mp hf
  refine Ct.S (As := [.int p0, .int (0 : Int32), .int (255 : Int32)]) (rest := []) (st1 := [.int u_1]) (w1 := (wM G ad refused there used hidden kind figure good load inn tape letter letterAt told kept row costs ships coughs day away taped reading statements hasImage isKeeping cursor backs free goodFor loadedWhen bareGood bareWhen rowMany lots)) C hs (c_X5_bound e_2) tw_797 tw_798 tw_85 tw_799 nq_X5_bound (by decide) rfl hl.1 rfl (Nat.le_of_ble_eq_true rfl) (dk hX5_feed_0 3 rfl) ⟨Nat.zero_le _, Nat.zero_le _⟩ rfl (fun H locs hs => ?_)
  refine lv_istore_n (lv' := [(2, .int u_1), (0, .ref (ad 0)), (1, .int p0)]) hx hb (dk hX5_feed_0 4 rfl) rfl hl (by decide) rfl (fun ls hl => ?_)
  refine lv_iload_n hx hb (dk hX5_feed_0 5 rfl) rfl (lv_at hl 0 rfl) ?_
  refine lv_if_ne (tgt := 25) hx hb (dk hX5_feed_0 6 rfl) (by decide) (fun hc => ?_) (fun hc => ?_)
  · replace hf := in_ hf hc
    refine lv_iload_n hx hb (dk hX5_feed_0 13 rfl) rfl (lv_at hl 0 rfl) ?_
    refine lv_if_eq (tgt := 35) hx hb (dk hX5_feed_0 14 rfl) (by decide) (fun hc => ?_) (fun hc => ?_)
    · replace hf := ip hf hc
      refine lv_aload_n hx hb (dk hX5_feed_0 19 rfl) rfl (lv_at hl 1 rfl) ?_
      refine rg ui5 rfl C hs 0 rfl 13 (by decide) tw_703 rfl rfl (dk hX5_feed_0 20 rfl) ?_
      refine lv_aload_n hx hb (dk hX5_feed_0 21 rfl) rfl (lv_at hl 1 rfl) ?_
      refine rg ui5 rfl C hs 0 rfl 17 (by decide) tw_707 rfl rfl (dk hX5_feed_0 22 rfl) ?_
      refine lv_iload_n hx hb (dk hX5_feed_0 23 rfl) rfl (lv_at hl 2 rfl) ?_
      obtain ⟨tape_3, e_4, hf⟩ := Option.bind_eq_some_iff.mp hf
      refine rist (w1 := (wM G ad refused there used hidden kind figure good load inn tape_3 letter letterAt told kept row costs ships coughs day away taped reading statements hasImage isKeeping cursor backs free goodFor loadedWhen bareGood bareWhen rowMany lots)) C hs 10 rfl e_4 rfl (dk hX5_feed_0 24 rfl) (fun H locs hs => ?_)
      refine lv_aload_n hx hb (dk hX5_feed_0 25 rfl) rfl (lv_at hl 1 rfl) ?_
      refine lv_dup hx hb (dk hX5_feed_0 26 rfl) rfl ?_
      refine rg ui5 rfl C hs 0 rfl 17 (by decide) tw_707 rfl rfl (dk hX5_feed_0 27 rfl) ?_
      refine lv_iconst (v := (1 : Int32)) hx hb (dk hX5_feed_0 28 rfl) (by decide) ?_
      refine lv_iadd hx hb (dk hX5_feed_0 29 rfl) ?_
      refine rp (w1 := (wM G ad refused there used hidden kind figure good load inn tape_3 letter letterAt told kept row costs ships coughs day away (taped + (1 : Int32)) reading statements hasImage isKeeping cursor backs free goodFor loadedWhen bareGood bareWhen rowMany lots)) tyX5 tyX5_ok nmX5 ui5 rfl C hs 0 rfl 17 (by decide) tw_707 rfl rfl rfl rfl (Nat.le_of_ble_eq_true rfl) rfl (dk hX5_feed_0 30 rfl) (fun H locs hs => ?_)
      refine lv_aload_n hx hb (dk hX5_feed_0 31 rfl) rfl (lv_at hl 1 rfl) ?_
      refine rg ui5 rfl C hs 0 rfl 17 (by decide) tw_707 rfl rfl (dk hX5_feed_0 32 rfl) ?_
      cases hf
      exact ri C hs (dk hX5_feed_0 33 rfl)
    · replace hf := in_ hf hc
      refine lv_aload_n hx hb (dk hX5_feed_0 15 rfl) rfl (lv_at hl 1 rfl) ?_
      refine lv_iload_n hx hb (dk hX5_feed_0 16 rfl) rfl (lv_at hl 0 rfl) ?_
      obtain ⟨u_5, e_6, hf⟩ := Option.bind_eq_some_iff.mp hf
      refine Ct.V (As := [.int u_1]) (rest := []) (st1 := [.int u_5.2]) (w1 := (wM G ad u_5.1 there used hidden kind figure good load inn tape letter letterAt told kept row costs ships coughs day away taped reading statements hasImage isKeeping cursor backs free goodFor loadedWhen bareGood bareWhen rowMany lots)) C hs (c_X5_no e_6) tw_800 tw_802 tw_21 tw_85 tw_803 nq_X5_no (by decide) 0 5 rfl rfl rfl rfl hl.1 rfl (Nat.le_of_ble_eq_true rfl) (dk hX5_feed_0 17 rfl) ⟨Nat.zero_le _, Nat.zero_le _⟩ rfl (fun H locs hs => ?_)
      cases hf
      exact ri C hs (dk hX5_feed_0 18 rfl)
  · replace hf := ip hf hc
    refine lv_aload_n hx hb (dk hX5_feed_0 7 rfl) rfl (lv_at hl 1 rfl) ?_
    refine rg ui5 rfl C hs 0 rfl 17 (by decide) tw_707 rfl rfl (dk hX5_feed_0 8 rfl) ?_
    refine lv_bipush (v := (96 : Int32)) hx hb (dk hX5_feed_0 9 rfl) (by decide) ?_
    refine lv_icmp_ne (tgt := 25) hx hb (dk hX5_feed_0 10 rfl) (by decide) (fun hc => ?_) (fun hc => ?_)
    · replace hf := in_ hf hc
      refine lv_iload_n hx hb (dk hX5_feed_0 13 rfl) rfl (lv_at hl 0 rfl) ?_
      refine lv_if_eq (tgt := 35) hx hb (dk hX5_feed_0 14 rfl) (by decide) (fun hc => ?_) (fun hc => ?_)
      · replace hf := ip hf hc
        refine lv_aload_n hx hb (dk hX5_feed_0 19 rfl) rfl (lv_at hl 1 rfl) ?_
        refine rg ui5 rfl C hs 0 rfl 13 (by decide) tw_703 rfl rfl (dk hX5_feed_0 20 rfl) ?_
        refine lv_aload_n hx hb (dk hX5_feed_0 21 rfl) rfl (lv_at hl 1 rfl) ?_
        refine rg ui5 rfl C hs 0 rfl 17 (by decide) tw_707 rfl rfl (dk hX5_feed_0 22 rfl) ?_
        refine lv_iload_n hx hb (dk hX5_feed_0 23 rfl) rfl (lv_at hl 2 rfl) ?_
        obtain ⟨tape_7, e_8, hf⟩ := Option.bind_eq_some_iff.mp hf
        refine rist (w1 := (wM G ad refused there used hidden kind figure good load inn tape_7 letter letterAt told kept row costs ships coughs day away taped reading statements hasImage isKeeping cursor backs free goodFor loadedWhen bareGood bareWhen rowMany lots)) C hs 10 rfl e_8 rfl (dk hX5_feed_0 24 rfl) (fun H locs hs => ?_)
        refine lv_aload_n hx hb (dk hX5_feed_0 25 rfl) rfl (lv_at hl 1 rfl) ?_
        refine lv_dup hx hb (dk hX5_feed_0 26 rfl) rfl ?_
        refine rg ui5 rfl C hs 0 rfl 17 (by decide) tw_707 rfl rfl (dk hX5_feed_0 27 rfl) ?_
        refine lv_iconst (v := (1 : Int32)) hx hb (dk hX5_feed_0 28 rfl) (by decide) ?_
        refine lv_iadd hx hb (dk hX5_feed_0 29 rfl) ?_
        refine rp (w1 := (wM G ad refused there used hidden kind figure good load inn tape_7 letter letterAt told kept row costs ships coughs day away (taped + (1 : Int32)) reading statements hasImage isKeeping cursor backs free goodFor loadedWhen bareGood bareWhen rowMany lots)) tyX5 tyX5_ok nmX5 ui5 rfl C hs 0 rfl 17 (by decide) tw_707 rfl rfl rfl rfl (Nat.le_of_ble_eq_true rfl) rfl (dk hX5_feed_0 30 rfl) (fun H locs hs => ?_)
        refine lv_aload_n hx hb (dk hX5_feed_0 31 rfl) rfl (lv_at hl 1 rfl) ?_
        refine rg ui5 rfl C hs 0 rfl 17 (by decide) tw_707 rfl rfl (dk hX5_feed_0 32 rfl) ?_
        cases hf
        exact ri C hs (dk hX5_feed_0 33 rfl)
      · replace hf := in_ hf hc
        refine lv_aload_n hx hb (dk hX5_feed_0 15 rfl) rfl (lv_at hl 1 rfl) ?_
        refine lv_iload_n hx hb (dk hX5_feed_0 16 rfl) rfl (lv_at hl 0 rfl) ?_
        obtain ⟨u_9, e_10, hf⟩ := Option.bind_eq_some_iff.mp hf
        refine Ct.V (As := [.int u_1]) (rest := []) (st1 := [.int u_9.2]) (w1 := (wM G ad u_9.1 there used hidden kind figure good load inn tape letter letterAt told kept row costs ships coughs day away taped reading statements hasImage isKeeping cursor backs free goodFor loadedWhen bareGood bareWhen rowMany lots)) C hs (c_X5_no e_10) tw_800 tw_802 tw_21 tw_85 tw_803 nq_X5_no (by decide) 0 5 rfl rfl rfl rfl hl.1 rfl (Nat.le_of_ble_eq_true rfl) (dk hX5_feed_0 17 rfl) ⟨Nat.zero_le _, Nat.zero_le _⟩ rfl (fun H locs hs => ?_)
        cases hf
        exact ri C hs (dk hX5_feed_0 18 rfl)
    · replace hf := ip hf hc
      refine lv_bipush (v := (-6 : Int32)) hx hb (dk hX5_feed_0 11 rfl) (by decide) ?_
      refine lv_istore_n (lv' := [(2, .int (-6 : Int32)), (0, .ref (ad 0)), (1, .int p0)]) hx hb (dk hX5_feed_0 12 rfl) rfl hl (by decide) rfl (fun ls hl => ?_)
      refine lv_iload_n hx hb (dk hX5_feed_0 13 rfl) rfl (lv_at hl 0 rfl) ?_
      refine lv_if_eq (tgt := 35) hx hb (dk hX5_feed_0 14 rfl) (by decide) (fun hc => ?_) (fun hc => ?_)
      · exact absurd hc (by decide)
      · refine lv_aload_n hx hb (dk hX5_feed_0 15 rfl) rfl (lv_at hl 1 rfl) ?_
        refine lv_iload_n hx hb (dk hX5_feed_0 16 rfl) rfl (lv_at hl 0 rfl) ?_
        obtain ⟨u_11, e_12, hf⟩ := Option.bind_eq_some_iff.mp hf
        refine Ct.V (As := [.int (-6 : Int32)]) (rest := []) (st1 := [.int u_11.2]) (w1 := (wM G ad u_11.1 there used hidden kind figure good load inn tape letter letterAt told kept row costs ships coughs day away taped reading statements hasImage isKeeping cursor backs free goodFor loadedWhen bareGood bareWhen rowMany lots)) C hs (c_X5_no e_12) tw_800 tw_802 tw_21 tw_85 tw_803 nq_X5_no (by decide) 0 5 rfl rfl rfl rfl hl.1 rfl (Nat.le_of_ble_eq_true rfl) (dk hX5_feed_0 17 rfl) ⟨Nat.zero_le _, Nat.zero_le _⟩ rfl (fun H locs hs => ?_)
        cases hf
        exact ri C hs (dk hX5_feed_0 18 rfl)

def X5_next (tape : List Int32) (taped : Int32) (reading : Int32) : Option (Int32) :=
  if taped ≤ reading then
  some (-1 : Int32)
  else
  (rd tape reading).bind fun v_1 =>
  some v_1
set_option maxRecDepth 100000 in
set_option maxHeartbeats 4000000 in
theorem c_X5_next {l : Launch} {G : Gx} {ad : Nat → Nat} {refused there used hidden kind figure good load inn tape letter letterAt told kept row costs : List Int32} {ships coughs day away taped reading statements hasImage isKeeping cursor backs free goodFor loadedWhen bareGood bareWhen rowMany lots : Int32}  {out : Int32} (hf : X5_next tape taped reading = some out) : Ct l G yX5_next cX5_next 1 (some .int) 0 0 [.ref (ad 0)] (wM G ad refused there used hidden kind figure good load inn tape letter letterAt told kept row costs ships coughs day away taped reading statements hasImage isKeeping cursor backs free goodFor loadedWhen bareGood bareWhen rowMany lots) (some (.int out)) (wM G ad refused there used hidden kind figure good load inn tape letter letterAt told kept row costs ships coughs day away taped reading statements hasImage isKeeping cursor backs free goodFor loadedWhen bareGood bareWhen rowMany lots) := by
  refine Ct.intro RX5 rfl (plainFor_of_name (by decide)) (Nat.le_of_ble_eq_true rfl) rfl ?_
  intro p e s m args below meth c A C H locs hs ls hl
  obtain ⟨hx, hb, hml, hown, hts, hK, hret, hlk⟩ := id C
  have hl : lv_has ls 1 [(0, .ref (ad 0))] := hl
  unfold X5_next at hf
  refine lv_aload_n hx hb (dk hX5_next_0 0 rfl) rfl (lv_at hl 0 rfl) ?_
  refine rg ui5 rfl C hs 0 rfl 18 (by decide) tw_708 rfl rfl (dk hX5_next_0 1 rfl) ?_
  refine lv_aload_n hx hb (dk hX5_next_0 2 rfl) rfl (lv_at hl 0 rfl) ?_
  refine rg ui5 rfl C hs 0 rfl 17 (by decide) tw_707 rfl rfl (dk hX5_next_0 3 rfl) ?_
  refine lv_icmp_ge (tgt := 23) hx hb (dk hX5_next_0 4 rfl) (by decide) (fun hc => ?_) (fun hc => ?_)
  · replace hf := ip hf hc
    refine lv_iconst (v := (-1 : Int32)) hx hb (dk hX5_next_0 11 rfl) (by decide) ?_
    cases hf
    exact ri C hs (dk hX5_next_0 12 rfl)
  · replace hf := in_ hf hc
    refine lv_aload_n hx hb (dk hX5_next_0 5 rfl) rfl (lv_at hl 0 rfl) ?_
    refine rg ui5 rfl C hs 0 rfl 13 (by decide) tw_703 rfl rfl (dk hX5_next_0 6 rfl) ?_
    refine lv_aload_n hx hb (dk hX5_next_0 7 rfl) rfl (lv_at hl 0 rfl) ?_
    refine rg ui5 rfl C hs 0 rfl 18 (by decide) tw_708 rfl rfl (dk hX5_next_0 8 rfl) ?_
    obtain ⟨v_1, e_2, hf⟩ := Option.bind_eq_some_iff.mp hf
    refine rild C hs 10 rfl e_2 (dk hX5_next_0 9 rfl) ?_
    refine lv_goto (tgt := 24) hx hb (dk hX5_next_0 10 rfl) (by decide) ?_
    cases hf
    exact ri C hs (dk hX5_next_0 12 rfl)

def X5_readsDigits_L5 (k : Int32 → Int32 → Option (List Int32 × Int32 × Int32)) (tape : List Int32) (told : List Int32) (taped : Int32) (x2 : Int32) : Nat → Int32 → Int32 → Int32 → Option (List Int32 × Int32 × Int32)
  | 0, _, _, _ => none
  | n + 1, x3, x4, reading =>
  if x2 ≤ x4 then
  k x3 reading
  else
  (X5_next tape taped reading).bind fun u_1 =>
  (X5_isIn u_1 (48 : Int32) (57 : Int32)).bind fun u_3 =>
  if u_3 = (0 : Int32) then
  some (told, reading, (0 : Int32))
  else
  (X5_next tape taped reading).bind fun u_5 =>
  X5_readsDigits_L5 k tape told taped x2 n ((((10 : Int32) * x3) + u_5) - (48 : Int32)) (x4 + (1 : Int32)) (reading + (1 : Int32))
def X5_readsDigits (tape : List Int32) (told : List Int32) (taped : Int32) (reading : Int32) (p0 : Int32) (p1 : Int32) : Option (List Int32 × Int32 × Int32) :=
  X5_readsDigits_L5 (fun y3_7 reading_8 =>
  (wr told p0 y3_7).bind fun told_9 =>
  some (told_9, reading_8, (1 : Int32))) tape told taped p1 1000 (0 : Int32) (0 : Int32) reading
set_option maxRecDepth 100000 in
set_option maxHeartbeats 4000000 in
theorem l_X5_readsDigits_L5 {l : Launch} {p : Program} {e : Env} {s : State} {m : MethodId} {args : Array Value} {below : List Frame} {meth : Method} {c : Code} {A : Nat → Prop} {G : Gx} {ad : Nat → Nat} {refused there used hidden kind figure good load inn tape letter letterAt told kept row costs : List Int32} {ships coughs day away taped statements hasImage isKeeping cursor backs free goodFor loadedWhen bareGood bareWhen rowMany lots : Int32} {x1 : Int32} {x2 : Int32} {k : Int32 → Int32 → Option (List Int32 × Int32 × Int32)} {out : List Int32 × Int32 × Int32} (C : Cx p s m args meth c cX5_readsDigits RX5 5 (some .boolean) G) : ∀ (n : Nat) (x3 : Int32) (x4 : Int32) (reading : Int32), X5_readsDigits_L5 k tape told taped x2 n x3 x4 reading = some out → ∀ (H : Heap) (locs : List Loc), St G A s.heap H locs (wM G ad refused there used hidden kind figure good load inn tape letter letterAt told kept row costs ships coughs day away taped reading statements hasImage isKeeping cursor backs free goodFor loadedWhen bareGood bareWhen rowMany lots) → ∀ ls : Array Slot, lv_has ls 5 [(0, .ref (ad 0)), (1, .int x1), (2, .int x2), (3, .int x3), (4, .int x4)] → (∀ (y3 : Int32) (z_reading : Int32), k y3 z_reading = some out → ∀ (H : Heap) (locs : List Loc), St G A s.heap H locs (wM G ad refused there used hidden kind figure good load inn tape letter letterAt told kept row costs ships coughs day away taped z_reading statements hasImage isKeeping cursor backs free goodFor loadedWhen bareGood bareWhen rowMany lots) → ∀ ls : Array Slot, lv_has ls 5 [(0, .ref (ad 0)), (1, .int x1), (3, .int y3)] → W p l e (rmOf 1 22) s m args below meth c H locs 0 0 (MQ below (Qof G A (some (.int out.2.2)) (wM G ad refused there used hidden kind figure good load inn tape letter letterAt out.1 kept row costs ships coughs day away taped out.2.1 statements hasImage isKeeping cursor backs free goodFor loadedWhen bareGood bareWhen rowMany lots)) args s 0 0 A) (F0 m 56 ls [])) → W p l e (rmOf 1 22) s m args below meth c H locs 0 0 (MQ below (Qof G A (some (.int out.2.2)) (wM G ad refused there used hidden kind figure good load inn tape letter letterAt out.1 kept row costs ships coughs day away taped out.2.1 statements hasImage isKeeping cursor backs free goodFor loadedWhen bareGood bareWhen rowMany lots)) args s 0 0 A) (F0 m 5 ls []) := by
  obtain ⟨hx, hb, hml, hown, hts, hK, hret, hlk⟩ := id C
  intro n
  induction n with
  | zero => intro x3 x4 reading hf; cases hf
  | succ n ih =>
    intro x3 x4 reading hf H locs hs ls hl hk
    rw [X5_readsDigits_L5] at hf
    refine lv_iload hx hb (dk hX5_readsDigits_0 4 rfl) (lv_at hl 4 rfl) ?_
    refine lv_iload_n hx hb (dk hX5_readsDigits_0 5 rfl) rfl (lv_at hl 2 rfl) ?_
    refine lv_icmp_ge (tgt := 56) hx hb (dk hX5_readsDigits_0 6 rfl) (by decide) (fun hc => ?_) (fun hc => ?_)
    · replace hf := ip hf hc
      exact hk _ _ hf _ _ hs _ (lv_sub hl [0, 1, 3] rfl)
    · replace hf := in_ hf hc
      refine lv_aload_n hx hb (dk hX5_readsDigits_0 7 rfl) rfl (lv_at hl 0 rfl) ?_
      obtain ⟨u_1, e_2, hf⟩ := Option.bind_eq_some_iff.mp hf
      refine Ct.V (As := []) (rest := []) (st1 := [.int u_1]) (w1 := (wM G ad refused there used hidden kind figure good load inn tape letter letterAt told kept row costs ships coughs day away taped reading statements hasImage isKeeping cursor backs free goodFor loadedWhen bareGood bareWhen rowMany lots)) C hs (c_X5_next e_2) tw_812 tw_814 tw_23 tw_85 tw_815 nq_X5_next (by decide) 0 5 rfl rfl rfl rfl hl.1 rfl (Nat.le_of_ble_eq_true rfl) (dk hX5_readsDigits_0 8 rfl) ⟨Nat.zero_le _, Nat.zero_le _⟩ rfl (fun H locs hs => ?_)
      refine lv_bipush (v := (48 : Int32)) hx hb (dk hX5_readsDigits_0 9 rfl) (by decide) ?_
      refine lv_bipush (v := (57 : Int32)) hx hb (dk hX5_readsDigits_0 10 rfl) (by decide) ?_
      obtain ⟨u_3, e_4, hf⟩ := Option.bind_eq_some_iff.mp hf
      refine Ct.S (As := [.int u_1, .int (48 : Int32), .int (57 : Int32)]) (rest := []) (st1 := [.int u_3]) (w1 := (wM G ad refused there used hidden kind figure good load inn tape letter letterAt told kept row costs ships coughs day away taped reading statements hasImage isKeeping cursor backs free goodFor loadedWhen bareGood bareWhen rowMany lots)) C hs (c_X5_isIn e_4) tw_824 tw_825 tw_85 tw_826 nq_X5_isIn (by decide) rfl hl.1 rfl (Nat.le_of_ble_eq_true rfl) (dk hX5_readsDigits_0 11 rfl) ⟨Nat.zero_le _, Nat.zero_le _⟩ rfl (fun H locs hs => ?_)
      refine lv_if_ne (tgt := 27) hx hb (dk hX5_readsDigits_0 12 rfl) (by decide) (fun hc => ?_) (fun hc => ?_)
      · replace hf := in_ hf hc
        refine lv_bipush (v := (10 : Int32)) hx hb (dk hX5_readsDigits_0 15 rfl) (by decide) ?_
        refine lv_iload_n hx hb (dk hX5_readsDigits_0 16 rfl) rfl (lv_at hl 3 rfl) ?_
        refine lv_imul hx hb (dk hX5_readsDigits_0 17 rfl) ?_
        refine lv_aload_n hx hb (dk hX5_readsDigits_0 18 rfl) rfl (lv_at hl 0 rfl) ?_
        obtain ⟨u_5, e_6, hf⟩ := Option.bind_eq_some_iff.mp hf
        refine Ct.V (As := []) (rest := [.int ((10 : Int32) * x3)]) (st1 := [.int u_5, .int ((10 : Int32) * x3)]) (w1 := (wM G ad refused there used hidden kind figure good load inn tape letter letterAt told kept row costs ships coughs day away taped reading statements hasImage isKeeping cursor backs free goodFor loadedWhen bareGood bareWhen rowMany lots)) C hs (c_X5_next e_6) tw_812 tw_814 tw_23 tw_85 tw_815 nq_X5_next (by decide) 0 5 rfl rfl rfl rfl hl.1 rfl (Nat.le_of_ble_eq_true rfl) (dk hX5_readsDigits_0 19 rfl) ⟨Nat.zero_le _, Nat.zero_le _⟩ rfl (fun H locs hs => ?_)
        refine lv_iadd hx hb (dk hX5_readsDigits_0 20 rfl) ?_
        refine lv_bipush (v := (48 : Int32)) hx hb (dk hX5_readsDigits_0 21 rfl) (by decide) ?_
        refine lv_isub hx hb (dk hX5_readsDigits_0 22 rfl) ?_
        refine lv_istore_n (lv' := [(3, .int ((((10 : Int32) * x3) + u_5) - (48 : Int32))), (0, .ref (ad 0)), (1, .int x1), (2, .int x2), (4, .int x4)]) hx hb (dk hX5_readsDigits_0 23 rfl) rfl hl (by decide) rfl (fun ls hl => ?_)
        refine lv_aload_n hx hb (dk hX5_readsDigits_0 24 rfl) rfl (lv_at hl 1 rfl) ?_
        refine lv_dup hx hb (dk hX5_readsDigits_0 25 rfl) rfl ?_
        refine rg ui5 rfl C hs 0 rfl 18 (by decide) tw_708 rfl rfl (dk hX5_readsDigits_0 26 rfl) ?_
        refine lv_iconst (v := (1 : Int32)) hx hb (dk hX5_readsDigits_0 27 rfl) (by decide) ?_
        refine lv_iadd hx hb (dk hX5_readsDigits_0 28 rfl) ?_
        refine rp (w1 := (wM G ad refused there used hidden kind figure good load inn tape letter letterAt told kept row costs ships coughs day away taped (reading + (1 : Int32)) statements hasImage isKeeping cursor backs free goodFor loadedWhen bareGood bareWhen rowMany lots)) tyX5 tyX5_ok nmX5 ui5 rfl C hs 0 rfl 18 (by decide) tw_708 rfl rfl rfl rfl (Nat.le_of_ble_eq_true rfl) rfl (dk hX5_readsDigits_0 29 rfl) (fun H locs hs => ?_)
        refine lv_iinc (v := (x4 + (1 : Int32))) (lv' := [(4, .int (x4 + (1 : Int32))), (3, .int ((((10 : Int32) * x3) + u_5) - (48 : Int32))), (0, .ref (ad 0)), (1, .int x1), (2, .int x2)]) hx hb (dk hX5_readsDigits_0 30 rfl) hl (k := 4) rfl (by first | rfl | decide) (by decide) rfl (fun ls hl => ?_)
        refine lv_goto (tgt := 5) hx hb (dk hX5_readsDigits_0 31 rfl) (by decide) ?_
        exact ih _ _ _ hf _ _ hs _ (lv_sub hl [2, 3, 4, 1, 0] rfl) hk
      · replace hf := ip hf hc
        refine lv_iconst (v := (0 : Int32)) hx hb (dk hX5_readsDigits_0 13 rfl) (by decide) ?_
        cases hf
        exact rz (x := (0 : Int32)) rfl C hs (dk hX5_readsDigits_0 14 rfl)
set_option maxRecDepth 100000 in
set_option maxHeartbeats 4000000 in
theorem c_X5_readsDigits {l : Launch} {G : Gx} {ad : Nat → Nat} {refused there used hidden kind figure good load inn tape letter letterAt told kept row costs : List Int32} {ships coughs day away taped reading statements hasImage isKeeping cursor backs free goodFor loadedWhen bareGood bareWhen rowMany lots : Int32} {p0 : Int32} {p1 : Int32} {out : List Int32 × Int32 × Int32} (hf : X5_readsDigits tape told taped reading p0 p1 = some out) : Ct l G yX5_readsDigits cX5_readsDigits 5 (some .boolean) 1 22 [.ref (ad 0), .int p0, .int p1] (wM G ad refused there used hidden kind figure good load inn tape letter letterAt told kept row costs ships coughs day away taped reading statements hasImage isKeeping cursor backs free goodFor loadedWhen bareGood bareWhen rowMany lots) (some (.int out.2.2)) (wM G ad refused there used hidden kind figure good load inn tape letter letterAt out.1 kept row costs ships coughs day away taped out.2.1 statements hasImage isKeeping cursor backs free goodFor loadedWhen bareGood bareWhen rowMany lots) := by
  refine Ct.intro RX5 rfl (plainFor_of_name (by decide)) (Nat.le_of_ble_eq_true rfl) rfl ?_
  intro p e s m args below meth c A C H locs hs ls hl
  obtain ⟨hx, hb, hml, hown, hts, hK, hret, hlk⟩ := id C
  have hl : lv_has ls 5 [(0, .ref (ad 0)), (1, .int p0), (2, .int p1)] := hl
  unfold X5_readsDigits at hf
  refine lv_iconst (v := (0 : Int32)) hx hb (dk hX5_readsDigits_0 0 rfl) (by decide) ?_
  refine lv_istore_n (lv' := [(3, .int (0 : Int32)), (0, .ref (ad 0)), (1, .int p0), (2, .int p1)]) hx hb (dk hX5_readsDigits_0 1 rfl) rfl hl (by decide) rfl (fun ls hl => ?_)
  refine lv_iconst (v := (0 : Int32)) hx hb (dk hX5_readsDigits_0 2 rfl) (by decide) ?_
  refine lv_istore (lv' := [(4, .int (0 : Int32)), (3, .int (0 : Int32)), (0, .ref (ad 0)), (1, .int p0), (2, .int p1)]) hx hb (dk hX5_readsDigits_0 3 rfl) hl (by decide) rfl (fun ls hl => ?_)
  refine l_X5_readsDigits_L5 C 1000 _ _ _ hf _ _ hs _ (lv_sub hl [2, 3, 4, 1, 0] rfl) (fun y3_7 reading_8 hf H locs hs ls hl => ?_)
  refine lv_aload_n hx hb (dk hX5_readsDigits_0 32 rfl) rfl (lv_at hl 0 rfl) ?_
  refine rg ui5 rfl C hs 0 rfl 16 (by decide) tw_706 rfl rfl (dk hX5_readsDigits_0 33 rfl) ?_
  refine lv_iload_n hx hb (dk hX5_readsDigits_0 34 rfl) rfl (lv_at hl 1 rfl) ?_
  refine lv_iload_n hx hb (dk hX5_readsDigits_0 35 rfl) rfl (lv_at hl 2 rfl) ?_
  obtain ⟨told_9, e_10, hf⟩ := Option.bind_eq_some_iff.mp hf
  refine rist (w1 := (wM G ad refused there used hidden kind figure good load inn tape letter letterAt told_9 kept row costs ships coughs day away taped reading_8 statements hasImage isKeeping cursor backs free goodFor loadedWhen bareGood bareWhen rowMany lots)) C hs 13 rfl e_10 rfl (dk hX5_readsDigits_0 36 rfl) (fun H locs hs => ?_)
  refine lv_iconst (v := (1 : Int32)) hx hb (dk hX5_readsDigits_0 37 rfl) (by decide) ?_
  cases hf
  exact rz (x := (1 : Int32)) rfl C hs (dk hX5_readsDigits_0 38 rfl)

def X5_readsAll (tape : List Int32) (told : List Int32) (taped : Int32) (reading : Int32) (p0 : Int32) (p1 : Int32) : Option (List Int32 × Int32 × Int32) :=
  if p0 = (104 : Int32) then
  (X5_readsDigits tape told taped reading p1 (1 : Int32)).bind fun u_1 =>
  if u_1.2.2 = (0 : Int32) then
  some (u_1.1, u_1.2.1, (0 : Int32))
  else
  (X5_readsDigits tape u_1.1 taped u_1.2.1 (p1 + (1 : Int32)) (2 : Int32)).bind fun u_3 =>
  if u_3.2.2 = (0 : Int32) then
  some (u_3.1, u_3.2.1, (0 : Int32))
  else
  some (u_3.1, u_3.2.1, (1 : Int32))
  else
  if p0 = (111 : Int32) then
  (X5_readsDigits tape told taped reading p1 (1 : Int32)).bind fun u_6 =>
  (c01 u_6.2.2).bind fun b_8 =>
  some (u_6.1, u_6.2.1, b_8)
  else
  if p0 = (115 : Int32) then
  (X5_readsDigits tape told taped reading p1 (1 : Int32)).bind fun u_11 =>
  if u_11.2.2 = (0 : Int32) then
  some (u_11.1, u_11.2.1, (0 : Int32))
  else
  (X5_readsDigits tape u_11.1 taped u_11.2.1 (p1 + (1 : Int32)) (1 : Int32)).bind fun u_13 =>
  if u_13.2.2 = (0 : Int32) then
  some (u_13.1, u_13.2.1, (0 : Int32))
  else
  (X5_readsDigits tape u_13.1 taped u_13.2.1 (p1 + (2 : Int32)) (1 : Int32)).bind fun u_15 =>
  if u_15.2.2 = (0 : Int32) then
  some (u_15.1, u_15.2.1, (0 : Int32))
  else
  (X5_readsDigits tape u_15.1 taped u_15.2.1 (p1 + (3 : Int32)) (2 : Int32)).bind fun u_17 =>
  if u_17.2.2 = (0 : Int32) then
  some (u_17.1, u_17.2.1, (0 : Int32))
  else
  some (u_17.1, u_17.2.1, (1 : Int32))
  else
  if p0 = (116 : Int32) then
  (X5_readsDigits tape told taped reading p1 (1 : Int32)).bind fun u_20 =>
  if u_20.2.2 = (0 : Int32) then
  some (u_20.1, u_20.2.1, (0 : Int32))
  else
  (X5_readsDigits tape u_20.1 taped u_20.2.1 (p1 + (1 : Int32)) (2 : Int32)).bind fun u_22 =>
  if u_22.2.2 = (0 : Int32) then
  some (u_22.1, u_22.2.1, (0 : Int32))
  else
  some (u_22.1, u_22.2.1, (1 : Int32))
  else
  if p0 = (117 : Int32) then
  (X5_readsDigits tape told taped reading p1 (1 : Int32)).bind fun u_25 =>
  if u_25.2.2 = (0 : Int32) then
  some (u_25.1, u_25.2.1, (0 : Int32))
  else
  (X5_readsDigits tape u_25.1 taped u_25.2.1 (p1 + (1 : Int32)) (1 : Int32)).bind fun u_27 =>
  if u_27.2.2 = (0 : Int32) then
  some (u_27.1, u_27.2.1, (0 : Int32))
  else
  some (u_27.1, u_27.2.1, (1 : Int32))
  else
  (X5_readsDigits tape told taped reading p1 (2 : Int32)).bind fun u_30 =>
  (c01 u_30.2.2).bind fun b_32 =>
  some (u_30.1, u_30.2.1, b_32)
set_option maxRecDepth 100000 in
set_option maxHeartbeats 4000000 in
theorem c_X5_readsAll {l : Launch} {G : Gx} {ad : Nat → Nat} {refused there used hidden kind figure good load inn tape letter letterAt told kept row costs : List Int32} {ships coughs day away taped reading statements hasImage isKeeping cursor backs free goodFor loadedWhen bareGood bareWhen rowMany lots : Int32} {p0 : Int32} {p1 : Int32} {out : List Int32 × Int32 × Int32} (hf : X5_readsAll tape told taped reading p0 p1 = some out) : Ct l G yX5_readsAll cX5_readsAll 3 (some .boolean) 2 46 [.ref (ad 0), .int p0, .int p1] (wM G ad refused there used hidden kind figure good load inn tape letter letterAt told kept row costs ships coughs day away taped reading statements hasImage isKeeping cursor backs free goodFor loadedWhen bareGood bareWhen rowMany lots) (some (.int out.2.2)) (wM G ad refused there used hidden kind figure good load inn tape letter letterAt out.1 kept row costs ships coughs day away taped out.2.1 statements hasImage isKeeping cursor backs free goodFor loadedWhen bareGood bareWhen rowMany lots) := by
  refine Ct.intro RX5 rfl (plainFor_of_name (by decide)) (Nat.le_of_ble_eq_true rfl) rfl ?_
  intro p e s m args below meth c A C H locs hs ls hl
  obtain ⟨hx, hb, hml, hown, hts, hK, hret, hlk⟩ := id C
  have hl : lv_has ls 3 [(0, .ref (ad 0)), (1, .int p0), (2, .int p1)] := hl
  unfold X5_readsAll at hf
  refine lv_iload_n hx hb (dk hX5_readsAll_0 0 rfl) rfl (lv_at hl 1 rfl) ?_
  by_cases hc_5 : p0 = (104 : Int32)
  · replace hf := ip hf hc_5
    refine rts (tgt := 120) (off := 119) hx hb (dk hX5_readsAll_0 1 rfl) hc_5 (by decide) (by decide) (by decide) (by decide) ?_
    refine lv_aload_n hx hb (dk hX5_readsAll_0 32 rfl) rfl (lv_at hl 0 rfl) ?_
    refine lv_iload_n hx hb (dk hX5_readsAll_0 33 rfl) rfl (lv_at hl 2 rfl) ?_
    refine lv_iconst (v := (1 : Int32)) hx hb (dk hX5_readsAll_0 34 rfl) (by decide) ?_
    obtain ⟨u_1, e_2, hf⟩ := Option.bind_eq_some_iff.mp hf
    refine Ct.V (As := [.int p1, .int (1 : Int32)]) (rest := []) (st1 := [.int u_1.2.2]) (w1 := (wM G ad refused there used hidden kind figure good load inn tape letter letterAt u_1.1 kept row costs ships coughs day away taped u_1.2.1 statements hasImage isKeeping cursor backs free goodFor loadedWhen bareGood bareWhen rowMany lots)) C hs (c_X5_readsDigits e_2) tw_820 tw_822 tw_25 tw_85 tw_823 nq_X5_readsDigits (by decide) 0 5 rfl rfl rfl rfl hl.1 rfl (Nat.le_of_ble_eq_true rfl) (dk hX5_readsAll_0 35 rfl) ⟨Nat.zero_le _, Nat.zero_le _⟩ rfl (fun H locs hs => ?_)
    refine lv_if_eq (tgt := 144) hx hb (dk hX5_readsAll_0 36 rfl) (by decide) (fun hc => ?_) (fun hc => ?_)
    · replace hf := ip hf hc
      refine lv_iconst (v := (0 : Int32)) hx hb (dk hX5_readsAll_1 6 rfl) (by decide) ?_
      cases hf
      exact rz (x := (0 : Int32)) rfl C hs (dk hX5_readsAll_1 7 rfl)
    · replace hf := in_ hf hc
      refine lv_aload_n hx hb (dk hX5_readsAll_0 37 rfl) rfl (lv_at hl 0 rfl) ?_
      refine lv_iload_n hx hb (dk hX5_readsAll_0 38 rfl) rfl (lv_at hl 2 rfl) ?_
      refine lv_iconst (v := (1 : Int32)) hx hb (dk hX5_readsAll_0 39 rfl) (by decide) ?_
      refine lv_iadd hx hb (dk hX5_readsAll_1 0 rfl) ?_
      refine lv_iconst (v := (2 : Int32)) hx hb (dk hX5_readsAll_1 1 rfl) (by decide) ?_
      obtain ⟨u_3, e_4, hf⟩ := Option.bind_eq_some_iff.mp hf
      refine Ct.V (As := [.int (p1 + (1 : Int32)), .int (2 : Int32)]) (rest := []) (st1 := [.int u_3.2.2]) (w1 := (wM G ad refused there used hidden kind figure good load inn tape letter letterAt u_3.1 kept row costs ships coughs day away taped u_3.2.1 statements hasImage isKeeping cursor backs free goodFor loadedWhen bareGood bareWhen rowMany lots)) C hs (c_X5_readsDigits e_4) tw_820 tw_822 tw_25 tw_85 tw_823 nq_X5_readsDigits (by decide) 0 5 rfl rfl rfl rfl hl.1 rfl (Nat.le_of_ble_eq_true rfl) (dk hX5_readsAll_1 2 rfl) ⟨Nat.zero_le _, Nat.zero_le _⟩ rfl (fun H locs hs => ?_)
      refine lv_if_eq (tgt := 144) hx hb (dk hX5_readsAll_1 3 rfl) (by decide) (fun hc => ?_) (fun hc => ?_)
      · replace hf := ip hf hc
        refine lv_iconst (v := (0 : Int32)) hx hb (dk hX5_readsAll_1 6 rfl) (by decide) ?_
        cases hf
        exact rz (x := (0 : Int32)) rfl C hs (dk hX5_readsAll_1 7 rfl)
      · replace hf := in_ hf hc
        refine lv_iconst (v := (1 : Int32)) hx hb (dk hX5_readsAll_1 4 rfl) (by decide) ?_
        refine lv_goto (tgt := 145) hx hb (dk hX5_readsAll_1 5 rfl) (by decide) ?_
        cases hf
        exact rz (x := (1 : Int32)) rfl C hs (dk hX5_readsAll_1 7 rfl)
  · replace hf := in_ hf hc_5
    by_cases hc_10 : p0 = (111 : Int32)
    · replace hf := ip hf hc_10
      refine rts (tgt := 172) (off := 171) hx hb (dk hX5_readsAll_0 1 rfl) hc_10 (by decide) (by decide) (by decide) (by decide) ?_
      refine lv_aload_n hx hb (dk hX5_readsAll_1 24 rfl) rfl (lv_at hl 0 rfl) ?_
      refine lv_iload_n hx hb (dk hX5_readsAll_1 25 rfl) rfl (lv_at hl 2 rfl) ?_
      refine lv_iconst (v := (1 : Int32)) hx hb (dk hX5_readsAll_1 26 rfl) (by decide) ?_
      obtain ⟨u_6, e_7, hf⟩ := Option.bind_eq_some_iff.mp hf
      refine Ct.V (As := [.int p1, .int (1 : Int32)]) (rest := []) (st1 := [.int u_6.2.2]) (w1 := (wM G ad refused there used hidden kind figure good load inn tape letter letterAt u_6.1 kept row costs ships coughs day away taped u_6.2.1 statements hasImage isKeeping cursor backs free goodFor loadedWhen bareGood bareWhen rowMany lots)) C hs (c_X5_readsDigits e_7) tw_820 tw_822 tw_25 tw_85 tw_823 nq_X5_readsDigits (by decide) 0 5 rfl rfl rfl rfl hl.1 rfl (Nat.le_of_ble_eq_true rfl) (dk hX5_readsAll_1 27 rfl) ⟨Nat.zero_le _, Nat.zero_le _⟩ rfl (fun H locs hs => ?_)
      obtain ⟨b_8, hz_9, hf⟩ := Option.bind_eq_some_iff.mp hf
      obtain ⟨hxe, hz⟩ := c01_z hz_9
      replace hxe := hxe.symm
      subst hxe
      cases hf
      exact rz hz C hs (dk hX5_readsAll_1 28 rfl)
    · replace hf := in_ hf hc_10
      by_cases hc_19 : p0 = (115 : Int32)
      · replace hf := ip hf hc_19
        refine rts (tgt := 72) (off := 71) hx hb (dk hX5_readsAll_0 1 rfl) hc_19 (by decide) (by decide) (by decide) (by decide) ?_
        refine lv_aload_n hx hb (dk hX5_readsAll_0 2 rfl) rfl (lv_at hl 0 rfl) ?_
        refine lv_iload_n hx hb (dk hX5_readsAll_0 3 rfl) rfl (lv_at hl 2 rfl) ?_
        refine lv_iconst (v := (1 : Int32)) hx hb (dk hX5_readsAll_0 4 rfl) (by decide) ?_
        obtain ⟨u_11, e_12, hf⟩ := Option.bind_eq_some_iff.mp hf
        refine Ct.V (As := [.int p1, .int (1 : Int32)]) (rest := []) (st1 := [.int u_11.2.2]) (w1 := (wM G ad refused there used hidden kind figure good load inn tape letter letterAt u_11.1 kept row costs ships coughs day away taped u_11.2.1 statements hasImage isKeeping cursor backs free goodFor loadedWhen bareGood bareWhen rowMany lots)) C hs (c_X5_readsDigits e_12) tw_820 tw_822 tw_25 tw_85 tw_823 nq_X5_readsDigits (by decide) 0 5 rfl rfl rfl rfl hl.1 rfl (Nat.le_of_ble_eq_true rfl) (dk hX5_readsAll_0 5 rfl) ⟨Nat.zero_le _, Nat.zero_le _⟩ rfl (fun H locs hs => ?_)
        refine lv_if_eq (tgt := 118) hx hb (dk hX5_readsAll_0 6 rfl) (by decide) (fun hc => ?_) (fun hc => ?_)
        · replace hf := ip hf hc
          refine lv_iconst (v := (0 : Int32)) hx hb (dk hX5_readsAll_0 30 rfl) (by decide) ?_
          cases hf
          exact rz (x := (0 : Int32)) rfl C hs (dk hX5_readsAll_0 31 rfl)
        · replace hf := in_ hf hc
          refine lv_aload_n hx hb (dk hX5_readsAll_0 7 rfl) rfl (lv_at hl 0 rfl) ?_
          refine lv_iload_n hx hb (dk hX5_readsAll_0 8 rfl) rfl (lv_at hl 2 rfl) ?_
          refine lv_iconst (v := (1 : Int32)) hx hb (dk hX5_readsAll_0 9 rfl) (by decide) ?_
          refine lv_iadd hx hb (dk hX5_readsAll_0 10 rfl) ?_
          refine lv_iconst (v := (1 : Int32)) hx hb (dk hX5_readsAll_0 11 rfl) (by decide) ?_
          obtain ⟨u_13, e_14, hf⟩ := Option.bind_eq_some_iff.mp hf
          refine Ct.V (As := [.int (p1 + (1 : Int32)), .int (1 : Int32)]) (rest := []) (st1 := [.int u_13.2.2]) (w1 := (wM G ad refused there used hidden kind figure good load inn tape letter letterAt u_13.1 kept row costs ships coughs day away taped u_13.2.1 statements hasImage isKeeping cursor backs free goodFor loadedWhen bareGood bareWhen rowMany lots)) C hs (c_X5_readsDigits e_14) tw_820 tw_822 tw_25 tw_85 tw_823 nq_X5_readsDigits (by decide) 0 5 rfl rfl rfl rfl hl.1 rfl (Nat.le_of_ble_eq_true rfl) (dk hX5_readsAll_0 12 rfl) ⟨Nat.zero_le _, Nat.zero_le _⟩ rfl (fun H locs hs => ?_)
          refine lv_if_eq (tgt := 118) hx hb (dk hX5_readsAll_0 13 rfl) (by decide) (fun hc => ?_) (fun hc => ?_)
          · replace hf := ip hf hc
            refine lv_iconst (v := (0 : Int32)) hx hb (dk hX5_readsAll_0 30 rfl) (by decide) ?_
            cases hf
            exact rz (x := (0 : Int32)) rfl C hs (dk hX5_readsAll_0 31 rfl)
          · replace hf := in_ hf hc
            refine lv_aload_n hx hb (dk hX5_readsAll_0 14 rfl) rfl (lv_at hl 0 rfl) ?_
            refine lv_iload_n hx hb (dk hX5_readsAll_0 15 rfl) rfl (lv_at hl 2 rfl) ?_
            refine lv_iconst (v := (2 : Int32)) hx hb (dk hX5_readsAll_0 16 rfl) (by decide) ?_
            refine lv_iadd hx hb (dk hX5_readsAll_0 17 rfl) ?_
            refine lv_iconst (v := (1 : Int32)) hx hb (dk hX5_readsAll_0 18 rfl) (by decide) ?_
            obtain ⟨u_15, e_16, hf⟩ := Option.bind_eq_some_iff.mp hf
            refine Ct.V (As := [.int (p1 + (2 : Int32)), .int (1 : Int32)]) (rest := []) (st1 := [.int u_15.2.2]) (w1 := (wM G ad refused there used hidden kind figure good load inn tape letter letterAt u_15.1 kept row costs ships coughs day away taped u_15.2.1 statements hasImage isKeeping cursor backs free goodFor loadedWhen bareGood bareWhen rowMany lots)) C hs (c_X5_readsDigits e_16) tw_820 tw_822 tw_25 tw_85 tw_823 nq_X5_readsDigits (by decide) 0 5 rfl rfl rfl rfl hl.1 rfl (Nat.le_of_ble_eq_true rfl) (dk hX5_readsAll_0 19 rfl) ⟨Nat.zero_le _, Nat.zero_le _⟩ rfl (fun H locs hs => ?_)
            refine lv_if_eq (tgt := 118) hx hb (dk hX5_readsAll_0 20 rfl) (by decide) (fun hc => ?_) (fun hc => ?_)
            · replace hf := ip hf hc
              refine lv_iconst (v := (0 : Int32)) hx hb (dk hX5_readsAll_0 30 rfl) (by decide) ?_
              cases hf
              exact rz (x := (0 : Int32)) rfl C hs (dk hX5_readsAll_0 31 rfl)
            · replace hf := in_ hf hc
              refine lv_aload_n hx hb (dk hX5_readsAll_0 21 rfl) rfl (lv_at hl 0 rfl) ?_
              refine lv_iload_n hx hb (dk hX5_readsAll_0 22 rfl) rfl (lv_at hl 2 rfl) ?_
              refine lv_iconst (v := (3 : Int32)) hx hb (dk hX5_readsAll_0 23 rfl) (by decide) ?_
              refine lv_iadd hx hb (dk hX5_readsAll_0 24 rfl) ?_
              refine lv_iconst (v := (2 : Int32)) hx hb (dk hX5_readsAll_0 25 rfl) (by decide) ?_
              obtain ⟨u_17, e_18, hf⟩ := Option.bind_eq_some_iff.mp hf
              refine Ct.V (As := [.int (p1 + (3 : Int32)), .int (2 : Int32)]) (rest := []) (st1 := [.int u_17.2.2]) (w1 := (wM G ad refused there used hidden kind figure good load inn tape letter letterAt u_17.1 kept row costs ships coughs day away taped u_17.2.1 statements hasImage isKeeping cursor backs free goodFor loadedWhen bareGood bareWhen rowMany lots)) C hs (c_X5_readsDigits e_18) tw_820 tw_822 tw_25 tw_85 tw_823 nq_X5_readsDigits (by decide) 0 5 rfl rfl rfl rfl hl.1 rfl (Nat.le_of_ble_eq_true rfl) (dk hX5_readsAll_0 26 rfl) ⟨Nat.zero_le _, Nat.zero_le _⟩ rfl (fun H locs hs => ?_)
              refine lv_if_eq (tgt := 118) hx hb (dk hX5_readsAll_0 27 rfl) (by decide) (fun hc => ?_) (fun hc => ?_)
              · replace hf := ip hf hc
                refine lv_iconst (v := (0 : Int32)) hx hb (dk hX5_readsAll_0 30 rfl) (by decide) ?_
                cases hf
                exact rz (x := (0 : Int32)) rfl C hs (dk hX5_readsAll_0 31 rfl)
              · replace hf := in_ hf hc
                refine lv_iconst (v := (1 : Int32)) hx hb (dk hX5_readsAll_0 28 rfl) (by decide) ?_
                refine lv_goto (tgt := 119) hx hb (dk hX5_readsAll_0 29 rfl) (by decide) ?_
                cases hf
                exact rz (x := (1 : Int32)) rfl C hs (dk hX5_readsAll_0 31 rfl)
      · replace hf := in_ hf hc_19
        by_cases hc_24 : p0 = (116 : Int32)
        · replace hf := ip hf hc_24
          refine rts (tgt := 120) (off := 119) hx hb (dk hX5_readsAll_0 1 rfl) hc_24 (by decide) (by decide) (by decide) (by decide) ?_
          refine lv_aload_n hx hb (dk hX5_readsAll_0 32 rfl) rfl (lv_at hl 0 rfl) ?_
          refine lv_iload_n hx hb (dk hX5_readsAll_0 33 rfl) rfl (lv_at hl 2 rfl) ?_
          refine lv_iconst (v := (1 : Int32)) hx hb (dk hX5_readsAll_0 34 rfl) (by decide) ?_
          obtain ⟨u_20, e_21, hf⟩ := Option.bind_eq_some_iff.mp hf
          refine Ct.V (As := [.int p1, .int (1 : Int32)]) (rest := []) (st1 := [.int u_20.2.2]) (w1 := (wM G ad refused there used hidden kind figure good load inn tape letter letterAt u_20.1 kept row costs ships coughs day away taped u_20.2.1 statements hasImage isKeeping cursor backs free goodFor loadedWhen bareGood bareWhen rowMany lots)) C hs (c_X5_readsDigits e_21) tw_820 tw_822 tw_25 tw_85 tw_823 nq_X5_readsDigits (by decide) 0 5 rfl rfl rfl rfl hl.1 rfl (Nat.le_of_ble_eq_true rfl) (dk hX5_readsAll_0 35 rfl) ⟨Nat.zero_le _, Nat.zero_le _⟩ rfl (fun H locs hs => ?_)
          refine lv_if_eq (tgt := 144) hx hb (dk hX5_readsAll_0 36 rfl) (by decide) (fun hc => ?_) (fun hc => ?_)
          · replace hf := ip hf hc
            refine lv_iconst (v := (0 : Int32)) hx hb (dk hX5_readsAll_1 6 rfl) (by decide) ?_
            cases hf
            exact rz (x := (0 : Int32)) rfl C hs (dk hX5_readsAll_1 7 rfl)
          · replace hf := in_ hf hc
            refine lv_aload_n hx hb (dk hX5_readsAll_0 37 rfl) rfl (lv_at hl 0 rfl) ?_
            refine lv_iload_n hx hb (dk hX5_readsAll_0 38 rfl) rfl (lv_at hl 2 rfl) ?_
            refine lv_iconst (v := (1 : Int32)) hx hb (dk hX5_readsAll_0 39 rfl) (by decide) ?_
            refine lv_iadd hx hb (dk hX5_readsAll_1 0 rfl) ?_
            refine lv_iconst (v := (2 : Int32)) hx hb (dk hX5_readsAll_1 1 rfl) (by decide) ?_
            obtain ⟨u_22, e_23, hf⟩ := Option.bind_eq_some_iff.mp hf
            refine Ct.V (As := [.int (p1 + (1 : Int32)), .int (2 : Int32)]) (rest := []) (st1 := [.int u_22.2.2]) (w1 := (wM G ad refused there used hidden kind figure good load inn tape letter letterAt u_22.1 kept row costs ships coughs day away taped u_22.2.1 statements hasImage isKeeping cursor backs free goodFor loadedWhen bareGood bareWhen rowMany lots)) C hs (c_X5_readsDigits e_23) tw_820 tw_822 tw_25 tw_85 tw_823 nq_X5_readsDigits (by decide) 0 5 rfl rfl rfl rfl hl.1 rfl (Nat.le_of_ble_eq_true rfl) (dk hX5_readsAll_1 2 rfl) ⟨Nat.zero_le _, Nat.zero_le _⟩ rfl (fun H locs hs => ?_)
            refine lv_if_eq (tgt := 144) hx hb (dk hX5_readsAll_1 3 rfl) (by decide) (fun hc => ?_) (fun hc => ?_)
            · replace hf := ip hf hc
              refine lv_iconst (v := (0 : Int32)) hx hb (dk hX5_readsAll_1 6 rfl) (by decide) ?_
              cases hf
              exact rz (x := (0 : Int32)) rfl C hs (dk hX5_readsAll_1 7 rfl)
            · replace hf := in_ hf hc
              refine lv_iconst (v := (1 : Int32)) hx hb (dk hX5_readsAll_1 4 rfl) (by decide) ?_
              refine lv_goto (tgt := 145) hx hb (dk hX5_readsAll_1 5 rfl) (by decide) ?_
              cases hf
              exact rz (x := (1 : Int32)) rfl C hs (dk hX5_readsAll_1 7 rfl)
        · replace hf := in_ hf hc_24
          by_cases hc_29 : p0 = (117 : Int32)
          · replace hf := ip hf hc_29
            refine rts (tgt := 146) (off := 145) hx hb (dk hX5_readsAll_0 1 rfl) hc_29 (by decide) (by decide) (by decide) (by decide) ?_
            refine lv_aload_n hx hb (dk hX5_readsAll_1 8 rfl) rfl (lv_at hl 0 rfl) ?_
            refine lv_iload_n hx hb (dk hX5_readsAll_1 9 rfl) rfl (lv_at hl 2 rfl) ?_
            refine lv_iconst (v := (1 : Int32)) hx hb (dk hX5_readsAll_1 10 rfl) (by decide) ?_
            obtain ⟨u_25, e_26, hf⟩ := Option.bind_eq_some_iff.mp hf
            refine Ct.V (As := [.int p1, .int (1 : Int32)]) (rest := []) (st1 := [.int u_25.2.2]) (w1 := (wM G ad refused there used hidden kind figure good load inn tape letter letterAt u_25.1 kept row costs ships coughs day away taped u_25.2.1 statements hasImage isKeeping cursor backs free goodFor loadedWhen bareGood bareWhen rowMany lots)) C hs (c_X5_readsDigits e_26) tw_820 tw_822 tw_25 tw_85 tw_823 nq_X5_readsDigits (by decide) 0 5 rfl rfl rfl rfl hl.1 rfl (Nat.le_of_ble_eq_true rfl) (dk hX5_readsAll_1 11 rfl) ⟨Nat.zero_le _, Nat.zero_le _⟩ rfl (fun H locs hs => ?_)
            refine lv_if_eq (tgt := 170) hx hb (dk hX5_readsAll_1 12 rfl) (by decide) (fun hc => ?_) (fun hc => ?_)
            · replace hf := ip hf hc
              refine lv_iconst (v := (0 : Int32)) hx hb (dk hX5_readsAll_1 22 rfl) (by decide) ?_
              cases hf
              exact rz (x := (0 : Int32)) rfl C hs (dk hX5_readsAll_1 23 rfl)
            · replace hf := in_ hf hc
              refine lv_aload_n hx hb (dk hX5_readsAll_1 13 rfl) rfl (lv_at hl 0 rfl) ?_
              refine lv_iload_n hx hb (dk hX5_readsAll_1 14 rfl) rfl (lv_at hl 2 rfl) ?_
              refine lv_iconst (v := (1 : Int32)) hx hb (dk hX5_readsAll_1 15 rfl) (by decide) ?_
              refine lv_iadd hx hb (dk hX5_readsAll_1 16 rfl) ?_
              refine lv_iconst (v := (1 : Int32)) hx hb (dk hX5_readsAll_1 17 rfl) (by decide) ?_
              obtain ⟨u_27, e_28, hf⟩ := Option.bind_eq_some_iff.mp hf
              refine Ct.V (As := [.int (p1 + (1 : Int32)), .int (1 : Int32)]) (rest := []) (st1 := [.int u_27.2.2]) (w1 := (wM G ad refused there used hidden kind figure good load inn tape letter letterAt u_27.1 kept row costs ships coughs day away taped u_27.2.1 statements hasImage isKeeping cursor backs free goodFor loadedWhen bareGood bareWhen rowMany lots)) C hs (c_X5_readsDigits e_28) tw_820 tw_822 tw_25 tw_85 tw_823 nq_X5_readsDigits (by decide) 0 5 rfl rfl rfl rfl hl.1 rfl (Nat.le_of_ble_eq_true rfl) (dk hX5_readsAll_1 18 rfl) ⟨Nat.zero_le _, Nat.zero_le _⟩ rfl (fun H locs hs => ?_)
              refine lv_if_eq (tgt := 170) hx hb (dk hX5_readsAll_1 19 rfl) (by decide) (fun hc => ?_) (fun hc => ?_)
              · replace hf := ip hf hc
                refine lv_iconst (v := (0 : Int32)) hx hb (dk hX5_readsAll_1 22 rfl) (by decide) ?_
                cases hf
                exact rz (x := (0 : Int32)) rfl C hs (dk hX5_readsAll_1 23 rfl)
              · replace hf := in_ hf hc
                refine lv_iconst (v := (1 : Int32)) hx hb (dk hX5_readsAll_1 20 rfl) (by decide) ?_
                refine lv_goto (tgt := 171) hx hb (dk hX5_readsAll_1 21 rfl) (by decide) ?_
                cases hf
                exact rz (x := (1 : Int32)) rfl C hs (dk hX5_readsAll_1 23 rfl)
          · replace hf := in_ hf hc_29
            refine rtd (tgt := 179) hx hb (dk hX5_readsAll_0 1 rfl) [0, 7, 11, 12, 13] (by decide) (by decide) (List.forall_mem_cons.mpr ⟨ti hc_5 (by decide), List.forall_mem_cons.mpr ⟨ti hc_10 (by decide), List.forall_mem_cons.mpr ⟨ti hc_19 (by decide), List.forall_mem_cons.mpr ⟨ti hc_24 (by decide), List.forall_mem_cons.mpr ⟨ti hc_29 (by decide), fun _ h => absurd h List.not_mem_nil⟩⟩⟩⟩⟩) (by decide) ?_
            refine lv_aload_n hx hb (dk hX5_readsAll_1 29 rfl) rfl (lv_at hl 0 rfl) ?_
            refine lv_iload_n hx hb (dk hX5_readsAll_1 30 rfl) rfl (lv_at hl 2 rfl) ?_
            refine lv_iconst (v := (2 : Int32)) hx hb (dk hX5_readsAll_1 31 rfl) (by decide) ?_
            obtain ⟨u_30, e_31, hf⟩ := Option.bind_eq_some_iff.mp hf
            refine Ct.V (As := [.int p1, .int (2 : Int32)]) (rest := []) (st1 := [.int u_30.2.2]) (w1 := (wM G ad refused there used hidden kind figure good load inn tape letter letterAt u_30.1 kept row costs ships coughs day away taped u_30.2.1 statements hasImage isKeeping cursor backs free goodFor loadedWhen bareGood bareWhen rowMany lots)) C hs (c_X5_readsDigits e_31) tw_820 tw_822 tw_25 tw_85 tw_823 nq_X5_readsDigits (by decide) 0 5 rfl rfl rfl rfl hl.1 rfl (Nat.le_of_ble_eq_true rfl) (dk hX5_readsAll_1 32 rfl) ⟨Nat.zero_le _, Nat.zero_le _⟩ rfl (fun H locs hs => ?_)
            obtain ⟨b_32, hz_33, hf⟩ := Option.bind_eq_some_iff.mp hf
            obtain ⟨hxe, hz⟩ := c01_z hz_33
            replace hxe := hxe.symm
            subst hxe
            cases hf
            exact rz hz C hs (dk hX5_readsAll_1 33 rfl)

def X5_statement (tape : List Int32) (letter : List Int32) (letterAt : List Int32) (told : List Int32) (taped : Int32) (reading : Int32) (statements : Int32) : Option (List Int32 × List Int32 × List Int32 × Int32 × Int32) :=
  (X5_next tape taped reading).bind fun u_1 =>
  if u_1 = (115 : Int32) then
  (wr letter statements u_1).bind fun letter_3 =>
  (wr letterAt statements reading).bind fun letterAt_5 =>
  (X5_readsAll tape told taped (reading + (1 : Int32)) u_1 ((4 : Int32) * statements)).bind fun u_7 =>
  if u_7.2.2 = (0 : Int32) then
  some (letter_3, letterAt_5, u_7.1, u_7.2.1, (0 : Int32))
  else
  (X5_next tape taped u_7.2.1).bind fun u_9 =>
  if u_9 = (59 : Int32) then
  some (letter_3, letterAt_5, u_7.1, (u_7.2.1 + (1 : Int32)), (1 : Int32))
  else
  some (letter_3, letterAt_5, u_7.1, u_7.2.1, (0 : Int32))
  else
  if u_1 = (116 : Int32) then
  (wr letter statements u_1).bind fun letter_11 =>
  (wr letterAt statements reading).bind fun letterAt_13 =>
  (X5_readsAll tape told taped (reading + (1 : Int32)) u_1 ((4 : Int32) * statements)).bind fun u_15 =>
  if u_15.2.2 = (0 : Int32) then
  some (letter_11, letterAt_13, u_15.1, u_15.2.1, (0 : Int32))
  else
  (X5_next tape taped u_15.2.1).bind fun u_17 =>
  if u_17 = (59 : Int32) then
  some (letter_11, letterAt_13, u_15.1, (u_15.2.1 + (1 : Int32)), (1 : Int32))
  else
  some (letter_11, letterAt_13, u_15.1, u_15.2.1, (0 : Int32))
  else
  if u_1 = (117 : Int32) then
  (wr letter statements u_1).bind fun letter_19 =>
  (wr letterAt statements reading).bind fun letterAt_21 =>
  (X5_readsAll tape told taped (reading + (1 : Int32)) u_1 ((4 : Int32) * statements)).bind fun u_23 =>
  if u_23.2.2 = (0 : Int32) then
  some (letter_19, letterAt_21, u_23.1, u_23.2.1, (0 : Int32))
  else
  (X5_next tape taped u_23.2.1).bind fun u_25 =>
  if u_25 = (59 : Int32) then
  some (letter_19, letterAt_21, u_23.1, (u_23.2.1 + (1 : Int32)), (1 : Int32))
  else
  some (letter_19, letterAt_21, u_23.1, u_23.2.1, (0 : Int32))
  else
  if u_1 = (104 : Int32) then
  (wr letter statements u_1).bind fun letter_27 =>
  (wr letterAt statements reading).bind fun letterAt_29 =>
  (X5_readsAll tape told taped (reading + (1 : Int32)) u_1 ((4 : Int32) * statements)).bind fun u_31 =>
  if u_31.2.2 = (0 : Int32) then
  some (letter_27, letterAt_29, u_31.1, u_31.2.1, (0 : Int32))
  else
  (X5_next tape taped u_31.2.1).bind fun u_33 =>
  if u_33 = (59 : Int32) then
  some (letter_27, letterAt_29, u_31.1, (u_31.2.1 + (1 : Int32)), (1 : Int32))
  else
  some (letter_27, letterAt_29, u_31.1, u_31.2.1, (0 : Int32))
  else
  if u_1 = (111 : Int32) then
  (wr letter statements u_1).bind fun letter_35 =>
  (wr letterAt statements reading).bind fun letterAt_37 =>
  (X5_readsAll tape told taped (reading + (1 : Int32)) u_1 ((4 : Int32) * statements)).bind fun u_39 =>
  if u_39.2.2 = (0 : Int32) then
  some (letter_35, letterAt_37, u_39.1, u_39.2.1, (0 : Int32))
  else
  (X5_next tape taped u_39.2.1).bind fun u_41 =>
  if u_41 = (59 : Int32) then
  some (letter_35, letterAt_37, u_39.1, (u_39.2.1 + (1 : Int32)), (1 : Int32))
  else
  some (letter_35, letterAt_37, u_39.1, u_39.2.1, (0 : Int32))
  else
  if u_1 = (99 : Int32) then
  (wr letter statements u_1).bind fun letter_43 =>
  (wr letterAt statements reading).bind fun letterAt_45 =>
  (X5_readsAll tape told taped (reading + (1 : Int32)) u_1 ((4 : Int32) * statements)).bind fun u_47 =>
  if u_47.2.2 = (0 : Int32) then
  some (letter_43, letterAt_45, u_47.1, u_47.2.1, (0 : Int32))
  else
  (X5_next tape taped u_47.2.1).bind fun u_49 =>
  if u_49 = (59 : Int32) then
  some (letter_43, letterAt_45, u_47.1, (u_47.2.1 + (1 : Int32)), (1 : Int32))
  else
  some (letter_43, letterAt_45, u_47.1, u_47.2.1, (0 : Int32))
  else
  if u_1 = (100 : Int32) then
  (wr letter statements u_1).bind fun letter_51 =>
  (wr letterAt statements reading).bind fun letterAt_53 =>
  (X5_readsAll tape told taped (reading + (1 : Int32)) u_1 ((4 : Int32) * statements)).bind fun u_55 =>
  if u_55.2.2 = (0 : Int32) then
  some (letter_51, letterAt_53, u_55.1, u_55.2.1, (0 : Int32))
  else
  (X5_next tape taped u_55.2.1).bind fun u_57 =>
  if u_57 = (59 : Int32) then
  some (letter_51, letterAt_53, u_55.1, (u_55.2.1 + (1 : Int32)), (1 : Int32))
  else
  some (letter_51, letterAt_53, u_55.1, u_55.2.1, (0 : Int32))
  else
  some (letter, letterAt, told, reading, (0 : Int32))
set_option maxRecDepth 100000 in
set_option maxHeartbeats 4000000 in
theorem c_X5_statement {l : Launch} {G : Gx} {ad : Nat → Nat} {refused there used hidden kind figure good load inn tape letter letterAt told kept row costs : List Int32} {ships coughs day away taped reading statements hasImage isKeeping cursor backs free goodFor loadedWhen bareGood bareWhen rowMany lots : Int32}  {out : List Int32 × List Int32 × List Int32 × Int32 × Int32} (hf : X5_statement tape letter letterAt told taped reading statements = some out) : Ct l G yX5_statement cX5_statement 2 (some .boolean) 3 68 [.ref (ad 0)] (wM G ad refused there used hidden kind figure good load inn tape letter letterAt told kept row costs ships coughs day away taped reading statements hasImage isKeeping cursor backs free goodFor loadedWhen bareGood bareWhen rowMany lots) (some (.int out.2.2.2.2)) (wM G ad refused there used hidden kind figure good load inn tape out.1 out.2.1 out.2.2.1 kept row costs ships coughs day away taped out.2.2.2.1 statements hasImage isKeeping cursor backs free goodFor loadedWhen bareGood bareWhen rowMany lots) := by
  refine Ct.intro RX5 rfl (plainFor_of_name (by decide)) (Nat.le_of_ble_eq_true rfl) rfl ?_
  intro p e s m args below meth c A C H locs hs ls hl
  obtain ⟨hx, hb, hml, hown, hts, hK, hret, hlk⟩ := id C
  have hl : lv_has ls 2 [(0, .ref (ad 0))] := hl
  unfold X5_statement at hf
  refine lv_aload_n hx hb (dk hX5_statement_0 0 rfl) rfl (lv_at hl 0 rfl) ?_
  obtain ⟨u_1, e_2, hf⟩ := Option.bind_eq_some_iff.mp hf
  refine Ct.V (As := []) (rest := []) (st1 := [.int u_1]) (w1 := (wM G ad refused there used hidden kind figure good load inn tape letter letterAt told kept row costs ships coughs day away taped reading statements hasImage isKeeping cursor backs free goodFor loadedWhen bareGood bareWhen rowMany lots)) C hs (c_X5_next e_2) tw_812 tw_814 tw_23 tw_85 tw_815 nq_X5_next (by decide) 0 5 rfl rfl rfl rfl hl.1 rfl (Nat.le_of_ble_eq_true rfl) (dk hX5_statement_0 1 rfl) ⟨Nat.zero_le _, Nat.zero_le _⟩ rfl (fun H locs hs => ?_)
  refine lv_istore_n (lv' := [(1, .int u_1), (0, .ref (ad 0))]) hx hb (dk hX5_statement_0 2 rfl) rfl hl (by decide) rfl (fun ls hl => ?_)
  refine lv_iload_n hx hb (dk hX5_statement_0 3 rfl) rfl (lv_at hl 0 rfl) ?_
  refine lv_bipush (v := (115 : Int32)) hx hb (dk hX5_statement_0 4 rfl) (by decide) ?_
  refine lv_icmp_eq (tgt := 49) hx hb (dk hX5_statement_0 5 rfl) (by decide) (fun hc => ?_) (fun hc => ?_)
  · replace hf := ip hf hc
    refine lv_aload_n hx hb (dk hX5_statement_0 26 rfl) rfl (lv_at hl 1 rfl) ?_
    refine rg ui5 rfl C hs 0 rfl 14 (by decide) tw_704 rfl rfl (dk hX5_statement_0 27 rfl) ?_
    refine lv_aload_n hx hb (dk hX5_statement_0 28 rfl) rfl (lv_at hl 1 rfl) ?_
    refine rg ui5 rfl C hs 0 rfl 19 (by decide) tw_709 rfl rfl (dk hX5_statement_0 29 rfl) ?_
    refine lv_iload_n hx hb (dk hX5_statement_0 30 rfl) rfl (lv_at hl 0 rfl) ?_
    obtain ⟨letter_3, e_4, hf⟩ := Option.bind_eq_some_iff.mp hf
    refine rist (w1 := (wM G ad refused there used hidden kind figure good load inn tape letter_3 letterAt told kept row costs ships coughs day away taped reading statements hasImage isKeeping cursor backs free goodFor loadedWhen bareGood bareWhen rowMany lots)) C hs 11 rfl e_4 rfl (dk hX5_statement_0 31 rfl) (fun H locs hs => ?_)
    refine lv_aload_n hx hb (dk hX5_statement_0 32 rfl) rfl (lv_at hl 1 rfl) ?_
    refine rg ui5 rfl C hs 0 rfl 15 (by decide) tw_705 rfl rfl (dk hX5_statement_0 33 rfl) ?_
    refine lv_aload_n hx hb (dk hX5_statement_0 34 rfl) rfl (lv_at hl 1 rfl) ?_
    refine rg ui5 rfl C hs 0 rfl 19 (by decide) tw_709 rfl rfl (dk hX5_statement_0 35 rfl) ?_
    refine lv_aload_n hx hb (dk hX5_statement_0 36 rfl) rfl (lv_at hl 1 rfl) ?_
    refine rg ui5 rfl C hs 0 rfl 18 (by decide) tw_708 rfl rfl (dk hX5_statement_0 37 rfl) ?_
    obtain ⟨letterAt_5, e_6, hf⟩ := Option.bind_eq_some_iff.mp hf
    refine rist (w1 := (wM G ad refused there used hidden kind figure good load inn tape letter_3 letterAt_5 told kept row costs ships coughs day away taped reading statements hasImage isKeeping cursor backs free goodFor loadedWhen bareGood bareWhen rowMany lots)) C hs 12 rfl e_6 rfl (dk hX5_statement_0 38 rfl) (fun H locs hs => ?_)
    refine lv_aload_n hx hb (dk hX5_statement_0 39 rfl) rfl (lv_at hl 1 rfl) ?_
    refine lv_dup hx hb (dk hX5_statement_1 0 rfl) rfl ?_
    refine rg ui5 rfl C hs 0 rfl 18 (by decide) tw_708 rfl rfl (dk hX5_statement_1 1 rfl) ?_
    refine lv_iconst (v := (1 : Int32)) hx hb (dk hX5_statement_1 2 rfl) (by decide) ?_
    refine lv_iadd hx hb (dk hX5_statement_1 3 rfl) ?_
    refine rp (w1 := (wM G ad refused there used hidden kind figure good load inn tape letter_3 letterAt_5 told kept row costs ships coughs day away taped (reading + (1 : Int32)) statements hasImage isKeeping cursor backs free goodFor loadedWhen bareGood bareWhen rowMany lots)) tyX5 tyX5_ok nmX5 ui5 rfl C hs 0 rfl 18 (by decide) tw_708 rfl rfl rfl rfl (Nat.le_of_ble_eq_true rfl) rfl (dk hX5_statement_1 4 rfl) (fun H locs hs => ?_)
    refine lv_aload_n hx hb (dk hX5_statement_1 5 rfl) rfl (lv_at hl 1 rfl) ?_
    refine lv_iload_n hx hb (dk hX5_statement_1 6 rfl) rfl (lv_at hl 0 rfl) ?_
    refine lv_iconst (v := (4 : Int32)) hx hb (dk hX5_statement_1 7 rfl) (by decide) ?_
    refine lv_aload_n hx hb (dk hX5_statement_1 8 rfl) rfl (lv_at hl 1 rfl) ?_
    refine rg ui5 rfl C hs 0 rfl 19 (by decide) tw_709 rfl rfl (dk hX5_statement_1 9 rfl) ?_
    refine lv_imul hx hb (dk hX5_statement_1 10 rfl) ?_
    obtain ⟨u_7, e_8, hf⟩ := Option.bind_eq_some_iff.mp hf
    refine Ct.V (As := [.int u_1, .int ((4 : Int32) * statements)]) (rest := []) (st1 := [.int u_7.2.2]) (w1 := (wM G ad refused there used hidden kind figure good load inn tape letter_3 letterAt_5 u_7.1 kept row costs ships coughs day away taped u_7.2.1 statements hasImage isKeeping cursor backs free goodFor loadedWhen bareGood bareWhen rowMany lots)) C hs (c_X5_readsAll e_8) tw_816 tw_818 tw_24 tw_85 tw_819 nq_X5_readsAll (by decide) 0 5 rfl rfl rfl rfl hl.1 rfl (Nat.le_of_ble_eq_true rfl) (dk hX5_statement_1 11 rfl) ⟨Nat.zero_le _, Nat.zero_le _⟩ rfl (fun H locs hs => ?_)
    refine lv_if_eq (tgt := 105) hx hb (dk hX5_statement_1 12 rfl) (by decide) (fun hc => ?_) (fun hc => ?_)
    · replace hf := ip hf hc
      refine lv_iconst (v := (0 : Int32)) hx hb (dk hX5_statement_1 17 rfl) (by decide) ?_
      cases hf
      exact rz (x := (0 : Int32)) rfl C hs (dk hX5_statement_1 18 rfl)
    · replace hf := in_ hf hc
      refine lv_aload_n hx hb (dk hX5_statement_1 13 rfl) rfl (lv_at hl 1 rfl) ?_
      obtain ⟨u_9, e_10, hf⟩ := Option.bind_eq_some_iff.mp hf
      refine Ct.V (As := []) (rest := []) (st1 := [.int u_9]) (w1 := (wM G ad refused there used hidden kind figure good load inn tape letter_3 letterAt_5 u_7.1 kept row costs ships coughs day away taped u_7.2.1 statements hasImage isKeeping cursor backs free goodFor loadedWhen bareGood bareWhen rowMany lots)) C hs (c_X5_next e_10) tw_812 tw_814 tw_23 tw_85 tw_815 nq_X5_next (by decide) 0 5 rfl rfl rfl rfl hl.1 rfl (Nat.le_of_ble_eq_true rfl) (dk hX5_statement_1 14 rfl) ⟨Nat.zero_le _, Nat.zero_le _⟩ rfl (fun H locs hs => ?_)
      refine lv_bipush (v := (59 : Int32)) hx hb (dk hX5_statement_1 15 rfl) (by decide) ?_
      refine lv_icmp_eq (tgt := 107) hx hb (dk hX5_statement_1 16 rfl) (by decide) (fun hc => ?_) (fun hc => ?_)
      · replace hf := ip hf hc
        refine lv_aload_n hx hb (dk hX5_statement_1 19 rfl) rfl (lv_at hl 1 rfl) ?_
        refine lv_dup hx hb (dk hX5_statement_1 20 rfl) rfl ?_
        refine rg ui5 rfl C hs 0 rfl 18 (by decide) tw_708 rfl rfl (dk hX5_statement_1 21 rfl) ?_
        refine lv_iconst (v := (1 : Int32)) hx hb (dk hX5_statement_1 22 rfl) (by decide) ?_
        refine lv_iadd hx hb (dk hX5_statement_1 23 rfl) ?_
        refine rp (w1 := (wM G ad refused there used hidden kind figure good load inn tape letter_3 letterAt_5 u_7.1 kept row costs ships coughs day away taped (u_7.2.1 + (1 : Int32)) statements hasImage isKeeping cursor backs free goodFor loadedWhen bareGood bareWhen rowMany lots)) tyX5 tyX5_ok nmX5 ui5 rfl C hs 0 rfl 18 (by decide) tw_708 rfl rfl rfl rfl (Nat.le_of_ble_eq_true rfl) rfl (dk hX5_statement_1 24 rfl) (fun H locs hs => ?_)
        refine lv_iconst (v := (1 : Int32)) hx hb (dk hX5_statement_1 25 rfl) (by decide) ?_
        cases hf
        exact rz (x := (1 : Int32)) rfl C hs (dk hX5_statement_1 26 rfl)
      · replace hf := in_ hf hc
        refine lv_iconst (v := (0 : Int32)) hx hb (dk hX5_statement_1 17 rfl) (by decide) ?_
        cases hf
        exact rz (x := (0 : Int32)) rfl C hs (dk hX5_statement_1 18 rfl)
  · replace hf := in_ hf hc
    refine lv_iload_n hx hb (dk hX5_statement_0 6 rfl) rfl (lv_at hl 0 rfl) ?_
    refine lv_bipush (v := (116 : Int32)) hx hb (dk hX5_statement_0 7 rfl) (by decide) ?_
    refine lv_icmp_eq (tgt := 49) hx hb (dk hX5_statement_0 8 rfl) (by decide) (fun hc => ?_) (fun hc => ?_)
    · replace hf := ip hf hc
      refine lv_aload_n hx hb (dk hX5_statement_0 26 rfl) rfl (lv_at hl 1 rfl) ?_
      refine rg ui5 rfl C hs 0 rfl 14 (by decide) tw_704 rfl rfl (dk hX5_statement_0 27 rfl) ?_
      refine lv_aload_n hx hb (dk hX5_statement_0 28 rfl) rfl (lv_at hl 1 rfl) ?_
      refine rg ui5 rfl C hs 0 rfl 19 (by decide) tw_709 rfl rfl (dk hX5_statement_0 29 rfl) ?_
      refine lv_iload_n hx hb (dk hX5_statement_0 30 rfl) rfl (lv_at hl 0 rfl) ?_
      obtain ⟨letter_11, e_12, hf⟩ := Option.bind_eq_some_iff.mp hf
      refine rist (w1 := (wM G ad refused there used hidden kind figure good load inn tape letter_11 letterAt told kept row costs ships coughs day away taped reading statements hasImage isKeeping cursor backs free goodFor loadedWhen bareGood bareWhen rowMany lots)) C hs 11 rfl e_12 rfl (dk hX5_statement_0 31 rfl) (fun H locs hs => ?_)
      refine lv_aload_n hx hb (dk hX5_statement_0 32 rfl) rfl (lv_at hl 1 rfl) ?_
      refine rg ui5 rfl C hs 0 rfl 15 (by decide) tw_705 rfl rfl (dk hX5_statement_0 33 rfl) ?_
      refine lv_aload_n hx hb (dk hX5_statement_0 34 rfl) rfl (lv_at hl 1 rfl) ?_
      refine rg ui5 rfl C hs 0 rfl 19 (by decide) tw_709 rfl rfl (dk hX5_statement_0 35 rfl) ?_
      refine lv_aload_n hx hb (dk hX5_statement_0 36 rfl) rfl (lv_at hl 1 rfl) ?_
      refine rg ui5 rfl C hs 0 rfl 18 (by decide) tw_708 rfl rfl (dk hX5_statement_0 37 rfl) ?_
      obtain ⟨letterAt_13, e_14, hf⟩ := Option.bind_eq_some_iff.mp hf
      refine rist (w1 := (wM G ad refused there used hidden kind figure good load inn tape letter_11 letterAt_13 told kept row costs ships coughs day away taped reading statements hasImage isKeeping cursor backs free goodFor loadedWhen bareGood bareWhen rowMany lots)) C hs 12 rfl e_14 rfl (dk hX5_statement_0 38 rfl) (fun H locs hs => ?_)
      refine lv_aload_n hx hb (dk hX5_statement_0 39 rfl) rfl (lv_at hl 1 rfl) ?_
      refine lv_dup hx hb (dk hX5_statement_1 0 rfl) rfl ?_
      refine rg ui5 rfl C hs 0 rfl 18 (by decide) tw_708 rfl rfl (dk hX5_statement_1 1 rfl) ?_
      refine lv_iconst (v := (1 : Int32)) hx hb (dk hX5_statement_1 2 rfl) (by decide) ?_
      refine lv_iadd hx hb (dk hX5_statement_1 3 rfl) ?_
      refine rp (w1 := (wM G ad refused there used hidden kind figure good load inn tape letter_11 letterAt_13 told kept row costs ships coughs day away taped (reading + (1 : Int32)) statements hasImage isKeeping cursor backs free goodFor loadedWhen bareGood bareWhen rowMany lots)) tyX5 tyX5_ok nmX5 ui5 rfl C hs 0 rfl 18 (by decide) tw_708 rfl rfl rfl rfl (Nat.le_of_ble_eq_true rfl) rfl (dk hX5_statement_1 4 rfl) (fun H locs hs => ?_)
      refine lv_aload_n hx hb (dk hX5_statement_1 5 rfl) rfl (lv_at hl 1 rfl) ?_
      refine lv_iload_n hx hb (dk hX5_statement_1 6 rfl) rfl (lv_at hl 0 rfl) ?_
      refine lv_iconst (v := (4 : Int32)) hx hb (dk hX5_statement_1 7 rfl) (by decide) ?_
      refine lv_aload_n hx hb (dk hX5_statement_1 8 rfl) rfl (lv_at hl 1 rfl) ?_
      refine rg ui5 rfl C hs 0 rfl 19 (by decide) tw_709 rfl rfl (dk hX5_statement_1 9 rfl) ?_
      refine lv_imul hx hb (dk hX5_statement_1 10 rfl) ?_
      obtain ⟨u_15, e_16, hf⟩ := Option.bind_eq_some_iff.mp hf
      refine Ct.V (As := [.int u_1, .int ((4 : Int32) * statements)]) (rest := []) (st1 := [.int u_15.2.2]) (w1 := (wM G ad refused there used hidden kind figure good load inn tape letter_11 letterAt_13 u_15.1 kept row costs ships coughs day away taped u_15.2.1 statements hasImage isKeeping cursor backs free goodFor loadedWhen bareGood bareWhen rowMany lots)) C hs (c_X5_readsAll e_16) tw_816 tw_818 tw_24 tw_85 tw_819 nq_X5_readsAll (by decide) 0 5 rfl rfl rfl rfl hl.1 rfl (Nat.le_of_ble_eq_true rfl) (dk hX5_statement_1 11 rfl) ⟨Nat.zero_le _, Nat.zero_le _⟩ rfl (fun H locs hs => ?_)
      refine lv_if_eq (tgt := 105) hx hb (dk hX5_statement_1 12 rfl) (by decide) (fun hc => ?_) (fun hc => ?_)
      · replace hf := ip hf hc
        refine lv_iconst (v := (0 : Int32)) hx hb (dk hX5_statement_1 17 rfl) (by decide) ?_
        cases hf
        exact rz (x := (0 : Int32)) rfl C hs (dk hX5_statement_1 18 rfl)
      · replace hf := in_ hf hc
        refine lv_aload_n hx hb (dk hX5_statement_1 13 rfl) rfl (lv_at hl 1 rfl) ?_
        obtain ⟨u_17, e_18, hf⟩ := Option.bind_eq_some_iff.mp hf
        refine Ct.V (As := []) (rest := []) (st1 := [.int u_17]) (w1 := (wM G ad refused there used hidden kind figure good load inn tape letter_11 letterAt_13 u_15.1 kept row costs ships coughs day away taped u_15.2.1 statements hasImage isKeeping cursor backs free goodFor loadedWhen bareGood bareWhen rowMany lots)) C hs (c_X5_next e_18) tw_812 tw_814 tw_23 tw_85 tw_815 nq_X5_next (by decide) 0 5 rfl rfl rfl rfl hl.1 rfl (Nat.le_of_ble_eq_true rfl) (dk hX5_statement_1 14 rfl) ⟨Nat.zero_le _, Nat.zero_le _⟩ rfl (fun H locs hs => ?_)
        refine lv_bipush (v := (59 : Int32)) hx hb (dk hX5_statement_1 15 rfl) (by decide) ?_
        refine lv_icmp_eq (tgt := 107) hx hb (dk hX5_statement_1 16 rfl) (by decide) (fun hc => ?_) (fun hc => ?_)
        · replace hf := ip hf hc
          refine lv_aload_n hx hb (dk hX5_statement_1 19 rfl) rfl (lv_at hl 1 rfl) ?_
          refine lv_dup hx hb (dk hX5_statement_1 20 rfl) rfl ?_
          refine rg ui5 rfl C hs 0 rfl 18 (by decide) tw_708 rfl rfl (dk hX5_statement_1 21 rfl) ?_
          refine lv_iconst (v := (1 : Int32)) hx hb (dk hX5_statement_1 22 rfl) (by decide) ?_
          refine lv_iadd hx hb (dk hX5_statement_1 23 rfl) ?_
          refine rp (w1 := (wM G ad refused there used hidden kind figure good load inn tape letter_11 letterAt_13 u_15.1 kept row costs ships coughs day away taped (u_15.2.1 + (1 : Int32)) statements hasImage isKeeping cursor backs free goodFor loadedWhen bareGood bareWhen rowMany lots)) tyX5 tyX5_ok nmX5 ui5 rfl C hs 0 rfl 18 (by decide) tw_708 rfl rfl rfl rfl (Nat.le_of_ble_eq_true rfl) rfl (dk hX5_statement_1 24 rfl) (fun H locs hs => ?_)
          refine lv_iconst (v := (1 : Int32)) hx hb (dk hX5_statement_1 25 rfl) (by decide) ?_
          cases hf
          exact rz (x := (1 : Int32)) rfl C hs (dk hX5_statement_1 26 rfl)
        · replace hf := in_ hf hc
          refine lv_iconst (v := (0 : Int32)) hx hb (dk hX5_statement_1 17 rfl) (by decide) ?_
          cases hf
          exact rz (x := (0 : Int32)) rfl C hs (dk hX5_statement_1 18 rfl)
    · replace hf := in_ hf hc
      refine lv_iload_n hx hb (dk hX5_statement_0 9 rfl) rfl (lv_at hl 0 rfl) ?_
      refine lv_bipush (v := (117 : Int32)) hx hb (dk hX5_statement_0 10 rfl) (by decide) ?_
      refine lv_icmp_eq (tgt := 49) hx hb (dk hX5_statement_0 11 rfl) (by decide) (fun hc => ?_) (fun hc => ?_)
      · replace hf := ip hf hc
        refine lv_aload_n hx hb (dk hX5_statement_0 26 rfl) rfl (lv_at hl 1 rfl) ?_
        refine rg ui5 rfl C hs 0 rfl 14 (by decide) tw_704 rfl rfl (dk hX5_statement_0 27 rfl) ?_
        refine lv_aload_n hx hb (dk hX5_statement_0 28 rfl) rfl (lv_at hl 1 rfl) ?_
        refine rg ui5 rfl C hs 0 rfl 19 (by decide) tw_709 rfl rfl (dk hX5_statement_0 29 rfl) ?_
        refine lv_iload_n hx hb (dk hX5_statement_0 30 rfl) rfl (lv_at hl 0 rfl) ?_
        obtain ⟨letter_19, e_20, hf⟩ := Option.bind_eq_some_iff.mp hf
        refine rist (w1 := (wM G ad refused there used hidden kind figure good load inn tape letter_19 letterAt told kept row costs ships coughs day away taped reading statements hasImage isKeeping cursor backs free goodFor loadedWhen bareGood bareWhen rowMany lots)) C hs 11 rfl e_20 rfl (dk hX5_statement_0 31 rfl) (fun H locs hs => ?_)
        refine lv_aload_n hx hb (dk hX5_statement_0 32 rfl) rfl (lv_at hl 1 rfl) ?_
        refine rg ui5 rfl C hs 0 rfl 15 (by decide) tw_705 rfl rfl (dk hX5_statement_0 33 rfl) ?_
        refine lv_aload_n hx hb (dk hX5_statement_0 34 rfl) rfl (lv_at hl 1 rfl) ?_
        refine rg ui5 rfl C hs 0 rfl 19 (by decide) tw_709 rfl rfl (dk hX5_statement_0 35 rfl) ?_
        refine lv_aload_n hx hb (dk hX5_statement_0 36 rfl) rfl (lv_at hl 1 rfl) ?_
        refine rg ui5 rfl C hs 0 rfl 18 (by decide) tw_708 rfl rfl (dk hX5_statement_0 37 rfl) ?_
        obtain ⟨letterAt_21, e_22, hf⟩ := Option.bind_eq_some_iff.mp hf
        refine rist (w1 := (wM G ad refused there used hidden kind figure good load inn tape letter_19 letterAt_21 told kept row costs ships coughs day away taped reading statements hasImage isKeeping cursor backs free goodFor loadedWhen bareGood bareWhen rowMany lots)) C hs 12 rfl e_22 rfl (dk hX5_statement_0 38 rfl) (fun H locs hs => ?_)
        refine lv_aload_n hx hb (dk hX5_statement_0 39 rfl) rfl (lv_at hl 1 rfl) ?_
        refine lv_dup hx hb (dk hX5_statement_1 0 rfl) rfl ?_
        refine rg ui5 rfl C hs 0 rfl 18 (by decide) tw_708 rfl rfl (dk hX5_statement_1 1 rfl) ?_
        refine lv_iconst (v := (1 : Int32)) hx hb (dk hX5_statement_1 2 rfl) (by decide) ?_
        refine lv_iadd hx hb (dk hX5_statement_1 3 rfl) ?_
        refine rp (w1 := (wM G ad refused there used hidden kind figure good load inn tape letter_19 letterAt_21 told kept row costs ships coughs day away taped (reading + (1 : Int32)) statements hasImage isKeeping cursor backs free goodFor loadedWhen bareGood bareWhen rowMany lots)) tyX5 tyX5_ok nmX5 ui5 rfl C hs 0 rfl 18 (by decide) tw_708 rfl rfl rfl rfl (Nat.le_of_ble_eq_true rfl) rfl (dk hX5_statement_1 4 rfl) (fun H locs hs => ?_)
        refine lv_aload_n hx hb (dk hX5_statement_1 5 rfl) rfl (lv_at hl 1 rfl) ?_
        refine lv_iload_n hx hb (dk hX5_statement_1 6 rfl) rfl (lv_at hl 0 rfl) ?_
        refine lv_iconst (v := (4 : Int32)) hx hb (dk hX5_statement_1 7 rfl) (by decide) ?_
        refine lv_aload_n hx hb (dk hX5_statement_1 8 rfl) rfl (lv_at hl 1 rfl) ?_
        refine rg ui5 rfl C hs 0 rfl 19 (by decide) tw_709 rfl rfl (dk hX5_statement_1 9 rfl) ?_
        refine lv_imul hx hb (dk hX5_statement_1 10 rfl) ?_
        obtain ⟨u_23, e_24, hf⟩ := Option.bind_eq_some_iff.mp hf
        refine Ct.V (As := [.int u_1, .int ((4 : Int32) * statements)]) (rest := []) (st1 := [.int u_23.2.2]) (w1 := (wM G ad refused there used hidden kind figure good load inn tape letter_19 letterAt_21 u_23.1 kept row costs ships coughs day away taped u_23.2.1 statements hasImage isKeeping cursor backs free goodFor loadedWhen bareGood bareWhen rowMany lots)) C hs (c_X5_readsAll e_24) tw_816 tw_818 tw_24 tw_85 tw_819 nq_X5_readsAll (by decide) 0 5 rfl rfl rfl rfl hl.1 rfl (Nat.le_of_ble_eq_true rfl) (dk hX5_statement_1 11 rfl) ⟨Nat.zero_le _, Nat.zero_le _⟩ rfl (fun H locs hs => ?_)
        refine lv_if_eq (tgt := 105) hx hb (dk hX5_statement_1 12 rfl) (by decide) (fun hc => ?_) (fun hc => ?_)
        · replace hf := ip hf hc
          refine lv_iconst (v := (0 : Int32)) hx hb (dk hX5_statement_1 17 rfl) (by decide) ?_
          cases hf
          exact rz (x := (0 : Int32)) rfl C hs (dk hX5_statement_1 18 rfl)
        · replace hf := in_ hf hc
          refine lv_aload_n hx hb (dk hX5_statement_1 13 rfl) rfl (lv_at hl 1 rfl) ?_
          obtain ⟨u_25, e_26, hf⟩ := Option.bind_eq_some_iff.mp hf
          refine Ct.V (As := []) (rest := []) (st1 := [.int u_25]) (w1 := (wM G ad refused there used hidden kind figure good load inn tape letter_19 letterAt_21 u_23.1 kept row costs ships coughs day away taped u_23.2.1 statements hasImage isKeeping cursor backs free goodFor loadedWhen bareGood bareWhen rowMany lots)) C hs (c_X5_next e_26) tw_812 tw_814 tw_23 tw_85 tw_815 nq_X5_next (by decide) 0 5 rfl rfl rfl rfl hl.1 rfl (Nat.le_of_ble_eq_true rfl) (dk hX5_statement_1 14 rfl) ⟨Nat.zero_le _, Nat.zero_le _⟩ rfl (fun H locs hs => ?_)
          refine lv_bipush (v := (59 : Int32)) hx hb (dk hX5_statement_1 15 rfl) (by decide) ?_
          refine lv_icmp_eq (tgt := 107) hx hb (dk hX5_statement_1 16 rfl) (by decide) (fun hc => ?_) (fun hc => ?_)
          · replace hf := ip hf hc
            refine lv_aload_n hx hb (dk hX5_statement_1 19 rfl) rfl (lv_at hl 1 rfl) ?_
            refine lv_dup hx hb (dk hX5_statement_1 20 rfl) rfl ?_
            refine rg ui5 rfl C hs 0 rfl 18 (by decide) tw_708 rfl rfl (dk hX5_statement_1 21 rfl) ?_
            refine lv_iconst (v := (1 : Int32)) hx hb (dk hX5_statement_1 22 rfl) (by decide) ?_
            refine lv_iadd hx hb (dk hX5_statement_1 23 rfl) ?_
            refine rp (w1 := (wM G ad refused there used hidden kind figure good load inn tape letter_19 letterAt_21 u_23.1 kept row costs ships coughs day away taped (u_23.2.1 + (1 : Int32)) statements hasImage isKeeping cursor backs free goodFor loadedWhen bareGood bareWhen rowMany lots)) tyX5 tyX5_ok nmX5 ui5 rfl C hs 0 rfl 18 (by decide) tw_708 rfl rfl rfl rfl (Nat.le_of_ble_eq_true rfl) rfl (dk hX5_statement_1 24 rfl) (fun H locs hs => ?_)
            refine lv_iconst (v := (1 : Int32)) hx hb (dk hX5_statement_1 25 rfl) (by decide) ?_
            cases hf
            exact rz (x := (1 : Int32)) rfl C hs (dk hX5_statement_1 26 rfl)
          · replace hf := in_ hf hc
            refine lv_iconst (v := (0 : Int32)) hx hb (dk hX5_statement_1 17 rfl) (by decide) ?_
            cases hf
            exact rz (x := (0 : Int32)) rfl C hs (dk hX5_statement_1 18 rfl)
      · replace hf := in_ hf hc
        refine lv_iload_n hx hb (dk hX5_statement_0 12 rfl) rfl (lv_at hl 0 rfl) ?_
        refine lv_bipush (v := (104 : Int32)) hx hb (dk hX5_statement_0 13 rfl) (by decide) ?_
        refine lv_icmp_eq (tgt := 49) hx hb (dk hX5_statement_0 14 rfl) (by decide) (fun hc => ?_) (fun hc => ?_)
        · replace hf := ip hf hc
          refine lv_aload_n hx hb (dk hX5_statement_0 26 rfl) rfl (lv_at hl 1 rfl) ?_
          refine rg ui5 rfl C hs 0 rfl 14 (by decide) tw_704 rfl rfl (dk hX5_statement_0 27 rfl) ?_
          refine lv_aload_n hx hb (dk hX5_statement_0 28 rfl) rfl (lv_at hl 1 rfl) ?_
          refine rg ui5 rfl C hs 0 rfl 19 (by decide) tw_709 rfl rfl (dk hX5_statement_0 29 rfl) ?_
          refine lv_iload_n hx hb (dk hX5_statement_0 30 rfl) rfl (lv_at hl 0 rfl) ?_
          obtain ⟨letter_27, e_28, hf⟩ := Option.bind_eq_some_iff.mp hf
          refine rist (w1 := (wM G ad refused there used hidden kind figure good load inn tape letter_27 letterAt told kept row costs ships coughs day away taped reading statements hasImage isKeeping cursor backs free goodFor loadedWhen bareGood bareWhen rowMany lots)) C hs 11 rfl e_28 rfl (dk hX5_statement_0 31 rfl) (fun H locs hs => ?_)
          refine lv_aload_n hx hb (dk hX5_statement_0 32 rfl) rfl (lv_at hl 1 rfl) ?_
          refine rg ui5 rfl C hs 0 rfl 15 (by decide) tw_705 rfl rfl (dk hX5_statement_0 33 rfl) ?_
          refine lv_aload_n hx hb (dk hX5_statement_0 34 rfl) rfl (lv_at hl 1 rfl) ?_
          refine rg ui5 rfl C hs 0 rfl 19 (by decide) tw_709 rfl rfl (dk hX5_statement_0 35 rfl) ?_
          refine lv_aload_n hx hb (dk hX5_statement_0 36 rfl) rfl (lv_at hl 1 rfl) ?_
          refine rg ui5 rfl C hs 0 rfl 18 (by decide) tw_708 rfl rfl (dk hX5_statement_0 37 rfl) ?_
          obtain ⟨letterAt_29, e_30, hf⟩ := Option.bind_eq_some_iff.mp hf
          refine rist (w1 := (wM G ad refused there used hidden kind figure good load inn tape letter_27 letterAt_29 told kept row costs ships coughs day away taped reading statements hasImage isKeeping cursor backs free goodFor loadedWhen bareGood bareWhen rowMany lots)) C hs 12 rfl e_30 rfl (dk hX5_statement_0 38 rfl) (fun H locs hs => ?_)
          refine lv_aload_n hx hb (dk hX5_statement_0 39 rfl) rfl (lv_at hl 1 rfl) ?_
          refine lv_dup hx hb (dk hX5_statement_1 0 rfl) rfl ?_
          refine rg ui5 rfl C hs 0 rfl 18 (by decide) tw_708 rfl rfl (dk hX5_statement_1 1 rfl) ?_
          refine lv_iconst (v := (1 : Int32)) hx hb (dk hX5_statement_1 2 rfl) (by decide) ?_
          refine lv_iadd hx hb (dk hX5_statement_1 3 rfl) ?_
          refine rp (w1 := (wM G ad refused there used hidden kind figure good load inn tape letter_27 letterAt_29 told kept row costs ships coughs day away taped (reading + (1 : Int32)) statements hasImage isKeeping cursor backs free goodFor loadedWhen bareGood bareWhen rowMany lots)) tyX5 tyX5_ok nmX5 ui5 rfl C hs 0 rfl 18 (by decide) tw_708 rfl rfl rfl rfl (Nat.le_of_ble_eq_true rfl) rfl (dk hX5_statement_1 4 rfl) (fun H locs hs => ?_)
          refine lv_aload_n hx hb (dk hX5_statement_1 5 rfl) rfl (lv_at hl 1 rfl) ?_
          refine lv_iload_n hx hb (dk hX5_statement_1 6 rfl) rfl (lv_at hl 0 rfl) ?_
          refine lv_iconst (v := (4 : Int32)) hx hb (dk hX5_statement_1 7 rfl) (by decide) ?_
          refine lv_aload_n hx hb (dk hX5_statement_1 8 rfl) rfl (lv_at hl 1 rfl) ?_
          refine rg ui5 rfl C hs 0 rfl 19 (by decide) tw_709 rfl rfl (dk hX5_statement_1 9 rfl) ?_
          refine lv_imul hx hb (dk hX5_statement_1 10 rfl) ?_
          obtain ⟨u_31, e_32, hf⟩ := Option.bind_eq_some_iff.mp hf
          refine Ct.V (As := [.int u_1, .int ((4 : Int32) * statements)]) (rest := []) (st1 := [.int u_31.2.2]) (w1 := (wM G ad refused there used hidden kind figure good load inn tape letter_27 letterAt_29 u_31.1 kept row costs ships coughs day away taped u_31.2.1 statements hasImage isKeeping cursor backs free goodFor loadedWhen bareGood bareWhen rowMany lots)) C hs (c_X5_readsAll e_32) tw_816 tw_818 tw_24 tw_85 tw_819 nq_X5_readsAll (by decide) 0 5 rfl rfl rfl rfl hl.1 rfl (Nat.le_of_ble_eq_true rfl) (dk hX5_statement_1 11 rfl) ⟨Nat.zero_le _, Nat.zero_le _⟩ rfl (fun H locs hs => ?_)
          refine lv_if_eq (tgt := 105) hx hb (dk hX5_statement_1 12 rfl) (by decide) (fun hc => ?_) (fun hc => ?_)
          · replace hf := ip hf hc
            refine lv_iconst (v := (0 : Int32)) hx hb (dk hX5_statement_1 17 rfl) (by decide) ?_
            cases hf
            exact rz (x := (0 : Int32)) rfl C hs (dk hX5_statement_1 18 rfl)
          · replace hf := in_ hf hc
            refine lv_aload_n hx hb (dk hX5_statement_1 13 rfl) rfl (lv_at hl 1 rfl) ?_
            obtain ⟨u_33, e_34, hf⟩ := Option.bind_eq_some_iff.mp hf
            refine Ct.V (As := []) (rest := []) (st1 := [.int u_33]) (w1 := (wM G ad refused there used hidden kind figure good load inn tape letter_27 letterAt_29 u_31.1 kept row costs ships coughs day away taped u_31.2.1 statements hasImage isKeeping cursor backs free goodFor loadedWhen bareGood bareWhen rowMany lots)) C hs (c_X5_next e_34) tw_812 tw_814 tw_23 tw_85 tw_815 nq_X5_next (by decide) 0 5 rfl rfl rfl rfl hl.1 rfl (Nat.le_of_ble_eq_true rfl) (dk hX5_statement_1 14 rfl) ⟨Nat.zero_le _, Nat.zero_le _⟩ rfl (fun H locs hs => ?_)
            refine lv_bipush (v := (59 : Int32)) hx hb (dk hX5_statement_1 15 rfl) (by decide) ?_
            refine lv_icmp_eq (tgt := 107) hx hb (dk hX5_statement_1 16 rfl) (by decide) (fun hc => ?_) (fun hc => ?_)
            · replace hf := ip hf hc
              refine lv_aload_n hx hb (dk hX5_statement_1 19 rfl) rfl (lv_at hl 1 rfl) ?_
              refine lv_dup hx hb (dk hX5_statement_1 20 rfl) rfl ?_
              refine rg ui5 rfl C hs 0 rfl 18 (by decide) tw_708 rfl rfl (dk hX5_statement_1 21 rfl) ?_
              refine lv_iconst (v := (1 : Int32)) hx hb (dk hX5_statement_1 22 rfl) (by decide) ?_
              refine lv_iadd hx hb (dk hX5_statement_1 23 rfl) ?_
              refine rp (w1 := (wM G ad refused there used hidden kind figure good load inn tape letter_27 letterAt_29 u_31.1 kept row costs ships coughs day away taped (u_31.2.1 + (1 : Int32)) statements hasImage isKeeping cursor backs free goodFor loadedWhen bareGood bareWhen rowMany lots)) tyX5 tyX5_ok nmX5 ui5 rfl C hs 0 rfl 18 (by decide) tw_708 rfl rfl rfl rfl (Nat.le_of_ble_eq_true rfl) rfl (dk hX5_statement_1 24 rfl) (fun H locs hs => ?_)
              refine lv_iconst (v := (1 : Int32)) hx hb (dk hX5_statement_1 25 rfl) (by decide) ?_
              cases hf
              exact rz (x := (1 : Int32)) rfl C hs (dk hX5_statement_1 26 rfl)
            · replace hf := in_ hf hc
              refine lv_iconst (v := (0 : Int32)) hx hb (dk hX5_statement_1 17 rfl) (by decide) ?_
              cases hf
              exact rz (x := (0 : Int32)) rfl C hs (dk hX5_statement_1 18 rfl)
        · replace hf := in_ hf hc
          refine lv_iload_n hx hb (dk hX5_statement_0 15 rfl) rfl (lv_at hl 0 rfl) ?_
          refine lv_bipush (v := (111 : Int32)) hx hb (dk hX5_statement_0 16 rfl) (by decide) ?_
          refine lv_icmp_eq (tgt := 49) hx hb (dk hX5_statement_0 17 rfl) (by decide) (fun hc => ?_) (fun hc => ?_)
          · replace hf := ip hf hc
            refine lv_aload_n hx hb (dk hX5_statement_0 26 rfl) rfl (lv_at hl 1 rfl) ?_
            refine rg ui5 rfl C hs 0 rfl 14 (by decide) tw_704 rfl rfl (dk hX5_statement_0 27 rfl) ?_
            refine lv_aload_n hx hb (dk hX5_statement_0 28 rfl) rfl (lv_at hl 1 rfl) ?_
            refine rg ui5 rfl C hs 0 rfl 19 (by decide) tw_709 rfl rfl (dk hX5_statement_0 29 rfl) ?_
            refine lv_iload_n hx hb (dk hX5_statement_0 30 rfl) rfl (lv_at hl 0 rfl) ?_
            obtain ⟨letter_35, e_36, hf⟩ := Option.bind_eq_some_iff.mp hf
            refine rist (w1 := (wM G ad refused there used hidden kind figure good load inn tape letter_35 letterAt told kept row costs ships coughs day away taped reading statements hasImage isKeeping cursor backs free goodFor loadedWhen bareGood bareWhen rowMany lots)) C hs 11 rfl e_36 rfl (dk hX5_statement_0 31 rfl) (fun H locs hs => ?_)
            refine lv_aload_n hx hb (dk hX5_statement_0 32 rfl) rfl (lv_at hl 1 rfl) ?_
            refine rg ui5 rfl C hs 0 rfl 15 (by decide) tw_705 rfl rfl (dk hX5_statement_0 33 rfl) ?_
            refine lv_aload_n hx hb (dk hX5_statement_0 34 rfl) rfl (lv_at hl 1 rfl) ?_
            refine rg ui5 rfl C hs 0 rfl 19 (by decide) tw_709 rfl rfl (dk hX5_statement_0 35 rfl) ?_
            refine lv_aload_n hx hb (dk hX5_statement_0 36 rfl) rfl (lv_at hl 1 rfl) ?_
            refine rg ui5 rfl C hs 0 rfl 18 (by decide) tw_708 rfl rfl (dk hX5_statement_0 37 rfl) ?_
            obtain ⟨letterAt_37, e_38, hf⟩ := Option.bind_eq_some_iff.mp hf
            refine rist (w1 := (wM G ad refused there used hidden kind figure good load inn tape letter_35 letterAt_37 told kept row costs ships coughs day away taped reading statements hasImage isKeeping cursor backs free goodFor loadedWhen bareGood bareWhen rowMany lots)) C hs 12 rfl e_38 rfl (dk hX5_statement_0 38 rfl) (fun H locs hs => ?_)
            refine lv_aload_n hx hb (dk hX5_statement_0 39 rfl) rfl (lv_at hl 1 rfl) ?_
            refine lv_dup hx hb (dk hX5_statement_1 0 rfl) rfl ?_
            refine rg ui5 rfl C hs 0 rfl 18 (by decide) tw_708 rfl rfl (dk hX5_statement_1 1 rfl) ?_
            refine lv_iconst (v := (1 : Int32)) hx hb (dk hX5_statement_1 2 rfl) (by decide) ?_
            refine lv_iadd hx hb (dk hX5_statement_1 3 rfl) ?_
            refine rp (w1 := (wM G ad refused there used hidden kind figure good load inn tape letter_35 letterAt_37 told kept row costs ships coughs day away taped (reading + (1 : Int32)) statements hasImage isKeeping cursor backs free goodFor loadedWhen bareGood bareWhen rowMany lots)) tyX5 tyX5_ok nmX5 ui5 rfl C hs 0 rfl 18 (by decide) tw_708 rfl rfl rfl rfl (Nat.le_of_ble_eq_true rfl) rfl (dk hX5_statement_1 4 rfl) (fun H locs hs => ?_)
            refine lv_aload_n hx hb (dk hX5_statement_1 5 rfl) rfl (lv_at hl 1 rfl) ?_
            refine lv_iload_n hx hb (dk hX5_statement_1 6 rfl) rfl (lv_at hl 0 rfl) ?_
            refine lv_iconst (v := (4 : Int32)) hx hb (dk hX5_statement_1 7 rfl) (by decide) ?_
            refine lv_aload_n hx hb (dk hX5_statement_1 8 rfl) rfl (lv_at hl 1 rfl) ?_
            refine rg ui5 rfl C hs 0 rfl 19 (by decide) tw_709 rfl rfl (dk hX5_statement_1 9 rfl) ?_
            refine lv_imul hx hb (dk hX5_statement_1 10 rfl) ?_
            obtain ⟨u_39, e_40, hf⟩ := Option.bind_eq_some_iff.mp hf
            refine Ct.V (As := [.int u_1, .int ((4 : Int32) * statements)]) (rest := []) (st1 := [.int u_39.2.2]) (w1 := (wM G ad refused there used hidden kind figure good load inn tape letter_35 letterAt_37 u_39.1 kept row costs ships coughs day away taped u_39.2.1 statements hasImage isKeeping cursor backs free goodFor loadedWhen bareGood bareWhen rowMany lots)) C hs (c_X5_readsAll e_40) tw_816 tw_818 tw_24 tw_85 tw_819 nq_X5_readsAll (by decide) 0 5 rfl rfl rfl rfl hl.1 rfl (Nat.le_of_ble_eq_true rfl) (dk hX5_statement_1 11 rfl) ⟨Nat.zero_le _, Nat.zero_le _⟩ rfl (fun H locs hs => ?_)
            refine lv_if_eq (tgt := 105) hx hb (dk hX5_statement_1 12 rfl) (by decide) (fun hc => ?_) (fun hc => ?_)
            · replace hf := ip hf hc
              refine lv_iconst (v := (0 : Int32)) hx hb (dk hX5_statement_1 17 rfl) (by decide) ?_
              cases hf
              exact rz (x := (0 : Int32)) rfl C hs (dk hX5_statement_1 18 rfl)
            · replace hf := in_ hf hc
              refine lv_aload_n hx hb (dk hX5_statement_1 13 rfl) rfl (lv_at hl 1 rfl) ?_
              obtain ⟨u_41, e_42, hf⟩ := Option.bind_eq_some_iff.mp hf
              refine Ct.V (As := []) (rest := []) (st1 := [.int u_41]) (w1 := (wM G ad refused there used hidden kind figure good load inn tape letter_35 letterAt_37 u_39.1 kept row costs ships coughs day away taped u_39.2.1 statements hasImage isKeeping cursor backs free goodFor loadedWhen bareGood bareWhen rowMany lots)) C hs (c_X5_next e_42) tw_812 tw_814 tw_23 tw_85 tw_815 nq_X5_next (by decide) 0 5 rfl rfl rfl rfl hl.1 rfl (Nat.le_of_ble_eq_true rfl) (dk hX5_statement_1 14 rfl) ⟨Nat.zero_le _, Nat.zero_le _⟩ rfl (fun H locs hs => ?_)
              refine lv_bipush (v := (59 : Int32)) hx hb (dk hX5_statement_1 15 rfl) (by decide) ?_
              refine lv_icmp_eq (tgt := 107) hx hb (dk hX5_statement_1 16 rfl) (by decide) (fun hc => ?_) (fun hc => ?_)
              · replace hf := ip hf hc
                refine lv_aload_n hx hb (dk hX5_statement_1 19 rfl) rfl (lv_at hl 1 rfl) ?_
                refine lv_dup hx hb (dk hX5_statement_1 20 rfl) rfl ?_
                refine rg ui5 rfl C hs 0 rfl 18 (by decide) tw_708 rfl rfl (dk hX5_statement_1 21 rfl) ?_
                refine lv_iconst (v := (1 : Int32)) hx hb (dk hX5_statement_1 22 rfl) (by decide) ?_
                refine lv_iadd hx hb (dk hX5_statement_1 23 rfl) ?_
                refine rp (w1 := (wM G ad refused there used hidden kind figure good load inn tape letter_35 letterAt_37 u_39.1 kept row costs ships coughs day away taped (u_39.2.1 + (1 : Int32)) statements hasImage isKeeping cursor backs free goodFor loadedWhen bareGood bareWhen rowMany lots)) tyX5 tyX5_ok nmX5 ui5 rfl C hs 0 rfl 18 (by decide) tw_708 rfl rfl rfl rfl (Nat.le_of_ble_eq_true rfl) rfl (dk hX5_statement_1 24 rfl) (fun H locs hs => ?_)
                refine lv_iconst (v := (1 : Int32)) hx hb (dk hX5_statement_1 25 rfl) (by decide) ?_
                cases hf
                exact rz (x := (1 : Int32)) rfl C hs (dk hX5_statement_1 26 rfl)
              · replace hf := in_ hf hc
                refine lv_iconst (v := (0 : Int32)) hx hb (dk hX5_statement_1 17 rfl) (by decide) ?_
                cases hf
                exact rz (x := (0 : Int32)) rfl C hs (dk hX5_statement_1 18 rfl)
          · replace hf := in_ hf hc
            refine lv_iload_n hx hb (dk hX5_statement_0 18 rfl) rfl (lv_at hl 0 rfl) ?_
            refine lv_bipush (v := (99 : Int32)) hx hb (dk hX5_statement_0 19 rfl) (by decide) ?_
            refine lv_icmp_eq (tgt := 49) hx hb (dk hX5_statement_0 20 rfl) (by decide) (fun hc => ?_) (fun hc => ?_)
            · replace hf := ip hf hc
              refine lv_aload_n hx hb (dk hX5_statement_0 26 rfl) rfl (lv_at hl 1 rfl) ?_
              refine rg ui5 rfl C hs 0 rfl 14 (by decide) tw_704 rfl rfl (dk hX5_statement_0 27 rfl) ?_
              refine lv_aload_n hx hb (dk hX5_statement_0 28 rfl) rfl (lv_at hl 1 rfl) ?_
              refine rg ui5 rfl C hs 0 rfl 19 (by decide) tw_709 rfl rfl (dk hX5_statement_0 29 rfl) ?_
              refine lv_iload_n hx hb (dk hX5_statement_0 30 rfl) rfl (lv_at hl 0 rfl) ?_
              obtain ⟨letter_43, e_44, hf⟩ := Option.bind_eq_some_iff.mp hf
              refine rist (w1 := (wM G ad refused there used hidden kind figure good load inn tape letter_43 letterAt told kept row costs ships coughs day away taped reading statements hasImage isKeeping cursor backs free goodFor loadedWhen bareGood bareWhen rowMany lots)) C hs 11 rfl e_44 rfl (dk hX5_statement_0 31 rfl) (fun H locs hs => ?_)
              refine lv_aload_n hx hb (dk hX5_statement_0 32 rfl) rfl (lv_at hl 1 rfl) ?_
              refine rg ui5 rfl C hs 0 rfl 15 (by decide) tw_705 rfl rfl (dk hX5_statement_0 33 rfl) ?_
              refine lv_aload_n hx hb (dk hX5_statement_0 34 rfl) rfl (lv_at hl 1 rfl) ?_
              refine rg ui5 rfl C hs 0 rfl 19 (by decide) tw_709 rfl rfl (dk hX5_statement_0 35 rfl) ?_
              refine lv_aload_n hx hb (dk hX5_statement_0 36 rfl) rfl (lv_at hl 1 rfl) ?_
              refine rg ui5 rfl C hs 0 rfl 18 (by decide) tw_708 rfl rfl (dk hX5_statement_0 37 rfl) ?_
              obtain ⟨letterAt_45, e_46, hf⟩ := Option.bind_eq_some_iff.mp hf
              refine rist (w1 := (wM G ad refused there used hidden kind figure good load inn tape letter_43 letterAt_45 told kept row costs ships coughs day away taped reading statements hasImage isKeeping cursor backs free goodFor loadedWhen bareGood bareWhen rowMany lots)) C hs 12 rfl e_46 rfl (dk hX5_statement_0 38 rfl) (fun H locs hs => ?_)
              refine lv_aload_n hx hb (dk hX5_statement_0 39 rfl) rfl (lv_at hl 1 rfl) ?_
              refine lv_dup hx hb (dk hX5_statement_1 0 rfl) rfl ?_
              refine rg ui5 rfl C hs 0 rfl 18 (by decide) tw_708 rfl rfl (dk hX5_statement_1 1 rfl) ?_
              refine lv_iconst (v := (1 : Int32)) hx hb (dk hX5_statement_1 2 rfl) (by decide) ?_
              refine lv_iadd hx hb (dk hX5_statement_1 3 rfl) ?_
              refine rp (w1 := (wM G ad refused there used hidden kind figure good load inn tape letter_43 letterAt_45 told kept row costs ships coughs day away taped (reading + (1 : Int32)) statements hasImage isKeeping cursor backs free goodFor loadedWhen bareGood bareWhen rowMany lots)) tyX5 tyX5_ok nmX5 ui5 rfl C hs 0 rfl 18 (by decide) tw_708 rfl rfl rfl rfl (Nat.le_of_ble_eq_true rfl) rfl (dk hX5_statement_1 4 rfl) (fun H locs hs => ?_)
              refine lv_aload_n hx hb (dk hX5_statement_1 5 rfl) rfl (lv_at hl 1 rfl) ?_
              refine lv_iload_n hx hb (dk hX5_statement_1 6 rfl) rfl (lv_at hl 0 rfl) ?_
              refine lv_iconst (v := (4 : Int32)) hx hb (dk hX5_statement_1 7 rfl) (by decide) ?_
              refine lv_aload_n hx hb (dk hX5_statement_1 8 rfl) rfl (lv_at hl 1 rfl) ?_
              refine rg ui5 rfl C hs 0 rfl 19 (by decide) tw_709 rfl rfl (dk hX5_statement_1 9 rfl) ?_
              refine lv_imul hx hb (dk hX5_statement_1 10 rfl) ?_
              obtain ⟨u_47, e_48, hf⟩ := Option.bind_eq_some_iff.mp hf
              refine Ct.V (As := [.int u_1, .int ((4 : Int32) * statements)]) (rest := []) (st1 := [.int u_47.2.2]) (w1 := (wM G ad refused there used hidden kind figure good load inn tape letter_43 letterAt_45 u_47.1 kept row costs ships coughs day away taped u_47.2.1 statements hasImage isKeeping cursor backs free goodFor loadedWhen bareGood bareWhen rowMany lots)) C hs (c_X5_readsAll e_48) tw_816 tw_818 tw_24 tw_85 tw_819 nq_X5_readsAll (by decide) 0 5 rfl rfl rfl rfl hl.1 rfl (Nat.le_of_ble_eq_true rfl) (dk hX5_statement_1 11 rfl) ⟨Nat.zero_le _, Nat.zero_le _⟩ rfl (fun H locs hs => ?_)
              refine lv_if_eq (tgt := 105) hx hb (dk hX5_statement_1 12 rfl) (by decide) (fun hc => ?_) (fun hc => ?_)
              · replace hf := ip hf hc
                refine lv_iconst (v := (0 : Int32)) hx hb (dk hX5_statement_1 17 rfl) (by decide) ?_
                cases hf
                exact rz (x := (0 : Int32)) rfl C hs (dk hX5_statement_1 18 rfl)
              · replace hf := in_ hf hc
                refine lv_aload_n hx hb (dk hX5_statement_1 13 rfl) rfl (lv_at hl 1 rfl) ?_
                obtain ⟨u_49, e_50, hf⟩ := Option.bind_eq_some_iff.mp hf
                refine Ct.V (As := []) (rest := []) (st1 := [.int u_49]) (w1 := (wM G ad refused there used hidden kind figure good load inn tape letter_43 letterAt_45 u_47.1 kept row costs ships coughs day away taped u_47.2.1 statements hasImage isKeeping cursor backs free goodFor loadedWhen bareGood bareWhen rowMany lots)) C hs (c_X5_next e_50) tw_812 tw_814 tw_23 tw_85 tw_815 nq_X5_next (by decide) 0 5 rfl rfl rfl rfl hl.1 rfl (Nat.le_of_ble_eq_true rfl) (dk hX5_statement_1 14 rfl) ⟨Nat.zero_le _, Nat.zero_le _⟩ rfl (fun H locs hs => ?_)
                refine lv_bipush (v := (59 : Int32)) hx hb (dk hX5_statement_1 15 rfl) (by decide) ?_
                refine lv_icmp_eq (tgt := 107) hx hb (dk hX5_statement_1 16 rfl) (by decide) (fun hc => ?_) (fun hc => ?_)
                · replace hf := ip hf hc
                  refine lv_aload_n hx hb (dk hX5_statement_1 19 rfl) rfl (lv_at hl 1 rfl) ?_
                  refine lv_dup hx hb (dk hX5_statement_1 20 rfl) rfl ?_
                  refine rg ui5 rfl C hs 0 rfl 18 (by decide) tw_708 rfl rfl (dk hX5_statement_1 21 rfl) ?_
                  refine lv_iconst (v := (1 : Int32)) hx hb (dk hX5_statement_1 22 rfl) (by decide) ?_
                  refine lv_iadd hx hb (dk hX5_statement_1 23 rfl) ?_
                  refine rp (w1 := (wM G ad refused there used hidden kind figure good load inn tape letter_43 letterAt_45 u_47.1 kept row costs ships coughs day away taped (u_47.2.1 + (1 : Int32)) statements hasImage isKeeping cursor backs free goodFor loadedWhen bareGood bareWhen rowMany lots)) tyX5 tyX5_ok nmX5 ui5 rfl C hs 0 rfl 18 (by decide) tw_708 rfl rfl rfl rfl (Nat.le_of_ble_eq_true rfl) rfl (dk hX5_statement_1 24 rfl) (fun H locs hs => ?_)
                  refine lv_iconst (v := (1 : Int32)) hx hb (dk hX5_statement_1 25 rfl) (by decide) ?_
                  cases hf
                  exact rz (x := (1 : Int32)) rfl C hs (dk hX5_statement_1 26 rfl)
                · replace hf := in_ hf hc
                  refine lv_iconst (v := (0 : Int32)) hx hb (dk hX5_statement_1 17 rfl) (by decide) ?_
                  cases hf
                  exact rz (x := (0 : Int32)) rfl C hs (dk hX5_statement_1 18 rfl)
            · replace hf := in_ hf hc
              refine lv_iload_n hx hb (dk hX5_statement_0 21 rfl) rfl (lv_at hl 0 rfl) ?_
              refine lv_bipush (v := (100 : Int32)) hx hb (dk hX5_statement_0 22 rfl) (by decide) ?_
              refine lv_icmp_eq (tgt := 49) hx hb (dk hX5_statement_0 23 rfl) (by decide) (fun hc => ?_) (fun hc => ?_)
              · replace hf := ip hf hc
                refine lv_aload_n hx hb (dk hX5_statement_0 26 rfl) rfl (lv_at hl 1 rfl) ?_
                refine rg ui5 rfl C hs 0 rfl 14 (by decide) tw_704 rfl rfl (dk hX5_statement_0 27 rfl) ?_
                refine lv_aload_n hx hb (dk hX5_statement_0 28 rfl) rfl (lv_at hl 1 rfl) ?_
                refine rg ui5 rfl C hs 0 rfl 19 (by decide) tw_709 rfl rfl (dk hX5_statement_0 29 rfl) ?_
                refine lv_iload_n hx hb (dk hX5_statement_0 30 rfl) rfl (lv_at hl 0 rfl) ?_
                obtain ⟨letter_51, e_52, hf⟩ := Option.bind_eq_some_iff.mp hf
                refine rist (w1 := (wM G ad refused there used hidden kind figure good load inn tape letter_51 letterAt told kept row costs ships coughs day away taped reading statements hasImage isKeeping cursor backs free goodFor loadedWhen bareGood bareWhen rowMany lots)) C hs 11 rfl e_52 rfl (dk hX5_statement_0 31 rfl) (fun H locs hs => ?_)
                refine lv_aload_n hx hb (dk hX5_statement_0 32 rfl) rfl (lv_at hl 1 rfl) ?_
                refine rg ui5 rfl C hs 0 rfl 15 (by decide) tw_705 rfl rfl (dk hX5_statement_0 33 rfl) ?_
                refine lv_aload_n hx hb (dk hX5_statement_0 34 rfl) rfl (lv_at hl 1 rfl) ?_
                refine rg ui5 rfl C hs 0 rfl 19 (by decide) tw_709 rfl rfl (dk hX5_statement_0 35 rfl) ?_
                refine lv_aload_n hx hb (dk hX5_statement_0 36 rfl) rfl (lv_at hl 1 rfl) ?_
                refine rg ui5 rfl C hs 0 rfl 18 (by decide) tw_708 rfl rfl (dk hX5_statement_0 37 rfl) ?_
                obtain ⟨letterAt_53, e_54, hf⟩ := Option.bind_eq_some_iff.mp hf
                refine rist (w1 := (wM G ad refused there used hidden kind figure good load inn tape letter_51 letterAt_53 told kept row costs ships coughs day away taped reading statements hasImage isKeeping cursor backs free goodFor loadedWhen bareGood bareWhen rowMany lots)) C hs 12 rfl e_54 rfl (dk hX5_statement_0 38 rfl) (fun H locs hs => ?_)
                refine lv_aload_n hx hb (dk hX5_statement_0 39 rfl) rfl (lv_at hl 1 rfl) ?_
                refine lv_dup hx hb (dk hX5_statement_1 0 rfl) rfl ?_
                refine rg ui5 rfl C hs 0 rfl 18 (by decide) tw_708 rfl rfl (dk hX5_statement_1 1 rfl) ?_
                refine lv_iconst (v := (1 : Int32)) hx hb (dk hX5_statement_1 2 rfl) (by decide) ?_
                refine lv_iadd hx hb (dk hX5_statement_1 3 rfl) ?_
                refine rp (w1 := (wM G ad refused there used hidden kind figure good load inn tape letter_51 letterAt_53 told kept row costs ships coughs day away taped (reading + (1 : Int32)) statements hasImage isKeeping cursor backs free goodFor loadedWhen bareGood bareWhen rowMany lots)) tyX5 tyX5_ok nmX5 ui5 rfl C hs 0 rfl 18 (by decide) tw_708 rfl rfl rfl rfl (Nat.le_of_ble_eq_true rfl) rfl (dk hX5_statement_1 4 rfl) (fun H locs hs => ?_)
                refine lv_aload_n hx hb (dk hX5_statement_1 5 rfl) rfl (lv_at hl 1 rfl) ?_
                refine lv_iload_n hx hb (dk hX5_statement_1 6 rfl) rfl (lv_at hl 0 rfl) ?_
                refine lv_iconst (v := (4 : Int32)) hx hb (dk hX5_statement_1 7 rfl) (by decide) ?_
                refine lv_aload_n hx hb (dk hX5_statement_1 8 rfl) rfl (lv_at hl 1 rfl) ?_
                refine rg ui5 rfl C hs 0 rfl 19 (by decide) tw_709 rfl rfl (dk hX5_statement_1 9 rfl) ?_
                refine lv_imul hx hb (dk hX5_statement_1 10 rfl) ?_
                obtain ⟨u_55, e_56, hf⟩ := Option.bind_eq_some_iff.mp hf
                refine Ct.V (As := [.int u_1, .int ((4 : Int32) * statements)]) (rest := []) (st1 := [.int u_55.2.2]) (w1 := (wM G ad refused there used hidden kind figure good load inn tape letter_51 letterAt_53 u_55.1 kept row costs ships coughs day away taped u_55.2.1 statements hasImage isKeeping cursor backs free goodFor loadedWhen bareGood bareWhen rowMany lots)) C hs (c_X5_readsAll e_56) tw_816 tw_818 tw_24 tw_85 tw_819 nq_X5_readsAll (by decide) 0 5 rfl rfl rfl rfl hl.1 rfl (Nat.le_of_ble_eq_true rfl) (dk hX5_statement_1 11 rfl) ⟨Nat.zero_le _, Nat.zero_le _⟩ rfl (fun H locs hs => ?_)
                refine lv_if_eq (tgt := 105) hx hb (dk hX5_statement_1 12 rfl) (by decide) (fun hc => ?_) (fun hc => ?_)
                · replace hf := ip hf hc
                  refine lv_iconst (v := (0 : Int32)) hx hb (dk hX5_statement_1 17 rfl) (by decide) ?_
                  cases hf
                  exact rz (x := (0 : Int32)) rfl C hs (dk hX5_statement_1 18 rfl)
                · replace hf := in_ hf hc
                  refine lv_aload_n hx hb (dk hX5_statement_1 13 rfl) rfl (lv_at hl 1 rfl) ?_
                  obtain ⟨u_57, e_58, hf⟩ := Option.bind_eq_some_iff.mp hf
                  refine Ct.V (As := []) (rest := []) (st1 := [.int u_57]) (w1 := (wM G ad refused there used hidden kind figure good load inn tape letter_51 letterAt_53 u_55.1 kept row costs ships coughs day away taped u_55.2.1 statements hasImage isKeeping cursor backs free goodFor loadedWhen bareGood bareWhen rowMany lots)) C hs (c_X5_next e_58) tw_812 tw_814 tw_23 tw_85 tw_815 nq_X5_next (by decide) 0 5 rfl rfl rfl rfl hl.1 rfl (Nat.le_of_ble_eq_true rfl) (dk hX5_statement_1 14 rfl) ⟨Nat.zero_le _, Nat.zero_le _⟩ rfl (fun H locs hs => ?_)
                  refine lv_bipush (v := (59 : Int32)) hx hb (dk hX5_statement_1 15 rfl) (by decide) ?_
                  refine lv_icmp_eq (tgt := 107) hx hb (dk hX5_statement_1 16 rfl) (by decide) (fun hc => ?_) (fun hc => ?_)
                  · replace hf := ip hf hc
                    refine lv_aload_n hx hb (dk hX5_statement_1 19 rfl) rfl (lv_at hl 1 rfl) ?_
                    refine lv_dup hx hb (dk hX5_statement_1 20 rfl) rfl ?_
                    refine rg ui5 rfl C hs 0 rfl 18 (by decide) tw_708 rfl rfl (dk hX5_statement_1 21 rfl) ?_
                    refine lv_iconst (v := (1 : Int32)) hx hb (dk hX5_statement_1 22 rfl) (by decide) ?_
                    refine lv_iadd hx hb (dk hX5_statement_1 23 rfl) ?_
                    refine rp (w1 := (wM G ad refused there used hidden kind figure good load inn tape letter_51 letterAt_53 u_55.1 kept row costs ships coughs day away taped (u_55.2.1 + (1 : Int32)) statements hasImage isKeeping cursor backs free goodFor loadedWhen bareGood bareWhen rowMany lots)) tyX5 tyX5_ok nmX5 ui5 rfl C hs 0 rfl 18 (by decide) tw_708 rfl rfl rfl rfl (Nat.le_of_ble_eq_true rfl) rfl (dk hX5_statement_1 24 rfl) (fun H locs hs => ?_)
                    refine lv_iconst (v := (1 : Int32)) hx hb (dk hX5_statement_1 25 rfl) (by decide) ?_
                    cases hf
                    exact rz (x := (1 : Int32)) rfl C hs (dk hX5_statement_1 26 rfl)
                  · replace hf := in_ hf hc
                    refine lv_iconst (v := (0 : Int32)) hx hb (dk hX5_statement_1 17 rfl) (by decide) ?_
                    cases hf
                    exact rz (x := (0 : Int32)) rfl C hs (dk hX5_statement_1 18 rfl)
              · replace hf := in_ hf hc
                refine lv_iconst (v := (0 : Int32)) hx hb (dk hX5_statement_0 24 rfl) (by decide) ?_
                cases hf
                exact rz (x := (0 : Int32)) rfl C hs (dk hX5_statement_0 25 rfl)

def X5_adds (kind : List Int32) (figure : List Int32) (good : List Int32) (load : List Int32) (inn : List Int32) (ships : Int32) (p0 : Int32) (p1 : Int32) (p2 : Int32) (p3 : Int32) : Option (List Int32 × List Int32 × List Int32 × List Int32 × List Int32 × Int32) :=
  (wr kind ships p0).bind fun kind_1 =>
  (wr figure ships p1).bind fun figure_3 =>
  (wr good ships p2).bind fun good_5 =>
  (wr load ships p3).bind fun load_7 =>
  (wr inn ships (0 : Int32)).bind fun inn_9 =>
  some (kind_1, figure_3, good_5, load_7, inn_9, (ships + (1 : Int32)))
set_option maxRecDepth 100000 in
set_option maxHeartbeats 4000000 in
theorem c_X5_adds {l : Launch} {G : Gx} {ad : Nat → Nat} {refused there used hidden kind figure good load inn tape letter letterAt told kept row costs : List Int32} {ships coughs day away taped reading statements hasImage isKeeping cursor backs free goodFor loadedWhen bareGood bareWhen rowMany lots : Int32} {p0 : Int32} {p1 : Int32} {p2 : Int32} {p3 : Int32} {out : List Int32 × List Int32 × List Int32 × List Int32 × List Int32 × Int32} (hf : X5_adds kind figure good load inn ships p0 p1 p2 p3 = some out) : Ct l G yX5_adds cX5_adds 5 (none) 0 0 [.ref (ad 0), .int p0, .int p1, .int p2, .int p3] (wM G ad refused there used hidden kind figure good load inn tape letter letterAt told kept row costs ships coughs day away taped reading statements hasImage isKeeping cursor backs free goodFor loadedWhen bareGood bareWhen rowMany lots) (none) (wM G ad refused there used hidden out.1 out.2.1 out.2.2.1 out.2.2.2.1 out.2.2.2.2.1 tape letter letterAt told kept row costs out.2.2.2.2.2 coughs day away taped reading statements hasImage isKeeping cursor backs free goodFor loadedWhen bareGood bareWhen rowMany lots) := by
  refine Ct.intro RX5 rfl (plainFor_of_name (by decide)) (Nat.le_of_ble_eq_true rfl) rfl ?_
  intro p e s m args below meth c A C H locs hs ls hl
  obtain ⟨hx, hb, hml, hown, hts, hK, hret, hlk⟩ := id C
  have hl : lv_has ls 5 [(0, .ref (ad 0)), (1, .int p0), (2, .int p1), (3, .int p2), (4, .int p3)] := hl
  unfold X5_adds at hf
  refine lv_aload_n hx hb (dk hX5_adds_0 0 rfl) rfl (lv_at hl 0 rfl) ?_
  refine rg ui5 rfl C hs 0 rfl 4 (by decide) tw_694 rfl rfl (dk hX5_adds_0 1 rfl) ?_
  refine lv_aload_n hx hb (dk hX5_adds_0 2 rfl) rfl (lv_at hl 0 rfl) ?_
  refine rg ui5 rfl C hs 0 rfl 9 (by decide) tw_699 rfl rfl (dk hX5_adds_0 3 rfl) ?_
  refine lv_iload_n hx hb (dk hX5_adds_0 4 rfl) rfl (lv_at hl 1 rfl) ?_
  obtain ⟨kind_1, e_2, hf⟩ := Option.bind_eq_some_iff.mp hf
  refine rist (w1 := (wM G ad refused there used hidden kind_1 figure good load inn tape letter letterAt told kept row costs ships coughs day away taped reading statements hasImage isKeeping cursor backs free goodFor loadedWhen bareGood bareWhen rowMany lots)) C hs 5 rfl e_2 rfl (dk hX5_adds_0 5 rfl) (fun H locs hs => ?_)
  refine lv_aload_n hx hb (dk hX5_adds_0 6 rfl) rfl (lv_at hl 0 rfl) ?_
  refine rg ui5 rfl C hs 0 rfl 5 (by decide) tw_695 rfl rfl (dk hX5_adds_0 7 rfl) ?_
  refine lv_aload_n hx hb (dk hX5_adds_0 8 rfl) rfl (lv_at hl 0 rfl) ?_
  refine rg ui5 rfl C hs 0 rfl 9 (by decide) tw_699 rfl rfl (dk hX5_adds_0 9 rfl) ?_
  refine lv_iload_n hx hb (dk hX5_adds_0 10 rfl) rfl (lv_at hl 2 rfl) ?_
  obtain ⟨figure_3, e_4, hf⟩ := Option.bind_eq_some_iff.mp hf
  refine rist (w1 := (wM G ad refused there used hidden kind_1 figure_3 good load inn tape letter letterAt told kept row costs ships coughs day away taped reading statements hasImage isKeeping cursor backs free goodFor loadedWhen bareGood bareWhen rowMany lots)) C hs 6 rfl e_4 rfl (dk hX5_adds_0 11 rfl) (fun H locs hs => ?_)
  refine lv_aload_n hx hb (dk hX5_adds_0 12 rfl) rfl (lv_at hl 0 rfl) ?_
  refine rg ui5 rfl C hs 0 rfl 6 (by decide) tw_696 rfl rfl (dk hX5_adds_0 13 rfl) ?_
  refine lv_aload_n hx hb (dk hX5_adds_0 14 rfl) rfl (lv_at hl 0 rfl) ?_
  refine rg ui5 rfl C hs 0 rfl 9 (by decide) tw_699 rfl rfl (dk hX5_adds_0 15 rfl) ?_
  refine lv_iload_n hx hb (dk hX5_adds_0 16 rfl) rfl (lv_at hl 3 rfl) ?_
  obtain ⟨good_5, e_6, hf⟩ := Option.bind_eq_some_iff.mp hf
  refine rist (w1 := (wM G ad refused there used hidden kind_1 figure_3 good_5 load inn tape letter letterAt told kept row costs ships coughs day away taped reading statements hasImage isKeeping cursor backs free goodFor loadedWhen bareGood bareWhen rowMany lots)) C hs 7 rfl e_6 rfl (dk hX5_adds_0 17 rfl) (fun H locs hs => ?_)
  refine lv_aload_n hx hb (dk hX5_adds_0 18 rfl) rfl (lv_at hl 0 rfl) ?_
  refine rg ui5 rfl C hs 0 rfl 7 (by decide) tw_697 rfl rfl (dk hX5_adds_0 19 rfl) ?_
  refine lv_aload_n hx hb (dk hX5_adds_0 20 rfl) rfl (lv_at hl 0 rfl) ?_
  refine rg ui5 rfl C hs 0 rfl 9 (by decide) tw_699 rfl rfl (dk hX5_adds_0 21 rfl) ?_
  refine lv_iload hx hb (dk hX5_adds_0 22 rfl) (lv_at hl 4 rfl) ?_
  obtain ⟨load_7, e_8, hf⟩ := Option.bind_eq_some_iff.mp hf
  refine rist (w1 := (wM G ad refused there used hidden kind_1 figure_3 good_5 load_7 inn tape letter letterAt told kept row costs ships coughs day away taped reading statements hasImage isKeeping cursor backs free goodFor loadedWhen bareGood bareWhen rowMany lots)) C hs 8 rfl e_8 rfl (dk hX5_adds_0 23 rfl) (fun H locs hs => ?_)
  refine lv_aload_n hx hb (dk hX5_adds_0 24 rfl) rfl (lv_at hl 0 rfl) ?_
  refine rg ui5 rfl C hs 0 rfl 8 (by decide) tw_698 rfl rfl (dk hX5_adds_0 25 rfl) ?_
  refine lv_aload_n hx hb (dk hX5_adds_0 26 rfl) rfl (lv_at hl 0 rfl) ?_
  refine rg ui5 rfl C hs 0 rfl 9 (by decide) tw_699 rfl rfl (dk hX5_adds_0 27 rfl) ?_
  refine lv_iconst (v := (0 : Int32)) hx hb (dk hX5_adds_0 28 rfl) (by decide) ?_
  obtain ⟨inn_9, e_10, hf⟩ := Option.bind_eq_some_iff.mp hf
  refine rist (w1 := (wM G ad refused there used hidden kind_1 figure_3 good_5 load_7 inn_9 tape letter letterAt told kept row costs ships coughs day away taped reading statements hasImage isKeeping cursor backs free goodFor loadedWhen bareGood bareWhen rowMany lots)) C hs 9 rfl e_10 rfl (dk hX5_adds_0 29 rfl) (fun H locs hs => ?_)
  refine lv_aload_n hx hb (dk hX5_adds_0 30 rfl) rfl (lv_at hl 0 rfl) ?_
  refine lv_dup hx hb (dk hX5_adds_0 31 rfl) rfl ?_
  refine rg ui5 rfl C hs 0 rfl 9 (by decide) tw_699 rfl rfl (dk hX5_adds_0 32 rfl) ?_
  refine lv_iconst (v := (1 : Int32)) hx hb (dk hX5_adds_0 33 rfl) (by decide) ?_
  refine lv_iadd hx hb (dk hX5_adds_0 34 rfl) ?_
  refine rp (w1 := (wM G ad refused there used hidden kind_1 figure_3 good_5 load_7 inn_9 tape letter letterAt told kept row costs (ships + (1 : Int32)) coughs day away taped reading statements hasImage isKeeping cursor backs free goodFor loadedWhen bareGood bareWhen rowMany lots)) tyX5 tyX5_ok nmX5 ui5 rfl C hs 0 rfl 9 (by decide) tw_699 rfl rfl rfl rfl (Nat.le_of_ble_eq_true rfl) rfl (dk hX5_adds_0 35 rfl) (fun H locs hs => ?_)
  cases hf
  exact rv C hs (dk hX5_adds_0 36 rfl)

def X5_comesShip (kind : List Int32) (figure : List Int32) (good : List Int32) (load : List Int32) (inn : List Int32) (told : List Int32) (ships : Int32) (p0 : Int32) : Option (List Int32 × List Int32 × List Int32 × List Int32 × List Int32 × Int32 × Int32) :=
  (rd told p0).bind fun v_1 =>
  if (5 : Int32) < v_1 then
  some (kind, figure, good, load, inn, ships, (0 : Int32))
  else
  (rd told (p0 + (2 : Int32))).bind fun v_3 =>
  (X5_isGood v_3).bind fun u_5 =>
  if u_5 = (0 : Int32) then
  some (kind, figure, good, load, inn, ships, (0 : Int32))
  else
  if ships = (7 : Int32) then
  some (kind, figure, good, load, inn, ships, (0 : Int32))
  else
  (rd told p0).bind fun v_7 =>
  (rd told (p0 + (1 : Int32))).bind fun v_9 =>
  (rd told (p0 + (2 : Int32))).bind fun v_11 =>
  (rd told (p0 + (3 : Int32))).bind fun v_13 =>
  (X5_adds kind figure good load inn ships v_7 v_9 v_11 v_13).bind fun u_15 =>
  some (u_15.1, u_15.2.1, u_15.2.2.1, u_15.2.2.2.1, u_15.2.2.2.2.1, u_15.2.2.2.2.2, (1 : Int32))
set_option maxRecDepth 100000 in
set_option maxHeartbeats 4000000 in
theorem c_X5_comesShip {l : Launch} {G : Gx} {ad : Nat → Nat} {refused there used hidden kind figure good load inn tape letter letterAt told kept row costs : List Int32} {ships coughs day away taped reading statements hasImage isKeeping cursor backs free goodFor loadedWhen bareGood bareWhen rowMany lots : Int32} {p0 : Int32} {out : List Int32 × List Int32 × List Int32 × List Int32 × List Int32 × Int32 × Int32} (hf : X5_comesShip kind figure good load inn told ships p0 = some out) : Ct l G yX5_comesShip cX5_comesShip 2 (some .boolean) 1 24 [.ref (ad 0), .int p0] (wM G ad refused there used hidden kind figure good load inn tape letter letterAt told kept row costs ships coughs day away taped reading statements hasImage isKeeping cursor backs free goodFor loadedWhen bareGood bareWhen rowMany lots) (some (.int out.2.2.2.2.2.2)) (wM G ad refused there used hidden out.1 out.2.1 out.2.2.1 out.2.2.2.1 out.2.2.2.2.1 tape letter letterAt told kept row costs out.2.2.2.2.2.1 coughs day away taped reading statements hasImage isKeeping cursor backs free goodFor loadedWhen bareGood bareWhen rowMany lots) := by
  refine Ct.intro RX5 rfl (plainFor_of_name (by decide)) (Nat.le_of_ble_eq_true rfl) rfl ?_
  intro p e s m args below meth c A C H locs hs ls hl
  obtain ⟨hx, hb, hml, hown, hts, hK, hret, hlk⟩ := id C
  have hl : lv_has ls 2 [(0, .ref (ad 0)), (1, .int p0)] := hl
  unfold X5_comesShip at hf
  refine lv_aload_n hx hb (dk hX5_comesShip_0 0 rfl) rfl (lv_at hl 0 rfl) ?_
  refine rg ui5 rfl C hs 0 rfl 16 (by decide) tw_706 rfl rfl (dk hX5_comesShip_0 1 rfl) ?_
  refine lv_iload_n hx hb (dk hX5_comesShip_0 2 rfl) rfl (lv_at hl 1 rfl) ?_
  obtain ⟨v_1, e_2, hf⟩ := Option.bind_eq_some_iff.mp hf
  refine rild C hs 13 rfl e_2 (dk hX5_comesShip_0 3 rfl) ?_
  refine lv_iconst (v := (5 : Int32)) hx hb (dk hX5_comesShip_0 4 rfl) (by decide) ?_
  refine lv_icmp_gt (tgt := 33) hx hb (dk hX5_comesShip_0 5 rfl) (by decide) (fun hc => ?_) (fun hc => ?_)
  · replace hf := ip hf hc
    refine lv_iconst (v := (0 : Int32)) hx hb (dk hX5_comesShip_0 18 rfl) (by decide) ?_
    cases hf
    exact rz (x := (0 : Int32)) rfl C hs (dk hX5_comesShip_0 19 rfl)
  · replace hf := in_ hf hc
    refine lv_aload_n hx hb (dk hX5_comesShip_0 6 rfl) rfl (lv_at hl 0 rfl) ?_
    refine rg ui5 rfl C hs 0 rfl 16 (by decide) tw_706 rfl rfl (dk hX5_comesShip_0 7 rfl) ?_
    refine lv_iload_n hx hb (dk hX5_comesShip_0 8 rfl) rfl (lv_at hl 1 rfl) ?_
    refine lv_iconst (v := (2 : Int32)) hx hb (dk hX5_comesShip_0 9 rfl) (by decide) ?_
    refine lv_iadd hx hb (dk hX5_comesShip_0 10 rfl) ?_
    obtain ⟨v_3, e_4, hf⟩ := Option.bind_eq_some_iff.mp hf
    refine rild C hs 13 rfl e_4 (dk hX5_comesShip_0 11 rfl) ?_
    obtain ⟨u_5, e_6, hf⟩ := Option.bind_eq_some_iff.mp hf
    refine Ct.S (As := [.int v_3]) (rest := []) (st1 := [.int u_5]) (w1 := (wM G ad refused there used hidden kind figure good load inn tape letter letterAt told kept row costs ships coughs day away taped reading statements hasImage isKeeping cursor backs free goodFor loadedWhen bareGood bareWhen rowMany lots)) C hs (c_X5_isGood e_6) tw_847 tw_848 tw_85 tw_849 nq_X5_isGood (by decide) rfl hl.1 rfl (Nat.le_of_ble_eq_true rfl) (dk hX5_comesShip_0 12 rfl) ⟨Nat.zero_le _, Nat.zero_le _⟩ rfl (fun H locs hs => ?_)
    refine lv_if_eq (tgt := 33) hx hb (dk hX5_comesShip_0 13 rfl) (by decide) (fun hc => ?_) (fun hc => ?_)
    · replace hf := ip hf hc
      refine lv_iconst (v := (0 : Int32)) hx hb (dk hX5_comesShip_0 18 rfl) (by decide) ?_
      cases hf
      exact rz (x := (0 : Int32)) rfl C hs (dk hX5_comesShip_0 19 rfl)
    · replace hf := in_ hf hc
      refine lv_aload_n hx hb (dk hX5_comesShip_0 14 rfl) rfl (lv_at hl 0 rfl) ?_
      refine rg ui5 rfl C hs 0 rfl 9 (by decide) tw_699 rfl rfl (dk hX5_comesShip_0 15 rfl) ?_
      refine lv_bipush (v := (7 : Int32)) hx hb (dk hX5_comesShip_0 16 rfl) (by decide) ?_
      refine lv_icmp_ne (tgt := 35) hx hb (dk hX5_comesShip_0 17 rfl) (by decide) (fun hc => ?_) (fun hc => ?_)
      · replace hf := in_ hf hc
        refine lv_aload_n hx hb (dk hX5_comesShip_0 20 rfl) rfl (lv_at hl 0 rfl) ?_
        refine lv_aload_n hx hb (dk hX5_comesShip_0 21 rfl) rfl (lv_at hl 0 rfl) ?_
        refine rg ui5 rfl C hs 0 rfl 16 (by decide) tw_706 rfl rfl (dk hX5_comesShip_0 22 rfl) ?_
        refine lv_iload_n hx hb (dk hX5_comesShip_0 23 rfl) rfl (lv_at hl 1 rfl) ?_
        obtain ⟨v_7, e_8, hf⟩ := Option.bind_eq_some_iff.mp hf
        refine rild C hs 13 rfl e_8 (dk hX5_comesShip_0 24 rfl) ?_
        refine lv_aload_n hx hb (dk hX5_comesShip_0 25 rfl) rfl (lv_at hl 0 rfl) ?_
        refine rg ui5 rfl C hs 0 rfl 16 (by decide) tw_706 rfl rfl (dk hX5_comesShip_0 26 rfl) ?_
        refine lv_iload_n hx hb (dk hX5_comesShip_0 27 rfl) rfl (lv_at hl 1 rfl) ?_
        refine lv_iconst (v := (1 : Int32)) hx hb (dk hX5_comesShip_0 28 rfl) (by decide) ?_
        refine lv_iadd hx hb (dk hX5_comesShip_0 29 rfl) ?_
        obtain ⟨v_9, e_10, hf⟩ := Option.bind_eq_some_iff.mp hf
        refine rild C hs 13 rfl e_10 (dk hX5_comesShip_0 30 rfl) ?_
        refine lv_aload_n hx hb (dk hX5_comesShip_0 31 rfl) rfl (lv_at hl 0 rfl) ?_
        refine rg ui5 rfl C hs 0 rfl 16 (by decide) tw_706 rfl rfl (dk hX5_comesShip_0 32 rfl) ?_
        refine lv_iload_n hx hb (dk hX5_comesShip_0 33 rfl) rfl (lv_at hl 1 rfl) ?_
        refine lv_iconst (v := (2 : Int32)) hx hb (dk hX5_comesShip_0 34 rfl) (by decide) ?_
        refine lv_iadd hx hb (dk hX5_comesShip_0 35 rfl) ?_
        obtain ⟨v_11, e_12, hf⟩ := Option.bind_eq_some_iff.mp hf
        refine rild C hs 13 rfl e_12 (dk hX5_comesShip_0 36 rfl) ?_
        refine lv_aload_n hx hb (dk hX5_comesShip_0 37 rfl) rfl (lv_at hl 0 rfl) ?_
        refine rg ui5 rfl C hs 0 rfl 16 (by decide) tw_706 rfl rfl (dk hX5_comesShip_0 38 rfl) ?_
        refine lv_iload_n hx hb (dk hX5_comesShip_0 39 rfl) rfl (lv_at hl 1 rfl) ?_
        refine lv_iconst (v := (3 : Int32)) hx hb (dk hX5_comesShip_1 0 rfl) (by decide) ?_
        refine lv_iadd hx hb (dk hX5_comesShip_1 1 rfl) ?_
        obtain ⟨v_13, e_14, hf⟩ := Option.bind_eq_some_iff.mp hf
        refine rild C hs 13 rfl e_14 (dk hX5_comesShip_1 2 rfl) ?_
        obtain ⟨u_15, e_16, hf⟩ := Option.bind_eq_some_iff.mp hf
        refine Ct.V (As := [.int v_7, .int v_9, .int v_11, .int v_13]) (rest := []) (st1 := []) (w1 := (wM G ad refused there used hidden u_15.1 u_15.2.1 u_15.2.2.1 u_15.2.2.2.1 u_15.2.2.2.2.1 tape letter letterAt told kept row costs u_15.2.2.2.2.2 coughs day away taped reading statements hasImage isKeeping cursor backs free goodFor loadedWhen bareGood bareWhen rowMany lots)) C hs (c_X5_adds e_16) tw_850 tw_852 tw_31 tw_85 tw_853 nq_X5_adds (by decide) 0 5 rfl rfl rfl rfl hl.1 rfl (Nat.le_of_ble_eq_true rfl) (dk hX5_comesShip_1 3 rfl) ⟨Nat.zero_le _, Nat.zero_le _⟩ rfl (fun H locs hs => ?_)
        refine lv_iconst (v := (1 : Int32)) hx hb (dk hX5_comesShip_1 4 rfl) (by decide) ?_
        cases hf
        exact rz (x := (1 : Int32)) rfl C hs (dk hX5_comesShip_1 5 rfl)
      · replace hf := ip hf hc
        refine lv_iconst (v := (0 : Int32)) hx hb (dk hX5_comesShip_0 18 rfl) (by decide) ?_
        cases hf
        exact rz (x := (0 : Int32)) rfl C hs (dk hX5_comesShip_0 19 rfl)

def X5_canHide (there : List Int32) (hidden : List Int32) (p0 : Int32) (p1 : Int32) : Option (Int32) :=
  if p1 < (-99 : Int32) then
  some (0 : Int32)
  else
  if p1 ≤ (99 : Int32) then
  (rd there p0).bind fun v_1 =>
  if v_1 < p1 then
  some (0 : Int32)
  else
  (rd hidden p0).bind fun v_3 =>
  if v_3 < (-p1) then
  some (0 : Int32)
  else
  (rd hidden p0).bind fun v_5 =>
  if (99 : Int32) < (v_5 + p1) then
  some (0 : Int32)
  else
  (rd there p0).bind fun v_7 =>
  if (99 : Int32) < (v_7 - p1) then
  some (0 : Int32)
  else
  some (1 : Int32)
  else
  some (0 : Int32)
set_option maxRecDepth 100000 in
set_option maxHeartbeats 4000000 in
theorem c_X5_canHide {l : Launch} {G : Gx} {ad : Nat → Nat} {refused there used hidden kind figure good load inn tape letter letterAt told kept row costs : List Int32} {ships coughs day away taped reading statements hasImage isKeeping cursor backs free goodFor loadedWhen bareGood bareWhen rowMany lots : Int32} {p0 : Int32} {p1 : Int32} {out : Int32} (hf : X5_canHide there hidden p0 p1 = some out) : Ct l G yX5_canHide cX5_canHide 3 (some .boolean) 0 0 [.ref (ad 0), .int p0, .int p1] (wM G ad refused there used hidden kind figure good load inn tape letter letterAt told kept row costs ships coughs day away taped reading statements hasImage isKeeping cursor backs free goodFor loadedWhen bareGood bareWhen rowMany lots) (some (.int out)) (wM G ad refused there used hidden kind figure good load inn tape letter letterAt told kept row costs ships coughs day away taped reading statements hasImage isKeeping cursor backs free goodFor loadedWhen bareGood bareWhen rowMany lots) := by
  refine Ct.intro RX5 rfl (plainFor_of_name (by decide)) (Nat.le_of_ble_eq_true rfl) rfl ?_
  intro p e s m args below meth c A C H locs hs ls hl
  obtain ⟨hx, hb, hml, hown, hts, hK, hret, hlk⟩ := id C
  have hl : lv_has ls 3 [(0, .ref (ad 0)), (1, .int p0), (2, .int p1)] := hl
  unfold X5_canHide at hf
  refine lv_iload_n hx hb (dk hX5_canHide_0 0 rfl) rfl (lv_at hl 2 rfl) ?_
  refine lv_bipush (v := (-99 : Int32)) hx hb (dk hX5_canHide_0 1 rfl) (by decide) ?_
  refine lv_icmp_lt (tgt := 12) hx hb (dk hX5_canHide_0 2 rfl) (by decide) (fun hc => ?_) (fun hc => ?_)
  · replace hf := ip hf hc
    refine lv_iconst (v := (0 : Int32)) hx hb (dk hX5_canHide_0 6 rfl) (by decide) ?_
    cases hf
    exact rz (x := (0 : Int32)) rfl C hs (dk hX5_canHide_0 7 rfl)
  · replace hf := in_ hf hc
    refine lv_iload_n hx hb (dk hX5_canHide_0 3 rfl) rfl (lv_at hl 2 rfl) ?_
    refine lv_bipush (v := (99 : Int32)) hx hb (dk hX5_canHide_0 4 rfl) (by decide) ?_
    refine lv_icmp_le (tgt := 14) hx hb (dk hX5_canHide_0 5 rfl) (by decide) (fun hc => ?_) (fun hc => ?_)
    · replace hf := ip hf hc
      refine lv_iload_n hx hb (dk hX5_canHide_0 8 rfl) rfl (lv_at hl 2 rfl) ?_
      refine lv_aload_n hx hb (dk hX5_canHide_0 9 rfl) rfl (lv_at hl 0 rfl) ?_
      refine rg ui5 rfl C hs 0 rfl 1 (by decide) tw_691 rfl rfl (dk hX5_canHide_0 10 rfl) ?_
      refine lv_iload_n hx hb (dk hX5_canHide_0 11 rfl) rfl (lv_at hl 1 rfl) ?_
      obtain ⟨v_1, e_2, hf⟩ := Option.bind_eq_some_iff.mp hf
      refine rild C hs 2 rfl e_2 (dk hX5_canHide_0 12 rfl) ?_
      refine lv_icmp_gt (tgt := 65) hx hb (dk hX5_canHide_0 13 rfl) (by decide) (fun hc => ?_) (fun hc => ?_)
      · replace hf := ip hf hc
        refine lv_iconst (v := (0 : Int32)) hx hb (dk hX5_canHide_0 39 rfl) (by decide) ?_
        cases hf
        exact rz (x := (0 : Int32)) rfl C hs (dk hX5_canHide_1 0 rfl)
      · replace hf := in_ hf hc
        refine lv_iload_n hx hb (dk hX5_canHide_0 14 rfl) rfl (lv_at hl 2 rfl) ?_
        refine lv_ineg hx hb (dk hX5_canHide_0 15 rfl) ?_
        refine lv_aload_n hx hb (dk hX5_canHide_0 16 rfl) rfl (lv_at hl 0 rfl) ?_
        refine rg ui5 rfl C hs 0 rfl 3 (by decide) tw_693 rfl rfl (dk hX5_canHide_0 17 rfl) ?_
        refine lv_iload_n hx hb (dk hX5_canHide_0 18 rfl) rfl (lv_at hl 1 rfl) ?_
        obtain ⟨v_3, e_4, hf⟩ := Option.bind_eq_some_iff.mp hf
        refine rild C hs 4 rfl e_4 (dk hX5_canHide_0 19 rfl) ?_
        refine lv_icmp_gt (tgt := 65) hx hb (dk hX5_canHide_0 20 rfl) (by decide) (fun hc => ?_) (fun hc => ?_)
        · replace hf := ip hf hc
          refine lv_iconst (v := (0 : Int32)) hx hb (dk hX5_canHide_0 39 rfl) (by decide) ?_
          cases hf
          exact rz (x := (0 : Int32)) rfl C hs (dk hX5_canHide_1 0 rfl)
        · replace hf := in_ hf hc
          refine lv_aload_n hx hb (dk hX5_canHide_0 21 rfl) rfl (lv_at hl 0 rfl) ?_
          refine rg ui5 rfl C hs 0 rfl 3 (by decide) tw_693 rfl rfl (dk hX5_canHide_0 22 rfl) ?_
          refine lv_iload_n hx hb (dk hX5_canHide_0 23 rfl) rfl (lv_at hl 1 rfl) ?_
          obtain ⟨v_5, e_6, hf⟩ := Option.bind_eq_some_iff.mp hf
          refine rild C hs 4 rfl e_6 (dk hX5_canHide_0 24 rfl) ?_
          refine lv_iload_n hx hb (dk hX5_canHide_0 25 rfl) rfl (lv_at hl 2 rfl) ?_
          refine lv_iadd hx hb (dk hX5_canHide_0 26 rfl) ?_
          refine lv_bipush (v := (99 : Int32)) hx hb (dk hX5_canHide_0 27 rfl) (by decide) ?_
          refine lv_icmp_gt (tgt := 65) hx hb (dk hX5_canHide_0 28 rfl) (by decide) (fun hc => ?_) (fun hc => ?_)
          · replace hf := ip hf hc
            refine lv_iconst (v := (0 : Int32)) hx hb (dk hX5_canHide_0 39 rfl) (by decide) ?_
            cases hf
            exact rz (x := (0 : Int32)) rfl C hs (dk hX5_canHide_1 0 rfl)
          · replace hf := in_ hf hc
            refine lv_aload_n hx hb (dk hX5_canHide_0 29 rfl) rfl (lv_at hl 0 rfl) ?_
            refine rg ui5 rfl C hs 0 rfl 1 (by decide) tw_691 rfl rfl (dk hX5_canHide_0 30 rfl) ?_
            refine lv_iload_n hx hb (dk hX5_canHide_0 31 rfl) rfl (lv_at hl 1 rfl) ?_
            obtain ⟨v_7, e_8, hf⟩ := Option.bind_eq_some_iff.mp hf
            refine rild C hs 2 rfl e_8 (dk hX5_canHide_0 32 rfl) ?_
            refine lv_iload_n hx hb (dk hX5_canHide_0 33 rfl) rfl (lv_at hl 2 rfl) ?_
            refine lv_isub hx hb (dk hX5_canHide_0 34 rfl) ?_
            refine lv_bipush (v := (99 : Int32)) hx hb (dk hX5_canHide_0 35 rfl) (by decide) ?_
            refine lv_icmp_gt (tgt := 65) hx hb (dk hX5_canHide_0 36 rfl) (by decide) (fun hc => ?_) (fun hc => ?_)
            · replace hf := ip hf hc
              refine lv_iconst (v := (0 : Int32)) hx hb (dk hX5_canHide_0 39 rfl) (by decide) ?_
              cases hf
              exact rz (x := (0 : Int32)) rfl C hs (dk hX5_canHide_1 0 rfl)
            · replace hf := in_ hf hc
              refine lv_iconst (v := (1 : Int32)) hx hb (dk hX5_canHide_0 37 rfl) (by decide) ?_
              refine lv_goto (tgt := 66) hx hb (dk hX5_canHide_0 38 rfl) (by decide) ?_
              cases hf
              exact rz (x := (1 : Int32)) rfl C hs (dk hX5_canHide_1 0 rfl)
    · replace hf := in_ hf hc
      refine lv_iconst (v := (0 : Int32)) hx hb (dk hX5_canHide_0 6 rfl) (by decide) ?_
      cases hf
      exact rz (x := (0 : Int32)) rfl C hs (dk hX5_canHide_0 7 rfl)

def X5_hidesOf (there : List Int32) (hidden : List Int32) (p0 : Int32) (p1 : Int32) : Option (List Int32 × List Int32) :=
  (rd there p0).bind fun v_1 =>
  (wr there p0 (v_1 - p1)).bind fun there_3 =>
  (rd hidden p0).bind fun v_5 =>
  (wr hidden p0 (v_5 + p1)).bind fun hidden_7 =>
  some (there_3, hidden_7)
set_option maxRecDepth 100000 in
set_option maxHeartbeats 4000000 in
theorem c_X5_hidesOf {l : Launch} {G : Gx} {ad : Nat → Nat} {refused there used hidden kind figure good load inn tape letter letterAt told kept row costs : List Int32} {ships coughs day away taped reading statements hasImage isKeeping cursor backs free goodFor loadedWhen bareGood bareWhen rowMany lots : Int32} {p0 : Int32} {p1 : Int32} {out : List Int32 × List Int32} (hf : X5_hidesOf there hidden p0 p1 = some out) : Ct l G yX5_hidesOf cX5_hidesOf 3 (none) 0 0 [.ref (ad 0), .int p0, .int p1] (wM G ad refused there used hidden kind figure good load inn tape letter letterAt told kept row costs ships coughs day away taped reading statements hasImage isKeeping cursor backs free goodFor loadedWhen bareGood bareWhen rowMany lots) (none) (wM G ad refused out.1 used out.2 kind figure good load inn tape letter letterAt told kept row costs ships coughs day away taped reading statements hasImage isKeeping cursor backs free goodFor loadedWhen bareGood bareWhen rowMany lots) := by
  refine Ct.intro RX5 rfl (plainFor_of_name (by decide)) (Nat.le_of_ble_eq_true rfl) rfl ?_
  intro p e s m args below meth c A C H locs hs ls hl
  obtain ⟨hx, hb, hml, hown, hts, hK, hret, hlk⟩ := id C
  have hl : lv_has ls 3 [(0, .ref (ad 0)), (1, .int p0), (2, .int p1)] := hl
  unfold X5_hidesOf at hf
  refine lv_aload_n hx hb (dk hX5_hidesOf_0 0 rfl) rfl (lv_at hl 0 rfl) ?_
  refine rg ui5 rfl C hs 0 rfl 1 (by decide) tw_691 rfl rfl (dk hX5_hidesOf_0 1 rfl) ?_
  refine lv_iload_n hx hb (dk hX5_hidesOf_0 2 rfl) rfl (lv_at hl 1 rfl) ?_
  refine lv_dup2_11 hx hb (dk hX5_hidesOf_0 3 rfl) rfl rfl ?_
  obtain ⟨v_1, e_2, hf⟩ := Option.bind_eq_some_iff.mp hf
  refine rild C hs 2 rfl e_2 (dk hX5_hidesOf_0 4 rfl) ?_
  refine lv_iload_n hx hb (dk hX5_hidesOf_0 5 rfl) rfl (lv_at hl 2 rfl) ?_
  refine lv_isub hx hb (dk hX5_hidesOf_0 6 rfl) ?_
  obtain ⟨there_3, e_4, hf⟩ := Option.bind_eq_some_iff.mp hf
  refine rist (w1 := (wM G ad refused there_3 used hidden kind figure good load inn tape letter letterAt told kept row costs ships coughs day away taped reading statements hasImage isKeeping cursor backs free goodFor loadedWhen bareGood bareWhen rowMany lots)) C hs 2 rfl e_4 rfl (dk hX5_hidesOf_0 7 rfl) (fun H locs hs => ?_)
  refine lv_aload_n hx hb (dk hX5_hidesOf_0 8 rfl) rfl (lv_at hl 0 rfl) ?_
  refine rg ui5 rfl C hs 0 rfl 3 (by decide) tw_693 rfl rfl (dk hX5_hidesOf_0 9 rfl) ?_
  refine lv_iload_n hx hb (dk hX5_hidesOf_0 10 rfl) rfl (lv_at hl 1 rfl) ?_
  refine lv_dup2_11 hx hb (dk hX5_hidesOf_0 11 rfl) rfl rfl ?_
  obtain ⟨v_5, e_6, hf⟩ := Option.bind_eq_some_iff.mp hf
  refine rild C hs 4 rfl e_6 (dk hX5_hidesOf_0 12 rfl) ?_
  refine lv_iload_n hx hb (dk hX5_hidesOf_0 13 rfl) rfl (lv_at hl 2 rfl) ?_
  refine lv_iadd hx hb (dk hX5_hidesOf_0 14 rfl) ?_
  obtain ⟨hidden_7, e_8, hf⟩ := Option.bind_eq_some_iff.mp hf
  refine rist (w1 := (wM G ad refused there_3 used hidden_7 kind figure good load inn tape letter letterAt told kept row costs ships coughs day away taped reading statements hasImage isKeeping cursor backs free goodFor loadedWhen bareGood bareWhen rowMany lots)) C hs 4 rfl e_8 rfl (dk hX5_hidesOf_0 15 rfl) (fun H locs hs => ?_)
  cases hf
  exact rv C hs (dk hX5_hidesOf_0 16 rfl)

def X5_isHiding (there : List Int32) (hidden : List Int32) (p0 : Int32) (p1 : Int32) : Option (List Int32 × List Int32 × Int32) :=
  (X5_canHide there hidden p0 p1).bind fun u_1 =>
  if u_1 = (0 : Int32) then
  some (there, hidden, (0 : Int32))
  else
  (X5_hidesOf there hidden p0 p1).bind fun u_3 =>
  some (u_3.1, u_3.2, (1 : Int32))
set_option maxRecDepth 100000 in
set_option maxHeartbeats 4000000 in
theorem c_X5_isHiding {l : Launch} {G : Gx} {ad : Nat → Nat} {refused there used hidden kind figure good load inn tape letter letterAt told kept row costs : List Int32} {ships coughs day away taped reading statements hasImage isKeeping cursor backs free goodFor loadedWhen bareGood bareWhen rowMany lots : Int32} {p0 : Int32} {p1 : Int32} {out : List Int32 × List Int32 × Int32} (hf : X5_isHiding there hidden p0 p1 = some out) : Ct l G yX5_isHiding cX5_isHiding 3 (some .boolean) 1 22 [.ref (ad 0), .int p0, .int p1] (wM G ad refused there used hidden kind figure good load inn tape letter letterAt told kept row costs ships coughs day away taped reading statements hasImage isKeeping cursor backs free goodFor loadedWhen bareGood bareWhen rowMany lots) (some (.int out.2.2)) (wM G ad refused out.1 used out.2.1 kind figure good load inn tape letter letterAt told kept row costs ships coughs day away taped reading statements hasImage isKeeping cursor backs free goodFor loadedWhen bareGood bareWhen rowMany lots) := by
  refine Ct.intro RX5 rfl (plainFor_of_name (by decide)) (Nat.le_of_ble_eq_true rfl) rfl ?_
  intro p e s m args below meth c A C H locs hs ls hl
  obtain ⟨hx, hb, hml, hown, hts, hK, hret, hlk⟩ := id C
  have hl : lv_has ls 3 [(0, .ref (ad 0)), (1, .int p0), (2, .int p1)] := hl
  unfold X5_isHiding at hf
  refine lv_aload_n hx hb (dk hX5_isHiding_0 0 rfl) rfl (lv_at hl 0 rfl) ?_
  refine lv_iload_n hx hb (dk hX5_isHiding_0 1 rfl) rfl (lv_at hl 1 rfl) ?_
  refine lv_iload_n hx hb (dk hX5_isHiding_0 2 rfl) rfl (lv_at hl 2 rfl) ?_
  obtain ⟨u_1, e_2, hf⟩ := Option.bind_eq_some_iff.mp hf
  refine Ct.V (As := [.int p0, .int p1]) (rest := []) (st1 := [.int u_1]) (w1 := (wM G ad refused there used hidden kind figure good load inn tape letter letterAt told kept row costs ships coughs day away taped reading statements hasImage isKeeping cursor backs free goodFor loadedWhen bareGood bareWhen rowMany lots)) C hs (c_X5_canHide e_2) tw_923 tw_925 tw_47 tw_85 tw_926 nq_X5_canHide (by decide) 0 5 rfl rfl rfl rfl hl.1 rfl (Nat.le_of_ble_eq_true rfl) (dk hX5_isHiding_0 3 rfl) ⟨Nat.zero_le _, Nat.zero_le _⟩ rfl (fun H locs hs => ?_)
  refine lv_if_ne (tgt := 11) hx hb (dk hX5_isHiding_0 4 rfl) (by decide) (fun hc => ?_) (fun hc => ?_)
  · replace hf := in_ hf hc
    refine lv_aload_n hx hb (dk hX5_isHiding_0 7 rfl) rfl (lv_at hl 0 rfl) ?_
    refine lv_iload_n hx hb (dk hX5_isHiding_0 8 rfl) rfl (lv_at hl 1 rfl) ?_
    refine lv_iload_n hx hb (dk hX5_isHiding_0 9 rfl) rfl (lv_at hl 2 rfl) ?_
    obtain ⟨u_3, e_4, hf⟩ := Option.bind_eq_some_iff.mp hf
    refine Ct.V (As := [.int p0, .int p1]) (rest := []) (st1 := []) (w1 := (wM G ad refused u_3.1 used u_3.2 kind figure good load inn tape letter letterAt told kept row costs ships coughs day away taped reading statements hasImage isKeeping cursor backs free goodFor loadedWhen bareGood bareWhen rowMany lots)) C hs (c_X5_hidesOf e_4) tw_927 tw_929 tw_48 tw_85 tw_930 nq_X5_hidesOf (by decide) 0 5 rfl rfl rfl rfl hl.1 rfl (Nat.le_of_ble_eq_true rfl) (dk hX5_isHiding_0 10 rfl) ⟨Nat.zero_le _, Nat.zero_le _⟩ rfl (fun H locs hs => ?_)
    refine lv_iconst (v := (1 : Int32)) hx hb (dk hX5_isHiding_0 11 rfl) (by decide) ?_
    cases hf
    exact rz (x := (1 : Int32)) rfl C hs (dk hX5_isHiding_0 12 rfl)
  · replace hf := ip hf hc
    refine lv_iconst (v := (0 : Int32)) hx hb (dk hX5_isHiding_0 5 rfl) (by decide) ?_
    cases hf
    exact rz (x := (0 : Int32)) rfl C hs (dk hX5_isHiding_0 6 rfl)

def X5_comesGood (there : List Int32) (used : List Int32) (hidden : List Int32) (p0 : Int32) (p1 : Int32) (p2 : Int32) : Option (List Int32 × List Int32 × List Int32 × Int32) :=
  (X5_isGood p1).bind fun u_1 =>
  if u_1 = (0 : Int32) then
  some (there, used, hidden, (0 : Int32))
  else
  if p0 = (104 : Int32) then
  (X5_isHiding there hidden p1 p2).bind fun u_7 =>
  (c01 u_7.2.2).bind fun b_9 =>
  some (u_7.1, used, u_7.2.1, b_9)
  else
  if p0 = (116 : Int32) then
  (wr there p1 p2).bind fun there_5 =>
  some (there_5, used, hidden, (1 : Int32))
  else
  (wr used p1 p2).bind fun used_3 =>
  some (there, used_3, hidden, (1 : Int32))
set_option maxRecDepth 100000 in
set_option maxHeartbeats 4000000 in
theorem c_X5_comesGood {l : Launch} {G : Gx} {ad : Nat → Nat} {refused there used hidden kind figure good load inn tape letter letterAt told kept row costs : List Int32} {ships coughs day away taped reading statements hasImage isKeeping cursor backs free goodFor loadedWhen bareGood bareWhen rowMany lots : Int32} {p0 : Int32} {p1 : Int32} {p2 : Int32} {out : List Int32 × List Int32 × List Int32 × Int32} (hf : X5_comesGood there used hidden p0 p1 p2 = some out) : Ct l G yX5_comesGood cX5_comesGood 4 (some .boolean) 2 44 [.ref (ad 0), .int p0, .int p1, .int p2] (wM G ad refused there used hidden kind figure good load inn tape letter letterAt told kept row costs ships coughs day away taped reading statements hasImage isKeeping cursor backs free goodFor loadedWhen bareGood bareWhen rowMany lots) (some (.int out.2.2.2)) (wM G ad refused out.1 out.2.1 out.2.2.1 kind figure good load inn tape letter letterAt told kept row costs ships coughs day away taped reading statements hasImage isKeeping cursor backs free goodFor loadedWhen bareGood bareWhen rowMany lots) := by
  refine Ct.intro RX5 rfl (plainFor_of_name (by decide)) (Nat.le_of_ble_eq_true rfl) rfl ?_
  intro p e s m args below meth c A C H locs hs ls hl
  obtain ⟨hx, hb, hml, hown, hts, hK, hret, hlk⟩ := id C
  have hl : lv_has ls 4 [(0, .ref (ad 0)), (1, .int p0), (2, .int p1), (3, .int p2)] := hl
  unfold X5_comesGood at hf
  refine lv_iload_n hx hb (dk hX5_comesGood_0 0 rfl) rfl (lv_at hl 2 rfl) ?_
  obtain ⟨u_1, e_2, hf⟩ := Option.bind_eq_some_iff.mp hf
  refine Ct.S (As := [.int p1]) (rest := []) (st1 := [.int u_1]) (w1 := (wM G ad refused there used hidden kind figure good load inn tape letter letterAt told kept row costs ships coughs day away taped reading statements hasImage isKeeping cursor backs free goodFor loadedWhen bareGood bareWhen rowMany lots)) C hs (c_X5_isGood e_2) tw_847 tw_848 tw_85 tw_849 nq_X5_isGood (by decide) rfl hl.1 rfl (Nat.le_of_ble_eq_true rfl) (dk hX5_comesGood_0 1 rfl) ⟨Nat.zero_le _, Nat.zero_le _⟩ rfl (fun H locs hs => ?_)
  refine lv_if_ne (tgt := 9) hx hb (dk hX5_comesGood_0 2 rfl) (by decide) (fun hc => ?_) (fun hc => ?_)
  · replace hf := in_ hf hc
    refine lv_iload_n hx hb (dk hX5_comesGood_0 5 rfl) rfl (lv_at hl 1 rfl) ?_
    refine lv_bipush (v := (104 : Int32)) hx hb (dk hX5_comesGood_0 6 rfl) (by decide) ?_
    refine lv_icmp_ne (tgt := 22) hx hb (dk hX5_comesGood_0 7 rfl) (by decide) (fun hc => ?_) (fun hc => ?_)
    · replace hf := in_ hf hc
      refine lv_iload_n hx hb (dk hX5_comesGood_0 13 rfl) rfl (lv_at hl 1 rfl) ?_
      refine lv_bipush (v := (116 : Int32)) hx hb (dk hX5_comesGood_0 14 rfl) (by decide) ?_
      refine lv_icmp_ne (tgt := 38) hx hb (dk hX5_comesGood_0 15 rfl) (by decide) (fun hc => ?_) (fun hc => ?_)
      · replace hf := in_ hf hc
        refine lv_aload_n hx hb (dk hX5_comesGood_0 22 rfl) rfl (lv_at hl 0 rfl) ?_
        refine rg ui5 rfl C hs 0 rfl 2 (by decide) tw_692 rfl rfl (dk hX5_comesGood_0 23 rfl) ?_
        refine lv_iload_n hx hb (dk hX5_comesGood_0 24 rfl) rfl (lv_at hl 2 rfl) ?_
        refine lv_iload_n hx hb (dk hX5_comesGood_0 25 rfl) rfl (lv_at hl 3 rfl) ?_
        obtain ⟨used_3, e_4, hf⟩ := Option.bind_eq_some_iff.mp hf
        refine rist (w1 := (wM G ad refused there used_3 hidden kind figure good load inn tape letter letterAt told kept row costs ships coughs day away taped reading statements hasImage isKeeping cursor backs free goodFor loadedWhen bareGood bareWhen rowMany lots)) C hs 3 rfl e_4 rfl (dk hX5_comesGood_0 26 rfl) (fun H locs hs => ?_)
        refine lv_iconst (v := (1 : Int32)) hx hb (dk hX5_comesGood_0 27 rfl) (by decide) ?_
        cases hf
        exact rz (x := (1 : Int32)) rfl C hs (dk hX5_comesGood_0 28 rfl)
      · replace hf := ip hf hc
        refine lv_aload_n hx hb (dk hX5_comesGood_0 16 rfl) rfl (lv_at hl 0 rfl) ?_
        refine rg ui5 rfl C hs 0 rfl 1 (by decide) tw_691 rfl rfl (dk hX5_comesGood_0 17 rfl) ?_
        refine lv_iload_n hx hb (dk hX5_comesGood_0 18 rfl) rfl (lv_at hl 2 rfl) ?_
        refine lv_iload_n hx hb (dk hX5_comesGood_0 19 rfl) rfl (lv_at hl 3 rfl) ?_
        obtain ⟨there_5, e_6, hf⟩ := Option.bind_eq_some_iff.mp hf
        refine rist (w1 := (wM G ad refused there_5 used hidden kind figure good load inn tape letter letterAt told kept row costs ships coughs day away taped reading statements hasImage isKeeping cursor backs free goodFor loadedWhen bareGood bareWhen rowMany lots)) C hs 2 rfl e_6 rfl (dk hX5_comesGood_0 20 rfl) (fun H locs hs => ?_)
        refine lv_goto (tgt := 45) hx hb (dk hX5_comesGood_0 21 rfl) (by decide) ?_
        refine lv_iconst (v := (1 : Int32)) hx hb (dk hX5_comesGood_0 27 rfl) (by decide) ?_
        cases hf
        exact rz (x := (1 : Int32)) rfl C hs (dk hX5_comesGood_0 28 rfl)
    · replace hf := ip hf hc
      refine lv_aload_n hx hb (dk hX5_comesGood_0 8 rfl) rfl (lv_at hl 0 rfl) ?_
      refine lv_iload_n hx hb (dk hX5_comesGood_0 9 rfl) rfl (lv_at hl 2 rfl) ?_
      refine lv_iload_n hx hb (dk hX5_comesGood_0 10 rfl) rfl (lv_at hl 3 rfl) ?_
      obtain ⟨u_7, e_8, hf⟩ := Option.bind_eq_some_iff.mp hf
      refine Ct.V (As := [.int p1, .int p2]) (rest := []) (st1 := [.int u_7.2.2]) (w1 := (wM G ad refused u_7.1 used u_7.2.1 kind figure good load inn tape letter letterAt told kept row costs ships coughs day away taped reading statements hasImage isKeeping cursor backs free goodFor loadedWhen bareGood bareWhen rowMany lots)) C hs (c_X5_isHiding e_8) tw_919 tw_921 tw_46 tw_85 tw_922 nq_X5_isHiding (by decide) 0 5 rfl rfl rfl rfl hl.1 rfl (Nat.le_of_ble_eq_true rfl) (dk hX5_comesGood_0 11 rfl) ⟨Nat.zero_le _, Nat.zero_le _⟩ rfl (fun H locs hs => ?_)
      obtain ⟨b_9, hz_10, hf⟩ := Option.bind_eq_some_iff.mp hf
      obtain ⟨hxe, hz⟩ := c01_z hz_10
      replace hxe := hxe.symm
      subst hxe
      cases hf
      exact rz hz C hs (dk hX5_comesGood_0 12 rfl)
  · replace hf := ip hf hc
    refine lv_iconst (v := (0 : Int32)) hx hb (dk hX5_comesGood_0 3 rfl) (by decide) ?_
    cases hf
    exact rz (x := (0 : Int32)) rfl C hs (dk hX5_comesGood_0 4 rfl)

def X5_lack (there : List Int32) (used : List Int32) (free : Int32) (p0 : Int32) : Option (Int32) :=
  if p0 = free then
  some (0 : Int32)
  else
  (rd used p0).bind fun v_1 =>
  (rd there p0).bind fun v_3 =>
  if ((7 : Int32) * v_1) ≤ v_3 then
  some (0 : Int32)
  else
  (rd used p0).bind fun v_5 =>
  (rd there p0).bind fun v_7 =>
  some (((7 : Int32) * v_5) - v_7)
set_option maxRecDepth 100000 in
set_option maxHeartbeats 4000000 in
theorem c_X5_lack {l : Launch} {G : Gx} {ad : Nat → Nat} {refused there used hidden kind figure good load inn tape letter letterAt told kept row costs : List Int32} {ships coughs day away taped reading statements hasImage isKeeping cursor backs free goodFor loadedWhen bareGood bareWhen rowMany lots : Int32} {p0 : Int32} {out : Int32} (hf : X5_lack there used free p0 = some out) : Ct l G yX5_lack cX5_lack 2 (some .int) 0 0 [.ref (ad 0), .int p0] (wM G ad refused there used hidden kind figure good load inn tape letter letterAt told kept row costs ships coughs day away taped reading statements hasImage isKeeping cursor backs free goodFor loadedWhen bareGood bareWhen rowMany lots) (some (.int out)) (wM G ad refused there used hidden kind figure good load inn tape letter letterAt told kept row costs ships coughs day away taped reading statements hasImage isKeeping cursor backs free goodFor loadedWhen bareGood bareWhen rowMany lots) := by
  refine Ct.intro RX5 rfl (plainFor_of_name (by decide)) (Nat.le_of_ble_eq_true rfl) rfl ?_
  intro p e s m args below meth c A C H locs hs ls hl
  obtain ⟨hx, hb, hml, hown, hts, hK, hret, hlk⟩ := id C
  have hl : lv_has ls 2 [(0, .ref (ad 0)), (1, .int p0)] := hl
  unfold X5_lack at hf
  refine lv_iload_n hx hb (dk hX5_lack_0 0 rfl) rfl (lv_at hl 1 rfl) ?_
  refine lv_aload_n hx hb (dk hX5_lack_0 1 rfl) rfl (lv_at hl 0 rfl) ?_
  refine rg ui5 rfl C hs 0 rfl 25 (by decide) tw_715 rfl rfl (dk hX5_lack_0 2 rfl) ?_
  refine lv_icmp_eq (tgt := 45) hx hb (dk hX5_lack_0 3 rfl) (by decide) (fun hc => ?_) (fun hc => ?_)
  · replace hf := ip hf hc
    refine lv_iconst (v := (0 : Int32)) hx hb (dk hX5_lack_0 27 rfl) (by decide) ?_
    cases hf
    exact ri C hs (dk hX5_lack_0 28 rfl)
  · replace hf := in_ hf hc
    refine lv_bipush (v := (7 : Int32)) hx hb (dk hX5_lack_0 4 rfl) (by decide) ?_
    refine lv_aload_n hx hb (dk hX5_lack_0 5 rfl) rfl (lv_at hl 0 rfl) ?_
    refine rg ui5 rfl C hs 0 rfl 2 (by decide) tw_692 rfl rfl (dk hX5_lack_0 6 rfl) ?_
    refine lv_iload_n hx hb (dk hX5_lack_0 7 rfl) rfl (lv_at hl 1 rfl) ?_
    obtain ⟨v_1, e_2, hf⟩ := Option.bind_eq_some_iff.mp hf
    refine rild C hs 3 rfl e_2 (dk hX5_lack_0 8 rfl) ?_
    refine lv_imul hx hb (dk hX5_lack_0 9 rfl) ?_
    refine lv_aload_n hx hb (dk hX5_lack_0 10 rfl) rfl (lv_at hl 0 rfl) ?_
    refine rg ui5 rfl C hs 0 rfl 1 (by decide) tw_691 rfl rfl (dk hX5_lack_0 11 rfl) ?_
    refine lv_iload_n hx hb (dk hX5_lack_0 12 rfl) rfl (lv_at hl 1 rfl) ?_
    obtain ⟨v_3, e_4, hf⟩ := Option.bind_eq_some_iff.mp hf
    refine rild C hs 2 rfl e_4 (dk hX5_lack_0 13 rfl) ?_
    refine lv_icmp_le (tgt := 45) hx hb (dk hX5_lack_0 14 rfl) (by decide) (fun hc => ?_) (fun hc => ?_)
    · replace hf := ip hf hc
      refine lv_iconst (v := (0 : Int32)) hx hb (dk hX5_lack_0 27 rfl) (by decide) ?_
      cases hf
      exact ri C hs (dk hX5_lack_0 28 rfl)
    · replace hf := in_ hf hc
      refine lv_bipush (v := (7 : Int32)) hx hb (dk hX5_lack_0 15 rfl) (by decide) ?_
      refine lv_aload_n hx hb (dk hX5_lack_0 16 rfl) rfl (lv_at hl 0 rfl) ?_
      refine rg ui5 rfl C hs 0 rfl 2 (by decide) tw_692 rfl rfl (dk hX5_lack_0 17 rfl) ?_
      refine lv_iload_n hx hb (dk hX5_lack_0 18 rfl) rfl (lv_at hl 1 rfl) ?_
      obtain ⟨v_5, e_6, hf⟩ := Option.bind_eq_some_iff.mp hf
      refine rild C hs 3 rfl e_6 (dk hX5_lack_0 19 rfl) ?_
      refine lv_imul hx hb (dk hX5_lack_0 20 rfl) ?_
      refine lv_aload_n hx hb (dk hX5_lack_0 21 rfl) rfl (lv_at hl 0 rfl) ?_
      refine rg ui5 rfl C hs 0 rfl 1 (by decide) tw_691 rfl rfl (dk hX5_lack_0 22 rfl) ?_
      refine lv_iload_n hx hb (dk hX5_lack_0 23 rfl) rfl (lv_at hl 1 rfl) ?_
      obtain ⟨v_7, e_8, hf⟩ := Option.bind_eq_some_iff.mp hf
      refine rild C hs 2 rfl e_8 (dk hX5_lack_0 24 rfl) ?_
      refine lv_isub hx hb (dk hX5_lack_0 25 rfl) ?_
      refine lv_goto (tgt := 46) hx hb (dk hX5_lack_0 26 rfl) (by decide) ?_
      cases hf
      exact ri C hs (dk hX5_lack_0 28 rfl)

def X5_tideOf (p0 : Int32) : Option (Int32) :=
  if (4 : Int32) ≤ (p0 - p0 / (8 : Int32) * (8 : Int32)) then
  some ((8 : Int32) - (p0 - p0 / (8 : Int32) * (8 : Int32)))
  else
  some (p0 - p0 / (8 : Int32) * (8 : Int32))
set_option maxRecDepth 100000 in
set_option maxHeartbeats 4000000 in
theorem c_X5_tideOf {l : Launch} {G : Gx} {w : va_W} {p0 : Int32} {out : Int32} (hf : X5_tideOf p0 = some out) : Ct l G yX5_tideOf cX5_tideOf 1 (some .int) 0 0 [.int p0] w (some (.int out)) w := by
  refine Ct.intro RX5 rfl (plainFor_of_name (by decide)) (Nat.le_of_ble_eq_true rfl) rfl ?_
  intro p e s m args below meth c A C H locs hs ls hl
  obtain ⟨hx, hb, hml, hown, hts, hK, hret, hlk⟩ := id C
  have hl : lv_has ls 1 [(0, .int p0)] := hl
  unfold X5_tideOf at hf
  refine lv_iload_n hx hb (dk hX5_tideOf_0 0 rfl) rfl (lv_at hl 0 rfl) ?_
  refine lv_bipush (v := (8 : Int32)) hx hb (dk hX5_tideOf_0 1 rfl) (by decide) ?_
  refine lv_irem hx hb (dk hX5_tideOf_0 2 rfl) (by decide) ?_
  refine lv_iconst (v := (4 : Int32)) hx hb (dk hX5_tideOf_0 3 rfl) (by decide) ?_
  refine lv_icmp_ge (tgt := 15) hx hb (dk hX5_tideOf_0 4 rfl) (by decide) (fun hc => ?_) (fun hc => ?_)
  · replace hf := ip hf hc
    refine lv_bipush (v := (8 : Int32)) hx hb (dk hX5_tideOf_0 9 rfl) (by decide) ?_
    refine lv_iload_n hx hb (dk hX5_tideOf_0 10 rfl) rfl (lv_at hl 0 rfl) ?_
    refine lv_bipush (v := (8 : Int32)) hx hb (dk hX5_tideOf_0 11 rfl) (by decide) ?_
    refine lv_irem hx hb (dk hX5_tideOf_0 12 rfl) (by decide) ?_
    refine lv_isub hx hb (dk hX5_tideOf_0 13 rfl) ?_
    cases hf
    exact ri C hs (dk hX5_tideOf_0 14 rfl)
  · replace hf := in_ hf hc
    refine lv_iload_n hx hb (dk hX5_tideOf_0 5 rfl) rfl (lv_at hl 0 rfl) ?_
    refine lv_bipush (v := (8 : Int32)) hx hb (dk hX5_tideOf_0 6 rfl) (by decide) ?_
    refine lv_irem hx hb (dk hX5_tideOf_0 7 rfl) (by decide) ?_
    refine lv_goto (tgt := 22) hx hb (dk hX5_tideOf_0 8 rfl) (by decide) ?_
    cases hf
    exact ri C hs (dk hX5_tideOf_0 14 rfl)

def X5_following (good : List Int32) (p0 : Int32) : Option (Int32) :=
  (rd good p0).bind fun v_1 =>
  some ((v_1 + (1 : Int32)) - (v_1 + (1 : Int32)) / (6 : Int32) * (6 : Int32))
set_option maxRecDepth 100000 in
set_option maxHeartbeats 4000000 in
theorem c_X5_following {l : Launch} {G : Gx} {ad : Nat → Nat} {refused there used hidden kind figure good load inn tape letter letterAt told kept row costs : List Int32} {ships coughs day away taped reading statements hasImage isKeeping cursor backs free goodFor loadedWhen bareGood bareWhen rowMany lots : Int32} {p0 : Int32} {out : Int32} (hf : X5_following good p0 = some out) : Ct l G yX5_following cX5_following 2 (some .int) 0 0 [.ref (ad 0), .int p0] (wM G ad refused there used hidden kind figure good load inn tape letter letterAt told kept row costs ships coughs day away taped reading statements hasImage isKeeping cursor backs free goodFor loadedWhen bareGood bareWhen rowMany lots) (some (.int out)) (wM G ad refused there used hidden kind figure good load inn tape letter letterAt told kept row costs ships coughs day away taped reading statements hasImage isKeeping cursor backs free goodFor loadedWhen bareGood bareWhen rowMany lots) := by
  refine Ct.intro RX5 rfl (plainFor_of_name (by decide)) (Nat.le_of_ble_eq_true rfl) rfl ?_
  intro p e s m args below meth c A C H locs hs ls hl
  obtain ⟨hx, hb, hml, hown, hts, hK, hret, hlk⟩ := id C
  have hl : lv_has ls 2 [(0, .ref (ad 0)), (1, .int p0)] := hl
  unfold X5_following at hf
  refine lv_aload_n hx hb (dk hX5_following_0 0 rfl) rfl (lv_at hl 0 rfl) ?_
  refine rg ui5 rfl C hs 0 rfl 6 (by decide) tw_696 rfl rfl (dk hX5_following_0 1 rfl) ?_
  refine lv_iload_n hx hb (dk hX5_following_0 2 rfl) rfl (lv_at hl 1 rfl) ?_
  obtain ⟨v_1, e_2, hf⟩ := Option.bind_eq_some_iff.mp hf
  refine rild C hs 7 rfl e_2 (dk hX5_following_0 3 rfl) ?_
  refine lv_iconst (v := (1 : Int32)) hx hb (dk hX5_following_0 4 rfl) (by decide) ?_
  refine lv_iadd hx hb (dk hX5_following_0 5 rfl) ?_
  refine lv_bipush (v := (6 : Int32)) hx hb (dk hX5_following_0 6 rfl) (by decide) ?_
  refine lv_irem hx hb (dk hX5_following_0 7 rfl) (by decide) ?_
  cases hf
  exact ri C hs (dk hX5_following_0 8 rfl)

def X5_plenty_L4 (k : Int32 → Option (Int32)) (there : List Int32) (used : List Int32) (free : Int32) : Nat → Int32 → Int32 → Option (Int32)
  | 0, _, _ => none
  | n + 1, x1, x2 =>
  if (6 : Int32) ≤ x2 then
  k x1
  else
  (X5_lack there used free x2).bind fun u_1 =>
  if u_1 = (0 : Int32) then
  X5_plenty_L4 k there used free n (x1 + (1 : Int32)) (x2 + (1 : Int32))
  else
  X5_plenty_L4 k there used free n (x1 + (0 : Int32)) (x2 + (1 : Int32))
def X5_plenty (there : List Int32) (used : List Int32) (free : Int32) : Option (Int32) :=
  X5_plenty_L4 (fun y1_3 =>
  some y1_3) there used free 1000 (0 : Int32) (0 : Int32)
set_option maxRecDepth 100000 in
set_option maxHeartbeats 4000000 in
theorem l_X5_plenty_L4 {l : Launch} {p : Program} {e : Env} {s : State} {m : MethodId} {args : Array Value} {below : List Frame} {meth : Method} {c : Code} {A : Nat → Prop} {G : Gx} {ad : Nat → Nat} {refused there used hidden kind figure good load inn tape letter letterAt told kept row costs : List Int32} {ships coughs day away taped reading statements hasImage isKeeping cursor backs free goodFor loadedWhen bareGood bareWhen rowMany lots : Int32} {k : Int32 → Option (Int32)} {out : Int32} (C : Cx p s m args meth c cX5_plenty RX5 3 (some .int) G) : ∀ (n : Nat) (x1 : Int32) (x2 : Int32), X5_plenty_L4 k there used free n x1 x2 = some out → ∀ (H : Heap) (locs : List Loc), St G A s.heap H locs (wM G ad refused there used hidden kind figure good load inn tape letter letterAt told kept row costs ships coughs day away taped reading statements hasImage isKeeping cursor backs free goodFor loadedWhen bareGood bareWhen rowMany lots) → ∀ ls : Array Slot, lv_has ls 3 [(0, .ref (ad 0)), (1, .int x1), (2, .int x2)] → (∀ (y1 : Int32), k y1 = some out → ∀ (H : Heap) (locs : List Loc), St G A s.heap H locs (wM G ad refused there used hidden kind figure good load inn tape letter letterAt told kept row costs ships coughs day away taped reading statements hasImage isKeeping cursor backs free goodFor loadedWhen bareGood bareWhen rowMany lots) → ∀ ls : Array Slot, lv_has ls 3 [(1, .int y1)] → W p l e (rmOf 1 21) s m args below meth c H locs 0 0 (MQ below (Qof G A (some (.int out)) (wM G ad refused there used hidden kind figure good load inn tape letter letterAt told kept row costs ships coughs day away taped reading statements hasImage isKeeping cursor backs free goodFor loadedWhen bareGood bareWhen rowMany lots)) args s 0 0 A) (F0 m 32 ls [])) → W p l e (rmOf 1 21) s m args below meth c H locs 0 0 (MQ below (Qof G A (some (.int out)) (wM G ad refused there used hidden kind figure good load inn tape letter letterAt told kept row costs ships coughs day away taped reading statements hasImage isKeeping cursor backs free goodFor loadedWhen bareGood bareWhen rowMany lots)) args s 0 0 A) (F0 m 4 ls []) := by
  obtain ⟨hx, hb, hml, hown, hts, hK, hret, hlk⟩ := id C
  intro n
  induction n with
  | zero => intro x1 x2 hf; cases hf
  | succ n ih =>
    intro x1 x2 hf H locs hs ls hl hk
    rw [X5_plenty_L4] at hf
    refine lv_iload_n hx hb (dk hX5_plenty_0 4 rfl) rfl (lv_at hl 2 rfl) ?_
    refine lv_bipush (v := (6 : Int32)) hx hb (dk hX5_plenty_0 5 rfl) (by decide) ?_
    refine lv_icmp_ge (tgt := 32) hx hb (dk hX5_plenty_0 6 rfl) (by decide) (fun hc => ?_) (fun hc => ?_)
    · replace hf := ip hf hc
      exact hk _ hf _ _ hs _ (lv_sub hl [1] rfl)
    · replace hf := in_ hf hc
      refine lv_iload_n hx hb (dk hX5_plenty_0 7 rfl) rfl (lv_at hl 1 rfl) ?_
      refine lv_aload_n hx hb (dk hX5_plenty_0 8 rfl) rfl (lv_at hl 0 rfl) ?_
      refine lv_iload_n hx hb (dk hX5_plenty_0 9 rfl) rfl (lv_at hl 2 rfl) ?_
      obtain ⟨u_1, e_2, hf⟩ := Option.bind_eq_some_iff.mp hf
      refine Ct.V (As := [.int x2]) (rest := [.int x1]) (st1 := [.int u_1, .int x1]) (w1 := (wM G ad refused there used hidden kind figure good load inn tape letter letterAt told kept row costs ships coughs day away taped reading statements hasImage isKeeping cursor backs free goodFor loadedWhen bareGood bareWhen rowMany lots)) C hs (c_X5_lack e_2) tw_888 tw_890 tw_39 tw_85 tw_891 nq_X5_lack (by decide) 0 5 rfl rfl rfl rfl hl.1 rfl (Nat.le_of_ble_eq_true rfl) (dk hX5_plenty_0 10 rfl) ⟨Nat.zero_le _, Nat.zero_le _⟩ rfl (fun H locs hs => ?_)
      refine lv_if_ne (tgt := 23) hx hb (dk hX5_plenty_0 11 rfl) (by decide) (fun hc => ?_) (fun hc => ?_)
      · replace hf := in_ hf hc
        refine lv_iconst (v := (0 : Int32)) hx hb (dk hX5_plenty_0 14 rfl) (by decide) ?_
        refine lv_iadd hx hb (dk hX5_plenty_0 15 rfl) ?_
        refine lv_istore_n (lv' := [(1, .int (x1 + (0 : Int32))), (0, .ref (ad 0)), (2, .int x2)]) hx hb (dk hX5_plenty_0 16 rfl) rfl hl (by decide) rfl (fun ls hl => ?_)
        refine lv_iinc (v := (x2 + (1 : Int32))) (lv' := [(2, .int (x2 + (1 : Int32))), (1, .int (x1 + (0 : Int32))), (0, .ref (ad 0))]) hx hb (dk hX5_plenty_0 17 rfl) hl (k := 2) rfl (by first | rfl | decide) (by decide) rfl (fun ls hl => ?_)
        refine lv_goto (tgt := 4) hx hb (dk hX5_plenty_0 18 rfl) (by decide) ?_
        exact ih _ _ hf _ _ hs _ (lv_sub hl [2, 1, 0] rfl) hk
      · replace hf := ip hf hc
        refine lv_iconst (v := (1 : Int32)) hx hb (dk hX5_plenty_0 12 rfl) (by decide) ?_
        refine lv_goto (tgt := 24) hx hb (dk hX5_plenty_0 13 rfl) (by decide) ?_
        refine lv_iadd hx hb (dk hX5_plenty_0 15 rfl) ?_
        refine lv_istore_n (lv' := [(1, .int (x1 + (1 : Int32))), (0, .ref (ad 0)), (2, .int x2)]) hx hb (dk hX5_plenty_0 16 rfl) rfl hl (by decide) rfl (fun ls hl => ?_)
        refine lv_iinc (v := (x2 + (1 : Int32))) (lv' := [(2, .int (x2 + (1 : Int32))), (1, .int (x1 + (1 : Int32))), (0, .ref (ad 0))]) hx hb (dk hX5_plenty_0 17 rfl) hl (k := 2) rfl (by first | rfl | decide) (by decide) rfl (fun ls hl => ?_)
        refine lv_goto (tgt := 4) hx hb (dk hX5_plenty_0 18 rfl) (by decide) ?_
        exact ih _ _ hf _ _ hs _ (lv_sub hl [2, 1, 0] rfl) hk
set_option maxRecDepth 100000 in
set_option maxHeartbeats 4000000 in
theorem c_X5_plenty {l : Launch} {G : Gx} {ad : Nat → Nat} {refused there used hidden kind figure good load inn tape letter letterAt told kept row costs : List Int32} {ships coughs day away taped reading statements hasImage isKeeping cursor backs free goodFor loadedWhen bareGood bareWhen rowMany lots : Int32}  {out : Int32} (hf : X5_plenty there used free = some out) : Ct l G yX5_plenty cX5_plenty 3 (some .int) 1 21 [.ref (ad 0)] (wM G ad refused there used hidden kind figure good load inn tape letter letterAt told kept row costs ships coughs day away taped reading statements hasImage isKeeping cursor backs free goodFor loadedWhen bareGood bareWhen rowMany lots) (some (.int out)) (wM G ad refused there used hidden kind figure good load inn tape letter letterAt told kept row costs ships coughs day away taped reading statements hasImage isKeeping cursor backs free goodFor loadedWhen bareGood bareWhen rowMany lots) := by
  refine Ct.intro RX5 rfl (plainFor_of_name (by decide)) (Nat.le_of_ble_eq_true rfl) rfl ?_
  intro p e s m args below meth c A C H locs hs ls hl
  obtain ⟨hx, hb, hml, hown, hts, hK, hret, hlk⟩ := id C
  have hl : lv_has ls 3 [(0, .ref (ad 0))] := hl
  unfold X5_plenty at hf
  refine lv_iconst (v := (0 : Int32)) hx hb (dk hX5_plenty_0 0 rfl) (by decide) ?_
  refine lv_istore_n (lv' := [(1, .int (0 : Int32)), (0, .ref (ad 0))]) hx hb (dk hX5_plenty_0 1 rfl) rfl hl (by decide) rfl (fun ls hl => ?_)
  refine lv_iconst (v := (0 : Int32)) hx hb (dk hX5_plenty_0 2 rfl) (by decide) ?_
  refine lv_istore_n (lv' := [(2, .int (0 : Int32)), (1, .int (0 : Int32)), (0, .ref (ad 0))]) hx hb (dk hX5_plenty_0 3 rfl) rfl hl (by decide) rfl (fun ls hl => ?_)
  refine l_X5_plenty_L4 C 1000 _ _ hf _ _ hs _ (lv_sub hl [2, 1, 0] rfl) (fun y1_3 hf H locs hs ls hl => ?_)
  refine lv_iload_n hx hb (dk hX5_plenty_0 19 rfl) rfl (lv_at hl 0 rfl) ?_
  cases hf
  exact ri C hs (dk hX5_plenty_0 20 rfl)

def X5_sinks (there : List Int32) (used : List Int32) (hidden : List Int32) (kind : List Int32) (good : List Int32) (coughs : Int32) (free : Int32) (p0 : Int32) : Option (Int32) :=
  (rd good p0).bind fun v_1 =>
  (X5_lack there used free v_1).bind fun u_3 =>
  (X5_following good p0).bind fun u_5 =>
  (X5_lack there used free u_5).bind fun u_7 =>
  (rd kind p0).bind fun v_9 =>
  if v_9 = (1 : Int32) then
  some (9 : Int32)
  else
  if v_9 = (2 : Int32) then
  (X5_plenty there used free).bind fun u_12 =>
  some u_12
  else
  if v_9 = (3 : Int32) then
  some (coughs / (9 : Int32))
  else
  if v_9 = (4 : Int32) then
  some ((u_3 / (3 : Int32)) + (u_7 / (3 : Int32)))
  else
  if v_9 = (5 : Int32) then
  (rd good p0).bind fun v_17 =>
  (rd hidden v_17).bind fun v_19 =>
  some (((u_3 / (3 : Int32)) + (u_7 / (3 : Int32))) + (v_19 / (10 : Int32)))
  else
  (rd good p0).bind fun v_22 =>
  (X5_lack there used free v_22).bind fun u_24 =>
  some (u_24 / (3 : Int32))
set_option maxRecDepth 100000 in
set_option maxHeartbeats 4000000 in
theorem c_X5_sinks {l : Launch} {G : Gx} {ad : Nat → Nat} {refused there used hidden kind figure good load inn tape letter letterAt told kept row costs : List Int32} {ships coughs day away taped reading statements hasImage isKeeping cursor backs free goodFor loadedWhen bareGood bareWhen rowMany lots : Int32} {p0 : Int32} {out : Int32} (hf : X5_sinks there used hidden kind good coughs free p0 = some out) : Ct l G yX5_sinks cX5_sinks 3 (some .int) 2 43 [.ref (ad 0), .int p0] (wM G ad refused there used hidden kind figure good load inn tape letter letterAt told kept row costs ships coughs day away taped reading statements hasImage isKeeping cursor backs free goodFor loadedWhen bareGood bareWhen rowMany lots) (some (.int out)) (wM G ad refused there used hidden kind figure good load inn tape letter letterAt told kept row costs ships coughs day away taped reading statements hasImage isKeeping cursor backs free goodFor loadedWhen bareGood bareWhen rowMany lots) := by
  refine Ct.intro RX5 rfl (plainFor_of_name (by decide)) (Nat.le_of_ble_eq_true rfl) rfl ?_
  intro p e s m args below meth c A C H locs hs ls hl
  obtain ⟨hx, hb, hml, hown, hts, hK, hret, hlk⟩ := id C
  have hl : lv_has ls 3 [(0, .ref (ad 0)), (1, .int p0)] := hl
  unfold X5_sinks at hf
  refine lv_aload_n hx hb (dk hX5_sinks_0 0 rfl) rfl (lv_at hl 0 rfl) ?_
  refine lv_aload_n hx hb (dk hX5_sinks_0 1 rfl) rfl (lv_at hl 0 rfl) ?_
  refine rg ui5 rfl C hs 0 rfl 6 (by decide) tw_696 rfl rfl (dk hX5_sinks_0 2 rfl) ?_
  refine lv_iload_n hx hb (dk hX5_sinks_0 3 rfl) rfl (lv_at hl 1 rfl) ?_
  obtain ⟨v_1, e_2, hf⟩ := Option.bind_eq_some_iff.mp hf
  refine rild C hs 7 rfl e_2 (dk hX5_sinks_0 4 rfl) ?_
  obtain ⟨u_3, e_4, hf⟩ := Option.bind_eq_some_iff.mp hf
  refine Ct.V (As := [.int v_1]) (rest := []) (st1 := [.int u_3]) (w1 := (wM G ad refused there used hidden kind figure good load inn tape letter letterAt told kept row costs ships coughs day away taped reading statements hasImage isKeeping cursor backs free goodFor loadedWhen bareGood bareWhen rowMany lots)) C hs (c_X5_lack e_4) tw_888 tw_890 tw_39 tw_85 tw_891 nq_X5_lack (by decide) 0 5 rfl rfl rfl rfl hl.1 rfl (Nat.le_of_ble_eq_true rfl) (dk hX5_sinks_0 5 rfl) ⟨Nat.zero_le _, Nat.zero_le _⟩ rfl (fun H locs hs => ?_)
  refine lv_iconst (v := (3 : Int32)) hx hb (dk hX5_sinks_0 6 rfl) (by decide) ?_
  refine lv_idiv hx hb (dk hX5_sinks_0 7 rfl) (by decide) ?_
  refine lv_aload_n hx hb (dk hX5_sinks_0 8 rfl) rfl (lv_at hl 0 rfl) ?_
  refine lv_aload_n hx hb (dk hX5_sinks_0 9 rfl) rfl (lv_at hl 0 rfl) ?_
  refine lv_iload_n hx hb (dk hX5_sinks_0 10 rfl) rfl (lv_at hl 1 rfl) ?_
  obtain ⟨u_5, e_6, hf⟩ := Option.bind_eq_some_iff.mp hf
  refine Ct.V (As := [.int p0]) (rest := [.ref (ad 0), .int (u_3 / (3 : Int32))]) (st1 := [.int u_5, .ref (ad 0), .int (u_3 / (3 : Int32))]) (w1 := (wM G ad refused there used hidden kind figure good load inn tape letter letterAt told kept row costs ships coughs day away taped reading statements hasImage isKeeping cursor backs free goodFor loadedWhen bareGood bareWhen rowMany lots)) C hs (c_X5_following e_6) tw_892 tw_894 tw_40 tw_85 tw_895 nq_X5_following (by decide) 0 5 rfl rfl rfl rfl hl.1 rfl (Nat.le_of_ble_eq_true rfl) (dk hX5_sinks_0 11 rfl) ⟨Nat.zero_le _, Nat.zero_le _⟩ rfl (fun H locs hs => ?_)
  obtain ⟨u_7, e_8, hf⟩ := Option.bind_eq_some_iff.mp hf
  refine Ct.V (As := [.int u_5]) (rest := [.int (u_3 / (3 : Int32))]) (st1 := [.int u_7, .int (u_3 / (3 : Int32))]) (w1 := (wM G ad refused there used hidden kind figure good load inn tape letter letterAt told kept row costs ships coughs day away taped reading statements hasImage isKeeping cursor backs free goodFor loadedWhen bareGood bareWhen rowMany lots)) C hs (c_X5_lack e_8) tw_888 tw_890 tw_39 tw_85 tw_891 nq_X5_lack (by decide) 0 5 rfl rfl rfl rfl hl.1 rfl (Nat.le_of_ble_eq_true rfl) (dk hX5_sinks_0 12 rfl) ⟨Nat.zero_le _, Nat.zero_le _⟩ rfl (fun H locs hs => ?_)
  refine lv_iconst (v := (3 : Int32)) hx hb (dk hX5_sinks_0 13 rfl) (by decide) ?_
  refine lv_idiv hx hb (dk hX5_sinks_0 14 rfl) (by decide) ?_
  refine lv_iadd hx hb (dk hX5_sinks_0 15 rfl) ?_
  refine lv_istore_n (lv' := [(2, .int ((u_3 / (3 : Int32)) + (u_7 / (3 : Int32)))), (0, .ref (ad 0)), (1, .int p0)]) hx hb (dk hX5_sinks_0 16 rfl) rfl hl (by decide) rfl (fun ls hl => ?_)
  refine lv_aload_n hx hb (dk hX5_sinks_0 17 rfl) rfl (lv_at hl 1 rfl) ?_
  refine rg ui5 rfl C hs 0 rfl 4 (by decide) tw_694 rfl rfl (dk hX5_sinks_0 18 rfl) ?_
  refine lv_iload_n hx hb (dk hX5_sinks_0 19 rfl) rfl (lv_at hl 2 rfl) ?_
  obtain ⟨v_9, e_10, hf⟩ := Option.bind_eq_some_iff.mp hf
  refine rild C hs 5 rfl e_10 (dk hX5_sinks_0 20 rfl) ?_
  by_cases hc_11 : v_9 = (1 : Int32)
  · replace hf := ip hf hc_11
    refine rts (tgt := 64) (off := 33) hx hb (dk hX5_sinks_0 21 rfl) hc_11 (by decide) (by decide) (by decide) (by decide) ?_
    refine lv_bipush (v := (9 : Int32)) hx hb (dk hX5_sinks_0 22 rfl) (by decide) ?_
    cases hf
    exact ri C hs (dk hX5_sinks_0 23 rfl)
  · replace hf := in_ hf hc_11
    by_cases hc_14 : v_9 = (2 : Int32)
    · replace hf := ip hf hc_14
      refine rts (tgt := 67) (off := 36) hx hb (dk hX5_sinks_0 21 rfl) hc_14 (by decide) (by decide) (by decide) (by decide) ?_
      refine lv_aload_n hx hb (dk hX5_sinks_0 24 rfl) rfl (lv_at hl 1 rfl) ?_
      obtain ⟨u_12, e_13, hf⟩ := Option.bind_eq_some_iff.mp hf
      refine Ct.V (As := []) (rest := []) (st1 := [.int u_12]) (w1 := (wM G ad refused there used hidden kind figure good load inn tape letter letterAt told kept row costs ships coughs day away taped reading statements hasImage isKeeping cursor backs free goodFor loadedWhen bareGood bareWhen rowMany lots)) C hs (c_X5_plenty e_13) tw_896 tw_898 tw_41 tw_85 tw_899 nq_X5_plenty (by decide) 0 5 rfl rfl rfl rfl hl.1 rfl (Nat.le_of_ble_eq_true rfl) (dk hX5_sinks_0 25 rfl) ⟨Nat.zero_le _, Nat.zero_le _⟩ rfl (fun H locs hs => ?_)
      cases hf
      exact ri C hs (dk hX5_sinks_0 26 rfl)
    · replace hf := in_ hf hc_14
      by_cases hc_15 : v_9 = (3 : Int32)
      · replace hf := ip hf hc_15
        refine rts (tgt := 72) (off := 41) hx hb (dk hX5_sinks_0 21 rfl) hc_15 (by decide) (by decide) (by decide) (by decide) ?_
        refine lv_aload_n hx hb (dk hX5_sinks_0 27 rfl) rfl (lv_at hl 1 rfl) ?_
        refine rg ui5 rfl C hs 0 rfl 10 (by decide) tw_700 rfl rfl (dk hX5_sinks_0 28 rfl) ?_
        refine lv_bipush (v := (9 : Int32)) hx hb (dk hX5_sinks_0 29 rfl) (by decide) ?_
        refine lv_idiv hx hb (dk hX5_sinks_0 30 rfl) (by decide) ?_
        cases hf
        exact ri C hs (dk hX5_sinks_0 31 rfl)
      · replace hf := in_ hf hc_15
        by_cases hc_16 : v_9 = (4 : Int32)
        · replace hf := ip hf hc_16
          refine rts (tgt := 80) (off := 49) hx hb (dk hX5_sinks_0 21 rfl) hc_16 (by decide) (by decide) (by decide) (by decide) ?_
          refine lv_iload_n hx hb (dk hX5_sinks_0 32 rfl) rfl (lv_at hl 0 rfl) ?_
          cases hf
          exact ri C hs (dk hX5_sinks_0 33 rfl)
        · replace hf := in_ hf hc_16
          by_cases hc_21 : v_9 = (5 : Int32)
          · replace hf := ip hf hc_21
            refine rts (tgt := 82) (off := 51) hx hb (dk hX5_sinks_0 21 rfl) hc_21 (by decide) (by decide) (by decide) (by decide) ?_
            refine lv_iload_n hx hb (dk hX5_sinks_0 34 rfl) rfl (lv_at hl 0 rfl) ?_
            refine lv_aload_n hx hb (dk hX5_sinks_0 35 rfl) rfl (lv_at hl 1 rfl) ?_
            refine rg ui5 rfl C hs 0 rfl 3 (by decide) tw_693 rfl rfl (dk hX5_sinks_0 36 rfl) ?_
            refine lv_aload_n hx hb (dk hX5_sinks_0 37 rfl) rfl (lv_at hl 1 rfl) ?_
            refine rg ui5 rfl C hs 0 rfl 6 (by decide) tw_696 rfl rfl (dk hX5_sinks_0 38 rfl) ?_
            refine lv_iload_n hx hb (dk hX5_sinks_0 39 rfl) rfl (lv_at hl 2 rfl) ?_
            obtain ⟨v_17, e_18, hf⟩ := Option.bind_eq_some_iff.mp hf
            refine rild C hs 7 rfl e_18 (dk hX5_sinks_1 0 rfl) ?_
            obtain ⟨v_19, e_20, hf⟩ := Option.bind_eq_some_iff.mp hf
            refine rild C hs 4 rfl e_20 (dk hX5_sinks_1 1 rfl) ?_
            refine lv_bipush (v := (10 : Int32)) hx hb (dk hX5_sinks_1 2 rfl) (by decide) ?_
            refine lv_idiv hx hb (dk hX5_sinks_1 3 rfl) (by decide) ?_
            refine lv_iadd hx hb (dk hX5_sinks_1 4 rfl) ?_
            cases hf
            exact ri C hs (dk hX5_sinks_1 5 rfl)
          · replace hf := in_ hf hc_21
            refine rtd (tgt := 99) hx hb (dk hX5_sinks_0 21 rfl) [0, 1, 2, 3, 4] (by decide) (by decide) (List.forall_mem_cons.mpr ⟨ti hc_11 (by decide), List.forall_mem_cons.mpr ⟨ti hc_14 (by decide), List.forall_mem_cons.mpr ⟨ti hc_15 (by decide), List.forall_mem_cons.mpr ⟨ti hc_16 (by decide), List.forall_mem_cons.mpr ⟨ti hc_21 (by decide), fun _ h => absurd h List.not_mem_nil⟩⟩⟩⟩⟩) (by decide) ?_
            refine lv_aload_n hx hb (dk hX5_sinks_1 6 rfl) rfl (lv_at hl 1 rfl) ?_
            refine lv_aload_n hx hb (dk hX5_sinks_1 7 rfl) rfl (lv_at hl 1 rfl) ?_
            refine rg ui5 rfl C hs 0 rfl 6 (by decide) tw_696 rfl rfl (dk hX5_sinks_1 8 rfl) ?_
            refine lv_iload_n hx hb (dk hX5_sinks_1 9 rfl) rfl (lv_at hl 2 rfl) ?_
            obtain ⟨v_22, e_23, hf⟩ := Option.bind_eq_some_iff.mp hf
            refine rild C hs 7 rfl e_23 (dk hX5_sinks_1 10 rfl) ?_
            obtain ⟨u_24, e_25, hf⟩ := Option.bind_eq_some_iff.mp hf
            refine Ct.V (As := [.int v_22]) (rest := []) (st1 := [.int u_24]) (w1 := (wM G ad refused there used hidden kind figure good load inn tape letter letterAt told kept row costs ships coughs day away taped reading statements hasImage isKeeping cursor backs free goodFor loadedWhen bareGood bareWhen rowMany lots)) C hs (c_X5_lack e_25) tw_888 tw_890 tw_39 tw_85 tw_891 nq_X5_lack (by decide) 0 5 rfl rfl rfl rfl hl.1 rfl (Nat.le_of_ble_eq_true rfl) (dk hX5_sinks_1 11 rfl) ⟨Nat.zero_le _, Nat.zero_le _⟩ rfl (fun H locs hs => ?_)
            refine lv_iconst (v := (3 : Int32)) hx hb (dk hX5_sinks_1 12 rfl) (by decide) ?_
            refine lv_idiv hx hb (dk hX5_sinks_1 13 rfl) (by decide) ?_
            cases hf
            exact ri C hs (dk hX5_sinks_1 14 rfl)

def X5_depth (there : List Int32) (used : List Int32) (hidden : List Int32) (kind : List Int32) (good : List Int32) (coughs : Int32) (day : Int32) (free : Int32) (p0 : Int32) : Option (Int32) :=
  (X5_tideOf day).bind fun u_1 =>
  (X5_sinks there used hidden kind good coughs free p0).bind fun u_3 =>
  some (u_1 + u_3)
set_option maxRecDepth 100000 in
set_option maxHeartbeats 4000000 in
theorem c_X5_depth {l : Launch} {G : Gx} {ad : Nat → Nat} {refused there used hidden kind figure good load inn tape letter letterAt told kept row costs : List Int32} {ships coughs day away taped reading statements hasImage isKeeping cursor backs free goodFor loadedWhen bareGood bareWhen rowMany lots : Int32} {p0 : Int32} {out : Int32} (hf : X5_depth there used hidden kind good coughs day free p0 = some out) : Ct l G yX5_depth cX5_depth 2 (some .int) 3 65 [.ref (ad 0), .int p0] (wM G ad refused there used hidden kind figure good load inn tape letter letterAt told kept row costs ships coughs day away taped reading statements hasImage isKeeping cursor backs free goodFor loadedWhen bareGood bareWhen rowMany lots) (some (.int out)) (wM G ad refused there used hidden kind figure good load inn tape letter letterAt told kept row costs ships coughs day away taped reading statements hasImage isKeeping cursor backs free goodFor loadedWhen bareGood bareWhen rowMany lots) := by
  refine Ct.intro RX5 rfl (plainFor_of_name (by decide)) (Nat.le_of_ble_eq_true rfl) rfl ?_
  intro p e s m args below meth c A C H locs hs ls hl
  obtain ⟨hx, hb, hml, hown, hts, hK, hret, hlk⟩ := id C
  have hl : lv_has ls 2 [(0, .ref (ad 0)), (1, .int p0)] := hl
  unfold X5_depth at hf
  refine lv_aload_n hx hb (dk hX5_depth_0 0 rfl) rfl (lv_at hl 0 rfl) ?_
  refine rg ui5 rfl C hs 0 rfl 11 (by decide) tw_701 rfl rfl (dk hX5_depth_0 1 rfl) ?_
  obtain ⟨u_1, e_2, hf⟩ := Option.bind_eq_some_iff.mp hf
  refine Ct.S (As := [.int day]) (rest := []) (st1 := [.int u_1]) (w1 := (wM G ad refused there used hidden kind figure good load inn tape letter letterAt told kept row costs ships coughs day away taped reading statements hasImage isKeeping cursor backs free goodFor loadedWhen bareGood bareWhen rowMany lots)) C hs (c_X5_tideOf e_2) tw_881 tw_882 tw_85 tw_883 nq_X5_tideOf (by decide) rfl hl.1 rfl (Nat.le_of_ble_eq_true rfl) (dk hX5_depth_0 2 rfl) ⟨Nat.zero_le _, Nat.zero_le _⟩ rfl (fun H locs hs => ?_)
  refine lv_aload_n hx hb (dk hX5_depth_0 3 rfl) rfl (lv_at hl 0 rfl) ?_
  refine lv_iload_n hx hb (dk hX5_depth_0 4 rfl) rfl (lv_at hl 1 rfl) ?_
  obtain ⟨u_3, e_4, hf⟩ := Option.bind_eq_some_iff.mp hf
  refine Ct.V (As := [.int p0]) (rest := [.int u_1]) (st1 := [.int u_3, .int u_1]) (w1 := (wM G ad refused there used hidden kind figure good load inn tape letter letterAt told kept row costs ships coughs day away taped reading statements hasImage isKeeping cursor backs free goodFor loadedWhen bareGood bareWhen rowMany lots)) C hs (c_X5_sinks e_4) tw_884 tw_886 tw_38 tw_85 tw_887 nq_X5_sinks (by decide) 0 5 rfl rfl rfl rfl hl.1 rfl (Nat.le_of_ble_eq_true rfl) (dk hX5_depth_0 5 rfl) ⟨Nat.zero_le _, Nat.zero_le _⟩ rfl (fun H locs hs => ?_)
  refine lv_iadd hx hb (dk hX5_depth_0 6 rfl) ?_
  cases hf
  exact ri C hs (dk hX5_depth_0 7 rfl)

def X5_draws (kind : List Int32) (figure : List Int32) (p0 : Int32) : Option (Int32) :=
  (rd kind p0).bind fun v_1 =>
  if v_1 = (1 : Int32) then
  some (1 : Int32)
  else
  if v_1 = (2 : Int32) then
  (rd figure p0).bind fun v_4 =>
  some ((v_4 / (2 : Int32)) + (2 : Int32))
  else
  if v_1 = (3 : Int32) then
  some (2 : Int32)
  else
  if v_1 = (4 : Int32) then
  (rd figure p0).bind fun v_8 =>
  some (v_8 + (4 : Int32))
  else
  if v_1 = (5 : Int32) then
  (rd figure p0).bind fun v_11 =>
  some ((v_11 + (4 : Int32)) / (2 : Int32))
  else
  (rd figure p0).bind fun v_14 =>
  some (v_14 + (3 : Int32))
set_option maxRecDepth 100000 in
set_option maxHeartbeats 4000000 in
theorem c_X5_draws {l : Launch} {G : Gx} {ad : Nat → Nat} {refused there used hidden kind figure good load inn tape letter letterAt told kept row costs : List Int32} {ships coughs day away taped reading statements hasImage isKeeping cursor backs free goodFor loadedWhen bareGood bareWhen rowMany lots : Int32} {p0 : Int32} {out : Int32} (hf : X5_draws kind figure p0 = some out) : Ct l G yX5_draws cX5_draws 2 (some .int) 0 0 [.ref (ad 0), .int p0] (wM G ad refused there used hidden kind figure good load inn tape letter letterAt told kept row costs ships coughs day away taped reading statements hasImage isKeeping cursor backs free goodFor loadedWhen bareGood bareWhen rowMany lots) (some (.int out)) (wM G ad refused there used hidden kind figure good load inn tape letter letterAt told kept row costs ships coughs day away taped reading statements hasImage isKeeping cursor backs free goodFor loadedWhen bareGood bareWhen rowMany lots) := by
  refine Ct.intro RX5 rfl (plainFor_of_name (by decide)) (Nat.le_of_ble_eq_true rfl) rfl ?_
  intro p e s m args below meth c A C H locs hs ls hl
  obtain ⟨hx, hb, hml, hown, hts, hK, hret, hlk⟩ := id C
  have hl : lv_has ls 2 [(0, .ref (ad 0)), (1, .int p0)] := hl
  unfold X5_draws at hf
  refine lv_aload_n hx hb (dk hX5_draws_0 0 rfl) rfl (lv_at hl 0 rfl) ?_
  refine rg ui5 rfl C hs 0 rfl 4 (by decide) tw_694 rfl rfl (dk hX5_draws_0 1 rfl) ?_
  refine lv_iload_n hx hb (dk hX5_draws_0 2 rfl) rfl (lv_at hl 1 rfl) ?_
  obtain ⟨v_1, e_2, hf⟩ := Option.bind_eq_some_iff.mp hf
  refine rild C hs 5 rfl e_2 (dk hX5_draws_0 3 rfl) ?_
  by_cases hc_3 : v_1 = (1 : Int32)
  · replace hf := ip hf hc_3
    refine rts (tgt := 40) (off := 34) hx hb (dk hX5_draws_0 4 rfl) hc_3 (by decide) (by decide) (by decide) (by decide) ?_
    refine lv_iconst (v := (1 : Int32)) hx hb (dk hX5_draws_0 5 rfl) (by decide) ?_
    cases hf
    exact ri C hs (dk hX5_draws_0 6 rfl)
  · replace hf := in_ hf hc_3
    by_cases hc_6 : v_1 = (2 : Int32)
    · replace hf := ip hf hc_6
      refine rts (tgt := 42) (off := 36) hx hb (dk hX5_draws_0 4 rfl) hc_6 (by decide) (by decide) (by decide) (by decide) ?_
      refine lv_aload_n hx hb (dk hX5_draws_0 7 rfl) rfl (lv_at hl 0 rfl) ?_
      refine rg ui5 rfl C hs 0 rfl 5 (by decide) tw_695 rfl rfl (dk hX5_draws_0 8 rfl) ?_
      refine lv_iload_n hx hb (dk hX5_draws_0 9 rfl) rfl (lv_at hl 1 rfl) ?_
      obtain ⟨v_4, e_5, hf⟩ := Option.bind_eq_some_iff.mp hf
      refine rild C hs 6 rfl e_5 (dk hX5_draws_0 10 rfl) ?_
      refine lv_iconst (v := (2 : Int32)) hx hb (dk hX5_draws_0 11 rfl) (by decide) ?_
      refine lv_idiv hx hb (dk hX5_draws_0 12 rfl) (by decide) ?_
      refine lv_iconst (v := (2 : Int32)) hx hb (dk hX5_draws_0 13 rfl) (by decide) ?_
      refine lv_iadd hx hb (dk hX5_draws_0 14 rfl) ?_
      cases hf
      exact ri C hs (dk hX5_draws_0 15 rfl)
    · replace hf := in_ hf hc_6
      by_cases hc_7 : v_1 = (3 : Int32)
      · replace hf := ip hf hc_7
        refine rts (tgt := 53) (off := 47) hx hb (dk hX5_draws_0 4 rfl) hc_7 (by decide) (by decide) (by decide) (by decide) ?_
        refine lv_iconst (v := (2 : Int32)) hx hb (dk hX5_draws_0 16 rfl) (by decide) ?_
        cases hf
        exact ri C hs (dk hX5_draws_0 17 rfl)
      · replace hf := in_ hf hc_7
        by_cases hc_10 : v_1 = (4 : Int32)
        · replace hf := ip hf hc_10
          refine rts (tgt := 55) (off := 49) hx hb (dk hX5_draws_0 4 rfl) hc_10 (by decide) (by decide) (by decide) (by decide) ?_
          refine lv_aload_n hx hb (dk hX5_draws_0 18 rfl) rfl (lv_at hl 0 rfl) ?_
          refine rg ui5 rfl C hs 0 rfl 5 (by decide) tw_695 rfl rfl (dk hX5_draws_0 19 rfl) ?_
          refine lv_iload_n hx hb (dk hX5_draws_0 20 rfl) rfl (lv_at hl 1 rfl) ?_
          obtain ⟨v_8, e_9, hf⟩ := Option.bind_eq_some_iff.mp hf
          refine rild C hs 6 rfl e_9 (dk hX5_draws_0 21 rfl) ?_
          refine lv_iconst (v := (4 : Int32)) hx hb (dk hX5_draws_0 22 rfl) (by decide) ?_
          refine lv_iadd hx hb (dk hX5_draws_0 23 rfl) ?_
          cases hf
          exact ri C hs (dk hX5_draws_0 24 rfl)
        · replace hf := in_ hf hc_10
          by_cases hc_13 : v_1 = (5 : Int32)
          · replace hf := ip hf hc_13
            refine rts (tgt := 64) (off := 58) hx hb (dk hX5_draws_0 4 rfl) hc_13 (by decide) (by decide) (by decide) (by decide) ?_
            refine lv_aload_n hx hb (dk hX5_draws_0 25 rfl) rfl (lv_at hl 0 rfl) ?_
            refine rg ui5 rfl C hs 0 rfl 5 (by decide) tw_695 rfl rfl (dk hX5_draws_0 26 rfl) ?_
            refine lv_iload_n hx hb (dk hX5_draws_0 27 rfl) rfl (lv_at hl 1 rfl) ?_
            obtain ⟨v_11, e_12, hf⟩ := Option.bind_eq_some_iff.mp hf
            refine rild C hs 6 rfl e_12 (dk hX5_draws_0 28 rfl) ?_
            refine lv_iconst (v := (4 : Int32)) hx hb (dk hX5_draws_0 29 rfl) (by decide) ?_
            refine lv_iadd hx hb (dk hX5_draws_0 30 rfl) ?_
            refine lv_iconst (v := (2 : Int32)) hx hb (dk hX5_draws_0 31 rfl) (by decide) ?_
            refine lv_idiv hx hb (dk hX5_draws_0 32 rfl) (by decide) ?_
            cases hf
            exact ri C hs (dk hX5_draws_0 33 rfl)
          · replace hf := in_ hf hc_13
            refine rtd (tgt := 75) hx hb (dk hX5_draws_0 4 rfl) [0, 1, 2, 3, 4] (by decide) (by decide) (List.forall_mem_cons.mpr ⟨ti hc_3 (by decide), List.forall_mem_cons.mpr ⟨ti hc_6 (by decide), List.forall_mem_cons.mpr ⟨ti hc_7 (by decide), List.forall_mem_cons.mpr ⟨ti hc_10 (by decide), List.forall_mem_cons.mpr ⟨ti hc_13 (by decide), fun _ h => absurd h List.not_mem_nil⟩⟩⟩⟩⟩) (by decide) ?_
            refine lv_aload_n hx hb (dk hX5_draws_0 34 rfl) rfl (lv_at hl 0 rfl) ?_
            refine rg ui5 rfl C hs 0 rfl 5 (by decide) tw_695 rfl rfl (dk hX5_draws_0 35 rfl) ?_
            refine lv_iload_n hx hb (dk hX5_draws_0 36 rfl) rfl (lv_at hl 1 rfl) ?_
            obtain ⟨v_14, e_15, hf⟩ := Option.bind_eq_some_iff.mp hf
            refine rild C hs 6 rfl e_15 (dk hX5_draws_0 37 rfl) ?_
            refine lv_iconst (v := (3 : Int32)) hx hb (dk hX5_draws_0 38 rfl) (by decide) ?_
            refine lv_iadd hx hb (dk hX5_draws_0 39 rfl) ?_
            cases hf
            exact ri C hs (dk hX5_draws_1 0 rfl)

def X5_canCome (there : List Int32) (used : List Int32) (hidden : List Int32) (kind : List Int32) (figure : List Int32) (good : List Int32) (inn : List Int32) (coughs : Int32) (day : Int32) (away : Int32) (free : Int32) (p0 : Int32) : Option (Int32) :=
  (rd inn p0).bind fun v_1 =>
  if v_1 = (0 : Int32) then
  (X5_has away p0).bind fun u_3 =>
  if u_3 = (0 : Int32) then
  (X5_depth there used hidden kind good coughs day free p0).bind fun u_5 =>
  (X5_draws kind figure p0).bind fun u_7 =>
  if u_5 < u_7 then
  some (0 : Int32)
  else
  some (1 : Int32)
  else
  some (0 : Int32)
  else
  some (0 : Int32)
set_option maxRecDepth 100000 in
set_option maxHeartbeats 4000000 in
theorem c_X5_canCome {l : Launch} {G : Gx} {ad : Nat → Nat} {refused there used hidden kind figure good load inn tape letter letterAt told kept row costs : List Int32} {ships coughs day away taped reading statements hasImage isKeeping cursor backs free goodFor loadedWhen bareGood bareWhen rowMany lots : Int32} {p0 : Int32} {out : Int32} (hf : X5_canCome there used hidden kind figure good inn coughs day away free p0 = some out) : Ct l G yX5_canCome cX5_canCome 2 (some .boolean) 4 86 [.ref (ad 0), .int p0] (wM G ad refused there used hidden kind figure good load inn tape letter letterAt told kept row costs ships coughs day away taped reading statements hasImage isKeeping cursor backs free goodFor loadedWhen bareGood bareWhen rowMany lots) (some (.int out)) (wM G ad refused there used hidden kind figure good load inn tape letter letterAt told kept row costs ships coughs day away taped reading statements hasImage isKeeping cursor backs free goodFor loadedWhen bareGood bareWhen rowMany lots) := by
  refine Ct.intro RX5 rfl (plainFor_of_name (by decide)) (Nat.le_of_ble_eq_true rfl) rfl ?_
  intro p e s m args below meth c A C H locs hs ls hl
  obtain ⟨hx, hb, hml, hown, hts, hK, hret, hlk⟩ := id C
  have hl : lv_has ls 2 [(0, .ref (ad 0)), (1, .int p0)] := hl
  unfold X5_canCome at hf
  refine lv_aload_n hx hb (dk hX5_canCome_0 0 rfl) rfl (lv_at hl 0 rfl) ?_
  refine rg ui5 rfl C hs 0 rfl 8 (by decide) tw_698 rfl rfl (dk hX5_canCome_0 1 rfl) ?_
  refine lv_iload_n hx hb (dk hX5_canCome_0 2 rfl) rfl (lv_at hl 1 rfl) ?_
  obtain ⟨v_1, e_2, hf⟩ := Option.bind_eq_some_iff.mp hf
  refine rild C hs 9 rfl e_2 (dk hX5_canCome_0 3 rfl) ?_
  refine lv_if_ne (tgt := 37) hx hb (dk hX5_canCome_0 4 rfl) (by decide) (fun hc => ?_) (fun hc => ?_)
  · replace hf := in_ hf hc
    refine lv_iconst (v := (0 : Int32)) hx hb (dk hX5_canCome_0 19 rfl) (by decide) ?_
    cases hf
    exact rz (x := (0 : Int32)) rfl C hs (dk hX5_canCome_0 20 rfl)
  · replace hf := ip hf hc
    refine lv_aload_n hx hb (dk hX5_canCome_0 5 rfl) rfl (lv_at hl 0 rfl) ?_
    refine rg ui5 rfl C hs 0 rfl 12 (by decide) tw_702 rfl rfl (dk hX5_canCome_0 6 rfl) ?_
    refine lv_iload_n hx hb (dk hX5_canCome_0 7 rfl) rfl (lv_at hl 1 rfl) ?_
    obtain ⟨u_3, e_4, hf⟩ := Option.bind_eq_some_iff.mp hf
    refine Ct.S (As := [.int away, .int p0]) (rest := []) (st1 := [.int u_3]) (w1 := (wM G ad refused there used hidden kind figure good load inn tape letter letterAt told kept row costs ships coughs day away taped reading statements hasImage isKeeping cursor backs free goodFor loadedWhen bareGood bareWhen rowMany lots)) C hs (c_X5_has e_4) tw_874 tw_875 tw_85 tw_876 nq_X5_has (by decide) rfl hl.1 rfl (Nat.le_of_ble_eq_true rfl) (dk hX5_canCome_0 8 rfl) ⟨Nat.zero_le _, Nat.zero_le _⟩ rfl (fun H locs hs => ?_)
    refine lv_if_ne (tgt := 37) hx hb (dk hX5_canCome_0 9 rfl) (by decide) (fun hc => ?_) (fun hc => ?_)
    · replace hf := in_ hf hc
      refine lv_iconst (v := (0 : Int32)) hx hb (dk hX5_canCome_0 19 rfl) (by decide) ?_
      cases hf
      exact rz (x := (0 : Int32)) rfl C hs (dk hX5_canCome_0 20 rfl)
    · replace hf := ip hf hc
      refine lv_aload_n hx hb (dk hX5_canCome_0 10 rfl) rfl (lv_at hl 0 rfl) ?_
      refine lv_iload_n hx hb (dk hX5_canCome_0 11 rfl) rfl (lv_at hl 1 rfl) ?_
      obtain ⟨u_5, e_6, hf⟩ := Option.bind_eq_some_iff.mp hf
      refine Ct.V (As := [.int p0]) (rest := []) (st1 := [.int u_5]) (w1 := (wM G ad refused there used hidden kind figure good load inn tape letter letterAt told kept row costs ships coughs day away taped reading statements hasImage isKeeping cursor backs free goodFor loadedWhen bareGood bareWhen rowMany lots)) C hs (c_X5_depth e_6) tw_877 tw_879 tw_37 tw_85 tw_880 nq_X5_depth (by decide) 0 5 rfl rfl rfl rfl hl.1 rfl (Nat.le_of_ble_eq_true rfl) (dk hX5_canCome_0 12 rfl) ⟨Nat.zero_le _, Nat.zero_le _⟩ rfl (fun H locs hs => ?_)
      refine lv_aload_n hx hb (dk hX5_canCome_0 13 rfl) rfl (lv_at hl 0 rfl) ?_
      refine lv_iload_n hx hb (dk hX5_canCome_0 14 rfl) rfl (lv_at hl 1 rfl) ?_
      obtain ⟨u_7, e_8, hf⟩ := Option.bind_eq_some_iff.mp hf
      refine Ct.V (As := [.int p0]) (rest := [.int u_5]) (st1 := [.int u_7, .int u_5]) (w1 := (wM G ad refused there used hidden kind figure good load inn tape letter letterAt told kept row costs ships coughs day away taped reading statements hasImage isKeeping cursor backs free goodFor loadedWhen bareGood bareWhen rowMany lots)) C hs (c_X5_draws e_8) tw_900 tw_902 tw_42 tw_85 tw_903 nq_X5_draws (by decide) 0 5 rfl rfl rfl rfl hl.1 rfl (Nat.le_of_ble_eq_true rfl) (dk hX5_canCome_0 15 rfl) ⟨Nat.zero_le _, Nat.zero_le _⟩ rfl (fun H locs hs => ?_)
      refine lv_icmp_lt (tgt := 37) hx hb (dk hX5_canCome_0 16 rfl) (by decide) (fun hc => ?_) (fun hc => ?_)
      · replace hf := ip hf hc
        refine lv_iconst (v := (0 : Int32)) hx hb (dk hX5_canCome_0 19 rfl) (by decide) ?_
        cases hf
        exact rz (x := (0 : Int32)) rfl C hs (dk hX5_canCome_0 20 rfl)
      · replace hf := in_ hf hc
        refine lv_iconst (v := (1 : Int32)) hx hb (dk hX5_canCome_0 17 rfl) (by decide) ?_
        refine lv_goto (tgt := 38) hx hb (dk hX5_canCome_0 18 rfl) (by decide) ?_
        cases hf
        exact rz (x := (1 : Int32)) rfl C hs (dk hX5_canCome_0 20 rfl)

def X5_brings (kind : List Int32) (good : List Int32) (load : List Int32) (p0 : Int32) (p1 : Int32) : Option (Int32) :=
  (rd kind p0).bind fun v_1 =>
  if v_1 = (1 : Int32) then
  some (0 : Int32)
  else
  (rd kind p0).bind fun v_3 =>
  if v_3 = (4 : Int32) then
  (rd load p0).bind fun v_5 =>
  (rd good p0).bind fun v_7 =>
  if p1 = v_7 then
  some (v_5 / (2 : Int32))
  else
  (X5_following good p0).bind fun u_9 =>
  if p1 = u_9 then
  (rd load p0).bind fun v_11 =>
  some (v_11 - (v_5 / (2 : Int32)))
  else
  some (0 : Int32)
  else
  (rd kind p0).bind fun v_13 =>
  if v_13 = (5 : Int32) then
  (rd load p0).bind fun v_15 =>
  (rd good p0).bind fun v_17 =>
  if p1 = v_17 then
  some (v_15 / (2 : Int32))
  else
  (X5_following good p0).bind fun u_19 =>
  if p1 = u_19 then
  (rd load p0).bind fun v_21 =>
  some (v_21 - (v_15 / (2 : Int32)))
  else
  some (0 : Int32)
  else
  (rd good p0).bind fun v_23 =>
  if p1 = v_23 then
  (rd load p0).bind fun v_25 =>
  some v_25
  else
  some (0 : Int32)
set_option maxRecDepth 100000 in
set_option maxHeartbeats 4000000 in
theorem c_X5_brings {l : Launch} {G : Gx} {ad : Nat → Nat} {refused there used hidden kind figure good load inn tape letter letterAt told kept row costs : List Int32} {ships coughs day away taped reading statements hasImage isKeeping cursor backs free goodFor loadedWhen bareGood bareWhen rowMany lots : Int32} {p0 : Int32} {p1 : Int32} {out : Int32} (hf : X5_brings kind good load p0 p1 = some out) : Ct l G yX5_brings cX5_brings 4 (some .int) 1 21 [.ref (ad 0), .int p0, .int p1] (wM G ad refused there used hidden kind figure good load inn tape letter letterAt told kept row costs ships coughs day away taped reading statements hasImage isKeeping cursor backs free goodFor loadedWhen bareGood bareWhen rowMany lots) (some (.int out)) (wM G ad refused there used hidden kind figure good load inn tape letter letterAt told kept row costs ships coughs day away taped reading statements hasImage isKeeping cursor backs free goodFor loadedWhen bareGood bareWhen rowMany lots) := by
  refine Ct.intro RX5 rfl (plainFor_of_name (by decide)) (Nat.le_of_ble_eq_true rfl) rfl ?_
  intro p e s m args below meth c A C H locs hs ls hl
  obtain ⟨hx, hb, hml, hown, hts, hK, hret, hlk⟩ := id C
  have hl : lv_has ls 4 [(0, .ref (ad 0)), (1, .int p0), (2, .int p1)] := hl
  unfold X5_brings at hf
  refine lv_aload_n hx hb (dk hX5_brings_0 0 rfl) rfl (lv_at hl 0 rfl) ?_
  refine rg ui5 rfl C hs 0 rfl 4 (by decide) tw_694 rfl rfl (dk hX5_brings_0 1 rfl) ?_
  refine lv_iload_n hx hb (dk hX5_brings_0 2 rfl) rfl (lv_at hl 1 rfl) ?_
  obtain ⟨v_1, e_2, hf⟩ := Option.bind_eq_some_iff.mp hf
  refine rild C hs 5 rfl e_2 (dk hX5_brings_0 3 rfl) ?_
  refine lv_iconst (v := (1 : Int32)) hx hb (dk hX5_brings_0 4 rfl) (by decide) ?_
  refine lv_icmp_ne (tgt := 12) hx hb (dk hX5_brings_0 5 rfl) (by decide) (fun hc => ?_) (fun hc => ?_)
  · replace hf := in_ hf hc
    refine lv_aload_n hx hb (dk hX5_brings_0 8 rfl) rfl (lv_at hl 0 rfl) ?_
    refine rg ui5 rfl C hs 0 rfl 4 (by decide) tw_694 rfl rfl (dk hX5_brings_0 9 rfl) ?_
    refine lv_iload_n hx hb (dk hX5_brings_0 10 rfl) rfl (lv_at hl 1 rfl) ?_
    obtain ⟨v_3, e_4, hf⟩ := Option.bind_eq_some_iff.mp hf
    refine rild C hs 5 rfl e_4 (dk hX5_brings_0 11 rfl) ?_
    refine lv_iconst (v := (4 : Int32)) hx hb (dk hX5_brings_0 12 rfl) (by decide) ?_
    refine lv_icmp_eq (tgt := 53) hx hb (dk hX5_brings_0 13 rfl) (by decide) (fun hc => ?_) (fun hc => ?_)
    · replace hf := ip hf hc
      refine lv_aload_n hx hb (dk hX5_brings_0 33 rfl) rfl (lv_at hl 0 rfl) ?_
      refine rg ui5 rfl C hs 0 rfl 7 (by decide) tw_697 rfl rfl (dk hX5_brings_0 34 rfl) ?_
      refine lv_iload_n hx hb (dk hX5_brings_0 35 rfl) rfl (lv_at hl 1 rfl) ?_
      obtain ⟨v_5, e_6, hf⟩ := Option.bind_eq_some_iff.mp hf
      refine rild C hs 8 rfl e_6 (dk hX5_brings_0 36 rfl) ?_
      refine lv_iconst (v := (2 : Int32)) hx hb (dk hX5_brings_0 37 rfl) (by decide) ?_
      refine lv_idiv hx hb (dk hX5_brings_0 38 rfl) (by decide) ?_
      refine lv_istore_n (lv' := [(3, .int (v_5 / (2 : Int32))), (0, .ref (ad 0)), (1, .int p0), (2, .int p1)]) hx hb (dk hX5_brings_0 39 rfl) rfl hl (by decide) rfl (fun ls hl => ?_)
      refine lv_iload_n hx hb (dk hX5_brings_1 0 rfl) rfl (lv_at hl 3 rfl) ?_
      refine lv_aload_n hx hb (dk hX5_brings_1 1 rfl) rfl (lv_at hl 1 rfl) ?_
      refine rg ui5 rfl C hs 0 rfl 6 (by decide) tw_696 rfl rfl (dk hX5_brings_1 2 rfl) ?_
      refine lv_iload_n hx hb (dk hX5_brings_1 3 rfl) rfl (lv_at hl 2 rfl) ?_
      obtain ⟨v_7, e_8, hf⟩ := Option.bind_eq_some_iff.mp hf
      refine rild C hs 7 rfl e_8 (dk hX5_brings_1 4 rfl) ?_
      refine lv_icmp_ne (tgt := 76) hx hb (dk hX5_brings_1 5 rfl) (by decide) (fun hc => ?_) (fun hc => ?_)
      · replace hf := in_ hf hc
        refine lv_iload_n hx hb (dk hX5_brings_1 8 rfl) rfl (lv_at hl 3 rfl) ?_
        refine lv_aload_n hx hb (dk hX5_brings_1 9 rfl) rfl (lv_at hl 1 rfl) ?_
        refine lv_iload_n hx hb (dk hX5_brings_1 10 rfl) rfl (lv_at hl 2 rfl) ?_
        obtain ⟨u_9, e_10, hf⟩ := Option.bind_eq_some_iff.mp hf
        refine Ct.V (As := [.int p0]) (rest := [.int p1]) (st1 := [.int u_9, .int p1]) (w1 := (wM G ad refused there used hidden kind figure good load inn tape letter letterAt told kept row costs ships coughs day away taped reading statements hasImage isKeeping cursor backs free goodFor loadedWhen bareGood bareWhen rowMany lots)) C hs (c_X5_following e_10) tw_892 tw_894 tw_40 tw_85 tw_895 nq_X5_following (by decide) 0 5 rfl rfl rfl rfl hl.1 rfl (Nat.le_of_ble_eq_true rfl) (dk hX5_brings_1 11 rfl) ⟨Nat.zero_le _, Nat.zero_le _⟩ rfl (fun H locs hs => ?_)
        refine lv_icmp_ne (tgt := 96) hx hb (dk hX5_brings_1 12 rfl) (by decide) (fun hc => ?_) (fun hc => ?_)
        · replace hf := in_ hf hc
          refine lv_iconst (v := (0 : Int32)) hx hb (dk hX5_brings_1 20 rfl) (by decide) ?_
          cases hf
          exact ri C hs (dk hX5_brings_1 21 rfl)
        · replace hf := ip hf hc
          refine lv_aload_n hx hb (dk hX5_brings_1 13 rfl) rfl (lv_at hl 1 rfl) ?_
          refine rg ui5 rfl C hs 0 rfl 7 (by decide) tw_697 rfl rfl (dk hX5_brings_1 14 rfl) ?_
          refine lv_iload_n hx hb (dk hX5_brings_1 15 rfl) rfl (lv_at hl 2 rfl) ?_
          obtain ⟨v_11, e_12, hf⟩ := Option.bind_eq_some_iff.mp hf
          refine rild C hs 8 rfl e_12 (dk hX5_brings_1 16 rfl) ?_
          refine lv_iload_n hx hb (dk hX5_brings_1 17 rfl) rfl (lv_at hl 0 rfl) ?_
          refine lv_isub hx hb (dk hX5_brings_1 18 rfl) ?_
          refine lv_goto (tgt := 97) hx hb (dk hX5_brings_1 19 rfl) (by decide) ?_
          cases hf
          exact ri C hs (dk hX5_brings_1 21 rfl)
      · replace hf := ip hf hc
        refine lv_iload_n hx hb (dk hX5_brings_1 6 rfl) rfl (lv_at hl 0 rfl) ?_
        refine lv_goto (tgt := 97) hx hb (dk hX5_brings_1 7 rfl) (by decide) ?_
        cases hf
        exact ri C hs (dk hX5_brings_1 21 rfl)
    · replace hf := in_ hf hc
      refine lv_aload_n hx hb (dk hX5_brings_0 14 rfl) rfl (lv_at hl 0 rfl) ?_
      refine rg ui5 rfl C hs 0 rfl 4 (by decide) tw_694 rfl rfl (dk hX5_brings_0 15 rfl) ?_
      refine lv_iload_n hx hb (dk hX5_brings_0 16 rfl) rfl (lv_at hl 1 rfl) ?_
      obtain ⟨v_13, e_14, hf⟩ := Option.bind_eq_some_iff.mp hf
      refine rild C hs 5 rfl e_14 (dk hX5_brings_0 17 rfl) ?_
      refine lv_iconst (v := (5 : Int32)) hx hb (dk hX5_brings_0 18 rfl) (by decide) ?_
      refine lv_icmp_eq (tgt := 53) hx hb (dk hX5_brings_0 19 rfl) (by decide) (fun hc => ?_) (fun hc => ?_)
      · replace hf := ip hf hc
        refine lv_aload_n hx hb (dk hX5_brings_0 33 rfl) rfl (lv_at hl 0 rfl) ?_
        refine rg ui5 rfl C hs 0 rfl 7 (by decide) tw_697 rfl rfl (dk hX5_brings_0 34 rfl) ?_
        refine lv_iload_n hx hb (dk hX5_brings_0 35 rfl) rfl (lv_at hl 1 rfl) ?_
        obtain ⟨v_15, e_16, hf⟩ := Option.bind_eq_some_iff.mp hf
        refine rild C hs 8 rfl e_16 (dk hX5_brings_0 36 rfl) ?_
        refine lv_iconst (v := (2 : Int32)) hx hb (dk hX5_brings_0 37 rfl) (by decide) ?_
        refine lv_idiv hx hb (dk hX5_brings_0 38 rfl) (by decide) ?_
        refine lv_istore_n (lv' := [(3, .int (v_15 / (2 : Int32))), (0, .ref (ad 0)), (1, .int p0), (2, .int p1)]) hx hb (dk hX5_brings_0 39 rfl) rfl hl (by decide) rfl (fun ls hl => ?_)
        refine lv_iload_n hx hb (dk hX5_brings_1 0 rfl) rfl (lv_at hl 3 rfl) ?_
        refine lv_aload_n hx hb (dk hX5_brings_1 1 rfl) rfl (lv_at hl 1 rfl) ?_
        refine rg ui5 rfl C hs 0 rfl 6 (by decide) tw_696 rfl rfl (dk hX5_brings_1 2 rfl) ?_
        refine lv_iload_n hx hb (dk hX5_brings_1 3 rfl) rfl (lv_at hl 2 rfl) ?_
        obtain ⟨v_17, e_18, hf⟩ := Option.bind_eq_some_iff.mp hf
        refine rild C hs 7 rfl e_18 (dk hX5_brings_1 4 rfl) ?_
        refine lv_icmp_ne (tgt := 76) hx hb (dk hX5_brings_1 5 rfl) (by decide) (fun hc => ?_) (fun hc => ?_)
        · replace hf := in_ hf hc
          refine lv_iload_n hx hb (dk hX5_brings_1 8 rfl) rfl (lv_at hl 3 rfl) ?_
          refine lv_aload_n hx hb (dk hX5_brings_1 9 rfl) rfl (lv_at hl 1 rfl) ?_
          refine lv_iload_n hx hb (dk hX5_brings_1 10 rfl) rfl (lv_at hl 2 rfl) ?_
          obtain ⟨u_19, e_20, hf⟩ := Option.bind_eq_some_iff.mp hf
          refine Ct.V (As := [.int p0]) (rest := [.int p1]) (st1 := [.int u_19, .int p1]) (w1 := (wM G ad refused there used hidden kind figure good load inn tape letter letterAt told kept row costs ships coughs day away taped reading statements hasImage isKeeping cursor backs free goodFor loadedWhen bareGood bareWhen rowMany lots)) C hs (c_X5_following e_20) tw_892 tw_894 tw_40 tw_85 tw_895 nq_X5_following (by decide) 0 5 rfl rfl rfl rfl hl.1 rfl (Nat.le_of_ble_eq_true rfl) (dk hX5_brings_1 11 rfl) ⟨Nat.zero_le _, Nat.zero_le _⟩ rfl (fun H locs hs => ?_)
          refine lv_icmp_ne (tgt := 96) hx hb (dk hX5_brings_1 12 rfl) (by decide) (fun hc => ?_) (fun hc => ?_)
          · replace hf := in_ hf hc
            refine lv_iconst (v := (0 : Int32)) hx hb (dk hX5_brings_1 20 rfl) (by decide) ?_
            cases hf
            exact ri C hs (dk hX5_brings_1 21 rfl)
          · replace hf := ip hf hc
            refine lv_aload_n hx hb (dk hX5_brings_1 13 rfl) rfl (lv_at hl 1 rfl) ?_
            refine rg ui5 rfl C hs 0 rfl 7 (by decide) tw_697 rfl rfl (dk hX5_brings_1 14 rfl) ?_
            refine lv_iload_n hx hb (dk hX5_brings_1 15 rfl) rfl (lv_at hl 2 rfl) ?_
            obtain ⟨v_21, e_22, hf⟩ := Option.bind_eq_some_iff.mp hf
            refine rild C hs 8 rfl e_22 (dk hX5_brings_1 16 rfl) ?_
            refine lv_iload_n hx hb (dk hX5_brings_1 17 rfl) rfl (lv_at hl 0 rfl) ?_
            refine lv_isub hx hb (dk hX5_brings_1 18 rfl) ?_
            refine lv_goto (tgt := 97) hx hb (dk hX5_brings_1 19 rfl) (by decide) ?_
            cases hf
            exact ri C hs (dk hX5_brings_1 21 rfl)
        · replace hf := ip hf hc
          refine lv_iload_n hx hb (dk hX5_brings_1 6 rfl) rfl (lv_at hl 0 rfl) ?_
          refine lv_goto (tgt := 97) hx hb (dk hX5_brings_1 7 rfl) (by decide) ?_
          cases hf
          exact ri C hs (dk hX5_brings_1 21 rfl)
      · replace hf := in_ hf hc
        refine lv_iload_n hx hb (dk hX5_brings_0 20 rfl) rfl (lv_at hl 2 rfl) ?_
        refine lv_aload_n hx hb (dk hX5_brings_0 21 rfl) rfl (lv_at hl 0 rfl) ?_
        refine rg ui5 rfl C hs 0 rfl 6 (by decide) tw_696 rfl rfl (dk hX5_brings_0 22 rfl) ?_
        refine lv_iload_n hx hb (dk hX5_brings_0 23 rfl) rfl (lv_at hl 1 rfl) ?_
        obtain ⟨v_23, e_24, hf⟩ := Option.bind_eq_some_iff.mp hf
        refine rild C hs 7 rfl e_24 (dk hX5_brings_0 24 rfl) ?_
        refine lv_icmp_ne (tgt := 51) hx hb (dk hX5_brings_0 25 rfl) (by decide) (fun hc => ?_) (fun hc => ?_)
        · replace hf := in_ hf hc
          refine lv_iconst (v := (0 : Int32)) hx hb (dk hX5_brings_0 31 rfl) (by decide) ?_
          cases hf
          exact ri C hs (dk hX5_brings_0 32 rfl)
        · replace hf := ip hf hc
          refine lv_aload_n hx hb (dk hX5_brings_0 26 rfl) rfl (lv_at hl 0 rfl) ?_
          refine rg ui5 rfl C hs 0 rfl 7 (by decide) tw_697 rfl rfl (dk hX5_brings_0 27 rfl) ?_
          refine lv_iload_n hx hb (dk hX5_brings_0 28 rfl) rfl (lv_at hl 1 rfl) ?_
          obtain ⟨v_25, e_26, hf⟩ := Option.bind_eq_some_iff.mp hf
          refine rild C hs 8 rfl e_26 (dk hX5_brings_0 29 rfl) ?_
          refine lv_goto (tgt := 52) hx hb (dk hX5_brings_0 30 rfl) (by decide) ?_
          cases hf
          exact ri C hs (dk hX5_brings_0 32 rfl)
  · replace hf := ip hf hc
    refine lv_iconst (v := (0 : Int32)) hx hb (dk hX5_brings_0 6 rfl) (by decide) ?_
    cases hf
    exact ri C hs (dk hX5_brings_0 7 rfl)

def X5_bringsAll_L2 (k : List Int32 → Option (List Int32 × Int32)) (kind : List Int32) (good : List Int32) (load : List Int32) (x1 : Int32) : Nat → Int32 → List Int32 → Option (List Int32 × Int32)
  | 0, _, _ => none
  | n + 1, x2, there =>
  if (6 : Int32) ≤ x2 then
  k there
  else
  (rd there x2).bind fun v_1 =>
  (X5_brings kind good load x1 x2).bind fun u_3 =>
  (X5_held (v_1 + u_3) (0 : Int32) (99 : Int32)).bind fun u_5 =>
  (wr there x2 u_5).bind fun there_7 =>
  X5_bringsAll_L2 k kind good load x1 n (x2 + (1 : Int32)) there_7
def X5_bringsAll (there : List Int32) (kind : List Int32) (good : List Int32) (load : List Int32) (coughs : Int32) (p0 : Int32) : Option (List Int32 × Int32) :=
  X5_bringsAll_L2 (fun there_9 =>
  (rd kind p0).bind fun v_10 =>
  if v_10 = (3 : Int32) then
  (X5_held (coughs - (9 : Int32)) (0 : Int32) (99 : Int32)).bind fun u_12 =>
  some (there_9, u_12)
  else
  some (there_9, coughs)) kind good load p0 1000 (0 : Int32) there
set_option maxRecDepth 100000 in
set_option maxHeartbeats 4000000 in
theorem l_X5_bringsAll_L2 {l : Launch} {p : Program} {e : Env} {s : State} {m : MethodId} {args : Array Value} {below : List Frame} {meth : Method} {c : Code} {A : Nat → Prop} {G : Gx} {ad : Nat → Nat} {refused used hidden kind figure good load inn tape letter letterAt told kept row costs : List Int32} {ships coughs day away taped reading statements hasImage isKeeping cursor backs free goodFor loadedWhen bareGood bareWhen rowMany lots : Int32} {x1 : Int32} {k : List Int32 → Option (List Int32 × Int32)} {out : List Int32 × Int32} (C : Cx p s m args meth c cX5_bringsAll RX5 3 (none) G) : ∀ (n : Nat) (x2 : Int32) (there : List Int32), X5_bringsAll_L2 k kind good load x1 n x2 there = some out → ∀ (H : Heap) (locs : List Loc), St G A s.heap H locs (wM G ad refused there used hidden kind figure good load inn tape letter letterAt told kept row costs ships coughs day away taped reading statements hasImage isKeeping cursor backs free goodFor loadedWhen bareGood bareWhen rowMany lots) → ∀ ls : Array Slot, lv_has ls 3 [(0, .ref (ad 0)), (1, .int x1), (2, .int x2)] → (∀ (z_there : List Int32), k z_there = some out → ∀ (H : Heap) (locs : List Loc), St G A s.heap H locs (wM G ad refused z_there used hidden kind figure good load inn tape letter letterAt told kept row costs ships coughs day away taped reading statements hasImage isKeeping cursor backs free goodFor loadedWhen bareGood bareWhen rowMany lots) → ∀ ls : Array Slot, lv_has ls 3 [(0, .ref (ad 0)), (1, .int x1)] → W p l e (rmOf 2 44) s m args below meth c H locs 0 0 (MQ below (Qof G A (none) (wM G ad refused out.1 used hidden kind figure good load inn tape letter letterAt told kept row costs ships out.2 day away taped reading statements hasImage isKeeping cursor backs free goodFor loadedWhen bareGood bareWhen rowMany lots)) args s 0 0 A) (F0 m 39 ls [])) → W p l e (rmOf 2 44) s m args below meth c H locs 0 0 (MQ below (Qof G A (none) (wM G ad refused out.1 used hidden kind figure good load inn tape letter letterAt told kept row costs ships out.2 day away taped reading statements hasImage isKeeping cursor backs free goodFor loadedWhen bareGood bareWhen rowMany lots)) args s 0 0 A) (F0 m 2 ls []) := by
  obtain ⟨hx, hb, hml, hown, hts, hK, hret, hlk⟩ := id C
  intro n
  induction n with
  | zero => intro x2 there hf; cases hf
  | succ n ih =>
    intro x2 there hf H locs hs ls hl hk
    rw [X5_bringsAll_L2] at hf
    refine lv_iload_n hx hb (dk hX5_bringsAll_0 2 rfl) rfl (lv_at hl 2 rfl) ?_
    refine lv_bipush (v := (6 : Int32)) hx hb (dk hX5_bringsAll_0 3 rfl) (by decide) ?_
    refine lv_icmp_ge (tgt := 39) hx hb (dk hX5_bringsAll_0 4 rfl) (by decide) (fun hc => ?_) (fun hc => ?_)
    · replace hf := ip hf hc
      exact hk _ hf _ _ hs _ (lv_sub hl [0, 1] rfl)
    · replace hf := in_ hf hc
      refine lv_aload_n hx hb (dk hX5_bringsAll_0 5 rfl) rfl (lv_at hl 0 rfl) ?_
      refine rg ui5 rfl C hs 0 rfl 1 (by decide) tw_691 rfl rfl (dk hX5_bringsAll_0 6 rfl) ?_
      refine lv_iload_n hx hb (dk hX5_bringsAll_0 7 rfl) rfl (lv_at hl 2 rfl) ?_
      refine lv_aload_n hx hb (dk hX5_bringsAll_0 8 rfl) rfl (lv_at hl 0 rfl) ?_
      refine rg ui5 rfl C hs 0 rfl 1 (by decide) tw_691 rfl rfl (dk hX5_bringsAll_0 9 rfl) ?_
      refine lv_iload_n hx hb (dk hX5_bringsAll_0 10 rfl) rfl (lv_at hl 2 rfl) ?_
      obtain ⟨v_1, e_2, hf⟩ := Option.bind_eq_some_iff.mp hf
      refine rild C hs 2 rfl e_2 (dk hX5_bringsAll_0 11 rfl) ?_
      refine lv_aload_n hx hb (dk hX5_bringsAll_0 12 rfl) rfl (lv_at hl 0 rfl) ?_
      refine lv_iload_n hx hb (dk hX5_bringsAll_0 13 rfl) rfl (lv_at hl 1 rfl) ?_
      refine lv_iload_n hx hb (dk hX5_bringsAll_0 14 rfl) rfl (lv_at hl 2 rfl) ?_
      obtain ⟨u_3, e_4, hf⟩ := Option.bind_eq_some_iff.mp hf
      refine Ct.V (As := [.int x1, .int x2]) (rest := [.int v_1, .int x2, .ref (ad 2)]) (st1 := [.int u_3, .int v_1, .int x2, .ref (ad 2)]) (w1 := (wM G ad refused there used hidden kind figure good load inn tape letter letterAt told kept row costs ships coughs day away taped reading statements hasImage isKeeping cursor backs free goodFor loadedWhen bareGood bareWhen rowMany lots)) C hs (c_X5_brings e_4) tw_908 tw_910 tw_44 tw_85 tw_911 nq_X5_brings (by decide) 0 5 rfl rfl rfl rfl hl.1 rfl (Nat.le_of_ble_eq_true rfl) (dk hX5_bringsAll_0 15 rfl) ⟨Nat.zero_le _, Nat.zero_le _⟩ rfl (fun H locs hs => ?_)
      refine lv_iadd hx hb (dk hX5_bringsAll_0 16 rfl) ?_
      refine lv_iconst (v := (0 : Int32)) hx hb (dk hX5_bringsAll_0 17 rfl) (by decide) ?_
      refine lv_bipush (v := (99 : Int32)) hx hb (dk hX5_bringsAll_0 18 rfl) (by decide) ?_
      obtain ⟨u_5, e_6, hf⟩ := Option.bind_eq_some_iff.mp hf
      refine Ct.S (As := [.int (v_1 + u_3), .int (0 : Int32), .int (99 : Int32)]) (rest := [.int x2, .ref (ad 2)]) (st1 := [.int u_5, .int x2, .ref (ad 2)]) (w1 := (wM G ad refused there used hidden kind figure good load inn tape letter letterAt told kept row costs ships coughs day away taped reading statements hasImage isKeeping cursor backs free goodFor loadedWhen bareGood bareWhen rowMany lots)) C hs (c_X5_held e_6) tw_912 tw_913 tw_85 tw_914 nq_X5_held (by decide) rfl hl.1 rfl (Nat.le_of_ble_eq_true rfl) (dk hX5_bringsAll_0 19 rfl) ⟨Nat.zero_le _, Nat.zero_le _⟩ rfl (fun H locs hs => ?_)
      obtain ⟨there_7, e_8, hf⟩ := Option.bind_eq_some_iff.mp hf
      refine rist (w1 := (wM G ad refused there_7 used hidden kind figure good load inn tape letter letterAt told kept row costs ships coughs day away taped reading statements hasImage isKeeping cursor backs free goodFor loadedWhen bareGood bareWhen rowMany lots)) C hs 2 rfl e_8 rfl (dk hX5_bringsAll_0 20 rfl) (fun H locs hs => ?_)
      refine lv_iinc (v := (x2 + (1 : Int32))) (lv' := [(2, .int (x2 + (1 : Int32))), (0, .ref (ad 0)), (1, .int x1)]) hx hb (dk hX5_bringsAll_0 21 rfl) hl (k := 2) rfl (by first | rfl | decide) (by decide) rfl (fun ls hl => ?_)
      refine lv_goto (tgt := 2) hx hb (dk hX5_bringsAll_0 22 rfl) (by decide) ?_
      exact ih _ _ hf _ _ hs _ (lv_sub hl [1, 2, 0] rfl) hk
set_option maxRecDepth 100000 in
set_option maxHeartbeats 4000000 in
theorem c_X5_bringsAll {l : Launch} {G : Gx} {ad : Nat → Nat} {refused there used hidden kind figure good load inn tape letter letterAt told kept row costs : List Int32} {ships coughs day away taped reading statements hasImage isKeeping cursor backs free goodFor loadedWhen bareGood bareWhen rowMany lots : Int32} {p0 : Int32} {out : List Int32 × Int32} (hf : X5_bringsAll there kind good load coughs p0 = some out) : Ct l G yX5_bringsAll cX5_bringsAll 3 (none) 2 44 [.ref (ad 0), .int p0] (wM G ad refused there used hidden kind figure good load inn tape letter letterAt told kept row costs ships coughs day away taped reading statements hasImage isKeeping cursor backs free goodFor loadedWhen bareGood bareWhen rowMany lots) (none) (wM G ad refused out.1 used hidden kind figure good load inn tape letter letterAt told kept row costs ships out.2 day away taped reading statements hasImage isKeeping cursor backs free goodFor loadedWhen bareGood bareWhen rowMany lots) := by
  refine Ct.intro RX5 rfl (plainFor_of_name (by decide)) (Nat.le_of_ble_eq_true rfl) rfl ?_
  intro p e s m args below meth c A C H locs hs ls hl
  obtain ⟨hx, hb, hml, hown, hts, hK, hret, hlk⟩ := id C
  have hl : lv_has ls 3 [(0, .ref (ad 0)), (1, .int p0)] := hl
  unfold X5_bringsAll at hf
  refine lv_iconst (v := (0 : Int32)) hx hb (dk hX5_bringsAll_0 0 rfl) (by decide) ?_
  refine lv_istore_n (lv' := [(2, .int (0 : Int32)), (0, .ref (ad 0)), (1, .int p0)]) hx hb (dk hX5_bringsAll_0 1 rfl) rfl hl (by decide) rfl (fun ls hl => ?_)
  refine l_X5_bringsAll_L2 C 1000 _ _ hf _ _ hs _ (lv_sub hl [1, 2, 0] rfl) (fun there_9 hf H locs hs ls hl => ?_)
  refine lv_aload_n hx hb (dk hX5_bringsAll_0 23 rfl) rfl (lv_at hl 0 rfl) ?_
  refine rg ui5 rfl C hs 0 rfl 4 (by decide) tw_694 rfl rfl (dk hX5_bringsAll_0 24 rfl) ?_
  refine lv_iload_n hx hb (dk hX5_bringsAll_0 25 rfl) rfl (lv_at hl 1 rfl) ?_
  obtain ⟨v_10, e_11, hf⟩ := Option.bind_eq_some_iff.mp hf
  refine rild C hs 5 rfl e_11 (dk hX5_bringsAll_0 26 rfl) ?_
  refine lv_iconst (v := (3 : Int32)) hx hb (dk hX5_bringsAll_0 27 rfl) (by decide) ?_
  refine lv_icmp_ne (tgt := 66) hx hb (dk hX5_bringsAll_0 28 rfl) (by decide) (fun hc => ?_) (fun hc => ?_)
  · replace hf := in_ hf hc
    cases hf
    exact rv C hs (dk hX5_bringsAll_0 38 rfl)
  · replace hf := ip hf hc
    refine lv_aload_n hx hb (dk hX5_bringsAll_0 29 rfl) rfl (lv_at hl 0 rfl) ?_
    refine lv_aload_n hx hb (dk hX5_bringsAll_0 30 rfl) rfl (lv_at hl 0 rfl) ?_
    refine rg ui5 rfl C hs 0 rfl 10 (by decide) tw_700 rfl rfl (dk hX5_bringsAll_0 31 rfl) ?_
    refine lv_bipush (v := (9 : Int32)) hx hb (dk hX5_bringsAll_0 32 rfl) (by decide) ?_
    refine lv_isub hx hb (dk hX5_bringsAll_0 33 rfl) ?_
    refine lv_iconst (v := (0 : Int32)) hx hb (dk hX5_bringsAll_0 34 rfl) (by decide) ?_
    refine lv_bipush (v := (99 : Int32)) hx hb (dk hX5_bringsAll_0 35 rfl) (by decide) ?_
    obtain ⟨u_12, e_13, hf⟩ := Option.bind_eq_some_iff.mp hf
    refine Ct.S (As := [.int (coughs - (9 : Int32)), .int (0 : Int32), .int (99 : Int32)]) (rest := [.ref (ad 0)]) (st1 := [.int u_12, .ref (ad 0)]) (w1 := (wM G ad refused there_9 used hidden kind figure good load inn tape letter letterAt told kept row costs ships coughs day away taped reading statements hasImage isKeeping cursor backs free goodFor loadedWhen bareGood bareWhen rowMany lots)) C hs (c_X5_held e_13) tw_912 tw_913 tw_85 tw_914 nq_X5_held (by decide) rfl hl.1 rfl (Nat.le_of_ble_eq_true rfl) (dk hX5_bringsAll_0 36 rfl) ⟨Nat.zero_le _, Nat.zero_le _⟩ rfl (fun H locs hs => ?_)
    refine rp (w1 := (wM G ad refused there_9 used hidden kind figure good load inn tape letter letterAt told kept row costs ships u_12 day away taped reading statements hasImage isKeeping cursor backs free goodFor loadedWhen bareGood bareWhen rowMany lots)) tyX5 tyX5_ok nmX5 ui5 rfl C hs 0 rfl 10 (by decide) tw_700 rfl rfl rfl rfl (Nat.le_of_ble_eq_true rfl) rfl (dk hX5_bringsAll_0 37 rfl) (fun H locs hs => ?_)
    cases hf
    exact rv C hs (dk hX5_bringsAll_0 38 rfl)

def X5_goesDay_L2 (k : List Int32 → List Int32 → Int32 → Option (List Int32 × List Int32 × Int32 × Int32)) (used : List Int32) (hidden : List Int32) (kind : List Int32) (figure : List Int32) (good : List Int32) (load : List Int32) (ships : Int32) (day : Int32) (away : Int32) (free : Int32) (x1 : Int32) : Nat → Int32 → List Int32 → List Int32 → Int32 → Option (List Int32 × List Int32 × Int32 × Int32)
  | 0, _, _, _, _ => none
  | n + 1, x2, there, inn, coughs =>
  if ships ≤ x2 then
  k there inn coughs
  else
  if x1 = (0 : Int32) then
  (X5_canCome there used hidden kind figure good inn coughs day away free x2).bind fun u_1 =>
  if u_1 = (0 : Int32) then
  X5_goesDay_L2 k used hidden kind figure good load ships day away free x1 n (x2 + (1 : Int32)) there inn coughs
  else
  (wr inn x2 (1 : Int32)).bind fun inn_3 =>
  (X5_bringsAll there kind good load coughs x2).bind fun u_5 =>
  X5_goesDay_L2 k used hidden kind figure good load ships day away free x1 n (x2 + (1 : Int32)) u_5.1 inn_3 u_5.2
  else
  k there inn coughs
def X5_goesDay_L45 (k : List Int32 → Option (List Int32 × List Int32 × Int32 × Int32)) (used : List Int32) : Nat → Int32 → List Int32 → Option (List Int32 × List Int32 × Int32 × Int32)
  | 0, _, _ => none
  | n + 1, x2, there =>
  if (6 : Int32) ≤ x2 then
  k there
  else
  (rd there x2).bind fun v_10 =>
  (rd used x2).bind fun v_12 =>
  (X5_held (v_10 - v_12) (0 : Int32) (99 : Int32)).bind fun u_14 =>
  (wr there x2 u_14).bind fun there_16 =>
  X5_goesDay_L45 k used n (x2 + (1 : Int32)) there_16
def X5_goesDay (there : List Int32) (used : List Int32) (hidden : List Int32) (kind : List Int32) (figure : List Int32) (good : List Int32) (load : List Int32) (inn : List Int32) (ships : Int32) (coughs : Int32) (day : Int32) (away : Int32) (free : Int32) (p0 : Int32) : Option (List Int32 × List Int32 × Int32 × Int32) :=
  X5_goesDay_L2 (fun there_7 inn_8 coughs_9 =>
  X5_goesDay_L45 (fun there_18 =>
  (X5_lack there_18 used free (0 : Int32)).bind fun u_19 =>
  if u_19 ≤ (0 : Int32) then
  some (there_18, inn_8, coughs_9, (day + (1 : Int32)))
  else
  (X5_held (coughs_9 + (1 : Int32)) (0 : Int32) (99 : Int32)).bind fun u_21 =>
  some (there_18, inn_8, u_21, (day + (1 : Int32)))) used 1000 (0 : Int32) there_7) used hidden kind figure good load ships day away free p0 1000 (0 : Int32) there inn coughs
set_option maxRecDepth 100000 in
set_option maxHeartbeats 4000000 in
theorem l_X5_goesDay_L2 {l : Launch} {p : Program} {e : Env} {s : State} {m : MethodId} {args : Array Value} {below : List Frame} {meth : Method} {c : Code} {A : Nat → Prop} {G : Gx} {ad : Nat → Nat} {refused used hidden kind figure good load tape letter letterAt told kept row costs : List Int32} {ships day away taped reading statements hasImage isKeeping cursor backs free goodFor loadedWhen bareGood bareWhen rowMany lots : Int32} {x1 : Int32} {k : List Int32 → List Int32 → Int32 → Option (List Int32 × List Int32 × Int32 × Int32)} {out : List Int32 × List Int32 × Int32 × Int32} (C : Cx p s m args meth c cX5_goesDay RX5 3 (none) G) : ∀ (n : Nat) (x2 : Int32) (there : List Int32) (inn : List Int32) (coughs : Int32), X5_goesDay_L2 k used hidden kind figure good load ships day away free x1 n x2 there inn coughs = some out → ∀ (H : Heap) (locs : List Loc), St G A s.heap H locs (wM G ad refused there used hidden kind figure good load inn tape letter letterAt told kept row costs ships coughs day away taped reading statements hasImage isKeeping cursor backs free goodFor loadedWhen bareGood bareWhen rowMany lots) → ∀ ls : Array Slot, lv_has ls 3 [(0, .ref (ad 0)), (1, .int x1), (2, .int x2)] → (∀ (z_there : List Int32) (z_inn : List Int32) (z_coughs : Int32), k z_there z_inn z_coughs = some out → ∀ (H : Heap) (locs : List Loc), St G A s.heap H locs (wM G ad refused z_there used hidden kind figure good load z_inn tape letter letterAt told kept row costs ships z_coughs day away taped reading statements hasImage isKeeping cursor backs free goodFor loadedWhen bareGood bareWhen rowMany lots) → ∀ ls : Array Slot, lv_has ls 3 [(0, .ref (ad 0))] → W p l e (rmOf 5 107) s m args below meth c H locs 0 0 (MQ below (Qof G A (none) (wM G ad refused out.1 used hidden kind figure good load out.2.1 tape letter letterAt told kept row costs ships out.2.2.1 out.2.2.2 away taped reading statements hasImage isKeeping cursor backs free goodFor loadedWhen bareGood bareWhen rowMany lots)) args s 0 0 A) (F0 m 43 ls [])) → W p l e (rmOf 5 107) s m args below meth c H locs 0 0 (MQ below (Qof G A (none) (wM G ad refused out.1 used hidden kind figure good load out.2.1 tape letter letterAt told kept row costs ships out.2.2.1 out.2.2.2 away taped reading statements hasImage isKeeping cursor backs free goodFor loadedWhen bareGood bareWhen rowMany lots)) args s 0 0 A) (F0 m 2 ls []) := by
  obtain ⟨hx, hb, hml, hown, hts, hK, hret, hlk⟩ := id C
  intro n
  induction n with
  | zero => intro x2 there inn coughs hf; cases hf
  | succ n ih =>
    intro x2 there inn coughs hf H locs hs ls hl hk
    rw [X5_goesDay_L2] at hf
    refine lv_iload_n hx hb (dk hX5_goesDay_0 2 rfl) rfl (lv_at hl 2 rfl) ?_
    refine lv_aload_n hx hb (dk hX5_goesDay_0 3 rfl) rfl (lv_at hl 0 rfl) ?_
    refine rg ui5 rfl C hs 0 rfl 9 (by decide) tw_699 rfl rfl (dk hX5_goesDay_0 4 rfl) ?_
    refine lv_icmp_ge (tgt := 43) hx hb (dk hX5_goesDay_0 5 rfl) (by decide) (fun hc => ?_) (fun hc => ?_)
    · replace hf := ip hf hc
      exact hk _ _ _ hf _ _ hs _ (lv_sub hl [0] rfl)
    · replace hf := in_ hf hc
      refine lv_iload_n hx hb (dk hX5_goesDay_0 6 rfl) rfl (lv_at hl 1 rfl) ?_
      refine lv_if_ne (tgt := 43) hx hb (dk hX5_goesDay_0 7 rfl) (by decide) (fun hc => ?_) (fun hc => ?_)
      · replace hf := in_ hf hc
        exact hk _ _ _ hf _ _ hs _ (lv_sub hl [0] rfl)
      · replace hf := ip hf hc
        refine lv_aload_n hx hb (dk hX5_goesDay_0 8 rfl) rfl (lv_at hl 0 rfl) ?_
        refine lv_iload_n hx hb (dk hX5_goesDay_0 9 rfl) rfl (lv_at hl 2 rfl) ?_
        obtain ⟨u_1, e_2, hf⟩ := Option.bind_eq_some_iff.mp hf
        refine Ct.V (As := [.int x2]) (rest := []) (st1 := [.int u_1]) (w1 := (wM G ad refused there used hidden kind figure good load inn tape letter letterAt told kept row costs ships coughs day away taped reading statements hasImage isKeeping cursor backs free goodFor loadedWhen bareGood bareWhen rowMany lots)) C hs (c_X5_canCome e_2) tw_870 tw_872 tw_36 tw_85 tw_873 nq_X5_canCome (by decide) 0 5 rfl rfl rfl rfl hl.1 rfl (Nat.le_of_ble_eq_true rfl) (dk hX5_goesDay_0 10 rfl) ⟨Nat.zero_le _, Nat.zero_le _⟩ rfl (fun H locs hs => ?_)
        refine lv_if_ne (tgt := 25) hx hb (dk hX5_goesDay_0 11 rfl) (by decide) (fun hc => ?_) (fun hc => ?_)
        · replace hf := in_ hf hc
          refine lv_aload_n hx hb (dk hX5_goesDay_0 13 rfl) rfl (lv_at hl 0 rfl) ?_
          refine rg ui5 rfl C hs 0 rfl 8 (by decide) tw_698 rfl rfl (dk hX5_goesDay_0 14 rfl) ?_
          refine lv_iload_n hx hb (dk hX5_goesDay_0 15 rfl) rfl (lv_at hl 2 rfl) ?_
          refine lv_iconst (v := (1 : Int32)) hx hb (dk hX5_goesDay_0 16 rfl) (by decide) ?_
          obtain ⟨inn_3, e_4, hf⟩ := Option.bind_eq_some_iff.mp hf
          refine rist (w1 := (wM G ad refused there used hidden kind figure good load inn_3 tape letter letterAt told kept row costs ships coughs day away taped reading statements hasImage isKeeping cursor backs free goodFor loadedWhen bareGood bareWhen rowMany lots)) C hs 9 rfl e_4 rfl (dk hX5_goesDay_0 17 rfl) (fun H locs hs => ?_)
          refine lv_aload_n hx hb (dk hX5_goesDay_0 18 rfl) rfl (lv_at hl 0 rfl) ?_
          refine lv_iload_n hx hb (dk hX5_goesDay_0 19 rfl) rfl (lv_at hl 2 rfl) ?_
          obtain ⟨u_5, e_6, hf⟩ := Option.bind_eq_some_iff.mp hf
          refine Ct.V (As := [.int x2]) (rest := []) (st1 := []) (w1 := (wM G ad refused u_5.1 used hidden kind figure good load inn_3 tape letter letterAt told kept row costs ships u_5.2 day away taped reading statements hasImage isKeeping cursor backs free goodFor loadedWhen bareGood bareWhen rowMany lots)) C hs (c_X5_bringsAll e_6) tw_904 tw_906 tw_43 tw_85 tw_907 nq_X5_bringsAll (by decide) 0 5 rfl rfl rfl rfl hl.1 rfl (Nat.le_of_ble_eq_true rfl) (dk hX5_goesDay_0 20 rfl) ⟨Nat.zero_le _, Nat.zero_le _⟩ rfl (fun H locs hs => ?_)
          refine lv_iinc (v := (x2 + (1 : Int32))) (lv' := [(2, .int (x2 + (1 : Int32))), (0, .ref (ad 0)), (1, .int x1)]) hx hb (dk hX5_goesDay_0 21 rfl) hl (k := 2) rfl (by first | rfl | decide) (by decide) rfl (fun ls hl => ?_)
          refine lv_goto (tgt := 2) hx hb (dk hX5_goesDay_0 22 rfl) (by decide) ?_
          exact ih _ _ _ _ hf _ _ hs _ (lv_sub hl [1, 2, 0] rfl) hk
        · replace hf := ip hf hc
          refine lv_goto (tgt := 37) hx hb (dk hX5_goesDay_0 12 rfl) (by decide) ?_
          refine lv_iinc (v := (x2 + (1 : Int32))) (lv' := [(2, .int (x2 + (1 : Int32))), (0, .ref (ad 0)), (1, .int x1)]) hx hb (dk hX5_goesDay_0 21 rfl) hl (k := 2) rfl (by first | rfl | decide) (by decide) rfl (fun ls hl => ?_)
          refine lv_goto (tgt := 2) hx hb (dk hX5_goesDay_0 22 rfl) (by decide) ?_
          exact ih _ _ _ _ hf _ _ hs _ (lv_sub hl [1, 2, 0] rfl) hk
set_option maxRecDepth 100000 in
set_option maxHeartbeats 4000000 in
theorem l_X5_goesDay_L45 {l : Launch} {p : Program} {e : Env} {s : State} {m : MethodId} {args : Array Value} {below : List Frame} {meth : Method} {c : Code} {A : Nat → Prop} {G : Gx} {ad : Nat → Nat} {refused used hidden kind figure good load inn tape letter letterAt told kept row costs : List Int32} {ships coughs day away taped reading statements hasImage isKeeping cursor backs free goodFor loadedWhen bareGood bareWhen rowMany lots : Int32} {k : List Int32 → Option (List Int32 × List Int32 × Int32 × Int32)} {out : List Int32 × List Int32 × Int32 × Int32} (C : Cx p s m args meth c cX5_goesDay RX5 3 (none) G) : ∀ (n : Nat) (x2 : Int32) (there : List Int32), X5_goesDay_L45 k used n x2 there = some out → ∀ (H : Heap) (locs : List Loc), St G A s.heap H locs (wM G ad refused there used hidden kind figure good load inn tape letter letterAt told kept row costs ships coughs day away taped reading statements hasImage isKeeping cursor backs free goodFor loadedWhen bareGood bareWhen rowMany lots) → ∀ ls : Array Slot, lv_has ls 3 [(0, .ref (ad 0)), (2, .int x2)] → (∀ (z_there : List Int32), k z_there = some out → ∀ (H : Heap) (locs : List Loc), St G A s.heap H locs (wM G ad refused z_there used hidden kind figure good load inn tape letter letterAt told kept row costs ships coughs day away taped reading statements hasImage isKeeping cursor backs free goodFor loadedWhen bareGood bareWhen rowMany lots) → ∀ ls : Array Slot, lv_has ls 3 [(0, .ref (ad 0))] → W p l e (rmOf 5 107) s m args below meth c H locs 0 0 (MQ below (Qof G A (none) (wM G ad refused out.1 used hidden kind figure good load out.2.1 tape letter letterAt told kept row costs ships out.2.2.1 out.2.2.2 away taped reading statements hasImage isKeeping cursor backs free goodFor loadedWhen bareGood bareWhen rowMany lots)) args s 0 0 A) (F0 m 82 ls [])) → W p l e (rmOf 5 107) s m args below meth c H locs 0 0 (MQ below (Qof G A (none) (wM G ad refused out.1 used hidden kind figure good load out.2.1 tape letter letterAt told kept row costs ships out.2.2.1 out.2.2.2 away taped reading statements hasImage isKeeping cursor backs free goodFor loadedWhen bareGood bareWhen rowMany lots)) args s 0 0 A) (F0 m 45 ls []) := by
  obtain ⟨hx, hb, hml, hown, hts, hK, hret, hlk⟩ := id C
  intro n
  induction n with
  | zero => intro x2 there hf; cases hf
  | succ n ih =>
    intro x2 there hf H locs hs ls hl hk
    rw [X5_goesDay_L45] at hf
    refine lv_iload_n hx hb (dk hX5_goesDay_0 25 rfl) rfl (lv_at hl 1 rfl) ?_
    refine lv_bipush (v := (6 : Int32)) hx hb (dk hX5_goesDay_0 26 rfl) (by decide) ?_
    refine lv_icmp_ge (tgt := 82) hx hb (dk hX5_goesDay_0 27 rfl) (by decide) (fun hc => ?_) (fun hc => ?_)
    · replace hf := ip hf hc
      exact hk _ hf _ _ hs _ (lv_sub hl [0] rfl)
    · replace hf := in_ hf hc
      refine lv_aload_n hx hb (dk hX5_goesDay_0 28 rfl) rfl (lv_at hl 0 rfl) ?_
      refine rg ui5 rfl C hs 0 rfl 1 (by decide) tw_691 rfl rfl (dk hX5_goesDay_0 29 rfl) ?_
      refine lv_iload_n hx hb (dk hX5_goesDay_0 30 rfl) rfl (lv_at hl 1 rfl) ?_
      refine lv_aload_n hx hb (dk hX5_goesDay_0 31 rfl) rfl (lv_at hl 0 rfl) ?_
      refine rg ui5 rfl C hs 0 rfl 1 (by decide) tw_691 rfl rfl (dk hX5_goesDay_0 32 rfl) ?_
      refine lv_iload_n hx hb (dk hX5_goesDay_0 33 rfl) rfl (lv_at hl 1 rfl) ?_
      obtain ⟨v_10, e_11, hf⟩ := Option.bind_eq_some_iff.mp hf
      refine rild C hs 2 rfl e_11 (dk hX5_goesDay_0 34 rfl) ?_
      refine lv_aload_n hx hb (dk hX5_goesDay_0 35 rfl) rfl (lv_at hl 0 rfl) ?_
      refine rg ui5 rfl C hs 0 rfl 2 (by decide) tw_692 rfl rfl (dk hX5_goesDay_0 36 rfl) ?_
      refine lv_iload_n hx hb (dk hX5_goesDay_0 37 rfl) rfl (lv_at hl 1 rfl) ?_
      obtain ⟨v_12, e_13, hf⟩ := Option.bind_eq_some_iff.mp hf
      refine rild C hs 3 rfl e_13 (dk hX5_goesDay_0 38 rfl) ?_
      refine lv_isub hx hb (dk hX5_goesDay_0 39 rfl) ?_
      refine lv_iconst (v := (0 : Int32)) hx hb (dk hX5_goesDay_1 0 rfl) (by decide) ?_
      refine lv_bipush (v := (99 : Int32)) hx hb (dk hX5_goesDay_1 1 rfl) (by decide) ?_
      obtain ⟨u_14, e_15, hf⟩ := Option.bind_eq_some_iff.mp hf
      refine Ct.S (As := [.int (v_10 - v_12), .int (0 : Int32), .int (99 : Int32)]) (rest := [.int x2, .ref (ad 2)]) (st1 := [.int u_14, .int x2, .ref (ad 2)]) (w1 := (wM G ad refused there used hidden kind figure good load inn tape letter letterAt told kept row costs ships coughs day away taped reading statements hasImage isKeeping cursor backs free goodFor loadedWhen bareGood bareWhen rowMany lots)) C hs (c_X5_held e_15) tw_912 tw_913 tw_85 tw_914 nq_X5_held (by decide) rfl hl.1 rfl (Nat.le_of_ble_eq_true rfl) (dk hX5_goesDay_1 2 rfl) ⟨Nat.zero_le _, Nat.zero_le _⟩ rfl (fun H locs hs => ?_)
      obtain ⟨there_16, e_17, hf⟩ := Option.bind_eq_some_iff.mp hf
      refine rist (w1 := (wM G ad refused there_16 used hidden kind figure good load inn tape letter letterAt told kept row costs ships coughs day away taped reading statements hasImage isKeeping cursor backs free goodFor loadedWhen bareGood bareWhen rowMany lots)) C hs 2 rfl e_17 rfl (dk hX5_goesDay_1 3 rfl) (fun H locs hs => ?_)
      refine lv_iinc (v := (x2 + (1 : Int32))) (lv' := [(2, .int (x2 + (1 : Int32))), (0, .ref (ad 0))]) hx hb (dk hX5_goesDay_1 4 rfl) hl (k := 1) rfl (by first | rfl | decide) (by decide) rfl (fun ls hl => ?_)
      refine lv_goto (tgt := 45) hx hb (dk hX5_goesDay_1 5 rfl) (by decide) ?_
      exact ih _ _ hf _ _ hs _ (lv_sub hl [1, 0] rfl) hk
set_option maxRecDepth 100000 in
set_option maxHeartbeats 4000000 in
theorem c_X5_goesDay {l : Launch} {G : Gx} {ad : Nat → Nat} {refused there used hidden kind figure good load inn tape letter letterAt told kept row costs : List Int32} {ships coughs day away taped reading statements hasImage isKeeping cursor backs free goodFor loadedWhen bareGood bareWhen rowMany lots : Int32} {p0 : Int32} {out : List Int32 × List Int32 × Int32 × Int32} (hf : X5_goesDay there used hidden kind figure good load inn ships coughs day away free p0 = some out) : Ct l G yX5_goesDay cX5_goesDay 3 (none) 5 107 [.ref (ad 0), .int p0] (wM G ad refused there used hidden kind figure good load inn tape letter letterAt told kept row costs ships coughs day away taped reading statements hasImage isKeeping cursor backs free goodFor loadedWhen bareGood bareWhen rowMany lots) (none) (wM G ad refused out.1 used hidden kind figure good load out.2.1 tape letter letterAt told kept row costs ships out.2.2.1 out.2.2.2 away taped reading statements hasImage isKeeping cursor backs free goodFor loadedWhen bareGood bareWhen rowMany lots) := by
  refine Ct.intro RX5 rfl (plainFor_of_name (by decide)) (Nat.le_of_ble_eq_true rfl) rfl ?_
  intro p e s m args below meth c A C H locs hs ls hl
  obtain ⟨hx, hb, hml, hown, hts, hK, hret, hlk⟩ := id C
  have hl : lv_has ls 3 [(0, .ref (ad 0)), (1, .int p0)] := hl
  unfold X5_goesDay at hf
  refine lv_iconst (v := (0 : Int32)) hx hb (dk hX5_goesDay_0 0 rfl) (by decide) ?_
  refine lv_istore_n (lv' := [(2, .int (0 : Int32)), (0, .ref (ad 0)), (1, .int p0)]) hx hb (dk hX5_goesDay_0 1 rfl) rfl hl (by decide) rfl (fun ls hl => ?_)
  refine l_X5_goesDay_L2 C 1000 _ _ _ _ hf _ _ hs _ (lv_sub hl [1, 2, 0] rfl) (fun there_7 inn_8 coughs_9 hf H locs hs ls hl => ?_)
  refine lv_iconst (v := (0 : Int32)) hx hb (dk hX5_goesDay_0 23 rfl) (by decide) ?_
  refine lv_istore_n (lv' := [(2, .int (0 : Int32)), (0, .ref (ad 0))]) hx hb (dk hX5_goesDay_0 24 rfl) rfl hl (by decide) rfl (fun ls hl => ?_)
  refine l_X5_goesDay_L45 C 1000 _ _ hf _ _ hs _ (lv_sub hl [1, 0] rfl) (fun there_18 hf H locs hs ls hl => ?_)
  refine lv_aload_n hx hb (dk hX5_goesDay_1 6 rfl) rfl (lv_at hl 0 rfl) ?_
  refine lv_iconst (v := (0 : Int32)) hx hb (dk hX5_goesDay_1 7 rfl) (by decide) ?_
  obtain ⟨u_19, e_20, hf⟩ := Option.bind_eq_some_iff.mp hf
  refine Ct.V (As := [.int (0 : Int32)]) (rest := []) (st1 := [.int u_19]) (w1 := (wM G ad refused there_18 used hidden kind figure good load inn_8 tape letter letterAt told kept row costs ships coughs_9 day away taped reading statements hasImage isKeeping cursor backs free goodFor loadedWhen bareGood bareWhen rowMany lots)) C hs (c_X5_lack e_20) tw_888 tw_890 tw_39 tw_85 tw_891 nq_X5_lack (by decide) 0 5 rfl rfl rfl rfl hl.1 rfl (Nat.le_of_ble_eq_true rfl) (dk hX5_goesDay_1 8 rfl) ⟨Nat.zero_le _, Nat.zero_le _⟩ rfl (fun H locs hs => ?_)
  refine lv_if_le (tgt := 106) hx hb (dk hX5_goesDay_1 9 rfl) (by decide) (fun hc => ?_) (fun hc => ?_)
  · replace hf := ip hf hc
    refine lv_aload_n hx hb (dk hX5_goesDay_1 19 rfl) rfl (lv_at hl 0 rfl) ?_
    refine lv_dup hx hb (dk hX5_goesDay_1 20 rfl) rfl ?_
    refine rg ui5 rfl C hs 0 rfl 11 (by decide) tw_701 rfl rfl (dk hX5_goesDay_1 21 rfl) ?_
    refine lv_iconst (v := (1 : Int32)) hx hb (dk hX5_goesDay_1 22 rfl) (by decide) ?_
    refine lv_iadd hx hb (dk hX5_goesDay_1 23 rfl) ?_
    refine rp (w1 := (wM G ad refused there_18 used hidden kind figure good load inn_8 tape letter letterAt told kept row costs ships coughs_9 (day + (1 : Int32)) away taped reading statements hasImage isKeeping cursor backs free goodFor loadedWhen bareGood bareWhen rowMany lots)) tyX5 tyX5_ok nmX5 ui5 rfl C hs 0 rfl 11 (by decide) tw_701 rfl rfl rfl rfl (Nat.le_of_ble_eq_true rfl) rfl (dk hX5_goesDay_1 24 rfl) (fun H locs hs => ?_)
    cases hf
    exact rv C hs (dk hX5_goesDay_1 25 rfl)
  · replace hf := in_ hf hc
    refine lv_aload_n hx hb (dk hX5_goesDay_1 10 rfl) rfl (lv_at hl 0 rfl) ?_
    refine lv_aload_n hx hb (dk hX5_goesDay_1 11 rfl) rfl (lv_at hl 0 rfl) ?_
    refine rg ui5 rfl C hs 0 rfl 10 (by decide) tw_700 rfl rfl (dk hX5_goesDay_1 12 rfl) ?_
    refine lv_iconst (v := (1 : Int32)) hx hb (dk hX5_goesDay_1 13 rfl) (by decide) ?_
    refine lv_iadd hx hb (dk hX5_goesDay_1 14 rfl) ?_
    refine lv_iconst (v := (0 : Int32)) hx hb (dk hX5_goesDay_1 15 rfl) (by decide) ?_
    refine lv_bipush (v := (99 : Int32)) hx hb (dk hX5_goesDay_1 16 rfl) (by decide) ?_
    obtain ⟨u_21, e_22, hf⟩ := Option.bind_eq_some_iff.mp hf
    refine Ct.S (As := [.int (coughs_9 + (1 : Int32)), .int (0 : Int32), .int (99 : Int32)]) (rest := [.ref (ad 0)]) (st1 := [.int u_21, .ref (ad 0)]) (w1 := (wM G ad refused there_18 used hidden kind figure good load inn_8 tape letter letterAt told kept row costs ships coughs_9 day away taped reading statements hasImage isKeeping cursor backs free goodFor loadedWhen bareGood bareWhen rowMany lots)) C hs (c_X5_held e_22) tw_912 tw_913 tw_85 tw_914 nq_X5_held (by decide) rfl hl.1 rfl (Nat.le_of_ble_eq_true rfl) (dk hX5_goesDay_1 17 rfl) ⟨Nat.zero_le _, Nat.zero_le _⟩ rfl (fun H locs hs => ?_)
    refine rp (w1 := (wM G ad refused there_18 used hidden kind figure good load inn_8 tape letter letterAt told kept row costs ships u_21 day away taped reading statements hasImage isKeeping cursor backs free goodFor loadedWhen bareGood bareWhen rowMany lots)) tyX5 tyX5_ok nmX5 ui5 rfl C hs 0 rfl 10 (by decide) tw_700 rfl rfl rfl rfl (Nat.le_of_ble_eq_true rfl) rfl (dk hX5_goesDay_1 18 rfl) (fun H locs hs => ?_)
    refine lv_aload_n hx hb (dk hX5_goesDay_1 19 rfl) rfl (lv_at hl 0 rfl) ?_
    refine lv_dup hx hb (dk hX5_goesDay_1 20 rfl) rfl ?_
    refine rg ui5 rfl C hs 0 rfl 11 (by decide) tw_701 rfl rfl (dk hX5_goesDay_1 21 rfl) ?_
    refine lv_iconst (v := (1 : Int32)) hx hb (dk hX5_goesDay_1 22 rfl) (by decide) ?_
    refine lv_iadd hx hb (dk hX5_goesDay_1 23 rfl) ?_
    refine rp (w1 := (wM G ad refused there_18 used hidden kind figure good load inn_8 tape letter letterAt told kept row costs ships u_21 (day + (1 : Int32)) away taped reading statements hasImage isKeeping cursor backs free goodFor loadedWhen bareGood bareWhen rowMany lots)) tyX5 tyX5_ok nmX5 ui5 rfl C hs 0 rfl 11 (by decide) tw_701 rfl rfl rfl rfl (Nat.le_of_ble_eq_true rfl) rfl (dk hX5_goesDay_1 24 rfl) (fun H locs hs => ?_)
    cases hf
    exact rv C hs (dk hX5_goesDay_1 25 rfl)

def X5_goes_L2 (k : List Int32 → List Int32 → Int32 → Int32 → Option (List Int32 × List Int32 × Int32 × Int32)) (used : List Int32) (hidden : List Int32) (kind : List Int32) (figure : List Int32) (good : List Int32) (load : List Int32) (ships : Int32) (away : Int32) (free : Int32) (x1 : Int32) : Nat → Int32 → List Int32 → List Int32 → Int32 → Int32 → Option (List Int32 × List Int32 × Int32 × Int32)
  | 0, _, _, _, _, _ => none
  | n + 1, x2, there, inn, coughs, day =>
  if x1 ≤ x2 then
  k there inn coughs day
  else
  (X5_goesDay there used hidden kind figure good load inn ships coughs day away free (0 : Int32)).bind fun u_1 =>
  X5_goes_L2 k used hidden kind figure good load ships away free x1 n (x2 + (1 : Int32)) u_1.1 u_1.2.1 u_1.2.2.1 u_1.2.2.2
def X5_goes (there : List Int32) (used : List Int32) (hidden : List Int32) (kind : List Int32) (figure : List Int32) (good : List Int32) (load : List Int32) (inn : List Int32) (ships : Int32) (coughs : Int32) (day : Int32) (away : Int32) (free : Int32) (p0 : Int32) : Option (List Int32 × List Int32 × Int32 × Int32) :=
  X5_goes_L2 (fun there_3 inn_4 coughs_5 day_6 =>
  some (there_3, inn_4, coughs_5, day_6)) used hidden kind figure good load ships away free p0 1000 (0 : Int32) there inn coughs day
set_option maxRecDepth 100000 in
set_option maxHeartbeats 4000000 in
theorem l_X5_goes_L2 {l : Launch} {p : Program} {e : Env} {s : State} {m : MethodId} {args : Array Value} {below : List Frame} {meth : Method} {c : Code} {A : Nat → Prop} {G : Gx} {ad : Nat → Nat} {refused used hidden kind figure good load tape letter letterAt told kept row costs : List Int32} {ships away taped reading statements hasImage isKeeping cursor backs free goodFor loadedWhen bareGood bareWhen rowMany lots : Int32} {x1 : Int32} {k : List Int32 → List Int32 → Int32 → Int32 → Option (List Int32 × List Int32 × Int32 × Int32)} {out : List Int32 × List Int32 × Int32 × Int32} (C : Cx p s m args meth c cX5_goes RX5 3 (none) G) : ∀ (n : Nat) (x2 : Int32) (there : List Int32) (inn : List Int32) (coughs : Int32) (day : Int32), X5_goes_L2 k used hidden kind figure good load ships away free x1 n x2 there inn coughs day = some out → ∀ (H : Heap) (locs : List Loc), St G A s.heap H locs (wM G ad refused there used hidden kind figure good load inn tape letter letterAt told kept row costs ships coughs day away taped reading statements hasImage isKeeping cursor backs free goodFor loadedWhen bareGood bareWhen rowMany lots) → ∀ ls : Array Slot, lv_has ls 3 [(0, .ref (ad 0)), (1, .int x1), (2, .int x2)] → (∀ (z_there : List Int32) (z_inn : List Int32) (z_coughs : Int32) (z_day : Int32), k z_there z_inn z_coughs z_day = some out → ∀ (H : Heap) (locs : List Loc), St G A s.heap H locs (wM G ad refused z_there used hidden kind figure good load z_inn tape letter letterAt told kept row costs ships z_coughs z_day away taped reading statements hasImage isKeeping cursor backs free goodFor loadedWhen bareGood bareWhen rowMany lots) → ∀ ls : Array Slot, lv_has ls 3 [] → W p l e (rmOf 6 129) s m args below meth c H locs 0 0 (MQ below (Qof G A (none) (wM G ad refused out.1 used hidden kind figure good load out.2.1 tape letter letterAt told kept row costs ships out.2.2.1 out.2.2.2 away taped reading statements hasImage isKeeping cursor backs free goodFor loadedWhen bareGood bareWhen rowMany lots)) args s 0 0 A) (F0 m 18 ls [])) → W p l e (rmOf 6 129) s m args below meth c H locs 0 0 (MQ below (Qof G A (none) (wM G ad refused out.1 used hidden kind figure good load out.2.1 tape letter letterAt told kept row costs ships out.2.2.1 out.2.2.2 away taped reading statements hasImage isKeeping cursor backs free goodFor loadedWhen bareGood bareWhen rowMany lots)) args s 0 0 A) (F0 m 2 ls []) := by
  obtain ⟨hx, hb, hml, hown, hts, hK, hret, hlk⟩ := id C
  intro n
  induction n with
  | zero => intro x2 there inn coughs day hf; cases hf
  | succ n ih =>
    intro x2 there inn coughs day hf H locs hs ls hl hk
    rw [X5_goes_L2] at hf
    refine lv_iload_n hx hb (dk hX5_goes_0 2 rfl) rfl (lv_at hl 2 rfl) ?_
    refine lv_iload_n hx hb (dk hX5_goes_0 3 rfl) rfl (lv_at hl 1 rfl) ?_
    refine lv_icmp_ge (tgt := 18) hx hb (dk hX5_goes_0 4 rfl) (by decide) (fun hc => ?_) (fun hc => ?_)
    · replace hf := ip hf hc
      exact hk _ _ _ _ hf _ _ hs _ (lv_sub hl [] rfl)
    · replace hf := in_ hf hc
      refine lv_aload_n hx hb (dk hX5_goes_0 5 rfl) rfl (lv_at hl 0 rfl) ?_
      refine lv_iconst (v := (0 : Int32)) hx hb (dk hX5_goes_0 6 rfl) (by decide) ?_
      obtain ⟨u_1, e_2, hf⟩ := Option.bind_eq_some_iff.mp hf
      refine Ct.V (As := [.int (0 : Int32)]) (rest := []) (st1 := []) (w1 := (wM G ad refused u_1.1 used hidden kind figure good load u_1.2.1 tape letter letterAt told kept row costs ships u_1.2.2.1 u_1.2.2.2 away taped reading statements hasImage isKeeping cursor backs free goodFor loadedWhen bareGood bareWhen rowMany lots)) C hs (c_X5_goesDay e_2) tw_866 tw_868 tw_35 tw_85 tw_869 nq_X5_goesDay (by decide) 0 5 rfl rfl rfl rfl hl.1 rfl (Nat.le_of_ble_eq_true rfl) (dk hX5_goes_0 7 rfl) ⟨Nat.zero_le _, Nat.zero_le _⟩ rfl (fun H locs hs => ?_)
      refine lv_iinc (v := (x2 + (1 : Int32))) (lv' := [(2, .int (x2 + (1 : Int32))), (0, .ref (ad 0)), (1, .int x1)]) hx hb (dk hX5_goes_0 8 rfl) hl (k := 2) rfl (by first | rfl | decide) (by decide) rfl (fun ls hl => ?_)
      refine lv_goto (tgt := 2) hx hb (dk hX5_goes_0 9 rfl) (by decide) ?_
      exact ih _ _ _ _ _ hf _ _ hs _ (lv_sub hl [1, 2, 0] rfl) hk
set_option maxRecDepth 100000 in
set_option maxHeartbeats 4000000 in
theorem c_X5_goes {l : Launch} {G : Gx} {ad : Nat → Nat} {refused there used hidden kind figure good load inn tape letter letterAt told kept row costs : List Int32} {ships coughs day away taped reading statements hasImage isKeeping cursor backs free goodFor loadedWhen bareGood bareWhen rowMany lots : Int32} {p0 : Int32} {out : List Int32 × List Int32 × Int32 × Int32} (hf : X5_goes there used hidden kind figure good load inn ships coughs day away free p0 = some out) : Ct l G yX5_goes cX5_goes 3 (none) 6 129 [.ref (ad 0), .int p0] (wM G ad refused there used hidden kind figure good load inn tape letter letterAt told kept row costs ships coughs day away taped reading statements hasImage isKeeping cursor backs free goodFor loadedWhen bareGood bareWhen rowMany lots) (none) (wM G ad refused out.1 used hidden kind figure good load out.2.1 tape letter letterAt told kept row costs ships out.2.2.1 out.2.2.2 away taped reading statements hasImage isKeeping cursor backs free goodFor loadedWhen bareGood bareWhen rowMany lots) := by
  refine Ct.intro RX5 rfl (plainFor_of_name (by decide)) (Nat.le_of_ble_eq_true rfl) rfl ?_
  intro p e s m args below meth c A C H locs hs ls hl
  obtain ⟨hx, hb, hml, hown, hts, hK, hret, hlk⟩ := id C
  have hl : lv_has ls 3 [(0, .ref (ad 0)), (1, .int p0)] := hl
  unfold X5_goes at hf
  refine lv_iconst (v := (0 : Int32)) hx hb (dk hX5_goes_0 0 rfl) (by decide) ?_
  refine lv_istore_n (lv' := [(2, .int (0 : Int32)), (0, .ref (ad 0)), (1, .int p0)]) hx hb (dk hX5_goes_0 1 rfl) rfl hl (by decide) rfl (fun ls hl => ?_)
  refine l_X5_goes_L2 C 1000 _ _ _ _ _ hf _ _ hs _ (lv_sub hl [1, 2, 0] rfl) (fun there_3 inn_4 coughs_5 day_6 hf H locs hs ls hl => ?_)
  cases hf
  exact rv C hs (dk hX5_goes_0 10 rfl)

def X5_comesDays (there : List Int32) (used : List Int32) (hidden : List Int32) (kind : List Int32) (figure : List Int32) (good : List Int32) (load : List Int32) (inn : List Int32) (ships : Int32) (coughs : Int32) (day : Int32) (away : Int32) (free : Int32) (p0 : Int32) : Option (List Int32 × List Int32 × Int32 × Int32 × Int32) :=
  (X5_isIn p0 (1 : Int32) (60 : Int32)).bind fun u_1 =>
  if u_1 = (0 : Int32) then
  some (there, inn, coughs, day, (0 : Int32))
  else
  if (day + p0) ≤ (999 : Int32) then
  (X5_goes there used hidden kind figure good load inn ships coughs day away free p0).bind fun u_3 =>
  some (u_3.1, u_3.2.1, u_3.2.2.1, u_3.2.2.2, (1 : Int32))
  else
  some (there, inn, coughs, day, (0 : Int32))
set_option maxRecDepth 100000 in
set_option maxHeartbeats 4000000 in
theorem c_X5_comesDays {l : Launch} {G : Gx} {ad : Nat → Nat} {refused there used hidden kind figure good load inn tape letter letterAt told kept row costs : List Int32} {ships coughs day away taped reading statements hasImage isKeeping cursor backs free goodFor loadedWhen bareGood bareWhen rowMany lots : Int32} {p0 : Int32} {out : List Int32 × List Int32 × Int32 × Int32 × Int32} (hf : X5_comesDays there used hidden kind figure good load inn ships coughs day away free p0 = some out) : Ct l G yX5_comesDays cX5_comesDays 2 (some .boolean) 7 151 [.ref (ad 0), .int p0] (wM G ad refused there used hidden kind figure good load inn tape letter letterAt told kept row costs ships coughs day away taped reading statements hasImage isKeeping cursor backs free goodFor loadedWhen bareGood bareWhen rowMany lots) (some (.int out.2.2.2.2)) (wM G ad refused out.1 used hidden kind figure good load out.2.1 tape letter letterAt told kept row costs ships out.2.2.1 out.2.2.2.1 away taped reading statements hasImage isKeeping cursor backs free goodFor loadedWhen bareGood bareWhen rowMany lots) := by
  refine Ct.intro RX5 rfl (plainFor_of_name (by decide)) (Nat.le_of_ble_eq_true rfl) rfl ?_
  intro p e s m args below meth c A C H locs hs ls hl
  obtain ⟨hx, hb, hml, hown, hts, hK, hret, hlk⟩ := id C
  have hl : lv_has ls 2 [(0, .ref (ad 0)), (1, .int p0)] := hl
  unfold X5_comesDays at hf
  refine lv_iload_n hx hb (dk hX5_comesDays_0 0 rfl) rfl (lv_at hl 1 rfl) ?_
  refine lv_iconst (v := (1 : Int32)) hx hb (dk hX5_comesDays_0 1 rfl) (by decide) ?_
  refine lv_bipush (v := (60 : Int32)) hx hb (dk hX5_comesDays_0 2 rfl) (by decide) ?_
  obtain ⟨u_1, e_2, hf⟩ := Option.bind_eq_some_iff.mp hf
  refine Ct.S (As := [.int p0, .int (1 : Int32), .int (60 : Int32)]) (rest := []) (st1 := [.int u_1]) (w1 := (wM G ad refused there used hidden kind figure good load inn tape letter letterAt told kept row costs ships coughs day away taped reading statements hasImage isKeeping cursor backs free goodFor loadedWhen bareGood bareWhen rowMany lots)) C hs (c_X5_isIn e_2) tw_824 tw_825 tw_85 tw_826 nq_X5_isIn (by decide) rfl hl.1 rfl (Nat.le_of_ble_eq_true rfl) (dk hX5_comesDays_0 3 rfl) ⟨Nat.zero_le _, Nat.zero_le _⟩ rfl (fun H locs hs => ?_)
  refine lv_if_eq (tgt := 22) hx hb (dk hX5_comesDays_0 4 rfl) (by decide) (fun hc => ?_) (fun hc => ?_)
  · replace hf := ip hf hc
    refine lv_iconst (v := (0 : Int32)) hx hb (dk hX5_comesDays_0 11 rfl) (by decide) ?_
    cases hf
    exact rz (x := (0 : Int32)) rfl C hs (dk hX5_comesDays_0 12 rfl)
  · replace hf := in_ hf hc
    refine lv_aload_n hx hb (dk hX5_comesDays_0 5 rfl) rfl (lv_at hl 0 rfl) ?_
    refine rg ui5 rfl C hs 0 rfl 11 (by decide) tw_701 rfl rfl (dk hX5_comesDays_0 6 rfl) ?_
    refine lv_iload_n hx hb (dk hX5_comesDays_0 7 rfl) rfl (lv_at hl 1 rfl) ?_
    refine lv_iadd hx hb (dk hX5_comesDays_0 8 rfl) ?_
    refine lv_sipush (v := (999 : Int32)) hx hb (dk hX5_comesDays_0 9 rfl) (by decide) ?_
    refine lv_icmp_le (tgt := 24) hx hb (dk hX5_comesDays_0 10 rfl) (by decide) (fun hc => ?_) (fun hc => ?_)
    · replace hf := ip hf hc
      refine lv_aload_n hx hb (dk hX5_comesDays_0 13 rfl) rfl (lv_at hl 0 rfl) ?_
      refine lv_iload_n hx hb (dk hX5_comesDays_0 14 rfl) rfl (lv_at hl 1 rfl) ?_
      obtain ⟨u_3, e_4, hf⟩ := Option.bind_eq_some_iff.mp hf
      refine Ct.V (As := [.int p0]) (rest := []) (st1 := []) (w1 := (wM G ad refused u_3.1 used hidden kind figure good load u_3.2.1 tape letter letterAt told kept row costs ships u_3.2.2.1 u_3.2.2.2 away taped reading statements hasImage isKeeping cursor backs free goodFor loadedWhen bareGood bareWhen rowMany lots)) C hs (c_X5_goes e_4) tw_862 tw_864 tw_34 tw_85 tw_865 nq_X5_goes (by decide) 0 5 rfl rfl rfl rfl hl.1 rfl (Nat.le_of_ble_eq_true rfl) (dk hX5_comesDays_0 15 rfl) ⟨Nat.zero_le _, Nat.zero_le _⟩ rfl (fun H locs hs => ?_)
      refine lv_iconst (v := (1 : Int32)) hx hb (dk hX5_comesDays_0 16 rfl) (by decide) ?_
      cases hf
      exact rz (x := (1 : Int32)) rfl C hs (dk hX5_comesDays_0 17 rfl)
    · replace hf := in_ hf hc
      refine lv_iconst (v := (0 : Int32)) hx hb (dk hX5_comesDays_0 11 rfl) (by decide) ?_
      cases hf
      exact rz (x := (0 : Int32)) rfl C hs (dk hX5_comesDays_0 12 rfl)

