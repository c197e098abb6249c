def J9_floorMod_7cf53 (p0 : Int32) (p1 : Int32) : Option (Int32) :=
  if p1 = 0 then none else
  if (0 : Int32) ≤ (p0 ^^^ p1) then
  some (p0 - p0 / p1 * p1)
  else
  if (p0 - p0 / p1 * p1) = (0 : Int32) then
  some (p0 - p0 / p1 * p1)
  else
  some ((p0 - p0 / p1 * p1) + p1)
set_option maxRecDepth 100000 in
set_option maxHeartbeats 4000000 in
theorem c_J9_floorMod_7cf53 {l : Launch} {G : Gx} {w : va_W} {p0 : Int32} {p1 : Int32} {out : Int32} (hf : J9_floorMod_7cf53 p0 p1 = some out) : Ct l G yJ9_floorMod_7cf53 cJ9_floorMod_7cf53 3 (some .int) 0 0 [.int p0, .int p1] w (some (.int out)) w := by
  refine Ct.intro RJ9 rfl (by decide +kernel) (Nat.le_of_ble_eq_true rfl) rfl ?_
  intro p e s m args below meth c A C H locs hs ls hl
  obtain ⟨hx, hb, hml, hown, hts, hK, hret, hlk⟩ := id C
  have hl : lv_has ls 3 [(0, .int p0), (1, .int p1)] := hl
  unfold J9_floorMod_7cf53 at hf
  refine lv_iload_n hx hb (dk hJ9_floorMod_7cf53_0 0 rfl) rfl (lv_at hl 0 rfl) ?_
  refine lv_iload_n hx hb (dk hJ9_floorMod_7cf53_0 1 rfl) rfl (lv_at hl 1 rfl) ?_
  obtain ⟨hne, hf⟩ := idn hf
  refine lv_irem hx hb (dk hJ9_floorMod_7cf53_0 2 rfl) hne ?_
  refine lv_istore_n (lv' := [(2, .int (p0 - p0 / p1 * p1)), (0, .int p0), (1, .int p1)]) hx hb (dk hJ9_floorMod_7cf53_0 3 rfl) rfl hl (by decide) rfl (fun ls hl => ?_)
  refine lv_iload_n hx hb (dk hJ9_floorMod_7cf53_0 4 rfl) rfl (lv_at hl 1 rfl) ?_
  refine lv_iload_n hx hb (dk hJ9_floorMod_7cf53_0 5 rfl) rfl (lv_at hl 2 rfl) ?_
  refine lv_ixor hx hb (dk hJ9_floorMod_7cf53_0 6 rfl) ?_
  refine lv_if_ge (tgt := 18) hx hb (dk hJ9_floorMod_7cf53_0 7 rfl) (by decide) (fun hc => ?_) (fun hc => ?_)
  · replace hf := ip hf hc
    refine lv_iload_n hx hb (dk hJ9_floorMod_7cf53_0 14 rfl) rfl (lv_at hl 0 rfl) ?_
    cases hf
    exact ri C hs (dk hJ9_floorMod_7cf53_0 15 rfl)
  · replace hf := in_ hf hc
    refine lv_iload_n hx hb (dk hJ9_floorMod_7cf53_0 8 rfl) rfl (lv_at hl 0 rfl) ?_
    refine lv_if_eq (tgt := 18) hx hb (dk hJ9_floorMod_7cf53_0 9 rfl) (by decide) (fun hc => ?_) (fun hc => ?_)
    · replace hf := ip hf hc
      refine lv_iload_n hx hb (dk hJ9_floorMod_7cf53_0 14 rfl) rfl (lv_at hl 0 rfl) ?_
      cases hf
      exact ri C hs (dk hJ9_floorMod_7cf53_0 15 rfl)
    · replace hf := in_ hf hc
      refine lv_iload_n hx hb (dk hJ9_floorMod_7cf53_0 10 rfl) rfl (lv_at hl 0 rfl) ?_
      refine lv_iload_n hx hb (dk hJ9_floorMod_7cf53_0 11 rfl) rfl (lv_at hl 2 rfl) ?_
      refine lv_iadd hx hb (dk hJ9_floorMod_7cf53_0 12 rfl) ?_
      cases hf
      exact ri C hs (dk hJ9_floorMod_7cf53_0 13 rfl)

def J6_bitCount_0f7a4 (p0 : Int32) : Option (Int32) :=
  (some (((p0 - ((ushr p0 (1 : Int32)) &&& (1431655765 : Int32))) &&& (858993459 : Int32)) + ((ushr (p0 - ((ushr p0 (1 : Int32)) &&& (1431655765 : Int32))) (2 : Int32)) &&& (858993459 : Int32)))).bind fun t_1 =>
  (some (((t_1 + (ushr t_1 (4 : Int32))) &&& (252645135 : Int32)) + (ushr ((t_1 + (ushr t_1 (4 : Int32))) &&& (252645135 : Int32)) (8 : Int32)))).bind fun t_4 =>
  some ((t_4 + (ushr t_4 (16 : Int32))) &&& (63 : Int32))
set_option maxRecDepth 100000 in
set_option maxHeartbeats 4000000 in
theorem c_J6_bitCount_0f7a4 {l : Launch} {G : Gx} {w : va_W} {p0 : Int32} {out : Int32} (hf : J6_bitCount_0f7a4 p0 = some out) : Ct l G yJ6_bitCount_0f7a4 cJ6_bitCount_0f7a4 1 (some .int) 0 0 [.int p0] w (some (.int out)) w := by
  refine Ct.intro RJ6 rfl (by decide +kernel) (Nat.le_of_ble_eq_true rfl) rfl ?_
  intro p e s m args below meth c A C H locs hs ls hl
  obtain ⟨hx, hb, hml, hown, hts, hK, hret, hlk⟩ := id C
  have hl : lv_has ls 1 [(0, .int p0)] := hl
  unfold J6_bitCount_0f7a4 at hf
  refine lv_iload_n hx hb (dk hJ6_bitCount_0f7a4_0 0 rfl) rfl (lv_at hl 0 rfl) ?_
  refine lv_iload_n hx hb (dk hJ6_bitCount_0f7a4_0 1 rfl) rfl (lv_at hl 0 rfl) ?_
  refine lv_iconst (v := (1 : Int32)) hx hb (dk hJ6_bitCount_0f7a4_0 2 rfl) (by decide) ?_
  refine lv_iushr (v := (ushr p0 (1 : Int32))) hx hb (dk hJ6_bitCount_0f7a4_0 3 rfl) rfl ?_
  refine lv_ldcw (v := (1431655765 : Int32)) hx hb hown (hts _ tw_293) (dk hJ6_bitCount_0f7a4_0 4 rfl) ?_
  refine lv_iand hx hb (dk hJ6_bitCount_0f7a4_0 5 rfl) ?_
  refine lv_isub hx hb (dk hJ6_bitCount_0f7a4_0 6 rfl) ?_
  refine lv_istore_n (lv' := [(0, .int (p0 - ((ushr p0 (1 : Int32)) &&& (1431655765 : Int32))))]) hx hb (dk hJ6_bitCount_0f7a4_0 7 rfl) rfl hl (by decide) rfl (fun ls hl => ?_)
  refine lv_iload_n hx hb (dk hJ6_bitCount_0f7a4_0 8 rfl) rfl (lv_at hl 0 rfl) ?_
  refine lv_ldcw (v := (858993459 : Int32)) hx hb hown (hts _ tw_294) (dk hJ6_bitCount_0f7a4_0 9 rfl) ?_
  refine lv_iand hx hb (dk hJ6_bitCount_0f7a4_0 10 rfl) ?_
  refine lv_iload_n hx hb (dk hJ6_bitCount_0f7a4_0 11 rfl) rfl (lv_at hl 0 rfl) ?_
  refine lv_iconst (v := (2 : Int32)) hx hb (dk hJ6_bitCount_0f7a4_0 12 rfl) (by decide) ?_
  refine lv_iushr (v := (ushr (p0 - ((ushr p0 (1 : Int32)) &&& (1431655765 : Int32))) (2 : Int32))) hx hb (dk hJ6_bitCount_0f7a4_0 13 rfl) rfl ?_
  refine lv_ldcw (v := (858993459 : Int32)) hx hb hown (hts _ tw_294) (dk hJ6_bitCount_0f7a4_0 14 rfl) ?_
  refine lv_iand hx hb (dk hJ6_bitCount_0f7a4_0 15 rfl) ?_
  refine lv_iadd hx hb (dk hJ6_bitCount_0f7a4_0 16 rfl) ?_
  obtain ⟨z_2, ez_3, hf⟩ := Option.bind_eq_some_iff.mp hf
  refine lv_topi (fun t_1 ey => ?_)
  obtain rfl : t_1 = z_2 := ey.trans (Option.some.inj ez_3)
  refine lv_istore_n (lv' := [(0, .int t_1)]) hx hb (dk hJ6_bitCount_0f7a4_0 17 rfl) rfl hl (by decide) rfl (fun ls hl => ?_)
  refine lv_iload_n hx hb (dk hJ6_bitCount_0f7a4_0 18 rfl) rfl (lv_at hl 0 rfl) ?_
  refine lv_iload_n hx hb (dk hJ6_bitCount_0f7a4_0 19 rfl) rfl (lv_at hl 0 rfl) ?_
  refine lv_iconst (v := (4 : Int32)) hx hb (dk hJ6_bitCount_0f7a4_0 20 rfl) (by decide) ?_
  refine lv_iushr (v := (ushr t_1 (4 : Int32))) hx hb (dk hJ6_bitCount_0f7a4_0 21 rfl) rfl ?_
  refine lv_iadd hx hb (dk hJ6_bitCount_0f7a4_0 22 rfl) ?_
  refine lv_ldcw (v := (252645135 : Int32)) hx hb hown (hts _ tw_295) (dk hJ6_bitCount_0f7a4_0 23 rfl) ?_
  refine lv_iand hx hb (dk hJ6_bitCount_0f7a4_0 24 rfl) ?_
  refine lv_istore_n (lv' := [(0, .int ((t_1 + (ushr t_1 (4 : Int32))) &&& (252645135 : Int32)))]) hx hb (dk hJ6_bitCount_0f7a4_0 25 rfl) rfl hl (by decide) rfl (fun ls hl => ?_)
  refine lv_iload_n hx hb (dk hJ6_bitCount_0f7a4_0 26 rfl) rfl (lv_at hl 0 rfl) ?_
  refine lv_iload_n hx hb (dk hJ6_bitCount_0f7a4_0 27 rfl) rfl (lv_at hl 0 rfl) ?_
  refine lv_bipush (v := (8 : Int32)) hx hb (dk hJ6_bitCount_0f7a4_0 28 rfl) (by decide) ?_
  refine lv_iushr (v := (ushr ((t_1 + (ushr t_1 (4 : Int32))) &&& (252645135 : Int32)) (8 : Int32))) hx hb (dk hJ6_bitCount_0f7a4_0 29 rfl) rfl ?_
  refine lv_iadd hx hb (dk hJ6_bitCount_0f7a4_0 30 rfl) ?_
  obtain ⟨z_5, ez_6, hf⟩ := Option.bind_eq_some_iff.mp hf
  refine lv_topi (fun t_4 ey => ?_)
  obtain rfl : t_4 = z_5 := ey.trans (Option.some.inj ez_6)
  refine lv_istore_n (lv' := [(0, .int t_4)]) hx hb (dk hJ6_bitCount_0f7a4_0 31 rfl) rfl hl (by decide) rfl (fun ls hl => ?_)
  refine lv_iload_n hx hb (dk hJ6_bitCount_0f7a4_0 32 rfl) rfl (lv_at hl 0 rfl) ?_
  refine lv_iload_n hx hb (dk hJ6_bitCount_0f7a4_0 33 rfl) rfl (lv_at hl 0 rfl) ?_
  refine lv_bipush (v := (16 : Int32)) hx hb (dk hJ6_bitCount_0f7a4_0 34 rfl) (by decide) ?_
  refine lv_iushr (v := (ushr t_4 (16 : Int32))) hx hb (dk hJ6_bitCount_0f7a4_0 35 rfl) rfl ?_
  refine lv_iadd hx hb (dk hJ6_bitCount_0f7a4_0 36 rfl) ?_
  refine lv_istore_n (lv' := [(0, .int (t_4 + (ushr t_4 (16 : Int32))))]) hx hb (dk hJ6_bitCount_0f7a4_0 37 rfl) rfl hl (by decide) rfl (fun ls hl => ?_)
  refine lv_iload_n hx hb (dk hJ6_bitCount_0f7a4_0 38 rfl) rfl (lv_at hl 0 rfl) ?_
  refine lv_bipush (v := (63 : Int32)) hx hb (dk hJ6_bitCount_0f7a4_0 39 rfl) (by decide) ?_
  refine lv_iand hx hb (dk hJ6_bitCount_0f7a4_1 0 rfl) ?_
  cases hf
  exact ri C hs (dk hJ6_bitCount_0f7a4_1 1 rfl)

def X4_misfit (p0 : Int32) (p1 : Int32) (p2 : Int32) : Option (Int32) :=
  if p1 ≤ p0 then
  if p0 ≤ p2 then
  some (0 : Int32)
  else
  some (-6 : Int32)
  else
  some (-4 : Int32)
set_option maxRecDepth 100000 in
set_option maxHeartbeats 4000000 in
theorem c_X4_misfit {l : Launch} {G : Gx} {w : va_W} {p0 : Int32} {p1 : Int32} {p2 : Int32} {out : Int32} (hf : X4_misfit p0 p1 p2 = some out) : Ct l G yX4_misfit cX4_misfit 3 (some .int) 0 0 [.int p0, .int p1, .int p2] w (some (.int out)) w := by
  refine Ct.intro RX4 rfl (plainFor_of_name (by decide)) (Nat.le_of_ble_eq_true rfl) rfl ?_
  intro p e s m args below meth c A C H locs hs ls hl
  obtain ⟨hx, hb, hml, hown, hts, hK, hret, hlk⟩ := id C
  have hl : lv_has ls 3 [(0, .int p0), (1, .int p1), (2, .int p2)] := hl
  unfold X4_misfit at hf
  refine lv_iload_n hx hb (dk hX4_misfit_0 0 rfl) rfl (lv_at hl 0 rfl) ?_
  refine lv_iload_n hx hb (dk hX4_misfit_0 1 rfl) rfl (lv_at hl 1 rfl) ?_
  refine lv_icmp_ge (tgt := 8) hx hb (dk hX4_misfit_0 2 rfl) (by decide) (fun hc => ?_) (fun hc => ?_)
  · replace hf := ip hf hc
    refine lv_iload_n hx hb (dk hX4_misfit_0 5 rfl) rfl (lv_at hl 0 rfl) ?_
    refine lv_iload_n hx hb (dk hX4_misfit_0 6 rfl) rfl (lv_at hl 2 rfl) ?_
    refine lv_icmp_le (tgt := 18) hx hb (dk hX4_misfit_0 7 rfl) (by decide) (fun hc => ?_) (fun hc => ?_)
    · replace hf := ip hf hc
      refine lv_iconst (v := (0 : Int32)) hx hb (dk hX4_misfit_0 10 rfl) (by decide) ?_
      cases hf
      exact ri C hs (dk hX4_misfit_0 11 rfl)
    · replace hf := in_ hf hc
      refine lv_bipush (v := (-6 : Int32)) hx hb (dk hX4_misfit_0 8 rfl) (by decide) ?_
      refine lv_goto (tgt := 19) hx hb (dk hX4_misfit_0 9 rfl) (by decide) ?_
      cases hf
      exact ri C hs (dk hX4_misfit_0 11 rfl)
  · replace hf := in_ hf hc
    refine lv_bipush (v := (-4 : Int32)) hx hb (dk hX4_misfit_0 3 rfl) (by decide) ?_
    cases hf
    exact ri C hs (dk hX4_misfit_0 4 rfl)

def X4_isGood (p0 : Int32) : Option (Int32) :=
  if p0 < (0 : Int32) then
  some (0 : Int32)
  else
  if (6 : Int32) ≤ p0 then
  some (0 : Int32)
  else
  some (1 : Int32)
set_option maxRecDepth 100000 in
set_option maxHeartbeats 4000000 in
theorem c_X4_isGood {l : Launch} {G : Gx} {w : va_W} {p0 : Int32} {out : Int32} (hf : X4_isGood p0 = some out) : Ct l G yX4_isGood cX4_isGood 1 (some .boolean) 0 0 [.int p0] w (some (.int out)) w := by
  refine Ct.intro RX4 rfl (plainFor_of_name (by decide)) (Nat.le_of_ble_eq_true rfl) rfl ?_
  intro p e s m args below meth c A C H locs hs ls hl
  obtain ⟨hx, hb, hml, hown, hts, hK, hret, hlk⟩ := id C
  have hl : lv_has ls 1 [(0, .int p0)] := hl
  unfold X4_isGood at hf
  refine lv_iload_n hx hb (dk hX4_isGood_0 0 rfl) rfl (lv_at hl 0 rfl) ?_
  refine lv_if_lt (tgt := 14) hx hb (dk hX4_isGood_0 1 rfl) (by decide) (fun hc => ?_) (fun hc => ?_)
  · replace hf := ip hf hc
    refine lv_iconst (v := (0 : Int32)) hx hb (dk hX4_isGood_0 7 rfl) (by decide) ?_
    cases hf
    exact rz (x := (0 : Int32)) rfl C hs (dk hX4_isGood_0 8 rfl)
  · replace hf := in_ hf hc
    refine lv_iload_n hx hb (dk hX4_isGood_0 2 rfl) rfl (lv_at hl 0 rfl) ?_
    refine lv_bipush (v := (6 : Int32)) hx hb (dk hX4_isGood_0 3 rfl) (by decide) ?_
    refine lv_icmp_ge (tgt := 14) hx hb (dk hX4_isGood_0 4 rfl) (by decide) (fun hc => ?_) (fun hc => ?_)
    · replace hf := ip hf hc
      refine lv_iconst (v := (0 : Int32)) hx hb (dk hX4_isGood_0 7 rfl) (by decide) ?_
      cases hf
      exact rz (x := (0 : Int32)) rfl C hs (dk hX4_isGood_0 8 rfl)
    · replace hf := in_ hf hc
      refine lv_iconst (v := (1 : Int32)) hx hb (dk hX4_isGood_0 5 rfl) (by decide) ?_
      refine lv_goto (tgt := 15) hx hb (dk hX4_isGood_0 6 rfl) (by decide) ?_
      cases hf
      exact rz (x := (1 : Int32)) rfl C hs (dk hX4_isGood_0 8 rfl)

def X4_tideOf (p0 : Int32) : Option (Int32) :=
  (J9_floorMod_7cf53 p0 (8 : Int32)).bind fun u_1 =>
  some ((4 : Int32) - (mabs (u_1 - (4 : Int32))))
set_option maxRecDepth 100000 in
set_option maxHeartbeats 4000000 in
theorem c_X4_tideOf {l : Launch} {G : Gx} {w : va_W} {p0 : Int32} {out : Int32} (hf : X4_tideOf p0 = some out) : Ct l G yX4_tideOf cX4_tideOf 1 (some .int) 1 24 [.int p0] w (some (.int out)) w := by
  refine Ct.intro RX4 rfl (plainFor_of_name (by decide)) (Nat.le_of_ble_eq_true rfl) rfl ?_
  intro p e s m args below meth c A C H locs hs ls hl
  obtain ⟨hx, hb, hml, hown, hts, hK, hret, hlk⟩ := id C
  have hl : lv_has ls 1 [(0, .int p0)] := hl
  unfold X4_tideOf at hf
  refine lv_iconst (v := (4 : Int32)) hx hb (dk hX4_tideOf_0 0 rfl) (by decide) ?_
  refine lv_iload_n hx hb (dk hX4_tideOf_0 1 rfl) rfl (lv_at hl 0 rfl) ?_
  refine lv_bipush (v := (8 : Int32)) hx hb (dk hX4_tideOf_0 2 rfl) (by decide) ?_
  obtain ⟨u_1, e_2, hf⟩ := Option.bind_eq_some_iff.mp hf
  refine Ct.S (As := [.int p0, .int (8 : Int32)]) (rest := [.int (4 : Int32)]) (st1 := [.int u_1, .int (4 : Int32)]) C hs (c_J9_floorMod_7cf53 e_2) tw_213 tw_214 tw_22 tw_215 nq_J9_floorMod_7cf53 (by decide) rfl hl.1 rfl (Nat.le_of_ble_eq_true rfl) (dk hX4_tideOf_0 3 rfl) ⟨Nat.zero_le _, Nat.zero_le _⟩ rfl (fun H locs hs => ?_)
  refine lv_iconst (v := (4 : Int32)) hx hb (dk hX4_tideOf_0 4 rfl) (by decide) ?_
  refine lv_isub hx hb (dk hX4_tideOf_0 5 rfl) ?_
  refine va_mabs hx hb (hml.trans hl.1.symm) hown (hts _ tw_216) (hts _ tw_217) (hts _ tw_22) (hts _ tw_218) (by decide) (Nat.le_of_ble_eq_true rfl) (Nat.zero_le _) (Nat.zero_le _) (dk hX4_tideOf_0 6 rfl) ?_
  refine lv_isub hx hb (dk hX4_tideOf_0 7 rfl) ?_
  cases hf
  exact ri C hs (dk hX4_tideOf_0 8 rfl)

def X0_behind (p0 : Int32) : Option (Int32) :=
  if p0 = (5 : Int32) then
  some (0 : Int32)
  else
  some (p0 + (1 : Int32))
set_option maxRecDepth 100000 in
set_option maxHeartbeats 4000000 in
theorem c_X0_behind {l : Launch} {G : Gx} {w : va_W} {p0 : Int32} {out : Int32} (hf : X0_behind p0 = some out) : Ct l G yX0_behind cX0_behind 1 (some .int) 0 0 [.int p0] w (some (.int out)) w := by
  refine Ct.intro RX0 rfl (plainFor_of_name (by decide)) (Nat.le_of_ble_eq_true rfl) rfl ?_
  intro p e s m args below meth c A C H locs hs ls hl
  obtain ⟨hx, hb, hml, hown, hts, hK, hret, hlk⟩ := id C
  have hl : lv_has ls 1 [(0, .int p0)] := hl
  unfold X0_behind at hf
  refine lv_iload_n hx hb (dk hX0_behind_0 0 rfl) rfl (lv_at hl 0 rfl) ?_
  refine lv_iconst (v := (5 : Int32)) hx hb (dk hX0_behind_0 1 rfl) (by decide) ?_
  refine lv_icmp_ne (tgt := 9) hx hb (dk hX0_behind_0 2 rfl) (by decide) (fun hc => ?_) (fun hc => ?_)
  · replace hf := in_ hf hc
    refine lv_iload_n hx hb (dk hX0_behind_0 5 rfl) rfl (lv_at hl 0 rfl) ?_
    refine lv_iconst (v := (1 : Int32)) hx hb (dk hX0_behind_0 6 rfl) (by decide) ?_
    refine lv_iadd hx hb (dk hX0_behind_0 7 rfl) ?_
    cases hf
    exact ri C hs (dk hX0_behind_0 8 rfl)
  · replace hf := ip hf hc
    refine lv_iconst (v := (0 : Int32)) hx hb (dk hX0_behind_0 3 rfl) (by decide) ?_
    refine lv_goto (tgt := 12) hx hb (dk hX0_behind_0 4 rfl) (by decide) ?_
    cases hf
    exact ri C hs (dk hX0_behind_0 8 rfl)

