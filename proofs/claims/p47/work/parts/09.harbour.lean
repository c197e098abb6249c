def X0_isShip (ships : Int32) (p0 : Int32) : Option (Int32) :=
  if p0 < (0 : Int32) then
  some (0 : Int32)
  else
  if ships ≤ p0 then
  some (0 : Int32)
  else
  if (7 : Int32) ≤ p0 then
  some (0 : Int32)
  else
  some (1 : Int32)
set_option maxRecDepth 100000 in
set_option maxHeartbeats 4000000 in
theorem c_X0_isShip {l : Launch} {G : Gx} {ad : Nat → Nat} {there used hidden kind figure cargo load : List Int32} {ships inn coughs day : Int32} {p0 : Int32} {out : Int32} (hf : X0_isShip ships p0 = some out) : Ct l G yX0_isShip cX0_isShip 2 (some .boolean) 0 0 [.ref (ad 0), .int p0] (wH G ad there used hidden kind figure cargo load ships inn coughs day) (some (.int out)) (wH G ad there used hidden kind figure cargo load ships inn coughs day) := by
  refine Ct.intro RX0 rfl (plainFor_of_name (by decide)) (Nat.le_of_ble_eq_true rfl) rfl ?_
  intro p e s m args below meth c A C H locs hs ls hl
  obtain ⟨hx, hb, hml, hown, hts, hK, hret, hlk⟩ := id C
  have hl : lv_has ls 2 [(0, .ref (ad 0)), (1, .int p0)] := hl
  unfold X0_isShip at hf
  refine lv_iload_n hx hb (dk hX0_isShip_0 0 rfl) rfl (lv_at hl 1 rfl) ?_
  refine lv_if_lt (tgt := 22) hx hb (dk hX0_isShip_0 1 rfl) (by decide) (fun hc => ?_) (fun hc => ?_)
  · replace hf := ip hf hc
    refine lv_iconst (v := (0 : Int32)) hx hb (dk hX0_isShip_0 11 rfl) (by decide) ?_
    cases hf
    exact rz (x := (0 : Int32)) rfl C hs (dk hX0_isShip_0 12 rfl)
  · replace hf := in_ hf hc
    refine lv_iload_n hx hb (dk hX0_isShip_0 2 rfl) rfl (lv_at hl 1 rfl) ?_
    refine lv_aload_n hx hb (dk hX0_isShip_0 3 rfl) rfl (lv_at hl 0 rfl) ?_
    refine rg ui0 rfl C hs 0 rfl 7 (by decide) tw_54 rfl rfl (dk hX0_isShip_0 4 rfl) ?_
    refine lv_icmp_ge (tgt := 22) hx hb (dk hX0_isShip_0 5 rfl) (by decide) (fun hc => ?_) (fun hc => ?_)
    · replace hf := ip hf hc
      refine lv_iconst (v := (0 : Int32)) hx hb (dk hX0_isShip_0 11 rfl) (by decide) ?_
      cases hf
      exact rz (x := (0 : Int32)) rfl C hs (dk hX0_isShip_0 12 rfl)
    · replace hf := in_ hf hc
      refine lv_iload_n hx hb (dk hX0_isShip_0 6 rfl) rfl (lv_at hl 1 rfl) ?_
      refine lv_bipush (v := (7 : Int32)) hx hb (dk hX0_isShip_0 7 rfl) (by decide) ?_
      refine lv_icmp_ge (tgt := 22) hx hb (dk hX0_isShip_0 8 rfl) (by decide) (fun hc => ?_) (fun hc => ?_)
      · replace hf := ip hf hc
        refine lv_iconst (v := (0 : Int32)) hx hb (dk hX0_isShip_0 11 rfl) (by decide) ?_
        cases hf
        exact rz (x := (0 : Int32)) rfl C hs (dk hX0_isShip_0 12 rfl)
      · replace hf := in_ hf hc
        refine lv_iconst (v := (1 : Int32)) hx hb (dk hX0_isShip_0 9 rfl) (by decide) ?_
        refine lv_goto (tgt := 23) hx hb (dk hX0_isShip_0 10 rfl) (by decide) ?_
        cases hf
        exact rz (x := (1 : Int32)) rfl C hs (dk hX0_isShip_0 12 rfl)

def X0_isIn (inn : Int32) (p0 : Int32) : Option (Int32) :=
  if ((inn >>> (p0 &&& 31)) &&& (1 : Int32)) = (0 : Int32) then
  some (0 : Int32)
  else
  some (1 : Int32)
set_option maxRecDepth 100000 in
set_option maxHeartbeats 4000000 in
theorem c_X0_isIn {l : Launch} {G : Gx} {ad : Nat → Nat} {there used hidden kind figure cargo load : List Int32} {ships inn coughs day : Int32} {p0 : Int32} {out : Int32} (hf : X0_isIn inn p0 = some out) : Ct l G yX0_isIn cX0_isIn 2 (some .boolean) 0 0 [.ref (ad 0), .int p0] (wH G ad there used hidden kind figure cargo load ships inn coughs day) (some (.int out)) (wH G ad there used hidden kind figure cargo load ships inn coughs day) := by
  refine Ct.intro RX0 rfl (plainFor_of_name (by decide)) (Nat.le_of_ble_eq_true rfl) rfl ?_
  intro p e s m args below meth c A C H locs hs ls hl
  obtain ⟨hx, hb, hml, hown, hts, hK, hret, hlk⟩ := id C
  have hl : lv_has ls 2 [(0, .ref (ad 0)), (1, .int p0)] := hl
  unfold X0_isIn at hf
  refine lv_aload_n hx hb (dk hX0_isIn_0 0 rfl) rfl (lv_at hl 0 rfl) ?_
  refine rg ui0 rfl C hs 0 rfl 8 (by decide) tw_57 rfl rfl (dk hX0_isIn_0 1 rfl) ?_
  refine lv_iload_n hx hb (dk hX0_isIn_0 2 rfl) rfl (lv_at hl 1 rfl) ?_
  refine lv_ishr hx hb (dk hX0_isIn_0 3 rfl) ?_
  refine lv_iconst (v := (1 : Int32)) hx hb (dk hX0_isIn_0 4 rfl) (by decide) ?_
  refine lv_iand hx hb (dk hX0_isIn_0 5 rfl) ?_
  refine lv_if_eq (tgt := 15) hx hb (dk hX0_isIn_0 6 rfl) (by decide) (fun hc => ?_) (fun hc => ?_)
  · replace hf := ip hf hc
    refine lv_iconst (v := (0 : Int32)) hx hb (dk hX0_isIn_0 9 rfl) (by decide) ?_
    cases hf
    exact rz (x := (0 : Int32)) rfl C hs (dk hX0_isIn_0 10 rfl)
  · replace hf := in_ hf hc
    refine lv_iconst (v := (1 : Int32)) hx hb (dk hX0_isIn_0 7 rfl) (by decide) ?_
    refine lv_goto (tgt := 16) hx hb (dk hX0_isIn_0 8 rfl) (by decide) ?_
    cases hf
    exact rz (x := (1 : Int32)) rfl C hs (dk hX0_isIn_0 10 rfl)

def X0_sendOut (inn : Int32) (p0 : Int32) : Option (Int32) :=
  some (inn &&& (((1 : Int32) <<< (p0 &&& 31)) ^^^ (-1 : Int32)))
set_option maxRecDepth 100000 in
set_option maxHeartbeats 4000000 in
theorem c_X0_sendOut {l : Launch} {G : Gx} {ad : Nat → Nat} {there used hidden kind figure cargo load : List Int32} {ships inn coughs day : Int32} {p0 : Int32} {out : Int32} (hf : X0_sendOut inn p0 = some out) : Ct l G yX0_sendOut cX0_sendOut 2 (none) 0 0 [.ref (ad 0), .int p0] (wH G ad there used hidden kind figure cargo load ships inn coughs day) (none) (wH G ad there used hidden kind figure cargo load ships out coughs day) := by
  refine Ct.intro RX0 rfl (plainFor_of_name (by decide)) (Nat.le_of_ble_eq_true rfl) rfl ?_
  intro p e s m args below meth c A C H locs hs ls hl
  obtain ⟨hx, hb, hml, hown, hts, hK, hret, hlk⟩ := id C
  have hl : lv_has ls 2 [(0, .ref (ad 0)), (1, .int p0)] := hl
  unfold X0_sendOut at hf
  refine lv_aload_n hx hb (dk hX0_sendOut_0 0 rfl) rfl (lv_at hl 0 rfl) ?_
  refine lv_dup hx hb (dk hX0_sendOut_0 1 rfl) rfl ?_
  refine rg ui0 rfl C hs 0 rfl 8 (by decide) tw_57 rfl rfl (dk hX0_sendOut_0 2 rfl) ?_
  refine lv_iconst (v := (1 : Int32)) hx hb (dk hX0_sendOut_0 3 rfl) (by decide) ?_
  refine lv_iload_n hx hb (dk hX0_sendOut_0 4 rfl) rfl (lv_at hl 1 rfl) ?_
  refine lv_ishl hx hb (dk hX0_sendOut_0 5 rfl) ?_
  refine lv_iconst (v := (-1 : Int32)) hx hb (dk hX0_sendOut_0 6 rfl) (by decide) ?_
  refine lv_ixor hx hb (dk hX0_sendOut_0 7 rfl) ?_
  refine lv_iand hx hb (dk hX0_sendOut_0 8 rfl) ?_
  refine rp (w1 := (wH G ad there used hidden kind figure cargo load ships (inn &&& (((1 : Int32) <<< (p0 &&& 31)) ^^^ (-1 : Int32))) coughs day)) tyX0 tyX0_ok nmX0 ui0 rfl C hs 0 rfl 8 (by decide) tw_57 rfl rfl rfl rfl (Nat.le_of_ble_eq_true rfl) rfl (dk hX0_sendOut_0 9 rfl) (fun H locs hs => ?_)
  cases hf
  exact rv C hs (dk hX0_sendOut_0 10 rfl)

def X0_addShip (kind : List Int32) (figure : List Int32) (cargo : List Int32) (load : List Int32) (ships : Int32) (inn : Int32) (p0 : Int32) (p1 : Int32) (p2 : Int32) (p3 : Int32) : Option (List Int32 × List Int32 × List Int32 × List Int32 × Int32 × Int32) :=
  if ships < (0 : Int32) then
  some (kind, figure, cargo, load, ships, inn)
  else
  if (7 : Int32) ≤ ships then
  some (kind, figure, cargo, load, ships, inn)
  else
  (wr kind ships p0).bind fun kind_1 =>
  (wr figure ships p1).bind fun figure_3 =>
  (wr cargo ships p2).bind fun cargo_5 =>
  (wr load ships p3).bind fun load_7 =>
  (X0_sendOut inn ships).bind fun u_9 =>
  some (kind_1, figure_3, cargo_5, load_7, (ships + (1 : Int32)), u_9)
set_option maxRecDepth 100000 in
set_option maxHeartbeats 4000000 in
theorem c_X0_addShip {l : Launch} {G : Gx} {ad : Nat → Nat} {there used hidden kind figure cargo load : List Int32} {ships inn coughs day : Int32} {p0 : Int32} {p1 : Int32} {p2 : Int32} {p3 : Int32} {out : List Int32 × List Int32 × List Int32 × List Int32 × Int32 × Int32} (hf : X0_addShip kind figure cargo load ships inn p0 p1 p2 p3 = some out) : Ct l G yX0_addShip cX0_addShip 5 (none) 1 21 [.ref (ad 0), .int p0, .int p1, .int p2, .int p3] (wH G ad there used hidden kind figure cargo load ships inn coughs day) (none) (wH G ad there used hidden out.1 out.2.1 out.2.2.1 out.2.2.2.1 out.2.2.2.2.1 out.2.2.2.2.2 coughs day) := by
  refine Ct.intro RX0 rfl (plainFor_of_name (by decide)) (Nat.le_of_ble_eq_true rfl) rfl ?_
  intro p e s m args below meth c A C H locs hs ls hl
  obtain ⟨hx, hb, hml, hown, hts, hK, hret, hlk⟩ := id C
  have hl : lv_has ls 5 [(0, .ref (ad 0)), (1, .int p0), (2, .int p1), (3, .int p2), (4, .int p3)] := hl
  unfold X0_addShip at hf
  refine lv_aload_n hx hb (dk hX0_addShip_0 0 rfl) rfl (lv_at hl 0 rfl) ?_
  refine rg ui0 rfl C hs 0 rfl 7 (by decide) tw_54 rfl rfl (dk hX0_addShip_0 1 rfl) ?_
  refine lv_if_lt (tgt := 75) hx hb (dk hX0_addShip_0 2 rfl) (by decide) (fun hc => ?_) (fun hc => ?_)
  · replace hf := ip hf hc
    cases hf
    exact rv C hs (dk hX0_addShip_1 1 rfl)
  · replace hf := in_ hf hc
    refine lv_aload_n hx hb (dk hX0_addShip_0 3 rfl) rfl (lv_at hl 0 rfl) ?_
    refine rg ui0 rfl C hs 0 rfl 7 (by decide) tw_54 rfl rfl (dk hX0_addShip_0 4 rfl) ?_
    refine lv_bipush (v := (7 : Int32)) hx hb (dk hX0_addShip_0 5 rfl) (by decide) ?_
    refine lv_icmp_ge (tgt := 75) hx hb (dk hX0_addShip_0 6 rfl) (by decide) (fun hc => ?_) (fun hc => ?_)
    · replace hf := ip hf hc
      cases hf
      exact rv C hs (dk hX0_addShip_1 1 rfl)
    · replace hf := in_ hf hc
      refine lv_aload_n hx hb (dk hX0_addShip_0 7 rfl) rfl (lv_at hl 0 rfl) ?_
      refine rg ui0 rfl C hs 0 rfl 3 (by decide) tw_46 rfl rfl (dk hX0_addShip_0 8 rfl) ?_
      refine lv_aload_n hx hb (dk hX0_addShip_0 9 rfl) rfl (lv_at hl 0 rfl) ?_
      refine rg ui0 rfl C hs 0 rfl 7 (by decide) tw_54 rfl rfl (dk hX0_addShip_0 10 rfl) ?_
      refine lv_iload_n hx hb (dk hX0_addShip_0 11 rfl) rfl (lv_at hl 1 rfl) ?_
      obtain ⟨kind_1, e_2, hf⟩ := Option.bind_eq_some_iff.mp hf
      refine rist (w1 := (wH G ad there used hidden kind_1 figure cargo load ships inn coughs day)) C hs 4 rfl e_2 rfl (dk hX0_addShip_0 12 rfl) (fun H locs hs => ?_)
      refine lv_aload_n hx hb (dk hX0_addShip_0 13 rfl) rfl (lv_at hl 0 rfl) ?_
      refine rg ui0 rfl C hs 0 rfl 4 (by decide) tw_48 rfl rfl (dk hX0_addShip_0 14 rfl) ?_
      refine lv_aload_n hx hb (dk hX0_addShip_0 15 rfl) rfl (lv_at hl 0 rfl) ?_
      refine rg ui0 rfl C hs 0 rfl 7 (by decide) tw_54 rfl rfl (dk hX0_addShip_0 16 rfl) ?_
      refine lv_iload_n hx hb (dk hX0_addShip_0 17 rfl) rfl (lv_at hl 2 rfl) ?_
      obtain ⟨figure_3, e_4, hf⟩ := Option.bind_eq_some_iff.mp hf
      refine rist (w1 := (wH G ad there used hidden kind_1 figure_3 cargo load ships inn coughs day)) C hs 5 rfl e_4 rfl (dk hX0_addShip_0 18 rfl) (fun H locs hs => ?_)
      refine lv_aload_n hx hb (dk hX0_addShip_0 19 rfl) rfl (lv_at hl 0 rfl) ?_
      refine rg ui0 rfl C hs 0 rfl 5 (by decide) tw_50 rfl rfl (dk hX0_addShip_0 20 rfl) ?_
      refine lv_aload_n hx hb (dk hX0_addShip_0 21 rfl) rfl (lv_at hl 0 rfl) ?_
      refine rg ui0 rfl C hs 0 rfl 7 (by decide) tw_54 rfl rfl (dk hX0_addShip_0 22 rfl) ?_
      refine lv_iload_n hx hb (dk hX0_addShip_0 23 rfl) rfl (lv_at hl 3 rfl) ?_
      obtain ⟨cargo_5, e_6, hf⟩ := Option.bind_eq_some_iff.mp hf
      refine rist (w1 := (wH G ad there used hidden kind_1 figure_3 cargo_5 load ships inn coughs day)) C hs 6 rfl e_6 rfl (dk hX0_addShip_0 24 rfl) (fun H locs hs => ?_)
      refine lv_aload_n hx hb (dk hX0_addShip_0 25 rfl) rfl (lv_at hl 0 rfl) ?_
      refine rg ui0 rfl C hs 0 rfl 6 (by decide) tw_52 rfl rfl (dk hX0_addShip_0 26 rfl) ?_
      refine lv_aload_n hx hb (dk hX0_addShip_0 27 rfl) rfl (lv_at hl 0 rfl) ?_
      refine rg ui0 rfl C hs 0 rfl 7 (by decide) tw_54 rfl rfl (dk hX0_addShip_0 28 rfl) ?_
      refine lv_iload hx hb (dk hX0_addShip_0 29 rfl) (lv_at hl 4 rfl) ?_
      obtain ⟨load_7, e_8, hf⟩ := Option.bind_eq_some_iff.mp hf
      refine rist (w1 := (wH G ad there used hidden kind_1 figure_3 cargo_5 load_7 ships inn coughs day)) C hs 7 rfl e_8 rfl (dk hX0_addShip_0 30 rfl) (fun H locs hs => ?_)
      refine lv_aload_n hx hb (dk hX0_addShip_0 31 rfl) rfl (lv_at hl 0 rfl) ?_
      refine lv_aload_n hx hb (dk hX0_addShip_0 32 rfl) rfl (lv_at hl 0 rfl) ?_
      refine rg ui0 rfl C hs 0 rfl 7 (by decide) tw_54 rfl rfl (dk hX0_addShip_0 33 rfl) ?_
      obtain ⟨u_9, e_10, hf⟩ := Option.bind_eq_some_iff.mp hf
      refine Ct.V (As := [.int ships]) (rest := []) (st1 := []) (w1 := (wH G ad there used hidden kind_1 figure_3 cargo_5 load_7 ships u_9 coughs day)) C hs (c_X0_sendOut e_10) tw_521 tw_261 tw_262 tw_18 tw_263 nq_X0_sendOut (by decide) 0 0 rfl rfl rfl rfl hl.1 rfl (Nat.le_of_ble_eq_true rfl) (dk hX0_addShip_0 34 rfl) ⟨Nat.zero_le _, Nat.zero_le _⟩ rfl (fun H locs hs => ?_)
      refine lv_aload_n hx hb (dk hX0_addShip_0 35 rfl) rfl (lv_at hl 0 rfl) ?_
      refine lv_dup hx hb (dk hX0_addShip_0 36 rfl) rfl ?_
      refine rg ui0 rfl C hs 0 rfl 7 (by decide) tw_54 rfl rfl (dk hX0_addShip_0 37 rfl) ?_
      refine lv_iconst (v := (1 : Int32)) hx hb (dk hX0_addShip_0 38 rfl) (by decide) ?_
      refine lv_iadd hx hb (dk hX0_addShip_0 39 rfl) ?_
      refine rp (w1 := (wH G ad there used hidden kind_1 figure_3 cargo_5 load_7 (ships + (1 : Int32)) u_9 coughs day)) tyX0 tyX0_ok nmX0 ui0 rfl C hs 0 rfl 7 (by decide) tw_54 rfl rfl rfl rfl (Nat.le_of_ble_eq_true rfl) rfl (dk hX0_addShip_1 0 rfl) (fun H locs hs => ?_)
      cases hf
      exact rv C hs (dk hX0_addShip_1 1 rfl)

def X0_lackOf (there : List Int32) (used : List Int32) (p0 : Int32) : Option (Int32) :=
  if p0 < (0 : Int32) then
  some (0 : Int32)
  else
  if p0 < (6 : Int32) then
  (rd used p0).bind fun v_1 =>
  (rd there p0).bind fun v_3 =>
  if (((7 : Int32) * v_1) - v_3) ≤ (0 : Int32) then
  some (0 : Int32)
  else
  some (((7 : Int32) * v_1) - v_3)
  else
  some (0 : Int32)
set_option maxRecDepth 100000 in
set_option maxHeartbeats 4000000 in
theorem c_X0_lackOf {l : Launch} {G : Gx} {ad : Nat → Nat} {there used hidden kind figure cargo load : List Int32} {ships inn coughs day : Int32} {p0 : Int32} {out : Int32} (hf : X0_lackOf there used p0 = some out) : Ct l G yX0_lackOf cX0_lackOf 3 (some .int) 0 0 [.ref (ad 0), .int p0] (wH G ad there used hidden kind figure cargo load ships inn coughs day) (some (.int out)) (wH G ad there used hidden kind figure cargo load ships inn coughs day) := by
  refine Ct.intro RX0 rfl (plainFor_of_name (by decide)) (Nat.le_of_ble_eq_true rfl) rfl ?_
  intro p e s m args below meth c A C H locs hs ls hl
  obtain ⟨hx, hb, hml, hown, hts, hK, hret, hlk⟩ := id C
  have hl : lv_has ls 3 [(0, .ref (ad 0)), (1, .int p0)] := hl
  unfold X0_lackOf at hf
  refine lv_iload_n hx hb (dk hX0_lackOf_0 0 rfl) rfl (lv_at hl 1 rfl) ?_
  refine lv_if_lt (tgt := 10) hx hb (dk hX0_lackOf_0 1 rfl) (by decide) (fun hc => ?_) (fun hc => ?_)
  · replace hf := ip hf hc
    refine lv_iconst (v := (0 : Int32)) hx hb (dk hX0_lackOf_0 5 rfl) (by decide) ?_
    cases hf
    exact ri C hs (dk hX0_lackOf_0 6 rfl)
  · replace hf := in_ hf hc
    refine lv_iload_n hx hb (dk hX0_lackOf_0 2 rfl) rfl (lv_at hl 1 rfl) ?_
    refine lv_bipush (v := (6 : Int32)) hx hb (dk hX0_lackOf_0 3 rfl) (by decide) ?_
    refine lv_icmp_lt (tgt := 12) hx hb (dk hX0_lackOf_0 4 rfl) (by decide) (fun hc => ?_) (fun hc => ?_)
    · replace hf := ip hf hc
      refine lv_bipush (v := (7 : Int32)) hx hb (dk hX0_lackOf_0 7 rfl) (by decide) ?_
      refine lv_aload_n hx hb (dk hX0_lackOf_0 8 rfl) rfl (lv_at hl 0 rfl) ?_
      refine rg ui0 rfl C hs 0 rfl 1 (by decide) tw_41 rfl rfl (dk hX0_lackOf_0 9 rfl) ?_
      refine lv_iload_n hx hb (dk hX0_lackOf_0 10 rfl) rfl (lv_at hl 1 rfl) ?_
      obtain ⟨v_1, e_2, hf⟩ := Option.bind_eq_some_iff.mp hf
      refine rild C hs 2 rfl e_2 (dk hX0_lackOf_0 11 rfl) ?_
      refine lv_imul hx hb (dk hX0_lackOf_0 12 rfl) ?_
      refine lv_aload_n hx hb (dk hX0_lackOf_0 13 rfl) rfl (lv_at hl 0 rfl) ?_
      refine rg ui0 rfl C hs 0 rfl 0 (by decide) tw_38 rfl rfl (dk hX0_lackOf_0 14 rfl) ?_
      refine lv_iload_n hx hb (dk hX0_lackOf_0 15 rfl) rfl (lv_at hl 1 rfl) ?_
      obtain ⟨v_3, e_4, hf⟩ := Option.bind_eq_some_iff.mp hf
      refine rild C hs 1 rfl e_4 (dk hX0_lackOf_0 16 rfl) ?_
      refine lv_isub hx hb (dk hX0_lackOf_0 17 rfl) ?_
      refine lv_istore_n (lv' := [(2, .int (((7 : Int32) * v_1) - v_3)), (0, .ref (ad 0)), (1, .int p0)]) hx hb (dk hX0_lackOf_0 18 rfl) rfl hl (by decide) rfl (fun ls hl => ?_)
      refine lv_iload_n hx hb (dk hX0_lackOf_0 19 rfl) rfl (lv_at hl 0 rfl) ?_
      refine lv_if_le (tgt := 37) hx hb (dk hX0_lackOf_0 20 rfl) (by decide) (fun hc => ?_) (fun hc => ?_)
      · replace hf := ip hf hc
        refine lv_iconst (v := (0 : Int32)) hx hb (dk hX0_lackOf_0 23 rfl) (by decide) ?_
        cases hf
        exact ri C hs (dk hX0_lackOf_0 24 rfl)
      · replace hf := in_ hf hc
        refine lv_iload_n hx hb (dk hX0_lackOf_0 21 rfl) rfl (lv_at hl 0 rfl) ?_
        refine lv_goto (tgt := 38) hx hb (dk hX0_lackOf_0 22 rfl) (by decide) ?_
        cases hf
        exact ri C hs (dk hX0_lackOf_0 24 rfl)
    · replace hf := in_ hf hc
      refine lv_iconst (v := (0 : Int32)) hx hb (dk hX0_lackOf_0 5 rfl) (by decide) ?_
      cases hf
      exact ri C hs (dk hX0_lackOf_0 6 rfl)

def X0_lackOfAll_L4 (k : Int32 → Option (Int32)) (there : List Int32) (used : List Int32) : Nat → Int32 → Int32 → Option (Int32)
  | 0, _, _ => none
  | n + 1, x1, x2 =>
  if (6 : Int32) ≤ x2 then
  k x1
  else
  (X0_lackOf there used x2).bind fun u_1 =>
  X0_lackOfAll_L4 k there used n (x1 + u_1) (x2 + (1 : Int32))
def X0_lackOfAll (there : List Int32) (used : List Int32) : Option (Int32) :=
  X0_lackOfAll_L4 (fun y1_3 =>
  some y1_3) there used 1000 (0 : Int32) (0 : Int32)
set_option maxRecDepth 100000 in
set_option maxHeartbeats 4000000 in
theorem l_X0_lackOfAll_L4 {l : Launch} {p : Program} {e : Env} {s : State} {m : MethodId} {args : Array Value} {below : List Frame} {meth : Method} {c : Code} {A : Nat → Prop} {G : Gx} {ad : Nat → Nat} {there used hidden kind figure cargo load : List Int32} {ships inn coughs day : Int32} {k : Int32 → Option (Int32)} {out : Int32} (C : Cx p s m args meth c cX0_lackOfAll RX0 3 (some .int) G) : ∀ (n : Nat) (x1 : Int32) (x2 : Int32), X0_lackOfAll_L4 k there used n x1 x2 = some out → ∀ (H : Heap) (locs : List Loc), St G A s.heap H locs (wH G ad there used hidden kind figure cargo load ships inn coughs day) → ∀ ls : Array Slot, lv_has ls 3 [(0, .ref (ad 0)), (1, .int x1), (2, .int x2)] → (∀ (y1 : Int32), k y1 = some out → ∀ (H : Heap) (locs : List Loc), St G A s.heap H locs (wH G ad there used hidden kind figure cargo load ships inn coughs day) → ∀ ls : Array Slot, lv_has ls 3 [(1, .int y1)] → W p l e (rmOf 1 22) s m args below meth c H locs 0 0 (MQ below (Qof G A (some (.int out)) (wH G ad there used hidden kind figure cargo load ships inn coughs day)) args s 0 0 A) (F0 m 24 ls [])) → W p l e (rmOf 1 22) s m args below meth c H locs 0 0 (MQ below (Qof G A (some (.int out)) (wH G ad there used hidden kind figure cargo load ships inn coughs day)) args s 0 0 A) (F0 m 4 ls []) := by
  obtain ⟨hx, hb, hml, hown, hts, hK, hret, hlk⟩ := id C
  intro n
  induction n with
  | zero => intro x1 x2 hf; cases hf
  | succ n ih =>
    intro x1 x2 hf H locs hs ls hl hk
    rw [X0_lackOfAll_L4] at hf
    refine lv_iload_n hx hb (dk hX0_lackOfAll_0 4 rfl) rfl (lv_at hl 2 rfl) ?_
    refine lv_bipush (v := (6 : Int32)) hx hb (dk hX0_lackOfAll_0 5 rfl) (by decide) ?_
    refine lv_icmp_ge (tgt := 24) hx hb (dk hX0_lackOfAll_0 6 rfl) (by decide) (fun hc => ?_) (fun hc => ?_)
    · replace hf := ip hf hc
      exact hk _ hf _ _ hs _ (lv_sub hl [1] rfl)
    · replace hf := in_ hf hc
      refine lv_iload_n hx hb (dk hX0_lackOfAll_0 7 rfl) rfl (lv_at hl 1 rfl) ?_
      refine lv_aload_n hx hb (dk hX0_lackOfAll_0 8 rfl) rfl (lv_at hl 0 rfl) ?_
      refine lv_iload_n hx hb (dk hX0_lackOfAll_0 9 rfl) rfl (lv_at hl 2 rfl) ?_
      obtain ⟨u_1, e_2, hf⟩ := Option.bind_eq_some_iff.mp hf
      refine Ct.V (As := [.int x2]) (rest := [.int x1]) (st1 := [.int u_1, .int x1]) (w1 := (wH G ad there used hidden kind figure cargo load ships inn coughs day)) C hs (c_X0_lackOf e_2) tw_198 tw_171 tw_172 tw_18 tw_173 nq_X0_lackOf (by decide) 0 0 rfl rfl rfl rfl hl.1 rfl (Nat.le_of_ble_eq_true rfl) (dk hX0_lackOfAll_0 10 rfl) ⟨Nat.zero_le _, Nat.zero_le _⟩ rfl (fun H locs hs => ?_)
      refine lv_iadd hx hb (dk hX0_lackOfAll_0 11 rfl) ?_
      refine lv_istore_n (lv' := [(1, .int (x1 + u_1)), (0, .ref (ad 0)), (2, .int x2)]) hx hb (dk hX0_lackOfAll_0 12 rfl) rfl hl (by decide) rfl (fun ls hl => ?_)
      refine lv_iinc (v := (x2 + (1 : Int32))) (lv' := [(2, .int (x2 + (1 : Int32))), (1, .int (x1 + u_1)), (0, .ref (ad 0))]) hx hb (dk hX0_lackOfAll_0 13 rfl) hl (k := 2) rfl (by first | rfl | decide) (by decide) rfl (fun ls hl => ?_)
      refine lv_goto (tgt := 4) hx hb (dk hX0_lackOfAll_0 14 rfl) (by decide) ?_
      exact ih _ _ hf _ _ hs _ (lv_sub hl [2, 1, 0] rfl) hk
set_option maxRecDepth 100000 in
set_option maxHeartbeats 4000000 in
theorem c_X0_lackOfAll {l : Launch} {G : Gx} {ad : Nat → Nat} {there used hidden kind figure cargo load : List Int32} {ships inn coughs day : Int32}  {out : Int32} (hf : X0_lackOfAll there used = some out) : Ct l G yX0_lackOfAll cX0_lackOfAll 3 (some .int) 1 22 [.ref (ad 0)] (wH G ad there used hidden kind figure cargo load ships inn coughs day) (some (.int out)) (wH G ad there used hidden kind figure cargo load ships inn coughs day) := by
  refine Ct.intro RX0 rfl (plainFor_of_name (by decide)) (Nat.le_of_ble_eq_true rfl) rfl ?_
  intro p e s m args below meth c A C H locs hs ls hl
  obtain ⟨hx, hb, hml, hown, hts, hK, hret, hlk⟩ := id C
  have hl : lv_has ls 3 [(0, .ref (ad 0))] := hl
  unfold X0_lackOfAll at hf
  refine lv_iconst (v := (0 : Int32)) hx hb (dk hX0_lackOfAll_0 0 rfl) (by decide) ?_
  refine lv_istore_n (lv' := [(1, .int (0 : Int32)), (0, .ref (ad 0))]) hx hb (dk hX0_lackOfAll_0 1 rfl) rfl hl (by decide) rfl (fun ls hl => ?_)
  refine lv_iconst (v := (0 : Int32)) hx hb (dk hX0_lackOfAll_0 2 rfl) (by decide) ?_
  refine lv_istore_n (lv' := [(2, .int (0 : Int32)), (1, .int (0 : Int32)), (0, .ref (ad 0))]) hx hb (dk hX0_lackOfAll_0 3 rfl) rfl hl (by decide) rfl (fun ls hl => ?_)
  refine l_X0_lackOfAll_L4 C 1000 _ _ hf _ _ hs _ (lv_sub hl [2, 1, 0] rfl) (fun y1_3 hf H locs hs ls hl => ?_)
  refine lv_iload_n hx hb (dk hX0_lackOfAll_0 15 rfl) rfl (lv_at hl 0 rfl) ?_
  cases hf
  exact ri C hs (dk hX0_lackOfAll_0 16 rfl)

def X0_notLacked_L4 (k : Int32 → Option (Int32)) (there : List Int32) (used : List Int32) : Nat → Int32 → Int32 → Option (Int32)
  | 0, _, _ => none
  | n + 1, x1, x2 =>
  if (6 : Int32) ≤ x2 then
  k x1
  else
  (X0_lackOf there used x2).bind fun u_1 =>
  if u_1 = (0 : Int32) then
  X0_notLacked_L4 k there used n (x1 + (1 : Int32)) (x2 + (1 : Int32))
  else
  X0_notLacked_L4 k there used n x1 (x2 + (1 : Int32))
def X0_notLacked (there : List Int32) (used : List Int32) : Option (Int32) :=
  X0_notLacked_L4 (fun y1_3 =>
  some y1_3) there used 1000 (0 : Int32) (0 : Int32)
set_option maxRecDepth 100000 in
set_option maxHeartbeats 4000000 in
theorem l_X0_notLacked_L4 {l : Launch} {p : Program} {e : Env} {s : State} {m : MethodId} {args : Array Value} {below : List Frame} {meth : Method} {c : Code} {A : Nat → Prop} {G : Gx} {ad : Nat → Nat} {there used hidden kind figure cargo load : List Int32} {ships inn coughs day : Int32} {k : Int32 → Option (Int32)} {out : Int32} (C : Cx p s m args meth c cX0_notLacked RX0 3 (some .int) G) : ∀ (n : Nat) (x1 : Int32) (x2 : Int32), X0_notLacked_L4 k there used n x1 x2 = some out → ∀ (H : Heap) (locs : List Loc), St G A s.heap H locs (wH G ad there used hidden kind figure cargo load ships inn coughs day) → ∀ ls : Array Slot, lv_has ls 3 [(0, .ref (ad 0)), (1, .int x1), (2, .int x2)] → (∀ (y1 : Int32), k y1 = some out → ∀ (H : Heap) (locs : List Loc), St G A s.heap H locs (wH G ad there used hidden kind figure cargo load ships inn coughs day) → ∀ ls : Array Slot, lv_has ls 3 [(1, .int y1)] → W p l e (rmOf 1 22) s m args below meth c H locs 0 0 (MQ below (Qof G A (some (.int out)) (wH G ad there used hidden kind figure cargo load ships inn coughs day)) args s 0 0 A) (F0 m 27 ls [])) → W p l e (rmOf 1 22) s m args below meth c H locs 0 0 (MQ below (Qof G A (some (.int out)) (wH G ad there used hidden kind figure cargo load ships inn coughs day)) args s 0 0 A) (F0 m 4 ls []) := by
  obtain ⟨hx, hb, hml, hown, hts, hK, hret, hlk⟩ := id C
  intro n
  induction n with
  | zero => intro x1 x2 hf; cases hf
  | succ n ih =>
    intro x1 x2 hf H locs hs ls hl hk
    rw [X0_notLacked_L4] at hf
    refine lv_iload_n hx hb (dk hX0_notLacked_0 4 rfl) rfl (lv_at hl 2 rfl) ?_
    refine lv_bipush (v := (6 : Int32)) hx hb (dk hX0_notLacked_0 5 rfl) (by decide) ?_
    refine lv_icmp_ge (tgt := 27) hx hb (dk hX0_notLacked_0 6 rfl) (by decide) (fun hc => ?_) (fun hc => ?_)
    · replace hf := ip hf hc
      exact hk _ hf _ _ hs _ (lv_sub hl [1] rfl)
    · replace hf := in_ hf hc
      refine lv_aload_n hx hb (dk hX0_notLacked_0 7 rfl) rfl (lv_at hl 0 rfl) ?_
      refine lv_iload_n hx hb (dk hX0_notLacked_0 8 rfl) rfl (lv_at hl 2 rfl) ?_
      obtain ⟨u_1, e_2, hf⟩ := Option.bind_eq_some_iff.mp hf
      refine Ct.V (As := [.int x2]) (rest := []) (st1 := [.int u_1]) (w1 := (wH G ad there used hidden kind figure cargo load ships inn coughs day)) C hs (c_X0_lackOf e_2) tw_198 tw_171 tw_172 tw_18 tw_173 nq_X0_lackOf (by decide) 0 0 rfl rfl rfl rfl hl.1 rfl (Nat.le_of_ble_eq_true rfl) (dk hX0_notLacked_0 9 rfl) ⟨Nat.zero_le _, Nat.zero_le _⟩ rfl (fun H locs hs => ?_)
      refine lv_if_ne (tgt := 21) hx hb (dk hX0_notLacked_0 10 rfl) (by decide) (fun hc => ?_) (fun hc => ?_)
      · replace hf := in_ hf hc
        refine lv_iinc (v := (x2 + (1 : Int32))) (lv' := [(2, .int (x2 + (1 : Int32))), (0, .ref (ad 0)), (1, .int x1)]) hx hb (dk hX0_notLacked_0 12 rfl) hl (k := 2) rfl (by first | rfl | decide) (by decide) rfl (fun ls hl => ?_)
        refine lv_goto (tgt := 4) hx hb (dk hX0_notLacked_0 13 rfl) (by decide) ?_
        exact ih _ _ hf _ _ hs _ (lv_sub hl [1, 2, 0] rfl) hk
      · replace hf := ip hf hc
        refine lv_iinc (v := (x1 + (1 : Int32))) (lv' := [(1, .int (x1 + (1 : Int32))), (0, .ref (ad 0)), (2, .int x2)]) hx hb (dk hX0_notLacked_0 11 rfl) hl (k := 1) rfl (by first | rfl | decide) (by decide) rfl (fun ls hl => ?_)
        refine lv_iinc (v := (x2 + (1 : Int32))) (lv' := [(2, .int (x2 + (1 : Int32))), (1, .int (x1 + (1 : Int32))), (0, .ref (ad 0))]) hx hb (dk hX0_notLacked_0 12 rfl) hl (k := 2) rfl (by first | rfl | decide) (by decide) rfl (fun ls hl => ?_)
        refine lv_goto (tgt := 4) hx hb (dk hX0_notLacked_0 13 rfl) (by decide) ?_
        exact ih _ _ hf _ _ hs _ (lv_sub hl [2, 1, 0] rfl) hk
set_option maxRecDepth 100000 in
set_option maxHeartbeats 4000000 in
theorem c_X0_notLacked {l : Launch} {G : Gx} {ad : Nat → Nat} {there used hidden kind figure cargo load : List Int32} {ships inn coughs day : Int32}  {out : Int32} (hf : X0_notLacked there used = some out) : Ct l G yX0_notLacked cX0_notLacked 3 (some .int) 1 22 [.ref (ad 0)] (wH G ad there used hidden kind figure cargo load ships inn coughs day) (some (.int out)) (wH G ad there used hidden kind figure cargo load ships inn coughs day) := by
  refine Ct.intro RX0 rfl (plainFor_of_name (by decide)) (Nat.le_of_ble_eq_true rfl) rfl ?_
  intro p e s m args below meth c A C H locs hs ls hl
  obtain ⟨hx, hb, hml, hown, hts, hK, hret, hlk⟩ := id C
  have hl : lv_has ls 3 [(0, .ref (ad 0))] := hl
  unfold X0_notLacked at hf
  refine lv_iconst (v := (0 : Int32)) hx hb (dk hX0_notLacked_0 0 rfl) (by decide) ?_
  refine lv_istore_n (lv' := [(1, .int (0 : Int32)), (0, .ref (ad 0))]) hx hb (dk hX0_notLacked_0 1 rfl) rfl hl (by decide) rfl (fun ls hl => ?_)
  refine lv_iconst (v := (0 : Int32)) hx hb (dk hX0_notLacked_0 2 rfl) (by decide) ?_
  refine lv_istore_n (lv' := [(2, .int (0 : Int32)), (1, .int (0 : Int32)), (0, .ref (ad 0))]) hx hb (dk hX0_notLacked_0 3 rfl) rfl hl (by decide) rfl (fun ls hl => ?_)
  refine l_X0_notLacked_L4 C 1000 _ _ hf _ _ hs _ (lv_sub hl [2, 1, 0] rfl) (fun y1_3 hf H locs hs ls hl => ?_)
  refine lv_iload_n hx hb (dk hX0_notLacked_0 14 rfl) rfl (lv_at hl 0 rfl) ?_
  cases hf
  exact ri C hs (dk hX0_notLacked_0 15 rfl)

def X0_firstBare_L2 (k : Unit → Option (Int32)) (there : List Int32) : Nat → Int32 → Option (Int32)
  | 0, _ => none
  | n + 1, x1 =>
  if (6 : Int32) ≤ x1 then
  k ()
  else
  (rd there x1).bind fun v_1 =>
  if v_1 = (0 : Int32) then
  some x1
  else
  X0_firstBare_L2 k there n (x1 + (1 : Int32))
def X0_firstBare (there : List Int32) : Option (Int32) :=
  X0_firstBare_L2 (fun _ =>
  some (-9 : Int32)) there 1000 (0 : Int32)
set_option maxRecDepth 100000 in
set_option maxHeartbeats 4000000 in
theorem l_X0_firstBare_L2 {l : Launch} {p : Program} {e : Env} {s : State} {m : MethodId} {args : Array Value} {below : List Frame} {meth : Method} {c : Code} {A : Nat → Prop} {G : Gx} {ad : Nat → Nat} {there used hidden kind figure cargo load : List Int32} {ships inn coughs day : Int32} {k : Unit → Option (Int32)} {out : Int32} (C : Cx p s m args meth c cX0_firstBare RX0 2 (some .int) G) : ∀ (n : Nat) (x1 : Int32), X0_firstBare_L2 k there n x1 = some out → ∀ (H : Heap) (locs : List Loc), St G A s.heap H locs (wH G ad there used hidden kind figure cargo load ships inn coughs day) → ∀ ls : Array Slot, lv_has ls 2 [(0, .ref (ad 0)), (1, .int x1)] → (∀ (_ : Unit), k () = some out → ∀ (H : Heap) (locs : List Loc), St G A s.heap H locs (wH G ad there used hidden kind figure cargo load ships inn coughs day) → ∀ ls : Array Slot, lv_has ls 2 [] → W p l e (rmOf 0 0) s m args below meth c H locs 0 0 (MQ below (Qof G A (some (.int out)) (wH G ad there used hidden kind figure cargo load ships inn coughs day)) args s 0 0 A) (F0 m 25 ls [])) → W p l e (rmOf 0 0) s m args below meth c H locs 0 0 (MQ below (Qof G A (some (.int out)) (wH G ad there used hidden kind figure cargo load ships inn coughs day)) args s 0 0 A) (F0 m 2 ls []) := by
  obtain ⟨hx, hb, hml, hown, hts, hK, hret, hlk⟩ := id C
  intro n
  induction n with
  | zero => intro x1 hf; cases hf
  | succ n ih =>
    intro x1 hf H locs hs ls hl hk
    rw [X0_firstBare_L2] at hf
    refine lv_iload_n hx hb (dk hX0_firstBare_0 2 rfl) rfl (lv_at hl 1 rfl) ?_
    refine lv_bipush (v := (6 : Int32)) hx hb (dk hX0_firstBare_0 3 rfl) (by decide) ?_
    refine lv_icmp_ge (tgt := 25) hx hb (dk hX0_firstBare_0 4 rfl) (by decide) (fun hc => ?_) (fun hc => ?_)
    · replace hf := ip hf hc
      exact hk () hf _ _ hs _ (lv_sub hl [] rfl)
    · replace hf := in_ hf hc
      refine lv_aload_n hx hb (dk hX0_firstBare_0 5 rfl) rfl (lv_at hl 0 rfl) ?_
      refine rg ui0 rfl C hs 0 rfl 0 (by decide) tw_38 rfl rfl (dk hX0_firstBare_0 6 rfl) ?_
      refine lv_iload_n hx hb (dk hX0_firstBare_0 7 rfl) rfl (lv_at hl 1 rfl) ?_
      obtain ⟨v_1, e_2, hf⟩ := Option.bind_eq_some_iff.mp hf
      refine rild C hs 1 rfl e_2 (dk hX0_firstBare_0 8 rfl) ?_
      refine lv_if_ne (tgt := 19) hx hb (dk hX0_firstBare_0 9 rfl) (by decide) (fun hc => ?_) (fun hc => ?_)
      · replace hf := in_ hf hc
        refine lv_iinc (v := (x1 + (1 : Int32))) (lv' := [(1, .int (x1 + (1 : Int32))), (0, .ref (ad 0))]) hx hb (dk hX0_firstBare_0 12 rfl) hl (k := 1) rfl (by first | rfl | decide) (by decide) rfl (fun ls hl => ?_)
        refine lv_goto (tgt := 2) hx hb (dk hX0_firstBare_0 13 rfl) (by decide) ?_
        exact ih _ hf _ _ hs _ (lv_sub hl [1, 0] rfl) hk
      · replace hf := ip hf hc
        refine lv_iload_n hx hb (dk hX0_firstBare_0 10 rfl) rfl (lv_at hl 1 rfl) ?_
        cases hf
        exact ri C hs (dk hX0_firstBare_0 11 rfl)
set_option maxRecDepth 100000 in
set_option maxHeartbeats 4000000 in
theorem c_X0_firstBare {l : Launch} {G : Gx} {ad : Nat → Nat} {there used hidden kind figure cargo load : List Int32} {ships inn coughs day : Int32}  {out : Int32} (hf : X0_firstBare there = some out) : Ct l G yX0_firstBare cX0_firstBare 2 (some .int) 0 0 [.ref (ad 0)] (wH G ad there used hidden kind figure cargo load ships inn coughs day) (some (.int out)) (wH G ad there used hidden kind figure cargo load ships inn coughs day) := by
  refine Ct.intro RX0 rfl (plainFor_of_name (by decide)) (Nat.le_of_ble_eq_true rfl) rfl ?_
  intro p e s m args below meth c A C H locs hs ls hl
  obtain ⟨hx, hb, hml, hown, hts, hK, hret, hlk⟩ := id C
  have hl : lv_has ls 2 [(0, .ref (ad 0))] := hl
  unfold X0_firstBare at hf
  refine lv_iconst (v := (0 : Int32)) hx hb (dk hX0_firstBare_0 0 rfl) (by decide) ?_
  refine lv_istore_n (lv' := [(1, .int (0 : Int32)), (0, .ref (ad 0))]) hx hb (dk hX0_firstBare_0 1 rfl) rfl hl (by decide) rfl (fun ls hl => ?_)
  refine l_X0_firstBare_L2 C 1000 _ hf _ _ hs _ (lv_sub hl [1, 0] rfl) (fun _ hf H locs hs ls hl => ?_)
  refine lv_bipush (v := (-9 : Int32)) hx hb (dk hX0_firstBare_0 14 rfl) (by decide) ?_
  cases hf
  exact ri C hs (dk hX0_firstBare_0 15 rfl)

def X0_draws (kind : List Int32) (figure : List Int32) (p0 : Int32) : Option (Int32) :=
  (rd kind p0).bind fun v_1 =>
  if v_1 = (1 : Int32) then
  some (1 : Int32)
  else
  if v_1 = (2 : Int32) then
  (rd figure p0).bind fun v_4 =>
  some ((v_4 / (2 : Int32)) + (2 : Int32))
  else
  if v_1 = (3 : Int32) then
  some (2 : Int32)
  else
  if v_1 = (4 : Int32) then
  (rd figure p0).bind fun v_8 =>
  some (v_8 + (4 : Int32))
  else
  if v_1 = (5 : Int32) then
  (rd figure p0).bind fun v_11 =>
  some ((v_11 + (4 : Int32)) / (2 : Int32))
  else
  (rd figure p0).bind fun v_14 =>
  some (v_14 + (3 : Int32))
set_option maxRecDepth 100000 in
set_option maxHeartbeats 4000000 in
theorem c_X0_draws {l : Launch} {G : Gx} {ad : Nat → Nat} {there used hidden kind figure cargo load : List Int32} {ships inn coughs day : Int32} {p0 : Int32} {out : Int32} (hf : X0_draws kind figure p0 = some out) : Ct l G yX0_draws cX0_draws 2 (some .int) 0 0 [.ref (ad 0), .int p0] (wH G ad there used hidden kind figure cargo load ships inn coughs day) (some (.int out)) (wH G ad there used hidden kind figure cargo load ships inn coughs day) := by
  refine Ct.intro RX0 rfl (plainFor_of_name (by decide)) (Nat.le_of_ble_eq_true rfl) rfl ?_
  intro p e s m args below meth c A C H locs hs ls hl
  obtain ⟨hx, hb, hml, hown, hts, hK, hret, hlk⟩ := id C
  have hl : lv_has ls 2 [(0, .ref (ad 0)), (1, .int p0)] := hl
  unfold X0_draws at hf
  refine lv_aload_n hx hb (dk hX0_draws_0 0 rfl) rfl (lv_at hl 0 rfl) ?_
  refine rg ui0 rfl C hs 0 rfl 3 (by decide) tw_46 rfl rfl (dk hX0_draws_0 1 rfl) ?_
  refine lv_iload_n hx hb (dk hX0_draws_0 2 rfl) rfl (lv_at hl 1 rfl) ?_
  obtain ⟨v_1, e_2, hf⟩ := Option.bind_eq_some_iff.mp hf
  refine rild C hs 4 rfl e_2 (dk hX0_draws_0 3 rfl) ?_
  by_cases hc_3 : v_1 = (1 : Int32)
  · replace hf := ip hf hc_3
    refine rts (tgt := 40) (off := 34) hx hb (dk hX0_draws_0 4 rfl) hc_3 (by decide) (by decide) (by decide) (by decide) ?_
    refine lv_iconst (v := (1 : Int32)) hx hb (dk hX0_draws_0 5 rfl) (by decide) ?_
    cases hf
    exact ri C hs (dk hX0_draws_0 6 rfl)
  · replace hf := in_ hf hc_3
    by_cases hc_6 : v_1 = (2 : Int32)
    · replace hf := ip hf hc_6
      refine rts (tgt := 42) (off := 36) hx hb (dk hX0_draws_0 4 rfl) hc_6 (by decide) (by decide) (by decide) (by decide) ?_
      refine lv_aload_n hx hb (dk hX0_draws_0 7 rfl) rfl (lv_at hl 0 rfl) ?_
      refine rg ui0 rfl C hs 0 rfl 4 (by decide) tw_48 rfl rfl (dk hX0_draws_0 8 rfl) ?_
      refine lv_iload_n hx hb (dk hX0_draws_0 9 rfl) rfl (lv_at hl 1 rfl) ?_
      obtain ⟨v_4, e_5, hf⟩ := Option.bind_eq_some_iff.mp hf
      refine rild C hs 5 rfl e_5 (dk hX0_draws_0 10 rfl) ?_
      refine lv_iconst (v := (2 : Int32)) hx hb (dk hX0_draws_0 11 rfl) (by decide) ?_
      refine lv_idiv hx hb (dk hX0_draws_0 12 rfl) (by decide) ?_
      refine lv_iconst (v := (2 : Int32)) hx hb (dk hX0_draws_0 13 rfl) (by decide) ?_
      refine lv_iadd hx hb (dk hX0_draws_0 14 rfl) ?_
      cases hf
      exact ri C hs (dk hX0_draws_0 15 rfl)
    · replace hf := in_ hf hc_6
      by_cases hc_7 : v_1 = (3 : Int32)
      · replace hf := ip hf hc_7
        refine rts (tgt := 53) (off := 47) hx hb (dk hX0_draws_0 4 rfl) hc_7 (by decide) (by decide) (by decide) (by decide) ?_
        refine lv_iconst (v := (2 : Int32)) hx hb (dk hX0_draws_0 16 rfl) (by decide) ?_
        cases hf
        exact ri C hs (dk hX0_draws_0 17 rfl)
      · replace hf := in_ hf hc_7
        by_cases hc_10 : v_1 = (4 : Int32)
        · replace hf := ip hf hc_10
          refine rts (tgt := 55) (off := 49) hx hb (dk hX0_draws_0 4 rfl) hc_10 (by decide) (by decide) (by decide) (by decide) ?_
          refine lv_aload_n hx hb (dk hX0_draws_0 18 rfl) rfl (lv_at hl 0 rfl) ?_
          refine rg ui0 rfl C hs 0 rfl 4 (by decide) tw_48 rfl rfl (dk hX0_draws_0 19 rfl) ?_
          refine lv_iload_n hx hb (dk hX0_draws_0 20 rfl) rfl (lv_at hl 1 rfl) ?_
          obtain ⟨v_8, e_9, hf⟩ := Option.bind_eq_some_iff.mp hf
          refine rild C hs 5 rfl e_9 (dk hX0_draws_0 21 rfl) ?_
          refine lv_iconst (v := (4 : Int32)) hx hb (dk hX0_draws_0 22 rfl) (by decide) ?_
          refine lv_iadd hx hb (dk hX0_draws_0 23 rfl) ?_
          cases hf
          exact ri C hs (dk hX0_draws_0 24 rfl)
        · replace hf := in_ hf hc_10
          by_cases hc_13 : v_1 = (5 : Int32)
          · replace hf := ip hf hc_13
            refine rts (tgt := 64) (off := 58) hx hb (dk hX0_draws_0 4 rfl) hc_13 (by decide) (by decide) (by decide) (by decide) ?_
            refine lv_aload_n hx hb (dk hX0_draws_0 25 rfl) rfl (lv_at hl 0 rfl) ?_
            refine rg ui0 rfl C hs 0 rfl 4 (by decide) tw_48 rfl rfl (dk hX0_draws_0 26 rfl) ?_
            refine lv_iload_n hx hb (dk hX0_draws_0 27 rfl) rfl (lv_at hl 1 rfl) ?_
            obtain ⟨v_11, e_12, hf⟩ := Option.bind_eq_some_iff.mp hf
            refine rild C hs 5 rfl e_12 (dk hX0_draws_0 28 rfl) ?_
            refine lv_iconst (v := (4 : Int32)) hx hb (dk hX0_draws_0 29 rfl) (by decide) ?_
            refine lv_iadd hx hb (dk hX0_draws_0 30 rfl) ?_
            refine lv_iconst (v := (2 : Int32)) hx hb (dk hX0_draws_0 31 rfl) (by decide) ?_
            refine lv_idiv hx hb (dk hX0_draws_0 32 rfl) (by decide) ?_
            cases hf
            exact ri C hs (dk hX0_draws_0 33 rfl)
          · replace hf := in_ hf hc_13
            refine rtd (tgt := 75) hx hb (dk hX0_draws_0 4 rfl) [0, 1, 2, 3, 4] (by decide) (by decide) (List.forall_mem_cons.mpr ⟨ti hc_3 (by decide), List.forall_mem_cons.mpr ⟨ti hc_6 (by decide), List.forall_mem_cons.mpr ⟨ti hc_7 (by decide), List.forall_mem_cons.mpr ⟨ti hc_10 (by decide), List.forall_mem_cons.mpr ⟨ti hc_13 (by decide), fun _ h => absurd h List.not_mem_nil⟩⟩⟩⟩⟩) (by decide) ?_
            refine lv_aload_n hx hb (dk hX0_draws_0 34 rfl) rfl (lv_at hl 0 rfl) ?_
            refine rg ui0 rfl C hs 0 rfl 4 (by decide) tw_48 rfl rfl (dk hX0_draws_0 35 rfl) ?_
            refine lv_iload_n hx hb (dk hX0_draws_0 36 rfl) rfl (lv_at hl 1 rfl) ?_
            obtain ⟨v_14, e_15, hf⟩ := Option.bind_eq_some_iff.mp hf
            refine rild C hs 5 rfl e_15 (dk hX0_draws_0 37 rfl) ?_
            refine lv_iconst (v := (3 : Int32)) hx hb (dk hX0_draws_0 38 rfl) (by decide) ?_
            refine lv_iadd hx hb (dk hX0_draws_0 39 rfl) ?_
            cases hf
            exact ri C hs (dk hX0_draws_1 0 rfl)

def X0_hiddenOf (hidden : List Int32) (p0 : Int32) : Option (Int32) :=
  if p0 < (0 : Int32) then
  some (0 : Int32)
  else
  if (6 : Int32) ≤ p0 then
  some (0 : Int32)
  else
  (rd hidden p0).bind fun v_1 =>
  some v_1
set_option maxRecDepth 100000 in
set_option maxHeartbeats 4000000 in
theorem c_X0_hiddenOf {l : Launch} {G : Gx} {ad : Nat → Nat} {there used hidden kind figure cargo load : List Int32} {ships inn coughs day : Int32} {p0 : Int32} {out : Int32} (hf : X0_hiddenOf hidden p0 = some out) : Ct l G yX0_hiddenOf cX0_hiddenOf 2 (some .int) 0 0 [.ref (ad 0), .int p0] (wH G ad there used hidden kind figure cargo load ships inn coughs day) (some (.int out)) (wH G ad there used hidden kind figure cargo load ships inn coughs day) := by
  refine Ct.intro RX0 rfl (plainFor_of_name (by decide)) (Nat.le_of_ble_eq_true rfl) rfl ?_
  intro p e s m args below meth c A C H locs hs ls hl
  obtain ⟨hx, hb, hml, hown, hts, hK, hret, hlk⟩ := id C
  have hl : lv_has ls 2 [(0, .ref (ad 0)), (1, .int p0)] := hl
  unfold X0_hiddenOf at hf
  refine lv_iload_n hx hb (dk hX0_hiddenOf_0 0 rfl) rfl (lv_at hl 1 rfl) ?_
  refine lv_if_lt (tgt := 19) hx hb (dk hX0_hiddenOf_0 1 rfl) (by decide) (fun hc => ?_) (fun hc => ?_)
  · replace hf := ip hf hc
    refine lv_iconst (v := (0 : Int32)) hx hb (dk hX0_hiddenOf_0 10 rfl) (by decide) ?_
    cases hf
    exact ri C hs (dk hX0_hiddenOf_0 11 rfl)
  · replace hf := in_ hf hc
    refine lv_iload_n hx hb (dk hX0_hiddenOf_0 2 rfl) rfl (lv_at hl 1 rfl) ?_
    refine lv_bipush (v := (6 : Int32)) hx hb (dk hX0_hiddenOf_0 3 rfl) (by decide) ?_
    refine lv_icmp_ge (tgt := 19) hx hb (dk hX0_hiddenOf_0 4 rfl) (by decide) (fun hc => ?_) (fun hc => ?_)
    · replace hf := ip hf hc
      refine lv_iconst (v := (0 : Int32)) hx hb (dk hX0_hiddenOf_0 10 rfl) (by decide) ?_
      cases hf
      exact ri C hs (dk hX0_hiddenOf_0 11 rfl)
    · replace hf := in_ hf hc
      refine lv_aload_n hx hb (dk hX0_hiddenOf_0 5 rfl) rfl (lv_at hl 0 rfl) ?_
      refine rg ui0 rfl C hs 0 rfl 2 (by decide) tw_44 rfl rfl (dk hX0_hiddenOf_0 6 rfl) ?_
      refine lv_iload_n hx hb (dk hX0_hiddenOf_0 7 rfl) rfl (lv_at hl 1 rfl) ?_
      obtain ⟨v_1, e_2, hf⟩ := Option.bind_eq_some_iff.mp hf
      refine rild C hs 3 rfl e_2 (dk hX0_hiddenOf_0 8 rfl) ?_
      refine lv_goto (tgt := 20) hx hb (dk hX0_hiddenOf_0 9 rfl) (by decide) ?_
      cases hf
      exact ri C hs (dk hX0_hiddenOf_0 11 rfl)

def X0_sinks (there : List Int32) (used : List Int32) (hidden : List Int32) (kind : List Int32) (cargo : List Int32) (coughs : Int32) (p0 : Int32) : Option (Int32) :=
  (rd cargo p0).bind fun v_1 =>
  (rd kind p0).bind fun v_3 =>
  if v_3 = (1 : Int32) then
  some (9 : Int32)
  else
  if v_3 = (2 : Int32) then
  (X0_notLacked there used).bind fun u_6 =>
  some u_6
  else
  if v_3 = (3 : Int32) then
  some (coughs / (9 : Int32))
  else
  if v_3 = (4 : Int32) then
  (X0_lackOf there used v_1).bind fun u_10 =>
  (X0_behind v_1).bind fun u_12 =>
  (X0_lackOf there used u_12).bind fun u_14 =>
  some ((u_10 / (3 : Int32)) + (u_14 / (3 : Int32)))
  else
  if v_3 = (5 : Int32) then
  (X0_lackOf there used v_1).bind fun u_17 =>
  (X0_behind v_1).bind fun u_19 =>
  (X0_lackOf there used u_19).bind fun u_21 =>
  (X0_hiddenOf hidden v_1).bind fun u_23 =>
  some (((u_17 / (3 : Int32)) + (u_21 / (3 : Int32))) + (u_23 / (10 : Int32)))
  else
  (X0_lackOf there used v_1).bind fun u_26 =>
  some (u_26 / (3 : Int32))
set_option maxRecDepth 100000 in
set_option maxHeartbeats 4000000 in
theorem c_X0_sinks {l : Launch} {G : Gx} {ad : Nat → Nat} {there used hidden kind figure cargo load : List Int32} {ships inn coughs day : Int32} {p0 : Int32} {out : Int32} (hf : X0_sinks there used hidden kind cargo coughs p0 = some out) : Ct l G yX0_sinks cX0_sinks 3 (some .int) 2 44 [.ref (ad 0), .int p0] (wH G ad there used hidden kind figure cargo load ships inn coughs day) (some (.int out)) (wH G ad there used hidden kind figure cargo load ships inn coughs day) := by
  refine Ct.intro RX0 rfl (plainFor_of_name (by decide)) (Nat.le_of_ble_eq_true rfl) rfl ?_
  intro p e s m args below meth c A C H locs hs ls hl
  obtain ⟨hx, hb, hml, hown, hts, hK, hret, hlk⟩ := id C
  have hl : lv_has ls 3 [(0, .ref (ad 0)), (1, .int p0)] := hl
  unfold X0_sinks at hf
  refine lv_aload_n hx hb (dk hX0_sinks_0 0 rfl) rfl (lv_at hl 0 rfl) ?_
  refine rg ui0 rfl C hs 0 rfl 5 (by decide) tw_50 rfl rfl (dk hX0_sinks_0 1 rfl) ?_
  refine lv_iload_n hx hb (dk hX0_sinks_0 2 rfl) rfl (lv_at hl 1 rfl) ?_
  obtain ⟨v_1, e_2, hf⟩ := Option.bind_eq_some_iff.mp hf
  refine rild C hs 6 rfl e_2 (dk hX0_sinks_0 3 rfl) ?_
  refine lv_istore_n (lv' := [(2, .int v_1), (0, .ref (ad 0)), (1, .int p0)]) hx hb (dk hX0_sinks_0 4 rfl) rfl hl (by decide) rfl (fun ls hl => ?_)
  refine lv_aload_n hx hb (dk hX0_sinks_0 5 rfl) rfl (lv_at hl 1 rfl) ?_
  refine rg ui0 rfl C hs 0 rfl 3 (by decide) tw_46 rfl rfl (dk hX0_sinks_0 6 rfl) ?_
  refine lv_iload_n hx hb (dk hX0_sinks_0 7 rfl) rfl (lv_at hl 2 rfl) ?_
  obtain ⟨v_3, e_4, hf⟩ := Option.bind_eq_some_iff.mp hf
  refine rild C hs 4 rfl e_4 (dk hX0_sinks_0 8 rfl) ?_
  by_cases hc_5 : v_3 = (1 : Int32)
  · replace hf := ip hf hc_5
    refine rts (tgt := 48) (off := 35) hx hb (dk hX0_sinks_0 9 rfl) hc_5 (by decide) (by decide) (by decide) (by decide) ?_
    refine lv_bipush (v := (9 : Int32)) hx hb (dk hX0_sinks_0 10 rfl) (by decide) ?_
    cases hf
    exact ri C hs (dk hX0_sinks_0 11 rfl)
  · replace hf := in_ hf hc_5
    by_cases hc_8 : v_3 = (2 : Int32)
    · replace hf := ip hf hc_8
      refine rts (tgt := 51) (off := 38) hx hb (dk hX0_sinks_0 9 rfl) hc_8 (by decide) (by decide) (by decide) (by decide) ?_
      refine lv_aload_n hx hb (dk hX0_sinks_0 12 rfl) rfl (lv_at hl 1 rfl) ?_
      obtain ⟨u_6, e_7, hf⟩ := Option.bind_eq_some_iff.mp hf
      refine Ct.V (As := []) (rest := []) (st1 := [.int u_6]) (w1 := (wH G ad there used hidden kind figure cargo load ships inn coughs day)) C hs (c_X0_notLacked e_7) tw_194 tw_195 tw_196 tw_18 tw_197 nq_X0_notLacked (by decide) 0 0 rfl rfl rfl rfl hl.1 rfl (Nat.le_of_ble_eq_true rfl) (dk hX0_sinks_0 13 rfl) ⟨Nat.zero_le _, Nat.zero_le _⟩ rfl (fun H locs hs => ?_)
      cases hf
      exact ri C hs (dk hX0_sinks_0 14 rfl)
    · replace hf := in_ hf hc_8
      by_cases hc_9 : v_3 = (3 : Int32)
      · replace hf := ip hf hc_9
        refine rts (tgt := 56) (off := 43) hx hb (dk hX0_sinks_0 9 rfl) hc_9 (by decide) (by decide) (by decide) (by decide) ?_
        refine lv_aload_n hx hb (dk hX0_sinks_0 15 rfl) rfl (lv_at hl 1 rfl) ?_
        refine rg ui0 rfl C hs 0 rfl 9 (by decide) tw_59 rfl rfl (dk hX0_sinks_0 16 rfl) ?_
        refine lv_bipush (v := (9 : Int32)) hx hb (dk hX0_sinks_0 17 rfl) (by decide) ?_
        refine lv_idiv hx hb (dk hX0_sinks_0 18 rfl) (by decide) ?_
        cases hf
        exact ri C hs (dk hX0_sinks_0 19 rfl)
      · replace hf := in_ hf hc_9
        by_cases hc_16 : v_3 = (4 : Int32)
        · replace hf := ip hf hc_16
          refine rts (tgt := 64) (off := 51) hx hb (dk hX0_sinks_0 9 rfl) hc_16 (by decide) (by decide) (by decide) (by decide) ?_
          refine lv_aload_n hx hb (dk hX0_sinks_0 20 rfl) rfl (lv_at hl 1 rfl) ?_
          refine lv_iload_n hx hb (dk hX0_sinks_0 21 rfl) rfl (lv_at hl 0 rfl) ?_
          obtain ⟨u_10, e_11, hf⟩ := Option.bind_eq_some_iff.mp hf
          refine Ct.V (As := [.int v_1]) (rest := []) (st1 := [.int u_10]) (w1 := (wH G ad there used hidden kind figure cargo load ships inn coughs day)) C hs (c_X0_lackOf e_11) tw_198 tw_171 tw_172 tw_18 tw_173 nq_X0_lackOf (by decide) 0 0 rfl rfl rfl rfl hl.1 rfl (Nat.le_of_ble_eq_true rfl) (dk hX0_sinks_0 22 rfl) ⟨Nat.zero_le _, Nat.zero_le _⟩ rfl (fun H locs hs => ?_)
          refine lv_iconst (v := (3 : Int32)) hx hb (dk hX0_sinks_0 23 rfl) (by decide) ?_
          refine lv_idiv hx hb (dk hX0_sinks_0 24 rfl) (by decide) ?_
          refine lv_aload_n hx hb (dk hX0_sinks_0 25 rfl) rfl (lv_at hl 1 rfl) ?_
          refine lv_iload_n hx hb (dk hX0_sinks_0 26 rfl) rfl (lv_at hl 0 rfl) ?_
          obtain ⟨u_12, e_13, hf⟩ := Option.bind_eq_some_iff.mp hf
          refine Ct.S (As := [.int v_1]) (rest := [.ref (ad 0), .int (u_10 / (3 : Int32))]) (st1 := [.int u_12, .ref (ad 0), .int (u_10 / (3 : Int32))]) (w1 := (wH G ad there used hidden kind figure cargo load ships inn coughs day)) C hs (c_X0_behind e_13) tw_199 tw_200 tw_18 tw_201 nq_X0_behind (by decide) rfl hl.1 rfl (Nat.le_of_ble_eq_true rfl) (dk hX0_sinks_0 27 rfl) ⟨Nat.zero_le _, Nat.zero_le _⟩ rfl (fun H locs hs => ?_)
          obtain ⟨u_14, e_15, hf⟩ := Option.bind_eq_some_iff.mp hf
          refine Ct.V (As := [.int u_12]) (rest := [.int (u_10 / (3 : Int32))]) (st1 := [.int u_14, .int (u_10 / (3 : Int32))]) (w1 := (wH G ad there used hidden kind figure cargo load ships inn coughs day)) C hs (c_X0_lackOf e_15) tw_198 tw_171 tw_172 tw_18 tw_173 nq_X0_lackOf (by decide) 0 0 rfl rfl rfl rfl hl.1 rfl (Nat.le_of_ble_eq_true rfl) (dk hX0_sinks_0 28 rfl) ⟨Nat.zero_le _, Nat.zero_le _⟩ rfl (fun H locs hs => ?_)
          refine lv_iconst (v := (3 : Int32)) hx hb (dk hX0_sinks_0 29 rfl) (by decide) ?_
          refine lv_idiv hx hb (dk hX0_sinks_0 30 rfl) (by decide) ?_
          refine lv_iadd hx hb (dk hX0_sinks_0 31 rfl) ?_
          cases hf
          exact ri C hs (dk hX0_sinks_0 32 rfl)
        · replace hf := in_ hf hc_16
          by_cases hc_25 : v_3 = (5 : Int32)
          · replace hf := ip hf hc_25
            refine rts (tgt := 83) (off := 70) hx hb (dk hX0_sinks_0 9 rfl) hc_25 (by decide) (by decide) (by decide) (by decide) ?_
            refine lv_aload_n hx hb (dk hX0_sinks_0 33 rfl) rfl (lv_at hl 1 rfl) ?_
            refine lv_iload_n hx hb (dk hX0_sinks_0 34 rfl) rfl (lv_at hl 0 rfl) ?_
            obtain ⟨u_17, e_18, hf⟩ := Option.bind_eq_some_iff.mp hf
            refine Ct.V (As := [.int v_1]) (rest := []) (st1 := [.int u_17]) (w1 := (wH G ad there used hidden kind figure cargo load ships inn coughs day)) C hs (c_X0_lackOf e_18) tw_198 tw_171 tw_172 tw_18 tw_173 nq_X0_lackOf (by decide) 0 0 rfl rfl rfl rfl hl.1 rfl (Nat.le_of_ble_eq_true rfl) (dk hX0_sinks_0 35 rfl) ⟨Nat.zero_le _, Nat.zero_le _⟩ rfl (fun H locs hs => ?_)
            refine lv_iconst (v := (3 : Int32)) hx hb (dk hX0_sinks_0 36 rfl) (by decide) ?_
            refine lv_idiv hx hb (dk hX0_sinks_0 37 rfl) (by decide) ?_
            refine lv_aload_n hx hb (dk hX0_sinks_0 38 rfl) rfl (lv_at hl 1 rfl) ?_
            refine lv_iload_n hx hb (dk hX0_sinks_0 39 rfl) rfl (lv_at hl 0 rfl) ?_
            obtain ⟨u_19, e_20, hf⟩ := Option.bind_eq_some_iff.mp hf
            refine Ct.S (As := [.int v_1]) (rest := [.ref (ad 0), .int (u_17 / (3 : Int32))]) (st1 := [.int u_19, .ref (ad 0), .int (u_17 / (3 : Int32))]) (w1 := (wH G ad there used hidden kind figure cargo load ships inn coughs day)) C hs (c_X0_behind e_20) tw_199 tw_200 tw_18 tw_201 nq_X0_behind (by decide) rfl hl.1 rfl (Nat.le_of_ble_eq_true rfl) (dk hX0_sinks_1 0 rfl) ⟨Nat.zero_le _, Nat.zero_le _⟩ rfl (fun H locs hs => ?_)
            obtain ⟨u_21, e_22, hf⟩ := Option.bind_eq_some_iff.mp hf
            refine Ct.V (As := [.int u_19]) (rest := [.int (u_17 / (3 : Int32))]) (st1 := [.int u_21, .int (u_17 / (3 : Int32))]) (w1 := (wH G ad there used hidden kind figure cargo load ships inn coughs day)) C hs (c_X0_lackOf e_22) tw_198 tw_171 tw_172 tw_18 tw_173 nq_X0_lackOf (by decide) 0 0 rfl rfl rfl rfl hl.1 rfl (Nat.le_of_ble_eq_true rfl) (dk hX0_sinks_1 1 rfl) ⟨Nat.zero_le _, Nat.zero_le _⟩ rfl (fun H locs hs => ?_)
            refine lv_iconst (v := (3 : Int32)) hx hb (dk hX0_sinks_1 2 rfl) (by decide) ?_
            refine lv_idiv hx hb (dk hX0_sinks_1 3 rfl) (by decide) ?_
            refine lv_iadd hx hb (dk hX0_sinks_1 4 rfl) ?_
            refine lv_aload_n hx hb (dk hX0_sinks_1 5 rfl) rfl (lv_at hl 1 rfl) ?_
            refine lv_iload_n hx hb (dk hX0_sinks_1 6 rfl) rfl (lv_at hl 0 rfl) ?_
            obtain ⟨u_23, e_24, hf⟩ := Option.bind_eq_some_iff.mp hf
            refine Ct.V (As := [.int v_1]) (rest := [.int ((u_17 / (3 : Int32)) + (u_21 / (3 : Int32)))]) (st1 := [.int u_23, .int ((u_17 / (3 : Int32)) + (u_21 / (3 : Int32)))]) (w1 := (wH G ad there used hidden kind figure cargo load ships inn coughs day)) C hs (c_X0_hiddenOf e_24) tw_202 tw_204 tw_1 tw_18 tw_205 nq_X0_hiddenOf (by decide) 0 0 rfl rfl rfl rfl hl.1 rfl (Nat.le_of_ble_eq_true rfl) (dk hX0_sinks_1 7 rfl) ⟨Nat.zero_le _, Nat.zero_le _⟩ rfl (fun H locs hs => ?_)
            refine lv_bipush (v := (10 : Int32)) hx hb (dk hX0_sinks_1 8 rfl) (by decide) ?_
            refine lv_idiv hx hb (dk hX0_sinks_1 9 rfl) (by decide) ?_
            refine lv_iadd hx hb (dk hX0_sinks_1 10 rfl) ?_
            cases hf
            exact ri C hs (dk hX0_sinks_1 11 rfl)
          · replace hf := in_ hf hc_25
            refine rtd (tgt := 111) hx hb (dk hX0_sinks_0 9 rfl) [0, 1, 2, 3, 4] (by decide) (by decide) (List.forall_mem_cons.mpr ⟨ti hc_5 (by decide), List.forall_mem_cons.mpr ⟨ti hc_8 (by decide), List.forall_mem_cons.mpr ⟨ti hc_9 (by decide), List.forall_mem_cons.mpr ⟨ti hc_16 (by decide), List.forall_mem_cons.mpr ⟨ti hc_25 (by decide), fun _ h => absurd h List.not_mem_nil⟩⟩⟩⟩⟩) (by decide) ?_
            refine lv_aload_n hx hb (dk hX0_sinks_1 12 rfl) rfl (lv_at hl 1 rfl) ?_
            refine lv_iload_n hx hb (dk hX0_sinks_1 13 rfl) rfl (lv_at hl 0 rfl) ?_
            obtain ⟨u_26, e_27, hf⟩ := Option.bind_eq_some_iff.mp hf
            refine Ct.V (As := [.int v_1]) (rest := []) (st1 := [.int u_26]) (w1 := (wH G ad there used hidden kind figure cargo load ships inn coughs day)) C hs (c_X0_lackOf e_27) tw_198 tw_171 tw_172 tw_18 tw_173 nq_X0_lackOf (by decide) 0 0 rfl rfl rfl rfl hl.1 rfl (Nat.le_of_ble_eq_true rfl) (dk hX0_sinks_1 14 rfl) ⟨Nat.zero_le _, Nat.zero_le _⟩ rfl (fun H locs hs => ?_)
            refine lv_iconst (v := (3 : Int32)) hx hb (dk hX0_sinks_1 15 rfl) (by decide) ?_
            refine lv_idiv hx hb (dk hX0_sinks_1 16 rfl) (by decide) ?_
            cases hf
            exact ri C hs (dk hX0_sinks_1 17 rfl)

def X0_depth (there : List Int32) (used : List Int32) (hidden : List Int32) (kind : List Int32) (cargo : List Int32) (coughs : Int32) (day : Int32) (p0 : Int32) : Option (Int32) :=
  (X4_tideOf day).bind fun u_1 =>
  (X0_sinks there used hidden kind cargo coughs p0).bind fun u_3 =>
  some (u_1 + u_3)
set_option maxRecDepth 100000 in
set_option maxHeartbeats 4000000 in
theorem c_X0_depth {l : Launch} {G : Gx} {ad : Nat → Nat} {there used hidden kind figure cargo load : List Int32} {ships inn coughs day : Int32} {p0 : Int32} {out : Int32} (hf : X0_depth there used hidden kind cargo coughs day p0 = some out) : Ct l G yX0_depth cX0_depth 2 (some .int) 3 66 [.ref (ad 0), .int p0] (wH G ad there used hidden kind figure cargo load ships inn coughs day) (some (.int out)) (wH G ad there used hidden kind figure cargo load ships inn coughs day) := by
  refine Ct.intro RX0 rfl (plainFor_of_name (by decide)) (Nat.le_of_ble_eq_true rfl) rfl ?_
  intro p e s m args below meth c A C H locs hs ls hl
  obtain ⟨hx, hb, hml, hown, hts, hK, hret, hlk⟩ := id C
  have hl : lv_has ls 2 [(0, .ref (ad 0)), (1, .int p0)] := hl
  unfold X0_depth at hf
  refine lv_aload_n hx hb (dk hX0_depth_0 0 rfl) rfl (lv_at hl 0 rfl) ?_
  refine rg ui0 rfl C hs 0 rfl 10 (by decide) tw_62 rfl rfl (dk hX0_depth_0 1 rfl) ?_
  obtain ⟨u_1, e_2, hf⟩ := Option.bind_eq_some_iff.mp hf
  refine Ct.SN (As := [.int day]) (rest := []) (st1 := [.int u_1]) (w1 := (wH G ad there used hidden kind figure cargo load ships inn coughs day)) (host := RX4) C hs (c_X4_tideOf e_2) hK.2.2.2.2.1 tw_211 tw_17 tw_212 nq_X4_tideOf (by decide) rfl hl.1 rfl (Nat.le_of_ble_eq_true rfl) (dk hX0_depth_0 2 rfl) ⟨Nat.zero_le _, Nat.zero_le _⟩ rfl (fun H locs hs => ?_)
  refine lv_aload_n hx hb (dk hX0_depth_0 3 rfl) rfl (lv_at hl 0 rfl) ?_
  refine lv_iload_n hx hb (dk hX0_depth_0 4 rfl) rfl (lv_at hl 1 rfl) ?_
  obtain ⟨u_3, e_4, hf⟩ := Option.bind_eq_some_iff.mp hf
  refine Ct.V (As := [.int p0]) (rest := [.int u_1]) (st1 := [.int u_3, .int u_1]) (w1 := (wH G ad there used hidden kind figure cargo load ships inn coughs day)) C hs (c_X0_sinks e_4) tw_219 tw_191 tw_192 tw_18 tw_193 nq_X0_sinks (by decide) 0 0 rfl rfl rfl rfl hl.1 rfl (Nat.le_of_ble_eq_true rfl) (dk hX0_depth_0 5 rfl) ⟨Nat.zero_le _, Nat.zero_le _⟩ rfl (fun H locs hs => ?_)
  refine lv_iadd hx hb (dk hX0_depth_0 6 rfl) ?_
  cases hf
  exact ri C hs (dk hX0_depth_0 7 rfl)

def X0_brings (kind : List Int32) (cargo : List Int32) (load : List Int32) (p0 : Int32) (p1 : Int32) : Option (Int32) :=
  (rd cargo p0).bind fun v_1 =>
  (rd load p0).bind fun v_3 =>
  (rd kind p0).bind fun v_5 =>
  if v_5 = (1 : Int32) then
  some (0 : Int32)
  else
  if v_5 = (4 : Int32) then
  if p1 = v_1 then
  some (v_3 / (2 : Int32))
  else
  (X0_behind v_1).bind fun u_8 =>
  if p1 = u_8 then
  (rd load p0).bind fun v_10 =>
  some (v_10 - (v_3 / (2 : Int32)))
  else
  some (0 : Int32)
  else
  if v_5 = (5 : Int32) then
  if p1 = v_1 then
  some (v_3 / (2 : Int32))
  else
  (X0_behind v_1).bind fun u_13 =>
  if p1 = u_13 then
  (rd load p0).bind fun v_15 =>
  some (v_15 - (v_3 / (2 : Int32)))
  else
  some (0 : Int32)
  else
  if p1 = v_1 then
  (rd load p0).bind fun v_18 =>
  some v_18
  else
  some (0 : Int32)
set_option maxRecDepth 100000 in
set_option maxHeartbeats 4000000 in
theorem c_X0_brings {l : Launch} {G : Gx} {ad : Nat → Nat} {there used hidden kind figure cargo load : List Int32} {ships inn coughs day : Int32} {p0 : Int32} {p1 : Int32} {out : Int32} (hf : X0_brings kind cargo load p0 p1 = some out) : Ct l G yX0_brings cX0_brings 5 (some .int) 1 20 [.ref (ad 0), .int p0, .int p1] (wH G ad there used hidden kind figure cargo load ships inn coughs day) (some (.int out)) (wH G ad there used hidden kind figure cargo load ships inn coughs day) := by
  refine Ct.intro RX0 rfl (plainFor_of_name (by decide)) (Nat.le_of_ble_eq_true rfl) rfl ?_
  intro p e s m args below meth c A C H locs hs ls hl
  obtain ⟨hx, hb, hml, hown, hts, hK, hret, hlk⟩ := id C
  have hl : lv_has ls 5 [(0, .ref (ad 0)), (1, .int p0), (2, .int p1)] := hl
  unfold X0_brings at hf
  refine lv_aload_n hx hb (dk hX0_brings_0 0 rfl) rfl (lv_at hl 0 rfl) ?_
  refine rg ui0 rfl C hs 0 rfl 5 (by decide) tw_50 rfl rfl (dk hX0_brings_0 1 rfl) ?_
  refine lv_iload_n hx hb (dk hX0_brings_0 2 rfl) rfl (lv_at hl 1 rfl) ?_
  obtain ⟨v_1, e_2, hf⟩ := Option.bind_eq_some_iff.mp hf
  refine rild C hs 6 rfl e_2 (dk hX0_brings_0 3 rfl) ?_
  refine lv_istore_n (lv' := [(3, .int v_1), (0, .ref (ad 0)), (1, .int p0), (2, .int p1)]) hx hb (dk hX0_brings_0 4 rfl) rfl hl (by decide) rfl (fun ls hl => ?_)
  refine lv_aload_n hx hb (dk hX0_brings_0 5 rfl) rfl (lv_at hl 1 rfl) ?_
  refine rg ui0 rfl C hs 0 rfl 6 (by decide) tw_52 rfl rfl (dk hX0_brings_0 6 rfl) ?_
  refine lv_iload_n hx hb (dk hX0_brings_0 7 rfl) rfl (lv_at hl 2 rfl) ?_
  obtain ⟨v_3, e_4, hf⟩ := Option.bind_eq_some_iff.mp hf
  refine rild C hs 7 rfl e_4 (dk hX0_brings_0 8 rfl) ?_
  refine lv_iconst (v := (2 : Int32)) hx hb (dk hX0_brings_0 9 rfl) (by decide) ?_
  refine lv_idiv hx hb (dk hX0_brings_0 10 rfl) (by decide) ?_
  refine lv_istore (lv' := [(4, .int (v_3 / (2 : Int32))), (3, .int v_1), (0, .ref (ad 0)), (1, .int p0), (2, .int p1)]) hx hb (dk hX0_brings_0 11 rfl) hl (by decide) rfl (fun ls hl => ?_)
  refine lv_aload_n hx hb (dk hX0_brings_0 12 rfl) rfl (lv_at hl 2 rfl) ?_
  refine rg ui0 rfl C hs 0 rfl 3 (by decide) tw_46 rfl rfl (dk hX0_brings_0 13 rfl) ?_
  refine lv_iload_n hx hb (dk hX0_brings_0 14 rfl) rfl (lv_at hl 3 rfl) ?_
  obtain ⟨v_5, e_6, hf⟩ := Option.bind_eq_some_iff.mp hf
  refine rild C hs 4 rfl e_6 (dk hX0_brings_0 15 rfl) ?_
  by_cases hc_7 : v_5 = (1 : Int32)
  · replace hf := ip hf hc_7
    refine rts (tgt := 56) (off := 33) hx hb (dk hX0_brings_0 16 rfl) hc_7 (by decide) (by decide) (by decide) (by decide) ?_
    refine lv_iconst (v := (0 : Int32)) hx hb (dk hX0_brings_0 17 rfl) (by decide) ?_
    cases hf
    exact ri C hs (dk hX0_brings_0 18 rfl)
  · replace hf := in_ hf hc_7
    by_cases hc_12 : v_5 = (4 : Int32)
    · replace hf := ip hf hc_12
      refine rts (tgt := 58) (off := 35) hx hb (dk hX0_brings_0 16 rfl) hc_12 (by decide) (by decide) (by decide) (by decide) ?_
      refine lv_iload_n hx hb (dk hX0_brings_0 19 rfl) rfl (lv_at hl 4 rfl) ?_
      refine lv_iload_n hx hb (dk hX0_brings_0 20 rfl) rfl (lv_at hl 1 rfl) ?_
      refine lv_icmp_ne (tgt := 66) hx hb (dk hX0_brings_0 21 rfl) (by decide) (fun hc => ?_) (fun hc => ?_)
      · replace hf := in_ hf hc
        refine lv_iload_n hx hb (dk hX0_brings_0 24 rfl) rfl (lv_at hl 4 rfl) ?_
        refine lv_iload_n hx hb (dk hX0_brings_0 25 rfl) rfl (lv_at hl 1 rfl) ?_
        obtain ⟨u_8, e_9, hf⟩ := Option.bind_eq_some_iff.mp hf
        refine Ct.S (As := [.int v_1]) (rest := [.int p1]) (st1 := [.int u_8, .int p1]) (w1 := (wH G ad there used hidden kind figure cargo load ships inn coughs day)) C hs (c_X0_behind e_9) tw_199 tw_200 tw_18 tw_201 nq_X0_behind (by decide) rfl hl.1 rfl (Nat.le_of_ble_eq_true rfl) (dk hX0_brings_0 26 rfl) ⟨Nat.zero_le _, Nat.zero_le _⟩ rfl (fun H locs hs => ?_)
        refine lv_icmp_ne (tgt := 86) hx hb (dk hX0_brings_0 27 rfl) (by decide) (fun hc => ?_) (fun hc => ?_)
        · replace hf := in_ hf hc
          refine lv_iconst (v := (0 : Int32)) hx hb (dk hX0_brings_0 35 rfl) (by decide) ?_
          cases hf
          exact ri C hs (dk hX0_brings_0 36 rfl)
        · replace hf := ip hf hc
          refine lv_aload_n hx hb (dk hX0_brings_0 28 rfl) rfl (lv_at hl 2 rfl) ?_
          refine rg ui0 rfl C hs 0 rfl 6 (by decide) tw_52 rfl rfl (dk hX0_brings_0 29 rfl) ?_
          refine lv_iload_n hx hb (dk hX0_brings_0 30 rfl) rfl (lv_at hl 3 rfl) ?_
          obtain ⟨v_10, e_11, hf⟩ := Option.bind_eq_some_iff.mp hf
          refine rild C hs 7 rfl e_11 (dk hX0_brings_0 31 rfl) ?_
          refine lv_iload hx hb (dk hX0_brings_0 32 rfl) (lv_at hl 0 rfl) ?_
          refine lv_isub hx hb (dk hX0_brings_0 33 rfl) ?_
          refine lv_goto (tgt := 87) hx hb (dk hX0_brings_0 34 rfl) (by decide) ?_
          cases hf
          exact ri C hs (dk hX0_brings_0 36 rfl)
      · replace hf := ip hf hc
        refine lv_iload hx hb (dk hX0_brings_0 22 rfl) (lv_at hl 0 rfl) ?_
        cases hf
        exact ri C hs (dk hX0_brings_0 23 rfl)
    · replace hf := in_ hf hc_12
      by_cases hc_17 : v_5 = (5 : Int32)
      · replace hf := ip hf hc_17
        refine rts (tgt := 58) (off := 35) hx hb (dk hX0_brings_0 16 rfl) hc_17 (by decide) (by decide) (by decide) (by decide) ?_
        refine lv_iload_n hx hb (dk hX0_brings_0 19 rfl) rfl (lv_at hl 4 rfl) ?_
        refine lv_iload_n hx hb (dk hX0_brings_0 20 rfl) rfl (lv_at hl 1 rfl) ?_
        refine lv_icmp_ne (tgt := 66) hx hb (dk hX0_brings_0 21 rfl) (by decide) (fun hc => ?_) (fun hc => ?_)
        · replace hf := in_ hf hc
          refine lv_iload_n hx hb (dk hX0_brings_0 24 rfl) rfl (lv_at hl 4 rfl) ?_
          refine lv_iload_n hx hb (dk hX0_brings_0 25 rfl) rfl (lv_at hl 1 rfl) ?_
          obtain ⟨u_13, e_14, hf⟩ := Option.bind_eq_some_iff.mp hf
          refine Ct.S (As := [.int v_1]) (rest := [.int p1]) (st1 := [.int u_13, .int p1]) (w1 := (wH G ad there used hidden kind figure cargo load ships inn coughs day)) C hs (c_X0_behind e_14) tw_199 tw_200 tw_18 tw_201 nq_X0_behind (by decide) rfl hl.1 rfl (Nat.le_of_ble_eq_true rfl) (dk hX0_brings_0 26 rfl) ⟨Nat.zero_le _, Nat.zero_le _⟩ rfl (fun H locs hs => ?_)
          refine lv_icmp_ne (tgt := 86) hx hb (dk hX0_brings_0 27 rfl) (by decide) (fun hc => ?_) (fun hc => ?_)
          · replace hf := in_ hf hc
            refine lv_iconst (v := (0 : Int32)) hx hb (dk hX0_brings_0 35 rfl) (by decide) ?_
            cases hf
            exact ri C hs (dk hX0_brings_0 36 rfl)
          · replace hf := ip hf hc
            refine lv_aload_n hx hb (dk hX0_brings_0 28 rfl) rfl (lv_at hl 2 rfl) ?_
            refine rg ui0 rfl C hs 0 rfl 6 (by decide) tw_52 rfl rfl (dk hX0_brings_0 29 rfl) ?_
            refine lv_iload_n hx hb (dk hX0_brings_0 30 rfl) rfl (lv_at hl 3 rfl) ?_
            obtain ⟨v_15, e_16, hf⟩ := Option.bind_eq_some_iff.mp hf
            refine rild C hs 7 rfl e_16 (dk hX0_brings_0 31 rfl) ?_
            refine lv_iload hx hb (dk hX0_brings_0 32 rfl) (lv_at hl 0 rfl) ?_
            refine lv_isub hx hb (dk hX0_brings_0 33 rfl) ?_
            refine lv_goto (tgt := 87) hx hb (dk hX0_brings_0 34 rfl) (by decide) ?_
            cases hf
            exact ri C hs (dk hX0_brings_0 36 rfl)
        · replace hf := ip hf hc
          refine lv_iload hx hb (dk hX0_brings_0 22 rfl) (lv_at hl 0 rfl) ?_
          cases hf
          exact ri C hs (dk hX0_brings_0 23 rfl)
      · replace hf := in_ hf hc_17
        refine rtd (tgt := 88) hx hb (dk hX0_brings_0 16 rfl) [0, 3, 4] (by decide) (by decide) (List.forall_mem_cons.mpr ⟨ti hc_7 (by decide), List.forall_mem_cons.mpr ⟨ti hc_12 (by decide), List.forall_mem_cons.mpr ⟨ti hc_17 (by decide), fun _ h => absurd h List.not_mem_nil⟩⟩⟩) (by decide) ?_
        refine lv_iload_n hx hb (dk hX0_brings_0 37 rfl) rfl (lv_at hl 4 rfl) ?_
        refine lv_iload_n hx hb (dk hX0_brings_0 38 rfl) rfl (lv_at hl 1 rfl) ?_
        refine lv_icmp_ne (tgt := 102) hx hb (dk hX0_brings_0 39 rfl) (by decide) (fun hc => ?_) (fun hc => ?_)
        · replace hf := in_ hf hc
          refine lv_iconst (v := (0 : Int32)) hx hb (dk hX0_brings_1 5 rfl) (by decide) ?_
          cases hf
          exact ri C hs (dk hX0_brings_1 6 rfl)
        · replace hf := ip hf hc
          refine lv_aload_n hx hb (dk hX0_brings_1 0 rfl) rfl (lv_at hl 2 rfl) ?_
          refine rg ui0 rfl C hs 0 rfl 6 (by decide) tw_52 rfl rfl (dk hX0_brings_1 1 rfl) ?_
          refine lv_iload_n hx hb (dk hX0_brings_1 2 rfl) rfl (lv_at hl 3 rfl) ?_
          obtain ⟨v_18, e_19, hf⟩ := Option.bind_eq_some_iff.mp hf
          refine rild C hs 7 rfl e_19 (dk hX0_brings_1 3 rfl) ?_
          refine lv_goto (tgt := 103) hx hb (dk hX0_brings_1 4 rfl) (by decide) ?_
          cases hf
          exact ri C hs (dk hX0_brings_1 6 rfl)

def X0_letIn_L2 (k : List Int32 → Option (List Int32 × Int32 × Int32)) (kind : List Int32) (cargo : List Int32) (load : List Int32) (x1 : Int32) : Nat → Int32 → List Int32 → Option (List Int32 × Int32 × Int32)
  | 0, _, _ => none
  | n + 1, x2, there =>
  if (6 : Int32) ≤ x2 then
  k there
  else
  (rd there x2).bind fun v_1 =>
  (X0_brings kind cargo load x1 x2).bind fun u_3 =>
  (wr there x2 (mmin (99 : Int32) (v_1 + u_3))).bind fun there_5 =>
  X0_letIn_L2 k kind cargo load x1 n (x2 + (1 : Int32)) there_5
def X0_letIn (there : List Int32) (kind : List Int32) (cargo : List Int32) (load : List Int32) (inn : Int32) (coughs : Int32) (p0 : Int32) : Option (List Int32 × Int32 × Int32) :=
  X0_letIn_L2 (fun there_7 =>
  (rd kind p0).bind fun v_8 =>
  if v_8 = (3 : Int32) then
  some (there_7, (inn ||| ((1 : Int32) <<< (p0 &&& 31))), (mmax (0 : Int32) (coughs - (9 : Int32))))
  else
  some (there_7, (inn ||| ((1 : Int32) <<< (p0 &&& 31))), coughs)) kind cargo load p0 1000 (0 : Int32) there
set_option maxRecDepth 100000 in
set_option maxHeartbeats 4000000 in
theorem l_X0_letIn_L2 {l : Launch} {p : Program} {e : Env} {s : State} {m : MethodId} {args : Array Value} {below : List Frame} {meth : Method} {c : Code} {A : Nat → Prop} {G : Gx} {ad : Nat → Nat} {used hidden kind figure cargo load : List Int32} {ships inn coughs day : Int32} {x1 : Int32} {k : List Int32 → Option (List Int32 × Int32 × Int32)} {out : List Int32 × Int32 × Int32} (C : Cx p s m args meth c cX0_letIn RX0 3 (none) G) : ∀ (n : Nat) (x2 : Int32) (there : List Int32), X0_letIn_L2 k kind cargo load x1 n x2 there = some out → ∀ (H : Heap) (locs : List Loc), St G A s.heap H locs (wH G ad there used hidden kind figure cargo load ships inn coughs day) → ∀ ls : Array Slot, lv_has ls 3 [(0, .ref (ad 0)), (1, .int x1), (2, .int x2)] → (∀ (z_there : List Int32), k z_there = some out → ∀ (H : Heap) (locs : List Loc), St G A s.heap H locs (wH G ad z_there used hidden kind figure cargo load ships inn coughs day) → ∀ ls : Array Slot, lv_has ls 3 [(0, .ref (ad 0)), (1, .int x1)] → W p l e (rmOf 2 44) s m args below meth c H locs 0 0 (MQ below (Qof G A (none) (wH G ad out.1 used hidden kind figure cargo load ships out.2.1 out.2.2 day)) args s 0 0 A) (F0 m 38 ls [])) → W p l e (rmOf 2 44) s m args below meth c H locs 0 0 (MQ below (Qof G A (none) (wH G ad out.1 used hidden kind figure cargo load ships out.2.1 out.2.2 day)) args s 0 0 A) (F0 m 2 ls []) := by
  obtain ⟨hx, hb, hml, hown, hts, hK, hret, hlk⟩ := id C
  intro n
  induction n with
  | zero => intro x2 there hf; cases hf
  | succ n ih =>
    intro x2 there hf H locs hs ls hl hk
    rw [X0_letIn_L2] at hf
    refine lv_iload_n hx hb (dk hX0_letIn_0 2 rfl) rfl (lv_at hl 2 rfl) ?_
    refine lv_bipush (v := (6 : Int32)) hx hb (dk hX0_letIn_0 3 rfl) (by decide) ?_
    refine lv_icmp_ge (tgt := 38) hx hb (dk hX0_letIn_0 4 rfl) (by decide) (fun hc => ?_) (fun hc => ?_)
    · replace hf := ip hf hc
      exact hk _ hf _ _ hs _ (lv_sub hl [0, 1] rfl)
    · replace hf := in_ hf hc
      refine lv_aload_n hx hb (dk hX0_letIn_0 5 rfl) rfl (lv_at hl 0 rfl) ?_
      refine rg ui0 rfl C hs 0 rfl 0 (by decide) tw_38 rfl rfl (dk hX0_letIn_0 6 rfl) ?_
      refine lv_iload_n hx hb (dk hX0_letIn_0 7 rfl) rfl (lv_at hl 2 rfl) ?_
      refine lv_bipush (v := (99 : Int32)) hx hb (dk hX0_letIn_0 8 rfl) (by decide) ?_
      refine lv_aload_n hx hb (dk hX0_letIn_0 9 rfl) rfl (lv_at hl 0 rfl) ?_
      refine rg ui0 rfl C hs 0 rfl 0 (by decide) tw_38 rfl rfl (dk hX0_letIn_0 10 rfl) ?_
      refine lv_iload_n hx hb (dk hX0_letIn_0 11 rfl) rfl (lv_at hl 2 rfl) ?_
      obtain ⟨v_1, e_2, hf⟩ := Option.bind_eq_some_iff.mp hf
      refine rild C hs 1 rfl e_2 (dk hX0_letIn_0 12 rfl) ?_
      refine lv_aload_n hx hb (dk hX0_letIn_0 13 rfl) rfl (lv_at hl 0 rfl) ?_
      refine lv_iload_n hx hb (dk hX0_letIn_0 14 rfl) rfl (lv_at hl 1 rfl) ?_
      refine lv_iload_n hx hb (dk hX0_letIn_0 15 rfl) rfl (lv_at hl 2 rfl) ?_
      obtain ⟨u_3, e_4, hf⟩ := Option.bind_eq_some_iff.mp hf
      refine Ct.V (As := [.int x1, .int x2]) (rest := [.int v_1, .int (99 : Int32), .int x2, .ref (ad 1)]) (st1 := [.int u_3, .int v_1, .int (99 : Int32), .int x2, .ref (ad 1)]) (w1 := (wH G ad there used hidden kind figure cargo load ships inn coughs day)) C hs (c_X0_brings e_4) tw_282 tw_283 tw_284 tw_18 tw_285 nq_X0_brings (by decide) 0 0 rfl rfl rfl rfl hl.1 rfl (Nat.le_of_ble_eq_true rfl) (dk hX0_letIn_0 16 rfl) ⟨Nat.zero_le _, Nat.zero_le _⟩ rfl (fun H locs hs => ?_)
      refine lv_iadd hx hb (dk hX0_letIn_0 17 rfl) ?_
      refine va_mmin hx hb (hml.trans hl.1.symm) hown (hts _ tw_286) (hts _ tw_287) (hts _ tw_22) (hts _ tw_288) (by decide) (Nat.le_of_ble_eq_true rfl) (Nat.zero_le _) (Nat.zero_le _) (dk hX0_letIn_0 18 rfl) ?_
      obtain ⟨there_5, e_6, hf⟩ := Option.bind_eq_some_iff.mp hf
      refine rist (w1 := (wH G ad there_5 used hidden kind figure cargo load ships inn coughs day)) C hs 1 rfl e_6 rfl (dk hX0_letIn_0 19 rfl) (fun H locs hs => ?_)
      refine lv_iinc (v := (x2 + (1 : Int32))) (lv' := [(2, .int (x2 + (1 : Int32))), (0, .ref (ad 0)), (1, .int x1)]) hx hb (dk hX0_letIn_0 20 rfl) hl (k := 2) rfl (by first | rfl | decide) (by decide) rfl (fun ls hl => ?_)
      refine lv_goto (tgt := 2) hx hb (dk hX0_letIn_0 21 rfl) (by decide) ?_
      exact ih _ _ hf _ _ hs _ (lv_sub hl [1, 2, 0] rfl) hk
set_option maxRecDepth 100000 in
set_option maxHeartbeats 4000000 in
theorem c_X0_letIn {l : Launch} {G : Gx} {ad : Nat → Nat} {there used hidden kind figure cargo load : List Int32} {ships inn coughs day : Int32} {p0 : Int32} {out : List Int32 × Int32 × Int32} (hf : X0_letIn there kind cargo load inn coughs p0 = some out) : Ct l G yX0_letIn cX0_letIn 3 (none) 2 44 [.ref (ad 0), .int p0] (wH G ad there used hidden kind figure cargo load ships inn coughs day) (none) (wH G ad out.1 used hidden kind figure cargo load ships out.2.1 out.2.2 day) := by
  refine Ct.intro RX0 rfl (plainFor_of_name (by decide)) (Nat.le_of_ble_eq_true rfl) rfl ?_
  intro p e s m args below meth c A C H locs hs ls hl
  obtain ⟨hx, hb, hml, hown, hts, hK, hret, hlk⟩ := id C
  have hl : lv_has ls 3 [(0, .ref (ad 0)), (1, .int p0)] := hl
  unfold X0_letIn at hf
  refine lv_iconst (v := (0 : Int32)) hx hb (dk hX0_letIn_0 0 rfl) (by decide) ?_
  refine lv_istore_n (lv' := [(2, .int (0 : Int32)), (0, .ref (ad 0)), (1, .int p0)]) hx hb (dk hX0_letIn_0 1 rfl) rfl hl (by decide) rfl (fun ls hl => ?_)
  refine l_X0_letIn_L2 C 1000 _ _ hf _ _ hs _ (lv_sub hl [1, 2, 0] rfl) (fun there_7 hf H locs hs ls hl => ?_)
  refine lv_aload_n hx hb (dk hX0_letIn_0 22 rfl) rfl (lv_at hl 0 rfl) ?_
  refine rg ui0 rfl C hs 0 rfl 3 (by decide) tw_46 rfl rfl (dk hX0_letIn_0 23 rfl) ?_
  refine lv_iload_n hx hb (dk hX0_letIn_0 24 rfl) rfl (lv_at hl 1 rfl) ?_
  obtain ⟨v_8, e_9, hf⟩ := Option.bind_eq_some_iff.mp hf
  refine rild C hs 4 rfl e_9 (dk hX0_letIn_0 25 rfl) ?_
  refine lv_iconst (v := (3 : Int32)) hx hb (dk hX0_letIn_0 26 rfl) (by decide) ?_
  refine lv_icmp_ne (tgt := 63) hx hb (dk hX0_letIn_0 27 rfl) (by decide) (fun hc => ?_) (fun hc => ?_)
  · replace hf := in_ hf hc
    refine lv_aload_n hx hb (dk hX0_letIn_0 36 rfl) rfl (lv_at hl 0 rfl) ?_
    refine lv_dup hx hb (dk hX0_letIn_0 37 rfl) rfl ?_
    refine rg ui0 rfl C hs 0 rfl 8 (by decide) tw_57 rfl rfl (dk hX0_letIn_0 38 rfl) ?_
    refine lv_iconst (v := (1 : Int32)) hx hb (dk hX0_letIn_0 39 rfl) (by decide) ?_
    refine lv_iload_n hx hb (dk hX0_letIn_1 0 rfl) rfl (lv_at hl 1 rfl) ?_
    refine lv_ishl hx hb (dk hX0_letIn_1 1 rfl) ?_
    refine lv_ior hx hb (dk hX0_letIn_1 2 rfl) ?_
    refine rp (w1 := (wH G ad there_7 used hidden kind figure cargo load ships (inn ||| ((1 : Int32) <<< (p0 &&& 31))) coughs day)) tyX0 tyX0_ok nmX0 ui0 rfl C hs 0 rfl 8 (by decide) tw_57 rfl rfl rfl rfl (Nat.le_of_ble_eq_true rfl) rfl (dk hX0_letIn_1 3 rfl) (fun H locs hs => ?_)
    cases hf
    exact rv C hs (dk hX0_letIn_1 4 rfl)
  · replace hf := ip hf hc
    refine lv_aload_n hx hb (dk hX0_letIn_0 28 rfl) rfl (lv_at hl 0 rfl) ?_
    refine lv_iconst (v := (0 : Int32)) hx hb (dk hX0_letIn_0 29 rfl) (by decide) ?_
    refine lv_aload_n hx hb (dk hX0_letIn_0 30 rfl) rfl (lv_at hl 0 rfl) ?_
    refine rg ui0 rfl C hs 0 rfl 9 (by decide) tw_59 rfl rfl (dk hX0_letIn_0 31 rfl) ?_
    refine lv_bipush (v := (9 : Int32)) hx hb (dk hX0_letIn_0 32 rfl) (by decide) ?_
    refine lv_isub hx hb (dk hX0_letIn_0 33 rfl) ?_
    refine va_mmax hx hb (hml.trans hl.1.symm) hown (hts _ tw_289) (hts _ tw_118) (hts _ tw_22) (hts _ tw_119) (by decide) (Nat.le_of_ble_eq_true rfl) (Nat.zero_le _) (Nat.zero_le _) (dk hX0_letIn_0 34 rfl) ?_
    refine rp (w1 := (wH G ad there_7 used hidden kind figure cargo load ships inn (mmax (0 : Int32) (coughs - (9 : Int32))) day)) tyX0 tyX0_ok nmX0 ui0 rfl C hs 0 rfl 9 (by decide) tw_59 rfl rfl rfl rfl (Nat.le_of_ble_eq_true rfl) rfl (dk hX0_letIn_0 35 rfl) (fun H locs hs => ?_)
    refine lv_aload_n hx hb (dk hX0_letIn_0 36 rfl) rfl (lv_at hl 0 rfl) ?_
    refine lv_dup hx hb (dk hX0_letIn_0 37 rfl) rfl ?_
    refine rg ui0 rfl C hs 0 rfl 8 (by decide) tw_57 rfl rfl (dk hX0_letIn_0 38 rfl) ?_
    refine lv_iconst (v := (1 : Int32)) hx hb (dk hX0_letIn_0 39 rfl) (by decide) ?_
    refine lv_iload_n hx hb (dk hX0_letIn_1 0 rfl) rfl (lv_at hl 1 rfl) ?_
    refine lv_ishl hx hb (dk hX0_letIn_1 1 rfl) ?_
    refine lv_ior hx hb (dk hX0_letIn_1 2 rfl) ?_
    refine rp (w1 := (wH G ad there_7 used hidden kind figure cargo load ships (inn ||| ((1 : Int32) <<< (p0 &&& 31))) (mmax (0 : Int32) (coughs - (9 : Int32))) day)) tyX0 tyX0_ok nmX0 ui0 rfl C hs 0 rfl 8 (by decide) tw_57 rfl rfl rfl rfl (Nat.le_of_ble_eq_true rfl) rfl (dk hX0_letIn_1 3 rfl) (fun H locs hs => ?_)
    cases hf
    exact rv C hs (dk hX0_letIn_1 4 rfl)

def X0_passDay_L10 (k : List Int32 → Int32 → Int32 → Option (List Int32 × Int32 × Int32 × Int32)) (used : List Int32) (hidden : List Int32) (kind : List Int32) (figure : List Int32) (cargo : List Int32) (load : List Int32) (ships : Int32) (x1 : Int32) (x2 : Int32) : Nat → Int32 → List Int32 → Int32 → Int32 → Option (List Int32 × Int32 × Int32 × Int32)
  | 0, _, _, _, _ => none
  | n + 1, x3, there, inn, coughs =>
  if ships ≤ x3 then
  k there inn coughs
  else
  (X0_isIn inn x3).bind fun u_3 =>
  if u_3 = (0 : Int32) then
  if ((x1 >>> (x3 &&& 31)) &&& (1 : Int32)) = (0 : Int32) then
  (X0_sinks there used hidden kind cargo coughs x3).bind fun u_5 =>
  (X0_draws kind figure x3).bind fun u_7 =>
  if (x2 + u_5) < u_7 then
  X0_passDay_L10 k used hidden kind figure cargo load ships x1 x2 n (x3 + (1 : Int32)) there inn coughs
  else
  (X0_letIn there kind cargo load inn coughs x3).bind fun u_9 =>
  X0_passDay_L10 k used hidden kind figure cargo load ships x1 x2 n (x3 + (1 : Int32)) u_9.1 u_9.2.1 u_9.2.2
  else
  X0_passDay_L10 k used hidden kind figure cargo load ships x1 x2 n (x3 + (1 : Int32)) there inn coughs
  else
  X0_passDay_L10 k used hidden kind figure cargo load ships x1 x2 n (x3 + (1 : Int32)) there inn coughs
def X0_passDay_L62 (k : List Int32 → Option (List Int32 × Int32 × Int32 × Int32)) (used : List Int32) : Nat → Int32 → List Int32 → Option (List Int32 × Int32 × Int32 × Int32)
  | 0, _, _ => none
  | n + 1, x3, there =>
  if (6 : Int32) ≤ x3 then
  k there
  else
  (rd there x3).bind fun v_14 =>
  (rd used x3).bind fun v_16 =>
  (wr there x3 (mmax (0 : Int32) (v_14 - v_16))).bind fun there_18 =>
  X0_passDay_L62 k used n (x3 + (1 : Int32)) there_18
def X0_passDay (there : List Int32) (used : List Int32) (hidden : List Int32) (kind : List Int32) (figure : List Int32) (cargo : List Int32) (load : List Int32) (ships : Int32) (inn : Int32) (coughs : Int32) (day : Int32) (p0 : Int32) : Option (List Int32 × Int32 × Int32 × Int32) :=
  (X4_tideOf day).bind fun u_1 =>
  X0_passDay_L10 (fun there_11 inn_12 coughs_13 =>
  X0_passDay_L62 (fun there_20 =>
  (X0_lackOf there_20 used (0 : Int32)).bind fun u_21 =>
  if u_21 ≤ (0 : Int32) then
  some (there_20, inn_12, coughs_13, (day + (1 : Int32)))
  else
  some (there_20, inn_12, (mmin (99 : Int32) (coughs_13 + (1 : Int32))), (day + (1 : Int32)))) used 1000 (0 : Int32) there_11) used hidden kind figure cargo load ships p0 u_1 1000 (0 : Int32) there inn coughs
set_option maxRecDepth 100000 in
set_option maxHeartbeats 4000000 in
theorem l_X0_passDay_L10 {l : Launch} {p : Program} {e : Env} {s : State} {m : MethodId} {args : Array Value} {below : List Frame} {meth : Method} {c : Code} {A : Nat → Prop} {G : Gx} {ad : Nat → Nat} {used hidden kind figure cargo load : List Int32} {ships day : Int32} {x1 : Int32} {x2 : Int32} {k : List Int32 → Int32 → Int32 → Option (List Int32 × Int32 × Int32 × Int32)} {out : List Int32 × Int32 × Int32 × Int32} (C : Cx p s m args meth c cX0_passDay RX0 4 (none) G) : ∀ (n : Nat) (x3 : Int32) (there : List Int32) (inn : Int32) (coughs : Int32), X0_passDay_L10 k used hidden kind figure cargo load ships x1 x2 n x3 there inn coughs = some out → ∀ (H : Heap) (locs : List Loc), St G A s.heap H locs (wH G ad there used hidden kind figure cargo load ships inn coughs day) → ∀ ls : Array Slot, lv_has ls 4 [(0, .ref (ad 0)), (1, .int x1), (2, .int x2), (3, .int x3)] → (∀ (z_there : List Int32) (z_inn : Int32) (z_coughs : Int32), k z_there z_inn z_coughs = some out → ∀ (H : Heap) (locs : List Loc), St G A s.heap H locs (wH G ad z_there used hidden kind figure cargo load ships z_inn z_coughs day) → ∀ ls : Array Slot, lv_has ls 4 [(0, .ref (ad 0))] → W p l e (rmOf 3 66) s m args below meth c H locs 0 0 (MQ below (Qof G A (none) (wH G ad out.1 used hidden kind figure cargo load ships out.2.1 out.2.2.1 out.2.2.2)) args s 0 0 A) (F0 m 60 ls [])) → W p l e (rmOf 3 66) s m args below meth c H locs 0 0 (MQ below (Qof G A (none) (wH G ad out.1 used hidden kind figure cargo load ships out.2.1 out.2.2.1 out.2.2.2)) args s 0 0 A) (F0 m 10 ls []) := by
  obtain ⟨hx, hb, hml, hown, hts, hK, hret, hlk⟩ := id C
  intro n
  induction n with
  | zero => intro x3 there inn coughs hf; cases hf
  | succ n ih =>
    intro x3 there inn coughs hf H locs hs ls hl hk
    rw [X0_passDay_L10] at hf
    refine lv_iload_n hx hb (dk hX0_passDay_0 6 rfl) rfl (lv_at hl 3 rfl) ?_
    refine lv_aload_n hx hb (dk hX0_passDay_0 7 rfl) rfl (lv_at hl 0 rfl) ?_
    refine rg ui0 rfl C hs 0 rfl 7 (by decide) tw_54 rfl rfl (dk hX0_passDay_0 8 rfl) ?_
    refine lv_icmp_ge (tgt := 60) hx hb (dk hX0_passDay_0 9 rfl) (by decide) (fun hc => ?_) (fun hc => ?_)
    · replace hf := ip hf hc
      exact hk _ _ _ hf _ _ hs _ (lv_sub hl [0] rfl)
    · replace hf := in_ hf hc
      refine lv_aload_n hx hb (dk hX0_passDay_0 10 rfl) rfl (lv_at hl 0 rfl) ?_
      refine lv_iload_n hx hb (dk hX0_passDay_0 11 rfl) rfl (lv_at hl 3 rfl) ?_
      obtain ⟨u_3, e_4, hf⟩ := Option.bind_eq_some_iff.mp hf
      refine Ct.V (As := [.int x3]) (rest := []) (st1 := [.int u_3]) (w1 := (wH G ad there used hidden kind figure cargo load ships inn coughs day)) C hs (c_X0_isIn e_4) tw_276 tw_183 tw_184 tw_18 tw_185 nq_X0_isIn (by decide) 0 0 rfl rfl rfl rfl hl.1 rfl (Nat.le_of_ble_eq_true rfl) (dk hX0_passDay_0 12 rfl) ⟨Nat.zero_le _, Nat.zero_le _⟩ rfl (fun H locs hs => ?_)
      refine lv_if_ne (tgt := 54) hx hb (dk hX0_passDay_0 13 rfl) (by decide) (fun hc => ?_) (fun hc => ?_)
      · replace hf := in_ hf hc
        refine lv_iinc (v := (x3 + (1 : Int32))) (lv' := [(3, .int (x3 + (1 : Int32))), (0, .ref (ad 0)), (1, .int x1), (2, .int x2)]) hx hb (dk hX0_passDay_0 32 rfl) hl (k := 3) rfl (by first | rfl | decide) (by decide) rfl (fun ls hl => ?_)
        refine lv_goto (tgt := 10) hx hb (dk hX0_passDay_0 33 rfl) (by decide) ?_
        exact ih _ _ _ _ hf _ _ hs _ (lv_sub hl [1, 2, 3, 0] rfl) hk
      · replace hf := ip hf hc
        refine lv_iload_n hx hb (dk hX0_passDay_0 14 rfl) rfl (lv_at hl 1 rfl) ?_
        refine lv_iload_n hx hb (dk hX0_passDay_0 15 rfl) rfl (lv_at hl 3 rfl) ?_
        refine lv_ishr hx hb (dk hX0_passDay_0 16 rfl) ?_
        refine lv_iconst (v := (1 : Int32)) hx hb (dk hX0_passDay_0 17 rfl) (by decide) ?_
        refine lv_iand hx hb (dk hX0_passDay_0 18 rfl) ?_
        refine lv_if_ne (tgt := 54) hx hb (dk hX0_passDay_0 19 rfl) (by decide) (fun hc => ?_) (fun hc => ?_)
        · replace hf := in_ hf hc
          refine lv_iinc (v := (x3 + (1 : Int32))) (lv' := [(3, .int (x3 + (1 : Int32))), (0, .ref (ad 0)), (1, .int x1), (2, .int x2)]) hx hb (dk hX0_passDay_0 32 rfl) hl (k := 3) rfl (by first | rfl | decide) (by decide) rfl (fun ls hl => ?_)
          refine lv_goto (tgt := 10) hx hb (dk hX0_passDay_0 33 rfl) (by decide) ?_
          exact ih _ _ _ _ hf _ _ hs _ (lv_sub hl [1, 2, 3, 0] rfl) hk
        · replace hf := ip hf hc
          refine lv_iload_n hx hb (dk hX0_passDay_0 20 rfl) rfl (lv_at hl 2 rfl) ?_
          refine lv_aload_n hx hb (dk hX0_passDay_0 21 rfl) rfl (lv_at hl 0 rfl) ?_
          refine lv_iload_n hx hb (dk hX0_passDay_0 22 rfl) rfl (lv_at hl 3 rfl) ?_
          obtain ⟨u_5, e_6, hf⟩ := Option.bind_eq_some_iff.mp hf
          refine Ct.V (As := [.int x3]) (rest := [.int x2]) (st1 := [.int u_5, .int x2]) (w1 := (wH G ad there used hidden kind figure cargo load ships inn coughs day)) C hs (c_X0_sinks e_6) tw_219 tw_191 tw_192 tw_18 tw_193 nq_X0_sinks (by decide) 0 0 rfl rfl rfl rfl hl.1 rfl (Nat.le_of_ble_eq_true rfl) (dk hX0_passDay_0 23 rfl) ⟨Nat.zero_le _, Nat.zero_le _⟩ rfl (fun H locs hs => ?_)
          refine lv_iadd hx hb (dk hX0_passDay_0 24 rfl) ?_
          refine lv_aload_n hx hb (dk hX0_passDay_0 25 rfl) rfl (lv_at hl 0 rfl) ?_
          refine lv_iload_n hx hb (dk hX0_passDay_0 26 rfl) rfl (lv_at hl 3 rfl) ?_
          obtain ⟨u_7, e_8, hf⟩ := Option.bind_eq_some_iff.mp hf
          refine Ct.V (As := [.int x3]) (rest := [.int (x2 + u_5)]) (st1 := [.int u_7, .int (x2 + u_5)]) (w1 := (wH G ad there used hidden kind figure cargo load ships inn coughs day)) C hs (c_X0_draws e_8) tw_277 tw_187 tw_188 tw_18 tw_189 nq_X0_draws (by decide) 0 0 rfl rfl rfl rfl hl.1 rfl (Nat.le_of_ble_eq_true rfl) (dk hX0_passDay_0 27 rfl) ⟨Nat.zero_le _, Nat.zero_le _⟩ rfl (fun H locs hs => ?_)
          refine lv_icmp_lt (tgt := 54) hx hb (dk hX0_passDay_0 28 rfl) (by decide) (fun hc => ?_) (fun hc => ?_)
          · replace hf := ip hf hc
            refine lv_iinc (v := (x3 + (1 : Int32))) (lv' := [(3, .int (x3 + (1 : Int32))), (0, .ref (ad 0)), (1, .int x1), (2, .int x2)]) hx hb (dk hX0_passDay_0 32 rfl) hl (k := 3) rfl (by first | rfl | decide) (by decide) rfl (fun ls hl => ?_)
            refine lv_goto (tgt := 10) hx hb (dk hX0_passDay_0 33 rfl) (by decide) ?_
            exact ih _ _ _ _ hf _ _ hs _ (lv_sub hl [1, 2, 3, 0] rfl) hk
          · replace hf := in_ hf hc
            refine lv_aload_n hx hb (dk hX0_passDay_0 29 rfl) rfl (lv_at hl 0 rfl) ?_
            refine lv_iload_n hx hb (dk hX0_passDay_0 30 rfl) rfl (lv_at hl 3 rfl) ?_
            obtain ⟨u_9, e_10, hf⟩ := Option.bind_eq_some_iff.mp hf
            refine Ct.V (As := [.int x3]) (rest := []) (st1 := []) (w1 := (wH G ad u_9.1 used hidden kind figure cargo load ships u_9.2.1 u_9.2.2 day)) C hs (c_X0_letIn e_10) tw_278 tw_279 tw_280 tw_18 tw_281 nq_X0_letIn (by decide) 0 0 rfl rfl rfl rfl hl.1 rfl (Nat.le_of_ble_eq_true rfl) (dk hX0_passDay_0 31 rfl) ⟨Nat.zero_le _, Nat.zero_le _⟩ rfl (fun H locs hs => ?_)
            refine lv_iinc (v := (x3 + (1 : Int32))) (lv' := [(3, .int (x3 + (1 : Int32))), (0, .ref (ad 0)), (1, .int x1), (2, .int x2)]) hx hb (dk hX0_passDay_0 32 rfl) hl (k := 3) rfl (by first | rfl | decide) (by decide) rfl (fun ls hl => ?_)
            refine lv_goto (tgt := 10) hx hb (dk hX0_passDay_0 33 rfl) (by decide) ?_
            exact ih _ _ _ _ hf _ _ hs _ (lv_sub hl [1, 2, 3, 0] rfl) hk
set_option maxRecDepth 100000 in
set_option maxHeartbeats 4000000 in
theorem l_X0_passDay_L62 {l : Launch} {p : Program} {e : Env} {s : State} {m : MethodId} {args : Array Value} {below : List Frame} {meth : Method} {c : Code} {A : Nat → Prop} {G : Gx} {ad : Nat → Nat} {used hidden kind figure cargo load : List Int32} {ships inn coughs day : Int32} {k : List Int32 → Option (List Int32 × Int32 × Int32 × Int32)} {out : List Int32 × Int32 × Int32 × Int32} (C : Cx p s m args meth c cX0_passDay RX0 4 (none) G) : ∀ (n : Nat) (x3 : Int32) (there : List Int32), X0_passDay_L62 k used n x3 there = some out → ∀ (H : Heap) (locs : List Loc), St G A s.heap H locs (wH G ad there used hidden kind figure cargo load ships inn coughs day) → ∀ ls : Array Slot, lv_has ls 4 [(0, .ref (ad 0)), (3, .int x3)] → (∀ (z_there : List Int32), k z_there = some out → ∀ (H : Heap) (locs : List Loc), St G A s.heap H locs (wH G ad z_there used hidden kind figure cargo load ships inn coughs day) → ∀ ls : Array Slot, lv_has ls 4 [(0, .ref (ad 0))] → W p l e (rmOf 3 66) s m args below meth c H locs 0 0 (MQ below (Qof G A (none) (wH G ad out.1 used hidden kind figure cargo load ships out.2.1 out.2.2.1 out.2.2.2)) args s 0 0 A) (F0 m 97 ls [])) → W p l e (rmOf 3 66) s m args below meth c H locs 0 0 (MQ below (Qof G A (none) (wH G ad out.1 used hidden kind figure cargo load ships out.2.1 out.2.2.1 out.2.2.2)) args s 0 0 A) (F0 m 62 ls []) := by
  obtain ⟨hx, hb, hml, hown, hts, hK, hret, hlk⟩ := id C
  intro n
  induction n with
  | zero => intro x3 there hf; cases hf
  | succ n ih =>
    intro x3 there hf H locs hs ls hl hk
    rw [X0_passDay_L62] at hf
    refine lv_iload_n hx hb (dk hX0_passDay_0 36 rfl) rfl (lv_at hl 1 rfl) ?_
    refine lv_bipush (v := (6 : Int32)) hx hb (dk hX0_passDay_0 37 rfl) (by decide) ?_
    refine lv_icmp_ge (tgt := 97) hx hb (dk hX0_passDay_0 38 rfl) (by decide) (fun hc => ?_) (fun hc => ?_)
    · replace hf := ip hf hc
      exact hk _ hf _ _ hs _ (lv_sub hl [0] rfl)
    · replace hf := in_ hf hc
      refine lv_aload_n hx hb (dk hX0_passDay_0 39 rfl) rfl (lv_at hl 0 rfl) ?_
      refine rg ui0 rfl C hs 0 rfl 0 (by decide) tw_38 rfl rfl (dk hX0_passDay_1 0 rfl) ?_
      refine lv_iload_n hx hb (dk hX0_passDay_1 1 rfl) rfl (lv_at hl 1 rfl) ?_
      refine lv_iconst (v := (0 : Int32)) hx hb (dk hX0_passDay_1 2 rfl) (by decide) ?_
      refine lv_aload_n hx hb (dk hX0_passDay_1 3 rfl) rfl (lv_at hl 0 rfl) ?_
      refine rg ui0 rfl C hs 0 rfl 0 (by decide) tw_38 rfl rfl (dk hX0_passDay_1 4 rfl) ?_
      refine lv_iload_n hx hb (dk hX0_passDay_1 5 rfl) rfl (lv_at hl 1 rfl) ?_
      obtain ⟨v_14, e_15, hf⟩ := Option.bind_eq_some_iff.mp hf
      refine rild C hs 1 rfl e_15 (dk hX0_passDay_1 6 rfl) ?_
      refine lv_aload_n hx hb (dk hX0_passDay_1 7 rfl) rfl (lv_at hl 0 rfl) ?_
      refine rg ui0 rfl C hs 0 rfl 1 (by decide) tw_41 rfl rfl (dk hX0_passDay_1 8 rfl) ?_
      refine lv_iload_n hx hb (dk hX0_passDay_1 9 rfl) rfl (lv_at hl 1 rfl) ?_
      obtain ⟨v_16, e_17, hf⟩ := Option.bind_eq_some_iff.mp hf
      refine rild C hs 2 rfl e_17 (dk hX0_passDay_1 10 rfl) ?_
      refine lv_isub hx hb (dk hX0_passDay_1 11 rfl) ?_
      refine va_mmax hx hb (hml.trans hl.1.symm) hown (hts _ tw_289) (hts _ tw_118) (hts _ tw_22) (hts _ tw_119) (by decide) (Nat.le_of_ble_eq_true rfl) (Nat.zero_le _) (Nat.zero_le _) (dk hX0_passDay_1 12 rfl) ?_
      obtain ⟨there_18, e_19, hf⟩ := Option.bind_eq_some_iff.mp hf
      refine rist (w1 := (wH G ad there_18 used hidden kind figure cargo load ships inn coughs day)) C hs 1 rfl e_19 rfl (dk hX0_passDay_1 13 rfl) (fun H locs hs => ?_)
      refine lv_iinc (v := (x3 + (1 : Int32))) (lv' := [(3, .int (x3 + (1 : Int32))), (0, .ref (ad 0))]) hx hb (dk hX0_passDay_1 14 rfl) hl (k := 1) rfl (by first | rfl | decide) (by decide) rfl (fun ls hl => ?_)
      refine lv_goto (tgt := 62) hx hb (dk hX0_passDay_1 15 rfl) (by decide) ?_
      exact ih _ _ hf _ _ hs _ (lv_sub hl [1, 0] rfl) hk
set_option maxRecDepth 100000 in
set_option maxHeartbeats 4000000 in
theorem c_X0_passDay {l : Launch} {G : Gx} {ad : Nat → Nat} {there used hidden kind figure cargo load : List Int32} {ships inn coughs day : Int32} {p0 : Int32} {out : List Int32 × Int32 × Int32 × Int32} (hf : X0_passDay there used hidden kind figure cargo load ships inn coughs day p0 = some out) : Ct l G yX0_passDay cX0_passDay 4 (none) 3 66 [.ref (ad 0), .int p0] (wH G ad there used hidden kind figure cargo load ships inn coughs day) (none) (wH G ad out.1 used hidden kind figure cargo load ships out.2.1 out.2.2.1 out.2.2.2) := by
  refine Ct.intro RX0 rfl (plainFor_of_name (by decide)) (Nat.le_of_ble_eq_true rfl) rfl ?_
  intro p e s m args below meth c A C H locs hs ls hl
  obtain ⟨hx, hb, hml, hown, hts, hK, hret, hlk⟩ := id C
  have hl : lv_has ls 4 [(0, .ref (ad 0)), (1, .int p0)] := hl
  unfold X0_passDay at hf
  refine lv_aload_n hx hb (dk hX0_passDay_0 0 rfl) rfl (lv_at hl 0 rfl) ?_
  refine rg ui0 rfl C hs 0 rfl 10 (by decide) tw_62 rfl rfl (dk hX0_passDay_0 1 rfl) ?_
  obtain ⟨u_1, e_2, hf⟩ := Option.bind_eq_some_iff.mp hf
  refine Ct.SN (As := [.int day]) (rest := []) (st1 := [.int u_1]) (w1 := (wH G ad there used hidden kind figure cargo load ships inn coughs day)) (host := RX4) C hs (c_X4_tideOf e_2) hK.2.2.2.2.1 tw_211 tw_17 tw_212 nq_X4_tideOf (by decide) rfl hl.1 rfl (Nat.le_of_ble_eq_true rfl) (dk hX0_passDay_0 2 rfl) ⟨Nat.zero_le _, Nat.zero_le _⟩ rfl (fun H locs hs => ?_)
  refine lv_istore_n (lv' := [(2, .int u_1), (0, .ref (ad 0)), (1, .int p0)]) hx hb (dk hX0_passDay_0 3 rfl) rfl hl (by decide) rfl (fun ls hl => ?_)
  refine lv_iconst (v := (0 : Int32)) hx hb (dk hX0_passDay_0 4 rfl) (by decide) ?_
  refine lv_istore_n (lv' := [(3, .int (0 : Int32)), (2, .int u_1), (0, .ref (ad 0)), (1, .int p0)]) hx hb (dk hX0_passDay_0 5 rfl) rfl hl (by decide) rfl (fun ls hl => ?_)
  refine l_X0_passDay_L10 C 1000 _ _ _ _ hf _ _ hs _ (lv_sub hl [2, 3, 1, 0] rfl) (fun there_11 inn_12 coughs_13 hf H locs hs ls hl => ?_)
  refine lv_iconst (v := (0 : Int32)) hx hb (dk hX0_passDay_0 34 rfl) (by decide) ?_
  refine lv_istore_n (lv' := [(3, .int (0 : Int32)), (0, .ref (ad 0))]) hx hb (dk hX0_passDay_0 35 rfl) rfl hl (by decide) rfl (fun ls hl => ?_)
  refine l_X0_passDay_L62 C 1000 _ _ hf _ _ hs _ (lv_sub hl [1, 0] rfl) (fun there_20 hf H locs hs ls hl => ?_)
  refine lv_aload_n hx hb (dk hX0_passDay_1 16 rfl) rfl (lv_at hl 0 rfl) ?_
  refine lv_iconst (v := (0 : Int32)) hx hb (dk hX0_passDay_1 17 rfl) (by decide) ?_
  obtain ⟨u_21, e_22, hf⟩ := Option.bind_eq_some_iff.mp hf
  refine Ct.V (As := [.int (0 : Int32)]) (rest := []) (st1 := [.int u_21]) (w1 := (wH G ad there_20 used hidden kind figure cargo load ships inn_12 coughs_13 day)) C hs (c_X0_lackOf e_22) tw_198 tw_171 tw_172 tw_18 tw_173 nq_X0_lackOf (by decide) 0 0 rfl rfl rfl rfl hl.1 rfl (Nat.le_of_ble_eq_true rfl) (dk hX0_passDay_1 18 rfl) ⟨Nat.zero_le _, Nat.zero_le _⟩ rfl (fun H locs hs => ?_)
  refine lv_if_le (tgt := 120) hx hb (dk hX0_passDay_1 19 rfl) (by decide) (fun hc => ?_) (fun hc => ?_)
  · replace hf := ip hf hc
    refine lv_aload_n hx hb (dk hX0_passDay_1 28 rfl) rfl (lv_at hl 0 rfl) ?_
    refine lv_dup hx hb (dk hX0_passDay_1 29 rfl) rfl ?_
    refine rg ui0 rfl C hs 0 rfl 10 (by decide) tw_62 rfl rfl (dk hX0_passDay_1 30 rfl) ?_
    refine lv_iconst (v := (1 : Int32)) hx hb (dk hX0_passDay_1 31 rfl) (by decide) ?_
    refine lv_iadd hx hb (dk hX0_passDay_1 32 rfl) ?_
    refine rp (w1 := (wH G ad there_20 used hidden kind figure cargo load ships inn_12 coughs_13 (day + (1 : Int32)))) tyX0 tyX0_ok nmX0 ui0 rfl C hs 0 rfl 10 (by decide) tw_62 rfl rfl rfl rfl (Nat.le_of_ble_eq_true rfl) rfl (dk hX0_passDay_1 33 rfl) (fun H locs hs => ?_)
    cases hf
    exact rv C hs (dk hX0_passDay_1 34 rfl)
  · replace hf := in_ hf hc
    refine lv_aload_n hx hb (dk hX0_passDay_1 20 rfl) rfl (lv_at hl 0 rfl) ?_
    refine lv_bipush (v := (99 : Int32)) hx hb (dk hX0_passDay_1 21 rfl) (by decide) ?_
    refine lv_aload_n hx hb (dk hX0_passDay_1 22 rfl) rfl (lv_at hl 0 rfl) ?_
    refine rg ui0 rfl C hs 0 rfl 9 (by decide) tw_59 rfl rfl (dk hX0_passDay_1 23 rfl) ?_
    refine lv_iconst (v := (1 : Int32)) hx hb (dk hX0_passDay_1 24 rfl) (by decide) ?_
    refine lv_iadd hx hb (dk hX0_passDay_1 25 rfl) ?_
    refine va_mmin hx hb (hml.trans hl.1.symm) hown (hts _ tw_286) (hts _ tw_287) (hts _ tw_22) (hts _ tw_288) (by decide) (Nat.le_of_ble_eq_true rfl) (Nat.zero_le _) (Nat.zero_le _) (dk hX0_passDay_1 26 rfl) ?_
    refine rp (w1 := (wH G ad there_20 used hidden kind figure cargo load ships inn_12 (mmin (99 : Int32) (coughs_13 + (1 : Int32))) day)) tyX0 tyX0_ok nmX0 ui0 rfl C hs 0 rfl 9 (by decide) tw_59 rfl rfl rfl rfl (Nat.le_of_ble_eq_true rfl) rfl (dk hX0_passDay_1 27 rfl) (fun H locs hs => ?_)
    refine lv_aload_n hx hb (dk hX0_passDay_1 28 rfl) rfl (lv_at hl 0 rfl) ?_
    refine lv_dup hx hb (dk hX0_passDay_1 29 rfl) rfl ?_
    refine rg ui0 rfl C hs 0 rfl 10 (by decide) tw_62 rfl rfl (dk hX0_passDay_1 30 rfl) ?_
    refine lv_iconst (v := (1 : Int32)) hx hb (dk hX0_passDay_1 31 rfl) (by decide) ?_
    refine lv_iadd hx hb (dk hX0_passDay_1 32 rfl) ?_
    refine rp (w1 := (wH G ad there_20 used hidden kind figure cargo load ships inn_12 (mmin (99 : Int32) (coughs_13 + (1 : Int32))) (day + (1 : Int32)))) tyX0 tyX0_ok nmX0 ui0 rfl C hs 0 rfl 10 (by decide) tw_62 rfl rfl rfl rfl (Nat.le_of_ble_eq_true rfl) rfl (dk hX0_passDay_1 33 rfl) (fun H locs hs => ?_)
    cases hf
    exact rv C hs (dk hX0_passDay_1 34 rfl)

def X0_passDays_L2 (k : List Int32 → Int32 → Int32 → Int32 → Option (List Int32 × Int32 × Int32 × Int32)) (used : List Int32) (hidden : List Int32) (kind : List Int32) (figure : List Int32) (cargo : List Int32) (load : List Int32) (ships : Int32) (x1 : Int32) : Nat → Int32 → List Int32 → Int32 → Int32 → Int32 → Option (List Int32 × Int32 × Int32 × Int32)
  | 0, _, _, _, _, _ => none
  | n + 1, x2, there, inn, coughs, day =>
  if x1 ≤ x2 then
  k there inn coughs day
  else
  (X0_passDay there used hidden kind figure cargo load ships inn coughs day (0 : Int32)).bind fun u_1 =>
  X0_passDays_L2 k used hidden kind figure cargo load ships x1 n (x2 + (1 : Int32)) u_1.1 u_1.2.1 u_1.2.2.1 u_1.2.2.2
def X0_passDays (there : List Int32) (used : List Int32) (hidden : List Int32) (kind : List Int32) (figure : List Int32) (cargo : List Int32) (load : List Int32) (ships : Int32) (inn : Int32) (coughs : Int32) (day : Int32) (p0 : Int32) : Option (List Int32 × Int32 × Int32 × Int32) :=
  X0_passDays_L2 (fun there_3 inn_4 coughs_5 day_6 =>
  some (there_3, inn_4, coughs_5, day_6)) used hidden kind figure cargo load ships p0 1000 (0 : Int32) there inn coughs day
set_option maxRecDepth 100000 in
set_option maxHeartbeats 4000000 in
theorem l_X0_passDays_L2 {l : Launch} {p : Program} {e : Env} {s : State} {m : MethodId} {args : Array Value} {below : List Frame} {meth : Method} {c : Code} {A : Nat → Prop} {G : Gx} {ad : Nat → Nat} {used hidden kind figure cargo load : List Int32} {ships : Int32} {x1 : Int32} {k : List Int32 → Int32 → Int32 → Int32 → Option (List Int32 × Int32 × Int32 × Int32)} {out : List Int32 × Int32 × Int32 × Int32} (C : Cx p s m args meth c cX0_passDays RX0 3 (none) G) : ∀ (n : Nat) (x2 : Int32) (there : List Int32) (inn : Int32) (coughs : Int32) (day : Int32), X0_passDays_L2 k used hidden kind figure cargo load ships x1 n x2 there inn coughs day = some out → ∀ (H : Heap) (locs : List Loc), St G A s.heap H locs (wH G ad there used hidden kind figure cargo load ships inn coughs day) → ∀ ls : Array Slot, lv_has ls 3 [(0, .ref (ad 0)), (1, .int x1), (2, .int x2)] → (∀ (z_there : List Int32) (z_inn : Int32) (z_coughs : Int32) (z_day : Int32), k z_there z_inn z_coughs z_day = some out → ∀ (H : Heap) (locs : List Loc), St G A s.heap H locs (wH G ad z_there used hidden kind figure cargo load ships z_inn z_coughs z_day) → ∀ ls : Array Slot, lv_has ls 3 [] → W p l e (rmOf 4 89) s m args below meth c H locs 0 0 (MQ below (Qof G A (none) (wH G ad out.1 used hidden kind figure cargo load ships out.2.1 out.2.2.1 out.2.2.2)) args s 0 0 A) (F0 m 18 ls [])) → W p l e (rmOf 4 89) s m args below meth c H locs 0 0 (MQ below (Qof G A (none) (wH G ad out.1 used hidden kind figure cargo load ships out.2.1 out.2.2.1 out.2.2.2)) args s 0 0 A) (F0 m 2 ls []) := by
  obtain ⟨hx, hb, hml, hown, hts, hK, hret, hlk⟩ := id C
  intro n
  induction n with
  | zero => intro x2 there inn coughs day hf; cases hf
  | succ n ih =>
    intro x2 there inn coughs day hf H locs hs ls hl hk
    rw [X0_passDays_L2] at hf
    refine lv_iload_n hx hb (dk hX0_passDays_0 2 rfl) rfl (lv_at hl 2 rfl) ?_
    refine lv_iload_n hx hb (dk hX0_passDays_0 3 rfl) rfl (lv_at hl 1 rfl) ?_
    refine lv_icmp_ge (tgt := 18) hx hb (dk hX0_passDays_0 4 rfl) (by decide) (fun hc => ?_) (fun hc => ?_)
    · replace hf := ip hf hc
      exact hk _ _ _ _ hf _ _ hs _ (lv_sub hl [] rfl)
    · replace hf := in_ hf hc
      refine lv_aload_n hx hb (dk hX0_passDays_0 5 rfl) rfl (lv_at hl 0 rfl) ?_
      refine lv_iconst (v := (0 : Int32)) hx hb (dk hX0_passDays_0 6 rfl) (by decide) ?_
      obtain ⟨u_1, e_2, hf⟩ := Option.bind_eq_some_iff.mp hf
      refine Ct.V (As := [.int (0 : Int32)]) (rest := []) (st1 := []) (w1 := (wH G ad u_1.1 used hidden kind figure cargo load ships u_1.2.1 u_1.2.2.1 u_1.2.2.2)) C hs (c_X0_passDay e_2) tw_272 tw_273 tw_274 tw_18 tw_275 nq_X0_passDay (by decide) 0 0 rfl rfl rfl rfl hl.1 rfl (Nat.le_of_ble_eq_true rfl) (dk hX0_passDays_0 7 rfl) ⟨Nat.zero_le _, Nat.zero_le _⟩ rfl (fun H locs hs => ?_)
      refine lv_iinc (v := (x2 + (1 : Int32))) (lv' := [(2, .int (x2 + (1 : Int32))), (0, .ref (ad 0)), (1, .int x1)]) hx hb (dk hX0_passDays_0 8 rfl) hl (k := 2) rfl (by first | rfl | decide) (by decide) rfl (fun ls hl => ?_)
      refine lv_goto (tgt := 2) hx hb (dk hX0_passDays_0 9 rfl) (by decide) ?_
      exact ih _ _ _ _ _ hf _ _ hs _ (lv_sub hl [1, 2, 0] rfl) hk
set_option maxRecDepth 100000 in
set_option maxHeartbeats 4000000 in
theorem c_X0_passDays {l : Launch} {G : Gx} {ad : Nat → Nat} {there used hidden kind figure cargo load : List Int32} {ships inn coughs day : Int32} {p0 : Int32} {out : List Int32 × Int32 × Int32 × Int32} (hf : X0_passDays there used hidden kind figure cargo load ships inn coughs day p0 = some out) : Ct l G yX0_passDays cX0_passDays 3 (none) 4 89 [.ref (ad 0), .int p0] (wH G ad there used hidden kind figure cargo load ships inn coughs day) (none) (wH G ad out.1 used hidden kind figure cargo load ships out.2.1 out.2.2.1 out.2.2.2) := by
  refine Ct.intro RX0 rfl (plainFor_of_name (by decide)) (Nat.le_of_ble_eq_true rfl) rfl ?_
  intro p e s m args below meth c A C H locs hs ls hl
  obtain ⟨hx, hb, hml, hown, hts, hK, hret, hlk⟩ := id C
  have hl : lv_has ls 3 [(0, .ref (ad 0)), (1, .int p0)] := hl
  unfold X0_passDays at hf
  refine lv_iconst (v := (0 : Int32)) hx hb (dk hX0_passDays_0 0 rfl) (by decide) ?_
  refine lv_istore_n (lv' := [(2, .int (0 : Int32)), (0, .ref (ad 0)), (1, .int p0)]) hx hb (dk hX0_passDays_0 1 rfl) rfl hl (by decide) rfl (fun ls hl => ?_)
  refine l_X0_passDays_L2 C 1000 _ _ _ _ _ hf _ _ hs _ (lv_sub hl [1, 2, 0] rfl) (fun there_3 inn_4 coughs_5 day_6 hf H locs hs ls hl => ?_)
  cases hf
  exact rv C hs (dk hX0_passDays_0 10 rfl)

def X0_daysUntilIn_L2 (k : List Int32 → Int32 → Int32 → Int32 → Option (List Int32 × Int32 × Int32 × Int32 × Int32)) (used : List Int32) (hidden : List Int32) (kind : List Int32) (figure : List Int32) (cargo : List Int32) (load : List Int32) (ships : Int32) (x1 : Int32) (x2 : Int32) : Nat → Int32 → List Int32 → Int32 → Int32 → Int32 → Option (List Int32 × Int32 × Int32 × Int32 × Int32)
  | 0, _, _, _, _, _ => none
  | n + 1, x3, there, inn, coughs, day =>
  if x2 ≤ x3 then
  k there inn coughs day
  else
  (X0_isIn inn x1).bind fun u_1 =>
  if u_1 = (0 : Int32) then
  (X0_passDay there used hidden kind figure cargo load ships inn coughs day (0 : Int32)).bind fun u_3 =>
  X0_daysUntilIn_L2 k used hidden kind figure cargo load ships x1 x2 n (x3 + (1 : Int32)) u_3.1 u_3.2.1 u_3.2.2.1 u_3.2.2.2
  else
  some (there, inn, coughs, day, x3)
def X0_daysUntilIn (there : List Int32) (used : List Int32) (hidden : List Int32) (kind : List Int32) (figure : List Int32) (cargo : List Int32) (load : List Int32) (ships : Int32) (inn : Int32) (coughs : Int32) (day : Int32) (p0 : Int32) (p1 : Int32) : Option (List Int32 × Int32 × Int32 × Int32 × Int32) :=
  X0_daysUntilIn_L2 (fun there_5 inn_6 coughs_7 day_8 =>
  (X0_isIn inn_6 p0).bind fun u_9 =>
  if u_9 = (0 : Int32) then
  some (there_5, inn_6, coughs_7, day_8, (-9 : Int32))
  else
  some (there_5, inn_6, coughs_7, day_8, p1)) used hidden kind figure cargo load ships p0 p1 1000 (0 : Int32) there inn coughs day
set_option maxRecDepth 100000 in
set_option maxHeartbeats 4000000 in
theorem l_X0_daysUntilIn_L2 {l : Launch} {p : Program} {e : Env} {s : State} {m : MethodId} {args : Array Value} {below : List Frame} {meth : Method} {c : Code} {A : Nat → Prop} {G : Gx} {ad : Nat → Nat} {used hidden kind figure cargo load : List Int32} {ships : Int32} {x1 : Int32} {x2 : Int32} {k : List Int32 → Int32 → Int32 → Int32 → Option (List Int32 × Int32 × Int32 × Int32 × Int32)} {out : List Int32 × Int32 × Int32 × Int32 × Int32} (C : Cx p s m args meth c cX0_daysUntilIn RX0 4 (some .int) G) : ∀ (n : Nat) (x3 : Int32) (there : List Int32) (inn : Int32) (coughs : Int32) (day : Int32), X0_daysUntilIn_L2 k used hidden kind figure cargo load ships x1 x2 n x3 there inn coughs day = some out → ∀ (H : Heap) (locs : List Loc), St G A s.heap H locs (wH G ad there used hidden kind figure cargo load ships inn coughs day) → ∀ ls : Array Slot, lv_has ls 4 [(0, .ref (ad 0)), (1, .int x1), (2, .int x2), (3, .int x3)] → (∀ (z_there : List Int32) (z_inn : Int32) (z_coughs : Int32) (z_day : Int32), k z_there z_inn z_coughs z_day = some out → ∀ (H : Heap) (locs : List Loc), St G A s.heap H locs (wH G ad z_there used hidden kind figure cargo load ships z_inn z_coughs z_day) → ∀ ls : Array Slot, lv_has ls 4 [(0, .ref (ad 0)), (1, .int x1), (2, .int x2)] → W p l e (rmOf 4 89) s m args below meth c H locs 0 0 (MQ below (Qof G A (some (.int out.2.2.2.2)) (wH G ad out.1 used hidden kind figure cargo load ships out.2.1 out.2.2.1 out.2.2.2.1)) args s 0 0 A) (F0 m 28 ls [])) → W p l e (rmOf 4 89) s m args below meth c H locs 0 0 (MQ below (Qof G A (some (.int out.2.2.2.2)) (wH G ad out.1 used hidden kind figure cargo load ships out.2.1 out.2.2.1 out.2.2.2.1)) args s 0 0 A) (F0 m 2 ls []) := by
  obtain ⟨hx, hb, hml, hown, hts, hK, hret, hlk⟩ := id C
  intro n
  induction n with
  | zero => intro x3 there inn coughs day hf; cases hf
  | succ n ih =>
    intro x3 there inn coughs day hf H locs hs ls hl hk
    rw [X0_daysUntilIn_L2] at hf
    refine lv_iload_n hx hb (dk hX0_daysUntilIn_0 2 rfl) rfl (lv_at hl 3 rfl) ?_
    refine lv_iload_n hx hb (dk hX0_daysUntilIn_0 3 rfl) rfl (lv_at hl 2 rfl) ?_
    refine lv_icmp_ge (tgt := 28) hx hb (dk hX0_daysUntilIn_0 4 rfl) (by decide) (fun hc => ?_) (fun hc => ?_)
    · replace hf := ip hf hc
      exact hk _ _ _ _ hf _ _ hs _ (lv_sub hl [0, 1, 2] rfl)
    · replace hf := in_ hf hc
      refine lv_aload_n hx hb (dk hX0_daysUntilIn_0 5 rfl) rfl (lv_at hl 0 rfl) ?_
      refine lv_iload_n hx hb (dk hX0_daysUntilIn_0 6 rfl) rfl (lv_at hl 1 rfl) ?_
      obtain ⟨u_1, e_2, hf⟩ := Option.bind_eq_some_iff.mp hf
      refine Ct.V (As := [.int x1]) (rest := []) (st1 := [.int u_1]) (w1 := (wH G ad there used hidden kind figure cargo load ships inn coughs day)) C hs (c_X0_isIn e_2) tw_276 tw_183 tw_184 tw_18 tw_185 nq_X0_isIn (by decide) 0 0 rfl rfl rfl rfl hl.1 rfl (Nat.le_of_ble_eq_true rfl) (dk hX0_daysUntilIn_0 7 rfl) ⟨Nat.zero_le _, Nat.zero_le _⟩ rfl (fun H locs hs => ?_)
      refine lv_if_eq (tgt := 17) hx hb (dk hX0_daysUntilIn_0 8 rfl) (by decide) (fun hc => ?_) (fun hc => ?_)
      · replace hf := ip hf hc
        refine lv_aload_n hx hb (dk hX0_daysUntilIn_0 11 rfl) rfl (lv_at hl 0 rfl) ?_
        refine lv_iconst (v := (0 : Int32)) hx hb (dk hX0_daysUntilIn_0 12 rfl) (by decide) ?_
        obtain ⟨u_3, e_4, hf⟩ := Option.bind_eq_some_iff.mp hf
        refine Ct.V (As := [.int (0 : Int32)]) (rest := []) (st1 := []) (w1 := (wH G ad u_3.1 used hidden kind figure cargo load ships u_3.2.1 u_3.2.2.1 u_3.2.2.2)) C hs (c_X0_passDay e_4) tw_272 tw_273 tw_274 tw_18 tw_275 nq_X0_passDay (by decide) 0 0 rfl rfl rfl rfl hl.1 rfl (Nat.le_of_ble_eq_true rfl) (dk hX0_daysUntilIn_0 13 rfl) ⟨Nat.zero_le _, Nat.zero_le _⟩ rfl (fun H locs hs => ?_)
        refine lv_iinc (v := (x3 + (1 : Int32))) (lv' := [(3, .int (x3 + (1 : Int32))), (0, .ref (ad 0)), (1, .int x1), (2, .int x2)]) hx hb (dk hX0_daysUntilIn_0 14 rfl) hl (k := 3) rfl (by first | rfl | decide) (by decide) rfl (fun ls hl => ?_)
        refine lv_goto (tgt := 2) hx hb (dk hX0_daysUntilIn_0 15 rfl) (by decide) ?_
        exact ih _ _ _ _ _ hf _ _ hs _ (lv_sub hl [1, 2, 3, 0] rfl) hk
      · replace hf := in_ hf hc
        refine lv_iload_n hx hb (dk hX0_daysUntilIn_0 9 rfl) rfl (lv_at hl 3 rfl) ?_
        cases hf
        exact ri C hs (dk hX0_daysUntilIn_0 10 rfl)
set_option maxRecDepth 100000 in
set_option maxHeartbeats 4000000 in
theorem c_X0_daysUntilIn {l : Launch} {G : Gx} {ad : Nat → Nat} {there used hidden kind figure cargo load : List Int32} {ships inn coughs day : Int32} {p0 : Int32} {p1 : Int32} {out : List Int32 × Int32 × Int32 × Int32 × Int32} (hf : X0_daysUntilIn there used hidden kind figure cargo load ships inn coughs day p0 p1 = some out) : Ct l G yX0_daysUntilIn cX0_daysUntilIn 4 (some .int) 4 89 [.ref (ad 0), .int p0, .int p1] (wH G ad there used hidden kind figure cargo load ships inn coughs day) (some (.int out.2.2.2.2)) (wH G ad out.1 used hidden kind figure cargo load ships out.2.1 out.2.2.1 out.2.2.2.1) := by
  refine Ct.intro RX0 rfl (plainFor_of_name (by decide)) (Nat.le_of_ble_eq_true rfl) rfl ?_
  intro p e s m args below meth c A C H locs hs ls hl
  obtain ⟨hx, hb, hml, hown, hts, hK, hret, hlk⟩ := id C
  have hl : lv_has ls 4 [(0, .ref (ad 0)), (1, .int p0), (2, .int p1)] := hl
  unfold X0_daysUntilIn at hf
  refine lv_iconst (v := (0 : Int32)) hx hb (dk hX0_daysUntilIn_0 0 rfl) (by decide) ?_
  refine lv_istore_n (lv' := [(3, .int (0 : Int32)), (0, .ref (ad 0)), (1, .int p0), (2, .int p1)]) hx hb (dk hX0_daysUntilIn_0 1 rfl) rfl hl (by decide) rfl (fun ls hl => ?_)
  refine l_X0_daysUntilIn_L2 C 1000 _ _ _ _ _ hf _ _ hs _ (lv_sub hl [1, 2, 3, 0] rfl) (fun there_5 inn_6 coughs_7 day_8 hf H locs hs ls hl => ?_)
  refine lv_aload_n hx hb (dk hX0_daysUntilIn_0 16 rfl) rfl (lv_at hl 0 rfl) ?_
  refine lv_iload_n hx hb (dk hX0_daysUntilIn_0 17 rfl) rfl (lv_at hl 1 rfl) ?_
  obtain ⟨u_9, e_10, hf⟩ := Option.bind_eq_some_iff.mp hf
  refine Ct.V (As := [.int p0]) (rest := []) (st1 := [.int u_9]) (w1 := (wH G ad there_5 used hidden kind figure cargo load ships inn_6 coughs_7 day_8)) C hs (c_X0_isIn e_10) tw_276 tw_183 tw_184 tw_18 tw_185 nq_X0_isIn (by decide) 0 0 rfl rfl rfl rfl hl.1 rfl (Nat.le_of_ble_eq_true rfl) (dk hX0_daysUntilIn_0 18 rfl) ⟨Nat.zero_le _, Nat.zero_le _⟩ rfl (fun H locs hs => ?_)
  refine lv_if_eq (tgt := 40) hx hb (dk hX0_daysUntilIn_0 19 rfl) (by decide) (fun hc => ?_) (fun hc => ?_)
  · replace hf := ip hf hc
    refine lv_bipush (v := (-9 : Int32)) hx hb (dk hX0_daysUntilIn_0 22 rfl) (by decide) ?_
    cases hf
    exact ri C hs (dk hX0_daysUntilIn_0 23 rfl)
  · replace hf := in_ hf hc
    refine lv_iload_n hx hb (dk hX0_daysUntilIn_0 20 rfl) rfl (lv_at hl 2 rfl) ?_
    refine lv_goto (tgt := 42) hx hb (dk hX0_daysUntilIn_0 21 rfl) (by decide) ?_
    cases hf
    exact ri C hs (dk hX0_daysUntilIn_0 23 rfl)

def X0_wantWithin_L8 (k : Int32 → List Int32 → Int32 → Int32 → Int32 → Option (List Int32 × Int32 × Int32 × Int32 × Int32)) (used : List Int32) (hidden : List Int32) (kind : List Int32) (figure : List Int32) (cargo : List Int32) (load : List Int32) (ships : Int32) (x1 : Int32) (x2 : Int32) : Nat → Int32 → Int32 → List Int32 → Int32 → Int32 → Int32 → Option (List Int32 × Int32 × Int32 × Int32 × Int32)
  | 0, _, _, _, _, _, _ => none
  | n + 1, x3, x4, there, inn, coughs, day =>
  if x1 ≤ x4 then
  k x3 there inn coughs day
  else
  (X0_passDay there used hidden kind figure cargo load ships inn coughs day x2).bind fun u_3 =>
  (X0_lackOfAll u_3.1 used).bind fun u_5 =>
  X0_wantWithin_L8 k used hidden kind figure cargo load ships x1 x2 n (x3 + u_5) (x4 + (1 : Int32)) u_3.1 u_3.2.1 u_3.2.2.1 u_3.2.2.2
def X0_wantWithin (there : List Int32) (used : List Int32) (hidden : List Int32) (kind : List Int32) (figure : List Int32) (cargo : List Int32) (load : List Int32) (ships : Int32) (inn : Int32) (coughs : Int32) (day : Int32) (p0 : Int32) (p1 : Int32) : Option (List Int32 × Int32 × Int32 × Int32 × Int32) :=
  (X0_lackOfAll there used).bind fun u_1 =>
  X0_wantWithin_L8 (fun y3_7 there_8 inn_9 coughs_10 day_11 =>
  some (there_8, inn_9, coughs_10, day_11, y3_7)) used hidden kind figure cargo load ships p0 p1 1000 u_1 (0 : Int32) there inn coughs day
set_option maxRecDepth 100000 in
set_option maxHeartbeats 4000000 in
theorem l_X0_wantWithin_L8 {l : Launch} {p : Program} {e : Env} {s : State} {m : MethodId} {args : Array Value} {below : List Frame} {meth : Method} {c : Code} {A : Nat → Prop} {G : Gx} {ad : Nat → Nat} {used hidden kind figure cargo load : List Int32} {ships : Int32} {x1 : Int32} {x2 : Int32} {k : Int32 → List Int32 → Int32 → Int32 → Int32 → Option (List Int32 × Int32 × Int32 × Int32 × Int32)} {out : List Int32 × Int32 × Int32 × Int32 × Int32} (C : Cx p s m args meth c cX0_wantWithin RX0 5 (some .int) G) : ∀ (n : Nat) (x3 : Int32) (x4 : Int32) (there : List Int32) (inn : Int32) (coughs : Int32) (day : Int32), X0_wantWithin_L8 k used hidden kind figure cargo load ships x1 x2 n x3 x4 there inn coughs day = some out → ∀ (H : Heap) (locs : List Loc), St G A s.heap H locs (wH G ad there used hidden kind figure cargo load ships inn coughs day) → ∀ ls : Array Slot, lv_has ls 5 [(0, .ref (ad 0)), (1, .int x1), (2, .int x2), (3, .int x3), (4, .int x4)] → (∀ (y3 : Int32) (z_there : List Int32) (z_inn : Int32) (z_coughs : Int32) (z_day : Int32), k y3 z_there z_inn z_coughs z_day = some out → ∀ (H : Heap) (locs : List Loc), St G A s.heap H locs (wH G ad z_there used hidden kind figure cargo load ships z_inn z_coughs z_day) → ∀ ls : Array Slot, lv_has ls 5 [(3, .int y3)] → W p l e (rmOf 4 89) s m args below meth c H locs 0 0 (MQ below (Qof G A (some (.int out.2.2.2.2)) (wH G ad out.1 used hidden kind figure cargo load ships out.2.1 out.2.2.1 out.2.2.2.1)) args s 0 0 A) (F0 m 32 ls [])) → W p l e (rmOf 4 89) s m args below meth c H locs 0 0 (MQ below (Qof G A (some (.int out.2.2.2.2)) (wH G ad out.1 used hidden kind figure cargo load ships out.2.1 out.2.2.1 out.2.2.2.1)) args s 0 0 A) (F0 m 8 ls []) := by
  obtain ⟨hx, hb, hml, hown, hts, hK, hret, hlk⟩ := id C
  intro n
  induction n with
  | zero => intro x3 x4 there inn coughs day hf; cases hf
  | succ n ih =>
    intro x3 x4 there inn coughs day hf H locs hs ls hl hk
    rw [X0_wantWithin_L8] at hf
    refine lv_iload hx hb (dk hX0_wantWithin_0 5 rfl) (lv_at hl 4 rfl) ?_
    refine lv_iload_n hx hb (dk hX0_wantWithin_0 6 rfl) rfl (lv_at hl 1 rfl) ?_
    refine lv_icmp_ge (tgt := 32) hx hb (dk hX0_wantWithin_0 7 rfl) (by decide) (fun hc => ?_) (fun hc => ?_)
    · replace hf := ip hf hc
      exact hk _ _ _ _ _ hf _ _ hs _ (lv_sub hl [3] rfl)
    · replace hf := in_ hf hc
      refine lv_aload_n hx hb (dk hX0_wantWithin_0 8 rfl) rfl (lv_at hl 0 rfl) ?_
      refine lv_iload_n hx hb (dk hX0_wantWithin_0 9 rfl) rfl (lv_at hl 2 rfl) ?_
      obtain ⟨u_3, e_4, hf⟩ := Option.bind_eq_some_iff.mp hf
      refine Ct.V (As := [.int x2]) (rest := []) (st1 := []) (w1 := (wH G ad u_3.1 used hidden kind figure cargo load ships u_3.2.1 u_3.2.2.1 u_3.2.2.2)) C hs (c_X0_passDay e_4) tw_272 tw_273 tw_274 tw_18 tw_275 nq_X0_passDay (by decide) 0 0 rfl rfl rfl rfl hl.1 rfl (Nat.le_of_ble_eq_true rfl) (dk hX0_wantWithin_0 10 rfl) ⟨Nat.zero_le _, Nat.zero_le _⟩ rfl (fun H locs hs => ?_)
      refine lv_iload_n hx hb (dk hX0_wantWithin_0 11 rfl) rfl (lv_at hl 3 rfl) ?_
      refine lv_aload_n hx hb (dk hX0_wantWithin_0 12 rfl) rfl (lv_at hl 0 rfl) ?_
      obtain ⟨u_5, e_6, hf⟩ := Option.bind_eq_some_iff.mp hf
      refine Ct.V (As := []) (rest := [.int x3]) (st1 := [.int u_5, .int x3]) (w1 := (wH G ad u_3.1 used hidden kind figure cargo load ships u_3.2.1 u_3.2.2.1 u_3.2.2.2)) C hs (c_X0_lackOfAll e_6) tw_382 tw_383 tw_384 tw_18 tw_385 nq_X0_lackOfAll (by decide) 0 0 rfl rfl rfl rfl hl.1 rfl (Nat.le_of_ble_eq_true rfl) (dk hX0_wantWithin_0 13 rfl) ⟨Nat.zero_le _, Nat.zero_le _⟩ rfl (fun H locs hs => ?_)
      refine lv_iadd hx hb (dk hX0_wantWithin_0 14 rfl) ?_
      refine lv_istore_n (lv' := [(3, .int (x3 + u_5)), (0, .ref (ad 0)), (1, .int x1), (2, .int x2), (4, .int x4)]) hx hb (dk hX0_wantWithin_0 15 rfl) rfl hl (by decide) rfl (fun ls hl => ?_)
      refine lv_iinc (v := (x4 + (1 : Int32))) (lv' := [(4, .int (x4 + (1 : Int32))), (3, .int (x3 + u_5)), (0, .ref (ad 0)), (1, .int x1), (2, .int x2)]) hx hb (dk hX0_wantWithin_0 16 rfl) hl (k := 4) rfl (by first | rfl | decide) (by decide) rfl (fun ls hl => ?_)
      refine lv_goto (tgt := 8) hx hb (dk hX0_wantWithin_0 17 rfl) (by decide) ?_
      exact ih _ _ _ _ _ _ hf _ _ hs _ (lv_sub hl [2, 3, 4, 1, 0] rfl) hk
set_option maxRecDepth 100000 in
set_option maxHeartbeats 4000000 in
theorem c_X0_wantWithin {l : Launch} {G : Gx} {ad : Nat → Nat} {there used hidden kind figure cargo load : List Int32} {ships inn coughs day : Int32} {p0 : Int32} {p1 : Int32} {out : List Int32 × Int32 × Int32 × Int32 × Int32} (hf : X0_wantWithin there used hidden kind figure cargo load ships inn coughs day p0 p1 = some out) : Ct l G yX0_wantWithin cX0_wantWithin 5 (some .int) 4 89 [.ref (ad 0), .int p0, .int p1] (wH G ad there used hidden kind figure cargo load ships inn coughs day) (some (.int out.2.2.2.2)) (wH G ad out.1 used hidden kind figure cargo load ships out.2.1 out.2.2.1 out.2.2.2.1) := by
  refine Ct.intro RX0 rfl (plainFor_of_name (by decide)) (Nat.le_of_ble_eq_true rfl) rfl ?_
  intro p e s m args below meth c A C H locs hs ls hl
  obtain ⟨hx, hb, hml, hown, hts, hK, hret, hlk⟩ := id C
  have hl : lv_has ls 5 [(0, .ref (ad 0)), (1, .int p0), (2, .int p1)] := hl
  unfold X0_wantWithin at hf
  refine lv_aload_n hx hb (dk hX0_wantWithin_0 0 rfl) rfl (lv_at hl 0 rfl) ?_
  obtain ⟨u_1, e_2, hf⟩ := Option.bind_eq_some_iff.mp hf
  refine Ct.V (As := []) (rest := []) (st1 := [.int u_1]) (w1 := (wH G ad there used hidden kind figure cargo load ships inn coughs day)) C hs (c_X0_lackOfAll e_2) tw_382 tw_383 tw_384 tw_18 tw_385 nq_X0_lackOfAll (by decide) 0 0 rfl rfl rfl rfl hl.1 rfl (Nat.le_of_ble_eq_true rfl) (dk hX0_wantWithin_0 1 rfl) ⟨Nat.zero_le _, Nat.zero_le _⟩ rfl (fun H locs hs => ?_)
  refine lv_istore_n (lv' := [(3, .int u_1), (0, .ref (ad 0)), (1, .int p0), (2, .int p1)]) hx hb (dk hX0_wantWithin_0 2 rfl) rfl hl (by decide) rfl (fun ls hl => ?_)
  refine lv_iconst (v := (0 : Int32)) hx hb (dk hX0_wantWithin_0 3 rfl) (by decide) ?_
  refine lv_istore (lv' := [(4, .int (0 : Int32)), (3, .int u_1), (0, .ref (ad 0)), (1, .int p0), (2, .int p1)]) hx hb (dk hX0_wantWithin_0 4 rfl) hl (by decide) rfl (fun ls hl => ?_)
  refine l_X0_wantWithin_L8 C 1000 _ _ _ _ _ _ hf _ _ hs _ (lv_sub hl [2, 3, 4, 1, 0] rfl) (fun y3_7 there_8 inn_9 coughs_10 day_11 hf H locs hs ls hl => ?_)
  refine lv_iload_n hx hb (dk hX0_wantWithin_0 18 rfl) rfl (lv_at hl 0 rfl) ?_
  cases hf
  exact ri C hs (dk hX0_wantWithin_0 19 rfl)

def X0_canHide (there : List Int32) (hidden : List Int32) (p0 : Int32) (p1 : Int32) : Option (Int32) :=
  (rd hidden p0).bind fun v_1 =>
  if p1 < (-v_1) then
  some (0 : Int32)
  else
  (rd there p0).bind fun v_3 =>
  if v_3 < p1 then
  some (0 : Int32)
  else
  (rd hidden p0).bind fun v_5 =>
  if ((99 : Int32) - v_5) < p1 then
  some (0 : Int32)
  else
  (rd there p0).bind fun v_7 =>
  if p1 < (v_7 - (99 : Int32)) then
  some (0 : Int32)
  else
  some (1 : Int32)
set_option maxRecDepth 100000 in
set_option maxHeartbeats 4000000 in
theorem c_X0_canHide {l : Launch} {G : Gx} {ad : Nat → Nat} {there used hidden kind figure cargo load : List Int32} {ships inn coughs day : Int32} {p0 : Int32} {p1 : Int32} {out : Int32} (hf : X0_canHide there hidden p0 p1 = some out) : Ct l G yX0_canHide cX0_canHide 3 (some .boolean) 0 0 [.ref (ad 0), .int p0, .int p1] (wH G ad there used hidden kind figure cargo load ships inn coughs day) (some (.int out)) (wH G ad there used hidden kind figure cargo load ships inn coughs day) := by
  refine Ct.intro RX0 rfl (plainFor_of_name (by decide)) (Nat.le_of_ble_eq_true rfl) rfl ?_
  intro p e s m args below meth c A C H locs hs ls hl
  obtain ⟨hx, hb, hml, hown, hts, hK, hret, hlk⟩ := id C
  have hl : lv_has ls 3 [(0, .ref (ad 0)), (1, .int p0), (2, .int p1)] := hl
  unfold X0_canHide at hf
  refine lv_iload_n hx hb (dk hX0_canHide_0 0 rfl) rfl (lv_at hl 2 rfl) ?_
  refine lv_aload_n hx hb (dk hX0_canHide_0 1 rfl) rfl (lv_at hl 0 rfl) ?_
  refine rg ui0 rfl C hs 0 rfl 2 (by decide) tw_44 rfl rfl (dk hX0_canHide_0 2 rfl) ?_
  refine lv_iload_n hx hb (dk hX0_canHide_0 3 rfl) rfl (lv_at hl 1 rfl) ?_
  obtain ⟨v_1, e_2, hf⟩ := Option.bind_eq_some_iff.mp hf
  refine rild C hs 3 rfl e_2 (dk hX0_canHide_0 4 rfl) ?_
  refine lv_ineg hx hb (dk hX0_canHide_0 5 rfl) ?_
  refine lv_icmp_lt (tgt := 51) hx hb (dk hX0_canHide_0 6 rfl) (by decide) (fun hc => ?_) (fun hc => ?_)
  · replace hf := ip hf hc
    refine lv_iconst (v := (0 : Int32)) hx hb (dk hX0_canHide_0 31 rfl) (by decide) ?_
    cases hf
    exact rz (x := (0 : Int32)) rfl C hs (dk hX0_canHide_0 32 rfl)
  · replace hf := in_ hf hc
    refine lv_iload_n hx hb (dk hX0_canHide_0 7 rfl) rfl (lv_at hl 2 rfl) ?_
    refine lv_aload_n hx hb (dk hX0_canHide_0 8 rfl) rfl (lv_at hl 0 rfl) ?_
    refine rg ui0 rfl C hs 0 rfl 0 (by decide) tw_38 rfl rfl (dk hX0_canHide_0 9 rfl) ?_
    refine lv_iload_n hx hb (dk hX0_canHide_0 10 rfl) rfl (lv_at hl 1 rfl) ?_
    obtain ⟨v_3, e_4, hf⟩ := Option.bind_eq_some_iff.mp hf
    refine rild C hs 1 rfl e_4 (dk hX0_canHide_0 11 rfl) ?_
    refine lv_icmp_gt (tgt := 51) hx hb (dk hX0_canHide_0 12 rfl) (by decide) (fun hc => ?_) (fun hc => ?_)
    · replace hf := ip hf hc
      refine lv_iconst (v := (0 : Int32)) hx hb (dk hX0_canHide_0 31 rfl) (by decide) ?_
      cases hf
      exact rz (x := (0 : Int32)) rfl C hs (dk hX0_canHide_0 32 rfl)
    · replace hf := in_ hf hc
      refine lv_iload_n hx hb (dk hX0_canHide_0 13 rfl) rfl (lv_at hl 2 rfl) ?_
      refine lv_bipush (v := (99 : Int32)) hx hb (dk hX0_canHide_0 14 rfl) (by decide) ?_
      refine lv_aload_n hx hb (dk hX0_canHide_0 15 rfl) rfl (lv_at hl 0 rfl) ?_
      refine rg ui0 rfl C hs 0 rfl 2 (by decide) tw_44 rfl rfl (dk hX0_canHide_0 16 rfl) ?_
      refine lv_iload_n hx hb (dk hX0_canHide_0 17 rfl) rfl (lv_at hl 1 rfl) ?_
      obtain ⟨v_5, e_6, hf⟩ := Option.bind_eq_some_iff.mp hf
      refine rild C hs 3 rfl e_6 (dk hX0_canHide_0 18 rfl) ?_
      refine lv_isub hx hb (dk hX0_canHide_0 19 rfl) ?_
      refine lv_icmp_gt (tgt := 51) hx hb (dk hX0_canHide_0 20 rfl) (by decide) (fun hc => ?_) (fun hc => ?_)
      · replace hf := ip hf hc
        refine lv_iconst (v := (0 : Int32)) hx hb (dk hX0_canHide_0 31 rfl) (by decide) ?_
        cases hf
        exact rz (x := (0 : Int32)) rfl C hs (dk hX0_canHide_0 32 rfl)
      · replace hf := in_ hf hc
        refine lv_iload_n hx hb (dk hX0_canHide_0 21 rfl) rfl (lv_at hl 2 rfl) ?_
        refine lv_aload_n hx hb (dk hX0_canHide_0 22 rfl) rfl (lv_at hl 0 rfl) ?_
        refine rg ui0 rfl C hs 0 rfl 0 (by decide) tw_38 rfl rfl (dk hX0_canHide_0 23 rfl) ?_
        refine lv_iload_n hx hb (dk hX0_canHide_0 24 rfl) rfl (lv_at hl 1 rfl) ?_
        obtain ⟨v_7, e_8, hf⟩ := Option.bind_eq_some_iff.mp hf
        refine rild C hs 1 rfl e_8 (dk hX0_canHide_0 25 rfl) ?_
        refine lv_bipush (v := (99 : Int32)) hx hb (dk hX0_canHide_0 26 rfl) (by decide) ?_
        refine lv_isub hx hb (dk hX0_canHide_0 27 rfl) ?_
        refine lv_icmp_lt (tgt := 51) hx hb (dk hX0_canHide_0 28 rfl) (by decide) (fun hc => ?_) (fun hc => ?_)
        · replace hf := ip hf hc
          refine lv_iconst (v := (0 : Int32)) hx hb (dk hX0_canHide_0 31 rfl) (by decide) ?_
          cases hf
          exact rz (x := (0 : Int32)) rfl C hs (dk hX0_canHide_0 32 rfl)
        · replace hf := in_ hf hc
          refine lv_iconst (v := (1 : Int32)) hx hb (dk hX0_canHide_0 29 rfl) (by decide) ?_
          refine lv_goto (tgt := 52) hx hb (dk hX0_canHide_0 30 rfl) (by decide) ?_
          cases hf
          exact rz (x := (1 : Int32)) rfl C hs (dk hX0_canHide_0 32 rfl)

def X0_hideAway (there : List Int32) (hidden : List Int32) (p0 : Int32) (p1 : Int32) : Option (List Int32 × List Int32) :=
  (rd there p0).bind fun v_1 =>
  (wr there p0 (v_1 - p1)).bind fun there_3 =>
  (rd hidden p0).bind fun v_5 =>
  (wr hidden p0 (v_5 + p1)).bind fun hidden_7 =>
  some (there_3, hidden_7)
set_option maxRecDepth 100000 in
set_option maxHeartbeats 4000000 in
theorem c_X0_hideAway {l : Launch} {G : Gx} {ad : Nat → Nat} {there used hidden kind figure cargo load : List Int32} {ships inn coughs day : Int32} {p0 : Int32} {p1 : Int32} {out : List Int32 × List Int32} (hf : X0_hideAway there hidden p0 p1 = some out) : Ct l G yX0_hideAway cX0_hideAway 3 (none) 0 0 [.ref (ad 0), .int p0, .int p1] (wH G ad there used hidden kind figure cargo load ships inn coughs day) (none) (wH G ad out.1 used out.2 kind figure cargo load ships inn coughs day) := by
  refine Ct.intro RX0 rfl (plainFor_of_name (by decide)) (Nat.le_of_ble_eq_true rfl) rfl ?_
  intro p e s m args below meth c A C H locs hs ls hl
  obtain ⟨hx, hb, hml, hown, hts, hK, hret, hlk⟩ := id C
  have hl : lv_has ls 3 [(0, .ref (ad 0)), (1, .int p0), (2, .int p1)] := hl
  unfold X0_hideAway at hf
  refine lv_aload_n hx hb (dk hX0_hideAway_0 0 rfl) rfl (lv_at hl 0 rfl) ?_
  refine rg ui0 rfl C hs 0 rfl 0 (by decide) tw_38 rfl rfl (dk hX0_hideAway_0 1 rfl) ?_
  refine lv_iload_n hx hb (dk hX0_hideAway_0 2 rfl) rfl (lv_at hl 1 rfl) ?_
  refine lv_dup2_11 hx hb (dk hX0_hideAway_0 3 rfl) rfl rfl ?_
  obtain ⟨v_1, e_2, hf⟩ := Option.bind_eq_some_iff.mp hf
  refine rild C hs 1 rfl e_2 (dk hX0_hideAway_0 4 rfl) ?_
  refine lv_iload_n hx hb (dk hX0_hideAway_0 5 rfl) rfl (lv_at hl 2 rfl) ?_
  refine lv_isub hx hb (dk hX0_hideAway_0 6 rfl) ?_
  obtain ⟨there_3, e_4, hf⟩ := Option.bind_eq_some_iff.mp hf
  refine rist (w1 := (wH G ad there_3 used hidden kind figure cargo load ships inn coughs day)) C hs 1 rfl e_4 rfl (dk hX0_hideAway_0 7 rfl) (fun H locs hs => ?_)
  refine lv_aload_n hx hb (dk hX0_hideAway_0 8 rfl) rfl (lv_at hl 0 rfl) ?_
  refine rg ui0 rfl C hs 0 rfl 2 (by decide) tw_44 rfl rfl (dk hX0_hideAway_0 9 rfl) ?_
  refine lv_iload_n hx hb (dk hX0_hideAway_0 10 rfl) rfl (lv_at hl 1 rfl) ?_
  refine lv_dup2_11 hx hb (dk hX0_hideAway_0 11 rfl) rfl rfl ?_
  obtain ⟨v_5, e_6, hf⟩ := Option.bind_eq_some_iff.mp hf
  refine rild C hs 3 rfl e_6 (dk hX0_hideAway_0 12 rfl) ?_
  refine lv_iload_n hx hb (dk hX0_hideAway_0 13 rfl) rfl (lv_at hl 2 rfl) ?_
  refine lv_iadd hx hb (dk hX0_hideAway_0 14 rfl) ?_
  obtain ⟨hidden_7, e_8, hf⟩ := Option.bind_eq_some_iff.mp hf
  refine rist (w1 := (wH G ad there_3 used hidden_7 kind figure cargo load ships inn coughs day)) C hs 3 rfl e_8 rfl (dk hX0_hideAway_0 15 rfl) (fun H locs hs => ?_)
  cases hf
  exact rv C hs (dk hX0_hideAway_0 16 rfl)

def X0_deepestShip_L7 (k : Int32 → Option (Int32)) (kind : List Int32) (figure : List Int32) (ships : Int32) : Nat → Int32 → Int32 → Int32 → Option (Int32)
  | 0, _, _, _ => none
  | n + 1, x1, x2, x3 =>
  if ships ≤ x3 then
  k x1
  else
  (X0_draws kind figure x3).bind fun u_1 =>
  if u_1 ≤ x2 then
  X0_deepestShip_L7 k kind figure ships n x1 x2 (x3 + (1 : Int32))
  else
  (X0_draws kind figure x3).bind fun u_3 =>
  X0_deepestShip_L7 k kind figure ships n x3 u_3 (x3 + (1 : Int32))
def X0_deepestShip (kind : List Int32) (figure : List Int32) (ships : Int32) : Option (Int32) :=
  X0_deepestShip_L7 (fun y1_5 =>
  some y1_5) kind figure ships 1000 (-9 : Int32) (0 : Int32) (0 : Int32)
set_option maxRecDepth 100000 in
set_option maxHeartbeats 4000000 in
theorem l_X0_deepestShip_L7 {l : Launch} {p : Program} {e : Env} {s : State} {m : MethodId} {args : Array Value} {below : List Frame} {meth : Method} {c : Code} {A : Nat → Prop} {G : Gx} {ad : Nat → Nat} {there used hidden kind figure cargo load : List Int32} {ships inn coughs day : Int32} {k : Int32 → Option (Int32)} {out : Int32} (C : Cx p s m args meth c cX0_deepestShip RX0 4 (some .int) G) : ∀ (n : Nat) (x1 : Int32) (x2 : Int32) (x3 : Int32), X0_deepestShip_L7 k kind figure ships n x1 x2 x3 = some out → ∀ (H : Heap) (locs : List Loc), St G A s.heap H locs (wH G ad there used hidden kind figure cargo load ships inn coughs day) → ∀ ls : Array Slot, lv_has ls 4 [(0, .ref (ad 0)), (1, .int x1), (2, .int x2), (3, .int x3)] → (∀ (y1 : Int32), k y1 = some out → ∀ (H : Heap) (locs : List Loc), St G A s.heap H locs (wH G ad there used hidden kind figure cargo load ships inn coughs day) → ∀ ls : Array Slot, lv_has ls 4 [(1, .int y1)] → W p l e (rmOf 1 21) s m args below meth c H locs 0 0 (MQ below (Qof G A (some (.int out)) (wH G ad there used hidden kind figure cargo load ships inn coughs day)) args s 0 0 A) (F0 m 38 ls [])) → W p l e (rmOf 1 21) s m args below meth c H locs 0 0 (MQ below (Qof G A (some (.int out)) (wH G ad there used hidden kind figure cargo load ships inn coughs day)) args s 0 0 A) (F0 m 7 ls []) := by
  obtain ⟨hx, hb, hml, hown, hts, hK, hret, hlk⟩ := id C
  intro n
  induction n with
  | zero => intro x1 x2 x3 hf; cases hf
  | succ n ih =>
    intro x1 x2 x3 hf H locs hs ls hl hk
    rw [X0_deepestShip_L7] at hf
    refine lv_iload_n hx hb (dk hX0_deepestShip_0 6 rfl) rfl (lv_at hl 3 rfl) ?_
    refine lv_aload_n hx hb (dk hX0_deepestShip_0 7 rfl) rfl (lv_at hl 0 rfl) ?_
    refine rg ui0 rfl C hs 0 rfl 7 (by decide) tw_54 rfl rfl (dk hX0_deepestShip_0 8 rfl) ?_
    refine lv_icmp_ge (tgt := 38) hx hb (dk hX0_deepestShip_0 9 rfl) (by decide) (fun hc => ?_) (fun hc => ?_)
    · replace hf := ip hf hc
      exact hk _ hf _ _ hs _ (lv_sub hl [1] rfl)
    · replace hf := in_ hf hc
      refine lv_aload_n hx hb (dk hX0_deepestShip_0 10 rfl) rfl (lv_at hl 0 rfl) ?_
      refine lv_iload_n hx hb (dk hX0_deepestShip_0 11 rfl) rfl (lv_at hl 3 rfl) ?_
      obtain ⟨u_1, e_2, hf⟩ := Option.bind_eq_some_iff.mp hf
      refine Ct.V (As := [.int x3]) (rest := []) (st1 := [.int u_1]) (w1 := (wH G ad there used hidden kind figure cargo load ships inn coughs day)) C hs (c_X0_draws e_2) tw_277 tw_187 tw_188 tw_18 tw_189 nq_X0_draws (by decide) 0 0 rfl rfl rfl rfl hl.1 rfl (Nat.le_of_ble_eq_true rfl) (dk hX0_deepestShip_0 12 rfl) ⟨Nat.zero_le _, Nat.zero_le _⟩ rfl (fun H locs hs => ?_)
      refine lv_iload_n hx hb (dk hX0_deepestShip_0 13 rfl) rfl (lv_at hl 2 rfl) ?_
      refine lv_icmp_le (tgt := 32) hx hb (dk hX0_deepestShip_0 14 rfl) (by decide) (fun hc => ?_) (fun hc => ?_)
      · replace hf := ip hf hc
        refine lv_iinc (v := (x3 + (1 : Int32))) (lv' := [(3, .int (x3 + (1 : Int32))), (0, .ref (ad 0)), (1, .int x1), (2, .int x2)]) hx hb (dk hX0_deepestShip_0 21 rfl) hl (k := 3) rfl (by first | rfl | decide) (by decide) rfl (fun ls hl => ?_)
        refine lv_goto (tgt := 7) hx hb (dk hX0_deepestShip_0 22 rfl) (by decide) ?_
        exact ih _ _ _ hf _ _ hs _ (lv_sub hl [1, 2, 3, 0] rfl) hk
      · replace hf := in_ hf hc
        refine lv_iload_n hx hb (dk hX0_deepestShip_0 15 rfl) rfl (lv_at hl 3 rfl) ?_
        refine lv_istore_n (lv' := [(1, .int x3), (0, .ref (ad 0)), (2, .int x2), (3, .int x3)]) hx hb (dk hX0_deepestShip_0 16 rfl) rfl hl (by decide) rfl (fun ls hl => ?_)
        refine lv_aload_n hx hb (dk hX0_deepestShip_0 17 rfl) rfl (lv_at hl 1 rfl) ?_
        refine lv_iload_n hx hb (dk hX0_deepestShip_0 18 rfl) rfl (lv_at hl 3 rfl) ?_
        obtain ⟨u_3, e_4, hf⟩ := Option.bind_eq_some_iff.mp hf
        refine Ct.V (As := [.int x3]) (rest := []) (st1 := [.int u_3]) (w1 := (wH G ad there used hidden kind figure cargo load ships inn coughs day)) C hs (c_X0_draws e_4) tw_277 tw_187 tw_188 tw_18 tw_189 nq_X0_draws (by decide) 0 0 rfl rfl rfl rfl hl.1 rfl (Nat.le_of_ble_eq_true rfl) (dk hX0_deepestShip_0 19 rfl) ⟨Nat.zero_le _, Nat.zero_le _⟩ rfl (fun H locs hs => ?_)
        refine lv_istore_n (lv' := [(2, .int u_3), (1, .int x3), (0, .ref (ad 0)), (3, .int x3)]) hx hb (dk hX0_deepestShip_0 20 rfl) rfl hl (by decide) rfl (fun ls hl => ?_)
        refine lv_iinc (v := (x3 + (1 : Int32))) (lv' := [(3, .int (x3 + (1 : Int32))), (2, .int u_3), (1, .int x3), (0, .ref (ad 0))]) hx hb (dk hX0_deepestShip_0 21 rfl) hl (k := 3) rfl (by first | rfl | decide) (by decide) rfl (fun ls hl => ?_)
        refine lv_goto (tgt := 7) hx hb (dk hX0_deepestShip_0 22 rfl) (by decide) ?_
        exact ih _ _ _ hf _ _ hs _ (lv_sub hl [3, 2, 1, 0] rfl) hk
set_option maxRecDepth 100000 in
set_option maxHeartbeats 4000000 in
theorem c_X0_deepestShip {l : Launch} {G : Gx} {ad : Nat → Nat} {there used hidden kind figure cargo load : List Int32} {ships inn coughs day : Int32}  {out : Int32} (hf : X0_deepestShip kind figure ships = some out) : Ct l G yX0_deepestShip cX0_deepestShip 4 (some .int) 1 21 [.ref (ad 0)] (wH G ad there used hidden kind figure cargo load ships inn coughs day) (some (.int out)) (wH G ad there used hidden kind figure cargo load ships inn coughs day) := by
  refine Ct.intro RX0 rfl (plainFor_of_name (by decide)) (Nat.le_of_ble_eq_true rfl) rfl ?_
  intro p e s m args below meth c A C H locs hs ls hl
  obtain ⟨hx, hb, hml, hown, hts, hK, hret, hlk⟩ := id C
  have hl : lv_has ls 4 [(0, .ref (ad 0))] := hl
  unfold X0_deepestShip at hf
  refine lv_bipush (v := (-9 : Int32)) hx hb (dk hX0_deepestShip_0 0 rfl) (by decide) ?_
  refine lv_istore_n (lv' := [(1, .int (-9 : Int32)), (0, .ref (ad 0))]) hx hb (dk hX0_deepestShip_0 1 rfl) rfl hl (by decide) rfl (fun ls hl => ?_)
  refine lv_iconst (v := (0 : Int32)) hx hb (dk hX0_deepestShip_0 2 rfl) (by decide) ?_
  refine lv_istore_n (lv' := [(2, .int (0 : Int32)), (1, .int (-9 : Int32)), (0, .ref (ad 0))]) hx hb (dk hX0_deepestShip_0 3 rfl) rfl hl (by decide) rfl (fun ls hl => ?_)
  refine lv_iconst (v := (0 : Int32)) hx hb (dk hX0_deepestShip_0 4 rfl) (by decide) ?_
  refine lv_istore_n (lv' := [(3, .int (0 : Int32)), (2, .int (0 : Int32)), (1, .int (-9 : Int32)), (0, .ref (ad 0))]) hx hb (dk hX0_deepestShip_0 5 rfl) rfl hl (by decide) rfl (fun ls hl => ?_)
  refine l_X0_deepestShip_L7 C 1000 _ _ _ hf _ _ hs _ (lv_sub hl [3, 2, 1, 0] rfl) (fun y1_5 hf H locs hs ls hl => ?_)
  refine lv_iload_n hx hb (dk hX0_deepestShip_0 23 rfl) rfl (lv_at hl 0 rfl) ?_
  cases hf
  exact ri C hs (dk hX0_deepestShip_0 24 rfl)

def X0_shortestGood_L4 (k : Int32 → Option (Int32)) (there : List Int32) (used : List Int32) : Nat → Int32 → Int32 → Option (Int32)
  | 0, _, _ => none
  | n + 1, x1, x2 =>
  if (6 : Int32) ≤ x2 then
  k x1
  else
  (X0_lackOf there used x2).bind fun u_1 =>
  (X0_lackOf there used x1).bind fun u_3 =>
  if u_1 ≤ u_3 then
  X0_shortestGood_L4 k there used n x1 (x2 + (1 : Int32))
  else
  X0_shortestGood_L4 k there used n x2 (x2 + (1 : Int32))
def X0_shortestGood (there : List Int32) (used : List Int32) : Option (Int32) :=
  X0_shortestGood_L4 (fun y1_5 =>
  some y1_5) there used 1000 (0 : Int32) (1 : Int32)
set_option maxRecDepth 100000 in
set_option maxHeartbeats 4000000 in
theorem l_X0_shortestGood_L4 {l : Launch} {p : Program} {e : Env} {s : State} {m : MethodId} {args : Array Value} {below : List Frame} {meth : Method} {c : Code} {A : Nat → Prop} {G : Gx} {ad : Nat → Nat} {there used hidden kind figure cargo load : List Int32} {ships inn coughs day : Int32} {k : Int32 → Option (Int32)} {out : Int32} (C : Cx p s m args meth c cX0_shortestGood RX0 3 (some .int) G) : ∀ (n : Nat) (x1 : Int32) (x2 : Int32), X0_shortestGood_L4 k there used n x1 x2 = some out → ∀ (H : Heap) (locs : List Loc), St G A s.heap H locs (wH G ad there used hidden kind figure cargo load ships inn coughs day) → ∀ ls : Array Slot, lv_has ls 3 [(0, .ref (ad 0)), (1, .int x1), (2, .int x2)] → (∀ (y1 : Int32), k y1 = some out → ∀ (H : Heap) (locs : List Loc), St G A s.heap H locs (wH G ad there used hidden kind figure cargo load ships inn coughs day) → ∀ ls : Array Slot, lv_has ls 3 [(1, .int y1)] → W p l e (rmOf 1 22) s m args below meth c H locs 0 0 (MQ below (Qof G A (some (.int out)) (wH G ad there used hidden kind figure cargo load ships inn coughs day)) args s 0 0 A) (F0 m 31 ls [])) → W p l e (rmOf 1 22) s m args below meth c H locs 0 0 (MQ below (Qof G A (some (.int out)) (wH G ad there used hidden kind figure cargo load ships inn coughs day)) args s 0 0 A) (F0 m 4 ls []) := by
  obtain ⟨hx, hb, hml, hown, hts, hK, hret, hlk⟩ := id C
  intro n
  induction n with
  | zero => intro x1 x2 hf; cases hf
  | succ n ih =>
    intro x1 x2 hf H locs hs ls hl hk
    rw [X0_shortestGood_L4] at hf
    refine lv_iload_n hx hb (dk hX0_shortestGood_0 4 rfl) rfl (lv_at hl 2 rfl) ?_
    refine lv_bipush (v := (6 : Int32)) hx hb (dk hX0_shortestGood_0 5 rfl) (by decide) ?_
    refine lv_icmp_ge (tgt := 31) hx hb (dk hX0_shortestGood_0 6 rfl) (by decide) (fun hc => ?_) (fun hc => ?_)
    · replace hf := ip hf hc
      exact hk _ hf _ _ hs _ (lv_sub hl [1] rfl)
    · replace hf := in_ hf hc
      refine lv_aload_n hx hb (dk hX0_shortestGood_0 7 rfl) rfl (lv_at hl 0 rfl) ?_
      refine lv_iload_n hx hb (dk hX0_shortestGood_0 8 rfl) rfl (lv_at hl 2 rfl) ?_
      obtain ⟨u_1, e_2, hf⟩ := Option.bind_eq_some_iff.mp hf
      refine Ct.V (As := [.int x2]) (rest := []) (st1 := [.int u_1]) (w1 := (wH G ad there used hidden kind figure cargo load ships inn coughs day)) C hs (c_X0_lackOf e_2) tw_198 tw_171 tw_172 tw_18 tw_173 nq_X0_lackOf (by decide) 0 0 rfl rfl rfl rfl hl.1 rfl (Nat.le_of_ble_eq_true rfl) (dk hX0_shortestGood_0 9 rfl) ⟨Nat.zero_le _, Nat.zero_le _⟩ rfl (fun H locs hs => ?_)
      refine lv_aload_n hx hb (dk hX0_shortestGood_0 10 rfl) rfl (lv_at hl 0 rfl) ?_
      refine lv_iload_n hx hb (dk hX0_shortestGood_0 11 rfl) rfl (lv_at hl 1 rfl) ?_
      obtain ⟨u_3, e_4, hf⟩ := Option.bind_eq_some_iff.mp hf
      refine Ct.V (As := [.int x1]) (rest := [.int u_1]) (st1 := [.int u_3, .int u_1]) (w1 := (wH G ad there used hidden kind figure cargo load ships inn coughs day)) C hs (c_X0_lackOf e_4) tw_198 tw_171 tw_172 tw_18 tw_173 nq_X0_lackOf (by decide) 0 0 rfl rfl rfl rfl hl.1 rfl (Nat.le_of_ble_eq_true rfl) (dk hX0_shortestGood_0 12 rfl) ⟨Nat.zero_le _, Nat.zero_le _⟩ rfl (fun H locs hs => ?_)
      refine lv_icmp_le (tgt := 25) hx hb (dk hX0_shortestGood_0 13 rfl) (by decide) (fun hc => ?_) (fun hc => ?_)
      · replace hf := ip hf hc
        refine lv_iinc (v := (x2 + (1 : Int32))) (lv' := [(2, .int (x2 + (1 : Int32))), (0, .ref (ad 0)), (1, .int x1)]) hx hb (dk hX0_shortestGood_0 16 rfl) hl (k := 2) rfl (by first | rfl | decide) (by decide) rfl (fun ls hl => ?_)
        refine lv_goto (tgt := 4) hx hb (dk hX0_shortestGood_0 17 rfl) (by decide) ?_
        exact ih _ _ hf _ _ hs _ (lv_sub hl [1, 2, 0] rfl) hk
      · replace hf := in_ hf hc
        refine lv_iload_n hx hb (dk hX0_shortestGood_0 14 rfl) rfl (lv_at hl 2 rfl) ?_
        refine lv_istore_n (lv' := [(1, .int x2), (0, .ref (ad 0)), (2, .int x2)]) hx hb (dk hX0_shortestGood_0 15 rfl) rfl hl (by decide) rfl (fun ls hl => ?_)
        refine lv_iinc (v := (x2 + (1 : Int32))) (lv' := [(2, .int (x2 + (1 : Int32))), (1, .int x2), (0, .ref (ad 0))]) hx hb (dk hX0_shortestGood_0 16 rfl) hl (k := 2) rfl (by first | rfl | decide) (by decide) rfl (fun ls hl => ?_)
        refine lv_goto (tgt := 4) hx hb (dk hX0_shortestGood_0 17 rfl) (by decide) ?_
        exact ih _ _ hf _ _ hs _ (lv_sub hl [2, 1, 0] rfl) hk
set_option maxRecDepth 100000 in
set_option maxHeartbeats 4000000 in
theorem c_X0_shortestGood {l : Launch} {G : Gx} {ad : Nat → Nat} {there used hidden kind figure cargo load : List Int32} {ships inn coughs day : Int32}  {out : Int32} (hf : X0_shortestGood there used = some out) : Ct l G yX0_shortestGood cX0_shortestGood 3 (some .int) 1 22 [.ref (ad 0)] (wH G ad there used hidden kind figure cargo load ships inn coughs day) (some (.int out)) (wH G ad there used hidden kind figure cargo load ships inn coughs day) := by
  refine Ct.intro RX0 rfl (plainFor_of_name (by decide)) (Nat.le_of_ble_eq_true rfl) rfl ?_
  intro p e s m args below meth c A C H locs hs ls hl
  obtain ⟨hx, hb, hml, hown, hts, hK, hret, hlk⟩ := id C
  have hl : lv_has ls 3 [(0, .ref (ad 0))] := hl
  unfold X0_shortestGood at hf
  refine lv_iconst (v := (0 : Int32)) hx hb (dk hX0_shortestGood_0 0 rfl) (by decide) ?_
  refine lv_istore_n (lv' := [(1, .int (0 : Int32)), (0, .ref (ad 0))]) hx hb (dk hX0_shortestGood_0 1 rfl) rfl hl (by decide) rfl (fun ls hl => ?_)
  refine lv_iconst (v := (1 : Int32)) hx hb (dk hX0_shortestGood_0 2 rfl) (by decide) ?_
  refine lv_istore_n (lv' := [(2, .int (1 : Int32)), (1, .int (0 : Int32)), (0, .ref (ad 0))]) hx hb (dk hX0_shortestGood_0 3 rfl) rfl hl (by decide) rfl (fun ls hl => ?_)
  refine l_X0_shortestGood_L4 C 1000 _ _ hf _ _ hs _ (lv_sub hl [2, 1, 0] rfl) (fun y1_5 hf H locs hs ls hl => ?_)
  refine lv_iload_n hx hb (dk hX0_shortestGood_0 18 rfl) rfl (lv_at hl 0 rfl) ?_
  cases hf
  exact ri C hs (dk hX0_shortestGood_0 19 rfl)

def X0_plenty_L4 (k : Int32 → Option (Int32)) (there : List Int32) (used : List Int32) : Nat → Int32 → Int32 → Option (Int32)
  | 0, _, _ => none
  | n + 1, x1, x2 =>
  if (6 : Int32) ≤ x2 then
  k x1
  else
  (rd there x2).bind fun v_1 =>
  (rd used x2).bind fun v_3 =>
  if v_1 ≤ ((7 : Int32) * v_3) then
  X0_plenty_L4 k there used n x1 (x2 + (1 : Int32))
  else
  X0_plenty_L4 k there used n (x1 ||| ((1 : Int32) <<< (x2 &&& 31))) (x2 + (1 : Int32))
def X0_plenty (there : List Int32) (used : List Int32) : Option (Int32) :=
  X0_plenty_L4 (fun y1_5 =>
  some y1_5) there used 1000 (0 : Int32) (0 : Int32)
set_option maxRecDepth 100000 in
set_option maxHeartbeats 4000000 in
theorem l_X0_plenty_L4 {l : Launch} {p : Program} {e : Env} {s : State} {m : MethodId} {args : Array Value} {below : List Frame} {meth : Method} {c : Code} {A : Nat → Prop} {G : Gx} {ad : Nat → Nat} {there used hidden kind figure cargo load : List Int32} {ships inn coughs day : Int32} {k : Int32 → Option (Int32)} {out : Int32} (C : Cx p s m args meth c cX0_plenty RX0 3 (some .int) G) : ∀ (n : Nat) (x1 : Int32) (x2 : Int32), X0_plenty_L4 k there used n x1 x2 = some out → ∀ (H : Heap) (locs : List Loc), St G A s.heap H locs (wH G ad there used hidden kind figure cargo load ships inn coughs day) → ∀ ls : Array Slot, lv_has ls 3 [(0, .ref (ad 0)), (1, .int x1), (2, .int x2)] → (∀ (y1 : Int32), k y1 = some out → ∀ (H : Heap) (locs : List Loc), St G A s.heap H locs (wH G ad there used hidden kind figure cargo load ships inn coughs day) → ∀ ls : Array Slot, lv_has ls 3 [(1, .int y1)] → W p l e (rmOf 0 0) s m args below meth c H locs 0 0 (MQ below (Qof G A (some (.int out)) (wH G ad there used hidden kind figure cargo load ships inn coughs day)) args s 0 0 A) (F0 m 40 ls [])) → W p l e (rmOf 0 0) s m args below meth c H locs 0 0 (MQ below (Qof G A (some (.int out)) (wH G ad there used hidden kind figure cargo load ships inn coughs day)) args s 0 0 A) (F0 m 4 ls []) := by
  obtain ⟨hx, hb, hml, hown, hts, hK, hret, hlk⟩ := id C
  intro n
  induction n with
  | zero => intro x1 x2 hf; cases hf
  | succ n ih =>
    intro x1 x2 hf H locs hs ls hl hk
    rw [X0_plenty_L4] at hf
    refine lv_iload_n hx hb (dk hX0_plenty_0 4 rfl) rfl (lv_at hl 2 rfl) ?_
    refine lv_bipush (v := (6 : Int32)) hx hb (dk hX0_plenty_0 5 rfl) (by decide) ?_
    refine lv_icmp_ge (tgt := 40) hx hb (dk hX0_plenty_0 6 rfl) (by decide) (fun hc => ?_) (fun hc => ?_)
    · replace hf := ip hf hc
      exact hk _ hf _ _ hs _ (lv_sub hl [1] rfl)
    · replace hf := in_ hf hc
      refine lv_aload_n hx hb (dk hX0_plenty_0 7 rfl) rfl (lv_at hl 0 rfl) ?_
      refine rg ui0 rfl C hs 0 rfl 0 (by decide) tw_38 rfl rfl (dk hX0_plenty_0 8 rfl) ?_
      refine lv_iload_n hx hb (dk hX0_plenty_0 9 rfl) rfl (lv_at hl 2 rfl) ?_
      obtain ⟨v_1, e_2, hf⟩ := Option.bind_eq_some_iff.mp hf
      refine rild C hs 1 rfl e_2 (dk hX0_plenty_0 10 rfl) ?_
      refine lv_bipush (v := (7 : Int32)) hx hb (dk hX0_plenty_0 11 rfl) (by decide) ?_
      refine lv_aload_n hx hb (dk hX0_plenty_0 12 rfl) rfl (lv_at hl 0 rfl) ?_
      refine rg ui0 rfl C hs 0 rfl 1 (by decide) tw_41 rfl rfl (dk hX0_plenty_0 13 rfl) ?_
      refine lv_iload_n hx hb (dk hX0_plenty_0 14 rfl) rfl (lv_at hl 2 rfl) ?_
      obtain ⟨v_3, e_4, hf⟩ := Option.bind_eq_some_iff.mp hf
      refine rild C hs 2 rfl e_4 (dk hX0_plenty_0 15 rfl) ?_
      refine lv_imul hx hb (dk hX0_plenty_0 16 rfl) ?_
      refine lv_icmp_le (tgt := 34) hx hb (dk hX0_plenty_0 17 rfl) (by decide) (fun hc => ?_) (fun hc => ?_)
      · replace hf := ip hf hc
        refine lv_iinc (v := (x2 + (1 : Int32))) (lv' := [(2, .int (x2 + (1 : Int32))), (0, .ref (ad 0)), (1, .int x1)]) hx hb (dk hX0_plenty_0 24 rfl) hl (k := 2) rfl (by first | rfl | decide) (by decide) rfl (fun ls hl => ?_)
        refine lv_goto (tgt := 4) hx hb (dk hX0_plenty_0 25 rfl) (by decide) ?_
        exact ih _ _ hf _ _ hs _ (lv_sub hl [1, 2, 0] rfl) hk
      · replace hf := in_ hf hc
        refine lv_iload_n hx hb (dk hX0_plenty_0 18 rfl) rfl (lv_at hl 1 rfl) ?_
        refine lv_iconst (v := (1 : Int32)) hx hb (dk hX0_plenty_0 19 rfl) (by decide) ?_
        refine lv_iload_n hx hb (dk hX0_plenty_0 20 rfl) rfl (lv_at hl 2 rfl) ?_
        refine lv_ishl hx hb (dk hX0_plenty_0 21 rfl) ?_
        refine lv_ior hx hb (dk hX0_plenty_0 22 rfl) ?_
        refine lv_istore_n (lv' := [(1, .int (x1 ||| ((1 : Int32) <<< (x2 &&& 31)))), (0, .ref (ad 0)), (2, .int x2)]) hx hb (dk hX0_plenty_0 23 rfl) rfl hl (by decide) rfl (fun ls hl => ?_)
        refine lv_iinc (v := (x2 + (1 : Int32))) (lv' := [(2, .int (x2 + (1 : Int32))), (1, .int (x1 ||| ((1 : Int32) <<< (x2 &&& 31)))), (0, .ref (ad 0))]) hx hb (dk hX0_plenty_0 24 rfl) hl (k := 2) rfl (by first | rfl | decide) (by decide) rfl (fun ls hl => ?_)
        refine lv_goto (tgt := 4) hx hb (dk hX0_plenty_0 25 rfl) (by decide) ?_
        exact ih _ _ hf _ _ hs _ (lv_sub hl [2, 1, 0] rfl) hk
set_option maxRecDepth 100000 in
set_option maxHeartbeats 4000000 in
theorem c_X0_plenty {l : Launch} {G : Gx} {ad : Nat → Nat} {there used hidden kind figure cargo load : List Int32} {ships inn coughs day : Int32}  {out : Int32} (hf : X0_plenty there used = some out) : Ct l G yX0_plenty cX0_plenty 3 (some .int) 0 0 [.ref (ad 0)] (wH G ad there used hidden kind figure cargo load ships inn coughs day) (some (.int out)) (wH G ad there used hidden kind figure cargo load ships inn coughs day) := by
  refine Ct.intro RX0 rfl (plainFor_of_name (by decide)) (Nat.le_of_ble_eq_true rfl) rfl ?_
  intro p e s m args below meth c A C H locs hs ls hl
  obtain ⟨hx, hb, hml, hown, hts, hK, hret, hlk⟩ := id C
  have hl : lv_has ls 3 [(0, .ref (ad 0))] := hl
  unfold X0_plenty at hf
  refine lv_iconst (v := (0 : Int32)) hx hb (dk hX0_plenty_0 0 rfl) (by decide) ?_
  refine lv_istore_n (lv' := [(1, .int (0 : Int32)), (0, .ref (ad 0))]) hx hb (dk hX0_plenty_0 1 rfl) rfl hl (by decide) rfl (fun ls hl => ?_)
  refine lv_iconst (v := (0 : Int32)) hx hb (dk hX0_plenty_0 2 rfl) (by decide) ?_
  refine lv_istore_n (lv' := [(2, .int (0 : Int32)), (1, .int (0 : Int32)), (0, .ref (ad 0))]) hx hb (dk hX0_plenty_0 3 rfl) rfl hl (by decide) rfl (fun ls hl => ?_)
  refine l_X0_plenty_L4 C 1000 _ _ hf _ _ hs _ (lv_sub hl [2, 1, 0] rfl) (fun y1_5 hf H locs hs ls hl => ?_)
  refine lv_iload_n hx hb (dk hX0_plenty_0 26 rfl) rfl (lv_at hl 0 rfl) ?_
  cases hf
  exact ri C hs (dk hX0_plenty_0 27 rfl)

def X0_twins_L14 (k : Int32 → Option (Int32)) (cargo : List Int32) (x2 : Int32) : Nat → Int32 → Int32 → Option (Int32)
  | 0, _, _ => none
  | n + 1, x1, x3 =>
  if x2 ≤ x3 then
  k x1
  else
  (rd cargo x2).bind fun v_1 =>
  (rd cargo x3).bind fun v_3 =>
  if v_1 = v_3 then
  X0_twins_L14 k cargo x2 n (x1 + (1 : Int32)) (x3 + (1 : Int32))
  else
  X0_twins_L14 k cargo x2 n x1 (x3 + (1 : Int32))
def X0_twins_L4 (k : Int32 → Option (Int32)) (cargo : List Int32) (ships : Int32) : Nat → Int32 → Int32 → Option (Int32)
  | 0, _, _ => none
  | n + 1, x1, x2 =>
  if ships ≤ x2 then
  k x1
  else
  X0_twins_L14 (fun y1_5 =>
  X0_twins_L4 k cargo ships n y1_5 (x2 + (1 : Int32))) cargo x2 1000 x1 (0 : Int32)
def X0_twins (cargo : List Int32) (ships : Int32) : Option (Int32) :=
  X0_twins_L4 (fun y1_6 =>
  some y1_6) cargo ships 1000 (0 : Int32) (0 : Int32)
set_option maxRecDepth 100000 in
set_option maxHeartbeats 4000000 in
theorem l_X0_twins_L14 {l : Launch} {p : Program} {e : Env} {s : State} {m : MethodId} {args : Array Value} {below : List Frame} {meth : Method} {c : Code} {A : Nat → Prop} {G : Gx} {ad : Nat → Nat} {there used hidden kind figure cargo load : List Int32} {ships inn coughs day : Int32} {x2 : Int32} {k : Int32 → Option (Int32)} {out : Int32} (C : Cx p s m args meth c cX0_twins RX0 4 (some .int) G) : ∀ (n : Nat) (x1 : Int32) (x3 : Int32), X0_twins_L14 k cargo x2 n x1 x3 = some out → ∀ (H : Heap) (locs : List Loc), St G A s.heap H locs (wH G ad there used hidden kind figure cargo load ships inn coughs day) → ∀ ls : Array Slot, lv_has ls 4 [(0, .ref (ad 0)), (1, .int x1), (2, .int x2), (3, .int x3)] → (∀ (y1 : Int32), k y1 = some out → ∀ (H : Heap) (locs : List Loc), St G A s.heap H locs (wH G ad there used hidden kind figure cargo load ships inn coughs day) → ∀ ls : Array Slot, lv_has ls 4 [(0, .ref (ad 0)), (1, .int y1), (2, .int x2)] → W p l e (rmOf 0 0) s m args below meth c H locs 0 0 (MQ below (Qof G A (some (.int out)) (wH G ad there used hidden kind figure cargo load ships inn coughs day)) args s 0 0 A) (F0 m 43 ls [])) → W p l e (rmOf 0 0) s m args below meth c H locs 0 0 (MQ below (Qof G A (some (.int out)) (wH G ad there used hidden kind figure cargo load ships inn coughs day)) args s 0 0 A) (F0 m 14 ls []) := by
  obtain ⟨hx, hb, hml, hown, hts, hK, hret, hlk⟩ := id C
  intro n
  induction n with
  | zero => intro x1 x3 hf; cases hf
  | succ n ih =>
    intro x1 x3 hf H locs hs ls hl hk
    rw [X0_twins_L14] at hf
    refine lv_iload_n hx hb (dk hX0_twins_0 10 rfl) rfl (lv_at hl 3 rfl) ?_
    refine lv_iload_n hx hb (dk hX0_twins_0 11 rfl) rfl (lv_at hl 2 rfl) ?_
    refine lv_icmp_ge (tgt := 43) hx hb (dk hX0_twins_0 12 rfl) (by decide) (fun hc => ?_) (fun hc => ?_)
    · replace hf := ip hf hc
      exact hk _ hf _ _ hs _ (lv_sub hl [0, 1, 2] rfl)
    · replace hf := in_ hf hc
      refine lv_aload_n hx hb (dk hX0_twins_0 13 rfl) rfl (lv_at hl 0 rfl) ?_
      refine rg ui0 rfl C hs 0 rfl 5 (by decide) tw_50 rfl rfl (dk hX0_twins_0 14 rfl) ?_
      refine lv_iload_n hx hb (dk hX0_twins_0 15 rfl) rfl (lv_at hl 2 rfl) ?_
      obtain ⟨v_1, e_2, hf⟩ := Option.bind_eq_some_iff.mp hf
      refine rild C hs 6 rfl e_2 (dk hX0_twins_0 16 rfl) ?_
      refine lv_aload_n hx hb (dk hX0_twins_0 17 rfl) rfl (lv_at hl 0 rfl) ?_
      refine rg ui0 rfl C hs 0 rfl 5 (by decide) tw_50 rfl rfl (dk hX0_twins_0 18 rfl) ?_
      refine lv_iload_n hx hb (dk hX0_twins_0 19 rfl) rfl (lv_at hl 3 rfl) ?_
      obtain ⟨v_3, e_4, hf⟩ := Option.bind_eq_some_iff.mp hf
      refine rild C hs 6 rfl e_4 (dk hX0_twins_0 20 rfl) ?_
      refine lv_icmp_ne (tgt := 37) hx hb (dk hX0_twins_0 21 rfl) (by decide) (fun hc => ?_) (fun hc => ?_)
      · replace hf := in_ hf hc
        refine lv_iinc (v := (x3 + (1 : Int32))) (lv' := [(3, .int (x3 + (1 : Int32))), (0, .ref (ad 0)), (1, .int x1), (2, .int x2)]) hx hb (dk hX0_twins_0 23 rfl) hl (k := 3) rfl (by first | rfl | decide) (by decide) rfl (fun ls hl => ?_)
        refine lv_goto (tgt := 14) hx hb (dk hX0_twins_0 24 rfl) (by decide) ?_
        exact ih _ _ hf _ _ hs _ (lv_sub hl [1, 2, 3, 0] rfl) hk
      · replace hf := ip hf hc
        refine lv_iinc (v := (x1 + (1 : Int32))) (lv' := [(1, .int (x1 + (1 : Int32))), (0, .ref (ad 0)), (2, .int x2), (3, .int x3)]) hx hb (dk hX0_twins_0 22 rfl) hl (k := 1) rfl (by first | rfl | decide) (by decide) rfl (fun ls hl => ?_)
        refine lv_iinc (v := (x3 + (1 : Int32))) (lv' := [(3, .int (x3 + (1 : Int32))), (1, .int (x1 + (1 : Int32))), (0, .ref (ad 0)), (2, .int x2)]) hx hb (dk hX0_twins_0 23 rfl) hl (k := 3) rfl (by first | rfl | decide) (by decide) rfl (fun ls hl => ?_)
        refine lv_goto (tgt := 14) hx hb (dk hX0_twins_0 24 rfl) (by decide) ?_
        exact ih _ _ hf _ _ hs _ (lv_sub hl [2, 1, 3, 0] rfl) hk
set_option maxRecDepth 100000 in
set_option maxHeartbeats 4000000 in
theorem l_X0_twins_L4 {l : Launch} {p : Program} {e : Env} {s : State} {m : MethodId} {args : Array Value} {below : List Frame} {meth : Method} {c : Code} {A : Nat → Prop} {G : Gx} {ad : Nat → Nat} {there used hidden kind figure cargo load : List Int32} {ships inn coughs day : Int32} {k : Int32 → Option (Int32)} {out : Int32} (C : Cx p s m args meth c cX0_twins RX0 4 (some .int) G) : ∀ (n : Nat) (x1 : Int32) (x2 : Int32), X0_twins_L4 k cargo ships n x1 x2 = some out → ∀ (H : Heap) (locs : List Loc), St G A s.heap H locs (wH G ad there used hidden kind figure cargo load ships inn coughs day) → ∀ ls : Array Slot, lv_has ls 4 [(0, .ref (ad 0)), (1, .int x1), (2, .int x2)] → (∀ (y1 : Int32), k y1 = some out → ∀ (H : Heap) (locs : List Loc), St G A s.heap H locs (wH G ad there used hidden kind figure cargo load ships inn coughs day) → ∀ ls : Array Slot, lv_has ls 4 [(1, .int y1)] → W p l e (rmOf 0 0) s m args below meth c H locs 0 0 (MQ below (Qof G A (some (.int out)) (wH G ad there used hidden kind figure cargo load ships inn coughs day)) args s 0 0 A) (F0 m 49 ls [])) → W p l e (rmOf 0 0) s m args below meth c H locs 0 0 (MQ below (Qof G A (some (.int out)) (wH G ad there used hidden kind figure cargo load ships inn coughs day)) args s 0 0 A) (F0 m 4 ls []) := by
  obtain ⟨hx, hb, hml, hown, hts, hK, hret, hlk⟩ := id C
  intro n
  induction n with
  | zero => intro x1 x2 hf; cases hf
  | succ n ih =>
    intro x1 x2 hf H locs hs ls hl hk
    rw [X0_twins_L4] at hf
    refine lv_iload_n hx hb (dk hX0_twins_0 4 rfl) rfl (lv_at hl 2 rfl) ?_
    refine lv_aload_n hx hb (dk hX0_twins_0 5 rfl) rfl (lv_at hl 0 rfl) ?_
    refine rg ui0 rfl C hs 0 rfl 7 (by decide) tw_54 rfl rfl (dk hX0_twins_0 6 rfl) ?_
    refine lv_icmp_ge (tgt := 49) hx hb (dk hX0_twins_0 7 rfl) (by decide) (fun hc => ?_) (fun hc => ?_)
    · replace hf := ip hf hc
      exact hk _ hf _ _ hs _ (lv_sub hl [1] rfl)
    · replace hf := in_ hf hc
      refine lv_iconst (v := (0 : Int32)) hx hb (dk hX0_twins_0 8 rfl) (by decide) ?_
      refine lv_istore_n (lv' := [(3, .int (0 : Int32)), (0, .ref (ad 0)), (1, .int x1), (2, .int x2)]) hx hb (dk hX0_twins_0 9 rfl) rfl hl (by decide) rfl (fun ls hl => ?_)
      refine l_X0_twins_L14 C 1000 _ _ hf _ _ hs _ (lv_sub hl [1, 2, 3, 0] rfl) (fun y1_5 hf H locs hs ls hl => ?_)
      refine lv_iinc (v := (x2 + (1 : Int32))) (lv' := [(2, .int (x2 + (1 : Int32))), (0, .ref (ad 0)), (1, .int y1_5)]) hx hb (dk hX0_twins_0 25 rfl) hl (k := 2) rfl (by first | rfl | decide) (by decide) rfl (fun ls hl => ?_)
      refine lv_goto (tgt := 4) hx hb (dk hX0_twins_0 26 rfl) (by decide) ?_
      exact ih _ _ hf _ _ hs _ (lv_sub hl [1, 2, 0] rfl) hk
set_option maxRecDepth 100000 in
set_option maxHeartbeats 4000000 in
theorem c_X0_twins {l : Launch} {G : Gx} {ad : Nat → Nat} {there used hidden kind figure cargo load : List Int32} {ships inn coughs day : Int32}  {out : Int32} (hf : X0_twins cargo ships = some out) : Ct l G yX0_twins cX0_twins 4 (some .int) 0 0 [.ref (ad 0)] (wH G ad there used hidden kind figure cargo load ships inn coughs day) (some (.int out)) (wH G ad there used hidden kind figure cargo load ships inn coughs day) := by
  refine Ct.intro RX0 rfl (plainFor_of_name (by decide)) (Nat.le_of_ble_eq_true rfl) rfl ?_
  intro p e s m args below meth c A C H locs hs ls hl
  obtain ⟨hx, hb, hml, hown, hts, hK, hret, hlk⟩ := id C
  have hl : lv_has ls 4 [(0, .ref (ad 0))] := hl
  unfold X0_twins at hf
  refine lv_iconst (v := (0 : Int32)) hx hb (dk hX0_twins_0 0 rfl) (by decide) ?_
  refine lv_istore_n (lv' := [(1, .int (0 : Int32)), (0, .ref (ad 0))]) hx hb (dk hX0_twins_0 1 rfl) rfl hl (by decide) rfl (fun ls hl => ?_)
  refine lv_iconst (v := (0 : Int32)) hx hb (dk hX0_twins_0 2 rfl) (by decide) ?_
  refine lv_istore_n (lv' := [(2, .int (0 : Int32)), (1, .int (0 : Int32)), (0, .ref (ad 0))]) hx hb (dk hX0_twins_0 3 rfl) rfl hl (by decide) rfl (fun ls hl => ?_)
  refine l_X0_twins_L4 C 1000 _ _ hf _ _ hs _ (lv_sub hl [2, 1, 0] rfl) (fun y1_6 hf H locs hs ls hl => ?_)
  refine lv_iload_n hx hb (dk hX0_twins_0 27 rfl) rfl (lv_at hl 0 rfl) ?_
  cases hf
  exact ri C hs (dk hX0_twins_0 28 rfl)

