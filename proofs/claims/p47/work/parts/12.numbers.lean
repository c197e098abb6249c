def wN (G : Gx) (ad : Nat → Nat) (cells : List Int32) (len : Int32) : va_W := [(ad 0, .inr (1, [.ref (ad 1), .int len])), (ad 1, ar G cells)]
def X1_length (len : Int32) : Option (Int32) :=
  some len
set_option maxRecDepth 100000 in
set_option maxHeartbeats 4000000 in
theorem c_X1_length {l : Launch} {G : Gx} {ad : Nat → Nat} {cells : List Int32} {len : Int32}  {out : Int32} (hf : X1_length len = some out) : Ct l G yX1_length cX1_length 1 (some .int) 0 0 [.ref (ad 0)] (wN G ad cells len) (some (.int out)) (wN G ad cells len) := by
  refine Ct.intro RX1 rfl (plainFor_of_name (by decide)) (Nat.le_of_ble_eq_true rfl) rfl ?_
  intro p e s m args below meth c A C H locs hs ls hl
  obtain ⟨hx, hb, hml, hown, hts, hK, hret, hlk⟩ := id C
  have hl : lv_has ls 1 [(0, .ref (ad 0))] := hl
  unfold X1_length at hf
  refine lv_aload_n hx hb (dk hX1_length_0 0 rfl) rfl (lv_at hl 0 rfl) ?_
  refine rg ui1 rfl C hs 0 rfl 1 (by decide) tw_121 rfl rfl (dk hX1_length_0 1 rfl) ?_
  cases hf
  exact ri C hs (dk hX1_length_0 2 rfl)

def X1_isFull (cells : List Int32) (len : Int32) : Option (Int32) :=
  if len < (Int32.ofNat cells.length) then
  some (0 : Int32)
  else
  some (1 : Int32)
set_option maxRecDepth 100000 in
set_option maxHeartbeats 4000000 in
theorem c_X1_isFull {l : Launch} {G : Gx} {ad : Nat → Nat} {cells : List Int32} {len : Int32}  {out : Int32} (hf : X1_isFull cells len = some out) : Ct l G yX1_isFull cX1_isFull 1 (some .boolean) 0 0 [.ref (ad 0)] (wN G ad cells len) (some (.int out)) (wN G ad cells len) := by
  refine Ct.intro RX1 rfl (plainFor_of_name (by decide)) (Nat.le_of_ble_eq_true rfl) rfl ?_
  intro p e s m args below meth c A C H locs hs ls hl
  obtain ⟨hx, hb, hml, hown, hts, hK, hret, hlk⟩ := id C
  have hl : lv_has ls 1 [(0, .ref (ad 0))] := hl
  unfold X1_isFull at hf
  refine lv_aload_n hx hb (dk hX1_isFull_0 0 rfl) rfl (lv_at hl 0 rfl) ?_
  refine rg ui1 rfl C hs 0 rfl 1 (by decide) tw_121 rfl rfl (dk hX1_isFull_0 1 rfl) ?_
  refine lv_aload_n hx hb (dk hX1_isFull_0 2 rfl) rfl (lv_at hl 0 rfl) ?_
  refine rg ui1 rfl C hs 0 rfl 0 (by decide) tw_120 rfl rfl (dk hX1_isFull_0 3 rfl) ?_
  refine rlen C hs 1 rfl (dk hX1_isFull_0 4 rfl) ?_
  refine lv_icmp_lt (tgt := 16) hx hb (dk hX1_isFull_0 5 rfl) (by decide) (fun hc => ?_) (fun hc => ?_)
  · replace hf := ip hf hc
    refine lv_iconst (v := (0 : Int32)) hx hb (dk hX1_isFull_0 8 rfl) (by decide) ?_
    cases hf
    exact rz (x := (0 : Int32)) rfl C hs (dk hX1_isFull_0 9 rfl)
  · replace hf := in_ hf hc
    refine lv_iconst (v := (1 : Int32)) hx hb (dk hX1_isFull_0 6 rfl) (by decide) ?_
    refine lv_goto (tgt := 17) hx hb (dk hX1_isFull_0 7 rfl) (by decide) ?_
    cases hf
    exact rz (x := (1 : Int32)) rfl C hs (dk hX1_isFull_0 9 rfl)

def X1_add (cells : List Int32) (len : Int32) (p0 : Int32) : Option (List Int32 × Int32) :=
  if len < (0 : Int32) then
  some (cells, len)
  else
  if (Int32.ofNat cells.length) ≤ len then
  some (cells, len)
  else
  (wr cells len p0).bind fun cells_1 =>
  some (cells_1, (len + (1 : Int32)))
set_option maxRecDepth 100000 in
set_option maxHeartbeats 4000000 in
theorem c_X1_add {l : Launch} {G : Gx} {ad : Nat → Nat} {cells : List Int32} {len : Int32} {p0 : Int32} {out : List Int32 × Int32} (hf : X1_add cells len p0 = some out) : Ct l G yX1_add cX1_add 2 (none) 0 0 [.ref (ad 0), .int p0] (wN G ad cells len) (none) (wN G ad out.1 out.2) := by
  refine Ct.intro RX1 rfl (plainFor_of_name (by decide)) (Nat.le_of_ble_eq_true rfl) rfl ?_
  intro p e s m args below meth c A C H locs hs ls hl
  obtain ⟨hx, hb, hml, hown, hts, hK, hret, hlk⟩ := id C
  have hl : lv_has ls 2 [(0, .ref (ad 0)), (1, .int p0)] := hl
  unfold X1_add at hf
  refine lv_aload_n hx hb (dk hX1_add_0 0 rfl) rfl (lv_at hl 0 rfl) ?_
  refine rg ui1 rfl C hs 0 rfl 1 (by decide) tw_121 rfl rfl (dk hX1_add_0 1 rfl) ?_
  refine lv_if_lt (tgt := 39) hx hb (dk hX1_add_0 2 rfl) (by decide) (fun hc => ?_) (fun hc => ?_)
  · replace hf := ip hf hc
    cases hf
    exact rv C hs (dk hX1_add_0 21 rfl)
  · replace hf := in_ hf hc
    refine lv_aload_n hx hb (dk hX1_add_0 3 rfl) rfl (lv_at hl 0 rfl) ?_
    refine rg ui1 rfl C hs 0 rfl 1 (by decide) tw_121 rfl rfl (dk hX1_add_0 4 rfl) ?_
    refine lv_aload_n hx hb (dk hX1_add_0 5 rfl) rfl (lv_at hl 0 rfl) ?_
    refine rg ui1 rfl C hs 0 rfl 0 (by decide) tw_120 rfl rfl (dk hX1_add_0 6 rfl) ?_
    refine rlen C hs 1 rfl (dk hX1_add_0 7 rfl) ?_
    refine lv_icmp_ge (tgt := 39) hx hb (dk hX1_add_0 8 rfl) (by decide) (fun hc => ?_) (fun hc => ?_)
    · replace hf := ip hf hc
      cases hf
      exact rv C hs (dk hX1_add_0 21 rfl)
    · replace hf := in_ hf hc
      refine lv_aload_n hx hb (dk hX1_add_0 9 rfl) rfl (lv_at hl 0 rfl) ?_
      refine rg ui1 rfl C hs 0 rfl 0 (by decide) tw_120 rfl rfl (dk hX1_add_0 10 rfl) ?_
      refine lv_aload_n hx hb (dk hX1_add_0 11 rfl) rfl (lv_at hl 0 rfl) ?_
      refine rg ui1 rfl C hs 0 rfl 1 (by decide) tw_121 rfl rfl (dk hX1_add_0 12 rfl) ?_
      refine lv_iload_n hx hb (dk hX1_add_0 13 rfl) rfl (lv_at hl 1 rfl) ?_
      obtain ⟨cells_1, e_2, hf⟩ := Option.bind_eq_some_iff.mp hf
      refine rist (w1 := (wN G ad cells_1 len)) C hs 1 rfl e_2 rfl (dk hX1_add_0 14 rfl) (fun H locs hs => ?_)
      refine lv_aload_n hx hb (dk hX1_add_0 15 rfl) rfl (lv_at hl 0 rfl) ?_
      refine lv_dup hx hb (dk hX1_add_0 16 rfl) rfl ?_
      refine rg ui1 rfl C hs 0 rfl 1 (by decide) tw_121 rfl rfl (dk hX1_add_0 17 rfl) ?_
      refine lv_iconst (v := (1 : Int32)) hx hb (dk hX1_add_0 18 rfl) (by decide) ?_
      refine lv_iadd hx hb (dk hX1_add_0 19 rfl) ?_
      refine rp (w1 := (wN G ad cells_1 (len + (1 : Int32)))) tyX1 tyX1_ok nmX1 ui1 rfl C hs 0 rfl 1 (by decide) tw_121 rfl rfl rfl rfl (Nat.le_of_ble_eq_true rfl) rfl (dk hX1_add_0 20 rfl) (fun H locs hs => ?_)
      cases hf
      exact rv C hs (dk hX1_add_0 21 rfl)

def X1_at (cells : List Int32) (len : Int32) (p0 : Int32) : Option (Int32) :=
  if p0 < (0 : Int32) then
  some (-1 : Int32)
  else
  if len ≤ p0 then
  some (-1 : Int32)
  else
  if (Int32.ofNat cells.length) ≤ p0 then
  some (-1 : Int32)
  else
  (rd cells p0).bind fun v_1 =>
  some v_1
set_option maxRecDepth 100000 in
set_option maxHeartbeats 4000000 in
theorem c_X1_at {l : Launch} {G : Gx} {ad : Nat → Nat} {cells : List Int32} {len : Int32} {p0 : Int32} {out : Int32} (hf : X1_at cells len p0 = some out) : Ct l G yX1_at cX1_at 2 (some .int) 0 0 [.ref (ad 0), .int p0] (wN G ad cells len) (some (.int out)) (wN G ad cells len) := by
  refine Ct.intro RX1 rfl (plainFor_of_name (by decide)) (Nat.le_of_ble_eq_true rfl) rfl ?_
  intro p e s m args below meth c A C H locs hs ls hl
  obtain ⟨hx, hb, hml, hown, hts, hK, hret, hlk⟩ := id C
  have hl : lv_has ls 2 [(0, .ref (ad 0)), (1, .int p0)] := hl
  unfold X1_at at hf
  refine lv_iload_n hx hb (dk hX1_at_0 0 rfl) rfl (lv_at hl 1 rfl) ?_
  refine lv_if_lt (tgt := 30) hx hb (dk hX1_at_0 1 rfl) (by decide) (fun hc => ?_) (fun hc => ?_)
  · replace hf := ip hf hc
    refine lv_iconst (v := (-1 : Int32)) hx hb (dk hX1_at_0 16 rfl) (by decide) ?_
    cases hf
    exact ri C hs (dk hX1_at_0 17 rfl)
  · replace hf := in_ hf hc
    refine lv_iload_n hx hb (dk hX1_at_0 2 rfl) rfl (lv_at hl 1 rfl) ?_
    refine lv_aload_n hx hb (dk hX1_at_0 3 rfl) rfl (lv_at hl 0 rfl) ?_
    refine rg ui1 rfl C hs 0 rfl 1 (by decide) tw_121 rfl rfl (dk hX1_at_0 4 rfl) ?_
    refine lv_icmp_ge (tgt := 30) hx hb (dk hX1_at_0 5 rfl) (by decide) (fun hc => ?_) (fun hc => ?_)
    · replace hf := ip hf hc
      refine lv_iconst (v := (-1 : Int32)) hx hb (dk hX1_at_0 16 rfl) (by decide) ?_
      cases hf
      exact ri C hs (dk hX1_at_0 17 rfl)
    · replace hf := in_ hf hc
      refine lv_iload_n hx hb (dk hX1_at_0 6 rfl) rfl (lv_at hl 1 rfl) ?_
      refine lv_aload_n hx hb (dk hX1_at_0 7 rfl) rfl (lv_at hl 0 rfl) ?_
      refine rg ui1 rfl C hs 0 rfl 0 (by decide) tw_120 rfl rfl (dk hX1_at_0 8 rfl) ?_
      refine rlen C hs 1 rfl (dk hX1_at_0 9 rfl) ?_
      refine lv_icmp_ge (tgt := 30) hx hb (dk hX1_at_0 10 rfl) (by decide) (fun hc => ?_) (fun hc => ?_)
      · replace hf := ip hf hc
        refine lv_iconst (v := (-1 : Int32)) hx hb (dk hX1_at_0 16 rfl) (by decide) ?_
        cases hf
        exact ri C hs (dk hX1_at_0 17 rfl)
      · replace hf := in_ hf hc
        refine lv_aload_n hx hb (dk hX1_at_0 11 rfl) rfl (lv_at hl 0 rfl) ?_
        refine rg ui1 rfl C hs 0 rfl 0 (by decide) tw_120 rfl rfl (dk hX1_at_0 12 rfl) ?_
        refine lv_iload_n hx hb (dk hX1_at_0 13 rfl) rfl (lv_at hl 1 rfl) ?_
        obtain ⟨v_1, e_2, hf⟩ := Option.bind_eq_some_iff.mp hf
        refine rild C hs 1 rfl e_2 (dk hX1_at_0 14 rfl) ?_
        refine lv_goto (tgt := 31) hx hb (dk hX1_at_0 15 rfl) (by decide) ?_
        cases hf
        exact ri C hs (dk hX1_at_0 17 rfl)

def X1_drop (len : Int32) : Option (Int32) :=
  some (0 : Int32)
set_option maxRecDepth 100000 in
set_option maxHeartbeats 4000000 in
theorem c_X1_drop {l : Launch} {G : Gx} {ad : Nat → Nat} {cells : List Int32} {len : Int32}  {out : Int32} (hf : X1_drop len = some out) : Ct l G yX1_drop cX1_drop 1 (none) 0 0 [.ref (ad 0)] (wN G ad cells len) (none) (wN G ad cells out) := by
  refine Ct.intro RX1 rfl (plainFor_of_name (by decide)) (Nat.le_of_ble_eq_true rfl) rfl ?_
  intro p e s m args below meth c A C H locs hs ls hl
  obtain ⟨hx, hb, hml, hown, hts, hK, hret, hlk⟩ := id C
  have hl : lv_has ls 1 [(0, .ref (ad 0))] := hl
  unfold X1_drop at hf
  refine lv_aload_n hx hb (dk hX1_drop_0 0 rfl) rfl (lv_at hl 0 rfl) ?_
  refine lv_iconst (v := (0 : Int32)) hx hb (dk hX1_drop_0 1 rfl) (by decide) ?_
  refine rp (w1 := (wN G ad cells (0 : Int32))) tyX1 tyX1_ok nmX1 ui1 rfl C hs 0 rfl 1 (by decide) tw_121 rfl rfl rfl rfl (Nat.le_of_ble_eq_true rfl) rfl (dk hX1_drop_0 2 rfl) (fun H locs hs => ?_)
  cases hf
  exact rv C hs (dk hX1_drop_0 3 rfl)

def wHO (G : Gx) (ad ado : Nat → Nat) (there used hidden kind figure cargo load o_there o_used o_hidden o_kind o_figure o_cargo o_load : List Int32) (ships inn coughs day o_ships o_inn o_coughs o_day : Int32) : va_W := wH G ad there used hidden kind figure cargo load ships inn coughs day ++ (wH G ado o_there o_used o_hidden o_kind o_figure o_cargo o_load o_ships o_inn o_coughs o_day)
def wOH (G : Gx) (ado ad : Nat → Nat) (there used hidden kind figure cargo load o_there o_used o_hidden o_kind o_figure o_cargo o_load : List Int32) (ships inn coughs day o_ships o_inn o_coughs o_day : Int32) : va_W := wH G ado o_there o_used o_hidden o_kind o_figure o_cargo o_load o_ships o_inn o_coughs o_day ++ (wH G ad there used hidden kind figure cargo load ships inn coughs day)
def X0_copyFrom_L2 (k : List Int32 → List Int32 → List Int32 → Option (List Int32 × List Int32 × List Int32 × List Int32 × List Int32 × List Int32 × List Int32 × Int32 × Int32 × Int32 × Int32)) (o_there : List Int32) (o_used : List Int32) (o_hidden : List Int32) : Nat → Int32 → List Int32 → List Int32 → List Int32 → Option (List Int32 × List Int32 × List Int32 × List Int32 × List Int32 × List Int32 × List Int32 × Int32 × Int32 × Int32 × Int32)
  | 0, _, _, _, _ => none
  | n + 1, x2, there, used, hidden =>
  if (6 : Int32) ≤ x2 then
  k there used hidden
  else
  (rd o_there x2).bind fun v_1 =>
  (wr there x2 v_1).bind fun there_3 =>
  (rd o_used x2).bind fun v_5 =>
  (wr used x2 v_5).bind fun used_7 =>
  (rd o_hidden x2).bind fun v_9 =>
  (wr hidden x2 v_9).bind fun hidden_11 =>
  X0_copyFrom_L2 k o_there o_used o_hidden n (x2 + (1 : Int32)) there_3 used_7 hidden_11
def X0_copyFrom_L52 (k : List Int32 → List Int32 → List Int32 → List Int32 → Option (List Int32 × List Int32 × List Int32 × List Int32 × List Int32 × List Int32 × List Int32 × Int32 × Int32 × Int32 × Int32)) (o_kind : List Int32) (o_figure : List Int32) (o_cargo : List Int32) (o_load : List Int32) : Nat → Int32 → List Int32 → List Int32 → List Int32 → List Int32 → Option (List Int32 × List Int32 × List Int32 × List Int32 × List Int32 × List Int32 × List Int32 × Int32 × Int32 × Int32 × Int32)
  | 0, _, _, _, _, _ => none
  | n + 1, x2, kind, figure, cargo, load =>
  if (7 : Int32) ≤ x2 then
  k kind figure cargo load
  else
  (rd o_kind x2).bind fun v_16 =>
  (wr kind x2 v_16).bind fun kind_18 =>
  (rd o_figure x2).bind fun v_20 =>
  (wr figure x2 v_20).bind fun figure_22 =>
  (rd o_cargo x2).bind fun v_24 =>
  (wr cargo x2 v_24).bind fun cargo_26 =>
  (rd o_load x2).bind fun v_28 =>
  (wr load x2 v_28).bind fun load_30 =>
  X0_copyFrom_L52 k o_kind o_figure o_cargo o_load n (x2 + (1 : Int32)) kind_18 figure_22 cargo_26 load_30
def X0_copyFrom (there : List Int32) (used : List Int32) (hidden : List Int32) (kind : List Int32) (figure : List Int32) (cargo : List Int32) (load : List Int32) (o_there : List Int32) (o_used : List Int32) (o_hidden : List Int32) (o_kind : List Int32) (o_figure : List Int32) (o_cargo : List Int32) (o_load : List Int32) (ships : Int32) (inn : Int32) (coughs : Int32) (day : Int32) (o_ships : Int32) (o_inn : Int32) (o_coughs : Int32) (o_day : Int32) : Option (List Int32 × List Int32 × List Int32 × List Int32 × List Int32 × List Int32 × List Int32 × Int32 × Int32 × Int32 × Int32) :=
  X0_copyFrom_L2 (fun there_13 used_14 hidden_15 =>
  X0_copyFrom_L52 (fun kind_32 figure_33 cargo_34 load_35 =>
  some (there_13, used_14, hidden_15, kind_32, figure_33, cargo_34, load_35, o_ships, o_inn, o_coughs, o_day)) o_kind o_figure o_cargo o_load 1000 (0 : Int32) kind figure cargo load) o_there o_used o_hidden 1000 (0 : Int32) there used hidden
set_option maxRecDepth 100000 in
set_option maxHeartbeats 4000000 in
theorem l_X0_copyFrom_L2 {l : Launch} {p : Program} {e : Env} {s : State} {m : MethodId} {args : Array Value} {below : List Frame} {meth : Method} {c : Code} {A : Nat → Prop} {G : Gx} {ad ado : Nat → Nat} {kind figure cargo load o_there o_used o_hidden o_kind o_figure o_cargo o_load : List Int32} {ships inn coughs day o_ships o_inn o_coughs o_day : Int32} {k : List Int32 → List Int32 → List Int32 → Option (List Int32 × List Int32 × List Int32 × List Int32 × List Int32 × List Int32 × List Int32 × Int32 × Int32 × Int32 × Int32)} {out : List Int32 × List Int32 × List Int32 × List Int32 × List Int32 × List Int32 × List Int32 × Int32 × Int32 × Int32 × Int32} (C : Cx p s m args meth c cX0_copyFrom RX0 3 (none) G) : ∀ (n : Nat) (x2 : Int32) (there : List Int32) (used : List Int32) (hidden : List Int32), X0_copyFrom_L2 k o_there o_used o_hidden n x2 there used hidden = some out → ∀ (H : Heap) (locs : List Loc), St G A s.heap H locs (wHO G ad ado there used hidden kind figure cargo load o_there o_used o_hidden o_kind o_figure o_cargo o_load ships inn coughs day o_ships o_inn o_coughs o_day) → ∀ ls : Array Slot, lv_has ls 3 [(0, .ref (ad 0)), (1, .ref (ado 0)), (2, .int x2)] → (∀ (z_there : List Int32) (z_used : List Int32) (z_hidden : List Int32), k z_there z_used z_hidden = some out → ∀ (H : Heap) (locs : List Loc), St G A s.heap H locs (wHO G ad ado z_there z_used z_hidden kind figure cargo load o_there o_used o_hidden o_kind o_figure o_cargo o_load ships inn coughs day o_ships o_inn o_coughs o_day) → ∀ ls : Array Slot, lv_has ls 3 [(0, .ref (ad 0)), (1, .ref (ado 0))] → W p l e (rmOf 0 0) s m args below meth c H locs 0 0 (MQ below (Qof G A (none) (wHO G ad ado out.1 out.2.1 out.2.2.1 out.2.2.2.1 out.2.2.2.2.1 out.2.2.2.2.2.1 out.2.2.2.2.2.2.1 o_there o_used o_hidden o_kind o_figure o_cargo o_load out.2.2.2.2.2.2.2.1 out.2.2.2.2.2.2.2.2.1 out.2.2.2.2.2.2.2.2.2.1 out.2.2.2.2.2.2.2.2.2.2 o_ships o_inn o_coughs o_day)) args s 0 0 A) (F0 m 50 ls [])) → W p l e (rmOf 0 0) s m args below meth c H locs 0 0 (MQ below (Qof G A (none) (wHO G ad ado out.1 out.2.1 out.2.2.1 out.2.2.2.1 out.2.2.2.2.1 out.2.2.2.2.2.1 out.2.2.2.2.2.2.1 o_there o_used o_hidden o_kind o_figure o_cargo o_load out.2.2.2.2.2.2.2.1 out.2.2.2.2.2.2.2.2.1 out.2.2.2.2.2.2.2.2.2.1 out.2.2.2.2.2.2.2.2.2.2 o_ships o_inn o_coughs o_day)) args s 0 0 A) (F0 m 2 ls []) := by
  obtain ⟨hx, hb, hml, hown, hts, hK, hret, hlk⟩ := id C
  intro n
  induction n with
  | zero => intro x2 there used hidden hf; cases hf
  | succ n ih =>
    intro x2 there used hidden hf H locs hs ls hl hk
    rw [X0_copyFrom_L2] at hf
    refine lv_iload_n hx hb (dk hX0_copyFrom_0 2 rfl) rfl (lv_at hl 2 rfl) ?_
    refine lv_bipush (v := (6 : Int32)) hx hb (dk hX0_copyFrom_0 3 rfl) (by decide) ?_
    refine lv_icmp_ge (tgt := 50) hx hb (dk hX0_copyFrom_0 4 rfl) (by decide) (fun hc => ?_) (fun hc => ?_)
    · replace hf := ip hf hc
      exact hk _ _ _ hf _ _ hs _ (lv_sub hl [0, 1] rfl)
    · replace hf := in_ hf hc
      refine lv_aload_n hx hb (dk hX0_copyFrom_0 5 rfl) rfl (lv_at hl 0 rfl) ?_
      refine rg ui0 rfl C hs 0 rfl 0 (by decide) tw_38 rfl rfl (dk hX0_copyFrom_0 6 rfl) ?_
      refine lv_iload_n hx hb (dk hX0_copyFrom_0 7 rfl) rfl (lv_at hl 2 rfl) ?_
      refine lv_aload_n hx hb (dk hX0_copyFrom_0 8 rfl) rfl (lv_at hl 1 rfl) ?_
      refine rg ui0 rfl C hs 8 rfl 0 (by decide) tw_38 rfl rfl (dk hX0_copyFrom_0 9 rfl) ?_
      refine lv_iload_n hx hb (dk hX0_copyFrom_0 10 rfl) rfl (lv_at hl 2 rfl) ?_
      obtain ⟨v_1, e_2, hf⟩ := Option.bind_eq_some_iff.mp hf
      refine rild C hs 9 rfl e_2 (dk hX0_copyFrom_0 11 rfl) ?_
      obtain ⟨there_3, e_4, hf⟩ := Option.bind_eq_some_iff.mp hf
      refine rist (w1 := (wHO G ad ado there_3 used hidden kind figure cargo load o_there o_used o_hidden o_kind o_figure o_cargo o_load ships inn coughs day o_ships o_inn o_coughs o_day)) C hs 1 rfl e_4 rfl (dk hX0_copyFrom_0 12 rfl) (fun H locs hs => ?_)
      refine lv_aload_n hx hb (dk hX0_copyFrom_0 13 rfl) rfl (lv_at hl 0 rfl) ?_
      refine rg ui0 rfl C hs 0 rfl 1 (by decide) tw_41 rfl rfl (dk hX0_copyFrom_0 14 rfl) ?_
      refine lv_iload_n hx hb (dk hX0_copyFrom_0 15 rfl) rfl (lv_at hl 2 rfl) ?_
      refine lv_aload_n hx hb (dk hX0_copyFrom_0 16 rfl) rfl (lv_at hl 1 rfl) ?_
      refine rg ui0 rfl C hs 8 rfl 1 (by decide) tw_41 rfl rfl (dk hX0_copyFrom_0 17 rfl) ?_
      refine lv_iload_n hx hb (dk hX0_copyFrom_0 18 rfl) rfl (lv_at hl 2 rfl) ?_
      obtain ⟨v_5, e_6, hf⟩ := Option.bind_eq_some_iff.mp hf
      refine rild C hs 10 rfl e_6 (dk hX0_copyFrom_0 19 rfl) ?_
      obtain ⟨used_7, e_8, hf⟩ := Option.bind_eq_some_iff.mp hf
      refine rist (w1 := (wHO G ad ado there_3 used_7 hidden kind figure cargo load o_there o_used o_hidden o_kind o_figure o_cargo o_load ships inn coughs day o_ships o_inn o_coughs o_day)) C hs 2 rfl e_8 rfl (dk hX0_copyFrom_0 20 rfl) (fun H locs hs => ?_)
      refine lv_aload_n hx hb (dk hX0_copyFrom_0 21 rfl) rfl (lv_at hl 0 rfl) ?_
      refine rg ui0 rfl C hs 0 rfl 2 (by decide) tw_44 rfl rfl (dk hX0_copyFrom_0 22 rfl) ?_
      refine lv_iload_n hx hb (dk hX0_copyFrom_0 23 rfl) rfl (lv_at hl 2 rfl) ?_
      refine lv_aload_n hx hb (dk hX0_copyFrom_0 24 rfl) rfl (lv_at hl 1 rfl) ?_
      refine rg ui0 rfl C hs 8 rfl 2 (by decide) tw_44 rfl rfl (dk hX0_copyFrom_0 25 rfl) ?_
      refine lv_iload_n hx hb (dk hX0_copyFrom_0 26 rfl) rfl (lv_at hl 2 rfl) ?_
      obtain ⟨v_9, e_10, hf⟩ := Option.bind_eq_some_iff.mp hf
      refine rild C hs 11 rfl e_10 (dk hX0_copyFrom_0 27 rfl) ?_
      obtain ⟨hidden_11, e_12, hf⟩ := Option.bind_eq_some_iff.mp hf
      refine rist (w1 := (wHO G ad ado there_3 used_7 hidden_11 kind figure cargo load o_there o_used o_hidden o_kind o_figure o_cargo o_load ships inn coughs day o_ships o_inn o_coughs o_day)) C hs 3 rfl e_12 rfl (dk hX0_copyFrom_0 28 rfl) (fun H locs hs => ?_)
      refine lv_iinc (v := (x2 + (1 : Int32))) (lv' := [(2, .int (x2 + (1 : Int32))), (0, .ref (ad 0)), (1, .ref (ado 0))]) hx hb (dk hX0_copyFrom_0 29 rfl) hl (k := 2) rfl (by first | rfl | decide) (by decide) rfl (fun ls hl => ?_)
      refine lv_goto (tgt := 2) hx hb (dk hX0_copyFrom_0 30 rfl) (by decide) ?_
      exact ih _ _ _ _ hf _ _ hs _ (lv_sub hl [1, 2, 0] rfl) hk
set_option maxRecDepth 100000 in
set_option maxHeartbeats 4000000 in
theorem l_X0_copyFrom_L52 {l : Launch} {p : Program} {e : Env} {s : State} {m : MethodId} {args : Array Value} {below : List Frame} {meth : Method} {c : Code} {A : Nat → Prop} {G : Gx} {ad ado : Nat → Nat} {there used hidden o_there o_used o_hidden o_kind o_figure o_cargo o_load : List Int32} {ships inn coughs day o_ships o_inn o_coughs o_day : Int32} {k : List Int32 → List Int32 → List Int32 → List Int32 → Option (List Int32 × List Int32 × List Int32 × List Int32 × List Int32 × List Int32 × List Int32 × Int32 × Int32 × Int32 × Int32)} {out : List Int32 × List Int32 × List Int32 × List Int32 × List Int32 × List Int32 × List Int32 × Int32 × Int32 × Int32 × Int32} (C : Cx p s m args meth c cX0_copyFrom RX0 3 (none) G) : ∀ (n : Nat) (x2 : Int32) (kind : List Int32) (figure : List Int32) (cargo : List Int32) (load : List Int32), X0_copyFrom_L52 k o_kind o_figure o_cargo o_load n x2 kind figure cargo load = some out → ∀ (H : Heap) (locs : List Loc), St G A s.heap H locs (wHO G ad ado there used hidden kind figure cargo load o_there o_used o_hidden o_kind o_figure o_cargo o_load ships inn coughs day o_ships o_inn o_coughs o_day) → ∀ ls : Array Slot, lv_has ls 3 [(0, .ref (ad 0)), (1, .ref (ado 0)), (2, .int x2)] → (∀ (z_kind : List Int32) (z_figure : List Int32) (z_cargo : List Int32) (z_load : List Int32), k z_kind z_figure z_cargo z_load = some out → ∀ (H : Heap) (locs : List Loc), St G A s.heap H locs (wHO G ad ado there used hidden z_kind z_figure z_cargo z_load o_there o_used o_hidden o_kind o_figure o_cargo o_load ships inn coughs day o_ships o_inn o_coughs o_day) → ∀ ls : Array Slot, lv_has ls 3 [(0, .ref (ad 0)), (1, .ref (ado 0))] → W p l e (rmOf 0 0) s m args below meth c H locs 0 0 (MQ below (Qof G A (none) (wHO G ad ado out.1 out.2.1 out.2.2.1 out.2.2.2.1 out.2.2.2.2.1 out.2.2.2.2.2.1 out.2.2.2.2.2.2.1 o_there o_used o_hidden o_kind o_figure o_cargo o_load out.2.2.2.2.2.2.2.1 out.2.2.2.2.2.2.2.2.1 out.2.2.2.2.2.2.2.2.2.1 out.2.2.2.2.2.2.2.2.2.2 o_ships o_inn o_coughs o_day)) args s 0 0 A) (F0 m 112 ls [])) → W p l e (rmOf 0 0) s m args below meth c H locs 0 0 (MQ below (Qof G A (none) (wHO G ad ado out.1 out.2.1 out.2.2.1 out.2.2.2.1 out.2.2.2.2.1 out.2.2.2.2.2.1 out.2.2.2.2.2.2.1 o_there o_used o_hidden o_kind o_figure o_cargo o_load out.2.2.2.2.2.2.2.1 out.2.2.2.2.2.2.2.2.1 out.2.2.2.2.2.2.2.2.2.1 out.2.2.2.2.2.2.2.2.2.2 o_ships o_inn o_coughs o_day)) args s 0 0 A) (F0 m 52 ls []) := by
  obtain ⟨hx, hb, hml, hown, hts, hK, hret, hlk⟩ := id C
  intro n
  induction n with
  | zero => intro x2 kind figure cargo load hf; cases hf
  | succ n ih =>
    intro x2 kind figure cargo load hf H locs hs ls hl hk
    rw [X0_copyFrom_L52] at hf
    refine lv_iload_n hx hb (dk hX0_copyFrom_0 33 rfl) rfl (lv_at hl 2 rfl) ?_
    refine lv_bipush (v := (7 : Int32)) hx hb (dk hX0_copyFrom_0 34 rfl) (by decide) ?_
    refine lv_icmp_ge (tgt := 112) hx hb (dk hX0_copyFrom_0 35 rfl) (by decide) (fun hc => ?_) (fun hc => ?_)
    · replace hf := ip hf hc
      exact hk _ _ _ _ hf _ _ hs _ (lv_sub hl [0, 1] rfl)
    · replace hf := in_ hf hc
      refine lv_aload_n hx hb (dk hX0_copyFrom_0 36 rfl) rfl (lv_at hl 0 rfl) ?_
      refine rg ui0 rfl C hs 0 rfl 3 (by decide) tw_46 rfl rfl (dk hX0_copyFrom_0 37 rfl) ?_
      refine lv_iload_n hx hb (dk hX0_copyFrom_0 38 rfl) rfl (lv_at hl 2 rfl) ?_
      refine lv_aload_n hx hb (dk hX0_copyFrom_0 39 rfl) rfl (lv_at hl 1 rfl) ?_
      refine rg ui0 rfl C hs 8 rfl 3 (by decide) tw_46 rfl rfl (dk hX0_copyFrom_1 0 rfl) ?_
      refine lv_iload_n hx hb (dk hX0_copyFrom_1 1 rfl) rfl (lv_at hl 2 rfl) ?_
      obtain ⟨v_16, e_17, hf⟩ := Option.bind_eq_some_iff.mp hf
      refine rild C hs 12 rfl e_17 (dk hX0_copyFrom_1 2 rfl) ?_
      obtain ⟨kind_18, e_19, hf⟩ := Option.bind_eq_some_iff.mp hf
      refine rist (w1 := (wHO G ad ado there used hidden kind_18 figure cargo load o_there o_used o_hidden o_kind o_figure o_cargo o_load ships inn coughs day o_ships o_inn o_coughs o_day)) C hs 4 rfl e_19 rfl (dk hX0_copyFrom_1 3 rfl) (fun H locs hs => ?_)
      refine lv_aload_n hx hb (dk hX0_copyFrom_1 4 rfl) rfl (lv_at hl 0 rfl) ?_
      refine rg ui0 rfl C hs 0 rfl 4 (by decide) tw_48 rfl rfl (dk hX0_copyFrom_1 5 rfl) ?_
      refine lv_iload_n hx hb (dk hX0_copyFrom_1 6 rfl) rfl (lv_at hl 2 rfl) ?_
      refine lv_aload_n hx hb (dk hX0_copyFrom_1 7 rfl) rfl (lv_at hl 1 rfl) ?_
      refine rg ui0 rfl C hs 8 rfl 4 (by decide) tw_48 rfl rfl (dk hX0_copyFrom_1 8 rfl) ?_
      refine lv_iload_n hx hb (dk hX0_copyFrom_1 9 rfl) rfl (lv_at hl 2 rfl) ?_
      obtain ⟨v_20, e_21, hf⟩ := Option.bind_eq_some_iff.mp hf
      refine rild C hs 13 rfl e_21 (dk hX0_copyFrom_1 10 rfl) ?_
      obtain ⟨figure_22, e_23, hf⟩ := Option.bind_eq_some_iff.mp hf
      refine rist (w1 := (wHO G ad ado there used hidden kind_18 figure_22 cargo load o_there o_used o_hidden o_kind o_figure o_cargo o_load ships inn coughs day o_ships o_inn o_coughs o_day)) C hs 5 rfl e_23 rfl (dk hX0_copyFrom_1 11 rfl) (fun H locs hs => ?_)
      refine lv_aload_n hx hb (dk hX0_copyFrom_1 12 rfl) rfl (lv_at hl 0 rfl) ?_
      refine rg ui0 rfl C hs 0 rfl 5 (by decide) tw_50 rfl rfl (dk hX0_copyFrom_1 13 rfl) ?_
      refine lv_iload_n hx hb (dk hX0_copyFrom_1 14 rfl) rfl (lv_at hl 2 rfl) ?_
      refine lv_aload_n hx hb (dk hX0_copyFrom_1 15 rfl) rfl (lv_at hl 1 rfl) ?_
      refine rg ui0 rfl C hs 8 rfl 5 (by decide) tw_50 rfl rfl (dk hX0_copyFrom_1 16 rfl) ?_
      refine lv_iload_n hx hb (dk hX0_copyFrom_1 17 rfl) rfl (lv_at hl 2 rfl) ?_
      obtain ⟨v_24, e_25, hf⟩ := Option.bind_eq_some_iff.mp hf
      refine rild C hs 14 rfl e_25 (dk hX0_copyFrom_1 18 rfl) ?_
      obtain ⟨cargo_26, e_27, hf⟩ := Option.bind_eq_some_iff.mp hf
      refine rist (w1 := (wHO G ad ado there used hidden kind_18 figure_22 cargo_26 load o_there o_used o_hidden o_kind o_figure o_cargo o_load ships inn coughs day o_ships o_inn o_coughs o_day)) C hs 6 rfl e_27 rfl (dk hX0_copyFrom_1 19 rfl) (fun H locs hs => ?_)
      refine lv_aload_n hx hb (dk hX0_copyFrom_1 20 rfl) rfl (lv_at hl 0 rfl) ?_
      refine rg ui0 rfl C hs 0 rfl 6 (by decide) tw_52 rfl rfl (dk hX0_copyFrom_1 21 rfl) ?_
      refine lv_iload_n hx hb (dk hX0_copyFrom_1 22 rfl) rfl (lv_at hl 2 rfl) ?_
      refine lv_aload_n hx hb (dk hX0_copyFrom_1 23 rfl) rfl (lv_at hl 1 rfl) ?_
      refine rg ui0 rfl C hs 8 rfl 6 (by decide) tw_52 rfl rfl (dk hX0_copyFrom_1 24 rfl) ?_
      refine lv_iload_n hx hb (dk hX0_copyFrom_1 25 rfl) rfl (lv_at hl 2 rfl) ?_
      obtain ⟨v_28, e_29, hf⟩ := Option.bind_eq_some_iff.mp hf
      refine rild C hs 15 rfl e_29 (dk hX0_copyFrom_1 26 rfl) ?_
      obtain ⟨load_30, e_31, hf⟩ := Option.bind_eq_some_iff.mp hf
      refine rist (w1 := (wHO G ad ado there used hidden kind_18 figure_22 cargo_26 load_30 o_there o_used o_hidden o_kind o_figure o_cargo o_load ships inn coughs day o_ships o_inn o_coughs o_day)) C hs 7 rfl e_31 rfl (dk hX0_copyFrom_1 27 rfl) (fun H locs hs => ?_)
      refine lv_iinc (v := (x2 + (1 : Int32))) (lv' := [(2, .int (x2 + (1 : Int32))), (0, .ref (ad 0)), (1, .ref (ado 0))]) hx hb (dk hX0_copyFrom_1 28 rfl) hl (k := 2) rfl (by first | rfl | decide) (by decide) rfl (fun ls hl => ?_)
      refine lv_goto (tgt := 52) hx hb (dk hX0_copyFrom_1 29 rfl) (by decide) ?_
      exact ih _ _ _ _ _ hf _ _ hs _ (lv_sub hl [1, 2, 0] rfl) hk
set_option maxRecDepth 100000 in
set_option maxHeartbeats 4000000 in
theorem c_X0_copyFrom {l : Launch} {G : Gx} {ad ado : Nat → Nat} {there used hidden kind figure cargo load o_there o_used o_hidden o_kind o_figure o_cargo o_load : List Int32} {ships inn coughs day o_ships o_inn o_coughs o_day : Int32}  {out : List Int32 × List Int32 × List Int32 × List Int32 × List Int32 × List Int32 × List Int32 × Int32 × Int32 × Int32 × Int32} (hf : X0_copyFrom there used hidden kind figure cargo load o_there o_used o_hidden o_kind o_figure o_cargo o_load ships inn coughs day o_ships o_inn o_coughs o_day = some out) : Ct l G yX0_copyFrom cX0_copyFrom 3 (none) 0 0 [.ref (ad 0), .ref (ado 0)] (wHO G ad ado there used hidden kind figure cargo load o_there o_used o_hidden o_kind o_figure o_cargo o_load ships inn coughs day o_ships o_inn o_coughs o_day) (none) (wHO G ad ado out.1 out.2.1 out.2.2.1 out.2.2.2.1 out.2.2.2.2.1 out.2.2.2.2.2.1 out.2.2.2.2.2.2.1 o_there o_used o_hidden o_kind o_figure o_cargo o_load out.2.2.2.2.2.2.2.1 out.2.2.2.2.2.2.2.2.1 out.2.2.2.2.2.2.2.2.2.1 out.2.2.2.2.2.2.2.2.2.2 o_ships o_inn o_coughs o_day) := by
  refine Ct.intro RX0 rfl (plainFor_of_name (by decide)) (Nat.le_of_ble_eq_true rfl) rfl ?_
  intro p e s m args below meth c A C H locs hs ls hl
  obtain ⟨hx, hb, hml, hown, hts, hK, hret, hlk⟩ := id C
  have hl : lv_has ls 3 [(0, .ref (ad 0)), (1, .ref (ado 0))] := hl
  unfold X0_copyFrom at hf
  refine lv_iconst (v := (0 : Int32)) hx hb (dk hX0_copyFrom_0 0 rfl) (by decide) ?_
  refine lv_istore_n (lv' := [(2, .int (0 : Int32)), (0, .ref (ad 0)), (1, .ref (ado 0))]) hx hb (dk hX0_copyFrom_0 1 rfl) rfl hl (by decide) rfl (fun ls hl => ?_)
  refine l_X0_copyFrom_L2 C 1000 _ _ _ _ hf _ _ hs _ (lv_sub hl [1, 2, 0] rfl) (fun there_13 used_14 hidden_15 hf H locs hs ls hl => ?_)
  refine lv_iconst (v := (0 : Int32)) hx hb (dk hX0_copyFrom_0 31 rfl) (by decide) ?_
  refine lv_istore_n (lv' := [(2, .int (0 : Int32)), (0, .ref (ad 0)), (1, .ref (ado 0))]) hx hb (dk hX0_copyFrom_0 32 rfl) rfl hl (by decide) rfl (fun ls hl => ?_)
  refine l_X0_copyFrom_L52 C 1000 _ _ _ _ _ hf _ _ hs _ (lv_sub hl [1, 2, 0] rfl) (fun kind_32 figure_33 cargo_34 load_35 hf H locs hs ls hl => ?_)
  refine lv_aload_n hx hb (dk hX0_copyFrom_1 30 rfl) rfl (lv_at hl 0 rfl) ?_
  refine lv_aload_n hx hb (dk hX0_copyFrom_1 31 rfl) rfl (lv_at hl 1 rfl) ?_
  refine rg ui0 rfl C hs 8 rfl 7 (by decide) tw_54 rfl rfl (dk hX0_copyFrom_1 32 rfl) ?_
  refine rp (w1 := (wHO G ad ado there_13 used_14 hidden_15 kind_32 figure_33 cargo_34 load_35 o_there o_used o_hidden o_kind o_figure o_cargo o_load o_ships inn coughs day o_ships o_inn o_coughs o_day)) tyX0 tyX0_ok nmX0 ui0 rfl C hs 0 rfl 7 (by decide) tw_54 rfl rfl rfl rfl (Nat.le_of_ble_eq_true rfl) rfl (dk hX0_copyFrom_1 33 rfl) (fun H locs hs => ?_)
  refine lv_aload_n hx hb (dk hX0_copyFrom_1 34 rfl) rfl (lv_at hl 0 rfl) ?_
  refine lv_aload_n hx hb (dk hX0_copyFrom_1 35 rfl) rfl (lv_at hl 1 rfl) ?_
  refine rg ui0 rfl C hs 8 rfl 8 (by decide) tw_57 rfl rfl (dk hX0_copyFrom_1 36 rfl) ?_
  refine rp (w1 := (wHO G ad ado there_13 used_14 hidden_15 kind_32 figure_33 cargo_34 load_35 o_there o_used o_hidden o_kind o_figure o_cargo o_load o_ships o_inn coughs day o_ships o_inn o_coughs o_day)) tyX0 tyX0_ok nmX0 ui0 rfl C hs 0 rfl 8 (by decide) tw_57 rfl rfl rfl rfl (Nat.le_of_ble_eq_true rfl) rfl (dk hX0_copyFrom_1 37 rfl) (fun H locs hs => ?_)
  refine lv_aload_n hx hb (dk hX0_copyFrom_1 38 rfl) rfl (lv_at hl 0 rfl) ?_
  refine lv_aload_n hx hb (dk hX0_copyFrom_1 39 rfl) rfl (lv_at hl 1 rfl) ?_
  refine rg ui0 rfl C hs 8 rfl 9 (by decide) tw_59 rfl rfl (dk hX0_copyFrom_2 0 rfl) ?_
  refine rp (w1 := (wHO G ad ado there_13 used_14 hidden_15 kind_32 figure_33 cargo_34 load_35 o_there o_used o_hidden o_kind o_figure o_cargo o_load o_ships o_inn o_coughs day o_ships o_inn o_coughs o_day)) tyX0 tyX0_ok nmX0 ui0 rfl C hs 0 rfl 9 (by decide) tw_59 rfl rfl rfl rfl (Nat.le_of_ble_eq_true rfl) rfl (dk hX0_copyFrom_2 1 rfl) (fun H locs hs => ?_)
  refine lv_aload_n hx hb (dk hX0_copyFrom_2 2 rfl) rfl (lv_at hl 0 rfl) ?_
  refine lv_aload_n hx hb (dk hX0_copyFrom_2 3 rfl) rfl (lv_at hl 1 rfl) ?_
  refine rg ui0 rfl C hs 8 rfl 10 (by decide) tw_62 rfl rfl (dk hX0_copyFrom_2 4 rfl) ?_
  refine rp (w1 := (wHO G ad ado there_13 used_14 hidden_15 kind_32 figure_33 cargo_34 load_35 o_there o_used o_hidden o_kind o_figure o_cargo o_load o_ships o_inn o_coughs o_day o_ships o_inn o_coughs o_day)) tyX0 tyX0_ok nmX0 ui0 rfl C hs 0 rfl 10 (by decide) tw_62 rfl rfl rfl rfl (Nat.le_of_ble_eq_true rfl) rfl (dk hX0_copyFrom_2 5 rfl) (fun H locs hs => ?_)
  cases hf
  exact rv C hs (dk hX0_copyFrom_2 6 rfl)

set_option maxRecDepth 100000 in
set_option maxHeartbeats 4000000 in
theorem l_X0_copyFrom__OH_L2 {l : Launch} {p : Program} {e : Env} {s : State} {m : MethodId} {args : Array Value} {below : List Frame} {meth : Method} {c : Code} {A : Nat → Prop} {G : Gx} {ado ad : Nat → Nat} {kind figure cargo load o_there o_used o_hidden o_kind o_figure o_cargo o_load : List Int32} {ships inn coughs day o_ships o_inn o_coughs o_day : Int32} {k : List Int32 → List Int32 → List Int32 → Option (List Int32 × List Int32 × List Int32 × List Int32 × List Int32 × List Int32 × List Int32 × Int32 × Int32 × Int32 × Int32)} {out : List Int32 × List Int32 × List Int32 × List Int32 × List Int32 × List Int32 × List Int32 × Int32 × Int32 × Int32 × Int32} (C : Cx p s m args meth c cX0_copyFrom RX0 3 (none) G) : ∀ (n : Nat) (x2 : Int32) (there : List Int32) (used : List Int32) (hidden : List Int32), X0_copyFrom_L2 k o_there o_used o_hidden n x2 there used hidden = some out → ∀ (H : Heap) (locs : List Loc), St G A s.heap H locs (wOH G ado ad there used hidden kind figure cargo load o_there o_used o_hidden o_kind o_figure o_cargo o_load ships inn coughs day o_ships o_inn o_coughs o_day) → ∀ ls : Array Slot, lv_has ls 3 [(0, .ref (ad 0)), (1, .ref (ado 0)), (2, .int x2)] → (∀ (z_there : List Int32) (z_used : List Int32) (z_hidden : List Int32), k z_there z_used z_hidden = some out → ∀ (H : Heap) (locs : List Loc), St G A s.heap H locs (wOH G ado ad z_there z_used z_hidden kind figure cargo load o_there o_used o_hidden o_kind o_figure o_cargo o_load ships inn coughs day o_ships o_inn o_coughs o_day) → ∀ ls : Array Slot, lv_has ls 3 [(0, .ref (ad 0)), (1, .ref (ado 0))] → W p l e (rmOf 0 0) s m args below meth c H locs 0 0 (MQ below (Qof G A (none) (wOH G ado ad out.1 out.2.1 out.2.2.1 out.2.2.2.1 out.2.2.2.2.1 out.2.2.2.2.2.1 out.2.2.2.2.2.2.1 o_there o_used o_hidden o_kind o_figure o_cargo o_load out.2.2.2.2.2.2.2.1 out.2.2.2.2.2.2.2.2.1 out.2.2.2.2.2.2.2.2.2.1 out.2.2.2.2.2.2.2.2.2.2 o_ships o_inn o_coughs o_day)) args s 0 0 A) (F0 m 50 ls [])) → W p l e (rmOf 0 0) s m args below meth c H locs 0 0 (MQ below (Qof G A (none) (wOH G ado ad out.1 out.2.1 out.2.2.1 out.2.2.2.1 out.2.2.2.2.1 out.2.2.2.2.2.1 out.2.2.2.2.2.2.1 o_there o_used o_hidden o_kind o_figure o_cargo o_load out.2.2.2.2.2.2.2.1 out.2.2.2.2.2.2.2.2.1 out.2.2.2.2.2.2.2.2.2.1 out.2.2.2.2.2.2.2.2.2.2 o_ships o_inn o_coughs o_day)) args s 0 0 A) (F0 m 2 ls []) := by
  obtain ⟨hx, hb, hml, hown, hts, hK, hret, hlk⟩ := id C
  intro n
  induction n with
  | zero => intro x2 there used hidden hf; cases hf
  | succ n ih =>
    intro x2 there used hidden hf H locs hs ls hl hk
    rw [X0_copyFrom_L2] at hf
    refine lv_iload_n hx hb (dk hX0_copyFrom_0 2 rfl) rfl (lv_at hl 2 rfl) ?_
    refine lv_bipush (v := (6 : Int32)) hx hb (dk hX0_copyFrom_0 3 rfl) (by decide) ?_
    refine lv_icmp_ge (tgt := 50) hx hb (dk hX0_copyFrom_0 4 rfl) (by decide) (fun hc => ?_) (fun hc => ?_)
    · replace hf := ip hf hc
      exact hk _ _ _ hf _ _ hs _ (lv_sub hl [0, 1] rfl)
    · replace hf := in_ hf hc
      refine lv_aload_n hx hb (dk hX0_copyFrom_0 5 rfl) rfl (lv_at hl 0 rfl) ?_
      refine rg ui0 rfl C hs 8 rfl 0 (by decide) tw_38 rfl rfl (dk hX0_copyFrom_0 6 rfl) ?_
      refine lv_iload_n hx hb (dk hX0_copyFrom_0 7 rfl) rfl (lv_at hl 2 rfl) ?_
      refine lv_aload_n hx hb (dk hX0_copyFrom_0 8 rfl) rfl (lv_at hl 1 rfl) ?_
      refine rg ui0 rfl C hs 0 rfl 0 (by decide) tw_38 rfl rfl (dk hX0_copyFrom_0 9 rfl) ?_
      refine lv_iload_n hx hb (dk hX0_copyFrom_0 10 rfl) rfl (lv_at hl 2 rfl) ?_
      obtain ⟨v_1, e_2, hf⟩ := Option.bind_eq_some_iff.mp hf
      refine rild C hs 1 rfl e_2 (dk hX0_copyFrom_0 11 rfl) ?_
      obtain ⟨there_3, e_4, hf⟩ := Option.bind_eq_some_iff.mp hf
      refine rist (w1 := (wOH G ado ad there_3 used hidden kind figure cargo load o_there o_used o_hidden o_kind o_figure o_cargo o_load ships inn coughs day o_ships o_inn o_coughs o_day)) C hs 9 rfl e_4 rfl (dk hX0_copyFrom_0 12 rfl) (fun H locs hs => ?_)
      refine lv_aload_n hx hb (dk hX0_copyFrom_0 13 rfl) rfl (lv_at hl 0 rfl) ?_
      refine rg ui0 rfl C hs 8 rfl 1 (by decide) tw_41 rfl rfl (dk hX0_copyFrom_0 14 rfl) ?_
      refine lv_iload_n hx hb (dk hX0_copyFrom_0 15 rfl) rfl (lv_at hl 2 rfl) ?_
      refine lv_aload_n hx hb (dk hX0_copyFrom_0 16 rfl) rfl (lv_at hl 1 rfl) ?_
      refine rg ui0 rfl C hs 0 rfl 1 (by decide) tw_41 rfl rfl (dk hX0_copyFrom_0 17 rfl) ?_
      refine lv_iload_n hx hb (dk hX0_copyFrom_0 18 rfl) rfl (lv_at hl 2 rfl) ?_
      obtain ⟨v_5, e_6, hf⟩ := Option.bind_eq_some_iff.mp hf
      refine rild C hs 2 rfl e_6 (dk hX0_copyFrom_0 19 rfl) ?_
      obtain ⟨used_7, e_8, hf⟩ := Option.bind_eq_some_iff.mp hf
      refine rist (w1 := (wOH G ado ad there_3 used_7 hidden kind figure cargo load o_there o_used o_hidden o_kind o_figure o_cargo o_load ships inn coughs day o_ships o_inn o_coughs o_day)) C hs 10 rfl e_8 rfl (dk hX0_copyFrom_0 20 rfl) (fun H locs hs => ?_)
      refine lv_aload_n hx hb (dk hX0_copyFrom_0 21 rfl) rfl (lv_at hl 0 rfl) ?_
      refine rg ui0 rfl C hs 8 rfl 2 (by decide) tw_44 rfl rfl (dk hX0_copyFrom_0 22 rfl) ?_
      refine lv_iload_n hx hb (dk hX0_copyFrom_0 23 rfl) rfl (lv_at hl 2 rfl) ?_
      refine lv_aload_n hx hb (dk hX0_copyFrom_0 24 rfl) rfl (lv_at hl 1 rfl) ?_
      refine rg ui0 rfl C hs 0 rfl 2 (by decide) tw_44 rfl rfl (dk hX0_copyFrom_0 25 rfl) ?_
      refine lv_iload_n hx hb (dk hX0_copyFrom_0 26 rfl) rfl (lv_at hl 2 rfl) ?_
      obtain ⟨v_9, e_10, hf⟩ := Option.bind_eq_some_iff.mp hf
      refine rild C hs 3 rfl e_10 (dk hX0_copyFrom_0 27 rfl) ?_
      obtain ⟨hidden_11, e_12, hf⟩ := Option.bind_eq_some_iff.mp hf
      refine rist (w1 := (wOH G ado ad there_3 used_7 hidden_11 kind figure cargo load o_there o_used o_hidden o_kind o_figure o_cargo o_load ships inn coughs day o_ships o_inn o_coughs o_day)) C hs 11 rfl e_12 rfl (dk hX0_copyFrom_0 28 rfl) (fun H locs hs => ?_)
      refine lv_iinc (v := (x2 + (1 : Int32))) (lv' := [(2, .int (x2 + (1 : Int32))), (0, .ref (ad 0)), (1, .ref (ado 0))]) hx hb (dk hX0_copyFrom_0 29 rfl) hl (k := 2) rfl (by first | rfl | decide) (by decide) rfl (fun ls hl => ?_)
      refine lv_goto (tgt := 2) hx hb (dk hX0_copyFrom_0 30 rfl) (by decide) ?_
      exact ih _ _ _ _ hf _ _ hs _ (lv_sub hl [1, 2, 0] rfl) hk
set_option maxRecDepth 100000 in
set_option maxHeartbeats 4000000 in
theorem l_X0_copyFrom__OH_L52 {l : Launch} {p : Program} {e : Env} {s : State} {m : MethodId} {args : Array Value} {below : List Frame} {meth : Method} {c : Code} {A : Nat → Prop} {G : Gx} {ado ad : Nat → Nat} {there used hidden o_there o_used o_hidden o_kind o_figure o_cargo o_load : List Int32} {ships inn coughs day o_ships o_inn o_coughs o_day : Int32} {k : List Int32 → List Int32 → List Int32 → List Int32 → Option (List Int32 × List Int32 × List Int32 × List Int32 × List Int32 × List Int32 × List Int32 × Int32 × Int32 × Int32 × Int32)} {out : List Int32 × List Int32 × List Int32 × List Int32 × List Int32 × List Int32 × List Int32 × Int32 × Int32 × Int32 × Int32} (C : Cx p s m args meth c cX0_copyFrom RX0 3 (none) G) : ∀ (n : Nat) (x2 : Int32) (kind : List Int32) (figure : List Int32) (cargo : List Int32) (load : List Int32), X0_copyFrom_L52 k o_kind o_figure o_cargo o_load n x2 kind figure cargo load = some out → ∀ (H : Heap) (locs : List Loc), St G A s.heap H locs (wOH G ado ad there used hidden kind figure cargo load o_there o_used o_hidden o_kind o_figure o_cargo o_load ships inn coughs day o_ships o_inn o_coughs o_day) → ∀ ls : Array Slot, lv_has ls 3 [(0, .ref (ad 0)), (1, .ref (ado 0)), (2, .int x2)] → (∀ (z_kind : List Int32) (z_figure : List Int32) (z_cargo : List Int32) (z_load : List Int32), k z_kind z_figure z_cargo z_load = some out → ∀ (H : Heap) (locs : List Loc), St G A s.heap H locs (wOH G ado ad there used hidden z_kind z_figure z_cargo z_load o_there o_used o_hidden o_kind o_figure o_cargo o_load ships inn coughs day o_ships o_inn o_coughs o_day) → ∀ ls : Array Slot, lv_has ls 3 [(0, .ref (ad 0)), (1, .ref (ado 0))] → W p l e (rmOf 0 0) s m args below meth c H locs 0 0 (MQ below (Qof G A (none) (wOH G ado ad out.1 out.2.1 out.2.2.1 out.2.2.2.1 out.2.2.2.2.1 out.2.2.2.2.2.1 out.2.2.2.2.2.2.1 o_there o_used o_hidden o_kind o_figure o_cargo o_load out.2.2.2.2.2.2.2.1 out.2.2.2.2.2.2.2.2.1 out.2.2.2.2.2.2.2.2.2.1 out.2.2.2.2.2.2.2.2.2.2 o_ships o_inn o_coughs o_day)) args s 0 0 A) (F0 m 112 ls [])) → W p l e (rmOf 0 0) s m args below meth c H locs 0 0 (MQ below (Qof G A (none) (wOH G ado ad out.1 out.2.1 out.2.2.1 out.2.2.2.1 out.2.2.2.2.1 out.2.2.2.2.2.1 out.2.2.2.2.2.2.1 o_there o_used o_hidden o_kind o_figure o_cargo o_load out.2.2.2.2.2.2.2.1 out.2.2.2.2.2.2.2.2.1 out.2.2.2.2.2.2.2.2.2.1 out.2.2.2.2.2.2.2.2.2.2 o_ships o_inn o_coughs o_day)) args s 0 0 A) (F0 m 52 ls []) := by
  obtain ⟨hx, hb, hml, hown, hts, hK, hret, hlk⟩ := id C
  intro n
  induction n with
  | zero => intro x2 kind figure cargo load hf; cases hf
  | succ n ih =>
    intro x2 kind figure cargo load hf H locs hs ls hl hk
    rw [X0_copyFrom_L52] at hf
    refine lv_iload_n hx hb (dk hX0_copyFrom_0 33 rfl) rfl (lv_at hl 2 rfl) ?_
    refine lv_bipush (v := (7 : Int32)) hx hb (dk hX0_copyFrom_0 34 rfl) (by decide) ?_
    refine lv_icmp_ge (tgt := 112) hx hb (dk hX0_copyFrom_0 35 rfl) (by decide) (fun hc => ?_) (fun hc => ?_)
    · replace hf := ip hf hc
      exact hk _ _ _ _ hf _ _ hs _ (lv_sub hl [0, 1] rfl)
    · replace hf := in_ hf hc
      refine lv_aload_n hx hb (dk hX0_copyFrom_0 36 rfl) rfl (lv_at hl 0 rfl) ?_
      refine rg ui0 rfl C hs 8 rfl 3 (by decide) tw_46 rfl rfl (dk hX0_copyFrom_0 37 rfl) ?_
      refine lv_iload_n hx hb (dk hX0_copyFrom_0 38 rfl) rfl (lv_at hl 2 rfl) ?_
      refine lv_aload_n hx hb (dk hX0_copyFrom_0 39 rfl) rfl (lv_at hl 1 rfl) ?_
      refine rg ui0 rfl C hs 0 rfl 3 (by decide) tw_46 rfl rfl (dk hX0_copyFrom_1 0 rfl) ?_
      refine lv_iload_n hx hb (dk hX0_copyFrom_1 1 rfl) rfl (lv_at hl 2 rfl) ?_
      obtain ⟨v_16, e_17, hf⟩ := Option.bind_eq_some_iff.mp hf
      refine rild C hs 4 rfl e_17 (dk hX0_copyFrom_1 2 rfl) ?_
      obtain ⟨kind_18, e_19, hf⟩ := Option.bind_eq_some_iff.mp hf
      refine rist (w1 := (wOH G ado ad there used hidden kind_18 figure cargo load o_there o_used o_hidden o_kind o_figure o_cargo o_load ships inn coughs day o_ships o_inn o_coughs o_day)) C hs 12 rfl e_19 rfl (dk hX0_copyFrom_1 3 rfl) (fun H locs hs => ?_)
      refine lv_aload_n hx hb (dk hX0_copyFrom_1 4 rfl) rfl (lv_at hl 0 rfl) ?_
      refine rg ui0 rfl C hs 8 rfl 4 (by decide) tw_48 rfl rfl (dk hX0_copyFrom_1 5 rfl) ?_
      refine lv_iload_n hx hb (dk hX0_copyFrom_1 6 rfl) rfl (lv_at hl 2 rfl) ?_
      refine lv_aload_n hx hb (dk hX0_copyFrom_1 7 rfl) rfl (lv_at hl 1 rfl) ?_
      refine rg ui0 rfl C hs 0 rfl 4 (by decide) tw_48 rfl rfl (dk hX0_copyFrom_1 8 rfl) ?_
      refine lv_iload_n hx hb (dk hX0_copyFrom_1 9 rfl) rfl (lv_at hl 2 rfl) ?_
      obtain ⟨v_20, e_21, hf⟩ := Option.bind_eq_some_iff.mp hf
      refine rild C hs 5 rfl e_21 (dk hX0_copyFrom_1 10 rfl) ?_
      obtain ⟨figure_22, e_23, hf⟩ := Option.bind_eq_some_iff.mp hf
      refine rist (w1 := (wOH G ado ad there used hidden kind_18 figure_22 cargo load o_there o_used o_hidden o_kind o_figure o_cargo o_load ships inn coughs day o_ships o_inn o_coughs o_day)) C hs 13 rfl e_23 rfl (dk hX0_copyFrom_1 11 rfl) (fun H locs hs => ?_)
      refine lv_aload_n hx hb (dk hX0_copyFrom_1 12 rfl) rfl (lv_at hl 0 rfl) ?_
      refine rg ui0 rfl C hs 8 rfl 5 (by decide) tw_50 rfl rfl (dk hX0_copyFrom_1 13 rfl) ?_
      refine lv_iload_n hx hb (dk hX0_copyFrom_1 14 rfl) rfl (lv_at hl 2 rfl) ?_
      refine lv_aload_n hx hb (dk hX0_copyFrom_1 15 rfl) rfl (lv_at hl 1 rfl) ?_
      refine rg ui0 rfl C hs 0 rfl 5 (by decide) tw_50 rfl rfl (dk hX0_copyFrom_1 16 rfl) ?_
      refine lv_iload_n hx hb (dk hX0_copyFrom_1 17 rfl) rfl (lv_at hl 2 rfl) ?_
      obtain ⟨v_24, e_25, hf⟩ := Option.bind_eq_some_iff.mp hf
      refine rild C hs 6 rfl e_25 (dk hX0_copyFrom_1 18 rfl) ?_
      obtain ⟨cargo_26, e_27, hf⟩ := Option.bind_eq_some_iff.mp hf
      refine rist (w1 := (wOH G ado ad there used hidden kind_18 figure_22 cargo_26 load o_there o_used o_hidden o_kind o_figure o_cargo o_load ships inn coughs day o_ships o_inn o_coughs o_day)) C hs 14 rfl e_27 rfl (dk hX0_copyFrom_1 19 rfl) (fun H locs hs => ?_)
      refine lv_aload_n hx hb (dk hX0_copyFrom_1 20 rfl) rfl (lv_at hl 0 rfl) ?_
      refine rg ui0 rfl C hs 8 rfl 6 (by decide) tw_52 rfl rfl (dk hX0_copyFrom_1 21 rfl) ?_
      refine lv_iload_n hx hb (dk hX0_copyFrom_1 22 rfl) rfl (lv_at hl 2 rfl) ?_
      refine lv_aload_n hx hb (dk hX0_copyFrom_1 23 rfl) rfl (lv_at hl 1 rfl) ?_
      refine rg ui0 rfl C hs 0 rfl 6 (by decide) tw_52 rfl rfl (dk hX0_copyFrom_1 24 rfl) ?_
      refine lv_iload_n hx hb (dk hX0_copyFrom_1 25 rfl) rfl (lv_at hl 2 rfl) ?_
      obtain ⟨v_28, e_29, hf⟩ := Option.bind_eq_some_iff.mp hf
      refine rild C hs 7 rfl e_29 (dk hX0_copyFrom_1 26 rfl) ?_
      obtain ⟨load_30, e_31, hf⟩ := Option.bind_eq_some_iff.mp hf
      refine rist (w1 := (wOH G ado ad there used hidden kind_18 figure_22 cargo_26 load_30 o_there o_used o_hidden o_kind o_figure o_cargo o_load ships inn coughs day o_ships o_inn o_coughs o_day)) C hs 15 rfl e_31 rfl (dk hX0_copyFrom_1 27 rfl) (fun H locs hs => ?_)
      refine lv_iinc (v := (x2 + (1 : Int32))) (lv' := [(2, .int (x2 + (1 : Int32))), (0, .ref (ad 0)), (1, .ref (ado 0))]) hx hb (dk hX0_copyFrom_1 28 rfl) hl (k := 2) rfl (by first | rfl | decide) (by decide) rfl (fun ls hl => ?_)
      refine lv_goto (tgt := 52) hx hb (dk hX0_copyFrom_1 29 rfl) (by decide) ?_
      exact ih _ _ _ _ _ hf _ _ hs _ (lv_sub hl [1, 2, 0] rfl) hk
set_option maxRecDepth 100000 in
set_option maxHeartbeats 4000000 in
theorem c_X0_copyFrom__OH {l : Launch} {G : Gx} {ado ad : Nat → Nat} {there used hidden kind figure cargo load o_there o_used o_hidden o_kind o_figure o_cargo o_load : List Int32} {ships inn coughs day o_ships o_inn o_coughs o_day : Int32}  {out : List Int32 × List Int32 × List Int32 × List Int32 × List Int32 × List Int32 × List Int32 × Int32 × Int32 × Int32 × Int32} (hf : X0_copyFrom there used hidden kind figure cargo load o_there o_used o_hidden o_kind o_figure o_cargo o_load ships inn coughs day o_ships o_inn o_coughs o_day = some out) : Ct l G yX0_copyFrom cX0_copyFrom 3 (none) 0 0 [.ref (ad 0), .ref (ado 0)] (wOH G ado ad there used hidden kind figure cargo load o_there o_used o_hidden o_kind o_figure o_cargo o_load ships inn coughs day o_ships o_inn o_coughs o_day) (none) (wOH G ado ad out.1 out.2.1 out.2.2.1 out.2.2.2.1 out.2.2.2.2.1 out.2.2.2.2.2.1 out.2.2.2.2.2.2.1 o_there o_used o_hidden o_kind o_figure o_cargo o_load out.2.2.2.2.2.2.2.1 out.2.2.2.2.2.2.2.2.1 out.2.2.2.2.2.2.2.2.2.1 out.2.2.2.2.2.2.2.2.2.2 o_ships o_inn o_coughs o_day) := by
  refine Ct.intro RX0 rfl (plainFor_of_name (by decide)) (Nat.le_of_ble_eq_true rfl) rfl ?_
  intro p e s m args below meth c A C H locs hs ls hl
  obtain ⟨hx, hb, hml, hown, hts, hK, hret, hlk⟩ := id C
  have hl : lv_has ls 3 [(0, .ref (ad 0)), (1, .ref (ado 0))] := hl
  unfold X0_copyFrom at hf
  refine lv_iconst (v := (0 : Int32)) hx hb (dk hX0_copyFrom_0 0 rfl) (by decide) ?_
  refine lv_istore_n (lv' := [(2, .int (0 : Int32)), (0, .ref (ad 0)), (1, .ref (ado 0))]) hx hb (dk hX0_copyFrom_0 1 rfl) rfl hl (by decide) rfl (fun ls hl => ?_)
  refine l_X0_copyFrom__OH_L2 C 1000 _ _ _ _ hf _ _ hs _ (lv_sub hl [1, 2, 0] rfl) (fun there_13 used_14 hidden_15 hf H locs hs ls hl => ?_)
  refine lv_iconst (v := (0 : Int32)) hx hb (dk hX0_copyFrom_0 31 rfl) (by decide) ?_
  refine lv_istore_n (lv' := [(2, .int (0 : Int32)), (0, .ref (ad 0)), (1, .ref (ado 0))]) hx hb (dk hX0_copyFrom_0 32 rfl) rfl hl (by decide) rfl (fun ls hl => ?_)
  refine l_X0_copyFrom__OH_L52 C 1000 _ _ _ _ _ hf _ _ hs _ (lv_sub hl [1, 2, 0] rfl) (fun kind_32 figure_33 cargo_34 load_35 hf H locs hs ls hl => ?_)
  refine lv_aload_n hx hb (dk hX0_copyFrom_1 30 rfl) rfl (lv_at hl 0 rfl) ?_
  refine lv_aload_n hx hb (dk hX0_copyFrom_1 31 rfl) rfl (lv_at hl 1 rfl) ?_
  refine rg ui0 rfl C hs 0 rfl 7 (by decide) tw_54 rfl rfl (dk hX0_copyFrom_1 32 rfl) ?_
  refine rp (w1 := (wOH G ado ad there_13 used_14 hidden_15 kind_32 figure_33 cargo_34 load_35 o_there o_used o_hidden o_kind o_figure o_cargo o_load o_ships inn coughs day o_ships o_inn o_coughs o_day)) tyX0 tyX0_ok nmX0 ui0 rfl C hs 8 rfl 7 (by decide) tw_54 rfl rfl rfl rfl (Nat.le_of_ble_eq_true rfl) rfl (dk hX0_copyFrom_1 33 rfl) (fun H locs hs => ?_)
  refine lv_aload_n hx hb (dk hX0_copyFrom_1 34 rfl) rfl (lv_at hl 0 rfl) ?_
  refine lv_aload_n hx hb (dk hX0_copyFrom_1 35 rfl) rfl (lv_at hl 1 rfl) ?_
  refine rg ui0 rfl C hs 0 rfl 8 (by decide) tw_57 rfl rfl (dk hX0_copyFrom_1 36 rfl) ?_
  refine rp (w1 := (wOH G ado ad there_13 used_14 hidden_15 kind_32 figure_33 cargo_34 load_35 o_there o_used o_hidden o_kind o_figure o_cargo o_load o_ships o_inn coughs day o_ships o_inn o_coughs o_day)) tyX0 tyX0_ok nmX0 ui0 rfl C hs 8 rfl 8 (by decide) tw_57 rfl rfl rfl rfl (Nat.le_of_ble_eq_true rfl) rfl (dk hX0_copyFrom_1 37 rfl) (fun H locs hs => ?_)
  refine lv_aload_n hx hb (dk hX0_copyFrom_1 38 rfl) rfl (lv_at hl 0 rfl) ?_
  refine lv_aload_n hx hb (dk hX0_copyFrom_1 39 rfl) rfl (lv_at hl 1 rfl) ?_
  refine rg ui0 rfl C hs 0 rfl 9 (by decide) tw_59 rfl rfl (dk hX0_copyFrom_2 0 rfl) ?_
  refine rp (w1 := (wOH G ado ad there_13 used_14 hidden_15 kind_32 figure_33 cargo_34 load_35 o_there o_used o_hidden o_kind o_figure o_cargo o_load o_ships o_inn o_coughs day o_ships o_inn o_coughs o_day)) tyX0 tyX0_ok nmX0 ui0 rfl C hs 8 rfl 9 (by decide) tw_59 rfl rfl rfl rfl (Nat.le_of_ble_eq_true rfl) rfl (dk hX0_copyFrom_2 1 rfl) (fun H locs hs => ?_)
  refine lv_aload_n hx hb (dk hX0_copyFrom_2 2 rfl) rfl (lv_at hl 0 rfl) ?_
  refine lv_aload_n hx hb (dk hX0_copyFrom_2 3 rfl) rfl (lv_at hl 1 rfl) ?_
  refine rg ui0 rfl C hs 0 rfl 10 (by decide) tw_62 rfl rfl (dk hX0_copyFrom_2 4 rfl) ?_
  refine rp (w1 := (wOH G ado ad there_13 used_14 hidden_15 kind_32 figure_33 cargo_34 load_35 o_there o_used o_hidden o_kind o_figure o_cargo o_load o_ships o_inn o_coughs o_day o_ships o_inn o_coughs o_day)) tyX0 tyX0_ok nmX0 ui0 rfl C hs 8 rfl 10 (by decide) tw_62 rfl rfl rfl rfl (Nat.le_of_ble_eq_true rfl) rfl (dk hX0_copyFrom_2 5 rfl) (fun H locs hs => ?_)
  cases hf
  exact rv C hs (dk hX0_copyFrom_2 6 rfl)

