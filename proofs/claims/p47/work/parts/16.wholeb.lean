def X4_fewest_L48 (k : List Int32 → List Int32 → List Int32 → List Int32 → List Int32 → List Int32 → List Int32 → Int32 → Int32 → Int32 → Int32 → Option (List Int32 × List Int32 × List Int32 × List Int32 × List Int32 × List Int32 × List Int32 × List Int32 × Int32 × Int32 × Int32 × Int32 × Int32)) (refusals : List Int32) (n_there : List Int32) (n_used : List Int32) (n_hidden : List Int32) (n_kind : List Int32) (n_figure : List Int32) (n_cargo : List Int32) (n_load : List Int32) (n_ships : Int32) (n_inn : Int32) (n_coughs : Int32) (n_day : Int32) (x1 : Int32) (x2 : Int32) (x4 : Int32) : Nat → Int32 → List Int32 → List Int32 → List Int32 → List Int32 → List Int32 → List Int32 → List Int32 → Int32 → Int32 → Int32 → Int32 → Option (List Int32 × List Int32 × List Int32 × List Int32 × List Int32 × List Int32 × List Int32 × List Int32 × Int32 × Int32 × Int32 × Int32 × Int32)
  | 0, _, _, _, _, _, _, _, _, _, _, _, _ => none
  | n + 1, x5, m_there, m_used, m_hidden, m_kind, m_figure, m_cargo, m_load, m_ships, m_inn, m_coughs, m_day =>
  if (64 : Int32) ≤ x5 then
  k m_there m_used m_hidden m_kind m_figure m_cargo m_load m_ships m_inn m_coughs m_day
  else
  (J6_bitCount_0f7a4 x5).bind fun u_5 =>
  if u_5 = x4 then
  (X4_isInWithout m_there m_used m_hidden m_kind m_figure m_cargo m_load n_there n_used n_hidden n_kind n_figure n_cargo n_load m_ships m_inn m_coughs m_day n_ships n_inn n_coughs n_day x5 x1 x2).bind fun u_7 =>
  if u_7.2.2.2.2.2.2.2.2.2.2.2 = (0 : Int32) then
  X4_fewest_L48 k refusals n_there n_used n_hidden n_kind n_figure n_cargo n_load n_ships n_inn n_coughs n_day x1 x2 x4 n (x5 + (1 : Int32)) u_7.1 u_7.2.1 u_7.2.2.1 u_7.2.2.2.1 u_7.2.2.2.2.1 u_7.2.2.2.2.2.1 u_7.2.2.2.2.2.2.1 u_7.2.2.2.2.2.2.2.1 u_7.2.2.2.2.2.2.2.2.1 u_7.2.2.2.2.2.2.2.2.2.1 u_7.2.2.2.2.2.2.2.2.2.2.1
  else
  some (refusals, u_7.1, u_7.2.1, u_7.2.2.1, u_7.2.2.2.1, u_7.2.2.2.2.1, u_7.2.2.2.2.2.1, u_7.2.2.2.2.2.2.1, u_7.2.2.2.2.2.2.2.1, u_7.2.2.2.2.2.2.2.2.1, u_7.2.2.2.2.2.2.2.2.2.1, u_7.2.2.2.2.2.2.2.2.2.2.1, x5)
  else
  X4_fewest_L48 k refusals n_there n_used n_hidden n_kind n_figure n_cargo n_load n_ships n_inn n_coughs n_day x1 x2 x4 n (x5 + (1 : Int32)) m_there m_used m_hidden m_kind m_figure m_cargo m_load m_ships m_inn m_coughs m_day
def X4_fewest_L38 (k : List Int32 → List Int32 → List Int32 → List Int32 → List Int32 → List Int32 → List Int32 → Int32 → Int32 → Int32 → Int32 → Option (List Int32 × List Int32 × List Int32 × List Int32 × List Int32 × List Int32 × List Int32 × List Int32 × Int32 × Int32 × Int32 × Int32 × Int32)) (refusals : List Int32) (n_there : List Int32) (n_used : List Int32) (n_hidden : List Int32) (n_kind : List Int32) (n_figure : List Int32) (n_cargo : List Int32) (n_load : List Int32) (n_ships : Int32) (n_inn : Int32) (n_coughs : Int32) (n_day : Int32) (x1 : Int32) (x2 : Int32) : Nat → Int32 → List Int32 → List Int32 → List Int32 → List Int32 → List Int32 → List Int32 → List Int32 → Int32 → Int32 → Int32 → Int32 → Option (List Int32 × List Int32 × List Int32 × List Int32 × List Int32 × List Int32 × List Int32 × List Int32 × Int32 × Int32 × Int32 × Int32 × Int32)
  | 0, _, _, _, _, _, _, _, _, _, _, _, _ => none
  | n + 1, x4, m_there, m_used, m_hidden, m_kind, m_figure, m_cargo, m_load, m_ships, m_inn, m_coughs, m_day =>
  if (6 : Int32) < x4 then
  k m_there m_used m_hidden m_kind m_figure m_cargo m_load m_ships m_inn m_coughs m_day
  else
  X4_fewest_L48 (fun m_there_9 m_used_10 m_hidden_11 m_kind_12 m_figure_13 m_cargo_14 m_load_15 m_ships_16 m_inn_17 m_coughs_18 m_day_19 =>
  X4_fewest_L38 k refusals n_there n_used n_hidden n_kind n_figure n_cargo n_load n_ships n_inn n_coughs n_day x1 x2 n (x4 + (1 : Int32)) m_there_9 m_used_10 m_hidden_11 m_kind_12 m_figure_13 m_cargo_14 m_load_15 m_ships_16 m_inn_17 m_coughs_18 m_day_19) refusals n_there n_used n_hidden n_kind n_figure n_cargo n_load n_ships n_inn n_coughs n_day x1 x2 x4 1000 (0 : Int32) m_there m_used m_hidden m_kind m_figure m_cargo m_load m_ships m_inn m_coughs m_day
def X4_fewest (refusals : List Int32) (m_there : List Int32) (m_used : List Int32) (m_hidden : List Int32) (m_kind : List Int32) (m_figure : List Int32) (m_cargo : List Int32) (m_load : List Int32) (n_there : List Int32) (n_used : List Int32) (n_hidden : List Int32) (n_kind : List Int32) (n_figure : List Int32) (n_cargo : List Int32) (n_load : List Int32) (m_ships : Int32) (m_inn : Int32) (m_coughs : Int32) (m_day : Int32) (n_ships : Int32) (n_inn : Int32) (n_coughs : Int32) (n_day : Int32) (p0 : Int32) (p1 : Int32) : Option (List Int32 × List Int32 × List Int32 × List Int32 × List Int32 × List Int32 × List Int32 × List Int32 × Int32 × Int32 × Int32 × Int32 × Int32) :=
  (X0_isShip n_ships p0).bind fun u_1 =>
  if u_1 = (0 : Int32) then
  (X4_refuse refusals (-1 : Int32)).bind fun u_33 =>
  some (u_33.1, m_there, m_used, m_hidden, m_kind, m_figure, m_cargo, m_load, m_ships, m_inn, m_coughs, m_day, u_33.2)
  else
  (X4_misfit p1 (1 : Int32) (60 : Int32)).bind fun u_3 =>
  if u_3 = (0 : Int32) then
  X4_fewest_L38 (fun m_there_20 m_used_21 m_hidden_22 m_kind_23 m_figure_24 m_cargo_25 m_load_26 m_ships_27 m_inn_28 m_coughs_29 m_day_30 =>
  some (refusals, m_there_20, m_used_21, m_hidden_22, m_kind_23, m_figure_24, m_cargo_25, m_load_26, m_ships_27, m_inn_28, m_coughs_29, m_day_30, (-9 : Int32))) refusals n_there n_used n_hidden n_kind n_figure n_cargo n_load n_ships n_inn n_coughs n_day p0 p1 1000 (0 : Int32) m_there m_used m_hidden m_kind m_figure m_cargo m_load m_ships m_inn m_coughs m_day
  else
  (X4_refuse refusals u_3).bind fun u_31 =>
  some (u_31.1, m_there, m_used, m_hidden, m_kind, m_figure, m_cargo, m_load, m_ships, m_inn, m_coughs, m_day, u_31.2)
set_option maxRecDepth 100000 in
set_option maxHeartbeats 4000000 in
theorem l_X4_fewest_L48 {l : Launch} {p : Program} {e : Env} {s : State} {m : MethodId} {args : Array Value} {below : List Frame} {meth : Method} {c : Code} {A : Nat → Prop} {G : Gx} {ad adt adb ade adm adn adk adp : Nat → Nat} {adr : Nat → Nat → Nat} {refusals tcells lcells n_there n_used n_hidden n_kind n_figure n_cargo n_load k_there k_used k_hidden k_kind k_figure k_cargo k_load : List Int32} {isKept tlen llen n_ships n_inn n_coughs n_day k_ships k_inn k_coughs k_day held : Int32} {perm : Nat → Nat} {hist : Nat → Hs} {x1 : Int32} {x2 : Int32} {x4 : Int32} {k : List Int32 → List Int32 → List Int32 → List Int32 → List Int32 → List Int32 → List Int32 → Int32 → Int32 → Int32 → Int32 → Option (List Int32 × List Int32 × List Int32 × List Int32 × List Int32 × List Int32 × List Int32 × List Int32 × Int32 × Int32 × Int32 × Int32 × Int32)} {out : List Int32 × List Int32 × List Int32 × List Int32 × List Int32 × List Int32 × List Int32 × List Int32 × Int32 × Int32 × Int32 × Int32 × Int32} (C : Cx p s m args meth c cX4_fewest RX4 6 (some .int) G) : ∀ (n : Nat) (x5 : Int32) (m_there : List Int32) (m_used : List Int32) (m_hidden : List Int32) (m_kind : List Int32) (m_figure : List Int32) (m_cargo : List Int32) (m_load : List Int32) (m_ships : Int32) (m_inn : Int32) (m_coughs : Int32) (m_day : Int32), X4_fewest_L48 k refusals n_there n_used n_hidden n_kind n_figure n_cargo n_load n_ships n_inn n_coughs n_day x1 x2 x4 n x5 m_there m_used m_hidden m_kind m_figure m_cargo m_load m_ships m_inn m_coughs m_day = some out → ∀ (H : Heap) (locs : List Loc), St G A s.heap H locs (wT G ad adt adb ade adm adn adk adp adr refusals tcells lcells m_there m_used m_hidden m_kind m_figure m_cargo m_load n_there n_used n_hidden n_kind n_figure n_cargo n_load k_there k_used k_hidden k_kind k_figure k_cargo k_load isKept tlen llen m_ships m_inn m_coughs m_day n_ships n_inn n_coughs n_day k_ships k_inn k_coughs k_day held perm hist) → ∀ ls : Array Slot, lv_has ls 6 [(0, .ref (ad 0)), (1, .int x1), (2, .int x2), (4, .int x4), (5, .int x5)] → (∀ (z_m_there : List Int32) (z_m_used : List Int32) (z_m_hidden : List Int32) (z_m_kind : List Int32) (z_m_figure : List Int32) (z_m_cargo : List Int32) (z_m_load : List Int32) (z_m_ships : Int32) (z_m_inn : Int32) (z_m_coughs : Int32) (z_m_day : Int32), k z_m_there z_m_used z_m_hidden z_m_kind z_m_figure z_m_cargo z_m_load z_m_ships z_m_inn z_m_coughs z_m_day = some out → ∀ (H : Heap) (locs : List Loc), St G A s.heap H locs (wT G ad adt adb ade adm adn adk adp adr refusals tcells lcells z_m_there z_m_used z_m_hidden z_m_kind z_m_figure z_m_cargo z_m_load n_there n_used n_hidden n_kind n_figure n_cargo n_load k_there k_used k_hidden k_kind k_figure k_cargo k_load isKept tlen llen z_m_ships z_m_inn z_m_coughs z_m_day n_ships n_inn n_coughs n_day k_ships k_inn k_coughs k_day held perm hist) → ∀ ls : Array Slot, lv_has ls 6 [(0, .ref (ad 0)), (1, .int x1), (2, .int x2), (4, .int x4)] → W p l e (rmOf 6 137) s m args below meth c H locs 0 0 (MQ below (Qof G A (some (.int out.2.2.2.2.2.2.2.2.2.2.2.2)) (wT G ad adt adb ade adm adn adk adp adr out.1 tcells lcells out.2.1 out.2.2.1 out.2.2.2.1 out.2.2.2.2.1 out.2.2.2.2.2.1 out.2.2.2.2.2.2.1 out.2.2.2.2.2.2.2.1 n_there n_used n_hidden n_kind n_figure n_cargo n_load k_there k_used k_hidden k_kind k_figure k_cargo k_load isKept tlen llen out.2.2.2.2.2.2.2.2.1 out.2.2.2.2.2.2.2.2.2.1 out.2.2.2.2.2.2.2.2.2.2.1 out.2.2.2.2.2.2.2.2.2.2.2.1 n_ships n_inn n_coughs n_day k_ships k_inn k_coughs k_day held perm hist)) args s 0 0 A) (F0 m 85 ls [])) → W p l e (rmOf 6 137) s m args below meth c H locs 0 0 (MQ below (Qof G A (some (.int out.2.2.2.2.2.2.2.2.2.2.2.2)) (wT G ad adt adb ade adm adn adk adp adr out.1 tcells lcells out.2.1 out.2.2.1 out.2.2.2.1 out.2.2.2.2.1 out.2.2.2.2.2.1 out.2.2.2.2.2.2.1 out.2.2.2.2.2.2.2.1 n_there n_used n_hidden n_kind n_figure n_cargo n_load k_there k_used k_hidden k_kind k_figure k_cargo k_load isKept tlen llen out.2.2.2.2.2.2.2.2.1 out.2.2.2.2.2.2.2.2.2.1 out.2.2.2.2.2.2.2.2.2.2.1 out.2.2.2.2.2.2.2.2.2.2.2.1 n_ships n_inn n_coughs n_day k_ships k_inn k_coughs k_day held perm hist)) args s 0 0 A) (F0 m 48 ls []) := by
  obtain ⟨hx, hb, hml, hown, hts, hK, hret, hlk⟩ := id C
  intro n
  induction n with
  | zero => intro x5 m_there m_used m_hidden m_kind m_figure m_cargo m_load m_ships m_inn m_coughs m_day hf; cases hf
  | succ n ih =>
    intro x5 m_there m_used m_hidden m_kind m_figure m_cargo m_load m_ships m_inn m_coughs m_day hf H locs hs ls hl hk
    rw [X4_fewest_L48] at hf
    refine lv_iload hx hb (dk hX4_fewest_0 27 rfl) (lv_at hl 4 rfl) ?_
    refine lv_bipush (v := (64 : Int32)) hx hb (dk hX4_fewest_0 28 rfl) (by decide) ?_
    refine lv_icmp_ge (tgt := 85) hx hb (dk hX4_fewest_0 29 rfl) (by decide) (fun hc => ?_) (fun hc => ?_)
    · replace hf := ip hf hc
      exact hk _ _ _ _ _ _ _ _ _ _ _ hf _ _ hs _ (lv_sub hl [0, 1, 2, 3] rfl)
    · replace hf := in_ hf hc
      refine lv_iload hx hb (dk hX4_fewest_0 30 rfl) (lv_at hl 4 rfl) ?_
      obtain ⟨u_5, e_6, hf⟩ := Option.bind_eq_some_iff.mp hf
      refine Ct.S (As := [.int x5]) (rest := []) (st1 := [.int u_5]) (w1 := (wT G ad adt adb ade adm adn adk adp adr refusals tcells lcells m_there m_used m_hidden m_kind m_figure m_cargo m_load n_there n_used n_hidden n_kind n_figure n_cargo n_load k_there k_used k_hidden k_kind k_figure k_cargo k_load isKept tlen llen m_ships m_inn m_coughs m_day n_ships n_inn n_coughs n_day k_ships k_inn k_coughs k_day held perm hist)) C hs (c_J6_bitCount_0f7a4 e_6) tw_290 tw_291 tw_23 tw_292 nq_J6_bitCount_0f7a4 (by decide) rfl hl.1 rfl (Nat.le_of_ble_eq_true rfl) (dk hX4_fewest_0 31 rfl) ⟨Nat.zero_le _, Nat.zero_le _⟩ rfl (fun H locs hs => ?_)
      refine lv_iload hx hb (dk hX4_fewest_0 32 rfl) (lv_at hl 3 rfl) ?_
      refine lv_icmp_ne (tgt := 79) hx hb (dk hX4_fewest_0 33 rfl) (by decide) (fun hc => ?_) (fun hc => ?_)
      · replace hf := in_ hf hc
        refine lv_iinc (v := (x5 + (1 : Int32))) (lv' := [(5, .int (x5 + (1 : Int32))), (0, .ref (ad 0)), (1, .int x1), (2, .int x2), (4, .int x4)]) hx hb (dk hX4_fewest_1 2 rfl) hl (k := 4) rfl (by first | rfl | decide) (by decide) rfl (fun ls hl => ?_)
        refine lv_goto (tgt := 48) hx hb (dk hX4_fewest_1 3 rfl) (by decide) ?_
        exact ih _ _ _ _ _ _ _ _ _ _ _ _ hf _ _ hs _ (lv_sub hl [1, 2, 3, 4, 0] rfl) hk
      · replace hf := ip hf hc
        refine lv_aload_n hx hb (dk hX4_fewest_0 34 rfl) rfl (lv_at hl 0 rfl) ?_
        refine lv_iload hx hb (dk hX4_fewest_0 35 rfl) (lv_at hl 4 rfl) ?_
        refine lv_iload_n hx hb (dk hX4_fewest_0 36 rfl) rfl (lv_at hl 1 rfl) ?_
        refine lv_iload_n hx hb (dk hX4_fewest_0 37 rfl) rfl (lv_at hl 2 rfl) ?_
        obtain ⟨u_7, e_8, hf⟩ := Option.bind_eq_some_iff.mp hf
        refine Ct.V (As := [.int x5, .int x1, .int x2]) (rest := []) (st1 := [.int u_7.2.2.2.2.2.2.2.2.2.2.2]) (w1 := (wT G ad adt adb ade adm adn adk adp adr refusals tcells lcells u_7.1 u_7.2.1 u_7.2.2.1 u_7.2.2.2.1 u_7.2.2.2.2.1 u_7.2.2.2.2.2.1 u_7.2.2.2.2.2.2.1 n_there n_used n_hidden n_kind n_figure n_cargo n_load k_there k_used k_hidden k_kind k_figure k_cargo k_load isKept tlen llen u_7.2.2.2.2.2.2.2.1 u_7.2.2.2.2.2.2.2.2.1 u_7.2.2.2.2.2.2.2.2.2.1 u_7.2.2.2.2.2.2.2.2.2.2.1 n_ships n_inn n_coughs n_day k_ships k_inn k_coughs k_day held perm hist)) C hs (c_X4_isInWithout e_8) tw_362 tw_364 tw_8 tw_17 tw_365 nq_X4_isInWithout (by decide) 0 4 rfl rfl rfl rfl hl.1 rfl (Nat.le_of_ble_eq_true rfl) (dk hX4_fewest_0 38 rfl) ⟨Nat.zero_le _, Nat.zero_le _⟩ rfl (fun H locs hs => ?_)
        refine lv_if_eq (tgt := 79) hx hb (dk hX4_fewest_0 39 rfl) (by decide) (fun hc => ?_) (fun hc => ?_)
        · replace hf := ip hf hc
          refine lv_iinc (v := (x5 + (1 : Int32))) (lv' := [(5, .int (x5 + (1 : Int32))), (0, .ref (ad 0)), (1, .int x1), (2, .int x2), (4, .int x4)]) hx hb (dk hX4_fewest_1 2 rfl) hl (k := 4) rfl (by first | rfl | decide) (by decide) rfl (fun ls hl => ?_)
          refine lv_goto (tgt := 48) hx hb (dk hX4_fewest_1 3 rfl) (by decide) ?_
          exact ih _ _ _ _ _ _ _ _ _ _ _ _ hf _ _ hs _ (lv_sub hl [1, 2, 3, 4, 0] rfl) hk
        · replace hf := in_ hf hc
          refine lv_iload hx hb (dk hX4_fewest_1 0 rfl) (lv_at hl 4 rfl) ?_
          cases hf
          exact ri C hs (dk hX4_fewest_1 1 rfl)
set_option maxRecDepth 100000 in
set_option maxHeartbeats 4000000 in
theorem l_X4_fewest_L38 {l : Launch} {p : Program} {e : Env} {s : State} {m : MethodId} {args : Array Value} {below : List Frame} {meth : Method} {c : Code} {A : Nat → Prop} {G : Gx} {ad adt adb ade adm adn adk adp : Nat → Nat} {adr : Nat → Nat → Nat} {refusals tcells lcells n_there n_used n_hidden n_kind n_figure n_cargo n_load k_there k_used k_hidden k_kind k_figure k_cargo k_load : List Int32} {isKept tlen llen n_ships n_inn n_coughs n_day k_ships k_inn k_coughs k_day held : Int32} {perm : Nat → Nat} {hist : Nat → Hs} {x1 : Int32} {x2 : Int32} {k : List Int32 → List Int32 → List Int32 → List Int32 → List Int32 → List Int32 → List Int32 → Int32 → Int32 → Int32 → Int32 → Option (List Int32 × List Int32 × List Int32 × List Int32 × List Int32 × List Int32 × List Int32 × List Int32 × Int32 × Int32 × Int32 × Int32 × Int32)} {out : List Int32 × List Int32 × List Int32 × List Int32 × List Int32 × List Int32 × List Int32 × List Int32 × Int32 × Int32 × Int32 × Int32 × Int32} (C : Cx p s m args meth c cX4_fewest RX4 6 (some .int) G) : ∀ (n : Nat) (x4 : Int32) (m_there : List Int32) (m_used : List Int32) (m_hidden : List Int32) (m_kind : List Int32) (m_figure : List Int32) (m_cargo : List Int32) (m_load : List Int32) (m_ships : Int32) (m_inn : Int32) (m_coughs : Int32) (m_day : Int32), X4_fewest_L38 k refusals n_there n_used n_hidden n_kind n_figure n_cargo n_load n_ships n_inn n_coughs n_day x1 x2 n x4 m_there m_used m_hidden m_kind m_figure m_cargo m_load m_ships m_inn m_coughs m_day = some out → ∀ (H : Heap) (locs : List Loc), St G A s.heap H locs (wT G ad adt adb ade adm adn adk adp adr refusals tcells lcells m_there m_used m_hidden m_kind m_figure m_cargo m_load n_there n_used n_hidden n_kind n_figure n_cargo n_load k_there k_used k_hidden k_kind k_figure k_cargo k_load isKept tlen llen m_ships m_inn m_coughs m_day n_ships n_inn n_coughs n_day k_ships k_inn k_coughs k_day held perm hist) → ∀ ls : Array Slot, lv_has ls 6 [(0, .ref (ad 0)), (1, .int x1), (2, .int x2), (4, .int x4)] → (∀ (z_m_there : List Int32) (z_m_used : List Int32) (z_m_hidden : List Int32) (z_m_kind : List Int32) (z_m_figure : List Int32) (z_m_cargo : List Int32) (z_m_load : List Int32) (z_m_ships : Int32) (z_m_inn : Int32) (z_m_coughs : Int32) (z_m_day : Int32), k z_m_there z_m_used z_m_hidden z_m_kind z_m_figure z_m_cargo z_m_load z_m_ships z_m_inn z_m_coughs z_m_day = some out → ∀ (H : Heap) (locs : List Loc), St G A s.heap H locs (wT G ad adt adb ade adm adn adk adp adr refusals tcells lcells z_m_there z_m_used z_m_hidden z_m_kind z_m_figure z_m_cargo z_m_load n_there n_used n_hidden n_kind n_figure n_cargo n_load k_there k_used k_hidden k_kind k_figure k_cargo k_load isKept tlen llen z_m_ships z_m_inn z_m_coughs z_m_day n_ships n_inn n_coughs n_day k_ships k_inn k_coughs k_day held perm hist) → ∀ ls : Array Slot, lv_has ls 6 [] → W p l e (rmOf 6 137) s m args below meth c H locs 0 0 (MQ below (Qof G A (some (.int out.2.2.2.2.2.2.2.2.2.2.2.2)) (wT G ad adt adb ade adm adn adk adp adr out.1 tcells lcells out.2.1 out.2.2.1 out.2.2.2.1 out.2.2.2.2.1 out.2.2.2.2.2.1 out.2.2.2.2.2.2.1 out.2.2.2.2.2.2.2.1 n_there n_used n_hidden n_kind n_figure n_cargo n_load k_there k_used k_hidden k_kind k_figure k_cargo k_load isKept tlen llen out.2.2.2.2.2.2.2.2.1 out.2.2.2.2.2.2.2.2.2.1 out.2.2.2.2.2.2.2.2.2.2.1 out.2.2.2.2.2.2.2.2.2.2.2.1 n_ships n_inn n_coughs n_day k_ships k_inn k_coughs k_day held perm hist)) args s 0 0 A) (F0 m 91 ls [])) → W p l e (rmOf 6 137) s m args below meth c H locs 0 0 (MQ below (Qof G A (some (.int out.2.2.2.2.2.2.2.2.2.2.2.2)) (wT G ad adt adb ade adm adn adk adp adr out.1 tcells lcells out.2.1 out.2.2.1 out.2.2.2.1 out.2.2.2.2.1 out.2.2.2.2.2.1 out.2.2.2.2.2.2.1 out.2.2.2.2.2.2.2.1 n_there n_used n_hidden n_kind n_figure n_cargo n_load k_there k_used k_hidden k_kind k_figure k_cargo k_load isKept tlen llen out.2.2.2.2.2.2.2.2.1 out.2.2.2.2.2.2.2.2.2.1 out.2.2.2.2.2.2.2.2.2.2.1 out.2.2.2.2.2.2.2.2.2.2.2.1 n_ships n_inn n_coughs n_day k_ships k_inn k_coughs k_day held perm hist)) args s 0 0 A) (F0 m 38 ls []) := by
  obtain ⟨hx, hb, hml, hown, hts, hK, hret, hlk⟩ := id C
  intro n
  induction n with
  | zero => intro x4 m_there m_used m_hidden m_kind m_figure m_cargo m_load m_ships m_inn m_coughs m_day hf; cases hf
  | succ n ih =>
    intro x4 m_there m_used m_hidden m_kind m_figure m_cargo m_load m_ships m_inn m_coughs m_day hf H locs hs ls hl hk
    rw [X4_fewest_L38] at hf
    refine lv_iload hx hb (dk hX4_fewest_0 22 rfl) (lv_at hl 3 rfl) ?_
    refine lv_bipush (v := (6 : Int32)) hx hb (dk hX4_fewest_0 23 rfl) (by decide) ?_
    refine lv_icmp_gt (tgt := 91) hx hb (dk hX4_fewest_0 24 rfl) (by decide) (fun hc => ?_) (fun hc => ?_)
    · replace hf := ip hf hc
      exact hk _ _ _ _ _ _ _ _ _ _ _ hf _ _ hs _ (lv_sub hl [] rfl)
    · replace hf := in_ hf hc
      refine lv_iconst (v := (0 : Int32)) hx hb (dk hX4_fewest_0 25 rfl) (by decide) ?_
      refine lv_istore (lv' := [(5, .int (0 : Int32)), (0, .ref (ad 0)), (1, .int x1), (2, .int x2), (4, .int x4)]) hx hb (dk hX4_fewest_0 26 rfl) hl (by decide) rfl (fun ls hl => ?_)
      refine l_X4_fewest_L48 C 1000 _ _ _ _ _ _ _ _ _ _ _ _ hf _ _ hs _ (lv_sub hl [1, 2, 3, 4, 0] rfl) (fun m_there_9 m_used_10 m_hidden_11 m_kind_12 m_figure_13 m_cargo_14 m_load_15 m_ships_16 m_inn_17 m_coughs_18 m_day_19 hf H locs hs ls hl => ?_)
      refine lv_iinc (v := (x4 + (1 : Int32))) (lv' := [(4, .int (x4 + (1 : Int32))), (0, .ref (ad 0)), (1, .int x1), (2, .int x2)]) hx hb (dk hX4_fewest_1 4 rfl) hl (k := 3) rfl (by first | rfl | decide) (by decide) rfl (fun ls hl => ?_)
      refine lv_goto (tgt := 38) hx hb (dk hX4_fewest_1 5 rfl) (by decide) ?_
      exact ih _ _ _ _ _ _ _ _ _ _ _ _ hf _ _ hs _ (lv_sub hl [1, 2, 3, 0] rfl) hk
set_option maxRecDepth 100000 in
set_option maxHeartbeats 4000000 in
theorem c_X4_fewest {l : Launch} {G : Gx} {ad adt adb ade adm adn adk adp : Nat → Nat} {adr : Nat → Nat → Nat} {refusals tcells lcells m_there m_used m_hidden m_kind m_figure m_cargo m_load n_there n_used n_hidden n_kind n_figure n_cargo n_load k_there k_used k_hidden k_kind k_figure k_cargo k_load : List Int32} {isKept tlen llen m_ships m_inn m_coughs m_day n_ships n_inn n_coughs n_day k_ships k_inn k_coughs k_day held : Int32} {perm : Nat → Nat} {hist : Nat → Hs} {p0 : Int32} {p1 : Int32} {out : List Int32 × List Int32 × List Int32 × List Int32 × List Int32 × List Int32 × List Int32 × List Int32 × Int32 × Int32 × Int32 × Int32 × Int32} (hf : X4_fewest refusals m_there m_used m_hidden m_kind m_figure m_cargo m_load n_there n_used n_hidden n_kind n_figure n_cargo n_load m_ships m_inn m_coughs m_day n_ships n_inn n_coughs n_day p0 p1 = some out) : Ct l G yX4_fewest cX4_fewest 6 (some .int) 6 137 [.ref (ad 0), .int p0, .int p1] (wT G ad adt adb ade adm adn adk adp adr refusals tcells lcells m_there m_used m_hidden m_kind m_figure m_cargo m_load n_there n_used n_hidden n_kind n_figure n_cargo n_load k_there k_used k_hidden k_kind k_figure k_cargo k_load isKept tlen llen m_ships m_inn m_coughs m_day n_ships n_inn n_coughs n_day k_ships k_inn k_coughs k_day held perm hist) (some (.int out.2.2.2.2.2.2.2.2.2.2.2.2)) (wT G ad adt adb ade adm adn adk adp adr out.1 tcells lcells out.2.1 out.2.2.1 out.2.2.2.1 out.2.2.2.2.1 out.2.2.2.2.2.1 out.2.2.2.2.2.2.1 out.2.2.2.2.2.2.2.1 n_there n_used n_hidden n_kind n_figure n_cargo n_load k_there k_used k_hidden k_kind k_figure k_cargo k_load isKept tlen llen out.2.2.2.2.2.2.2.2.1 out.2.2.2.2.2.2.2.2.2.1 out.2.2.2.2.2.2.2.2.2.2.1 out.2.2.2.2.2.2.2.2.2.2.2.1 n_ships n_inn n_coughs n_day k_ships k_inn k_coughs k_day held perm hist) := by
  refine Ct.intro RX4 rfl (plainFor_of_name (by decide)) (Nat.le_of_ble_eq_true rfl) rfl ?_
  intro p e s m args below meth c A C H locs hs ls hl
  obtain ⟨hx, hb, hml, hown, hts, hK, hret, hlk⟩ := id C
  have hl : lv_has ls 6 [(0, .ref (ad 0)), (1, .int p0), (2, .int p1)] := hl
  unfold X4_fewest at hf
  refine lv_aload_n hx hb (dk hX4_fewest_0 0 rfl) rfl (lv_at hl 0 rfl) ?_
  refine rg ui4 rfl C hs 0 rfl 0 (by decide) tw_134 rfl rfl (dk hX4_fewest_0 1 rfl) ?_
  refine lv_iload_n hx hb (dk hX4_fewest_0 2 rfl) rfl (lv_at hl 1 rfl) ?_
  obtain ⟨u_1, e_2, hf⟩ := Option.bind_eq_some_iff.mp hf
  refine Ct.V (As := [.int p0]) (rest := []) (st1 := [.int u_1]) (w1 := (wT G ad adt adb ade adm adn adk adp adr refusals tcells lcells m_there m_used m_hidden m_kind m_figure m_cargo m_load n_there n_used n_hidden n_kind n_figure n_cargo n_load k_there k_used k_hidden k_kind k_figure k_cargo k_load isKept tlen llen m_ships m_inn m_coughs m_day n_ships n_inn n_coughs n_day k_ships k_inn k_coughs k_day held perm hist)) C hs (c_X0_isShip__now e_2) tw_178 tw_179 tw_180 tw_18 tw_181 nq_X0_isShip (by decide) 15 0 rfl rfl rfl rfl hl.1 rfl (Nat.le_of_ble_eq_true rfl) (dk hX4_fewest_0 3 rfl) ⟨Nat.zero_le _, Nat.zero_le _⟩ rfl (fun H locs hs => ?_)
  refine lv_if_ne (tgt := 17) hx hb (dk hX4_fewest_0 4 rfl) (by decide) (fun hc => ?_) (fun hc => ?_)
  · replace hf := in_ hf hc
    refine lv_iload_n hx hb (dk hX4_fewest_0 9 rfl) rfl (lv_at hl 2 rfl) ?_
    refine lv_iconst (v := (1 : Int32)) hx hb (dk hX4_fewest_0 10 rfl) (by decide) ?_
    refine lv_bipush (v := (60 : Int32)) hx hb (dk hX4_fewest_0 11 rfl) (by decide) ?_
    obtain ⟨u_3, e_4, hf⟩ := Option.bind_eq_some_iff.mp hf
    refine Ct.S (As := [.int p1, .int (1 : Int32), .int (60 : Int32)]) (rest := []) (st1 := [.int u_3]) (w1 := (wT G ad adt adb ade adm adn adk adp adr refusals tcells lcells m_there m_used m_hidden m_kind m_figure m_cargo m_load n_there n_used n_hidden n_kind n_figure n_cargo n_load k_there k_used k_hidden k_kind k_figure k_cargo k_load isKept tlen llen m_ships m_inn m_coughs m_day n_ships n_inn n_coughs n_day k_ships k_inn k_coughs k_day held perm hist)) C hs (c_X4_misfit e_4) tw_224 tw_225 tw_17 tw_226 nq_X4_misfit (by decide) rfl hl.1 rfl (Nat.le_of_ble_eq_true rfl) (dk hX4_fewest_0 12 rfl) ⟨Nat.zero_le _, Nat.zero_le _⟩ rfl (fun H locs hs => ?_)
    refine lv_istore_n (lv' := [(3, .int u_3), (0, .ref (ad 0)), (1, .int p0), (2, .int p1)]) hx hb (dk hX4_fewest_0 13 rfl) rfl hl (by decide) rfl (fun ls hl => ?_)
    refine lv_iload_n hx hb (dk hX4_fewest_0 14 rfl) rfl (lv_at hl 0 rfl) ?_
    refine lv_if_eq (tgt := 35) hx hb (dk hX4_fewest_0 15 rfl) (by decide) (fun hc => ?_) (fun hc => ?_)
    · replace hf := ip hf hc
      refine lv_iconst (v := (0 : Int32)) hx hb (dk hX4_fewest_0 20 rfl) (by decide) ?_
      refine lv_istore (lv' := [(4, .int (0 : Int32)), (3, .int u_3), (0, .ref (ad 0)), (1, .int p0), (2, .int p1)]) hx hb (dk hX4_fewest_0 21 rfl) hl (by decide) rfl (fun ls hl => ?_)
      refine l_X4_fewest_L38 C 1000 _ _ _ _ _ _ _ _ _ _ _ _ hf _ _ hs _ (lv_sub hl [2, 3, 4, 0] rfl) (fun m_there_20 m_used_21 m_hidden_22 m_kind_23 m_figure_24 m_cargo_25 m_load_26 m_ships_27 m_inn_28 m_coughs_29 m_day_30 hf H locs hs ls hl => ?_)
      refine lv_bipush (v := (-9 : Int32)) hx hb (dk hX4_fewest_1 6 rfl) (by decide) ?_
      cases hf
      exact ri C hs (dk hX4_fewest_1 7 rfl)
    · replace hf := in_ hf hc
      refine lv_aload_n hx hb (dk hX4_fewest_0 16 rfl) rfl (lv_at hl 1 rfl) ?_
      refine lv_iload_n hx hb (dk hX4_fewest_0 17 rfl) rfl (lv_at hl 0 rfl) ?_
      obtain ⟨u_31, e_32, hf⟩ := Option.bind_eq_some_iff.mp hf
      refine Ct.V (As := [.int u_3]) (rest := []) (st1 := [.int u_31.2]) (w1 := (wT G ad adt adb ade adm adn adk adp adr u_31.1 tcells lcells m_there m_used m_hidden m_kind m_figure m_cargo m_load n_there n_used n_hidden n_kind n_figure n_cargo n_load k_there k_used k_hidden k_kind k_figure k_cargo k_load isKept tlen llen m_ships m_inn m_coughs m_day n_ships n_inn n_coughs n_day k_ships k_inn k_coughs k_day held perm hist)) C hs (c_X4_refuse e_32) tw_166 tw_168 tw_0 tw_17 tw_169 nq_X4_refuse (by decide) 0 4 rfl rfl rfl rfl hl.1 rfl (Nat.le_of_ble_eq_true rfl) (dk hX4_fewest_0 18 rfl) ⟨Nat.zero_le _, Nat.zero_le _⟩ rfl (fun H locs hs => ?_)
      cases hf
      exact ri C hs (dk hX4_fewest_0 19 rfl)
  · replace hf := ip hf hc
    refine lv_aload_n hx hb (dk hX4_fewest_0 5 rfl) rfl (lv_at hl 0 rfl) ?_
    refine lv_iconst (v := (-1 : Int32)) hx hb (dk hX4_fewest_0 6 rfl) (by decide) ?_
    obtain ⟨u_33, e_34, hf⟩ := Option.bind_eq_some_iff.mp hf
    refine Ct.V (As := [.int (-1 : Int32)]) (rest := []) (st1 := [.int u_33.2]) (w1 := (wT G ad adt adb ade adm adn adk adp adr u_33.1 tcells lcells m_there m_used m_hidden m_kind m_figure m_cargo m_load n_there n_used n_hidden n_kind n_figure n_cargo n_load k_there k_used k_hidden k_kind k_figure k_cargo k_load isKept tlen llen m_ships m_inn m_coughs m_day n_ships n_inn n_coughs n_day k_ships k_inn k_coughs k_day held perm hist)) C hs (c_X4_refuse e_34) tw_166 tw_168 tw_0 tw_17 tw_169 nq_X4_refuse (by decide) 0 4 rfl rfl rfl rfl hl.1 rfl (Nat.le_of_ble_eq_true rfl) (dk hX4_fewest_0 7 rfl) ⟨Nat.zero_le _, Nat.zero_le _⟩ rfl (fun H locs hs => ?_)
    cases hf
    exact ri C hs (dk hX4_fewest_0 8 rfl)

def X4_isInUnlacked (m_there : List Int32) (m_used : List Int32) (m_hidden : List Int32) (m_kind : List Int32) (m_figure : List Int32) (m_cargo : List Int32) (m_load : List Int32) (n_there : List Int32) (n_used : List Int32) (n_hidden : List Int32) (n_kind : List Int32) (n_figure : List Int32) (n_cargo : List Int32) (n_load : List Int32) (m_ships : Int32) (m_inn : Int32) (m_coughs : Int32) (m_day : Int32) (n_ships : Int32) (n_inn : Int32) (n_coughs : Int32) (n_day : Int32) (p0 : Int32) (p1 : Int32) : Option (List Int32 × List Int32 × List Int32 × List Int32 × List Int32 × List Int32 × List Int32 × Int32 × Int32 × Int32 × Int32 × Int32) :=
  (X4_fromNow m_there m_used m_hidden m_kind m_figure m_cargo m_load n_there n_used n_hidden n_kind n_figure n_cargo n_load m_ships m_inn m_coughs m_day n_ships n_inn n_coughs n_day).bind fun u_1 =>
  (wr u_1.2.1 p1 (0 : Int32)).bind fun m_used_3 =>
  (X0_passDay u_1.1 m_used_3 u_1.2.2.1 u_1.2.2.2.1 u_1.2.2.2.2.1 u_1.2.2.2.2.2.1 u_1.2.2.2.2.2.2.1 u_1.2.2.2.2.2.2.2.1 u_1.2.2.2.2.2.2.2.2.1 u_1.2.2.2.2.2.2.2.2.2.1 u_1.2.2.2.2.2.2.2.2.2.2 (0 : Int32)).bind fun u_5 =>
  (X0_isIn u_5.2.1 p0).bind fun u_7 =>
  (c01 u_7).bind fun b_9 =>
  some (u_5.1, m_used_3, u_1.2.2.1, u_1.2.2.2.1, u_1.2.2.2.2.1, u_1.2.2.2.2.2.1, u_1.2.2.2.2.2.2.1, u_1.2.2.2.2.2.2.2.1, u_5.2.1, u_5.2.2.1, u_5.2.2.2, b_9)
set_option maxRecDepth 100000 in
set_option maxHeartbeats 4000000 in
theorem c_X4_isInUnlacked {l : Launch} {G : Gx} {ad adt adb ade adm adn adk adp : Nat → Nat} {adr : Nat → Nat → Nat} {refusals tcells lcells m_there m_used m_hidden m_kind m_figure m_cargo m_load n_there n_used n_hidden n_kind n_figure n_cargo n_load k_there k_used k_hidden k_kind k_figure k_cargo k_load : List Int32} {isKept tlen llen m_ships m_inn m_coughs m_day n_ships n_inn n_coughs n_day k_ships k_inn k_coughs k_day held : Int32} {perm : Nat → Nat} {hist : Nat → Hs} {p0 : Int32} {p1 : Int32} {out : List Int32 × List Int32 × List Int32 × List Int32 × List Int32 × List Int32 × List Int32 × Int32 × Int32 × Int32 × Int32 × Int32} (hf : X4_isInUnlacked m_there m_used m_hidden m_kind m_figure m_cargo m_load n_there n_used n_hidden n_kind n_figure n_cargo n_load m_ships m_inn m_coughs m_day n_ships n_inn n_coughs n_day p0 p1 = some out) : Ct l G yX4_isInUnlacked cX4_isInUnlacked 4 (some .boolean) 4 89 [.ref (ad 0), .int p0, .int p1] (wT G ad adt adb ade adm adn adk adp adr refusals tcells lcells m_there m_used m_hidden m_kind m_figure m_cargo m_load n_there n_used n_hidden n_kind n_figure n_cargo n_load k_there k_used k_hidden k_kind k_figure k_cargo k_load isKept tlen llen m_ships m_inn m_coughs m_day n_ships n_inn n_coughs n_day k_ships k_inn k_coughs k_day held perm hist) (some (.int out.2.2.2.2.2.2.2.2.2.2.2)) (wT G ad adt adb ade adm adn adk adp adr refusals tcells lcells out.1 out.2.1 out.2.2.1 out.2.2.2.1 out.2.2.2.2.1 out.2.2.2.2.2.1 out.2.2.2.2.2.2.1 n_there n_used n_hidden n_kind n_figure n_cargo n_load k_there k_used k_hidden k_kind k_figure k_cargo k_load isKept tlen llen out.2.2.2.2.2.2.2.1 out.2.2.2.2.2.2.2.2.1 out.2.2.2.2.2.2.2.2.2.1 out.2.2.2.2.2.2.2.2.2.2.1 n_ships n_inn n_coughs n_day k_ships k_inn k_coughs k_day held perm hist) := by
  refine Ct.intro RX4 rfl (plainFor_of_name (by decide)) (Nat.le_of_ble_eq_true rfl) rfl ?_
  intro p e s m args below meth c A C H locs hs ls hl
  obtain ⟨hx, hb, hml, hown, hts, hK, hret, hlk⟩ := id C
  have hl : lv_has ls 4 [(0, .ref (ad 0)), (1, .int p0), (2, .int p1)] := hl
  unfold X4_isInUnlacked at hf
  refine lv_aload_n hx hb (dk hX4_isInUnlacked_0 0 rfl) rfl (lv_at hl 0 rfl) ?_
  obtain ⟨u_1, e_2, hf⟩ := Option.bind_eq_some_iff.mp hf
  refine Ct.V (As := []) (rest := []) (st1 := [.ref (adm 0)]) (w1 := (wT G ad adt adb ade adm adn adk adp adr refusals tcells lcells u_1.1 u_1.2.1 u_1.2.2.1 u_1.2.2.2.1 u_1.2.2.2.2.1 u_1.2.2.2.2.2.1 u_1.2.2.2.2.2.2.1 n_there n_used n_hidden n_kind n_figure n_cargo n_load k_there k_used k_hidden k_kind k_figure k_cargo k_load isKept tlen llen u_1.2.2.2.2.2.2.2.1 u_1.2.2.2.2.2.2.2.2.1 u_1.2.2.2.2.2.2.2.2.2.1 u_1.2.2.2.2.2.2.2.2.2.2 n_ships n_inn n_coughs n_day k_ships k_inn k_coughs k_day held perm hist)) C hs (c_X4_fromNow e_2) tw_312 tw_314 tw_4 tw_17 tw_315 nq_X4_fromNow (by decide) 0 4 rfl rfl rfl rfl hl.1 rfl (Nat.le_of_ble_eq_true rfl) (dk hX4_isInUnlacked_0 1 rfl) ⟨Nat.zero_le _, Nat.zero_le _⟩ rfl (fun H locs hs => ?_)
  refine lv_astore_n (lv' := [(3, .ref (adm 0)), (0, .ref (ad 0)), (1, .int p0), (2, .int p1)]) hx hb (dk hX4_isInUnlacked_0 2 rfl) rfl hl (by decide) rfl (fun ls hl => ?_)
  refine lv_aload_n hx hb (dk hX4_isInUnlacked_0 3 rfl) rfl (lv_at hl 0 rfl) ?_
  refine rg ui0 rfl C hs 7 rfl 1 (by decide) tw_42 rfl rfl (dk hX4_isInUnlacked_0 4 rfl) ?_
  refine lv_iload_n hx hb (dk hX4_isInUnlacked_0 5 rfl) rfl (lv_at hl 3 rfl) ?_
  refine lv_iconst (v := (0 : Int32)) hx hb (dk hX4_isInUnlacked_0 6 rfl) (by decide) ?_
  obtain ⟨m_used_3, e_4, hf⟩ := Option.bind_eq_some_iff.mp hf
  refine rist (w1 := (wT G ad adt adb ade adm adn adk adp adr refusals tcells lcells u_1.1 m_used_3 u_1.2.2.1 u_1.2.2.2.1 u_1.2.2.2.2.1 u_1.2.2.2.2.2.1 u_1.2.2.2.2.2.2.1 n_there n_used n_hidden n_kind n_figure n_cargo n_load k_there k_used k_hidden k_kind k_figure k_cargo k_load isKept tlen llen u_1.2.2.2.2.2.2.2.1 u_1.2.2.2.2.2.2.2.2.1 u_1.2.2.2.2.2.2.2.2.2.1 u_1.2.2.2.2.2.2.2.2.2.2 n_ships n_inn n_coughs n_day k_ships k_inn k_coughs k_day held perm hist)) C hs 9 rfl e_4 rfl (dk hX4_isInUnlacked_0 7 rfl) (fun H locs hs => ?_)
  refine lv_aload_n hx hb (dk hX4_isInUnlacked_0 8 rfl) rfl (lv_at hl 0 rfl) ?_
  refine lv_iconst (v := (0 : Int32)) hx hb (dk hX4_isInUnlacked_0 9 rfl) (by decide) ?_
  obtain ⟨u_5, e_6, hf⟩ := Option.bind_eq_some_iff.mp hf
  refine Ct.V (As := [.int (0 : Int32)]) (rest := []) (st1 := []) (w1 := (wT G ad adt adb ade adm adn adk adp adr refusals tcells lcells u_5.1 m_used_3 u_1.2.2.1 u_1.2.2.2.1 u_1.2.2.2.2.1 u_1.2.2.2.2.2.1 u_1.2.2.2.2.2.2.1 n_there n_used n_hidden n_kind n_figure n_cargo n_load k_there k_used k_hidden k_kind k_figure k_cargo k_load isKept tlen llen u_1.2.2.2.2.2.2.2.1 u_5.2.1 u_5.2.2.1 u_5.2.2.2 n_ships n_inn n_coughs n_day k_ships k_inn k_coughs k_day held perm hist)) C hs (c_X0_passDay__mind e_6) tw_329 tw_273 tw_274 tw_18 tw_275 nq_X0_passDay (by decide) 7 0 rfl rfl rfl rfl hl.1 rfl (Nat.le_of_ble_eq_true rfl) (dk hX4_isInUnlacked_0 10 rfl) ⟨Nat.zero_le _, Nat.zero_le _⟩ rfl (fun H locs hs => ?_)
  refine lv_aload_n hx hb (dk hX4_isInUnlacked_0 11 rfl) rfl (lv_at hl 0 rfl) ?_
  refine lv_iload_n hx hb (dk hX4_isInUnlacked_0 12 rfl) rfl (lv_at hl 2 rfl) ?_
  obtain ⟨u_7, e_8, hf⟩ := Option.bind_eq_some_iff.mp hf
  refine Ct.V (As := [.int p0]) (rest := []) (st1 := [.int u_7]) (w1 := (wT G ad adt adb ade adm adn adk adp adr refusals tcells lcells u_5.1 m_used_3 u_1.2.2.1 u_1.2.2.2.1 u_1.2.2.2.2.1 u_1.2.2.2.2.2.1 u_1.2.2.2.2.2.2.1 n_there n_used n_hidden n_kind n_figure n_cargo n_load k_there k_used k_hidden k_kind k_figure k_cargo k_load isKept tlen llen u_1.2.2.2.2.2.2.2.1 u_5.2.1 u_5.2.2.1 u_5.2.2.2 n_ships n_inn n_coughs n_day k_ships k_inn k_coughs k_day held perm hist)) C hs (c_X0_isIn__mind e_8) tw_182 tw_183 tw_184 tw_18 tw_185 nq_X0_isIn (by decide) 7 0 rfl rfl rfl rfl hl.1 rfl (Nat.le_of_ble_eq_true rfl) (dk hX4_isInUnlacked_0 13 rfl) ⟨Nat.zero_le _, Nat.zero_le _⟩ rfl (fun H locs hs => ?_)
  obtain ⟨b_9, hz_10, hf⟩ := Option.bind_eq_some_iff.mp hf
  obtain ⟨hxe, hz⟩ := c01_z hz_10
  replace hxe := hxe.symm
  subst hxe
  cases hf
  exact rz hz C hs (dk hX4_isInUnlacked_0 14 rfl)

def X4_forWhat_L48 (k : Int32 → List Int32 → List Int32 → List Int32 → List Int32 → List Int32 → List Int32 → List Int32 → Int32 → Int32 → Int32 → Int32 → Option (List Int32 × List Int32 × List Int32 × List Int32 × List Int32 × List Int32 × List Int32 × List Int32 × Int32 × Int32 × Int32 × Int32 × Int32)) (n_there : List Int32) (n_used : List Int32) (n_hidden : List Int32) (n_kind : List Int32) (n_figure : List Int32) (n_cargo : List Int32) (n_load : List Int32) (n_ships : Int32) (n_inn : Int32) (n_coughs : Int32) (n_day : Int32) (x1 : Int32) : Nat → Int32 → Int32 → List Int32 → List Int32 → List Int32 → List Int32 → List Int32 → List Int32 → List Int32 → Int32 → Int32 → Int32 → Int32 → Option (List Int32 × List Int32 × List Int32 × List Int32 × List Int32 × List Int32 × List Int32 × List Int32 × Int32 × Int32 × Int32 × Int32 × Int32)
  | 0, _, _, _, _, _, _, _, _, _, _, _, _, _ => none
  | n + 1, x2, x3, m_there, m_used, m_hidden, m_kind, m_figure, m_cargo, m_load, m_ships, m_inn, m_coughs, m_day =>
  if (6 : Int32) ≤ x3 then
  k x2 m_there m_used m_hidden m_kind m_figure m_cargo m_load m_ships m_inn m_coughs m_day
  else
  (X4_isInUnlacked m_there m_used m_hidden m_kind m_figure m_cargo m_load n_there n_used n_hidden n_kind n_figure n_cargo n_load m_ships m_inn m_coughs m_day n_ships n_inn n_coughs n_day x1 x3).bind fun u_7 =>
  if u_7.2.2.2.2.2.2.2.2.2.2.2 = (0 : Int32) then
  X4_forWhat_L48 k n_there n_used n_hidden n_kind n_figure n_cargo n_load n_ships n_inn n_coughs n_day x1 n (x2 ||| ((1 : Int32) <<< (x3 &&& 31))) (x3 + (1 : Int32)) u_7.1 u_7.2.1 u_7.2.2.1 u_7.2.2.2.1 u_7.2.2.2.2.1 u_7.2.2.2.2.2.1 u_7.2.2.2.2.2.2.1 u_7.2.2.2.2.2.2.2.1 u_7.2.2.2.2.2.2.2.2.1 u_7.2.2.2.2.2.2.2.2.2.1 u_7.2.2.2.2.2.2.2.2.2.2.1
  else
  X4_forWhat_L48 k n_there n_used n_hidden n_kind n_figure n_cargo n_load n_ships n_inn n_coughs n_day x1 n x2 (x3 + (1 : Int32)) u_7.1 u_7.2.1 u_7.2.2.1 u_7.2.2.2.1 u_7.2.2.2.2.1 u_7.2.2.2.2.2.1 u_7.2.2.2.2.2.2.1 u_7.2.2.2.2.2.2.2.1 u_7.2.2.2.2.2.2.2.2.1 u_7.2.2.2.2.2.2.2.2.2.1 u_7.2.2.2.2.2.2.2.2.2.2.1
def X4_forWhat (refusals : List Int32) (m_there : List Int32) (m_used : List Int32) (m_hidden : List Int32) (m_kind : List Int32) (m_figure : List Int32) (m_cargo : List Int32) (m_load : List Int32) (n_there : List Int32) (n_used : List Int32) (n_hidden : List Int32) (n_kind : List Int32) (n_figure : List Int32) (n_cargo : List Int32) (n_load : List Int32) (m_ships : Int32) (m_inn : Int32) (m_coughs : Int32) (m_day : Int32) (n_ships : Int32) (n_inn : Int32) (n_coughs : Int32) (n_day : Int32) (p0 : Int32) : Option (List Int32 × List Int32 × List Int32 × List Int32 × List Int32 × List Int32 × List Int32 × List Int32 × Int32 × Int32 × Int32 × Int32 × Int32) :=
  (X0_isShip n_ships p0).bind fun u_1 =>
  if u_1 = (0 : Int32) then
  (X4_refuse refusals (-1 : Int32)).bind fun u_23 =>
  some (u_23.1, m_there, m_used, m_hidden, m_kind, m_figure, m_cargo, m_load, m_ships, m_inn, m_coughs, m_day, u_23.2)
  else
  (X0_isIn n_inn p0).bind fun u_3 =>
  if u_3 = (0 : Int32) then
  (X4_isInNextDay m_there m_used m_hidden m_kind m_figure m_cargo m_load n_there n_used n_hidden n_kind n_figure n_cargo n_load m_ships m_inn m_coughs m_day n_ships n_inn n_coughs n_day p0 (0 : Int32)).bind fun u_5 =>
  if u_5.2.2.2.2.2.2.2.2.2.2.2 = (0 : Int32) then
  some (refusals, u_5.1, u_5.2.1, u_5.2.2.1, u_5.2.2.2.1, u_5.2.2.2.2.1, u_5.2.2.2.2.2.1, u_5.2.2.2.2.2.2.1, u_5.2.2.2.2.2.2.2.1, u_5.2.2.2.2.2.2.2.2.1, u_5.2.2.2.2.2.2.2.2.2.1, u_5.2.2.2.2.2.2.2.2.2.2.1, (0 : Int32))
  else
  X4_forWhat_L48 (fun y2_9 m_there_10 m_used_11 m_hidden_12 m_kind_13 m_figure_14 m_cargo_15 m_load_16 m_ships_17 m_inn_18 m_coughs_19 m_day_20 =>
  some (refusals, m_there_10, m_used_11, m_hidden_12, m_kind_13, m_figure_14, m_cargo_15, m_load_16, m_ships_17, m_inn_18, m_coughs_19, m_day_20, y2_9)) n_there n_used n_hidden n_kind n_figure n_cargo n_load n_ships n_inn n_coughs n_day p0 1000 (0 : Int32) (0 : Int32) u_5.1 u_5.2.1 u_5.2.2.1 u_5.2.2.2.1 u_5.2.2.2.2.1 u_5.2.2.2.2.2.1 u_5.2.2.2.2.2.2.1 u_5.2.2.2.2.2.2.2.1 u_5.2.2.2.2.2.2.2.2.1 u_5.2.2.2.2.2.2.2.2.2.1 u_5.2.2.2.2.2.2.2.2.2.2.1
  else
  (X4_refuse refusals (-3 : Int32)).bind fun u_21 =>
  some (u_21.1, m_there, m_used, m_hidden, m_kind, m_figure, m_cargo, m_load, m_ships, m_inn, m_coughs, m_day, u_21.2)
set_option maxRecDepth 100000 in
set_option maxHeartbeats 4000000 in
theorem l_X4_forWhat_L48 {l : Launch} {p : Program} {e : Env} {s : State} {m : MethodId} {args : Array Value} {below : List Frame} {meth : Method} {c : Code} {A : Nat → Prop} {G : Gx} {ad adt adb ade adm adn adk adp : Nat → Nat} {adr : Nat → Nat → Nat} {refusals tcells lcells n_there n_used n_hidden n_kind n_figure n_cargo n_load k_there k_used k_hidden k_kind k_figure k_cargo k_load : List Int32} {isKept tlen llen n_ships n_inn n_coughs n_day k_ships k_inn k_coughs k_day held : Int32} {perm : Nat → Nat} {hist : Nat → Hs} {x1 : Int32} {k : Int32 → List Int32 → List Int32 → List Int32 → List Int32 → List Int32 → List Int32 → List Int32 → Int32 → Int32 → Int32 → Int32 → Option (List Int32 × List Int32 × List Int32 × List Int32 × List Int32 × List Int32 × List Int32 × List Int32 × Int32 × Int32 × Int32 × Int32 × Int32)} {out : List Int32 × List Int32 × List Int32 × List Int32 × List Int32 × List Int32 × List Int32 × List Int32 × Int32 × Int32 × Int32 × Int32 × Int32} (C : Cx p s m args meth c cX4_forWhat RX4 4 (some .int) G) : ∀ (n : Nat) (x2 : Int32) (x3 : Int32) (m_there : List Int32) (m_used : List Int32) (m_hidden : List Int32) (m_kind : List Int32) (m_figure : List Int32) (m_cargo : List Int32) (m_load : List Int32) (m_ships : Int32) (m_inn : Int32) (m_coughs : Int32) (m_day : Int32), X4_forWhat_L48 k n_there n_used n_hidden n_kind n_figure n_cargo n_load n_ships n_inn n_coughs n_day x1 n x2 x3 m_there m_used m_hidden m_kind m_figure m_cargo m_load m_ships m_inn m_coughs m_day = some out → ∀ (H : Heap) (locs : List Loc), St G A s.heap H locs (wT G ad adt adb ade adm adn adk adp adr refusals tcells lcells m_there m_used m_hidden m_kind m_figure m_cargo m_load n_there n_used n_hidden n_kind n_figure n_cargo n_load k_there k_used k_hidden k_kind k_figure k_cargo k_load isKept tlen llen m_ships m_inn m_coughs m_day n_ships n_inn n_coughs n_day k_ships k_inn k_coughs k_day held perm hist) → ∀ ls : Array Slot, lv_has ls 4 [(0, .ref (ad 0)), (1, .int x1), (2, .int x2), (3, .int x3)] → (∀ (y2 : Int32) (z_m_there : List Int32) (z_m_used : List Int32) (z_m_hidden : List Int32) (z_m_kind : List Int32) (z_m_figure : List Int32) (z_m_cargo : List Int32) (z_m_load : List Int32) (z_m_ships : Int32) (z_m_inn : Int32) (z_m_coughs : Int32) (z_m_day : Int32), k y2 z_m_there z_m_used z_m_hidden z_m_kind z_m_figure z_m_cargo z_m_load z_m_ships z_m_inn z_m_coughs z_m_day = some out → ∀ (H : Heap) (locs : List Loc), St G A s.heap H locs (wT G ad adt adb ade adm adn adk adp adr refusals tcells lcells z_m_there z_m_used z_m_hidden z_m_kind z_m_figure z_m_cargo z_m_load n_there n_used n_hidden n_kind n_figure n_cargo n_load k_there k_used k_hidden k_kind k_figure k_cargo k_load isKept tlen llen z_m_ships z_m_inn z_m_coughs z_m_day n_ships n_inn n_coughs n_day k_ships k_inn k_coughs k_day held perm hist) → ∀ ls : Array Slot, lv_has ls 4 [(2, .int y2)] → W p l e (rmOf 5 112) s m args below meth c H locs 0 0 (MQ below (Qof G A (some (.int out.2.2.2.2.2.2.2.2.2.2.2.2)) (wT G ad adt adb ade adm adn adk adp adr out.1 tcells lcells out.2.1 out.2.2.1 out.2.2.2.1 out.2.2.2.2.1 out.2.2.2.2.2.1 out.2.2.2.2.2.2.1 out.2.2.2.2.2.2.2.1 n_there n_used n_hidden n_kind n_figure n_cargo n_load k_there k_used k_hidden k_kind k_figure k_cargo k_load isKept tlen llen out.2.2.2.2.2.2.2.2.1 out.2.2.2.2.2.2.2.2.2.1 out.2.2.2.2.2.2.2.2.2.2.1 out.2.2.2.2.2.2.2.2.2.2.2.1 n_ships n_inn n_coughs n_day k_ships k_inn k_coughs k_day held perm hist)) args s 0 0 A) (F0 m 75 ls [])) → W p l e (rmOf 5 112) s m args below meth c H locs 0 0 (MQ below (Qof G A (some (.int out.2.2.2.2.2.2.2.2.2.2.2.2)) (wT G ad adt adb ade adm adn adk adp adr out.1 tcells lcells out.2.1 out.2.2.1 out.2.2.2.1 out.2.2.2.2.1 out.2.2.2.2.2.1 out.2.2.2.2.2.2.1 out.2.2.2.2.2.2.2.1 n_there n_used n_hidden n_kind n_figure n_cargo n_load k_there k_used k_hidden k_kind k_figure k_cargo k_load isKept tlen llen out.2.2.2.2.2.2.2.2.1 out.2.2.2.2.2.2.2.2.2.1 out.2.2.2.2.2.2.2.2.2.2.1 out.2.2.2.2.2.2.2.2.2.2.2.1 n_ships n_inn n_coughs n_day k_ships k_inn k_coughs k_day held perm hist)) args s 0 0 A) (F0 m 48 ls []) := by
  obtain ⟨hx, hb, hml, hown, hts, hK, hret, hlk⟩ := id C
  intro n
  induction n with
  | zero => intro x2 x3 m_there m_used m_hidden m_kind m_figure m_cargo m_load m_ships m_inn m_coughs m_day hf; cases hf
  | succ n ih =>
    intro x2 x3 m_there m_used m_hidden m_kind m_figure m_cargo m_load m_ships m_inn m_coughs m_day hf H locs hs ls hl hk
    rw [X4_forWhat_L48] at hf
    refine lv_iload_n hx hb (dk hX4_forWhat_0 27 rfl) rfl (lv_at hl 3 rfl) ?_
    refine lv_bipush (v := (6 : Int32)) hx hb (dk hX4_forWhat_0 28 rfl) (by decide) ?_
    refine lv_icmp_ge (tgt := 75) hx hb (dk hX4_forWhat_0 29 rfl) (by decide) (fun hc => ?_) (fun hc => ?_)
    · replace hf := ip hf hc
      exact hk _ _ _ _ _ _ _ _ _ _ _ _ hf _ _ hs _ (lv_sub hl [2] rfl)
    · replace hf := in_ hf hc
      refine lv_aload_n hx hb (dk hX4_forWhat_0 30 rfl) rfl (lv_at hl 0 rfl) ?_
      refine lv_iload_n hx hb (dk hX4_forWhat_0 31 rfl) rfl (lv_at hl 1 rfl) ?_
      refine lv_iload_n hx hb (dk hX4_forWhat_0 32 rfl) rfl (lv_at hl 3 rfl) ?_
      obtain ⟨u_7, e_8, hf⟩ := Option.bind_eq_some_iff.mp hf
      refine Ct.V (As := [.int x1, .int x3]) (rest := []) (st1 := [.int u_7.2.2.2.2.2.2.2.2.2.2.2]) (w1 := (wT G ad adt adb ade adm adn adk adp adr refusals tcells lcells u_7.1 u_7.2.1 u_7.2.2.1 u_7.2.2.2.1 u_7.2.2.2.2.1 u_7.2.2.2.2.2.1 u_7.2.2.2.2.2.2.1 n_there n_used n_hidden n_kind n_figure n_cargo n_load k_there k_used k_hidden k_kind k_figure k_cargo k_load isKept tlen llen u_7.2.2.2.2.2.2.2.1 u_7.2.2.2.2.2.2.2.2.1 u_7.2.2.2.2.2.2.2.2.2.1 u_7.2.2.2.2.2.2.2.2.2.2.1 n_ships n_inn n_coughs n_day k_ships k_inn k_coughs k_day held perm hist)) C hs (c_X4_isInUnlacked e_8) tw_370 tw_372 tw_9 tw_17 tw_373 nq_X4_isInUnlacked (by decide) 0 4 rfl rfl rfl rfl hl.1 rfl (Nat.le_of_ble_eq_true rfl) (dk hX4_forWhat_0 33 rfl) ⟨Nat.zero_le _, Nat.zero_le _⟩ rfl (fun H locs hs => ?_)
      refine lv_if_ne (tgt := 69) hx hb (dk hX4_forWhat_0 34 rfl) (by decide) (fun hc => ?_) (fun hc => ?_)
      · replace hf := in_ hf hc
        refine lv_iinc (v := (x3 + (1 : Int32))) (lv' := [(3, .int (x3 + (1 : Int32))), (0, .ref (ad 0)), (1, .int x1), (2, .int x2)]) hx hb (dk hX4_forWhat_1 1 rfl) hl (k := 3) rfl (by first | rfl | decide) (by decide) rfl (fun ls hl => ?_)
        refine lv_goto (tgt := 48) hx hb (dk hX4_forWhat_1 2 rfl) (by decide) ?_
        exact ih _ _ _ _ _ _ _ _ _ _ _ _ _ hf _ _ hs _ (lv_sub hl [1, 2, 3, 0] rfl) hk
      · replace hf := ip hf hc
        refine lv_iload_n hx hb (dk hX4_forWhat_0 35 rfl) rfl (lv_at hl 2 rfl) ?_
        refine lv_iconst (v := (1 : Int32)) hx hb (dk hX4_forWhat_0 36 rfl) (by decide) ?_
        refine lv_iload_n hx hb (dk hX4_forWhat_0 37 rfl) rfl (lv_at hl 3 rfl) ?_
        refine lv_ishl hx hb (dk hX4_forWhat_0 38 rfl) ?_
        refine lv_ior hx hb (dk hX4_forWhat_0 39 rfl) ?_
        refine lv_istore_n (lv' := [(2, .int (x2 ||| ((1 : Int32) <<< (x3 &&& 31)))), (0, .ref (ad 0)), (1, .int x1), (3, .int x3)]) hx hb (dk hX4_forWhat_1 0 rfl) rfl hl (by decide) rfl (fun ls hl => ?_)
        refine lv_iinc (v := (x3 + (1 : Int32))) (lv' := [(3, .int (x3 + (1 : Int32))), (2, .int (x2 ||| ((1 : Int32) <<< (x3 &&& 31)))), (0, .ref (ad 0)), (1, .int x1)]) hx hb (dk hX4_forWhat_1 1 rfl) hl (k := 3) rfl (by first | rfl | decide) (by decide) rfl (fun ls hl => ?_)
        refine lv_goto (tgt := 48) hx hb (dk hX4_forWhat_1 2 rfl) (by decide) ?_
        exact ih _ _ _ _ _ _ _ _ _ _ _ _ _ hf _ _ hs _ (lv_sub hl [2, 3, 1, 0] rfl) hk
set_option maxRecDepth 100000 in
set_option maxHeartbeats 4000000 in
theorem c_X4_forWhat {l : Launch} {G : Gx} {ad adt adb ade adm adn adk adp : Nat → Nat} {adr : Nat → Nat → Nat} {refusals tcells lcells m_there m_used m_hidden m_kind m_figure m_cargo m_load n_there n_used n_hidden n_kind n_figure n_cargo n_load k_there k_used k_hidden k_kind k_figure k_cargo k_load : List Int32} {isKept tlen llen m_ships m_inn m_coughs m_day n_ships n_inn n_coughs n_day k_ships k_inn k_coughs k_day held : Int32} {perm : Nat → Nat} {hist : Nat → Hs} {p0 : Int32} {out : List Int32 × List Int32 × List Int32 × List Int32 × List Int32 × List Int32 × List Int32 × List Int32 × Int32 × Int32 × Int32 × Int32 × Int32} (hf : X4_forWhat refusals m_there m_used m_hidden m_kind m_figure m_cargo m_load n_there n_used n_hidden n_kind n_figure n_cargo n_load m_ships m_inn m_coughs m_day n_ships n_inn n_coughs n_day p0 = some out) : Ct l G yX4_forWhat cX4_forWhat 4 (some .int) 5 112 [.ref (ad 0), .int p0] (wT G ad adt adb ade adm adn adk adp adr refusals tcells lcells m_there m_used m_hidden m_kind m_figure m_cargo m_load n_there n_used n_hidden n_kind n_figure n_cargo n_load k_there k_used k_hidden k_kind k_figure k_cargo k_load isKept tlen llen m_ships m_inn m_coughs m_day n_ships n_inn n_coughs n_day k_ships k_inn k_coughs k_day held perm hist) (some (.int out.2.2.2.2.2.2.2.2.2.2.2.2)) (wT G ad adt adb ade adm adn adk adp adr out.1 tcells lcells out.2.1 out.2.2.1 out.2.2.2.1 out.2.2.2.2.1 out.2.2.2.2.2.1 out.2.2.2.2.2.2.1 out.2.2.2.2.2.2.2.1 n_there n_used n_hidden n_kind n_figure n_cargo n_load k_there k_used k_hidden k_kind k_figure k_cargo k_load isKept tlen llen out.2.2.2.2.2.2.2.2.1 out.2.2.2.2.2.2.2.2.2.1 out.2.2.2.2.2.2.2.2.2.2.1 out.2.2.2.2.2.2.2.2.2.2.2.1 n_ships n_inn n_coughs n_day k_ships k_inn k_coughs k_day held perm hist) := by
  refine Ct.intro RX4 rfl (plainFor_of_name (by decide)) (Nat.le_of_ble_eq_true rfl) rfl ?_
  intro p e s m args below meth c A C H locs hs ls hl
  obtain ⟨hx, hb, hml, hown, hts, hK, hret, hlk⟩ := id C
  have hl : lv_has ls 4 [(0, .ref (ad 0)), (1, .int p0)] := hl
  unfold X4_forWhat at hf
  refine lv_aload_n hx hb (dk hX4_forWhat_0 0 rfl) rfl (lv_at hl 0 rfl) ?_
  refine rg ui4 rfl C hs 0 rfl 0 (by decide) tw_134 rfl rfl (dk hX4_forWhat_0 1 rfl) ?_
  refine lv_iload_n hx hb (dk hX4_forWhat_0 2 rfl) rfl (lv_at hl 1 rfl) ?_
  obtain ⟨u_1, e_2, hf⟩ := Option.bind_eq_some_iff.mp hf
  refine Ct.V (As := [.int p0]) (rest := []) (st1 := [.int u_1]) (w1 := (wT G ad adt adb ade adm adn adk adp adr refusals tcells lcells m_there m_used m_hidden m_kind m_figure m_cargo m_load n_there n_used n_hidden n_kind n_figure n_cargo n_load k_there k_used k_hidden k_kind k_figure k_cargo k_load isKept tlen llen m_ships m_inn m_coughs m_day n_ships n_inn n_coughs n_day k_ships k_inn k_coughs k_day held perm hist)) C hs (c_X0_isShip__now e_2) tw_178 tw_179 tw_180 tw_18 tw_181 nq_X0_isShip (by decide) 15 0 rfl rfl rfl rfl hl.1 rfl (Nat.le_of_ble_eq_true rfl) (dk hX4_forWhat_0 3 rfl) ⟨Nat.zero_le _, Nat.zero_le _⟩ rfl (fun H locs hs => ?_)
  refine lv_if_ne (tgt := 17) hx hb (dk hX4_forWhat_0 4 rfl) (by decide) (fun hc => ?_) (fun hc => ?_)
  · replace hf := in_ hf hc
    refine lv_aload_n hx hb (dk hX4_forWhat_0 9 rfl) rfl (lv_at hl 0 rfl) ?_
    refine rg ui4 rfl C hs 0 rfl 0 (by decide) tw_134 rfl rfl (dk hX4_forWhat_0 10 rfl) ?_
    refine lv_iload_n hx hb (dk hX4_forWhat_0 11 rfl) rfl (lv_at hl 1 rfl) ?_
    obtain ⟨u_3, e_4, hf⟩ := Option.bind_eq_some_iff.mp hf
    refine Ct.V (As := [.int p0]) (rest := []) (st1 := [.int u_3]) (w1 := (wT G ad adt adb ade adm adn adk adp adr refusals tcells lcells m_there m_used m_hidden m_kind m_figure m_cargo m_load n_there n_used n_hidden n_kind n_figure n_cargo n_load k_there k_used k_hidden k_kind k_figure k_cargo k_load isKept tlen llen m_ships m_inn m_coughs m_day n_ships n_inn n_coughs n_day k_ships k_inn k_coughs k_day held perm hist)) C hs (c_X0_isIn__now e_4) tw_182 tw_183 tw_184 tw_18 tw_185 nq_X0_isIn (by decide) 15 0 rfl rfl rfl rfl hl.1 rfl (Nat.le_of_ble_eq_true rfl) (dk hX4_forWhat_0 12 rfl) ⟨Nat.zero_le _, Nat.zero_le _⟩ rfl (fun H locs hs => ?_)
    refine lv_if_eq (tgt := 35) hx hb (dk hX4_forWhat_0 13 rfl) (by decide) (fun hc => ?_) (fun hc => ?_)
    · replace hf := ip hf hc
      refine lv_iconst (v := (0 : Int32)) hx hb (dk hX4_forWhat_0 18 rfl) (by decide) ?_
      refine lv_istore_n (lv' := [(2, .int (0 : Int32)), (0, .ref (ad 0)), (1, .int p0)]) hx hb (dk hX4_forWhat_0 19 rfl) rfl hl (by decide) rfl (fun ls hl => ?_)
      refine lv_aload_n hx hb (dk hX4_forWhat_0 20 rfl) rfl (lv_at hl 1 rfl) ?_
      refine lv_iload_n hx hb (dk hX4_forWhat_0 21 rfl) rfl (lv_at hl 2 rfl) ?_
      refine lv_iconst (v := (0 : Int32)) hx hb (dk hX4_forWhat_0 22 rfl) (by decide) ?_
      obtain ⟨u_5, e_6, hf⟩ := Option.bind_eq_some_iff.mp hf
      refine Ct.V (As := [.int p0, .int (0 : Int32)]) (rest := []) (st1 := [.int u_5.2.2.2.2.2.2.2.2.2.2.2]) (w1 := (wT G ad adt adb ade adm adn adk adp adr refusals tcells lcells u_5.1 u_5.2.1 u_5.2.2.1 u_5.2.2.2.1 u_5.2.2.2.2.1 u_5.2.2.2.2.2.1 u_5.2.2.2.2.2.2.1 n_there n_used n_hidden n_kind n_figure n_cargo n_load k_there k_used k_hidden k_kind k_figure k_cargo k_load isKept tlen llen u_5.2.2.2.2.2.2.2.1 u_5.2.2.2.2.2.2.2.2.1 u_5.2.2.2.2.2.2.2.2.2.1 u_5.2.2.2.2.2.2.2.2.2.2.1 n_ships n_inn n_coughs n_day k_ships k_inn k_coughs k_day held perm hist)) C hs (c_X4_isInNextDay e_6) tw_342 tw_344 tw_7 tw_17 tw_345 nq_X4_isInNextDay (by decide) 0 4 rfl rfl rfl rfl hl.1 rfl (Nat.le_of_ble_eq_true rfl) (dk hX4_forWhat_0 23 rfl) ⟨Nat.zero_le _, Nat.zero_le _⟩ rfl (fun H locs hs => ?_)
      refine lv_if_eq (tgt := 75) hx hb (dk hX4_forWhat_0 24 rfl) (by decide) (fun hc => ?_) (fun hc => ?_)
      · replace hf := ip hf hc
        refine lv_iload_n hx hb (dk hX4_forWhat_1 3 rfl) rfl (lv_at hl 0 rfl) ?_
        cases hf
        exact ri C hs (dk hX4_forWhat_1 4 rfl)
      · replace hf := in_ hf hc
        refine lv_iconst (v := (0 : Int32)) hx hb (dk hX4_forWhat_0 25 rfl) (by decide) ?_
        refine lv_istore_n (lv' := [(3, .int (0 : Int32)), (2, .int (0 : Int32)), (0, .ref (ad 0)), (1, .int p0)]) hx hb (dk hX4_forWhat_0 26 rfl) rfl hl (by decide) rfl (fun ls hl => ?_)
        refine l_X4_forWhat_L48 C 1000 _ _ _ _ _ _ _ _ _ _ _ _ _ hf _ _ hs _ (lv_sub hl [2, 3, 1, 0] rfl) (fun y2_9 m_there_10 m_used_11 m_hidden_12 m_kind_13 m_figure_14 m_cargo_15 m_load_16 m_ships_17 m_inn_18 m_coughs_19 m_day_20 hf H locs hs ls hl => ?_)
        refine lv_iload_n hx hb (dk hX4_forWhat_1 3 rfl) rfl (lv_at hl 0 rfl) ?_
        cases hf
        exact ri C hs (dk hX4_forWhat_1 4 rfl)
    · replace hf := in_ hf hc
      refine lv_aload_n hx hb (dk hX4_forWhat_0 14 rfl) rfl (lv_at hl 0 rfl) ?_
      refine lv_bipush (v := (-3 : Int32)) hx hb (dk hX4_forWhat_0 15 rfl) (by decide) ?_
      obtain ⟨u_21, e_22, hf⟩ := Option.bind_eq_some_iff.mp hf
      refine Ct.V (As := [.int (-3 : Int32)]) (rest := []) (st1 := [.int u_21.2]) (w1 := (wT G ad adt adb ade adm adn adk adp adr u_21.1 tcells lcells m_there m_used m_hidden m_kind m_figure m_cargo m_load n_there n_used n_hidden n_kind n_figure n_cargo n_load k_there k_used k_hidden k_kind k_figure k_cargo k_load isKept tlen llen m_ships m_inn m_coughs m_day n_ships n_inn n_coughs n_day k_ships k_inn k_coughs k_day held perm hist)) C hs (c_X4_refuse e_22) tw_166 tw_168 tw_0 tw_17 tw_169 nq_X4_refuse (by decide) 0 4 rfl rfl rfl rfl hl.1 rfl (Nat.le_of_ble_eq_true rfl) (dk hX4_forWhat_0 16 rfl) ⟨Nat.zero_le _, Nat.zero_le _⟩ rfl (fun H locs hs => ?_)
      cases hf
      exact ri C hs (dk hX4_forWhat_0 17 rfl)
  · replace hf := ip hf hc
    refine lv_aload_n hx hb (dk hX4_forWhat_0 5 rfl) rfl (lv_at hl 0 rfl) ?_
    refine lv_iconst (v := (-1 : Int32)) hx hb (dk hX4_forWhat_0 6 rfl) (by decide) ?_
    obtain ⟨u_23, e_24, hf⟩ := Option.bind_eq_some_iff.mp hf
    refine Ct.V (As := [.int (-1 : Int32)]) (rest := []) (st1 := [.int u_23.2]) (w1 := (wT G ad adt adb ade adm adn adk adp adr u_23.1 tcells lcells m_there m_used m_hidden m_kind m_figure m_cargo m_load n_there n_used n_hidden n_kind n_figure n_cargo n_load k_there k_used k_hidden k_kind k_figure k_cargo k_load isKept tlen llen m_ships m_inn m_coughs m_day n_ships n_inn n_coughs n_day k_ships k_inn k_coughs k_day held perm hist)) C hs (c_X4_refuse e_24) tw_166 tw_168 tw_0 tw_17 tw_169 nq_X4_refuse (by decide) 0 4 rfl rfl rfl rfl hl.1 rfl (Nat.le_of_ble_eq_true rfl) (dk hX4_forWhat_0 7 rfl) ⟨Nat.zero_le _, Nat.zero_le _⟩ rfl (fun H locs hs => ?_)
    cases hf
    exact ri C hs (dk hX4_forWhat_0 8 rfl)

def X4_want (refusals : List Int32) (m_there : List Int32) (m_used : List Int32) (m_hidden : List Int32) (m_kind : List Int32) (m_figure : List Int32) (m_cargo : List Int32) (m_load : List Int32) (n_there : List Int32) (n_used : List Int32) (n_hidden : List Int32) (n_kind : List Int32) (n_figure : List Int32) (n_cargo : List Int32) (n_load : List Int32) (m_ships : Int32) (m_inn : Int32) (m_coughs : Int32) (m_day : Int32) (n_ships : Int32) (n_inn : Int32) (n_coughs : Int32) (n_day : Int32) (p0 : Int32) : Option (List Int32 × List Int32 × List Int32 × List Int32 × List Int32 × List Int32 × List Int32 × List Int32 × Int32 × Int32 × Int32 × Int32 × Int32) :=
  (X4_misfit p0 (0 : Int32) (60 : Int32)).bind fun u_1 =>
  if u_1 = (0 : Int32) then
  (X4_fromNow m_there m_used m_hidden m_kind m_figure m_cargo m_load n_there n_used n_hidden n_kind n_figure n_cargo n_load m_ships m_inn m_coughs m_day n_ships n_inn n_coughs n_day).bind fun u_3 =>
  (X0_wantWithin u_3.1 u_3.2.1 u_3.2.2.1 u_3.2.2.2.1 u_3.2.2.2.2.1 u_3.2.2.2.2.2.1 u_3.2.2.2.2.2.2.1 u_3.2.2.2.2.2.2.2.1 u_3.2.2.2.2.2.2.2.2.1 u_3.2.2.2.2.2.2.2.2.2.1 u_3.2.2.2.2.2.2.2.2.2.2 p0 (0 : Int32)).bind fun u_5 =>
  some (refusals, u_5.1, u_3.2.1, u_3.2.2.1, u_3.2.2.2.1, u_3.2.2.2.2.1, u_3.2.2.2.2.2.1, u_3.2.2.2.2.2.2.1, u_3.2.2.2.2.2.2.2.1, u_5.2.1, u_5.2.2.1, u_5.2.2.2.1, u_5.2.2.2.2)
  else
  (X4_refuse refusals u_1).bind fun u_7 =>
  some (u_7.1, m_there, m_used, m_hidden, m_kind, m_figure, m_cargo, m_load, m_ships, m_inn, m_coughs, m_day, u_7.2)
set_option maxRecDepth 100000 in
set_option maxHeartbeats 4000000 in
theorem c_X4_want {l : Launch} {G : Gx} {ad adt adb ade adm adn adk adp : Nat → Nat} {adr : Nat → Nat → Nat} {refusals tcells lcells m_there m_used m_hidden m_kind m_figure m_cargo m_load n_there n_used n_hidden n_kind n_figure n_cargo n_load k_there k_used k_hidden k_kind k_figure k_cargo k_load : List Int32} {isKept tlen llen m_ships m_inn m_coughs m_day n_ships n_inn n_coughs n_day k_ships k_inn k_coughs k_day held : Int32} {perm : Nat → Nat} {hist : Nat → Hs} {p0 : Int32} {out : List Int32 × List Int32 × List Int32 × List Int32 × List Int32 × List Int32 × List Int32 × List Int32 × Int32 × Int32 × Int32 × Int32 × Int32} (hf : X4_want refusals m_there m_used m_hidden m_kind m_figure m_cargo m_load n_there n_used n_hidden n_kind n_figure n_cargo n_load m_ships m_inn m_coughs m_day n_ships n_inn n_coughs n_day p0 = some out) : Ct l G yX4_want cX4_want 3 (some .int) 5 113 [.ref (ad 0), .int p0] (wT G ad adt adb ade adm adn adk adp adr refusals tcells lcells m_there m_used m_hidden m_kind m_figure m_cargo m_load n_there n_used n_hidden n_kind n_figure n_cargo n_load k_there k_used k_hidden k_kind k_figure k_cargo k_load isKept tlen llen m_ships m_inn m_coughs m_day n_ships n_inn n_coughs n_day k_ships k_inn k_coughs k_day held perm hist) (some (.int out.2.2.2.2.2.2.2.2.2.2.2.2)) (wT G ad adt adb ade adm adn adk adp adr out.1 tcells lcells out.2.1 out.2.2.1 out.2.2.2.1 out.2.2.2.2.1 out.2.2.2.2.2.1 out.2.2.2.2.2.2.1 out.2.2.2.2.2.2.2.1 n_there n_used n_hidden n_kind n_figure n_cargo n_load k_there k_used k_hidden k_kind k_figure k_cargo k_load isKept tlen llen out.2.2.2.2.2.2.2.2.1 out.2.2.2.2.2.2.2.2.2.1 out.2.2.2.2.2.2.2.2.2.2.1 out.2.2.2.2.2.2.2.2.2.2.2.1 n_ships n_inn n_coughs n_day k_ships k_inn k_coughs k_day held perm hist) := by
  refine Ct.intro RX4 rfl (plainFor_of_name (by decide)) (Nat.le_of_ble_eq_true rfl) rfl ?_
  intro p e s m args below meth c A C H locs hs ls hl
  obtain ⟨hx, hb, hml, hown, hts, hK, hret, hlk⟩ := id C
  have hl : lv_has ls 3 [(0, .ref (ad 0)), (1, .int p0)] := hl
  unfold X4_want at hf
  refine lv_iload_n hx hb (dk hX4_want_0 0 rfl) rfl (lv_at hl 1 rfl) ?_
  refine lv_iconst (v := (0 : Int32)) hx hb (dk hX4_want_0 1 rfl) (by decide) ?_
  refine lv_bipush (v := (60 : Int32)) hx hb (dk hX4_want_0 2 rfl) (by decide) ?_
  obtain ⟨u_1, e_2, hf⟩ := Option.bind_eq_some_iff.mp hf
  refine Ct.S (As := [.int p0, .int (0 : Int32), .int (60 : Int32)]) (rest := []) (st1 := [.int u_1]) (w1 := (wT G ad adt adb ade adm adn adk adp adr refusals tcells lcells m_there m_used m_hidden m_kind m_figure m_cargo m_load n_there n_used n_hidden n_kind n_figure n_cargo n_load k_there k_used k_hidden k_kind k_figure k_cargo k_load isKept tlen llen m_ships m_inn m_coughs m_day n_ships n_inn n_coughs n_day k_ships k_inn k_coughs k_day held perm hist)) C hs (c_X4_misfit e_2) tw_224 tw_225 tw_17 tw_226 nq_X4_misfit (by decide) rfl hl.1 rfl (Nat.le_of_ble_eq_true rfl) (dk hX4_want_0 3 rfl) ⟨Nat.zero_le _, Nat.zero_le _⟩ rfl (fun H locs hs => ?_)
  refine lv_istore_n (lv' := [(2, .int u_1), (0, .ref (ad 0)), (1, .int p0)]) hx hb (dk hX4_want_0 4 rfl) rfl hl (by decide) rfl (fun ls hl => ?_)
  refine lv_iload_n hx hb (dk hX4_want_0 5 rfl) rfl (lv_at hl 0 rfl) ?_
  refine lv_if_eq (tgt := 20) hx hb (dk hX4_want_0 6 rfl) (by decide) (fun hc => ?_) (fun hc => ?_)
  · replace hf := ip hf hc
    refine lv_aload_n hx hb (dk hX4_want_0 11 rfl) rfl (lv_at hl 1 rfl) ?_
    obtain ⟨u_3, e_4, hf⟩ := Option.bind_eq_some_iff.mp hf
    refine Ct.V (As := []) (rest := []) (st1 := [.ref (adm 0)]) (w1 := (wT G ad adt adb ade adm adn adk adp adr refusals tcells lcells u_3.1 u_3.2.1 u_3.2.2.1 u_3.2.2.2.1 u_3.2.2.2.2.1 u_3.2.2.2.2.2.1 u_3.2.2.2.2.2.2.1 n_there n_used n_hidden n_kind n_figure n_cargo n_load k_there k_used k_hidden k_kind k_figure k_cargo k_load isKept tlen llen u_3.2.2.2.2.2.2.2.1 u_3.2.2.2.2.2.2.2.2.1 u_3.2.2.2.2.2.2.2.2.2.1 u_3.2.2.2.2.2.2.2.2.2.2 n_ships n_inn n_coughs n_day k_ships k_inn k_coughs k_day held perm hist)) C hs (c_X4_fromNow e_4) tw_312 tw_314 tw_4 tw_17 tw_315 nq_X4_fromNow (by decide) 0 4 rfl rfl rfl rfl hl.1 rfl (Nat.le_of_ble_eq_true rfl) (dk hX4_want_0 12 rfl) ⟨Nat.zero_le _, Nat.zero_le _⟩ rfl (fun H locs hs => ?_)
    refine lv_iload_n hx hb (dk hX4_want_0 13 rfl) rfl (lv_at hl 2 rfl) ?_
    refine lv_iconst (v := (0 : Int32)) hx hb (dk hX4_want_0 14 rfl) (by decide) ?_
    obtain ⟨u_5, e_6, hf⟩ := Option.bind_eq_some_iff.mp hf
    refine Ct.V (As := [.int p0, .int (0 : Int32)]) (rest := []) (st1 := [.int u_5.2.2.2.2]) (w1 := (wT G ad adt adb ade adm adn adk adp adr refusals tcells lcells u_5.1 u_3.2.1 u_3.2.2.1 u_3.2.2.2.1 u_3.2.2.2.2.1 u_3.2.2.2.2.2.1 u_3.2.2.2.2.2.2.1 n_there n_used n_hidden n_kind n_figure n_cargo n_load k_there k_used k_hidden k_kind k_figure k_cargo k_load isKept tlen llen u_3.2.2.2.2.2.2.2.1 u_5.2.1 u_5.2.2.1 u_5.2.2.2.1 n_ships n_inn n_coughs n_day k_ships k_inn k_coughs k_day held perm hist)) C hs (c_X0_wantWithin__mind e_6) tw_378 tw_379 tw_380 tw_18 tw_381 nq_X0_wantWithin (by decide) 7 0 rfl rfl rfl rfl hl.1 rfl (Nat.le_of_ble_eq_true rfl) (dk hX4_want_0 15 rfl) ⟨Nat.zero_le _, Nat.zero_le _⟩ rfl (fun H locs hs => ?_)
    cases hf
    exact ri C hs (dk hX4_want_0 16 rfl)
  · replace hf := in_ hf hc
    refine lv_aload_n hx hb (dk hX4_want_0 7 rfl) rfl (lv_at hl 1 rfl) ?_
    refine lv_iload_n hx hb (dk hX4_want_0 8 rfl) rfl (lv_at hl 0 rfl) ?_
    obtain ⟨u_7, e_8, hf⟩ := Option.bind_eq_some_iff.mp hf
    refine Ct.V (As := [.int u_1]) (rest := []) (st1 := [.int u_7.2]) (w1 := (wT G ad adt adb ade adm adn adk adp adr u_7.1 tcells lcells m_there m_used m_hidden m_kind m_figure m_cargo m_load n_there n_used n_hidden n_kind n_figure n_cargo n_load k_there k_used k_hidden k_kind k_figure k_cargo k_load isKept tlen llen m_ships m_inn m_coughs m_day n_ships n_inn n_coughs n_day k_ships k_inn k_coughs k_day held perm hist)) C hs (c_X4_refuse e_8) tw_166 tw_168 tw_0 tw_17 tw_169 nq_X4_refuse (by decide) 0 4 rfl rfl rfl rfl hl.1 rfl (Nat.le_of_ble_eq_true rfl) (dk hX4_want_0 9 rfl) ⟨Nat.zero_le _, Nat.zero_le _⟩ rfl (fun H locs hs => ?_)
    refine lv_goto (tgt := 29) hx hb (dk hX4_want_0 10 rfl) (by decide) ?_
    cases hf
    exact ri C hs (dk hX4_want_0 16 rfl)

def X4_bare_L23 (k : List Int32 → Int32 → Int32 → Int32 → Option (List Int32 × List Int32 × List Int32 × List Int32 × List Int32 × List Int32 × List Int32 × List Int32 × Int32 × Int32 × Int32 × Int32 × Int32)) (refusals : List Int32) (m_used : List Int32) (m_hidden : List Int32) (m_kind : List Int32) (m_figure : List Int32) (m_cargo : List Int32) (m_load : List Int32) (m_ships : Int32) (x1 : Int32) : Nat → Int32 → List Int32 → Int32 → Int32 → Int32 → Option (List Int32 × List Int32 × List Int32 × List Int32 × List Int32 × List Int32 × List Int32 × List Int32 × Int32 × Int32 × Int32 × Int32 × Int32)
  | 0, _, _, _, _, _ => none
  | n + 1, x3, m_there, m_inn, m_coughs, m_day =>
  if (60 : Int32) < x3 then
  k m_there m_inn m_coughs m_day
  else
  (X0_firstBare m_there).bind fun u_5 =>
  if u_5 = (-9 : Int32) then
  (X0_passDay m_there m_used m_hidden m_kind m_figure m_cargo m_load m_ships m_inn m_coughs m_day (0 : Int32)).bind fun u_7 =>
  X4_bare_L23 k refusals m_used m_hidden m_kind m_figure m_cargo m_load m_ships x1 n (x3 + (1 : Int32)) u_7.1 u_7.2.1 u_7.2.2.1 u_7.2.2.2
  else
  if x1 = (0 : Int32) then
  some (refusals, m_there, m_used, m_hidden, m_kind, m_figure, m_cargo, m_load, m_ships, m_inn, m_coughs, m_day, u_5)
  else
  some (refusals, m_there, m_used, m_hidden, m_kind, m_figure, m_cargo, m_load, m_ships, m_inn, m_coughs, m_day, x3)
def X4_bare (refusals : List Int32) (m_there : List Int32) (m_used : List Int32) (m_hidden : List Int32) (m_kind : List Int32) (m_figure : List Int32) (m_cargo : List Int32) (m_load : List Int32) (n_there : List Int32) (n_used : List Int32) (n_hidden : List Int32) (n_kind : List Int32) (n_figure : List Int32) (n_cargo : List Int32) (n_load : List Int32) (m_ships : Int32) (m_inn : Int32) (m_coughs : Int32) (m_day : Int32) (n_ships : Int32) (n_inn : Int32) (n_coughs : Int32) (n_day : Int32) (p0 : Int32) : Option (List Int32 × List Int32 × List Int32 × List Int32 × List Int32 × List Int32 × List Int32 × List Int32 × Int32 × Int32 × Int32 × Int32 × Int32) :=
  if p0 < (0 : Int32) then
  (X4_refuse refusals (-2 : Int32)).bind fun u_1 =>
  some (u_1.1, m_there, m_used, m_hidden, m_kind, m_figure, m_cargo, m_load, m_ships, m_inn, m_coughs, m_day, u_1.2)
  else
  if p0 ≤ (1 : Int32) then
  (X4_fromNow m_there m_used m_hidden m_kind m_figure m_cargo m_load n_there n_used n_hidden n_kind n_figure n_cargo n_load m_ships m_inn m_coughs m_day n_ships n_inn n_coughs n_day).bind fun u_3 =>
  X4_bare_L23 (fun m_there_9 m_inn_10 m_coughs_11 m_day_12 =>
  some (refusals, m_there_9, u_3.2.1, u_3.2.2.1, u_3.2.2.2.1, u_3.2.2.2.2.1, u_3.2.2.2.2.2.1, u_3.2.2.2.2.2.2.1, u_3.2.2.2.2.2.2.2.1, m_inn_10, m_coughs_11, m_day_12, (-9 : Int32))) refusals u_3.2.1 u_3.2.2.1 u_3.2.2.2.1 u_3.2.2.2.2.1 u_3.2.2.2.2.2.1 u_3.2.2.2.2.2.2.1 u_3.2.2.2.2.2.2.2.1 p0 1000 (0 : Int32) u_3.1 u_3.2.2.2.2.2.2.2.2.1 u_3.2.2.2.2.2.2.2.2.2.1 u_3.2.2.2.2.2.2.2.2.2.2
  else
  (X4_refuse refusals (-2 : Int32)).bind fun u_13 =>
  some (u_13.1, m_there, m_used, m_hidden, m_kind, m_figure, m_cargo, m_load, m_ships, m_inn, m_coughs, m_day, u_13.2)
set_option maxRecDepth 100000 in
set_option maxHeartbeats 4000000 in
theorem l_X4_bare_L23 {l : Launch} {p : Program} {e : Env} {s : State} {m : MethodId} {args : Array Value} {below : List Frame} {meth : Method} {c : Code} {A : Nat → Prop} {G : Gx} {ad adt adb ade adm adn adk adp : Nat → Nat} {adr : Nat → Nat → Nat} {refusals tcells lcells m_used m_hidden m_kind m_figure m_cargo m_load n_there n_used n_hidden n_kind n_figure n_cargo n_load k_there k_used k_hidden k_kind k_figure k_cargo k_load : List Int32} {isKept tlen llen m_ships n_ships n_inn n_coughs n_day k_ships k_inn k_coughs k_day held : Int32} {perm : Nat → Nat} {hist : Nat → Hs} {x1 : Int32} {k : List Int32 → Int32 → Int32 → Int32 → Option (List Int32 × List Int32 × List Int32 × List Int32 × List Int32 × List Int32 × List Int32 × List Int32 × Int32 × Int32 × Int32 × Int32 × Int32)} {out : List Int32 × List Int32 × List Int32 × List Int32 × List Int32 × List Int32 × List Int32 × List Int32 × Int32 × Int32 × Int32 × Int32 × Int32} (C : Cx p s m args meth c cX4_bare RX4 5 (some .int) G) : ∀ (n : Nat) (x3 : Int32) (m_there : List Int32) (m_inn : Int32) (m_coughs : Int32) (m_day : Int32), X4_bare_L23 k refusals m_used m_hidden m_kind m_figure m_cargo m_load m_ships x1 n x3 m_there m_inn m_coughs m_day = some out → ∀ (H : Heap) (locs : List Loc), St G A s.heap H locs (wT G ad adt adb ade adm adn adk adp adr refusals tcells lcells m_there m_used m_hidden m_kind m_figure m_cargo m_load n_there n_used n_hidden n_kind n_figure n_cargo n_load k_there k_used k_hidden k_kind k_figure k_cargo k_load isKept tlen llen m_ships m_inn m_coughs m_day n_ships n_inn n_coughs n_day k_ships k_inn k_coughs k_day held perm hist) → ∀ ls : Array Slot, lv_has ls 5 [(1, .int x1), (2, .ref (adm 0)), (3, .int x3)] → (∀ (z_m_there : List Int32) (z_m_inn : Int32) (z_m_coughs : Int32) (z_m_day : Int32), k z_m_there z_m_inn z_m_coughs z_m_day = some out → ∀ (H : Heap) (locs : List Loc), St G A s.heap H locs (wT G ad adt adb ade adm adn adk adp adr refusals tcells lcells z_m_there m_used m_hidden m_kind m_figure m_cargo m_load n_there n_used n_hidden n_kind n_figure n_cargo n_load k_there k_used k_hidden k_kind k_figure k_cargo k_load isKept tlen llen m_ships z_m_inn z_m_coughs z_m_day n_ships n_inn n_coughs n_day k_ships k_inn k_coughs k_day held perm hist) → ∀ ls : Array Slot, lv_has ls 5 [] → W p l e (rmOf 4 89) s m args below meth c H locs 0 0 (MQ below (Qof G A (some (.int out.2.2.2.2.2.2.2.2.2.2.2.2)) (wT G ad adt adb ade adm adn adk adp adr out.1 tcells lcells out.2.1 out.2.2.1 out.2.2.2.1 out.2.2.2.2.1 out.2.2.2.2.2.1 out.2.2.2.2.2.2.1 out.2.2.2.2.2.2.2.1 n_there n_used n_hidden n_kind n_figure n_cargo n_load k_there k_used k_hidden k_kind k_figure k_cargo k_load isKept tlen llen out.2.2.2.2.2.2.2.2.1 out.2.2.2.2.2.2.2.2.2.1 out.2.2.2.2.2.2.2.2.2.2.1 out.2.2.2.2.2.2.2.2.2.2.2.1 n_ships n_inn n_coughs n_day k_ships k_inn k_coughs k_day held perm hist)) args s 0 0 A) (F0 m 64 ls [])) → W p l e (rmOf 4 89) s m args below meth c H locs 0 0 (MQ below (Qof G A (some (.int out.2.2.2.2.2.2.2.2.2.2.2.2)) (wT G ad adt adb ade adm adn adk adp adr out.1 tcells lcells out.2.1 out.2.2.1 out.2.2.2.1 out.2.2.2.2.1 out.2.2.2.2.2.1 out.2.2.2.2.2.2.1 out.2.2.2.2.2.2.2.1 n_there n_used n_hidden n_kind n_figure n_cargo n_load k_there k_used k_hidden k_kind k_figure k_cargo k_load isKept tlen llen out.2.2.2.2.2.2.2.2.1 out.2.2.2.2.2.2.2.2.2.1 out.2.2.2.2.2.2.2.2.2.2.1 out.2.2.2.2.2.2.2.2.2.2.2.1 n_ships n_inn n_coughs n_day k_ships k_inn k_coughs k_day held perm hist)) args s 0 0 A) (F0 m 23 ls []) := by
  obtain ⟨hx, hb, hml, hown, hts, hK, hret, hlk⟩ := id C
  intro n
  induction n with
  | zero => intro x3 m_there m_inn m_coughs m_day hf; cases hf
  | succ n ih =>
    intro x3 m_there m_inn m_coughs m_day hf H locs hs ls hl hk
    rw [X4_bare_L23] at hf
    refine lv_iload_n hx hb (dk hX4_bare_0 14 rfl) rfl (lv_at hl 2 rfl) ?_
    refine lv_bipush (v := (60 : Int32)) hx hb (dk hX4_bare_0 15 rfl) (by decide) ?_
    refine lv_icmp_gt (tgt := 64) hx hb (dk hX4_bare_0 16 rfl) (by decide) (fun hc => ?_) (fun hc => ?_)
    · replace hf := ip hf hc
      exact hk _ _ _ _ hf _ _ hs _ (lv_sub hl [] rfl)
    · replace hf := in_ hf hc
      refine lv_aload_n hx hb (dk hX4_bare_0 17 rfl) rfl (lv_at hl 1 rfl) ?_
      obtain ⟨u_5, e_6, hf⟩ := Option.bind_eq_some_iff.mp hf
      refine Ct.V (As := []) (rest := []) (st1 := [.int u_5]) (w1 := (wT G ad adt adb ade adm adn adk adp adr refusals tcells lcells m_there m_used m_hidden m_kind m_figure m_cargo m_load n_there n_used n_hidden n_kind n_figure n_cargo n_load k_there k_used k_hidden k_kind k_figure k_cargo k_load isKept tlen llen m_ships m_inn m_coughs m_day n_ships n_inn n_coughs n_day k_ships k_inn k_coughs k_day held perm hist)) C hs (c_X0_firstBare__mind e_6) tw_390 tw_391 tw_392 tw_18 tw_393 nq_X0_firstBare (by decide) 7 0 rfl rfl rfl rfl hl.1 rfl (Nat.le_of_ble_eq_true rfl) (dk hX4_bare_0 18 rfl) ⟨Nat.zero_le _, Nat.zero_le _⟩ rfl (fun H locs hs => ?_)
      refine lv_istore (lv' := [(4, .int u_5), (1, .int x1), (2, .ref (adm 0)), (3, .int x3)]) hx hb (dk hX4_bare_0 19 rfl) hl (by decide) rfl (fun ls hl => ?_)
      refine lv_iload hx hb (dk hX4_bare_0 20 rfl) (lv_at hl 0 rfl) ?_
      refine lv_bipush (v := (-9 : Int32)) hx hb (dk hX4_bare_0 21 rfl) (by decide) ?_
      refine lv_icmp_eq (tgt := 53) hx hb (dk hX4_bare_0 22 rfl) (by decide) (fun hc => ?_) (fun hc => ?_)
      · replace hf := ip hf hc
        refine lv_aload_n hx hb (dk hX4_bare_0 29 rfl) rfl (lv_at hl 2 rfl) ?_
        refine lv_iconst (v := (0 : Int32)) hx hb (dk hX4_bare_0 30 rfl) (by decide) ?_
        obtain ⟨u_7, e_8, hf⟩ := Option.bind_eq_some_iff.mp hf
        refine Ct.V (As := [.int (0 : Int32)]) (rest := []) (st1 := []) (w1 := (wT G ad adt adb ade adm adn adk adp adr refusals tcells lcells u_7.1 m_used m_hidden m_kind m_figure m_cargo m_load n_there n_used n_hidden n_kind n_figure n_cargo n_load k_there k_used k_hidden k_kind k_figure k_cargo k_load isKept tlen llen m_ships u_7.2.1 u_7.2.2.1 u_7.2.2.2 n_ships n_inn n_coughs n_day k_ships k_inn k_coughs k_day held perm hist)) C hs (c_X0_passDay__mind e_8) tw_329 tw_273 tw_274 tw_18 tw_275 nq_X0_passDay (by decide) 7 0 rfl rfl rfl rfl hl.1 rfl (Nat.le_of_ble_eq_true rfl) (dk hX4_bare_0 31 rfl) ⟨Nat.zero_le _, Nat.zero_le _⟩ rfl (fun H locs hs => ?_)
        refine lv_iinc (v := (x3 + (1 : Int32))) (lv' := [(3, .int (x3 + (1 : Int32))), (4, .int u_5), (1, .int x1), (2, .ref (adm 0))]) hx hb (dk hX4_bare_0 32 rfl) hl (k := 3) rfl (by first | rfl | decide) (by decide) rfl (fun ls hl => ?_)
        refine lv_goto (tgt := 23) hx hb (dk hX4_bare_0 33 rfl) (by decide) ?_
        exact ih _ _ _ _ _ hf _ _ hs _ (lv_sub hl [2, 3, 0] rfl) hk
      · replace hf := in_ hf hc
        refine lv_iload_n hx hb (dk hX4_bare_0 23 rfl) rfl (lv_at hl 1 rfl) ?_
        refine lv_if_ne (tgt := 51) hx hb (dk hX4_bare_0 24 rfl) (by decide) (fun hc => ?_) (fun hc => ?_)
        · replace hf := in_ hf hc
          refine lv_iload_n hx hb (dk hX4_bare_0 27 rfl) rfl (lv_at hl 3 rfl) ?_
          cases hf
          exact ri C hs (dk hX4_bare_0 28 rfl)
        · replace hf := ip hf hc
          refine lv_iload hx hb (dk hX4_bare_0 25 rfl) (lv_at hl 0 rfl) ?_
          refine lv_goto (tgt := 52) hx hb (dk hX4_bare_0 26 rfl) (by decide) ?_
          cases hf
          exact ri C hs (dk hX4_bare_0 28 rfl)
set_option maxRecDepth 100000 in
set_option maxHeartbeats 4000000 in
theorem c_X4_bare {l : Launch} {G : Gx} {ad adt adb ade adm adn adk adp : Nat → Nat} {adr : Nat → Nat → Nat} {refusals tcells lcells m_there m_used m_hidden m_kind m_figure m_cargo m_load n_there n_used n_hidden n_kind n_figure n_cargo n_load k_there k_used k_hidden k_kind k_figure k_cargo k_load : List Int32} {isKept tlen llen m_ships m_inn m_coughs m_day n_ships n_inn n_coughs n_day k_ships k_inn k_coughs k_day held : Int32} {perm : Nat → Nat} {hist : Nat → Hs} {p0 : Int32} {out : List Int32 × List Int32 × List Int32 × List Int32 × List Int32 × List Int32 × List Int32 × List Int32 × Int32 × Int32 × Int32 × Int32 × Int32} (hf : X4_bare refusals m_there m_used m_hidden m_kind m_figure m_cargo m_load n_there n_used n_hidden n_kind n_figure n_cargo n_load m_ships m_inn m_coughs m_day n_ships n_inn n_coughs n_day p0 = some out) : Ct l G yX4_bare cX4_bare 5 (some .int) 4 89 [.ref (ad 0), .int p0] (wT G ad adt adb ade adm adn adk adp adr refusals tcells lcells m_there m_used m_hidden m_kind m_figure m_cargo m_load n_there n_used n_hidden n_kind n_figure n_cargo n_load k_there k_used k_hidden k_kind k_figure k_cargo k_load isKept tlen llen m_ships m_inn m_coughs m_day n_ships n_inn n_coughs n_day k_ships k_inn k_coughs k_day held perm hist) (some (.int out.2.2.2.2.2.2.2.2.2.2.2.2)) (wT G ad adt adb ade adm adn adk adp adr out.1 tcells lcells out.2.1 out.2.2.1 out.2.2.2.1 out.2.2.2.2.1 out.2.2.2.2.2.1 out.2.2.2.2.2.2.1 out.2.2.2.2.2.2.2.1 n_there n_used n_hidden n_kind n_figure n_cargo n_load k_there k_used k_hidden k_kind k_figure k_cargo k_load isKept tlen llen out.2.2.2.2.2.2.2.2.1 out.2.2.2.2.2.2.2.2.2.1 out.2.2.2.2.2.2.2.2.2.2.1 out.2.2.2.2.2.2.2.2.2.2.2.1 n_ships n_inn n_coughs n_day k_ships k_inn k_coughs k_day held perm hist) := by
  refine Ct.intro RX4 rfl (plainFor_of_name (by decide)) (Nat.le_of_ble_eq_true rfl) rfl ?_
  intro p e s m args below meth c A C H locs hs ls hl
  obtain ⟨hx, hb, hml, hown, hts, hK, hret, hlk⟩ := id C
  have hl : lv_has ls 5 [(0, .ref (ad 0)), (1, .int p0)] := hl
  unfold X4_bare at hf
  refine lv_iload_n hx hb (dk hX4_bare_0 0 rfl) rfl (lv_at hl 1 rfl) ?_
  refine lv_if_lt (tgt := 9) hx hb (dk hX4_bare_0 1 rfl) (by decide) (fun hc => ?_) (fun hc => ?_)
  · replace hf := ip hf hc
    refine lv_aload_n hx hb (dk hX4_bare_0 5 rfl) rfl (lv_at hl 0 rfl) ?_
    refine lv_bipush (v := (-2 : Int32)) hx hb (dk hX4_bare_0 6 rfl) (by decide) ?_
    obtain ⟨u_1, e_2, hf⟩ := Option.bind_eq_some_iff.mp hf
    refine Ct.V (As := [.int (-2 : Int32)]) (rest := []) (st1 := [.int u_1.2]) (w1 := (wT G ad adt adb ade adm adn adk adp adr u_1.1 tcells lcells m_there m_used m_hidden m_kind m_figure m_cargo m_load n_there n_used n_hidden n_kind n_figure n_cargo n_load k_there k_used k_hidden k_kind k_figure k_cargo k_load isKept tlen llen m_ships m_inn m_coughs m_day n_ships n_inn n_coughs n_day k_ships k_inn k_coughs k_day held perm hist)) C hs (c_X4_refuse e_2) tw_166 tw_168 tw_0 tw_17 tw_169 nq_X4_refuse (by decide) 0 4 rfl rfl rfl rfl hl.1 rfl (Nat.le_of_ble_eq_true rfl) (dk hX4_bare_0 7 rfl) ⟨Nat.zero_le _, Nat.zero_le _⟩ rfl (fun H locs hs => ?_)
    cases hf
    exact ri C hs (dk hX4_bare_0 8 rfl)
  · replace hf := in_ hf hc
    refine lv_iload_n hx hb (dk hX4_bare_0 2 rfl) rfl (lv_at hl 1 rfl) ?_
    refine lv_iconst (v := (1 : Int32)) hx hb (dk hX4_bare_0 3 rfl) (by decide) ?_
    refine lv_icmp_le (tgt := 16) hx hb (dk hX4_bare_0 4 rfl) (by decide) (fun hc => ?_) (fun hc => ?_)
    · replace hf := ip hf hc
      refine lv_aload_n hx hb (dk hX4_bare_0 9 rfl) rfl (lv_at hl 0 rfl) ?_
      obtain ⟨u_3, e_4, hf⟩ := Option.bind_eq_some_iff.mp hf
      refine Ct.V (As := []) (rest := []) (st1 := [.ref (adm 0)]) (w1 := (wT G ad adt adb ade adm adn adk adp adr refusals tcells lcells u_3.1 u_3.2.1 u_3.2.2.1 u_3.2.2.2.1 u_3.2.2.2.2.1 u_3.2.2.2.2.2.1 u_3.2.2.2.2.2.2.1 n_there n_used n_hidden n_kind n_figure n_cargo n_load k_there k_used k_hidden k_kind k_figure k_cargo k_load isKept tlen llen u_3.2.2.2.2.2.2.2.1 u_3.2.2.2.2.2.2.2.2.1 u_3.2.2.2.2.2.2.2.2.2.1 u_3.2.2.2.2.2.2.2.2.2.2 n_ships n_inn n_coughs n_day k_ships k_inn k_coughs k_day held perm hist)) C hs (c_X4_fromNow e_4) tw_312 tw_314 tw_4 tw_17 tw_315 nq_X4_fromNow (by decide) 0 4 rfl rfl rfl rfl hl.1 rfl (Nat.le_of_ble_eq_true rfl) (dk hX4_bare_0 10 rfl) ⟨Nat.zero_le _, Nat.zero_le _⟩ rfl (fun H locs hs => ?_)
      refine lv_astore_n (lv' := [(2, .ref (adm 0)), (0, .ref (ad 0)), (1, .int p0)]) hx hb (dk hX4_bare_0 11 rfl) rfl hl (by decide) rfl (fun ls hl => ?_)
      refine lv_iconst (v := (0 : Int32)) hx hb (dk hX4_bare_0 12 rfl) (by decide) ?_
      refine lv_istore_n (lv' := [(3, .int (0 : Int32)), (2, .ref (adm 0)), (0, .ref (ad 0)), (1, .int p0)]) hx hb (dk hX4_bare_0 13 rfl) rfl hl (by decide) rfl (fun ls hl => ?_)
      refine l_X4_bare_L23 C 1000 _ _ _ _ _ hf _ _ hs _ (lv_sub hl [3, 1, 0] rfl) (fun m_there_9 m_inn_10 m_coughs_11 m_day_12 hf H locs hs ls hl => ?_)
      refine lv_bipush (v := (-9 : Int32)) hx hb (dk hX4_bare_0 34 rfl) (by decide) ?_
      cases hf
      exact ri C hs (dk hX4_bare_0 35 rfl)
    · replace hf := in_ hf hc
      refine lv_aload_n hx hb (dk hX4_bare_0 5 rfl) rfl (lv_at hl 0 rfl) ?_
      refine lv_bipush (v := (-2 : Int32)) hx hb (dk hX4_bare_0 6 rfl) (by decide) ?_
      obtain ⟨u_13, e_14, hf⟩ := Option.bind_eq_some_iff.mp hf
      refine Ct.V (As := [.int (-2 : Int32)]) (rest := []) (st1 := [.int u_13.2]) (w1 := (wT G ad adt adb ade adm adn adk adp adr u_13.1 tcells lcells m_there m_used m_hidden m_kind m_figure m_cargo m_load n_there n_used n_hidden n_kind n_figure n_cargo n_load k_there k_used k_hidden k_kind k_figure k_cargo k_load isKept tlen llen m_ships m_inn m_coughs m_day n_ships n_inn n_coughs n_day k_ships k_inn k_coughs k_day held perm hist)) C hs (c_X4_refuse e_14) tw_166 tw_168 tw_0 tw_17 tw_169 nq_X4_refuse (by decide) 0 4 rfl rfl rfl rfl hl.1 rfl (Nat.le_of_ble_eq_true rfl) (dk hX4_bare_0 7 rfl) ⟨Nat.zero_le _, Nat.zero_le _⟩ rfl (fun H locs hs => ?_)
      cases hf
      exact ri C hs (dk hX4_bare_0 8 rfl)

def X4_deepest (refusals : List Int32) (n_there : List Int32) (n_used : List Int32) (n_kind : List Int32) (n_figure : List Int32) (n_cargo : List Int32) (n_ships : Int32) (p0 : Int32) : Option (List Int32 × Int32) :=
  if p0 = (0 : Int32) then
  (X0_deepestShip n_kind n_figure n_ships).bind fun u_1 =>
  some (refusals, u_1)
  else
  if p0 = (1 : Int32) then
  (X0_shortestGood n_there n_used).bind fun u_4 =>
  some (refusals, u_4)
  else
  if p0 = (2 : Int32) then
  (X0_shortestGood n_there n_used).bind fun u_7 =>
  (X0_lackOf n_there n_used u_7).bind fun u_9 =>
  some (refusals, u_9)
  else
  if p0 = (3 : Int32) then
  (X0_plenty n_there n_used).bind fun u_12 =>
  some (refusals, u_12)
  else
  if p0 = (4 : Int32) then
  (X0_twins n_cargo n_ships).bind fun u_15 =>
  some (refusals, u_15)
  else
  (X4_refuse refusals (-2 : Int32)).bind fun u_18 =>
  some (u_18.1, u_18.2)
set_option maxRecDepth 100000 in
set_option maxHeartbeats 4000000 in
theorem c_X4_deepest {l : Launch} {G : Gx} {ad adt adb ade adm adn adk adp : Nat → Nat} {adr : Nat → Nat → Nat} {refusals tcells lcells m_there m_used m_hidden m_kind m_figure m_cargo m_load n_there n_used n_hidden n_kind n_figure n_cargo n_load k_there k_used k_hidden k_kind k_figure k_cargo k_load : List Int32} {isKept tlen llen m_ships m_inn m_coughs m_day n_ships n_inn n_coughs n_day k_ships k_inn k_coughs k_day held : Int32} {perm : Nat → Nat} {hist : Nat → Hs} {p0 : Int32} {out : List Int32 × Int32} (hf : X4_deepest refusals n_there n_used n_kind n_figure n_cargo n_ships p0 = some out) : Ct l G yX4_deepest cX4_deepest 2 (some .int) 2 44 [.ref (ad 0), .int p0] (wT G ad adt adb ade adm adn adk adp adr refusals tcells lcells m_there m_used m_hidden m_kind m_figure m_cargo m_load n_there n_used n_hidden n_kind n_figure n_cargo n_load k_there k_used k_hidden k_kind k_figure k_cargo k_load isKept tlen llen m_ships m_inn m_coughs m_day n_ships n_inn n_coughs n_day k_ships k_inn k_coughs k_day held perm hist) (some (.int out.2)) (wT G ad adt adb ade adm adn adk adp adr out.1 tcells lcells m_there m_used m_hidden m_kind m_figure m_cargo m_load n_there n_used n_hidden n_kind n_figure n_cargo n_load k_there k_used k_hidden k_kind k_figure k_cargo k_load isKept tlen llen m_ships m_inn m_coughs m_day n_ships n_inn n_coughs n_day k_ships k_inn k_coughs k_day held perm hist) := by
  refine Ct.intro RX4 rfl (plainFor_of_name (by decide)) (Nat.le_of_ble_eq_true rfl) rfl ?_
  intro p e s m args below meth c A C H locs hs ls hl
  obtain ⟨hx, hb, hml, hown, hts, hK, hret, hlk⟩ := id C
  have hl : lv_has ls 2 [(0, .ref (ad 0)), (1, .int p0)] := hl
  unfold X4_deepest at hf
  refine lv_iload_n hx hb (dk hX4_deepest_0 0 rfl) rfl (lv_at hl 1 rfl) ?_
  by_cases hc_3 : p0 = (0 : Int32)
  · replace hf := ip hf hc_3
    refine rts (tgt := 36) (off := 35) hx hb (dk hX4_deepest_0 1 rfl) hc_3 (by decide) (by decide) (by decide) (by decide) ?_
    refine lv_aload_n hx hb (dk hX4_deepest_0 2 rfl) rfl (lv_at hl 0 rfl) ?_
    refine rg ui4 rfl C hs 0 rfl 0 (by decide) tw_134 rfl rfl (dk hX4_deepest_0 3 rfl) ?_
    obtain ⟨u_1, e_2, hf⟩ := Option.bind_eq_some_iff.mp hf
    refine Ct.V (As := []) (rest := []) (st1 := [.int u_1]) (w1 := (wT G ad adt adb ade adm adn adk adp adr refusals tcells lcells m_there m_used m_hidden m_kind m_figure m_cargo m_load n_there n_used n_hidden n_kind n_figure n_cargo n_load k_there k_used k_hidden k_kind k_figure k_cargo k_load isKept tlen llen m_ships m_inn m_coughs m_day n_ships n_inn n_coughs n_day k_ships k_inn k_coughs k_day held perm hist)) C hs (c_X0_deepestShip__now e_2) tw_398 tw_399 tw_400 tw_18 tw_401 nq_X0_deepestShip (by decide) 15 0 rfl rfl rfl rfl hl.1 rfl (Nat.le_of_ble_eq_true rfl) (dk hX4_deepest_0 4 rfl) ⟨Nat.zero_le _, Nat.zero_le _⟩ rfl (fun H locs hs => ?_)
    cases hf
    exact ri C hs (dk hX4_deepest_0 5 rfl)
  · replace hf := in_ hf hc_3
    by_cases hc_6 : p0 = (1 : Int32)
    · replace hf := ip hf hc_6
      refine rts (tgt := 44) (off := 43) hx hb (dk hX4_deepest_0 1 rfl) hc_6 (by decide) (by decide) (by decide) (by decide) ?_
      refine lv_aload_n hx hb (dk hX4_deepest_0 6 rfl) rfl (lv_at hl 0 rfl) ?_
      refine rg ui4 rfl C hs 0 rfl 0 (by decide) tw_134 rfl rfl (dk hX4_deepest_0 7 rfl) ?_
      obtain ⟨u_4, e_5, hf⟩ := Option.bind_eq_some_iff.mp hf
      refine Ct.V (As := []) (rest := []) (st1 := [.int u_4]) (w1 := (wT G ad adt adb ade adm adn adk adp adr refusals tcells lcells m_there m_used m_hidden m_kind m_figure m_cargo m_load n_there n_used n_hidden n_kind n_figure n_cargo n_load k_there k_used k_hidden k_kind k_figure k_cargo k_load isKept tlen llen m_ships m_inn m_coughs m_day n_ships n_inn n_coughs n_day k_ships k_inn k_coughs k_day held perm hist)) C hs (c_X0_shortestGood__now e_5) tw_402 tw_403 tw_404 tw_18 tw_405 nq_X0_shortestGood (by decide) 15 0 rfl rfl rfl rfl hl.1 rfl (Nat.le_of_ble_eq_true rfl) (dk hX4_deepest_0 8 rfl) ⟨Nat.zero_le _, Nat.zero_le _⟩ rfl (fun H locs hs => ?_)
      cases hf
      exact ri C hs (dk hX4_deepest_0 9 rfl)
    · replace hf := in_ hf hc_6
      by_cases hc_11 : p0 = (2 : Int32)
      · replace hf := ip hf hc_11
        refine rts (tgt := 52) (off := 51) hx hb (dk hX4_deepest_0 1 rfl) hc_11 (by decide) (by decide) (by decide) (by decide) ?_
        refine lv_aload_n hx hb (dk hX4_deepest_0 10 rfl) rfl (lv_at hl 0 rfl) ?_
        refine rg ui4 rfl C hs 0 rfl 0 (by decide) tw_134 rfl rfl (dk hX4_deepest_0 11 rfl) ?_
        refine lv_aload_n hx hb (dk hX4_deepest_0 12 rfl) rfl (lv_at hl 0 rfl) ?_
        refine rg ui4 rfl C hs 0 rfl 0 (by decide) tw_134 rfl rfl (dk hX4_deepest_0 13 rfl) ?_
        obtain ⟨u_7, e_8, hf⟩ := Option.bind_eq_some_iff.mp hf
        refine Ct.V (As := []) (rest := [.ref (adn 0)]) (st1 := [.int u_7, .ref (adn 0)]) (w1 := (wT G ad adt adb ade adm adn adk adp adr refusals tcells lcells m_there m_used m_hidden m_kind m_figure m_cargo m_load n_there n_used n_hidden n_kind n_figure n_cargo n_load k_there k_used k_hidden k_kind k_figure k_cargo k_load isKept tlen llen m_ships m_inn m_coughs m_day n_ships n_inn n_coughs n_day k_ships k_inn k_coughs k_day held perm hist)) C hs (c_X0_shortestGood__now e_8) tw_402 tw_403 tw_404 tw_18 tw_405 nq_X0_shortestGood (by decide) 15 0 rfl rfl rfl rfl hl.1 rfl (Nat.le_of_ble_eq_true rfl) (dk hX4_deepest_0 14 rfl) ⟨Nat.zero_le _, Nat.zero_le _⟩ rfl (fun H locs hs => ?_)
        obtain ⟨u_9, e_10, hf⟩ := Option.bind_eq_some_iff.mp hf
        refine Ct.V (As := [.int u_7]) (rest := []) (st1 := [.int u_9]) (w1 := (wT G ad adt adb ade adm adn adk adp adr refusals tcells lcells m_there m_used m_hidden m_kind m_figure m_cargo m_load n_there n_used n_hidden n_kind n_figure n_cargo n_load k_there k_used k_hidden k_kind k_figure k_cargo k_load isKept tlen llen m_ships m_inn m_coughs m_day n_ships n_inn n_coughs n_day k_ships k_inn k_coughs k_day held perm hist)) C hs (c_X0_lackOf__now e_10) tw_170 tw_171 tw_172 tw_18 tw_173 nq_X0_lackOf (by decide) 15 0 rfl rfl rfl rfl hl.1 rfl (Nat.le_of_ble_eq_true rfl) (dk hX4_deepest_0 15 rfl) ⟨Nat.zero_le _, Nat.zero_le _⟩ rfl (fun H locs hs => ?_)
        cases hf
        exact ri C hs (dk hX4_deepest_0 16 rfl)
      · replace hf := in_ hf hc_11
        by_cases hc_14 : p0 = (3 : Int32)
        · replace hf := ip hf hc_14
          refine rts (tgt := 67) (off := 66) hx hb (dk hX4_deepest_0 1 rfl) hc_14 (by decide) (by decide) (by decide) (by decide) ?_
          refine lv_aload_n hx hb (dk hX4_deepest_0 17 rfl) rfl (lv_at hl 0 rfl) ?_
          refine rg ui4 rfl C hs 0 rfl 0 (by decide) tw_134 rfl rfl (dk hX4_deepest_0 18 rfl) ?_
          obtain ⟨u_12, e_13, hf⟩ := Option.bind_eq_some_iff.mp hf
          refine Ct.V (As := []) (rest := []) (st1 := [.int u_12]) (w1 := (wT G ad adt adb ade adm adn adk adp adr refusals tcells lcells m_there m_used m_hidden m_kind m_figure m_cargo m_load n_there n_used n_hidden n_kind n_figure n_cargo n_load k_there k_used k_hidden k_kind k_figure k_cargo k_load isKept tlen llen m_ships m_inn m_coughs m_day n_ships n_inn n_coughs n_day k_ships k_inn k_coughs k_day held perm hist)) C hs (c_X0_plenty__now e_13) tw_406 tw_407 tw_408 tw_18 tw_409 nq_X0_plenty (by decide) 15 0 rfl rfl rfl rfl hl.1 rfl (Nat.le_of_ble_eq_true rfl) (dk hX4_deepest_0 19 rfl) ⟨Nat.zero_le _, Nat.zero_le _⟩ rfl (fun H locs hs => ?_)
          cases hf
          exact ri C hs (dk hX4_deepest_0 20 rfl)
        · replace hf := in_ hf hc_14
          by_cases hc_17 : p0 = (4 : Int32)
          · replace hf := ip hf hc_17
            refine rts (tgt := 75) (off := 74) hx hb (dk hX4_deepest_0 1 rfl) hc_17 (by decide) (by decide) (by decide) (by decide) ?_
            refine lv_aload_n hx hb (dk hX4_deepest_0 21 rfl) rfl (lv_at hl 0 rfl) ?_
            refine rg ui4 rfl C hs 0 rfl 0 (by decide) tw_134 rfl rfl (dk hX4_deepest_0 22 rfl) ?_
            obtain ⟨u_15, e_16, hf⟩ := Option.bind_eq_some_iff.mp hf
            refine Ct.V (As := []) (rest := []) (st1 := [.int u_15]) (w1 := (wT G ad adt adb ade adm adn adk adp adr refusals tcells lcells m_there m_used m_hidden m_kind m_figure m_cargo m_load n_there n_used n_hidden n_kind n_figure n_cargo n_load k_there k_used k_hidden k_kind k_figure k_cargo k_load isKept tlen llen m_ships m_inn m_coughs m_day n_ships n_inn n_coughs n_day k_ships k_inn k_coughs k_day held perm hist)) C hs (c_X0_twins__now e_16) tw_410 tw_411 tw_412 tw_18 tw_413 nq_X0_twins (by decide) 15 0 rfl rfl rfl rfl hl.1 rfl (Nat.le_of_ble_eq_true rfl) (dk hX4_deepest_0 23 rfl) ⟨Nat.zero_le _, Nat.zero_le _⟩ rfl (fun H locs hs => ?_)
            cases hf
            exact ri C hs (dk hX4_deepest_0 24 rfl)
          · replace hf := in_ hf hc_17
            refine rtd (tgt := 83) hx hb (dk hX4_deepest_0 1 rfl) [0, 1, 2, 3, 4] (by decide) (by decide) (List.forall_mem_cons.mpr ⟨ti hc_3 (by decide), List.forall_mem_cons.mpr ⟨ti hc_6 (by decide), List.forall_mem_cons.mpr ⟨ti hc_11 (by decide), List.forall_mem_cons.mpr ⟨ti hc_14 (by decide), List.forall_mem_cons.mpr ⟨ti hc_17 (by decide), fun _ h => absurd h List.not_mem_nil⟩⟩⟩⟩⟩) (by decide) ?_
            refine lv_aload_n hx hb (dk hX4_deepest_0 25 rfl) rfl (lv_at hl 0 rfl) ?_
            refine lv_bipush (v := (-2 : Int32)) hx hb (dk hX4_deepest_0 26 rfl) (by decide) ?_
            obtain ⟨u_18, e_19, hf⟩ := Option.bind_eq_some_iff.mp hf
            refine Ct.V (As := [.int (-2 : Int32)]) (rest := []) (st1 := [.int u_18.2]) (w1 := (wT G ad adt adb ade adm adn adk adp adr u_18.1 tcells lcells m_there m_used m_hidden m_kind m_figure m_cargo m_load n_there n_used n_hidden n_kind n_figure n_cargo n_load k_there k_used k_hidden k_kind k_figure k_cargo k_load isKept tlen llen m_ships m_inn m_coughs m_day n_ships n_inn n_coughs n_day k_ships k_inn k_coughs k_day held perm hist)) C hs (c_X4_refuse e_19) tw_166 tw_168 tw_0 tw_17 tw_169 nq_X4_refuse (by decide) 0 4 rfl rfl rfl rfl hl.1 rfl (Nat.le_of_ble_eq_true rfl) (dk hX4_deepest_0 27 rfl) ⟨Nat.zero_le _, Nat.zero_le _⟩ rfl (fun H locs hs => ?_)
            cases hf
            exact ri C hs (dk hX4_deepest_0 28 rfl)

def X4_filled_L9 (k : Int32 → List Int32 → Int32 → Int32 → Option (List Int32 × List Int32 × List Int32 × List Int32 × List Int32 × List Int32 × List Int32 × Int32 × Int32 × Int32 × Int32 × Int32)) (m_used : List Int32) (m_kind : List Int32) (m_cargo : List Int32) (m_load : List Int32) (m_ships : Int32) : Nat → Int32 → Int32 → List Int32 → Int32 → Int32 → Option (List Int32 × List Int32 × List Int32 × List Int32 × List Int32 × List Int32 × List Int32 × Int32 × Int32 × Int32 × Int32 × Int32)
  | 0, _, _, _, _, _ => none
  | n + 1, x2, x3, m_there, m_inn, m_coughs =>
  if m_ships ≤ x3 then
  k x2 m_there m_inn m_coughs
  else
  (X0_lackOfAll m_there m_used).bind fun u_3 =>
  if u_3 ≤ (0 : Int32) then
  k x2 m_there m_inn m_coughs
  else
  (X0_isIn m_inn x3).bind fun u_5 =>
  if u_5 = (0 : Int32) then
  (X0_letIn m_there m_kind m_cargo m_load m_inn m_coughs x3).bind fun u_7 =>
  X4_filled_L9 k m_used m_kind m_cargo m_load m_ships n (x2 + (1 : Int32)) (x3 + (1 : Int32)) u_7.1 u_7.2.1 u_7.2.2
  else
  X4_filled_L9 k m_used m_kind m_cargo m_load m_ships n x2 (x3 + (1 : Int32)) m_there m_inn m_coughs
def X4_filled (m_there : List Int32) (m_used : List Int32) (m_hidden : List Int32) (m_kind : List Int32) (m_figure : List Int32) (m_cargo : List Int32) (m_load : List Int32) (n_there : List Int32) (n_used : List Int32) (n_hidden : List Int32) (n_kind : List Int32) (n_figure : List Int32) (n_cargo : List Int32) (n_load : List Int32) (m_ships : Int32) (m_inn : Int32) (m_coughs : Int32) (m_day : Int32) (n_ships : Int32) (n_inn : Int32) (n_coughs : Int32) (n_day : Int32) : Option (List Int32 × List Int32 × List Int32 × List Int32 × List Int32 × List Int32 × List Int32 × Int32 × Int32 × Int32 × Int32 × Int32) :=
  (X4_fromNow m_there m_used m_hidden m_kind m_figure m_cargo m_load n_there n_used n_hidden n_kind n_figure n_cargo n_load m_ships m_inn m_coughs m_day n_ships n_inn n_coughs n_day).bind fun u_1 =>
  X4_filled_L9 (fun y2_9 m_there_10 m_inn_11 m_coughs_12 =>
  (X0_lackOfAll m_there_10 u_1.2.1).bind fun u_13 =>
  if u_13 = (0 : Int32) then
  some (m_there_10, u_1.2.1, u_1.2.2.1, u_1.2.2.2.1, u_1.2.2.2.2.1, u_1.2.2.2.2.2.1, u_1.2.2.2.2.2.2.1, u_1.2.2.2.2.2.2.2.1, m_inn_11, m_coughs_12, u_1.2.2.2.2.2.2.2.2.2.2, y2_9)
  else
  some (m_there_10, u_1.2.1, u_1.2.2.1, u_1.2.2.2.1, u_1.2.2.2.2.1, u_1.2.2.2.2.2.1, u_1.2.2.2.2.2.2.1, u_1.2.2.2.2.2.2.2.1, m_inn_11, m_coughs_12, u_1.2.2.2.2.2.2.2.2.2.2, (-9 : Int32))) u_1.2.1 u_1.2.2.2.1 u_1.2.2.2.2.2.1 u_1.2.2.2.2.2.2.1 u_1.2.2.2.2.2.2.2.1 1000 (0 : Int32) (0 : Int32) u_1.1 u_1.2.2.2.2.2.2.2.2.1 u_1.2.2.2.2.2.2.2.2.2.1
set_option maxRecDepth 100000 in
set_option maxHeartbeats 4000000 in
theorem l_X4_filled_L9 {l : Launch} {p : Program} {e : Env} {s : State} {m : MethodId} {args : Array Value} {below : List Frame} {meth : Method} {c : Code} {A : Nat → Prop} {G : Gx} {ad adt adb ade adm adn adk adp : Nat → Nat} {adr : Nat → Nat → Nat} {refusals tcells lcells m_used m_hidden m_kind m_figure m_cargo m_load n_there n_used n_hidden n_kind n_figure n_cargo n_load k_there k_used k_hidden k_kind k_figure k_cargo k_load : List Int32} {isKept tlen llen m_ships m_day n_ships n_inn n_coughs n_day k_ships k_inn k_coughs k_day held : Int32} {perm : Nat → Nat} {hist : Nat → Hs} {k : Int32 → List Int32 → Int32 → Int32 → Option (List Int32 × List Int32 × List Int32 × List Int32 × List Int32 × List Int32 × List Int32 × Int32 × Int32 × Int32 × Int32 × Int32)} {out : List Int32 × List Int32 × List Int32 × List Int32 × List Int32 × List Int32 × List Int32 × Int32 × Int32 × Int32 × Int32 × Int32} (C : Cx p s m args meth c cX4_filled RX4 4 (some .int) G) : ∀ (n : Nat) (x2 : Int32) (x3 : Int32) (m_there : List Int32) (m_inn : Int32) (m_coughs : Int32), X4_filled_L9 k m_used m_kind m_cargo m_load m_ships n x2 x3 m_there m_inn m_coughs = some out → ∀ (H : Heap) (locs : List Loc), St G A s.heap H locs (wT G ad adt adb ade adm adn adk adp adr refusals tcells lcells m_there m_used m_hidden m_kind m_figure m_cargo m_load n_there n_used n_hidden n_kind n_figure n_cargo n_load k_there k_used k_hidden k_kind k_figure k_cargo k_load isKept tlen llen m_ships m_inn m_coughs m_day n_ships n_inn n_coughs n_day k_ships k_inn k_coughs k_day held perm hist) → ∀ ls : Array Slot, lv_has ls 4 [(1, .ref (adm 0)), (2, .int x2), (3, .int x3)] → (∀ (y2 : Int32) (z_m_there : List Int32) (z_m_inn : Int32) (z_m_coughs : Int32), k y2 z_m_there z_m_inn z_m_coughs = some out → ∀ (H : Heap) (locs : List Loc), St G A s.heap H locs (wT G ad adt adb ade adm adn adk adp adr refusals tcells lcells z_m_there m_used m_hidden m_kind m_figure m_cargo m_load n_there n_used n_hidden n_kind n_figure n_cargo n_load k_there k_used k_hidden k_kind k_figure k_cargo k_load isKept tlen llen m_ships z_m_inn z_m_coughs m_day n_ships n_inn n_coughs n_day k_ships k_inn k_coughs k_day held perm hist) → ∀ ls : Array Slot, lv_has ls 4 [(1, .ref (adm 0)), (2, .int y2)] → W p l e (rmOf 3 66) s m args below meth c H locs 0 0 (MQ below (Qof G A (some (.int out.2.2.2.2.2.2.2.2.2.2.2)) (wT G ad adt adb ade adm adn adk adp adr refusals tcells lcells out.1 out.2.1 out.2.2.1 out.2.2.2.1 out.2.2.2.2.1 out.2.2.2.2.2.1 out.2.2.2.2.2.2.1 n_there n_used n_hidden n_kind n_figure n_cargo n_load k_there k_used k_hidden k_kind k_figure k_cargo k_load isKept tlen llen out.2.2.2.2.2.2.2.1 out.2.2.2.2.2.2.2.2.1 out.2.2.2.2.2.2.2.2.2.1 out.2.2.2.2.2.2.2.2.2.2.1 n_ships n_inn n_coughs n_day k_ships k_inn k_coughs k_day held perm hist)) args s 0 0 A) (F0 m 46 ls [])) → W p l e (rmOf 3 66) s m args below meth c H locs 0 0 (MQ below (Qof G A (some (.int out.2.2.2.2.2.2.2.2.2.2.2)) (wT G ad adt adb ade adm adn adk adp adr refusals tcells lcells out.1 out.2.1 out.2.2.1 out.2.2.2.1 out.2.2.2.2.1 out.2.2.2.2.2.1 out.2.2.2.2.2.2.1 n_there n_used n_hidden n_kind n_figure n_cargo n_load k_there k_used k_hidden k_kind k_figure k_cargo k_load isKept tlen llen out.2.2.2.2.2.2.2.1 out.2.2.2.2.2.2.2.2.1 out.2.2.2.2.2.2.2.2.2.1 out.2.2.2.2.2.2.2.2.2.2.1 n_ships n_inn n_coughs n_day k_ships k_inn k_coughs k_day held perm hist)) args s 0 0 A) (F0 m 9 ls []) := by
  obtain ⟨hx, hb, hml, hown, hts, hK, hret, hlk⟩ := id C
  intro n
  induction n with
  | zero => intro x2 x3 m_there m_inn m_coughs hf; cases hf
  | succ n ih =>
    intro x2 x3 m_there m_inn m_coughs hf H locs hs ls hl hk
    rw [X4_filled_L9] at hf
    refine lv_iload_n hx hb (dk hX4_filled_0 7 rfl) rfl (lv_at hl 2 rfl) ?_
    refine lv_aload_n hx hb (dk hX4_filled_0 8 rfl) rfl (lv_at hl 0 rfl) ?_
    refine rg ui0 rfl C hs 7 rfl 7 (by decide) tw_56 rfl rfl (dk hX4_filled_0 9 rfl) ?_
    refine lv_icmp_ge (tgt := 46) hx hb (dk hX4_filled_0 10 rfl) (by decide) (fun hc => ?_) (fun hc => ?_)
    · replace hf := ip hf hc
      exact hk _ _ _ _ hf _ _ hs _ (lv_sub hl [0, 1] rfl)
    · replace hf := in_ hf hc
      refine lv_aload_n hx hb (dk hX4_filled_0 11 rfl) rfl (lv_at hl 0 rfl) ?_
      obtain ⟨u_3, e_4, hf⟩ := Option.bind_eq_some_iff.mp hf
      refine Ct.V (As := []) (rest := []) (st1 := [.int u_3]) (w1 := (wT G ad adt adb ade adm adn adk adp adr refusals tcells lcells m_there m_used m_hidden m_kind m_figure m_cargo m_load n_there n_used n_hidden n_kind n_figure n_cargo n_load k_there k_used k_hidden k_kind k_figure k_cargo k_load isKept tlen llen m_ships m_inn m_coughs m_day n_ships n_inn n_coughs n_day k_ships k_inn k_coughs k_day held perm hist)) C hs (c_X0_lackOfAll__mind e_4) tw_418 tw_383 tw_384 tw_18 tw_385 nq_X0_lackOfAll (by decide) 7 0 rfl rfl rfl rfl hl.1 rfl (Nat.le_of_ble_eq_true rfl) (dk hX4_filled_0 12 rfl) ⟨Nat.zero_le _, Nat.zero_le _⟩ rfl (fun H locs hs => ?_)
      refine lv_if_le (tgt := 46) hx hb (dk hX4_filled_0 13 rfl) (by decide) (fun hc => ?_) (fun hc => ?_)
      · replace hf := ip hf hc
        exact hk _ _ _ _ hf _ _ hs _ (lv_sub hl [0, 1] rfl)
      · replace hf := in_ hf hc
        refine lv_aload_n hx hb (dk hX4_filled_0 14 rfl) rfl (lv_at hl 0 rfl) ?_
        refine lv_iload_n hx hb (dk hX4_filled_0 15 rfl) rfl (lv_at hl 2 rfl) ?_
        obtain ⟨u_5, e_6, hf⟩ := Option.bind_eq_some_iff.mp hf
        refine Ct.V (As := [.int x3]) (rest := []) (st1 := [.int u_5]) (w1 := (wT G ad adt adb ade adm adn adk adp adr refusals tcells lcells m_there m_used m_hidden m_kind m_figure m_cargo m_load n_there n_used n_hidden n_kind n_figure n_cargo n_load k_there k_used k_hidden k_kind k_figure k_cargo k_load isKept tlen llen m_ships m_inn m_coughs m_day n_ships n_inn n_coughs n_day k_ships k_inn k_coughs k_day held perm hist)) C hs (c_X0_isIn__mind e_6) tw_182 tw_183 tw_184 tw_18 tw_185 nq_X0_isIn (by decide) 7 0 rfl rfl rfl rfl hl.1 rfl (Nat.le_of_ble_eq_true rfl) (dk hX4_filled_0 16 rfl) ⟨Nat.zero_le _, Nat.zero_le _⟩ rfl (fun H locs hs => ?_)
        refine lv_if_ne (tgt := 40) hx hb (dk hX4_filled_0 17 rfl) (by decide) (fun hc => ?_) (fun hc => ?_)
        · replace hf := in_ hf hc
          refine lv_iinc (v := (x3 + (1 : Int32))) (lv' := [(3, .int (x3 + (1 : Int32))), (1, .ref (adm 0)), (2, .int x2)]) hx hb (dk hX4_filled_0 22 rfl) hl (k := 2) rfl (by first | rfl | decide) (by decide) rfl (fun ls hl => ?_)
          refine lv_goto (tgt := 9) hx hb (dk hX4_filled_0 23 rfl) (by decide) ?_
          exact ih _ _ _ _ _ hf _ _ hs _ (lv_sub hl [1, 2, 0] rfl) hk
        · replace hf := ip hf hc
          refine lv_aload_n hx hb (dk hX4_filled_0 18 rfl) rfl (lv_at hl 0 rfl) ?_
          refine lv_iload_n hx hb (dk hX4_filled_0 19 rfl) rfl (lv_at hl 2 rfl) ?_
          obtain ⟨u_7, e_8, hf⟩ := Option.bind_eq_some_iff.mp hf
          refine Ct.V (As := [.int x3]) (rest := []) (st1 := []) (w1 := (wT G ad adt adb ade adm adn adk adp adr refusals tcells lcells u_7.1 m_used m_hidden m_kind m_figure m_cargo m_load n_there n_used n_hidden n_kind n_figure n_cargo n_load k_there k_used k_hidden k_kind k_figure k_cargo k_load isKept tlen llen m_ships u_7.2.1 u_7.2.2 m_day n_ships n_inn n_coughs n_day k_ships k_inn k_coughs k_day held perm hist)) C hs (c_X0_letIn__mind e_8) tw_419 tw_279 tw_280 tw_18 tw_281 nq_X0_letIn (by decide) 7 0 rfl rfl rfl rfl hl.1 rfl (Nat.le_of_ble_eq_true rfl) (dk hX4_filled_0 20 rfl) ⟨Nat.zero_le _, Nat.zero_le _⟩ rfl (fun H locs hs => ?_)
          refine lv_iinc (v := (x2 + (1 : Int32))) (lv' := [(2, .int (x2 + (1 : Int32))), (1, .ref (adm 0)), (3, .int x3)]) hx hb (dk hX4_filled_0 21 rfl) hl (k := 1) rfl (by first | rfl | decide) (by decide) rfl (fun ls hl => ?_)
          refine lv_iinc (v := (x3 + (1 : Int32))) (lv' := [(3, .int (x3 + (1 : Int32))), (2, .int (x2 + (1 : Int32))), (1, .ref (adm 0))]) hx hb (dk hX4_filled_0 22 rfl) hl (k := 2) rfl (by first | rfl | decide) (by decide) rfl (fun ls hl => ?_)
          refine lv_goto (tgt := 9) hx hb (dk hX4_filled_0 23 rfl) (by decide) ?_
          exact ih _ _ _ _ _ hf _ _ hs _ (lv_sub hl [2, 1, 0] rfl) hk
set_option maxRecDepth 100000 in
set_option maxHeartbeats 4000000 in
theorem c_X4_filled {l : Launch} {G : Gx} {ad adt adb ade adm adn adk adp : Nat → Nat} {adr : Nat → Nat → Nat} {refusals tcells lcells m_there m_used m_hidden m_kind m_figure m_cargo m_load n_there n_used n_hidden n_kind n_figure n_cargo n_load k_there k_used k_hidden k_kind k_figure k_cargo k_load : List Int32} {isKept tlen llen m_ships m_inn m_coughs m_day n_ships n_inn n_coughs n_day k_ships k_inn k_coughs k_day held : Int32} {perm : Nat → Nat} {hist : Nat → Hs}  {out : List Int32 × List Int32 × List Int32 × List Int32 × List Int32 × List Int32 × List Int32 × Int32 × Int32 × Int32 × Int32 × Int32} (hf : X4_filled m_there m_used m_hidden m_kind m_figure m_cargo m_load n_there n_used n_hidden n_kind n_figure n_cargo n_load m_ships m_inn m_coughs m_day n_ships n_inn n_coughs n_day = some out) : Ct l G yX4_filled cX4_filled 4 (some .int) 3 66 [.ref (ad 0)] (wT G ad adt adb ade adm adn adk adp adr refusals tcells lcells m_there m_used m_hidden m_kind m_figure m_cargo m_load n_there n_used n_hidden n_kind n_figure n_cargo n_load k_there k_used k_hidden k_kind k_figure k_cargo k_load isKept tlen llen m_ships m_inn m_coughs m_day n_ships n_inn n_coughs n_day k_ships k_inn k_coughs k_day held perm hist) (some (.int out.2.2.2.2.2.2.2.2.2.2.2)) (wT G ad adt adb ade adm adn adk adp adr refusals tcells lcells out.1 out.2.1 out.2.2.1 out.2.2.2.1 out.2.2.2.2.1 out.2.2.2.2.2.1 out.2.2.2.2.2.2.1 n_there n_used n_hidden n_kind n_figure n_cargo n_load k_there k_used k_hidden k_kind k_figure k_cargo k_load isKept tlen llen out.2.2.2.2.2.2.2.1 out.2.2.2.2.2.2.2.2.1 out.2.2.2.2.2.2.2.2.2.1 out.2.2.2.2.2.2.2.2.2.2.1 n_ships n_inn n_coughs n_day k_ships k_inn k_coughs k_day held perm hist) := by
  refine Ct.intro RX4 rfl (plainFor_of_name (by decide)) (Nat.le_of_ble_eq_true rfl) rfl ?_
  intro p e s m args below meth c A C H locs hs ls hl
  obtain ⟨hx, hb, hml, hown, hts, hK, hret, hlk⟩ := id C
  have hl : lv_has ls 4 [(0, .ref (ad 0))] := hl
  unfold X4_filled at hf
  refine lv_aload_n hx hb (dk hX4_filled_0 0 rfl) rfl (lv_at hl 0 rfl) ?_
  obtain ⟨u_1, e_2, hf⟩ := Option.bind_eq_some_iff.mp hf
  refine Ct.V (As := []) (rest := []) (st1 := [.ref (adm 0)]) (w1 := (wT G ad adt adb ade adm adn adk adp adr refusals tcells lcells u_1.1 u_1.2.1 u_1.2.2.1 u_1.2.2.2.1 u_1.2.2.2.2.1 u_1.2.2.2.2.2.1 u_1.2.2.2.2.2.2.1 n_there n_used n_hidden n_kind n_figure n_cargo n_load k_there k_used k_hidden k_kind k_figure k_cargo k_load isKept tlen llen u_1.2.2.2.2.2.2.2.1 u_1.2.2.2.2.2.2.2.2.1 u_1.2.2.2.2.2.2.2.2.2.1 u_1.2.2.2.2.2.2.2.2.2.2 n_ships n_inn n_coughs n_day k_ships k_inn k_coughs k_day held perm hist)) C hs (c_X4_fromNow e_2) tw_312 tw_314 tw_4 tw_17 tw_315 nq_X4_fromNow (by decide) 0 4 rfl rfl rfl rfl hl.1 rfl (Nat.le_of_ble_eq_true rfl) (dk hX4_filled_0 1 rfl) ⟨Nat.zero_le _, Nat.zero_le _⟩ rfl (fun H locs hs => ?_)
  refine lv_astore_n (lv' := [(1, .ref (adm 0)), (0, .ref (ad 0))]) hx hb (dk hX4_filled_0 2 rfl) rfl hl (by decide) rfl (fun ls hl => ?_)
  refine lv_iconst (v := (0 : Int32)) hx hb (dk hX4_filled_0 3 rfl) (by decide) ?_
  refine lv_istore_n (lv' := [(2, .int (0 : Int32)), (1, .ref (adm 0)), (0, .ref (ad 0))]) hx hb (dk hX4_filled_0 4 rfl) rfl hl (by decide) rfl (fun ls hl => ?_)
  refine lv_iconst (v := (0 : Int32)) hx hb (dk hX4_filled_0 5 rfl) (by decide) ?_
  refine lv_istore_n (lv' := [(3, .int (0 : Int32)), (2, .int (0 : Int32)), (1, .ref (adm 0)), (0, .ref (ad 0))]) hx hb (dk hX4_filled_0 6 rfl) rfl hl (by decide) rfl (fun ls hl => ?_)
  refine l_X4_filled_L9 C 1000 _ _ _ _ _ hf _ _ hs _ (lv_sub hl [2, 1, 0] rfl) (fun y2_9 m_there_10 m_inn_11 m_coughs_12 hf H locs hs ls hl => ?_)
  refine lv_aload_n hx hb (dk hX4_filled_0 24 rfl) rfl (lv_at hl 0 rfl) ?_
  obtain ⟨u_13, e_14, hf⟩ := Option.bind_eq_some_iff.mp hf
  refine Ct.V (As := []) (rest := []) (st1 := [.int u_13]) (w1 := (wT G ad adt adb ade adm adn adk adp adr refusals tcells lcells m_there_10 u_1.2.1 u_1.2.2.1 u_1.2.2.2.1 u_1.2.2.2.2.1 u_1.2.2.2.2.2.1 u_1.2.2.2.2.2.2.1 n_there n_used n_hidden n_kind n_figure n_cargo n_load k_there k_used k_hidden k_kind k_figure k_cargo k_load isKept tlen llen u_1.2.2.2.2.2.2.2.1 m_inn_11 m_coughs_12 u_1.2.2.2.2.2.2.2.2.2.2 n_ships n_inn n_coughs n_day k_ships k_inn k_coughs k_day held perm hist)) C hs (c_X0_lackOfAll__mind e_14) tw_418 tw_383 tw_384 tw_18 tw_385 nq_X0_lackOfAll (by decide) 7 0 rfl rfl rfl rfl hl.1 rfl (Nat.le_of_ble_eq_true rfl) (dk hX4_filled_0 25 rfl) ⟨Nat.zero_le _, Nat.zero_le _⟩ rfl (fun H locs hs => ?_)
  refine lv_if_ne (tgt := 57) hx hb (dk hX4_filled_0 26 rfl) (by decide) (fun hc => ?_) (fun hc => ?_)
  · replace hf := in_ hf hc
    refine lv_bipush (v := (-9 : Int32)) hx hb (dk hX4_filled_0 29 rfl) (by decide) ?_
    cases hf
    exact ri C hs (dk hX4_filled_0 30 rfl)
  · replace hf := ip hf hc
    refine lv_iload_n hx hb (dk hX4_filled_0 27 rfl) rfl (lv_at hl 1 rfl) ?_
    refine lv_goto (tgt := 59) hx hb (dk hX4_filled_0 28 rfl) (by decide) ?_
    cases hf
    exact ri C hs (dk hX4_filled_0 30 rfl)

def X4_race (refusals : List Int32) (m_there : List Int32) (m_used : List Int32) (m_hidden : List Int32) (m_kind : List Int32) (m_figure : List Int32) (m_cargo : List Int32) (m_load : List Int32) (n_there : List Int32) (n_used : List Int32) (n_hidden : List Int32) (n_kind : List Int32) (n_figure : List Int32) (n_cargo : List Int32) (n_load : List Int32) (m_ships : Int32) (m_inn : Int32) (m_coughs : Int32) (m_day : Int32) (n_ships : Int32) (n_inn : Int32) (n_coughs : Int32) (n_day : Int32) (p0 : Int32) (p1 : Int32) : Option (List Int32 × List Int32 × List Int32 × List Int32 × List Int32 × List Int32 × List Int32 × List Int32 × Int32 × Int32 × Int32 × Int32 × Int32) :=
  (X0_isShip n_ships p0).bind fun u_1 =>
  if u_1 = (0 : Int32) then
  (X4_refuse refusals (-1 : Int32)).bind fun u_3 =>
  some (u_3.1, m_there, m_used, m_hidden, m_kind, m_figure, m_cargo, m_load, m_ships, m_inn, m_coughs, m_day, u_3.2)
  else
  (X0_isShip n_ships p1).bind fun u_5 =>
  if u_5 = (0 : Int32) then
  (X4_refuse refusals (-1 : Int32)).bind fun u_7 =>
  some (u_7.1, m_there, m_used, m_hidden, m_kind, m_figure, m_cargo, m_load, m_ships, m_inn, m_coughs, m_day, u_7.2)
  else
  if p0 = p1 then
  (X4_refuse refusals (-1 : Int32)).bind fun u_17 =>
  some (u_17.1, m_there, m_used, m_hidden, m_kind, m_figure, m_cargo, m_load, m_ships, m_inn, m_coughs, m_day, u_17.2)
  else
  (X4_fromNow m_there m_used m_hidden m_kind m_figure m_cargo m_load n_there n_used n_hidden n_kind n_figure n_cargo n_load m_ships m_inn m_coughs m_day n_ships n_inn n_coughs n_day).bind fun u_9 =>
  (X0_daysUntilIn u_9.1 u_9.2.1 u_9.2.2.1 u_9.2.2.2.1 u_9.2.2.2.2.1 u_9.2.2.2.2.2.1 u_9.2.2.2.2.2.2.1 u_9.2.2.2.2.2.2.2.1 u_9.2.2.2.2.2.2.2.2.1 u_9.2.2.2.2.2.2.2.2.2.1 u_9.2.2.2.2.2.2.2.2.2.2 (mmin p0 p1) (60 : Int32)).bind fun u_11 =>
  (X4_fromNow u_11.1 u_9.2.1 u_9.2.2.1 u_9.2.2.2.1 u_9.2.2.2.2.1 u_9.2.2.2.2.2.1 u_9.2.2.2.2.2.2.1 n_there n_used n_hidden n_kind n_figure n_cargo n_load u_9.2.2.2.2.2.2.2.1 u_11.2.1 u_11.2.2.1 u_11.2.2.2.1 n_ships n_inn n_coughs n_day).bind fun u_13 =>
  (X0_daysUntilIn u_13.1 u_13.2.1 u_13.2.2.1 u_13.2.2.2.1 u_13.2.2.2.2.1 u_13.2.2.2.2.2.1 u_13.2.2.2.2.2.2.1 u_13.2.2.2.2.2.2.2.1 u_13.2.2.2.2.2.2.2.2.1 u_13.2.2.2.2.2.2.2.2.2.1 u_13.2.2.2.2.2.2.2.2.2.2 (mmax p0 p1) (60 : Int32)).bind fun u_15 =>
  if u_15.2.2.2.2 = (-9 : Int32) then
  if u_11.2.2.2.2 = (-9 : Int32) then
  some (refusals, u_15.1, u_13.2.1, u_13.2.2.1, u_13.2.2.2.1, u_13.2.2.2.2.1, u_13.2.2.2.2.2.1, u_13.2.2.2.2.2.2.1, u_13.2.2.2.2.2.2.2.1, u_15.2.1, u_15.2.2.1, u_15.2.2.2.1, (-9 : Int32))
  else
  some (refusals, u_15.1, u_13.2.1, u_13.2.2.1, u_13.2.2.2.1, u_13.2.2.2.2.1, u_13.2.2.2.2.2.1, u_13.2.2.2.2.2.2.1, u_13.2.2.2.2.2.2.2.1, u_15.2.1, u_15.2.2.1, u_15.2.2.2.1, (mmin p0 p1))
  else
  if u_11.2.2.2.2 = (-9 : Int32) then
  some (refusals, u_15.1, u_13.2.1, u_13.2.2.1, u_13.2.2.2.1, u_13.2.2.2.2.1, u_13.2.2.2.2.2.1, u_13.2.2.2.2.2.2.1, u_13.2.2.2.2.2.2.2.1, u_15.2.1, u_15.2.2.1, u_15.2.2.2.1, (mmax p0 p1))
  else
  if u_15.2.2.2.2 < u_11.2.2.2.2 then
  some (refusals, u_15.1, u_13.2.1, u_13.2.2.1, u_13.2.2.2.1, u_13.2.2.2.2.1, u_13.2.2.2.2.2.1, u_13.2.2.2.2.2.2.1, u_13.2.2.2.2.2.2.2.1, u_15.2.1, u_15.2.2.1, u_15.2.2.2.1, (mmax p0 p1))
  else
  some (refusals, u_15.1, u_13.2.1, u_13.2.2.1, u_13.2.2.2.1, u_13.2.2.2.2.1, u_13.2.2.2.2.2.1, u_13.2.2.2.2.2.2.1, u_13.2.2.2.2.2.2.2.1, u_15.2.1, u_15.2.2.1, u_15.2.2.2.1, (mmin p0 p1))
set_option maxRecDepth 100000 in
set_option maxHeartbeats 4000000 in
theorem c_X4_race {l : Launch} {G : Gx} {ad adt adb ade adm adn adk adp : Nat → Nat} {adr : Nat → Nat → Nat} {refusals tcells lcells m_there m_used m_hidden m_kind m_figure m_cargo m_load n_there n_used n_hidden n_kind n_figure n_cargo n_load k_there k_used k_hidden k_kind k_figure k_cargo k_load : List Int32} {isKept tlen llen m_ships m_inn m_coughs m_day n_ships n_inn n_coughs n_day k_ships k_inn k_coughs k_day held : Int32} {perm : Nat → Nat} {hist : Nat → Hs} {p0 : Int32} {p1 : Int32} {out : List Int32 × List Int32 × List Int32 × List Int32 × List Int32 × List Int32 × List Int32 × List Int32 × Int32 × Int32 × Int32 × Int32 × Int32} (hf : X4_race refusals m_there m_used m_hidden m_kind m_figure m_cargo m_load n_there n_used n_hidden n_kind n_figure n_cargo n_load m_ships m_inn m_coughs m_day n_ships n_inn n_coughs n_day p0 p1 = some out) : Ct l G yX4_race cX4_race 7 (some .int) 5 112 [.ref (ad 0), .int p0, .int p1] (wT G ad adt adb ade adm adn adk adp adr refusals tcells lcells m_there m_used m_hidden m_kind m_figure m_cargo m_load n_there n_used n_hidden n_kind n_figure n_cargo n_load k_there k_used k_hidden k_kind k_figure k_cargo k_load isKept tlen llen m_ships m_inn m_coughs m_day n_ships n_inn n_coughs n_day k_ships k_inn k_coughs k_day held perm hist) (some (.int out.2.2.2.2.2.2.2.2.2.2.2.2)) (wT G ad adt adb ade adm adn adk adp adr out.1 tcells lcells out.2.1 out.2.2.1 out.2.2.2.1 out.2.2.2.2.1 out.2.2.2.2.2.1 out.2.2.2.2.2.2.1 out.2.2.2.2.2.2.2.1 n_there n_used n_hidden n_kind n_figure n_cargo n_load k_there k_used k_hidden k_kind k_figure k_cargo k_load isKept tlen llen out.2.2.2.2.2.2.2.2.1 out.2.2.2.2.2.2.2.2.2.1 out.2.2.2.2.2.2.2.2.2.2.1 out.2.2.2.2.2.2.2.2.2.2.2.1 n_ships n_inn n_coughs n_day k_ships k_inn k_coughs k_day held perm hist) := by
  refine Ct.intro RX4 rfl (plainFor_of_name (by decide)) (Nat.le_of_ble_eq_true rfl) rfl ?_
  intro p e s m args below meth c A C H locs hs ls hl
  obtain ⟨hx, hb, hml, hown, hts, hK, hret, hlk⟩ := id C
  have hl : lv_has ls 7 [(0, .ref (ad 0)), (1, .int p0), (2, .int p1)] := hl
  unfold X4_race at hf
  refine lv_aload_n hx hb (dk hX4_race_0 0 rfl) rfl (lv_at hl 0 rfl) ?_
  refine rg ui4 rfl C hs 0 rfl 0 (by decide) tw_134 rfl rfl (dk hX4_race_0 1 rfl) ?_
  refine lv_iload_n hx hb (dk hX4_race_0 2 rfl) rfl (lv_at hl 1 rfl) ?_
  obtain ⟨u_1, e_2, hf⟩ := Option.bind_eq_some_iff.mp hf
  refine Ct.V (As := [.int p0]) (rest := []) (st1 := [.int u_1]) (w1 := (wT G ad adt adb ade adm adn adk adp adr refusals tcells lcells m_there m_used m_hidden m_kind m_figure m_cargo m_load n_there n_used n_hidden n_kind n_figure n_cargo n_load k_there k_used k_hidden k_kind k_figure k_cargo k_load isKept tlen llen m_ships m_inn m_coughs m_day n_ships n_inn n_coughs n_day k_ships k_inn k_coughs k_day held perm hist)) C hs (c_X0_isShip__now e_2) tw_178 tw_179 tw_180 tw_18 tw_181 nq_X0_isShip (by decide) 15 0 rfl rfl rfl rfl hl.1 rfl (Nat.le_of_ble_eq_true rfl) (dk hX4_race_0 3 rfl) ⟨Nat.zero_le _, Nat.zero_le _⟩ rfl (fun H locs hs => ?_)
  refine lv_if_eq (tgt := 27) hx hb (dk hX4_race_0 4 rfl) (by decide) (fun hc => ?_) (fun hc => ?_)
  · replace hf := ip hf hc
    refine lv_aload_n hx hb (dk hX4_race_0 13 rfl) rfl (lv_at hl 0 rfl) ?_
    refine lv_iconst (v := (-1 : Int32)) hx hb (dk hX4_race_0 14 rfl) (by decide) ?_
    obtain ⟨u_3, e_4, hf⟩ := Option.bind_eq_some_iff.mp hf
    refine Ct.V (As := [.int (-1 : Int32)]) (rest := []) (st1 := [.int u_3.2]) (w1 := (wT G ad adt adb ade adm adn adk adp adr u_3.1 tcells lcells m_there m_used m_hidden m_kind m_figure m_cargo m_load n_there n_used n_hidden n_kind n_figure n_cargo n_load k_there k_used k_hidden k_kind k_figure k_cargo k_load isKept tlen llen m_ships m_inn m_coughs m_day n_ships n_inn n_coughs n_day k_ships k_inn k_coughs k_day held perm hist)) C hs (c_X4_refuse e_4) tw_166 tw_168 tw_0 tw_17 tw_169 nq_X4_refuse (by decide) 0 4 rfl rfl rfl rfl hl.1 rfl (Nat.le_of_ble_eq_true rfl) (dk hX4_race_0 15 rfl) ⟨Nat.zero_le _, Nat.zero_le _⟩ rfl (fun H locs hs => ?_)
    cases hf
    exact ri C hs (dk hX4_race_0 16 rfl)
  · replace hf := in_ hf hc
    refine lv_aload_n hx hb (dk hX4_race_0 5 rfl) rfl (lv_at hl 0 rfl) ?_
    refine rg ui4 rfl C hs 0 rfl 0 (by decide) tw_134 rfl rfl (dk hX4_race_0 6 rfl) ?_
    refine lv_iload_n hx hb (dk hX4_race_0 7 rfl) rfl (lv_at hl 2 rfl) ?_
    obtain ⟨u_5, e_6, hf⟩ := Option.bind_eq_some_iff.mp hf
    refine Ct.V (As := [.int p1]) (rest := []) (st1 := [.int u_5]) (w1 := (wT G ad adt adb ade adm adn adk adp adr refusals tcells lcells m_there m_used m_hidden m_kind m_figure m_cargo m_load n_there n_used n_hidden n_kind n_figure n_cargo n_load k_there k_used k_hidden k_kind k_figure k_cargo k_load isKept tlen llen m_ships m_inn m_coughs m_day n_ships n_inn n_coughs n_day k_ships k_inn k_coughs k_day held perm hist)) C hs (c_X0_isShip__now e_6) tw_178 tw_179 tw_180 tw_18 tw_181 nq_X0_isShip (by decide) 15 0 rfl rfl rfl rfl hl.1 rfl (Nat.le_of_ble_eq_true rfl) (dk hX4_race_0 8 rfl) ⟨Nat.zero_le _, Nat.zero_le _⟩ rfl (fun H locs hs => ?_)
    refine lv_if_eq (tgt := 27) hx hb (dk hX4_race_0 9 rfl) (by decide) (fun hc => ?_) (fun hc => ?_)
    · replace hf := ip hf hc
      refine lv_aload_n hx hb (dk hX4_race_0 13 rfl) rfl (lv_at hl 0 rfl) ?_
      refine lv_iconst (v := (-1 : Int32)) hx hb (dk hX4_race_0 14 rfl) (by decide) ?_
      obtain ⟨u_7, e_8, hf⟩ := Option.bind_eq_some_iff.mp hf
      refine Ct.V (As := [.int (-1 : Int32)]) (rest := []) (st1 := [.int u_7.2]) (w1 := (wT G ad adt adb ade adm adn adk adp adr u_7.1 tcells lcells m_there m_used m_hidden m_kind m_figure m_cargo m_load n_there n_used n_hidden n_kind n_figure n_cargo n_load k_there k_used k_hidden k_kind k_figure k_cargo k_load isKept tlen llen m_ships m_inn m_coughs m_day n_ships n_inn n_coughs n_day k_ships k_inn k_coughs k_day held perm hist)) C hs (c_X4_refuse e_8) tw_166 tw_168 tw_0 tw_17 tw_169 nq_X4_refuse (by decide) 0 4 rfl rfl rfl rfl hl.1 rfl (Nat.le_of_ble_eq_true rfl) (dk hX4_race_0 15 rfl) ⟨Nat.zero_le _, Nat.zero_le _⟩ rfl (fun H locs hs => ?_)
      cases hf
      exact ri C hs (dk hX4_race_0 16 rfl)
    · replace hf := in_ hf hc
      refine lv_iload_n hx hb (dk hX4_race_0 10 rfl) rfl (lv_at hl 1 rfl) ?_
      refine lv_iload_n hx hb (dk hX4_race_0 11 rfl) rfl (lv_at hl 2 rfl) ?_
      refine lv_icmp_ne (tgt := 33) hx hb (dk hX4_race_0 12 rfl) (by decide) (fun hc => ?_) (fun hc => ?_)
      · replace hf := in_ hf hc
        refine lv_iload_n hx hb (dk hX4_race_0 17 rfl) rfl (lv_at hl 1 rfl) ?_
        refine lv_iload_n hx hb (dk hX4_race_0 18 rfl) rfl (lv_at hl 2 rfl) ?_
        refine va_mmin hx hb (hml.trans hl.1.symm) hown (hts _ tw_424) (hts _ tw_287) (hts _ tw_22) (hts _ tw_288) (by decide) (Nat.le_of_ble_eq_true rfl) (Nat.zero_le _) (Nat.zero_le _) (dk hX4_race_0 19 rfl) ?_
        refine lv_istore_n (lv' := [(3, .int (mmin p0 p1)), (0, .ref (ad 0)), (1, .int p0), (2, .int p1)]) hx hb (dk hX4_race_0 20 rfl) rfl hl (by decide) rfl (fun ls hl => ?_)
        refine lv_iload_n hx hb (dk hX4_race_0 21 rfl) rfl (lv_at hl 2 rfl) ?_
        refine lv_iload_n hx hb (dk hX4_race_0 22 rfl) rfl (lv_at hl 3 rfl) ?_
        refine va_mmax hx hb (hml.trans hl.1.symm) hown (hts _ tw_425) (hts _ tw_118) (hts _ tw_22) (hts _ tw_119) (by decide) (Nat.le_of_ble_eq_true rfl) (Nat.zero_le _) (Nat.zero_le _) (dk hX4_race_0 23 rfl) ?_
        refine lv_istore (lv' := [(4, .int (mmax p0 p1)), (3, .int (mmin p0 p1)), (0, .ref (ad 0)), (1, .int p0), (2, .int p1)]) hx hb (dk hX4_race_0 24 rfl) hl (by decide) rfl (fun ls hl => ?_)
        refine lv_aload_n hx hb (dk hX4_race_0 25 rfl) rfl (lv_at hl 2 rfl) ?_
        obtain ⟨u_9, e_10, hf⟩ := Option.bind_eq_some_iff.mp hf
        refine Ct.V (As := []) (rest := []) (st1 := [.ref (adm 0)]) (w1 := (wT G ad adt adb ade adm adn adk adp adr refusals tcells lcells u_9.1 u_9.2.1 u_9.2.2.1 u_9.2.2.2.1 u_9.2.2.2.2.1 u_9.2.2.2.2.2.1 u_9.2.2.2.2.2.2.1 n_there n_used n_hidden n_kind n_figure n_cargo n_load k_there k_used k_hidden k_kind k_figure k_cargo k_load isKept tlen llen u_9.2.2.2.2.2.2.2.1 u_9.2.2.2.2.2.2.2.2.1 u_9.2.2.2.2.2.2.2.2.2.1 u_9.2.2.2.2.2.2.2.2.2.2 n_ships n_inn n_coughs n_day k_ships k_inn k_coughs k_day held perm hist)) C hs (c_X4_fromNow e_10) tw_312 tw_314 tw_4 tw_17 tw_315 nq_X4_fromNow (by decide) 0 4 rfl rfl rfl rfl hl.1 rfl (Nat.le_of_ble_eq_true rfl) (dk hX4_race_0 26 rfl) ⟨Nat.zero_le _, Nat.zero_le _⟩ rfl (fun H locs hs => ?_)
        refine lv_iload_n hx hb (dk hX4_race_0 27 rfl) rfl (lv_at hl 1 rfl) ?_
        refine lv_bipush (v := (60 : Int32)) hx hb (dk hX4_race_0 28 rfl) (by decide) ?_
        obtain ⟨u_11, e_12, hf⟩ := Option.bind_eq_some_iff.mp hf
        refine Ct.V (As := [.int (mmin p0 p1), .int (60 : Int32)]) (rest := []) (st1 := [.int u_11.2.2.2.2]) (w1 := (wT G ad adt adb ade adm adn adk adp adr refusals tcells lcells u_11.1 u_9.2.1 u_9.2.2.1 u_9.2.2.2.1 u_9.2.2.2.2.1 u_9.2.2.2.2.2.1 u_9.2.2.2.2.2.2.1 n_there n_used n_hidden n_kind n_figure n_cargo n_load k_there k_used k_hidden k_kind k_figure k_cargo k_load isKept tlen llen u_9.2.2.2.2.2.2.2.1 u_11.2.1 u_11.2.2.1 u_11.2.2.2.1 n_ships n_inn n_coughs n_day k_ships k_inn k_coughs k_day held perm hist)) C hs (c_X0_daysUntilIn__mind e_12) tw_330 tw_331 tw_332 tw_18 tw_333 nq_X0_daysUntilIn (by decide) 7 0 rfl rfl rfl rfl hl.1 rfl (Nat.le_of_ble_eq_true rfl) (dk hX4_race_0 29 rfl) ⟨Nat.zero_le _, Nat.zero_le _⟩ rfl (fun H locs hs => ?_)
        refine lv_istore (lv' := [(5, .int u_11.2.2.2.2), (4, .int (mmax p0 p1)), (3, .int (mmin p0 p1)), (0, .ref (ad 0)), (1, .int p0), (2, .int p1)]) hx hb (dk hX4_race_0 30 rfl) hl (by decide) rfl (fun ls hl => ?_)
        refine lv_aload_n hx hb (dk hX4_race_0 31 rfl) rfl (lv_at hl 3 rfl) ?_
        obtain ⟨u_13, e_14, hf⟩ := Option.bind_eq_some_iff.mp hf
        refine Ct.V (As := []) (rest := []) (st1 := [.ref (adm 0)]) (w1 := (wT G ad adt adb ade adm adn adk adp adr refusals tcells lcells u_13.1 u_13.2.1 u_13.2.2.1 u_13.2.2.2.1 u_13.2.2.2.2.1 u_13.2.2.2.2.2.1 u_13.2.2.2.2.2.2.1 n_there n_used n_hidden n_kind n_figure n_cargo n_load k_there k_used k_hidden k_kind k_figure k_cargo k_load isKept tlen llen u_13.2.2.2.2.2.2.2.1 u_13.2.2.2.2.2.2.2.2.1 u_13.2.2.2.2.2.2.2.2.2.1 u_13.2.2.2.2.2.2.2.2.2.2 n_ships n_inn n_coughs n_day k_ships k_inn k_coughs k_day held perm hist)) C hs (c_X4_fromNow e_14) tw_312 tw_314 tw_4 tw_17 tw_315 nq_X4_fromNow (by decide) 0 4 rfl rfl rfl rfl hl.1 rfl (Nat.le_of_ble_eq_true rfl) (dk hX4_race_0 32 rfl) ⟨Nat.zero_le _, Nat.zero_le _⟩ rfl (fun H locs hs => ?_)
        refine lv_iload hx hb (dk hX4_race_0 33 rfl) (lv_at hl 1 rfl) ?_
        refine lv_bipush (v := (60 : Int32)) hx hb (dk hX4_race_0 34 rfl) (by decide) ?_
        obtain ⟨u_15, e_16, hf⟩ := Option.bind_eq_some_iff.mp hf
        refine Ct.V (As := [.int (mmax p0 p1), .int (60 : Int32)]) (rest := []) (st1 := [.int u_15.2.2.2.2]) (w1 := (wT G ad adt adb ade adm adn adk adp adr refusals tcells lcells u_15.1 u_13.2.1 u_13.2.2.1 u_13.2.2.2.1 u_13.2.2.2.2.1 u_13.2.2.2.2.2.1 u_13.2.2.2.2.2.2.1 n_there n_used n_hidden n_kind n_figure n_cargo n_load k_there k_used k_hidden k_kind k_figure k_cargo k_load isKept tlen llen u_13.2.2.2.2.2.2.2.1 u_15.2.1 u_15.2.2.1 u_15.2.2.2.1 n_ships n_inn n_coughs n_day k_ships k_inn k_coughs k_day held perm hist)) C hs (c_X0_daysUntilIn__mind e_16) tw_330 tw_331 tw_332 tw_18 tw_333 nq_X0_daysUntilIn (by decide) 7 0 rfl rfl rfl rfl hl.1 rfl (Nat.le_of_ble_eq_true rfl) (dk hX4_race_0 35 rfl) ⟨Nat.zero_le _, Nat.zero_le _⟩ rfl (fun H locs hs => ?_)
        refine lv_istore (lv' := [(6, .int u_15.2.2.2.2), (5, .int u_11.2.2.2.2), (4, .int (mmax p0 p1)), (3, .int (mmin p0 p1)), (0, .ref (ad 0)), (1, .int p0), (2, .int p1)]) hx hb (dk hX4_race_0 36 rfl) hl (by decide) rfl (fun ls hl => ?_)
        refine lv_iload hx hb (dk hX4_race_0 37 rfl) (lv_at hl 0 rfl) ?_
        refine lv_bipush (v := (-9 : Int32)) hx hb (dk hX4_race_0 38 rfl) (by decide) ?_
        refine lv_icmp_ne (tgt := 92) hx hb (dk hX4_race_0 39 rfl) (by decide) (fun hc => ?_) (fun hc => ?_)
        · replace hf := in_ hf hc
          refine lv_iload hx hb (dk hX4_race_1 7 rfl) (lv_at hl 1 rfl) ?_
          refine lv_bipush (v := (-9 : Int32)) hx hb (dk hX4_race_1 8 rfl) (by decide) ?_
          refine lv_icmp_eq (tgt := 110) hx hb (dk hX4_race_1 9 rfl) (by decide) (fun hc => ?_) (fun hc => ?_)
          · replace hf := ip hf hc
            refine lv_iload hx hb (dk hX4_race_1 15 rfl) (lv_at hl 2 rfl) ?_
            cases hf
            exact ri C hs (dk hX4_race_1 16 rfl)
          · replace hf := in_ hf hc
            refine lv_iload hx hb (dk hX4_race_1 10 rfl) (lv_at hl 1 rfl) ?_
            refine lv_iload hx hb (dk hX4_race_1 11 rfl) (lv_at hl 0 rfl) ?_
            refine lv_icmp_gt (tgt := 110) hx hb (dk hX4_race_1 12 rfl) (by decide) (fun hc => ?_) (fun hc => ?_)
            · replace hf := ip hf hc
              refine lv_iload hx hb (dk hX4_race_1 15 rfl) (lv_at hl 2 rfl) ?_
              cases hf
              exact ri C hs (dk hX4_race_1 16 rfl)
            · replace hf := in_ hf hc
              refine lv_iload_n hx hb (dk hX4_race_1 13 rfl) rfl (lv_at hl 3 rfl) ?_
              refine lv_goto (tgt := 112) hx hb (dk hX4_race_1 14 rfl) (by decide) ?_
              cases hf
              exact ri C hs (dk hX4_race_1 16 rfl)
        · replace hf := ip hf hc
          refine lv_iload hx hb (dk hX4_race_1 0 rfl) (lv_at hl 1 rfl) ?_
          refine lv_bipush (v := (-9 : Int32)) hx hb (dk hX4_race_1 1 rfl) (by decide) ?_
          refine lv_icmp_ne (tgt := 90) hx hb (dk hX4_race_1 2 rfl) (by decide) (fun hc => ?_) (fun hc => ?_)
          · replace hf := in_ hf hc
            refine lv_iload_n hx hb (dk hX4_race_1 5 rfl) rfl (lv_at hl 3 rfl) ?_
            cases hf
            exact ri C hs (dk hX4_race_1 6 rfl)
          · replace hf := ip hf hc
            refine lv_bipush (v := (-9 : Int32)) hx hb (dk hX4_race_1 3 rfl) (by decide) ?_
            refine lv_goto (tgt := 91) hx hb (dk hX4_race_1 4 rfl) (by decide) ?_
            cases hf
            exact ri C hs (dk hX4_race_1 6 rfl)
      · replace hf := ip hf hc
        refine lv_aload_n hx hb (dk hX4_race_0 13 rfl) rfl (lv_at hl 0 rfl) ?_
        refine lv_iconst (v := (-1 : Int32)) hx hb (dk hX4_race_0 14 rfl) (by decide) ?_
        obtain ⟨u_17, e_18, hf⟩ := Option.bind_eq_some_iff.mp hf
        refine Ct.V (As := [.int (-1 : Int32)]) (rest := []) (st1 := [.int u_17.2]) (w1 := (wT G ad adt adb ade adm adn adk adp adr u_17.1 tcells lcells m_there m_used m_hidden m_kind m_figure m_cargo m_load n_there n_used n_hidden n_kind n_figure n_cargo n_load k_there k_used k_hidden k_kind k_figure k_cargo k_load isKept tlen llen m_ships m_inn m_coughs m_day n_ships n_inn n_coughs n_day k_ships k_inn k_coughs k_day held perm hist)) C hs (c_X4_refuse e_18) tw_166 tw_168 tw_0 tw_17 tw_169 nq_X4_refuse (by decide) 0 4 rfl rfl rfl rfl hl.1 rfl (Nat.le_of_ble_eq_true rfl) (dk hX4_race_0 15 rfl) ⟨Nat.zero_le _, Nat.zero_le _⟩ rfl (fun H locs hs => ?_)
        cases hf
        exact ri C hs (dk hX4_race_0 16 rfl)

def X4_image (n_there : List Int32) (n_used : List Int32) (n_hidden : List Int32) (n_kind : List Int32) (n_figure : List Int32) (n_cargo : List Int32) (n_load : List Int32) (k_there : List Int32) (k_used : List Int32) (k_hidden : List Int32) (k_kind : List Int32) (k_figure : List Int32) (k_cargo : List Int32) (k_load : List Int32) (isKept : Int32) (n_ships : Int32) (n_inn : Int32) (n_coughs : Int32) (n_day : Int32) (k_ships : Int32) (k_inn : Int32) (k_coughs : Int32) (k_day : Int32) : Option (List Int32 × List Int32 × List Int32 × List Int32 × List Int32 × List Int32 × List Int32 × Int32 × Int32 × Int32 × Int32 × Int32 × Int32) :=
  (X0_copyFrom k_there k_used k_hidden k_kind k_figure k_cargo k_load n_there n_used n_hidden n_kind n_figure n_cargo n_load k_ships k_inn k_coughs k_day n_ships n_inn n_coughs n_day).bind fun u_1 =>
  some (u_1.1, u_1.2.1, u_1.2.2.1, u_1.2.2.2.1, u_1.2.2.2.2.1, u_1.2.2.2.2.2.1, u_1.2.2.2.2.2.2.1, (1 : Int32), u_1.2.2.2.2.2.2.2.1, u_1.2.2.2.2.2.2.2.2.1, u_1.2.2.2.2.2.2.2.2.2.1, u_1.2.2.2.2.2.2.2.2.2.2, n_day)
set_option maxRecDepth 100000 in
set_option maxHeartbeats 4000000 in
theorem c_X4_image {l : Launch} {G : Gx} {ad adt adb ade adm adn adk adp : Nat → Nat} {adr : Nat → Nat → Nat} {refusals tcells lcells m_there m_used m_hidden m_kind m_figure m_cargo m_load n_there n_used n_hidden n_kind n_figure n_cargo n_load k_there k_used k_hidden k_kind k_figure k_cargo k_load : List Int32} {isKept tlen llen m_ships m_inn m_coughs m_day n_ships n_inn n_coughs n_day k_ships k_inn k_coughs k_day held : Int32} {perm : Nat → Nat} {hist : Nat → Hs}  {out : List Int32 × List Int32 × List Int32 × List Int32 × List Int32 × List Int32 × List Int32 × Int32 × Int32 × Int32 × Int32 × Int32 × Int32} (hf : X4_image n_there n_used n_hidden n_kind n_figure n_cargo n_load k_there k_used k_hidden k_kind k_figure k_cargo k_load isKept n_ships n_inn n_coughs n_day k_ships k_inn k_coughs k_day = some out) : Ct l G yX4_image cX4_image 1 (some .int) 1 22 [.ref (ad 0)] (wT G ad adt adb ade adm adn adk adp adr refusals tcells lcells m_there m_used m_hidden m_kind m_figure m_cargo m_load n_there n_used n_hidden n_kind n_figure n_cargo n_load k_there k_used k_hidden k_kind k_figure k_cargo k_load isKept tlen llen m_ships m_inn m_coughs m_day n_ships n_inn n_coughs n_day k_ships k_inn k_coughs k_day held perm hist) (some (.int out.2.2.2.2.2.2.2.2.2.2.2.2)) (wT G ad adt adb ade adm adn adk adp adr refusals tcells lcells m_there m_used m_hidden m_kind m_figure m_cargo m_load n_there n_used n_hidden n_kind n_figure n_cargo n_load out.1 out.2.1 out.2.2.1 out.2.2.2.1 out.2.2.2.2.1 out.2.2.2.2.2.1 out.2.2.2.2.2.2.1 out.2.2.2.2.2.2.2.1 tlen llen m_ships m_inn m_coughs m_day n_ships n_inn n_coughs n_day out.2.2.2.2.2.2.2.2.1 out.2.2.2.2.2.2.2.2.2.1 out.2.2.2.2.2.2.2.2.2.2.1 out.2.2.2.2.2.2.2.2.2.2.2.1 held perm hist) := by
  refine Ct.intro RX4 rfl (plainFor_of_name (by decide)) (Nat.le_of_ble_eq_true rfl) rfl ?_
  intro p e s m args below meth c A C H locs hs ls hl
  obtain ⟨hx, hb, hml, hown, hts, hK, hret, hlk⟩ := id C
  have hl : lv_has ls 1 [(0, .ref (ad 0))] := hl
  unfold X4_image at hf
  refine lv_aload_n hx hb (dk hX4_image_0 0 rfl) rfl (lv_at hl 0 rfl) ?_
  refine rg ui4 rfl C hs 0 rfl 2 (by decide) tw_136 rfl rfl (dk hX4_image_0 1 rfl) ?_
  refine lv_aload_n hx hb (dk hX4_image_0 2 rfl) rfl (lv_at hl 0 rfl) ?_
  refine rg ui4 rfl C hs 0 rfl 0 (by decide) tw_134 rfl rfl (dk hX4_image_0 3 rfl) ?_
  obtain ⟨u_1, e_2, hf⟩ := Option.bind_eq_some_iff.mp hf
  refine Ct.V (As := [.ref (adn 0)]) (rest := []) (st1 := []) (w1 := (wT G ad adt adb ade adm adn adk adp adr refusals tcells lcells m_there m_used m_hidden m_kind m_figure m_cargo m_load n_there n_used n_hidden n_kind n_figure n_cargo n_load u_1.1 u_1.2.1 u_1.2.2.1 u_1.2.2.2.1 u_1.2.2.2.2.1 u_1.2.2.2.2.2.1 u_1.2.2.2.2.2.2.1 isKept tlen llen m_ships m_inn m_coughs m_day n_ships n_inn n_coughs n_day u_1.2.2.2.2.2.2.2.1 u_1.2.2.2.2.2.2.2.2.1 u_1.2.2.2.2.2.2.2.2.2.1 u_1.2.2.2.2.2.2.2.2.2.2 held perm hist)) C hs (c_X0_copyFrom__kn e_2) tw_316 tw_249 tw_250 tw_18 tw_251 nq_X0_copyFrom (by decide) 23 0 rfl rfl rfl rfl hl.1 rfl (Nat.le_of_ble_eq_true rfl) (dk hX4_image_0 4 rfl) ⟨Nat.zero_le _, Nat.zero_le _⟩ rfl (fun H locs hs => ?_)
  refine lv_aload_n hx hb (dk hX4_image_0 5 rfl) rfl (lv_at hl 0 rfl) ?_
  refine lv_iconst (v := (1 : Int32)) hx hb (dk hX4_image_0 6 rfl) (by decide) ?_
  refine rp (w1 := (wT G ad adt adb ade adm adn adk adp adr refusals tcells lcells m_there m_used m_hidden m_kind m_figure m_cargo m_load n_there n_used n_hidden n_kind n_figure n_cargo n_load u_1.1 u_1.2.1 u_1.2.2.1 u_1.2.2.2.1 u_1.2.2.2.2.1 u_1.2.2.2.2.2.1 u_1.2.2.2.2.2.2.1 (1 : Int32) tlen llen m_ships m_inn m_coughs m_day n_ships n_inn n_coughs n_day u_1.2.2.2.2.2.2.2.1 u_1.2.2.2.2.2.2.2.2.1 u_1.2.2.2.2.2.2.2.2.2.1 u_1.2.2.2.2.2.2.2.2.2.2 held perm hist)) tyX4 tyX4_ok nmX4 ui4 rfl C hs 0 rfl 7 (by decide) tw_141 rfl rfl rfl rfl (Nat.le_of_ble_eq_true rfl) rfl (dk hX4_image_0 7 rfl) (fun H locs hs => ?_)
  refine lv_aload_n hx hb (dk hX4_image_0 8 rfl) rfl (lv_at hl 0 rfl) ?_
  refine rg ui4 rfl C hs 0 rfl 0 (by decide) tw_134 rfl rfl (dk hX4_image_0 9 rfl) ?_
  refine rg ui0 rfl C hs 15 rfl 10 (by decide) tw_63 rfl rfl (dk hX4_image_0 10 rfl) ?_
  cases hf
  exact ri C hs (dk hX4_image_0 11 rfl)

def X4_restore (refusals : List Int32) (n_there : List Int32) (n_used : List Int32) (n_hidden : List Int32) (n_kind : List Int32) (n_figure : List Int32) (n_cargo : List Int32) (n_load : List Int32) (k_there : List Int32) (k_used : List Int32) (k_hidden : List Int32) (k_kind : List Int32) (k_figure : List Int32) (k_cargo : List Int32) (k_load : List Int32) (isKept : Int32) (n_ships : Int32) (n_inn : Int32) (n_coughs : Int32) (n_day : Int32) (k_ships : Int32) (k_inn : Int32) (k_coughs : Int32) (k_day : Int32) (held : Int32) : Option (List Int32 × List Int32 × List Int32 × List Int32 × List Int32 × List Int32 × List Int32 × List Int32 × Int32 × Int32 × Int32 × Int32 × Int32 × Int32) :=
  if isKept = (0 : Int32) then
  (X4_refuse refusals (-3 : Int32)).bind fun u_5 =>
  some (u_5.1, n_there, n_used, n_hidden, n_kind, n_figure, n_cargo, n_load, n_ships, n_inn, n_coughs, n_day, held, u_5.2)
  else
  (X0_copyFrom n_there n_used n_hidden n_kind n_figure n_cargo n_load k_there k_used k_hidden k_kind k_figure k_cargo k_load n_ships n_inn n_coughs n_day k_ships k_inn k_coughs k_day).bind fun u_1 =>
  (X2_drop held).bind fun u_3 =>
  some (refusals, u_1.1, u_1.2.1, u_1.2.2.1, u_1.2.2.2.1, u_1.2.2.2.2.1, u_1.2.2.2.2.2.1, u_1.2.2.2.2.2.2.1, u_1.2.2.2.2.2.2.2.1, u_1.2.2.2.2.2.2.2.2.1, u_1.2.2.2.2.2.2.2.2.2.1, u_1.2.2.2.2.2.2.2.2.2.2, u_3, u_1.2.2.2.2.2.2.2.2.2.2)
set_option maxRecDepth 100000 in
set_option maxHeartbeats 4000000 in
theorem c_X4_restore {l : Launch} {G : Gx} {ad adt adb ade adm adn adk adp : Nat → Nat} {adr : Nat → Nat → Nat} {refusals tcells lcells m_there m_used m_hidden m_kind m_figure m_cargo m_load n_there n_used n_hidden n_kind n_figure n_cargo n_load k_there k_used k_hidden k_kind k_figure k_cargo k_load : List Int32} {isKept tlen llen m_ships m_inn m_coughs m_day n_ships n_inn n_coughs n_day k_ships k_inn k_coughs k_day held : Int32} {perm : Nat → Nat} {hist : Nat → Hs}  {out : List Int32 × List Int32 × List Int32 × List Int32 × List Int32 × List Int32 × List Int32 × List Int32 × Int32 × Int32 × Int32 × Int32 × Int32 × Int32} (hf : X4_restore refusals n_there n_used n_hidden n_kind n_figure n_cargo n_load k_there k_used k_hidden k_kind k_figure k_cargo k_load isKept n_ships n_inn n_coughs n_day k_ships k_inn k_coughs k_day held = some out) : Ct l G yX4_restore cX4_restore 1 (some .int) 1 22 [.ref (ad 0)] (wT G ad adt adb ade adm adn adk adp adr refusals tcells lcells m_there m_used m_hidden m_kind m_figure m_cargo m_load n_there n_used n_hidden n_kind n_figure n_cargo n_load k_there k_used k_hidden k_kind k_figure k_cargo k_load isKept tlen llen m_ships m_inn m_coughs m_day n_ships n_inn n_coughs n_day k_ships k_inn k_coughs k_day held perm hist) (some (.int out.2.2.2.2.2.2.2.2.2.2.2.2.2)) (wT G ad adt adb ade adm adn adk adp adr out.1 tcells lcells m_there m_used m_hidden m_kind m_figure m_cargo m_load out.2.1 out.2.2.1 out.2.2.2.1 out.2.2.2.2.1 out.2.2.2.2.2.1 out.2.2.2.2.2.2.1 out.2.2.2.2.2.2.2.1 k_there k_used k_hidden k_kind k_figure k_cargo k_load isKept tlen llen m_ships m_inn m_coughs m_day out.2.2.2.2.2.2.2.2.1 out.2.2.2.2.2.2.2.2.2.1 out.2.2.2.2.2.2.2.2.2.2.1 out.2.2.2.2.2.2.2.2.2.2.2.1 k_ships k_inn k_coughs k_day out.2.2.2.2.2.2.2.2.2.2.2.2.1 perm hist) := by
  refine Ct.intro RX4 rfl (plainFor_of_name (by decide)) (Nat.le_of_ble_eq_true rfl) rfl ?_
  intro p e s m args below meth c A C H locs hs ls hl
  obtain ⟨hx, hb, hml, hown, hts, hK, hret, hlk⟩ := id C
  have hl : lv_has ls 1 [(0, .ref (ad 0))] := hl
  unfold X4_restore at hf
  refine lv_aload_n hx hb (dk hX4_restore_0 0 rfl) rfl (lv_at hl 0 rfl) ?_
  refine rg ui4 rfl C hs 0 rfl 7 (by decide) tw_141 rfl rfl (dk hX4_restore_0 1 rfl) ?_
  refine lv_if_ne (tgt := 14) hx hb (dk hX4_restore_0 2 rfl) (by decide) (fun hc => ?_) (fun hc => ?_)
  · replace hf := in_ hf hc
    refine lv_aload_n hx hb (dk hX4_restore_0 7 rfl) rfl (lv_at hl 0 rfl) ?_
    refine rg ui4 rfl C hs 0 rfl 0 (by decide) tw_134 rfl rfl (dk hX4_restore_0 8 rfl) ?_
    refine lv_aload_n hx hb (dk hX4_restore_0 9 rfl) rfl (lv_at hl 0 rfl) ?_
    refine rg ui4 rfl C hs 0 rfl 2 (by decide) tw_136 rfl rfl (dk hX4_restore_0 10 rfl) ?_
    obtain ⟨u_1, e_2, hf⟩ := Option.bind_eq_some_iff.mp hf
    refine Ct.V (As := [.ref (adk 0)]) (rest := []) (st1 := []) (w1 := (wT G ad adt adb ade adm adn adk adp adr refusals tcells lcells m_there m_used m_hidden m_kind m_figure m_cargo m_load u_1.1 u_1.2.1 u_1.2.2.1 u_1.2.2.2.1 u_1.2.2.2.2.1 u_1.2.2.2.2.2.1 u_1.2.2.2.2.2.2.1 k_there k_used k_hidden k_kind k_figure k_cargo k_load isKept tlen llen m_ships m_inn m_coughs m_day u_1.2.2.2.2.2.2.2.1 u_1.2.2.2.2.2.2.2.2.1 u_1.2.2.2.2.2.2.2.2.2.1 u_1.2.2.2.2.2.2.2.2.2.2 k_ships k_inn k_coughs k_day held perm hist)) C hs (c_X0_copyFrom__nk e_2) tw_316 tw_249 tw_250 tw_18 tw_251 nq_X0_copyFrom (by decide) 15 0 rfl rfl rfl rfl hl.1 rfl (Nat.le_of_ble_eq_true rfl) (dk hX4_restore_0 11 rfl) ⟨Nat.zero_le _, Nat.zero_le _⟩ rfl (fun H locs hs => ?_)
    refine lv_aload_n hx hb (dk hX4_restore_0 12 rfl) rfl (lv_at hl 0 rfl) ?_
    refine rg ui4 rfl C hs 0 rfl 3 (by decide) tw_137 rfl rfl (dk hX4_restore_0 13 rfl) ?_
    obtain ⟨u_3, e_4, hf⟩ := Option.bind_eq_some_iff.mp hf
    refine Ct.V (As := []) (rest := []) (st1 := []) (w1 := (wT G ad adt adb ade adm adn adk adp adr refusals tcells lcells m_there m_used m_hidden m_kind m_figure m_cargo m_load u_1.1 u_1.2.1 u_1.2.2.1 u_1.2.2.2.1 u_1.2.2.2.2.1 u_1.2.2.2.2.2.1 u_1.2.2.2.2.2.2.1 k_there k_used k_hidden k_kind k_figure k_cargo k_load isKept tlen llen m_ships m_inn m_coughs m_day u_1.2.2.2.2.2.2.2.1 u_1.2.2.2.2.2.2.2.2.1 u_1.2.2.2.2.2.2.2.2.2.1 u_1.2.2.2.2.2.2.2.2.2.2 k_ships k_inn k_coughs k_day u_3 perm hist)) C hs (c_X2_drop e_4) tw_434 tw_435 tw_436 tw_19 tw_437 nq_X2_drop (by decide) 31 2 rfl rfl rfl rfl hl.1 rfl (Nat.le_of_ble_eq_true rfl) (dk hX4_restore_0 14 rfl) ⟨Nat.zero_le _, Nat.zero_le _⟩ rfl (fun H locs hs => ?_)
    refine lv_aload_n hx hb (dk hX4_restore_0 15 rfl) rfl (lv_at hl 0 rfl) ?_
    refine rg ui4 rfl C hs 0 rfl 0 (by decide) tw_134 rfl rfl (dk hX4_restore_0 16 rfl) ?_
    refine rg ui0 rfl C hs 15 rfl 10 (by decide) tw_63 rfl rfl (dk hX4_restore_0 17 rfl) ?_
    cases hf
    exact ri C hs (dk hX4_restore_0 18 rfl)
  · replace hf := ip hf hc
    refine lv_aload_n hx hb (dk hX4_restore_0 3 rfl) rfl (lv_at hl 0 rfl) ?_
    refine lv_bipush (v := (-3 : Int32)) hx hb (dk hX4_restore_0 4 rfl) (by decide) ?_
    obtain ⟨u_5, e_6, hf⟩ := Option.bind_eq_some_iff.mp hf
    refine Ct.V (As := [.int (-3 : Int32)]) (rest := []) (st1 := [.int u_5.2]) (w1 := (wT G ad adt adb ade adm adn adk adp adr u_5.1 tcells lcells m_there m_used m_hidden m_kind m_figure m_cargo m_load n_there n_used n_hidden n_kind n_figure n_cargo n_load k_there k_used k_hidden k_kind k_figure k_cargo k_load isKept tlen llen m_ships m_inn m_coughs m_day n_ships n_inn n_coughs n_day k_ships k_inn k_coughs k_day held perm hist)) C hs (c_X4_refuse e_6) tw_166 tw_168 tw_0 tw_17 tw_169 nq_X4_refuse (by decide) 0 4 rfl rfl rfl rfl hl.1 rfl (Nat.le_of_ble_eq_true rfl) (dk hX4_restore_0 5 rfl) ⟨Nat.zero_le _, Nat.zero_le _⟩ rfl (fun H locs hs => ?_)
    cases hf
    exact ri C hs (dk hX4_restore_0 6 rfl)

def X4_count (refusals : List Int32) (n_there : List Int32) (n_used : List Int32) (tlen : Int32) (llen : Int32) (n_ships : Int32) (n_inn : Int32) (n_coughs : Int32) (n_day : Int32) (held : Int32) (p0 : Int32) : Option (Int32) :=
  if p0 = (0 : Int32) then
  some n_ships
  else
  if p0 = (1 : Int32) then
  some n_day
  else
  if p0 = (2 : Int32) then
  some n_coughs
  else
  if p0 = (3 : Int32) then
  some n_inn
  else
  if p0 = (4 : Int32) then
  (X0_lackOfAll n_there n_used).bind fun u_5 =>
  some u_5
  else
  if p0 = (5 : Int32) then
  (X1_length llen).bind fun u_8 =>
  some u_8
  else
  if p0 = (6 : Int32) then
  (X1_length tlen).bind fun u_11 =>
  some u_11
  else
  if p0 = (7 : Int32) then
  (X2_held held).bind fun u_14 =>
  some u_14
  else
  if p0 ≤ (10 : Int32) then
  some (-9 : Int32)
  else
  if (Int32.ofNat refusals.length) ≤ (p0 - (10 : Int32)) then
  some (-9 : Int32)
  else
  (rd refusals (p0 - (10 : Int32))).bind fun v_17 =>
  some v_17
set_option maxRecDepth 100000 in
set_option maxHeartbeats 4000000 in
theorem c_X4_count {l : Launch} {G : Gx} {ad adt adb ade adm adn adk adp : Nat → Nat} {adr : Nat → Nat → Nat} {refusals tcells lcells m_there m_used m_hidden m_kind m_figure m_cargo m_load n_there n_used n_hidden n_kind n_figure n_cargo n_load k_there k_used k_hidden k_kind k_figure k_cargo k_load : List Int32} {isKept tlen llen m_ships m_inn m_coughs m_day n_ships n_inn n_coughs n_day k_ships k_inn k_coughs k_day held : Int32} {perm : Nat → Nat} {hist : Nat → Hs} {p0 : Int32} {out : Int32} (hf : X4_count refusals n_there n_used tlen llen n_ships n_inn n_coughs n_day held p0 = some out) : Ct l G yX4_count cX4_count 3 (some .int) 2 44 [.ref (ad 0), .int p0] (wT G ad adt adb ade adm adn adk adp adr refusals tcells lcells m_there m_used m_hidden m_kind m_figure m_cargo m_load n_there n_used n_hidden n_kind n_figure n_cargo n_load k_there k_used k_hidden k_kind k_figure k_cargo k_load isKept tlen llen m_ships m_inn m_coughs m_day n_ships n_inn n_coughs n_day k_ships k_inn k_coughs k_day held perm hist) (some (.int out)) (wT G ad adt adb ade adm adn adk adp adr refusals tcells lcells m_there m_used m_hidden m_kind m_figure m_cargo m_load n_there n_used n_hidden n_kind n_figure n_cargo n_load k_there k_used k_hidden k_kind k_figure k_cargo k_load isKept tlen llen m_ships m_inn m_coughs m_day n_ships n_inn n_coughs n_day k_ships k_inn k_coughs k_day held perm hist) := by
  refine Ct.intro RX4 rfl (plainFor_of_name (by decide)) (Nat.le_of_ble_eq_true rfl) rfl ?_
  intro p e s m args below meth c A C H locs hs ls hl
  obtain ⟨hx, hb, hml, hown, hts, hK, hret, hlk⟩ := id C
  have hl : lv_has ls 3 [(0, .ref (ad 0)), (1, .int p0)] := hl
  unfold X4_count at hf
  refine lv_iload_n hx hb (dk hX4_count_0 0 rfl) rfl (lv_at hl 1 rfl) ?_
  by_cases hc_1 : p0 = (0 : Int32)
  · replace hf := ip hf hc_1
    refine rts (tgt := 48) (off := 47) hx hb (dk hX4_count_0 1 rfl) hc_1 (by decide) (by decide) (by decide) (by decide) ?_
    refine lv_aload_n hx hb (dk hX4_count_0 2 rfl) rfl (lv_at hl 0 rfl) ?_
    refine rg ui4 rfl C hs 0 rfl 0 (by decide) tw_134 rfl rfl (dk hX4_count_0 3 rfl) ?_
    refine rg ui0 rfl C hs 15 rfl 7 (by decide) tw_56 rfl rfl (dk hX4_count_0 4 rfl) ?_
    cases hf
    exact ri C hs (dk hX4_count_0 5 rfl)
  · replace hf := in_ hf hc_1
    by_cases hc_2 : p0 = (1 : Int32)
    · replace hf := ip hf hc_2
      refine rts (tgt := 56) (off := 55) hx hb (dk hX4_count_0 1 rfl) hc_2 (by decide) (by decide) (by decide) (by decide) ?_
      refine lv_aload_n hx hb (dk hX4_count_0 6 rfl) rfl (lv_at hl 0 rfl) ?_
      refine rg ui4 rfl C hs 0 rfl 0 (by decide) tw_134 rfl rfl (dk hX4_count_0 7 rfl) ?_
      refine rg ui0 rfl C hs 15 rfl 10 (by decide) tw_63 rfl rfl (dk hX4_count_0 8 rfl) ?_
      cases hf
      exact ri C hs (dk hX4_count_0 9 rfl)
    · replace hf := in_ hf hc_2
      by_cases hc_3 : p0 = (2 : Int32)
      · replace hf := ip hf hc_3
        refine rts (tgt := 64) (off := 63) hx hb (dk hX4_count_0 1 rfl) hc_3 (by decide) (by decide) (by decide) (by decide) ?_
        refine lv_aload_n hx hb (dk hX4_count_0 10 rfl) rfl (lv_at hl 0 rfl) ?_
        refine rg ui4 rfl C hs 0 rfl 0 (by decide) tw_134 rfl rfl (dk hX4_count_0 11 rfl) ?_
        refine rg ui0 rfl C hs 15 rfl 9 (by decide) tw_61 rfl rfl (dk hX4_count_0 12 rfl) ?_
        cases hf
        exact ri C hs (dk hX4_count_0 13 rfl)
      · replace hf := in_ hf hc_3
        by_cases hc_4 : p0 = (3 : Int32)
        · replace hf := ip hf hc_4
          refine rts (tgt := 72) (off := 71) hx hb (dk hX4_count_0 1 rfl) hc_4 (by decide) (by decide) (by decide) (by decide) ?_
          refine lv_aload_n hx hb (dk hX4_count_0 14 rfl) rfl (lv_at hl 0 rfl) ?_
          refine rg ui4 rfl C hs 0 rfl 0 (by decide) tw_134 rfl rfl (dk hX4_count_0 15 rfl) ?_
          refine rg ui0 rfl C hs 15 rfl 8 (by decide) tw_58 rfl rfl (dk hX4_count_0 16 rfl) ?_
          cases hf
          exact ri C hs (dk hX4_count_0 17 rfl)
        · replace hf := in_ hf hc_4
          by_cases hc_7 : p0 = (4 : Int32)
          · replace hf := ip hf hc_7
            refine rts (tgt := 80) (off := 79) hx hb (dk hX4_count_0 1 rfl) hc_7 (by decide) (by decide) (by decide) (by decide) ?_
            refine lv_aload_n hx hb (dk hX4_count_0 18 rfl) rfl (lv_at hl 0 rfl) ?_
            refine rg ui4 rfl C hs 0 rfl 0 (by decide) tw_134 rfl rfl (dk hX4_count_0 19 rfl) ?_
            obtain ⟨u_5, e_6, hf⟩ := Option.bind_eq_some_iff.mp hf
            refine Ct.V (As := []) (rest := []) (st1 := [.int u_5]) (w1 := (wT G ad adt adb ade adm adn adk adp adr refusals tcells lcells m_there m_used m_hidden m_kind m_figure m_cargo m_load n_there n_used n_hidden n_kind n_figure n_cargo n_load k_there k_used k_hidden k_kind k_figure k_cargo k_load isKept tlen llen m_ships m_inn m_coughs m_day n_ships n_inn n_coughs n_day k_ships k_inn k_coughs k_day held perm hist)) C hs (c_X0_lackOfAll__now e_6) tw_418 tw_383 tw_384 tw_18 tw_385 nq_X0_lackOfAll (by decide) 15 0 rfl rfl rfl rfl hl.1 rfl (Nat.le_of_ble_eq_true rfl) (dk hX4_count_0 20 rfl) ⟨Nat.zero_le _, Nat.zero_le _⟩ rfl (fun H locs hs => ?_)
            cases hf
            exact ri C hs (dk hX4_count_0 21 rfl)
          · replace hf := in_ hf hc_7
            by_cases hc_10 : p0 = (5 : Int32)
            · replace hf := ip hf hc_10
              refine rts (tgt := 88) (off := 87) hx hb (dk hX4_count_0 1 rfl) hc_10 (by decide) (by decide) (by decide) (by decide) ?_
              refine lv_aload_n hx hb (dk hX4_count_0 22 rfl) rfl (lv_at hl 0 rfl) ?_
              refine rg ui4 rfl C hs 0 rfl 4 (by decide) tw_138 rfl rfl (dk hX4_count_0 23 rfl) ?_
              refine rg ui3 rfl C hs 4 rfl 0 (by decide) tw_128 rfl rfl (dk hX4_count_0 24 rfl) ?_
              obtain ⟨u_8, e_9, hf⟩ := Option.bind_eq_some_iff.mp hf
              refine Ct.V (As := []) (rest := []) (st1 := [.int u_8]) (w1 := (wT G ad adt adb ade adm adn adk adp adr refusals tcells lcells m_there m_used m_hidden m_kind m_figure m_cargo m_load n_there n_used n_hidden n_kind n_figure n_cargo n_load k_there k_used k_hidden k_kind k_figure k_cargo k_load isKept tlen llen m_ships m_inn m_coughs m_day n_ships n_inn n_coughs n_day k_ships k_inn k_coughs k_day held perm hist)) C hs (c_X1_length__letters e_9) tw_442 tw_443 tw_444 tw_21 tw_445 nq_X1_length (by decide) 5 1 rfl rfl rfl rfl hl.1 rfl (Nat.le_of_ble_eq_true rfl) (dk hX4_count_0 25 rfl) ⟨Nat.zero_le _, Nat.zero_le _⟩ rfl (fun H locs hs => ?_)
              cases hf
              exact ri C hs (dk hX4_count_0 26 rfl)
            · replace hf := in_ hf hc_10
              by_cases hc_13 : p0 = (6 : Int32)
              · replace hf := ip hf hc_13
                refine rts (tgt := 99) (off := 98) hx hb (dk hX4_count_0 1 rfl) hc_13 (by decide) (by decide) (by decide) (by decide) ?_
                refine lv_aload_n hx hb (dk hX4_count_0 27 rfl) rfl (lv_at hl 0 rfl) ?_
                refine rg ui4 rfl C hs 0 rfl 5 (by decide) tw_139 rfl rfl (dk hX4_count_0 28 rfl) ?_
                obtain ⟨u_11, e_12, hf⟩ := Option.bind_eq_some_iff.mp hf
                refine Ct.V (As := []) (rest := []) (st1 := [.int u_11]) (w1 := (wT G ad adt adb ade adm adn adk adp adr refusals tcells lcells m_there m_used m_hidden m_kind m_figure m_cargo m_load n_there n_used n_hidden n_kind n_figure n_cargo n_load k_there k_used k_hidden k_kind k_figure k_cargo k_load isKept tlen llen m_ships m_inn m_coughs m_day n_ships n_inn n_coughs n_day k_ships k_inn k_coughs k_day held perm hist)) C hs (c_X1_length__told e_12) tw_442 tw_443 tw_444 tw_21 tw_445 nq_X1_length (by decide) 2 1 rfl rfl rfl rfl hl.1 rfl (Nat.le_of_ble_eq_true rfl) (dk hX4_count_0 29 rfl) ⟨Nat.zero_le _, Nat.zero_le _⟩ rfl (fun H locs hs => ?_)
                cases hf
                exact ri C hs (dk hX4_count_0 30 rfl)
              · replace hf := in_ hf hc_13
                by_cases hc_16 : p0 = (7 : Int32)
                · replace hf := ip hf hc_16
                  refine rts (tgt := 107) (off := 106) hx hb (dk hX4_count_0 1 rfl) hc_16 (by decide) (by decide) (by decide) (by decide) ?_
                  refine lv_aload_n hx hb (dk hX4_count_0 31 rfl) rfl (lv_at hl 0 rfl) ?_
                  refine rg ui4 rfl C hs 0 rfl 3 (by decide) tw_137 rfl rfl (dk hX4_count_0 32 rfl) ?_
                  obtain ⟨u_14, e_15, hf⟩ := Option.bind_eq_some_iff.mp hf
                  refine Ct.V (As := []) (rest := []) (st1 := [.int u_14]) (w1 := (wT G ad adt adb ade adm adn adk adp adr refusals tcells lcells m_there m_used m_hidden m_kind m_figure m_cargo m_load n_there n_used n_hidden n_kind n_figure n_cargo n_load k_there k_used k_hidden k_kind k_figure k_cargo k_load isKept tlen llen m_ships m_inn m_coughs m_day n_ships n_inn n_coughs n_day k_ships k_inn k_coughs k_day held perm hist)) C hs (c_X2_held e_15) tw_300 tw_301 tw_302 tw_19 tw_303 nq_X2_held (by decide) 31 2 rfl rfl rfl rfl hl.1 rfl (Nat.le_of_ble_eq_true rfl) (dk hX4_count_0 33 rfl) ⟨Nat.zero_le _, Nat.zero_le _⟩ rfl (fun H locs hs => ?_)
                  cases hf
                  exact ri C hs (dk hX4_count_0 34 rfl)
                · replace hf := in_ hf hc_16
                  refine rtd (tgt := 115) hx hb (dk hX4_count_0 1 rfl) [0, 1, 2, 3, 4, 5, 6, 7] (by decide) (by decide) (List.forall_mem_cons.mpr ⟨ti hc_1 (by decide), List.forall_mem_cons.mpr ⟨ti hc_2 (by decide), List.forall_mem_cons.mpr ⟨ti hc_3 (by decide), List.forall_mem_cons.mpr ⟨ti hc_4 (by decide), List.forall_mem_cons.mpr ⟨ti hc_7 (by decide), List.forall_mem_cons.mpr ⟨ti hc_10 (by decide), List.forall_mem_cons.mpr ⟨ti hc_13 (by decide), List.forall_mem_cons.mpr ⟨ti hc_16 (by decide), fun _ h => absurd h List.not_mem_nil⟩⟩⟩⟩⟩⟩⟩⟩) (by decide) ?_
                  refine lv_iload_n hx hb (dk hX4_count_0 35 rfl) rfl (lv_at hl 1 rfl) ?_
                  refine lv_bipush (v := (10 : Int32)) hx hb (dk hX4_count_0 36 rfl) (by decide) ?_
                  refine lv_isub hx hb (dk hX4_count_0 37 rfl) ?_
                  refine lv_istore_n (lv' := [(2, .int (p0 - (10 : Int32))), (0, .ref (ad 0)), (1, .int p0)]) hx hb (dk hX4_count_0 38 rfl) rfl hl (by decide) rfl (fun ls hl => ?_)
                  refine lv_iload_n hx hb (dk hX4_count_0 39 rfl) rfl (lv_at hl 2 rfl) ?_
                  refine lv_bipush (v := (10 : Int32)) hx hb (dk hX4_count_1 0 rfl) (by decide) ?_
                  refine lv_icmp_le (tgt := 144) hx hb (dk hX4_count_1 1 rfl) (by decide) (fun hc => ?_) (fun hc => ?_)
                  · replace hf := ip hf hc
                    refine lv_bipush (v := (-9 : Int32)) hx hb (dk hX4_count_1 12 rfl) (by decide) ?_
                    cases hf
                    exact ri C hs (dk hX4_count_1 13 rfl)
                  · replace hf := in_ hf hc
                    refine lv_iload_n hx hb (dk hX4_count_1 2 rfl) rfl (lv_at hl 0 rfl) ?_
                    refine lv_aload_n hx hb (dk hX4_count_1 3 rfl) rfl (lv_at hl 1 rfl) ?_
                    refine rg ui4 rfl C hs 0 rfl 6 (by decide) tw_140 rfl rfl (dk hX4_count_1 4 rfl) ?_
                    refine rlen C hs 1 rfl (dk hX4_count_1 5 rfl) ?_
                    refine lv_icmp_ge (tgt := 144) hx hb (dk hX4_count_1 6 rfl) (by decide) (fun hc => ?_) (fun hc => ?_)
                    · replace hf := ip hf hc
                      refine lv_bipush (v := (-9 : Int32)) hx hb (dk hX4_count_1 12 rfl) (by decide) ?_
                      cases hf
                      exact ri C hs (dk hX4_count_1 13 rfl)
                    · replace hf := in_ hf hc
                      refine lv_aload_n hx hb (dk hX4_count_1 7 rfl) rfl (lv_at hl 1 rfl) ?_
                      refine rg ui4 rfl C hs 0 rfl 6 (by decide) tw_140 rfl rfl (dk hX4_count_1 8 rfl) ?_
                      refine lv_iload_n hx hb (dk hX4_count_1 9 rfl) rfl (lv_at hl 0 rfl) ?_
                      obtain ⟨v_17, e_18, hf⟩ := Option.bind_eq_some_iff.mp hf
                      refine rild C hs 1 rfl e_18 (dk hX4_count_1 10 rfl) ?_
                      refine lv_goto (tgt := 146) hx hb (dk hX4_count_1 11 rfl) (by decide) ?_
                      cases hf
                      exact ri C hs (dk hX4_count_1 13 rfl)

