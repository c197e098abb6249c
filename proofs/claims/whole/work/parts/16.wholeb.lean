def X4_isInWithout_L9 (k : List Int32 → List Int32 → Option (List Int32 × List Int32 × List Int32 × List Int32 × List Int32 × List Int32 × List Int32 × Int32 × Int32 × Int32 × Int32 × Int32)) (x1 : Int32) : Nat → Int32 → List Int32 → List Int32 → Option (List Int32 × List Int32 × List Int32 × List Int32 × List Int32 × List Int32 × List Int32 × Int32 × Int32 × Int32 × Int32 × Int32)
  | 0, _, _, _ => none
  | n + 1, x5, m_there, m_hidden =>
  if (6 : Int32) ≤ x5 then
  k m_there m_hidden
  else
  if ((x1 >>> (x5 &&& 31)) &&& (1 : Int32)) = (0 : Int32) then
  X4_isInWithout_L9 k x1 n (x5 + (1 : Int32)) m_there m_hidden
  else
  (rd m_there x5).bind fun v_3 =>
  (X0_hideAway m_there m_hidden x5 v_3).bind fun u_5 =>
  X4_isInWithout_L9 k x1 n (x5 + (1 : Int32)) u_5.1 u_5.2
def X4_isInWithout (m_there : List Int32) (m_used : List Int32) (m_hidden : List Int32) (m_kind : List Int32) (m_figure : List Int32) (m_cargo : List Int32) (m_load : List Int32) (n_there : List Int32) (n_used : List Int32) (n_hidden : List Int32) (n_kind : List Int32) (n_figure : List Int32) (n_cargo : List Int32) (n_load : List Int32) (m_ships : Int32) (m_inn : Int32) (m_coughs : Int32) (m_day : Int32) (n_ships : Int32) (n_inn : Int32) (n_coughs : Int32) (n_day : Int32) (p0 : Int32) (p1 : Int32) (p2 : Int32) : Option (List Int32 × List Int32 × List Int32 × List Int32 × List Int32 × List Int32 × List Int32 × Int32 × Int32 × Int32 × Int32 × Int32) :=
  (X4_fromNow m_there m_used m_hidden m_kind m_figure m_cargo m_load n_there n_used n_hidden n_kind n_figure n_cargo n_load m_ships m_inn m_coughs m_day n_ships n_inn n_coughs n_day).bind fun u_1 =>
  X4_isInWithout_L9 (fun m_there_7 m_hidden_8 =>
  (X0_daysUntilIn m_there_7 u_1.2.1 m_hidden_8 u_1.2.2.2.1 u_1.2.2.2.2.1 u_1.2.2.2.2.2.1 u_1.2.2.2.2.2.2.1 u_1.2.2.2.2.2.2.2.1 u_1.2.2.2.2.2.2.2.2.1 u_1.2.2.2.2.2.2.2.2.2.1 u_1.2.2.2.2.2.2.2.2.2.2 p1 p2).bind fun u_9 =>
  if u_9.2.2.2.2 = (-9 : Int32) then
  some (u_9.1, u_1.2.1, m_hidden_8, u_1.2.2.2.1, u_1.2.2.2.2.1, u_1.2.2.2.2.2.1, u_1.2.2.2.2.2.2.1, u_1.2.2.2.2.2.2.2.1, u_9.2.1, u_9.2.2.1, u_9.2.2.2.1, (0 : Int32))
  else
  some (u_9.1, u_1.2.1, m_hidden_8, u_1.2.2.2.1, u_1.2.2.2.2.1, u_1.2.2.2.2.2.1, u_1.2.2.2.2.2.2.1, u_1.2.2.2.2.2.2.2.1, u_9.2.1, u_9.2.2.1, u_9.2.2.2.1, (1 : Int32))) p0 1000 (0 : Int32) u_1.1 u_1.2.2.1
set_option maxRecDepth 100000 in
set_option maxHeartbeats 4000000 in
theorem l_X4_isInWithout_L9 {l : Launch} {p : Program} {e : Env} {s : State} {m : MethodId} {args : Array Value} {below : List Frame} {meth : Method} {c : Code} {A : Nat → Prop} {G : Gx} {ad adt adb ade adm adn adk adp : Nat → Nat} {adr : Nat → Nat → Nat} {refusals tcells lcells m_used m_kind m_figure m_cargo m_load n_there n_used n_hidden n_kind n_figure n_cargo n_load k_there k_used k_hidden k_kind k_figure k_cargo k_load : List Int32} {isKept tlen llen m_ships m_inn m_coughs m_day n_ships n_inn n_coughs n_day k_ships k_inn k_coughs k_day held : Int32} {perm : Nat → Nat} {hist : Nat → Hs} {x1 : Int32} {x2 : Int32} {x3 : Int32} {k : List Int32 → List Int32 → Option (List Int32 × List Int32 × List Int32 × List Int32 × List Int32 × List Int32 × List Int32 × Int32 × Int32 × Int32 × Int32 × Int32)} {out : List Int32 × List Int32 × List Int32 × List Int32 × List Int32 × List Int32 × List Int32 × Int32 × Int32 × Int32 × Int32 × Int32} (C : Cx p s m args meth c cX4_isInWithout RX4 6 (some .boolean) G) : ∀ (n : Nat) (x5 : Int32) (m_there : List Int32) (m_hidden : List Int32), X4_isInWithout_L9 k x1 n x5 m_there m_hidden = some out → ∀ (H : Heap) (locs : List Loc), St G A s.heap H locs (wT G ad adt adb ade adm adn adk adp adr refusals tcells lcells m_there m_used m_hidden m_kind m_figure m_cargo m_load n_there n_used n_hidden n_kind n_figure n_cargo n_load k_there k_used k_hidden k_kind k_figure k_cargo k_load isKept tlen llen m_ships m_inn m_coughs m_day n_ships n_inn n_coughs n_day k_ships k_inn k_coughs k_day held perm hist) → ∀ ls : Array Slot, lv_has ls 6 [(1, .int x1), (2, .int x2), (3, .int x3), (4, .ref (adm 0)), (5, .int x5)] → (∀ (z_m_there : List Int32) (z_m_hidden : List Int32), k z_m_there z_m_hidden = some out → ∀ (H : Heap) (locs : List Loc), St G A s.heap H locs (wT G ad adt adb ade adm adn adk adp adr refusals tcells lcells z_m_there m_used z_m_hidden m_kind m_figure m_cargo m_load n_there n_used n_hidden n_kind n_figure n_cargo n_load k_there k_used k_hidden k_kind k_figure k_cargo k_load isKept tlen llen m_ships m_inn m_coughs m_day n_ships n_inn n_coughs n_day k_ships k_inn k_coughs k_day held perm hist) → ∀ ls : Array Slot, lv_has ls 6 [(2, .int x2), (3, .int x3), (4, .ref (adm 0))] → W p l e (rmOf 5 112) s m args below meth c H locs 0 0 (MQ below (Qof G A (some (.int out.2.2.2.2.2.2.2.2.2.2.2)) (wT G ad adt adb ade adm adn adk adp adr refusals tcells lcells out.1 out.2.1 out.2.2.1 out.2.2.2.1 out.2.2.2.2.1 out.2.2.2.2.2.1 out.2.2.2.2.2.2.1 n_there n_used n_hidden n_kind n_figure n_cargo n_load k_there k_used k_hidden k_kind k_figure k_cargo k_load isKept tlen llen out.2.2.2.2.2.2.2.1 out.2.2.2.2.2.2.2.2.1 out.2.2.2.2.2.2.2.2.2.1 out.2.2.2.2.2.2.2.2.2.2.1 n_ships n_inn n_coughs n_day k_ships k_inn k_coughs k_day held perm hist)) args s 0 0 A) (F0 m 46 ls [])) → W p l e (rmOf 5 112) s m args below meth c H locs 0 0 (MQ below (Qof G A (some (.int out.2.2.2.2.2.2.2.2.2.2.2)) (wT G ad adt adb ade adm adn adk adp adr refusals tcells lcells out.1 out.2.1 out.2.2.1 out.2.2.2.1 out.2.2.2.2.1 out.2.2.2.2.2.1 out.2.2.2.2.2.2.1 n_there n_used n_hidden n_kind n_figure n_cargo n_load k_there k_used k_hidden k_kind k_figure k_cargo k_load isKept tlen llen out.2.2.2.2.2.2.2.1 out.2.2.2.2.2.2.2.2.1 out.2.2.2.2.2.2.2.2.2.1 out.2.2.2.2.2.2.2.2.2.2.1 n_ships n_inn n_coughs n_day k_ships k_inn k_coughs k_day held perm hist)) args s 0 0 A) (F0 m 9 ls []) := by
  obtain ⟨hx, hb, hml, hown, hts, hK, hret, hlk⟩ := id C
  intro n
  induction n with
  | zero => intro x5 m_there m_hidden hf; cases hf
  | succ n ih =>
    intro x5 m_there m_hidden hf H locs hs ls hl hk
    rw [X4_isInWithout_L9] at hf
    refine lv_iload hx hb (dk hX4_isInWithout_0 5 rfl) (lv_at hl 4 rfl) ?_
    refine lv_bipush (v := (6 : Int32)) hx hb (dk hX4_isInWithout_0 6 rfl) (by decide) ?_
    refine lv_icmp_ge (tgt := 46) hx hb (dk hX4_isInWithout_0 7 rfl) (by decide) (fun hc => ?_) (fun hc => ?_)
    · replace hf := ip hf hc
      exact hk _ _ hf _ _ hs _ (lv_sub hl [1, 2, 3] rfl)
    · replace hf := in_ hf hc
      refine lv_iload_n hx hb (dk hX4_isInWithout_0 8 rfl) rfl (lv_at hl 0 rfl) ?_
      refine lv_iload hx hb (dk hX4_isInWithout_0 9 rfl) (lv_at hl 4 rfl) ?_
      refine lv_ishr hx hb (dk hX4_isInWithout_0 10 rfl) ?_
      refine lv_iconst (v := (1 : Int32)) hx hb (dk hX4_isInWithout_0 11 rfl) (by decide) ?_
      refine lv_iand hx hb (dk hX4_isInWithout_0 12 rfl) ?_
      refine lv_if_eq (tgt := 40) hx hb (dk hX4_isInWithout_0 13 rfl) (by decide) (fun hc => ?_) (fun hc => ?_)
      · replace hf := ip hf hc
        refine lv_iinc (v := (x5 + (1 : Int32))) (lv' := [(5, .int (x5 + (1 : Int32))), (1, .int x1), (2, .int x2), (3, .int x3), (4, .ref (adm 0))]) hx hb (dk hX4_isInWithout_0 21 rfl) hl (k := 4) rfl (by first | rfl | decide) (by decide) rfl (fun ls hl => ?_)
        refine lv_goto (tgt := 9) hx hb (dk hX4_isInWithout_0 22 rfl) (by decide) ?_
        exact ih _ _ _ hf _ _ hs _ (lv_sub hl [1, 2, 3, 4, 0] rfl) hk
      · replace hf := in_ hf hc
        refine lv_aload hx hb (dk hX4_isInWithout_0 14 rfl) (lv_at hl 3 rfl) ?_
        refine lv_iload hx hb (dk hX4_isInWithout_0 15 rfl) (lv_at hl 4 rfl) ?_
        refine lv_aload hx hb (dk hX4_isInWithout_0 16 rfl) (lv_at hl 3 rfl) ?_
        refine rg ui0 rfl C hs 7 rfl 0 (by decide) tw_102 rfl rfl (dk hX4_isInWithout_0 17 rfl) ?_
        refine lv_iload hx hb (dk hX4_isInWithout_0 18 rfl) (lv_at hl 4 rfl) ?_
        obtain ⟨v_3, e_4, hf⟩ := Option.bind_eq_some_iff.mp hf
        refine rild C hs 8 rfl e_4 (dk hX4_isInWithout_0 19 rfl) ?_
        obtain ⟨u_5, e_6, hf⟩ := Option.bind_eq_some_iff.mp hf
        refine Ct.V (As := [.int x5, .int v_3]) (rest := []) (st1 := []) (w1 := (wT G ad adt adb ade adm adn adk adp adr refusals tcells lcells u_5.1 m_used u_5.2 m_kind m_figure m_cargo m_load n_there n_used n_hidden n_kind n_figure n_cargo n_load k_there k_used k_hidden k_kind k_figure k_cargo k_load isKept tlen llen m_ships m_inn m_coughs m_day n_ships n_inn n_coughs n_day k_ships k_inn k_coughs k_day held perm hist)) C hs (c_X0_hideAway__mind e_6) tw_430 tw_320 tw_321 tw_80 tw_322 nq_X0_hideAway (by decide) 7 0 rfl rfl rfl rfl hl.1 rfl (Nat.le_of_ble_eq_true rfl) (dk hX4_isInWithout_0 20 rfl) ⟨Nat.zero_le _, Nat.zero_le _⟩ rfl (fun H locs hs => ?_)
        refine lv_iinc (v := (x5 + (1 : Int32))) (lv' := [(5, .int (x5 + (1 : Int32))), (1, .int x1), (2, .int x2), (3, .int x3), (4, .ref (adm 0))]) hx hb (dk hX4_isInWithout_0 21 rfl) hl (k := 4) rfl (by first | rfl | decide) (by decide) rfl (fun ls hl => ?_)
        refine lv_goto (tgt := 9) hx hb (dk hX4_isInWithout_0 22 rfl) (by decide) ?_
        exact ih _ _ _ hf _ _ hs _ (lv_sub hl [1, 2, 3, 4, 0] rfl) hk
set_option maxRecDepth 100000 in
set_option maxHeartbeats 4000000 in
theorem c_X4_isInWithout {l : Launch} {G : Gx} {ad adt adb ade adm adn adk adp : Nat → Nat} {adr : Nat → Nat → Nat} {refusals tcells lcells m_there m_used m_hidden m_kind m_figure m_cargo m_load n_there n_used n_hidden n_kind n_figure n_cargo n_load k_there k_used k_hidden k_kind k_figure k_cargo k_load : List Int32} {isKept tlen llen m_ships m_inn m_coughs m_day n_ships n_inn n_coughs n_day k_ships k_inn k_coughs k_day held : Int32} {perm : Nat → Nat} {hist : Nat → Hs} {p0 : Int32} {p1 : Int32} {p2 : Int32} {out : List Int32 × List Int32 × List Int32 × List Int32 × List Int32 × List Int32 × List Int32 × Int32 × Int32 × Int32 × Int32 × Int32} (hf : X4_isInWithout m_there m_used m_hidden m_kind m_figure m_cargo m_load n_there n_used n_hidden n_kind n_figure n_cargo n_load m_ships m_inn m_coughs m_day n_ships n_inn n_coughs n_day p0 p1 p2 = some out) : Ct l G yX4_isInWithout cX4_isInWithout 6 (some .boolean) 5 112 [.ref (ad 0), .int p0, .int p1, .int p2] (wT G ad adt adb ade adm adn adk adp adr refusals tcells lcells m_there m_used m_hidden m_kind m_figure m_cargo m_load n_there n_used n_hidden n_kind n_figure n_cargo n_load k_there k_used k_hidden k_kind k_figure k_cargo k_load isKept tlen llen m_ships m_inn m_coughs m_day n_ships n_inn n_coughs n_day k_ships k_inn k_coughs k_day held perm hist) (some (.int out.2.2.2.2.2.2.2.2.2.2.2)) (wT G ad adt adb ade adm adn adk adp adr refusals tcells lcells out.1 out.2.1 out.2.2.1 out.2.2.2.1 out.2.2.2.2.1 out.2.2.2.2.2.1 out.2.2.2.2.2.2.1 n_there n_used n_hidden n_kind n_figure n_cargo n_load k_there k_used k_hidden k_kind k_figure k_cargo k_load isKept tlen llen out.2.2.2.2.2.2.2.1 out.2.2.2.2.2.2.2.2.1 out.2.2.2.2.2.2.2.2.2.1 out.2.2.2.2.2.2.2.2.2.2.1 n_ships n_inn n_coughs n_day k_ships k_inn k_coughs k_day held perm hist) := by
  refine Ct.intro RX4 rfl (plainFor_of_name (by decide)) (Nat.le_of_ble_eq_true rfl) rfl ?_
  intro p e s m args below meth c A C H locs hs ls hl
  obtain ⟨hx, hb, hml, hown, hts, hK, hret, hlk⟩ := id C
  have hl : lv_has ls 6 [(0, .ref (ad 0)), (1, .int p0), (2, .int p1), (3, .int p2)] := hl
  unfold X4_isInWithout at hf
  refine lv_aload_n hx hb (dk hX4_isInWithout_0 0 rfl) rfl (lv_at hl 0 rfl) ?_
  obtain ⟨u_1, e_2, hf⟩ := Option.bind_eq_some_iff.mp hf
  refine Ct.V (As := []) (rest := []) (st1 := [.ref (adm 0)]) (w1 := (wT G ad adt adb ade adm adn adk adp adr refusals tcells lcells u_1.1 u_1.2.1 u_1.2.2.1 u_1.2.2.2.1 u_1.2.2.2.2.1 u_1.2.2.2.2.2.1 u_1.2.2.2.2.2.2.1 n_there n_used n_hidden n_kind n_figure n_cargo n_load k_there k_used k_hidden k_kind k_figure k_cargo k_load isKept tlen llen u_1.2.2.2.2.2.2.2.1 u_1.2.2.2.2.2.2.2.2.1 u_1.2.2.2.2.2.2.2.2.2.1 u_1.2.2.2.2.2.2.2.2.2.2 n_ships n_inn n_coughs n_day k_ships k_inn k_coughs k_day held perm hist)) C hs (c_X4_fromNow e_2) tw_246 tw_248 tw_1 tw_79 tw_249 nq_X4_fromNow (by decide) 0 4 rfl rfl rfl rfl hl.1 rfl (Nat.le_of_ble_eq_true rfl) (dk hX4_isInWithout_0 1 rfl) ⟨Nat.zero_le _, Nat.zero_le _⟩ rfl (fun H locs hs => ?_)
  refine lv_astore (lv' := [(4, .ref (adm 0)), (0, .ref (ad 0)), (1, .int p0), (2, .int p1), (3, .int p2)]) hx hb (dk hX4_isInWithout_0 2 rfl) hl (by decide) rfl (fun ls hl => ?_)
  refine lv_iconst (v := (0 : Int32)) hx hb (dk hX4_isInWithout_0 3 rfl) (by decide) ?_
  refine lv_istore (lv' := [(5, .int (0 : Int32)), (4, .ref (adm 0)), (0, .ref (ad 0)), (1, .int p0), (2, .int p1), (3, .int p2)]) hx hb (dk hX4_isInWithout_0 4 rfl) hl (by decide) rfl (fun ls hl => ?_)
  refine l_X4_isInWithout_L9 C 1000 _ _ _ hf _ _ hs _ (lv_sub hl [3, 4, 5, 1, 0] rfl) (fun m_there_7 m_hidden_8 hf H locs hs ls hl => ?_)
  refine lv_aload hx hb (dk hX4_isInWithout_0 23 rfl) (lv_at hl 2 rfl) ?_
  refine lv_iload_n hx hb (dk hX4_isInWithout_0 24 rfl) rfl (lv_at hl 0 rfl) ?_
  refine lv_iload_n hx hb (dk hX4_isInWithout_0 25 rfl) rfl (lv_at hl 1 rfl) ?_
  obtain ⟨u_9, e_10, hf⟩ := Option.bind_eq_some_iff.mp hf
  refine Ct.V (As := [.int p1, .int p2]) (rest := []) (st1 := [.int u_9.2.2.2.2]) (w1 := (wT G ad adt adb ade adm adn adk adp adr refusals tcells lcells u_9.1 u_1.2.1 m_hidden_8 u_1.2.2.2.1 u_1.2.2.2.2.1 u_1.2.2.2.2.2.1 u_1.2.2.2.2.2.2.1 n_there n_used n_hidden n_kind n_figure n_cargo n_load k_there k_used k_hidden k_kind k_figure k_cargo k_load isKept tlen llen u_1.2.2.2.2.2.2.2.1 u_9.2.1 u_9.2.2.1 u_9.2.2.2.1 n_ships n_inn n_coughs n_day k_ships k_inn k_coughs k_day held perm hist)) C hs (c_X0_daysUntilIn__mind e_10) tw_480 tw_481 tw_482 tw_80 tw_483 nq_X0_daysUntilIn (by decide) 7 0 rfl rfl rfl rfl hl.1 rfl (Nat.le_of_ble_eq_true rfl) (dk hX4_isInWithout_0 26 rfl) ⟨Nat.zero_le _, Nat.zero_le _⟩ rfl (fun H locs hs => ?_)
  refine lv_bipush (v := (-9 : Int32)) hx hb (dk hX4_isInWithout_0 27 rfl) (by decide) ?_
  refine lv_icmp_eq (tgt := 62) hx hb (dk hX4_isInWithout_0 28 rfl) (by decide) (fun hc => ?_) (fun hc => ?_)
  · replace hf := ip hf hc
    refine lv_iconst (v := (0 : Int32)) hx hb (dk hX4_isInWithout_0 31 rfl) (by decide) ?_
    cases hf
    exact rz (x := (0 : Int32)) rfl C hs (dk hX4_isInWithout_0 32 rfl)
  · replace hf := in_ hf hc
    refine lv_iconst (v := (1 : Int32)) hx hb (dk hX4_isInWithout_0 29 rfl) (by decide) ?_
    refine lv_goto (tgt := 63) hx hb (dk hX4_isInWithout_0 30 rfl) (by decide) ?_
    cases hf
    exact rz (x := (1 : Int32)) rfl C hs (dk hX4_isInWithout_0 32 rfl)

def X4_fewest_L48 (k : List Int32 → List Int32 → List Int32 → List Int32 → List Int32 → List Int32 → List Int32 → Int32 → Int32 → Int32 → Int32 → Option (List Int32 × List Int32 × List Int32 × List Int32 × List Int32 × List Int32 × List Int32 × List Int32 × Int32 × Int32 × Int32 × Int32 × Int32)) (refusals : List Int32) (n_there : List Int32) (n_used : List Int32) (n_hidden : List Int32) (n_kind : List Int32) (n_figure : List Int32) (n_cargo : List Int32) (n_load : List Int32) (n_ships : Int32) (n_inn : Int32) (n_coughs : Int32) (n_day : Int32) (x1 : Int32) (x2 : Int32) (x4 : Int32) : Nat → Int32 → List Int32 → List Int32 → List Int32 → List Int32 → List Int32 → List Int32 → List Int32 → Int32 → Int32 → Int32 → Int32 → Option (List Int32 × List Int32 × List Int32 × List Int32 × List Int32 × List Int32 × List Int32 × List Int32 × Int32 × Int32 × Int32 × Int32 × Int32)
  | 0, _, _, _, _, _, _, _, _, _, _, _, _ => none
  | n + 1, x5, m_there, m_used, m_hidden, m_kind, m_figure, m_cargo, m_load, m_ships, m_inn, m_coughs, m_day =>
  if (64 : Int32) ≤ x5 then
  k m_there m_used m_hidden m_kind m_figure m_cargo m_load m_ships m_inn m_coughs m_day
  else
  (J6_bitCount_0f7a4 x5).bind fun u_5 =>
  if u_5 = x4 then
  (X4_isInWithout m_there m_used m_hidden m_kind m_figure m_cargo m_load n_there n_used n_hidden n_kind n_figure n_cargo n_load m_ships m_inn m_coughs m_day n_ships n_inn n_coughs n_day x5 x1 x2).bind fun u_7 =>
  if u_7.2.2.2.2.2.2.2.2.2.2.2 = (0 : Int32) then
  X4_fewest_L48 k refusals n_there n_used n_hidden n_kind n_figure n_cargo n_load n_ships n_inn n_coughs n_day x1 x2 x4 n (x5 + (1 : Int32)) u_7.1 u_7.2.1 u_7.2.2.1 u_7.2.2.2.1 u_7.2.2.2.2.1 u_7.2.2.2.2.2.1 u_7.2.2.2.2.2.2.1 u_7.2.2.2.2.2.2.2.1 u_7.2.2.2.2.2.2.2.2.1 u_7.2.2.2.2.2.2.2.2.2.1 u_7.2.2.2.2.2.2.2.2.2.2.1
  else
  some (refusals, u_7.1, u_7.2.1, u_7.2.2.1, u_7.2.2.2.1, u_7.2.2.2.2.1, u_7.2.2.2.2.2.1, u_7.2.2.2.2.2.2.1, u_7.2.2.2.2.2.2.2.1, u_7.2.2.2.2.2.2.2.2.1, u_7.2.2.2.2.2.2.2.2.2.1, u_7.2.2.2.2.2.2.2.2.2.2.1, x5)
  else
  X4_fewest_L48 k refusals n_there n_used n_hidden n_kind n_figure n_cargo n_load n_ships n_inn n_coughs n_day x1 x2 x4 n (x5 + (1 : Int32)) m_there m_used m_hidden m_kind m_figure m_cargo m_load m_ships m_inn m_coughs m_day
def X4_fewest_L38 (k : List Int32 → List Int32 → List Int32 → List Int32 → List Int32 → List Int32 → List Int32 → Int32 → Int32 → Int32 → Int32 → Option (List Int32 × List Int32 × List Int32 × List Int32 × List Int32 × List Int32 × List Int32 × List Int32 × Int32 × Int32 × Int32 × Int32 × Int32)) (refusals : List Int32) (n_there : List Int32) (n_used : List Int32) (n_hidden : List Int32) (n_kind : List Int32) (n_figure : List Int32) (n_cargo : List Int32) (n_load : List Int32) (n_ships : Int32) (n_inn : Int32) (n_coughs : Int32) (n_day : Int32) (x1 : Int32) (x2 : Int32) : Nat → Int32 → List Int32 → List Int32 → List Int32 → List Int32 → List Int32 → List Int32 → List Int32 → Int32 → Int32 → Int32 → Int32 → Option (List Int32 × List Int32 × List Int32 × List Int32 × List Int32 × List Int32 × List Int32 × List Int32 × Int32 × Int32 × Int32 × Int32 × Int32)
  | 0, _, _, _, _, _, _, _, _, _, _, _, _ => none
  | n + 1, x4, m_there, m_used, m_hidden, m_kind, m_figure, m_cargo, m_load, m_ships, m_inn, m_coughs, m_day =>
  if (6 : Int32) < x4 then
  k m_there m_used m_hidden m_kind m_figure m_cargo m_load m_ships m_inn m_coughs m_day
  else
  X4_fewest_L48 (fun m_there_9 m_used_10 m_hidden_11 m_kind_12 m_figure_13 m_cargo_14 m_load_15 m_ships_16 m_inn_17 m_coughs_18 m_day_19 =>
  X4_fewest_L38 k refusals n_there n_used n_hidden n_kind n_figure n_cargo n_load n_ships n_inn n_coughs n_day x1 x2 n (x4 + (1 : Int32)) m_there_9 m_used_10 m_hidden_11 m_kind_12 m_figure_13 m_cargo_14 m_load_15 m_ships_16 m_inn_17 m_coughs_18 m_day_19) refusals n_there n_used n_hidden n_kind n_figure n_cargo n_load n_ships n_inn n_coughs n_day x1 x2 x4 1000 (0 : Int32) m_there m_used m_hidden m_kind m_figure m_cargo m_load m_ships m_inn m_coughs m_day
def X4_fewest (refusals : List Int32) (m_there : List Int32) (m_used : List Int32) (m_hidden : List Int32) (m_kind : List Int32) (m_figure : List Int32) (m_cargo : List Int32) (m_load : List Int32) (n_there : List Int32) (n_used : List Int32) (n_hidden : List Int32) (n_kind : List Int32) (n_figure : List Int32) (n_cargo : List Int32) (n_load : List Int32) (m_ships : Int32) (m_inn : Int32) (m_coughs : Int32) (m_day : Int32) (n_ships : Int32) (n_inn : Int32) (n_coughs : Int32) (n_day : Int32) (p0 : Int32) (p1 : Int32) : Option (List Int32 × List Int32 × List Int32 × List Int32 × List Int32 × List Int32 × List Int32 × List Int32 × Int32 × Int32 × Int32 × Int32 × Int32) :=
  (X0_isShip n_ships p0).bind fun u_1 =>
  if u_1 = (0 : Int32) then
  (X4_refuse refusals (-1 : Int32)).bind fun u_33 =>
  some (u_33.1, m_there, m_used, m_hidden, m_kind, m_figure, m_cargo, m_load, m_ships, m_inn, m_coughs, m_day, u_33.2)
  else
  (X4_misfit p1 (1 : Int32) (60 : Int32)).bind fun u_3 =>
  if u_3 = (0 : Int32) then
  X4_fewest_L38 (fun m_there_20 m_used_21 m_hidden_22 m_kind_23 m_figure_24 m_cargo_25 m_load_26 m_ships_27 m_inn_28 m_coughs_29 m_day_30 =>
  some (refusals, m_there_20, m_used_21, m_hidden_22, m_kind_23, m_figure_24, m_cargo_25, m_load_26, m_ships_27, m_inn_28, m_coughs_29, m_day_30, (-9 : Int32))) refusals n_there n_used n_hidden n_kind n_figure n_cargo n_load n_ships n_inn n_coughs n_day p0 p1 1000 (0 : Int32) m_there m_used m_hidden m_kind m_figure m_cargo m_load m_ships m_inn m_coughs m_day
  else
  (X4_refuse refusals u_3).bind fun u_31 =>
  some (u_31.1, m_there, m_used, m_hidden, m_kind, m_figure, m_cargo, m_load, m_ships, m_inn, m_coughs, m_day, u_31.2)
set_option maxRecDepth 100000 in
set_option maxHeartbeats 4000000 in
theorem l_X4_fewest_L48 {l : Launch} {p : Program} {e : Env} {s : State} {m : MethodId} {args : Array Value} {below : List Frame} {meth : Method} {c : Code} {A : Nat → Prop} {G : Gx} {ad adt adb ade adm adn adk adp : Nat → Nat} {adr : Nat → Nat → Nat} {refusals tcells lcells n_there n_used n_hidden n_kind n_figure n_cargo n_load k_there k_used k_hidden k_kind k_figure k_cargo k_load : List Int32} {isKept tlen llen n_ships n_inn n_coughs n_day k_ships k_inn k_coughs k_day held : Int32} {perm : Nat → Nat} {hist : Nat → Hs} {x1 : Int32} {x2 : Int32} {x4 : Int32} {k : List Int32 → List Int32 → List Int32 → List Int32 → List Int32 → List Int32 → List Int32 → Int32 → Int32 → Int32 → Int32 → Option (List Int32 × List Int32 × List Int32 × List Int32 × List Int32 × List Int32 × List Int32 × List Int32 × Int32 × Int32 × Int32 × Int32 × Int32)} {out : List Int32 × List Int32 × List Int32 × List Int32 × List Int32 × List Int32 × List Int32 × List Int32 × Int32 × Int32 × Int32 × Int32 × Int32} (C : Cx p s m args meth c cX4_fewest RX4 6 (some .int) G) : ∀ (n : Nat) (x5 : Int32) (m_there : List Int32) (m_used : List Int32) (m_hidden : List Int32) (m_kind : List Int32) (m_figure : List Int32) (m_cargo : List Int32) (m_load : List Int32) (m_ships : Int32) (m_inn : Int32) (m_coughs : Int32) (m_day : Int32), X4_fewest_L48 k refusals n_there n_used n_hidden n_kind n_figure n_cargo n_load n_ships n_inn n_coughs n_day x1 x2 x4 n x5 m_there m_used m_hidden m_kind m_figure m_cargo m_load m_ships m_inn m_coughs m_day = some out → ∀ (H : Heap) (locs : List Loc), St G A s.heap H locs (wT G ad adt adb ade adm adn adk adp adr refusals tcells lcells m_there m_used m_hidden m_kind m_figure m_cargo m_load n_there n_used n_hidden n_kind n_figure n_cargo n_load k_there k_used k_hidden k_kind k_figure k_cargo k_load isKept tlen llen m_ships m_inn m_coughs m_day n_ships n_inn n_coughs n_day k_ships k_inn k_coughs k_day held perm hist) → ∀ ls : Array Slot, lv_has ls 6 [(0, .ref (ad 0)), (1, .int x1), (2, .int x2), (4, .int x4), (5, .int x5)] → (∀ (z_m_there : List Int32) (z_m_used : List Int32) (z_m_hidden : List Int32) (z_m_kind : List Int32) (z_m_figure : List Int32) (z_m_cargo : List Int32) (z_m_load : List Int32) (z_m_ships : Int32) (z_m_inn : Int32) (z_m_coughs : Int32) (z_m_day : Int32), k z_m_there z_m_used z_m_hidden z_m_kind z_m_figure z_m_cargo z_m_load z_m_ships z_m_inn z_m_coughs z_m_day = some out → ∀ (H : Heap) (locs : List Loc), St G A s.heap H locs (wT G ad adt adb ade adm adn adk adp adr refusals tcells lcells z_m_there z_m_used z_m_hidden z_m_kind z_m_figure z_m_cargo z_m_load n_there n_used n_hidden n_kind n_figure n_cargo n_load k_there k_used k_hidden k_kind k_figure k_cargo k_load isKept tlen llen z_m_ships z_m_inn z_m_coughs z_m_day n_ships n_inn n_coughs n_day k_ships k_inn k_coughs k_day held perm hist) → ∀ ls : Array Slot, lv_has ls 6 [(0, .ref (ad 0)), (1, .int x1), (2, .int x2), (4, .int x4)] → W p l e (rmOf 6 137) s m args below meth c H locs 0 0 (MQ below (Qof G A (some (.int out.2.2.2.2.2.2.2.2.2.2.2.2)) (wT G ad adt adb ade adm adn adk adp adr out.1 tcells lcells out.2.1 out.2.2.1 out.2.2.2.1 out.2.2.2.2.1 out.2.2.2.2.2.1 out.2.2.2.2.2.2.1 out.2.2.2.2.2.2.2.1 n_there n_used n_hidden n_kind n_figure n_cargo n_load k_there k_used k_hidden k_kind k_figure k_cargo k_load isKept tlen llen out.2.2.2.2.2.2.2.2.1 out.2.2.2.2.2.2.2.2.2.1 out.2.2.2.2.2.2.2.2.2.2.1 out.2.2.2.2.2.2.2.2.2.2.2.1 n_ships n_inn n_coughs n_day k_ships k_inn k_coughs k_day held perm hist)) args s 0 0 A) (F0 m 85 ls [])) → W p l e (rmOf 6 137) s m args below meth c H locs 0 0 (MQ below (Qof G A (some (.int out.2.2.2.2.2.2.2.2.2.2.2.2)) (wT G ad adt adb ade adm adn adk adp adr out.1 tcells lcells out.2.1 out.2.2.1 out.2.2.2.1 out.2.2.2.2.1 out.2.2.2.2.2.1 out.2.2.2.2.2.2.1 out.2.2.2.2.2.2.2.1 n_there n_used n_hidden n_kind n_figure n_cargo n_load k_there k_used k_hidden k_kind k_figure k_cargo k_load isKept tlen llen out.2.2.2.2.2.2.2.2.1 out.2.2.2.2.2.2.2.2.2.1 out.2.2.2.2.2.2.2.2.2.2.1 out.2.2.2.2.2.2.2.2.2.2.2.1 n_ships n_inn n_coughs n_day k_ships k_inn k_coughs k_day held perm hist)) args s 0 0 A) (F0 m 48 ls []) := by
  obtain ⟨hx, hb, hml, hown, hts, hK, hret, hlk⟩ := id C
  intro n
  induction n with
  | zero => intro x5 m_there m_used m_hidden m_kind m_figure m_cargo m_load m_ships m_inn m_coughs m_day hf; cases hf
  | succ n ih =>
    intro x5 m_there m_used m_hidden m_kind m_figure m_cargo m_load m_ships m_inn m_coughs m_day hf H locs hs ls hl hk
    rw [X4_fewest_L48] at hf
    refine lv_iload hx hb (dk hX4_fewest_0 27 rfl) (lv_at hl 4 rfl) ?_
    refine lv_bipush (v := (64 : Int32)) hx hb (dk hX4_fewest_0 28 rfl) (by decide) ?_
    refine lv_icmp_ge (tgt := 85) hx hb (dk hX4_fewest_0 29 rfl) (by decide) (fun hc => ?_) (fun hc => ?_)
    · replace hf := ip hf hc
      exact hk _ _ _ _ _ _ _ _ _ _ _ hf _ _ hs _ (lv_sub hl [0, 1, 2, 3] rfl)
    · replace hf := in_ hf hc
      refine lv_iload hx hb (dk hX4_fewest_0 30 rfl) (lv_at hl 4 rfl) ?_
      obtain ⟨u_5, e_6, hf⟩ := Option.bind_eq_some_iff.mp hf
      refine Ct.S (As := [.int x5]) (rest := []) (st1 := [.int u_5]) (w1 := (wT G ad adt adb ade adm adn adk adp adr refusals tcells lcells m_there m_used m_hidden m_kind m_figure m_cargo m_load n_there n_used n_hidden n_kind n_figure n_cargo n_load k_there k_used k_hidden k_kind k_figure k_cargo k_load isKept tlen llen m_ships m_inn m_coughs m_day n_ships n_inn n_coughs n_day k_ships k_inn k_coughs k_day held perm hist)) C hs (c_J6_bitCount_0f7a4 e_6) tw_445 tw_446 tw_86 tw_447 nq_J6_bitCount_0f7a4 (by decide) rfl hl.1 rfl (Nat.le_of_ble_eq_true rfl) (dk hX4_fewest_0 31 rfl) ⟨Nat.zero_le _, Nat.zero_le _⟩ rfl (fun H locs hs => ?_)
      refine lv_iload hx hb (dk hX4_fewest_0 32 rfl) (lv_at hl 3 rfl) ?_
      refine lv_icmp_ne (tgt := 79) hx hb (dk hX4_fewest_0 33 rfl) (by decide) (fun hc => ?_) (fun hc => ?_)
      · replace hf := in_ hf hc
        refine lv_iinc (v := (x5 + (1 : Int32))) (lv' := [(5, .int (x5 + (1 : Int32))), (0, .ref (ad 0)), (1, .int x1), (2, .int x2), (4, .int x4)]) hx hb (dk hX4_fewest_1 2 rfl) hl (k := 4) rfl (by first | rfl | decide) (by decide) rfl (fun ls hl => ?_)
        refine lv_goto (tgt := 48) hx hb (dk hX4_fewest_1 3 rfl) (by decide) ?_
        exact ih _ _ _ _ _ _ _ _ _ _ _ _ hf _ _ hs _ (lv_sub hl [1, 2, 3, 4, 0] rfl) hk
      · replace hf := ip hf hc
        refine lv_aload_n hx hb (dk hX4_fewest_0 34 rfl) rfl (lv_at hl 0 rfl) ?_
        refine lv_iload hx hb (dk hX4_fewest_0 35 rfl) (lv_at hl 4 rfl) ?_
        refine lv_iload_n hx hb (dk hX4_fewest_0 36 rfl) rfl (lv_at hl 1 rfl) ?_
        refine lv_iload_n hx hb (dk hX4_fewest_0 37 rfl) rfl (lv_at hl 2 rfl) ?_
        obtain ⟨u_7, e_8, hf⟩ := Option.bind_eq_some_iff.mp hf
        refine Ct.V (As := [.int x5, .int x1, .int x2]) (rest := []) (st1 := [.int u_7.2.2.2.2.2.2.2.2.2.2.2]) (w1 := (wT G ad adt adb ade adm adn adk adp adr refusals tcells lcells u_7.1 u_7.2.1 u_7.2.2.1 u_7.2.2.2.1 u_7.2.2.2.2.1 u_7.2.2.2.2.2.1 u_7.2.2.2.2.2.2.1 n_there n_used n_hidden n_kind n_figure n_cargo n_load k_there k_used k_hidden k_kind k_figure k_cargo k_load isKept tlen llen u_7.2.2.2.2.2.2.2.1 u_7.2.2.2.2.2.2.2.2.1 u_7.2.2.2.2.2.2.2.2.2.1 u_7.2.2.2.2.2.2.2.2.2.2.1 n_ships n_inn n_coughs n_day k_ships k_inn k_coughs k_day held perm hist)) C hs (c_X4_isInWithout e_8) tw_512 tw_514 tw_14 tw_79 tw_515 nq_X4_isInWithout (by decide) 0 4 rfl rfl rfl rfl hl.1 rfl (Nat.le_of_ble_eq_true rfl) (dk hX4_fewest_0 38 rfl) ⟨Nat.zero_le _, Nat.zero_le _⟩ rfl (fun H locs hs => ?_)
        refine lv_if_eq (tgt := 79) hx hb (dk hX4_fewest_0 39 rfl) (by decide) (fun hc => ?_) (fun hc => ?_)
        · replace hf := ip hf hc
          refine lv_iinc (v := (x5 + (1 : Int32))) (lv' := [(5, .int (x5 + (1 : Int32))), (0, .ref (ad 0)), (1, .int x1), (2, .int x2), (4, .int x4)]) hx hb (dk hX4_fewest_1 2 rfl) hl (k := 4) rfl (by first | rfl | decide) (by decide) rfl (fun ls hl => ?_)
          refine lv_goto (tgt := 48) hx hb (dk hX4_fewest_1 3 rfl) (by decide) ?_
          exact ih _ _ _ _ _ _ _ _ _ _ _ _ hf _ _ hs _ (lv_sub hl [1, 2, 3, 4, 0] rfl) hk
        · replace hf := in_ hf hc
          refine lv_iload hx hb (dk hX4_fewest_1 0 rfl) (lv_at hl 4 rfl) ?_
          cases hf
          exact ri C hs (dk hX4_fewest_1 1 rfl)
set_option maxRecDepth 100000 in
set_option maxHeartbeats 4000000 in
theorem l_X4_fewest_L38 {l : Launch} {p : Program} {e : Env} {s : State} {m : MethodId} {args : Array Value} {below : List Frame} {meth : Method} {c : Code} {A : Nat → Prop} {G : Gx} {ad adt adb ade adm adn adk adp : Nat → Nat} {adr : Nat → Nat → Nat} {refusals tcells lcells n_there n_used n_hidden n_kind n_figure n_cargo n_load k_there k_used k_hidden k_kind k_figure k_cargo k_load : List Int32} {isKept tlen llen n_ships n_inn n_coughs n_day k_ships k_inn k_coughs k_day held : Int32} {perm : Nat → Nat} {hist : Nat → Hs} {x1 : Int32} {x2 : Int32} {k : List Int32 → List Int32 → List Int32 → List Int32 → List Int32 → List Int32 → List Int32 → Int32 → Int32 → Int32 → Int32 → Option (List Int32 × List Int32 × List Int32 × List Int32 × List Int32 × List Int32 × List Int32 × List Int32 × Int32 × Int32 × Int32 × Int32 × Int32)} {out : List Int32 × List Int32 × List Int32 × List Int32 × List Int32 × List Int32 × List Int32 × List Int32 × Int32 × Int32 × Int32 × Int32 × Int32} (C : Cx p s m args meth c cX4_fewest RX4 6 (some .int) G) : ∀ (n : Nat) (x4 : Int32) (m_there : List Int32) (m_used : List Int32) (m_hidden : List Int32) (m_kind : List Int32) (m_figure : List Int32) (m_cargo : List Int32) (m_load : List Int32) (m_ships : Int32) (m_inn : Int32) (m_coughs : Int32) (m_day : Int32), X4_fewest_L38 k refusals n_there n_used n_hidden n_kind n_figure n_cargo n_load n_ships n_inn n_coughs n_day x1 x2 n x4 m_there m_used m_hidden m_kind m_figure m_cargo m_load m_ships m_inn m_coughs m_day = some out → ∀ (H : Heap) (locs : List Loc), St G A s.heap H locs (wT G ad adt adb ade adm adn adk adp adr refusals tcells lcells m_there m_used m_hidden m_kind m_figure m_cargo m_load n_there n_used n_hidden n_kind n_figure n_cargo n_load k_there k_used k_hidden k_kind k_figure k_cargo k_load isKept tlen llen m_ships m_inn m_coughs m_day n_ships n_inn n_coughs n_day k_ships k_inn k_coughs k_day held perm hist) → ∀ ls : Array Slot, lv_has ls 6 [(0, .ref (ad 0)), (1, .int x1), (2, .int x2), (4, .int x4)] → (∀ (z_m_there : List Int32) (z_m_used : List Int32) (z_m_hidden : List Int32) (z_m_kind : List Int32) (z_m_figure : List Int32) (z_m_cargo : List Int32) (z_m_load : List Int32) (z_m_ships : Int32) (z_m_inn : Int32) (z_m_coughs : Int32) (z_m_day : Int32), k z_m_there z_m_used z_m_hidden z_m_kind z_m_figure z_m_cargo z_m_load z_m_ships z_m_inn z_m_coughs z_m_day = some out → ∀ (H : Heap) (locs : List Loc), St G A s.heap H locs (wT G ad adt adb ade adm adn adk adp adr refusals tcells lcells z_m_there z_m_used z_m_hidden z_m_kind z_m_figure z_m_cargo z_m_load n_there n_used n_hidden n_kind n_figure n_cargo n_load k_there k_used k_hidden k_kind k_figure k_cargo k_load isKept tlen llen z_m_ships z_m_inn z_m_coughs z_m_day n_ships n_inn n_coughs n_day k_ships k_inn k_coughs k_day held perm hist) → ∀ ls : Array Slot, lv_has ls 6 [] → W p l e (rmOf 6 137) s m args below meth c H locs 0 0 (MQ below (Qof G A (some (.int out.2.2.2.2.2.2.2.2.2.2.2.2)) (wT G ad adt adb ade adm adn adk adp adr out.1 tcells lcells out.2.1 out.2.2.1 out.2.2.2.1 out.2.2.2.2.1 out.2.2.2.2.2.1 out.2.2.2.2.2.2.1 out.2.2.2.2.2.2.2.1 n_there n_used n_hidden n_kind n_figure n_cargo n_load k_there k_used k_hidden k_kind k_figure k_cargo k_load isKept tlen llen out.2.2.2.2.2.2.2.2.1 out.2.2.2.2.2.2.2.2.2.1 out.2.2.2.2.2.2.2.2.2.2.1 out.2.2.2.2.2.2.2.2.2.2.2.1 n_ships n_inn n_coughs n_day k_ships k_inn k_coughs k_day held perm hist)) args s 0 0 A) (F0 m 91 ls [])) → W p l e (rmOf 6 137) s m args below meth c H locs 0 0 (MQ below (Qof G A (some (.int out.2.2.2.2.2.2.2.2.2.2.2.2)) (wT G ad adt adb ade adm adn adk adp adr out.1 tcells lcells out.2.1 out.2.2.1 out.2.2.2.1 out.2.2.2.2.1 out.2.2.2.2.2.1 out.2.2.2.2.2.2.1 out.2.2.2.2.2.2.2.1 n_there n_used n_hidden n_kind n_figure n_cargo n_load k_there k_used k_hidden k_kind k_figure k_cargo k_load isKept tlen llen out.2.2.2.2.2.2.2.2.1 out.2.2.2.2.2.2.2.2.2.1 out.2.2.2.2.2.2.2.2.2.2.1 out.2.2.2.2.2.2.2.2.2.2.2.1 n_ships n_inn n_coughs n_day k_ships k_inn k_coughs k_day held perm hist)) args s 0 0 A) (F0 m 38 ls []) := by
  obtain ⟨hx, hb, hml, hown, hts, hK, hret, hlk⟩ := id C
  intro n
  induction n with
  | zero => intro x4 m_there m_used m_hidden m_kind m_figure m_cargo m_load m_ships m_inn m_coughs m_day hf; cases hf
  | succ n ih =>
    intro x4 m_there m_used m_hidden m_kind m_figure m_cargo m_load m_ships m_inn m_coughs m_day hf H locs hs ls hl hk
    rw [X4_fewest_L38] at hf
    refine lv_iload hx hb (dk hX4_fewest_0 22 rfl) (lv_at hl 3 rfl) ?_
    refine lv_bipush (v := (6 : Int32)) hx hb (dk hX4_fewest_0 23 rfl) (by decide) ?_
    refine lv_icmp_gt (tgt := 91) hx hb (dk hX4_fewest_0 24 rfl) (by decide) (fun hc => ?_) (fun hc => ?_)
    · replace hf := ip hf hc
      exact hk _ _ _ _ _ _ _ _ _ _ _ hf _ _ hs _ (lv_sub hl [] rfl)
    · replace hf := in_ hf hc
      refine lv_iconst (v := (0 : Int32)) hx hb (dk hX4_fewest_0 25 rfl) (by decide) ?_
      refine lv_istore (lv' := [(5, .int (0 : Int32)), (0, .ref (ad 0)), (1, .int x1), (2, .int x2), (4, .int x4)]) hx hb (dk hX4_fewest_0 26 rfl) hl (by decide) rfl (fun ls hl => ?_)
      refine l_X4_fewest_L48 C 1000 _ _ _ _ _ _ _ _ _ _ _ _ hf _ _ hs _ (lv_sub hl [1, 2, 3, 4, 0] rfl) (fun m_there_9 m_used_10 m_hidden_11 m_kind_12 m_figure_13 m_cargo_14 m_load_15 m_ships_16 m_inn_17 m_coughs_18 m_day_19 hf H locs hs ls hl => ?_)
      refine lv_iinc (v := (x4 + (1 : Int32))) (lv' := [(4, .int (x4 + (1 : Int32))), (0, .ref (ad 0)), (1, .int x1), (2, .int x2)]) hx hb (dk hX4_fewest_1 4 rfl) hl (k := 3) rfl (by first | rfl | decide) (by decide) rfl (fun ls hl => ?_)
      refine lv_goto (tgt := 38) hx hb (dk hX4_fewest_1 5 rfl) (by decide) ?_
      exact ih _ _ _ _ _ _ _ _ _ _ _ _ hf _ _ hs _ (lv_sub hl [1, 2, 3, 0] rfl) hk
set_option maxRecDepth 100000 in
set_option maxHeartbeats 4000000 in
theorem c_X4_fewest {l : Launch} {G : Gx} {ad adt adb ade adm adn adk adp : Nat → Nat} {adr : Nat → Nat → Nat} {refusals tcells lcells m_there m_used m_hidden m_kind m_figure m_cargo m_load n_there n_used n_hidden n_kind n_figure n_cargo n_load k_there k_used k_hidden k_kind k_figure k_cargo k_load : List Int32} {isKept tlen llen m_ships m_inn m_coughs m_day n_ships n_inn n_coughs n_day k_ships k_inn k_coughs k_day held : Int32} {perm : Nat → Nat} {hist : Nat → Hs} {p0 : Int32} {p1 : Int32} {out : List Int32 × List Int32 × List Int32 × List Int32 × List Int32 × List Int32 × List Int32 × List Int32 × Int32 × Int32 × Int32 × Int32 × Int32} (hf : X4_fewest refusals m_there m_used m_hidden m_kind m_figure m_cargo m_load n_there n_used n_hidden n_kind n_figure n_cargo n_load m_ships m_inn m_coughs m_day n_ships n_inn n_coughs n_day p0 p1 = some out) : Ct l G yX4_fewest cX4_fewest 6 (some .int) 6 137 [.ref (ad 0), .int p0, .int p1] (wT G ad adt adb ade adm adn adk adp adr refusals tcells lcells m_there m_used m_hidden m_kind m_figure m_cargo m_load n_there n_used n_hidden n_kind n_figure n_cargo n_load k_there k_used k_hidden k_kind k_figure k_cargo k_load isKept tlen llen m_ships m_inn m_coughs m_day n_ships n_inn n_coughs n_day k_ships k_inn k_coughs k_day held perm hist) (some (.int out.2.2.2.2.2.2.2.2.2.2.2.2)) (wT G ad adt adb ade adm adn adk adp adr out.1 tcells lcells out.2.1 out.2.2.1 out.2.2.2.1 out.2.2.2.2.1 out.2.2.2.2.2.1 out.2.2.2.2.2.2.1 out.2.2.2.2.2.2.2.1 n_there n_used n_hidden n_kind n_figure n_cargo n_load k_there k_used k_hidden k_kind k_figure k_cargo k_load isKept tlen llen out.2.2.2.2.2.2.2.2.1 out.2.2.2.2.2.2.2.2.2.1 out.2.2.2.2.2.2.2.2.2.2.1 out.2.2.2.2.2.2.2.2.2.2.2.1 n_ships n_inn n_coughs n_day k_ships k_inn k_coughs k_day held perm hist) := by
  refine Ct.intro RX4 rfl (plainFor_of_name (by decide)) (Nat.le_of_ble_eq_true rfl) rfl ?_
  intro p e s m args below meth c A C H locs hs ls hl
  obtain ⟨hx, hb, hml, hown, hts, hK, hret, hlk⟩ := id C
  have hl : lv_has ls 6 [(0, .ref (ad 0)), (1, .int p0), (2, .int p1)] := hl
  unfold X4_fewest at hf
  refine lv_aload_n hx hb (dk hX4_fewest_0 0 rfl) rfl (lv_at hl 0 rfl) ?_
  refine rg ui4 rfl C hs 0 rfl 0 (by decide) tw_197 rfl rfl (dk hX4_fewest_0 1 rfl) ?_
  refine lv_iload_n hx hb (dk hX4_fewest_0 2 rfl) rfl (lv_at hl 1 rfl) ?_
  obtain ⟨u_1, e_2, hf⟩ := Option.bind_eq_some_iff.mp hf
  refine Ct.V (As := [.int p0]) (rest := []) (st1 := [.int u_1]) (w1 := (wT G ad adt adb ade adm adn adk adp adr refusals tcells lcells m_there m_used m_hidden m_kind m_figure m_cargo m_load n_there n_used n_hidden n_kind n_figure n_cargo n_load k_there k_used k_hidden k_kind k_figure k_cargo k_load isKept tlen llen m_ships m_inn m_coughs m_day n_ships n_inn n_coughs n_day k_ships k_inn k_coughs k_day held perm hist)) C hs (c_X0_isShip__now e_2) tw_393 tw_294 tw_295 tw_80 tw_296 nq_X0_isShip (by decide) 15 0 rfl rfl rfl rfl hl.1 rfl (Nat.le_of_ble_eq_true rfl) (dk hX4_fewest_0 3 rfl) ⟨Nat.zero_le _, Nat.zero_le _⟩ rfl (fun H locs hs => ?_)
  refine lv_if_ne (tgt := 17) hx hb (dk hX4_fewest_0 4 rfl) (by decide) (fun hc => ?_) (fun hc => ?_)
  · replace hf := in_ hf hc
    refine lv_iload_n hx hb (dk hX4_fewest_0 9 rfl) rfl (lv_at hl 2 rfl) ?_
    refine lv_iconst (v := (1 : Int32)) hx hb (dk hX4_fewest_0 10 rfl) (by decide) ?_
    refine lv_bipush (v := (60 : Int32)) hx hb (dk hX4_fewest_0 11 rfl) (by decide) ?_
    obtain ⟨u_3, e_4, hf⟩ := Option.bind_eq_some_iff.mp hf
    refine Ct.S (As := [.int p1, .int (1 : Int32), .int (60 : Int32)]) (rest := []) (st1 := [.int u_3]) (w1 := (wT G ad adt adb ade adm adn adk adp adr refusals tcells lcells m_there m_used m_hidden m_kind m_figure m_cargo m_load n_there n_used n_hidden n_kind n_figure n_cargo n_load k_there k_used k_hidden k_kind k_figure k_cargo k_load isKept tlen llen m_ships m_inn m_coughs m_day n_ships n_inn n_coughs n_day k_ships k_inn k_coughs k_day held perm hist)) C hs (c_X4_misfit e_4) tw_405 tw_305 tw_79 tw_306 nq_X4_misfit (by decide) rfl hl.1 rfl (Nat.le_of_ble_eq_true rfl) (dk hX4_fewest_0 12 rfl) ⟨Nat.zero_le _, Nat.zero_le _⟩ rfl (fun H locs hs => ?_)
    refine lv_istore_n (lv' := [(3, .int u_3), (0, .ref (ad 0)), (1, .int p0), (2, .int p1)]) hx hb (dk hX4_fewest_0 13 rfl) rfl hl (by decide) rfl (fun ls hl => ?_)
    refine lv_iload_n hx hb (dk hX4_fewest_0 14 rfl) rfl (lv_at hl 0 rfl) ?_
    refine lv_if_eq (tgt := 35) hx hb (dk hX4_fewest_0 15 rfl) (by decide) (fun hc => ?_) (fun hc => ?_)
    · replace hf := ip hf hc
      refine lv_iconst (v := (0 : Int32)) hx hb (dk hX4_fewest_0 20 rfl) (by decide) ?_
      refine lv_istore (lv' := [(4, .int (0 : Int32)), (3, .int u_3), (0, .ref (ad 0)), (1, .int p0), (2, .int p1)]) hx hb (dk hX4_fewest_0 21 rfl) hl (by decide) rfl (fun ls hl => ?_)
      refine l_X4_fewest_L38 C 1000 _ _ _ _ _ _ _ _ _ _ _ _ hf _ _ hs _ (lv_sub hl [2, 3, 4, 0] rfl) (fun m_there_20 m_used_21 m_hidden_22 m_kind_23 m_figure_24 m_cargo_25 m_load_26 m_ships_27 m_inn_28 m_coughs_29 m_day_30 hf H locs hs ls hl => ?_)
      refine lv_bipush (v := (-9 : Int32)) hx hb (dk hX4_fewest_1 6 rfl) (by decide) ?_
      cases hf
      exact ri C hs (dk hX4_fewest_1 7 rfl)
    · replace hf := in_ hf hc
      refine lv_aload_n hx hb (dk hX4_fewest_0 16 rfl) rfl (lv_at hl 1 rfl) ?_
      refine lv_iload_n hx hb (dk hX4_fewest_0 17 rfl) rfl (lv_at hl 0 rfl) ?_
      obtain ⟨u_31, e_32, hf⟩ := Option.bind_eq_some_iff.mp hf
      refine Ct.V (As := [.int u_3]) (rest := []) (st1 := [.int u_31.2]) (w1 := (wT G ad adt adb ade adm adn adk adp adr u_31.1 tcells lcells m_there m_used m_hidden m_kind m_figure m_cargo m_load n_there n_used n_hidden n_kind n_figure n_cargo n_load k_there k_used k_hidden k_kind k_figure k_cargo k_load isKept tlen llen m_ships m_inn m_coughs m_day n_ships n_inn n_coughs n_day k_ships k_inn k_coughs k_day held perm hist)) C hs (c_X4_refuse e_32) tw_226 tw_228 tw_0 tw_79 tw_229 nq_X4_refuse (by decide) 0 4 rfl rfl rfl rfl hl.1 rfl (Nat.le_of_ble_eq_true rfl) (dk hX4_fewest_0 18 rfl) ⟨Nat.zero_le _, Nat.zero_le _⟩ rfl (fun H locs hs => ?_)
      cases hf
      exact ri C hs (dk hX4_fewest_0 19 rfl)
  · replace hf := ip hf hc
    refine lv_aload_n hx hb (dk hX4_fewest_0 5 rfl) rfl (lv_at hl 0 rfl) ?_
    refine lv_iconst (v := (-1 : Int32)) hx hb (dk hX4_fewest_0 6 rfl) (by decide) ?_
    obtain ⟨u_33, e_34, hf⟩ := Option.bind_eq_some_iff.mp hf
    refine Ct.V (As := [.int (-1 : Int32)]) (rest := []) (st1 := [.int u_33.2]) (w1 := (wT G ad adt adb ade adm adn adk adp adr u_33.1 tcells lcells m_there m_used m_hidden m_kind m_figure m_cargo m_load n_there n_used n_hidden n_kind n_figure n_cargo n_load k_there k_used k_hidden k_kind k_figure k_cargo k_load isKept tlen llen m_ships m_inn m_coughs m_day n_ships n_inn n_coughs n_day k_ships k_inn k_coughs k_day held perm hist)) C hs (c_X4_refuse e_34) tw_226 tw_228 tw_0 tw_79 tw_229 nq_X4_refuse (by decide) 0 4 rfl rfl rfl rfl hl.1 rfl (Nat.le_of_ble_eq_true rfl) (dk hX4_fewest_0 7 rfl) ⟨Nat.zero_le _, Nat.zero_le _⟩ rfl (fun H locs hs => ?_)
    cases hf
    exact ri C hs (dk hX4_fewest_0 8 rfl)

def X4_isInUnlacked (m_there : List Int32) (m_used : List Int32) (m_hidden : List Int32) (m_kind : List Int32) (m_figure : List Int32) (m_cargo : List Int32) (m_load : List Int32) (n_there : List Int32) (n_used : List Int32) (n_hidden : List Int32) (n_kind : List Int32) (n_figure : List Int32) (n_cargo : List Int32) (n_load : List Int32) (m_ships : Int32) (m_inn : Int32) (m_coughs : Int32) (m_day : Int32) (n_ships : Int32) (n_inn : Int32) (n_coughs : Int32) (n_day : Int32) (p0 : Int32) (p1 : Int32) : Option (List Int32 × List Int32 × List Int32 × List Int32 × List Int32 × List Int32 × List Int32 × Int32 × Int32 × Int32 × Int32 × Int32) :=
  (X4_fromNow m_there m_used m_hidden m_kind m_figure m_cargo m_load n_there n_used n_hidden n_kind n_figure n_cargo n_load m_ships m_inn m_coughs m_day n_ships n_inn n_coughs n_day).bind fun u_1 =>
  (wr u_1.2.1 p1 (0 : Int32)).bind fun m_used_3 =>
  (X0_passDay u_1.1 m_used_3 u_1.2.2.1 u_1.2.2.2.1 u_1.2.2.2.2.1 u_1.2.2.2.2.2.1 u_1.2.2.2.2.2.2.1 u_1.2.2.2.2.2.2.2.1 u_1.2.2.2.2.2.2.2.2.1 u_1.2.2.2.2.2.2.2.2.2.1 u_1.2.2.2.2.2.2.2.2.2.2 (0 : Int32)).bind fun u_5 =>
  (X0_isIn u_5.2.1 p0).bind fun u_7 =>
  (c01 u_7).bind fun b_9 =>
  some (u_5.1, m_used_3, u_1.2.2.1, u_1.2.2.2.1, u_1.2.2.2.2.1, u_1.2.2.2.2.2.1, u_1.2.2.2.2.2.2.1, u_1.2.2.2.2.2.2.2.1, u_5.2.1, u_5.2.2.1, u_5.2.2.2, b_9)
set_option maxRecDepth 100000 in
set_option maxHeartbeats 4000000 in
theorem c_X4_isInUnlacked {l : Launch} {G : Gx} {ad adt adb ade adm adn adk adp : Nat → Nat} {adr : Nat → Nat → Nat} {refusals tcells lcells m_there m_used m_hidden m_kind m_figure m_cargo m_load n_there n_used n_hidden n_kind n_figure n_cargo n_load k_there k_used k_hidden k_kind k_figure k_cargo k_load : List Int32} {isKept tlen llen m_ships m_inn m_coughs m_day n_ships n_inn n_coughs n_day k_ships k_inn k_coughs k_day held : Int32} {perm : Nat → Nat} {hist : Nat → Hs} {p0 : Int32} {p1 : Int32} {out : List Int32 × List Int32 × List Int32 × List Int32 × List Int32 × List Int32 × List Int32 × Int32 × Int32 × Int32 × Int32 × Int32} (hf : X4_isInUnlacked m_there m_used m_hidden m_kind m_figure m_cargo m_load n_there n_used n_hidden n_kind n_figure n_cargo n_load m_ships m_inn m_coughs m_day n_ships n_inn n_coughs n_day p0 p1 = some out) : Ct l G yX4_isInUnlacked cX4_isInUnlacked 4 (some .boolean) 4 89 [.ref (ad 0), .int p0, .int p1] (wT G ad adt adb ade adm adn adk adp adr refusals tcells lcells m_there m_used m_hidden m_kind m_figure m_cargo m_load n_there n_used n_hidden n_kind n_figure n_cargo n_load k_there k_used k_hidden k_kind k_figure k_cargo k_load isKept tlen llen m_ships m_inn m_coughs m_day n_ships n_inn n_coughs n_day k_ships k_inn k_coughs k_day held perm hist) (some (.int out.2.2.2.2.2.2.2.2.2.2.2)) (wT G ad adt adb ade adm adn adk adp adr refusals tcells lcells out.1 out.2.1 out.2.2.1 out.2.2.2.1 out.2.2.2.2.1 out.2.2.2.2.2.1 out.2.2.2.2.2.2.1 n_there n_used n_hidden n_kind n_figure n_cargo n_load k_there k_used k_hidden k_kind k_figure k_cargo k_load isKept tlen llen out.2.2.2.2.2.2.2.1 out.2.2.2.2.2.2.2.2.1 out.2.2.2.2.2.2.2.2.2.1 out.2.2.2.2.2.2.2.2.2.2.1 n_ships n_inn n_coughs n_day k_ships k_inn k_coughs k_day held perm hist) := by
  refine Ct.intro RX4 rfl (plainFor_of_name (by decide)) (Nat.le_of_ble_eq_true rfl) rfl ?_
  intro p e s m args below meth c A C H locs hs ls hl
  obtain ⟨hx, hb, hml, hown, hts, hK, hret, hlk⟩ := id C
  have hl : lv_has ls 4 [(0, .ref (ad 0)), (1, .int p0), (2, .int p1)] := hl
  unfold X4_isInUnlacked at hf
  refine lv_aload_n hx hb (dk hX4_isInUnlacked_0 0 rfl) rfl (lv_at hl 0 rfl) ?_
  obtain ⟨u_1, e_2, hf⟩ := Option.bind_eq_some_iff.mp hf
  refine Ct.V (As := []) (rest := []) (st1 := [.ref (adm 0)]) (w1 := (wT G ad adt adb ade adm adn adk adp adr refusals tcells lcells u_1.1 u_1.2.1 u_1.2.2.1 u_1.2.2.2.1 u_1.2.2.2.2.1 u_1.2.2.2.2.2.1 u_1.2.2.2.2.2.2.1 n_there n_used n_hidden n_kind n_figure n_cargo n_load k_there k_used k_hidden k_kind k_figure k_cargo k_load isKept tlen llen u_1.2.2.2.2.2.2.2.1 u_1.2.2.2.2.2.2.2.2.1 u_1.2.2.2.2.2.2.2.2.2.1 u_1.2.2.2.2.2.2.2.2.2.2 n_ships n_inn n_coughs n_day k_ships k_inn k_coughs k_day held perm hist)) C hs (c_X4_fromNow e_2) tw_246 tw_248 tw_1 tw_79 tw_249 nq_X4_fromNow (by decide) 0 4 rfl rfl rfl rfl hl.1 rfl (Nat.le_of_ble_eq_true rfl) (dk hX4_isInUnlacked_0 1 rfl) ⟨Nat.zero_le _, Nat.zero_le _⟩ rfl (fun H locs hs => ?_)
  refine lv_astore_n (lv' := [(3, .ref (adm 0)), (0, .ref (ad 0)), (1, .int p0), (2, .int p1)]) hx hb (dk hX4_isInUnlacked_0 2 rfl) rfl hl (by decide) rfl (fun ls hl => ?_)
  refine lv_aload_n hx hb (dk hX4_isInUnlacked_0 3 rfl) rfl (lv_at hl 0 rfl) ?_
  refine rg ui0 rfl C hs 7 rfl 1 (by decide) tw_105 rfl rfl (dk hX4_isInUnlacked_0 4 rfl) ?_
  refine lv_iload_n hx hb (dk hX4_isInUnlacked_0 5 rfl) rfl (lv_at hl 3 rfl) ?_
  refine lv_iconst (v := (0 : Int32)) hx hb (dk hX4_isInUnlacked_0 6 rfl) (by decide) ?_
  obtain ⟨m_used_3, e_4, hf⟩ := Option.bind_eq_some_iff.mp hf
  refine rist (w1 := (wT G ad adt adb ade adm adn adk adp adr refusals tcells lcells u_1.1 m_used_3 u_1.2.2.1 u_1.2.2.2.1 u_1.2.2.2.2.1 u_1.2.2.2.2.2.1 u_1.2.2.2.2.2.2.1 n_there n_used n_hidden n_kind n_figure n_cargo n_load k_there k_used k_hidden k_kind k_figure k_cargo k_load isKept tlen llen u_1.2.2.2.2.2.2.2.1 u_1.2.2.2.2.2.2.2.2.1 u_1.2.2.2.2.2.2.2.2.2.1 u_1.2.2.2.2.2.2.2.2.2.2 n_ships n_inn n_coughs n_day k_ships k_inn k_coughs k_day held perm hist)) C hs 9 rfl e_4 rfl (dk hX4_isInUnlacked_0 7 rfl) (fun H locs hs => ?_)
  refine lv_aload_n hx hb (dk hX4_isInUnlacked_0 8 rfl) rfl (lv_at hl 0 rfl) ?_
  refine lv_iconst (v := (0 : Int32)) hx hb (dk hX4_isInUnlacked_0 9 rfl) (by decide) ?_
  obtain ⟨u_5, e_6, hf⟩ := Option.bind_eq_some_iff.mp hf
  refine Ct.V (As := [.int (0 : Int32)]) (rest := []) (st1 := []) (w1 := (wT G ad adt adb ade adm adn adk adp adr refusals tcells lcells u_5.1 m_used_3 u_1.2.2.1 u_1.2.2.2.1 u_1.2.2.2.2.1 u_1.2.2.2.2.2.1 u_1.2.2.2.2.2.2.1 n_there n_used n_hidden n_kind n_figure n_cargo n_load k_there k_used k_hidden k_kind k_figure k_cargo k_load isKept tlen llen u_1.2.2.2.2.2.2.2.1 u_5.2.1 u_5.2.2.1 u_5.2.2.2 n_ships n_inn n_coughs n_day k_ships k_inn k_coughs k_day held perm hist)) C hs (c_X0_passDay__mind e_6) tw_479 tw_329 tw_330 tw_80 tw_331 nq_X0_passDay (by decide) 7 0 rfl rfl rfl rfl hl.1 rfl (Nat.le_of_ble_eq_true rfl) (dk hX4_isInUnlacked_0 10 rfl) ⟨Nat.zero_le _, Nat.zero_le _⟩ rfl (fun H locs hs => ?_)
  refine lv_aload_n hx hb (dk hX4_isInUnlacked_0 11 rfl) rfl (lv_at hl 0 rfl) ?_
  refine lv_iload_n hx hb (dk hX4_isInUnlacked_0 12 rfl) rfl (lv_at hl 2 rfl) ?_
  obtain ⟨u_7, e_8, hf⟩ := Option.bind_eq_some_iff.mp hf
  refine Ct.V (As := [.int p0]) (rest := []) (st1 := [.int u_7]) (w1 := (wT G ad adt adb ade adm adn adk adp adr refusals tcells lcells u_5.1 m_used_3 u_1.2.2.1 u_1.2.2.2.1 u_1.2.2.2.2.1 u_1.2.2.2.2.2.1 u_1.2.2.2.2.2.2.1 n_there n_used n_hidden n_kind n_figure n_cargo n_load k_there k_used k_hidden k_kind k_figure k_cargo k_load isKept tlen llen u_1.2.2.2.2.2.2.2.1 u_5.2.1 u_5.2.2.1 u_5.2.2.2 n_ships n_inn n_coughs n_day k_ships k_inn k_coughs k_day held perm hist)) C hs (c_X0_isIn__mind e_8) tw_394 tw_298 tw_299 tw_80 tw_300 nq_X0_isIn (by decide) 7 0 rfl rfl rfl rfl hl.1 rfl (Nat.le_of_ble_eq_true rfl) (dk hX4_isInUnlacked_0 13 rfl) ⟨Nat.zero_le _, Nat.zero_le _⟩ rfl (fun H locs hs => ?_)
  obtain ⟨b_9, hz_10, hf⟩ := Option.bind_eq_some_iff.mp hf
  obtain ⟨hxe, hz⟩ := c01_z hz_10
  replace hxe := hxe.symm
  subst hxe
  cases hf
  exact rz hz C hs (dk hX4_isInUnlacked_0 14 rfl)

def X4_forWhat_L48 (k : Int32 → List Int32 → List Int32 → List Int32 → List Int32 → List Int32 → List Int32 → List Int32 → Int32 → Int32 → Int32 → Int32 → Option (List Int32 × List Int32 × List Int32 × List Int32 × List Int32 × List Int32 × List Int32 × List Int32 × Int32 × Int32 × Int32 × Int32 × Int32)) (n_there : List Int32) (n_used : List Int32) (n_hidden : List Int32) (n_kind : List Int32) (n_figure : List Int32) (n_cargo : List Int32) (n_load : List Int32) (n_ships : Int32) (n_inn : Int32) (n_coughs : Int32) (n_day : Int32) (x1 : Int32) : Nat → Int32 → Int32 → List Int32 → List Int32 → List Int32 → List Int32 → List Int32 → List Int32 → List Int32 → Int32 → Int32 → Int32 → Int32 → Option (List Int32 × List Int32 × List Int32 × List Int32 × List Int32 × List Int32 × List Int32 × List Int32 × Int32 × Int32 × Int32 × Int32 × Int32)
  | 0, _, _, _, _, _, _, _, _, _, _, _, _, _ => none
  | n + 1, x2, x3, m_there, m_used, m_hidden, m_kind, m_figure, m_cargo, m_load, m_ships, m_inn, m_coughs, m_day =>
  if (6 : Int32) ≤ x3 then
  k x2 m_there m_used m_hidden m_kind m_figure m_cargo m_load m_ships m_inn m_coughs m_day
  else
  (X4_isInUnlacked m_there m_used m_hidden m_kind m_figure m_cargo m_load n_there n_used n_hidden n_kind n_figure n_cargo n_load m_ships m_inn m_coughs m_day n_ships n_inn n_coughs n_day x1 x3).bind fun u_7 =>
  if u_7.2.2.2.2.2.2.2.2.2.2.2 = (0 : Int32) then
  X4_forWhat_L48 k n_there n_used n_hidden n_kind n_figure n_cargo n_load n_ships n_inn n_coughs n_day x1 n (x2 ||| ((1 : Int32) <<< (x3 &&& 31))) (x3 + (1 : Int32)) u_7.1 u_7.2.1 u_7.2.2.1 u_7.2.2.2.1 u_7.2.2.2.2.1 u_7.2.2.2.2.2.1 u_7.2.2.2.2.2.2.1 u_7.2.2.2.2.2.2.2.1 u_7.2.2.2.2.2.2.2.2.1 u_7.2.2.2.2.2.2.2.2.2.1 u_7.2.2.2.2.2.2.2.2.2.2.1
  else
  X4_forWhat_L48 k n_there n_used n_hidden n_kind n_figure n_cargo n_load n_ships n_inn n_coughs n_day x1 n x2 (x3 + (1 : Int32)) u_7.1 u_7.2.1 u_7.2.2.1 u_7.2.2.2.1 u_7.2.2.2.2.1 u_7.2.2.2.2.2.1 u_7.2.2.2.2.2.2.1 u_7.2.2.2.2.2.2.2.1 u_7.2.2.2.2.2.2.2.2.1 u_7.2.2.2.2.2.2.2.2.2.1 u_7.2.2.2.2.2.2.2.2.2.2.1
def X4_forWhat (refusals : List Int32) (m_there : List Int32) (m_used : List Int32) (m_hidden : List Int32) (m_kind : List Int32) (m_figure : List Int32) (m_cargo : List Int32) (m_load : List Int32) (n_there : List Int32) (n_used : List Int32) (n_hidden : List Int32) (n_kind : List Int32) (n_figure : List Int32) (n_cargo : List Int32) (n_load : List Int32) (m_ships : Int32) (m_inn : Int32) (m_coughs : Int32) (m_day : Int32) (n_ships : Int32) (n_inn : Int32) (n_coughs : Int32) (n_day : Int32) (p0 : Int32) : Option (List Int32 × List Int32 × List Int32 × List Int32 × List Int32 × List Int32 × List Int32 × List Int32 × Int32 × Int32 × Int32 × Int32 × Int32) :=
  (X0_isShip n_ships p0).bind fun u_1 =>
  if u_1 = (0 : Int32) then
  (X4_refuse refusals (-1 : Int32)).bind fun u_23 =>
  some (u_23.1, m_there, m_used, m_hidden, m_kind, m_figure, m_cargo, m_load, m_ships, m_inn, m_coughs, m_day, u_23.2)
  else
  (X0_isIn n_inn p0).bind fun u_3 =>
  if u_3 = (0 : Int32) then
  (X4_isInNextDay m_there m_used m_hidden m_kind m_figure m_cargo m_load n_there n_used n_hidden n_kind n_figure n_cargo n_load m_ships m_inn m_coughs m_day n_ships n_inn n_coughs n_day p0 (0 : Int32)).bind fun u_5 =>
  if u_5.2.2.2.2.2.2.2.2.2.2.2 = (0 : Int32) then
  some (refusals, u_5.1, u_5.2.1, u_5.2.2.1, u_5.2.2.2.1, u_5.2.2.2.2.1, u_5.2.2.2.2.2.1, u_5.2.2.2.2.2.2.1, u_5.2.2.2.2.2.2.2.1, u_5.2.2.2.2.2.2.2.2.1, u_5.2.2.2.2.2.2.2.2.2.1, u_5.2.2.2.2.2.2.2.2.2.2.1, (0 : Int32))
  else
  X4_forWhat_L48 (fun y2_9 m_there_10 m_used_11 m_hidden_12 m_kind_13 m_figure_14 m_cargo_15 m_load_16 m_ships_17 m_inn_18 m_coughs_19 m_day_20 =>
  some (refusals, m_there_10, m_used_11, m_hidden_12, m_kind_13, m_figure_14, m_cargo_15, m_load_16, m_ships_17, m_inn_18, m_coughs_19, m_day_20, y2_9)) n_there n_used n_hidden n_kind n_figure n_cargo n_load n_ships n_inn n_coughs n_day p0 1000 (0 : Int32) (0 : Int32) u_5.1 u_5.2.1 u_5.2.2.1 u_5.2.2.2.1 u_5.2.2.2.2.1 u_5.2.2.2.2.2.1 u_5.2.2.2.2.2.2.1 u_5.2.2.2.2.2.2.2.1 u_5.2.2.2.2.2.2.2.2.1 u_5.2.2.2.2.2.2.2.2.2.1 u_5.2.2.2.2.2.2.2.2.2.2.1
  else
  (X4_refuse refusals (-3 : Int32)).bind fun u_21 =>
  some (u_21.1, m_there, m_used, m_hidden, m_kind, m_figure, m_cargo, m_load, m_ships, m_inn, m_coughs, m_day, u_21.2)
set_option maxRecDepth 100000 in
set_option maxHeartbeats 4000000 in
theorem l_X4_forWhat_L48 {l : Launch} {p : Program} {e : Env} {s : State} {m : MethodId} {args : Array Value} {below : List Frame} {meth : Method} {c : Code} {A : Nat → Prop} {G : Gx} {ad adt adb ade adm adn adk adp : Nat → Nat} {adr : Nat → Nat → Nat} {refusals tcells lcells n_there n_used n_hidden n_kind n_figure n_cargo n_load k_there k_used k_hidden k_kind k_figure k_cargo k_load : List Int32} {isKept tlen llen n_ships n_inn n_coughs n_day k_ships k_inn k_coughs k_day held : Int32} {perm : Nat → Nat} {hist : Nat → Hs} {x1 : Int32} {k : Int32 → List Int32 → List Int32 → List Int32 → List Int32 → List Int32 → List Int32 → List Int32 → Int32 → Int32 → Int32 → Int32 → Option (List Int32 × List Int32 × List Int32 × List Int32 × List Int32 × List Int32 × List Int32 × List Int32 × Int32 × Int32 × Int32 × Int32 × Int32)} {out : List Int32 × List Int32 × List Int32 × List Int32 × List Int32 × List Int32 × List Int32 × List Int32 × Int32 × Int32 × Int32 × Int32 × Int32} (C : Cx p s m args meth c cX4_forWhat RX4 4 (some .int) G) : ∀ (n : Nat) (x2 : Int32) (x3 : Int32) (m_there : List Int32) (m_used : List Int32) (m_hidden : List Int32) (m_kind : List Int32) (m_figure : List Int32) (m_cargo : List Int32) (m_load : List Int32) (m_ships : Int32) (m_inn : Int32) (m_coughs : Int32) (m_day : Int32), X4_forWhat_L48 k n_there n_used n_hidden n_kind n_figure n_cargo n_load n_ships n_inn n_coughs n_day x1 n x2 x3 m_there m_used m_hidden m_kind m_figure m_cargo m_load m_ships m_inn m_coughs m_day = some out → ∀ (H : Heap) (locs : List Loc), St G A s.heap H locs (wT G ad adt adb ade adm adn adk adp adr refusals tcells lcells m_there m_used m_hidden m_kind m_figure m_cargo m_load n_there n_used n_hidden n_kind n_figure n_cargo n_load k_there k_used k_hidden k_kind k_figure k_cargo k_load isKept tlen llen m_ships m_inn m_coughs m_day n_ships n_inn n_coughs n_day k_ships k_inn k_coughs k_day held perm hist) → ∀ ls : Array Slot, lv_has ls 4 [(0, .ref (ad 0)), (1, .int x1), (2, .int x2), (3, .int x3)] → (∀ (y2 : Int32) (z_m_there : List Int32) (z_m_used : List Int32) (z_m_hidden : List Int32) (z_m_kind : List Int32) (z_m_figure : List Int32) (z_m_cargo : List Int32) (z_m_load : List Int32) (z_m_ships : Int32) (z_m_inn : Int32) (z_m_coughs : Int32) (z_m_day : Int32), k y2 z_m_there z_m_used z_m_hidden z_m_kind z_m_figure z_m_cargo z_m_load z_m_ships z_m_inn z_m_coughs z_m_day = some out → ∀ (H : Heap) (locs : List Loc), St G A s.heap H locs (wT G ad adt adb ade adm adn adk adp adr refusals tcells lcells z_m_there z_m_used z_m_hidden z_m_kind z_m_figure z_m_cargo z_m_load n_there n_used n_hidden n_kind n_figure n_cargo n_load k_there k_used k_hidden k_kind k_figure k_cargo k_load isKept tlen llen z_m_ships z_m_inn z_m_coughs z_m_day n_ships n_inn n_coughs n_day k_ships k_inn k_coughs k_day held perm hist) → ∀ ls : Array Slot, lv_has ls 4 [(2, .int y2)] → W p l e (rmOf 5 112) s m args below meth c H locs 0 0 (MQ below (Qof G A (some (.int out.2.2.2.2.2.2.2.2.2.2.2.2)) (wT G ad adt adb ade adm adn adk adp adr out.1 tcells lcells out.2.1 out.2.2.1 out.2.2.2.1 out.2.2.2.2.1 out.2.2.2.2.2.1 out.2.2.2.2.2.2.1 out.2.2.2.2.2.2.2.1 n_there n_used n_hidden n_kind n_figure n_cargo n_load k_there k_used k_hidden k_kind k_figure k_cargo k_load isKept tlen llen out.2.2.2.2.2.2.2.2.1 out.2.2.2.2.2.2.2.2.2.1 out.2.2.2.2.2.2.2.2.2.2.1 out.2.2.2.2.2.2.2.2.2.2.2.1 n_ships n_inn n_coughs n_day k_ships k_inn k_coughs k_day held perm hist)) args s 0 0 A) (F0 m 75 ls [])) → W p l e (rmOf 5 112) s m args below meth c H locs 0 0 (MQ below (Qof G A (some (.int out.2.2.2.2.2.2.2.2.2.2.2.2)) (wT G ad adt adb ade adm adn adk adp adr out.1 tcells lcells out.2.1 out.2.2.1 out.2.2.2.1 out.2.2.2.2.1 out.2.2.2.2.2.1 out.2.2.2.2.2.2.1 out.2.2.2.2.2.2.2.1 n_there n_used n_hidden n_kind n_figure n_cargo n_load k_there k_used k_hidden k_kind k_figure k_cargo k_load isKept tlen llen out.2.2.2.2.2.2.2.2.1 out.2.2.2.2.2.2.2.2.2.1 out.2.2.2.2.2.2.2.2.2.2.1 out.2.2.2.2.2.2.2.2.2.2.2.1 n_ships n_inn n_coughs n_day k_ships k_inn k_coughs k_day held perm hist)) args s 0 0 A) (F0 m 48 ls []) := by
  obtain ⟨hx, hb, hml, hown, hts, hK, hret, hlk⟩ := id C
  intro n
  induction n with
  | zero => intro x2 x3 m_there m_used m_hidden m_kind m_figure m_cargo m_load m_ships m_inn m_coughs m_day hf; cases hf
  | succ n ih =>
    intro x2 x3 m_there m_used m_hidden m_kind m_figure m_cargo m_load m_ships m_inn m_coughs m_day hf H locs hs ls hl hk
    rw [X4_forWhat_L48] at hf
    refine lv_iload_n hx hb (dk hX4_forWhat_0 27 rfl) rfl (lv_at hl 3 rfl) ?_
    refine lv_bipush (v := (6 : Int32)) hx hb (dk hX4_forWhat_0 28 rfl) (by decide) ?_
    refine lv_icmp_ge (tgt := 75) hx hb (dk hX4_forWhat_0 29 rfl) (by decide) (fun hc => ?_) (fun hc => ?_)
    · replace hf := ip hf hc
      exact hk _ _ _ _ _ _ _ _ _ _ _ _ hf _ _ hs _ (lv_sub hl [2] rfl)
    · replace hf := in_ hf hc
      refine lv_aload_n hx hb (dk hX4_forWhat_0 30 rfl) rfl (lv_at hl 0 rfl) ?_
      refine lv_iload_n hx hb (dk hX4_forWhat_0 31 rfl) rfl (lv_at hl 1 rfl) ?_
      refine lv_iload_n hx hb (dk hX4_forWhat_0 32 rfl) rfl (lv_at hl 3 rfl) ?_
      obtain ⟨u_7, e_8, hf⟩ := Option.bind_eq_some_iff.mp hf
      refine Ct.V (As := [.int x1, .int x3]) (rest := []) (st1 := [.int u_7.2.2.2.2.2.2.2.2.2.2.2]) (w1 := (wT G ad adt adb ade adm adn adk adp adr refusals tcells lcells u_7.1 u_7.2.1 u_7.2.2.1 u_7.2.2.2.1 u_7.2.2.2.2.1 u_7.2.2.2.2.2.1 u_7.2.2.2.2.2.2.1 n_there n_used n_hidden n_kind n_figure n_cargo n_load k_there k_used k_hidden k_kind k_figure k_cargo k_load isKept tlen llen u_7.2.2.2.2.2.2.2.1 u_7.2.2.2.2.2.2.2.2.1 u_7.2.2.2.2.2.2.2.2.2.1 u_7.2.2.2.2.2.2.2.2.2.2.1 n_ships n_inn n_coughs n_day k_ships k_inn k_coughs k_day held perm hist)) C hs (c_X4_isInUnlacked e_8) tw_520 tw_522 tw_15 tw_79 tw_523 nq_X4_isInUnlacked (by decide) 0 4 rfl rfl rfl rfl hl.1 rfl (Nat.le_of_ble_eq_true rfl) (dk hX4_forWhat_0 33 rfl) ⟨Nat.zero_le _, Nat.zero_le _⟩ rfl (fun H locs hs => ?_)
      refine lv_if_ne (tgt := 69) hx hb (dk hX4_forWhat_0 34 rfl) (by decide) (fun hc => ?_) (fun hc => ?_)
      · replace hf := in_ hf hc
        refine lv_iinc (v := (x3 + (1 : Int32))) (lv' := [(3, .int (x3 + (1 : Int32))), (0, .ref (ad 0)), (1, .int x1), (2, .int x2)]) hx hb (dk hX4_forWhat_1 1 rfl) hl (k := 3) rfl (by first | rfl | decide) (by decide) rfl (fun ls hl => ?_)
        refine lv_goto (tgt := 48) hx hb (dk hX4_forWhat_1 2 rfl) (by decide) ?_
        exact ih _ _ _ _ _ _ _ _ _ _ _ _ _ hf _ _ hs _ (lv_sub hl [1, 2, 3, 0] rfl) hk
      · replace hf := ip hf hc
        refine lv_iload_n hx hb (dk hX4_forWhat_0 35 rfl) rfl (lv_at hl 2 rfl) ?_
        refine lv_iconst (v := (1 : Int32)) hx hb (dk hX4_forWhat_0 36 rfl) (by decide) ?_
        refine lv_iload_n hx hb (dk hX4_forWhat_0 37 rfl) rfl (lv_at hl 3 rfl) ?_
        refine lv_ishl hx hb (dk hX4_forWhat_0 38 rfl) ?_
        refine lv_ior hx hb (dk hX4_forWhat_0 39 rfl) ?_
        refine lv_istore_n (lv' := [(2, .int (x2 ||| ((1 : Int32) <<< (x3 &&& 31)))), (0, .ref (ad 0)), (1, .int x1), (3, .int x3)]) hx hb (dk hX4_forWhat_1 0 rfl) rfl hl (by decide) rfl (fun ls hl => ?_)
        refine lv_iinc (v := (x3 + (1 : Int32))) (lv' := [(3, .int (x3 + (1 : Int32))), (2, .int (x2 ||| ((1 : Int32) <<< (x3 &&& 31)))), (0, .ref (ad 0)), (1, .int x1)]) hx hb (dk hX4_forWhat_1 1 rfl) hl (k := 3) rfl (by first | rfl | decide) (by decide) rfl (fun ls hl => ?_)
        refine lv_goto (tgt := 48) hx hb (dk hX4_forWhat_1 2 rfl) (by decide) ?_
        exact ih _ _ _ _ _ _ _ _ _ _ _ _ _ hf _ _ hs _ (lv_sub hl [2, 3, 1, 0] rfl) hk
set_option maxRecDepth 100000 in
set_option maxHeartbeats 4000000 in
theorem c_X4_forWhat {l : Launch} {G : Gx} {ad adt adb ade adm adn adk adp : Nat → Nat} {adr : Nat → Nat → Nat} {refusals tcells lcells m_there m_used m_hidden m_kind m_figure m_cargo m_load n_there n_used n_hidden n_kind n_figure n_cargo n_load k_there k_used k_hidden k_kind k_figure k_cargo k_load : List Int32} {isKept tlen llen m_ships m_inn m_coughs m_day n_ships n_inn n_coughs n_day k_ships k_inn k_coughs k_day held : Int32} {perm : Nat → Nat} {hist : Nat → Hs} {p0 : Int32} {out : List Int32 × List Int32 × List Int32 × List Int32 × List Int32 × List Int32 × List Int32 × List Int32 × Int32 × Int32 × Int32 × Int32 × Int32} (hf : X4_forWhat refusals m_there m_used m_hidden m_kind m_figure m_cargo m_load n_there n_used n_hidden n_kind n_figure n_cargo n_load m_ships m_inn m_coughs m_day n_ships n_inn n_coughs n_day p0 = some out) : Ct l G yX4_forWhat cX4_forWhat 4 (some .int) 5 112 [.ref (ad 0), .int p0] (wT G ad adt adb ade adm adn adk adp adr refusals tcells lcells m_there m_used m_hidden m_kind m_figure m_cargo m_load n_there n_used n_hidden n_kind n_figure n_cargo n_load k_there k_used k_hidden k_kind k_figure k_cargo k_load isKept tlen llen m_ships m_inn m_coughs m_day n_ships n_inn n_coughs n_day k_ships k_inn k_coughs k_day held perm hist) (some (.int out.2.2.2.2.2.2.2.2.2.2.2.2)) (wT G ad adt adb ade adm adn adk adp adr out.1 tcells lcells out.2.1 out.2.2.1 out.2.2.2.1 out.2.2.2.2.1 out.2.2.2.2.2.1 out.2.2.2.2.2.2.1 out.2.2.2.2.2.2.2.1 n_there n_used n_hidden n_kind n_figure n_cargo n_load k_there k_used k_hidden k_kind k_figure k_cargo k_load isKept tlen llen out.2.2.2.2.2.2.2.2.1 out.2.2.2.2.2.2.2.2.2.1 out.2.2.2.2.2.2.2.2.2.2.1 out.2.2.2.2.2.2.2.2.2.2.2.1 n_ships n_inn n_coughs n_day k_ships k_inn k_coughs k_day held perm hist) := by
  refine Ct.intro RX4 rfl (plainFor_of_name (by decide)) (Nat.le_of_ble_eq_true rfl) rfl ?_
  intro p e s m args below meth c A C H locs hs ls hl
  obtain ⟨hx, hb, hml, hown, hts, hK, hret, hlk⟩ := id C
  have hl : lv_has ls 4 [(0, .ref (ad 0)), (1, .int p0)] := hl
  unfold X4_forWhat at hf
  refine lv_aload_n hx hb (dk hX4_forWhat_0 0 rfl) rfl (lv_at hl 0 rfl) ?_
  refine rg ui4 rfl C hs 0 rfl 0 (by decide) tw_197 rfl rfl (dk hX4_forWhat_0 1 rfl) ?_
  refine lv_iload_n hx hb (dk hX4_forWhat_0 2 rfl) rfl (lv_at hl 1 rfl) ?_
  obtain ⟨u_1, e_2, hf⟩ := Option.bind_eq_some_iff.mp hf
  refine Ct.V (As := [.int p0]) (rest := []) (st1 := [.int u_1]) (w1 := (wT G ad adt adb ade adm adn adk adp adr refusals tcells lcells m_there m_used m_hidden m_kind m_figure m_cargo m_load n_there n_used n_hidden n_kind n_figure n_cargo n_load k_there k_used k_hidden k_kind k_figure k_cargo k_load isKept tlen llen m_ships m_inn m_coughs m_day n_ships n_inn n_coughs n_day k_ships k_inn k_coughs k_day held perm hist)) C hs (c_X0_isShip__now e_2) tw_393 tw_294 tw_295 tw_80 tw_296 nq_X0_isShip (by decide) 15 0 rfl rfl rfl rfl hl.1 rfl (Nat.le_of_ble_eq_true rfl) (dk hX4_forWhat_0 3 rfl) ⟨Nat.zero_le _, Nat.zero_le _⟩ rfl (fun H locs hs => ?_)
  refine lv_if_ne (tgt := 17) hx hb (dk hX4_forWhat_0 4 rfl) (by decide) (fun hc => ?_) (fun hc => ?_)
  · replace hf := in_ hf hc
    refine lv_aload_n hx hb (dk hX4_forWhat_0 9 rfl) rfl (lv_at hl 0 rfl) ?_
    refine rg ui4 rfl C hs 0 rfl 0 (by decide) tw_197 rfl rfl (dk hX4_forWhat_0 10 rfl) ?_
    refine lv_iload_n hx hb (dk hX4_forWhat_0 11 rfl) rfl (lv_at hl 1 rfl) ?_
    obtain ⟨u_3, e_4, hf⟩ := Option.bind_eq_some_iff.mp hf
    refine Ct.V (As := [.int p0]) (rest := []) (st1 := [.int u_3]) (w1 := (wT G ad adt adb ade adm adn adk adp adr refusals tcells lcells m_there m_used m_hidden m_kind m_figure m_cargo m_load n_there n_used n_hidden n_kind n_figure n_cargo n_load k_there k_used k_hidden k_kind k_figure k_cargo k_load isKept tlen llen m_ships m_inn m_coughs m_day n_ships n_inn n_coughs n_day k_ships k_inn k_coughs k_day held perm hist)) C hs (c_X0_isIn__now e_4) tw_394 tw_298 tw_299 tw_80 tw_300 nq_X0_isIn (by decide) 15 0 rfl rfl rfl rfl hl.1 rfl (Nat.le_of_ble_eq_true rfl) (dk hX4_forWhat_0 12 rfl) ⟨Nat.zero_le _, Nat.zero_le _⟩ rfl (fun H locs hs => ?_)
    refine lv_if_eq (tgt := 35) hx hb (dk hX4_forWhat_0 13 rfl) (by decide) (fun hc => ?_) (fun hc => ?_)
    · replace hf := ip hf hc
      refine lv_iconst (v := (0 : Int32)) hx hb (dk hX4_forWhat_0 18 rfl) (by decide) ?_
      refine lv_istore_n (lv' := [(2, .int (0 : Int32)), (0, .ref (ad 0)), (1, .int p0)]) hx hb (dk hX4_forWhat_0 19 rfl) rfl hl (by decide) rfl (fun ls hl => ?_)
      refine lv_aload_n hx hb (dk hX4_forWhat_0 20 rfl) rfl (lv_at hl 1 rfl) ?_
      refine lv_iload_n hx hb (dk hX4_forWhat_0 21 rfl) rfl (lv_at hl 2 rfl) ?_
      refine lv_iconst (v := (0 : Int32)) hx hb (dk hX4_forWhat_0 22 rfl) (by decide) ?_
      obtain ⟨u_5, e_6, hf⟩ := Option.bind_eq_some_iff.mp hf
      refine Ct.V (As := [.int p0, .int (0 : Int32)]) (rest := []) (st1 := [.int u_5.2.2.2.2.2.2.2.2.2.2.2]) (w1 := (wT G ad adt adb ade adm adn adk adp adr refusals tcells lcells u_5.1 u_5.2.1 u_5.2.2.1 u_5.2.2.2.1 u_5.2.2.2.2.1 u_5.2.2.2.2.2.1 u_5.2.2.2.2.2.2.1 n_there n_used n_hidden n_kind n_figure n_cargo n_load k_there k_used k_hidden k_kind k_figure k_cargo k_load isKept tlen llen u_5.2.2.2.2.2.2.2.1 u_5.2.2.2.2.2.2.2.2.1 u_5.2.2.2.2.2.2.2.2.2.1 u_5.2.2.2.2.2.2.2.2.2.2.1 n_ships n_inn n_coughs n_day k_ships k_inn k_coughs k_day held perm hist)) C hs (c_X4_isInNextDay e_6) tw_492 tw_494 tw_13 tw_79 tw_495 nq_X4_isInNextDay (by decide) 0 4 rfl rfl rfl rfl hl.1 rfl (Nat.le_of_ble_eq_true rfl) (dk hX4_forWhat_0 23 rfl) ⟨Nat.zero_le _, Nat.zero_le _⟩ rfl (fun H locs hs => ?_)
      refine lv_if_eq (tgt := 75) hx hb (dk hX4_forWhat_0 24 rfl) (by decide) (fun hc => ?_) (fun hc => ?_)
      · replace hf := ip hf hc
        refine lv_iload_n hx hb (dk hX4_forWhat_1 3 rfl) rfl (lv_at hl 0 rfl) ?_
        cases hf
        exact ri C hs (dk hX4_forWhat_1 4 rfl)
      · replace hf := in_ hf hc
        refine lv_iconst (v := (0 : Int32)) hx hb (dk hX4_forWhat_0 25 rfl) (by decide) ?_
        refine lv_istore_n (lv' := [(3, .int (0 : Int32)), (2, .int (0 : Int32)), (0, .ref (ad 0)), (1, .int p0)]) hx hb (dk hX4_forWhat_0 26 rfl) rfl hl (by decide) rfl (fun ls hl => ?_)
        refine l_X4_forWhat_L48 C 1000 _ _ _ _ _ _ _ _ _ _ _ _ _ hf _ _ hs _ (lv_sub hl [2, 3, 1, 0] rfl) (fun y2_9 m_there_10 m_used_11 m_hidden_12 m_kind_13 m_figure_14 m_cargo_15 m_load_16 m_ships_17 m_inn_18 m_coughs_19 m_day_20 hf H locs hs ls hl => ?_)
        refine lv_iload_n hx hb (dk hX4_forWhat_1 3 rfl) rfl (lv_at hl 0 rfl) ?_
        cases hf
        exact ri C hs (dk hX4_forWhat_1 4 rfl)
    · replace hf := in_ hf hc
      refine lv_aload_n hx hb (dk hX4_forWhat_0 14 rfl) rfl (lv_at hl 0 rfl) ?_
      refine lv_bipush (v := (-3 : Int32)) hx hb (dk hX4_forWhat_0 15 rfl) (by decide) ?_
      obtain ⟨u_21, e_22, hf⟩ := Option.bind_eq_some_iff.mp hf
      refine Ct.V (As := [.int (-3 : Int32)]) (rest := []) (st1 := [.int u_21.2]) (w1 := (wT G ad adt adb ade adm adn adk adp adr u_21.1 tcells lcells m_there m_used m_hidden m_kind m_figure m_cargo m_load n_there n_used n_hidden n_kind n_figure n_cargo n_load k_there k_used k_hidden k_kind k_figure k_cargo k_load isKept tlen llen m_ships m_inn m_coughs m_day n_ships n_inn n_coughs n_day k_ships k_inn k_coughs k_day held perm hist)) C hs (c_X4_refuse e_22) tw_226 tw_228 tw_0 tw_79 tw_229 nq_X4_refuse (by decide) 0 4 rfl rfl rfl rfl hl.1 rfl (Nat.le_of_ble_eq_true rfl) (dk hX4_forWhat_0 16 rfl) ⟨Nat.zero_le _, Nat.zero_le _⟩ rfl (fun H locs hs => ?_)
      cases hf
      exact ri C hs (dk hX4_forWhat_0 17 rfl)
  · replace hf := ip hf hc
    refine lv_aload_n hx hb (dk hX4_forWhat_0 5 rfl) rfl (lv_at hl 0 rfl) ?_
    refine lv_iconst (v := (-1 : Int32)) hx hb (dk hX4_forWhat_0 6 rfl) (by decide) ?_
    obtain ⟨u_23, e_24, hf⟩ := Option.bind_eq_some_iff.mp hf
    refine Ct.V (As := [.int (-1 : Int32)]) (rest := []) (st1 := [.int u_23.2]) (w1 := (wT G ad adt adb ade adm adn adk adp adr u_23.1 tcells lcells m_there m_used m_hidden m_kind m_figure m_cargo m_load n_there n_used n_hidden n_kind n_figure n_cargo n_load k_there k_used k_hidden k_kind k_figure k_cargo k_load isKept tlen llen m_ships m_inn m_coughs m_day n_ships n_inn n_coughs n_day k_ships k_inn k_coughs k_day held perm hist)) C hs (c_X4_refuse e_24) tw_226 tw_228 tw_0 tw_79 tw_229 nq_X4_refuse (by decide) 0 4 rfl rfl rfl rfl hl.1 rfl (Nat.le_of_ble_eq_true rfl) (dk hX4_forWhat_0 7 rfl) ⟨Nat.zero_le _, Nat.zero_le _⟩ rfl (fun H locs hs => ?_)
    cases hf
    exact ri C hs (dk hX4_forWhat_0 8 rfl)

def X4_want (refusals : List Int32) (m_there : List Int32) (m_used : List Int32) (m_hidden : List Int32) (m_kind : List Int32) (m_figure : List Int32) (m_cargo : List Int32) (m_load : List Int32) (n_there : List Int32) (n_used : List Int32) (n_hidden : List Int32) (n_kind : List Int32) (n_figure : List Int32) (n_cargo : List Int32) (n_load : List Int32) (m_ships : Int32) (m_inn : Int32) (m_coughs : Int32) (m_day : Int32) (n_ships : Int32) (n_inn : Int32) (n_coughs : Int32) (n_day : Int32) (p0 : Int32) : Option (List Int32 × List Int32 × List Int32 × List Int32 × List Int32 × List Int32 × List Int32 × List Int32 × Int32 × Int32 × Int32 × Int32 × Int32) :=
  (X4_misfit p0 (0 : Int32) (60 : Int32)).bind fun u_1 =>
  if u_1 = (0 : Int32) then
  (X4_fromNow m_there m_used m_hidden m_kind m_figure m_cargo m_load n_there n_used n_hidden n_kind n_figure n_cargo n_load m_ships m_inn m_coughs m_day n_ships n_inn n_coughs n_day).bind fun u_3 =>
  (X0_wantWithin u_3.1 u_3.2.1 u_3.2.2.1 u_3.2.2.2.1 u_3.2.2.2.2.1 u_3.2.2.2.2.2.1 u_3.2.2.2.2.2.2.1 u_3.2.2.2.2.2.2.2.1 u_3.2.2.2.2.2.2.2.2.1 u_3.2.2.2.2.2.2.2.2.2.1 u_3.2.2.2.2.2.2.2.2.2.2 p0 (0 : Int32)).bind fun u_5 =>
  some (refusals, u_5.1, u_3.2.1, u_3.2.2.1, u_3.2.2.2.1, u_3.2.2.2.2.1, u_3.2.2.2.2.2.1, u_3.2.2.2.2.2.2.1, u_3.2.2.2.2.2.2.2.1, u_5.2.1, u_5.2.2.1, u_5.2.2.2.1, u_5.2.2.2.2)
  else
  (X4_refuse refusals u_1).bind fun u_7 =>
  some (u_7.1, m_there, m_used, m_hidden, m_kind, m_figure, m_cargo, m_load, m_ships, m_inn, m_coughs, m_day, u_7.2)
set_option maxRecDepth 100000 in
set_option maxHeartbeats 4000000 in
theorem c_X4_want {l : Launch} {G : Gx} {ad adt adb ade adm adn adk adp : Nat → Nat} {adr : Nat → Nat → Nat} {refusals tcells lcells m_there m_used m_hidden m_kind m_figure m_cargo m_load n_there n_used n_hidden n_kind n_figure n_cargo n_load k_there k_used k_hidden k_kind k_figure k_cargo k_load : List Int32} {isKept tlen llen m_ships m_inn m_coughs m_day n_ships n_inn n_coughs n_day k_ships k_inn k_coughs k_day held : Int32} {perm : Nat → Nat} {hist : Nat → Hs} {p0 : Int32} {out : List Int32 × List Int32 × List Int32 × List Int32 × List Int32 × List Int32 × List Int32 × List Int32 × Int32 × Int32 × Int32 × Int32 × Int32} (hf : X4_want refusals m_there m_used m_hidden m_kind m_figure m_cargo m_load n_there n_used n_hidden n_kind n_figure n_cargo n_load m_ships m_inn m_coughs m_day n_ships n_inn n_coughs n_day p0 = some out) : Ct l G yX4_want cX4_want 3 (some .int) 5 113 [.ref (ad 0), .int p0] (wT G ad adt adb ade adm adn adk adp adr refusals tcells lcells m_there m_used m_hidden m_kind m_figure m_cargo m_load n_there n_used n_hidden n_kind n_figure n_cargo n_load k_there k_used k_hidden k_kind k_figure k_cargo k_load isKept tlen llen m_ships m_inn m_coughs m_day n_ships n_inn n_coughs n_day k_ships k_inn k_coughs k_day held perm hist) (some (.int out.2.2.2.2.2.2.2.2.2.2.2.2)) (wT G ad adt adb ade adm adn adk adp adr out.1 tcells lcells out.2.1 out.2.2.1 out.2.2.2.1 out.2.2.2.2.1 out.2.2.2.2.2.1 out.2.2.2.2.2.2.1 out.2.2.2.2.2.2.2.1 n_there n_used n_hidden n_kind n_figure n_cargo n_load k_there k_used k_hidden k_kind k_figure k_cargo k_load isKept tlen llen out.2.2.2.2.2.2.2.2.1 out.2.2.2.2.2.2.2.2.2.1 out.2.2.2.2.2.2.2.2.2.2.1 out.2.2.2.2.2.2.2.2.2.2.2.1 n_ships n_inn n_coughs n_day k_ships k_inn k_coughs k_day held perm hist) := by
  refine Ct.intro RX4 rfl (plainFor_of_name (by decide)) (Nat.le_of_ble_eq_true rfl) rfl ?_
  intro p e s m args below meth c A C H locs hs ls hl
  obtain ⟨hx, hb, hml, hown, hts, hK, hret, hlk⟩ := id C
  have hl : lv_has ls 3 [(0, .ref (ad 0)), (1, .int p0)] := hl
  unfold X4_want at hf
  refine lv_iload_n hx hb (dk hX4_want_0 0 rfl) rfl (lv_at hl 1 rfl) ?_
  refine lv_iconst (v := (0 : Int32)) hx hb (dk hX4_want_0 1 rfl) (by decide) ?_
  refine lv_bipush (v := (60 : Int32)) hx hb (dk hX4_want_0 2 rfl) (by decide) ?_
  obtain ⟨u_1, e_2, hf⟩ := Option.bind_eq_some_iff.mp hf
  refine Ct.S (As := [.int p0, .int (0 : Int32), .int (60 : Int32)]) (rest := []) (st1 := [.int u_1]) (w1 := (wT G ad adt adb ade adm adn adk adp adr refusals tcells lcells m_there m_used m_hidden m_kind m_figure m_cargo m_load n_there n_used n_hidden n_kind n_figure n_cargo n_load k_there k_used k_hidden k_kind k_figure k_cargo k_load isKept tlen llen m_ships m_inn m_coughs m_day n_ships n_inn n_coughs n_day k_ships k_inn k_coughs k_day held perm hist)) C hs (c_X4_misfit e_2) tw_405 tw_305 tw_79 tw_306 nq_X4_misfit (by decide) rfl hl.1 rfl (Nat.le_of_ble_eq_true rfl) (dk hX4_want_0 3 rfl) ⟨Nat.zero_le _, Nat.zero_le _⟩ rfl (fun H locs hs => ?_)
  refine lv_istore_n (lv' := [(2, .int u_1), (0, .ref (ad 0)), (1, .int p0)]) hx hb (dk hX4_want_0 4 rfl) rfl hl (by decide) rfl (fun ls hl => ?_)
  refine lv_iload_n hx hb (dk hX4_want_0 5 rfl) rfl (lv_at hl 0 rfl) ?_
  refine lv_if_eq (tgt := 20) hx hb (dk hX4_want_0 6 rfl) (by decide) (fun hc => ?_) (fun hc => ?_)
  · replace hf := ip hf hc
    refine lv_aload_n hx hb (dk hX4_want_0 11 rfl) rfl (lv_at hl 1 rfl) ?_
    obtain ⟨u_3, e_4, hf⟩ := Option.bind_eq_some_iff.mp hf
    refine Ct.V (As := []) (rest := []) (st1 := [.ref (adm 0)]) (w1 := (wT G ad adt adb ade adm adn adk adp adr refusals tcells lcells u_3.1 u_3.2.1 u_3.2.2.1 u_3.2.2.2.1 u_3.2.2.2.2.1 u_3.2.2.2.2.2.1 u_3.2.2.2.2.2.2.1 n_there n_used n_hidden n_kind n_figure n_cargo n_load k_there k_used k_hidden k_kind k_figure k_cargo k_load isKept tlen llen u_3.2.2.2.2.2.2.2.1 u_3.2.2.2.2.2.2.2.2.1 u_3.2.2.2.2.2.2.2.2.2.1 u_3.2.2.2.2.2.2.2.2.2.2 n_ships n_inn n_coughs n_day k_ships k_inn k_coughs k_day held perm hist)) C hs (c_X4_fromNow e_4) tw_246 tw_248 tw_1 tw_79 tw_249 nq_X4_fromNow (by decide) 0 4 rfl rfl rfl rfl hl.1 rfl (Nat.le_of_ble_eq_true rfl) (dk hX4_want_0 12 rfl) ⟨Nat.zero_le _, Nat.zero_le _⟩ rfl (fun H locs hs => ?_)
    refine lv_iload_n hx hb (dk hX4_want_0 13 rfl) rfl (lv_at hl 2 rfl) ?_
    refine lv_iconst (v := (0 : Int32)) hx hb (dk hX4_want_0 14 rfl) (by decide) ?_
    obtain ⟨u_5, e_6, hf⟩ := Option.bind_eq_some_iff.mp hf
    refine Ct.V (As := [.int p0, .int (0 : Int32)]) (rest := []) (st1 := [.int u_5.2.2.2.2]) (w1 := (wT G ad adt adb ade adm adn adk adp adr refusals tcells lcells u_5.1 u_3.2.1 u_3.2.2.1 u_3.2.2.2.1 u_3.2.2.2.2.1 u_3.2.2.2.2.2.1 u_3.2.2.2.2.2.2.1 n_there n_used n_hidden n_kind n_figure n_cargo n_load k_there k_used k_hidden k_kind k_figure k_cargo k_load isKept tlen llen u_3.2.2.2.2.2.2.2.1 u_5.2.1 u_5.2.2.1 u_5.2.2.2.1 n_ships n_inn n_coughs n_day k_ships k_inn k_coughs k_day held perm hist)) C hs (c_X0_wantWithin__mind e_6) tw_528 tw_529 tw_530 tw_80 tw_531 nq_X0_wantWithin (by decide) 7 0 rfl rfl rfl rfl hl.1 rfl (Nat.le_of_ble_eq_true rfl) (dk hX4_want_0 15 rfl) ⟨Nat.zero_le _, Nat.zero_le _⟩ rfl (fun H locs hs => ?_)
    cases hf
    exact ri C hs (dk hX4_want_0 16 rfl)
  · replace hf := in_ hf hc
    refine lv_aload_n hx hb (dk hX4_want_0 7 rfl) rfl (lv_at hl 1 rfl) ?_
    refine lv_iload_n hx hb (dk hX4_want_0 8 rfl) rfl (lv_at hl 0 rfl) ?_
    obtain ⟨u_7, e_8, hf⟩ := Option.bind_eq_some_iff.mp hf
    refine Ct.V (As := [.int u_1]) (rest := []) (st1 := [.int u_7.2]) (w1 := (wT G ad adt adb ade adm adn adk adp adr u_7.1 tcells lcells m_there m_used m_hidden m_kind m_figure m_cargo m_load n_there n_used n_hidden n_kind n_figure n_cargo n_load k_there k_used k_hidden k_kind k_figure k_cargo k_load isKept tlen llen m_ships m_inn m_coughs m_day n_ships n_inn n_coughs n_day k_ships k_inn k_coughs k_day held perm hist)) C hs (c_X4_refuse e_8) tw_226 tw_228 tw_0 tw_79 tw_229 nq_X4_refuse (by decide) 0 4 rfl rfl rfl rfl hl.1 rfl (Nat.le_of_ble_eq_true rfl) (dk hX4_want_0 9 rfl) ⟨Nat.zero_le _, Nat.zero_le _⟩ rfl (fun H locs hs => ?_)
    refine lv_goto (tgt := 29) hx hb (dk hX4_want_0 10 rfl) (by decide) ?_
    cases hf
    exact ri C hs (dk hX4_want_0 16 rfl)

def X4_bare_L23 (k : List Int32 → Int32 → Int32 → Int32 → Option (List Int32 × List Int32 × List Int32 × List Int32 × List Int32 × List Int32 × List Int32 × List Int32 × Int32 × Int32 × Int32 × Int32 × Int32)) (refusals : List Int32) (m_used : List Int32) (m_hidden : List Int32) (m_kind : List Int32) (m_figure : List Int32) (m_cargo : List Int32) (m_load : List Int32) (m_ships : Int32) (x1 : Int32) : Nat → Int32 → List Int32 → Int32 → Int32 → Int32 → Option (List Int32 × List Int32 × List Int32 × List Int32 × List Int32 × List Int32 × List Int32 × List Int32 × Int32 × Int32 × Int32 × Int32 × Int32)
  | 0, _, _, _, _, _ => none
  | n + 1, x3, m_there, m_inn, m_coughs, m_day =>
  if (60 : Int32) < x3 then
  k m_there m_inn m_coughs m_day
  else
  (X0_firstBare m_there).bind fun u_5 =>
  if u_5 = (-9 : Int32) then
  (X0_passDay m_there m_used m_hidden m_kind m_figure m_cargo m_load m_ships m_inn m_coughs m_day (0 : Int32)).bind fun u_7 =>
  X4_bare_L23 k refusals m_used m_hidden m_kind m_figure m_cargo m_load m_ships x1 n (x3 + (1 : Int32)) u_7.1 u_7.2.1 u_7.2.2.1 u_7.2.2.2
  else
  if x1 = (0 : Int32) then
  some (refusals, m_there, m_used, m_hidden, m_kind, m_figure, m_cargo, m_load, m_ships, m_inn, m_coughs, m_day, u_5)
  else
  some (refusals, m_there, m_used, m_hidden, m_kind, m_figure, m_cargo, m_load, m_ships, m_inn, m_coughs, m_day, x3)
def X4_bare (refusals : List Int32) (m_there : List Int32) (m_used : List Int32) (m_hidden : List Int32) (m_kind : List Int32) (m_figure : List Int32) (m_cargo : List Int32) (m_load : List Int32) (n_there : List Int32) (n_used : List Int32) (n_hidden : List Int32) (n_kind : List Int32) (n_figure : List Int32) (n_cargo : List Int32) (n_load : List Int32) (m_ships : Int32) (m_inn : Int32) (m_coughs : Int32) (m_day : Int32) (n_ships : Int32) (n_inn : Int32) (n_coughs : Int32) (n_day : Int32) (p0 : Int32) : Option (List Int32 × List Int32 × List Int32 × List Int32 × List Int32 × List Int32 × List Int32 × List Int32 × Int32 × Int32 × Int32 × Int32 × Int32) :=
  if p0 < (0 : Int32) then
  (X4_refuse refusals (-2 : Int32)).bind fun u_1 =>
  some (u_1.1, m_there, m_used, m_hidden, m_kind, m_figure, m_cargo, m_load, m_ships, m_inn, m_coughs, m_day, u_1.2)
  else
  if p0 ≤ (1 : Int32) then
  (X4_fromNow m_there m_used m_hidden m_kind m_figure m_cargo m_load n_there n_used n_hidden n_kind n_figure n_cargo n_load m_ships m_inn m_coughs m_day n_ships n_inn n_coughs n_day).bind fun u_3 =>
  X4_bare_L23 (fun m_there_9 m_inn_10 m_coughs_11 m_day_12 =>
  some (refusals, m_there_9, u_3.2.1, u_3.2.2.1, u_3.2.2.2.1, u_3.2.2.2.2.1, u_3.2.2.2.2.2.1, u_3.2.2.2.2.2.2.1, u_3.2.2.2.2.2.2.2.1, m_inn_10, m_coughs_11, m_day_12, (-9 : Int32))) refusals u_3.2.1 u_3.2.2.1 u_3.2.2.2.1 u_3.2.2.2.2.1 u_3.2.2.2.2.2.1 u_3.2.2.2.2.2.2.1 u_3.2.2.2.2.2.2.2.1 p0 1000 (0 : Int32) u_3.1 u_3.2.2.2.2.2.2.2.2.1 u_3.2.2.2.2.2.2.2.2.2.1 u_3.2.2.2.2.2.2.2.2.2.2
  else
  (X4_refuse refusals (-2 : Int32)).bind fun u_13 =>
  some (u_13.1, m_there, m_used, m_hidden, m_kind, m_figure, m_cargo, m_load, m_ships, m_inn, m_coughs, m_day, u_13.2)
set_option maxRecDepth 100000 in
set_option maxHeartbeats 4000000 in
theorem l_X4_bare_L23 {l : Launch} {p : Program} {e : Env} {s : State} {m : MethodId} {args : Array Value} {below : List Frame} {meth : Method} {c : Code} {A : Nat → Prop} {G : Gx} {ad adt adb ade adm adn adk adp : Nat → Nat} {adr : Nat → Nat → Nat} {refusals tcells lcells m_used m_hidden m_kind m_figure m_cargo m_load n_there n_used n_hidden n_kind n_figure n_cargo n_load k_there k_used k_hidden k_kind k_figure k_cargo k_load : List Int32} {isKept tlen llen m_ships n_ships n_inn n_coughs n_day k_ships k_inn k_coughs k_day held : Int32} {perm : Nat → Nat} {hist : Nat → Hs} {x1 : Int32} {k : List Int32 → Int32 → Int32 → Int32 → Option (List Int32 × List Int32 × List Int32 × List Int32 × List Int32 × List Int32 × List Int32 × List Int32 × Int32 × Int32 × Int32 × Int32 × Int32)} {out : List Int32 × List Int32 × List Int32 × List Int32 × List Int32 × List Int32 × List Int32 × List Int32 × Int32 × Int32 × Int32 × Int32 × Int32} (C : Cx p s m args meth c cX4_bare RX4 5 (some .int) G) : ∀ (n : Nat) (x3 : Int32) (m_there : List Int32) (m_inn : Int32) (m_coughs : Int32) (m_day : Int32), X4_bare_L23 k refusals m_used m_hidden m_kind m_figure m_cargo m_load m_ships x1 n x3 m_there m_inn m_coughs m_day = some out → ∀ (H : Heap) (locs : List Loc), St G A s.heap H locs (wT G ad adt adb ade adm adn adk adp adr refusals tcells lcells m_there m_used m_hidden m_kind m_figure m_cargo m_load n_there n_used n_hidden n_kind n_figure n_cargo n_load k_there k_used k_hidden k_kind k_figure k_cargo k_load isKept tlen llen m_ships m_inn m_coughs m_day n_ships n_inn n_coughs n_day k_ships k_inn k_coughs k_day held perm hist) → ∀ ls : Array Slot, lv_has ls 5 [(1, .int x1), (2, .ref (adm 0)), (3, .int x3)] → (∀ (z_m_there : List Int32) (z_m_inn : Int32) (z_m_coughs : Int32) (z_m_day : Int32), k z_m_there z_m_inn z_m_coughs z_m_day = some out → ∀ (H : Heap) (locs : List Loc), St G A s.heap H locs (wT G ad adt adb ade adm adn adk adp adr refusals tcells lcells z_m_there m_used m_hidden m_kind m_figure m_cargo m_load n_there n_used n_hidden n_kind n_figure n_cargo n_load k_there k_used k_hidden k_kind k_figure k_cargo k_load isKept tlen llen m_ships z_m_inn z_m_coughs z_m_day n_ships n_inn n_coughs n_day k_ships k_inn k_coughs k_day held perm hist) → ∀ ls : Array Slot, lv_has ls 5 [] → W p l e (rmOf 4 89) s m args below meth c H locs 0 0 (MQ below (Qof G A (some (.int out.2.2.2.2.2.2.2.2.2.2.2.2)) (wT G ad adt adb ade adm adn adk adp adr out.1 tcells lcells out.2.1 out.2.2.1 out.2.2.2.1 out.2.2.2.2.1 out.2.2.2.2.2.1 out.2.2.2.2.2.2.1 out.2.2.2.2.2.2.2.1 n_there n_used n_hidden n_kind n_figure n_cargo n_load k_there k_used k_hidden k_kind k_figure k_cargo k_load isKept tlen llen out.2.2.2.2.2.2.2.2.1 out.2.2.2.2.2.2.2.2.2.1 out.2.2.2.2.2.2.2.2.2.2.1 out.2.2.2.2.2.2.2.2.2.2.2.1 n_ships n_inn n_coughs n_day k_ships k_inn k_coughs k_day held perm hist)) args s 0 0 A) (F0 m 64 ls [])) → W p l e (rmOf 4 89) s m args below meth c H locs 0 0 (MQ below (Qof G A (some (.int out.2.2.2.2.2.2.2.2.2.2.2.2)) (wT G ad adt adb ade adm adn adk adp adr out.1 tcells lcells out.2.1 out.2.2.1 out.2.2.2.1 out.2.2.2.2.1 out.2.2.2.2.2.1 out.2.2.2.2.2.2.1 out.2.2.2.2.2.2.2.1 n_there n_used n_hidden n_kind n_figure n_cargo n_load k_there k_used k_hidden k_kind k_figure k_cargo k_load isKept tlen llen out.2.2.2.2.2.2.2.2.1 out.2.2.2.2.2.2.2.2.2.1 out.2.2.2.2.2.2.2.2.2.2.1 out.2.2.2.2.2.2.2.2.2.2.2.1 n_ships n_inn n_coughs n_day k_ships k_inn k_coughs k_day held perm hist)) args s 0 0 A) (F0 m 23 ls []) := by
  obtain ⟨hx, hb, hml, hown, hts, hK, hret, hlk⟩ := id C
  intro n
  induction n with
  | zero => intro x3 m_there m_inn m_coughs m_day hf; cases hf
  | succ n ih =>
    intro x3 m_there m_inn m_coughs m_day hf H locs hs ls hl hk
    rw [X4_bare_L23] at hf
    refine lv_iload_n hx hb (dk hX4_bare_0 14 rfl) rfl (lv_at hl 2 rfl) ?_
    refine lv_bipush (v := (60 : Int32)) hx hb (dk hX4_bare_0 15 rfl) (by decide) ?_
    refine lv_icmp_gt (tgt := 64) hx hb (dk hX4_bare_0 16 rfl) (by decide) (fun hc => ?_) (fun hc => ?_)
    · replace hf := ip hf hc
      exact hk _ _ _ _ hf _ _ hs _ (lv_sub hl [] rfl)
    · replace hf := in_ hf hc
      refine lv_aload_n hx hb (dk hX4_bare_0 17 rfl) rfl (lv_at hl 1 rfl) ?_
      obtain ⟨u_5, e_6, hf⟩ := Option.bind_eq_some_iff.mp hf
      refine Ct.V (As := []) (rest := []) (st1 := [.int u_5]) (w1 := (wT G ad adt adb ade adm adn adk adp adr refusals tcells lcells m_there m_used m_hidden m_kind m_figure m_cargo m_load n_there n_used n_hidden n_kind n_figure n_cargo n_load k_there k_used k_hidden k_kind k_figure k_cargo k_load isKept tlen llen m_ships m_inn m_coughs m_day n_ships n_inn n_coughs n_day k_ships k_inn k_coughs k_day held perm hist)) C hs (c_X0_firstBare__mind e_6) tw_540 tw_541 tw_542 tw_80 tw_543 nq_X0_firstBare (by decide) 7 0 rfl rfl rfl rfl hl.1 rfl (Nat.le_of_ble_eq_true rfl) (dk hX4_bare_0 18 rfl) ⟨Nat.zero_le _, Nat.zero_le _⟩ rfl (fun H locs hs => ?_)
      refine lv_istore (lv' := [(4, .int u_5), (1, .int x1), (2, .ref (adm 0)), (3, .int x3)]) hx hb (dk hX4_bare_0 19 rfl) hl (by decide) rfl (fun ls hl => ?_)
      refine lv_iload hx hb (dk hX4_bare_0 20 rfl) (lv_at hl 0 rfl) ?_
      refine lv_bipush (v := (-9 : Int32)) hx hb (dk hX4_bare_0 21 rfl) (by decide) ?_
      refine lv_icmp_eq (tgt := 53) hx hb (dk hX4_bare_0 22 rfl) (by decide) (fun hc => ?_) (fun hc => ?_)
      · replace hf := ip hf hc
        refine lv_aload_n hx hb (dk hX4_bare_0 29 rfl) rfl (lv_at hl 2 rfl) ?_
        refine lv_iconst (v := (0 : Int32)) hx hb (dk hX4_bare_0 30 rfl) (by decide) ?_
        obtain ⟨u_7, e_8, hf⟩ := Option.bind_eq_some_iff.mp hf
        refine Ct.V (As := [.int (0 : Int32)]) (rest := []) (st1 := []) (w1 := (wT G ad adt adb ade adm adn adk adp adr refusals tcells lcells u_7.1 m_used m_hidden m_kind m_figure m_cargo m_load n_there n_used n_hidden n_kind n_figure n_cargo n_load k_there k_used k_hidden k_kind k_figure k_cargo k_load isKept tlen llen m_ships u_7.2.1 u_7.2.2.1 u_7.2.2.2 n_ships n_inn n_coughs n_day k_ships k_inn k_coughs k_day held perm hist)) C hs (c_X0_passDay__mind e_8) tw_479 tw_329 tw_330 tw_80 tw_331 nq_X0_passDay (by decide) 7 0 rfl rfl rfl rfl hl.1 rfl (Nat.le_of_ble_eq_true rfl) (dk hX4_bare_0 31 rfl) ⟨Nat.zero_le _, Nat.zero_le _⟩ rfl (fun H locs hs => ?_)
        refine lv_iinc (v := (x3 + (1 : Int32))) (lv' := [(3, .int (x3 + (1 : Int32))), (4, .int u_5), (1, .int x1), (2, .ref (adm 0))]) hx hb (dk hX4_bare_0 32 rfl) hl (k := 3) rfl (by first | rfl | decide) (by decide) rfl (fun ls hl => ?_)
        refine lv_goto (tgt := 23) hx hb (dk hX4_bare_0 33 rfl) (by decide) ?_
        exact ih _ _ _ _ _ hf _ _ hs _ (lv_sub hl [2, 3, 0] rfl) hk
      · replace hf := in_ hf hc
        refine lv_iload_n hx hb (dk hX4_bare_0 23 rfl) rfl (lv_at hl 1 rfl) ?_
        refine lv_if_ne (tgt := 51) hx hb (dk hX4_bare_0 24 rfl) (by decide) (fun hc => ?_) (fun hc => ?_)
        · replace hf := in_ hf hc
          refine lv_iload_n hx hb (dk hX4_bare_0 27 rfl) rfl (lv_at hl 3 rfl) ?_
          cases hf
          exact ri C hs (dk hX4_bare_0 28 rfl)
        · replace hf := ip hf hc
          refine lv_iload hx hb (dk hX4_bare_0 25 rfl) (lv_at hl 0 rfl) ?_
          refine lv_goto (tgt := 52) hx hb (dk hX4_bare_0 26 rfl) (by decide) ?_
          cases hf
          exact ri C hs (dk hX4_bare_0 28 rfl)
set_option maxRecDepth 100000 in
set_option maxHeartbeats 4000000 in
theorem c_X4_bare {l : Launch} {G : Gx} {ad adt adb ade adm adn adk adp : Nat → Nat} {adr : Nat → Nat → Nat} {refusals tcells lcells m_there m_used m_hidden m_kind m_figure m_cargo m_load n_there n_used n_hidden n_kind n_figure n_cargo n_load k_there k_used k_hidden k_kind k_figure k_cargo k_load : List Int32} {isKept tlen llen m_ships m_inn m_coughs m_day n_ships n_inn n_coughs n_day k_ships k_inn k_coughs k_day held : Int32} {perm : Nat → Nat} {hist : Nat → Hs} {p0 : Int32} {out : List Int32 × List Int32 × List Int32 × List Int32 × List Int32 × List Int32 × List Int32 × List Int32 × Int32 × Int32 × Int32 × Int32 × Int32} (hf : X4_bare refusals m_there m_used m_hidden m_kind m_figure m_cargo m_load n_there n_used n_hidden n_kind n_figure n_cargo n_load m_ships m_inn m_coughs m_day n_ships n_inn n_coughs n_day p0 = some out) : Ct l G yX4_bare cX4_bare 5 (some .int) 4 89 [.ref (ad 0), .int p0] (wT G ad adt adb ade adm adn adk adp adr refusals tcells lcells m_there m_used m_hidden m_kind m_figure m_cargo m_load n_there n_used n_hidden n_kind n_figure n_cargo n_load k_there k_used k_hidden k_kind k_figure k_cargo k_load isKept tlen llen m_ships m_inn m_coughs m_day n_ships n_inn n_coughs n_day k_ships k_inn k_coughs k_day held perm hist) (some (.int out.2.2.2.2.2.2.2.2.2.2.2.2)) (wT G ad adt adb ade adm adn adk adp adr out.1 tcells lcells out.2.1 out.2.2.1 out.2.2.2.1 out.2.2.2.2.1 out.2.2.2.2.2.1 out.2.2.2.2.2.2.1 out.2.2.2.2.2.2.2.1 n_there n_used n_hidden n_kind n_figure n_cargo n_load k_there k_used k_hidden k_kind k_figure k_cargo k_load isKept tlen llen out.2.2.2.2.2.2.2.2.1 out.2.2.2.2.2.2.2.2.2.1 out.2.2.2.2.2.2.2.2.2.2.1 out.2.2.2.2.2.2.2.2.2.2.2.1 n_ships n_inn n_coughs n_day k_ships k_inn k_coughs k_day held perm hist) := by
  refine Ct.intro RX4 rfl (plainFor_of_name (by decide)) (Nat.le_of_ble_eq_true rfl) rfl ?_
  intro p e s m args below meth c A C H locs hs ls hl
  obtain ⟨hx, hb, hml, hown, hts, hK, hret, hlk⟩ := id C
  have hl : lv_has ls 5 [(0, .ref (ad 0)), (1, .int p0)] := hl
  unfold X4_bare at hf
  refine lv_iload_n hx hb (dk hX4_bare_0 0 rfl) rfl (lv_at hl 1 rfl) ?_
  refine lv_if_lt (tgt := 9) hx hb (dk hX4_bare_0 1 rfl) (by decide) (fun hc => ?_) (fun hc => ?_)
  · replace hf := ip hf hc
    refine lv_aload_n hx hb (dk hX4_bare_0 5 rfl) rfl (lv_at hl 0 rfl) ?_
    refine lv_bipush (v := (-2 : Int32)) hx hb (dk hX4_bare_0 6 rfl) (by decide) ?_
    obtain ⟨u_1, e_2, hf⟩ := Option.bind_eq_some_iff.mp hf
    refine Ct.V (As := [.int (-2 : Int32)]) (rest := []) (st1 := [.int u_1.2]) (w1 := (wT G ad adt adb ade adm adn adk adp adr u_1.1 tcells lcells m_there m_used m_hidden m_kind m_figure m_cargo m_load n_there n_used n_hidden n_kind n_figure n_cargo n_load k_there k_used k_hidden k_kind k_figure k_cargo k_load isKept tlen llen m_ships m_inn m_coughs m_day n_ships n_inn n_coughs n_day k_ships k_inn k_coughs k_day held perm hist)) C hs (c_X4_refuse e_2) tw_226 tw_228 tw_0 tw_79 tw_229 nq_X4_refuse (by decide) 0 4 rfl rfl rfl rfl hl.1 rfl (Nat.le_of_ble_eq_true rfl) (dk hX4_bare_0 7 rfl) ⟨Nat.zero_le _, Nat.zero_le _⟩ rfl (fun H locs hs => ?_)
    cases hf
    exact ri C hs (dk hX4_bare_0 8 rfl)
  · replace hf := in_ hf hc
    refine lv_iload_n hx hb (dk hX4_bare_0 2 rfl) rfl (lv_at hl 1 rfl) ?_
    refine lv_iconst (v := (1 : Int32)) hx hb (dk hX4_bare_0 3 rfl) (by decide) ?_
    refine lv_icmp_le (tgt := 16) hx hb (dk hX4_bare_0 4 rfl) (by decide) (fun hc => ?_) (fun hc => ?_)
    · replace hf := ip hf hc
      refine lv_aload_n hx hb (dk hX4_bare_0 9 rfl) rfl (lv_at hl 0 rfl) ?_
      obtain ⟨u_3, e_4, hf⟩ := Option.bind_eq_some_iff.mp hf
      refine Ct.V (As := []) (rest := []) (st1 := [.ref (adm 0)]) (w1 := (wT G ad adt adb ade adm adn adk adp adr refusals tcells lcells u_3.1 u_3.2.1 u_3.2.2.1 u_3.2.2.2.1 u_3.2.2.2.2.1 u_3.2.2.2.2.2.1 u_3.2.2.2.2.2.2.1 n_there n_used n_hidden n_kind n_figure n_cargo n_load k_there k_used k_hidden k_kind k_figure k_cargo k_load isKept tlen llen u_3.2.2.2.2.2.2.2.1 u_3.2.2.2.2.2.2.2.2.1 u_3.2.2.2.2.2.2.2.2.2.1 u_3.2.2.2.2.2.2.2.2.2.2 n_ships n_inn n_coughs n_day k_ships k_inn k_coughs k_day held perm hist)) C hs (c_X4_fromNow e_4) tw_246 tw_248 tw_1 tw_79 tw_249 nq_X4_fromNow (by decide) 0 4 rfl rfl rfl rfl hl.1 rfl (Nat.le_of_ble_eq_true rfl) (dk hX4_bare_0 10 rfl) ⟨Nat.zero_le _, Nat.zero_le _⟩ rfl (fun H locs hs => ?_)
      refine lv_astore_n (lv' := [(2, .ref (adm 0)), (0, .ref (ad 0)), (1, .int p0)]) hx hb (dk hX4_bare_0 11 rfl) rfl hl (by decide) rfl (fun ls hl => ?_)
      refine lv_iconst (v := (0 : Int32)) hx hb (dk hX4_bare_0 12 rfl) (by decide) ?_
      refine lv_istore_n (lv' := [(3, .int (0 : Int32)), (2, .ref (adm 0)), (0, .ref (ad 0)), (1, .int p0)]) hx hb (dk hX4_bare_0 13 rfl) rfl hl (by decide) rfl (fun ls hl => ?_)
      refine l_X4_bare_L23 C 1000 _ _ _ _ _ hf _ _ hs _ (lv_sub hl [3, 1, 0] rfl) (fun m_there_9 m_inn_10 m_coughs_11 m_day_12 hf H locs hs ls hl => ?_)
      refine lv_bipush (v := (-9 : Int32)) hx hb (dk hX4_bare_0 34 rfl) (by decide) ?_
      cases hf
      exact ri C hs (dk hX4_bare_0 35 rfl)
    · replace hf := in_ hf hc
      refine lv_aload_n hx hb (dk hX4_bare_0 5 rfl) rfl (lv_at hl 0 rfl) ?_
      refine lv_bipush (v := (-2 : Int32)) hx hb (dk hX4_bare_0 6 rfl) (by decide) ?_
      obtain ⟨u_13, e_14, hf⟩ := Option.bind_eq_some_iff.mp hf
      refine Ct.V (As := [.int (-2 : Int32)]) (rest := []) (st1 := [.int u_13.2]) (w1 := (wT G ad adt adb ade adm adn adk adp adr u_13.1 tcells lcells m_there m_used m_hidden m_kind m_figure m_cargo m_load n_there n_used n_hidden n_kind n_figure n_cargo n_load k_there k_used k_hidden k_kind k_figure k_cargo k_load isKept tlen llen m_ships m_inn m_coughs m_day n_ships n_inn n_coughs n_day k_ships k_inn k_coughs k_day held perm hist)) C hs (c_X4_refuse e_14) tw_226 tw_228 tw_0 tw_79 tw_229 nq_X4_refuse (by decide) 0 4 rfl rfl rfl rfl hl.1 rfl (Nat.le_of_ble_eq_true rfl) (dk hX4_bare_0 7 rfl) ⟨Nat.zero_le _, Nat.zero_le _⟩ rfl (fun H locs hs => ?_)
      cases hf
      exact ri C hs (dk hX4_bare_0 8 rfl)

def X4_lasts (refusals : List Int32) (n_there : List Int32) (n_used : List Int32) (p0 : Int32) : Option (List Int32 × Int32) :=
  (X4_isGood p0).bind fun u_1 =>
  if u_1 = (0 : Int32) then
  (X4_refuse refusals (-1 : Int32)).bind fun u_7 =>
  some (u_7.1, u_7.2)
  else
  (rd n_used p0).bind fun v_3 =>
  if (0 : Int32) < v_3 then
  (rd n_there p0).bind fun v_5 =>
  if v_3 = 0 then none else
  some (refusals, (mmin (99 : Int32) (((v_5 + v_3) - (1 : Int32)) / v_3)))
  else
  some (refusals, (99 : Int32))
set_option maxRecDepth 100000 in
set_option maxHeartbeats 4000000 in
theorem c_X4_lasts {l : Launch} {G : Gx} {ad adt adb ade adm adn adk adp : Nat → Nat} {adr : Nat → Nat → Nat} {refusals tcells lcells m_there m_used m_hidden m_kind m_figure m_cargo m_load n_there n_used n_hidden n_kind n_figure n_cargo n_load k_there k_used k_hidden k_kind k_figure k_cargo k_load : List Int32} {isKept tlen llen m_ships m_inn m_coughs m_day n_ships n_inn n_coughs n_day k_ships k_inn k_coughs k_day held : Int32} {perm : Nat → Nat} {hist : Nat → Hs} {p0 : Int32} {out : List Int32 × Int32} (hf : X4_lasts refusals n_there n_used p0 = some out) : Ct l G yX4_lasts cX4_lasts 3 (some .int) 1 24 [.ref (ad 0), .int p0] (wT G ad adt adb ade adm adn adk adp adr refusals tcells lcells m_there m_used m_hidden m_kind m_figure m_cargo m_load n_there n_used n_hidden n_kind n_figure n_cargo n_load k_there k_used k_hidden k_kind k_figure k_cargo k_load isKept tlen llen m_ships m_inn m_coughs m_day n_ships n_inn n_coughs n_day k_ships k_inn k_coughs k_day held perm hist) (some (.int out.2)) (wT G ad adt adb ade adm adn adk adp adr out.1 tcells lcells m_there m_used m_hidden m_kind m_figure m_cargo m_load n_there n_used n_hidden n_kind n_figure n_cargo n_load k_there k_used k_hidden k_kind k_figure k_cargo k_load isKept tlen llen m_ships m_inn m_coughs m_day n_ships n_inn n_coughs n_day k_ships k_inn k_coughs k_day held perm hist) := by
  refine Ct.intro RX4 rfl (plainFor_of_name (by decide)) (Nat.le_of_ble_eq_true rfl) rfl ?_
  intro p e s m args below meth c A C H locs hs ls hl
  obtain ⟨hx, hb, hml, hown, hts, hK, hret, hlk⟩ := id C
  have hl : lv_has ls 3 [(0, .ref (ad 0)), (1, .int p0)] := hl
  unfold X4_lasts at hf
  refine lv_iload_n hx hb (dk hX4_lasts_0 0 rfl) rfl (lv_at hl 1 rfl) ?_
  obtain ⟨u_1, e_2, hf⟩ := Option.bind_eq_some_iff.mp hf
  refine Ct.S (As := [.int p0]) (rest := []) (st1 := [.int u_1]) (w1 := (wT G ad adt adb ade adm adn adk adp adr refusals tcells lcells m_there m_used m_hidden m_kind m_figure m_cargo m_load n_there n_used n_hidden n_kind n_figure n_cargo n_load k_there k_used k_hidden k_kind k_figure k_cargo k_load isKept tlen llen m_ships m_inn m_coughs m_day n_ships n_inn n_coughs n_day k_ships k_inn k_coughs k_day held perm hist)) C hs (c_X4_isGood e_2) tw_387 tw_283 tw_79 tw_284 nq_X4_isGood (by decide) rfl hl.1 rfl (Nat.le_of_ble_eq_true rfl) (dk hX4_lasts_0 1 rfl) ⟨Nat.zero_le _, Nat.zero_le _⟩ rfl (fun H locs hs => ?_)
  refine lv_if_ne (tgt := 13) hx hb (dk hX4_lasts_0 2 rfl) (by decide) (fun hc => ?_) (fun hc => ?_)
  · replace hf := in_ hf hc
    refine lv_aload_n hx hb (dk hX4_lasts_0 7 rfl) rfl (lv_at hl 0 rfl) ?_
    refine rg ui4 rfl C hs 0 rfl 0 (by decide) tw_197 rfl rfl (dk hX4_lasts_0 8 rfl) ?_
    refine rg ui0 rfl C hs 15 rfl 1 (by decide) tw_105 rfl rfl (dk hX4_lasts_0 9 rfl) ?_
    refine lv_iload_n hx hb (dk hX4_lasts_0 10 rfl) rfl (lv_at hl 1 rfl) ?_
    obtain ⟨v_3, e_4, hf⟩ := Option.bind_eq_some_iff.mp hf
    refine rild C hs 17 rfl e_4 (dk hX4_lasts_0 11 rfl) ?_
    refine lv_istore_n (lv' := [(2, .int v_3), (0, .ref (ad 0)), (1, .int p0)]) hx hb (dk hX4_lasts_0 12 rfl) rfl hl (by decide) rfl (fun ls hl => ?_)
    refine lv_iload_n hx hb (dk hX4_lasts_0 13 rfl) rfl (lv_at hl 0 rfl) ?_
    refine lv_if_gt (tgt := 30) hx hb (dk hX4_lasts_0 14 rfl) (by decide) (fun hc => ?_) (fun hc => ?_)
    · replace hf := ip hf hc
      refine lv_bipush (v := (99 : Int32)) hx hb (dk hX4_lasts_0 17 rfl) (by decide) ?_
      refine lv_aload_n hx hb (dk hX4_lasts_0 18 rfl) rfl (lv_at hl 1 rfl) ?_
      refine rg ui4 rfl C hs 0 rfl 0 (by decide) tw_197 rfl rfl (dk hX4_lasts_0 19 rfl) ?_
      refine rg ui0 rfl C hs 15 rfl 0 (by decide) tw_102 rfl rfl (dk hX4_lasts_0 20 rfl) ?_
      refine lv_iload_n hx hb (dk hX4_lasts_0 21 rfl) rfl (lv_at hl 2 rfl) ?_
      obtain ⟨v_5, e_6, hf⟩ := Option.bind_eq_some_iff.mp hf
      refine rild C hs 16 rfl e_6 (dk hX4_lasts_0 22 rfl) ?_
      refine lv_iload_n hx hb (dk hX4_lasts_0 23 rfl) rfl (lv_at hl 0 rfl) ?_
      refine lv_iadd hx hb (dk hX4_lasts_0 24 rfl) ?_
      refine lv_iconst (v := (1 : Int32)) hx hb (dk hX4_lasts_0 25 rfl) (by decide) ?_
      refine lv_isub hx hb (dk hX4_lasts_0 26 rfl) ?_
      refine lv_iload_n hx hb (dk hX4_lasts_0 27 rfl) rfl (lv_at hl 0 rfl) ?_
      obtain ⟨hne, hf⟩ := idn hf
      refine lv_idiv hx hb (dk hX4_lasts_0 28 rfl) hne ?_
      refine va_mmin hx hb (hml.trans hl.1.symm) hown (hts _ tw_548) (hts _ tw_302) (hts _ tw_84) (hts _ tw_303) (by decide) (Nat.le_of_ble_eq_true rfl) (Nat.zero_le _) (Nat.zero_le _) (dk hX4_lasts_0 29 rfl) ?_
      cases hf
      exact ri C hs (dk hX4_lasts_0 30 rfl)
    · replace hf := in_ hf hc
      refine lv_bipush (v := (99 : Int32)) hx hb (dk hX4_lasts_0 15 rfl) (by decide) ?_
      cases hf
      exact ri C hs (dk hX4_lasts_0 16 rfl)
  · replace hf := ip hf hc
    refine lv_aload_n hx hb (dk hX4_lasts_0 3 rfl) rfl (lv_at hl 0 rfl) ?_
    refine lv_iconst (v := (-1 : Int32)) hx hb (dk hX4_lasts_0 4 rfl) (by decide) ?_
    obtain ⟨u_7, e_8, hf⟩ := Option.bind_eq_some_iff.mp hf
    refine Ct.V (As := [.int (-1 : Int32)]) (rest := []) (st1 := [.int u_7.2]) (w1 := (wT G ad adt adb ade adm adn adk adp adr u_7.1 tcells lcells m_there m_used m_hidden m_kind m_figure m_cargo m_load n_there n_used n_hidden n_kind n_figure n_cargo n_load k_there k_used k_hidden k_kind k_figure k_cargo k_load isKept tlen llen m_ships m_inn m_coughs m_day n_ships n_inn n_coughs n_day k_ships k_inn k_coughs k_day held perm hist)) C hs (c_X4_refuse e_8) tw_226 tw_228 tw_0 tw_79 tw_229 nq_X4_refuse (by decide) 0 4 rfl rfl rfl rfl hl.1 rfl (Nat.le_of_ble_eq_true rfl) (dk hX4_lasts_0 5 rfl) ⟨Nat.zero_le _, Nat.zero_le _⟩ rfl (fun H locs hs => ?_)
    cases hf
    exact ri C hs (dk hX4_lasts_0 6 rfl)

def X4_best_L35 (k : Int32 → List Int32 → List Int32 → List Int32 → List Int32 → List Int32 → List Int32 → List Int32 → Int32 → Int32 → Int32 → Int32 → Option (List Int32 × List Int32 × List Int32 × List Int32 × List Int32 × List Int32 × List Int32 × List Int32 × Int32 × Int32 × Int32 × Int32 × Int32)) (n_there : List Int32) (n_used : List Int32) (n_hidden : List Int32) (n_kind : List Int32) (n_figure : List Int32) (n_cargo : List Int32) (n_load : List Int32) (n_ships : Int32) (n_inn : Int32) (n_coughs : Int32) (n_day : Int32) (x1 : Int32) : Nat → Int32 → Int32 → Int32 → List Int32 → List Int32 → List Int32 → List Int32 → List Int32 → List Int32 → List Int32 → Int32 → Int32 → Int32 → Int32 → Option (List Int32 × List Int32 × List Int32 × List Int32 × List Int32 × List Int32 × List Int32 × List Int32 × Int32 × Int32 × Int32 × Int32 × Int32)
  | 0, _, _, _, _, _, _, _, _, _, _, _, _, _, _ => none
  | n + 1, x3, x4, x5, m_there, m_used, m_hidden, m_kind, m_figure, m_cargo, m_load, m_ships, m_inn, m_coughs, m_day =>
  if n_ships ≤ x5 then
  k x3 m_there m_used m_hidden m_kind m_figure m_cargo m_load m_ships m_inn m_coughs m_day
  else
  (X4_fromNow m_there m_used m_hidden m_kind m_figure m_cargo m_load n_there n_used n_hidden n_kind n_figure n_cargo n_load m_ships m_inn m_coughs m_day n_ships n_inn n_coughs n_day).bind fun u_7 =>
  (X0_wantWithin u_7.1 u_7.2.1 u_7.2.2.1 u_7.2.2.2.1 u_7.2.2.2.2.1 u_7.2.2.2.2.2.1 u_7.2.2.2.2.2.2.1 u_7.2.2.2.2.2.2.2.1 u_7.2.2.2.2.2.2.2.2.1 u_7.2.2.2.2.2.2.2.2.2.1 u_7.2.2.2.2.2.2.2.2.2.2 x1 ((1 : Int32) <<< (x5 &&& 31))).bind fun u_9 =>
  if u_9.2.2.2.2 ≤ x4 then
  X4_best_L35 k n_there n_used n_hidden n_kind n_figure n_cargo n_load n_ships n_inn n_coughs n_day x1 n x3 x4 (x5 + (1 : Int32)) u_9.1 u_7.2.1 u_7.2.2.1 u_7.2.2.2.1 u_7.2.2.2.2.1 u_7.2.2.2.2.2.1 u_7.2.2.2.2.2.2.1 u_7.2.2.2.2.2.2.2.1 u_9.2.1 u_9.2.2.1 u_9.2.2.2.1
  else
  X4_best_L35 k n_there n_used n_hidden n_kind n_figure n_cargo n_load n_ships n_inn n_coughs n_day x1 n x5 u_9.2.2.2.2 (x5 + (1 : Int32)) u_9.1 u_7.2.1 u_7.2.2.1 u_7.2.2.2.1 u_7.2.2.2.2.1 u_7.2.2.2.2.2.1 u_7.2.2.2.2.2.2.1 u_7.2.2.2.2.2.2.2.1 u_9.2.1 u_9.2.2.1 u_9.2.2.2.1
def X4_best (refusals : List Int32) (m_there : List Int32) (m_used : List Int32) (m_hidden : List Int32) (m_kind : List Int32) (m_figure : List Int32) (m_cargo : List Int32) (m_load : List Int32) (n_there : List Int32) (n_used : List Int32) (n_hidden : List Int32) (n_kind : List Int32) (n_figure : List Int32) (n_cargo : List Int32) (n_load : List Int32) (m_ships : Int32) (m_inn : Int32) (m_coughs : Int32) (m_day : Int32) (n_ships : Int32) (n_inn : Int32) (n_coughs : Int32) (n_day : Int32) (p0 : Int32) : Option (List Int32 × List Int32 × List Int32 × List Int32 × List Int32 × List Int32 × List Int32 × List Int32 × Int32 × Int32 × Int32 × Int32 × Int32) :=
  (X4_misfit p0 (0 : Int32) (60 : Int32)).bind fun u_1 =>
  if u_1 = (0 : Int32) then
  (X4_fromNow m_there m_used m_hidden m_kind m_figure m_cargo m_load n_there n_used n_hidden n_kind n_figure n_cargo n_load m_ships m_inn m_coughs m_day n_ships n_inn n_coughs n_day).bind fun u_3 =>
  (X0_wantWithin u_3.1 u_3.2.1 u_3.2.2.1 u_3.2.2.2.1 u_3.2.2.2.2.1 u_3.2.2.2.2.2.1 u_3.2.2.2.2.2.2.1 u_3.2.2.2.2.2.2.2.1 u_3.2.2.2.2.2.2.2.2.1 u_3.2.2.2.2.2.2.2.2.2.1 u_3.2.2.2.2.2.2.2.2.2.2 p0 (0 : Int32)).bind fun u_5 =>
  X4_best_L35 (fun y3_11 m_there_12 m_used_13 m_hidden_14 m_kind_15 m_figure_16 m_cargo_17 m_load_18 m_ships_19 m_inn_20 m_coughs_21 m_day_22 =>
  some (refusals, m_there_12, m_used_13, m_hidden_14, m_kind_15, m_figure_16, m_cargo_17, m_load_18, m_ships_19, m_inn_20, m_coughs_21, m_day_22, y3_11)) n_there n_used n_hidden n_kind n_figure n_cargo n_load n_ships n_inn n_coughs n_day p0 1000 (-9 : Int32) u_5.2.2.2.2 (0 : Int32) u_5.1 u_3.2.1 u_3.2.2.1 u_3.2.2.2.1 u_3.2.2.2.2.1 u_3.2.2.2.2.2.1 u_3.2.2.2.2.2.2.1 u_3.2.2.2.2.2.2.2.1 u_5.2.1 u_5.2.2.1 u_5.2.2.2.1
  else
  (X4_refuse refusals u_1).bind fun u_23 =>
  some (u_23.1, m_there, m_used, m_hidden, m_kind, m_figure, m_cargo, m_load, m_ships, m_inn, m_coughs, m_day, u_23.2)
set_option maxRecDepth 100000 in
set_option maxHeartbeats 4000000 in
theorem l_X4_best_L35 {l : Launch} {p : Program} {e : Env} {s : State} {m : MethodId} {args : Array Value} {below : List Frame} {meth : Method} {c : Code} {A : Nat → Prop} {G : Gx} {ad adt adb ade adm adn adk adp : Nat → Nat} {adr : Nat → Nat → Nat} {refusals tcells lcells n_there n_used n_hidden n_kind n_figure n_cargo n_load k_there k_used k_hidden k_kind k_figure k_cargo k_load : List Int32} {isKept tlen llen n_ships n_inn n_coughs n_day k_ships k_inn k_coughs k_day held : Int32} {perm : Nat → Nat} {hist : Nat → Hs} {x1 : Int32} {k : Int32 → List Int32 → List Int32 → List Int32 → List Int32 → List Int32 → List Int32 → List Int32 → Int32 → Int32 → Int32 → Int32 → Option (List Int32 × List Int32 × List Int32 × List Int32 × List Int32 × List Int32 × List Int32 × List Int32 × Int32 × Int32 × Int32 × Int32 × Int32)} {out : List Int32 × List Int32 × List Int32 × List Int32 × List Int32 × List Int32 × List Int32 × List Int32 × Int32 × Int32 × Int32 × Int32 × Int32} (C : Cx p s m args meth c cX4_best RX4 7 (some .int) G) : ∀ (n : Nat) (x3 : Int32) (x4 : Int32) (x5 : Int32) (m_there : List Int32) (m_used : List Int32) (m_hidden : List Int32) (m_kind : List Int32) (m_figure : List Int32) (m_cargo : List Int32) (m_load : List Int32) (m_ships : Int32) (m_inn : Int32) (m_coughs : Int32) (m_day : Int32), X4_best_L35 k n_there n_used n_hidden n_kind n_figure n_cargo n_load n_ships n_inn n_coughs n_day x1 n x3 x4 x5 m_there m_used m_hidden m_kind m_figure m_cargo m_load m_ships m_inn m_coughs m_day = some out → ∀ (H : Heap) (locs : List Loc), St G A s.heap H locs (wT G ad adt adb ade adm adn adk adp adr refusals tcells lcells m_there m_used m_hidden m_kind m_figure m_cargo m_load n_there n_used n_hidden n_kind n_figure n_cargo n_load k_there k_used k_hidden k_kind k_figure k_cargo k_load isKept tlen llen m_ships m_inn m_coughs m_day n_ships n_inn n_coughs n_day k_ships k_inn k_coughs k_day held perm hist) → ∀ ls : Array Slot, lv_has ls 7 [(0, .ref (ad 0)), (1, .int x1), (3, .int x3), (4, .int x4), (5, .int x5)] → (∀ (y3 : Int32) (z_m_there : List Int32) (z_m_used : List Int32) (z_m_hidden : List Int32) (z_m_kind : List Int32) (z_m_figure : List Int32) (z_m_cargo : List Int32) (z_m_load : List Int32) (z_m_ships : Int32) (z_m_inn : Int32) (z_m_coughs : Int32) (z_m_day : Int32), k y3 z_m_there z_m_used z_m_hidden z_m_kind z_m_figure z_m_cargo z_m_load z_m_ships z_m_inn z_m_coughs z_m_day = some out → ∀ (H : Heap) (locs : List Loc), St G A s.heap H locs (wT G ad adt adb ade adm adn adk adp adr refusals tcells lcells z_m_there z_m_used z_m_hidden z_m_kind z_m_figure z_m_cargo z_m_load n_there n_used n_hidden n_kind n_figure n_cargo n_load k_there k_used k_hidden k_kind k_figure k_cargo k_load isKept tlen llen z_m_ships z_m_inn z_m_coughs z_m_day n_ships n_inn n_coughs n_day k_ships k_inn k_coughs k_day held perm hist) → ∀ ls : Array Slot, lv_has ls 7 [(3, .int y3)] → W p l e (rmOf 5 113) s m args below meth c H locs 0 0 (MQ below (Qof G A (some (.int out.2.2.2.2.2.2.2.2.2.2.2.2)) (wT G ad adt adb ade adm adn adk adp adr out.1 tcells lcells out.2.1 out.2.2.1 out.2.2.2.1 out.2.2.2.2.1 out.2.2.2.2.2.1 out.2.2.2.2.2.2.1 out.2.2.2.2.2.2.2.1 n_there n_used n_hidden n_kind n_figure n_cargo n_load k_there k_used k_hidden k_kind k_figure k_cargo k_load isKept tlen llen out.2.2.2.2.2.2.2.2.1 out.2.2.2.2.2.2.2.2.2.1 out.2.2.2.2.2.2.2.2.2.2.1 out.2.2.2.2.2.2.2.2.2.2.2.1 n_ships n_inn n_coughs n_day k_ships k_inn k_coughs k_day held perm hist)) args s 0 0 A) (F0 m 81 ls [])) → W p l e (rmOf 5 113) s m args below meth c H locs 0 0 (MQ below (Qof G A (some (.int out.2.2.2.2.2.2.2.2.2.2.2.2)) (wT G ad adt adb ade adm adn adk adp adr out.1 tcells lcells out.2.1 out.2.2.1 out.2.2.2.1 out.2.2.2.2.1 out.2.2.2.2.2.1 out.2.2.2.2.2.2.1 out.2.2.2.2.2.2.2.1 n_there n_used n_hidden n_kind n_figure n_cargo n_load k_there k_used k_hidden k_kind k_figure k_cargo k_load isKept tlen llen out.2.2.2.2.2.2.2.2.1 out.2.2.2.2.2.2.2.2.2.1 out.2.2.2.2.2.2.2.2.2.2.1 out.2.2.2.2.2.2.2.2.2.2.2.1 n_ships n_inn n_coughs n_day k_ships k_inn k_coughs k_day held perm hist)) args s 0 0 A) (F0 m 35 ls []) := by
  obtain ⟨hx, hb, hml, hown, hts, hK, hret, hlk⟩ := id C
  intro n
  induction n with
  | zero => intro x3 x4 x5 m_there m_used m_hidden m_kind m_figure m_cargo m_load m_ships m_inn m_coughs m_day hf; cases hf
  | succ n ih =>
    intro x3 x4 x5 m_there m_used m_hidden m_kind m_figure m_cargo m_load m_ships m_inn m_coughs m_day hf H locs hs ls hl hk
    rw [X4_best_L35] at hf
    refine lv_iload hx hb (dk hX4_best_0 21 rfl) (lv_at hl 4 rfl) ?_
    refine lv_aload_n hx hb (dk hX4_best_0 22 rfl) rfl (lv_at hl 0 rfl) ?_
    refine rg ui4 rfl C hs 0 rfl 0 (by decide) tw_197 rfl rfl (dk hX4_best_0 23 rfl) ?_
    refine rg ui0 rfl C hs 15 rfl 7 (by decide) tw_118 rfl rfl (dk hX4_best_0 24 rfl) ?_
    refine lv_icmp_ge (tgt := 81) hx hb (dk hX4_best_0 25 rfl) (by decide) (fun hc => ?_) (fun hc => ?_)
    · replace hf := ip hf hc
      exact hk _ _ _ _ _ _ _ _ _ _ _ _ hf _ _ hs _ (lv_sub hl [2] rfl)
    · replace hf := in_ hf hc
      refine lv_aload_n hx hb (dk hX4_best_0 26 rfl) rfl (lv_at hl 0 rfl) ?_
      obtain ⟨u_7, e_8, hf⟩ := Option.bind_eq_some_iff.mp hf
      refine Ct.V (As := []) (rest := []) (st1 := [.ref (adm 0)]) (w1 := (wT G ad adt adb ade adm adn adk adp adr refusals tcells lcells u_7.1 u_7.2.1 u_7.2.2.1 u_7.2.2.2.1 u_7.2.2.2.2.1 u_7.2.2.2.2.2.1 u_7.2.2.2.2.2.2.1 n_there n_used n_hidden n_kind n_figure n_cargo n_load k_there k_used k_hidden k_kind k_figure k_cargo k_load isKept tlen llen u_7.2.2.2.2.2.2.2.1 u_7.2.2.2.2.2.2.2.2.1 u_7.2.2.2.2.2.2.2.2.2.1 u_7.2.2.2.2.2.2.2.2.2.2 n_ships n_inn n_coughs n_day k_ships k_inn k_coughs k_day held perm hist)) C hs (c_X4_fromNow e_8) tw_246 tw_248 tw_1 tw_79 tw_249 nq_X4_fromNow (by decide) 0 4 rfl rfl rfl rfl hl.1 rfl (Nat.le_of_ble_eq_true rfl) (dk hX4_best_0 27 rfl) ⟨Nat.zero_le _, Nat.zero_le _⟩ rfl (fun H locs hs => ?_)
      refine lv_iload_n hx hb (dk hX4_best_0 28 rfl) rfl (lv_at hl 1 rfl) ?_
      refine lv_iconst (v := (1 : Int32)) hx hb (dk hX4_best_0 29 rfl) (by decide) ?_
      refine lv_iload hx hb (dk hX4_best_0 30 rfl) (lv_at hl 4 rfl) ?_
      refine lv_ishl hx hb (dk hX4_best_0 31 rfl) ?_
      obtain ⟨u_9, e_10, hf⟩ := Option.bind_eq_some_iff.mp hf
      refine Ct.V (As := [.int x1, .int ((1 : Int32) <<< (x5 &&& 31))]) (rest := []) (st1 := [.int u_9.2.2.2.2]) (w1 := (wT G ad adt adb ade adm adn adk adp adr refusals tcells lcells u_9.1 u_7.2.1 u_7.2.2.1 u_7.2.2.2.1 u_7.2.2.2.2.1 u_7.2.2.2.2.2.1 u_7.2.2.2.2.2.2.1 n_there n_used n_hidden n_kind n_figure n_cargo n_load k_there k_used k_hidden k_kind k_figure k_cargo k_load isKept tlen llen u_7.2.2.2.2.2.2.2.1 u_9.2.1 u_9.2.2.1 u_9.2.2.2.1 n_ships n_inn n_coughs n_day k_ships k_inn k_coughs k_day held perm hist)) C hs (c_X0_wantWithin__mind e_10) tw_528 tw_529 tw_530 tw_80 tw_531 nq_X0_wantWithin (by decide) 7 0 rfl rfl rfl rfl hl.1 rfl (Nat.le_of_ble_eq_true rfl) (dk hX4_best_0 32 rfl) ⟨Nat.zero_le _, Nat.zero_le _⟩ rfl (fun H locs hs => ?_)
      refine lv_istore (lv' := [(6, .int u_9.2.2.2.2), (0, .ref (ad 0)), (1, .int x1), (3, .int x3), (4, .int x4), (5, .int x5)]) hx hb (dk hX4_best_0 33 rfl) hl (by decide) rfl (fun ls hl => ?_)
      refine lv_iload hx hb (dk hX4_best_0 34 rfl) (lv_at hl 0 rfl) ?_
      refine lv_iload hx hb (dk hX4_best_0 35 rfl) (lv_at hl 4 rfl) ?_
      refine lv_icmp_le (tgt := 75) hx hb (dk hX4_best_0 36 rfl) (by decide) (fun hc => ?_) (fun hc => ?_)
      · replace hf := ip hf hc
        refine lv_iinc (v := (x5 + (1 : Int32))) (lv' := [(5, .int (x5 + (1 : Int32))), (6, .int u_9.2.2.2.2), (0, .ref (ad 0)), (1, .int x1), (3, .int x3), (4, .int x4)]) hx hb (dk hX4_best_1 1 rfl) hl (k := 5) rfl (by first | rfl | decide) (by decide) rfl (fun ls hl => ?_)
        refine lv_goto (tgt := 35) hx hb (dk hX4_best_1 2 rfl) (by decide) ?_
        exact ih _ _ _ _ _ _ _ _ _ _ _ _ _ _ hf _ _ hs _ (lv_sub hl [2, 3, 4, 5, 0] rfl) hk
      · replace hf := in_ hf hc
        refine lv_iload hx hb (dk hX4_best_0 37 rfl) (lv_at hl 5 rfl) ?_
        refine lv_istore_n (lv' := [(3, .int x5), (6, .int u_9.2.2.2.2), (0, .ref (ad 0)), (1, .int x1), (4, .int x4), (5, .int x5)]) hx hb (dk hX4_best_0 38 rfl) rfl hl (by decide) rfl (fun ls hl => ?_)
        refine lv_iload hx hb (dk hX4_best_0 39 rfl) (lv_at hl 1 rfl) ?_
        refine lv_istore (lv' := [(4, .int u_9.2.2.2.2), (3, .int x5), (6, .int u_9.2.2.2.2), (0, .ref (ad 0)), (1, .int x1), (5, .int x5)]) hx hb (dk hX4_best_1 0 rfl) hl (by decide) rfl (fun ls hl => ?_)
        refine lv_iinc (v := (x5 + (1 : Int32))) (lv' := [(5, .int (x5 + (1 : Int32))), (4, .int u_9.2.2.2.2), (3, .int x5), (6, .int u_9.2.2.2.2), (0, .ref (ad 0)), (1, .int x1)]) hx hb (dk hX4_best_1 1 rfl) hl (k := 5) rfl (by first | rfl | decide) (by decide) rfl (fun ls hl => ?_)
        refine lv_goto (tgt := 35) hx hb (dk hX4_best_1 2 rfl) (by decide) ?_
        exact ih _ _ _ _ _ _ _ _ _ _ _ _ _ _ hf _ _ hs _ (lv_sub hl [4, 5, 2, 1, 0] rfl) hk
set_option maxRecDepth 100000 in
set_option maxHeartbeats 4000000 in
theorem c_X4_best {l : Launch} {G : Gx} {ad adt adb ade adm adn adk adp : Nat → Nat} {adr : Nat → Nat → Nat} {refusals tcells lcells m_there m_used m_hidden m_kind m_figure m_cargo m_load n_there n_used n_hidden n_kind n_figure n_cargo n_load k_there k_used k_hidden k_kind k_figure k_cargo k_load : List Int32} {isKept tlen llen m_ships m_inn m_coughs m_day n_ships n_inn n_coughs n_day k_ships k_inn k_coughs k_day held : Int32} {perm : Nat → Nat} {hist : Nat → Hs} {p0 : Int32} {out : List Int32 × List Int32 × List Int32 × List Int32 × List Int32 × List Int32 × List Int32 × List Int32 × Int32 × Int32 × Int32 × Int32 × Int32} (hf : X4_best refusals m_there m_used m_hidden m_kind m_figure m_cargo m_load n_there n_used n_hidden n_kind n_figure n_cargo n_load m_ships m_inn m_coughs m_day n_ships n_inn n_coughs n_day p0 = some out) : Ct l G yX4_best cX4_best 7 (some .int) 5 113 [.ref (ad 0), .int p0] (wT G ad adt adb ade adm adn adk adp adr refusals tcells lcells m_there m_used m_hidden m_kind m_figure m_cargo m_load n_there n_used n_hidden n_kind n_figure n_cargo n_load k_there k_used k_hidden k_kind k_figure k_cargo k_load isKept tlen llen m_ships m_inn m_coughs m_day n_ships n_inn n_coughs n_day k_ships k_inn k_coughs k_day held perm hist) (some (.int out.2.2.2.2.2.2.2.2.2.2.2.2)) (wT G ad adt adb ade adm adn adk adp adr out.1 tcells lcells out.2.1 out.2.2.1 out.2.2.2.1 out.2.2.2.2.1 out.2.2.2.2.2.1 out.2.2.2.2.2.2.1 out.2.2.2.2.2.2.2.1 n_there n_used n_hidden n_kind n_figure n_cargo n_load k_there k_used k_hidden k_kind k_figure k_cargo k_load isKept tlen llen out.2.2.2.2.2.2.2.2.1 out.2.2.2.2.2.2.2.2.2.1 out.2.2.2.2.2.2.2.2.2.2.1 out.2.2.2.2.2.2.2.2.2.2.2.1 n_ships n_inn n_coughs n_day k_ships k_inn k_coughs k_day held perm hist) := by
  refine Ct.intro RX4 rfl (plainFor_of_name (by decide)) (Nat.le_of_ble_eq_true rfl) rfl ?_
  intro p e s m args below meth c A C H locs hs ls hl
  obtain ⟨hx, hb, hml, hown, hts, hK, hret, hlk⟩ := id C
  have hl : lv_has ls 7 [(0, .ref (ad 0)), (1, .int p0)] := hl
  unfold X4_best at hf
  refine lv_iload_n hx hb (dk hX4_best_0 0 rfl) rfl (lv_at hl 1 rfl) ?_
  refine lv_iconst (v := (0 : Int32)) hx hb (dk hX4_best_0 1 rfl) (by decide) ?_
  refine lv_bipush (v := (60 : Int32)) hx hb (dk hX4_best_0 2 rfl) (by decide) ?_
  obtain ⟨u_1, e_2, hf⟩ := Option.bind_eq_some_iff.mp hf
  refine Ct.S (As := [.int p0, .int (0 : Int32), .int (60 : Int32)]) (rest := []) (st1 := [.int u_1]) (w1 := (wT G ad adt adb ade adm adn adk adp adr refusals tcells lcells m_there m_used m_hidden m_kind m_figure m_cargo m_load n_there n_used n_hidden n_kind n_figure n_cargo n_load k_there k_used k_hidden k_kind k_figure k_cargo k_load isKept tlen llen m_ships m_inn m_coughs m_day n_ships n_inn n_coughs n_day k_ships k_inn k_coughs k_day held perm hist)) C hs (c_X4_misfit e_2) tw_405 tw_305 tw_79 tw_306 nq_X4_misfit (by decide) rfl hl.1 rfl (Nat.le_of_ble_eq_true rfl) (dk hX4_best_0 3 rfl) ⟨Nat.zero_le _, Nat.zero_le _⟩ rfl (fun H locs hs => ?_)
  refine lv_istore_n (lv' := [(2, .int u_1), (0, .ref (ad 0)), (1, .int p0)]) hx hb (dk hX4_best_0 4 rfl) rfl hl (by decide) rfl (fun ls hl => ?_)
  refine lv_iload_n hx hb (dk hX4_best_0 5 rfl) rfl (lv_at hl 0 rfl) ?_
  refine lv_if_eq (tgt := 18) hx hb (dk hX4_best_0 6 rfl) (by decide) (fun hc => ?_) (fun hc => ?_)
  · replace hf := ip hf hc
    refine lv_bipush (v := (-9 : Int32)) hx hb (dk hX4_best_0 11 rfl) (by decide) ?_
    refine lv_istore_n (lv' := [(3, .int (-9 : Int32)), (2, .int u_1), (0, .ref (ad 0)), (1, .int p0)]) hx hb (dk hX4_best_0 12 rfl) rfl hl (by decide) rfl (fun ls hl => ?_)
    refine lv_aload_n hx hb (dk hX4_best_0 13 rfl) rfl (lv_at hl 2 rfl) ?_
    obtain ⟨u_3, e_4, hf⟩ := Option.bind_eq_some_iff.mp hf
    refine Ct.V (As := []) (rest := []) (st1 := [.ref (adm 0)]) (w1 := (wT G ad adt adb ade adm adn adk adp adr refusals tcells lcells u_3.1 u_3.2.1 u_3.2.2.1 u_3.2.2.2.1 u_3.2.2.2.2.1 u_3.2.2.2.2.2.1 u_3.2.2.2.2.2.2.1 n_there n_used n_hidden n_kind n_figure n_cargo n_load k_there k_used k_hidden k_kind k_figure k_cargo k_load isKept tlen llen u_3.2.2.2.2.2.2.2.1 u_3.2.2.2.2.2.2.2.2.1 u_3.2.2.2.2.2.2.2.2.2.1 u_3.2.2.2.2.2.2.2.2.2.2 n_ships n_inn n_coughs n_day k_ships k_inn k_coughs k_day held perm hist)) C hs (c_X4_fromNow e_4) tw_246 tw_248 tw_1 tw_79 tw_249 nq_X4_fromNow (by decide) 0 4 rfl rfl rfl rfl hl.1 rfl (Nat.le_of_ble_eq_true rfl) (dk hX4_best_0 14 rfl) ⟨Nat.zero_le _, Nat.zero_le _⟩ rfl (fun H locs hs => ?_)
    refine lv_iload_n hx hb (dk hX4_best_0 15 rfl) rfl (lv_at hl 3 rfl) ?_
    refine lv_iconst (v := (0 : Int32)) hx hb (dk hX4_best_0 16 rfl) (by decide) ?_
    obtain ⟨u_5, e_6, hf⟩ := Option.bind_eq_some_iff.mp hf
    refine Ct.V (As := [.int p0, .int (0 : Int32)]) (rest := []) (st1 := [.int u_5.2.2.2.2]) (w1 := (wT G ad adt adb ade adm adn adk adp adr refusals tcells lcells u_5.1 u_3.2.1 u_3.2.2.1 u_3.2.2.2.1 u_3.2.2.2.2.1 u_3.2.2.2.2.2.1 u_3.2.2.2.2.2.2.1 n_there n_used n_hidden n_kind n_figure n_cargo n_load k_there k_used k_hidden k_kind k_figure k_cargo k_load isKept tlen llen u_3.2.2.2.2.2.2.2.1 u_5.2.1 u_5.2.2.1 u_5.2.2.2.1 n_ships n_inn n_coughs n_day k_ships k_inn k_coughs k_day held perm hist)) C hs (c_X0_wantWithin__mind e_6) tw_528 tw_529 tw_530 tw_80 tw_531 nq_X0_wantWithin (by decide) 7 0 rfl rfl rfl rfl hl.1 rfl (Nat.le_of_ble_eq_true rfl) (dk hX4_best_0 17 rfl) ⟨Nat.zero_le _, Nat.zero_le _⟩ rfl (fun H locs hs => ?_)
    refine lv_istore (lv' := [(4, .int u_5.2.2.2.2), (3, .int (-9 : Int32)), (2, .int u_1), (0, .ref (ad 0)), (1, .int p0)]) hx hb (dk hX4_best_0 18 rfl) hl (by decide) rfl (fun ls hl => ?_)
    refine lv_iconst (v := (0 : Int32)) hx hb (dk hX4_best_0 19 rfl) (by decide) ?_
    refine lv_istore (lv' := [(5, .int (0 : Int32)), (4, .int u_5.2.2.2.2), (3, .int (-9 : Int32)), (2, .int u_1), (0, .ref (ad 0)), (1, .int p0)]) hx hb (dk hX4_best_0 20 rfl) hl (by decide) rfl (fun ls hl => ?_)
    refine l_X4_best_L35 C 1000 _ _ _ _ _ _ _ _ _ _ _ _ _ _ hf _ _ hs _ (lv_sub hl [4, 5, 2, 1, 0] rfl) (fun y3_11 m_there_12 m_used_13 m_hidden_14 m_kind_15 m_figure_16 m_cargo_17 m_load_18 m_ships_19 m_inn_20 m_coughs_21 m_day_22 hf H locs hs ls hl => ?_)
    refine lv_iload_n hx hb (dk hX4_best_1 3 rfl) rfl (lv_at hl 0 rfl) ?_
    cases hf
    exact ri C hs (dk hX4_best_1 4 rfl)
  · replace hf := in_ hf hc
    refine lv_aload_n hx hb (dk hX4_best_0 7 rfl) rfl (lv_at hl 1 rfl) ?_
    refine lv_iload_n hx hb (dk hX4_best_0 8 rfl) rfl (lv_at hl 0 rfl) ?_
    obtain ⟨u_23, e_24, hf⟩ := Option.bind_eq_some_iff.mp hf
    refine Ct.V (As := [.int u_1]) (rest := []) (st1 := [.int u_23.2]) (w1 := (wT G ad adt adb ade adm adn adk adp adr u_23.1 tcells lcells m_there m_used m_hidden m_kind m_figure m_cargo m_load n_there n_used n_hidden n_kind n_figure n_cargo n_load k_there k_used k_hidden k_kind k_figure k_cargo k_load isKept tlen llen m_ships m_inn m_coughs m_day n_ships n_inn n_coughs n_day k_ships k_inn k_coughs k_day held perm hist)) C hs (c_X4_refuse e_24) tw_226 tw_228 tw_0 tw_79 tw_229 nq_X4_refuse (by decide) 0 4 rfl rfl rfl rfl hl.1 rfl (Nat.le_of_ble_eq_true rfl) (dk hX4_best_0 9 rfl) ⟨Nat.zero_le _, Nat.zero_le _⟩ rfl (fun H locs hs => ?_)
    cases hf
    exact ri C hs (dk hX4_best_0 10 rfl)

def X4_tellsWhoCame_L2 (k : List Int32 → Int32 → Int32 → Int32 → Option (List Int32 × Int32 × Int32 × Int32 × Int32)) (tcells : List Int32) (m_used : List Int32) (m_hidden : List Int32) (m_kind : List Int32) (m_figure : List Int32) (m_cargo : List Int32) (m_load : List Int32) (tlen : Int32) (m_ships : Int32) : Nat → Int32 → List Int32 → Int32 → Int32 → Int32 → Option (List Int32 × Int32 × Int32 × Int32 × Int32)
  | 0, _, _, _, _, _ => none
  | n + 1, x2, m_there, m_inn, m_coughs, m_day =>
  (X1_length tlen).bind fun u_1 =>
  if u_1 ≤ x2 then
  k m_there m_inn m_coughs m_day
  else
  (J6_bitCount_0f7a4 m_inn).bind fun u_3 =>
  (X1_at tcells tlen x2).bind fun u_5 =>
  if u_3 = u_5 then
  (X0_passDay m_there m_used m_hidden m_kind m_figure m_cargo m_load m_ships m_inn m_coughs m_day (0 : Int32)).bind fun u_7 =>
  X4_tellsWhoCame_L2 k tcells m_used m_hidden m_kind m_figure m_cargo m_load tlen m_ships n (x2 + (1 : Int32)) u_7.1 u_7.2.1 u_7.2.2.1 u_7.2.2.2
  else
  some (m_there, m_inn, m_coughs, m_day, (0 : Int32))
def X4_tellsWhoCame (tcells : List Int32) (m_there : List Int32) (m_used : List Int32) (m_hidden : List Int32) (m_kind : List Int32) (m_figure : List Int32) (m_cargo : List Int32) (m_load : List Int32) (tlen : Int32) (m_ships : Int32) (m_inn : Int32) (m_coughs : Int32) (m_day : Int32) : Option (List Int32 × Int32 × Int32 × Int32 × Int32) :=
  X4_tellsWhoCame_L2 (fun m_there_9 m_inn_10 m_coughs_11 m_day_12 =>
  some (m_there_9, m_inn_10, m_coughs_11, m_day_12, (1 : Int32))) tcells m_used m_hidden m_kind m_figure m_cargo m_load tlen m_ships 1000 (0 : Int32) m_there m_inn m_coughs m_day
set_option maxRecDepth 100000 in
set_option maxHeartbeats 4000000 in
theorem l_X4_tellsWhoCame_L2 {l : Launch} {p : Program} {e : Env} {s : State} {m : MethodId} {args : Array Value} {below : List Frame} {meth : Method} {c : Code} {A : Nat → Prop} {G : Gx} {ad adt adb ade adm adn adk adp : Nat → Nat} {adr : Nat → Nat → Nat} {refusals tcells lcells m_used m_hidden m_kind m_figure m_cargo m_load n_there n_used n_hidden n_kind n_figure n_cargo n_load k_there k_used k_hidden k_kind k_figure k_cargo k_load : List Int32} {isKept tlen llen m_ships n_ships n_inn n_coughs n_day k_ships k_inn k_coughs k_day held : Int32} {perm : Nat → Nat} {hist : Nat → Hs} {k : List Int32 → Int32 → Int32 → Int32 → Option (List Int32 × Int32 × Int32 × Int32 × Int32)} {out : List Int32 × Int32 × Int32 × Int32 × Int32} (C : Cx p s m args meth c cX4_tellsWhoCame RX4 3 (some .boolean) G) : ∀ (n : Nat) (x2 : Int32) (m_there : List Int32) (m_inn : Int32) (m_coughs : Int32) (m_day : Int32), X4_tellsWhoCame_L2 k tcells m_used m_hidden m_kind m_figure m_cargo m_load tlen m_ships n x2 m_there m_inn m_coughs m_day = some out → ∀ (H : Heap) (locs : List Loc), St G A s.heap H locs (wT G ad adt adb ade adm adn adk adp adr refusals tcells lcells m_there m_used m_hidden m_kind m_figure m_cargo m_load n_there n_used n_hidden n_kind n_figure n_cargo n_load k_there k_used k_hidden k_kind k_figure k_cargo k_load isKept tlen llen m_ships m_inn m_coughs m_day n_ships n_inn n_coughs n_day k_ships k_inn k_coughs k_day held perm hist) → ∀ ls : Array Slot, lv_has ls 3 [(0, .ref (ad 0)), (1, .ref (adm 0)), (2, .int x2)] → (∀ (z_m_there : List Int32) (z_m_inn : Int32) (z_m_coughs : Int32) (z_m_day : Int32), k z_m_there z_m_inn z_m_coughs z_m_day = some out → ∀ (H : Heap) (locs : List Loc), St G A s.heap H locs (wT G ad adt adb ade adm adn adk adp adr refusals tcells lcells z_m_there m_used m_hidden m_kind m_figure m_cargo m_load n_there n_used n_hidden n_kind n_figure n_cargo n_load k_there k_used k_hidden k_kind k_figure k_cargo k_load isKept tlen llen m_ships z_m_inn z_m_coughs z_m_day n_ships n_inn n_coughs n_day k_ships k_inn k_coughs k_day held perm hist) → ∀ ls : Array Slot, lv_has ls 3 [] → W p l e (rmOf 4 89) s m args below meth c H locs 0 0 (MQ below (Qof G A (some (.int out.2.2.2.2)) (wT G ad adt adb ade adm adn adk adp adr refusals tcells lcells out.1 m_used m_hidden m_kind m_figure m_cargo m_load n_there n_used n_hidden n_kind n_figure n_cargo n_load k_there k_used k_hidden k_kind k_figure k_cargo k_load isKept tlen llen m_ships out.2.1 out.2.2.1 out.2.2.2.1 n_ships n_inn n_coughs n_day k_ships k_inn k_coughs k_day held perm hist)) args s 0 0 A) (F0 m 44 ls [])) → W p l e (rmOf 4 89) s m args below meth c H locs 0 0 (MQ below (Qof G A (some (.int out.2.2.2.2)) (wT G ad adt adb ade adm adn adk adp adr refusals tcells lcells out.1 m_used m_hidden m_kind m_figure m_cargo m_load n_there n_used n_hidden n_kind n_figure n_cargo n_load k_there k_used k_hidden k_kind k_figure k_cargo k_load isKept tlen llen m_ships out.2.1 out.2.2.1 out.2.2.2.1 n_ships n_inn n_coughs n_day k_ships k_inn k_coughs k_day held perm hist)) args s 0 0 A) (F0 m 2 ls []) := by
  obtain ⟨hx, hb, hml, hown, hts, hK, hret, hlk⟩ := id C
  intro n
  induction n with
  | zero => intro x2 m_there m_inn m_coughs m_day hf; cases hf
  | succ n ih =>
    intro x2 m_there m_inn m_coughs m_day hf H locs hs ls hl hk
    rw [X4_tellsWhoCame_L2] at hf
    refine lv_iload_n hx hb (dk hX4_tellsWhoCame_0 2 rfl) rfl (lv_at hl 2 rfl) ?_
    refine lv_aload_n hx hb (dk hX4_tellsWhoCame_0 3 rfl) rfl (lv_at hl 0 rfl) ?_
    refine rg ui4 rfl C hs 0 rfl 5 (by decide) tw_202 rfl rfl (dk hX4_tellsWhoCame_0 4 rfl) ?_
    obtain ⟨u_1, e_2, hf⟩ := Option.bind_eq_some_iff.mp hf
    refine Ct.V (As := []) (rest := [.int x2]) (st1 := [.int u_1, .int x2]) (w1 := (wT G ad adt adb ade adm adn adk adp adr refusals tcells lcells m_there m_used m_hidden m_kind m_figure m_cargo m_load n_there n_used n_hidden n_kind n_figure n_cargo n_load k_there k_used k_hidden k_kind k_figure k_cargo k_load isKept tlen llen m_ships m_inn m_coughs m_day n_ships n_inn n_coughs n_day k_ships k_inn k_coughs k_day held perm hist)) C hs (c_X1_length__told e_2) tw_238 tw_239 tw_240 tw_83 tw_241 nq_X1_length (by decide) 2 1 rfl rfl rfl rfl hl.1 rfl (Nat.le_of_ble_eq_true rfl) (dk hX4_tellsWhoCame_0 5 rfl) ⟨Nat.zero_le _, Nat.zero_le _⟩ rfl (fun H locs hs => ?_)
    refine lv_icmp_ge (tgt := 44) hx hb (dk hX4_tellsWhoCame_0 6 rfl) (by decide) (fun hc => ?_) (fun hc => ?_)
    · replace hf := ip hf hc
      exact hk _ _ _ _ hf _ _ hs _ (lv_sub hl [] rfl)
    · replace hf := in_ hf hc
      refine lv_aload_n hx hb (dk hX4_tellsWhoCame_0 7 rfl) rfl (lv_at hl 1 rfl) ?_
      refine rg ui0 rfl C hs 7 rfl 8 (by decide) tw_121 rfl rfl (dk hX4_tellsWhoCame_0 8 rfl) ?_
      obtain ⟨u_3, e_4, hf⟩ := Option.bind_eq_some_iff.mp hf
      refine Ct.S (As := [.int m_inn]) (rest := []) (st1 := [.int u_3]) (w1 := (wT G ad adt adb ade adm adn adk adp adr refusals tcells lcells m_there m_used m_hidden m_kind m_figure m_cargo m_load n_there n_used n_hidden n_kind n_figure n_cargo n_load k_there k_used k_hidden k_kind k_figure k_cargo k_load isKept tlen llen m_ships m_inn m_coughs m_day n_ships n_inn n_coughs n_day k_ships k_inn k_coughs k_day held perm hist)) C hs (c_J6_bitCount_0f7a4 e_4) tw_445 tw_446 tw_86 tw_447 nq_J6_bitCount_0f7a4 (by decide) rfl hl.1 rfl (Nat.le_of_ble_eq_true rfl) (dk hX4_tellsWhoCame_0 9 rfl) ⟨Nat.zero_le _, Nat.zero_le _⟩ rfl (fun H locs hs => ?_)
      refine lv_aload_n hx hb (dk hX4_tellsWhoCame_0 10 rfl) rfl (lv_at hl 0 rfl) ?_
      refine rg ui4 rfl C hs 0 rfl 5 (by decide) tw_202 rfl rfl (dk hX4_tellsWhoCame_0 11 rfl) ?_
      refine lv_iload_n hx hb (dk hX4_tellsWhoCame_0 12 rfl) rfl (lv_at hl 2 rfl) ?_
      obtain ⟨u_5, e_6, hf⟩ := Option.bind_eq_some_iff.mp hf
      refine Ct.V (As := [.int x2]) (rest := [.int u_3]) (st1 := [.int u_5, .int u_3]) (w1 := (wT G ad adt adb ade adm adn adk adp adr refusals tcells lcells m_there m_used m_hidden m_kind m_figure m_cargo m_load n_there n_used n_hidden n_kind n_figure n_cargo n_load k_there k_used k_hidden k_kind k_figure k_cargo k_load isKept tlen llen m_ships m_inn m_coughs m_day n_ships n_inn n_coughs n_day k_ships k_inn k_coughs k_day held perm hist)) C hs (c_X1_at__told e_6) tw_561 tw_268 tw_269 tw_83 tw_270 nq_X1_at (by decide) 2 1 rfl rfl rfl rfl hl.1 rfl (Nat.le_of_ble_eq_true rfl) (dk hX4_tellsWhoCame_0 13 rfl) ⟨Nat.zero_le _, Nat.zero_le _⟩ rfl (fun H locs hs => ?_)
      refine lv_icmp_eq (tgt := 33) hx hb (dk hX4_tellsWhoCame_0 14 rfl) (by decide) (fun hc => ?_) (fun hc => ?_)
      · replace hf := ip hf hc
        refine lv_aload_n hx hb (dk hX4_tellsWhoCame_0 17 rfl) rfl (lv_at hl 1 rfl) ?_
        refine lv_iconst (v := (0 : Int32)) hx hb (dk hX4_tellsWhoCame_0 18 rfl) (by decide) ?_
        obtain ⟨u_7, e_8, hf⟩ := Option.bind_eq_some_iff.mp hf
        refine Ct.V (As := [.int (0 : Int32)]) (rest := []) (st1 := []) (w1 := (wT G ad adt adb ade adm adn adk adp adr refusals tcells lcells u_7.1 m_used m_hidden m_kind m_figure m_cargo m_load n_there n_used n_hidden n_kind n_figure n_cargo n_load k_there k_used k_hidden k_kind k_figure k_cargo k_load isKept tlen llen m_ships u_7.2.1 u_7.2.2.1 u_7.2.2.2 n_ships n_inn n_coughs n_day k_ships k_inn k_coughs k_day held perm hist)) C hs (c_X0_passDay__mind e_8) tw_479 tw_329 tw_330 tw_80 tw_331 nq_X0_passDay (by decide) 7 0 rfl rfl rfl rfl hl.1 rfl (Nat.le_of_ble_eq_true rfl) (dk hX4_tellsWhoCame_0 19 rfl) ⟨Nat.zero_le _, Nat.zero_le _⟩ rfl (fun H locs hs => ?_)
        refine lv_iinc (v := (x2 + (1 : Int32))) (lv' := [(2, .int (x2 + (1 : Int32))), (0, .ref (ad 0)), (1, .ref (adm 0))]) hx hb (dk hX4_tellsWhoCame_0 20 rfl) hl (k := 2) rfl (by first | rfl | decide) (by decide) rfl (fun ls hl => ?_)
        refine lv_goto (tgt := 2) hx hb (dk hX4_tellsWhoCame_0 21 rfl) (by decide) ?_
        exact ih _ _ _ _ _ hf _ _ hs _ (lv_sub hl [1, 2, 0] rfl) hk
      · replace hf := in_ hf hc
        refine lv_iconst (v := (0 : Int32)) hx hb (dk hX4_tellsWhoCame_0 15 rfl) (by decide) ?_
        cases hf
        exact rz (x := (0 : Int32)) rfl C hs (dk hX4_tellsWhoCame_0 16 rfl)
set_option maxRecDepth 100000 in
set_option maxHeartbeats 4000000 in
theorem c_X4_tellsWhoCame {l : Launch} {G : Gx} {ad adt adb ade adm adn adk adp : Nat → Nat} {adr : Nat → Nat → Nat} {refusals tcells lcells m_there m_used m_hidden m_kind m_figure m_cargo m_load n_there n_used n_hidden n_kind n_figure n_cargo n_load k_there k_used k_hidden k_kind k_figure k_cargo k_load : List Int32} {isKept tlen llen m_ships m_inn m_coughs m_day n_ships n_inn n_coughs n_day k_ships k_inn k_coughs k_day held : Int32} {perm : Nat → Nat} {hist : Nat → Hs}  {out : List Int32 × Int32 × Int32 × Int32 × Int32} (hf : X4_tellsWhoCame tcells m_there m_used m_hidden m_kind m_figure m_cargo m_load tlen m_ships m_inn m_coughs m_day = some out) : Ct l G yX4_tellsWhoCame cX4_tellsWhoCame 3 (some .boolean) 4 89 [.ref (ad 0), .ref (adm 0)] (wT G ad adt adb ade adm adn adk adp adr refusals tcells lcells m_there m_used m_hidden m_kind m_figure m_cargo m_load n_there n_used n_hidden n_kind n_figure n_cargo n_load k_there k_used k_hidden k_kind k_figure k_cargo k_load isKept tlen llen m_ships m_inn m_coughs m_day n_ships n_inn n_coughs n_day k_ships k_inn k_coughs k_day held perm hist) (some (.int out.2.2.2.2)) (wT G ad adt adb ade adm adn adk adp adr refusals tcells lcells out.1 m_used m_hidden m_kind m_figure m_cargo m_load n_there n_used n_hidden n_kind n_figure n_cargo n_load k_there k_used k_hidden k_kind k_figure k_cargo k_load isKept tlen llen m_ships out.2.1 out.2.2.1 out.2.2.2.1 n_ships n_inn n_coughs n_day k_ships k_inn k_coughs k_day held perm hist) := by
  refine Ct.intro RX4 rfl (plainFor_of_name (by decide)) (Nat.le_of_ble_eq_true rfl) rfl ?_
  intro p e s m args below meth c A C H locs hs ls hl
  obtain ⟨hx, hb, hml, hown, hts, hK, hret, hlk⟩ := id C
  have hl : lv_has ls 3 [(0, .ref (ad 0)), (1, .ref (adm 0))] := hl
  unfold X4_tellsWhoCame at hf
  refine lv_iconst (v := (0 : Int32)) hx hb (dk hX4_tellsWhoCame_0 0 rfl) (by decide) ?_
  refine lv_istore_n (lv' := [(2, .int (0 : Int32)), (0, .ref (ad 0)), (1, .ref (adm 0))]) hx hb (dk hX4_tellsWhoCame_0 1 rfl) rfl hl (by decide) rfl (fun ls hl => ?_)
  refine l_X4_tellsWhoCame_L2 C 1000 _ _ _ _ _ hf _ _ hs _ (lv_sub hl [1, 2, 0] rfl) (fun m_there_9 m_inn_10 m_coughs_11 m_day_12 hf H locs hs ls hl => ?_)
  refine lv_iconst (v := (1 : Int32)) hx hb (dk hX4_tellsWhoCame_0 22 rfl) (by decide) ?_
  cases hf
  exact rz (x := (1 : Int32)) rfl C hs (dk hX4_tellsWhoCame_0 23 rfl)

def X4_whichTown_L42 (k : Int32 → Int32 → Int32 → List Int32 → List Int32 → List Int32 → List Int32 → List Int32 → List Int32 → List Int32 → Int32 → Int32 → Int32 → Int32 → Option (List Int32 × List Int32 × List Int32 × List Int32 × List Int32 × List Int32 × List Int32 × List Int32 × Int32 × Int32 × Int32 × Int32 × Int32)) (tcells : List Int32) (n_there : List Int32) (n_used : List Int32) (n_hidden : List Int32) (n_kind : List Int32) (n_figure : List Int32) (n_cargo : List Int32) (n_load : List Int32) (tlen : Int32) (n_ships : Int32) (n_inn : Int32) (n_coughs : Int32) (n_day : Int32) (x1 : Int32) : Nat → Int32 → Int32 → Int32 → Int32 → List Int32 → List Int32 → List Int32 → List Int32 → List Int32 → List Int32 → List Int32 → Int32 → Int32 → Int32 → Int32 → Option (List Int32 × List Int32 × List Int32 × List Int32 × List Int32 × List Int32 × List Int32 × List Int32 × Int32 × Int32 × Int32 × Int32 × Int32)
  | 0, _, _, _, _, _, _, _, _, _, _, _, _, _, _, _ => none
  | n + 1, x3, x4, x5, x6, m_there, m_used, m_hidden, m_kind, m_figure, m_cargo, m_load, m_ships, m_inn, m_coughs, m_day =>
  if (99 : Int32) < x6 then
  k x3 x4 x5 m_there m_used m_hidden m_kind m_figure m_cargo m_load m_ships m_inn m_coughs m_day
  else
  (X4_fromNow m_there m_used m_hidden m_kind m_figure m_cargo m_load n_there n_used n_hidden n_kind n_figure n_cargo n_load m_ships m_inn m_coughs m_day n_ships n_inn n_coughs n_day).bind fun u_5 =>
  (wr u_5.1 x1 x6).bind fun m_there_7 =>
  (X4_tellsWhoCame tcells m_there_7 u_5.2.1 u_5.2.2.1 u_5.2.2.2.1 u_5.2.2.2.2.1 u_5.2.2.2.2.2.1 u_5.2.2.2.2.2.2.1 tlen u_5.2.2.2.2.2.2.2.1 u_5.2.2.2.2.2.2.2.2.1 u_5.2.2.2.2.2.2.2.2.2.1 u_5.2.2.2.2.2.2.2.2.2.2).bind fun u_9 =>
  if u_9.2.2.2.2 = (0 : Int32) then
  X4_whichTown_L42 k tcells n_there n_used n_hidden n_kind n_figure n_cargo n_load tlen n_ships n_inn n_coughs n_day x1 n x3 x4 x5 (x6 + (1 : Int32)) u_9.1 u_5.2.1 u_5.2.2.1 u_5.2.2.2.1 u_5.2.2.2.2.1 u_5.2.2.2.2.2.1 u_5.2.2.2.2.2.2.1 u_5.2.2.2.2.2.2.2.1 u_9.2.1 u_9.2.2.1 u_9.2.2.2.1
  else
  if x4 = (-9 : Int32) then
  X4_whichTown_L42 k tcells n_there n_used n_hidden n_kind n_figure n_cargo n_load tlen n_ships n_inn n_coughs n_day x1 n (x3 + (1 : Int32)) x6 x6 (x6 + (1 : Int32)) u_9.1 u_5.2.1 u_5.2.2.1 u_5.2.2.2.1 u_5.2.2.2.2.1 u_5.2.2.2.2.2.1 u_5.2.2.2.2.2.2.1 u_5.2.2.2.2.2.2.2.1 u_9.2.1 u_9.2.2.1 u_9.2.2.2.1
  else
  X4_whichTown_L42 k tcells n_there n_used n_hidden n_kind n_figure n_cargo n_load tlen n_ships n_inn n_coughs n_day x1 n (x3 + (1 : Int32)) x4 x6 (x6 + (1 : Int32)) u_9.1 u_5.2.1 u_5.2.2.1 u_5.2.2.2.1 u_5.2.2.2.2.1 u_5.2.2.2.2.2.1 u_5.2.2.2.2.2.2.1 u_5.2.2.2.2.2.2.2.1 u_9.2.1 u_9.2.2.1 u_9.2.2.2.1
def X4_whichTown (refusals : List Int32) (tcells : List Int32) (m_there : List Int32) (m_used : List Int32) (m_hidden : List Int32) (m_kind : List Int32) (m_figure : List Int32) (m_cargo : List Int32) (m_load : List Int32) (n_there : List Int32) (n_used : List Int32) (n_hidden : List Int32) (n_kind : List Int32) (n_figure : List Int32) (n_cargo : List Int32) (n_load : List Int32) (tlen : Int32) (m_ships : Int32) (m_inn : Int32) (m_coughs : Int32) (m_day : Int32) (n_ships : Int32) (n_inn : Int32) (n_coughs : Int32) (n_day : Int32) (p0 : Int32) (p1 : Int32) : Option (List Int32 × List Int32 × List Int32 × List Int32 × List Int32 × List Int32 × List Int32 × List Int32 × Int32 × Int32 × Int32 × Int32 × Int32) :=
  (X4_isGood p0).bind fun u_1 =>
  if u_1 = (0 : Int32) then
  (X4_refuse refusals (-1 : Int32)).bind fun u_27 =>
  some (u_27.1, m_there, m_used, m_hidden, m_kind, m_figure, m_cargo, m_load, m_ships, m_inn, m_coughs, m_day, u_27.2)
  else
  if p1 < (0 : Int32) then
  (X4_refuse refusals (-2 : Int32)).bind fun u_3 =>
  some (u_3.1, m_there, m_used, m_hidden, m_kind, m_figure, m_cargo, m_load, m_ships, m_inn, m_coughs, m_day, u_3.2)
  else
  if p1 ≤ (2 : Int32) then
  X4_whichTown_L42 (fun y3_11 y4_12 y5_13 m_there_14 m_used_15 m_hidden_16 m_kind_17 m_figure_18 m_cargo_19 m_load_20 m_ships_21 m_inn_22 m_coughs_23 m_day_24 =>
  if p1 = (0 : Int32) then
  some (refusals, m_there_14, m_used_15, m_hidden_16, m_kind_17, m_figure_18, m_cargo_19, m_load_20, m_ships_21, m_inn_22, m_coughs_23, m_day_24, y3_11)
  else
  if p1 = (1 : Int32) then
  some (refusals, m_there_14, m_used_15, m_hidden_16, m_kind_17, m_figure_18, m_cargo_19, m_load_20, m_ships_21, m_inn_22, m_coughs_23, m_day_24, y4_12)
  else
  some (refusals, m_there_14, m_used_15, m_hidden_16, m_kind_17, m_figure_18, m_cargo_19, m_load_20, m_ships_21, m_inn_22, m_coughs_23, m_day_24, y5_13)) tcells n_there n_used n_hidden n_kind n_figure n_cargo n_load tlen n_ships n_inn n_coughs n_day p0 1000 (0 : Int32) (-9 : Int32) (-9 : Int32) (0 : Int32) m_there m_used m_hidden m_kind m_figure m_cargo m_load m_ships m_inn m_coughs m_day
  else
  (X4_refuse refusals (-2 : Int32)).bind fun u_25 =>
  some (u_25.1, m_there, m_used, m_hidden, m_kind, m_figure, m_cargo, m_load, m_ships, m_inn, m_coughs, m_day, u_25.2)
set_option maxRecDepth 100000 in
set_option maxHeartbeats 4000000 in
theorem l_X4_whichTown_L42 {l : Launch} {p : Program} {e : Env} {s : State} {m : MethodId} {args : Array Value} {below : List Frame} {meth : Method} {c : Code} {A : Nat → Prop} {G : Gx} {ad adt adb ade adm adn adk adp : Nat → Nat} {adr : Nat → Nat → Nat} {refusals tcells lcells n_there n_used n_hidden n_kind n_figure n_cargo n_load k_there k_used k_hidden k_kind k_figure k_cargo k_load : List Int32} {isKept tlen llen n_ships n_inn n_coughs n_day k_ships k_inn k_coughs k_day held : Int32} {perm : Nat → Nat} {hist : Nat → Hs} {x1 : Int32} {x2 : Int32} {k : Int32 → Int32 → Int32 → List Int32 → List Int32 → List Int32 → List Int32 → List Int32 → List Int32 → List Int32 → Int32 → Int32 → Int32 → Int32 → Option (List Int32 × List Int32 × List Int32 × List Int32 × List Int32 × List Int32 × List Int32 × List Int32 × Int32 × Int32 × Int32 × Int32 × Int32)} {out : List Int32 × List Int32 × List Int32 × List Int32 × List Int32 × List Int32 × List Int32 × List Int32 × Int32 × Int32 × Int32 × Int32 × Int32} (C : Cx p s m args meth c cX4_whichTown RX4 8 (some .int) G) : ∀ (n : Nat) (x3 : Int32) (x4 : Int32) (x5 : Int32) (x6 : Int32) (m_there : List Int32) (m_used : List Int32) (m_hidden : List Int32) (m_kind : List Int32) (m_figure : List Int32) (m_cargo : List Int32) (m_load : List Int32) (m_ships : Int32) (m_inn : Int32) (m_coughs : Int32) (m_day : Int32), X4_whichTown_L42 k tcells n_there n_used n_hidden n_kind n_figure n_cargo n_load tlen n_ships n_inn n_coughs n_day x1 n x3 x4 x5 x6 m_there m_used m_hidden m_kind m_figure m_cargo m_load m_ships m_inn m_coughs m_day = some out → ∀ (H : Heap) (locs : List Loc), St G A s.heap H locs (wT G ad adt adb ade adm adn adk adp adr refusals tcells lcells m_there m_used m_hidden m_kind m_figure m_cargo m_load n_there n_used n_hidden n_kind n_figure n_cargo n_load k_there k_used k_hidden k_kind k_figure k_cargo k_load isKept tlen llen m_ships m_inn m_coughs m_day n_ships n_inn n_coughs n_day k_ships k_inn k_coughs k_day held perm hist) → ∀ ls : Array Slot, lv_has ls 8 [(0, .ref (ad 0)), (1, .int x1), (2, .int x2), (3, .int x3), (4, .int x4), (5, .int x5), (6, .int x6)] → (∀ (y3 : Int32) (y4 : Int32) (y5 : Int32) (z_m_there : List Int32) (z_m_used : List Int32) (z_m_hidden : List Int32) (z_m_kind : List Int32) (z_m_figure : List Int32) (z_m_cargo : List Int32) (z_m_load : List Int32) (z_m_ships : Int32) (z_m_inn : Int32) (z_m_coughs : Int32) (z_m_day : Int32), k y3 y4 y5 z_m_there z_m_used z_m_hidden z_m_kind z_m_figure z_m_cargo z_m_load z_m_ships z_m_inn z_m_coughs z_m_day = some out → ∀ (H : Heap) (locs : List Loc), St G A s.heap H locs (wT G ad adt adb ade adm adn adk adp adr refusals tcells lcells z_m_there z_m_used z_m_hidden z_m_kind z_m_figure z_m_cargo z_m_load n_there n_used n_hidden n_kind n_figure n_cargo n_load k_there k_used k_hidden k_kind k_figure k_cargo k_load isKept tlen llen z_m_ships z_m_inn z_m_coughs z_m_day n_ships n_inn n_coughs n_day k_ships k_inn k_coughs k_day held perm hist) → ∀ ls : Array Slot, lv_has ls 8 [(2, .int x2), (3, .int y3), (4, .int y4), (5, .int y5)] → W p l e (rmOf 5 111) s m args below meth c H locs 0 0 (MQ below (Qof G A (some (.int out.2.2.2.2.2.2.2.2.2.2.2.2)) (wT G ad adt adb ade adm adn adk adp adr out.1 tcells lcells out.2.1 out.2.2.1 out.2.2.2.1 out.2.2.2.2.1 out.2.2.2.2.2.1 out.2.2.2.2.2.2.1 out.2.2.2.2.2.2.2.1 n_there n_used n_hidden n_kind n_figure n_cargo n_load k_there k_used k_hidden k_kind k_figure k_cargo k_load isKept tlen llen out.2.2.2.2.2.2.2.2.1 out.2.2.2.2.2.2.2.2.2.1 out.2.2.2.2.2.2.2.2.2.2.1 out.2.2.2.2.2.2.2.2.2.2.2.1 n_ships n_inn n_coughs n_day k_ships k_inn k_coughs k_day held perm hist)) args s 0 0 A) (F0 m 102 ls [])) → W p l e (rmOf 5 111) s m args below meth c H locs 0 0 (MQ below (Qof G A (some (.int out.2.2.2.2.2.2.2.2.2.2.2.2)) (wT G ad adt adb ade adm adn adk adp adr out.1 tcells lcells out.2.1 out.2.2.1 out.2.2.2.1 out.2.2.2.2.1 out.2.2.2.2.2.1 out.2.2.2.2.2.2.1 out.2.2.2.2.2.2.2.1 n_there n_used n_hidden n_kind n_figure n_cargo n_load k_there k_used k_hidden k_kind k_figure k_cargo k_load isKept tlen llen out.2.2.2.2.2.2.2.2.1 out.2.2.2.2.2.2.2.2.2.1 out.2.2.2.2.2.2.2.2.2.2.1 out.2.2.2.2.2.2.2.2.2.2.2.1 n_ships n_inn n_coughs n_day k_ships k_inn k_coughs k_day held perm hist)) args s 0 0 A) (F0 m 42 ls []) := by
  obtain ⟨hx, hb, hml, hown, hts, hK, hret, hlk⟩ := id C
  intro n
  induction n with
  | zero => intro x3 x4 x5 x6 m_there m_used m_hidden m_kind m_figure m_cargo m_load m_ships m_inn m_coughs m_day hf; cases hf
  | succ n ih =>
    intro x3 x4 x5 x6 m_there m_used m_hidden m_kind m_figure m_cargo m_load m_ships m_inn m_coughs m_day hf H locs hs ls hl hk
    rw [X4_whichTown_L42] at hf
    refine lv_iload hx hb (dk hX4_whichTown_0 24 rfl) (lv_at hl 6 rfl) ?_
    refine lv_bipush (v := (99 : Int32)) hx hb (dk hX4_whichTown_0 25 rfl) (by decide) ?_
    refine lv_icmp_gt (tgt := 102) hx hb (dk hX4_whichTown_0 26 rfl) (by decide) (fun hc => ?_) (fun hc => ?_)
    · replace hf := ip hf hc
      exact hk _ _ _ _ _ _ _ _ _ _ _ _ _ _ hf _ _ hs _ (lv_sub hl [2, 3, 4, 5] rfl)
    · replace hf := in_ hf hc
      refine lv_aload_n hx hb (dk hX4_whichTown_0 27 rfl) rfl (lv_at hl 0 rfl) ?_
      obtain ⟨u_5, e_6, hf⟩ := Option.bind_eq_some_iff.mp hf
      refine Ct.V (As := []) (rest := []) (st1 := [.ref (adm 0)]) (w1 := (wT G ad adt adb ade adm adn adk adp adr refusals tcells lcells u_5.1 u_5.2.1 u_5.2.2.1 u_5.2.2.2.1 u_5.2.2.2.2.1 u_5.2.2.2.2.2.1 u_5.2.2.2.2.2.2.1 n_there n_used n_hidden n_kind n_figure n_cargo n_load k_there k_used k_hidden k_kind k_figure k_cargo k_load isKept tlen llen u_5.2.2.2.2.2.2.2.1 u_5.2.2.2.2.2.2.2.2.1 u_5.2.2.2.2.2.2.2.2.2.1 u_5.2.2.2.2.2.2.2.2.2.2 n_ships n_inn n_coughs n_day k_ships k_inn k_coughs k_day held perm hist)) C hs (c_X4_fromNow e_6) tw_246 tw_248 tw_1 tw_79 tw_249 nq_X4_fromNow (by decide) 0 4 rfl rfl rfl rfl hl.1 rfl (Nat.le_of_ble_eq_true rfl) (dk hX4_whichTown_0 28 rfl) ⟨Nat.zero_le _, Nat.zero_le _⟩ rfl (fun H locs hs => ?_)
      refine lv_astore (lv' := [(7, .ref (adm 0)), (0, .ref (ad 0)), (1, .int x1), (2, .int x2), (3, .int x3), (4, .int x4), (5, .int x5), (6, .int x6)]) hx hb (dk hX4_whichTown_0 29 rfl) hl (by decide) rfl (fun ls hl => ?_)
      refine lv_aload hx hb (dk hX4_whichTown_0 30 rfl) (lv_at hl 0 rfl) ?_
      refine rg ui0 rfl C hs 7 rfl 0 (by decide) tw_102 rfl rfl (dk hX4_whichTown_0 31 rfl) ?_
      refine lv_iload_n hx hb (dk hX4_whichTown_0 32 rfl) rfl (lv_at hl 2 rfl) ?_
      refine lv_iload hx hb (dk hX4_whichTown_0 33 rfl) (lv_at hl 7 rfl) ?_
      obtain ⟨m_there_7, e_8, hf⟩ := Option.bind_eq_some_iff.mp hf
      refine rist (w1 := (wT G ad adt adb ade adm adn adk adp adr refusals tcells lcells m_there_7 u_5.2.1 u_5.2.2.1 u_5.2.2.2.1 u_5.2.2.2.2.1 u_5.2.2.2.2.2.1 u_5.2.2.2.2.2.2.1 n_there n_used n_hidden n_kind n_figure n_cargo n_load k_there k_used k_hidden k_kind k_figure k_cargo k_load isKept tlen llen u_5.2.2.2.2.2.2.2.1 u_5.2.2.2.2.2.2.2.2.1 u_5.2.2.2.2.2.2.2.2.2.1 u_5.2.2.2.2.2.2.2.2.2.2 n_ships n_inn n_coughs n_day k_ships k_inn k_coughs k_day held perm hist)) C hs 8 rfl e_8 rfl (dk hX4_whichTown_0 34 rfl) (fun H locs hs => ?_)
      refine lv_aload_n hx hb (dk hX4_whichTown_0 35 rfl) rfl (lv_at hl 1 rfl) ?_
      refine lv_aload hx hb (dk hX4_whichTown_0 36 rfl) (lv_at hl 0 rfl) ?_
      obtain ⟨u_9, e_10, hf⟩ := Option.bind_eq_some_iff.mp hf
      refine Ct.V (As := [.ref (adm 0)]) (rest := []) (st1 := [.int u_9.2.2.2.2]) (w1 := (wT G ad adt adb ade adm adn adk adp adr refusals tcells lcells u_9.1 u_5.2.1 u_5.2.2.1 u_5.2.2.2.1 u_5.2.2.2.2.1 u_5.2.2.2.2.2.1 u_5.2.2.2.2.2.2.1 n_there n_used n_hidden n_kind n_figure n_cargo n_load k_there k_used k_hidden k_kind k_figure k_cargo k_load isKept tlen llen u_5.2.2.2.2.2.2.2.1 u_9.2.1 u_9.2.2.1 u_9.2.2.2.1 n_ships n_inn n_coughs n_day k_ships k_inn k_coughs k_day held perm hist)) C hs (c_X4_tellsWhoCame e_10) tw_557 tw_559 tw_16 tw_79 tw_560 nq_X4_tellsWhoCame (by decide) 0 4 rfl rfl rfl rfl hl.1 rfl (Nat.le_of_ble_eq_true rfl) (dk hX4_whichTown_0 37 rfl) ⟨Nat.zero_le _, Nat.zero_le _⟩ rfl (fun H locs hs => ?_)
      refine lv_if_eq (tgt := 96) hx hb (dk hX4_whichTown_0 38 rfl) (by decide) (fun hc => ?_) (fun hc => ?_)
      · replace hf := ip hf hc
        refine lv_iinc (v := (x6 + (1 : Int32))) (lv' := [(6, .int (x6 + (1 : Int32))), (7, .ref (adm 0)), (0, .ref (ad 0)), (1, .int x1), (2, .int x2), (3, .int x3), (4, .int x4), (5, .int x5)]) hx hb (dk hX4_whichTown_1 9 rfl) hl (k := 7) rfl (by first | rfl | decide) (by decide) rfl (fun ls hl => ?_)
        refine lv_goto (tgt := 42) hx hb (dk hX4_whichTown_1 10 rfl) (by decide) ?_
        exact ih _ _ _ _ _ _ _ _ _ _ _ _ _ _ _ hf _ _ hs _ (lv_sub hl [2, 3, 4, 5, 6, 7, 0] rfl) hk
      · replace hf := in_ hf hc
        refine lv_iinc (v := (x3 + (1 : Int32))) (lv' := [(3, .int (x3 + (1 : Int32))), (7, .ref (adm 0)), (0, .ref (ad 0)), (1, .int x1), (2, .int x2), (4, .int x4), (5, .int x5), (6, .int x6)]) hx hb (dk hX4_whichTown_0 39 rfl) hl (k := 4) rfl (by first | rfl | decide) (by decide) rfl (fun ls hl => ?_)
        refine lv_iload hx hb (dk hX4_whichTown_1 0 rfl) (lv_at hl 5 rfl) ?_
        refine lv_bipush (v := (-9 : Int32)) hx hb (dk hX4_whichTown_1 1 rfl) (by decide) ?_
        refine lv_icmp_ne (tgt := 88) hx hb (dk hX4_whichTown_1 2 rfl) (by decide) (fun hc => ?_) (fun hc => ?_)
        · replace hf := in_ hf hc
          refine lv_iload hx hb (dk hX4_whichTown_1 5 rfl) (lv_at hl 5 rfl) ?_
          refine lv_istore (lv' := [(4, .int x4), (3, .int (x3 + (1 : Int32))), (7, .ref (adm 0)), (0, .ref (ad 0)), (1, .int x1), (2, .int x2), (5, .int x5), (6, .int x6)]) hx hb (dk hX4_whichTown_1 6 rfl) hl (by decide) rfl (fun ls hl => ?_)
          refine lv_iload hx hb (dk hX4_whichTown_1 7 rfl) (lv_at hl 7 rfl) ?_
          refine lv_istore (lv' := [(5, .int x6), (4, .int x4), (3, .int (x3 + (1 : Int32))), (7, .ref (adm 0)), (0, .ref (ad 0)), (1, .int x1), (2, .int x2), (6, .int x6)]) hx hb (dk hX4_whichTown_1 8 rfl) hl (by decide) rfl (fun ls hl => ?_)
          refine lv_iinc (v := (x6 + (1 : Int32))) (lv' := [(6, .int (x6 + (1 : Int32))), (5, .int x6), (4, .int x4), (3, .int (x3 + (1 : Int32))), (7, .ref (adm 0)), (0, .ref (ad 0)), (1, .int x1), (2, .int x2)]) hx hb (dk hX4_whichTown_1 9 rfl) hl (k := 7) rfl (by first | rfl | decide) (by decide) rfl (fun ls hl => ?_)
          refine lv_goto (tgt := 42) hx hb (dk hX4_whichTown_1 10 rfl) (by decide) ?_
          exact ih _ _ _ _ _ _ _ _ _ _ _ _ _ _ _ hf _ _ hs _ (lv_sub hl [5, 6, 7, 3, 2, 1, 0] rfl) hk
        · replace hf := ip hf hc
          refine lv_iload hx hb (dk hX4_whichTown_1 3 rfl) (lv_at hl 7 rfl) ?_
          refine lv_goto (tgt := 90) hx hb (dk hX4_whichTown_1 4 rfl) (by decide) ?_
          refine lv_istore (lv' := [(4, .int x6), (3, .int (x3 + (1 : Int32))), (7, .ref (adm 0)), (0, .ref (ad 0)), (1, .int x1), (2, .int x2), (5, .int x5), (6, .int x6)]) hx hb (dk hX4_whichTown_1 6 rfl) hl (by decide) rfl (fun ls hl => ?_)
          refine lv_iload hx hb (dk hX4_whichTown_1 7 rfl) (lv_at hl 7 rfl) ?_
          refine lv_istore (lv' := [(5, .int x6), (4, .int x6), (3, .int (x3 + (1 : Int32))), (7, .ref (adm 0)), (0, .ref (ad 0)), (1, .int x1), (2, .int x2), (6, .int x6)]) hx hb (dk hX4_whichTown_1 8 rfl) hl (by decide) rfl (fun ls hl => ?_)
          refine lv_iinc (v := (x6 + (1 : Int32))) (lv' := [(6, .int (x6 + (1 : Int32))), (5, .int x6), (4, .int x6), (3, .int (x3 + (1 : Int32))), (7, .ref (adm 0)), (0, .ref (ad 0)), (1, .int x1), (2, .int x2)]) hx hb (dk hX4_whichTown_1 9 rfl) hl (k := 7) rfl (by first | rfl | decide) (by decide) rfl (fun ls hl => ?_)
          refine lv_goto (tgt := 42) hx hb (dk hX4_whichTown_1 10 rfl) (by decide) ?_
          exact ih _ _ _ _ _ _ _ _ _ _ _ _ _ _ _ hf _ _ hs _ (lv_sub hl [5, 6, 7, 3, 2, 1, 0] rfl) hk
set_option maxRecDepth 100000 in
set_option maxHeartbeats 4000000 in
theorem c_X4_whichTown {l : Launch} {G : Gx} {ad adt adb ade adm adn adk adp : Nat → Nat} {adr : Nat → Nat → Nat} {refusals tcells lcells m_there m_used m_hidden m_kind m_figure m_cargo m_load n_there n_used n_hidden n_kind n_figure n_cargo n_load k_there k_used k_hidden k_kind k_figure k_cargo k_load : List Int32} {isKept tlen llen m_ships m_inn m_coughs m_day n_ships n_inn n_coughs n_day k_ships k_inn k_coughs k_day held : Int32} {perm : Nat → Nat} {hist : Nat → Hs} {p0 : Int32} {p1 : Int32} {out : List Int32 × List Int32 × List Int32 × List Int32 × List Int32 × List Int32 × List Int32 × List Int32 × Int32 × Int32 × Int32 × Int32 × Int32} (hf : X4_whichTown refusals tcells m_there m_used m_hidden m_kind m_figure m_cargo m_load n_there n_used n_hidden n_kind n_figure n_cargo n_load tlen m_ships m_inn m_coughs m_day n_ships n_inn n_coughs n_day p0 p1 = some out) : Ct l G yX4_whichTown cX4_whichTown 8 (some .int) 5 111 [.ref (ad 0), .int p0, .int p1] (wT G ad adt adb ade adm adn adk adp adr refusals tcells lcells m_there m_used m_hidden m_kind m_figure m_cargo m_load n_there n_used n_hidden n_kind n_figure n_cargo n_load k_there k_used k_hidden k_kind k_figure k_cargo k_load isKept tlen llen m_ships m_inn m_coughs m_day n_ships n_inn n_coughs n_day k_ships k_inn k_coughs k_day held perm hist) (some (.int out.2.2.2.2.2.2.2.2.2.2.2.2)) (wT G ad adt adb ade adm adn adk adp adr out.1 tcells lcells out.2.1 out.2.2.1 out.2.2.2.1 out.2.2.2.2.1 out.2.2.2.2.2.1 out.2.2.2.2.2.2.1 out.2.2.2.2.2.2.2.1 n_there n_used n_hidden n_kind n_figure n_cargo n_load k_there k_used k_hidden k_kind k_figure k_cargo k_load isKept tlen llen out.2.2.2.2.2.2.2.2.1 out.2.2.2.2.2.2.2.2.2.1 out.2.2.2.2.2.2.2.2.2.2.1 out.2.2.2.2.2.2.2.2.2.2.2.1 n_ships n_inn n_coughs n_day k_ships k_inn k_coughs k_day held perm hist) := by
  refine Ct.intro RX4 rfl (plainFor_of_name (by decide)) (Nat.le_of_ble_eq_true rfl) rfl ?_
  intro p e s m args below meth c A C H locs hs ls hl
  obtain ⟨hx, hb, hml, hown, hts, hK, hret, hlk⟩ := id C
  have hl : lv_has ls 8 [(0, .ref (ad 0)), (1, .int p0), (2, .int p1)] := hl
  unfold X4_whichTown at hf
  refine lv_iload_n hx hb (dk hX4_whichTown_0 0 rfl) rfl (lv_at hl 1 rfl) ?_
  obtain ⟨u_1, e_2, hf⟩ := Option.bind_eq_some_iff.mp hf
  refine Ct.S (As := [.int p0]) (rest := []) (st1 := [.int u_1]) (w1 := (wT G ad adt adb ade adm adn adk adp adr refusals tcells lcells m_there m_used m_hidden m_kind m_figure m_cargo m_load n_there n_used n_hidden n_kind n_figure n_cargo n_load k_there k_used k_hidden k_kind k_figure k_cargo k_load isKept tlen llen m_ships m_inn m_coughs m_day n_ships n_inn n_coughs n_day k_ships k_inn k_coughs k_day held perm hist)) C hs (c_X4_isGood e_2) tw_387 tw_283 tw_79 tw_284 nq_X4_isGood (by decide) rfl hl.1 rfl (Nat.le_of_ble_eq_true rfl) (dk hX4_whichTown_0 1 rfl) ⟨Nat.zero_le _, Nat.zero_le _⟩ rfl (fun H locs hs => ?_)
  refine lv_if_ne (tgt := 13) hx hb (dk hX4_whichTown_0 2 rfl) (by decide) (fun hc => ?_) (fun hc => ?_)
  · replace hf := in_ hf hc
    refine lv_iload_n hx hb (dk hX4_whichTown_0 7 rfl) rfl (lv_at hl 2 rfl) ?_
    refine lv_if_lt (tgt := 22) hx hb (dk hX4_whichTown_0 8 rfl) (by decide) (fun hc => ?_) (fun hc => ?_)
    · replace hf := ip hf hc
      refine lv_aload_n hx hb (dk hX4_whichTown_0 12 rfl) rfl (lv_at hl 0 rfl) ?_
      refine lv_bipush (v := (-2 : Int32)) hx hb (dk hX4_whichTown_0 13 rfl) (by decide) ?_
      obtain ⟨u_3, e_4, hf⟩ := Option.bind_eq_some_iff.mp hf
      refine Ct.V (As := [.int (-2 : Int32)]) (rest := []) (st1 := [.int u_3.2]) (w1 := (wT G ad adt adb ade adm adn adk adp adr u_3.1 tcells lcells m_there m_used m_hidden m_kind m_figure m_cargo m_load n_there n_used n_hidden n_kind n_figure n_cargo n_load k_there k_used k_hidden k_kind k_figure k_cargo k_load isKept tlen llen m_ships m_inn m_coughs m_day n_ships n_inn n_coughs n_day k_ships k_inn k_coughs k_day held perm hist)) C hs (c_X4_refuse e_4) tw_226 tw_228 tw_0 tw_79 tw_229 nq_X4_refuse (by decide) 0 4 rfl rfl rfl rfl hl.1 rfl (Nat.le_of_ble_eq_true rfl) (dk hX4_whichTown_0 14 rfl) ⟨Nat.zero_le _, Nat.zero_le _⟩ rfl (fun H locs hs => ?_)
      cases hf
      exact ri C hs (dk hX4_whichTown_0 15 rfl)
    · replace hf := in_ hf hc
      refine lv_iload_n hx hb (dk hX4_whichTown_0 9 rfl) rfl (lv_at hl 2 rfl) ?_
      refine lv_iconst (v := (2 : Int32)) hx hb (dk hX4_whichTown_0 10 rfl) (by decide) ?_
      refine lv_icmp_le (tgt := 29) hx hb (dk hX4_whichTown_0 11 rfl) (by decide) (fun hc => ?_) (fun hc => ?_)
      · replace hf := ip hf hc
        refine lv_iconst (v := (0 : Int32)) hx hb (dk hX4_whichTown_0 16 rfl) (by decide) ?_
        refine lv_istore_n (lv' := [(3, .int (0 : Int32)), (0, .ref (ad 0)), (1, .int p0), (2, .int p1)]) hx hb (dk hX4_whichTown_0 17 rfl) rfl hl (by decide) rfl (fun ls hl => ?_)
        refine lv_bipush (v := (-9 : Int32)) hx hb (dk hX4_whichTown_0 18 rfl) (by decide) ?_
        refine lv_istore (lv' := [(4, .int (-9 : Int32)), (3, .int (0 : Int32)), (0, .ref (ad 0)), (1, .int p0), (2, .int p1)]) hx hb (dk hX4_whichTown_0 19 rfl) hl (by decide) rfl (fun ls hl => ?_)
        refine lv_bipush (v := (-9 : Int32)) hx hb (dk hX4_whichTown_0 20 rfl) (by decide) ?_
        refine lv_istore (lv' := [(5, .int (-9 : Int32)), (4, .int (-9 : Int32)), (3, .int (0 : Int32)), (0, .ref (ad 0)), (1, .int p0), (2, .int p1)]) hx hb (dk hX4_whichTown_0 21 rfl) hl (by decide) rfl (fun ls hl => ?_)
        refine lv_iconst (v := (0 : Int32)) hx hb (dk hX4_whichTown_0 22 rfl) (by decide) ?_
        refine lv_istore (lv' := [(6, .int (0 : Int32)), (5, .int (-9 : Int32)), (4, .int (-9 : Int32)), (3, .int (0 : Int32)), (0, .ref (ad 0)), (1, .int p0), (2, .int p1)]) hx hb (dk hX4_whichTown_0 23 rfl) hl (by decide) rfl (fun ls hl => ?_)
        refine l_X4_whichTown_L42 C 1000 _ _ _ _ _ _ _ _ _ _ _ _ _ _ _ hf _ _ hs _ (lv_sub hl [4, 5, 6, 3, 2, 1, 0] rfl) (fun y3_11 y4_12 y5_13 m_there_14 m_used_15 m_hidden_16 m_kind_17 m_figure_18 m_cargo_19 m_load_20 m_ships_21 m_inn_22 m_coughs_23 m_day_24 hf H locs hs ls hl => ?_)
        refine lv_iload_n hx hb (dk hX4_whichTown_1 11 rfl) rfl (lv_at hl 0 rfl) ?_
        refine lv_if_ne (tgt := 108) hx hb (dk hX4_whichTown_1 12 rfl) (by decide) (fun hc => ?_) (fun hc => ?_)
        · replace hf := in_ hf hc
          refine lv_iload_n hx hb (dk hX4_whichTown_1 15 rfl) rfl (lv_at hl 0 rfl) ?_
          refine lv_iconst (v := (1 : Int32)) hx hb (dk hX4_whichTown_1 16 rfl) (by decide) ?_
          refine lv_icmp_ne (tgt := 118) hx hb (dk hX4_whichTown_1 17 rfl) (by decide) (fun hc => ?_) (fun hc => ?_)
          · replace hf := in_ hf hc
            refine lv_iload hx hb (dk hX4_whichTown_1 20 rfl) (lv_at hl 3 rfl) ?_
            cases hf
            exact ri C hs (dk hX4_whichTown_1 21 rfl)
          · replace hf := ip hf hc
            refine lv_iload hx hb (dk hX4_whichTown_1 18 rfl) (lv_at hl 2 rfl) ?_
            refine lv_goto (tgt := 120) hx hb (dk hX4_whichTown_1 19 rfl) (by decide) ?_
            cases hf
            exact ri C hs (dk hX4_whichTown_1 21 rfl)
        · replace hf := ip hf hc
          refine lv_iload_n hx hb (dk hX4_whichTown_1 13 rfl) rfl (lv_at hl 1 rfl) ?_
          cases hf
          exact ri C hs (dk hX4_whichTown_1 14 rfl)
      · replace hf := in_ hf hc
        refine lv_aload_n hx hb (dk hX4_whichTown_0 12 rfl) rfl (lv_at hl 0 rfl) ?_
        refine lv_bipush (v := (-2 : Int32)) hx hb (dk hX4_whichTown_0 13 rfl) (by decide) ?_
        obtain ⟨u_25, e_26, hf⟩ := Option.bind_eq_some_iff.mp hf
        refine Ct.V (As := [.int (-2 : Int32)]) (rest := []) (st1 := [.int u_25.2]) (w1 := (wT G ad adt adb ade adm adn adk adp adr u_25.1 tcells lcells m_there m_used m_hidden m_kind m_figure m_cargo m_load n_there n_used n_hidden n_kind n_figure n_cargo n_load k_there k_used k_hidden k_kind k_figure k_cargo k_load isKept tlen llen m_ships m_inn m_coughs m_day n_ships n_inn n_coughs n_day k_ships k_inn k_coughs k_day held perm hist)) C hs (c_X4_refuse e_26) tw_226 tw_228 tw_0 tw_79 tw_229 nq_X4_refuse (by decide) 0 4 rfl rfl rfl rfl hl.1 rfl (Nat.le_of_ble_eq_true rfl) (dk hX4_whichTown_0 14 rfl) ⟨Nat.zero_le _, Nat.zero_le _⟩ rfl (fun H locs hs => ?_)
        cases hf
        exact ri C hs (dk hX4_whichTown_0 15 rfl)
  · replace hf := ip hf hc
    refine lv_aload_n hx hb (dk hX4_whichTown_0 3 rfl) rfl (lv_at hl 0 rfl) ?_
    refine lv_iconst (v := (-1 : Int32)) hx hb (dk hX4_whichTown_0 4 rfl) (by decide) ?_
    obtain ⟨u_27, e_28, hf⟩ := Option.bind_eq_some_iff.mp hf
    refine Ct.V (As := [.int (-1 : Int32)]) (rest := []) (st1 := [.int u_27.2]) (w1 := (wT G ad adt adb ade adm adn adk adp adr u_27.1 tcells lcells m_there m_used m_hidden m_kind m_figure m_cargo m_load n_there n_used n_hidden n_kind n_figure n_cargo n_load k_there k_used k_hidden k_kind k_figure k_cargo k_load isKept tlen llen m_ships m_inn m_coughs m_day n_ships n_inn n_coughs n_day k_ships k_inn k_coughs k_day held perm hist)) C hs (c_X4_refuse e_28) tw_226 tw_228 tw_0 tw_79 tw_229 nq_X4_refuse (by decide) 0 4 rfl rfl rfl rfl hl.1 rfl (Nat.le_of_ble_eq_true rfl) (dk hX4_whichTown_0 5 rfl) ⟨Nat.zero_le _, Nat.zero_le _⟩ rfl (fun H locs hs => ?_)
    cases hf
    exact ri C hs (dk hX4_whichTown_0 6 rfl)

def X4_tellsDepths_L2 (k : List Int32 → Int32 → Int32 → Int32 → Option (List Int32 × Int32 × Int32 × Int32 × Int32)) (tcells : List Int32) (m_used : List Int32) (m_hidden : List Int32) (m_kind : List Int32) (m_figure : List Int32) (m_cargo : List Int32) (m_load : List Int32) (tlen : Int32) (m_ships : Int32) (x2 : Int32) : Nat → Int32 → List Int32 → Int32 → Int32 → Int32 → Option (List Int32 × Int32 × Int32 × Int32 × Int32)
  | 0, _, _, _, _, _ => none
  | n + 1, x3, m_there, m_inn, m_coughs, m_day =>
  (X1_length tlen).bind fun u_1 =>
  if u_1 ≤ x3 then
  k m_there m_inn m_coughs m_day
  else
  (X0_depth m_there m_used m_hidden m_kind m_cargo m_coughs m_day x2).bind fun u_3 =>
  (X1_at tcells tlen x3).bind fun u_5 =>
  if u_3 = u_5 then
  (X0_passDay m_there m_used m_hidden m_kind m_figure m_cargo m_load m_ships m_inn m_coughs m_day (0 : Int32)).bind fun u_7 =>
  X4_tellsDepths_L2 k tcells m_used m_hidden m_kind m_figure m_cargo m_load tlen m_ships x2 n (x3 + (1 : Int32)) u_7.1 u_7.2.1 u_7.2.2.1 u_7.2.2.2
  else
  some (m_there, m_inn, m_coughs, m_day, (0 : Int32))
def X4_tellsDepths (tcells : List Int32) (m_there : List Int32) (m_used : List Int32) (m_hidden : List Int32) (m_kind : List Int32) (m_figure : List Int32) (m_cargo : List Int32) (m_load : List Int32) (tlen : Int32) (m_ships : Int32) (m_inn : Int32) (m_coughs : Int32) (m_day : Int32) (p1 : Int32) : Option (List Int32 × Int32 × Int32 × Int32 × Int32) :=
  X4_tellsDepths_L2 (fun m_there_9 m_inn_10 m_coughs_11 m_day_12 =>
  some (m_there_9, m_inn_10, m_coughs_11, m_day_12, (1 : Int32))) tcells m_used m_hidden m_kind m_figure m_cargo m_load tlen m_ships p1 1000 (0 : Int32) m_there m_inn m_coughs m_day
set_option maxRecDepth 100000 in
set_option maxHeartbeats 4000000 in
theorem l_X4_tellsDepths_L2 {l : Launch} {p : Program} {e : Env} {s : State} {m : MethodId} {args : Array Value} {below : List Frame} {meth : Method} {c : Code} {A : Nat → Prop} {G : Gx} {ad adt adb ade adm adn adk adp : Nat → Nat} {adr : Nat → Nat → Nat} {refusals tcells lcells m_used m_hidden m_kind m_figure m_cargo m_load n_there n_used n_hidden n_kind n_figure n_cargo n_load k_there k_used k_hidden k_kind k_figure k_cargo k_load : List Int32} {isKept tlen llen m_ships n_ships n_inn n_coughs n_day k_ships k_inn k_coughs k_day held : Int32} {perm : Nat → Nat} {hist : Nat → Hs} {x2 : Int32} {k : List Int32 → Int32 → Int32 → Int32 → Option (List Int32 × Int32 × Int32 × Int32 × Int32)} {out : List Int32 × Int32 × Int32 × Int32 × Int32} (C : Cx p s m args meth c cX4_tellsDepths RX4 4 (some .boolean) G) : ∀ (n : Nat) (x3 : Int32) (m_there : List Int32) (m_inn : Int32) (m_coughs : Int32) (m_day : Int32), X4_tellsDepths_L2 k tcells m_used m_hidden m_kind m_figure m_cargo m_load tlen m_ships x2 n x3 m_there m_inn m_coughs m_day = some out → ∀ (H : Heap) (locs : List Loc), St G A s.heap H locs (wT G ad adt adb ade adm adn adk adp adr refusals tcells lcells m_there m_used m_hidden m_kind m_figure m_cargo m_load n_there n_used n_hidden n_kind n_figure n_cargo n_load k_there k_used k_hidden k_kind k_figure k_cargo k_load isKept tlen llen m_ships m_inn m_coughs m_day n_ships n_inn n_coughs n_day k_ships k_inn k_coughs k_day held perm hist) → ∀ ls : Array Slot, lv_has ls 4 [(0, .ref (ad 0)), (1, .ref (adm 0)), (2, .int x2), (3, .int x3)] → (∀ (z_m_there : List Int32) (z_m_inn : Int32) (z_m_coughs : Int32) (z_m_day : Int32), k z_m_there z_m_inn z_m_coughs z_m_day = some out → ∀ (H : Heap) (locs : List Loc), St G A s.heap H locs (wT G ad adt adb ade adm adn adk adp adr refusals tcells lcells z_m_there m_used m_hidden m_kind m_figure m_cargo m_load n_there n_used n_hidden n_kind n_figure n_cargo n_load k_there k_used k_hidden k_kind k_figure k_cargo k_load isKept tlen llen m_ships z_m_inn z_m_coughs z_m_day n_ships n_inn n_coughs n_day k_ships k_inn k_coughs k_day held perm hist) → ∀ ls : Array Slot, lv_has ls 4 [] → W p l e (rmOf 4 89) s m args below meth c H locs 0 0 (MQ below (Qof G A (some (.int out.2.2.2.2)) (wT G ad adt adb ade adm adn adk adp adr refusals tcells lcells out.1 m_used m_hidden m_kind m_figure m_cargo m_load n_there n_used n_hidden n_kind n_figure n_cargo n_load k_there k_used k_hidden k_kind k_figure k_cargo k_load isKept tlen llen m_ships out.2.1 out.2.2.1 out.2.2.2.1 n_ships n_inn n_coughs n_day k_ships k_inn k_coughs k_day held perm hist)) args s 0 0 A) (F0 m 42 ls [])) → W p l e (rmOf 4 89) s m args below meth c H locs 0 0 (MQ below (Qof G A (some (.int out.2.2.2.2)) (wT G ad adt adb ade adm adn adk adp adr refusals tcells lcells out.1 m_used m_hidden m_kind m_figure m_cargo m_load n_there n_used n_hidden n_kind n_figure n_cargo n_load k_there k_used k_hidden k_kind k_figure k_cargo k_load isKept tlen llen m_ships out.2.1 out.2.2.1 out.2.2.2.1 n_ships n_inn n_coughs n_day k_ships k_inn k_coughs k_day held perm hist)) args s 0 0 A) (F0 m 2 ls []) := by
  obtain ⟨hx, hb, hml, hown, hts, hK, hret, hlk⟩ := id C
  intro n
  induction n with
  | zero => intro x3 m_there m_inn m_coughs m_day hf; cases hf
  | succ n ih =>
    intro x3 m_there m_inn m_coughs m_day hf H locs hs ls hl hk
    rw [X4_tellsDepths_L2] at hf
    refine lv_iload_n hx hb (dk hX4_tellsDepths_0 2 rfl) rfl (lv_at hl 3 rfl) ?_
    refine lv_aload_n hx hb (dk hX4_tellsDepths_0 3 rfl) rfl (lv_at hl 0 rfl) ?_
    refine rg ui4 rfl C hs 0 rfl 5 (by decide) tw_202 rfl rfl (dk hX4_tellsDepths_0 4 rfl) ?_
    obtain ⟨u_1, e_2, hf⟩ := Option.bind_eq_some_iff.mp hf
    refine Ct.V (As := []) (rest := [.int x3]) (st1 := [.int u_1, .int x3]) (w1 := (wT G ad adt adb ade adm adn adk adp adr refusals tcells lcells m_there m_used m_hidden m_kind m_figure m_cargo m_load n_there n_used n_hidden n_kind n_figure n_cargo n_load k_there k_used k_hidden k_kind k_figure k_cargo k_load isKept tlen llen m_ships m_inn m_coughs m_day n_ships n_inn n_coughs n_day k_ships k_inn k_coughs k_day held perm hist)) C hs (c_X1_length__told e_2) tw_238 tw_239 tw_240 tw_83 tw_241 nq_X1_length (by decide) 2 1 rfl rfl rfl rfl hl.1 rfl (Nat.le_of_ble_eq_true rfl) (dk hX4_tellsDepths_0 5 rfl) ⟨Nat.zero_le _, Nat.zero_le _⟩ rfl (fun H locs hs => ?_)
    refine lv_icmp_ge (tgt := 42) hx hb (dk hX4_tellsDepths_0 6 rfl) (by decide) (fun hc => ?_) (fun hc => ?_)
    · replace hf := ip hf hc
      exact hk _ _ _ _ hf _ _ hs _ (lv_sub hl [] rfl)
    · replace hf := in_ hf hc
      refine lv_aload_n hx hb (dk hX4_tellsDepths_0 7 rfl) rfl (lv_at hl 1 rfl) ?_
      refine lv_iload_n hx hb (dk hX4_tellsDepths_0 8 rfl) rfl (lv_at hl 2 rfl) ?_
      obtain ⟨u_3, e_4, hf⟩ := Option.bind_eq_some_iff.mp hf
      refine Ct.V (As := [.int x2]) (rest := []) (st1 := [.int u_3]) (w1 := (wT G ad adt adb ade adm adn adk adp adr refusals tcells lcells m_there m_used m_hidden m_kind m_figure m_cargo m_load n_there n_used n_hidden n_kind n_figure n_cargo n_load k_there k_used k_hidden k_kind k_figure k_cargo k_load isKept tlen llen m_ships m_inn m_coughs m_day n_ships n_inn n_coughs n_day k_ships k_inn k_coughs k_day held perm hist)) C hs (c_X0_depth__mind e_4) tw_397 tw_398 tw_399 tw_80 tw_400 nq_X0_depth (by decide) 7 0 rfl rfl rfl rfl hl.1 rfl (Nat.le_of_ble_eq_true rfl) (dk hX4_tellsDepths_0 9 rfl) ⟨Nat.zero_le _, Nat.zero_le _⟩ rfl (fun H locs hs => ?_)
      refine lv_aload_n hx hb (dk hX4_tellsDepths_0 10 rfl) rfl (lv_at hl 0 rfl) ?_
      refine rg ui4 rfl C hs 0 rfl 5 (by decide) tw_202 rfl rfl (dk hX4_tellsDepths_0 11 rfl) ?_
      refine lv_iload_n hx hb (dk hX4_tellsDepths_0 12 rfl) rfl (lv_at hl 3 rfl) ?_
      obtain ⟨u_5, e_6, hf⟩ := Option.bind_eq_some_iff.mp hf
      refine Ct.V (As := [.int x3]) (rest := [.int u_3]) (st1 := [.int u_5, .int u_3]) (w1 := (wT G ad adt adb ade adm adn adk adp adr refusals tcells lcells m_there m_used m_hidden m_kind m_figure m_cargo m_load n_there n_used n_hidden n_kind n_figure n_cargo n_load k_there k_used k_hidden k_kind k_figure k_cargo k_load isKept tlen llen m_ships m_inn m_coughs m_day n_ships n_inn n_coughs n_day k_ships k_inn k_coughs k_day held perm hist)) C hs (c_X1_at__told e_6) tw_561 tw_268 tw_269 tw_83 tw_270 nq_X1_at (by decide) 2 1 rfl rfl rfl rfl hl.1 rfl (Nat.le_of_ble_eq_true rfl) (dk hX4_tellsDepths_0 13 rfl) ⟨Nat.zero_le _, Nat.zero_le _⟩ rfl (fun H locs hs => ?_)
      refine lv_icmp_eq (tgt := 31) hx hb (dk hX4_tellsDepths_0 14 rfl) (by decide) (fun hc => ?_) (fun hc => ?_)
      · replace hf := ip hf hc
        refine lv_aload_n hx hb (dk hX4_tellsDepths_0 17 rfl) rfl (lv_at hl 1 rfl) ?_
        refine lv_iconst (v := (0 : Int32)) hx hb (dk hX4_tellsDepths_0 18 rfl) (by decide) ?_
        obtain ⟨u_7, e_8, hf⟩ := Option.bind_eq_some_iff.mp hf
        refine Ct.V (As := [.int (0 : Int32)]) (rest := []) (st1 := []) (w1 := (wT G ad adt adb ade adm adn adk adp adr refusals tcells lcells u_7.1 m_used m_hidden m_kind m_figure m_cargo m_load n_there n_used n_hidden n_kind n_figure n_cargo n_load k_there k_used k_hidden k_kind k_figure k_cargo k_load isKept tlen llen m_ships u_7.2.1 u_7.2.2.1 u_7.2.2.2 n_ships n_inn n_coughs n_day k_ships k_inn k_coughs k_day held perm hist)) C hs (c_X0_passDay__mind e_8) tw_479 tw_329 tw_330 tw_80 tw_331 nq_X0_passDay (by decide) 7 0 rfl rfl rfl rfl hl.1 rfl (Nat.le_of_ble_eq_true rfl) (dk hX4_tellsDepths_0 19 rfl) ⟨Nat.zero_le _, Nat.zero_le _⟩ rfl (fun H locs hs => ?_)
        refine lv_iinc (v := (x3 + (1 : Int32))) (lv' := [(3, .int (x3 + (1 : Int32))), (0, .ref (ad 0)), (1, .ref (adm 0)), (2, .int x2)]) hx hb (dk hX4_tellsDepths_0 20 rfl) hl (k := 3) rfl (by first | rfl | decide) (by decide) rfl (fun ls hl => ?_)
        refine lv_goto (tgt := 2) hx hb (dk hX4_tellsDepths_0 21 rfl) (by decide) ?_
        exact ih _ _ _ _ _ hf _ _ hs _ (lv_sub hl [1, 2, 3, 0] rfl) hk
      · replace hf := in_ hf hc
        refine lv_iconst (v := (0 : Int32)) hx hb (dk hX4_tellsDepths_0 15 rfl) (by decide) ?_
        cases hf
        exact rz (x := (0 : Int32)) rfl C hs (dk hX4_tellsDepths_0 16 rfl)
set_option maxRecDepth 100000 in
set_option maxHeartbeats 4000000 in
theorem c_X4_tellsDepths {l : Launch} {G : Gx} {ad adt adb ade adm adn adk adp : Nat → Nat} {adr : Nat → Nat → Nat} {refusals tcells lcells m_there m_used m_hidden m_kind m_figure m_cargo m_load n_there n_used n_hidden n_kind n_figure n_cargo n_load k_there k_used k_hidden k_kind k_figure k_cargo k_load : List Int32} {isKept tlen llen m_ships m_inn m_coughs m_day n_ships n_inn n_coughs n_day k_ships k_inn k_coughs k_day held : Int32} {perm : Nat → Nat} {hist : Nat → Hs} {p1 : Int32} {out : List Int32 × Int32 × Int32 × Int32 × Int32} (hf : X4_tellsDepths tcells m_there m_used m_hidden m_kind m_figure m_cargo m_load tlen m_ships m_inn m_coughs m_day p1 = some out) : Ct l G yX4_tellsDepths cX4_tellsDepths 4 (some .boolean) 4 89 [.ref (ad 0), .ref (adm 0), .int p1] (wT G ad adt adb ade adm adn adk adp adr refusals tcells lcells m_there m_used m_hidden m_kind m_figure m_cargo m_load n_there n_used n_hidden n_kind n_figure n_cargo n_load k_there k_used k_hidden k_kind k_figure k_cargo k_load isKept tlen llen m_ships m_inn m_coughs m_day n_ships n_inn n_coughs n_day k_ships k_inn k_coughs k_day held perm hist) (some (.int out.2.2.2.2)) (wT G ad adt adb ade adm adn adk adp adr refusals tcells lcells out.1 m_used m_hidden m_kind m_figure m_cargo m_load n_there n_used n_hidden n_kind n_figure n_cargo n_load k_there k_used k_hidden k_kind k_figure k_cargo k_load isKept tlen llen m_ships out.2.1 out.2.2.1 out.2.2.2.1 n_ships n_inn n_coughs n_day k_ships k_inn k_coughs k_day held perm hist) := by
  refine Ct.intro RX4 rfl (plainFor_of_name (by decide)) (Nat.le_of_ble_eq_true rfl) rfl ?_
  intro p e s m args below meth c A C H locs hs ls hl
  obtain ⟨hx, hb, hml, hown, hts, hK, hret, hlk⟩ := id C
  have hl : lv_has ls 4 [(0, .ref (ad 0)), (1, .ref (adm 0)), (2, .int p1)] := hl
  unfold X4_tellsDepths at hf
  refine lv_iconst (v := (0 : Int32)) hx hb (dk hX4_tellsDepths_0 0 rfl) (by decide) ?_
  refine lv_istore_n (lv' := [(3, .int (0 : Int32)), (0, .ref (ad 0)), (1, .ref (adm 0)), (2, .int p1)]) hx hb (dk hX4_tellsDepths_0 1 rfl) rfl hl (by decide) rfl (fun ls hl => ?_)
  refine l_X4_tellsDepths_L2 C 1000 _ _ _ _ _ hf _ _ hs _ (lv_sub hl [1, 2, 3, 0] rfl) (fun m_there_9 m_inn_10 m_coughs_11 m_day_12 hf H locs hs ls hl => ?_)
  refine lv_iconst (v := (1 : Int32)) hx hb (dk hX4_tellsDepths_0 22 rfl) (by decide) ?_
  cases hf
  exact rz (x := (1 : Int32)) rfl C hs (dk hX4_tellsDepths_0 23 rfl)

def X4_whatKind_L51 (k : Int32 → List Int32 → List Int32 → List Int32 → List Int32 → List Int32 → List Int32 → List Int32 → Int32 → Int32 → Int32 → Int32 → Option (List Int32 × List Int32 × List Int32 × List Int32 × List Int32 × List Int32 × List Int32 × List Int32 × Int32 × Int32 × Int32 × Int32 × Int32)) (tcells : List Int32) (n_there : List Int32) (n_used : List Int32) (n_hidden : List Int32) (n_kind : List Int32) (n_figure : List Int32) (n_cargo : List Int32) (n_load : List Int32) (tlen : Int32) (n_ships : Int32) (n_inn : Int32) (n_coughs : Int32) (n_day : Int32) (x1 : Int32) (x2 : Int32) (x4 : Int32) : Nat → Int32 → Int32 → List Int32 → List Int32 → List Int32 → List Int32 → List Int32 → List Int32 → List Int32 → Int32 → Int32 → Int32 → Int32 → Option (List Int32 × List Int32 × List Int32 × List Int32 × List Int32 × List Int32 × List Int32 × List Int32 × Int32 × Int32 × Int32 × Int32 × Int32)
  | 0, _, _, _, _, _, _, _, _, _, _, _, _, _ => none
  | n + 1, x3, x5, m_there, m_used, m_hidden, m_kind, m_figure, m_cargo, m_load, m_ships, m_inn, m_coughs, m_day =>
  if x4 ≤ x5 then
  k x3 m_there m_used m_hidden m_kind m_figure m_cargo m_load m_ships m_inn m_coughs m_day
  else
  (X4_fromNow m_there m_used m_hidden m_kind m_figure m_cargo m_load n_there n_used n_hidden n_kind n_figure n_cargo n_load m_ships m_inn m_coughs m_day n_ships n_inn n_coughs n_day).bind fun u_5 =>
  if x2 = (0 : Int32) then
  (wr u_5.2.2.2.1 x1 x5).bind fun m_kind_11 =>
  (X4_tellsDepths tcells u_5.1 u_5.2.1 u_5.2.2.1 m_kind_11 u_5.2.2.2.2.1 u_5.2.2.2.2.2.1 u_5.2.2.2.2.2.2.1 tlen u_5.2.2.2.2.2.2.2.1 u_5.2.2.2.2.2.2.2.2.1 u_5.2.2.2.2.2.2.2.2.2.1 u_5.2.2.2.2.2.2.2.2.2.2 x1).bind fun u_13 =>
  if u_13.2.2.2.2 = (0 : Int32) then
  X4_whatKind_L51 k tcells n_there n_used n_hidden n_kind n_figure n_cargo n_load tlen n_ships n_inn n_coughs n_day x1 x2 x4 n x3 (x5 + (1 : Int32)) u_13.1 u_5.2.1 u_5.2.2.1 m_kind_11 u_5.2.2.2.2.1 u_5.2.2.2.2.2.1 u_5.2.2.2.2.2.2.1 u_5.2.2.2.2.2.2.2.1 u_13.2.1 u_13.2.2.1 u_13.2.2.2.1
  else
  X4_whatKind_L51 k tcells n_there n_used n_hidden n_kind n_figure n_cargo n_load tlen n_ships n_inn n_coughs n_day x1 x2 x4 n (x3 ||| ((1 : Int32) <<< (x5 &&& 31))) (x5 + (1 : Int32)) u_13.1 u_5.2.1 u_5.2.2.1 m_kind_11 u_5.2.2.2.2.1 u_5.2.2.2.2.2.1 u_5.2.2.2.2.2.2.1 u_5.2.2.2.2.2.2.2.1 u_13.2.1 u_13.2.2.1 u_13.2.2.2.1
  else
  (wr u_5.2.2.2.2.1 x1 x5).bind fun m_figure_7 =>
  (X4_tellsDepths tcells u_5.1 u_5.2.1 u_5.2.2.1 u_5.2.2.2.1 m_figure_7 u_5.2.2.2.2.2.1 u_5.2.2.2.2.2.2.1 tlen u_5.2.2.2.2.2.2.2.1 u_5.2.2.2.2.2.2.2.2.1 u_5.2.2.2.2.2.2.2.2.2.1 u_5.2.2.2.2.2.2.2.2.2.2 x1).bind fun u_9 =>
  if u_9.2.2.2.2 = (0 : Int32) then
  X4_whatKind_L51 k tcells n_there n_used n_hidden n_kind n_figure n_cargo n_load tlen n_ships n_inn n_coughs n_day x1 x2 x4 n x3 (x5 + (1 : Int32)) u_9.1 u_5.2.1 u_5.2.2.1 u_5.2.2.2.1 m_figure_7 u_5.2.2.2.2.2.1 u_5.2.2.2.2.2.2.1 u_5.2.2.2.2.2.2.2.1 u_9.2.1 u_9.2.2.1 u_9.2.2.2.1
  else
  X4_whatKind_L51 k tcells n_there n_used n_hidden n_kind n_figure n_cargo n_load tlen n_ships n_inn n_coughs n_day x1 x2 x4 n (x3 ||| ((1 : Int32) <<< (x5 &&& 31))) (x5 + (1 : Int32)) u_9.1 u_5.2.1 u_5.2.2.1 u_5.2.2.2.1 m_figure_7 u_5.2.2.2.2.2.1 u_5.2.2.2.2.2.2.1 u_5.2.2.2.2.2.2.2.1 u_9.2.1 u_9.2.2.1 u_9.2.2.2.1
def X4_whatKind (refusals : List Int32) (tcells : List Int32) (m_there : List Int32) (m_used : List Int32) (m_hidden : List Int32) (m_kind : List Int32) (m_figure : List Int32) (m_cargo : List Int32) (m_load : List Int32) (n_there : List Int32) (n_used : List Int32) (n_hidden : List Int32) (n_kind : List Int32) (n_figure : List Int32) (n_cargo : List Int32) (n_load : List Int32) (tlen : Int32) (m_ships : Int32) (m_inn : Int32) (m_coughs : Int32) (m_day : Int32) (n_ships : Int32) (n_inn : Int32) (n_coughs : Int32) (n_day : Int32) (p0 : Int32) (p1 : Int32) : Option (List Int32 × List Int32 × List Int32 × List Int32 × List Int32 × List Int32 × List Int32 × List Int32 × Int32 × Int32 × Int32 × Int32 × Int32) :=
  (X0_isShip n_ships p0).bind fun u_1 =>
  if u_1 = (0 : Int32) then
  (X4_refuse refusals (-1 : Int32)).bind fun u_41 =>
  some (u_41.1, m_there, m_used, m_hidden, m_kind, m_figure, m_cargo, m_load, m_ships, m_inn, m_coughs, m_day, u_41.2)
  else
  if p1 < (0 : Int32) then
  (X4_refuse refusals (-2 : Int32)).bind fun u_3 =>
  some (u_3.1, m_there, m_used, m_hidden, m_kind, m_figure, m_cargo, m_load, m_ships, m_inn, m_coughs, m_day, u_3.2)
  else
  if p1 ≤ (1 : Int32) then
  if p1 = (0 : Int32) then
  X4_whatKind_L51 (fun y3_27 m_there_28 m_used_29 m_hidden_30 m_kind_31 m_figure_32 m_cargo_33 m_load_34 m_ships_35 m_inn_36 m_coughs_37 m_day_38 =>
  some (refusals, m_there_28, m_used_29, m_hidden_30, m_kind_31, m_figure_32, m_cargo_33, m_load_34, m_ships_35, m_inn_36, m_coughs_37, m_day_38, y3_27)) tcells n_there n_used n_hidden n_kind n_figure n_cargo n_load tlen n_ships n_inn n_coughs n_day p0 p1 (6 : Int32) 1000 (0 : Int32) (0 : Int32) m_there m_used m_hidden m_kind m_figure m_cargo m_load m_ships m_inn m_coughs m_day
  else
  X4_whatKind_L51 (fun y3_15 m_there_16 m_used_17 m_hidden_18 m_kind_19 m_figure_20 m_cargo_21 m_load_22 m_ships_23 m_inn_24 m_coughs_25 m_day_26 =>
  some (refusals, m_there_16, m_used_17, m_hidden_18, m_kind_19, m_figure_20, m_cargo_21, m_load_22, m_ships_23, m_inn_24, m_coughs_25, m_day_26, y3_15)) tcells n_there n_used n_hidden n_kind n_figure n_cargo n_load tlen n_ships n_inn n_coughs n_day p0 p1 (10 : Int32) 1000 (0 : Int32) (0 : Int32) m_there m_used m_hidden m_kind m_figure m_cargo m_load m_ships m_inn m_coughs m_day
  else
  (X4_refuse refusals (-2 : Int32)).bind fun u_39 =>
  some (u_39.1, m_there, m_used, m_hidden, m_kind, m_figure, m_cargo, m_load, m_ships, m_inn, m_coughs, m_day, u_39.2)
set_option maxRecDepth 100000 in
set_option maxHeartbeats 4000000 in
theorem l_X4_whatKind_L51 {l : Launch} {p : Program} {e : Env} {s : State} {m : MethodId} {args : Array Value} {below : List Frame} {meth : Method} {c : Code} {A : Nat → Prop} {G : Gx} {ad adt adb ade adm adn adk adp : Nat → Nat} {adr : Nat → Nat → Nat} {refusals tcells lcells n_there n_used n_hidden n_kind n_figure n_cargo n_load k_there k_used k_hidden k_kind k_figure k_cargo k_load : List Int32} {isKept tlen llen n_ships n_inn n_coughs n_day k_ships k_inn k_coughs k_day held : Int32} {perm : Nat → Nat} {hist : Nat → Hs} {x1 : Int32} {x2 : Int32} {x4 : Int32} {k : Int32 → List Int32 → List Int32 → List Int32 → List Int32 → List Int32 → List Int32 → List Int32 → Int32 → Int32 → Int32 → Int32 → Option (List Int32 × List Int32 × List Int32 × List Int32 × List Int32 × List Int32 × List Int32 × List Int32 × Int32 × Int32 × Int32 × Int32 × Int32)} {out : List Int32 × List Int32 × List Int32 × List Int32 × List Int32 × List Int32 × List Int32 × List Int32 × Int32 × Int32 × Int32 × Int32 × Int32} (C : Cx p s m args meth c cX4_whatKind RX4 7 (some .int) G) : ∀ (n : Nat) (x3 : Int32) (x5 : Int32) (m_there : List Int32) (m_used : List Int32) (m_hidden : List Int32) (m_kind : List Int32) (m_figure : List Int32) (m_cargo : List Int32) (m_load : List Int32) (m_ships : Int32) (m_inn : Int32) (m_coughs : Int32) (m_day : Int32), X4_whatKind_L51 k tcells n_there n_used n_hidden n_kind n_figure n_cargo n_load tlen n_ships n_inn n_coughs n_day x1 x2 x4 n x3 x5 m_there m_used m_hidden m_kind m_figure m_cargo m_load m_ships m_inn m_coughs m_day = some out → ∀ (H : Heap) (locs : List Loc), St G A s.heap H locs (wT G ad adt adb ade adm adn adk adp adr refusals tcells lcells m_there m_used m_hidden m_kind m_figure m_cargo m_load n_there n_used n_hidden n_kind n_figure n_cargo n_load k_there k_used k_hidden k_kind k_figure k_cargo k_load isKept tlen llen m_ships m_inn m_coughs m_day n_ships n_inn n_coughs n_day k_ships k_inn k_coughs k_day held perm hist) → ∀ ls : Array Slot, lv_has ls 7 [(0, .ref (ad 0)), (1, .int x1), (2, .int x2), (3, .int x3), (4, .int x4), (5, .int x5)] → (∀ (y3 : Int32) (z_m_there : List Int32) (z_m_used : List Int32) (z_m_hidden : List Int32) (z_m_kind : List Int32) (z_m_figure : List Int32) (z_m_cargo : List Int32) (z_m_load : List Int32) (z_m_ships : Int32) (z_m_inn : Int32) (z_m_coughs : Int32) (z_m_day : Int32), k y3 z_m_there z_m_used z_m_hidden z_m_kind z_m_figure z_m_cargo z_m_load z_m_ships z_m_inn z_m_coughs z_m_day = some out → ∀ (H : Heap) (locs : List Loc), St G A s.heap H locs (wT G ad adt adb ade adm adn adk adp adr refusals tcells lcells z_m_there z_m_used z_m_hidden z_m_kind z_m_figure z_m_cargo z_m_load n_there n_used n_hidden n_kind n_figure n_cargo n_load k_there k_used k_hidden k_kind k_figure k_cargo k_load isKept tlen llen z_m_ships z_m_inn z_m_coughs z_m_day n_ships n_inn n_coughs n_day k_ships k_inn k_coughs k_day held perm hist) → ∀ ls : Array Slot, lv_has ls 7 [(3, .int y3)] → W p l e (rmOf 5 112) s m args below meth c H locs 0 0 (MQ below (Qof G A (some (.int out.2.2.2.2.2.2.2.2.2.2.2.2)) (wT G ad adt adb ade adm adn adk adp adr out.1 tcells lcells out.2.1 out.2.2.1 out.2.2.2.1 out.2.2.2.2.1 out.2.2.2.2.2.1 out.2.2.2.2.2.2.1 out.2.2.2.2.2.2.2.1 n_there n_used n_hidden n_kind n_figure n_cargo n_load k_there k_used k_hidden k_kind k_figure k_cargo k_load isKept tlen llen out.2.2.2.2.2.2.2.2.1 out.2.2.2.2.2.2.2.2.2.1 out.2.2.2.2.2.2.2.2.2.2.1 out.2.2.2.2.2.2.2.2.2.2.2.1 n_ships n_inn n_coughs n_day k_ships k_inn k_coughs k_day held perm hist)) args s 0 0 A) (F0 m 112 ls [])) → W p l e (rmOf 5 112) s m args below meth c H locs 0 0 (MQ below (Qof G A (some (.int out.2.2.2.2.2.2.2.2.2.2.2.2)) (wT G ad adt adb ade adm adn adk adp adr out.1 tcells lcells out.2.1 out.2.2.1 out.2.2.2.1 out.2.2.2.2.1 out.2.2.2.2.2.1 out.2.2.2.2.2.2.1 out.2.2.2.2.2.2.2.1 n_there n_used n_hidden n_kind n_figure n_cargo n_load k_there k_used k_hidden k_kind k_figure k_cargo k_load isKept tlen llen out.2.2.2.2.2.2.2.2.1 out.2.2.2.2.2.2.2.2.2.1 out.2.2.2.2.2.2.2.2.2.2.1 out.2.2.2.2.2.2.2.2.2.2.2.1 n_ships n_inn n_coughs n_day k_ships k_inn k_coughs k_day held perm hist)) args s 0 0 A) (F0 m 51 ls []) := by
  obtain ⟨hx, hb, hml, hown, hts, hK, hret, hlk⟩ := id C
  intro n
  induction n with
  | zero => intro x3 x5 m_there m_used m_hidden m_kind m_figure m_cargo m_load m_ships m_inn m_coughs m_day hf; cases hf
  | succ n ih =>
    intro x3 x5 m_there m_used m_hidden m_kind m_figure m_cargo m_load m_ships m_inn m_coughs m_day hf H locs hs ls hl hk
    rw [X4_whatKind_L51] at hf
    refine lv_iload hx hb (dk hX4_whatKind_0 28 rfl) (lv_at hl 5 rfl) ?_
    refine lv_iload hx hb (dk hX4_whatKind_0 29 rfl) (lv_at hl 4 rfl) ?_
    refine lv_icmp_ge (tgt := 112) hx hb (dk hX4_whatKind_0 30 rfl) (by decide) (fun hc => ?_) (fun hc => ?_)
    · replace hf := ip hf hc
      exact hk _ _ _ _ _ _ _ _ _ _ _ _ hf _ _ hs _ (lv_sub hl [3] rfl)
    · replace hf := in_ hf hc
      refine lv_aload_n hx hb (dk hX4_whatKind_0 31 rfl) rfl (lv_at hl 0 rfl) ?_
      obtain ⟨u_5, e_6, hf⟩ := Option.bind_eq_some_iff.mp hf
      refine Ct.V (As := []) (rest := []) (st1 := [.ref (adm 0)]) (w1 := (wT G ad adt adb ade adm adn adk adp adr refusals tcells lcells u_5.1 u_5.2.1 u_5.2.2.1 u_5.2.2.2.1 u_5.2.2.2.2.1 u_5.2.2.2.2.2.1 u_5.2.2.2.2.2.2.1 n_there n_used n_hidden n_kind n_figure n_cargo n_load k_there k_used k_hidden k_kind k_figure k_cargo k_load isKept tlen llen u_5.2.2.2.2.2.2.2.1 u_5.2.2.2.2.2.2.2.2.1 u_5.2.2.2.2.2.2.2.2.2.1 u_5.2.2.2.2.2.2.2.2.2.2 n_ships n_inn n_coughs n_day k_ships k_inn k_coughs k_day held perm hist)) C hs (c_X4_fromNow e_6) tw_246 tw_248 tw_1 tw_79 tw_249 nq_X4_fromNow (by decide) 0 4 rfl rfl rfl rfl hl.1 rfl (Nat.le_of_ble_eq_true rfl) (dk hX4_whatKind_0 32 rfl) ⟨Nat.zero_le _, Nat.zero_le _⟩ rfl (fun H locs hs => ?_)
      refine lv_astore (lv' := [(6, .ref (adm 0)), (0, .ref (ad 0)), (1, .int x1), (2, .int x2), (3, .int x3), (4, .int x4), (5, .int x5)]) hx hb (dk hX4_whatKind_0 33 rfl) hl (by decide) rfl (fun ls hl => ?_)
      refine lv_iload_n hx hb (dk hX4_whatKind_0 34 rfl) rfl (lv_at hl 3 rfl) ?_
      refine lv_if_ne (tgt := 80) hx hb (dk hX4_whatKind_0 35 rfl) (by decide) (fun hc => ?_) (fun hc => ?_)
      · replace hf := in_ hf hc
        refine lv_aload hx hb (dk hX4_whatKind_1 2 rfl) (lv_at hl 0 rfl) ?_
        refine rg ui0 rfl C hs 7 rfl 4 (by decide) tw_112 rfl rfl (dk hX4_whatKind_1 3 rfl) ?_
        refine lv_iload_n hx hb (dk hX4_whatKind_1 4 rfl) rfl (lv_at hl 2 rfl) ?_
        refine lv_iload hx hb (dk hX4_whatKind_1 5 rfl) (lv_at hl 6 rfl) ?_
        obtain ⟨m_figure_7, e_8, hf⟩ := Option.bind_eq_some_iff.mp hf
        refine rist (w1 := (wT G ad adt adb ade adm adn adk adp adr refusals tcells lcells u_5.1 u_5.2.1 u_5.2.2.1 u_5.2.2.2.1 m_figure_7 u_5.2.2.2.2.2.1 u_5.2.2.2.2.2.2.1 n_there n_used n_hidden n_kind n_figure n_cargo n_load k_there k_used k_hidden k_kind k_figure k_cargo k_load isKept tlen llen u_5.2.2.2.2.2.2.2.1 u_5.2.2.2.2.2.2.2.2.1 u_5.2.2.2.2.2.2.2.2.2.1 u_5.2.2.2.2.2.2.2.2.2.2 n_ships n_inn n_coughs n_day k_ships k_inn k_coughs k_day held perm hist)) C hs 12 rfl e_8 rfl (dk hX4_whatKind_1 6 rfl) (fun H locs hs => ?_)
        refine lv_aload_n hx hb (dk hX4_whatKind_1 7 rfl) rfl (lv_at hl 1 rfl) ?_
        refine lv_aload hx hb (dk hX4_whatKind_1 8 rfl) (lv_at hl 0 rfl) ?_
        refine lv_iload_n hx hb (dk hX4_whatKind_1 9 rfl) rfl (lv_at hl 2 rfl) ?_
        obtain ⟨u_9, e_10, hf⟩ := Option.bind_eq_some_iff.mp hf
        refine Ct.V (As := [.ref (adm 0), .int x1]) (rest := []) (st1 := [.int u_9.2.2.2.2]) (w1 := (wT G ad adt adb ade adm adn adk adp adr refusals tcells lcells u_9.1 u_5.2.1 u_5.2.2.1 u_5.2.2.2.1 m_figure_7 u_5.2.2.2.2.2.1 u_5.2.2.2.2.2.2.1 n_there n_used n_hidden n_kind n_figure n_cargo n_load k_there k_used k_hidden k_kind k_figure k_cargo k_load isKept tlen llen u_5.2.2.2.2.2.2.2.1 u_9.2.1 u_9.2.2.1 u_9.2.2.2.1 n_ships n_inn n_coughs n_day k_ships k_inn k_coughs k_day held perm hist)) C hs (c_X4_tellsDepths e_10) tw_566 tw_568 tw_17 tw_79 tw_569 nq_X4_tellsDepths (by decide) 0 4 rfl rfl rfl rfl hl.1 rfl (Nat.le_of_ble_eq_true rfl) (dk hX4_whatKind_1 10 rfl) ⟨Nat.zero_le _, Nat.zero_le _⟩ rfl (fun H locs hs => ?_)
        refine lv_if_eq (tgt := 106) hx hb (dk hX4_whatKind_1 11 rfl) (by decide) (fun hc => ?_) (fun hc => ?_)
        · replace hf := ip hf hc
          refine lv_iinc (v := (x5 + (1 : Int32))) (lv' := [(5, .int (x5 + (1 : Int32))), (6, .ref (adm 0)), (0, .ref (ad 0)), (1, .int x1), (2, .int x2), (3, .int x3), (4, .int x4)]) hx hb (dk hX4_whatKind_1 18 rfl) hl (k := 6) rfl (by first | rfl | decide) (by decide) rfl (fun ls hl => ?_)
          refine lv_goto (tgt := 51) hx hb (dk hX4_whatKind_1 19 rfl) (by decide) ?_
          exact ih _ _ _ _ _ _ _ _ _ _ _ _ _ hf _ _ hs _ (lv_sub hl [2, 3, 4, 5, 6, 0] rfl) hk
        · replace hf := in_ hf hc
          refine lv_iload_n hx hb (dk hX4_whatKind_1 12 rfl) rfl (lv_at hl 4 rfl) ?_
          refine lv_iconst (v := (1 : Int32)) hx hb (dk hX4_whatKind_1 13 rfl) (by decide) ?_
          refine lv_iload hx hb (dk hX4_whatKind_1 14 rfl) (lv_at hl 6 rfl) ?_
          refine lv_ishl hx hb (dk hX4_whatKind_1 15 rfl) ?_
          refine lv_ior hx hb (dk hX4_whatKind_1 16 rfl) ?_
          refine lv_istore_n (lv' := [(3, .int (x3 ||| ((1 : Int32) <<< (x5 &&& 31)))), (6, .ref (adm 0)), (0, .ref (ad 0)), (1, .int x1), (2, .int x2), (4, .int x4), (5, .int x5)]) hx hb (dk hX4_whatKind_1 17 rfl) rfl hl (by decide) rfl (fun ls hl => ?_)
          refine lv_iinc (v := (x5 + (1 : Int32))) (lv' := [(5, .int (x5 + (1 : Int32))), (3, .int (x3 ||| ((1 : Int32) <<< (x5 &&& 31)))), (6, .ref (adm 0)), (0, .ref (ad 0)), (1, .int x1), (2, .int x2), (4, .int x4)]) hx hb (dk hX4_whatKind_1 18 rfl) hl (k := 6) rfl (by first | rfl | decide) (by decide) rfl (fun ls hl => ?_)
          refine lv_goto (tgt := 51) hx hb (dk hX4_whatKind_1 19 rfl) (by decide) ?_
          exact ih _ _ _ _ _ _ _ _ _ _ _ _ _ hf _ _ hs _ (lv_sub hl [3, 4, 5, 1, 6, 0] rfl) hk
      · replace hf := ip hf hc
        refine lv_aload hx hb (dk hX4_whatKind_0 36 rfl) (lv_at hl 0 rfl) ?_
        refine rg ui0 rfl C hs 7 rfl 3 (by decide) tw_110 rfl rfl (dk hX4_whatKind_0 37 rfl) ?_
        refine lv_iload_n hx hb (dk hX4_whatKind_0 38 rfl) rfl (lv_at hl 2 rfl) ?_
        refine lv_iload hx hb (dk hX4_whatKind_0 39 rfl) (lv_at hl 6 rfl) ?_
        obtain ⟨m_kind_11, e_12, hf⟩ := Option.bind_eq_some_iff.mp hf
        refine rist (w1 := (wT G ad adt adb ade adm adn adk adp adr refusals tcells lcells u_5.1 u_5.2.1 u_5.2.2.1 m_kind_11 u_5.2.2.2.2.1 u_5.2.2.2.2.2.1 u_5.2.2.2.2.2.2.1 n_there n_used n_hidden n_kind n_figure n_cargo n_load k_there k_used k_hidden k_kind k_figure k_cargo k_load isKept tlen llen u_5.2.2.2.2.2.2.2.1 u_5.2.2.2.2.2.2.2.2.1 u_5.2.2.2.2.2.2.2.2.2.1 u_5.2.2.2.2.2.2.2.2.2.2 n_ships n_inn n_coughs n_day k_ships k_inn k_coughs k_day held perm hist)) C hs 11 rfl e_12 rfl (dk hX4_whatKind_1 0 rfl) (fun H locs hs => ?_)
        refine lv_goto (tgt := 89) hx hb (dk hX4_whatKind_1 1 rfl) (by decide) ?_
        refine lv_aload_n hx hb (dk hX4_whatKind_1 7 rfl) rfl (lv_at hl 1 rfl) ?_
        refine lv_aload hx hb (dk hX4_whatKind_1 8 rfl) (lv_at hl 0 rfl) ?_
        refine lv_iload_n hx hb (dk hX4_whatKind_1 9 rfl) rfl (lv_at hl 2 rfl) ?_
        obtain ⟨u_13, e_14, hf⟩ := Option.bind_eq_some_iff.mp hf
        refine Ct.V (As := [.ref (adm 0), .int x1]) (rest := []) (st1 := [.int u_13.2.2.2.2]) (w1 := (wT G ad adt adb ade adm adn adk adp adr refusals tcells lcells u_13.1 u_5.2.1 u_5.2.2.1 m_kind_11 u_5.2.2.2.2.1 u_5.2.2.2.2.2.1 u_5.2.2.2.2.2.2.1 n_there n_used n_hidden n_kind n_figure n_cargo n_load k_there k_used k_hidden k_kind k_figure k_cargo k_load isKept tlen llen u_5.2.2.2.2.2.2.2.1 u_13.2.1 u_13.2.2.1 u_13.2.2.2.1 n_ships n_inn n_coughs n_day k_ships k_inn k_coughs k_day held perm hist)) C hs (c_X4_tellsDepths e_14) tw_566 tw_568 tw_17 tw_79 tw_569 nq_X4_tellsDepths (by decide) 0 4 rfl rfl rfl rfl hl.1 rfl (Nat.le_of_ble_eq_true rfl) (dk hX4_whatKind_1 10 rfl) ⟨Nat.zero_le _, Nat.zero_le _⟩ rfl (fun H locs hs => ?_)
        refine lv_if_eq (tgt := 106) hx hb (dk hX4_whatKind_1 11 rfl) (by decide) (fun hc => ?_) (fun hc => ?_)
        · replace hf := ip hf hc
          refine lv_iinc (v := (x5 + (1 : Int32))) (lv' := [(5, .int (x5 + (1 : Int32))), (6, .ref (adm 0)), (0, .ref (ad 0)), (1, .int x1), (2, .int x2), (3, .int x3), (4, .int x4)]) hx hb (dk hX4_whatKind_1 18 rfl) hl (k := 6) rfl (by first | rfl | decide) (by decide) rfl (fun ls hl => ?_)
          refine lv_goto (tgt := 51) hx hb (dk hX4_whatKind_1 19 rfl) (by decide) ?_
          exact ih _ _ _ _ _ _ _ _ _ _ _ _ _ hf _ _ hs _ (lv_sub hl [2, 3, 4, 5, 6, 0] rfl) hk
        · replace hf := in_ hf hc
          refine lv_iload_n hx hb (dk hX4_whatKind_1 12 rfl) rfl (lv_at hl 4 rfl) ?_
          refine lv_iconst (v := (1 : Int32)) hx hb (dk hX4_whatKind_1 13 rfl) (by decide) ?_
          refine lv_iload hx hb (dk hX4_whatKind_1 14 rfl) (lv_at hl 6 rfl) ?_
          refine lv_ishl hx hb (dk hX4_whatKind_1 15 rfl) ?_
          refine lv_ior hx hb (dk hX4_whatKind_1 16 rfl) ?_
          refine lv_istore_n (lv' := [(3, .int (x3 ||| ((1 : Int32) <<< (x5 &&& 31)))), (6, .ref (adm 0)), (0, .ref (ad 0)), (1, .int x1), (2, .int x2), (4, .int x4), (5, .int x5)]) hx hb (dk hX4_whatKind_1 17 rfl) rfl hl (by decide) rfl (fun ls hl => ?_)
          refine lv_iinc (v := (x5 + (1 : Int32))) (lv' := [(5, .int (x5 + (1 : Int32))), (3, .int (x3 ||| ((1 : Int32) <<< (x5 &&& 31)))), (6, .ref (adm 0)), (0, .ref (ad 0)), (1, .int x1), (2, .int x2), (4, .int x4)]) hx hb (dk hX4_whatKind_1 18 rfl) hl (k := 6) rfl (by first | rfl | decide) (by decide) rfl (fun ls hl => ?_)
          refine lv_goto (tgt := 51) hx hb (dk hX4_whatKind_1 19 rfl) (by decide) ?_
          exact ih _ _ _ _ _ _ _ _ _ _ _ _ _ hf _ _ hs _ (lv_sub hl [3, 4, 5, 1, 6, 0] rfl) hk
set_option maxRecDepth 100000 in
set_option maxHeartbeats 4000000 in
theorem c_X4_whatKind {l : Launch} {G : Gx} {ad adt adb ade adm adn adk adp : Nat → Nat} {adr : Nat → Nat → Nat} {refusals tcells lcells m_there m_used m_hidden m_kind m_figure m_cargo m_load n_there n_used n_hidden n_kind n_figure n_cargo n_load k_there k_used k_hidden k_kind k_figure k_cargo k_load : List Int32} {isKept tlen llen m_ships m_inn m_coughs m_day n_ships n_inn n_coughs n_day k_ships k_inn k_coughs k_day held : Int32} {perm : Nat → Nat} {hist : Nat → Hs} {p0 : Int32} {p1 : Int32} {out : List Int32 × List Int32 × List Int32 × List Int32 × List Int32 × List Int32 × List Int32 × List Int32 × Int32 × Int32 × Int32 × Int32 × Int32} (hf : X4_whatKind refusals tcells m_there m_used m_hidden m_kind m_figure m_cargo m_load n_there n_used n_hidden n_kind n_figure n_cargo n_load tlen m_ships m_inn m_coughs m_day n_ships n_inn n_coughs n_day p0 p1 = some out) : Ct l G yX4_whatKind cX4_whatKind 7 (some .int) 5 112 [.ref (ad 0), .int p0, .int p1] (wT G ad adt adb ade adm adn adk adp adr refusals tcells lcells m_there m_used m_hidden m_kind m_figure m_cargo m_load n_there n_used n_hidden n_kind n_figure n_cargo n_load k_there k_used k_hidden k_kind k_figure k_cargo k_load isKept tlen llen m_ships m_inn m_coughs m_day n_ships n_inn n_coughs n_day k_ships k_inn k_coughs k_day held perm hist) (some (.int out.2.2.2.2.2.2.2.2.2.2.2.2)) (wT G ad adt adb ade adm adn adk adp adr out.1 tcells lcells out.2.1 out.2.2.1 out.2.2.2.1 out.2.2.2.2.1 out.2.2.2.2.2.1 out.2.2.2.2.2.2.1 out.2.2.2.2.2.2.2.1 n_there n_used n_hidden n_kind n_figure n_cargo n_load k_there k_used k_hidden k_kind k_figure k_cargo k_load isKept tlen llen out.2.2.2.2.2.2.2.2.1 out.2.2.2.2.2.2.2.2.2.1 out.2.2.2.2.2.2.2.2.2.2.1 out.2.2.2.2.2.2.2.2.2.2.2.1 n_ships n_inn n_coughs n_day k_ships k_inn k_coughs k_day held perm hist) := by
  refine Ct.intro RX4 rfl (plainFor_of_name (by decide)) (Nat.le_of_ble_eq_true rfl) rfl ?_
  intro p e s m args below meth c A C H locs hs ls hl
  obtain ⟨hx, hb, hml, hown, hts, hK, hret, hlk⟩ := id C
  have hl : lv_has ls 7 [(0, .ref (ad 0)), (1, .int p0), (2, .int p1)] := hl
  unfold X4_whatKind at hf
  refine lv_aload_n hx hb (dk hX4_whatKind_0 0 rfl) rfl (lv_at hl 0 rfl) ?_
  refine rg ui4 rfl C hs 0 rfl 0 (by decide) tw_197 rfl rfl (dk hX4_whatKind_0 1 rfl) ?_
  refine lv_iload_n hx hb (dk hX4_whatKind_0 2 rfl) rfl (lv_at hl 1 rfl) ?_
  obtain ⟨u_1, e_2, hf⟩ := Option.bind_eq_some_iff.mp hf
  refine Ct.V (As := [.int p0]) (rest := []) (st1 := [.int u_1]) (w1 := (wT G ad adt adb ade adm adn adk adp adr refusals tcells lcells m_there m_used m_hidden m_kind m_figure m_cargo m_load n_there n_used n_hidden n_kind n_figure n_cargo n_load k_there k_used k_hidden k_kind k_figure k_cargo k_load isKept tlen llen m_ships m_inn m_coughs m_day n_ships n_inn n_coughs n_day k_ships k_inn k_coughs k_day held perm hist)) C hs (c_X0_isShip__now e_2) tw_393 tw_294 tw_295 tw_80 tw_296 nq_X0_isShip (by decide) 15 0 rfl rfl rfl rfl hl.1 rfl (Nat.le_of_ble_eq_true rfl) (dk hX4_whatKind_0 3 rfl) ⟨Nat.zero_le _, Nat.zero_le _⟩ rfl (fun H locs hs => ?_)
  refine lv_if_ne (tgt := 17) hx hb (dk hX4_whatKind_0 4 rfl) (by decide) (fun hc => ?_) (fun hc => ?_)
  · replace hf := in_ hf hc
    refine lv_iload_n hx hb (dk hX4_whatKind_0 9 rfl) rfl (lv_at hl 2 rfl) ?_
    refine lv_if_lt (tgt := 26) hx hb (dk hX4_whatKind_0 10 rfl) (by decide) (fun hc => ?_) (fun hc => ?_)
    · replace hf := ip hf hc
      refine lv_aload_n hx hb (dk hX4_whatKind_0 14 rfl) rfl (lv_at hl 0 rfl) ?_
      refine lv_bipush (v := (-2 : Int32)) hx hb (dk hX4_whatKind_0 15 rfl) (by decide) ?_
      obtain ⟨u_3, e_4, hf⟩ := Option.bind_eq_some_iff.mp hf
      refine Ct.V (As := [.int (-2 : Int32)]) (rest := []) (st1 := [.int u_3.2]) (w1 := (wT G ad adt adb ade adm adn adk adp adr u_3.1 tcells lcells m_there m_used m_hidden m_kind m_figure m_cargo m_load n_there n_used n_hidden n_kind n_figure n_cargo n_load k_there k_used k_hidden k_kind k_figure k_cargo k_load isKept tlen llen m_ships m_inn m_coughs m_day n_ships n_inn n_coughs n_day k_ships k_inn k_coughs k_day held perm hist)) C hs (c_X4_refuse e_4) tw_226 tw_228 tw_0 tw_79 tw_229 nq_X4_refuse (by decide) 0 4 rfl rfl rfl rfl hl.1 rfl (Nat.le_of_ble_eq_true rfl) (dk hX4_whatKind_0 16 rfl) ⟨Nat.zero_le _, Nat.zero_le _⟩ rfl (fun H locs hs => ?_)
      cases hf
      exact ri C hs (dk hX4_whatKind_0 17 rfl)
    · replace hf := in_ hf hc
      refine lv_iload_n hx hb (dk hX4_whatKind_0 11 rfl) rfl (lv_at hl 2 rfl) ?_
      refine lv_iconst (v := (1 : Int32)) hx hb (dk hX4_whatKind_0 12 rfl) (by decide) ?_
      refine lv_icmp_le (tgt := 33) hx hb (dk hX4_whatKind_0 13 rfl) (by decide) (fun hc => ?_) (fun hc => ?_)
      · replace hf := ip hf hc
        refine lv_iconst (v := (0 : Int32)) hx hb (dk hX4_whatKind_0 18 rfl) (by decide) ?_
        refine lv_istore_n (lv' := [(3, .int (0 : Int32)), (0, .ref (ad 0)), (1, .int p0), (2, .int p1)]) hx hb (dk hX4_whatKind_0 19 rfl) rfl hl (by decide) rfl (fun ls hl => ?_)
        refine lv_iload_n hx hb (dk hX4_whatKind_0 20 rfl) rfl (lv_at hl 3 rfl) ?_
        refine lv_if_ne (tgt := 44) hx hb (dk hX4_whatKind_0 21 rfl) (by decide) (fun hc => ?_) (fun hc => ?_)
        · replace hf := in_ hf hc
          refine lv_bipush (v := (10 : Int32)) hx hb (dk hX4_whatKind_0 24 rfl) (by decide) ?_
          refine lv_istore (lv' := [(4, .int (10 : Int32)), (3, .int (0 : Int32)), (0, .ref (ad 0)), (1, .int p0), (2, .int p1)]) hx hb (dk hX4_whatKind_0 25 rfl) hl (by decide) rfl (fun ls hl => ?_)
          refine lv_iconst (v := (0 : Int32)) hx hb (dk hX4_whatKind_0 26 rfl) (by decide) ?_
          refine lv_istore (lv' := [(5, .int (0 : Int32)), (4, .int (10 : Int32)), (3, .int (0 : Int32)), (0, .ref (ad 0)), (1, .int p0), (2, .int p1)]) hx hb (dk hX4_whatKind_0 27 rfl) hl (by decide) rfl (fun ls hl => ?_)
          refine l_X4_whatKind_L51 C 1000 _ _ _ _ _ _ _ _ _ _ _ _ _ hf _ _ hs _ (lv_sub hl [3, 4, 5, 2, 1, 0] rfl) (fun y3_15 m_there_16 m_used_17 m_hidden_18 m_kind_19 m_figure_20 m_cargo_21 m_load_22 m_ships_23 m_inn_24 m_coughs_25 m_day_26 hf H locs hs ls hl => ?_)
          refine lv_iload_n hx hb (dk hX4_whatKind_1 20 rfl) rfl (lv_at hl 0 rfl) ?_
          cases hf
          exact ri C hs (dk hX4_whatKind_1 21 rfl)
        · replace hf := ip hf hc
          refine lv_bipush (v := (6 : Int32)) hx hb (dk hX4_whatKind_0 22 rfl) (by decide) ?_
          refine lv_goto (tgt := 46) hx hb (dk hX4_whatKind_0 23 rfl) (by decide) ?_
          refine lv_istore (lv' := [(4, .int (6 : Int32)), (3, .int (0 : Int32)), (0, .ref (ad 0)), (1, .int p0), (2, .int p1)]) hx hb (dk hX4_whatKind_0 25 rfl) hl (by decide) rfl (fun ls hl => ?_)
          refine lv_iconst (v := (0 : Int32)) hx hb (dk hX4_whatKind_0 26 rfl) (by decide) ?_
          refine lv_istore (lv' := [(5, .int (0 : Int32)), (4, .int (6 : Int32)), (3, .int (0 : Int32)), (0, .ref (ad 0)), (1, .int p0), (2, .int p1)]) hx hb (dk hX4_whatKind_0 27 rfl) hl (by decide) rfl (fun ls hl => ?_)
          refine l_X4_whatKind_L51 C 1000 _ _ _ _ _ _ _ _ _ _ _ _ _ hf _ _ hs _ (lv_sub hl [3, 4, 5, 2, 1, 0] rfl) (fun y3_27 m_there_28 m_used_29 m_hidden_30 m_kind_31 m_figure_32 m_cargo_33 m_load_34 m_ships_35 m_inn_36 m_coughs_37 m_day_38 hf H locs hs ls hl => ?_)
          refine lv_iload_n hx hb (dk hX4_whatKind_1 20 rfl) rfl (lv_at hl 0 rfl) ?_
          cases hf
          exact ri C hs (dk hX4_whatKind_1 21 rfl)
      · replace hf := in_ hf hc
        refine lv_aload_n hx hb (dk hX4_whatKind_0 14 rfl) rfl (lv_at hl 0 rfl) ?_
        refine lv_bipush (v := (-2 : Int32)) hx hb (dk hX4_whatKind_0 15 rfl) (by decide) ?_
        obtain ⟨u_39, e_40, hf⟩ := Option.bind_eq_some_iff.mp hf
        refine Ct.V (As := [.int (-2 : Int32)]) (rest := []) (st1 := [.int u_39.2]) (w1 := (wT G ad adt adb ade adm adn adk adp adr u_39.1 tcells lcells m_there m_used m_hidden m_kind m_figure m_cargo m_load n_there n_used n_hidden n_kind n_figure n_cargo n_load k_there k_used k_hidden k_kind k_figure k_cargo k_load isKept tlen llen m_ships m_inn m_coughs m_day n_ships n_inn n_coughs n_day k_ships k_inn k_coughs k_day held perm hist)) C hs (c_X4_refuse e_40) tw_226 tw_228 tw_0 tw_79 tw_229 nq_X4_refuse (by decide) 0 4 rfl rfl rfl rfl hl.1 rfl (Nat.le_of_ble_eq_true rfl) (dk hX4_whatKind_0 16 rfl) ⟨Nat.zero_le _, Nat.zero_le _⟩ rfl (fun H locs hs => ?_)
        cases hf
        exact ri C hs (dk hX4_whatKind_0 17 rfl)
  · replace hf := ip hf hc
    refine lv_aload_n hx hb (dk hX4_whatKind_0 5 rfl) rfl (lv_at hl 0 rfl) ?_
    refine lv_iconst (v := (-1 : Int32)) hx hb (dk hX4_whatKind_0 6 rfl) (by decide) ?_
    obtain ⟨u_41, e_42, hf⟩ := Option.bind_eq_some_iff.mp hf
    refine Ct.V (As := [.int (-1 : Int32)]) (rest := []) (st1 := [.int u_41.2]) (w1 := (wT G ad adt adb ade adm adn adk adp adr u_41.1 tcells lcells m_there m_used m_hidden m_kind m_figure m_cargo m_load n_there n_used n_hidden n_kind n_figure n_cargo n_load k_there k_used k_hidden k_kind k_figure k_cargo k_load isKept tlen llen m_ships m_inn m_coughs m_day n_ships n_inn n_coughs n_day k_ships k_inn k_coughs k_day held perm hist)) C hs (c_X4_refuse e_42) tw_226 tw_228 tw_0 tw_79 tw_229 nq_X4_refuse (by decide) 0 4 rfl rfl rfl rfl hl.1 rfl (Nat.le_of_ble_eq_true rfl) (dk hX4_whatKind_0 7 rfl) ⟨Nat.zero_le _, Nat.zero_le _⟩ rfl (fun H locs hs => ?_)
    cases hf
    exact ri C hs (dk hX4_whatKind_0 8 rfl)

def X4_loss (m_there : List Int32) (m_used : List Int32) (m_hidden : List Int32) (m_kind : List Int32) (m_figure : List Int32) (m_cargo : List Int32) (m_load : List Int32) (n_there : List Int32) (n_used : List Int32) (n_hidden : List Int32) (n_kind : List Int32) (n_figure : List Int32) (n_cargo : List Int32) (n_load : List Int32) (m_ships : Int32) (m_inn : Int32) (m_coughs : Int32) (m_day : Int32) (n_ships : Int32) (n_inn : Int32) (n_coughs : Int32) (n_day : Int32) (p0 : Int32) (p1 : Int32) (p2 : Int32) (p3 : Int32) (p4 : Int32) : Option (List Int32 × List Int32 × List Int32 × List Int32 × List Int32 × List Int32 × List Int32 × Int32 × Int32 × Int32 × Int32 × Int32) :=
  (X4_fromNow m_there m_used m_hidden m_kind m_figure m_cargo m_load n_there n_used n_hidden n_kind n_figure n_cargo n_load m_ships m_inn m_coughs m_day n_ships n_inn n_coughs n_day).bind fun u_1 =>
  if (p4 &&& (2 : Int32)) = (0 : Int32) then
  if (p4 &&& (1 : Int32)) = (0 : Int32) then
  (X0_passDays u_1.1 u_1.2.1 u_1.2.2.1 u_1.2.2.2.1 u_1.2.2.2.2.1 u_1.2.2.2.2.2.1 u_1.2.2.2.2.2.2.1 u_1.2.2.2.2.2.2.2.1 u_1.2.2.2.2.2.2.2.2.1 u_1.2.2.2.2.2.2.2.2.2.1 u_1.2.2.2.2.2.2.2.2.2.2 p3).bind fun u_3 =>
  if p0 = (2 : Int32) then
  (X0_lackOf u_3.1 u_1.2.1 p1).bind fun u_7 =>
  if (p4 &&& p0) = (0 : Int32) then
  some (u_3.1, u_1.2.1, u_1.2.2.1, u_1.2.2.2.1, u_1.2.2.2.2.1, u_1.2.2.2.2.2.1, u_1.2.2.2.2.2.2.1, u_1.2.2.2.2.2.2.2.1, u_3.2.1, u_3.2.2.1, u_3.2.2.2, u_7)
  else
  some (u_3.1, u_1.2.1, u_1.2.2.1, u_1.2.2.2.1, u_1.2.2.2.2.1, u_1.2.2.2.2.2.1, u_1.2.2.2.2.2.2.1, u_1.2.2.2.2.2.2.2.1, u_3.2.1, u_3.2.2.1, u_3.2.2.2, (u_7 + (5 : Int32)))
  else
  (X0_lackOf u_3.1 u_1.2.1 p2).bind fun u_5 =>
  if (p4 &&& p0) = (0 : Int32) then
  some (u_3.1, u_1.2.1, u_1.2.2.1, u_1.2.2.2.1, u_1.2.2.2.2.1, u_1.2.2.2.2.2.1, u_1.2.2.2.2.2.2.1, u_1.2.2.2.2.2.2.2.1, u_3.2.1, u_3.2.2.1, u_3.2.2.2, u_5)
  else
  some (u_3.1, u_1.2.1, u_1.2.2.1, u_1.2.2.2.1, u_1.2.2.2.2.1, u_1.2.2.2.2.2.1, u_1.2.2.2.2.2.2.1, u_1.2.2.2.2.2.2.2.1, u_3.2.1, u_3.2.2.1, u_3.2.2.2, (u_5 + (5 : Int32)))
  else
  (rd u_1.1 p2).bind fun v_9 =>
  (X0_hideAway u_1.1 u_1.2.2.1 p2 (mmin (10 : Int32) v_9)).bind fun u_11 =>
  (X0_passDays u_11.1 u_1.2.1 u_11.2 u_1.2.2.2.1 u_1.2.2.2.2.1 u_1.2.2.2.2.2.1 u_1.2.2.2.2.2.2.1 u_1.2.2.2.2.2.2.2.1 u_1.2.2.2.2.2.2.2.2.1 u_1.2.2.2.2.2.2.2.2.2.1 u_1.2.2.2.2.2.2.2.2.2.2 p3).bind fun u_13 =>
  if p0 = (2 : Int32) then
  (X0_lackOf u_13.1 u_1.2.1 p1).bind fun u_17 =>
  if (p4 &&& p0) = (0 : Int32) then
  some (u_13.1, u_1.2.1, u_11.2, u_1.2.2.2.1, u_1.2.2.2.2.1, u_1.2.2.2.2.2.1, u_1.2.2.2.2.2.2.1, u_1.2.2.2.2.2.2.2.1, u_13.2.1, u_13.2.2.1, u_13.2.2.2, u_17)
  else
  some (u_13.1, u_1.2.1, u_11.2, u_1.2.2.2.1, u_1.2.2.2.2.1, u_1.2.2.2.2.2.1, u_1.2.2.2.2.2.2.1, u_1.2.2.2.2.2.2.2.1, u_13.2.1, u_13.2.2.1, u_13.2.2.2, (u_17 + (5 : Int32)))
  else
  (X0_lackOf u_13.1 u_1.2.1 p2).bind fun u_15 =>
  if (p4 &&& p0) = (0 : Int32) then
  some (u_13.1, u_1.2.1, u_11.2, u_1.2.2.2.1, u_1.2.2.2.2.1, u_1.2.2.2.2.2.1, u_1.2.2.2.2.2.2.1, u_1.2.2.2.2.2.2.2.1, u_13.2.1, u_13.2.2.1, u_13.2.2.2, u_15)
  else
  some (u_13.1, u_1.2.1, u_11.2, u_1.2.2.2.1, u_1.2.2.2.2.1, u_1.2.2.2.2.2.1, u_1.2.2.2.2.2.2.1, u_1.2.2.2.2.2.2.2.1, u_13.2.1, u_13.2.2.1, u_13.2.2.2, (u_15 + (5 : Int32)))
  else
  (rd u_1.1 p1).bind fun v_19 =>
  (X0_hideAway u_1.1 u_1.2.2.1 p1 (mmin (10 : Int32) v_19)).bind fun u_21 =>
  if (p4 &&& (1 : Int32)) = (0 : Int32) then
  (X0_passDays u_21.1 u_1.2.1 u_21.2 u_1.2.2.2.1 u_1.2.2.2.2.1 u_1.2.2.2.2.2.1 u_1.2.2.2.2.2.2.1 u_1.2.2.2.2.2.2.2.1 u_1.2.2.2.2.2.2.2.2.1 u_1.2.2.2.2.2.2.2.2.2.1 u_1.2.2.2.2.2.2.2.2.2.2 p3).bind fun u_23 =>
  if p0 = (2 : Int32) then
  (X0_lackOf u_23.1 u_1.2.1 p1).bind fun u_27 =>
  if (p4 &&& p0) = (0 : Int32) then
  some (u_23.1, u_1.2.1, u_21.2, u_1.2.2.2.1, u_1.2.2.2.2.1, u_1.2.2.2.2.2.1, u_1.2.2.2.2.2.2.1, u_1.2.2.2.2.2.2.2.1, u_23.2.1, u_23.2.2.1, u_23.2.2.2, u_27)
  else
  some (u_23.1, u_1.2.1, u_21.2, u_1.2.2.2.1, u_1.2.2.2.2.1, u_1.2.2.2.2.2.1, u_1.2.2.2.2.2.2.1, u_1.2.2.2.2.2.2.2.1, u_23.2.1, u_23.2.2.1, u_23.2.2.2, (u_27 + (5 : Int32)))
  else
  (X0_lackOf u_23.1 u_1.2.1 p2).bind fun u_25 =>
  if (p4 &&& p0) = (0 : Int32) then
  some (u_23.1, u_1.2.1, u_21.2, u_1.2.2.2.1, u_1.2.2.2.2.1, u_1.2.2.2.2.2.1, u_1.2.2.2.2.2.2.1, u_1.2.2.2.2.2.2.2.1, u_23.2.1, u_23.2.2.1, u_23.2.2.2, u_25)
  else
  some (u_23.1, u_1.2.1, u_21.2, u_1.2.2.2.1, u_1.2.2.2.2.1, u_1.2.2.2.2.2.1, u_1.2.2.2.2.2.2.1, u_1.2.2.2.2.2.2.2.1, u_23.2.1, u_23.2.2.1, u_23.2.2.2, (u_25 + (5 : Int32)))
  else
  (rd u_21.1 p2).bind fun v_29 =>
  (X0_hideAway u_21.1 u_21.2 p2 (mmin (10 : Int32) v_29)).bind fun u_31 =>
  (X0_passDays u_31.1 u_1.2.1 u_31.2 u_1.2.2.2.1 u_1.2.2.2.2.1 u_1.2.2.2.2.2.1 u_1.2.2.2.2.2.2.1 u_1.2.2.2.2.2.2.2.1 u_1.2.2.2.2.2.2.2.2.1 u_1.2.2.2.2.2.2.2.2.2.1 u_1.2.2.2.2.2.2.2.2.2.2 p3).bind fun u_33 =>
  if p0 = (2 : Int32) then
  (X0_lackOf u_33.1 u_1.2.1 p1).bind fun u_37 =>
  if (p4 &&& p0) = (0 : Int32) then
  some (u_33.1, u_1.2.1, u_31.2, u_1.2.2.2.1, u_1.2.2.2.2.1, u_1.2.2.2.2.2.1, u_1.2.2.2.2.2.2.1, u_1.2.2.2.2.2.2.2.1, u_33.2.1, u_33.2.2.1, u_33.2.2.2, u_37)
  else
  some (u_33.1, u_1.2.1, u_31.2, u_1.2.2.2.1, u_1.2.2.2.2.1, u_1.2.2.2.2.2.1, u_1.2.2.2.2.2.2.1, u_1.2.2.2.2.2.2.2.1, u_33.2.1, u_33.2.2.1, u_33.2.2.2, (u_37 + (5 : Int32)))
  else
  (X0_lackOf u_33.1 u_1.2.1 p2).bind fun u_35 =>
  if (p4 &&& p0) = (0 : Int32) then
  some (u_33.1, u_1.2.1, u_31.2, u_1.2.2.2.1, u_1.2.2.2.2.1, u_1.2.2.2.2.2.1, u_1.2.2.2.2.2.2.1, u_1.2.2.2.2.2.2.2.1, u_33.2.1, u_33.2.2.1, u_33.2.2.2, u_35)
  else
  some (u_33.1, u_1.2.1, u_31.2, u_1.2.2.2.1, u_1.2.2.2.2.1, u_1.2.2.2.2.2.1, u_1.2.2.2.2.2.2.1, u_1.2.2.2.2.2.2.2.1, u_33.2.1, u_33.2.2.1, u_33.2.2.2, (u_35 + (5 : Int32)))
set_option maxRecDepth 100000 in
set_option maxHeartbeats 4000000 in
theorem c_X4_loss {l : Launch} {G : Gx} {ad adt adb ade adm adn adk adp : Nat → Nat} {adr : Nat → Nat → Nat} {refusals tcells lcells m_there m_used m_hidden m_kind m_figure m_cargo m_load n_there n_used n_hidden n_kind n_figure n_cargo n_load k_there k_used k_hidden k_kind k_figure k_cargo k_load : List Int32} {isKept tlen llen m_ships m_inn m_coughs m_day n_ships n_inn n_coughs n_day k_ships k_inn k_coughs k_day held : Int32} {perm : Nat → Nat} {hist : Nat → Hs} {p0 : Int32} {p1 : Int32} {p2 : Int32} {p3 : Int32} {p4 : Int32} {out : List Int32 × List Int32 × List Int32 × List Int32 × List Int32 × List Int32 × List Int32 × Int32 × Int32 × Int32 × Int32 × Int32} (hf : X4_loss m_there m_used m_hidden m_kind m_figure m_cargo m_load n_there n_used n_hidden n_kind n_figure n_cargo n_load m_ships m_inn m_coughs m_day n_ships n_inn n_coughs n_day p0 p1 p2 p3 p4 = some out) : Ct l G yX4_loss cX4_loss 8 (some .int) 5 111 [.ref (ad 0), .int p0, .int p1, .int p2, .int p3, .int p4] (wT G ad adt adb ade adm adn adk adp adr refusals tcells lcells m_there m_used m_hidden m_kind m_figure m_cargo m_load n_there n_used n_hidden n_kind n_figure n_cargo n_load k_there k_used k_hidden k_kind k_figure k_cargo k_load isKept tlen llen m_ships m_inn m_coughs m_day n_ships n_inn n_coughs n_day k_ships k_inn k_coughs k_day held perm hist) (some (.int out.2.2.2.2.2.2.2.2.2.2.2)) (wT G ad adt adb ade adm adn adk adp adr refusals tcells lcells out.1 out.2.1 out.2.2.1 out.2.2.2.1 out.2.2.2.2.1 out.2.2.2.2.2.1 out.2.2.2.2.2.2.1 n_there n_used n_hidden n_kind n_figure n_cargo n_load k_there k_used k_hidden k_kind k_figure k_cargo k_load isKept tlen llen out.2.2.2.2.2.2.2.1 out.2.2.2.2.2.2.2.2.1 out.2.2.2.2.2.2.2.2.2.1 out.2.2.2.2.2.2.2.2.2.2.1 n_ships n_inn n_coughs n_day k_ships k_inn k_coughs k_day held perm hist) := by
  refine Ct.intro RX4 rfl (plainFor_of_name (by decide)) (Nat.le_of_ble_eq_true rfl) rfl ?_
  intro p e s m args below meth c A C H locs hs ls hl
  obtain ⟨hx, hb, hml, hown, hts, hK, hret, hlk⟩ := id C
  have hl : lv_has ls 8 [(0, .ref (ad 0)), (1, .int p0), (2, .int p1), (3, .int p2), (4, .int p3), (5, .int p4)] := hl
  unfold X4_loss at hf
  refine lv_aload_n hx hb (dk hX4_loss_0 0 rfl) rfl (lv_at hl 0 rfl) ?_
  obtain ⟨u_1, e_2, hf⟩ := Option.bind_eq_some_iff.mp hf
  refine Ct.V (As := []) (rest := []) (st1 := [.ref (adm 0)]) (w1 := (wT G ad adt adb ade adm adn adk adp adr refusals tcells lcells u_1.1 u_1.2.1 u_1.2.2.1 u_1.2.2.2.1 u_1.2.2.2.2.1 u_1.2.2.2.2.2.1 u_1.2.2.2.2.2.2.1 n_there n_used n_hidden n_kind n_figure n_cargo n_load k_there k_used k_hidden k_kind k_figure k_cargo k_load isKept tlen llen u_1.2.2.2.2.2.2.2.1 u_1.2.2.2.2.2.2.2.2.1 u_1.2.2.2.2.2.2.2.2.2.1 u_1.2.2.2.2.2.2.2.2.2.2 n_ships n_inn n_coughs n_day k_ships k_inn k_coughs k_day held perm hist)) C hs (c_X4_fromNow e_2) tw_246 tw_248 tw_1 tw_79 tw_249 nq_X4_fromNow (by decide) 0 4 rfl rfl rfl rfl hl.1 rfl (Nat.le_of_ble_eq_true rfl) (dk hX4_loss_0 1 rfl) ⟨Nat.zero_le _, Nat.zero_le _⟩ rfl (fun H locs hs => ?_)
  refine lv_astore (lv' := [(6, .ref (adm 0)), (0, .ref (ad 0)), (1, .int p0), (2, .int p1), (3, .int p2), (4, .int p3), (5, .int p4)]) hx hb (dk hX4_loss_0 2 rfl) hl (by decide) rfl (fun ls hl => ?_)
  refine lv_iload hx hb (dk hX4_loss_0 3 rfl) (lv_at hl 6 rfl) ?_
  refine lv_iconst (v := (2 : Int32)) hx hb (dk hX4_loss_0 4 rfl) (by decide) ?_
  refine lv_iand hx hb (dk hX4_loss_0 5 rfl) ?_
  refine lv_if_eq (tgt := 31) hx hb (dk hX4_loss_0 6 rfl) (by decide) (fun hc => ?_) (fun hc => ?_)
  · replace hf := ip hf hc
    refine lv_iload hx hb (dk hX4_loss_0 16 rfl) (lv_at hl 6 rfl) ?_
    refine lv_iconst (v := (1 : Int32)) hx hb (dk hX4_loss_0 17 rfl) (by decide) ?_
    refine lv_iand hx hb (dk hX4_loss_0 18 rfl) ?_
    refine lv_if_eq (tgt := 56) hx hb (dk hX4_loss_0 19 rfl) (by decide) (fun hc => ?_) (fun hc => ?_)
    · replace hf := ip hf hc
      refine lv_aload hx hb (dk hX4_loss_0 29 rfl) (lv_at hl 0 rfl) ?_
      refine lv_iload hx hb (dk hX4_loss_0 30 rfl) (lv_at hl 5 rfl) ?_
      obtain ⟨u_3, e_4, hf⟩ := Option.bind_eq_some_iff.mp hf
      refine Ct.V (As := [.int p3]) (rest := []) (st1 := []) (w1 := (wT G ad adt adb ade adm adn adk adp adr refusals tcells lcells u_3.1 u_1.2.1 u_1.2.2.1 u_1.2.2.2.1 u_1.2.2.2.2.1 u_1.2.2.2.2.2.1 u_1.2.2.2.2.2.2.1 n_there n_used n_hidden n_kind n_figure n_cargo n_load k_there k_used k_hidden k_kind k_figure k_cargo k_load isKept tlen llen u_1.2.2.2.2.2.2.2.1 u_3.2.1 u_3.2.2.1 u_3.2.2.2 n_ships n_inn n_coughs n_day k_ships k_inn k_coughs k_day held perm hist)) C hs (c_X0_passDays__mind e_4) tw_444 tw_325 tw_326 tw_80 tw_327 nq_X0_passDays (by decide) 7 0 rfl rfl rfl rfl hl.1 rfl (Nat.le_of_ble_eq_true rfl) (dk hX4_loss_0 31 rfl) ⟨Nat.zero_le _, Nat.zero_le _⟩ rfl (fun H locs hs => ?_)
      refine lv_aload hx hb (dk hX4_loss_0 32 rfl) (lv_at hl 0 rfl) ?_
      refine lv_iload_n hx hb (dk hX4_loss_0 33 rfl) rfl (lv_at hl 2 rfl) ?_
      refine lv_iconst (v := (2 : Int32)) hx hb (dk hX4_loss_0 34 rfl) (by decide) ?_
      refine lv_icmp_ne (tgt := 74) hx hb (dk hX4_loss_0 35 rfl) (by decide) (fun hc => ?_) (fun hc => ?_)
      · replace hf := in_ hf hc
        refine lv_iload_n hx hb (dk hX4_loss_0 38 rfl) rfl (lv_at hl 4 rfl) ?_
        obtain ⟨u_5, e_6, hf⟩ := Option.bind_eq_some_iff.mp hf
        refine Ct.V (As := [.int p2]) (rest := []) (st1 := [.int u_5]) (w1 := (wT G ad adt adb ade adm adn adk adp adr refusals tcells lcells u_3.1 u_1.2.1 u_1.2.2.1 u_1.2.2.2.1 u_1.2.2.2.2.1 u_1.2.2.2.2.2.1 u_1.2.2.2.2.2.2.1 n_there n_used n_hidden n_kind n_figure n_cargo n_load k_there k_used k_hidden k_kind k_figure k_cargo k_load isKept tlen llen u_1.2.2.2.2.2.2.2.1 u_3.2.1 u_3.2.2.1 u_3.2.2.2 n_ships n_inn n_coughs n_day k_ships k_inn k_coughs k_day held perm hist)) C hs (c_X0_lackOf__mind e_6) tw_388 tw_351 tw_352 tw_80 tw_353 nq_X0_lackOf (by decide) 7 0 rfl rfl rfl rfl hl.1 rfl (Nat.le_of_ble_eq_true rfl) (dk hX4_loss_0 39 rfl) ⟨Nat.zero_le _, Nat.zero_le _⟩ rfl (fun H locs hs => ?_)
        refine lv_istore (lv' := [(7, .int u_5), (6, .ref (adm 0)), (0, .ref (ad 0)), (1, .int p0), (2, .int p1), (3, .int p2), (4, .int p3), (5, .int p4)]) hx hb (dk hX4_loss_1 0 rfl) hl (by decide) rfl (fun ls hl => ?_)
        refine lv_iload hx hb (dk hX4_loss_1 1 rfl) (lv_at hl 7 rfl) ?_
        refine lv_iload_n hx hb (dk hX4_loss_1 2 rfl) rfl (lv_at hl 3 rfl) ?_
        refine lv_iand hx hb (dk hX4_loss_1 3 rfl) ?_
        refine lv_if_eq (tgt := 94) hx hb (dk hX4_loss_1 4 rfl) (by decide) (fun hc => ?_) (fun hc => ?_)
        · replace hf := ip hf hc
          refine lv_iload hx hb (dk hX4_loss_1 9 rfl) (lv_at hl 0 rfl) ?_
          cases hf
          exact ri C hs (dk hX4_loss_1 10 rfl)
        · replace hf := in_ hf hc
          refine lv_iload hx hb (dk hX4_loss_1 5 rfl) (lv_at hl 0 rfl) ?_
          refine lv_iconst (v := (5 : Int32)) hx hb (dk hX4_loss_1 6 rfl) (by decide) ?_
          refine lv_iadd hx hb (dk hX4_loss_1 7 rfl) ?_
          refine lv_goto (tgt := 96) hx hb (dk hX4_loss_1 8 rfl) (by decide) ?_
          cases hf
          exact ri C hs (dk hX4_loss_1 10 rfl)
      · replace hf := ip hf hc
        refine lv_iload_n hx hb (dk hX4_loss_0 36 rfl) rfl (lv_at hl 3 rfl) ?_
        refine lv_goto (tgt := 75) hx hb (dk hX4_loss_0 37 rfl) (by decide) ?_
        obtain ⟨u_7, e_8, hf⟩ := Option.bind_eq_some_iff.mp hf
        refine Ct.V (As := [.int p1]) (rest := []) (st1 := [.int u_7]) (w1 := (wT G ad adt adb ade adm adn adk adp adr refusals tcells lcells u_3.1 u_1.2.1 u_1.2.2.1 u_1.2.2.2.1 u_1.2.2.2.2.1 u_1.2.2.2.2.2.1 u_1.2.2.2.2.2.2.1 n_there n_used n_hidden n_kind n_figure n_cargo n_load k_there k_used k_hidden k_kind k_figure k_cargo k_load isKept tlen llen u_1.2.2.2.2.2.2.2.1 u_3.2.1 u_3.2.2.1 u_3.2.2.2 n_ships n_inn n_coughs n_day k_ships k_inn k_coughs k_day held perm hist)) C hs (c_X0_lackOf__mind e_8) tw_388 tw_351 tw_352 tw_80 tw_353 nq_X0_lackOf (by decide) 7 0 rfl rfl rfl rfl hl.1 rfl (Nat.le_of_ble_eq_true rfl) (dk hX4_loss_0 39 rfl) ⟨Nat.zero_le _, Nat.zero_le _⟩ rfl (fun H locs hs => ?_)
        refine lv_istore (lv' := [(7, .int u_7), (6, .ref (adm 0)), (0, .ref (ad 0)), (1, .int p0), (2, .int p1), (3, .int p2), (4, .int p3), (5, .int p4)]) hx hb (dk hX4_loss_1 0 rfl) hl (by decide) rfl (fun ls hl => ?_)
        refine lv_iload hx hb (dk hX4_loss_1 1 rfl) (lv_at hl 7 rfl) ?_
        refine lv_iload_n hx hb (dk hX4_loss_1 2 rfl) rfl (lv_at hl 3 rfl) ?_
        refine lv_iand hx hb (dk hX4_loss_1 3 rfl) ?_
        refine lv_if_eq (tgt := 94) hx hb (dk hX4_loss_1 4 rfl) (by decide) (fun hc => ?_) (fun hc => ?_)
        · replace hf := ip hf hc
          refine lv_iload hx hb (dk hX4_loss_1 9 rfl) (lv_at hl 0 rfl) ?_
          cases hf
          exact ri C hs (dk hX4_loss_1 10 rfl)
        · replace hf := in_ hf hc
          refine lv_iload hx hb (dk hX4_loss_1 5 rfl) (lv_at hl 0 rfl) ?_
          refine lv_iconst (v := (5 : Int32)) hx hb (dk hX4_loss_1 6 rfl) (by decide) ?_
          refine lv_iadd hx hb (dk hX4_loss_1 7 rfl) ?_
          refine lv_goto (tgt := 96) hx hb (dk hX4_loss_1 8 rfl) (by decide) ?_
          cases hf
          exact ri C hs (dk hX4_loss_1 10 rfl)
    · replace hf := in_ hf hc
      refine lv_aload hx hb (dk hX4_loss_0 20 rfl) (lv_at hl 0 rfl) ?_
      refine lv_iload_n hx hb (dk hX4_loss_0 21 rfl) rfl (lv_at hl 4 rfl) ?_
      refine lv_bipush (v := (10 : Int32)) hx hb (dk hX4_loss_0 22 rfl) (by decide) ?_
      refine lv_aload hx hb (dk hX4_loss_0 23 rfl) (lv_at hl 0 rfl) ?_
      refine rg ui0 rfl C hs 7 rfl 0 (by decide) tw_102 rfl rfl (dk hX4_loss_0 24 rfl) ?_
      refine lv_iload_n hx hb (dk hX4_loss_0 25 rfl) rfl (lv_at hl 4 rfl) ?_
      obtain ⟨v_9, e_10, hf⟩ := Option.bind_eq_some_iff.mp hf
      refine rild C hs 8 rfl e_10 (dk hX4_loss_0 26 rfl) ?_
      refine va_mmin hx hb (hml.trans hl.1.symm) hown (hts _ tw_548) (hts _ tw_302) (hts _ tw_84) (hts _ tw_303) (by decide) (Nat.le_of_ble_eq_true rfl) (Nat.zero_le _) (Nat.zero_le _) (dk hX4_loss_0 27 rfl) ?_
      obtain ⟨u_11, e_12, hf⟩ := Option.bind_eq_some_iff.mp hf
      refine Ct.V (As := [.int p2, .int (mmin (10 : Int32) v_9)]) (rest := []) (st1 := []) (w1 := (wT G ad adt adb ade adm adn adk adp adr refusals tcells lcells u_11.1 u_1.2.1 u_11.2 u_1.2.2.2.1 u_1.2.2.2.2.1 u_1.2.2.2.2.2.1 u_1.2.2.2.2.2.2.1 n_there n_used n_hidden n_kind n_figure n_cargo n_load k_there k_used k_hidden k_kind k_figure k_cargo k_load isKept tlen llen u_1.2.2.2.2.2.2.2.1 u_1.2.2.2.2.2.2.2.2.1 u_1.2.2.2.2.2.2.2.2.2.1 u_1.2.2.2.2.2.2.2.2.2.2 n_ships n_inn n_coughs n_day k_ships k_inn k_coughs k_day held perm hist)) C hs (c_X0_hideAway__mind e_12) tw_430 tw_320 tw_321 tw_80 tw_322 nq_X0_hideAway (by decide) 7 0 rfl rfl rfl rfl hl.1 rfl (Nat.le_of_ble_eq_true rfl) (dk hX4_loss_0 28 rfl) ⟨Nat.zero_le _, Nat.zero_le _⟩ rfl (fun H locs hs => ?_)
      refine lv_aload hx hb (dk hX4_loss_0 29 rfl) (lv_at hl 0 rfl) ?_
      refine lv_iload hx hb (dk hX4_loss_0 30 rfl) (lv_at hl 5 rfl) ?_
      obtain ⟨u_13, e_14, hf⟩ := Option.bind_eq_some_iff.mp hf
      refine Ct.V (As := [.int p3]) (rest := []) (st1 := []) (w1 := (wT G ad adt adb ade adm adn adk adp adr refusals tcells lcells u_13.1 u_1.2.1 u_11.2 u_1.2.2.2.1 u_1.2.2.2.2.1 u_1.2.2.2.2.2.1 u_1.2.2.2.2.2.2.1 n_there n_used n_hidden n_kind n_figure n_cargo n_load k_there k_used k_hidden k_kind k_figure k_cargo k_load isKept tlen llen u_1.2.2.2.2.2.2.2.1 u_13.2.1 u_13.2.2.1 u_13.2.2.2 n_ships n_inn n_coughs n_day k_ships k_inn k_coughs k_day held perm hist)) C hs (c_X0_passDays__mind e_14) tw_444 tw_325 tw_326 tw_80 tw_327 nq_X0_passDays (by decide) 7 0 rfl rfl rfl rfl hl.1 rfl (Nat.le_of_ble_eq_true rfl) (dk hX4_loss_0 31 rfl) ⟨Nat.zero_le _, Nat.zero_le _⟩ rfl (fun H locs hs => ?_)
      refine lv_aload hx hb (dk hX4_loss_0 32 rfl) (lv_at hl 0 rfl) ?_
      refine lv_iload_n hx hb (dk hX4_loss_0 33 rfl) rfl (lv_at hl 2 rfl) ?_
      refine lv_iconst (v := (2 : Int32)) hx hb (dk hX4_loss_0 34 rfl) (by decide) ?_
      refine lv_icmp_ne (tgt := 74) hx hb (dk hX4_loss_0 35 rfl) (by decide) (fun hc => ?_) (fun hc => ?_)
      · replace hf := in_ hf hc
        refine lv_iload_n hx hb (dk hX4_loss_0 38 rfl) rfl (lv_at hl 4 rfl) ?_
        obtain ⟨u_15, e_16, hf⟩ := Option.bind_eq_some_iff.mp hf
        refine Ct.V (As := [.int p2]) (rest := []) (st1 := [.int u_15]) (w1 := (wT G ad adt adb ade adm adn adk adp adr refusals tcells lcells u_13.1 u_1.2.1 u_11.2 u_1.2.2.2.1 u_1.2.2.2.2.1 u_1.2.2.2.2.2.1 u_1.2.2.2.2.2.2.1 n_there n_used n_hidden n_kind n_figure n_cargo n_load k_there k_used k_hidden k_kind k_figure k_cargo k_load isKept tlen llen u_1.2.2.2.2.2.2.2.1 u_13.2.1 u_13.2.2.1 u_13.2.2.2 n_ships n_inn n_coughs n_day k_ships k_inn k_coughs k_day held perm hist)) C hs (c_X0_lackOf__mind e_16) tw_388 tw_351 tw_352 tw_80 tw_353 nq_X0_lackOf (by decide) 7 0 rfl rfl rfl rfl hl.1 rfl (Nat.le_of_ble_eq_true rfl) (dk hX4_loss_0 39 rfl) ⟨Nat.zero_le _, Nat.zero_le _⟩ rfl (fun H locs hs => ?_)
        refine lv_istore (lv' := [(7, .int u_15), (6, .ref (adm 0)), (0, .ref (ad 0)), (1, .int p0), (2, .int p1), (3, .int p2), (4, .int p3), (5, .int p4)]) hx hb (dk hX4_loss_1 0 rfl) hl (by decide) rfl (fun ls hl => ?_)
        refine lv_iload hx hb (dk hX4_loss_1 1 rfl) (lv_at hl 7 rfl) ?_
        refine lv_iload_n hx hb (dk hX4_loss_1 2 rfl) rfl (lv_at hl 3 rfl) ?_
        refine lv_iand hx hb (dk hX4_loss_1 3 rfl) ?_
        refine lv_if_eq (tgt := 94) hx hb (dk hX4_loss_1 4 rfl) (by decide) (fun hc => ?_) (fun hc => ?_)
        · replace hf := ip hf hc
          refine lv_iload hx hb (dk hX4_loss_1 9 rfl) (lv_at hl 0 rfl) ?_
          cases hf
          exact ri C hs (dk hX4_loss_1 10 rfl)
        · replace hf := in_ hf hc
          refine lv_iload hx hb (dk hX4_loss_1 5 rfl) (lv_at hl 0 rfl) ?_
          refine lv_iconst (v := (5 : Int32)) hx hb (dk hX4_loss_1 6 rfl) (by decide) ?_
          refine lv_iadd hx hb (dk hX4_loss_1 7 rfl) ?_
          refine lv_goto (tgt := 96) hx hb (dk hX4_loss_1 8 rfl) (by decide) ?_
          cases hf
          exact ri C hs (dk hX4_loss_1 10 rfl)
      · replace hf := ip hf hc
        refine lv_iload_n hx hb (dk hX4_loss_0 36 rfl) rfl (lv_at hl 3 rfl) ?_
        refine lv_goto (tgt := 75) hx hb (dk hX4_loss_0 37 rfl) (by decide) ?_
        obtain ⟨u_17, e_18, hf⟩ := Option.bind_eq_some_iff.mp hf
        refine Ct.V (As := [.int p1]) (rest := []) (st1 := [.int u_17]) (w1 := (wT G ad adt adb ade adm adn adk adp adr refusals tcells lcells u_13.1 u_1.2.1 u_11.2 u_1.2.2.2.1 u_1.2.2.2.2.1 u_1.2.2.2.2.2.1 u_1.2.2.2.2.2.2.1 n_there n_used n_hidden n_kind n_figure n_cargo n_load k_there k_used k_hidden k_kind k_figure k_cargo k_load isKept tlen llen u_1.2.2.2.2.2.2.2.1 u_13.2.1 u_13.2.2.1 u_13.2.2.2 n_ships n_inn n_coughs n_day k_ships k_inn k_coughs k_day held perm hist)) C hs (c_X0_lackOf__mind e_18) tw_388 tw_351 tw_352 tw_80 tw_353 nq_X0_lackOf (by decide) 7 0 rfl rfl rfl rfl hl.1 rfl (Nat.le_of_ble_eq_true rfl) (dk hX4_loss_0 39 rfl) ⟨Nat.zero_le _, Nat.zero_le _⟩ rfl (fun H locs hs => ?_)
        refine lv_istore (lv' := [(7, .int u_17), (6, .ref (adm 0)), (0, .ref (ad 0)), (1, .int p0), (2, .int p1), (3, .int p2), (4, .int p3), (5, .int p4)]) hx hb (dk hX4_loss_1 0 rfl) hl (by decide) rfl (fun ls hl => ?_)
        refine lv_iload hx hb (dk hX4_loss_1 1 rfl) (lv_at hl 7 rfl) ?_
        refine lv_iload_n hx hb (dk hX4_loss_1 2 rfl) rfl (lv_at hl 3 rfl) ?_
        refine lv_iand hx hb (dk hX4_loss_1 3 rfl) ?_
        refine lv_if_eq (tgt := 94) hx hb (dk hX4_loss_1 4 rfl) (by decide) (fun hc => ?_) (fun hc => ?_)
        · replace hf := ip hf hc
          refine lv_iload hx hb (dk hX4_loss_1 9 rfl) (lv_at hl 0 rfl) ?_
          cases hf
          exact ri C hs (dk hX4_loss_1 10 rfl)
        · replace hf := in_ hf hc
          refine lv_iload hx hb (dk hX4_loss_1 5 rfl) (lv_at hl 0 rfl) ?_
          refine lv_iconst (v := (5 : Int32)) hx hb (dk hX4_loss_1 6 rfl) (by decide) ?_
          refine lv_iadd hx hb (dk hX4_loss_1 7 rfl) ?_
          refine lv_goto (tgt := 96) hx hb (dk hX4_loss_1 8 rfl) (by decide) ?_
          cases hf
          exact ri C hs (dk hX4_loss_1 10 rfl)
  · replace hf := in_ hf hc
    refine lv_aload hx hb (dk hX4_loss_0 7 rfl) (lv_at hl 0 rfl) ?_
    refine lv_iload_n hx hb (dk hX4_loss_0 8 rfl) rfl (lv_at hl 3 rfl) ?_
    refine lv_bipush (v := (10 : Int32)) hx hb (dk hX4_loss_0 9 rfl) (by decide) ?_
    refine lv_aload hx hb (dk hX4_loss_0 10 rfl) (lv_at hl 0 rfl) ?_
    refine rg ui0 rfl C hs 7 rfl 0 (by decide) tw_102 rfl rfl (dk hX4_loss_0 11 rfl) ?_
    refine lv_iload_n hx hb (dk hX4_loss_0 12 rfl) rfl (lv_at hl 3 rfl) ?_
    obtain ⟨v_19, e_20, hf⟩ := Option.bind_eq_some_iff.mp hf
    refine rild C hs 8 rfl e_20 (dk hX4_loss_0 13 rfl) ?_
    refine va_mmin hx hb (hml.trans hl.1.symm) hown (hts _ tw_548) (hts _ tw_302) (hts _ tw_84) (hts _ tw_303) (by decide) (Nat.le_of_ble_eq_true rfl) (Nat.zero_le _) (Nat.zero_le _) (dk hX4_loss_0 14 rfl) ?_
    obtain ⟨u_21, e_22, hf⟩ := Option.bind_eq_some_iff.mp hf
    refine Ct.V (As := [.int p1, .int (mmin (10 : Int32) v_19)]) (rest := []) (st1 := []) (w1 := (wT G ad adt adb ade adm adn adk adp adr refusals tcells lcells u_21.1 u_1.2.1 u_21.2 u_1.2.2.2.1 u_1.2.2.2.2.1 u_1.2.2.2.2.2.1 u_1.2.2.2.2.2.2.1 n_there n_used n_hidden n_kind n_figure n_cargo n_load k_there k_used k_hidden k_kind k_figure k_cargo k_load isKept tlen llen u_1.2.2.2.2.2.2.2.1 u_1.2.2.2.2.2.2.2.2.1 u_1.2.2.2.2.2.2.2.2.2.1 u_1.2.2.2.2.2.2.2.2.2.2 n_ships n_inn n_coughs n_day k_ships k_inn k_coughs k_day held perm hist)) C hs (c_X0_hideAway__mind e_22) tw_430 tw_320 tw_321 tw_80 tw_322 nq_X0_hideAway (by decide) 7 0 rfl rfl rfl rfl hl.1 rfl (Nat.le_of_ble_eq_true rfl) (dk hX4_loss_0 15 rfl) ⟨Nat.zero_le _, Nat.zero_le _⟩ rfl (fun H locs hs => ?_)
    refine lv_iload hx hb (dk hX4_loss_0 16 rfl) (lv_at hl 6 rfl) ?_
    refine lv_iconst (v := (1 : Int32)) hx hb (dk hX4_loss_0 17 rfl) (by decide) ?_
    refine lv_iand hx hb (dk hX4_loss_0 18 rfl) ?_
    refine lv_if_eq (tgt := 56) hx hb (dk hX4_loss_0 19 rfl) (by decide) (fun hc => ?_) (fun hc => ?_)
    · replace hf := ip hf hc
      refine lv_aload hx hb (dk hX4_loss_0 29 rfl) (lv_at hl 0 rfl) ?_
      refine lv_iload hx hb (dk hX4_loss_0 30 rfl) (lv_at hl 5 rfl) ?_
      obtain ⟨u_23, e_24, hf⟩ := Option.bind_eq_some_iff.mp hf
      refine Ct.V (As := [.int p3]) (rest := []) (st1 := []) (w1 := (wT G ad adt adb ade adm adn adk adp adr refusals tcells lcells u_23.1 u_1.2.1 u_21.2 u_1.2.2.2.1 u_1.2.2.2.2.1 u_1.2.2.2.2.2.1 u_1.2.2.2.2.2.2.1 n_there n_used n_hidden n_kind n_figure n_cargo n_load k_there k_used k_hidden k_kind k_figure k_cargo k_load isKept tlen llen u_1.2.2.2.2.2.2.2.1 u_23.2.1 u_23.2.2.1 u_23.2.2.2 n_ships n_inn n_coughs n_day k_ships k_inn k_coughs k_day held perm hist)) C hs (c_X0_passDays__mind e_24) tw_444 tw_325 tw_326 tw_80 tw_327 nq_X0_passDays (by decide) 7 0 rfl rfl rfl rfl hl.1 rfl (Nat.le_of_ble_eq_true rfl) (dk hX4_loss_0 31 rfl) ⟨Nat.zero_le _, Nat.zero_le _⟩ rfl (fun H locs hs => ?_)
      refine lv_aload hx hb (dk hX4_loss_0 32 rfl) (lv_at hl 0 rfl) ?_
      refine lv_iload_n hx hb (dk hX4_loss_0 33 rfl) rfl (lv_at hl 2 rfl) ?_
      refine lv_iconst (v := (2 : Int32)) hx hb (dk hX4_loss_0 34 rfl) (by decide) ?_
      refine lv_icmp_ne (tgt := 74) hx hb (dk hX4_loss_0 35 rfl) (by decide) (fun hc => ?_) (fun hc => ?_)
      · replace hf := in_ hf hc
        refine lv_iload_n hx hb (dk hX4_loss_0 38 rfl) rfl (lv_at hl 4 rfl) ?_
        obtain ⟨u_25, e_26, hf⟩ := Option.bind_eq_some_iff.mp hf
        refine Ct.V (As := [.int p2]) (rest := []) (st1 := [.int u_25]) (w1 := (wT G ad adt adb ade adm adn adk adp adr refusals tcells lcells u_23.1 u_1.2.1 u_21.2 u_1.2.2.2.1 u_1.2.2.2.2.1 u_1.2.2.2.2.2.1 u_1.2.2.2.2.2.2.1 n_there n_used n_hidden n_kind n_figure n_cargo n_load k_there k_used k_hidden k_kind k_figure k_cargo k_load isKept tlen llen u_1.2.2.2.2.2.2.2.1 u_23.2.1 u_23.2.2.1 u_23.2.2.2 n_ships n_inn n_coughs n_day k_ships k_inn k_coughs k_day held perm hist)) C hs (c_X0_lackOf__mind e_26) tw_388 tw_351 tw_352 tw_80 tw_353 nq_X0_lackOf (by decide) 7 0 rfl rfl rfl rfl hl.1 rfl (Nat.le_of_ble_eq_true rfl) (dk hX4_loss_0 39 rfl) ⟨Nat.zero_le _, Nat.zero_le _⟩ rfl (fun H locs hs => ?_)
        refine lv_istore (lv' := [(7, .int u_25), (6, .ref (adm 0)), (0, .ref (ad 0)), (1, .int p0), (2, .int p1), (3, .int p2), (4, .int p3), (5, .int p4)]) hx hb (dk hX4_loss_1 0 rfl) hl (by decide) rfl (fun ls hl => ?_)
        refine lv_iload hx hb (dk hX4_loss_1 1 rfl) (lv_at hl 7 rfl) ?_
        refine lv_iload_n hx hb (dk hX4_loss_1 2 rfl) rfl (lv_at hl 3 rfl) ?_
        refine lv_iand hx hb (dk hX4_loss_1 3 rfl) ?_
        refine lv_if_eq (tgt := 94) hx hb (dk hX4_loss_1 4 rfl) (by decide) (fun hc => ?_) (fun hc => ?_)
        · replace hf := ip hf hc
          refine lv_iload hx hb (dk hX4_loss_1 9 rfl) (lv_at hl 0 rfl) ?_
          cases hf
          exact ri C hs (dk hX4_loss_1 10 rfl)
        · replace hf := in_ hf hc
          refine lv_iload hx hb (dk hX4_loss_1 5 rfl) (lv_at hl 0 rfl) ?_
          refine lv_iconst (v := (5 : Int32)) hx hb (dk hX4_loss_1 6 rfl) (by decide) ?_
          refine lv_iadd hx hb (dk hX4_loss_1 7 rfl) ?_
          refine lv_goto (tgt := 96) hx hb (dk hX4_loss_1 8 rfl) (by decide) ?_
          cases hf
          exact ri C hs (dk hX4_loss_1 10 rfl)
      · replace hf := ip hf hc
        refine lv_iload_n hx hb (dk hX4_loss_0 36 rfl) rfl (lv_at hl 3 rfl) ?_
        refine lv_goto (tgt := 75) hx hb (dk hX4_loss_0 37 rfl) (by decide) ?_
        obtain ⟨u_27, e_28, hf⟩ := Option.bind_eq_some_iff.mp hf
        refine Ct.V (As := [.int p1]) (rest := []) (st1 := [.int u_27]) (w1 := (wT G ad adt adb ade adm adn adk adp adr refusals tcells lcells u_23.1 u_1.2.1 u_21.2 u_1.2.2.2.1 u_1.2.2.2.2.1 u_1.2.2.2.2.2.1 u_1.2.2.2.2.2.2.1 n_there n_used n_hidden n_kind n_figure n_cargo n_load k_there k_used k_hidden k_kind k_figure k_cargo k_load isKept tlen llen u_1.2.2.2.2.2.2.2.1 u_23.2.1 u_23.2.2.1 u_23.2.2.2 n_ships n_inn n_coughs n_day k_ships k_inn k_coughs k_day held perm hist)) C hs (c_X0_lackOf__mind e_28) tw_388 tw_351 tw_352 tw_80 tw_353 nq_X0_lackOf (by decide) 7 0 rfl rfl rfl rfl hl.1 rfl (Nat.le_of_ble_eq_true rfl) (dk hX4_loss_0 39 rfl) ⟨Nat.zero_le _, Nat.zero_le _⟩ rfl (fun H locs hs => ?_)
        refine lv_istore (lv' := [(7, .int u_27), (6, .ref (adm 0)), (0, .ref (ad 0)), (1, .int p0), (2, .int p1), (3, .int p2), (4, .int p3), (5, .int p4)]) hx hb (dk hX4_loss_1 0 rfl) hl (by decide) rfl (fun ls hl => ?_)
        refine lv_iload hx hb (dk hX4_loss_1 1 rfl) (lv_at hl 7 rfl) ?_
        refine lv_iload_n hx hb (dk hX4_loss_1 2 rfl) rfl (lv_at hl 3 rfl) ?_
        refine lv_iand hx hb (dk hX4_loss_1 3 rfl) ?_
        refine lv_if_eq (tgt := 94) hx hb (dk hX4_loss_1 4 rfl) (by decide) (fun hc => ?_) (fun hc => ?_)
        · replace hf := ip hf hc
          refine lv_iload hx hb (dk hX4_loss_1 9 rfl) (lv_at hl 0 rfl) ?_
          cases hf
          exact ri C hs (dk hX4_loss_1 10 rfl)
        · replace hf := in_ hf hc
          refine lv_iload hx hb (dk hX4_loss_1 5 rfl) (lv_at hl 0 rfl) ?_
          refine lv_iconst (v := (5 : Int32)) hx hb (dk hX4_loss_1 6 rfl) (by decide) ?_
          refine lv_iadd hx hb (dk hX4_loss_1 7 rfl) ?_
          refine lv_goto (tgt := 96) hx hb (dk hX4_loss_1 8 rfl) (by decide) ?_
          cases hf
          exact ri C hs (dk hX4_loss_1 10 rfl)
    · replace hf := in_ hf hc
      refine lv_aload hx hb (dk hX4_loss_0 20 rfl) (lv_at hl 0 rfl) ?_
      refine lv_iload_n hx hb (dk hX4_loss_0 21 rfl) rfl (lv_at hl 4 rfl) ?_
      refine lv_bipush (v := (10 : Int32)) hx hb (dk hX4_loss_0 22 rfl) (by decide) ?_
      refine lv_aload hx hb (dk hX4_loss_0 23 rfl) (lv_at hl 0 rfl) ?_
      refine rg ui0 rfl C hs 7 rfl 0 (by decide) tw_102 rfl rfl (dk hX4_loss_0 24 rfl) ?_
      refine lv_iload_n hx hb (dk hX4_loss_0 25 rfl) rfl (lv_at hl 4 rfl) ?_
      obtain ⟨v_29, e_30, hf⟩ := Option.bind_eq_some_iff.mp hf
      refine rild C hs 8 rfl e_30 (dk hX4_loss_0 26 rfl) ?_
      refine va_mmin hx hb (hml.trans hl.1.symm) hown (hts _ tw_548) (hts _ tw_302) (hts _ tw_84) (hts _ tw_303) (by decide) (Nat.le_of_ble_eq_true rfl) (Nat.zero_le _) (Nat.zero_le _) (dk hX4_loss_0 27 rfl) ?_
      obtain ⟨u_31, e_32, hf⟩ := Option.bind_eq_some_iff.mp hf
      refine Ct.V (As := [.int p2, .int (mmin (10 : Int32) v_29)]) (rest := []) (st1 := []) (w1 := (wT G ad adt adb ade adm adn adk adp adr refusals tcells lcells u_31.1 u_1.2.1 u_31.2 u_1.2.2.2.1 u_1.2.2.2.2.1 u_1.2.2.2.2.2.1 u_1.2.2.2.2.2.2.1 n_there n_used n_hidden n_kind n_figure n_cargo n_load k_there k_used k_hidden k_kind k_figure k_cargo k_load isKept tlen llen u_1.2.2.2.2.2.2.2.1 u_1.2.2.2.2.2.2.2.2.1 u_1.2.2.2.2.2.2.2.2.2.1 u_1.2.2.2.2.2.2.2.2.2.2 n_ships n_inn n_coughs n_day k_ships k_inn k_coughs k_day held perm hist)) C hs (c_X0_hideAway__mind e_32) tw_430 tw_320 tw_321 tw_80 tw_322 nq_X0_hideAway (by decide) 7 0 rfl rfl rfl rfl hl.1 rfl (Nat.le_of_ble_eq_true rfl) (dk hX4_loss_0 28 rfl) ⟨Nat.zero_le _, Nat.zero_le _⟩ rfl (fun H locs hs => ?_)
      refine lv_aload hx hb (dk hX4_loss_0 29 rfl) (lv_at hl 0 rfl) ?_
      refine lv_iload hx hb (dk hX4_loss_0 30 rfl) (lv_at hl 5 rfl) ?_
      obtain ⟨u_33, e_34, hf⟩ := Option.bind_eq_some_iff.mp hf
      refine Ct.V (As := [.int p3]) (rest := []) (st1 := []) (w1 := (wT G ad adt adb ade adm adn adk adp adr refusals tcells lcells u_33.1 u_1.2.1 u_31.2 u_1.2.2.2.1 u_1.2.2.2.2.1 u_1.2.2.2.2.2.1 u_1.2.2.2.2.2.2.1 n_there n_used n_hidden n_kind n_figure n_cargo n_load k_there k_used k_hidden k_kind k_figure k_cargo k_load isKept tlen llen u_1.2.2.2.2.2.2.2.1 u_33.2.1 u_33.2.2.1 u_33.2.2.2 n_ships n_inn n_coughs n_day k_ships k_inn k_coughs k_day held perm hist)) C hs (c_X0_passDays__mind e_34) tw_444 tw_325 tw_326 tw_80 tw_327 nq_X0_passDays (by decide) 7 0 rfl rfl rfl rfl hl.1 rfl (Nat.le_of_ble_eq_true rfl) (dk hX4_loss_0 31 rfl) ⟨Nat.zero_le _, Nat.zero_le _⟩ rfl (fun H locs hs => ?_)
      refine lv_aload hx hb (dk hX4_loss_0 32 rfl) (lv_at hl 0 rfl) ?_
      refine lv_iload_n hx hb (dk hX4_loss_0 33 rfl) rfl (lv_at hl 2 rfl) ?_
      refine lv_iconst (v := (2 : Int32)) hx hb (dk hX4_loss_0 34 rfl) (by decide) ?_
      refine lv_icmp_ne (tgt := 74) hx hb (dk hX4_loss_0 35 rfl) (by decide) (fun hc => ?_) (fun hc => ?_)
      · replace hf := in_ hf hc
        refine lv_iload_n hx hb (dk hX4_loss_0 38 rfl) rfl (lv_at hl 4 rfl) ?_
        obtain ⟨u_35, e_36, hf⟩ := Option.bind_eq_some_iff.mp hf
        refine Ct.V (As := [.int p2]) (rest := []) (st1 := [.int u_35]) (w1 := (wT G ad adt adb ade adm adn adk adp adr refusals tcells lcells u_33.1 u_1.2.1 u_31.2 u_1.2.2.2.1 u_1.2.2.2.2.1 u_1.2.2.2.2.2.1 u_1.2.2.2.2.2.2.1 n_there n_used n_hidden n_kind n_figure n_cargo n_load k_there k_used k_hidden k_kind k_figure k_cargo k_load isKept tlen llen u_1.2.2.2.2.2.2.2.1 u_33.2.1 u_33.2.2.1 u_33.2.2.2 n_ships n_inn n_coughs n_day k_ships k_inn k_coughs k_day held perm hist)) C hs (c_X0_lackOf__mind e_36) tw_388 tw_351 tw_352 tw_80 tw_353 nq_X0_lackOf (by decide) 7 0 rfl rfl rfl rfl hl.1 rfl (Nat.le_of_ble_eq_true rfl) (dk hX4_loss_0 39 rfl) ⟨Nat.zero_le _, Nat.zero_le _⟩ rfl (fun H locs hs => ?_)
        refine lv_istore (lv' := [(7, .int u_35), (6, .ref (adm 0)), (0, .ref (ad 0)), (1, .int p0), (2, .int p1), (3, .int p2), (4, .int p3), (5, .int p4)]) hx hb (dk hX4_loss_1 0 rfl) hl (by decide) rfl (fun ls hl => ?_)
        refine lv_iload hx hb (dk hX4_loss_1 1 rfl) (lv_at hl 7 rfl) ?_
        refine lv_iload_n hx hb (dk hX4_loss_1 2 rfl) rfl (lv_at hl 3 rfl) ?_
        refine lv_iand hx hb (dk hX4_loss_1 3 rfl) ?_
        refine lv_if_eq (tgt := 94) hx hb (dk hX4_loss_1 4 rfl) (by decide) (fun hc => ?_) (fun hc => ?_)
        · replace hf := ip hf hc
          refine lv_iload hx hb (dk hX4_loss_1 9 rfl) (lv_at hl 0 rfl) ?_
          cases hf
          exact ri C hs (dk hX4_loss_1 10 rfl)
        · replace hf := in_ hf hc
          refine lv_iload hx hb (dk hX4_loss_1 5 rfl) (lv_at hl 0 rfl) ?_
          refine lv_iconst (v := (5 : Int32)) hx hb (dk hX4_loss_1 6 rfl) (by decide) ?_
          refine lv_iadd hx hb (dk hX4_loss_1 7 rfl) ?_
          refine lv_goto (tgt := 96) hx hb (dk hX4_loss_1 8 rfl) (by decide) ?_
          cases hf
          exact ri C hs (dk hX4_loss_1 10 rfl)
      · replace hf := ip hf hc
        refine lv_iload_n hx hb (dk hX4_loss_0 36 rfl) rfl (lv_at hl 3 rfl) ?_
        refine lv_goto (tgt := 75) hx hb (dk hX4_loss_0 37 rfl) (by decide) ?_
        obtain ⟨u_37, e_38, hf⟩ := Option.bind_eq_some_iff.mp hf
        refine Ct.V (As := [.int p1]) (rest := []) (st1 := [.int u_37]) (w1 := (wT G ad adt adb ade adm adn adk adp adr refusals tcells lcells u_33.1 u_1.2.1 u_31.2 u_1.2.2.2.1 u_1.2.2.2.2.1 u_1.2.2.2.2.2.1 u_1.2.2.2.2.2.2.1 n_there n_used n_hidden n_kind n_figure n_cargo n_load k_there k_used k_hidden k_kind k_figure k_cargo k_load isKept tlen llen u_1.2.2.2.2.2.2.2.1 u_33.2.1 u_33.2.2.1 u_33.2.2.2 n_ships n_inn n_coughs n_day k_ships k_inn k_coughs k_day held perm hist)) C hs (c_X0_lackOf__mind e_38) tw_388 tw_351 tw_352 tw_80 tw_353 nq_X0_lackOf (by decide) 7 0 rfl rfl rfl rfl hl.1 rfl (Nat.le_of_ble_eq_true rfl) (dk hX4_loss_0 39 rfl) ⟨Nat.zero_le _, Nat.zero_le _⟩ rfl (fun H locs hs => ?_)
        refine lv_istore (lv' := [(7, .int u_37), (6, .ref (adm 0)), (0, .ref (ad 0)), (1, .int p0), (2, .int p1), (3, .int p2), (4, .int p3), (5, .int p4)]) hx hb (dk hX4_loss_1 0 rfl) hl (by decide) rfl (fun ls hl => ?_)
        refine lv_iload hx hb (dk hX4_loss_1 1 rfl) (lv_at hl 7 rfl) ?_
        refine lv_iload_n hx hb (dk hX4_loss_1 2 rfl) rfl (lv_at hl 3 rfl) ?_
        refine lv_iand hx hb (dk hX4_loss_1 3 rfl) ?_
        refine lv_if_eq (tgt := 94) hx hb (dk hX4_loss_1 4 rfl) (by decide) (fun hc => ?_) (fun hc => ?_)
        · replace hf := ip hf hc
          refine lv_iload hx hb (dk hX4_loss_1 9 rfl) (lv_at hl 0 rfl) ?_
          cases hf
          exact ri C hs (dk hX4_loss_1 10 rfl)
        · replace hf := in_ hf hc
          refine lv_iload hx hb (dk hX4_loss_1 5 rfl) (lv_at hl 0 rfl) ?_
          refine lv_iconst (v := (5 : Int32)) hx hb (dk hX4_loss_1 6 rfl) (by decide) ?_
          refine lv_iadd hx hb (dk hX4_loss_1 7 rfl) ?_
          refine lv_goto (tgt := 96) hx hb (dk hX4_loss_1 8 rfl) (by decide) ?_
          cases hf
          exact ri C hs (dk hX4_loss_1 10 rfl)

def X4_two_L49 (k : List Int32 → List Int32 → List Int32 → List Int32 → List Int32 → List Int32 → List Int32 → Int32 → Int32 → Int32 → Int32 → Option (List Int32 × List Int32 × List Int32 × List Int32 × List Int32 × List Int32 × List Int32 × List Int32 × Int32 × Int32 × Int32 × Int32 × Int32)) (refusals : List Int32) (n_there : List Int32) (n_used : List Int32) (n_hidden : List Int32) (n_kind : List Int32) (n_figure : List Int32) (n_cargo : List Int32) (n_load : List Int32) (n_ships : Int32) (n_inn : Int32) (n_coughs : Int32) (n_day : Int32) (x1 : Int32) (x2 : Int32) (x3 : Int32) : Nat → Int32 → List Int32 → List Int32 → List Int32 → List Int32 → List Int32 → List Int32 → List Int32 → Int32 → Int32 → Int32 → Int32 → Option (List Int32 × List Int32 × List Int32 × List Int32 × List Int32 × List Int32 × List Int32 × List Int32 × Int32 × Int32 × Int32 × Int32 × Int32)
  | 0, _, _, _, _, _, _, _, _, _, _, _, _ => none
  | n + 1, x5, m_there, m_used, m_hidden, m_kind, m_figure, m_cargo, m_load, m_ships, m_inn, m_coughs, m_day =>
  if (4 : Int32) ≤ x5 then
  k m_there m_used m_hidden m_kind m_figure m_cargo m_load m_ships m_inn m_coughs m_day
  else
  (X4_loss m_there m_used m_hidden m_kind m_figure m_cargo m_load n_there n_used n_hidden n_kind n_figure n_cargo n_load m_ships m_inn m_coughs m_day n_ships n_inn n_coughs n_day (2 : Int32) x1 x2 x3 x5).bind fun u_11 =>
  (X4_loss u_11.1 u_11.2.1 u_11.2.2.1 u_11.2.2.2.1 u_11.2.2.2.2.1 u_11.2.2.2.2.2.1 u_11.2.2.2.2.2.2.1 n_there n_used n_hidden n_kind n_figure n_cargo n_load u_11.2.2.2.2.2.2.2.1 u_11.2.2.2.2.2.2.2.2.1 u_11.2.2.2.2.2.2.2.2.2.1 u_11.2.2.2.2.2.2.2.2.2.2.1 n_ships n_inn n_coughs n_day (2 : Int32) x1 x2 x3 (x5 ^^^ (2 : Int32))).bind fun u_13 =>
  if u_13.2.2.2.2.2.2.2.2.2.2.2 < u_11.2.2.2.2.2.2.2.2.2.2.2 then
  X4_two_L49 k refusals n_there n_used n_hidden n_kind n_figure n_cargo n_load n_ships n_inn n_coughs n_day x1 x2 x3 n (x5 + (1 : Int32)) u_13.1 u_13.2.1 u_13.2.2.1 u_13.2.2.2.1 u_13.2.2.2.2.1 u_13.2.2.2.2.2.1 u_13.2.2.2.2.2.2.1 u_13.2.2.2.2.2.2.2.1 u_13.2.2.2.2.2.2.2.2.1 u_13.2.2.2.2.2.2.2.2.2.1 u_13.2.2.2.2.2.2.2.2.2.2.1
  else
  (X4_loss u_13.1 u_13.2.1 u_13.2.2.1 u_13.2.2.2.1 u_13.2.2.2.2.1 u_13.2.2.2.2.2.1 u_13.2.2.2.2.2.2.1 n_there n_used n_hidden n_kind n_figure n_cargo n_load u_13.2.2.2.2.2.2.2.1 u_13.2.2.2.2.2.2.2.2.1 u_13.2.2.2.2.2.2.2.2.2.1 u_13.2.2.2.2.2.2.2.2.2.2.1 n_ships n_inn n_coughs n_day (1 : Int32) x1 x2 x3 x5).bind fun u_15 =>
  (X4_loss u_15.1 u_15.2.1 u_15.2.2.1 u_15.2.2.2.1 u_15.2.2.2.2.1 u_15.2.2.2.2.2.1 u_15.2.2.2.2.2.2.1 n_there n_used n_hidden n_kind n_figure n_cargo n_load u_15.2.2.2.2.2.2.2.1 u_15.2.2.2.2.2.2.2.2.1 u_15.2.2.2.2.2.2.2.2.2.1 u_15.2.2.2.2.2.2.2.2.2.2.1 n_ships n_inn n_coughs n_day (1 : Int32) x1 x2 x3 (x5 ^^^ (1 : Int32))).bind fun u_17 =>
  if u_17.2.2.2.2.2.2.2.2.2.2.2 < u_15.2.2.2.2.2.2.2.2.2.2.2 then
  X4_two_L49 k refusals n_there n_used n_hidden n_kind n_figure n_cargo n_load n_ships n_inn n_coughs n_day x1 x2 x3 n (x5 + (1 : Int32)) u_17.1 u_17.2.1 u_17.2.2.1 u_17.2.2.2.1 u_17.2.2.2.2.1 u_17.2.2.2.2.2.1 u_17.2.2.2.2.2.2.1 u_17.2.2.2.2.2.2.2.1 u_17.2.2.2.2.2.2.2.2.1 u_17.2.2.2.2.2.2.2.2.2.1 u_17.2.2.2.2.2.2.2.2.2.2.1
  else
  some (refusals, u_17.1, u_17.2.1, u_17.2.2.1, u_17.2.2.2.1, u_17.2.2.2.2.1, u_17.2.2.2.2.2.1, u_17.2.2.2.2.2.2.1, u_17.2.2.2.2.2.2.2.1, u_17.2.2.2.2.2.2.2.2.1, u_17.2.2.2.2.2.2.2.2.2.1, u_17.2.2.2.2.2.2.2.2.2.2.1, (((x5 >>> ((1 : Int32) &&& 31)) * (10 : Int32)) + (x5 &&& (1 : Int32))))
def X4_two (refusals : List Int32) (m_there : List Int32) (m_used : List Int32) (m_hidden : List Int32) (m_kind : List Int32) (m_figure : List Int32) (m_cargo : List Int32) (m_load : List Int32) (n_there : List Int32) (n_used : List Int32) (n_hidden : List Int32) (n_kind : List Int32) (n_figure : List Int32) (n_cargo : List Int32) (n_load : List Int32) (m_ships : Int32) (m_inn : Int32) (m_coughs : Int32) (m_day : Int32) (n_ships : Int32) (n_inn : Int32) (n_coughs : Int32) (n_day : Int32) (p0 : Int32) (p1 : Int32) (p2 : Int32) : Option (List Int32 × List Int32 × List Int32 × List Int32 × List Int32 × List Int32 × List Int32 × List Int32 × Int32 × Int32 × Int32 × Int32 × Int32) :=
  (X4_isGood p0).bind fun u_1 =>
  if u_1 = (0 : Int32) then
  (X4_refuse refusals (-1 : Int32)).bind fun u_3 =>
  some (u_3.1, m_there, m_used, m_hidden, m_kind, m_figure, m_cargo, m_load, m_ships, m_inn, m_coughs, m_day, u_3.2)
  else
  (X4_isGood p1).bind fun u_5 =>
  if u_5 = (0 : Int32) then
  (X4_refuse refusals (-1 : Int32)).bind fun u_7 =>
  some (u_7.1, m_there, m_used, m_hidden, m_kind, m_figure, m_cargo, m_load, m_ships, m_inn, m_coughs, m_day, u_7.2)
  else
  if p0 = p1 then
  (X4_refuse refusals (-1 : Int32)).bind fun u_32 =>
  some (u_32.1, m_there, m_used, m_hidden, m_kind, m_figure, m_cargo, m_load, m_ships, m_inn, m_coughs, m_day, u_32.2)
  else
  (X4_misfit p2 (0 : Int32) (60 : Int32)).bind fun u_9 =>
  if u_9 = (0 : Int32) then
  X4_two_L49 (fun m_there_19 m_used_20 m_hidden_21 m_kind_22 m_figure_23 m_cargo_24 m_load_25 m_ships_26 m_inn_27 m_coughs_28 m_day_29 =>
  some (refusals, m_there_19, m_used_20, m_hidden_21, m_kind_22, m_figure_23, m_cargo_24, m_load_25, m_ships_26, m_inn_27, m_coughs_28, m_day_29, (-9 : Int32))) refusals n_there n_used n_hidden n_kind n_figure n_cargo n_load n_ships n_inn n_coughs n_day p0 p1 p2 1000 (0 : Int32) m_there m_used m_hidden m_kind m_figure m_cargo m_load m_ships m_inn m_coughs m_day
  else
  (X4_refuse refusals u_9).bind fun u_30 =>
  some (u_30.1, m_there, m_used, m_hidden, m_kind, m_figure, m_cargo, m_load, m_ships, m_inn, m_coughs, m_day, u_30.2)
set_option maxRecDepth 100000 in
set_option maxHeartbeats 4000000 in
theorem l_X4_two_L49 {l : Launch} {p : Program} {e : Env} {s : State} {m : MethodId} {args : Array Value} {below : List Frame} {meth : Method} {c : Code} {A : Nat → Prop} {G : Gx} {ad adt adb ade adm adn adk adp : Nat → Nat} {adr : Nat → Nat → Nat} {refusals tcells lcells n_there n_used n_hidden n_kind n_figure n_cargo n_load k_there k_used k_hidden k_kind k_figure k_cargo k_load : List Int32} {isKept tlen llen n_ships n_inn n_coughs n_day k_ships k_inn k_coughs k_day held : Int32} {perm : Nat → Nat} {hist : Nat → Hs} {x1 : Int32} {x2 : Int32} {x3 : Int32} {k : List Int32 → List Int32 → List Int32 → List Int32 → List Int32 → List Int32 → List Int32 → Int32 → Int32 → Int32 → Int32 → Option (List Int32 × List Int32 × List Int32 × List Int32 × List Int32 × List Int32 × List Int32 × List Int32 × Int32 × Int32 × Int32 × Int32 × Int32)} {out : List Int32 × List Int32 × List Int32 × List Int32 × List Int32 × List Int32 × List Int32 × List Int32 × Int32 × Int32 × Int32 × Int32 × Int32} (C : Cx p s m args meth c cX4_two RX4 6 (some .int) G) : ∀ (n : Nat) (x5 : Int32) (m_there : List Int32) (m_used : List Int32) (m_hidden : List Int32) (m_kind : List Int32) (m_figure : List Int32) (m_cargo : List Int32) (m_load : List Int32) (m_ships : Int32) (m_inn : Int32) (m_coughs : Int32) (m_day : Int32), X4_two_L49 k refusals n_there n_used n_hidden n_kind n_figure n_cargo n_load n_ships n_inn n_coughs n_day x1 x2 x3 n x5 m_there m_used m_hidden m_kind m_figure m_cargo m_load m_ships m_inn m_coughs m_day = some out → ∀ (H : Heap) (locs : List Loc), St G A s.heap H locs (wT G ad adt adb ade adm adn adk adp adr refusals tcells lcells m_there m_used m_hidden m_kind m_figure m_cargo m_load n_there n_used n_hidden n_kind n_figure n_cargo n_load k_there k_used k_hidden k_kind k_figure k_cargo k_load isKept tlen llen m_ships m_inn m_coughs m_day n_ships n_inn n_coughs n_day k_ships k_inn k_coughs k_day held perm hist) → ∀ ls : Array Slot, lv_has ls 6 [(0, .ref (ad 0)), (1, .int x1), (2, .int x2), (3, .int x3), (5, .int x5)] → (∀ (z_m_there : List Int32) (z_m_used : List Int32) (z_m_hidden : List Int32) (z_m_kind : List Int32) (z_m_figure : List Int32) (z_m_cargo : List Int32) (z_m_load : List Int32) (z_m_ships : Int32) (z_m_inn : Int32) (z_m_coughs : Int32) (z_m_day : Int32), k z_m_there z_m_used z_m_hidden z_m_kind z_m_figure z_m_cargo z_m_load z_m_ships z_m_inn z_m_coughs z_m_day = some out → ∀ (H : Heap) (locs : List Loc), St G A s.heap H locs (wT G ad adt adb ade adm adn adk adp adr refusals tcells lcells z_m_there z_m_used z_m_hidden z_m_kind z_m_figure z_m_cargo z_m_load n_there n_used n_hidden n_kind n_figure n_cargo n_load k_there k_used k_hidden k_kind k_figure k_cargo k_load isKept tlen llen z_m_ships z_m_inn z_m_coughs z_m_day n_ships n_inn n_coughs n_day k_ships k_inn k_coughs k_day held perm hist) → ∀ ls : Array Slot, lv_has ls 6 [] → W p l e (rmOf 6 138) s m args below meth c H locs 0 0 (MQ below (Qof G A (some (.int out.2.2.2.2.2.2.2.2.2.2.2.2)) (wT G ad adt adb ade adm adn adk adp adr out.1 tcells lcells out.2.1 out.2.2.1 out.2.2.2.1 out.2.2.2.2.1 out.2.2.2.2.2.1 out.2.2.2.2.2.2.1 out.2.2.2.2.2.2.2.1 n_there n_used n_hidden n_kind n_figure n_cargo n_load k_there k_used k_hidden k_kind k_figure k_cargo k_load isKept tlen llen out.2.2.2.2.2.2.2.2.1 out.2.2.2.2.2.2.2.2.2.1 out.2.2.2.2.2.2.2.2.2.2.1 out.2.2.2.2.2.2.2.2.2.2.2.1 n_ships n_inn n_coughs n_day k_ships k_inn k_coughs k_day held perm hist)) args s 0 0 A) (F0 m 124 ls [])) → W p l e (rmOf 6 138) s m args below meth c H locs 0 0 (MQ below (Qof G A (some (.int out.2.2.2.2.2.2.2.2.2.2.2.2)) (wT G ad adt adb ade adm adn adk adp adr out.1 tcells lcells out.2.1 out.2.2.1 out.2.2.2.1 out.2.2.2.2.1 out.2.2.2.2.2.1 out.2.2.2.2.2.2.1 out.2.2.2.2.2.2.2.1 n_there n_used n_hidden n_kind n_figure n_cargo n_load k_there k_used k_hidden k_kind k_figure k_cargo k_load isKept tlen llen out.2.2.2.2.2.2.2.2.1 out.2.2.2.2.2.2.2.2.2.1 out.2.2.2.2.2.2.2.2.2.2.1 out.2.2.2.2.2.2.2.2.2.2.2.1 n_ships n_inn n_coughs n_day k_ships k_inn k_coughs k_day held perm hist)) args s 0 0 A) (F0 m 49 ls []) := by
  obtain ⟨hx, hb, hml, hown, hts, hK, hret, hlk⟩ := id C
  intro n
  induction n with
  | zero => intro x5 m_there m_used m_hidden m_kind m_figure m_cargo m_load m_ships m_inn m_coughs m_day hf; cases hf
  | succ n ih =>
    intro x5 m_there m_used m_hidden m_kind m_figure m_cargo m_load m_ships m_inn m_coughs m_day hf H locs hs ls hl hk
    rw [X4_two_L49] at hf
    refine lv_iload hx hb (dk hX4_two_0 26 rfl) (lv_at hl 4 rfl) ?_
    refine lv_iconst (v := (4 : Int32)) hx hb (dk hX4_two_0 27 rfl) (by decide) ?_
    refine lv_icmp_ge (tgt := 124) hx hb (dk hX4_two_0 28 rfl) (by decide) (fun hc => ?_) (fun hc => ?_)
    · replace hf := ip hf hc
      exact hk _ _ _ _ _ _ _ _ _ _ _ hf _ _ hs _ (lv_sub hl [] rfl)
    · replace hf := in_ hf hc
      refine lv_aload_n hx hb (dk hX4_two_0 29 rfl) rfl (lv_at hl 0 rfl) ?_
      refine lv_iconst (v := (2 : Int32)) hx hb (dk hX4_two_0 30 rfl) (by decide) ?_
      refine lv_iload_n hx hb (dk hX4_two_0 31 rfl) rfl (lv_at hl 1 rfl) ?_
      refine lv_iload_n hx hb (dk hX4_two_0 32 rfl) rfl (lv_at hl 2 rfl) ?_
      refine lv_iload_n hx hb (dk hX4_two_0 33 rfl) rfl (lv_at hl 3 rfl) ?_
      refine lv_iload hx hb (dk hX4_two_0 34 rfl) (lv_at hl 4 rfl) ?_
      obtain ⟨u_11, e_12, hf⟩ := Option.bind_eq_some_iff.mp hf
      refine Ct.V (As := [.int (2 : Int32), .int x1, .int x2, .int x3, .int x5]) (rest := []) (st1 := [.int u_11.2.2.2.2.2.2.2.2.2.2.2]) (w1 := (wT G ad adt adb ade adm adn adk adp adr refusals tcells lcells u_11.1 u_11.2.1 u_11.2.2.1 u_11.2.2.2.1 u_11.2.2.2.2.1 u_11.2.2.2.2.2.1 u_11.2.2.2.2.2.2.1 n_there n_used n_hidden n_kind n_figure n_cargo n_load k_there k_used k_hidden k_kind k_figure k_cargo k_load isKept tlen llen u_11.2.2.2.2.2.2.2.1 u_11.2.2.2.2.2.2.2.2.1 u_11.2.2.2.2.2.2.2.2.2.1 u_11.2.2.2.2.2.2.2.2.2.2.1 n_ships n_inn n_coughs n_day k_ships k_inn k_coughs k_day held perm hist)) C hs (c_X4_loss e_12) tw_574 tw_576 tw_18 tw_79 tw_577 nq_X4_loss (by decide) 0 4 rfl rfl rfl rfl hl.1 rfl (Nat.le_of_ble_eq_true rfl) (dk hX4_two_0 35 rfl) ⟨Nat.zero_le _, Nat.zero_le _⟩ rfl (fun H locs hs => ?_)
      refine lv_aload_n hx hb (dk hX4_two_0 36 rfl) rfl (lv_at hl 0 rfl) ?_
      refine lv_iconst (v := (2 : Int32)) hx hb (dk hX4_two_0 37 rfl) (by decide) ?_
      refine lv_iload_n hx hb (dk hX4_two_0 38 rfl) rfl (lv_at hl 1 rfl) ?_
      refine lv_iload_n hx hb (dk hX4_two_0 39 rfl) rfl (lv_at hl 2 rfl) ?_
      refine lv_iload_n hx hb (dk hX4_two_1 0 rfl) rfl (lv_at hl 3 rfl) ?_
      refine lv_iload hx hb (dk hX4_two_1 1 rfl) (lv_at hl 4 rfl) ?_
      refine lv_iconst (v := (2 : Int32)) hx hb (dk hX4_two_1 2 rfl) (by decide) ?_
      refine lv_ixor hx hb (dk hX4_two_1 3 rfl) ?_
      obtain ⟨u_13, e_14, hf⟩ := Option.bind_eq_some_iff.mp hf
      refine Ct.V (As := [.int (2 : Int32), .int x1, .int x2, .int x3, .int (x5 ^^^ (2 : Int32))]) (rest := [.int u_11.2.2.2.2.2.2.2.2.2.2.2]) (st1 := [.int u_13.2.2.2.2.2.2.2.2.2.2.2, .int u_11.2.2.2.2.2.2.2.2.2.2.2]) (w1 := (wT G ad adt adb ade adm adn adk adp adr refusals tcells lcells u_13.1 u_13.2.1 u_13.2.2.1 u_13.2.2.2.1 u_13.2.2.2.2.1 u_13.2.2.2.2.2.1 u_13.2.2.2.2.2.2.1 n_there n_used n_hidden n_kind n_figure n_cargo n_load k_there k_used k_hidden k_kind k_figure k_cargo k_load isKept tlen llen u_13.2.2.2.2.2.2.2.1 u_13.2.2.2.2.2.2.2.2.1 u_13.2.2.2.2.2.2.2.2.2.1 u_13.2.2.2.2.2.2.2.2.2.2.1 n_ships n_inn n_coughs n_day k_ships k_inn k_coughs k_day held perm hist)) C hs (c_X4_loss e_14) tw_574 tw_576 tw_18 tw_79 tw_577 nq_X4_loss (by decide) 0 4 rfl rfl rfl rfl hl.1 rfl (Nat.le_of_ble_eq_true rfl) (dk hX4_two_1 4 rfl) ⟨Nat.zero_le _, Nat.zero_le _⟩ rfl (fun H locs hs => ?_)
      refine lv_icmp_gt (tgt := 118) hx hb (dk hX4_two_1 5 rfl) (by decide) (fun hc => ?_) (fun hc => ?_)
      · replace hf := ip hf hc
        refine lv_iinc (v := (x5 + (1 : Int32))) (lv' := [(5, .int (x5 + (1 : Int32))), (0, .ref (ad 0)), (1, .int x1), (2, .int x2), (3, .int x3)]) hx hb (dk hX4_two_1 33 rfl) hl (k := 4) rfl (by first | rfl | decide) (by decide) rfl (fun ls hl => ?_)
        refine lv_goto (tgt := 49) hx hb (dk hX4_two_1 34 rfl) (by decide) ?_
        exact ih _ _ _ _ _ _ _ _ _ _ _ _ hf _ _ hs _ (lv_sub hl [1, 2, 3, 4, 0] rfl) hk
      · replace hf := in_ hf hc
        refine lv_aload_n hx hb (dk hX4_two_1 6 rfl) rfl (lv_at hl 0 rfl) ?_
        refine lv_iconst (v := (1 : Int32)) hx hb (dk hX4_two_1 7 rfl) (by decide) ?_
        refine lv_iload_n hx hb (dk hX4_two_1 8 rfl) rfl (lv_at hl 1 rfl) ?_
        refine lv_iload_n hx hb (dk hX4_two_1 9 rfl) rfl (lv_at hl 2 rfl) ?_
        refine lv_iload_n hx hb (dk hX4_two_1 10 rfl) rfl (lv_at hl 3 rfl) ?_
        refine lv_iload hx hb (dk hX4_two_1 11 rfl) (lv_at hl 4 rfl) ?_
        obtain ⟨u_15, e_16, hf⟩ := Option.bind_eq_some_iff.mp hf
        refine Ct.V (As := [.int (1 : Int32), .int x1, .int x2, .int x3, .int x5]) (rest := []) (st1 := [.int u_15.2.2.2.2.2.2.2.2.2.2.2]) (w1 := (wT G ad adt adb ade adm adn adk adp adr refusals tcells lcells u_15.1 u_15.2.1 u_15.2.2.1 u_15.2.2.2.1 u_15.2.2.2.2.1 u_15.2.2.2.2.2.1 u_15.2.2.2.2.2.2.1 n_there n_used n_hidden n_kind n_figure n_cargo n_load k_there k_used k_hidden k_kind k_figure k_cargo k_load isKept tlen llen u_15.2.2.2.2.2.2.2.1 u_15.2.2.2.2.2.2.2.2.1 u_15.2.2.2.2.2.2.2.2.2.1 u_15.2.2.2.2.2.2.2.2.2.2.1 n_ships n_inn n_coughs n_day k_ships k_inn k_coughs k_day held perm hist)) C hs (c_X4_loss e_16) tw_574 tw_576 tw_18 tw_79 tw_577 nq_X4_loss (by decide) 0 4 rfl rfl rfl rfl hl.1 rfl (Nat.le_of_ble_eq_true rfl) (dk hX4_two_1 12 rfl) ⟨Nat.zero_le _, Nat.zero_le _⟩ rfl (fun H locs hs => ?_)
        refine lv_aload_n hx hb (dk hX4_two_1 13 rfl) rfl (lv_at hl 0 rfl) ?_
        refine lv_iconst (v := (1 : Int32)) hx hb (dk hX4_two_1 14 rfl) (by decide) ?_
        refine lv_iload_n hx hb (dk hX4_two_1 15 rfl) rfl (lv_at hl 1 rfl) ?_
        refine lv_iload_n hx hb (dk hX4_two_1 16 rfl) rfl (lv_at hl 2 rfl) ?_
        refine lv_iload_n hx hb (dk hX4_two_1 17 rfl) rfl (lv_at hl 3 rfl) ?_
        refine lv_iload hx hb (dk hX4_two_1 18 rfl) (lv_at hl 4 rfl) ?_
        refine lv_iconst (v := (1 : Int32)) hx hb (dk hX4_two_1 19 rfl) (by decide) ?_
        refine lv_ixor hx hb (dk hX4_two_1 20 rfl) ?_
        obtain ⟨u_17, e_18, hf⟩ := Option.bind_eq_some_iff.mp hf
        refine Ct.V (As := [.int (1 : Int32), .int x1, .int x2, .int x3, .int (x5 ^^^ (1 : Int32))]) (rest := [.int u_15.2.2.2.2.2.2.2.2.2.2.2]) (st1 := [.int u_17.2.2.2.2.2.2.2.2.2.2.2, .int u_15.2.2.2.2.2.2.2.2.2.2.2]) (w1 := (wT G ad adt adb ade adm adn adk adp adr refusals tcells lcells u_17.1 u_17.2.1 u_17.2.2.1 u_17.2.2.2.1 u_17.2.2.2.2.1 u_17.2.2.2.2.2.1 u_17.2.2.2.2.2.2.1 n_there n_used n_hidden n_kind n_figure n_cargo n_load k_there k_used k_hidden k_kind k_figure k_cargo k_load isKept tlen llen u_17.2.2.2.2.2.2.2.1 u_17.2.2.2.2.2.2.2.2.1 u_17.2.2.2.2.2.2.2.2.2.1 u_17.2.2.2.2.2.2.2.2.2.2.1 n_ships n_inn n_coughs n_day k_ships k_inn k_coughs k_day held perm hist)) C hs (c_X4_loss e_18) tw_574 tw_576 tw_18 tw_79 tw_577 nq_X4_loss (by decide) 0 4 rfl rfl rfl rfl hl.1 rfl (Nat.le_of_ble_eq_true rfl) (dk hX4_two_1 21 rfl) ⟨Nat.zero_le _, Nat.zero_le _⟩ rfl (fun H locs hs => ?_)
        refine lv_icmp_gt (tgt := 118) hx hb (dk hX4_two_1 22 rfl) (by decide) (fun hc => ?_) (fun hc => ?_)
        · replace hf := ip hf hc
          refine lv_iinc (v := (x5 + (1 : Int32))) (lv' := [(5, .int (x5 + (1 : Int32))), (0, .ref (ad 0)), (1, .int x1), (2, .int x2), (3, .int x3)]) hx hb (dk hX4_two_1 33 rfl) hl (k := 4) rfl (by first | rfl | decide) (by decide) rfl (fun ls hl => ?_)
          refine lv_goto (tgt := 49) hx hb (dk hX4_two_1 34 rfl) (by decide) ?_
          exact ih _ _ _ _ _ _ _ _ _ _ _ _ hf _ _ hs _ (lv_sub hl [1, 2, 3, 4, 0] rfl) hk
        · replace hf := in_ hf hc
          refine lv_iload hx hb (dk hX4_two_1 23 rfl) (lv_at hl 4 rfl) ?_
          refine lv_iconst (v := (1 : Int32)) hx hb (dk hX4_two_1 24 rfl) (by decide) ?_
          refine lv_ishr hx hb (dk hX4_two_1 25 rfl) ?_
          refine lv_bipush (v := (10 : Int32)) hx hb (dk hX4_two_1 26 rfl) (by decide) ?_
          refine lv_imul hx hb (dk hX4_two_1 27 rfl) ?_
          refine lv_iload hx hb (dk hX4_two_1 28 rfl) (lv_at hl 4 rfl) ?_
          refine lv_iconst (v := (1 : Int32)) hx hb (dk hX4_two_1 29 rfl) (by decide) ?_
          refine lv_iand hx hb (dk hX4_two_1 30 rfl) ?_
          refine lv_iadd hx hb (dk hX4_two_1 31 rfl) ?_
          cases hf
          exact ri C hs (dk hX4_two_1 32 rfl)
set_option maxRecDepth 100000 in
set_option maxHeartbeats 4000000 in
theorem c_X4_two {l : Launch} {G : Gx} {ad adt adb ade adm adn adk adp : Nat → Nat} {adr : Nat → Nat → Nat} {refusals tcells lcells m_there m_used m_hidden m_kind m_figure m_cargo m_load n_there n_used n_hidden n_kind n_figure n_cargo n_load k_there k_used k_hidden k_kind k_figure k_cargo k_load : List Int32} {isKept tlen llen m_ships m_inn m_coughs m_day n_ships n_inn n_coughs n_day k_ships k_inn k_coughs k_day held : Int32} {perm : Nat → Nat} {hist : Nat → Hs} {p0 : Int32} {p1 : Int32} {p2 : Int32} {out : List Int32 × List Int32 × List Int32 × List Int32 × List Int32 × List Int32 × List Int32 × List Int32 × Int32 × Int32 × Int32 × Int32 × Int32} (hf : X4_two refusals m_there m_used m_hidden m_kind m_figure m_cargo m_load n_there n_used n_hidden n_kind n_figure n_cargo n_load m_ships m_inn m_coughs m_day n_ships n_inn n_coughs n_day p0 p1 p2 = some out) : Ct l G yX4_two cX4_two 6 (some .int) 6 138 [.ref (ad 0), .int p0, .int p1, .int p2] (wT G ad adt adb ade adm adn adk adp adr refusals tcells lcells m_there m_used m_hidden m_kind m_figure m_cargo m_load n_there n_used n_hidden n_kind n_figure n_cargo n_load k_there k_used k_hidden k_kind k_figure k_cargo k_load isKept tlen llen m_ships m_inn m_coughs m_day n_ships n_inn n_coughs n_day k_ships k_inn k_coughs k_day held perm hist) (some (.int out.2.2.2.2.2.2.2.2.2.2.2.2)) (wT G ad adt adb ade adm adn adk adp adr out.1 tcells lcells out.2.1 out.2.2.1 out.2.2.2.1 out.2.2.2.2.1 out.2.2.2.2.2.1 out.2.2.2.2.2.2.1 out.2.2.2.2.2.2.2.1 n_there n_used n_hidden n_kind n_figure n_cargo n_load k_there k_used k_hidden k_kind k_figure k_cargo k_load isKept tlen llen out.2.2.2.2.2.2.2.2.1 out.2.2.2.2.2.2.2.2.2.1 out.2.2.2.2.2.2.2.2.2.2.1 out.2.2.2.2.2.2.2.2.2.2.2.1 n_ships n_inn n_coughs n_day k_ships k_inn k_coughs k_day held perm hist) := by
  refine Ct.intro RX4 rfl (plainFor_of_name (by decide)) (Nat.le_of_ble_eq_true rfl) rfl ?_
  intro p e s m args below meth c A C H locs hs ls hl
  obtain ⟨hx, hb, hml, hown, hts, hK, hret, hlk⟩ := id C
  have hl : lv_has ls 6 [(0, .ref (ad 0)), (1, .int p0), (2, .int p1), (3, .int p2)] := hl
  unfold X4_two at hf
  refine lv_iload_n hx hb (dk hX4_two_0 0 rfl) rfl (lv_at hl 1 rfl) ?_
  obtain ⟨u_1, e_2, hf⟩ := Option.bind_eq_some_iff.mp hf
  refine Ct.S (As := [.int p0]) (rest := []) (st1 := [.int u_1]) (w1 := (wT G ad adt adb ade adm adn adk adp adr refusals tcells lcells m_there m_used m_hidden m_kind m_figure m_cargo m_load n_there n_used n_hidden n_kind n_figure n_cargo n_load k_there k_used k_hidden k_kind k_figure k_cargo k_load isKept tlen llen m_ships m_inn m_coughs m_day n_ships n_inn n_coughs n_day k_ships k_inn k_coughs k_day held perm hist)) C hs (c_X4_isGood e_2) tw_387 tw_283 tw_79 tw_284 nq_X4_isGood (by decide) rfl hl.1 rfl (Nat.le_of_ble_eq_true rfl) (dk hX4_two_0 1 rfl) ⟨Nat.zero_le _, Nat.zero_le _⟩ rfl (fun H locs hs => ?_)
  refine lv_if_eq (tgt := 19) hx hb (dk hX4_two_0 2 rfl) (by decide) (fun hc => ?_) (fun hc => ?_)
  · replace hf := ip hf hc
    refine lv_aload_n hx hb (dk hX4_two_0 9 rfl) rfl (lv_at hl 0 rfl) ?_
    refine lv_iconst (v := (-1 : Int32)) hx hb (dk hX4_two_0 10 rfl) (by decide) ?_
    obtain ⟨u_3, e_4, hf⟩ := Option.bind_eq_some_iff.mp hf
    refine Ct.V (As := [.int (-1 : Int32)]) (rest := []) (st1 := [.int u_3.2]) (w1 := (wT G ad adt adb ade adm adn adk adp adr u_3.1 tcells lcells m_there m_used m_hidden m_kind m_figure m_cargo m_load n_there n_used n_hidden n_kind n_figure n_cargo n_load k_there k_used k_hidden k_kind k_figure k_cargo k_load isKept tlen llen m_ships m_inn m_coughs m_day n_ships n_inn n_coughs n_day k_ships k_inn k_coughs k_day held perm hist)) C hs (c_X4_refuse e_4) tw_226 tw_228 tw_0 tw_79 tw_229 nq_X4_refuse (by decide) 0 4 rfl rfl rfl rfl hl.1 rfl (Nat.le_of_ble_eq_true rfl) (dk hX4_two_0 11 rfl) ⟨Nat.zero_le _, Nat.zero_le _⟩ rfl (fun H locs hs => ?_)
    cases hf
    exact ri C hs (dk hX4_two_0 12 rfl)
  · replace hf := in_ hf hc
    refine lv_iload_n hx hb (dk hX4_two_0 3 rfl) rfl (lv_at hl 2 rfl) ?_
    obtain ⟨u_5, e_6, hf⟩ := Option.bind_eq_some_iff.mp hf
    refine Ct.S (As := [.int p1]) (rest := []) (st1 := [.int u_5]) (w1 := (wT G ad adt adb ade adm adn adk adp adr refusals tcells lcells m_there m_used m_hidden m_kind m_figure m_cargo m_load n_there n_used n_hidden n_kind n_figure n_cargo n_load k_there k_used k_hidden k_kind k_figure k_cargo k_load isKept tlen llen m_ships m_inn m_coughs m_day n_ships n_inn n_coughs n_day k_ships k_inn k_coughs k_day held perm hist)) C hs (c_X4_isGood e_6) tw_387 tw_283 tw_79 tw_284 nq_X4_isGood (by decide) rfl hl.1 rfl (Nat.le_of_ble_eq_true rfl) (dk hX4_two_0 4 rfl) ⟨Nat.zero_le _, Nat.zero_le _⟩ rfl (fun H locs hs => ?_)
    refine lv_if_eq (tgt := 19) hx hb (dk hX4_two_0 5 rfl) (by decide) (fun hc => ?_) (fun hc => ?_)
    · replace hf := ip hf hc
      refine lv_aload_n hx hb (dk hX4_two_0 9 rfl) rfl (lv_at hl 0 rfl) ?_
      refine lv_iconst (v := (-1 : Int32)) hx hb (dk hX4_two_0 10 rfl) (by decide) ?_
      obtain ⟨u_7, e_8, hf⟩ := Option.bind_eq_some_iff.mp hf
      refine Ct.V (As := [.int (-1 : Int32)]) (rest := []) (st1 := [.int u_7.2]) (w1 := (wT G ad adt adb ade adm adn adk adp adr u_7.1 tcells lcells m_there m_used m_hidden m_kind m_figure m_cargo m_load n_there n_used n_hidden n_kind n_figure n_cargo n_load k_there k_used k_hidden k_kind k_figure k_cargo k_load isKept tlen llen m_ships m_inn m_coughs m_day n_ships n_inn n_coughs n_day k_ships k_inn k_coughs k_day held perm hist)) C hs (c_X4_refuse e_8) tw_226 tw_228 tw_0 tw_79 tw_229 nq_X4_refuse (by decide) 0 4 rfl rfl rfl rfl hl.1 rfl (Nat.le_of_ble_eq_true rfl) (dk hX4_two_0 11 rfl) ⟨Nat.zero_le _, Nat.zero_le _⟩ rfl (fun H locs hs => ?_)
      cases hf
      exact ri C hs (dk hX4_two_0 12 rfl)
    · replace hf := in_ hf hc
      refine lv_iload_n hx hb (dk hX4_two_0 6 rfl) rfl (lv_at hl 1 rfl) ?_
      refine lv_iload_n hx hb (dk hX4_two_0 7 rfl) rfl (lv_at hl 2 rfl) ?_
      refine lv_icmp_ne (tgt := 25) hx hb (dk hX4_two_0 8 rfl) (by decide) (fun hc => ?_) (fun hc => ?_)
      · replace hf := in_ hf hc
        refine lv_iload_n hx hb (dk hX4_two_0 13 rfl) rfl (lv_at hl 3 rfl) ?_
        refine lv_iconst (v := (0 : Int32)) hx hb (dk hX4_two_0 14 rfl) (by decide) ?_
        refine lv_bipush (v := (60 : Int32)) hx hb (dk hX4_two_0 15 rfl) (by decide) ?_
        obtain ⟨u_9, e_10, hf⟩ := Option.bind_eq_some_iff.mp hf
        refine Ct.S (As := [.int p2, .int (0 : Int32), .int (60 : Int32)]) (rest := []) (st1 := [.int u_9]) (w1 := (wT G ad adt adb ade adm adn adk adp adr refusals tcells lcells m_there m_used m_hidden m_kind m_figure m_cargo m_load n_there n_used n_hidden n_kind n_figure n_cargo n_load k_there k_used k_hidden k_kind k_figure k_cargo k_load isKept tlen llen m_ships m_inn m_coughs m_day n_ships n_inn n_coughs n_day k_ships k_inn k_coughs k_day held perm hist)) C hs (c_X4_misfit e_10) tw_405 tw_305 tw_79 tw_306 nq_X4_misfit (by decide) rfl hl.1 rfl (Nat.le_of_ble_eq_true rfl) (dk hX4_two_0 16 rfl) ⟨Nat.zero_le _, Nat.zero_le _⟩ rfl (fun H locs hs => ?_)
        refine lv_istore (lv' := [(4, .int u_9), (0, .ref (ad 0)), (1, .int p0), (2, .int p1), (3, .int p2)]) hx hb (dk hX4_two_0 17 rfl) hl (by decide) rfl (fun ls hl => ?_)
        refine lv_iload hx hb (dk hX4_two_0 18 rfl) (lv_at hl 0 rfl) ?_
        refine lv_if_eq (tgt := 46) hx hb (dk hX4_two_0 19 rfl) (by decide) (fun hc => ?_) (fun hc => ?_)
        · replace hf := ip hf hc
          refine lv_iconst (v := (0 : Int32)) hx hb (dk hX4_two_0 24 rfl) (by decide) ?_
          refine lv_istore (lv' := [(5, .int (0 : Int32)), (4, .int u_9), (0, .ref (ad 0)), (1, .int p0), (2, .int p1), (3, .int p2)]) hx hb (dk hX4_two_0 25 rfl) hl (by decide) rfl (fun ls hl => ?_)
          refine l_X4_two_L49 C 1000 _ _ _ _ _ _ _ _ _ _ _ _ hf _ _ hs _ (lv_sub hl [2, 3, 4, 5, 0] rfl) (fun m_there_19 m_used_20 m_hidden_21 m_kind_22 m_figure_23 m_cargo_24 m_load_25 m_ships_26 m_inn_27 m_coughs_28 m_day_29 hf H locs hs ls hl => ?_)
          refine lv_bipush (v := (-9 : Int32)) hx hb (dk hX4_two_1 35 rfl) (by decide) ?_
          cases hf
          exact ri C hs (dk hX4_two_1 36 rfl)
        · replace hf := in_ hf hc
          refine lv_aload_n hx hb (dk hX4_two_0 20 rfl) rfl (lv_at hl 1 rfl) ?_
          refine lv_iload hx hb (dk hX4_two_0 21 rfl) (lv_at hl 0 rfl) ?_
          obtain ⟨u_30, e_31, hf⟩ := Option.bind_eq_some_iff.mp hf
          refine Ct.V (As := [.int u_9]) (rest := []) (st1 := [.int u_30.2]) (w1 := (wT G ad adt adb ade adm adn adk adp adr u_30.1 tcells lcells m_there m_used m_hidden m_kind m_figure m_cargo m_load n_there n_used n_hidden n_kind n_figure n_cargo n_load k_there k_used k_hidden k_kind k_figure k_cargo k_load isKept tlen llen m_ships m_inn m_coughs m_day n_ships n_inn n_coughs n_day k_ships k_inn k_coughs k_day held perm hist)) C hs (c_X4_refuse e_31) tw_226 tw_228 tw_0 tw_79 tw_229 nq_X4_refuse (by decide) 0 4 rfl rfl rfl rfl hl.1 rfl (Nat.le_of_ble_eq_true rfl) (dk hX4_two_0 22 rfl) ⟨Nat.zero_le _, Nat.zero_le _⟩ rfl (fun H locs hs => ?_)
          cases hf
          exact ri C hs (dk hX4_two_0 23 rfl)
      · replace hf := ip hf hc
        refine lv_aload_n hx hb (dk hX4_two_0 9 rfl) rfl (lv_at hl 0 rfl) ?_
        refine lv_iconst (v := (-1 : Int32)) hx hb (dk hX4_two_0 10 rfl) (by decide) ?_
        obtain ⟨u_32, e_33, hf⟩ := Option.bind_eq_some_iff.mp hf
        refine Ct.V (As := [.int (-1 : Int32)]) (rest := []) (st1 := [.int u_32.2]) (w1 := (wT G ad adt adb ade adm adn adk adp adr u_32.1 tcells lcells m_there m_used m_hidden m_kind m_figure m_cargo m_load n_there n_used n_hidden n_kind n_figure n_cargo n_load k_there k_used k_hidden k_kind k_figure k_cargo k_load isKept tlen llen m_ships m_inn m_coughs m_day n_ships n_inn n_coughs n_day k_ships k_inn k_coughs k_day held perm hist)) C hs (c_X4_refuse e_33) tw_226 tw_228 tw_0 tw_79 tw_229 nq_X4_refuse (by decide) 0 4 rfl rfl rfl rfl hl.1 rfl (Nat.le_of_ble_eq_true rfl) (dk hX4_two_0 11 rfl) ⟨Nat.zero_le _, Nat.zero_le _⟩ rfl (fun H locs hs => ?_)
        cases hf
        exact ri C hs (dk hX4_two_0 12 rfl)

def X4_refuseLong (refusals : List Int32) (p0 : Int32) : Option (List Int32 × Int64) :=
  (X4_refuse refusals p0).bind fun u_1 =>
  some (u_1.1, ((4000000000000000000 : Int64) - (Int32.toInt64 u_1.2)))
set_option maxRecDepth 100000 in
set_option maxHeartbeats 4000000 in
theorem c_X4_refuseLong {l : Launch} {G : Gx} {ad adt adb ade adm adn adk adp : Nat → Nat} {adr : Nat → Nat → Nat} {refusals tcells lcells m_there m_used m_hidden m_kind m_figure m_cargo m_load n_there n_used n_hidden n_kind n_figure n_cargo n_load k_there k_used k_hidden k_kind k_figure k_cargo k_load : List Int32} {isKept tlen llen m_ships m_inn m_coughs m_day n_ships n_inn n_coughs n_day k_ships k_inn k_coughs k_day held : Int32} {perm : Nat → Nat} {hist : Nat → Hs} {p0 : Int32} {out : List Int32 × Int64} (hf : X4_refuseLong refusals p0 = some out) : Ct l G yX4_refuseLong cX4_refuseLong 2 (some .long) 1 22 [.ref (ad 0), .int p0] (wT G ad adt adb ade adm adn adk adp adr refusals tcells lcells m_there m_used m_hidden m_kind m_figure m_cargo m_load n_there n_used n_hidden n_kind n_figure n_cargo n_load k_there k_used k_hidden k_kind k_figure k_cargo k_load isKept tlen llen m_ships m_inn m_coughs m_day n_ships n_inn n_coughs n_day k_ships k_inn k_coughs k_day held perm hist) (some (.long out.2)) (wT G ad adt adb ade adm adn adk adp adr out.1 tcells lcells m_there m_used m_hidden m_kind m_figure m_cargo m_load n_there n_used n_hidden n_kind n_figure n_cargo n_load k_there k_used k_hidden k_kind k_figure k_cargo k_load isKept tlen llen m_ships m_inn m_coughs m_day n_ships n_inn n_coughs n_day k_ships k_inn k_coughs k_day held perm hist) := by
  refine Ct.intro RX4 rfl (plainFor_of_name (by decide)) (Nat.le_of_ble_eq_true rfl) rfl ?_
  intro p e s m args below meth c A C H locs hs ls hl
  obtain ⟨hx, hb, hml, hown, hts, hK, hret, hlk⟩ := id C
  have hl : lv_has ls 2 [(0, .ref (ad 0)), (1, .int p0)] := hl
  unfold X4_refuseLong at hf
  refine lv_ldc2 (v := (4000000000000000000 : Int64)) hx hb hown (hts _ tw_586) (dk hX4_refuseLong_0 0 rfl) ?_
  refine lv_aload_n hx hb (dk hX4_refuseLong_0 1 rfl) rfl (lv_at hl 0 rfl) ?_
  refine lv_iload_n hx hb (dk hX4_refuseLong_0 2 rfl) rfl (lv_at hl 1 rfl) ?_
  obtain ⟨u_1, e_2, hf⟩ := Option.bind_eq_some_iff.mp hf
  refine Ct.V (As := [.int p0]) (rest := [.long (4000000000000000000 : Int64)]) (st1 := [.int u_1.2, .long (4000000000000000000 : Int64)]) (w1 := (wT G ad adt adb ade adm adn adk adp adr u_1.1 tcells lcells m_there m_used m_hidden m_kind m_figure m_cargo m_load n_there n_used n_hidden n_kind n_figure n_cargo n_load k_there k_used k_hidden k_kind k_figure k_cargo k_load isKept tlen llen m_ships m_inn m_coughs m_day n_ships n_inn n_coughs n_day k_ships k_inn k_coughs k_day held perm hist)) C hs (c_X4_refuse e_2) tw_226 tw_228 tw_0 tw_79 tw_229 nq_X4_refuse (by decide) 0 4 rfl rfl rfl rfl hl.1 rfl (Nat.le_of_ble_eq_true rfl) (dk hX4_refuseLong_0 3 rfl) ⟨Nat.zero_le _, Nat.zero_le _⟩ rfl (fun H locs hs => ?_)
  refine lv_i2l (v := (Int32.toInt64 u_1.2)) hx hb (dk hX4_refuseLong_0 4 rfl) rfl ?_
  refine lv_lsub hx hb (dk hX4_refuseLong_0 5 rfl) ?_
  cases hf
  exact rl C hs (dk hX4_refuseLong_0 6 rfl)

def X4_power_L5 (k : Int64 → Option (Int64)) (x0 : Int32) (x1 : Int32) : Nat → Int64 → Int32 → Option (Int64)
  | 0, _, _ => none
  | n + 1, x2, x4 =>
  if x1 ≤ x4 then
  k x2
  else
  X4_power_L5 k x0 x1 n (x2 * (Int32.toInt64 x0)) (x4 + (1 : Int32))
def X4_power (p0 : Int32) (p1 : Int32) : Option (Int64) :=
  X4_power_L5 (fun y2_1 =>
  some y2_1) p0 p1 1000 (1 : Int64) (0 : Int32)
set_option maxRecDepth 100000 in
set_option maxHeartbeats 4000000 in
theorem l_X4_power_L5 {l : Launch} {p : Program} {e : Env} {s : State} {m : MethodId} {args : Array Value} {below : List Frame} {meth : Method} {c : Code} {A : Nat → Prop} {G : Gx} {w : va_W} {x0 : Int32} {x1 : Int32} {k : Int64 → Option (Int64)} {out : Int64} (C : Cx p s m args meth c cX4_power RX4 5 (some .long) G) : ∀ (n : Nat) (x2 : Int64) (x4 : Int32), X4_power_L5 k x0 x1 n x2 x4 = some out → ∀ (H : Heap) (locs : List Loc), St G A s.heap H locs w → ∀ ls : Array Slot, lv_has ls 5 [(0, .int x0), (1, .int x1), (2, .long x2), (4, .int x4)] → (∀ (y2 : Int64), k y2 = some out → ∀ (H : Heap) (locs : List Loc), St G A s.heap H locs w → ∀ ls : Array Slot, lv_has ls 5 [(2, .long y2)] → W p l e (rmOf 0 0) s m args below meth c H locs 0 0 (MQ below (Qof G A (some (.long out)) w) args s 0 0 A) (F0 m 22 ls [])) → W p l e (rmOf 0 0) s m args below meth c H locs 0 0 (MQ below (Qof G A (some (.long out)) w) args s 0 0 A) (F0 m 5 ls []) := by
  obtain ⟨hx, hb, hml, hown, hts, hK, hret, hlk⟩ := id C
  intro n
  induction n with
  | zero => intro x2 x4 hf; cases hf
  | succ n ih =>
    intro x2 x4 hf H locs hs ls hl hk
    rw [X4_power_L5] at hf
    refine lv_iload hx hb (dk hX4_power_0 4 rfl) (lv_at hl 3 rfl) ?_
    refine lv_iload_n hx hb (dk hX4_power_0 5 rfl) rfl (lv_at hl 1 rfl) ?_
    refine lv_icmp_ge (tgt := 22) hx hb (dk hX4_power_0 6 rfl) (by decide) (fun hc => ?_) (fun hc => ?_)
    · replace hf := ip hf hc
      exact hk _ hf _ _ hs _ (lv_sub hl [2] rfl)
    · replace hf := in_ hf hc
      refine lv_lload_n hx hb (dk hX4_power_0 7 rfl) rfl (lv_at hl 2 rfl) ?_
      refine lv_iload_n hx hb (dk hX4_power_0 8 rfl) rfl (lv_at hl 0 rfl) ?_
      refine lv_i2l (v := (Int32.toInt64 x0)) hx hb (dk hX4_power_0 9 rfl) rfl ?_
      refine lv_lmul hx hb (dk hX4_power_0 10 rfl) ?_
      refine lv_lstore_n (lv' := [(2, .long (x2 * (Int32.toInt64 x0))), (0, .int x0), (1, .int x1), (4, .int x4)]) hx hb (dk hX4_power_0 11 rfl) rfl hl (by decide) rfl (fun ls hl => ?_)
      refine lv_iinc (v := (x4 + (1 : Int32))) (lv' := [(4, .int (x4 + (1 : Int32))), (2, .long (x2 * (Int32.toInt64 x0))), (0, .int x0), (1, .int x1)]) hx hb (dk hX4_power_0 12 rfl) hl (k := 3) rfl (by first | rfl | decide) (by decide) rfl (fun ls hl => ?_)
      refine lv_goto (tgt := 5) hx hb (dk hX4_power_0 13 rfl) (by decide) ?_
      exact ih _ _ hf _ _ hs _ (lv_sub hl [2, 3, 1, 0] rfl) hk
set_option maxRecDepth 100000 in
set_option maxHeartbeats 4000000 in
theorem c_X4_power {l : Launch} {G : Gx} {w : va_W} {p0 : Int32} {p1 : Int32} {out : Int64} (hf : X4_power p0 p1 = some out) : Ct l G yX4_power cX4_power 5 (some .long) 0 0 [.int p0, .int p1] w (some (.long out)) w := by
  refine Ct.intro RX4 rfl (plainFor_of_name (by decide)) (Nat.le_of_ble_eq_true rfl) rfl ?_
  intro p e s m args below meth c A C H locs hs ls hl
  obtain ⟨hx, hb, hml, hown, hts, hK, hret, hlk⟩ := id C
  have hl : lv_has ls 5 [(0, .int p0), (1, .int p1)] := hl
  unfold X4_power at hf
  refine lv_lconst (v := (1 : Int64)) hx hb (dk hX4_power_0 0 rfl) (by decide) ?_
  refine lv_lstore_n (lv' := [(2, .long (1 : Int64)), (0, .int p0), (1, .int p1)]) hx hb (dk hX4_power_0 1 rfl) rfl hl (by decide) rfl (fun ls hl => ?_)
  refine lv_iconst (v := (0 : Int32)) hx hb (dk hX4_power_0 2 rfl) (by decide) ?_
  refine lv_istore (lv' := [(4, .int (0 : Int32)), (2, .long (1 : Int64)), (0, .int p0), (1, .int p1)]) hx hb (dk hX4_power_0 3 rfl) hl (by decide) rfl (fun ls hl => ?_)
  refine l_X4_power_L5 C 1000 _ _ hf _ _ hs _ (lv_sub hl [2, 3, 1, 0] rfl) (fun y2_1 hf H locs hs ls hl => ?_)
  refine lv_lload_n hx hb (dk hX4_power_0 14 rfl) rfl (lv_at hl 0 rfl) ?_
  cases hf
  exact rl C hs (dk hX4_power_0 15 rfl)

